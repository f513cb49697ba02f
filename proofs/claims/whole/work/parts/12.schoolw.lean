set_option maxHeartbeats 4000000 in
set_option maxRecDepth 100000 in
theorem c_X9_makeTrue (l : Launch) (dC : Nat → ClassId) (dI : Nat → Nat → Nat) (cI cD cR : ClassId) (h a1 a2 a3 a4 a5 n d t al day : Nat) (nd : Nat → Nat) (mk si : Nat → Int32) (kn : Nat → Nat) (mb : Nat → Option Nat) (x : Nat) (mm : Int32) (sz : Nat) (hn : n ≤ 9) (hd : d ≤ 6) (ht : t < 512) (hal : al < 64) (hday : day < 2 ^ 30) (gnd : ∀ i, nd i < 512) (gkn : ∀ j, kn j < 512) (hxx : x < 9) : Met l yX9_makeTrue wsX9_makeTrue ({ frames := 1, cells := 0, slots := 0, locals := 20 }) (pcR dC dI cI cD cR [.ref h, .int (nI x), .int mm] (fun H => H.size = sz ∧ va_P (dC, dI) vwCl ((schW cI cD h a1 a2 a3 a4 a5 n d t al day nd mk si kn mb)) H ∧ va_D (fun _ => True) ((schW cI cD h a1 a2 a3 a4 a5 n d t al day nd mk si kn mb)))) (va_Qv (fun (_ : Unit) => True) (fun (_ : Unit) T9 => va_P (dC, dI) vwCl ((schW cI cD h a1 a2 a3 a4 a5 n d (t ||| 2 ^ x) al day nd (upd mk x mm) (upd si x (nI day)) kn mb)) T9.heap ∧ va_D (va_A ((schW cI cD h a1 a2 a3 a4 a5 n d t al day nd mk si kn mb)) sz) ((schW cI cD h a1 a2 a3 a4 a5 n d (t ||| 2 ^ x) al day nd (upd mk x mm) (upd si x (nI day)) kn mb))) (va_A ((schW cI cD h a1 a2 a3 a4 a5 n d t al day nd mk si kn mb)) sz)) 0 0 (va_A ((schW cI cD h a1 a2 a3 a4 a5 n d t al day nd mk si kn mb)) sz) := by
  refine Met.ofW (cc := cX9_makeTrue) (maxL := 3) (ret := none) (by decide) rfl ?_
  intro p e s m args below meth c s₁ B hml hv
  obtain ⟨rfl, hH0, hCX⟩ := hv
  have hx := B.exec
  have hb := B.bytes
  have hr := B.returns
  have hts := atoms_spec (ws := wsX9_makeTrue) B.pre
  have hown : s.vm.findClass RX9 = some m.cls := findClass_of_methodNamed B.named
  have hlocks := B.notSynchronized
  have hK := hCX.1
  obtain ⟨hsz, hP, hD0⟩ := hH0
  subst hsz
  have hD := hD0.self (sz := s.heap.size)
  generalize hAe : va_A ((schW cI cD h a1 a2 a3 a4 a5 n d t al day nd mk si kn mb)) s.heap.size = A at hD ⊢
  have hA : ∀ q : Nat, s.heap.size ≤ q → A q := fun q h => by rw [← hAe]; exact Or.inr h
  have hS : va_S A s.heap s.heap [] := va_S.rf
  have hP : va_P (dC, dI) vwCl ((schW cI cD h a1 a2 a3 a4 a5 n d t al day nd mk si kn mb)) s.heap := hP
  have hl := lv_entry ([.ref h, .int (nI x), .int mm]) (n := 3) (Nat.le_of_ble_eq_true rfl)
  rw [lg_entry_eq]
  generalize (lg_sl ([.ref h, .int (nI x), .int mm]) ++ List.replicate (3 - (lg_sl ([.ref h, .int (nI x), .int mm])).length) Slot.unset).toArray = ls at hl ⊢
  have hl : lv_has ls 3 [(0, .ref h), (1, .int (nI x)), (2, .int mm)] := hl
  refine lv_iload_n hx hb dX9_makeTrue_0 rfl (lv_at hl 1 rfl) ?_
  refine ho_if_lt0 hx hb dX9_makeTrue_1 (tgt := 52) (by decide) (by omega) ?_
  refine lv_iload_n hx hb dX9_makeTrue_4 rfl (lv_at hl 1 rfl) ?_
  refine lv_aload_n hx hb dX9_makeTrue_5 rfl (lv_at hl 0 rfl) ?_
  refine va_get (D := (dC, dI)) (ci := 9) (v := .ref a2) (C := RX9) (T := TX9) (N := 10) hx hb hts (fun _ h => List.mem_cons_of_mem _ (List.mem_append_right _ h)) hown hK hP 0 rfl rfl 6 (by decide) (hts (.fieldLink RX9 15 "HoldsOnceDenied$School" "makers" "[I") (by decide +kernel)) (fun _ h9 => h9) rfl dX9_makeTrue_6 ?_
  refine va_alen (v := nI 9) hx hb hK hP 2 0 rfl rfl rfl dX9_makeTrue_9 ?_
  refine ho_icmp_ge (tgt := 52) hx hb dX9_makeTrue_10 (by decide) (by omega) (by omega) (fun c_10 => ?_) (fun c_10 => ?_)
  · exfalso; omega
  refine lv_iload_n hx hb dX9_makeTrue_13 rfl (lv_at hl 1 rfl) ?_
  refine lv_aload_n hx hb dX9_makeTrue_14 rfl (lv_at hl 0 rfl) ?_
  refine va_get (D := (dC, dI)) (ci := 9) (v := .ref a3) (C := RX9) (T := TX9) (N := 10) hx hb hts (fun _ h => List.mem_cons_of_mem _ (List.mem_append_right _ h)) hown hK hP 0 rfl rfl 7 (by decide) (hts (.fieldLink RX9 18 "HoldsOnceDenied$School" "since" "[I") (by decide +kernel)) (fun _ h9 => h9) rfl dX9_makeTrue_15 ?_
  refine va_alen (v := nI 9) hx hb hK hP 3 0 rfl rfl rfl dX9_makeTrue_18 ?_
  refine ho_icmp_ge (tgt := 52) hx hb dX9_makeTrue_19 (by decide) (by omega) (by omega) (fun c_19 => ?_) (fun c_19 => ?_)
  · exfalso; omega
  refine lv_aload_n hx hb dX9_makeTrue_22 rfl (lv_at hl 0 rfl) ?_
  refine lv_dup hx hb dX9_makeTrue_23 rfl ?_
  refine va_get (D := (dC, dI)) (ci := 9) (v := .int (nI t)) (C := RX9) (T := TX9) (N := 10) hx hb hts (fun _ h => List.mem_cons_of_mem _ (List.mem_append_right _ h)) hown hK hP 0 rfl rfl 2 (by decide) (hts (.fieldLink RX9 37 "HoldsOnceDenied$School" "truth" "I") (by decide +kernel)) (fun _ h9 => h9) rfl dX9_makeTrue_24 ?_
  refine lv_iload_n hx hb dX9_makeTrue_27 rfl (lv_at hl 1 rfl) ?_
  refine vp_callSi ((va_runSN (As := [.int (nI x)]) (rest := [.int (nI t), .ref h]) ⟨hx, hb, hml, hown, hts⟩ (c_X11_bit l dC dI cI cD cR x (by first | omega | assumption | exact gnd _ | exact gkn _ | exact Nat.lt_trans (gkn _) (by decide) | exact Nat.lt_trans (gnd _) (by decide))) ⟨va_cnB (host := "HoldsOnceDenied") 1 hts gX9_makeTrue_X11_bit_n66 rfl rfl rfl (CX.nm hCX 2 rfl) (hts (.initialized RX11) (by decide +kernel)) (by decide +kernel) ⟨Nat.le_of_ble_eq_true rfl, Nat.le_of_ble_eq_true rfl⟩, (hts (.static yX11_bit) (by decide +kernel)), trivial⟩ (preS_R hCX (trivial)) rfl rfl hl.1 rfl (lv_room (Nat.le_of_ble_eq_true rfl)) dX9_makeTrue_28 ⟨Nat.le_of_ble_eq_true (by first | rfl | decide), Nat.le_of_ble_eq_true (by first | rfl | decide)⟩).run) (fun r_28 hr_28 => ?_)
  subst hr_28
  refine ho_ior hx hb dX9_makeTrue_31 ?_
  refine va_put (D := (dC, dI)) (ci := 9) (v := .int (nI (t ||| (2 ^ x)))) (ty := .int) (C := RX9) (T := TX9) (N := 10) hx hb hts (fun _ h => List.mem_cons_of_mem _ (List.mem_append_right _ h)) tyX9 tyX9_ok nmX9 hown hK hP hD hS 0 rfl rfl 2 (by decide) (hts (.fieldLink RX9 37 "HoldsOnceDenied$School" "truth" "I") (by decide +kernel)) (fun _ h9 => h9) rfl (by decide +kernel) rfl rfl (Nat.le_of_ble_eq_true rfl) dX9_makeTrue_32 (fun H locs hP hD hS => ?_)
  have hP : va_P (dC, dI) vwCl ((schW cI cD h a1 a2 a3 a4 a5 n d (t ||| (2 ^ x)) al day nd mk si kn mb)) H := hP
  have hD : va_D A ((schW cI cD h a1 a2 a3 a4 a5 n d (t ||| (2 ^ x)) al day nd mk si kn mb)) := hD
  refine lv_aload_n hx hb dX9_makeTrue_35 rfl (lv_at hl 0 rfl) ?_
  refine va_get (D := (dC, dI)) (ci := 9) (v := .ref a2) (C := RX9) (T := TX9) (N := 10) hx hb hts (fun _ h => List.mem_cons_of_mem _ (List.mem_append_right _ h)) hown hK hP 0 rfl rfl 6 (by decide) (hts (.fieldLink RX9 15 "HoldsOnceDenied$School" "makers" "[I") (by decide +kernel)) (fun _ h9 => h9) rfl dX9_makeTrue_36 ?_
  refine lv_iload_n hx hb dX9_makeTrue_39 rfl (lv_at hl 1 rfl) ?_
  refine lv_iload_n hx hb dX9_makeTrue_40 rfl (lv_at hl 2 rfl) ?_
  refine ho_iast (g := upd mk x mm) hx hb hK hP hD hS 2 0 rfl rfl (by omega) (by decide) rfl dX9_makeTrue_41 (fun H locs hP hD hS => ?_)
  have hP : va_P (dC, dI) vwCl ((schW cI cD h a1 a2 a3 a4 a5 n d (t ||| (2 ^ x)) al day nd (upd mk x mm) si kn mb)) H := hP
  have hD : va_D A ((schW cI cD h a1 a2 a3 a4 a5 n d (t ||| (2 ^ x)) al day nd (upd mk x mm) si kn mb)) := hD
  refine lv_aload_n hx hb dX9_makeTrue_42 rfl (lv_at hl 0 rfl) ?_
  refine va_get (D := (dC, dI)) (ci := 9) (v := .ref a3) (C := RX9) (T := TX9) (N := 10) hx hb hts (fun _ h => List.mem_cons_of_mem _ (List.mem_append_right _ h)) hown hK hP 0 rfl rfl 7 (by decide) (hts (.fieldLink RX9 18 "HoldsOnceDenied$School" "since" "[I") (by decide +kernel)) (fun _ h9 => h9) rfl dX9_makeTrue_43 ?_
  refine lv_iload_n hx hb dX9_makeTrue_46 rfl (lv_at hl 1 rfl) ?_
  refine lv_aload_n hx hb dX9_makeTrue_47 rfl (lv_at hl 0 rfl) ?_
  refine va_get (D := (dC, dI)) (ci := 9) (v := .int (nI day)) (C := RX9) (T := TX9) (N := 10) hx hb hts (fun _ h => List.mem_cons_of_mem _ (List.mem_append_right _ h)) hown hK hP 0 rfl rfl 4 (by decide) (hts (.fieldLink RX9 43 "HoldsOnceDenied$School" "day" "I") (by decide +kernel)) (fun _ h9 => h9) rfl dX9_makeTrue_48 ?_
  refine ho_iast (g := upd si x (nI day)) hx hb hK hP hD hS 3 0 rfl rfl (by omega) (by decide) rfl dX9_makeTrue_51 (fun H locs hP hD hS => ?_)
  have hP : va_P (dC, dI) vwCl ((schW cI cD h a1 a2 a3 a4 a5 n d (t ||| (2 ^ x)) al day nd (upd mk x mm) (upd si x (nI day)) kn mb)) H := hP
  have hD : va_D A ((schW cI cD h a1 a2 a3 a4 a5 n d (t ||| (2 ^ x)) al day nd (upd mk x mm) (upd si x (nI day)) kn mb)) := hD
  have hW9 : (schW cI cD h a1 a2 a3 a4 a5 n d (t ||| (2 ^ x)) al day nd (upd mk x mm) (upd si x (nI day)) kn mb) = (schW cI cD h a1 a2 a3 a4 a5 n d (t ||| 2 ^ x) al day nd (upd mk x mm) (upd si x (nI day)) kn mb) := rfl
  rw [hW9] at hP hD
  exact W.vret hx hb hr (fun T9 hT9 hW9 => ⟨⟨(), rfl, trivial, by rw [hT9]; exact hP, hD⟩, hS.F hT9⟩) hS.2.2 dX9_makeTrue_52
set_option maxHeartbeats 4000000 in
set_option maxRecDepth 100000 in
theorem c_X9_learn (l : Launch) (dC : Nat → ClassId) (dI : Nat → Nat → Nat) (cI cD cR : ClassId) (h a1 a2 a3 a4 a5 n d t al day : Nat) (nd : Nat → Nat) (mk si : Nat → Int32) (kn : Nat → Nat) (mb : Nat → Option Nat) (x y : Nat) (sz : Nat) (hn : n ≤ 9) (hd : d ≤ 6) (ht : t < 512) (hal : al < 64) (hday : day < 2 ^ 30) (gnd : ∀ i, nd i < 512) (gkn : ∀ j, kn j < 512) (hxx : x < 6) (hyy : y < 9) : Met l yX9_learn wsX9_learn ({ frames := 1, cells := 0, slots := 0, locals := 21 }) (pcR dC dI cI cD cR [.ref h, .int (nI x), .int (nI y)] (fun H => H.size = sz ∧ va_P (dC, dI) vwCl ((schW cI cD h a1 a2 a3 a4 a5 n d t al day nd mk si kn mb)) H ∧ va_D (fun _ => True) ((schW cI cD h a1 a2 a3 a4 a5 n d t al day nd mk si kn mb)))) (va_Qi (fun r (_ : Unit) => r = bI (!(kn x).testBit y)) (fun (_ : Unit) T9 => va_P (dC, dI) vwCl ((schW cI cD h a1 a2 a3 a4 a5 n d t al day nd mk si (va_up kn x (kn x ||| 2 ^ y)) mb)) T9.heap ∧ va_D (va_A ((schW cI cD h a1 a2 a3 a4 a5 n d t al day nd mk si kn mb)) sz) ((schW cI cD h a1 a2 a3 a4 a5 n d t al day nd mk si (va_up kn x (kn x ||| 2 ^ y)) mb))) (va_A ((schW cI cD h a1 a2 a3 a4 a5 n d t al day nd mk si kn mb)) sz)) 0 0 (va_A ((schW cI cD h a1 a2 a3 a4 a5 n d t al day nd mk si kn mb)) sz) := by
  refine Met.ofW (cc := cX9_learn) (maxL := 3) (ret := (some .boolean)) (by decide) rfl ?_
  intro p e s m args below meth c s₁ B hml hv
  obtain ⟨rfl, hH0, hCX⟩ := hv
  have hx := B.exec
  have hb := B.bytes
  have hr := B.returns
  have hts := atoms_spec (ws := wsX9_learn) B.pre
  have hown : s.vm.findClass RX9 = some m.cls := findClass_of_methodNamed B.named
  have hlocks := B.notSynchronized
  have hK := hCX.1
  obtain ⟨hsz, hP, hD0⟩ := hH0
  subst hsz
  have hD := hD0.self (sz := s.heap.size)
  generalize hAe : va_A ((schW cI cD h a1 a2 a3 a4 a5 n d t al day nd mk si kn mb)) s.heap.size = A at hD ⊢
  have hA : ∀ q : Nat, s.heap.size ≤ q → A q := fun q h => by rw [← hAe]; exact Or.inr h
  have hS : va_S A s.heap s.heap [] := va_S.rf
  have hP : va_P (dC, dI) vwCl ((schW cI cD h a1 a2 a3 a4 a5 n d t al day nd mk si kn mb)) s.heap := hP
  have hl := lv_entry ([.ref h, .int (nI x), .int (nI y)]) (n := 3) (Nat.le_of_ble_eq_true rfl)
  rw [lg_entry_eq]
  generalize (lg_sl ([.ref h, .int (nI x), .int (nI y)]) ++ List.replicate (3 - (lg_sl ([.ref h, .int (nI x), .int (nI y)])).length) Slot.unset).toArray = ls at hl ⊢
  have hl : lv_has ls 3 [(0, .ref h), (1, .int (nI x)), (2, .int (nI y))] := hl
  refine lv_iload_n hx hb dX9_learn_0 rfl (lv_at hl 1 rfl) ?_
  refine ho_if_lt0 hx hb dX9_learn_1 (tgt := 26) (by decide) (by omega) ?_
  refine lv_iload_n hx hb dX9_learn_4 rfl (lv_at hl 1 rfl) ?_
  refine lv_aload_n hx hb dX9_learn_5 rfl (lv_at hl 0 rfl) ?_
  refine va_get (D := (dC, dI)) (ci := 9) (v := .ref a4) (C := RX9) (T := TX9) (N := 10) hx hb hts (fun _ h => List.mem_cons_of_mem _ (List.mem_append_right _ h)) hown hK hP 0 rfl rfl 8 (by decide) (hts (.fieldLink RX9 21 "HoldsOnceDenied$School" "known" "[I") (by decide +kernel)) (fun _ h9 => h9) rfl dX9_learn_6 ?_
  refine va_alen (v := nI 6) hx hb hK hP 4 0 rfl rfl rfl dX9_learn_9 ?_
  refine ho_icmp_ge (tgt := 26) hx hb dX9_learn_10 (by decide) (by omega) (by omega) (fun c_10 => ?_) (fun c_10 => ?_)
  · exfalso; omega
  refine lv_aload_n hx hb dX9_learn_13 rfl (lv_at hl 0 rfl) ?_
  refine va_get (D := (dC, dI)) (ci := 9) (v := .ref a4) (C := RX9) (T := TX9) (N := 10) hx hb hts (fun _ h => List.mem_cons_of_mem _ (List.mem_append_right _ h)) hown hK hP 0 rfl rfl 8 (by decide) (hts (.fieldLink RX9 21 "HoldsOnceDenied$School" "known" "[I") (by decide +kernel)) (fun _ h9 => h9) rfl dX9_learn_14 ?_
  refine lv_iload_n hx hb dX9_learn_17 rfl (lv_at hl 1 rfl) ?_
  refine ho_iald (v := nI (kn x)) hx hb hK hP 4 0 rfl rfl (by omega) (by decide) rfl dX9_learn_18 ?_
  refine lv_iload_n hx hb dX9_learn_19 rfl (lv_at hl 2 rfl) ?_
  refine vp_callSi ((va_runSN (As := [.int (nI (kn x)), .int (nI y)]) (rest := []) ⟨hx, hb, hml, hown, hts⟩ (c_X11_has l dC dI cI cD cR (kn x) y (by first | omega | assumption | exact gnd _ | exact gkn _ | exact Nat.lt_trans (gkn _) (by decide) | exact Nat.lt_trans (gnd _) (by decide)) (by first | omega | assumption | exact gnd _ | exact gkn _ | exact Nat.lt_trans (gkn _) (by decide) | exact Nat.lt_trans (gnd _) (by decide))) ⟨va_cnB (host := "HoldsOnceDenied") 2 hts gX9_learn_X11_has_n52 rfl rfl rfl (CX.nm hCX 3 rfl) (hts (.initialized RX11) (by decide +kernel)) (by decide +kernel) ⟨Nat.le_of_ble_eq_true rfl, Nat.le_of_ble_eq_true rfl⟩, (hts (.static yX11_has) (by decide +kernel)), trivial⟩ (preS_R hCX (trivial)) rfl rfl hl.1 rfl (lv_room (Nat.le_of_ble_eq_true rfl)) dX9_learn_20 ⟨Nat.le_of_ble_eq_true (by first | rfl | decide), Nat.le_of_ble_eq_true (by first | rfl | decide)⟩).run) (fun r_20 hr_20 => ?_)
  subst hr_20
  refine ho_beq (tgt := 28) hx hb dX9_learn_23 (by decide) (fun c_23 => ?_) (fun c_23 => ?_)
  · refine lv_aload_n hx hb dX9_learn_28 rfl (lv_at hl 0 rfl) ?_
    refine va_get (D := (dC, dI)) (ci := 9) (v := .ref a4) (C := RX9) (T := TX9) (N := 10) hx hb hts (fun _ h => List.mem_cons_of_mem _ (List.mem_append_right _ h)) hown hK hP 0 rfl rfl 8 (by decide) (hts (.fieldLink RX9 21 "HoldsOnceDenied$School" "known" "[I") (by decide +kernel)) (fun _ h9 => h9) rfl dX9_learn_29 ?_
    refine lv_iload_n hx hb dX9_learn_32 rfl (lv_at hl 1 rfl) ?_
    refine lv_dup2_11 hx hb dX9_learn_33 rfl rfl ?_
    refine ho_iald (v := nI (kn x)) hx hb hK hP 4 0 rfl rfl (by omega) (by decide) rfl dX9_learn_34 ?_
    refine lv_iload_n hx hb dX9_learn_35 rfl (lv_at hl 2 rfl) ?_
    refine vp_callSi ((va_runSN (As := [.int (nI y)]) (rest := [.int (nI (kn x)), .int (nI x), .ref a4]) ⟨hx, hb, hml, hown, hts⟩ (c_X11_bit l dC dI cI cD cR y (by first | omega | assumption | exact gnd _ | exact gkn _ | exact Nat.lt_trans (gkn _) (by decide) | exact Nat.lt_trans (gnd _) (by decide))) ⟨va_cnB (host := "HoldsOnceDenied") 1 hts gX9_learn_X11_bit_n66 rfl rfl rfl (CX.nm hCX 2 rfl) (hts (.initialized RX11) (by decide +kernel)) (by decide +kernel) ⟨Nat.le_of_ble_eq_true rfl, Nat.le_of_ble_eq_true rfl⟩, (hts (.static yX11_bit) (by decide +kernel)), trivial⟩ (preS_R hCX (trivial)) rfl rfl hl.1 rfl (lv_room (Nat.le_of_ble_eq_true rfl)) dX9_learn_36 ⟨Nat.le_of_ble_eq_true (by first | rfl | decide), Nat.le_of_ble_eq_true (by first | rfl | decide)⟩).run) (fun r_36 hr_36 => ?_)
    subst hr_36
    refine ho_ior hx hb dX9_learn_39 ?_
    refine ho_iast (g := nF (va_up kn x ((kn x) ||| (2 ^ y)))) hx hb hK hP hD hS 4 0 rfl rfl (by omega) (by decide) (nF_up _ _ _) dX9_learn_40 (fun H locs hP hD hS => ?_)
    have hP : va_P (dC, dI) vwCl ((schW cI cD h a1 a2 a3 a4 a5 n d t al day nd mk si (va_up kn x ((kn x) ||| (2 ^ y))) mb)) H := hP
    have hD : va_D A ((schW cI cD h a1 a2 a3 a4 a5 n d t al day nd mk si (va_up kn x ((kn x) ||| (2 ^ y))) mb)) := hD
    refine lv_iconst (v := nI 1) hx hb dX9_learn_41 (by decide +kernel) ?_
    have hW9 : (schW cI cD h a1 a2 a3 a4 a5 n d t al day nd mk si (va_up kn x ((kn x) ||| (2 ^ y))) mb) = (schW cI cD h a1 a2 a3 a4 a5 n d t al day nd mk si (va_up kn x (kn x ||| 2 ^ y)) mb) := rfl
    rw [hW9] at hP hD
    exact W.zret (v := nI 1) hx hb hr rfl (fun T9 hT9 hW9 => ⟨⟨_, (), rfl, (bI_t (by simp_all)), by rw [hT9]; exact hP, hD⟩, hS.F hT9⟩) hS.2.2 dX9_learn_42
  refine lv_iconst (v := nI 0) hx hb dX9_learn_26 (by decide +kernel) ?_
  have hW9 : (schW cI cD h a1 a2 a3 a4 a5 n d t al day nd mk si kn mb) = (schW cI cD h a1 a2 a3 a4 a5 n d t al day nd mk si (va_up kn x (kn x ||| 2 ^ y)) mb) := by rw [up_or c_23]
  rw [hW9] at hP hD
  exact W.zret (v := nI 0) hx hb hr rfl (fun T9 hT9 hW9 => ⟨⟨_, (), rfl, (bI_f (by simp_all)), by rw [hT9]; exact hP, hD⟩, hS.F hT9⟩) hS.2.2 dX9_learn_27
set_option maxHeartbeats 4000000 in
set_option maxRecDepth 100000 in
theorem c_X9_addSentence (l : Launch) (dC : Nat → ClassId) (dI : Nat → Nat → Nat) (cI cD cR : ClassId) (h a1 a2 a3 a4 a5 n d t al day : Nat) (nd : Nat → Nat) (mk si : Nat → Int32) (kn : Nat → Nat) (mb : Nat → Option Nat) (sz : Nat) (hn : n ≤ 9) (hd : d ≤ 6) (ht : t < 512) (hal : al < 64) (hday : day < 2 ^ 30) (gnd : ∀ i, nd i < 512) (gkn : ∀ j, kn j < 512) : Met l yX9_addSentence wsX9_addSentence ({ frames := 0, cells := 0, slots := 0, locals := 0 }) (pcR dC dI cI cD cR [.ref h] (fun H => H.size = sz ∧ va_P (dC, dI) vwCl ((schW cI cD h a1 a2 a3 a4 a5 n d t al day nd mk si kn mb)) H ∧ va_D (fun _ => True) ((schW cI cD h a1 a2 a3 a4 a5 n d t al day nd mk si kn mb)))) (va_Qi (fun r (_ : Unit) => r = bI (decide (n < 9))) (fun (_ : Unit) T9 => va_P (dC, dI) vwCl ((schW cI cD h a1 a2 a3 a4 a5 (bif decide (n < 9) then n + 1 else n) d t al day (bif decide (n < 9) then va_up nd n 0 else nd) mk si kn mb)) T9.heap ∧ va_D (va_A ((schW cI cD h a1 a2 a3 a4 a5 n d t al day nd mk si kn mb)) sz) ((schW cI cD h a1 a2 a3 a4 a5 (bif decide (n < 9) then n + 1 else n) d t al day (bif decide (n < 9) then va_up nd n 0 else nd) mk si kn mb))) (va_A ((schW cI cD h a1 a2 a3 a4 a5 n d t al day nd mk si kn mb)) sz)) 0 0 (va_A ((schW cI cD h a1 a2 a3 a4 a5 n d t al day nd mk si kn mb)) sz) := by
  refine Met.ofW (cc := cX9_addSentence) (maxL := 1) (ret := (some .boolean)) (by decide) rfl ?_
  intro p e s m args below meth c s₁ B hml hv
  obtain ⟨rfl, hH0, hCX⟩ := hv
  have hx := B.exec
  have hb := B.bytes
  have hr := B.returns
  have hts := atoms_spec (ws := wsX9_addSentence) B.pre
  have hown : s.vm.findClass RX9 = some m.cls := findClass_of_methodNamed B.named
  have hlocks := B.notSynchronized
  have hK := hCX.1
  obtain ⟨hsz, hP, hD0⟩ := hH0
  subst hsz
  have hD := hD0.self (sz := s.heap.size)
  generalize hAe : va_A ((schW cI cD h a1 a2 a3 a4 a5 n d t al day nd mk si kn mb)) s.heap.size = A at hD ⊢
  have hA : ∀ q : Nat, s.heap.size ≤ q → A q := fun q h => by rw [← hAe]; exact Or.inr h
  have hS : va_S A s.heap s.heap [] := va_S.rf
  have hP : va_P (dC, dI) vwCl ((schW cI cD h a1 a2 a3 a4 a5 n d t al day nd mk si kn mb)) s.heap := hP
  have hl := lv_entry ([.ref h]) (n := 1) (Nat.le_of_ble_eq_true rfl)
  rw [lg_entry_eq]
  generalize (lg_sl ([.ref h]) ++ List.replicate (1 - (lg_sl ([.ref h])).length) Slot.unset).toArray = ls at hl ⊢
  have hl : lv_has ls 1 [(0, .ref h)] := hl
  refine lv_aload_n hx hb dX9_addSentence_0 rfl (lv_at hl 0 rfl) ?_
  refine va_get (D := (dC, dI)) (ci := 9) (v := .int (nI n)) (C := RX9) (T := TX9) (N := 10) hx hb hts (fun _ h => List.mem_cons_of_mem _ (List.mem_append_right _ h)) hown hK hP 0 rfl rfl 0 (by decide) (hts (.fieldLink RX9 30 "HoldsOnceDenied$School" "sentences" "I") (by decide +kernel)) (fun _ h9 => h9) rfl dX9_addSentence_1 ?_
  refine ho_if_lt0 hx hb dX9_addSentence_4 (tgt := 19) (by decide) (by omega) ?_
  refine lv_aload_n hx hb dX9_addSentence_7 rfl (lv_at hl 0 rfl) ?_
  refine va_get (D := (dC, dI)) (ci := 9) (v := .int (nI n)) (C := RX9) (T := TX9) (N := 10) hx hb hts (fun _ h => List.mem_cons_of_mem _ (List.mem_append_right _ h)) hown hK hP 0 rfl rfl 0 (by decide) (hts (.fieldLink RX9 30 "HoldsOnceDenied$School" "sentences" "I") (by decide +kernel)) (fun _ h9 => h9) rfl dX9_addSentence_8 ?_
  refine lv_aload_n hx hb dX9_addSentence_11 rfl (lv_at hl 0 rfl) ?_
  refine va_get (D := (dC, dI)) (ci := 9) (v := .ref a1) (C := RX9) (T := TX9) (N := 10) hx hb hts (fun _ h => List.mem_cons_of_mem _ (List.mem_append_right _ h)) hown hK hP 0 rfl rfl 5 (by decide) (hts (.fieldLink RX9 9 "HoldsOnceDenied$School" "needs" "[I") (by decide +kernel)) (fun _ h9 => h9) rfl dX9_addSentence_12 ?_
  refine va_alen (v := nI 9) hx hb hK hP 1 0 rfl rfl rfl dX9_addSentence_15 ?_
  refine ho_icmp_lt (tgt := 21) hx hb dX9_addSentence_16 (by decide) (by omega) (by omega) (fun c_16 => ?_) (fun c_16 => ?_)
  · refine lv_aload_n hx hb dX9_addSentence_21 rfl (lv_at hl 0 rfl) ?_
    refine va_get (D := (dC, dI)) (ci := 9) (v := .ref a1) (C := RX9) (T := TX9) (N := 10) hx hb hts (fun _ h => List.mem_cons_of_mem _ (List.mem_append_right _ h)) hown hK hP 0 rfl rfl 5 (by decide) (hts (.fieldLink RX9 9 "HoldsOnceDenied$School" "needs" "[I") (by decide +kernel)) (fun _ h9 => h9) rfl dX9_addSentence_22 ?_
    refine lv_aload_n hx hb dX9_addSentence_25 rfl (lv_at hl 0 rfl) ?_
    refine va_get (D := (dC, dI)) (ci := 9) (v := .int (nI n)) (C := RX9) (T := TX9) (N := 10) hx hb hts (fun _ h => List.mem_cons_of_mem _ (List.mem_append_right _ h)) hown hK hP 0 rfl rfl 0 (by decide) (hts (.fieldLink RX9 30 "HoldsOnceDenied$School" "sentences" "I") (by decide +kernel)) (fun _ h9 => h9) rfl dX9_addSentence_26 ?_
    refine lv_iconst (v := nI 0) hx hb dX9_addSentence_29 (by decide +kernel) ?_
    refine ho_iast (g := nF (va_up nd n 0)) hx hb hK hP hD hS 1 0 rfl rfl (by omega) (by decide) (nF_up _ _ _) dX9_addSentence_30 (fun H locs hP hD hS => ?_)
    have hP : va_P (dC, dI) vwCl ((schW cI cD h a1 a2 a3 a4 a5 n d t al day (va_up nd n 0) mk si kn mb)) H := hP
    have hD : va_D A ((schW cI cD h a1 a2 a3 a4 a5 n d t al day (va_up nd n 0) mk si kn mb)) := hD
    refine lv_aload_n hx hb dX9_addSentence_31 rfl (lv_at hl 0 rfl) ?_
    refine lv_dup hx hb dX9_addSentence_32 rfl ?_
    refine va_get (D := (dC, dI)) (ci := 9) (v := .int (nI n)) (C := RX9) (T := TX9) (N := 10) hx hb hts (fun _ h => List.mem_cons_of_mem _ (List.mem_append_right _ h)) hown hK hP 0 rfl rfl 0 (by decide) (hts (.fieldLink RX9 30 "HoldsOnceDenied$School" "sentences" "I") (by decide +kernel)) (fun _ h9 => h9) rfl dX9_addSentence_33 ?_
    refine lv_iconst (v := nI 1) hx hb dX9_addSentence_36 (by decide +kernel) ?_
    refine ho_iadd hx hb dX9_addSentence_37 ?_
    refine va_put (D := (dC, dI)) (ci := 9) (v := .int (nI (n + 1))) (ty := .int) (C := RX9) (T := TX9) (N := 10) hx hb hts (fun _ h => List.mem_cons_of_mem _ (List.mem_append_right _ h)) tyX9 tyX9_ok nmX9 hown hK hP hD hS 0 rfl rfl 0 (by decide) (hts (.fieldLink RX9 30 "HoldsOnceDenied$School" "sentences" "I") (by decide +kernel)) (fun _ h9 => h9) rfl (by decide +kernel) rfl rfl (Nat.le_of_ble_eq_true rfl) dX9_addSentence_38 (fun H locs hP hD hS => ?_)
    have hP : va_P (dC, dI) vwCl ((schW cI cD h a1 a2 a3 a4 a5 (n + 1) d t al day (va_up nd n 0) mk si kn mb)) H := hP
    have hD : va_D A ((schW cI cD h a1 a2 a3 a4 a5 (n + 1) d t al day (va_up nd n 0) mk si kn mb)) := hD
    refine lv_iconst (v := nI 1) hx hb dX9_addSentence_41 (by decide +kernel) ?_
    have hW9 : (schW cI cD h a1 a2 a3 a4 a5 (n + 1) d t al day (va_up nd n 0) mk si kn mb) = (schW cI cD h a1 a2 a3 a4 a5 (bif decide (n < 9) then n + 1 else n) d t al day (bif decide (n < 9) then va_up nd n 0 else nd) mk si kn mb) := by rw [show decide (n < 9) = true from decide_eq_true (by omega)]; rfl
    rw [hW9] at hP hD
    exact W.zret (v := nI 1) hx hb hr rfl (fun T9 hT9 hW9 => ⟨⟨_, (), rfl, (bI_t (by exact decide_eq_true (by omega))), by rw [hT9]; exact hP, hD⟩, hS.F hT9⟩) hS.2.2 dX9_addSentence_42
  refine lv_iconst (v := nI 0) hx hb dX9_addSentence_19 (by decide +kernel) ?_
  have hW9 : (schW cI cD h a1 a2 a3 a4 a5 n d t al day nd mk si kn mb) = (schW cI cD h a1 a2 a3 a4 a5 (bif decide (n < 9) then n + 1 else n) d t al day (bif decide (n < 9) then va_up nd n 0 else nd) mk si kn mb) := by rw [show decide (n < 9) = false from decide_eq_false (by omega)]; rfl
  rw [hW9] at hP hD
  exact W.zret (v := nI 0) hx hb hr rfl (fun T9 hT9 hW9 => ⟨⟨_, (), rfl, (bI_f (by exact decide_eq_false (by omega))), by rw [hT9]; exact hP, hD⟩, hS.F hT9⟩) hS.2.2 dX9_addSentence_20
set_option maxHeartbeats 4000000 in
set_option maxRecDepth 100000 in
theorem c_X9_addNeed (l : Launch) (dC : Nat → ClassId) (dI : Nat → Nat → Nat) (cI cD cR : ClassId) (h a1 a2 a3 a4 a5 n d t al day : Nat) (nd : Nat → Nat) (mk si : Nat → Int32) (kn : Nat → Nat) (mb : Nat → Option Nat) (x y : Nat) (sz : Nat) (hn : n ≤ 9) (hd : d ≤ 6) (ht : t < 512) (hal : al < 64) (hday : day < 2 ^ 30) (gnd : ∀ i, nd i < 512) (gkn : ∀ j, kn j < 512) (hxx : x < 2 ^ 31) (hyy : y < 2 ^ 31) : Met l yX9_addNeed wsX9_addNeed ({ frames := 1, cells := 0, slots := 0, locals := 21 }) (pcR dC dI cI cD cR [.ref h, .int (nI x), .int (nI y)] (fun H => H.size = sz ∧ va_P (dC, dI) vwCl ((schW cI cD h a1 a2 a3 a4 a5 n d t al day nd mk si kn mb)) H ∧ va_D (fun _ => True) ((schW cI cD h a1 a2 a3 a4 a5 n d t al day nd mk si kn mb)))) (va_Qi (fun r (_ : Unit) => r = bI (decide (x < n) && (decide (y < n) && decide (x ≠ y)))) (fun (_ : Unit) T9 => va_P (dC, dI) vwCl ((schW cI cD h a1 a2 a3 a4 a5 n d t al day (bif (decide (x < n) && (decide (y < n) && decide (x ≠ y))) then va_up nd x (nd x ||| 2 ^ y) else nd) mk si kn mb)) T9.heap ∧ va_D (va_A ((schW cI cD h a1 a2 a3 a4 a5 n d t al day nd mk si kn mb)) sz) ((schW cI cD h a1 a2 a3 a4 a5 n d t al day (bif (decide (x < n) && (decide (y < n) && decide (x ≠ y))) then va_up nd x (nd x ||| 2 ^ y) else nd) mk si kn mb))) (va_A ((schW cI cD h a1 a2 a3 a4 a5 n d t al day nd mk si kn mb)) sz)) 0 0 (va_A ((schW cI cD h a1 a2 a3 a4 a5 n d t al day nd mk si kn mb)) sz) := by
  refine Met.ofW (cc := cX9_addNeed) (maxL := 3) (ret := (some .boolean)) (by decide) rfl ?_
  intro p e s m args below meth c s₁ B hml hv
  obtain ⟨rfl, hH0, hCX⟩ := hv
  have hx := B.exec
  have hb := B.bytes
  have hr := B.returns
  have hts := atoms_spec (ws := wsX9_addNeed) B.pre
  have hown : s.vm.findClass RX9 = some m.cls := findClass_of_methodNamed B.named
  have hlocks := B.notSynchronized
  have hK := hCX.1
  obtain ⟨hsz, hP, hD0⟩ := hH0
  subst hsz
  have hD := hD0.self (sz := s.heap.size)
  generalize hAe : va_A ((schW cI cD h a1 a2 a3 a4 a5 n d t al day nd mk si kn mb)) s.heap.size = A at hD ⊢
  have hA : ∀ q : Nat, s.heap.size ≤ q → A q := fun q h => by rw [← hAe]; exact Or.inr h
  have hS : va_S A s.heap s.heap [] := va_S.rf
  have hP : va_P (dC, dI) vwCl ((schW cI cD h a1 a2 a3 a4 a5 n d t al day nd mk si kn mb)) s.heap := hP
  have hl := lv_entry ([.ref h, .int (nI x), .int (nI y)]) (n := 3) (Nat.le_of_ble_eq_true rfl)
  rw [lg_entry_eq]
  generalize (lg_sl ([.ref h, .int (nI x), .int (nI y)]) ++ List.replicate (3 - (lg_sl ([.ref h, .int (nI x), .int (nI y)])).length) Slot.unset).toArray = ls at hl ⊢
  have hl : lv_has ls 3 [(0, .ref h), (1, .int (nI x)), (2, .int (nI y))] := hl
  refine lv_aload_n hx hb dX9_addNeed_0 rfl (lv_at hl 0 rfl) ?_
  refine lv_iload_n hx hb dX9_addNeed_1 rfl (lv_at hl 1 rfl) ?_
  refine vp_callSi ((va_runV (As := [.int (nI x)]) (rest := []) ⟨hx, hb, hml, hown, hts⟩ (c_X9_hasSentence l dC dI cI cD cR h a1 a2 a3 a4 a5 n d t al day nd mk si kn mb x (by first | omega | assumption | exact gnd _ | exact gkn _ | exact Nat.lt_trans (gkn _) (by decide) | exact Nat.lt_trans (gnd _) (by decide)) (by first | omega | assumption | exact gnd _ | exact gkn _ | exact Nat.lt_trans (gkn _) (by decide) | exact Nat.lt_trans (gnd _) (by decide)) (by first | omega | assumption | exact gnd _ | exact gkn _ | exact Nat.lt_trans (gkn _) (by decide) | exact Nat.lt_trans (gnd _) (by decide)) (by first | omega | assumption | exact gnd _ | exact gkn _ | exact Nat.lt_trans (gkn _) (by decide) | exact Nat.lt_trans (gnd _) (by decide)) (by first | omega | assumption | exact gnd _ | exact gkn _ | exact Nat.lt_trans (gkn _) (by decide) | exact Nat.lt_trans (gnd _) (by decide)) gnd gkn (by first | omega | assumption | exact gnd _ | exact gkn _ | exact Nat.lt_trans (gkn _) (by decide) | exact Nat.lt_trans (gnd _) (by decide))) (cwV 1 hts gX9_addNeed_X9_hasSentence rfl rfl rfl (by decide +kernel) ⟨Nat.le_of_ble_eq_true rfl, Nat.le_of_ble_eq_true rfl⟩) (preV_R hCX (va_recv hK hP (ci := 9) (q0 := 0) rfl rfl) (hP)) rfl rfl hl.1 rfl (lv_room (Nat.le_of_ble_eq_true rfl)) dX9_addNeed_2 ⟨Nat.le_of_ble_eq_true (by first | rfl | decide), Nat.le_of_ble_eq_true (by first | rfl | decide)⟩).run) (fun r_2 hr_2 => ?_)
  subst hr_2
  refine ho_beq (tgt := 30) hx hb dX9_addNeed_5 (by decide) (fun c_5 => ?_) (fun c_5 => ?_)
  · have q_5 := of_decide_eq_false c_5
    refine lv_iconst (v := nI 0) hx hb dX9_addNeed_30 (by decide +kernel) ?_
    have hW9 : (schW cI cD h a1 a2 a3 a4 a5 n d t al day nd mk si kn mb) = (schW cI cD h a1 a2 a3 a4 a5 n d t al day (bif (decide (x < n) && (decide (y < n) && decide (x ≠ y))) then va_up nd x (nd x ||| 2 ^ y) else nd) mk si kn mb) := by rw [show (decide (x < n) && (decide (y < n) && decide (x ≠ y))) = false by (simp <;> omega)]; rfl
    rw [hW9] at hP hD
    exact W.zret (v := nI 0) hx hb hr rfl (fun T9 hT9 hW9 => ⟨⟨_, (), rfl, (bI_f (by simp <;> omega)), by rw [hT9]; exact hP, hD⟩, hS.F hT9⟩) hS.2.2 dX9_addNeed_31
  have q_5 := of_decide_eq_true c_5
  refine lv_aload_n hx hb dX9_addNeed_8 rfl (lv_at hl 0 rfl) ?_
  refine lv_iload_n hx hb dX9_addNeed_9 rfl (lv_at hl 2 rfl) ?_
  refine vp_callSi ((va_runV (As := [.int (nI y)]) (rest := []) ⟨hx, hb, hml, hown, hts⟩ (c_X9_hasSentence l dC dI cI cD cR h a1 a2 a3 a4 a5 n d t al day nd mk si kn mb y (by first | omega | assumption | exact gnd _ | exact gkn _ | exact Nat.lt_trans (gkn _) (by decide) | exact Nat.lt_trans (gnd _) (by decide)) (by first | omega | assumption | exact gnd _ | exact gkn _ | exact Nat.lt_trans (gkn _) (by decide) | exact Nat.lt_trans (gnd _) (by decide)) (by first | omega | assumption | exact gnd _ | exact gkn _ | exact Nat.lt_trans (gkn _) (by decide) | exact Nat.lt_trans (gnd _) (by decide)) (by first | omega | assumption | exact gnd _ | exact gkn _ | exact Nat.lt_trans (gkn _) (by decide) | exact Nat.lt_trans (gnd _) (by decide)) (by first | omega | assumption | exact gnd _ | exact gkn _ | exact Nat.lt_trans (gkn _) (by decide) | exact Nat.lt_trans (gnd _) (by decide)) gnd gkn (by first | omega | assumption | exact gnd _ | exact gkn _ | exact Nat.lt_trans (gkn _) (by decide) | exact Nat.lt_trans (gnd _) (by decide))) (cwV 1 hts gX9_addNeed_X9_hasSentence rfl rfl rfl (by decide +kernel) ⟨Nat.le_of_ble_eq_true rfl, Nat.le_of_ble_eq_true rfl⟩) (preV_R hCX (va_recv hK hP (ci := 9) (q0 := 0) rfl rfl) (hP)) rfl rfl hl.1 rfl (lv_room (Nat.le_of_ble_eq_true rfl)) dX9_addNeed_10 ⟨Nat.le_of_ble_eq_true (by first | rfl | decide), Nat.le_of_ble_eq_true (by first | rfl | decide)⟩).run) (fun r_10 hr_10 => ?_)
  subst hr_10
  refine ho_beq (tgt := 30) hx hb dX9_addNeed_13 (by decide) (fun c_13 => ?_) (fun c_13 => ?_)
  · have q_13 := of_decide_eq_false c_13
    refine lv_iconst (v := nI 0) hx hb dX9_addNeed_30 (by decide +kernel) ?_
    have hW9 : (schW cI cD h a1 a2 a3 a4 a5 n d t al day nd mk si kn mb) = (schW cI cD h a1 a2 a3 a4 a5 n d t al day (bif (decide (x < n) && (decide (y < n) && decide (x ≠ y))) then va_up nd x (nd x ||| 2 ^ y) else nd) mk si kn mb) := by rw [show (decide (x < n) && (decide (y < n) && decide (x ≠ y))) = false by (simp <;> omega)]; rfl
    rw [hW9] at hP hD
    exact W.zret (v := nI 0) hx hb hr rfl (fun T9 hT9 hW9 => ⟨⟨_, (), rfl, (bI_f (by simp <;> omega)), by rw [hT9]; exact hP, hD⟩, hS.F hT9⟩) hS.2.2 dX9_addNeed_31
  have q_13 := of_decide_eq_true c_13
  refine lv_iload_n hx hb dX9_addNeed_16 rfl (lv_at hl 1 rfl) ?_
  refine lv_iload_n hx hb dX9_addNeed_17 rfl (lv_at hl 2 rfl) ?_
  refine ho_icmp_eq (tgt := 30) hx hb dX9_addNeed_18 (by decide) (by omega) (by omega) (fun c_18 => ?_) (fun c_18 => ?_)
  · refine lv_iconst (v := nI 0) hx hb dX9_addNeed_30 (by decide +kernel) ?_
    have hW9 : (schW cI cD h a1 a2 a3 a4 a5 n d t al day nd mk si kn mb) = (schW cI cD h a1 a2 a3 a4 a5 n d t al day (bif (decide (x < n) && (decide (y < n) && decide (x ≠ y))) then va_up nd x (nd x ||| 2 ^ y) else nd) mk si kn mb) := by rw [show (decide (x < n) && (decide (y < n) && decide (x ≠ y))) = false by (simp <;> omega)]; rfl
    rw [hW9] at hP hD
    exact W.zret (v := nI 0) hx hb hr rfl (fun T9 hT9 hW9 => ⟨⟨_, (), rfl, (bI_f (by simp <;> omega)), by rw [hT9]; exact hP, hD⟩, hS.F hT9⟩) hS.2.2 dX9_addNeed_31
  refine lv_iload_n hx hb dX9_addNeed_21 rfl (lv_at hl 1 rfl) ?_
  refine lv_aload_n hx hb dX9_addNeed_22 rfl (lv_at hl 0 rfl) ?_
  refine va_get (D := (dC, dI)) (ci := 9) (v := .ref a1) (C := RX9) (T := TX9) (N := 10) hx hb hts (fun _ h => List.mem_cons_of_mem _ (List.mem_append_right _ h)) hown hK hP 0 rfl rfl 5 (by decide) (hts (.fieldLink RX9 9 "HoldsOnceDenied$School" "needs" "[I") (by decide +kernel)) (fun _ h9 => h9) rfl dX9_addNeed_23 ?_
  refine va_alen (v := nI 9) hx hb hK hP 1 0 rfl rfl rfl dX9_addNeed_26 ?_
  refine ho_icmp_lt (tgt := 32) hx hb dX9_addNeed_27 (by decide) (by omega) (by omega) (fun c_27 => ?_) (fun c_27 => ?_)
  · refine lv_aload_n hx hb dX9_addNeed_32 rfl (lv_at hl 0 rfl) ?_
    refine va_get (D := (dC, dI)) (ci := 9) (v := .ref a1) (C := RX9) (T := TX9) (N := 10) hx hb hts (fun _ h => List.mem_cons_of_mem _ (List.mem_append_right _ h)) hown hK hP 0 rfl rfl 5 (by decide) (hts (.fieldLink RX9 9 "HoldsOnceDenied$School" "needs" "[I") (by decide +kernel)) (fun _ h9 => h9) rfl dX9_addNeed_33 ?_
    refine lv_iload_n hx hb dX9_addNeed_36 rfl (lv_at hl 1 rfl) ?_
    refine lv_dup2_11 hx hb dX9_addNeed_37 rfl rfl ?_
    refine ho_iald (v := nI (nd x)) hx hb hK hP 1 0 rfl rfl (by omega) (by decide) rfl dX9_addNeed_38 ?_
    refine lv_iload_n hx hb dX9_addNeed_39 rfl (lv_at hl 2 rfl) ?_
    refine vp_callSi ((va_runSN (As := [.int (nI y)]) (rest := [.int (nI (nd x)), .int (nI x), .ref a1]) ⟨hx, hb, hml, hown, hts⟩ (c_X11_bit l dC dI cI cD cR y (by first | omega | assumption | exact gnd _ | exact gkn _ | exact Nat.lt_trans (gkn _) (by decide) | exact Nat.lt_trans (gnd _) (by decide))) ⟨va_cnB (host := "HoldsOnceDenied") 1 hts gX9_addNeed_X11_bit_n66 rfl rfl rfl (CX.nm hCX 2 rfl) (hts (.initialized RX11) (by decide +kernel)) (by decide +kernel) ⟨Nat.le_of_ble_eq_true rfl, Nat.le_of_ble_eq_true rfl⟩, (hts (.static yX11_bit) (by decide +kernel)), trivial⟩ (preS_R hCX (trivial)) rfl rfl hl.1 rfl (lv_room (Nat.le_of_ble_eq_true rfl)) dX9_addNeed_40 ⟨Nat.le_of_ble_eq_true (by first | rfl | decide), Nat.le_of_ble_eq_true (by first | rfl | decide)⟩).run) (fun r_40 hr_40 => ?_)
    subst hr_40
    refine ho_ior hx hb dX9_addNeed_43 ?_
    refine ho_iast (g := nF (va_up nd x ((nd x) ||| (2 ^ y)))) hx hb hK hP hD hS 1 0 rfl rfl (by omega) (by decide) (nF_up _ _ _) dX9_addNeed_44 (fun H locs hP hD hS => ?_)
    have hP : va_P (dC, dI) vwCl ((schW cI cD h a1 a2 a3 a4 a5 n d t al day (va_up nd x ((nd x) ||| (2 ^ y))) mk si kn mb)) H := hP
    have hD : va_D A ((schW cI cD h a1 a2 a3 a4 a5 n d t al day (va_up nd x ((nd x) ||| (2 ^ y))) mk si kn mb)) := hD
    refine lv_iconst (v := nI 1) hx hb dX9_addNeed_45 (by decide +kernel) ?_
    have hW9 : (schW cI cD h a1 a2 a3 a4 a5 n d t al day (va_up nd x ((nd x) ||| (2 ^ y))) mk si kn mb) = (schW cI cD h a1 a2 a3 a4 a5 n d t al day (bif (decide (x < n) && (decide (y < n) && decide (x ≠ y))) then va_up nd x (nd x ||| 2 ^ y) else nd) mk si kn mb) := by rw [show (decide (x < n) && (decide (y < n) && decide (x ≠ y))) = true by (simp <;> omega)]; rfl
    rw [hW9] at hP hD
    exact W.zret (v := nI 1) hx hb hr rfl (fun T9 hT9 hW9 => ⟨⟨_, (), rfl, (bI_t (by simp <;> omega)), by rw [hT9]; exact hP, hD⟩, hS.F hT9⟩) hS.2.2 dX9_addNeed_46
  exfalso; omega
set_option maxHeartbeats 4000000 in
set_option maxRecDepth 100000 in
theorem c_X9_found (l : Launch) (dC : Nat → ClassId) (dI : Nat → Nat → Nat) (cI cD cR : ClassId) (h a1 a2 a3 a4 a5 n d t al day : Nat) (nd : Nat → Nat) (mk si : Nat → Int32) (kn : Nat → Nat) (mb : Nat → Option Nat) (x : Nat) (sz : Nat) (hn : n ≤ 9) (hd : d ≤ 6) (ht : t < 512) (hal : al < 64) (hday : day < 2 ^ 30) (gnd : ∀ i, nd i < 512) (gkn : ∀ j, kn j < 512) (hxx : x < 2 ^ 31) : Met l yX9_found wsX9_found ({ frames := 2, cells := 0, slots := 0, locals := 42 }) (pcR dC dI cI cD cR [.ref h, .int (nI x)] (fun H => H.size = sz ∧ va_P (dC, dI) vwCl ((schW cI cD h a1 a2 a3 a4 a5 n d t al day nd mk si kn mb)) H ∧ va_D (fun _ => True) ((schW cI cD h a1 a2 a3 a4 a5 n d t al day nd mk si kn mb)))) (va_Qi (fun r (_ : Unit) => r = bI (decide (x < n) && !t.testBit x)) (fun (_ : Unit) T9 => va_P (dC, dI) vwCl ((schW cI cD h a1 a2 a3 a4 a5 n d (bif (decide (x < n) && !t.testBit x) then t ||| 2 ^ x else t) al day nd (bif (decide (x < n) && !t.testBit x) then upd mk x (-4) else mk) (bif (decide (x < n) && !t.testBit x) then upd si x (nI day) else si) kn mb)) T9.heap ∧ va_D (va_A ((schW cI cD h a1 a2 a3 a4 a5 n d t al day nd mk si kn mb)) sz) ((schW cI cD h a1 a2 a3 a4 a5 n d (bif (decide (x < n) && !t.testBit x) then t ||| 2 ^ x else t) al day nd (bif (decide (x < n) && !t.testBit x) then upd mk x (-4) else mk) (bif (decide (x < n) && !t.testBit x) then upd si x (nI day) else si) kn mb))) (va_A ((schW cI cD h a1 a2 a3 a4 a5 n d t al day nd mk si kn mb)) sz)) 0 0 (va_A ((schW cI cD h a1 a2 a3 a4 a5 n d t al day nd mk si kn mb)) sz) := by
  refine Met.ofW (cc := cX9_found) (maxL := 2) (ret := (some .boolean)) (by decide) rfl ?_
  intro p e s m args below meth c s₁ B hml hv
  obtain ⟨rfl, hH0, hCX⟩ := hv
  have hx := B.exec
  have hb := B.bytes
  have hr := B.returns
  have hts := atoms_spec (ws := wsX9_found) B.pre
  have hown : s.vm.findClass RX9 = some m.cls := findClass_of_methodNamed B.named
  have hlocks := B.notSynchronized
  have hK := hCX.1
  obtain ⟨hsz, hP, hD0⟩ := hH0
  subst hsz
  have hD := hD0.self (sz := s.heap.size)
  generalize hAe : va_A ((schW cI cD h a1 a2 a3 a4 a5 n d t al day nd mk si kn mb)) s.heap.size = A at hD ⊢
  have hA : ∀ q : Nat, s.heap.size ≤ q → A q := fun q h => by rw [← hAe]; exact Or.inr h
  have hS : va_S A s.heap s.heap [] := va_S.rf
  have hP : va_P (dC, dI) vwCl ((schW cI cD h a1 a2 a3 a4 a5 n d t al day nd mk si kn mb)) s.heap := hP
  have hl := lv_entry ([.ref h, .int (nI x)]) (n := 2) (Nat.le_of_ble_eq_true rfl)
  rw [lg_entry_eq]
  generalize (lg_sl ([.ref h, .int (nI x)]) ++ List.replicate (2 - (lg_sl ([.ref h, .int (nI x)])).length) Slot.unset).toArray = ls at hl ⊢
  have hl : lv_has ls 2 [(0, .ref h), (1, .int (nI x))] := hl
  refine lv_aload_n hx hb dX9_found_0 rfl (lv_at hl 0 rfl) ?_
  refine lv_iload_n hx hb dX9_found_1 rfl (lv_at hl 1 rfl) ?_
  refine vp_callSi ((va_runV (As := [.int (nI x)]) (rest := []) ⟨hx, hb, hml, hown, hts⟩ (c_X9_hasSentence l dC dI cI cD cR h a1 a2 a3 a4 a5 n d t al day nd mk si kn mb x (by first | omega | assumption | exact gnd _ | exact gkn _ | exact Nat.lt_trans (gkn _) (by decide) | exact Nat.lt_trans (gnd _) (by decide)) (by first | omega | assumption | exact gnd _ | exact gkn _ | exact Nat.lt_trans (gkn _) (by decide) | exact Nat.lt_trans (gnd _) (by decide)) (by first | omega | assumption | exact gnd _ | exact gkn _ | exact Nat.lt_trans (gkn _) (by decide) | exact Nat.lt_trans (gnd _) (by decide)) (by first | omega | assumption | exact gnd _ | exact gkn _ | exact Nat.lt_trans (gkn _) (by decide) | exact Nat.lt_trans (gnd _) (by decide)) (by first | omega | assumption | exact gnd _ | exact gkn _ | exact Nat.lt_trans (gkn _) (by decide) | exact Nat.lt_trans (gnd _) (by decide)) gnd gkn (by first | omega | assumption | exact gnd _ | exact gkn _ | exact Nat.lt_trans (gkn _) (by decide) | exact Nat.lt_trans (gnd _) (by decide))) (cwV 1 hts gX9_found_X9_hasSentence rfl rfl rfl (by decide +kernel) ⟨Nat.le_of_ble_eq_true rfl, Nat.le_of_ble_eq_true rfl⟩) (preV_R hCX (va_recv hK hP (ci := 9) (q0 := 0) rfl rfl) (hP)) rfl rfl hl.1 rfl (lv_room (Nat.le_of_ble_eq_true rfl)) dX9_found_2 ⟨Nat.le_of_ble_eq_true (by first | rfl | decide), Nat.le_of_ble_eq_true (by first | rfl | decide)⟩).run) (fun r_2 hr_2 => ?_)
  subst hr_2
  refine ho_beq (tgt := 16) hx hb dX9_found_5 (by decide) (fun c_5 => ?_) (fun c_5 => ?_)
  · have q_5 := of_decide_eq_false c_5
    refine lv_iconst (v := nI 0) hx hb dX9_found_16 (by decide +kernel) ?_
    have hW9 : (schW cI cD h a1 a2 a3 a4 a5 n d t al day nd mk si kn mb) = (schW cI cD h a1 a2 a3 a4 a5 n d (bif (decide (x < n) && !t.testBit x) then t ||| 2 ^ x else t) al day nd (bif (decide (x < n) && !t.testBit x) then upd mk x (-4) else mk) (bif (decide (x < n) && !t.testBit x) then upd si x (nI day) else si) kn mb) := by rw [show (decide (x < n) && !t.testBit x) = false by (first | (rw [c_13]; simp; done) | (rw [decide_eq_false (Nat.not_lt.mpr q_5)]; rfl) | (rw [decide_eq_false q_5]; rfl))]; rfl
    rw [hW9] at hP hD
    exact W.zret (v := nI 0) hx hb hr rfl (fun T9 hT9 hW9 => ⟨⟨_, (), rfl, (bI_f (by first | (rw [c_13]; simp; done) | (rw [decide_eq_false (Nat.not_lt.mpr q_5)]; rfl) | (rw [decide_eq_false q_5]; rfl))), by rw [hT9]; exact hP, hD⟩, hS.F hT9⟩) hS.2.2 dX9_found_17
  have q_5 := of_decide_eq_true c_5
  refine lv_aload_n hx hb dX9_found_8 rfl (lv_at hl 0 rfl) ?_
  refine lv_iload_n hx hb dX9_found_9 rfl (lv_at hl 1 rfl) ?_
  refine vp_callSi ((va_runV (As := [.int (nI x)]) (rest := []) ⟨hx, hb, hml, hown, hts⟩ (c_X9_isTrue l dC dI cI cD cR h a1 a2 a3 a4 a5 n d t al day nd mk si kn mb x (by first | omega | assumption | exact gnd _ | exact gkn _ | exact Nat.lt_trans (gkn _) (by decide) | exact Nat.lt_trans (gnd _) (by decide)) (by first | omega | assumption | exact gnd _ | exact gkn _ | exact Nat.lt_trans (gkn _) (by decide) | exact Nat.lt_trans (gnd _) (by decide)) (by first | omega | assumption | exact gnd _ | exact gkn _ | exact Nat.lt_trans (gkn _) (by decide) | exact Nat.lt_trans (gnd _) (by decide)) (by first | omega | assumption | exact gnd _ | exact gkn _ | exact Nat.lt_trans (gkn _) (by decide) | exact Nat.lt_trans (gnd _) (by decide)) (by first | omega | assumption | exact gnd _ | exact gkn _ | exact Nat.lt_trans (gkn _) (by decide) | exact Nat.lt_trans (gnd _) (by decide)) gnd gkn (by first | omega | assumption | exact gnd _ | exact gkn _ | exact Nat.lt_trans (gkn _) (by decide) | exact Nat.lt_trans (gnd _) (by decide))) (cwV 1 hts gX9_found_X9_isTrue rfl rfl rfl (by decide +kernel) ⟨Nat.le_of_ble_eq_true rfl, Nat.le_of_ble_eq_true rfl⟩) (preV_R hCX (va_recv hK hP (ci := 9) (q0 := 0) rfl rfl) (hP)) rfl rfl hl.1 rfl (lv_room (Nat.le_of_ble_eq_true rfl)) dX9_found_10 ⟨Nat.le_of_ble_eq_true (by first | rfl | decide), Nat.le_of_ble_eq_true (by first | rfl | decide)⟩).run) (fun r_10 hr_10 => ?_)
  subst hr_10
  refine ho_beq (tgt := 18) hx hb dX9_found_13 (by decide) (fun c_13 => ?_) (fun c_13 => ?_)
  · refine lv_aload_n hx hb dX9_found_18 rfl (lv_at hl 0 rfl) ?_
    refine lv_iload_n hx hb dX9_found_19 rfl (lv_at hl 1 rfl) ?_
    refine lv_bipush (v := (-4)) hx hb dX9_found_20 (by decide +kernel) ?_
    have hPc := hP
    have hDc := hD
    have hFc := va_free (wc := (schW cI cD h a1 a2 a3 a4 a5 n d t al day nd mk si kn mb)) hD hS hA [0, 1, 2, 3, 4, 5] rfl
    refine va_callv (va_runV (As := [.int (nI x), .int (-4)]) (rest := []) ⟨hx, hb, hml, hown, hts⟩ (c_X9_makeTrue l dC dI cI cD cR h a1 a2 a3 a4 a5 n d t al day nd mk si kn mb x (-4) s.heap.size (by first | omega | assumption | exact gnd _ | exact gkn _ | exact Nat.lt_trans (gkn _) (by decide) | exact Nat.lt_trans (gnd _) (by decide)) (by first | omega | assumption | exact gnd _ | exact gkn _ | exact Nat.lt_trans (gkn _) (by decide) | exact Nat.lt_trans (gnd _) (by decide)) (by first | omega | assumption | exact gnd _ | exact gkn _ | exact Nat.lt_trans (gkn _) (by decide) | exact Nat.lt_trans (gnd _) (by decide)) (by first | omega | assumption | exact gnd _ | exact gkn _ | exact Nat.lt_trans (gkn _) (by decide) | exact Nat.lt_trans (gnd _) (by decide)) (by first | omega | assumption | exact gnd _ | exact gkn _ | exact Nat.lt_trans (gkn _) (by decide) | exact Nat.lt_trans (gnd _) (by decide)) gnd gkn (by first | omega | assumption | exact gnd _ | exact gkn _ | exact Nat.lt_trans (gkn _) (by decide) | exact Nat.lt_trans (gnd _) (by decide))) (cwV 2 hts gX9_found_X9_makeTrue rfl rfl rfl (by decide +kernel) ⟨Nat.le_of_ble_eq_true rfl, Nat.le_of_ble_eq_true rfl⟩) (preV_R hCX (va_recv hK hP (ci := 9) (q0 := 0) rfl rfl) ⟨rfl, hPc, hDc.weaken (fun _ _ _ _ => trivial)⟩) rfl rfl hl.1 rfl (lv_room (Nat.le_of_ble_eq_true rfl)) dX9_found_22 ⟨Nat.le_of_ble_eq_true (by first | rfl | decide), Nat.le_of_ble_eq_true (by first | rfl | decide)⟩) hS (fun q _ h => hFc q h) hFc (fun u T8 H1 locs hT8 hvm hw hB hz1 hk1 hS => ?_)
    obtain ⟨hP1, hD1⟩ := hB
    rw [hT8] at hP1
    obtain ⟨hP, hD⟩ := va_join (wr := []) (w1 := (schW cI cD h a1 a2 a3 a4 a5 n d (t ||| 2 ^ x) al day nd (upd mk x (-4)) (upd si x (nI day)) kn mb)) hP hD [0, 1, 2, 3, 4, 5] [] rfl rfl (by decide) (by decide) hk1 hFc hP1 hD1
    generalize H1 = H at hP hS ⊢
    have hP : va_P (dC, dI) vwCl ((schW cI cD h a1 a2 a3 a4 a5 n d (t ||| 2 ^ x) al day nd (upd mk x (-4)) (upd si x (nI day)) kn mb)) H := hP
    have hD : va_D A ((schW cI cD h a1 a2 a3 a4 a5 n d (t ||| 2 ^ x) al day nd (upd mk x (-4)) (upd si x (nI day)) kn mb)) := hD
    refine lv_iconst (v := nI 1) hx hb dX9_found_25 (by decide +kernel) ?_
    have hW9 : (schW cI cD h a1 a2 a3 a4 a5 n d (t ||| 2 ^ x) al day nd (upd mk x (-4)) (upd si x (nI day)) kn mb) = (schW cI cD h a1 a2 a3 a4 a5 n d (bif (decide (x < n) && !t.testBit x) then t ||| 2 ^ x else t) al day nd (bif (decide (x < n) && !t.testBit x) then upd mk x (-4) else mk) (bif (decide (x < n) && !t.testBit x) then upd si x (nI day) else si) kn mb) := by rw [show (decide (x < n) && !t.testBit x) = true by (rw [decide_eq_true q_5, c_13]; rfl)]; rfl
    rw [hW9] at hP hD
    exact W.zret (v := nI 1) hx hb hr rfl (fun T9 hT9 hW9 => ⟨⟨_, (), rfl, (bI_t (by rw [decide_eq_true q_5, c_13]; rfl)), by rw [hT9]; exact hP, hD⟩, hS.F hT9⟩) hS.2.2 dX9_found_26
  refine lv_iconst (v := nI 0) hx hb dX9_found_16 (by decide +kernel) ?_
  have hW9 : (schW cI cD h a1 a2 a3 a4 a5 n d t al day nd mk si kn mb) = (schW cI cD h a1 a2 a3 a4 a5 n d (bif (decide (x < n) && !t.testBit x) then t ||| 2 ^ x else t) al day nd (bif (decide (x < n) && !t.testBit x) then upd mk x (-4) else mk) (bif (decide (x < n) && !t.testBit x) then upd si x (nI day) else si) kn mb) := by rw [show (decide (x < n) && !t.testBit x) = false by (first | (rw [c_13]; simp; done) | (rw [decide_eq_false (Nat.not_lt.mpr q_5)]; rfl) | (rw [decide_eq_false q_5]; rfl))]; rfl
  rw [hW9] at hP hD
  exact W.zret (v := nI 0) hx hb hr rfl (fun T9 hT9 hW9 => ⟨⟨_, (), rfl, (bI_f (by first | (rw [c_13]; simp; done) | (rw [decide_eq_false (Nat.not_lt.mpr q_5)]; rfl) | (rw [decide_eq_false q_5]; rfl))), by rw [hT9]; exact hP, hD⟩, hS.F hT9⟩) hS.2.2 dX9_found_17
set_option maxHeartbeats 4000000 in
set_option maxRecDepth 100000 in
theorem c_X9_dispute (l : Launch) (dC : Nat → ClassId) (dI : Nat → Nat → Nat) (cI cD cR : ClassId) (h a1 a2 a3 a4 a5 n d t al day : Nat) (nd : Nat → Nat) (mk si : Nat → Int32) (kn : Nat → Nat) (mb : Nat → Option Nat) (x y : Nat) (DL : List Nat) (kd fg : Nat → Nat) (sz : Nat) (hn : n ≤ 9) (hd : d ≤ 6) (ht : t < 512) (hal : al < 64) (hday : day + 1 < 2 ^ 30) (gnd : ∀ i, nd i < 512) (gkn : ∀ j, kn j < 512) (hxx : x < 6) (hyy : y < 9) (gmb : ∀ j a, mb j = some a → a ∈ DL) : Met l yX9_dispute wsX9_dispute ({ frames := 4, cells := 0, slots := 0, locals := 92 }) (pcR dC dI cI cD cR [.ref h, .int (nI x), .int (nI y)] (fun H => H.size = sz ∧ va_P (dC, dI) vwCl ((schW cI cD h a1 a2 a3 a4 a5 n d t al day nd mk si kn mb)) H ∧ va_D (fun _ => True) ((schW cI cD h a1 a2 a3 a4 a5 n d t al day nd mk si kn mb)) ∧ DP dC dI DL kd fg H)) (va_Qi (fun r (_ : Unit) => r = bI (wsB day t kn nd mb kd x y)) (fun (_ : Unit) T9 => va_P (dC, dI) vwCl ((schW cI cD h a1 a2 a3 a4 a5 n d (bif wsB day t kn nd mb kd x y then t ||| 2 ^ y else t) al (day + 1) nd (bif wsB day t kn nd mb kd x y then upd mk y (nI x) else mk) (bif wsB day t kn nd mb kd x y then upd si y (nI (day + 1)) else si) (bif wsB day t kn nd mb kd x y then va_up kn x (kn x ||| 2 ^ y) else kn) mb)) T9.heap ∧ va_D (va_A ((schW cI cD h a1 a2 a3 a4 a5 n d t al day nd mk si kn mb)) sz) ((schW cI cD h a1 a2 a3 a4 a5 n d (bif wsB day t kn nd mb kd x y then t ||| 2 ^ y else t) al (day + 1) nd (bif wsB day t kn nd mb kd x y then upd mk y (nI x) else mk) (bif wsB day t kn nd mb kd x y then upd si y (nI (day + 1)) else si) (bif wsB day t kn nd mb kd x y then va_up kn x (kn x ||| 2 ^ y) else kn) mb))) (va_A ((schW cI cD h a1 a2 a3 a4 a5 n d t al day nd mk si kn mb)) sz)) 0 0 (va_A ((schW cI cD h a1 a2 a3 a4 a5 n d t al day nd mk si kn mb)) sz) := by
  refine Met.ofW (cc := cX9_dispute) (maxL := 4) (ret := (some .boolean)) (by decide) rfl ?_
  intro p e s m args below meth c s₁ B hml hv
  obtain ⟨rfl, hH0, hCX⟩ := hv
  have hx := B.exec
  have hb := B.bytes
  have hr := B.returns
  have hts := atoms_spec (ws := wsX9_dispute) B.pre
  have hown : s.vm.findClass RX9 = some m.cls := findClass_of_methodNamed B.named
  have hlocks := B.notSynchronized
  have hK := hCX.1
  obtain ⟨hsz, hP, hD0, hDP0⟩ := hH0
  subst hsz
  have hD := hD0.self (sz := s.heap.size)
  generalize hAe : va_A ((schW cI cD h a1 a2 a3 a4 a5 n d t al day nd mk si kn mb)) s.heap.size = A at hD ⊢
  have hA : ∀ q : Nat, s.heap.size ≤ q → A q := fun q h => by rw [← hAe]; exact Or.inr h
  have hS : va_S A s.heap s.heap [] := va_S.rf
  have hP : va_P (dC, dI) vwCl ((schW cI cD h a1 a2 a3 a4 a5 n d t al day nd mk si kn mb)) s.heap := hP
  have hDP := hDP0
  have hl := lv_entry ([.ref h, .int (nI x), .int (nI y)]) (n := 4) (Nat.le_of_ble_eq_true rfl)
  rw [lg_entry_eq]
  generalize (lg_sl ([.ref h, .int (nI x), .int (nI y)]) ++ List.replicate (4 - (lg_sl ([.ref h, .int (nI x), .int (nI y)])).length) Slot.unset).toArray = ls at hl ⊢
  have hl : lv_has ls 4 [(0, .ref h), (1, .int (nI x)), (2, .int (nI y))] := hl
  refine lv_aload_n hx hb dX9_dispute_0 rfl (lv_at hl 0 rfl) ?_
  refine lv_iload_n hx hb dX9_dispute_1 rfl (lv_at hl 1 rfl) ?_
  refine lv_iload_n hx hb dX9_dispute_2 rfl (lv_at hl 2 rfl) ?_
  refine vp_callSi ((va_runV (As := [.int (nI x), .int (nI y)]) (rest := []) ⟨hx, hb, hml, hown, hts⟩ (c_X9_wouldSilence l dC dI cI cD cR h a1 a2 a3 a4 a5 n d t al day nd mk si kn mb x y DL kd fg (by first | omega | assumption | exact gnd _ | exact gkn _ | exact Nat.lt_trans (gkn _) (by decide) | exact Nat.lt_trans (gnd _) (by decide)) (by first | omega | assumption | exact gnd _ | exact gkn _ | exact Nat.lt_trans (gkn _) (by decide) | exact Nat.lt_trans (gnd _) (by decide)) (by first | omega | assumption | exact gnd _ | exact gkn _ | exact Nat.lt_trans (gkn _) (by decide) | exact Nat.lt_trans (gnd _) (by decide)) (by first | omega | assumption | exact gnd _ | exact gkn _ | exact Nat.lt_trans (gkn _) (by decide) | exact Nat.lt_trans (gnd _) (by decide)) (by first | omega | assumption | exact gnd _ | exact gkn _ | exact Nat.lt_trans (gkn _) (by decide) | exact Nat.lt_trans (gnd _) (by decide)) gnd gkn (by first | omega | assumption | exact gnd _ | exact gkn _ | exact Nat.lt_trans (gkn _) (by decide) | exact Nat.lt_trans (gnd _) (by decide)) (by first | omega | assumption | exact gnd _ | exact gkn _ | exact Nat.lt_trans (gkn _) (by decide) | exact Nat.lt_trans (gnd _) (by decide)) gmb) (cwV 2 hts gX9_dispute_X9_wouldSilence rfl rfl rfl (by decide +kernel) ⟨Nat.le_of_ble_eq_true rfl, Nat.le_of_ble_eq_true rfl⟩) (preV_R hCX (va_recv hK hP (ci := 9) (q0 := 0) rfl rfl) (⟨hP, hDP⟩)) rfl rfl hl.1 rfl (lv_room (Nat.le_of_ble_eq_true rfl)) dX9_dispute_3 ⟨Nat.le_of_ble_eq_true (by first | rfl | decide), Nat.le_of_ble_eq_true (by first | rfl | decide)⟩).run) (fun r_3 hr_3 => ?_)
  subst hr_3
  refine lv_istore_n (lv' := [(3, .int (bI (wsB day t kn nd mb kd x y))), (0, .ref h), (1, .int (nI x)), (2, .int (nI y))]) hx hb dX9_dispute_6 rfl hl (by decide) rfl (fun ls hl => ?_)
  refine lv_aload_n hx hb dX9_dispute_7 rfl (lv_at hl 1 rfl) ?_
  refine lv_dup hx hb dX9_dispute_8 rfl ?_
  refine va_get (D := (dC, dI)) (ci := 9) (v := .int (nI day)) (C := RX9) (T := TX9) (N := 10) hx hb hts (fun _ h => List.mem_cons_of_mem _ (List.mem_append_right _ h)) hown hK hP 0 rfl rfl 4 (by decide) (hts (.fieldLink RX9 43 "HoldsOnceDenied$School" "day" "I") (by decide +kernel)) (fun _ h9 => h9) rfl dX9_dispute_9 ?_
  refine lv_iconst (v := nI 1) hx hb dX9_dispute_12 (by decide +kernel) ?_
  refine ho_iadd hx hb dX9_dispute_13 ?_
  refine va_put (D := (dC, dI)) (ci := 9) (v := .int (nI (day + 1))) (ty := .int) (C := RX9) (T := TX9) (N := 10) hx hb hts (fun _ h => List.mem_cons_of_mem _ (List.mem_append_right _ h)) tyX9 tyX9_ok nmX9 hown hK hP hD hS 0 rfl rfl 4 (by decide) (hts (.fieldLink RX9 43 "HoldsOnceDenied$School" "day" "I") (by decide +kernel)) (fun _ h9 => h9) rfl (by decide +kernel) rfl rfl (Nat.le_of_ble_eq_true rfl) dX9_dispute_14 (fun H locs hP hD hS => ?_)
  have hP : va_P (dC, dI) vwCl ((schW cI cD h a1 a2 a3 a4 a5 n d t al (day + 1) nd mk si kn mb)) H := hP
  have hD : va_D A ((schW cI cD h a1 a2 a3 a4 a5 n d t al (day + 1) nd mk si kn mb)) := hD
  refine lv_iload_n hx hb dX9_dispute_17 rfl (lv_at hl 0 rfl) ?_
  refine ho_beq (tgt := 34) hx hb dX9_dispute_18 (by decide) (fun c_18 => ?_) (fun c_18 => ?_)
  · refine lv_iload_n hx hb dX9_dispute_34 rfl (lv_at hl 0 rfl) ?_
    have hW9 : (schW cI cD h a1 a2 a3 a4 a5 n d t al (day + 1) nd mk si kn mb) = (schW cI cD h a1 a2 a3 a4 a5 n d (bif wsB day t kn nd mb kd x y then t ||| 2 ^ y else t) al (day + 1) nd (bif wsB day t kn nd mb kd x y then upd mk y (nI x) else mk) (bif wsB day t kn nd mb kd x y then upd si y (nI (day + 1)) else si) (bif wsB day t kn nd mb kd x y then va_up kn x (kn x ||| 2 ^ y) else kn) mb) := by simp only [c_18, cond_true, cond_false]
    rw [hW9] at hP hD
    exact W.zret (v := bI (wsB day t kn nd mb kd x y)) hx hb hr (bI_nar _) (fun T9 hT9 hW9 => ⟨⟨_, (), rfl, rfl, by rw [hT9]; exact hP, hD⟩, hS.F hT9⟩) hS.2.2 dX9_dispute_35
  refine lv_aload_n hx hb dX9_dispute_21 rfl (lv_at hl 1 rfl) ?_
  refine lv_iload_n hx hb dX9_dispute_22 rfl (lv_at hl 3 rfl) ?_
  refine lv_iload_n hx hb dX9_dispute_23 rfl (lv_at hl 2 rfl) ?_
  have hPc := hP
  have hDc := hD
  have hFc := va_free (wc := (schW cI cD h a1 a2 a3 a4 a5 n d t al (day + 1) nd mk si kn mb)) hD hS hA [0, 1, 2, 3, 4, 5] rfl
  refine va_callv (va_runV (As := [.int (nI y), .int (nI x)]) (rest := []) ⟨hx, hb, hml, hown, hts⟩ (c_X9_makeTrue l dC dI cI cD cR h a1 a2 a3 a4 a5 n d t al (day + 1) nd mk si kn mb y (nI x) H.size (by first | omega | assumption | exact gnd _ | exact gkn _ | exact Nat.lt_trans (gkn _) (by decide) | exact Nat.lt_trans (gnd _) (by decide)) (by first | omega | assumption | exact gnd _ | exact gkn _ | exact Nat.lt_trans (gkn _) (by decide) | exact Nat.lt_trans (gnd _) (by decide)) (by first | omega | exact or_512 ht (bit_512 hyy)) (by first | omega | assumption | exact gnd _ | exact gkn _ | exact Nat.lt_trans (gkn _) (by decide) | exact Nat.lt_trans (gnd _) (by decide)) (by first | omega | assumption | exact gnd _ | exact gkn _ | exact Nat.lt_trans (gkn _) (by decide) | exact Nat.lt_trans (gnd _) (by decide)) gnd gkn (by first | omega | assumption | exact gnd _ | exact gkn _ | exact Nat.lt_trans (gkn _) (by decide) | exact Nat.lt_trans (gnd _) (by decide))) (cwV 2 hts gX9_dispute_X9_makeTrue rfl rfl rfl (by decide +kernel) ⟨Nat.le_of_ble_eq_true rfl, Nat.le_of_ble_eq_true rfl⟩) (preV_R hCX (va_recv hK hP (ci := 9) (q0 := 0) rfl rfl) ⟨rfl, hPc, hDc.weaken (fun _ _ _ _ => trivial)⟩) rfl rfl hl.1 rfl (lv_room (Nat.le_of_ble_eq_true rfl)) dX9_dispute_24 ⟨Nat.le_of_ble_eq_true (by first | rfl | decide), Nat.le_of_ble_eq_true (by first | rfl | decide)⟩) hS (fun q _ h => hFc q h) hFc (fun u T8 H1 locs hT8 hvm hw hB hz1 hk1 hS => ?_)
  obtain ⟨hP1, hD1⟩ := hB
  rw [hT8] at hP1
  obtain ⟨hP, hD⟩ := va_join (wr := []) (w1 := (schW cI cD h a1 a2 a3 a4 a5 n d (t ||| 2 ^ y) al (day + 1) nd (upd mk y (nI x)) (upd si y (nI (day + 1))) kn mb)) hP hD [0, 1, 2, 3, 4, 5] [] rfl rfl (by decide) (by decide) hk1 hFc hP1 hD1
  generalize H1 = H at hP hS ⊢
  have hP : va_P (dC, dI) vwCl ((schW cI cD h a1 a2 a3 a4 a5 n d (t ||| 2 ^ y) al (day + 1) nd (upd mk y (nI x)) (upd si y (nI (day + 1))) kn mb)) H := hP
  have hD : va_D A ((schW cI cD h a1 a2 a3 a4 a5 n d (t ||| 2 ^ y) al (day + 1) nd (upd mk y (nI x)) (upd si y (nI (day + 1))) kn mb)) := hD
  refine lv_aload_n hx hb dX9_dispute_27 rfl (lv_at hl 1 rfl) ?_
  refine lv_iload_n hx hb dX9_dispute_28 rfl (lv_at hl 2 rfl) ?_
  refine lv_iload_n hx hb dX9_dispute_29 rfl (lv_at hl 3 rfl) ?_
  have hPc := hP
  have hDc := hD
  have hFc := va_free (wc := (schW cI cD h a1 a2 a3 a4 a5 n d (t ||| 2 ^ y) al (day + 1) nd (upd mk y (nI x)) (upd si y (nI (day + 1))) kn mb)) hD hS hA [0, 1, 2, 3, 4, 5] rfl
  refine va_calli (va_runV (As := [.int (nI x), .int (nI y)]) (rest := []) ⟨hx, hb, hml, hown, hts⟩ (c_X9_learn l dC dI cI cD cR h a1 a2 a3 a4 a5 n d (t ||| 2 ^ y) al (day + 1) nd (upd mk y (nI x)) (upd si y (nI (day + 1))) kn mb x y H.size (by first | omega | assumption | exact gnd _ | exact gkn _ | exact Nat.lt_trans (gkn _) (by decide) | exact Nat.lt_trans (gnd _) (by decide)) (by first | omega | assumption | exact gnd _ | exact gkn _ | exact Nat.lt_trans (gkn _) (by decide) | exact Nat.lt_trans (gnd _) (by decide)) (or_512 ht (bit_512 hyy)) (by first | omega | assumption | exact gnd _ | exact gkn _ | exact Nat.lt_trans (gkn _) (by decide) | exact Nat.lt_trans (gnd _) (by decide)) (by first | omega | assumption | exact gnd _ | exact gkn _ | exact Nat.lt_trans (gkn _) (by decide) | exact Nat.lt_trans (gnd _) (by decide)) gnd gkn (by first | omega | assumption | exact gnd _ | exact gkn _ | exact Nat.lt_trans (gkn _) (by decide) | exact Nat.lt_trans (gnd _) (by decide)) (by first | omega | assumption | exact gnd _ | exact gkn _ | exact Nat.lt_trans (gkn _) (by decide) | exact Nat.lt_trans (gnd _) (by decide))) (cwV 2 hts gX9_dispute_X9_learn rfl rfl rfl (by decide +kernel) ⟨Nat.le_of_ble_eq_true rfl, Nat.le_of_ble_eq_true rfl⟩) (preV_R hCX (va_recv hK hP (ci := 9) (q0 := 0) rfl rfl) ⟨rfl, hPc, hDc.weaken (fun _ _ _ _ => trivial)⟩) rfl rfl hl.1 rfl (lv_room (Nat.le_of_ble_eq_true rfl)) dX9_dispute_30 ⟨Nat.le_of_ble_eq_true (by first | rfl | decide), Nat.le_of_ble_eq_true (by first | rfl | decide)⟩) hS (fun q _ h => hFc q h) hFc (fun r_30 u T8 H1 locs hT8 hvm hw hB hz1 hk1 hS => ?_)
  obtain ⟨hP1, hD1⟩ := hB
  rw [hT8] at hP1
  obtain ⟨hP, hD⟩ := va_join (wr := []) (w1 := (schW cI cD h a1 a2 a3 a4 a5 n d (t ||| 2 ^ y) al (day + 1) nd (upd mk y (nI x)) (upd si y (nI (day + 1))) (va_up kn x (kn x ||| 2 ^ y)) mb)) hP hD [0, 1, 2, 3, 4, 5] [] rfl rfl (by decide) (by decide) hk1 hFc hP1 hD1
  generalize H1 = H at hP hS ⊢
  have hP : va_P (dC, dI) vwCl ((schW cI cD h a1 a2 a3 a4 a5 n d (t ||| 2 ^ y) al (day + 1) nd (upd mk y (nI x)) (upd si y (nI (day + 1))) (va_up kn x (kn x ||| 2 ^ y)) mb)) H := hP
  have hD : va_D A ((schW cI cD h a1 a2 a3 a4 a5 n d (t ||| 2 ^ y) al (day + 1) nd (upd mk y (nI x)) (upd si y (nI (day + 1))) (va_up kn x (kn x ||| 2 ^ y)) mb)) := hD
  subst hw
  refine lv_pop hx hb dX9_dispute_33 rfl ?_
  refine lv_iload_n hx hb dX9_dispute_34 rfl (lv_at hl 0 rfl) ?_
  have hW9 : (schW cI cD h a1 a2 a3 a4 a5 n d (t ||| 2 ^ y) al (day + 1) nd (upd mk y (nI x)) (upd si y (nI (day + 1))) (va_up kn x (kn x ||| 2 ^ y)) mb) = (schW cI cD h a1 a2 a3 a4 a5 n d (bif wsB day t kn nd mb kd x y then t ||| 2 ^ y else t) al (day + 1) nd (bif wsB day t kn nd mb kd x y then upd mk y (nI x) else mk) (bif wsB day t kn nd mb kd x y then upd si y (nI (day + 1)) else si) (bif wsB day t kn nd mb kd x y then va_up kn x (kn x ||| 2 ^ y) else kn) mb) := by simp only [c_18, cond_true, cond_false]
  rw [hW9] at hP hD
  exact W.zret (v := bI (wsB day t kn nd mb kd x y)) hx hb hr (bI_nar _) (fun T9 hT9 hW9 => ⟨⟨_, (), rfl, rfl, by rw [hT9]; exact hP, hD⟩, hS.F hT9⟩) hS.2.2 dX9_dispute_35
set_option maxHeartbeats 4000000 in
set_option maxRecDepth 100000 in
theorem c_X9_bury (l : Launch) (dC : Nat → ClassId) (dI : Nat → Nat → Nat) (cI cD cR : ClassId) (h a1 a2 a3 a4 a5 n d t al day : Nat) (nd : Nat → Nat) (mk si : Nat → Int32) (kn : Nat → Nat) (mb : Nat → Option Nat) (x f : Nat) (sz : Nat) (hn : n ≤ 9) (hd : d ≤ 6) (ht : t < 512) (hal : al < 64) (hday : day < 2 ^ 30) (gnd : ∀ i, nd i < 512) (gkn : ∀ j, kn j < 512) (hxx : x < 6) (hff : f < 512) : Met l yX9_bury wsX9_bury ({ frames := 1, cells := 0, slots := 0, locals := 20 }) (pcR dC dI cI cD cR [.ref h, .int (nI x), .int (nI f)] (fun H => H.size = sz ∧ va_P (dC, dI) vwCl ((schW cI cD h a1 a2 a3 a4 a5 n d t al day nd mk si kn mb)) H ∧ va_D (fun _ => True) ((schW cI cD h a1 a2 a3 a4 a5 n d t al day nd mk si kn mb)))) (va_Qv (fun (_ : Unit) => True) (fun (_ : Unit) T9 => va_P (dC, dI) vwCl ((schW cI cD h a1 a2 a3 a4 a5 n d (sdf t f) (sdf al (2 ^ x)) day nd mk si kn mb)) T9.heap ∧ va_D (va_A ((schW cI cD h a1 a2 a3 a4 a5 n d t al day nd mk si kn mb)) sz) ((schW cI cD h a1 a2 a3 a4 a5 n d (sdf t f) (sdf al (2 ^ x)) day nd mk si kn mb))) (va_A ((schW cI cD h a1 a2 a3 a4 a5 n d t al day nd mk si kn mb)) sz)) 0 0 (va_A ((schW cI cD h a1 a2 a3 a4 a5 n d t al day nd mk si kn mb)) sz) := by
  refine Met.ofW (cc := cX9_bury) (maxL := 3) (ret := none) (by decide) rfl ?_
  intro p e s m args below meth c s₁ B hml hv
  obtain ⟨rfl, hH0, hCX⟩ := hv
  have hx := B.exec
  have hb := B.bytes
  have hr := B.returns
  have hts := atoms_spec (ws := wsX9_bury) B.pre
  have hown : s.vm.findClass RX9 = some m.cls := findClass_of_methodNamed B.named
  have hlocks := B.notSynchronized
  have hK := hCX.1
  obtain ⟨hsz, hP, hD0⟩ := hH0
  subst hsz
  have hD := hD0.self (sz := s.heap.size)
  generalize hAe : va_A ((schW cI cD h a1 a2 a3 a4 a5 n d t al day nd mk si kn mb)) s.heap.size = A at hD ⊢
  have hA : ∀ q : Nat, s.heap.size ≤ q → A q := fun q h => by rw [← hAe]; exact Or.inr h
  have hS : va_S A s.heap s.heap [] := va_S.rf
  have hP : va_P (dC, dI) vwCl ((schW cI cD h a1 a2 a3 a4 a5 n d t al day nd mk si kn mb)) s.heap := hP
  have hl := lv_entry ([.ref h, .int (nI x), .int (nI f)]) (n := 3) (Nat.le_of_ble_eq_true rfl)
  rw [lg_entry_eq]
  generalize (lg_sl ([.ref h, .int (nI x), .int (nI f)]) ++ List.replicate (3 - (lg_sl ([.ref h, .int (nI x), .int (nI f)])).length) Slot.unset).toArray = ls at hl ⊢
  have hl : lv_has ls 3 [(0, .ref h), (1, .int (nI x)), (2, .int (nI f))] := hl
  refine lv_aload_n hx hb dX9_bury_0 rfl (lv_at hl 0 rfl) ?_
  refine lv_dup hx hb dX9_bury_1 rfl ?_
  refine va_get (D := (dC, dI)) (ci := 9) (v := .int (nI al)) (C := RX9) (T := TX9) (N := 10) hx hb hts (fun _ h => List.mem_cons_of_mem _ (List.mem_append_right _ h)) hown hK hP 0 rfl rfl 3 (by decide) (hts (.fieldLink RX9 40 "HoldsOnceDenied$School" "alive" "I") (by decide +kernel)) (fun _ h9 => h9) rfl dX9_bury_2 ?_
  refine lv_iload_n hx hb dX9_bury_5 rfl (lv_at hl 1 rfl) ?_
  refine vp_callSi ((va_runSN (As := [.int (nI x)]) (rest := [.int (nI al), .ref h]) ⟨hx, hb, hml, hown, hts⟩ (c_X11_bit l dC dI cI cD cR x (by first | omega | assumption | exact gnd _ | exact gkn _ | exact Nat.lt_trans (gkn _) (by decide) | exact Nat.lt_trans (gnd _) (by decide))) ⟨va_cnB (host := "HoldsOnceDenied") 1 hts gX9_bury_X11_bit_n66 rfl rfl rfl (CX.nm hCX 2 rfl) (hts (.initialized RX11) (by decide +kernel)) (by decide +kernel) ⟨Nat.le_of_ble_eq_true rfl, Nat.le_of_ble_eq_true rfl⟩, (hts (.static yX11_bit) (by decide +kernel)), trivial⟩ (preS_R hCX (trivial)) rfl rfl hl.1 rfl (lv_room (Nat.le_of_ble_eq_true rfl)) dX9_bury_6 ⟨Nat.le_of_ble_eq_true (by first | rfl | decide), Nat.le_of_ble_eq_true (by first | rfl | decide)⟩).run) (fun r_6 hr_6 => ?_)
  subst hr_6
  refine lv_iconst (v := (-1)) hx hb dX9_bury_9 (by decide +kernel) ?_
  refine lv_ixor hx hb dX9_bury_10 ?_
  refine ho_iandC hx hb dX9_bury_11 ?_
  refine va_put (D := (dC, dI)) (ci := 9) (v := .int (nI (sdf al (2 ^ x)))) (ty := .int) (C := RX9) (T := TX9) (N := 10) hx hb hts (fun _ h => List.mem_cons_of_mem _ (List.mem_append_right _ h)) tyX9 tyX9_ok nmX9 hown hK hP hD hS 0 rfl rfl 3 (by decide) (hts (.fieldLink RX9 40 "HoldsOnceDenied$School" "alive" "I") (by decide +kernel)) (fun _ h9 => h9) rfl (by decide +kernel) rfl rfl (Nat.le_of_ble_eq_true rfl) dX9_bury_12 (fun H locs hP hD hS => ?_)
  have hP : va_P (dC, dI) vwCl ((schW cI cD h a1 a2 a3 a4 a5 n d t (sdf al (2 ^ x)) day nd mk si kn mb)) H := hP
  have hD : va_D A ((schW cI cD h a1 a2 a3 a4 a5 n d t (sdf al (2 ^ x)) day nd mk si kn mb)) := hD
  refine lv_aload_n hx hb dX9_bury_15 rfl (lv_at hl 0 rfl) ?_
  refine lv_dup hx hb dX9_bury_16 rfl ?_
  refine va_get (D := (dC, dI)) (ci := 9) (v := .int (nI t)) (C := RX9) (T := TX9) (N := 10) hx hb hts (fun _ h => List.mem_cons_of_mem _ (List.mem_append_right _ h)) hown hK hP 0 rfl rfl 2 (by decide) (hts (.fieldLink RX9 37 "HoldsOnceDenied$School" "truth" "I") (by decide +kernel)) (fun _ h9 => h9) rfl dX9_bury_17 ?_
  refine lv_iload_n hx hb dX9_bury_20 rfl (lv_at hl 2 rfl) ?_
  refine lv_iconst (v := (-1)) hx hb dX9_bury_21 (by decide +kernel) ?_
  refine lv_ixor hx hb dX9_bury_22 ?_
  refine ho_iandC hx hb dX9_bury_23 ?_
  refine va_put (D := (dC, dI)) (ci := 9) (v := .int (nI (sdf t f))) (ty := .int) (C := RX9) (T := TX9) (N := 10) hx hb hts (fun _ h => List.mem_cons_of_mem _ (List.mem_append_right _ h)) tyX9 tyX9_ok nmX9 hown hK hP hD hS 0 rfl rfl 2 (by decide) (hts (.fieldLink RX9 37 "HoldsOnceDenied$School" "truth" "I") (by decide +kernel)) (fun _ h9 => h9) rfl (by decide +kernel) rfl rfl (Nat.le_of_ble_eq_true rfl) dX9_bury_24 (fun H locs hP hD hS => ?_)
  have hP : va_P (dC, dI) vwCl ((schW cI cD h a1 a2 a3 a4 a5 n d (sdf t f) (sdf al (2 ^ x)) day nd mk si kn mb)) H := hP
  have hD : va_D A ((schW cI cD h a1 a2 a3 a4 a5 n d (sdf t f) (sdf al (2 ^ x)) day nd mk si kn mb)) := hD
  exact W.vret hx hb hr (fun T9 hT9 hW9 => ⟨⟨(), rfl, trivial, by rw [hT9]; exact hP, hD⟩, hS.F hT9⟩) hS.2.2 dX9_bury_27
set_option maxHeartbeats 4000000 in
set_option maxRecDepth 100000 in
theorem c_X9_join (l : Launch) (dC : Nat → ClassId) (dI : Nat → Nat → Nat) (cI cD cR : ClassId) (h a1 a2 a3 a4 a5 n d t al day : Nat) (nd : Nat → Nat) (mk si : Nat → Int32) (kn : Nat → Nat) (mb : Nat → Option Nat) (a : Nat) (DL : List Nat) (kd fg : Nat → Nat) (sz : Nat) (hn : n ≤ 9) (hd : d ≤ 6) (ht : t < 512) (hal : al < 64) (hday : day < 2 ^ 30) (gnd : ∀ i, nd i < 512) (gkn : ∀ j, kn j < 512) (ga : a ∈ DL) (gmb : ∀ j a, mb j = some a → a ∈ DL) : Met l yX9_join wsX9_join ({ frames := 1, cells := 0, slots := 0, locals := 20 }) (pcR dC dI cI cD cR [.ref h, .ref a] (fun H => H.size = sz ∧ va_P (dC, dI) vwCl ((schW cI cD h a1 a2 a3 a4 a5 n d t al day nd mk si kn mb)) H ∧ va_D (fun _ => True) ((schW cI cD h a1 a2 a3 a4 a5 n d t al day nd mk si kn mb)) ∧ DP dC dI DL kd fg H)) (va_Qi (fun r (_ : Unit) => r = (cond (decide (d < 6)) (nI d) (-2))) (fun (_ : Unit) T9 => va_P (dC, dI) vwCl ((schW cI cD h a1 a2 a3 a4 a5 n (bif decide (d < 6) then d + 1 else d) t (bif decide (d < 6) then al ||| 2 ^ d else al) day nd mk si (bif decide (d < 6) then va_up kn d 0 else kn) (bif decide (d < 6) then va_up mb d (some a) else mb))) T9.heap ∧ va_D (va_A ((schW cI cD h a1 a2 a3 a4 a5 n d t al day nd mk si kn mb)) sz) ((schW cI cD h a1 a2 a3 a4 a5 n (bif decide (d < 6) then d + 1 else d) t (bif decide (d < 6) then al ||| 2 ^ d else al) day nd mk si (bif decide (d < 6) then va_up kn d 0 else kn) (bif decide (d < 6) then va_up mb d (some a) else mb)))) (va_A ((schW cI cD h a1 a2 a3 a4 a5 n d t al day nd mk si kn mb)) sz)) 0 0 (va_A ((schW cI cD h a1 a2 a3 a4 a5 n d t al day nd mk si kn mb)) sz) := by
  refine Met.ofW (cc := cX9_join) (maxL := 2) (ret := (some .int)) (by decide) rfl ?_
  intro p e s m args below meth c s₁ B hml hv
  obtain ⟨rfl, hH0, hCX⟩ := hv
  have hx := B.exec
  have hb := B.bytes
  have hr := B.returns
  have hts := atoms_spec (ws := wsX9_join) B.pre
  have hown : s.vm.findClass RX9 = some m.cls := findClass_of_methodNamed B.named
  have hlocks := B.notSynchronized
  have hK := hCX.1
  obtain ⟨hsz, hP, hD0, hDP0⟩ := hH0
  subst hsz
  have hD := hD0.self (sz := s.heap.size)
  generalize hAe : va_A ((schW cI cD h a1 a2 a3 a4 a5 n d t al day nd mk si kn mb)) s.heap.size = A at hD ⊢
  have hA : ∀ q : Nat, s.heap.size ≤ q → A q := fun q h => by rw [← hAe]; exact Or.inr h
  have hS : va_S A s.heap s.heap [] := va_S.rf
  have hP : va_P (dC, dI) vwCl ((schW cI cD h a1 a2 a3 a4 a5 n d t al day nd mk si kn mb)) s.heap := hP
  have hDP := hDP0
  have hl := lv_entry ([.ref h, .ref a]) (n := 2) (Nat.le_of_ble_eq_true rfl)
  rw [lg_entry_eq]
  generalize (lg_sl ([.ref h, .ref a]) ++ List.replicate (2 - (lg_sl ([.ref h, .ref a])).length) Slot.unset).toArray = ls at hl ⊢
  have hl : lv_has ls 2 [(0, .ref h), (1, .ref a)] := hl
  refine lv_aload_n hx hb dX9_join_0 rfl (lv_at hl 1 rfl) ?_
  refine lv_ifnonnull (tgt := 6) hx hb dX9_join_1 (by decide) ?_
  refine lv_aload_n hx hb dX9_join_6 rfl (lv_at hl 0 rfl) ?_
  refine va_get (D := (dC, dI)) (ci := 9) (v := .int (nI d)) (C := RX9) (T := TX9) (N := 10) hx hb hts (fun _ h => List.mem_cons_of_mem _ (List.mem_append_right _ h)) hown hK hP 0 rfl rfl 1 (by decide) (hts (.fieldLink RX9 34 "HoldsOnceDenied$School" "deniers" "I") (by decide +kernel)) (fun _ h9 => h9) rfl dX9_join_7 ?_
  refine ho_if_lt0 hx hb dX9_join_10 (tgt := 37) (by decide) (by omega) ?_
  refine lv_aload_n hx hb dX9_join_13 rfl (lv_at hl 0 rfl) ?_
  refine va_get (D := (dC, dI)) (ci := 9) (v := .int (nI d)) (C := RX9) (T := TX9) (N := 10) hx hb hts (fun _ h => List.mem_cons_of_mem _ (List.mem_append_right _ h)) hown hK hP 0 rfl rfl 1 (by decide) (hts (.fieldLink RX9 34 "HoldsOnceDenied$School" "deniers" "I") (by decide +kernel)) (fun _ h9 => h9) rfl dX9_join_14 ?_
  refine lv_aload_n hx hb dX9_join_17 rfl (lv_at hl 0 rfl) ?_
  refine va_get (D := (dC, dI)) (ci := 9) (v := .ref a5) (C := RX9) (T := TX9) (N := 10) hx hb hts (fun _ h => List.mem_cons_of_mem _ (List.mem_append_right _ h)) hown hK hP 0 rfl rfl 9 (by decide) (hts (.fieldLink RX9 26 "HoldsOnceDenied$School" "members" "[LHoldsOnceDenied$Denier;") (by decide +kernel)) (fun _ h9 => h9) rfl dX9_join_18 ?_
  refine va_alen (v := nI 6) hx hb hK hP 5 1 rfl rfl rfl dX9_join_21 ?_
  refine ho_icmp_ge (tgt := 37) hx hb dX9_join_22 (by decide) (by omega) (by omega) (fun c_22 => ?_) (fun c_22 => ?_)
  · refine lv_bipush (v := (-2)) hx hb dX9_join_37 (by decide +kernel) ?_
    have hW9 : (schW cI cD h a1 a2 a3 a4 a5 n d t al day nd mk si kn mb) = (schW cI cD h a1 a2 a3 a4 a5 n (bif decide (d < 6) then d + 1 else d) t (bif decide (d < 6) then al ||| 2 ^ d else al) day nd mk si (bif decide (d < 6) then va_up kn d 0 else kn) (bif decide (d < 6) then va_up mb d (some a) else mb)) := by rw [show decide (d < 6) = false from decide_eq_false (by omega)]; rfl
    rw [hW9] at hP hD
    exact W.iret (v := (-2)) hx hb hr (fun T9 hT9 hW9 => ⟨⟨_, (), rfl, (by rw [show decide (d < 6) = false from decide_eq_false (by omega)]; rfl), by rw [hT9]; exact hP, hD⟩, hS.F hT9⟩) hS.2.2 dX9_join_39
  refine lv_aload_n hx hb dX9_join_25 rfl (lv_at hl 0 rfl) ?_
  refine va_get (D := (dC, dI)) (ci := 9) (v := .int (nI d)) (C := RX9) (T := TX9) (N := 10) hx hb hts (fun _ h => List.mem_cons_of_mem _ (List.mem_append_right _ h)) hown hK hP 0 rfl rfl 1 (by decide) (hts (.fieldLink RX9 34 "HoldsOnceDenied$School" "deniers" "I") (by decide +kernel)) (fun _ h9 => h9) rfl dX9_join_26 ?_
  refine lv_aload_n hx hb dX9_join_29 rfl (lv_at hl 0 rfl) ?_
  refine va_get (D := (dC, dI)) (ci := 9) (v := .ref a4) (C := RX9) (T := TX9) (N := 10) hx hb hts (fun _ h => List.mem_cons_of_mem _ (List.mem_append_right _ h)) hown hK hP 0 rfl rfl 8 (by decide) (hts (.fieldLink RX9 21 "HoldsOnceDenied$School" "known" "[I") (by decide +kernel)) (fun _ h9 => h9) rfl dX9_join_30 ?_
  refine va_alen (v := nI 6) hx hb hK hP 4 0 rfl rfl rfl dX9_join_33 ?_
  refine ho_icmp_lt (tgt := 40) hx hb dX9_join_34 (by decide) (by omega) (by omega) (fun c_34 => ?_) (fun c_34 => ?_)
  · refine lv_aload_n hx hb dX9_join_40 rfl (lv_at hl 0 rfl) ?_
    refine va_get (D := (dC, dI)) (ci := 9) (v := .ref a5) (C := RX9) (T := TX9) (N := 10) hx hb hts (fun _ h => List.mem_cons_of_mem _ (List.mem_append_right _ h)) hown hK hP 0 rfl rfl 9 (by decide) (hts (.fieldLink RX9 26 "HoldsOnceDenied$School" "members" "[LHoldsOnceDenied$Denier;") (by decide +kernel)) (fun _ h9 => h9) rfl dX9_join_41 ?_
    refine lv_aload_n hx hb dX9_join_44 rfl (lv_at hl 0 rfl) ?_
    refine va_get (D := (dC, dI)) (ci := 9) (v := .int (nI d)) (C := RX9) (T := TX9) (N := 10) hx hb hts (fun _ h => List.mem_cons_of_mem _ (List.mem_append_right _ h)) hown hK hP 0 rfl rfl 1 (by decide) (hts (.fieldLink RX9 34 "HoldsOnceDenied$School" "deniers" "I") (by decide +kernel)) (fun _ h9 => h9) rfl dX9_join_45 ?_
    refine lv_aload_n hx hb dX9_join_48 rfl (lv_at hl 1 rfl) ?_
    refine ho_aastM hx hb hK hP hD hS 5 1 rfl rfl (dn_any hCX hDP ga) (by omega) (by decide) dX9_join_49 (fun H locs hP hD hS => ?_)
    have hP : va_P (dC, dI) vwCl ((schW cI cD h a1 a2 a3 a4 a5 n d t al day nd mk si kn (va_up mb d (some a)))) H := hP
    have hD : va_D A ((schW cI cD h a1 a2 a3 a4 a5 n d t al day nd mk si kn (va_up mb d (some a)))) := hD
    refine lv_aload_n hx hb dX9_join_50 rfl (lv_at hl 0 rfl) ?_
    refine va_get (D := (dC, dI)) (ci := 9) (v := .ref a4) (C := RX9) (T := TX9) (N := 10) hx hb hts (fun _ h => List.mem_cons_of_mem _ (List.mem_append_right _ h)) hown hK hP 0 rfl rfl 8 (by decide) (hts (.fieldLink RX9 21 "HoldsOnceDenied$School" "known" "[I") (by decide +kernel)) (fun _ h9 => h9) rfl dX9_join_51 ?_
    refine lv_aload_n hx hb dX9_join_54 rfl (lv_at hl 0 rfl) ?_
    refine va_get (D := (dC, dI)) (ci := 9) (v := .int (nI d)) (C := RX9) (T := TX9) (N := 10) hx hb hts (fun _ h => List.mem_cons_of_mem _ (List.mem_append_right _ h)) hown hK hP 0 rfl rfl 1 (by decide) (hts (.fieldLink RX9 34 "HoldsOnceDenied$School" "deniers" "I") (by decide +kernel)) (fun _ h9 => h9) rfl dX9_join_55 ?_
    refine lv_iconst (v := nI 0) hx hb dX9_join_58 (by decide +kernel) ?_
    refine ho_iast (g := nF (va_up kn d 0)) hx hb hK hP hD hS 4 0 rfl rfl (by omega) (by decide) (nF_up _ _ _) dX9_join_59 (fun H locs hP hD hS => ?_)
    have hP : va_P (dC, dI) vwCl ((schW cI cD h a1 a2 a3 a4 a5 n d t al day nd mk si (va_up kn d 0) (va_up mb d (some a)))) H := hP
    have hD : va_D A ((schW cI cD h a1 a2 a3 a4 a5 n d t al day nd mk si (va_up kn d 0) (va_up mb d (some a)))) := hD
    refine lv_aload_n hx hb dX9_join_60 rfl (lv_at hl 0 rfl) ?_
    refine lv_dup hx hb dX9_join_61 rfl ?_
    refine va_get (D := (dC, dI)) (ci := 9) (v := .int (nI al)) (C := RX9) (T := TX9) (N := 10) hx hb hts (fun _ h => List.mem_cons_of_mem _ (List.mem_append_right _ h)) hown hK hP 0 rfl rfl 3 (by decide) (hts (.fieldLink RX9 40 "HoldsOnceDenied$School" "alive" "I") (by decide +kernel)) (fun _ h9 => h9) rfl dX9_join_62 ?_
    refine lv_aload_n hx hb dX9_join_65 rfl (lv_at hl 0 rfl) ?_
    refine va_get (D := (dC, dI)) (ci := 9) (v := .int (nI d)) (C := RX9) (T := TX9) (N := 10) hx hb hts (fun _ h => List.mem_cons_of_mem _ (List.mem_append_right _ h)) hown hK hP 0 rfl rfl 1 (by decide) (hts (.fieldLink RX9 34 "HoldsOnceDenied$School" "deniers" "I") (by decide +kernel)) (fun _ h9 => h9) rfl dX9_join_66 ?_
    refine vp_callSi ((va_runSN (As := [.int (nI d)]) (rest := [.int (nI al), .ref h]) ⟨hx, hb, hml, hown, hts⟩ (c_X11_bit l dC dI cI cD cR d (by first | omega | assumption | exact gnd _ | exact gkn _ | exact Nat.lt_trans (gkn _) (by decide) | exact Nat.lt_trans (gnd _) (by decide))) ⟨va_cnB (host := "HoldsOnceDenied") 1 hts gX9_join_X11_bit_n66 rfl rfl rfl (CX.nm hCX 2 rfl) (hts (.initialized RX11) (by decide +kernel)) (by decide +kernel) ⟨Nat.le_of_ble_eq_true rfl, Nat.le_of_ble_eq_true rfl⟩, (hts (.static yX11_bit) (by decide +kernel)), trivial⟩ (preS_R hCX (trivial)) rfl rfl hl.1 rfl (lv_room (Nat.le_of_ble_eq_true rfl)) dX9_join_69 ⟨Nat.le_of_ble_eq_true (by first | rfl | decide), Nat.le_of_ble_eq_true (by first | rfl | decide)⟩).run) (fun r_69 hr_69 => ?_)
    subst hr_69
    refine ho_ior hx hb dX9_join_72 ?_
    refine va_put (D := (dC, dI)) (ci := 9) (v := .int (nI (al ||| (2 ^ d)))) (ty := .int) (C := RX9) (T := TX9) (N := 10) hx hb hts (fun _ h => List.mem_cons_of_mem _ (List.mem_append_right _ h)) tyX9 tyX9_ok nmX9 hown hK hP hD hS 0 rfl rfl 3 (by decide) (hts (.fieldLink RX9 40 "HoldsOnceDenied$School" "alive" "I") (by decide +kernel)) (fun _ h9 => h9) rfl (by decide +kernel) rfl rfl (Nat.le_of_ble_eq_true rfl) dX9_join_73 (fun H locs hP hD hS => ?_)
    have hP : va_P (dC, dI) vwCl ((schW cI cD h a1 a2 a3 a4 a5 n d t (al ||| (2 ^ d)) day nd mk si (va_up kn d 0) (va_up mb d (some a)))) H := hP
    have hD : va_D A ((schW cI cD h a1 a2 a3 a4 a5 n d t (al ||| (2 ^ d)) day nd mk si (va_up kn d 0) (va_up mb d (some a)))) := hD
    refine lv_aload_n hx hb dX9_join_76 rfl (lv_at hl 0 rfl) ?_
    refine lv_dup hx hb dX9_join_77 rfl ?_
    refine va_get (D := (dC, dI)) (ci := 9) (v := .int (nI d)) (C := RX9) (T := TX9) (N := 10) hx hb hts (fun _ h => List.mem_cons_of_mem _ (List.mem_append_right _ h)) hown hK hP 0 rfl rfl 1 (by decide) (hts (.fieldLink RX9 34 "HoldsOnceDenied$School" "deniers" "I") (by decide +kernel)) (fun _ h9 => h9) rfl dX9_join_78 ?_
    refine lv_iconst (v := nI 1) hx hb dX9_join_81 (by decide +kernel) ?_
    refine ho_iadd hx hb dX9_join_82 ?_
    refine va_put (D := (dC, dI)) (ci := 9) (v := .int (nI (d + 1))) (ty := .int) (C := RX9) (T := TX9) (N := 10) hx hb hts (fun _ h => List.mem_cons_of_mem _ (List.mem_append_right _ h)) tyX9 tyX9_ok nmX9 hown hK hP hD hS 0 rfl rfl 1 (by decide) (hts (.fieldLink RX9 34 "HoldsOnceDenied$School" "deniers" "I") (by decide +kernel)) (fun _ h9 => h9) rfl (by decide +kernel) rfl rfl (Nat.le_of_ble_eq_true rfl) dX9_join_83 (fun H locs hP hD hS => ?_)
    have hP : va_P (dC, dI) vwCl ((schW cI cD h a1 a2 a3 a4 a5 n (d + 1) t (al ||| (2 ^ d)) day nd mk si (va_up kn d 0) (va_up mb d (some a)))) H := hP
    have hD : va_D A ((schW cI cD h a1 a2 a3 a4 a5 n (d + 1) t (al ||| (2 ^ d)) day nd mk si (va_up kn d 0) (va_up mb d (some a)))) := hD
    refine lv_aload_n hx hb dX9_join_86 rfl (lv_at hl 0 rfl) ?_
    refine va_get (D := (dC, dI)) (ci := 9) (v := .int (nI (d + 1))) (C := RX9) (T := TX9) (N := 10) hx hb hts (fun _ h => List.mem_cons_of_mem _ (List.mem_append_right _ h)) hown hK hP 0 rfl rfl 1 (by decide) (hts (.fieldLink RX9 34 "HoldsOnceDenied$School" "deniers" "I") (by decide +kernel)) (fun _ h9 => h9) rfl dX9_join_87 ?_
    refine lv_iconst (v := nI 1) hx hb dX9_join_90 (by decide +kernel) ?_
    refine ho_isub hx hb dX9_join_91 (by omega) ?_
    have hW9 : (schW cI cD h a1 a2 a3 a4 a5 n (d + 1) t (al ||| (2 ^ d)) day nd mk si (va_up kn d 0) (va_up mb d (some a))) = (schW cI cD h a1 a2 a3 a4 a5 n (bif decide (d < 6) then d + 1 else d) t (bif decide (d < 6) then al ||| 2 ^ d else al) day nd mk si (bif decide (d < 6) then va_up kn d 0 else kn) (bif decide (d < 6) then va_up mb d (some a) else mb)) := by rw [show decide (d < 6) = true from decide_eq_true (by omega)]; rfl
    rw [hW9] at hP hD
    exact W.iret (v := nI ((d + 1) - 1)) hx hb hr (fun T9 hT9 hW9 => ⟨⟨_, (), rfl, (by rw [show decide (d < 6) = true from decide_eq_true (by omega)]; rfl), by rw [hT9]; exact hP, hD⟩, hS.F hT9⟩) hS.2.2 dX9_join_92
  refine lv_bipush (v := (-2)) hx hb dX9_join_37 (by decide +kernel) ?_
  have hW9 : (schW cI cD h a1 a2 a3 a4 a5 n d t al day nd mk si kn mb) = (schW cI cD h a1 a2 a3 a4 a5 n (bif decide (d < 6) then d + 1 else d) t (bif decide (d < 6) then al ||| 2 ^ d else al) day nd mk si (bif decide (d < 6) then va_up kn d 0 else kn) (bif decide (d < 6) then va_up mb d (some a) else mb)) := by rw [show decide (d < 6) = false from decide_eq_false (by omega)]; rfl
  rw [hW9] at hP hD
  exact W.iret (v := (-2)) hx hb hr (fun T9 hT9 hW9 => ⟨⟨_, (), rfl, (by rw [show decide (d < 6) = false from decide_eq_false (by omega)]; rfl), by rw [hT9]; exact hP, hD⟩, hS.F hT9⟩) hS.2.2 dX9_join_39
set_option maxHeartbeats 4000000 in
set_option maxRecDepth 100000 in
theorem c_X9_join_0 (l : Launch) (dC : Nat → ClassId) (dI : Nat → Nat → Nat) (cI cD cR : ClassId) (h a1 a2 a3 a4 a5 n d t al day : Nat) (nd : Nat → Nat) (mk si : Nat → Int32) (kn : Nat → Nat) (mb : Nat → Option Nat) (sz : Nat) (hn : n ≤ 9) (hd : d ≤ 6) (ht : t < 512) (hal : al < 64) (hday : day < 2 ^ 30) (gnd : ∀ i, nd i < 512) (gkn : ∀ j, kn j < 512) : Met l yX9_join wsX9_join ({ frames := 0, cells := 0, slots := 0, locals := 0 }) (pcR dC dI cI cD cR [.ref h, .null] (fun H => H.size = sz ∧ va_P (dC, dI) vwCl ((schW cI cD h a1 a2 a3 a4 a5 n d t al day nd mk si kn mb)) H ∧ va_D (fun _ => True) ((schW cI cD h a1 a2 a3 a4 a5 n d t al day nd mk si kn mb)))) (va_Qi (fun r (_ : Unit) => r = (-1)) (fun (_ : Unit) T9 => va_P (dC, dI) vwCl ((schW cI cD h a1 a2 a3 a4 a5 n d t al day nd mk si kn mb)) T9.heap ∧ va_D (va_A ((schW cI cD h a1 a2 a3 a4 a5 n d t al day nd mk si kn mb)) sz) ((schW cI cD h a1 a2 a3 a4 a5 n d t al day nd mk si kn mb))) (va_A ((schW cI cD h a1 a2 a3 a4 a5 n d t al day nd mk si kn mb)) sz)) 0 0 (va_A ((schW cI cD h a1 a2 a3 a4 a5 n d t al day nd mk si kn mb)) sz) := by
  refine Met.ofW (cc := cX9_join) (maxL := 2) (ret := (some .int)) (by decide) rfl ?_
  intro p e s m args below meth c s₁ B hml hv
  obtain ⟨rfl, hH0, hCX⟩ := hv
  have hx := B.exec
  have hb := B.bytes
  have hr := B.returns
  have hts := atoms_spec (ws := wsX9_join) B.pre
  have hown : s.vm.findClass RX9 = some m.cls := findClass_of_methodNamed B.named
  have hlocks := B.notSynchronized
  have hK := hCX.1
  obtain ⟨hsz, hP, hD0⟩ := hH0
  subst hsz
  have hD := hD0.self (sz := s.heap.size)
  generalize hAe : va_A ((schW cI cD h a1 a2 a3 a4 a5 n d t al day nd mk si kn mb)) s.heap.size = A at hD ⊢
  have hA : ∀ q : Nat, s.heap.size ≤ q → A q := fun q h => by rw [← hAe]; exact Or.inr h
  have hS : va_S A s.heap s.heap [] := va_S.rf
  have hP : va_P (dC, dI) vwCl ((schW cI cD h a1 a2 a3 a4 a5 n d t al day nd mk si kn mb)) s.heap := hP
  have hl := lv_entry ([.ref h, .null]) (n := 2) (Nat.le_of_ble_eq_true rfl)
  rw [lg_entry_eq]
  generalize (lg_sl ([.ref h, .null]) ++ List.replicate (2 - (lg_sl ([.ref h, .null])).length) Slot.unset).toArray = ls at hl ⊢
  have hl : lv_has ls 2 [(0, .ref h), (1, .null)] := hl
  refine lv_aload_nN hx hb dX9_join_0 rfl (lv_at hl 1 rfl) ?_
  refine lv_ifnonnullN hx hb dX9_join_1 ?_
  refine lv_iconst (v := (-1)) hx hb dX9_join_4 (by decide +kernel) ?_
  exact W.iret (v := (-1)) hx hb hr (fun T9 hT9 hW9 => ⟨⟨_, (), rfl, (by simp [*]), by rw [hT9]; exact hP, hD⟩, hS.F hT9⟩) hS.2.2 dX9_join_5
set_option maxHeartbeats 4000000 in
set_option maxRecDepth 100000 in
theorem c_X9_become (l : Launch) (dC : Nat → ClassId) (dI : Nat → Nat → Nat) (cI cD cR : ClassId) (h a1 a2 a3 a4 a5 n d t al day : Nat) (nd : Nat → Nat) (mk si : Nat → Int32) (kn : Nat → Nat) (mb : Nat → Option Nat) (ho b1 b2 b3 b4 b5 no d_o to alo dayo : Nat) (ndo : Nat → Nat) (mko sio : Nat → Int32) (kno : Nat → Nat) (mbo : Nat → Option Nat) (DL : List Nat) (kd fg : Nat → Nat) (sz : Nat) (gmb : ∀ j a, mbo j = some a → a ∈ DL) (gro : ∀ a ∈ DL, ¬ va_A ((schW cI cD h a1 a2 a3 a4 a5 n d t al day nd mk si kn mb) ++ (schW cI cD ho b1 b2 b3 b4 b5 no d_o to alo dayo ndo mko sio kno mbo)) sz a) : Met l yX9_become wsX9_become ({ frames := 1, cells := 0, slots := 0, locals := 60 }) (pcR dC dI cI cD cR [.ref h, .ref ho] (fun H => H.size = sz ∧ va_P (dC, dI) vwCl ((schW cI cD h a1 a2 a3 a4 a5 n d t al day nd mk si kn mb) ++ (schW cI cD ho b1 b2 b3 b4 b5 no d_o to alo dayo ndo mko sio kno mbo)) H ∧ va_D (fun _ => True) ((schW cI cD h a1 a2 a3 a4 a5 n d t al day nd mk si kn mb) ++ (schW cI cD ho b1 b2 b3 b4 b5 no d_o to alo dayo ndo mko sio kno mbo)) ∧ DP dC dI DL kd fg H)) (va_Qv (fun (_ : Unit) => True) (fun (_ : Unit) T9 => va_P (dC, dI) vwCl ((schW cI cD h a1 a2 a3 a4 a5 no d_o to alo dayo ndo mko sio kno mbo) ++ (schW cI cD ho b1 b2 b3 b4 b5 no d_o to alo dayo ndo mko sio kno mbo)) T9.heap ∧ va_D (va_A ((schW cI cD h a1 a2 a3 a4 a5 n d t al day nd mk si kn mb) ++ (schW cI cD ho b1 b2 b3 b4 b5 no d_o to alo dayo ndo mko sio kno mbo)) sz) ((schW cI cD h a1 a2 a3 a4 a5 no d_o to alo dayo ndo mko sio kno mbo) ++ (schW cI cD ho b1 b2 b3 b4 b5 no d_o to alo dayo ndo mko sio kno mbo))) (va_A ((schW cI cD h a1 a2 a3 a4 a5 n d t al day nd mk si kn mb) ++ (schW cI cD ho b1 b2 b3 b4 b5 no d_o to alo dayo ndo mko sio kno mbo)) sz)) 0 0 (va_A ((schW cI cD h a1 a2 a3 a4 a5 n d t al day nd mk si kn mb) ++ (schW cI cD ho b1 b2 b3 b4 b5 no d_o to alo dayo ndo mko sio kno mbo)) sz) := by
  refine Met.ofW (cc := cX9_become) (maxL := 2) (ret := none) (by decide) rfl ?_
  intro p e s m args below meth c s₁ B hml hv
  obtain ⟨rfl, hH0, hCX⟩ := hv
  have hx := B.exec
  have hb := B.bytes
  have hr := B.returns
  have hts := atoms_spec (ws := wsX9_become) B.pre
  have hown : s.vm.findClass RX9 = some m.cls := findClass_of_methodNamed B.named
  have hlocks := B.notSynchronized
  have hK := hCX.1
  obtain ⟨hsz, hP, hD0, hDP0⟩ := hH0
  subst hsz
  have hD := hD0.self (sz := s.heap.size)
  generalize hAe : va_A ((schW cI cD h a1 a2 a3 a4 a5 n d t al day nd mk si kn mb) ++ (schW cI cD ho b1 b2 b3 b4 b5 no d_o to alo dayo ndo mko sio kno mbo)) s.heap.size = A at hD ⊢
  have hA : ∀ q : Nat, s.heap.size ≤ q → A q := fun q h => by rw [← hAe]; exact Or.inr h
  have hS : va_S A s.heap s.heap [] := va_S.rf
  have hP : va_P (dC, dI) vwCl ((schW cI cD h a1 a2 a3 a4 a5 n d t al day nd mk si kn mb) ++ (schW cI cD ho b1 b2 b3 b4 b5 no d_o to alo dayo ndo mko sio kno mbo)) s.heap := hP
  have hro : ∀ a ∈ DL, ¬ A a := by rw [← hAe]; exact gro
  have hDP := hDP0
  have hl := lv_entry ([.ref h, .ref ho]) (n := 2) (Nat.le_of_ble_eq_true rfl)
  rw [lg_entry_eq]
  generalize (lg_sl ([.ref h, .ref ho]) ++ List.replicate (2 - (lg_sl ([.ref h, .ref ho])).length) Slot.unset).toArray = ls at hl ⊢
  have hl : lv_has ls 2 [(0, .ref h), (1, .ref ho)] := hl
  refine lv_aload_n hx hb dX9_become_0 rfl (lv_at hl 0 rfl) ?_
  refine lv_aload_n hx hb dX9_become_1 rfl (lv_at hl 1 rfl) ?_
  refine va_get (D := (dC, dI)) (ci := 9) (v := .int (nI no)) (C := RX9) (T := TX9) (N := 10) hx hb hts (fun _ h => List.mem_cons_of_mem _ (List.mem_append_right _ h)) hown hK hP 6 rfl rfl 0 (by decide) (hts (.fieldLink RX9 30 "HoldsOnceDenied$School" "sentences" "I") (by decide +kernel)) (fun _ h9 => h9) rfl dX9_become_2 ?_
  refine va_put (D := (dC, dI)) (ci := 9) (v := .int (nI no)) (ty := .int) (C := RX9) (T := TX9) (N := 10) hx hb hts (fun _ h => List.mem_cons_of_mem _ (List.mem_append_right _ h)) tyX9 tyX9_ok nmX9 hown hK hP hD hS 0 rfl rfl 0 (by decide) (hts (.fieldLink RX9 30 "HoldsOnceDenied$School" "sentences" "I") (by decide +kernel)) (fun _ h9 => h9) rfl (by decide +kernel) rfl rfl (Nat.le_of_ble_eq_true rfl) dX9_become_5 (fun H locs hP hD hS => ?_)
  have hP : va_P (dC, dI) vwCl ((schW cI cD h a1 a2 a3 a4 a5 no d t al day nd mk si kn mb) ++ (schW cI cD ho b1 b2 b3 b4 b5 no d_o to alo dayo ndo mko sio kno mbo)) H := hP
  have hD : va_D A ((schW cI cD h a1 a2 a3 a4 a5 no d t al day nd mk si kn mb) ++ (schW cI cD ho b1 b2 b3 b4 b5 no d_o to alo dayo ndo mko sio kno mbo)) := hD
  refine lv_aload_n hx hb dX9_become_8 rfl (lv_at hl 0 rfl) ?_
  refine lv_aload_n hx hb dX9_become_9 rfl (lv_at hl 1 rfl) ?_
  refine va_get (D := (dC, dI)) (ci := 9) (v := .int (nI d_o)) (C := RX9) (T := TX9) (N := 10) hx hb hts (fun _ h => List.mem_cons_of_mem _ (List.mem_append_right _ h)) hown hK hP 6 rfl rfl 1 (by decide) (hts (.fieldLink RX9 34 "HoldsOnceDenied$School" "deniers" "I") (by decide +kernel)) (fun _ h9 => h9) rfl dX9_become_10 ?_
  refine va_put (D := (dC, dI)) (ci := 9) (v := .int (nI d_o)) (ty := .int) (C := RX9) (T := TX9) (N := 10) hx hb hts (fun _ h => List.mem_cons_of_mem _ (List.mem_append_right _ h)) tyX9 tyX9_ok nmX9 hown hK hP hD hS 0 rfl rfl 1 (by decide) (hts (.fieldLink RX9 34 "HoldsOnceDenied$School" "deniers" "I") (by decide +kernel)) (fun _ h9 => h9) rfl (by decide +kernel) rfl rfl (Nat.le_of_ble_eq_true rfl) dX9_become_13 (fun H locs hP hD hS => ?_)
  have hP : va_P (dC, dI) vwCl ((schW cI cD h a1 a2 a3 a4 a5 no d_o t al day nd mk si kn mb) ++ (schW cI cD ho b1 b2 b3 b4 b5 no d_o to alo dayo ndo mko sio kno mbo)) H := hP
  have hD : va_D A ((schW cI cD h a1 a2 a3 a4 a5 no d_o t al day nd mk si kn mb) ++ (schW cI cD ho b1 b2 b3 b4 b5 no d_o to alo dayo ndo mko sio kno mbo)) := hD
  refine lv_aload_n hx hb dX9_become_16 rfl (lv_at hl 0 rfl) ?_
  refine lv_aload_n hx hb dX9_become_17 rfl (lv_at hl 1 rfl) ?_
  refine va_get (D := (dC, dI)) (ci := 9) (v := .int (nI to)) (C := RX9) (T := TX9) (N := 10) hx hb hts (fun _ h => List.mem_cons_of_mem _ (List.mem_append_right _ h)) hown hK hP 6 rfl rfl 2 (by decide) (hts (.fieldLink RX9 37 "HoldsOnceDenied$School" "truth" "I") (by decide +kernel)) (fun _ h9 => h9) rfl dX9_become_18 ?_
  refine va_put (D := (dC, dI)) (ci := 9) (v := .int (nI to)) (ty := .int) (C := RX9) (T := TX9) (N := 10) hx hb hts (fun _ h => List.mem_cons_of_mem _ (List.mem_append_right _ h)) tyX9 tyX9_ok nmX9 hown hK hP hD hS 0 rfl rfl 2 (by decide) (hts (.fieldLink RX9 37 "HoldsOnceDenied$School" "truth" "I") (by decide +kernel)) (fun _ h9 => h9) rfl (by decide +kernel) rfl rfl (Nat.le_of_ble_eq_true rfl) dX9_become_21 (fun H locs hP hD hS => ?_)
  have hP : va_P (dC, dI) vwCl ((schW cI cD h a1 a2 a3 a4 a5 no d_o to al day nd mk si kn mb) ++ (schW cI cD ho b1 b2 b3 b4 b5 no d_o to alo dayo ndo mko sio kno mbo)) H := hP
  have hD : va_D A ((schW cI cD h a1 a2 a3 a4 a5 no d_o to al day nd mk si kn mb) ++ (schW cI cD ho b1 b2 b3 b4 b5 no d_o to alo dayo ndo mko sio kno mbo)) := hD
  refine lv_aload_n hx hb dX9_become_24 rfl (lv_at hl 0 rfl) ?_
  refine lv_aload_n hx hb dX9_become_25 rfl (lv_at hl 1 rfl) ?_
  refine va_get (D := (dC, dI)) (ci := 9) (v := .int (nI alo)) (C := RX9) (T := TX9) (N := 10) hx hb hts (fun _ h => List.mem_cons_of_mem _ (List.mem_append_right _ h)) hown hK hP 6 rfl rfl 3 (by decide) (hts (.fieldLink RX9 40 "HoldsOnceDenied$School" "alive" "I") (by decide +kernel)) (fun _ h9 => h9) rfl dX9_become_26 ?_
  refine va_put (D := (dC, dI)) (ci := 9) (v := .int (nI alo)) (ty := .int) (C := RX9) (T := TX9) (N := 10) hx hb hts (fun _ h => List.mem_cons_of_mem _ (List.mem_append_right _ h)) tyX9 tyX9_ok nmX9 hown hK hP hD hS 0 rfl rfl 3 (by decide) (hts (.fieldLink RX9 40 "HoldsOnceDenied$School" "alive" "I") (by decide +kernel)) (fun _ h9 => h9) rfl (by decide +kernel) rfl rfl (Nat.le_of_ble_eq_true rfl) dX9_become_29 (fun H locs hP hD hS => ?_)
  have hP : va_P (dC, dI) vwCl ((schW cI cD h a1 a2 a3 a4 a5 no d_o to alo day nd mk si kn mb) ++ (schW cI cD ho b1 b2 b3 b4 b5 no d_o to alo dayo ndo mko sio kno mbo)) H := hP
  have hD : va_D A ((schW cI cD h a1 a2 a3 a4 a5 no d_o to alo day nd mk si kn mb) ++ (schW cI cD ho b1 b2 b3 b4 b5 no d_o to alo dayo ndo mko sio kno mbo)) := hD
  refine lv_aload_n hx hb dX9_become_32 rfl (lv_at hl 0 rfl) ?_
  refine lv_aload_n hx hb dX9_become_33 rfl (lv_at hl 1 rfl) ?_
  refine va_get (D := (dC, dI)) (ci := 9) (v := .int (nI dayo)) (C := RX9) (T := TX9) (N := 10) hx hb hts (fun _ h => List.mem_cons_of_mem _ (List.mem_append_right _ h)) hown hK hP 6 rfl rfl 4 (by decide) (hts (.fieldLink RX9 43 "HoldsOnceDenied$School" "day" "I") (by decide +kernel)) (fun _ h9 => h9) rfl dX9_become_34 ?_
  refine va_put (D := (dC, dI)) (ci := 9) (v := .int (nI dayo)) (ty := .int) (C := RX9) (T := TX9) (N := 10) hx hb hts (fun _ h => List.mem_cons_of_mem _ (List.mem_append_right _ h)) tyX9 tyX9_ok nmX9 hown hK hP hD hS 0 rfl rfl 4 (by decide) (hts (.fieldLink RX9 43 "HoldsOnceDenied$School" "day" "I") (by decide +kernel)) (fun _ h9 => h9) rfl (by decide +kernel) rfl rfl (Nat.le_of_ble_eq_true rfl) dX9_become_37 (fun H locs hP hD hS => ?_)
  have hP : va_P (dC, dI) vwCl ((schW cI cD h a1 a2 a3 a4 a5 no d_o to alo dayo nd mk si kn mb) ++ (schW cI cD ho b1 b2 b3 b4 b5 no d_o to alo dayo ndo mko sio kno mbo)) H := hP
  have hD : va_D A ((schW cI cD h a1 a2 a3 a4 a5 no d_o to alo dayo nd mk si kn mb) ++ (schW cI cD ho b1 b2 b3 b4 b5 no d_o to alo dayo ndo mko sio kno mbo)) := hD
  refine lv_aload_n hx hb dX9_become_40 rfl (lv_at hl 1 rfl) ?_
  refine va_get (D := (dC, dI)) (ci := 9) (v := .ref b1) (C := RX9) (T := TX9) (N := 10) hx hb hts (fun _ h => List.mem_cons_of_mem _ (List.mem_append_right _ h)) hown hK hP 6 rfl rfl 5 (by decide) (hts (.fieldLink RX9 9 "HoldsOnceDenied$School" "needs" "[I") (by decide +kernel)) (fun _ h9 => h9) rfl dX9_become_41 ?_
  refine lv_iconst (v := nI 0) hx hb dX9_become_44 (by decide +kernel) ?_
  refine lv_aload_n hx hb dX9_become_45 rfl (lv_at hl 0 rfl) ?_
  refine va_get (D := (dC, dI)) (ci := 9) (v := .ref a1) (C := RX9) (T := TX9) (N := 10) hx hb hts (fun _ h => List.mem_cons_of_mem _ (List.mem_append_right _ h)) hown hK hP 0 rfl rfl 5 (by decide) (hts (.fieldLink RX9 9 "HoldsOnceDenied$School" "needs" "[I") (by decide +kernel)) (fun _ h9 => h9) rfl dX9_become_46 ?_
  refine lv_iconst (v := nI 0) hx hb dX9_become_49 (by decide +kernel) ?_
  refine lv_bipush (v := nI 9) hx hb dX9_become_50 (by decide +kernel) ?_
  refine ho_copyi hx hb (hml.trans hl.1.symm) hown (hts (.methodLink RX9 46 arraycopyName) (by decide +kernel)) (hts (.native arraycopyName) (by decide +kernel)) (hts (.static arraycopyName) (by decide +kernel)) (hts (.initialized "java/lang/System") (by decide +kernel)) hK hP hD hS 7 1 0 rfl rfl rfl (by decide) (Nat.le_of_ble_eq_true rfl) (Nat.le_of_ble_eq_true rfl) dX9_become_52 (fun H locs hP hD hS => ?_)
  have hP : va_P (dC, dI) vwCl ((schW cI cD h a1 a2 a3 a4 a5 no d_o to alo dayo ndo mk si kn mb) ++ (schW cI cD ho b1 b2 b3 b4 b5 no d_o to alo dayo ndo mko sio kno mbo)) H := hP
  have hD : va_D A ((schW cI cD h a1 a2 a3 a4 a5 no d_o to alo dayo ndo mk si kn mb) ++ (schW cI cD ho b1 b2 b3 b4 b5 no d_o to alo dayo ndo mko sio kno mbo)) := hD
  refine lv_aload_n hx hb dX9_become_55 rfl (lv_at hl 1 rfl) ?_
  refine va_get (D := (dC, dI)) (ci := 9) (v := .ref b2) (C := RX9) (T := TX9) (N := 10) hx hb hts (fun _ h => List.mem_cons_of_mem _ (List.mem_append_right _ h)) hown hK hP 6 rfl rfl 6 (by decide) (hts (.fieldLink RX9 15 "HoldsOnceDenied$School" "makers" "[I") (by decide +kernel)) (fun _ h9 => h9) rfl dX9_become_56 ?_
  refine lv_iconst (v := nI 0) hx hb dX9_become_59 (by decide +kernel) ?_
  refine lv_aload_n hx hb dX9_become_60 rfl (lv_at hl 0 rfl) ?_
  refine va_get (D := (dC, dI)) (ci := 9) (v := .ref a2) (C := RX9) (T := TX9) (N := 10) hx hb hts (fun _ h => List.mem_cons_of_mem _ (List.mem_append_right _ h)) hown hK hP 0 rfl rfl 6 (by decide) (hts (.fieldLink RX9 15 "HoldsOnceDenied$School" "makers" "[I") (by decide +kernel)) (fun _ h9 => h9) rfl dX9_become_61 ?_
  refine lv_iconst (v := nI 0) hx hb dX9_become_64 (by decide +kernel) ?_
  refine lv_bipush (v := nI 9) hx hb dX9_become_65 (by decide +kernel) ?_
  refine ho_copyi hx hb (hml.trans hl.1.symm) hown (hts (.methodLink RX9 46 arraycopyName) (by decide +kernel)) (hts (.native arraycopyName) (by decide +kernel)) (hts (.static arraycopyName) (by decide +kernel)) (hts (.initialized "java/lang/System") (by decide +kernel)) hK hP hD hS 8 2 0 rfl rfl rfl (by decide) (Nat.le_of_ble_eq_true rfl) (Nat.le_of_ble_eq_true rfl) dX9_become_67 (fun H locs hP hD hS => ?_)
  have hP : va_P (dC, dI) vwCl ((schW cI cD h a1 a2 a3 a4 a5 no d_o to alo dayo ndo mko si kn mb) ++ (schW cI cD ho b1 b2 b3 b4 b5 no d_o to alo dayo ndo mko sio kno mbo)) H := hP
  have hD : va_D A ((schW cI cD h a1 a2 a3 a4 a5 no d_o to alo dayo ndo mko si kn mb) ++ (schW cI cD ho b1 b2 b3 b4 b5 no d_o to alo dayo ndo mko sio kno mbo)) := hD
  refine lv_aload_n hx hb dX9_become_70 rfl (lv_at hl 1 rfl) ?_
  refine va_get (D := (dC, dI)) (ci := 9) (v := .ref b3) (C := RX9) (T := TX9) (N := 10) hx hb hts (fun _ h => List.mem_cons_of_mem _ (List.mem_append_right _ h)) hown hK hP 6 rfl rfl 7 (by decide) (hts (.fieldLink RX9 18 "HoldsOnceDenied$School" "since" "[I") (by decide +kernel)) (fun _ h9 => h9) rfl dX9_become_71 ?_
  refine lv_iconst (v := nI 0) hx hb dX9_become_74 (by decide +kernel) ?_
  refine lv_aload_n hx hb dX9_become_75 rfl (lv_at hl 0 rfl) ?_
  refine va_get (D := (dC, dI)) (ci := 9) (v := .ref a3) (C := RX9) (T := TX9) (N := 10) hx hb hts (fun _ h => List.mem_cons_of_mem _ (List.mem_append_right _ h)) hown hK hP 0 rfl rfl 7 (by decide) (hts (.fieldLink RX9 18 "HoldsOnceDenied$School" "since" "[I") (by decide +kernel)) (fun _ h9 => h9) rfl dX9_become_76 ?_
  refine lv_iconst (v := nI 0) hx hb dX9_become_79 (by decide +kernel) ?_
  refine lv_bipush (v := nI 9) hx hb dX9_become_80 (by decide +kernel) ?_
  refine ho_copyi hx hb (hml.trans hl.1.symm) hown (hts (.methodLink RX9 46 arraycopyName) (by decide +kernel)) (hts (.native arraycopyName) (by decide +kernel)) (hts (.static arraycopyName) (by decide +kernel)) (hts (.initialized "java/lang/System") (by decide +kernel)) hK hP hD hS 9 3 0 rfl rfl rfl (by decide) (Nat.le_of_ble_eq_true rfl) (Nat.le_of_ble_eq_true rfl) dX9_become_82 (fun H locs hP hD hS => ?_)
  have hP : va_P (dC, dI) vwCl ((schW cI cD h a1 a2 a3 a4 a5 no d_o to alo dayo ndo mko sio kn mb) ++ (schW cI cD ho b1 b2 b3 b4 b5 no d_o to alo dayo ndo mko sio kno mbo)) H := hP
  have hD : va_D A ((schW cI cD h a1 a2 a3 a4 a5 no d_o to alo dayo ndo mko sio kn mb) ++ (schW cI cD ho b1 b2 b3 b4 b5 no d_o to alo dayo ndo mko sio kno mbo)) := hD
  refine lv_aload_n hx hb dX9_become_85 rfl (lv_at hl 1 rfl) ?_
  refine va_get (D := (dC, dI)) (ci := 9) (v := .ref b4) (C := RX9) (T := TX9) (N := 10) hx hb hts (fun _ h => List.mem_cons_of_mem _ (List.mem_append_right _ h)) hown hK hP 6 rfl rfl 8 (by decide) (hts (.fieldLink RX9 21 "HoldsOnceDenied$School" "known" "[I") (by decide +kernel)) (fun _ h9 => h9) rfl dX9_become_86 ?_
  refine lv_iconst (v := nI 0) hx hb dX9_become_89 (by decide +kernel) ?_
  refine lv_aload_n hx hb dX9_become_90 rfl (lv_at hl 0 rfl) ?_
  refine va_get (D := (dC, dI)) (ci := 9) (v := .ref a4) (C := RX9) (T := TX9) (N := 10) hx hb hts (fun _ h => List.mem_cons_of_mem _ (List.mem_append_right _ h)) hown hK hP 0 rfl rfl 8 (by decide) (hts (.fieldLink RX9 21 "HoldsOnceDenied$School" "known" "[I") (by decide +kernel)) (fun _ h9 => h9) rfl dX9_become_91 ?_
  refine lv_iconst (v := nI 0) hx hb dX9_become_94 (by decide +kernel) ?_
  refine lv_bipush (v := nI 6) hx hb dX9_become_95 (by decide +kernel) ?_
  refine ho_copyi hx hb (hml.trans hl.1.symm) hown (hts (.methodLink RX9 46 arraycopyName) (by decide +kernel)) (hts (.native arraycopyName) (by decide +kernel)) (hts (.static arraycopyName) (by decide +kernel)) (hts (.initialized "java/lang/System") (by decide +kernel)) hK hP hD hS 10 4 0 rfl rfl rfl (by decide) (Nat.le_of_ble_eq_true rfl) (Nat.le_of_ble_eq_true rfl) dX9_become_97 (fun H locs hP hD hS => ?_)
  have hP : va_P (dC, dI) vwCl ((schW cI cD h a1 a2 a3 a4 a5 no d_o to alo dayo ndo mko sio kno mb) ++ (schW cI cD ho b1 b2 b3 b4 b5 no d_o to alo dayo ndo mko sio kno mbo)) H := hP
  have hD : va_D A ((schW cI cD h a1 a2 a3 a4 a5 no d_o to alo dayo ndo mko sio kno mb) ++ (schW cI cD ho b1 b2 b3 b4 b5 no d_o to alo dayo ndo mko sio kno mbo)) := hD
  refine lv_aload_n hx hb dX9_become_100 rfl (lv_at hl 1 rfl) ?_
  refine va_get (D := (dC, dI)) (ci := 9) (v := .ref b5) (C := RX9) (T := TX9) (N := 10) hx hb hts (fun _ h => List.mem_cons_of_mem _ (List.mem_append_right _ h)) hown hK hP 6 rfl rfl 9 (by decide) (hts (.fieldLink RX9 26 "HoldsOnceDenied$School" "members" "[LHoldsOnceDenied$Denier;") (by decide +kernel)) (fun _ h9 => h9) rfl dX9_become_101 ?_
  refine lv_iconst (v := nI 0) hx hb dX9_become_104 (by decide +kernel) ?_
  refine lv_aload_n hx hb dX9_become_105 rfl (lv_at hl 0 rfl) ?_
  refine va_get (D := (dC, dI)) (ci := 9) (v := .ref a5) (C := RX9) (T := TX9) (N := 10) hx hb hts (fun _ h => List.mem_cons_of_mem _ (List.mem_append_right _ h)) hown hK hP 0 rfl rfl 9 (by decide) (hts (.fieldLink RX9 26 "HoldsOnceDenied$School" "members" "[LHoldsOnceDenied$Denier;") (by decide +kernel)) (fun _ h9 => h9) rfl dX9_become_106 ?_
  refine lv_iconst (v := nI 0) hx hb dX9_become_109 (by decide +kernel) ?_
  refine lv_bipush (v := nI 6) hx hb dX9_become_110 (by decide +kernel) ?_
  refine ho_copyq hx hb (hml.trans hl.1.symm) hown (hts (.methodLink RX9 46 arraycopyName) (by decide +kernel)) (hts (.native arraycopyName) (by decide +kernel)) (hts (.static arraycopyName) (by decide +kernel)) (hts (.initialized "java/lang/System") (by decide +kernel)) hK hP hD hS 11 5 1 rfl rfl rfl (by decide) (fun i y hy => dn_any hCX (DP.keep hDP0 hro hS) (gmb i y hy)) (Nat.le_of_ble_eq_true rfl) (Nat.le_of_ble_eq_true rfl) dX9_become_112 (fun H locs hP hD hS => ?_)
  have hP : va_P (dC, dI) vwCl ((schW cI cD h a1 a2 a3 a4 a5 no d_o to alo dayo ndo mko sio kno mbo) ++ (schW cI cD ho b1 b2 b3 b4 b5 no d_o to alo dayo ndo mko sio kno mbo)) H := hP
  have hD : va_D A ((schW cI cD h a1 a2 a3 a4 a5 no d_o to alo dayo ndo mko sio kno mbo) ++ (schW cI cD ho b1 b2 b3 b4 b5 no d_o to alo dayo ndo mko sio kno mbo)) := hD
  exact W.vret hx hb hr (fun T9 hT9 hW9 => ⟨⟨(), rfl, trivial, by rw [hT9]; exact hP, hD⟩, hS.F hT9⟩) hS.2.2 dX9_become_115
