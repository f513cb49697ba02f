set_option maxHeartbeats 4000000 in
set_option maxRecDepth 100000 in
theorem c_X11_hire (l : Launch) (dC : Nat → ClassId) (dI : Nat → Nat → Nat) (cI cD cR : ClassId) (x sN sM sP : Nat) (pt : Bool) (fo da ra : Nat) (n1 n2 n3 n4 n5 : Nat) (n d t al day : Nat) (nd : Nat → Nat) (mk si : Nat → Int32) (kn : Nat → Nat) (mb : Nat → Option Nat) (l1 l2 l3 sa : Nat) (lk : Nat → Option Nat) (ef : Nat → Nat) (le : Nat → Option Nat) (f9 w : Int32) (DL : List Nat) (kd fg : Nat → Nat) (sz : Nat) (hn : n ≤ 9) (hd : d ≤ 6) (ht : t < 512) (hal : al < 64) (hday : day < 2 ^ 30) (gnd : ∀ i, nd i < 512) (gkn : ∀ j, kn j < 512) (gmb : ∀ j a, mb j = some a → a ∈ DL) (gef : ∀ i, ef i < 1000) (gro : ∀ a ∈ DL, ¬ va_A ([(x, .inr (11, [.ref sN, .ref sM, .ref sP, .int (bI pt), .ref fo, .ref da, .ref ra]))] ++ (schW cI cD sN n1 n2 n3 n4 n5 n d t al day nd mk si kn mb) ++ (forW cI fo l1 l2 l3 sa lk ef le)) sz a) : Met l yX11_hire wsX11_hire ({ frames := 6, cells := 8, slots := 16, locals := 143 }) (pcR dC dI cI cD cR [.ref x, .int f9, .int w] (fun H => H.size = sz ∧ va_P (dC, dI) vwCl ([(x, .inr (11, [.ref sN, .ref sM, .ref sP, .int (bI pt), .ref fo, .ref da, .ref ra]))] ++ (schW cI cD sN n1 n2 n3 n4 n5 n d t al day nd mk si kn mb) ++ (forW cI fo l1 l2 l3 sa lk ef le)) H ∧ va_D (fun _ => True) ([(x, .inr (11, [.ref sN, .ref sM, .ref sP, .int (bI pt), .ref fo, .ref da, .ref ra]))] ++ (schW cI cD sN n1 n2 n3 n4 n5 n d t al day nd mk si kn mb) ++ (forW cI fo l1 l2 l3 sa lk ef le)) ∧ DP dC dI DL kd fg H)) (va_Qi (fun r (_ : (Nat) × (Nat → Option Nat) × (Nat → Nat)) => r = (on1 (oN f9 10) (fun f1 => (if w = 0 then nI (hbK (fun kv => pcN (raR (cnL kv f1 0 6 nd n (lkI n al nd kn mb kd fg 6)) (fun _ => 0) 9 t)) 8) else if w = 1 then oM (hbV (fun kv => pcN (raR (cnL kv f1 0 6 nd n (lkI n al nd kn mb kd fg 6)) (fun _ => 0) 9 t)) 8) else -1)) (-1))) (fun (u9 : (Nat) × (Nat → Option Nat) × (Nat → Nat)) T9 => va_P (dC, dI) vwCl ([(x, .inr (11, [.ref sN, .ref sM, .ref sP, .int (bI pt), .ref fo, .ref da, .ref ra]))] ++ (schW cI cD sN n1 n2 n3 n4 n5 n d t al day nd mk si kn mb) ++ (forW cI fo l1 l2 l3 u9.1 u9.2.1 u9.2.2 le)) T9.heap ∧ va_D (va_A ([(x, .inr (11, [.ref sN, .ref sM, .ref sP, .int (bI pt), .ref fo, .ref da, .ref ra]))] ++ (schW cI cD sN n1 n2 n3 n4 n5 n d t al day nd mk si kn mb) ++ (forW cI fo l1 l2 l3 sa lk ef le)) sz) ([(x, .inr (11, [.ref sN, .ref sM, .ref sP, .int (bI pt), .ref fo, .ref da, .ref ra]))] ++ (schW cI cD sN n1 n2 n3 n4 n5 n d t al day nd mk si kn mb) ++ (forW cI fo l1 l2 l3 u9.1 u9.2.1 u9.2.2 le)) ∧ (∀ i, u9.2.2 i < 1000)) (va_A ([(x, .inr (11, [.ref sN, .ref sM, .ref sP, .int (bI pt), .ref fo, .ref da, .ref ra]))] ++ (schW cI cD sN n1 n2 n3 n4 n5 n d t al day nd mk si kn mb) ++ (forW cI fo l1 l2 l3 sa lk ef le)) sz)) 8 16 (va_A ([(x, .inr (11, [.ref sN, .ref sM, .ref sP, .int (bI pt), .ref fo, .ref da, .ref ra]))] ++ (schW cI cD sN n1 n2 n3 n4 n5 n d t al day nd mk si kn mb) ++ (forW cI fo l1 l2 l3 sa lk ef le)) sz) := by
  refine Met.ofW (cc := cX11_hire) (maxL := 7) (ret := (some .int)) (by decide) rfl ?_
  intro p e s m args below meth c s₁ B hml hv
  obtain ⟨rfl, hH0, hCX⟩ := hv
  have hx := B.exec
  have hb := B.bytes
  have hr := B.returns
  have hts := atoms_spec (ws := wsX11_hire) B.pre
  have hown : s.vm.findClass RX11 = some m.cls := findClass_of_methodNamed B.named
  have hlocks := B.notSynchronized
  have hK := hCX.1
  obtain ⟨hsz, hP, hD0, hDP0⟩ := hH0
  subst hsz
  have hD := hD0.self (sz := s.heap.size)
  generalize hAe : va_A ([(x, .inr (11, [.ref sN, .ref sM, .ref sP, .int (bI pt), .ref fo, .ref da, .ref ra]))] ++ (schW cI cD sN n1 n2 n3 n4 n5 n d t al day nd mk si kn mb) ++ (forW cI fo l1 l2 l3 sa lk ef le)) s.heap.size = A at hD ⊢
  have hA : ∀ q : Nat, s.heap.size ≤ q → A q := fun q h => by rw [← hAe]; exact Or.inr h
  have hS : va_S A s.heap s.heap [] := va_S.rf
  have hP : va_P (dC, dI) vwCl ([(x, .inr (11, [.ref sN, .ref sM, .ref sP, .int (bI pt), .ref fo, .ref da, .ref ra]))] ++ (schW cI cD sN n1 n2 n3 n4 n5 n d t al day nd mk si kn mb) ++ (forW cI fo l1 l2 l3 sa lk ef le)) s.heap := hP
  have hro : ∀ a ∈ DL, ¬ A a := by rw [← hAe]; exact gro
  have hDP := hDP0
  have hl := lv_entry ([.ref x, .int f9, .int w]) (n := 7) (Nat.le_of_ble_eq_true rfl)
  rw [lg_entry_eq]
  generalize (lg_sl ([.ref x, .int f9, .int w]) ++ List.replicate (7 - (lg_sl ([.ref x, .int f9, .int w])).length) Slot.unset).toArray = ls at hl ⊢
  have hl : lv_has ls 7 [(0, .ref x), (1, .int f9), (2, .int w)] := hl
  rcases okI_or f9 (n := 10) (by omega) with hb_f9 | ⟨f1, h_f1, rfl⟩
  · refine lv_iload_n hx hb dX11_hire_0 rfl (lv_at hl 1 rfl) ?_
    refine vp_callSi ((va_runS (As := [.int f9]) (rest := []) ⟨hx, hb, hml, hown, hts⟩ (c_X11_isFigure_f l dC dI cI cD cR f9 (by first | omega | assumption | exact gnd _ | exact gkn _ | exact Nat.lt_trans (gkn _) (by decide) | exact Nat.lt_trans (gnd _) (by decide) | exact Nat.lt_of_le_of_lt (pcN_le _) (by decide))) (va_cwS 1 hts gX11_hire_X11_isFigure rfl rfl rfl (by decide +kernel) ⟨Nat.le_of_ble_eq_true rfl, Nat.le_of_ble_eq_true rfl⟩) (preS_R hCX (trivial)) rfl rfl hl.1 rfl (lv_room (Nat.le_of_ble_eq_true rfl)) dX11_hire_1 ⟨Nat.le_of_ble_eq_true (by first | rfl | decide), Nat.le_of_ble_eq_true (by first | rfl | decide)⟩).run) (fun r_1 hr_1 => ?_)
    subst hr_1
    refine lv_if_eq (tgt := 16) hx hb dX11_hire_4 (by decide) (fun _ => ?_) (fun z => absurd z (by decide +kernel))
    refine lv_iconst (v := (-1)) hx hb dX11_hire_16 (by decide +kernel) ?_
    refine W.widen (k := 8) (n := 16) (by first | decide | exact Nat.le_of_ble_eq_true rfl | (dsimp only; omega) | omega | (simp only [headSpec]; omega)) (by first | decide | exact Nat.le_of_ble_eq_true rfl | (dsimp only; omega) | omega | (simp only [headSpec]; omega)) ?_
    exact W.iret (v := (-1)) hx hb hr (fun T9 hT9 hW9 => ⟨⟨_, (sa, lk, ef), rfl, (by rw [oN_f hb_f9]; rfl), by rw [hT9]; exact hP, hD, gef⟩, hS.F hT9⟩) hS.2.2 dX11_hire_17
  refine lv_iload_n hx hb dX11_hire_0 rfl (lv_at hl 1 rfl) ?_
  refine vp_callSi ((va_runS (As := [.int (nI f1)]) (rest := []) ⟨hx, hb, hml, hown, hts⟩ (c_X11_isFigure_t l dC dI cI cD cR f1 (by first | omega | assumption | exact gnd _ | exact gkn _ | exact Nat.lt_trans (gkn _) (by decide) | exact Nat.lt_trans (gnd _) (by decide) | exact Nat.lt_of_le_of_lt (pcN_le _) (by decide))) (va_cwS 1 hts gX11_hire_X11_isFigure rfl rfl rfl (by decide +kernel) ⟨Nat.le_of_ble_eq_true rfl, Nat.le_of_ble_eq_true rfl⟩) (preS_R hCX (trivial)) rfl rfl hl.1 rfl (lv_room (Nat.le_of_ble_eq_true rfl)) dX11_hire_1 ⟨Nat.le_of_ble_eq_true (by first | rfl | decide), Nat.le_of_ble_eq_true (by first | rfl | decide)⟩).run) (fun r_1 hr_1 => ?_)
  subst hr_1
  refine lv_if_eq (tgt := 16) hx hb dX11_hire_4 (by decide) (fun z => absurd z (by decide +kernel)) (fun _ => ?_)
  refine lv_iload_n hx hb dX11_hire_7 rfl (lv_at hl 2 rfl) ?_
  refine lv_if_eq (tgt := 18) hx hb dX11_hire_8 (by decide) (fun c_8 => ?_) (fun c_8 => ?_)
  · refine lv_iconst (v := nI 0) hx hb dX11_hire_18 (by decide +kernel) ?_
    refine lv_istore_n (lv' := [(3, .int (nI 0)), (0, .ref x), (1, .int (nI f1)), (2, .int w)]) hx hb dX11_hire_19 rfl hl (by decide) rfl (fun ls hl => ?_)
    refine lv_iconst (v := (-1)) hx hb dX11_hire_20 (by decide +kernel) ?_
    refine lv_istore (lv' := [(4, .int (-1)), (3, .int (nI 0)), (0, .ref x), (1, .int (nI f1)), (2, .int w)]) hx hb dX11_hire_21 hl (by decide) rfl (fun ls hl => ?_)
    refine lv_iconst (v := nI 0) hx hb dX11_hire_23 (by decide +kernel) ?_
    refine lv_istore (lv' := [(5, .int (nI 0)), (4, .int (-1)), (3, .int (nI 0)), (0, .ref x), (1, .int (nI f1)), (2, .int w)]) hx hb dX11_hire_24 hl (by decide) rfl (fun ls hl => ?_)
    have e9_3 : 0 = hbK (fun kv => pcN (raR (cnL kv f1 0 6 nd n (lkI n al nd kn mb kd fg 6)) (fun _ => 0) 9 t)) 0 := by rfl
    have hl : lv_has ls 7 [(5, .int (nI 0)), (4, .int (-1)), (3, .int (nI (hbK (fun kv => pcN (raR (cnL kv f1 0 6 nd n (lkI n al nd kn mb kd fg 6)) (fun _ => 0) 9 t)) 0))), (0, .ref x), (1, .int (nI f1)), (2, .int w)] := by rw [← e9_3]; exact hl
    have e9_4 : ((-1) : Int32) = oM (hbV (fun kv => pcN (raR (cnL kv f1 0 6 nd n (lkI n al nd kn mb kd fg 6)) (fun _ => 0) 9 t)) 0) := by rfl
    have hl : lv_has ls 7 [(5, .int (nI 0)), (4, .int (oM (hbV (fun kv => pcN (raR (cnL kv f1 0 6 nd n (lkI n al nd kn mb kd fg 6)) (fun _ => 0) 9 t)) 0))), (3, .int (nI (hbK (fun kv => pcN (raR (cnL kv f1 0 6 nd n (lkI n al nd kn mb kd fg 6)) (fun _ => 0) 9 t)) 0))), (0, .ref x), (1, .int (nI f1)), (2, .int w)] := by rw [← e9_4]; exact hl
    refine ho_stk (cells2 := 0) (slots2 := 2 * 0) (by omega) (by omega) ?_
    refine ho_lpX (T := Nat × Nat × (Nat → Option Nat) × (Nat → Nat)) 7 (fun x9 => ([(x, .inr (11, [.ref sN, .ref sM, .ref sP, .int (bI pt), .ref fo, .ref da, .ref ra]))] ++ (schW cI cD sN n1 n2 n3 n4 n5 n d t al day nd mk si kn mb) ++ (forW cI fo l1 l2 l3 x9.2.1 x9.2.2.1 x9.2.2.2 le) : va_W)) (fun x9 => [(5, .int (nI x9.1)), (4, .int (oM (hbV (fun kv => pcN (raR (cnL kv f1 0 6 nd n (lkI n al nd kn mb kd fg 6)) (fun _ => 0) 9 t)) x9.1))), (3, .int (nI (hbK (fun kv => pcN (raR (cnL kv f1 0 6 nd n (lkI n al nd kn mb kd fg 6)) (fun _ => 0) 9 t)) x9.1))), (0, .ref x), (1, .int (nI f1)), (2, .int w)]) (fun x9 => []) (fun x9 => (x9.1 ≤ 8) ∧ (∀ i, x9.2.2.2 i < 1000)) (fun x9 => 8 - x9.1) (fun x9 H9 => True) (fun x9 => x9.1) (fun x9 => 2 * x9.1) (0, sa, lk, ef) ⟨by omega, gef⟩ (lv_sub hl [0, 1, 2, 3, 4, 5] rfl) hP hD hS trivial ?_
    intro fu26 x9 H locs ls hI hm26 hP hD hS hE hl ih
    obtain ⟨k, saq, lkq, efq⟩ := x9
    obtain ⟨hk8q, gefq⟩ := hI
    have hl : lv_has ls 7 [(5, .int (nI k)), (4, .int (oM (hbV (fun kv => pcN (raR (cnL kv f1 0 6 nd n (lkI n al nd kn mb kd fg 6)) (fun _ => 0) 9 t)) k))), (3, .int (nI (hbK (fun kv => pcN (raR (cnL kv f1 0 6 nd n (lkI n al nd kn mb kd fg 6)) (fun _ => 0) 9 t)) k))), (0, .ref x), (1, .int (nI f1)), (2, .int w)] := hl
    have hk8q : k ≤ 8 := hk8q
    have gefq : ∀ i, efq i < 1000 := gefq
    have hm26 : 8 - k < fu26 + 1 := hm26
    have hP : va_P (dC, dI) vwCl ([(x, .inr (11, [.ref sN, .ref sM, .ref sP, .int (bI pt), .ref fo, .ref da, .ref ra]))] ++ (schW cI cD sN n1 n2 n3 n4 n5 n d t al day nd mk si kn mb) ++ (forW cI fo l1 l2 l3 saq lkq efq le)) H := hP
    have hD : va_D A ([(x, .inr (11, [.ref sN, .ref sM, .ref sP, .int (bI pt), .ref fo, .ref da, .ref ra]))] ++ (schW cI cD sN n1 n2 n3 n4 n5 n d t al day nd mk si kn mb) ++ (forW cI fo l1 l2 l3 saq lkq efq le)) := hD
    refine W.eq (g2 := F0 m 26 ls []) rfl ?_
    have ih26 := ih
    refine lv_iload hx hb dX11_hire_26 (lv_at hl 0 rfl) ?_
    refine lv_bipush (v := nI 8) hx hb dX11_hire_28 (by decide +kernel) ?_
    refine ho_icmp_ge (tgt := 82) hx hb dX11_hire_30 (by decide) (by omega) (by omega) (fun c_30 => ?_) (fun c_30 => ?_)
    · refine lv_iload_n hx hb dX11_hire_82 rfl (lv_at hl 5 rfl) ?_
      refine lv_if_ne (tgt := 90) hx hb dX11_hire_83 (by decide) (fun c_83 => ?_) (fun c_83 => ?_)
      · refine lv_iload hx hb dX11_hire_90 (lv_at hl 1 rfl) ?_
        refine W.widen (k := 8) (n := 16) (by first | decide | exact Nat.le_of_ble_eq_true rfl | (dsimp only; omega) | omega | (simp only [headSpec]; omega)) (by first | decide | exact Nat.le_of_ble_eq_true rfl | (dsimp only; omega) | omega | (simp only [headSpec]; omega)) ?_
        exact W.iret (v := oM (hbV (fun kv => pcN (raR (cnL kv f1 0 6 nd n (lkI n al nd kn mb kd fg 6)) (fun _ => 0) 9 t)) k)) hx hb hr (fun T9 hT9 hW9 => ⟨⟨_, (saq, lkq, efq), rfl, (by rw [oN_t h_f1, on1_s, show k = 8 by omega]; first | exact (if_pos c_83).symm | exact ((if_neg c_83).trans (if_pos (by first | exact c_13 | exact absurd c_8 c_83))).symm), by rw [hT9]; exact hP, hD, gefq⟩, hS.F hT9⟩) hS.2.2 dX11_hire_92
      refine lv_iload_n hx hb dX11_hire_86 rfl (lv_at hl 2 rfl) ?_
      refine lv_goto (tgt := 92) hx hb dX11_hire_87 (by decide) ?_
      refine W.widen (k := 8) (n := 16) (by first | decide | exact Nat.le_of_ble_eq_true rfl | (dsimp only; omega) | omega | (simp only [headSpec]; omega)) (by first | decide | exact Nat.le_of_ble_eq_true rfl | (dsimp only; omega) | omega | (simp only [headSpec]; omega)) ?_
      exact W.iret (v := nI (hbK (fun kv => pcN (raR (cnL kv f1 0 6 nd n (lkI n al nd kn mb kd fg 6)) (fun _ => 0) 9 t)) k)) hx hb hr (fun T9 hT9 hW9 => ⟨⟨_, (saq, lkq, efq), rfl, (by rw [oN_t h_f1, on1_s, show k = 8 by omega]; first | exact (if_pos c_83).symm | exact ((if_neg c_83).trans (if_pos (by first | exact c_13 | exact absurd c_8 c_83))).symm), by rw [hT9]; exact hP, hD, gefq⟩, hS.F hT9⟩) hS.2.2 dX11_hire_92
    have hk8 : k < 8 := by omega
    refine lv_aload_n hx hb dX11_hire_33 rfl (lv_at hl 3 rfl) ?_
    refine va_get (D := (dC, dI)) (ci := 11) (v := .ref fo) (C := RX11) (T := TX11) (N := 7) hx hb hts (fun _ h => List.mem_cons_of_mem _ (List.mem_append_left _ (List.mem_append_left _ (List.mem_append_left _ (List.mem_append_left _ (List.mem_append_left _ (List.mem_append_left _ (List.mem_append_left _ (List.mem_append_left _ (List.mem_append_left _ (List.mem_append_left _ (List.mem_append_right _ h)))))))))))) hown hK hP 0 rfl rfl 4 (by decide) (hts (.fieldLink RX11 25 "HoldsOnceDenied" "foresight" "LHoldsOnceDenied$Foresight;") (by decide +kernel)) (fun _ h9 => h9) rfl dX11_hire_34 ?_
    refine lv_aload_n hx hb dX11_hire_37 rfl (lv_at hl 3 rfl) ?_
    refine va_get (D := (dC, dI)) (ci := 11) (v := .ref sN) (C := RX11) (T := TX11) (N := 7) hx hb hts (fun _ h => List.mem_cons_of_mem _ (List.mem_append_left _ (List.mem_append_left _ (List.mem_append_left _ (List.mem_append_left _ (List.mem_append_left _ (List.mem_append_left _ (List.mem_append_left _ (List.mem_append_left _ (List.mem_append_left _ (List.mem_append_left _ (List.mem_append_right _ h)))))))))))) hown hK hP 0 rfl rfl 0 (by decide) (hts (.fieldLink RX11 10 "HoldsOnceDenied" "now" "LHoldsOnceDenied$School;") (by decide +kernel)) (fun _ h9 => h9) rfl dX11_hire_38 ?_
    refine lv_iload hx hb dX11_hire_41 (lv_at hl 0 rfl) ?_
    refine lv_iload_n hx hb dX11_hire_43 rfl (lv_at hl 4 rfl) ?_
    have hDPo := DP.keep hDP0 hro hS
    have hFc := va_free (wc := []) hD hS hA [] rfl
    refine va_callr (va_runS (As := [.int (nI k), .int (nI f1)]) (rest := [.ref sN, .ref fo]) ⟨hx, hb, hml, hown, hts⟩ (c_X11_newDenier l dC dI cI cD cR k f1 H.size (by first | omega | assumption | exact gnd _ | exact gkn _) (by first | omega | assumption | exact gnd _ | exact gkn _)) (va_cwS 2 hts gX11_hire_X11_newDenier rfl rfl rfl (by decide +kernel) ⟨Nat.le_of_ble_eq_true rfl, Nat.le_of_ble_eq_true rfl⟩) (preS_R hCX ⟨rfl, (fun k q h => by cases h), ⟨fun i j p q h => (by cases h), fun k q h => (by cases h)⟩⟩) rfl rfl hl.1 rfl (lv_room (Nat.le_of_ble_eq_true rfl)) dX11_hire_44 ⟨(by show k + 1 ≤ 8; omega), (by show 2 * k + 2 ≤ 16; omega)⟩) hS (fun q _ h => hFc q h) hFc (fun u q_44 T8 H1 locs hT8 hvm hw hB hz1 hk1 hS => ?_)
    obtain ⟨hP1, hD1⟩ := hB
    rw [hT8] at hP1
    have hnq := fr_no hDPo hD1
    obtain ⟨hP, hD⟩ := va_join (wr := [(x, .inr (11, [.ref sN, .ref sM, .ref sP, .int (bI pt), .ref fo, .ref da, .ref ra]))] ++ (schW cI cD sN n1 n2 n3 n4 n5 n d t al day nd mk si kn mb) ++ (forW cI fo l1 l2 l3 saq lkq efq le)) (w1 := [(q_44, dnE k f1)]) hP hD [] [0, 1, 2, 3, 4, 5, 6, 7, 8, 9, 10] rfl rfl (by decide) (by decide) hk1 hFc hP1 hD1
    generalize H1 = H at hP hS ⊢
    have hP : va_P (dC, dI) vwCl ([(x, .inr (11, [.ref sN, .ref sM, .ref sP, .int (bI pt), .ref fo, .ref da, .ref ra]))] ++ (schW cI cD sN n1 n2 n3 n4 n5 n d t al day nd mk si kn mb) ++ (forW cI fo l1 l2 l3 saq lkq efq le) ++ [(q_44, dnE k f1)]) H := hP
    have hD : va_D A ([(x, .inr (11, [.ref sN, .ref sM, .ref sP, .int (bI pt), .ref fo, .ref da, .ref ra]))] ++ (schW cI cD sN n1 n2 n3 n4 n5 n d t al day nd mk si kn mb) ++ (forW cI fo l1 l2 l3 saq lkq efq le) ++ [(q_44, dnE k f1)]) := hD
    have hPc := hP.sub (ws' := (forW cI fo l1 l2 l3 saq lkq efq le) ++ (schW cI cD sN n1 n2 n3 n4 n5 n d t al day nd mk si kn mb)) [7, 8, 9, 10, 1, 2, 3, 4, 5, 6] rfl
    have hDc := hD.sub (ws' := (forW cI fo l1 l2 l3 saq lkq efq le) ++ (schW cI cD sN n1 n2 n3 n4 n5 n d t al day nd mk si kn mb)) [7, 8, 9, 10, 1, 2, 3, 4, 5, 6] (by decide) rfl
    have hFc := va_free (wc := (forW cI fo l1 l2 l3 saq lkq efq le) ++ (schW cI cD sN n1 n2 n3 n4 n5 n d t al day nd mk si kn mb)) hD hS hA [7, 8, 9, 10, 1, 2, 3, 4, 5, 6] rfl
    refine va_callv (va_runV (As := [.ref sN, .ref q_44]) (rest := []) ⟨hx, hb, hml, hown, hts⟩ (c_X4_look l dC dI cI cD cR fo l1 l2 l3 saq lkq efq le sN n1 n2 n3 n4 n5 n d t al day nd mk si kn mb (q_44 :: DL) (va_up kd q_44 k) (va_up fg q_44 f1) q_44 H.size (by first | omega | assumption | exact gnd _ | exact gkn _ | exact Nat.lt_trans (gkn _) (by decide) | exact Nat.lt_trans (gnd _) (by decide) | exact Nat.lt_of_le_of_lt (pcN_le _) (by decide)) (by first | omega | assumption | exact gnd _ | exact gkn _ | exact Nat.lt_trans (gkn _) (by decide) | exact Nat.lt_trans (gnd _) (by decide) | exact Nat.lt_of_le_of_lt (pcN_le _) (by decide)) (by first | omega | assumption | exact gnd _ | exact gkn _ | exact Nat.lt_trans (gkn _) (by decide) | exact Nat.lt_trans (gnd _) (by decide) | exact Nat.lt_of_le_of_lt (pcN_le _) (by decide)) (by first | omega | assumption | exact gnd _ | exact gkn _ | exact Nat.lt_trans (gkn _) (by decide) | exact Nat.lt_trans (gnd _) (by decide) | exact Nat.lt_of_le_of_lt (pcN_le _) (by decide)) (by first | omega | assumption | exact gnd _ | exact gkn _ | exact Nat.lt_trans (gkn _) (by decide) | exact Nat.lt_trans (gnd _) (by decide) | exact Nat.lt_of_le_of_lt (pcN_le _) (by decide)) gnd gkn (fun j a h => List.mem_cons_of_mem _ (gmb j a h)) List.mem_cons_self (gro_cons hD hP [7, 8, 9, 10, 1, 2, 3, 4, 5, 6] rfl (fun a9 ha9 h9 => hro a9 ha9 (hFc a9 h9)))) (cwV 2 hts gX11_hire_X4_look rfl rfl rfl (by decide +kernel) ⟨Nat.le_of_ble_eq_true rfl, Nat.le_of_ble_eq_true rfl⟩) (preV_R hCX (va_recv hK hP (ci := 4) (q0 := 7) rfl rfl) ⟨rfl, hPc, hDc.weaken (fun _ _ _ _ => trivial), (DP.more (DP.keep hDP0 hro hS) hnq (hP.sub (ws' := [(q_44, dnE k f1)]) [11] rfl) hk8 h_f1)⟩) rfl rfl hl.1 rfl (lv_room (Nat.le_of_ble_eq_true rfl)) dX11_hire_47 ⟨by first | (show _ ≤ 8; omega) | (show _ ≤ 16; omega), by first | (show _ ≤ 8; omega) | (show _ ≤ 16; omega)⟩) hS (fun q _ h => hFc q h) hFc (fun u T8 H1 locs hT8 hvm hw hB hz1 hk1 hS => ?_)
    obtain ⟨hP1, hD1⟩ := hB
    rw [hT8] at hP1
    obtain ⟨hP, hD⟩ := va_join (wr := [(x, .inr (11, [.ref sN, .ref sM, .ref sP, .int (bI pt), .ref fo, .ref da, .ref ra]))] ++ [(q_44, dnE k f1)]) (w1 := (forW cI fo l1 l2 l3 t (cnL ((va_up kd q_44 k) q_44) ((va_up fg q_44 f1) q_44) 0 6 nd n (lkI n al nd kn mb (va_up kd q_44 k) (va_up fg q_44 f1) 6)) (cnE ((va_up kd q_44 k) q_44) ((va_up fg q_44 f1) q_44) 0 6 nd n (efI n al nd kn mb (va_up kd q_44 k) (va_up fg q_44 f1) efq 6)) le) ++ (schW cI cD sN n1 n2 n3 n4 n5 n d t al day nd mk si kn mb)) hP hD [7, 8, 9, 10, 1, 2, 3, 4, 5, 6] [0, 11] rfl rfl (by decide) (by decide) hk1 hFc hP1 hD1
    generalize H1 = H at hP hS ⊢
    have hP := hP.sub (ws' := [(x, .inr (11, [.ref sN, .ref sM, .ref sP, .int (bI pt), .ref fo, .ref da, .ref ra]))] ++ (schW cI cD sN n1 n2 n3 n4 n5 n d t al day nd mk si kn mb) ++ (forW cI fo l1 l2 l3 t (cnL ((va_up kd q_44 k) q_44) ((va_up fg q_44 f1) q_44) 0 6 nd n (lkI n al nd kn mb (va_up kd q_44 k) (va_up fg q_44 f1) 6)) (cnE ((va_up kd q_44 k) q_44) ((va_up fg q_44 f1) q_44) 0 6 nd n (efI n al nd kn mb (va_up kd q_44 k) (va_up fg q_44 f1) efq 6)) le) ++ [(q_44, dnE k f1)]) [0, 6, 7, 8, 9, 10, 11, 2, 3, 4, 5, 1] rfl
    have hD := hD.sub (ws' := [(x, .inr (11, [.ref sN, .ref sM, .ref sP, .int (bI pt), .ref fo, .ref da, .ref ra]))] ++ (schW cI cD sN n1 n2 n3 n4 n5 n d t al day nd mk si kn mb) ++ (forW cI fo l1 l2 l3 t (cnL ((va_up kd q_44 k) q_44) ((va_up fg q_44 f1) q_44) 0 6 nd n (lkI n al nd kn mb (va_up kd q_44 k) (va_up fg q_44 f1) 6)) (cnE ((va_up kd q_44 k) q_44) ((va_up fg q_44 f1) q_44) 0 6 nd n (efI n al nd kn mb (va_up kd q_44 k) (va_up fg q_44 f1) efq 6)) le) ++ [(q_44, dnE k f1)]) [0, 6, 7, 8, 9, 10, 11, 2, 3, 4, 5, 1] (by decide) rfl
    have hcg : ∀ j a, mb j = some a → va_up kd q_44 k a = kd a ∧ va_up fg q_44 f1 a = fg a := fun j a h => ⟨up_old hnq gmb j a h, up_old hnq gmb j a h⟩
    rw [va_up_self, va_up_self, lkI_cong hcg, efI_cong hcg] at hP hD
    have hP := hP.sub (ws' := [(x, .inr (11, [.ref sN, .ref sM, .ref sP, .int (bI pt), .ref fo, .ref da, .ref ra]))] ++ (schW cI cD sN n1 n2 n3 n4 n5 n d t al day nd mk si kn mb) ++ (forW cI fo l1 l2 l3 t (cnL k f1 0 6 nd n (lkI n al nd kn mb kd fg 6)) (cnE k f1 0 6 nd n (efI n al nd kn mb kd fg efq 6)) le)) [0, 1, 2, 3, 4, 5, 6, 7, 8, 9, 10] rfl
    have hD := hD.sub (ws' := [(x, .inr (11, [.ref sN, .ref sM, .ref sP, .int (bI pt), .ref fo, .ref da, .ref ra]))] ++ (schW cI cD sN n1 n2 n3 n4 n5 n d t al day nd mk si kn mb) ++ (forW cI fo l1 l2 l3 t (cnL k f1 0 6 nd n (lkI n al nd kn mb kd fg 6)) (cnE k f1 0 6 nd n (efI n al nd kn mb kd fg efq 6)) le)) [0, 1, 2, 3, 4, 5, 6, 7, 8, 9, 10] (by decide) rfl
    refine lv_aload_n hx hb dX11_hire_50 rfl (lv_at hl 3 rfl) ?_
    refine va_get (D := (dC, dI)) (ci := 11) (v := .ref fo) (C := RX11) (T := TX11) (N := 7) hx hb hts (fun _ h => List.mem_cons_of_mem _ (List.mem_append_left _ (List.mem_append_left _ (List.mem_append_left _ (List.mem_append_left _ (List.mem_append_left _ (List.mem_append_left _ (List.mem_append_left _ (List.mem_append_left _ (List.mem_append_left _ (List.mem_append_left _ (List.mem_append_right _ h)))))))))))) hown hK hP 0 rfl rfl 4 (by decide) (hts (.fieldLink RX11 25 "HoldsOnceDenied" "foresight" "LHoldsOnceDenied$Foresight;") (by decide +kernel)) (fun _ h9 => h9) rfl dX11_hire_51 ?_
    refine vp_callSi ((va_runV (As := []) (rest := []) ⟨hx, hb, hml, hown, hts⟩ (c_X4_reachable l dC dI cI cD cR fo l1 l2 l3 t (cnL k f1 0 6 nd n (lkI n al nd kn mb kd fg 6)) (cnE k f1 0 6 nd n (efI n al nd kn mb kd fg efq 6)) le ht (cnL_lt gnd (lkI_lt (n := n) (al := al) (kn := kn) (mb := mb) (kd := kd) (fg := fg) gnd 6) n) (cnE_lt h_f1 (efI_lt (hfg := fun j a h => (hDP0 a (gmb j a h)).2.2) gefq 6) n)) (cwV 0 hts gX11_hire_X4_reachable rfl rfl rfl (by decide +kernel) ⟨Nat.le_of_ble_eq_true rfl, Nat.le_of_ble_eq_true rfl⟩) (preV_R hCX (va_recv hK hP (ci := 4) (q0 := 7) rfl rfl) ((hP.sub (ws' := (forW cI fo l1 l2 l3 t (cnL k f1 0 6 nd n (lkI n al nd kn mb kd fg 6)) (cnE k f1 0 6 nd n (efI n al nd kn mb kd fg efq 6)) le)) [7, 8, 9, 10] rfl))) rfl rfl hl.1 rfl (lv_room (Nat.le_of_ble_eq_true rfl)) dX11_hire_54 ⟨by first | (show _ ≤ 8; omega) | (show _ ≤ 16; omega), by first | (show _ ≤ 8; omega) | (show _ ≤ 16; omega)⟩).run) (fun r_54 hr_54 => ?_)
    subst hr_54
    refine vp_callSi ((va_runS (As := [.int (nI (raR (cnL k f1 0 6 nd n (lkI n al nd kn mb kd fg 6)) (cnE k f1 0 6 nd n (efI n al nd kn mb kd fg efq 6)) 9 t))]) (rest := []) ⟨hx, hb, hml, hown, hts⟩ (c_J6_bitCount_0f7a4 l dC dI cI cD cR (raR (cnL k f1 0 6 nd n (lkI n al nd kn mb kd fg 6)) (cnE k f1 0 6 nd n (efI n al nd kn mb kd fg efq 6)) 9 t) (Nat.lt_trans (raR_lt _ _ ht 9) (by decide))) (va_cwS 1 hts gX11_hire_J6_bitCount_0f7a4 rfl rfl rfl (by decide +kernel) ⟨Nat.le_of_ble_eq_true rfl, Nat.le_of_ble_eq_true rfl⟩) (preS_R hCX (trivial)) rfl rfl hl.1 rfl (lv_room (Nat.le_of_ble_eq_true rfl)) dX11_hire_57 ⟨by first | (show _ ≤ 8; omega) | (show _ ≤ 16; omega), by first | (show _ ≤ 8; omega) | (show _ ≤ 16; omega)⟩).run) (fun r_57 hr_57 => ?_)
    subst hr_57
    refine ho_tope (y := nI ((fun kv => pcN (raR (cnL kv f1 0 6 nd n (lkI n al nd kn mb kd fg 6)) (fun _ => 0) 9 t)) k)) (congrArg (fun z9 => nI (pcN z9)) (raR_ef 9)) ?_
    refine lv_istore (lv' := [(6, .int (nI ((fun kv => pcN (raR (cnL kv f1 0 6 nd n (lkI n al nd kn mb kd fg 6)) (fun _ => 0) 9 t)) k))), (5, .int (nI k)), (4, .int (oM (hbV (fun kv => pcN (raR (cnL kv f1 0 6 nd n (lkI n al nd kn mb kd fg 6)) (fun _ => 0) 9 t)) k))), (3, .int (nI (hbK (fun kv => pcN (raR (cnL kv f1 0 6 nd n (lkI n al nd kn mb kd fg 6)) (fun _ => 0) 9 t)) k))), (0, .ref x), (1, .int (nI f1)), (2, .int w)]) hx hb dX11_hire_60 hl (by decide) rfl (fun ls hl => ?_)
    refine lv_iload hx hb dX11_hire_62 (lv_at hl 0 rfl) ?_
    obtain ⟨q_64, hq_64⟩ : ∃ y, y = hbV (fun kv => pcN (raR (cnL kv f1 0 6 nd n (lkI n al nd kn mb kd fg 6)) (fun _ => 0) 9 t)) k := ⟨_, rfl⟩
    rw [← hq_64] at hl
    cases q_64 with
    | none =>
      have hl : lv_has ls 7 [(6, .int (nI ((fun kv => pcN (raR (cnL kv f1 0 6 nd n (lkI n al nd kn mb kd fg 6)) (fun _ => 0) 9 t)) k))), (5, .int (nI k)), (4, .int (-1)), (3, .int (nI (hbK (fun kv => pcN (raR (cnL kv f1 0 6 nd n (lkI n al nd kn mb kd fg 6)) (fun _ => 0) 9 t)) k))), (0, .ref x), (1, .int (nI f1)), (2, .int w)] := hl
      have hq_64 := hq_64.symm
      refine lv_iload hx hb dX11_hire_64 (lv_at hl 2 rfl) ?_
      refine lv_icmp_le (tgt := 76) hx hb dX11_hire_66 (by decide) (fun z => absurd z (ng_nle (Nat.lt_of_le_of_lt (pcN_le _) (by decide)) (by decide +kernel))) (fun _ => ?_)
      refine lv_iload hx hb dX11_hire_69 (lv_at hl 0 rfl) ?_
      refine lv_istore (lv' := [(4, .int (nI ((fun kv => pcN (raR (cnL kv f1 0 6 nd n (lkI n al nd kn mb kd fg 6)) (fun _ => 0) 9 t)) k))), (6, .int (nI ((fun kv => pcN (raR (cnL kv f1 0 6 nd n (lkI n al nd kn mb kd fg 6)) (fun _ => 0) 9 t)) k))), (5, .int (nI k)), (3, .int (nI (hbK (fun kv => pcN (raR (cnL kv f1 0 6 nd n (lkI n al nd kn mb kd fg 6)) (fun _ => 0) 9 t)) k))), (0, .ref x), (1, .int (nI f1)), (2, .int w)]) hx hb dX11_hire_71 hl (by decide) rfl (fun ls hl => ?_)
      refine lv_iload hx hb dX11_hire_73 (lv_at hl 2 rfl) ?_
      refine lv_istore_n (lv' := [(3, .int (nI k)), (4, .int (nI ((fun kv => pcN (raR (cnL kv f1 0 6 nd n (lkI n al nd kn mb kd fg 6)) (fun _ => 0) 9 t)) k))), (6, .int (nI ((fun kv => pcN (raR (cnL kv f1 0 6 nd n (lkI n al nd kn mb kd fg 6)) (fun _ => 0) 9 t)) k))), (5, .int (nI k)), (0, .ref x), (1, .int (nI f1)), (2, .int w)]) hx hb dX11_hire_75 rfl hl (by decide) rfl (fun ls hl => ?_)
      refine ho_iinc (lv' := [(5, .int (nI (k + 1))), (3, .int (nI k)), (4, .int (nI ((fun kv => pcN (raR (cnL kv f1 0 6 nd n (lkI n al nd kn mb kd fg 6)) (fun _ => 0) 9 t)) k))), (6, .int (nI ((fun kv => pcN (raR (cnL kv f1 0 6 nd n (lkI n al nd kn mb kd fg 6)) (fun _ => 0) 9 t)) k))), (0, .ref x), (1, .int (nI f1)), (2, .int w)]) (a := k) (b := 1) hx hb dX11_hire_76 hl (k := 3) rfl rfl (by decide) rfl (fun ls hl => ?_)
      refine lv_goto (tgt := 26) hx hb dX11_hire_79 (by decide) ?_
      have e9_3 : k = hbK (fun kv => pcN (raR (cnL kv f1 0 6 nd n (lkI n al nd kn mb kd fg 6)) (fun _ => 0) 9 t)) (k + 1) := by first | exact hbK_0 hq_64 | exact hbK_t hq_64 c_66 | exact hbK_f hq_64 c_66
      have hl : lv_has ls 7 [(5, .int (nI (k + 1))), (3, .int (nI (hbK (fun kv => pcN (raR (cnL kv f1 0 6 nd n (lkI n al nd kn mb kd fg 6)) (fun _ => 0) 9 t)) (k + 1)))), (4, .int (nI ((fun kv => pcN (raR (cnL kv f1 0 6 nd n (lkI n al nd kn mb kd fg 6)) (fun _ => 0) 9 t)) k))), (6, .int (nI ((fun kv => pcN (raR (cnL kv f1 0 6 nd n (lkI n al nd kn mb kd fg 6)) (fun _ => 0) 9 t)) k))), (0, .ref x), (1, .int (nI f1)), (2, .int w)] := by rw [← e9_3]; exact hl
      have e9_4 : (nI ((fun kv => pcN (raR (cnL kv f1 0 6 nd n (lkI n al nd kn mb kd fg 6)) (fun _ => 0) 9 t)) k) : Int32) = oM (hbV (fun kv => pcN (raR (cnL kv f1 0 6 nd n (lkI n al nd kn mb kd fg 6)) (fun _ => 0) 9 t)) (k + 1)) := by first | exact congrArg oM (hbV_0 hq_64) | exact congrArg oM (hbV_t hq_64 c_66) | exact congrArg oM (hbV_f hq_64 c_66)
      have hl : lv_has ls 7 [(5, .int (nI (k + 1))), (3, .int (nI (hbK (fun kv => pcN (raR (cnL kv f1 0 6 nd n (lkI n al nd kn mb kd fg 6)) (fun _ => 0) 9 t)) (k + 1)))), (4, .int (oM (hbV (fun kv => pcN (raR (cnL kv f1 0 6 nd n (lkI n al nd kn mb kd fg 6)) (fun _ => 0) 9 t)) (k + 1)))), (6, .int (nI ((fun kv => pcN (raR (cnL kv f1 0 6 nd n (lkI n al nd kn mb kd fg 6)) (fun _ => 0) 9 t)) k))), (0, .ref x), (1, .int (nI f1)), (2, .int w)] := by rw [← e9_4]; exact hl
      refine ho_stk (cells2 := (k + 1)) (slots2 := 2 * (k + 1)) (by omega) (by omega) ?_
      exact ih26 ((k + 1, t, cnL k f1 0 6 nd n (lkI n al nd kn mb kd fg 6), cnE k f1 0 6 nd n (efI n al nd kn mb kd fg efq 6))) _ _ _ ⟨by omega, cnE_lt h_f1 (efI_lt (hfg := fun j a h => (hDP0 a (gmb j a h)).2.2) gefq 6) n⟩ (show 8 - (k + 1) < fu26 from (by omega)) hP hD hS trivial (lv_sub hl [0, 2, 1, 4, 5, 6] rfl)
    | some vq_64 =>
      have hl : lv_has ls 7 [(6, .int (nI ((fun kv => pcN (raR (cnL kv f1 0 6 nd n (lkI n al nd kn mb kd fg 6)) (fun _ => 0) 9 t)) k))), (5, .int (nI k)), (4, .int (nI vq_64)), (3, .int (nI (hbK (fun kv => pcN (raR (cnL kv f1 0 6 nd n (lkI n al nd kn mb kd fg 6)) (fun _ => 0) 9 t)) k))), (0, .ref x), (1, .int (nI f1)), (2, .int w)] := hl
      have hq_64 := hq_64.symm
      have hv64 := hbV_le (E := (fun kv => pcN (raR (cnL kv f1 0 6 nd n (lkI n al nd kn mb kd fg 6)) (fun _ => 0) 9 t))) (fun k9 => pcN_le _) k _ hq_64
      refine lv_iload hx hb dX11_hire_64 (lv_at hl 2 rfl) ?_
      refine ho_icmp_le (tgt := 76) hx hb dX11_hire_66 (by decide) (Nat.lt_of_le_of_lt (pcN_le _) (by decide)) (by omega) (fun c_66 => ?_) (fun c_66 => ?_)
      · refine ho_iinc (lv' := [(5, .int (nI (k + 1))), (6, .int (nI ((fun kv => pcN (raR (cnL kv f1 0 6 nd n (lkI n al nd kn mb kd fg 6)) (fun _ => 0) 9 t)) k))), (4, .int (nI vq_64)), (3, .int (nI (hbK (fun kv => pcN (raR (cnL kv f1 0 6 nd n (lkI n al nd kn mb kd fg 6)) (fun _ => 0) 9 t)) k))), (0, .ref x), (1, .int (nI f1)), (2, .int w)]) (a := k) (b := 1) hx hb dX11_hire_76 hl (k := 1) rfl rfl (by decide) rfl (fun ls hl => ?_)
        refine lv_goto (tgt := 26) hx hb dX11_hire_79 (by decide) ?_
        have e9_3 : hbK (fun kv => pcN (raR (cnL kv f1 0 6 nd n (lkI n al nd kn mb kd fg 6)) (fun _ => 0) 9 t)) k = hbK (fun kv => pcN (raR (cnL kv f1 0 6 nd n (lkI n al nd kn mb kd fg 6)) (fun _ => 0) 9 t)) (k + 1) := by first | exact hbK_0 hq_64 | exact hbK_t hq_64 c_66 | exact hbK_f hq_64 c_66
        have hl : lv_has ls 7 [(5, .int (nI (k + 1))), (6, .int (nI ((fun kv => pcN (raR (cnL kv f1 0 6 nd n (lkI n al nd kn mb kd fg 6)) (fun _ => 0) 9 t)) k))), (4, .int (nI vq_64)), (3, .int (nI (hbK (fun kv => pcN (raR (cnL kv f1 0 6 nd n (lkI n al nd kn mb kd fg 6)) (fun _ => 0) 9 t)) (k + 1)))), (0, .ref x), (1, .int (nI f1)), (2, .int w)] := by rw [← e9_3]; exact hl
        have e9_4 : (nI vq_64 : Int32) = oM (hbV (fun kv => pcN (raR (cnL kv f1 0 6 nd n (lkI n al nd kn mb kd fg 6)) (fun _ => 0) 9 t)) (k + 1)) := by first | exact congrArg oM (hbV_0 hq_64) | exact congrArg oM (hbV_t hq_64 c_66) | exact congrArg oM (hbV_f hq_64 c_66)
        have hl : lv_has ls 7 [(5, .int (nI (k + 1))), (6, .int (nI ((fun kv => pcN (raR (cnL kv f1 0 6 nd n (lkI n al nd kn mb kd fg 6)) (fun _ => 0) 9 t)) k))), (4, .int (oM (hbV (fun kv => pcN (raR (cnL kv f1 0 6 nd n (lkI n al nd kn mb kd fg 6)) (fun _ => 0) 9 t)) (k + 1)))), (3, .int (nI (hbK (fun kv => pcN (raR (cnL kv f1 0 6 nd n (lkI n al nd kn mb kd fg 6)) (fun _ => 0) 9 t)) (k + 1)))), (0, .ref x), (1, .int (nI f1)), (2, .int w)] := by rw [← e9_4]; exact hl
        refine ho_stk (cells2 := (k + 1)) (slots2 := 2 * (k + 1)) (by omega) (by omega) ?_
        exact ih26 ((k + 1, t, cnL k f1 0 6 nd n (lkI n al nd kn mb kd fg 6), cnE k f1 0 6 nd n (efI n al nd kn mb kd fg efq 6))) _ _ _ ⟨by omega, cnE_lt h_f1 (efI_lt (hfg := fun j a h => (hDP0 a (gmb j a h)).2.2) gefq 6) n⟩ (show 8 - (k + 1) < fu26 from (by omega)) hP hD hS trivial (lv_sub hl [0, 2, 3, 4, 5, 6] rfl)
      refine lv_iload hx hb dX11_hire_69 (lv_at hl 0 rfl) ?_
      refine lv_istore (lv' := [(4, .int (nI ((fun kv => pcN (raR (cnL kv f1 0 6 nd n (lkI n al nd kn mb kd fg 6)) (fun _ => 0) 9 t)) k))), (6, .int (nI ((fun kv => pcN (raR (cnL kv f1 0 6 nd n (lkI n al nd kn mb kd fg 6)) (fun _ => 0) 9 t)) k))), (5, .int (nI k)), (3, .int (nI (hbK (fun kv => pcN (raR (cnL kv f1 0 6 nd n (lkI n al nd kn mb kd fg 6)) (fun _ => 0) 9 t)) k))), (0, .ref x), (1, .int (nI f1)), (2, .int w)]) hx hb dX11_hire_71 hl (by decide) rfl (fun ls hl => ?_)
      refine lv_iload hx hb dX11_hire_73 (lv_at hl 2 rfl) ?_
      refine lv_istore_n (lv' := [(3, .int (nI k)), (4, .int (nI ((fun kv => pcN (raR (cnL kv f1 0 6 nd n (lkI n al nd kn mb kd fg 6)) (fun _ => 0) 9 t)) k))), (6, .int (nI ((fun kv => pcN (raR (cnL kv f1 0 6 nd n (lkI n al nd kn mb kd fg 6)) (fun _ => 0) 9 t)) k))), (5, .int (nI k)), (0, .ref x), (1, .int (nI f1)), (2, .int w)]) hx hb dX11_hire_75 rfl hl (by decide) rfl (fun ls hl => ?_)
      refine ho_iinc (lv' := [(5, .int (nI (k + 1))), (3, .int (nI k)), (4, .int (nI ((fun kv => pcN (raR (cnL kv f1 0 6 nd n (lkI n al nd kn mb kd fg 6)) (fun _ => 0) 9 t)) k))), (6, .int (nI ((fun kv => pcN (raR (cnL kv f1 0 6 nd n (lkI n al nd kn mb kd fg 6)) (fun _ => 0) 9 t)) k))), (0, .ref x), (1, .int (nI f1)), (2, .int w)]) (a := k) (b := 1) hx hb dX11_hire_76 hl (k := 3) rfl rfl (by decide) rfl (fun ls hl => ?_)
      refine lv_goto (tgt := 26) hx hb dX11_hire_79 (by decide) ?_
      have e9_3 : k = hbK (fun kv => pcN (raR (cnL kv f1 0 6 nd n (lkI n al nd kn mb kd fg 6)) (fun _ => 0) 9 t)) (k + 1) := by first | exact hbK_0 hq_64 | exact hbK_t hq_64 c_66 | exact hbK_f hq_64 c_66
      have hl : lv_has ls 7 [(5, .int (nI (k + 1))), (3, .int (nI (hbK (fun kv => pcN (raR (cnL kv f1 0 6 nd n (lkI n al nd kn mb kd fg 6)) (fun _ => 0) 9 t)) (k + 1)))), (4, .int (nI ((fun kv => pcN (raR (cnL kv f1 0 6 nd n (lkI n al nd kn mb kd fg 6)) (fun _ => 0) 9 t)) k))), (6, .int (nI ((fun kv => pcN (raR (cnL kv f1 0 6 nd n (lkI n al nd kn mb kd fg 6)) (fun _ => 0) 9 t)) k))), (0, .ref x), (1, .int (nI f1)), (2, .int w)] := by rw [← e9_3]; exact hl
      have e9_4 : (nI ((fun kv => pcN (raR (cnL kv f1 0 6 nd n (lkI n al nd kn mb kd fg 6)) (fun _ => 0) 9 t)) k) : Int32) = oM (hbV (fun kv => pcN (raR (cnL kv f1 0 6 nd n (lkI n al nd kn mb kd fg 6)) (fun _ => 0) 9 t)) (k + 1)) := by first | exact congrArg oM (hbV_0 hq_64) | exact congrArg oM (hbV_t hq_64 c_66) | exact congrArg oM (hbV_f hq_64 c_66)
      have hl : lv_has ls 7 [(5, .int (nI (k + 1))), (3, .int (nI (hbK (fun kv => pcN (raR (cnL kv f1 0 6 nd n (lkI n al nd kn mb kd fg 6)) (fun _ => 0) 9 t)) (k + 1)))), (4, .int (oM (hbV (fun kv => pcN (raR (cnL kv f1 0 6 nd n (lkI n al nd kn mb kd fg 6)) (fun _ => 0) 9 t)) (k + 1)))), (6, .int (nI ((fun kv => pcN (raR (cnL kv f1 0 6 nd n (lkI n al nd kn mb kd fg 6)) (fun _ => 0) 9 t)) k))), (0, .ref x), (1, .int (nI f1)), (2, .int w)] := by rw [← e9_4]; exact hl
      refine ho_stk (cells2 := (k + 1)) (slots2 := 2 * (k + 1)) (by omega) (by omega) ?_
      exact ih26 ((k + 1, t, cnL k f1 0 6 nd n (lkI n al nd kn mb kd fg 6), cnE k f1 0 6 nd n (efI n al nd kn mb kd fg efq 6))) _ _ _ ⟨by omega, cnE_lt h_f1 (efI_lt (hfg := fun j a h => (hDP0 a (gmb j a h)).2.2) gefq 6) n⟩ (show 8 - (k + 1) < fu26 from (by omega)) hP hD hS trivial (lv_sub hl [0, 2, 1, 4, 5, 6] rfl)
  refine lv_iload_n hx hb dX11_hire_11 rfl (lv_at hl 2 rfl) ?_
  refine lv_iconst (v := nI 1) hx hb dX11_hire_12 (by decide +kernel) ?_
  refine lv_icmp_eq (tgt := 18) hx hb dX11_hire_13 (by decide) (fun c_13 => ?_) (fun c_13 => ?_)
  · have c_13 : w = 1 := c_13
    refine lv_iconst (v := nI 0) hx hb dX11_hire_18 (by decide +kernel) ?_
    refine lv_istore_n (lv' := [(3, .int (nI 0)), (0, .ref x), (1, .int (nI f1)), (2, .int w)]) hx hb dX11_hire_19 rfl hl (by decide) rfl (fun ls hl => ?_)
    refine lv_iconst (v := (-1)) hx hb dX11_hire_20 (by decide +kernel) ?_
    refine lv_istore (lv' := [(4, .int (-1)), (3, .int (nI 0)), (0, .ref x), (1, .int (nI f1)), (2, .int w)]) hx hb dX11_hire_21 hl (by decide) rfl (fun ls hl => ?_)
    refine lv_iconst (v := nI 0) hx hb dX11_hire_23 (by decide +kernel) ?_
    refine lv_istore (lv' := [(5, .int (nI 0)), (4, .int (-1)), (3, .int (nI 0)), (0, .ref x), (1, .int (nI f1)), (2, .int w)]) hx hb dX11_hire_24 hl (by decide) rfl (fun ls hl => ?_)
    have e9_3 : 0 = hbK (fun kv => pcN (raR (cnL kv f1 0 6 nd n (lkI n al nd kn mb kd fg 6)) (fun _ => 0) 9 t)) 0 := by rfl
    have hl : lv_has ls 7 [(5, .int (nI 0)), (4, .int (-1)), (3, .int (nI (hbK (fun kv => pcN (raR (cnL kv f1 0 6 nd n (lkI n al nd kn mb kd fg 6)) (fun _ => 0) 9 t)) 0))), (0, .ref x), (1, .int (nI f1)), (2, .int w)] := by rw [← e9_3]; exact hl
    have e9_4 : ((-1) : Int32) = oM (hbV (fun kv => pcN (raR (cnL kv f1 0 6 nd n (lkI n al nd kn mb kd fg 6)) (fun _ => 0) 9 t)) 0) := by rfl
    have hl : lv_has ls 7 [(5, .int (nI 0)), (4, .int (oM (hbV (fun kv => pcN (raR (cnL kv f1 0 6 nd n (lkI n al nd kn mb kd fg 6)) (fun _ => 0) 9 t)) 0))), (3, .int (nI (hbK (fun kv => pcN (raR (cnL kv f1 0 6 nd n (lkI n al nd kn mb kd fg 6)) (fun _ => 0) 9 t)) 0))), (0, .ref x), (1, .int (nI f1)), (2, .int w)] := by rw [← e9_4]; exact hl
    refine ho_stk (cells2 := 0) (slots2 := 2 * 0) (by omega) (by omega) ?_
    refine ho_lpX (T := Nat × Nat × (Nat → Option Nat) × (Nat → Nat)) 7 (fun x9 => ([(x, .inr (11, [.ref sN, .ref sM, .ref sP, .int (bI pt), .ref fo, .ref da, .ref ra]))] ++ (schW cI cD sN n1 n2 n3 n4 n5 n d t al day nd mk si kn mb) ++ (forW cI fo l1 l2 l3 x9.2.1 x9.2.2.1 x9.2.2.2 le) : va_W)) (fun x9 => [(5, .int (nI x9.1)), (4, .int (oM (hbV (fun kv => pcN (raR (cnL kv f1 0 6 nd n (lkI n al nd kn mb kd fg 6)) (fun _ => 0) 9 t)) x9.1))), (3, .int (nI (hbK (fun kv => pcN (raR (cnL kv f1 0 6 nd n (lkI n al nd kn mb kd fg 6)) (fun _ => 0) 9 t)) x9.1))), (0, .ref x), (1, .int (nI f1)), (2, .int w)]) (fun x9 => []) (fun x9 => (x9.1 ≤ 8) ∧ (∀ i, x9.2.2.2 i < 1000)) (fun x9 => 8 - x9.1) (fun x9 H9 => True) (fun x9 => x9.1) (fun x9 => 2 * x9.1) (0, sa, lk, ef) ⟨by omega, gef⟩ (lv_sub hl [0, 1, 2, 3, 4, 5] rfl) hP hD hS trivial ?_
    intro fu26 x9 H locs ls hI hm26 hP hD hS hE hl ih
    obtain ⟨k, saq, lkq, efq⟩ := x9
    obtain ⟨hk8q, gefq⟩ := hI
    have hl : lv_has ls 7 [(5, .int (nI k)), (4, .int (oM (hbV (fun kv => pcN (raR (cnL kv f1 0 6 nd n (lkI n al nd kn mb kd fg 6)) (fun _ => 0) 9 t)) k))), (3, .int (nI (hbK (fun kv => pcN (raR (cnL kv f1 0 6 nd n (lkI n al nd kn mb kd fg 6)) (fun _ => 0) 9 t)) k))), (0, .ref x), (1, .int (nI f1)), (2, .int w)] := hl
    have hk8q : k ≤ 8 := hk8q
    have gefq : ∀ i, efq i < 1000 := gefq
    have hm26 : 8 - k < fu26 + 1 := hm26
    have hP : va_P (dC, dI) vwCl ([(x, .inr (11, [.ref sN, .ref sM, .ref sP, .int (bI pt), .ref fo, .ref da, .ref ra]))] ++ (schW cI cD sN n1 n2 n3 n4 n5 n d t al day nd mk si kn mb) ++ (forW cI fo l1 l2 l3 saq lkq efq le)) H := hP
    have hD : va_D A ([(x, .inr (11, [.ref sN, .ref sM, .ref sP, .int (bI pt), .ref fo, .ref da, .ref ra]))] ++ (schW cI cD sN n1 n2 n3 n4 n5 n d t al day nd mk si kn mb) ++ (forW cI fo l1 l2 l3 saq lkq efq le)) := hD
    refine W.eq (g2 := F0 m 26 ls []) rfl ?_
    have ih26 := ih
    refine lv_iload hx hb dX11_hire_26 (lv_at hl 0 rfl) ?_
    refine lv_bipush (v := nI 8) hx hb dX11_hire_28 (by decide +kernel) ?_
    refine ho_icmp_ge (tgt := 82) hx hb dX11_hire_30 (by decide) (by omega) (by omega) (fun c_30 => ?_) (fun c_30 => ?_)
    · refine lv_iload_n hx hb dX11_hire_82 rfl (lv_at hl 5 rfl) ?_
      refine lv_if_ne (tgt := 90) hx hb dX11_hire_83 (by decide) (fun c_83 => ?_) (fun c_83 => ?_)
      · refine lv_iload hx hb dX11_hire_90 (lv_at hl 1 rfl) ?_
        refine W.widen (k := 8) (n := 16) (by first | decide | exact Nat.le_of_ble_eq_true rfl | (dsimp only; omega) | omega | (simp only [headSpec]; omega)) (by first | decide | exact Nat.le_of_ble_eq_true rfl | (dsimp only; omega) | omega | (simp only [headSpec]; omega)) ?_
        exact W.iret (v := oM (hbV (fun kv => pcN (raR (cnL kv f1 0 6 nd n (lkI n al nd kn mb kd fg 6)) (fun _ => 0) 9 t)) k)) hx hb hr (fun T9 hT9 hW9 => ⟨⟨_, (saq, lkq, efq), rfl, (by rw [oN_t h_f1, on1_s, show k = 8 by omega]; first | exact (if_pos c_83).symm | exact ((if_neg c_83).trans (if_pos (by first | exact c_13 | exact absurd c_8 c_83))).symm), by rw [hT9]; exact hP, hD, gefq⟩, hS.F hT9⟩) hS.2.2 dX11_hire_92
      refine lv_iload_n hx hb dX11_hire_86 rfl (lv_at hl 2 rfl) ?_
      refine lv_goto (tgt := 92) hx hb dX11_hire_87 (by decide) ?_
      refine W.widen (k := 8) (n := 16) (by first | decide | exact Nat.le_of_ble_eq_true rfl | (dsimp only; omega) | omega | (simp only [headSpec]; omega)) (by first | decide | exact Nat.le_of_ble_eq_true rfl | (dsimp only; omega) | omega | (simp only [headSpec]; omega)) ?_
      exact W.iret (v := nI (hbK (fun kv => pcN (raR (cnL kv f1 0 6 nd n (lkI n al nd kn mb kd fg 6)) (fun _ => 0) 9 t)) k)) hx hb hr (fun T9 hT9 hW9 => ⟨⟨_, (saq, lkq, efq), rfl, (by rw [oN_t h_f1, on1_s, show k = 8 by omega]; first | exact (if_pos c_83).symm | exact ((if_neg c_83).trans (if_pos (by first | exact c_13 | exact absurd c_8 c_83))).symm), by rw [hT9]; exact hP, hD, gefq⟩, hS.F hT9⟩) hS.2.2 dX11_hire_92
    have hk8 : k < 8 := by omega
    refine lv_aload_n hx hb dX11_hire_33 rfl (lv_at hl 3 rfl) ?_
    refine va_get (D := (dC, dI)) (ci := 11) (v := .ref fo) (C := RX11) (T := TX11) (N := 7) hx hb hts (fun _ h => List.mem_cons_of_mem _ (List.mem_append_left _ (List.mem_append_left _ (List.mem_append_left _ (List.mem_append_left _ (List.mem_append_left _ (List.mem_append_left _ (List.mem_append_left _ (List.mem_append_left _ (List.mem_append_left _ (List.mem_append_left _ (List.mem_append_right _ h)))))))))))) hown hK hP 0 rfl rfl 4 (by decide) (hts (.fieldLink RX11 25 "HoldsOnceDenied" "foresight" "LHoldsOnceDenied$Foresight;") (by decide +kernel)) (fun _ h9 => h9) rfl dX11_hire_34 ?_
    refine lv_aload_n hx hb dX11_hire_37 rfl (lv_at hl 3 rfl) ?_
    refine va_get (D := (dC, dI)) (ci := 11) (v := .ref sN) (C := RX11) (T := TX11) (N := 7) hx hb hts (fun _ h => List.mem_cons_of_mem _ (List.mem_append_left _ (List.mem_append_left _ (List.mem_append_left _ (List.mem_append_left _ (List.mem_append_left _ (List.mem_append_left _ (List.mem_append_left _ (List.mem_append_left _ (List.mem_append_left _ (List.mem_append_left _ (List.mem_append_right _ h)))))))))))) hown hK hP 0 rfl rfl 0 (by decide) (hts (.fieldLink RX11 10 "HoldsOnceDenied" "now" "LHoldsOnceDenied$School;") (by decide +kernel)) (fun _ h9 => h9) rfl dX11_hire_38 ?_
    refine lv_iload hx hb dX11_hire_41 (lv_at hl 0 rfl) ?_
    refine lv_iload_n hx hb dX11_hire_43 rfl (lv_at hl 4 rfl) ?_
    have hDPo := DP.keep hDP0 hro hS
    have hFc := va_free (wc := []) hD hS hA [] rfl
    refine va_callr (va_runS (As := [.int (nI k), .int (nI f1)]) (rest := [.ref sN, .ref fo]) ⟨hx, hb, hml, hown, hts⟩ (c_X11_newDenier l dC dI cI cD cR k f1 H.size (by first | omega | assumption | exact gnd _ | exact gkn _) (by first | omega | assumption | exact gnd _ | exact gkn _)) (va_cwS 2 hts gX11_hire_X11_newDenier rfl rfl rfl (by decide +kernel) ⟨Nat.le_of_ble_eq_true rfl, Nat.le_of_ble_eq_true rfl⟩) (preS_R hCX ⟨rfl, (fun k q h => by cases h), ⟨fun i j p q h => (by cases h), fun k q h => (by cases h)⟩⟩) rfl rfl hl.1 rfl (lv_room (Nat.le_of_ble_eq_true rfl)) dX11_hire_44 ⟨(by show k + 1 ≤ 8; omega), (by show 2 * k + 2 ≤ 16; omega)⟩) hS (fun q _ h => hFc q h) hFc (fun u q_44 T8 H1 locs hT8 hvm hw hB hz1 hk1 hS => ?_)
    obtain ⟨hP1, hD1⟩ := hB
    rw [hT8] at hP1
    have hnq := fr_no hDPo hD1
    obtain ⟨hP, hD⟩ := va_join (wr := [(x, .inr (11, [.ref sN, .ref sM, .ref sP, .int (bI pt), .ref fo, .ref da, .ref ra]))] ++ (schW cI cD sN n1 n2 n3 n4 n5 n d t al day nd mk si kn mb) ++ (forW cI fo l1 l2 l3 saq lkq efq le)) (w1 := [(q_44, dnE k f1)]) hP hD [] [0, 1, 2, 3, 4, 5, 6, 7, 8, 9, 10] rfl rfl (by decide) (by decide) hk1 hFc hP1 hD1
    generalize H1 = H at hP hS ⊢
    have hP : va_P (dC, dI) vwCl ([(x, .inr (11, [.ref sN, .ref sM, .ref sP, .int (bI pt), .ref fo, .ref da, .ref ra]))] ++ (schW cI cD sN n1 n2 n3 n4 n5 n d t al day nd mk si kn mb) ++ (forW cI fo l1 l2 l3 saq lkq efq le) ++ [(q_44, dnE k f1)]) H := hP
    have hD : va_D A ([(x, .inr (11, [.ref sN, .ref sM, .ref sP, .int (bI pt), .ref fo, .ref da, .ref ra]))] ++ (schW cI cD sN n1 n2 n3 n4 n5 n d t al day nd mk si kn mb) ++ (forW cI fo l1 l2 l3 saq lkq efq le) ++ [(q_44, dnE k f1)]) := hD
    have hPc := hP.sub (ws' := (forW cI fo l1 l2 l3 saq lkq efq le) ++ (schW cI cD sN n1 n2 n3 n4 n5 n d t al day nd mk si kn mb)) [7, 8, 9, 10, 1, 2, 3, 4, 5, 6] rfl
    have hDc := hD.sub (ws' := (forW cI fo l1 l2 l3 saq lkq efq le) ++ (schW cI cD sN n1 n2 n3 n4 n5 n d t al day nd mk si kn mb)) [7, 8, 9, 10, 1, 2, 3, 4, 5, 6] (by decide) rfl
    have hFc := va_free (wc := (forW cI fo l1 l2 l3 saq lkq efq le) ++ (schW cI cD sN n1 n2 n3 n4 n5 n d t al day nd mk si kn mb)) hD hS hA [7, 8, 9, 10, 1, 2, 3, 4, 5, 6] rfl
    refine va_callv (va_runV (As := [.ref sN, .ref q_44]) (rest := []) ⟨hx, hb, hml, hown, hts⟩ (c_X4_look l dC dI cI cD cR fo l1 l2 l3 saq lkq efq le sN n1 n2 n3 n4 n5 n d t al day nd mk si kn mb (q_44 :: DL) (va_up kd q_44 k) (va_up fg q_44 f1) q_44 H.size (by first | omega | assumption | exact gnd _ | exact gkn _ | exact Nat.lt_trans (gkn _) (by decide) | exact Nat.lt_trans (gnd _) (by decide) | exact Nat.lt_of_le_of_lt (pcN_le _) (by decide)) (by first | omega | assumption | exact gnd _ | exact gkn _ | exact Nat.lt_trans (gkn _) (by decide) | exact Nat.lt_trans (gnd _) (by decide) | exact Nat.lt_of_le_of_lt (pcN_le _) (by decide)) (by first | omega | assumption | exact gnd _ | exact gkn _ | exact Nat.lt_trans (gkn _) (by decide) | exact Nat.lt_trans (gnd _) (by decide) | exact Nat.lt_of_le_of_lt (pcN_le _) (by decide)) (by first | omega | assumption | exact gnd _ | exact gkn _ | exact Nat.lt_trans (gkn _) (by decide) | exact Nat.lt_trans (gnd _) (by decide) | exact Nat.lt_of_le_of_lt (pcN_le _) (by decide)) (by first | omega | assumption | exact gnd _ | exact gkn _ | exact Nat.lt_trans (gkn _) (by decide) | exact Nat.lt_trans (gnd _) (by decide) | exact Nat.lt_of_le_of_lt (pcN_le _) (by decide)) gnd gkn (fun j a h => List.mem_cons_of_mem _ (gmb j a h)) List.mem_cons_self (gro_cons hD hP [7, 8, 9, 10, 1, 2, 3, 4, 5, 6] rfl (fun a9 ha9 h9 => hro a9 ha9 (hFc a9 h9)))) (cwV 2 hts gX11_hire_X4_look rfl rfl rfl (by decide +kernel) ⟨Nat.le_of_ble_eq_true rfl, Nat.le_of_ble_eq_true rfl⟩) (preV_R hCX (va_recv hK hP (ci := 4) (q0 := 7) rfl rfl) ⟨rfl, hPc, hDc.weaken (fun _ _ _ _ => trivial), (DP.more (DP.keep hDP0 hro hS) hnq (hP.sub (ws' := [(q_44, dnE k f1)]) [11] rfl) hk8 h_f1)⟩) rfl rfl hl.1 rfl (lv_room (Nat.le_of_ble_eq_true rfl)) dX11_hire_47 ⟨by first | (show _ ≤ 8; omega) | (show _ ≤ 16; omega), by first | (show _ ≤ 8; omega) | (show _ ≤ 16; omega)⟩) hS (fun q _ h => hFc q h) hFc (fun u T8 H1 locs hT8 hvm hw hB hz1 hk1 hS => ?_)
    obtain ⟨hP1, hD1⟩ := hB
    rw [hT8] at hP1
    obtain ⟨hP, hD⟩ := va_join (wr := [(x, .inr (11, [.ref sN, .ref sM, .ref sP, .int (bI pt), .ref fo, .ref da, .ref ra]))] ++ [(q_44, dnE k f1)]) (w1 := (forW cI fo l1 l2 l3 t (cnL ((va_up kd q_44 k) q_44) ((va_up fg q_44 f1) q_44) 0 6 nd n (lkI n al nd kn mb (va_up kd q_44 k) (va_up fg q_44 f1) 6)) (cnE ((va_up kd q_44 k) q_44) ((va_up fg q_44 f1) q_44) 0 6 nd n (efI n al nd kn mb (va_up kd q_44 k) (va_up fg q_44 f1) efq 6)) le) ++ (schW cI cD sN n1 n2 n3 n4 n5 n d t al day nd mk si kn mb)) hP hD [7, 8, 9, 10, 1, 2, 3, 4, 5, 6] [0, 11] rfl rfl (by decide) (by decide) hk1 hFc hP1 hD1
    generalize H1 = H at hP hS ⊢
    have hP := hP.sub (ws' := [(x, .inr (11, [.ref sN, .ref sM, .ref sP, .int (bI pt), .ref fo, .ref da, .ref ra]))] ++ (schW cI cD sN n1 n2 n3 n4 n5 n d t al day nd mk si kn mb) ++ (forW cI fo l1 l2 l3 t (cnL ((va_up kd q_44 k) q_44) ((va_up fg q_44 f1) q_44) 0 6 nd n (lkI n al nd kn mb (va_up kd q_44 k) (va_up fg q_44 f1) 6)) (cnE ((va_up kd q_44 k) q_44) ((va_up fg q_44 f1) q_44) 0 6 nd n (efI n al nd kn mb (va_up kd q_44 k) (va_up fg q_44 f1) efq 6)) le) ++ [(q_44, dnE k f1)]) [0, 6, 7, 8, 9, 10, 11, 2, 3, 4, 5, 1] rfl
    have hD := hD.sub (ws' := [(x, .inr (11, [.ref sN, .ref sM, .ref sP, .int (bI pt), .ref fo, .ref da, .ref ra]))] ++ (schW cI cD sN n1 n2 n3 n4 n5 n d t al day nd mk si kn mb) ++ (forW cI fo l1 l2 l3 t (cnL ((va_up kd q_44 k) q_44) ((va_up fg q_44 f1) q_44) 0 6 nd n (lkI n al nd kn mb (va_up kd q_44 k) (va_up fg q_44 f1) 6)) (cnE ((va_up kd q_44 k) q_44) ((va_up fg q_44 f1) q_44) 0 6 nd n (efI n al nd kn mb (va_up kd q_44 k) (va_up fg q_44 f1) efq 6)) le) ++ [(q_44, dnE k f1)]) [0, 6, 7, 8, 9, 10, 11, 2, 3, 4, 5, 1] (by decide) rfl
    have hcg : ∀ j a, mb j = some a → va_up kd q_44 k a = kd a ∧ va_up fg q_44 f1 a = fg a := fun j a h => ⟨up_old hnq gmb j a h, up_old hnq gmb j a h⟩
    rw [va_up_self, va_up_self, lkI_cong hcg, efI_cong hcg] at hP hD
    have hP := hP.sub (ws' := [(x, .inr (11, [.ref sN, .ref sM, .ref sP, .int (bI pt), .ref fo, .ref da, .ref ra]))] ++ (schW cI cD sN n1 n2 n3 n4 n5 n d t al day nd mk si kn mb) ++ (forW cI fo l1 l2 l3 t (cnL k f1 0 6 nd n (lkI n al nd kn mb kd fg 6)) (cnE k f1 0 6 nd n (efI n al nd kn mb kd fg efq 6)) le)) [0, 1, 2, 3, 4, 5, 6, 7, 8, 9, 10] rfl
    have hD := hD.sub (ws' := [(x, .inr (11, [.ref sN, .ref sM, .ref sP, .int (bI pt), .ref fo, .ref da, .ref ra]))] ++ (schW cI cD sN n1 n2 n3 n4 n5 n d t al day nd mk si kn mb) ++ (forW cI fo l1 l2 l3 t (cnL k f1 0 6 nd n (lkI n al nd kn mb kd fg 6)) (cnE k f1 0 6 nd n (efI n al nd kn mb kd fg efq 6)) le)) [0, 1, 2, 3, 4, 5, 6, 7, 8, 9, 10] (by decide) rfl
    refine lv_aload_n hx hb dX11_hire_50 rfl (lv_at hl 3 rfl) ?_
    refine va_get (D := (dC, dI)) (ci := 11) (v := .ref fo) (C := RX11) (T := TX11) (N := 7) hx hb hts (fun _ h => List.mem_cons_of_mem _ (List.mem_append_left _ (List.mem_append_left _ (List.mem_append_left _ (List.mem_append_left _ (List.mem_append_left _ (List.mem_append_left _ (List.mem_append_left _ (List.mem_append_left _ (List.mem_append_left _ (List.mem_append_left _ (List.mem_append_right _ h)))))))))))) hown hK hP 0 rfl rfl 4 (by decide) (hts (.fieldLink RX11 25 "HoldsOnceDenied" "foresight" "LHoldsOnceDenied$Foresight;") (by decide +kernel)) (fun _ h9 => h9) rfl dX11_hire_51 ?_
    refine vp_callSi ((va_runV (As := []) (rest := []) ⟨hx, hb, hml, hown, hts⟩ (c_X4_reachable l dC dI cI cD cR fo l1 l2 l3 t (cnL k f1 0 6 nd n (lkI n al nd kn mb kd fg 6)) (cnE k f1 0 6 nd n (efI n al nd kn mb kd fg efq 6)) le ht (cnL_lt gnd (lkI_lt (n := n) (al := al) (kn := kn) (mb := mb) (kd := kd) (fg := fg) gnd 6) n) (cnE_lt h_f1 (efI_lt (hfg := fun j a h => (hDP0 a (gmb j a h)).2.2) gefq 6) n)) (cwV 0 hts gX11_hire_X4_reachable rfl rfl rfl (by decide +kernel) ⟨Nat.le_of_ble_eq_true rfl, Nat.le_of_ble_eq_true rfl⟩) (preV_R hCX (va_recv hK hP (ci := 4) (q0 := 7) rfl rfl) ((hP.sub (ws' := (forW cI fo l1 l2 l3 t (cnL k f1 0 6 nd n (lkI n al nd kn mb kd fg 6)) (cnE k f1 0 6 nd n (efI n al nd kn mb kd fg efq 6)) le)) [7, 8, 9, 10] rfl))) rfl rfl hl.1 rfl (lv_room (Nat.le_of_ble_eq_true rfl)) dX11_hire_54 ⟨by first | (show _ ≤ 8; omega) | (show _ ≤ 16; omega), by first | (show _ ≤ 8; omega) | (show _ ≤ 16; omega)⟩).run) (fun r_54 hr_54 => ?_)
    subst hr_54
    refine vp_callSi ((va_runS (As := [.int (nI (raR (cnL k f1 0 6 nd n (lkI n al nd kn mb kd fg 6)) (cnE k f1 0 6 nd n (efI n al nd kn mb kd fg efq 6)) 9 t))]) (rest := []) ⟨hx, hb, hml, hown, hts⟩ (c_J6_bitCount_0f7a4 l dC dI cI cD cR (raR (cnL k f1 0 6 nd n (lkI n al nd kn mb kd fg 6)) (cnE k f1 0 6 nd n (efI n al nd kn mb kd fg efq 6)) 9 t) (Nat.lt_trans (raR_lt _ _ ht 9) (by decide))) (va_cwS 1 hts gX11_hire_J6_bitCount_0f7a4 rfl rfl rfl (by decide +kernel) ⟨Nat.le_of_ble_eq_true rfl, Nat.le_of_ble_eq_true rfl⟩) (preS_R hCX (trivial)) rfl rfl hl.1 rfl (lv_room (Nat.le_of_ble_eq_true rfl)) dX11_hire_57 ⟨by first | (show _ ≤ 8; omega) | (show _ ≤ 16; omega), by first | (show _ ≤ 8; omega) | (show _ ≤ 16; omega)⟩).run) (fun r_57 hr_57 => ?_)
    subst hr_57
    refine ho_tope (y := nI ((fun kv => pcN (raR (cnL kv f1 0 6 nd n (lkI n al nd kn mb kd fg 6)) (fun _ => 0) 9 t)) k)) (congrArg (fun z9 => nI (pcN z9)) (raR_ef 9)) ?_
    refine lv_istore (lv' := [(6, .int (nI ((fun kv => pcN (raR (cnL kv f1 0 6 nd n (lkI n al nd kn mb kd fg 6)) (fun _ => 0) 9 t)) k))), (5, .int (nI k)), (4, .int (oM (hbV (fun kv => pcN (raR (cnL kv f1 0 6 nd n (lkI n al nd kn mb kd fg 6)) (fun _ => 0) 9 t)) k))), (3, .int (nI (hbK (fun kv => pcN (raR (cnL kv f1 0 6 nd n (lkI n al nd kn mb kd fg 6)) (fun _ => 0) 9 t)) k))), (0, .ref x), (1, .int (nI f1)), (2, .int w)]) hx hb dX11_hire_60 hl (by decide) rfl (fun ls hl => ?_)
    refine lv_iload hx hb dX11_hire_62 (lv_at hl 0 rfl) ?_
    obtain ⟨q_64, hq_64⟩ : ∃ y, y = hbV (fun kv => pcN (raR (cnL kv f1 0 6 nd n (lkI n al nd kn mb kd fg 6)) (fun _ => 0) 9 t)) k := ⟨_, rfl⟩
    rw [← hq_64] at hl
    cases q_64 with
    | none =>
      have hl : lv_has ls 7 [(6, .int (nI ((fun kv => pcN (raR (cnL kv f1 0 6 nd n (lkI n al nd kn mb kd fg 6)) (fun _ => 0) 9 t)) k))), (5, .int (nI k)), (4, .int (-1)), (3, .int (nI (hbK (fun kv => pcN (raR (cnL kv f1 0 6 nd n (lkI n al nd kn mb kd fg 6)) (fun _ => 0) 9 t)) k))), (0, .ref x), (1, .int (nI f1)), (2, .int w)] := hl
      have hq_64 := hq_64.symm
      refine lv_iload hx hb dX11_hire_64 (lv_at hl 2 rfl) ?_
      refine lv_icmp_le (tgt := 76) hx hb dX11_hire_66 (by decide) (fun z => absurd z (ng_nle (Nat.lt_of_le_of_lt (pcN_le _) (by decide)) (by decide +kernel))) (fun _ => ?_)
      refine lv_iload hx hb dX11_hire_69 (lv_at hl 0 rfl) ?_
      refine lv_istore (lv' := [(4, .int (nI ((fun kv => pcN (raR (cnL kv f1 0 6 nd n (lkI n al nd kn mb kd fg 6)) (fun _ => 0) 9 t)) k))), (6, .int (nI ((fun kv => pcN (raR (cnL kv f1 0 6 nd n (lkI n al nd kn mb kd fg 6)) (fun _ => 0) 9 t)) k))), (5, .int (nI k)), (3, .int (nI (hbK (fun kv => pcN (raR (cnL kv f1 0 6 nd n (lkI n al nd kn mb kd fg 6)) (fun _ => 0) 9 t)) k))), (0, .ref x), (1, .int (nI f1)), (2, .int w)]) hx hb dX11_hire_71 hl (by decide) rfl (fun ls hl => ?_)
      refine lv_iload hx hb dX11_hire_73 (lv_at hl 2 rfl) ?_
      refine lv_istore_n (lv' := [(3, .int (nI k)), (4, .int (nI ((fun kv => pcN (raR (cnL kv f1 0 6 nd n (lkI n al nd kn mb kd fg 6)) (fun _ => 0) 9 t)) k))), (6, .int (nI ((fun kv => pcN (raR (cnL kv f1 0 6 nd n (lkI n al nd kn mb kd fg 6)) (fun _ => 0) 9 t)) k))), (5, .int (nI k)), (0, .ref x), (1, .int (nI f1)), (2, .int w)]) hx hb dX11_hire_75 rfl hl (by decide) rfl (fun ls hl => ?_)
      refine ho_iinc (lv' := [(5, .int (nI (k + 1))), (3, .int (nI k)), (4, .int (nI ((fun kv => pcN (raR (cnL kv f1 0 6 nd n (lkI n al nd kn mb kd fg 6)) (fun _ => 0) 9 t)) k))), (6, .int (nI ((fun kv => pcN (raR (cnL kv f1 0 6 nd n (lkI n al nd kn mb kd fg 6)) (fun _ => 0) 9 t)) k))), (0, .ref x), (1, .int (nI f1)), (2, .int w)]) (a := k) (b := 1) hx hb dX11_hire_76 hl (k := 3) rfl rfl (by decide) rfl (fun ls hl => ?_)
      refine lv_goto (tgt := 26) hx hb dX11_hire_79 (by decide) ?_
      have e9_3 : k = hbK (fun kv => pcN (raR (cnL kv f1 0 6 nd n (lkI n al nd kn mb kd fg 6)) (fun _ => 0) 9 t)) (k + 1) := by first | exact hbK_0 hq_64 | exact hbK_t hq_64 c_66 | exact hbK_f hq_64 c_66
      have hl : lv_has ls 7 [(5, .int (nI (k + 1))), (3, .int (nI (hbK (fun kv => pcN (raR (cnL kv f1 0 6 nd n (lkI n al nd kn mb kd fg 6)) (fun _ => 0) 9 t)) (k + 1)))), (4, .int (nI ((fun kv => pcN (raR (cnL kv f1 0 6 nd n (lkI n al nd kn mb kd fg 6)) (fun _ => 0) 9 t)) k))), (6, .int (nI ((fun kv => pcN (raR (cnL kv f1 0 6 nd n (lkI n al nd kn mb kd fg 6)) (fun _ => 0) 9 t)) k))), (0, .ref x), (1, .int (nI f1)), (2, .int w)] := by rw [← e9_3]; exact hl
      have e9_4 : (nI ((fun kv => pcN (raR (cnL kv f1 0 6 nd n (lkI n al nd kn mb kd fg 6)) (fun _ => 0) 9 t)) k) : Int32) = oM (hbV (fun kv => pcN (raR (cnL kv f1 0 6 nd n (lkI n al nd kn mb kd fg 6)) (fun _ => 0) 9 t)) (k + 1)) := by first | exact congrArg oM (hbV_0 hq_64) | exact congrArg oM (hbV_t hq_64 c_66) | exact congrArg oM (hbV_f hq_64 c_66)
      have hl : lv_has ls 7 [(5, .int (nI (k + 1))), (3, .int (nI (hbK (fun kv => pcN (raR (cnL kv f1 0 6 nd n (lkI n al nd kn mb kd fg 6)) (fun _ => 0) 9 t)) (k + 1)))), (4, .int (oM (hbV (fun kv => pcN (raR (cnL kv f1 0 6 nd n (lkI n al nd kn mb kd fg 6)) (fun _ => 0) 9 t)) (k + 1)))), (6, .int (nI ((fun kv => pcN (raR (cnL kv f1 0 6 nd n (lkI n al nd kn mb kd fg 6)) (fun _ => 0) 9 t)) k))), (0, .ref x), (1, .int (nI f1)), (2, .int w)] := by rw [← e9_4]; exact hl
      refine ho_stk (cells2 := (k + 1)) (slots2 := 2 * (k + 1)) (by omega) (by omega) ?_
      exact ih26 ((k + 1, t, cnL k f1 0 6 nd n (lkI n al nd kn mb kd fg 6), cnE k f1 0 6 nd n (efI n al nd kn mb kd fg efq 6))) _ _ _ ⟨by omega, cnE_lt h_f1 (efI_lt (hfg := fun j a h => (hDP0 a (gmb j a h)).2.2) gefq 6) n⟩ (show 8 - (k + 1) < fu26 from (by omega)) hP hD hS trivial (lv_sub hl [0, 2, 1, 4, 5, 6] rfl)
    | some vq_64 =>
      have hl : lv_has ls 7 [(6, .int (nI ((fun kv => pcN (raR (cnL kv f1 0 6 nd n (lkI n al nd kn mb kd fg 6)) (fun _ => 0) 9 t)) k))), (5, .int (nI k)), (4, .int (nI vq_64)), (3, .int (nI (hbK (fun kv => pcN (raR (cnL kv f1 0 6 nd n (lkI n al nd kn mb kd fg 6)) (fun _ => 0) 9 t)) k))), (0, .ref x), (1, .int (nI f1)), (2, .int w)] := hl
      have hq_64 := hq_64.symm
      have hv64 := hbV_le (E := (fun kv => pcN (raR (cnL kv f1 0 6 nd n (lkI n al nd kn mb kd fg 6)) (fun _ => 0) 9 t))) (fun k9 => pcN_le _) k _ hq_64
      refine lv_iload hx hb dX11_hire_64 (lv_at hl 2 rfl) ?_
      refine ho_icmp_le (tgt := 76) hx hb dX11_hire_66 (by decide) (Nat.lt_of_le_of_lt (pcN_le _) (by decide)) (by omega) (fun c_66 => ?_) (fun c_66 => ?_)
      · refine ho_iinc (lv' := [(5, .int (nI (k + 1))), (6, .int (nI ((fun kv => pcN (raR (cnL kv f1 0 6 nd n (lkI n al nd kn mb kd fg 6)) (fun _ => 0) 9 t)) k))), (4, .int (nI vq_64)), (3, .int (nI (hbK (fun kv => pcN (raR (cnL kv f1 0 6 nd n (lkI n al nd kn mb kd fg 6)) (fun _ => 0) 9 t)) k))), (0, .ref x), (1, .int (nI f1)), (2, .int w)]) (a := k) (b := 1) hx hb dX11_hire_76 hl (k := 1) rfl rfl (by decide) rfl (fun ls hl => ?_)
        refine lv_goto (tgt := 26) hx hb dX11_hire_79 (by decide) ?_
        have e9_3 : hbK (fun kv => pcN (raR (cnL kv f1 0 6 nd n (lkI n al nd kn mb kd fg 6)) (fun _ => 0) 9 t)) k = hbK (fun kv => pcN (raR (cnL kv f1 0 6 nd n (lkI n al nd kn mb kd fg 6)) (fun _ => 0) 9 t)) (k + 1) := by first | exact hbK_0 hq_64 | exact hbK_t hq_64 c_66 | exact hbK_f hq_64 c_66
        have hl : lv_has ls 7 [(5, .int (nI (k + 1))), (6, .int (nI ((fun kv => pcN (raR (cnL kv f1 0 6 nd n (lkI n al nd kn mb kd fg 6)) (fun _ => 0) 9 t)) k))), (4, .int (nI vq_64)), (3, .int (nI (hbK (fun kv => pcN (raR (cnL kv f1 0 6 nd n (lkI n al nd kn mb kd fg 6)) (fun _ => 0) 9 t)) (k + 1)))), (0, .ref x), (1, .int (nI f1)), (2, .int w)] := by rw [← e9_3]; exact hl
        have e9_4 : (nI vq_64 : Int32) = oM (hbV (fun kv => pcN (raR (cnL kv f1 0 6 nd n (lkI n al nd kn mb kd fg 6)) (fun _ => 0) 9 t)) (k + 1)) := by first | exact congrArg oM (hbV_0 hq_64) | exact congrArg oM (hbV_t hq_64 c_66) | exact congrArg oM (hbV_f hq_64 c_66)
        have hl : lv_has ls 7 [(5, .int (nI (k + 1))), (6, .int (nI ((fun kv => pcN (raR (cnL kv f1 0 6 nd n (lkI n al nd kn mb kd fg 6)) (fun _ => 0) 9 t)) k))), (4, .int (oM (hbV (fun kv => pcN (raR (cnL kv f1 0 6 nd n (lkI n al nd kn mb kd fg 6)) (fun _ => 0) 9 t)) (k + 1)))), (3, .int (nI (hbK (fun kv => pcN (raR (cnL kv f1 0 6 nd n (lkI n al nd kn mb kd fg 6)) (fun _ => 0) 9 t)) (k + 1)))), (0, .ref x), (1, .int (nI f1)), (2, .int w)] := by rw [← e9_4]; exact hl
        refine ho_stk (cells2 := (k + 1)) (slots2 := 2 * (k + 1)) (by omega) (by omega) ?_
        exact ih26 ((k + 1, t, cnL k f1 0 6 nd n (lkI n al nd kn mb kd fg 6), cnE k f1 0 6 nd n (efI n al nd kn mb kd fg efq 6))) _ _ _ ⟨by omega, cnE_lt h_f1 (efI_lt (hfg := fun j a h => (hDP0 a (gmb j a h)).2.2) gefq 6) n⟩ (show 8 - (k + 1) < fu26 from (by omega)) hP hD hS trivial (lv_sub hl [0, 2, 3, 4, 5, 6] rfl)
      refine lv_iload hx hb dX11_hire_69 (lv_at hl 0 rfl) ?_
      refine lv_istore (lv' := [(4, .int (nI ((fun kv => pcN (raR (cnL kv f1 0 6 nd n (lkI n al nd kn mb kd fg 6)) (fun _ => 0) 9 t)) k))), (6, .int (nI ((fun kv => pcN (raR (cnL kv f1 0 6 nd n (lkI n al nd kn mb kd fg 6)) (fun _ => 0) 9 t)) k))), (5, .int (nI k)), (3, .int (nI (hbK (fun kv => pcN (raR (cnL kv f1 0 6 nd n (lkI n al nd kn mb kd fg 6)) (fun _ => 0) 9 t)) k))), (0, .ref x), (1, .int (nI f1)), (2, .int w)]) hx hb dX11_hire_71 hl (by decide) rfl (fun ls hl => ?_)
      refine lv_iload hx hb dX11_hire_73 (lv_at hl 2 rfl) ?_
      refine lv_istore_n (lv' := [(3, .int (nI k)), (4, .int (nI ((fun kv => pcN (raR (cnL kv f1 0 6 nd n (lkI n al nd kn mb kd fg 6)) (fun _ => 0) 9 t)) k))), (6, .int (nI ((fun kv => pcN (raR (cnL kv f1 0 6 nd n (lkI n al nd kn mb kd fg 6)) (fun _ => 0) 9 t)) k))), (5, .int (nI k)), (0, .ref x), (1, .int (nI f1)), (2, .int w)]) hx hb dX11_hire_75 rfl hl (by decide) rfl (fun ls hl => ?_)
      refine ho_iinc (lv' := [(5, .int (nI (k + 1))), (3, .int (nI k)), (4, .int (nI ((fun kv => pcN (raR (cnL kv f1 0 6 nd n (lkI n al nd kn mb kd fg 6)) (fun _ => 0) 9 t)) k))), (6, .int (nI ((fun kv => pcN (raR (cnL kv f1 0 6 nd n (lkI n al nd kn mb kd fg 6)) (fun _ => 0) 9 t)) k))), (0, .ref x), (1, .int (nI f1)), (2, .int w)]) (a := k) (b := 1) hx hb dX11_hire_76 hl (k := 3) rfl rfl (by decide) rfl (fun ls hl => ?_)
      refine lv_goto (tgt := 26) hx hb dX11_hire_79 (by decide) ?_
      have e9_3 : k = hbK (fun kv => pcN (raR (cnL kv f1 0 6 nd n (lkI n al nd kn mb kd fg 6)) (fun _ => 0) 9 t)) (k + 1) := by first | exact hbK_0 hq_64 | exact hbK_t hq_64 c_66 | exact hbK_f hq_64 c_66
      have hl : lv_has ls 7 [(5, .int (nI (k + 1))), (3, .int (nI (hbK (fun kv => pcN (raR (cnL kv f1 0 6 nd n (lkI n al nd kn mb kd fg 6)) (fun _ => 0) 9 t)) (k + 1)))), (4, .int (nI ((fun kv => pcN (raR (cnL kv f1 0 6 nd n (lkI n al nd kn mb kd fg 6)) (fun _ => 0) 9 t)) k))), (6, .int (nI ((fun kv => pcN (raR (cnL kv f1 0 6 nd n (lkI n al nd kn mb kd fg 6)) (fun _ => 0) 9 t)) k))), (0, .ref x), (1, .int (nI f1)), (2, .int w)] := by rw [← e9_3]; exact hl
      have e9_4 : (nI ((fun kv => pcN (raR (cnL kv f1 0 6 nd n (lkI n al nd kn mb kd fg 6)) (fun _ => 0) 9 t)) k) : Int32) = oM (hbV (fun kv => pcN (raR (cnL kv f1 0 6 nd n (lkI n al nd kn mb kd fg 6)) (fun _ => 0) 9 t)) (k + 1)) := by first | exact congrArg oM (hbV_0 hq_64) | exact congrArg oM (hbV_t hq_64 c_66) | exact congrArg oM (hbV_f hq_64 c_66)
      have hl : lv_has ls 7 [(5, .int (nI (k + 1))), (3, .int (nI (hbK (fun kv => pcN (raR (cnL kv f1 0 6 nd n (lkI n al nd kn mb kd fg 6)) (fun _ => 0) 9 t)) (k + 1)))), (4, .int (oM (hbV (fun kv => pcN (raR (cnL kv f1 0 6 nd n (lkI n al nd kn mb kd fg 6)) (fun _ => 0) 9 t)) (k + 1)))), (6, .int (nI ((fun kv => pcN (raR (cnL kv f1 0 6 nd n (lkI n al nd kn mb kd fg 6)) (fun _ => 0) 9 t)) k))), (0, .ref x), (1, .int (nI f1)), (2, .int w)] := by rw [← e9_4]; exact hl
      refine ho_stk (cells2 := (k + 1)) (slots2 := 2 * (k + 1)) (by omega) (by omega) ?_
      exact ih26 ((k + 1, t, cnL k f1 0 6 nd n (lkI n al nd kn mb kd fg 6), cnE k f1 0 6 nd n (efI n al nd kn mb kd fg efq 6))) _ _ _ ⟨by omega, cnE_lt h_f1 (efI_lt (hfg := fun j a h => (hDP0 a (gmb j a h)).2.2) gefq 6) n⟩ (show 8 - (k + 1) < fu26 from (by omega)) hP hD hS trivial (lv_sub hl [0, 2, 1, 4, 5, 6] rfl)
  have c_13 : ¬ w = 1 := c_13
  refine lv_iconst (v := (-1)) hx hb dX11_hire_16 (by decide +kernel) ?_
  refine W.widen (k := 8) (n := 16) (by first | decide | exact Nat.le_of_ble_eq_true rfl | (dsimp only; omega) | omega | (simp only [headSpec]; omega)) (by first | decide | exact Nat.le_of_ble_eq_true rfl | (dsimp only; omega) | omega | (simp only [headSpec]; omega)) ?_
  exact W.iret (v := (-1)) hx hb hr (fun T9 hT9 hW9 => ⟨⟨_, (sa, lk, ef), rfl, (by rw [oN_t h_f1, on1_s, if_neg c_8, if_neg (show ¬ w = 1 from c_13)]), by rw [hT9]; exact hP, hD, gef⟩, hS.F hT9⟩) hS.2.2 dX11_hire_17
set_option maxHeartbeats 4000000 in
set_option maxRecDepth 100000 in
theorem c_X11_isFigure_r (l : Launch) (dC : Nat → ClassId) (dI : Nat → Nat → Nat) (cI cD cR : ClassId) (x : Int32)  : Met l yX11_isFigure wsX11_isFigure ({ frames := 0, cells := 0, slots := 0, locals := 0 }) (pcR dC dI cI cD cR [.int x] (fun H => True)) (vp_Si (fun r => r = bI (okI x 10))) 0 0 (fun _ => False) := by
  refine Met.ofW (cc := cX11_isFigure) (maxL := 1) (ret := (some .boolean)) (by decide) rfl ?_
  intro p e s m args below meth c s₁ B hml hv
  obtain ⟨rfl, hH0, hCX⟩ := hv
  have hx := B.exec
  have hb := B.bytes
  have hr := B.returns
  have hts := atoms_spec (ws := wsX11_isFigure) B.pre
  have hown : s.vm.findClass RX11 = some m.cls := findClass_of_methodNamed B.named
  have hlocks := B.notSynchronized
  have hK := hCX.1
  have hl := lv_entry ([.int x]) (n := 1) (Nat.le_of_ble_eq_true rfl)
  rw [lg_entry_eq]
  generalize (lg_sl ([.int x]) ++ List.replicate (1 - (lg_sl ([.int x])).length) Slot.unset).toArray = ls at hl ⊢
  have hl : lv_has ls 1 [(0, .int x)] := hl
  refine lv_iload_n hx hb dX11_isFigure_0 rfl (lv_at hl 0 rfl) ?_
  refine lv_if_lt (tgt := 14) hx hb dX11_isFigure_1 (by decide) (fun c_1 => ?_) (fun c_1 => ?_)
  · refine lv_iconst (v := nI 0) hx hb dX11_isFigure_14 (by decide +kernel) ?_
    exact W.zret (v := nI 0) hx hb hr rfl (fun T9 hT9 hW9 => ⟨_, rfl, (bI_f (by first | exact okI_n0 c_1 | exact okI_gt9 c_7 | exact okI_le9 c_1 c_7)), hT9⟩) (fun q h => by cases h) dX11_isFigure_15
  refine lv_iload_n hx hb dX11_isFigure_4 rfl (lv_at hl 0 rfl) ?_
  refine lv_bipush (v := nI 9) hx hb dX11_isFigure_5 (by decide +kernel) ?_
  refine lv_icmp_gt (tgt := 14) hx hb dX11_isFigure_7 (by decide) (fun c_7 => ?_) (fun c_7 => ?_)
  · refine lv_iconst (v := nI 0) hx hb dX11_isFigure_14 (by decide +kernel) ?_
    exact W.zret (v := nI 0) hx hb hr rfl (fun T9 hT9 hW9 => ⟨_, rfl, (bI_f (by first | exact okI_n0 c_1 | exact okI_gt9 c_7 | exact okI_le9 c_1 c_7)), hT9⟩) (fun q h => by cases h) dX11_isFigure_15
  refine lv_iconst (v := nI 1) hx hb dX11_isFigure_10 (by decide +kernel) ?_
  refine lv_goto (tgt := 15) hx hb dX11_isFigure_11 (by decide) ?_
  exact W.zret (v := nI 1) hx hb hr rfl (fun T9 hT9 hW9 => ⟨_, rfl, (bI_t (by first | exact okI_n0 c_1 | exact okI_gt9 c_7 | exact okI_le9 c_1 c_7)), hT9⟩) (fun q h => by cases h) dX11_isFigure_15
set_option maxHeartbeats 4000000 in
set_option maxRecDepth 100000 in
theorem c_X11_fillShelf_nn (l : Launch) (dC : Nat → ClassId) (dI : Nat → Nat → Nat) (cI cD cR : ClassId) (x sN sM sP : Nat) (pt : Bool) (fo da ra : Nat) (dm : Nat → Option Nat) (rm : Nat → Option Nat) (y9 : Nat) (sz : Nat) (hy9 : y9 < 8) : Met l yX11_fillShelf wsX11_fillShelf ({ frames := 0, cells := 0, slots := 0, locals := 0 }) (pcR dC dI cI cD cR [.ref x, .int (nI y9), .null, .null] (fun H => H.size = sz ∧ va_P (dC, dI) vwCl ([(x, .inr (11, [.ref sN, .ref sM, .ref sP, .int (bI pt), .ref fo, .ref da, .ref ra]))] ++ [(da, .inl (cD, 8, .inr (.inr (.inr (.inr dm)))))] ++ [(ra, .inl (cR, 8, .inr (.inr (.inr (.inr rm)))))]) H ∧ va_D (fun _ => True) ([(x, .inr (11, [.ref sN, .ref sM, .ref sP, .int (bI pt), .ref fo, .ref da, .ref ra]))] ++ [(da, .inl (cD, 8, .inr (.inr (.inr (.inr dm)))))] ++ [(ra, .inl (cR, 8, .inr (.inr (.inr (.inr rm)))))]))) (va_Qv (fun (_ : Unit) => True) (fun (_ : Unit) T9 => va_P (dC, dI) vwCl ([(x, .inr (11, [.ref sN, .ref sM, .ref sP, .int (bI pt), .ref fo, .ref da, .ref ra]))] ++ [(da, .inl (cD, 8, .inr (.inr (.inr (.inr (va_up dm y9 none))))))] ++ [(ra, .inl (cR, 8, .inr (.inr (.inr (.inr (va_up rm y9 none))))))]) T9.heap ∧ va_D (va_A ([(x, .inr (11, [.ref sN, .ref sM, .ref sP, .int (bI pt), .ref fo, .ref da, .ref ra]))] ++ [(da, .inl (cD, 8, .inr (.inr (.inr (.inr dm)))))] ++ [(ra, .inl (cR, 8, .inr (.inr (.inr (.inr rm)))))]) sz) ([(x, .inr (11, [.ref sN, .ref sM, .ref sP, .int (bI pt), .ref fo, .ref da, .ref ra]))] ++ [(da, .inl (cD, 8, .inr (.inr (.inr (.inr (va_up dm y9 none))))))] ++ [(ra, .inl (cR, 8, .inr (.inr (.inr (.inr (va_up rm y9 none))))))])) (va_A ([(x, .inr (11, [.ref sN, .ref sM, .ref sP, .int (bI pt), .ref fo, .ref da, .ref ra]))] ++ [(da, .inl (cD, 8, .inr (.inr (.inr (.inr dm)))))] ++ [(ra, .inl (cR, 8, .inr (.inr (.inr (.inr rm)))))]) sz)) 0 0 (va_A ([(x, .inr (11, [.ref sN, .ref sM, .ref sP, .int (bI pt), .ref fo, .ref da, .ref ra]))] ++ [(da, .inl (cD, 8, .inr (.inr (.inr (.inr dm)))))] ++ [(ra, .inl (cR, 8, .inr (.inr (.inr (.inr rm)))))]) sz) := by
  refine Met.ofW (cc := cX11_fillShelf) (maxL := 4) (ret := none) (by decide) rfl ?_
  intro p e s m args below meth c s₁ B hml hv
  obtain ⟨rfl, hH0, hCX⟩ := hv
  have hx := B.exec
  have hb := B.bytes
  have hr := B.returns
  have hts := atoms_spec (ws := wsX11_fillShelf) B.pre
  have hown : s.vm.findClass RX11 = some m.cls := findClass_of_methodNamed B.named
  have hlocks := B.notSynchronized
  have hK := hCX.1
  obtain ⟨hsz, hP, hD0⟩ := hH0
  subst hsz
  have hD := hD0.self (sz := s.heap.size)
  generalize hAe : va_A ([(x, .inr (11, [.ref sN, .ref sM, .ref sP, .int (bI pt), .ref fo, .ref da, .ref ra]))] ++ [(da, .inl (cD, 8, .inr (.inr (.inr (.inr dm)))))] ++ [(ra, .inl (cR, 8, .inr (.inr (.inr (.inr rm)))))]) s.heap.size = A at hD ⊢
  have hA : ∀ q : Nat, s.heap.size ≤ q → A q := fun q h => by rw [← hAe]; exact Or.inr h
  have hS : va_S A s.heap s.heap [] := va_S.rf
  have hP : va_P (dC, dI) vwCl ([(x, .inr (11, [.ref sN, .ref sM, .ref sP, .int (bI pt), .ref fo, .ref da, .ref ra]))] ++ [(da, .inl (cD, 8, .inr (.inr (.inr (.inr dm)))))] ++ [(ra, .inl (cR, 8, .inr (.inr (.inr (.inr rm)))))]) s.heap := hP
  have hl := lv_entry ([.ref x, .int (nI y9), .null, .null]) (n := 4) (Nat.le_of_ble_eq_true rfl)
  rw [lg_entry_eq]
  generalize (lg_sl ([.ref x, .int (nI y9), .null, .null]) ++ List.replicate (4 - (lg_sl ([.ref x, .int (nI y9), .null, .null])).length) Slot.unset).toArray = ls at hl ⊢
  have hl : lv_has ls 4 [(0, .ref x), (1, .int (nI y9)), (2, .null), (3, .null)] := hl
  refine lv_iload_n hx hb dX11_fillShelf_0 rfl (lv_at hl 1 rfl) ?_
  refine ho_if_lt0 hx hb dX11_fillShelf_1 (tgt := 36) (by decide) (by omega) ?_
  refine lv_iload_n hx hb dX11_fillShelf_4 rfl (lv_at hl 1 rfl) ?_
  refine lv_aload_n hx hb dX11_fillShelf_5 rfl (lv_at hl 0 rfl) ?_
  refine va_get (D := (dC, dI)) (ci := 11) (v := .ref da) (C := RX11) (T := TX11) (N := 7) hx hb hts (fun _ h => List.mem_cons_of_mem _ (List.mem_append_right _ h)) hown hK hP 0 rfl rfl 5 (by decide) (hts (.fieldLink RX11 31 "HoldsOnceDenied" "shelvedDeniers" "[LHoldsOnceDenied$Denier;") (by decide +kernel)) (fun _ h9 => h9) rfl dX11_fillShelf_6 ?_
  refine va_alen (v := nI 8) hx hb hK hP 1 1 rfl rfl rfl dX11_fillShelf_9 ?_
  refine ho_icmp_ge (tgt := 36) hx hb dX11_fillShelf_10 (by decide) (by omega) (by omega) (fun c_10 => ?_) (fun c_10 => ?_)
  · exfalso; omega
  refine lv_iload_n hx hb dX11_fillShelf_13 rfl (lv_at hl 1 rfl) ?_
  refine lv_aload_n hx hb dX11_fillShelf_14 rfl (lv_at hl 0 rfl) ?_
  refine va_get (D := (dC, dI)) (ci := 11) (v := .ref ra) (C := RX11) (T := TX11) (N := 7) hx hb hts (fun _ h => List.mem_cons_of_mem _ (List.mem_append_right _ h)) hown hK hP 0 rfl rfl 6 (by decide) (hts (.fieldLink RX11 37 "HoldsOnceDenied" "shelvedRows" "[LHoldsOnceDenied$Row;") (by decide +kernel)) (fun _ h9 => h9) rfl dX11_fillShelf_15 ?_
  refine va_alen (v := nI 8) hx hb hK hP 2 2 rfl rfl rfl dX11_fillShelf_18 ?_
  refine ho_icmp_ge (tgt := 36) hx hb dX11_fillShelf_19 (by decide) (by omega) (by omega) (fun c_19 => ?_) (fun c_19 => ?_)
  · exfalso; omega
  refine lv_aload_n hx hb dX11_fillShelf_22 rfl (lv_at hl 0 rfl) ?_
  refine va_get (D := (dC, dI)) (ci := 11) (v := .ref da) (C := RX11) (T := TX11) (N := 7) hx hb hts (fun _ h => List.mem_cons_of_mem _ (List.mem_append_right _ h)) hown hK hP 0 rfl rfl 5 (by decide) (hts (.fieldLink RX11 31 "HoldsOnceDenied" "shelvedDeniers" "[LHoldsOnceDenied$Denier;") (by decide +kernel)) (fun _ h9 => h9) rfl dX11_fillShelf_23 ?_
  refine lv_iload_n hx hb dX11_fillShelf_26 rfl (lv_at hl 1 rfl) ?_
  refine lv_aload_nN hx hb dX11_fillShelf_27 rfl (lv_at hl 2 rfl) ?_
  refine ho_aastN hx hb hK hP hD hS 1 1 rfl rfl (by omega) (by decide) dX11_fillShelf_28 (fun H locs hP hD hS => ?_)
  have hP : va_P (dC, dI) vwCl ([(x, .inr (11, [.ref sN, .ref sM, .ref sP, .int (bI pt), .ref fo, .ref da, .ref ra]))] ++ [(da, .inl (cD, 8, .inr (.inr (.inr (.inr (va_up dm y9 none))))))] ++ [(ra, .inl (cR, 8, .inr (.inr (.inr (.inr rm)))))]) H := hP
  have hD : va_D A ([(x, .inr (11, [.ref sN, .ref sM, .ref sP, .int (bI pt), .ref fo, .ref da, .ref ra]))] ++ [(da, .inl (cD, 8, .inr (.inr (.inr (.inr (va_up dm y9 none))))))] ++ [(ra, .inl (cR, 8, .inr (.inr (.inr (.inr rm)))))]) := hD
  refine lv_aload_n hx hb dX11_fillShelf_29 rfl (lv_at hl 0 rfl) ?_
  refine va_get (D := (dC, dI)) (ci := 11) (v := .ref ra) (C := RX11) (T := TX11) (N := 7) hx hb hts (fun _ h => List.mem_cons_of_mem _ (List.mem_append_right _ h)) hown hK hP 0 rfl rfl 6 (by decide) (hts (.fieldLink RX11 37 "HoldsOnceDenied" "shelvedRows" "[LHoldsOnceDenied$Row;") (by decide +kernel)) (fun _ h9 => h9) rfl dX11_fillShelf_30 ?_
  refine lv_iload_n hx hb dX11_fillShelf_33 rfl (lv_at hl 1 rfl) ?_
  refine lv_aload_nN hx hb dX11_fillShelf_34 rfl (lv_at hl 3 rfl) ?_
  refine ho_aastN hx hb hK hP hD hS 2 2 rfl rfl (by omega) (by decide) dX11_fillShelf_35 (fun H locs hP hD hS => ?_)
  have hP : va_P (dC, dI) vwCl ([(x, .inr (11, [.ref sN, .ref sM, .ref sP, .int (bI pt), .ref fo, .ref da, .ref ra]))] ++ [(da, .inl (cD, 8, .inr (.inr (.inr (.inr (va_up dm y9 none))))))] ++ [(ra, .inl (cR, 8, .inr (.inr (.inr (.inr (va_up rm y9 none))))))]) H := hP
  have hD : va_D A ([(x, .inr (11, [.ref sN, .ref sM, .ref sP, .int (bI pt), .ref fo, .ref da, .ref ra]))] ++ [(da, .inl (cD, 8, .inr (.inr (.inr (.inr (va_up dm y9 none))))))] ++ [(ra, .inl (cR, 8, .inr (.inr (.inr (.inr (va_up rm y9 none))))))]) := hD
  exact W.vret hx hb hr (fun T9 hT9 hW9 => ⟨⟨(), rfl, trivial, by rw [hT9]; exact hP, hD⟩, hS.F hT9⟩) hS.2.2 dX11_fillShelf_36
set_option maxHeartbeats 4000000 in
set_option maxRecDepth 100000 in
theorem c_X11_fillShelf_dn (l : Launch) (dC : Nat → ClassId) (dI : Nat → Nat → Nat) (cI cD cR : ClassId) (x sN sM sP : Nat) (pt : Bool) (fo da ra : Nat) (dm : Nat → Option Nat) (rm : Nat → Option Nat) (y9 a9 : Nat) (DL : List Nat) (kd fg : Nat → Nat) (sz : Nat) (hy9 : y9 < 8) (ga : a9 ∈ DL) (gro : ∀ a ∈ DL, ¬ va_A ([(x, .inr (11, [.ref sN, .ref sM, .ref sP, .int (bI pt), .ref fo, .ref da, .ref ra]))] ++ [(da, .inl (cD, 8, .inr (.inr (.inr (.inr dm)))))] ++ [(ra, .inl (cR, 8, .inr (.inr (.inr (.inr rm)))))]) sz a) : Met l yX11_fillShelf wsX11_fillShelf ({ frames := 0, cells := 0, slots := 0, locals := 0 }) (pcR dC dI cI cD cR [.ref x, .int (nI y9), .ref a9, .null] (fun H => H.size = sz ∧ va_P (dC, dI) vwCl ([(x, .inr (11, [.ref sN, .ref sM, .ref sP, .int (bI pt), .ref fo, .ref da, .ref ra]))] ++ [(da, .inl (cD, 8, .inr (.inr (.inr (.inr dm)))))] ++ [(ra, .inl (cR, 8, .inr (.inr (.inr (.inr rm)))))]) H ∧ va_D (fun _ => True) ([(x, .inr (11, [.ref sN, .ref sM, .ref sP, .int (bI pt), .ref fo, .ref da, .ref ra]))] ++ [(da, .inl (cD, 8, .inr (.inr (.inr (.inr dm)))))] ++ [(ra, .inl (cR, 8, .inr (.inr (.inr (.inr rm)))))]) ∧ DP dC dI DL kd fg H)) (va_Qv (fun (_ : Unit) => True) (fun (_ : Unit) T9 => va_P (dC, dI) vwCl ([(x, .inr (11, [.ref sN, .ref sM, .ref sP, .int (bI pt), .ref fo, .ref da, .ref ra]))] ++ [(da, .inl (cD, 8, .inr (.inr (.inr (.inr (va_up dm y9 (some a9)))))))] ++ [(ra, .inl (cR, 8, .inr (.inr (.inr (.inr (va_up rm y9 none))))))]) T9.heap ∧ va_D (va_A ([(x, .inr (11, [.ref sN, .ref sM, .ref sP, .int (bI pt), .ref fo, .ref da, .ref ra]))] ++ [(da, .inl (cD, 8, .inr (.inr (.inr (.inr dm)))))] ++ [(ra, .inl (cR, 8, .inr (.inr (.inr (.inr rm)))))]) sz) ([(x, .inr (11, [.ref sN, .ref sM, .ref sP, .int (bI pt), .ref fo, .ref da, .ref ra]))] ++ [(da, .inl (cD, 8, .inr (.inr (.inr (.inr (va_up dm y9 (some a9)))))))] ++ [(ra, .inl (cR, 8, .inr (.inr (.inr (.inr (va_up rm y9 none))))))])) (va_A ([(x, .inr (11, [.ref sN, .ref sM, .ref sP, .int (bI pt), .ref fo, .ref da, .ref ra]))] ++ [(da, .inl (cD, 8, .inr (.inr (.inr (.inr dm)))))] ++ [(ra, .inl (cR, 8, .inr (.inr (.inr (.inr rm)))))]) sz)) 0 0 (va_A ([(x, .inr (11, [.ref sN, .ref sM, .ref sP, .int (bI pt), .ref fo, .ref da, .ref ra]))] ++ [(da, .inl (cD, 8, .inr (.inr (.inr (.inr dm)))))] ++ [(ra, .inl (cR, 8, .inr (.inr (.inr (.inr rm)))))]) sz) := by
  refine Met.ofW (cc := cX11_fillShelf) (maxL := 4) (ret := none) (by decide) rfl ?_
  intro p e s m args below meth c s₁ B hml hv
  obtain ⟨rfl, hH0, hCX⟩ := hv
  have hx := B.exec
  have hb := B.bytes
  have hr := B.returns
  have hts := atoms_spec (ws := wsX11_fillShelf) B.pre
  have hown : s.vm.findClass RX11 = some m.cls := findClass_of_methodNamed B.named
  have hlocks := B.notSynchronized
  have hK := hCX.1
  obtain ⟨hsz, hP, hD0, hDP0⟩ := hH0
  subst hsz
  have hD := hD0.self (sz := s.heap.size)
  generalize hAe : va_A ([(x, .inr (11, [.ref sN, .ref sM, .ref sP, .int (bI pt), .ref fo, .ref da, .ref ra]))] ++ [(da, .inl (cD, 8, .inr (.inr (.inr (.inr dm)))))] ++ [(ra, .inl (cR, 8, .inr (.inr (.inr (.inr rm)))))]) s.heap.size = A at hD ⊢
  have hA : ∀ q : Nat, s.heap.size ≤ q → A q := fun q h => by rw [← hAe]; exact Or.inr h
  have hS : va_S A s.heap s.heap [] := va_S.rf
  have hP : va_P (dC, dI) vwCl ([(x, .inr (11, [.ref sN, .ref sM, .ref sP, .int (bI pt), .ref fo, .ref da, .ref ra]))] ++ [(da, .inl (cD, 8, .inr (.inr (.inr (.inr dm)))))] ++ [(ra, .inl (cR, 8, .inr (.inr (.inr (.inr rm)))))]) s.heap := hP
  have hro : ∀ a ∈ DL, ¬ A a := by rw [← hAe]; exact gro
  have hDP := hDP0
  have hl := lv_entry ([.ref x, .int (nI y9), .ref a9, .null]) (n := 4) (Nat.le_of_ble_eq_true rfl)
  rw [lg_entry_eq]
  generalize (lg_sl ([.ref x, .int (nI y9), .ref a9, .null]) ++ List.replicate (4 - (lg_sl ([.ref x, .int (nI y9), .ref a9, .null])).length) Slot.unset).toArray = ls at hl ⊢
  have hl : lv_has ls 4 [(0, .ref x), (1, .int (nI y9)), (2, .ref a9), (3, .null)] := hl
  refine lv_iload_n hx hb dX11_fillShelf_0 rfl (lv_at hl 1 rfl) ?_
  refine ho_if_lt0 hx hb dX11_fillShelf_1 (tgt := 36) (by decide) (by omega) ?_
  refine lv_iload_n hx hb dX11_fillShelf_4 rfl (lv_at hl 1 rfl) ?_
  refine lv_aload_n hx hb dX11_fillShelf_5 rfl (lv_at hl 0 rfl) ?_
  refine va_get (D := (dC, dI)) (ci := 11) (v := .ref da) (C := RX11) (T := TX11) (N := 7) hx hb hts (fun _ h => List.mem_cons_of_mem _ (List.mem_append_right _ h)) hown hK hP 0 rfl rfl 5 (by decide) (hts (.fieldLink RX11 31 "HoldsOnceDenied" "shelvedDeniers" "[LHoldsOnceDenied$Denier;") (by decide +kernel)) (fun _ h9 => h9) rfl dX11_fillShelf_6 ?_
  refine va_alen (v := nI 8) hx hb hK hP 1 1 rfl rfl rfl dX11_fillShelf_9 ?_
  refine ho_icmp_ge (tgt := 36) hx hb dX11_fillShelf_10 (by decide) (by omega) (by omega) (fun c_10 => ?_) (fun c_10 => ?_)
  · exfalso; omega
  refine lv_iload_n hx hb dX11_fillShelf_13 rfl (lv_at hl 1 rfl) ?_
  refine lv_aload_n hx hb dX11_fillShelf_14 rfl (lv_at hl 0 rfl) ?_
  refine va_get (D := (dC, dI)) (ci := 11) (v := .ref ra) (C := RX11) (T := TX11) (N := 7) hx hb hts (fun _ h => List.mem_cons_of_mem _ (List.mem_append_right _ h)) hown hK hP 0 rfl rfl 6 (by decide) (hts (.fieldLink RX11 37 "HoldsOnceDenied" "shelvedRows" "[LHoldsOnceDenied$Row;") (by decide +kernel)) (fun _ h9 => h9) rfl dX11_fillShelf_15 ?_
  refine va_alen (v := nI 8) hx hb hK hP 2 2 rfl rfl rfl dX11_fillShelf_18 ?_
  refine ho_icmp_ge (tgt := 36) hx hb dX11_fillShelf_19 (by decide) (by omega) (by omega) (fun c_19 => ?_) (fun c_19 => ?_)
  · exfalso; omega
  refine lv_aload_n hx hb dX11_fillShelf_22 rfl (lv_at hl 0 rfl) ?_
  refine va_get (D := (dC, dI)) (ci := 11) (v := .ref da) (C := RX11) (T := TX11) (N := 7) hx hb hts (fun _ h => List.mem_cons_of_mem _ (List.mem_append_right _ h)) hown hK hP 0 rfl rfl 5 (by decide) (hts (.fieldLink RX11 31 "HoldsOnceDenied" "shelvedDeniers" "[LHoldsOnceDenied$Denier;") (by decide +kernel)) (fun _ h9 => h9) rfl dX11_fillShelf_23 ?_
  refine lv_iload_n hx hb dX11_fillShelf_26 rfl (lv_at hl 1 rfl) ?_
  refine lv_aload_n hx hb dX11_fillShelf_27 rfl (lv_at hl 2 rfl) ?_
  refine ho_aastM hx hb hK hP hD hS 1 1 rfl rfl (dn_any hCX (DP.keep hDP0 hro hS) ga) (by omega) (by decide) dX11_fillShelf_28 (fun H locs hP hD hS => ?_)
  have hP : va_P (dC, dI) vwCl ([(x, .inr (11, [.ref sN, .ref sM, .ref sP, .int (bI pt), .ref fo, .ref da, .ref ra]))] ++ [(da, .inl (cD, 8, .inr (.inr (.inr (.inr (va_up dm y9 (some a9)))))))] ++ [(ra, .inl (cR, 8, .inr (.inr (.inr (.inr rm)))))]) H := hP
  have hD : va_D A ([(x, .inr (11, [.ref sN, .ref sM, .ref sP, .int (bI pt), .ref fo, .ref da, .ref ra]))] ++ [(da, .inl (cD, 8, .inr (.inr (.inr (.inr (va_up dm y9 (some a9)))))))] ++ [(ra, .inl (cR, 8, .inr (.inr (.inr (.inr rm)))))]) := hD
  refine lv_aload_n hx hb dX11_fillShelf_29 rfl (lv_at hl 0 rfl) ?_
  refine va_get (D := (dC, dI)) (ci := 11) (v := .ref ra) (C := RX11) (T := TX11) (N := 7) hx hb hts (fun _ h => List.mem_cons_of_mem _ (List.mem_append_right _ h)) hown hK hP 0 rfl rfl 6 (by decide) (hts (.fieldLink RX11 37 "HoldsOnceDenied" "shelvedRows" "[LHoldsOnceDenied$Row;") (by decide +kernel)) (fun _ h9 => h9) rfl dX11_fillShelf_30 ?_
  refine lv_iload_n hx hb dX11_fillShelf_33 rfl (lv_at hl 1 rfl) ?_
  refine lv_aload_nN hx hb dX11_fillShelf_34 rfl (lv_at hl 3 rfl) ?_
  refine ho_aastN hx hb hK hP hD hS 2 2 rfl rfl (by omega) (by decide) dX11_fillShelf_35 (fun H locs hP hD hS => ?_)
  have hP : va_P (dC, dI) vwCl ([(x, .inr (11, [.ref sN, .ref sM, .ref sP, .int (bI pt), .ref fo, .ref da, .ref ra]))] ++ [(da, .inl (cD, 8, .inr (.inr (.inr (.inr (va_up dm y9 (some a9)))))))] ++ [(ra, .inl (cR, 8, .inr (.inr (.inr (.inr (va_up rm y9 none))))))]) H := hP
  have hD : va_D A ([(x, .inr (11, [.ref sN, .ref sM, .ref sP, .int (bI pt), .ref fo, .ref da, .ref ra]))] ++ [(da, .inl (cD, 8, .inr (.inr (.inr (.inr (va_up dm y9 (some a9)))))))] ++ [(ra, .inl (cR, 8, .inr (.inr (.inr (.inr (va_up rm y9 none))))))]) := hD
  exact W.vret hx hb hr (fun T9 hT9 hW9 => ⟨⟨(), rfl, trivial, by rw [hT9]; exact hP, hD⟩, hS.F hT9⟩) hS.2.2 dX11_fillShelf_36
set_option maxHeartbeats 4000000 in
set_option maxRecDepth 100000 in
theorem c_X11_fillShelf_nr (l : Launch) (dC : Nat → ClassId) (dI : Nat → Nat → Nat) (cI cD cR : ClassId) (x sN sM sP : Nat) (pt : Bool) (fo da ra : Nat) (dm : Nat → Option Nat) (rm : Nat → Option Nat) (r rq so z : Nat) (f : Nat → Int32) (y9 : Nat) (sz : Nat) (hy9 : y9 < 8) : Met l yX11_fillShelf wsX11_fillShelf ({ frames := 0, cells := 0, slots := 0, locals := 0 }) (pcR dC dI cI cD cR [.ref x, .int (nI y9), .null, .ref r] (fun H => H.size = sz ∧ va_P (dC, dI) vwCl ([(x, .inr (11, [.ref sN, .ref sM, .ref sP, .int (bI pt), .ref fo, .ref da, .ref ra]))] ++ [(da, .inl (cD, 8, .inr (.inr (.inr (.inr dm)))))] ++ [(ra, .inl (cR, 8, .inr (.inr (.inr (.inr rm)))))] ++ [(r, .inr (8, [.int (nI so), .ref rq])), (rq, .inl (cI, z, .inl f))]) H ∧ va_D (fun _ => True) ([(x, .inr (11, [.ref sN, .ref sM, .ref sP, .int (bI pt), .ref fo, .ref da, .ref ra]))] ++ [(da, .inl (cD, 8, .inr (.inr (.inr (.inr dm)))))] ++ [(ra, .inl (cR, 8, .inr (.inr (.inr (.inr rm)))))] ++ [(r, .inr (8, [.int (nI so), .ref rq])), (rq, .inl (cI, z, .inl f))]))) (va_Qv (fun (_ : Unit) => True) (fun (_ : Unit) T9 => va_P (dC, dI) vwCl ([(x, .inr (11, [.ref sN, .ref sM, .ref sP, .int (bI pt), .ref fo, .ref da, .ref ra]))] ++ [(da, .inl (cD, 8, .inr (.inr (.inr (.inr (va_up dm y9 none))))))] ++ [(ra, .inl (cR, 8, .inr (.inr (.inr (.inr (va_up rm y9 (some r)))))))] ++ [(r, .inr (8, [.int (nI so), .ref rq])), (rq, .inl (cI, z, .inl f))]) T9.heap ∧ va_D (va_A ([(x, .inr (11, [.ref sN, .ref sM, .ref sP, .int (bI pt), .ref fo, .ref da, .ref ra]))] ++ [(da, .inl (cD, 8, .inr (.inr (.inr (.inr dm)))))] ++ [(ra, .inl (cR, 8, .inr (.inr (.inr (.inr rm)))))] ++ [(r, .inr (8, [.int (nI so), .ref rq])), (rq, .inl (cI, z, .inl f))]) sz) ([(x, .inr (11, [.ref sN, .ref sM, .ref sP, .int (bI pt), .ref fo, .ref da, .ref ra]))] ++ [(da, .inl (cD, 8, .inr (.inr (.inr (.inr (va_up dm y9 none))))))] ++ [(ra, .inl (cR, 8, .inr (.inr (.inr (.inr (va_up rm y9 (some r)))))))] ++ [(r, .inr (8, [.int (nI so), .ref rq])), (rq, .inl (cI, z, .inl f))])) (va_A ([(x, .inr (11, [.ref sN, .ref sM, .ref sP, .int (bI pt), .ref fo, .ref da, .ref ra]))] ++ [(da, .inl (cD, 8, .inr (.inr (.inr (.inr dm)))))] ++ [(ra, .inl (cR, 8, .inr (.inr (.inr (.inr rm)))))] ++ [(r, .inr (8, [.int (nI so), .ref rq])), (rq, .inl (cI, z, .inl f))]) sz)) 0 0 (va_A ([(x, .inr (11, [.ref sN, .ref sM, .ref sP, .int (bI pt), .ref fo, .ref da, .ref ra]))] ++ [(da, .inl (cD, 8, .inr (.inr (.inr (.inr dm)))))] ++ [(ra, .inl (cR, 8, .inr (.inr (.inr (.inr rm)))))] ++ [(r, .inr (8, [.int (nI so), .ref rq])), (rq, .inl (cI, z, .inl f))]) sz) := by
  refine Met.ofW (cc := cX11_fillShelf) (maxL := 4) (ret := none) (by decide) rfl ?_
  intro p e s m args below meth c s₁ B hml hv
  obtain ⟨rfl, hH0, hCX⟩ := hv
  have hx := B.exec
  have hb := B.bytes
  have hr := B.returns
  have hts := atoms_spec (ws := wsX11_fillShelf) B.pre
  have hown : s.vm.findClass RX11 = some m.cls := findClass_of_methodNamed B.named
  have hlocks := B.notSynchronized
  have hK := hCX.1
  obtain ⟨hsz, hP, hD0⟩ := hH0
  subst hsz
  have hD := hD0.self (sz := s.heap.size)
  generalize hAe : va_A ([(x, .inr (11, [.ref sN, .ref sM, .ref sP, .int (bI pt), .ref fo, .ref da, .ref ra]))] ++ [(da, .inl (cD, 8, .inr (.inr (.inr (.inr dm)))))] ++ [(ra, .inl (cR, 8, .inr (.inr (.inr (.inr rm)))))] ++ [(r, .inr (8, [.int (nI so), .ref rq])), (rq, .inl (cI, z, .inl f))]) s.heap.size = A at hD ⊢
  have hA : ∀ q : Nat, s.heap.size ≤ q → A q := fun q h => by rw [← hAe]; exact Or.inr h
  have hS : va_S A s.heap s.heap [] := va_S.rf
  have hP : va_P (dC, dI) vwCl ([(x, .inr (11, [.ref sN, .ref sM, .ref sP, .int (bI pt), .ref fo, .ref da, .ref ra]))] ++ [(da, .inl (cD, 8, .inr (.inr (.inr (.inr dm)))))] ++ [(ra, .inl (cR, 8, .inr (.inr (.inr (.inr rm)))))] ++ [(r, .inr (8, [.int (nI so), .ref rq])), (rq, .inl (cI, z, .inl f))]) s.heap := hP
  have hl := lv_entry ([.ref x, .int (nI y9), .null, .ref r]) (n := 4) (Nat.le_of_ble_eq_true rfl)
  rw [lg_entry_eq]
  generalize (lg_sl ([.ref x, .int (nI y9), .null, .ref r]) ++ List.replicate (4 - (lg_sl ([.ref x, .int (nI y9), .null, .ref r])).length) Slot.unset).toArray = ls at hl ⊢
  have hl : lv_has ls 4 [(0, .ref x), (1, .int (nI y9)), (2, .null), (3, .ref r)] := hl
  refine lv_iload_n hx hb dX11_fillShelf_0 rfl (lv_at hl 1 rfl) ?_
  refine ho_if_lt0 hx hb dX11_fillShelf_1 (tgt := 36) (by decide) (by omega) ?_
  refine lv_iload_n hx hb dX11_fillShelf_4 rfl (lv_at hl 1 rfl) ?_
  refine lv_aload_n hx hb dX11_fillShelf_5 rfl (lv_at hl 0 rfl) ?_
  refine va_get (D := (dC, dI)) (ci := 11) (v := .ref da) (C := RX11) (T := TX11) (N := 7) hx hb hts (fun _ h => List.mem_cons_of_mem _ (List.mem_append_right _ h)) hown hK hP 0 rfl rfl 5 (by decide) (hts (.fieldLink RX11 31 "HoldsOnceDenied" "shelvedDeniers" "[LHoldsOnceDenied$Denier;") (by decide +kernel)) (fun _ h9 => h9) rfl dX11_fillShelf_6 ?_
  refine va_alen (v := nI 8) hx hb hK hP 1 1 rfl rfl rfl dX11_fillShelf_9 ?_
  refine ho_icmp_ge (tgt := 36) hx hb dX11_fillShelf_10 (by decide) (by omega) (by omega) (fun c_10 => ?_) (fun c_10 => ?_)
  · exfalso; omega
  refine lv_iload_n hx hb dX11_fillShelf_13 rfl (lv_at hl 1 rfl) ?_
  refine lv_aload_n hx hb dX11_fillShelf_14 rfl (lv_at hl 0 rfl) ?_
  refine va_get (D := (dC, dI)) (ci := 11) (v := .ref ra) (C := RX11) (T := TX11) (N := 7) hx hb hts (fun _ h => List.mem_cons_of_mem _ (List.mem_append_right _ h)) hown hK hP 0 rfl rfl 6 (by decide) (hts (.fieldLink RX11 37 "HoldsOnceDenied" "shelvedRows" "[LHoldsOnceDenied$Row;") (by decide +kernel)) (fun _ h9 => h9) rfl dX11_fillShelf_15 ?_
  refine va_alen (v := nI 8) hx hb hK hP 2 2 rfl rfl rfl dX11_fillShelf_18 ?_
  refine ho_icmp_ge (tgt := 36) hx hb dX11_fillShelf_19 (by decide) (by omega) (by omega) (fun c_19 => ?_) (fun c_19 => ?_)
  · exfalso; omega
  refine lv_aload_n hx hb dX11_fillShelf_22 rfl (lv_at hl 0 rfl) ?_
  refine va_get (D := (dC, dI)) (ci := 11) (v := .ref da) (C := RX11) (T := TX11) (N := 7) hx hb hts (fun _ h => List.mem_cons_of_mem _ (List.mem_append_right _ h)) hown hK hP 0 rfl rfl 5 (by decide) (hts (.fieldLink RX11 31 "HoldsOnceDenied" "shelvedDeniers" "[LHoldsOnceDenied$Denier;") (by decide +kernel)) (fun _ h9 => h9) rfl dX11_fillShelf_23 ?_
  refine lv_iload_n hx hb dX11_fillShelf_26 rfl (lv_at hl 1 rfl) ?_
  refine lv_aload_nN hx hb dX11_fillShelf_27 rfl (lv_at hl 2 rfl) ?_
  refine ho_aastN hx hb hK hP hD hS 1 1 rfl rfl (by omega) (by decide) dX11_fillShelf_28 (fun H locs hP hD hS => ?_)
  have hP : va_P (dC, dI) vwCl ([(x, .inr (11, [.ref sN, .ref sM, .ref sP, .int (bI pt), .ref fo, .ref da, .ref ra]))] ++ [(da, .inl (cD, 8, .inr (.inr (.inr (.inr (va_up dm y9 none))))))] ++ [(ra, .inl (cR, 8, .inr (.inr (.inr (.inr rm)))))] ++ [(r, .inr (8, [.int (nI so), .ref rq])), (rq, .inl (cI, z, .inl f))]) H := hP
  have hD : va_D A ([(x, .inr (11, [.ref sN, .ref sM, .ref sP, .int (bI pt), .ref fo, .ref da, .ref ra]))] ++ [(da, .inl (cD, 8, .inr (.inr (.inr (.inr (va_up dm y9 none))))))] ++ [(ra, .inl (cR, 8, .inr (.inr (.inr (.inr rm)))))] ++ [(r, .inr (8, [.int (nI so), .ref rq])), (rq, .inl (cI, z, .inl f))]) := hD
  refine lv_aload_n hx hb dX11_fillShelf_29 rfl (lv_at hl 0 rfl) ?_
  refine va_get (D := (dC, dI)) (ci := 11) (v := .ref ra) (C := RX11) (T := TX11) (N := 7) hx hb hts (fun _ h => List.mem_cons_of_mem _ (List.mem_append_right _ h)) hown hK hP 0 rfl rfl 6 (by decide) (hts (.fieldLink RX11 37 "HoldsOnceDenied" "shelvedRows" "[LHoldsOnceDenied$Row;") (by decide +kernel)) (fun _ h9 => h9) rfl dX11_fillShelf_30 ?_
  refine lv_iload_n hx hb dX11_fillShelf_33 rfl (lv_at hl 1 rfl) ?_
  refine lv_aload_n hx hb dX11_fillShelf_34 rfl (lv_at hl 3 rfl) ?_
  refine ho_aastM hx hb hK hP hD hS 2 2 rfl rfl (rw_any hCX (hP.sub (ws' := [(r, .inr (8, [.int (nI so), .ref rq])), (rq, .inl (cI, z, .inl f))]) [3, 4] rfl)) (by omega) (by decide) dX11_fillShelf_35 (fun H locs hP hD hS => ?_)
  have hP : va_P (dC, dI) vwCl ([(x, .inr (11, [.ref sN, .ref sM, .ref sP, .int (bI pt), .ref fo, .ref da, .ref ra]))] ++ [(da, .inl (cD, 8, .inr (.inr (.inr (.inr (va_up dm y9 none))))))] ++ [(ra, .inl (cR, 8, .inr (.inr (.inr (.inr (va_up rm y9 (some r)))))))] ++ [(r, .inr (8, [.int (nI so), .ref rq])), (rq, .inl (cI, z, .inl f))]) H := hP
  have hD : va_D A ([(x, .inr (11, [.ref sN, .ref sM, .ref sP, .int (bI pt), .ref fo, .ref da, .ref ra]))] ++ [(da, .inl (cD, 8, .inr (.inr (.inr (.inr (va_up dm y9 none))))))] ++ [(ra, .inl (cR, 8, .inr (.inr (.inr (.inr (va_up rm y9 (some r)))))))] ++ [(r, .inr (8, [.int (nI so), .ref rq])), (rq, .inl (cI, z, .inl f))]) := hD
  exact W.vret hx hb hr (fun T9 hT9 hW9 => ⟨⟨(), rfl, trivial, by rw [hT9]; exact hP, hD⟩, hS.F hT9⟩) hS.2.2 dX11_fillShelf_36
set_option maxHeartbeats 4000000 in
set_option maxRecDepth 100000 in
theorem c_X11_keep_0 (l : Launch) (dC : Nat → ClassId) (dI : Nat → Nat → Nat) (cI cD cR : ClassId) (x sN sM sP : Nat) (pt : Bool) (fo da ra : Nat) (dm : Nat → Option Nat) (rm : Nat → Option Nat) (y9 : Nat) (k9 f9 : Int32) (sz : Nat) (hy9 : y9 < 8) : Met l yX11_keep wsX11_keep ({ frames := 1, cells := 0, slots := 0, locals := 23 }) (pcR dC dI cI cD cR [.ref x, .int (nI y9), .int (nI 0), .int k9, .int f9] (fun H => H.size = sz ∧ va_P (dC, dI) vwCl ([(x, .inr (11, [.ref sN, .ref sM, .ref sP, .int (bI pt), .ref fo, .ref da, .ref ra]))] ++ [(da, .inl (cD, 8, .inr (.inr (.inr (.inr dm)))))] ++ [(ra, .inl (cR, 8, .inr (.inr (.inr (.inr rm)))))]) H ∧ va_D (fun _ => True) ([(x, .inr (11, [.ref sN, .ref sM, .ref sP, .int (bI pt), .ref fo, .ref da, .ref ra]))] ++ [(da, .inl (cD, 8, .inr (.inr (.inr (.inr dm)))))] ++ [(ra, .inl (cR, 8, .inr (.inr (.inr (.inr rm)))))]))) (va_Qi (fun r (_ : Unit) => r = nI 0) (fun (_ : Unit) T9 => va_P (dC, dI) vwCl ([(x, .inr (11, [.ref sN, .ref sM, .ref sP, .int (bI pt), .ref fo, .ref da, .ref ra]))] ++ [(da, .inl (cD, 8, .inr (.inr (.inr (.inr (va_up dm y9 none))))))] ++ [(ra, .inl (cR, 8, .inr (.inr (.inr (.inr (va_up rm y9 none))))))]) T9.heap ∧ va_D (va_A ([(x, .inr (11, [.ref sN, .ref sM, .ref sP, .int (bI pt), .ref fo, .ref da, .ref ra]))] ++ [(da, .inl (cD, 8, .inr (.inr (.inr (.inr dm)))))] ++ [(ra, .inl (cR, 8, .inr (.inr (.inr (.inr rm)))))]) sz) ([(x, .inr (11, [.ref sN, .ref sM, .ref sP, .int (bI pt), .ref fo, .ref da, .ref ra]))] ++ [(da, .inl (cD, 8, .inr (.inr (.inr (.inr (va_up dm y9 none))))))] ++ [(ra, .inl (cR, 8, .inr (.inr (.inr (.inr (va_up rm y9 none))))))])) (va_A ([(x, .inr (11, [.ref sN, .ref sM, .ref sP, .int (bI pt), .ref fo, .ref da, .ref ra]))] ++ [(da, .inl (cD, 8, .inr (.inr (.inr (.inr dm)))))] ++ [(ra, .inl (cR, 8, .inr (.inr (.inr (.inr rm)))))]) sz)) 0 0 (va_A ([(x, .inr (11, [.ref sN, .ref sM, .ref sP, .int (bI pt), .ref fo, .ref da, .ref ra]))] ++ [(da, .inl (cD, 8, .inr (.inr (.inr (.inr dm)))))] ++ [(ra, .inl (cR, 8, .inr (.inr (.inr (.inr rm)))))]) sz) := by
  refine Met.ofW (cc := cX11_keep) (maxL := 5) (ret := (some .int)) (by decide) rfl ?_
  intro p e s m args below meth c s₁ B hml hv
  obtain ⟨rfl, hH0, hCX⟩ := hv
  have hx := B.exec
  have hb := B.bytes
  have hr := B.returns
  have hts := atoms_spec (ws := wsX11_keep) B.pre
  have hown : s.vm.findClass RX11 = some m.cls := findClass_of_methodNamed B.named
  have hlocks := B.notSynchronized
  have hK := hCX.1
  obtain ⟨hsz, hP, hD0⟩ := hH0
  subst hsz
  have hD := hD0.self (sz := s.heap.size)
  generalize hAe : va_A ([(x, .inr (11, [.ref sN, .ref sM, .ref sP, .int (bI pt), .ref fo, .ref da, .ref ra]))] ++ [(da, .inl (cD, 8, .inr (.inr (.inr (.inr dm)))))] ++ [(ra, .inl (cR, 8, .inr (.inr (.inr (.inr rm)))))]) s.heap.size = A at hD ⊢
  have hA : ∀ q : Nat, s.heap.size ≤ q → A q := fun q h => by rw [← hAe]; exact Or.inr h
  have hS : va_S A s.heap s.heap [] := va_S.rf
  have hP : va_P (dC, dI) vwCl ([(x, .inr (11, [.ref sN, .ref sM, .ref sP, .int (bI pt), .ref fo, .ref da, .ref ra]))] ++ [(da, .inl (cD, 8, .inr (.inr (.inr (.inr dm)))))] ++ [(ra, .inl (cR, 8, .inr (.inr (.inr (.inr rm)))))]) s.heap := hP
  have hl := lv_entry ([.ref x, .int (nI y9), .int (nI 0), .int k9, .int f9]) (n := 5) (Nat.le_of_ble_eq_true rfl)
  rw [lg_entry_eq]
  generalize (lg_sl ([.ref x, .int (nI y9), .int (nI 0), .int k9, .int f9]) ++ List.replicate (5 - (lg_sl ([.ref x, .int (nI y9), .int (nI 0), .int k9, .int f9])).length) Slot.unset).toArray = ls at hl ⊢
  have hl : lv_has ls 5 [(0, .ref x), (1, .int (nI y9)), (2, .int (nI 0)), (3, .int k9), (4, .int f9)] := hl
  refine lv_iload_n hx hb dX11_keep_0 rfl (lv_at hl 1 rfl) ?_
  refine vp_callSi ((va_runS (As := [.int (nI y9)]) (rest := []) ⟨hx, hb, hml, hown, hts⟩ (c_X11_isShelf_t l dC dI cI cD cR y9 (by first | omega | assumption | exact gnd _ | exact gkn _ | exact Nat.lt_trans (gkn _) (by decide) | exact Nat.lt_trans (gnd _) (by decide) | exact Nat.lt_of_le_of_lt (pcN_le _) (by decide))) (va_cwS 1 hts gX11_keep_X11_isShelf rfl rfl rfl (by decide +kernel) ⟨Nat.le_of_ble_eq_true rfl, Nat.le_of_ble_eq_true rfl⟩) (preS_R hCX (trivial)) rfl rfl hl.1 rfl (lv_room (Nat.le_of_ble_eq_true rfl)) dX11_keep_1 ⟨Nat.le_of_ble_eq_true (by first | rfl | decide), Nat.le_of_ble_eq_true (by first | rfl | decide)⟩).run) (fun r_1 hr_1 => ?_)
  subst hr_1
  refine lv_if_ne (tgt := 9) hx hb dX11_keep_4 (by decide) (fun _ => ?_) (fun z => absurd z (by decide +kernel))
  refine lv_iload_n hx hb dX11_keep_9 rfl (lv_at hl 2 rfl) ?_
  refine lv_if_ne (tgt := 22) hx hb dX11_keep_10 (by decide) (fun z => absurd z (by decide +kernel)) (fun _ => ?_)
  refine lv_aload_n hx hb dX11_keep_13 rfl (lv_at hl 0 rfl) ?_
  refine lv_iload_n hx hb dX11_keep_14 rfl (lv_at hl 1 rfl) ?_
  refine lv_null hx hb dX11_keep_15 ?_
  refine lv_null hx hb dX11_keep_16 ?_
  have hPc := hP
  have hDc := hD
  have hFc := va_free (wc := [(x, .inr (11, [.ref sN, .ref sM, .ref sP, .int (bI pt), .ref fo, .ref da, .ref ra]))] ++ [(da, .inl (cD, 8, .inr (.inr (.inr (.inr dm)))))] ++ [(ra, .inl (cR, 8, .inr (.inr (.inr (.inr rm)))))]) hD hS hA [0, 1, 2] rfl
  refine va_callv (va_runV (As := [.int (nI y9), .null, .null]) (rest := []) ⟨hx, hb, hml, hown, hts⟩ (c_X11_fillShelf_nn l dC dI cI cD cR x sN sM sP pt fo da ra dm rm y9 s.heap.size (by first | omega | assumption | exact gnd _ | exact gkn _ | exact Nat.lt_trans (gkn _) (by decide) | exact Nat.lt_trans (gnd _) (by decide) | exact Nat.lt_of_le_of_lt (pcN_le _) (by decide))) (cwV 3 hts gX11_keep_X11_fillShelf rfl rfl rfl (by decide +kernel) ⟨Nat.le_of_ble_eq_true rfl, Nat.le_of_ble_eq_true rfl⟩) (preV_R hCX (va_recv hK hP (ci := 11) (q0 := 0) rfl rfl) ⟨rfl, hPc, hDc.weaken (fun _ _ _ _ => trivial)⟩) rfl rfl hl.1 rfl (lv_room (Nat.le_of_ble_eq_true rfl)) dX11_keep_17 ⟨Nat.le_of_ble_eq_true (by first | rfl | decide), Nat.le_of_ble_eq_true (by first | rfl | decide)⟩) hS (fun q _ h => hFc q h) hFc (fun u T8 H1 locs hT8 hvm hw hB hz1 hk1 hS => ?_)
  obtain ⟨hP1, hD1⟩ := hB
  rw [hT8] at hP1
  obtain ⟨hP, hD⟩ := va_join (wr := []) (w1 := [(x, .inr (11, [.ref sN, .ref sM, .ref sP, .int (bI pt), .ref fo, .ref da, .ref ra]))] ++ [(da, .inl (cD, 8, .inr (.inr (.inr (.inr (va_up dm y9 none))))))] ++ [(ra, .inl (cR, 8, .inr (.inr (.inr (.inr (va_up rm y9 none))))))]) hP hD [0, 1, 2] [] rfl rfl (by decide) (by decide) hk1 hFc hP1 hD1
  generalize H1 = H at hP hS ⊢
  have hP : va_P (dC, dI) vwCl ([(x, .inr (11, [.ref sN, .ref sM, .ref sP, .int (bI pt), .ref fo, .ref da, .ref ra]))] ++ [(da, .inl (cD, 8, .inr (.inr (.inr (.inr (va_up dm y9 none))))))] ++ [(ra, .inl (cR, 8, .inr (.inr (.inr (.inr (va_up rm y9 none))))))]) H := hP
  have hD : va_D A ([(x, .inr (11, [.ref sN, .ref sM, .ref sP, .int (bI pt), .ref fo, .ref da, .ref ra]))] ++ [(da, .inl (cD, 8, .inr (.inr (.inr (.inr (va_up dm y9 none))))))] ++ [(ra, .inl (cR, 8, .inr (.inr (.inr (.inr (va_up rm y9 none))))))]) := hD
  refine lv_iconst (v := nI 0) hx hb dX11_keep_20 (by decide +kernel) ?_
  exact W.iret (v := nI 0) hx hb hr (fun T9 hT9 hW9 => ⟨⟨_, (), rfl, rfl, by rw [hT9]; exact hP, hD⟩, hS.F hT9⟩) hS.2.2 dX11_keep_21
set_option maxHeartbeats 4000000 in
set_option maxRecDepth 100000 in
theorem c_X11_keep_1 (l : Launch) (dC : Nat → ClassId) (dI : Nat → Nat → Nat) (cI cD cR : ClassId) (x sN sM sP : Nat) (pt : Bool) (fo da ra : Nat) (dm : Nat → Option Nat) (rm : Nat → Option Nat) (y9 k9 f9 : Nat) (sz : Nat) (hy9 : y9 < 8) (hk9 : k9 < 8) (hf9 : f9 < 10) : Met l yX11_keep wsX11_keep ({ frames := 5, cells := 1, slots := 2, locals := 99 }) (pcR dC dI cI cD cR [.ref x, .int (nI y9), .int (nI 1), .int (nI k9), .int (nI f9)] (fun H => H.size = sz ∧ va_P (dC, dI) vwCl ([(x, .inr (11, [.ref sN, .ref sM, .ref sP, .int (bI pt), .ref fo, .ref da, .ref ra]))] ++ [(da, .inl (cD, 8, .inr (.inr (.inr (.inr dm)))))] ++ [(ra, .inl (cR, 8, .inr (.inr (.inr (.inr rm)))))]) H ∧ va_D (fun _ => True) ([(x, .inr (11, [.ref sN, .ref sM, .ref sP, .int (bI pt), .ref fo, .ref da, .ref ra]))] ++ [(da, .inl (cD, 8, .inr (.inr (.inr (.inr dm)))))] ++ [(ra, .inl (cR, 8, .inr (.inr (.inr (.inr rm)))))]))) (va_Qi (fun r (_ : Nat) => r = nI 0) (fun (u9 : Nat) T9 => va_P (dC, dI) vwCl ([(x, .inr (11, [.ref sN, .ref sM, .ref sP, .int (bI pt), .ref fo, .ref da, .ref ra]))] ++ [(da, .inl (cD, 8, .inr (.inr (.inr (.inr (va_up dm y9 (some u9)))))))] ++ [(ra, .inl (cR, 8, .inr (.inr (.inr (.inr (va_up rm y9 none))))))] ++ [(u9, dnE k9 f9)]) T9.heap ∧ va_D (va_A ([(x, .inr (11, [.ref sN, .ref sM, .ref sP, .int (bI pt), .ref fo, .ref da, .ref ra]))] ++ [(da, .inl (cD, 8, .inr (.inr (.inr (.inr dm)))))] ++ [(ra, .inl (cR, 8, .inr (.inr (.inr (.inr rm)))))]) sz) ([(x, .inr (11, [.ref sN, .ref sM, .ref sP, .int (bI pt), .ref fo, .ref da, .ref ra]))] ++ [(da, .inl (cD, 8, .inr (.inr (.inr (.inr (va_up dm y9 (some u9)))))))] ++ [(ra, .inl (cR, 8, .inr (.inr (.inr (.inr (va_up rm y9 none))))))] ++ [(u9, dnE k9 f9)])) (va_A ([(x, .inr (11, [.ref sN, .ref sM, .ref sP, .int (bI pt), .ref fo, .ref da, .ref ra]))] ++ [(da, .inl (cD, 8, .inr (.inr (.inr (.inr dm)))))] ++ [(ra, .inl (cR, 8, .inr (.inr (.inr (.inr rm)))))]) sz)) 1 2 (va_A ([(x, .inr (11, [.ref sN, .ref sM, .ref sP, .int (bI pt), .ref fo, .ref da, .ref ra]))] ++ [(da, .inl (cD, 8, .inr (.inr (.inr (.inr dm)))))] ++ [(ra, .inl (cR, 8, .inr (.inr (.inr (.inr rm)))))]) sz) := by
  refine Met.ofW (cc := cX11_keep) (maxL := 5) (ret := (some .int)) (by decide) rfl ?_
  intro p e s m args below meth c s₁ B hml hv
  obtain ⟨rfl, hH0, hCX⟩ := hv
  have hx := B.exec
  have hb := B.bytes
  have hr := B.returns
  have hts := atoms_spec (ws := wsX11_keep) B.pre
  have hown : s.vm.findClass RX11 = some m.cls := findClass_of_methodNamed B.named
  have hlocks := B.notSynchronized
  have hK := hCX.1
  obtain ⟨hsz, hP, hD0⟩ := hH0
  subst hsz
  have hD := hD0.self (sz := s.heap.size)
  generalize hAe : va_A ([(x, .inr (11, [.ref sN, .ref sM, .ref sP, .int (bI pt), .ref fo, .ref da, .ref ra]))] ++ [(da, .inl (cD, 8, .inr (.inr (.inr (.inr dm)))))] ++ [(ra, .inl (cR, 8, .inr (.inr (.inr (.inr rm)))))]) s.heap.size = A at hD ⊢
  have hA : ∀ q : Nat, s.heap.size ≤ q → A q := fun q h => by rw [← hAe]; exact Or.inr h
  have hS : va_S A s.heap s.heap [] := va_S.rf
  have hP : va_P (dC, dI) vwCl ([(x, .inr (11, [.ref sN, .ref sM, .ref sP, .int (bI pt), .ref fo, .ref da, .ref ra]))] ++ [(da, .inl (cD, 8, .inr (.inr (.inr (.inr dm)))))] ++ [(ra, .inl (cR, 8, .inr (.inr (.inr (.inr rm)))))]) s.heap := hP
  have hl := lv_entry ([.ref x, .int (nI y9), .int (nI 1), .int (nI k9), .int (nI f9)]) (n := 5) (Nat.le_of_ble_eq_true rfl)
  rw [lg_entry_eq]
  generalize (lg_sl ([.ref x, .int (nI y9), .int (nI 1), .int (nI k9), .int (nI f9)]) ++ List.replicate (5 - (lg_sl ([.ref x, .int (nI y9), .int (nI 1), .int (nI k9), .int (nI f9)])).length) Slot.unset).toArray = ls at hl ⊢
  have hl : lv_has ls 5 [(0, .ref x), (1, .int (nI y9)), (2, .int (nI 1)), (3, .int (nI k9)), (4, .int (nI f9))] := hl
  refine lv_iload_n hx hb dX11_keep_0 rfl (lv_at hl 1 rfl) ?_
  refine vp_callSi ((va_runS (As := [.int (nI y9)]) (rest := []) ⟨hx, hb, hml, hown, hts⟩ (c_X11_isShelf_t l dC dI cI cD cR y9 (by first | omega | assumption | exact gnd _ | exact gkn _ | exact Nat.lt_trans (gkn _) (by decide) | exact Nat.lt_trans (gnd _) (by decide) | exact Nat.lt_of_le_of_lt (pcN_le _) (by decide))) (va_cwS 1 hts gX11_keep_X11_isShelf rfl rfl rfl (by decide +kernel) ⟨Nat.le_of_ble_eq_true rfl, Nat.le_of_ble_eq_true rfl⟩) (preS_R hCX (trivial)) rfl rfl hl.1 rfl (lv_room (Nat.le_of_ble_eq_true rfl)) dX11_keep_1 ⟨Nat.le_of_ble_eq_true (by first | rfl | decide), Nat.le_of_ble_eq_true (by first | rfl | decide)⟩).run) (fun r_1 hr_1 => ?_)
  subst hr_1
  refine lv_if_ne (tgt := 9) hx hb dX11_keep_4 (by decide) (fun _ => ?_) (fun z => absurd z (by decide +kernel))
  refine lv_iload_n hx hb dX11_keep_9 rfl (lv_at hl 2 rfl) ?_
  refine lv_if_ne (tgt := 22) hx hb dX11_keep_10 (by decide) (fun _ => ?_) (fun z => absurd z (by decide +kernel))
  refine lv_iload_n hx hb dX11_keep_22 rfl (lv_at hl 2 rfl) ?_
  refine lv_iconst (v := nI 1) hx hb dX11_keep_23 (by decide +kernel) ?_
  refine lv_icmp_ne (tgt := 45) hx hb dX11_keep_24 (by decide) (fun z => absurd z (by decide +kernel)) (fun _ => ?_)
  refine lv_iload_n hx hb dX11_keep_27 rfl (lv_at hl 3 rfl) ?_
  refine ho_if_lt0 hx hb dX11_keep_28 (tgt := 45) (by decide) (by omega) ?_
  refine lv_iload_n hx hb dX11_keep_31 rfl (lv_at hl 3 rfl) ?_
  refine lv_bipush (v := nI 8) hx hb dX11_keep_32 (by decide +kernel) ?_
  refine ho_icmp_ge (tgt := 45) hx hb dX11_keep_34 (by decide) (by omega) (by omega) (fun c_34 => ?_) (fun c_34 => ?_)
  · exfalso; omega
  refine lv_iload hx hb dX11_keep_37 (lv_at hl 4 rfl) ?_
  refine vp_callSi ((va_runS (As := [.int (nI f9)]) (rest := []) ⟨hx, hb, hml, hown, hts⟩ (c_X11_isFigure_t l dC dI cI cD cR f9 (by first | omega | assumption | exact gnd _ | exact gkn _ | exact Nat.lt_trans (gkn _) (by decide) | exact Nat.lt_trans (gnd _) (by decide) | exact Nat.lt_of_le_of_lt (pcN_le _) (by decide))) (va_cwS 1 hts gX11_keep_X11_isFigure rfl rfl rfl (by decide +kernel) ⟨Nat.le_of_ble_eq_true rfl, Nat.le_of_ble_eq_true rfl⟩) (preS_R hCX (trivial)) rfl rfl hl.1 rfl (lv_room (Nat.le_of_ble_eq_true rfl)) dX11_keep_39 ⟨Nat.le_of_ble_eq_true (by first | rfl | decide), Nat.le_of_ble_eq_true (by first | rfl | decide)⟩).run) (fun r_39 hr_39 => ?_)
  subst hr_39
  refine lv_if_ne (tgt := 47) hx hb dX11_keep_42 (by decide) (fun _ => ?_) (fun z => absurd z (by decide +kernel))
  refine lv_aload_n hx hb dX11_keep_47 rfl (lv_at hl 0 rfl) ?_
  refine lv_iload_n hx hb dX11_keep_48 rfl (lv_at hl 1 rfl) ?_
  refine lv_iload_n hx hb dX11_keep_49 rfl (lv_at hl 3 rfl) ?_
  refine lv_iload hx hb dX11_keep_50 (lv_at hl 4 rfl) ?_
  have hFc := va_free (wc := []) hD hS hA [] rfl
  refine va_callr (va_runS (As := [.int (nI k9), .int (nI f9)]) (rest := [.int (nI y9), .ref x]) ⟨hx, hb, hml, hown, hts⟩ (c_X11_newDenier l dC dI cI cD cR k9 f9 s.heap.size (by first | omega | assumption | exact gnd _ | exact gkn _) (by first | omega | assumption | exact gnd _ | exact gkn _)) (va_cwS 2 hts gX11_keep_X11_newDenier rfl rfl rfl (by decide +kernel) ⟨Nat.le_of_ble_eq_true rfl, Nat.le_of_ble_eq_true rfl⟩) (preS_R hCX ⟨rfl, (fun k q h => by cases h), ⟨fun i j p q h => (by cases h), fun k q h => (by cases h)⟩⟩) rfl rfl hl.1 rfl (lv_room (Nat.le_of_ble_eq_true rfl)) dX11_keep_52 ⟨(by first | decide | exact Nat.le_of_ble_eq_true rfl | (dsimp only; omega) | omega | (simp only [headSpec]; omega)), (by first | decide | exact Nat.le_of_ble_eq_true rfl | (dsimp only; omega) | omega | (simp only [headSpec]; omega))⟩) hS (fun q _ h => hFc q h) hFc (fun u q_52 T8 H1 locs hT8 hvm hw hB hz1 hk1 hS => ?_)
  obtain ⟨hP1, hD1⟩ := hB
  rw [hT8] at hP1
  obtain ⟨hP, hD⟩ := va_join (wr := [(x, .inr (11, [.ref sN, .ref sM, .ref sP, .int (bI pt), .ref fo, .ref da, .ref ra]))] ++ [(da, .inl (cD, 8, .inr (.inr (.inr (.inr dm)))))] ++ [(ra, .inl (cR, 8, .inr (.inr (.inr (.inr rm)))))]) (w1 := [(q_52, dnE k9 f9)]) hP hD [] [0, 1, 2] rfl rfl (by decide) (by decide) hk1 hFc hP1 hD1
  generalize H1 = H at hP hS ⊢
  have hP : va_P (dC, dI) vwCl ([(x, .inr (11, [.ref sN, .ref sM, .ref sP, .int (bI pt), .ref fo, .ref da, .ref ra]))] ++ [(da, .inl (cD, 8, .inr (.inr (.inr (.inr dm)))))] ++ [(ra, .inl (cR, 8, .inr (.inr (.inr (.inr rm)))))] ++ [(q_52, dnE k9 f9)]) H := hP
  have hD : va_D A ([(x, .inr (11, [.ref sN, .ref sM, .ref sP, .int (bI pt), .ref fo, .ref da, .ref ra]))] ++ [(da, .inl (cD, 8, .inr (.inr (.inr (.inr dm)))))] ++ [(ra, .inl (cR, 8, .inr (.inr (.inr (.inr rm)))))] ++ [(q_52, dnE k9 f9)]) := hD
  refine lv_null hx hb dX11_keep_55 ?_
  have hPq := hP.sub (ws' := [(q_52, dnE k9 f9)]) [3] rfl
  have hPc := hP.sub (ws' := [(x, .inr (11, [.ref sN, .ref sM, .ref sP, .int (bI pt), .ref fo, .ref da, .ref ra]))] ++ [(da, .inl (cD, 8, .inr (.inr (.inr (.inr dm)))))] ++ [(ra, .inl (cR, 8, .inr (.inr (.inr (.inr rm)))))]) [0, 1, 2] rfl
  have hDc := hD.sub (ws' := [(x, .inr (11, [.ref sN, .ref sM, .ref sP, .int (bI pt), .ref fo, .ref da, .ref ra]))] ++ [(da, .inl (cD, 8, .inr (.inr (.inr (.inr dm)))))] ++ [(ra, .inl (cR, 8, .inr (.inr (.inr (.inr rm)))))]) [0, 1, 2] (by decide) rfl
  have hFc := va_free (wc := [(x, .inr (11, [.ref sN, .ref sM, .ref sP, .int (bI pt), .ref fo, .ref da, .ref ra]))] ++ [(da, .inl (cD, 8, .inr (.inr (.inr (.inr dm)))))] ++ [(ra, .inl (cR, 8, .inr (.inr (.inr (.inr rm)))))]) hD hS hA [0, 1, 2] rfl
  refine va_callv (va_runV (As := [.int (nI y9), .ref q_52, .null]) (rest := []) ⟨hx, hb, hml, hown, hts⟩ (c_X11_fillShelf_dn l dC dI cI cD cR x sN sM sP pt fo da ra dm rm y9 q_52 ([q_52]) (fun _ => k9) (fun _ => f9) H.size (by first | omega | assumption | exact gnd _ | exact gkn _ | exact Nat.lt_trans (gkn _) (by decide) | exact Nat.lt_trans (gnd _) (by decide) | exact Nat.lt_of_le_of_lt (pcN_le _) (by decide)) (List.mem_singleton.mpr rfl) (gro_cons hD hP [0, 1, 2] rfl (fun a9 ha9 => by cases ha9))) (cwV 3 hts gX11_keep_X11_fillShelf rfl rfl rfl (by decide +kernel) ⟨Nat.le_of_ble_eq_true rfl, Nat.le_of_ble_eq_true rfl⟩) (preV_R hCX (va_recv hK hP (ci := 11) (q0 := 0) rfl rfl) ⟨rfl, hPc, hDc.weaken (fun _ _ _ _ => trivial), (DP.one hPq hk9 hf9)⟩) rfl rfl hl.1 rfl (lv_room (Nat.le_of_ble_eq_true rfl)) dX11_keep_56 ⟨by first | decide | exact Nat.le_of_ble_eq_true rfl | (dsimp only; omega), by first | decide | exact Nat.le_of_ble_eq_true rfl | (dsimp only; omega)⟩) hS (fun q _ h => hFc q h) hFc (fun u T8 H1 locs hT8 hvm hw hB hz1 hk1 hS => ?_)
  obtain ⟨hP1, hD1⟩ := hB
  rw [hT8] at hP1
  obtain ⟨hP, hD⟩ := va_join (wr := [(q_52, dnE k9 f9)]) (w1 := [(x, .inr (11, [.ref sN, .ref sM, .ref sP, .int (bI pt), .ref fo, .ref da, .ref ra]))] ++ [(da, .inl (cD, 8, .inr (.inr (.inr (.inr (va_up dm y9 (some q_52)))))))] ++ [(ra, .inl (cR, 8, .inr (.inr (.inr (.inr (va_up rm y9 none))))))]) hP hD [0, 1, 2] [3] rfl rfl (by decide) (by decide) hk1 hFc hP1 hD1
  generalize H1 = H at hP hS ⊢
  have hP := hP.sub (ws' := [(x, .inr (11, [.ref sN, .ref sM, .ref sP, .int (bI pt), .ref fo, .ref da, .ref ra]))] ++ [(da, .inl (cD, 8, .inr (.inr (.inr (.inr (va_up dm y9 (some q_52)))))))] ++ [(ra, .inl (cR, 8, .inr (.inr (.inr (.inr (va_up rm y9 none))))))] ++ [(q_52, dnE k9 f9)]) [1, 2, 3, 0] rfl
  have hD := hD.sub (ws' := [(x, .inr (11, [.ref sN, .ref sM, .ref sP, .int (bI pt), .ref fo, .ref da, .ref ra]))] ++ [(da, .inl (cD, 8, .inr (.inr (.inr (.inr (va_up dm y9 (some q_52)))))))] ++ [(ra, .inl (cR, 8, .inr (.inr (.inr (.inr (va_up rm y9 none))))))] ++ [(q_52, dnE k9 f9)]) [1, 2, 3, 0] (by decide) rfl
  refine lv_iconst (v := nI 0) hx hb dX11_keep_59 (by decide +kernel) ?_
  refine W.widen (k := 1) (n := 2) (by first | decide | exact Nat.le_of_ble_eq_true rfl | (dsimp only; omega) | omega | (simp only [headSpec]; omega)) (by first | decide | exact Nat.le_of_ble_eq_true rfl | (dsimp only; omega) | omega | (simp only [headSpec]; omega)) ?_
  exact W.iret (v := nI 0) hx hb hr (fun T9 hT9 hW9 => ⟨⟨_, q_52, rfl, rfl, by rw [hT9]; exact hP, hD⟩, hS.F hT9⟩) hS.2.2 dX11_keep_60
set_option maxHeartbeats 4000000 in
set_option maxRecDepth 100000 in
theorem c_X11_keep_f (l : Launch) (dC : Nat → ClassId) (dI : Nat → Nat → Nat) (cI cD cR : ClassId) (x sN sM sP : Nat) (pt : Bool) (fo da ra : Nat) (dm : Nat → Option Nat) (rm : Nat → Option Nat) (x9 w k9 f9 : Int32) (hno : ∀ y, x9 = nI y → y < 8 → keepB w k9 f9 = false) : Met l yX11_keep wsX11_keep ({ frames := 1, cells := 0, slots := 0, locals := 20 }) (pcR dC dI cI cD cR [.ref x, .int x9, .int w, .int k9, .int f9] (fun H => va_P (dC, dI) vwCl ([(x, .inr (11, [.ref sN, .ref sM, .ref sP, .int (bI pt), .ref fo, .ref da, .ref ra]))] ++ [(da, .inl (cD, 8, .inr (.inr (.inr (.inr dm)))))] ++ [(ra, .inl (cR, 8, .inr (.inr (.inr (.inr rm)))))]) H)) (vp_Si (fun r => r = (-1))) 0 0 (fun _ => False) := by
  refine Met.ofW (cc := cX11_keep) (maxL := 5) (ret := (some .int)) (by decide) rfl ?_
  intro p e s m args below meth c s₁ B hml hv
  obtain ⟨rfl, hH0, hCX⟩ := hv
  have hx := B.exec
  have hb := B.bytes
  have hr := B.returns
  have hts := atoms_spec (ws := wsX11_keep) B.pre
  have hown : s.vm.findClass RX11 = some m.cls := findClass_of_methodNamed B.named
  have hlocks := B.notSynchronized
  have hK := hCX.1
  have hP := hH0
  have hl := lv_entry ([.ref x, .int x9, .int w, .int k9, .int f9]) (n := 5) (Nat.le_of_ble_eq_true rfl)
  rw [lg_entry_eq]
  generalize (lg_sl ([.ref x, .int x9, .int w, .int k9, .int f9]) ++ List.replicate (5 - (lg_sl ([.ref x, .int x9, .int w, .int k9, .int f9])).length) Slot.unset).toArray = ls at hl ⊢
  have hl : lv_has ls 5 [(0, .ref x), (1, .int x9), (2, .int w), (3, .int k9), (4, .int f9)] := hl
  rcases okI_or x9 (n := 8) (by omega) with hb_x9 | ⟨y, h_y, rfl⟩
  · refine lv_iload_n hx hb dX11_keep_0 rfl (lv_at hl 1 rfl) ?_
    refine vp_callSi ((va_runS (As := [.int x9]) (rest := []) ⟨hx, hb, hml, hown, hts⟩ (c_X11_isShelf_f l dC dI cI cD cR x9 (by first | omega | assumption | exact gnd _ | exact gkn _ | exact Nat.lt_trans (gkn _) (by decide) | exact Nat.lt_trans (gnd _) (by decide) | exact Nat.lt_of_le_of_lt (pcN_le _) (by decide))) (va_cwS 1 hts gX11_keep_X11_isShelf rfl rfl rfl (by decide +kernel) ⟨Nat.le_of_ble_eq_true rfl, Nat.le_of_ble_eq_true rfl⟩) (preS_R hCX (trivial)) rfl rfl hl.1 rfl (lv_room (Nat.le_of_ble_eq_true rfl)) dX11_keep_1 ⟨Nat.le_of_ble_eq_true (by first | rfl | decide), Nat.le_of_ble_eq_true (by first | rfl | decide)⟩).run) (fun r_1 hr_1 => ?_)
    subst hr_1
    refine lv_if_ne (tgt := 9) hx hb dX11_keep_4 (by decide) (fun z => absurd z (by decide +kernel)) (fun _ => ?_)
    refine lv_iconst (v := (-1)) hx hb dX11_keep_7 (by decide +kernel) ?_
    exact W.iret (v := (-1)) hx hb hr (fun T9 hT9 hW9 => ⟨_, rfl, (by rfl), hT9⟩) (fun q h => by cases h) dX11_keep_8
  refine lv_iload_n hx hb dX11_keep_0 rfl (lv_at hl 1 rfl) ?_
  refine vp_callSi ((va_runS (As := [.int (nI y)]) (rest := []) ⟨hx, hb, hml, hown, hts⟩ (c_X11_isShelf_t l dC dI cI cD cR y (by first | omega | assumption | exact gnd _ | exact gkn _ | exact Nat.lt_trans (gkn _) (by decide) | exact Nat.lt_trans (gnd _) (by decide) | exact Nat.lt_of_le_of_lt (pcN_le _) (by decide))) (va_cwS 1 hts gX11_keep_X11_isShelf rfl rfl rfl (by decide +kernel) ⟨Nat.le_of_ble_eq_true rfl, Nat.le_of_ble_eq_true rfl⟩) (preS_R hCX (trivial)) rfl rfl hl.1 rfl (lv_room (Nat.le_of_ble_eq_true rfl)) dX11_keep_1 ⟨Nat.le_of_ble_eq_true (by first | rfl | decide), Nat.le_of_ble_eq_true (by first | rfl | decide)⟩).run) (fun r_1 hr_1 => ?_)
  subst hr_1
  refine lv_if_ne (tgt := 9) hx hb dX11_keep_4 (by decide) (fun _ => ?_) (fun z => absurd z (by decide +kernel))
  refine lv_iload_n hx hb dX11_keep_9 rfl (lv_at hl 2 rfl) ?_
  refine lv_if_ne (tgt := 22) hx hb dX11_keep_10 (by decide) (fun c_10 => ?_) (fun c_10 => ?_)
  · refine lv_iload_n hx hb dX11_keep_22 rfl (lv_at hl 2 rfl) ?_
    refine lv_iconst (v := nI 1) hx hb dX11_keep_23 (by decide +kernel) ?_
    refine lv_icmp_ne (tgt := 45) hx hb dX11_keep_24 (by decide) (fun c_24 => ?_) (fun c_24 => ?_)
    · have c_24 : ¬ w = 1 := c_24
      refine lv_iconst (v := (-1)) hx hb dX11_keep_45 (by decide +kernel) ?_
      exact W.iret (v := (-1)) hx hb hr (fun T9 hT9 hW9 => ⟨_, rfl, (by rfl), hT9⟩) (fun q h => by cases h) dX11_keep_46
    have c_24 : w = 1 := c_24
    refine lv_iload_n hx hb dX11_keep_27 rfl (lv_at hl 3 rfl) ?_
    refine lv_if_lt (tgt := 45) hx hb dX11_keep_28 (by decide) (fun c_28 => ?_) (fun c_28 => ?_)
    · refine lv_iconst (v := (-1)) hx hb dX11_keep_45 (by decide +kernel) ?_
      exact W.iret (v := (-1)) hx hb hr (fun T9 hT9 hW9 => ⟨_, rfl, (by rfl), hT9⟩) (fun q h => by cases h) dX11_keep_46
    refine lv_iload_n hx hb dX11_keep_31 rfl (lv_at hl 3 rfl) ?_
    refine lv_bipush (v := nI 8) hx hb dX11_keep_32 (by decide +kernel) ?_
    refine lv_icmp_ge (tgt := 45) hx hb dX11_keep_34 (by decide) (fun c_34 => ?_) (fun c_34 => ?_)
    · refine lv_iconst (v := (-1)) hx hb dX11_keep_45 (by decide +kernel) ?_
      exact W.iret (v := (-1)) hx hb hr (fun T9 hT9 hW9 => ⟨_, rfl, (by rfl), hT9⟩) (fun q h => by cases h) dX11_keep_46
    refine lv_iload hx hb dX11_keep_37 (lv_at hl 4 rfl) ?_
    refine vp_callSi ((va_runS (As := [.int f9]) (rest := []) ⟨hx, hb, hml, hown, hts⟩ (c_X11_isFigure_r l dC dI cI cD cR f9) (va_cwS 1 hts gX11_keep_X11_isFigure rfl rfl rfl (by decide +kernel) ⟨Nat.le_of_ble_eq_true rfl, Nat.le_of_ble_eq_true rfl⟩) (preS_R hCX (trivial)) rfl rfl hl.1 rfl (lv_room (Nat.le_of_ble_eq_true rfl)) dX11_keep_39 ⟨Nat.le_of_ble_eq_true (by first | rfl | decide), Nat.le_of_ble_eq_true (by first | rfl | decide)⟩).run) (fun r_39 hr_39 => ?_)
    subst hr_39
    refine ho_bne (tgt := 47) hx hb dX11_keep_42 (by decide) (fun c_42 => ?_) (fun c_42 => ?_)
    · exact absurd (hno y rfl h_y) (by rw [keepB, c_42, decide_eq_true (show w = 1 from c_24), okI_of c_28 (Int32.not_le.mp c_34)]; simp)
    refine lv_iconst (v := (-1)) hx hb dX11_keep_45 (by decide +kernel) ?_
    exact W.iret (v := (-1)) hx hb hr (fun T9 hT9 hW9 => ⟨_, rfl, (by rfl), hT9⟩) (fun q h => by cases h) dX11_keep_46
  exact absurd (hno y rfl h_y) (by rw [keepB, decide_eq_true c_10]; simp)
set_option maxHeartbeats 4000000 in
set_option maxRecDepth 100000 in
theorem c_X11_row_t (l : Launch) (dC : Nat → ClassId) (dI : Nat → Nat → Nat) (cI cD cR : ClassId) (x sN sM sP : Nat) (pt : Bool) (fo da ra : Nat) (dm : Nat → Option Nat) (rm : Nat → Option Nat) (y9 o9 z9 : Nat) (sz : Nat) (hy9 : y9 < 8) (ho9 : o9 < 3) (hz9 : z9 ≤ 100) : Met l yX11_row wsX11_row ({ frames := 2, cells := 2, slots := 2 + z9, locals := 34 }) (pcR dC dI cI cD cR [.ref x, .int (nI y9), .int (nI o9), .int (nI z9)] (fun H => H.size = sz ∧ va_P (dC, dI) vwCl ([(x, .inr (11, [.ref sN, .ref sM, .ref sP, .int (bI pt), .ref fo, .ref da, .ref ra]))] ++ [(da, .inl (cD, 8, .inr (.inr (.inr (.inr dm)))))] ++ [(ra, .inl (cR, 8, .inr (.inr (.inr (.inr rm)))))]) H ∧ va_D (fun _ => True) ([(x, .inr (11, [.ref sN, .ref sM, .ref sP, .int (bI pt), .ref fo, .ref da, .ref ra]))] ++ [(da, .inl (cD, 8, .inr (.inr (.inr (.inr dm)))))] ++ [(ra, .inl (cR, 8, .inr (.inr (.inr (.inr rm)))))]))) (va_Qi (fun r (_ : Nat × Nat) => r = nI 0) (fun (u9 : Nat × Nat) T9 => va_P (dC, dI) vwCl ([(x, .inr (11, [.ref sN, .ref sM, .ref sP, .int (bI pt), .ref fo, .ref da, .ref ra]))] ++ [(da, .inl (cD, 8, .inr (.inr (.inr (.inr (va_up dm y9 none))))))] ++ [(ra, .inl (cR, 8, .inr (.inr (.inr (.inr (va_up rm y9 (some u9.1)))))))] ++ [(u9.1, .inr (8, [.int (nI o9), .ref u9.2])), (u9.2, .inl (cI, z9, .inl (fun _ => 0)))]) T9.heap ∧ va_D (va_A ([(x, .inr (11, [.ref sN, .ref sM, .ref sP, .int (bI pt), .ref fo, .ref da, .ref ra]))] ++ [(da, .inl (cD, 8, .inr (.inr (.inr (.inr dm)))))] ++ [(ra, .inl (cR, 8, .inr (.inr (.inr (.inr rm)))))]) sz) ([(x, .inr (11, [.ref sN, .ref sM, .ref sP, .int (bI pt), .ref fo, .ref da, .ref ra]))] ++ [(da, .inl (cD, 8, .inr (.inr (.inr (.inr (va_up dm y9 none))))))] ++ [(ra, .inl (cR, 8, .inr (.inr (.inr (.inr (va_up rm y9 (some u9.1)))))))] ++ [(u9.1, .inr (8, [.int (nI o9), .ref u9.2])), (u9.2, .inl (cI, z9, .inl (fun _ => 0)))])) (va_A ([(x, .inr (11, [.ref sN, .ref sM, .ref sP, .int (bI pt), .ref fo, .ref da, .ref ra]))] ++ [(da, .inl (cD, 8, .inr (.inr (.inr (.inr dm)))))] ++ [(ra, .inl (cR, 8, .inr (.inr (.inr (.inr rm)))))]) sz)) 2 (2 + z9) (va_A ([(x, .inr (11, [.ref sN, .ref sM, .ref sP, .int (bI pt), .ref fo, .ref da, .ref ra]))] ++ [(da, .inl (cD, 8, .inr (.inr (.inr (.inr dm)))))] ++ [(ra, .inl (cR, 8, .inr (.inr (.inr (.inr rm)))))]) sz) := by
  refine Met.ofW (cc := cX11_row) (maxL := 4) (ret := (some .int)) (by decide) rfl ?_
  intro p e s m args below meth c s₁ B hml hv
  obtain ⟨rfl, hH0, hCX⟩ := hv
  have hx := B.exec
  have hb := B.bytes
  have hr := B.returns
  have hts := atoms_spec (ws := wsX11_row) B.pre
  have hown : s.vm.findClass RX11 = some m.cls := findClass_of_methodNamed B.named
  have hlocks := B.notSynchronized
  have hK := hCX.1
  obtain ⟨hsz, hP, hD0⟩ := hH0
  subst hsz
  have hD := hD0.self (sz := s.heap.size)
  generalize hAe : va_A ([(x, .inr (11, [.ref sN, .ref sM, .ref sP, .int (bI pt), .ref fo, .ref da, .ref ra]))] ++ [(da, .inl (cD, 8, .inr (.inr (.inr (.inr dm)))))] ++ [(ra, .inl (cR, 8, .inr (.inr (.inr (.inr rm)))))]) s.heap.size = A at hD ⊢
  have hA : ∀ q : Nat, s.heap.size ≤ q → A q := fun q h => by rw [← hAe]; exact Or.inr h
  have hS : va_S A s.heap s.heap [] := va_S.rf
  have hP : va_P (dC, dI) vwCl ([(x, .inr (11, [.ref sN, .ref sM, .ref sP, .int (bI pt), .ref fo, .ref da, .ref ra]))] ++ [(da, .inl (cD, 8, .inr (.inr (.inr (.inr dm)))))] ++ [(ra, .inl (cR, 8, .inr (.inr (.inr (.inr rm)))))]) s.heap := hP
  have hl := lv_entry ([.ref x, .int (nI y9), .int (nI o9), .int (nI z9)]) (n := 4) (Nat.le_of_ble_eq_true rfl)
  rw [lg_entry_eq]
  generalize (lg_sl ([.ref x, .int (nI y9), .int (nI o9), .int (nI z9)]) ++ List.replicate (4 - (lg_sl ([.ref x, .int (nI y9), .int (nI o9), .int (nI z9)])).length) Slot.unset).toArray = ls at hl ⊢
  have hl : lv_has ls 4 [(0, .ref x), (1, .int (nI y9)), (2, .int (nI o9)), (3, .int (nI z9))] := hl
  refine lv_iload_n hx hb dX11_row_0 rfl (lv_at hl 1 rfl) ?_
  refine vp_callSi ((va_runS (As := [.int (nI y9)]) (rest := []) ⟨hx, hb, hml, hown, hts⟩ (c_X11_isShelf_t l dC dI cI cD cR y9 (by first | omega | assumption | exact gnd _ | exact gkn _ | exact Nat.lt_trans (gkn _) (by decide) | exact Nat.lt_trans (gnd _) (by decide) | exact Nat.lt_of_le_of_lt (pcN_le _) (by decide))) (va_cwS 1 hts gX11_row_X11_isShelf rfl rfl rfl (by decide +kernel) ⟨Nat.le_of_ble_eq_true rfl, Nat.le_of_ble_eq_true rfl⟩) (preS_R hCX (trivial)) rfl rfl hl.1 rfl (lv_room (Nat.le_of_ble_eq_true rfl)) dX11_row_1 ⟨Nat.le_of_ble_eq_true (by first | rfl | decide), Nat.le_of_ble_eq_true (by first | rfl | decide)⟩).run) (fun r_1 hr_1 => ?_)
  subst hr_1
  refine lv_if_eq (tgt := 22) hx hb dX11_row_4 (by decide) (fun z => absurd z (by decide +kernel)) (fun _ => ?_)
  refine lv_iload_n hx hb dX11_row_7 rfl (lv_at hl 2 rfl) ?_
  refine ho_if_lt0 hx hb dX11_row_8 (tgt := 22) (by decide) (by omega) ?_
  refine lv_iload_n hx hb dX11_row_11 rfl (lv_at hl 2 rfl) ?_
  refine lv_iconst (v := nI 3) hx hb dX11_row_12 (by decide +kernel) ?_
  refine ho_icmp_ge (tgt := 22) hx hb dX11_row_13 (by decide) (by omega) (by omega) (fun c_13 => ?_) (fun c_13 => ?_)
  · exfalso; omega
  refine lv_iload_n hx hb dX11_row_16 rfl (lv_at hl 3 rfl) ?_
  refine lv_bipush (v := nI 100) hx hb dX11_row_17 (by decide +kernel) ?_
  refine ho_icmp_le (tgt := 24) hx hb dX11_row_19 (by decide) (by omega) (by omega) (fun c_19 => ?_) (fun c_19 => ?_)
  · refine lv_iload_n hx hb dX11_row_24 rfl (lv_at hl 3 rfl) ?_
    refine ho_if_ge0 (tgt := 31) hx hb dX11_row_25 (by decide) (by omega) ?_
    refine lv_aload_n hx hb dX11_row_31 rfl (lv_at hl 0 rfl) ?_
    refine lv_iload_n hx hb dX11_row_32 rfl (lv_at hl 1 rfl) ?_
    refine lv_null hx hb dX11_row_33 ?_
    refine va_new (ci := 8) (fs := [.int (nI 0), .null]) (C := RX8) (T := TX8) (N := 2) hx hb hts (fun _ h => List.mem_cons_of_mem _ (List.mem_append_left _ (List.mem_append_right _ h))) tyX8 tyX8_ok hown (hts (.classLink RX11 35 RX8) (by decide +kernel)) (hts (.instantiable RX8 2) (by decide +kernel)) (hts (.initialized RX8) (by decide +kernel)) hK hP hD hS hA rfl (fun j hj => by rcases (show j = 0 ∨ j = 1 by omega) with rfl | rfl <;> rfl) (by first | decide | exact Nat.le_of_ble_eq_true rfl | (dsimp only; omega) | omega | (simp only [headSpec]; omega)) (by first | decide | exact Nat.le_of_ble_eq_true rfl | (dsimp only; omega) | omega | (simp only [headSpec]; omega)) dX11_row_34 (fun q_34 H hP hD hS => ?_)
    have hP : va_P (dC, dI) vwCl ([(x, .inr (11, [.ref sN, .ref sM, .ref sP, .int (bI pt), .ref fo, .ref da, .ref ra]))] ++ [(da, .inl (cD, 8, .inr (.inr (.inr (.inr dm)))))] ++ [(ra, .inl (cR, 8, .inr (.inr (.inr (.inr rm)))))] ++ [(q_34, .inr (8, [.int (nI 0), .null]))]) H := hP
    have hD : va_D A ([(x, .inr (11, [.ref sN, .ref sM, .ref sP, .int (bI pt), .ref fo, .ref da, .ref ra]))] ++ [(da, .inl (cD, 8, .inr (.inr (.inr (.inr dm)))))] ++ [(ra, .inl (cR, 8, .inr (.inr (.inr (.inr rm)))))] ++ [(q_34, .inr (8, [.int (nI 0), .null]))]) := hD
    refine lv_dup hx hb dX11_row_37 rfl ?_
    refine lv_iload_n hx hb dX11_row_38 rfl (lv_at hl 2 rfl) ?_
    refine lv_iload_n hx hb dX11_row_39 rfl (lv_at hl 3 rfl) ?_
    refine va_newa (atype := .int) (a0 := (z9, .inl ((fun _ => 0)))) hx hb (hts (.arrayClass .int) (by decide +kernel)) rfl hK hP hD hS hA (fun c9 => rfl) (nI_pos (by omega)) (nI_clamp (by omega)) (by show z9 * 4 ≤ 536870912; omega) (by first | decide | exact Nat.le_of_ble_eq_true rfl | (dsimp only; omega) | omega | (simp only [headSpec]; omega)) (Nat.le_refl _) dX11_row_40 (fun q_40 c9 H hK9 hP hD hS => ?_)
    have e9 : c9 = cI := ho_cAi hK hK9
    rw [e9] at hP hD
    clear e9 hK9
    have hP : va_P (dC, dI) vwCl ([(x, .inr (11, [.ref sN, .ref sM, .ref sP, .int (bI pt), .ref fo, .ref da, .ref ra]))] ++ [(da, .inl (cD, 8, .inr (.inr (.inr (.inr dm)))))] ++ [(ra, .inl (cR, 8, .inr (.inr (.inr (.inr rm)))))] ++ [(q_34, .inr (8, [.int (nI 0), .null]))] ++ [(q_40, .inl (cI, z9, .inl (fun _ => 0)))]) H := hP
    have hD : va_D A ([(x, .inr (11, [.ref sN, .ref sM, .ref sP, .int (bI pt), .ref fo, .ref da, .ref ra]))] ++ [(da, .inl (cD, 8, .inr (.inr (.inr (.inr dm)))))] ++ [(ra, .inl (cR, 8, .inr (.inr (.inr (.inr rm)))))] ++ [(q_34, .inr (8, [.int (nI 0), .null]))] ++ [(q_40, .inl (cI, z9, .inl (fun _ => 0)))]) := hD
    have hPc := hP.sub (ws' := [(q_34, .inr (8, [.int (nI 0), .null]))] ++ [(q_40, .inl (cI, z9, .inl (fun _ => 0)))]) [3, 4] rfl
    have hDc := hD.sub (ws' := [(q_34, .inr (8, [.int (nI 0), .null]))] ++ [(q_40, .inl (cI, z9, .inl (fun _ => 0)))]) [3, 4] (by decide) rfl
    have hFc := va_free (wc := [(q_34, .inr (8, [.int (nI 0), .null]))] ++ [(q_40, .inl (cI, z9, .inl (fun _ => 0)))]) hD hS hA [3, 4] rfl
    refine va_callv (va_runI (As := [.int (nI o9), .ref q_40]) (rest := [.ref q_34, .null, .int (nI y9), .ref x]) ⟨hx, hb, hml, hown, hts⟩ (c_X8_init l dC dI cI cD cR q_34 q_40 o9 z9 (fun _ => 0) H.size) (cwI 2 hts gX11_row_X8_init rfl rfl rfl (hts (.initialized RX8) (by decide +kernel)) (hts (.methodLink RX11 230 yX8_init) (by decide +kernel)) (hts (.instanceMethod yX8_init) (by decide +kernel)) rfl (by decide +kernel) ⟨Nat.le_of_ble_eq_true rfl, Nat.le_of_ble_eq_true rfl⟩) (preS_R hCX ⟨rfl, hPc, hDc.weaken (fun _ _ _ _ => trivial)⟩) rfl rfl hl.1 rfl (lv_room (Nat.le_of_ble_eq_true rfl)) dX11_row_42 ⟨(by first | decide | exact Nat.le_of_ble_eq_true rfl | (dsimp only; omega) | omega | (simp only [headSpec]; omega)), (by first | decide | exact Nat.le_of_ble_eq_true rfl | (dsimp only; omega) | omega | (simp only [headSpec]; omega))⟩) hS (fun q _ h => hFc q h) hFc (fun u T8 H1 locs hT8 hvm hw hB hz1 hk1 hS => ?_)
    obtain ⟨hP1, hD1⟩ := hB
    rw [hT8] at hP1
    have hP1 : va_P (dC, dI) vwCl ([(q_34, .inr (8, [.int (nI o9), .ref q_40])), (q_40, .inl (cI, z9, .inl (fun _ => 0)))]) H1 := hP1
    obtain ⟨hP, hD⟩ := va_join (wr := [(x, .inr (11, [.ref sN, .ref sM, .ref sP, .int (bI pt), .ref fo, .ref da, .ref ra]))] ++ [(da, .inl (cD, 8, .inr (.inr (.inr (.inr dm)))))] ++ [(ra, .inl (cR, 8, .inr (.inr (.inr (.inr rm)))))]) (w1 := [(q_34, .inr (8, [.int (nI o9), .ref q_40])), (q_40, .inl (cI, z9, .inl (fun _ => 0)))]) hP hD [3, 4] [0, 1, 2] rfl rfl (by decide) (by decide) hk1 hFc hP1 hD1
    generalize H1 = H at hP hS ⊢
    have hP : va_P (dC, dI) vwCl ([(x, .inr (11, [.ref sN, .ref sM, .ref sP, .int (bI pt), .ref fo, .ref da, .ref ra]))] ++ [(da, .inl (cD, 8, .inr (.inr (.inr (.inr dm)))))] ++ [(ra, .inl (cR, 8, .inr (.inr (.inr (.inr rm)))))] ++ [(q_34, .inr (8, [.int (nI o9), .ref q_40])), (q_40, .inl (cI, z9, .inl (fun _ => 0)))]) H := hP
    have hD : va_D A ([(x, .inr (11, [.ref sN, .ref sM, .ref sP, .int (bI pt), .ref fo, .ref da, .ref ra]))] ++ [(da, .inl (cD, 8, .inr (.inr (.inr (.inr dm)))))] ++ [(ra, .inl (cR, 8, .inr (.inr (.inr (.inr rm)))))] ++ [(q_34, .inr (8, [.int (nI o9), .ref q_40])), (q_40, .inl (cI, z9, .inl (fun _ => 0)))]) := hD
    have hPc := hP
    have hDc := hD
    have hFc := va_free (wc := [(x, .inr (11, [.ref sN, .ref sM, .ref sP, .int (bI pt), .ref fo, .ref da, .ref ra]))] ++ [(da, .inl (cD, 8, .inr (.inr (.inr (.inr dm)))))] ++ [(ra, .inl (cR, 8, .inr (.inr (.inr (.inr rm)))))] ++ [(q_34, .inr (8, [.int (nI o9), .ref q_40])), (q_40, .inl (cI, z9, .inl (fun _ => 0)))]) hD hS hA [0, 1, 2, 3, 4] rfl
    refine va_callv (va_runV (As := [.int (nI y9), .null, .ref q_34]) (rest := []) ⟨hx, hb, hml, hown, hts⟩ (c_X11_fillShelf_nr l dC dI cI cD cR x sN sM sP pt fo da ra dm rm q_34 q_40 o9 z9 (fun _ => 0) y9 H.size (by first | omega | assumption | exact gnd _ | exact gkn _ | exact Nat.lt_trans (gkn _) (by decide) | exact Nat.lt_trans (gnd _) (by decide) | exact Nat.lt_of_le_of_lt (pcN_le _) (by decide))) (cwV 3 hts gX11_row_X11_fillShelf rfl rfl rfl (by decide +kernel) ⟨Nat.le_of_ble_eq_true rfl, Nat.le_of_ble_eq_true rfl⟩) (preV_R hCX (va_recv hK hP (ci := 11) (q0 := 0) rfl rfl) ⟨rfl, hPc, hDc.weaken (fun _ _ _ _ => trivial)⟩) rfl rfl hl.1 rfl (lv_room (Nat.le_of_ble_eq_true rfl)) dX11_row_45 ⟨by first | decide | exact Nat.le_refl _ | (show _ ≤ 2; omega) | (show _ ≤ 2 + z9; omega), by first | decide | exact Nat.le_refl _ | (show _ ≤ 2; omega) | (show _ ≤ 2 + z9; omega)⟩) hS (fun q _ h => hFc q h) hFc (fun u T8 H1 locs hT8 hvm hw hB hz1 hk1 hS => ?_)
    obtain ⟨hP1, hD1⟩ := hB
    rw [hT8] at hP1
    obtain ⟨hP, hD⟩ := va_join (wr := []) (w1 := [(x, .inr (11, [.ref sN, .ref sM, .ref sP, .int (bI pt), .ref fo, .ref da, .ref ra]))] ++ [(da, .inl (cD, 8, .inr (.inr (.inr (.inr (va_up dm y9 none))))))] ++ [(ra, .inl (cR, 8, .inr (.inr (.inr (.inr (va_up rm y9 (some q_34)))))))] ++ [(q_34, .inr (8, [.int (nI o9), .ref q_40])), (q_40, .inl (cI, z9, .inl (fun _ => 0)))]) hP hD [0, 1, 2, 3, 4] [] rfl rfl (by decide) (by decide) hk1 hFc hP1 hD1
    generalize H1 = H at hP hS ⊢
    have hP : va_P (dC, dI) vwCl ([(x, .inr (11, [.ref sN, .ref sM, .ref sP, .int (bI pt), .ref fo, .ref da, .ref ra]))] ++ [(da, .inl (cD, 8, .inr (.inr (.inr (.inr (va_up dm y9 none))))))] ++ [(ra, .inl (cR, 8, .inr (.inr (.inr (.inr (va_up rm y9 (some q_34)))))))] ++ [(q_34, .inr (8, [.int (nI o9), .ref q_40])), (q_40, .inl (cI, z9, .inl (fun _ => 0)))]) H := hP
    have hD : va_D A ([(x, .inr (11, [.ref sN, .ref sM, .ref sP, .int (bI pt), .ref fo, .ref da, .ref ra]))] ++ [(da, .inl (cD, 8, .inr (.inr (.inr (.inr (va_up dm y9 none))))))] ++ [(ra, .inl (cR, 8, .inr (.inr (.inr (.inr (va_up rm y9 (some q_34)))))))] ++ [(q_34, .inr (8, [.int (nI o9), .ref q_40])), (q_40, .inl (cI, z9, .inl (fun _ => 0)))]) := hD
    refine lv_iconst (v := nI 0) hx hb dX11_row_48 (by decide +kernel) ?_
    refine W.widen (k := 2) (n := 2 + z9) (by first | decide | exact Nat.le_of_ble_eq_true rfl | (dsimp only; omega) | omega | (simp only [headSpec]; omega)) (by first | decide | exact Nat.le_of_ble_eq_true rfl | (dsimp only; omega) | omega | (simp only [headSpec]; omega)) ?_
    exact W.iret (v := nI 0) hx hb hr (fun T9 hT9 hW9 => ⟨⟨_, (q_34, q_40), rfl, rfl, by rw [hT9]; exact hP, hD⟩, hS.F hT9⟩) hS.2.2 dX11_row_49
  exfalso; omega
set_option maxHeartbeats 4000000 in
set_option maxRecDepth 100000 in
theorem c_X11_row_f (l : Launch) (dC : Nat → ClassId) (dI : Nat → Nat → Nat) (cI cD cR : ClassId) (x sN sM sP : Nat) (pt : Bool) (fo da ra : Nat) (dm : Nat → Option Nat) (rm : Nat → Option Nat) (x9 o9 z9 : Int32) (hno : ∀ y, x9 = nI y → y < 8 → rowB o9 z9 = true → z9 < 0) : Met l yX11_row wsX11_row ({ frames := 1, cells := 0, slots := 0, locals := 20 }) (pcR dC dI cI cD cR [.ref x, .int x9, .int o9, .int z9] (fun H => va_P (dC, dI) vwCl ([(x, .inr (11, [.ref sN, .ref sM, .ref sP, .int (bI pt), .ref fo, .ref da, .ref ra]))] ++ [(da, .inl (cD, 8, .inr (.inr (.inr (.inr dm)))))] ++ [(ra, .inl (cR, 8, .inr (.inr (.inr (.inr rm)))))]) H)) (vp_Si (fun r => r = (bif okI x9 8 && rowB o9 z9 then -14 else -1))) 0 0 (fun _ => False) := by
  refine Met.ofW (cc := cX11_row) (maxL := 4) (ret := (some .int)) (by decide) rfl ?_
  intro p e s m args below meth c s₁ B hml hv
  obtain ⟨rfl, hH0, hCX⟩ := hv
  have hx := B.exec
  have hb := B.bytes
  have hr := B.returns
  have hts := atoms_spec (ws := wsX11_row) B.pre
  have hown : s.vm.findClass RX11 = some m.cls := findClass_of_methodNamed B.named
  have hlocks := B.notSynchronized
  have hK := hCX.1
  have hP := hH0
  have hl := lv_entry ([.ref x, .int x9, .int o9, .int z9]) (n := 4) (Nat.le_of_ble_eq_true rfl)
  rw [lg_entry_eq]
  generalize (lg_sl ([.ref x, .int x9, .int o9, .int z9]) ++ List.replicate (4 - (lg_sl ([.ref x, .int x9, .int o9, .int z9])).length) Slot.unset).toArray = ls at hl ⊢
  have hl : lv_has ls 4 [(0, .ref x), (1, .int x9), (2, .int o9), (3, .int z9)] := hl
  rcases okI_or x9 (n := 8) (by omega) with hb_x9 | ⟨y, h_y, rfl⟩
  · refine lv_iload_n hx hb dX11_row_0 rfl (lv_at hl 1 rfl) ?_
    refine vp_callSi ((va_runS (As := [.int x9]) (rest := []) ⟨hx, hb, hml, hown, hts⟩ (c_X11_isShelf_f l dC dI cI cD cR x9 (by first | omega | assumption | exact gnd _ | exact gkn _ | exact Nat.lt_trans (gkn _) (by decide) | exact Nat.lt_trans (gnd _) (by decide) | exact Nat.lt_of_le_of_lt (pcN_le _) (by decide))) (va_cwS 1 hts gX11_row_X11_isShelf rfl rfl rfl (by decide +kernel) ⟨Nat.le_of_ble_eq_true rfl, Nat.le_of_ble_eq_true rfl⟩) (preS_R hCX (trivial)) rfl rfl hl.1 rfl (lv_room (Nat.le_of_ble_eq_true rfl)) dX11_row_1 ⟨Nat.le_of_ble_eq_true (by first | rfl | decide), Nat.le_of_ble_eq_true (by first | rfl | decide)⟩).run) (fun r_1 hr_1 => ?_)
    subst hr_1
    refine lv_if_eq (tgt := 22) hx hb dX11_row_4 (by decide) (fun _ => ?_) (fun z => absurd z (by decide +kernel))
    refine lv_iconst (v := (-1)) hx hb dX11_row_22 (by decide +kernel) ?_
    exact W.iret (v := (-1)) hx hb hr (fun T9 hT9 hW9 => ⟨_, rfl, (by first | (rw [hb_x9]; rfl) | (rw [okI_nI (by omega) (by decide), decide_eq_true h_y, rowB, okI_n0 c_8]; rfl) | (rw [okI_nI (by omega) (by decide), decide_eq_true h_y, rowB, okI_n1 c_13]; rfl) | (rw [okI_nI (by omega) (by decide), decide_eq_true h_y, rowB, okI_of c_8 (Int32.not_le.mp c_13), decide_eq_true (Int32.not_le.mp c_19)]; rfl) | (rw [okI_nI (by omega) (by decide), decide_eq_true h_y, rowB, okI_of c_8 (Int32.not_le.mp c_13), decide_eq_false (Int32.not_lt.mpr c_19)]; rfl)), hT9⟩) (fun q h => by cases h) dX11_row_23
  refine lv_iload_n hx hb dX11_row_0 rfl (lv_at hl 1 rfl) ?_
  refine vp_callSi ((va_runS (As := [.int (nI y)]) (rest := []) ⟨hx, hb, hml, hown, hts⟩ (c_X11_isShelf_t l dC dI cI cD cR y (by first | omega | assumption | exact gnd _ | exact gkn _ | exact Nat.lt_trans (gkn _) (by decide) | exact Nat.lt_trans (gnd _) (by decide) | exact Nat.lt_of_le_of_lt (pcN_le _) (by decide))) (va_cwS 1 hts gX11_row_X11_isShelf rfl rfl rfl (by decide +kernel) ⟨Nat.le_of_ble_eq_true rfl, Nat.le_of_ble_eq_true rfl⟩) (preS_R hCX (trivial)) rfl rfl hl.1 rfl (lv_room (Nat.le_of_ble_eq_true rfl)) dX11_row_1 ⟨Nat.le_of_ble_eq_true (by first | rfl | decide), Nat.le_of_ble_eq_true (by first | rfl | decide)⟩).run) (fun r_1 hr_1 => ?_)
  subst hr_1
  refine lv_if_eq (tgt := 22) hx hb dX11_row_4 (by decide) (fun z => absurd z (by decide +kernel)) (fun _ => ?_)
  refine lv_iload_n hx hb dX11_row_7 rfl (lv_at hl 2 rfl) ?_
  refine lv_if_lt (tgt := 22) hx hb dX11_row_8 (by decide) (fun c_8 => ?_) (fun c_8 => ?_)
  · refine lv_iconst (v := (-1)) hx hb dX11_row_22 (by decide +kernel) ?_
    exact W.iret (v := (-1)) hx hb hr (fun T9 hT9 hW9 => ⟨_, rfl, (by first | (rw [hb_x9]; rfl) | (rw [okI_nI (by omega) (by decide), decide_eq_true h_y, rowB, okI_n0 c_8]; rfl) | (rw [okI_nI (by omega) (by decide), decide_eq_true h_y, rowB, okI_n1 c_13]; rfl) | (rw [okI_nI (by omega) (by decide), decide_eq_true h_y, rowB, okI_of c_8 (Int32.not_le.mp c_13), decide_eq_true (Int32.not_le.mp c_19)]; rfl) | (rw [okI_nI (by omega) (by decide), decide_eq_true h_y, rowB, okI_of c_8 (Int32.not_le.mp c_13), decide_eq_false (Int32.not_lt.mpr c_19)]; rfl)), hT9⟩) (fun q h => by cases h) dX11_row_23
  refine lv_iload_n hx hb dX11_row_11 rfl (lv_at hl 2 rfl) ?_
  refine lv_iconst (v := nI 3) hx hb dX11_row_12 (by decide +kernel) ?_
  refine lv_icmp_ge (tgt := 22) hx hb dX11_row_13 (by decide) (fun c_13 => ?_) (fun c_13 => ?_)
  · refine lv_iconst (v := (-1)) hx hb dX11_row_22 (by decide +kernel) ?_
    exact W.iret (v := (-1)) hx hb hr (fun T9 hT9 hW9 => ⟨_, rfl, (by first | (rw [hb_x9]; rfl) | (rw [okI_nI (by omega) (by decide), decide_eq_true h_y, rowB, okI_n0 c_8]; rfl) | (rw [okI_nI (by omega) (by decide), decide_eq_true h_y, rowB, okI_n1 c_13]; rfl) | (rw [okI_nI (by omega) (by decide), decide_eq_true h_y, rowB, okI_of c_8 (Int32.not_le.mp c_13), decide_eq_true (Int32.not_le.mp c_19)]; rfl) | (rw [okI_nI (by omega) (by decide), decide_eq_true h_y, rowB, okI_of c_8 (Int32.not_le.mp c_13), decide_eq_false (Int32.not_lt.mpr c_19)]; rfl)), hT9⟩) (fun q h => by cases h) dX11_row_23
  refine lv_iload_n hx hb dX11_row_16 rfl (lv_at hl 3 rfl) ?_
  refine lv_bipush (v := nI 100) hx hb dX11_row_17 (by decide +kernel) ?_
  refine lv_icmp_le (tgt := 24) hx hb dX11_row_19 (by decide) (fun c_19 => ?_) (fun c_19 => ?_)
  · refine lv_iload_n hx hb dX11_row_24 rfl (lv_at hl 3 rfl) ?_
    refine lv_if_ge (tgt := 31) hx hb dX11_row_25 (by decide) (fun c_25 => ?_) (fun c_25 => ?_)
    · exact absurd (hno y rfl h_y (by rw [rowB, okI_of c_8 (Int32.not_le.mp c_13), decide_eq_false (Int32.not_lt.mpr c_19)]; rfl)) (Int32.not_lt.mpr c_25)
    refine lv_bipush (v := (-14)) hx hb dX11_row_28 (by decide +kernel) ?_
    exact W.iret (v := (-14)) hx hb hr (fun T9 hT9 hW9 => ⟨_, rfl, (by first | (rw [hb_x9]; rfl) | (rw [okI_nI (by omega) (by decide), decide_eq_true h_y, rowB, okI_n0 c_8]; rfl) | (rw [okI_nI (by omega) (by decide), decide_eq_true h_y, rowB, okI_n1 c_13]; rfl) | (rw [okI_nI (by omega) (by decide), decide_eq_true h_y, rowB, okI_of c_8 (Int32.not_le.mp c_13), decide_eq_true (Int32.not_le.mp c_19)]; rfl) | (rw [okI_nI (by omega) (by decide), decide_eq_true h_y, rowB, okI_of c_8 (Int32.not_le.mp c_13), decide_eq_false (Int32.not_lt.mpr c_19)]; rfl)), hT9⟩) (fun q h => by cases h) dX11_row_30
  refine lv_iconst (v := (-1)) hx hb dX11_row_22 (by decide +kernel) ?_
  exact W.iret (v := (-1)) hx hb hr (fun T9 hT9 hW9 => ⟨_, rfl, (by first | (rw [hb_x9]; rfl) | (rw [okI_nI (by omega) (by decide), decide_eq_true h_y, rowB, okI_n0 c_8]; rfl) | (rw [okI_nI (by omega) (by decide), decide_eq_true h_y, rowB, okI_n1 c_13]; rfl) | (rw [okI_nI (by omega) (by decide), decide_eq_true h_y, rowB, okI_of c_8 (Int32.not_le.mp c_13), decide_eq_true (Int32.not_le.mp c_19)]; rfl) | (rw [okI_nI (by omega) (by decide), decide_eq_true h_y, rowB, okI_of c_8 (Int32.not_le.mp c_13), decide_eq_false (Int32.not_lt.mpr c_19)]; rfl)), hT9⟩) (fun q h => by cases h) dX11_row_23
set_option maxHeartbeats 4000000 in
set_option maxRecDepth 100000 in
theorem c_X11_rowAt_s (l : Launch) (dC : Nat → ClassId) (dI : Nat → Nat → Nat) (cI cD cR : ClassId) (x sN sM sP : Nat) (pt : Bool) (fo da ra : Nat) (rm : Nat → Option Nat) (i r0 : Nat) (hi : i < 8) (hrm : rm i = some r0) : Met l yX11_rowAt wsX11_rowAt ({ frames := 0, cells := 0, slots := 0, locals := 0 }) (pcR dC dI cI cD cR [.ref x, .int (nI i)] (fun H => va_P (dC, dI) vwCl ([(x, .inr (11, [.ref sN, .ref sM, .ref sP, .int (bI pt), .ref fo, .ref da, .ref ra]))] ++ [(ra, .inl (cR, 8, .inr (.inr (.inr (.inr rm)))))]) H)) (va_Sq (fun r => r = (some r0))) 0 0 (fun _ => False) := by
  refine Met.ofW (cc := cX11_rowAt) (maxL := 2) (ret := (some (.object "HoldsOnceDenied$Row"))) (by decide) rfl ?_
  intro p e s m args below meth c s₁ B hml hv
  obtain ⟨rfl, hH0, hCX⟩ := hv
  have hx := B.exec
  have hb := B.bytes
  have hr := B.returns
  have hts := atoms_spec (ws := wsX11_rowAt) B.pre
  have hown : s.vm.findClass RX11 = some m.cls := findClass_of_methodNamed B.named
  have hlocks := B.notSynchronized
  have hK := hCX.1
  have hP := hH0
  have hl := lv_entry ([.ref x, .int (nI i)]) (n := 2) (Nat.le_of_ble_eq_true rfl)
  rw [lg_entry_eq]
  generalize (lg_sl ([.ref x, .int (nI i)]) ++ List.replicate (2 - (lg_sl ([.ref x, .int (nI i)])).length) Slot.unset).toArray = ls at hl ⊢
  have hl : lv_has ls 2 [(0, .ref x), (1, .int (nI i))] := hl
  refine lv_iload_n hx hb dX11_rowAt_0 rfl (lv_at hl 1 rfl) ?_
  refine ho_if_lt0 hx hb dX11_rowAt_1 (tgt := 22) (by decide) (by omega) ?_
  refine lv_iload_n hx hb dX11_rowAt_4 rfl (lv_at hl 1 rfl) ?_
  refine lv_aload_n hx hb dX11_rowAt_5 rfl (lv_at hl 0 rfl) ?_
  refine va_get (D := (dC, dI)) (ci := 11) (v := .ref ra) (C := RX11) (T := TX11) (N := 7) hx hb hts (fun _ h => List.mem_cons_of_mem _ (List.mem_append_right _ h)) hown hK hP 0 rfl rfl 6 (by decide) (hts (.fieldLink RX11 37 "HoldsOnceDenied" "shelvedRows" "[LHoldsOnceDenied$Row;") (by decide +kernel)) (fun _ h9 => h9) rfl dX11_rowAt_6 ?_
  refine va_alen (v := nI 8) hx hb hK hP 1 2 rfl rfl rfl dX11_rowAt_9 ?_
  refine ho_icmp_ge (tgt := 22) hx hb dX11_rowAt_10 (by decide) (by omega) (by omega) (fun c_10 => ?_) (fun c_10 => ?_)
  · exfalso; omega
  refine lv_aload_n hx hb dX11_rowAt_13 rfl (lv_at hl 0 rfl) ?_
  refine va_get (D := (dC, dI)) (ci := 11) (v := .ref ra) (C := RX11) (T := TX11) (N := 7) hx hb hts (fun _ h => List.mem_cons_of_mem _ (List.mem_append_right _ h)) hown hK hP 0 rfl rfl 6 (by decide) (hts (.fieldLink RX11 37 "HoldsOnceDenied" "shelvedRows" "[LHoldsOnceDenied$Row;") (by decide +kernel)) (fun _ h9 => h9) rfl dX11_rowAt_14 ?_
  refine lv_iload_n hx hb dX11_rowAt_17 rfl (lv_at hl 1 rfl) ?_
  refine ho_aald hx hb hK hP 1 2 rfl rfl (by omega) (by decide) dX11_rowAt_18 ?_
  refine lv_goto (tgt := 23) hx hb dX11_rowAt_19 (by decide) ?_
  exact W.aret hx hb hr (Or.inl ⟨_, rfl⟩) (va_rf_or _) (fun T9 hT9 hW9 => ⟨(rm i), rfl, (by exact hrm), hT9⟩) (fun q h => by cases h) dX11_rowAt_23
set_option maxHeartbeats 4000000 in
set_option maxRecDepth 100000 in
theorem c_X11_put_t (l : Launch) (dC : Nat → ClassId) (dI : Nat → Nat → Nat) (cI cD cR : ClassId) (x sN sM sP : Nat) (pt : Bool) (fo da ra : Nat) (rm : Nat → Option Nat) (r rq so z : Nat) (f : Nat → Int32) (y9 i9 : Nat) (v9 : Int32) (sz : Nat) (hy9 : y9 < 8) (hrm : rm y9 = some r) (hi9 : i9 < z) (hso : so < 3) (hz : z ≤ 100) : Met l yX11_put wsX11_put ({ frames := 2, cells := 0, slots := 0, locals := 43 }) (pcR dC dI cI cD cR [.ref x, .int (nI y9), .int (nI i9), .int v9] (fun H => H.size = sz ∧ va_P (dC, dI) vwCl ([(x, .inr (11, [.ref sN, .ref sM, .ref sP, .int (bI pt), .ref fo, .ref da, .ref ra]))] ++ [(ra, .inl (cR, 8, .inr (.inr (.inr (.inr rm)))))] ++ [(r, .inr (8, [.int (nI so), .ref rq])), (rq, .inl (cI, z, .inl f))]) H ∧ va_D (fun _ => True) ([(x, .inr (11, [.ref sN, .ref sM, .ref sP, .int (bI pt), .ref fo, .ref da, .ref ra]))] ++ [(ra, .inl (cR, 8, .inr (.inr (.inr (.inr rm)))))] ++ [(r, .inr (8, [.int (nI so), .ref rq])), (rq, .inl (cI, z, .inl f))]))) (va_Qi (fun r (_ : Unit) => r = nI 0) (fun (_ : Unit) T9 => va_P (dC, dI) vwCl ([(x, .inr (11, [.ref sN, .ref sM, .ref sP, .int (bI pt), .ref fo, .ref da, .ref ra]))] ++ [(ra, .inl (cR, 8, .inr (.inr (.inr (.inr rm)))))] ++ [(r, .inr (8, [.int (nI so), .ref rq])), (rq, .inl (cI, z, .inl (upd f i9 (cutI so v9))))]) T9.heap ∧ va_D (va_A ([(x, .inr (11, [.ref sN, .ref sM, .ref sP, .int (bI pt), .ref fo, .ref da, .ref ra]))] ++ [(ra, .inl (cR, 8, .inr (.inr (.inr (.inr rm)))))] ++ [(r, .inr (8, [.int (nI so), .ref rq])), (rq, .inl (cI, z, .inl f))]) sz) ([(x, .inr (11, [.ref sN, .ref sM, .ref sP, .int (bI pt), .ref fo, .ref da, .ref ra]))] ++ [(ra, .inl (cR, 8, .inr (.inr (.inr (.inr rm)))))] ++ [(r, .inr (8, [.int (nI so), .ref rq])), (rq, .inl (cI, z, .inl (upd f i9 (cutI so v9))))])) (va_A ([(x, .inr (11, [.ref sN, .ref sM, .ref sP, .int (bI pt), .ref fo, .ref da, .ref ra]))] ++ [(ra, .inl (cR, 8, .inr (.inr (.inr (.inr rm)))))] ++ [(r, .inr (8, [.int (nI so), .ref rq])), (rq, .inl (cI, z, .inl f))]) sz)) 0 0 (va_A ([(x, .inr (11, [.ref sN, .ref sM, .ref sP, .int (bI pt), .ref fo, .ref da, .ref ra]))] ++ [(ra, .inl (cR, 8, .inr (.inr (.inr (.inr rm)))))] ++ [(r, .inr (8, [.int (nI so), .ref rq])), (rq, .inl (cI, z, .inl f))]) sz) := by
  refine Met.ofW (cc := cX11_put) (maxL := 5) (ret := (some .int)) (by decide) rfl ?_
  intro p e s m args below meth c s₁ B hml hv
  obtain ⟨rfl, hH0, hCX⟩ := hv
  have hx := B.exec
  have hb := B.bytes
  have hr := B.returns
  have hts := atoms_spec (ws := wsX11_put) B.pre
  have hown : s.vm.findClass RX11 = some m.cls := findClass_of_methodNamed B.named
  have hlocks := B.notSynchronized
  have hK := hCX.1
  obtain ⟨hsz, hP, hD0⟩ := hH0
  subst hsz
  have hD := hD0.self (sz := s.heap.size)
  generalize hAe : va_A ([(x, .inr (11, [.ref sN, .ref sM, .ref sP, .int (bI pt), .ref fo, .ref da, .ref ra]))] ++ [(ra, .inl (cR, 8, .inr (.inr (.inr (.inr rm)))))] ++ [(r, .inr (8, [.int (nI so), .ref rq])), (rq, .inl (cI, z, .inl f))]) s.heap.size = A at hD ⊢
  have hA : ∀ q : Nat, s.heap.size ≤ q → A q := fun q h => by rw [← hAe]; exact Or.inr h
  have hS : va_S A s.heap s.heap [] := va_S.rf
  have hP : va_P (dC, dI) vwCl ([(x, .inr (11, [.ref sN, .ref sM, .ref sP, .int (bI pt), .ref fo, .ref da, .ref ra]))] ++ [(ra, .inl (cR, 8, .inr (.inr (.inr (.inr rm)))))] ++ [(r, .inr (8, [.int (nI so), .ref rq])), (rq, .inl (cI, z, .inl f))]) s.heap := hP
  have hl := lv_entry ([.ref x, .int (nI y9), .int (nI i9), .int v9]) (n := 5) (Nat.le_of_ble_eq_true rfl)
  rw [lg_entry_eq]
  generalize (lg_sl ([.ref x, .int (nI y9), .int (nI i9), .int v9]) ++ List.replicate (5 - (lg_sl ([.ref x, .int (nI y9), .int (nI i9), .int v9])).length) Slot.unset).toArray = ls at hl ⊢
  have hl : lv_has ls 5 [(0, .ref x), (1, .int (nI y9)), (2, .int (nI i9)), (3, .int v9)] := hl
  refine lv_aload_n hx hb dX11_put_0 rfl (lv_at hl 0 rfl) ?_
  refine lv_iload_n hx hb dX11_put_1 rfl (lv_at hl 1 rfl) ?_
  refine va_csq ((va_runV (As := [.int (nI y9)]) (rest := []) ⟨hx, hb, hml, hown, hts⟩ (c_X11_rowAt_s l dC dI cI cD cR x sN sM sP pt fo da ra rm y9 r (by first | omega | assumption | exact gnd _ | exact gkn _ | exact Nat.lt_trans (gkn _) (by decide) | exact Nat.lt_trans (gnd _) (by decide) | exact Nat.lt_of_le_of_lt (pcN_le _) (by decide)) (by first | omega | assumption | exact gnd _ | exact gkn _ | exact Nat.lt_trans (gkn _) (by decide) | exact Nat.lt_trans (gnd _) (by decide) | exact Nat.lt_of_le_of_lt (pcN_le _) (by decide))) (cwV 1 hts gX11_put_X11_rowAt rfl rfl rfl (by decide +kernel) ⟨Nat.le_of_ble_eq_true rfl, Nat.le_of_ble_eq_true rfl⟩) (preV_R hCX (va_recv hK hP (ci := 11) (q0 := 0) rfl rfl) ((hP.sub (ws' := [(x, .inr (11, [.ref sN, .ref sM, .ref sP, .int (bI pt), .ref fo, .ref da, .ref ra]))] ++ [(ra, .inl (cR, 8, .inr (.inr (.inr (.inr rm)))))]) [0, 1] rfl))) rfl rfl hl.1 rfl (lv_room (Nat.le_of_ble_eq_true rfl)) dX11_put_2 ⟨Nat.le_of_ble_eq_true (by first | rfl | decide), Nat.le_of_ble_eq_true (by first | rfl | decide)⟩).run) (fun r_2 hr_2 => ?_)
  subst hr_2
  refine ho_topr (y := .ref r) rfl ?_
  refine lv_astore (lv' := [(4, .ref r), (0, .ref x), (1, .int (nI y9)), (2, .int (nI i9)), (3, .int v9)]) hx hb dX11_put_5 hl (by decide) rfl (fun ls hl => ?_)
  refine lv_aload hx hb dX11_put_7 (lv_at hl 0 rfl) ?_
  refine lv_ifnonnull (tgt := 18) hx hb dX11_put_9 (by decide) ?_
  refine lv_aload hx hb dX11_put_18 (lv_at hl 0 rfl) ?_
  refine lv_iload_n hx hb dX11_put_20 rfl (lv_at hl 3 rfl) ?_
  refine vp_callSi ((va_runV (As := [.int (nI i9)]) (rest := []) ⟨hx, hb, hml, hown, hts⟩ (c_X8_hasPlace_t l dC dI cI cD cR r rq so z f i9 (by first | omega | assumption | exact gnd _ | exact gkn _ | exact Nat.lt_trans (gkn _) (by decide) | exact Nat.lt_trans (gnd _) (by decide) | exact Nat.lt_of_le_of_lt (pcN_le _) (by decide)) (by first | omega | assumption | exact gnd _ | exact gkn _ | exact Nat.lt_trans (gkn _) (by decide) | exact Nat.lt_trans (gnd _) (by decide) | exact Nat.lt_of_le_of_lt (pcN_le _) (by decide)) (by first | omega | assumption | exact gnd _ | exact gkn _ | exact Nat.lt_trans (gkn _) (by decide) | exact Nat.lt_trans (gnd _) (by decide) | exact Nat.lt_of_le_of_lt (pcN_le _) (by decide))) (cwV 1 hts gX11_put_X8_hasPlace rfl rfl rfl (by decide +kernel) ⟨Nat.le_of_ble_eq_true rfl, Nat.le_of_ble_eq_true rfl⟩) (preV_R hCX (va_recv hK hP (ci := 8) (q0 := 2) rfl rfl) ((hP.sub (ws' := [(r, .inr (8, [.int (nI so), .ref rq])), (rq, .inl (cI, z, .inl f))]) [2, 3] rfl))) rfl rfl hl.1 rfl (lv_room (Nat.le_of_ble_eq_true rfl)) dX11_put_21 ⟨Nat.le_of_ble_eq_true (by first | rfl | decide), Nat.le_of_ble_eq_true (by first | rfl | decide)⟩).run) (fun r_21 hr_21 => ?_)
  subst hr_21
  refine lv_if_ne (tgt := 30) hx hb dX11_put_24 (by decide) (fun _ => ?_) (fun z => absurd z (by decide +kernel))
  refine lv_aload hx hb dX11_put_30 (lv_at hl 0 rfl) ?_
  refine lv_iload_n hx hb dX11_put_32 rfl (lv_at hl 3 rfl) ?_
  refine lv_iload_n hx hb dX11_put_33 rfl (lv_at hl 4 rfl) ?_
  have hPc := hP.sub (ws' := [(r, .inr (8, [.int (nI so), .ref rq])), (rq, .inl (cI, z, .inl f))]) [2, 3] rfl
  have hDc := hD.sub (ws' := [(r, .inr (8, [.int (nI so), .ref rq])), (rq, .inl (cI, z, .inl f))]) [2, 3] (by decide) rfl
  have hFc := va_free (wc := [(r, .inr (8, [.int (nI so), .ref rq])), (rq, .inl (cI, z, .inl f))]) hD hS hA [2, 3] rfl
  refine va_callv (va_runV (As := [.int (nI i9), .int v9]) (rest := []) ⟨hx, hb, hml, hown, hts⟩ (c_X8_store l dC dI cI cD cR r rq so z f i9 v9 s.heap.size (by first | omega | assumption | exact gnd _ | exact gkn _ | exact Nat.lt_trans (gkn _) (by decide) | exact Nat.lt_trans (gnd _) (by decide) | exact Nat.lt_of_le_of_lt (pcN_le _) (by decide)) (by first | omega | assumption | exact gnd _ | exact gkn _ | exact Nat.lt_trans (gkn _) (by decide) | exact Nat.lt_trans (gnd _) (by decide) | exact Nat.lt_of_le_of_lt (pcN_le _) (by decide)) (by first | omega | assumption | exact gnd _ | exact gkn _ | exact Nat.lt_trans (gkn _) (by decide) | exact Nat.lt_trans (gnd _) (by decide) | exact Nat.lt_of_le_of_lt (pcN_le _) (by decide))) (cwV 2 hts gX11_put_X8_store rfl rfl rfl (by decide +kernel) ⟨Nat.le_of_ble_eq_true rfl, Nat.le_of_ble_eq_true rfl⟩) (preV_R hCX (va_recv hK hP (ci := 8) (q0 := 2) rfl rfl) ⟨rfl, hPc, hDc.weaken (fun _ _ _ _ => trivial)⟩) rfl rfl hl.1 rfl (lv_room (Nat.le_of_ble_eq_true rfl)) dX11_put_34 ⟨Nat.le_of_ble_eq_true (by first | rfl | decide), Nat.le_of_ble_eq_true (by first | rfl | decide)⟩) hS (fun q _ h => hFc q h) hFc (fun u T8 H1 locs hT8 hvm hw hB hz1 hk1 hS => ?_)
  obtain ⟨hP1, hD1⟩ := hB
  rw [hT8] at hP1
  obtain ⟨hP, hD⟩ := va_join (wr := [(x, .inr (11, [.ref sN, .ref sM, .ref sP, .int (bI pt), .ref fo, .ref da, .ref ra]))] ++ [(ra, .inl (cR, 8, .inr (.inr (.inr (.inr rm)))))]) (w1 := [(r, .inr (8, [.int (nI so), .ref rq])), (rq, .inl (cI, z, .inl (upd f i9 (cutI so v9))))]) hP hD [2, 3] [0, 1] rfl rfl (by decide) (by decide) hk1 hFc hP1 hD1
  generalize H1 = H at hP hS ⊢
  have hP : va_P (dC, dI) vwCl ([(x, .inr (11, [.ref sN, .ref sM, .ref sP, .int (bI pt), .ref fo, .ref da, .ref ra]))] ++ [(ra, .inl (cR, 8, .inr (.inr (.inr (.inr rm)))))] ++ [(r, .inr (8, [.int (nI so), .ref rq])), (rq, .inl (cI, z, .inl (upd f i9 (cutI so v9))))]) H := hP
  have hD : va_D A ([(x, .inr (11, [.ref sN, .ref sM, .ref sP, .int (bI pt), .ref fo, .ref da, .ref ra]))] ++ [(ra, .inl (cR, 8, .inr (.inr (.inr (.inr rm)))))] ++ [(r, .inr (8, [.int (nI so), .ref rq])), (rq, .inl (cI, z, .inl (upd f i9 (cutI so v9))))]) := hD
  refine lv_iconst (v := nI 0) hx hb dX11_put_37 (by decide +kernel) ?_
  exact W.iret (v := nI 0) hx hb hr (fun T9 hT9 hW9 => ⟨⟨_, (), rfl, rfl, by rw [hT9]; exact hP, hD⟩, hS.F hT9⟩) hS.2.2 dX11_put_38
set_option maxHeartbeats 4000000 in
set_option maxRecDepth 100000 in
theorem c_X11_put_f (l : Launch) (dC : Nat → ClassId) (dI : Nat → Nat → Nat) (cI cD cR : ClassId) (x sN sM sP : Nat) (pt : Bool) (fo da ra : Nat) (dm : Nat → Option Nat) (rm : Nat → Option Nat) (x9 i9 v9 : Int32) (RL : List Nat) (rc rs rz : Nat → Nat) (rf : Nat → Nat → Int32) (grm : ∀ y r, rm y = some r → r ∈ RL) (hno : ∀ y r, x9 = nI y → y < 8 → rm y = some r → okI i9 (rz r) = false) : Met l yX11_put wsX11_put ({ frames := 3, cells := 0, slots := 0, locals := 63 }) (pcR dC dI cI cD cR [.ref x, .int x9, .int i9, .int v9] (fun H => va_P (dC, dI) vwCl ([(x, .inr (11, [.ref sN, .ref sM, .ref sP, .int (bI pt), .ref fo, .ref da, .ref ra]))] ++ [(da, .inl (cD, 8, .inr (.inr (.inr (.inr dm)))))] ++ [(ra, .inl (cR, 8, .inr (.inr (.inr (.inr rm)))))]) H ∧ RP dC dI cI RL rc rs rz rf H)) (vp_Si (fun r => r = (on1 (oN x9 8) (fun y => match rm y with | none => (bif (rm y).isNone && (dm y).isNone then -11 else -12) | some _ => -13) (-1)))) 0 0 (fun _ => False) := by
  refine Met.ofW (cc := cX11_put) (maxL := 5) (ret := (some .int)) (by decide) rfl ?_
  intro p e s m args below meth c s₁ B hml hv
  obtain ⟨rfl, hH0, hCX⟩ := hv
  have hx := B.exec
  have hb := B.bytes
  have hr := B.returns
  have hts := atoms_spec (ws := wsX11_put) B.pre
  have hown : s.vm.findClass RX11 = some m.cls := findClass_of_methodNamed B.named
  have hlocks := B.notSynchronized
  have hK := hCX.1
  obtain ⟨hP, hRP⟩ := hH0
  have hl := lv_entry ([.ref x, .int x9, .int i9, .int v9]) (n := 5) (Nat.le_of_ble_eq_true rfl)
  rw [lg_entry_eq]
  generalize (lg_sl ([.ref x, .int x9, .int i9, .int v9]) ++ List.replicate (5 - (lg_sl ([.ref x, .int x9, .int i9, .int v9])).length) Slot.unset).toArray = ls at hl ⊢
  have hl : lv_has ls 5 [(0, .ref x), (1, .int x9), (2, .int i9), (3, .int v9)] := hl
  rcases okI_or x9 (n := 8) (by omega) with hb_x9 | ⟨y, h_y, rfl⟩
  · refine lv_aload_n hx hb dX11_put_0 rfl (lv_at hl 0 rfl) ?_
    refine lv_iload_n hx hb dX11_put_1 rfl (lv_at hl 1 rfl) ?_
    refine va_csq ((va_runV (As := [.int x9]) (rest := []) ⟨hx, hb, hml, hown, hts⟩ (c_X11_rowAt_f l dC dI cI cD cR x sN sM sP pt fo da ra rm x9 (by first | omega | assumption | exact gnd _ | exact gkn _ | exact Nat.lt_trans (gkn _) (by decide) | exact Nat.lt_trans (gnd _) (by decide) | exact Nat.lt_of_le_of_lt (pcN_le _) (by decide))) (cwV 1 hts gX11_put_X11_rowAt rfl rfl rfl (by decide +kernel) ⟨Nat.le_of_ble_eq_true rfl, Nat.le_of_ble_eq_true rfl⟩) (preV_R hCX (va_recv hK hP (ci := 11) (q0 := 0) rfl rfl) ((hP.sub (ws' := [(x, .inr (11, [.ref sN, .ref sM, .ref sP, .int (bI pt), .ref fo, .ref da, .ref ra]))] ++ [(ra, .inl (cR, 8, .inr (.inr (.inr (.inr rm)))))]) [0, 2] rfl))) rfl rfl hl.1 rfl (lv_room (Nat.le_of_ble_eq_true rfl)) dX11_put_2 ⟨Nat.le_of_ble_eq_true (by first | rfl | decide), Nat.le_of_ble_eq_true (by first | rfl | decide)⟩).run) (fun r_2 hr_2 => ?_)
    subst hr_2
    refine ho_topr (y := .null) rfl ?_
    refine lv_astoreN (lv' := [(4, .null), (0, .ref x), (1, .int x9), (2, .int i9), (3, .int v9)]) hx hb dX11_put_5 hl (by decide) rfl (fun ls hl => ?_)
    refine lv_aloadN hx hb dX11_put_7 (lv_at hl 0 rfl) ?_
    refine lv_ifnonnullN hx hb dX11_put_9 ?_
    refine lv_aload_n hx hb dX11_put_12 rfl (lv_at hl 1 rfl) ?_
    refine lv_iload_n hx hb dX11_put_13 rfl (lv_at hl 2 rfl) ?_
    refine vp_callSi ((va_runV (As := [.int x9]) (rest := []) ⟨hx, hb, hml, hown, hts⟩ (c_X11_whyMissing l dC dI cI cD cR x sN sM sP pt fo da ra dm rm x9) (cwV 1 hts gX11_put_X11_whyMissing rfl rfl rfl (by decide +kernel) ⟨Nat.le_of_ble_eq_true rfl, Nat.le_of_ble_eq_true rfl⟩) (preV_R hCX (va_recv hK hP (ci := 11) (q0 := 0) rfl rfl) (hP)) rfl rfl hl.1 rfl (lv_room (Nat.le_of_ble_eq_true rfl)) dX11_put_14 ⟨Nat.le_of_ble_eq_true (by first | rfl | decide), Nat.le_of_ble_eq_true (by first | rfl | decide)⟩).run) (fun r_14 hr_14 => ?_)
    subst hr_14
    exact W.iret (v := (whyR dm rm x9)) hx hb hr (fun T9 hT9 hW9 => ⟨_, rfl, (by (simp [on1, whyR, oN_f hb_x9]) <;> first | rfl | omega), hT9⟩) (fun q h => by cases h) dX11_put_17
  refine lv_aload_n hx hb dX11_put_0 rfl (lv_at hl 0 rfl) ?_
  refine lv_iload_n hx hb dX11_put_1 rfl (lv_at hl 1 rfl) ?_
  refine va_csq ((va_runV (As := [.int (nI y)]) (rest := []) ⟨hx, hb, hml, hown, hts⟩ (c_X11_rowAt_t l dC dI cI cD cR x sN sM sP pt fo da ra rm y (by first | omega | assumption | exact gnd _ | exact gkn _ | exact Nat.lt_trans (gkn _) (by decide) | exact Nat.lt_trans (gnd _) (by decide) | exact Nat.lt_of_le_of_lt (pcN_le _) (by decide))) (cwV 1 hts gX11_put_X11_rowAt rfl rfl rfl (by decide +kernel) ⟨Nat.le_of_ble_eq_true rfl, Nat.le_of_ble_eq_true rfl⟩) (preV_R hCX (va_recv hK hP (ci := 11) (q0 := 0) rfl rfl) ((hP.sub (ws' := [(x, .inr (11, [.ref sN, .ref sM, .ref sP, .int (bI pt), .ref fo, .ref da, .ref ra]))] ++ [(ra, .inl (cR, 8, .inr (.inr (.inr (.inr rm)))))]) [0, 2] rfl))) rfl rfl hl.1 rfl (lv_room (Nat.le_of_ble_eq_true rfl)) dX11_put_2 ⟨Nat.le_of_ble_eq_true (by first | rfl | decide), Nat.le_of_ble_eq_true (by first | rfl | decide)⟩).run) (fun r_2 hr_2 => ?_)
  subst hr_2
  cases hv_2 : rm y with
  | none =>
    refine ho_topr (y := .null) rfl ?_
    refine lv_astoreN (lv' := [(4, .null), (0, .ref x), (1, .int (nI y)), (2, .int i9), (3, .int v9)]) hx hb dX11_put_5 hl (by decide) rfl (fun ls hl => ?_)
    refine lv_aloadN hx hb dX11_put_7 (lv_at hl 0 rfl) ?_
    refine lv_ifnonnullN hx hb dX11_put_9 ?_
    refine lv_aload_n hx hb dX11_put_12 rfl (lv_at hl 1 rfl) ?_
    refine lv_iload_n hx hb dX11_put_13 rfl (lv_at hl 2 rfl) ?_
    refine vp_callSi ((va_runV (As := [.int (nI y)]) (rest := []) ⟨hx, hb, hml, hown, hts⟩ (c_X11_whyMissing_n l dC dI cI cD cR x sN sM sP pt fo da ra dm rm y (by first | omega | assumption | exact gnd _ | exact gkn _ | exact Nat.lt_trans (gkn _) (by decide) | exact Nat.lt_trans (gnd _) (by decide) | exact Nat.lt_of_le_of_lt (pcN_le _) (by decide))) (cwV 1 hts gX11_put_X11_whyMissing rfl rfl rfl (by decide +kernel) ⟨Nat.le_of_ble_eq_true rfl, Nat.le_of_ble_eq_true rfl⟩) (preV_R hCX (va_recv hK hP (ci := 11) (q0 := 0) rfl rfl) (hP)) rfl rfl hl.1 rfl (lv_room (Nat.le_of_ble_eq_true rfl)) dX11_put_14 ⟨Nat.le_of_ble_eq_true (by first | rfl | decide), Nat.le_of_ble_eq_true (by first | rfl | decide)⟩).run) (fun r_14 hr_14 => ?_)
    subst hr_14
    exact W.iret (v := (bif (rm y).isNone && (dm y).isNone then -11 else -12)) hx hb hr (fun T9 hT9 hW9 => ⟨_, rfl, (by (simp [on1, whyR, hv_2, oN_t h_y]) <;> first | rfl | omega), hT9⟩) (fun q h => by cases h) dX11_put_17
  | some a_2 =>
    refine ho_topr (y := .ref a_2) rfl ?_
    have hra_2 : a_2 ∈ RL := grm _ _ hv_2
    have hso_2 : rs a_2 < 3 := (hRP _ hra_2).2.1
    have hzz_2 : rz a_2 ≤ 100 := (hRP _ hra_2).2.2
    refine lv_astore (lv' := [(4, .ref a_2), (0, .ref x), (1, .int (nI y)), (2, .int i9), (3, .int v9)]) hx hb dX11_put_5 hl (by decide) rfl (fun ls hl => ?_)
    refine lv_aload hx hb dX11_put_7 (lv_at hl 0 rfl) ?_
    refine lv_ifnonnull (tgt := 18) hx hb dX11_put_9 (by decide) ?_
    refine lv_aload hx hb dX11_put_18 (lv_at hl 0 rfl) ?_
    refine lv_iload_n hx hb dX11_put_20 rfl (lv_at hl 3 rfl) ?_
    refine vp_callSi ((va_runV (As := [.int i9]) (rest := []) ⟨hx, hb, hml, hown, hts⟩ (c_X8_hasPlace l dC dI cI cD cR a_2 (rc a_2) (rs a_2) (rz a_2) (rf a_2) i9 (by first | omega | assumption) (by first | omega | assumption)) (cwV 1 hts gX11_put_X8_hasPlace rfl rfl rfl (by decide +kernel) ⟨Nat.le_of_ble_eq_true rfl, Nat.le_of_ble_eq_true rfl⟩) (preV_R hCX (va_recv hK ((hRP _ hra_2).1) (ci := 8) (q0 := 0) rfl rfl) ((hRP _ hra_2).1)) rfl rfl hl.1 rfl (lv_room (Nat.le_of_ble_eq_true rfl)) dX11_put_21 ⟨Nat.le_of_ble_eq_true (by first | rfl | decide), Nat.le_of_ble_eq_true (by first | rfl | decide)⟩).run) (fun r_21 hr_21 => ?_)
    subst hr_21
    refine ho_bne (tgt := 30) hx hb dX11_put_24 (by decide) (fun c_24 => ?_) (fun c_24 => ?_)
    · rw [hno _ _ rfl h_y hv_2] at c_24; cases c_24
    refine lv_bipush (v := (-13)) hx hb dX11_put_27 (by decide +kernel) ?_
    exact W.iret (v := (-13)) hx hb hr (fun T9 hT9 hW9 => ⟨_, rfl, (by (simp [on1, whyR, hv_2, c_24, oN_t h_y]) <;> first | rfl | omega), hT9⟩) (fun q h => by cases h) dX11_put_29
set_option maxHeartbeats 4000000 in
set_option maxRecDepth 100000 in
theorem c_X11_copy_d (l : Launch) (dC : Nat → ClassId) (dI : Nat → Nat → Nat) (cI cD cR : ClassId) (x sN sM sP : Nat) (pt : Bool) (fo da ra : Nat) (dm : Nat → Option Nat) (rm : Nat → Option Nat) (r rq so z : Nat) (f : Nat → Int32) (r2 rq2 z2 : Nat) (f2 : Nat → Int32) (y1 i9 y2 j9 n9 : Nat) (sz : Nat) (hy1 : y1 < 8) (hy2 : y2 < 8) (hrm1 : rm y1 = some r) (hrm2 : rm y2 = some r2) (hso : so < 3) (hz : z ≤ 100) (hz2 : z2 ≤ 100) (hi9 : i9 + n9 ≤ z) (hj9 : j9 + n9 ≤ z2) : Met l yX11_copy wsX11_copy ({ frames := 2, cells := 0, slots := 0, locals := 60 }) (pcR dC dI cI cD cR [.ref x, .int (nI y1), .int (nI i9), .int (nI y2), .int (nI j9), .int (nI n9)] (fun H => H.size = sz ∧ va_P (dC, dI) vwCl ([(x, .inr (11, [.ref sN, .ref sM, .ref sP, .int (bI pt), .ref fo, .ref da, .ref ra]))] ++ [(da, .inl (cD, 8, .inr (.inr (.inr (.inr dm)))))] ++ [(ra, .inl (cR, 8, .inr (.inr (.inr (.inr rm)))))] ++ [(r, .inr (8, [.int (nI so), .ref rq])), (rq, .inl (cI, z, .inl f))] ++ [(r2, .inr (8, [.int (nI so), .ref rq2])), (rq2, .inl (cI, z2, .inl f2))]) H ∧ va_D (fun _ => True) ([(x, .inr (11, [.ref sN, .ref sM, .ref sP, .int (bI pt), .ref fo, .ref da, .ref ra]))] ++ [(da, .inl (cD, 8, .inr (.inr (.inr (.inr dm)))))] ++ [(ra, .inl (cR, 8, .inr (.inr (.inr (.inr rm)))))] ++ [(r, .inr (8, [.int (nI so), .ref rq])), (rq, .inl (cI, z, .inl f))] ++ [(r2, .inr (8, [.int (nI so), .ref rq2])), (rq2, .inl (cI, z2, .inl f2))]))) (va_Qi (fun r (_ : Unit) => r = nI n9) (fun (_ : Unit) T9 => va_P (dC, dI) vwCl ([(x, .inr (11, [.ref sN, .ref sM, .ref sP, .int (bI pt), .ref fo, .ref da, .ref ra]))] ++ [(da, .inl (cD, 8, .inr (.inr (.inr (.inr dm)))))] ++ [(ra, .inl (cR, 8, .inr (.inr (.inr (.inr rm)))))] ++ [(r, .inr (8, [.int (nI so), .ref rq])), (rq, .inl (cI, z, .inl f))] ++ [(r2, .inr (8, [.int (nI so), .ref rq2])), (rq2, .inl (cI, z2, .inl (va_cpy f f2 i9 j9 n9)))]) T9.heap ∧ va_D (va_A ([(x, .inr (11, [.ref sN, .ref sM, .ref sP, .int (bI pt), .ref fo, .ref da, .ref ra]))] ++ [(da, .inl (cD, 8, .inr (.inr (.inr (.inr dm)))))] ++ [(ra, .inl (cR, 8, .inr (.inr (.inr (.inr rm)))))] ++ [(r, .inr (8, [.int (nI so), .ref rq])), (rq, .inl (cI, z, .inl f))] ++ [(r2, .inr (8, [.int (nI so), .ref rq2])), (rq2, .inl (cI, z2, .inl f2))]) sz) ([(x, .inr (11, [.ref sN, .ref sM, .ref sP, .int (bI pt), .ref fo, .ref da, .ref ra]))] ++ [(da, .inl (cD, 8, .inr (.inr (.inr (.inr dm)))))] ++ [(ra, .inl (cR, 8, .inr (.inr (.inr (.inr rm)))))] ++ [(r, .inr (8, [.int (nI so), .ref rq])), (rq, .inl (cI, z, .inl f))] ++ [(r2, .inr (8, [.int (nI so), .ref rq2])), (rq2, .inl (cI, z2, .inl (va_cpy f f2 i9 j9 n9)))])) (va_A ([(x, .inr (11, [.ref sN, .ref sM, .ref sP, .int (bI pt), .ref fo, .ref da, .ref ra]))] ++ [(da, .inl (cD, 8, .inr (.inr (.inr (.inr dm)))))] ++ [(ra, .inl (cR, 8, .inr (.inr (.inr (.inr rm)))))] ++ [(r, .inr (8, [.int (nI so), .ref rq])), (rq, .inl (cI, z, .inl f))] ++ [(r2, .inr (8, [.int (nI so), .ref rq2])), (rq2, .inl (cI, z2, .inl f2))]) sz)) 0 0 (va_A ([(x, .inr (11, [.ref sN, .ref sM, .ref sP, .int (bI pt), .ref fo, .ref da, .ref ra]))] ++ [(da, .inl (cD, 8, .inr (.inr (.inr (.inr dm)))))] ++ [(ra, .inl (cR, 8, .inr (.inr (.inr (.inr rm)))))] ++ [(r, .inr (8, [.int (nI so), .ref rq])), (rq, .inl (cI, z, .inl f))] ++ [(r2, .inr (8, [.int (nI so), .ref rq2])), (rq2, .inl (cI, z2, .inl f2))]) sz) := by
  refine Met.ofW (cc := cX11_copy) (maxL := 8) (ret := (some .int)) (by decide) rfl ?_
  intro p e s m args below meth c s₁ B hml hv
  obtain ⟨rfl, hH0, hCX⟩ := hv
  have hx := B.exec
  have hb := B.bytes
  have hr := B.returns
  have hts := atoms_spec (ws := wsX11_copy) B.pre
  have hown : s.vm.findClass RX11 = some m.cls := findClass_of_methodNamed B.named
  have hlocks := B.notSynchronized
  have hK := hCX.1
  obtain ⟨hsz, hP, hD0⟩ := hH0
  subst hsz
  have hD := hD0.self (sz := s.heap.size)
  generalize hAe : va_A ([(x, .inr (11, [.ref sN, .ref sM, .ref sP, .int (bI pt), .ref fo, .ref da, .ref ra]))] ++ [(da, .inl (cD, 8, .inr (.inr (.inr (.inr dm)))))] ++ [(ra, .inl (cR, 8, .inr (.inr (.inr (.inr rm)))))] ++ [(r, .inr (8, [.int (nI so), .ref rq])), (rq, .inl (cI, z, .inl f))] ++ [(r2, .inr (8, [.int (nI so), .ref rq2])), (rq2, .inl (cI, z2, .inl f2))]) s.heap.size = A at hD ⊢
  have hA : ∀ q : Nat, s.heap.size ≤ q → A q := fun q h => by rw [← hAe]; exact Or.inr h
  have hS : va_S A s.heap s.heap [] := va_S.rf
  have hP : va_P (dC, dI) vwCl ([(x, .inr (11, [.ref sN, .ref sM, .ref sP, .int (bI pt), .ref fo, .ref da, .ref ra]))] ++ [(da, .inl (cD, 8, .inr (.inr (.inr (.inr dm)))))] ++ [(ra, .inl (cR, 8, .inr (.inr (.inr (.inr rm)))))] ++ [(r, .inr (8, [.int (nI so), .ref rq])), (rq, .inl (cI, z, .inl f))] ++ [(r2, .inr (8, [.int (nI so), .ref rq2])), (rq2, .inl (cI, z2, .inl f2))]) s.heap := hP
  have hl := lv_entry ([.ref x, .int (nI y1), .int (nI i9), .int (nI y2), .int (nI j9), .int (nI n9)]) (n := 8) (Nat.le_of_ble_eq_true rfl)
  rw [lg_entry_eq]
  generalize (lg_sl ([.ref x, .int (nI y1), .int (nI i9), .int (nI y2), .int (nI j9), .int (nI n9)]) ++ List.replicate (8 - (lg_sl ([.ref x, .int (nI y1), .int (nI i9), .int (nI y2), .int (nI j9), .int (nI n9)])).length) Slot.unset).toArray = ls at hl ⊢
  have hl : lv_has ls 8 [(0, .ref x), (1, .int (nI y1)), (2, .int (nI i9)), (3, .int (nI y2)), (4, .int (nI j9)), (5, .int (nI n9))] := hl
  refine lv_iload_n hx hb dX11_copy_0 rfl (lv_at hl 1 rfl) ?_
  refine vp_callSi ((va_runS (As := [.int (nI y1)]) (rest := []) ⟨hx, hb, hml, hown, hts⟩ (c_X11_isShelf_t l dC dI cI cD cR y1 (by first | omega | assumption | exact gnd _ | exact gkn _ | exact Nat.lt_trans (gkn _) (by decide) | exact Nat.lt_trans (gnd _) (by decide) | exact Nat.lt_of_le_of_lt (pcN_le _) (by decide))) (va_cwS 1 hts gX11_copy_X11_isShelf rfl rfl rfl (by decide +kernel) ⟨Nat.le_of_ble_eq_true rfl, Nat.le_of_ble_eq_true rfl⟩) (preS_R hCX (trivial)) rfl rfl hl.1 rfl (lv_room (Nat.le_of_ble_eq_true rfl)) dX11_copy_1 ⟨Nat.le_of_ble_eq_true (by first | rfl | decide), Nat.le_of_ble_eq_true (by first | rfl | decide)⟩).run) (fun r_1 hr_1 => ?_)
  subst hr_1
  refine lv_if_eq (tgt := 14) hx hb dX11_copy_4 (by decide) (fun z => absurd z (by decide +kernel)) (fun _ => ?_)
  refine lv_iload_n hx hb dX11_copy_7 rfl (lv_at hl 3 rfl) ?_
  refine vp_callSi ((va_runS (As := [.int (nI y2)]) (rest := []) ⟨hx, hb, hml, hown, hts⟩ (c_X11_isShelf_t l dC dI cI cD cR y2 (by first | omega | assumption | exact gnd _ | exact gkn _ | exact Nat.lt_trans (gkn _) (by decide) | exact Nat.lt_trans (gnd _) (by decide) | exact Nat.lt_of_le_of_lt (pcN_le _) (by decide))) (va_cwS 1 hts gX11_copy_X11_isShelf rfl rfl rfl (by decide +kernel) ⟨Nat.le_of_ble_eq_true rfl, Nat.le_of_ble_eq_true rfl⟩) (preS_R hCX (trivial)) rfl rfl hl.1 rfl (lv_room (Nat.le_of_ble_eq_true rfl)) dX11_copy_8 ⟨Nat.le_of_ble_eq_true (by first | rfl | decide), Nat.le_of_ble_eq_true (by first | rfl | decide)⟩).run) (fun r_8 hr_8 => ?_)
  subst hr_8
  refine lv_if_ne (tgt := 16) hx hb dX11_copy_11 (by decide) (fun _ => ?_) (fun z => absurd z (by decide +kernel))
  refine lv_aload_n hx hb dX11_copy_16 rfl (lv_at hl 0 rfl) ?_
  refine lv_iload_n hx hb dX11_copy_17 rfl (lv_at hl 1 rfl) ?_
  refine vp_callSi ((va_runV (As := [.int (nI y1)]) (rest := []) ⟨hx, hb, hml, hown, hts⟩ (c_X11_isEmpty l dC dI cI cD cR x sN sM sP pt fo da ra dm rm y1 (by first | omega | assumption | exact gnd _ | exact gkn _ | exact Nat.lt_trans (gkn _) (by decide) | exact Nat.lt_trans (gnd _) (by decide) | exact Nat.lt_of_le_of_lt (pcN_le _) (by decide))) (cwV 1 hts gX11_copy_X11_isEmpty rfl rfl rfl (by decide +kernel) ⟨Nat.le_of_ble_eq_true rfl, Nat.le_of_ble_eq_true rfl⟩) (preV_R hCX (va_recv hK hP (ci := 11) (q0 := 0) rfl rfl) ((hP.sub (ws' := [(x, .inr (11, [.ref sN, .ref sM, .ref sP, .int (bI pt), .ref fo, .ref da, .ref ra]))] ++ [(da, .inl (cD, 8, .inr (.inr (.inr (.inr dm)))))] ++ [(ra, .inl (cR, 8, .inr (.inr (.inr (.inr rm)))))]) [0, 1, 2] rfl))) rfl rfl hl.1 rfl (lv_room (Nat.le_of_ble_eq_true rfl)) dX11_copy_18 ⟨Nat.le_of_ble_eq_true (by first | rfl | decide), Nat.le_of_ble_eq_true (by first | rfl | decide)⟩).run) (fun r_18 hr_18 => ?_)
  subst hr_18
  refine ho_tope (y := bI false) (congrArg bI (by rw [hrm1]; rfl)) ?_
  refine lv_if_ne (tgt := 32) hx hb dX11_copy_21 (by decide) (fun z => absurd z (by decide +kernel)) (fun _ => ?_)
  refine lv_aload_n hx hb dX11_copy_24 rfl (lv_at hl 0 rfl) ?_
  refine lv_iload_n hx hb dX11_copy_25 rfl (lv_at hl 3 rfl) ?_
  refine vp_callSi ((va_runV (As := [.int (nI y2)]) (rest := []) ⟨hx, hb, hml, hown, hts⟩ (c_X11_isEmpty l dC dI cI cD cR x sN sM sP pt fo da ra dm rm y2 (by first | omega | assumption | exact gnd _ | exact gkn _ | exact Nat.lt_trans (gkn _) (by decide) | exact Nat.lt_trans (gnd _) (by decide) | exact Nat.lt_of_le_of_lt (pcN_le _) (by decide))) (cwV 1 hts gX11_copy_X11_isEmpty rfl rfl rfl (by decide +kernel) ⟨Nat.le_of_ble_eq_true rfl, Nat.le_of_ble_eq_true rfl⟩) (preV_R hCX (va_recv hK hP (ci := 11) (q0 := 0) rfl rfl) ((hP.sub (ws' := [(x, .inr (11, [.ref sN, .ref sM, .ref sP, .int (bI pt), .ref fo, .ref da, .ref ra]))] ++ [(da, .inl (cD, 8, .inr (.inr (.inr (.inr dm)))))] ++ [(ra, .inl (cR, 8, .inr (.inr (.inr (.inr rm)))))]) [0, 1, 2] rfl))) rfl rfl hl.1 rfl (lv_room (Nat.le_of_ble_eq_true rfl)) dX11_copy_26 ⟨Nat.le_of_ble_eq_true (by first | rfl | decide), Nat.le_of_ble_eq_true (by first | rfl | decide)⟩).run) (fun r_26 hr_26 => ?_)
  subst hr_26
  refine ho_tope (y := bI false) (congrArg bI (by rw [hrm2]; rfl)) ?_
  refine lv_if_eq (tgt := 35) hx hb dX11_copy_29 (by decide) (fun _ => ?_) (fun z => absurd z (by decide +kernel))
  refine lv_aload_n hx hb dX11_copy_35 rfl (lv_at hl 0 rfl) ?_
  refine lv_iload_n hx hb dX11_copy_36 rfl (lv_at hl 1 rfl) ?_
  refine va_csq ((va_runV (As := [.int (nI y1)]) (rest := []) ⟨hx, hb, hml, hown, hts⟩ (c_X11_rowAt_s l dC dI cI cD cR x sN sM sP pt fo da ra rm y1 r (by first | omega | assumption | exact gnd _ | exact gkn _ | exact Nat.lt_trans (gkn _) (by decide) | exact Nat.lt_trans (gnd _) (by decide) | exact Nat.lt_of_le_of_lt (pcN_le _) (by decide)) (by first | omega | assumption | exact gnd _ | exact gkn _ | exact Nat.lt_trans (gkn _) (by decide) | exact Nat.lt_trans (gnd _) (by decide) | exact Nat.lt_of_le_of_lt (pcN_le _) (by decide))) (cwV 1 hts gX11_copy_X11_rowAt rfl rfl rfl (by decide +kernel) ⟨Nat.le_of_ble_eq_true rfl, Nat.le_of_ble_eq_true rfl⟩) (preV_R hCX (va_recv hK hP (ci := 11) (q0 := 0) rfl rfl) ((hP.sub (ws' := [(x, .inr (11, [.ref sN, .ref sM, .ref sP, .int (bI pt), .ref fo, .ref da, .ref ra]))] ++ [(ra, .inl (cR, 8, .inr (.inr (.inr (.inr rm)))))]) [0, 2] rfl))) rfl rfl hl.1 rfl (lv_room (Nat.le_of_ble_eq_true rfl)) dX11_copy_37 ⟨Nat.le_of_ble_eq_true (by first | rfl | decide), Nat.le_of_ble_eq_true (by first | rfl | decide)⟩).run) (fun r_37 hr_37 => ?_)
  subst hr_37
  refine ho_topr (y := .ref r) rfl ?_
  refine lv_astore (lv' := [(6, .ref r), (0, .ref x), (1, .int (nI y1)), (2, .int (nI i9)), (3, .int (nI y2)), (4, .int (nI j9)), (5, .int (nI n9))]) hx hb dX11_copy_40 hl (by decide) rfl (fun ls hl => ?_)
  refine lv_aload_n hx hb dX11_copy_42 rfl (lv_at hl 1 rfl) ?_
  refine lv_iload_n hx hb dX11_copy_43 rfl (lv_at hl 4 rfl) ?_
  refine va_csq ((va_runV (As := [.int (nI y2)]) (rest := []) ⟨hx, hb, hml, hown, hts⟩ (c_X11_rowAt_s l dC dI cI cD cR x sN sM sP pt fo da ra rm y2 r2 (by first | omega | assumption | exact gnd _ | exact gkn _ | exact Nat.lt_trans (gkn _) (by decide) | exact Nat.lt_trans (gnd _) (by decide) | exact Nat.lt_of_le_of_lt (pcN_le _) (by decide)) (by first | omega | assumption | exact gnd _ | exact gkn _ | exact Nat.lt_trans (gkn _) (by decide) | exact Nat.lt_trans (gnd _) (by decide) | exact Nat.lt_of_le_of_lt (pcN_le _) (by decide))) (cwV 1 hts gX11_copy_X11_rowAt rfl rfl rfl (by decide +kernel) ⟨Nat.le_of_ble_eq_true rfl, Nat.le_of_ble_eq_true rfl⟩) (preV_R hCX (va_recv hK hP (ci := 11) (q0 := 0) rfl rfl) ((hP.sub (ws' := [(x, .inr (11, [.ref sN, .ref sM, .ref sP, .int (bI pt), .ref fo, .ref da, .ref ra]))] ++ [(ra, .inl (cR, 8, .inr (.inr (.inr (.inr rm)))))]) [0, 2] rfl))) rfl rfl hl.1 rfl (lv_room (Nat.le_of_ble_eq_true rfl)) dX11_copy_44 ⟨Nat.le_of_ble_eq_true (by first | rfl | decide), Nat.le_of_ble_eq_true (by first | rfl | decide)⟩).run) (fun r_44 hr_44 => ?_)
  subst hr_44
  refine ho_topr (y := .ref r2) rfl ?_
  refine lv_astore (lv' := [(7, .ref r2), (6, .ref r), (0, .ref x), (1, .int (nI y1)), (2, .int (nI i9)), (3, .int (nI y2)), (4, .int (nI j9)), (5, .int (nI n9))]) hx hb dX11_copy_47 hl (by decide) rfl (fun ls hl => ?_)
  refine lv_aload hx hb dX11_copy_49 (lv_at hl 1 rfl) ?_
  refine lv_ifnull hx hb dX11_copy_51 ?_
  refine lv_aload hx hb dX11_copy_54 (lv_at hl 0 rfl) ?_
  refine lv_ifnull hx hb dX11_copy_56 ?_
  refine lv_aload hx hb dX11_copy_59 (lv_at hl 0 rfl) ?_
  refine lv_aload hx hb dX11_copy_61 (lv_at hl 1 rfl) ?_
  refine va_getN (D := (dC, dI)) (ci := 8) (v := .int (nI so)) (C := RX8) (T := TX8) (N := 2) hx hb hts (fun _ h => List.mem_cons_of_mem _ (List.mem_append_left _ (List.mem_append_right _ h))) hown hK hP 3 rfl rfl 0 (by decide) (CX.nf hCX 1 rfl) (fun _ h9 => h9) rfl dX11_copy_63 ?_
  refine vp_callSi ((va_runV (As := [.int (nI so)]) (rest := []) ⟨hx, hb, hml, hown, hts⟩ (c_X8_isOf l dC dI cI cD cR r2 rq2 so z2 f2 so (by first | omega | assumption | exact gnd _ | exact gkn _ | exact Nat.lt_trans (gkn _) (by decide) | exact Nat.lt_trans (gnd _) (by decide) | exact Nat.lt_of_le_of_lt (pcN_le _) (by decide)) (by first | omega | assumption | exact gnd _ | exact gkn _ | exact Nat.lt_trans (gkn _) (by decide) | exact Nat.lt_trans (gnd _) (by decide) | exact Nat.lt_of_le_of_lt (pcN_le _) (by decide)) (by first | omega | assumption | exact gnd _ | exact gkn _ | exact Nat.lt_trans (gkn _) (by decide) | exact Nat.lt_trans (gnd _) (by decide) | exact Nat.lt_of_le_of_lt (pcN_le _) (by decide))) (cwV 1 hts gX11_copy_X8_isOf rfl rfl rfl (by decide +kernel) ⟨Nat.le_of_ble_eq_true rfl, Nat.le_of_ble_eq_true rfl⟩) (preV_R hCX (va_recv hK hP (ci := 8) (q0 := 5) rfl rfl) ((hP.sub (ws' := [(r2, .inr (8, [.int (nI so), .ref rq2])), (rq2, .inl (cI, z2, .inl f2))]) [5, 6] rfl))) rfl rfl hl.1 rfl (lv_room (Nat.le_of_ble_eq_true rfl)) dX11_copy_66 ⟨Nat.le_of_ble_eq_true (by first | rfl | decide), Nat.le_of_ble_eq_true (by first | rfl | decide)⟩).run) (fun r_66 hr_66 => ?_)
  subst hr_66
  refine ho_tope (y := bI true) (congrArg bI (decide_eq_true rfl)) ?_
  refine lv_if_ne (tgt := 75) hx hb dX11_copy_69 (by decide) (fun _ => ?_) (fun z => absurd z (by decide +kernel))
  refine lv_aload hx hb dX11_copy_75 (lv_at hl 1 rfl) ?_
  refine lv_iload_n hx hb dX11_copy_77 rfl (lv_at hl 4 rfl) ?_
  refine lv_iload hx hb dX11_copy_78 (lv_at hl 7 rfl) ?_
  refine vp_callSi ((va_runV (As := [.int (nI i9), .int (nI n9)]) (rest := []) ⟨hx, hb, hml, hown, hts⟩ (c_X8_hasStretch l dC dI cI cD cR r rq so z f (nI i9) (nI n9) (by first | omega | assumption | exact gnd _ | exact gkn _ | exact Nat.lt_trans (gkn _) (by decide) | exact Nat.lt_trans (gnd _) (by decide) | exact Nat.lt_of_le_of_lt (pcN_le _) (by decide)) (by first | omega | assumption | exact gnd _ | exact gkn _ | exact Nat.lt_trans (gkn _) (by decide) | exact Nat.lt_trans (gnd _) (by decide) | exact Nat.lt_of_le_of_lt (pcN_le _) (by decide))) (cwV 2 hts gX11_copy_X8_hasStretch rfl rfl rfl (by decide +kernel) ⟨Nat.le_of_ble_eq_true rfl, Nat.le_of_ble_eq_true rfl⟩) (preV_R hCX (va_recv hK hP (ci := 8) (q0 := 3) rfl rfl) ((hP.sub (ws' := [(r, .inr (8, [.int (nI so), .ref rq])), (rq, .inl (cI, z, .inl f))]) [3, 4] rfl))) rfl rfl hl.1 rfl (lv_room (Nat.le_of_ble_eq_true rfl)) dX11_copy_80 ⟨Nat.le_of_ble_eq_true (by first | rfl | decide), Nat.le_of_ble_eq_true (by first | rfl | decide)⟩).run) (fun r_80 hr_80 => ?_)
  subst hr_80
  refine ho_tope (y := bI true) (congrArg bI (stB_t hi9 (by omega))) ?_
  refine lv_if_eq (tgt := 98) hx hb dX11_copy_83 (by decide) (fun z => absurd z (by decide +kernel)) (fun _ => ?_)
  refine lv_aload hx hb dX11_copy_86 (lv_at hl 0 rfl) ?_
  refine lv_iload hx hb dX11_copy_88 (lv_at hl 6 rfl) ?_
  refine lv_iload hx hb dX11_copy_90 (lv_at hl 7 rfl) ?_
  refine vp_callSi ((va_runV (As := [.int (nI j9), .int (nI n9)]) (rest := []) ⟨hx, hb, hml, hown, hts⟩ (c_X8_hasStretch l dC dI cI cD cR r2 rq2 so z2 f2 (nI j9) (nI n9) (by first | omega | assumption | exact gnd _ | exact gkn _ | exact Nat.lt_trans (gkn _) (by decide) | exact Nat.lt_trans (gnd _) (by decide) | exact Nat.lt_of_le_of_lt (pcN_le _) (by decide)) (by first | omega | assumption | exact gnd _ | exact gkn _ | exact Nat.lt_trans (gkn _) (by decide) | exact Nat.lt_trans (gnd _) (by decide) | exact Nat.lt_of_le_of_lt (pcN_le _) (by decide))) (cwV 2 hts gX11_copy_X8_hasStretch rfl rfl rfl (by decide +kernel) ⟨Nat.le_of_ble_eq_true rfl, Nat.le_of_ble_eq_true rfl⟩) (preV_R hCX (va_recv hK hP (ci := 8) (q0 := 5) rfl rfl) ((hP.sub (ws' := [(r2, .inr (8, [.int (nI so), .ref rq2])), (rq2, .inl (cI, z2, .inl f2))]) [5, 6] rfl))) rfl rfl hl.1 rfl (lv_room (Nat.le_of_ble_eq_true rfl)) dX11_copy_92 ⟨Nat.le_of_ble_eq_true (by first | rfl | decide), Nat.le_of_ble_eq_true (by first | rfl | decide)⟩).run) (fun r_92 hr_92 => ?_)
  subst hr_92
  refine ho_tope (y := bI true) (congrArg bI (stB_t hj9 (by omega))) ?_
  refine lv_if_ne (tgt := 101) hx hb dX11_copy_95 (by decide) (fun _ => ?_) (fun z => absurd z (by decide +kernel))
  refine lv_aload hx hb dX11_copy_101 (lv_at hl 1 rfl) ?_
  refine va_getN (D := (dC, dI)) (ci := 8) (v := .ref rq) (C := RX8) (T := TX8) (N := 2) hx hb hts (fun _ h => List.mem_cons_of_mem _ (List.mem_append_left _ (List.mem_append_right _ h))) hown hK hP 3 rfl rfl 1 (by decide) (CX.nf hCX 2 rfl) (fun _ h9 => h9) rfl dX11_copy_103 ?_
  refine lv_iload_n hx hb dX11_copy_106 rfl (lv_at hl 4 rfl) ?_
  refine lv_aload hx hb dX11_copy_107 (lv_at hl 0 rfl) ?_
  refine va_getN (D := (dC, dI)) (ci := 8) (v := .ref rq2) (C := RX8) (T := TX8) (N := 2) hx hb hts (fun _ h => List.mem_cons_of_mem _ (List.mem_append_left _ (List.mem_append_right _ h))) hown hK hP 5 rfl rfl 1 (by decide) (CX.nf hCX 2 rfl) (fun _ h9 => h9) rfl dX11_copy_109 ?_
  refine lv_iload hx hb dX11_copy_112 (lv_at hl 6 rfl) ?_
  refine lv_iload hx hb dX11_copy_114 (lv_at hl 7 rfl) ?_
  refine ho_cpyi hx hb (hml.trans hl.1.symm) hown (hts (.methodLink RX11 264 arraycopyName) (by decide +kernel)) (hts (.native arraycopyName) (by decide +kernel)) (hts (.static arraycopyName) (by decide +kernel)) (hts (.initialized "java/lang/System") (by decide +kernel)) hK hP hD hS 4 6 0 rfl rfl rfl (by omega) (by omega) (by omega) (by omega) (Nat.le_of_ble_eq_true rfl) (Nat.le_of_ble_eq_true rfl) dX11_copy_116 (fun H locs hP hD hS => ?_)
  have hP : va_P (dC, dI) vwCl ([(x, .inr (11, [.ref sN, .ref sM, .ref sP, .int (bI pt), .ref fo, .ref da, .ref ra]))] ++ [(da, .inl (cD, 8, .inr (.inr (.inr (.inr dm)))))] ++ [(ra, .inl (cR, 8, .inr (.inr (.inr (.inr rm)))))] ++ [(r, .inr (8, [.int (nI so), .ref rq])), (rq, .inl (cI, z, .inl f))] ++ [(r2, .inr (8, [.int (nI so), .ref rq2])), (rq2, .inl (cI, z2, .inl (va_cpy f f2 i9 j9 n9)))]) H := hP
  have hD : va_D A ([(x, .inr (11, [.ref sN, .ref sM, .ref sP, .int (bI pt), .ref fo, .ref da, .ref ra]))] ++ [(da, .inl (cD, 8, .inr (.inr (.inr (.inr dm)))))] ++ [(ra, .inl (cR, 8, .inr (.inr (.inr (.inr rm)))))] ++ [(r, .inr (8, [.int (nI so), .ref rq])), (rq, .inl (cI, z, .inl f))] ++ [(r2, .inr (8, [.int (nI so), .ref rq2])), (rq2, .inl (cI, z2, .inl (va_cpy f f2 i9 j9 n9)))]) := hD
  refine lv_iload hx hb dX11_copy_119 (lv_at hl 7 rfl) ?_
  exact W.iret (v := nI n9) hx hb hr (fun T9 hT9 hW9 => ⟨⟨_, (), rfl, rfl, by rw [hT9]; exact hP, hD⟩, hS.F hT9⟩) hS.2.2 dX11_copy_121
set_option maxHeartbeats 4000000 in
set_option maxRecDepth 100000 in
theorem c_X11_copy_s (l : Launch) (dC : Nat → ClassId) (dI : Nat → Nat → Nat) (cI cD cR : ClassId) (x sN sM sP : Nat) (pt : Bool) (fo da ra : Nat) (dm : Nat → Option Nat) (rm : Nat → Option Nat) (r rq so z : Nat) (f : Nat → Int32) (y1 i9 y2 j9 n9 : Nat) (sz : Nat) (hy1 : y1 < 8) (hy2 : y2 < 8) (hrm1 : rm y1 = some r) (hrm2 : rm y2 = some r) (hso : so < 3) (hz : z ≤ 100) (hi9 : i9 + n9 ≤ z) (hj9 : j9 + n9 ≤ z) : Met l yX11_copy wsX11_copy ({ frames := 2, cells := 0, slots := 0, locals := 60 }) (pcR dC dI cI cD cR [.ref x, .int (nI y1), .int (nI i9), .int (nI y2), .int (nI j9), .int (nI n9)] (fun H => H.size = sz ∧ va_P (dC, dI) vwCl ([(x, .inr (11, [.ref sN, .ref sM, .ref sP, .int (bI pt), .ref fo, .ref da, .ref ra]))] ++ [(da, .inl (cD, 8, .inr (.inr (.inr (.inr dm)))))] ++ [(ra, .inl (cR, 8, .inr (.inr (.inr (.inr rm)))))] ++ [(r, .inr (8, [.int (nI so), .ref rq])), (rq, .inl (cI, z, .inl f))]) H ∧ va_D (fun _ => True) ([(x, .inr (11, [.ref sN, .ref sM, .ref sP, .int (bI pt), .ref fo, .ref da, .ref ra]))] ++ [(da, .inl (cD, 8, .inr (.inr (.inr (.inr dm)))))] ++ [(ra, .inl (cR, 8, .inr (.inr (.inr (.inr rm)))))] ++ [(r, .inr (8, [.int (nI so), .ref rq])), (rq, .inl (cI, z, .inl f))]))) (va_Qi (fun r (_ : Unit) => r = nI n9) (fun (_ : Unit) T9 => va_P (dC, dI) vwCl ([(x, .inr (11, [.ref sN, .ref sM, .ref sP, .int (bI pt), .ref fo, .ref da, .ref ra]))] ++ [(da, .inl (cD, 8, .inr (.inr (.inr (.inr dm)))))] ++ [(ra, .inl (cR, 8, .inr (.inr (.inr (.inr rm)))))] ++ [(r, .inr (8, [.int (nI so), .ref rq])), (rq, .inl (cI, z, .inl (va_cpy f f i9 j9 n9)))]) T9.heap ∧ va_D (va_A ([(x, .inr (11, [.ref sN, .ref sM, .ref sP, .int (bI pt), .ref fo, .ref da, .ref ra]))] ++ [(da, .inl (cD, 8, .inr (.inr (.inr (.inr dm)))))] ++ [(ra, .inl (cR, 8, .inr (.inr (.inr (.inr rm)))))] ++ [(r, .inr (8, [.int (nI so), .ref rq])), (rq, .inl (cI, z, .inl f))]) sz) ([(x, .inr (11, [.ref sN, .ref sM, .ref sP, .int (bI pt), .ref fo, .ref da, .ref ra]))] ++ [(da, .inl (cD, 8, .inr (.inr (.inr (.inr dm)))))] ++ [(ra, .inl (cR, 8, .inr (.inr (.inr (.inr rm)))))] ++ [(r, .inr (8, [.int (nI so), .ref rq])), (rq, .inl (cI, z, .inl (va_cpy f f i9 j9 n9)))])) (va_A ([(x, .inr (11, [.ref sN, .ref sM, .ref sP, .int (bI pt), .ref fo, .ref da, .ref ra]))] ++ [(da, .inl (cD, 8, .inr (.inr (.inr (.inr dm)))))] ++ [(ra, .inl (cR, 8, .inr (.inr (.inr (.inr rm)))))] ++ [(r, .inr (8, [.int (nI so), .ref rq])), (rq, .inl (cI, z, .inl f))]) sz)) 0 0 (va_A ([(x, .inr (11, [.ref sN, .ref sM, .ref sP, .int (bI pt), .ref fo, .ref da, .ref ra]))] ++ [(da, .inl (cD, 8, .inr (.inr (.inr (.inr dm)))))] ++ [(ra, .inl (cR, 8, .inr (.inr (.inr (.inr rm)))))] ++ [(r, .inr (8, [.int (nI so), .ref rq])), (rq, .inl (cI, z, .inl f))]) sz) := by
  refine Met.ofW (cc := cX11_copy) (maxL := 8) (ret := (some .int)) (by decide) rfl ?_
  intro p e s m args below meth c s₁ B hml hv
  obtain ⟨rfl, hH0, hCX⟩ := hv
  have hx := B.exec
  have hb := B.bytes
  have hr := B.returns
  have hts := atoms_spec (ws := wsX11_copy) B.pre
  have hown : s.vm.findClass RX11 = some m.cls := findClass_of_methodNamed B.named
  have hlocks := B.notSynchronized
  have hK := hCX.1
  obtain ⟨hsz, hP, hD0⟩ := hH0
  subst hsz
  have hD := hD0.self (sz := s.heap.size)
  generalize hAe : va_A ([(x, .inr (11, [.ref sN, .ref sM, .ref sP, .int (bI pt), .ref fo, .ref da, .ref ra]))] ++ [(da, .inl (cD, 8, .inr (.inr (.inr (.inr dm)))))] ++ [(ra, .inl (cR, 8, .inr (.inr (.inr (.inr rm)))))] ++ [(r, .inr (8, [.int (nI so), .ref rq])), (rq, .inl (cI, z, .inl f))]) s.heap.size = A at hD ⊢
  have hA : ∀ q : Nat, s.heap.size ≤ q → A q := fun q h => by rw [← hAe]; exact Or.inr h
  have hS : va_S A s.heap s.heap [] := va_S.rf
  have hP : va_P (dC, dI) vwCl ([(x, .inr (11, [.ref sN, .ref sM, .ref sP, .int (bI pt), .ref fo, .ref da, .ref ra]))] ++ [(da, .inl (cD, 8, .inr (.inr (.inr (.inr dm)))))] ++ [(ra, .inl (cR, 8, .inr (.inr (.inr (.inr rm)))))] ++ [(r, .inr (8, [.int (nI so), .ref rq])), (rq, .inl (cI, z, .inl f))]) s.heap := hP
  have hl := lv_entry ([.ref x, .int (nI y1), .int (nI i9), .int (nI y2), .int (nI j9), .int (nI n9)]) (n := 8) (Nat.le_of_ble_eq_true rfl)
  rw [lg_entry_eq]
  generalize (lg_sl ([.ref x, .int (nI y1), .int (nI i9), .int (nI y2), .int (nI j9), .int (nI n9)]) ++ List.replicate (8 - (lg_sl ([.ref x, .int (nI y1), .int (nI i9), .int (nI y2), .int (nI j9), .int (nI n9)])).length) Slot.unset).toArray = ls at hl ⊢
  have hl : lv_has ls 8 [(0, .ref x), (1, .int (nI y1)), (2, .int (nI i9)), (3, .int (nI y2)), (4, .int (nI j9)), (5, .int (nI n9))] := hl
  refine lv_iload_n hx hb dX11_copy_0 rfl (lv_at hl 1 rfl) ?_
  refine vp_callSi ((va_runS (As := [.int (nI y1)]) (rest := []) ⟨hx, hb, hml, hown, hts⟩ (c_X11_isShelf_t l dC dI cI cD cR y1 (by first | omega | assumption | exact gnd _ | exact gkn _ | exact Nat.lt_trans (gkn _) (by decide) | exact Nat.lt_trans (gnd _) (by decide) | exact Nat.lt_of_le_of_lt (pcN_le _) (by decide))) (va_cwS 1 hts gX11_copy_X11_isShelf rfl rfl rfl (by decide +kernel) ⟨Nat.le_of_ble_eq_true rfl, Nat.le_of_ble_eq_true rfl⟩) (preS_R hCX (trivial)) rfl rfl hl.1 rfl (lv_room (Nat.le_of_ble_eq_true rfl)) dX11_copy_1 ⟨Nat.le_of_ble_eq_true (by first | rfl | decide), Nat.le_of_ble_eq_true (by first | rfl | decide)⟩).run) (fun r_1 hr_1 => ?_)
  subst hr_1
  refine lv_if_eq (tgt := 14) hx hb dX11_copy_4 (by decide) (fun z => absurd z (by decide +kernel)) (fun _ => ?_)
  refine lv_iload_n hx hb dX11_copy_7 rfl (lv_at hl 3 rfl) ?_
  refine vp_callSi ((va_runS (As := [.int (nI y2)]) (rest := []) ⟨hx, hb, hml, hown, hts⟩ (c_X11_isShelf_t l dC dI cI cD cR y2 (by first | omega | assumption | exact gnd _ | exact gkn _ | exact Nat.lt_trans (gkn _) (by decide) | exact Nat.lt_trans (gnd _) (by decide) | exact Nat.lt_of_le_of_lt (pcN_le _) (by decide))) (va_cwS 1 hts gX11_copy_X11_isShelf rfl rfl rfl (by decide +kernel) ⟨Nat.le_of_ble_eq_true rfl, Nat.le_of_ble_eq_true rfl⟩) (preS_R hCX (trivial)) rfl rfl hl.1 rfl (lv_room (Nat.le_of_ble_eq_true rfl)) dX11_copy_8 ⟨Nat.le_of_ble_eq_true (by first | rfl | decide), Nat.le_of_ble_eq_true (by first | rfl | decide)⟩).run) (fun r_8 hr_8 => ?_)
  subst hr_8
  refine lv_if_ne (tgt := 16) hx hb dX11_copy_11 (by decide) (fun _ => ?_) (fun z => absurd z (by decide +kernel))
  refine lv_aload_n hx hb dX11_copy_16 rfl (lv_at hl 0 rfl) ?_
  refine lv_iload_n hx hb dX11_copy_17 rfl (lv_at hl 1 rfl) ?_
  refine vp_callSi ((va_runV (As := [.int (nI y1)]) (rest := []) ⟨hx, hb, hml, hown, hts⟩ (c_X11_isEmpty l dC dI cI cD cR x sN sM sP pt fo da ra dm rm y1 (by first | omega | assumption | exact gnd _ | exact gkn _ | exact Nat.lt_trans (gkn _) (by decide) | exact Nat.lt_trans (gnd _) (by decide) | exact Nat.lt_of_le_of_lt (pcN_le _) (by decide))) (cwV 1 hts gX11_copy_X11_isEmpty rfl rfl rfl (by decide +kernel) ⟨Nat.le_of_ble_eq_true rfl, Nat.le_of_ble_eq_true rfl⟩) (preV_R hCX (va_recv hK hP (ci := 11) (q0 := 0) rfl rfl) ((hP.sub (ws' := [(x, .inr (11, [.ref sN, .ref sM, .ref sP, .int (bI pt), .ref fo, .ref da, .ref ra]))] ++ [(da, .inl (cD, 8, .inr (.inr (.inr (.inr dm)))))] ++ [(ra, .inl (cR, 8, .inr (.inr (.inr (.inr rm)))))]) [0, 1, 2] rfl))) rfl rfl hl.1 rfl (lv_room (Nat.le_of_ble_eq_true rfl)) dX11_copy_18 ⟨Nat.le_of_ble_eq_true (by first | rfl | decide), Nat.le_of_ble_eq_true (by first | rfl | decide)⟩).run) (fun r_18 hr_18 => ?_)
  subst hr_18
  refine ho_tope (y := bI false) (congrArg bI (by rw [hrm1]; rfl)) ?_
  refine lv_if_ne (tgt := 32) hx hb dX11_copy_21 (by decide) (fun z => absurd z (by decide +kernel)) (fun _ => ?_)
  refine lv_aload_n hx hb dX11_copy_24 rfl (lv_at hl 0 rfl) ?_
  refine lv_iload_n hx hb dX11_copy_25 rfl (lv_at hl 3 rfl) ?_
  refine vp_callSi ((va_runV (As := [.int (nI y2)]) (rest := []) ⟨hx, hb, hml, hown, hts⟩ (c_X11_isEmpty l dC dI cI cD cR x sN sM sP pt fo da ra dm rm y2 (by first | omega | assumption | exact gnd _ | exact gkn _ | exact Nat.lt_trans (gkn _) (by decide) | exact Nat.lt_trans (gnd _) (by decide) | exact Nat.lt_of_le_of_lt (pcN_le _) (by decide))) (cwV 1 hts gX11_copy_X11_isEmpty rfl rfl rfl (by decide +kernel) ⟨Nat.le_of_ble_eq_true rfl, Nat.le_of_ble_eq_true rfl⟩) (preV_R hCX (va_recv hK hP (ci := 11) (q0 := 0) rfl rfl) ((hP.sub (ws' := [(x, .inr (11, [.ref sN, .ref sM, .ref sP, .int (bI pt), .ref fo, .ref da, .ref ra]))] ++ [(da, .inl (cD, 8, .inr (.inr (.inr (.inr dm)))))] ++ [(ra, .inl (cR, 8, .inr (.inr (.inr (.inr rm)))))]) [0, 1, 2] rfl))) rfl rfl hl.1 rfl (lv_room (Nat.le_of_ble_eq_true rfl)) dX11_copy_26 ⟨Nat.le_of_ble_eq_true (by first | rfl | decide), Nat.le_of_ble_eq_true (by first | rfl | decide)⟩).run) (fun r_26 hr_26 => ?_)
  subst hr_26
  refine ho_tope (y := bI false) (congrArg bI (by rw [hrm2]; rfl)) ?_
  refine lv_if_eq (tgt := 35) hx hb dX11_copy_29 (by decide) (fun _ => ?_) (fun z => absurd z (by decide +kernel))
  refine lv_aload_n hx hb dX11_copy_35 rfl (lv_at hl 0 rfl) ?_
  refine lv_iload_n hx hb dX11_copy_36 rfl (lv_at hl 1 rfl) ?_
  refine va_csq ((va_runV (As := [.int (nI y1)]) (rest := []) ⟨hx, hb, hml, hown, hts⟩ (c_X11_rowAt_s l dC dI cI cD cR x sN sM sP pt fo da ra rm y1 r (by first | omega | assumption | exact gnd _ | exact gkn _ | exact Nat.lt_trans (gkn _) (by decide) | exact Nat.lt_trans (gnd _) (by decide) | exact Nat.lt_of_le_of_lt (pcN_le _) (by decide)) (by first | omega | assumption | exact gnd _ | exact gkn _ | exact Nat.lt_trans (gkn _) (by decide) | exact Nat.lt_trans (gnd _) (by decide) | exact Nat.lt_of_le_of_lt (pcN_le _) (by decide))) (cwV 1 hts gX11_copy_X11_rowAt rfl rfl rfl (by decide +kernel) ⟨Nat.le_of_ble_eq_true rfl, Nat.le_of_ble_eq_true rfl⟩) (preV_R hCX (va_recv hK hP (ci := 11) (q0 := 0) rfl rfl) ((hP.sub (ws' := [(x, .inr (11, [.ref sN, .ref sM, .ref sP, .int (bI pt), .ref fo, .ref da, .ref ra]))] ++ [(ra, .inl (cR, 8, .inr (.inr (.inr (.inr rm)))))]) [0, 2] rfl))) rfl rfl hl.1 rfl (lv_room (Nat.le_of_ble_eq_true rfl)) dX11_copy_37 ⟨Nat.le_of_ble_eq_true (by first | rfl | decide), Nat.le_of_ble_eq_true (by first | rfl | decide)⟩).run) (fun r_37 hr_37 => ?_)
  subst hr_37
  refine ho_topr (y := .ref r) rfl ?_
  refine lv_astore (lv' := [(6, .ref r), (0, .ref x), (1, .int (nI y1)), (2, .int (nI i9)), (3, .int (nI y2)), (4, .int (nI j9)), (5, .int (nI n9))]) hx hb dX11_copy_40 hl (by decide) rfl (fun ls hl => ?_)
  refine lv_aload_n hx hb dX11_copy_42 rfl (lv_at hl 1 rfl) ?_
  refine lv_iload_n hx hb dX11_copy_43 rfl (lv_at hl 4 rfl) ?_
  refine va_csq ((va_runV (As := [.int (nI y2)]) (rest := []) ⟨hx, hb, hml, hown, hts⟩ (c_X11_rowAt_s l dC dI cI cD cR x sN sM sP pt fo da ra rm y2 r (by first | omega | assumption | exact gnd _ | exact gkn _ | exact Nat.lt_trans (gkn _) (by decide) | exact Nat.lt_trans (gnd _) (by decide) | exact Nat.lt_of_le_of_lt (pcN_le _) (by decide)) (by first | omega | assumption | exact gnd _ | exact gkn _ | exact Nat.lt_trans (gkn _) (by decide) | exact Nat.lt_trans (gnd _) (by decide) | exact Nat.lt_of_le_of_lt (pcN_le _) (by decide))) (cwV 1 hts gX11_copy_X11_rowAt rfl rfl rfl (by decide +kernel) ⟨Nat.le_of_ble_eq_true rfl, Nat.le_of_ble_eq_true rfl⟩) (preV_R hCX (va_recv hK hP (ci := 11) (q0 := 0) rfl rfl) ((hP.sub (ws' := [(x, .inr (11, [.ref sN, .ref sM, .ref sP, .int (bI pt), .ref fo, .ref da, .ref ra]))] ++ [(ra, .inl (cR, 8, .inr (.inr (.inr (.inr rm)))))]) [0, 2] rfl))) rfl rfl hl.1 rfl (lv_room (Nat.le_of_ble_eq_true rfl)) dX11_copy_44 ⟨Nat.le_of_ble_eq_true (by first | rfl | decide), Nat.le_of_ble_eq_true (by first | rfl | decide)⟩).run) (fun r_44 hr_44 => ?_)
  subst hr_44
  refine ho_topr (y := .ref r) rfl ?_
  refine lv_astore (lv' := [(7, .ref r), (6, .ref r), (0, .ref x), (1, .int (nI y1)), (2, .int (nI i9)), (3, .int (nI y2)), (4, .int (nI j9)), (5, .int (nI n9))]) hx hb dX11_copy_47 hl (by decide) rfl (fun ls hl => ?_)
  refine lv_aload hx hb dX11_copy_49 (lv_at hl 1 rfl) ?_
  refine lv_ifnull hx hb dX11_copy_51 ?_
  refine lv_aload hx hb dX11_copy_54 (lv_at hl 0 rfl) ?_
  refine lv_ifnull hx hb dX11_copy_56 ?_
  refine lv_aload hx hb dX11_copy_59 (lv_at hl 0 rfl) ?_
  refine lv_aload hx hb dX11_copy_61 (lv_at hl 1 rfl) ?_
  refine va_getN (D := (dC, dI)) (ci := 8) (v := .int (nI so)) (C := RX8) (T := TX8) (N := 2) hx hb hts (fun _ h => List.mem_cons_of_mem _ (List.mem_append_left _ (List.mem_append_right _ h))) hown hK hP 3 rfl rfl 0 (by decide) (CX.nf hCX 1 rfl) (fun _ h9 => h9) rfl dX11_copy_63 ?_
  refine vp_callSi ((va_runV (As := [.int (nI so)]) (rest := []) ⟨hx, hb, hml, hown, hts⟩ (c_X8_isOf l dC dI cI cD cR r rq so z f so (by first | omega | assumption | exact gnd _ | exact gkn _ | exact Nat.lt_trans (gkn _) (by decide) | exact Nat.lt_trans (gnd _) (by decide) | exact Nat.lt_of_le_of_lt (pcN_le _) (by decide)) (by first | omega | assumption | exact gnd _ | exact gkn _ | exact Nat.lt_trans (gkn _) (by decide) | exact Nat.lt_trans (gnd _) (by decide) | exact Nat.lt_of_le_of_lt (pcN_le _) (by decide)) (by first | omega | assumption | exact gnd _ | exact gkn _ | exact Nat.lt_trans (gkn _) (by decide) | exact Nat.lt_trans (gnd _) (by decide) | exact Nat.lt_of_le_of_lt (pcN_le _) (by decide))) (cwV 1 hts gX11_copy_X8_isOf rfl rfl rfl (by decide +kernel) ⟨Nat.le_of_ble_eq_true rfl, Nat.le_of_ble_eq_true rfl⟩) (preV_R hCX (va_recv hK hP (ci := 8) (q0 := 3) rfl rfl) ((hP.sub (ws' := [(r, .inr (8, [.int (nI so), .ref rq])), (rq, .inl (cI, z, .inl f))]) [3, 4] rfl))) rfl rfl hl.1 rfl (lv_room (Nat.le_of_ble_eq_true rfl)) dX11_copy_66 ⟨Nat.le_of_ble_eq_true (by first | rfl | decide), Nat.le_of_ble_eq_true (by first | rfl | decide)⟩).run) (fun r_66 hr_66 => ?_)
  subst hr_66
  refine ho_tope (y := bI true) (congrArg bI (decide_eq_true rfl)) ?_
  refine lv_if_ne (tgt := 75) hx hb dX11_copy_69 (by decide) (fun _ => ?_) (fun z => absurd z (by decide +kernel))
  refine lv_aload hx hb dX11_copy_75 (lv_at hl 1 rfl) ?_
  refine lv_iload_n hx hb dX11_copy_77 rfl (lv_at hl 4 rfl) ?_
  refine lv_iload hx hb dX11_copy_78 (lv_at hl 7 rfl) ?_
  refine vp_callSi ((va_runV (As := [.int (nI i9), .int (nI n9)]) (rest := []) ⟨hx, hb, hml, hown, hts⟩ (c_X8_hasStretch l dC dI cI cD cR r rq so z f (nI i9) (nI n9) (by first | omega | assumption | exact gnd _ | exact gkn _ | exact Nat.lt_trans (gkn _) (by decide) | exact Nat.lt_trans (gnd _) (by decide) | exact Nat.lt_of_le_of_lt (pcN_le _) (by decide)) (by first | omega | assumption | exact gnd _ | exact gkn _ | exact Nat.lt_trans (gkn _) (by decide) | exact Nat.lt_trans (gnd _) (by decide) | exact Nat.lt_of_le_of_lt (pcN_le _) (by decide))) (cwV 2 hts gX11_copy_X8_hasStretch rfl rfl rfl (by decide +kernel) ⟨Nat.le_of_ble_eq_true rfl, Nat.le_of_ble_eq_true rfl⟩) (preV_R hCX (va_recv hK hP (ci := 8) (q0 := 3) rfl rfl) ((hP.sub (ws' := [(r, .inr (8, [.int (nI so), .ref rq])), (rq, .inl (cI, z, .inl f))]) [3, 4] rfl))) rfl rfl hl.1 rfl (lv_room (Nat.le_of_ble_eq_true rfl)) dX11_copy_80 ⟨Nat.le_of_ble_eq_true (by first | rfl | decide), Nat.le_of_ble_eq_true (by first | rfl | decide)⟩).run) (fun r_80 hr_80 => ?_)
  subst hr_80
  refine ho_tope (y := bI true) (congrArg bI (stB_t hi9 (by omega))) ?_
  refine lv_if_eq (tgt := 98) hx hb dX11_copy_83 (by decide) (fun z => absurd z (by decide +kernel)) (fun _ => ?_)
  refine lv_aload hx hb dX11_copy_86 (lv_at hl 0 rfl) ?_
  refine lv_iload hx hb dX11_copy_88 (lv_at hl 6 rfl) ?_
  refine lv_iload hx hb dX11_copy_90 (lv_at hl 7 rfl) ?_
  refine vp_callSi ((va_runV (As := [.int (nI j9), .int (nI n9)]) (rest := []) ⟨hx, hb, hml, hown, hts⟩ (c_X8_hasStretch l dC dI cI cD cR r rq so z f (nI j9) (nI n9) (by first | omega | assumption | exact gnd _ | exact gkn _ | exact Nat.lt_trans (gkn _) (by decide) | exact Nat.lt_trans (gnd _) (by decide) | exact Nat.lt_of_le_of_lt (pcN_le _) (by decide)) (by first | omega | assumption | exact gnd _ | exact gkn _ | exact Nat.lt_trans (gkn _) (by decide) | exact Nat.lt_trans (gnd _) (by decide) | exact Nat.lt_of_le_of_lt (pcN_le _) (by decide))) (cwV 2 hts gX11_copy_X8_hasStretch rfl rfl rfl (by decide +kernel) ⟨Nat.le_of_ble_eq_true rfl, Nat.le_of_ble_eq_true rfl⟩) (preV_R hCX (va_recv hK hP (ci := 8) (q0 := 3) rfl rfl) ((hP.sub (ws' := [(r, .inr (8, [.int (nI so), .ref rq])), (rq, .inl (cI, z, .inl f))]) [3, 4] rfl))) rfl rfl hl.1 rfl (lv_room (Nat.le_of_ble_eq_true rfl)) dX11_copy_92 ⟨Nat.le_of_ble_eq_true (by first | rfl | decide), Nat.le_of_ble_eq_true (by first | rfl | decide)⟩).run) (fun r_92 hr_92 => ?_)
  subst hr_92
  refine ho_tope (y := bI true) (congrArg bI (stB_t hj9 (by omega))) ?_
  refine lv_if_ne (tgt := 101) hx hb dX11_copy_95 (by decide) (fun _ => ?_) (fun z => absurd z (by decide +kernel))
  refine lv_aload hx hb dX11_copy_101 (lv_at hl 1 rfl) ?_
  refine va_getN (D := (dC, dI)) (ci := 8) (v := .ref rq) (C := RX8) (T := TX8) (N := 2) hx hb hts (fun _ h => List.mem_cons_of_mem _ (List.mem_append_left _ (List.mem_append_right _ h))) hown hK hP 3 rfl rfl 1 (by decide) (CX.nf hCX 2 rfl) (fun _ h9 => h9) rfl dX11_copy_103 ?_
  refine lv_iload_n hx hb dX11_copy_106 rfl (lv_at hl 4 rfl) ?_
  refine lv_aload hx hb dX11_copy_107 (lv_at hl 0 rfl) ?_
  refine va_getN (D := (dC, dI)) (ci := 8) (v := .ref rq) (C := RX8) (T := TX8) (N := 2) hx hb hts (fun _ h => List.mem_cons_of_mem _ (List.mem_append_left _ (List.mem_append_right _ h))) hown hK hP 3 rfl rfl 1 (by decide) (CX.nf hCX 2 rfl) (fun _ h9 => h9) rfl dX11_copy_109 ?_
  refine lv_iload hx hb dX11_copy_112 (lv_at hl 6 rfl) ?_
  refine lv_iload hx hb dX11_copy_114 (lv_at hl 7 rfl) ?_
  refine ho_cpyi hx hb (hml.trans hl.1.symm) hown (hts (.methodLink RX11 264 arraycopyName) (by decide +kernel)) (hts (.native arraycopyName) (by decide +kernel)) (hts (.static arraycopyName) (by decide +kernel)) (hts (.initialized "java/lang/System") (by decide +kernel)) hK hP hD hS 4 4 0 rfl rfl rfl (by omega) (by omega) (by omega) (by omega) (Nat.le_of_ble_eq_true rfl) (Nat.le_of_ble_eq_true rfl) dX11_copy_116 (fun H locs hP hD hS => ?_)
  have hP : va_P (dC, dI) vwCl ([(x, .inr (11, [.ref sN, .ref sM, .ref sP, .int (bI pt), .ref fo, .ref da, .ref ra]))] ++ [(da, .inl (cD, 8, .inr (.inr (.inr (.inr dm)))))] ++ [(ra, .inl (cR, 8, .inr (.inr (.inr (.inr rm)))))] ++ [(r, .inr (8, [.int (nI so), .ref rq])), (rq, .inl (cI, z, .inl (va_cpy f f i9 j9 n9)))]) H := hP
  have hD : va_D A ([(x, .inr (11, [.ref sN, .ref sM, .ref sP, .int (bI pt), .ref fo, .ref da, .ref ra]))] ++ [(da, .inl (cD, 8, .inr (.inr (.inr (.inr dm)))))] ++ [(ra, .inl (cR, 8, .inr (.inr (.inr (.inr rm)))))] ++ [(r, .inr (8, [.int (nI so), .ref rq])), (rq, .inl (cI, z, .inl (va_cpy f f i9 j9 n9)))]) := hD
  refine lv_iload hx hb dX11_copy_119 (lv_at hl 7 rfl) ?_
  exact W.iret (v := nI n9) hx hb hr (fun T9 hT9 hW9 => ⟨⟨_, (), rfl, rfl, by rw [hT9]; exact hP, hD⟩, hS.F hT9⟩) hS.2.2 dX11_copy_121
set_option maxHeartbeats 4000000 in
set_option maxRecDepth 100000 in
theorem c_X11_copy_f (l : Launch) (dC : Nat → ClassId) (dI : Nat → Nat → Nat) (cI cD cR : ClassId) (x sN sM sP : Nat) (pt : Bool) (fo da ra : Nat) (dm : Nat → Option Nat) (rm : Nat → Option Nat) (x9 i9 x2 j9 n9 : Int32) (RL : List Nat) (rc rs rz : Nat → Nat) (rf : Nat → Nat → Int32) (grm : ∀ y r, rm y = some r → r ∈ RL) (hno : ∀ y1 y2 r1 r2, x9 = nI y1 → x2 = nI y2 → y1 < 8 → y2 < 8 → rm y1 = some r1 → rm y2 = some r2 → rs r1 = rs r2 → (stB (rz r1) i9 n9 && stB (rz r2) j9 n9) = false) : Met l yX11_copy wsX11_copy ({ frames := 2, cells := 0, slots := 0, locals := 42 }) (pcR dC dI cI cD cR [.ref x, .int x9, .int i9, .int x2, .int j9, .int n9] (fun H => va_P (dC, dI) vwCl ([(x, .inr (11, [.ref sN, .ref sM, .ref sP, .int (bI pt), .ref fo, .ref da, .ref ra]))] ++ [(da, .inl (cD, 8, .inr (.inr (.inr (.inr dm)))))] ++ [(ra, .inl (cR, 8, .inr (.inr (.inr (.inr rm)))))]) H ∧ RP dC dI cI RL rc rs rz rf H)) (vp_Si (fun r => r = (on1 (oN x9 8) (fun y1 => on1 (oN x2 8) (fun y2 => bif ((rm y1).isNone && (dm y1).isNone) || ((rm y2).isNone && (dm y2).isNone) then -11 else match rm y1, rm y2 with | some r1, some r2 => (bif decide (rs r2 = rs r1) then -13 else -12) | _, _ => -12) (-1)) (-1)))) 0 0 (fun _ => False) := by
  refine Met.ofW (cc := cX11_copy) (maxL := 8) (ret := (some .int)) (by decide) rfl ?_
  intro p e s m args below meth c s₁ B hml hv
  obtain ⟨rfl, hH0, hCX⟩ := hv
  have hx := B.exec
  have hb := B.bytes
  have hr := B.returns
  have hts := atoms_spec (ws := wsX11_copy) B.pre
  have hown : s.vm.findClass RX11 = some m.cls := findClass_of_methodNamed B.named
  have hlocks := B.notSynchronized
  have hK := hCX.1
  obtain ⟨hP, hRP⟩ := hH0
  have hl := lv_entry ([.ref x, .int x9, .int i9, .int x2, .int j9, .int n9]) (n := 8) (Nat.le_of_ble_eq_true rfl)
  rw [lg_entry_eq]
  generalize (lg_sl ([.ref x, .int x9, .int i9, .int x2, .int j9, .int n9]) ++ List.replicate (8 - (lg_sl ([.ref x, .int x9, .int i9, .int x2, .int j9, .int n9])).length) Slot.unset).toArray = ls at hl ⊢
  have hl : lv_has ls 8 [(0, .ref x), (1, .int x9), (2, .int i9), (3, .int x2), (4, .int j9), (5, .int n9)] := hl
  rcases okI_or x9 (n := 8) (by omega) with hb_x9 | ⟨y1, h_y1, rfl⟩
  · refine lv_iload_n hx hb dX11_copy_0 rfl (lv_at hl 1 rfl) ?_
    refine vp_callSi ((va_runS (As := [.int x9]) (rest := []) ⟨hx, hb, hml, hown, hts⟩ (c_X11_isShelf_f l dC dI cI cD cR x9 (by first | omega | assumption | exact gnd _ | exact gkn _ | exact Nat.lt_trans (gkn _) (by decide) | exact Nat.lt_trans (gnd _) (by decide) | exact Nat.lt_of_le_of_lt (pcN_le _) (by decide))) (va_cwS 1 hts gX11_copy_X11_isShelf rfl rfl rfl (by decide +kernel) ⟨Nat.le_of_ble_eq_true rfl, Nat.le_of_ble_eq_true rfl⟩) (preS_R hCX (trivial)) rfl rfl hl.1 rfl (lv_room (Nat.le_of_ble_eq_true rfl)) dX11_copy_1 ⟨Nat.le_of_ble_eq_true (by first | rfl | decide), Nat.le_of_ble_eq_true (by first | rfl | decide)⟩).run) (fun r_1 hr_1 => ?_)
    subst hr_1
    refine lv_if_eq (tgt := 14) hx hb dX11_copy_4 (by decide) (fun _ => ?_) (fun z => absurd z (by decide +kernel))
    refine lv_iconst (v := (-1)) hx hb dX11_copy_14 (by decide +kernel) ?_
    exact W.iret (v := (-1)) hx hb hr (fun T9 hT9 hW9 => ⟨_, rfl, (by first | ((simp [on1, oN_f hb_x9]) <;> first | rfl | omega)), hT9⟩) (fun q h => by cases h) dX11_copy_15
  rcases okI_or x2 (n := 8) (by omega) with hb_x2 | ⟨y2, h_y2, rfl⟩
  · refine lv_iload_n hx hb dX11_copy_0 rfl (lv_at hl 1 rfl) ?_
    refine vp_callSi ((va_runS (As := [.int (nI y1)]) (rest := []) ⟨hx, hb, hml, hown, hts⟩ (c_X11_isShelf_t l dC dI cI cD cR y1 (by first | omega | assumption | exact gnd _ | exact gkn _ | exact Nat.lt_trans (gkn _) (by decide) | exact Nat.lt_trans (gnd _) (by decide) | exact Nat.lt_of_le_of_lt (pcN_le _) (by decide))) (va_cwS 1 hts gX11_copy_X11_isShelf rfl rfl rfl (by decide +kernel) ⟨Nat.le_of_ble_eq_true rfl, Nat.le_of_ble_eq_true rfl⟩) (preS_R hCX (trivial)) rfl rfl hl.1 rfl (lv_room (Nat.le_of_ble_eq_true rfl)) dX11_copy_1 ⟨Nat.le_of_ble_eq_true (by first | rfl | decide), Nat.le_of_ble_eq_true (by first | rfl | decide)⟩).run) (fun r_1 hr_1 => ?_)
    subst hr_1
    refine lv_if_eq (tgt := 14) hx hb dX11_copy_4 (by decide) (fun z => absurd z (by decide +kernel)) (fun _ => ?_)
    refine lv_iload_n hx hb dX11_copy_7 rfl (lv_at hl 3 rfl) ?_
    refine vp_callSi ((va_runS (As := [.int x2]) (rest := []) ⟨hx, hb, hml, hown, hts⟩ (c_X11_isShelf_f l dC dI cI cD cR x2 (by first | omega | assumption | exact gnd _ | exact gkn _ | exact Nat.lt_trans (gkn _) (by decide) | exact Nat.lt_trans (gnd _) (by decide) | exact Nat.lt_of_le_of_lt (pcN_le _) (by decide))) (va_cwS 1 hts gX11_copy_X11_isShelf rfl rfl rfl (by decide +kernel) ⟨Nat.le_of_ble_eq_true rfl, Nat.le_of_ble_eq_true rfl⟩) (preS_R hCX (trivial)) rfl rfl hl.1 rfl (lv_room (Nat.le_of_ble_eq_true rfl)) dX11_copy_8 ⟨Nat.le_of_ble_eq_true (by first | rfl | decide), Nat.le_of_ble_eq_true (by first | rfl | decide)⟩).run) (fun r_8 hr_8 => ?_)
    subst hr_8
    refine lv_if_ne (tgt := 16) hx hb dX11_copy_11 (by decide) (fun z => absurd z (by decide +kernel)) (fun _ => ?_)
    refine lv_iconst (v := (-1)) hx hb dX11_copy_14 (by decide +kernel) ?_
    exact W.iret (v := (-1)) hx hb hr (fun T9 hT9 hW9 => ⟨_, rfl, (by first | ((simp [on1, oN_t h_y1, oN_f hb_x2]) <;> first | rfl | omega)), hT9⟩) (fun q h => by cases h) dX11_copy_15
  refine lv_iload_n hx hb dX11_copy_0 rfl (lv_at hl 1 rfl) ?_
  refine vp_callSi ((va_runS (As := [.int (nI y1)]) (rest := []) ⟨hx, hb, hml, hown, hts⟩ (c_X11_isShelf_t l dC dI cI cD cR y1 (by first | omega | assumption | exact gnd _ | exact gkn _ | exact Nat.lt_trans (gkn _) (by decide) | exact Nat.lt_trans (gnd _) (by decide) | exact Nat.lt_of_le_of_lt (pcN_le _) (by decide))) (va_cwS 1 hts gX11_copy_X11_isShelf rfl rfl rfl (by decide +kernel) ⟨Nat.le_of_ble_eq_true rfl, Nat.le_of_ble_eq_true rfl⟩) (preS_R hCX (trivial)) rfl rfl hl.1 rfl (lv_room (Nat.le_of_ble_eq_true rfl)) dX11_copy_1 ⟨Nat.le_of_ble_eq_true (by first | rfl | decide), Nat.le_of_ble_eq_true (by first | rfl | decide)⟩).run) (fun r_1 hr_1 => ?_)
  subst hr_1
  refine lv_if_eq (tgt := 14) hx hb dX11_copy_4 (by decide) (fun z => absurd z (by decide +kernel)) (fun _ => ?_)
  refine lv_iload_n hx hb dX11_copy_7 rfl (lv_at hl 3 rfl) ?_
  refine vp_callSi ((va_runS (As := [.int (nI y2)]) (rest := []) ⟨hx, hb, hml, hown, hts⟩ (c_X11_isShelf_t l dC dI cI cD cR y2 (by first | omega | assumption | exact gnd _ | exact gkn _ | exact Nat.lt_trans (gkn _) (by decide) | exact Nat.lt_trans (gnd _) (by decide) | exact Nat.lt_of_le_of_lt (pcN_le _) (by decide))) (va_cwS 1 hts gX11_copy_X11_isShelf rfl rfl rfl (by decide +kernel) ⟨Nat.le_of_ble_eq_true rfl, Nat.le_of_ble_eq_true rfl⟩) (preS_R hCX (trivial)) rfl rfl hl.1 rfl (lv_room (Nat.le_of_ble_eq_true rfl)) dX11_copy_8 ⟨Nat.le_of_ble_eq_true (by first | rfl | decide), Nat.le_of_ble_eq_true (by first | rfl | decide)⟩).run) (fun r_8 hr_8 => ?_)
  subst hr_8
  refine lv_if_ne (tgt := 16) hx hb dX11_copy_11 (by decide) (fun _ => ?_) (fun z => absurd z (by decide +kernel))
  refine lv_aload_n hx hb dX11_copy_16 rfl (lv_at hl 0 rfl) ?_
  refine lv_iload_n hx hb dX11_copy_17 rfl (lv_at hl 1 rfl) ?_
  refine vp_callSi ((va_runV (As := [.int (nI y1)]) (rest := []) ⟨hx, hb, hml, hown, hts⟩ (c_X11_isEmpty l dC dI cI cD cR x sN sM sP pt fo da ra dm rm y1 (by first | omega | assumption | exact gnd _ | exact gkn _ | exact Nat.lt_trans (gkn _) (by decide) | exact Nat.lt_trans (gnd _) (by decide) | exact Nat.lt_of_le_of_lt (pcN_le _) (by decide))) (cwV 1 hts gX11_copy_X11_isEmpty rfl rfl rfl (by decide +kernel) ⟨Nat.le_of_ble_eq_true rfl, Nat.le_of_ble_eq_true rfl⟩) (preV_R hCX (va_recv hK hP (ci := 11) (q0 := 0) rfl rfl) (hP)) rfl rfl hl.1 rfl (lv_room (Nat.le_of_ble_eq_true rfl)) dX11_copy_18 ⟨Nat.le_of_ble_eq_true (by first | rfl | decide), Nat.le_of_ble_eq_true (by first | rfl | decide)⟩).run) (fun r_18 hr_18 => ?_)
  subst hr_18
  refine ho_bne (tgt := 32) hx hb dX11_copy_21 (by decide) (fun c_21 => ?_) (fun c_21 => ?_)
  · refine lv_bipush (v := (-11)) hx hb dX11_copy_32 (by decide +kernel) ?_
    exact W.iret (v := (-11)) hx hb hr (fun T9 hT9 hW9 => ⟨_, rfl, (by first | ((simp [on1, c_21, oN_t h_y1, oN_t h_y2]) <;> first | rfl | omega)), hT9⟩) (fun q h => by cases h) dX11_copy_34
  refine lv_aload_n hx hb dX11_copy_24 rfl (lv_at hl 0 rfl) ?_
  refine lv_iload_n hx hb dX11_copy_25 rfl (lv_at hl 3 rfl) ?_
  refine vp_callSi ((va_runV (As := [.int (nI y2)]) (rest := []) ⟨hx, hb, hml, hown, hts⟩ (c_X11_isEmpty l dC dI cI cD cR x sN sM sP pt fo da ra dm rm y2 (by first | omega | assumption | exact gnd _ | exact gkn _ | exact Nat.lt_trans (gkn _) (by decide) | exact Nat.lt_trans (gnd _) (by decide) | exact Nat.lt_of_le_of_lt (pcN_le _) (by decide))) (cwV 1 hts gX11_copy_X11_isEmpty rfl rfl rfl (by decide +kernel) ⟨Nat.le_of_ble_eq_true rfl, Nat.le_of_ble_eq_true rfl⟩) (preV_R hCX (va_recv hK hP (ci := 11) (q0 := 0) rfl rfl) (hP)) rfl rfl hl.1 rfl (lv_room (Nat.le_of_ble_eq_true rfl)) dX11_copy_26 ⟨Nat.le_of_ble_eq_true (by first | rfl | decide), Nat.le_of_ble_eq_true (by first | rfl | decide)⟩).run) (fun r_26 hr_26 => ?_)
  subst hr_26
  refine ho_beq (tgt := 35) hx hb dX11_copy_29 (by decide) (fun c_29 => ?_) (fun c_29 => ?_)
  · refine lv_aload_n hx hb dX11_copy_35 rfl (lv_at hl 0 rfl) ?_
    refine lv_iload_n hx hb dX11_copy_36 rfl (lv_at hl 1 rfl) ?_
    refine va_csq ((va_runV (As := [.int (nI y1)]) (rest := []) ⟨hx, hb, hml, hown, hts⟩ (c_X11_rowAt_t l dC dI cI cD cR x sN sM sP pt fo da ra rm y1 (by first | omega | assumption | exact gnd _ | exact gkn _ | exact Nat.lt_trans (gkn _) (by decide) | exact Nat.lt_trans (gnd _) (by decide) | exact Nat.lt_of_le_of_lt (pcN_le _) (by decide))) (cwV 1 hts gX11_copy_X11_rowAt rfl rfl rfl (by decide +kernel) ⟨Nat.le_of_ble_eq_true rfl, Nat.le_of_ble_eq_true rfl⟩) (preV_R hCX (va_recv hK hP (ci := 11) (q0 := 0) rfl rfl) ((hP.sub (ws' := [(x, .inr (11, [.ref sN, .ref sM, .ref sP, .int (bI pt), .ref fo, .ref da, .ref ra]))] ++ [(ra, .inl (cR, 8, .inr (.inr (.inr (.inr rm)))))]) [0, 2] rfl))) rfl rfl hl.1 rfl (lv_room (Nat.le_of_ble_eq_true rfl)) dX11_copy_37 ⟨Nat.le_of_ble_eq_true (by first | rfl | decide), Nat.le_of_ble_eq_true (by first | rfl | decide)⟩).run) (fun r_37 hr_37 => ?_)
    subst hr_37
    cases hv_37 : rm y1 with
    | none =>
      refine ho_topr (y := .null) rfl ?_
      refine lv_astoreN (lv' := [(6, .null), (0, .ref x), (1, .int (nI y1)), (2, .int i9), (3, .int (nI y2)), (4, .int j9), (5, .int n9)]) hx hb dX11_copy_40 hl (by decide) rfl (fun ls hl => ?_)
      refine lv_aload_n hx hb dX11_copy_42 rfl (lv_at hl 1 rfl) ?_
      refine lv_iload_n hx hb dX11_copy_43 rfl (lv_at hl 4 rfl) ?_
      refine va_csq ((va_runV (As := [.int (nI y2)]) (rest := []) ⟨hx, hb, hml, hown, hts⟩ (c_X11_rowAt_t l dC dI cI cD cR x sN sM sP pt fo da ra rm y2 (by first | omega | assumption | exact gnd _ | exact gkn _ | exact Nat.lt_trans (gkn _) (by decide) | exact Nat.lt_trans (gnd _) (by decide) | exact Nat.lt_of_le_of_lt (pcN_le _) (by decide))) (cwV 1 hts gX11_copy_X11_rowAt rfl rfl rfl (by decide +kernel) ⟨Nat.le_of_ble_eq_true rfl, Nat.le_of_ble_eq_true rfl⟩) (preV_R hCX (va_recv hK hP (ci := 11) (q0 := 0) rfl rfl) ((hP.sub (ws' := [(x, .inr (11, [.ref sN, .ref sM, .ref sP, .int (bI pt), .ref fo, .ref da, .ref ra]))] ++ [(ra, .inl (cR, 8, .inr (.inr (.inr (.inr rm)))))]) [0, 2] rfl))) rfl rfl hl.1 rfl (lv_room (Nat.le_of_ble_eq_true rfl)) dX11_copy_44 ⟨Nat.le_of_ble_eq_true (by first | rfl | decide), Nat.le_of_ble_eq_true (by first | rfl | decide)⟩).run) (fun r_44 hr_44 => ?_)
      subst hr_44
      cases hv_44 : rm y2 with
      | none =>
        refine ho_topr (y := .null) rfl ?_
        refine lv_astoreN (lv' := [(7, .null), (6, .null), (0, .ref x), (1, .int (nI y1)), (2, .int i9), (3, .int (nI y2)), (4, .int j9), (5, .int n9)]) hx hb dX11_copy_47 hl (by decide) rfl (fun ls hl => ?_)
        refine lv_aloadN hx hb dX11_copy_49 (lv_at hl 1 rfl) ?_
        refine lv_ifnullN (tgt := 72) hx hb dX11_copy_51 (by decide) ?_
        refine lv_bipush (v := (-12)) hx hb dX11_copy_72 (by decide +kernel) ?_
        exact W.iret (v := (-12)) hx hb hr (fun T9 hT9 hW9 => ⟨_, rfl, (by first | (rw [oN_t h_y1, oN_t h_y2]; simp only [on1]; rw [c_21, c_29, hv_37, hv_44] <;> rfl) | ((simp [on1, c_21, c_29, hv_37, hv_44, oN_t h_y1, oN_t h_y2]) <;> first | rfl | omega)), hT9⟩) (fun q h => by cases h) dX11_copy_74
      | some a_44 =>
        refine ho_topr (y := .ref a_44) rfl ?_
        have hra_44 : a_44 ∈ RL := grm _ _ hv_44
        have hso_44 : rs a_44 < 3 := (hRP _ hra_44).2.1
        have hzz_44 : rz a_44 ≤ 100 := (hRP _ hra_44).2.2
        refine lv_astore (lv' := [(7, .ref a_44), (6, .null), (0, .ref x), (1, .int (nI y1)), (2, .int i9), (3, .int (nI y2)), (4, .int j9), (5, .int n9)]) hx hb dX11_copy_47 hl (by decide) rfl (fun ls hl => ?_)
        refine lv_aloadN hx hb dX11_copy_49 (lv_at hl 1 rfl) ?_
        refine lv_ifnullN (tgt := 72) hx hb dX11_copy_51 (by decide) ?_
        refine lv_bipush (v := (-12)) hx hb dX11_copy_72 (by decide +kernel) ?_
        exact W.iret (v := (-12)) hx hb hr (fun T9 hT9 hW9 => ⟨_, rfl, (by first | (rw [oN_t h_y1, oN_t h_y2]; simp only [on1]; rw [c_21, c_29, hv_37, hv_44] <;> rfl) | ((simp [on1, c_21, c_29, hv_37, hv_44, oN_t h_y1, oN_t h_y2]) <;> first | rfl | omega)), hT9⟩) (fun q h => by cases h) dX11_copy_74
    | some a_37 =>
      refine ho_topr (y := .ref a_37) rfl ?_
      have hra_37 : a_37 ∈ RL := grm _ _ hv_37
      have hso_37 : rs a_37 < 3 := (hRP _ hra_37).2.1
      have hzz_37 : rz a_37 ≤ 100 := (hRP _ hra_37).2.2
      refine lv_astore (lv' := [(6, .ref a_37), (0, .ref x), (1, .int (nI y1)), (2, .int i9), (3, .int (nI y2)), (4, .int j9), (5, .int n9)]) hx hb dX11_copy_40 hl (by decide) rfl (fun ls hl => ?_)
      refine lv_aload_n hx hb dX11_copy_42 rfl (lv_at hl 1 rfl) ?_
      refine lv_iload_n hx hb dX11_copy_43 rfl (lv_at hl 4 rfl) ?_
      refine va_csq ((va_runV (As := [.int (nI y2)]) (rest := []) ⟨hx, hb, hml, hown, hts⟩ (c_X11_rowAt_t l dC dI cI cD cR x sN sM sP pt fo da ra rm y2 (by first | omega | assumption | exact gnd _ | exact gkn _ | exact Nat.lt_trans (gkn _) (by decide) | exact Nat.lt_trans (gnd _) (by decide) | exact Nat.lt_of_le_of_lt (pcN_le _) (by decide))) (cwV 1 hts gX11_copy_X11_rowAt rfl rfl rfl (by decide +kernel) ⟨Nat.le_of_ble_eq_true rfl, Nat.le_of_ble_eq_true rfl⟩) (preV_R hCX (va_recv hK hP (ci := 11) (q0 := 0) rfl rfl) ((hP.sub (ws' := [(x, .inr (11, [.ref sN, .ref sM, .ref sP, .int (bI pt), .ref fo, .ref da, .ref ra]))] ++ [(ra, .inl (cR, 8, .inr (.inr (.inr (.inr rm)))))]) [0, 2] rfl))) rfl rfl hl.1 rfl (lv_room (Nat.le_of_ble_eq_true rfl)) dX11_copy_44 ⟨Nat.le_of_ble_eq_true (by first | rfl | decide), Nat.le_of_ble_eq_true (by first | rfl | decide)⟩).run) (fun r_44 hr_44 => ?_)
      subst hr_44
      cases hv_44 : rm y2 with
      | none =>
        refine ho_topr (y := .null) rfl ?_
        refine lv_astoreN (lv' := [(7, .null), (6, .ref a_37), (0, .ref x), (1, .int (nI y1)), (2, .int i9), (3, .int (nI y2)), (4, .int j9), (5, .int n9)]) hx hb dX11_copy_47 hl (by decide) rfl (fun ls hl => ?_)
        refine lv_aload hx hb dX11_copy_49 (lv_at hl 1 rfl) ?_
        refine lv_ifnull hx hb dX11_copy_51 ?_
        refine lv_aloadN hx hb dX11_copy_54 (lv_at hl 0 rfl) ?_
        refine lv_ifnullN (tgt := 72) hx hb dX11_copy_56 (by decide) ?_
        refine lv_bipush (v := (-12)) hx hb dX11_copy_72 (by decide +kernel) ?_
        exact W.iret (v := (-12)) hx hb hr (fun T9 hT9 hW9 => ⟨_, rfl, (by first | (rw [oN_t h_y1, oN_t h_y2]; simp only [on1]; rw [c_21, c_29, hv_37, hv_44] <;> rfl) | ((simp [on1, c_21, c_29, hv_37, hv_44, oN_t h_y1, oN_t h_y2]) <;> first | rfl | omega)), hT9⟩) (fun q h => by cases h) dX11_copy_74
      | some a_44 =>
        refine ho_topr (y := .ref a_44) rfl ?_
        have hra_44 : a_44 ∈ RL := grm _ _ hv_44
        have hso_44 : rs a_44 < 3 := (hRP _ hra_44).2.1
        have hzz_44 : rz a_44 ≤ 100 := (hRP _ hra_44).2.2
        refine lv_astore (lv' := [(7, .ref a_44), (6, .ref a_37), (0, .ref x), (1, .int (nI y1)), (2, .int i9), (3, .int (nI y2)), (4, .int j9), (5, .int n9)]) hx hb dX11_copy_47 hl (by decide) rfl (fun ls hl => ?_)
        refine lv_aload hx hb dX11_copy_49 (lv_at hl 1 rfl) ?_
        refine lv_ifnull hx hb dX11_copy_51 ?_
        refine lv_aload hx hb dX11_copy_54 (lv_at hl 0 rfl) ?_
        refine lv_ifnull hx hb dX11_copy_56 ?_
        refine lv_aload hx hb dX11_copy_59 (lv_at hl 0 rfl) ?_
        refine lv_aload hx hb dX11_copy_61 (lv_at hl 1 rfl) ?_
        refine va_getN (D := (dC, dI)) (ci := 8) (v := .int (nI (rs a_37))) (C := RX8) (T := TX8) (N := 2) hx hb hts (fun _ h => List.mem_cons_of_mem _ (List.mem_append_left _ (List.mem_append_right _ h))) hown hK ((hRP _ hra_37).1) 0 rfl rfl 0 (by decide) (CX.nf hCX 1 rfl) (fun _ h9 => h9) rfl dX11_copy_63 ?_
        refine vp_callSi ((va_runV (As := [.int (nI (rs a_37))]) (rest := []) ⟨hx, hb, hml, hown, hts⟩ (c_X8_isOf l dC dI cI cD cR a_44 (rc a_44) (rs a_44) (rz a_44) (rf a_44) (rs a_37) (by first | omega | assumption) (by first | omega | assumption) (by first | omega | assumption)) (cwV 1 hts gX11_copy_X8_isOf rfl rfl rfl (by decide +kernel) ⟨Nat.le_of_ble_eq_true rfl, Nat.le_of_ble_eq_true rfl⟩) (preV_R hCX (va_recv hK ((hRP _ hra_44).1) (ci := 8) (q0 := 0) rfl rfl) ((hRP _ hra_44).1)) rfl rfl hl.1 rfl (lv_room (Nat.le_of_ble_eq_true rfl)) dX11_copy_66 ⟨Nat.le_of_ble_eq_true (by first | rfl | decide), Nat.le_of_ble_eq_true (by first | rfl | decide)⟩).run) (fun r_66 hr_66 => ?_)
        subst hr_66
        refine ho_bne (tgt := 75) hx hb dX11_copy_69 (by decide) (fun c_69 => ?_) (fun c_69 => ?_)
        · refine lv_aload hx hb dX11_copy_75 (lv_at hl 1 rfl) ?_
          refine lv_iload_n hx hb dX11_copy_77 rfl (lv_at hl 4 rfl) ?_
          refine lv_iload hx hb dX11_copy_78 (lv_at hl 7 rfl) ?_
          refine vp_callSi ((va_runV (As := [.int i9, .int n9]) (rest := []) ⟨hx, hb, hml, hown, hts⟩ (c_X8_hasStretch l dC dI cI cD cR a_37 (rc a_37) (rs a_37) (rz a_37) (rf a_37) i9 n9 (by first | omega | assumption) (by first | omega | assumption)) (cwV 2 hts gX11_copy_X8_hasStretch rfl rfl rfl (by decide +kernel) ⟨Nat.le_of_ble_eq_true rfl, Nat.le_of_ble_eq_true rfl⟩) (preV_R hCX (va_recv hK ((hRP _ hra_37).1) (ci := 8) (q0 := 0) rfl rfl) ((hRP _ hra_37).1)) rfl rfl hl.1 rfl (lv_room (Nat.le_of_ble_eq_true rfl)) dX11_copy_80 ⟨Nat.le_of_ble_eq_true (by first | rfl | decide), Nat.le_of_ble_eq_true (by first | rfl | decide)⟩).run) (fun r_80 hr_80 => ?_)
          subst hr_80
          refine ho_beq (tgt := 98) hx hb dX11_copy_83 (by decide) (fun c_83 => ?_) (fun c_83 => ?_)
          · refine lv_bipush (v := (-13)) hx hb dX11_copy_98 (by decide +kernel) ?_
            exact W.iret (v := (-13)) hx hb hr (fun T9 hT9 hW9 => ⟨_, rfl, (by first | (rw [oN_t h_y1, oN_t h_y2]; simp only [on1]; rw [c_21, c_29, hv_37, hv_44] <;> rfl) | ((simp [on1, c_21, c_29, hv_37, hv_44, c_69, oN_t h_y1, oN_t h_y2]) <;> first | rfl | omega)), hT9⟩) (fun q h => by cases h) dX11_copy_100
          refine lv_aload hx hb dX11_copy_86 (lv_at hl 0 rfl) ?_
          refine lv_iload hx hb dX11_copy_88 (lv_at hl 6 rfl) ?_
          refine lv_iload hx hb dX11_copy_90 (lv_at hl 7 rfl) ?_
          refine vp_callSi ((va_runV (As := [.int j9, .int n9]) (rest := []) ⟨hx, hb, hml, hown, hts⟩ (c_X8_hasStretch l dC dI cI cD cR a_44 (rc a_44) (rs a_44) (rz a_44) (rf a_44) j9 n9 (by first | omega | assumption) (by first | omega | assumption)) (cwV 2 hts gX11_copy_X8_hasStretch rfl rfl rfl (by decide +kernel) ⟨Nat.le_of_ble_eq_true rfl, Nat.le_of_ble_eq_true rfl⟩) (preV_R hCX (va_recv hK ((hRP _ hra_44).1) (ci := 8) (q0 := 0) rfl rfl) ((hRP _ hra_44).1)) rfl rfl hl.1 rfl (lv_room (Nat.le_of_ble_eq_true rfl)) dX11_copy_92 ⟨Nat.le_of_ble_eq_true (by first | rfl | decide), Nat.le_of_ble_eq_true (by first | rfl | decide)⟩).run) (fun r_92 hr_92 => ?_)
          subst hr_92
          refine ho_bne (tgt := 101) hx hb dX11_copy_95 (by decide) (fun c_95 => ?_) (fun c_95 => ?_)
          · exact absurd (hno _ _ _ _ rfl rfl h_y1 h_y2 hv_37 hv_44 (of_decide_eq_true c_69).symm) (by rw [c_83, c_95]; decide)
          refine lv_bipush (v := (-13)) hx hb dX11_copy_98 (by decide +kernel) ?_
          exact W.iret (v := (-13)) hx hb hr (fun T9 hT9 hW9 => ⟨_, rfl, (by first | (rw [oN_t h_y1, oN_t h_y2]; simp only [on1]; rw [c_21, c_29, hv_37, hv_44] <;> rfl) | ((simp [on1, c_21, c_29, hv_37, hv_44, c_69, oN_t h_y1, oN_t h_y2]) <;> first | rfl | omega)), hT9⟩) (fun q h => by cases h) dX11_copy_100
        refine lv_bipush (v := (-12)) hx hb dX11_copy_72 (by decide +kernel) ?_
        exact W.iret (v := (-12)) hx hb hr (fun T9 hT9 hW9 => ⟨_, rfl, (by first | (rw [oN_t h_y1, oN_t h_y2]; simp only [on1]; rw [c_21, c_29, hv_37, hv_44] <;> rfl) | ((simp [on1, c_21, c_29, hv_37, hv_44, c_69, oN_t h_y1, oN_t h_y2]) <;> first | rfl | omega)), hT9⟩) (fun q h => by cases h) dX11_copy_74
  refine lv_bipush (v := (-11)) hx hb dX11_copy_32 (by decide +kernel) ?_
  exact W.iret (v := (-11)) hx hb hr (fun T9 hT9 hW9 => ⟨_, rfl, (by first | (rw [oN_t h_y1, oN_t h_y2]; simp only [on1]; rw [c_21, c_29, hv_37, hv_44] <;> rfl) | ((simp [on1, c_21, c_29, oN_t h_y1, oN_t h_y2]) <;> first | rfl | omega)), hT9⟩) (fun q h => by cases h) dX11_copy_34
