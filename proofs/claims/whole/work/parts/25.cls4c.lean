set_option maxHeartbeats 4000000 in
set_option maxRecDepth 100000 in
theorem c_X11_tell_t0 (l : Launch) (dC : Nat → ClassId) (dI : Nat → Nat → Nat) (cI cD cR : ClassId) (h a1 a2 a3 a4 a5 n d t al day : Nat) (nd : Nat → Nat) (mk si : Nat → Int32) (kn : Nat → Nat) (mb : Nat → Option Nat) (r rq so z : Nat) (f : Nat → Int32) (p9 : Nat) (a : Nat) (sz : Nat) (hn : n ≤ 9) (hd : d ≤ 6) (ht : t < 512) (hal : al < 64) (hday : day < 2 ^ 30) (gnd : ∀ i, nd i < 512) (gkn : ∀ j, kn j < 512) (hso : so < 3) (hz : z ≤ 100) (hc : atR z f p9 = nI 116) (hp9 : p9 < 1000) (h1 : dgO (atR z f (p9 + 1)) = some a) (ha : a < 10) (hc9 : (decide (a < n) && !t.testBit a) = false) : Met l yX11_tell wsX11_tell ({ frames := 3, cells := 0, slots := 0, locals := 63 }) (pcR dC dI cI cD cR [.ref h, .ref r, .int (nI p9)] (fun H => H.size = sz ∧ va_P (dC, dI) vwCl ((schW cI cD h a1 a2 a3 a4 a5 n d t al day nd mk si kn mb) ++ [(r, .inr (8, [.int (nI so), .ref rq])), (rq, .inl (cI, z, .inl f))]) H ∧ va_D (fun _ => True) ((schW cI cD h a1 a2 a3 a4 a5 n d t al day nd mk si kn mb) ++ [(r, .inr (8, [.int (nI so), .ref rq])), (rq, .inl (cI, z, .inl f))]))) (va_Qi (fun r (_ : Unit) => r = bI false) (fun (_ : Unit) T9 => va_P (dC, dI) vwCl ((schW cI cD h a1 a2 a3 a4 a5 n d t al day nd mk si kn mb) ++ [(r, .inr (8, [.int (nI so), .ref rq])), (rq, .inl (cI, z, .inl f))]) T9.heap ∧ va_D (va_A ((schW cI cD h a1 a2 a3 a4 a5 n d t al day nd mk si kn mb) ++ [(r, .inr (8, [.int (nI so), .ref rq])), (rq, .inl (cI, z, .inl f))]) sz) ((schW cI cD h a1 a2 a3 a4 a5 n d t al day nd mk si kn mb) ++ [(r, .inr (8, [.int (nI so), .ref rq])), (rq, .inl (cI, z, .inl f))])) (va_A ((schW cI cD h a1 a2 a3 a4 a5 n d t al day nd mk si kn mb) ++ [(r, .inr (8, [.int (nI so), .ref rq])), (rq, .inl (cI, z, .inl f))]) sz)) 0 0 (va_A ((schW cI cD h a1 a2 a3 a4 a5 n d t al day nd mk si kn mb) ++ [(r, .inr (8, [.int (nI so), .ref rq])), (rq, .inl (cI, z, .inl f))]) sz) := by
  refine Met.ofW (cc := cX11_tell) (maxL := 5) (ret := (some .boolean)) (by decide) rfl ?_
  intro p e s m args below meth c s₁ B hml hv
  obtain ⟨rfl, hH0, hCX⟩ := hv
  have hx := B.exec
  have hb := B.bytes
  have hr := B.returns
  have hts := atoms_spec (ws := wsX11_tell) B.pre
  have hown : s.vm.findClass RX11 = some m.cls := findClass_of_methodNamed B.named
  have hlocks := B.notSynchronized
  have hK := hCX.1
  obtain ⟨hsz, hP, hD0⟩ := hH0
  subst hsz
  have hD := hD0.self (sz := s.heap.size)
  generalize hAe : va_A ((schW cI cD h a1 a2 a3 a4 a5 n d t al day nd mk si kn mb) ++ [(r, .inr (8, [.int (nI so), .ref rq])), (rq, .inl (cI, z, .inl f))]) s.heap.size = A at hD ⊢
  have hA : ∀ q : Nat, s.heap.size ≤ q → A q := fun q h => by rw [← hAe]; exact Or.inr h
  have hS : va_S A s.heap s.heap [] := va_S.rf
  have hP : va_P (dC, dI) vwCl ((schW cI cD h a1 a2 a3 a4 a5 n d t al day nd mk si kn mb) ++ [(r, .inr (8, [.int (nI so), .ref rq])), (rq, .inl (cI, z, .inl f))]) s.heap := hP
  have hl := lv_entry ([.ref h, .ref r, .int (nI p9)]) (n := 5) (Nat.le_of_ble_eq_true rfl)
  rw [lg_entry_eq]
  generalize (lg_sl ([.ref h, .ref r, .int (nI p9)]) ++ List.replicate (5 - (lg_sl ([.ref h, .ref r, .int (nI p9)])).length) Slot.unset).toArray = ls at hl ⊢
  have hl : lv_has ls 5 [(0, .ref h), (1, .ref r), (2, .int (nI p9))] := hl
  refine lv_aload_n hx hb dX11_tell_0 rfl (lv_at hl 1 rfl) ?_
  refine lv_iload_n hx hb dX11_tell_1 rfl (lv_at hl 2 rfl) ?_
  refine lv_iconst (v := nI 1) hx hb dX11_tell_2 (by decide +kernel) ?_
  refine ho_iadd hx hb dX11_tell_3 ?_
  refine vp_callSi ((va_runV (As := [.int (nI (p9 + 1))]) (rest := []) ⟨hx, hb, hml, hown, hts⟩ (c_X8_at l dC dI cI cD cR r rq so z f (p9 + 1) (by first | omega | assumption | exact gnd _ | exact gkn _ | exact Nat.lt_trans (gkn _) (by decide) | exact Nat.lt_trans (gnd _) (by decide) | exact Nat.lt_of_le_of_lt (pcN_le _) (by decide)) (by first | omega | assumption | exact gnd _ | exact gkn _ | exact Nat.lt_trans (gkn _) (by decide) | exact Nat.lt_trans (gnd _) (by decide) | exact Nat.lt_of_le_of_lt (pcN_le _) (by decide)) (by first | omega | assumption | exact gnd _ | exact gkn _ | exact Nat.lt_trans (gkn _) (by decide) | exact Nat.lt_trans (gnd _) (by decide) | exact Nat.lt_of_le_of_lt (pcN_le _) (by decide))) (cwV 1 hts gX11_tell_X8_at rfl rfl rfl (by decide +kernel) ⟨Nat.le_of_ble_eq_true rfl, Nat.le_of_ble_eq_true rfl⟩) (preV_R hCX (va_recv hK hP (ci := 8) (q0 := 6) rfl rfl) ((hP.sub (ws' := [(r, .inr (8, [.int (nI so), .ref rq])), (rq, .inl (cI, z, .inl f))]) [6, 7] rfl))) rfl rfl hl.1 rfl (lv_room (Nat.le_of_ble_eq_true rfl)) dX11_tell_4 ⟨Nat.le_of_ble_eq_true (by first | rfl | decide), Nat.le_of_ble_eq_true (by first | rfl | decide)⟩).run) (fun r_4 hr_4 => ?_)
  subst hr_4
  refine vp_callSi ((va_runS (As := [.int (atR z f (p9 + 1))]) (rest := []) ⟨hx, hb, hml, hown, hts⟩ (c_X11_digit l dC dI cI cD cR (atR z f (p9 + 1))) (va_cwS 1 hts gX11_tell_X11_digit rfl rfl rfl (by decide +kernel) ⟨Nat.le_of_ble_eq_true rfl, Nat.le_of_ble_eq_true rfl⟩) (preS_R hCX (trivial)) rfl rfl hl.1 rfl (lv_room (Nat.le_of_ble_eq_true rfl)) dX11_tell_7 ⟨Nat.le_of_ble_eq_true (by first | rfl | decide), Nat.le_of_ble_eq_true (by first | rfl | decide)⟩).run) (fun r_7 hr_7 => ?_)
  subst hr_7
  refine ho_tope (y := nI a) (by rw [h1]; rfl) ?_
  refine lv_istore_n (lv' := [(3, .int (nI a)), (0, .ref h), (1, .ref r), (2, .int (nI p9))]) hx hb dX11_tell_10 rfl hl (by decide) rfl (fun ls hl => ?_)
  refine lv_aload_n hx hb dX11_tell_11 rfl (lv_at hl 2 rfl) ?_
  refine lv_iload_n hx hb dX11_tell_12 rfl (lv_at hl 3 rfl) ?_
  refine lv_iconst (v := nI 2) hx hb dX11_tell_13 (by decide +kernel) ?_
  refine ho_iadd hx hb dX11_tell_14 ?_
  refine vp_callSi ((va_runV (As := [.int (nI (p9 + 2))]) (rest := []) ⟨hx, hb, hml, hown, hts⟩ (c_X8_at l dC dI cI cD cR r rq so z f (p9 + 2) (by first | omega | assumption | exact gnd _ | exact gkn _ | exact Nat.lt_trans (gkn _) (by decide) | exact Nat.lt_trans (gnd _) (by decide) | exact Nat.lt_of_le_of_lt (pcN_le _) (by decide)) (by first | omega | assumption | exact gnd _ | exact gkn _ | exact Nat.lt_trans (gkn _) (by decide) | exact Nat.lt_trans (gnd _) (by decide) | exact Nat.lt_of_le_of_lt (pcN_le _) (by decide)) (by first | omega | assumption | exact gnd _ | exact gkn _ | exact Nat.lt_trans (gkn _) (by decide) | exact Nat.lt_trans (gnd _) (by decide) | exact Nat.lt_of_le_of_lt (pcN_le _) (by decide))) (cwV 1 hts gX11_tell_X8_at rfl rfl rfl (by decide +kernel) ⟨Nat.le_of_ble_eq_true rfl, Nat.le_of_ble_eq_true rfl⟩) (preV_R hCX (va_recv hK hP (ci := 8) (q0 := 6) rfl rfl) ((hP.sub (ws' := [(r, .inr (8, [.int (nI so), .ref rq])), (rq, .inl (cI, z, .inl f))]) [6, 7] rfl))) rfl rfl hl.1 rfl (lv_room (Nat.le_of_ble_eq_true rfl)) dX11_tell_15 ⟨Nat.le_of_ble_eq_true (by first | rfl | decide), Nat.le_of_ble_eq_true (by first | rfl | decide)⟩).run) (fun r_15 hr_15 => ?_)
  subst hr_15
  refine vp_callSi ((va_runS (As := [.int (atR z f (p9 + 2))]) (rest := []) ⟨hx, hb, hml, hown, hts⟩ (c_X11_digit l dC dI cI cD cR (atR z f (p9 + 2))) (va_cwS 1 hts gX11_tell_X11_digit rfl rfl rfl (by decide +kernel) ⟨Nat.le_of_ble_eq_true rfl, Nat.le_of_ble_eq_true rfl⟩) (preS_R hCX (trivial)) rfl rfl hl.1 rfl (lv_room (Nat.le_of_ble_eq_true rfl)) dX11_tell_18 ⟨Nat.le_of_ble_eq_true (by first | rfl | decide), Nat.le_of_ble_eq_true (by first | rfl | decide)⟩).run) (fun r_18 hr_18 => ?_)
  subst hr_18
  refine lv_istore (lv' := [(4, .int (oM (dgO (atR z f (p9 + 2))))), (3, .int (nI a)), (0, .ref h), (1, .ref r), (2, .int (nI p9))]) hx hb dX11_tell_21 hl (by decide) rfl (fun ls hl => ?_)
  refine lv_aload_n hx hb dX11_tell_23 rfl (lv_at hl 3 rfl) ?_
  refine lv_iload_n hx hb dX11_tell_24 rfl (lv_at hl 4 rfl) ?_
  refine vp_callSi ((va_runV (As := [.int (nI p9)]) (rest := []) ⟨hx, hb, hml, hown, hts⟩ (c_X8_at l dC dI cI cD cR r rq so z f p9 (by first | omega | assumption | exact gnd _ | exact gkn _ | exact Nat.lt_trans (gkn _) (by decide) | exact Nat.lt_trans (gnd _) (by decide) | exact Nat.lt_of_le_of_lt (pcN_le _) (by decide)) (by first | omega | assumption | exact gnd _ | exact gkn _ | exact Nat.lt_trans (gkn _) (by decide) | exact Nat.lt_trans (gnd _) (by decide) | exact Nat.lt_of_le_of_lt (pcN_le _) (by decide)) (by first | omega | assumption | exact gnd _ | exact gkn _ | exact Nat.lt_trans (gkn _) (by decide) | exact Nat.lt_trans (gnd _) (by decide) | exact Nat.lt_of_le_of_lt (pcN_le _) (by decide))) (cwV 1 hts gX11_tell_X8_at rfl rfl rfl (by decide +kernel) ⟨Nat.le_of_ble_eq_true rfl, Nat.le_of_ble_eq_true rfl⟩) (preV_R hCX (va_recv hK hP (ci := 8) (q0 := 6) rfl rfl) ((hP.sub (ws' := [(r, .inr (8, [.int (nI so), .ref rq])), (rq, .inl (cI, z, .inl f))]) [6, 7] rfl))) rfl rfl hl.1 rfl (lv_room (Nat.le_of_ble_eq_true rfl)) dX11_tell_25 ⟨Nat.le_of_ble_eq_true (by first | rfl | decide), Nat.le_of_ble_eq_true (by first | rfl | decide)⟩).run) (fun r_25 hr_25 => ?_)
  subst hr_25
  refine ho_tope (y := nI 116) hc ?_
  refine lv_lookup (tgt := 101) (off := 73) hx hb dX11_tell_28 (by decide +kernel) (by decide +kernel) (by decide) ?_
  refine lv_aload_n hx hb dX11_tell_101 rfl (lv_at hl 2 rfl) ?_
  refine lv_iload_n hx hb dX11_tell_102 rfl (lv_at hl 1 rfl) ?_
  have hPc := hP.sub (ws' := (schW cI cD h a1 a2 a3 a4 a5 n d t al day nd mk si kn mb)) [0, 1, 2, 3, 4, 5] rfl
  have hDc := hD.sub (ws' := (schW cI cD h a1 a2 a3 a4 a5 n d t al day nd mk si kn mb)) [0, 1, 2, 3, 4, 5] (by decide) rfl
  have hFc := va_free (wc := (schW cI cD h a1 a2 a3 a4 a5 n d t al day nd mk si kn mb)) hD hS hA [0, 1, 2, 3, 4, 5] rfl
  refine va_calli (va_runV (As := [.int (nI a)]) (rest := []) ⟨hx, hb, hml, hown, hts⟩ (c_X9_found l dC dI cI cD cR h a1 a2 a3 a4 a5 n d t al day nd mk si kn mb a s.heap.size (by first | omega | assumption | exact gnd _ | exact gkn _ | exact Nat.lt_trans (gkn _) (by decide) | exact Nat.lt_trans (gnd _) (by decide) | exact Nat.lt_of_le_of_lt (pcN_le _) (by decide)) (by first | omega | assumption | exact gnd _ | exact gkn _ | exact Nat.lt_trans (gkn _) (by decide) | exact Nat.lt_trans (gnd _) (by decide) | exact Nat.lt_of_le_of_lt (pcN_le _) (by decide)) (by first | omega | assumption | exact gnd _ | exact gkn _ | exact Nat.lt_trans (gkn _) (by decide) | exact Nat.lt_trans (gnd _) (by decide) | exact Nat.lt_of_le_of_lt (pcN_le _) (by decide)) (by first | omega | assumption | exact gnd _ | exact gkn _ | exact Nat.lt_trans (gkn _) (by decide) | exact Nat.lt_trans (gnd _) (by decide) | exact Nat.lt_of_le_of_lt (pcN_le _) (by decide)) (by first | omega | assumption | exact gnd _ | exact gkn _ | exact Nat.lt_trans (gkn _) (by decide) | exact Nat.lt_trans (gnd _) (by decide) | exact Nat.lt_of_le_of_lt (pcN_le _) (by decide)) gnd gkn (by first | omega | assumption | exact gnd _ | exact gkn _ | exact Nat.lt_trans (gkn _) (by decide) | exact Nat.lt_trans (gnd _) (by decide) | exact Nat.lt_of_le_of_lt (pcN_le _) (by decide))) (cwV 1 hts gX11_tell_X9_found rfl rfl rfl (by decide +kernel) ⟨Nat.le_of_ble_eq_true rfl, Nat.le_of_ble_eq_true rfl⟩) (preV_R hCX (va_recv hK hP (ci := 9) (q0 := 0) rfl rfl) ⟨rfl, hPc, hDc.weaken (fun _ _ _ _ => trivial)⟩) rfl rfl hl.1 rfl (lv_room (Nat.le_of_ble_eq_true rfl)) dX11_tell_103 ⟨Nat.le_of_ble_eq_true (by first | rfl | decide), Nat.le_of_ble_eq_true (by first | rfl | decide)⟩) hS (fun q _ h => hFc q h) hFc (fun r_103 u T8 H1 locs hT8 hvm hw hB hz1 hk1 hS => ?_)
  obtain ⟨hP1, hD1⟩ := hB
  rw [hT8] at hP1
  obtain ⟨hP, hD⟩ := va_join (wr := [(r, .inr (8, [.int (nI so), .ref rq])), (rq, .inl (cI, z, .inl f))]) (w1 := (schW cI cD h a1 a2 a3 a4 a5 n d (bif (decide (a < n) && !t.testBit a) then t ||| 2 ^ a else t) al day nd (bif (decide (a < n) && !t.testBit a) then upd mk a (-4) else mk) (bif (decide (a < n) && !t.testBit a) then upd si a (nI day) else si) kn mb)) hP hD [0, 1, 2, 3, 4, 5] [6, 7] rfl rfl (by decide) (by decide) hk1 hFc hP1 hD1
  generalize H1 = H at hP hS ⊢
  have hP := hP.sub (ws' := (schW cI cD h a1 a2 a3 a4 a5 n d (bif (decide (a < n) && !t.testBit a) then t ||| 2 ^ a else t) al day nd (bif (decide (a < n) && !t.testBit a) then upd mk a (-4) else mk) (bif (decide (a < n) && !t.testBit a) then upd si a (nI day) else si) kn mb) ++ [(r, .inr (8, [.int (nI so), .ref rq])), (rq, .inl (cI, z, .inl f))]) [2, 3, 4, 5, 6, 7, 0, 1] rfl
  have hD := hD.sub (ws' := (schW cI cD h a1 a2 a3 a4 a5 n d (bif (decide (a < n) && !t.testBit a) then t ||| 2 ^ a else t) al day nd (bif (decide (a < n) && !t.testBit a) then upd mk a (-4) else mk) (bif (decide (a < n) && !t.testBit a) then upd si a (nI day) else si) kn mb) ++ [(r, .inr (8, [.int (nI so), .ref rq])), (rq, .inl (cI, z, .inl f))]) [2, 3, 4, 5, 6, 7, 0, 1] (by decide) rfl
  subst hw
  have hW9 : ((schW cI cD h a1 a2 a3 a4 a5 n d (bif (decide (a < n) && !t.testBit a) then t ||| 2 ^ a else t) al day nd (bif (decide (a < n) && !t.testBit a) then upd mk a (-4) else mk) (bif (decide (a < n) && !t.testBit a) then upd si a (nI day) else si) kn mb) ++ [(r, .inr (8, [.int (nI so), .ref rq])), (rq, .inl (cI, z, .inl f))] : va_W) = (schW cI cD h a1 a2 a3 a4 a5 n d t al day nd mk si kn mb) ++ [(r, .inr (8, [.int (nI so), .ref rq])), (rq, .inl (cI, z, .inl f))] := by simp only [hc9, cond_true, cond_false, Bool.true_and, Bool.false_and]
  rw [hW9] at hP hD
  exact W.zret (v := bI (decide (a < n) && !t.testBit a)) hx hb hr (bI_nar _) (fun T9 hT9 hW9 => ⟨⟨_, (), rfl, (congrArg bI (by first | exact hc9 | (rw [hc9]; rfl) | rfl)), by rw [hT9]; exact hP, hD⟩, hS.F hT9⟩) hS.2.2 dX11_tell_106
set_option maxHeartbeats 4000000 in
set_option maxRecDepth 100000 in
theorem c_X11_tell_d1 (l : Launch) (dC : Nat → ClassId) (dI : Nat → Nat → Nat) (cI cD cR : ClassId) (h a1 a2 a3 a4 a5 n d t al day : Nat) (nd : Nat → Nat) (mk si : Nat → Int32) (kn : Nat → Nat) (mb : Nat → Option Nat) (r rq so z : Nat) (f : Nat → Int32) (p9 : Nat) (a : Nat) (b : Nat) (DL : List Nat) (kd fg : Nat → Nat) (sz : Nat) (hn : n ≤ 9) (hd : d ≤ 6) (ht : t < 512) (hal : al < 64) (hday : day < 2 ^ 30) (gnd : ∀ i, nd i < 512) (gkn : ∀ j, kn j < 512) (hso : so < 3) (hz : z ≤ 100) (hc : atR z f p9 = nI 100) (hp9 : p9 < 1000) (h1 : dgO (atR z f (p9 + 1)) = some a) (ha : a < 10) (h2 : dgO (atR z f (p9 + 2)) = some b) (hb9 : b < 10) (ha8 : a < 8) (hc9 : decide (d < 6) = true) (gmb : ∀ j a, mb j = some a → a ∈ DL) (gro : ∀ a ∈ DL, ¬ va_A ((schW cI cD h a1 a2 a3 a4 a5 n d t al day nd mk si kn mb) ++ [(r, .inr (8, [.int (nI so), .ref rq])), (rq, .inl (cI, z, .inl f))]) sz a) : Met l yX11_tell wsX11_tell ({ frames := 5, cells := 1, slots := 2, locals := 99 }) (pcR dC dI cI cD cR [.ref h, .ref r, .int (nI p9)] (fun H => H.size = sz ∧ va_P (dC, dI) vwCl ((schW cI cD h a1 a2 a3 a4 a5 n d t al day nd mk si kn mb) ++ [(r, .inr (8, [.int (nI so), .ref rq])), (rq, .inl (cI, z, .inl f))]) H ∧ va_D (fun _ => True) ((schW cI cD h a1 a2 a3 a4 a5 n d t al day nd mk si kn mb) ++ [(r, .inr (8, [.int (nI so), .ref rq])), (rq, .inl (cI, z, .inl f))]) ∧ DP dC dI DL kd fg H)) (va_Qi (fun r (_ : Nat) => r = bI true) (fun (u9 : Nat) T9 => va_P (dC, dI) vwCl ((schW cI cD h a1 a2 a3 a4 a5 n (d + 1) t (al ||| 2 ^ d) day nd mk si (va_up kn d 0) (va_up mb d (some u9))) ++ [(r, .inr (8, [.int (nI so), .ref rq])), (rq, .inl (cI, z, .inl f))] ++ [(u9, dnE a b)]) T9.heap ∧ va_D (va_A ((schW cI cD h a1 a2 a3 a4 a5 n d t al day nd mk si kn mb) ++ [(r, .inr (8, [.int (nI so), .ref rq])), (rq, .inl (cI, z, .inl f))]) sz) ((schW cI cD h a1 a2 a3 a4 a5 n (d + 1) t (al ||| 2 ^ d) day nd mk si (va_up kn d 0) (va_up mb d (some u9))) ++ [(r, .inr (8, [.int (nI so), .ref rq])), (rq, .inl (cI, z, .inl f))] ++ [(u9, dnE a b)])) (va_A ((schW cI cD h a1 a2 a3 a4 a5 n d t al day nd mk si kn mb) ++ [(r, .inr (8, [.int (nI so), .ref rq])), (rq, .inl (cI, z, .inl f))]) sz)) 1 2 (va_A ((schW cI cD h a1 a2 a3 a4 a5 n d t al day nd mk si kn mb) ++ [(r, .inr (8, [.int (nI so), .ref rq])), (rq, .inl (cI, z, .inl f))]) sz) := by
  refine Met.ofW (cc := cX11_tell) (maxL := 5) (ret := (some .boolean)) (by decide) rfl ?_
  intro p e s m args below meth c s₁ B hml hv
  obtain ⟨rfl, hH0, hCX⟩ := hv
  have hx := B.exec
  have hb := B.bytes
  have hr := B.returns
  have hts := atoms_spec (ws := wsX11_tell) B.pre
  have hown : s.vm.findClass RX11 = some m.cls := findClass_of_methodNamed B.named
  have hlocks := B.notSynchronized
  have hK := hCX.1
  obtain ⟨hsz, hP, hD0, hDP0⟩ := hH0
  subst hsz
  have hD := hD0.self (sz := s.heap.size)
  generalize hAe : va_A ((schW cI cD h a1 a2 a3 a4 a5 n d t al day nd mk si kn mb) ++ [(r, .inr (8, [.int (nI so), .ref rq])), (rq, .inl (cI, z, .inl f))]) s.heap.size = A at hD ⊢
  have hA : ∀ q : Nat, s.heap.size ≤ q → A q := fun q h => by rw [← hAe]; exact Or.inr h
  have hS : va_S A s.heap s.heap [] := va_S.rf
  have hP : va_P (dC, dI) vwCl ((schW cI cD h a1 a2 a3 a4 a5 n d t al day nd mk si kn mb) ++ [(r, .inr (8, [.int (nI so), .ref rq])), (rq, .inl (cI, z, .inl f))]) s.heap := hP
  have hro : ∀ a ∈ DL, ¬ A a := by rw [← hAe]; exact gro
  have hDP := hDP0
  have hl := lv_entry ([.ref h, .ref r, .int (nI p9)]) (n := 5) (Nat.le_of_ble_eq_true rfl)
  rw [lg_entry_eq]
  generalize (lg_sl ([.ref h, .ref r, .int (nI p9)]) ++ List.replicate (5 - (lg_sl ([.ref h, .ref r, .int (nI p9)])).length) Slot.unset).toArray = ls at hl ⊢
  have hl : lv_has ls 5 [(0, .ref h), (1, .ref r), (2, .int (nI p9))] := hl
  refine lv_aload_n hx hb dX11_tell_0 rfl (lv_at hl 1 rfl) ?_
  refine lv_iload_n hx hb dX11_tell_1 rfl (lv_at hl 2 rfl) ?_
  refine lv_iconst (v := nI 1) hx hb dX11_tell_2 (by decide +kernel) ?_
  refine ho_iadd hx hb dX11_tell_3 ?_
  refine vp_callSi ((va_runV (As := [.int (nI (p9 + 1))]) (rest := []) ⟨hx, hb, hml, hown, hts⟩ (c_X8_at l dC dI cI cD cR r rq so z f (p9 + 1) (by first | omega | assumption | exact gnd _ | exact gkn _ | exact Nat.lt_trans (gkn _) (by decide) | exact Nat.lt_trans (gnd _) (by decide) | exact Nat.lt_of_le_of_lt (pcN_le _) (by decide)) (by first | omega | assumption | exact gnd _ | exact gkn _ | exact Nat.lt_trans (gkn _) (by decide) | exact Nat.lt_trans (gnd _) (by decide) | exact Nat.lt_of_le_of_lt (pcN_le _) (by decide)) (by first | omega | assumption | exact gnd _ | exact gkn _ | exact Nat.lt_trans (gkn _) (by decide) | exact Nat.lt_trans (gnd _) (by decide) | exact Nat.lt_of_le_of_lt (pcN_le _) (by decide))) (cwV 1 hts gX11_tell_X8_at rfl rfl rfl (by decide +kernel) ⟨Nat.le_of_ble_eq_true rfl, Nat.le_of_ble_eq_true rfl⟩) (preV_R hCX (va_recv hK hP (ci := 8) (q0 := 6) rfl rfl) ((hP.sub (ws' := [(r, .inr (8, [.int (nI so), .ref rq])), (rq, .inl (cI, z, .inl f))]) [6, 7] rfl))) rfl rfl hl.1 rfl (lv_room (Nat.le_of_ble_eq_true rfl)) dX11_tell_4 ⟨Nat.le_of_ble_eq_true (by first | rfl | decide), Nat.le_of_ble_eq_true (by first | rfl | decide)⟩).run) (fun r_4 hr_4 => ?_)
  subst hr_4
  refine vp_callSi ((va_runS (As := [.int (atR z f (p9 + 1))]) (rest := []) ⟨hx, hb, hml, hown, hts⟩ (c_X11_digit l dC dI cI cD cR (atR z f (p9 + 1))) (va_cwS 1 hts gX11_tell_X11_digit rfl rfl rfl (by decide +kernel) ⟨Nat.le_of_ble_eq_true rfl, Nat.le_of_ble_eq_true rfl⟩) (preS_R hCX (trivial)) rfl rfl hl.1 rfl (lv_room (Nat.le_of_ble_eq_true rfl)) dX11_tell_7 ⟨Nat.le_of_ble_eq_true (by first | rfl | decide), Nat.le_of_ble_eq_true (by first | rfl | decide)⟩).run) (fun r_7 hr_7 => ?_)
  subst hr_7
  refine ho_tope (y := nI a) (by rw [h1]; rfl) ?_
  refine lv_istore_n (lv' := [(3, .int (nI a)), (0, .ref h), (1, .ref r), (2, .int (nI p9))]) hx hb dX11_tell_10 rfl hl (by decide) rfl (fun ls hl => ?_)
  refine lv_aload_n hx hb dX11_tell_11 rfl (lv_at hl 2 rfl) ?_
  refine lv_iload_n hx hb dX11_tell_12 rfl (lv_at hl 3 rfl) ?_
  refine lv_iconst (v := nI 2) hx hb dX11_tell_13 (by decide +kernel) ?_
  refine ho_iadd hx hb dX11_tell_14 ?_
  refine vp_callSi ((va_runV (As := [.int (nI (p9 + 2))]) (rest := []) ⟨hx, hb, hml, hown, hts⟩ (c_X8_at l dC dI cI cD cR r rq so z f (p9 + 2) (by first | omega | assumption | exact gnd _ | exact gkn _ | exact Nat.lt_trans (gkn _) (by decide) | exact Nat.lt_trans (gnd _) (by decide) | exact Nat.lt_of_le_of_lt (pcN_le _) (by decide)) (by first | omega | assumption | exact gnd _ | exact gkn _ | exact Nat.lt_trans (gkn _) (by decide) | exact Nat.lt_trans (gnd _) (by decide) | exact Nat.lt_of_le_of_lt (pcN_le _) (by decide)) (by first | omega | assumption | exact gnd _ | exact gkn _ | exact Nat.lt_trans (gkn _) (by decide) | exact Nat.lt_trans (gnd _) (by decide) | exact Nat.lt_of_le_of_lt (pcN_le _) (by decide))) (cwV 1 hts gX11_tell_X8_at rfl rfl rfl (by decide +kernel) ⟨Nat.le_of_ble_eq_true rfl, Nat.le_of_ble_eq_true rfl⟩) (preV_R hCX (va_recv hK hP (ci := 8) (q0 := 6) rfl rfl) ((hP.sub (ws' := [(r, .inr (8, [.int (nI so), .ref rq])), (rq, .inl (cI, z, .inl f))]) [6, 7] rfl))) rfl rfl hl.1 rfl (lv_room (Nat.le_of_ble_eq_true rfl)) dX11_tell_15 ⟨Nat.le_of_ble_eq_true (by first | rfl | decide), Nat.le_of_ble_eq_true (by first | rfl | decide)⟩).run) (fun r_15 hr_15 => ?_)
  subst hr_15
  refine vp_callSi ((va_runS (As := [.int (atR z f (p9 + 2))]) (rest := []) ⟨hx, hb, hml, hown, hts⟩ (c_X11_digit l dC dI cI cD cR (atR z f (p9 + 2))) (va_cwS 1 hts gX11_tell_X11_digit rfl rfl rfl (by decide +kernel) ⟨Nat.le_of_ble_eq_true rfl, Nat.le_of_ble_eq_true rfl⟩) (preS_R hCX (trivial)) rfl rfl hl.1 rfl (lv_room (Nat.le_of_ble_eq_true rfl)) dX11_tell_18 ⟨Nat.le_of_ble_eq_true (by first | rfl | decide), Nat.le_of_ble_eq_true (by first | rfl | decide)⟩).run) (fun r_18 hr_18 => ?_)
  subst hr_18
  refine ho_tope (y := nI b) (by rw [h2]; rfl) ?_
  refine lv_istore (lv' := [(4, .int (nI b)), (3, .int (nI a)), (0, .ref h), (1, .ref r), (2, .int (nI p9))]) hx hb dX11_tell_21 hl (by decide) rfl (fun ls hl => ?_)
  refine lv_aload_n hx hb dX11_tell_23 rfl (lv_at hl 3 rfl) ?_
  refine lv_iload_n hx hb dX11_tell_24 rfl (lv_at hl 4 rfl) ?_
  refine vp_callSi ((va_runV (As := [.int (nI p9)]) (rest := []) ⟨hx, hb, hml, hown, hts⟩ (c_X8_at l dC dI cI cD cR r rq so z f p9 (by first | omega | assumption | exact gnd _ | exact gkn _ | exact Nat.lt_trans (gkn _) (by decide) | exact Nat.lt_trans (gnd _) (by decide) | exact Nat.lt_of_le_of_lt (pcN_le _) (by decide)) (by first | omega | assumption | exact gnd _ | exact gkn _ | exact Nat.lt_trans (gkn _) (by decide) | exact Nat.lt_trans (gnd _) (by decide) | exact Nat.lt_of_le_of_lt (pcN_le _) (by decide)) (by first | omega | assumption | exact gnd _ | exact gkn _ | exact Nat.lt_trans (gkn _) (by decide) | exact Nat.lt_trans (gnd _) (by decide) | exact Nat.lt_of_le_of_lt (pcN_le _) (by decide))) (cwV 1 hts gX11_tell_X8_at rfl rfl rfl (by decide +kernel) ⟨Nat.le_of_ble_eq_true rfl, Nat.le_of_ble_eq_true rfl⟩) (preV_R hCX (va_recv hK hP (ci := 8) (q0 := 6) rfl rfl) ((hP.sub (ws' := [(r, .inr (8, [.int (nI so), .ref rq])), (rq, .inl (cI, z, .inl f))]) [6, 7] rfl))) rfl rfl hl.1 rfl (lv_room (Nat.le_of_ble_eq_true rfl)) dX11_tell_25 ⟨Nat.le_of_ble_eq_true (by first | rfl | decide), Nat.le_of_ble_eq_true (by first | rfl | decide)⟩).run) (fun r_25 hr_25 => ?_)
  subst hr_25
  refine ho_tope (y := nI 100) hc ?_
  refine lv_lookup (tgt := 107) (off := 79) hx hb dX11_tell_28 (by decide +kernel) (by decide +kernel) (by decide) ?_
  refine lv_aload_n hx hb dX11_tell_107 rfl (lv_at hl 2 rfl) ?_
  refine lv_iload_n hx hb dX11_tell_108 rfl (lv_at hl 1 rfl) ?_
  refine lv_iload hx hb dX11_tell_109 (lv_at hl 0 rfl) ?_
  have hDPo := DP.keep hDP0 hro hS
  have hFc := va_free (wc := []) hD hS hA [] rfl
  refine va_callr (va_runS (As := [.int (nI a), .int (nI b)]) (rest := [.ref h]) ⟨hx, hb, hml, hown, hts⟩ (c_X11_newDenier l dC dI cI cD cR a b s.heap.size (by first | omega | assumption | exact gnd _ | exact gkn _) (by first | omega | assumption | exact gnd _ | exact gkn _)) (va_cwS 2 hts gX11_tell_X11_newDenier rfl rfl rfl (by decide +kernel) ⟨Nat.le_of_ble_eq_true rfl, Nat.le_of_ble_eq_true rfl⟩) (preS_R hCX ⟨rfl, (fun k q h => by cases h), ⟨fun i j p q h => (by cases h), fun k q h => (by cases h)⟩⟩) rfl rfl hl.1 rfl (lv_room (Nat.le_of_ble_eq_true rfl)) dX11_tell_111 ⟨(by first | decide | exact Nat.le_of_ble_eq_true rfl | (dsimp only; omega) | omega | (simp only [headSpec]; omega)), (by first | decide | exact Nat.le_of_ble_eq_true rfl | (dsimp only; omega) | omega | (simp only [headSpec]; omega))⟩) hS (fun q _ h => hFc q h) hFc (fun u q_111 T8 H1 locs hT8 hvm hw hB hz1 hk1 hS => ?_)
  obtain ⟨hP1, hD1⟩ := hB
  rw [hT8] at hP1
  have hnq := fr_no hDPo hD1
  obtain ⟨hP, hD⟩ := va_join (wr := (schW cI cD h a1 a2 a3 a4 a5 n d t al day nd mk si kn mb) ++ [(r, .inr (8, [.int (nI so), .ref rq])), (rq, .inl (cI, z, .inl f))]) (w1 := [(q_111, dnE a b)]) hP hD [] [0, 1, 2, 3, 4, 5, 6, 7] rfl rfl (by decide) (by decide) hk1 hFc hP1 hD1
  generalize H1 = H at hP hS ⊢
  have hP : va_P (dC, dI) vwCl ((schW cI cD h a1 a2 a3 a4 a5 n d t al day nd mk si kn mb) ++ [(r, .inr (8, [.int (nI so), .ref rq])), (rq, .inl (cI, z, .inl f))] ++ [(q_111, dnE a b)]) H := hP
  have hD : va_D A ((schW cI cD h a1 a2 a3 a4 a5 n d t al day nd mk si kn mb) ++ [(r, .inr (8, [.int (nI so), .ref rq])), (rq, .inl (cI, z, .inl f))] ++ [(q_111, dnE a b)]) := hD
  have hPc := hP.sub (ws' := (schW cI cD h a1 a2 a3 a4 a5 n d t al day nd mk si kn mb)) [0, 1, 2, 3, 4, 5] rfl
  have hDc := hD.sub (ws' := (schW cI cD h a1 a2 a3 a4 a5 n d t al day nd mk si kn mb)) [0, 1, 2, 3, 4, 5] (by decide) rfl
  have hFc := va_free (wc := (schW cI cD h a1 a2 a3 a4 a5 n d t al day nd mk si kn mb)) hD hS hA [0, 1, 2, 3, 4, 5] rfl
  refine va_calli (va_runV (As := [.ref q_111]) (rest := []) ⟨hx, hb, hml, hown, hts⟩ (c_X9_join l dC dI cI cD cR h a1 a2 a3 a4 a5 n d t al day nd mk si kn mb q_111 (q_111 :: DL) (va_up kd q_111 a) (va_up fg q_111 b) H.size (by first | omega | assumption | exact gnd _ | exact gkn _ | exact Nat.lt_trans (gkn _) (by decide) | exact Nat.lt_trans (gnd _) (by decide) | exact Nat.lt_of_le_of_lt (pcN_le _) (by decide)) (by first | omega | assumption | exact gnd _ | exact gkn _ | exact Nat.lt_trans (gkn _) (by decide) | exact Nat.lt_trans (gnd _) (by decide) | exact Nat.lt_of_le_of_lt (pcN_le _) (by decide)) (by first | omega | assumption | exact gnd _ | exact gkn _ | exact Nat.lt_trans (gkn _) (by decide) | exact Nat.lt_trans (gnd _) (by decide) | exact Nat.lt_of_le_of_lt (pcN_le _) (by decide)) (by first | omega | assumption | exact gnd _ | exact gkn _ | exact Nat.lt_trans (gkn _) (by decide) | exact Nat.lt_trans (gnd _) (by decide) | exact Nat.lt_of_le_of_lt (pcN_le _) (by decide)) (by first | omega | assumption | exact gnd _ | exact gkn _ | exact Nat.lt_trans (gkn _) (by decide) | exact Nat.lt_trans (gnd _) (by decide) | exact Nat.lt_of_le_of_lt (pcN_le _) (by decide)) gnd gkn List.mem_cons_self (fun j a h => List.mem_cons_of_mem _ (gmb j a h))) (cwV 1 hts gX11_tell_X9_join rfl rfl rfl (by decide +kernel) ⟨Nat.le_of_ble_eq_true rfl, Nat.le_of_ble_eq_true rfl⟩) (preV_R hCX (va_recv hK hP (ci := 9) (q0 := 0) rfl rfl) ⟨rfl, hPc, hDc.weaken (fun _ _ _ _ => trivial), (DP.more (DP.keep hDP0 hro hS) hnq (hP.sub (ws' := [(q_111, dnE a b)]) [8] rfl) ha8 hb9)⟩) rfl rfl hl.1 rfl (lv_room (Nat.le_of_ble_eq_true rfl)) dX11_tell_114 ⟨by first | decide | exact Nat.le_of_ble_eq_true rfl | (dsimp only; omega), by first | decide | exact Nat.le_of_ble_eq_true rfl | (dsimp only; omega)⟩) hS (fun q _ h => hFc q h) hFc (fun r_114 u T8 H1 locs hT8 hvm hw hB hz1 hk1 hS => ?_)
  obtain ⟨hP1, hD1⟩ := hB
  rw [hT8] at hP1
  obtain ⟨hP, hD⟩ := va_join (wr := [(r, .inr (8, [.int (nI so), .ref rq])), (rq, .inl (cI, z, .inl f))] ++ [(q_111, dnE a b)]) (w1 := (schW cI cD h a1 a2 a3 a4 a5 n (bif decide (d < 6) then d + 1 else d) t (bif decide (d < 6) then al ||| 2 ^ d else al) day nd mk si (bif decide (d < 6) then va_up kn d 0 else kn) (bif decide (d < 6) then va_up mb d (some q_111) else mb))) hP hD [0, 1, 2, 3, 4, 5] [6, 7, 8] rfl rfl (by decide) (by decide) hk1 hFc hP1 hD1
  generalize H1 = H at hP hS ⊢
  have hP := hP.sub (ws' := (schW cI cD h a1 a2 a3 a4 a5 n (bif decide (d < 6) then d + 1 else d) t (bif decide (d < 6) then al ||| 2 ^ d else al) day nd mk si (bif decide (d < 6) then va_up kn d 0 else kn) (bif decide (d < 6) then va_up mb d (some q_111) else mb)) ++ [(r, .inr (8, [.int (nI so), .ref rq])), (rq, .inl (cI, z, .inl f))] ++ [(q_111, dnE a b)]) [3, 4, 5, 6, 7, 8, 0, 1, 2] rfl
  have hD := hD.sub (ws' := (schW cI cD h a1 a2 a3 a4 a5 n (bif decide (d < 6) then d + 1 else d) t (bif decide (d < 6) then al ||| 2 ^ d else al) day nd mk si (bif decide (d < 6) then va_up kn d 0 else kn) (bif decide (d < 6) then va_up mb d (some q_111) else mb)) ++ [(r, .inr (8, [.int (nI so), .ref rq])), (rq, .inl (cI, z, .inl f))] ++ [(q_111, dnE a b)]) [3, 4, 5, 6, 7, 8, 0, 1, 2] (by decide) rfl
  subst hw
  refine ho_tope (y := nI d) (by rw [hc9]; rfl) ?_
  simp only [hc9, cond_true, cond_false] at hP hD
  have hP : va_P (dC, dI) vwCl ((schW cI cD h a1 a2 a3 a4 a5 n (d + 1) t (al ||| 2 ^ d) day nd mk si (va_up kn d 0) (va_up mb d (some q_111))) ++ [(r, .inr (8, [.int (nI so), .ref rq])), (rq, .inl (cI, z, .inl f))] ++ [(q_111, dnE a b)]) H := hP
  have hD : va_D A ((schW cI cD h a1 a2 a3 a4 a5 n (d + 1) t (al ||| 2 ^ d) day nd mk si (va_up kn d 0) (va_up mb d (some q_111))) ++ [(r, .inr (8, [.int (nI so), .ref rq])), (rq, .inl (cI, z, .inl f))] ++ [(q_111, dnE a b)]) := hD
  refine ho_if_lt0 hx hb dX11_tell_117 (tgt := 124) (by decide) (by omega) ?_
  refine lv_iconst (v := nI 1) hx hb dX11_tell_120 (by decide +kernel) ?_
  refine lv_goto (tgt := 125) hx hb dX11_tell_121 (by decide) ?_
  refine W.widen (k := 1) (n := 2) (by first | decide | exact Nat.le_of_ble_eq_true rfl | (dsimp only; omega) | omega | (simp only [headSpec]; omega)) (by first | decide | exact Nat.le_of_ble_eq_true rfl | (dsimp only; omega) | omega | (simp only [headSpec]; omega)) ?_
  exact W.zret (v := nI 1) hx hb hr rfl (fun T9 hT9 hW9 => ⟨⟨_, q_111, rfl, (bI_t (by rfl)), by rw [hT9]; exact hP, hD⟩, hS.F hT9⟩) hS.2.2 dX11_tell_125
set_option maxHeartbeats 4000000 in
set_option maxRecDepth 100000 in
theorem c_X11_tell_d0 (l : Launch) (dC : Nat → ClassId) (dI : Nat → Nat → Nat) (cI cD cR : ClassId) (h a1 a2 a3 a4 a5 n d t al day : Nat) (nd : Nat → Nat) (mk si : Nat → Int32) (kn : Nat → Nat) (mb : Nat → Option Nat) (r rq so z : Nat) (f : Nat → Int32) (p9 : Nat) (a : Nat) (b : Nat) (DL : List Nat) (kd fg : Nat → Nat) (sz : Nat) (hn : n ≤ 9) (hd : d ≤ 6) (ht : t < 512) (hal : al < 64) (hday : day < 2 ^ 30) (gnd : ∀ i, nd i < 512) (gkn : ∀ j, kn j < 512) (hso : so < 3) (hz : z ≤ 100) (hc : atR z f p9 = nI 100) (hp9 : p9 < 1000) (h1 : dgO (atR z f (p9 + 1)) = some a) (ha : a < 10) (h2 : dgO (atR z f (p9 + 2)) = some b) (hb9 : b < 10) (ha8 : a < 8) (hc9 : decide (d < 6) = false) (gmb : ∀ j a, mb j = some a → a ∈ DL) (gro : ∀ a ∈ DL, ¬ va_A ((schW cI cD h a1 a2 a3 a4 a5 n d t al day nd mk si kn mb) ++ [(r, .inr (8, [.int (nI so), .ref rq])), (rq, .inl (cI, z, .inl f))]) sz a) : Met l yX11_tell wsX11_tell ({ frames := 5, cells := 1, slots := 2, locals := 99 }) (pcR dC dI cI cD cR [.ref h, .ref r, .int (nI p9)] (fun H => H.size = sz ∧ va_P (dC, dI) vwCl ((schW cI cD h a1 a2 a3 a4 a5 n d t al day nd mk si kn mb) ++ [(r, .inr (8, [.int (nI so), .ref rq])), (rq, .inl (cI, z, .inl f))]) H ∧ va_D (fun _ => True) ((schW cI cD h a1 a2 a3 a4 a5 n d t al day nd mk si kn mb) ++ [(r, .inr (8, [.int (nI so), .ref rq])), (rq, .inl (cI, z, .inl f))]) ∧ DP dC dI DL kd fg H)) (va_Qi (fun r (_ : Nat) => r = bI false) (fun (u9 : Nat) T9 => va_P (dC, dI) vwCl ((schW cI cD h a1 a2 a3 a4 a5 n d t al day nd mk si kn mb) ++ [(r, .inr (8, [.int (nI so), .ref rq])), (rq, .inl (cI, z, .inl f))] ++ [(u9, dnE a b)]) T9.heap ∧ va_D (va_A ((schW cI cD h a1 a2 a3 a4 a5 n d t al day nd mk si kn mb) ++ [(r, .inr (8, [.int (nI so), .ref rq])), (rq, .inl (cI, z, .inl f))]) sz) ((schW cI cD h a1 a2 a3 a4 a5 n d t al day nd mk si kn mb) ++ [(r, .inr (8, [.int (nI so), .ref rq])), (rq, .inl (cI, z, .inl f))] ++ [(u9, dnE a b)])) (va_A ((schW cI cD h a1 a2 a3 a4 a5 n d t al day nd mk si kn mb) ++ [(r, .inr (8, [.int (nI so), .ref rq])), (rq, .inl (cI, z, .inl f))]) sz)) 1 2 (va_A ((schW cI cD h a1 a2 a3 a4 a5 n d t al day nd mk si kn mb) ++ [(r, .inr (8, [.int (nI so), .ref rq])), (rq, .inl (cI, z, .inl f))]) sz) := by
  refine Met.ofW (cc := cX11_tell) (maxL := 5) (ret := (some .boolean)) (by decide) rfl ?_
  intro p e s m args below meth c s₁ B hml hv
  obtain ⟨rfl, hH0, hCX⟩ := hv
  have hx := B.exec
  have hb := B.bytes
  have hr := B.returns
  have hts := atoms_spec (ws := wsX11_tell) B.pre
  have hown : s.vm.findClass RX11 = some m.cls := findClass_of_methodNamed B.named
  have hlocks := B.notSynchronized
  have hK := hCX.1
  obtain ⟨hsz, hP, hD0, hDP0⟩ := hH0
  subst hsz
  have hD := hD0.self (sz := s.heap.size)
  generalize hAe : va_A ((schW cI cD h a1 a2 a3 a4 a5 n d t al day nd mk si kn mb) ++ [(r, .inr (8, [.int (nI so), .ref rq])), (rq, .inl (cI, z, .inl f))]) s.heap.size = A at hD ⊢
  have hA : ∀ q : Nat, s.heap.size ≤ q → A q := fun q h => by rw [← hAe]; exact Or.inr h
  have hS : va_S A s.heap s.heap [] := va_S.rf
  have hP : va_P (dC, dI) vwCl ((schW cI cD h a1 a2 a3 a4 a5 n d t al day nd mk si kn mb) ++ [(r, .inr (8, [.int (nI so), .ref rq])), (rq, .inl (cI, z, .inl f))]) s.heap := hP
  have hro : ∀ a ∈ DL, ¬ A a := by rw [← hAe]; exact gro
  have hDP := hDP0
  have hl := lv_entry ([.ref h, .ref r, .int (nI p9)]) (n := 5) (Nat.le_of_ble_eq_true rfl)
  rw [lg_entry_eq]
  generalize (lg_sl ([.ref h, .ref r, .int (nI p9)]) ++ List.replicate (5 - (lg_sl ([.ref h, .ref r, .int (nI p9)])).length) Slot.unset).toArray = ls at hl ⊢
  have hl : lv_has ls 5 [(0, .ref h), (1, .ref r), (2, .int (nI p9))] := hl
  refine lv_aload_n hx hb dX11_tell_0 rfl (lv_at hl 1 rfl) ?_
  refine lv_iload_n hx hb dX11_tell_1 rfl (lv_at hl 2 rfl) ?_
  refine lv_iconst (v := nI 1) hx hb dX11_tell_2 (by decide +kernel) ?_
  refine ho_iadd hx hb dX11_tell_3 ?_
  refine vp_callSi ((va_runV (As := [.int (nI (p9 + 1))]) (rest := []) ⟨hx, hb, hml, hown, hts⟩ (c_X8_at l dC dI cI cD cR r rq so z f (p9 + 1) (by first | omega | assumption | exact gnd _ | exact gkn _ | exact Nat.lt_trans (gkn _) (by decide) | exact Nat.lt_trans (gnd _) (by decide) | exact Nat.lt_of_le_of_lt (pcN_le _) (by decide)) (by first | omega | assumption | exact gnd _ | exact gkn _ | exact Nat.lt_trans (gkn _) (by decide) | exact Nat.lt_trans (gnd _) (by decide) | exact Nat.lt_of_le_of_lt (pcN_le _) (by decide)) (by first | omega | assumption | exact gnd _ | exact gkn _ | exact Nat.lt_trans (gkn _) (by decide) | exact Nat.lt_trans (gnd _) (by decide) | exact Nat.lt_of_le_of_lt (pcN_le _) (by decide))) (cwV 1 hts gX11_tell_X8_at rfl rfl rfl (by decide +kernel) ⟨Nat.le_of_ble_eq_true rfl, Nat.le_of_ble_eq_true rfl⟩) (preV_R hCX (va_recv hK hP (ci := 8) (q0 := 6) rfl rfl) ((hP.sub (ws' := [(r, .inr (8, [.int (nI so), .ref rq])), (rq, .inl (cI, z, .inl f))]) [6, 7] rfl))) rfl rfl hl.1 rfl (lv_room (Nat.le_of_ble_eq_true rfl)) dX11_tell_4 ⟨Nat.le_of_ble_eq_true (by first | rfl | decide), Nat.le_of_ble_eq_true (by first | rfl | decide)⟩).run) (fun r_4 hr_4 => ?_)
  subst hr_4
  refine vp_callSi ((va_runS (As := [.int (atR z f (p9 + 1))]) (rest := []) ⟨hx, hb, hml, hown, hts⟩ (c_X11_digit l dC dI cI cD cR (atR z f (p9 + 1))) (va_cwS 1 hts gX11_tell_X11_digit rfl rfl rfl (by decide +kernel) ⟨Nat.le_of_ble_eq_true rfl, Nat.le_of_ble_eq_true rfl⟩) (preS_R hCX (trivial)) rfl rfl hl.1 rfl (lv_room (Nat.le_of_ble_eq_true rfl)) dX11_tell_7 ⟨Nat.le_of_ble_eq_true (by first | rfl | decide), Nat.le_of_ble_eq_true (by first | rfl | decide)⟩).run) (fun r_7 hr_7 => ?_)
  subst hr_7
  refine ho_tope (y := nI a) (by rw [h1]; rfl) ?_
  refine lv_istore_n (lv' := [(3, .int (nI a)), (0, .ref h), (1, .ref r), (2, .int (nI p9))]) hx hb dX11_tell_10 rfl hl (by decide) rfl (fun ls hl => ?_)
  refine lv_aload_n hx hb dX11_tell_11 rfl (lv_at hl 2 rfl) ?_
  refine lv_iload_n hx hb dX11_tell_12 rfl (lv_at hl 3 rfl) ?_
  refine lv_iconst (v := nI 2) hx hb dX11_tell_13 (by decide +kernel) ?_
  refine ho_iadd hx hb dX11_tell_14 ?_
  refine vp_callSi ((va_runV (As := [.int (nI (p9 + 2))]) (rest := []) ⟨hx, hb, hml, hown, hts⟩ (c_X8_at l dC dI cI cD cR r rq so z f (p9 + 2) (by first | omega | assumption | exact gnd _ | exact gkn _ | exact Nat.lt_trans (gkn _) (by decide) | exact Nat.lt_trans (gnd _) (by decide) | exact Nat.lt_of_le_of_lt (pcN_le _) (by decide)) (by first | omega | assumption | exact gnd _ | exact gkn _ | exact Nat.lt_trans (gkn _) (by decide) | exact Nat.lt_trans (gnd _) (by decide) | exact Nat.lt_of_le_of_lt (pcN_le _) (by decide)) (by first | omega | assumption | exact gnd _ | exact gkn _ | exact Nat.lt_trans (gkn _) (by decide) | exact Nat.lt_trans (gnd _) (by decide) | exact Nat.lt_of_le_of_lt (pcN_le _) (by decide))) (cwV 1 hts gX11_tell_X8_at rfl rfl rfl (by decide +kernel) ⟨Nat.le_of_ble_eq_true rfl, Nat.le_of_ble_eq_true rfl⟩) (preV_R hCX (va_recv hK hP (ci := 8) (q0 := 6) rfl rfl) ((hP.sub (ws' := [(r, .inr (8, [.int (nI so), .ref rq])), (rq, .inl (cI, z, .inl f))]) [6, 7] rfl))) rfl rfl hl.1 rfl (lv_room (Nat.le_of_ble_eq_true rfl)) dX11_tell_15 ⟨Nat.le_of_ble_eq_true (by first | rfl | decide), Nat.le_of_ble_eq_true (by first | rfl | decide)⟩).run) (fun r_15 hr_15 => ?_)
  subst hr_15
  refine vp_callSi ((va_runS (As := [.int (atR z f (p9 + 2))]) (rest := []) ⟨hx, hb, hml, hown, hts⟩ (c_X11_digit l dC dI cI cD cR (atR z f (p9 + 2))) (va_cwS 1 hts gX11_tell_X11_digit rfl rfl rfl (by decide +kernel) ⟨Nat.le_of_ble_eq_true rfl, Nat.le_of_ble_eq_true rfl⟩) (preS_R hCX (trivial)) rfl rfl hl.1 rfl (lv_room (Nat.le_of_ble_eq_true rfl)) dX11_tell_18 ⟨Nat.le_of_ble_eq_true (by first | rfl | decide), Nat.le_of_ble_eq_true (by first | rfl | decide)⟩).run) (fun r_18 hr_18 => ?_)
  subst hr_18
  refine ho_tope (y := nI b) (by rw [h2]; rfl) ?_
  refine lv_istore (lv' := [(4, .int (nI b)), (3, .int (nI a)), (0, .ref h), (1, .ref r), (2, .int (nI p9))]) hx hb dX11_tell_21 hl (by decide) rfl (fun ls hl => ?_)
  refine lv_aload_n hx hb dX11_tell_23 rfl (lv_at hl 3 rfl) ?_
  refine lv_iload_n hx hb dX11_tell_24 rfl (lv_at hl 4 rfl) ?_
  refine vp_callSi ((va_runV (As := [.int (nI p9)]) (rest := []) ⟨hx, hb, hml, hown, hts⟩ (c_X8_at l dC dI cI cD cR r rq so z f p9 (by first | omega | assumption | exact gnd _ | exact gkn _ | exact Nat.lt_trans (gkn _) (by decide) | exact Nat.lt_trans (gnd _) (by decide) | exact Nat.lt_of_le_of_lt (pcN_le _) (by decide)) (by first | omega | assumption | exact gnd _ | exact gkn _ | exact Nat.lt_trans (gkn _) (by decide) | exact Nat.lt_trans (gnd _) (by decide) | exact Nat.lt_of_le_of_lt (pcN_le _) (by decide)) (by first | omega | assumption | exact gnd _ | exact gkn _ | exact Nat.lt_trans (gkn _) (by decide) | exact Nat.lt_trans (gnd _) (by decide) | exact Nat.lt_of_le_of_lt (pcN_le _) (by decide))) (cwV 1 hts gX11_tell_X8_at rfl rfl rfl (by decide +kernel) ⟨Nat.le_of_ble_eq_true rfl, Nat.le_of_ble_eq_true rfl⟩) (preV_R hCX (va_recv hK hP (ci := 8) (q0 := 6) rfl rfl) ((hP.sub (ws' := [(r, .inr (8, [.int (nI so), .ref rq])), (rq, .inl (cI, z, .inl f))]) [6, 7] rfl))) rfl rfl hl.1 rfl (lv_room (Nat.le_of_ble_eq_true rfl)) dX11_tell_25 ⟨Nat.le_of_ble_eq_true (by first | rfl | decide), Nat.le_of_ble_eq_true (by first | rfl | decide)⟩).run) (fun r_25 hr_25 => ?_)
  subst hr_25
  refine ho_tope (y := nI 100) hc ?_
  refine lv_lookup (tgt := 107) (off := 79) hx hb dX11_tell_28 (by decide +kernel) (by decide +kernel) (by decide) ?_
  refine lv_aload_n hx hb dX11_tell_107 rfl (lv_at hl 2 rfl) ?_
  refine lv_iload_n hx hb dX11_tell_108 rfl (lv_at hl 1 rfl) ?_
  refine lv_iload hx hb dX11_tell_109 (lv_at hl 0 rfl) ?_
  have hDPo := DP.keep hDP0 hro hS
  have hFc := va_free (wc := []) hD hS hA [] rfl
  refine va_callr (va_runS (As := [.int (nI a), .int (nI b)]) (rest := [.ref h]) ⟨hx, hb, hml, hown, hts⟩ (c_X11_newDenier l dC dI cI cD cR a b s.heap.size (by first | omega | assumption | exact gnd _ | exact gkn _) (by first | omega | assumption | exact gnd _ | exact gkn _)) (va_cwS 2 hts gX11_tell_X11_newDenier rfl rfl rfl (by decide +kernel) ⟨Nat.le_of_ble_eq_true rfl, Nat.le_of_ble_eq_true rfl⟩) (preS_R hCX ⟨rfl, (fun k q h => by cases h), ⟨fun i j p q h => (by cases h), fun k q h => (by cases h)⟩⟩) rfl rfl hl.1 rfl (lv_room (Nat.le_of_ble_eq_true rfl)) dX11_tell_111 ⟨(by first | decide | exact Nat.le_of_ble_eq_true rfl | (dsimp only; omega) | omega | (simp only [headSpec]; omega)), (by first | decide | exact Nat.le_of_ble_eq_true rfl | (dsimp only; omega) | omega | (simp only [headSpec]; omega))⟩) hS (fun q _ h => hFc q h) hFc (fun u q_111 T8 H1 locs hT8 hvm hw hB hz1 hk1 hS => ?_)
  obtain ⟨hP1, hD1⟩ := hB
  rw [hT8] at hP1
  have hnq := fr_no hDPo hD1
  obtain ⟨hP, hD⟩ := va_join (wr := (schW cI cD h a1 a2 a3 a4 a5 n d t al day nd mk si kn mb) ++ [(r, .inr (8, [.int (nI so), .ref rq])), (rq, .inl (cI, z, .inl f))]) (w1 := [(q_111, dnE a b)]) hP hD [] [0, 1, 2, 3, 4, 5, 6, 7] rfl rfl (by decide) (by decide) hk1 hFc hP1 hD1
  generalize H1 = H at hP hS ⊢
  have hP : va_P (dC, dI) vwCl ((schW cI cD h a1 a2 a3 a4 a5 n d t al day nd mk si kn mb) ++ [(r, .inr (8, [.int (nI so), .ref rq])), (rq, .inl (cI, z, .inl f))] ++ [(q_111, dnE a b)]) H := hP
  have hD : va_D A ((schW cI cD h a1 a2 a3 a4 a5 n d t al day nd mk si kn mb) ++ [(r, .inr (8, [.int (nI so), .ref rq])), (rq, .inl (cI, z, .inl f))] ++ [(q_111, dnE a b)]) := hD
  have hPc := hP.sub (ws' := (schW cI cD h a1 a2 a3 a4 a5 n d t al day nd mk si kn mb)) [0, 1, 2, 3, 4, 5] rfl
  have hDc := hD.sub (ws' := (schW cI cD h a1 a2 a3 a4 a5 n d t al day nd mk si kn mb)) [0, 1, 2, 3, 4, 5] (by decide) rfl
  have hFc := va_free (wc := (schW cI cD h a1 a2 a3 a4 a5 n d t al day nd mk si kn mb)) hD hS hA [0, 1, 2, 3, 4, 5] rfl
  refine va_calli (va_runV (As := [.ref q_111]) (rest := []) ⟨hx, hb, hml, hown, hts⟩ (c_X9_join l dC dI cI cD cR h a1 a2 a3 a4 a5 n d t al day nd mk si kn mb q_111 (q_111 :: DL) (va_up kd q_111 a) (va_up fg q_111 b) H.size (by first | omega | assumption | exact gnd _ | exact gkn _ | exact Nat.lt_trans (gkn _) (by decide) | exact Nat.lt_trans (gnd _) (by decide) | exact Nat.lt_of_le_of_lt (pcN_le _) (by decide)) (by first | omega | assumption | exact gnd _ | exact gkn _ | exact Nat.lt_trans (gkn _) (by decide) | exact Nat.lt_trans (gnd _) (by decide) | exact Nat.lt_of_le_of_lt (pcN_le _) (by decide)) (by first | omega | assumption | exact gnd _ | exact gkn _ | exact Nat.lt_trans (gkn _) (by decide) | exact Nat.lt_trans (gnd _) (by decide) | exact Nat.lt_of_le_of_lt (pcN_le _) (by decide)) (by first | omega | assumption | exact gnd _ | exact gkn _ | exact Nat.lt_trans (gkn _) (by decide) | exact Nat.lt_trans (gnd _) (by decide) | exact Nat.lt_of_le_of_lt (pcN_le _) (by decide)) (by first | omega | assumption | exact gnd _ | exact gkn _ | exact Nat.lt_trans (gkn _) (by decide) | exact Nat.lt_trans (gnd _) (by decide) | exact Nat.lt_of_le_of_lt (pcN_le _) (by decide)) gnd gkn List.mem_cons_self (fun j a h => List.mem_cons_of_mem _ (gmb j a h))) (cwV 1 hts gX11_tell_X9_join rfl rfl rfl (by decide +kernel) ⟨Nat.le_of_ble_eq_true rfl, Nat.le_of_ble_eq_true rfl⟩) (preV_R hCX (va_recv hK hP (ci := 9) (q0 := 0) rfl rfl) ⟨rfl, hPc, hDc.weaken (fun _ _ _ _ => trivial), (DP.more (DP.keep hDP0 hro hS) hnq (hP.sub (ws' := [(q_111, dnE a b)]) [8] rfl) ha8 hb9)⟩) rfl rfl hl.1 rfl (lv_room (Nat.le_of_ble_eq_true rfl)) dX11_tell_114 ⟨by first | decide | exact Nat.le_of_ble_eq_true rfl | (dsimp only; omega), by first | decide | exact Nat.le_of_ble_eq_true rfl | (dsimp only; omega)⟩) hS (fun q _ h => hFc q h) hFc (fun r_114 u T8 H1 locs hT8 hvm hw hB hz1 hk1 hS => ?_)
  obtain ⟨hP1, hD1⟩ := hB
  rw [hT8] at hP1
  obtain ⟨hP, hD⟩ := va_join (wr := [(r, .inr (8, [.int (nI so), .ref rq])), (rq, .inl (cI, z, .inl f))] ++ [(q_111, dnE a b)]) (w1 := (schW cI cD h a1 a2 a3 a4 a5 n (bif decide (d < 6) then d + 1 else d) t (bif decide (d < 6) then al ||| 2 ^ d else al) day nd mk si (bif decide (d < 6) then va_up kn d 0 else kn) (bif decide (d < 6) then va_up mb d (some q_111) else mb))) hP hD [0, 1, 2, 3, 4, 5] [6, 7, 8] rfl rfl (by decide) (by decide) hk1 hFc hP1 hD1
  generalize H1 = H at hP hS ⊢
  have hP := hP.sub (ws' := (schW cI cD h a1 a2 a3 a4 a5 n (bif decide (d < 6) then d + 1 else d) t (bif decide (d < 6) then al ||| 2 ^ d else al) day nd mk si (bif decide (d < 6) then va_up kn d 0 else kn) (bif decide (d < 6) then va_up mb d (some q_111) else mb)) ++ [(r, .inr (8, [.int (nI so), .ref rq])), (rq, .inl (cI, z, .inl f))] ++ [(q_111, dnE a b)]) [3, 4, 5, 6, 7, 8, 0, 1, 2] rfl
  have hD := hD.sub (ws' := (schW cI cD h a1 a2 a3 a4 a5 n (bif decide (d < 6) then d + 1 else d) t (bif decide (d < 6) then al ||| 2 ^ d else al) day nd mk si (bif decide (d < 6) then va_up kn d 0 else kn) (bif decide (d < 6) then va_up mb d (some q_111) else mb)) ++ [(r, .inr (8, [.int (nI so), .ref rq])), (rq, .inl (cI, z, .inl f))] ++ [(q_111, dnE a b)]) [3, 4, 5, 6, 7, 8, 0, 1, 2] (by decide) rfl
  subst hw
  refine ho_tope (y := (-2)) (by rw [hc9]; rfl) ?_
  simp only [hc9, cond_true, cond_false] at hP hD
  have hP : va_P (dC, dI) vwCl ((schW cI cD h a1 a2 a3 a4 a5 n d t al day nd mk si kn mb) ++ [(r, .inr (8, [.int (nI so), .ref rq])), (rq, .inl (cI, z, .inl f))] ++ [(q_111, dnE a b)]) H := hP
  have hD : va_D A ((schW cI cD h a1 a2 a3 a4 a5 n d t al day nd mk si kn mb) ++ [(r, .inr (8, [.int (nI so), .ref rq])), (rq, .inl (cI, z, .inl f))] ++ [(q_111, dnE a b)]) := hD
  refine lv_if_lt (tgt := 124) hx hb dX11_tell_117 (by decide) (fun c_117 => ?_) (fun c_117 => ?_)
  · refine lv_iconst (v := nI 0) hx hb dX11_tell_124 (by decide +kernel) ?_
    refine W.widen (k := 1) (n := 2) (by first | decide | exact Nat.le_of_ble_eq_true rfl | (dsimp only; omega) | omega | (simp only [headSpec]; omega)) (by first | decide | exact Nat.le_of_ble_eq_true rfl | (dsimp only; omega) | omega | (simp only [headSpec]; omega)) ?_
    exact W.zret (v := nI 0) hx hb hr rfl (fun T9 hT9 hW9 => ⟨⟨_, q_111, rfl, (bI_f (by rfl)), by rw [hT9]; exact hP, hD⟩, hS.F hT9⟩) hS.2.2 dX11_tell_125
  exact absurd (by decide) c_117
