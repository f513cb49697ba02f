/-! the model reads a text -/
def hrG (el : Nat → Int32) (ba en p : Nat) : Int32 := if p < en then el (ba + p) else -1000
theorem hr_t {el : Nat → Int32} {ba en p : Nat} (h : p < en) : el (ba + p) = hrG el ba en p := (if_pos h).symm
theorem hr_f {el : Nat → Int32} {ba en p : Nat} (h : ¬ p < en) : (-1000 : Int32) = hrG el ba en p := (if_neg h).symm
theorem hr_in {el : Nat → Int32} {ba en p : Nat} (h : stOk (hrG el ba en) p = true) : p < en := by
  obtain ⟨v, h1, -⟩ := ok_of h
  rcases Nat.lt_or_ge p en with q | q
  · exact q
  · rw [← hr_f (el := el) (ba := ba) (Nat.not_lt.mpr q)] at h1
    rw [show dbO (-1000) = none by decide] at h1
    cases h1
theorem inB_dg (x : Int32) : inB x.toInt64 (lN 48) (lN 57) = (dgO x).isSome := by
  have e1 : decide (lN 48 ≤ x.toInt64) = decide (48 ≤ x) := by
    rw [decide_eq_decide, Int64.le_iff_toInt_le, Int32.toInt_toInt64, lN_toInt (by omega), Int32.le_iff_toInt_le]
    have h0 : (48 : Int32).toInt = 48 := by decide
    omega
  have e2 : decide (x.toInt64 ≤ lN 57) = decide (x ≤ 57) := by
    rw [decide_eq_decide, Int64.le_iff_toInt_le, Int32.toInt_toInt64, lN_toInt (by omega), Int32.le_iff_toInt_le]
    have h0 : (57 : Int32).toInt = 57 := by decide
    omega
  unfold inB dgO
  rw [e1, e2]
  by_cases h1 : 48 ≤ x <;> by_cases h2 : x ≤ 57 <;> simp [h1, h2]
theorem dg_no {x : Int32} (h : inB x.toInt64 48 57 = false) : dgO x = none := by
  have h2 : (dgO x).isSome = false := (inB_dg x).symm.trans h
  cases h3 : dgO x with
  | none => rfl
  | some v => rw [h3] at h2; cases h2
theorem dg_v {x : Int32} {a : Nat} (h : dgO x = some a) : x - 48 = nI a := by
  by_cases h1 : x < nI 48
  · rw [dg_1 h1] at h; cases h
  · by_cases h2 : nI 57 < x
    · rw [dg_2 h2] at h; cases h
    · have h3 := dg_3 h1 h2
      rw [h] at h3
      exact h3
/-- the numbers read -/
def nuF (g : Nat → Int32) (p : Nat) (nu : Nat → Int32) : Nat → Nat → Int32
  | 0 => nu
  | k + 1 => upd (nuF g p nu k) k (g (p + k) - 48)
theorem nuF_1 {g : Nat → Int32} {p a : Nat} {nu : Nat → Int32} (h : dgO (g p) = some a) : nuF g p nu 1 0 = nI a := by
  show upd nu 0 (g (p + 0) - 48) 0 = nI a
  rw [up_e]
  exact dg_v h
theorem nuF_2 {g : Nat → Int32} {p a b : Nat} {nu : Nat → Int32} (h : dgO (g p) = some a) (h2 : dgO (g (p + 1)) = some b) : nuF g p nu 2 0 = nI a ∧ nuF g p nu 2 1 = nI b := by
  constructor
  · show upd (nuF g p nu 1) 1 (g (p + 1) - 48) 0 = nI a
    rw [up_n (by decide)]
    exact nuF_1 h
  · show upd (nuF g p nu 1) 1 (g (p + 1) - 48) 1 = nI b
    rw [up_e]
    exact dg_v h2
theorem dbO_s {x : Int32} (h : x = 115) : dbO x = some 0 := by subst h; decide
theorem dbO_t {x : Int32} (h : x = 116) : dbO x = some 1 := by subst h; decide
theorem dbO_2 {x : Int32} (h : x = 110 ∨ x = 100 ∨ x = 107 ∨ x = 120) : dbO x = some 2 := by
  rcases h with h | h | h | h <;> subst h <;> decide
set_option maxHeartbeats 4000000 in
set_option maxRecDepth 100000 in
theorem c_X12_here (l : Launch) (dC : Nat → ClassId) (dI : Nat → Nat → Nat) (cI cD cR : ClassId) (y as ai ar am ak ao az ae aq af : Nat) (hi : Bool) (th : Int32) (po ba en an aw ax ap : Nat) (se : Int32) (el : Nat → Int32) (hbe : ba + en ≤ 800) (hpo : po < 2 ^ 30) : Met l yX12_here wsX12_here ({ frames := 0, cells := 0, slots := 0, locals := 0 }) (pcR dC dI cI cD cR [.ref y] (fun H => va_P (dC, dI) vwCl ([(y, .inr (12, [.ref as, .ref ai, .ref ar, .ref am, .ref ak, .ref ao, .ref az, .ref ae, .ref aq, .ref af, .int (bI hi), .int th, .int (nI po), .int (nI ba), .int (nI en), .ref an, .ref aw, .ref ax, .ref ap, .int se]))] ++ [(ae, .inl (cI, 800, .inl el))]) H)) (vp_Si (fun r => r = ((hrG el ba en) po))) 0 0 (fun _ => False) := by
  refine Met.ofW (cc := cX12_here) (maxL := 1) (ret := (some .int)) (by decide) rfl ?_
  intro p e s m args below meth c s₁ B hml hv
  obtain ⟨rfl, hH0, hCX⟩ := hv
  have hx := B.exec
  have hb := B.bytes
  have hr := B.returns
  have hts := atoms_spec (ws := wsX12_here) B.pre
  have hown : s.vm.findClass RX12 = some m.cls := findClass_of_methodNamed B.named
  have hlocks := B.notSynchronized
  have hK := hCX.1
  have hP := hH0
  have hl := lv_entry ([.ref y]) (n := 1) (Nat.le_of_ble_eq_true rfl)
  rw [lg_entry_eq]
  generalize (lg_sl ([.ref y]) ++ List.replicate (1 - (lg_sl ([.ref y])).length) Slot.unset).toArray = ls at hl ⊢
  have hl : lv_has ls 1 [(0, .ref y)] := hl
  refine lv_aload_n hx hb dX12_here_0 rfl (lv_at hl 0 rfl) ?_
  refine va_get (D := (dC, dI)) (ci := 12) (v := .int (nI po)) (C := RX12) (T := TX12) (N := 20) hx hb hts (fun _ h => List.mem_cons_of_mem _ (List.mem_append_right _ h)) hown hK hP 0 rfl rfl 12 (by decide) (hts (.fieldLink RX12 111 "HoldsOnceDeniedModel" "pos" "I") (by decide +kernel)) (fun _ h9 => h9) rfl dX12_here_1 ?_
  refine lv_aload_n hx hb dX12_here_4 rfl (lv_at hl 0 rfl) ?_
  refine va_get (D := (dC, dI)) (ci := 12) (v := .int (nI en)) (C := RX12) (T := TX12) (N := 20) hx hb hts (fun _ h => List.mem_cons_of_mem _ (List.mem_append_right _ h)) hown hK hP 0 rfl rfl 14 (by decide) (hts (.fieldLink RX12 114 "HoldsOnceDeniedModel" "end" "I") (by decide +kernel)) (fun _ h9 => h9) rfl dX12_here_5 ?_
  refine ho_icmp_ge (tgt := 28) hx hb dX12_here_8 (by decide) (by omega) (by omega) (fun c_8 => ?_) (fun c_8 => ?_)
  · refine lv_sipush (v := (-1000)) hx hb dX12_here_28 (by decide +kernel) ?_
    exact W.iret (v := (-1000)) hx hb hr (fun T9 hT9 hW9 => ⟨_, rfl, (by first | exact hr_t c_8 | exact hr_t (by omega) | exact hr_f (by omega)), hT9⟩) (fun q h => by cases h) dX12_here_31
  refine lv_aload_n hx hb dX12_here_11 rfl (lv_at hl 0 rfl) ?_
  refine va_get (D := (dC, dI)) (ci := 12) (v := .ref ae) (C := RX12) (T := TX12) (N := 20) hx hb hts (fun _ h => List.mem_cons_of_mem _ (List.mem_append_right _ h)) hown hK hP 0 rfl rfl 7 (by decide) (hts (.fieldLink RX12 31 "HoldsOnceDeniedModel" "element" "[I") (by decide +kernel)) (fun _ h9 => h9) rfl dX12_here_12 ?_
  refine lv_aload_n hx hb dX12_here_15 rfl (lv_at hl 0 rfl) ?_
  refine va_get (D := (dC, dI)) (ci := 12) (v := .int (nI ba)) (C := RX12) (T := TX12) (N := 20) hx hb hts (fun _ h => List.mem_cons_of_mem _ (List.mem_append_right _ h)) hown hK hP 0 rfl rfl 13 (by decide) (hts (.fieldLink RX12 117 "HoldsOnceDeniedModel" "base" "I") (by decide +kernel)) (fun _ h9 => h9) rfl dX12_here_16 ?_
  refine lv_aload_n hx hb dX12_here_19 rfl (lv_at hl 0 rfl) ?_
  refine va_get (D := (dC, dI)) (ci := 12) (v := .int (nI po)) (C := RX12) (T := TX12) (N := 20) hx hb hts (fun _ h => List.mem_cons_of_mem _ (List.mem_append_right _ h)) hown hK hP 0 rfl rfl 12 (by decide) (hts (.fieldLink RX12 111 "HoldsOnceDeniedModel" "pos" "I") (by decide +kernel)) (fun _ h9 => h9) rfl dX12_here_20 ?_
  refine ho_iadd hx hb dX12_here_23 ?_
  refine ho_iald (v := (el (ba + po))) hx hb hK hP 1 0 rfl rfl (by omega) (by first | decide | omega) rfl dX12_here_24 ?_
  refine lv_goto (tgt := 31) hx hb dX12_here_25 (by decide) ?_
  exact W.iret (v := (el (ba + po))) hx hb hr (fun T9 hT9 hW9 => ⟨_, rfl, (by first | exact hr_t c_8 | exact hr_t (by omega) | exact hr_f (by omega)), hT9⟩) (fun q h => by cases h) dX12_here_31
set_option maxHeartbeats 4000000 in
set_option maxRecDepth 100000 in
theorem c_X12_readsDigits (l : Launch) (dC : Nat → ClassId) (dI : Nat → Nat → Nat) (cI cD cR : ClassId) (y as ai ar am ak ao az ae aq af : Nat) (hi : Bool) (th : Int32) (po ba en an aw ax ap : Nat) (se : Int32) (el : Nat → Int32) (nu : Nat → Int32) (mm : Nat) (sz : Nat) (hbe : ba + en ≤ 800) (hpo : po < 2 ^ 29) (hmm : mm ≤ 2) : Met l yX12_readsDigits wsX12_readsDigits ({ frames := 1, cells := 0, slots := 0, locals := 25 }) (pcR dC dI cI cD cR [.ref y, .int (nI mm)] (fun H => H.size = sz ∧ va_P (dC, dI) vwCl ([(y, .inr (12, [.ref as, .ref ai, .ref ar, .ref am, .ref ak, .ref ao, .ref az, .ref ae, .ref aq, .ref af, .int (bI hi), .int th, .int (nI po), .int (nI ba), .int (nI en), .ref an, .ref aw, .ref ax, .ref ap, .int se]))] ++ [(ae, .inl (cI, 800, .inl el))] ++ [(an, .inl (cI, 2, .inl nu))]) H ∧ va_D (fun _ => True) ([(y, .inr (12, [.ref as, .ref ai, .ref ar, .ref am, .ref ak, .ref ao, .ref az, .ref ae, .ref aq, .ref af, .int (bI hi), .int th, .int (nI po), .int (nI ba), .int (nI en), .ref an, .ref aw, .ref ax, .ref ap, .int se]))] ++ [(ae, .inl (cI, 800, .inl el))] ++ [(an, .inl (cI, 2, .inl nu))]))) (va_Qi (fun r (_ : Unit) => r = bI (decide (dgC (hrG el ba en) po mm = mm))) (fun (_ : Unit) T9 => va_P (dC, dI) vwCl ([(y, .inr (12, [.ref as, .ref ai, .ref ar, .ref am, .ref ak, .ref ao, .ref az, .ref ae, .ref aq, .ref af, .int (bI hi), .int th, .int (nI (po + dgC (hrG el ba en) po mm)), .int (nI ba), .int (nI en), .ref an, .ref aw, .ref ax, .ref ap, .int se]))] ++ [(ae, .inl (cI, 800, .inl el))] ++ [(an, .inl (cI, 2, .inl (nuF (hrG el ba en) po nu (dgC (hrG el ba en) po mm))))]) T9.heap ∧ va_D (va_A ([(y, .inr (12, [.ref as, .ref ai, .ref ar, .ref am, .ref ak, .ref ao, .ref az, .ref ae, .ref aq, .ref af, .int (bI hi), .int th, .int (nI po), .int (nI ba), .int (nI en), .ref an, .ref aw, .ref ax, .ref ap, .int se]))] ++ [(ae, .inl (cI, 800, .inl el))] ++ [(an, .inl (cI, 2, .inl nu))]) sz) ([(y, .inr (12, [.ref as, .ref ai, .ref ar, .ref am, .ref ak, .ref ao, .ref az, .ref ae, .ref aq, .ref af, .int (bI hi), .int th, .int (nI (po + dgC (hrG el ba en) po mm)), .int (nI ba), .int (nI en), .ref an, .ref aw, .ref ax, .ref ap, .int se]))] ++ [(ae, .inl (cI, 800, .inl el))] ++ [(an, .inl (cI, 2, .inl (nuF (hrG el ba en) po nu (dgC (hrG el ba en) po mm))))])) (va_A ([(y, .inr (12, [.ref as, .ref ai, .ref ar, .ref am, .ref ak, .ref ao, .ref az, .ref ae, .ref aq, .ref af, .int (bI hi), .int th, .int (nI po), .int (nI ba), .int (nI en), .ref an, .ref aw, .ref ax, .ref ap, .int se]))] ++ [(ae, .inl (cI, 800, .inl el))] ++ [(an, .inl (cI, 2, .inl nu))]) sz)) 0 0 (va_A ([(y, .inr (12, [.ref as, .ref ai, .ref ar, .ref am, .ref ak, .ref ao, .ref az, .ref ae, .ref aq, .ref af, .int (bI hi), .int th, .int (nI po), .int (nI ba), .int (nI en), .ref an, .ref aw, .ref ax, .ref ap, .int se]))] ++ [(ae, .inl (cI, 800, .inl el))] ++ [(an, .inl (cI, 2, .inl nu))]) sz) := by
  refine Met.ofW (cc := cX12_readsDigits) (maxL := 3) (ret := (some .boolean)) (by decide) rfl ?_
  intro p e s m args below meth c s₁ B hml hv
  obtain ⟨rfl, hH0, hCX⟩ := hv
  have hx := B.exec
  have hb := B.bytes
  have hr := B.returns
  have hts := atoms_spec (ws := wsX12_readsDigits) B.pre
  have hown : s.vm.findClass RX12 = some m.cls := findClass_of_methodNamed B.named
  have hlocks := B.notSynchronized
  have hK := hCX.1
  obtain ⟨hsz, hP, hD0⟩ := hH0
  subst hsz
  have hD := hD0.self (sz := s.heap.size)
  generalize hAe : va_A ([(y, .inr (12, [.ref as, .ref ai, .ref ar, .ref am, .ref ak, .ref ao, .ref az, .ref ae, .ref aq, .ref af, .int (bI hi), .int th, .int (nI po), .int (nI ba), .int (nI en), .ref an, .ref aw, .ref ax, .ref ap, .int se]))] ++ [(ae, .inl (cI, 800, .inl el))] ++ [(an, .inl (cI, 2, .inl nu))]) s.heap.size = A at hD ⊢
  have hA : ∀ q : Nat, s.heap.size ≤ q → A q := fun q h => by rw [← hAe]; exact Or.inr h
  have hS : va_S A s.heap s.heap [] := va_S.rf
  have hP : va_P (dC, dI) vwCl ([(y, .inr (12, [.ref as, .ref ai, .ref ar, .ref am, .ref ak, .ref ao, .ref az, .ref ae, .ref aq, .ref af, .int (bI hi), .int th, .int (nI po), .int (nI ba), .int (nI en), .ref an, .ref aw, .ref ax, .ref ap, .int se]))] ++ [(ae, .inl (cI, 800, .inl el))] ++ [(an, .inl (cI, 2, .inl nu))]) s.heap := hP
  have hl := lv_entry ([.ref y, .int (nI mm)]) (n := 3) (Nat.le_of_ble_eq_true rfl)
  rw [lg_entry_eq]
  generalize (lg_sl ([.ref y, .int (nI mm)]) ++ List.replicate (3 - (lg_sl ([.ref y, .int (nI mm)])).length) Slot.unset).toArray = ls at hl ⊢
  have hl : lv_has ls 3 [(0, .ref y), (1, .int (nI mm))] := hl
  refine lv_iconst (v := nI 0) hx hb dX12_readsDigits_0 (by decide +kernel) ?_
  refine lv_istore_n (lv' := [(2, .int (nI 0)), (0, .ref y), (1, .int (nI mm))]) hx hb dX12_readsDigits_1 rfl hl (by decide) rfl (fun ls hl => ?_)
  refine ho_lpW (T := Nat) 3 (fun x9 => ([(y, .inr (12, [.ref as, .ref ai, .ref ar, .ref am, .ref ak, .ref ao, .ref az, .ref ae, .ref aq, .ref af, .int (bI hi), .int th, .int (nI (po + x9)), .int (nI ba), .int (nI en), .ref an, .ref aw, .ref ax, .ref ap, .int se]))] ++ [(ae, .inl (cI, 800, .inl el))] ++ [(an, .inl (cI, 2, .inl (nuF (hrG el ba en) po nu x9)))] : va_W)) (fun x9 => [(2, .int (nI x9)), (0, .ref y), (1, .int (nI mm))]) (fun x9 => []) (fun x9 => (x9 ≤ mm) ∧ (dgC (hrG el ba en) po x9 = x9)) (fun x9 => mm - x9) 0 ⟨Nat.zero_le _, rfl⟩ (lv_sub hl [0, 1, 2] rfl) hP hD hS ?_
  intro fu2 k H locs ls hI hm2 hP hD hS hl ih
  obtain ⟨hkm, hdc⟩ := hI
  have hl : lv_has ls 3 [(2, .int (nI k)), (0, .ref y), (1, .int (nI mm))] := hl
  have hkm : k ≤ mm := hkm
  have hdc : dgC (hrG el ba en) po k = k := hdc
  have hm2 : mm - k < fu2 + 1 := hm2
  have hP : va_P (dC, dI) vwCl ([(y, .inr (12, [.ref as, .ref ai, .ref ar, .ref am, .ref ak, .ref ao, .ref az, .ref ae, .ref aq, .ref af, .int (bI hi), .int th, .int (nI (po + k)), .int (nI ba), .int (nI en), .ref an, .ref aw, .ref ax, .ref ap, .int se]))] ++ [(ae, .inl (cI, 800, .inl el))] ++ [(an, .inl (cI, 2, .inl (nuF (hrG el ba en) po nu k)))]) H := hP
  have hD : va_D A ([(y, .inr (12, [.ref as, .ref ai, .ref ar, .ref am, .ref ak, .ref ao, .ref az, .ref ae, .ref aq, .ref af, .int (bI hi), .int th, .int (nI (po + k)), .int (nI ba), .int (nI en), .ref an, .ref aw, .ref ax, .ref ap, .int se]))] ++ [(ae, .inl (cI, 800, .inl el))] ++ [(an, .inl (cI, 2, .inl (nuF (hrG el ba en) po nu k)))]) := hD
  refine W.eq (g2 := F0 m 2 ls []) rfl ?_
  have ih2 := ih
  refine lv_iload_n hx hb dX12_readsDigits_2 rfl (lv_at hl 0 rfl) ?_
  refine lv_iload_n hx hb dX12_readsDigits_3 rfl (lv_at hl 2 rfl) ?_
  refine ho_icmp_ge (tgt := 55) hx hb dX12_readsDigits_4 (by decide) (by omega) (by omega) (fun c_4 => ?_) (fun c_4 => ?_)
  · refine lv_iconst (v := nI 1) hx hb dX12_readsDigits_55 (by decide +kernel) ?_
    have hW9 : ([(y, .inr (12, [.ref as, .ref ai, .ref ar, .ref am, .ref ak, .ref ao, .ref az, .ref ae, .ref aq, .ref af, .int (bI hi), .int th, .int (nI (po + k)), .int (nI ba), .int (nI en), .ref an, .ref aw, .ref ax, .ref ap, .int se]))] ++ [(ae, .inl (cI, 800, .inl el))] ++ [(an, .inl (cI, 2, .inl (nuF (hrG el ba en) po nu k)))] : va_W) = [(y, .inr (12, [.ref as, .ref ai, .ref ar, .ref am, .ref ak, .ref ao, .ref az, .ref ae, .ref aq, .ref af, .int (bI hi), .int th, .int (nI (po + dgC (hrG el ba en) po mm)), .int (nI ba), .int (nI en), .ref an, .ref aw, .ref ax, .ref ap, .int se]))] ++ [(ae, .inl (cI, 800, .inl el))] ++ [(an, .inl (cI, 2, .inl (nuF (hrG el ba en) po nu (dgC (hrG el ba en) po mm))))] := by rw [show mm = k by omega, hdc]
    rw [hW9] at hP hD
    exact W.zret (v := nI 1) hx hb hr rfl (fun T9 hT9 hW9 => ⟨⟨_, (), rfl, (bI_t (by rw [show mm = k by omega, hdc]; exact decide_eq_true rfl)), by rw [hT9]; exact hP, hD⟩, hS.F hT9⟩) hS.2.2 dX12_readsDigits_56
  refine lv_aload_n hx hb dX12_readsDigits_7 rfl (lv_at hl 1 rfl) ?_
  refine vp_callSi ((va_runV (As := []) (rest := []) ⟨hx, hb, hml, hown, hts⟩ (c_X12_here l dC dI cI cD cR y as ai ar am ak ao az ae aq af hi th (po + k) ba en an aw ax ap se el (by first | omega | assumption | exact gnd _ | exact gkn _ | exact Nat.lt_trans (gkn _) (by decide) | exact Nat.lt_trans (gnd _) (by decide) | exact Nat.lt_of_le_of_lt (pcN_le _) (by decide)) (by first | omega | assumption | exact gnd _ | exact gkn _ | exact Nat.lt_trans (gkn _) (by decide) | exact Nat.lt_trans (gnd _) (by decide) | exact Nat.lt_of_le_of_lt (pcN_le _) (by decide))) (cwV 0 hts gX12_readsDigits_X12_here rfl rfl rfl (by decide +kernel) ⟨Nat.le_of_ble_eq_true rfl, Nat.le_of_ble_eq_true rfl⟩) (preV_R hCX (va_recv hK hP (ci := 12) (q0 := 0) rfl rfl) ((hP.sub (ws' := [(y, .inr (12, [.ref as, .ref ai, .ref ar, .ref am, .ref ak, .ref ao, .ref az, .ref ae, .ref aq, .ref af, .int (bI hi), .int th, .int (nI (po + k)), .int (nI ba), .int (nI en), .ref an, .ref aw, .ref ax, .ref ap, .int se]))] ++ [(ae, .inl (cI, 800, .inl el))]) [0, 1] rfl))) rfl rfl hl.1 rfl (lv_room (Nat.le_of_ble_eq_true rfl)) dX12_readsDigits_8 ⟨Nat.le_of_ble_eq_true (by first | rfl | decide), Nat.le_of_ble_eq_true (by first | rfl | decide)⟩).run) (fun r_8 hr_8 => ?_)
  subst hr_8
  refine lv_i2l (v := (((hrG el ba en) (po + k))).toInt64) hx hb dX12_readsDigits_11 rfl ?_
  refine lv_ldc2 (v := 48) hx hb hown (hts (.constantLong RX12 124 (48)) (by decide +kernel)) dX12_readsDigits_12 ?_
  refine lv_ldc2 (v := 57) hx hb hown (hts (.constantLong RX12 126 (57)) (by decide +kernel)) dX12_readsDigits_15 ?_
  refine vp_callSi ((va_runS (As := [.long ((((hrG el ba en) (po + k))).toInt64), .long (48 : Int64), .long (57 : Int64)]) (rest := []) ⟨hx, hb, hml, hown, hts⟩ (c_X12_isIn l dC dI cI cD cR ((((hrG el ba en) (po + k))).toInt64) (48 : Int64) (57 : Int64)) (va_cwS 3 hts gX12_readsDigits_X12_isIn rfl rfl rfl (by decide +kernel) ⟨Nat.le_of_ble_eq_true rfl, Nat.le_of_ble_eq_true rfl⟩) (preS_R hCX (trivial)) rfl rfl hl.1 rfl (lv_room (Nat.le_of_ble_eq_true rfl)) dX12_readsDigits_18 ⟨Nat.le_of_ble_eq_true (by first | rfl | decide), Nat.le_of_ble_eq_true (by first | rfl | decide)⟩).run) (fun r_18 hr_18 => ?_)
  subst hr_18
  refine ho_bne (tgt := 26) hx hb dX12_readsDigits_21 (by decide) (fun c_21 => ?_) (fun c_21 => ?_)
  · refine lv_aload_n hx hb dX12_readsDigits_26 rfl (lv_at hl 1 rfl) ?_
    refine va_get (D := (dC, dI)) (ci := 12) (v := .ref an) (C := RX12) (T := TX12) (N := 20) hx hb hts (fun _ h => List.mem_cons_of_mem _ (List.mem_append_right _ h)) hown hK hP 0 rfl rfl 15 (by decide) (hts (.fieldLink RX12 40 "HoldsOnceDeniedModel" "numbers" "[I") (by decide +kernel)) (fun _ h9 => h9) rfl dX12_readsDigits_27 ?_
    refine lv_iload_n hx hb dX12_readsDigits_30 rfl (lv_at hl 0 rfl) ?_
    refine lv_aload_n hx hb dX12_readsDigits_31 rfl (lv_at hl 1 rfl) ?_
    refine vp_callSi ((va_runV (As := []) (rest := [.int (nI k), .ref an]) ⟨hx, hb, hml, hown, hts⟩ (c_X12_here l dC dI cI cD cR y as ai ar am ak ao az ae aq af hi th (po + k) ba en an aw ax ap se el (by first | omega | assumption | exact gnd _ | exact gkn _ | exact Nat.lt_trans (gkn _) (by decide) | exact Nat.lt_trans (gnd _) (by decide) | exact Nat.lt_of_le_of_lt (pcN_le _) (by decide)) (by first | omega | assumption | exact gnd _ | exact gkn _ | exact Nat.lt_trans (gkn _) (by decide) | exact Nat.lt_trans (gnd _) (by decide) | exact Nat.lt_of_le_of_lt (pcN_le _) (by decide))) (cwV 0 hts gX12_readsDigits_X12_here rfl rfl rfl (by decide +kernel) ⟨Nat.le_of_ble_eq_true rfl, Nat.le_of_ble_eq_true rfl⟩) (preV_R hCX (va_recv hK hP (ci := 12) (q0 := 0) rfl rfl) ((hP.sub (ws' := [(y, .inr (12, [.ref as, .ref ai, .ref ar, .ref am, .ref ak, .ref ao, .ref az, .ref ae, .ref aq, .ref af, .int (bI hi), .int th, .int (nI (po + k)), .int (nI ba), .int (nI en), .ref an, .ref aw, .ref ax, .ref ap, .int se]))] ++ [(ae, .inl (cI, 800, .inl el))]) [0, 1] rfl))) rfl rfl hl.1 rfl (lv_room (Nat.le_of_ble_eq_true rfl)) dX12_readsDigits_32 ⟨Nat.le_of_ble_eq_true (by first | rfl | decide), Nat.le_of_ble_eq_true (by first | rfl | decide)⟩).run) (fun r_32 hr_32 => ?_)
    subst hr_32
    refine lv_bipush (v := nI 48) hx hb dX12_readsDigits_35 (by decide +kernel) ?_
    refine lv_isub hx hb dX12_readsDigits_37 ?_
    refine ho_iast (g := upd (nuF (hrG el ba en) po nu k) k (((hrG el ba en) (po + k)) - nI 48)) hx hb hK hP hD hS 2 0 rfl rfl (by omega) (by first | decide | omega) rfl dX12_readsDigits_38 (fun H locs hP hD hS => ?_)
    have hP : va_P (dC, dI) vwCl ([(y, .inr (12, [.ref as, .ref ai, .ref ar, .ref am, .ref ak, .ref ao, .ref az, .ref ae, .ref aq, .ref af, .int (bI hi), .int th, .int (nI (po + k)), .int (nI ba), .int (nI en), .ref an, .ref aw, .ref ax, .ref ap, .int se]))] ++ [(ae, .inl (cI, 800, .inl el))] ++ [(an, .inl (cI, 2, .inl (upd (nuF (hrG el ba en) po nu k) k (((hrG el ba en) (po + k)) - nI 48))))]) H := hP
    have hD : va_D A ([(y, .inr (12, [.ref as, .ref ai, .ref ar, .ref am, .ref ak, .ref ao, .ref az, .ref ae, .ref aq, .ref af, .int (bI hi), .int th, .int (nI (po + k)), .int (nI ba), .int (nI en), .ref an, .ref aw, .ref ax, .ref ap, .int se]))] ++ [(ae, .inl (cI, 800, .inl el))] ++ [(an, .inl (cI, 2, .inl (upd (nuF (hrG el ba en) po nu k) k (((hrG el ba en) (po + k)) - nI 48))))]) := hD
    refine lv_aload_n hx hb dX12_readsDigits_39 rfl (lv_at hl 1 rfl) ?_
    refine lv_dup hx hb dX12_readsDigits_40 rfl ?_
    refine va_get (D := (dC, dI)) (ci := 12) (v := .int (nI (po + k))) (C := RX12) (T := TX12) (N := 20) hx hb hts (fun _ h => List.mem_cons_of_mem _ (List.mem_append_right _ h)) hown hK hP 0 rfl rfl 12 (by decide) (hts (.fieldLink RX12 111 "HoldsOnceDeniedModel" "pos" "I") (by decide +kernel)) (fun _ h9 => h9) rfl dX12_readsDigits_41 ?_
    refine lv_iconst (v := nI 1) hx hb dX12_readsDigits_44 (by decide +kernel) ?_
    refine ho_iadd hx hb dX12_readsDigits_45 ?_
    refine va_put (D := (dC, dI)) (ci := 12) (v := .int (nI ((po + k) + 1))) (ty := .int) (C := RX12) (T := TX12) (N := 20) hx hb hts (fun _ h => List.mem_cons_of_mem _ (List.mem_append_right _ h)) tyX12 tyX12_ok nmX12 hown hK hP hD hS 0 rfl rfl 12 (by decide) (hts (.fieldLink RX12 111 "HoldsOnceDeniedModel" "pos" "I") (by decide +kernel)) (fun _ h9 => h9) rfl (by decide +kernel) rfl rfl (Nat.le_of_ble_eq_true rfl) dX12_readsDigits_46 (fun H locs hP hD hS => ?_)
    have hP : va_P (dC, dI) vwCl ([(y, .inr (12, [.ref as, .ref ai, .ref ar, .ref am, .ref ak, .ref ao, .ref az, .ref ae, .ref aq, .ref af, .int (bI hi), .int th, .int (nI ((po + k) + 1)), .int (nI ba), .int (nI en), .ref an, .ref aw, .ref ax, .ref ap, .int se]))] ++ [(ae, .inl (cI, 800, .inl el))] ++ [(an, .inl (cI, 2, .inl (upd (nuF (hrG el ba en) po nu k) k (((hrG el ba en) (po + k)) - nI 48))))]) H := hP
    have hD : va_D A ([(y, .inr (12, [.ref as, .ref ai, .ref ar, .ref am, .ref ak, .ref ao, .ref az, .ref ae, .ref aq, .ref af, .int (bI hi), .int th, .int (nI ((po + k) + 1)), .int (nI ba), .int (nI en), .ref an, .ref aw, .ref ax, .ref ap, .int se]))] ++ [(ae, .inl (cI, 800, .inl el))] ++ [(an, .inl (cI, 2, .inl (upd (nuF (hrG el ba en) po nu k) k (((hrG el ba en) (po + k)) - nI 48))))]) := hD
    refine ho_iinc (lv' := [(2, .int (nI (k + 1))), (0, .ref y), (1, .int (nI mm))]) (a := k) (b := 1) hx hb dX12_readsDigits_49 hl (k := 0) rfl rfl (by decide) rfl (fun ls hl => ?_)
    refine lv_goto (tgt := 2) hx hb dX12_readsDigits_52 (by decide) ?_
    have hW9 : ([(y, .inr (12, [.ref as, .ref ai, .ref ar, .ref am, .ref ak, .ref ao, .ref az, .ref ae, .ref aq, .ref af, .int (bI hi), .int th, .int (nI ((po + k) + 1)), .int (nI ba), .int (nI en), .ref an, .ref aw, .ref ax, .ref ap, .int se]))] ++ [(ae, .inl (cI, 800, .inl el))] ++ [(an, .inl (cI, 2, .inl (upd (nuF (hrG el ba en) po nu k) k (((hrG el ba en) (po + k)) - nI 48))))] : va_W) = [(y, .inr (12, [.ref as, .ref ai, .ref ar, .ref am, .ref ak, .ref ao, .ref az, .ref ae, .ref aq, .ref af, .int (bI hi), .int th, .int (nI (po + (k + 1))), .int (nI ba), .int (nI en), .ref an, .ref aw, .ref ax, .ref ap, .int se]))] ++ [(ae, .inl (cI, 800, .inl el))] ++ [(an, .inl (cI, 2, .inl (nuF (hrG el ba en) po nu (k + 1))))] := rfl
    rw [hW9] at hP hD
    exact ih2 (k + 1) _ _ _ ⟨by omega, dgC_y hdc ((inB_dg _).symm.trans c_21)⟩ (show mm - (k + 1) < fu2 from (by omega)) hP hD hS (lv_sub hl [0, 1, 2] rfl)
  refine lv_iconst (v := nI 0) hx hb dX12_readsDigits_24 (by decide +kernel) ?_
  have hW9 : ([(y, .inr (12, [.ref as, .ref ai, .ref ar, .ref am, .ref ak, .ref ao, .ref az, .ref ae, .ref aq, .ref af, .int (bI hi), .int th, .int (nI (po + k)), .int (nI ba), .int (nI en), .ref an, .ref aw, .ref ax, .ref ap, .int se]))] ++ [(ae, .inl (cI, 800, .inl el))] ++ [(an, .inl (cI, 2, .inl (nuF (hrG el ba en) po nu k)))] : va_W) = [(y, .inr (12, [.ref as, .ref ai, .ref ar, .ref am, .ref ak, .ref ao, .ref az, .ref ae, .ref aq, .ref af, .int (bI hi), .int th, .int (nI (po + dgC (hrG el ba en) po mm)), .int (nI ba), .int (nI en), .ref an, .ref aw, .ref ax, .ref ap, .int se]))] ++ [(ae, .inl (cI, 800, .inl el))] ++ [(an, .inl (cI, 2, .inl (nuF (hrG el ba en) po nu (dgC (hrG el ba en) po mm))))] := by rw [dgC_j hdc (dg_no c_21) (show k < mm by omega)]
  rw [hW9] at hP hD
  exact W.zret (v := nI 0) hx hb hr rfl (fun T9 hT9 hW9 => ⟨⟨_, (), rfl, (bI_f (by rw [dgC_j hdc (dg_no c_21) (show k < mm by omega)]; exact decide_eq_false (by omega))), by rw [hT9]; exact hP, hD⟩, hS.F hT9⟩) hS.2.2 dX12_readsDigits_25
theorem ok_dn {g : Nat → Int32} {p v : Nat} (h : dbO (g p) = some v) (h2 : ¬ dgC g (p + 1) v = v) : stOk g p = false ∧ stBad g p = p + 1 + dgC g (p + 1) v := by
  have hk : stK g p = v := by simp [stK, h]
  simp only [stOk, stBad, h, hk, decide_eq_false h2]
  exact ⟨rfl, rfl⟩
