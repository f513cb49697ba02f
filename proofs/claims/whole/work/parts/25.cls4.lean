set_option maxHeartbeats 4000000 in
set_option maxRecDepth 100000 in
theorem c_X11_digit (l : Launch) (dC : Nat → ClassId) (dI : Nat → Nat → Nat) (cI cD cR : ClassId) (x : Int32)  : Met l yX11_digit wsX11_digit ({ frames := 0, cells := 0, slots := 0, locals := 0 }) (pcR dC dI cI cD cR [.int x] (fun H => True)) (vp_Si (fun r => r = oM (dgO x))) 0 0 (fun _ => False) := by
  refine Met.ofW (cc := cX11_digit) (maxL := 1) (ret := (some .int)) (by decide) rfl ?_
  intro p e s m args below meth c s₁ B hml hv
  obtain ⟨rfl, hH0, hCX⟩ := hv
  have hx := B.exec
  have hb := B.bytes
  have hr := B.returns
  have hts := atoms_spec (ws := wsX11_digit) B.pre
  have hown : s.vm.findClass RX11 = some m.cls := findClass_of_methodNamed B.named
  have hlocks := B.notSynchronized
  have hK := hCX.1
  have hl := lv_entry ([.int x]) (n := 1) (Nat.le_of_ble_eq_true rfl)
  rw [lg_entry_eq]
  generalize (lg_sl ([.int x]) ++ List.replicate (1 - (lg_sl ([.int x])).length) Slot.unset).toArray = ls at hl ⊢
  have hl : lv_has ls 1 [(0, .int x)] := hl
  refine lv_iload_n hx hb dX11_digit_0 rfl (lv_at hl 0 rfl) ?_
  refine lv_bipush (v := nI 48) hx hb dX11_digit_1 (by decide +kernel) ?_
  refine lv_icmp_lt (tgt := 19) hx hb dX11_digit_3 (by decide) (fun c_3 => ?_) (fun c_3 => ?_)
  · refine lv_iconst (v := (-1)) hx hb dX11_digit_19 (by decide +kernel) ?_
    exact W.iret (v := (-1)) hx hb hr (fun T9 hT9 hW9 => ⟨_, rfl, (by first | (rw [dg_1 c_3]; rfl) | (rw [dg_2 c_9]; rfl) | exact dg_3 c_3 c_9), hT9⟩) (fun q h => by cases h) dX11_digit_20
  refine lv_iload_n hx hb dX11_digit_6 rfl (lv_at hl 0 rfl) ?_
  refine lv_bipush (v := nI 57) hx hb dX11_digit_7 (by decide +kernel) ?_
  refine lv_icmp_gt (tgt := 19) hx hb dX11_digit_9 (by decide) (fun c_9 => ?_) (fun c_9 => ?_)
  · refine lv_iconst (v := (-1)) hx hb dX11_digit_19 (by decide +kernel) ?_
    exact W.iret (v := (-1)) hx hb hr (fun T9 hT9 hW9 => ⟨_, rfl, (by first | (rw [dg_1 c_3]; rfl) | (rw [dg_2 c_9]; rfl) | exact dg_3 c_3 c_9), hT9⟩) (fun q h => by cases h) dX11_digit_20
  refine lv_iload_n hx hb dX11_digit_12 rfl (lv_at hl 0 rfl) ?_
  refine lv_bipush (v := nI 48) hx hb dX11_digit_13 (by decide +kernel) ?_
  refine lv_isub hx hb dX11_digit_15 ?_
  refine lv_goto (tgt := 20) hx hb dX11_digit_16 (by decide) ?_
  exact W.iret (v := (x - nI 48)) hx hb hr (fun T9 hT9 hW9 => ⟨_, rfl, (by first | (rw [dg_1 c_3]; rfl) | (rw [dg_2 c_9]; rfl) | exact dg_3 c_3 c_9), hT9⟩) (fun q h => by cases h) dX11_digit_20
set_option maxHeartbeats 4000000 in
set_option maxRecDepth 100000 in
theorem c_X11_digitsBehind (l : Launch) (dC : Nat → ClassId) (dI : Nat → Nat → Nat) (cI cD cR : ClassId) (x : Int32)  : Met l yX11_digitsBehind wsX11_digitsBehind ({ frames := 0, cells := 0, slots := 0, locals := 0 }) (pcR dC dI cI cD cR [.int x] (fun H => True)) (vp_Si (fun r => r = oM (dbO x))) 0 0 (fun _ => False) := by
  refine Met.ofW (cc := cX11_digitsBehind) (maxL := 1) (ret := (some .int)) (by decide) rfl ?_
  intro p e s m args below meth c s₁ B hml hv
  obtain ⟨rfl, hH0, hCX⟩ := hv
  have hx := B.exec
  have hb := B.bytes
  have hr := B.returns
  have hts := atoms_spec (ws := wsX11_digitsBehind) B.pre
  have hown : s.vm.findClass RX11 = some m.cls := findClass_of_methodNamed B.named
  have hlocks := B.notSynchronized
  have hK := hCX.1
  have hl := lv_entry ([.int x]) (n := 1) (Nat.le_of_ble_eq_true rfl)
  rw [lg_entry_eq]
  generalize (lg_sl ([.int x]) ++ List.replicate (1 - (lg_sl ([.int x])).length) Slot.unset).toArray = ls at hl ⊢
  have hl : lv_has ls 1 [(0, .int x)] := hl
  refine lv_iload_n hx hb dX11_digitsBehind_0 rfl (lv_at hl 0 rfl) ?_
  by_cases k_1_0 : x = 100
  · refine ho_tope (y := 100) k_1_0 ?_
    refine lv_lookup (tgt := 64) (off := 63) hx hb dX11_digitsBehind_1 (by decide +kernel) (by decide +kernel) (by decide) ?_
    refine lv_iconst (v := nI 2) hx hb dX11_digitsBehind_64 (by decide +kernel) ?_
    exact W.iret (v := nI 2) hx hb hr (fun T9 hT9 hW9 => ⟨_, rfl, (by first | (rw [k_1_0]; rfl) | (rw [k_1_1]; rfl) | (rw [k_1_2]; rfl) | (rw [k_1_3]; rfl) | (rw [k_1_4]; rfl) | (rw [k_1_5]; rfl) | (rw [db_n k_1_0 k_1_1 k_1_2 k_1_3 k_1_4 k_1_5]; rfl)), hT9⟩) (fun q h => by cases h) dX11_digitsBehind_65
  by_cases k_1_1 : x = 107
  · refine ho_tope (y := 107) k_1_1 ?_
    refine lv_lookup (tgt := 64) (off := 63) hx hb dX11_digitsBehind_1 (by decide +kernel) (by decide +kernel) (by decide) ?_
    refine lv_iconst (v := nI 2) hx hb dX11_digitsBehind_64 (by decide +kernel) ?_
    exact W.iret (v := nI 2) hx hb hr (fun T9 hT9 hW9 => ⟨_, rfl, (by first | (rw [k_1_0]; rfl) | (rw [k_1_1]; rfl) | (rw [k_1_2]; rfl) | (rw [k_1_3]; rfl) | (rw [k_1_4]; rfl) | (rw [k_1_5]; rfl) | (rw [db_n k_1_0 k_1_1 k_1_2 k_1_3 k_1_4 k_1_5]; rfl)), hT9⟩) (fun q h => by cases h) dX11_digitsBehind_65
  by_cases k_1_2 : x = 110
  · refine ho_tope (y := 110) k_1_2 ?_
    refine lv_lookup (tgt := 64) (off := 63) hx hb dX11_digitsBehind_1 (by decide +kernel) (by decide +kernel) (by decide) ?_
    refine lv_iconst (v := nI 2) hx hb dX11_digitsBehind_64 (by decide +kernel) ?_
    exact W.iret (v := nI 2) hx hb hr (fun T9 hT9 hW9 => ⟨_, rfl, (by first | (rw [k_1_0]; rfl) | (rw [k_1_1]; rfl) | (rw [k_1_2]; rfl) | (rw [k_1_3]; rfl) | (rw [k_1_4]; rfl) | (rw [k_1_5]; rfl) | (rw [db_n k_1_0 k_1_1 k_1_2 k_1_3 k_1_4 k_1_5]; rfl)), hT9⟩) (fun q h => by cases h) dX11_digitsBehind_65
  by_cases k_1_3 : x = 115
  · refine ho_tope (y := 115) k_1_3 ?_
    refine lv_lookup (tgt := 60) (off := 59) hx hb dX11_digitsBehind_1 (by decide +kernel) (by decide +kernel) (by decide) ?_
    refine lv_iconst (v := nI 0) hx hb dX11_digitsBehind_60 (by decide +kernel) ?_
    exact W.iret (v := nI 0) hx hb hr (fun T9 hT9 hW9 => ⟨_, rfl, (by first | (rw [k_1_0]; rfl) | (rw [k_1_1]; rfl) | (rw [k_1_2]; rfl) | (rw [k_1_3]; rfl) | (rw [k_1_4]; rfl) | (rw [k_1_5]; rfl) | (rw [db_n k_1_0 k_1_1 k_1_2 k_1_3 k_1_4 k_1_5]; rfl)), hT9⟩) (fun q h => by cases h) dX11_digitsBehind_61
  by_cases k_1_4 : x = 116
  · refine ho_tope (y := 116) k_1_4 ?_
    refine lv_lookup (tgt := 62) (off := 61) hx hb dX11_digitsBehind_1 (by decide +kernel) (by decide +kernel) (by decide) ?_
    refine lv_iconst (v := nI 1) hx hb dX11_digitsBehind_62 (by decide +kernel) ?_
    exact W.iret (v := nI 1) hx hb hr (fun T9 hT9 hW9 => ⟨_, rfl, (by first | (rw [k_1_0]; rfl) | (rw [k_1_1]; rfl) | (rw [k_1_2]; rfl) | (rw [k_1_3]; rfl) | (rw [k_1_4]; rfl) | (rw [k_1_5]; rfl) | (rw [db_n k_1_0 k_1_1 k_1_2 k_1_3 k_1_4 k_1_5]; rfl)), hT9⟩) (fun q h => by cases h) dX11_digitsBehind_63
  by_cases k_1_5 : x = 120
  · refine ho_tope (y := 120) k_1_5 ?_
    refine lv_lookup (tgt := 64) (off := 63) hx hb dX11_digitsBehind_1 (by decide +kernel) (by decide +kernel) (by decide) ?_
    refine lv_iconst (v := nI 2) hx hb dX11_digitsBehind_64 (by decide +kernel) ?_
    exact W.iret (v := nI 2) hx hb hr (fun T9 hT9 hW9 => ⟨_, rfl, (by first | (rw [k_1_0]; rfl) | (rw [k_1_1]; rfl) | (rw [k_1_2]; rfl) | (rw [k_1_3]; rfl) | (rw [k_1_4]; rfl) | (rw [k_1_5]; rfl) | (rw [db_n k_1_0 k_1_1 k_1_2 k_1_3 k_1_4 k_1_5]; rfl)), hT9⟩) (fun q h => by cases h) dX11_digitsBehind_65
  refine lv_lookup (tgt := 66) (off := 65) hx hb dX11_digitsBehind_1 (by decide +kernel) (by have z0 := sw_nf k_1_0 (i := 100) rfl; have z1 := sw_nf k_1_1 (i := 107) rfl; have z2 := sw_nf k_1_2 (i := 110) rfl; have z3 := sw_nf k_1_3 (i := 115) rfl; have z4 := sw_nf k_1_4 (i := 116) rfl; have z5 := sw_nf k_1_5 (i := 120) rfl; have y0 := fun q9 => z0 (Eq.symm q9); have y1 := fun q9 => z1 (Eq.symm q9); have y2 := fun q9 => z2 (Eq.symm q9); have y3 := fun q9 => z3 (Eq.symm q9); have y4 := fun q9 => z4 (Eq.symm q9); have y5 := fun q9 => z5 (Eq.symm q9); simp [Op.lookupswitch.offset, z0, y0, z1, y1, z2, y2, z3, y3, z4, y4, z5, y5]) (by decide) ?_
  refine lv_iconst (v := (-1)) hx hb dX11_digitsBehind_66 (by decide +kernel) ?_
  exact W.iret (v := (-1)) hx hb hr (fun T9 hT9 hW9 => ⟨_, rfl, (by first | (rw [k_1_0]; rfl) | (rw [k_1_1]; rfl) | (rw [k_1_2]; rfl) | (rw [k_1_3]; rfl) | (rw [k_1_4]; rfl) | (rw [k_1_5]; rfl) | (rw [db_n k_1_0 k_1_1 k_1_2 k_1_3 k_1_4 k_1_5]; rfl)), hT9⟩) (fun q h => by cases h) dX11_digitsBehind_67
set_option maxHeartbeats 4000000 in
set_option maxRecDepth 100000 in
theorem c_X11_firstBadByte (l : Launch) (dC : Nat → ClassId) (dI : Nat → Nat → Nat) (cI cD cR : ClassId) (r rq so z : Nat) (f : Nat → Int32) (hso : so < 3) (hz : z ≤ 100) : Met l yX11_firstBadByte wsX11_firstBadByte ({ frames := 1, cells := 0, slots := 0, locals := 21 }) (pcR dC dI cI cD cR [.ref r] (fun H => va_P (dC, dI) vwCl ([(r, .inr (8, [.int (nI so), .ref rq])), (rq, .inl (cI, z, .inl f))]) H)) (vp_Si (fun r => r = oM (fbE (atR z f) z 101 0))) 0 0 (fun _ => False) := by
  refine Met.ofW (cc := cX11_firstBadByte) (maxL := 4) (ret := (some .int)) (by decide) rfl ?_
  intro p e s m args below meth c s₁ B hml hv
  obtain ⟨rfl, hH0, hCX⟩ := hv
  have hx := B.exec
  have hb := B.bytes
  have hr := B.returns
  have hts := atoms_spec (ws := wsX11_firstBadByte) B.pre
  have hown : s.vm.findClass RX11 = some m.cls := findClass_of_methodNamed B.named
  have hlocks := B.notSynchronized
  have hK := hCX.1
  have hP := hH0
  have hl := lv_entry ([.ref r]) (n := 4) (Nat.le_of_ble_eq_true rfl)
  rw [lg_entry_eq]
  generalize (lg_sl ([.ref r]) ++ List.replicate (4 - (lg_sl ([.ref r])).length) Slot.unset).toArray = ls at hl ⊢
  have hl : lv_has ls 4 [(0, .ref r)] := hl
  refine lv_iconst (v := nI 0) hx hb dX11_firstBadByte_0 (by decide +kernel) ?_
  refine lv_istore_n (lv' := [(1, .int (nI 0)), (0, .ref r)]) hx hb dX11_firstBadByte_1 rfl hl (by decide) rfl (fun ls hl => ?_)
  refine ho_lp (T := Nat × Nat) 4 (fun x9 => [(1, .int (nI x9.2)), (0, .ref r)]) (fun x9 => []) (fun x9 => (2 * x9.1 ≤ x9.2) ∧ (x9.2 ≤ 100) ∧ (fbE (atR z f) z (101 - x9.1) x9.2 = fbE (atR z f) z 101 0)) (fun x9 => 101 - x9.2) (0, 0) ⟨by dsimp only; omega, by dsimp only; omega, rfl⟩ (lv_sub hl [0, 1] rfl) ?_
  intro fu2 x9 ls hI hm2 hl ih
  obtain ⟨k, p⟩ := x9
  obtain ⟨hkp, hp, hres⟩ := hI
  have hl : lv_has ls 4 [(1, .int (nI p)), (0, .ref r)] := hl
  have hkp : 2 * k ≤ p := hkp
  have hp : p ≤ 100 := hp
  have hres : fbE (atR z f) z (101 - k) p = fbE (atR z f) z 101 0 := hres
  have hm2 : 101 - p < fu2 + 1 := hm2
  refine W.eq (g2 := F0 m 2 ls []) rfl ?_
  have ih2 := ih
  refine lv_aload_n hx hb dX11_firstBadByte_2 rfl (lv_at hl 1 rfl) ?_
  refine lv_iload_n hx hb dX11_firstBadByte_3 rfl (lv_at hl 0 rfl) ?_
  refine vp_callSi ((va_runV (As := [.int (nI p)]) (rest := []) ⟨hx, hb, hml, hown, hts⟩ (c_X8_at l dC dI cI cD cR r rq so z f p (by first | omega | assumption | exact gnd _ | exact gkn _ | exact Nat.lt_trans (gkn _) (by decide) | exact Nat.lt_trans (gnd _) (by decide) | exact Nat.lt_of_le_of_lt (pcN_le _) (by decide)) (by first | omega | assumption | exact gnd _ | exact gkn _ | exact Nat.lt_trans (gkn _) (by decide) | exact Nat.lt_trans (gnd _) (by decide) | exact Nat.lt_of_le_of_lt (pcN_le _) (by decide)) (by first | omega | assumption | exact gnd _ | exact gkn _ | exact Nat.lt_trans (gkn _) (by decide) | exact Nat.lt_trans (gnd _) (by decide) | exact Nat.lt_of_le_of_lt (pcN_le _) (by decide))) (cwV 1 hts gX11_firstBadByte_X8_at rfl rfl rfl (by decide +kernel) ⟨Nat.le_of_ble_eq_true rfl, Nat.le_of_ble_eq_true rfl⟩) (preV_R hCX (va_recv hK hP (ci := 8) (q0 := 0) rfl rfl) (hP)) rfl rfl hl.1 rfl (lv_room (Nat.le_of_ble_eq_true rfl)) dX11_firstBadByte_4 ⟨Nat.le_of_ble_eq_true (by first | rfl | decide), Nat.le_of_ble_eq_true (by first | rfl | decide)⟩).run) (fun r_4 hr_4 => ?_)
  subst hr_4
  refine vp_callSi ((va_runS (As := [.int (atR z f p)]) (rest := []) ⟨hx, hb, hml, hown, hts⟩ (c_X11_digitsBehind l dC dI cI cD cR (atR z f p)) (va_cwS 1 hts gX11_firstBadByte_X11_digitsBehind rfl rfl rfl (by decide +kernel) ⟨Nat.le_of_ble_eq_true rfl, Nat.le_of_ble_eq_true rfl⟩) (preS_R hCX (trivial)) rfl rfl hl.1 rfl (lv_room (Nat.le_of_ble_eq_true rfl)) dX11_firstBadByte_7 ⟨Nat.le_of_ble_eq_true (by first | rfl | decide), Nat.le_of_ble_eq_true (by first | rfl | decide)⟩).run) (fun r_7 hr_7 => ?_)
  subst hr_7
  cases hv_7 : dbO (atR z f p) with
  | none =>
    refine ho_tope (y := (-1)) rfl ?_
    refine lv_istore_n (lv' := [(2, .int (-1)), (1, .int (nI p)), (0, .ref r)]) hx hb dX11_firstBadByte_10 rfl hl (by decide) rfl (fun ls hl => ?_)
    refine lv_iload_n hx hb dX11_firstBadByte_11 rfl (lv_at hl 0 rfl) ?_
    refine lv_if_ge (tgt := 17) hx hb dX11_firstBadByte_12 (by decide) (fun z => absurd z (by decide +kernel)) (fun _ => ?_)
    refine lv_iload_n hx hb dX11_firstBadByte_15 rfl (lv_at hl 1 rfl) ?_
    exact W.iret (v := nI p) hx hb hr (fun T9 hT9 hW9 => ⟨_, rfl, (by rw [← hres, show 101 - k = (100 - k) + 1 by omega, fbE_b (ok_n hv_7).1, (ok_n hv_7).2]; rfl), hT9⟩) (fun q h => by cases h) dX11_firstBadByte_16
  | some v_7 =>
    refine ho_tope (y := nI v_7) rfl ?_
    have hvb := dbO_le hv_7
    refine lv_istore_n (lv' := [(2, .int (nI v_7)), (1, .int (nI p)), (0, .ref r)]) hx hb dX11_firstBadByte_10 rfl hl (by decide) rfl (fun ls hl => ?_)
    refine lv_iload_n hx hb dX11_firstBadByte_11 rfl (lv_at hl 0 rfl) ?_
    refine ho_if_ge0 (tgt := 17) hx hb dX11_firstBadByte_12 (by decide) (by omega) ?_
    refine ho_iinc (lv' := [(1, .int (nI (p + 1))), (2, .int (nI v_7)), (0, .ref r)]) (a := p) (b := 1) hx hb dX11_firstBadByte_17 hl (k := 1) rfl rfl (by decide) rfl (fun ls hl => ?_)
    refine lv_iconst (v := nI 0) hx hb dX11_firstBadByte_20 (by decide +kernel) ?_
    refine lv_istore_n (lv' := [(3, .int (nI 0)), (1, .int (nI (p + 1))), (2, .int (nI v_7)), (0, .ref r)]) hx hb dX11_firstBadByte_21 rfl hl (by decide) rfl (fun ls hl => ?_)
    have e9_1 : p + 1 = p + 1 + 0 := by rfl
    rw [e9_1] at hl
    refine ho_lp (T := Nat) 4 (fun x9 => [(3, .int (nI x9)), (1, .int (nI (p + 1 + x9))), (2, .int (nI v_7)), (0, .ref r)]) (fun x9 => []) (fun x9 => (x9 ≤ v_7) ∧ (dgC (atR z f) (p + 1) x9 = x9)) (fun x9 => v_7 - x9) 0 ⟨by omega, rfl⟩ (lv_sub hl [0, 1, 2, 3] rfl) ?_
    intro fu22 i ls hI hm22 hl ih
    obtain ⟨hiv, hdc⟩ := hI
    have hl : lv_has ls 4 [(3, .int (nI i)), (1, .int (nI (p + 1 + i))), (2, .int (nI v_7)), (0, .ref r)] := hl
    have hiv : i ≤ v_7 := hiv
    have hdc : dgC (atR z f) (p + 1) i = i := hdc
    have hm22 : v_7 - i < fu22 + 1 := hm22
    refine W.eq (g2 := F0 m 22 ls []) rfl ?_
    have ih22 := ih
    refine lv_iload_n hx hb dX11_firstBadByte_22 rfl (lv_at hl 0 rfl) ?_
    refine lv_iload_n hx hb dX11_firstBadByte_23 rfl (lv_at hl 2 rfl) ?_
    refine ho_icmp_ge (tgt := 49) hx hb dX11_firstBadByte_24 (by decide) (by omega) (by omega) (fun c_24 => ?_) (fun c_24 => ?_)
    · have hiv9 : i = v_7 := by omega
      rw [hiv9] at hl hdc
      have hl : lv_has ls 4 [(3, .int (nI v_7)), (1, .int (nI (p + 1 + v_7))), (2, .int (nI v_7)), (0, .ref r)] := hl
      refine lv_aload_n hx hb dX11_firstBadByte_49 rfl (lv_at hl 3 rfl) ?_
      refine lv_iload_n hx hb dX11_firstBadByte_50 rfl (lv_at hl 1 rfl) ?_
      refine vp_callSi ((va_runV (As := [.int (nI (p + 1 + v_7))]) (rest := []) ⟨hx, hb, hml, hown, hts⟩ (c_X8_at l dC dI cI cD cR r rq so z f (p + 1 + v_7) (by first | omega | assumption | exact gnd _ | exact gkn _ | exact Nat.lt_trans (gkn _) (by decide) | exact Nat.lt_trans (gnd _) (by decide) | exact Nat.lt_of_le_of_lt (pcN_le _) (by decide)) (by first | omega | assumption | exact gnd _ | exact gkn _ | exact Nat.lt_trans (gkn _) (by decide) | exact Nat.lt_trans (gnd _) (by decide) | exact Nat.lt_of_le_of_lt (pcN_le _) (by decide)) (by first | omega | assumption | exact gnd _ | exact gkn _ | exact Nat.lt_trans (gkn _) (by decide) | exact Nat.lt_trans (gnd _) (by decide) | exact Nat.lt_of_le_of_lt (pcN_le _) (by decide))) (cwV 1 hts gX11_firstBadByte_X8_at rfl rfl rfl (by decide +kernel) ⟨Nat.le_of_ble_eq_true rfl, Nat.le_of_ble_eq_true rfl⟩) (preV_R hCX (va_recv hK hP (ci := 8) (q0 := 0) rfl rfl) (hP)) rfl rfl hl.1 rfl (lv_room (Nat.le_of_ble_eq_true rfl)) dX11_firstBadByte_51 ⟨Nat.le_of_ble_eq_true (by first | rfl | decide), Nat.le_of_ble_eq_true (by first | rfl | decide)⟩).run) (fun r_51 hr_51 => ?_)
      subst hr_51
      refine lv_bipush (v := nI 59) hx hb dX11_firstBadByte_54 (by decide +kernel) ?_
      refine lv_icmp_eq (tgt := 61) hx hb dX11_firstBadByte_56 (by decide) (fun c_56 => ?_) (fun c_56 => ?_)
      · have c_56 : (atR z f (p + 1 + v_7)) = 59 := c_56
        refine ho_iinc (lv' := [(1, .int (nI (p + 1 + v_7 + 1))), (3, .int (nI v_7)), (2, .int (nI v_7)), (0, .ref r)]) (a := (p + 1 + v_7)) (b := 1) hx hb dX11_firstBadByte_61 hl (k := 1) rfl rfl (by decide) rfl (fun ls hl => ?_)
        refine lv_iload_n hx hb dX11_firstBadByte_64 rfl (lv_at hl 0 rfl) ?_
        refine lv_aload_n hx hb dX11_firstBadByte_65 rfl (lv_at hl 3 rfl) ?_
        refine vp_callSi ((va_runV (As := []) (rest := [.int (nI (p + 1 + v_7 + 1))]) ⟨hx, hb, hml, hown, hts⟩ (c_X8_size l dC dI cI cD cR r rq so z f (by first | omega | assumption | exact gnd _ | exact gkn _ | exact Nat.lt_trans (gkn _) (by decide) | exact Nat.lt_trans (gnd _) (by decide) | exact Nat.lt_of_le_of_lt (pcN_le _) (by decide)) (by first | omega | assumption | exact gnd _ | exact gkn _ | exact Nat.lt_trans (gkn _) (by decide) | exact Nat.lt_trans (gnd _) (by decide) | exact Nat.lt_of_le_of_lt (pcN_le _) (by decide))) (cwV 0 hts gX11_firstBadByte_X8_size rfl rfl rfl (by decide +kernel) ⟨Nat.le_of_ble_eq_true rfl, Nat.le_of_ble_eq_true rfl⟩) (preV_R hCX (va_recv hK hP (ci := 8) (q0 := 0) rfl rfl) (hP)) rfl rfl hl.1 rfl (lv_room (Nat.le_of_ble_eq_true rfl)) dX11_firstBadByte_66 ⟨Nat.le_of_ble_eq_true (by first | rfl | decide), Nat.le_of_ble_eq_true (by first | rfl | decide)⟩).run) (fun r_66 hr_66 => ?_)
        subst hr_66
        refine ho_icmp_lt (tgt := 2) hx hb dX11_firstBadByte_69 (by decide) (by omega) (by omega) (fun c_69 => ?_) (fun c_69 => ?_)
        · exact ih2 ((k + 1, p + 1 + v_7 + 1)) _ ⟨by dsimp only; omega, by dsimp only; omega, by dsimp only; rw [← hres, show 101 - k = (101 - (k + 1)) + 1 by omega, fbE_s (ok_y hv_7 hdc c_56).1 (by rw [(ok_y hv_7 hdc c_56).2]; omega), (ok_y hv_7 hdc c_56).2, show p + v_7 + 2 = p + 1 + v_7 + 1 by omega]⟩ (show 101 - (p + 1 + v_7 + 1) < fu2 from (by omega)) (lv_sub hl [0, 3] rfl)
        refine lv_iconst (v := (-1)) hx hb dX11_firstBadByte_72 (by decide +kernel) ?_
        exact W.iret (v := (-1)) hx hb hr (fun T9 hT9 hW9 => ⟨_, rfl, (by rw [← hres, show 101 - k = (100 - k) + 1 by omega, fbE_e (ok_y hv_7 hdc c_56).1 (by rw [(ok_y hv_7 hdc c_56).2]; omega)]; rfl), hT9⟩) (fun q h => by cases h) dX11_firstBadByte_73
      have c_56 : ¬ (atR z f (p + 1 + v_7)) = 59 := c_56
      refine lv_iload_n hx hb dX11_firstBadByte_59 rfl (lv_at hl 1 rfl) ?_
      exact W.iret (v := nI (p + 1 + v_7)) hx hb hr (fun T9 hT9 hW9 => ⟨_, rfl, (by rw [← hres, show 101 - k = (100 - k) + 1 by omega, fbE_b (ok_s hv_7 hdc c_56).1, (ok_s hv_7 hdc c_56).2]; rfl), hT9⟩) (fun q h => by cases h) dX11_firstBadByte_60
    refine lv_aload_n hx hb dX11_firstBadByte_27 rfl (lv_at hl 3 rfl) ?_
    refine lv_iload_n hx hb dX11_firstBadByte_28 rfl (lv_at hl 1 rfl) ?_
    refine vp_callSi ((va_runV (As := [.int (nI (p + 1 + i))]) (rest := []) ⟨hx, hb, hml, hown, hts⟩ (c_X8_at l dC dI cI cD cR r rq so z f (p + 1 + i) (by first | omega | assumption | exact gnd _ | exact gkn _ | exact Nat.lt_trans (gkn _) (by decide) | exact Nat.lt_trans (gnd _) (by decide) | exact Nat.lt_of_le_of_lt (pcN_le _) (by decide)) (by first | omega | assumption | exact gnd _ | exact gkn _ | exact Nat.lt_trans (gkn _) (by decide) | exact Nat.lt_trans (gnd _) (by decide) | exact Nat.lt_of_le_of_lt (pcN_le _) (by decide)) (by first | omega | assumption | exact gnd _ | exact gkn _ | exact Nat.lt_trans (gkn _) (by decide) | exact Nat.lt_trans (gnd _) (by decide) | exact Nat.lt_of_le_of_lt (pcN_le _) (by decide))) (cwV 1 hts gX11_firstBadByte_X8_at rfl rfl rfl (by decide +kernel) ⟨Nat.le_of_ble_eq_true rfl, Nat.le_of_ble_eq_true rfl⟩) (preV_R hCX (va_recv hK hP (ci := 8) (q0 := 0) rfl rfl) (hP)) rfl rfl hl.1 rfl (lv_room (Nat.le_of_ble_eq_true rfl)) dX11_firstBadByte_29 ⟨Nat.le_of_ble_eq_true (by first | rfl | decide), Nat.le_of_ble_eq_true (by first | rfl | decide)⟩).run) (fun r_29 hr_29 => ?_)
    subst hr_29
    refine vp_callSi ((va_runS (As := [.int (atR z f (p + 1 + i))]) (rest := []) ⟨hx, hb, hml, hown, hts⟩ (c_X11_digit l dC dI cI cD cR (atR z f (p + 1 + i))) (va_cwS 1 hts gX11_firstBadByte_X11_digit rfl rfl rfl (by decide +kernel) ⟨Nat.le_of_ble_eq_true rfl, Nat.le_of_ble_eq_true rfl⟩) (preS_R hCX (trivial)) rfl rfl hl.1 rfl (lv_room (Nat.le_of_ble_eq_true rfl)) dX11_firstBadByte_32 ⟨Nat.le_of_ble_eq_true (by first | rfl | decide), Nat.le_of_ble_eq_true (by first | rfl | decide)⟩).run) (fun r_32 hr_32 => ?_)
    subst hr_32
    cases hv_32 : dgO (atR z f (p + 1 + i)) with
    | none =>
      refine ho_tope (y := (-1)) rfl ?_
      refine lv_if_ge (tgt := 40) hx hb dX11_firstBadByte_35 (by decide) (fun z => absurd z (by decide +kernel)) (fun _ => ?_)
      refine lv_iload_n hx hb dX11_firstBadByte_38 rfl (lv_at hl 1 rfl) ?_
      exact W.iret (v := nI (p + 1 + i)) hx hb hr (fun T9 hT9 hW9 => ⟨_, rfl, (by rw [← hres, show 101 - k = (100 - k) + 1 by omega, fbE_b (ok_d hv_7 hdc hv_32 (by omega)).1, (ok_d hv_7 hdc hv_32 (by omega)).2]; rfl), hT9⟩) (fun q h => by cases h) dX11_firstBadByte_39
    | some v_32 =>
      refine ho_tope (y := nI v_32) rfl ?_
      have hvd := dgO_lt hv_32
      refine ho_if_ge0 (tgt := 40) hx hb dX11_firstBadByte_35 (by decide) (by omega) ?_
      refine ho_iinc (lv' := [(1, .int (nI (p + 1 + i + 1))), (3, .int (nI i)), (2, .int (nI v_7)), (0, .ref r)]) (a := (p + 1 + i)) (b := 1) hx hb dX11_firstBadByte_40 hl (k := 1) rfl rfl (by decide) rfl (fun ls hl => ?_)
      refine ho_iinc (lv' := [(3, .int (nI (i + 1))), (1, .int (nI (p + 1 + i + 1))), (2, .int (nI v_7)), (0, .ref r)]) (a := i) (b := 1) hx hb dX11_firstBadByte_43 hl (k := 1) rfl rfl (by decide) rfl (fun ls hl => ?_)
      refine lv_goto (tgt := 22) hx hb dX11_firstBadByte_46 (by decide) ?_
      have e9_1 : p + 1 + i + 1 = p + 1 + (i + 1) := by omega
      rw [e9_1] at hl
      exact ih22 (i + 1) _ ⟨by omega, dgC_y hdc (by rw [hv_32]; rfl)⟩ (show v_7 - (i + 1) < fu22 from (by omega)) (lv_sub hl [0, 1, 2, 3] rfl)
set_option maxHeartbeats 4000000 in
set_option maxRecDepth 100000 in
theorem c_X11_tell_s1 (l : Launch) (dC : Nat → ClassId) (dI : Nat → Nat → Nat) (cI cD cR : ClassId) (h a1 a2 a3 a4 a5 n d t al day : Nat) (nd : Nat → Nat) (mk si : Nat → Int32) (kn : Nat → Nat) (mb : Nat → Option Nat) (r rq so z : Nat) (f : Nat → Int32) (p9 : Nat) (sz : Nat) (hn : n ≤ 9) (hd : d ≤ 6) (ht : t < 512) (hal : al < 64) (hday : day < 2 ^ 30) (gnd : ∀ i, nd i < 512) (gkn : ∀ j, kn j < 512) (hso : so < 3) (hz : z ≤ 100) (hc : atR z f p9 = nI 115) (hp9 : p9 < 1000) (hc9 : decide (n < 9) = true) : Met l yX11_tell wsX11_tell ({ frames := 1, cells := 0, slots := 0, locals := 21 }) (pcR dC dI cI cD cR [.ref h, .ref r, .int (nI p9)] (fun H => H.size = sz ∧ va_P (dC, dI) vwCl ((schW cI cD h a1 a2 a3 a4 a5 n d t al day nd mk si kn mb) ++ [(r, .inr (8, [.int (nI so), .ref rq])), (rq, .inl (cI, z, .inl f))]) H ∧ va_D (fun _ => True) ((schW cI cD h a1 a2 a3 a4 a5 n d t al day nd mk si kn mb) ++ [(r, .inr (8, [.int (nI so), .ref rq])), (rq, .inl (cI, z, .inl f))]))) (va_Qi (fun r (_ : Unit) => r = bI true) (fun (_ : Unit) T9 => va_P (dC, dI) vwCl ((schW cI cD h a1 a2 a3 a4 a5 (n + 1) d t al day (va_up nd n 0) mk si kn mb) ++ [(r, .inr (8, [.int (nI so), .ref rq])), (rq, .inl (cI, z, .inl f))]) T9.heap ∧ va_D (va_A ((schW cI cD h a1 a2 a3 a4 a5 n d t al day nd mk si kn mb) ++ [(r, .inr (8, [.int (nI so), .ref rq])), (rq, .inl (cI, z, .inl f))]) sz) ((schW cI cD h a1 a2 a3 a4 a5 (n + 1) d t al day (va_up nd n 0) mk si kn mb) ++ [(r, .inr (8, [.int (nI so), .ref rq])), (rq, .inl (cI, z, .inl f))])) (va_A ((schW cI cD h a1 a2 a3 a4 a5 n d t al day nd mk si kn mb) ++ [(r, .inr (8, [.int (nI so), .ref rq])), (rq, .inl (cI, z, .inl f))]) sz)) 0 0 (va_A ((schW cI cD h a1 a2 a3 a4 a5 n d t al day nd mk si kn mb) ++ [(r, .inr (8, [.int (nI so), .ref rq])), (rq, .inl (cI, z, .inl f))]) sz) := by
  refine Met.ofW (cc := cX11_tell) (maxL := 5) (ret := (some .boolean)) (by decide) rfl ?_
  intro p e s m args below meth c s₁ B hml hv
  obtain ⟨rfl, hH0, hCX⟩ := hv
  have hx := B.exec
  have hb := B.bytes
  have hr := B.returns
  have hts := atoms_spec (ws := wsX11_tell) B.pre
  have hown : s.vm.findClass RX11 = some m.cls := findClass_of_methodNamed B.named
  have hlocks := B.notSynchronized
  have hK := hCX.1
  obtain ⟨hsz, hP, hD0⟩ := hH0
  subst hsz
  have hD := hD0.self (sz := s.heap.size)
  generalize hAe : va_A ((schW cI cD h a1 a2 a3 a4 a5 n d t al day nd mk si kn mb) ++ [(r, .inr (8, [.int (nI so), .ref rq])), (rq, .inl (cI, z, .inl f))]) s.heap.size = A at hD ⊢
  have hA : ∀ q : Nat, s.heap.size ≤ q → A q := fun q h => by rw [← hAe]; exact Or.inr h
  have hS : va_S A s.heap s.heap [] := va_S.rf
  have hP : va_P (dC, dI) vwCl ((schW cI cD h a1 a2 a3 a4 a5 n d t al day nd mk si kn mb) ++ [(r, .inr (8, [.int (nI so), .ref rq])), (rq, .inl (cI, z, .inl f))]) s.heap := hP
  have hl := lv_entry ([.ref h, .ref r, .int (nI p9)]) (n := 5) (Nat.le_of_ble_eq_true rfl)
  rw [lg_entry_eq]
  generalize (lg_sl ([.ref h, .ref r, .int (nI p9)]) ++ List.replicate (5 - (lg_sl ([.ref h, .ref r, .int (nI p9)])).length) Slot.unset).toArray = ls at hl ⊢
  have hl : lv_has ls 5 [(0, .ref h), (1, .ref r), (2, .int (nI p9))] := hl
  refine lv_aload_n hx hb dX11_tell_0 rfl (lv_at hl 1 rfl) ?_
  refine lv_iload_n hx hb dX11_tell_1 rfl (lv_at hl 2 rfl) ?_
  refine lv_iconst (v := nI 1) hx hb dX11_tell_2 (by decide +kernel) ?_
  refine ho_iadd hx hb dX11_tell_3 ?_
  refine vp_callSi ((va_runV (As := [.int (nI (p9 + 1))]) (rest := []) ⟨hx, hb, hml, hown, hts⟩ (c_X8_at l dC dI cI cD cR r rq so z f (p9 + 1) (by first | omega | assumption | exact gnd _ | exact gkn _ | exact Nat.lt_trans (gkn _) (by decide) | exact Nat.lt_trans (gnd _) (by decide) | exact Nat.lt_of_le_of_lt (pcN_le _) (by decide)) (by first | omega | assumption | exact gnd _ | exact gkn _ | exact Nat.lt_trans (gkn _) (by decide) | exact Nat.lt_trans (gnd _) (by decide) | exact Nat.lt_of_le_of_lt (pcN_le _) (by decide)) (by first | omega | assumption | exact gnd _ | exact gkn _ | exact Nat.lt_trans (gkn _) (by decide) | exact Nat.lt_trans (gnd _) (by decide) | exact Nat.lt_of_le_of_lt (pcN_le _) (by decide))) (cwV 1 hts gX11_tell_X8_at rfl rfl rfl (by decide +kernel) ⟨Nat.le_of_ble_eq_true rfl, Nat.le_of_ble_eq_true rfl⟩) (preV_R hCX (va_recv hK hP (ci := 8) (q0 := 6) rfl rfl) ((hP.sub (ws' := [(r, .inr (8, [.int (nI so), .ref rq])), (rq, .inl (cI, z, .inl f))]) [6, 7] rfl))) rfl rfl hl.1 rfl (lv_room (Nat.le_of_ble_eq_true rfl)) dX11_tell_4 ⟨Nat.le_of_ble_eq_true (by first | rfl | decide), Nat.le_of_ble_eq_true (by first | rfl | decide)⟩).run) (fun r_4 hr_4 => ?_)
  subst hr_4
  refine vp_callSi ((va_runS (As := [.int (atR z f (p9 + 1))]) (rest := []) ⟨hx, hb, hml, hown, hts⟩ (c_X11_digit l dC dI cI cD cR (atR z f (p9 + 1))) (va_cwS 1 hts gX11_tell_X11_digit rfl rfl rfl (by decide +kernel) ⟨Nat.le_of_ble_eq_true rfl, Nat.le_of_ble_eq_true rfl⟩) (preS_R hCX (trivial)) rfl rfl hl.1 rfl (lv_room (Nat.le_of_ble_eq_true rfl)) dX11_tell_7 ⟨Nat.le_of_ble_eq_true (by first | rfl | decide), Nat.le_of_ble_eq_true (by first | rfl | decide)⟩).run) (fun r_7 hr_7 => ?_)
  subst hr_7
  refine lv_istore_n (lv' := [(3, .int (oM (dgO (atR z f (p9 + 1))))), (0, .ref h), (1, .ref r), (2, .int (nI p9))]) hx hb dX11_tell_10 rfl hl (by decide) rfl (fun ls hl => ?_)
  refine lv_aload_n hx hb dX11_tell_11 rfl (lv_at hl 2 rfl) ?_
  refine lv_iload_n hx hb dX11_tell_12 rfl (lv_at hl 3 rfl) ?_
  refine lv_iconst (v := nI 2) hx hb dX11_tell_13 (by decide +kernel) ?_
  refine ho_iadd hx hb dX11_tell_14 ?_
  refine vp_callSi ((va_runV (As := [.int (nI (p9 + 2))]) (rest := []) ⟨hx, hb, hml, hown, hts⟩ (c_X8_at l dC dI cI cD cR r rq so z f (p9 + 2) (by first | omega | assumption | exact gnd _ | exact gkn _ | exact Nat.lt_trans (gkn _) (by decide) | exact Nat.lt_trans (gnd _) (by decide) | exact Nat.lt_of_le_of_lt (pcN_le _) (by decide)) (by first | omega | assumption | exact gnd _ | exact gkn _ | exact Nat.lt_trans (gkn _) (by decide) | exact Nat.lt_trans (gnd _) (by decide) | exact Nat.lt_of_le_of_lt (pcN_le _) (by decide)) (by first | omega | assumption | exact gnd _ | exact gkn _ | exact Nat.lt_trans (gkn _) (by decide) | exact Nat.lt_trans (gnd _) (by decide) | exact Nat.lt_of_le_of_lt (pcN_le _) (by decide))) (cwV 1 hts gX11_tell_X8_at rfl rfl rfl (by decide +kernel) ⟨Nat.le_of_ble_eq_true rfl, Nat.le_of_ble_eq_true rfl⟩) (preV_R hCX (va_recv hK hP (ci := 8) (q0 := 6) rfl rfl) ((hP.sub (ws' := [(r, .inr (8, [.int (nI so), .ref rq])), (rq, .inl (cI, z, .inl f))]) [6, 7] rfl))) rfl rfl hl.1 rfl (lv_room (Nat.le_of_ble_eq_true rfl)) dX11_tell_15 ⟨Nat.le_of_ble_eq_true (by first | rfl | decide), Nat.le_of_ble_eq_true (by first | rfl | decide)⟩).run) (fun r_15 hr_15 => ?_)
  subst hr_15
  refine vp_callSi ((va_runS (As := [.int (atR z f (p9 + 2))]) (rest := []) ⟨hx, hb, hml, hown, hts⟩ (c_X11_digit l dC dI cI cD cR (atR z f (p9 + 2))) (va_cwS 1 hts gX11_tell_X11_digit rfl rfl rfl (by decide +kernel) ⟨Nat.le_of_ble_eq_true rfl, Nat.le_of_ble_eq_true rfl⟩) (preS_R hCX (trivial)) rfl rfl hl.1 rfl (lv_room (Nat.le_of_ble_eq_true rfl)) dX11_tell_18 ⟨Nat.le_of_ble_eq_true (by first | rfl | decide), Nat.le_of_ble_eq_true (by first | rfl | decide)⟩).run) (fun r_18 hr_18 => ?_)
  subst hr_18
  refine lv_istore (lv' := [(4, .int (oM (dgO (atR z f (p9 + 2))))), (3, .int (oM (dgO (atR z f (p9 + 1))))), (0, .ref h), (1, .ref r), (2, .int (nI p9))]) hx hb dX11_tell_21 hl (by decide) rfl (fun ls hl => ?_)
  refine lv_aload_n hx hb dX11_tell_23 rfl (lv_at hl 3 rfl) ?_
  refine lv_iload_n hx hb dX11_tell_24 rfl (lv_at hl 4 rfl) ?_
  refine vp_callSi ((va_runV (As := [.int (nI p9)]) (rest := []) ⟨hx, hb, hml, hown, hts⟩ (c_X8_at l dC dI cI cD cR r rq so z f p9 (by first | omega | assumption | exact gnd _ | exact gkn _ | exact Nat.lt_trans (gkn _) (by decide) | exact Nat.lt_trans (gnd _) (by decide) | exact Nat.lt_of_le_of_lt (pcN_le _) (by decide)) (by first | omega | assumption | exact gnd _ | exact gkn _ | exact Nat.lt_trans (gkn _) (by decide) | exact Nat.lt_trans (gnd _) (by decide) | exact Nat.lt_of_le_of_lt (pcN_le _) (by decide)) (by first | omega | assumption | exact gnd _ | exact gkn _ | exact Nat.lt_trans (gkn _) (by decide) | exact Nat.lt_trans (gnd _) (by decide) | exact Nat.lt_of_le_of_lt (pcN_le _) (by decide))) (cwV 1 hts gX11_tell_X8_at rfl rfl rfl (by decide +kernel) ⟨Nat.le_of_ble_eq_true rfl, Nat.le_of_ble_eq_true rfl⟩) (preV_R hCX (va_recv hK hP (ci := 8) (q0 := 6) rfl rfl) ((hP.sub (ws' := [(r, .inr (8, [.int (nI so), .ref rq])), (rq, .inl (cI, z, .inl f))]) [6, 7] rfl))) rfl rfl hl.1 rfl (lv_room (Nat.le_of_ble_eq_true rfl)) dX11_tell_25 ⟨Nat.le_of_ble_eq_true (by first | rfl | decide), Nat.le_of_ble_eq_true (by first | rfl | decide)⟩).run) (fun r_25 hr_25 => ?_)
  subst hr_25
  refine ho_tope (y := nI 115) hc ?_
  refine lv_lookup (tgt := 88) (off := 60) hx hb dX11_tell_28 (by decide +kernel) (by decide +kernel) (by decide) ?_
  refine lv_aload_n hx hb dX11_tell_88 rfl (lv_at hl 2 rfl) ?_
  have hPc := hP.sub (ws' := (schW cI cD h a1 a2 a3 a4 a5 n d t al day nd mk si kn mb)) [0, 1, 2, 3, 4, 5] rfl
  have hDc := hD.sub (ws' := (schW cI cD h a1 a2 a3 a4 a5 n d t al day nd mk si kn mb)) [0, 1, 2, 3, 4, 5] (by decide) rfl
  have hFc := va_free (wc := (schW cI cD h a1 a2 a3 a4 a5 n d t al day nd mk si kn mb)) hD hS hA [0, 1, 2, 3, 4, 5] rfl
  refine va_calli (va_runV (As := []) (rest := []) ⟨hx, hb, hml, hown, hts⟩ (c_X9_addSentence l dC dI cI cD cR h a1 a2 a3 a4 a5 n d t al day nd mk si kn mb s.heap.size (by first | omega | assumption | exact gnd _ | exact gkn _ | exact Nat.lt_trans (gkn _) (by decide) | exact Nat.lt_trans (gnd _) (by decide) | exact Nat.lt_of_le_of_lt (pcN_le _) (by decide)) (by first | omega | assumption | exact gnd _ | exact gkn _ | exact Nat.lt_trans (gkn _) (by decide) | exact Nat.lt_trans (gnd _) (by decide) | exact Nat.lt_of_le_of_lt (pcN_le _) (by decide)) (by first | omega | assumption | exact gnd _ | exact gkn _ | exact Nat.lt_trans (gkn _) (by decide) | exact Nat.lt_trans (gnd _) (by decide) | exact Nat.lt_of_le_of_lt (pcN_le _) (by decide)) (by first | omega | assumption | exact gnd _ | exact gkn _ | exact Nat.lt_trans (gkn _) (by decide) | exact Nat.lt_trans (gnd _) (by decide) | exact Nat.lt_of_le_of_lt (pcN_le _) (by decide)) (by first | omega | assumption | exact gnd _ | exact gkn _ | exact Nat.lt_trans (gkn _) (by decide) | exact Nat.lt_trans (gnd _) (by decide) | exact Nat.lt_of_le_of_lt (pcN_le _) (by decide)) gnd gkn) (cwV 0 hts gX11_tell_X9_addSentence rfl rfl rfl (by decide +kernel) ⟨Nat.le_of_ble_eq_true rfl, Nat.le_of_ble_eq_true rfl⟩) (preV_R hCX (va_recv hK hP (ci := 9) (q0 := 0) rfl rfl) ⟨rfl, hPc, hDc.weaken (fun _ _ _ _ => trivial)⟩) rfl rfl hl.1 rfl (lv_room (Nat.le_of_ble_eq_true rfl)) dX11_tell_89 ⟨Nat.le_of_ble_eq_true (by first | rfl | decide), Nat.le_of_ble_eq_true (by first | rfl | decide)⟩) hS (fun q _ h => hFc q h) hFc (fun r_89 u T8 H1 locs hT8 hvm hw hB hz1 hk1 hS => ?_)
  obtain ⟨hP1, hD1⟩ := hB
  rw [hT8] at hP1
  obtain ⟨hP, hD⟩ := va_join (wr := [(r, .inr (8, [.int (nI so), .ref rq])), (rq, .inl (cI, z, .inl f))]) (w1 := (schW cI cD h a1 a2 a3 a4 a5 (bif decide (n < 9) then n + 1 else n) d t al day (bif decide (n < 9) then va_up nd n 0 else nd) mk si kn mb)) hP hD [0, 1, 2, 3, 4, 5] [6, 7] rfl rfl (by decide) (by decide) hk1 hFc hP1 hD1
  generalize H1 = H at hP hS ⊢
  have hP := hP.sub (ws' := (schW cI cD h a1 a2 a3 a4 a5 (bif decide (n < 9) then n + 1 else n) d t al day (bif decide (n < 9) then va_up nd n 0 else nd) mk si kn mb) ++ [(r, .inr (8, [.int (nI so), .ref rq])), (rq, .inl (cI, z, .inl f))]) [2, 3, 4, 5, 6, 7, 0, 1] rfl
  have hD := hD.sub (ws' := (schW cI cD h a1 a2 a3 a4 a5 (bif decide (n < 9) then n + 1 else n) d t al day (bif decide (n < 9) then va_up nd n 0 else nd) mk si kn mb) ++ [(r, .inr (8, [.int (nI so), .ref rq])), (rq, .inl (cI, z, .inl f))]) [2, 3, 4, 5, 6, 7, 0, 1] (by decide) rfl
  subst hw
  have hW9 : ((schW cI cD h a1 a2 a3 a4 a5 (bif decide (n < 9) then n + 1 else n) d t al day (bif decide (n < 9) then va_up nd n 0 else nd) mk si kn mb) ++ [(r, .inr (8, [.int (nI so), .ref rq])), (rq, .inl (cI, z, .inl f))] : va_W) = (schW cI cD h a1 a2 a3 a4 a5 (n + 1) d t al day (va_up nd n 0) mk si kn mb) ++ [(r, .inr (8, [.int (nI so), .ref rq])), (rq, .inl (cI, z, .inl f))] := by simp only [hc9, cond_true, cond_false, Bool.true_and, Bool.false_and]
  rw [hW9] at hP hD
  exact W.zret (v := bI (decide (n < 9))) hx hb hr (bI_nar _) (fun T9 hT9 hW9 => ⟨⟨_, (), rfl, (congrArg bI (by first | exact hc9 | (rw [hc9]; rfl) | rfl)), by rw [hT9]; exact hP, hD⟩, hS.F hT9⟩) hS.2.2 dX11_tell_92
