set_option maxHeartbeats 4000000 in
set_option maxRecDepth 100000 in
theorem c_X12_wrongRow_0 (l : Launch) (dC : Nat → ClassId) (dI : Nat → Nat → Nat) (cI cD cR : ClassId) (y as ai ar am ak ao az ae aq af : Nat) (hi : Bool) (th : Int32) (po ba en an aw ax ap : Nat) (se : Int32) (ke : Nat → Nat) (so : Nat → Nat) (y9 : Nat) (hy9 : y9 < 8) (gso : ∀ j, so j < 3) (gke2 : ∀ j, ke j ≤ 2) : Met l yX12_wrongRow wsX12_wrongRow ({ frames := 2, cells := 0, slots := 0, locals := 45 }) (pcR dC dI cI cD cR [.ref y, .int (nI y9), .int (nI 0)] (fun H => va_P (dC, dI) vwCl ([(y, .inr (12, [.ref as, .ref ai, .ref ar, .ref am, .ref ak, .ref ao, .ref az, .ref ae, .ref aq, .ref af, .int (bI hi), .int th, .int (nI po), .int (nI ba), .int (nI en), .ref an, .ref aw, .ref ax, .ref ap, .int se]))] ++ [(ak, .inl (cI, 8, .inl (nF ke)))] ++ [(ao, .inl (cI, 8, .inl (nF so)))]) H)) (vp_Si (fun r => r = (wrR ke so y9))) 0 0 (fun _ => False) := by
  refine Met.ofW (cc := cX12_wrongRow) (maxL := 3) (ret := (some .int)) (by decide) rfl ?_
  intro p e s m args below meth c s₁ B hml hv
  obtain ⟨rfl, hH0, hCX⟩ := hv
  have hx := B.exec
  have hb := B.bytes
  have hr := B.returns
  have hts := atoms_spec (ws := wsX12_wrongRow) B.pre
  have hown : s.vm.findClass RX12 = some m.cls := findClass_of_methodNamed B.named
  have hlocks := B.notSynchronized
  have hK := hCX.1
  have hP := hH0
  have hl := lv_entry ([.ref y, .int (nI y9), .int (nI 0)]) (n := 3) (Nat.le_of_ble_eq_true rfl)
  rw [lg_entry_eq]
  generalize (lg_sl ([.ref y, .int (nI y9), .int (nI 0)]) ++ List.replicate (3 - (lg_sl ([.ref y, .int (nI y9), .int (nI 0)])).length) Slot.unset).toArray = ls at hl ⊢
  have hl : lv_has ls 3 [(0, .ref y), (1, .int (nI y9)), (2, .int (nI 0))] := hl
  refine lv_iload_n hx hb dX12_wrongRow_0 rfl (lv_at hl 1 rfl) ?_
  refine vp_callSi ((va_runS (As := [.int (nI y9)]) (rest := []) ⟨hx, hb, hml, hown, hts⟩ (c_X12_isShelf_t l dC dI cI cD cR y9 (by first | omega | assumption | exact gnd _ | exact gkn _ | exact Nat.lt_trans (gkn _) (by decide) | exact Nat.lt_trans (gnd _) (by decide) | exact Nat.lt_of_le_of_lt (pcN_le _) (by decide))) (va_cwS 1 hts gX12_wrongRow_X12_isShelf rfl rfl rfl (by decide +kernel) ⟨Nat.le_of_ble_eq_true rfl, Nat.le_of_ble_eq_true rfl⟩) (preS_R hCX (trivial)) rfl rfl hl.1 rfl (lv_room (Nat.le_of_ble_eq_true rfl)) dX12_wrongRow_1 ⟨Nat.le_of_ble_eq_true (by first | rfl | decide), Nat.le_of_ble_eq_true (by first | rfl | decide)⟩).run) (fun r_1 hr_1 => ?_)
  subst hr_1
  refine lv_if_ne (tgt := 11) hx hb dX12_wrongRow_4 (by decide) (fun _ => ?_) (fun z => absurd z (by decide +kernel))
  refine lv_aload_n hx hb dX12_wrongRow_11 rfl (lv_at hl 0 rfl) ?_
  refine va_get (D := (dC, dI)) (ci := 12) (v := .ref ak) (C := RX12) (T := TX12) (N := 20) hx hb hts (fun _ h => List.mem_cons_of_mem _ (List.mem_append_right _ h)) hown hK hP 0 rfl rfl 4 (by decide) (hts (.fieldLink RX12 22 "HoldsOnceDeniedModel" "kept" "[I") (by decide +kernel)) (fun _ h9 => h9) rfl dX12_wrongRow_12 ?_
  refine lv_iload_n hx hb dX12_wrongRow_15 rfl (lv_at hl 1 rfl) ?_
  refine ho_iald (v := nI (ke y9)) hx hb hK hP 1 0 rfl rfl (by omega) (by first | decide | omega) rfl dX12_wrongRow_16 ?_
  refine ho_if_ne (tgt := 25) hx hb dX12_wrongRow_17 (by decide) (by have := gke2 y9; omega) (fun c_17 => ?_) (fun c_17 => ?_)
  · refine lv_aload_n hx hb dX12_wrongRow_25 rfl (lv_at hl 0 rfl) ?_
    refine va_get (D := (dC, dI)) (ci := 12) (v := .ref ak) (C := RX12) (T := TX12) (N := 20) hx hb hts (fun _ h => List.mem_cons_of_mem _ (List.mem_append_right _ h)) hown hK hP 0 rfl rfl 4 (by decide) (hts (.fieldLink RX12 22 "HoldsOnceDeniedModel" "kept" "[I") (by decide +kernel)) (fun _ h9 => h9) rfl dX12_wrongRow_26 ?_
    refine lv_iload_n hx hb dX12_wrongRow_29 rfl (lv_at hl 1 rfl) ?_
    refine ho_iald (v := nI (ke y9)) hx hb hK hP 1 0 rfl rfl (by omega) (by first | decide | omega) rfl dX12_wrongRow_30 ?_
    refine lv_iconst (v := nI 2) hx hb dX12_wrongRow_31 (by decide +kernel) ?_
    refine ho_icmp_ne (tgt := 49) hx hb dX12_wrongRow_32 (by decide) (by have := gke2 y9; omega) (by omega) (fun c_32 => ?_) (fun c_32 => ?_)
    · refine lv_bipush (v := (-12)) hx hb dX12_wrongRow_49 (by decide +kernel) ?_
      refine lv_goto (tgt := 55) hx hb dX12_wrongRow_51 (by decide) ?_
      exact W.iret (v := (-12)) hx hb hr (fun T9 hT9 hW9 => ⟨_, rfl, (by first | (simp [wrR, wrS, c_17]; done) | (simp [wrR, wrS, c_17, c_32]; done) | (simp [wrR, wrS, c_17, c_32, c_46]; done) | (simp [wrR, wrS, c_17, c_32, c_46]; rfl) | (simp [wrR, wrS, c_17, c_32]; rfl)), hT9⟩) (fun q h => by cases h) dX12_wrongRow_55
    refine lv_iload_n hx hb dX12_wrongRow_35 rfl (lv_at hl 2 rfl) ?_
    refine ho_if_lt0 hx hb dX12_wrongRow_36 (tgt := 54) (by decide) (by omega) ?_
    refine lv_aload_n hx hb dX12_wrongRow_39 rfl (lv_at hl 0 rfl) ?_
    refine va_get (D := (dC, dI)) (ci := 12) (v := .ref ao) (C := RX12) (T := TX12) (N := 20) hx hb hts (fun _ h => List.mem_cons_of_mem _ (List.mem_append_right _ h)) hown hK hP 0 rfl rfl 5 (by decide) (hts (.fieldLink RX12 25 "HoldsOnceDeniedModel" "sort" "[I") (by decide +kernel)) (fun _ h9 => h9) rfl dX12_wrongRow_40 ?_
    refine lv_iload_n hx hb dX12_wrongRow_43 rfl (lv_at hl 1 rfl) ?_
    refine ho_iald (v := nI (so y9)) hx hb hK hP 2 0 rfl rfl (by omega) (by first | decide | omega) rfl dX12_wrongRow_44 ?_
    refine lv_iload_n hx hb dX12_wrongRow_45 rfl (lv_at hl 2 rfl) ?_
    refine ho_icmp_eq (tgt := 54) hx hb dX12_wrongRow_46 (by decide) (by have := gso y9; omega) (by omega) (fun c_46 => ?_) (fun c_46 => ?_)
    · refine lv_iconst (v := nI 0) hx hb dX12_wrongRow_54 (by decide +kernel) ?_
      exact W.iret (v := nI 0) hx hb hr (fun T9 hT9 hW9 => ⟨_, rfl, (by first | (simp [wrR, wrS, c_17]; done) | (simp [wrR, wrS, c_17, c_32]; done) | (simp [wrR, wrS, c_17, c_32, c_46]; done) | (simp [wrR, wrS, c_17, c_32, c_46]; rfl) | (simp [wrR, wrS, c_17, c_32]; rfl)), hT9⟩) (fun q h => by cases h) dX12_wrongRow_55
    refine lv_bipush (v := (-12)) hx hb dX12_wrongRow_49 (by decide +kernel) ?_
    refine lv_goto (tgt := 55) hx hb dX12_wrongRow_51 (by decide) ?_
    exact W.iret (v := (-12)) hx hb hr (fun T9 hT9 hW9 => ⟨_, rfl, (by first | (simp [wrR, wrS, c_17]; done) | (simp [wrR, wrS, c_17, c_32]; done) | (simp [wrR, wrS, c_17, c_32, c_46]; done) | (simp [wrR, wrS, c_17, c_32, c_46]; rfl) | (simp [wrR, wrS, c_17, c_32]; rfl)), hT9⟩) (fun q h => by cases h) dX12_wrongRow_55
  refine lv_bipush (v := (-11)) hx hb dX12_wrongRow_20 (by decide +kernel) ?_
  refine lv_goto (tgt := 55) hx hb dX12_wrongRow_22 (by decide) ?_
  exact W.iret (v := (-11)) hx hb hr (fun T9 hT9 hW9 => ⟨_, rfl, (by first | (simp [wrR, wrS, c_17]; done) | (simp [wrR, wrS, c_17, c_32]; done) | (simp [wrR, wrS, c_17, c_32, c_46]; done) | (simp [wrR, wrS, c_17, c_32, c_46]; rfl) | (simp [wrR, wrS, c_17, c_32]; rfl)), hT9⟩) (fun q h => by cases h) dX12_wrongRow_55
set_option maxHeartbeats 4000000 in
set_option maxRecDepth 100000 in
theorem c_X12_wrongRow_f0 (l : Launch) (dC : Nat → ClassId) (dI : Nat → Nat → Nat) (cI cD cR : ClassId) (y as ai ar am ak ao az ae aq af : Nat) (hi : Bool) (th : Int32) (po ba en an aw ax ap : Nat) (se : Int32) (ke : Nat → Nat) (so : Nat → Nat) (x9 : Int32) (hb9 : okI x9 8 = false) : Met l yX12_wrongRow wsX12_wrongRow ({ frames := 2, cells := 0, slots := 0, locals := 45 }) (pcR dC dI cI cD cR [.ref y, .int x9, .int (nI 0)] (fun H => va_P (dC, dI) vwCl ([(y, .inr (12, [.ref as, .ref ai, .ref ar, .ref am, .ref ak, .ref ao, .ref az, .ref ae, .ref aq, .ref af, .int (bI hi), .int th, .int (nI po), .int (nI ba), .int (nI en), .ref an, .ref aw, .ref ax, .ref ap, .int se]))] ++ [(ak, .inl (cI, 8, .inl (nF ke)))] ++ [(ao, .inl (cI, 8, .inl (nF so)))]) H)) (vp_Si (fun r => r = (-1))) 0 0 (fun _ => False) := by
  refine Met.ofW (cc := cX12_wrongRow) (maxL := 3) (ret := (some .int)) (by decide) rfl ?_
  intro p e s m args below meth c s₁ B hml hv
  obtain ⟨rfl, hH0, hCX⟩ := hv
  have hx := B.exec
  have hb := B.bytes
  have hr := B.returns
  have hts := atoms_spec (ws := wsX12_wrongRow) B.pre
  have hown : s.vm.findClass RX12 = some m.cls := findClass_of_methodNamed B.named
  have hlocks := B.notSynchronized
  have hK := hCX.1
  have hP := hH0
  have hl := lv_entry ([.ref y, .int x9, .int (nI 0)]) (n := 3) (Nat.le_of_ble_eq_true rfl)
  rw [lg_entry_eq]
  generalize (lg_sl ([.ref y, .int x9, .int (nI 0)]) ++ List.replicate (3 - (lg_sl ([.ref y, .int x9, .int (nI 0)])).length) Slot.unset).toArray = ls at hl ⊢
  have hl : lv_has ls 3 [(0, .ref y), (1, .int x9), (2, .int (nI 0))] := hl
  refine lv_iload_n hx hb dX12_wrongRow_0 rfl (lv_at hl 1 rfl) ?_
  refine vp_callSi ((va_runS (As := [.int x9]) (rest := []) ⟨hx, hb, hml, hown, hts⟩ (c_X12_isShelf_f l dC dI cI cD cR x9 (by first | omega | assumption | exact gnd _ | exact gkn _ | exact Nat.lt_trans (gkn _) (by decide) | exact Nat.lt_trans (gnd _) (by decide) | exact Nat.lt_of_le_of_lt (pcN_le _) (by decide))) (va_cwS 1 hts gX12_wrongRow_X12_isShelf rfl rfl rfl (by decide +kernel) ⟨Nat.le_of_ble_eq_true rfl, Nat.le_of_ble_eq_true rfl⟩) (preS_R hCX (trivial)) rfl rfl hl.1 rfl (lv_room (Nat.le_of_ble_eq_true rfl)) dX12_wrongRow_1 ⟨Nat.le_of_ble_eq_true (by first | rfl | decide), Nat.le_of_ble_eq_true (by first | rfl | decide)⟩).run) (fun r_1 hr_1 => ?_)
  subst hr_1
  refine lv_if_ne (tgt := 11) hx hb dX12_wrongRow_4 (by decide) (fun z => absurd z (by decide +kernel)) (fun _ => ?_)
  refine lv_iconst (v := (-1)) hx hb dX12_wrongRow_7 (by decide +kernel) ?_
  refine lv_goto (tgt := 55) hx hb dX12_wrongRow_8 (by decide) ?_
  exact W.iret (v := (-1)) hx hb hr (fun T9 hT9 hW9 => ⟨_, rfl, (by rfl), hT9⟩) (fun q h => by cases h) dX12_wrongRow_55
set_option maxHeartbeats 4000000 in
set_option maxRecDepth 100000 in
theorem c_X12_wrongRow_m (l : Launch) (dC : Nat → ClassId) (dI : Nat → Nat → Nat) (cI cD cR : ClassId) (y as ai ar am ak ao az ae aq af : Nat) (hi : Bool) (th : Int32) (po ba en an aw ax ap : Nat) (se : Int32) (ke : Nat → Nat) (so : Nat → Nat) (y9 : Nat) (hy9 : y9 < 8) (gso : ∀ j, so j < 3) (gke2 : ∀ j, ke j ≤ 2) : Met l yX12_wrongRow wsX12_wrongRow ({ frames := 2, cells := 0, slots := 0, locals := 45 }) (pcR dC dI cI cD cR [.ref y, .int (nI y9), .int (-1)] (fun H => va_P (dC, dI) vwCl ([(y, .inr (12, [.ref as, .ref ai, .ref ar, .ref am, .ref ak, .ref ao, .ref az, .ref ae, .ref aq, .ref af, .int (bI hi), .int th, .int (nI po), .int (nI ba), .int (nI en), .ref an, .ref aw, .ref ax, .ref ap, .int se]))] ++ [(ak, .inl (cI, 8, .inl (nF ke)))] ++ [(ao, .inl (cI, 8, .inl (nF so)))]) H)) (vp_Si (fun r => r = (wrS ke y9))) 0 0 (fun _ => False) := by
  refine Met.ofW (cc := cX12_wrongRow) (maxL := 3) (ret := (some .int)) (by decide) rfl ?_
  intro p e s m args below meth c s₁ B hml hv
  obtain ⟨rfl, hH0, hCX⟩ := hv
  have hx := B.exec
  have hb := B.bytes
  have hr := B.returns
  have hts := atoms_spec (ws := wsX12_wrongRow) B.pre
  have hown : s.vm.findClass RX12 = some m.cls := findClass_of_methodNamed B.named
  have hlocks := B.notSynchronized
  have hK := hCX.1
  have hP := hH0
  have hl := lv_entry ([.ref y, .int (nI y9), .int (-1)]) (n := 3) (Nat.le_of_ble_eq_true rfl)
  rw [lg_entry_eq]
  generalize (lg_sl ([.ref y, .int (nI y9), .int (-1)]) ++ List.replicate (3 - (lg_sl ([.ref y, .int (nI y9), .int (-1)])).length) Slot.unset).toArray = ls at hl ⊢
  have hl : lv_has ls 3 [(0, .ref y), (1, .int (nI y9)), (2, .int (-1))] := hl
  refine lv_iload_n hx hb dX12_wrongRow_0 rfl (lv_at hl 1 rfl) ?_
  refine vp_callSi ((va_runS (As := [.int (nI y9)]) (rest := []) ⟨hx, hb, hml, hown, hts⟩ (c_X12_isShelf_t l dC dI cI cD cR y9 (by first | omega | assumption | exact gnd _ | exact gkn _ | exact Nat.lt_trans (gkn _) (by decide) | exact Nat.lt_trans (gnd _) (by decide) | exact Nat.lt_of_le_of_lt (pcN_le _) (by decide))) (va_cwS 1 hts gX12_wrongRow_X12_isShelf rfl rfl rfl (by decide +kernel) ⟨Nat.le_of_ble_eq_true rfl, Nat.le_of_ble_eq_true rfl⟩) (preS_R hCX (trivial)) rfl rfl hl.1 rfl (lv_room (Nat.le_of_ble_eq_true rfl)) dX12_wrongRow_1 ⟨Nat.le_of_ble_eq_true (by first | rfl | decide), Nat.le_of_ble_eq_true (by first | rfl | decide)⟩).run) (fun r_1 hr_1 => ?_)
  subst hr_1
  refine lv_if_ne (tgt := 11) hx hb dX12_wrongRow_4 (by decide) (fun _ => ?_) (fun z => absurd z (by decide +kernel))
  refine lv_aload_n hx hb dX12_wrongRow_11 rfl (lv_at hl 0 rfl) ?_
  refine va_get (D := (dC, dI)) (ci := 12) (v := .ref ak) (C := RX12) (T := TX12) (N := 20) hx hb hts (fun _ h => List.mem_cons_of_mem _ (List.mem_append_right _ h)) hown hK hP 0 rfl rfl 4 (by decide) (hts (.fieldLink RX12 22 "HoldsOnceDeniedModel" "kept" "[I") (by decide +kernel)) (fun _ h9 => h9) rfl dX12_wrongRow_12 ?_
  refine lv_iload_n hx hb dX12_wrongRow_15 rfl (lv_at hl 1 rfl) ?_
  refine ho_iald (v := nI (ke y9)) hx hb hK hP 1 0 rfl rfl (by omega) (by first | decide | omega) rfl dX12_wrongRow_16 ?_
  refine ho_if_ne (tgt := 25) hx hb dX12_wrongRow_17 (by decide) (by have := gke2 y9; omega) (fun c_17 => ?_) (fun c_17 => ?_)
  · refine lv_aload_n hx hb dX12_wrongRow_25 rfl (lv_at hl 0 rfl) ?_
    refine va_get (D := (dC, dI)) (ci := 12) (v := .ref ak) (C := RX12) (T := TX12) (N := 20) hx hb hts (fun _ h => List.mem_cons_of_mem _ (List.mem_append_right _ h)) hown hK hP 0 rfl rfl 4 (by decide) (hts (.fieldLink RX12 22 "HoldsOnceDeniedModel" "kept" "[I") (by decide +kernel)) (fun _ h9 => h9) rfl dX12_wrongRow_26 ?_
    refine lv_iload_n hx hb dX12_wrongRow_29 rfl (lv_at hl 1 rfl) ?_
    refine ho_iald (v := nI (ke y9)) hx hb hK hP 1 0 rfl rfl (by omega) (by first | decide | omega) rfl dX12_wrongRow_30 ?_
    refine lv_iconst (v := nI 2) hx hb dX12_wrongRow_31 (by decide +kernel) ?_
    refine ho_icmp_ne (tgt := 49) hx hb dX12_wrongRow_32 (by decide) (by have := gke2 y9; omega) (by omega) (fun c_32 => ?_) (fun c_32 => ?_)
    · refine lv_bipush (v := (-12)) hx hb dX12_wrongRow_49 (by decide +kernel) ?_
      refine lv_goto (tgt := 55) hx hb dX12_wrongRow_51 (by decide) ?_
      exact W.iret (v := (-12)) hx hb hr (fun T9 hT9 hW9 => ⟨_, rfl, (by first | (simp [wrR, wrS, c_17]; done) | (simp [wrR, wrS, c_17, c_32]; done) | (simp [wrR, wrS, c_17, c_32, c_46]; done) | (simp [wrR, wrS, c_17, c_32, c_46]; rfl) | (simp [wrR, wrS, c_17, c_32]; rfl)), hT9⟩) (fun q h => by cases h) dX12_wrongRow_55
    refine lv_iload_n hx hb dX12_wrongRow_35 rfl (lv_at hl 2 rfl) ?_
    refine lv_if_lt (tgt := 54) hx hb dX12_wrongRow_36 (by decide) (fun _ => ?_) (fun z => absurd z (by decide +kernel))
    refine lv_iconst (v := nI 0) hx hb dX12_wrongRow_54 (by decide +kernel) ?_
    exact W.iret (v := nI 0) hx hb hr (fun T9 hT9 hW9 => ⟨_, rfl, (by first | (simp [wrR, wrS, c_17]; done) | (simp [wrR, wrS, c_17, c_32]; done) | (simp [wrR, wrS, c_17, c_32, c_46]; done) | (simp [wrR, wrS, c_17, c_32, c_46]; rfl) | (simp [wrR, wrS, c_17, c_32]; rfl)), hT9⟩) (fun q h => by cases h) dX12_wrongRow_55
  refine lv_bipush (v := (-11)) hx hb dX12_wrongRow_20 (by decide +kernel) ?_
  refine lv_goto (tgt := 55) hx hb dX12_wrongRow_22 (by decide) ?_
  exact W.iret (v := (-11)) hx hb hr (fun T9 hT9 hW9 => ⟨_, rfl, (by first | (simp [wrR, wrS, c_17]; done) | (simp [wrR, wrS, c_17, c_32]; done) | (simp [wrR, wrS, c_17, c_32, c_46]; done) | (simp [wrR, wrS, c_17, c_32, c_46]; rfl) | (simp [wrR, wrS, c_17, c_32]; rfl)), hT9⟩) (fun q h => by cases h) dX12_wrongRow_55
set_option maxHeartbeats 4000000 in
set_option maxRecDepth 100000 in
theorem c_X12_wrongRow_fm (l : Launch) (dC : Nat → ClassId) (dI : Nat → Nat → Nat) (cI cD cR : ClassId) (y as ai ar am ak ao az ae aq af : Nat) (hi : Bool) (th : Int32) (po ba en an aw ax ap : Nat) (se : Int32) (ke : Nat → Nat) (so : Nat → Nat) (x9 : Int32) (hb9 : okI x9 8 = false) : Met l yX12_wrongRow wsX12_wrongRow ({ frames := 2, cells := 0, slots := 0, locals := 45 }) (pcR dC dI cI cD cR [.ref y, .int x9, .int (-1)] (fun H => va_P (dC, dI) vwCl ([(y, .inr (12, [.ref as, .ref ai, .ref ar, .ref am, .ref ak, .ref ao, .ref az, .ref ae, .ref aq, .ref af, .int (bI hi), .int th, .int (nI po), .int (nI ba), .int (nI en), .ref an, .ref aw, .ref ax, .ref ap, .int se]))] ++ [(ak, .inl (cI, 8, .inl (nF ke)))] ++ [(ao, .inl (cI, 8, .inl (nF so)))]) H)) (vp_Si (fun r => r = (-1))) 0 0 (fun _ => False) := by
  refine Met.ofW (cc := cX12_wrongRow) (maxL := 3) (ret := (some .int)) (by decide) rfl ?_
  intro p e s m args below meth c s₁ B hml hv
  obtain ⟨rfl, hH0, hCX⟩ := hv
  have hx := B.exec
  have hb := B.bytes
  have hr := B.returns
  have hts := atoms_spec (ws := wsX12_wrongRow) B.pre
  have hown : s.vm.findClass RX12 = some m.cls := findClass_of_methodNamed B.named
  have hlocks := B.notSynchronized
  have hK := hCX.1
  have hP := hH0
  have hl := lv_entry ([.ref y, .int x9, .int (-1)]) (n := 3) (Nat.le_of_ble_eq_true rfl)
  rw [lg_entry_eq]
  generalize (lg_sl ([.ref y, .int x9, .int (-1)]) ++ List.replicate (3 - (lg_sl ([.ref y, .int x9, .int (-1)])).length) Slot.unset).toArray = ls at hl ⊢
  have hl : lv_has ls 3 [(0, .ref y), (1, .int x9), (2, .int (-1))] := hl
  refine lv_iload_n hx hb dX12_wrongRow_0 rfl (lv_at hl 1 rfl) ?_
  refine vp_callSi ((va_runS (As := [.int x9]) (rest := []) ⟨hx, hb, hml, hown, hts⟩ (c_X12_isShelf_f l dC dI cI cD cR x9 (by first | omega | assumption | exact gnd _ | exact gkn _ | exact Nat.lt_trans (gkn _) (by decide) | exact Nat.lt_trans (gnd _) (by decide) | exact Nat.lt_of_le_of_lt (pcN_le _) (by decide))) (va_cwS 1 hts gX12_wrongRow_X12_isShelf rfl rfl rfl (by decide +kernel) ⟨Nat.le_of_ble_eq_true rfl, Nat.le_of_ble_eq_true rfl⟩) (preS_R hCX (trivial)) rfl rfl hl.1 rfl (lv_room (Nat.le_of_ble_eq_true rfl)) dX12_wrongRow_1 ⟨Nat.le_of_ble_eq_true (by first | rfl | decide), Nat.le_of_ble_eq_true (by first | rfl | decide)⟩).run) (fun r_1 hr_1 => ?_)
  subst hr_1
  refine lv_if_ne (tgt := 11) hx hb dX12_wrongRow_4 (by decide) (fun z => absurd z (by decide +kernel)) (fun _ => ?_)
  refine lv_iconst (v := (-1)) hx hb dX12_wrongRow_7 (by decide +kernel) ?_
  refine lv_goto (tgt := 55) hx hb dX12_wrongRow_8 (by decide) ?_
  exact W.iret (v := (-1)) hx hb hr (fun T9 hT9 hW9 => ⟨_, rfl, (by rfl), hT9⟩) (fun q h => by cases h) dX12_wrongRow_55
set_option maxHeartbeats 4000000 in
set_option maxRecDepth 100000 in
theorem c_X12_wrongKept_n (l : Launch) (dC : Nat → ClassId) (dI : Nat → Nat → Nat) (cI cD cR : ClassId) (y as ai ar am ak ao az ae aq af : Nat) (hi : Bool) (th : Int32) (po ba en an aw ax ap : Nat) (se : Int32) (ke : Nat → Nat) (y9 : Nat) (hy9 : y9 < 8) (gke2 : ∀ j, ke j ≤ 2) : Met l yX12_wrongKept wsX12_wrongKept ({ frames := 2, cells := 0, slots := 0, locals := 45 }) (pcR dC dI cI cD cR [.ref y, .int (nI y9)] (fun H => va_P (dC, dI) vwCl ([(y, .inr (12, [.ref as, .ref ai, .ref ar, .ref am, .ref ak, .ref ao, .ref az, .ref ae, .ref aq, .ref af, .int (bI hi), .int th, .int (nI po), .int (nI ba), .int (nI en), .ref an, .ref aw, .ref ax, .ref ap, .int se]))] ++ [(ak, .inl (cI, 8, .inl (nF ke)))]) H)) (vp_Si (fun r => r = (wkR ke y9))) 0 0 (fun _ => False) := by
  refine Met.ofW (cc := cX12_wrongKept) (maxL := 2) (ret := (some .int)) (by decide) rfl ?_
  intro p e s m args below meth c s₁ B hml hv
  obtain ⟨rfl, hH0, hCX⟩ := hv
  have hx := B.exec
  have hb := B.bytes
  have hr := B.returns
  have hts := atoms_spec (ws := wsX12_wrongKept) B.pre
  have hown : s.vm.findClass RX12 = some m.cls := findClass_of_methodNamed B.named
  have hlocks := B.notSynchronized
  have hK := hCX.1
  have hP := hH0
  have hl := lv_entry ([.ref y, .int (nI y9)]) (n := 2) (Nat.le_of_ble_eq_true rfl)
  rw [lg_entry_eq]
  generalize (lg_sl ([.ref y, .int (nI y9)]) ++ List.replicate (2 - (lg_sl ([.ref y, .int (nI y9)])).length) Slot.unset).toArray = ls at hl ⊢
  have hl : lv_has ls 2 [(0, .ref y), (1, .int (nI y9))] := hl
  refine lv_iload_n hx hb dX12_wrongKept_0 rfl (lv_at hl 1 rfl) ?_
  refine vp_callSi ((va_runS (As := [.int (nI y9)]) (rest := []) ⟨hx, hb, hml, hown, hts⟩ (c_X12_isShelf_t l dC dI cI cD cR y9 (by first | omega | assumption | exact gnd _ | exact gkn _ | exact Nat.lt_trans (gkn _) (by decide) | exact Nat.lt_trans (gnd _) (by decide) | exact Nat.lt_of_le_of_lt (pcN_le _) (by decide))) (va_cwS 1 hts gX12_wrongKept_X12_isShelf rfl rfl rfl (by decide +kernel) ⟨Nat.le_of_ble_eq_true rfl, Nat.le_of_ble_eq_true rfl⟩) (preS_R hCX (trivial)) rfl rfl hl.1 rfl (lv_room (Nat.le_of_ble_eq_true rfl)) dX12_wrongKept_1 ⟨Nat.le_of_ble_eq_true (by first | rfl | decide), Nat.le_of_ble_eq_true (by first | rfl | decide)⟩).run) (fun r_1 hr_1 => ?_)
  subst hr_1
  refine lv_if_ne (tgt := 11) hx hb dX12_wrongKept_4 (by decide) (fun _ => ?_) (fun z => absurd z (by decide +kernel))
  refine lv_aload_n hx hb dX12_wrongKept_11 rfl (lv_at hl 0 rfl) ?_
  refine va_get (D := (dC, dI)) (ci := 12) (v := .ref ak) (C := RX12) (T := TX12) (N := 20) hx hb hts (fun _ h => List.mem_cons_of_mem _ (List.mem_append_right _ h)) hown hK hP 0 rfl rfl 4 (by decide) (hts (.fieldLink RX12 22 "HoldsOnceDeniedModel" "kept" "[I") (by decide +kernel)) (fun _ h9 => h9) rfl dX12_wrongKept_12 ?_
  refine lv_iload_n hx hb dX12_wrongKept_15 rfl (lv_at hl 1 rfl) ?_
  refine ho_iald (v := nI (ke y9)) hx hb hK hP 1 0 rfl rfl (by omega) (by first | decide | omega) rfl dX12_wrongKept_16 ?_
  refine ho_if_ne (tgt := 25) hx hb dX12_wrongKept_17 (by decide) (by have := gke2 y9; omega) (fun c_17 => ?_) (fun c_17 => ?_)
  · refine lv_aload_n hx hb dX12_wrongKept_25 rfl (lv_at hl 0 rfl) ?_
    refine va_get (D := (dC, dI)) (ci := 12) (v := .ref ak) (C := RX12) (T := TX12) (N := 20) hx hb hts (fun _ h => List.mem_cons_of_mem _ (List.mem_append_right _ h)) hown hK hP 0 rfl rfl 4 (by decide) (hts (.fieldLink RX12 22 "HoldsOnceDeniedModel" "kept" "[I") (by decide +kernel)) (fun _ h9 => h9) rfl dX12_wrongKept_26 ?_
    refine lv_iload_n hx hb dX12_wrongKept_29 rfl (lv_at hl 1 rfl) ?_
    refine ho_iald (v := nI (ke y9)) hx hb hK hP 1 0 rfl rfl (by omega) (by first | decide | omega) rfl dX12_wrongKept_30 ?_
    refine lv_iconst (v := nI 1) hx hb dX12_wrongKept_31 (by decide +kernel) ?_
    refine ho_icmp_ne (tgt := 39) hx hb dX12_wrongKept_32 (by decide) (by have := gke2 y9; omega) (by omega) (fun c_32 => ?_) (fun c_32 => ?_)
    · refine lv_bipush (v := (-12)) hx hb dX12_wrongKept_39 (by decide +kernel) ?_
      exact W.iret (v := (-12)) hx hb hr (fun T9 hT9 hW9 => ⟨_, rfl, (by first | (simp [wkR, c_17]; done) | (simp [wkR, c_17, c_32]; done) | (simp [wkR, c_17, c_32]; rfl)), hT9⟩) (fun q h => by cases h) dX12_wrongKept_41
    refine lv_iconst (v := nI 0) hx hb dX12_wrongKept_35 (by decide +kernel) ?_
    refine lv_goto (tgt := 41) hx hb dX12_wrongKept_36 (by decide) ?_
    exact W.iret (v := nI 0) hx hb hr (fun T9 hT9 hW9 => ⟨_, rfl, (by first | (simp [wkR, c_17]; done) | (simp [wkR, c_17, c_32]; done) | (simp [wkR, c_17, c_32]; rfl)), hT9⟩) (fun q h => by cases h) dX12_wrongKept_41
  refine lv_bipush (v := (-11)) hx hb dX12_wrongKept_20 (by decide +kernel) ?_
  refine lv_goto (tgt := 41) hx hb dX12_wrongKept_22 (by decide) ?_
  exact W.iret (v := (-11)) hx hb hr (fun T9 hT9 hW9 => ⟨_, rfl, (by first | (simp [wkR, c_17]; done) | (simp [wkR, c_17, c_32]; done) | (simp [wkR, c_17, c_32]; rfl)), hT9⟩) (fun q h => by cases h) dX12_wrongKept_41
set_option maxHeartbeats 4000000 in
set_option maxRecDepth 100000 in
theorem c_X12_wrongKept_f (l : Launch) (dC : Nat → ClassId) (dI : Nat → Nat → Nat) (cI cD cR : ClassId) (y as ai ar am ak ao az ae aq af : Nat) (hi : Bool) (th : Int32) (po ba en an aw ax ap : Nat) (se : Int32) (ke : Nat → Nat) (x9 : Int32) (hb9 : okI x9 8 = false) : Met l yX12_wrongKept wsX12_wrongKept ({ frames := 2, cells := 0, slots := 0, locals := 45 }) (pcR dC dI cI cD cR [.ref y, .int x9] (fun H => va_P (dC, dI) vwCl ([(y, .inr (12, [.ref as, .ref ai, .ref ar, .ref am, .ref ak, .ref ao, .ref az, .ref ae, .ref aq, .ref af, .int (bI hi), .int th, .int (nI po), .int (nI ba), .int (nI en), .ref an, .ref aw, .ref ax, .ref ap, .int se]))] ++ [(ak, .inl (cI, 8, .inl (nF ke)))]) H)) (vp_Si (fun r => r = (-1))) 0 0 (fun _ => False) := by
  refine Met.ofW (cc := cX12_wrongKept) (maxL := 2) (ret := (some .int)) (by decide) rfl ?_
  intro p e s m args below meth c s₁ B hml hv
  obtain ⟨rfl, hH0, hCX⟩ := hv
  have hx := B.exec
  have hb := B.bytes
  have hr := B.returns
  have hts := atoms_spec (ws := wsX12_wrongKept) B.pre
  have hown : s.vm.findClass RX12 = some m.cls := findClass_of_methodNamed B.named
  have hlocks := B.notSynchronized
  have hK := hCX.1
  have hP := hH0
  have hl := lv_entry ([.ref y, .int x9]) (n := 2) (Nat.le_of_ble_eq_true rfl)
  rw [lg_entry_eq]
  generalize (lg_sl ([.ref y, .int x9]) ++ List.replicate (2 - (lg_sl ([.ref y, .int x9])).length) Slot.unset).toArray = ls at hl ⊢
  have hl : lv_has ls 2 [(0, .ref y), (1, .int x9)] := hl
  refine lv_iload_n hx hb dX12_wrongKept_0 rfl (lv_at hl 1 rfl) ?_
  refine vp_callSi ((va_runS (As := [.int x9]) (rest := []) ⟨hx, hb, hml, hown, hts⟩ (c_X12_isShelf_f l dC dI cI cD cR x9 (by first | omega | assumption | exact gnd _ | exact gkn _ | exact Nat.lt_trans (gkn _) (by decide) | exact Nat.lt_trans (gnd _) (by decide) | exact Nat.lt_of_le_of_lt (pcN_le _) (by decide))) (va_cwS 1 hts gX12_wrongKept_X12_isShelf rfl rfl rfl (by decide +kernel) ⟨Nat.le_of_ble_eq_true rfl, Nat.le_of_ble_eq_true rfl⟩) (preS_R hCX (trivial)) rfl rfl hl.1 rfl (lv_room (Nat.le_of_ble_eq_true rfl)) dX12_wrongKept_1 ⟨Nat.le_of_ble_eq_true (by first | rfl | decide), Nat.le_of_ble_eq_true (by first | rfl | decide)⟩).run) (fun r_1 hr_1 => ?_)
  subst hr_1
  refine lv_if_ne (tgt := 11) hx hb dX12_wrongKept_4 (by decide) (fun z => absurd z (by decide +kernel)) (fun _ => ?_)
  refine lv_iconst (v := (-1)) hx hb dX12_wrongKept_7 (by decide +kernel) ?_
  refine lv_goto (tgt := 41) hx hb dX12_wrongKept_8 (by decide) ?_
  exact W.iret (v := (-1)) hx hb hr (fun T9 hT9 hW9 => ⟨_, rfl, (by rfl), hT9⟩) (fun q h => by cases h) dX12_wrongKept_41
set_option maxHeartbeats 4000000 in
set_option maxRecDepth 100000 in
theorem c_X12_joins (l : Launch) (dC : Nat → ClassId) (dI : Nat → Nat → Nat) (cI cD cR : ClassId) (y as ai ar am ak ao az ae aq af : Nat) (hi : Bool) (th : Int32) (po ba en an aw ax ap : Nat) (se : Int32) (n d t day al : Nat) (nd : Nat → Nat) (bb oo : Nat → Int32) (K F kn : Nat → Nat) (k9 f9 : Nat) (sz : Nat) (hn : n ≤ 9) (hd : d ≤ 7) (ht : t < 512) (hal : al < 128) (hday : day < 2 ^ 30) (gnd : ∀ i, nd i < 512) (gkn : ∀ j, kn j < 512) (gK : ∀ j, K j < 8) (gF : ∀ j, F j < 10) (hk9 : k9 < 8) (hf9 : f9 < 10) (hd6 : d ≤ 6) : Met l yX12_joins wsX12_joins ({ frames := 1, cells := 0, slots := 0, locals := 23 }) (pcR dC dI cI cD cR [.ref y, .int (nI k9), .int (nI f9)] (fun H => H.size = sz ∧ va_P (dC, dI) vwCl ([(y, .inr (12, [.ref as, .ref ai, .ref ar, .ref am, .ref ak, .ref ao, .ref az, .ref ae, .ref aq, .ref af, .int (bI hi), .int th, .int (nI po), .int (nI ba), .int (nI en), .ref an, .ref aw, .ref ax, .ref ap, .int se]))] ++ [(as, .inl (cI, 53, .inl (sF n d t day al nd bb oo K F kn)))]) H ∧ va_D (fun _ => True) ([(y, .inr (12, [.ref as, .ref ai, .ref ar, .ref am, .ref ak, .ref ao, .ref az, .ref ae, .ref aq, .ref af, .int (bI hi), .int th, .int (nI po), .int (nI ba), .int (nI en), .ref an, .ref aw, .ref ax, .ref ap, .int se]))] ++ [(as, .inl (cI, 53, .inl (sF n d t day al nd bb oo K F kn)))]))) (va_Qv (fun (_ : Unit) => True) (fun (_ : Unit) T9 => va_P (dC, dI) vwCl ([(y, .inr (12, [.ref as, .ref ai, .ref ar, .ref am, .ref ak, .ref ao, .ref az, .ref ae, .ref aq, .ref af, .int (bI hi), .int th, .int (nI po), .int (nI ba), .int (nI en), .ref an, .ref aw, .ref ax, .ref ap, .int se]))] ++ [(as, .inl (cI, 53, .inl (sF n (d + 1) t day (al ||| 2 ^ d) nd bb oo (va_up K d k9) (va_up F d f9) (va_up kn d 0))))]) T9.heap ∧ va_D (va_A ([(y, .inr (12, [.ref as, .ref ai, .ref ar, .ref am, .ref ak, .ref ao, .ref az, .ref ae, .ref aq, .ref af, .int (bI hi), .int th, .int (nI po), .int (nI ba), .int (nI en), .ref an, .ref aw, .ref ax, .ref ap, .int se]))] ++ [(as, .inl (cI, 53, .inl (sF n d t day al nd bb oo K F kn)))]) sz) ([(y, .inr (12, [.ref as, .ref ai, .ref ar, .ref am, .ref ak, .ref ao, .ref az, .ref ae, .ref aq, .ref af, .int (bI hi), .int th, .int (nI po), .int (nI ba), .int (nI en), .ref an, .ref aw, .ref ax, .ref ap, .int se]))] ++ [(as, .inl (cI, 53, .inl (sF n (d + 1) t day (al ||| 2 ^ d) nd bb oo (va_up K d k9) (va_up F d f9) (va_up kn d 0))))])) (va_A ([(y, .inr (12, [.ref as, .ref ai, .ref ar, .ref am, .ref ak, .ref ao, .ref az, .ref ae, .ref aq, .ref af, .int (bI hi), .int th, .int (nI po), .int (nI ba), .int (nI en), .ref an, .ref aw, .ref ax, .ref ap, .int se]))] ++ [(as, .inl (cI, 53, .inl (sF n d t day al nd bb oo K F kn)))]) sz)) 0 0 (va_A ([(y, .inr (12, [.ref as, .ref ai, .ref ar, .ref am, .ref ak, .ref ao, .ref az, .ref ae, .ref aq, .ref af, .int (bI hi), .int th, .int (nI po), .int (nI ba), .int (nI en), .ref an, .ref aw, .ref ax, .ref ap, .int se]))] ++ [(as, .inl (cI, 53, .inl (sF n d t day al nd bb oo K F kn)))]) sz) := by
  refine Met.ofW (cc := cX12_joins) (maxL := 4) (ret := none) (by decide) rfl ?_
  intro p e s m args below meth c s₁ B hml hv
  obtain ⟨rfl, hH0, hCX⟩ := hv
  have hx := B.exec
  have hb := B.bytes
  have hr := B.returns
  have hts := atoms_spec (ws := wsX12_joins) B.pre
  have hown : s.vm.findClass RX12 = some m.cls := findClass_of_methodNamed B.named
  have hlocks := B.notSynchronized
  have hK := hCX.1
  obtain ⟨hsz, hP, hD0⟩ := hH0
  subst hsz
  have hD := hD0.self (sz := s.heap.size)
  generalize hAe : va_A ([(y, .inr (12, [.ref as, .ref ai, .ref ar, .ref am, .ref ak, .ref ao, .ref az, .ref ae, .ref aq, .ref af, .int (bI hi), .int th, .int (nI po), .int (nI ba), .int (nI en), .ref an, .ref aw, .ref ax, .ref ap, .int se]))] ++ [(as, .inl (cI, 53, .inl (sF n d t day al nd bb oo K F kn)))]) s.heap.size = A at hD ⊢
  have hA : ∀ q : Nat, s.heap.size ≤ q → A q := fun q h => by rw [← hAe]; exact Or.inr h
  have hS : va_S A s.heap s.heap [] := va_S.rf
  have hP : va_P (dC, dI) vwCl ([(y, .inr (12, [.ref as, .ref ai, .ref ar, .ref am, .ref ak, .ref ao, .ref az, .ref ae, .ref aq, .ref af, .int (bI hi), .int th, .int (nI po), .int (nI ba), .int (nI en), .ref an, .ref aw, .ref ax, .ref ap, .int se]))] ++ [(as, .inl (cI, 53, .inl (sF n d t day al nd bb oo K F kn)))]) s.heap := hP
  have hl := lv_entry ([.ref y, .int (nI k9), .int (nI f9)]) (n := 4) (Nat.le_of_ble_eq_true rfl)
  rw [lg_entry_eq]
  generalize (lg_sl ([.ref y, .int (nI k9), .int (nI f9)]) ++ List.replicate (4 - (lg_sl ([.ref y, .int (nI k9), .int (nI f9)])).length) Slot.unset).toArray = ls at hl ⊢
  have hl : lv_has ls 4 [(0, .ref y), (1, .int (nI k9)), (2, .int (nI f9))] := hl
  refine lv_aload_n hx hb dX12_joins_0 rfl (lv_at hl 0 rfl) ?_
  refine va_get (D := (dC, dI)) (ci := 12) (v := .ref as) (C := RX12) (T := TX12) (N := 20) hx hb hts (fun _ h => List.mem_cons_of_mem _ (List.mem_append_right _ h)) hown hK hP 0 rfl rfl 0 (by decide) (hts (.fieldLink RX12 9 "HoldsOnceDeniedModel" "s" "[I") (by decide +kernel)) (fun _ h9 => h9) rfl dX12_joins_1 ?_
  refine lv_iconst (v := nI 1) hx hb dX12_joins_4 (by decide +kernel) ?_
  refine ho_iald (v := nI d) hx hb hK hP 1 0 rfl rfl (by omega) (by first | decide | omega) rfl dX12_joins_5 ?_
  refine lv_istore_n (lv' := [(3, .int (nI d)), (0, .ref y), (1, .int (nI k9)), (2, .int (nI f9))]) hx hb dX12_joins_6 rfl hl (by decide) rfl (fun ls hl => ?_)
  refine lv_aload_n hx hb dX12_joins_7 rfl (lv_at hl 1 rfl) ?_
  refine lv_iload_n hx hb dX12_joins_8 rfl (lv_at hl 0 rfl) ?_
  refine lv_iconst (v := nI 0) hx hb dX12_joins_9 (by decide +kernel) ?_
  refine lv_iload_n hx hb dX12_joins_10 rfl (lv_at hl 2 rfl) ?_
  have hPc := hP
  have hDc := hD
  have hFc := va_free (wc := [(y, .inr (12, [.ref as, .ref ai, .ref ar, .ref am, .ref ak, .ref ao, .ref az, .ref ae, .ref aq, .ref af, .int (bI hi), .int th, .int (nI po), .int (nI ba), .int (nI en), .ref an, .ref aw, .ref ax, .ref ap, .int se]))] ++ [(as, .inl (cI, 53, .inl (sF n d t day al nd bb oo K F kn)))]) hD hS hA [0, 1] rfl
  refine va_callv (va_runV (As := [.int (nI d), .int (nI 0), .int (nI k9)]) (rest := []) ⟨hx, hb, hml, hown, hts⟩ (c_X12_puts_0 l dC dI cI cD cR y as ai ar am ak ao az ae aq af hi th po ba en an aw ax ap se n d t day al nd bb oo K F kn d k9 s.heap.size (by first | omega | assumption | exact gnd _ | exact gkn _ | exact Nat.lt_trans (gkn _) (by decide) | exact Nat.lt_trans (gnd _) (by decide) | exact Nat.lt_of_le_of_lt (pcN_le _) (by decide)) (by first | omega | assumption | exact gnd _ | exact gkn _ | exact Nat.lt_trans (gkn _) (by decide) | exact Nat.lt_trans (gnd _) (by decide) | exact Nat.lt_of_le_of_lt (pcN_le _) (by decide)) (by first | omega | assumption | exact gnd _ | exact gkn _ | exact Nat.lt_trans (gkn _) (by decide) | exact Nat.lt_trans (gnd _) (by decide) | exact Nat.lt_of_le_of_lt (pcN_le _) (by decide)) (by first | omega | assumption | exact gnd _ | exact gkn _ | exact Nat.lt_trans (gkn _) (by decide) | exact Nat.lt_trans (gnd _) (by decide) | exact Nat.lt_of_le_of_lt (pcN_le _) (by decide)) (by first | omega | assumption | exact gnd _ | exact gkn _ | exact Nat.lt_trans (gkn _) (by decide) | exact Nat.lt_trans (gnd _) (by decide) | exact Nat.lt_of_le_of_lt (pcN_le _) (by decide)) gnd gkn gK gF (by first | omega | assumption | exact gnd _ | exact gkn _ | exact Nat.lt_trans (gkn _) (by decide) | exact Nat.lt_trans (gnd _) (by decide) | exact Nat.lt_of_le_of_lt (pcN_le _) (by decide))) (cwV 3 hts gX12_joins_X12_puts rfl rfl rfl (by decide +kernel) ⟨Nat.le_of_ble_eq_true rfl, Nat.le_of_ble_eq_true rfl⟩) (preV_R hCX (va_recv hK hP (ci := 12) (q0 := 0) rfl rfl) ⟨rfl, hPc, hDc.weaken (fun _ _ _ _ => trivial)⟩) rfl rfl hl.1 rfl (lv_room (Nat.le_of_ble_eq_true rfl)) dX12_joins_11 ⟨Nat.le_of_ble_eq_true (by first | rfl | decide), Nat.le_of_ble_eq_true (by first | rfl | decide)⟩) hS (fun q _ h => hFc q h) hFc (fun u T8 H1 locs hT8 hvm hw hB hz1 hk1 hS => ?_)
  obtain ⟨hP1, hD1⟩ := hB
  rw [hT8] at hP1
  obtain ⟨hP, hD⟩ := va_join (wr := []) (w1 := [(y, .inr (12, [.ref as, .ref ai, .ref ar, .ref am, .ref ak, .ref ao, .ref az, .ref ae, .ref aq, .ref af, .int (bI hi), .int th, .int (nI po), .int (nI ba), .int (nI en), .ref an, .ref aw, .ref ax, .ref ap, .int se]))] ++ [(as, .inl (cI, 53, .inl (sF n d t day al nd bb oo (va_up K d k9) F kn)))]) hP hD [0, 1] [] rfl rfl (by decide) (by decide) hk1 hFc hP1 hD1
  generalize H1 = H at hP hS ⊢
  have hP : va_P (dC, dI) vwCl ([(y, .inr (12, [.ref as, .ref ai, .ref ar, .ref am, .ref ak, .ref ao, .ref az, .ref ae, .ref aq, .ref af, .int (bI hi), .int th, .int (nI po), .int (nI ba), .int (nI en), .ref an, .ref aw, .ref ax, .ref ap, .int se]))] ++ [(as, .inl (cI, 53, .inl (sF n d t day al nd bb oo (va_up K d k9) F kn)))]) H := hP
  have hD : va_D A ([(y, .inr (12, [.ref as, .ref ai, .ref ar, .ref am, .ref ak, .ref ao, .ref az, .ref ae, .ref aq, .ref af, .int (bI hi), .int th, .int (nI po), .int (nI ba), .int (nI en), .ref an, .ref aw, .ref ax, .ref ap, .int se]))] ++ [(as, .inl (cI, 53, .inl (sF n d t day al nd bb oo (va_up K d k9) F kn)))]) := hD
  refine lv_aload_n hx hb dX12_joins_14 rfl (lv_at hl 1 rfl) ?_
  refine lv_iload_n hx hb dX12_joins_15 rfl (lv_at hl 0 rfl) ?_
  refine lv_iconst (v := nI 1) hx hb dX12_joins_16 (by decide +kernel) ?_
  refine lv_iload_n hx hb dX12_joins_17 rfl (lv_at hl 3 rfl) ?_
  have hPc := hP
  have hDc := hD
  have hFc := va_free (wc := [(y, .inr (12, [.ref as, .ref ai, .ref ar, .ref am, .ref ak, .ref ao, .ref az, .ref ae, .ref aq, .ref af, .int (bI hi), .int th, .int (nI po), .int (nI ba), .int (nI en), .ref an, .ref aw, .ref ax, .ref ap, .int se]))] ++ [(as, .inl (cI, 53, .inl (sF n d t day al nd bb oo (va_up K d k9) F kn)))]) hD hS hA [0, 1] rfl
  refine va_callv (va_runV (As := [.int (nI d), .int (nI 1), .int (nI f9)]) (rest := []) ⟨hx, hb, hml, hown, hts⟩ (c_X12_puts_1 l dC dI cI cD cR y as ai ar am ak ao az ae aq af hi th po ba en an aw ax ap se n d t day al nd bb oo (va_up K d k9) F kn d f9 H.size (by first | omega | assumption | exact gnd _ | exact gkn _ | exact Nat.lt_trans (gkn _) (by decide) | exact Nat.lt_trans (gnd _) (by decide) | exact Nat.lt_of_le_of_lt (pcN_le _) (by decide)) (by first | omega | assumption | exact gnd _ | exact gkn _ | exact Nat.lt_trans (gkn _) (by decide) | exact Nat.lt_trans (gnd _) (by decide) | exact Nat.lt_of_le_of_lt (pcN_le _) (by decide)) (by first | omega | assumption | exact gnd _ | exact gkn _ | exact Nat.lt_trans (gkn _) (by decide) | exact Nat.lt_trans (gnd _) (by decide) | exact Nat.lt_of_le_of_lt (pcN_le _) (by decide)) (by first | omega | assumption | exact gnd _ | exact gkn _ | exact Nat.lt_trans (gkn _) (by decide) | exact Nat.lt_trans (gnd _) (by decide) | exact Nat.lt_of_le_of_lt (pcN_le _) (by decide)) (by first | omega | assumption | exact gnd _ | exact gkn _ | exact Nat.lt_trans (gkn _) (by decide) | exact Nat.lt_trans (gnd _) (by decide) | exact Nat.lt_of_le_of_lt (pcN_le _) (by decide)) gnd gkn (up_8 gK hk9) gF (by first | omega | assumption | exact gnd _ | exact gkn _ | exact Nat.lt_trans (gkn _) (by decide) | exact Nat.lt_trans (gnd _) (by decide) | exact Nat.lt_of_le_of_lt (pcN_le _) (by decide))) (cwV 3 hts gX12_joins_X12_puts rfl rfl rfl (by decide +kernel) ⟨Nat.le_of_ble_eq_true rfl, Nat.le_of_ble_eq_true rfl⟩) (preV_R hCX (va_recv hK hP (ci := 12) (q0 := 0) rfl rfl) ⟨rfl, hPc, hDc.weaken (fun _ _ _ _ => trivial)⟩) rfl rfl hl.1 rfl (lv_room (Nat.le_of_ble_eq_true rfl)) dX12_joins_18 ⟨Nat.le_of_ble_eq_true (by first | rfl | decide), Nat.le_of_ble_eq_true (by first | rfl | decide)⟩) hS (fun q _ h => hFc q h) hFc (fun u T8 H1 locs hT8 hvm hw hB hz1 hk1 hS => ?_)
  obtain ⟨hP1, hD1⟩ := hB
  rw [hT8] at hP1
  obtain ⟨hP, hD⟩ := va_join (wr := []) (w1 := [(y, .inr (12, [.ref as, .ref ai, .ref ar, .ref am, .ref ak, .ref ao, .ref az, .ref ae, .ref aq, .ref af, .int (bI hi), .int th, .int (nI po), .int (nI ba), .int (nI en), .ref an, .ref aw, .ref ax, .ref ap, .int se]))] ++ [(as, .inl (cI, 53, .inl (sF n d t day al nd bb oo (va_up K d k9) (va_up F d f9) kn)))]) hP hD [0, 1] [] rfl rfl (by decide) (by decide) hk1 hFc hP1 hD1
  generalize H1 = H at hP hS ⊢
  have hP : va_P (dC, dI) vwCl ([(y, .inr (12, [.ref as, .ref ai, .ref ar, .ref am, .ref ak, .ref ao, .ref az, .ref ae, .ref aq, .ref af, .int (bI hi), .int th, .int (nI po), .int (nI ba), .int (nI en), .ref an, .ref aw, .ref ax, .ref ap, .int se]))] ++ [(as, .inl (cI, 53, .inl (sF n d t day al nd bb oo (va_up K d k9) (va_up F d f9) kn)))]) H := hP
  have hD : va_D A ([(y, .inr (12, [.ref as, .ref ai, .ref ar, .ref am, .ref ak, .ref ao, .ref az, .ref ae, .ref aq, .ref af, .int (bI hi), .int th, .int (nI po), .int (nI ba), .int (nI en), .ref an, .ref aw, .ref ax, .ref ap, .int se]))] ++ [(as, .inl (cI, 53, .inl (sF n d t day al nd bb oo (va_up K d k9) (va_up F d f9) kn)))]) := hD
  refine lv_aload_n hx hb dX12_joins_21 rfl (lv_at hl 1 rfl) ?_
  refine lv_iload_n hx hb dX12_joins_22 rfl (lv_at hl 0 rfl) ?_
  refine lv_iconst (v := nI 2) hx hb dX12_joins_23 (by decide +kernel) ?_
  refine lv_iconst (v := nI 0) hx hb dX12_joins_24 (by decide +kernel) ?_
  have hPc := hP
  have hDc := hD
  have hFc := va_free (wc := [(y, .inr (12, [.ref as, .ref ai, .ref ar, .ref am, .ref ak, .ref ao, .ref az, .ref ae, .ref aq, .ref af, .int (bI hi), .int th, .int (nI po), .int (nI ba), .int (nI en), .ref an, .ref aw, .ref ax, .ref ap, .int se]))] ++ [(as, .inl (cI, 53, .inl (sF n d t day al nd bb oo (va_up K d k9) (va_up F d f9) kn)))]) hD hS hA [0, 1] rfl
  refine va_callv (va_runV (As := [.int (nI d), .int (nI 2), .int (nI 0)]) (rest := []) ⟨hx, hb, hml, hown, hts⟩ (c_X12_puts_2 l dC dI cI cD cR y as ai ar am ak ao az ae aq af hi th po ba en an aw ax ap se n d t day al nd bb oo (va_up K d k9) (va_up F d f9) kn d 0 H.size (by first | omega | assumption | exact gnd _ | exact gkn _ | exact Nat.lt_trans (gkn _) (by decide) | exact Nat.lt_trans (gnd _) (by decide) | exact Nat.lt_of_le_of_lt (pcN_le _) (by decide)) (by first | omega | assumption | exact gnd _ | exact gkn _ | exact Nat.lt_trans (gkn _) (by decide) | exact Nat.lt_trans (gnd _) (by decide) | exact Nat.lt_of_le_of_lt (pcN_le _) (by decide)) (by first | omega | assumption | exact gnd _ | exact gkn _ | exact Nat.lt_trans (gkn _) (by decide) | exact Nat.lt_trans (gnd _) (by decide) | exact Nat.lt_of_le_of_lt (pcN_le _) (by decide)) (by first | omega | assumption | exact gnd _ | exact gkn _ | exact Nat.lt_trans (gkn _) (by decide) | exact Nat.lt_trans (gnd _) (by decide) | exact Nat.lt_of_le_of_lt (pcN_le _) (by decide)) (by first | omega | assumption | exact gnd _ | exact gkn _ | exact Nat.lt_trans (gkn _) (by decide) | exact Nat.lt_trans (gnd _) (by decide) | exact Nat.lt_of_le_of_lt (pcN_le _) (by decide)) gnd gkn (up_8 gK hk9) (up_8 gF hf9) (by first | omega | assumption | exact gnd _ | exact gkn _ | exact Nat.lt_trans (gkn _) (by decide) | exact Nat.lt_trans (gnd _) (by decide) | exact Nat.lt_of_le_of_lt (pcN_le _) (by decide))) (cwV 3 hts gX12_joins_X12_puts rfl rfl rfl (by decide +kernel) ⟨Nat.le_of_ble_eq_true rfl, Nat.le_of_ble_eq_true rfl⟩) (preV_R hCX (va_recv hK hP (ci := 12) (q0 := 0) rfl rfl) ⟨rfl, hPc, hDc.weaken (fun _ _ _ _ => trivial)⟩) rfl rfl hl.1 rfl (lv_room (Nat.le_of_ble_eq_true rfl)) dX12_joins_25 ⟨Nat.le_of_ble_eq_true (by first | rfl | decide), Nat.le_of_ble_eq_true (by first | rfl | decide)⟩) hS (fun q _ h => hFc q h) hFc (fun u T8 H1 locs hT8 hvm hw hB hz1 hk1 hS => ?_)
  obtain ⟨hP1, hD1⟩ := hB
  rw [hT8] at hP1
  obtain ⟨hP, hD⟩ := va_join (wr := []) (w1 := [(y, .inr (12, [.ref as, .ref ai, .ref ar, .ref am, .ref ak, .ref ao, .ref az, .ref ae, .ref aq, .ref af, .int (bI hi), .int th, .int (nI po), .int (nI ba), .int (nI en), .ref an, .ref aw, .ref ax, .ref ap, .int se]))] ++ [(as, .inl (cI, 53, .inl (sF n d t day al nd bb oo (va_up K d k9) (va_up F d f9) (va_up kn d 0))))]) hP hD [0, 1] [] rfl rfl (by decide) (by decide) hk1 hFc hP1 hD1
  generalize H1 = H at hP hS ⊢
  have hP : va_P (dC, dI) vwCl ([(y, .inr (12, [.ref as, .ref ai, .ref ar, .ref am, .ref ak, .ref ao, .ref az, .ref ae, .ref aq, .ref af, .int (bI hi), .int th, .int (nI po), .int (nI ba), .int (nI en), .ref an, .ref aw, .ref ax, .ref ap, .int se]))] ++ [(as, .inl (cI, 53, .inl (sF n d t day al nd bb oo (va_up K d k9) (va_up F d f9) (va_up kn d 0))))]) H := hP
  have hD : va_D A ([(y, .inr (12, [.ref as, .ref ai, .ref ar, .ref am, .ref ak, .ref ao, .ref az, .ref ae, .ref aq, .ref af, .int (bI hi), .int th, .int (nI po), .int (nI ba), .int (nI en), .ref an, .ref aw, .ref ax, .ref ap, .int se]))] ++ [(as, .inl (cI, 53, .inl (sF n d t day al nd bb oo (va_up K d k9) (va_up F d f9) (va_up kn d 0))))]) := hD
  refine lv_aload_n hx hb dX12_joins_28 rfl (lv_at hl 1 rfl) ?_
  refine va_get (D := (dC, dI)) (ci := 12) (v := .ref as) (C := RX12) (T := TX12) (N := 20) hx hb hts (fun _ h => List.mem_cons_of_mem _ (List.mem_append_right _ h)) hown hK hP 0 rfl rfl 0 (by decide) (hts (.fieldLink RX12 9 "HoldsOnceDeniedModel" "s" "[I") (by decide +kernel)) (fun _ h9 => h9) rfl dX12_joins_29 ?_
  refine lv_iconst (v := nI 4) hx hb dX12_joins_32 (by decide +kernel) ?_
  refine lv_dup2_11 hx hb dX12_joins_33 rfl rfl ?_
  refine ho_iald (v := nI al) hx hb hK hP 1 0 rfl rfl (by omega) (by first | decide | omega) rfl dX12_joins_34 ?_
  refine lv_iconst (v := nI 1) hx hb dX12_joins_35 (by decide +kernel) ?_
  refine lv_iload_n hx hb dX12_joins_36 rfl (lv_at hl 0 rfl) ?_
  refine ho_shl1 hx hb dX12_joins_37 (by omega) ?_
  refine ho_ior hx hb dX12_joins_38 ?_
  refine ho_iast (g := sF n d t day (al ||| (2 ^ d)) nd bb oo (va_up K d k9) (va_up F d f9) (va_up kn d 0)) hx hb hK hP hD hS 1 0 rfl rfl (by omega) (by first | decide | omega) sF_u4 dX12_joins_39 (fun H locs hP hD hS => ?_)
  have hP : va_P (dC, dI) vwCl ([(y, .inr (12, [.ref as, .ref ai, .ref ar, .ref am, .ref ak, .ref ao, .ref az, .ref ae, .ref aq, .ref af, .int (bI hi), .int th, .int (nI po), .int (nI ba), .int (nI en), .ref an, .ref aw, .ref ax, .ref ap, .int se]))] ++ [(as, .inl (cI, 53, .inl (sF n d t day (al ||| (2 ^ d)) nd bb oo (va_up K d k9) (va_up F d f9) (va_up kn d 0))))]) H := hP
  have hD : va_D A ([(y, .inr (12, [.ref as, .ref ai, .ref ar, .ref am, .ref ak, .ref ao, .ref az, .ref ae, .ref aq, .ref af, .int (bI hi), .int th, .int (nI po), .int (nI ba), .int (nI en), .ref an, .ref aw, .ref ax, .ref ap, .int se]))] ++ [(as, .inl (cI, 53, .inl (sF n d t day (al ||| (2 ^ d)) nd bb oo (va_up K d k9) (va_up F d f9) (va_up kn d 0))))]) := hD
  refine lv_aload_n hx hb dX12_joins_40 rfl (lv_at hl 1 rfl) ?_
  refine va_get (D := (dC, dI)) (ci := 12) (v := .ref as) (C := RX12) (T := TX12) (N := 20) hx hb hts (fun _ h => List.mem_cons_of_mem _ (List.mem_append_right _ h)) hown hK hP 0 rfl rfl 0 (by decide) (hts (.fieldLink RX12 9 "HoldsOnceDeniedModel" "s" "[I") (by decide +kernel)) (fun _ h9 => h9) rfl dX12_joins_41 ?_
  refine lv_iconst (v := nI 1) hx hb dX12_joins_44 (by decide +kernel) ?_
  refine lv_dup2_11 hx hb dX12_joins_45 rfl rfl ?_
  refine ho_iald (v := nI d) hx hb hK hP 1 0 rfl rfl (by omega) (by first | decide | omega) rfl dX12_joins_46 ?_
  refine lv_iconst (v := nI 1) hx hb dX12_joins_47 (by decide +kernel) ?_
  refine ho_iadd hx hb dX12_joins_48 ?_
  refine ho_iast (g := sF n (d + 1) t day (al ||| (2 ^ d)) nd bb oo (va_up K d k9) (va_up F d f9) (va_up kn d 0)) hx hb hK hP hD hS 1 0 rfl rfl (by omega) (by first | decide | omega) sF_u1 dX12_joins_49 (fun H locs hP hD hS => ?_)
  have hP : va_P (dC, dI) vwCl ([(y, .inr (12, [.ref as, .ref ai, .ref ar, .ref am, .ref ak, .ref ao, .ref az, .ref ae, .ref aq, .ref af, .int (bI hi), .int th, .int (nI po), .int (nI ba), .int (nI en), .ref an, .ref aw, .ref ax, .ref ap, .int se]))] ++ [(as, .inl (cI, 53, .inl (sF n (d + 1) t day (al ||| (2 ^ d)) nd bb oo (va_up K d k9) (va_up F d f9) (va_up kn d 0))))]) H := hP
  have hD : va_D A ([(y, .inr (12, [.ref as, .ref ai, .ref ar, .ref am, .ref ak, .ref ao, .ref az, .ref ae, .ref aq, .ref af, .int (bI hi), .int th, .int (nI po), .int (nI ba), .int (nI en), .ref an, .ref aw, .ref ax, .ref ap, .int se]))] ++ [(as, .inl (cI, 53, .inl (sF n (d + 1) t day (al ||| (2 ^ d)) nd bb oo (va_up K d k9) (va_up F d f9) (va_up kn d 0))))]) := hD
  have hW9 : ([(y, .inr (12, [.ref as, .ref ai, .ref ar, .ref am, .ref ak, .ref ao, .ref az, .ref ae, .ref aq, .ref af, .int (bI hi), .int th, .int (nI po), .int (nI ba), .int (nI en), .ref an, .ref aw, .ref ax, .ref ap, .int se]))] ++ [(as, .inl (cI, 53, .inl (sF n (d + 1) t day (al ||| (2 ^ d)) nd bb oo (va_up K d k9) (va_up F d f9) (va_up kn d 0))))] : va_W) = [(y, .inr (12, [.ref as, .ref ai, .ref ar, .ref am, .ref ak, .ref ao, .ref az, .ref ae, .ref aq, .ref af, .int (bI hi), .int th, .int (nI po), .int (nI ba), .int (nI en), .ref an, .ref aw, .ref ax, .ref ap, .int se]))] ++ [(as, .inl (cI, 53, .inl (sF n (d + 1) t day (al ||| 2 ^ d) nd bb oo (va_up K d k9) (va_up F d f9) (va_up kn d 0))))] := rfl
  rw [hW9] at hP hD
  exact W.vret hx hb hr (fun T9 hT9 hW9 => ⟨⟨(), rfl, trivial, by rw [hT9]; exact hP, hD⟩, hS.F hT9⟩) hS.2.2 dX12_joins_50
set_option maxHeartbeats 4000000 in
set_option maxRecDepth 100000 in
theorem c_X12_adds (l : Launch) (dC : Nat → ClassId) (dI : Nat → Nat → Nat) (cI cD cR : ClassId) (y as ai ar am ak ao az ae aq af : Nat) (hi : Bool) (th : Int32) (po ba en an aw ax ap : Nat) (se : Int32) (n d t day al : Nat) (nd : Nat → Nat) (bb oo : Nat → Int32) (K F kn : Nat → Nat) (k9 f9 : Nat) (sz : Nat) (hn : n ≤ 9) (hd : d ≤ 7) (ht : t < 512) (hal : al < 128) (hday : day < 2 ^ 30) (gnd : ∀ i, nd i < 512) (gkn : ∀ j, kn j < 512) (gK : ∀ j, K j < 8) (gF : ∀ j, F j < 10) (hk9 : k9 < 8) (hf9 : f9 < 10) (hd6 : d ≤ 6) : Met l yX12_adds wsX12_adds ({ frames := 2, cells := 0, slots := 0, locals := 46 }) (pcR dC dI cI cD cR [.ref y, .int (nI k9), .int (nI f9)] (fun H => H.size = sz ∧ va_P (dC, dI) vwCl ([(y, .inr (12, [.ref as, .ref ai, .ref ar, .ref am, .ref ak, .ref ao, .ref az, .ref ae, .ref aq, .ref af, .int (bI hi), .int th, .int (nI po), .int (nI ba), .int (nI en), .ref an, .ref aw, .ref ax, .ref ap, .int se]))] ++ [(as, .inl (cI, 53, .inl (sF n d t day al nd bb oo K F kn)))]) H ∧ va_D (fun _ => True) ([(y, .inr (12, [.ref as, .ref ai, .ref ar, .ref am, .ref ak, .ref ao, .ref az, .ref ae, .ref aq, .ref af, .int (bI hi), .int th, .int (nI po), .int (nI ba), .int (nI en), .ref an, .ref aw, .ref ax, .ref ap, .int se]))] ++ [(as, .inl (cI, 53, .inl (sF n d t day al nd bb oo K F kn)))]))) (va_Qi (fun r (_ : Unit) => r = bI (decide (d < 6))) (fun (_ : Unit) T9 => va_P (dC, dI) vwCl ([(y, .inr (12, [.ref as, .ref ai, .ref ar, .ref am, .ref ak, .ref ao, .ref az, .ref ae, .ref aq, .ref af, .int (bI hi), .int th, .int (nI po), .int (nI ba), .int (nI en), .ref an, .ref aw, .ref ax, .ref ap, .int se]))] ++ [(as, .inl (cI, 53, .inl (sF n (bif decide (d < 6) then d + 1 else d) t day (bif decide (d < 6) then al ||| 2 ^ d else al) nd bb oo (bif decide (d < 6) then va_up K d k9 else K) (bif decide (d < 6) then va_up F d f9 else F) (bif decide (d < 6) then va_up kn d 0 else kn))))]) T9.heap ∧ va_D (va_A ([(y, .inr (12, [.ref as, .ref ai, .ref ar, .ref am, .ref ak, .ref ao, .ref az, .ref ae, .ref aq, .ref af, .int (bI hi), .int th, .int (nI po), .int (nI ba), .int (nI en), .ref an, .ref aw, .ref ax, .ref ap, .int se]))] ++ [(as, .inl (cI, 53, .inl (sF n d t day al nd bb oo K F kn)))]) sz) ([(y, .inr (12, [.ref as, .ref ai, .ref ar, .ref am, .ref ak, .ref ao, .ref az, .ref ae, .ref aq, .ref af, .int (bI hi), .int th, .int (nI po), .int (nI ba), .int (nI en), .ref an, .ref aw, .ref ax, .ref ap, .int se]))] ++ [(as, .inl (cI, 53, .inl (sF n (bif decide (d < 6) then d + 1 else d) t day (bif decide (d < 6) then al ||| 2 ^ d else al) nd bb oo (bif decide (d < 6) then va_up K d k9 else K) (bif decide (d < 6) then va_up F d f9 else F) (bif decide (d < 6) then va_up kn d 0 else kn))))])) (va_A ([(y, .inr (12, [.ref as, .ref ai, .ref ar, .ref am, .ref ak, .ref ao, .ref az, .ref ae, .ref aq, .ref af, .int (bI hi), .int th, .int (nI po), .int (nI ba), .int (nI en), .ref an, .ref aw, .ref ax, .ref ap, .int se]))] ++ [(as, .inl (cI, 53, .inl (sF n d t day al nd bb oo K F kn)))]) sz)) 0 0 (va_A ([(y, .inr (12, [.ref as, .ref ai, .ref ar, .ref am, .ref ak, .ref ao, .ref az, .ref ae, .ref aq, .ref af, .int (bI hi), .int th, .int (nI po), .int (nI ba), .int (nI en), .ref an, .ref aw, .ref ax, .ref ap, .int se]))] ++ [(as, .inl (cI, 53, .inl (sF n d t day al nd bb oo K F kn)))]) sz) := by
  refine Met.ofW (cc := cX12_adds) (maxL := 3) (ret := (some .boolean)) (by decide) rfl ?_
  intro p e s m args below meth c s₁ B hml hv
  obtain ⟨rfl, hH0, hCX⟩ := hv
  have hx := B.exec
  have hb := B.bytes
  have hr := B.returns
  have hts := atoms_spec (ws := wsX12_adds) B.pre
  have hown : s.vm.findClass RX12 = some m.cls := findClass_of_methodNamed B.named
  have hlocks := B.notSynchronized
  have hK := hCX.1
  obtain ⟨hsz, hP, hD0⟩ := hH0
  subst hsz
  have hD := hD0.self (sz := s.heap.size)
  generalize hAe : va_A ([(y, .inr (12, [.ref as, .ref ai, .ref ar, .ref am, .ref ak, .ref ao, .ref az, .ref ae, .ref aq, .ref af, .int (bI hi), .int th, .int (nI po), .int (nI ba), .int (nI en), .ref an, .ref aw, .ref ax, .ref ap, .int se]))] ++ [(as, .inl (cI, 53, .inl (sF n d t day al nd bb oo K F kn)))]) s.heap.size = A at hD ⊢
  have hA : ∀ q : Nat, s.heap.size ≤ q → A q := fun q h => by rw [← hAe]; exact Or.inr h
  have hS : va_S A s.heap s.heap [] := va_S.rf
  have hP : va_P (dC, dI) vwCl ([(y, .inr (12, [.ref as, .ref ai, .ref ar, .ref am, .ref ak, .ref ao, .ref az, .ref ae, .ref aq, .ref af, .int (bI hi), .int th, .int (nI po), .int (nI ba), .int (nI en), .ref an, .ref aw, .ref ax, .ref ap, .int se]))] ++ [(as, .inl (cI, 53, .inl (sF n d t day al nd bb oo K F kn)))]) s.heap := hP
  have hl := lv_entry ([.ref y, .int (nI k9), .int (nI f9)]) (n := 3) (Nat.le_of_ble_eq_true rfl)
  rw [lg_entry_eq]
  generalize (lg_sl ([.ref y, .int (nI k9), .int (nI f9)]) ++ List.replicate (3 - (lg_sl ([.ref y, .int (nI k9), .int (nI f9)])).length) Slot.unset).toArray = ls at hl ⊢
  have hl : lv_has ls 3 [(0, .ref y), (1, .int (nI k9)), (2, .int (nI f9))] := hl
  refine lv_aload_n hx hb dX12_adds_0 rfl (lv_at hl 0 rfl) ?_
  refine va_get (D := (dC, dI)) (ci := 12) (v := .ref as) (C := RX12) (T := TX12) (N := 20) hx hb hts (fun _ h => List.mem_cons_of_mem _ (List.mem_append_right _ h)) hown hK hP 0 rfl rfl 0 (by decide) (hts (.fieldLink RX12 9 "HoldsOnceDeniedModel" "s" "[I") (by decide +kernel)) (fun _ h9 => h9) rfl dX12_adds_1 ?_
  refine lv_iconst (v := nI 1) hx hb dX12_adds_4 (by decide +kernel) ?_
  refine ho_iald (v := nI d) hx hb hK hP 1 0 rfl rfl (by omega) (by first | decide | omega) rfl dX12_adds_5 ?_
  refine lv_bipush (v := nI 6) hx hb dX12_adds_6 (by decide +kernel) ?_
  refine ho_icmp_ne (tgt := 13) hx hb dX12_adds_8 (by decide) (by omega) (by omega) (fun c_8 => ?_) (fun c_8 => ?_)
  · refine lv_aload_n hx hb dX12_adds_13 rfl (lv_at hl 0 rfl) ?_
    refine lv_iload_n hx hb dX12_adds_14 rfl (lv_at hl 1 rfl) ?_
    refine lv_iload_n hx hb dX12_adds_15 rfl (lv_at hl 2 rfl) ?_
    have hPc := hP
    have hDc := hD
    have hFc := va_free (wc := [(y, .inr (12, [.ref as, .ref ai, .ref ar, .ref am, .ref ak, .ref ao, .ref az, .ref ae, .ref aq, .ref af, .int (bI hi), .int th, .int (nI po), .int (nI ba), .int (nI en), .ref an, .ref aw, .ref ax, .ref ap, .int se]))] ++ [(as, .inl (cI, 53, .inl (sF n d t day al nd bb oo K F kn)))]) hD hS hA [0, 1] rfl
    refine va_callv (va_runV (As := [.int (nI k9), .int (nI f9)]) (rest := []) ⟨hx, hb, hml, hown, hts⟩ (c_X12_joins l dC dI cI cD cR y as ai ar am ak ao az ae aq af hi th po ba en an aw ax ap se n d t day al nd bb oo K F kn k9 f9 s.heap.size (by first | omega | assumption | exact gnd _ | exact gkn _ | exact Nat.lt_trans (gkn _) (by decide) | exact Nat.lt_trans (gnd _) (by decide) | exact Nat.lt_of_le_of_lt (pcN_le _) (by decide)) (by first | omega | assumption | exact gnd _ | exact gkn _ | exact Nat.lt_trans (gkn _) (by decide) | exact Nat.lt_trans (gnd _) (by decide) | exact Nat.lt_of_le_of_lt (pcN_le _) (by decide)) (by first | omega | assumption | exact gnd _ | exact gkn _ | exact Nat.lt_trans (gkn _) (by decide) | exact Nat.lt_trans (gnd _) (by decide) | exact Nat.lt_of_le_of_lt (pcN_le _) (by decide)) (by first | omega | assumption | exact gnd _ | exact gkn _ | exact Nat.lt_trans (gkn _) (by decide) | exact Nat.lt_trans (gnd _) (by decide) | exact Nat.lt_of_le_of_lt (pcN_le _) (by decide)) (by first | omega | assumption | exact gnd _ | exact gkn _ | exact Nat.lt_trans (gkn _) (by decide) | exact Nat.lt_trans (gnd _) (by decide) | exact Nat.lt_of_le_of_lt (pcN_le _) (by decide)) gnd gkn gK gF (by first | omega | assumption | exact gnd _ | exact gkn _ | exact Nat.lt_trans (gkn _) (by decide) | exact Nat.lt_trans (gnd _) (by decide) | exact Nat.lt_of_le_of_lt (pcN_le _) (by decide)) (by first | omega | assumption | exact gnd _ | exact gkn _ | exact Nat.lt_trans (gkn _) (by decide) | exact Nat.lt_trans (gnd _) (by decide) | exact Nat.lt_of_le_of_lt (pcN_le _) (by decide)) (by first | omega | assumption | exact gnd _ | exact gkn _ | exact Nat.lt_trans (gkn _) (by decide) | exact Nat.lt_trans (gnd _) (by decide) | exact Nat.lt_of_le_of_lt (pcN_le _) (by decide))) (cwV 2 hts gX12_adds_X12_joins rfl rfl rfl (by decide +kernel) ⟨Nat.le_of_ble_eq_true rfl, Nat.le_of_ble_eq_true rfl⟩) (preV_R hCX (va_recv hK hP (ci := 12) (q0 := 0) rfl rfl) ⟨rfl, hPc, hDc.weaken (fun _ _ _ _ => trivial)⟩) rfl rfl hl.1 rfl (lv_room (Nat.le_of_ble_eq_true rfl)) dX12_adds_16 ⟨Nat.le_of_ble_eq_true (by first | rfl | decide), Nat.le_of_ble_eq_true (by first | rfl | decide)⟩) hS (fun q _ h => hFc q h) hFc (fun u T8 H1 locs hT8 hvm hw hB hz1 hk1 hS => ?_)
    obtain ⟨hP1, hD1⟩ := hB
    rw [hT8] at hP1
    obtain ⟨hP, hD⟩ := va_join (wr := []) (w1 := [(y, .inr (12, [.ref as, .ref ai, .ref ar, .ref am, .ref ak, .ref ao, .ref az, .ref ae, .ref aq, .ref af, .int (bI hi), .int th, .int (nI po), .int (nI ba), .int (nI en), .ref an, .ref aw, .ref ax, .ref ap, .int se]))] ++ [(as, .inl (cI, 53, .inl (sF n (d + 1) t day (al ||| 2 ^ d) nd bb oo (va_up K d k9) (va_up F d f9) (va_up kn d 0))))]) hP hD [0, 1] [] rfl rfl (by decide) (by decide) hk1 hFc hP1 hD1
    generalize H1 = H at hP hS ⊢
    have hP : va_P (dC, dI) vwCl ([(y, .inr (12, [.ref as, .ref ai, .ref ar, .ref am, .ref ak, .ref ao, .ref az, .ref ae, .ref aq, .ref af, .int (bI hi), .int th, .int (nI po), .int (nI ba), .int (nI en), .ref an, .ref aw, .ref ax, .ref ap, .int se]))] ++ [(as, .inl (cI, 53, .inl (sF n (d + 1) t day (al ||| 2 ^ d) nd bb oo (va_up K d k9) (va_up F d f9) (va_up kn d 0))))]) H := hP
    have hD : va_D A ([(y, .inr (12, [.ref as, .ref ai, .ref ar, .ref am, .ref ak, .ref ao, .ref az, .ref ae, .ref aq, .ref af, .int (bI hi), .int th, .int (nI po), .int (nI ba), .int (nI en), .ref an, .ref aw, .ref ax, .ref ap, .int se]))] ++ [(as, .inl (cI, 53, .inl (sF n (d + 1) t day (al ||| 2 ^ d) nd bb oo (va_up K d k9) (va_up F d f9) (va_up kn d 0))))]) := hD
    refine lv_iconst (v := nI 1) hx hb dX12_adds_19 (by decide +kernel) ?_
    have hW9 : ([(y, .inr (12, [.ref as, .ref ai, .ref ar, .ref am, .ref ak, .ref ao, .ref az, .ref ae, .ref aq, .ref af, .int (bI hi), .int th, .int (nI po), .int (nI ba), .int (nI en), .ref an, .ref aw, .ref ax, .ref ap, .int se]))] ++ [(as, .inl (cI, 53, .inl (sF n (d + 1) t day (al ||| 2 ^ d) nd bb oo (va_up K d k9) (va_up F d f9) (va_up kn d 0))))] : va_W) = [(y, .inr (12, [.ref as, .ref ai, .ref ar, .ref am, .ref ak, .ref ao, .ref az, .ref ae, .ref aq, .ref af, .int (bI hi), .int th, .int (nI po), .int (nI ba), .int (nI en), .ref an, .ref aw, .ref ax, .ref ap, .int se]))] ++ [(as, .inl (cI, 53, .inl (sF n (bif decide (d < 6) then d + 1 else d) t day (bif decide (d < 6) then al ||| 2 ^ d else al) nd bb oo (bif decide (d < 6) then va_up K d k9 else K) (bif decide (d < 6) then va_up F d f9 else F) (bif decide (d < 6) then va_up kn d 0 else kn))))] := by rw [show decide (d < 6) = true from decide_eq_true (by omega)]; rfl
    rw [hW9] at hP hD
    exact W.zret (v := nI 1) hx hb hr rfl (fun T9 hT9 hW9 => ⟨⟨_, (), rfl, (bI_t (by exact decide_eq_true (by omega))), by rw [hT9]; exact hP, hD⟩, hS.F hT9⟩) hS.2.2 dX12_adds_20
  refine lv_iconst (v := nI 0) hx hb dX12_adds_11 (by decide +kernel) ?_
  have hW9 : ([(y, .inr (12, [.ref as, .ref ai, .ref ar, .ref am, .ref ak, .ref ao, .ref az, .ref ae, .ref aq, .ref af, .int (bI hi), .int th, .int (nI po), .int (nI ba), .int (nI en), .ref an, .ref aw, .ref ax, .ref ap, .int se]))] ++ [(as, .inl (cI, 53, .inl (sF n d t day al nd bb oo K F kn)))] : va_W) = [(y, .inr (12, [.ref as, .ref ai, .ref ar, .ref am, .ref ak, .ref ao, .ref az, .ref ae, .ref aq, .ref af, .int (bI hi), .int th, .int (nI po), .int (nI ba), .int (nI en), .ref an, .ref aw, .ref ax, .ref ap, .int se]))] ++ [(as, .inl (cI, 53, .inl (sF n (bif decide (d < 6) then d + 1 else d) t day (bif decide (d < 6) then al ||| 2 ^ d else al) nd bb oo (bif decide (d < 6) then va_up K d k9 else K) (bif decide (d < 6) then va_up F d f9 else F) (bif decide (d < 6) then va_up kn d 0 else kn))))] := by rw [show decide (d < 6) = false from decide_eq_false (by omega)]; rfl
  rw [hW9] at hP hD
  exact W.zret (v := nI 0) hx hb hr rfl (fun T9 hT9 hW9 => ⟨⟨_, (), rfl, (bI_f (by exact decide_eq_false (by omega))), by rw [hT9]; exact hP, hD⟩, hS.F hT9⟩) hS.2.2 dX12_adds_12
set_option maxHeartbeats 4000000 in
set_option maxRecDepth 100000 in
theorem c_X12_comes (l : Launch) (dC : Nat → ClassId) (dI : Nat → Nat → Nat) (cI cD cR : ClassId) (y as ai ar am ak ao az ae aq af : Nat) (hi : Bool) (th : Int32) (po ba en an aw ax ap : Nat) (se : Int32) (n d t day al : Nat) (nd : Nat → Nat) (bb oo : Nat → Int32) (K F kn : Nat → Nat) (ke : Nat → Nat) (qk : Nat → Int32) (qf : Nat → Int32) (x9 : Int32) (sz : Nat) (hn : n ≤ 9) (hd : d ≤ 7) (ht : t < 512) (hal : al < 128) (hday : day < 2 ^ 30) (gnd : ∀ i, nd i < 512) (gkn : ∀ j, kn j < 512) (gK : ∀ j, K j < 8) (gF : ∀ j, F j < 10) (hd6 : d ≤ 6) (gkk : ∀ j, ke j = 1 → okI (qk j) 8 = true ∧ okI (qf j) 10 = true) (gke2 : ∀ j, ke j ≤ 2) : Met l yX12_comes wsX12_comes ({ frames := 3, cells := 0, slots := 0, locals := 68 }) (pcR dC dI cI cD cR [.ref y, .int x9] (fun H => H.size = sz ∧ va_P (dC, dI) vwCl ([(y, .inr (12, [.ref as, .ref ai, .ref ar, .ref am, .ref ak, .ref ao, .ref az, .ref ae, .ref aq, .ref af, .int (bI hi), .int th, .int (nI po), .int (nI ba), .int (nI en), .ref an, .ref aw, .ref ax, .ref ap, .int se]))] ++ [(as, .inl (cI, 53, .inl (sF n d t day al nd bb oo K F kn)))] ++ [(ak, .inl (cI, 8, .inl (nF ke)))] ++ [(aq, .inl (cI, 8, .inl qk))] ++ [(af, .inl (cI, 8, .inl qf))]) H ∧ va_D (fun _ => True) ([(y, .inr (12, [.ref as, .ref ai, .ref ar, .ref am, .ref ak, .ref ao, .ref az, .ref ae, .ref aq, .ref af, .int (bI hi), .int th, .int (nI po), .int (nI ba), .int (nI en), .ref an, .ref aw, .ref ax, .ref ap, .int se]))] ++ [(as, .inl (cI, 53, .inl (sF n d t day al nd bb oo K F kn)))] ++ [(ak, .inl (cI, 8, .inl (nF ke)))] ++ [(aq, .inl (cI, 8, .inl qk))] ++ [(af, .inl (cI, 8, .inl qf))]))) (va_Qi (fun r (_ : Unit) => r = (on1 (oN x9 8) (fun y9 => if wkR ke y9 = 0 then (bif decide (d < 6) then nI d else -2) else wkR ke y9) (-1))) (fun (_ : Unit) T9 => va_P (dC, dI) vwCl ([(y, .inr (12, [.ref as, .ref ai, .ref ar, .ref am, .ref ak, .ref ao, .ref az, .ref ae, .ref aq, .ref af, .int (bI hi), .int th, .int (nI po), .int (nI ba), .int (nI en), .ref an, .ref aw, .ref ax, .ref ap, .int se]))] ++ [(as, .inl (cI, 53, .inl (sF n (on1 (oN x9 8) (fun y9 => bif (decide (wkR ke y9 = 0) && decide (d < 6)) then d + 1 else d) (d)) t day (on1 (oN x9 8) (fun y9 => bif (decide (wkR ke y9 = 0) && decide (d < 6)) then al ||| 2 ^ d else al) (al)) nd bb oo (on1 (oN x9 8) (fun y9 => bif (decide (wkR ke y9 = 0) && decide (d < 6)) then va_up K d (nT (qk y9)) else K) (K)) (on1 (oN x9 8) (fun y9 => bif (decide (wkR ke y9 = 0) && decide (d < 6)) then va_up F d (nT (qf y9)) else F) (F)) (on1 (oN x9 8) (fun y9 => bif (decide (wkR ke y9 = 0) && decide (d < 6)) then va_up kn d 0 else kn) (kn)))))] ++ [(ak, .inl (cI, 8, .inl (nF ke)))] ++ [(aq, .inl (cI, 8, .inl qk))] ++ [(af, .inl (cI, 8, .inl qf))]) T9.heap ∧ va_D (va_A ([(y, .inr (12, [.ref as, .ref ai, .ref ar, .ref am, .ref ak, .ref ao, .ref az, .ref ae, .ref aq, .ref af, .int (bI hi), .int th, .int (nI po), .int (nI ba), .int (nI en), .ref an, .ref aw, .ref ax, .ref ap, .int se]))] ++ [(as, .inl (cI, 53, .inl (sF n d t day al nd bb oo K F kn)))] ++ [(ak, .inl (cI, 8, .inl (nF ke)))] ++ [(aq, .inl (cI, 8, .inl qk))] ++ [(af, .inl (cI, 8, .inl qf))]) sz) ([(y, .inr (12, [.ref as, .ref ai, .ref ar, .ref am, .ref ak, .ref ao, .ref az, .ref ae, .ref aq, .ref af, .int (bI hi), .int th, .int (nI po), .int (nI ba), .int (nI en), .ref an, .ref aw, .ref ax, .ref ap, .int se]))] ++ [(as, .inl (cI, 53, .inl (sF n (on1 (oN x9 8) (fun y9 => bif (decide (wkR ke y9 = 0) && decide (d < 6)) then d + 1 else d) (d)) t day (on1 (oN x9 8) (fun y9 => bif (decide (wkR ke y9 = 0) && decide (d < 6)) then al ||| 2 ^ d else al) (al)) nd bb oo (on1 (oN x9 8) (fun y9 => bif (decide (wkR ke y9 = 0) && decide (d < 6)) then va_up K d (nT (qk y9)) else K) (K)) (on1 (oN x9 8) (fun y9 => bif (decide (wkR ke y9 = 0) && decide (d < 6)) then va_up F d (nT (qf y9)) else F) (F)) (on1 (oN x9 8) (fun y9 => bif (decide (wkR ke y9 = 0) && decide (d < 6)) then va_up kn d 0 else kn) (kn)))))] ++ [(ak, .inl (cI, 8, .inl (nF ke)))] ++ [(aq, .inl (cI, 8, .inl qk))] ++ [(af, .inl (cI, 8, .inl qf))])) (va_A ([(y, .inr (12, [.ref as, .ref ai, .ref ar, .ref am, .ref ak, .ref ao, .ref az, .ref ae, .ref aq, .ref af, .int (bI hi), .int th, .int (nI po), .int (nI ba), .int (nI en), .ref an, .ref aw, .ref ax, .ref ap, .int se]))] ++ [(as, .inl (cI, 53, .inl (sF n d t day al nd bb oo K F kn)))] ++ [(ak, .inl (cI, 8, .inl (nF ke)))] ++ [(aq, .inl (cI, 8, .inl qk))] ++ [(af, .inl (cI, 8, .inl qf))]) sz)) 0 0 (va_A ([(y, .inr (12, [.ref as, .ref ai, .ref ar, .ref am, .ref ak, .ref ao, .ref az, .ref ae, .ref aq, .ref af, .int (bI hi), .int th, .int (nI po), .int (nI ba), .int (nI en), .ref an, .ref aw, .ref ax, .ref ap, .int se]))] ++ [(as, .inl (cI, 53, .inl (sF n d t day al nd bb oo K F kn)))] ++ [(ak, .inl (cI, 8, .inl (nF ke)))] ++ [(aq, .inl (cI, 8, .inl qk))] ++ [(af, .inl (cI, 8, .inl qf))]) sz) := by
  refine Met.ofW (cc := cX12_comes) (maxL := 3) (ret := (some .int)) (by decide) rfl ?_
  intro p e s m args below meth c s₁ B hml hv
  obtain ⟨rfl, hH0, hCX⟩ := hv
  have hx := B.exec
  have hb := B.bytes
  have hr := B.returns
  have hts := atoms_spec (ws := wsX12_comes) B.pre
  have hown : s.vm.findClass RX12 = some m.cls := findClass_of_methodNamed B.named
  have hlocks := B.notSynchronized
  have hK := hCX.1
  obtain ⟨hsz, hP, hD0⟩ := hH0
  subst hsz
  have hD := hD0.self (sz := s.heap.size)
  generalize hAe : va_A ([(y, .inr (12, [.ref as, .ref ai, .ref ar, .ref am, .ref ak, .ref ao, .ref az, .ref ae, .ref aq, .ref af, .int (bI hi), .int th, .int (nI po), .int (nI ba), .int (nI en), .ref an, .ref aw, .ref ax, .ref ap, .int se]))] ++ [(as, .inl (cI, 53, .inl (sF n d t day al nd bb oo K F kn)))] ++ [(ak, .inl (cI, 8, .inl (nF ke)))] ++ [(aq, .inl (cI, 8, .inl qk))] ++ [(af, .inl (cI, 8, .inl qf))]) s.heap.size = A at hD ⊢
  have hA : ∀ q : Nat, s.heap.size ≤ q → A q := fun q h => by rw [← hAe]; exact Or.inr h
  have hS : va_S A s.heap s.heap [] := va_S.rf
  have hP : va_P (dC, dI) vwCl ([(y, .inr (12, [.ref as, .ref ai, .ref ar, .ref am, .ref ak, .ref ao, .ref az, .ref ae, .ref aq, .ref af, .int (bI hi), .int th, .int (nI po), .int (nI ba), .int (nI en), .ref an, .ref aw, .ref ax, .ref ap, .int se]))] ++ [(as, .inl (cI, 53, .inl (sF n d t day al nd bb oo K F kn)))] ++ [(ak, .inl (cI, 8, .inl (nF ke)))] ++ [(aq, .inl (cI, 8, .inl qk))] ++ [(af, .inl (cI, 8, .inl qf))]) s.heap := hP
  have hl := lv_entry ([.ref y, .int x9]) (n := 3) (Nat.le_of_ble_eq_true rfl)
  rw [lg_entry_eq]
  generalize (lg_sl ([.ref y, .int x9]) ++ List.replicate (3 - (lg_sl ([.ref y, .int x9])).length) Slot.unset).toArray = ls at hl ⊢
  have hl : lv_has ls 3 [(0, .ref y), (1, .int x9)] := hl
  rcases okI_or x9 (n := 8) (by omega) with hb_x9 | ⟨y1, h_y1, rfl⟩
  · refine lv_aload_n hx hb dX12_comes_0 rfl (lv_at hl 0 rfl) ?_
    refine lv_iload_n hx hb dX12_comes_1 rfl (lv_at hl 1 rfl) ?_
    refine vp_callSi ((va_runV (As := [.int x9]) (rest := []) ⟨hx, hb, hml, hown, hts⟩ (c_X12_wrongKept_f l dC dI cI cD cR y as ai ar am ak ao az ae aq af hi th po ba en an aw ax ap se ke x9 (by first | omega | assumption | exact gnd _ | exact gkn _ | exact Nat.lt_trans (gkn _) (by decide) | exact Nat.lt_trans (gnd _) (by decide) | exact Nat.lt_of_le_of_lt (pcN_le _) (by decide))) (cwV 1 hts gX12_comes_X12_wrongKept rfl rfl rfl (by decide +kernel) ⟨Nat.le_of_ble_eq_true rfl, Nat.le_of_ble_eq_true rfl⟩) (preV_R hCX (va_recv hK hP (ci := 12) (q0 := 0) rfl rfl) ((hP.sub (ws' := [(y, .inr (12, [.ref as, .ref ai, .ref ar, .ref am, .ref ak, .ref ao, .ref az, .ref ae, .ref aq, .ref af, .int (bI hi), .int th, .int (nI po), .int (nI ba), .int (nI en), .ref an, .ref aw, .ref ax, .ref ap, .int se]))] ++ [(ak, .inl (cI, 8, .inl (nF ke)))]) [0, 2] rfl))) rfl rfl hl.1 rfl (lv_room (Nat.le_of_ble_eq_true rfl)) dX12_comes_2 ⟨Nat.le_of_ble_eq_true (by first | rfl | decide), Nat.le_of_ble_eq_true (by first | rfl | decide)⟩).run) (fun r_2 hr_2 => ?_)
    subst hr_2
    refine lv_istore_n (lv' := [(2, .int (-1)), (0, .ref y), (1, .int x9)]) hx hb dX12_comes_5 rfl hl (by decide) rfl (fun ls hl => ?_)
    refine lv_iload_n hx hb dX12_comes_6 rfl (lv_at hl 0 rfl) ?_
    refine lv_if_eq (tgt := 12) hx hb dX12_comes_7 (by decide) (fun z => absurd z (by decide +kernel)) (fun _ => ?_)
    refine lv_iload_n hx hb dX12_comes_10 rfl (lv_at hl 0 rfl) ?_
    have hW9 : ([(y, .inr (12, [.ref as, .ref ai, .ref ar, .ref am, .ref ak, .ref ao, .ref az, .ref ae, .ref aq, .ref af, .int (bI hi), .int th, .int (nI po), .int (nI ba), .int (nI en), .ref an, .ref aw, .ref ax, .ref ap, .int se]))] ++ [(as, .inl (cI, 53, .inl (sF n d t day al nd bb oo K F kn)))] ++ [(ak, .inl (cI, 8, .inl (nF ke)))] ++ [(aq, .inl (cI, 8, .inl qk))] ++ [(af, .inl (cI, 8, .inl qf))] : va_W) = [(y, .inr (12, [.ref as, .ref ai, .ref ar, .ref am, .ref ak, .ref ao, .ref az, .ref ae, .ref aq, .ref af, .int (bI hi), .int th, .int (nI po), .int (nI ba), .int (nI en), .ref an, .ref aw, .ref ax, .ref ap, .int se]))] ++ [(as, .inl (cI, 53, .inl (sF n (on1 (oN x9 8) (fun y9 => bif (decide (wkR ke y9 = 0) && decide (d < 6)) then d + 1 else d) (d)) t day (on1 (oN x9 8) (fun y9 => bif (decide (wkR ke y9 = 0) && decide (d < 6)) then al ||| 2 ^ d else al) (al)) nd bb oo (on1 (oN x9 8) (fun y9 => bif (decide (wkR ke y9 = 0) && decide (d < 6)) then va_up K d (nT (qk y9)) else K) (K)) (on1 (oN x9 8) (fun y9 => bif (decide (wkR ke y9 = 0) && decide (d < 6)) then va_up F d (nT (qf y9)) else F) (F)) (on1 (oN x9 8) (fun y9 => bif (decide (wkR ke y9 = 0) && decide (d < 6)) then va_up kn d 0 else kn) (kn)))))] ++ [(ak, .inl (cI, 8, .inl (nF ke)))] ++ [(aq, .inl (cI, 8, .inl qk))] ++ [(af, .inl (cI, 8, .inl qf))] := by first | simp only [oN_f hb_x9, on1_n] | simp only [oN_t h_y1, on1_s, decide_eq_false c_7, Bool.false_and, cond_false]
    rw [hW9] at hP hD
    exact W.iret (v := (-1)) hx hb hr (fun T9 hT9 hW9 => ⟨⟨_, (), rfl, (by first | (rw [oN_f hb_x9]; rfl) | (rw [oN_t h_y1, on1_s, if_neg c_7])), by rw [hT9]; exact hP, hD⟩, hS.F hT9⟩) hS.2.2 dX12_comes_11
  refine lv_aload_n hx hb dX12_comes_0 rfl (lv_at hl 0 rfl) ?_
  refine lv_iload_n hx hb dX12_comes_1 rfl (lv_at hl 1 rfl) ?_
  refine vp_callSi ((va_runV (As := [.int (nI y1)]) (rest := []) ⟨hx, hb, hml, hown, hts⟩ (c_X12_wrongKept_n l dC dI cI cD cR y as ai ar am ak ao az ae aq af hi th po ba en an aw ax ap se ke y1 (by first | omega | assumption | exact gnd _ | exact gkn _ | exact Nat.lt_trans (gkn _) (by decide) | exact Nat.lt_trans (gnd _) (by decide) | exact Nat.lt_of_le_of_lt (pcN_le _) (by decide)) gke2) (cwV 1 hts gX12_comes_X12_wrongKept rfl rfl rfl (by decide +kernel) ⟨Nat.le_of_ble_eq_true rfl, Nat.le_of_ble_eq_true rfl⟩) (preV_R hCX (va_recv hK hP (ci := 12) (q0 := 0) rfl rfl) ((hP.sub (ws' := [(y, .inr (12, [.ref as, .ref ai, .ref ar, .ref am, .ref ak, .ref ao, .ref az, .ref ae, .ref aq, .ref af, .int (bI hi), .int th, .int (nI po), .int (nI ba), .int (nI en), .ref an, .ref aw, .ref ax, .ref ap, .int se]))] ++ [(ak, .inl (cI, 8, .inl (nF ke)))]) [0, 2] rfl))) rfl rfl hl.1 rfl (lv_room (Nat.le_of_ble_eq_true rfl)) dX12_comes_2 ⟨Nat.le_of_ble_eq_true (by first | rfl | decide), Nat.le_of_ble_eq_true (by first | rfl | decide)⟩).run) (fun r_2 hr_2 => ?_)
  subst hr_2
  refine lv_istore_n (lv' := [(2, .int (wkR ke y1)), (0, .ref y), (1, .int (nI y1))]) hx hb dX12_comes_5 rfl hl (by decide) rfl (fun ls hl => ?_)
  refine lv_iload_n hx hb dX12_comes_6 rfl (lv_at hl 0 rfl) ?_
  refine lv_if_eq (tgt := 12) hx hb dX12_comes_7 (by decide) (fun c_7 => ?_) (fun c_7 => ?_)
  · obtain ⟨gk1, gk2⟩ := gkk y1 (wk_0 c_7)
    have ek := (nT_ok (by decide) gk1).1
    have ef := (nT_ok (by decide) gk2).1
    refine lv_aload_n hx hb dX12_comes_12 rfl (lv_at hl 1 rfl) ?_
    refine lv_aload_n hx hb dX12_comes_13 rfl (lv_at hl 1 rfl) ?_
    refine va_get (D := (dC, dI)) (ci := 12) (v := .ref aq) (C := RX12) (T := TX12) (N := 20) hx hb hts (fun _ h => List.mem_cons_of_mem _ (List.mem_append_right _ h)) hown hK hP 0 rfl rfl 8 (by decide) (hts (.fieldLink RX12 34 "HoldsOnceDeniedModel" "keptKind" "[I") (by decide +kernel)) (fun _ h9 => h9) rfl dX12_comes_14 ?_
    refine lv_iload_n hx hb dX12_comes_17 rfl (lv_at hl 2 rfl) ?_
    refine ho_iald (v := (qk y1)) hx hb hK hP 3 0 rfl rfl (by omega) (by first | decide | omega) rfl dX12_comes_18 ?_
    refine ho_tope (y := nI (nT (qk y1))) ek ?_
    refine lv_aload_n hx hb dX12_comes_19 rfl (lv_at hl 1 rfl) ?_
    refine va_get (D := (dC, dI)) (ci := 12) (v := .ref af) (C := RX12) (T := TX12) (N := 20) hx hb hts (fun _ h => List.mem_cons_of_mem _ (List.mem_append_right _ h)) hown hK hP 0 rfl rfl 9 (by decide) (hts (.fieldLink RX12 37 "HoldsOnceDeniedModel" "keptFigure" "[I") (by decide +kernel)) (fun _ h9 => h9) rfl dX12_comes_20 ?_
    refine lv_iload_n hx hb dX12_comes_23 rfl (lv_at hl 2 rfl) ?_
    refine ho_iald (v := (qf y1)) hx hb hK hP 4 0 rfl rfl (by omega) (by first | decide | omega) rfl dX12_comes_24 ?_
    refine ho_tope (y := nI (nT (qf y1))) ef ?_
    have hPc := hP.sub (ws' := [(y, .inr (12, [.ref as, .ref ai, .ref ar, .ref am, .ref ak, .ref ao, .ref az, .ref ae, .ref aq, .ref af, .int (bI hi), .int th, .int (nI po), .int (nI ba), .int (nI en), .ref an, .ref aw, .ref ax, .ref ap, .int se]))] ++ [(as, .inl (cI, 53, .inl (sF n d t day al nd bb oo K F kn)))]) [0, 1] rfl
    have hDc := hD.sub (ws' := [(y, .inr (12, [.ref as, .ref ai, .ref ar, .ref am, .ref ak, .ref ao, .ref az, .ref ae, .ref aq, .ref af, .int (bI hi), .int th, .int (nI po), .int (nI ba), .int (nI en), .ref an, .ref aw, .ref ax, .ref ap, .int se]))] ++ [(as, .inl (cI, 53, .inl (sF n d t day al nd bb oo K F kn)))]) [0, 1] (by decide) rfl
    have hFc := va_free (wc := [(y, .inr (12, [.ref as, .ref ai, .ref ar, .ref am, .ref ak, .ref ao, .ref az, .ref ae, .ref aq, .ref af, .int (bI hi), .int th, .int (nI po), .int (nI ba), .int (nI en), .ref an, .ref aw, .ref ax, .ref ap, .int se]))] ++ [(as, .inl (cI, 53, .inl (sF n d t day al nd bb oo K F kn)))]) hD hS hA [0, 1] rfl
    refine va_calli (va_runV (As := [.int (nI (nT (qk y1))), .int (nI (nT (qf y1)))]) (rest := []) ⟨hx, hb, hml, hown, hts⟩ (c_X12_adds l dC dI cI cD cR y as ai ar am ak ao az ae aq af hi th po ba en an aw ax ap se n d t day al nd bb oo K F kn (nT (qk y1)) (nT (qf y1)) s.heap.size (by first | omega | assumption | exact gnd _ | exact gkn _ | exact Nat.lt_trans (gkn _) (by decide) | exact Nat.lt_trans (gnd _) (by decide) | exact Nat.lt_of_le_of_lt (pcN_le _) (by decide)) (by first | omega | assumption | exact gnd _ | exact gkn _ | exact Nat.lt_trans (gkn _) (by decide) | exact Nat.lt_trans (gnd _) (by decide) | exact Nat.lt_of_le_of_lt (pcN_le _) (by decide)) (by first | omega | assumption | exact gnd _ | exact gkn _ | exact Nat.lt_trans (gkn _) (by decide) | exact Nat.lt_trans (gnd _) (by decide) | exact Nat.lt_of_le_of_lt (pcN_le _) (by decide)) (by first | omega | assumption | exact gnd _ | exact gkn _ | exact Nat.lt_trans (gkn _) (by decide) | exact Nat.lt_trans (gnd _) (by decide) | exact Nat.lt_of_le_of_lt (pcN_le _) (by decide)) (by first | omega | assumption | exact gnd _ | exact gkn _ | exact Nat.lt_trans (gkn _) (by decide) | exact Nat.lt_trans (gnd _) (by decide) | exact Nat.lt_of_le_of_lt (pcN_le _) (by decide)) gnd gkn gK gF (nT_ok (by decide) gk1).2 (nT_ok (by decide) gk2).2 (by first | omega | assumption | exact gnd _ | exact gkn _ | exact Nat.lt_trans (gkn _) (by decide) | exact Nat.lt_trans (gnd _) (by decide) | exact Nat.lt_of_le_of_lt (pcN_le _) (by decide))) (cwV 2 hts gX12_comes_X12_adds rfl rfl rfl (by decide +kernel) ⟨Nat.le_of_ble_eq_true rfl, Nat.le_of_ble_eq_true rfl⟩) (preV_R hCX (va_recv hK hP (ci := 12) (q0 := 0) rfl rfl) ⟨rfl, hPc, hDc.weaken (fun _ _ _ _ => trivial)⟩) rfl rfl hl.1 rfl (lv_room (Nat.le_of_ble_eq_true rfl)) dX12_comes_25 ⟨Nat.le_of_ble_eq_true (by first | rfl | decide), Nat.le_of_ble_eq_true (by first | rfl | decide)⟩) hS (fun q _ h => hFc q h) hFc (fun r_25 u T8 H1 locs hT8 hvm hw hB hz1 hk1 hS => ?_)
    obtain ⟨hP1, hD1⟩ := hB
    rw [hT8] at hP1
    obtain ⟨hP, hD⟩ := va_join (wr := [(ak, .inl (cI, 8, .inl (nF ke)))] ++ [(aq, .inl (cI, 8, .inl qk))] ++ [(af, .inl (cI, 8, .inl qf))]) (w1 := [(y, .inr (12, [.ref as, .ref ai, .ref ar, .ref am, .ref ak, .ref ao, .ref az, .ref ae, .ref aq, .ref af, .int (bI hi), .int th, .int (nI po), .int (nI ba), .int (nI en), .ref an, .ref aw, .ref ax, .ref ap, .int se]))] ++ [(as, .inl (cI, 53, .inl (sF n (bif decide (d < 6) then d + 1 else d) t day (bif decide (d < 6) then al ||| 2 ^ d else al) nd bb oo (bif decide (d < 6) then va_up K d (nT (qk y1)) else K) (bif decide (d < 6) then va_up F d (nT (qf y1)) else F) (bif decide (d < 6) then va_up kn d 0 else kn))))]) hP hD [0, 1] [2, 3, 4] rfl rfl (by decide) (by decide) hk1 hFc hP1 hD1
    generalize H1 = H at hP hS ⊢
    have hP := hP.sub (ws' := [(y, .inr (12, [.ref as, .ref ai, .ref ar, .ref am, .ref ak, .ref ao, .ref az, .ref ae, .ref aq, .ref af, .int (bI hi), .int th, .int (nI po), .int (nI ba), .int (nI en), .ref an, .ref aw, .ref ax, .ref ap, .int se]))] ++ [(as, .inl (cI, 53, .inl (sF n (bif decide (d < 6) then d + 1 else d) t day (bif decide (d < 6) then al ||| 2 ^ d else al) nd bb oo (bif decide (d < 6) then va_up K d (nT (qk y1)) else K) (bif decide (d < 6) then va_up F d (nT (qf y1)) else F) (bif decide (d < 6) then va_up kn d 0 else kn))))] ++ [(ak, .inl (cI, 8, .inl (nF ke)))] ++ [(aq, .inl (cI, 8, .inl qk))] ++ [(af, .inl (cI, 8, .inl qf))]) [3, 4, 0, 1, 2] rfl
    have hD := hD.sub (ws' := [(y, .inr (12, [.ref as, .ref ai, .ref ar, .ref am, .ref ak, .ref ao, .ref az, .ref ae, .ref aq, .ref af, .int (bI hi), .int th, .int (nI po), .int (nI ba), .int (nI en), .ref an, .ref aw, .ref ax, .ref ap, .int se]))] ++ [(as, .inl (cI, 53, .inl (sF n (bif decide (d < 6) then d + 1 else d) t day (bif decide (d < 6) then al ||| 2 ^ d else al) nd bb oo (bif decide (d < 6) then va_up K d (nT (qk y1)) else K) (bif decide (d < 6) then va_up F d (nT (qf y1)) else F) (bif decide (d < 6) then va_up kn d 0 else kn))))] ++ [(ak, .inl (cI, 8, .inl (nF ke)))] ++ [(aq, .inl (cI, 8, .inl qk))] ++ [(af, .inl (cI, 8, .inl qf))]) [3, 4, 0, 1, 2] (by decide) rfl
    subst hw
    refine ho_beq (tgt := 42) hx hb dX12_comes_28 (by decide) (fun c_28 => ?_) (fun c_28 => ?_)
    · refine lv_bipush (v := (-2)) hx hb dX12_comes_42 (by decide +kernel) ?_
      have hW9 : ([(y, .inr (12, [.ref as, .ref ai, .ref ar, .ref am, .ref ak, .ref ao, .ref az, .ref ae, .ref aq, .ref af, .int (bI hi), .int th, .int (nI po), .int (nI ba), .int (nI en), .ref an, .ref aw, .ref ax, .ref ap, .int se]))] ++ [(as, .inl (cI, 53, .inl (sF n (bif decide (d < 6) then d + 1 else d) t day (bif decide (d < 6) then al ||| 2 ^ d else al) nd bb oo (bif decide (d < 6) then va_up K d (nT (qk y1)) else K) (bif decide (d < 6) then va_up F d (nT (qf y1)) else F) (bif decide (d < 6) then va_up kn d 0 else kn))))] ++ [(ak, .inl (cI, 8, .inl (nF ke)))] ++ [(aq, .inl (cI, 8, .inl qk))] ++ [(af, .inl (cI, 8, .inl qf))] : va_W) = [(y, .inr (12, [.ref as, .ref ai, .ref ar, .ref am, .ref ak, .ref ao, .ref az, .ref ae, .ref aq, .ref af, .int (bI hi), .int th, .int (nI po), .int (nI ba), .int (nI en), .ref an, .ref aw, .ref ax, .ref ap, .int se]))] ++ [(as, .inl (cI, 53, .inl (sF n (on1 (oN (nI y1) 8) (fun y9 => bif (decide (wkR ke y9 = 0) && decide (d < 6)) then d + 1 else d) (d)) t day (on1 (oN (nI y1) 8) (fun y9 => bif (decide (wkR ke y9 = 0) && decide (d < 6)) then al ||| 2 ^ d else al) (al)) nd bb oo (on1 (oN (nI y1) 8) (fun y9 => bif (decide (wkR ke y9 = 0) && decide (d < 6)) then va_up K d (nT (qk y9)) else K) (K)) (on1 (oN (nI y1) 8) (fun y9 => bif (decide (wkR ke y9 = 0) && decide (d < 6)) then va_up F d (nT (qf y9)) else F) (F)) (on1 (oN (nI y1) 8) (fun y9 => bif (decide (wkR ke y9 = 0) && decide (d < 6)) then va_up kn d 0 else kn) (kn)))))] ++ [(ak, .inl (cI, 8, .inl (nF ke)))] ++ [(aq, .inl (cI, 8, .inl qk))] ++ [(af, .inl (cI, 8, .inl qf))] := by simp only [oN_t h_y1, on1_s, decide_eq_true c_7, Bool.true_and]
      rw [hW9] at hP hD
      exact W.iret (v := (-2)) hx hb hr (fun T9 hT9 hW9 => ⟨⟨_, (), rfl, (by (rw [oN_t h_y1, on1_s, if_pos c_7, c_28]; rfl)), by rw [hT9]; exact hP, hD⟩, hS.F hT9⟩) hS.2.2 dX12_comes_44
    refine lv_aload_n hx hb dX12_comes_31 rfl (lv_at hl 1 rfl) ?_
    refine va_get (D := (dC, dI)) (ci := 12) (v := .ref as) (C := RX12) (T := TX12) (N := 20) hx hb hts (fun _ h => List.mem_cons_of_mem _ (List.mem_append_right _ h)) hown hK hP 0 rfl rfl 0 (by decide) (hts (.fieldLink RX12 9 "HoldsOnceDeniedModel" "s" "[I") (by decide +kernel)) (fun _ h9 => h9) rfl dX12_comes_32 ?_
    refine lv_iconst (v := nI 1) hx hb dX12_comes_35 (by decide +kernel) ?_
    refine ho_iald (v := nI (bif decide (d < 6) then d + 1 else d)) hx hb hK hP 1 0 rfl rfl (by omega) (by first | decide | omega) rfl dX12_comes_36 ?_
    refine lv_iconst (v := nI 1) hx hb dX12_comes_37 (by decide +kernel) ?_
    refine lv_isub_top (y := nI (d + 1)) (by rw [c_28]; rfl) ?_
    refine ho_isub hx hb dX12_comes_38 (by omega) ?_
    refine lv_goto (tgt := 44) hx hb dX12_comes_39 (by decide) ?_
    have hW9 : ([(y, .inr (12, [.ref as, .ref ai, .ref ar, .ref am, .ref ak, .ref ao, .ref az, .ref ae, .ref aq, .ref af, .int (bI hi), .int th, .int (nI po), .int (nI ba), .int (nI en), .ref an, .ref aw, .ref ax, .ref ap, .int se]))] ++ [(as, .inl (cI, 53, .inl (sF n (bif decide (d < 6) then d + 1 else d) t day (bif decide (d < 6) then al ||| 2 ^ d else al) nd bb oo (bif decide (d < 6) then va_up K d (nT (qk y1)) else K) (bif decide (d < 6) then va_up F d (nT (qf y1)) else F) (bif decide (d < 6) then va_up kn d 0 else kn))))] ++ [(ak, .inl (cI, 8, .inl (nF ke)))] ++ [(aq, .inl (cI, 8, .inl qk))] ++ [(af, .inl (cI, 8, .inl qf))] : va_W) = [(y, .inr (12, [.ref as, .ref ai, .ref ar, .ref am, .ref ak, .ref ao, .ref az, .ref ae, .ref aq, .ref af, .int (bI hi), .int th, .int (nI po), .int (nI ba), .int (nI en), .ref an, .ref aw, .ref ax, .ref ap, .int se]))] ++ [(as, .inl (cI, 53, .inl (sF n (on1 (oN (nI y1) 8) (fun y9 => bif (decide (wkR ke y9 = 0) && decide (d < 6)) then d + 1 else d) (d)) t day (on1 (oN (nI y1) 8) (fun y9 => bif (decide (wkR ke y9 = 0) && decide (d < 6)) then al ||| 2 ^ d else al) (al)) nd bb oo (on1 (oN (nI y1) 8) (fun y9 => bif (decide (wkR ke y9 = 0) && decide (d < 6)) then va_up K d (nT (qk y9)) else K) (K)) (on1 (oN (nI y1) 8) (fun y9 => bif (decide (wkR ke y9 = 0) && decide (d < 6)) then va_up F d (nT (qf y9)) else F) (F)) (on1 (oN (nI y1) 8) (fun y9 => bif (decide (wkR ke y9 = 0) && decide (d < 6)) then va_up kn d 0 else kn) (kn)))))] ++ [(ak, .inl (cI, 8, .inl (nF ke)))] ++ [(aq, .inl (cI, 8, .inl qk))] ++ [(af, .inl (cI, 8, .inl qf))] := by simp only [oN_t h_y1, on1_s, decide_eq_true c_7, Bool.true_and]
    rw [hW9] at hP hD
    exact W.iret (v := nI ((d + 1) - 1)) hx hb hr (fun T9 hT9 hW9 => ⟨⟨_, (), rfl, (by (rw [oN_t h_y1, on1_s, if_pos c_7, c_28]; rfl)), by rw [hT9]; exact hP, hD⟩, hS.F hT9⟩) hS.2.2 dX12_comes_44
  refine lv_iload_n hx hb dX12_comes_10 rfl (lv_at hl 0 rfl) ?_
  have hW9 : ([(y, .inr (12, [.ref as, .ref ai, .ref ar, .ref am, .ref ak, .ref ao, .ref az, .ref ae, .ref aq, .ref af, .int (bI hi), .int th, .int (nI po), .int (nI ba), .int (nI en), .ref an, .ref aw, .ref ax, .ref ap, .int se]))] ++ [(as, .inl (cI, 53, .inl (sF n d t day al nd bb oo K F kn)))] ++ [(ak, .inl (cI, 8, .inl (nF ke)))] ++ [(aq, .inl (cI, 8, .inl qk))] ++ [(af, .inl (cI, 8, .inl qf))] : va_W) = [(y, .inr (12, [.ref as, .ref ai, .ref ar, .ref am, .ref ak, .ref ao, .ref az, .ref ae, .ref aq, .ref af, .int (bI hi), .int th, .int (nI po), .int (nI ba), .int (nI en), .ref an, .ref aw, .ref ax, .ref ap, .int se]))] ++ [(as, .inl (cI, 53, .inl (sF n (on1 (oN (nI y1) 8) (fun y9 => bif (decide (wkR ke y9 = 0) && decide (d < 6)) then d + 1 else d) (d)) t day (on1 (oN (nI y1) 8) (fun y9 => bif (decide (wkR ke y9 = 0) && decide (d < 6)) then al ||| 2 ^ d else al) (al)) nd bb oo (on1 (oN (nI y1) 8) (fun y9 => bif (decide (wkR ke y9 = 0) && decide (d < 6)) then va_up K d (nT (qk y9)) else K) (K)) (on1 (oN (nI y1) 8) (fun y9 => bif (decide (wkR ke y9 = 0) && decide (d < 6)) then va_up F d (nT (qf y9)) else F) (F)) (on1 (oN (nI y1) 8) (fun y9 => bif (decide (wkR ke y9 = 0) && decide (d < 6)) then va_up kn d 0 else kn) (kn)))))] ++ [(ak, .inl (cI, 8, .inl (nF ke)))] ++ [(aq, .inl (cI, 8, .inl qk))] ++ [(af, .inl (cI, 8, .inl qf))] := by first | simp only [oN_f hb_x9, on1_n] | simp only [oN_t h_y1, on1_s, decide_eq_false c_7, Bool.false_and, cond_false]
  rw [hW9] at hP hD
  exact W.iret (v := (wkR ke y1)) hx hb hr (fun T9 hT9 hW9 => ⟨⟨_, (), rfl, (by first | (rw [oN_f hb_x9]; rfl) | (rw [oN_t h_y1, on1_s, if_neg c_7])), by rw [hT9]; exact hP, hD⟩, hS.F hT9⟩) hS.2.2 dX12_comes_11
