set_option maxHeartbeats 4000000 in
set_option maxRecDepth 100000 in
theorem c_X12_wrongRow_0 (l : Launch) (dC : Nat → ClassId) (dI : Nat → Nat → Nat) (cI cD cR : ClassId) (y as ai ar am ak ao az ae aq af : Nat) (hi : Bool) (th : Int32) (po ba en an aw ax ap : Nat) (se : Int32) (ke : Nat → Nat) (so : Nat → Nat) (y9 : Nat) (hy9 : y9 < 8) (gso : ∀ j, so j < 3) (gke2 : ∀ j, ke j ≤ 2) : Met l yX12_wrongRow wsX12_wrongRow ({ frames := 2, cells := 0, slots := 0, locals := 45 }) (pcR dC dI cI cD cR [.ref y, .int (nI y9), .int (nI 0)] (fun H => va_P (dC, dI) vwCl ([(y, .inr (12, [.ref as, .ref ai, .ref ar, .ref am, .ref ak, .ref ao, .ref az, .ref ae, .ref aq, .ref af, .int (bI hi), .int th, .int (nI po), .int (nI ba), .int (nI en), .ref an, .ref aw, .ref ax, .ref ap, .int se]))] ++ [(ak, .inl (cI, 8, .inl (nF ke)))] ++ [(ao, .inl (cI, 8, .inl (nF so)))]) H)) (vp_Si (fun r => r = (wrR ke so y9))) 0 0 (fun _ => False) := by
  refine Met.ofW (cc := cX12_wrongRow) (maxL := 3) (ret := (some .int)) (by decide) rfl ?_
  intro p e s m args below meth c s₁ B hml hv
  obtain ⟨rfl, hH0, hCX⟩ := hv
  have hx := B.exec
  have hb := B.bytes
  have hr := B.returns
  have hts := atoms_spec (ws := wsX12_wrongRow) B.pre
  have hown : s.vm.findClass RX12 = some m.cls := findClass_of_methodNamed B.named
  have hlocks := B.notSynchronized
  have hK := hCX.1
  have hP := hH0
  have hl := lv_entry ([.ref y, .int (nI y9), .int (nI 0)]) (n := 3) (Nat.le_of_ble_eq_true rfl)
  rw [lg_entry_eq]
  generalize (lg_sl ([.ref y, .int (nI y9), .int (nI 0)]) ++ List.replicate (3 - (lg_sl ([.ref y, .int (nI y9), .int (nI 0)])).length) Slot.unset).toArray = ls at hl ⊢
  have hl : lv_has ls 3 [(0, .ref y), (1, .int (nI y9)), (2, .int (nI 0))] := hl
  refine lv_iload_n hx hb dX12_wrongRow_0 rfl (lv_at hl 1 rfl) ?_
  refine vp_callSi ((va_runS (As := [.int (nI y9)]) (rest := []) ⟨hx, hb, hml, hown, hts⟩ (c_X12_isShelf_t l dC dI cI cD cR y9 (by first | omega | assumption | exact gnd _ | exact gkn _ | exact Nat.lt_trans (gkn _) (by decide) | exact Nat.lt_trans (gnd _) (by decide) | exact Nat.lt_of_le_of_lt (pcN_le _) (by decide))) (va_cwS 1 hts gX12_wrongRow_X12_isShelf rfl rfl rfl (by decide +kernel) ⟨Nat.le_of_ble_eq_true rfl, Nat.le_of_ble_eq_true rfl⟩) (preS_R hCX (trivial)) rfl rfl hl.1 rfl (lv_room (Nat.le_of_ble_eq_true rfl)) dX12_wrongRow_1 ⟨Nat.le_of_ble_eq_true (by first | rfl | decide), Nat.le_of_ble_eq_true (by first | rfl | decide)⟩).run) (fun r_1 hr_1 => ?_)
  subst hr_1
  refine lv_if_ne (tgt := 11) hx hb dX12_wrongRow_4 (by decide) (fun _ => ?_) (fun z => absurd z (by decide +kernel))
  refine lv_aload_n hx hb dX12_wrongRow_11 rfl (lv_at hl 0 rfl) ?_
  refine va_get (D := (dC, dI)) (ci := 12) (v := .ref ak) (C := RX12) (T := TX12) (N := 20) hx hb hts (fun _ h => List.mem_cons_of_mem _ (List.mem_append_right _ h)) hown hK hP 0 rfl rfl 4 (by decide) (hts (.fieldLink RX12 22 "HoldsOnceDeniedModel" "kept" "[I") (by decide +kernel)) (fun _ h9 => h9) rfl dX12_wrongRow_12 ?_
  refine lv_iload_n hx hb dX12_wrongRow_15 rfl (lv_at hl 1 rfl) ?_
  refine ho_iald (v := nI (ke y9)) hx hb hK hP 1 0 rfl rfl (by omega) (by first | decide | omega) rfl dX12_wrongRow_16 ?_
  refine ho_if_ne (tgt := 25) hx hb dX12_wrongRow_17 (by decide) (by have := gke2 y9; omega) (fun c_17 => ?_) (fun c_17 => ?_)
  · refine lv_aload_n hx hb dX12_wrongRow_25 rfl (lv_at hl 0 rfl) ?_
    refine va_get (D := (dC, dI)) (ci := 12) (v := .ref ak) (C := RX12) (T := TX12) (N := 20) hx hb hts (fun _ h => List.mem_cons_of_mem _ (List.mem_append_right _ h)) hown hK hP 0 rfl rfl 4 (by decide) (hts (.fieldLink RX12 22 "HoldsOnceDeniedModel" "kept" "[I") (by decide +kernel)) (fun _ h9 => h9) rfl dX12_wrongRow_26 ?_
    refine lv_iload_n hx hb dX12_wrongRow_29 rfl (lv_at hl 1 rfl) ?_
    refine ho_iald (v := nI (ke y9)) hx hb hK hP 1 0 rfl rfl (by omega) (by first | decide | omega) rfl dX12_wrongRow_30 ?_
    refine lv_iconst (v := nI 2) hx hb dX12_wrongRow_31 (by decide +kernel) ?_
    refine ho_icmp_ne (tgt := 49) hx hb dX12_wrongRow_32 (by decide) (by have := gke2 y9; omega) (by omega) (fun c_32 => ?_) (fun c_32 => ?_)
    · refine lv_bipush (v := (-12)) hx hb dX12_wrongRow_49 (by decide +kernel) ?_
      refine lv_goto (tgt := 55) hx hb dX12_wrongRow_51 (by decide) ?_
      exact W.iret (v := (-12)) hx hb hr (fun T9 hT9 hW9 => ⟨_, rfl, (by first | (simp [wrR, wrS, c_17]; done) | (simp [wrR, wrS, c_17, c_32]; done) | (simp [wrR, wrS, c_17, c_32, c_46]; done) | (simp [wrR, wrS, c_17, c_32, c_46]; rfl) | (simp [wrR, wrS, c_17, c_32]; rfl)), hT9⟩) (fun q h => by cases h) dX12_wrongRow_55
    refine lv_iload_n hx hb dX12_wrongRow_35 rfl (lv_at hl 2 rfl) ?_
    refine ho_if_lt0 hx hb dX12_wrongRow_36 (tgt := 54) (by decide) (by omega) ?_
    refine lv_aload_n hx hb dX12_wrongRow_39 rfl (lv_at hl 0 rfl) ?_
    refine va_get (D := (dC, dI)) (ci := 12) (v := .ref ao) (C := RX12) (T := TX12) (N := 20) hx hb hts (fun _ h => List.mem_cons_of_mem _ (List.mem_append_right _ h)) hown hK hP 0 rfl rfl 5 (by decide) (hts (.fieldLink RX12 25 "HoldsOnceDeniedModel" "sort" "[I") (by decide +kernel)) (fun _ h9 => h9) rfl dX12_wrongRow_40 ?_
    refine lv_iload_n hx hb dX12_wrongRow_43 rfl (lv_at hl 1 rfl) ?_
    refine ho_iald (v := nI (so y9)) hx hb hK hP 2 0 rfl rfl (by omega) (by first | decide | omega) rfl dX12_wrongRow_44 ?_
    refine lv_iload_n hx hb dX12_wrongRow_45 rfl (lv_at hl 2 rfl) ?_
    refine ho_icmp_eq (tgt := 54) hx hb dX12_wrongRow_46 (by decide) (by have := gso y9; omega) (by omega) (fun c_46 => ?_) (fun c_46 => ?_)
    · refine lv_iconst (v := nI 0) hx hb dX12_wrongRow_54 (by decide +kernel) ?_
      exact W.iret (v := nI 0) hx hb hr (fun T9 hT9 hW9 => ⟨_, rfl, (by first | (simp [wrR, wrS, c_17]; done) | (simp [wrR, wrS, c_17, c_32]; done) | (simp [wrR, wrS, c_17, c_32, c_46]; done) | (simp [wrR, wrS, c_17, c_32, c_46]; rfl) | (simp [wrR, wrS, c_17, c_32]; rfl)), hT9⟩) (fun q h => by cases h) dX12_wrongRow_55
    refine lv_bipush (v := (-12)) hx hb dX12_wrongRow_49 (by decide +kernel) ?_
    refine lv_goto (tgt := 55) hx hb dX12_wrongRow_51 (by decide) ?_
    exact W.iret (v := (-12)) hx hb hr (fun T9 hT9 hW9 => ⟨_, rfl, (by first | (simp [wrR, wrS, c_17]; done) | (simp [wrR, wrS, c_17, c_32]; done) | (simp [wrR, wrS, c_17, c_32, c_46]; done) | (simp [wrR, wrS, c_17, c_32, c_46]; rfl) | (simp [wrR, wrS, c_17, c_32]; rfl)), hT9⟩) (fun q h => by cases h) dX12_wrongRow_55
  refine lv_bipush (v := (-11)) hx hb dX12_wrongRow_20 (by decide +kernel) ?_
  refine lv_goto (tgt := 55) hx hb dX12_wrongRow_22 (by decide) ?_
  exact W.iret (v := (-11)) hx hb hr (fun T9 hT9 hW9 => ⟨_, rfl, (by first | (simp [wrR, wrS, c_17]; done) | (simp [wrR, wrS, c_17, c_32]; done) | (simp [wrR, wrS, c_17, c_32, c_46]; done) | (simp [wrR, wrS, c_17, c_32, c_46]; rfl) | (simp [wrR, wrS, c_17, c_32]; rfl)), hT9⟩) (fun q h => by cases h) dX12_wrongRow_55
set_option maxHeartbeats 4000000 in
set_option maxRecDepth 100000 in
theorem c_X12_wrongRow_f0 (l : Launch) (dC : Nat → ClassId) (dI : Nat → Nat → Nat) (cI cD cR : ClassId) (y as ai ar am ak ao az ae aq af : Nat) (hi : Bool) (th : Int32) (po ba en an aw ax ap : Nat) (se : Int32) (ke : Nat → Nat) (so : Nat → Nat) (x9 : Int32) (hb9 : okI x9 8 = false) : Met l yX12_wrongRow wsX12_wrongRow ({ frames := 2, cells := 0, slots := 0, locals := 45 }) (pcR dC dI cI cD cR [.ref y, .int x9, .int (nI 0)] (fun H => va_P (dC, dI) vwCl ([(y, .inr (12, [.ref as, .ref ai, .ref ar, .ref am, .ref ak, .ref ao, .ref az, .ref ae, .ref aq, .ref af, .int (bI hi), .int th, .int (nI po), .int (nI ba), .int (nI en), .ref an, .ref aw, .ref ax, .ref ap, .int se]))] ++ [(ak, .inl (cI, 8, .inl (nF ke)))] ++ [(ao, .inl (cI, 8, .inl (nF so)))]) H)) (vp_Si (fun r => r = (-1))) 0 0 (fun _ => False) := by
  refine Met.ofW (cc := cX12_wrongRow) (maxL := 3) (ret := (some .int)) (by decide) rfl ?_
  intro p e s m args below meth c s₁ B hml hv
  obtain ⟨rfl, hH0, hCX⟩ := hv
  have hx := B.exec
  have hb := B.bytes
  have hr := B.returns
  have hts := atoms_spec (ws := wsX12_wrongRow) B.pre
  have hown : s.vm.findClass RX12 = some m.cls := findClass_of_methodNamed B.named
  have hlocks := B.notSynchronized
  have hK := hCX.1
  have hP := hH0
  have hl := lv_entry ([.ref y, .int x9, .int (nI 0)]) (n := 3) (Nat.le_of_ble_eq_true rfl)
  rw [lg_entry_eq]
  generalize (lg_sl ([.ref y, .int x9, .int (nI 0)]) ++ List.replicate (3 - (lg_sl ([.ref y, .int x9, .int (nI 0)])).length) Slot.unset).toArray = ls at hl ⊢
  have hl : lv_has ls 3 [(0, .ref y), (1, .int x9), (2, .int (nI 0))] := hl
  refine lv_iload_n hx hb dX12_wrongRow_0 rfl (lv_at hl 1 rfl) ?_
  refine vp_callSi ((va_runS (As := [.int x9]) (rest := []) ⟨hx, hb, hml, hown, hts⟩ (c_X12_isShelf_f l dC dI cI cD cR x9 (by first | omega | assumption | exact gnd _ | exact gkn _ | exact Nat.lt_trans (gkn _) (by decide) | exact Nat.lt_trans (gnd _) (by decide) | exact Nat.lt_of_le_of_lt (pcN_le _) (by decide))) (va_cwS 1 hts gX12_wrongRow_X12_isShelf rfl rfl rfl (by decide +kernel) ⟨Nat.le_of_ble_eq_true rfl, Nat.le_of_ble_eq_true rfl⟩) (preS_R hCX (trivial)) rfl rfl hl.1 rfl (lv_room (Nat.le_of_ble_eq_true rfl)) dX12_wrongRow_1 ⟨Nat.le_of_ble_eq_true (by first | rfl | decide), Nat.le_of_ble_eq_true (by first | rfl | decide)⟩).run) (fun r_1 hr_1 => ?_)
  subst hr_1
  refine lv_if_ne (tgt := 11) hx hb dX12_wrongRow_4 (by decide) (fun z => absurd z (by decide +kernel)) (fun _ => ?_)
  refine lv_iconst (v := (-1)) hx hb dX12_wrongRow_7 (by decide +kernel) ?_
  refine lv_goto (tgt := 55) hx hb dX12_wrongRow_8 (by decide) ?_
  exact W.iret (v := (-1)) hx hb hr (fun T9 hT9 hW9 => ⟨_, rfl, (by rfl), hT9⟩) (fun q h => by cases h) dX12_wrongRow_55
set_option maxHeartbeats 4000000 in
set_option maxRecDepth 100000 in
theorem c_X12_wrongRow_m (l : Launch) (dC : Nat → ClassId) (dI : Nat → Nat → Nat) (cI cD cR : ClassId) (y as ai ar am ak ao az ae aq af : Nat) (hi : Bool) (th : Int32) (po ba en an aw ax ap : Nat) (se : Int32) (ke : Nat → Nat) (so : Nat → Nat) (y9 : Nat) (hy9 : y9 < 8) (gso : ∀ j, so j < 3) (gke2 : ∀ j, ke j ≤ 2) : Met l yX12_wrongRow wsX12_wrongRow ({ frames := 2, cells := 0, slots := 0, locals := 45 }) (pcR dC dI cI cD cR [.ref y, .int (nI y9), .int (-1)] (fun H => va_P (dC, dI) vwCl ([(y, .inr (12, [.ref as, .ref ai, .ref ar, .ref am, .ref ak, .ref ao, .ref az, .ref ae, .ref aq, .ref af, .int (bI hi), .int th, .int (nI po), .int (nI ba), .int (nI en), .ref an, .ref aw, .ref ax, .ref ap, .int se]))] ++ [(ak, .inl (cI, 8, .inl (nF ke)))] ++ [(ao, .inl (cI, 8, .inl (nF so)))]) H)) (vp_Si (fun r => r = (wrS ke y9))) 0 0 (fun _ => False) := by
  refine Met.ofW (cc := cX12_wrongRow) (maxL := 3) (ret := (some .int)) (by decide) rfl ?_
  intro p e s m args below meth c s₁ B hml hv
  obtain ⟨rfl, hH0, hCX⟩ := hv
  have hx := B.exec
  have hb := B.bytes
  have hr := B.returns
  have hts := atoms_spec (ws := wsX12_wrongRow) B.pre
  have hown : s.vm.findClass RX12 = some m.cls := findClass_of_methodNamed B.named
  have hlocks := B.notSynchronized
  have hK := hCX.1
  have hP := hH0
  have hl := lv_entry ([.ref y, .int (nI y9), .int (-1)]) (n := 3) (Nat.le_of_ble_eq_true rfl)
  rw [lg_entry_eq]
  generalize (lg_sl ([.ref y, .int (nI y9), .int (-1)]) ++ List.replicate (3 - (lg_sl ([.ref y, .int (nI y9), .int (-1)])).length) Slot.unset).toArray = ls at hl ⊢
  have hl : lv_has ls 3 [(0, .ref y), (1, .int (nI y9)), (2, .int (-1))] := hl
  refine lv_iload_n hx hb dX12_wrongRow_0 rfl (lv_at hl 1 rfl) ?_
  refine vp_callSi ((va_runS (As := [.int (nI y9)]) (rest := []) ⟨hx, hb, hml, hown, hts⟩ (c_X12_isShelf_t l dC dI cI cD cR y9 (by first | omega | assumption | exact gnd _ | exact gkn _ | exact Nat.lt_trans (gkn _) (by decide) | exact Nat.lt_trans (gnd _) (by decide) | exact Nat.lt_of_le_of_lt (pcN_le _) (by decide))) (va_cwS 1 hts gX12_wrongRow_X12_isShelf rfl rfl rfl (by decide +kernel) ⟨Nat.le_of_ble_eq_true rfl, Nat.le_of_ble_eq_true rfl⟩) (preS_R hCX (trivial)) rfl rfl hl.1 rfl (lv_room (Nat.le_of_ble_eq_true rfl)) dX12_wrongRow_1 ⟨Nat.le_of_ble_eq_true (by first | rfl | decide), Nat.le_of_ble_eq_true (by first | rfl | decide)⟩).run) (fun r_1 hr_1 => ?_)
  subst hr_1
  refine lv_if_ne (tgt := 11) hx hb dX12_wrongRow_4 (by decide) (fun _ => ?_) (fun z => absurd z (by decide +kernel))
  refine lv_aload_n hx hb dX12_wrongRow_11 rfl (lv_at hl 0 rfl) ?_
  refine va_get (D := (dC, dI)) (ci := 12) (v := .ref ak) (C := RX12) (T := TX12) (N := 20) hx hb hts (fun _ h => List.mem_cons_of_mem _ (List.mem_append_right _ h)) hown hK hP 0 rfl rfl 4 (by decide) (hts (.fieldLink RX12 22 "HoldsOnceDeniedModel" "kept" "[I") (by decide +kernel)) (fun _ h9 => h9) rfl dX12_wrongRow_12 ?_
  refine lv_iload_n hx hb dX12_wrongRow_15 rfl (lv_at hl 1 rfl) ?_
  refine ho_iald (v := nI (ke y9)) hx hb hK hP 1 0 rfl rfl (by omega) (by first | decide | omega) rfl dX12_wrongRow_16 ?_
  refine ho_if_ne (tgt := 25) hx hb dX12_wrongRow_17 (by decide) (by have := gke2 y9; omega) (fun c_17 => ?_) (fun c_17 => ?_)
  · refine lv_aload_n hx hb dX12_wrongRow_25 rfl (lv_at hl 0 rfl) ?_
    refine va_get (D := (dC, dI)) (ci := 12) (v := .ref ak) (C := RX12) (T := TX12) (N := 20) hx hb hts (fun _ h => List.mem_cons_of_mem _ (List.mem_append_right _ h)) hown hK hP 0 rfl rfl 4 (by decide) (hts (.fieldLink RX12 22 "HoldsOnceDeniedModel" "kept" "[I") (by decide +kernel)) (fun _ h9 => h9) rfl dX12_wrongRow_26 ?_
    refine lv_iload_n hx hb dX12_wrongRow_29 rfl (lv_at hl 1 rfl) ?_
    refine ho_iald (v := nI (ke y9)) hx hb hK hP 1 0 rfl rfl (by omega) (by first | decide | omega) rfl dX12_wrongRow_30 ?_
    refine lv_iconst (v := nI 2) hx hb dX12_wrongRow_31 (by decide +kernel) ?_
    refine ho_icmp_ne (tgt := 49) hx hb dX12_wrongRow_32 (by decide) (by have := gke2 y9; omega) (by omega) (fun c_32 => ?_) (fun c_32 => ?_)
    · refine lv_bipush (v := (-12)) hx hb dX12_wrongRow_49 (by decide +kernel) ?_
      refine lv_goto (tgt := 55) hx hb dX12_wrongRow_51 (by decide) ?_
      exact W.iret (v := (-12)) hx hb hr (fun T9 hT9 hW9 => ⟨_, rfl, (by first | (simp [wrR, wrS, c_17]; done) | (simp [wrR, wrS, c_17, c_32]; done) | (simp [wrR, wrS, c_17, c_32, c_46]; done) | (simp [wrR, wrS, c_17, c_32, c_46]; rfl) | (simp [wrR, wrS, c_17, c_32]; rfl)), hT9⟩) (fun q h => by cases h) dX12_wrongRow_55
    refine lv_iload_n hx hb dX12_wrongRow_35 rfl (lv_at hl 2 rfl) ?_
    refine lv_if_lt (tgt := 54) hx hb dX12_wrongRow_36 (by decide) (fun _ => ?_) (fun z => absurd z (by decide +kernel))
    refine lv_iconst (v := nI 0) hx hb dX12_wrongRow_54 (by decide +kernel) ?_
    exact W.iret (v := nI 0) hx hb hr (fun T9 hT9 hW9 => ⟨_, rfl, (by first | (simp [wrR, wrS, c_17]; done) | (simp [wrR, wrS, c_17, c_32]; done) | (simp [wrR, wrS, c_17, c_32, c_46]; done) | (simp [wrR, wrS, c_17, c_32, c_46]; rfl) | (simp [wrR, wrS, c_17, c_32]; rfl)), hT9⟩) (fun q h => by cases h) dX12_wrongRow_55
  refine lv_bipush (v := (-11)) hx hb dX12_wrongRow_20 (by decide +kernel) ?_
  refine lv_goto (tgt := 55) hx hb dX12_wrongRow_22 (by decide) ?_
  exact W.iret (v := (-11)) hx hb hr (fun T9 hT9 hW9 => ⟨_, rfl, (by first | (simp [wrR, wrS, c_17]; done) | (simp [wrR, wrS, c_17, c_32]; done) | (simp [wrR, wrS, c_17, c_32, c_46]; done) | (simp [wrR, wrS, c_17, c_32, c_46]; rfl) | (simp [wrR, wrS, c_17, c_32]; rfl)), hT9⟩) (fun q h => by cases h) dX12_wrongRow_55
set_option maxHeartbeats 4000000 in
set_option maxRecDepth 100000 in
theorem c_X12_wrongRow_fm (l : Launch) (dC : Nat → ClassId) (dI : Nat → Nat → Nat) (cI cD cR : ClassId) (y as ai ar am ak ao az ae aq af : Nat) (hi : Bool) (th : Int32) (po ba en an aw ax ap : Nat) (se : Int32) (ke : Nat → Nat) (so : Nat → Nat) (x9 : Int32) (hb9 : okI x9 8 = false) : Met l yX12_wrongRow wsX12_wrongRow ({ frames := 2, cells := 0, slots := 0, locals := 45 }) (pcR dC dI cI cD cR [.ref y, .int x9, .int (-1)] (fun H => va_P (dC, dI) vwCl ([(y, .inr (12, [.ref as, .ref ai, .ref ar, .ref am, .ref ak, .ref ao, .ref az, .ref ae, .ref aq, .ref af, .int (bI hi), .int th, .int (nI po), .int (nI ba), .int (nI en), .ref an, .ref aw, .ref ax, .ref ap, .int se]))] ++ [(ak, .inl (cI, 8, .inl (nF ke)))] ++ [(ao, .inl (cI, 8, .inl (nF so)))]) H)) (vp_Si (fun r => r = (-1))) 0 0 (fun _ => False) := by
  refine Met.ofW (cc := cX12_wrongRow) (maxL := 3) (ret := (some .int)) (by decide) rfl ?_
  intro p e s m args below meth c s₁ B hml hv
  obtain ⟨rfl, hH0, hCX⟩ := hv
  have hx := B.exec
  have hb := B.bytes
  have hr := B.returns
  have hts := atoms_spec (ws := wsX12_wrongRow) B.pre
  have hown : s.vm.findClass RX12 = some m.cls := findClass_of_methodNamed B.named
  have hlocks := B.notSynchronized
  have hK := hCX.1
  have hP := hH0
  have hl := lv_entry ([.ref y, .int x9, .int (-1)]) (n := 3) (Nat.le_of_ble_eq_true rfl)
  rw [lg_entry_eq]
  generalize (lg_sl ([.ref y, .int x9, .int (-1)]) ++ List.replicate (3 - (lg_sl ([.ref y, .int x9, .int (-1)])).length) Slot.unset).toArray = ls at hl ⊢
  have hl : lv_has ls 3 [(0, .ref y), (1, .int x9), (2, .int (-1))] := hl
  refine lv_iload_n hx hb dX12_wrongRow_0 rfl (lv_at hl 1 rfl) ?_
  refine vp_callSi ((va_runS (As := [.int x9]) (rest := []) ⟨hx, hb, hml, hown, hts⟩ (c_X12_isShelf_f l dC dI cI cD cR x9 (by first | omega | assumption | exact gnd _ | exact gkn _ | exact Nat.lt_trans (gkn _) (by decide) | exact Nat.lt_trans (gnd _) (by decide) | exact Nat.lt_of_le_of_lt (pcN_le _) (by decide))) (va_cwS 1 hts gX12_wrongRow_X12_isShelf rfl rfl rfl (by decide +kernel) ⟨Nat.le_of_ble_eq_true rfl, Nat.le_of_ble_eq_true rfl⟩) (preS_R hCX (trivial)) rfl rfl hl.1 rfl (lv_room (Nat.le_of_ble_eq_true rfl)) dX12_wrongRow_1 ⟨Nat.le_of_ble_eq_true (by first | rfl | decide), Nat.le_of_ble_eq_true (by first | rfl | decide)⟩).run) (fun r_1 hr_1 => ?_)
  subst hr_1
  refine lv_if_ne (tgt := 11) hx hb dX12_wrongRow_4 (by decide) (fun z => absurd z (by decide +kernel)) (fun _ => ?_)
  refine lv_iconst (v := (-1)) hx hb dX12_wrongRow_7 (by decide +kernel) ?_
  refine lv_goto (tgt := 55) hx hb dX12_wrongRow_8 (by decide) ?_
  exact W.iret (v := (-1)) hx hb hr (fun T9 hT9 hW9 => ⟨_, rfl, (by rfl), hT9⟩) (fun q h => by cases h) dX12_wrongRow_55
set_option maxHeartbeats 4000000 in
set_option maxRecDepth 100000 in
theorem c_X12_wrongKept_n (l : Launch) (dC : Nat → ClassId) (dI : Nat → Nat → Nat) (cI cD cR : ClassId) (y as ai ar am ak ao az ae aq af : Nat) (hi : Bool) (th : Int32) (po ba en an aw ax ap : Nat) (se : Int32) (ke : Nat → Nat) (y9 : Nat) (hy9 : y9 < 8) (gke2 : ∀ j, ke j ≤ 2) : Met l yX12_wrongKept wsX12_wrongKept ({ frames := 2, cells := 0, slots := 0, locals := 45 }) (pcR dC dI cI cD cR [.ref y, .int (nI y9)] (fun H => va_P (dC, dI) vwCl ([(y, .inr (12, [.ref as, .ref ai, .ref ar, .ref am, .ref ak, .ref ao, .ref az, .ref ae, .ref aq, .ref af, .int (bI hi), .int th, .int (nI po), .int (nI ba), .int (nI en), .ref an, .ref aw, .ref ax, .ref ap, .int se]))] ++ [(ak, .inl (cI, 8, .inl (nF ke)))]) H)) (vp_Si (fun r => r = (wkR ke y9))) 0 0 (fun _ => False) := by
  refine Met.ofW (cc := cX12_wrongKept) (maxL := 2) (ret := (some .int)) (by decide) rfl ?_
  intro p e s m args below meth c s₁ B hml hv
  obtain ⟨rfl, hH0, hCX⟩ := hv
  have hx := B.exec
  have hb := B.bytes
  have hr := B.returns
  have hts := atoms_spec (ws := wsX12_wrongKept) B.pre
  have hown : s.vm.findClass RX12 = some m.cls := findClass_of_methodNamed B.named
  have hlocks := B.notSynchronized
  have hK := hCX.1
  have hP := hH0
  have hl := lv_entry ([.ref y, .int (nI y9)]) (n := 2) (Nat.le_of_ble_eq_true rfl)
  rw [lg_entry_eq]
  generalize (lg_sl ([.ref y, .int (nI y9)]) ++ List.replicate (2 - (lg_sl ([.ref y, .int (nI y9)])).length) Slot.unset).toArray = ls at hl ⊢
  have hl : lv_has ls 2 [(0, .ref y), (1, .int (nI y9))] := hl
  refine lv_iload_n hx hb dX12_wrongKept_0 rfl (lv_at hl 1 rfl) ?_
  refine vp_callSi ((va_runS (As := [.int (nI y9)]) (rest := []) ⟨hx, hb, hml, hown, hts⟩ (c_X12_isShelf_t l dC dI cI cD cR y9 (by first | omega | assumption | exact gnd _ | exact gkn _ | exact Nat.lt_trans (gkn _) (by decide) | exact Nat.lt_trans (gnd _) (by decide) | exact Nat.lt_of_le_of_lt (pcN_le _) (by decide))) (va_cwS 1 hts gX12_wrongKept_X12_isShelf rfl rfl rfl (by decide +kernel) ⟨Nat.le_of_ble_eq_true rfl, Nat.le_of_ble_eq_true rfl⟩) (preS_R hCX (trivial)) rfl rfl hl.1 rfl (lv_room (Nat.le_of_ble_eq_true rfl)) dX12_wrongKept_1 ⟨Nat.le_of_ble_eq_true (by first | rfl | decide), Nat.le_of_ble_eq_true (by first | rfl | decide)⟩).run) (fun r_1 hr_1 => ?_)
  subst hr_1
  refine lv_if_ne (tgt := 11) hx hb dX12_wrongKept_4 (by decide) (fun _ => ?_) (fun z => absurd z (by decide +kernel))
  refine lv_aload_n hx hb dX12_wrongKept_11 rfl (lv_at hl 0 rfl) ?_
  refine va_get (D := (dC, dI)) (ci := 12) (v := .ref ak) (C := RX12) (T := TX12) (N := 20) hx hb hts (fun _ h => List.mem_cons_of_mem _ (List.mem_append_right _ h)) hown hK hP 0 rfl rfl 4 (by decide) (hts (.fieldLink RX12 22 "HoldsOnceDeniedModel" "kept" "[I") (by decide +kernel)) (fun _ h9 => h9) rfl dX12_wrongKept_12 ?_
  refine lv_iload_n hx hb dX12_wrongKept_15 rfl (lv_at hl 1 rfl) ?_
  refine ho_iald (v := nI (ke y9)) hx hb hK hP 1 0 rfl rfl (by omega) (by first | decide | omega) rfl dX12_wrongKept_16 ?_
  refine ho_if_ne (tgt := 25) hx hb dX12_wrongKept_17 (by decide) (by have := gke2 y9; omega) (fun c_17 => ?_) (fun c_17 => ?_)
  · refine lv_aload_n hx hb dX12_wrongKept_25 rfl (lv_at hl 0 rfl) ?_
    refine va_get (D := (dC, dI)) (ci := 12) (v := .ref ak) (C := RX12) (T := TX12) (N := 20) hx hb hts (fun _ h => List.mem_cons_of_mem _ (List.mem_append_right _ h)) hown hK hP 0 rfl rfl 4 (by decide) (hts (.fieldLink RX12 22 "HoldsOnceDeniedModel" "kept" "[I") (by decide +kernel)) (fun _ h9 => h9) rfl dX12_wrongKept_26 ?_
    refine lv_iload_n hx hb dX12_wrongKept_29 rfl (lv_at hl 1 rfl) ?_
    refine ho_iald (v := nI (ke y9)) hx hb hK hP 1 0 rfl rfl (by omega) (by first | decide | omega) rfl dX12_wrongKept_30 ?_
    refine lv_iconst (v := nI 1) hx hb dX12_wrongKept_31 (by decide +kernel) ?_
    refine ho_icmp_ne (tgt := 39) hx hb dX12_wrongKept_32 (by decide) (by have := gke2 y9; omega) (by omega) (fun c_32 => ?_) (fun c_32 => ?_)
    · refine lv_bipush (v := (-12)) hx hb dX12_wrongKept_39 (by decide +kernel) ?_
      exact W.iret (v := (-12)) hx hb hr (fun T9 hT9 hW9 => ⟨_, rfl, (by first | (simp [wkR, c_17]; done) | (simp [wkR, c_17, c_32]; done) | (simp [wkR, c_17, c_32]; rfl)), hT9⟩) (fun q h => by cases h) dX12_wrongKept_41
    refine lv_iconst (v := nI 0) hx hb dX12_wrongKept_35 (by decide +kernel) ?_
    refine lv_goto (tgt := 41) hx hb dX12_wrongKept_36 (by decide) ?_
    exact W.iret (v := nI 0) hx hb hr (fun T9 hT9 hW9 => ⟨_, rfl, (by first | (simp [wkR, c_17]; done) | (simp [wkR, c_17, c_32]; done) | (simp [wkR, c_17, c_32]; rfl)), hT9⟩) (fun q h => by cases h) dX12_wrongKept_41
  refine lv_bipush (v := (-11)) hx hb dX12_wrongKept_20 (by decide +kernel) ?_
  refine lv_goto (tgt := 41) hx hb dX12_wrongKept_22 (by decide) ?_
  exact W.iret (v := (-11)) hx hb hr (fun T9 hT9 hW9 => ⟨_, rfl, (by first | (simp [wkR, c_17]; done) | (simp [wkR, c_17, c_32]; done) | (simp [wkR, c_17, c_32]; rfl)), hT9⟩) (fun q h => by cases h) dX12_wrongKept_41
set_option maxHeartbeats 4000000 in
set_option maxRecDepth 100000 in
theorem c_X12_wrongKept_f (l : Launch) (dC : Nat → ClassId) (dI : Nat → Nat → Nat) (cI cD cR : ClassId) (y as ai ar am ak ao az ae aq af : Nat) (hi : Bool) (th : Int32) (po ba en an aw ax ap : Nat) (se : Int32) (ke : Nat → Nat) (x9 : Int32) (hb9 : okI x9 8 = false) : Met l yX12_wrongKept wsX12_wrongKept ({ frames := 2, cells := 0, slots := 0, locals := 45 }) (pcR dC dI cI cD cR [.ref y, .int x9] (fun H => va_P (dC, dI) vwCl ([(y, .inr (12, [.ref as, .ref ai, .ref ar, .ref am, .ref ak, .ref ao, .ref az, .ref ae, .ref aq, .ref af, .int (bI hi), .int th, .int (nI po), .int (nI ba), .int (nI en), .ref an, .ref aw, .ref ax, .ref ap, .int se]))] ++ [(ak, .inl (cI, 8, .inl (nF ke)))]) H)) (vp_Si (fun r => r = (-1))) 0 0 (fun _ => False) := by
  refine Met.ofW (cc := cX12_wrongKept) (maxL := 2) (ret := (some .int)) (by decide) rfl ?_
  intro p e s m args below meth c s₁ B hml hv
  obtain ⟨rfl, hH0, hCX⟩ := hv
  have hx := B.exec
  have hb := B.bytes
  have hr := B.returns
  have hts := atoms_spec (ws := wsX12_wrongKept) B.pre
  have hown : s.vm.findClass RX12 = some m.cls := findClass_of_methodNamed B.named
  have hlocks := B.notSynchronized
  have hK := hCX.1
  have hP := hH0
  have hl := lv_entry ([.ref y, .int x9]) (n := 2) (Nat.le_of_ble_eq_true rfl)
  rw [lg_entry_eq]
  generalize (lg_sl ([.ref y, .int x9]) ++ List.replicate (2 - (lg_sl ([.ref y, .int x9])).length) Slot.unset).toArray = ls at hl ⊢
  have hl : lv_has ls 2 [(0, .ref y), (1, .int x9)] := hl
  refine lv_iload_n hx hb dX12_wrongKept_0 rfl (lv_at hl 1 rfl) ?_
  refine vp_callSi ((va_runS (As := [.int x9]) (rest := []) ⟨hx, hb, hml, hown, hts⟩ (c_X12_isShelf_f l dC dI cI cD cR x9 (by first | omega | assumption | exact gnd _ | exact gkn _ | exact Nat.lt_trans (gkn _) (by decide) | exact Nat.lt_trans (gnd _) (by decide) | exact Nat.lt_of_le_of_lt (pcN_le _) (by decide))) (va_cwS 1 hts gX12_wrongKept_X12_isShelf rfl rfl rfl (by decide +kernel) ⟨Nat.le_of_ble_eq_true rfl, Nat.le_of_ble_eq_true rfl⟩) (preS_R hCX (trivial)) rfl rfl hl.1 rfl (lv_room (Nat.le_of_ble_eq_true rfl)) dX12_wrongKept_1 ⟨Nat.le_of_ble_eq_true (by first | rfl | decide), Nat.le_of_ble_eq_true (by first | rfl | decide)⟩).run) (fun r_1 hr_1 => ?_)
  subst hr_1
  refine lv_if_ne (tgt := 11) hx hb dX12_wrongKept_4 (by decide) (fun z => absurd z (by decide +kernel)) (fun _ => ?_)
  refine lv_iconst (v := (-1)) hx hb dX12_wrongKept_7 (by decide +kernel) ?_
  refine lv_goto (tgt := 41) hx hb dX12_wrongKept_8 (by decide) ?_
  exact W.iret (v := (-1)) hx hb hr (fun T9 hT9 hW9 => ⟨_, rfl, (by rfl), hT9⟩) (fun q h => by cases h) dX12_wrongKept_41
