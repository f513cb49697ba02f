set_option maxHeartbeats 4000000 in
set_option maxRecDepth 100000 in
theorem c_X12_copy_f (l : Launch) (dC : Nat → ClassId) (dI : Nat → Nat → Nat) (cI cD cR : ClassId) (y as ai ar am ak ao az ae aq af : Nat) (hi : Bool) (th : Int32) (po ba en an aw ax ap : Nat) (se : Int32) (ke : Nat → Nat) (so : Nat → Nat) (zz : Nat → Nat) (x9 i9 x2 j9 n9 : Int32) (gzz : ∀ j, zz j ≤ 100) (gso : ∀ j, so j < 3) (gke2 : ∀ j, ke j ≤ 2) (hno : ∀ y1 y2, x9 = nI y1 → x2 = nI y2 → y1 < 8 → y2 < 8 → ke y1 = 2 → ke y2 = 2 → so y1 = so y2 → cpK (zz y1) (zz y2) i9 j9 n9 = false) : Met l yX12_copy wsX12_copy ({ frames := 2, cells := 0, slots := 0, locals := 45 }) (pcR dC dI cI cD cR [.ref y, .int x9, .int i9, .int x2, .int j9, .int n9] (fun H => va_P (dC, dI) vwCl ([(y, .inr (12, [.ref as, .ref ai, .ref ar, .ref am, .ref ak, .ref ao, .ref az, .ref ae, .ref aq, .ref af, .int (bI hi), .int th, .int (nI po), .int (nI ba), .int (nI en), .ref an, .ref aw, .ref ax, .ref ap, .int se]))] ++ [(ak, .inl (cI, 8, .inl (nF ke)))] ++ [(ao, .inl (cI, 8, .inl (nF so)))] ++ [(az, .inl (cI, 8, .inl (nF zz)))]) H)) (vp_Si (fun r => r = (on1 (oN x9 8) (fun y1 => on1 (oN x2 8) (fun y2 => if ke y1 = 0 ∨ ke y2 = 0 then -11 else if ke y1 = 2 ∧ ke y2 = 2 ∧ so y1 = so y2 then -13 else -12) (-1)) (-1)))) 0 0 (fun _ => False) := by
  refine Met.ofW (cc := cX12_copy) (maxL := 8) (ret := (some .int)) (by decide) rfl ?_
  intro p e s m args below meth c s₁ B hml hv
  obtain ⟨rfl, hH0, hCX⟩ := hv
  have hx := B.exec
  have hb := B.bytes
  have hr := B.returns
  have hts := atoms_spec (ws := wsX12_copy) B.pre
  have hown : s.vm.findClass RX12 = some m.cls := findClass_of_methodNamed B.named
  have hlocks := B.notSynchronized
  have hK := hCX.1
  have hP := hH0
  have hl := lv_entry ([.ref y, .int x9, .int i9, .int x2, .int j9, .int n9]) (n := 8) (Nat.le_of_ble_eq_true rfl)
  rw [lg_entry_eq]
  generalize (lg_sl ([.ref y, .int x9, .int i9, .int x2, .int j9, .int n9]) ++ List.replicate (8 - (lg_sl ([.ref y, .int x9, .int i9, .int x2, .int j9, .int n9])).length) Slot.unset).toArray = ls at hl ⊢
  have hl : lv_has ls 8 [(0, .ref y), (1, .int x9), (2, .int i9), (3, .int x2), (4, .int j9), (5, .int n9)] := hl
  rcases okI_or x9 (n := 8) (by omega) with hb_x9 | ⟨y1, h_y1, rfl⟩
  · refine lv_iload_n hx hb dX12_copy_0 rfl (lv_at hl 1 rfl) ?_
    refine vp_callSi ((va_runS (As := [.int x9]) (rest := []) ⟨hx, hb, hml, hown, hts⟩ (c_X12_isShelf_f l dC dI cI cD cR x9 (by first | omega | assumption | exact gnd _ | exact gkn _ | exact Nat.lt_trans (gkn _) (by decide) | exact Nat.lt_trans (gnd _) (by decide) | exact Nat.lt_of_le_of_lt (pcN_le _) (by decide))) (va_cwS 1 hts gX12_copy_X12_isShelf rfl rfl rfl (by decide +kernel) ⟨Nat.le_of_ble_eq_true rfl, Nat.le_of_ble_eq_true rfl⟩) (preS_R hCX (trivial)) rfl rfl hl.1 rfl (lv_room (Nat.le_of_ble_eq_true rfl)) dX12_copy_1 ⟨Nat.le_of_ble_eq_true (by first | rfl | decide), Nat.le_of_ble_eq_true (by first | rfl | decide)⟩).run) (fun r_1 hr_1 => ?_)
    subst hr_1
    refine lv_if_eq (tgt := 14) hx hb dX12_copy_4 (by decide) (fun _ => ?_) (fun z => absurd z (by decide +kernel))
    refine lv_iconst (v := (-1)) hx hb dX12_copy_14 (by decide +kernel) ?_
    exact W.iret (v := (-1)) hx hb hr (fun T9 hT9 hW9 => ⟨_, rfl, (by simp only [oN_f hb_x9, on1_s, on1_n]), hT9⟩) (fun q h => by cases h) dX12_copy_15
  rcases okI_or x2 (n := 8) (by omega) with hb_x2 | ⟨y2, h_y2, rfl⟩
  · refine lv_iload_n hx hb dX12_copy_0 rfl (lv_at hl 1 rfl) ?_
    refine vp_callSi ((va_runS (As := [.int (nI y1)]) (rest := []) ⟨hx, hb, hml, hown, hts⟩ (c_X12_isShelf_t l dC dI cI cD cR y1 (by first | omega | assumption | exact gnd _ | exact gkn _ | exact Nat.lt_trans (gkn _) (by decide) | exact Nat.lt_trans (gnd _) (by decide) | exact Nat.lt_of_le_of_lt (pcN_le _) (by decide))) (va_cwS 1 hts gX12_copy_X12_isShelf rfl rfl rfl (by decide +kernel) ⟨Nat.le_of_ble_eq_true rfl, Nat.le_of_ble_eq_true rfl⟩) (preS_R hCX (trivial)) rfl rfl hl.1 rfl (lv_room (Nat.le_of_ble_eq_true rfl)) dX12_copy_1 ⟨Nat.le_of_ble_eq_true (by first | rfl | decide), Nat.le_of_ble_eq_true (by first | rfl | decide)⟩).run) (fun r_1 hr_1 => ?_)
    subst hr_1
    refine lv_if_eq (tgt := 14) hx hb dX12_copy_4 (by decide) (fun z => absurd z (by decide +kernel)) (fun _ => ?_)
    refine lv_iload_n hx hb dX12_copy_7 rfl (lv_at hl 3 rfl) ?_
    refine vp_callSi ((va_runS (As := [.int x2]) (rest := []) ⟨hx, hb, hml, hown, hts⟩ (c_X12_isShelf_f l dC dI cI cD cR x2 (by first | omega | assumption | exact gnd _ | exact gkn _ | exact Nat.lt_trans (gkn _) (by decide) | exact Nat.lt_trans (gnd _) (by decide) | exact Nat.lt_of_le_of_lt (pcN_le _) (by decide))) (va_cwS 1 hts gX12_copy_X12_isShelf rfl rfl rfl (by decide +kernel) ⟨Nat.le_of_ble_eq_true rfl, Nat.le_of_ble_eq_true rfl⟩) (preS_R hCX (trivial)) rfl rfl hl.1 rfl (lv_room (Nat.le_of_ble_eq_true rfl)) dX12_copy_8 ⟨Nat.le_of_ble_eq_true (by first | rfl | decide), Nat.le_of_ble_eq_true (by first | rfl | decide)⟩).run) (fun r_8 hr_8 => ?_)
    subst hr_8
    refine lv_if_ne (tgt := 16) hx hb dX12_copy_11 (by decide) (fun z => absurd z (by decide +kernel)) (fun _ => ?_)
    refine lv_iconst (v := (-1)) hx hb dX12_copy_14 (by decide +kernel) ?_
    exact W.iret (v := (-1)) hx hb hr (fun T9 hT9 hW9 => ⟨_, rfl, (by simp only [oN_t h_y1, oN_f hb_x2, on1_s, on1_n]), hT9⟩) (fun q h => by cases h) dX12_copy_15
  refine lv_iload_n hx hb dX12_copy_0 rfl (lv_at hl 1 rfl) ?_
  refine vp_callSi ((va_runS (As := [.int (nI y1)]) (rest := []) ⟨hx, hb, hml, hown, hts⟩ (c_X12_isShelf_t l dC dI cI cD cR y1 (by first | omega | assumption | exact gnd _ | exact gkn _ | exact Nat.lt_trans (gkn _) (by decide) | exact Nat.lt_trans (gnd _) (by decide) | exact Nat.lt_of_le_of_lt (pcN_le _) (by decide))) (va_cwS 1 hts gX12_copy_X12_isShelf rfl rfl rfl (by decide +kernel) ⟨Nat.le_of_ble_eq_true rfl, Nat.le_of_ble_eq_true rfl⟩) (preS_R hCX (trivial)) rfl rfl hl.1 rfl (lv_room (Nat.le_of_ble_eq_true rfl)) dX12_copy_1 ⟨Nat.le_of_ble_eq_true (by first | rfl | decide), Nat.le_of_ble_eq_true (by first | rfl | decide)⟩).run) (fun r_1 hr_1 => ?_)
  subst hr_1
  refine lv_if_eq (tgt := 14) hx hb dX12_copy_4 (by decide) (fun z => absurd z (by decide +kernel)) (fun _ => ?_)
  refine lv_iload_n hx hb dX12_copy_7 rfl (lv_at hl 3 rfl) ?_
  refine vp_callSi ((va_runS (As := [.int (nI y2)]) (rest := []) ⟨hx, hb, hml, hown, hts⟩ (c_X12_isShelf_t l dC dI cI cD cR y2 (by first | omega | assumption | exact gnd _ | exact gkn _ | exact Nat.lt_trans (gkn _) (by decide) | exact Nat.lt_trans (gnd _) (by decide) | exact Nat.lt_of_le_of_lt (pcN_le _) (by decide))) (va_cwS 1 hts gX12_copy_X12_isShelf rfl rfl rfl (by decide +kernel) ⟨Nat.le_of_ble_eq_true rfl, Nat.le_of_ble_eq_true rfl⟩) (preS_R hCX (trivial)) rfl rfl hl.1 rfl (lv_room (Nat.le_of_ble_eq_true rfl)) dX12_copy_8 ⟨Nat.le_of_ble_eq_true (by first | rfl | decide), Nat.le_of_ble_eq_true (by first | rfl | decide)⟩).run) (fun r_8 hr_8 => ?_)
  subst hr_8
  refine lv_if_ne (tgt := 16) hx hb dX12_copy_11 (by decide) (fun _ => ?_) (fun z => absurd z (by decide +kernel))
  refine lv_aload_n hx hb dX12_copy_16 rfl (lv_at hl 0 rfl) ?_
  refine va_get (D := (dC, dI)) (ci := 12) (v := .ref ak) (C := RX12) (T := TX12) (N := 20) hx hb hts (fun _ h => List.mem_cons_of_mem _ (List.mem_append_right _ h)) hown hK hP 0 rfl rfl 4 (by decide) (hts (.fieldLink RX12 22 "HoldsOnceDeniedModel" "kept" "[I") (by decide +kernel)) (fun _ h9 => h9) rfl dX12_copy_17 ?_
  refine lv_iload_n hx hb dX12_copy_20 rfl (lv_at hl 1 rfl) ?_
  refine ho_iald (v := nI (ke y1)) hx hb hK hP 1 0 rfl rfl (by omega) (by first | decide | omega) rfl dX12_copy_21 ?_
  refine ho_if_eq (tgt := 34) hx hb dX12_copy_22 (by decide) (by have := gke2 y1; omega) (fun c_22 => ?_) (fun c_22 => ?_)
  · refine lv_bipush (v := (-11)) hx hb dX12_copy_34 (by decide +kernel) ?_
    exact W.iret (v := (-11)) hx hb hr (fun T9 hT9 hW9 => ⟨_, rfl, (by simp only [oN_t h_y1, oN_t h_y2, on1_s, on1_n]; first | rw [if_pos (Or.inl c_22)] | rw [if_pos (Or.inr c_31)]), hT9⟩) (fun q h => by cases h) dX12_copy_36
  refine lv_aload_n hx hb dX12_copy_25 rfl (lv_at hl 0 rfl) ?_
  refine va_get (D := (dC, dI)) (ci := 12) (v := .ref ak) (C := RX12) (T := TX12) (N := 20) hx hb hts (fun _ h => List.mem_cons_of_mem _ (List.mem_append_right _ h)) hown hK hP 0 rfl rfl 4 (by decide) (hts (.fieldLink RX12 22 "HoldsOnceDeniedModel" "kept" "[I") (by decide +kernel)) (fun _ h9 => h9) rfl dX12_copy_26 ?_
  refine lv_iload_n hx hb dX12_copy_29 rfl (lv_at hl 3 rfl) ?_
  refine ho_iald (v := nI (ke y2)) hx hb hK hP 1 0 rfl rfl (by omega) (by first | decide | omega) rfl dX12_copy_30 ?_
  refine ho_if_ne (tgt := 37) hx hb dX12_copy_31 (by decide) (by have := gke2 y2; omega) (fun c_31 => ?_) (fun c_31 => ?_)
  · refine lv_aload_n hx hb dX12_copy_37 rfl (lv_at hl 0 rfl) ?_
    refine va_get (D := (dC, dI)) (ci := 12) (v := .ref ak) (C := RX12) (T := TX12) (N := 20) hx hb hts (fun _ h => List.mem_cons_of_mem _ (List.mem_append_right _ h)) hown hK hP 0 rfl rfl 4 (by decide) (hts (.fieldLink RX12 22 "HoldsOnceDeniedModel" "kept" "[I") (by decide +kernel)) (fun _ h9 => h9) rfl dX12_copy_38 ?_
    refine lv_iload_n hx hb dX12_copy_41 rfl (lv_at hl 1 rfl) ?_
    refine ho_iald (v := nI (ke y1)) hx hb hK hP 1 0 rfl rfl (by omega) (by first | decide | omega) rfl dX12_copy_42 ?_
    refine lv_iconst (v := nI 2) hx hb dX12_copy_43 (by decide +kernel) ?_
    refine ho_icmp_ne (tgt := 72) hx hb dX12_copy_44 (by decide) (by have := gke2 y1; omega) (by omega) (fun c_44 => ?_) (fun c_44 => ?_)
    · refine lv_bipush (v := (-12)) hx hb dX12_copy_72 (by decide +kernel) ?_
      exact W.iret (v := (-12)) hx hb hr (fun T9 hT9 hW9 => ⟨_, rfl, (by simp only [oN_t h_y1, oN_t h_y2, on1_s, on1_n]; rw [if_neg (by omega), if_neg (by omega)]), hT9⟩) (fun q h => by cases h) dX12_copy_74
    refine lv_aload_n hx hb dX12_copy_47 rfl (lv_at hl 0 rfl) ?_
    refine va_get (D := (dC, dI)) (ci := 12) (v := .ref ak) (C := RX12) (T := TX12) (N := 20) hx hb hts (fun _ h => List.mem_cons_of_mem _ (List.mem_append_right _ h)) hown hK hP 0 rfl rfl 4 (by decide) (hts (.fieldLink RX12 22 "HoldsOnceDeniedModel" "kept" "[I") (by decide +kernel)) (fun _ h9 => h9) rfl dX12_copy_48 ?_
    refine lv_iload_n hx hb dX12_copy_51 rfl (lv_at hl 3 rfl) ?_
    refine ho_iald (v := nI (ke y2)) hx hb hK hP 1 0 rfl rfl (by omega) (by first | decide | omega) rfl dX12_copy_52 ?_
    refine lv_iconst (v := nI 2) hx hb dX12_copy_53 (by decide +kernel) ?_
    refine ho_icmp_ne (tgt := 72) hx hb dX12_copy_54 (by decide) (by have := gke2 y2; omega) (by omega) (fun c_54 => ?_) (fun c_54 => ?_)
    · refine lv_bipush (v := (-12)) hx hb dX12_copy_72 (by decide +kernel) ?_
      exact W.iret (v := (-12)) hx hb hr (fun T9 hT9 hW9 => ⟨_, rfl, (by simp only [oN_t h_y1, oN_t h_y2, on1_s, on1_n]; rw [if_neg (by omega), if_neg (by omega)]), hT9⟩) (fun q h => by cases h) dX12_copy_74
    refine lv_aload_n hx hb dX12_copy_57 rfl (lv_at hl 0 rfl) ?_
    refine va_get (D := (dC, dI)) (ci := 12) (v := .ref ao) (C := RX12) (T := TX12) (N := 20) hx hb hts (fun _ h => List.mem_cons_of_mem _ (List.mem_append_right _ h)) hown hK hP 0 rfl rfl 5 (by decide) (hts (.fieldLink RX12 25 "HoldsOnceDeniedModel" "sort" "[I") (by decide +kernel)) (fun _ h9 => h9) rfl dX12_copy_58 ?_
    refine lv_iload_n hx hb dX12_copy_61 rfl (lv_at hl 1 rfl) ?_
    refine ho_iald (v := nI (so y1)) hx hb hK hP 2 0 rfl rfl (by omega) (by first | decide | omega) rfl dX12_copy_62 ?_
    refine lv_aload_n hx hb dX12_copy_63 rfl (lv_at hl 0 rfl) ?_
    refine va_get (D := (dC, dI)) (ci := 12) (v := .ref ao) (C := RX12) (T := TX12) (N := 20) hx hb hts (fun _ h => List.mem_cons_of_mem _ (List.mem_append_right _ h)) hown hK hP 0 rfl rfl 5 (by decide) (hts (.fieldLink RX12 25 "HoldsOnceDeniedModel" "sort" "[I") (by decide +kernel)) (fun _ h9 => h9) rfl dX12_copy_64 ?_
    refine lv_iload_n hx hb dX12_copy_67 rfl (lv_at hl 3 rfl) ?_
    refine ho_iald (v := nI (so y2)) hx hb hK hP 2 0 rfl rfl (by omega) (by first | decide | omega) rfl dX12_copy_68 ?_
    refine ho_icmp_eq (tgt := 75) hx hb dX12_copy_69 (by decide) (by have := gso y1; omega) (by have := gso y2; omega) (fun c_69 => ?_) (fun c_69 => ?_)
    · refine lv_iload hx hb dX12_copy_75 (lv_at hl 5 rfl) ?_
      refine lv_if_lt (tgt := 116) hx hb dX12_copy_77 (by decide) (fun c_77 => ?_) (fun c_77 => ?_)
      · refine lv_bipush (v := (-13)) hx hb dX12_copy_116 (by decide +kernel) ?_
        exact W.iret (v := (-13)) hx hb hr (fun T9 hT9 hW9 => ⟨_, rfl, (by simp only [oN_t h_y1, oN_t h_y2, on1_s, on1_n]; rw [if_neg (by omega), if_pos ⟨by omega, by omega, by omega⟩]), hT9⟩) (fun q h => by cases h) dX12_copy_118
      refine lv_iload_n hx hb dX12_copy_80 rfl (lv_at hl 2 rfl) ?_
      refine lv_if_lt (tgt := 116) hx hb dX12_copy_81 (by decide) (fun c_81 => ?_) (fun c_81 => ?_)
      · refine lv_bipush (v := (-13)) hx hb dX12_copy_116 (by decide +kernel) ?_
        exact W.iret (v := (-13)) hx hb hr (fun T9 hT9 hW9 => ⟨_, rfl, (by simp only [oN_t h_y1, oN_t h_y2, on1_s, on1_n]; rw [if_neg (by omega), if_pos ⟨by omega, by omega, by omega⟩]), hT9⟩) (fun q h => by cases h) dX12_copy_118
      refine lv_iload hx hb dX12_copy_84 (lv_at hl 4 rfl) ?_
      refine lv_if_lt (tgt := 116) hx hb dX12_copy_86 (by decide) (fun c_86 => ?_) (fun c_86 => ?_)
      · refine lv_bipush (v := (-13)) hx hb dX12_copy_116 (by decide +kernel) ?_
        exact W.iret (v := (-13)) hx hb hr (fun T9 hT9 hW9 => ⟨_, rfl, (by simp only [oN_t h_y1, oN_t h_y2, on1_s, on1_n]; rw [if_neg (by omega), if_pos ⟨by omega, by omega, by omega⟩]), hT9⟩) (fun q h => by cases h) dX12_copy_118
      refine lv_iload hx hb dX12_copy_89 (lv_at hl 5 rfl) ?_
      refine lv_aload_n hx hb dX12_copy_91 rfl (lv_at hl 0 rfl) ?_
      refine va_get (D := (dC, dI)) (ci := 12) (v := .ref az) (C := RX12) (T := TX12) (N := 20) hx hb hts (fun _ h => List.mem_cons_of_mem _ (List.mem_append_right _ h)) hown hK hP 0 rfl rfl 6 (by decide) (hts (.fieldLink RX12 28 "HoldsOnceDeniedModel" "size" "[I") (by decide +kernel)) (fun _ h9 => h9) rfl dX12_copy_92 ?_
      refine lv_iload_n hx hb dX12_copy_95 rfl (lv_at hl 1 rfl) ?_
      refine ho_iald (v := nI (zz y1)) hx hb hK hP 3 0 rfl rfl (by omega) (by first | decide | omega) rfl dX12_copy_96 ?_
      refine lv_iload_n hx hb dX12_copy_97 rfl (lv_at hl 2 rfl) ?_
      refine lv_isub hx hb dX12_copy_98 ?_
      refine lv_icmp_gt (tgt := 116) hx hb dX12_copy_99 (by decide) (fun c_99 => ?_) (fun c_99 => ?_)
      · refine lv_bipush (v := (-13)) hx hb dX12_copy_116 (by decide +kernel) ?_
        exact W.iret (v := (-13)) hx hb hr (fun T9 hT9 hW9 => ⟨_, rfl, (by simp only [oN_t h_y1, oN_t h_y2, on1_s, on1_n]; rw [if_neg (by omega), if_pos ⟨by omega, by omega, by omega⟩]), hT9⟩) (fun q h => by cases h) dX12_copy_118
      refine lv_iload hx hb dX12_copy_102 (lv_at hl 5 rfl) ?_
      refine lv_aload_n hx hb dX12_copy_104 rfl (lv_at hl 0 rfl) ?_
      refine va_get (D := (dC, dI)) (ci := 12) (v := .ref az) (C := RX12) (T := TX12) (N := 20) hx hb hts (fun _ h => List.mem_cons_of_mem _ (List.mem_append_right _ h)) hown hK hP 0 rfl rfl 6 (by decide) (hts (.fieldLink RX12 28 "HoldsOnceDeniedModel" "size" "[I") (by decide +kernel)) (fun _ h9 => h9) rfl dX12_copy_105 ?_
      refine lv_iload_n hx hb dX12_copy_108 rfl (lv_at hl 3 rfl) ?_
      refine ho_iald (v := nI (zz y2)) hx hb hK hP 3 0 rfl rfl (by omega) (by first | decide | omega) rfl dX12_copy_109 ?_
      refine lv_iload hx hb dX12_copy_110 (lv_at hl 4 rfl) ?_
      refine lv_isub hx hb dX12_copy_112 ?_
      refine lv_icmp_le (tgt := 119) hx hb dX12_copy_113 (by decide) (fun c_113 => ?_) (fun c_113 => ?_)
      · exact absurd (hno y1 y2 rfl rfl h_y1 h_y2 (by omega) (by omega) (by omega)) (by simp [cpK, c_77, c_81, c_86, Int32.not_lt.mp c_99, c_113])
      refine lv_bipush (v := (-13)) hx hb dX12_copy_116 (by decide +kernel) ?_
      exact W.iret (v := (-13)) hx hb hr (fun T9 hT9 hW9 => ⟨_, rfl, (by simp only [oN_t h_y1, oN_t h_y2, on1_s, on1_n]; rw [if_neg (by omega), if_pos ⟨by omega, by omega, by omega⟩]), hT9⟩) (fun q h => by cases h) dX12_copy_118
    refine lv_bipush (v := (-12)) hx hb dX12_copy_72 (by decide +kernel) ?_
    exact W.iret (v := (-12)) hx hb hr (fun T9 hT9 hW9 => ⟨_, rfl, (by simp only [oN_t h_y1, oN_t h_y2, on1_s, on1_n]; rw [if_neg (by omega), if_neg (by omega)]), hT9⟩) (fun q h => by cases h) dX12_copy_74
  refine lv_bipush (v := (-11)) hx hb dX12_copy_34 (by decide +kernel) ?_
  exact W.iret (v := (-11)) hx hb hr (fun T9 hT9 hW9 => ⟨_, rfl, (by simp only [oN_t h_y1, oN_t h_y2, on1_s, on1_n]; first | rw [if_pos (Or.inl c_22)] | rw [if_pos (Or.inr c_31)]), hT9⟩) (fun q h => by cases h) dX12_copy_36
set_option maxHeartbeats 4000000 in
set_option maxRecDepth 100000 in
theorem c_X12_element_t (l : Launch) (dC : Nat → ClassId) (dI : Nat → Nat → Nat) (cI cD cR : ClassId) (y as ai ar am ak ao az ae aq af : Nat) (hi : Bool) (th : Int32) (po ba en an aw ax ap : Nat) (se : Int32) (ke : Nat → Nat) (zz : Nat → Nat) (el : Nat → Int32) (y1 i9 : Nat) (sz : Nat) (hy1 : y1 < 8) (hke : ke y1 = 2) (hi9 : i9 < zz y1) (gzz : ∀ j, zz j ≤ 100) (gke2 : ∀ j, ke j ≤ 2) : Met l yX12_element wsX12_element ({ frames := 2, cells := 0, slots := 0, locals := 45 }) (pcR dC dI cI cD cR [.ref y, .int (nI y1), .int (nI i9)] (fun H => H.size = sz ∧ va_P (dC, dI) vwCl ([(y, .inr (12, [.ref as, .ref ai, .ref ar, .ref am, .ref ak, .ref ao, .ref az, .ref ae, .ref aq, .ref af, .int (bI hi), .int th, .int (nI po), .int (nI ba), .int (nI en), .ref an, .ref aw, .ref ax, .ref ap, .int se]))] ++ [(ak, .inl (cI, 8, .inl (nF ke)))] ++ [(az, .inl (cI, 8, .inl (nF zz)))] ++ [(ae, .inl (cI, 800, .inl el))]) H ∧ va_D (fun _ => True) ([(y, .inr (12, [.ref as, .ref ai, .ref ar, .ref am, .ref ak, .ref ao, .ref az, .ref ae, .ref aq, .ref af, .int (bI hi), .int th, .int (nI po), .int (nI ba), .int (nI en), .ref an, .ref aw, .ref ax, .ref ap, .int se]))] ++ [(ak, .inl (cI, 8, .inl (nF ke)))] ++ [(az, .inl (cI, 8, .inl (nF zz)))] ++ [(ae, .inl (cI, 800, .inl el))]))) (va_Ql (fun r (_ : Unit) => r = (el (100 * y1 + i9)).toInt64) (fun (_ : Unit) T9 => va_P (dC, dI) vwCl ([(y, .inr (12, [.ref as, .ref ai, .ref ar, .ref am, .ref ak, .ref ao, .ref az, .ref ae, .ref aq, .ref af, .int (bI hi), .int (nI 0), .int (nI po), .int (nI ba), .int (nI en), .ref an, .ref aw, .ref ax, .ref ap, .int se]))] ++ [(ak, .inl (cI, 8, .inl (nF ke)))] ++ [(az, .inl (cI, 8, .inl (nF zz)))] ++ [(ae, .inl (cI, 800, .inl el))]) T9.heap ∧ va_D (va_A ([(y, .inr (12, [.ref as, .ref ai, .ref ar, .ref am, .ref ak, .ref ao, .ref az, .ref ae, .ref aq, .ref af, .int (bI hi), .int th, .int (nI po), .int (nI ba), .int (nI en), .ref an, .ref aw, .ref ax, .ref ap, .int se]))] ++ [(ak, .inl (cI, 8, .inl (nF ke)))] ++ [(az, .inl (cI, 8, .inl (nF zz)))] ++ [(ae, .inl (cI, 800, .inl el))]) sz) ([(y, .inr (12, [.ref as, .ref ai, .ref ar, .ref am, .ref ak, .ref ao, .ref az, .ref ae, .ref aq, .ref af, .int (bI hi), .int (nI 0), .int (nI po), .int (nI ba), .int (nI en), .ref an, .ref aw, .ref ax, .ref ap, .int se]))] ++ [(ak, .inl (cI, 8, .inl (nF ke)))] ++ [(az, .inl (cI, 8, .inl (nF zz)))] ++ [(ae, .inl (cI, 800, .inl el))])) (va_A ([(y, .inr (12, [.ref as, .ref ai, .ref ar, .ref am, .ref ak, .ref ao, .ref az, .ref ae, .ref aq, .ref af, .int (bI hi), .int th, .int (nI po), .int (nI ba), .int (nI en), .ref an, .ref aw, .ref ax, .ref ap, .int se]))] ++ [(ak, .inl (cI, 8, .inl (nF ke)))] ++ [(az, .inl (cI, 8, .inl (nF zz)))] ++ [(ae, .inl (cI, 800, .inl el))]) sz)) 0 0 (va_A ([(y, .inr (12, [.ref as, .ref ai, .ref ar, .ref am, .ref ak, .ref ao, .ref az, .ref ae, .ref aq, .ref af, .int (bI hi), .int th, .int (nI po), .int (nI ba), .int (nI en), .ref an, .ref aw, .ref ax, .ref ap, .int se]))] ++ [(ak, .inl (cI, 8, .inl (nF ke)))] ++ [(az, .inl (cI, 8, .inl (nF zz)))] ++ [(ae, .inl (cI, 800, .inl el))]) sz) := by
  refine Met.ofW (cc := cX12_element) (maxL := 3) (ret := (some .long)) (by decide) rfl ?_
  intro p e s m args below meth c s₁ B hml hv
  obtain ⟨rfl, hH0, hCX⟩ := hv
  have hx := B.exec
  have hb := B.bytes
  have hr := B.returns
  have hts := atoms_spec (ws := wsX12_element) B.pre
  have hown : s.vm.findClass RX12 = some m.cls := findClass_of_methodNamed B.named
  have hlocks := B.notSynchronized
  have hK := hCX.1
  obtain ⟨hsz, hP, hD0⟩ := hH0
  subst hsz
  have hD := hD0.self (sz := s.heap.size)
  generalize hAe : va_A ([(y, .inr (12, [.ref as, .ref ai, .ref ar, .ref am, .ref ak, .ref ao, .ref az, .ref ae, .ref aq, .ref af, .int (bI hi), .int th, .int (nI po), .int (nI ba), .int (nI en), .ref an, .ref aw, .ref ax, .ref ap, .int se]))] ++ [(ak, .inl (cI, 8, .inl (nF ke)))] ++ [(az, .inl (cI, 8, .inl (nF zz)))] ++ [(ae, .inl (cI, 800, .inl el))]) s.heap.size = A at hD ⊢
  have hA : ∀ q : Nat, s.heap.size ≤ q → A q := fun q h => by rw [← hAe]; exact Or.inr h
  have hS : va_S A s.heap s.heap [] := va_S.rf
  have hP : va_P (dC, dI) vwCl ([(y, .inr (12, [.ref as, .ref ai, .ref ar, .ref am, .ref ak, .ref ao, .ref az, .ref ae, .ref aq, .ref af, .int (bI hi), .int th, .int (nI po), .int (nI ba), .int (nI en), .ref an, .ref aw, .ref ax, .ref ap, .int se]))] ++ [(ak, .inl (cI, 8, .inl (nF ke)))] ++ [(az, .inl (cI, 8, .inl (nF zz)))] ++ [(ae, .inl (cI, 800, .inl el))]) s.heap := hP
  have hzq := gzz y1
  have hl := lv_entry ([.ref y, .int (nI y1), .int (nI i9)]) (n := 3) (Nat.le_of_ble_eq_true rfl)
  rw [lg_entry_eq]
  generalize (lg_sl ([.ref y, .int (nI y1), .int (nI i9)]) ++ List.replicate (3 - (lg_sl ([.ref y, .int (nI y1), .int (nI i9)])).length) Slot.unset).toArray = ls at hl ⊢
  have hl : lv_has ls 3 [(0, .ref y), (1, .int (nI y1)), (2, .int (nI i9))] := hl
  refine lv_aload_n hx hb dX12_element_0 rfl (lv_at hl 0 rfl) ?_
  refine lv_iload_n hx hb dX12_element_1 rfl (lv_at hl 1 rfl) ?_
  refine vp_callSi ((va_runS (As := [.int (nI y1)]) (rest := [.ref y]) ⟨hx, hb, hml, hown, hts⟩ (c_X12_isShelf_t l dC dI cI cD cR y1 (by first | omega | assumption | exact gnd _ | exact gkn _ | exact Nat.lt_trans (gkn _) (by decide) | exact Nat.lt_trans (gnd _) (by decide) | exact Nat.lt_of_le_of_lt (pcN_le _) (by decide))) (va_cwS 1 hts gX12_element_X12_isShelf rfl rfl rfl (by decide +kernel) ⟨Nat.le_of_ble_eq_true rfl, Nat.le_of_ble_eq_true rfl⟩) (preS_R hCX (trivial)) rfl rfl hl.1 rfl (lv_room (Nat.le_of_ble_eq_true rfl)) dX12_element_2 ⟨Nat.le_of_ble_eq_true (by first | rfl | decide), Nat.le_of_ble_eq_true (by first | rfl | decide)⟩).run) (fun r_2 hr_2 => ?_)
  subst hr_2
  refine lv_if_ne (tgt := 12) hx hb dX12_element_5 (by decide) (fun _ => ?_) (fun z => absurd z (by decide +kernel))
  refine lv_aload_n hx hb dX12_element_12 rfl (lv_at hl 0 rfl) ?_
  refine va_get (D := (dC, dI)) (ci := 12) (v := .ref ak) (C := RX12) (T := TX12) (N := 20) hx hb hts (fun _ h => List.mem_cons_of_mem _ (List.mem_append_right _ h)) hown hK hP 0 rfl rfl 4 (by decide) (hts (.fieldLink RX12 22 "HoldsOnceDeniedModel" "kept" "[I") (by decide +kernel)) (fun _ h9 => h9) rfl dX12_element_13 ?_
  refine lv_iload_n hx hb dX12_element_16 rfl (lv_at hl 1 rfl) ?_
  refine ho_iald (v := nI (ke y1)) hx hb hK hP 1 0 rfl rfl (by omega) (by first | decide | omega) rfl dX12_element_17 ?_
  refine lv_iconst (v := nI 2) hx hb dX12_element_18 (by decide +kernel) ?_
  refine ho_icmp_ne (tgt := 40) hx hb dX12_element_19 (by decide) (by omega) (by omega) (fun c_19 => ?_) (fun c_19 => ?_)
  · exfalso; omega
  refine lv_iload_n hx hb dX12_element_22 rfl (lv_at hl 2 rfl) ?_
  refine lv_i2l (v := lN i9) hx hb dX12_element_23 (nI_l (by omega)) ?_
  refine lv_lconst (v := lN 0) hx hb dX12_element_24 (by decide +kernel) ?_
  refine lv_aload_n hx hb dX12_element_25 rfl (lv_at hl 0 rfl) ?_
  refine va_get (D := (dC, dI)) (ci := 12) (v := .ref az) (C := RX12) (T := TX12) (N := 20) hx hb hts (fun _ h => List.mem_cons_of_mem _ (List.mem_append_right _ h)) hown hK hP 0 rfl rfl 6 (by decide) (hts (.fieldLink RX12 28 "HoldsOnceDeniedModel" "size" "[I") (by decide +kernel)) (fun _ h9 => h9) rfl dX12_element_26 ?_
  refine lv_iload_n hx hb dX12_element_29 rfl (lv_at hl 1 rfl) ?_
  refine ho_iald (v := nI (zz y1)) hx hb hK hP 2 0 rfl rfl (by omega) (by first | decide | omega) rfl dX12_element_30 ?_
  refine lv_iconst (v := nI 1) hx hb dX12_element_31 (by decide +kernel) ?_
  refine lv_isub hx hb dX12_element_32 ?_
  refine lv_i2l (v := ((nI (zz y1) - nI 1)).toInt64) hx hb dX12_element_33 rfl ?_
  refine vp_callSi ((va_runS (As := [.long (lN i9), .long (lN 0), .long (((nI (zz y1) - nI 1)).toInt64)]) (rest := [.ref y]) ⟨hx, hb, hml, hown, hts⟩ (c_X12_isIn l dC dI cI cD cR (lN i9) (lN 0) (((nI (zz y1) - nI 1)).toInt64)) (va_cwS 3 hts gX12_element_X12_isIn rfl rfl rfl (by decide +kernel) ⟨Nat.le_of_ble_eq_true rfl, Nat.le_of_ble_eq_true rfl⟩) (preS_R hCX (trivial)) rfl rfl hl.1 rfl (lv_room (Nat.le_of_ble_eq_true rfl)) dX12_element_34 ⟨Nat.le_of_ble_eq_true (by first | rfl | decide), Nat.le_of_ble_eq_true (by first | rfl | decide)⟩).run) (fun r_34 hr_34 => ?_)
  subst hr_34
  refine ho_bne (tgt := 44) hx hb dX12_element_37 (by decide) (fun c_37 => ?_) (fun c_37 => ?_)
  · refine lv_iconst (v := nI 0) hx hb dX12_element_44 (by decide +kernel) ?_
    refine va_put (D := (dC, dI)) (ci := 12) (v := .int (nI 0)) (ty := .int) (C := RX12) (T := TX12) (N := 20) hx hb hts (fun _ h => List.mem_cons_of_mem _ (List.mem_append_right _ h)) tyX12 tyX12_ok nmX12 hown hK hP hD hS 0 rfl rfl 11 (by decide) (hts (.fieldLink RX12 52 "HoldsOnceDeniedModel" "thrown" "I") (by decide +kernel)) (fun _ h9 => h9) rfl (by decide +kernel) rfl rfl (Nat.le_of_ble_eq_true rfl) dX12_element_45 (fun H locs hP hD hS => ?_)
    have hP : va_P (dC, dI) vwCl ([(y, .inr (12, [.ref as, .ref ai, .ref ar, .ref am, .ref ak, .ref ao, .ref az, .ref ae, .ref aq, .ref af, .int (bI hi), .int (nI 0), .int (nI po), .int (nI ba), .int (nI en), .ref an, .ref aw, .ref ax, .ref ap, .int se]))] ++ [(ak, .inl (cI, 8, .inl (nF ke)))] ++ [(az, .inl (cI, 8, .inl (nF zz)))] ++ [(ae, .inl (cI, 800, .inl el))]) H := hP
    have hD : va_D A ([(y, .inr (12, [.ref as, .ref ai, .ref ar, .ref am, .ref ak, .ref ao, .ref az, .ref ae, .ref aq, .ref af, .int (bI hi), .int (nI 0), .int (nI po), .int (nI ba), .int (nI en), .ref an, .ref aw, .ref ax, .ref ap, .int se]))] ++ [(ak, .inl (cI, 8, .inl (nF ke)))] ++ [(az, .inl (cI, 8, .inl (nF zz)))] ++ [(ae, .inl (cI, 800, .inl el))]) := hD
    refine lv_aload_n hx hb dX12_element_48 rfl (lv_at hl 0 rfl) ?_
    refine va_get (D := (dC, dI)) (ci := 12) (v := .int (nI 0)) (C := RX12) (T := TX12) (N := 20) hx hb hts (fun _ h => List.mem_cons_of_mem _ (List.mem_append_right _ h)) hown hK hP 0 rfl rfl 11 (by decide) (hts (.fieldLink RX12 52 "HoldsOnceDeniedModel" "thrown" "I") (by decide +kernel)) (fun _ h9 => h9) rfl dX12_element_49 ?_
    refine lv_if_ne (tgt := 70) hx hb dX12_element_52 (by decide) (fun z => absurd z (by decide +kernel)) (fun _ => ?_)
    refine lv_aload_n hx hb dX12_element_55 rfl (lv_at hl 0 rfl) ?_
    refine va_get (D := (dC, dI)) (ci := 12) (v := .ref ae) (C := RX12) (T := TX12) (N := 20) hx hb hts (fun _ h => List.mem_cons_of_mem _ (List.mem_append_right _ h)) hown hK hP 0 rfl rfl 7 (by decide) (hts (.fieldLink RX12 31 "HoldsOnceDeniedModel" "element" "[I") (by decide +kernel)) (fun _ h9 => h9) rfl dX12_element_56 ?_
    refine lv_bipush (v := nI 100) hx hb dX12_element_59 (by decide +kernel) ?_
    refine lv_iload_n hx hb dX12_element_61 rfl (lv_at hl 1 rfl) ?_
    refine ho_imul hx hb dX12_element_62 ?_
    refine lv_iload_n hx hb dX12_element_63 rfl (lv_at hl 2 rfl) ?_
    refine ho_iadd hx hb dX12_element_64 ?_
    refine ho_iald (v := (el ((100 * y1) + i9))) hx hb hK hP 3 0 rfl rfl (by omega) (by first | decide | omega) rfl dX12_element_65 ?_
    refine lv_i2l (v := ((el ((100 * y1) + i9))).toInt64) hx hb dX12_element_66 rfl ?_
    refine lv_goto (tgt := 71) hx hb dX12_element_67 (by decide) ?_
    exact W.lret hx hb hr (fun T9 hT9 hW9 => ⟨⟨_, (), rfl, (by rfl), by rw [hT9]; exact hP, hD⟩, hS.F hT9⟩) hS.2.2 dX12_element_71
  rw [inB_mt hi9 (by omega)] at c_37; cases c_37
set_option maxHeartbeats 4000000 in
set_option maxRecDepth 100000 in
theorem c_X12_element_f (l : Launch) (dC : Nat → ClassId) (dI : Nat → Nat → Nat) (cI cD cR : ClassId) (y as ai ar am ak ao az ae aq af : Nat) (hi : Bool) (th : Int32) (po ba en an aw ax ap : Nat) (se : Int32) (ke : Nat → Nat) (zz : Nat → Nat) (x9 i9 : Int32) (sz : Nat) (gzz : ∀ j, zz j ≤ 100) (gke2 : ∀ j, ke j ≤ 2) (hno : ∀ y, x9 = nI y → y < 8 → ke y = 2 → okI i9 (zz y) = false) : Met l yX12_element wsX12_element ({ frames := 2, cells := 0, slots := 0, locals := 45 }) (pcR dC dI cI cD cR [.ref y, .int x9, .int i9] (fun H => H.size = sz ∧ va_P (dC, dI) vwCl ([(y, .inr (12, [.ref as, .ref ai, .ref ar, .ref am, .ref ak, .ref ao, .ref az, .ref ae, .ref aq, .ref af, .int (bI hi), .int th, .int (nI po), .int (nI ba), .int (nI en), .ref an, .ref aw, .ref ax, .ref ap, .int se]))] ++ [(ak, .inl (cI, 8, .inl (nF ke)))] ++ [(az, .inl (cI, 8, .inl (nF zz)))]) H ∧ va_D (fun _ => True) ([(y, .inr (12, [.ref as, .ref ai, .ref ar, .ref am, .ref ak, .ref ao, .ref az, .ref ae, .ref aq, .ref af, .int (bI hi), .int th, .int (nI po), .int (nI ba), .int (nI en), .ref an, .ref aw, .ref ax, .ref ap, .int se]))] ++ [(ak, .inl (cI, 8, .inl (nF ke)))] ++ [(az, .inl (cI, 8, .inl (nF zz)))]))) (va_Ql (fun r (_ : Unit) => r = lN 0) (fun (_ : Unit) T9 => va_P (dC, dI) vwCl ([(y, .inr (12, [.ref as, .ref ai, .ref ar, .ref am, .ref ak, .ref ao, .ref az, .ref ae, .ref aq, .ref af, .int (bI hi), .int (on1 (oN x9 8) (fun _ => nI 2) (nI 1)), .int (nI po), .int (nI ba), .int (nI en), .ref an, .ref aw, .ref ax, .ref ap, .int se]))] ++ [(ak, .inl (cI, 8, .inl (nF ke)))] ++ [(az, .inl (cI, 8, .inl (nF zz)))]) T9.heap ∧ va_D (va_A ([(y, .inr (12, [.ref as, .ref ai, .ref ar, .ref am, .ref ak, .ref ao, .ref az, .ref ae, .ref aq, .ref af, .int (bI hi), .int th, .int (nI po), .int (nI ba), .int (nI en), .ref an, .ref aw, .ref ax, .ref ap, .int se]))] ++ [(ak, .inl (cI, 8, .inl (nF ke)))] ++ [(az, .inl (cI, 8, .inl (nF zz)))]) sz) ([(y, .inr (12, [.ref as, .ref ai, .ref ar, .ref am, .ref ak, .ref ao, .ref az, .ref ae, .ref aq, .ref af, .int (bI hi), .int (on1 (oN x9 8) (fun _ => nI 2) (nI 1)), .int (nI po), .int (nI ba), .int (nI en), .ref an, .ref aw, .ref ax, .ref ap, .int se]))] ++ [(ak, .inl (cI, 8, .inl (nF ke)))] ++ [(az, .inl (cI, 8, .inl (nF zz)))])) (va_A ([(y, .inr (12, [.ref as, .ref ai, .ref ar, .ref am, .ref ak, .ref ao, .ref az, .ref ae, .ref aq, .ref af, .int (bI hi), .int th, .int (nI po), .int (nI ba), .int (nI en), .ref an, .ref aw, .ref ax, .ref ap, .int se]))] ++ [(ak, .inl (cI, 8, .inl (nF ke)))] ++ [(az, .inl (cI, 8, .inl (nF zz)))]) sz)) 0 0 (va_A ([(y, .inr (12, [.ref as, .ref ai, .ref ar, .ref am, .ref ak, .ref ao, .ref az, .ref ae, .ref aq, .ref af, .int (bI hi), .int th, .int (nI po), .int (nI ba), .int (nI en), .ref an, .ref aw, .ref ax, .ref ap, .int se]))] ++ [(ak, .inl (cI, 8, .inl (nF ke)))] ++ [(az, .inl (cI, 8, .inl (nF zz)))]) sz) := by
  refine Met.ofW (cc := cX12_element) (maxL := 3) (ret := (some .long)) (by decide) rfl ?_
  intro p e s m args below meth c s₁ B hml hv
  obtain ⟨rfl, hH0, hCX⟩ := hv
  have hx := B.exec
  have hb := B.bytes
  have hr := B.returns
  have hts := atoms_spec (ws := wsX12_element) B.pre
  have hown : s.vm.findClass RX12 = some m.cls := findClass_of_methodNamed B.named
  have hlocks := B.notSynchronized
  have hK := hCX.1
  obtain ⟨hsz, hP, hD0⟩ := hH0
  subst hsz
  have hD := hD0.self (sz := s.heap.size)
  generalize hAe : va_A ([(y, .inr (12, [.ref as, .ref ai, .ref ar, .ref am, .ref ak, .ref ao, .ref az, .ref ae, .ref aq, .ref af, .int (bI hi), .int th, .int (nI po), .int (nI ba), .int (nI en), .ref an, .ref aw, .ref ax, .ref ap, .int se]))] ++ [(ak, .inl (cI, 8, .inl (nF ke)))] ++ [(az, .inl (cI, 8, .inl (nF zz)))]) s.heap.size = A at hD ⊢
  have hA : ∀ q : Nat, s.heap.size ≤ q → A q := fun q h => by rw [← hAe]; exact Or.inr h
  have hS : va_S A s.heap s.heap [] := va_S.rf
  have hP : va_P (dC, dI) vwCl ([(y, .inr (12, [.ref as, .ref ai, .ref ar, .ref am, .ref ak, .ref ao, .ref az, .ref ae, .ref aq, .ref af, .int (bI hi), .int th, .int (nI po), .int (nI ba), .int (nI en), .ref an, .ref aw, .ref ax, .ref ap, .int se]))] ++ [(ak, .inl (cI, 8, .inl (nF ke)))] ++ [(az, .inl (cI, 8, .inl (nF zz)))]) s.heap := hP
  have hl := lv_entry ([.ref y, .int x9, .int i9]) (n := 3) (Nat.le_of_ble_eq_true rfl)
  rw [lg_entry_eq]
  generalize (lg_sl ([.ref y, .int x9, .int i9]) ++ List.replicate (3 - (lg_sl ([.ref y, .int x9, .int i9])).length) Slot.unset).toArray = ls at hl ⊢
  have hl : lv_has ls 3 [(0, .ref y), (1, .int x9), (2, .int i9)] := hl
  rcases okI_or x9 (n := 8) (by omega) with hb_x9 | ⟨y1, h_y1, rfl⟩
  · refine lv_aload_n hx hb dX12_element_0 rfl (lv_at hl 0 rfl) ?_
    refine lv_iload_n hx hb dX12_element_1 rfl (lv_at hl 1 rfl) ?_
    refine vp_callSi ((va_runS (As := [.int x9]) (rest := [.ref y]) ⟨hx, hb, hml, hown, hts⟩ (c_X12_isShelf_f l dC dI cI cD cR x9 (by first | omega | assumption | exact gnd _ | exact gkn _ | exact Nat.lt_trans (gkn _) (by decide) | exact Nat.lt_trans (gnd _) (by decide) | exact Nat.lt_of_le_of_lt (pcN_le _) (by decide))) (va_cwS 1 hts gX12_element_X12_isShelf rfl rfl rfl (by decide +kernel) ⟨Nat.le_of_ble_eq_true rfl, Nat.le_of_ble_eq_true rfl⟩) (preS_R hCX (trivial)) rfl rfl hl.1 rfl (lv_room (Nat.le_of_ble_eq_true rfl)) dX12_element_2 ⟨Nat.le_of_ble_eq_true (by first | rfl | decide), Nat.le_of_ble_eq_true (by first | rfl | decide)⟩).run) (fun r_2 hr_2 => ?_)
    subst hr_2
    refine lv_if_ne (tgt := 12) hx hb dX12_element_5 (by decide) (fun z => absurd z (by decide +kernel)) (fun _ => ?_)
    refine lv_iconst (v := nI 1) hx hb dX12_element_8 (by decide +kernel) ?_
    refine lv_goto (tgt := 45) hx hb dX12_element_9 (by decide) ?_
    refine va_put (D := (dC, dI)) (ci := 12) (v := .int (nI 1)) (ty := .int) (C := RX12) (T := TX12) (N := 20) hx hb hts (fun _ h => List.mem_cons_of_mem _ (List.mem_append_right _ h)) tyX12 tyX12_ok nmX12 hown hK hP hD hS 0 rfl rfl 11 (by decide) (hts (.fieldLink RX12 52 "HoldsOnceDeniedModel" "thrown" "I") (by decide +kernel)) (fun _ h9 => h9) rfl (by decide +kernel) rfl rfl (Nat.le_of_ble_eq_true rfl) dX12_element_45 (fun H locs hP hD hS => ?_)
    have hP : va_P (dC, dI) vwCl ([(y, .inr (12, [.ref as, .ref ai, .ref ar, .ref am, .ref ak, .ref ao, .ref az, .ref ae, .ref aq, .ref af, .int (bI hi), .int (nI 1), .int (nI po), .int (nI ba), .int (nI en), .ref an, .ref aw, .ref ax, .ref ap, .int se]))] ++ [(ak, .inl (cI, 8, .inl (nF ke)))] ++ [(az, .inl (cI, 8, .inl (nF zz)))]) H := hP
    have hD : va_D A ([(y, .inr (12, [.ref as, .ref ai, .ref ar, .ref am, .ref ak, .ref ao, .ref az, .ref ae, .ref aq, .ref af, .int (bI hi), .int (nI 1), .int (nI po), .int (nI ba), .int (nI en), .ref an, .ref aw, .ref ax, .ref ap, .int se]))] ++ [(ak, .inl (cI, 8, .inl (nF ke)))] ++ [(az, .inl (cI, 8, .inl (nF zz)))]) := hD
    refine lv_aload_n hx hb dX12_element_48 rfl (lv_at hl 0 rfl) ?_
    refine va_get (D := (dC, dI)) (ci := 12) (v := .int (nI 1)) (C := RX12) (T := TX12) (N := 20) hx hb hts (fun _ h => List.mem_cons_of_mem _ (List.mem_append_right _ h)) hown hK hP 0 rfl rfl 11 (by decide) (hts (.fieldLink RX12 52 "HoldsOnceDeniedModel" "thrown" "I") (by decide +kernel)) (fun _ h9 => h9) rfl dX12_element_49 ?_
    refine lv_if_ne (tgt := 70) hx hb dX12_element_52 (by decide) (fun _ => ?_) (fun z => absurd z (by decide +kernel))
    refine lv_lconst (v := lN 0) hx hb dX12_element_70 (by decide +kernel) ?_
    have hW9 : ([(y, .inr (12, [.ref as, .ref ai, .ref ar, .ref am, .ref ak, .ref ao, .ref az, .ref ae, .ref aq, .ref af, .int (bI hi), .int (nI 1), .int (nI po), .int (nI ba), .int (nI en), .ref an, .ref aw, .ref ax, .ref ap, .int se]))] ++ [(ak, .inl (cI, 8, .inl (nF ke)))] ++ [(az, .inl (cI, 8, .inl (nF zz)))] : va_W) = [(y, .inr (12, [.ref as, .ref ai, .ref ar, .ref am, .ref ak, .ref ao, .ref az, .ref ae, .ref aq, .ref af, .int (bI hi), .int (on1 (oN x9 8) (fun _ => nI 2) (nI 1)), .int (nI po), .int (nI ba), .int (nI en), .ref an, .ref aw, .ref ax, .ref ap, .int se]))] ++ [(ak, .inl (cI, 8, .inl (nF ke)))] ++ [(az, .inl (cI, 8, .inl (nF zz)))] := by simp only [on2_n, on2_sn, on2_ss, on1_n, on1_s, cond_true, cond_false, Bool.true_and, Bool.and_true, Bool.false_and, Bool.and_false, oN_f hb_x9]
    rw [hW9] at hP hD
    exact W.lret hx hb hr (fun T9 hT9 hW9 => ⟨⟨_, (), rfl, rfl, by rw [hT9]; exact hP, hD⟩, hS.F hT9⟩) hS.2.2 dX12_element_71
  refine lv_aload_n hx hb dX12_element_0 rfl (lv_at hl 0 rfl) ?_
  refine lv_iload_n hx hb dX12_element_1 rfl (lv_at hl 1 rfl) ?_
  refine vp_callSi ((va_runS (As := [.int (nI y1)]) (rest := [.ref y]) ⟨hx, hb, hml, hown, hts⟩ (c_X12_isShelf_t l dC dI cI cD cR y1 (by first | omega | assumption | exact gnd _ | exact gkn _ | exact Nat.lt_trans (gkn _) (by decide) | exact Nat.lt_trans (gnd _) (by decide) | exact Nat.lt_of_le_of_lt (pcN_le _) (by decide))) (va_cwS 1 hts gX12_element_X12_isShelf rfl rfl rfl (by decide +kernel) ⟨Nat.le_of_ble_eq_true rfl, Nat.le_of_ble_eq_true rfl⟩) (preS_R hCX (trivial)) rfl rfl hl.1 rfl (lv_room (Nat.le_of_ble_eq_true rfl)) dX12_element_2 ⟨Nat.le_of_ble_eq_true (by first | rfl | decide), Nat.le_of_ble_eq_true (by first | rfl | decide)⟩).run) (fun r_2 hr_2 => ?_)
  subst hr_2
  refine lv_if_ne (tgt := 12) hx hb dX12_element_5 (by decide) (fun _ => ?_) (fun z => absurd z (by decide +kernel))
  refine lv_aload_n hx hb dX12_element_12 rfl (lv_at hl 0 rfl) ?_
  refine va_get (D := (dC, dI)) (ci := 12) (v := .ref ak) (C := RX12) (T := TX12) (N := 20) hx hb hts (fun _ h => List.mem_cons_of_mem _ (List.mem_append_right _ h)) hown hK hP 0 rfl rfl 4 (by decide) (hts (.fieldLink RX12 22 "HoldsOnceDeniedModel" "kept" "[I") (by decide +kernel)) (fun _ h9 => h9) rfl dX12_element_13 ?_
  refine lv_iload_n hx hb dX12_element_16 rfl (lv_at hl 1 rfl) ?_
  refine ho_iald (v := nI (ke y1)) hx hb hK hP 1 0 rfl rfl (by omega) (by first | decide | omega) rfl dX12_element_17 ?_
  refine lv_iconst (v := nI 2) hx hb dX12_element_18 (by decide +kernel) ?_
  refine ho_icmp_ne (tgt := 40) hx hb dX12_element_19 (by decide) (by have := gke2 y1; omega) (by omega) (fun c_19 => ?_) (fun c_19 => ?_)
  · refine lv_iconst (v := nI 2) hx hb dX12_element_40 (by decide +kernel) ?_
    refine lv_goto (tgt := 45) hx hb dX12_element_41 (by decide) ?_
    refine va_put (D := (dC, dI)) (ci := 12) (v := .int (nI 2)) (ty := .int) (C := RX12) (T := TX12) (N := 20) hx hb hts (fun _ h => List.mem_cons_of_mem _ (List.mem_append_right _ h)) tyX12 tyX12_ok nmX12 hown hK hP hD hS 0 rfl rfl 11 (by decide) (hts (.fieldLink RX12 52 "HoldsOnceDeniedModel" "thrown" "I") (by decide +kernel)) (fun _ h9 => h9) rfl (by decide +kernel) rfl rfl (Nat.le_of_ble_eq_true rfl) dX12_element_45 (fun H locs hP hD hS => ?_)
    have hP : va_P (dC, dI) vwCl ([(y, .inr (12, [.ref as, .ref ai, .ref ar, .ref am, .ref ak, .ref ao, .ref az, .ref ae, .ref aq, .ref af, .int (bI hi), .int (nI 2), .int (nI po), .int (nI ba), .int (nI en), .ref an, .ref aw, .ref ax, .ref ap, .int se]))] ++ [(ak, .inl (cI, 8, .inl (nF ke)))] ++ [(az, .inl (cI, 8, .inl (nF zz)))]) H := hP
    have hD : va_D A ([(y, .inr (12, [.ref as, .ref ai, .ref ar, .ref am, .ref ak, .ref ao, .ref az, .ref ae, .ref aq, .ref af, .int (bI hi), .int (nI 2), .int (nI po), .int (nI ba), .int (nI en), .ref an, .ref aw, .ref ax, .ref ap, .int se]))] ++ [(ak, .inl (cI, 8, .inl (nF ke)))] ++ [(az, .inl (cI, 8, .inl (nF zz)))]) := hD
    refine lv_aload_n hx hb dX12_element_48 rfl (lv_at hl 0 rfl) ?_
    refine va_get (D := (dC, dI)) (ci := 12) (v := .int (nI 2)) (C := RX12) (T := TX12) (N := 20) hx hb hts (fun _ h => List.mem_cons_of_mem _ (List.mem_append_right _ h)) hown hK hP 0 rfl rfl 11 (by decide) (hts (.fieldLink RX12 52 "HoldsOnceDeniedModel" "thrown" "I") (by decide +kernel)) (fun _ h9 => h9) rfl dX12_element_49 ?_
    refine lv_if_ne (tgt := 70) hx hb dX12_element_52 (by decide) (fun _ => ?_) (fun z => absurd z (by decide +kernel))
    refine lv_lconst (v := lN 0) hx hb dX12_element_70 (by decide +kernel) ?_
    have hW9 : ([(y, .inr (12, [.ref as, .ref ai, .ref ar, .ref am, .ref ak, .ref ao, .ref az, .ref ae, .ref aq, .ref af, .int (bI hi), .int (nI 2), .int (nI po), .int (nI ba), .int (nI en), .ref an, .ref aw, .ref ax, .ref ap, .int se]))] ++ [(ak, .inl (cI, 8, .inl (nF ke)))] ++ [(az, .inl (cI, 8, .inl (nF zz)))] : va_W) = [(y, .inr (12, [.ref as, .ref ai, .ref ar, .ref am, .ref ak, .ref ao, .ref az, .ref ae, .ref aq, .ref af, .int (bI hi), .int (on1 (oN (nI y1) 8) (fun _ => nI 2) (nI 1)), .int (nI po), .int (nI ba), .int (nI en), .ref an, .ref aw, .ref ax, .ref ap, .int se]))] ++ [(ak, .inl (cI, 8, .inl (nF ke)))] ++ [(az, .inl (cI, 8, .inl (nF zz)))] := by simp only [on2_n, on2_sn, on2_ss, on1_n, on1_s, cond_true, cond_false, Bool.true_and, Bool.and_true, Bool.false_and, Bool.and_false, oN_t h_y1, c_19]
    rw [hW9] at hP hD
    exact W.lret hx hb hr (fun T9 hT9 hW9 => ⟨⟨_, (), rfl, rfl, by rw [hT9]; exact hP, hD⟩, hS.F hT9⟩) hS.2.2 dX12_element_71
  have hno2 := hno y1 rfl h_y1 (by omega)
  have hzq := gzz y1
  refine lv_iload_n hx hb dX12_element_22 rfl (lv_at hl 2 rfl) ?_
  refine lv_i2l (v := (i9).toInt64) hx hb dX12_element_23 rfl ?_
  refine lv_lconst (v := lN 0) hx hb dX12_element_24 (by decide +kernel) ?_
  refine lv_aload_n hx hb dX12_element_25 rfl (lv_at hl 0 rfl) ?_
  refine va_get (D := (dC, dI)) (ci := 12) (v := .ref az) (C := RX12) (T := TX12) (N := 20) hx hb hts (fun _ h => List.mem_cons_of_mem _ (List.mem_append_right _ h)) hown hK hP 0 rfl rfl 6 (by decide) (hts (.fieldLink RX12 28 "HoldsOnceDeniedModel" "size" "[I") (by decide +kernel)) (fun _ h9 => h9) rfl dX12_element_26 ?_
  refine lv_iload_n hx hb dX12_element_29 rfl (lv_at hl 1 rfl) ?_
  refine ho_iald (v := nI (zz y1)) hx hb hK hP 2 0 rfl rfl (by omega) (by first | decide | omega) rfl dX12_element_30 ?_
  refine lv_iconst (v := nI 1) hx hb dX12_element_31 (by decide +kernel) ?_
  refine lv_isub hx hb dX12_element_32 ?_
  refine lv_i2l (v := ((nI (zz y1) - nI 1)).toInt64) hx hb dX12_element_33 rfl ?_
  refine vp_callSi ((va_runS (As := [.long ((i9).toInt64), .long (lN 0), .long (((nI (zz y1) - nI 1)).toInt64)]) (rest := [.ref y]) ⟨hx, hb, hml, hown, hts⟩ (c_X12_isIn l dC dI cI cD cR ((i9).toInt64) (lN 0) (((nI (zz y1) - nI 1)).toInt64)) (va_cwS 3 hts gX12_element_X12_isIn rfl rfl rfl (by decide +kernel) ⟨Nat.le_of_ble_eq_true rfl, Nat.le_of_ble_eq_true rfl⟩) (preS_R hCX (trivial)) rfl rfl hl.1 rfl (lv_room (Nat.le_of_ble_eq_true rfl)) dX12_element_34 ⟨Nat.le_of_ble_eq_true (by first | rfl | decide), Nat.le_of_ble_eq_true (by first | rfl | decide)⟩).run) (fun r_34 hr_34 => ?_)
  subst hr_34
  refine ho_bne (tgt := 44) hx hb dX12_element_37 (by decide) (fun c_37 => ?_) (fun c_37 => ?_)
  · rw [inB_m i9 (by omega), hno2] at c_37; cases c_37
  refine lv_iconst (v := nI 2) hx hb dX12_element_40 (by decide +kernel) ?_
  refine lv_goto (tgt := 45) hx hb dX12_element_41 (by decide) ?_
  refine va_put (D := (dC, dI)) (ci := 12) (v := .int (nI 2)) (ty := .int) (C := RX12) (T := TX12) (N := 20) hx hb hts (fun _ h => List.mem_cons_of_mem _ (List.mem_append_right _ h)) tyX12 tyX12_ok nmX12 hown hK hP hD hS 0 rfl rfl 11 (by decide) (hts (.fieldLink RX12 52 "HoldsOnceDeniedModel" "thrown" "I") (by decide +kernel)) (fun _ h9 => h9) rfl (by decide +kernel) rfl rfl (Nat.le_of_ble_eq_true rfl) dX12_element_45 (fun H locs hP hD hS => ?_)
  have hP : va_P (dC, dI) vwCl ([(y, .inr (12, [.ref as, .ref ai, .ref ar, .ref am, .ref ak, .ref ao, .ref az, .ref ae, .ref aq, .ref af, .int (bI hi), .int (nI 2), .int (nI po), .int (nI ba), .int (nI en), .ref an, .ref aw, .ref ax, .ref ap, .int se]))] ++ [(ak, .inl (cI, 8, .inl (nF ke)))] ++ [(az, .inl (cI, 8, .inl (nF zz)))]) H := hP
  have hD : va_D A ([(y, .inr (12, [.ref as, .ref ai, .ref ar, .ref am, .ref ak, .ref ao, .ref az, .ref ae, .ref aq, .ref af, .int (bI hi), .int (nI 2), .int (nI po), .int (nI ba), .int (nI en), .ref an, .ref aw, .ref ax, .ref ap, .int se]))] ++ [(ak, .inl (cI, 8, .inl (nF ke)))] ++ [(az, .inl (cI, 8, .inl (nF zz)))]) := hD
  refine lv_aload_n hx hb dX12_element_48 rfl (lv_at hl 0 rfl) ?_
  refine va_get (D := (dC, dI)) (ci := 12) (v := .int (nI 2)) (C := RX12) (T := TX12) (N := 20) hx hb hts (fun _ h => List.mem_cons_of_mem _ (List.mem_append_right _ h)) hown hK hP 0 rfl rfl 11 (by decide) (hts (.fieldLink RX12 52 "HoldsOnceDeniedModel" "thrown" "I") (by decide +kernel)) (fun _ h9 => h9) rfl dX12_element_49 ?_
  refine lv_if_ne (tgt := 70) hx hb dX12_element_52 (by decide) (fun _ => ?_) (fun z => absurd z (by decide +kernel))
  refine lv_lconst (v := lN 0) hx hb dX12_element_70 (by decide +kernel) ?_
  have hW9 : ([(y, .inr (12, [.ref as, .ref ai, .ref ar, .ref am, .ref ak, .ref ao, .ref az, .ref ae, .ref aq, .ref af, .int (bI hi), .int (nI 2), .int (nI po), .int (nI ba), .int (nI en), .ref an, .ref aw, .ref ax, .ref ap, .int se]))] ++ [(ak, .inl (cI, 8, .inl (nF ke)))] ++ [(az, .inl (cI, 8, .inl (nF zz)))] : va_W) = [(y, .inr (12, [.ref as, .ref ai, .ref ar, .ref am, .ref ak, .ref ao, .ref az, .ref ae, .ref aq, .ref af, .int (bI hi), .int (on1 (oN (nI y1) 8) (fun _ => nI 2) (nI 1)), .int (nI po), .int (nI ba), .int (nI en), .ref an, .ref aw, .ref ax, .ref ap, .int se]))] ++ [(ak, .inl (cI, 8, .inl (nF ke)))] ++ [(az, .inl (cI, 8, .inl (nF zz)))] := by simp only [on2_n, on2_sn, on2_ss, on1_n, on1_s, cond_true, cond_false, Bool.true_and, Bool.and_true, Bool.false_and, Bool.and_false, oN_t h_y1, c_19, c_37]
  rw [hW9] at hP hD
  exact W.lret hx hb hr (fun T9 hT9 hW9 => ⟨⟨_, (), rfl, rfl, by rw [hT9]; exact hP, hD⟩, hS.F hT9⟩) hS.2.2 dX12_element_71
