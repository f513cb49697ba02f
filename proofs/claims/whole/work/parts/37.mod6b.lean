set_option maxHeartbeats 4000000 in
set_option maxRecDepth 100000 in
theorem c_X12_toss (l : Launch) (dC : Nat → ClassId) (dI : Nat → Nat → Nat) (cI cD cR : ClassId) (y as ai ar am ak ao az ae aq af : Nat) (hi : Bool) (th : Int32) (po ba en an aw ax ap : Nat) (se : Int32) (ke : Nat → Nat) (qk : Nat → Int32) (qf : Nat → Int32) (x9 : Int32) (gkk : ∀ j, ke j = 1 → okI (qk j) 8 = true ∧ okI (qf j) 10 = true) (gke2 : ∀ j, ke j ≤ 2) : Met l yX12_toss wsX12_toss ({ frames := 3, cells := 0, slots := 0, locals := 66 }) (pcR dC dI cI cD cR [.ref y, .int x9] (fun H => va_P (dC, dI) vwCl ([(y, .inr (12, [.ref as, .ref ai, .ref ar, .ref am, .ref ak, .ref ao, .ref az, .ref ae, .ref aq, .ref af, .int (bI hi), .int th, .int (nI po), .int (nI ba), .int (nI en), .ref an, .ref aw, .ref ax, .ref ap, .int se]))] ++ [(ak, .inl (cI, 8, .inl (nF ke)))] ++ [(aq, .inl (cI, 8, .inl qk))] ++ [(af, .inl (cI, 8, .inl qf))]) H)) (vp_Si (fun r => r = (on1 (oN x9 8) (fun y9 => if wkR ke y9 = 0 then tossR (nT (qk y9)) (nT (qf y9)) else wkR ke y9) (-1)))) 0 0 (fun _ => False) := by
  refine Met.ofW (cc := cX12_toss) (maxL := 5) (ret := (some .int)) (by decide) rfl ?_
  intro p e s m args below meth c s₁ B hml hv
  obtain ⟨rfl, hH0, hCX⟩ := hv
  have hx := B.exec
  have hb := B.bytes
  have hr := B.returns
  have hts := atoms_spec (ws := wsX12_toss) B.pre
  have hown : s.vm.findClass RX12 = some m.cls := findClass_of_methodNamed B.named
  have hlocks := B.notSynchronized
  have hK := hCX.1
  have hP := hH0
  have hl := lv_entry ([.ref y, .int x9]) (n := 5) (Nat.le_of_ble_eq_true rfl)
  rw [lg_entry_eq]
  generalize (lg_sl ([.ref y, .int x9]) ++ List.replicate (5 - (lg_sl ([.ref y, .int x9])).length) Slot.unset).toArray = ls at hl ⊢
  have hl : lv_has ls 5 [(0, .ref y), (1, .int x9)] := hl
  rcases okI_or x9 (n := 8) (by omega) with hb_x9 | ⟨y1, h_y1, rfl⟩
  · refine lv_aload_n hx hb dX12_toss_0 rfl (lv_at hl 0 rfl) ?_
    refine lv_iload_n hx hb dX12_toss_1 rfl (lv_at hl 1 rfl) ?_
    refine vp_callSi ((va_runV (As := [.int x9]) (rest := []) ⟨hx, hb, hml, hown, hts⟩ (c_X12_wrongKept_f l dC dI cI cD cR y as ai ar am ak ao az ae aq af hi th po ba en an aw ax ap se ke x9 (by first | omega | assumption | exact gnd _ | exact gkn _ | exact Nat.lt_trans (gkn _) (by decide) | exact Nat.lt_trans (gnd _) (by decide) | exact Nat.lt_of_le_of_lt (pcN_le _) (by decide))) (cwV 1 hts gX12_toss_X12_wrongKept rfl rfl rfl (by decide +kernel) ⟨Nat.le_of_ble_eq_true rfl, Nat.le_of_ble_eq_true rfl⟩) (preV_R hCX (va_recv hK hP (ci := 12) (q0 := 0) rfl rfl) ((hP.sub (ws' := [(y, .inr (12, [.ref as, .ref ai, .ref ar, .ref am, .ref ak, .ref ao, .ref az, .ref ae, .ref aq, .ref af, .int (bI hi), .int th, .int (nI po), .int (nI ba), .int (nI en), .ref an, .ref aw, .ref ax, .ref ap, .int se]))] ++ [(ak, .inl (cI, 8, .inl (nF ke)))]) [0, 1] rfl))) rfl rfl hl.1 rfl (lv_room (Nat.le_of_ble_eq_true rfl)) dX12_toss_2 ⟨Nat.le_of_ble_eq_true (by first | rfl | decide), Nat.le_of_ble_eq_true (by first | rfl | decide)⟩).run) (fun r_2 hr_2 => ?_)
    subst hr_2
    refine lv_istore_n (lv' := [(2, .int (-1)), (0, .ref y), (1, .int x9)]) hx hb dX12_toss_5 rfl hl (by decide) rfl (fun ls hl => ?_)
    refine lv_iload_n hx hb dX12_toss_6 rfl (lv_at hl 0 rfl) ?_
    refine lv_if_eq (tgt := 12) hx hb dX12_toss_7 (by decide) (fun z => absurd z (by decide +kernel)) (fun _ => ?_)
    refine lv_iload_n hx hb dX12_toss_10 rfl (lv_at hl 0 rfl) ?_
    exact W.iret (v := (-1)) hx hb hr (fun T9 hT9 hW9 => ⟨_, rfl, (by first | (rw [oN_f hb_x9]; rfl) | (rw [oN_t h_y1, on1_s, if_neg c_7])), hT9⟩) (fun q h => by cases h) dX12_toss_11
  refine lv_aload_n hx hb dX12_toss_0 rfl (lv_at hl 0 rfl) ?_
  refine lv_iload_n hx hb dX12_toss_1 rfl (lv_at hl 1 rfl) ?_
  refine vp_callSi ((va_runV (As := [.int (nI y1)]) (rest := []) ⟨hx, hb, hml, hown, hts⟩ (c_X12_wrongKept_n l dC dI cI cD cR y as ai ar am ak ao az ae aq af hi th po ba en an aw ax ap se ke y1 (by first | omega | assumption | exact gnd _ | exact gkn _ | exact Nat.lt_trans (gkn _) (by decide) | exact Nat.lt_trans (gnd _) (by decide) | exact Nat.lt_of_le_of_lt (pcN_le _) (by decide)) gke2) (cwV 1 hts gX12_toss_X12_wrongKept rfl rfl rfl (by decide +kernel) ⟨Nat.le_of_ble_eq_true rfl, Nat.le_of_ble_eq_true rfl⟩) (preV_R hCX (va_recv hK hP (ci := 12) (q0 := 0) rfl rfl) ((hP.sub (ws' := [(y, .inr (12, [.ref as, .ref ai, .ref ar, .ref am, .ref ak, .ref ao, .ref az, .ref ae, .ref aq, .ref af, .int (bI hi), .int th, .int (nI po), .int (nI ba), .int (nI en), .ref an, .ref aw, .ref ax, .ref ap, .int se]))] ++ [(ak, .inl (cI, 8, .inl (nF ke)))]) [0, 1] rfl))) rfl rfl hl.1 rfl (lv_room (Nat.le_of_ble_eq_true rfl)) dX12_toss_2 ⟨Nat.le_of_ble_eq_true (by first | rfl | decide), Nat.le_of_ble_eq_true (by first | rfl | decide)⟩).run) (fun r_2 hr_2 => ?_)
  subst hr_2
  refine lv_istore_n (lv' := [(2, .int (wkR ke y1)), (0, .ref y), (1, .int (nI y1))]) hx hb dX12_toss_5 rfl hl (by decide) rfl (fun ls hl => ?_)
  refine lv_iload_n hx hb dX12_toss_6 rfl (lv_at hl 0 rfl) ?_
  refine lv_if_eq (tgt := 12) hx hb dX12_toss_7 (by decide) (fun c_7 => ?_) (fun c_7 => ?_)
  · obtain ⟨gk1, gk2⟩ := gkk y1 (wk_0 c_7)
    have ek := (nT_ok (by decide) gk1).1
    have ef := (nT_ok (by decide) gk2).1
    have hk9 := (nT_ok (by decide) gk1).2
    have hf9 := (nT_ok (by decide) gk2).2
    refine lv_aload_n hx hb dX12_toss_12 rfl (lv_at hl 1 rfl) ?_
    refine va_get (D := (dC, dI)) (ci := 12) (v := .ref aq) (C := RX12) (T := TX12) (N := 20) hx hb hts (fun _ h => List.mem_cons_of_mem _ (List.mem_append_right _ h)) hown hK hP 0 rfl rfl 8 (by decide) (hts (.fieldLink RX12 34 "HoldsOnceDeniedModel" "keptKind" "[I") (by decide +kernel)) (fun _ h9 => h9) rfl dX12_toss_13 ?_
    refine lv_iload_n hx hb dX12_toss_16 rfl (lv_at hl 2 rfl) ?_
    refine ho_iald (v := (qk y1)) hx hb hK hP 2 0 rfl rfl (by omega) (by first | decide | omega) rfl dX12_toss_17 ?_
    refine ho_tope (y := nI (nT (qk y1))) ek ?_
    refine lv_istore_n (lv' := [(3, .int (nI (nT (qk y1)))), (2, .int (wkR ke y1)), (0, .ref y), (1, .int (nI y1))]) hx hb dX12_toss_18 rfl hl (by decide) rfl (fun ls hl => ?_)
    refine lv_aload_n hx hb dX12_toss_19 rfl (lv_at hl 2 rfl) ?_
    refine va_get (D := (dC, dI)) (ci := 12) (v := .ref af) (C := RX12) (T := TX12) (N := 20) hx hb hts (fun _ h => List.mem_cons_of_mem _ (List.mem_append_right _ h)) hown hK hP 0 rfl rfl 9 (by decide) (hts (.fieldLink RX12 37 "HoldsOnceDeniedModel" "keptFigure" "[I") (by decide +kernel)) (fun _ h9 => h9) rfl dX12_toss_20 ?_
    refine lv_iload_n hx hb dX12_toss_23 rfl (lv_at hl 3 rfl) ?_
    refine ho_iald (v := (qf y1)) hx hb hK hP 3 0 rfl rfl (by omega) (by first | decide | omega) rfl dX12_toss_24 ?_
    refine ho_tope (y := nI (nT (qf y1))) ef ?_
    refine lv_istore (lv' := [(4, .int (nI (nT (qf y1)))), (3, .int (nI (nT (qk y1)))), (2, .int (wkR ke y1)), (0, .ref y), (1, .int (nI y1))]) hx hb dX12_toss_25 hl (by decide) rfl (fun ls hl => ?_)
    refine lv_iload_n hx hb dX12_toss_27 rfl (lv_at hl 1 rfl) ?_
    refine lv_iconst (v := nI 3) hx hb dX12_toss_28 (by decide +kernel) ?_
    refine ho_icmp_eq (tgt := 37) hx hb dX12_toss_29 (by decide) (by omega) (by omega) (fun c_29 => ?_) (fun c_29 => ?_)
    · refine lv_bipush (v := (-15)) hx hb dX12_toss_37 (by decide +kernel) ?_
      refine lv_goto (tgt := 76) hx hb dX12_toss_39 (by decide) ?_
      exact W.iret (v := (-15)) hx hb hr (fun T9 hT9 hW9 => ⟨_, rfl, (by rw [oN_t h_y1, on1_s, if_pos c_7]; simp [tossR, c_29]), hT9⟩) (fun q h => by cases h) dX12_toss_76
    refine lv_iload hx hb dX12_toss_32 (lv_at hl 0 rfl) ?_
    refine ho_if_ne (tgt := 42) hx hb dX12_toss_34 (by decide) (by omega) (fun c_34 => ?_) (fun c_34 => ?_)
    · refine lv_iload_n hx hb dX12_toss_42 rfl (lv_at hl 1 rfl) ?_
      refine lv_iconst (v := nI 1) hx hb dX12_toss_43 (by decide +kernel) ?_
      refine ho_icmp_ne (tgt := 55) hx hb dX12_toss_44 (by decide) (by omega) (by omega) (fun c_44 => ?_) (fun c_44 => ?_)
      · refine lv_iload_n hx hb dX12_toss_55 rfl (lv_at hl 1 rfl) ?_
        refine lv_bipush (v := nI 6) hx hb dX12_toss_56 (by decide +kernel) ?_
        refine ho_icmp_ne (tgt := 74) hx hb dX12_toss_58 (by decide) (by omega) (by omega) (fun c_58 => ?_) (fun c_58 => ?_)
        · refine lv_iload hx hb dX12_toss_74 (lv_at hl 0 rfl) ?_
          exact W.iret (v := nI (nT (qf y1))) hx hb hr (fun T9 hT9 hW9 => ⟨_, rfl, (by rw [oN_t h_y1, on1_s, if_pos c_7]; simp [tossR, c_29, c_34, c_44, c_58]), hT9⟩) (fun q h => by cases h) dX12_toss_76
        refine lv_sipush (v := nI 200) hx hb dX12_toss_61 (by decide +kernel) ?_
        refine lv_iload_n hx hb dX12_toss_64 rfl (lv_at hl 1 rfl) ?_
        refine lv_iload hx hb dX12_toss_65 (lv_at hl 0 rfl) ?_
        refine vp_callSi ((va_runS (As := [.int (nI (nT (qk y1))), .int (nI (nT (qf y1)))]) (rest := [.int (nI 200)]) ⟨hx, hb, hml, hown, hts⟩ (c_X12_priceBy l dC dI cI cD cR (nT (qk y1)) (nT (qf y1)) (by first | omega | assumption | exact gnd _ | exact gkn _ | exact Nat.lt_trans (gkn _) (by decide) | exact Nat.lt_trans (gnd _) (by decide) | exact Nat.lt_of_le_of_lt (pcN_le _) (by decide)) (by first | omega | assumption | exact gnd _ | exact gkn _ | exact Nat.lt_trans (gkn _) (by decide) | exact Nat.lt_trans (gnd _) (by decide) | exact Nat.lt_of_le_of_lt (pcN_le _) (by decide))) (va_cwS 2 hts gX12_toss_X12_priceBy rfl rfl rfl (by decide +kernel) ⟨Nat.le_of_ble_eq_true rfl, Nat.le_of_ble_eq_true rfl⟩) (preS_R hCX (trivial)) rfl rfl hl.1 rfl (lv_room (Nat.le_of_ble_eq_true rfl)) dX12_toss_67 ⟨Nat.le_of_ble_eq_true (by first | rfl | decide), Nat.le_of_ble_eq_true (by first | rfl | decide)⟩).run) (fun r_67 hr_67 => ?_)
        subst hr_67
        refine ho_iadd hx hb dX12_toss_70 ?_
        refine lv_goto (tgt := 76) hx hb dX12_toss_71 (by decide) ?_
        exact W.iret (v := nI (200 + (asN (nT (qk y1)) (nT (qf y1))))) hx hb hr (fun T9 hT9 hW9 => ⟨_, rfl, (by rw [oN_t h_y1, on1_s, if_pos c_7]; simp [tossR, c_29, c_34, c_44, c_58]), hT9⟩) (fun q h => by cases h) dX12_toss_76
      refine lv_bipush (v := nI 100) hx hb dX12_toss_47 (by decide +kernel) ?_
      refine lv_iload hx hb dX12_toss_49 (lv_at hl 0 rfl) ?_
      refine ho_iadd hx hb dX12_toss_51 ?_
      refine lv_goto (tgt := 76) hx hb dX12_toss_52 (by decide) ?_
      exact W.iret (v := nI (100 + (nT (qf y1)))) hx hb hr (fun T9 hT9 hW9 => ⟨_, rfl, (by rw [oN_t h_y1, on1_s, if_pos c_7]; simp [tossR, c_29, c_34, c_44]), hT9⟩) (fun q h => by cases h) dX12_toss_76
    refine lv_bipush (v := (-15)) hx hb dX12_toss_37 (by decide +kernel) ?_
    refine lv_goto (tgt := 76) hx hb dX12_toss_39 (by decide) ?_
    exact W.iret (v := (-15)) hx hb hr (fun T9 hT9 hW9 => ⟨_, rfl, (by rw [oN_t h_y1, on1_s, if_pos c_7]; simp [tossR, c_29, c_34]), hT9⟩) (fun q h => by cases h) dX12_toss_76
  refine lv_iload_n hx hb dX12_toss_10 rfl (lv_at hl 0 rfl) ?_
  exact W.iret (v := (wkR ke y1)) hx hb hr (fun T9 hT9 hW9 => ⟨_, rfl, (by first | (rw [oN_f hb_x9]; rfl) | (rw [oN_t h_y1, on1_s, if_neg c_7])), hT9⟩) (fun q h => by cases h) dX12_toss_11
