set_option maxHeartbeats 4000000 in
set_option maxRecDepth 100000 in
theorem c_X12_keep (l : Launch) (dC : Nat → ClassId) (dI : Nat → Nat → Nat) (cI cD cR : ClassId) (y as ai ar am ak ao az ae aq af : Nat) (hi : Bool) (th : Int32) (po ba en an aw ax ap : Nat) (se : Int32) (ke : Nat → Nat) (qk : Nat → Int32) (qf : Nat → Int32) (x9 w k9 f9 : Int32) (sz : Nat)  : Met l yX12_keep wsX12_keep ({ frames := 2, cells := 0, slots := 0, locals := 45 }) (pcR dC dI cI cD cR [.ref y, .int x9, .int w, .int k9, .int f9] (fun H => H.size = sz ∧ va_P (dC, dI) vwCl ([(y, .inr (12, [.ref as, .ref ai, .ref ar, .ref am, .ref ak, .ref ao, .ref az, .ref ae, .ref aq, .ref af, .int (bI hi), .int th, .int (nI po), .int (nI ba), .int (nI en), .ref an, .ref aw, .ref ax, .ref ap, .int se]))] ++ [(ak, .inl (cI, 8, .inl (nF ke)))] ++ [(aq, .inl (cI, 8, .inl qk))] ++ [(af, .inl (cI, 8, .inl qf))]) H ∧ va_D (fun _ => True) ([(y, .inr (12, [.ref as, .ref ai, .ref ar, .ref am, .ref ak, .ref ao, .ref az, .ref ae, .ref aq, .ref af, .int (bI hi), .int th, .int (nI po), .int (nI ba), .int (nI en), .ref an, .ref aw, .ref ax, .ref ap, .int se]))] ++ [(ak, .inl (cI, 8, .inl (nF ke)))] ++ [(aq, .inl (cI, 8, .inl qk))] ++ [(af, .inl (cI, 8, .inl qf))]))) (va_Qi (fun r (_ : Unit) => r = (bif okI x9 8 && (okI w 2 && (decide (w = 0) || (okI k9 8 && okI f9 10))) then 0 else (-1))) (fun (_ : Unit) T9 => va_P (dC, dI) vwCl ([(y, .inr (12, [.ref as, .ref ai, .ref ar, .ref am, .ref ak, .ref ao, .ref az, .ref ae, .ref aq, .ref af, .int (bI hi), .int th, .int (nI po), .int (nI ba), .int (nI en), .ref an, .ref aw, .ref ax, .ref ap, .int se]))] ++ [(ak, .inl (cI, 8, .inl (nF (bif okI x9 8 && (okI w 2 && (decide (w = 0) || (okI k9 8 && okI f9 10))) then va_up ke (nT x9) (nT w) else ke))))] ++ [(aq, .inl (cI, 8, .inl (bif okI x9 8 && (okI w 2 && (decide (w = 0) || (okI k9 8 && okI f9 10))) then upd qk (nT x9) k9 else qk)))] ++ [(af, .inl (cI, 8, .inl (bif okI x9 8 && (okI w 2 && (decide (w = 0) || (okI k9 8 && okI f9 10))) then upd qf (nT x9) f9 else qf)))]) T9.heap ∧ va_D (va_A ([(y, .inr (12, [.ref as, .ref ai, .ref ar, .ref am, .ref ak, .ref ao, .ref az, .ref ae, .ref aq, .ref af, .int (bI hi), .int th, .int (nI po), .int (nI ba), .int (nI en), .ref an, .ref aw, .ref ax, .ref ap, .int se]))] ++ [(ak, .inl (cI, 8, .inl (nF ke)))] ++ [(aq, .inl (cI, 8, .inl qk))] ++ [(af, .inl (cI, 8, .inl qf))]) sz) ([(y, .inr (12, [.ref as, .ref ai, .ref ar, .ref am, .ref ak, .ref ao, .ref az, .ref ae, .ref aq, .ref af, .int (bI hi), .int th, .int (nI po), .int (nI ba), .int (nI en), .ref an, .ref aw, .ref ax, .ref ap, .int se]))] ++ [(ak, .inl (cI, 8, .inl (nF (bif okI x9 8 && (okI w 2 && (decide (w = 0) || (okI k9 8 && okI f9 10))) then va_up ke (nT x9) (nT w) else ke))))] ++ [(aq, .inl (cI, 8, .inl (bif okI x9 8 && (okI w 2 && (decide (w = 0) || (okI k9 8 && okI f9 10))) then upd qk (nT x9) k9 else qk)))] ++ [(af, .inl (cI, 8, .inl (bif okI x9 8 && (okI w 2 && (decide (w = 0) || (okI k9 8 && okI f9 10))) then upd qf (nT x9) f9 else qf)))])) (va_A ([(y, .inr (12, [.ref as, .ref ai, .ref ar, .ref am, .ref ak, .ref ao, .ref az, .ref ae, .ref aq, .ref af, .int (bI hi), .int th, .int (nI po), .int (nI ba), .int (nI en), .ref an, .ref aw, .ref ax, .ref ap, .int se]))] ++ [(ak, .inl (cI, 8, .inl (nF ke)))] ++ [(aq, .inl (cI, 8, .inl qk))] ++ [(af, .inl (cI, 8, .inl qf))]) sz)) 0 0 (va_A ([(y, .inr (12, [.ref as, .ref ai, .ref ar, .ref am, .ref ak, .ref ao, .ref az, .ref ae, .ref aq, .ref af, .int (bI hi), .int th, .int (nI po), .int (nI ba), .int (nI en), .ref an, .ref aw, .ref ax, .ref ap, .int se]))] ++ [(ak, .inl (cI, 8, .inl (nF ke)))] ++ [(aq, .inl (cI, 8, .inl qk))] ++ [(af, .inl (cI, 8, .inl qf))]) sz) := by
  refine Met.ofW (cc := cX12_keep) (maxL := 5) (ret := (some .int)) (by decide) rfl ?_
  intro p e s m args below meth c s₁ B hml hv
  obtain ⟨rfl, hH0, hCX⟩ := hv
  have hx := B.exec
  have hb := B.bytes
  have hr := B.returns
  have hts := atoms_spec (ws := wsX12_keep) B.pre
  have hown : s.vm.findClass RX12 = some m.cls := findClass_of_methodNamed B.named
  have hlocks := B.notSynchronized
  have hK := hCX.1
  obtain ⟨hsz, hP, hD0⟩ := hH0
  subst hsz
  have hD := hD0.self (sz := s.heap.size)
  generalize hAe : va_A ([(y, .inr (12, [.ref as, .ref ai, .ref ar, .ref am, .ref ak, .ref ao, .ref az, .ref ae, .ref aq, .ref af, .int (bI hi), .int th, .int (nI po), .int (nI ba), .int (nI en), .ref an, .ref aw, .ref ax, .ref ap, .int se]))] ++ [(ak, .inl (cI, 8, .inl (nF ke)))] ++ [(aq, .inl (cI, 8, .inl qk))] ++ [(af, .inl (cI, 8, .inl qf))]) s.heap.size = A at hD ⊢
  have hA : ∀ q : Nat, s.heap.size ≤ q → A q := fun q h => by rw [← hAe]; exact Or.inr h
  have hS : va_S A s.heap s.heap [] := va_S.rf
  have hP : va_P (dC, dI) vwCl ([(y, .inr (12, [.ref as, .ref ai, .ref ar, .ref am, .ref ak, .ref ao, .ref az, .ref ae, .ref aq, .ref af, .int (bI hi), .int th, .int (nI po), .int (nI ba), .int (nI en), .ref an, .ref aw, .ref ax, .ref ap, .int se]))] ++ [(ak, .inl (cI, 8, .inl (nF ke)))] ++ [(aq, .inl (cI, 8, .inl qk))] ++ [(af, .inl (cI, 8, .inl qf))]) s.heap := hP
  have hl := lv_entry ([.ref y, .int x9, .int w, .int k9, .int f9]) (n := 5) (Nat.le_of_ble_eq_true rfl)
  rw [lg_entry_eq]
  generalize (lg_sl ([.ref y, .int x9, .int w, .int k9, .int f9]) ++ List.replicate (5 - (lg_sl ([.ref y, .int x9, .int w, .int k9, .int f9])).length) Slot.unset).toArray = ls at hl ⊢
  have hl : lv_has ls 5 [(0, .ref y), (1, .int x9), (2, .int w), (3, .int k9), (4, .int f9)] := hl
  rcases okI_or x9 (n := 8) (by omega) with hb_x9 | ⟨y1, h_y1, rfl⟩
  · refine lv_iload_n hx hb dX12_keep_0 rfl (lv_at hl 1 rfl) ?_
    refine vp_callSi ((va_runS (As := [.int x9]) (rest := []) ⟨hx, hb, hml, hown, hts⟩ (c_X12_isShelf_f l dC dI cI cD cR x9 (by first | omega | assumption | exact gnd _ | exact gkn _ | exact Nat.lt_trans (gkn _) (by decide) | exact Nat.lt_trans (gnd _) (by decide) | exact Nat.lt_of_le_of_lt (pcN_le _) (by decide))) (va_cwS 1 hts gX12_keep_X12_isShelf rfl rfl rfl (by decide +kernel) ⟨Nat.le_of_ble_eq_true rfl, Nat.le_of_ble_eq_true rfl⟩) (preS_R hCX (trivial)) rfl rfl hl.1 rfl (lv_room (Nat.le_of_ble_eq_true rfl)) dX12_keep_1 ⟨Nat.le_of_ble_eq_true (by first | rfl | decide), Nat.le_of_ble_eq_true (by first | rfl | decide)⟩).run) (fun r_1 hr_1 => ?_)
    subst hr_1
    refine lv_if_eq (tgt := 47) hx hb dX12_keep_4 (by decide) (fun _ => ?_) (fun z => absurd z (by decide +kernel))
    refine lv_iconst (v := (-1)) hx hb dX12_keep_47 (by decide +kernel) ?_
    have hW9 : ([(y, .inr (12, [.ref as, .ref ai, .ref ar, .ref am, .ref ak, .ref ao, .ref az, .ref ae, .ref aq, .ref af, .int (bI hi), .int th, .int (nI po), .int (nI ba), .int (nI en), .ref an, .ref aw, .ref ax, .ref ap, .int se]))] ++ [(ak, .inl (cI, 8, .inl (nF ke)))] ++ [(aq, .inl (cI, 8, .inl qk))] ++ [(af, .inl (cI, 8, .inl qf))] : va_W) = [(y, .inr (12, [.ref as, .ref ai, .ref ar, .ref am, .ref ak, .ref ao, .ref az, .ref ae, .ref aq, .ref af, .int (bI hi), .int th, .int (nI po), .int (nI ba), .int (nI en), .ref an, .ref aw, .ref ax, .ref ap, .int se]))] ++ [(ak, .inl (cI, 8, .inl (nF (bif okI x9 8 && (okI w 2 && (decide (w = 0) || (okI k9 8 && okI f9 10))) then va_up ke (nT x9) (nT w) else ke))))] ++ [(aq, .inl (cI, 8, .inl (bif okI x9 8 && (okI w 2 && (decide (w = 0) || (okI k9 8 && okI f9 10))) then upd qk (nT x9) k9 else qk)))] ++ [(af, .inl (cI, 8, .inl (bif okI x9 8 && (okI w 2 && (decide (w = 0) || (okI k9 8 && okI f9 10))) then upd qf (nT x9) f9 else qf)))] := by rw [hb_x9]; rfl
    rw [hW9] at hP hD
    exact W.iret (v := (-1)) hx hb hr (fun T9 hT9 hW9 => ⟨⟨_, (), rfl, (by rw [hb_x9]; rfl), by rw [hT9]; exact hP, hD⟩, hS.F hT9⟩) hS.2.2 dX12_keep_48
  refine lv_iload_n hx hb dX12_keep_0 rfl (lv_at hl 1 rfl) ?_
  refine vp_callSi ((va_runS (As := [.int (nI y1)]) (rest := []) ⟨hx, hb, hml, hown, hts⟩ (c_X12_isShelf_t l dC dI cI cD cR y1 (by first | omega | assumption | exact gnd _ | exact gkn _ | exact Nat.lt_trans (gkn _) (by decide) | exact Nat.lt_trans (gnd _) (by decide) | exact Nat.lt_of_le_of_lt (pcN_le _) (by decide))) (va_cwS 1 hts gX12_keep_X12_isShelf rfl rfl rfl (by decide +kernel) ⟨Nat.le_of_ble_eq_true rfl, Nat.le_of_ble_eq_true rfl⟩) (preS_R hCX (trivial)) rfl rfl hl.1 rfl (lv_room (Nat.le_of_ble_eq_true rfl)) dX12_keep_1 ⟨Nat.le_of_ble_eq_true (by first | rfl | decide), Nat.le_of_ble_eq_true (by first | rfl | decide)⟩).run) (fun r_1 hr_1 => ?_)
  subst hr_1
  refine lv_if_eq (tgt := 47) hx hb dX12_keep_4 (by decide) (fun z => absurd z (by decide +kernel)) (fun _ => ?_)
  refine lv_iload_n hx hb dX12_keep_7 rfl (lv_at hl 2 rfl) ?_
  refine lv_i2l (v := (w).toInt64) hx hb dX12_keep_8 rfl ?_
  refine lv_lconst (v := lN 0) hx hb dX12_keep_9 (by decide +kernel) ?_
  refine lv_lconst (v := lN 1) hx hb dX12_keep_10 (by decide +kernel) ?_
  refine vp_callSi ((va_runS (As := [.long ((w).toInt64), .long (lN 0), .long (lN 1)]) (rest := []) ⟨hx, hb, hml, hown, hts⟩ (c_X12_isIn l dC dI cI cD cR ((w).toInt64) (lN 0) (lN 1)) (va_cwS 3 hts gX12_keep_X12_isIn rfl rfl rfl (by decide +kernel) ⟨Nat.le_of_ble_eq_true rfl, Nat.le_of_ble_eq_true rfl⟩) (preS_R hCX (trivial)) rfl rfl hl.1 rfl (lv_room (Nat.le_of_ble_eq_true rfl)) dX12_keep_11 ⟨Nat.le_of_ble_eq_true (by first | rfl | decide), Nat.le_of_ble_eq_true (by first | rfl | decide)⟩).run) (fun r_11 hr_11 => ?_)
  subst hr_11
  refine ho_beq (tgt := 47) hx hb dX12_keep_14 (by decide) (fun c_14 => ?_) (fun c_14 => ?_)
  · have w14 : okI w 2 = false := (inB_k w (k := 1) (by decide)).symm.trans c_14
    refine lv_iconst (v := (-1)) hx hb dX12_keep_47 (by decide +kernel) ?_
    have hW9 : ([(y, .inr (12, [.ref as, .ref ai, .ref ar, .ref am, .ref ak, .ref ao, .ref az, .ref ae, .ref aq, .ref af, .int (bI hi), .int th, .int (nI po), .int (nI ba), .int (nI en), .ref an, .ref aw, .ref ax, .ref ap, .int se]))] ++ [(ak, .inl (cI, 8, .inl (nF ke)))] ++ [(aq, .inl (cI, 8, .inl qk))] ++ [(af, .inl (cI, 8, .inl qf))] : va_W) = [(y, .inr (12, [.ref as, .ref ai, .ref ar, .ref am, .ref ak, .ref ao, .ref az, .ref ae, .ref aq, .ref af, .int (bI hi), .int th, .int (nI po), .int (nI ba), .int (nI en), .ref an, .ref aw, .ref ax, .ref ap, .int se]))] ++ [(ak, .inl (cI, 8, .inl (nF (bif okI (nI y1) 8 && (okI w 2 && (decide (w = 0) || (okI k9 8 && okI f9 10))) then va_up ke (nT (nI y1)) (nT w) else ke))))] ++ [(aq, .inl (cI, 8, .inl (bif okI (nI y1) 8 && (okI w 2 && (decide (w = 0) || (okI k9 8 && okI f9 10))) then upd qk (nT (nI y1)) k9 else qk)))] ++ [(af, .inl (cI, 8, .inl (bif okI (nI y1) 8 && (okI w 2 && (decide (w = 0) || (okI k9 8 && okI f9 10))) then upd qf (nT (nI y1)) f9 else qf)))] := by rw [show (okI (nI y1) 8 && (okI w 2 && (decide (w = 0) || (okI k9 8 && okI f9 10)))) = false from by rw [okI_nI (by omega) (by decide), decide_eq_true h_y1, w14]; rfl]; simp only [cond_true, cond_false, nT_nI (show y1 < 2 ^ 31 by omega)]
    rw [hW9] at hP hD
    exact W.iret (v := (-1)) hx hb hr (fun T9 hT9 hW9 => ⟨⟨_, (), rfl, (by rw [show (okI (nI y1) 8 && (okI w 2 && (decide (w = 0) || (okI k9 8 && okI f9 10)))) = false from by rw [okI_nI (by omega) (by decide), decide_eq_true h_y1, w14]; rfl]; rfl), by rw [hT9]; exact hP, hD⟩, hS.F hT9⟩) hS.2.2 dX12_keep_48
  have w14 : okI w 2 = true := (inB_k w (k := 1) (by decide)).symm.trans c_14
  refine lv_iload_n hx hb dX12_keep_17 rfl (lv_at hl 2 rfl) ?_
  refine lv_iconst (v := nI 1) hx hb dX12_keep_18 (by decide +kernel) ?_
  refine lv_icmp_ne (tgt := 49) hx hb dX12_keep_19 (by decide) (fun c_19 => ?_) (fun c_19 => ?_)
  · have c_19 : ¬ w = 1 := c_19
    refine lv_aload_n hx hb dX12_keep_49 rfl (lv_at hl 0 rfl) ?_
    refine va_get (D := (dC, dI)) (ci := 12) (v := .ref ak) (C := RX12) (T := TX12) (N := 20) hx hb hts (fun _ h => List.mem_cons_of_mem _ (List.mem_append_right _ h)) hown hK hP 0 rfl rfl 4 (by decide) (hts (.fieldLink RX12 22 "HoldsOnceDeniedModel" "kept" "[I") (by decide +kernel)) (fun _ h9 => h9) rfl dX12_keep_50 ?_
    refine lv_iload_n hx hb dX12_keep_53 rfl (lv_at hl 1 rfl) ?_
    refine lv_iload_n hx hb dX12_keep_54 rfl (lv_at hl 2 rfl) ?_
    refine ho_tope (y := nI 0) (w01 w14 c_19) ?_
    refine ho_iast (g := nF (va_up ke y1 0)) hx hb hK hP hD hS 1 0 rfl rfl (by omega) (by first | decide | omega) (nF_up _ _ _) dX12_keep_55 (fun H locs hP hD hS => ?_)
    have hP : va_P (dC, dI) vwCl ([(y, .inr (12, [.ref as, .ref ai, .ref ar, .ref am, .ref ak, .ref ao, .ref az, .ref ae, .ref aq, .ref af, .int (bI hi), .int th, .int (nI po), .int (nI ba), .int (nI en), .ref an, .ref aw, .ref ax, .ref ap, .int se]))] ++ [(ak, .inl (cI, 8, .inl (nF (va_up ke y1 0))))] ++ [(aq, .inl (cI, 8, .inl qk))] ++ [(af, .inl (cI, 8, .inl qf))]) H := hP
    have hD : va_D A ([(y, .inr (12, [.ref as, .ref ai, .ref ar, .ref am, .ref ak, .ref ao, .ref az, .ref ae, .ref aq, .ref af, .int (bI hi), .int th, .int (nI po), .int (nI ba), .int (nI en), .ref an, .ref aw, .ref ax, .ref ap, .int se]))] ++ [(ak, .inl (cI, 8, .inl (nF (va_up ke y1 0))))] ++ [(aq, .inl (cI, 8, .inl qk))] ++ [(af, .inl (cI, 8, .inl qf))]) := hD
    refine lv_aload_n hx hb dX12_keep_56 rfl (lv_at hl 0 rfl) ?_
    refine va_get (D := (dC, dI)) (ci := 12) (v := .ref aq) (C := RX12) (T := TX12) (N := 20) hx hb hts (fun _ h => List.mem_cons_of_mem _ (List.mem_append_right _ h)) hown hK hP 0 rfl rfl 8 (by decide) (hts (.fieldLink RX12 34 "HoldsOnceDeniedModel" "keptKind" "[I") (by decide +kernel)) (fun _ h9 => h9) rfl dX12_keep_57 ?_
    refine lv_iload_n hx hb dX12_keep_60 rfl (lv_at hl 1 rfl) ?_
    refine lv_iload_n hx hb dX12_keep_61 rfl (lv_at hl 3 rfl) ?_
    refine ho_iast (g := upd qk y1 k9) hx hb hK hP hD hS 2 0 rfl rfl (by omega) (by first | decide | omega) rfl dX12_keep_62 (fun H locs hP hD hS => ?_)
    have hP : va_P (dC, dI) vwCl ([(y, .inr (12, [.ref as, .ref ai, .ref ar, .ref am, .ref ak, .ref ao, .ref az, .ref ae, .ref aq, .ref af, .int (bI hi), .int th, .int (nI po), .int (nI ba), .int (nI en), .ref an, .ref aw, .ref ax, .ref ap, .int se]))] ++ [(ak, .inl (cI, 8, .inl (nF (va_up ke y1 0))))] ++ [(aq, .inl (cI, 8, .inl (upd qk y1 k9)))] ++ [(af, .inl (cI, 8, .inl qf))]) H := hP
    have hD : va_D A ([(y, .inr (12, [.ref as, .ref ai, .ref ar, .ref am, .ref ak, .ref ao, .ref az, .ref ae, .ref aq, .ref af, .int (bI hi), .int th, .int (nI po), .int (nI ba), .int (nI en), .ref an, .ref aw, .ref ax, .ref ap, .int se]))] ++ [(ak, .inl (cI, 8, .inl (nF (va_up ke y1 0))))] ++ [(aq, .inl (cI, 8, .inl (upd qk y1 k9)))] ++ [(af, .inl (cI, 8, .inl qf))]) := hD
    refine lv_aload_n hx hb dX12_keep_63 rfl (lv_at hl 0 rfl) ?_
    refine va_get (D := (dC, dI)) (ci := 12) (v := .ref af) (C := RX12) (T := TX12) (N := 20) hx hb hts (fun _ h => List.mem_cons_of_mem _ (List.mem_append_right _ h)) hown hK hP 0 rfl rfl 9 (by decide) (hts (.fieldLink RX12 37 "HoldsOnceDeniedModel" "keptFigure" "[I") (by decide +kernel)) (fun _ h9 => h9) rfl dX12_keep_64 ?_
    refine lv_iload_n hx hb dX12_keep_67 rfl (lv_at hl 1 rfl) ?_
    refine lv_iload hx hb dX12_keep_68 (lv_at hl 4 rfl) ?_
    refine ho_iast (g := upd qf y1 f9) hx hb hK hP hD hS 3 0 rfl rfl (by omega) (by first | decide | omega) rfl dX12_keep_70 (fun H locs hP hD hS => ?_)
    have hP : va_P (dC, dI) vwCl ([(y, .inr (12, [.ref as, .ref ai, .ref ar, .ref am, .ref ak, .ref ao, .ref az, .ref ae, .ref aq, .ref af, .int (bI hi), .int th, .int (nI po), .int (nI ba), .int (nI en), .ref an, .ref aw, .ref ax, .ref ap, .int se]))] ++ [(ak, .inl (cI, 8, .inl (nF (va_up ke y1 0))))] ++ [(aq, .inl (cI, 8, .inl (upd qk y1 k9)))] ++ [(af, .inl (cI, 8, .inl (upd qf y1 f9)))]) H := hP
    have hD : va_D A ([(y, .inr (12, [.ref as, .ref ai, .ref ar, .ref am, .ref ak, .ref ao, .ref az, .ref ae, .ref aq, .ref af, .int (bI hi), .int th, .int (nI po), .int (nI ba), .int (nI en), .ref an, .ref aw, .ref ax, .ref ap, .int se]))] ++ [(ak, .inl (cI, 8, .inl (nF (va_up ke y1 0))))] ++ [(aq, .inl (cI, 8, .inl (upd qk y1 k9)))] ++ [(af, .inl (cI, 8, .inl (upd qf y1 f9)))]) := hD
    refine lv_iconst (v := nI 0) hx hb dX12_keep_71 (by decide +kernel) ?_
    have hW9 : ([(y, .inr (12, [.ref as, .ref ai, .ref ar, .ref am, .ref ak, .ref ao, .ref az, .ref ae, .ref aq, .ref af, .int (bI hi), .int th, .int (nI po), .int (nI ba), .int (nI en), .ref an, .ref aw, .ref ax, .ref ap, .int se]))] ++ [(ak, .inl (cI, 8, .inl (nF (va_up ke y1 0))))] ++ [(aq, .inl (cI, 8, .inl (upd qk y1 k9)))] ++ [(af, .inl (cI, 8, .inl (upd qf y1 f9)))] : va_W) = [(y, .inr (12, [.ref as, .ref ai, .ref ar, .ref am, .ref ak, .ref ao, .ref az, .ref ae, .ref aq, .ref af, .int (bI hi), .int th, .int (nI po), .int (nI ba), .int (nI en), .ref an, .ref aw, .ref ax, .ref ap, .int se]))] ++ [(ak, .inl (cI, 8, .inl (nF (bif okI (nI y1) 8 && (okI w 2 && (decide (w = 0) || (okI k9 8 && okI f9 10))) then va_up ke (nT (nI y1)) (nT w) else ke))))] ++ [(aq, .inl (cI, 8, .inl (bif okI (nI y1) 8 && (okI w 2 && (decide (w = 0) || (okI k9 8 && okI f9 10))) then upd qk (nT (nI y1)) k9 else qk)))] ++ [(af, .inl (cI, 8, .inl (bif okI (nI y1) 8 && (okI w 2 && (decide (w = 0) || (okI k9 8 && okI f9 10))) then upd qf (nT (nI y1)) f9 else qf)))] := by rw [show (okI (nI y1) 8 && (okI w 2 && (decide (w = 0) || (okI k9 8 && okI f9 10)))) = true from by rw [okI_nI (by omega) (by decide), decide_eq_true h_y1, w14, w01 w14 c_19]; rfl]; simp only [cond_true, cond_false, nT_nI (show y1 < 2 ^ 31 by omega), nT_0 (w01 w14 c_19)]
    rw [hW9] at hP hD
    exact W.iret (v := nI 0) hx hb hr (fun T9 hT9 hW9 => ⟨⟨_, (), rfl, (by rw [show (okI (nI y1) 8 && (okI w 2 && (decide (w = 0) || (okI k9 8 && okI f9 10)))) = true from by rw [okI_nI (by omega) (by decide), decide_eq_true h_y1, w14, w01 w14 c_19]; rfl]; rfl), by rw [hT9]; exact hP, hD⟩, hS.F hT9⟩) hS.2.2 dX12_keep_72
  have c_19 : w = 1 := c_19
  refine lv_iload_n hx hb dX12_keep_22 rfl (lv_at hl 3 rfl) ?_
  refine lv_i2l (v := (k9).toInt64) hx hb dX12_keep_23 rfl ?_
  refine lv_lconst (v := lN 0) hx hb dX12_keep_24 (by decide +kernel) ?_
  refine lv_ldc2 (v := 7) hx hb hown (hts (.constantLong RX12 56 (7)) (by decide +kernel)) dX12_keep_25 ?_
  refine vp_callSi ((va_runS (As := [.long ((k9).toInt64), .long (lN 0), .long (7 : Int64)]) (rest := []) ⟨hx, hb, hml, hown, hts⟩ (c_X12_isIn l dC dI cI cD cR ((k9).toInt64) (lN 0) (7 : Int64)) (va_cwS 3 hts gX12_keep_X12_isIn rfl rfl rfl (by decide +kernel) ⟨Nat.le_of_ble_eq_true rfl, Nat.le_of_ble_eq_true rfl⟩) (preS_R hCX (trivial)) rfl rfl hl.1 rfl (lv_room (Nat.le_of_ble_eq_true rfl)) dX12_keep_28 ⟨Nat.le_of_ble_eq_true (by first | rfl | decide), Nat.le_of_ble_eq_true (by first | rfl | decide)⟩).run) (fun r_28 hr_28 => ?_)
  subst hr_28
  refine ho_beq (tgt := 47) hx hb dX12_keep_31 (by decide) (fun c_31 => ?_) (fun c_31 => ?_)
  · have w31 : okI k9 8 = false := (inB_k k9 (k := 7) (by decide)).symm.trans c_31
    refine lv_iconst (v := (-1)) hx hb dX12_keep_47 (by decide +kernel) ?_
    have hW9 : ([(y, .inr (12, [.ref as, .ref ai, .ref ar, .ref am, .ref ak, .ref ao, .ref az, .ref ae, .ref aq, .ref af, .int (bI hi), .int th, .int (nI po), .int (nI ba), .int (nI en), .ref an, .ref aw, .ref ax, .ref ap, .int se]))] ++ [(ak, .inl (cI, 8, .inl (nF ke)))] ++ [(aq, .inl (cI, 8, .inl qk))] ++ [(af, .inl (cI, 8, .inl qf))] : va_W) = [(y, .inr (12, [.ref as, .ref ai, .ref ar, .ref am, .ref ak, .ref ao, .ref az, .ref ae, .ref aq, .ref af, .int (bI hi), .int th, .int (nI po), .int (nI ba), .int (nI en), .ref an, .ref aw, .ref ax, .ref ap, .int se]))] ++ [(ak, .inl (cI, 8, .inl (nF (bif okI (nI y1) 8 && (okI w 2 && (decide (w = 0) || (okI k9 8 && okI f9 10))) then va_up ke (nT (nI y1)) (nT w) else ke))))] ++ [(aq, .inl (cI, 8, .inl (bif okI (nI y1) 8 && (okI w 2 && (decide (w = 0) || (okI k9 8 && okI f9 10))) then upd qk (nT (nI y1)) k9 else qk)))] ++ [(af, .inl (cI, 8, .inl (bif okI (nI y1) 8 && (okI w 2 && (decide (w = 0) || (okI k9 8 && okI f9 10))) then upd qf (nT (nI y1)) f9 else qf)))] := by rw [show (okI (nI y1) 8 && (okI w 2 && (decide (w = 0) || (okI k9 8 && okI f9 10)))) = false from by rw [okI_nI (by omega) (by decide), decide_eq_true h_y1, w14, decide_eq_false (fun q => w10 c_19 q), w31]; rfl]; simp only [cond_true, cond_false, nT_nI (show y1 < 2 ^ 31 by omega), nT_1 c_19]
    rw [hW9] at hP hD
    exact W.iret (v := (-1)) hx hb hr (fun T9 hT9 hW9 => ⟨⟨_, (), rfl, (by rw [show (okI (nI y1) 8 && (okI w 2 && (decide (w = 0) || (okI k9 8 && okI f9 10)))) = false from by rw [okI_nI (by omega) (by decide), decide_eq_true h_y1, w14, decide_eq_false (fun q => w10 c_19 q), w31]; rfl]; rfl), by rw [hT9]; exact hP, hD⟩, hS.F hT9⟩) hS.2.2 dX12_keep_48
  have w31 : okI k9 8 = true := (inB_k k9 (k := 7) (by decide)).symm.trans c_31
  refine lv_iload hx hb dX12_keep_34 (lv_at hl 4 rfl) ?_
  refine lv_i2l (v := (f9).toInt64) hx hb dX12_keep_36 rfl ?_
  refine lv_lconst (v := lN 0) hx hb dX12_keep_37 (by decide +kernel) ?_
  refine lv_ldc2 (v := 9) hx hb hown (hts (.constantLong RX12 201 (9)) (by decide +kernel)) dX12_keep_38 ?_
  refine vp_callSi ((va_runS (As := [.long ((f9).toInt64), .long (lN 0), .long (9 : Int64)]) (rest := []) ⟨hx, hb, hml, hown, hts⟩ (c_X12_isIn l dC dI cI cD cR ((f9).toInt64) (lN 0) (9 : Int64)) (va_cwS 3 hts gX12_keep_X12_isIn rfl rfl rfl (by decide +kernel) ⟨Nat.le_of_ble_eq_true rfl, Nat.le_of_ble_eq_true rfl⟩) (preS_R hCX (trivial)) rfl rfl hl.1 rfl (lv_room (Nat.le_of_ble_eq_true rfl)) dX12_keep_41 ⟨Nat.le_of_ble_eq_true (by first | rfl | decide), Nat.le_of_ble_eq_true (by first | rfl | decide)⟩).run) (fun r_41 hr_41 => ?_)
  subst hr_41
  refine ho_bne (tgt := 49) hx hb dX12_keep_44 (by decide) (fun c_44 => ?_) (fun c_44 => ?_)
  · have w44 : okI f9 10 = true := (inB_k f9 (k := 9) (by decide)).symm.trans c_44
    refine lv_aload_n hx hb dX12_keep_49 rfl (lv_at hl 0 rfl) ?_
    refine va_get (D := (dC, dI)) (ci := 12) (v := .ref ak) (C := RX12) (T := TX12) (N := 20) hx hb hts (fun _ h => List.mem_cons_of_mem _ (List.mem_append_right _ h)) hown hK hP 0 rfl rfl 4 (by decide) (hts (.fieldLink RX12 22 "HoldsOnceDeniedModel" "kept" "[I") (by decide +kernel)) (fun _ h9 => h9) rfl dX12_keep_50 ?_
    refine lv_iload_n hx hb dX12_keep_53 rfl (lv_at hl 1 rfl) ?_
    refine lv_iload_n hx hb dX12_keep_54 rfl (lv_at hl 2 rfl) ?_
    refine ho_tope (y := nI 1) c_19 ?_
    refine ho_iast (g := nF (va_up ke y1 1)) hx hb hK hP hD hS 1 0 rfl rfl (by omega) (by first | decide | omega) (nF_up _ _ _) dX12_keep_55 (fun H locs hP hD hS => ?_)
    have hP : va_P (dC, dI) vwCl ([(y, .inr (12, [.ref as, .ref ai, .ref ar, .ref am, .ref ak, .ref ao, .ref az, .ref ae, .ref aq, .ref af, .int (bI hi), .int th, .int (nI po), .int (nI ba), .int (nI en), .ref an, .ref aw, .ref ax, .ref ap, .int se]))] ++ [(ak, .inl (cI, 8, .inl (nF (va_up ke y1 1))))] ++ [(aq, .inl (cI, 8, .inl qk))] ++ [(af, .inl (cI, 8, .inl qf))]) H := hP
    have hD : va_D A ([(y, .inr (12, [.ref as, .ref ai, .ref ar, .ref am, .ref ak, .ref ao, .ref az, .ref ae, .ref aq, .ref af, .int (bI hi), .int th, .int (nI po), .int (nI ba), .int (nI en), .ref an, .ref aw, .ref ax, .ref ap, .int se]))] ++ [(ak, .inl (cI, 8, .inl (nF (va_up ke y1 1))))] ++ [(aq, .inl (cI, 8, .inl qk))] ++ [(af, .inl (cI, 8, .inl qf))]) := hD
    refine lv_aload_n hx hb dX12_keep_56 rfl (lv_at hl 0 rfl) ?_
    refine va_get (D := (dC, dI)) (ci := 12) (v := .ref aq) (C := RX12) (T := TX12) (N := 20) hx hb hts (fun _ h => List.mem_cons_of_mem _ (List.mem_append_right _ h)) hown hK hP 0 rfl rfl 8 (by decide) (hts (.fieldLink RX12 34 "HoldsOnceDeniedModel" "keptKind" "[I") (by decide +kernel)) (fun _ h9 => h9) rfl dX12_keep_57 ?_
    refine lv_iload_n hx hb dX12_keep_60 rfl (lv_at hl 1 rfl) ?_
    refine lv_iload_n hx hb dX12_keep_61 rfl (lv_at hl 3 rfl) ?_
    refine ho_iast (g := upd qk y1 k9) hx hb hK hP hD hS 2 0 rfl rfl (by omega) (by first | decide | omega) rfl dX12_keep_62 (fun H locs hP hD hS => ?_)
    have hP : va_P (dC, dI) vwCl ([(y, .inr (12, [.ref as, .ref ai, .ref ar, .ref am, .ref ak, .ref ao, .ref az, .ref ae, .ref aq, .ref af, .int (bI hi), .int th, .int (nI po), .int (nI ba), .int (nI en), .ref an, .ref aw, .ref ax, .ref ap, .int se]))] ++ [(ak, .inl (cI, 8, .inl (nF (va_up ke y1 1))))] ++ [(aq, .inl (cI, 8, .inl (upd qk y1 k9)))] ++ [(af, .inl (cI, 8, .inl qf))]) H := hP
    have hD : va_D A ([(y, .inr (12, [.ref as, .ref ai, .ref ar, .ref am, .ref ak, .ref ao, .ref az, .ref ae, .ref aq, .ref af, .int (bI hi), .int th, .int (nI po), .int (nI ba), .int (nI en), .ref an, .ref aw, .ref ax, .ref ap, .int se]))] ++ [(ak, .inl (cI, 8, .inl (nF (va_up ke y1 1))))] ++ [(aq, .inl (cI, 8, .inl (upd qk y1 k9)))] ++ [(af, .inl (cI, 8, .inl qf))]) := hD
    refine lv_aload_n hx hb dX12_keep_63 rfl (lv_at hl 0 rfl) ?_
    refine va_get (D := (dC, dI)) (ci := 12) (v := .ref af) (C := RX12) (T := TX12) (N := 20) hx hb hts (fun _ h => List.mem_cons_of_mem _ (List.mem_append_right _ h)) hown hK hP 0 rfl rfl 9 (by decide) (hts (.fieldLink RX12 37 "HoldsOnceDeniedModel" "keptFigure" "[I") (by decide +kernel)) (fun _ h9 => h9) rfl dX12_keep_64 ?_
    refine lv_iload_n hx hb dX12_keep_67 rfl (lv_at hl 1 rfl) ?_
    refine lv_iload hx hb dX12_keep_68 (lv_at hl 4 rfl) ?_
    refine ho_iast (g := upd qf y1 f9) hx hb hK hP hD hS 3 0 rfl rfl (by omega) (by first | decide | omega) rfl dX12_keep_70 (fun H locs hP hD hS => ?_)
    have hP : va_P (dC, dI) vwCl ([(y, .inr (12, [.ref as, .ref ai, .ref ar, .ref am, .ref ak, .ref ao, .ref az, .ref ae, .ref aq, .ref af, .int (bI hi), .int th, .int (nI po), .int (nI ba), .int (nI en), .ref an, .ref aw, .ref ax, .ref ap, .int se]))] ++ [(ak, .inl (cI, 8, .inl (nF (va_up ke y1 1))))] ++ [(aq, .inl (cI, 8, .inl (upd qk y1 k9)))] ++ [(af, .inl (cI, 8, .inl (upd qf y1 f9)))]) H := hP
    have hD : va_D A ([(y, .inr (12, [.ref as, .ref ai, .ref ar, .ref am, .ref ak, .ref ao, .ref az, .ref ae, .ref aq, .ref af, .int (bI hi), .int th, .int (nI po), .int (nI ba), .int (nI en), .ref an, .ref aw, .ref ax, .ref ap, .int se]))] ++ [(ak, .inl (cI, 8, .inl (nF (va_up ke y1 1))))] ++ [(aq, .inl (cI, 8, .inl (upd qk y1 k9)))] ++ [(af, .inl (cI, 8, .inl (upd qf y1 f9)))]) := hD
    refine lv_iconst (v := nI 0) hx hb dX12_keep_71 (by decide +kernel) ?_
    have hW9 : ([(y, .inr (12, [.ref as, .ref ai, .ref ar, .ref am, .ref ak, .ref ao, .ref az, .ref ae, .ref aq, .ref af, .int (bI hi), .int th, .int (nI po), .int (nI ba), .int (nI en), .ref an, .ref aw, .ref ax, .ref ap, .int se]))] ++ [(ak, .inl (cI, 8, .inl (nF (va_up ke y1 1))))] ++ [(aq, .inl (cI, 8, .inl (upd qk y1 k9)))] ++ [(af, .inl (cI, 8, .inl (upd qf y1 f9)))] : va_W) = [(y, .inr (12, [.ref as, .ref ai, .ref ar, .ref am, .ref ak, .ref ao, .ref az, .ref ae, .ref aq, .ref af, .int (bI hi), .int th, .int (nI po), .int (nI ba), .int (nI en), .ref an, .ref aw, .ref ax, .ref ap, .int se]))] ++ [(ak, .inl (cI, 8, .inl (nF (bif okI (nI y1) 8 && (okI w 2 && (decide (w = 0) || (okI k9 8 && okI f9 10))) then va_up ke (nT (nI y1)) (nT w) else ke))))] ++ [(aq, .inl (cI, 8, .inl (bif okI (nI y1) 8 && (okI w 2 && (decide (w = 0) || (okI k9 8 && okI f9 10))) then upd qk (nT (nI y1)) k9 else qk)))] ++ [(af, .inl (cI, 8, .inl (bif okI (nI y1) 8 && (okI w 2 && (decide (w = 0) || (okI k9 8 && okI f9 10))) then upd qf (nT (nI y1)) f9 else qf)))] := by rw [show (okI (nI y1) 8 && (okI w 2 && (decide (w = 0) || (okI k9 8 && okI f9 10)))) = true from by rw [okI_nI (by omega) (by decide), decide_eq_true h_y1, w14, decide_eq_false (fun q => w10 c_19 q), w31, w44]; rfl]; simp only [cond_true, cond_false, nT_nI (show y1 < 2 ^ 31 by omega), nT_1 c_19]
    rw [hW9] at hP hD
    exact W.iret (v := nI 0) hx hb hr (fun T9 hT9 hW9 => ⟨⟨_, (), rfl, (by rw [show (okI (nI y1) 8 && (okI w 2 && (decide (w = 0) || (okI k9 8 && okI f9 10)))) = true from by rw [okI_nI (by omega) (by decide), decide_eq_true h_y1, w14, decide_eq_false (fun q => w10 c_19 q), w31, w44]; rfl]; rfl), by rw [hT9]; exact hP, hD⟩, hS.F hT9⟩) hS.2.2 dX12_keep_72
  have w44 : okI f9 10 = false := (inB_k f9 (k := 9) (by decide)).symm.trans c_44
  refine lv_iconst (v := (-1)) hx hb dX12_keep_47 (by decide +kernel) ?_
  have hW9 : ([(y, .inr (12, [.ref as, .ref ai, .ref ar, .ref am, .ref ak, .ref ao, .ref az, .ref ae, .ref aq, .ref af, .int (bI hi), .int th, .int (nI po), .int (nI ba), .int (nI en), .ref an, .ref aw, .ref ax, .ref ap, .int se]))] ++ [(ak, .inl (cI, 8, .inl (nF ke)))] ++ [(aq, .inl (cI, 8, .inl qk))] ++ [(af, .inl (cI, 8, .inl qf))] : va_W) = [(y, .inr (12, [.ref as, .ref ai, .ref ar, .ref am, .ref ak, .ref ao, .ref az, .ref ae, .ref aq, .ref af, .int (bI hi), .int th, .int (nI po), .int (nI ba), .int (nI en), .ref an, .ref aw, .ref ax, .ref ap, .int se]))] ++ [(ak, .inl (cI, 8, .inl (nF (bif okI (nI y1) 8 && (okI w 2 && (decide (w = 0) || (okI k9 8 && okI f9 10))) then va_up ke (nT (nI y1)) (nT w) else ke))))] ++ [(aq, .inl (cI, 8, .inl (bif okI (nI y1) 8 && (okI w 2 && (decide (w = 0) || (okI k9 8 && okI f9 10))) then upd qk (nT (nI y1)) k9 else qk)))] ++ [(af, .inl (cI, 8, .inl (bif okI (nI y1) 8 && (okI w 2 && (decide (w = 0) || (okI k9 8 && okI f9 10))) then upd qf (nT (nI y1)) f9 else qf)))] := by rw [show (okI (nI y1) 8 && (okI w 2 && (decide (w = 0) || (okI k9 8 && okI f9 10)))) = false from by rw [okI_nI (by omega) (by decide), decide_eq_true h_y1, w14, decide_eq_false (fun q => w10 c_19 q), w31, w44]; rfl]; simp only [cond_true, cond_false, nT_nI (show y1 < 2 ^ 31 by omega), nT_1 c_19]
  rw [hW9] at hP hD
  exact W.iret (v := (-1)) hx hb hr (fun T9 hT9 hW9 => ⟨⟨_, (), rfl, (by rw [show (okI (nI y1) 8 && (okI w 2 && (decide (w = 0) || (okI k9 8 && okI f9 10)))) = false from by rw [okI_nI (by omega) (by decide), decide_eq_true h_y1, w14, decide_eq_false (fun q => w10 c_19 q), w31, w44]; rfl]; rfl), by rw [hT9]; exact hP, hD⟩, hS.F hT9⟩) hS.2.2 dX12_keep_48
set_option maxHeartbeats 4000000 in
set_option maxRecDepth 100000 in
theorem c_X12_row (l : Launch) (dC : Nat → ClassId) (dI : Nat → Nat → Nat) (cI cD cR : ClassId) (y as ai ar am ak ao az ae aq af : Nat) (hi : Bool) (th : Int32) (po ba en an aw ax ap : Nat) (se : Int32) (ke : Nat → Nat) (so : Nat → Nat) (zz : Nat → Nat) (el : Nat → Int32) (x9 o9 z9 : Int32) (sz : Nat)  : Met l yX12_row wsX12_row ({ frames := 2, cells := 0, slots := 0, locals := 45 }) (pcR dC dI cI cD cR [.ref y, .int x9, .int o9, .int z9] (fun H => H.size = sz ∧ va_P (dC, dI) vwCl ([(y, .inr (12, [.ref as, .ref ai, .ref ar, .ref am, .ref ak, .ref ao, .ref az, .ref ae, .ref aq, .ref af, .int (bI hi), .int th, .int (nI po), .int (nI ba), .int (nI en), .ref an, .ref aw, .ref ax, .ref ap, .int se]))] ++ [(ak, .inl (cI, 8, .inl (nF ke)))] ++ [(ao, .inl (cI, 8, .inl (nF so)))] ++ [(az, .inl (cI, 8, .inl (nF zz)))] ++ [(ae, .inl (cI, 800, .inl el))]) H ∧ va_D (fun _ => True) ([(y, .inr (12, [.ref as, .ref ai, .ref ar, .ref am, .ref ak, .ref ao, .ref az, .ref ae, .ref aq, .ref af, .int (bI hi), .int th, .int (nI po), .int (nI ba), .int (nI en), .ref an, .ref aw, .ref ax, .ref ap, .int se]))] ++ [(ak, .inl (cI, 8, .inl (nF ke)))] ++ [(ao, .inl (cI, 8, .inl (nF so)))] ++ [(az, .inl (cI, 8, .inl (nF zz)))] ++ [(ae, .inl (cI, 800, .inl el))]))) (va_Qi (fun r (_ : Unit) => r = (bif okI x9 8 && (okI o9 3 && !decide (nI 100 < z9)) then (if z9 < 0 then -14 else 0) else -1)) (fun (_ : Unit) T9 => va_P (dC, dI) vwCl ([(y, .inr (12, [.ref as, .ref ai, .ref ar, .ref am, .ref ak, .ref ao, .ref az, .ref ae, .ref aq, .ref af, .int (bI hi), .int th, .int (nI po), .int (nI ba), .int (nI en), .ref an, .ref aw, .ref ax, .ref ap, .int se]))] ++ [(ak, .inl (cI, 8, .inl (nF (bif (okI x9 8 && (okI o9 3 && !decide (nI 100 < z9))) && !decide (z9 < 0) then va_up ke (nT x9) 2 else ke))))] ++ [(ao, .inl (cI, 8, .inl (nF (bif (okI x9 8 && (okI o9 3 && !decide (nI 100 < z9))) && !decide (z9 < 0) then va_up so (nT x9) (nT o9) else so))))] ++ [(az, .inl (cI, 8, .inl (nF (bif (okI x9 8 && (okI o9 3 && !decide (nI 100 < z9))) && !decide (z9 < 0) then va_up zz (nT x9) (nT z9) else zz))))] ++ [(ae, .inl (cI, 800, .inl (bif (okI x9 8 && (okI o9 3 && !decide (nI 100 < z9))) && !decide (z9 < 0) then czE el (nT x9) 100 else el)))]) T9.heap ∧ va_D (va_A ([(y, .inr (12, [.ref as, .ref ai, .ref ar, .ref am, .ref ak, .ref ao, .ref az, .ref ae, .ref aq, .ref af, .int (bI hi), .int th, .int (nI po), .int (nI ba), .int (nI en), .ref an, .ref aw, .ref ax, .ref ap, .int se]))] ++ [(ak, .inl (cI, 8, .inl (nF ke)))] ++ [(ao, .inl (cI, 8, .inl (nF so)))] ++ [(az, .inl (cI, 8, .inl (nF zz)))] ++ [(ae, .inl (cI, 800, .inl el))]) sz) ([(y, .inr (12, [.ref as, .ref ai, .ref ar, .ref am, .ref ak, .ref ao, .ref az, .ref ae, .ref aq, .ref af, .int (bI hi), .int th, .int (nI po), .int (nI ba), .int (nI en), .ref an, .ref aw, .ref ax, .ref ap, .int se]))] ++ [(ak, .inl (cI, 8, .inl (nF (bif (okI x9 8 && (okI o9 3 && !decide (nI 100 < z9))) && !decide (z9 < 0) then va_up ke (nT x9) 2 else ke))))] ++ [(ao, .inl (cI, 8, .inl (nF (bif (okI x9 8 && (okI o9 3 && !decide (nI 100 < z9))) && !decide (z9 < 0) then va_up so (nT x9) (nT o9) else so))))] ++ [(az, .inl (cI, 8, .inl (nF (bif (okI x9 8 && (okI o9 3 && !decide (nI 100 < z9))) && !decide (z9 < 0) then va_up zz (nT x9) (nT z9) else zz))))] ++ [(ae, .inl (cI, 800, .inl (bif (okI x9 8 && (okI o9 3 && !decide (nI 100 < z9))) && !decide (z9 < 0) then czE el (nT x9) 100 else el)))])) (va_A ([(y, .inr (12, [.ref as, .ref ai, .ref ar, .ref am, .ref ak, .ref ao, .ref az, .ref ae, .ref aq, .ref af, .int (bI hi), .int th, .int (nI po), .int (nI ba), .int (nI en), .ref an, .ref aw, .ref ax, .ref ap, .int se]))] ++ [(ak, .inl (cI, 8, .inl (nF ke)))] ++ [(ao, .inl (cI, 8, .inl (nF so)))] ++ [(az, .inl (cI, 8, .inl (nF zz)))] ++ [(ae, .inl (cI, 800, .inl el))]) sz)) 0 0 (va_A ([(y, .inr (12, [.ref as, .ref ai, .ref ar, .ref am, .ref ak, .ref ao, .ref az, .ref ae, .ref aq, .ref af, .int (bI hi), .int th, .int (nI po), .int (nI ba), .int (nI en), .ref an, .ref aw, .ref ax, .ref ap, .int se]))] ++ [(ak, .inl (cI, 8, .inl (nF ke)))] ++ [(ao, .inl (cI, 8, .inl (nF so)))] ++ [(az, .inl (cI, 8, .inl (nF zz)))] ++ [(ae, .inl (cI, 800, .inl el))]) sz) := by
  refine Met.ofW (cc := cX12_row) (maxL := 5) (ret := (some .int)) (by decide) rfl ?_
  intro p e s m args below meth c s₁ B hml hv
  obtain ⟨rfl, hH0, hCX⟩ := hv
  have hx := B.exec
  have hb := B.bytes
  have hr := B.returns
  have hts := atoms_spec (ws := wsX12_row) B.pre
  have hown : s.vm.findClass RX12 = some m.cls := findClass_of_methodNamed B.named
  have hlocks := B.notSynchronized
  have hK := hCX.1
  obtain ⟨hsz, hP, hD0⟩ := hH0
  subst hsz
  have hD := hD0.self (sz := s.heap.size)
  generalize hAe : va_A ([(y, .inr (12, [.ref as, .ref ai, .ref ar, .ref am, .ref ak, .ref ao, .ref az, .ref ae, .ref aq, .ref af, .int (bI hi), .int th, .int (nI po), .int (nI ba), .int (nI en), .ref an, .ref aw, .ref ax, .ref ap, .int se]))] ++ [(ak, .inl (cI, 8, .inl (nF ke)))] ++ [(ao, .inl (cI, 8, .inl (nF so)))] ++ [(az, .inl (cI, 8, .inl (nF zz)))] ++ [(ae, .inl (cI, 800, .inl el))]) s.heap.size = A at hD ⊢
  have hA : ∀ q : Nat, s.heap.size ≤ q → A q := fun q h => by rw [← hAe]; exact Or.inr h
  have hS : va_S A s.heap s.heap [] := va_S.rf
  have hP : va_P (dC, dI) vwCl ([(y, .inr (12, [.ref as, .ref ai, .ref ar, .ref am, .ref ak, .ref ao, .ref az, .ref ae, .ref aq, .ref af, .int (bI hi), .int th, .int (nI po), .int (nI ba), .int (nI en), .ref an, .ref aw, .ref ax, .ref ap, .int se]))] ++ [(ak, .inl (cI, 8, .inl (nF ke)))] ++ [(ao, .inl (cI, 8, .inl (nF so)))] ++ [(az, .inl (cI, 8, .inl (nF zz)))] ++ [(ae, .inl (cI, 800, .inl el))]) s.heap := hP
  have hl := lv_entry ([.ref y, .int x9, .int o9, .int z9]) (n := 5) (Nat.le_of_ble_eq_true rfl)
  rw [lg_entry_eq]
  generalize (lg_sl ([.ref y, .int x9, .int o9, .int z9]) ++ List.replicate (5 - (lg_sl ([.ref y, .int x9, .int o9, .int z9])).length) Slot.unset).toArray = ls at hl ⊢
  have hl : lv_has ls 5 [(0, .ref y), (1, .int x9), (2, .int o9), (3, .int z9)] := hl
  rcases okI_or x9 (n := 8) (by omega) with hb_x9 | ⟨y1, h_y1, rfl⟩
  · refine lv_iload_n hx hb dX12_row_0 rfl (lv_at hl 1 rfl) ?_
    refine vp_callSi ((va_runS (As := [.int x9]) (rest := []) ⟨hx, hb, hml, hown, hts⟩ (c_X12_isShelf_f l dC dI cI cD cR x9 (by first | omega | assumption | exact gnd _ | exact gkn _ | exact Nat.lt_trans (gkn _) (by decide) | exact Nat.lt_trans (gnd _) (by decide) | exact Nat.lt_of_le_of_lt (pcN_le _) (by decide))) (va_cwS 1 hts gX12_row_X12_isShelf rfl rfl rfl (by decide +kernel) ⟨Nat.le_of_ble_eq_true rfl, Nat.le_of_ble_eq_true rfl⟩) (preS_R hCX (trivial)) rfl rfl hl.1 rfl (lv_room (Nat.le_of_ble_eq_true rfl)) dX12_row_1 ⟨Nat.le_of_ble_eq_true (by first | rfl | decide), Nat.le_of_ble_eq_true (by first | rfl | decide)⟩).run) (fun r_1 hr_1 => ?_)
    subst hr_1
    refine lv_if_eq (tgt := 25) hx hb dX12_row_4 (by decide) (fun _ => ?_) (fun z => absurd z (by decide +kernel))
    refine lv_iconst (v := (-1)) hx hb dX12_row_25 (by decide +kernel) ?_
    have hW9 : ([(y, .inr (12, [.ref as, .ref ai, .ref ar, .ref am, .ref ak, .ref ao, .ref az, .ref ae, .ref aq, .ref af, .int (bI hi), .int th, .int (nI po), .int (nI ba), .int (nI en), .ref an, .ref aw, .ref ax, .ref ap, .int se]))] ++ [(ak, .inl (cI, 8, .inl (nF ke)))] ++ [(ao, .inl (cI, 8, .inl (nF so)))] ++ [(az, .inl (cI, 8, .inl (nF zz)))] ++ [(ae, .inl (cI, 800, .inl el))] : va_W) = [(y, .inr (12, [.ref as, .ref ai, .ref ar, .ref am, .ref ak, .ref ao, .ref az, .ref ae, .ref aq, .ref af, .int (bI hi), .int th, .int (nI po), .int (nI ba), .int (nI en), .ref an, .ref aw, .ref ax, .ref ap, .int se]))] ++ [(ak, .inl (cI, 8, .inl (nF (bif (okI x9 8 && (okI o9 3 && !decide (nI 100 < z9))) && !decide (z9 < 0) then va_up ke (nT x9) 2 else ke))))] ++ [(ao, .inl (cI, 8, .inl (nF (bif (okI x9 8 && (okI o9 3 && !decide (nI 100 < z9))) && !decide (z9 < 0) then va_up so (nT x9) (nT o9) else so))))] ++ [(az, .inl (cI, 8, .inl (nF (bif (okI x9 8 && (okI o9 3 && !decide (nI 100 < z9))) && !decide (z9 < 0) then va_up zz (nT x9) (nT z9) else zz))))] ++ [(ae, .inl (cI, 800, .inl (bif (okI x9 8 && (okI o9 3 && !decide (nI 100 < z9))) && !decide (z9 < 0) then czE el (nT x9) 100 else el)))] := by rw [hb_x9]; rfl
    rw [hW9] at hP hD
    exact W.iret (v := (-1)) hx hb hr (fun T9 hT9 hW9 => ⟨⟨_, (), rfl, (by rw [hb_x9]; rfl), by rw [hT9]; exact hP, hD⟩, hS.F hT9⟩) hS.2.2 dX12_row_26
  refine lv_iload_n hx hb dX12_row_0 rfl (lv_at hl 1 rfl) ?_
  refine vp_callSi ((va_runS (As := [.int (nI y1)]) (rest := []) ⟨hx, hb, hml, hown, hts⟩ (c_X12_isShelf_t l dC dI cI cD cR y1 (by first | omega | assumption | exact gnd _ | exact gkn _ | exact Nat.lt_trans (gkn _) (by decide) | exact Nat.lt_trans (gnd _) (by decide) | exact Nat.lt_of_le_of_lt (pcN_le _) (by decide))) (va_cwS 1 hts gX12_row_X12_isShelf rfl rfl rfl (by decide +kernel) ⟨Nat.le_of_ble_eq_true rfl, Nat.le_of_ble_eq_true rfl⟩) (preS_R hCX (trivial)) rfl rfl hl.1 rfl (lv_room (Nat.le_of_ble_eq_true rfl)) dX12_row_1 ⟨Nat.le_of_ble_eq_true (by first | rfl | decide), Nat.le_of_ble_eq_true (by first | rfl | decide)⟩).run) (fun r_1 hr_1 => ?_)
  subst hr_1
  refine lv_if_eq (tgt := 25) hx hb dX12_row_4 (by decide) (fun z => absurd z (by decide +kernel)) (fun _ => ?_)
  refine lv_iload_n hx hb dX12_row_7 rfl (lv_at hl 2 rfl) ?_
  refine lv_i2l (v := (o9).toInt64) hx hb dX12_row_8 rfl ?_
  refine lv_lconst (v := lN 0) hx hb dX12_row_9 (by decide +kernel) ?_
  refine lv_ldc2 (v := 2) hx hb hown (hts (.constantLong RX12 233 (2)) (by decide +kernel)) dX12_row_10 ?_
  refine vp_callSi ((va_runS (As := [.long ((o9).toInt64), .long (lN 0), .long (2 : Int64)]) (rest := []) ⟨hx, hb, hml, hown, hts⟩ (c_X12_isIn l dC dI cI cD cR ((o9).toInt64) (lN 0) (2 : Int64)) (va_cwS 3 hts gX12_row_X12_isIn rfl rfl rfl (by decide +kernel) ⟨Nat.le_of_ble_eq_true rfl, Nat.le_of_ble_eq_true rfl⟩) (preS_R hCX (trivial)) rfl rfl hl.1 rfl (lv_room (Nat.le_of_ble_eq_true rfl)) dX12_row_13 ⟨Nat.le_of_ble_eq_true (by first | rfl | decide), Nat.le_of_ble_eq_true (by first | rfl | decide)⟩).run) (fun r_13 hr_13 => ?_)
  subst hr_13
  refine ho_beq (tgt := 25) hx hb dX12_row_16 (by decide) (fun c_16 => ?_) (fun c_16 => ?_)
  · have w16 : okI o9 3 = false := (inB_k o9 (k := 2) (by decide)).symm.trans c_16
    refine lv_iconst (v := (-1)) hx hb dX12_row_25 (by decide +kernel) ?_
    have hW9 : ([(y, .inr (12, [.ref as, .ref ai, .ref ar, .ref am, .ref ak, .ref ao, .ref az, .ref ae, .ref aq, .ref af, .int (bI hi), .int th, .int (nI po), .int (nI ba), .int (nI en), .ref an, .ref aw, .ref ax, .ref ap, .int se]))] ++ [(ak, .inl (cI, 8, .inl (nF ke)))] ++ [(ao, .inl (cI, 8, .inl (nF so)))] ++ [(az, .inl (cI, 8, .inl (nF zz)))] ++ [(ae, .inl (cI, 800, .inl el))] : va_W) = [(y, .inr (12, [.ref as, .ref ai, .ref ar, .ref am, .ref ak, .ref ao, .ref az, .ref ae, .ref aq, .ref af, .int (bI hi), .int th, .int (nI po), .int (nI ba), .int (nI en), .ref an, .ref aw, .ref ax, .ref ap, .int se]))] ++ [(ak, .inl (cI, 8, .inl (nF (bif (okI (nI y1) 8 && (okI o9 3 && !decide (nI 100 < z9))) && !decide (z9 < 0) then va_up ke (nT (nI y1)) 2 else ke))))] ++ [(ao, .inl (cI, 8, .inl (nF (bif (okI (nI y1) 8 && (okI o9 3 && !decide (nI 100 < z9))) && !decide (z9 < 0) then va_up so (nT (nI y1)) (nT o9) else so))))] ++ [(az, .inl (cI, 8, .inl (nF (bif (okI (nI y1) 8 && (okI o9 3 && !decide (nI 100 < z9))) && !decide (z9 < 0) then va_up zz (nT (nI y1)) (nT z9) else zz))))] ++ [(ae, .inl (cI, 800, .inl (bif (okI (nI y1) 8 && (okI o9 3 && !decide (nI 100 < z9))) && !decide (z9 < 0) then czE el (nT (nI y1)) 100 else el)))] := by rw [show (okI (nI y1) 8 && (okI o9 3 && !decide (nI 100 < z9))) = false from by rw [okI_nI (by omega) (by decide), decide_eq_true h_y1, w16]; rfl]; rfl
    rw [hW9] at hP hD
    exact W.iret (v := (-1)) hx hb hr (fun T9 hT9 hW9 => ⟨⟨_, (), rfl, (by rw [show (okI (nI y1) 8 && (okI o9 3 && !decide (nI 100 < z9))) = false from by rw [okI_nI (by omega) (by decide), decide_eq_true h_y1, w16]; rfl]; rfl), by rw [hT9]; exact hP, hD⟩, hS.F hT9⟩) hS.2.2 dX12_row_26
  have w16 : okI o9 3 = true := (inB_k o9 (k := 2) (by decide)).symm.trans c_16
  refine lv_iload_n hx hb dX12_row_19 rfl (lv_at hl 3 rfl) ?_
  refine lv_bipush (v := nI 100) hx hb dX12_row_20 (by decide +kernel) ?_
  refine lv_icmp_le (tgt := 27) hx hb dX12_row_22 (by decide) (fun c_22 => ?_) (fun c_22 => ?_)
  · refine lv_iload_n hx hb dX12_row_27 rfl (lv_at hl 3 rfl) ?_
    refine lv_if_ge (tgt := 34) hx hb dX12_row_28 (by decide) (fun c_28 => ?_) (fun c_28 => ?_)
    · obtain ⟨z1, hz1, rfl⟩ := le100 c_28 c_22
      obtain ⟨o1, ho1, rfl⟩ := okI_ex (by decide) w16
      refine lv_aload_n hx hb dX12_row_34 rfl (lv_at hl 0 rfl) ?_
      refine va_get (D := (dC, dI)) (ci := 12) (v := .ref ak) (C := RX12) (T := TX12) (N := 20) hx hb hts (fun _ h => List.mem_cons_of_mem _ (List.mem_append_right _ h)) hown hK hP 0 rfl rfl 4 (by decide) (hts (.fieldLink RX12 22 "HoldsOnceDeniedModel" "kept" "[I") (by decide +kernel)) (fun _ h9 => h9) rfl dX12_row_35 ?_
      refine lv_iload_n hx hb dX12_row_38 rfl (lv_at hl 1 rfl) ?_
      refine lv_iconst (v := nI 2) hx hb dX12_row_39 (by decide +kernel) ?_
      refine ho_iast (g := nF (va_up ke y1 2)) hx hb hK hP hD hS 1 0 rfl rfl (by omega) (by first | decide | omega) (nF_up _ _ _) dX12_row_40 (fun H locs hP hD hS => ?_)
      have hP : va_P (dC, dI) vwCl ([(y, .inr (12, [.ref as, .ref ai, .ref ar, .ref am, .ref ak, .ref ao, .ref az, .ref ae, .ref aq, .ref af, .int (bI hi), .int th, .int (nI po), .int (nI ba), .int (nI en), .ref an, .ref aw, .ref ax, .ref ap, .int se]))] ++ [(ak, .inl (cI, 8, .inl (nF (va_up ke y1 2))))] ++ [(ao, .inl (cI, 8, .inl (nF so)))] ++ [(az, .inl (cI, 8, .inl (nF zz)))] ++ [(ae, .inl (cI, 800, .inl el))]) H := hP
      have hD : va_D A ([(y, .inr (12, [.ref as, .ref ai, .ref ar, .ref am, .ref ak, .ref ao, .ref az, .ref ae, .ref aq, .ref af, .int (bI hi), .int th, .int (nI po), .int (nI ba), .int (nI en), .ref an, .ref aw, .ref ax, .ref ap, .int se]))] ++ [(ak, .inl (cI, 8, .inl (nF (va_up ke y1 2))))] ++ [(ao, .inl (cI, 8, .inl (nF so)))] ++ [(az, .inl (cI, 8, .inl (nF zz)))] ++ [(ae, .inl (cI, 800, .inl el))]) := hD
      refine lv_aload_n hx hb dX12_row_41 rfl (lv_at hl 0 rfl) ?_
      refine va_get (D := (dC, dI)) (ci := 12) (v := .ref ao) (C := RX12) (T := TX12) (N := 20) hx hb hts (fun _ h => List.mem_cons_of_mem _ (List.mem_append_right _ h)) hown hK hP 0 rfl rfl 5 (by decide) (hts (.fieldLink RX12 25 "HoldsOnceDeniedModel" "sort" "[I") (by decide +kernel)) (fun _ h9 => h9) rfl dX12_row_42 ?_
      refine lv_iload_n hx hb dX12_row_45 rfl (lv_at hl 1 rfl) ?_
      refine lv_iload_n hx hb dX12_row_46 rfl (lv_at hl 2 rfl) ?_
      refine ho_iast (g := nF (va_up so y1 o1)) hx hb hK hP hD hS 2 0 rfl rfl (by omega) (by first | decide | omega) (nF_up _ _ _) dX12_row_47 (fun H locs hP hD hS => ?_)
      have hP : va_P (dC, dI) vwCl ([(y, .inr (12, [.ref as, .ref ai, .ref ar, .ref am, .ref ak, .ref ao, .ref az, .ref ae, .ref aq, .ref af, .int (bI hi), .int th, .int (nI po), .int (nI ba), .int (nI en), .ref an, .ref aw, .ref ax, .ref ap, .int se]))] ++ [(ak, .inl (cI, 8, .inl (nF (va_up ke y1 2))))] ++ [(ao, .inl (cI, 8, .inl (nF (va_up so y1 o1))))] ++ [(az, .inl (cI, 8, .inl (nF zz)))] ++ [(ae, .inl (cI, 800, .inl el))]) H := hP
      have hD : va_D A ([(y, .inr (12, [.ref as, .ref ai, .ref ar, .ref am, .ref ak, .ref ao, .ref az, .ref ae, .ref aq, .ref af, .int (bI hi), .int th, .int (nI po), .int (nI ba), .int (nI en), .ref an, .ref aw, .ref ax, .ref ap, .int se]))] ++ [(ak, .inl (cI, 8, .inl (nF (va_up ke y1 2))))] ++ [(ao, .inl (cI, 8, .inl (nF (va_up so y1 o1))))] ++ [(az, .inl (cI, 8, .inl (nF zz)))] ++ [(ae, .inl (cI, 800, .inl el))]) := hD
      refine lv_aload_n hx hb dX12_row_48 rfl (lv_at hl 0 rfl) ?_
      refine va_get (D := (dC, dI)) (ci := 12) (v := .ref az) (C := RX12) (T := TX12) (N := 20) hx hb hts (fun _ h => List.mem_cons_of_mem _ (List.mem_append_right _ h)) hown hK hP 0 rfl rfl 6 (by decide) (hts (.fieldLink RX12 28 "HoldsOnceDeniedModel" "size" "[I") (by decide +kernel)) (fun _ h9 => h9) rfl dX12_row_49 ?_
      refine lv_iload_n hx hb dX12_row_52 rfl (lv_at hl 1 rfl) ?_
      refine lv_iload_n hx hb dX12_row_53 rfl (lv_at hl 3 rfl) ?_
      refine ho_iast (g := nF (va_up zz y1 z1)) hx hb hK hP hD hS 3 0 rfl rfl (by omega) (by first | decide | omega) (nF_up _ _ _) dX12_row_54 (fun H locs hP hD hS => ?_)
      have hP : va_P (dC, dI) vwCl ([(y, .inr (12, [.ref as, .ref ai, .ref ar, .ref am, .ref ak, .ref ao, .ref az, .ref ae, .ref aq, .ref af, .int (bI hi), .int th, .int (nI po), .int (nI ba), .int (nI en), .ref an, .ref aw, .ref ax, .ref ap, .int se]))] ++ [(ak, .inl (cI, 8, .inl (nF (va_up ke y1 2))))] ++ [(ao, .inl (cI, 8, .inl (nF (va_up so y1 o1))))] ++ [(az, .inl (cI, 8, .inl (nF (va_up zz y1 z1))))] ++ [(ae, .inl (cI, 800, .inl el))]) H := hP
      have hD : va_D A ([(y, .inr (12, [.ref as, .ref ai, .ref ar, .ref am, .ref ak, .ref ao, .ref az, .ref ae, .ref aq, .ref af, .int (bI hi), .int th, .int (nI po), .int (nI ba), .int (nI en), .ref an, .ref aw, .ref ax, .ref ap, .int se]))] ++ [(ak, .inl (cI, 8, .inl (nF (va_up ke y1 2))))] ++ [(ao, .inl (cI, 8, .inl (nF (va_up so y1 o1))))] ++ [(az, .inl (cI, 8, .inl (nF (va_up zz y1 z1))))] ++ [(ae, .inl (cI, 800, .inl el))]) := hD
      refine lv_iconst (v := nI 0) hx hb dX12_row_55 (by decide +kernel) ?_
      refine lv_istore (lv' := [(4, .int (nI 0)), (0, .ref y), (1, .int (nI y1)), (2, .int (nI o1)), (3, .int (nI z1))]) hx hb dX12_row_56 hl (by decide) rfl (fun ls hl => ?_)
      rw [← cz_0 el y1] at hP hD
      have hP : va_P (dC, dI) vwCl ([(y, .inr (12, [.ref as, .ref ai, .ref ar, .ref am, .ref ak, .ref ao, .ref az, .ref ae, .ref aq, .ref af, .int (bI hi), .int th, .int (nI po), .int (nI ba), .int (nI en), .ref an, .ref aw, .ref ax, .ref ap, .int se]))] ++ [(ak, .inl (cI, 8, .inl (nF (va_up ke y1 2))))] ++ [(ao, .inl (cI, 8, .inl (nF (va_up so y1 o1))))] ++ [(az, .inl (cI, 8, .inl (nF (va_up zz y1 z1))))] ++ [(ae, .inl (cI, 800, .inl (czE el y1 0)))]) H := hP
      have hD : va_D A ([(y, .inr (12, [.ref as, .ref ai, .ref ar, .ref am, .ref ak, .ref ao, .ref az, .ref ae, .ref aq, .ref af, .int (bI hi), .int th, .int (nI po), .int (nI ba), .int (nI en), .ref an, .ref aw, .ref ax, .ref ap, .int se]))] ++ [(ak, .inl (cI, 8, .inl (nF (va_up ke y1 2))))] ++ [(ao, .inl (cI, 8, .inl (nF (va_up so y1 o1))))] ++ [(az, .inl (cI, 8, .inl (nF (va_up zz y1 z1))))] ++ [(ae, .inl (cI, 800, .inl (czE el y1 0)))]) := hD
      refine ho_lpW (T := Nat) 5 (fun x9 => ([(y, .inr (12, [.ref as, .ref ai, .ref ar, .ref am, .ref ak, .ref ao, .ref az, .ref ae, .ref aq, .ref af, .int (bI hi), .int th, .int (nI po), .int (nI ba), .int (nI en), .ref an, .ref aw, .ref ax, .ref ap, .int se]))] ++ [(ak, .inl (cI, 8, .inl (nF (va_up ke y1 2))))] ++ [(ao, .inl (cI, 8, .inl (nF (va_up so y1 o1))))] ++ [(az, .inl (cI, 8, .inl (nF (va_up zz y1 z1))))] ++ [(ae, .inl (cI, 800, .inl (czE el y1 x9)))] : va_W)) (fun x9 => [(4, .int (nI x9)), (0, .ref y), (1, .int (nI y1)), (2, .int (nI o1)), (3, .int (nI z1))]) (fun x9 => []) (fun x9 => (x9 ≤ 100)) (fun x9 => 100 - x9) 0 (by omega) (lv_sub hl [0, 1, 2, 3, 4] rfl) hP hD hS ?_
      intro fu58 mm H locs ls hI hm58 hP hD hS hl ih
      have hm := hI
      have hl : lv_has ls 5 [(4, .int (nI mm)), (0, .ref y), (1, .int (nI y1)), (2, .int (nI o1)), (3, .int (nI z1))] := hl
      have hm : mm ≤ 100 := hm
      have hm58 : 100 - mm < fu58 + 1 := hm58
      have hP : va_P (dC, dI) vwCl ([(y, .inr (12, [.ref as, .ref ai, .ref ar, .ref am, .ref ak, .ref ao, .ref az, .ref ae, .ref aq, .ref af, .int (bI hi), .int th, .int (nI po), .int (nI ba), .int (nI en), .ref an, .ref aw, .ref ax, .ref ap, .int se]))] ++ [(ak, .inl (cI, 8, .inl (nF (va_up ke y1 2))))] ++ [(ao, .inl (cI, 8, .inl (nF (va_up so y1 o1))))] ++ [(az, .inl (cI, 8, .inl (nF (va_up zz y1 z1))))] ++ [(ae, .inl (cI, 800, .inl (czE el y1 mm)))]) H := hP
      have hD : va_D A ([(y, .inr (12, [.ref as, .ref ai, .ref ar, .ref am, .ref ak, .ref ao, .ref az, .ref ae, .ref aq, .ref af, .int (bI hi), .int th, .int (nI po), .int (nI ba), .int (nI en), .ref an, .ref aw, .ref ax, .ref ap, .int se]))] ++ [(ak, .inl (cI, 8, .inl (nF (va_up ke y1 2))))] ++ [(ao, .inl (cI, 8, .inl (nF (va_up so y1 o1))))] ++ [(az, .inl (cI, 8, .inl (nF (va_up zz y1 z1))))] ++ [(ae, .inl (cI, 800, .inl (czE el y1 mm)))]) := hD
      refine W.eq (g2 := F0 m 58 ls []) rfl ?_
      have ih58 := ih
      refine lv_iload hx hb dX12_row_58 (lv_at hl 0 rfl) ?_
      refine lv_bipush (v := nI 100) hx hb dX12_row_60 (by decide +kernel) ?_
      refine ho_icmp_ge (tgt := 84) hx hb dX12_row_62 (by decide) (by omega) (by omega) (fun c_62 => ?_) (fun c_62 => ?_)
      · refine lv_iconst (v := nI 0) hx hb dX12_row_84 (by decide +kernel) ?_
        have hW9 : ([(y, .inr (12, [.ref as, .ref ai, .ref ar, .ref am, .ref ak, .ref ao, .ref az, .ref ae, .ref aq, .ref af, .int (bI hi), .int th, .int (nI po), .int (nI ba), .int (nI en), .ref an, .ref aw, .ref ax, .ref ap, .int se]))] ++ [(ak, .inl (cI, 8, .inl (nF (va_up ke y1 2))))] ++ [(ao, .inl (cI, 8, .inl (nF (va_up so y1 o1))))] ++ [(az, .inl (cI, 8, .inl (nF (va_up zz y1 z1))))] ++ [(ae, .inl (cI, 800, .inl (czE el y1 mm)))] : va_W) = [(y, .inr (12, [.ref as, .ref ai, .ref ar, .ref am, .ref ak, .ref ao, .ref az, .ref ae, .ref aq, .ref af, .int (bI hi), .int th, .int (nI po), .int (nI ba), .int (nI en), .ref an, .ref aw, .ref ax, .ref ap, .int se]))] ++ [(ak, .inl (cI, 8, .inl (nF (bif (okI (nI y1) 8 && (okI (nI o1) 3 && !decide (nI 100 < (nI z1)))) && !decide ((nI z1) < 0) then va_up ke (nT (nI y1)) 2 else ke))))] ++ [(ao, .inl (cI, 8, .inl (nF (bif (okI (nI y1) 8 && (okI (nI o1) 3 && !decide (nI 100 < (nI z1)))) && !decide ((nI z1) < 0) then va_up so (nT (nI y1)) (nT (nI o1)) else so))))] ++ [(az, .inl (cI, 8, .inl (nF (bif (okI (nI y1) 8 && (okI (nI o1) 3 && !decide (nI 100 < (nI z1)))) && !decide ((nI z1) < 0) then va_up zz (nT (nI y1)) (nT (nI z1)) else zz))))] ++ [(ae, .inl (cI, 800, .inl (bif (okI (nI y1) 8 && (okI (nI o1) 3 && !decide (nI 100 < (nI z1)))) && !decide ((nI z1) < 0) then czE el (nT (nI y1)) 100 else el)))] := by rw [show (okI (nI y1) 8 && (okI (nI o1) 3 && !decide (nI 100 < (nI z1)))) = true from by rw [okI_nI (by omega) (by decide), decide_eq_true h_y1, w16, decide_eq_false (Int32.not_lt.mpr c_22)]; rfl, decide_eq_false (show ¬ nI z1 < 0 from nI_pos (by omega))]; simp only [Bool.not_false, Bool.and_true, cond_true, nT_nI (show y1 < 2 ^ 31 by omega), nT_nI (show o1 < 2 ^ 31 by omega), nT_nI (show z1 < 2 ^ 31 by omega), show mm = 100 by omega]
        rw [hW9] at hP hD
        exact W.iret (v := nI 0) hx hb hr (fun T9 hT9 hW9 => ⟨⟨_, (), rfl, (by rw [show (okI (nI y1) 8 && (okI (nI o1) 3 && !decide (nI 100 < (nI z1)))) = true from by rw [okI_nI (by omega) (by decide), decide_eq_true h_y1, w16, decide_eq_false (Int32.not_lt.mpr c_22)]; rfl]; simp only [cond_true, if_neg (nI_pos (show z1 < 2 ^ 31 by omega))]; rfl), by rw [hT9]; exact hP, hD⟩, hS.F hT9⟩) hS.2.2 dX12_row_85
      refine lv_aload_n hx hb dX12_row_65 rfl (lv_at hl 1 rfl) ?_
      refine va_get (D := (dC, dI)) (ci := 12) (v := .ref ae) (C := RX12) (T := TX12) (N := 20) hx hb hts (fun _ h => List.mem_cons_of_mem _ (List.mem_append_right _ h)) hown hK hP 0 rfl rfl 7 (by decide) (hts (.fieldLink RX12 31 "HoldsOnceDeniedModel" "element" "[I") (by decide +kernel)) (fun _ h9 => h9) rfl dX12_row_66 ?_
      refine lv_bipush (v := nI 100) hx hb dX12_row_69 (by decide +kernel) ?_
      refine lv_iload_n hx hb dX12_row_71 rfl (lv_at hl 2 rfl) ?_
      refine ho_imul hx hb dX12_row_72 ?_
      refine lv_iload hx hb dX12_row_73 (lv_at hl 0 rfl) ?_
      refine ho_iadd hx hb dX12_row_75 ?_
      refine lv_iconst (v := nI 0) hx hb dX12_row_76 (by decide +kernel) ?_
      refine ho_iast (g := upd (czE el y1 mm) ((100 * y1) + mm) (nI 0)) hx hb hK hP hD hS 4 0 rfl rfl (by omega) (by first | decide | omega) rfl dX12_row_77 (fun H locs hP hD hS => ?_)
      have hP : va_P (dC, dI) vwCl ([(y, .inr (12, [.ref as, .ref ai, .ref ar, .ref am, .ref ak, .ref ao, .ref az, .ref ae, .ref aq, .ref af, .int (bI hi), .int th, .int (nI po), .int (nI ba), .int (nI en), .ref an, .ref aw, .ref ax, .ref ap, .int se]))] ++ [(ak, .inl (cI, 8, .inl (nF (va_up ke y1 2))))] ++ [(ao, .inl (cI, 8, .inl (nF (va_up so y1 o1))))] ++ [(az, .inl (cI, 8, .inl (nF (va_up zz y1 z1))))] ++ [(ae, .inl (cI, 800, .inl (upd (czE el y1 mm) ((100 * y1) + mm) (nI 0))))]) H := hP
      have hD : va_D A ([(y, .inr (12, [.ref as, .ref ai, .ref ar, .ref am, .ref ak, .ref ao, .ref az, .ref ae, .ref aq, .ref af, .int (bI hi), .int th, .int (nI po), .int (nI ba), .int (nI en), .ref an, .ref aw, .ref ax, .ref ap, .int se]))] ++ [(ak, .inl (cI, 8, .inl (nF (va_up ke y1 2))))] ++ [(ao, .inl (cI, 8, .inl (nF (va_up so y1 o1))))] ++ [(az, .inl (cI, 8, .inl (nF (va_up zz y1 z1))))] ++ [(ae, .inl (cI, 800, .inl (upd (czE el y1 mm) ((100 * y1) + mm) (nI 0))))]) := hD
      refine ho_iinc (lv' := [(4, .int (nI (mm + 1))), (0, .ref y), (1, .int (nI y1)), (2, .int (nI o1)), (3, .int (nI z1))]) (a := mm) (b := 1) hx hb dX12_row_78 hl (k := 0) rfl rfl (by decide) rfl (fun ls hl => ?_)
      refine lv_goto (tgt := 58) hx hb dX12_row_81 (by decide) ?_
      have hW9 : ([(y, .inr (12, [.ref as, .ref ai, .ref ar, .ref am, .ref ak, .ref ao, .ref az, .ref ae, .ref aq, .ref af, .int (bI hi), .int th, .int (nI po), .int (nI ba), .int (nI en), .ref an, .ref aw, .ref ax, .ref ap, .int se]))] ++ [(ak, .inl (cI, 8, .inl (nF (va_up ke y1 2))))] ++ [(ao, .inl (cI, 8, .inl (nF (va_up so y1 o1))))] ++ [(az, .inl (cI, 8, .inl (nF (va_up zz y1 z1))))] ++ [(ae, .inl (cI, 800, .inl (upd (czE el y1 mm) ((100 * y1) + mm) (nI 0))))] : va_W) = [(y, .inr (12, [.ref as, .ref ai, .ref ar, .ref am, .ref ak, .ref ao, .ref az, .ref ae, .ref aq, .ref af, .int (bI hi), .int th, .int (nI po), .int (nI ba), .int (nI en), .ref an, .ref aw, .ref ax, .ref ap, .int se]))] ++ [(ak, .inl (cI, 8, .inl (nF (va_up ke y1 2))))] ++ [(ao, .inl (cI, 8, .inl (nF (va_up so y1 o1))))] ++ [(az, .inl (cI, 8, .inl (nF (va_up zz y1 z1))))] ++ [(ae, .inl (cI, 800, .inl (czE el y1 (mm + 1))))] := by rw [cz_up]
      rw [hW9] at hP hD
      exact ih58 (mm + 1) _ _ _ (by omega) (show 100 - (mm + 1) < fu58 from (by omega)) hP hD hS (lv_sub hl [0, 1, 2, 3, 4] rfl)
    refine lv_bipush (v := (-14)) hx hb dX12_row_31 (by decide +kernel) ?_
    have hW9 : ([(y, .inr (12, [.ref as, .ref ai, .ref ar, .ref am, .ref ak, .ref ao, .ref az, .ref ae, .ref aq, .ref af, .int (bI hi), .int th, .int (nI po), .int (nI ba), .int (nI en), .ref an, .ref aw, .ref ax, .ref ap, .int se]))] ++ [(ak, .inl (cI, 8, .inl (nF ke)))] ++ [(ao, .inl (cI, 8, .inl (nF so)))] ++ [(az, .inl (cI, 8, .inl (nF zz)))] ++ [(ae, .inl (cI, 800, .inl el))] : va_W) = [(y, .inr (12, [.ref as, .ref ai, .ref ar, .ref am, .ref ak, .ref ao, .ref az, .ref ae, .ref aq, .ref af, .int (bI hi), .int th, .int (nI po), .int (nI ba), .int (nI en), .ref an, .ref aw, .ref ax, .ref ap, .int se]))] ++ [(ak, .inl (cI, 8, .inl (nF (bif (okI (nI y1) 8 && (okI o9 3 && !decide (nI 100 < z9))) && !decide (z9 < 0) then va_up ke (nT (nI y1)) 2 else ke))))] ++ [(ao, .inl (cI, 8, .inl (nF (bif (okI (nI y1) 8 && (okI o9 3 && !decide (nI 100 < z9))) && !decide (z9 < 0) then va_up so (nT (nI y1)) (nT o9) else so))))] ++ [(az, .inl (cI, 8, .inl (nF (bif (okI (nI y1) 8 && (okI o9 3 && !decide (nI 100 < z9))) && !decide (z9 < 0) then va_up zz (nT (nI y1)) (nT z9) else zz))))] ++ [(ae, .inl (cI, 800, .inl (bif (okI (nI y1) 8 && (okI o9 3 && !decide (nI 100 < z9))) && !decide (z9 < 0) then czE el (nT (nI y1)) 100 else el)))] := by rw [show (okI (nI y1) 8 && (okI o9 3 && !decide (nI 100 < z9))) = true from by rw [okI_nI (by omega) (by decide), decide_eq_true h_y1, w16, decide_eq_false (Int32.not_lt.mpr c_22)]; rfl, decide_eq_true (Int32.not_le.mp c_28)]; rfl
    rw [hW9] at hP hD
    exact W.iret (v := (-14)) hx hb hr (fun T9 hT9 hW9 => ⟨⟨_, (), rfl, (by rw [show (okI (nI y1) 8 && (okI o9 3 && !decide (nI 100 < z9))) = true from by rw [okI_nI (by omega) (by decide), decide_eq_true h_y1, w16, decide_eq_false (Int32.not_lt.mpr c_22)]; rfl]; simp only [cond_true, if_pos (Int32.not_le.mp c_28)]), by rw [hT9]; exact hP, hD⟩, hS.F hT9⟩) hS.2.2 dX12_row_33
  refine lv_iconst (v := (-1)) hx hb dX12_row_25 (by decide +kernel) ?_
  have hW9 : ([(y, .inr (12, [.ref as, .ref ai, .ref ar, .ref am, .ref ak, .ref ao, .ref az, .ref ae, .ref aq, .ref af, .int (bI hi), .int th, .int (nI po), .int (nI ba), .int (nI en), .ref an, .ref aw, .ref ax, .ref ap, .int se]))] ++ [(ak, .inl (cI, 8, .inl (nF ke)))] ++ [(ao, .inl (cI, 8, .inl (nF so)))] ++ [(az, .inl (cI, 8, .inl (nF zz)))] ++ [(ae, .inl (cI, 800, .inl el))] : va_W) = [(y, .inr (12, [.ref as, .ref ai, .ref ar, .ref am, .ref ak, .ref ao, .ref az, .ref ae, .ref aq, .ref af, .int (bI hi), .int th, .int (nI po), .int (nI ba), .int (nI en), .ref an, .ref aw, .ref ax, .ref ap, .int se]))] ++ [(ak, .inl (cI, 8, .inl (nF (bif (okI (nI y1) 8 && (okI o9 3 && !decide (nI 100 < z9))) && !decide (z9 < 0) then va_up ke (nT (nI y1)) 2 else ke))))] ++ [(ao, .inl (cI, 8, .inl (nF (bif (okI (nI y1) 8 && (okI o9 3 && !decide (nI 100 < z9))) && !decide (z9 < 0) then va_up so (nT (nI y1)) (nT o9) else so))))] ++ [(az, .inl (cI, 8, .inl (nF (bif (okI (nI y1) 8 && (okI o9 3 && !decide (nI 100 < z9))) && !decide (z9 < 0) then va_up zz (nT (nI y1)) (nT z9) else zz))))] ++ [(ae, .inl (cI, 800, .inl (bif (okI (nI y1) 8 && (okI o9 3 && !decide (nI 100 < z9))) && !decide (z9 < 0) then czE el (nT (nI y1)) 100 else el)))] := by rw [show (okI (nI y1) 8 && (okI o9 3 && !decide (nI 100 < z9))) = false from by rw [okI_nI (by omega) (by decide), decide_eq_true h_y1, w16, decide_eq_true (Int32.not_le.mp c_22)]; rfl]; rfl
  rw [hW9] at hP hD
  exact W.iret (v := (-1)) hx hb hr (fun T9 hT9 hW9 => ⟨⟨_, (), rfl, (by rw [show (okI (nI y1) 8 && (okI o9 3 && !decide (nI 100 < z9))) = false from by rw [okI_nI (by omega) (by decide), decide_eq_true h_y1, w16, decide_eq_true (Int32.not_le.mp c_22)]; rfl]; rfl), by rw [hT9]; exact hP, hD⟩, hS.F hT9⟩) hS.2.2 dX12_row_26
set_option maxHeartbeats 4000000 in
set_option maxRecDepth 100000 in
theorem c_X12_put_t (l : Launch) (dC : Nat → ClassId) (dI : Nat → Nat → Nat) (cI cD cR : ClassId) (y as ai ar am ak ao az ae aq af : Nat) (hi : Bool) (th : Int32) (po ba en an aw ax ap : Nat) (se : Int32) (ke : Nat → Nat) (so : Nat → Nat) (zz : Nat → Nat) (el : Nat → Int32) (y1 i9 : Nat) (v9 : Int32) (sz : Nat) (hy1 : y1 < 8) (hke : ke y1 = 2) (hi9 : i9 < zz y1) (gzz : ∀ j, zz j ≤ 100) (gso : ∀ j, so j < 3) (gke2 : ∀ j, ke j ≤ 2) : Met l yX12_put wsX12_put ({ frames := 3, cells := 0, slots := 0, locals := 67 }) (pcR dC dI cI cD cR [.ref y, .int (nI y1), .int (nI i9), .int v9] (fun H => H.size = sz ∧ va_P (dC, dI) vwCl ([(y, .inr (12, [.ref as, .ref ai, .ref ar, .ref am, .ref ak, .ref ao, .ref az, .ref ae, .ref aq, .ref af, .int (bI hi), .int th, .int (nI po), .int (nI ba), .int (nI en), .ref an, .ref aw, .ref ax, .ref ap, .int se]))] ++ [(ak, .inl (cI, 8, .inl (nF ke)))] ++ [(ao, .inl (cI, 8, .inl (nF so)))] ++ [(az, .inl (cI, 8, .inl (nF zz)))] ++ [(ae, .inl (cI, 800, .inl el))]) H ∧ va_D (fun _ => True) ([(y, .inr (12, [.ref as, .ref ai, .ref ar, .ref am, .ref ak, .ref ao, .ref az, .ref ae, .ref aq, .ref af, .int (bI hi), .int th, .int (nI po), .int (nI ba), .int (nI en), .ref an, .ref aw, .ref ax, .ref ap, .int se]))] ++ [(ak, .inl (cI, 8, .inl (nF ke)))] ++ [(ao, .inl (cI, 8, .inl (nF so)))] ++ [(az, .inl (cI, 8, .inl (nF zz)))] ++ [(ae, .inl (cI, 800, .inl el))]))) (va_Qi (fun r (_ : Unit) => r = nI 0) (fun (_ : Unit) T9 => va_P (dC, dI) vwCl ([(y, .inr (12, [.ref as, .ref ai, .ref ar, .ref am, .ref ak, .ref ao, .ref az, .ref ae, .ref aq, .ref af, .int (bI hi), .int th, .int (nI po), .int (nI ba), .int (nI en), .ref an, .ref aw, .ref ax, .ref ap, .int se]))] ++ [(ak, .inl (cI, 8, .inl (nF ke)))] ++ [(ao, .inl (cI, 8, .inl (nF so)))] ++ [(az, .inl (cI, 8, .inl (nF zz)))] ++ [(ae, .inl (cI, 800, .inl (upd el (100 * y1 + i9) (cutI (so y1) v9))))]) T9.heap ∧ va_D (va_A ([(y, .inr (12, [.ref as, .ref ai, .ref ar, .ref am, .ref ak, .ref ao, .ref az, .ref ae, .ref aq, .ref af, .int (bI hi), .int th, .int (nI po), .int (nI ba), .int (nI en), .ref an, .ref aw, .ref ax, .ref ap, .int se]))] ++ [(ak, .inl (cI, 8, .inl (nF ke)))] ++ [(ao, .inl (cI, 8, .inl (nF so)))] ++ [(az, .inl (cI, 8, .inl (nF zz)))] ++ [(ae, .inl (cI, 800, .inl el))]) sz) ([(y, .inr (12, [.ref as, .ref ai, .ref ar, .ref am, .ref ak, .ref ao, .ref az, .ref ae, .ref aq, .ref af, .int (bI hi), .int th, .int (nI po), .int (nI ba), .int (nI en), .ref an, .ref aw, .ref ax, .ref ap, .int se]))] ++ [(ak, .inl (cI, 8, .inl (nF ke)))] ++ [(ao, .inl (cI, 8, .inl (nF so)))] ++ [(az, .inl (cI, 8, .inl (nF zz)))] ++ [(ae, .inl (cI, 800, .inl (upd el (100 * y1 + i9) (cutI (so y1) v9))))])) (va_A ([(y, .inr (12, [.ref as, .ref ai, .ref ar, .ref am, .ref ak, .ref ao, .ref az, .ref ae, .ref aq, .ref af, .int (bI hi), .int th, .int (nI po), .int (nI ba), .int (nI en), .ref an, .ref aw, .ref ax, .ref ap, .int se]))] ++ [(ak, .inl (cI, 8, .inl (nF ke)))] ++ [(ao, .inl (cI, 8, .inl (nF so)))] ++ [(az, .inl (cI, 8, .inl (nF zz)))] ++ [(ae, .inl (cI, 800, .inl el))]) sz)) 0 0 (va_A ([(y, .inr (12, [.ref as, .ref ai, .ref ar, .ref am, .ref ak, .ref ao, .ref az, .ref ae, .ref aq, .ref af, .int (bI hi), .int th, .int (nI po), .int (nI ba), .int (nI en), .ref an, .ref aw, .ref ax, .ref ap, .int se]))] ++ [(ak, .inl (cI, 8, .inl (nF ke)))] ++ [(ao, .inl (cI, 8, .inl (nF so)))] ++ [(az, .inl (cI, 8, .inl (nF zz)))] ++ [(ae, .inl (cI, 800, .inl el))]) sz) := by
  refine Met.ofW (cc := cX12_put) (maxL := 5) (ret := (some .int)) (by decide) rfl ?_
  intro p e s m args below meth c s₁ B hml hv
  obtain ⟨rfl, hH0, hCX⟩ := hv
  have hx := B.exec
  have hb := B.bytes
  have hr := B.returns
  have hts := atoms_spec (ws := wsX12_put) B.pre
  have hown : s.vm.findClass RX12 = some m.cls := findClass_of_methodNamed B.named
  have hlocks := B.notSynchronized
  have hK := hCX.1
  obtain ⟨hsz, hP, hD0⟩ := hH0
  subst hsz
  have hD := hD0.self (sz := s.heap.size)
  generalize hAe : va_A ([(y, .inr (12, [.ref as, .ref ai, .ref ar, .ref am, .ref ak, .ref ao, .ref az, .ref ae, .ref aq, .ref af, .int (bI hi), .int th, .int (nI po), .int (nI ba), .int (nI en), .ref an, .ref aw, .ref ax, .ref ap, .int se]))] ++ [(ak, .inl (cI, 8, .inl (nF ke)))] ++ [(ao, .inl (cI, 8, .inl (nF so)))] ++ [(az, .inl (cI, 8, .inl (nF zz)))] ++ [(ae, .inl (cI, 800, .inl el))]) s.heap.size = A at hD ⊢
  have hA : ∀ q : Nat, s.heap.size ≤ q → A q := fun q h => by rw [← hAe]; exact Or.inr h
  have hS : va_S A s.heap s.heap [] := va_S.rf
  have hP : va_P (dC, dI) vwCl ([(y, .inr (12, [.ref as, .ref ai, .ref ar, .ref am, .ref ak, .ref ao, .ref az, .ref ae, .ref aq, .ref af, .int (bI hi), .int th, .int (nI po), .int (nI ba), .int (nI en), .ref an, .ref aw, .ref ax, .ref ap, .int se]))] ++ [(ak, .inl (cI, 8, .inl (nF ke)))] ++ [(ao, .inl (cI, 8, .inl (nF so)))] ++ [(az, .inl (cI, 8, .inl (nF zz)))] ++ [(ae, .inl (cI, 800, .inl el))]) s.heap := hP
  have hzq := gzz y1
  have hl := lv_entry ([.ref y, .int (nI y1), .int (nI i9), .int v9]) (n := 5) (Nat.le_of_ble_eq_true rfl)
  rw [lg_entry_eq]
  generalize (lg_sl ([.ref y, .int (nI y1), .int (nI i9), .int v9]) ++ List.replicate (5 - (lg_sl ([.ref y, .int (nI y1), .int (nI i9), .int v9])).length) Slot.unset).toArray = ls at hl ⊢
  have hl : lv_has ls 5 [(0, .ref y), (1, .int (nI y1)), (2, .int (nI i9)), (3, .int v9)] := hl
  refine lv_aload_n hx hb dX12_put_0 rfl (lv_at hl 0 rfl) ?_
  refine lv_iload_n hx hb dX12_put_1 rfl (lv_at hl 1 rfl) ?_
  refine lv_iconst (v := (-1)) hx hb dX12_put_2 (by decide +kernel) ?_
  refine vp_callSi ((va_runV (As := [.int (nI y1), .int (-1)]) (rest := []) ⟨hx, hb, hml, hown, hts⟩ (c_X12_wrongRow_m l dC dI cI cD cR y as ai ar am ak ao az ae aq af hi th po ba en an aw ax ap se ke so y1 (by first | omega | assumption | exact gnd _ | exact gkn _ | exact Nat.lt_trans (gkn _) (by decide) | exact Nat.lt_trans (gnd _) (by decide) | exact Nat.lt_of_le_of_lt (pcN_le _) (by decide)) gso gke2) (cwV 2 hts gX12_put_X12_wrongRow rfl rfl rfl (by decide +kernel) ⟨Nat.le_of_ble_eq_true rfl, Nat.le_of_ble_eq_true rfl⟩) (preV_R hCX (va_recv hK hP (ci := 12) (q0 := 0) rfl rfl) ((hP.sub (ws' := [(y, .inr (12, [.ref as, .ref ai, .ref ar, .ref am, .ref ak, .ref ao, .ref az, .ref ae, .ref aq, .ref af, .int (bI hi), .int th, .int (nI po), .int (nI ba), .int (nI en), .ref an, .ref aw, .ref ax, .ref ap, .int se]))] ++ [(ak, .inl (cI, 8, .inl (nF ke)))] ++ [(ao, .inl (cI, 8, .inl (nF so)))]) [0, 1, 2] rfl))) rfl rfl hl.1 rfl (lv_room (Nat.le_of_ble_eq_true rfl)) dX12_put_3 ⟨Nat.le_of_ble_eq_true (by first | rfl | decide), Nat.le_of_ble_eq_true (by first | rfl | decide)⟩).run) (fun r_3 hr_3 => ?_)
  subst hr_3
  refine lv_istore (lv' := [(4, .int (wrS ke y1)), (0, .ref y), (1, .int (nI y1)), (2, .int (nI i9)), (3, .int v9)]) hx hb dX12_put_6 hl (by decide) rfl (fun ls hl => ?_)
  refine lv_iload hx hb dX12_put_8 (lv_at hl 0 rfl) ?_
  refine lv_if_eq (tgt := 16) hx hb dX12_put_10 (by decide) (fun c_10 => ?_) (fun c_10 => ?_)
  · refine lv_iload_n hx hb dX12_put_16 rfl (lv_at hl 3 rfl) ?_
    refine lv_i2l (v := lN i9) hx hb dX12_put_17 (nI_l (by omega)) ?_
    refine lv_lconst (v := lN 0) hx hb dX12_put_18 (by decide +kernel) ?_
    refine lv_aload_n hx hb dX12_put_19 rfl (lv_at hl 1 rfl) ?_
    refine va_get (D := (dC, dI)) (ci := 12) (v := .ref az) (C := RX12) (T := TX12) (N := 20) hx hb hts (fun _ h => List.mem_cons_of_mem _ (List.mem_append_right _ h)) hown hK hP 0 rfl rfl 6 (by decide) (hts (.fieldLink RX12 28 "HoldsOnceDeniedModel" "size" "[I") (by decide +kernel)) (fun _ h9 => h9) rfl dX12_put_20 ?_
    refine lv_iload_n hx hb dX12_put_23 rfl (lv_at hl 2 rfl) ?_
    refine ho_iald (v := nI (zz y1)) hx hb hK hP 3 0 rfl rfl (by omega) (by first | decide | omega) rfl dX12_put_24 ?_
    refine lv_iconst (v := nI 1) hx hb dX12_put_25 (by decide +kernel) ?_
    refine lv_isub hx hb dX12_put_26 ?_
    refine lv_i2l (v := ((nI (zz y1) - nI 1)).toInt64) hx hb dX12_put_27 rfl ?_
    refine vp_callSi ((va_runS (As := [.long (lN i9), .long (lN 0), .long (((nI (zz y1) - nI 1)).toInt64)]) (rest := []) ⟨hx, hb, hml, hown, hts⟩ (c_X12_isIn l dC dI cI cD cR (lN i9) (lN 0) (((nI (zz y1) - nI 1)).toInt64)) (va_cwS 3 hts gX12_put_X12_isIn rfl rfl rfl (by decide +kernel) ⟨Nat.le_of_ble_eq_true rfl, Nat.le_of_ble_eq_true rfl⟩) (preS_R hCX (trivial)) rfl rfl hl.1 rfl (lv_room (Nat.le_of_ble_eq_true rfl)) dX12_put_28 ⟨Nat.le_of_ble_eq_true (by first | rfl | decide), Nat.le_of_ble_eq_true (by first | rfl | decide)⟩).run) (fun r_28 hr_28 => ?_)
    subst hr_28
    refine ho_bne (tgt := 37) hx hb dX12_put_31 (by decide) (fun c_31 => ?_) (fun c_31 => ?_)
    · refine lv_aload_n hx hb dX12_put_37 rfl (lv_at hl 1 rfl) ?_
      refine va_get (D := (dC, dI)) (ci := 12) (v := .ref ae) (C := RX12) (T := TX12) (N := 20) hx hb hts (fun _ h => List.mem_cons_of_mem _ (List.mem_append_right _ h)) hown hK hP 0 rfl rfl 7 (by decide) (hts (.fieldLink RX12 31 "HoldsOnceDeniedModel" "element" "[I") (by decide +kernel)) (fun _ h9 => h9) rfl dX12_put_38 ?_
      refine lv_bipush (v := nI 100) hx hb dX12_put_41 (by decide +kernel) ?_
      refine lv_iload_n hx hb dX12_put_43 rfl (lv_at hl 2 rfl) ?_
      refine ho_imul hx hb dX12_put_44 ?_
      refine lv_iload_n hx hb dX12_put_45 rfl (lv_at hl 3 rfl) ?_
      refine ho_iadd hx hb dX12_put_46 ?_
      refine lv_aload_n hx hb dX12_put_47 rfl (lv_at hl 1 rfl) ?_
      refine va_get (D := (dC, dI)) (ci := 12) (v := .ref ao) (C := RX12) (T := TX12) (N := 20) hx hb hts (fun _ h => List.mem_cons_of_mem _ (List.mem_append_right _ h)) hown hK hP 0 rfl rfl 5 (by decide) (hts (.fieldLink RX12 25 "HoldsOnceDeniedModel" "sort" "[I") (by decide +kernel)) (fun _ h9 => h9) rfl dX12_put_48 ?_
      refine lv_iload_n hx hb dX12_put_51 rfl (lv_at hl 2 rfl) ?_
      refine ho_iald (v := nI (so y1)) hx hb hK hP 2 0 rfl rfl (by omega) (by first | decide | omega) rfl dX12_put_52 ?_
      refine ho_if_ne (tgt := 61) hx hb dX12_put_53 (by decide) (by have := gso y1; omega) (fun c_53 => ?_) (fun c_53 => ?_)
      · refine lv_aload_n hx hb dX12_put_61 rfl (lv_at hl 1 rfl) ?_
        refine va_get (D := (dC, dI)) (ci := 12) (v := .ref ao) (C := RX12) (T := TX12) (N := 20) hx hb hts (fun _ h => List.mem_cons_of_mem _ (List.mem_append_right _ h)) hown hK hP 0 rfl rfl 5 (by decide) (hts (.fieldLink RX12 25 "HoldsOnceDeniedModel" "sort" "[I") (by decide +kernel)) (fun _ h9 => h9) rfl dX12_put_62 ?_
        refine lv_iload_n hx hb dX12_put_65 rfl (lv_at hl 2 rfl) ?_
        refine ho_iald (v := nI (so y1)) hx hb hK hP 2 0 rfl rfl (by omega) (by first | decide | omega) rfl dX12_put_66 ?_
        refine lv_iconst (v := nI 1) hx hb dX12_put_67 (by decide +kernel) ?_
        refine ho_icmp_ne (tgt := 76) hx hb dX12_put_68 (by decide) (by have := gso y1; omega) (by omega) (fun c_68 => ?_) (fun c_68 => ?_)
        · refine lv_iload_n hx hb dX12_put_76 rfl (lv_at hl 4 rfl) ?_
          refine ho_iast (g := upd el ((100 * y1) + i9) v9) hx hb hK hP hD hS 4 0 rfl rfl (by omega) (by first | decide | omega) rfl dX12_put_77 (fun H locs hP hD hS => ?_)
          have hP : va_P (dC, dI) vwCl ([(y, .inr (12, [.ref as, .ref ai, .ref ar, .ref am, .ref ak, .ref ao, .ref az, .ref ae, .ref aq, .ref af, .int (bI hi), .int th, .int (nI po), .int (nI ba), .int (nI en), .ref an, .ref aw, .ref ax, .ref ap, .int se]))] ++ [(ak, .inl (cI, 8, .inl (nF ke)))] ++ [(ao, .inl (cI, 8, .inl (nF so)))] ++ [(az, .inl (cI, 8, .inl (nF zz)))] ++ [(ae, .inl (cI, 800, .inl (upd el ((100 * y1) + i9) v9)))]) H := hP
          have hD : va_D A ([(y, .inr (12, [.ref as, .ref ai, .ref ar, .ref am, .ref ak, .ref ao, .ref az, .ref ae, .ref aq, .ref af, .int (bI hi), .int th, .int (nI po), .int (nI ba), .int (nI en), .ref an, .ref aw, .ref ax, .ref ap, .int se]))] ++ [(ak, .inl (cI, 8, .inl (nF ke)))] ++ [(ao, .inl (cI, 8, .inl (nF so)))] ++ [(az, .inl (cI, 8, .inl (nF zz)))] ++ [(ae, .inl (cI, 800, .inl (upd el ((100 * y1) + i9) v9)))]) := hD
          refine lv_iconst (v := nI 0) hx hb dX12_put_78 (by decide +kernel) ?_
          have hW9 : ([(y, .inr (12, [.ref as, .ref ai, .ref ar, .ref am, .ref ak, .ref ao, .ref az, .ref ae, .ref aq, .ref af, .int (bI hi), .int th, .int (nI po), .int (nI ba), .int (nI en), .ref an, .ref aw, .ref ax, .ref ap, .int se]))] ++ [(ak, .inl (cI, 8, .inl (nF ke)))] ++ [(ao, .inl (cI, 8, .inl (nF so)))] ++ [(az, .inl (cI, 8, .inl (nF zz)))] ++ [(ae, .inl (cI, 800, .inl (upd el ((100 * y1) + i9) v9)))] : va_W) = [(y, .inr (12, [.ref as, .ref ai, .ref ar, .ref am, .ref ak, .ref ao, .ref az, .ref ae, .ref aq, .ref af, .int (bI hi), .int th, .int (nI po), .int (nI ba), .int (nI en), .ref an, .ref aw, .ref ax, .ref ap, .int se]))] ++ [(ak, .inl (cI, 8, .inl (nF ke)))] ++ [(ao, .inl (cI, 8, .inl (nF so)))] ++ [(az, .inl (cI, 8, .inl (nF zz)))] ++ [(ae, .inl (cI, 800, .inl (upd el (100 * y1 + i9) (cutI (so y1) v9))))] := by first | (rw [cutI, if_pos c_53]) | (rw [cutI, if_neg c_53, if_pos c_68]) | (rw [cutI, if_neg c_53, if_neg c_68])
          rw [hW9] at hP hD
          exact W.iret (v := nI 0) hx hb hr (fun T9 hT9 hW9 => ⟨⟨_, (), rfl, rfl, by rw [hT9]; exact hP, hD⟩, hS.F hT9⟩) hS.2.2 dX12_put_79
        refine lv_iload_n hx hb dX12_put_71 rfl (lv_at hl 4 rfl) ?_
        refine lv_i2s (v := (v9).toInt16.toInt32) hx hb dX12_put_72 rfl ?_
        refine lv_goto (tgt := 77) hx hb dX12_put_73 (by decide) ?_
        refine ho_iast (g := upd el ((100 * y1) + i9) ((v9).toInt16.toInt32)) hx hb hK hP hD hS 4 0 rfl rfl (by omega) (by first | decide | omega) rfl dX12_put_77 (fun H locs hP hD hS => ?_)
        have hP : va_P (dC, dI) vwCl ([(y, .inr (12, [.ref as, .ref ai, .ref ar, .ref am, .ref ak, .ref ao, .ref az, .ref ae, .ref aq, .ref af, .int (bI hi), .int th, .int (nI po), .int (nI ba), .int (nI en), .ref an, .ref aw, .ref ax, .ref ap, .int se]))] ++ [(ak, .inl (cI, 8, .inl (nF ke)))] ++ [(ao, .inl (cI, 8, .inl (nF so)))] ++ [(az, .inl (cI, 8, .inl (nF zz)))] ++ [(ae, .inl (cI, 800, .inl (upd el ((100 * y1) + i9) ((v9).toInt16.toInt32))))]) H := hP
        have hD : va_D A ([(y, .inr (12, [.ref as, .ref ai, .ref ar, .ref am, .ref ak, .ref ao, .ref az, .ref ae, .ref aq, .ref af, .int (bI hi), .int th, .int (nI po), .int (nI ba), .int (nI en), .ref an, .ref aw, .ref ax, .ref ap, .int se]))] ++ [(ak, .inl (cI, 8, .inl (nF ke)))] ++ [(ao, .inl (cI, 8, .inl (nF so)))] ++ [(az, .inl (cI, 8, .inl (nF zz)))] ++ [(ae, .inl (cI, 800, .inl (upd el ((100 * y1) + i9) ((v9).toInt16.toInt32))))]) := hD
        refine lv_iconst (v := nI 0) hx hb dX12_put_78 (by decide +kernel) ?_
        have hW9 : ([(y, .inr (12, [.ref as, .ref ai, .ref ar, .ref am, .ref ak, .ref ao, .ref az, .ref ae, .ref aq, .ref af, .int (bI hi), .int th, .int (nI po), .int (nI ba), .int (nI en), .ref an, .ref aw, .ref ax, .ref ap, .int se]))] ++ [(ak, .inl (cI, 8, .inl (nF ke)))] ++ [(ao, .inl (cI, 8, .inl (nF so)))] ++ [(az, .inl (cI, 8, .inl (nF zz)))] ++ [(ae, .inl (cI, 800, .inl (upd el ((100 * y1) + i9) ((v9).toInt16.toInt32))))] : va_W) = [(y, .inr (12, [.ref as, .ref ai, .ref ar, .ref am, .ref ak, .ref ao, .ref az, .ref ae, .ref aq, .ref af, .int (bI hi), .int th, .int (nI po), .int (nI ba), .int (nI en), .ref an, .ref aw, .ref ax, .ref ap, .int se]))] ++ [(ak, .inl (cI, 8, .inl (nF ke)))] ++ [(ao, .inl (cI, 8, .inl (nF so)))] ++ [(az, .inl (cI, 8, .inl (nF zz)))] ++ [(ae, .inl (cI, 800, .inl (upd el (100 * y1 + i9) (cutI (so y1) v9))))] := by first | (rw [cutI, if_pos c_53]) | (rw [cutI, if_neg c_53, if_pos c_68]) | (rw [cutI, if_neg c_53, if_neg c_68])
        rw [hW9] at hP hD
        exact W.iret (v := nI 0) hx hb hr (fun T9 hT9 hW9 => ⟨⟨_, (), rfl, rfl, by rw [hT9]; exact hP, hD⟩, hS.F hT9⟩) hS.2.2 dX12_put_79
      refine lv_iload_n hx hb dX12_put_56 rfl (lv_at hl 4 rfl) ?_
      refine lv_i2b (v := (v9).toInt8.toInt32) hx hb dX12_put_57 rfl ?_
      refine lv_goto (tgt := 77) hx hb dX12_put_58 (by decide) ?_
      refine ho_iast (g := upd el ((100 * y1) + i9) ((v9).toInt8.toInt32)) hx hb hK hP hD hS 4 0 rfl rfl (by omega) (by first | decide | omega) rfl dX12_put_77 (fun H locs hP hD hS => ?_)
      have hP : va_P (dC, dI) vwCl ([(y, .inr (12, [.ref as, .ref ai, .ref ar, .ref am, .ref ak, .ref ao, .ref az, .ref ae, .ref aq, .ref af, .int (bI hi), .int th, .int (nI po), .int (nI ba), .int (nI en), .ref an, .ref aw, .ref ax, .ref ap, .int se]))] ++ [(ak, .inl (cI, 8, .inl (nF ke)))] ++ [(ao, .inl (cI, 8, .inl (nF so)))] ++ [(az, .inl (cI, 8, .inl (nF zz)))] ++ [(ae, .inl (cI, 800, .inl (upd el ((100 * y1) + i9) ((v9).toInt8.toInt32))))]) H := hP
      have hD : va_D A ([(y, .inr (12, [.ref as, .ref ai, .ref ar, .ref am, .ref ak, .ref ao, .ref az, .ref ae, .ref aq, .ref af, .int (bI hi), .int th, .int (nI po), .int (nI ba), .int (nI en), .ref an, .ref aw, .ref ax, .ref ap, .int se]))] ++ [(ak, .inl (cI, 8, .inl (nF ke)))] ++ [(ao, .inl (cI, 8, .inl (nF so)))] ++ [(az, .inl (cI, 8, .inl (nF zz)))] ++ [(ae, .inl (cI, 800, .inl (upd el ((100 * y1) + i9) ((v9).toInt8.toInt32))))]) := hD
      refine lv_iconst (v := nI 0) hx hb dX12_put_78 (by decide +kernel) ?_
      have hW9 : ([(y, .inr (12, [.ref as, .ref ai, .ref ar, .ref am, .ref ak, .ref ao, .ref az, .ref ae, .ref aq, .ref af, .int (bI hi), .int th, .int (nI po), .int (nI ba), .int (nI en), .ref an, .ref aw, .ref ax, .ref ap, .int se]))] ++ [(ak, .inl (cI, 8, .inl (nF ke)))] ++ [(ao, .inl (cI, 8, .inl (nF so)))] ++ [(az, .inl (cI, 8, .inl (nF zz)))] ++ [(ae, .inl (cI, 800, .inl (upd el ((100 * y1) + i9) ((v9).toInt8.toInt32))))] : va_W) = [(y, .inr (12, [.ref as, .ref ai, .ref ar, .ref am, .ref ak, .ref ao, .ref az, .ref ae, .ref aq, .ref af, .int (bI hi), .int th, .int (nI po), .int (nI ba), .int (nI en), .ref an, .ref aw, .ref ax, .ref ap, .int se]))] ++ [(ak, .inl (cI, 8, .inl (nF ke)))] ++ [(ao, .inl (cI, 8, .inl (nF so)))] ++ [(az, .inl (cI, 8, .inl (nF zz)))] ++ [(ae, .inl (cI, 800, .inl (upd el (100 * y1 + i9) (cutI (so y1) v9))))] := by first | (rw [cutI, if_pos c_53]) | (rw [cutI, if_neg c_53, if_pos c_68]) | (rw [cutI, if_neg c_53, if_neg c_68])
      rw [hW9] at hP hD
      exact W.iret (v := nI 0) hx hb hr (fun T9 hT9 hW9 => ⟨⟨_, (), rfl, rfl, by rw [hT9]; exact hP, hD⟩, hS.F hT9⟩) hS.2.2 dX12_put_79
    rw [inB_mt hi9 (by omega)] at c_31; cases c_31
  exact absurd (by rw [wrS, if_neg (by omega), if_pos hke]) c_10
set_option maxHeartbeats 4000000 in
set_option maxRecDepth 100000 in
theorem c_X12_put_f (l : Launch) (dC : Nat → ClassId) (dI : Nat → Nat → Nat) (cI cD cR : ClassId) (y as ai ar am ak ao az ae aq af : Nat) (hi : Bool) (th : Int32) (po ba en an aw ax ap : Nat) (se : Int32) (ke : Nat → Nat) (so : Nat → Nat) (zz : Nat → Nat) (x9 i9 v9 : Int32) (gzz : ∀ j, zz j ≤ 100) (gso : ∀ j, so j < 3) (gke2 : ∀ j, ke j ≤ 2) (hno : ∀ y, x9 = nI y → y < 8 → ke y = 2 → okI i9 (zz y) = false) : Met l yX12_put wsX12_put ({ frames := 3, cells := 0, slots := 0, locals := 67 }) (pcR dC dI cI cD cR [.ref y, .int x9, .int i9, .int v9] (fun H => va_P (dC, dI) vwCl ([(y, .inr (12, [.ref as, .ref ai, .ref ar, .ref am, .ref ak, .ref ao, .ref az, .ref ae, .ref aq, .ref af, .int (bI hi), .int th, .int (nI po), .int (nI ba), .int (nI en), .ref an, .ref aw, .ref ax, .ref ap, .int se]))] ++ [(ak, .inl (cI, 8, .inl (nF ke)))] ++ [(ao, .inl (cI, 8, .inl (nF so)))] ++ [(az, .inl (cI, 8, .inl (nF zz)))]) H)) (vp_Si (fun r => r = (on1 (oN x9 8) (fun y9 => if wrS ke y9 = 0 then -13 else wrS ke y9) (-1)))) 0 0 (fun _ => False) := by
  refine Met.ofW (cc := cX12_put) (maxL := 5) (ret := (some .int)) (by decide) rfl ?_
  intro p e s m args below meth c s₁ B hml hv
  obtain ⟨rfl, hH0, hCX⟩ := hv
  have hx := B.exec
  have hb := B.bytes
  have hr := B.returns
  have hts := atoms_spec (ws := wsX12_put) B.pre
  have hown : s.vm.findClass RX12 = some m.cls := findClass_of_methodNamed B.named
  have hlocks := B.notSynchronized
  have hK := hCX.1
  have hP := hH0
  have hl := lv_entry ([.ref y, .int x9, .int i9, .int v9]) (n := 5) (Nat.le_of_ble_eq_true rfl)
  rw [lg_entry_eq]
  generalize (lg_sl ([.ref y, .int x9, .int i9, .int v9]) ++ List.replicate (5 - (lg_sl ([.ref y, .int x9, .int i9, .int v9])).length) Slot.unset).toArray = ls at hl ⊢
  have hl : lv_has ls 5 [(0, .ref y), (1, .int x9), (2, .int i9), (3, .int v9)] := hl
  rcases okI_or x9 (n := 8) (by omega) with hb_x9 | ⟨y1, h_y1, rfl⟩
  · refine lv_aload_n hx hb dX12_put_0 rfl (lv_at hl 0 rfl) ?_
    refine lv_iload_n hx hb dX12_put_1 rfl (lv_at hl 1 rfl) ?_
    refine lv_iconst (v := (-1)) hx hb dX12_put_2 (by decide +kernel) ?_
    refine vp_callSi ((va_runV (As := [.int x9, .int (-1)]) (rest := []) ⟨hx, hb, hml, hown, hts⟩ (c_X12_wrongRow_fm l dC dI cI cD cR y as ai ar am ak ao az ae aq af hi th po ba en an aw ax ap se ke so x9 (by first | omega | assumption | exact gnd _ | exact gkn _ | exact Nat.lt_trans (gkn _) (by decide) | exact Nat.lt_trans (gnd _) (by decide) | exact Nat.lt_of_le_of_lt (pcN_le _) (by decide))) (cwV 2 hts gX12_put_X12_wrongRow rfl rfl rfl (by decide +kernel) ⟨Nat.le_of_ble_eq_true rfl, Nat.le_of_ble_eq_true rfl⟩) (preV_R hCX (va_recv hK hP (ci := 12) (q0 := 0) rfl rfl) ((hP.sub (ws' := [(y, .inr (12, [.ref as, .ref ai, .ref ar, .ref am, .ref ak, .ref ao, .ref az, .ref ae, .ref aq, .ref af, .int (bI hi), .int th, .int (nI po), .int (nI ba), .int (nI en), .ref an, .ref aw, .ref ax, .ref ap, .int se]))] ++ [(ak, .inl (cI, 8, .inl (nF ke)))] ++ [(ao, .inl (cI, 8, .inl (nF so)))]) [0, 1, 2] rfl))) rfl rfl hl.1 rfl (lv_room (Nat.le_of_ble_eq_true rfl)) dX12_put_3 ⟨Nat.le_of_ble_eq_true (by first | rfl | decide), Nat.le_of_ble_eq_true (by first | rfl | decide)⟩).run) (fun r_3 hr_3 => ?_)
    subst hr_3
    refine lv_istore (lv' := [(4, .int (-1)), (0, .ref y), (1, .int x9), (2, .int i9), (3, .int v9)]) hx hb dX12_put_6 hl (by decide) rfl (fun ls hl => ?_)
    refine lv_iload hx hb dX12_put_8 (lv_at hl 0 rfl) ?_
    refine lv_if_eq (tgt := 16) hx hb dX12_put_10 (by decide) (fun z => absurd z (by decide +kernel)) (fun _ => ?_)
    refine lv_iload hx hb dX12_put_13 (lv_at hl 0 rfl) ?_
    exact W.iret (v := (-1)) hx hb hr (fun T9 hT9 hW9 => ⟨_, rfl, (by first | (rw [oN_f hb_x9]; rfl) | (rw [oN_t h_y1, on1_s, if_pos c_10]) | (rw [oN_t h_y1, on1_s, if_neg c_10])), hT9⟩) (fun q h => by cases h) dX12_put_15
  refine lv_aload_n hx hb dX12_put_0 rfl (lv_at hl 0 rfl) ?_
  refine lv_iload_n hx hb dX12_put_1 rfl (lv_at hl 1 rfl) ?_
  refine lv_iconst (v := (-1)) hx hb dX12_put_2 (by decide +kernel) ?_
  refine vp_callSi ((va_runV (As := [.int (nI y1), .int (-1)]) (rest := []) ⟨hx, hb, hml, hown, hts⟩ (c_X12_wrongRow_m l dC dI cI cD cR y as ai ar am ak ao az ae aq af hi th po ba en an aw ax ap se ke so y1 (by first | omega | assumption | exact gnd _ | exact gkn _ | exact Nat.lt_trans (gkn _) (by decide) | exact Nat.lt_trans (gnd _) (by decide) | exact Nat.lt_of_le_of_lt (pcN_le _) (by decide)) gso gke2) (cwV 2 hts gX12_put_X12_wrongRow rfl rfl rfl (by decide +kernel) ⟨Nat.le_of_ble_eq_true rfl, Nat.le_of_ble_eq_true rfl⟩) (preV_R hCX (va_recv hK hP (ci := 12) (q0 := 0) rfl rfl) ((hP.sub (ws' := [(y, .inr (12, [.ref as, .ref ai, .ref ar, .ref am, .ref ak, .ref ao, .ref az, .ref ae, .ref aq, .ref af, .int (bI hi), .int th, .int (nI po), .int (nI ba), .int (nI en), .ref an, .ref aw, .ref ax, .ref ap, .int se]))] ++ [(ak, .inl (cI, 8, .inl (nF ke)))] ++ [(ao, .inl (cI, 8, .inl (nF so)))]) [0, 1, 2] rfl))) rfl rfl hl.1 rfl (lv_room (Nat.le_of_ble_eq_true rfl)) dX12_put_3 ⟨Nat.le_of_ble_eq_true (by first | rfl | decide), Nat.le_of_ble_eq_true (by first | rfl | decide)⟩).run) (fun r_3 hr_3 => ?_)
  subst hr_3
  refine lv_istore (lv' := [(4, .int (wrS ke y1)), (0, .ref y), (1, .int (nI y1)), (2, .int i9), (3, .int v9)]) hx hb dX12_put_6 hl (by decide) rfl (fun ls hl => ?_)
  refine lv_iload hx hb dX12_put_8 (lv_at hl 0 rfl) ?_
  refine lv_if_eq (tgt := 16) hx hb dX12_put_10 (by decide) (fun c_10 => ?_) (fun c_10 => ?_)
  · have hno2 := hno y1 rfl h_y1 (ws_0 c_10)
    have hzq := gzz y1
    refine lv_iload_n hx hb dX12_put_16 rfl (lv_at hl 3 rfl) ?_
    refine lv_i2l (v := (i9).toInt64) hx hb dX12_put_17 rfl ?_
    refine lv_lconst (v := lN 0) hx hb dX12_put_18 (by decide +kernel) ?_
    refine lv_aload_n hx hb dX12_put_19 rfl (lv_at hl 1 rfl) ?_
    refine va_get (D := (dC, dI)) (ci := 12) (v := .ref az) (C := RX12) (T := TX12) (N := 20) hx hb hts (fun _ h => List.mem_cons_of_mem _ (List.mem_append_right _ h)) hown hK hP 0 rfl rfl 6 (by decide) (hts (.fieldLink RX12 28 "HoldsOnceDeniedModel" "size" "[I") (by decide +kernel)) (fun _ h9 => h9) rfl dX12_put_20 ?_
    refine lv_iload_n hx hb dX12_put_23 rfl (lv_at hl 2 rfl) ?_
    refine ho_iald (v := nI (zz y1)) hx hb hK hP 3 0 rfl rfl (by omega) (by first | decide | omega) rfl dX12_put_24 ?_
    refine lv_iconst (v := nI 1) hx hb dX12_put_25 (by decide +kernel) ?_
    refine lv_isub hx hb dX12_put_26 ?_
    refine lv_i2l (v := ((nI (zz y1) - nI 1)).toInt64) hx hb dX12_put_27 rfl ?_
    refine vp_callSi ((va_runS (As := [.long ((i9).toInt64), .long (lN 0), .long (((nI (zz y1) - nI 1)).toInt64)]) (rest := []) ⟨hx, hb, hml, hown, hts⟩ (c_X12_isIn l dC dI cI cD cR ((i9).toInt64) (lN 0) (((nI (zz y1) - nI 1)).toInt64)) (va_cwS 3 hts gX12_put_X12_isIn rfl rfl rfl (by decide +kernel) ⟨Nat.le_of_ble_eq_true rfl, Nat.le_of_ble_eq_true rfl⟩) (preS_R hCX (trivial)) rfl rfl hl.1 rfl (lv_room (Nat.le_of_ble_eq_true rfl)) dX12_put_28 ⟨Nat.le_of_ble_eq_true (by first | rfl | decide), Nat.le_of_ble_eq_true (by first | rfl | decide)⟩).run) (fun r_28 hr_28 => ?_)
    subst hr_28
    refine ho_bne (tgt := 37) hx hb dX12_put_31 (by decide) (fun c_31 => ?_) (fun c_31 => ?_)
    · rw [inB_m i9 (by omega), hno2] at c_31; cases c_31
    refine lv_bipush (v := (-13)) hx hb dX12_put_34 (by decide +kernel) ?_
    exact W.iret (v := (-13)) hx hb hr (fun T9 hT9 hW9 => ⟨_, rfl, (by first | (rw [oN_f hb_x9]; rfl) | (rw [oN_t h_y1, on1_s, if_pos c_10]) | (rw [oN_t h_y1, on1_s, if_neg c_10])), hT9⟩) (fun q h => by cases h) dX12_put_36
  refine lv_iload hx hb dX12_put_13 (lv_at hl 0 rfl) ?_
  exact W.iret (v := (wrS ke y1)) hx hb hr (fun T9 hT9 hW9 => ⟨_, rfl, (by first | (rw [oN_f hb_x9]; rfl) | (rw [oN_t h_y1, on1_s, if_pos c_10]) | (rw [oN_t h_y1, on1_s, if_neg c_10])), hT9⟩) (fun q h => by cases h) dX12_put_15
set_option maxHeartbeats 4000000 in
set_option maxRecDepth 100000 in
theorem c_X12_toss (l : Launch) (dC : Nat → ClassId) (dI : Nat → Nat → Nat) (cI cD cR : ClassId) (y as ai ar am ak ao az ae aq af : Nat) (hi : Bool) (th : Int32) (po ba en an aw ax ap : Nat) (se : Int32) (ke : Nat → Nat) (qk : Nat → Int32) (qf : Nat → Int32) (x9 : Int32) (gkk : ∀ j, ke j = 1 → okI (qk j) 8 = true ∧ okI (qf j) 10 = true) (gke2 : ∀ j, ke j ≤ 2) : Met l yX12_toss wsX12_toss ({ frames := 3, cells := 0, slots := 0, locals := 66 }) (pcR dC dI cI cD cR [.ref y, .int x9] (fun H => va_P (dC, dI) vwCl ([(y, .inr (12, [.ref as, .ref ai, .ref ar, .ref am, .ref ak, .ref ao, .ref az, .ref ae, .ref aq, .ref af, .int (bI hi), .int th, .int (nI po), .int (nI ba), .int (nI en), .ref an, .ref aw, .ref ax, .ref ap, .int se]))] ++ [(ak, .inl (cI, 8, .inl (nF ke)))] ++ [(aq, .inl (cI, 8, .inl qk))] ++ [(af, .inl (cI, 8, .inl qf))]) H)) (vp_Si (fun r => r = (on1 (oN x9 8) (fun y9 => if wkR ke y9 = 0 then tossR (nT (qk y9)) (nT (qf y9)) else wkR ke y9) (-1)))) 0 0 (fun _ => False) := by
  refine Met.ofW (cc := cX12_toss) (maxL := 5) (ret := (some .int)) (by decide) rfl ?_
  intro p e s m args below meth c s₁ B hml hv
  obtain ⟨rfl, hH0, hCX⟩ := hv
  have hx := B.exec
  have hb := B.bytes
  have hr := B.returns
  have hts := atoms_spec (ws := wsX12_toss) B.pre
  have hown : s.vm.findClass RX12 = some m.cls := findClass_of_methodNamed B.named
  have hlocks := B.notSynchronized
  have hK := hCX.1
  have hP := hH0
  have hl := lv_entry ([.ref y, .int x9]) (n := 5) (Nat.le_of_ble_eq_true rfl)
  rw [lg_entry_eq]
  generalize (lg_sl ([.ref y, .int x9]) ++ List.replicate (5 - (lg_sl ([.ref y, .int x9])).length) Slot.unset).toArray = ls at hl ⊢
  have hl : lv_has ls 5 [(0, .ref y), (1, .int x9)] := hl
  rcases okI_or x9 (n := 8) (by omega) with hb_x9 | ⟨y1, h_y1, rfl⟩
  · refine lv_aload_n hx hb dX12_toss_0 rfl (lv_at hl 0 rfl) ?_
    refine lv_iload_n hx hb dX12_toss_1 rfl (lv_at hl 1 rfl) ?_
    refine vp_callSi ((va_runV (As := [.int x9]) (rest := []) ⟨hx, hb, hml, hown, hts⟩ (c_X12_wrongKept_f l dC dI cI cD cR y as ai ar am ak ao az ae aq af hi th po ba en an aw ax ap se ke x9 (by first | omega | assumption | exact gnd _ | exact gkn _ | exact Nat.lt_trans (gkn _) (by decide) | exact Nat.lt_trans (gnd _) (by decide) | exact Nat.lt_of_le_of_lt (pcN_le _) (by decide))) (cwV 1 hts gX12_toss_X12_wrongKept rfl rfl rfl (by decide +kernel) ⟨Nat.le_of_ble_eq_true rfl, Nat.le_of_ble_eq_true rfl⟩) (preV_R hCX (va_recv hK hP (ci := 12) (q0 := 0) rfl rfl) ((hP.sub (ws' := [(y, .inr (12, [.ref as, .ref ai, .ref ar, .ref am, .ref ak, .ref ao, .ref az, .ref ae, .ref aq, .ref af, .int (bI hi), .int th, .int (nI po), .int (nI ba), .int (nI en), .ref an, .ref aw, .ref ax, .ref ap, .int se]))] ++ [(ak, .inl (cI, 8, .inl (nF ke)))]) [0, 1] rfl))) rfl rfl hl.1 rfl (lv_room (Nat.le_of_ble_eq_true rfl)) dX12_toss_2 ⟨Nat.le_of_ble_eq_true (by first | rfl | decide), Nat.le_of_ble_eq_true (by first | rfl | decide)⟩).run) (fun r_2 hr_2 => ?_)
    subst hr_2
    refine lv_istore_n (lv' := [(2, .int (-1)), (0, .ref y), (1, .int x9)]) hx hb dX12_toss_5 rfl hl (by decide) rfl (fun ls hl => ?_)
    refine lv_iload_n hx hb dX12_toss_6 rfl (lv_at hl 0 rfl) ?_
    refine lv_if_eq (tgt := 12) hx hb dX12_toss_7 (by decide) (fun z => absurd z (by decide +kernel)) (fun _ => ?_)
    refine lv_iload_n hx hb dX12_toss_10 rfl (lv_at hl 0 rfl) ?_
    exact W.iret (v := (-1)) hx hb hr (fun T9 hT9 hW9 => ⟨_, rfl, (by first | (rw [oN_f hb_x9]; rfl) | (rw [oN_t h_y1, on1_s, if_neg c_7])), hT9⟩) (fun q h => by cases h) dX12_toss_11
  refine lv_aload_n hx hb dX12_toss_0 rfl (lv_at hl 0 rfl) ?_
  refine lv_iload_n hx hb dX12_toss_1 rfl (lv_at hl 1 rfl) ?_
  refine vp_callSi ((va_runV (As := [.int (nI y1)]) (rest := []) ⟨hx, hb, hml, hown, hts⟩ (c_X12_wrongKept_n l dC dI cI cD cR y as ai ar am ak ao az ae aq af hi th po ba en an aw ax ap se ke y1 (by first | omega | assumption | exact gnd _ | exact gkn _ | exact Nat.lt_trans (gkn _) (by decide) | exact Nat.lt_trans (gnd _) (by decide) | exact Nat.lt_of_le_of_lt (pcN_le _) (by decide)) gke2) (cwV 1 hts gX12_toss_X12_wrongKept rfl rfl rfl (by decide +kernel) ⟨Nat.le_of_ble_eq_true rfl, Nat.le_of_ble_eq_true rfl⟩) (preV_R hCX (va_recv hK hP (ci := 12) (q0 := 0) rfl rfl) ((hP.sub (ws' := [(y, .inr (12, [.ref as, .ref ai, .ref ar, .ref am, .ref ak, .ref ao, .ref az, .ref ae, .ref aq, .ref af, .int (bI hi), .int th, .int (nI po), .int (nI ba), .int (nI en), .ref an, .ref aw, .ref ax, .ref ap, .int se]))] ++ [(ak, .inl (cI, 8, .inl (nF ke)))]) [0, 1] rfl))) rfl rfl hl.1 rfl (lv_room (Nat.le_of_ble_eq_true rfl)) dX12_toss_2 ⟨Nat.le_of_ble_eq_true (by first | rfl | decide), Nat.le_of_ble_eq_true (by first | rfl | decide)⟩).run) (fun r_2 hr_2 => ?_)
  subst hr_2
  refine lv_istore_n (lv' := [(2, .int (wkR ke y1)), (0, .ref y), (1, .int (nI y1))]) hx hb dX12_toss_5 rfl hl (by decide) rfl (fun ls hl => ?_)
  refine lv_iload_n hx hb dX12_toss_6 rfl (lv_at hl 0 rfl) ?_
  refine lv_if_eq (tgt := 12) hx hb dX12_toss_7 (by decide) (fun c_7 => ?_) (fun c_7 => ?_)
  · obtain ⟨gk1, gk2⟩ := gkk y1 (wk_0 c_7)
    have ek := (nT_ok (by decide) gk1).1
    have ef := (nT_ok (by decide) gk2).1
    have hk9 := (nT_ok (by decide) gk1).2
    have hf9 := (nT_ok (by decide) gk2).2
    refine lv_aload_n hx hb dX12_toss_12 rfl (lv_at hl 1 rfl) ?_
    refine va_get (D := (dC, dI)) (ci := 12) (v := .ref aq) (C := RX12) (T := TX12) (N := 20) hx hb hts (fun _ h => List.mem_cons_of_mem _ (List.mem_append_right _ h)) hown hK hP 0 rfl rfl 8 (by decide) (hts (.fieldLink RX12 34 "HoldsOnceDeniedModel" "keptKind" "[I") (by decide +kernel)) (fun _ h9 => h9) rfl dX12_toss_13 ?_
    refine lv_iload_n hx hb dX12_toss_16 rfl (lv_at hl 2 rfl) ?_
    refine ho_iald (v := (qk y1)) hx hb hK hP 2 0 rfl rfl (by omega) (by first | decide | omega) rfl dX12_toss_17 ?_
    refine ho_tope (y := nI (nT (qk y1))) ek ?_
    refine lv_istore_n (lv' := [(3, .int (nI (nT (qk y1)))), (2, .int (wkR ke y1)), (0, .ref y), (1, .int (nI y1))]) hx hb dX12_toss_18 rfl hl (by decide) rfl (fun ls hl => ?_)
    refine lv_aload_n hx hb dX12_toss_19 rfl (lv_at hl 2 rfl) ?_
    refine va_get (D := (dC, dI)) (ci := 12) (v := .ref af) (C := RX12) (T := TX12) (N := 20) hx hb hts (fun _ h => List.mem_cons_of_mem _ (List.mem_append_right _ h)) hown hK hP 0 rfl rfl 9 (by decide) (hts (.fieldLink RX12 37 "HoldsOnceDeniedModel" "keptFigure" "[I") (by decide +kernel)) (fun _ h9 => h9) rfl dX12_toss_20 ?_
    refine lv_iload_n hx hb dX12_toss_23 rfl (lv_at hl 3 rfl) ?_
    refine ho_iald (v := (qf y1)) hx hb hK hP 3 0 rfl rfl (by omega) (by first | decide | omega) rfl dX12_toss_24 ?_
    refine ho_tope (y := nI (nT (qf y1))) ef ?_
    refine lv_istore (lv' := [(4, .int (nI (nT (qf y1)))), (3, .int (nI (nT (qk y1)))), (2, .int (wkR ke y1)), (0, .ref y), (1, .int (nI y1))]) hx hb dX12_toss_25 hl (by decide) rfl (fun ls hl => ?_)
    refine lv_iload_n hx hb dX12_toss_27 rfl (lv_at hl 1 rfl) ?_
    refine lv_iconst (v := nI 3) hx hb dX12_toss_28 (by decide +kernel) ?_
    refine ho_icmp_eq (tgt := 37) hx hb dX12_toss_29 (by decide) (by omega) (by omega) (fun c_29 => ?_) (fun c_29 => ?_)
    · refine lv_bipush (v := (-15)) hx hb dX12_toss_37 (by decide +kernel) ?_
      refine lv_goto (tgt := 76) hx hb dX12_toss_39 (by decide) ?_
      exact W.iret (v := (-15)) hx hb hr (fun T9 hT9 hW9 => ⟨_, rfl, (by rw [oN_t h_y1, on1_s, if_pos c_7]; simp [tossR, c_29]), hT9⟩) (fun q h => by cases h) dX12_toss_76
    refine lv_iload hx hb dX12_toss_32 (lv_at hl 0 rfl) ?_
    refine ho_if_ne (tgt := 42) hx hb dX12_toss_34 (by decide) (by omega) (fun c_34 => ?_) (fun c_34 => ?_)
    · refine lv_iload_n hx hb dX12_toss_42 rfl (lv_at hl 1 rfl) ?_
      refine lv_iconst (v := nI 1) hx hb dX12_toss_43 (by decide +kernel) ?_
      refine ho_icmp_ne (tgt := 55) hx hb dX12_toss_44 (by decide) (by omega) (by omega) (fun c_44 => ?_) (fun c_44 => ?_)
      · refine lv_iload_n hx hb dX12_toss_55 rfl (lv_at hl 1 rfl) ?_
        refine lv_bipush (v := nI 6) hx hb dX12_toss_56 (by decide +kernel) ?_
        refine ho_icmp_ne (tgt := 74) hx hb dX12_toss_58 (by decide) (by omega) (by omega) (fun c_58 => ?_) (fun c_58 => ?_)
        · refine lv_iload hx hb dX12_toss_74 (lv_at hl 0 rfl) ?_
          exact W.iret (v := nI (nT (qf y1))) hx hb hr (fun T9 hT9 hW9 => ⟨_, rfl, (by rw [oN_t h_y1, on1_s, if_pos c_7]; simp [tossR, c_29, c_34, c_44, c_58]), hT9⟩) (fun q h => by cases h) dX12_toss_76
        refine lv_sipush (v := nI 200) hx hb dX12_toss_61 (by decide +kernel) ?_
        refine lv_iload_n hx hb dX12_toss_64 rfl (lv_at hl 1 rfl) ?_
        refine lv_iload hx hb dX12_toss_65 (lv_at hl 0 rfl) ?_
        refine vp_callSi ((va_runS (As := [.int (nI (nT (qk y1))), .int (nI (nT (qf y1)))]) (rest := [.int (nI 200)]) ⟨hx, hb, hml, hown, hts⟩ (c_X12_priceBy l dC dI cI cD cR (nT (qk y1)) (nT (qf y1)) (by first | omega | assumption | exact gnd _ | exact gkn _ | exact Nat.lt_trans (gkn _) (by decide) | exact Nat.lt_trans (gnd _) (by decide) | exact Nat.lt_of_le_of_lt (pcN_le _) (by decide)) (by first | omega | assumption | exact gnd _ | exact gkn _ | exact Nat.lt_trans (gkn _) (by decide) | exact Nat.lt_trans (gnd _) (by decide) | exact Nat.lt_of_le_of_lt (pcN_le _) (by decide))) (va_cwS 2 hts gX12_toss_X12_priceBy rfl rfl rfl (by decide +kernel) ⟨Nat.le_of_ble_eq_true rfl, Nat.le_of_ble_eq_true rfl⟩) (preS_R hCX (trivial)) rfl rfl hl.1 rfl (lv_room (Nat.le_of_ble_eq_true rfl)) dX12_toss_67 ⟨Nat.le_of_ble_eq_true (by first | rfl | decide), Nat.le_of_ble_eq_true (by first | rfl | decide)⟩).run) (fun r_67 hr_67 => ?_)
        subst hr_67
        refine ho_iadd hx hb dX12_toss_70 ?_
        refine lv_goto (tgt := 76) hx hb dX12_toss_71 (by decide) ?_
        exact W.iret (v := nI (200 + (asN (nT (qk y1)) (nT (qf y1))))) hx hb hr (fun T9 hT9 hW9 => ⟨_, rfl, (by rw [oN_t h_y1, on1_s, if_pos c_7]; simp [tossR, c_29, c_34, c_44, c_58]), hT9⟩) (fun q h => by cases h) dX12_toss_76
      refine lv_bipush (v := nI 100) hx hb dX12_toss_47 (by decide +kernel) ?_
      refine lv_iload hx hb dX12_toss_49 (lv_at hl 0 rfl) ?_
      refine ho_iadd hx hb dX12_toss_51 ?_
      refine lv_goto (tgt := 76) hx hb dX12_toss_52 (by decide) ?_
      exact W.iret (v := nI (100 + (nT (qf y1)))) hx hb hr (fun T9 hT9 hW9 => ⟨_, rfl, (by rw [oN_t h_y1, on1_s, if_pos c_7]; simp [tossR, c_29, c_34, c_44]), hT9⟩) (fun q h => by cases h) dX12_toss_76
    refine lv_bipush (v := (-15)) hx hb dX12_toss_37 (by decide +kernel) ?_
    refine lv_goto (tgt := 76) hx hb dX12_toss_39 (by decide) ?_
    exact W.iret (v := (-15)) hx hb hr (fun T9 hT9 hW9 => ⟨_, rfl, (by rw [oN_t h_y1, on1_s, if_pos c_7]; simp [tossR, c_29, c_34]), hT9⟩) (fun q h => by cases h) dX12_toss_76
  refine lv_iload_n hx hb dX12_toss_10 rfl (lv_at hl 0 rfl) ?_
  exact W.iret (v := (wkR ke y1)) hx hb hr (fun T9 hT9 hW9 => ⟨_, rfl, (by first | (rw [oN_f hb_x9]; rfl) | (rw [oN_t h_y1, on1_s, if_neg c_7])), hT9⟩) (fun q h => by cases h) dX12_toss_11
