set_option maxHeartbeats 4000000 in
set_option maxRecDepth 100000 in
theorem c_X12_copy_t (l : Launch) (dC : Nat → ClassId) (dI : Nat → Nat → Nat) (cI cD cR : ClassId) (y as ai ar am ak ao az ae aq af : Nat) (hi : Bool) (th : Int32) (po ba en an aw ax ap : Nat) (se : Int32) (ke : Nat → Nat) (so : Nat → Nat) (zz : Nat → Nat) (el : Nat → Int32) (y1 i9 y2 j9 n9 : Nat) (sz : Nat) (hy1 : y1 < 8) (hy2 : y2 < 8) (hke1 : ke y1 = 2) (hke2 : ke y2 = 2) (hso : so y1 = so y2) (hi9 : i9 + n9 ≤ zz y1) (hj9 : j9 + n9 ≤ zz y2) (gzz : ∀ j, zz j ≤ 100) (gso : ∀ j, so j < 3) (gke2 : ∀ j, ke j ≤ 2) : Met l yX12_copy wsX12_copy ({ frames := 2, cells := 0, slots := 0, locals := 45 }) (pcR dC dI cI cD cR [.ref y, .int (nI y1), .int (nI i9), .int (nI y2), .int (nI j9), .int (nI n9)] (fun H => H.size = sz ∧ va_P (dC, dI) vwCl ([(y, .inr (12, [.ref as, .ref ai, .ref ar, .ref am, .ref ak, .ref ao, .ref az, .ref ae, .ref aq, .ref af, .int (bI hi), .int th, .int (nI po), .int (nI ba), .int (nI en), .ref an, .ref aw, .ref ax, .ref ap, .int se]))] ++ [(ak, .inl (cI, 8, .inl (nF ke)))] ++ [(ao, .inl (cI, 8, .inl (nF so)))] ++ [(az, .inl (cI, 8, .inl (nF zz)))] ++ [(ae, .inl (cI, 800, .inl el))]) H ∧ va_D (fun _ => True) ([(y, .inr (12, [.ref as, .ref ai, .ref ar, .ref am, .ref ak, .ref ao, .ref az, .ref ae, .ref aq, .ref af, .int (bI hi), .int th, .int (nI po), .int (nI ba), .int (nI en), .ref an, .ref aw, .ref ax, .ref ap, .int se]))] ++ [(ak, .inl (cI, 8, .inl (nF ke)))] ++ [(ao, .inl (cI, 8, .inl (nF so)))] ++ [(az, .inl (cI, 8, .inl (nF zz)))] ++ [(ae, .inl (cI, 800, .inl el))]))) (va_Qi (fun r (_ : Unit) => r = nI n9) (fun (_ : Unit) T9 => va_P (dC, dI) vwCl ([(y, .inr (12, [.ref as, .ref ai, .ref ar, .ref am, .ref ak, .ref ao, .ref az, .ref ae, .ref aq, .ref af, .int (bI hi), .int th, .int (nI po), .int (nI ba), .int (nI en), .ref an, .ref aw, .ref ax, .ref ap, .int se]))] ++ [(ak, .inl (cI, 8, .inl (nF ke)))] ++ [(ao, .inl (cI, 8, .inl (nF so)))] ++ [(az, .inl (cI, 8, .inl (nF zz)))] ++ [(ae, .inl (cI, 800, .inl (cpE el (100 * y1 + i9) (100 * y2 + j9) n9)))]) T9.heap ∧ va_D (va_A ([(y, .inr (12, [.ref as, .ref ai, .ref ar, .ref am, .ref ak, .ref ao, .ref az, .ref ae, .ref aq, .ref af, .int (bI hi), .int th, .int (nI po), .int (nI ba), .int (nI en), .ref an, .ref aw, .ref ax, .ref ap, .int se]))] ++ [(ak, .inl (cI, 8, .inl (nF ke)))] ++ [(ao, .inl (cI, 8, .inl (nF so)))] ++ [(az, .inl (cI, 8, .inl (nF zz)))] ++ [(ae, .inl (cI, 800, .inl el))]) sz) ([(y, .inr (12, [.ref as, .ref ai, .ref ar, .ref am, .ref ak, .ref ao, .ref az, .ref ae, .ref aq, .ref af, .int (bI hi), .int th, .int (nI po), .int (nI ba), .int (nI en), .ref an, .ref aw, .ref ax, .ref ap, .int se]))] ++ [(ak, .inl (cI, 8, .inl (nF ke)))] ++ [(ao, .inl (cI, 8, .inl (nF so)))] ++ [(az, .inl (cI, 8, .inl (nF zz)))] ++ [(ae, .inl (cI, 800, .inl (cpE el (100 * y1 + i9) (100 * y2 + j9) n9)))])) (va_A ([(y, .inr (12, [.ref as, .ref ai, .ref ar, .ref am, .ref ak, .ref ao, .ref az, .ref ae, .ref aq, .ref af, .int (bI hi), .int th, .int (nI po), .int (nI ba), .int (nI en), .ref an, .ref aw, .ref ax, .ref ap, .int se]))] ++ [(ak, .inl (cI, 8, .inl (nF ke)))] ++ [(ao, .inl (cI, 8, .inl (nF so)))] ++ [(az, .inl (cI, 8, .inl (nF zz)))] ++ [(ae, .inl (cI, 800, .inl el))]) sz)) 0 0 (va_A ([(y, .inr (12, [.ref as, .ref ai, .ref ar, .ref am, .ref ak, .ref ao, .ref az, .ref ae, .ref aq, .ref af, .int (bI hi), .int th, .int (nI po), .int (nI ba), .int (nI en), .ref an, .ref aw, .ref ax, .ref ap, .int se]))] ++ [(ak, .inl (cI, 8, .inl (nF ke)))] ++ [(ao, .inl (cI, 8, .inl (nF so)))] ++ [(az, .inl (cI, 8, .inl (nF zz)))] ++ [(ae, .inl (cI, 800, .inl el))]) sz) := by
  refine Met.ofW (cc := cX12_copy) (maxL := 8) (ret := (some .int)) (by decide) rfl ?_
  intro p e s m args below meth c s₁ B hml hv
  obtain ⟨rfl, hH0, hCX⟩ := hv
  have hx := B.exec
  have hb := B.bytes
  have hr := B.returns
  have hts := atoms_spec (ws := wsX12_copy) B.pre
  have hown : s.vm.findClass RX12 = some m.cls := findClass_of_methodNamed B.named
  have hlocks := B.notSynchronized
  have hK := hCX.1
  obtain ⟨hsz, hP, hD0⟩ := hH0
  subst hsz
  have hD := hD0.self (sz := s.heap.size)
  generalize hAe : va_A ([(y, .inr (12, [.ref as, .ref ai, .ref ar, .ref am, .ref ak, .ref ao, .ref az, .ref ae, .ref aq, .ref af, .int (bI hi), .int th, .int (nI po), .int (nI ba), .int (nI en), .ref an, .ref aw, .ref ax, .ref ap, .int se]))] ++ [(ak, .inl (cI, 8, .inl (nF ke)))] ++ [(ao, .inl (cI, 8, .inl (nF so)))] ++ [(az, .inl (cI, 8, .inl (nF zz)))] ++ [(ae, .inl (cI, 800, .inl el))]) s.heap.size = A at hD ⊢
  have hA : ∀ q : Nat, s.heap.size ≤ q → A q := fun q h => by rw [← hAe]; exact Or.inr h
  have hS : va_S A s.heap s.heap [] := va_S.rf
  have hP : va_P (dC, dI) vwCl ([(y, .inr (12, [.ref as, .ref ai, .ref ar, .ref am, .ref ak, .ref ao, .ref az, .ref ae, .ref aq, .ref af, .int (bI hi), .int th, .int (nI po), .int (nI ba), .int (nI en), .ref an, .ref aw, .ref ax, .ref ap, .int se]))] ++ [(ak, .inl (cI, 8, .inl (nF ke)))] ++ [(ao, .inl (cI, 8, .inl (nF so)))] ++ [(az, .inl (cI, 8, .inl (nF zz)))] ++ [(ae, .inl (cI, 800, .inl el))]) s.heap := hP
  have hz1 := gzz y1
  have hz2 := gzz y2
  have hs1 := gso y1
  have hs2 := gso y2
  have hl := lv_entry ([.ref y, .int (nI y1), .int (nI i9), .int (nI y2), .int (nI j9), .int (nI n9)]) (n := 8) (Nat.le_of_ble_eq_true rfl)
  rw [lg_entry_eq]
  generalize (lg_sl ([.ref y, .int (nI y1), .int (nI i9), .int (nI y2), .int (nI j9), .int (nI n9)]) ++ List.replicate (8 - (lg_sl ([.ref y, .int (nI y1), .int (nI i9), .int (nI y2), .int (nI j9), .int (nI n9)])).length) Slot.unset).toArray = ls at hl ⊢
  have hl : lv_has ls 8 [(0, .ref y), (1, .int (nI y1)), (2, .int (nI i9)), (3, .int (nI y2)), (4, .int (nI j9)), (5, .int (nI n9))] := hl
  refine lv_iload_n hx hb dX12_copy_0 rfl (lv_at hl 1 rfl) ?_
  refine vp_callSi ((va_runS (As := [.int (nI y1)]) (rest := []) ⟨hx, hb, hml, hown, hts⟩ (c_X12_isShelf_t l dC dI cI cD cR y1 (by first | omega | assumption | exact gnd _ | exact gkn _ | exact Nat.lt_trans (gkn _) (by decide) | exact Nat.lt_trans (gnd _) (by decide) | exact Nat.lt_of_le_of_lt (pcN_le _) (by decide))) (va_cwS 1 hts gX12_copy_X12_isShelf rfl rfl rfl (by decide +kernel) ⟨Nat.le_of_ble_eq_true rfl, Nat.le_of_ble_eq_true rfl⟩) (preS_R hCX (trivial)) rfl rfl hl.1 rfl (lv_room (Nat.le_of_ble_eq_true rfl)) dX12_copy_1 ⟨Nat.le_of_ble_eq_true (by first | rfl | decide), Nat.le_of_ble_eq_true (by first | rfl | decide)⟩).run) (fun r_1 hr_1 => ?_)
  subst hr_1
  refine lv_if_eq (tgt := 14) hx hb dX12_copy_4 (by decide) (fun z => absurd z (by decide +kernel)) (fun _ => ?_)
  refine lv_iload_n hx hb dX12_copy_7 rfl (lv_at hl 3 rfl) ?_
  refine vp_callSi ((va_runS (As := [.int (nI y2)]) (rest := []) ⟨hx, hb, hml, hown, hts⟩ (c_X12_isShelf_t l dC dI cI cD cR y2 (by first | omega | assumption | exact gnd _ | exact gkn _ | exact Nat.lt_trans (gkn _) (by decide) | exact Nat.lt_trans (gnd _) (by decide) | exact Nat.lt_of_le_of_lt (pcN_le _) (by decide))) (va_cwS 1 hts gX12_copy_X12_isShelf rfl rfl rfl (by decide +kernel) ⟨Nat.le_of_ble_eq_true rfl, Nat.le_of_ble_eq_true rfl⟩) (preS_R hCX (trivial)) rfl rfl hl.1 rfl (lv_room (Nat.le_of_ble_eq_true rfl)) dX12_copy_8 ⟨Nat.le_of_ble_eq_true (by first | rfl | decide), Nat.le_of_ble_eq_true (by first | rfl | decide)⟩).run) (fun r_8 hr_8 => ?_)
  subst hr_8
  refine lv_if_ne (tgt := 16) hx hb dX12_copy_11 (by decide) (fun _ => ?_) (fun z => absurd z (by decide +kernel))
  refine lv_aload_n hx hb dX12_copy_16 rfl (lv_at hl 0 rfl) ?_
  refine va_get (D := (dC, dI)) (ci := 12) (v := .ref ak) (C := RX12) (T := TX12) (N := 20) hx hb hts (fun _ h => List.mem_cons_of_mem _ (List.mem_append_right _ h)) hown hK hP 0 rfl rfl 4 (by decide) (hts (.fieldLink RX12 22 "HoldsOnceDeniedModel" "kept" "[I") (by decide +kernel)) (fun _ h9 => h9) rfl dX12_copy_17 ?_
  refine lv_iload_n hx hb dX12_copy_20 rfl (lv_at hl 1 rfl) ?_
  refine ho_iald (v := nI (ke y1)) hx hb hK hP 1 0 rfl rfl (by omega) (by first | decide | omega) rfl dX12_copy_21 ?_
  refine ho_if_eq (tgt := 34) hx hb dX12_copy_22 (by decide) (by omega) (fun c_22 => ?_) (fun c_22 => ?_)
  · exfalso; omega
  refine lv_aload_n hx hb dX12_copy_25 rfl (lv_at hl 0 rfl) ?_
  refine va_get (D := (dC, dI)) (ci := 12) (v := .ref ak) (C := RX12) (T := TX12) (N := 20) hx hb hts (fun _ h => List.mem_cons_of_mem _ (List.mem_append_right _ h)) hown hK hP 0 rfl rfl 4 (by decide) (hts (.fieldLink RX12 22 "HoldsOnceDeniedModel" "kept" "[I") (by decide +kernel)) (fun _ h9 => h9) rfl dX12_copy_26 ?_
  refine lv_iload_n hx hb dX12_copy_29 rfl (lv_at hl 3 rfl) ?_
  refine ho_iald (v := nI (ke y2)) hx hb hK hP 1 0 rfl rfl (by omega) (by first | decide | omega) rfl dX12_copy_30 ?_
  refine ho_if_ne (tgt := 37) hx hb dX12_copy_31 (by decide) (by omega) (fun c_31 => ?_) (fun c_31 => ?_)
  · refine lv_aload_n hx hb dX12_copy_37 rfl (lv_at hl 0 rfl) ?_
    refine va_get (D := (dC, dI)) (ci := 12) (v := .ref ak) (C := RX12) (T := TX12) (N := 20) hx hb hts (fun _ h => List.mem_cons_of_mem _ (List.mem_append_right _ h)) hown hK hP 0 rfl rfl 4 (by decide) (hts (.fieldLink RX12 22 "HoldsOnceDeniedModel" "kept" "[I") (by decide +kernel)) (fun _ h9 => h9) rfl dX12_copy_38 ?_
    refine lv_iload_n hx hb dX12_copy_41 rfl (lv_at hl 1 rfl) ?_
    refine ho_iald (v := nI (ke y1)) hx hb hK hP 1 0 rfl rfl (by omega) (by first | decide | omega) rfl dX12_copy_42 ?_
    refine lv_iconst (v := nI 2) hx hb dX12_copy_43 (by decide +kernel) ?_
    refine ho_icmp_ne (tgt := 72) hx hb dX12_copy_44 (by decide) (by omega) (by omega) (fun c_44 => ?_) (fun c_44 => ?_)
    · exfalso; omega
    refine lv_aload_n hx hb dX12_copy_47 rfl (lv_at hl 0 rfl) ?_
    refine va_get (D := (dC, dI)) (ci := 12) (v := .ref ak) (C := RX12) (T := TX12) (N := 20) hx hb hts (fun _ h => List.mem_cons_of_mem _ (List.mem_append_right _ h)) hown hK hP 0 rfl rfl 4 (by decide) (hts (.fieldLink RX12 22 "HoldsOnceDeniedModel" "kept" "[I") (by decide +kernel)) (fun _ h9 => h9) rfl dX12_copy_48 ?_
    refine lv_iload_n hx hb dX12_copy_51 rfl (lv_at hl 3 rfl) ?_
    refine ho_iald (v := nI (ke y2)) hx hb hK hP 1 0 rfl rfl (by omega) (by first | decide | omega) rfl dX12_copy_52 ?_
    refine lv_iconst (v := nI 2) hx hb dX12_copy_53 (by decide +kernel) ?_
    refine ho_icmp_ne (tgt := 72) hx hb dX12_copy_54 (by decide) (by omega) (by omega) (fun c_54 => ?_) (fun c_54 => ?_)
    · exfalso; omega
    refine lv_aload_n hx hb dX12_copy_57 rfl (lv_at hl 0 rfl) ?_
    refine va_get (D := (dC, dI)) (ci := 12) (v := .ref ao) (C := RX12) (T := TX12) (N := 20) hx hb hts (fun _ h => List.mem_cons_of_mem _ (List.mem_append_right _ h)) hown hK hP 0 rfl rfl 5 (by decide) (hts (.fieldLink RX12 25 "HoldsOnceDeniedModel" "sort" "[I") (by decide +kernel)) (fun _ h9 => h9) rfl dX12_copy_58 ?_
    refine lv_iload_n hx hb dX12_copy_61 rfl (lv_at hl 1 rfl) ?_
    refine ho_iald (v := nI (so y1)) hx hb hK hP 2 0 rfl rfl (by omega) (by first | decide | omega) rfl dX12_copy_62 ?_
    refine lv_aload_n hx hb dX12_copy_63 rfl (lv_at hl 0 rfl) ?_
    refine va_get (D := (dC, dI)) (ci := 12) (v := .ref ao) (C := RX12) (T := TX12) (N := 20) hx hb hts (fun _ h => List.mem_cons_of_mem _ (List.mem_append_right _ h)) hown hK hP 0 rfl rfl 5 (by decide) (hts (.fieldLink RX12 25 "HoldsOnceDeniedModel" "sort" "[I") (by decide +kernel)) (fun _ h9 => h9) rfl dX12_copy_64 ?_
    refine lv_iload_n hx hb dX12_copy_67 rfl (lv_at hl 3 rfl) ?_
    refine ho_iald (v := nI (so y2)) hx hb hK hP 2 0 rfl rfl (by omega) (by first | decide | omega) rfl dX12_copy_68 ?_
    refine ho_icmp_eq (tgt := 75) hx hb dX12_copy_69 (by decide) (by omega) (by omega) (fun c_69 => ?_) (fun c_69 => ?_)
    · refine lv_iload hx hb dX12_copy_75 (lv_at hl 5 rfl) ?_
      refine ho_if_lt0 hx hb dX12_copy_77 (tgt := 116) (by decide) (by omega) ?_
      refine lv_iload_n hx hb dX12_copy_80 rfl (lv_at hl 2 rfl) ?_
      refine ho_if_lt0 hx hb dX12_copy_81 (tgt := 116) (by decide) (by omega) ?_
      refine lv_iload hx hb dX12_copy_84 (lv_at hl 4 rfl) ?_
      refine ho_if_lt0 hx hb dX12_copy_86 (tgt := 116) (by decide) (by omega) ?_
      refine lv_iload hx hb dX12_copy_89 (lv_at hl 5 rfl) ?_
      refine lv_aload_n hx hb dX12_copy_91 rfl (lv_at hl 0 rfl) ?_
      refine va_get (D := (dC, dI)) (ci := 12) (v := .ref az) (C := RX12) (T := TX12) (N := 20) hx hb hts (fun _ h => List.mem_cons_of_mem _ (List.mem_append_right _ h)) hown hK hP 0 rfl rfl 6 (by decide) (hts (.fieldLink RX12 28 "HoldsOnceDeniedModel" "size" "[I") (by decide +kernel)) (fun _ h9 => h9) rfl dX12_copy_92 ?_
      refine lv_iload_n hx hb dX12_copy_95 rfl (lv_at hl 1 rfl) ?_
      refine ho_iald (v := nI (zz y1)) hx hb hK hP 3 0 rfl rfl (by omega) (by first | decide | omega) rfl dX12_copy_96 ?_
      refine lv_iload_n hx hb dX12_copy_97 rfl (lv_at hl 2 rfl) ?_
      refine ho_isub hx hb dX12_copy_98 (by omega) ?_
      refine ho_icmp_gt (tgt := 116) hx hb dX12_copy_99 (by decide) (by omega) (by omega) (fun c_99 => ?_) (fun c_99 => ?_)
      · exfalso; omega
      refine lv_iload hx hb dX12_copy_102 (lv_at hl 5 rfl) ?_
      refine lv_aload_n hx hb dX12_copy_104 rfl (lv_at hl 0 rfl) ?_
      refine va_get (D := (dC, dI)) (ci := 12) (v := .ref az) (C := RX12) (T := TX12) (N := 20) hx hb hts (fun _ h => List.mem_cons_of_mem _ (List.mem_append_right _ h)) hown hK hP 0 rfl rfl 6 (by decide) (hts (.fieldLink RX12 28 "HoldsOnceDeniedModel" "size" "[I") (by decide +kernel)) (fun _ h9 => h9) rfl dX12_copy_105 ?_
      refine lv_iload_n hx hb dX12_copy_108 rfl (lv_at hl 3 rfl) ?_
      refine ho_iald (v := nI (zz y2)) hx hb hK hP 3 0 rfl rfl (by omega) (by first | decide | omega) rfl dX12_copy_109 ?_
      refine lv_iload hx hb dX12_copy_110 (lv_at hl 4 rfl) ?_
      refine ho_isub hx hb dX12_copy_112 (by omega) ?_
      refine ho_icmp_le (tgt := 119) hx hb dX12_copy_113 (by decide) (by omega) (by omega) (fun c_113 => ?_) (fun c_113 => ?_)
      · rcases Nat.lt_or_ge j9 i9 with hji | hji
        · refine lv_iconst (v := nI 0) hx hb dX12_copy_119 (by decide +kernel) ?_
          refine lv_istore (lv' := [(6, .int (nI 0)), (0, .ref y), (1, .int (nI y1)), (2, .int (nI i9)), (3, .int (nI y2)), (4, .int (nI j9)), (5, .int (nI n9))]) hx hb dX12_copy_120 hl (by decide) rfl (fun ls hl => ?_)
          rw [← cpE_0 el (100 * y1 + i9) (100 * y2 + j9)] at hP hD
          have hP : va_P (dC, dI) vwCl ([(y, .inr (12, [.ref as, .ref ai, .ref ar, .ref am, .ref ak, .ref ao, .ref az, .ref ae, .ref aq, .ref af, .int (bI hi), .int th, .int (nI po), .int (nI ba), .int (nI en), .ref an, .ref aw, .ref ax, .ref ap, .int se]))] ++ [(ak, .inl (cI, 8, .inl (nF ke)))] ++ [(ao, .inl (cI, 8, .inl (nF so)))] ++ [(az, .inl (cI, 8, .inl (nF zz)))] ++ [(ae, .inl (cI, 800, .inl (cpE el (100 * y1 + i9) (100 * y2 + j9) 0)))]) s.heap := hP
          have hD : va_D A ([(y, .inr (12, [.ref as, .ref ai, .ref ar, .ref am, .ref ak, .ref ao, .ref az, .ref ae, .ref aq, .ref af, .int (bI hi), .int th, .int (nI po), .int (nI ba), .int (nI en), .ref an, .ref aw, .ref ax, .ref ap, .int se]))] ++ [(ak, .inl (cI, 8, .inl (nF ke)))] ++ [(ao, .inl (cI, 8, .inl (nF so)))] ++ [(az, .inl (cI, 8, .inl (nF zz)))] ++ [(ae, .inl (cI, 800, .inl (cpE el (100 * y1 + i9) (100 * y2 + j9) 0)))]) := hD
          refine ho_lpW (T := Nat) 8 (fun x9 => ([(y, .inr (12, [.ref as, .ref ai, .ref ar, .ref am, .ref ak, .ref ao, .ref az, .ref ae, .ref aq, .ref af, .int (bI hi), .int th, .int (nI po), .int (nI ba), .int (nI en), .ref an, .ref aw, .ref ax, .ref ap, .int se]))] ++ [(ak, .inl (cI, 8, .inl (nF ke)))] ++ [(ao, .inl (cI, 8, .inl (nF so)))] ++ [(az, .inl (cI, 8, .inl (nF zz)))] ++ [(ae, .inl (cI, 800, .inl (cpE el (100 * y1 + i9) (100 * y2 + j9) x9)))] : va_W)) (fun x9 => [(6, .int (nI x9)), (0, .ref y), (1, .int (nI y1)), (2, .int (nI i9)), (3, .int (nI y2)), (4, .int (nI j9)), (5, .int (nI n9))]) (fun x9 => []) (fun x9 => (x9 ≤ n9)) (fun x9 => n9 - x9) 0 (by omega) (lv_sub hl [0, 1, 2, 3, 4, 5, 6] rfl) hP hD hS ?_
          intro fu122 mm H locs ls hI hm122 hP hD hS hl ih
          have hm := hI
          have hl : lv_has ls 8 [(6, .int (nI mm)), (0, .ref y), (1, .int (nI y1)), (2, .int (nI i9)), (3, .int (nI y2)), (4, .int (nI j9)), (5, .int (nI n9))] := hl
          have hm : mm ≤ n9 := hm
          have hm122 : n9 - mm < fu122 + 1 := hm122
          have hP : va_P (dC, dI) vwCl ([(y, .inr (12, [.ref as, .ref ai, .ref ar, .ref am, .ref ak, .ref ao, .ref az, .ref ae, .ref aq, .ref af, .int (bI hi), .int th, .int (nI po), .int (nI ba), .int (nI en), .ref an, .ref aw, .ref ax, .ref ap, .int se]))] ++ [(ak, .inl (cI, 8, .inl (nF ke)))] ++ [(ao, .inl (cI, 8, .inl (nF so)))] ++ [(az, .inl (cI, 8, .inl (nF zz)))] ++ [(ae, .inl (cI, 800, .inl (cpE el (100 * y1 + i9) (100 * y2 + j9) mm)))]) H := hP
          have hD : va_D A ([(y, .inr (12, [.ref as, .ref ai, .ref ar, .ref am, .ref ak, .ref ao, .ref az, .ref ae, .ref aq, .ref af, .int (bI hi), .int th, .int (nI po), .int (nI ba), .int (nI en), .ref an, .ref aw, .ref ax, .ref ap, .int se]))] ++ [(ak, .inl (cI, 8, .inl (nF ke)))] ++ [(ao, .inl (cI, 8, .inl (nF so)))] ++ [(az, .inl (cI, 8, .inl (nF zz)))] ++ [(ae, .inl (cI, 800, .inl (cpE el (100 * y1 + i9) (100 * y2 + j9) mm)))]) := hD
          refine W.eq (g2 := F0 m 122 ls []) rfl ?_
          have ih122 := ih
          refine lv_iload hx hb dX12_copy_122 (lv_at hl 0 rfl) ?_
          refine lv_iload hx hb dX12_copy_124 (lv_at hl 6 rfl) ?_
          refine ho_icmp_ge (tgt := 184) hx hb dX12_copy_126 (by decide) (by omega) (by omega) (fun c_126 => ?_) (fun c_126 => ?_)
          · refine lv_iload hx hb dX12_copy_184 (lv_at hl 6 rfl) ?_
            have hW9 : ([(y, .inr (12, [.ref as, .ref ai, .ref ar, .ref am, .ref ak, .ref ao, .ref az, .ref ae, .ref aq, .ref af, .int (bI hi), .int th, .int (nI po), .int (nI ba), .int (nI en), .ref an, .ref aw, .ref ax, .ref ap, .int se]))] ++ [(ak, .inl (cI, 8, .inl (nF ke)))] ++ [(ao, .inl (cI, 8, .inl (nF so)))] ++ [(az, .inl (cI, 8, .inl (nF zz)))] ++ [(ae, .inl (cI, 800, .inl (cpE el (100 * y1 + i9) (100 * y2 + j9) mm)))] : va_W) = [(y, .inr (12, [.ref as, .ref ai, .ref ar, .ref am, .ref ak, .ref ao, .ref az, .ref ae, .ref aq, .ref af, .int (bI hi), .int th, .int (nI po), .int (nI ba), .int (nI en), .ref an, .ref aw, .ref ax, .ref ap, .int se]))] ++ [(ak, .inl (cI, 8, .inl (nF ke)))] ++ [(ao, .inl (cI, 8, .inl (nF so)))] ++ [(az, .inl (cI, 8, .inl (nF zz)))] ++ [(ae, .inl (cI, 800, .inl (cpE el (100 * y1 + i9) (100 * y2 + j9) n9)))] := by first | (rw [show mm = n9 by omega, cpD_n]; done) | (rw [show mm = n9 by omega]; done)
            rw [hW9] at hP hD
            exact W.iret (v := nI n9) hx hb hr (fun T9 hT9 hW9 => ⟨⟨_, (), rfl, rfl, by rw [hT9]; exact hP, hD⟩, hS.F hT9⟩) hS.2.2 dX12_copy_186
          refine lv_iload_n hx hb dX12_copy_129 rfl (lv_at hl 3 rfl) ?_
          refine lv_iload hx hb dX12_copy_130 (lv_at hl 5 rfl) ?_
          refine ho_icmp_le (tgt := 140) hx hb dX12_copy_132 (by decide) (by omega) (by omega) (fun c_132 => ?_) (fun c_132 => ?_)
          · exfalso; omega
          refine lv_iload hx hb dX12_copy_135 (lv_at hl 0 rfl) ?_
          refine lv_goto (tgt := 147) hx hb dX12_copy_137 (by decide) ?_
          refine lv_istore (lv' := [(7, .int (nI mm)), (6, .int (nI mm)), (0, .ref y), (1, .int (nI y1)), (2, .int (nI i9)), (3, .int (nI y2)), (4, .int (nI j9)), (5, .int (nI n9))]) hx hb dX12_copy_147 hl (by decide) rfl (fun ls hl => ?_)
          refine lv_aload_n hx hb dX12_copy_149 rfl (lv_at hl 2 rfl) ?_
          refine va_get (D := (dC, dI)) (ci := 12) (v := .ref ae) (C := RX12) (T := TX12) (N := 20) hx hb hts (fun _ h => List.mem_cons_of_mem _ (List.mem_append_right _ h)) hown hK hP 0 rfl rfl 7 (by decide) (hts (.fieldLink RX12 31 "HoldsOnceDeniedModel" "element" "[I") (by decide +kernel)) (fun _ h9 => h9) rfl dX12_copy_150 ?_
          refine lv_bipush (v := nI 100) hx hb dX12_copy_153 (by decide +kernel) ?_
          refine lv_iload_n hx hb dX12_copy_155 rfl (lv_at hl 5 rfl) ?_
          refine ho_imul hx hb dX12_copy_156 ?_
          refine lv_iload hx hb dX12_copy_157 (lv_at hl 6 rfl) ?_
          refine ho_iadd hx hb dX12_copy_159 ?_
          refine lv_iload hx hb dX12_copy_160 (lv_at hl 0 rfl) ?_
          refine ho_iadd hx hb dX12_copy_162 ?_
          refine lv_aload_n hx hb dX12_copy_163 rfl (lv_at hl 2 rfl) ?_
          refine va_get (D := (dC, dI)) (ci := 12) (v := .ref ae) (C := RX12) (T := TX12) (N := 20) hx hb hts (fun _ h => List.mem_cons_of_mem _ (List.mem_append_right _ h)) hown hK hP 0 rfl rfl 7 (by decide) (hts (.fieldLink RX12 31 "HoldsOnceDeniedModel" "element" "[I") (by decide +kernel)) (fun _ h9 => h9) rfl dX12_copy_164 ?_
          refine lv_bipush (v := nI 100) hx hb dX12_copy_167 (by decide +kernel) ?_
          refine lv_iload_n hx hb dX12_copy_169 rfl (lv_at hl 3 rfl) ?_
          refine ho_imul hx hb dX12_copy_170 ?_
          refine lv_iload_n hx hb dX12_copy_171 rfl (lv_at hl 4 rfl) ?_
          refine ho_iadd hx hb dX12_copy_172 ?_
          refine lv_iload hx hb dX12_copy_173 (lv_at hl 0 rfl) ?_
          refine ho_iadd hx hb dX12_copy_175 ?_
          refine ho_iald (v := ((cpE el (100 * y1 + i9) (100 * y2 + j9) mm) (((100 * y1) + i9) + mm))) hx hb hK hP 4 0 rfl rfl (by omega) (by first | decide | omega) rfl dX12_copy_176 ?_
          refine ho_iast (g := upd (cpE el (100 * y1 + i9) (100 * y2 + j9) mm) (((100 * y2) + j9) + mm) ((cpE el (100 * y1 + i9) (100 * y2 + j9) mm) (((100 * y1) + i9) + mm))) hx hb hK hP hD hS 4 0 rfl rfl (by omega) (by first | decide | omega) rfl dX12_copy_177 (fun H locs hP hD hS => ?_)
          have hP : va_P (dC, dI) vwCl ([(y, .inr (12, [.ref as, .ref ai, .ref ar, .ref am, .ref ak, .ref ao, .ref az, .ref ae, .ref aq, .ref af, .int (bI hi), .int th, .int (nI po), .int (nI ba), .int (nI en), .ref an, .ref aw, .ref ax, .ref ap, .int se]))] ++ [(ak, .inl (cI, 8, .inl (nF ke)))] ++ [(ao, .inl (cI, 8, .inl (nF so)))] ++ [(az, .inl (cI, 8, .inl (nF zz)))] ++ [(ae, .inl (cI, 800, .inl (upd (cpE el (100 * y1 + i9) (100 * y2 + j9) mm) (((100 * y2) + j9) + mm) ((cpE el (100 * y1 + i9) (100 * y2 + j9) mm) (((100 * y1) + i9) + mm)))))]) H := hP
          have hD : va_D A ([(y, .inr (12, [.ref as, .ref ai, .ref ar, .ref am, .ref ak, .ref ao, .ref az, .ref ae, .ref aq, .ref af, .int (bI hi), .int th, .int (nI po), .int (nI ba), .int (nI en), .ref an, .ref aw, .ref ax, .ref ap, .int se]))] ++ [(ak, .inl (cI, 8, .inl (nF ke)))] ++ [(ao, .inl (cI, 8, .inl (nF so)))] ++ [(az, .inl (cI, 8, .inl (nF zz)))] ++ [(ae, .inl (cI, 800, .inl (upd (cpE el (100 * y1 + i9) (100 * y2 + j9) mm) (((100 * y2) + j9) + mm) ((cpE el (100 * y1 + i9) (100 * y2 + j9) mm) (((100 * y1) + i9) + mm)))))]) := hD
          refine ho_iinc (lv' := [(6, .int (nI (mm + 1))), (7, .int (nI mm)), (0, .ref y), (1, .int (nI y1)), (2, .int (nI i9)), (3, .int (nI y2)), (4, .int (nI j9)), (5, .int (nI n9))]) (a := mm) (b := 1) hx hb dX12_copy_178 hl (k := 1) rfl rfl (by decide) rfl (fun ls hl => ?_)
          refine lv_goto (tgt := 122) hx hb dX12_copy_181 (by decide) ?_
          have hW9 : ([(y, .inr (12, [.ref as, .ref ai, .ref ar, .ref am, .ref ak, .ref ao, .ref az, .ref ae, .ref aq, .ref af, .int (bI hi), .int th, .int (nI po), .int (nI ba), .int (nI en), .ref an, .ref aw, .ref ax, .ref ap, .int se]))] ++ [(ak, .inl (cI, 8, .inl (nF ke)))] ++ [(ao, .inl (cI, 8, .inl (nF so)))] ++ [(az, .inl (cI, 8, .inl (nF zz)))] ++ [(ae, .inl (cI, 800, .inl (upd (cpE el (100 * y1 + i9) (100 * y2 + j9) mm) (((100 * y2) + j9) + mm) ((cpE el (100 * y1 + i9) (100 * y2 + j9) mm) (((100 * y1) + i9) + mm)))))] : va_W) = [(y, .inr (12, [.ref as, .ref ai, .ref ar, .ref am, .ref ak, .ref ao, .ref az, .ref ae, .ref aq, .ref af, .int (bI hi), .int th, .int (nI po), .int (nI ba), .int (nI en), .ref an, .ref aw, .ref ax, .ref ap, .int se]))] ++ [(ak, .inl (cI, 8, .inl (nF ke)))] ++ [(ao, .inl (cI, 8, .inl (nF so)))] ++ [(az, .inl (cI, 8, .inl (nF zz)))] ++ [(ae, .inl (cI, 800, .inl (cpE el (100 * y1 + i9) (100 * y2 + j9) (mm + 1))))] := by rw [cpE_up (by omega)]
          rw [hW9] at hP hD
          exact ih122 (mm + 1) _ _ _ (by omega) (show n9 - (mm + 1) < fu122 from (by omega)) hP hD hS (lv_sub hl [0, 2, 3, 4, 5, 6, 7] rfl)
        refine lv_iconst (v := nI 0) hx hb dX12_copy_119 (by decide +kernel) ?_
        refine lv_istore (lv' := [(6, .int (nI 0)), (0, .ref y), (1, .int (nI y1)), (2, .int (nI i9)), (3, .int (nI y2)), (4, .int (nI j9)), (5, .int (nI n9))]) hx hb dX12_copy_120 hl (by decide) rfl (fun ls hl => ?_)
        rw [← cpD_0 el (100 * y1 + i9) (100 * y2 + j9) n9] at hP hD
        have hP : va_P (dC, dI) vwCl ([(y, .inr (12, [.ref as, .ref ai, .ref ar, .ref am, .ref ak, .ref ao, .ref az, .ref ae, .ref aq, .ref af, .int (bI hi), .int th, .int (nI po), .int (nI ba), .int (nI en), .ref an, .ref aw, .ref ax, .ref ap, .int se]))] ++ [(ak, .inl (cI, 8, .inl (nF ke)))] ++ [(ao, .inl (cI, 8, .inl (nF so)))] ++ [(az, .inl (cI, 8, .inl (nF zz)))] ++ [(ae, .inl (cI, 800, .inl (cpD el (100 * y1 + i9) (100 * y2 + j9) n9 0)))]) s.heap := hP
        have hD : va_D A ([(y, .inr (12, [.ref as, .ref ai, .ref ar, .ref am, .ref ak, .ref ao, .ref az, .ref ae, .ref aq, .ref af, .int (bI hi), .int th, .int (nI po), .int (nI ba), .int (nI en), .ref an, .ref aw, .ref ax, .ref ap, .int se]))] ++ [(ak, .inl (cI, 8, .inl (nF ke)))] ++ [(ao, .inl (cI, 8, .inl (nF so)))] ++ [(az, .inl (cI, 8, .inl (nF zz)))] ++ [(ae, .inl (cI, 800, .inl (cpD el (100 * y1 + i9) (100 * y2 + j9) n9 0)))]) := hD
        refine ho_lpW (T := Nat) 8 (fun x9 => ([(y, .inr (12, [.ref as, .ref ai, .ref ar, .ref am, .ref ak, .ref ao, .ref az, .ref ae, .ref aq, .ref af, .int (bI hi), .int th, .int (nI po), .int (nI ba), .int (nI en), .ref an, .ref aw, .ref ax, .ref ap, .int se]))] ++ [(ak, .inl (cI, 8, .inl (nF ke)))] ++ [(ao, .inl (cI, 8, .inl (nF so)))] ++ [(az, .inl (cI, 8, .inl (nF zz)))] ++ [(ae, .inl (cI, 800, .inl (cpD el (100 * y1 + i9) (100 * y2 + j9) n9 x9)))] : va_W)) (fun x9 => [(6, .int (nI x9)), (0, .ref y), (1, .int (nI y1)), (2, .int (nI i9)), (3, .int (nI y2)), (4, .int (nI j9)), (5, .int (nI n9))]) (fun x9 => []) (fun x9 => (x9 ≤ n9)) (fun x9 => n9 - x9) 0 (by omega) (lv_sub hl [0, 1, 2, 3, 4, 5, 6] rfl) hP hD hS ?_
        intro fu122 mm H locs ls hI hm122 hP hD hS hl ih
        have hm := hI
        have hl : lv_has ls 8 [(6, .int (nI mm)), (0, .ref y), (1, .int (nI y1)), (2, .int (nI i9)), (3, .int (nI y2)), (4, .int (nI j9)), (5, .int (nI n9))] := hl
        have hm : mm ≤ n9 := hm
        have hm122 : n9 - mm < fu122 + 1 := hm122
        have hP : va_P (dC, dI) vwCl ([(y, .inr (12, [.ref as, .ref ai, .ref ar, .ref am, .ref ak, .ref ao, .ref az, .ref ae, .ref aq, .ref af, .int (bI hi), .int th, .int (nI po), .int (nI ba), .int (nI en), .ref an, .ref aw, .ref ax, .ref ap, .int se]))] ++ [(ak, .inl (cI, 8, .inl (nF ke)))] ++ [(ao, .inl (cI, 8, .inl (nF so)))] ++ [(az, .inl (cI, 8, .inl (nF zz)))] ++ [(ae, .inl (cI, 800, .inl (cpD el (100 * y1 + i9) (100 * y2 + j9) n9 mm)))]) H := hP
        have hD : va_D A ([(y, .inr (12, [.ref as, .ref ai, .ref ar, .ref am, .ref ak, .ref ao, .ref az, .ref ae, .ref aq, .ref af, .int (bI hi), .int th, .int (nI po), .int (nI ba), .int (nI en), .ref an, .ref aw, .ref ax, .ref ap, .int se]))] ++ [(ak, .inl (cI, 8, .inl (nF ke)))] ++ [(ao, .inl (cI, 8, .inl (nF so)))] ++ [(az, .inl (cI, 8, .inl (nF zz)))] ++ [(ae, .inl (cI, 800, .inl (cpD el (100 * y1 + i9) (100 * y2 + j9) n9 mm)))]) := hD
        refine W.eq (g2 := F0 m 122 ls []) rfl ?_
        have ih122 := ih
        refine lv_iload hx hb dX12_copy_122 (lv_at hl 0 rfl) ?_
        refine lv_iload hx hb dX12_copy_124 (lv_at hl 6 rfl) ?_
        refine ho_icmp_ge (tgt := 184) hx hb dX12_copy_126 (by decide) (by omega) (by omega) (fun c_126 => ?_) (fun c_126 => ?_)
        · refine lv_iload hx hb dX12_copy_184 (lv_at hl 6 rfl) ?_
          have hW9 : ([(y, .inr (12, [.ref as, .ref ai, .ref ar, .ref am, .ref ak, .ref ao, .ref az, .ref ae, .ref aq, .ref af, .int (bI hi), .int th, .int (nI po), .int (nI ba), .int (nI en), .ref an, .ref aw, .ref ax, .ref ap, .int se]))] ++ [(ak, .inl (cI, 8, .inl (nF ke)))] ++ [(ao, .inl (cI, 8, .inl (nF so)))] ++ [(az, .inl (cI, 8, .inl (nF zz)))] ++ [(ae, .inl (cI, 800, .inl (cpD el (100 * y1 + i9) (100 * y2 + j9) n9 mm)))] : va_W) = [(y, .inr (12, [.ref as, .ref ai, .ref ar, .ref am, .ref ak, .ref ao, .ref az, .ref ae, .ref aq, .ref af, .int (bI hi), .int th, .int (nI po), .int (nI ba), .int (nI en), .ref an, .ref aw, .ref ax, .ref ap, .int se]))] ++ [(ak, .inl (cI, 8, .inl (nF ke)))] ++ [(ao, .inl (cI, 8, .inl (nF so)))] ++ [(az, .inl (cI, 8, .inl (nF zz)))] ++ [(ae, .inl (cI, 800, .inl (cpE el (100 * y1 + i9) (100 * y2 + j9) n9)))] := by first | (rw [show mm = n9 by omega, cpD_n]; done) | (rw [show mm = n9 by omega]; done)
          rw [hW9] at hP hD
          exact W.iret (v := nI n9) hx hb hr (fun T9 hT9 hW9 => ⟨⟨_, (), rfl, rfl, by rw [hT9]; exact hP, hD⟩, hS.F hT9⟩) hS.2.2 dX12_copy_186
        refine lv_iload_n hx hb dX12_copy_129 rfl (lv_at hl 3 rfl) ?_
        refine lv_iload hx hb dX12_copy_130 (lv_at hl 5 rfl) ?_
        refine ho_icmp_le (tgt := 140) hx hb dX12_copy_132 (by decide) (by omega) (by omega) (fun c_132 => ?_) (fun c_132 => ?_)
        · refine lv_iload hx hb dX12_copy_140 (lv_at hl 6 rfl) ?_
          refine lv_iconst (v := nI 1) hx hb dX12_copy_142 (by decide +kernel) ?_
          refine ho_isub hx hb dX12_copy_143 (by omega) ?_
          refine lv_iload hx hb dX12_copy_144 (lv_at hl 0 rfl) ?_
          refine ho_isub hx hb dX12_copy_146 (by omega) ?_
          refine lv_istore (lv' := [(7, .int (nI ((n9 - 1) - mm))), (6, .int (nI mm)), (0, .ref y), (1, .int (nI y1)), (2, .int (nI i9)), (3, .int (nI y2)), (4, .int (nI j9)), (5, .int (nI n9))]) hx hb dX12_copy_147 hl (by decide) rfl (fun ls hl => ?_)
          refine lv_aload_n hx hb dX12_copy_149 rfl (lv_at hl 2 rfl) ?_
          refine va_get (D := (dC, dI)) (ci := 12) (v := .ref ae) (C := RX12) (T := TX12) (N := 20) hx hb hts (fun _ h => List.mem_cons_of_mem _ (List.mem_append_right _ h)) hown hK hP 0 rfl rfl 7 (by decide) (hts (.fieldLink RX12 31 "HoldsOnceDeniedModel" "element" "[I") (by decide +kernel)) (fun _ h9 => h9) rfl dX12_copy_150 ?_
          refine lv_bipush (v := nI 100) hx hb dX12_copy_153 (by decide +kernel) ?_
          refine lv_iload_n hx hb dX12_copy_155 rfl (lv_at hl 5 rfl) ?_
          refine ho_imul hx hb dX12_copy_156 ?_
          refine lv_iload hx hb dX12_copy_157 (lv_at hl 6 rfl) ?_
          refine ho_iadd hx hb dX12_copy_159 ?_
          refine lv_iload hx hb dX12_copy_160 (lv_at hl 0 rfl) ?_
          refine ho_iadd hx hb dX12_copy_162 ?_
          refine lv_aload_n hx hb dX12_copy_163 rfl (lv_at hl 2 rfl) ?_
          refine va_get (D := (dC, dI)) (ci := 12) (v := .ref ae) (C := RX12) (T := TX12) (N := 20) hx hb hts (fun _ h => List.mem_cons_of_mem _ (List.mem_append_right _ h)) hown hK hP 0 rfl rfl 7 (by decide) (hts (.fieldLink RX12 31 "HoldsOnceDeniedModel" "element" "[I") (by decide +kernel)) (fun _ h9 => h9) rfl dX12_copy_164 ?_
          refine lv_bipush (v := nI 100) hx hb dX12_copy_167 (by decide +kernel) ?_
          refine lv_iload_n hx hb dX12_copy_169 rfl (lv_at hl 3 rfl) ?_
          refine ho_imul hx hb dX12_copy_170 ?_
          refine lv_iload_n hx hb dX12_copy_171 rfl (lv_at hl 4 rfl) ?_
          refine ho_iadd hx hb dX12_copy_172 ?_
          refine lv_iload hx hb dX12_copy_173 (lv_at hl 0 rfl) ?_
          refine ho_iadd hx hb dX12_copy_175 ?_
          refine ho_iald (v := ((cpD el (100 * y1 + i9) (100 * y2 + j9) n9 mm) (((100 * y1) + i9) + ((n9 - 1) - mm)))) hx hb hK hP 4 0 rfl rfl (by omega) (by first | decide | omega) rfl dX12_copy_176 ?_
          refine ho_iast (g := upd (cpD el (100 * y1 + i9) (100 * y2 + j9) n9 mm) (((100 * y2) + j9) + ((n9 - 1) - mm)) ((cpD el (100 * y1 + i9) (100 * y2 + j9) n9 mm) (((100 * y1) + i9) + ((n9 - 1) - mm)))) hx hb hK hP hD hS 4 0 rfl rfl (by omega) (by first | decide | omega) rfl dX12_copy_177 (fun H locs hP hD hS => ?_)
          have hP : va_P (dC, dI) vwCl ([(y, .inr (12, [.ref as, .ref ai, .ref ar, .ref am, .ref ak, .ref ao, .ref az, .ref ae, .ref aq, .ref af, .int (bI hi), .int th, .int (nI po), .int (nI ba), .int (nI en), .ref an, .ref aw, .ref ax, .ref ap, .int se]))] ++ [(ak, .inl (cI, 8, .inl (nF ke)))] ++ [(ao, .inl (cI, 8, .inl (nF so)))] ++ [(az, .inl (cI, 8, .inl (nF zz)))] ++ [(ae, .inl (cI, 800, .inl (upd (cpD el (100 * y1 + i9) (100 * y2 + j9) n9 mm) (((100 * y2) + j9) + ((n9 - 1) - mm)) ((cpD el (100 * y1 + i9) (100 * y2 + j9) n9 mm) (((100 * y1) + i9) + ((n9 - 1) - mm))))))]) H := hP
          have hD : va_D A ([(y, .inr (12, [.ref as, .ref ai, .ref ar, .ref am, .ref ak, .ref ao, .ref az, .ref ae, .ref aq, .ref af, .int (bI hi), .int th, .int (nI po), .int (nI ba), .int (nI en), .ref an, .ref aw, .ref ax, .ref ap, .int se]))] ++ [(ak, .inl (cI, 8, .inl (nF ke)))] ++ [(ao, .inl (cI, 8, .inl (nF so)))] ++ [(az, .inl (cI, 8, .inl (nF zz)))] ++ [(ae, .inl (cI, 800, .inl (upd (cpD el (100 * y1 + i9) (100 * y2 + j9) n9 mm) (((100 * y2) + j9) + ((n9 - 1) - mm)) ((cpD el (100 * y1 + i9) (100 * y2 + j9) n9 mm) (((100 * y1) + i9) + ((n9 - 1) - mm))))))]) := hD
          refine ho_iinc (lv' := [(6, .int (nI (mm + 1))), (7, .int (nI ((n9 - 1) - mm))), (0, .ref y), (1, .int (nI y1)), (2, .int (nI i9)), (3, .int (nI y2)), (4, .int (nI j9)), (5, .int (nI n9))]) (a := mm) (b := 1) hx hb dX12_copy_178 hl (k := 1) rfl rfl (by decide) rfl (fun ls hl => ?_)
          refine lv_goto (tgt := 122) hx hb dX12_copy_181 (by decide) ?_
          have hW9 : ([(y, .inr (12, [.ref as, .ref ai, .ref ar, .ref am, .ref ak, .ref ao, .ref az, .ref ae, .ref aq, .ref af, .int (bI hi), .int th, .int (nI po), .int (nI ba), .int (nI en), .ref an, .ref aw, .ref ax, .ref ap, .int se]))] ++ [(ak, .inl (cI, 8, .inl (nF ke)))] ++ [(ao, .inl (cI, 8, .inl (nF so)))] ++ [(az, .inl (cI, 8, .inl (nF zz)))] ++ [(ae, .inl (cI, 800, .inl (upd (cpD el (100 * y1 + i9) (100 * y2 + j9) n9 mm) (((100 * y2) + j9) + ((n9 - 1) - mm)) ((cpD el (100 * y1 + i9) (100 * y2 + j9) n9 mm) (((100 * y1) + i9) + ((n9 - 1) - mm))))))] : va_W) = [(y, .inr (12, [.ref as, .ref ai, .ref ar, .ref am, .ref ak, .ref ao, .ref az, .ref ae, .ref aq, .ref af, .int (bI hi), .int th, .int (nI po), .int (nI ba), .int (nI en), .ref an, .ref aw, .ref ax, .ref ap, .int se]))] ++ [(ak, .inl (cI, 8, .inl (nF ke)))] ++ [(ao, .inl (cI, 8, .inl (nF so)))] ++ [(az, .inl (cI, 8, .inl (nF zz)))] ++ [(ae, .inl (cI, 800, .inl (cpD el (100 * y1 + i9) (100 * y2 + j9) n9 (mm + 1))))] := by rw [cpD_up (by omega) (by omega)]
          rw [hW9] at hP hD
          exact ih122 (mm + 1) _ _ _ (by omega) (show n9 - (mm + 1) < fu122 from (by omega)) hP hD hS (lv_sub hl [0, 2, 3, 4, 5, 6, 7] rfl)
        exfalso; omega
      exfalso; omega
    exfalso; omega
  exfalso; omega
