set_option maxHeartbeats 4000000 in
set_option maxRecDepth 100000 in
theorem c_X12_copy_t (l : Launch) (dC : Nat → ClassId) (dI : Nat → Nat → Nat) (cI cD cR : ClassId) (y as ai ar am ak ao az ae aq af : Nat) (hi : Bool) (th : Int32) (po ba en an aw ax ap : Nat) (se : Int32) (ke : Nat → Nat) (so : Nat → Nat) (zz : Nat → Nat) (el : Nat → Int32) (y1 i9 y2 j9 n9 : Nat) (sz : Nat) (hy1 : y1 < 8) (hy2 : y2 < 8) (hke1 : ke y1 = 2) (hke2 : ke y2 = 2) (hso : so y1 = so y2) (hi9 : i9 + n9 ≤ zz y1) (hj9 : j9 + n9 ≤ zz y2) (gzz : ∀ j, zz j ≤ 100) (gso : ∀ j, so j < 3) (gke2 : ∀ j, ke j ≤ 2) : Met l yX12_copy wsX12_copy ({ frames := 2, cells := 0, slots := 0, locals := 45 }) (pcR dC dI cI cD cR [.ref y, .int (nI y1), .int (nI i9), .int (nI y2), .int (nI j9), .int (nI n9)] (fun H => H.size = sz ∧ va_P (dC, dI) vwCl ([(y, .inr (12, [.ref as, .ref ai, .ref ar, .ref am, .ref ak, .ref ao, .ref az, .ref ae, .ref aq, .ref af, .int (bI hi), .int th, .int (nI po), .int (nI ba), .int (nI en), .ref an, .ref aw, .ref ax, .ref ap, .int se]))] ++ [(ak, .inl (cI, 8, .inl (nF ke)))] ++ [(ao, .inl (cI, 8, .inl (nF so)))] ++ [(az, .inl (cI, 8, .inl (nF zz)))] ++ [(ae, .inl (cI, 800, .inl el))]) H ∧ va_D (fun _ => True) ([(y, .inr (12, [.ref as, .ref ai, .ref ar, .ref am, .ref ak, .ref ao, .ref az, .ref ae, .ref aq, .ref af, .int (bI hi), .int th, .int (nI po), .int (nI ba), .int (nI en), .ref an, .ref aw, .ref ax, .ref ap, .int se]))] ++ [(ak, .inl (cI, 8, .inl (nF ke)))] ++ [(ao, .inl (cI, 8, .inl (nF so)))] ++ [(az, .inl (cI, 8, .inl (nF zz)))] ++ [(ae, .inl (cI, 800, .inl el))]))) (va_Qi (fun r (_ : Unit) => r = nI n9) (fun (_ : Unit) T9 => va_P (dC, dI) vwCl ([(y, .inr (12, [.ref as, .ref ai, .ref ar, .ref am, .ref ak, .ref ao, .ref az, .ref ae, .ref aq, .ref af, .int (bI hi), .int th, .int (nI po), .int (nI ba), .int (nI en), .ref an, .ref aw, .ref ax, .ref ap, .int se]))] ++ [(ak, .inl (cI, 8, .inl (nF ke)))] ++ [(ao, .inl (cI, 8, .inl (nF so)))] ++ [(az, .inl (cI, 8, .inl (nF zz)))] ++ [(ae, .inl (cI, 800, .inl (cpE el (100 * y1 + i9) (100 * y2 + j9) n9)))]) T9.heap ∧ va_D (va_A ([(y, .inr (12, [.ref as, .ref ai, .ref ar, .ref am, .ref ak, .ref ao, .ref az, .ref ae, .ref aq, .ref af, .int (bI hi), .int th, .int (nI po), .int (nI ba), .int (nI en), .ref an, .ref aw, .ref ax, .ref ap, .int se]))] ++ [(ak, .inl (cI, 8, .inl (nF ke)))] ++ [(ao, .inl (cI, 8, .inl (nF so)))] ++ [(az, .inl (cI, 8, .inl (nF zz)))] ++ [(ae, .inl (cI, 800, .inl el))]) sz) ([(y, .inr (12, [.ref as, .ref ai, .ref ar, .ref am, .ref ak, .ref ao, .ref az, .ref ae, .ref aq, .ref af, .int (bI hi), .int th, .int (nI po), .int (nI ba), .int (nI en), .ref an, .ref aw, .ref ax, .ref ap, .int se]))] ++ [(ak, .inl (cI, 8, .inl (nF ke)))] ++ [(ao, .inl (cI, 8, .inl (nF so)))] ++ [(az, .inl (cI, 8, .inl (nF zz)))] ++ [(ae, .inl (cI, 800, .inl (cpE el (100 * y1 + i9) (100 * y2 + j9) n9)))])) (va_A ([(y, .inr (12, [.ref as, .ref ai, .ref ar, .ref am, .ref ak, .ref ao, .ref az, .ref ae, .ref aq, .ref af, .int (bI hi), .int th, .int (nI po), .int (nI ba), .int (nI en), .ref an, .ref aw, .ref ax, .ref ap, .int se]))] ++ [(ak, .inl (cI, 8, .inl (nF ke)))] ++ [(ao, .inl (cI, 8, .inl (nF so)))] ++ [(az, .inl (cI, 8, .inl (nF zz)))] ++ [(ae, .inl (cI, 800, .inl el))]) sz)) 0 0 (va_A ([(y, .inr (12, [.ref as, .ref ai, .ref ar, .ref am, .ref ak, .ref ao, .ref az, .ref ae, .ref aq, .ref af, .int (bI hi), .int th, .int (nI po), .int (nI ba), .int (nI en), .ref an, .ref aw, .ref ax, .ref ap, .int se]))] ++ [(ak, .inl (cI, 8, .inl (nF ke)))] ++ [(ao, .inl (cI, 8, .inl (nF so)))] ++ [(az, .inl (cI, 8, .inl (nF zz)))] ++ [(ae, .inl (cI, 800, .inl el))]) sz) := by
  refine Met.ofW (cc := cX12_copy) (maxL := 8) (ret := (some .int)) (by decide) rfl ?_
  intro p e s m args below meth c s₁ B hml hv
  obtain ⟨rfl, hH0, hCX⟩ := hv
  have hx := B.exec
  have hb := B.bytes
  have hr := B.returns
  have hts := atoms_spec (ws := wsX12_copy) B.pre
  have hown : s.vm.findClass RX12 = some m.cls := findClass_of_methodNamed B.named
  have hlocks := B.notSynchronized
  have hK := hCX.1
  obtain ⟨hsz, hP, hD0⟩ := hH0
  subst hsz
  have hD := hD0.self (sz := s.heap.size)
  generalize hAe : va_A ([(y, .inr (12, [.ref as, .ref ai, .ref ar, .ref am, .ref ak, .ref ao, .ref az, .ref ae, .ref aq, .ref af, .int (bI hi), .int th, .int (nI po), .int (nI ba), .int (nI en), .ref an, .ref aw, .ref ax, .ref ap, .int se]))] ++ [(ak, .inl (cI, 8, .inl (nF ke)))] ++ [(ao, .inl (cI, 8, .inl (nF so)))] ++ [(az, .inl (cI, 8, .inl (nF zz)))] ++ [(ae, .inl (cI, 800, .inl el))]) s.heap.size = A at hD ⊢
  have hA : ∀ q : Nat, s.heap.size ≤ q → A q := fun q h => by rw [← hAe]; exact Or.inr h
  have hS : va_S A s.heap s.heap [] := va_S.rf
  have hP : va_P (dC, dI) vwCl ([(y, .inr (12, [.ref as, .ref ai, .ref ar, .ref am, .ref ak, .ref ao, .ref az, .ref ae, .ref aq, .ref af, .int (bI hi), .int th, .int (nI po), .int (nI ba), .int (nI en), .ref an, .ref aw, .ref ax, .ref ap, .int se]))] ++ [(ak, .inl (cI, 8, .inl (nF ke)))] ++ [(ao, .inl (cI, 8, .inl (nF so)))] ++ [(az, .inl (cI, 8, .inl (nF zz)))] ++ [(ae, .inl (cI, 800, .inl el))]) s.heap := hP
  have hz1 := gzz y1
  have hz2 := gzz y2
  have hs1 := gso y1
  have hs2 := gso y2
  have hl := lv_entry ([.ref y, .int (nI y1), .int (nI i9), .int (nI y2), .int (nI j9), .int (nI n9)]) (n := 8) (Nat.le_of_ble_eq_true rfl)
  rw [lg_entry_eq]
  generalize (lg_sl ([.ref y, .int (nI y1), .int (nI i9), .int (nI y2), .int (nI j9), .int (nI n9)]) ++ List.replicate (8 - (lg_sl ([.ref y, .int (nI y1), .int (nI i9), .int (nI y2), .int (nI j9), .int (nI n9)])).length) Slot.unset).toArray = ls at hl ⊢
  have hl : lv_has ls 8 [(0, .ref y), (1, .int (nI y1)), (2, .int (nI i9)), (3, .int (nI y2)), (4, .int (nI j9)), (5, .int (nI n9))] := hl
  refine lv_iload_n hx hb dX12_copy_0 rfl (lv_at hl 1 rfl) ?_
  refine vp_callSi ((va_runS (As := [.int (nI y1)]) (rest := []) ⟨hx, hb, hml, hown, hts⟩ (c_X12_isShelf_t l dC dI cI cD cR y1 (by first | omega | assumption | exact gnd _ | exact gkn _ | exact Nat.lt_trans (gkn _) (by decide) | exact Nat.lt_trans (gnd _) (by decide) | exact Nat.lt_of_le_of_lt (pcN_le _) (by decide))) (va_cwS 1 hts gX12_copy_X12_isShelf rfl rfl rfl (by decide +kernel) ⟨Nat.le_of_ble_eq_true rfl, Nat.le_of_ble_eq_true rfl⟩) (preS_R hCX (trivial)) rfl rfl hl.1 rfl (lv_room (Nat.le_of_ble_eq_true rfl)) dX12_copy_1 ⟨Nat.le_of_ble_eq_true (by first | rfl | decide), Nat.le_of_ble_eq_true (by first | rfl | decide)⟩).run) (fun r_1 hr_1 => ?_)
  subst hr_1
  refine lv_if_eq (tgt := 14) hx hb dX12_copy_4 (by decide) (fun z => absurd z (by decide +kernel)) (fun _ => ?_)
  refine lv_iload_n hx hb dX12_copy_7 rfl (lv_at hl 3 rfl) ?_
  refine vp_callSi ((va_runS (As := [.int (nI y2)]) (rest := []) ⟨hx, hb, hml, hown, hts⟩ (c_X12_isShelf_t l dC dI cI cD cR y2 (by first | omega | assumption | exact gnd _ | exact gkn _ | exact Nat.lt_trans (gkn _) (by decide) | exact Nat.lt_trans (gnd _) (by decide) | exact Nat.lt_of_le_of_lt (pcN_le _) (by decide))) (va_cwS 1 hts gX12_copy_X12_isShelf rfl rfl rfl (by decide +kernel) ⟨Nat.le_of_ble_eq_true rfl, Nat.le_of_ble_eq_true rfl⟩) (preS_R hCX (trivial)) rfl rfl hl.1 rfl (lv_room (Nat.le_of_ble_eq_true rfl)) dX12_copy_8 ⟨Nat.le_of_ble_eq_true (by first | rfl | decide), Nat.le_of_ble_eq_true (by first | rfl | decide)⟩).run) (fun r_8 hr_8 => ?_)
  subst hr_8
  refine lv_if_ne (tgt := 16) hx hb dX12_copy_11 (by decide) (fun _ => ?_) (fun z => absurd z (by decide +kernel))
  refine lv_aload_n hx hb dX12_copy_16 rfl (lv_at hl 0 rfl) ?_
  refine va_get (D := (dC, dI)) (ci := 12) (v := .ref ak) (C := RX12) (T := TX12) (N := 20) hx hb hts (fun _ h => List.mem_cons_of_mem _ (List.mem_append_right _ h)) hown hK hP 0 rfl rfl 4 (by decide) (hts (.fieldLink RX12 22 "HoldsOnceDeniedModel" "kept" "[I") (by decide +kernel)) (fun _ h9 => h9) rfl dX12_copy_17 ?_
  refine lv_iload_n hx hb dX12_copy_20 rfl (lv_at hl 1 rfl) ?_
  refine ho_iald (v := nI (ke y1)) hx hb hK hP 1 0 rfl rfl (by omega) (by first | decide | omega) rfl dX12_copy_21 ?_
  refine ho_if_eq (tgt := 34) hx hb dX12_copy_22 (by decide) (by omega) (fun c_22 => ?_) (fun c_22 => ?_)
  · exfalso; omega
  refine lv_aload_n hx hb dX12_copy_25 rfl (lv_at hl 0 rfl) ?_
  refine va_get (D := (dC, dI)) (ci := 12) (v := .ref ak) (C := RX12) (T := TX12) (N := 20) hx hb hts (fun _ h => List.mem_cons_of_mem _ (List.mem_append_right _ h)) hown hK hP 0 rfl rfl 4 (by decide) (hts (.fieldLink RX12 22 "HoldsOnceDeniedModel" "kept" "[I") (by decide +kernel)) (fun _ h9 => h9) rfl dX12_copy_26 ?_
  refine lv_iload_n hx hb dX12_copy_29 rfl (lv_at hl 3 rfl) ?_
  refine ho_iald (v := nI (ke y2)) hx hb hK hP 1 0 rfl rfl (by omega) (by first | decide | omega) rfl dX12_copy_30 ?_
  refine ho_if_ne (tgt := 37) hx hb dX12_copy_31 (by decide) (by omega) (fun c_31 => ?_) (fun c_31 => ?_)
  · refine lv_aload_n hx hb dX12_copy_37 rfl (lv_at hl 0 rfl) ?_
    refine va_get (D := (dC, dI)) (ci := 12) (v := .ref ak) (C := RX12) (T := TX12) (N := 20) hx hb hts (fun _ h => List.mem_cons_of_mem _ (List.mem_append_right _ h)) hown hK hP 0 rfl rfl 4 (by decide) (hts (.fieldLink RX12 22 "HoldsOnceDeniedModel" "kept" "[I") (by decide +kernel)) (fun _ h9 => h9) rfl dX12_copy_38 ?_
    refine lv_iload_n hx hb dX12_copy_41 rfl (lv_at hl 1 rfl) ?_
    refine ho_iald (v := nI (ke y1)) hx hb hK hP 1 0 rfl rfl (by omega) (by first | decide | omega) rfl dX12_copy_42 ?_
    refine lv_iconst (v := nI 2) hx hb dX12_copy_43 (by decide +kernel) ?_
    refine ho_icmp_ne (tgt := 72) hx hb dX12_copy_44 (by decide) (by omega) (by omega) (fun c_44 => ?_) (fun c_44 => ?_)
    · exfalso; omega
    refine lv_aload_n hx hb dX12_copy_47 rfl (lv_at hl 0 rfl) ?_
    refine va_get (D := (dC, dI)) (ci := 12) (v := .ref ak) (C := RX12) (T := TX12) (N := 20) hx hb hts (fun _ h => List.mem_cons_of_mem _ (List.mem_append_right _ h)) hown hK hP 0 rfl rfl 4 (by decide) (hts (.fieldLink RX12 22 "HoldsOnceDeniedModel" "kept" "[I") (by decide +kernel)) (fun _ h9 => h9) rfl dX12_copy_48 ?_
    refine lv_iload_n hx hb dX12_copy_51 rfl (lv_at hl 3 rfl) ?_
    refine ho_iald (v := nI (ke y2)) hx hb hK hP 1 0 rfl rfl (by omega) (by first | decide | omega) rfl dX12_copy_52 ?_
    refine lv_iconst (v := nI 2) hx hb dX12_copy_53 (by decide +kernel) ?_
    refine ho_icmp_ne (tgt := 72) hx hb dX12_copy_54 (by decide) (by omega) (by omega) (fun c_54 => ?_) (fun c_54 => ?_)
    · exfalso; omega
    refine lv_aload_n hx hb dX12_copy_57 rfl (lv_at hl 0 rfl) ?_
    refine va_get (D := (dC, dI)) (ci := 12) (v := .ref ao) (C := RX12) (T := TX12) (N := 20) hx hb hts (fun _ h => List.mem_cons_of_mem _ (List.mem_append_right _ h)) hown hK hP 0 rfl rfl 5 (by decide) (hts (.fieldLink RX12 25 "HoldsOnceDeniedModel" "sort" "[I") (by decide +kernel)) (fun _ h9 => h9) rfl dX12_copy_58 ?_
    refine lv_iload_n hx hb dX12_copy_61 rfl (lv_at hl 1 rfl) ?_
    refine ho_iald (v := nI (so y1)) hx hb hK hP 2 0 rfl rfl (by omega) (by first | decide | omega) rfl dX12_copy_62 ?_
    refine lv_aload_n hx hb dX12_copy_63 rfl (lv_at hl 0 rfl) ?_
    refine va_get (D := (dC, dI)) (ci := 12) (v := .ref ao) (C := RX12) (T := TX12) (N := 20) hx hb hts (fun _ h => List.mem_cons_of_mem _ (List.mem_append_right _ h)) hown hK hP 0 rfl rfl 5 (by decide) (hts (.fieldLink RX12 25 "HoldsOnceDeniedModel" "sort" "[I") (by decide +kernel)) (fun _ h9 => h9) rfl dX12_copy_64 ?_
    refine lv_iload_n hx hb dX12_copy_67 rfl (lv_at hl 3 rfl) ?_
    refine ho_iald (v := nI (so y2)) hx hb hK hP 2 0 rfl rfl (by omega) (by first | decide | omega) rfl dX12_copy_68 ?_
    refine ho_icmp_eq (tgt := 75) hx hb dX12_copy_69 (by decide) (by omega) (by omega) (fun c_69 => ?_) (fun c_69 => ?_)
    · refine lv_iload hx hb dX12_copy_75 (lv_at hl 5 rfl) ?_
      refine ho_if_lt0 hx hb dX12_copy_77 (tgt := 116) (by decide) (by omega) ?_
      refine lv_iload_n hx hb dX12_copy_80 rfl (lv_at hl 2 rfl) ?_
      refine ho_if_lt0 hx hb dX12_copy_81 (tgt := 116) (by decide) (by omega) ?_
      refine lv_iload hx hb dX12_copy_84 (lv_at hl 4 rfl) ?_
      refine ho_if_lt0 hx hb dX12_copy_86 (tgt := 116) (by decide) (by omega) ?_
      refine lv_iload hx hb dX12_copy_89 (lv_at hl 5 rfl) ?_
      refine lv_aload_n hx hb dX12_copy_91 rfl (lv_at hl 0 rfl) ?_
      refine va_get (D := (dC, dI)) (ci := 12) (v := .ref az) (C := RX12) (T := TX12) (N := 20) hx hb hts (fun _ h => List.mem_cons_of_mem _ (List.mem_append_right _ h)) hown hK hP 0 rfl rfl 6 (by decide) (hts (.fieldLink RX12 28 "HoldsOnceDeniedModel" "size" "[I") (by decide +kernel)) (fun _ h9 => h9) rfl dX12_copy_92 ?_
      refine lv_iload_n hx hb dX12_copy_95 rfl (lv_at hl 1 rfl) ?_
      refine ho_iald (v := nI (zz y1)) hx hb hK hP 3 0 rfl rfl (by omega) (by first | decide | omega) rfl dX12_copy_96 ?_
      refine lv_iload_n hx hb dX12_copy_97 rfl (lv_at hl 2 rfl) ?_
      refine ho_isub hx hb dX12_copy_98 (by omega) ?_
      refine ho_icmp_gt (tgt := 116) hx hb dX12_copy_99 (by decide) (by omega) (by omega) (fun c_99 => ?_) (fun c_99 => ?_)
      · exfalso; omega
      refine lv_iload hx hb dX12_copy_102 (lv_at hl 5 rfl) ?_
      refine lv_aload_n hx hb dX12_copy_104 rfl (lv_at hl 0 rfl) ?_
      refine va_get (D := (dC, dI)) (ci := 12) (v := .ref az) (C := RX12) (T := TX12) (N := 20) hx hb hts (fun _ h => List.mem_cons_of_mem _ (List.mem_append_right _ h)) hown hK hP 0 rfl rfl 6 (by decide) (hts (.fieldLink RX12 28 "HoldsOnceDeniedModel" "size" "[I") (by decide +kernel)) (fun _ h9 => h9) rfl dX12_copy_105 ?_
      refine lv_iload_n hx hb dX12_copy_108 rfl (lv_at hl 3 rfl) ?_
      refine ho_iald (v := nI (zz y2)) hx hb hK hP 3 0 rfl rfl (by omega) (by first | decide | omega) rfl dX12_copy_109 ?_
      refine lv_iload hx hb dX12_copy_110 (lv_at hl 4 rfl) ?_
      refine ho_isub hx hb dX12_copy_112 (by omega) ?_
      refine ho_icmp_le (tgt := 119) hx hb dX12_copy_113 (by decide) (by omega) (by omega) (fun c_113 => ?_) (fun c_113 => ?_)
      · rcases Nat.lt_or_ge j9 i9 with hji | hji
        · refine lv_iconst (v := nI 0) hx hb dX12_copy_119 (by decide +kernel) ?_
          refine lv_istore (lv' := [(6, .int (nI 0)), (0, .ref y), (1, .int (nI y1)), (2, .int (nI i9)), (3, .int (nI y2)), (4, .int (nI j9)), (5, .int (nI n9))]) hx hb dX12_copy_120 hl (by decide) rfl (fun ls hl => ?_)
          rw [← cpE_0 el (100 * y1 + i9) (100 * y2 + j9)] at hP hD
          have hP : va_P (dC, dI) vwCl ([(y, .inr (12, [.ref as, .ref ai, .ref ar, .ref am, .ref ak, .ref ao, .ref az, .ref ae, .ref aq, .ref af, .int (bI hi), .int th, .int (nI po), .int (nI ba), .int (nI en), .ref an, .ref aw, .ref ax, .ref ap, .int se]))] ++ [(ak, .inl (cI, 8, .inl (nF ke)))] ++ [(ao, .inl (cI, 8, .inl (nF so)))] ++ [(az, .inl (cI, 8, .inl (nF zz)))] ++ [(ae, .inl (cI, 800, .inl (cpE el (100 * y1 + i9) (100 * y2 + j9) 0)))]) H := hP
          have hD : va_D A ([(y, .inr (12, [.ref as, .ref ai, .ref ar, .ref am, .ref ak, .ref ao, .ref az, .ref ae, .ref aq, .ref af, .int (bI hi), .int th, .int (nI po), .int (nI ba), .int (nI en), .ref an, .ref aw, .ref ax, .ref ap, .int se]))] ++ [(ak, .inl (cI, 8, .inl (nF ke)))] ++ [(ao, .inl (cI, 8, .inl (nF so)))] ++ [(az, .inl (cI, 8, .inl (nF zz)))] ++ [(ae, .inl (cI, 800, .inl (cpE el (100 * y1 + i9) (100 * y2 + j9) 0)))]) := hD
          refine ho_lpW (T := Nat) 8 (fun x9 => ([(y, .inr (12, [.ref as, .ref ai, .ref ar, .ref am, .ref ak, .ref ao, .ref az, .ref ae, .ref aq, .ref af, .int (bI hi), .int th, .int (nI po), .int (nI ba), .int (nI en), .ref an, .ref aw, .ref ax, .ref ap, .int se]))] ++ [(ak, .inl (cI, 8, .inl (nF ke)))] ++ [(ao, .inl (cI, 8, .inl (nF so)))] ++ [(az, .inl (cI, 8, .inl (nF zz)))] ++ [(ae, .inl (cI, 800, .inl (cpE el (100 * y1 + i9) (100 * y2 + j9) x9)))] : va_W)) (fun x9 => [(6, .int (nI x9)), (0, .ref y), (1, .int (nI y1)), (2, .int (nI i9)), (3, .int (nI y2)), (4, .int (nI j9)), (5, .int (nI n9))]) (fun x9 => []) (fun x9 => (x9 ≤ n9)) (fun x9 => n9 - x9) 0 (by omega) (lv_sub hl [0, 1, 2, 3, 4, 5, 6] rfl) hP hD hS ?_
          intro fu122 mm H locs ls hI hm122 hP hD hS hl ih
          have hm := hI
          have hl : lv_has ls 8 [(6, .int (nI mm)), (0, .ref y), (1, .int (nI y1)), (2, .int (nI i9)), (3, .int (nI y2)), (4, .int (nI j9)), (5, .int (nI n9))] := hl
          have hm : mm ≤ n9 := hm
          have hm122 : n9 - mm < fu122 + 1 := hm122
          have hP : va_P (dC, dI) vwCl ([(y, .inr (12, [.ref as, .ref ai, .ref ar, .ref am, .ref ak, .ref ao, .ref az, .ref ae, .ref aq, .ref af, .int (bI hi), .int th, .int (nI po), .int (nI ba), .int (nI en), .ref an, .ref aw, .ref ax, .ref ap, .int se]))] ++ [(ak, .inl (cI, 8, .inl (nF ke)))] ++ [(ao, .inl (cI, 8, .inl (nF so)))] ++ [(az, .inl (cI, 8, .inl (nF zz)))] ++ [(ae, .inl (cI, 800, .inl (cpE el (100 * y1 + i9) (100 * y2 + j9) mm)))]) H := hP
          have hD : va_D A ([(y, .inr (12, [.ref as, .ref ai, .ref ar, .ref am, .ref ak, .ref ao, .ref az, .ref ae, .ref aq, .ref af, .int (bI hi), .int th, .int (nI po), .int (nI ba), .int (nI en), .ref an, .ref aw, .ref ax, .ref ap, .int se]))] ++ [(ak, .inl (cI, 8, .inl (nF ke)))] ++ [(ao, .inl (cI, 8, .inl (nF so)))] ++ [(az, .inl (cI, 8, .inl (nF zz)))] ++ [(ae, .inl (cI, 800, .inl (cpE el (100 * y1 + i9) (100 * y2 + j9) mm)))]) := hD
          refine W.eq (g2 := F0 m 122 ls []) rfl ?_
          have ih122 := ih
          refine lv_iload hx hb dX12_copy_122 (lv_at hl 0 rfl) ?_
          refine lv_iload hx hb dX12_copy_124 (lv_at hl 6 rfl) ?_
          refine ho_icmp_ge (tgt := 184) hx hb dX12_copy_126 (by decide) (by omega) (by omega) (fun c_126 => ?_) (fun c_126 => ?_)
          · refine lv_iload hx hb dX12_copy_184 (lv_at hl 6 rfl) ?_
            have hW9 : ([(y, .inr (12, [.ref as, .ref ai, .ref ar, .ref am, .ref ak, .ref ao, .ref az, .ref ae, .ref aq, .ref af, .int (bI hi), .int th, .int (nI po), .int (nI ba), .int (nI en), .ref an, .ref aw, .ref ax, .ref ap, .int se]))] ++ [(ak, .inl (cI, 8, .inl (nF ke)))] ++ [(ao, .inl (cI, 8, .inl (nF so)))] ++ [(az, .inl (cI, 8, .inl (nF zz)))] ++ [(ae, .inl (cI, 800, .inl (cpE el (100 * y1 + i9) (100 * y2 + j9) mm)))] : va_W) = [(y, .inr (12, [.ref as, .ref ai, .ref ar, .ref am, .ref ak, .ref ao, .ref az, .ref ae, .ref aq, .ref af, .int (bI hi), .int th, .int (nI po), .int (nI ba), .int (nI en), .ref an, .ref aw, .ref ax, .ref ap, .int se]))] ++ [(ak, .inl (cI, 8, .inl (nF ke)))] ++ [(ao, .inl (cI, 8, .inl (nF so)))] ++ [(az, .inl (cI, 8, .inl (nF zz)))] ++ [(ae, .inl (cI, 800, .inl (cpE el (100 * y1 + i9) (100 * y2 + j9) n9)))] := by first | rw [show mm = n9 by omega] | rw [show mm = n9 by omega, cpD_n]
            rw [hW9] at hP hD
            exact W.iret (v := nI n9) hx hb hr (fun T9 hT9 hW9 => ⟨⟨_, (), rfl, rfl, by rw [hT9]; exact hP, hD⟩, hS.F hT9⟩) hS.2.2 dX12_copy_186
          refine lv_iload_n hx hb dX12_copy_129 rfl (lv_at hl 3 rfl) ?_
          refine lv_iload hx hb dX12_copy_130 (lv_at hl 5 rfl) ?_
          refine ho_icmp_le (tgt := 140) hx hb dX12_copy_132 (by decide) (by omega) (by omega) (fun c_132 => ?_) (fun c_132 => ?_)
          · exfalso; omega
          refine lv_iload hx hb dX12_copy_135 (lv_at hl 0 rfl) ?_
          refine lv_goto (tgt := 147) hx hb dX12_copy_137 (by decide) ?_
          refine lv_istore (lv' := [(7, .int (nI mm)), (6, .int (nI mm)), (0, .ref y), (1, .int (nI y1)), (2, .int (nI i9)), (3, .int (nI y2)), (4, .int (nI j9)), (5, .int (nI n9))]) hx hb dX12_copy_147 hl (by decide) rfl (fun ls hl => ?_)
          refine lv_aload_n hx hb dX12_copy_149 rfl (lv_at hl 2 rfl) ?_
          refine va_get (D := (dC, dI)) (ci := 12) (v := .ref ae) (C := RX12) (T := TX12) (N := 20) hx hb hts (fun _ h => List.mem_cons_of_mem _ (List.mem_append_right _ h)) hown hK hP 0 rfl rfl 7 (by decide) (hts (.fieldLink RX12 31 "HoldsOnceDeniedModel" "element" "[I") (by decide +kernel)) (fun _ h9 => h9) rfl dX12_copy_150 ?_
          refine lv_bipush (v := nI 100) hx hb dX12_copy_153 (by decide +kernel) ?_
          refine lv_iload_n hx hb dX12_copy_155 rfl (lv_at hl 5 rfl) ?_
          refine ho_imul hx hb dX12_copy_156 ?_
          refine lv_iload hx hb dX12_copy_157 (lv_at hl 6 rfl) ?_
          refine ho_iadd hx hb dX12_copy_159 ?_
          refine lv_iload hx hb dX12_copy_160 (lv_at hl 0 rfl) ?_
          refine ho_iadd hx hb dX12_copy_162 ?_
          refine lv_aload_n hx hb dX12_copy_163 rfl (lv_at hl 2 rfl) ?_
          refine va_get (D := (dC, dI)) (ci := 12) (v := .ref ae) (C := RX12) (T := TX12) (N := 20) hx hb hts (fun _ h => List.mem_cons_of_mem _ (List.mem_append_right _ h)) hown hK hP 0 rfl rfl 7 (by decide) (hts (.fieldLink RX12 31 "HoldsOnceDeniedModel" "element" "[I") (by decide +kernel)) (fun _ h9 => h9) rfl dX12_copy_164 ?_
          refine lv_bipush (v := nI 100) hx hb dX12_copy_167 (by decide +kernel) ?_
          refine lv_iload_n hx hb dX12_copy_169 rfl (lv_at hl 3 rfl) ?_
          refine ho_imul hx hb dX12_copy_170 ?_
          refine lv_iload_n hx hb dX12_copy_171 rfl (lv_at hl 4 rfl) ?_
          refine ho_iadd hx hb dX12_copy_172 ?_
          refine lv_iload hx hb dX12_copy_173 (lv_at hl 0 rfl) ?_
          refine ho_iadd hx hb dX12_copy_175 ?_
          refine ho_iald (v := ((cpE el (100 * y1 + i9) (100 * y2 + j9) mm) (((100 * y1) + i9) + mm))) hx hb hK hP 4 0 rfl rfl (by omega) (by first | decide | omega) rfl dX12_copy_176 ?_
          refine ho_iast (g := upd (cpE el (100 * y1 + i9) (100 * y2 + j9) mm) (((100 * y2) + j9) + mm) ((cpE el (100 * y1 + i9) (100 * y2 + j9) mm) (((100 * y1) + i9) + mm))) hx hb hK hP hD hS 4 0 rfl rfl (by omega) (by first | decide | omega) rfl dX12_copy_177 (fun H locs hP hD hS => ?_)
          have hP : va_P (dC, dI) vwCl ([(y, .inr (12, [.ref as, .ref ai, .ref ar, .ref am, .ref ak, .ref ao, .ref az, .ref ae, .ref aq, .ref af, .int (bI hi), .int th, .int (nI po), .int (nI ba), .int (nI en), .ref an, .ref aw, .ref ax, .ref ap, .int se]))] ++ [(ak, .inl (cI, 8, .inl (nF ke)))] ++ [(ao, .inl (cI, 8, .inl (nF so)))] ++ [(az, .inl (cI, 8, .inl (nF zz)))] ++ [(ae, .inl (cI, 800, .inl (upd (cpE el (100 * y1 + i9) (100 * y2 + j9) mm) (((100 * y2) + j9) + mm) ((cpE el (100 * y1 + i9) (100 * y2 + j9) mm) (((100 * y1) + i9) + mm)))))]) H := hP
          have hD : va_D A ([(y, .inr (12, [.ref as, .ref ai, .ref ar, .ref am, .ref ak, .ref ao, .ref az, .ref ae, .ref aq, .ref af, .int (bI hi), .int th, .int (nI po), .int (nI ba), .int (nI en), .ref an, .ref aw, .ref ax, .ref ap, .int se]))] ++ [(ak, .inl (cI, 8, .inl (nF ke)))] ++ [(ao, .inl (cI, 8, .inl (nF so)))] ++ [(az, .inl (cI, 8, .inl (nF zz)))] ++ [(ae, .inl (cI, 800, .inl (upd (cpE el (100 * y1 + i9) (100 * y2 + j9) mm) (((100 * y2) + j9) + mm) ((cpE el (100 * y1 + i9) (100 * y2 + j9) mm) (((100 * y1) + i9) + mm)))))]) := hD
          refine ho_iinc (lv' := [(6, .int (nI (mm + 1))), (7, .int (nI mm)), (0, .ref y), (1, .int (nI y1)), (2, .int (nI i9)), (3, .int (nI y2)), (4, .int (nI j9)), (5, .int (nI n9))]) (a := mm) (b := 1) hx hb dX12_copy_178 hl (k := 1) rfl rfl (by decide) rfl (fun ls hl => ?_)
          refine lv_goto (tgt := 122) hx hb dX12_copy_181 (by decide) ?_
          have hW9 : ([(y, .inr (12, [.ref as, .ref ai, .ref ar, .ref am, .ref ak, .ref ao, .ref az, .ref ae, .ref aq, .ref af, .int (bI hi), .int th, .int (nI po), .int (nI ba), .int (nI en), .ref an, .ref aw, .ref ax, .ref ap, .int se]))] ++ [(ak, .inl (cI, 8, .inl (nF ke)))] ++ [(ao, .inl (cI, 8, .inl (nF so)))] ++ [(az, .inl (cI, 8, .inl (nF zz)))] ++ [(ae, .inl (cI, 800, .inl (upd (cpE el (100 * y1 + i9) (100 * y2 + j9) mm) (((100 * y2) + j9) + mm) ((cpE el (100 * y1 + i9) (100 * y2 + j9) mm) (((100 * y1) + i9) + mm)))))] : va_W) = [(y, .inr (12, [.ref as, .ref ai, .ref ar, .ref am, .ref ak, .ref ao, .ref az, .ref ae, .ref aq, .ref af, .int (bI hi), .int th, .int (nI po), .int (nI ba), .int (nI en), .ref an, .ref aw, .ref ax, .ref ap, .int se]))] ++ [(ak, .inl (cI, 8, .inl (nF ke)))] ++ [(ao, .inl (cI, 8, .inl (nF so)))] ++ [(az, .inl (cI, 8, .inl (nF zz)))] ++ [(ae, .inl (cI, 800, .inl (cpE el (100 * y1 + i9) (100 * y2 + j9) (mm + 1))))] := by rw [cpE_up (by omega)]
          rw [hW9] at hP hD
          exact ih122 (mm + 1) _ _ _ (by omega) (show n9 - (mm + 1) < fu122 from (by omega)) hP hD hS (lv_sub hl [0, 2, 3, 4, 5, 6, 7] rfl)
        refine lv_iconst (v := nI 0) hx hb dX12_copy_119 (by decide +kernel) ?_
        refine lv_istore (lv' := [(6, .int (nI 0)), (0, .ref y), (1, .int (nI y1)), (2, .int (nI i9)), (3, .int (nI y2)), (4, .int (nI j9)), (5, .int (nI n9))]) hx hb dX12_copy_120 hl (by decide) rfl (fun ls hl => ?_)
        rw [← cpD_0 el (100 * y1 + i9) (100 * y2 + j9) n9] at hP hD
        have hP : va_P (dC, dI) vwCl ([(y, .inr (12, [.ref as, .ref ai, .ref ar, .ref am, .ref ak, .ref ao, .ref az, .ref ae, .ref aq, .ref af, .int (bI hi), .int th, .int (nI po), .int (nI ba), .int (nI en), .ref an, .ref aw, .ref ax, .ref ap, .int se]))] ++ [(ak, .inl (cI, 8, .inl (nF ke)))] ++ [(ao, .inl (cI, 8, .inl (nF so)))] ++ [(az, .inl (cI, 8, .inl (nF zz)))] ++ [(ae, .inl (cI, 800, .inl (cpD el (100 * y1 + i9) (100 * y2 + j9) n9 0)))]) H := hP
        have hD : va_D A ([(y, .inr (12, [.ref as, .ref ai, .ref ar, .ref am, .ref ak, .ref ao, .ref az, .ref ae, .ref aq, .ref af, .int (bI hi), .int th, .int (nI po), .int (nI ba), .int (nI en), .ref an, .ref aw, .ref ax, .ref ap, .int se]))] ++ [(ak, .inl (cI, 8, .inl (nF ke)))] ++ [(ao, .inl (cI, 8, .inl (nF so)))] ++ [(az, .inl (cI, 8, .inl (nF zz)))] ++ [(ae, .inl (cI, 800, .inl (cpD el (100 * y1 + i9) (100 * y2 + j9) n9 0)))]) := hD
        refine ho_lpW (T := Nat) 8 (fun x9 => ([(y, .inr (12, [.ref as, .ref ai, .ref ar, .ref am, .ref ak, .ref ao, .ref az, .ref ae, .ref aq, .ref af, .int (bI hi), .int th, .int (nI po), .int (nI ba), .int (nI en), .ref an, .ref aw, .ref ax, .ref ap, .int se]))] ++ [(ak, .inl (cI, 8, .inl (nF ke)))] ++ [(ao, .inl (cI, 8, .inl (nF so)))] ++ [(az, .inl (cI, 8, .inl (nF zz)))] ++ [(ae, .inl (cI, 800, .inl (cpD el (100 * y1 + i9) (100 * y2 + j9) n9 x9)))] : va_W)) (fun x9 => [(6, .int (nI x9)), (0, .ref y), (1, .int (nI y1)), (2, .int (nI i9)), (3, .int (nI y2)), (4, .int (nI j9)), (5, .int (nI n9))]) (fun x9 => []) (fun x9 => (x9 ≤ n9)) (fun x9 => n9 - x9) 0 (by omega) (lv_sub hl [0, 1, 2, 3, 4, 5, 6] rfl) hP hD hS ?_
        intro fu122 mm H locs ls hI hm122 hP hD hS hl ih
        have hm := hI
        have hl : lv_has ls 8 [(6, .int (nI mm)), (0, .ref y), (1, .int (nI y1)), (2, .int (nI i9)), (3, .int (nI y2)), (4, .int (nI j9)), (5, .int (nI n9))] := hl
        have hm : mm ≤ n9 := hm
        have hm122 : n9 - mm < fu122 + 1 := hm122
        have hP : va_P (dC, dI) vwCl ([(y, .inr (12, [.ref as, .ref ai, .ref ar, .ref am, .ref ak, .ref ao, .ref az, .ref ae, .ref aq, .ref af, .int (bI hi), .int th, .int (nI po), .int (nI ba), .int (nI en), .ref an, .ref aw, .ref ax, .ref ap, .int se]))] ++ [(ak, .inl (cI, 8, .inl (nF ke)))] ++ [(ao, .inl (cI, 8, .inl (nF so)))] ++ [(az, .inl (cI, 8, .inl (nF zz)))] ++ [(ae, .inl (cI, 800, .inl (cpD el (100 * y1 + i9) (100 * y2 + j9) n9 mm)))]) H := hP
        have hD : va_D A ([(y, .inr (12, [.ref as, .ref ai, .ref ar, .ref am, .ref ak, .ref ao, .ref az, .ref ae, .ref aq, .ref af, .int (bI hi), .int th, .int (nI po), .int (nI ba), .int (nI en), .ref an, .ref aw, .ref ax, .ref ap, .int se]))] ++ [(ak, .inl (cI, 8, .inl (nF ke)))] ++ [(ao, .inl (cI, 8, .inl (nF so)))] ++ [(az, .inl (cI, 8, .inl (nF zz)))] ++ [(ae, .inl (cI, 800, .inl (cpD el (100 * y1 + i9) (100 * y2 + j9) n9 mm)))]) := hD
        refine W.eq (g2 := F0 m 122 ls []) rfl ?_
        have ih122 := ih
        refine lv_iload hx hb dX12_copy_122 (lv_at hl 0 rfl) ?_
        refine lv_iload hx hb dX12_copy_124 (lv_at hl 6 rfl) ?_
        refine ho_icmp_ge (tgt := 184) hx hb dX12_copy_126 (by decide) (by omega) (by omega) (fun c_126 => ?_) (fun c_126 => ?_)
        · refine lv_iload hx hb dX12_copy_184 (lv_at hl 6 rfl) ?_
          have hW9 : ([(y, .inr (12, [.ref as, .ref ai, .ref ar, .ref am, .ref ak, .ref ao, .ref az, .ref ae, .ref aq, .ref af, .int (bI hi), .int th, .int (nI po), .int (nI ba), .int (nI en), .ref an, .ref aw, .ref ax, .ref ap, .int se]))] ++ [(ak, .inl (cI, 8, .inl (nF ke)))] ++ [(ao, .inl (cI, 8, .inl (nF so)))] ++ [(az, .inl (cI, 8, .inl (nF zz)))] ++ [(ae, .inl (cI, 800, .inl (cpD el (100 * y1 + i9) (100 * y2 + j9) n9 mm)))] : va_W) = [(y, .inr (12, [.ref as, .ref ai, .ref ar, .ref am, .ref ak, .ref ao, .ref az, .ref ae, .ref aq, .ref af, .int (bI hi), .int th, .int (nI po), .int (nI ba), .int (nI en), .ref an, .ref aw, .ref ax, .ref ap, .int se]))] ++ [(ak, .inl (cI, 8, .inl (nF ke)))] ++ [(ao, .inl (cI, 8, .inl (nF so)))] ++ [(az, .inl (cI, 8, .inl (nF zz)))] ++ [(ae, .inl (cI, 800, .inl (cpE el (100 * y1 + i9) (100 * y2 + j9) n9)))] := by first | rw [show mm = n9 by omega] | rw [show mm = n9 by omega, cpD_n]
          rw [hW9] at hP hD
          exact W.iret (v := nI n9) hx hb hr (fun T9 hT9 hW9 => ⟨⟨_, (), rfl, rfl, by rw [hT9]; exact hP, hD⟩, hS.F hT9⟩) hS.2.2 dX12_copy_186
        refine lv_iload_n hx hb dX12_copy_129 rfl (lv_at hl 3 rfl) ?_
        refine lv_iload hx hb dX12_copy_130 (lv_at hl 5 rfl) ?_
        refine ho_icmp_le (tgt := 140) hx hb dX12_copy_132 (by decide) (by omega) (by omega) (fun c_132 => ?_) (fun c_132 => ?_)
        · refine lv_iload hx hb dX12_copy_140 (lv_at hl 6 rfl) ?_
          refine lv_iconst (v := nI 1) hx hb dX12_copy_142 (by decide +kernel) ?_
          refine ho_isub hx hb dX12_copy_143 (by omega) ?_
          refine lv_iload hx hb dX12_copy_144 (lv_at hl 0 rfl) ?_
          refine ho_isub hx hb dX12_copy_146 (by omega) ?_
          refine lv_istore (lv' := [(7, .int (nI ((n9 - 1) - mm))), (6, .int (nI mm)), (0, .ref y), (1, .int (nI y1)), (2, .int (nI i9)), (3, .int (nI y2)), (4, .int (nI j9)), (5, .int (nI n9))]) hx hb dX12_copy_147 hl (by decide) rfl (fun ls hl => ?_)
          refine lv_aload_n hx hb dX12_copy_149 rfl (lv_at hl 2 rfl) ?_
          refine va_get (D := (dC, dI)) (ci := 12) (v := .ref ae) (C := RX12) (T := TX12) (N := 20) hx hb hts (fun _ h => List.mem_cons_of_mem _ (List.mem_append_right _ h)) hown hK hP 0 rfl rfl 7 (by decide) (hts (.fieldLink RX12 31 "HoldsOnceDeniedModel" "element" "[I") (by decide +kernel)) (fun _ h9 => h9) rfl dX12_copy_150 ?_
          refine lv_bipush (v := nI 100) hx hb dX12_copy_153 (by decide +kernel) ?_
          refine lv_iload_n hx hb dX12_copy_155 rfl (lv_at hl 5 rfl) ?_
          refine ho_imul hx hb dX12_copy_156 ?_
          refine lv_iload hx hb dX12_copy_157 (lv_at hl 6 rfl) ?_
          refine ho_iadd hx hb dX12_copy_159 ?_
          refine lv_iload hx hb dX12_copy_160 (lv_at hl 0 rfl) ?_
          refine ho_iadd hx hb dX12_copy_162 ?_
          refine lv_aload_n hx hb dX12_copy_163 rfl (lv_at hl 2 rfl) ?_
          refine va_get (D := (dC, dI)) (ci := 12) (v := .ref ae) (C := RX12) (T := TX12) (N := 20) hx hb hts (fun _ h => List.mem_cons_of_mem _ (List.mem_append_right _ h)) hown hK hP 0 rfl rfl 7 (by decide) (hts (.fieldLink RX12 31 "HoldsOnceDeniedModel" "element" "[I") (by decide +kernel)) (fun _ h9 => h9) rfl dX12_copy_164 ?_
          refine lv_bipush (v := nI 100) hx hb dX12_copy_167 (by decide +kernel) ?_
          refine lv_iload_n hx hb dX12_copy_169 rfl (lv_at hl 3 rfl) ?_
          refine ho_imul hx hb dX12_copy_170 ?_
          refine lv_iload_n hx hb dX12_copy_171 rfl (lv_at hl 4 rfl) ?_
          refine ho_iadd hx hb dX12_copy_172 ?_
          refine lv_iload hx hb dX12_copy_173 (lv_at hl 0 rfl) ?_
          refine ho_iadd hx hb dX12_copy_175 ?_
          refine ho_iald (v := ((cpD el (100 * y1 + i9) (100 * y2 + j9) n9 mm) (((100 * y1) + i9) + ((n9 - 1) - mm)))) hx hb hK hP 4 0 rfl rfl (by omega) (by first | decide | omega) rfl dX12_copy_176 ?_
          refine ho_iast (g := upd (cpD el (100 * y1 + i9) (100 * y2 + j9) n9 mm) (((100 * y2) + j9) + ((n9 - 1) - mm)) ((cpD el (100 * y1 + i9) (100 * y2 + j9) n9 mm) (((100 * y1) + i9) + ((n9 - 1) - mm)))) hx hb hK hP hD hS 4 0 rfl rfl (by omega) (by first | decide | omega) rfl dX12_copy_177 (fun H locs hP hD hS => ?_)
          have hP : va_P (dC, dI) vwCl ([(y, .inr (12, [.ref as, .ref ai, .ref ar, .ref am, .ref ak, .ref ao, .ref az, .ref ae, .ref aq, .ref af, .int (bI hi), .int th, .int (nI po), .int (nI ba), .int (nI en), .ref an, .ref aw, .ref ax, .ref ap, .int se]))] ++ [(ak, .inl (cI, 8, .inl (nF ke)))] ++ [(ao, .inl (cI, 8, .inl (nF so)))] ++ [(az, .inl (cI, 8, .inl (nF zz)))] ++ [(ae, .inl (cI, 800, .inl (upd (cpD el (100 * y1 + i9) (100 * y2 + j9) n9 mm) (((100 * y2) + j9) + ((n9 - 1) - mm)) ((cpD el (100 * y1 + i9) (100 * y2 + j9) n9 mm) (((100 * y1) + i9) + ((n9 - 1) - mm))))))]) H := hP
          have hD : va_D A ([(y, .inr (12, [.ref as, .ref ai, .ref ar, .ref am, .ref ak, .ref ao, .ref az, .ref ae, .ref aq, .ref af, .int (bI hi), .int th, .int (nI po), .int (nI ba), .int (nI en), .ref an, .ref aw, .ref ax, .ref ap, .int se]))] ++ [(ak, .inl (cI, 8, .inl (nF ke)))] ++ [(ao, .inl (cI, 8, .inl (nF so)))] ++ [(az, .inl (cI, 8, .inl (nF zz)))] ++ [(ae, .inl (cI, 800, .inl (upd (cpD el (100 * y1 + i9) (100 * y2 + j9) n9 mm) (((100 * y2) + j9) + ((n9 - 1) - mm)) ((cpD el (100 * y1 + i9) (100 * y2 + j9) n9 mm) (((100 * y1) + i9) + ((n9 - 1) - mm))))))]) := hD
          refine ho_iinc (lv' := [(6, .int (nI (mm + 1))), (7, .int (nI ((n9 - 1) - mm))), (0, .ref y), (1, .int (nI y1)), (2, .int (nI i9)), (3, .int (nI y2)), (4, .int (nI j9)), (5, .int (nI n9))]) (a := mm) (b := 1) hx hb dX12_copy_178 hl (k := 1) rfl rfl (by decide) rfl (fun ls hl => ?_)
          refine lv_goto (tgt := 122) hx hb dX12_copy_181 (by decide) ?_
          have hW9 : ([(y, .inr (12, [.ref as, .ref ai, .ref ar, .ref am, .ref ak, .ref ao, .ref az, .ref ae, .ref aq, .ref af, .int (bI hi), .int th, .int (nI po), .int (nI ba), .int (nI en), .ref an, .ref aw, .ref ax, .ref ap, .int se]))] ++ [(ak, .inl (cI, 8, .inl (nF ke)))] ++ [(ao, .inl (cI, 8, .inl (nF so)))] ++ [(az, .inl (cI, 8, .inl (nF zz)))] ++ [(ae, .inl (cI, 800, .inl (upd (cpD el (100 * y1 + i9) (100 * y2 + j9) n9 mm) (((100 * y2) + j9) + ((n9 - 1) - mm)) ((cpD el (100 * y1 + i9) (100 * y2 + j9) n9 mm) (((100 * y1) + i9) + ((n9 - 1) - mm))))))] : va_W) = [(y, .inr (12, [.ref as, .ref ai, .ref ar, .ref am, .ref ak, .ref ao, .ref az, .ref ae, .ref aq, .ref af, .int (bI hi), .int th, .int (nI po), .int (nI ba), .int (nI en), .ref an, .ref aw, .ref ax, .ref ap, .int se]))] ++ [(ak, .inl (cI, 8, .inl (nF ke)))] ++ [(ao, .inl (cI, 8, .inl (nF so)))] ++ [(az, .inl (cI, 8, .inl (nF zz)))] ++ [(ae, .inl (cI, 800, .inl (cpD el (100 * y1 + i9) (100 * y2 + j9) n9 (mm + 1))))] := by rw [cpD_up (by omega) (by omega)]
          rw [hW9] at hP hD
          exact ih122 (mm + 1) _ _ _ (by omega) (show n9 - (mm + 1) < fu122 from (by omega)) hP hD hS (lv_sub hl [0, 2, 3, 4, 5, 6, 7] rfl)
        exfalso; omega
      exfalso; omega
    exfalso; omega
  exfalso; omega
set_option maxHeartbeats 4000000 in
set_option maxRecDepth 100000 in
theorem c_X12_copy_f (l : Launch) (dC : Nat → ClassId) (dI : Nat → Nat → Nat) (cI cD cR : ClassId) (y as ai ar am ak ao az ae aq af : Nat) (hi : Bool) (th : Int32) (po ba en an aw ax ap : Nat) (se : Int32) (ke : Nat → Nat) (so : Nat → Nat) (zz : Nat → Nat) (x9 i9 x2 j9 n9 : Int32) (gzz : ∀ j, zz j ≤ 100) (gso : ∀ j, so j < 3) (gke2 : ∀ j, ke j ≤ 2) (hno : ∀ y1 y2, x9 = nI y1 → x2 = nI y2 → y1 < 8 → y2 < 8 → ke y1 = 2 → ke y2 = 2 → so y1 = so y2 → cpK (zz y1) (zz y2) i9 j9 n9 = false) : Met l yX12_copy wsX12_copy ({ frames := 2, cells := 0, slots := 0, locals := 45 }) (pcR dC dI cI cD cR [.ref y, .int x9, .int i9, .int x2, .int j9, .int n9] (fun H => va_P (dC, dI) vwCl ([(y, .inr (12, [.ref as, .ref ai, .ref ar, .ref am, .ref ak, .ref ao, .ref az, .ref ae, .ref aq, .ref af, .int (bI hi), .int th, .int (nI po), .int (nI ba), .int (nI en), .ref an, .ref aw, .ref ax, .ref ap, .int se]))] ++ [(ak, .inl (cI, 8, .inl (nF ke)))] ++ [(ao, .inl (cI, 8, .inl (nF so)))] ++ [(az, .inl (cI, 8, .inl (nF zz)))]) H)) (vp_Si (fun r => r = (on1 (oN x9 8) (fun y1 => on1 (oN x2 8) (fun y2 => if ke y1 = 0 ∨ ke y2 = 0 then -11 else if ke y1 = 2 ∧ ke y2 = 2 ∧ so y1 = so y2 then -13 else -12) (-1)) (-1)))) 0 0 (fun _ => False) := by
  refine Met.ofW (cc := cX12_copy) (maxL := 8) (ret := (some .int)) (by decide) rfl ?_
  intro p e s m args below meth c s₁ B hml hv
  obtain ⟨rfl, hH0, hCX⟩ := hv
  have hx := B.exec
  have hb := B.bytes
  have hr := B.returns
  have hts := atoms_spec (ws := wsX12_copy) B.pre
  have hown : s.vm.findClass RX12 = some m.cls := findClass_of_methodNamed B.named
  have hlocks := B.notSynchronized
  have hK := hCX.1
  have hP := hH0
  have hl := lv_entry ([.ref y, .int x9, .int i9, .int x2, .int j9, .int n9]) (n := 8) (Nat.le_of_ble_eq_true rfl)
  rw [lg_entry_eq]
  generalize (lg_sl ([.ref y, .int x9, .int i9, .int x2, .int j9, .int n9]) ++ List.replicate (8 - (lg_sl ([.ref y, .int x9, .int i9, .int x2, .int j9, .int n9])).length) Slot.unset).toArray = ls at hl ⊢
  have hl : lv_has ls 8 [(0, .ref y), (1, .int x9), (2, .int i9), (3, .int x2), (4, .int j9), (5, .int n9)] := hl
  rcases okI_or x9 (n := 8) (by omega) with hb_x9 | ⟨y1, h_y1, rfl⟩
  · refine lv_iload_n hx hb dX12_copy_0 rfl (lv_at hl 1 rfl) ?_
    refine vp_callSi ((va_runS (As := [.int x9]) (rest := []) ⟨hx, hb, hml, hown, hts⟩ (c_X12_isShelf_f l dC dI cI cD cR x9 (by first | omega | assumption | exact gnd _ | exact gkn _ | exact Nat.lt_trans (gkn _) (by decide) | exact Nat.lt_trans (gnd _) (by decide) | exact Nat.lt_of_le_of_lt (pcN_le _) (by decide))) (va_cwS 1 hts gX12_copy_X12_isShelf rfl rfl rfl (by decide +kernel) ⟨Nat.le_of_ble_eq_true rfl, Nat.le_of_ble_eq_true rfl⟩) (preS_R hCX (trivial)) rfl rfl hl.1 rfl (lv_room (Nat.le_of_ble_eq_true rfl)) dX12_copy_1 ⟨Nat.le_of_ble_eq_true (by first | rfl | decide), Nat.le_of_ble_eq_true (by first | rfl | decide)⟩).run) (fun r_1 hr_1 => ?_)
    subst hr_1
    refine lv_if_eq (tgt := 14) hx hb dX12_copy_4 (by decide) (fun _ => ?_) (fun z => absurd z (by decide +kernel))
    refine lv_iconst (v := (-1)) hx hb dX12_copy_14 (by decide +kernel) ?_
    exact W.iret (v := (-1)) hx hb hr (fun T9 hT9 hW9 => ⟨_, rfl, (by simp only [oN_f hb_x9, on1_s, on1_n]), hT9⟩) (fun q h => by cases h) dX12_copy_15
  rcases okI_or x2 (n := 8) (by omega) with hb_x2 | ⟨y2, h_y2, rfl⟩
  · refine lv_iload_n hx hb dX12_copy_0 rfl (lv_at hl 1 rfl) ?_
    refine vp_callSi ((va_runS (As := [.int (nI y1)]) (rest := []) ⟨hx, hb, hml, hown, hts⟩ (c_X12_isShelf_t l dC dI cI cD cR y1 (by first | omega | assumption | exact gnd _ | exact gkn _ | exact Nat.lt_trans (gkn _) (by decide) | exact Nat.lt_trans (gnd _) (by decide) | exact Nat.lt_of_le_of_lt (pcN_le _) (by decide))) (va_cwS 1 hts gX12_copy_X12_isShelf rfl rfl rfl (by decide +kernel) ⟨Nat.le_of_ble_eq_true rfl, Nat.le_of_ble_eq_true rfl⟩) (preS_R hCX (trivial)) rfl rfl hl.1 rfl (lv_room (Nat.le_of_ble_eq_true rfl)) dX12_copy_1 ⟨Nat.le_of_ble_eq_true (by first | rfl | decide), Nat.le_of_ble_eq_true (by first | rfl | decide)⟩).run) (fun r_1 hr_1 => ?_)
    subst hr_1
    refine lv_if_eq (tgt := 14) hx hb dX12_copy_4 (by decide) (fun z => absurd z (by decide +kernel)) (fun _ => ?_)
    refine lv_iload_n hx hb dX12_copy_7 rfl (lv_at hl 3 rfl) ?_
    refine vp_callSi ((va_runS (As := [.int x2]) (rest := []) ⟨hx, hb, hml, hown, hts⟩ (c_X12_isShelf_f l dC dI cI cD cR x2 (by first | omega | assumption | exact gnd _ | exact gkn _ | exact Nat.lt_trans (gkn _) (by decide) | exact Nat.lt_trans (gnd _) (by decide) | exact Nat.lt_of_le_of_lt (pcN_le _) (by decide))) (va_cwS 1 hts gX12_copy_X12_isShelf rfl rfl rfl (by decide +kernel) ⟨Nat.le_of_ble_eq_true rfl, Nat.le_of_ble_eq_true rfl⟩) (preS_R hCX (trivial)) rfl rfl hl.1 rfl (lv_room (Nat.le_of_ble_eq_true rfl)) dX12_copy_8 ⟨Nat.le_of_ble_eq_true (by first | rfl | decide), Nat.le_of_ble_eq_true (by first | rfl | decide)⟩).run) (fun r_8 hr_8 => ?_)
    subst hr_8
    refine lv_if_ne (tgt := 16) hx hb dX12_copy_11 (by decide) (fun z => absurd z (by decide +kernel)) (fun _ => ?_)
    refine lv_iconst (v := (-1)) hx hb dX12_copy_14 (by decide +kernel) ?_
    exact W.iret (v := (-1)) hx hb hr (fun T9 hT9 hW9 => ⟨_, rfl, (by simp only [oN_t h_y1, oN_f hb_x2, on1_s, on1_n]), hT9⟩) (fun q h => by cases h) dX12_copy_15
  refine lv_iload_n hx hb dX12_copy_0 rfl (lv_at hl 1 rfl) ?_
  refine vp_callSi ((va_runS (As := [.int (nI y1)]) (rest := []) ⟨hx, hb, hml, hown, hts⟩ (c_X12_isShelf_t l dC dI cI cD cR y1 (by first | omega | assumption | exact gnd _ | exact gkn _ | exact Nat.lt_trans (gkn _) (by decide) | exact Nat.lt_trans (gnd _) (by decide) | exact Nat.lt_of_le_of_lt (pcN_le _) (by decide))) (va_cwS 1 hts gX12_copy_X12_isShelf rfl rfl rfl (by decide +kernel) ⟨Nat.le_of_ble_eq_true rfl, Nat.le_of_ble_eq_true rfl⟩) (preS_R hCX (trivial)) rfl rfl hl.1 rfl (lv_room (Nat.le_of_ble_eq_true rfl)) dX12_copy_1 ⟨Nat.le_of_ble_eq_true (by first | rfl | decide), Nat.le_of_ble_eq_true (by first | rfl | decide)⟩).run) (fun r_1 hr_1 => ?_)
  subst hr_1
  refine lv_if_eq (tgt := 14) hx hb dX12_copy_4 (by decide) (fun z => absurd z (by decide +kernel)) (fun _ => ?_)
  refine lv_iload_n hx hb dX12_copy_7 rfl (lv_at hl 3 rfl) ?_
  refine vp_callSi ((va_runS (As := [.int (nI y2)]) (rest := []) ⟨hx, hb, hml, hown, hts⟩ (c_X12_isShelf_t l dC dI cI cD cR y2 (by first | omega | assumption | exact gnd _ | exact gkn _ | exact Nat.lt_trans (gkn _) (by decide) | exact Nat.lt_trans (gnd _) (by decide) | exact Nat.lt_of_le_of_lt (pcN_le _) (by decide))) (va_cwS 1 hts gX12_copy_X12_isShelf rfl rfl rfl (by decide +kernel) ⟨Nat.le_of_ble_eq_true rfl, Nat.le_of_ble_eq_true rfl⟩) (preS_R hCX (trivial)) rfl rfl hl.1 rfl (lv_room (Nat.le_of_ble_eq_true rfl)) dX12_copy_8 ⟨Nat.le_of_ble_eq_true (by first | rfl | decide), Nat.le_of_ble_eq_true (by first | rfl | decide)⟩).run) (fun r_8 hr_8 => ?_)
  subst hr_8
  refine lv_if_ne (tgt := 16) hx hb dX12_copy_11 (by decide) (fun _ => ?_) (fun z => absurd z (by decide +kernel))
  refine lv_aload_n hx hb dX12_copy_16 rfl (lv_at hl 0 rfl) ?_
  refine va_get (D := (dC, dI)) (ci := 12) (v := .ref ak) (C := RX12) (T := TX12) (N := 20) hx hb hts (fun _ h => List.mem_cons_of_mem _ (List.mem_append_right _ h)) hown hK hP 0 rfl rfl 4 (by decide) (hts (.fieldLink RX12 22 "HoldsOnceDeniedModel" "kept" "[I") (by decide +kernel)) (fun _ h9 => h9) rfl dX12_copy_17 ?_
  refine lv_iload_n hx hb dX12_copy_20 rfl (lv_at hl 1 rfl) ?_
  refine ho_iald (v := nI (ke y1)) hx hb hK hP 1 0 rfl rfl (by omega) (by first | decide | omega) rfl dX12_copy_21 ?_
  refine ho_if_eq (tgt := 34) hx hb dX12_copy_22 (by decide) (by have := gke2 y1; omega) (fun c_22 => ?_) (fun c_22 => ?_)
  · refine lv_bipush (v := (-11)) hx hb dX12_copy_34 (by decide +kernel) ?_
    exact W.iret (v := (-11)) hx hb hr (fun T9 hT9 hW9 => ⟨_, rfl, (by simp only [oN_t h_y1, oN_t h_y2, on1_s, on1_n]; first | rw [if_pos (Or.inl c_22)] | rw [if_pos (Or.inr c_31)]), hT9⟩) (fun q h => by cases h) dX12_copy_36
  refine lv_aload_n hx hb dX12_copy_25 rfl (lv_at hl 0 rfl) ?_
  refine va_get (D := (dC, dI)) (ci := 12) (v := .ref ak) (C := RX12) (T := TX12) (N := 20) hx hb hts (fun _ h => List.mem_cons_of_mem _ (List.mem_append_right _ h)) hown hK hP 0 rfl rfl 4 (by decide) (hts (.fieldLink RX12 22 "HoldsOnceDeniedModel" "kept" "[I") (by decide +kernel)) (fun _ h9 => h9) rfl dX12_copy_26 ?_
  refine lv_iload_n hx hb dX12_copy_29 rfl (lv_at hl 3 rfl) ?_
  refine ho_iald (v := nI (ke y2)) hx hb hK hP 1 0 rfl rfl (by omega) (by first | decide | omega) rfl dX12_copy_30 ?_
  refine ho_if_ne (tgt := 37) hx hb dX12_copy_31 (by decide) (by have := gke2 y2; omega) (fun c_31 => ?_) (fun c_31 => ?_)
  · refine lv_aload_n hx hb dX12_copy_37 rfl (lv_at hl 0 rfl) ?_
    refine va_get (D := (dC, dI)) (ci := 12) (v := .ref ak) (C := RX12) (T := TX12) (N := 20) hx hb hts (fun _ h => List.mem_cons_of_mem _ (List.mem_append_right _ h)) hown hK hP 0 rfl rfl 4 (by decide) (hts (.fieldLink RX12 22 "HoldsOnceDeniedModel" "kept" "[I") (by decide +kernel)) (fun _ h9 => h9) rfl dX12_copy_38 ?_
    refine lv_iload_n hx hb dX12_copy_41 rfl (lv_at hl 1 rfl) ?_
    refine ho_iald (v := nI (ke y1)) hx hb hK hP 1 0 rfl rfl (by omega) (by first | decide | omega) rfl dX12_copy_42 ?_
    refine lv_iconst (v := nI 2) hx hb dX12_copy_43 (by decide +kernel) ?_
    refine ho_icmp_ne (tgt := 72) hx hb dX12_copy_44 (by decide) (by have := gke2 y1; omega) (by omega) (fun c_44 => ?_) (fun c_44 => ?_)
    · refine lv_bipush (v := (-12)) hx hb dX12_copy_72 (by decide +kernel) ?_
      exact W.iret (v := (-12)) hx hb hr (fun T9 hT9 hW9 => ⟨_, rfl, (by simp only [oN_t h_y1, oN_t h_y2, on1_s, on1_n]; rw [if_neg (by omega), if_neg (by omega)]), hT9⟩) (fun q h => by cases h) dX12_copy_74
    refine lv_aload_n hx hb dX12_copy_47 rfl (lv_at hl 0 rfl) ?_
    refine va_get (D := (dC, dI)) (ci := 12) (v := .ref ak) (C := RX12) (T := TX12) (N := 20) hx hb hts (fun _ h => List.mem_cons_of_mem _ (List.mem_append_right _ h)) hown hK hP 0 rfl rfl 4 (by decide) (hts (.fieldLink RX12 22 "HoldsOnceDeniedModel" "kept" "[I") (by decide +kernel)) (fun _ h9 => h9) rfl dX12_copy_48 ?_
    refine lv_iload_n hx hb dX12_copy_51 rfl (lv_at hl 3 rfl) ?_
    refine ho_iald (v := nI (ke y2)) hx hb hK hP 1 0 rfl rfl (by omega) (by first | decide | omega) rfl dX12_copy_52 ?_
    refine lv_iconst (v := nI 2) hx hb dX12_copy_53 (by decide +kernel) ?_
    refine ho_icmp_ne (tgt := 72) hx hb dX12_copy_54 (by decide) (by have := gke2 y2; omega) (by omega) (fun c_54 => ?_) (fun c_54 => ?_)
    · refine lv_bipush (v := (-12)) hx hb dX12_copy_72 (by decide +kernel) ?_
      exact W.iret (v := (-12)) hx hb hr (fun T9 hT9 hW9 => ⟨_, rfl, (by simp only [oN_t h_y1, oN_t h_y2, on1_s, on1_n]; rw [if_neg (by omega), if_neg (by omega)]), hT9⟩) (fun q h => by cases h) dX12_copy_74
    refine lv_aload_n hx hb dX12_copy_57 rfl (lv_at hl 0 rfl) ?_
    refine va_get (D := (dC, dI)) (ci := 12) (v := .ref ao) (C := RX12) (T := TX12) (N := 20) hx hb hts (fun _ h => List.mem_cons_of_mem _ (List.mem_append_right _ h)) hown hK hP 0 rfl rfl 5 (by decide) (hts (.fieldLink RX12 25 "HoldsOnceDeniedModel" "sort" "[I") (by decide +kernel)) (fun _ h9 => h9) rfl dX12_copy_58 ?_
    refine lv_iload_n hx hb dX12_copy_61 rfl (lv_at hl 1 rfl) ?_
    refine ho_iald (v := nI (so y1)) hx hb hK hP 2 0 rfl rfl (by omega) (by first | decide | omega) rfl dX12_copy_62 ?_
    refine lv_aload_n hx hb dX12_copy_63 rfl (lv_at hl 0 rfl) ?_
    refine va_get (D := (dC, dI)) (ci := 12) (v := .ref ao) (C := RX12) (T := TX12) (N := 20) hx hb hts (fun _ h => List.mem_cons_of_mem _ (List.mem_append_right _ h)) hown hK hP 0 rfl rfl 5 (by decide) (hts (.fieldLink RX12 25 "HoldsOnceDeniedModel" "sort" "[I") (by decide +kernel)) (fun _ h9 => h9) rfl dX12_copy_64 ?_
    refine lv_iload_n hx hb dX12_copy_67 rfl (lv_at hl 3 rfl) ?_
    refine ho_iald (v := nI (so y2)) hx hb hK hP 2 0 rfl rfl (by omega) (by first | decide | omega) rfl dX12_copy_68 ?_
    refine ho_icmp_eq (tgt := 75) hx hb dX12_copy_69 (by decide) (by have := gso y1; omega) (by have := gso y2; omega) (fun c_69 => ?_) (fun c_69 => ?_)
    · refine lv_iload hx hb dX12_copy_75 (lv_at hl 5 rfl) ?_
      refine lv_if_lt (tgt := 116) hx hb dX12_copy_77 (by decide) (fun c_77 => ?_) (fun c_77 => ?_)
      · refine lv_bipush (v := (-13)) hx hb dX12_copy_116 (by decide +kernel) ?_
        exact W.iret (v := (-13)) hx hb hr (fun T9 hT9 hW9 => ⟨_, rfl, (by simp only [oN_t h_y1, oN_t h_y2, on1_s, on1_n]; rw [if_neg (by omega), if_pos ⟨by omega, by omega, by omega⟩]), hT9⟩) (fun q h => by cases h) dX12_copy_118
      refine lv_iload_n hx hb dX12_copy_80 rfl (lv_at hl 2 rfl) ?_
      refine lv_if_lt (tgt := 116) hx hb dX12_copy_81 (by decide) (fun c_81 => ?_) (fun c_81 => ?_)
      · refine lv_bipush (v := (-13)) hx hb dX12_copy_116 (by decide +kernel) ?_
        exact W.iret (v := (-13)) hx hb hr (fun T9 hT9 hW9 => ⟨_, rfl, (by simp only [oN_t h_y1, oN_t h_y2, on1_s, on1_n]; rw [if_neg (by omega), if_pos ⟨by omega, by omega, by omega⟩]), hT9⟩) (fun q h => by cases h) dX12_copy_118
      refine lv_iload hx hb dX12_copy_84 (lv_at hl 4 rfl) ?_
      refine lv_if_lt (tgt := 116) hx hb dX12_copy_86 (by decide) (fun c_86 => ?_) (fun c_86 => ?_)
      · refine lv_bipush (v := (-13)) hx hb dX12_copy_116 (by decide +kernel) ?_
        exact W.iret (v := (-13)) hx hb hr (fun T9 hT9 hW9 => ⟨_, rfl, (by simp only [oN_t h_y1, oN_t h_y2, on1_s, on1_n]; rw [if_neg (by omega), if_pos ⟨by omega, by omega, by omega⟩]), hT9⟩) (fun q h => by cases h) dX12_copy_118
      refine lv_iload hx hb dX12_copy_89 (lv_at hl 5 rfl) ?_
      refine lv_aload_n hx hb dX12_copy_91 rfl (lv_at hl 0 rfl) ?_
      refine va_get (D := (dC, dI)) (ci := 12) (v := .ref az) (C := RX12) (T := TX12) (N := 20) hx hb hts (fun _ h => List.mem_cons_of_mem _ (List.mem_append_right _ h)) hown hK hP 0 rfl rfl 6 (by decide) (hts (.fieldLink RX12 28 "HoldsOnceDeniedModel" "size" "[I") (by decide +kernel)) (fun _ h9 => h9) rfl dX12_copy_92 ?_
      refine lv_iload_n hx hb dX12_copy_95 rfl (lv_at hl 1 rfl) ?_
      refine ho_iald (v := nI (zz y1)) hx hb hK hP 3 0 rfl rfl (by omega) (by first | decide | omega) rfl dX12_copy_96 ?_
      refine lv_iload_n hx hb dX12_copy_97 rfl (lv_at hl 2 rfl) ?_
      refine lv_isub hx hb dX12_copy_98 ?_
      refine lv_icmp_gt (tgt := 116) hx hb dX12_copy_99 (by decide) (fun c_99 => ?_) (fun c_99 => ?_)
      · refine lv_bipush (v := (-13)) hx hb dX12_copy_116 (by decide +kernel) ?_
        exact W.iret (v := (-13)) hx hb hr (fun T9 hT9 hW9 => ⟨_, rfl, (by simp only [oN_t h_y1, oN_t h_y2, on1_s, on1_n]; rw [if_neg (by omega), if_pos ⟨by omega, by omega, by omega⟩]), hT9⟩) (fun q h => by cases h) dX12_copy_118
      refine lv_iload hx hb dX12_copy_102 (lv_at hl 5 rfl) ?_
      refine lv_aload_n hx hb dX12_copy_104 rfl (lv_at hl 0 rfl) ?_
      refine va_get (D := (dC, dI)) (ci := 12) (v := .ref az) (C := RX12) (T := TX12) (N := 20) hx hb hts (fun _ h => List.mem_cons_of_mem _ (List.mem_append_right _ h)) hown hK hP 0 rfl rfl 6 (by decide) (hts (.fieldLink RX12 28 "HoldsOnceDeniedModel" "size" "[I") (by decide +kernel)) (fun _ h9 => h9) rfl dX12_copy_105 ?_
      refine lv_iload_n hx hb dX12_copy_108 rfl (lv_at hl 3 rfl) ?_
      refine ho_iald (v := nI (zz y2)) hx hb hK hP 3 0 rfl rfl (by omega) (by first | decide | omega) rfl dX12_copy_109 ?_
      refine lv_iload hx hb dX12_copy_110 (lv_at hl 4 rfl) ?_
      refine lv_isub hx hb dX12_copy_112 ?_
      refine lv_icmp_le (tgt := 119) hx hb dX12_copy_113 (by decide) (fun c_113 => ?_) (fun c_113 => ?_)
      · exact absurd (hno y1 y2 rfl rfl h_y1 h_y2 (by omega) (by omega) (by omega)) (by simp [cpK, c_77, c_81, c_86, Int32.not_lt.mp c_99, c_113])
      refine lv_bipush (v := (-13)) hx hb dX12_copy_116 (by decide +kernel) ?_
      exact W.iret (v := (-13)) hx hb hr (fun T9 hT9 hW9 => ⟨_, rfl, (by simp only [oN_t h_y1, oN_t h_y2, on1_s, on1_n]; rw [if_neg (by omega), if_pos ⟨by omega, by omega, by omega⟩]), hT9⟩) (fun q h => by cases h) dX12_copy_118
    refine lv_bipush (v := (-12)) hx hb dX12_copy_72 (by decide +kernel) ?_
    exact W.iret (v := (-12)) hx hb hr (fun T9 hT9 hW9 => ⟨_, rfl, (by simp only [oN_t h_y1, oN_t h_y2, on1_s, on1_n]; rw [if_neg (by omega), if_neg (by omega)]), hT9⟩) (fun q h => by cases h) dX12_copy_74
  refine lv_bipush (v := (-11)) hx hb dX12_copy_34 (by decide +kernel) ?_
  exact W.iret (v := (-11)) hx hb hr (fun T9 hT9 hW9 => ⟨_, rfl, (by simp only [oN_t h_y1, oN_t h_y2, on1_s, on1_n]; first | rw [if_pos (Or.inl c_22)] | rw [if_pos (Or.inr c_31)]), hT9⟩) (fun q h => by cases h) dX12_copy_36
set_option maxHeartbeats 4000000 in
set_option maxRecDepth 100000 in
theorem c_X12_element_t (l : Launch) (dC : Nat → ClassId) (dI : Nat → Nat → Nat) (cI cD cR : ClassId) (y as ai ar am ak ao az ae aq af : Nat) (hi : Bool) (th : Int32) (po ba en an aw ax ap : Nat) (se : Int32) (ke : Nat → Nat) (zz : Nat → Nat) (el : Nat → Int32) (y1 i9 : Nat) (sz : Nat) (hy1 : y1 < 8) (hke : ke y1 = 2) (hi9 : i9 < zz y1) (gzz : ∀ j, zz j ≤ 100) (gso : ∀ j, so j < 3) (gke2 : ∀ j, ke j ≤ 2) : Met l yX12_element wsX12_element ({ frames := 2, cells := 0, slots := 0, locals := 45 }) (pcR dC dI cI cD cR [.ref y, .int (nI y1), .int (nI i9)] (fun H => H.size = sz ∧ va_P (dC, dI) vwCl ([(y, .inr (12, [.ref as, .ref ai, .ref ar, .ref am, .ref ak, .ref ao, .ref az, .ref ae, .ref aq, .ref af, .int (bI hi), .int th, .int (nI po), .int (nI ba), .int (nI en), .ref an, .ref aw, .ref ax, .ref ap, .int se]))] ++ [(ak, .inl (cI, 8, .inl (nF ke)))] ++ [(az, .inl (cI, 8, .inl (nF zz)))] ++ [(ae, .inl (cI, 800, .inl el))]) H ∧ va_D (fun _ => True) ([(y, .inr (12, [.ref as, .ref ai, .ref ar, .ref am, .ref ak, .ref ao, .ref az, .ref ae, .ref aq, .ref af, .int (bI hi), .int th, .int (nI po), .int (nI ba), .int (nI en), .ref an, .ref aw, .ref ax, .ref ap, .int se]))] ++ [(ak, .inl (cI, 8, .inl (nF ke)))] ++ [(az, .inl (cI, 8, .inl (nF zz)))] ++ [(ae, .inl (cI, 800, .inl el))]))) (va_Ql (fun r (_ : Unit) => r = (el (100 * y1 + i9)).toInt64) (fun (_ : Unit) T9 => va_P (dC, dI) vwCl ([(y, .inr (12, [.ref as, .ref ai, .ref ar, .ref am, .ref ak, .ref ao, .ref az, .ref ae, .ref aq, .ref af, .int (bI hi), .int (nI 0), .int (nI po), .int (nI ba), .int (nI en), .ref an, .ref aw, .ref ax, .ref ap, .int se]))] ++ [(ak, .inl (cI, 8, .inl (nF ke)))] ++ [(az, .inl (cI, 8, .inl (nF zz)))] ++ [(ae, .inl (cI, 800, .inl el))]) T9.heap ∧ va_D (va_A ([(y, .inr (12, [.ref as, .ref ai, .ref ar, .ref am, .ref ak, .ref ao, .ref az, .ref ae, .ref aq, .ref af, .int (bI hi), .int th, .int (nI po), .int (nI ba), .int (nI en), .ref an, .ref aw, .ref ax, .ref ap, .int se]))] ++ [(ak, .inl (cI, 8, .inl (nF ke)))] ++ [(az, .inl (cI, 8, .inl (nF zz)))] ++ [(ae, .inl (cI, 800, .inl el))]) sz) ([(y, .inr (12, [.ref as, .ref ai, .ref ar, .ref am, .ref ak, .ref ao, .ref az, .ref ae, .ref aq, .ref af, .int (bI hi), .int (nI 0), .int (nI po), .int (nI ba), .int (nI en), .ref an, .ref aw, .ref ax, .ref ap, .int se]))] ++ [(ak, .inl (cI, 8, .inl (nF ke)))] ++ [(az, .inl (cI, 8, .inl (nF zz)))] ++ [(ae, .inl (cI, 800, .inl el))])) (va_A ([(y, .inr (12, [.ref as, .ref ai, .ref ar, .ref am, .ref ak, .ref ao, .ref az, .ref ae, .ref aq, .ref af, .int (bI hi), .int th, .int (nI po), .int (nI ba), .int (nI en), .ref an, .ref aw, .ref ax, .ref ap, .int se]))] ++ [(ak, .inl (cI, 8, .inl (nF ke)))] ++ [(az, .inl (cI, 8, .inl (nF zz)))] ++ [(ae, .inl (cI, 800, .inl el))]) sz)) 0 0 (va_A ([(y, .inr (12, [.ref as, .ref ai, .ref ar, .ref am, .ref ak, .ref ao, .ref az, .ref ae, .ref aq, .ref af, .int (bI hi), .int th, .int (nI po), .int (nI ba), .int (nI en), .ref an, .ref aw, .ref ax, .ref ap, .int se]))] ++ [(ak, .inl (cI, 8, .inl (nF ke)))] ++ [(az, .inl (cI, 8, .inl (nF zz)))] ++ [(ae, .inl (cI, 800, .inl el))]) sz) := by
  refine Met.ofW (cc := cX12_element) (maxL := 3) (ret := (some .long)) (by decide) rfl ?_
  intro p e s m args below meth c s₁ B hml hv
  obtain ⟨rfl, hH0, hCX⟩ := hv
  have hx := B.exec
  have hb := B.bytes
  have hr := B.returns
  have hts := atoms_spec (ws := wsX12_element) B.pre
  have hown : s.vm.findClass RX12 = some m.cls := findClass_of_methodNamed B.named
  have hlocks := B.notSynchronized
  have hK := hCX.1
  obtain ⟨hsz, hP, hD0⟩ := hH0
  subst hsz
  have hD := hD0.self (sz := s.heap.size)
  generalize hAe : va_A ([(y, .inr (12, [.ref as, .ref ai, .ref ar, .ref am, .ref ak, .ref ao, .ref az, .ref ae, .ref aq, .ref af, .int (bI hi), .int th, .int (nI po), .int (nI ba), .int (nI en), .ref an, .ref aw, .ref ax, .ref ap, .int se]))] ++ [(ak, .inl (cI, 8, .inl (nF ke)))] ++ [(az, .inl (cI, 8, .inl (nF zz)))] ++ [(ae, .inl (cI, 800, .inl el))]) s.heap.size = A at hD ⊢
  have hA : ∀ q : Nat, s.heap.size ≤ q → A q := fun q h => by rw [← hAe]; exact Or.inr h
  have hS : va_S A s.heap s.heap [] := va_S.rf
  have hP : va_P (dC, dI) vwCl ([(y, .inr (12, [.ref as, .ref ai, .ref ar, .ref am, .ref ak, .ref ao, .ref az, .ref ae, .ref aq, .ref af, .int (bI hi), .int th, .int (nI po), .int (nI ba), .int (nI en), .ref an, .ref aw, .ref ax, .ref ap, .int se]))] ++ [(ak, .inl (cI, 8, .inl (nF ke)))] ++ [(az, .inl (cI, 8, .inl (nF zz)))] ++ [(ae, .inl (cI, 800, .inl el))]) s.heap := hP
  have hzq := gzz y1
  have hl := lv_entry ([.ref y, .int (nI y1), .int (nI i9)]) (n := 3) (Nat.le_of_ble_eq_true rfl)
  rw [lg_entry_eq]
  generalize (lg_sl ([.ref y, .int (nI y1), .int (nI i9)]) ++ List.replicate (3 - (lg_sl ([.ref y, .int (nI y1), .int (nI i9)])).length) Slot.unset).toArray = ls at hl ⊢
  have hl : lv_has ls 3 [(0, .ref y), (1, .int (nI y1)), (2, .int (nI i9))] := hl
  refine lv_aload_n hx hb dX12_element_0 rfl (lv_at hl 0 rfl) ?_
  refine lv_iload_n hx hb dX12_element_1 rfl (lv_at hl 1 rfl) ?_
  refine vp_callSi ((va_runS (As := [.int (nI y1)]) (rest := [.ref y]) ⟨hx, hb, hml, hown, hts⟩ (c_X12_isShelf_t l dC dI cI cD cR y1 (by first | omega | assumption | exact gnd _ | exact gkn _ | exact Nat.lt_trans (gkn _) (by decide) | exact Nat.lt_trans (gnd _) (by decide) | exact Nat.lt_of_le_of_lt (pcN_le _) (by decide))) (va_cwS 1 hts gX12_element_X12_isShelf rfl rfl rfl (by decide +kernel) ⟨Nat.le_of_ble_eq_true rfl, Nat.le_of_ble_eq_true rfl⟩) (preS_R hCX (trivial)) rfl rfl hl.1 rfl (lv_room (Nat.le_of_ble_eq_true rfl)) dX12_element_2 ⟨Nat.le_of_ble_eq_true (by first | rfl | decide), Nat.le_of_ble_eq_true (by first | rfl | decide)⟩).run) (fun r_2 hr_2 => ?_)
  subst hr_2
  refine lv_if_ne (tgt := 12) hx hb dX12_element_5 (by decide) (fun _ => ?_) (fun z => absurd z (by decide +kernel))
  refine lv_aload_n hx hb dX12_element_12 rfl (lv_at hl 0 rfl) ?_
  refine va_get (D := (dC, dI)) (ci := 12) (v := .ref ak) (C := RX12) (T := TX12) (N := 20) hx hb hts (fun _ h => List.mem_cons_of_mem _ (List.mem_append_right _ h)) hown hK hP 0 rfl rfl 4 (by decide) (hts (.fieldLink RX12 22 "HoldsOnceDeniedModel" "kept" "[I") (by decide +kernel)) (fun _ h9 => h9) rfl dX12_element_13 ?_
  refine lv_iload_n hx hb dX12_element_16 rfl (lv_at hl 1 rfl) ?_
  refine ho_iald (v := nI (ke y1)) hx hb hK hP 1 0 rfl rfl (by omega) (by first | decide | omega) rfl dX12_element_17 ?_
  refine lv_iconst (v := nI 2) hx hb dX12_element_18 (by decide +kernel) ?_
  refine ho_icmp_ne (tgt := 40) hx hb dX12_element_19 (by decide) (by omega) (by omega) (fun c_19 => ?_) (fun c_19 => ?_)
  · exfalso; omega
  refine lv_iload_n hx hb dX12_element_22 rfl (lv_at hl 2 rfl) ?_
  refine lv_i2l (v := lN i9) hx hb dX12_element_23 (nI_l (by omega)) ?_
  refine lv_lconst (v := lN 0) hx hb dX12_element_24 (by decide +kernel) ?_
  refine lv_aload_n hx hb dX12_element_25 rfl (lv_at hl 0 rfl) ?_
  refine va_get (D := (dC, dI)) (ci := 12) (v := .ref az) (C := RX12) (T := TX12) (N := 20) hx hb hts (fun _ h => List.mem_cons_of_mem _ (List.mem_append_right _ h)) hown hK hP 0 rfl rfl 6 (by decide) (hts (.fieldLink RX12 28 "HoldsOnceDeniedModel" "size" "[I") (by decide +kernel)) (fun _ h9 => h9) rfl dX12_element_26 ?_
  refine lv_iload_n hx hb dX12_element_29 rfl (lv_at hl 1 rfl) ?_
  refine ho_iald (v := nI (zz y1)) hx hb hK hP 2 0 rfl rfl (by omega) (by first | decide | omega) rfl dX12_element_30 ?_
  refine lv_iconst (v := nI 1) hx hb dX12_element_31 (by decide +kernel) ?_
  refine lv_isub hx hb dX12_element_32 ?_
  refine lv_i2l (v := ((nI (zz y1) - nI 1)).toInt64) hx hb dX12_element_33 rfl ?_
  refine vp_callSi ((va_runS (As := [.long (lN i9), .long (lN 0), .long (((nI (zz y1) - nI 1)).toInt64)]) (rest := [.ref y]) ⟨hx, hb, hml, hown, hts⟩ (c_X12_isIn l dC dI cI cD cR (lN i9) (lN 0) (((nI (zz y1) - nI 1)).toInt64)) (va_cwS 3 hts gX12_element_X12_isIn rfl rfl rfl (by decide +kernel) ⟨Nat.le_of_ble_eq_true rfl, Nat.le_of_ble_eq_true rfl⟩) (preS_R hCX (trivial)) rfl rfl hl.1 rfl (lv_room (Nat.le_of_ble_eq_true rfl)) dX12_element_34 ⟨Nat.le_of_ble_eq_true (by first | rfl | decide), Nat.le_of_ble_eq_true (by first | rfl | decide)⟩).run) (fun r_34 hr_34 => ?_)
  subst hr_34
  refine ho_bne (tgt := 44) hx hb dX12_element_37 (by decide) (fun c_37 => ?_) (fun c_37 => ?_)
  · refine lv_iconst (v := nI 0) hx hb dX12_element_44 (by decide +kernel) ?_
    refine va_put (D := (dC, dI)) (ci := 12) (v := .int (nI 0)) (ty := .int) (C := RX12) (T := TX12) (N := 20) hx hb hts (fun _ h => List.mem_cons_of_mem _ (List.mem_append_right _ h)) tyX12 tyX12_ok nmX12 hown hK hP hD hS 0 rfl rfl 11 (by decide) (hts (.fieldLink RX12 52 "HoldsOnceDeniedModel" "thrown" "I") (by decide +kernel)) (fun _ h9 => h9) rfl (by decide +kernel) rfl rfl (Nat.le_of_ble_eq_true rfl) dX12_element_45 (fun H locs hP hD hS => ?_)
    have hP : va_P (dC, dI) vwCl ([(y, .inr (12, [.ref as, .ref ai, .ref ar, .ref am, .ref ak, .ref ao, .ref az, .ref ae, .ref aq, .ref af, .int (bI hi), .int (nI 0), .int (nI po), .int (nI ba), .int (nI en), .ref an, .ref aw, .ref ax, .ref ap, .int se]))] ++ [(ak, .inl (cI, 8, .inl (nF ke)))] ++ [(az, .inl (cI, 8, .inl (nF zz)))] ++ [(ae, .inl (cI, 800, .inl el))]) H := hP
    have hD : va_D A ([(y, .inr (12, [.ref as, .ref ai, .ref ar, .ref am, .ref ak, .ref ao, .ref az, .ref ae, .ref aq, .ref af, .int (bI hi), .int (nI 0), .int (nI po), .int (nI ba), .int (nI en), .ref an, .ref aw, .ref ax, .ref ap, .int se]))] ++ [(ak, .inl (cI, 8, .inl (nF ke)))] ++ [(az, .inl (cI, 8, .inl (nF zz)))] ++ [(ae, .inl (cI, 800, .inl el))]) := hD
    refine lv_aload_n hx hb dX12_element_48 rfl (lv_at hl 0 rfl) ?_
    refine va_get (D := (dC, dI)) (ci := 12) (v := .int (nI 0)) (C := RX12) (T := TX12) (N := 20) hx hb hts (fun _ h => List.mem_cons_of_mem _ (List.mem_append_right _ h)) hown hK hP 0 rfl rfl 11 (by decide) (hts (.fieldLink RX12 52 "HoldsOnceDeniedModel" "thrown" "I") (by decide +kernel)) (fun _ h9 => h9) rfl dX12_element_49 ?_
    refine lv_if_ne (tgt := 70) hx hb dX12_element_52 (by decide) (fun z => absurd z (by decide +kernel)) (fun _ => ?_)
    refine lv_aload_n hx hb dX12_element_55 rfl (lv_at hl 0 rfl) ?_
    refine va_get (D := (dC, dI)) (ci := 12) (v := .ref ae) (C := RX12) (T := TX12) (N := 20) hx hb hts (fun _ h => List.mem_cons_of_mem _ (List.mem_append_right _ h)) hown hK hP 0 rfl rfl 7 (by decide) (hts (.fieldLink RX12 31 "HoldsOnceDeniedModel" "element" "[I") (by decide +kernel)) (fun _ h9 => h9) rfl dX12_element_56 ?_
    refine lv_bipush (v := nI 100) hx hb dX12_element_59 (by decide +kernel) ?_
    refine lv_iload_n hx hb dX12_element_61 rfl (lv_at hl 1 rfl) ?_
    refine ho_imul hx hb dX12_element_62 ?_
    refine lv_iload_n hx hb dX12_element_63 rfl (lv_at hl 2 rfl) ?_
    refine ho_iadd hx hb dX12_element_64 ?_
    refine ho_iald (v := (el ((100 * y1) + i9))) hx hb hK hP 3 0 rfl rfl (by omega) (by first | decide | omega) rfl dX12_element_65 ?_
    refine lv_i2l (v := ((el ((100 * y1) + i9))).toInt64) hx hb dX12_element_66 rfl ?_
    refine lv_goto (tgt := 71) hx hb dX12_element_67 (by decide) ?_
    exact W.lret hx hb hr (fun T9 hT9 hW9 => ⟨⟨_, (), rfl, (by rfl), by rw [hT9]; exact hP, hD⟩, hS.F hT9⟩) hS.2.2 dX12_element_71
  rw [inB_mt hi9 (by omega)] at c_37; cases c_37
set_option maxHeartbeats 4000000 in
set_option maxRecDepth 100000 in
theorem c_X12_element_f (l : Launch) (dC : Nat → ClassId) (dI : Nat → Nat → Nat) (cI cD cR : ClassId) (y as ai ar am ak ao az ae aq af : Nat) (hi : Bool) (th : Int32) (po ba en an aw ax ap : Nat) (se : Int32) (ke : Nat → Nat) (zz : Nat → Nat) (x9 i9 : Int32) (sz : Nat) (gzz : ∀ j, zz j ≤ 100) (gso : ∀ j, so j < 3) (gke2 : ∀ j, ke j ≤ 2) (hno : ∀ y, x9 = nI y → y < 8 → ke y = 2 → okI i9 (zz y) = false) : Met l yX12_element wsX12_element ({ frames := 2, cells := 0, slots := 0, locals := 45 }) (pcR dC dI cI cD cR [.ref y, .int x9, .int i9] (fun H => H.size = sz ∧ va_P (dC, dI) vwCl ([(y, .inr (12, [.ref as, .ref ai, .ref ar, .ref am, .ref ak, .ref ao, .ref az, .ref ae, .ref aq, .ref af, .int (bI hi), .int th, .int (nI po), .int (nI ba), .int (nI en), .ref an, .ref aw, .ref ax, .ref ap, .int se]))] ++ [(ak, .inl (cI, 8, .inl (nF ke)))] ++ [(az, .inl (cI, 8, .inl (nF zz)))]) H ∧ va_D (fun _ => True) ([(y, .inr (12, [.ref as, .ref ai, .ref ar, .ref am, .ref ak, .ref ao, .ref az, .ref ae, .ref aq, .ref af, .int (bI hi), .int th, .int (nI po), .int (nI ba), .int (nI en), .ref an, .ref aw, .ref ax, .ref ap, .int se]))] ++ [(ak, .inl (cI, 8, .inl (nF ke)))] ++ [(az, .inl (cI, 8, .inl (nF zz)))]))) (va_Ql (fun r (_ : Unit) => r = lN 0) (fun (_ : Unit) T9 => va_P (dC, dI) vwCl ([(y, .inr (12, [.ref as, .ref ai, .ref ar, .ref am, .ref ak, .ref ao, .ref az, .ref ae, .ref aq, .ref af, .int (bI hi), .int (on1 (oN x9 8) (fun _ => nI 2) (nI 1)), .int (nI po), .int (nI ba), .int (nI en), .ref an, .ref aw, .ref ax, .ref ap, .int se]))] ++ [(ak, .inl (cI, 8, .inl (nF ke)))] ++ [(az, .inl (cI, 8, .inl (nF zz)))]) T9.heap ∧ va_D (va_A ([(y, .inr (12, [.ref as, .ref ai, .ref ar, .ref am, .ref ak, .ref ao, .ref az, .ref ae, .ref aq, .ref af, .int (bI hi), .int th, .int (nI po), .int (nI ba), .int (nI en), .ref an, .ref aw, .ref ax, .ref ap, .int se]))] ++ [(ak, .inl (cI, 8, .inl (nF ke)))] ++ [(az, .inl (cI, 8, .inl (nF zz)))]) sz) ([(y, .inr (12, [.ref as, .ref ai, .ref ar, .ref am, .ref ak, .ref ao, .ref az, .ref ae, .ref aq, .ref af, .int (bI hi), .int (on1 (oN x9 8) (fun _ => nI 2) (nI 1)), .int (nI po), .int (nI ba), .int (nI en), .ref an, .ref aw, .ref ax, .ref ap, .int se]))] ++ [(ak, .inl (cI, 8, .inl (nF ke)))] ++ [(az, .inl (cI, 8, .inl (nF zz)))])) (va_A ([(y, .inr (12, [.ref as, .ref ai, .ref ar, .ref am, .ref ak, .ref ao, .ref az, .ref ae, .ref aq, .ref af, .int (bI hi), .int th, .int (nI po), .int (nI ba), .int (nI en), .ref an, .ref aw, .ref ax, .ref ap, .int se]))] ++ [(ak, .inl (cI, 8, .inl (nF ke)))] ++ [(az, .inl (cI, 8, .inl (nF zz)))]) sz)) 0 0 (va_A ([(y, .inr (12, [.ref as, .ref ai, .ref ar, .ref am, .ref ak, .ref ao, .ref az, .ref ae, .ref aq, .ref af, .int (bI hi), .int th, .int (nI po), .int (nI ba), .int (nI en), .ref an, .ref aw, .ref ax, .ref ap, .int se]))] ++ [(ak, .inl (cI, 8, .inl (nF ke)))] ++ [(az, .inl (cI, 8, .inl (nF zz)))]) sz) := by
  refine Met.ofW (cc := cX12_element) (maxL := 3) (ret := (some .long)) (by decide) rfl ?_
  intro p e s m args below meth c s₁ B hml hv
  obtain ⟨rfl, hH0, hCX⟩ := hv
  have hx := B.exec
  have hb := B.bytes
  have hr := B.returns
  have hts := atoms_spec (ws := wsX12_element) B.pre
  have hown : s.vm.findClass RX12 = some m.cls := findClass_of_methodNamed B.named
  have hlocks := B.notSynchronized
  have hK := hCX.1
  obtain ⟨hsz, hP, hD0⟩ := hH0
  subst hsz
  have hD := hD0.self (sz := s.heap.size)
  generalize hAe : va_A ([(y, .inr (12, [.ref as, .ref ai, .ref ar, .ref am, .ref ak, .ref ao, .ref az, .ref ae, .ref aq, .ref af, .int (bI hi), .int th, .int (nI po), .int (nI ba), .int (nI en), .ref an, .ref aw, .ref ax, .ref ap, .int se]))] ++ [(ak, .inl (cI, 8, .inl (nF ke)))] ++ [(az, .inl (cI, 8, .inl (nF zz)))]) s.heap.size = A at hD ⊢
  have hA : ∀ q : Nat, s.heap.size ≤ q → A q := fun q h => by rw [← hAe]; exact Or.inr h
  have hS : va_S A s.heap s.heap [] := va_S.rf
  have hP : va_P (dC, dI) vwCl ([(y, .inr (12, [.ref as, .ref ai, .ref ar, .ref am, .ref ak, .ref ao, .ref az, .ref ae, .ref aq, .ref af, .int (bI hi), .int th, .int (nI po), .int (nI ba), .int (nI en), .ref an, .ref aw, .ref ax, .ref ap, .int se]))] ++ [(ak, .inl (cI, 8, .inl (nF ke)))] ++ [(az, .inl (cI, 8, .inl (nF zz)))]) s.heap := hP
  have hl := lv_entry ([.ref y, .int x9, .int i9]) (n := 3) (Nat.le_of_ble_eq_true rfl)
  rw [lg_entry_eq]
  generalize (lg_sl ([.ref y, .int x9, .int i9]) ++ List.replicate (3 - (lg_sl ([.ref y, .int x9, .int i9])).length) Slot.unset).toArray = ls at hl ⊢
  have hl : lv_has ls 3 [(0, .ref y), (1, .int x9), (2, .int i9)] := hl
  rcases okI_or x9 (n := 8) (by omega) with hb_x9 | ⟨y1, h_y1, rfl⟩
  · refine lv_aload_n hx hb dX12_element_0 rfl (lv_at hl 0 rfl) ?_
    refine lv_iload_n hx hb dX12_element_1 rfl (lv_at hl 1 rfl) ?_
    refine vp_callSi ((va_runS (As := [.int x9]) (rest := [.ref y]) ⟨hx, hb, hml, hown, hts⟩ (c_X12_isShelf_f l dC dI cI cD cR x9 (by first | omega | assumption | exact gnd _ | exact gkn _ | exact Nat.lt_trans (gkn _) (by decide) | exact Nat.lt_trans (gnd _) (by decide) | exact Nat.lt_of_le_of_lt (pcN_le _) (by decide))) (va_cwS 1 hts gX12_element_X12_isShelf rfl rfl rfl (by decide +kernel) ⟨Nat.le_of_ble_eq_true rfl, Nat.le_of_ble_eq_true rfl⟩) (preS_R hCX (trivial)) rfl rfl hl.1 rfl (lv_room (Nat.le_of_ble_eq_true rfl)) dX12_element_2 ⟨Nat.le_of_ble_eq_true (by first | rfl | decide), Nat.le_of_ble_eq_true (by first | rfl | decide)⟩).run) (fun r_2 hr_2 => ?_)
    subst hr_2
    refine lv_if_ne (tgt := 12) hx hb dX12_element_5 (by decide) (fun z => absurd z (by decide +kernel)) (fun _ => ?_)
    refine lv_iconst (v := nI 1) hx hb dX12_element_8 (by decide +kernel) ?_
    refine lv_goto (tgt := 45) hx hb dX12_element_9 (by decide) ?_
    refine va_put (D := (dC, dI)) (ci := 12) (v := .int (nI 1)) (ty := .int) (C := RX12) (T := TX12) (N := 20) hx hb hts (fun _ h => List.mem_cons_of_mem _ (List.mem_append_right _ h)) tyX12 tyX12_ok nmX12 hown hK hP hD hS 0 rfl rfl 11 (by decide) (hts (.fieldLink RX12 52 "HoldsOnceDeniedModel" "thrown" "I") (by decide +kernel)) (fun _ h9 => h9) rfl (by decide +kernel) rfl rfl (Nat.le_of_ble_eq_true rfl) dX12_element_45 (fun H locs hP hD hS => ?_)
    have hP : va_P (dC, dI) vwCl ([(y, .inr (12, [.ref as, .ref ai, .ref ar, .ref am, .ref ak, .ref ao, .ref az, .ref ae, .ref aq, .ref af, .int (bI hi), .int (nI 1), .int (nI po), .int (nI ba), .int (nI en), .ref an, .ref aw, .ref ax, .ref ap, .int se]))] ++ [(ak, .inl (cI, 8, .inl (nF ke)))] ++ [(az, .inl (cI, 8, .inl (nF zz)))]) H := hP
    have hD : va_D A ([(y, .inr (12, [.ref as, .ref ai, .ref ar, .ref am, .ref ak, .ref ao, .ref az, .ref ae, .ref aq, .ref af, .int (bI hi), .int (nI 1), .int (nI po), .int (nI ba), .int (nI en), .ref an, .ref aw, .ref ax, .ref ap, .int se]))] ++ [(ak, .inl (cI, 8, .inl (nF ke)))] ++ [(az, .inl (cI, 8, .inl (nF zz)))]) := hD
    refine lv_aload_n hx hb dX12_element_48 rfl (lv_at hl 0 rfl) ?_
    refine va_get (D := (dC, dI)) (ci := 12) (v := .int (nI 1)) (C := RX12) (T := TX12) (N := 20) hx hb hts (fun _ h => List.mem_cons_of_mem _ (List.mem_append_right _ h)) hown hK hP 0 rfl rfl 11 (by decide) (hts (.fieldLink RX12 52 "HoldsOnceDeniedModel" "thrown" "I") (by decide +kernel)) (fun _ h9 => h9) rfl dX12_element_49 ?_
    refine lv_if_ne (tgt := 70) hx hb dX12_element_52 (by decide) (fun _ => ?_) (fun z => absurd z (by decide +kernel))
    refine lv_lconst (v := lN 0) hx hb dX12_element_70 (by decide +kernel) ?_
    have hW9 : ([(y, .inr (12, [.ref as, .ref ai, .ref ar, .ref am, .ref ak, .ref ao, .ref az, .ref ae, .ref aq, .ref af, .int (bI hi), .int (nI 1), .int (nI po), .int (nI ba), .int (nI en), .ref an, .ref aw, .ref ax, .ref ap, .int se]))] ++ [(ak, .inl (cI, 8, .inl (nF ke)))] ++ [(az, .inl (cI, 8, .inl (nF zz)))] : va_W) = [(y, .inr (12, [.ref as, .ref ai, .ref ar, .ref am, .ref ak, .ref ao, .ref az, .ref ae, .ref aq, .ref af, .int (bI hi), .int (on1 (oN x9 8) (fun _ => nI 2) (nI 1)), .int (nI po), .int (nI ba), .int (nI en), .ref an, .ref aw, .ref ax, .ref ap, .int se]))] ++ [(ak, .inl (cI, 8, .inl (nF ke)))] ++ [(az, .inl (cI, 8, .inl (nF zz)))] := by simp only [on2_n, on2_sn, on2_ss, on1_n, on1_s, cond_true, cond_false, Bool.true_and, Bool.and_true, Bool.false_and, Bool.and_false, oN_f hb_x9]
    rw [hW9] at hP hD
    exact W.lret hx hb hr (fun T9 hT9 hW9 => ⟨⟨_, (), rfl, rfl, by rw [hT9]; exact hP, hD⟩, hS.F hT9⟩) hS.2.2 dX12_element_71
  refine lv_aload_n hx hb dX12_element_0 rfl (lv_at hl 0 rfl) ?_
  refine lv_iload_n hx hb dX12_element_1 rfl (lv_at hl 1 rfl) ?_
  refine vp_callSi ((va_runS (As := [.int (nI y1)]) (rest := [.ref y]) ⟨hx, hb, hml, hown, hts⟩ (c_X12_isShelf_t l dC dI cI cD cR y1 (by first | omega | assumption | exact gnd _ | exact gkn _ | exact Nat.lt_trans (gkn _) (by decide) | exact Nat.lt_trans (gnd _) (by decide) | exact Nat.lt_of_le_of_lt (pcN_le _) (by decide))) (va_cwS 1 hts gX12_element_X12_isShelf rfl rfl rfl (by decide +kernel) ⟨Nat.le_of_ble_eq_true rfl, Nat.le_of_ble_eq_true rfl⟩) (preS_R hCX (trivial)) rfl rfl hl.1 rfl (lv_room (Nat.le_of_ble_eq_true rfl)) dX12_element_2 ⟨Nat.le_of_ble_eq_true (by first | rfl | decide), Nat.le_of_ble_eq_true (by first | rfl | decide)⟩).run) (fun r_2 hr_2 => ?_)
  subst hr_2
  refine lv_if_ne (tgt := 12) hx hb dX12_element_5 (by decide) (fun _ => ?_) (fun z => absurd z (by decide +kernel))
  refine lv_aload_n hx hb dX12_element_12 rfl (lv_at hl 0 rfl) ?_
  refine va_get (D := (dC, dI)) (ci := 12) (v := .ref ak) (C := RX12) (T := TX12) (N := 20) hx hb hts (fun _ h => List.mem_cons_of_mem _ (List.mem_append_right _ h)) hown hK hP 0 rfl rfl 4 (by decide) (hts (.fieldLink RX12 22 "HoldsOnceDeniedModel" "kept" "[I") (by decide +kernel)) (fun _ h9 => h9) rfl dX12_element_13 ?_
  refine lv_iload_n hx hb dX12_element_16 rfl (lv_at hl 1 rfl) ?_
  refine ho_iald (v := nI (ke y1)) hx hb hK hP 1 0 rfl rfl (by omega) (by first | decide | omega) rfl dX12_element_17 ?_
  refine lv_iconst (v := nI 2) hx hb dX12_element_18 (by decide +kernel) ?_
  refine ho_icmp_ne (tgt := 40) hx hb dX12_element_19 (by decide) (by have := gke2 y1; omega) (by omega) (fun c_19 => ?_) (fun c_19 => ?_)
  · refine lv_iconst (v := nI 2) hx hb dX12_element_40 (by decide +kernel) ?_
    refine lv_goto (tgt := 45) hx hb dX12_element_41 (by decide) ?_
    refine va_put (D := (dC, dI)) (ci := 12) (v := .int (nI 2)) (ty := .int) (C := RX12) (T := TX12) (N := 20) hx hb hts (fun _ h => List.mem_cons_of_mem _ (List.mem_append_right _ h)) tyX12 tyX12_ok nmX12 hown hK hP hD hS 0 rfl rfl 11 (by decide) (hts (.fieldLink RX12 52 "HoldsOnceDeniedModel" "thrown" "I") (by decide +kernel)) (fun _ h9 => h9) rfl (by decide +kernel) rfl rfl (Nat.le_of_ble_eq_true rfl) dX12_element_45 (fun H locs hP hD hS => ?_)
    have hP : va_P (dC, dI) vwCl ([(y, .inr (12, [.ref as, .ref ai, .ref ar, .ref am, .ref ak, .ref ao, .ref az, .ref ae, .ref aq, .ref af, .int (bI hi), .int (nI 2), .int (nI po), .int (nI ba), .int (nI en), .ref an, .ref aw, .ref ax, .ref ap, .int se]))] ++ [(ak, .inl (cI, 8, .inl (nF ke)))] ++ [(az, .inl (cI, 8, .inl (nF zz)))]) H := hP
    have hD : va_D A ([(y, .inr (12, [.ref as, .ref ai, .ref ar, .ref am, .ref ak, .ref ao, .ref az, .ref ae, .ref aq, .ref af, .int (bI hi), .int (nI 2), .int (nI po), .int (nI ba), .int (nI en), .ref an, .ref aw, .ref ax, .ref ap, .int se]))] ++ [(ak, .inl (cI, 8, .inl (nF ke)))] ++ [(az, .inl (cI, 8, .inl (nF zz)))]) := hD
    refine lv_aload_n hx hb dX12_element_48 rfl (lv_at hl 0 rfl) ?_
    refine va_get (D := (dC, dI)) (ci := 12) (v := .int (nI 2)) (C := RX12) (T := TX12) (N := 20) hx hb hts (fun _ h => List.mem_cons_of_mem _ (List.mem_append_right _ h)) hown hK hP 0 rfl rfl 11 (by decide) (hts (.fieldLink RX12 52 "HoldsOnceDeniedModel" "thrown" "I") (by decide +kernel)) (fun _ h9 => h9) rfl dX12_element_49 ?_
    refine lv_if_ne (tgt := 70) hx hb dX12_element_52 (by decide) (fun _ => ?_) (fun z => absurd z (by decide +kernel))
    refine lv_lconst (v := lN 0) hx hb dX12_element_70 (by decide +kernel) ?_
    have hW9 : ([(y, .inr (12, [.ref as, .ref ai, .ref ar, .ref am, .ref ak, .ref ao, .ref az, .ref ae, .ref aq, .ref af, .int (bI hi), .int (nI 2), .int (nI po), .int (nI ba), .int (nI en), .ref an, .ref aw, .ref ax, .ref ap, .int se]))] ++ [(ak, .inl (cI, 8, .inl (nF ke)))] ++ [(az, .inl (cI, 8, .inl (nF zz)))] : va_W) = [(y, .inr (12, [.ref as, .ref ai, .ref ar, .ref am, .ref ak, .ref ao, .ref az, .ref ae, .ref aq, .ref af, .int (bI hi), .int (on1 (oN (nI y1) 8) (fun _ => nI 2) (nI 1)), .int (nI po), .int (nI ba), .int (nI en), .ref an, .ref aw, .ref ax, .ref ap, .int se]))] ++ [(ak, .inl (cI, 8, .inl (nF ke)))] ++ [(az, .inl (cI, 8, .inl (nF zz)))] := by simp only [on2_n, on2_sn, on2_ss, on1_n, on1_s, cond_true, cond_false, Bool.true_and, Bool.and_true, Bool.false_and, Bool.and_false, oN_t h_y1, c_19]
    rw [hW9] at hP hD
    exact W.lret hx hb hr (fun T9 hT9 hW9 => ⟨⟨_, (), rfl, rfl, by rw [hT9]; exact hP, hD⟩, hS.F hT9⟩) hS.2.2 dX12_element_71
  have hno2 := hno y1 rfl h_y1 (by omega)
  have hzq := gzz y1
  refine lv_iload_n hx hb dX12_element_22 rfl (lv_at hl 2 rfl) ?_
  refine lv_i2l (v := (i9).toInt64) hx hb dX12_element_23 rfl ?_
  refine lv_lconst (v := lN 0) hx hb dX12_element_24 (by decide +kernel) ?_
  refine lv_aload_n hx hb dX12_element_25 rfl (lv_at hl 0 rfl) ?_
  refine va_get (D := (dC, dI)) (ci := 12) (v := .ref az) (C := RX12) (T := TX12) (N := 20) hx hb hts (fun _ h => List.mem_cons_of_mem _ (List.mem_append_right _ h)) hown hK hP 0 rfl rfl 6 (by decide) (hts (.fieldLink RX12 28 "HoldsOnceDeniedModel" "size" "[I") (by decide +kernel)) (fun _ h9 => h9) rfl dX12_element_26 ?_
  refine lv_iload_n hx hb dX12_element_29 rfl (lv_at hl 1 rfl) ?_
  refine ho_iald (v := nI (zz y1)) hx hb hK hP 2 0 rfl rfl (by omega) (by first | decide | omega) rfl dX12_element_30 ?_
  refine lv_iconst (v := nI 1) hx hb dX12_element_31 (by decide +kernel) ?_
  refine lv_isub hx hb dX12_element_32 ?_
  refine lv_i2l (v := ((nI (zz y1) - nI 1)).toInt64) hx hb dX12_element_33 rfl ?_
  refine vp_callSi ((va_runS (As := [.long ((i9).toInt64), .long (lN 0), .long (((nI (zz y1) - nI 1)).toInt64)]) (rest := [.ref y]) ⟨hx, hb, hml, hown, hts⟩ (c_X12_isIn l dC dI cI cD cR ((i9).toInt64) (lN 0) (((nI (zz y1) - nI 1)).toInt64)) (va_cwS 3 hts gX12_element_X12_isIn rfl rfl rfl (by decide +kernel) ⟨Nat.le_of_ble_eq_true rfl, Nat.le_of_ble_eq_true rfl⟩) (preS_R hCX (trivial)) rfl rfl hl.1 rfl (lv_room (Nat.le_of_ble_eq_true rfl)) dX12_element_34 ⟨Nat.le_of_ble_eq_true (by first | rfl | decide), Nat.le_of_ble_eq_true (by first | rfl | decide)⟩).run) (fun r_34 hr_34 => ?_)
  subst hr_34
  refine ho_bne (tgt := 44) hx hb dX12_element_37 (by decide) (fun c_37 => ?_) (fun c_37 => ?_)
  · rw [inB_m i9 (by omega), hno2] at c_37; cases c_37
  refine lv_iconst (v := nI 2) hx hb dX12_element_40 (by decide +kernel) ?_
  refine lv_goto (tgt := 45) hx hb dX12_element_41 (by decide) ?_
  refine va_put (D := (dC, dI)) (ci := 12) (v := .int (nI 2)) (ty := .int) (C := RX12) (T := TX12) (N := 20) hx hb hts (fun _ h => List.mem_cons_of_mem _ (List.mem_append_right _ h)) tyX12 tyX12_ok nmX12 hown hK hP hD hS 0 rfl rfl 11 (by decide) (hts (.fieldLink RX12 52 "HoldsOnceDeniedModel" "thrown" "I") (by decide +kernel)) (fun _ h9 => h9) rfl (by decide +kernel) rfl rfl (Nat.le_of_ble_eq_true rfl) dX12_element_45 (fun H locs hP hD hS => ?_)
  have hP : va_P (dC, dI) vwCl ([(y, .inr (12, [.ref as, .ref ai, .ref ar, .ref am, .ref ak, .ref ao, .ref az, .ref ae, .ref aq, .ref af, .int (bI hi), .int (nI 2), .int (nI po), .int (nI ba), .int (nI en), .ref an, .ref aw, .ref ax, .ref ap, .int se]))] ++ [(ak, .inl (cI, 8, .inl (nF ke)))] ++ [(az, .inl (cI, 8, .inl (nF zz)))]) H := hP
  have hD : va_D A ([(y, .inr (12, [.ref as, .ref ai, .ref ar, .ref am, .ref ak, .ref ao, .ref az, .ref ae, .ref aq, .ref af, .int (bI hi), .int (nI 2), .int (nI po), .int (nI ba), .int (nI en), .ref an, .ref aw, .ref ax, .ref ap, .int se]))] ++ [(ak, .inl (cI, 8, .inl (nF ke)))] ++ [(az, .inl (cI, 8, .inl (nF zz)))]) := hD
  refine lv_aload_n hx hb dX12_element_48 rfl (lv_at hl 0 rfl) ?_
  refine va_get (D := (dC, dI)) (ci := 12) (v := .int (nI 2)) (C := RX12) (T := TX12) (N := 20) hx hb hts (fun _ h => List.mem_cons_of_mem _ (List.mem_append_right _ h)) hown hK hP 0 rfl rfl 11 (by decide) (hts (.fieldLink RX12 52 "HoldsOnceDeniedModel" "thrown" "I") (by decide +kernel)) (fun _ h9 => h9) rfl dX12_element_49 ?_
  refine lv_if_ne (tgt := 70) hx hb dX12_element_52 (by decide) (fun _ => ?_) (fun z => absurd z (by decide +kernel))
  refine lv_lconst (v := lN 0) hx hb dX12_element_70 (by decide +kernel) ?_
  have hW9 : ([(y, .inr (12, [.ref as, .ref ai, .ref ar, .ref am, .ref ak, .ref ao, .ref az, .ref ae, .ref aq, .ref af, .int (bI hi), .int (nI 2), .int (nI po), .int (nI ba), .int (nI en), .ref an, .ref aw, .ref ax, .ref ap, .int se]))] ++ [(ak, .inl (cI, 8, .inl (nF ke)))] ++ [(az, .inl (cI, 8, .inl (nF zz)))] : va_W) = [(y, .inr (12, [.ref as, .ref ai, .ref ar, .ref am, .ref ak, .ref ao, .ref az, .ref ae, .ref aq, .ref af, .int (bI hi), .int (on1 (oN (nI y1) 8) (fun _ => nI 2) (nI 1)), .int (nI po), .int (nI ba), .int (nI en), .ref an, .ref aw, .ref ax, .ref ap, .int se]))] ++ [(ak, .inl (cI, 8, .inl (nF ke)))] ++ [(az, .inl (cI, 8, .inl (nF zz)))] := by simp only [on2_n, on2_sn, on2_ss, on1_n, on1_s, cond_true, cond_false, Bool.true_and, Bool.and_true, Bool.false_and, Bool.and_false, oN_t h_y1, c_19, c_37]
  rw [hW9] at hP hD
  exact W.lret hx hb hr (fun T9 hT9 hW9 => ⟨⟨_, (), rfl, rfl, by rw [hT9]; exact hP, hD⟩, hS.F hT9⟩) hS.2.2 dX12_element_71
set_option maxHeartbeats 4000000 in
set_option maxRecDepth 100000 in
theorem c_X12_canHave (l : Launch) (dC : Nat → ClassId) (dI : Nat → Nat → Nat) (cI cD cR : ClassId) (y as ai ar am ak ao az ae aq af : Nat) (hi : Bool) (th : Int32) (po ba en an aw ax ap : Nat) (se : Int32) (n d t day al : Nat) (nd : Nat → Nat) (bb oo : Nat → Int32) (K F kn : Nat → Nat) (nM dM tM dayM alM : Nat) (ndM : Nat → Nat) (bbM ooM : Nat → Int32) (KM FM knM : Nat → Nat) (x9 : Int32) (sz : Nat) (hn : n ≤ 9) (hd : d ≤ 7) (ht : t < 512) (hal : al < 128) (hday : day < 2 ^ 30) (gnd : ∀ i, nd i < 512) (gkn : ∀ j, kn j < 512) (gK : ∀ j, K j < 8) (gF : ∀ j, F j < 10) (hd6 : d ≤ 6) : Met l yX12_canHave wsX12_canHave ({ frames := 3, cells := 0, slots := 0, locals := 69 }) (pcR dC dI cI cD cR [.ref y, .int x9] (fun H => H.size = sz ∧ va_P (dC, dI) vwCl ([(y, .inr (12, [.ref as, .ref ai, .ref ar, .ref am, .ref ak, .ref ao, .ref az, .ref ae, .ref aq, .ref af, .int (bI hi), .int th, .int (nI po), .int (nI ba), .int (nI en), .ref an, .ref aw, .ref ax, .ref ap, .int se]))] ++ [(as, .inl (cI, 53, .inl (sF n d t day al nd bb oo K F kn)))] ++ [(am, .inl (cI, 53, .inl (sF nM dM tM dayM alM ndM bbM ooM KM FM knM)))]) H ∧ va_D (fun _ => True) ([(y, .inr (12, [.ref as, .ref ai, .ref ar, .ref am, .ref ak, .ref ao, .ref az, .ref ae, .ref aq, .ref af, .int (bI hi), .int th, .int (nI po), .int (nI ba), .int (nI en), .ref an, .ref aw, .ref ax, .ref ap, .int se]))] ++ [(as, .inl (cI, 53, .inl (sF n d t day al nd bb oo K F kn)))] ++ [(am, .inl (cI, 53, .inl (sF nM dM tM dayM alM ndM bbM ooM KM FM knM)))]))) (va_Qi (fun r (_ : Unit) => r = (on1 (oN x9 n) (fun i => bif t.testBit i then nI (orF (fun j => maB (K j) (F j) (sdf t (2 ^ i)) (kcF kn (2 ^ i) d j) (nd i) i && siB (K j) (sdf t (2 ^ i)) (kcF kn (2 ^ i) d j) (nd i) false) d) else -3) (-1))) (fun (_ : Unit) T9 => va_P (dC, dI) vwCl ([(y, .inr (12, [.ref as, .ref ai, .ref ar, .ref am, .ref ak, .ref ao, .ref az, .ref ae, .ref aq, .ref af, .int (bI hi), .int th, .int (nI po), .int (nI ba), .int (nI en), .ref an, .ref aw, .ref ax, .ref ap, .int se]))] ++ [(as, .inl (cI, 53, .inl (sF n d t day al nd bb oo K F kn)))] ++ [(am, .inl (cI, 53, .inl (sF (on1 (oN x9 n) (fun i => bif t.testBit i then n else nM) nM) (on1 (oN x9 n) (fun i => bif t.testBit i then d else dM) dM) (on1 (oN x9 n) (fun i => bif t.testBit i then t else tM) tM) (on1 (oN x9 n) (fun i => bif t.testBit i then day else dayM) dayM) (on1 (oN x9 n) (fun i => bif t.testBit i then al else alM) alM) (on1 (oN x9 n) (fun i => bif t.testBit i then nd else ndM) ndM) (on1 (oN x9 n) (fun i => bif t.testBit i then bb else bbM) bbM) (on1 (oN x9 n) (fun i => bif t.testBit i then oo else ooM) ooM) (on1 (oN x9 n) (fun i => bif t.testBit i then K else KM) KM) (on1 (oN x9 n) (fun i => bif t.testBit i then F else FM) FM) (on1 (oN x9 n) (fun i => bif t.testBit i then kn else knM) knM))))]) T9.heap ∧ va_D (va_A ([(y, .inr (12, [.ref as, .ref ai, .ref ar, .ref am, .ref ak, .ref ao, .ref az, .ref ae, .ref aq, .ref af, .int (bI hi), .int th, .int (nI po), .int (nI ba), .int (nI en), .ref an, .ref aw, .ref ax, .ref ap, .int se]))] ++ [(as, .inl (cI, 53, .inl (sF n d t day al nd bb oo K F kn)))] ++ [(am, .inl (cI, 53, .inl (sF nM dM tM dayM alM ndM bbM ooM KM FM knM)))]) sz) ([(y, .inr (12, [.ref as, .ref ai, .ref ar, .ref am, .ref ak, .ref ao, .ref az, .ref ae, .ref aq, .ref af, .int (bI hi), .int th, .int (nI po), .int (nI ba), .int (nI en), .ref an, .ref aw, .ref ax, .ref ap, .int se]))] ++ [(as, .inl (cI, 53, .inl (sF n d t day al nd bb oo K F kn)))] ++ [(am, .inl (cI, 53, .inl (sF (on1 (oN x9 n) (fun i => bif t.testBit i then n else nM) nM) (on1 (oN x9 n) (fun i => bif t.testBit i then d else dM) dM) (on1 (oN x9 n) (fun i => bif t.testBit i then t else tM) tM) (on1 (oN x9 n) (fun i => bif t.testBit i then day else dayM) dayM) (on1 (oN x9 n) (fun i => bif t.testBit i then al else alM) alM) (on1 (oN x9 n) (fun i => bif t.testBit i then nd else ndM) ndM) (on1 (oN x9 n) (fun i => bif t.testBit i then bb else bbM) bbM) (on1 (oN x9 n) (fun i => bif t.testBit i then oo else ooM) ooM) (on1 (oN x9 n) (fun i => bif t.testBit i then K else KM) KM) (on1 (oN x9 n) (fun i => bif t.testBit i then F else FM) FM) (on1 (oN x9 n) (fun i => bif t.testBit i then kn else knM) knM))))])) (va_A ([(y, .inr (12, [.ref as, .ref ai, .ref ar, .ref am, .ref ak, .ref ao, .ref az, .ref ae, .ref aq, .ref af, .int (bI hi), .int th, .int (nI po), .int (nI ba), .int (nI en), .ref an, .ref aw, .ref ax, .ref ap, .int se]))] ++ [(as, .inl (cI, 53, .inl (sF n d t day al nd bb oo K F kn)))] ++ [(am, .inl (cI, 53, .inl (sF nM dM tM dayM alM ndM bbM ooM KM FM knM)))]) sz)) 0 0 (va_A ([(y, .inr (12, [.ref as, .ref ai, .ref ar, .ref am, .ref ak, .ref ao, .ref az, .ref ae, .ref aq, .ref af, .int (bI hi), .int th, .int (nI po), .int (nI ba), .int (nI en), .ref an, .ref aw, .ref ax, .ref ap, .int se]))] ++ [(as, .inl (cI, 53, .inl (sF n d t day al nd bb oo K F kn)))] ++ [(am, .inl (cI, 53, .inl (sF nM dM tM dayM alM ndM bbM ooM KM FM knM)))]) sz) := by
  refine Met.ofW (cc := cX12_canHave) (maxL := 4) (ret := (some .int)) (by decide) rfl ?_
  intro p e s m args below meth c s₁ B hml hv
  obtain ⟨rfl, hH0, hCX⟩ := hv
  have hx := B.exec
  have hb := B.bytes
  have hr := B.returns
  have hts := atoms_spec (ws := wsX12_canHave) B.pre
  have hown : s.vm.findClass RX12 = some m.cls := findClass_of_methodNamed B.named
  have hlocks := B.notSynchronized
  have hK := hCX.1
  obtain ⟨hsz, hP, hD0⟩ := hH0
  subst hsz
  have hD := hD0.self (sz := s.heap.size)
  generalize hAe : va_A ([(y, .inr (12, [.ref as, .ref ai, .ref ar, .ref am, .ref ak, .ref ao, .ref az, .ref ae, .ref aq, .ref af, .int (bI hi), .int th, .int (nI po), .int (nI ba), .int (nI en), .ref an, .ref aw, .ref ax, .ref ap, .int se]))] ++ [(as, .inl (cI, 53, .inl (sF n d t day al nd bb oo K F kn)))] ++ [(am, .inl (cI, 53, .inl (sF nM dM tM dayM alM ndM bbM ooM KM FM knM)))]) s.heap.size = A at hD ⊢
  have hA : ∀ q : Nat, s.heap.size ≤ q → A q := fun q h => by rw [← hAe]; exact Or.inr h
  have hS : va_S A s.heap s.heap [] := va_S.rf
  have hP : va_P (dC, dI) vwCl ([(y, .inr (12, [.ref as, .ref ai, .ref ar, .ref am, .ref ak, .ref ao, .ref az, .ref ae, .ref aq, .ref af, .int (bI hi), .int th, .int (nI po), .int (nI ba), .int (nI en), .ref an, .ref aw, .ref ax, .ref ap, .int se]))] ++ [(as, .inl (cI, 53, .inl (sF n d t day al nd bb oo K F kn)))] ++ [(am, .inl (cI, 53, .inl (sF nM dM tM dayM alM ndM bbM ooM KM FM knM)))]) s.heap := hP
  have hl := lv_entry ([.ref y, .int x9]) (n := 4) (Nat.le_of_ble_eq_true rfl)
  rw [lg_entry_eq]
  generalize (lg_sl ([.ref y, .int x9]) ++ List.replicate (4 - (lg_sl ([.ref y, .int x9])).length) Slot.unset).toArray = ls at hl ⊢
  have hl : lv_has ls 4 [(0, .ref y), (1, .int x9)] := hl
  rcases okI_or x9 (n := n) (by omega) with hb_x9 | ⟨i, h_i, rfl⟩
  · refine lv_aload_n hx hb dX12_canHave_0 rfl (lv_at hl 0 rfl) ?_
    refine lv_iload_n hx hb dX12_canHave_1 rfl (lv_at hl 1 rfl) ?_
    refine vp_callSi ((va_runV (As := [.int x9]) (rest := []) ⟨hx, hb, hml, hown, hts⟩ (c_X12_isSentence_f l dC dI cI cD cR y as ai ar am ak ao az ae aq af hi th po ba en an aw ax ap se n d t day al nd bb oo K F kn x9 (by first | omega | assumption | exact gnd _ | exact gkn _ | exact Nat.lt_trans (gkn _) (by decide) | exact Nat.lt_trans (gnd _) (by decide) | exact Nat.lt_of_le_of_lt (pcN_le _) (by decide)) (by first | omega | assumption | exact gnd _ | exact gkn _ | exact Nat.lt_trans (gkn _) (by decide) | exact Nat.lt_trans (gnd _) (by decide) | exact Nat.lt_of_le_of_lt (pcN_le _) (by decide)) (by first | omega | assumption | exact gnd _ | exact gkn _ | exact Nat.lt_trans (gkn _) (by decide) | exact Nat.lt_trans (gnd _) (by decide) | exact Nat.lt_of_le_of_lt (pcN_le _) (by decide)) (by first | omega | assumption | exact gnd _ | exact gkn _ | exact Nat.lt_trans (gkn _) (by decide) | exact Nat.lt_trans (gnd _) (by decide) | exact Nat.lt_of_le_of_lt (pcN_le _) (by decide)) (by first | omega | assumption | exact gnd _ | exact gkn _ | exact Nat.lt_trans (gkn _) (by decide) | exact Nat.lt_trans (gnd _) (by decide) | exact Nat.lt_of_le_of_lt (pcN_le _) (by decide)) gnd gkn gK gF (by first | omega | assumption | exact gnd _ | exact gkn _ | exact Nat.lt_trans (gkn _) (by decide) | exact Nat.lt_trans (gnd _) (by decide) | exact Nat.lt_of_le_of_lt (pcN_le _) (by decide))) (cwV 1 hts gX12_canHave_X12_isSentence rfl rfl rfl (by decide +kernel) ⟨Nat.le_of_ble_eq_true rfl, Nat.le_of_ble_eq_true rfl⟩) (preV_R hCX (va_recv hK hP (ci := 12) (q0 := 0) rfl rfl) ((hP.sub (ws' := [(y, .inr (12, [.ref as, .ref ai, .ref ar, .ref am, .ref ak, .ref ao, .ref az, .ref ae, .ref aq, .ref af, .int (bI hi), .int th, .int (nI po), .int (nI ba), .int (nI en), .ref an, .ref aw, .ref ax, .ref ap, .int se]))] ++ [(as, .inl (cI, 53, .inl (sF n d t day al nd bb oo K F kn)))]) [0, 1] rfl))) rfl rfl hl.1 rfl (lv_room (Nat.le_of_ble_eq_true rfl)) dX12_canHave_2 ⟨Nat.le_of_ble_eq_true (by first | rfl | decide), Nat.le_of_ble_eq_true (by first | rfl | decide)⟩).run) (fun r_2 hr_2 => ?_)
    subst hr_2
    refine lv_if_ne (tgt := 10) hx hb dX12_canHave_5 (by decide) (fun z => absurd z (by decide +kernel)) (fun _ => ?_)
    refine lv_iconst (v := (-1)) hx hb dX12_canHave_8 (by decide +kernel) ?_
    have hW9 : ([(y, .inr (12, [.ref as, .ref ai, .ref ar, .ref am, .ref ak, .ref ao, .ref az, .ref ae, .ref aq, .ref af, .int (bI hi), .int th, .int (nI po), .int (nI ba), .int (nI en), .ref an, .ref aw, .ref ax, .ref ap, .int se]))] ++ [(as, .inl (cI, 53, .inl (sF n d t day al nd bb oo K F kn)))] ++ [(am, .inl (cI, 53, .inl (sF nM dM tM dayM alM ndM bbM ooM KM FM knM)))] : va_W) = [(y, .inr (12, [.ref as, .ref ai, .ref ar, .ref am, .ref ak, .ref ao, .ref az, .ref ae, .ref aq, .ref af, .int (bI hi), .int th, .int (nI po), .int (nI ba), .int (nI en), .ref an, .ref aw, .ref ax, .ref ap, .int se]))] ++ [(as, .inl (cI, 53, .inl (sF n d t day al nd bb oo K F kn)))] ++ [(am, .inl (cI, 53, .inl (sF (on1 (oN x9 n) (fun i => bif t.testBit i then n else nM) nM) (on1 (oN x9 n) (fun i => bif t.testBit i then d else dM) dM) (on1 (oN x9 n) (fun i => bif t.testBit i then t else tM) tM) (on1 (oN x9 n) (fun i => bif t.testBit i then day else dayM) dayM) (on1 (oN x9 n) (fun i => bif t.testBit i then al else alM) alM) (on1 (oN x9 n) (fun i => bif t.testBit i then nd else ndM) ndM) (on1 (oN x9 n) (fun i => bif t.testBit i then bb else bbM) bbM) (on1 (oN x9 n) (fun i => bif t.testBit i then oo else ooM) ooM) (on1 (oN x9 n) (fun i => bif t.testBit i then K else KM) KM) (on1 (oN x9 n) (fun i => bif t.testBit i then F else FM) FM) (on1 (oN x9 n) (fun i => bif t.testBit i then kn else knM) knM))))] := by simp only [on2_n, on2_sn, on2_ss, on1_n, on1_s, cond_true, cond_false, Bool.true_and, Bool.and_true, Bool.false_and, Bool.and_false, oN_f hb_x9]
    rw [hW9] at hP hD
    exact W.iret (v := (-1)) hx hb hr (fun T9 hT9 hW9 => ⟨⟨_, (), rfl, (by (simp [on1, oN_f hb_x9]) <;> first | rfl | omega), by rw [hT9]; exact hP, hD⟩, hS.F hT9⟩) hS.2.2 dX12_canHave_9
  refine lv_aload_n hx hb dX12_canHave_0 rfl (lv_at hl 0 rfl) ?_
  refine lv_iload_n hx hb dX12_canHave_1 rfl (lv_at hl 1 rfl) ?_
  refine vp_callSi ((va_runV (As := [.int (nI i)]) (rest := []) ⟨hx, hb, hml, hown, hts⟩ (c_X12_isSentence_t l dC dI cI cD cR y as ai ar am ak ao az ae aq af hi th po ba en an aw ax ap se n d t day al nd bb oo K F kn i (by first | omega | assumption | exact gnd _ | exact gkn _ | exact Nat.lt_trans (gkn _) (by decide) | exact Nat.lt_trans (gnd _) (by decide) | exact Nat.lt_of_le_of_lt (pcN_le _) (by decide)) (by first | omega | assumption | exact gnd _ | exact gkn _ | exact Nat.lt_trans (gkn _) (by decide) | exact Nat.lt_trans (gnd _) (by decide) | exact Nat.lt_of_le_of_lt (pcN_le _) (by decide)) (by first | omega | assumption | exact gnd _ | exact gkn _ | exact Nat.lt_trans (gkn _) (by decide) | exact Nat.lt_trans (gnd _) (by decide) | exact Nat.lt_of_le_of_lt (pcN_le _) (by decide)) (by first | omega | assumption | exact gnd _ | exact gkn _ | exact Nat.lt_trans (gkn _) (by decide) | exact Nat.lt_trans (gnd _) (by decide) | exact Nat.lt_of_le_of_lt (pcN_le _) (by decide)) (by first | omega | assumption | exact gnd _ | exact gkn _ | exact Nat.lt_trans (gkn _) (by decide) | exact Nat.lt_trans (gnd _) (by decide) | exact Nat.lt_of_le_of_lt (pcN_le _) (by decide)) gnd gkn gK gF (by first | omega | assumption | exact gnd _ | exact gkn _ | exact Nat.lt_trans (gkn _) (by decide) | exact Nat.lt_trans (gnd _) (by decide) | exact Nat.lt_of_le_of_lt (pcN_le _) (by decide))) (cwV 1 hts gX12_canHave_X12_isSentence rfl rfl rfl (by decide +kernel) ⟨Nat.le_of_ble_eq_true rfl, Nat.le_of_ble_eq_true rfl⟩) (preV_R hCX (va_recv hK hP (ci := 12) (q0 := 0) rfl rfl) ((hP.sub (ws' := [(y, .inr (12, [.ref as, .ref ai, .ref ar, .ref am, .ref ak, .ref ao, .ref az, .ref ae, .ref aq, .ref af, .int (bI hi), .int th, .int (nI po), .int (nI ba), .int (nI en), .ref an, .ref aw, .ref ax, .ref ap, .int se]))] ++ [(as, .inl (cI, 53, .inl (sF n d t day al nd bb oo K F kn)))]) [0, 1] rfl))) rfl rfl hl.1 rfl (lv_room (Nat.le_of_ble_eq_true rfl)) dX12_canHave_2 ⟨Nat.le_of_ble_eq_true (by first | rfl | decide), Nat.le_of_ble_eq_true (by first | rfl | decide)⟩).run) (fun r_2 hr_2 => ?_)
  subst hr_2
  refine lv_if_ne (tgt := 10) hx hb dX12_canHave_5 (by decide) (fun _ => ?_) (fun z => absurd z (by decide +kernel))
  refine lv_aload_n hx hb dX12_canHave_10 rfl (lv_at hl 0 rfl) ?_
  refine lv_iload_n hx hb dX12_canHave_11 rfl (lv_at hl 1 rfl) ?_
  refine vp_callSi ((va_runV (As := [.int (nI i)]) (rest := []) ⟨hx, hb, hml, hown, hts⟩ (c_X12_isTrue l dC dI cI cD cR y as ai ar am ak ao az ae aq af hi th po ba en an aw ax ap se n d t day al nd bb oo K F kn i (by first | omega | assumption | exact gnd _ | exact gkn _ | exact Nat.lt_trans (gkn _) (by decide) | exact Nat.lt_trans (gnd _) (by decide) | exact Nat.lt_of_le_of_lt (pcN_le _) (by decide)) (by first | omega | assumption | exact gnd _ | exact gkn _ | exact Nat.lt_trans (gkn _) (by decide) | exact Nat.lt_trans (gnd _) (by decide) | exact Nat.lt_of_le_of_lt (pcN_le _) (by decide)) (by first | omega | assumption | exact gnd _ | exact gkn _ | exact Nat.lt_trans (gkn _) (by decide) | exact Nat.lt_trans (gnd _) (by decide) | exact Nat.lt_of_le_of_lt (pcN_le _) (by decide)) (by first | omega | assumption | exact gnd _ | exact gkn _ | exact Nat.lt_trans (gkn _) (by decide) | exact Nat.lt_trans (gnd _) (by decide) | exact Nat.lt_of_le_of_lt (pcN_le _) (by decide)) (by first | omega | assumption | exact gnd _ | exact gkn _ | exact Nat.lt_trans (gkn _) (by decide) | exact Nat.lt_trans (gnd _) (by decide) | exact Nat.lt_of_le_of_lt (pcN_le _) (by decide)) gnd gkn gK gF (by first | omega | assumption | exact gnd _ | exact gkn _ | exact Nat.lt_trans (gkn _) (by decide) | exact Nat.lt_trans (gnd _) (by decide) | exact Nat.lt_of_le_of_lt (pcN_le _) (by decide))) (cwV 1 hts gX12_canHave_X12_isTrue rfl rfl rfl (by decide +kernel) ⟨Nat.le_of_ble_eq_true rfl, Nat.le_of_ble_eq_true rfl⟩) (preV_R hCX (va_recv hK hP (ci := 12) (q0 := 0) rfl rfl) ((hP.sub (ws' := [(y, .inr (12, [.ref as, .ref ai, .ref ar, .ref am, .ref ak, .ref ao, .ref az, .ref ae, .ref aq, .ref af, .int (bI hi), .int th, .int (nI po), .int (nI ba), .int (nI en), .ref an, .ref aw, .ref ax, .ref ap, .int se]))] ++ [(as, .inl (cI, 53, .inl (sF n d t day al nd bb oo K F kn)))]) [0, 1] rfl))) rfl rfl hl.1 rfl (lv_room (Nat.le_of_ble_eq_true rfl)) dX12_canHave_12 ⟨Nat.le_of_ble_eq_true (by first | rfl | decide), Nat.le_of_ble_eq_true (by first | rfl | decide)⟩).run) (fun r_12 hr_12 => ?_)
  subst hr_12
  refine ho_bne (tgt := 21) hx hb dX12_canHave_15 (by decide) (fun c_15 => ?_) (fun c_15 => ?_)
  · refine lv_aload_n hx hb dX12_canHave_21 rfl (lv_at hl 0 rfl) ?_
    have hPc := hP
    have hDc := hD
    have hFc := va_free (wc := [(y, .inr (12, [.ref as, .ref ai, .ref ar, .ref am, .ref ak, .ref ao, .ref az, .ref ae, .ref aq, .ref af, .int (bI hi), .int th, .int (nI po), .int (nI ba), .int (nI en), .ref an, .ref aw, .ref ax, .ref ap, .int se]))] ++ [(as, .inl (cI, 53, .inl (sF n d t day al nd bb oo K F kn)))] ++ [(am, .inl (cI, 53, .inl (sF nM dM tM dayM alM ndM bbM ooM KM FM knM)))]) hD hS hA [0, 1, 2] rfl
    refine va_callv (va_runV (As := []) (rest := []) ⟨hx, hb, hml, hown, hts⟩ (c_X12_begins l dC dI cI cD cR y as ai ar am ak ao az ae aq af hi th po ba en an aw ax ap se n d t day al nd bb oo K F kn nM dM tM dayM alM ndM bbM ooM KM FM knM s.heap.size) (cwV 0 hts gX12_canHave_X12_begins rfl rfl rfl (by decide +kernel) ⟨Nat.le_of_ble_eq_true rfl, Nat.le_of_ble_eq_true rfl⟩) (preV_R hCX (va_recv hK hP (ci := 12) (q0 := 0) rfl rfl) ⟨rfl, hPc, hDc.weaken (fun _ _ _ _ => trivial)⟩) rfl rfl hl.1 rfl (lv_room (Nat.le_of_ble_eq_true rfl)) dX12_canHave_22 ⟨Nat.le_of_ble_eq_true (by first | rfl | decide), Nat.le_of_ble_eq_true (by first | rfl | decide)⟩) hS (fun q _ h => hFc q h) hFc (fun u T8 H1 locs hT8 hvm hw hB hz1 hk1 hS => ?_)
    obtain ⟨hP1, hD1⟩ := hB
    rw [hT8] at hP1
    obtain ⟨hP, hD⟩ := va_join (wr := []) (w1 := [(y, .inr (12, [.ref as, .ref ai, .ref ar, .ref am, .ref ak, .ref ao, .ref az, .ref ae, .ref aq, .ref af, .int (bI hi), .int th, .int (nI po), .int (nI ba), .int (nI en), .ref an, .ref aw, .ref ax, .ref ap, .int se]))] ++ [(as, .inl (cI, 53, .inl (sF n d t day al nd bb oo K F kn)))] ++ [(am, .inl (cI, 53, .inl (sF n d t day al nd bb oo K F kn)))]) hP hD [0, 1, 2] [] rfl rfl (by decide) (by decide) hk1 hFc hP1 hD1
    generalize H1 = H at hP hS ⊢
    have hP : va_P (dC, dI) vwCl ([(y, .inr (12, [.ref as, .ref ai, .ref ar, .ref am, .ref ak, .ref ao, .ref az, .ref ae, .ref aq, .ref af, .int (bI hi), .int th, .int (nI po), .int (nI ba), .int (nI en), .ref an, .ref aw, .ref ax, .ref ap, .int se]))] ++ [(as, .inl (cI, 53, .inl (sF n d t day al nd bb oo K F kn)))] ++ [(am, .inl (cI, 53, .inl (sF n d t day al nd bb oo K F kn)))]) H := hP
    have hD : va_D A ([(y, .inr (12, [.ref as, .ref ai, .ref ar, .ref am, .ref ak, .ref ao, .ref az, .ref ae, .ref aq, .ref af, .int (bI hi), .int th, .int (nI po), .int (nI ba), .int (nI en), .ref an, .ref aw, .ref ax, .ref ap, .int se]))] ++ [(as, .inl (cI, 53, .inl (sF n d t day al nd bb oo K F kn)))] ++ [(am, .inl (cI, 53, .inl (sF n d t day al nd bb oo K F kn)))]) := hD
    refine lv_aload_n hx hb dX12_canHave_25 rfl (lv_at hl 0 rfl) ?_
    refine va_get (D := (dC, dI)) (ci := 12) (v := .ref as) (C := RX12) (T := TX12) (N := 20) hx hb hts (fun _ h => List.mem_cons_of_mem _ (List.mem_append_right _ h)) hown hK hP 0 rfl rfl 0 (by decide) (hts (.fieldLink RX12 9 "HoldsOnceDeniedModel" "s" "[I") (by decide +kernel)) (fun _ h9 => h9) rfl dX12_canHave_26 ?_
    refine lv_iconst (v := nI 2) hx hb dX12_canHave_29 (by decide +kernel) ?_
    refine lv_dup2_11 hx hb dX12_canHave_30 rfl rfl ?_
    refine ho_iald (v := nI t) hx hb hK hP 1 0 rfl rfl (by omega) (by first | decide | omega) rfl dX12_canHave_31 ?_
    refine lv_iconst (v := nI 1) hx hb dX12_canHave_32 (by decide +kernel) ?_
    refine lv_iload_n hx hb dX12_canHave_33 rfl (lv_at hl 1 rfl) ?_
    refine ho_shl1 hx hb dX12_canHave_34 (by omega) ?_
    refine lv_iconst (v := (-1)) hx hb dX12_canHave_35 (by decide +kernel) ?_
    refine lv_ixor hx hb dX12_canHave_36 ?_
    refine ho_iandC hx hb dX12_canHave_37 ?_
    refine ho_iast (g := sF n d (sdf t (2 ^ i)) day al nd bb oo K F kn) hx hb hK hP hD hS 1 0 rfl rfl (by omega) (by first | decide | omega) sF_u2 dX12_canHave_38 (fun H locs hP hD hS => ?_)
    have hP : va_P (dC, dI) vwCl ([(y, .inr (12, [.ref as, .ref ai, .ref ar, .ref am, .ref ak, .ref ao, .ref az, .ref ae, .ref aq, .ref af, .int (bI hi), .int th, .int (nI po), .int (nI ba), .int (nI en), .ref an, .ref aw, .ref ax, .ref ap, .int se]))] ++ [(as, .inl (cI, 53, .inl (sF n d (sdf t (2 ^ i)) day al nd bb oo K F kn)))] ++ [(am, .inl (cI, 53, .inl (sF n d t day al nd bb oo K F kn)))]) H := hP
    have hD : va_D A ([(y, .inr (12, [.ref as, .ref ai, .ref ar, .ref am, .ref ak, .ref ao, .ref az, .ref ae, .ref aq, .ref af, .int (bI hi), .int th, .int (nI po), .int (nI ba), .int (nI en), .ref an, .ref aw, .ref ax, .ref ap, .int se]))] ++ [(as, .inl (cI, 53, .inl (sF n d (sdf t (2 ^ i)) day al nd bb oo K F kn)))] ++ [(am, .inl (cI, 53, .inl (sF n d t day al nd bb oo K F kn)))]) := hD
    refine lv_iconst (v := nI 0) hx hb dX12_canHave_39 (by decide +kernel) ?_
    refine lv_istore_n (lv' := [(2, .int (nI 0)), (0, .ref y), (1, .int (nI i))]) hx hb dX12_canHave_40 rfl hl (by decide) rfl (fun ls hl => ?_)
    refine ho_lpW (T := Nat) 4 (fun x9 => ([(y, .inr (12, [.ref as, .ref ai, .ref ar, .ref am, .ref ak, .ref ao, .ref az, .ref ae, .ref aq, .ref af, .int (bI hi), .int th, .int (nI po), .int (nI ba), .int (nI en), .ref an, .ref aw, .ref ax, .ref ap, .int se]))] ++ [(as, .inl (cI, 53, .inl (sF n d (sdf t (2 ^ i)) day al nd bb oo K F (kcF kn (2 ^ i) x9))))] ++ [(am, .inl (cI, 53, .inl (sF n d t day al nd bb oo K F kn)))] : va_W)) (fun x9 => [(2, .int (nI x9)), (0, .ref y), (1, .int (nI i))]) (fun x9 => []) (fun x9 => (x9 ≤ d)) (fun x9 => d - x9) 0 (by omega) (lv_sub hl [0, 1, 2] rfl) (by rw [kcF_0]; exact hP) (by rw [kcF_0]; exact hD) hS ?_
    intro fu41 j H locs ls hI hm41 hP hD hS hl ih
    have hjd := hI
    have hl : lv_has ls 4 [(2, .int (nI j)), (0, .ref y), (1, .int (nI i))] := hl
    have hjd : j ≤ d := hjd
    have hm41 : d - j < fu41 + 1 := hm41
    have hP : va_P (dC, dI) vwCl ([(y, .inr (12, [.ref as, .ref ai, .ref ar, .ref am, .ref ak, .ref ao, .ref az, .ref ae, .ref aq, .ref af, .int (bI hi), .int th, .int (nI po), .int (nI ba), .int (nI en), .ref an, .ref aw, .ref ax, .ref ap, .int se]))] ++ [(as, .inl (cI, 53, .inl (sF n d (sdf t (2 ^ i)) day al nd bb oo K F (kcF kn (2 ^ i) j))))] ++ [(am, .inl (cI, 53, .inl (sF n d t day al nd bb oo K F kn)))]) H := hP
    have hD : va_D A ([(y, .inr (12, [.ref as, .ref ai, .ref ar, .ref am, .ref ak, .ref ao, .ref az, .ref ae, .ref aq, .ref af, .int (bI hi), .int th, .int (nI po), .int (nI ba), .int (nI en), .ref an, .ref aw, .ref ax, .ref ap, .int se]))] ++ [(as, .inl (cI, 53, .inl (sF n d (sdf t (2 ^ i)) day al nd bb oo K F (kcF kn (2 ^ i) j))))] ++ [(am, .inl (cI, 53, .inl (sF n d t day al nd bb oo K F kn)))]) := hD
    refine W.eq (g2 := F0 m 41 ls []) rfl ?_
    have ih41 := ih
    refine lv_iload_n hx hb dX12_canHave_41 rfl (lv_at hl 0 rfl) ?_
    refine lv_aload_n hx hb dX12_canHave_42 rfl (lv_at hl 1 rfl) ?_
    refine va_get (D := (dC, dI)) (ci := 12) (v := .ref as) (C := RX12) (T := TX12) (N := 20) hx hb hts (fun _ h => List.mem_cons_of_mem _ (List.mem_append_right _ h)) hown hK hP 0 rfl rfl 0 (by decide) (hts (.fieldLink RX12 9 "HoldsOnceDeniedModel" "s" "[I") (by decide +kernel)) (fun _ h9 => h9) rfl dX12_canHave_43 ?_
    refine lv_iconst (v := nI 1) hx hb dX12_canHave_46 (by decide +kernel) ?_
    refine ho_iald (v := nI d) hx hb hK hP 1 0 rfl rfl (by omega) (by first | decide | omega) rfl dX12_canHave_47 ?_
    refine ho_icmp_ge (tgt := 75) hx hb dX12_canHave_48 (by decide) (by omega) (by omega) (fun c_48 => ?_) (fun c_48 => ?_)
    · rw [show j = d by omega] at hP hD
      have hP : va_P (dC, dI) vwCl ([(y, .inr (12, [.ref as, .ref ai, .ref ar, .ref am, .ref ak, .ref ao, .ref az, .ref ae, .ref aq, .ref af, .int (bI hi), .int th, .int (nI po), .int (nI ba), .int (nI en), .ref an, .ref aw, .ref ax, .ref ap, .int se]))] ++ [(as, .inl (cI, 53, .inl (sF n d (sdf t (2 ^ i)) day al nd bb oo K F (kcF kn (2 ^ i) d))))] ++ [(am, .inl (cI, 53, .inl (sF n d t day al nd bb oo K F kn)))]) H := hP
      have hD : va_D A ([(y, .inr (12, [.ref as, .ref ai, .ref ar, .ref am, .ref ak, .ref ao, .ref az, .ref ae, .ref aq, .ref af, .int (bI hi), .int th, .int (nI po), .int (nI ba), .int (nI en), .ref an, .ref aw, .ref ax, .ref ap, .int se]))] ++ [(as, .inl (cI, 53, .inl (sF n d (sdf t (2 ^ i)) day al nd bb oo K F (kcF kn (2 ^ i) d))))] ++ [(am, .inl (cI, 53, .inl (sF n d t day al nd bb oo K F kn)))]) := hD
      refine lv_iconst (v := nI 0) hx hb dX12_canHave_75 (by decide +kernel) ?_
      refine lv_istore_n (lv' := [(2, .int (nI 0)), (0, .ref y), (1, .int (nI i))]) hx hb dX12_canHave_76 rfl hl (by decide) rfl (fun ls hl => ?_)
      refine lv_iconst (v := nI 0) hx hb dX12_canHave_77 (by decide +kernel) ?_
      refine lv_istore_n (lv' := [(3, .int (nI 0)), (2, .int (nI 0)), (0, .ref y), (1, .int (nI i))]) hx hb dX12_canHave_78 rfl hl (by decide) rfl (fun ls hl => ?_)
      have e9_2 : 0 = orF (fun j => maB (K j) (F j) (sdf t (2 ^ i)) (kcF kn (2 ^ i) d j) (nd i) i && siB (K j) (sdf t (2 ^ i)) (kcF kn (2 ^ i) d j) (nd i) false) 0 := by rfl
      rw [e9_2] at hl
      refine ho_lp (T := Nat) 4 (fun x9 => [(3, .int (nI x9)), (2, .int (nI (orF (fun j => maB (K j) (F j) (sdf t (2 ^ i)) (kcF kn (2 ^ i) d j) (nd i) i && siB (K j) (sdf t (2 ^ i)) (kcF kn (2 ^ i) d j) (nd i) false) x9))), (0, .ref y), (1, .int (nI i))]) (fun x9 => []) (fun x9 => (x9 ≤ d)) (fun x9 => d - x9) 0 (by omega) (lv_sub hl [0, 1, 2, 3] rfl) ?_
      intro fu79 q ls hI hm79 hl ih
      have hqd := hI
      have hl : lv_has ls 4 [(3, .int (nI q)), (2, .int (nI (orF (fun j => maB (K j) (F j) (sdf t (2 ^ i)) (kcF kn (2 ^ i) d j) (nd i) i && siB (K j) (sdf t (2 ^ i)) (kcF kn (2 ^ i) d j) (nd i) false) q))), (0, .ref y), (1, .int (nI i))] := hl
      have hqd : q ≤ d := hqd
      have hm79 : d - q < fu79 + 1 := hm79
      refine W.eq (g2 := F0 m 79 ls []) rfl ?_
      have ih79 := ih
      refine lv_iload_n hx hb dX12_canHave_79 rfl (lv_at hl 0 rfl) ?_
      refine lv_aload_n hx hb dX12_canHave_80 rfl (lv_at hl 2 rfl) ?_
      refine va_get (D := (dC, dI)) (ci := 12) (v := .ref as) (C := RX12) (T := TX12) (N := 20) hx hb hts (fun _ h => List.mem_cons_of_mem _ (List.mem_append_right _ h)) hown hK hP 0 rfl rfl 0 (by decide) (hts (.fieldLink RX12 9 "HoldsOnceDeniedModel" "s" "[I") (by decide +kernel)) (fun _ h9 => h9) rfl dX12_canHave_81 ?_
      refine lv_iconst (v := nI 1) hx hb dX12_canHave_84 (by decide +kernel) ?_
      refine ho_iald (v := nI d) hx hb hK hP 1 0 rfl rfl (by omega) (by first | decide | omega) rfl dX12_canHave_85 ?_
      refine ho_icmp_ge (tgt := 124) hx hb dX12_canHave_86 (by decide) (by omega) (by omega) (fun c_86 => ?_) (fun c_86 => ?_)
      · refine lv_aload_n hx hb dX12_canHave_124 rfl (lv_at hl 2 rfl) ?_
        have hPc := hP
        have hDc := hD
        have hFc := va_free (wc := [(y, .inr (12, [.ref as, .ref ai, .ref ar, .ref am, .ref ak, .ref ao, .ref az, .ref ae, .ref aq, .ref af, .int (bI hi), .int th, .int (nI po), .int (nI ba), .int (nI en), .ref an, .ref aw, .ref ax, .ref ap, .int se]))] ++ [(as, .inl (cI, 53, .inl (sF n d (sdf t (2 ^ i)) day al nd bb oo K F (kcF kn (2 ^ i) d))))] ++ [(am, .inl (cI, 53, .inl (sF n d t day al nd bb oo K F kn)))]) hD hS hA [0, 1, 2] rfl
        refine va_callv (va_runV (As := []) (rest := []) ⟨hx, hb, hml, hown, hts⟩ (c_X12_ends l dC dI cI cD cR y as ai ar am ak ao az ae aq af hi th po ba en an aw ax ap se n d (sdf t (2 ^ i)) day al nd bb oo K F (kcF kn (2 ^ i) d) n d t day al nd bb oo K F kn H.size) (cwV 0 hts gX12_canHave_X12_ends rfl rfl rfl (by decide +kernel) ⟨Nat.le_of_ble_eq_true rfl, Nat.le_of_ble_eq_true rfl⟩) (preV_R hCX (va_recv hK hP (ci := 12) (q0 := 0) rfl rfl) ⟨rfl, hPc, hDc.weaken (fun _ _ _ _ => trivial)⟩) rfl rfl hl.1 rfl (lv_room (Nat.le_of_ble_eq_true rfl)) dX12_canHave_125 ⟨Nat.le_of_ble_eq_true (by first | rfl | decide), Nat.le_of_ble_eq_true (by first | rfl | decide)⟩) hS (fun q _ h => hFc q h) hFc (fun u T8 H1 locs hT8 hvm hw hB hz1 hk1 hS => ?_)
        obtain ⟨hP1, hD1⟩ := hB
        rw [hT8] at hP1
        obtain ⟨hP, hD⟩ := va_join (wr := []) (w1 := [(y, .inr (12, [.ref as, .ref ai, .ref ar, .ref am, .ref ak, .ref ao, .ref az, .ref ae, .ref aq, .ref af, .int (bI hi), .int th, .int (nI po), .int (nI ba), .int (nI en), .ref an, .ref aw, .ref ax, .ref ap, .int se]))] ++ [(as, .inl (cI, 53, .inl (sF n d t day al nd bb oo K F kn)))] ++ [(am, .inl (cI, 53, .inl (sF n d t day al nd bb oo K F kn)))]) hP hD [0, 1, 2] [] rfl rfl (by decide) (by decide) hk1 hFc hP1 hD1
        generalize H1 = H at hP hS ⊢
        have hP : va_P (dC, dI) vwCl ([(y, .inr (12, [.ref as, .ref ai, .ref ar, .ref am, .ref ak, .ref ao, .ref az, .ref ae, .ref aq, .ref af, .int (bI hi), .int th, .int (nI po), .int (nI ba), .int (nI en), .ref an, .ref aw, .ref ax, .ref ap, .int se]))] ++ [(as, .inl (cI, 53, .inl (sF n d t day al nd bb oo K F kn)))] ++ [(am, .inl (cI, 53, .inl (sF n d t day al nd bb oo K F kn)))]) H := hP
        have hD : va_D A ([(y, .inr (12, [.ref as, .ref ai, .ref ar, .ref am, .ref ak, .ref ao, .ref az, .ref ae, .ref aq, .ref af, .int (bI hi), .int th, .int (nI po), .int (nI ba), .int (nI en), .ref an, .ref aw, .ref ax, .ref ap, .int se]))] ++ [(as, .inl (cI, 53, .inl (sF n d t day al nd bb oo K F kn)))] ++ [(am, .inl (cI, 53, .inl (sF n d t day al nd bb oo K F kn)))]) := hD
        refine lv_iload_n hx hb dX12_canHave_128 rfl (lv_at hl 1 rfl) ?_
        have hW9 : ([(y, .inr (12, [.ref as, .ref ai, .ref ar, .ref am, .ref ak, .ref ao, .ref az, .ref ae, .ref aq, .ref af, .int (bI hi), .int th, .int (nI po), .int (nI ba), .int (nI en), .ref an, .ref aw, .ref ax, .ref ap, .int se]))] ++ [(as, .inl (cI, 53, .inl (sF n d t day al nd bb oo K F kn)))] ++ [(am, .inl (cI, 53, .inl (sF n d t day al nd bb oo K F kn)))] : va_W) = [(y, .inr (12, [.ref as, .ref ai, .ref ar, .ref am, .ref ak, .ref ao, .ref az, .ref ae, .ref aq, .ref af, .int (bI hi), .int th, .int (nI po), .int (nI ba), .int (nI en), .ref an, .ref aw, .ref ax, .ref ap, .int se]))] ++ [(as, .inl (cI, 53, .inl (sF n d t day al nd bb oo K F kn)))] ++ [(am, .inl (cI, 53, .inl (sF (on1 (oN (nI i) n) (fun i => bif t.testBit i then n else nM) nM) (on1 (oN (nI i) n) (fun i => bif t.testBit i then d else dM) dM) (on1 (oN (nI i) n) (fun i => bif t.testBit i then t else tM) tM) (on1 (oN (nI i) n) (fun i => bif t.testBit i then day else dayM) dayM) (on1 (oN (nI i) n) (fun i => bif t.testBit i then al else alM) alM) (on1 (oN (nI i) n) (fun i => bif t.testBit i then nd else ndM) ndM) (on1 (oN (nI i) n) (fun i => bif t.testBit i then bb else bbM) bbM) (on1 (oN (nI i) n) (fun i => bif t.testBit i then oo else ooM) ooM) (on1 (oN (nI i) n) (fun i => bif t.testBit i then K else KM) KM) (on1 (oN (nI i) n) (fun i => bif t.testBit i then F else FM) FM) (on1 (oN (nI i) n) (fun i => bif t.testBit i then kn else knM) knM))))] := by simp only [on2_n, on2_sn, on2_ss, on1_n, on1_s, cond_true, cond_false, Bool.true_and, Bool.and_true, Bool.false_and, Bool.and_false, oN_t h_i, c_15, c_48, c_86]
        rw [hW9] at hP hD
        exact W.iret (v := nI (orF (fun j => maB (K j) (F j) (sdf t (2 ^ i)) (kcF kn (2 ^ i) d j) (nd i) i && siB (K j) (sdf t (2 ^ i)) (kcF kn (2 ^ i) d j) (nd i) false) q)) hx hb hr (fun T9 hT9 hW9 => ⟨⟨_, (), rfl, (by rw [oN_t h_i, on1_s, c_15, show q = d by omega]; rfl), by rw [hT9]; exact hP, hD⟩, hS.F hT9⟩) hS.2.2 dX12_canHave_129
      refine lv_iload_n hx hb dX12_canHave_89 rfl (lv_at hl 1 rfl) ?_
      refine lv_aload_n hx hb dX12_canHave_90 rfl (lv_at hl 2 rfl) ?_
      refine lv_iload_n hx hb dX12_canHave_91 rfl (lv_at hl 0 rfl) ?_
      refine lv_iload_n hx hb dX12_canHave_92 rfl (lv_at hl 3 rfl) ?_
      refine vp_callSi ((va_runV (As := [.int (nI q), .int (nI i)]) (rest := [.int (nI (orF (fun j => maB (K j) (F j) (sdf t (2 ^ i)) (kcF kn (2 ^ i) d j) (nd i) i && siB (K j) (sdf t (2 ^ i)) (kcF kn (2 ^ i) d j) (nd i) false) q))]) ⟨hx, hb, hml, hown, hts⟩ (c_X12_mayIf l dC dI cI cD cR y as ai ar am ak ao az ae aq af hi th po ba en an aw ax ap se n d (sdf t (2 ^ i)) day al nd bb oo K F (kcF kn (2 ^ i) d) q i (by first | omega | assumption | exact gnd _ | exact gkn _ | exact Nat.lt_trans (gkn _) (by decide) | exact Nat.lt_trans (gnd _) (by decide) | exact Nat.lt_of_le_of_lt (pcN_le _) (by decide)) (by first | omega | assumption | exact gnd _ | exact gkn _ | exact Nat.lt_trans (gkn _) (by decide) | exact Nat.lt_trans (gnd _) (by decide) | exact Nat.lt_of_le_of_lt (pcN_le _) (by decide)) (sdf_lt ht) (by first | omega | assumption | exact gnd _ | exact gkn _ | exact Nat.lt_trans (gkn _) (by decide) | exact Nat.lt_trans (gnd _) (by decide) | exact Nat.lt_of_le_of_lt (pcN_le _) (by decide)) (by first | omega | assumption | exact gnd _ | exact gkn _ | exact Nat.lt_trans (gkn _) (by decide) | exact Nat.lt_trans (gnd _) (by decide) | exact Nat.lt_of_le_of_lt (pcN_le _) (by decide)) gnd (kcF_lt gkn) gK gF (by first | omega | assumption | exact gnd _ | exact gkn _ | exact Nat.lt_trans (gkn _) (by decide) | exact Nat.lt_trans (gnd _) (by decide) | exact Nat.lt_of_le_of_lt (pcN_le _) (by decide)) (by first | omega | assumption | exact gnd _ | exact gkn _ | exact Nat.lt_trans (gkn _) (by decide) | exact Nat.lt_trans (gnd _) (by decide) | exact Nat.lt_of_le_of_lt (pcN_le _) (by decide))) (cwV 2 hts gX12_canHave_X12_mayIf rfl rfl rfl (by decide +kernel) ⟨Nat.le_of_ble_eq_true rfl, Nat.le_of_ble_eq_true rfl⟩) (preV_R hCX (va_recv hK hP (ci := 12) (q0 := 0) rfl rfl) ((hP.sub (ws' := [(y, .inr (12, [.ref as, .ref ai, .ref ar, .ref am, .ref ak, .ref ao, .ref az, .ref ae, .ref aq, .ref af, .int (bI hi), .int th, .int (nI po), .int (nI ba), .int (nI en), .ref an, .ref aw, .ref ax, .ref ap, .int se]))] ++ [(as, .inl (cI, 53, .inl (sF n d (sdf t (2 ^ i)) day al nd bb oo K F (kcF kn (2 ^ i) d))))]) [0, 1] rfl))) rfl rfl hl.1 rfl (lv_room (Nat.le_of_ble_eq_true rfl)) dX12_canHave_93 ⟨Nat.le_of_ble_eq_true (by first | rfl | decide), Nat.le_of_ble_eq_true (by first | rfl | decide)⟩).run) (fun r_93 hr_93 => ?_)
      subst hr_93
      refine ho_beq (tgt := 115) hx hb dX12_canHave_96 (by decide) (fun c_96 => ?_) (fun c_96 => ?_)
      · refine lv_iconst (v := nI 0) hx hb dX12_canHave_115 (by decide +kernel) ?_
        refine ho_ior hx hb dX12_canHave_116 ?_
        refine lv_istore_n (lv' := [(2, .int (nI ((orF (fun j => maB (K j) (F j) (sdf t (2 ^ i)) (kcF kn (2 ^ i) d j) (nd i) i && siB (K j) (sdf t (2 ^ i)) (kcF kn (2 ^ i) d j) (nd i) false) q) ||| 0))), (3, .int (nI q)), (0, .ref y), (1, .int (nI i))]) hx hb dX12_canHave_117 rfl hl (by decide) rfl (fun ls hl => ?_)
        refine ho_iinc (lv' := [(3, .int (nI (q + 1))), (2, .int (nI ((orF (fun j => maB (K j) (F j) (sdf t (2 ^ i)) (kcF kn (2 ^ i) d j) (nd i) i && siB (K j) (sdf t (2 ^ i)) (kcF kn (2 ^ i) d j) (nd i) false) q) ||| 0))), (0, .ref y), (1, .int (nI i))]) (a := q) (b := 1) hx hb dX12_canHave_118 hl (k := 1) rfl rfl (by decide) rfl (fun ls hl => ?_)
        refine lv_goto (tgt := 79) hx hb dX12_canHave_121 (by decide) ?_
        have e9_2 : (orF (fun j => maB (K j) (F j) (sdf t (2 ^ i)) (kcF kn (2 ^ i) d j) (nd i) i && siB (K j) (sdf t (2 ^ i)) (kcF kn (2 ^ i) d j) (nd i) false) q) ||| 0 = orF (fun j => maB (K j) (F j) (sdf t (2 ^ i)) (kcF kn (2 ^ i) d j) (nd i) i && siB (K j) (sdf t (2 ^ i)) (kcF kn (2 ^ i) d j) (nd i) false) (q + 1) := by first | exact orF_t (by simp [c_96]) | exact orF_t (by simp [c_96, c_106]) | exact orF_u (by simp [c_96]) | exact orF_u (by simp [c_96, c_106])
        rw [e9_2] at hl
        exact ih79 (q + 1) _ (by omega) (show d - (q + 1) < fu79 from (by omega)) (lv_sub hl [0, 1, 2, 3] rfl)
      refine lv_aload_n hx hb dX12_canHave_99 rfl (lv_at hl 2 rfl) ?_
      refine lv_iload_n hx hb dX12_canHave_100 rfl (lv_at hl 0 rfl) ?_
      refine lv_iload_n hx hb dX12_canHave_101 rfl (lv_at hl 3 rfl) ?_
      refine lv_iconst (v := nI 0) hx hb dX12_canHave_102 (by decide +kernel) ?_
      refine vp_callSi ((va_runV (As := [.int (nI q), .int (nI i), .int (nI 0)]) (rest := [.int (nI (orF (fun j => maB (K j) (F j) (sdf t (2 ^ i)) (kcF kn (2 ^ i) d j) (nd i) i && siB (K j) (sdf t (2 ^ i)) (kcF kn (2 ^ i) d j) (nd i) false) q))]) ⟨hx, hb, hml, hown, hts⟩ (c_X12_isSilenced l dC dI cI cD cR y as ai ar am ak ao az ae aq af hi th po ba en an aw ax ap se n d (sdf t (2 ^ i)) day al nd bb oo K F (kcF kn (2 ^ i) d) q i 0 (by first | omega | assumption | exact gnd _ | exact gkn _ | exact Nat.lt_trans (gkn _) (by decide) | exact Nat.lt_trans (gnd _) (by decide) | exact Nat.lt_of_le_of_lt (pcN_le _) (by decide)) (by first | omega | assumption | exact gnd _ | exact gkn _ | exact Nat.lt_trans (gkn _) (by decide) | exact Nat.lt_trans (gnd _) (by decide) | exact Nat.lt_of_le_of_lt (pcN_le _) (by decide)) (sdf_lt ht) (by first | omega | assumption | exact gnd _ | exact gkn _ | exact Nat.lt_trans (gkn _) (by decide) | exact Nat.lt_trans (gnd _) (by decide) | exact Nat.lt_of_le_of_lt (pcN_le _) (by decide)) (by first | omega | assumption | exact gnd _ | exact gkn _ | exact Nat.lt_trans (gkn _) (by decide) | exact Nat.lt_trans (gnd _) (by decide) | exact Nat.lt_of_le_of_lt (pcN_le _) (by decide)) gnd (kcF_lt gkn) gK gF (by first | omega | assumption | exact gnd _ | exact gkn _ | exact Nat.lt_trans (gkn _) (by decide) | exact Nat.lt_trans (gnd _) (by decide) | exact Nat.lt_of_le_of_lt (pcN_le _) (by decide)) (by first | omega | assumption | exact gnd _ | exact gkn _ | exact Nat.lt_trans (gkn _) (by decide) | exact Nat.lt_trans (gnd _) (by decide) | exact Nat.lt_of_le_of_lt (pcN_le _) (by decide)) (by first | omega | assumption | exact gnd _ | exact gkn _ | exact Nat.lt_trans (gkn _) (by decide) | exact Nat.lt_trans (gnd _) (by decide) | exact Nat.lt_of_le_of_lt (pcN_le _) (by decide))) (cwV 3 hts gX12_canHave_X12_isSilenced rfl rfl rfl (by decide +kernel) ⟨Nat.le_of_ble_eq_true rfl, Nat.le_of_ble_eq_true rfl⟩) (preV_R hCX (va_recv hK hP (ci := 12) (q0 := 0) rfl rfl) ((hP.sub (ws' := [(y, .inr (12, [.ref as, .ref ai, .ref ar, .ref am, .ref ak, .ref ao, .ref az, .ref ae, .ref aq, .ref af, .int (bI hi), .int th, .int (nI po), .int (nI ba), .int (nI en), .ref an, .ref aw, .ref ax, .ref ap, .int se]))] ++ [(as, .inl (cI, 53, .inl (sF n d (sdf t (2 ^ i)) day al nd bb oo K F (kcF kn (2 ^ i) d))))]) [0, 1] rfl))) rfl rfl hl.1 rfl (lv_room (Nat.le_of_ble_eq_true rfl)) dX12_canHave_103 ⟨Nat.le_of_ble_eq_true (by first | rfl | decide), Nat.le_of_ble_eq_true (by first | rfl | decide)⟩).run) (fun r_103 hr_103 => ?_)
      subst hr_103
      refine ho_beq (tgt := 115) hx hb dX12_canHave_106 (by decide) (fun c_106 => ?_) (fun c_106 => ?_)
      · refine lv_iconst (v := nI 0) hx hb dX12_canHave_115 (by decide +kernel) ?_
        refine ho_ior hx hb dX12_canHave_116 ?_
        refine lv_istore_n (lv' := [(2, .int (nI ((orF (fun j => maB (K j) (F j) (sdf t (2 ^ i)) (kcF kn (2 ^ i) d j) (nd i) i && siB (K j) (sdf t (2 ^ i)) (kcF kn (2 ^ i) d j) (nd i) false) q) ||| 0))), (3, .int (nI q)), (0, .ref y), (1, .int (nI i))]) hx hb dX12_canHave_117 rfl hl (by decide) rfl (fun ls hl => ?_)
        refine ho_iinc (lv' := [(3, .int (nI (q + 1))), (2, .int (nI ((orF (fun j => maB (K j) (F j) (sdf t (2 ^ i)) (kcF kn (2 ^ i) d j) (nd i) i && siB (K j) (sdf t (2 ^ i)) (kcF kn (2 ^ i) d j) (nd i) false) q) ||| 0))), (0, .ref y), (1, .int (nI i))]) (a := q) (b := 1) hx hb dX12_canHave_118 hl (k := 1) rfl rfl (by decide) rfl (fun ls hl => ?_)
        refine lv_goto (tgt := 79) hx hb dX12_canHave_121 (by decide) ?_
        have e9_2 : (orF (fun j => maB (K j) (F j) (sdf t (2 ^ i)) (kcF kn (2 ^ i) d j) (nd i) i && siB (K j) (sdf t (2 ^ i)) (kcF kn (2 ^ i) d j) (nd i) false) q) ||| 0 = orF (fun j => maB (K j) (F j) (sdf t (2 ^ i)) (kcF kn (2 ^ i) d j) (nd i) i && siB (K j) (sdf t (2 ^ i)) (kcF kn (2 ^ i) d j) (nd i) false) (q + 1) := by first | exact orF_t (by simp [c_96]) | exact orF_t (by simp [c_96, c_106]) | exact orF_u (by simp [c_96]) | exact orF_u (by simp [c_96, c_106])
        rw [e9_2] at hl
        exact ih79 (q + 1) _ (by omega) (show d - (q + 1) < fu79 from (by omega)) (lv_sub hl [0, 1, 2, 3] rfl)
      refine lv_iconst (v := nI 1) hx hb dX12_canHave_109 (by decide +kernel) ?_
      refine lv_iload_n hx hb dX12_canHave_110 rfl (lv_at hl 0 rfl) ?_
      refine ho_shl1 hx hb dX12_canHave_111 (by omega) ?_
      refine lv_goto (tgt := 116) hx hb dX12_canHave_112 (by decide) ?_
      refine ho_ior hx hb dX12_canHave_116 ?_
      refine lv_istore_n (lv' := [(2, .int (nI ((orF (fun j => maB (K j) (F j) (sdf t (2 ^ i)) (kcF kn (2 ^ i) d j) (nd i) i && siB (K j) (sdf t (2 ^ i)) (kcF kn (2 ^ i) d j) (nd i) false) q) ||| (2 ^ q)))), (3, .int (nI q)), (0, .ref y), (1, .int (nI i))]) hx hb dX12_canHave_117 rfl hl (by decide) rfl (fun ls hl => ?_)
      refine ho_iinc (lv' := [(3, .int (nI (q + 1))), (2, .int (nI ((orF (fun j => maB (K j) (F j) (sdf t (2 ^ i)) (kcF kn (2 ^ i) d j) (nd i) i && siB (K j) (sdf t (2 ^ i)) (kcF kn (2 ^ i) d j) (nd i) false) q) ||| (2 ^ q)))), (0, .ref y), (1, .int (nI i))]) (a := q) (b := 1) hx hb dX12_canHave_118 hl (k := 1) rfl rfl (by decide) rfl (fun ls hl => ?_)
      refine lv_goto (tgt := 79) hx hb dX12_canHave_121 (by decide) ?_
      have e9_2 : (orF (fun j => maB (K j) (F j) (sdf t (2 ^ i)) (kcF kn (2 ^ i) d j) (nd i) i && siB (K j) (sdf t (2 ^ i)) (kcF kn (2 ^ i) d j) (nd i) false) q) ||| (2 ^ q) = orF (fun j => maB (K j) (F j) (sdf t (2 ^ i)) (kcF kn (2 ^ i) d j) (nd i) i && siB (K j) (sdf t (2 ^ i)) (kcF kn (2 ^ i) d j) (nd i) false) (q + 1) := by first | exact orF_t (by simp [c_96]) | exact orF_t (by simp [c_96, c_106]) | exact orF_u (by simp [c_96]) | exact orF_u (by simp [c_96, c_106])
      rw [e9_2] at hl
      exact ih79 (q + 1) _ (by omega) (show d - (q + 1) < fu79 from (by omega)) (lv_sub hl [0, 1, 2, 3] rfl)
    refine lv_aload_n hx hb dX12_canHave_51 rfl (lv_at hl 1 rfl) ?_
    refine lv_iload_n hx hb dX12_canHave_52 rfl (lv_at hl 0 rfl) ?_
    refine lv_iconst (v := nI 2) hx hb dX12_canHave_53 (by decide +kernel) ?_
    refine lv_aload_n hx hb dX12_canHave_54 rfl (lv_at hl 1 rfl) ?_
    refine lv_iload_n hx hb dX12_canHave_55 rfl (lv_at hl 0 rfl) ?_
    refine lv_iconst (v := nI 2) hx hb dX12_canHave_56 (by decide +kernel) ?_
    refine vp_callSi ((va_runV (As := [.int (nI j), .int (nI 2)]) (rest := [.int (nI 2), .int (nI j), .ref y]) ⟨hx, hb, hml, hown, hts⟩ (c_X12_get_2 l dC dI cI cD cR y as ai ar am ak ao az ae aq af hi th po ba en an aw ax ap se n d (sdf t (2 ^ i)) day al nd bb oo K F (kcF kn (2 ^ i) j) j (by first | omega | assumption | exact gnd _ | exact gkn _ | exact Nat.lt_trans (gkn _) (by decide) | exact Nat.lt_trans (gnd _) (by decide) | exact Nat.lt_of_le_of_lt (pcN_le _) (by decide)) (by first | omega | assumption | exact gnd _ | exact gkn _ | exact Nat.lt_trans (gkn _) (by decide) | exact Nat.lt_trans (gnd _) (by decide) | exact Nat.lt_of_le_of_lt (pcN_le _) (by decide)) (sdf_lt ht) (by first | omega | assumption | exact gnd _ | exact gkn _ | exact Nat.lt_trans (gkn _) (by decide) | exact Nat.lt_trans (gnd _) (by decide) | exact Nat.lt_of_le_of_lt (pcN_le _) (by decide)) (by first | omega | assumption | exact gnd _ | exact gkn _ | exact Nat.lt_trans (gkn _) (by decide) | exact Nat.lt_trans (gnd _) (by decide) | exact Nat.lt_of_le_of_lt (pcN_le _) (by decide)) gnd (kcF_lt gkn) gK gF (by first | omega | assumption | exact gnd _ | exact gkn _ | exact Nat.lt_trans (gkn _) (by decide) | exact Nat.lt_trans (gnd _) (by decide) | exact Nat.lt_of_le_of_lt (pcN_le _) (by decide))) (cwV 2 hts gX12_canHave_X12_get rfl rfl rfl (by decide +kernel) ⟨Nat.le_of_ble_eq_true rfl, Nat.le_of_ble_eq_true rfl⟩) (preV_R hCX (va_recv hK hP (ci := 12) (q0 := 0) rfl rfl) ((hP.sub (ws' := [(y, .inr (12, [.ref as, .ref ai, .ref ar, .ref am, .ref ak, .ref ao, .ref az, .ref ae, .ref aq, .ref af, .int (bI hi), .int th, .int (nI po), .int (nI ba), .int (nI en), .ref an, .ref aw, .ref ax, .ref ap, .int se]))] ++ [(as, .inl (cI, 53, .inl (sF n d (sdf t (2 ^ i)) day al nd bb oo K F (kcF kn (2 ^ i) j))))]) [0, 1] rfl))) rfl rfl hl.1 rfl (lv_room (Nat.le_of_ble_eq_true rfl)) dX12_canHave_57 ⟨Nat.le_of_ble_eq_true (by first | rfl | decide), Nat.le_of_ble_eq_true (by first | rfl | decide)⟩).run) (fun r_57 hr_57 => ?_)
    subst hr_57
    refine lv_iconst (v := nI 1) hx hb dX12_canHave_60 (by decide +kernel) ?_
    refine lv_iload_n hx hb dX12_canHave_61 rfl (lv_at hl 2 rfl) ?_
    refine ho_shl1 hx hb dX12_canHave_62 (by omega) ?_
    refine lv_iconst (v := (-1)) hx hb dX12_canHave_63 (by decide +kernel) ?_
    refine lv_ixor hx hb dX12_canHave_64 ?_
    refine ho_iandC hx hb dX12_canHave_65 ?_
    have hPc := hP.sub (ws' := [(y, .inr (12, [.ref as, .ref ai, .ref ar, .ref am, .ref ak, .ref ao, .ref az, .ref ae, .ref aq, .ref af, .int (bI hi), .int th, .int (nI po), .int (nI ba), .int (nI en), .ref an, .ref aw, .ref ax, .ref ap, .int se]))] ++ [(as, .inl (cI, 53, .inl (sF n d (sdf t (2 ^ i)) day al nd bb oo K F (kcF kn (2 ^ i) j))))]) [0, 1] rfl
    have hDc := hD.sub (ws' := [(y, .inr (12, [.ref as, .ref ai, .ref ar, .ref am, .ref ak, .ref ao, .ref az, .ref ae, .ref aq, .ref af, .int (bI hi), .int th, .int (nI po), .int (nI ba), .int (nI en), .ref an, .ref aw, .ref ax, .ref ap, .int se]))] ++ [(as, .inl (cI, 53, .inl (sF n d (sdf t (2 ^ i)) day al nd bb oo K F (kcF kn (2 ^ i) j))))]) [0, 1] (by decide) rfl
    have hFc := va_free (wc := [(y, .inr (12, [.ref as, .ref ai, .ref ar, .ref am, .ref ak, .ref ao, .ref az, .ref ae, .ref aq, .ref af, .int (bI hi), .int th, .int (nI po), .int (nI ba), .int (nI en), .ref an, .ref aw, .ref ax, .ref ap, .int se]))] ++ [(as, .inl (cI, 53, .inl (sF n d (sdf t (2 ^ i)) day al nd bb oo K F (kcF kn (2 ^ i) j))))]) hD hS hA [0, 1] rfl
    refine va_callv (va_runV (As := [.int (nI j), .int (nI 2), .int (nI (sdf ((kcF kn (2 ^ i) j) j) (2 ^ i)))]) (rest := []) ⟨hx, hb, hml, hown, hts⟩ (c_X12_puts_2 l dC dI cI cD cR y as ai ar am ak ao az ae aq af hi th po ba en an aw ax ap se n d (sdf t (2 ^ i)) day al nd bb oo K F (kcF kn (2 ^ i) j) j (sdf ((kcF kn (2 ^ i) j) j) (2 ^ i)) H.size (by first | omega | assumption | exact gnd _ | exact gkn _ | exact Nat.lt_trans (gkn _) (by decide) | exact Nat.lt_trans (gnd _) (by decide) | exact Nat.lt_of_le_of_lt (pcN_le _) (by decide)) (by first | omega | assumption | exact gnd _ | exact gkn _ | exact Nat.lt_trans (gkn _) (by decide) | exact Nat.lt_trans (gnd _) (by decide) | exact Nat.lt_of_le_of_lt (pcN_le _) (by decide)) (sdf_lt ht) (by first | omega | assumption | exact gnd _ | exact gkn _ | exact Nat.lt_trans (gkn _) (by decide) | exact Nat.lt_trans (gnd _) (by decide) | exact Nat.lt_of_le_of_lt (pcN_le _) (by decide)) (by first | omega | assumption | exact gnd _ | exact gkn _ | exact Nat.lt_trans (gkn _) (by decide) | exact Nat.lt_trans (gnd _) (by decide) | exact Nat.lt_of_le_of_lt (pcN_le _) (by decide)) gnd (kcF_lt gkn) gK gF (by first | omega | assumption | exact gnd _ | exact gkn _ | exact Nat.lt_trans (gkn _) (by decide) | exact Nat.lt_trans (gnd _) (by decide) | exact Nat.lt_of_le_of_lt (pcN_le _) (by decide))) (cwV 3 hts gX12_canHave_X12_puts rfl rfl rfl (by decide +kernel) ⟨Nat.le_of_ble_eq_true rfl, Nat.le_of_ble_eq_true rfl⟩) (preV_R hCX (va_recv hK hP (ci := 12) (q0 := 0) rfl rfl) ⟨rfl, hPc, hDc.weaken (fun _ _ _ _ => trivial)⟩) rfl rfl hl.1 rfl (lv_room (Nat.le_of_ble_eq_true rfl)) dX12_canHave_66 ⟨Nat.le_of_ble_eq_true (by first | rfl | decide), Nat.le_of_ble_eq_true (by first | rfl | decide)⟩) hS (fun q _ h => hFc q h) hFc (fun u T8 H1 locs hT8 hvm hw hB hz1 hk1 hS => ?_)
    obtain ⟨hP1, hD1⟩ := hB
    rw [hT8] at hP1
    obtain ⟨hP, hD⟩ := va_join (wr := [(am, .inl (cI, 53, .inl (sF n d t day al nd bb oo K F kn)))]) (w1 := [(y, .inr (12, [.ref as, .ref ai, .ref ar, .ref am, .ref ak, .ref ao, .ref az, .ref ae, .ref aq, .ref af, .int (bI hi), .int th, .int (nI po), .int (nI ba), .int (nI en), .ref an, .ref aw, .ref ax, .ref ap, .int se]))] ++ [(as, .inl (cI, 53, .inl (sF n d (sdf t (2 ^ i)) day al nd bb oo K F (va_up (kcF kn (2 ^ i) j) j (sdf ((kcF kn (2 ^ i) j) j) (2 ^ i))))))]) hP hD [0, 1] [2] rfl rfl (by decide) (by decide) hk1 hFc hP1 hD1
    generalize H1 = H at hP hS ⊢
    have hP := hP.sub (ws' := [(y, .inr (12, [.ref as, .ref ai, .ref ar, .ref am, .ref ak, .ref ao, .ref az, .ref ae, .ref aq, .ref af, .int (bI hi), .int th, .int (nI po), .int (nI ba), .int (nI en), .ref an, .ref aw, .ref ax, .ref ap, .int se]))] ++ [(as, .inl (cI, 53, .inl (sF n d (sdf t (2 ^ i)) day al nd bb oo K F (va_up (kcF kn (2 ^ i) j) j (sdf ((kcF kn (2 ^ i) j) j) (2 ^ i))))))] ++ [(am, .inl (cI, 53, .inl (sF n d t day al nd bb oo K F kn)))]) [1, 2, 0] rfl
    have hD := hD.sub (ws' := [(y, .inr (12, [.ref as, .ref ai, .ref ar, .ref am, .ref ak, .ref ao, .ref az, .ref ae, .ref aq, .ref af, .int (bI hi), .int th, .int (nI po), .int (nI ba), .int (nI en), .ref an, .ref aw, .ref ax, .ref ap, .int se]))] ++ [(as, .inl (cI, 53, .inl (sF n d (sdf t (2 ^ i)) day al nd bb oo K F (va_up (kcF kn (2 ^ i) j) j (sdf ((kcF kn (2 ^ i) j) j) (2 ^ i))))))] ++ [(am, .inl (cI, 53, .inl (sF n d t day al nd bb oo K F kn)))]) [1, 2, 0] (by decide) rfl
    refine ho_iinc (lv' := [(2, .int (nI (j + 1))), (0, .ref y), (1, .int (nI i))]) (a := j) (b := 1) hx hb dX12_canHave_69 hl (k := 0) rfl rfl (by decide) rfl (fun ls hl => ?_)
    refine lv_goto (tgt := 41) hx hb dX12_canHave_72 (by decide) ?_
    have hW9 : ([(y, .inr (12, [.ref as, .ref ai, .ref ar, .ref am, .ref ak, .ref ao, .ref az, .ref ae, .ref aq, .ref af, .int (bI hi), .int th, .int (nI po), .int (nI ba), .int (nI en), .ref an, .ref aw, .ref ax, .ref ap, .int se]))] ++ [(as, .inl (cI, 53, .inl (sF n d (sdf t (2 ^ i)) day al nd bb oo K F (va_up (kcF kn (2 ^ i) j) j (sdf ((kcF kn (2 ^ i) j) j) (2 ^ i))))))] ++ [(am, .inl (cI, 53, .inl (sF n d t day al nd bb oo K F kn)))] : va_W) = [(y, .inr (12, [.ref as, .ref ai, .ref ar, .ref am, .ref ak, .ref ao, .ref az, .ref ae, .ref aq, .ref af, .int (bI hi), .int th, .int (nI po), .int (nI ba), .int (nI en), .ref an, .ref aw, .ref ax, .ref ap, .int se]))] ++ [(as, .inl (cI, 53, .inl (sF n d (sdf t (2 ^ i)) day al nd bb oo K F (kcF kn (2 ^ i) (j + 1)))))] ++ [(am, .inl (cI, 53, .inl (sF n d t day al nd bb oo K F kn)))] := by rw [kcF_up]
    rw [hW9] at hP hD
    exact ih41 (j + 1) _ _ _ (by omega) (show d - (j + 1) < fu41 from (by omega)) hP hD hS (lv_sub hl [0, 1, 2] rfl)
  refine lv_bipush (v := (-3)) hx hb dX12_canHave_18 (by decide +kernel) ?_
  have hW9 : ([(y, .inr (12, [.ref as, .ref ai, .ref ar, .ref am, .ref ak, .ref ao, .ref az, .ref ae, .ref aq, .ref af, .int (bI hi), .int th, .int (nI po), .int (nI ba), .int (nI en), .ref an, .ref aw, .ref ax, .ref ap, .int se]))] ++ [(as, .inl (cI, 53, .inl (sF n d t day al nd bb oo K F kn)))] ++ [(am, .inl (cI, 53, .inl (sF nM dM tM dayM alM ndM bbM ooM KM FM knM)))] : va_W) = [(y, .inr (12, [.ref as, .ref ai, .ref ar, .ref am, .ref ak, .ref ao, .ref az, .ref ae, .ref aq, .ref af, .int (bI hi), .int th, .int (nI po), .int (nI ba), .int (nI en), .ref an, .ref aw, .ref ax, .ref ap, .int se]))] ++ [(as, .inl (cI, 53, .inl (sF n d t day al nd bb oo K F kn)))] ++ [(am, .inl (cI, 53, .inl (sF (on1 (oN (nI i) n) (fun i => bif t.testBit i then n else nM) nM) (on1 (oN (nI i) n) (fun i => bif t.testBit i then d else dM) dM) (on1 (oN (nI i) n) (fun i => bif t.testBit i then t else tM) tM) (on1 (oN (nI i) n) (fun i => bif t.testBit i then day else dayM) dayM) (on1 (oN (nI i) n) (fun i => bif t.testBit i then al else alM) alM) (on1 (oN (nI i) n) (fun i => bif t.testBit i then nd else ndM) ndM) (on1 (oN (nI i) n) (fun i => bif t.testBit i then bb else bbM) bbM) (on1 (oN (nI i) n) (fun i => bif t.testBit i then oo else ooM) ooM) (on1 (oN (nI i) n) (fun i => bif t.testBit i then K else KM) KM) (on1 (oN (nI i) n) (fun i => bif t.testBit i then F else FM) FM) (on1 (oN (nI i) n) (fun i => bif t.testBit i then kn else knM) knM))))] := by simp only [on2_n, on2_sn, on2_ss, on1_n, on1_s, cond_true, cond_false, Bool.true_and, Bool.and_true, Bool.false_and, Bool.and_false, oN_t h_i, c_15]
  rw [hW9] at hP hD
  exact W.iret (v := (-3)) hx hb hr (fun T9 hT9 hW9 => ⟨⟨_, (), rfl, (by (simp [on1, c_15, oN_t h_i]) <;> first | rfl | omega), by rw [hT9]; exact hP, hD⟩, hS.F hT9⟩) hS.2.2 dX12_canHave_20
set_option maxHeartbeats 4000000 in
set_option maxRecDepth 100000 in
theorem c_X12_hire (l : Launch) (dC : Nat → ClassId) (dI : Nat → Nat → Nat) (cI cD cR : ClassId) (y as ai ar am ak ao az ae aq af : Nat) (hi : Bool) (th : Int32) (po ba en an aw ax ap : Nat) (se : Int32) (n d t day al : Nat) (nd : Nat → Nat) (bb oo : Nat → Int32) (K F kn : Nat → Nat) (nM dM tM dayM alM : Nat) (ndM : Nat → Nat) (bbM ooM : Nat → Int32) (KM FM knM : Nat → Nat) (f9 w : Int32) (sz : Nat) (hn : n ≤ 9) (hd : d ≤ 7) (ht : t < 512) (hal : al < 128) (hday : day < 2 ^ 30) (gnd : ∀ i, nd i < 512) (gkn : ∀ j, kn j < 512) (gK : ∀ j, K j < 8) (gF : ∀ j, F j < 10) (hd6 : d ≤ 6) (hal6 : al < 64) : Met l yX12_hire wsX12_hire ({ frames := 6, cells := 0, slots := 0, locals := 139 }) (pcR dC dI cI cD cR [.ref y, .int f9, .int w] (fun H => H.size = sz ∧ va_P (dC, dI) vwCl ([(y, .inr (12, [.ref as, .ref ai, .ref ar, .ref am, .ref ak, .ref ao, .ref az, .ref ae, .ref aq, .ref af, .int (bI hi), .int th, .int (nI po), .int (nI ba), .int (nI en), .ref an, .ref aw, .ref ax, .ref ap, .int se]))] ++ [(as, .inl (cI, 53, .inl (sF n d t day al nd bb oo K F kn)))] ++ [(am, .inl (cI, 53, .inl (sF nM dM tM dayM alM ndM bbM ooM KM FM knM)))]) H ∧ va_D (fun _ => True) ([(y, .inr (12, [.ref as, .ref ai, .ref ar, .ref am, .ref ak, .ref ao, .ref az, .ref ae, .ref aq, .ref af, .int (bI hi), .int th, .int (nI po), .int (nI ba), .int (nI en), .ref an, .ref aw, .ref ax, .ref ap, .int se]))] ++ [(as, .inl (cI, 53, .inl (sF n d t day al nd bb oo K F kn)))] ++ [(am, .inl (cI, 53, .inl (sF nM dM tM dayM alM ndM bbM ooM KM FM knM)))]))) (va_Qi (fun r (_ : Unit) => r = (bif okI f9 10 && okI w 2 then (if w = 0 then oI (hiB (fun k => pcN (evN n (al ||| 2 ^ d) (d + 1) nd (va_up K d k) (va_up F d (nT f9)) (va_up kn d 0) 512 t)) 8) else oI (hiV (fun k => pcN (evN n (al ||| 2 ^ d) (d + 1) nd (va_up K d k) (va_up F d (nT f9)) (va_up kn d 0) 512 t)) 8)) else -1)) (fun (_ : Unit) T9 => va_P (dC, dI) vwCl ([(y, .inr (12, [.ref as, .ref ai, .ref ar, .ref am, .ref ak, .ref ao, .ref az, .ref ae, .ref aq, .ref af, .int (bI hi), .int th, .int (nI po), .int (nI ba), .int (nI en), .ref an, .ref aw, .ref ax, .ref ap, .int se]))] ++ [(as, .inl (cI, 53, .inl (sF n d t day al nd bb oo K F kn)))] ++ [(am, .inl (cI, 53, .inl (sF (bif okI f9 10 && okI w 2 then n else nM) (bif okI f9 10 && okI w 2 then d else dM) (bif okI f9 10 && okI w 2 then t else tM) (bif okI f9 10 && okI w 2 then day else dayM) (bif okI f9 10 && okI w 2 then al else alM) (bif okI f9 10 && okI w 2 then nd else ndM) (bif okI f9 10 && okI w 2 then bb else bbM) (bif okI f9 10 && okI w 2 then oo else ooM) (bif okI f9 10 && okI w 2 then K else KM) (bif okI f9 10 && okI w 2 then F else FM) (bif okI f9 10 && okI w 2 then kn else knM))))]) T9.heap ∧ va_D (va_A ([(y, .inr (12, [.ref as, .ref ai, .ref ar, .ref am, .ref ak, .ref ao, .ref az, .ref ae, .ref aq, .ref af, .int (bI hi), .int th, .int (nI po), .int (nI ba), .int (nI en), .ref an, .ref aw, .ref ax, .ref ap, .int se]))] ++ [(as, .inl (cI, 53, .inl (sF n d t day al nd bb oo K F kn)))] ++ [(am, .inl (cI, 53, .inl (sF nM dM tM dayM alM ndM bbM ooM KM FM knM)))]) sz) ([(y, .inr (12, [.ref as, .ref ai, .ref ar, .ref am, .ref ak, .ref ao, .ref az, .ref ae, .ref aq, .ref af, .int (bI hi), .int th, .int (nI po), .int (nI ba), .int (nI en), .ref an, .ref aw, .ref ax, .ref ap, .int se]))] ++ [(as, .inl (cI, 53, .inl (sF n d t day al nd bb oo K F kn)))] ++ [(am, .inl (cI, 53, .inl (sF (bif okI f9 10 && okI w 2 then n else nM) (bif okI f9 10 && okI w 2 then d else dM) (bif okI f9 10 && okI w 2 then t else tM) (bif okI f9 10 && okI w 2 then day else dayM) (bif okI f9 10 && okI w 2 then al else alM) (bif okI f9 10 && okI w 2 then nd else ndM) (bif okI f9 10 && okI w 2 then bb else bbM) (bif okI f9 10 && okI w 2 then oo else ooM) (bif okI f9 10 && okI w 2 then K else KM) (bif okI f9 10 && okI w 2 then F else FM) (bif okI f9 10 && okI w 2 then kn else knM))))])) (va_A ([(y, .inr (12, [.ref as, .ref ai, .ref ar, .ref am, .ref ak, .ref ao, .ref az, .ref ae, .ref aq, .ref af, .int (bI hi), .int th, .int (nI po), .int (nI ba), .int (nI en), .ref an, .ref aw, .ref ax, .ref ap, .int se]))] ++ [(as, .inl (cI, 53, .inl (sF n d t day al nd bb oo K F kn)))] ++ [(am, .inl (cI, 53, .inl (sF nM dM tM dayM alM ndM bbM ooM KM FM knM)))]) sz)) 0 0 (va_A ([(y, .inr (12, [.ref as, .ref ai, .ref ar, .ref am, .ref ak, .ref ao, .ref az, .ref ae, .ref aq, .ref af, .int (bI hi), .int th, .int (nI po), .int (nI ba), .int (nI en), .ref an, .ref aw, .ref ax, .ref ap, .int se]))] ++ [(as, .inl (cI, 53, .inl (sF n d t day al nd bb oo K F kn)))] ++ [(am, .inl (cI, 53, .inl (sF nM dM tM dayM alM ndM bbM ooM KM FM knM)))]) sz) := by
  refine Met.ofW (cc := cX12_hire) (maxL := 7) (ret := (some .int)) (by decide) rfl ?_
  intro p e s m args below meth c s₁ B hml hv
  obtain ⟨rfl, hH0, hCX⟩ := hv
  have hx := B.exec
  have hb := B.bytes
  have hr := B.returns
  have hts := atoms_spec (ws := wsX12_hire) B.pre
  have hown : s.vm.findClass RX12 = some m.cls := findClass_of_methodNamed B.named
  have hlocks := B.notSynchronized
  have hK := hCX.1
  obtain ⟨hsz, hP, hD0⟩ := hH0
  subst hsz
  have hD := hD0.self (sz := s.heap.size)
  generalize hAe : va_A ([(y, .inr (12, [.ref as, .ref ai, .ref ar, .ref am, .ref ak, .ref ao, .ref az, .ref ae, .ref aq, .ref af, .int (bI hi), .int th, .int (nI po), .int (nI ba), .int (nI en), .ref an, .ref aw, .ref ax, .ref ap, .int se]))] ++ [(as, .inl (cI, 53, .inl (sF n d t day al nd bb oo K F kn)))] ++ [(am, .inl (cI, 53, .inl (sF nM dM tM dayM alM ndM bbM ooM KM FM knM)))]) s.heap.size = A at hD ⊢
  have hA : ∀ q : Nat, s.heap.size ≤ q → A q := fun q h => by rw [← hAe]; exact Or.inr h
  have hS : va_S A s.heap s.heap [] := va_S.rf
  have hP : va_P (dC, dI) vwCl ([(y, .inr (12, [.ref as, .ref ai, .ref ar, .ref am, .ref ak, .ref ao, .ref az, .ref ae, .ref aq, .ref af, .int (bI hi), .int th, .int (nI po), .int (nI ba), .int (nI en), .ref an, .ref aw, .ref ax, .ref ap, .int se]))] ++ [(as, .inl (cI, 53, .inl (sF n d t day al nd bb oo K F kn)))] ++ [(am, .inl (cI, 53, .inl (sF nM dM tM dayM alM ndM bbM ooM KM FM knM)))]) s.heap := hP
  have hl := lv_entry ([.ref y, .int f9, .int w]) (n := 7) (Nat.le_of_ble_eq_true rfl)
  rw [lg_entry_eq]
  generalize (lg_sl ([.ref y, .int f9, .int w]) ++ List.replicate (7 - (lg_sl ([.ref y, .int f9, .int w])).length) Slot.unset).toArray = ls at hl ⊢
  have hl : lv_has ls 7 [(0, .ref y), (1, .int f9), (2, .int w)] := hl
  refine lv_iload_n hx hb dX12_hire_0 rfl (lv_at hl 1 rfl) ?_
  refine lv_i2l (v := (f9).toInt64) hx hb dX12_hire_1 rfl ?_
  refine lv_lconst (v := lN 0) hx hb dX12_hire_2 (by decide +kernel) ?_
  refine lv_ldc2 (v := 9) hx hb hown (hts (.constantLong RX12 201 (9)) (by decide +kernel)) dX12_hire_3 ?_
  refine vp_callSi ((va_runS (As := [.long ((f9).toInt64), .long (lN 0), .long (9 : Int64)]) (rest := []) ⟨hx, hb, hml, hown, hts⟩ (c_X12_isIn l dC dI cI cD cR ((f9).toInt64) (lN 0) (9 : Int64)) (va_cwS 3 hts gX12_hire_X12_isIn rfl rfl rfl (by decide +kernel) ⟨Nat.le_of_ble_eq_true rfl, Nat.le_of_ble_eq_true rfl⟩) (preS_R hCX (trivial)) rfl rfl hl.1 rfl (lv_room (Nat.le_of_ble_eq_true rfl)) dX12_hire_6 ⟨Nat.le_of_ble_eq_true (by first | rfl | decide), Nat.le_of_ble_eq_true (by first | rfl | decide)⟩).run) (fun r_6 hr_6 => ?_)
  subst hr_6
  refine ho_beq (tgt := 22) hx hb dX12_hire_9 (by decide) (fun c_9 => ?_) (fun c_9 => ?_)
  · have w9f : okI f9 10 = false := (inB_k f9 (k := 9) (by decide)).symm.trans c_9
    refine lv_iconst (v := (-1)) hx hb dX12_hire_22 (by decide +kernel) ?_
    have hW9 : ([(y, .inr (12, [.ref as, .ref ai, .ref ar, .ref am, .ref ak, .ref ao, .ref az, .ref ae, .ref aq, .ref af, .int (bI hi), .int th, .int (nI po), .int (nI ba), .int (nI en), .ref an, .ref aw, .ref ax, .ref ap, .int se]))] ++ [(as, .inl (cI, 53, .inl (sF n d t day al nd bb oo K F kn)))] ++ [(am, .inl (cI, 53, .inl (sF nM dM tM dayM alM ndM bbM ooM KM FM knM)))] : va_W) = [(y, .inr (12, [.ref as, .ref ai, .ref ar, .ref am, .ref ak, .ref ao, .ref az, .ref ae, .ref aq, .ref af, .int (bI hi), .int th, .int (nI po), .int (nI ba), .int (nI en), .ref an, .ref aw, .ref ax, .ref ap, .int se]))] ++ [(as, .inl (cI, 53, .inl (sF n d t day al nd bb oo K F kn)))] ++ [(am, .inl (cI, 53, .inl (sF (bif okI f9 10 && okI w 2 then n else nM) (bif okI f9 10 && okI w 2 then d else dM) (bif okI f9 10 && okI w 2 then t else tM) (bif okI f9 10 && okI w 2 then day else dayM) (bif okI f9 10 && okI w 2 then al else alM) (bif okI f9 10 && okI w 2 then nd else ndM) (bif okI f9 10 && okI w 2 then bb else bbM) (bif okI f9 10 && okI w 2 then oo else ooM) (bif okI f9 10 && okI w 2 then K else KM) (bif okI f9 10 && okI w 2 then F else FM) (bif okI f9 10 && okI w 2 then kn else knM))))] := by first | (rw [w9f]; rfl) | (rw [w9f, w19]; rfl)
    rw [hW9] at hP hD
    exact W.iret (v := (-1)) hx hb hr (fun T9 hT9 hW9 => ⟨⟨_, (), rfl, (by first | (rw [w9f]; rfl) | (rw [w9f, w19]; rfl)), by rw [hT9]; exact hP, hD⟩, hS.F hT9⟩) hS.2.2 dX12_hire_23
  have w9f : okI f9 10 = true := (inB_k f9 (k := 9) (by decide)).symm.trans c_9
  refine lv_iload_n hx hb dX12_hire_12 rfl (lv_at hl 2 rfl) ?_
  refine lv_i2l (v := (w).toInt64) hx hb dX12_hire_13 rfl ?_
  refine lv_lconst (v := lN 0) hx hb dX12_hire_14 (by decide +kernel) ?_
  refine lv_lconst (v := lN 1) hx hb dX12_hire_15 (by decide +kernel) ?_
  refine vp_callSi ((va_runS (As := [.long ((w).toInt64), .long (lN 0), .long (lN 1)]) (rest := []) ⟨hx, hb, hml, hown, hts⟩ (c_X12_isIn l dC dI cI cD cR ((w).toInt64) (lN 0) (lN 1)) (va_cwS 3 hts gX12_hire_X12_isIn rfl rfl rfl (by decide +kernel) ⟨Nat.le_of_ble_eq_true rfl, Nat.le_of_ble_eq_true rfl⟩) (preS_R hCX (trivial)) rfl rfl hl.1 rfl (lv_room (Nat.le_of_ble_eq_true rfl)) dX12_hire_16 ⟨Nat.le_of_ble_eq_true (by first | rfl | decide), Nat.le_of_ble_eq_true (by first | rfl | decide)⟩).run) (fun r_16 hr_16 => ?_)
  subst hr_16
  refine ho_bne (tgt := 24) hx hb dX12_hire_19 (by decide) (fun c_19 => ?_) (fun c_19 => ?_)
  · have w19 : okI w 2 = true := (inB_k w (k := 1) (by decide)).symm.trans c_19
    obtain ⟨f1, hf1, rfl⟩ := okI_ex (by decide) w9f
    refine lv_bipush (v := (-4)) hx hb dX12_hire_24 (by decide +kernel) ?_
    refine lv_istore_n (lv' := [(3, .int (-4)), (0, .ref y), (1, .int (nI f1)), (2, .int w)]) hx hb dX12_hire_26 rfl hl (by decide) rfl (fun ls hl => ?_)
    refine lv_bipush (v := (-4)) hx hb dX12_hire_27 (by decide +kernel) ?_
    refine lv_istore (lv' := [(4, .int (-4)), (3, .int (-4)), (0, .ref y), (1, .int (nI f1)), (2, .int w)]) hx hb dX12_hire_29 hl (by decide) rfl (fun ls hl => ?_)
    refine lv_aload_n hx hb dX12_hire_31 rfl (lv_at hl 2 rfl) ?_
    have hPc := hP
    have hDc := hD
    have hFc := va_free (wc := [(y, .inr (12, [.ref as, .ref ai, .ref ar, .ref am, .ref ak, .ref ao, .ref az, .ref ae, .ref aq, .ref af, .int (bI hi), .int th, .int (nI po), .int (nI ba), .int (nI en), .ref an, .ref aw, .ref ax, .ref ap, .int se]))] ++ [(as, .inl (cI, 53, .inl (sF n d t day al nd bb oo K F kn)))] ++ [(am, .inl (cI, 53, .inl (sF nM dM tM dayM alM ndM bbM ooM KM FM knM)))]) hD hS hA [0, 1, 2] rfl
    refine va_callv (va_runV (As := []) (rest := []) ⟨hx, hb, hml, hown, hts⟩ (c_X12_begins l dC dI cI cD cR y as ai ar am ak ao az ae aq af hi th po ba en an aw ax ap se n d t day al nd bb oo K F kn nM dM tM dayM alM ndM bbM ooM KM FM knM s.heap.size) (cwV 0 hts gX12_hire_X12_begins rfl rfl rfl (by decide +kernel) ⟨Nat.le_of_ble_eq_true rfl, Nat.le_of_ble_eq_true rfl⟩) (preV_R hCX (va_recv hK hP (ci := 12) (q0 := 0) rfl rfl) ⟨rfl, hPc, hDc.weaken (fun _ _ _ _ => trivial)⟩) rfl rfl hl.1 rfl (lv_room (Nat.le_of_ble_eq_true rfl)) dX12_hire_32 ⟨Nat.le_of_ble_eq_true (by first | rfl | decide), Nat.le_of_ble_eq_true (by first | rfl | decide)⟩) hS (fun q _ h => hFc q h) hFc (fun u T8 H1 locs hT8 hvm hw hB hz1 hk1 hS => ?_)
    obtain ⟨hP1, hD1⟩ := hB
    rw [hT8] at hP1
    obtain ⟨hP, hD⟩ := va_join (wr := []) (w1 := [(y, .inr (12, [.ref as, .ref ai, .ref ar, .ref am, .ref ak, .ref ao, .ref az, .ref ae, .ref aq, .ref af, .int (bI hi), .int th, .int (nI po), .int (nI ba), .int (nI en), .ref an, .ref aw, .ref ax, .ref ap, .int se]))] ++ [(as, .inl (cI, 53, .inl (sF n d t day al nd bb oo K F kn)))] ++ [(am, .inl (cI, 53, .inl (sF n d t day al nd bb oo K F kn)))]) hP hD [0, 1, 2] [] rfl rfl (by decide) (by decide) hk1 hFc hP1 hD1
    generalize H1 = H at hP hS ⊢
    have hP : va_P (dC, dI) vwCl ([(y, .inr (12, [.ref as, .ref ai, .ref ar, .ref am, .ref ak, .ref ao, .ref az, .ref ae, .ref aq, .ref af, .int (bI hi), .int th, .int (nI po), .int (nI ba), .int (nI en), .ref an, .ref aw, .ref ax, .ref ap, .int se]))] ++ [(as, .inl (cI, 53, .inl (sF n d t day al nd bb oo K F kn)))] ++ [(am, .inl (cI, 53, .inl (sF n d t day al nd bb oo K F kn)))]) H := hP
    have hD : va_D A ([(y, .inr (12, [.ref as, .ref ai, .ref ar, .ref am, .ref ak, .ref ao, .ref az, .ref ae, .ref aq, .ref af, .int (bI hi), .int th, .int (nI po), .int (nI ba), .int (nI en), .ref an, .ref aw, .ref ax, .ref ap, .int se]))] ++ [(as, .inl (cI, 53, .inl (sF n d t day al nd bb oo K F kn)))] ++ [(am, .inl (cI, 53, .inl (sF n d t day al nd bb oo K F kn)))]) := hD
    refine lv_iconst (v := nI 0) hx hb dX12_hire_35 (by decide +kernel) ?_
    refine lv_istore (lv' := [(5, .int (nI 0)), (4, .int (-4)), (3, .int (-4)), (0, .ref y), (1, .int (nI f1)), (2, .int w)]) hx hb dX12_hire_36 hl (by decide) rfl (fun ls hl => ?_)
    have e9_3 : ((-4) : Int32) = oI (hiB (fun 0 => pcN (evN n (al ||| 2 ^ d) (d + 1) nd (va_up K d 0) (va_up F d f1) (va_up kn d 0) 512 t)) 0) := by rfl
    rw [e9_3] at hl
    have e9_4 : ((-4) : Int32) = oI (hiV (fun 0 => pcN (evN n (al ||| 2 ^ d) (d + 1) nd (va_up K d 0) (va_up F d f1) (va_up kn d 0) 512 t)) 0) := by rfl
    rw [e9_4] at hl
    refine ho_lpW (T := Nat) 7 (fun x9 => ([(y, .inr (12, [.ref as, .ref ai, .ref ar, .ref am, .ref ak, .ref ao, .ref az, .ref ae, .ref aq, .ref af, .int (bI hi), .int th, .int (nI po), .int (nI ba), .int (nI en), .ref an, .ref aw, .ref ax, .ref ap, .int se]))] ++ [(as, .inl (cI, 53, .inl (sF n d t day al nd bb oo K F kn)))] ++ [(am, .inl (cI, 53, .inl (sF n d t day al nd bb oo K F kn)))] : va_W)) (fun x9 => [(5, .int (nI x9)), (4, .int (oI (hiV (fun x9 => pcN (evN n (al ||| 2 ^ d) (d + 1) nd (va_up K d x9) (va_up F d f1) (va_up kn d 0) 512 t)) x9))), (3, .int (oI (hiB (fun x9 => pcN (evN n (al ||| 2 ^ d) (d + 1) nd (va_up K d x9) (va_up F d f1) (va_up kn d 0) 512 t)) x9))), (0, .ref y), (1, .int (nI f1)), (2, .int w)]) (fun x9 => []) (fun x9 => (x9 ≤ 8)) (fun x9 => 8 - x9) 0 (by omega) (lv_sub hl [0, 1, 2, 3, 4, 5] rfl) hP hD hS ?_
    intro fu38 k H locs ls hI hm38 hP hD hS hl ih
    have hk8 := hI
    have hl : lv_has ls 7 [(5, .int (nI k)), (4, .int (oI (hiV (fun k => pcN (evN n (al ||| 2 ^ d) (d + 1) nd (va_up K d k) (va_up F d f1) (va_up kn d 0) 512 t)) k))), (3, .int (oI (hiB (fun k => pcN (evN n (al ||| 2 ^ d) (d + 1) nd (va_up K d k) (va_up F d f1) (va_up kn d 0) 512 t)) k))), (0, .ref y), (1, .int (nI f1)), (2, .int w)] := hl
    have hk8 : k ≤ 8 := hk8
    have hm38 : 8 - k < fu38 + 1 := hm38
    have hP : va_P (dC, dI) vwCl ([(y, .inr (12, [.ref as, .ref ai, .ref ar, .ref am, .ref ak, .ref ao, .ref az, .ref ae, .ref aq, .ref af, .int (bI hi), .int th, .int (nI po), .int (nI ba), .int (nI en), .ref an, .ref aw, .ref ax, .ref ap, .int se]))] ++ [(as, .inl (cI, 53, .inl (sF n d t day al nd bb oo K F kn)))] ++ [(am, .inl (cI, 53, .inl (sF n d t day al nd bb oo K F kn)))]) H := hP
    have hD : va_D A ([(y, .inr (12, [.ref as, .ref ai, .ref ar, .ref am, .ref ak, .ref ao, .ref az, .ref ae, .ref aq, .ref af, .int (bI hi), .int th, .int (nI po), .int (nI ba), .int (nI en), .ref an, .ref aw, .ref ax, .ref ap, .int se]))] ++ [(as, .inl (cI, 53, .inl (sF n d t day al nd bb oo K F kn)))] ++ [(am, .inl (cI, 53, .inl (sF n d t day al nd bb oo K F kn)))]) := hD
    refine W.eq (g2 := F0 m 38 ls []) rfl ?_
    have ih38 := ih
    refine lv_iload hx hb dX12_hire_38 (lv_at hl 0 rfl) ?_
    refine lv_bipush (v := nI 8) hx hb dX12_hire_40 (by decide +kernel) ?_
    refine ho_icmp_ge (tgt := 88) hx hb dX12_hire_42 (by decide) (by omega) (by omega) (fun c_42 => ?_) (fun c_42 => ?_)
    · refine lv_iload_n hx hb dX12_hire_88 rfl (lv_at hl 5 rfl) ?_
      refine lv_if_ne (tgt := 96) hx hb dX12_hire_89 (by decide) (fun c_89 => ?_) (fun c_89 => ?_)
      · refine lv_iload hx hb dX12_hire_96 (lv_at hl 1 rfl) ?_
        have hW9 : ([(y, .inr (12, [.ref as, .ref ai, .ref ar, .ref am, .ref ak, .ref ao, .ref az, .ref ae, .ref aq, .ref af, .int (bI hi), .int th, .int (nI po), .int (nI ba), .int (nI en), .ref an, .ref aw, .ref ax, .ref ap, .int se]))] ++ [(as, .inl (cI, 53, .inl (sF n d t day al nd bb oo K F kn)))] ++ [(am, .inl (cI, 53, .inl (sF n d t day al nd bb oo K F kn)))] : va_W) = [(y, .inr (12, [.ref as, .ref ai, .ref ar, .ref am, .ref ak, .ref ao, .ref az, .ref ae, .ref aq, .ref af, .int (bI hi), .int th, .int (nI po), .int (nI ba), .int (nI en), .ref an, .ref aw, .ref ax, .ref ap, .int se]))] ++ [(as, .inl (cI, 53, .inl (sF n d t day al nd bb oo K F kn)))] ++ [(am, .inl (cI, 53, .inl (sF (bif okI (nI f1) 10 && okI w 2 then n else nM) (bif okI (nI f1) 10 && okI w 2 then d else dM) (bif okI (nI f1) 10 && okI w 2 then t else tM) (bif okI (nI f1) 10 && okI w 2 then day else dayM) (bif okI (nI f1) 10 && okI w 2 then al else alM) (bif okI (nI f1) 10 && okI w 2 then nd else ndM) (bif okI (nI f1) 10 && okI w 2 then bb else bbM) (bif okI (nI f1) 10 && okI w 2 then oo else ooM) (bif okI (nI f1) 10 && okI w 2 then K else KM) (bif okI (nI f1) 10 && okI w 2 then F else FM) (bif okI (nI f1) 10 && okI w 2 then kn else knM))))] := by first | (rw [w9f]; rfl) | (rw [w9f, w19]; rfl)
        rw [hW9] at hP hD
        exact W.iret (v := oI (hiV (fun k => pcN (evN n (al ||| 2 ^ d) (d + 1) nd (va_up K d k) (va_up F d f1) (va_up kn d 0) 512 t)) k)) hx hb hr (fun T9 hT9 hW9 => ⟨⟨_, (), rfl, (by rw [w9f, w19, nT_nI (show f1 < 2 ^ 31 by omega), show k = 8 by omega]; first | exact (if_pos c_89).symm | exact (if_neg c_89).symm), by rw [hT9]; exact hP, hD⟩, hS.F hT9⟩) hS.2.2 dX12_hire_98
      refine lv_iload_n hx hb dX12_hire_92 rfl (lv_at hl 2 rfl) ?_
      refine lv_goto (tgt := 98) hx hb dX12_hire_93 (by decide) ?_
      have hW9 : ([(y, .inr (12, [.ref as, .ref ai, .ref ar, .ref am, .ref ak, .ref ao, .ref az, .ref ae, .ref aq, .ref af, .int (bI hi), .int th, .int (nI po), .int (nI ba), .int (nI en), .ref an, .ref aw, .ref ax, .ref ap, .int se]))] ++ [(as, .inl (cI, 53, .inl (sF n d t day al nd bb oo K F kn)))] ++ [(am, .inl (cI, 53, .inl (sF n d t day al nd bb oo K F kn)))] : va_W) = [(y, .inr (12, [.ref as, .ref ai, .ref ar, .ref am, .ref ak, .ref ao, .ref az, .ref ae, .ref aq, .ref af, .int (bI hi), .int th, .int (nI po), .int (nI ba), .int (nI en), .ref an, .ref aw, .ref ax, .ref ap, .int se]))] ++ [(as, .inl (cI, 53, .inl (sF n d t day al nd bb oo K F kn)))] ++ [(am, .inl (cI, 53, .inl (sF (bif okI (nI f1) 10 && okI w 2 then n else nM) (bif okI (nI f1) 10 && okI w 2 then d else dM) (bif okI (nI f1) 10 && okI w 2 then t else tM) (bif okI (nI f1) 10 && okI w 2 then day else dayM) (bif okI (nI f1) 10 && okI w 2 then al else alM) (bif okI (nI f1) 10 && okI w 2 then nd else ndM) (bif okI (nI f1) 10 && okI w 2 then bb else bbM) (bif okI (nI f1) 10 && okI w 2 then oo else ooM) (bif okI (nI f1) 10 && okI w 2 then K else KM) (bif okI (nI f1) 10 && okI w 2 then F else FM) (bif okI (nI f1) 10 && okI w 2 then kn else knM))))] := by first | (rw [w9f]; rfl) | (rw [w9f, w19]; rfl)
      rw [hW9] at hP hD
      exact W.iret (v := oI (hiB (fun k => pcN (evN n (al ||| 2 ^ d) (d + 1) nd (va_up K d k) (va_up F d f1) (va_up kn d 0) 512 t)) k)) hx hb hr (fun T9 hT9 hW9 => ⟨⟨_, (), rfl, (by rw [w9f, w19, nT_nI (show f1 < 2 ^ 31 by omega), show k = 8 by omega]; first | exact (if_pos c_89).symm | exact (if_neg c_89).symm), by rw [hT9]; exact hP, hD⟩, hS.F hT9⟩) hS.2.2 dX12_hire_98
    have hk : k < 8 := by omega
    refine lv_aload_n hx hb dX12_hire_45 rfl (lv_at hl 3 rfl) ?_
    refine lv_iload hx hb dX12_hire_46 (lv_at hl 0 rfl) ?_
    refine lv_iload_n hx hb dX12_hire_48 rfl (lv_at hl 4 rfl) ?_
    have hPc := hP.sub (ws' := [(y, .inr (12, [.ref as, .ref ai, .ref ar, .ref am, .ref ak, .ref ao, .ref az, .ref ae, .ref aq, .ref af, .int (bI hi), .int th, .int (nI po), .int (nI ba), .int (nI en), .ref an, .ref aw, .ref ax, .ref ap, .int se]))] ++ [(as, .inl (cI, 53, .inl (sF n d t day al nd bb oo K F kn)))]) [0, 1] rfl
    have hDc := hD.sub (ws' := [(y, .inr (12, [.ref as, .ref ai, .ref ar, .ref am, .ref ak, .ref ao, .ref az, .ref ae, .ref aq, .ref af, .int (bI hi), .int th, .int (nI po), .int (nI ba), .int (nI en), .ref an, .ref aw, .ref ax, .ref ap, .int se]))] ++ [(as, .inl (cI, 53, .inl (sF n d t day al nd bb oo K F kn)))]) [0, 1] (by decide) rfl
    have hFc := va_free (wc := [(y, .inr (12, [.ref as, .ref ai, .ref ar, .ref am, .ref ak, .ref ao, .ref az, .ref ae, .ref aq, .ref af, .int (bI hi), .int th, .int (nI po), .int (nI ba), .int (nI en), .ref an, .ref aw, .ref ax, .ref ap, .int se]))] ++ [(as, .inl (cI, 53, .inl (sF n d t day al nd bb oo K F kn)))]) hD hS hA [0, 1] rfl
    refine va_callv (va_runV (As := [.int (nI k), .int (nI f1)]) (rest := []) ⟨hx, hb, hml, hown, hts⟩ (c_X12_joins l dC dI cI cD cR y as ai ar am ak ao az ae aq af hi th po ba en an aw ax ap se n d t day al nd bb oo K F kn k f1 H.size (by first | omega | assumption | exact gnd _ | exact gkn _ | exact Nat.lt_trans (gkn _) (by decide) | exact Nat.lt_trans (gnd _) (by decide) | exact Nat.lt_of_le_of_lt (pcN_le _) (by decide)) (by first | omega | assumption | exact gnd _ | exact gkn _ | exact Nat.lt_trans (gkn _) (by decide) | exact Nat.lt_trans (gnd _) (by decide) | exact Nat.lt_of_le_of_lt (pcN_le _) (by decide)) (by first | omega | assumption | exact gnd _ | exact gkn _ | exact Nat.lt_trans (gkn _) (by decide) | exact Nat.lt_trans (gnd _) (by decide) | exact Nat.lt_of_le_of_lt (pcN_le _) (by decide)) (by first | omega | assumption | exact gnd _ | exact gkn _ | exact Nat.lt_trans (gkn _) (by decide) | exact Nat.lt_trans (gnd _) (by decide) | exact Nat.lt_of_le_of_lt (pcN_le _) (by decide)) (by first | omega | assumption | exact gnd _ | exact gkn _ | exact Nat.lt_trans (gkn _) (by decide) | exact Nat.lt_trans (gnd _) (by decide) | exact Nat.lt_of_le_of_lt (pcN_le _) (by decide)) gnd gkn gK gF (by first | omega | assumption | exact gnd _ | exact gkn _ | exact Nat.lt_trans (gkn _) (by decide) | exact Nat.lt_trans (gnd _) (by decide) | exact Nat.lt_of_le_of_lt (pcN_le _) (by decide)) (by first | omega | assumption | exact gnd _ | exact gkn _ | exact Nat.lt_trans (gkn _) (by decide) | exact Nat.lt_trans (gnd _) (by decide) | exact Nat.lt_of_le_of_lt (pcN_le _) (by decide)) (by first | omega | assumption | exact gnd _ | exact gkn _ | exact Nat.lt_trans (gkn _) (by decide) | exact Nat.lt_trans (gnd _) (by decide) | exact Nat.lt_of_le_of_lt (pcN_le _) (by decide))) (cwV 2 hts gX12_hire_X12_joins rfl rfl rfl (by decide +kernel) ⟨Nat.le_of_ble_eq_true rfl, Nat.le_of_ble_eq_true rfl⟩) (preV_R hCX (va_recv hK hP (ci := 12) (q0 := 0) rfl rfl) ⟨rfl, hPc, hDc.weaken (fun _ _ _ _ => trivial)⟩) rfl rfl hl.1 rfl (lv_room (Nat.le_of_ble_eq_true rfl)) dX12_hire_49 ⟨Nat.le_of_ble_eq_true (by first | rfl | decide), Nat.le_of_ble_eq_true (by first | rfl | decide)⟩) hS (fun q _ h => hFc q h) hFc (fun u T8 H1 locs hT8 hvm hw hB hz1 hk1 hS => ?_)
    obtain ⟨hP1, hD1⟩ := hB
    rw [hT8] at hP1
    obtain ⟨hP, hD⟩ := va_join (wr := [(am, .inl (cI, 53, .inl (sF n d t day al nd bb oo K F kn)))]) (w1 := [(y, .inr (12, [.ref as, .ref ai, .ref ar, .ref am, .ref ak, .ref ao, .ref az, .ref ae, .ref aq, .ref af, .int (bI hi), .int th, .int (nI po), .int (nI ba), .int (nI en), .ref an, .ref aw, .ref ax, .ref ap, .int se]))] ++ [(as, .inl (cI, 53, .inl (sF n (d + 1) t day (al ||| 2 ^ d) nd bb oo (va_up K d k) (va_up F d f1) (va_up kn d 0))))]) hP hD [0, 1] [2] rfl rfl (by decide) (by decide) hk1 hFc hP1 hD1
    generalize H1 = H at hP hS ⊢
    have hP := hP.sub (ws' := [(y, .inr (12, [.ref as, .ref ai, .ref ar, .ref am, .ref ak, .ref ao, .ref az, .ref ae, .ref aq, .ref af, .int (bI hi), .int th, .int (nI po), .int (nI ba), .int (nI en), .ref an, .ref aw, .ref ax, .ref ap, .int se]))] ++ [(as, .inl (cI, 53, .inl (sF n (d + 1) t day (al ||| 2 ^ d) nd bb oo (va_up K d k) (va_up F d f1) (va_up kn d 0))))] ++ [(am, .inl (cI, 53, .inl (sF n d t day al nd bb oo K F kn)))]) [1, 2, 0] rfl
    have hD := hD.sub (ws' := [(y, .inr (12, [.ref as, .ref ai, .ref ar, .ref am, .ref ak, .ref ao, .ref az, .ref ae, .ref aq, .ref af, .int (bI hi), .int th, .int (nI po), .int (nI ba), .int (nI en), .ref an, .ref aw, .ref ax, .ref ap, .int se]))] ++ [(as, .inl (cI, 53, .inl (sF n (d + 1) t day (al ||| 2 ^ d) nd bb oo (va_up K d k) (va_up F d f1) (va_up kn d 0))))] ++ [(am, .inl (cI, 53, .inl (sF n d t day al nd bb oo K F kn)))]) [1, 2, 0] (by decide) rfl
    refine lv_aload_n hx hb dX12_hire_52 rfl (lv_at hl 3 rfl) ?_
    have hPc := hP.sub (ws' := [(y, .inr (12, [.ref as, .ref ai, .ref ar, .ref am, .ref ak, .ref ao, .ref az, .ref ae, .ref aq, .ref af, .int (bI hi), .int th, .int (nI po), .int (nI ba), .int (nI en), .ref an, .ref aw, .ref ax, .ref ap, .int se]))] ++ [(as, .inl (cI, 53, .inl (sF n (d + 1) t day (al ||| 2 ^ d) nd bb oo (va_up K d k) (va_up F d f1) (va_up kn d 0))))]) [0, 1] rfl
    have hDc := hD.sub (ws' := [(y, .inr (12, [.ref as, .ref ai, .ref ar, .ref am, .ref ak, .ref ao, .ref az, .ref ae, .ref aq, .ref af, .int (bI hi), .int th, .int (nI po), .int (nI ba), .int (nI en), .ref an, .ref aw, .ref ax, .ref ap, .int se]))] ++ [(as, .inl (cI, 53, .inl (sF n (d + 1) t day (al ||| 2 ^ d) nd bb oo (va_up K d k) (va_up F d f1) (va_up kn d 0))))]) [0, 1] (by decide) rfl
    have hFc := va_free (wc := [(y, .inr (12, [.ref as, .ref ai, .ref ar, .ref am, .ref ak, .ref ao, .ref az, .ref ae, .ref aq, .ref af, .int (bI hi), .int th, .int (nI po), .int (nI ba), .int (nI en), .ref an, .ref aw, .ref ax, .ref ap, .int se]))] ++ [(as, .inl (cI, 53, .inl (sF n (d + 1) t day (al ||| 2 ^ d) nd bb oo (va_up K d k) (va_up F d f1) (va_up kn d 0))))]) hD hS hA [0, 1] rfl
    refine va_calli (va_runV (As := []) (rest := []) ⟨hx, hb, hml, hown, hts⟩ (c_X12_everNow l dC dI cI cD cR y as ai ar am ak ao az ae aq af hi th po ba en an aw ax ap se n (d + 1) t day (al ||| 2 ^ d) nd bb oo (va_up K d k) (va_up F d f1) (va_up kn d 0) H.size (by first | omega | assumption | exact gnd _ | exact gkn _ | exact Nat.lt_trans (gkn _) (by decide) | exact Nat.lt_trans (gnd _) (by decide) | exact Nat.lt_of_le_of_lt (pcN_le _) (by decide)) (by omega) (by first | omega | assumption | exact gnd _ | exact gkn _ | exact Nat.lt_trans (gkn _) (by decide) | exact Nat.lt_trans (gnd _) (by decide) | exact Nat.lt_of_le_of_lt (pcN_le _) (by decide)) (or_128 hal (bit_128 (by omega))) (by first | omega | assumption | exact gnd _ | exact gkn _ | exact Nat.lt_trans (gkn _) (by decide) | exact Nat.lt_trans (gnd _) (by decide) | exact Nat.lt_of_le_of_lt (pcN_le _) (by decide)) gnd (up_8 gkn (by decide)) (up_8 gK hk) (up_8 gF hf1)) (cwV 0 hts gX12_hire_X12_everNow rfl rfl rfl (by decide +kernel) ⟨Nat.le_of_ble_eq_true rfl, Nat.le_of_ble_eq_true rfl⟩) (preV_R hCX (va_recv hK hP (ci := 12) (q0 := 0) rfl rfl) ⟨rfl, hPc, hDc.weaken (fun _ _ _ _ => trivial)⟩) rfl rfl hl.1 rfl (lv_room (Nat.le_of_ble_eq_true rfl)) dX12_hire_53 ⟨Nat.le_of_ble_eq_true (by first | rfl | decide), Nat.le_of_ble_eq_true (by first | rfl | decide)⟩) hS (fun q _ h => hFc q h) hFc (fun r_53 u T8 H1 locs hT8 hvm hw hB hz1 hk1 hS => ?_)
    obtain ⟨hP1, hD1⟩ := hB
    rw [hT8] at hP1
    obtain ⟨hP, hD⟩ := va_join (wr := [(am, .inl (cI, 53, .inl (sF n d t day al nd bb oo K F kn)))]) (w1 := [(y, .inr (12, [.ref as, .ref ai, .ref ar, .ref am, .ref ak, .ref ao, .ref az, .ref ae, .ref aq, .ref af, .int (bI hi), .int th, .int (nI po), .int (nI ba), .int (nI en), .ref an, .ref aw, .ref ax, .ref ap, .int se]))] ++ [(as, .inl (cI, 53, .inl (sF n (d + 1) t day (al ||| 2 ^ d) nd bb oo (va_up K d k) (va_up F d f1) (va_up kn d 0))))]) hP hD [0, 1] [2] rfl rfl (by decide) (by decide) hk1 hFc hP1 hD1
    generalize H1 = H at hP hS ⊢
    have hP := hP.sub (ws' := [(y, .inr (12, [.ref as, .ref ai, .ref ar, .ref am, .ref ak, .ref ao, .ref az, .ref ae, .ref aq, .ref af, .int (bI hi), .int th, .int (nI po), .int (nI ba), .int (nI en), .ref an, .ref aw, .ref ax, .ref ap, .int se]))] ++ [(as, .inl (cI, 53, .inl (sF n (d + 1) t day (al ||| 2 ^ d) nd bb oo (va_up K d k) (va_up F d f1) (va_up kn d 0))))] ++ [(am, .inl (cI, 53, .inl (sF n d t day al nd bb oo K F kn)))]) [1, 2, 0] rfl
    have hD := hD.sub (ws' := [(y, .inr (12, [.ref as, .ref ai, .ref ar, .ref am, .ref ak, .ref ao, .ref az, .ref ae, .ref aq, .ref af, .int (bI hi), .int th, .int (nI po), .int (nI ba), .int (nI en), .ref an, .ref aw, .ref ax, .ref ap, .int se]))] ++ [(as, .inl (cI, 53, .inl (sF n (d + 1) t day (al ||| 2 ^ d) nd bb oo (va_up K d k) (va_up F d f1) (va_up kn d 0))))] ++ [(am, .inl (cI, 53, .inl (sF n d t day al nd bb oo K F kn)))]) [1, 2, 0] (by decide) rfl
    subst hw
    refine vp_callSi ((va_runS (As := [.int (nI (evN n (al ||| 2 ^ d) (d + 1) nd (va_up K d k) (va_up F d f1) (va_up kn d 0) 512 t))]) (rest := []) ⟨hx, hb, hml, hown, hts⟩ (c_X12_bits l dC dI cI cD cR (evN n (al ||| 2 ^ d) (d + 1) nd (va_up K d k) (va_up F d f1) (va_up kn d 0) 512 t) (Nat.lt_trans (evN_lt hn 512 t ht) (by decide))) (va_cwS 1 hts gX12_hire_X12_bits rfl rfl rfl (by decide +kernel) ⟨Nat.le_of_ble_eq_true rfl, Nat.le_of_ble_eq_true rfl⟩) (preS_R hCX (trivial)) rfl rfl hl.1 rfl (lv_room (Nat.le_of_ble_eq_true rfl)) dX12_hire_56 ⟨Nat.le_of_ble_eq_true (by first | rfl | decide), Nat.le_of_ble_eq_true (by first | rfl | decide)⟩).run) (fun r_56 hr_56 => ?_)
    subst hr_56
    refine lv_istore (lv' := [(6, .int (nI (pcN (evN n (al ||| 2 ^ d) (d + 1) nd (va_up K d k) (va_up F d f1) (va_up kn d 0) 512 t)))), (5, .int (nI k)), (4, .int (oI (hiV (fun k => pcN (evN n (al ||| 2 ^ d) (d + 1) nd (va_up K d k) (va_up F d f1) (va_up kn d 0) 512 t)) k))), (3, .int (oI (hiB (fun k => pcN (evN n (al ||| 2 ^ d) (d + 1) nd (va_up K d k) (va_up F d f1) (va_up kn d 0) 512 t)) k))), (0, .ref y), (1, .int (nI f1)), (2, .int w)]) hx hb dX12_hire_59 hl (by decide) rfl (fun ls hl => ?_)
    refine lv_aload_n hx hb dX12_hire_61 rfl (lv_at hl 4 rfl) ?_
    have hPc := hP
    have hDc := hD
    have hFc := va_free (wc := [(y, .inr (12, [.ref as, .ref ai, .ref ar, .ref am, .ref ak, .ref ao, .ref az, .ref ae, .ref aq, .ref af, .int (bI hi), .int th, .int (nI po), .int (nI ba), .int (nI en), .ref an, .ref aw, .ref ax, .ref ap, .int se]))] ++ [(as, .inl (cI, 53, .inl (sF n (d + 1) t day (al ||| 2 ^ d) nd bb oo (va_up K d k) (va_up F d f1) (va_up kn d 0))))] ++ [(am, .inl (cI, 53, .inl (sF n d t day al nd bb oo K F kn)))]) hD hS hA [0, 1, 2] rfl
    refine va_callv (va_runV (As := []) (rest := []) ⟨hx, hb, hml, hown, hts⟩ (c_X12_ends l dC dI cI cD cR y as ai ar am ak ao az ae aq af hi th po ba en an aw ax ap se n (d + 1) t day (al ||| 2 ^ d) nd bb oo (va_up K d k) (va_up F d f1) (va_up kn d 0) n d t day al nd bb oo K F kn H.size) (cwV 0 hts gX12_hire_X12_ends rfl rfl rfl (by decide +kernel) ⟨Nat.le_of_ble_eq_true rfl, Nat.le_of_ble_eq_true rfl⟩) (preV_R hCX (va_recv hK hP (ci := 12) (q0 := 0) rfl rfl) ⟨rfl, hPc, hDc.weaken (fun _ _ _ _ => trivial)⟩) rfl rfl hl.1 rfl (lv_room (Nat.le_of_ble_eq_true rfl)) dX12_hire_62 ⟨Nat.le_of_ble_eq_true (by first | rfl | decide), Nat.le_of_ble_eq_true (by first | rfl | decide)⟩) hS (fun q _ h => hFc q h) hFc (fun u T8 H1 locs hT8 hvm hw hB hz1 hk1 hS => ?_)
    obtain ⟨hP1, hD1⟩ := hB
    rw [hT8] at hP1
    obtain ⟨hP, hD⟩ := va_join (wr := []) (w1 := [(y, .inr (12, [.ref as, .ref ai, .ref ar, .ref am, .ref ak, .ref ao, .ref az, .ref ae, .ref aq, .ref af, .int (bI hi), .int th, .int (nI po), .int (nI ba), .int (nI en), .ref an, .ref aw, .ref ax, .ref ap, .int se]))] ++ [(as, .inl (cI, 53, .inl (sF n d t day al nd bb oo K F kn)))] ++ [(am, .inl (cI, 53, .inl (sF n d t day al nd bb oo K F kn)))]) hP hD [0, 1, 2] [] rfl rfl (by decide) (by decide) hk1 hFc hP1 hD1
    generalize H1 = H at hP hS ⊢
    have hP : va_P (dC, dI) vwCl ([(y, .inr (12, [.ref as, .ref ai, .ref ar, .ref am, .ref ak, .ref ao, .ref az, .ref ae, .ref aq, .ref af, .int (bI hi), .int th, .int (nI po), .int (nI ba), .int (nI en), .ref an, .ref aw, .ref ax, .ref ap, .int se]))] ++ [(as, .inl (cI, 53, .inl (sF n d t day al nd bb oo K F kn)))] ++ [(am, .inl (cI, 53, .inl (sF n d t day al nd bb oo K F kn)))]) H := hP
    have hD : va_D A ([(y, .inr (12, [.ref as, .ref ai, .ref ar, .ref am, .ref ak, .ref ao, .ref az, .ref ae, .ref aq, .ref af, .int (bI hi), .int th, .int (nI po), .int (nI ba), .int (nI en), .ref an, .ref aw, .ref ax, .ref ap, .int se]))] ++ [(as, .inl (cI, 53, .inl (sF n d t day al nd bb oo K F kn)))] ++ [(am, .inl (cI, 53, .inl (sF n d t day al nd bb oo K F kn)))]) := hD
    refine lv_iload hx hb dX12_hire_65 (lv_at hl 0 rfl) ?_
    obtain ⟨q_67, hq_67⟩ : ∃ y, y = hiV (fun k => pcN (evN n (al ||| 2 ^ d) (d + 1) nd (va_up K d k) (va_up F d f1) (va_up kn d 0) 512 t)) k := ⟨_, rfl⟩
    rw [← hq_67] at hl
    cases q_67 with
    | none =>
      have hl : lv_has ls 7 [(6, .int (nI (pcN (evN n (al ||| 2 ^ d) (d + 1) nd (va_up K d k) (va_up F d f1) (va_up kn d 0) 512 t)))), (5, .int (nI k)), (4, .int (-4)), (3, .int (oI (hiB (fun k => pcN (evN n (al ||| 2 ^ d) (d + 1) nd (va_up K d k) (va_up F d f1) (va_up kn d 0) 512 t)) k))), (0, .ref y), (1, .int (nI f1)), (2, .int w)] := hl
      have hq_67 := hq_67.symm
      refine lv_iload hx hb dX12_hire_67 (lv_at hl 2 rfl) ?_
      refine lv_icmp_gt (tgt := 75) hx hb dX12_hire_69 (by decide) (fun _ => ?_) (fun z => absurd (ng_lt (by omega) (by decide +kernel)) z)
      refine lv_iload hx hb dX12_hire_75 (lv_at hl 1 rfl) ?_
      refine lv_istore_n (lv' := [(3, .int (nI k)), (6, .int (nI (pcN (evN n (al ||| 2 ^ d) (d + 1) nd (va_up K d k) (va_up F d f1) (va_up kn d 0) 512 t)))), (5, .int (nI k)), (4, .int (-4)), (0, .ref y), (1, .int (nI f1)), (2, .int w)]) hx hb dX12_hire_77 rfl hl (by decide) rfl (fun ls hl => ?_)
      refine lv_iload hx hb dX12_hire_78 (lv_at hl 1 rfl) ?_
      refine lv_istore (lv' := [(4, .int (nI (pcN (evN n (al ||| 2 ^ d) (d + 1) nd (va_up K d k) (va_up F d f1) (va_up kn d 0) 512 t)))), (3, .int (nI k)), (6, .int (nI (pcN (evN n (al ||| 2 ^ d) (d + 1) nd (va_up K d k) (va_up F d f1) (va_up kn d 0) 512 t)))), (5, .int (nI k)), (0, .ref y), (1, .int (nI f1)), (2, .int w)]) hx hb dX12_hire_80 hl (by decide) rfl (fun ls hl => ?_)
      refine ho_iinc (lv' := [(5, .int (nI (k + 1))), (4, .int (nI (pcN (evN n (al ||| 2 ^ d) (d + 1) nd (va_up K d k) (va_up F d f1) (va_up kn d 0) 512 t)))), (3, .int (nI k)), (6, .int (nI (pcN (evN n (al ||| 2 ^ d) (d + 1) nd (va_up K d k) (va_up F d f1) (va_up kn d 0) 512 t)))), (0, .ref y), (1, .int (nI f1)), (2, .int w)]) (a := k) (b := 1) hx hb dX12_hire_82 hl (k := 3) rfl rfl (by decide) rfl (fun ls hl => ?_)
      refine lv_goto (tgt := 38) hx hb dX12_hire_85 (by decide) ?_
      have e9_3 : (nI k : Int32) = oI (hiB (fun (k + 1) => pcN (evN n (al ||| 2 ^ d) (d + 1) nd (va_up K d (k + 1)) (va_up F d f1) (va_up kn d 0) 512 t)) (k + 1)) := by first | exact congrArg oI (hiB_0 hq_67) | exact congrArg oI (hiB_t hq_67 c_69) | exact congrArg oI (hiB_f hq_67 c_69)
      rw [e9_3] at hl
      have e9_4 : (nI (pcN (evN n (al ||| 2 ^ d) (d + 1) nd (va_up K d k) (va_up F d f1) (va_up kn d 0) 512 t)) : Int32) = oI (hiV (fun (k + 1) => pcN (evN n (al ||| 2 ^ d) (d + 1) nd (va_up K d (k + 1)) (va_up F d f1) (va_up kn d 0) 512 t)) (k + 1)) := by first | exact congrArg oI (hiV_0 hq_67) | exact congrArg oI (hiV_t hq_67 c_69) | exact congrArg oI (hiV_f hq_67 c_69)
      rw [e9_4] at hl
      exact ih38 (k + 1) _ _ _ (by omega) (show 8 - (k + 1) < fu38 from (by omega)) hP hD hS (lv_sub hl [0, 1, 2, 4, 5, 6] rfl)
    | some vq_67 =>
      have hl : lv_has ls 7 [(6, .int (nI (pcN (evN n (al ||| 2 ^ d) (d + 1) nd (va_up K d k) (va_up F d f1) (va_up kn d 0) 512 t)))), (5, .int (nI k)), (4, .int (nI vq_67)), (3, .int (oI (hiB (fun k => pcN (evN n (al ||| 2 ^ d) (d + 1) nd (va_up K d k) (va_up F d f1) (va_up kn d 0) 512 t)) k))), (0, .ref y), (1, .int (nI f1)), (2, .int w)] := hl
      have hq_67 := hq_67.symm
      have hv67 := hiV_le (E := (fun k => pcN (evN n (al ||| 2 ^ d) (d + 1) nd (va_up K d k) (va_up F d f1) (va_up kn d 0) 512 t))) (fun k9 => pcN_le _) k _ hq_67
      refine lv_iload hx hb dX12_hire_67 (lv_at hl 2 rfl) ?_
      refine ho_icmp_gt (tgt := 75) hx hb dX12_hire_69 (by decide) (by have := pcN_le (evN n (al ||| 2 ^ d) (d + 1) nd (va_up K d k) (va_up F d f1) (va_up kn d 0) 512 t); omega) (by omega) (fun c_69 => ?_) (fun c_69 => ?_)
      · refine lv_iload hx hb dX12_hire_75 (lv_at hl 1 rfl) ?_
        refine lv_istore_n (lv' := [(3, .int (nI k)), (6, .int (nI (pcN (evN n (al ||| 2 ^ d) (d + 1) nd (va_up K d k) (va_up F d f1) (va_up kn d 0) 512 t)))), (5, .int (nI k)), (4, .int (nI vq_67)), (0, .ref y), (1, .int (nI f1)), (2, .int w)]) hx hb dX12_hire_77 rfl hl (by decide) rfl (fun ls hl => ?_)
        refine lv_iload hx hb dX12_hire_78 (lv_at hl 1 rfl) ?_
        refine lv_istore (lv' := [(4, .int (nI (pcN (evN n (al ||| 2 ^ d) (d + 1) nd (va_up K d k) (va_up F d f1) (va_up kn d 0) 512 t)))), (3, .int (nI k)), (6, .int (nI (pcN (evN n (al ||| 2 ^ d) (d + 1) nd (va_up K d k) (va_up F d f1) (va_up kn d 0) 512 t)))), (5, .int (nI k)), (0, .ref y), (1, .int (nI f1)), (2, .int w)]) hx hb dX12_hire_80 hl (by decide) rfl (fun ls hl => ?_)
        refine ho_iinc (lv' := [(5, .int (nI (k + 1))), (4, .int (nI (pcN (evN n (al ||| 2 ^ d) (d + 1) nd (va_up K d k) (va_up F d f1) (va_up kn d 0) 512 t)))), (3, .int (nI k)), (6, .int (nI (pcN (evN n (al ||| 2 ^ d) (d + 1) nd (va_up K d k) (va_up F d f1) (va_up kn d 0) 512 t)))), (0, .ref y), (1, .int (nI f1)), (2, .int w)]) (a := k) (b := 1) hx hb dX12_hire_82 hl (k := 3) rfl rfl (by decide) rfl (fun ls hl => ?_)
        refine lv_goto (tgt := 38) hx hb dX12_hire_85 (by decide) ?_
        have e9_3 : (nI k : Int32) = oI (hiB (fun (k + 1) => pcN (evN n (al ||| 2 ^ d) (d + 1) nd (va_up K d (k + 1)) (va_up F d f1) (va_up kn d 0) 512 t)) (k + 1)) := by first | exact congrArg oI (hiB_0 hq_67) | exact congrArg oI (hiB_t hq_67 c_69) | exact congrArg oI (hiB_f hq_67 c_69)
        rw [e9_3] at hl
        have e9_4 : (nI (pcN (evN n (al ||| 2 ^ d) (d + 1) nd (va_up K d k) (va_up F d f1) (va_up kn d 0) 512 t)) : Int32) = oI (hiV (fun (k + 1) => pcN (evN n (al ||| 2 ^ d) (d + 1) nd (va_up K d (k + 1)) (va_up F d f1) (va_up kn d 0) 512 t)) (k + 1)) := by first | exact congrArg oI (hiV_0 hq_67) | exact congrArg oI (hiV_t hq_67 c_69) | exact congrArg oI (hiV_f hq_67 c_69)
        rw [e9_4] at hl
        exact ih38 (k + 1) _ _ _ (by omega) (show 8 - (k + 1) < fu38 from (by omega)) hP hD hS (lv_sub hl [0, 1, 2, 4, 5, 6] rfl)
      refine lv_goto (tgt := 82) hx hb dX12_hire_72 (by decide) ?_
      refine ho_iinc (lv' := [(5, .int (nI (k + 1))), (6, .int (nI (pcN (evN n (al ||| 2 ^ d) (d + 1) nd (va_up K d k) (va_up F d f1) (va_up kn d 0) 512 t)))), (4, .int (nI vq_67)), (3, .int (oI (hiB (fun k => pcN (evN n (al ||| 2 ^ d) (d + 1) nd (va_up K d k) (va_up F d f1) (va_up kn d 0) 512 t)) k))), (0, .ref y), (1, .int (nI f1)), (2, .int w)]) (a := k) (b := 1) hx hb dX12_hire_82 hl (k := 1) rfl rfl (by decide) rfl (fun ls hl => ?_)
      refine lv_goto (tgt := 38) hx hb dX12_hire_85 (by decide) ?_
      have e9_3 : (oI (hiB (fun k => pcN (evN n (al ||| 2 ^ d) (d + 1) nd (va_up K d k) (va_up F d f1) (va_up kn d 0) 512 t)) k) : Int32) = oI (hiB (fun (k + 1) => pcN (evN n (al ||| 2 ^ d) (d + 1) nd (va_up K d (k + 1)) (va_up F d f1) (va_up kn d 0) 512 t)) (k + 1)) := by first | exact congrArg oI (hiB_0 hq_67) | exact congrArg oI (hiB_t hq_67 c_69) | exact congrArg oI (hiB_f hq_67 c_69)
      rw [e9_3] at hl
      have e9_4 : (nI vq_67 : Int32) = oI (hiV (fun (k + 1) => pcN (evN n (al ||| 2 ^ d) (d + 1) nd (va_up K d (k + 1)) (va_up F d f1) (va_up kn d 0) 512 t)) (k + 1)) := by first | exact congrArg oI (hiV_0 hq_67) | exact congrArg oI (hiV_t hq_67 c_69) | exact congrArg oI (hiV_f hq_67 c_69)
      rw [e9_4] at hl
      exact ih38 (k + 1) _ _ _ (by omega) (show 8 - (k + 1) < fu38 from (by omega)) hP hD hS (lv_sub hl [0, 2, 3, 4, 5, 6] rfl)
  have w19 : okI w 2 = false := (inB_k w (k := 1) (by decide)).symm.trans c_19
  refine lv_iconst (v := (-1)) hx hb dX12_hire_22 (by decide +kernel) ?_
  have hW9 : ([(y, .inr (12, [.ref as, .ref ai, .ref ar, .ref am, .ref ak, .ref ao, .ref az, .ref ae, .ref aq, .ref af, .int (bI hi), .int th, .int (nI po), .int (nI ba), .int (nI en), .ref an, .ref aw, .ref ax, .ref ap, .int se]))] ++ [(as, .inl (cI, 53, .inl (sF n d t day al nd bb oo K F kn)))] ++ [(am, .inl (cI, 53, .inl (sF nM dM tM dayM alM ndM bbM ooM KM FM knM)))] : va_W) = [(y, .inr (12, [.ref as, .ref ai, .ref ar, .ref am, .ref ak, .ref ao, .ref az, .ref ae, .ref aq, .ref af, .int (bI hi), .int th, .int (nI po), .int (nI ba), .int (nI en), .ref an, .ref aw, .ref ax, .ref ap, .int se]))] ++ [(as, .inl (cI, 53, .inl (sF n d t day al nd bb oo K F kn)))] ++ [(am, .inl (cI, 53, .inl (sF (bif okI f9 10 && okI w 2 then n else nM) (bif okI f9 10 && okI w 2 then d else dM) (bif okI f9 10 && okI w 2 then t else tM) (bif okI f9 10 && okI w 2 then day else dayM) (bif okI f9 10 && okI w 2 then al else alM) (bif okI f9 10 && okI w 2 then nd else ndM) (bif okI f9 10 && okI w 2 then bb else bbM) (bif okI f9 10 && okI w 2 then oo else ooM) (bif okI f9 10 && okI w 2 then K else KM) (bif okI f9 10 && okI w 2 then F else FM) (bif okI f9 10 && okI w 2 then kn else knM))))] := by first | (rw [w9f]; rfl) | (rw [w9f, w19]; rfl)
  rw [hW9] at hP hD
  exact W.iret (v := (-1)) hx hb hr (fun T9 hT9 hW9 => ⟨⟨_, (), rfl, (by first | (rw [w9f]; rfl) | (rw [w9f, w19]; rfl)), by rw [hT9]; exact hP, hD⟩, hS.F hT9⟩) hS.2.2 dX12_hire_23
