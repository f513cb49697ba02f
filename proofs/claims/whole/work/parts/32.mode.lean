set_option maxHeartbeats 4000000 in
set_option maxRecDepth 100000 in
theorem c_X12_stepsOf (l : Launch) (dC : Nat → ClassId) (dI : Nat → Nat → Nat) (cI cD cR : ClassId) (y as ai ar am ak ao az ae aq af : Nat) (hi : Bool) (th : Int32) (po ba en an aw ax ap : Nat) (se : Int32) (n d t day al : Nat) (nd : Nat → Nat) (bb oo : Nat → Int32) (K F kn : Nat → Nat) (j i : Nat) (hn : n ≤ 9) (hd : d ≤ 7) (ht : t < 512) (hal : al < 128) (hday : day < 2 ^ 30) (gnd : ∀ i, nd i < 512) (gkn : ∀ j, kn j < 512) (gK : ∀ j, K j < 8) (gF : ∀ j, F j < 10) (hj9 : j < 7) (hi9 : i < 9) : Met l yX12_stepsOf wsX12_stepsOf ({ frames := 1, cells := 0, slots := 0, locals := 22 }) (pcR dC dI cI cD cR [.ref y, .int (nI j), .int (nI i)] (fun H => va_P (dC, dI) vwCl ([(y, .inr (12, [.ref as, .ref ai, .ref ar, .ref am, .ref ak, .ref ao, .ref az, .ref ae, .ref aq, .ref af, .int (bI hi), .int th, .int (nI po), .int (nI ba), .int (nI en), .ref an, .ref aw, .ref ax, .ref ap, .int se]))] ++ [(as, .inl (cI, 53, .inl (sF n d t day al nd bb oo K F kn)))]) H)) (vp_Si (fun r => r = nI (efN (K j) (F j) (pcN (nd i))))) 0 0 (fun _ => False) := by
  refine Met.ofW (cc := cX12_stepsOf) (maxL := 5) (ret := (some .int)) (by decide) rfl ?_
  intro p e s m args below meth c s₁ B hml hv
  obtain ⟨rfl, hH0, hCX⟩ := hv
  have hx := B.exec
  have hb := B.bytes
  have hr := B.returns
  have hts := atoms_spec (ws := wsX12_stepsOf) B.pre
  have hown : s.vm.findClass RX12 = some m.cls := findClass_of_methodNamed B.named
  have hlocks := B.notSynchronized
  have hK := hCX.1
  have hP := hH0
  have hl := lv_entry ([.ref y, .int (nI j), .int (nI i)]) (n := 5) (Nat.le_of_ble_eq_true rfl)
  rw [lg_entry_eq]
  generalize (lg_sl ([.ref y, .int (nI j), .int (nI i)]) ++ List.replicate (5 - (lg_sl ([.ref y, .int (nI j), .int (nI i)])).length) Slot.unset).toArray = ls at hl ⊢
  have hl : lv_has ls 5 [(0, .ref y), (1, .int (nI j)), (2, .int (nI i))] := hl
  refine lv_aload_n hx hb dX12_stepsOf_0 rfl (lv_at hl 0 rfl) ?_
  refine lv_iload_n hx hb dX12_stepsOf_1 rfl (lv_at hl 2 rfl) ?_
  refine lv_iconst (v := nI 0) hx hb dX12_stepsOf_2 (by decide +kernel) ?_
  refine vp_callSi ((va_runV (As := [.int (nI i), .int (nI 0)]) (rest := []) ⟨hx, hb, hml, hown, hts⟩ (c_X12_of_0 l dC dI cI cD cR y as ai ar am ak ao az ae aq af hi th po ba en an aw ax ap se n d t day al nd bb oo K F kn i (by first | omega | assumption | exact gnd _ | exact gkn _ | exact Nat.lt_trans (gkn _) (by decide) | exact Nat.lt_trans (gnd _) (by decide) | exact Nat.lt_of_le_of_lt (pcN_le _) (by decide)) (by first | omega | assumption | exact gnd _ | exact gkn _ | exact Nat.lt_trans (gkn _) (by decide) | exact Nat.lt_trans (gnd _) (by decide) | exact Nat.lt_of_le_of_lt (pcN_le _) (by decide)) (by first | omega | assumption | exact gnd _ | exact gkn _ | exact Nat.lt_trans (gkn _) (by decide) | exact Nat.lt_trans (gnd _) (by decide) | exact Nat.lt_of_le_of_lt (pcN_le _) (by decide)) (by first | omega | assumption | exact gnd _ | exact gkn _ | exact Nat.lt_trans (gkn _) (by decide) | exact Nat.lt_trans (gnd _) (by decide) | exact Nat.lt_of_le_of_lt (pcN_le _) (by decide)) (by first | omega | assumption | exact gnd _ | exact gkn _ | exact Nat.lt_trans (gkn _) (by decide) | exact Nat.lt_trans (gnd _) (by decide) | exact Nat.lt_of_le_of_lt (pcN_le _) (by decide)) gnd gkn gK gF (by first | omega | assumption | exact gnd _ | exact gkn _ | exact Nat.lt_trans (gkn _) (by decide) | exact Nat.lt_trans (gnd _) (by decide) | exact Nat.lt_of_le_of_lt (pcN_le _) (by decide))) (cwV 2 hts gX12_stepsOf_X12_of rfl rfl rfl (by decide +kernel) ⟨Nat.le_of_ble_eq_true rfl, Nat.le_of_ble_eq_true rfl⟩) (preV_R hCX (va_recv hK hP (ci := 12) (q0 := 0) rfl rfl) (hP)) rfl rfl hl.1 rfl (lv_room (Nat.le_of_ble_eq_true rfl)) dX12_stepsOf_3 ⟨Nat.le_of_ble_eq_true (by first | rfl | decide), Nat.le_of_ble_eq_true (by first | rfl | decide)⟩).run) (fun r_3 hr_3 => ?_)
  subst hr_3
  refine vp_callSi ((va_runS (As := [.int (nI (nd i))]) (rest := []) ⟨hx, hb, hml, hown, hts⟩ (c_X12_bits l dC dI cI cD cR (nd i) (Nat.lt_trans (gnd i) (by decide))) (va_cwS 1 hts gX12_stepsOf_X12_bits rfl rfl rfl (by decide +kernel) ⟨Nat.le_of_ble_eq_true rfl, Nat.le_of_ble_eq_true rfl⟩) (preS_R hCX (trivial)) rfl rfl hl.1 rfl (lv_room (Nat.le_of_ble_eq_true rfl)) dX12_stepsOf_6 ⟨Nat.le_of_ble_eq_true (by first | rfl | decide), Nat.le_of_ble_eq_true (by first | rfl | decide)⟩).run) (fun r_6 hr_6 => ?_)
  subst hr_6
  have hp9 := pcN_le (nd i)
  refine lv_istore_n (lv' := [(3, .int (nI (pcN (nd i)))), (0, .ref y), (1, .int (nI j)), (2, .int (nI i))]) hx hb dX12_stepsOf_9 rfl hl (by decide) rfl (fun ls hl => ?_)
  refine lv_aload_n hx hb dX12_stepsOf_10 rfl (lv_at hl 1 rfl) ?_
  refine lv_iload_n hx hb dX12_stepsOf_11 rfl (lv_at hl 2 rfl) ?_
  refine lv_iconst (v := nI 1) hx hb dX12_stepsOf_12 (by decide +kernel) ?_
  refine vp_callSi ((va_runV (As := [.int (nI j), .int (nI 1)]) (rest := []) ⟨hx, hb, hml, hown, hts⟩ (c_X12_get_1 l dC dI cI cD cR y as ai ar am ak ao az ae aq af hi th po ba en an aw ax ap se n d t day al nd bb oo K F kn j (by first | omega | assumption | exact gnd _ | exact gkn _ | exact Nat.lt_trans (gkn _) (by decide) | exact Nat.lt_trans (gnd _) (by decide) | exact Nat.lt_of_le_of_lt (pcN_le _) (by decide)) (by first | omega | assumption | exact gnd _ | exact gkn _ | exact Nat.lt_trans (gkn _) (by decide) | exact Nat.lt_trans (gnd _) (by decide) | exact Nat.lt_of_le_of_lt (pcN_le _) (by decide)) (by first | omega | assumption | exact gnd _ | exact gkn _ | exact Nat.lt_trans (gkn _) (by decide) | exact Nat.lt_trans (gnd _) (by decide) | exact Nat.lt_of_le_of_lt (pcN_le _) (by decide)) (by first | omega | assumption | exact gnd _ | exact gkn _ | exact Nat.lt_trans (gkn _) (by decide) | exact Nat.lt_trans (gnd _) (by decide) | exact Nat.lt_of_le_of_lt (pcN_le _) (by decide)) (by first | omega | assumption | exact gnd _ | exact gkn _ | exact Nat.lt_trans (gkn _) (by decide) | exact Nat.lt_trans (gnd _) (by decide) | exact Nat.lt_of_le_of_lt (pcN_le _) (by decide)) gnd gkn gK gF (by first | omega | assumption | exact gnd _ | exact gkn _ | exact Nat.lt_trans (gkn _) (by decide) | exact Nat.lt_trans (gnd _) (by decide) | exact Nat.lt_of_le_of_lt (pcN_le _) (by decide))) (cwV 2 hts gX12_stepsOf_X12_get rfl rfl rfl (by decide +kernel) ⟨Nat.le_of_ble_eq_true rfl, Nat.le_of_ble_eq_true rfl⟩) (preV_R hCX (va_recv hK hP (ci := 12) (q0 := 0) rfl rfl) (hP)) rfl rfl hl.1 rfl (lv_room (Nat.le_of_ble_eq_true rfl)) dX12_stepsOf_13 ⟨Nat.le_of_ble_eq_true (by first | rfl | decide), Nat.le_of_ble_eq_true (by first | rfl | decide)⟩).run) (fun r_13 hr_13 => ?_)
  subst hr_13
  have hF9 := gF j
  refine lv_istore (lv' := [(4, .int (nI (F j))), (3, .int (nI (pcN (nd i)))), (0, .ref y), (1, .int (nI j)), (2, .int (nI i))]) hx hb dX12_stepsOf_16 hl (by decide) rfl (fun ls hl => ?_)
  refine lv_aload_n hx hb dX12_stepsOf_18 rfl (lv_at hl 2 rfl) ?_
  refine lv_iload_n hx hb dX12_stepsOf_19 rfl (lv_at hl 3 rfl) ?_
  refine lv_iconst (v := nI 0) hx hb dX12_stepsOf_20 (by decide +kernel) ?_
  refine vp_callSi ((va_runV (As := [.int (nI j), .int (nI 0)]) (rest := []) ⟨hx, hb, hml, hown, hts⟩ (c_X12_get_0 l dC dI cI cD cR y as ai ar am ak ao az ae aq af hi th po ba en an aw ax ap se n d t day al nd bb oo K F kn j (by first | omega | assumption | exact gnd _ | exact gkn _ | exact Nat.lt_trans (gkn _) (by decide) | exact Nat.lt_trans (gnd _) (by decide) | exact Nat.lt_of_le_of_lt (pcN_le _) (by decide)) (by first | omega | assumption | exact gnd _ | exact gkn _ | exact Nat.lt_trans (gkn _) (by decide) | exact Nat.lt_trans (gnd _) (by decide) | exact Nat.lt_of_le_of_lt (pcN_le _) (by decide)) (by first | omega | assumption | exact gnd _ | exact gkn _ | exact Nat.lt_trans (gkn _) (by decide) | exact Nat.lt_trans (gnd _) (by decide) | exact Nat.lt_of_le_of_lt (pcN_le _) (by decide)) (by first | omega | assumption | exact gnd _ | exact gkn _ | exact Nat.lt_trans (gkn _) (by decide) | exact Nat.lt_trans (gnd _) (by decide) | exact Nat.lt_of_le_of_lt (pcN_le _) (by decide)) (by first | omega | assumption | exact gnd _ | exact gkn _ | exact Nat.lt_trans (gkn _) (by decide) | exact Nat.lt_trans (gnd _) (by decide) | exact Nat.lt_of_le_of_lt (pcN_le _) (by decide)) gnd gkn gK gF (by first | omega | assumption | exact gnd _ | exact gkn _ | exact Nat.lt_trans (gkn _) (by decide) | exact Nat.lt_trans (gnd _) (by decide) | exact Nat.lt_of_le_of_lt (pcN_le _) (by decide))) (cwV 2 hts gX12_stepsOf_X12_get rfl rfl rfl (by decide +kernel) ⟨Nat.le_of_ble_eq_true rfl, Nat.le_of_ble_eq_true rfl⟩) (preV_R hCX (va_recv hK hP (ci := 12) (q0 := 0) rfl rfl) (hP)) rfl rfl hl.1 rfl (lv_room (Nat.le_of_ble_eq_true rfl)) dX12_stepsOf_21 ⟨Nat.le_of_ble_eq_true (by first | rfl | decide), Nat.le_of_ble_eq_true (by first | rfl | decide)⟩).run) (fun r_21 hr_21 => ?_)
  subst hr_21
  have hK9 := gK j
  by_cases k_24_0 : K j = 1
  · refine ho_tope (y := nI 1) (by rw [k_24_0]) ?_
    refine lv_tableIn (tgt := 68) hx hb dX12_stepsOf_24 (by decide +kernel) (by decide +kernel) (off := 44) (by decide +kernel) (by decide) ?_
    refine lv_iconst (v := nI 2) hx hb dX12_stepsOf_68 (by decide +kernel) ?_
    refine lv_iload_n hx hb dX12_stepsOf_69 rfl (lv_at hl 1 rfl) ?_
    refine lv_iconst (v := nI 1) hx hb dX12_stepsOf_70 (by decide +kernel) ?_
    refine ho_iadd hx hb dX12_stepsOf_71 ?_
    refine ho_imul hx hb dX12_stepsOf_72 ?_
    exact W.iret (v := nI (2 * ((pcN (nd i)) + 1))) hx hb hr (fun T9 hT9 hW9 => ⟨_, rfl, (congrArg nI (by first | (simp only [k_24_0, efN]; done) | (simp only [k_24_1, efN]; done) | (simp only [k_24_2, efN]; done) | (simp only [k_24_3, efN]; done) | (simp only [k_24_4, efN]; done) | (simp only [k_24_5, efN]; done) | (simp only [k_24_6, efN]; omega) | (rw [show K j = 0 by omega]; rfl))), hT9⟩) (fun q h => by cases h) dX12_stepsOf_73
  by_cases k_24_1 : K j = 2
  · refine ho_tope (y := nI 2) (by rw [k_24_1]) ?_
    refine lv_tableIn (tgt := 74) hx hb dX12_stepsOf_24 (by decide +kernel) (by decide +kernel) (off := 50) (by decide +kernel) (by decide) ?_
    refine lv_iload_n hx hb dX12_stepsOf_74 rfl (lv_at hl 1 rfl) ?_
    exact W.iret (v := nI (pcN (nd i))) hx hb hr (fun T9 hT9 hW9 => ⟨_, rfl, (congrArg nI (by first | (simp only [k_24_0, efN]; done) | (simp only [k_24_1, efN]; done) | (simp only [k_24_2, efN]; done) | (simp only [k_24_3, efN]; done) | (simp only [k_24_4, efN]; done) | (simp only [k_24_5, efN]; done) | (simp only [k_24_6, efN]; omega) | (rw [show K j = 0 by omega]; rfl))), hT9⟩) (fun q h => by cases h) dX12_stepsOf_75
  by_cases k_24_2 : K j = 3
  · refine ho_tope (y := nI 3) (by rw [k_24_2]) ?_
    refine lv_tableIn (tgt := 68) hx hb dX12_stepsOf_24 (by decide +kernel) (by decide +kernel) (off := 44) (by decide +kernel) (by decide) ?_
    refine lv_iconst (v := nI 2) hx hb dX12_stepsOf_68 (by decide +kernel) ?_
    refine lv_iload_n hx hb dX12_stepsOf_69 rfl (lv_at hl 1 rfl) ?_
    refine lv_iconst (v := nI 1) hx hb dX12_stepsOf_70 (by decide +kernel) ?_
    refine ho_iadd hx hb dX12_stepsOf_71 ?_
    refine ho_imul hx hb dX12_stepsOf_72 ?_
    exact W.iret (v := nI (2 * ((pcN (nd i)) + 1))) hx hb hr (fun T9 hT9 hW9 => ⟨_, rfl, (congrArg nI (by first | (simp only [k_24_0, efN]; done) | (simp only [k_24_1, efN]; done) | (simp only [k_24_2, efN]; done) | (simp only [k_24_3, efN]; done) | (simp only [k_24_4, efN]; done) | (simp only [k_24_5, efN]; done) | (simp only [k_24_6, efN]; omega) | (rw [show K j = 0 by omega]; rfl))), hT9⟩) (fun q h => by cases h) dX12_stepsOf_73
  by_cases k_24_3 : K j = 4
  · refine ho_tope (y := nI 4) (by rw [k_24_3]) ?_
    refine lv_tableIn (tgt := 76) hx hb dX12_stepsOf_24 (by decide +kernel) (by decide +kernel) (off := 52) (by decide +kernel) (by decide) ?_
    refine lv_iload_n hx hb dX12_stepsOf_76 rfl (lv_at hl 1 rfl) ?_
    refine lv_iconst (v := nI 1) hx hb dX12_stepsOf_77 (by decide +kernel) ?_
    refine ho_iadd hx hb dX12_stepsOf_78 ?_
    refine lv_iload hx hb dX12_stepsOf_79 (lv_at hl 0 rfl) ?_
    refine ho_iadd hx hb dX12_stepsOf_81 ?_
    exact W.iret (v := nI (((pcN (nd i)) + 1) + (F j))) hx hb hr (fun T9 hT9 hW9 => ⟨_, rfl, (congrArg nI (by first | (simp only [k_24_0, efN]; done) | (simp only [k_24_1, efN]; done) | (simp only [k_24_2, efN]; done) | (simp only [k_24_3, efN]; done) | (simp only [k_24_4, efN]; done) | (simp only [k_24_5, efN]; done) | (simp only [k_24_6, efN]; omega) | (rw [show K j = 0 by omega]; rfl))), hT9⟩) (fun q h => by cases h) dX12_stepsOf_82
  by_cases k_24_4 : K j = 5
  · refine ho_tope (y := nI 5) (by rw [k_24_4]) ?_
    refine lv_tableIn (tgt := 83) hx hb dX12_stepsOf_24 (by decide +kernel) (by decide +kernel) (off := 59) (by decide +kernel) (by decide) ?_
    refine lv_iconst (v := nI 2) hx hb dX12_stepsOf_83 (by decide +kernel) ?_
    refine lv_iload_n hx hb dX12_stepsOf_84 rfl (lv_at hl 1 rfl) ?_
    refine lv_iconst (v := nI 1) hx hb dX12_stepsOf_85 (by decide +kernel) ?_
    refine ho_iadd hx hb dX12_stepsOf_86 ?_
    refine ho_imul hx hb dX12_stepsOf_87 ?_
    refine lv_iconst (v := nI 1) hx hb dX12_stepsOf_88 (by decide +kernel) ?_
    refine ho_isub hx hb dX12_stepsOf_89 (by omega) ?_
    exact W.iret (v := nI ((2 * ((pcN (nd i)) + 1)) - 1)) hx hb hr (fun T9 hT9 hW9 => ⟨_, rfl, (congrArg nI (by first | (simp only [k_24_0, efN]; done) | (simp only [k_24_1, efN]; done) | (simp only [k_24_2, efN]; done) | (simp only [k_24_3, efN]; done) | (simp only [k_24_4, efN]; done) | (simp only [k_24_5, efN]; done) | (simp only [k_24_6, efN]; omega) | (rw [show K j = 0 by omega]; rfl))), hT9⟩) (fun q h => by cases h) dX12_stepsOf_90
  by_cases k_24_5 : K j = 6
  · refine ho_tope (y := nI 6) (by rw [k_24_5]) ?_
    refine lv_tableIn (tgt := 91) hx hb dX12_stepsOf_24 (by decide +kernel) (by decide +kernel) (off := 67) (by decide +kernel) (by decide) ?_
    refine lv_iload_n hx hb dX12_stepsOf_91 rfl (lv_at hl 1 rfl) ?_
    refine lv_iload hx hb dX12_stepsOf_92 (lv_at hl 0 rfl) ?_
    refine ho_iadd hx hb dX12_stepsOf_94 ?_
    exact W.iret (v := nI ((pcN (nd i)) + (F j))) hx hb hr (fun T9 hT9 hW9 => ⟨_, rfl, (congrArg nI (by first | (simp only [k_24_0, efN]; done) | (simp only [k_24_1, efN]; done) | (simp only [k_24_2, efN]; done) | (simp only [k_24_3, efN]; done) | (simp only [k_24_4, efN]; done) | (simp only [k_24_5, efN]; done) | (simp only [k_24_6, efN]; omega) | (rw [show K j = 0 by omega]; rfl))), hT9⟩) (fun q h => by cases h) dX12_stepsOf_95
  by_cases k_24_6 : K j = 7
  · refine ho_tope (y := nI 7) (by rw [k_24_6]) ?_
    refine lv_tableIn (tgt := 96) hx hb dX12_stepsOf_24 (by decide +kernel) (by decide +kernel) (off := 72) (by decide +kernel) (by decide) ?_
    refine lv_iconst (v := nI 2) hx hb dX12_stepsOf_96 (by decide +kernel) ?_
    refine lv_iload_n hx hb dX12_stepsOf_97 rfl (lv_at hl 1 rfl) ?_
    refine lv_iconst (v := nI 1) hx hb dX12_stepsOf_98 (by decide +kernel) ?_
    refine ho_iadd hx hb dX12_stepsOf_99 ?_
    refine lv_iload hx hb dX12_stepsOf_100 (lv_at hl 0 rfl) ?_
    refine ho_iadd hx hb dX12_stepsOf_102 ?_
    refine ho_imul hx hb dX12_stepsOf_103 ?_
    exact W.iret (v := nI (2 * (((pcN (nd i)) + 1) + (F j)))) hx hb hr (fun T9 hT9 hW9 => ⟨_, rfl, (congrArg nI (by first | (simp only [k_24_0, efN]; done) | (simp only [k_24_1, efN]; done) | (simp only [k_24_2, efN]; done) | (simp only [k_24_3, efN]; done) | (simp only [k_24_4, efN]; done) | (simp only [k_24_5, efN]; done) | (simp only [k_24_6, efN]; omega) | (rw [show K j = 0 by omega]; rfl))), hT9⟩) (fun q h => by cases h) dX12_stepsOf_104
  refine lv_tableOut (tgt := 105) hx hb dX12_stepsOf_24 (by rw [nI_toInt (by omega)]; omega) (by decide) ?_
  refine lv_iload_n hx hb dX12_stepsOf_105 rfl (lv_at hl 1 rfl) ?_
  refine lv_iconst (v := nI 1) hx hb dX12_stepsOf_106 (by decide +kernel) ?_
  refine ho_iadd hx hb dX12_stepsOf_107 ?_
  exact W.iret (v := nI ((pcN (nd i)) + 1)) hx hb hr (fun T9 hT9 hW9 => ⟨_, rfl, (congrArg nI (by first | (simp only [k_24_0, efN]; done) | (simp only [k_24_1, efN]; done) | (simp only [k_24_2, efN]; done) | (simp only [k_24_3, efN]; done) | (simp only [k_24_4, efN]; done) | (simp only [k_24_5, efN]; done) | (simp only [k_24_6, efN]; omega) | (rw [show K j = 0 by omega]; rfl))), hT9⟩) (fun q h => by cases h) dX12_stepsOf_108
set_option maxHeartbeats 4000000 in
set_option maxRecDepth 100000 in
theorem c_X12_priceOf (l : Launch) (dC : Nat → ClassId) (dI : Nat → Nat → Nat) (cI cD cR : ClassId) (y as ai ar am ak ao az ae aq af : Nat) (hi : Bool) (th : Int32) (po ba en an aw ax ap : Nat) (se : Int32) (n d t day al : Nat) (nd : Nat → Nat) (bb oo : Nat → Int32) (K F kn : Nat → Nat) (j : Nat) (hn : n ≤ 9) (hd : d ≤ 7) (ht : t < 512) (hal : al < 128) (hday : day < 2 ^ 30) (gnd : ∀ i, nd i < 512) (gkn : ∀ j, kn j < 512) (gK : ∀ j, K j < 8) (gF : ∀ j, F j < 10) (hj9 : j < 7) : Met l yX12_priceOf wsX12_priceOf ({ frames := 1, cells := 0, slots := 0, locals := 22 }) (pcR dC dI cI cD cR [.ref y, .int (nI j)] (fun H => va_P (dC, dI) vwCl ([(y, .inr (12, [.ref as, .ref ai, .ref ar, .ref am, .ref ak, .ref ao, .ref az, .ref ae, .ref aq, .ref af, .int (bI hi), .int th, .int (nI po), .int (nI ba), .int (nI en), .ref an, .ref aw, .ref ax, .ref ap, .int se]))] ++ [(as, .inl (cI, 53, .inl (sF n d t day al nd bb oo K F kn)))]) H)) (vp_Si (fun r => r = nI (asN (K j) (F j)))) 0 0 (fun _ => False) := by
  refine Met.ofW (cc := cX12_priceOf) (maxL := 2) (ret := (some .int)) (by decide) rfl ?_
  intro p e s m args below meth c s₁ B hml hv
  obtain ⟨rfl, hH0, hCX⟩ := hv
  have hx := B.exec
  have hb := B.bytes
  have hr := B.returns
  have hts := atoms_spec (ws := wsX12_priceOf) B.pre
  have hown : s.vm.findClass RX12 = some m.cls := findClass_of_methodNamed B.named
  have hlocks := B.notSynchronized
  have hK := hCX.1
  have hP := hH0
  have hl := lv_entry ([.ref y, .int (nI j)]) (n := 2) (Nat.le_of_ble_eq_true rfl)
  rw [lg_entry_eq]
  generalize (lg_sl ([.ref y, .int (nI j)]) ++ List.replicate (2 - (lg_sl ([.ref y, .int (nI j)])).length) Slot.unset).toArray = ls at hl ⊢
  have hl : lv_has ls 2 [(0, .ref y), (1, .int (nI j))] := hl
  refine lv_aload_n hx hb dX12_priceOf_0 rfl (lv_at hl 0 rfl) ?_
  refine lv_iload_n hx hb dX12_priceOf_1 rfl (lv_at hl 1 rfl) ?_
  refine lv_iconst (v := nI 0) hx hb dX12_priceOf_2 (by decide +kernel) ?_
  refine vp_callSi ((va_runV (As := [.int (nI j), .int (nI 0)]) (rest := []) ⟨hx, hb, hml, hown, hts⟩ (c_X12_get_0 l dC dI cI cD cR y as ai ar am ak ao az ae aq af hi th po ba en an aw ax ap se n d t day al nd bb oo K F kn j (by first | omega | assumption | exact gnd _ | exact gkn _ | exact Nat.lt_trans (gkn _) (by decide) | exact Nat.lt_trans (gnd _) (by decide) | exact Nat.lt_of_le_of_lt (pcN_le _) (by decide)) (by first | omega | assumption | exact gnd _ | exact gkn _ | exact Nat.lt_trans (gkn _) (by decide) | exact Nat.lt_trans (gnd _) (by decide) | exact Nat.lt_of_le_of_lt (pcN_le _) (by decide)) (by first | omega | assumption | exact gnd _ | exact gkn _ | exact Nat.lt_trans (gkn _) (by decide) | exact Nat.lt_trans (gnd _) (by decide) | exact Nat.lt_of_le_of_lt (pcN_le _) (by decide)) (by first | omega | assumption | exact gnd _ | exact gkn _ | exact Nat.lt_trans (gkn _) (by decide) | exact Nat.lt_trans (gnd _) (by decide) | exact Nat.lt_of_le_of_lt (pcN_le _) (by decide)) (by first | omega | assumption | exact gnd _ | exact gkn _ | exact Nat.lt_trans (gkn _) (by decide) | exact Nat.lt_trans (gnd _) (by decide) | exact Nat.lt_of_le_of_lt (pcN_le _) (by decide)) gnd gkn gK gF (by first | omega | assumption | exact gnd _ | exact gkn _ | exact Nat.lt_trans (gkn _) (by decide) | exact Nat.lt_trans (gnd _) (by decide) | exact Nat.lt_of_le_of_lt (pcN_le _) (by decide))) (cwV 2 hts gX12_priceOf_X12_get rfl rfl rfl (by decide +kernel) ⟨Nat.le_of_ble_eq_true rfl, Nat.le_of_ble_eq_true rfl⟩) (preV_R hCX (va_recv hK hP (ci := 12) (q0 := 0) rfl rfl) (hP)) rfl rfl hl.1 rfl (lv_room (Nat.le_of_ble_eq_true rfl)) dX12_priceOf_3 ⟨Nat.le_of_ble_eq_true (by first | rfl | decide), Nat.le_of_ble_eq_true (by first | rfl | decide)⟩).run) (fun r_3 hr_3 => ?_)
  subst hr_3
  refine lv_aload_n hx hb dX12_priceOf_6 rfl (lv_at hl 0 rfl) ?_
  refine lv_iload_n hx hb dX12_priceOf_7 rfl (lv_at hl 1 rfl) ?_
  refine lv_iconst (v := nI 1) hx hb dX12_priceOf_8 (by decide +kernel) ?_
  refine vp_callSi ((va_runV (As := [.int (nI j), .int (nI 1)]) (rest := [.int (nI (K j))]) ⟨hx, hb, hml, hown, hts⟩ (c_X12_get_1 l dC dI cI cD cR y as ai ar am ak ao az ae aq af hi th po ba en an aw ax ap se n d t day al nd bb oo K F kn j (by first | omega | assumption | exact gnd _ | exact gkn _ | exact Nat.lt_trans (gkn _) (by decide) | exact Nat.lt_trans (gnd _) (by decide) | exact Nat.lt_of_le_of_lt (pcN_le _) (by decide)) (by first | omega | assumption | exact gnd _ | exact gkn _ | exact Nat.lt_trans (gkn _) (by decide) | exact Nat.lt_trans (gnd _) (by decide) | exact Nat.lt_of_le_of_lt (pcN_le _) (by decide)) (by first | omega | assumption | exact gnd _ | exact gkn _ | exact Nat.lt_trans (gkn _) (by decide) | exact Nat.lt_trans (gnd _) (by decide) | exact Nat.lt_of_le_of_lt (pcN_le _) (by decide)) (by first | omega | assumption | exact gnd _ | exact gkn _ | exact Nat.lt_trans (gkn _) (by decide) | exact Nat.lt_trans (gnd _) (by decide) | exact Nat.lt_of_le_of_lt (pcN_le _) (by decide)) (by first | omega | assumption | exact gnd _ | exact gkn _ | exact Nat.lt_trans (gkn _) (by decide) | exact Nat.lt_trans (gnd _) (by decide) | exact Nat.lt_of_le_of_lt (pcN_le _) (by decide)) gnd gkn gK gF (by first | omega | assumption | exact gnd _ | exact gkn _ | exact Nat.lt_trans (gkn _) (by decide) | exact Nat.lt_trans (gnd _) (by decide) | exact Nat.lt_of_le_of_lt (pcN_le _) (by decide))) (cwV 2 hts gX12_priceOf_X12_get rfl rfl rfl (by decide +kernel) ⟨Nat.le_of_ble_eq_true rfl, Nat.le_of_ble_eq_true rfl⟩) (preV_R hCX (va_recv hK hP (ci := 12) (q0 := 0) rfl rfl) (hP)) rfl rfl hl.1 rfl (lv_room (Nat.le_of_ble_eq_true rfl)) dX12_priceOf_9 ⟨Nat.le_of_ble_eq_true (by first | rfl | decide), Nat.le_of_ble_eq_true (by first | rfl | decide)⟩).run) (fun r_9 hr_9 => ?_)
  subst hr_9
  refine vp_callSi ((va_runS (As := [.int (nI (K j)), .int (nI (F j))]) (rest := []) ⟨hx, hb, hml, hown, hts⟩ (c_X12_priceBy l dC dI cI cD cR (K j) (F j) (gK j) (gF j)) (va_cwS 2 hts gX12_priceOf_X12_priceBy rfl rfl rfl (by decide +kernel) ⟨Nat.le_of_ble_eq_true rfl, Nat.le_of_ble_eq_true rfl⟩) (preS_R hCX (trivial)) rfl rfl hl.1 rfl (lv_room (Nat.le_of_ble_eq_true rfl)) dX12_priceOf_12 ⟨Nat.le_of_ble_eq_true (by first | rfl | decide), Nat.le_of_ble_eq_true (by first | rfl | decide)⟩).run) (fun r_12 hr_12 => ?_)
  subst hr_12
  exact W.iret (v := nI (asN (K j) (F j))) hx hb hr (fun T9 hT9 hW9 => ⟨_, rfl, rfl, hT9⟩) (fun q h => by cases h) dX12_priceOf_15
set_option maxHeartbeats 4000000 in
set_option maxRecDepth 100000 in
theorem c_X12_denies (l : Launch) (dC : Nat → ClassId) (dI : Nat → Nat → Nat) (cI cD cR : ClassId) (y as ai ar am ak ao az ae aq af : Nat) (hi : Bool) (th : Int32) (po ba en an aw ax ap : Nat) (se : Int32) (n d t day al : Nat) (nd : Nat → Nat) (bb oo : Nat → Int32) (K F kn : Nat → Nat) (j i : Nat) (sz : Nat) (hn : n ≤ 9) (hd : d ≤ 7) (ht : t < 512) (hal : al < 128) (hday : day < 2 ^ 30) (gnd : ∀ i, nd i < 512) (gkn : ∀ j, kn j < 512) (gK : ∀ j, K j < 8) (gF : ∀ j, F j < 10) (hj9 : j < 7) (hi9 : i < 9) (hdy : day + 1 < 2 ^ 30) : Met l yX12_denies wsX12_denies ({ frames := 3, cells := 0, slots := 0, locals := 68 }) (pcR dC dI cI cD cR [.ref y, .int (nI j), .int (nI i)] (fun H => H.size = sz ∧ va_P (dC, dI) vwCl ([(y, .inr (12, [.ref as, .ref ai, .ref ar, .ref am, .ref ak, .ref ao, .ref az, .ref ae, .ref aq, .ref af, .int (bI hi), .int th, .int (nI po), .int (nI ba), .int (nI en), .ref an, .ref aw, .ref ax, .ref ap, .int se]))] ++ [(as, .inl (cI, 53, .inl (sF n d t day al nd bb oo K F kn)))]) H ∧ va_D (fun _ => True) ([(y, .inr (12, [.ref as, .ref ai, .ref ar, .ref am, .ref ak, .ref ao, .ref az, .ref ae, .ref aq, .ref af, .int (bI hi), .int th, .int (nI po), .int (nI ba), .int (nI en), .ref an, .ref aw, .ref ax, .ref ap, .int se]))] ++ [(as, .inl (cI, 53, .inl (sF n d t day al nd bb oo K F kn)))]))) (va_Qi (fun r (_ : Unit) => r = bI (siB (K j) t (kn j) (nd i) (day % 2 != 0))) (fun (_ : Unit) T9 => va_P (dC, dI) vwCl ([(y, .inr (12, [.ref as, .ref ai, .ref ar, .ref am, .ref ak, .ref ao, .ref az, .ref ae, .ref aq, .ref af, .int (bI hi), .int th, .int (nI po), .int (nI ba), .int (nI en), .ref an, .ref aw, .ref ax, .ref ap, .int se]))] ++ [(as, .inl (cI, 53, .inl (sF n d (bif siB (K j) t (kn j) (nd i) (day % 2 != 0) then t ||| 2 ^ i else t) (day + 1) al nd (bif siB (K j) t (kn j) (nd i) (day % 2 != 0) then upd bb i (nI j) else bb) (bif siB (K j) t (kn j) (nd i) (day % 2 != 0) then upd oo i (nI (day + 1)) else oo) K F (bif siB (K j) t (kn j) (nd i) (day % 2 != 0) then va_up kn j (kn j ||| 2 ^ i) else kn))))]) T9.heap ∧ va_D (va_A ([(y, .inr (12, [.ref as, .ref ai, .ref ar, .ref am, .ref ak, .ref ao, .ref az, .ref ae, .ref aq, .ref af, .int (bI hi), .int th, .int (nI po), .int (nI ba), .int (nI en), .ref an, .ref aw, .ref ax, .ref ap, .int se]))] ++ [(as, .inl (cI, 53, .inl (sF n d t day al nd bb oo K F kn)))]) sz) ([(y, .inr (12, [.ref as, .ref ai, .ref ar, .ref am, .ref ak, .ref ao, .ref az, .ref ae, .ref aq, .ref af, .int (bI hi), .int th, .int (nI po), .int (nI ba), .int (nI en), .ref an, .ref aw, .ref ax, .ref ap, .int se]))] ++ [(as, .inl (cI, 53, .inl (sF n d (bif siB (K j) t (kn j) (nd i) (day % 2 != 0) then t ||| 2 ^ i else t) (day + 1) al nd (bif siB (K j) t (kn j) (nd i) (day % 2 != 0) then upd bb i (nI j) else bb) (bif siB (K j) t (kn j) (nd i) (day % 2 != 0) then upd oo i (nI (day + 1)) else oo) K F (bif siB (K j) t (kn j) (nd i) (day % 2 != 0) then va_up kn j (kn j ||| 2 ^ i) else kn))))])) (va_A ([(y, .inr (12, [.ref as, .ref ai, .ref ar, .ref am, .ref ak, .ref ao, .ref az, .ref ae, .ref aq, .ref af, .int (bI hi), .int th, .int (nI po), .int (nI ba), .int (nI en), .ref an, .ref aw, .ref ax, .ref ap, .int se]))] ++ [(as, .inl (cI, 53, .inl (sF n d t day al nd bb oo K F kn)))]) sz)) 0 0 (va_A ([(y, .inr (12, [.ref as, .ref ai, .ref ar, .ref am, .ref ak, .ref ao, .ref az, .ref ae, .ref aq, .ref af, .int (bI hi), .int th, .int (nI po), .int (nI ba), .int (nI en), .ref an, .ref aw, .ref ax, .ref ap, .int se]))] ++ [(as, .inl (cI, 53, .inl (sF n d t day al nd bb oo K F kn)))]) sz) := by
  refine Met.ofW (cc := cX12_denies) (maxL := 4) (ret := (some .boolean)) (by decide) rfl ?_
  intro p e s m args below meth c s₁ B hml hv
  obtain ⟨rfl, hH0, hCX⟩ := hv
  have hx := B.exec
  have hb := B.bytes
  have hr := B.returns
  have hts := atoms_spec (ws := wsX12_denies) B.pre
  have hown : s.vm.findClass RX12 = some m.cls := findClass_of_methodNamed B.named
  have hlocks := B.notSynchronized
  have hK := hCX.1
  obtain ⟨hsz, hP, hD0⟩ := hH0
  subst hsz
  have hD := hD0.self (sz := s.heap.size)
  generalize hAe : va_A ([(y, .inr (12, [.ref as, .ref ai, .ref ar, .ref am, .ref ak, .ref ao, .ref az, .ref ae, .ref aq, .ref af, .int (bI hi), .int th, .int (nI po), .int (nI ba), .int (nI en), .ref an, .ref aw, .ref ax, .ref ap, .int se]))] ++ [(as, .inl (cI, 53, .inl (sF n d t day al nd bb oo K F kn)))]) s.heap.size = A at hD ⊢
  have hA : ∀ q : Nat, s.heap.size ≤ q → A q := fun q h => by rw [← hAe]; exact Or.inr h
  have hS : va_S A s.heap s.heap [] := va_S.rf
  have hP : va_P (dC, dI) vwCl ([(y, .inr (12, [.ref as, .ref ai, .ref ar, .ref am, .ref ak, .ref ao, .ref az, .ref ae, .ref aq, .ref af, .int (bI hi), .int th, .int (nI po), .int (nI ba), .int (nI en), .ref an, .ref aw, .ref ax, .ref ap, .int se]))] ++ [(as, .inl (cI, 53, .inl (sF n d t day al nd bb oo K F kn)))]) s.heap := hP
  have hl := lv_entry ([.ref y, .int (nI j), .int (nI i)]) (n := 4) (Nat.le_of_ble_eq_true rfl)
  rw [lg_entry_eq]
  generalize (lg_sl ([.ref y, .int (nI j), .int (nI i)]) ++ List.replicate (4 - (lg_sl ([.ref y, .int (nI j), .int (nI i)])).length) Slot.unset).toArray = ls at hl ⊢
  have hl : lv_has ls 4 [(0, .ref y), (1, .int (nI j)), (2, .int (nI i))] := hl
  refine lv_aload_n hx hb dX12_denies_0 rfl (lv_at hl 0 rfl) ?_
  refine lv_iload_n hx hb dX12_denies_1 rfl (lv_at hl 1 rfl) ?_
  refine lv_iload_n hx hb dX12_denies_2 rfl (lv_at hl 2 rfl) ?_
  refine lv_aload_n hx hb dX12_denies_3 rfl (lv_at hl 0 rfl) ?_
  refine va_get (D := (dC, dI)) (ci := 12) (v := .ref as) (C := RX12) (T := TX12) (N := 20) hx hb hts (fun _ h => List.mem_cons_of_mem _ (List.mem_append_right _ h)) hown hK hP 0 rfl rfl 0 (by decide) (hts (.fieldLink RX12 9 "HoldsOnceDeniedModel" "s" "[I") (by decide +kernel)) (fun _ h9 => h9) rfl dX12_denies_4 ?_
  refine lv_iconst (v := nI 3) hx hb dX12_denies_7 (by decide +kernel) ?_
  refine ho_iald (v := nI day) hx hb hK hP 1 0 rfl rfl (by omega) (by first | decide | omega) rfl dX12_denies_8 ?_
  refine vp_callSi ((va_runV (As := [.int (nI j), .int (nI i), .int (nI day)]) (rest := []) ⟨hx, hb, hml, hown, hts⟩ (c_X12_isSilenced l dC dI cI cD cR y as ai ar am ak ao az ae aq af hi th po ba en an aw ax ap se n d t day al nd bb oo K F kn j i day (by first | omega | assumption | exact gnd _ | exact gkn _ | exact Nat.lt_trans (gkn _) (by decide) | exact Nat.lt_trans (gnd _) (by decide) | exact Nat.lt_of_le_of_lt (pcN_le _) (by decide)) (by first | omega | assumption | exact gnd _ | exact gkn _ | exact Nat.lt_trans (gkn _) (by decide) | exact Nat.lt_trans (gnd _) (by decide) | exact Nat.lt_of_le_of_lt (pcN_le _) (by decide)) (by first | omega | assumption | exact gnd _ | exact gkn _ | exact Nat.lt_trans (gkn _) (by decide) | exact Nat.lt_trans (gnd _) (by decide) | exact Nat.lt_of_le_of_lt (pcN_le _) (by decide)) (by first | omega | assumption | exact gnd _ | exact gkn _ | exact Nat.lt_trans (gkn _) (by decide) | exact Nat.lt_trans (gnd _) (by decide) | exact Nat.lt_of_le_of_lt (pcN_le _) (by decide)) (by first | omega | assumption | exact gnd _ | exact gkn _ | exact Nat.lt_trans (gkn _) (by decide) | exact Nat.lt_trans (gnd _) (by decide) | exact Nat.lt_of_le_of_lt (pcN_le _) (by decide)) gnd gkn gK gF (by first | omega | assumption | exact gnd _ | exact gkn _ | exact Nat.lt_trans (gkn _) (by decide) | exact Nat.lt_trans (gnd _) (by decide) | exact Nat.lt_of_le_of_lt (pcN_le _) (by decide)) (by first | omega | assumption | exact gnd _ | exact gkn _ | exact Nat.lt_trans (gkn _) (by decide) | exact Nat.lt_trans (gnd _) (by decide) | exact Nat.lt_of_le_of_lt (pcN_le _) (by decide)) (by first | omega | assumption | exact gnd _ | exact gkn _ | exact Nat.lt_trans (gkn _) (by decide) | exact Nat.lt_trans (gnd _) (by decide) | exact Nat.lt_of_le_of_lt (pcN_le _) (by decide))) (cwV 3 hts gX12_denies_X12_isSilenced rfl rfl rfl (by decide +kernel) ⟨Nat.le_of_ble_eq_true rfl, Nat.le_of_ble_eq_true rfl⟩) (preV_R hCX (va_recv hK hP (ci := 12) (q0 := 0) rfl rfl) (hP)) rfl rfl hl.1 rfl (lv_room (Nat.le_of_ble_eq_true rfl)) dX12_denies_9 ⟨Nat.le_of_ble_eq_true (by first | rfl | decide), Nat.le_of_ble_eq_true (by first | rfl | decide)⟩).run) (fun r_9 hr_9 => ?_)
  subst hr_9
  refine lv_istore_n (lv' := [(3, .int (bI (siB (K j) t (kn j) (nd i) (day % 2 != 0)))), (0, .ref y), (1, .int (nI j)), (2, .int (nI i))]) hx hb dX12_denies_12 rfl hl (by decide) rfl (fun ls hl => ?_)
  refine lv_aload_n hx hb dX12_denies_13 rfl (lv_at hl 1 rfl) ?_
  refine va_get (D := (dC, dI)) (ci := 12) (v := .ref as) (C := RX12) (T := TX12) (N := 20) hx hb hts (fun _ h => List.mem_cons_of_mem _ (List.mem_append_right _ h)) hown hK hP 0 rfl rfl 0 (by decide) (hts (.fieldLink RX12 9 "HoldsOnceDeniedModel" "s" "[I") (by decide +kernel)) (fun _ h9 => h9) rfl dX12_denies_14 ?_
  refine lv_iconst (v := nI 3) hx hb dX12_denies_17 (by decide +kernel) ?_
  refine lv_dup2_11 hx hb dX12_denies_18 rfl rfl ?_
  refine ho_iald (v := nI day) hx hb hK hP 1 0 rfl rfl (by omega) (by first | decide | omega) rfl dX12_denies_19 ?_
  refine lv_iconst (v := nI 1) hx hb dX12_denies_20 (by decide +kernel) ?_
  refine ho_iadd hx hb dX12_denies_21 ?_
  refine ho_iast (g := sF n d t (day + 1) al nd bb oo K F kn) hx hb hK hP hD hS 1 0 rfl rfl (by omega) (by first | decide | omega) sF_u3 dX12_denies_22 (fun H locs hP hD hS => ?_)
  have hP : va_P (dC, dI) vwCl ([(y, .inr (12, [.ref as, .ref ai, .ref ar, .ref am, .ref ak, .ref ao, .ref az, .ref ae, .ref aq, .ref af, .int (bI hi), .int th, .int (nI po), .int (nI ba), .int (nI en), .ref an, .ref aw, .ref ax, .ref ap, .int se]))] ++ [(as, .inl (cI, 53, .inl (sF n d t (day + 1) al nd bb oo K F kn)))]) H := hP
  have hD : va_D A ([(y, .inr (12, [.ref as, .ref ai, .ref ar, .ref am, .ref ak, .ref ao, .ref az, .ref ae, .ref aq, .ref af, .int (bI hi), .int th, .int (nI po), .int (nI ba), .int (nI en), .ref an, .ref aw, .ref ax, .ref ap, .int se]))] ++ [(as, .inl (cI, 53, .inl (sF n d t (day + 1) al nd bb oo K F kn)))]) := hD
  refine lv_iload_n hx hb dX12_denies_23 rfl (lv_at hl 0 rfl) ?_
  refine ho_bne (tgt := 29) hx hb dX12_denies_24 (by decide) (fun c_24 => ?_) (fun c_24 => ?_)
  · refine lv_aload_n hx hb dX12_denies_29 rfl (lv_at hl 1 rfl) ?_
    refine va_get (D := (dC, dI)) (ci := 12) (v := .ref as) (C := RX12) (T := TX12) (N := 20) hx hb hts (fun _ h => List.mem_cons_of_mem _ (List.mem_append_right _ h)) hown hK hP 0 rfl rfl 0 (by decide) (hts (.fieldLink RX12 9 "HoldsOnceDeniedModel" "s" "[I") (by decide +kernel)) (fun _ h9 => h9) rfl dX12_denies_30 ?_
    refine lv_iconst (v := nI 2) hx hb dX12_denies_33 (by decide +kernel) ?_
    refine lv_dup2_11 hx hb dX12_denies_34 rfl rfl ?_
    refine ho_iald (v := nI t) hx hb hK hP 1 0 rfl rfl (by omega) (by first | decide | omega) rfl dX12_denies_35 ?_
    refine lv_iconst (v := nI 1) hx hb dX12_denies_36 (by decide +kernel) ?_
    refine lv_iload_n hx hb dX12_denies_37 rfl (lv_at hl 3 rfl) ?_
    refine ho_shl1 hx hb dX12_denies_38 (by omega) ?_
    refine ho_ior hx hb dX12_denies_39 ?_
    refine ho_iast (g := sF n d (t ||| (2 ^ i)) (day + 1) al nd bb oo K F kn) hx hb hK hP hD hS 1 0 rfl rfl (by omega) (by first | decide | omega) sF_u2 dX12_denies_40 (fun H locs hP hD hS => ?_)
    have hP : va_P (dC, dI) vwCl ([(y, .inr (12, [.ref as, .ref ai, .ref ar, .ref am, .ref ak, .ref ao, .ref az, .ref ae, .ref aq, .ref af, .int (bI hi), .int th, .int (nI po), .int (nI ba), .int (nI en), .ref an, .ref aw, .ref ax, .ref ap, .int se]))] ++ [(as, .inl (cI, 53, .inl (sF n d (t ||| (2 ^ i)) (day + 1) al nd bb oo K F kn)))]) H := hP
    have hD : va_D A ([(y, .inr (12, [.ref as, .ref ai, .ref ar, .ref am, .ref ak, .ref ao, .ref az, .ref ae, .ref aq, .ref af, .int (bI hi), .int th, .int (nI po), .int (nI ba), .int (nI en), .ref an, .ref aw, .ref ax, .ref ap, .int se]))] ++ [(as, .inl (cI, 53, .inl (sF n d (t ||| (2 ^ i)) (day + 1) al nd bb oo K F kn)))]) := hD
    refine lv_aload_n hx hb dX12_denies_41 rfl (lv_at hl 1 rfl) ?_
    refine lv_iload_n hx hb dX12_denies_42 rfl (lv_at hl 3 rfl) ?_
    refine lv_iconst (v := nI 1) hx hb dX12_denies_43 (by decide +kernel) ?_
    refine lv_iload_n hx hb dX12_denies_44 rfl (lv_at hl 2 rfl) ?_
    have hPc := hP
    have hDc := hD
    have hFc := va_free (wc := [(y, .inr (12, [.ref as, .ref ai, .ref ar, .ref am, .ref ak, .ref ao, .ref az, .ref ae, .ref aq, .ref af, .int (bI hi), .int th, .int (nI po), .int (nI ba), .int (nI en), .ref an, .ref aw, .ref ax, .ref ap, .int se]))] ++ [(as, .inl (cI, 53, .inl (sF n d (t ||| (2 ^ i)) (day + 1) al nd bb oo K F kn)))]) hD hS hA [0, 1] rfl
    refine va_callv (va_runV (As := [.int (nI i), .int (nI 1), .int (nI j)]) (rest := []) ⟨hx, hb, hml, hown, hts⟩ (c_X12_setOf_1 l dC dI cI cD cR y as ai ar am ak ao az ae aq af hi th po ba en an aw ax ap se n d (t ||| (2 ^ i)) (day + 1) al nd bb oo K F kn i (nI j) H.size (by first | omega | assumption | exact gnd _ | exact gkn _ | exact Nat.lt_trans (gkn _) (by decide) | exact Nat.lt_trans (gnd _) (by decide) | exact Nat.lt_of_le_of_lt (pcN_le _) (by decide)) (by first | omega | assumption | exact gnd _ | exact gkn _ | exact Nat.lt_trans (gkn _) (by decide) | exact Nat.lt_trans (gnd _) (by decide) | exact Nat.lt_of_le_of_lt (pcN_le _) (by decide)) (or_512 ht (bit_512 hi9)) (by first | omega | assumption | exact gnd _ | exact gkn _ | exact Nat.lt_trans (gkn _) (by decide) | exact Nat.lt_trans (gnd _) (by decide) | exact Nat.lt_of_le_of_lt (pcN_le _) (by decide)) hdy gnd gkn gK gF (by first | omega | assumption | exact gnd _ | exact gkn _ | exact Nat.lt_trans (gkn _) (by decide) | exact Nat.lt_trans (gnd _) (by decide) | exact Nat.lt_of_le_of_lt (pcN_le _) (by decide))) (cwV 3 hts gX12_denies_X12_setOf rfl rfl rfl (by decide +kernel) ⟨Nat.le_of_ble_eq_true rfl, Nat.le_of_ble_eq_true rfl⟩) (preV_R hCX (va_recv hK hP (ci := 12) (q0 := 0) rfl rfl) ⟨rfl, hPc, hDc.weaken (fun _ _ _ _ => trivial)⟩) rfl rfl hl.1 rfl (lv_room (Nat.le_of_ble_eq_true rfl)) dX12_denies_45 ⟨Nat.le_of_ble_eq_true (by first | rfl | decide), Nat.le_of_ble_eq_true (by first | rfl | decide)⟩) hS (fun q _ h => hFc q h) hFc (fun u T8 H1 locs hT8 hvm hw hB hz1 hk1 hS => ?_)
    obtain ⟨hP1, hD1⟩ := hB
    rw [hT8] at hP1
    obtain ⟨hP, hD⟩ := va_join (wr := []) (w1 := [(y, .inr (12, [.ref as, .ref ai, .ref ar, .ref am, .ref ak, .ref ao, .ref az, .ref ae, .ref aq, .ref af, .int (bI hi), .int th, .int (nI po), .int (nI ba), .int (nI en), .ref an, .ref aw, .ref ax, .ref ap, .int se]))] ++ [(as, .inl (cI, 53, .inl (sF n d (t ||| (2 ^ i)) (day + 1) al nd (upd bb i (nI j)) oo K F kn)))]) hP hD [0, 1] [] rfl rfl (by decide) (by decide) hk1 hFc hP1 hD1
    generalize H1 = H at hP hS ⊢
    have hP : va_P (dC, dI) vwCl ([(y, .inr (12, [.ref as, .ref ai, .ref ar, .ref am, .ref ak, .ref ao, .ref az, .ref ae, .ref aq, .ref af, .int (bI hi), .int th, .int (nI po), .int (nI ba), .int (nI en), .ref an, .ref aw, .ref ax, .ref ap, .int se]))] ++ [(as, .inl (cI, 53, .inl (sF n d (t ||| (2 ^ i)) (day + 1) al nd (upd bb i (nI j)) oo K F kn)))]) H := hP
    have hD : va_D A ([(y, .inr (12, [.ref as, .ref ai, .ref ar, .ref am, .ref ak, .ref ao, .ref az, .ref ae, .ref aq, .ref af, .int (bI hi), .int th, .int (nI po), .int (nI ba), .int (nI en), .ref an, .ref aw, .ref ax, .ref ap, .int se]))] ++ [(as, .inl (cI, 53, .inl (sF n d (t ||| (2 ^ i)) (day + 1) al nd (upd bb i (nI j)) oo K F kn)))]) := hD
    refine lv_aload_n hx hb dX12_denies_48 rfl (lv_at hl 1 rfl) ?_
    refine lv_iload_n hx hb dX12_denies_49 rfl (lv_at hl 3 rfl) ?_
    refine lv_iconst (v := nI 2) hx hb dX12_denies_50 (by decide +kernel) ?_
    refine lv_aload_n hx hb dX12_denies_51 rfl (lv_at hl 1 rfl) ?_
    refine va_get (D := (dC, dI)) (ci := 12) (v := .ref as) (C := RX12) (T := TX12) (N := 20) hx hb hts (fun _ h => List.mem_cons_of_mem _ (List.mem_append_right _ h)) hown hK hP 0 rfl rfl 0 (by decide) (hts (.fieldLink RX12 9 "HoldsOnceDeniedModel" "s" "[I") (by decide +kernel)) (fun _ h9 => h9) rfl dX12_denies_52 ?_
    refine lv_iconst (v := nI 3) hx hb dX12_denies_55 (by decide +kernel) ?_
    refine ho_iald (v := nI (day + 1)) hx hb hK hP 1 0 rfl rfl (by omega) (by first | decide | omega) rfl dX12_denies_56 ?_
    have hPc := hP
    have hDc := hD
    have hFc := va_free (wc := [(y, .inr (12, [.ref as, .ref ai, .ref ar, .ref am, .ref ak, .ref ao, .ref az, .ref ae, .ref aq, .ref af, .int (bI hi), .int th, .int (nI po), .int (nI ba), .int (nI en), .ref an, .ref aw, .ref ax, .ref ap, .int se]))] ++ [(as, .inl (cI, 53, .inl (sF n d (t ||| (2 ^ i)) (day + 1) al nd (upd bb i (nI j)) oo K F kn)))]) hD hS hA [0, 1] rfl
    refine va_callv (va_runV (As := [.int (nI i), .int (nI 2), .int (nI (day + 1))]) (rest := []) ⟨hx, hb, hml, hown, hts⟩ (c_X12_setOf_2 l dC dI cI cD cR y as ai ar am ak ao az ae aq af hi th po ba en an aw ax ap se n d (t ||| (2 ^ i)) (day + 1) al nd (upd bb i (nI j)) oo K F kn i (nI (day + 1)) H.size (by first | omega | assumption | exact gnd _ | exact gkn _ | exact Nat.lt_trans (gkn _) (by decide) | exact Nat.lt_trans (gnd _) (by decide) | exact Nat.lt_of_le_of_lt (pcN_le _) (by decide)) (by first | omega | assumption | exact gnd _ | exact gkn _ | exact Nat.lt_trans (gkn _) (by decide) | exact Nat.lt_trans (gnd _) (by decide) | exact Nat.lt_of_le_of_lt (pcN_le _) (by decide)) (or_512 ht (bit_512 hi9)) (by first | omega | assumption | exact gnd _ | exact gkn _ | exact Nat.lt_trans (gkn _) (by decide) | exact Nat.lt_trans (gnd _) (by decide) | exact Nat.lt_of_le_of_lt (pcN_le _) (by decide)) hdy gnd gkn gK gF (by first | omega | assumption | exact gnd _ | exact gkn _ | exact Nat.lt_trans (gkn _) (by decide) | exact Nat.lt_trans (gnd _) (by decide) | exact Nat.lt_of_le_of_lt (pcN_le _) (by decide))) (cwV 3 hts gX12_denies_X12_setOf rfl rfl rfl (by decide +kernel) ⟨Nat.le_of_ble_eq_true rfl, Nat.le_of_ble_eq_true rfl⟩) (preV_R hCX (va_recv hK hP (ci := 12) (q0 := 0) rfl rfl) ⟨rfl, hPc, hDc.weaken (fun _ _ _ _ => trivial)⟩) rfl rfl hl.1 rfl (lv_room (Nat.le_of_ble_eq_true rfl)) dX12_denies_57 ⟨Nat.le_of_ble_eq_true (by first | rfl | decide), Nat.le_of_ble_eq_true (by first | rfl | decide)⟩) hS (fun q _ h => hFc q h) hFc (fun u T8 H1 locs hT8 hvm hw hB hz1 hk1 hS => ?_)
    obtain ⟨hP1, hD1⟩ := hB
    rw [hT8] at hP1
    obtain ⟨hP, hD⟩ := va_join (wr := []) (w1 := [(y, .inr (12, [.ref as, .ref ai, .ref ar, .ref am, .ref ak, .ref ao, .ref az, .ref ae, .ref aq, .ref af, .int (bI hi), .int th, .int (nI po), .int (nI ba), .int (nI en), .ref an, .ref aw, .ref ax, .ref ap, .int se]))] ++ [(as, .inl (cI, 53, .inl (sF n d (t ||| (2 ^ i)) (day + 1) al nd (upd bb i (nI j)) (upd oo i (nI (day + 1))) K F kn)))]) hP hD [0, 1] [] rfl rfl (by decide) (by decide) hk1 hFc hP1 hD1
    generalize H1 = H at hP hS ⊢
    have hP : va_P (dC, dI) vwCl ([(y, .inr (12, [.ref as, .ref ai, .ref ar, .ref am, .ref ak, .ref ao, .ref az, .ref ae, .ref aq, .ref af, .int (bI hi), .int th, .int (nI po), .int (nI ba), .int (nI en), .ref an, .ref aw, .ref ax, .ref ap, .int se]))] ++ [(as, .inl (cI, 53, .inl (sF n d (t ||| (2 ^ i)) (day + 1) al nd (upd bb i (nI j)) (upd oo i (nI (day + 1))) K F kn)))]) H := hP
    have hD : va_D A ([(y, .inr (12, [.ref as, .ref ai, .ref ar, .ref am, .ref ak, .ref ao, .ref az, .ref ae, .ref aq, .ref af, .int (bI hi), .int th, .int (nI po), .int (nI ba), .int (nI en), .ref an, .ref aw, .ref ax, .ref ap, .int se]))] ++ [(as, .inl (cI, 53, .inl (sF n d (t ||| (2 ^ i)) (day + 1) al nd (upd bb i (nI j)) (upd oo i (nI (day + 1))) K F kn)))]) := hD
    refine lv_aload_n hx hb dX12_denies_60 rfl (lv_at hl 1 rfl) ?_
    refine lv_iload_n hx hb dX12_denies_61 rfl (lv_at hl 2 rfl) ?_
    refine lv_iconst (v := nI 2) hx hb dX12_denies_62 (by decide +kernel) ?_
    refine lv_aload_n hx hb dX12_denies_63 rfl (lv_at hl 1 rfl) ?_
    refine lv_iload_n hx hb dX12_denies_64 rfl (lv_at hl 2 rfl) ?_
    refine lv_iconst (v := nI 2) hx hb dX12_denies_65 (by decide +kernel) ?_
    refine vp_callSi ((va_runV (As := [.int (nI j), .int (nI 2)]) (rest := [.int (nI 2), .int (nI j), .ref y]) ⟨hx, hb, hml, hown, hts⟩ (c_X12_get_2 l dC dI cI cD cR y as ai ar am ak ao az ae aq af hi th po ba en an aw ax ap se n d (t ||| (2 ^ i)) (day + 1) al nd (upd bb i (nI j)) (upd oo i (nI (day + 1))) K F kn j (by first | omega | assumption | exact gnd _ | exact gkn _ | exact Nat.lt_trans (gkn _) (by decide) | exact Nat.lt_trans (gnd _) (by decide) | exact Nat.lt_of_le_of_lt (pcN_le _) (by decide)) (by first | omega | assumption | exact gnd _ | exact gkn _ | exact Nat.lt_trans (gkn _) (by decide) | exact Nat.lt_trans (gnd _) (by decide) | exact Nat.lt_of_le_of_lt (pcN_le _) (by decide)) (or_512 ht (bit_512 hi9)) (by first | omega | assumption | exact gnd _ | exact gkn _ | exact Nat.lt_trans (gkn _) (by decide) | exact Nat.lt_trans (gnd _) (by decide) | exact Nat.lt_of_le_of_lt (pcN_le _) (by decide)) hdy gnd gkn gK gF (by first | omega | assumption | exact gnd _ | exact gkn _ | exact Nat.lt_trans (gkn _) (by decide) | exact Nat.lt_trans (gnd _) (by decide) | exact Nat.lt_of_le_of_lt (pcN_le _) (by decide))) (cwV 2 hts gX12_denies_X12_get rfl rfl rfl (by decide +kernel) ⟨Nat.le_of_ble_eq_true rfl, Nat.le_of_ble_eq_true rfl⟩) (preV_R hCX (va_recv hK hP (ci := 12) (q0 := 0) rfl rfl) (hP)) rfl rfl hl.1 rfl (lv_room (Nat.le_of_ble_eq_true rfl)) dX12_denies_66 ⟨Nat.le_of_ble_eq_true (by first | rfl | decide), Nat.le_of_ble_eq_true (by first | rfl | decide)⟩).run) (fun r_66 hr_66 => ?_)
    subst hr_66
    refine lv_iconst (v := nI 1) hx hb dX12_denies_69 (by decide +kernel) ?_
    refine lv_iload_n hx hb dX12_denies_70 rfl (lv_at hl 3 rfl) ?_
    refine ho_shl1 hx hb dX12_denies_71 (by omega) ?_
    refine ho_ior hx hb dX12_denies_72 ?_
    have hPc := hP
    have hDc := hD
    have hFc := va_free (wc := [(y, .inr (12, [.ref as, .ref ai, .ref ar, .ref am, .ref ak, .ref ao, .ref az, .ref ae, .ref aq, .ref af, .int (bI hi), .int th, .int (nI po), .int (nI ba), .int (nI en), .ref an, .ref aw, .ref ax, .ref ap, .int se]))] ++ [(as, .inl (cI, 53, .inl (sF n d (t ||| (2 ^ i)) (day + 1) al nd (upd bb i (nI j)) (upd oo i (nI (day + 1))) K F kn)))]) hD hS hA [0, 1] rfl
    refine va_callv (va_runV (As := [.int (nI j), .int (nI 2), .int (nI ((kn j) ||| (2 ^ i)))]) (rest := []) ⟨hx, hb, hml, hown, hts⟩ (c_X12_puts_2 l dC dI cI cD cR y as ai ar am ak ao az ae aq af hi th po ba en an aw ax ap se n d (t ||| (2 ^ i)) (day + 1) al nd (upd bb i (nI j)) (upd oo i (nI (day + 1))) K F kn j ((kn j) ||| (2 ^ i)) H.size (by first | omega | assumption | exact gnd _ | exact gkn _ | exact Nat.lt_trans (gkn _) (by decide) | exact Nat.lt_trans (gnd _) (by decide) | exact Nat.lt_of_le_of_lt (pcN_le _) (by decide)) (by first | omega | assumption | exact gnd _ | exact gkn _ | exact Nat.lt_trans (gkn _) (by decide) | exact Nat.lt_trans (gnd _) (by decide) | exact Nat.lt_of_le_of_lt (pcN_le _) (by decide)) (or_512 ht (bit_512 hi9)) (by first | omega | assumption | exact gnd _ | exact gkn _ | exact Nat.lt_trans (gkn _) (by decide) | exact Nat.lt_trans (gnd _) (by decide) | exact Nat.lt_of_le_of_lt (pcN_le _) (by decide)) hdy gnd gkn gK gF (by first | omega | assumption | exact gnd _ | exact gkn _ | exact Nat.lt_trans (gkn _) (by decide) | exact Nat.lt_trans (gnd _) (by decide) | exact Nat.lt_of_le_of_lt (pcN_le _) (by decide))) (cwV 3 hts gX12_denies_X12_puts rfl rfl rfl (by decide +kernel) ⟨Nat.le_of_ble_eq_true rfl, Nat.le_of_ble_eq_true rfl⟩) (preV_R hCX (va_recv hK hP (ci := 12) (q0 := 0) rfl rfl) ⟨rfl, hPc, hDc.weaken (fun _ _ _ _ => trivial)⟩) rfl rfl hl.1 rfl (lv_room (Nat.le_of_ble_eq_true rfl)) dX12_denies_73 ⟨Nat.le_of_ble_eq_true (by first | rfl | decide), Nat.le_of_ble_eq_true (by first | rfl | decide)⟩) hS (fun q _ h => hFc q h) hFc (fun u T8 H1 locs hT8 hvm hw hB hz1 hk1 hS => ?_)
    obtain ⟨hP1, hD1⟩ := hB
    rw [hT8] at hP1
    obtain ⟨hP, hD⟩ := va_join (wr := []) (w1 := [(y, .inr (12, [.ref as, .ref ai, .ref ar, .ref am, .ref ak, .ref ao, .ref az, .ref ae, .ref aq, .ref af, .int (bI hi), .int th, .int (nI po), .int (nI ba), .int (nI en), .ref an, .ref aw, .ref ax, .ref ap, .int se]))] ++ [(as, .inl (cI, 53, .inl (sF n d (t ||| (2 ^ i)) (day + 1) al nd (upd bb i (nI j)) (upd oo i (nI (day + 1))) K F (va_up kn j ((kn j) ||| (2 ^ i))))))]) hP hD [0, 1] [] rfl rfl (by decide) (by decide) hk1 hFc hP1 hD1
    generalize H1 = H at hP hS ⊢
    have hP : va_P (dC, dI) vwCl ([(y, .inr (12, [.ref as, .ref ai, .ref ar, .ref am, .ref ak, .ref ao, .ref az, .ref ae, .ref aq, .ref af, .int (bI hi), .int th, .int (nI po), .int (nI ba), .int (nI en), .ref an, .ref aw, .ref ax, .ref ap, .int se]))] ++ [(as, .inl (cI, 53, .inl (sF n d (t ||| (2 ^ i)) (day + 1) al nd (upd bb i (nI j)) (upd oo i (nI (day + 1))) K F (va_up kn j ((kn j) ||| (2 ^ i))))))]) H := hP
    have hD : va_D A ([(y, .inr (12, [.ref as, .ref ai, .ref ar, .ref am, .ref ak, .ref ao, .ref az, .ref ae, .ref aq, .ref af, .int (bI hi), .int th, .int (nI po), .int (nI ba), .int (nI en), .ref an, .ref aw, .ref ax, .ref ap, .int se]))] ++ [(as, .inl (cI, 53, .inl (sF n d (t ||| (2 ^ i)) (day + 1) al nd (upd bb i (nI j)) (upd oo i (nI (day + 1))) K F (va_up kn j ((kn j) ||| (2 ^ i))))))]) := hD
    refine lv_iconst (v := nI 1) hx hb dX12_denies_76 (by decide +kernel) ?_
    have hW9 : ([(y, .inr (12, [.ref as, .ref ai, .ref ar, .ref am, .ref ak, .ref ao, .ref az, .ref ae, .ref aq, .ref af, .int (bI hi), .int th, .int (nI po), .int (nI ba), .int (nI en), .ref an, .ref aw, .ref ax, .ref ap, .int se]))] ++ [(as, .inl (cI, 53, .inl (sF n d (t ||| (2 ^ i)) (day + 1) al nd (upd bb i (nI j)) (upd oo i (nI (day + 1))) K F (va_up kn j ((kn j) ||| (2 ^ i))))))] : va_W) = [(y, .inr (12, [.ref as, .ref ai, .ref ar, .ref am, .ref ak, .ref ao, .ref az, .ref ae, .ref aq, .ref af, .int (bI hi), .int th, .int (nI po), .int (nI ba), .int (nI en), .ref an, .ref aw, .ref ax, .ref ap, .int se]))] ++ [(as, .inl (cI, 53, .inl (sF n d (bif siB (K j) t (kn j) (nd i) (day % 2 != 0) then t ||| 2 ^ i else t) (day + 1) al nd (bif siB (K j) t (kn j) (nd i) (day % 2 != 0) then upd bb i (nI j) else bb) (bif siB (K j) t (kn j) (nd i) (day % 2 != 0) then upd oo i (nI (day + 1)) else oo) K F (bif siB (K j) t (kn j) (nd i) (day % 2 != 0) then va_up kn j (kn j ||| 2 ^ i) else kn))))] := by simp only [c_24, cond_true, cond_false]
    rw [hW9] at hP hD
    exact W.zret (v := nI 1) hx hb hr rfl (fun T9 hT9 hW9 => ⟨⟨_, (), rfl, (bI_t (by exact c_24)), by rw [hT9]; exact hP, hD⟩, hS.F hT9⟩) hS.2.2 dX12_denies_77
  refine lv_iconst (v := nI 0) hx hb dX12_denies_27 (by decide +kernel) ?_
  have hW9 : ([(y, .inr (12, [.ref as, .ref ai, .ref ar, .ref am, .ref ak, .ref ao, .ref az, .ref ae, .ref aq, .ref af, .int (bI hi), .int th, .int (nI po), .int (nI ba), .int (nI en), .ref an, .ref aw, .ref ax, .ref ap, .int se]))] ++ [(as, .inl (cI, 53, .inl (sF n d t (day + 1) al nd bb oo K F kn)))] : va_W) = [(y, .inr (12, [.ref as, .ref ai, .ref ar, .ref am, .ref ak, .ref ao, .ref az, .ref ae, .ref aq, .ref af, .int (bI hi), .int th, .int (nI po), .int (nI ba), .int (nI en), .ref an, .ref aw, .ref ax, .ref ap, .int se]))] ++ [(as, .inl (cI, 53, .inl (sF n d (bif siB (K j) t (kn j) (nd i) (day % 2 != 0) then t ||| 2 ^ i else t) (day + 1) al nd (bif siB (K j) t (kn j) (nd i) (day % 2 != 0) then upd bb i (nI j) else bb) (bif siB (K j) t (kn j) (nd i) (day % 2 != 0) then upd oo i (nI (day + 1)) else oo) K F (bif siB (K j) t (kn j) (nd i) (day % 2 != 0) then va_up kn j (kn j ||| 2 ^ i) else kn))))] := by simp only [c_24, cond_true, cond_false]
  rw [hW9] at hP hD
  exact W.zret (v := nI 0) hx hb hr rfl (fun T9 hT9 hW9 => ⟨⟨_, (), rfl, (bI_f (by exact c_24)), by rw [hT9]; exact hP, hD⟩, hS.F hT9⟩) hS.2.2 dX12_denies_28
set_option maxHeartbeats 4000000 in
set_option maxRecDepth 100000 in
theorem c_X12_fallsBy (l : Launch) (dC : Nat → ClassId) (dI : Nat → Nat → Nat) (cI cD cR : ClassId) (y as ai ar am ak ao az ae aq af : Nat) (hi : Bool) (th : Int32) (po ba en an aw ax ap : Nat) (se : Int32) (n d t day al : Nat) (nd : Nat → Nat) (bb oo : Nat → Int32) (K F kn : Nat → Nat) (j : Nat) (hn : n ≤ 9) (hd : d ≤ 7) (ht : t < 512) (hal : al < 128) (hday : day < 2 ^ 30) (gnd : ∀ i, nd i < 512) (gkn : ∀ j, kn j < 512) (gK : ∀ j, K j < 8) (gF : ∀ j, F j < 10) (hj9 : j < 7) : Met l yX12_fallsBy wsX12_fallsBy ({ frames := 2, cells := 0, slots := 0, locals := 42 }) (pcR dC dI cI cD cR [.ref y, .int (nI j)] (fun H => va_P (dC, dI) vwCl ([(y, .inr (12, [.ref as, .ref ai, .ref ar, .ref am, .ref ak, .ref ao, .ref az, .ref ae, .ref aq, .ref af, .int (bI hi), .int th, .int (nI po), .int (nI ba), .int (nI en), .ref an, .ref aw, .ref ax, .ref ap, .int se]))] ++ [(as, .inl (cI, 53, .inl (sF n d t day al nd bb oo K F kn)))]) H)) (vp_Si (fun r => r = nI (bif al.testBit j then ruR t nd n 9 (orF (fun s9 => t.testBit s9 && decide (bb s9 = nI j)) n) else 0))) 0 0 (fun _ => False) := by
  refine Met.ofW (cc := cX12_fallsBy) (maxL := 5) (ret := (some .int)) (by decide) rfl ?_
  intro p e s m args below meth c s₁ B hml hv
  obtain ⟨rfl, hH0, hCX⟩ := hv
  have hx := B.exec
  have hb := B.bytes
  have hr := B.returns
  have hts := atoms_spec (ws := wsX12_fallsBy) B.pre
  have hown : s.vm.findClass RX12 = some m.cls := findClass_of_methodNamed B.named
  have hlocks := B.notSynchronized
  have hK := hCX.1
  have hP := hH0
  have hl := lv_entry ([.ref y, .int (nI j)]) (n := 5) (Nat.le_of_ble_eq_true rfl)
  rw [lg_entry_eq]
  generalize (lg_sl ([.ref y, .int (nI j)]) ++ List.replicate (5 - (lg_sl ([.ref y, .int (nI j)])).length) Slot.unset).toArray = ls at hl ⊢
  have hl : lv_has ls 5 [(0, .ref y), (1, .int (nI j))] := hl
  refine lv_iconst (v := nI 0) hx hb dX12_fallsBy_0 (by decide +kernel) ?_
  refine lv_istore_n (lv' := [(2, .int (nI 0)), (0, .ref y), (1, .int (nI j))]) hx hb dX12_fallsBy_1 rfl hl (by decide) rfl (fun ls hl => ?_)
  refine lv_iconst (v := nI 0) hx hb dX12_fallsBy_2 (by decide +kernel) ?_
  refine lv_istore_n (lv' := [(3, .int (nI 0)), (2, .int (nI 0)), (0, .ref y), (1, .int (nI j))]) hx hb dX12_fallsBy_3 rfl hl (by decide) rfl (fun ls hl => ?_)
  refine ho_lp (T := Nat) 5 (fun x9 => [(3, .int (nI x9)), (2, .int (nI (orF (fun s9 => t.testBit s9 && decide (bb s9 = nI j)) x9))), (0, .ref y), (1, .int (nI j))]) (fun x9 => []) (fun x9 => (x9 ≤ n)) (fun x9 => n - x9) 0 (by omega) (lv_sub hl [0, 1, 2, 3] rfl) ?_
  intro fu4 i ls hI hm4 hl ih
  have hin := hI
  have hl : lv_has ls 5 [(3, .int (nI i)), (2, .int (nI (orF (fun s9 => t.testBit s9 && decide (bb s9 = nI j)) i))), (0, .ref y), (1, .int (nI j))] := hl
  have hin : i ≤ n := hin
  have hm4 : n - i < fu4 + 1 := hm4
  refine W.eq (g2 := F0 m 4 ls []) rfl ?_
  have ih4 := ih
  refine lv_iload_n hx hb dX12_fallsBy_4 rfl (lv_at hl 0 rfl) ?_
  refine lv_aload_n hx hb dX12_fallsBy_5 rfl (lv_at hl 2 rfl) ?_
  refine va_get (D := (dC, dI)) (ci := 12) (v := .ref as) (C := RX12) (T := TX12) (N := 20) hx hb hts (fun _ h => List.mem_cons_of_mem _ (List.mem_append_right _ h)) hown hK hP 0 rfl rfl 0 (by decide) (hts (.fieldLink RX12 9 "HoldsOnceDeniedModel" "s" "[I") (by decide +kernel)) (fun _ h9 => h9) rfl dX12_fallsBy_6 ?_
  refine lv_iconst (v := nI 0) hx hb dX12_fallsBy_9 (by decide +kernel) ?_
  refine ho_iald (v := nI n) hx hb hK hP 1 0 rfl rfl (by omega) (by first | decide | omega) rfl dX12_fallsBy_10 ?_
  refine ho_icmp_ge (tgt := 48) hx hb dX12_fallsBy_11 (by decide) (by omega) (by omega) (fun c_11 => ?_) (fun c_11 => ?_)
  · refine lv_iconst (v := nI 0) hx hb dX12_fallsBy_48 (by decide +kernel) ?_
    refine lv_istore_n (lv' := [(3, .int (nI 0)), (2, .int (nI (orF (fun s9 => t.testBit s9 && decide (bb s9 = nI j)) i))), (0, .ref y), (1, .int (nI j))]) hx hb dX12_fallsBy_49 rfl hl (by decide) rfl (fun ls hl => ?_)
    have e9_2 : orF (fun s9 => t.testBit s9 && decide (bb s9 = nI j)) i = ruR t nd n 0 (orF (fun s9 => t.testBit s9 && decide (bb s9 = nI j)) n) := by rw [show i = n by omega]; rfl
    rw [e9_2] at hl
    refine ho_lp (T := Nat) 5 (fun x9 => [(3, .int (nI x9)), (2, .int (nI (ruR t nd n x9 (orF (fun s9 => t.testBit s9 && decide (bb s9 = nI j)) n)))), (0, .ref y), (1, .int (nI j))]) (fun x9 => []) (fun x9 => (x9 ≤ 9)) (fun x9 => 9 - x9) 0 (by omega) (lv_sub hl [0, 1, 2, 3] rfl) ?_
    intro fu50 r ls hI hm50 hl ih
    have hr9 := hI
    have hl : lv_has ls 5 [(3, .int (nI r)), (2, .int (nI (ruR t nd n r (orF (fun s9 => t.testBit s9 && decide (bb s9 = nI j)) n)))), (0, .ref y), (1, .int (nI j))] := hl
    have hr9 : r ≤ 9 := hr9
    have hm50 : 9 - r < fu50 + 1 := hm50
    refine W.eq (g2 := F0 m 50 ls []) rfl ?_
    have ih50 := ih
    refine lv_iload_n hx hb dX12_fallsBy_50 rfl (lv_at hl 0 rfl) ?_
    refine lv_bipush (v := nI 9) hx hb dX12_fallsBy_51 (by decide +kernel) ?_
    refine ho_icmp_ge (tgt := 114) hx hb dX12_fallsBy_53 (by decide) (by omega) (by omega) (fun c_53 => ?_) (fun c_53 => ?_)
    · refine lv_aload_n hx hb dX12_fallsBy_114 rfl (lv_at hl 2 rfl) ?_
      refine lv_iload_n hx hb dX12_fallsBy_115 rfl (lv_at hl 3 rfl) ?_
      refine vp_callSi ((va_runV (As := [.int (nI j)]) (rest := []) ⟨hx, hb, hml, hown, hts⟩ (c_X12_isAlive l dC dI cI cD cR y as ai ar am ak ao az ae aq af hi th po ba en an aw ax ap se n d t day al nd bb oo K F kn j (by first | omega | assumption | exact gnd _ | exact gkn _ | exact Nat.lt_trans (gkn _) (by decide) | exact Nat.lt_trans (gnd _) (by decide) | exact Nat.lt_of_le_of_lt (pcN_le _) (by decide)) (by first | omega | assumption | exact gnd _ | exact gkn _ | exact Nat.lt_trans (gkn _) (by decide) | exact Nat.lt_trans (gnd _) (by decide) | exact Nat.lt_of_le_of_lt (pcN_le _) (by decide)) (by first | omega | assumption | exact gnd _ | exact gkn _ | exact Nat.lt_trans (gkn _) (by decide) | exact Nat.lt_trans (gnd _) (by decide) | exact Nat.lt_of_le_of_lt (pcN_le _) (by decide)) (by first | omega | assumption | exact gnd _ | exact gkn _ | exact Nat.lt_trans (gkn _) (by decide) | exact Nat.lt_trans (gnd _) (by decide) | exact Nat.lt_of_le_of_lt (pcN_le _) (by decide)) (by first | omega | assumption | exact gnd _ | exact gkn _ | exact Nat.lt_trans (gkn _) (by decide) | exact Nat.lt_trans (gnd _) (by decide) | exact Nat.lt_of_le_of_lt (pcN_le _) (by decide)) gnd gkn gK gF (by first | omega | assumption | exact gnd _ | exact gkn _ | exact Nat.lt_trans (gkn _) (by decide) | exact Nat.lt_trans (gnd _) (by decide) | exact Nat.lt_of_le_of_lt (pcN_le _) (by decide))) (cwV 1 hts gX12_fallsBy_X12_isAlive rfl rfl rfl (by decide +kernel) ⟨Nat.le_of_ble_eq_true rfl, Nat.le_of_ble_eq_true rfl⟩) (preV_R hCX (va_recv hK hP (ci := 12) (q0 := 0) rfl rfl) (hP)) rfl rfl hl.1 rfl (lv_room (Nat.le_of_ble_eq_true rfl)) dX12_fallsBy_116 ⟨Nat.le_of_ble_eq_true (by first | rfl | decide), Nat.le_of_ble_eq_true (by first | rfl | decide)⟩).run) (fun r_116 hr_116 => ?_)
      subst hr_116
      refine ho_beq (tgt := 126) hx hb dX12_fallsBy_119 (by decide) (fun c_119 => ?_) (fun c_119 => ?_)
      · refine lv_iconst (v := nI 0) hx hb dX12_fallsBy_126 (by decide +kernel) ?_
        exact W.iret (v := nI 0) hx hb hr (fun T9 hT9 hW9 => ⟨_, rfl, (congrArg nI (by first | (rw [c_119, show r = 9 by omega]; rfl) | (rw [c_119]; rfl))), hT9⟩) (fun q h => by cases h) dX12_fallsBy_127
      refine lv_iload_n hx hb dX12_fallsBy_122 rfl (lv_at hl 1 rfl) ?_
      refine lv_goto (tgt := 127) hx hb dX12_fallsBy_123 (by decide) ?_
      exact W.iret (v := nI (ruR t nd n r (orF (fun s9 => t.testBit s9 && decide (bb s9 = nI j)) n))) hx hb hr (fun T9 hT9 hW9 => ⟨_, rfl, (congrArg nI (by first | (rw [c_119, show r = 9 by omega]; rfl) | (rw [c_119]; rfl))), hT9⟩) (fun q h => by cases h) dX12_fallsBy_127
    refine lv_iconst (v := nI 0) hx hb dX12_fallsBy_56 (by decide +kernel) ?_
    refine lv_istore (lv' := [(4, .int (nI 0)), (3, .int (nI r)), (2, .int (nI (ruR t nd n r (orF (fun s9 => t.testBit s9 && decide (bb s9 = nI j)) n)))), (0, .ref y), (1, .int (nI j))]) hx hb dX12_fallsBy_57 hl (by decide) rfl (fun ls hl => ?_)
    have e9_2 : ruR t nd n r (orF (fun s9 => t.testBit s9 && decide (bb s9 = nI j)) n) = ruI t nd 0 (ruR t nd n r (orF (fun s9 => t.testBit s9 && decide (bb s9 = nI j)) n)) := by rfl
    rw [e9_2] at hl
    refine ho_lp (T := Nat) 5 (fun x9 => [(4, .int (nI x9)), (3, .int (nI r)), (2, .int (nI (ruI t nd x9 (ruR t nd n r (orF (fun s9 => t.testBit s9 && decide (bb s9 = nI j)) n))))), (0, .ref y), (1, .int (nI j))]) (fun x9 => []) (fun x9 => (x9 ≤ n)) (fun x9 => n - x9) 0 (by omega) (lv_sub hl [0, 1, 2, 3, 4] rfl) ?_
    intro fu59 u ls hI hm59 hl ih
    have hun := hI
    have hl : lv_has ls 5 [(4, .int (nI u)), (3, .int (nI r)), (2, .int (nI (ruI t nd u (ruR t nd n r (orF (fun s9 => t.testBit s9 && decide (bb s9 = nI j)) n))))), (0, .ref y), (1, .int (nI j))] := hl
    have hun : u ≤ n := hun
    have hm59 : n - u < fu59 + 1 := hm59
    refine W.eq (g2 := F0 m 59 ls []) rfl ?_
    have ih59 := ih
    refine lv_iload hx hb dX12_fallsBy_59 (lv_at hl 0 rfl) ?_
    refine lv_aload_n hx hb dX12_fallsBy_61 rfl (lv_at hl 3 rfl) ?_
    refine va_get (D := (dC, dI)) (ci := 12) (v := .ref as) (C := RX12) (T := TX12) (N := 20) hx hb hts (fun _ h => List.mem_cons_of_mem _ (List.mem_append_right _ h)) hown hK hP 0 rfl rfl 0 (by decide) (hts (.fieldLink RX12 9 "HoldsOnceDeniedModel" "s" "[I") (by decide +kernel)) (fun _ h9 => h9) rfl dX12_fallsBy_62 ?_
    refine lv_iconst (v := nI 0) hx hb dX12_fallsBy_65 (by decide +kernel) ?_
    refine ho_iald (v := nI n) hx hb hK hP 1 0 rfl rfl (by omega) (by first | decide | omega) rfl dX12_fallsBy_66 ?_
    refine ho_icmp_ge (tgt := 108) hx hb dX12_fallsBy_67 (by decide) (by omega) (by omega) (fun c_67 => ?_) (fun c_67 => ?_)
    · refine ho_iinc (lv' := [(3, .int (nI (r + 1))), (4, .int (nI u)), (2, .int (nI (ruI t nd u (ruR t nd n r (orF (fun s9 => t.testBit s9 && decide (bb s9 = nI j)) n))))), (0, .ref y), (1, .int (nI j))]) (a := r) (b := 1) hx hb dX12_fallsBy_108 hl (k := 1) rfl rfl (by decide) rfl (fun ls hl => ?_)
      refine lv_goto (tgt := 50) hx hb dX12_fallsBy_111 (by decide) ?_
      have e9_2 : ruI t nd u (ruR t nd n r (orF (fun s9 => t.testBit s9 && decide (bb s9 = nI j)) n)) = ruR t nd n (r + 1) (orF (fun s9 => t.testBit s9 && decide (bb s9 = nI j)) n) := by rw [show u = n by omega]; rfl
      rw [e9_2] at hl
      exact ih50 (r + 1) _ (by omega) (show 9 - (r + 1) < fu50 from (by omega)) (lv_sub hl [0, 2, 3, 4] rfl)
    refine lv_iload_n hx hb dX12_fallsBy_70 rfl (lv_at hl 2 rfl) ?_
    refine lv_aload_n hx hb dX12_fallsBy_71 rfl (lv_at hl 3 rfl) ?_
    refine lv_iload hx hb dX12_fallsBy_72 (lv_at hl 0 rfl) ?_
    refine vp_callSi ((va_runV (As := [.int (nI u)]) (rest := [.int (nI (ruI t nd u (ruR t nd n r (orF (fun s9 => t.testBit s9 && decide (bb s9 = nI j)) n))))]) ⟨hx, hb, hml, hown, hts⟩ (c_X12_isTrue l dC dI cI cD cR y as ai ar am ak ao az ae aq af hi th po ba en an aw ax ap se n d t day al nd bb oo K F kn u (by first | omega | assumption | exact gnd _ | exact gkn _ | exact Nat.lt_trans (gkn _) (by decide) | exact Nat.lt_trans (gnd _) (by decide) | exact Nat.lt_of_le_of_lt (pcN_le _) (by decide)) (by first | omega | assumption | exact gnd _ | exact gkn _ | exact Nat.lt_trans (gkn _) (by decide) | exact Nat.lt_trans (gnd _) (by decide) | exact Nat.lt_of_le_of_lt (pcN_le _) (by decide)) (by first | omega | assumption | exact gnd _ | exact gkn _ | exact Nat.lt_trans (gkn _) (by decide) | exact Nat.lt_trans (gnd _) (by decide) | exact Nat.lt_of_le_of_lt (pcN_le _) (by decide)) (by first | omega | assumption | exact gnd _ | exact gkn _ | exact Nat.lt_trans (gkn _) (by decide) | exact Nat.lt_trans (gnd _) (by decide) | exact Nat.lt_of_le_of_lt (pcN_le _) (by decide)) (by first | omega | assumption | exact gnd _ | exact gkn _ | exact Nat.lt_trans (gkn _) (by decide) | exact Nat.lt_trans (gnd _) (by decide) | exact Nat.lt_of_le_of_lt (pcN_le _) (by decide)) gnd gkn gK gF (by first | omega | assumption | exact gnd _ | exact gkn _ | exact Nat.lt_trans (gkn _) (by decide) | exact Nat.lt_trans (gnd _) (by decide) | exact Nat.lt_of_le_of_lt (pcN_le _) (by decide))) (cwV 1 hts gX12_fallsBy_X12_isTrue rfl rfl rfl (by decide +kernel) ⟨Nat.le_of_ble_eq_true rfl, Nat.le_of_ble_eq_true rfl⟩) (preV_R hCX (va_recv hK hP (ci := 12) (q0 := 0) rfl rfl) (hP)) rfl rfl hl.1 rfl (lv_room (Nat.le_of_ble_eq_true rfl)) dX12_fallsBy_74 ⟨Nat.le_of_ble_eq_true (by first | rfl | decide), Nat.le_of_ble_eq_true (by first | rfl | decide)⟩).run) (fun r_74 hr_74 => ?_)
    subst hr_74
    refine ho_beq (tgt := 99) hx hb dX12_fallsBy_77 (by decide) (fun c_77 => ?_) (fun c_77 => ?_)
    · refine lv_iconst (v := nI 0) hx hb dX12_fallsBy_99 (by decide +kernel) ?_
      refine ho_ior hx hb dX12_fallsBy_100 ?_
      refine lv_istore_n (lv' := [(2, .int (nI ((ruI t nd u (ruR t nd n r (orF (fun s9 => t.testBit s9 && decide (bb s9 = nI j)) n))) ||| 0))), (4, .int (nI u)), (3, .int (nI r)), (0, .ref y), (1, .int (nI j))]) hx hb dX12_fallsBy_101 rfl hl (by decide) rfl (fun ls hl => ?_)
      refine ho_iinc (lv' := [(4, .int (nI (u + 1))), (2, .int (nI ((ruI t nd u (ruR t nd n r (orF (fun s9 => t.testBit s9 && decide (bb s9 = nI j)) n))) ||| 0))), (3, .int (nI r)), (0, .ref y), (1, .int (nI j))]) (a := u) (b := 1) hx hb dX12_fallsBy_102 hl (k := 1) rfl rfl (by decide) rfl (fun ls hl => ?_)
      refine lv_goto (tgt := 59) hx hb dX12_fallsBy_105 (by decide) ?_
      have e9_2 : (ruI t nd u (ruR t nd n r (orF (fun s9 => t.testBit s9 && decide (bb s9 = nI j)) n))) ||| 0 = ruI t nd (u + 1) (ruR t nd n r (orF (fun s9 => t.testBit s9 && decide (bb s9 = nI j)) n)) := by first | exact ruI_t c_77 c_89 | exact ruI_u1 c_77 | exact ruI_u2 c_89
      rw [e9_2] at hl
      exact ih59 (u + 1) _ (by omega) (show n - (u + 1) < fu59 from (by omega)) (lv_sub hl [0, 2, 1, 3, 4] rfl)
    refine lv_aload_n hx hb dX12_fallsBy_80 rfl (lv_at hl 3 rfl) ?_
    refine lv_iload hx hb dX12_fallsBy_81 (lv_at hl 0 rfl) ?_
    refine lv_iconst (v := nI 0) hx hb dX12_fallsBy_83 (by decide +kernel) ?_
    refine vp_callSi ((va_runV (As := [.int (nI u), .int (nI 0)]) (rest := [.int (nI (ruI t nd u (ruR t nd n r (orF (fun s9 => t.testBit s9 && decide (bb s9 = nI j)) n))))]) ⟨hx, hb, hml, hown, hts⟩ (c_X12_of_0 l dC dI cI cD cR y as ai ar am ak ao az ae aq af hi th po ba en an aw ax ap se n d t day al nd bb oo K F kn u (by first | omega | assumption | exact gnd _ | exact gkn _ | exact Nat.lt_trans (gkn _) (by decide) | exact Nat.lt_trans (gnd _) (by decide) | exact Nat.lt_of_le_of_lt (pcN_le _) (by decide)) (by first | omega | assumption | exact gnd _ | exact gkn _ | exact Nat.lt_trans (gkn _) (by decide) | exact Nat.lt_trans (gnd _) (by decide) | exact Nat.lt_of_le_of_lt (pcN_le _) (by decide)) (by first | omega | assumption | exact gnd _ | exact gkn _ | exact Nat.lt_trans (gkn _) (by decide) | exact Nat.lt_trans (gnd _) (by decide) | exact Nat.lt_of_le_of_lt (pcN_le _) (by decide)) (by first | omega | assumption | exact gnd _ | exact gkn _ | exact Nat.lt_trans (gkn _) (by decide) | exact Nat.lt_trans (gnd _) (by decide) | exact Nat.lt_of_le_of_lt (pcN_le _) (by decide)) (by first | omega | assumption | exact gnd _ | exact gkn _ | exact Nat.lt_trans (gkn _) (by decide) | exact Nat.lt_trans (gnd _) (by decide) | exact Nat.lt_of_le_of_lt (pcN_le _) (by decide)) gnd gkn gK gF (by first | omega | assumption | exact gnd _ | exact gkn _ | exact Nat.lt_trans (gkn _) (by decide) | exact Nat.lt_trans (gnd _) (by decide) | exact Nat.lt_of_le_of_lt (pcN_le _) (by decide))) (cwV 2 hts gX12_fallsBy_X12_of rfl rfl rfl (by decide +kernel) ⟨Nat.le_of_ble_eq_true rfl, Nat.le_of_ble_eq_true rfl⟩) (preV_R hCX (va_recv hK hP (ci := 12) (q0 := 0) rfl rfl) (hP)) rfl rfl hl.1 rfl (lv_room (Nat.le_of_ble_eq_true rfl)) dX12_fallsBy_84 ⟨Nat.le_of_ble_eq_true (by first | rfl | decide), Nat.le_of_ble_eq_true (by first | rfl | decide)⟩).run) (fun r_84 hr_84 => ?_)
    subst hr_84
    refine lv_iload_n hx hb dX12_fallsBy_87 rfl (lv_at hl 2 rfl) ?_
    refine ho_iand hx hb dX12_fallsBy_88 ?_
    refine ho_if_eq (tgt := 99) hx hb dX12_fallsBy_89 (by decide) (Nat.lt_of_le_of_lt Nat.and_le_left (Nat.lt_trans (gnd _) (by decide))) (fun c_89 => ?_) (fun c_89 => ?_)
    · refine lv_iconst (v := nI 0) hx hb dX12_fallsBy_99 (by decide +kernel) ?_
      refine ho_ior hx hb dX12_fallsBy_100 ?_
      refine lv_istore_n (lv' := [(2, .int (nI ((ruI t nd u (ruR t nd n r (orF (fun s9 => t.testBit s9 && decide (bb s9 = nI j)) n))) ||| 0))), (4, .int (nI u)), (3, .int (nI r)), (0, .ref y), (1, .int (nI j))]) hx hb dX12_fallsBy_101 rfl hl (by decide) rfl (fun ls hl => ?_)
      refine ho_iinc (lv' := [(4, .int (nI (u + 1))), (2, .int (nI ((ruI t nd u (ruR t nd n r (orF (fun s9 => t.testBit s9 && decide (bb s9 = nI j)) n))) ||| 0))), (3, .int (nI r)), (0, .ref y), (1, .int (nI j))]) (a := u) (b := 1) hx hb dX12_fallsBy_102 hl (k := 1) rfl rfl (by decide) rfl (fun ls hl => ?_)
      refine lv_goto (tgt := 59) hx hb dX12_fallsBy_105 (by decide) ?_
      have e9_2 : (ruI t nd u (ruR t nd n r (orF (fun s9 => t.testBit s9 && decide (bb s9 = nI j)) n))) ||| 0 = ruI t nd (u + 1) (ruR t nd n r (orF (fun s9 => t.testBit s9 && decide (bb s9 = nI j)) n)) := by first | exact ruI_t c_77 c_89 | exact ruI_u1 c_77 | exact ruI_u2 c_89
      rw [e9_2] at hl
      exact ih59 (u + 1) _ (by omega) (show n - (u + 1) < fu59 from (by omega)) (lv_sub hl [0, 2, 1, 3, 4] rfl)
    refine lv_iconst (v := nI 1) hx hb dX12_fallsBy_92 (by decide +kernel) ?_
    refine lv_iload hx hb dX12_fallsBy_93 (lv_at hl 0 rfl) ?_
    refine ho_shl1 hx hb dX12_fallsBy_95 (by omega) ?_
    refine lv_goto (tgt := 100) hx hb dX12_fallsBy_96 (by decide) ?_
    refine ho_ior hx hb dX12_fallsBy_100 ?_
    refine lv_istore_n (lv' := [(2, .int (nI ((ruI t nd u (ruR t nd n r (orF (fun s9 => t.testBit s9 && decide (bb s9 = nI j)) n))) ||| (2 ^ u)))), (4, .int (nI u)), (3, .int (nI r)), (0, .ref y), (1, .int (nI j))]) hx hb dX12_fallsBy_101 rfl hl (by decide) rfl (fun ls hl => ?_)
    refine ho_iinc (lv' := [(4, .int (nI (u + 1))), (2, .int (nI ((ruI t nd u (ruR t nd n r (orF (fun s9 => t.testBit s9 && decide (bb s9 = nI j)) n))) ||| (2 ^ u)))), (3, .int (nI r)), (0, .ref y), (1, .int (nI j))]) (a := u) (b := 1) hx hb dX12_fallsBy_102 hl (k := 1) rfl rfl (by decide) rfl (fun ls hl => ?_)
    refine lv_goto (tgt := 59) hx hb dX12_fallsBy_105 (by decide) ?_
    have e9_2 : (ruI t nd u (ruR t nd n r (orF (fun s9 => t.testBit s9 && decide (bb s9 = nI j)) n))) ||| (2 ^ u) = ruI t nd (u + 1) (ruR t nd n r (orF (fun s9 => t.testBit s9 && decide (bb s9 = nI j)) n)) := by first | exact ruI_t c_77 c_89 | exact ruI_u1 c_77 | exact ruI_u2 c_89
    rw [e9_2] at hl
    exact ih59 (u + 1) _ (by omega) (show n - (u + 1) < fu59 from (by omega)) (lv_sub hl [0, 2, 1, 3, 4] rfl)
  refine lv_iload_n hx hb dX12_fallsBy_14 rfl (lv_at hl 1 rfl) ?_
  refine lv_aload_n hx hb dX12_fallsBy_15 rfl (lv_at hl 2 rfl) ?_
  refine lv_iload_n hx hb dX12_fallsBy_16 rfl (lv_at hl 0 rfl) ?_
  refine vp_callSi ((va_runV (As := [.int (nI i)]) (rest := [.int (nI (orF (fun s9 => t.testBit s9 && decide (bb s9 = nI j)) i))]) ⟨hx, hb, hml, hown, hts⟩ (c_X12_isTrue l dC dI cI cD cR y as ai ar am ak ao az ae aq af hi th po ba en an aw ax ap se n d t day al nd bb oo K F kn i (by first | omega | assumption | exact gnd _ | exact gkn _ | exact Nat.lt_trans (gkn _) (by decide) | exact Nat.lt_trans (gnd _) (by decide) | exact Nat.lt_of_le_of_lt (pcN_le _) (by decide)) (by first | omega | assumption | exact gnd _ | exact gkn _ | exact Nat.lt_trans (gkn _) (by decide) | exact Nat.lt_trans (gnd _) (by decide) | exact Nat.lt_of_le_of_lt (pcN_le _) (by decide)) (by first | omega | assumption | exact gnd _ | exact gkn _ | exact Nat.lt_trans (gkn _) (by decide) | exact Nat.lt_trans (gnd _) (by decide) | exact Nat.lt_of_le_of_lt (pcN_le _) (by decide)) (by first | omega | assumption | exact gnd _ | exact gkn _ | exact Nat.lt_trans (gkn _) (by decide) | exact Nat.lt_trans (gnd _) (by decide) | exact Nat.lt_of_le_of_lt (pcN_le _) (by decide)) (by first | omega | assumption | exact gnd _ | exact gkn _ | exact Nat.lt_trans (gkn _) (by decide) | exact Nat.lt_trans (gnd _) (by decide) | exact Nat.lt_of_le_of_lt (pcN_le _) (by decide)) gnd gkn gK gF (by first | omega | assumption | exact gnd _ | exact gkn _ | exact Nat.lt_trans (gkn _) (by decide) | exact Nat.lt_trans (gnd _) (by decide) | exact Nat.lt_of_le_of_lt (pcN_le _) (by decide))) (cwV 1 hts gX12_fallsBy_X12_isTrue rfl rfl rfl (by decide +kernel) ⟨Nat.le_of_ble_eq_true rfl, Nat.le_of_ble_eq_true rfl⟩) (preV_R hCX (va_recv hK hP (ci := 12) (q0 := 0) rfl rfl) (hP)) rfl rfl hl.1 rfl (lv_room (Nat.le_of_ble_eq_true rfl)) dX12_fallsBy_17 ⟨Nat.le_of_ble_eq_true (by first | rfl | decide), Nat.le_of_ble_eq_true (by first | rfl | decide)⟩).run) (fun r_17 hr_17 => ?_)
  subst hr_17
  refine ho_beq (tgt := 39) hx hb dX12_fallsBy_20 (by decide) (fun c_20 => ?_) (fun c_20 => ?_)
  · refine lv_iconst (v := nI 0) hx hb dX12_fallsBy_39 (by decide +kernel) ?_
    refine ho_ior hx hb dX12_fallsBy_40 ?_
    refine lv_istore_n (lv' := [(2, .int (nI ((orF (fun s9 => t.testBit s9 && decide (bb s9 = nI j)) i) ||| 0))), (3, .int (nI i)), (0, .ref y), (1, .int (nI j))]) hx hb dX12_fallsBy_41 rfl hl (by decide) rfl (fun ls hl => ?_)
    refine ho_iinc (lv' := [(3, .int (nI (i + 1))), (2, .int (nI ((orF (fun s9 => t.testBit s9 && decide (bb s9 = nI j)) i) ||| 0))), (0, .ref y), (1, .int (nI j))]) (a := i) (b := 1) hx hb dX12_fallsBy_42 hl (k := 1) rfl rfl (by decide) rfl (fun ls hl => ?_)
    refine lv_goto (tgt := 4) hx hb dX12_fallsBy_45 (by decide) ?_
    have e9_2 : (orF (fun s9 => t.testBit s9 && decide (bb s9 = nI j)) i) ||| 0 = orF (fun s9 => t.testBit s9 && decide (bb s9 = nI j)) (i + 1) := by first | (refine orF_t ?_; simp [c_20]; done) | (refine orF_t ?_; simp only [c_20, Bool.not_true, Bool.not_false, Bool.true_and, Bool.and_true, Bool.false_and, Bool.and_false]; done) | (refine orF_t ?_; simp [c_20, c_30]; done) | (refine orF_t ?_; simp only [c_20, c_30, Bool.not_true, Bool.not_false, Bool.true_and, Bool.and_true, Bool.false_and, Bool.and_false]; done) | (refine orF_u ?_; simp [c_20]; done) | (refine orF_u ?_; simp only [c_20, Bool.not_true, Bool.not_false, Bool.true_and, Bool.and_true, Bool.false_and, Bool.and_false]; done) | (refine orF_u ?_; simp [c_20, c_30]; done) | (refine orF_u ?_; simp only [c_20, c_30, Bool.not_true, Bool.not_false, Bool.true_and, Bool.and_true, Bool.false_and, Bool.and_false]; done)
    rw [e9_2] at hl
    exact ih4 (i + 1) _ (by omega) (show n - (i + 1) < fu4 from (by omega)) (lv_sub hl [0, 1, 2, 3] rfl)
  refine lv_aload_n hx hb dX12_fallsBy_23 rfl (lv_at hl 2 rfl) ?_
  refine lv_iload_n hx hb dX12_fallsBy_24 rfl (lv_at hl 0 rfl) ?_
  refine lv_iconst (v := nI 1) hx hb dX12_fallsBy_25 (by decide +kernel) ?_
  refine vp_callSi ((va_runV (As := [.int (nI i), .int (nI 1)]) (rest := [.int (nI (orF (fun s9 => t.testBit s9 && decide (bb s9 = nI j)) i))]) ⟨hx, hb, hml, hown, hts⟩ (c_X12_of_1 l dC dI cI cD cR y as ai ar am ak ao az ae aq af hi th po ba en an aw ax ap se n d t day al nd bb oo K F kn i (by first | omega | assumption | exact gnd _ | exact gkn _ | exact Nat.lt_trans (gkn _) (by decide) | exact Nat.lt_trans (gnd _) (by decide) | exact Nat.lt_of_le_of_lt (pcN_le _) (by decide)) (by first | omega | assumption | exact gnd _ | exact gkn _ | exact Nat.lt_trans (gkn _) (by decide) | exact Nat.lt_trans (gnd _) (by decide) | exact Nat.lt_of_le_of_lt (pcN_le _) (by decide)) (by first | omega | assumption | exact gnd _ | exact gkn _ | exact Nat.lt_trans (gkn _) (by decide) | exact Nat.lt_trans (gnd _) (by decide) | exact Nat.lt_of_le_of_lt (pcN_le _) (by decide)) (by first | omega | assumption | exact gnd _ | exact gkn _ | exact Nat.lt_trans (gkn _) (by decide) | exact Nat.lt_trans (gnd _) (by decide) | exact Nat.lt_of_le_of_lt (pcN_le _) (by decide)) (by first | omega | assumption | exact gnd _ | exact gkn _ | exact Nat.lt_trans (gkn _) (by decide) | exact Nat.lt_trans (gnd _) (by decide) | exact Nat.lt_of_le_of_lt (pcN_le _) (by decide)) gnd gkn gK gF (by first | omega | assumption | exact gnd _ | exact gkn _ | exact Nat.lt_trans (gkn _) (by decide) | exact Nat.lt_trans (gnd _) (by decide) | exact Nat.lt_of_le_of_lt (pcN_le _) (by decide))) (cwV 2 hts gX12_fallsBy_X12_of rfl rfl rfl (by decide +kernel) ⟨Nat.le_of_ble_eq_true rfl, Nat.le_of_ble_eq_true rfl⟩) (preV_R hCX (va_recv hK hP (ci := 12) (q0 := 0) rfl rfl) (hP)) rfl rfl hl.1 rfl (lv_room (Nat.le_of_ble_eq_true rfl)) dX12_fallsBy_26 ⟨Nat.le_of_ble_eq_true (by first | rfl | decide), Nat.le_of_ble_eq_true (by first | rfl | decide)⟩).run) (fun r_26 hr_26 => ?_)
  subst hr_26
  refine lv_iload_n hx hb dX12_fallsBy_29 rfl (lv_at hl 3 rfl) ?_
  refine lv_icmp_ne (tgt := 39) hx hb dX12_fallsBy_30 (by decide) (fun c_30 => ?_) (fun c_30 => ?_)
  · refine lv_iconst (v := nI 0) hx hb dX12_fallsBy_39 (by decide +kernel) ?_
    refine ho_ior hx hb dX12_fallsBy_40 ?_
    refine lv_istore_n (lv' := [(2, .int (nI ((orF (fun s9 => t.testBit s9 && decide (bb s9 = nI j)) i) ||| 0))), (3, .int (nI i)), (0, .ref y), (1, .int (nI j))]) hx hb dX12_fallsBy_41 rfl hl (by decide) rfl (fun ls hl => ?_)
    refine ho_iinc (lv' := [(3, .int (nI (i + 1))), (2, .int (nI ((orF (fun s9 => t.testBit s9 && decide (bb s9 = nI j)) i) ||| 0))), (0, .ref y), (1, .int (nI j))]) (a := i) (b := 1) hx hb dX12_fallsBy_42 hl (k := 1) rfl rfl (by decide) rfl (fun ls hl => ?_)
    refine lv_goto (tgt := 4) hx hb dX12_fallsBy_45 (by decide) ?_
    have e9_2 : (orF (fun s9 => t.testBit s9 && decide (bb s9 = nI j)) i) ||| 0 = orF (fun s9 => t.testBit s9 && decide (bb s9 = nI j)) (i + 1) := by first | (refine orF_t ?_; simp [c_20]; done) | (refine orF_t ?_; simp only [c_20, Bool.not_true, Bool.not_false, Bool.true_and, Bool.and_true, Bool.false_and, Bool.and_false]; done) | (refine orF_t ?_; simp [c_20, c_30]; done) | (refine orF_t ?_; simp only [c_20, c_30, Bool.not_true, Bool.not_false, Bool.true_and, Bool.and_true, Bool.false_and, Bool.and_false]; done) | (refine orF_u ?_; simp [c_20]; done) | (refine orF_u ?_; simp only [c_20, Bool.not_true, Bool.not_false, Bool.true_and, Bool.and_true, Bool.false_and, Bool.and_false]; done) | (refine orF_u ?_; simp [c_20, c_30]; done) | (refine orF_u ?_; simp only [c_20, c_30, Bool.not_true, Bool.not_false, Bool.true_and, Bool.and_true, Bool.false_and, Bool.and_false]; done)
    rw [e9_2] at hl
    exact ih4 (i + 1) _ (by omega) (show n - (i + 1) < fu4 from (by omega)) (lv_sub hl [0, 1, 2, 3] rfl)
  refine lv_iconst (v := nI 1) hx hb dX12_fallsBy_33 (by decide +kernel) ?_
  refine lv_iload_n hx hb dX12_fallsBy_34 rfl (lv_at hl 0 rfl) ?_
  refine ho_shl1 hx hb dX12_fallsBy_35 (by omega) ?_
  refine lv_goto (tgt := 40) hx hb dX12_fallsBy_36 (by decide) ?_
  refine ho_ior hx hb dX12_fallsBy_40 ?_
  refine lv_istore_n (lv' := [(2, .int (nI ((orF (fun s9 => t.testBit s9 && decide (bb s9 = nI j)) i) ||| (2 ^ i)))), (3, .int (nI i)), (0, .ref y), (1, .int (nI j))]) hx hb dX12_fallsBy_41 rfl hl (by decide) rfl (fun ls hl => ?_)
  refine ho_iinc (lv' := [(3, .int (nI (i + 1))), (2, .int (nI ((orF (fun s9 => t.testBit s9 && decide (bb s9 = nI j)) i) ||| (2 ^ i)))), (0, .ref y), (1, .int (nI j))]) (a := i) (b := 1) hx hb dX12_fallsBy_42 hl (k := 1) rfl rfl (by decide) rfl (fun ls hl => ?_)
  refine lv_goto (tgt := 4) hx hb dX12_fallsBy_45 (by decide) ?_
  have e9_2 : (orF (fun s9 => t.testBit s9 && decide (bb s9 = nI j)) i) ||| (2 ^ i) = orF (fun s9 => t.testBit s9 && decide (bb s9 = nI j)) (i + 1) := by first | (refine orF_t ?_; simp [c_20]; done) | (refine orF_t ?_; simp only [c_20, Bool.not_true, Bool.not_false, Bool.true_and, Bool.and_true, Bool.false_and, Bool.and_false]; done) | (refine orF_t ?_; simp [c_20, c_30]; done) | (refine orF_t ?_; simp only [c_20, c_30, Bool.not_true, Bool.not_false, Bool.true_and, Bool.and_true, Bool.false_and, Bool.and_false]; done) | (refine orF_u ?_; simp [c_20]; done) | (refine orF_u ?_; simp only [c_20, Bool.not_true, Bool.not_false, Bool.true_and, Bool.and_true, Bool.false_and, Bool.and_false]; done) | (refine orF_u ?_; simp [c_20, c_30]; done) | (refine orF_u ?_; simp only [c_20, c_30, Bool.not_true, Bool.not_false, Bool.true_and, Bool.and_true, Bool.false_and, Bool.and_false]; done)
  rw [e9_2] at hl
  exact ih4 (i + 1) _ (by omega) (show n - (i + 1) < fu4 from (by omega)) (lv_sub hl [0, 1, 2, 3] rfl)
