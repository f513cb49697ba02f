set_option maxHeartbeats 4000000 in
set_option maxRecDepth 100000 in
theorem c_X12_mayIf (l : Launch) (dC : Nat → ClassId) (dI : Nat → Nat → Nat) (cI cD cR : ClassId) (y as ai ar am ak ao az ae aq af : Nat) (hi : Bool) (th : Int32) (po ba en an aw ax ap : Nat) (se : Int32) (n d t day al : Nat) (nd : Nat → Nat) (bb oo : Nat → Int32) (K F kn : Nat → Nat) (j i : Nat) (hn : n ≤ 9) (hd : d ≤ 7) (ht : t < 512) (hal : al < 128) (hday : day < 2 ^ 30) (gnd : ∀ i, nd i < 512) (gkn : ∀ j, kn j < 512) (gK : ∀ j, K j < 8) (gF : ∀ j, F j < 10) (hj9 : j < 7) (hi9 : i < 9) : Met l yX12_mayIf wsX12_mayIf ({ frames := 2, cells := 0, slots := 0, locals := 44 }) (pcR dC dI cI cD cR [.ref y, .int (nI j), .int (nI i)] (fun H => va_P (dC, dI) vwCl ([(y, .inr (12, [.ref as, .ref ai, .ref ar, .ref am, .ref ak, .ref ao, .ref az, .ref ae, .ref aq, .ref af, .int (bI hi), .int th, .int (nI po), .int (nI ba), .int (nI en), .ref an, .ref aw, .ref ax, .ref ap, .int se]))] ++ [(as, .inl (cI, 53, .inl (sF n d t day al nd bb oo K F kn)))]) H)) (vp_Si (fun r => r = bI (maB (K j) (F j) t (kn j) (nd i) i))) 0 0 (fun _ => False) := by
  refine Met.ofW (cc := cX12_mayIf) (maxL := 6) (ret := (some .boolean)) (by decide) rfl ?_
  intro p e s m args below meth c s₁ B hml hv
  obtain ⟨rfl, hH0, hCX⟩ := hv
  have hx := B.exec
  have hb := B.bytes
  have hr := B.returns
  have hts := atoms_spec (ws := wsX12_mayIf) B.pre
  have hown : s.vm.findClass RX12 = some m.cls := findClass_of_methodNamed B.named
  have hlocks := B.notSynchronized
  have hK := hCX.1
  have hP := hH0
  have hl := lv_entry ([.ref y, .int (nI j), .int (nI i)]) (n := 6) (Nat.le_of_ble_eq_true rfl)
  rw [lg_entry_eq]
  generalize (lg_sl ([.ref y, .int (nI j), .int (nI i)]) ++ List.replicate (6 - (lg_sl ([.ref y, .int (nI j), .int (nI i)])).length) Slot.unset).toArray = ls at hl ⊢
  have hl : lv_has ls 6 [(0, .ref y), (1, .int (nI j)), (2, .int (nI i))] := hl
  refine lv_aload_n hx hb dX12_mayIf_0 rfl (lv_at hl 0 rfl) ?_
  refine lv_iload_n hx hb dX12_mayIf_1 rfl (lv_at hl 1 rfl) ?_
  refine lv_iconst (v := nI 1) hx hb dX12_mayIf_2 (by decide +kernel) ?_
  refine vp_callSi ((va_runV (As := [.int (nI j), .int (nI 1)]) (rest := []) ⟨hx, hb, hml, hown, hts⟩ (c_X12_get_1 l dC dI cI cD cR y as ai ar am ak ao az ae aq af hi th po ba en an aw ax ap se n d t day al nd bb oo K F kn j (by first | omega | assumption | exact gnd _ | exact gkn _ | exact Nat.lt_trans (gkn _) (by decide) | exact Nat.lt_trans (gnd _) (by decide) | exact Nat.lt_of_le_of_lt (pcN_le _) (by decide)) (by first | omega | assumption | exact gnd _ | exact gkn _ | exact Nat.lt_trans (gkn _) (by decide) | exact Nat.lt_trans (gnd _) (by decide) | exact Nat.lt_of_le_of_lt (pcN_le _) (by decide)) (by first | omega | assumption | exact gnd _ | exact gkn _ | exact Nat.lt_trans (gkn _) (by decide) | exact Nat.lt_trans (gnd _) (by decide) | exact Nat.lt_of_le_of_lt (pcN_le _) (by decide)) (by first | omega | assumption | exact gnd _ | exact gkn _ | exact Nat.lt_trans (gkn _) (by decide) | exact Nat.lt_trans (gnd _) (by decide) | exact Nat.lt_of_le_of_lt (pcN_le _) (by decide)) (by first | omega | assumption | exact gnd _ | exact gkn _ | exact Nat.lt_trans (gkn _) (by decide) | exact Nat.lt_trans (gnd _) (by decide) | exact Nat.lt_of_le_of_lt (pcN_le _) (by decide)) gnd gkn gK gF (by first | omega | assumption | exact gnd _ | exact gkn _ | exact Nat.lt_trans (gkn _) (by decide) | exact Nat.lt_trans (gnd _) (by decide) | exact Nat.lt_of_le_of_lt (pcN_le _) (by decide))) (cwV 2 hts gX12_mayIf_X12_get rfl rfl rfl (by decide +kernel) ⟨Nat.le_of_ble_eq_true rfl, Nat.le_of_ble_eq_true rfl⟩) (preV_R hCX (va_recv hK hP (ci := 12) (q0 := 0) rfl rfl) (hP)) rfl rfl hl.1 rfl (lv_room (Nat.le_of_ble_eq_true rfl)) dX12_mayIf_3 ⟨Nat.le_of_ble_eq_true (by first | rfl | decide), Nat.le_of_ble_eq_true (by first | rfl | decide)⟩).run) (fun r_3 hr_3 => ?_)
  subst hr_3
  have hF9 := gF j
  refine lv_istore_n (lv' := [(3, .int (nI (F j))), (0, .ref y), (1, .int (nI j)), (2, .int (nI i))]) hx hb dX12_mayIf_6 rfl hl (by decide) rfl (fun ls hl => ?_)
  refine lv_aload_n hx hb dX12_mayIf_7 rfl (lv_at hl 1 rfl) ?_
  refine lv_iload_n hx hb dX12_mayIf_8 rfl (lv_at hl 3 rfl) ?_
  refine vp_callSi ((va_runV (As := [.int (nI i)]) (rest := []) ⟨hx, hb, hml, hown, hts⟩ (c_X12_isTrue l dC dI cI cD cR y as ai ar am ak ao az ae aq af hi th po ba en an aw ax ap se n d t day al nd bb oo K F kn i (by first | omega | assumption | exact gnd _ | exact gkn _ | exact Nat.lt_trans (gkn _) (by decide) | exact Nat.lt_trans (gnd _) (by decide) | exact Nat.lt_of_le_of_lt (pcN_le _) (by decide)) (by first | omega | assumption | exact gnd _ | exact gkn _ | exact Nat.lt_trans (gkn _) (by decide) | exact Nat.lt_trans (gnd _) (by decide) | exact Nat.lt_of_le_of_lt (pcN_le _) (by decide)) (by first | omega | assumption | exact gnd _ | exact gkn _ | exact Nat.lt_trans (gkn _) (by decide) | exact Nat.lt_trans (gnd _) (by decide) | exact Nat.lt_of_le_of_lt (pcN_le _) (by decide)) (by first | omega | assumption | exact gnd _ | exact gkn _ | exact Nat.lt_trans (gkn _) (by decide) | exact Nat.lt_trans (gnd _) (by decide) | exact Nat.lt_of_le_of_lt (pcN_le _) (by decide)) (by first | omega | assumption | exact gnd _ | exact gkn _ | exact Nat.lt_trans (gkn _) (by decide) | exact Nat.lt_trans (gnd _) (by decide) | exact Nat.lt_of_le_of_lt (pcN_le _) (by decide)) gnd gkn gK gF (by first | omega | assumption | exact gnd _ | exact gkn _ | exact Nat.lt_trans (gkn _) (by decide) | exact Nat.lt_trans (gnd _) (by decide) | exact Nat.lt_of_le_of_lt (pcN_le _) (by decide))) (cwV 1 hts gX12_mayIf_X12_isTrue rfl rfl rfl (by decide +kernel) ⟨Nat.le_of_ble_eq_true rfl, Nat.le_of_ble_eq_true rfl⟩) (preV_R hCX (va_recv hK hP (ci := 12) (q0 := 0) rfl rfl) (hP)) rfl rfl hl.1 rfl (lv_room (Nat.le_of_ble_eq_true rfl)) dX12_mayIf_9 ⟨Nat.le_of_ble_eq_true (by first | rfl | decide), Nat.le_of_ble_eq_true (by first | rfl | decide)⟩).run) (fun r_9 hr_9 => ?_)
  subst hr_9
  refine ho_bne (tgt := 19) hx hb dX12_mayIf_12 (by decide) (fun c_12 => ?_) (fun c_12 => ?_)
  · refine lv_iconst (v := nI 0) hx hb dX12_mayIf_19 (by decide +kernel) ?_
    refine lv_istore (lv' := [(4, .int (nI 0)), (3, .int (nI (F j))), (0, .ref y), (1, .int (nI j)), (2, .int (nI i))]) hx hb dX12_mayIf_20 hl (by decide) rfl (fun ls hl => ?_)
    refine lv_iload hx hb dX12_mayIf_22 (lv_at hl 0 rfl) ?_
    refine lv_if_eq (tgt := 40) hx hb dX12_mayIf_24 (by decide) (fun _ => ?_) (fun z => absurd z (by decide +kernel))
    refine lv_iconst (v := nI 0) hx hb dX12_mayIf_40 (by decide +kernel) ?_
    refine lv_istore (lv' := [(5, .int (nI 0)), (4, .int (nI 0)), (3, .int (nI (F j))), (0, .ref y), (1, .int (nI j)), (2, .int (nI i))]) hx hb dX12_mayIf_41 hl (by decide) rfl (fun ls hl => ?_)
    refine lv_aload_n hx hb dX12_mayIf_43 rfl (lv_at hl 3 rfl) ?_
    refine lv_iload_n hx hb dX12_mayIf_44 rfl (lv_at hl 4 rfl) ?_
    refine lv_iconst (v := nI 0) hx hb dX12_mayIf_45 (by decide +kernel) ?_
    refine vp_callSi ((va_runV (As := [.int (nI j), .int (nI 0)]) (rest := []) ⟨hx, hb, hml, hown, hts⟩ (c_X12_get_0 l dC dI cI cD cR y as ai ar am ak ao az ae aq af hi th po ba en an aw ax ap se n d t day al nd bb oo K F kn j (by first | omega | assumption | exact gnd _ | exact gkn _ | exact Nat.lt_trans (gkn _) (by decide) | exact Nat.lt_trans (gnd _) (by decide) | exact Nat.lt_of_le_of_lt (pcN_le _) (by decide)) (by first | omega | assumption | exact gnd _ | exact gkn _ | exact Nat.lt_trans (gkn _) (by decide) | exact Nat.lt_trans (gnd _) (by decide) | exact Nat.lt_of_le_of_lt (pcN_le _) (by decide)) (by first | omega | assumption | exact gnd _ | exact gkn _ | exact Nat.lt_trans (gkn _) (by decide) | exact Nat.lt_trans (gnd _) (by decide) | exact Nat.lt_of_le_of_lt (pcN_le _) (by decide)) (by first | omega | assumption | exact gnd _ | exact gkn _ | exact Nat.lt_trans (gkn _) (by decide) | exact Nat.lt_trans (gnd _) (by decide) | exact Nat.lt_of_le_of_lt (pcN_le _) (by decide)) (by first | omega | assumption | exact gnd _ | exact gkn _ | exact Nat.lt_trans (gkn _) (by decide) | exact Nat.lt_trans (gnd _) (by decide) | exact Nat.lt_of_le_of_lt (pcN_le _) (by decide)) gnd gkn gK gF (by first | omega | assumption | exact gnd _ | exact gkn _ | exact Nat.lt_trans (gkn _) (by decide) | exact Nat.lt_trans (gnd _) (by decide) | exact Nat.lt_of_le_of_lt (pcN_le _) (by decide))) (cwV 2 hts gX12_mayIf_X12_get rfl rfl rfl (by decide +kernel) ⟨Nat.le_of_ble_eq_true rfl, Nat.le_of_ble_eq_true rfl⟩) (preV_R hCX (va_recv hK hP (ci := 12) (q0 := 0) rfl rfl) (hP)) rfl rfl hl.1 rfl (lv_room (Nat.le_of_ble_eq_true rfl)) dX12_mayIf_46 ⟨Nat.le_of_ble_eq_true (by first | rfl | decide), Nat.le_of_ble_eq_true (by first | rfl | decide)⟩).run) (fun r_46 hr_46 => ?_)
    subst hr_46
    have hK9 := gK j
    by_cases k_49_0 : K j = 1
    · refine ho_tope (y := nI 1) (by rw [k_49_0]) ?_
      refine lv_tableIn (tgt := 92) hx hb dX12_mayIf_49 (by decide +kernel) (by decide +kernel) (off := 43) (by decide +kernel) (by decide) ?_
      refine lv_iload hx hb dX12_mayIf_92 (lv_at hl 1 rfl) ?_
      exact W.zret (v := nI 0) hx hb hr rfl (fun T9 hT9 hW9 => ⟨_, rfl, (bI_f (by (simp [maB, plB, c_12, k_49_0]) <;> first | omega | exact Or.inr (by rw [← c_170]; exact c_12) | rfl)), hT9⟩) (fun q h => by cases h) dX12_mayIf_94
    by_cases k_49_1 : K j = 2
    · refine ho_tope (y := nI 2) (by rw [k_49_1]) ?_
      refine lv_tableIn (tgt := 95) hx hb dX12_mayIf_49 (by decide +kernel) (by decide +kernel) (off := 46) (by decide +kernel) (by decide) ?_
      refine lv_iload hx hb dX12_mayIf_95 (lv_at hl 0 rfl) ?_
      refine lv_if_eq (tgt := 113) hx hb dX12_mayIf_97 (by decide) (fun _ => ?_) (fun z => absurd z (by decide +kernel))
      refine lv_iconst (v := nI 0) hx hb dX12_mayIf_113 (by decide +kernel) ?_
      exact W.zret (v := nI 0) hx hb hr rfl (fun T9 hT9 hW9 => ⟨_, rfl, (bI_f (by (simp [maB, plB, c_12, k_49_1]) <;> first | omega | exact Or.inr (by rw [← c_170]; exact c_12) | rfl)), hT9⟩) (fun q h => by cases h) dX12_mayIf_114
    by_cases k_49_2 : K j = 3
    · refine ho_tope (y := nI 3) (by rw [k_49_2]) ?_
      refine lv_tableIn (tgt := 115) hx hb dX12_mayIf_49 (by decide +kernel) (by decide +kernel) (off := 66) (by decide +kernel) (by decide) ?_
      refine lv_iconst (v := nI 1) hx hb dX12_mayIf_115 (by decide +kernel) ?_
      exact W.zret (v := nI 1) hx hb hr rfl (fun T9 hT9 hW9 => ⟨_, rfl, (bI_t (by (simp [maB, plB, c_12, k_49_2]) <;> first | omega | exact Or.inr (by rw [← c_170]; exact c_12) | rfl)), hT9⟩) (fun q h => by cases h) dX12_mayIf_116
    by_cases k_49_3 : K j = 4
    · refine ho_tope (y := nI 4) (by rw [k_49_3]) ?_
      refine lv_tableIn (tgt := 117) hx hb dX12_mayIf_49 (by decide +kernel) (by decide +kernel) (off := 68) (by decide +kernel) (by decide) ?_
      refine lv_iload hx hb dX12_mayIf_117 (lv_at hl 0 rfl) ?_
      refine lv_if_eq (tgt := 131) hx hb dX12_mayIf_119 (by decide) (fun _ => ?_) (fun z => absurd z (by decide +kernel))
      refine lv_iconst (v := nI 0) hx hb dX12_mayIf_131 (by decide +kernel) ?_
      exact W.zret (v := nI 0) hx hb hr rfl (fun T9 hT9 hW9 => ⟨_, rfl, (bI_f (by (simp [maB, plB, c_12, k_49_3]) <;> first | omega | exact Or.inr (by rw [← c_170]; exact c_12) | rfl)), hT9⟩) (fun q h => by cases h) dX12_mayIf_132
    by_cases k_49_4 : K j = 5
    · refine ho_tope (y := nI 5) (by rw [k_49_4]) ?_
      refine lv_tableIn (tgt := 133) hx hb dX12_mayIf_49 (by decide +kernel) (by decide +kernel) (off := 84) (by decide +kernel) (by decide) ?_
      refine lv_iload hx hb dX12_mayIf_133 (lv_at hl 1 rfl) ?_
      refine lv_if_eq (tgt := 147) hx hb dX12_mayIf_135 (by decide) (fun _ => ?_) (fun z => absurd z (by decide +kernel))
      refine lv_iconst (v := nI 0) hx hb dX12_mayIf_147 (by decide +kernel) ?_
      exact W.zret (v := nI 0) hx hb hr rfl (fun T9 hT9 hW9 => ⟨_, rfl, (bI_f (by (simp [maB, plB, c_12, k_49_4]) <;> first | omega | exact Or.inr (by rw [← c_170]; exact c_12) | rfl)), hT9⟩) (fun q h => by cases h) dX12_mayIf_148
    by_cases k_49_5 : K j = 6
    · refine ho_tope (y := nI 6) (by rw [k_49_5]) ?_
      refine lv_tableIn (tgt := 149) hx hb dX12_mayIf_49 (by decide +kernel) (by decide +kernel) (off := 100) (by decide +kernel) (by decide) ?_
      refine lv_iload hx hb dX12_mayIf_149 (lv_at hl 0 rfl) ?_
      refine lv_if_eq (tgt := 163) hx hb dX12_mayIf_151 (by decide) (fun _ => ?_) (fun z => absurd z (by decide +kernel))
      refine lv_iload hx hb dX12_mayIf_163 (lv_at hl 1 rfl) ?_
      refine lv_if_eq (tgt := 177) hx hb dX12_mayIf_165 (by decide) (fun _ => ?_) (fun z => absurd z (by decide +kernel))
      refine lv_iconst (v := nI 0) hx hb dX12_mayIf_177 (by decide +kernel) ?_
      exact W.zret (v := nI 0) hx hb hr rfl (fun T9 hT9 hW9 => ⟨_, rfl, (bI_f (by (simp [maB, plB, c_12, k_49_5]) <;> first | omega | exact Or.inr (by rw [← c_170]; exact c_12) | rfl)), hT9⟩) (fun q h => by cases h) dX12_mayIf_178
    by_cases k_49_6 : K j = 7
    · refine ho_tope (y := nI 7) (by rw [k_49_6]) ?_
      refine lv_tableIn (tgt := 179) hx hb dX12_mayIf_49 (by decide +kernel) (by decide +kernel) (off := 130) (by decide +kernel) (by decide) ?_
      refine lv_iload hx hb dX12_mayIf_179 (lv_at hl 0 rfl) ?_
      refine lv_if_eq (tgt := 202) hx hb dX12_mayIf_181 (by decide) (fun _ => ?_) (fun z => absurd z (by decide +kernel))
      refine lv_iconst (v := nI 0) hx hb dX12_mayIf_202 (by decide +kernel) ?_
      exact W.zret (v := nI 0) hx hb hr rfl (fun T9 hT9 hW9 => ⟨_, rfl, (bI_f (by (simp [maB, plB, c_12, k_49_6]) <;> first | omega | exact Or.inr (by rw [← c_170]; exact c_12) | rfl)), hT9⟩) (fun q h => by cases h) dX12_mayIf_203
    refine lv_tableOut (tgt := 204) hx hb dX12_mayIf_49 (by rw [nI_toInt (by omega)]; omega) (by decide) ?_
    refine lv_iload hx hb dX12_mayIf_204 (lv_at hl 0 rfl) ?_
    exact W.zret (v := nI 0) hx hb hr rfl (fun T9 hT9 hW9 => ⟨_, rfl, (bI_f (by rw [show K j = 0 by omega]; (simp [maB, plB, c_12]) <;> first | omega | exact Or.inr (by rw [← c_170]; exact c_12) | rfl)), hT9⟩) (fun q h => by cases h) dX12_mayIf_206
  refine lv_iconst (v := nI 1) hx hb dX12_mayIf_15 (by decide +kernel) ?_
  refine lv_goto (tgt := 20) hx hb dX12_mayIf_16 (by decide) ?_
  refine lv_istore (lv' := [(4, .int (nI 1)), (3, .int (nI (F j))), (0, .ref y), (1, .int (nI j)), (2, .int (nI i))]) hx hb dX12_mayIf_20 hl (by decide) rfl (fun ls hl => ?_)
  refine lv_iload hx hb dX12_mayIf_22 (lv_at hl 0 rfl) ?_
  refine lv_if_eq (tgt := 40) hx hb dX12_mayIf_24 (by decide) (fun z => absurd z (by decide +kernel)) (fun _ => ?_)
  refine lv_aload_n hx hb dX12_mayIf_27 rfl (lv_at hl 2 rfl) ?_
  refine lv_iload_n hx hb dX12_mayIf_28 rfl (lv_at hl 3 rfl) ?_
  refine lv_iload_n hx hb dX12_mayIf_29 rfl (lv_at hl 4 rfl) ?_
  refine vp_callSi ((va_runV (As := [.int (nI j), .int (nI i)]) (rest := []) ⟨hx, hb, hml, hown, hts⟩ (c_X12_knows l dC dI cI cD cR y as ai ar am ak ao az ae aq af hi th po ba en an aw ax ap se n d t day al nd bb oo K F kn j i (by first | omega | assumption | exact gnd _ | exact gkn _ | exact Nat.lt_trans (gkn _) (by decide) | exact Nat.lt_trans (gnd _) (by decide) | exact Nat.lt_of_le_of_lt (pcN_le _) (by decide)) (by first | omega | assumption | exact gnd _ | exact gkn _ | exact Nat.lt_trans (gkn _) (by decide) | exact Nat.lt_trans (gnd _) (by decide) | exact Nat.lt_of_le_of_lt (pcN_le _) (by decide)) (by first | omega | assumption | exact gnd _ | exact gkn _ | exact Nat.lt_trans (gkn _) (by decide) | exact Nat.lt_trans (gnd _) (by decide) | exact Nat.lt_of_le_of_lt (pcN_le _) (by decide)) (by first | omega | assumption | exact gnd _ | exact gkn _ | exact Nat.lt_trans (gkn _) (by decide) | exact Nat.lt_trans (gnd _) (by decide) | exact Nat.lt_of_le_of_lt (pcN_le _) (by decide)) (by first | omega | assumption | exact gnd _ | exact gkn _ | exact Nat.lt_trans (gkn _) (by decide) | exact Nat.lt_trans (gnd _) (by decide) | exact Nat.lt_of_le_of_lt (pcN_le _) (by decide)) gnd gkn gK gF (by first | omega | assumption | exact gnd _ | exact gkn _ | exact Nat.lt_trans (gkn _) (by decide) | exact Nat.lt_trans (gnd _) (by decide) | exact Nat.lt_of_le_of_lt (pcN_le _) (by decide)) (by first | omega | assumption | exact gnd _ | exact gkn _ | exact Nat.lt_trans (gkn _) (by decide) | exact Nat.lt_trans (gnd _) (by decide) | exact Nat.lt_of_le_of_lt (pcN_le _) (by decide))) (cwV 2 hts gX12_mayIf_X12_knows rfl rfl rfl (by decide +kernel) ⟨Nat.le_of_ble_eq_true rfl, Nat.le_of_ble_eq_true rfl⟩) (preV_R hCX (va_recv hK hP (ci := 12) (q0 := 0) rfl rfl) (hP)) rfl rfl hl.1 rfl (lv_room (Nat.le_of_ble_eq_true rfl)) dX12_mayIf_30 ⟨Nat.le_of_ble_eq_true (by first | rfl | decide), Nat.le_of_ble_eq_true (by first | rfl | decide)⟩).run) (fun r_30 hr_30 => ?_)
  subst hr_30
  refine ho_bne (tgt := 40) hx hb dX12_mayIf_33 (by decide) (fun c_33 => ?_) (fun c_33 => ?_)
  · refine lv_iconst (v := nI 0) hx hb dX12_mayIf_40 (by decide +kernel) ?_
    refine lv_istore (lv' := [(5, .int (nI 0)), (4, .int (nI 1)), (3, .int (nI (F j))), (0, .ref y), (1, .int (nI j)), (2, .int (nI i))]) hx hb dX12_mayIf_41 hl (by decide) rfl (fun ls hl => ?_)
    refine lv_aload_n hx hb dX12_mayIf_43 rfl (lv_at hl 3 rfl) ?_
    refine lv_iload_n hx hb dX12_mayIf_44 rfl (lv_at hl 4 rfl) ?_
    refine lv_iconst (v := nI 0) hx hb dX12_mayIf_45 (by decide +kernel) ?_
    refine vp_callSi ((va_runV (As := [.int (nI j), .int (nI 0)]) (rest := []) ⟨hx, hb, hml, hown, hts⟩ (c_X12_get_0 l dC dI cI cD cR y as ai ar am ak ao az ae aq af hi th po ba en an aw ax ap se n d t day al nd bb oo K F kn j (by first | omega | assumption | exact gnd _ | exact gkn _ | exact Nat.lt_trans (gkn _) (by decide) | exact Nat.lt_trans (gnd _) (by decide) | exact Nat.lt_of_le_of_lt (pcN_le _) (by decide)) (by first | omega | assumption | exact gnd _ | exact gkn _ | exact Nat.lt_trans (gkn _) (by decide) | exact Nat.lt_trans (gnd _) (by decide) | exact Nat.lt_of_le_of_lt (pcN_le _) (by decide)) (by first | omega | assumption | exact gnd _ | exact gkn _ | exact Nat.lt_trans (gkn _) (by decide) | exact Nat.lt_trans (gnd _) (by decide) | exact Nat.lt_of_le_of_lt (pcN_le _) (by decide)) (by first | omega | assumption | exact gnd _ | exact gkn _ | exact Nat.lt_trans (gkn _) (by decide) | exact Nat.lt_trans (gnd _) (by decide) | exact Nat.lt_of_le_of_lt (pcN_le _) (by decide)) (by first | omega | assumption | exact gnd _ | exact gkn _ | exact Nat.lt_trans (gkn _) (by decide) | exact Nat.lt_trans (gnd _) (by decide) | exact Nat.lt_of_le_of_lt (pcN_le _) (by decide)) gnd gkn gK gF (by first | omega | assumption | exact gnd _ | exact gkn _ | exact Nat.lt_trans (gkn _) (by decide) | exact Nat.lt_trans (gnd _) (by decide) | exact Nat.lt_of_le_of_lt (pcN_le _) (by decide))) (cwV 2 hts gX12_mayIf_X12_get rfl rfl rfl (by decide +kernel) ⟨Nat.le_of_ble_eq_true rfl, Nat.le_of_ble_eq_true rfl⟩) (preV_R hCX (va_recv hK hP (ci := 12) (q0 := 0) rfl rfl) (hP)) rfl rfl hl.1 rfl (lv_room (Nat.le_of_ble_eq_true rfl)) dX12_mayIf_46 ⟨Nat.le_of_ble_eq_true (by first | rfl | decide), Nat.le_of_ble_eq_true (by first | rfl | decide)⟩).run) (fun r_46 hr_46 => ?_)
    subst hr_46
    have hK9 := gK j
    by_cases k_49_0 : K j = 1
    · refine ho_tope (y := nI 1) (by rw [k_49_0]) ?_
      refine lv_tableIn (tgt := 92) hx hb dX12_mayIf_49 (by decide +kernel) (by decide +kernel) (off := 43) (by decide +kernel) (by decide) ?_
      refine lv_iload hx hb dX12_mayIf_92 (lv_at hl 1 rfl) ?_
      exact W.zret (v := nI 1) hx hb hr rfl (fun T9 hT9 hW9 => ⟨_, rfl, (bI_t (by (simp [maB, plB, c_12, c_33, k_49_0]) <;> first | omega | exact Or.inr (by rw [← c_170]; exact c_12) | rfl)), hT9⟩) (fun q h => by cases h) dX12_mayIf_94
    by_cases k_49_1 : K j = 2
    · refine ho_tope (y := nI 2) (by rw [k_49_1]) ?_
      refine lv_tableIn (tgt := 95) hx hb dX12_mayIf_49 (by decide +kernel) (by decide +kernel) (off := 46) (by decide +kernel) (by decide) ?_
      refine lv_iload hx hb dX12_mayIf_95 (lv_at hl 0 rfl) ?_
      refine lv_if_eq (tgt := 113) hx hb dX12_mayIf_97 (by decide) (fun _ => ?_) (fun z => absurd z (by decide +kernel))
      refine lv_iconst (v := nI 0) hx hb dX12_mayIf_113 (by decide +kernel) ?_
      exact W.zret (v := nI 0) hx hb hr rfl (fun T9 hT9 hW9 => ⟨_, rfl, (bI_f (by (simp [maB, plB, c_12, c_33, k_49_1]) <;> first | omega | exact Or.inr (by rw [← c_170]; exact c_12) | rfl)), hT9⟩) (fun q h => by cases h) dX12_mayIf_114
    by_cases k_49_2 : K j = 3
    · refine ho_tope (y := nI 3) (by rw [k_49_2]) ?_
      refine lv_tableIn (tgt := 115) hx hb dX12_mayIf_49 (by decide +kernel) (by decide +kernel) (off := 66) (by decide +kernel) (by decide) ?_
      refine lv_iconst (v := nI 1) hx hb dX12_mayIf_115 (by decide +kernel) ?_
      exact W.zret (v := nI 1) hx hb hr rfl (fun T9 hT9 hW9 => ⟨_, rfl, (bI_t (by (simp [maB, plB, c_12, c_33, k_49_2]) <;> first | omega | exact Or.inr (by rw [← c_170]; exact c_12) | rfl)), hT9⟩) (fun q h => by cases h) dX12_mayIf_116
    by_cases k_49_3 : K j = 4
    · refine ho_tope (y := nI 4) (by rw [k_49_3]) ?_
      refine lv_tableIn (tgt := 117) hx hb dX12_mayIf_49 (by decide +kernel) (by decide +kernel) (off := 68) (by decide +kernel) (by decide) ?_
      refine lv_iload hx hb dX12_mayIf_117 (lv_at hl 0 rfl) ?_
      refine lv_if_eq (tgt := 131) hx hb dX12_mayIf_119 (by decide) (fun _ => ?_) (fun z => absurd z (by decide +kernel))
      refine lv_iconst (v := nI 0) hx hb dX12_mayIf_131 (by decide +kernel) ?_
      exact W.zret (v := nI 0) hx hb hr rfl (fun T9 hT9 hW9 => ⟨_, rfl, (bI_f (by (simp [maB, plB, c_12, c_33, k_49_3]) <;> first | omega | exact Or.inr (by rw [← c_170]; exact c_12) | rfl)), hT9⟩) (fun q h => by cases h) dX12_mayIf_132
    by_cases k_49_4 : K j = 5
    · refine ho_tope (y := nI 5) (by rw [k_49_4]) ?_
      refine lv_tableIn (tgt := 133) hx hb dX12_mayIf_49 (by decide +kernel) (by decide +kernel) (off := 84) (by decide +kernel) (by decide) ?_
      refine lv_iload hx hb dX12_mayIf_133 (lv_at hl 1 rfl) ?_
      refine lv_if_eq (tgt := 147) hx hb dX12_mayIf_135 (by decide) (fun z => absurd z (by decide +kernel)) (fun _ => ?_)
      refine lv_iload_n hx hb dX12_mayIf_138 rfl (lv_at hl 5 rfl) ?_
      refine lv_iload_n hx hb dX12_mayIf_139 rfl (lv_at hl 2 rfl) ?_
      refine ho_icmp_gt (tgt := 147) hx hb dX12_mayIf_140 (by decide) (by omega) (by omega) (fun c_140 => ?_) (fun c_140 => ?_)
      · refine lv_iconst (v := nI 0) hx hb dX12_mayIf_147 (by decide +kernel) ?_
        exact W.zret (v := nI 0) hx hb hr rfl (fun T9 hT9 hW9 => ⟨_, rfl, (bI_f (by (simp [maB, plB, c_12, c_33, k_49_4, c_140]) <;> first | omega | exact Or.inr (by rw [← c_170]; exact c_12) | rfl)), hT9⟩) (fun q h => by cases h) dX12_mayIf_148
      refine lv_iconst (v := nI 1) hx hb dX12_mayIf_143 (by decide +kernel) ?_
      refine lv_goto (tgt := 148) hx hb dX12_mayIf_144 (by decide) ?_
      exact W.zret (v := nI 1) hx hb hr rfl (fun T9 hT9 hW9 => ⟨_, rfl, (bI_t (by (simp [maB, plB, c_12, c_33, k_49_4, c_140]) <;> first | omega | exact Or.inr (by rw [← c_170]; exact c_12) | rfl)), hT9⟩) (fun q h => by cases h) dX12_mayIf_148
    by_cases k_49_5 : K j = 6
    · refine ho_tope (y := nI 6) (by rw [k_49_5]) ?_
      refine lv_tableIn (tgt := 149) hx hb dX12_mayIf_49 (by decide +kernel) (by decide +kernel) (off := 100) (by decide +kernel) (by decide) ?_
      refine lv_iload hx hb dX12_mayIf_149 (lv_at hl 0 rfl) ?_
      refine lv_if_eq (tgt := 163) hx hb dX12_mayIf_151 (by decide) (fun _ => ?_) (fun z => absurd z (by decide +kernel))
      refine lv_iload hx hb dX12_mayIf_163 (lv_at hl 1 rfl) ?_
      refine lv_if_eq (tgt := 177) hx hb dX12_mayIf_165 (by decide) (fun z => absurd z (by decide +kernel)) (fun _ => ?_)
      refine lv_iload_n hx hb dX12_mayIf_168 rfl (lv_at hl 5 rfl) ?_
      refine lv_iload_n hx hb dX12_mayIf_169 rfl (lv_at hl 2 rfl) ?_
      refine ho_icmp_ne (tgt := 177) hx hb dX12_mayIf_170 (by decide) (by omega) (by omega) (fun c_170 => ?_) (fun c_170 => ?_)
      · refine lv_iconst (v := nI 0) hx hb dX12_mayIf_177 (by decide +kernel) ?_
        exact W.zret (v := nI 0) hx hb hr rfl (fun T9 hT9 hW9 => ⟨_, rfl, (bI_f (by (simp [maB, plB, c_12, c_33, k_49_5, c_170]) <;> first | omega | exact Or.inr (by rw [← c_170]; exact c_12) | rfl)), hT9⟩) (fun q h => by cases h) dX12_mayIf_178
      refine lv_iconst (v := nI 1) hx hb dX12_mayIf_173 (by decide +kernel) ?_
      refine lv_goto (tgt := 178) hx hb dX12_mayIf_174 (by decide) ?_
      exact W.zret (v := nI 1) hx hb hr rfl (fun T9 hT9 hW9 => ⟨_, rfl, (bI_t (by (simp [maB, plB, c_12, c_33, k_49_5, c_170]) <;> first | omega | exact Or.inr (by rw [← c_170]; exact c_12) | rfl)), hT9⟩) (fun q h => by cases h) dX12_mayIf_178
    by_cases k_49_6 : K j = 7
    · refine ho_tope (y := nI 7) (by rw [k_49_6]) ?_
      refine lv_tableIn (tgt := 179) hx hb dX12_mayIf_49 (by decide +kernel) (by decide +kernel) (off := 130) (by decide +kernel) (by decide) ?_
      refine lv_iload hx hb dX12_mayIf_179 (lv_at hl 0 rfl) ?_
      refine lv_if_eq (tgt := 202) hx hb dX12_mayIf_181 (by decide) (fun _ => ?_) (fun z => absurd z (by decide +kernel))
      refine lv_iconst (v := nI 0) hx hb dX12_mayIf_202 (by decide +kernel) ?_
      exact W.zret (v := nI 0) hx hb hr rfl (fun T9 hT9 hW9 => ⟨_, rfl, (bI_f (by (simp [maB, plB, c_12, c_33, k_49_6]) <;> first | omega | exact Or.inr (by rw [← c_170]; exact c_12) | rfl)), hT9⟩) (fun q h => by cases h) dX12_mayIf_203
    refine lv_tableOut (tgt := 204) hx hb dX12_mayIf_49 (by rw [nI_toInt (by omega)]; omega) (by decide) ?_
    refine lv_iload hx hb dX12_mayIf_204 (lv_at hl 0 rfl) ?_
    exact W.zret (v := nI 0) hx hb hr rfl (fun T9 hT9 hW9 => ⟨_, rfl, (bI_f (by rw [show K j = 0 by omega]; (simp [maB, plB, c_12, c_33]) <;> first | omega | exact Or.inr (by rw [← c_170]; exact c_12) | rfl)), hT9⟩) (fun q h => by cases h) dX12_mayIf_206
  refine lv_iconst (v := nI 1) hx hb dX12_mayIf_36 (by decide +kernel) ?_
  refine lv_goto (tgt := 41) hx hb dX12_mayIf_37 (by decide) ?_
  refine lv_istore (lv' := [(5, .int (nI 1)), (4, .int (nI 1)), (3, .int (nI (F j))), (0, .ref y), (1, .int (nI j)), (2, .int (nI i))]) hx hb dX12_mayIf_41 hl (by decide) rfl (fun ls hl => ?_)
  refine lv_aload_n hx hb dX12_mayIf_43 rfl (lv_at hl 3 rfl) ?_
  refine lv_iload_n hx hb dX12_mayIf_44 rfl (lv_at hl 4 rfl) ?_
  refine lv_iconst (v := nI 0) hx hb dX12_mayIf_45 (by decide +kernel) ?_
  refine vp_callSi ((va_runV (As := [.int (nI j), .int (nI 0)]) (rest := []) ⟨hx, hb, hml, hown, hts⟩ (c_X12_get_0 l dC dI cI cD cR y as ai ar am ak ao az ae aq af hi th po ba en an aw ax ap se n d t day al nd bb oo K F kn j (by first | omega | assumption | exact gnd _ | exact gkn _ | exact Nat.lt_trans (gkn _) (by decide) | exact Nat.lt_trans (gnd _) (by decide) | exact Nat.lt_of_le_of_lt (pcN_le _) (by decide)) (by first | omega | assumption | exact gnd _ | exact gkn _ | exact Nat.lt_trans (gkn _) (by decide) | exact Nat.lt_trans (gnd _) (by decide) | exact Nat.lt_of_le_of_lt (pcN_le _) (by decide)) (by first | omega | assumption | exact gnd _ | exact gkn _ | exact Nat.lt_trans (gkn _) (by decide) | exact Nat.lt_trans (gnd _) (by decide) | exact Nat.lt_of_le_of_lt (pcN_le _) (by decide)) (by first | omega | assumption | exact gnd _ | exact gkn _ | exact Nat.lt_trans (gkn _) (by decide) | exact Nat.lt_trans (gnd _) (by decide) | exact Nat.lt_of_le_of_lt (pcN_le _) (by decide)) (by first | omega | assumption | exact gnd _ | exact gkn _ | exact Nat.lt_trans (gkn _) (by decide) | exact Nat.lt_trans (gnd _) (by decide) | exact Nat.lt_of_le_of_lt (pcN_le _) (by decide)) gnd gkn gK gF (by first | omega | assumption | exact gnd _ | exact gkn _ | exact Nat.lt_trans (gkn _) (by decide) | exact Nat.lt_trans (gnd _) (by decide) | exact Nat.lt_of_le_of_lt (pcN_le _) (by decide))) (cwV 2 hts gX12_mayIf_X12_get rfl rfl rfl (by decide +kernel) ⟨Nat.le_of_ble_eq_true rfl, Nat.le_of_ble_eq_true rfl⟩) (preV_R hCX (va_recv hK hP (ci := 12) (q0 := 0) rfl rfl) (hP)) rfl rfl hl.1 rfl (lv_room (Nat.le_of_ble_eq_true rfl)) dX12_mayIf_46 ⟨Nat.le_of_ble_eq_true (by first | rfl | decide), Nat.le_of_ble_eq_true (by first | rfl | decide)⟩).run) (fun r_46 hr_46 => ?_)
  subst hr_46
  have hK9 := gK j
  by_cases k_49_0 : K j = 1
  · refine ho_tope (y := nI 1) (by rw [k_49_0]) ?_
    refine lv_tableIn (tgt := 92) hx hb dX12_mayIf_49 (by decide +kernel) (by decide +kernel) (off := 43) (by decide +kernel) (by decide) ?_
    refine lv_iload hx hb dX12_mayIf_92 (lv_at hl 1 rfl) ?_
    exact W.zret (v := nI 1) hx hb hr rfl (fun T9 hT9 hW9 => ⟨_, rfl, (bI_t (by (simp [maB, plB, c_12, c_33, k_49_0]) <;> first | omega | exact Or.inr (by rw [← c_170]; exact c_12) | rfl)), hT9⟩) (fun q h => by cases h) dX12_mayIf_94
  by_cases k_49_1 : K j = 2
  · refine ho_tope (y := nI 2) (by rw [k_49_1]) ?_
    refine lv_tableIn (tgt := 95) hx hb dX12_mayIf_49 (by decide +kernel) (by decide +kernel) (off := 46) (by decide +kernel) (by decide) ?_
    refine lv_iload hx hb dX12_mayIf_95 (lv_at hl 0 rfl) ?_
    refine lv_if_eq (tgt := 113) hx hb dX12_mayIf_97 (by decide) (fun z => absurd z (by decide +kernel)) (fun _ => ?_)
    refine lv_aload_n hx hb dX12_mayIf_100 rfl (lv_at hl 3 rfl) ?_
    refine lv_iload_n hx hb dX12_mayIf_101 rfl (lv_at hl 4 rfl) ?_
    refine lv_iload_n hx hb dX12_mayIf_102 rfl (lv_at hl 5 rfl) ?_
    refine vp_callSi ((va_runV (As := [.int (nI j), .int (nI i)]) (rest := []) ⟨hx, hb, hml, hown, hts⟩ (c_X12_isMet l dC dI cI cD cR y as ai ar am ak ao az ae aq af hi th po ba en an aw ax ap se n d t day al nd bb oo K F kn j i (by first | omega | assumption | exact gnd _ | exact gkn _ | exact Nat.lt_trans (gkn _) (by decide) | exact Nat.lt_trans (gnd _) (by decide) | exact Nat.lt_of_le_of_lt (pcN_le _) (by decide)) (by first | omega | assumption | exact gnd _ | exact gkn _ | exact Nat.lt_trans (gkn _) (by decide) | exact Nat.lt_trans (gnd _) (by decide) | exact Nat.lt_of_le_of_lt (pcN_le _) (by decide)) (by first | omega | assumption | exact gnd _ | exact gkn _ | exact Nat.lt_trans (gkn _) (by decide) | exact Nat.lt_trans (gnd _) (by decide) | exact Nat.lt_of_le_of_lt (pcN_le _) (by decide)) (by first | omega | assumption | exact gnd _ | exact gkn _ | exact Nat.lt_trans (gkn _) (by decide) | exact Nat.lt_trans (gnd _) (by decide) | exact Nat.lt_of_le_of_lt (pcN_le _) (by decide)) (by first | omega | assumption | exact gnd _ | exact gkn _ | exact Nat.lt_trans (gkn _) (by decide) | exact Nat.lt_trans (gnd _) (by decide) | exact Nat.lt_of_le_of_lt (pcN_le _) (by decide)) gnd gkn gK gF (by first | omega | assumption | exact gnd _ | exact gkn _ | exact Nat.lt_trans (gkn _) (by decide) | exact Nat.lt_trans (gnd _) (by decide) | exact Nat.lt_of_le_of_lt (pcN_le _) (by decide)) (by first | omega | assumption | exact gnd _ | exact gkn _ | exact Nat.lt_trans (gkn _) (by decide) | exact Nat.lt_trans (gnd _) (by decide) | exact Nat.lt_of_le_of_lt (pcN_le _) (by decide))) (cwV 2 hts gX12_mayIf_X12_isMet rfl rfl rfl (by decide +kernel) ⟨Nat.le_of_ble_eq_true rfl, Nat.le_of_ble_eq_true rfl⟩) (preV_R hCX (va_recv hK hP (ci := 12) (q0 := 0) rfl rfl) (hP)) rfl rfl hl.1 rfl (lv_room (Nat.le_of_ble_eq_true rfl)) dX12_mayIf_103 ⟨Nat.le_of_ble_eq_true (by first | rfl | decide), Nat.le_of_ble_eq_true (by first | rfl | decide)⟩).run) (fun r_103 hr_103 => ?_)
    subst hr_103
    refine ho_beq (tgt := 113) hx hb dX12_mayIf_106 (by decide) (fun c_106 => ?_) (fun c_106 => ?_)
    · refine lv_iconst (v := nI 0) hx hb dX12_mayIf_113 (by decide +kernel) ?_
      exact W.zret (v := nI 0) hx hb hr rfl (fun T9 hT9 hW9 => ⟨_, rfl, (bI_f (by (simp [maB, plB, c_12, c_33, k_49_1, c_106]) <;> first | omega | exact Or.inr (by rw [← c_170]; exact c_12) | rfl)), hT9⟩) (fun q h => by cases h) dX12_mayIf_114
    refine lv_iconst (v := nI 1) hx hb dX12_mayIf_109 (by decide +kernel) ?_
    refine lv_goto (tgt := 114) hx hb dX12_mayIf_110 (by decide) ?_
    exact W.zret (v := nI 1) hx hb hr rfl (fun T9 hT9 hW9 => ⟨_, rfl, (bI_t (by (simp [maB, plB, c_12, c_33, k_49_1, c_106]) <;> first | omega | exact Or.inr (by rw [← c_170]; exact c_12) | rfl)), hT9⟩) (fun q h => by cases h) dX12_mayIf_114
  by_cases k_49_2 : K j = 3
  · refine ho_tope (y := nI 3) (by rw [k_49_2]) ?_
    refine lv_tableIn (tgt := 115) hx hb dX12_mayIf_49 (by decide +kernel) (by decide +kernel) (off := 66) (by decide +kernel) (by decide) ?_
    refine lv_iconst (v := nI 1) hx hb dX12_mayIf_115 (by decide +kernel) ?_
    exact W.zret (v := nI 1) hx hb hr rfl (fun T9 hT9 hW9 => ⟨_, rfl, (bI_t (by (simp [maB, plB, c_12, c_33, k_49_2]) <;> first | omega | exact Or.inr (by rw [← c_170]; exact c_12) | rfl)), hT9⟩) (fun q h => by cases h) dX12_mayIf_116
  by_cases k_49_3 : K j = 4
  · refine ho_tope (y := nI 4) (by rw [k_49_3]) ?_
    refine lv_tableIn (tgt := 117) hx hb dX12_mayIf_49 (by decide +kernel) (by decide +kernel) (off := 68) (by decide +kernel) (by decide) ?_
    refine lv_iload hx hb dX12_mayIf_117 (lv_at hl 0 rfl) ?_
    refine lv_if_eq (tgt := 131) hx hb dX12_mayIf_119 (by decide) (fun z => absurd z (by decide +kernel)) (fun _ => ?_)
    refine lv_iload_n hx hb dX12_mayIf_122 rfl (lv_at hl 5 rfl) ?_
    refine lv_iload_n hx hb dX12_mayIf_123 rfl (lv_at hl 2 rfl) ?_
    refine ho_icmp_eq (tgt := 131) hx hb dX12_mayIf_124 (by decide) (by omega) (by omega) (fun c_124 => ?_) (fun c_124 => ?_)
    · refine lv_iconst (v := nI 0) hx hb dX12_mayIf_131 (by decide +kernel) ?_
      exact W.zret (v := nI 0) hx hb hr rfl (fun T9 hT9 hW9 => ⟨_, rfl, (bI_f (by (simp [maB, plB, c_12, c_33, k_49_3, c_124]) <;> first | omega | exact Or.inr (by rw [← c_170]; exact c_12) | rfl)), hT9⟩) (fun q h => by cases h) dX12_mayIf_132
    refine lv_iconst (v := nI 1) hx hb dX12_mayIf_127 (by decide +kernel) ?_
    refine lv_goto (tgt := 132) hx hb dX12_mayIf_128 (by decide) ?_
    exact W.zret (v := nI 1) hx hb hr rfl (fun T9 hT9 hW9 => ⟨_, rfl, (bI_t (by (simp [maB, plB, c_12, c_33, k_49_3, c_124]) <;> first | omega | exact Or.inr (by rw [← c_170]; exact c_12) | rfl)), hT9⟩) (fun q h => by cases h) dX12_mayIf_132
  by_cases k_49_4 : K j = 5
  · refine ho_tope (y := nI 5) (by rw [k_49_4]) ?_
    refine lv_tableIn (tgt := 133) hx hb dX12_mayIf_49 (by decide +kernel) (by decide +kernel) (off := 84) (by decide +kernel) (by decide) ?_
    refine lv_iload hx hb dX12_mayIf_133 (lv_at hl 1 rfl) ?_
    refine lv_if_eq (tgt := 147) hx hb dX12_mayIf_135 (by decide) (fun z => absurd z (by decide +kernel)) (fun _ => ?_)
    refine lv_iload_n hx hb dX12_mayIf_138 rfl (lv_at hl 5 rfl) ?_
    refine lv_iload_n hx hb dX12_mayIf_139 rfl (lv_at hl 2 rfl) ?_
    refine ho_icmp_gt (tgt := 147) hx hb dX12_mayIf_140 (by decide) (by omega) (by omega) (fun c_140 => ?_) (fun c_140 => ?_)
    · refine lv_iconst (v := nI 0) hx hb dX12_mayIf_147 (by decide +kernel) ?_
      exact W.zret (v := nI 0) hx hb hr rfl (fun T9 hT9 hW9 => ⟨_, rfl, (bI_f (by (simp [maB, plB, c_12, c_33, k_49_4, c_140]) <;> first | omega | exact Or.inr (by rw [← c_170]; exact c_12) | rfl)), hT9⟩) (fun q h => by cases h) dX12_mayIf_148
    refine lv_iconst (v := nI 1) hx hb dX12_mayIf_143 (by decide +kernel) ?_
    refine lv_goto (tgt := 148) hx hb dX12_mayIf_144 (by decide) ?_
    exact W.zret (v := nI 1) hx hb hr rfl (fun T9 hT9 hW9 => ⟨_, rfl, (bI_t (by (simp [maB, plB, c_12, c_33, k_49_4, c_140]) <;> first | omega | exact Or.inr (by rw [← c_170]; exact c_12) | rfl)), hT9⟩) (fun q h => by cases h) dX12_mayIf_148
  by_cases k_49_5 : K j = 6
  · refine ho_tope (y := nI 6) (by rw [k_49_5]) ?_
    refine lv_tableIn (tgt := 149) hx hb dX12_mayIf_49 (by decide +kernel) (by decide +kernel) (off := 100) (by decide +kernel) (by decide) ?_
    refine lv_iload hx hb dX12_mayIf_149 (lv_at hl 0 rfl) ?_
    refine lv_if_eq (tgt := 163) hx hb dX12_mayIf_151 (by decide) (fun z => absurd z (by decide +kernel)) (fun _ => ?_)
    refine lv_aload_n hx hb dX12_mayIf_154 rfl (lv_at hl 3 rfl) ?_
    refine lv_iload_n hx hb dX12_mayIf_155 rfl (lv_at hl 4 rfl) ?_
    refine lv_iload_n hx hb dX12_mayIf_156 rfl (lv_at hl 5 rfl) ?_
    refine vp_callSi ((va_runV (As := [.int (nI j), .int (nI i)]) (rest := []) ⟨hx, hb, hml, hown, hts⟩ (c_X12_isMet l dC dI cI cD cR y as ai ar am ak ao az ae aq af hi th po ba en an aw ax ap se n d t day al nd bb oo K F kn j i (by first | omega | assumption | exact gnd _ | exact gkn _ | exact Nat.lt_trans (gkn _) (by decide) | exact Nat.lt_trans (gnd _) (by decide) | exact Nat.lt_of_le_of_lt (pcN_le _) (by decide)) (by first | omega | assumption | exact gnd _ | exact gkn _ | exact Nat.lt_trans (gkn _) (by decide) | exact Nat.lt_trans (gnd _) (by decide) | exact Nat.lt_of_le_of_lt (pcN_le _) (by decide)) (by first | omega | assumption | exact gnd _ | exact gkn _ | exact Nat.lt_trans (gkn _) (by decide) | exact Nat.lt_trans (gnd _) (by decide) | exact Nat.lt_of_le_of_lt (pcN_le _) (by decide)) (by first | omega | assumption | exact gnd _ | exact gkn _ | exact Nat.lt_trans (gkn _) (by decide) | exact Nat.lt_trans (gnd _) (by decide) | exact Nat.lt_of_le_of_lt (pcN_le _) (by decide)) (by first | omega | assumption | exact gnd _ | exact gkn _ | exact Nat.lt_trans (gkn _) (by decide) | exact Nat.lt_trans (gnd _) (by decide) | exact Nat.lt_of_le_of_lt (pcN_le _) (by decide)) gnd gkn gK gF (by first | omega | assumption | exact gnd _ | exact gkn _ | exact Nat.lt_trans (gkn _) (by decide) | exact Nat.lt_trans (gnd _) (by decide) | exact Nat.lt_of_le_of_lt (pcN_le _) (by decide)) (by first | omega | assumption | exact gnd _ | exact gkn _ | exact Nat.lt_trans (gkn _) (by decide) | exact Nat.lt_trans (gnd _) (by decide) | exact Nat.lt_of_le_of_lt (pcN_le _) (by decide))) (cwV 2 hts gX12_mayIf_X12_isMet rfl rfl rfl (by decide +kernel) ⟨Nat.le_of_ble_eq_true rfl, Nat.le_of_ble_eq_true rfl⟩) (preV_R hCX (va_recv hK hP (ci := 12) (q0 := 0) rfl rfl) (hP)) rfl rfl hl.1 rfl (lv_room (Nat.le_of_ble_eq_true rfl)) dX12_mayIf_157 ⟨Nat.le_of_ble_eq_true (by first | rfl | decide), Nat.le_of_ble_eq_true (by first | rfl | decide)⟩).run) (fun r_157 hr_157 => ?_)
    subst hr_157
    refine ho_bne (tgt := 173) hx hb dX12_mayIf_160 (by decide) (fun c_160 => ?_) (fun c_160 => ?_)
    · refine lv_iconst (v := nI 1) hx hb dX12_mayIf_173 (by decide +kernel) ?_
      refine lv_goto (tgt := 178) hx hb dX12_mayIf_174 (by decide) ?_
      exact W.zret (v := nI 1) hx hb hr rfl (fun T9 hT9 hW9 => ⟨_, rfl, (bI_t (by (simp [maB, plB, c_12, c_33, k_49_5, c_160]) <;> first | omega | exact Or.inr (by rw [← c_170]; exact c_12) | rfl)), hT9⟩) (fun q h => by cases h) dX12_mayIf_178
    refine lv_iload hx hb dX12_mayIf_163 (lv_at hl 1 rfl) ?_
    refine lv_if_eq (tgt := 177) hx hb dX12_mayIf_165 (by decide) (fun z => absurd z (by decide +kernel)) (fun _ => ?_)
    refine lv_iload_n hx hb dX12_mayIf_168 rfl (lv_at hl 5 rfl) ?_
    refine lv_iload_n hx hb dX12_mayIf_169 rfl (lv_at hl 2 rfl) ?_
    refine ho_icmp_ne (tgt := 177) hx hb dX12_mayIf_170 (by decide) (by omega) (by omega) (fun c_170 => ?_) (fun c_170 => ?_)
    · refine lv_iconst (v := nI 0) hx hb dX12_mayIf_177 (by decide +kernel) ?_
      exact W.zret (v := nI 0) hx hb hr rfl (fun T9 hT9 hW9 => ⟨_, rfl, (bI_f (by (simp [maB, plB, c_12, c_33, k_49_5, c_160, c_170]) <;> first | omega | exact Or.inr (by rw [← c_170]; exact c_12) | rfl)), hT9⟩) (fun q h => by cases h) dX12_mayIf_178
    refine lv_iconst (v := nI 1) hx hb dX12_mayIf_173 (by decide +kernel) ?_
    refine lv_goto (tgt := 178) hx hb dX12_mayIf_174 (by decide) ?_
    exact W.zret (v := nI 1) hx hb hr rfl (fun T9 hT9 hW9 => ⟨_, rfl, (bI_t (by (simp [maB, plB, c_12, c_33, k_49_5, c_160, c_170]) <;> first | omega | exact Or.inr (by rw [← c_170]; exact c_12) | rfl)), hT9⟩) (fun q h => by cases h) dX12_mayIf_178
  by_cases k_49_6 : K j = 7
  · refine ho_tope (y := nI 7) (by rw [k_49_6]) ?_
    refine lv_tableIn (tgt := 179) hx hb dX12_mayIf_49 (by decide +kernel) (by decide +kernel) (off := 130) (by decide +kernel) (by decide) ?_
    refine lv_iload hx hb dX12_mayIf_179 (lv_at hl 0 rfl) ?_
    refine lv_if_eq (tgt := 202) hx hb dX12_mayIf_181 (by decide) (fun z => absurd z (by decide +kernel)) (fun _ => ?_)
    refine lv_iload_n hx hb dX12_mayIf_184 rfl (lv_at hl 5 rfl) ?_
    refine lv_iload_n hx hb dX12_mayIf_185 rfl (lv_at hl 2 rfl) ?_
    refine ho_icmp_eq (tgt := 202) hx hb dX12_mayIf_186 (by decide) (by omega) (by omega) (fun c_186 => ?_) (fun c_186 => ?_)
    · refine lv_iconst (v := nI 0) hx hb dX12_mayIf_202 (by decide +kernel) ?_
      exact W.zret (v := nI 0) hx hb hr rfl (fun T9 hT9 hW9 => ⟨_, rfl, (bI_f (by (simp [maB, plB, c_12, c_33, k_49_6, c_186]) <;> first | omega | exact Or.inr (by rw [← c_170]; exact c_12) | rfl)), hT9⟩) (fun q h => by cases h) dX12_mayIf_203
    refine lv_aload_n hx hb dX12_mayIf_189 rfl (lv_at hl 3 rfl) ?_
    refine lv_iload_n hx hb dX12_mayIf_190 rfl (lv_at hl 5 rfl) ?_
    refine lv_iconst (v := nI 0) hx hb dX12_mayIf_191 (by decide +kernel) ?_
    refine vp_callSi ((va_runV (As := [.int (nI i), .int (nI 0)]) (rest := []) ⟨hx, hb, hml, hown, hts⟩ (c_X12_of_0 l dC dI cI cD cR y as ai ar am ak ao az ae aq af hi th po ba en an aw ax ap se n d t day al nd bb oo K F kn i (by first | omega | assumption | exact gnd _ | exact gkn _ | exact Nat.lt_trans (gkn _) (by decide) | exact Nat.lt_trans (gnd _) (by decide) | exact Nat.lt_of_le_of_lt (pcN_le _) (by decide)) (by first | omega | assumption | exact gnd _ | exact gkn _ | exact Nat.lt_trans (gkn _) (by decide) | exact Nat.lt_trans (gnd _) (by decide) | exact Nat.lt_of_le_of_lt (pcN_le _) (by decide)) (by first | omega | assumption | exact gnd _ | exact gkn _ | exact Nat.lt_trans (gkn _) (by decide) | exact Nat.lt_trans (gnd _) (by decide) | exact Nat.lt_of_le_of_lt (pcN_le _) (by decide)) (by first | omega | assumption | exact gnd _ | exact gkn _ | exact Nat.lt_trans (gkn _) (by decide) | exact Nat.lt_trans (gnd _) (by decide) | exact Nat.lt_of_le_of_lt (pcN_le _) (by decide)) (by first | omega | assumption | exact gnd _ | exact gkn _ | exact Nat.lt_trans (gkn _) (by decide) | exact Nat.lt_trans (gnd _) (by decide) | exact Nat.lt_of_le_of_lt (pcN_le _) (by decide)) gnd gkn gK gF (by first | omega | assumption | exact gnd _ | exact gkn _ | exact Nat.lt_trans (gkn _) (by decide) | exact Nat.lt_trans (gnd _) (by decide) | exact Nat.lt_of_le_of_lt (pcN_le _) (by decide))) (cwV 2 hts gX12_mayIf_X12_of rfl rfl rfl (by decide +kernel) ⟨Nat.le_of_ble_eq_true rfl, Nat.le_of_ble_eq_true rfl⟩) (preV_R hCX (va_recv hK hP (ci := 12) (q0 := 0) rfl rfl) (hP)) rfl rfl hl.1 rfl (lv_room (Nat.le_of_ble_eq_true rfl)) dX12_mayIf_192 ⟨Nat.le_of_ble_eq_true (by first | rfl | decide), Nat.le_of_ble_eq_true (by first | rfl | decide)⟩).run) (fun r_192 hr_192 => ?_)
    subst hr_192
    refine ho_if_eq (tgt := 202) hx hb dX12_mayIf_195 (by decide) (Nat.lt_trans (gnd i) (by decide)) (fun c_195 => ?_) (fun c_195 => ?_)
    · refine lv_iconst (v := nI 0) hx hb dX12_mayIf_202 (by decide +kernel) ?_
      exact W.zret (v := nI 0) hx hb hr rfl (fun T9 hT9 hW9 => ⟨_, rfl, (bI_f (by (simp [maB, plB, c_12, c_33, k_49_6, c_186, c_195]) <;> first | omega | exact Or.inr (by rw [← c_170]; exact c_12) | rfl)), hT9⟩) (fun q h => by cases h) dX12_mayIf_203
    refine lv_iconst (v := nI 1) hx hb dX12_mayIf_198 (by decide +kernel) ?_
    refine lv_goto (tgt := 203) hx hb dX12_mayIf_199 (by decide) ?_
    exact W.zret (v := nI 1) hx hb hr rfl (fun T9 hT9 hW9 => ⟨_, rfl, (bI_t (by (simp [maB, plB, c_12, c_33, k_49_6, c_186, c_195]) <;> first | omega | exact Or.inr (by rw [← c_170]; exact c_12) | rfl)), hT9⟩) (fun q h => by cases h) dX12_mayIf_203
  refine lv_tableOut (tgt := 204) hx hb dX12_mayIf_49 (by rw [nI_toInt (by omega)]; omega) (by decide) ?_
  refine lv_iload hx hb dX12_mayIf_204 (lv_at hl 0 rfl) ?_
  exact W.zret (v := nI 1) hx hb hr rfl (fun T9 hT9 hW9 => ⟨_, rfl, (bI_t (by rw [show K j = 0 by omega]; (simp [maB, plB, c_12, c_33]) <;> first | omega | exact Or.inr (by rw [← c_170]; exact c_12) | rfl)), hT9⟩) (fun q h => by cases h) dX12_mayIf_206
set_option maxHeartbeats 4000000 in
set_option maxRecDepth 100000 in
theorem c_X12_mayNow (l : Launch) (dC : Nat → ClassId) (dI : Nat → Nat → Nat) (cI cD cR : ClassId) (y as ai ar am ak ao az ae aq af : Nat) (hi : Bool) (th : Int32) (po ba en an aw ax ap : Nat) (se : Int32) (n d t day al : Nat) (nd : Nat → Nat) (bb oo : Nat → Int32) (K F kn : Nat → Nat) (j i : Nat) (hn : n ≤ 9) (hd : d ≤ 7) (ht : t < 512) (hal : al < 128) (hday : day < 2 ^ 30) (gnd : ∀ i, nd i < 512) (gkn : ∀ j, kn j < 512) (gK : ∀ j, K j < 8) (gF : ∀ j, F j < 10) (hj9 : j < 7) (hi9 : i < 9) : Met l yX12_mayNow wsX12_mayNow ({ frames := 3, cells := 0, slots := 0, locals := 69 }) (pcR dC dI cI cD cR [.ref y, .int (nI j), .int (nI i)] (fun H => va_P (dC, dI) vwCl ([(y, .inr (12, [.ref as, .ref ai, .ref ar, .ref am, .ref ak, .ref ao, .ref az, .ref ae, .ref aq, .ref af, .int (bI hi), .int th, .int (nI po), .int (nI ba), .int (nI en), .ref an, .ref aw, .ref ax, .ref ap, .int se]))] ++ [(as, .inl (cI, 53, .inl (sF n d t day al nd bb oo K F kn)))]) H)) (vp_Si (fun r => r = bI (mnB t al nd K F kn j i))) 0 0 (fun _ => False) := by
  refine Met.ofW (cc := cX12_mayNow) (maxL := 3) (ret := (some .boolean)) (by decide) rfl ?_
  intro p e s m args below meth c s₁ B hml hv
  obtain ⟨rfl, hH0, hCX⟩ := hv
  have hx := B.exec
  have hb := B.bytes
  have hr := B.returns
  have hts := atoms_spec (ws := wsX12_mayNow) B.pre
  have hown : s.vm.findClass RX12 = some m.cls := findClass_of_methodNamed B.named
  have hlocks := B.notSynchronized
  have hK := hCX.1
  have hP := hH0
  have hl := lv_entry ([.ref y, .int (nI j), .int (nI i)]) (n := 3) (Nat.le_of_ble_eq_true rfl)
  rw [lg_entry_eq]
  generalize (lg_sl ([.ref y, .int (nI j), .int (nI i)]) ++ List.replicate (3 - (lg_sl ([.ref y, .int (nI j), .int (nI i)])).length) Slot.unset).toArray = ls at hl ⊢
  have hl : lv_has ls 3 [(0, .ref y), (1, .int (nI j)), (2, .int (nI i))] := hl
  refine lv_aload_n hx hb dX12_mayNow_0 rfl (lv_at hl 0 rfl) ?_
  refine lv_iload_n hx hb dX12_mayNow_1 rfl (lv_at hl 1 rfl) ?_
  refine vp_callSi ((va_runV (As := [.int (nI j)]) (rest := []) ⟨hx, hb, hml, hown, hts⟩ (c_X12_isAlive l dC dI cI cD cR y as ai ar am ak ao az ae aq af hi th po ba en an aw ax ap se n d t day al nd bb oo K F kn j (by first | omega | assumption | exact gnd _ | exact gkn _ | exact Nat.lt_trans (gkn _) (by decide) | exact Nat.lt_trans (gnd _) (by decide) | exact Nat.lt_of_le_of_lt (pcN_le _) (by decide)) (by first | omega | assumption | exact gnd _ | exact gkn _ | exact Nat.lt_trans (gkn _) (by decide) | exact Nat.lt_trans (gnd _) (by decide) | exact Nat.lt_of_le_of_lt (pcN_le _) (by decide)) (by first | omega | assumption | exact gnd _ | exact gkn _ | exact Nat.lt_trans (gkn _) (by decide) | exact Nat.lt_trans (gnd _) (by decide) | exact Nat.lt_of_le_of_lt (pcN_le _) (by decide)) (by first | omega | assumption | exact gnd _ | exact gkn _ | exact Nat.lt_trans (gkn _) (by decide) | exact Nat.lt_trans (gnd _) (by decide) | exact Nat.lt_of_le_of_lt (pcN_le _) (by decide)) (by first | omega | assumption | exact gnd _ | exact gkn _ | exact Nat.lt_trans (gkn _) (by decide) | exact Nat.lt_trans (gnd _) (by decide) | exact Nat.lt_of_le_of_lt (pcN_le _) (by decide)) gnd gkn gK gF (by first | omega | assumption | exact gnd _ | exact gkn _ | exact Nat.lt_trans (gkn _) (by decide) | exact Nat.lt_trans (gnd _) (by decide) | exact Nat.lt_of_le_of_lt (pcN_le _) (by decide))) (cwV 1 hts gX12_mayNow_X12_isAlive rfl rfl rfl (by decide +kernel) ⟨Nat.le_of_ble_eq_true rfl, Nat.le_of_ble_eq_true rfl⟩) (preV_R hCX (va_recv hK hP (ci := 12) (q0 := 0) rfl rfl) (hP)) rfl rfl hl.1 rfl (lv_room (Nat.le_of_ble_eq_true rfl)) dX12_mayNow_2 ⟨Nat.le_of_ble_eq_true (by first | rfl | decide), Nat.le_of_ble_eq_true (by first | rfl | decide)⟩).run) (fun r_2 hr_2 => ?_)
  subst hr_2
  refine ho_beq (tgt := 21) hx hb dX12_mayNow_5 (by decide) (fun c_5 => ?_) (fun c_5 => ?_)
  · refine lv_iconst (v := nI 0) hx hb dX12_mayNow_21 (by decide +kernel) ?_
    exact W.zret (v := nI 0) hx hb hr rfl (fun T9 hT9 hW9 => ⟨_, rfl, (bI_f (by (simp [mnB, c_5]) <;> first | rfl | omega)), hT9⟩) (fun q h => by cases h) dX12_mayNow_22
  refine lv_aload_n hx hb dX12_mayNow_8 rfl (lv_at hl 0 rfl) ?_
  refine lv_iload_n hx hb dX12_mayNow_9 rfl (lv_at hl 1 rfl) ?_
  refine lv_iload_n hx hb dX12_mayNow_10 rfl (lv_at hl 2 rfl) ?_
  refine vp_callSi ((va_runV (As := [.int (nI j), .int (nI i)]) (rest := []) ⟨hx, hb, hml, hown, hts⟩ (c_X12_mayIf l dC dI cI cD cR y as ai ar am ak ao az ae aq af hi th po ba en an aw ax ap se n d t day al nd bb oo K F kn j i (by first | omega | assumption | exact gnd _ | exact gkn _ | exact Nat.lt_trans (gkn _) (by decide) | exact Nat.lt_trans (gnd _) (by decide) | exact Nat.lt_of_le_of_lt (pcN_le _) (by decide)) (by first | omega | assumption | exact gnd _ | exact gkn _ | exact Nat.lt_trans (gkn _) (by decide) | exact Nat.lt_trans (gnd _) (by decide) | exact Nat.lt_of_le_of_lt (pcN_le _) (by decide)) (by first | omega | assumption | exact gnd _ | exact gkn _ | exact Nat.lt_trans (gkn _) (by decide) | exact Nat.lt_trans (gnd _) (by decide) | exact Nat.lt_of_le_of_lt (pcN_le _) (by decide)) (by first | omega | assumption | exact gnd _ | exact gkn _ | exact Nat.lt_trans (gkn _) (by decide) | exact Nat.lt_trans (gnd _) (by decide) | exact Nat.lt_of_le_of_lt (pcN_le _) (by decide)) (by first | omega | assumption | exact gnd _ | exact gkn _ | exact Nat.lt_trans (gkn _) (by decide) | exact Nat.lt_trans (gnd _) (by decide) | exact Nat.lt_of_le_of_lt (pcN_le _) (by decide)) gnd gkn gK gF (by first | omega | assumption | exact gnd _ | exact gkn _ | exact Nat.lt_trans (gkn _) (by decide) | exact Nat.lt_trans (gnd _) (by decide) | exact Nat.lt_of_le_of_lt (pcN_le _) (by decide)) (by first | omega | assumption | exact gnd _ | exact gkn _ | exact Nat.lt_trans (gkn _) (by decide) | exact Nat.lt_trans (gnd _) (by decide) | exact Nat.lt_of_le_of_lt (pcN_le _) (by decide))) (cwV 2 hts gX12_mayNow_X12_mayIf rfl rfl rfl (by decide +kernel) ⟨Nat.le_of_ble_eq_true rfl, Nat.le_of_ble_eq_true rfl⟩) (preV_R hCX (va_recv hK hP (ci := 12) (q0 := 0) rfl rfl) (hP)) rfl rfl hl.1 rfl (lv_room (Nat.le_of_ble_eq_true rfl)) dX12_mayNow_11 ⟨Nat.le_of_ble_eq_true (by first | rfl | decide), Nat.le_of_ble_eq_true (by first | rfl | decide)⟩).run) (fun r_11 hr_11 => ?_)
  subst hr_11
  refine ho_beq (tgt := 21) hx hb dX12_mayNow_14 (by decide) (fun c_14 => ?_) (fun c_14 => ?_)
  · refine lv_iconst (v := nI 0) hx hb dX12_mayNow_21 (by decide +kernel) ?_
    exact W.zret (v := nI 0) hx hb hr rfl (fun T9 hT9 hW9 => ⟨_, rfl, (bI_f (by (simp [mnB, c_5, c_14]) <;> first | rfl | omega)), hT9⟩) (fun q h => by cases h) dX12_mayNow_22
  refine lv_iconst (v := nI 1) hx hb dX12_mayNow_17 (by decide +kernel) ?_
  refine lv_goto (tgt := 22) hx hb dX12_mayNow_18 (by decide) ?_
  exact W.zret (v := nI 1) hx hb hr rfl (fun T9 hT9 hW9 => ⟨_, rfl, (bI_t (by (simp [mnB, c_5, c_14]) <;> first | rfl | omega)), hT9⟩) (fun q h => by cases h) dX12_mayNow_22
set_option maxHeartbeats 4000000 in
set_option maxRecDepth 100000 in
theorem c_X12_isSilenced (l : Launch) (dC : Nat → ClassId) (dI : Nat → Nat → Nat) (cI cD cR : ClassId) (y as ai ar am ak ao az ae aq af : Nat) (hi : Bool) (th : Int32) (po ba en an aw ax ap : Nat) (se : Int32) (n d t day al : Nat) (nd : Nat → Nat) (bb oo : Nat → Int32) (K F kn : Nat → Nat) (j i dy : Nat) (hn : n ≤ 9) (hd : d ≤ 7) (ht : t < 512) (hal : al < 128) (hday : day < 2 ^ 30) (gnd : ∀ i, nd i < 512) (gkn : ∀ j, kn j < 512) (gK : ∀ j, K j < 8) (gF : ∀ j, F j < 10) (hj9 : j < 7) (hi9 : i < 9) (hdy : dy < 2 ^ 31) : Met l yX12_isSilenced wsX12_isSilenced ({ frames := 2, cells := 0, slots := 0, locals := 44 }) (pcR dC dI cI cD cR [.ref y, .int (nI j), .int (nI i), .int (nI dy)] (fun H => va_P (dC, dI) vwCl ([(y, .inr (12, [.ref as, .ref ai, .ref ar, .ref am, .ref ak, .ref ao, .ref az, .ref ae, .ref aq, .ref af, .int (bI hi), .int th, .int (nI po), .int (nI ba), .int (nI en), .ref an, .ref aw, .ref ax, .ref ap, .int se]))] ++ [(as, .inl (cI, 53, .inl (sF n d t day al nd bb oo K F kn)))]) H)) (vp_Si (fun r => r = bI (siB (K j) t (kn j) (nd i) (dy % 2 != 0)))) 0 0 (fun _ => False) := by
  refine Met.ofW (cc := cX12_isSilenced) (maxL := 5) (ret := (some .boolean)) (by decide) rfl ?_
  intro p e s m args below meth c s₁ B hml hv
  obtain ⟨rfl, hH0, hCX⟩ := hv
  have hx := B.exec
  have hb := B.bytes
  have hr := B.returns
  have hts := atoms_spec (ws := wsX12_isSilenced) B.pre
  have hown : s.vm.findClass RX12 = some m.cls := findClass_of_methodNamed B.named
  have hlocks := B.notSynchronized
  have hK := hCX.1
  have hP := hH0
  have hl := lv_entry ([.ref y, .int (nI j), .int (nI i), .int (nI dy)]) (n := 5) (Nat.le_of_ble_eq_true rfl)
  rw [lg_entry_eq]
  generalize (lg_sl ([.ref y, .int (nI j), .int (nI i), .int (nI dy)]) ++ List.replicate (5 - (lg_sl ([.ref y, .int (nI j), .int (nI i), .int (nI dy)])).length) Slot.unset).toArray = ls at hl ⊢
  have hl : lv_has ls 5 [(0, .ref y), (1, .int (nI j)), (2, .int (nI i)), (3, .int (nI dy))] := hl
  refine lv_aload_n hx hb dX12_isSilenced_0 rfl (lv_at hl 0 rfl) ?_
  refine lv_iload_n hx hb dX12_isSilenced_1 rfl (lv_at hl 1 rfl) ?_
  refine lv_iconst (v := nI 0) hx hb dX12_isSilenced_2 (by decide +kernel) ?_
  refine vp_callSi ((va_runV (As := [.int (nI j), .int (nI 0)]) (rest := []) ⟨hx, hb, hml, hown, hts⟩ (c_X12_get_0 l dC dI cI cD cR y as ai ar am ak ao az ae aq af hi th po ba en an aw ax ap se n d t day al nd bb oo K F kn j (by first | omega | assumption | exact gnd _ | exact gkn _ | exact Nat.lt_trans (gkn _) (by decide) | exact Nat.lt_trans (gnd _) (by decide) | exact Nat.lt_of_le_of_lt (pcN_le _) (by decide)) (by first | omega | assumption | exact gnd _ | exact gkn _ | exact Nat.lt_trans (gkn _) (by decide) | exact Nat.lt_trans (gnd _) (by decide) | exact Nat.lt_of_le_of_lt (pcN_le _) (by decide)) (by first | omega | assumption | exact gnd _ | exact gkn _ | exact Nat.lt_trans (gkn _) (by decide) | exact Nat.lt_trans (gnd _) (by decide) | exact Nat.lt_of_le_of_lt (pcN_le _) (by decide)) (by first | omega | assumption | exact gnd _ | exact gkn _ | exact Nat.lt_trans (gkn _) (by decide) | exact Nat.lt_trans (gnd _) (by decide) | exact Nat.lt_of_le_of_lt (pcN_le _) (by decide)) (by first | omega | assumption | exact gnd _ | exact gkn _ | exact Nat.lt_trans (gkn _) (by decide) | exact Nat.lt_trans (gnd _) (by decide) | exact Nat.lt_of_le_of_lt (pcN_le _) (by decide)) gnd gkn gK gF (by first | omega | assumption | exact gnd _ | exact gkn _ | exact Nat.lt_trans (gkn _) (by decide) | exact Nat.lt_trans (gnd _) (by decide) | exact Nat.lt_of_le_of_lt (pcN_le _) (by decide))) (cwV 2 hts gX12_isSilenced_X12_get rfl rfl rfl (by decide +kernel) ⟨Nat.le_of_ble_eq_true rfl, Nat.le_of_ble_eq_true rfl⟩) (preV_R hCX (va_recv hK hP (ci := 12) (q0 := 0) rfl rfl) (hP)) rfl rfl hl.1 rfl (lv_room (Nat.le_of_ble_eq_true rfl)) dX12_isSilenced_3 ⟨Nat.le_of_ble_eq_true (by first | rfl | decide), Nat.le_of_ble_eq_true (by first | rfl | decide)⟩).run) (fun r_3 hr_3 => ?_)
  subst hr_3
  have hK9 := gK j
  refine lv_istore (lv' := [(4, .int (nI (K j))), (0, .ref y), (1, .int (nI j)), (2, .int (nI i)), (3, .int (nI dy))]) hx hb dX12_isSilenced_6 hl (by decide) rfl (fun ls hl => ?_)
  refine lv_iload hx hb dX12_isSilenced_8 (lv_at hl 0 rfl) ?_
  refine lv_iconst (v := nI 3) hx hb dX12_isSilenced_10 (by decide +kernel) ?_
  refine ho_icmp_eq (tgt := 40) hx hb dX12_isSilenced_11 (by decide) (by omega) (by omega) (fun c_11 => ?_) (fun c_11 => ?_)
  · refine lv_iconst (v := nI 0) hx hb dX12_isSilenced_40 (by decide +kernel) ?_
    exact W.zret (v := nI 0) hx hb hr rfl (fun T9 hT9 hW9 => ⟨_, rfl, (bI_f (by first | (rw [c_11]; rfl) | (rw [siB_g c_11 (fun q => c_18 q)]; first | exact c_33 | rfl) | (rw [c_18]; simp [siB, c_24, c_33]) | (rw [c_18]; simp [siB, c_24]))), hT9⟩) (fun q h => by cases h) dX12_isSilenced_41
  refine lv_iload hx hb dX12_isSilenced_14 (lv_at hl 0 rfl) ?_
  refine lv_bipush (v := nI 7) hx hb dX12_isSilenced_16 (by decide +kernel) ?_
  refine ho_icmp_ne (tgt := 27) hx hb dX12_isSilenced_18 (by decide) (by omega) (by omega) (fun c_18 => ?_) (fun c_18 => ?_)
  · refine lv_aload_n hx hb dX12_isSilenced_27 rfl (lv_at hl 1 rfl) ?_
    refine lv_iload_n hx hb dX12_isSilenced_28 rfl (lv_at hl 2 rfl) ?_
    refine lv_iload_n hx hb dX12_isSilenced_29 rfl (lv_at hl 3 rfl) ?_
    refine vp_callSi ((va_runV (As := [.int (nI j), .int (nI i)]) (rest := []) ⟨hx, hb, hml, hown, hts⟩ (c_X12_isMet l dC dI cI cD cR y as ai ar am ak ao az ae aq af hi th po ba en an aw ax ap se n d t day al nd bb oo K F kn j i (by first | omega | assumption | exact gnd _ | exact gkn _ | exact Nat.lt_trans (gkn _) (by decide) | exact Nat.lt_trans (gnd _) (by decide) | exact Nat.lt_of_le_of_lt (pcN_le _) (by decide)) (by first | omega | assumption | exact gnd _ | exact gkn _ | exact Nat.lt_trans (gkn _) (by decide) | exact Nat.lt_trans (gnd _) (by decide) | exact Nat.lt_of_le_of_lt (pcN_le _) (by decide)) (by first | omega | assumption | exact gnd _ | exact gkn _ | exact Nat.lt_trans (gkn _) (by decide) | exact Nat.lt_trans (gnd _) (by decide) | exact Nat.lt_of_le_of_lt (pcN_le _) (by decide)) (by first | omega | assumption | exact gnd _ | exact gkn _ | exact Nat.lt_trans (gkn _) (by decide) | exact Nat.lt_trans (gnd _) (by decide) | exact Nat.lt_of_le_of_lt (pcN_le _) (by decide)) (by first | omega | assumption | exact gnd _ | exact gkn _ | exact Nat.lt_trans (gkn _) (by decide) | exact Nat.lt_trans (gnd _) (by decide) | exact Nat.lt_of_le_of_lt (pcN_le _) (by decide)) gnd gkn gK gF (by first | omega | assumption | exact gnd _ | exact gkn _ | exact Nat.lt_trans (gkn _) (by decide) | exact Nat.lt_trans (gnd _) (by decide) | exact Nat.lt_of_le_of_lt (pcN_le _) (by decide)) (by first | omega | assumption | exact gnd _ | exact gkn _ | exact Nat.lt_trans (gkn _) (by decide) | exact Nat.lt_trans (gnd _) (by decide) | exact Nat.lt_of_le_of_lt (pcN_le _) (by decide))) (cwV 2 hts gX12_isSilenced_X12_isMet rfl rfl rfl (by decide +kernel) ⟨Nat.le_of_ble_eq_true rfl, Nat.le_of_ble_eq_true rfl⟩) (preV_R hCX (va_recv hK hP (ci := 12) (q0 := 0) rfl rfl) (hP)) rfl rfl hl.1 rfl (lv_room (Nat.le_of_ble_eq_true rfl)) dX12_isSilenced_30 ⟨Nat.le_of_ble_eq_true (by first | rfl | decide), Nat.le_of_ble_eq_true (by first | rfl | decide)⟩).run) (fun r_30 hr_30 => ?_)
    subst hr_30
    refine ho_beq (tgt := 40) hx hb dX12_isSilenced_33 (by decide) (fun c_33 => ?_) (fun c_33 => ?_)
    · refine lv_iconst (v := nI 0) hx hb dX12_isSilenced_40 (by decide +kernel) ?_
      exact W.zret (v := nI 0) hx hb hr rfl (fun T9 hT9 hW9 => ⟨_, rfl, (bI_f (by first | (rw [c_11]; rfl) | (rw [siB_g c_11 (fun q => c_18 q)]; first | exact c_33 | rfl) | (rw [c_18]; simp [siB, c_24, c_33]) | (rw [c_18]; simp [siB, c_24]))), hT9⟩) (fun q h => by cases h) dX12_isSilenced_41
    refine lv_iconst (v := nI 1) hx hb dX12_isSilenced_36 (by decide +kernel) ?_
    refine lv_goto (tgt := 41) hx hb dX12_isSilenced_37 (by decide) ?_
    exact W.zret (v := nI 1) hx hb hr rfl (fun T9 hT9 hW9 => ⟨_, rfl, (bI_t (by first | (rw [c_11]; rfl) | (rw [siB_g c_11 (fun q => c_18 q)]; first | exact c_33 | rfl) | (rw [c_18]; simp [siB, c_24, c_33]) | (rw [c_18]; simp [siB, c_24]))), hT9⟩) (fun q h => by cases h) dX12_isSilenced_41
  refine lv_iload_n hx hb dX12_isSilenced_21 rfl (lv_at hl 4 rfl) ?_
  refine lv_iconst (v := nI 2) hx hb dX12_isSilenced_22 (by decide +kernel) ?_
  refine ho_irem hx hb dX12_isSilenced_23 (by omega) (by omega) (by omega) ?_
  refine ho_if_ne (tgt := 40) hx hb dX12_isSilenced_24 (by decide) (by omega) (fun c_24 => ?_) (fun c_24 => ?_)
  · refine lv_iconst (v := nI 0) hx hb dX12_isSilenced_40 (by decide +kernel) ?_
    exact W.zret (v := nI 0) hx hb hr rfl (fun T9 hT9 hW9 => ⟨_, rfl, (bI_f (by first | (rw [c_11]; rfl) | (rw [siB_g c_11 (fun q => c_18 q)]; first | exact c_33 | rfl) | (rw [c_18]; simp [siB, c_24, c_33]) | (rw [c_18]; simp [siB, c_24]))), hT9⟩) (fun q h => by cases h) dX12_isSilenced_41
  refine lv_aload_n hx hb dX12_isSilenced_27 rfl (lv_at hl 1 rfl) ?_
  refine lv_iload_n hx hb dX12_isSilenced_28 rfl (lv_at hl 2 rfl) ?_
  refine lv_iload_n hx hb dX12_isSilenced_29 rfl (lv_at hl 3 rfl) ?_
  refine vp_callSi ((va_runV (As := [.int (nI j), .int (nI i)]) (rest := []) ⟨hx, hb, hml, hown, hts⟩ (c_X12_isMet l dC dI cI cD cR y as ai ar am ak ao az ae aq af hi th po ba en an aw ax ap se n d t day al nd bb oo K F kn j i (by first | omega | assumption | exact gnd _ | exact gkn _ | exact Nat.lt_trans (gkn _) (by decide) | exact Nat.lt_trans (gnd _) (by decide) | exact Nat.lt_of_le_of_lt (pcN_le _) (by decide)) (by first | omega | assumption | exact gnd _ | exact gkn _ | exact Nat.lt_trans (gkn _) (by decide) | exact Nat.lt_trans (gnd _) (by decide) | exact Nat.lt_of_le_of_lt (pcN_le _) (by decide)) (by first | omega | assumption | exact gnd _ | exact gkn _ | exact Nat.lt_trans (gkn _) (by decide) | exact Nat.lt_trans (gnd _) (by decide) | exact Nat.lt_of_le_of_lt (pcN_le _) (by decide)) (by first | omega | assumption | exact gnd _ | exact gkn _ | exact Nat.lt_trans (gkn _) (by decide) | exact Nat.lt_trans (gnd _) (by decide) | exact Nat.lt_of_le_of_lt (pcN_le _) (by decide)) (by first | omega | assumption | exact gnd _ | exact gkn _ | exact Nat.lt_trans (gkn _) (by decide) | exact Nat.lt_trans (gnd _) (by decide) | exact Nat.lt_of_le_of_lt (pcN_le _) (by decide)) gnd gkn gK gF (by first | omega | assumption | exact gnd _ | exact gkn _ | exact Nat.lt_trans (gkn _) (by decide) | exact Nat.lt_trans (gnd _) (by decide) | exact Nat.lt_of_le_of_lt (pcN_le _) (by decide)) (by first | omega | assumption | exact gnd _ | exact gkn _ | exact Nat.lt_trans (gkn _) (by decide) | exact Nat.lt_trans (gnd _) (by decide) | exact Nat.lt_of_le_of_lt (pcN_le _) (by decide))) (cwV 2 hts gX12_isSilenced_X12_isMet rfl rfl rfl (by decide +kernel) ⟨Nat.le_of_ble_eq_true rfl, Nat.le_of_ble_eq_true rfl⟩) (preV_R hCX (va_recv hK hP (ci := 12) (q0 := 0) rfl rfl) (hP)) rfl rfl hl.1 rfl (lv_room (Nat.le_of_ble_eq_true rfl)) dX12_isSilenced_30 ⟨Nat.le_of_ble_eq_true (by first | rfl | decide), Nat.le_of_ble_eq_true (by first | rfl | decide)⟩).run) (fun r_30 hr_30 => ?_)
  subst hr_30
  refine ho_beq (tgt := 40) hx hb dX12_isSilenced_33 (by decide) (fun c_33 => ?_) (fun c_33 => ?_)
  · refine lv_iconst (v := nI 0) hx hb dX12_isSilenced_40 (by decide +kernel) ?_
    exact W.zret (v := nI 0) hx hb hr rfl (fun T9 hT9 hW9 => ⟨_, rfl, (bI_f (by first | (rw [c_11]; rfl) | (rw [siB_g c_11 (fun q => c_18 q)]; first | exact c_33 | rfl) | (rw [c_18]; simp [siB, c_24, c_33]) | (rw [c_18]; simp [siB, c_24]))), hT9⟩) (fun q h => by cases h) dX12_isSilenced_41
  refine lv_iconst (v := nI 1) hx hb dX12_isSilenced_36 (by decide +kernel) ?_
  refine lv_goto (tgt := 41) hx hb dX12_isSilenced_37 (by decide) ?_
  exact W.zret (v := nI 1) hx hb hr rfl (fun T9 hT9 hW9 => ⟨_, rfl, (bI_t (by first | (rw [c_11]; rfl) | (rw [siB_g c_11 (fun q => c_18 q)]; first | exact c_33 | rfl) | (rw [c_18]; simp [siB, c_24, c_33]) | (rw [c_18]; simp [siB, c_24]))), hT9⟩) (fun q h => by cases h) dX12_isSilenced_41
