set_option maxHeartbeats 4000000 in
set_option maxRecDepth 100000 in
theorem c_X12_leastWith (l : Launch) (dC : Nat → ClassId) (dI : Nat → Nat → Nat) (cI cD cR : ClassId) (y as ai ar am ak ao az ae aq af : Nat) (hi : Bool) (th : Int32) (po ba en an aw ax ap : Nat) (se : Int32) (n d t day al : Nat) (nd : Nat → Nat) (bb oo : Nat → Int32) (K F kn : Nat → Nat) (b9 : Nat) (fe : Nat → Option Nat) (i : Nat) (hn : n ≤ 9) (hd : d ≤ 7) (ht : t < 512) (hal : al < 128) (hday : day < 2 ^ 30) (gnd : ∀ i, nd i < 512) (gkn : ∀ j, kn j < 512) (gK : ∀ j, K j < 8) (gF : ∀ j, F j < 10) (hi9 : i < 9) (gle : ∀ k v, fe k = some v → k < 512 → v < 1000000) : Met l yX12_leastWith wsX12_leastWith ({ frames := 1, cells := 0, slots := 0, locals := 21 }) (pcR dC dI cI cD cR [.ref y, .ref b9, .int (nI i)] (fun H => va_P (dC, dI) vwCl ([(y, .inr (12, [.ref as, .ref ai, .ref ar, .ref am, .ref ak, .ref ao, .ref az, .ref ae, .ref aq, .ref af, .int (bI hi), .int th, .int (nI po), .int (nI ba), .int (nI en), .ref an, .ref aw, .ref ax, .ref ap, .int se]))] ++ [(as, .inl (cI, 53, .inl (sF n d t day al nd bb oo K F kn)))] ++ [(b9, .inl (cI, 512, .inl (oF fe)))]) H)) (vp_Si (fun r => r = oI (lwO fe i (2 ^ n)))) 0 0 (fun _ => False) := by
  refine Met.ofW (cc := cX12_leastWith) (maxL := 5) (ret := (some .int)) (by decide) rfl ?_
  intro p e s m args below meth c s₁ B hml hv
  obtain ⟨rfl, hH0, hCX⟩ := hv
  have hx := B.exec
  have hb := B.bytes
  have hr := B.returns
  have hts := atoms_spec (ws := wsX12_leastWith) B.pre
  have hown : s.vm.findClass RX12 = some m.cls := findClass_of_methodNamed B.named
  have hlocks := B.notSynchronized
  have hK := hCX.1
  have hP := hH0
  have hp2 : 2 ^ n ≤ 2 ^ 9 := Nat.pow_le_pow_right (by decide) hn
  have hp1 : 1 ≤ 2 ^ n := Nat.one_le_two_pow
  have hl := lv_entry ([.ref y, .ref b9, .int (nI i)]) (n := 5) (Nat.le_of_ble_eq_true rfl)
  rw [lg_entry_eq]
  generalize (lg_sl ([.ref y, .ref b9, .int (nI i)]) ++ List.replicate (5 - (lg_sl ([.ref y, .ref b9, .int (nI i)])).length) Slot.unset).toArray = ls at hl ⊢
  have hl : lv_has ls 5 [(0, .ref y), (1, .ref b9), (2, .int (nI i))] := hl
  refine lv_bipush (v := (-4)) hx hb dX12_leastWith_0 (by decide +kernel) ?_
  refine lv_istore_n (lv' := [(3, .int (-4)), (0, .ref y), (1, .ref b9), (2, .int (nI i))]) hx hb dX12_leastWith_2 rfl hl (by decide) rfl (fun ls hl => ?_)
  refine lv_iconst (v := nI 0) hx hb dX12_leastWith_3 (by decide +kernel) ?_
  refine lv_istore (lv' := [(4, .int (nI 0)), (3, .int (-4)), (0, .ref y), (1, .ref b9), (2, .int (nI i))]) hx hb dX12_leastWith_4 hl (by decide) rfl (fun ls hl => ?_)
  have e9_3 : ((-4) : Int32) = oI (lwO fe i 0) := by rfl
  rw [e9_3] at hl
  refine ho_lp (T := Nat) 5 (fun x9 => [(4, .int (nI x9)), (3, .int (oI (lwO fe i x9))), (0, .ref y), (1, .ref b9), (2, .int (nI i))]) (fun x9 => []) (fun x9 => (x9 ≤ 2 ^ n)) (fun x9 => 2 ^ n - x9) 0 (by omega) (lv_sub hl [0, 1, 2, 3, 4] rfl) ?_
  intro fu6 k ls hI hm6 hl ih
  have hk := hI
  have hl : lv_has ls 5 [(4, .int (nI k)), (3, .int (oI (lwO fe i k))), (0, .ref y), (1, .ref b9), (2, .int (nI i))] := hl
  have hk : k ≤ 2 ^ n := hk
  have hm6 : 2 ^ n - k < fu6 + 1 := hm6
  refine W.eq (g2 := F0 m 6 ls []) rfl ?_
  have ih6 := ih
  refine lv_iload hx hb dX12_leastWith_6 (lv_at hl 0 rfl) ?_
  refine lv_aload_n hx hb dX12_leastWith_8 rfl (lv_at hl 2 rfl) ?_
  refine vp_callSi ((va_runV (As := []) (rest := [.int (nI k)]) ⟨hx, hb, hml, hown, hts⟩ (c_X12_everything l dC dI cI cD cR y as ai ar am ak ao az ae aq af hi th po ba en an aw ax ap se n d t day al nd bb oo K F kn (by first | omega | assumption | exact gnd _ | exact gkn _ | exact Nat.lt_trans (gkn _) (by decide) | exact Nat.lt_trans (gnd _) (by decide) | exact Nat.lt_of_le_of_lt (pcN_le _) (by decide)) (by first | omega | assumption | exact gnd _ | exact gkn _ | exact Nat.lt_trans (gkn _) (by decide) | exact Nat.lt_trans (gnd _) (by decide) | exact Nat.lt_of_le_of_lt (pcN_le _) (by decide)) (by first | omega | assumption | exact gnd _ | exact gkn _ | exact Nat.lt_trans (gkn _) (by decide) | exact Nat.lt_trans (gnd _) (by decide) | exact Nat.lt_of_le_of_lt (pcN_le _) (by decide)) (by first | omega | assumption | exact gnd _ | exact gkn _ | exact Nat.lt_trans (gkn _) (by decide) | exact Nat.lt_trans (gnd _) (by decide) | exact Nat.lt_of_le_of_lt (pcN_le _) (by decide)) (by first | omega | assumption | exact gnd _ | exact gkn _ | exact Nat.lt_trans (gkn _) (by decide) | exact Nat.lt_trans (gnd _) (by decide) | exact Nat.lt_of_le_of_lt (pcN_le _) (by decide)) gnd gkn gK gF) (cwV 0 hts gX12_leastWith_X12_everything rfl rfl rfl (by decide +kernel) ⟨Nat.le_of_ble_eq_true rfl, Nat.le_of_ble_eq_true rfl⟩) (preV_R hCX (va_recv hK hP (ci := 12) (q0 := 0) rfl rfl) ((hP.sub (ws' := [(y, .inr (12, [.ref as, .ref ai, .ref ar, .ref am, .ref ak, .ref ao, .ref az, .ref ae, .ref aq, .ref af, .int (bI hi), .int th, .int (nI po), .int (nI ba), .int (nI en), .ref an, .ref aw, .ref ax, .ref ap, .int se]))] ++ [(as, .inl (cI, 53, .inl (sF n d t day al nd bb oo K F kn)))]) [0, 1] rfl))) rfl rfl hl.1 rfl (lv_room (Nat.le_of_ble_eq_true rfl)) dX12_leastWith_9 ⟨Nat.le_of_ble_eq_true (by first | rfl | decide), Nat.le_of_ble_eq_true (by first | rfl | decide)⟩).run) (fun r_9 hr_9 => ?_)
  subst hr_9
  refine ho_icmp_gt (tgt := 54) hx hb dX12_leastWith_12 (by decide) (by omega) (by omega) (fun c_12 => ?_) (fun c_12 => ?_)
  · refine lv_iload_n hx hb dX12_leastWith_54 rfl (lv_at hl 1 rfl) ?_
    exact W.iret (v := oI (lwO fe i k)) hx hb hr (fun T9 hT9 hW9 => ⟨_, rfl, (by rw [show k = 2 ^ n by omega]), hT9⟩) (fun q h => by cases h) dX12_leastWith_55
  refine lv_iload hx hb dX12_leastWith_15 (lv_at hl 0 rfl) ?_
  refine lv_iload_n hx hb dX12_leastWith_17 rfl (lv_at hl 4 rfl) ?_
  refine vp_callSi ((va_runS (As := [.int (nI k), .int (nI i)]) (rest := []) ⟨hx, hb, hml, hown, hts⟩ (c_X12_has l dC dI cI cD cR k i (by first | omega | assumption | exact gnd _ | exact gkn _ | exact Nat.lt_trans (gkn _) (by decide) | exact Nat.lt_trans (gnd _) (by decide) | exact Nat.lt_of_le_of_lt (pcN_le _) (by decide)) (by first | omega | assumption | exact gnd _ | exact gkn _ | exact Nat.lt_trans (gkn _) (by decide) | exact Nat.lt_trans (gnd _) (by decide) | exact Nat.lt_of_le_of_lt (pcN_le _) (by decide))) (va_cwS 2 hts gX12_leastWith_X12_has rfl rfl rfl (by decide +kernel) ⟨Nat.le_of_ble_eq_true rfl, Nat.le_of_ble_eq_true rfl⟩) (preS_R hCX (trivial)) rfl rfl hl.1 rfl (lv_room (Nat.le_of_ble_eq_true rfl)) dX12_leastWith_18 ⟨Nat.le_of_ble_eq_true (by first | rfl | decide), Nat.le_of_ble_eq_true (by first | rfl | decide)⟩).run) (fun r_18 hr_18 => ?_)
  subst hr_18
  refine ho_beq (tgt := 48) hx hb dX12_leastWith_21 (by decide) (fun c_21 => ?_) (fun c_21 => ?_)
  · refine ho_iinc (lv' := [(4, .int (nI (k + 1))), (3, .int (oI (lwO fe i k))), (0, .ref y), (1, .ref b9), (2, .int (nI i))]) (a := k) (b := 1) hx hb dX12_leastWith_48 hl (k := 0) rfl rfl (by decide) rfl (fun ls hl => ?_)
    refine lv_goto (tgt := 6) hx hb dX12_leastWith_51 (by decide) ?_
    have e9_3 : (oI (lwO fe i k) : Int32) = oI (lwO fe i (k + 1)) := by first | exact congrArg oI (lwO_f c_21) | exact congrArg oI (lwO_n c_21 hv_27) | exact congrArg oI (lwO_0 c_21 hv_27 hq_31) | exact congrArg oI (lwO_l c_21 hv_27 hq_31 c_40) | exact congrArg oI (lwO_g c_21 hv_27 hq_31 c_40)
    rw [e9_3] at hl
    exact ih6 (k + 1) _ (by omega) (show 2 ^ n - (k + 1) < fu6 from (by omega)) (lv_sub hl [0, 1, 2, 3, 4] rfl)
  refine lv_aload_n hx hb dX12_leastWith_24 rfl (lv_at hl 3 rfl) ?_
  refine lv_iload hx hb dX12_leastWith_25 (lv_at hl 0 rfl) ?_
  refine ho_iald (v := oI (fe k)) hx hb hK hP 2 0 rfl rfl (by omega) (by first | decide | omega) rfl dX12_leastWith_27 ?_
  cases hv_27 : fe k with
  | none =>
    refine ho_tope (y := (-4)) rfl ?_
    refine lv_if_lt (tgt := 48) hx hb dX12_leastWith_28 (by decide) (fun _ => ?_) (fun z => absurd z (by decide +kernel))
    refine ho_iinc (lv' := [(4, .int (nI (k + 1))), (3, .int (oI (lwO fe i k))), (0, .ref y), (1, .ref b9), (2, .int (nI i))]) (a := k) (b := 1) hx hb dX12_leastWith_48 hl (k := 0) rfl rfl (by decide) rfl (fun ls hl => ?_)
    refine lv_goto (tgt := 6) hx hb dX12_leastWith_51 (by decide) ?_
    have e9_3 : (oI (lwO fe i k) : Int32) = oI (lwO fe i (k + 1)) := by first | exact congrArg oI (lwO_f c_21) | exact congrArg oI (lwO_n c_21 hv_27) | exact congrArg oI (lwO_0 c_21 hv_27 hq_31) | exact congrArg oI (lwO_l c_21 hv_27 hq_31 c_40) | exact congrArg oI (lwO_g c_21 hv_27 hq_31 c_40)
    rw [e9_3] at hl
    exact ih6 (k + 1) _ (by omega) (show 2 ^ n - (k + 1) < fu6 from (by omega)) (lv_sub hl [0, 1, 2, 3, 4] rfl)
  | some v_27 =>
    refine ho_tope (y := nI v_27) rfl ?_
    have b27 := gle _ _ hv_27 (by omega)
    refine ho_if_lt0 hx hb dX12_leastWith_28 (tgt := 48) (by decide) (by omega) ?_
    obtain ⟨q_31, hq_31⟩ : ∃ y, y = lwO fe i k := ⟨_, rfl⟩
    rw [← hq_31] at hl
    cases q_31 with
    | none =>
      have hl : lv_has ls 5 [(4, .int (nI k)), (3, .int (-4)), (0, .ref y), (1, .ref b9), (2, .int (nI i))] := hl
      have hq_31 := hq_31.symm
      refine lv_iload_n hx hb dX12_leastWith_31 rfl (lv_at hl 1 rfl) ?_
      refine lv_if_lt (tgt := 43) hx hb dX12_leastWith_32 (by decide) (fun _ => ?_) (fun z => absurd z (by decide +kernel))
      refine lv_aload_n hx hb dX12_leastWith_43 rfl (lv_at hl 3 rfl) ?_
      refine lv_iload hx hb dX12_leastWith_44 (lv_at hl 0 rfl) ?_
      refine ho_iald (v := nI v_27) hx hb hK hP 2 0 rfl rfl (by omega) (by first | decide | omega) (show oI (fe k) = _ by rw [hv_27]; rfl) dX12_leastWith_46 ?_
      refine lv_istore_n (lv' := [(3, .int (nI v_27)), (4, .int (nI k)), (0, .ref y), (1, .ref b9), (2, .int (nI i))]) hx hb dX12_leastWith_47 rfl hl (by decide) rfl (fun ls hl => ?_)
      refine ho_iinc (lv' := [(4, .int (nI (k + 1))), (3, .int (nI v_27)), (0, .ref y), (1, .ref b9), (2, .int (nI i))]) (a := k) (b := 1) hx hb dX12_leastWith_48 hl (k := 1) rfl rfl (by decide) rfl (fun ls hl => ?_)
      refine lv_goto (tgt := 6) hx hb dX12_leastWith_51 (by decide) ?_
      have e9_3 : (nI v_27 : Int32) = oI (lwO fe i (k + 1)) := by first | exact congrArg oI (lwO_f c_21) | exact congrArg oI (lwO_n c_21 hv_27) | exact congrArg oI (lwO_0 c_21 hv_27 hq_31) | exact congrArg oI (lwO_l c_21 hv_27 hq_31 c_40) | exact congrArg oI (lwO_g c_21 hv_27 hq_31 c_40)
      rw [e9_3] at hl
      exact ih6 (k + 1) _ (by omega) (show 2 ^ n - (k + 1) < fu6 from (by omega)) (lv_sub hl [0, 1, 2, 3, 4] rfl)
    | some vq_31 =>
      have hl : lv_has ls 5 [(4, .int (nI k)), (3, .int (nI vq_31)), (0, .ref y), (1, .ref b9), (2, .int (nI i))] := hl
      have hq_31 := hq_31.symm
      have b31 := lwO_lt (i := i) gle k (by omega) _ hq_31
      refine lv_iload_n hx hb dX12_leastWith_31 rfl (lv_at hl 1 rfl) ?_
      refine ho_if_lt0 hx hb dX12_leastWith_32 (tgt := 43) (by decide) (by omega) ?_
      refine lv_aload_n hx hb dX12_leastWith_35 rfl (lv_at hl 3 rfl) ?_
      refine lv_iload hx hb dX12_leastWith_36 (lv_at hl 0 rfl) ?_
      refine ho_iald (v := nI v_27) hx hb hK hP 2 0 rfl rfl (by omega) (by first | decide | omega) (show oI (fe k) = _ by rw [hv_27]; rfl) dX12_leastWith_38 ?_
      refine lv_iload_n hx hb dX12_leastWith_39 rfl (lv_at hl 1 rfl) ?_
      refine ho_icmp_ge (tgt := 48) hx hb dX12_leastWith_40 (by decide) (by omega) (by omega) (fun c_40 => ?_) (fun c_40 => ?_)
      · refine ho_iinc (lv' := [(4, .int (nI (k + 1))), (3, .int (nI vq_31)), (0, .ref y), (1, .ref b9), (2, .int (nI i))]) (a := k) (b := 1) hx hb dX12_leastWith_48 hl (k := 0) rfl rfl (by decide) rfl (fun ls hl => ?_)
        refine lv_goto (tgt := 6) hx hb dX12_leastWith_51 (by decide) ?_
        have e9_3 : (nI vq_31 : Int32) = oI (lwO fe i (k + 1)) := by first | exact congrArg oI (lwO_f c_21) | exact congrArg oI (lwO_n c_21 hv_27) | exact congrArg oI (lwO_0 c_21 hv_27 hq_31) | exact congrArg oI (lwO_l c_21 hv_27 hq_31 c_40) | exact congrArg oI (lwO_g c_21 hv_27 hq_31 c_40)
        rw [e9_3] at hl
        exact ih6 (k + 1) _ (by omega) (show 2 ^ n - (k + 1) < fu6 from (by omega)) (lv_sub hl [0, 1, 2, 3, 4] rfl)
      refine lv_aload_n hx hb dX12_leastWith_43 rfl (lv_at hl 3 rfl) ?_
      refine lv_iload hx hb dX12_leastWith_44 (lv_at hl 0 rfl) ?_
      refine ho_iald (v := nI v_27) hx hb hK hP 2 0 rfl rfl (by omega) (by first | decide | omega) (show oI (fe k) = _ by rw [hv_27]; rfl) dX12_leastWith_46 ?_
      refine lv_istore_n (lv' := [(3, .int (nI v_27)), (4, .int (nI k)), (0, .ref y), (1, .ref b9), (2, .int (nI i))]) hx hb dX12_leastWith_47 rfl hl (by decide) rfl (fun ls hl => ?_)
      refine ho_iinc (lv' := [(4, .int (nI (k + 1))), (3, .int (nI v_27)), (0, .ref y), (1, .ref b9), (2, .int (nI i))]) (a := k) (b := 1) hx hb dX12_leastWith_48 hl (k := 1) rfl rfl (by decide) rfl (fun ls hl => ?_)
      refine lv_goto (tgt := 6) hx hb dX12_leastWith_51 (by decide) ?_
      have e9_3 : (nI v_27 : Int32) = oI (lwO fe i (k + 1)) := by first | exact congrArg oI (lwO_f c_21) | exact congrArg oI (lwO_n c_21 hv_27) | exact congrArg oI (lwO_0 c_21 hv_27 hq_31) | exact congrArg oI (lwO_l c_21 hv_27 hq_31 c_40) | exact congrArg oI (lwO_g c_21 hv_27 hq_31 c_40)
      rw [e9_3] at hl
      exact ih6 (k + 1) _ (by omega) (show 2 ^ n - (k + 1) < fu6 from (by omega)) (lv_sub hl [0, 1, 2, 3, 4] rfl)
set_option maxHeartbeats 4000000 in
set_option maxRecDepth 100000 in
theorem c_X12_soonest (l : Launch) (dC : Nat → ClassId) (dI : Nat → Nat → Nat) (cI cD cR : ClassId) (y as ai ar am ak ao az ae aq af : Nat) (hi : Bool) (th : Int32) (po ba en an aw ax ap : Nat) (se : Int32) (n d t day al : Nat) (nd : Nat → Nat) (bb oo : Nat → Int32) (K F kn : Nat → Nat) (fe : Nat → Option Nat) (ea : Nat → Option Nat) (x : Int32) (sz : Nat) (hn : n ≤ 9) (hd : d ≤ 7) (ht : t < 512) (hal : al < 128) (hday : day < 2 ^ 30) (gnd : ∀ i, nd i < 512) (gkn : ∀ j, kn j < 512) (gK : ∀ j, K j < 8) (gF : ∀ j, F j < 10) (ht2 : t < 2 ^ n) : Met l yX12_soonest wsX12_soonest ({ frames := 7, cells := 0, slots := 0, locals := 163 }) (pcR dC dI cI cD cR [.ref y, .int x] (fun H => H.size = sz ∧ va_P (dC, dI) vwCl ([(y, .inr (12, [.ref as, .ref ai, .ref ar, .ref am, .ref ak, .ref ao, .ref az, .ref ae, .ref aq, .ref af, .int (bI hi), .int th, .int (nI po), .int (nI ba), .int (nI en), .ref an, .ref aw, .ref ax, .ref ap, .int se]))] ++ [(as, .inl (cI, 53, .inl (sF n d t day al nd bb oo K F kn)))] ++ [(aw, .inl (cI, 512, .inl (oF fe)))] ++ [(ax, .inl (cI, 512, .inl (oF ea)))]) H ∧ va_D (fun _ => True) ([(y, .inr (12, [.ref as, .ref ai, .ref ar, .ref am, .ref ak, .ref ao, .ref az, .ref ae, .ref aq, .ref af, .int (bI hi), .int th, .int (nI po), .int (nI ba), .int (nI en), .ref an, .ref aw, .ref ax, .ref ap, .int se]))] ++ [(as, .inl (cI, 53, .inl (sF n d t day al nd bb oo K F kn)))] ++ [(aw, .inl (cI, 512, .inl (oF fe)))] ++ [(ax, .inl (cI, 512, .inl (oF ea)))]))) (va_Qi (fun r (_ : Unit) => r = (on1 (oN x n) (fun i => oI (lwO ((grK n d al t nd K F kn (2 ^ n - t)).1) i (2 ^ n))) (-1))) (fun (_ : Unit) T9 => va_P (dC, dI) vwCl ([(y, .inr (12, [.ref as, .ref ai, .ref ar, .ref am, .ref ak, .ref ao, .ref az, .ref ae, .ref aq, .ref af, .int (bI hi), .int th, .int (nI po), .int (nI ba), .int (nI en), .ref an, .ref aw, .ref ax, .ref ap, .int se]))] ++ [(as, .inl (cI, 53, .inl (sF n d t day al nd bb oo K F kn)))] ++ [(aw, .inl (cI, 512, .inl (oF (on1 (oN x n) (fun _ => (grK n d al t nd K F kn (2 ^ n - t)).1) fe))))] ++ [(ax, .inl (cI, 512, .inl (oF (on1 (oN x n) (fun _ => (grK n d al t nd K F kn (2 ^ n - t)).2) ea))))]) T9.heap ∧ va_D (va_A ([(y, .inr (12, [.ref as, .ref ai, .ref ar, .ref am, .ref ak, .ref ao, .ref az, .ref ae, .ref aq, .ref af, .int (bI hi), .int th, .int (nI po), .int (nI ba), .int (nI en), .ref an, .ref aw, .ref ax, .ref ap, .int se]))] ++ [(as, .inl (cI, 53, .inl (sF n d t day al nd bb oo K F kn)))] ++ [(aw, .inl (cI, 512, .inl (oF fe)))] ++ [(ax, .inl (cI, 512, .inl (oF ea)))]) sz) ([(y, .inr (12, [.ref as, .ref ai, .ref ar, .ref am, .ref ak, .ref ao, .ref az, .ref ae, .ref aq, .ref af, .int (bI hi), .int th, .int (nI po), .int (nI ba), .int (nI en), .ref an, .ref aw, .ref ax, .ref ap, .int se]))] ++ [(as, .inl (cI, 53, .inl (sF n d t day al nd bb oo K F kn)))] ++ [(aw, .inl (cI, 512, .inl (oF (on1 (oN x n) (fun _ => (grK n d al t nd K F kn (2 ^ n - t)).1) fe))))] ++ [(ax, .inl (cI, 512, .inl (oF (on1 (oN x n) (fun _ => (grK n d al t nd K F kn (2 ^ n - t)).2) ea))))])) (va_A ([(y, .inr (12, [.ref as, .ref ai, .ref ar, .ref am, .ref ak, .ref ao, .ref az, .ref ae, .ref aq, .ref af, .int (bI hi), .int th, .int (nI po), .int (nI ba), .int (nI en), .ref an, .ref aw, .ref ax, .ref ap, .int se]))] ++ [(as, .inl (cI, 53, .inl (sF n d t day al nd bb oo K F kn)))] ++ [(aw, .inl (cI, 512, .inl (oF fe)))] ++ [(ax, .inl (cI, 512, .inl (oF ea)))]) sz)) 0 0 (va_A ([(y, .inr (12, [.ref as, .ref ai, .ref ar, .ref am, .ref ak, .ref ao, .ref az, .ref ae, .ref aq, .ref af, .int (bI hi), .int th, .int (nI po), .int (nI ba), .int (nI en), .ref an, .ref aw, .ref ax, .ref ap, .int se]))] ++ [(as, .inl (cI, 53, .inl (sF n d t day al nd bb oo K F kn)))] ++ [(aw, .inl (cI, 512, .inl (oF fe)))] ++ [(ax, .inl (cI, 512, .inl (oF ea)))]) sz) := by
  refine Met.ofW (cc := cX12_soonest) (maxL := 2) (ret := (some .int)) (by decide) rfl ?_
  intro p e s m args below meth c s₁ B hml hv
  obtain ⟨rfl, hH0, hCX⟩ := hv
  have hx := B.exec
  have hb := B.bytes
  have hr := B.returns
  have hts := atoms_spec (ws := wsX12_soonest) B.pre
  have hown : s.vm.findClass RX12 = some m.cls := findClass_of_methodNamed B.named
  have hlocks := B.notSynchronized
  have hK := hCX.1
  obtain ⟨hsz, hP, hD0⟩ := hH0
  subst hsz
  have hD := hD0.self (sz := s.heap.size)
  generalize hAe : va_A ([(y, .inr (12, [.ref as, .ref ai, .ref ar, .ref am, .ref ak, .ref ao, .ref az, .ref ae, .ref aq, .ref af, .int (bI hi), .int th, .int (nI po), .int (nI ba), .int (nI en), .ref an, .ref aw, .ref ax, .ref ap, .int se]))] ++ [(as, .inl (cI, 53, .inl (sF n d t day al nd bb oo K F kn)))] ++ [(aw, .inl (cI, 512, .inl (oF fe)))] ++ [(ax, .inl (cI, 512, .inl (oF ea)))]) s.heap.size = A at hD ⊢
  have hA : ∀ q : Nat, s.heap.size ≤ q → A q := fun q h => by rw [← hAe]; exact Or.inr h
  have hS : va_S A s.heap s.heap [] := va_S.rf
  have hP : va_P (dC, dI) vwCl ([(y, .inr (12, [.ref as, .ref ai, .ref ar, .ref am, .ref ak, .ref ao, .ref az, .ref ae, .ref aq, .ref af, .int (bI hi), .int th, .int (nI po), .int (nI ba), .int (nI en), .ref an, .ref aw, .ref ax, .ref ap, .int se]))] ++ [(as, .inl (cI, 53, .inl (sF n d t day al nd bb oo K F kn)))] ++ [(aw, .inl (cI, 512, .inl (oF fe)))] ++ [(ax, .inl (cI, 512, .inl (oF ea)))]) s.heap := hP
  have hl := lv_entry ([.ref y, .int x]) (n := 2) (Nat.le_of_ble_eq_true rfl)
  rw [lg_entry_eq]
  generalize (lg_sl ([.ref y, .int x]) ++ List.replicate (2 - (lg_sl ([.ref y, .int x])).length) Slot.unset).toArray = ls at hl ⊢
  have hl : lv_has ls 2 [(0, .ref y), (1, .int x)] := hl
  rcases okI_or x (n := n) (by omega) with hb_x | ⟨i, h_i, rfl⟩
  · refine lv_aload_n hx hb dX12_soonest_0 rfl (lv_at hl 0 rfl) ?_
    refine lv_iload_n hx hb dX12_soonest_1 rfl (lv_at hl 1 rfl) ?_
    refine vp_callSi ((va_runV (As := [.int x]) (rest := []) ⟨hx, hb, hml, hown, hts⟩ (c_X12_isSentence_f l dC dI cI cD cR y as ai ar am ak ao az ae aq af hi th po ba en an aw ax ap se n d t day al nd bb oo K F kn x (by first | omega | assumption | exact gnd _ | exact gkn _ | exact Nat.lt_trans (gkn _) (by decide) | exact Nat.lt_trans (gnd _) (by decide) | exact Nat.lt_of_le_of_lt (pcN_le _) (by decide)) (by first | omega | assumption | exact gnd _ | exact gkn _ | exact Nat.lt_trans (gkn _) (by decide) | exact Nat.lt_trans (gnd _) (by decide) | exact Nat.lt_of_le_of_lt (pcN_le _) (by decide)) (by first | omega | assumption | exact gnd _ | exact gkn _ | exact Nat.lt_trans (gkn _) (by decide) | exact Nat.lt_trans (gnd _) (by decide) | exact Nat.lt_of_le_of_lt (pcN_le _) (by decide)) (by first | omega | assumption | exact gnd _ | exact gkn _ | exact Nat.lt_trans (gkn _) (by decide) | exact Nat.lt_trans (gnd _) (by decide) | exact Nat.lt_of_le_of_lt (pcN_le _) (by decide)) (by first | omega | assumption | exact gnd _ | exact gkn _ | exact Nat.lt_trans (gkn _) (by decide) | exact Nat.lt_trans (gnd _) (by decide) | exact Nat.lt_of_le_of_lt (pcN_le _) (by decide)) gnd gkn gK gF (by first | omega | assumption | exact gnd _ | exact gkn _ | exact Nat.lt_trans (gkn _) (by decide) | exact Nat.lt_trans (gnd _) (by decide) | exact Nat.lt_of_le_of_lt (pcN_le _) (by decide))) (cwV 1 hts gX12_soonest_X12_isSentence rfl rfl rfl (by decide +kernel) ⟨Nat.le_of_ble_eq_true rfl, Nat.le_of_ble_eq_true rfl⟩) (preV_R hCX (va_recv hK hP (ci := 12) (q0 := 0) rfl rfl) ((hP.sub (ws' := [(y, .inr (12, [.ref as, .ref ai, .ref ar, .ref am, .ref ak, .ref ao, .ref az, .ref ae, .ref aq, .ref af, .int (bI hi), .int th, .int (nI po), .int (nI ba), .int (nI en), .ref an, .ref aw, .ref ax, .ref ap, .int se]))] ++ [(as, .inl (cI, 53, .inl (sF n d t day al nd bb oo K F kn)))]) [0, 1] rfl))) rfl rfl hl.1 rfl (lv_room (Nat.le_of_ble_eq_true rfl)) dX12_soonest_2 ⟨Nat.le_of_ble_eq_true (by first | rfl | decide), Nat.le_of_ble_eq_true (by first | rfl | decide)⟩).run) (fun r_2 hr_2 => ?_)
    subst hr_2
    refine lv_if_ne (tgt := 10) hx hb dX12_soonest_5 (by decide) (fun z => absurd z (by decide +kernel)) (fun _ => ?_)
    refine lv_iconst (v := (-1)) hx hb dX12_soonest_8 (by decide +kernel) ?_
    have hW9 : ([(y, .inr (12, [.ref as, .ref ai, .ref ar, .ref am, .ref ak, .ref ao, .ref az, .ref ae, .ref aq, .ref af, .int (bI hi), .int th, .int (nI po), .int (nI ba), .int (nI en), .ref an, .ref aw, .ref ax, .ref ap, .int se]))] ++ [(as, .inl (cI, 53, .inl (sF n d t day al nd bb oo K F kn)))] ++ [(aw, .inl (cI, 512, .inl (oF fe)))] ++ [(ax, .inl (cI, 512, .inl (oF ea)))] : va_W) = [(y, .inr (12, [.ref as, .ref ai, .ref ar, .ref am, .ref ak, .ref ao, .ref az, .ref ae, .ref aq, .ref af, .int (bI hi), .int th, .int (nI po), .int (nI ba), .int (nI en), .ref an, .ref aw, .ref ax, .ref ap, .int se]))] ++ [(as, .inl (cI, 53, .inl (sF n d t day al nd bb oo K F kn)))] ++ [(aw, .inl (cI, 512, .inl (oF (on1 (oN x n) (fun _ => (grK n d al t nd K F kn (2 ^ n - t)).1) fe))))] ++ [(ax, .inl (cI, 512, .inl (oF (on1 (oN x n) (fun _ => (grK n d al t nd K F kn (2 ^ n - t)).2) ea))))] := by simp only [on2_n, on2_sn, on2_ss, on1_n, on1_s, cond_true, cond_false, Bool.true_and, Bool.and_true, Bool.false_and, Bool.and_false, oN_f hb_x]
    rw [hW9] at hP hD
    exact W.iret (v := (-1)) hx hb hr (fun T9 hT9 hW9 => ⟨⟨_, (), rfl, (by (simp [on1, oN_f hb_x]) <;> first | rfl | omega), by rw [hT9]; exact hP, hD⟩, hS.F hT9⟩) hS.2.2 dX12_soonest_9
  refine lv_aload_n hx hb dX12_soonest_0 rfl (lv_at hl 0 rfl) ?_
  refine lv_iload_n hx hb dX12_soonest_1 rfl (lv_at hl 1 rfl) ?_
  refine vp_callSi ((va_runV (As := [.int (nI i)]) (rest := []) ⟨hx, hb, hml, hown, hts⟩ (c_X12_isSentence_t l dC dI cI cD cR y as ai ar am ak ao az ae aq af hi th po ba en an aw ax ap se n d t day al nd bb oo K F kn i (by first | omega | assumption | exact gnd _ | exact gkn _ | exact Nat.lt_trans (gkn _) (by decide) | exact Nat.lt_trans (gnd _) (by decide) | exact Nat.lt_of_le_of_lt (pcN_le _) (by decide)) (by first | omega | assumption | exact gnd _ | exact gkn _ | exact Nat.lt_trans (gkn _) (by decide) | exact Nat.lt_trans (gnd _) (by decide) | exact Nat.lt_of_le_of_lt (pcN_le _) (by decide)) (by first | omega | assumption | exact gnd _ | exact gkn _ | exact Nat.lt_trans (gkn _) (by decide) | exact Nat.lt_trans (gnd _) (by decide) | exact Nat.lt_of_le_of_lt (pcN_le _) (by decide)) (by first | omega | assumption | exact gnd _ | exact gkn _ | exact Nat.lt_trans (gkn _) (by decide) | exact Nat.lt_trans (gnd _) (by decide) | exact Nat.lt_of_le_of_lt (pcN_le _) (by decide)) (by first | omega | assumption | exact gnd _ | exact gkn _ | exact Nat.lt_trans (gkn _) (by decide) | exact Nat.lt_trans (gnd _) (by decide) | exact Nat.lt_of_le_of_lt (pcN_le _) (by decide)) gnd gkn gK gF (by first | omega | assumption | exact gnd _ | exact gkn _ | exact Nat.lt_trans (gkn _) (by decide) | exact Nat.lt_trans (gnd _) (by decide) | exact Nat.lt_of_le_of_lt (pcN_le _) (by decide))) (cwV 1 hts gX12_soonest_X12_isSentence rfl rfl rfl (by decide +kernel) ⟨Nat.le_of_ble_eq_true rfl, Nat.le_of_ble_eq_true rfl⟩) (preV_R hCX (va_recv hK hP (ci := 12) (q0 := 0) rfl rfl) ((hP.sub (ws' := [(y, .inr (12, [.ref as, .ref ai, .ref ar, .ref am, .ref ak, .ref ao, .ref az, .ref ae, .ref aq, .ref af, .int (bI hi), .int th, .int (nI po), .int (nI ba), .int (nI en), .ref an, .ref aw, .ref ax, .ref ap, .int se]))] ++ [(as, .inl (cI, 53, .inl (sF n d t day al nd bb oo K F kn)))]) [0, 1] rfl))) rfl rfl hl.1 rfl (lv_room (Nat.le_of_ble_eq_true rfl)) dX12_soonest_2 ⟨Nat.le_of_ble_eq_true (by first | rfl | decide), Nat.le_of_ble_eq_true (by first | rfl | decide)⟩).run) (fun r_2 hr_2 => ?_)
  subst hr_2
  refine lv_if_ne (tgt := 10) hx hb dX12_soonest_5 (by decide) (fun _ => ?_) (fun z => absurd z (by decide +kernel))
  refine lv_aload_n hx hb dX12_soonest_10 rfl (lv_at hl 0 rfl) ?_
  refine lv_aload_n hx hb dX12_soonest_11 rfl (lv_at hl 0 rfl) ?_
  refine va_get (D := (dC, dI)) (ci := 12) (v := .ref as) (C := RX12) (T := TX12) (N := 20) hx hb hts (fun _ h => List.mem_cons_of_mem _ (List.mem_append_right _ h)) hown hK hP 0 rfl rfl 0 (by decide) (hts (.fieldLink RX12 9 "HoldsOnceDeniedModel" "s" "[I") (by decide +kernel)) (fun _ h9 => h9) rfl dX12_soonest_12 ?_
  refine lv_iconst (v := nI 2) hx hb dX12_soonest_15 (by decide +kernel) ?_
  refine ho_iald (v := nI t) hx hb hK hP 1 0 rfl rfl (by omega) (by first | decide | omega) rfl dX12_soonest_16 ?_
  have hPc := hP
  have hDc := hD
  have hFc := va_free (wc := [(y, .inr (12, [.ref as, .ref ai, .ref ar, .ref am, .ref ak, .ref ao, .ref az, .ref ae, .ref aq, .ref af, .int (bI hi), .int th, .int (nI po), .int (nI ba), .int (nI en), .ref an, .ref aw, .ref ax, .ref ap, .int se]))] ++ [(as, .inl (cI, 53, .inl (sF n d t day al nd bb oo K F kn)))] ++ [(aw, .inl (cI, 512, .inl (oF fe)))] ++ [(ax, .inl (cI, 512, .inl (oF ea)))]) hD hS hA [0, 1, 2, 3] rfl
  refine va_callv (va_runV (As := [.int (nI t)]) (rest := []) ⟨hx, hb, hml, hown, hts⟩ (c_X12_growsFrom l dC dI cI cD cR y as ai ar am ak ao az ae aq af hi th po ba en an aw ax ap se n d t day al nd bb oo K F kn fe ea t s.heap.size (by first | omega | assumption | exact gnd _ | exact gkn _ | exact Nat.lt_trans (gkn _) (by decide) | exact Nat.lt_trans (gnd _) (by decide) | exact Nat.lt_of_le_of_lt (pcN_le _) (by decide)) (by first | omega | assumption | exact gnd _ | exact gkn _ | exact Nat.lt_trans (gkn _) (by decide) | exact Nat.lt_trans (gnd _) (by decide) | exact Nat.lt_of_le_of_lt (pcN_le _) (by decide)) (by first | omega | assumption | exact gnd _ | exact gkn _ | exact Nat.lt_trans (gkn _) (by decide) | exact Nat.lt_trans (gnd _) (by decide) | exact Nat.lt_of_le_of_lt (pcN_le _) (by decide)) (by first | omega | assumption | exact gnd _ | exact gkn _ | exact Nat.lt_trans (gkn _) (by decide) | exact Nat.lt_trans (gnd _) (by decide) | exact Nat.lt_of_le_of_lt (pcN_le _) (by decide)) (by first | omega | assumption | exact gnd _ | exact gkn _ | exact Nat.lt_trans (gkn _) (by decide) | exact Nat.lt_trans (gnd _) (by decide) | exact Nat.lt_of_le_of_lt (pcN_le _) (by decide)) gnd gkn gK gF (by first | omega | assumption | exact gnd _ | exact gkn _ | exact Nat.lt_trans (gkn _) (by decide) | exact Nat.lt_trans (gnd _) (by decide) | exact Nat.lt_of_le_of_lt (pcN_le _) (by decide))) (cwV 1 hts gX12_soonest_X12_growsFrom rfl rfl rfl (by decide +kernel) ⟨Nat.le_of_ble_eq_true rfl, Nat.le_of_ble_eq_true rfl⟩) (preV_R hCX (va_recv hK hP (ci := 12) (q0 := 0) rfl rfl) ⟨rfl, hPc, hDc.weaken (fun _ _ _ _ => trivial)⟩) rfl rfl hl.1 rfl (lv_room (Nat.le_of_ble_eq_true rfl)) dX12_soonest_17 ⟨Nat.le_of_ble_eq_true (by first | rfl | decide), Nat.le_of_ble_eq_true (by first | rfl | decide)⟩) hS (fun q _ h => hFc q h) hFc (fun u T8 H1 locs hT8 hvm hw hB hz1 hk1 hS => ?_)
  obtain ⟨hP1, hD1⟩ := hB
  rw [hT8] at hP1
  obtain ⟨hP, hD⟩ := va_join (wr := []) (w1 := [(y, .inr (12, [.ref as, .ref ai, .ref ar, .ref am, .ref ak, .ref ao, .ref az, .ref ae, .ref aq, .ref af, .int (bI hi), .int th, .int (nI po), .int (nI ba), .int (nI en), .ref an, .ref aw, .ref ax, .ref ap, .int se]))] ++ [(as, .inl (cI, 53, .inl (sF n d t day al nd bb oo K F kn)))] ++ [(aw, .inl (cI, 512, .inl (oF ((grK n d al t nd K F kn (2 ^ n - t)).1))))] ++ [(ax, .inl (cI, 512, .inl (oF ((grK n d al t nd K F kn (2 ^ n - t)).2))))]) hP hD [0, 1, 2, 3] [] rfl rfl (by decide) (by decide) hk1 hFc hP1 hD1
  generalize H1 = H at hP hS ⊢
  have hP : va_P (dC, dI) vwCl ([(y, .inr (12, [.ref as, .ref ai, .ref ar, .ref am, .ref ak, .ref ao, .ref az, .ref ae, .ref aq, .ref af, .int (bI hi), .int th, .int (nI po), .int (nI ba), .int (nI en), .ref an, .ref aw, .ref ax, .ref ap, .int se]))] ++ [(as, .inl (cI, 53, .inl (sF n d t day al nd bb oo K F kn)))] ++ [(aw, .inl (cI, 512, .inl (oF ((grK n d al t nd K F kn (2 ^ n - t)).1))))] ++ [(ax, .inl (cI, 512, .inl (oF ((grK n d al t nd K F kn (2 ^ n - t)).2))))]) H := hP
  have hD : va_D A ([(y, .inr (12, [.ref as, .ref ai, .ref ar, .ref am, .ref ak, .ref ao, .ref az, .ref ae, .ref aq, .ref af, .int (bI hi), .int th, .int (nI po), .int (nI ba), .int (nI en), .ref an, .ref aw, .ref ax, .ref ap, .int se]))] ++ [(as, .inl (cI, 53, .inl (sF n d t day al nd bb oo K F kn)))] ++ [(aw, .inl (cI, 512, .inl (oF ((grK n d al t nd K F kn (2 ^ n - t)).1))))] ++ [(ax, .inl (cI, 512, .inl (oF ((grK n d al t nd K F kn (2 ^ n - t)).2))))]) := hD
  refine lv_aload_n hx hb dX12_soonest_20 rfl (lv_at hl 0 rfl) ?_
  refine lv_aload_n hx hb dX12_soonest_21 rfl (lv_at hl 0 rfl) ?_
  refine va_get (D := (dC, dI)) (ci := 12) (v := .ref aw) (C := RX12) (T := TX12) (N := 20) hx hb hts (fun _ h => List.mem_cons_of_mem _ (List.mem_append_right _ h)) hown hK hP 0 rfl rfl 16 (by decide) (hts (.fieldLink RX12 43 "HoldsOnceDeniedModel" "fewest" "[I") (by decide +kernel)) (fun _ h9 => h9) rfl dX12_soonest_22 ?_
  refine lv_iload_n hx hb dX12_soonest_25 rfl (lv_at hl 1 rfl) ?_
  refine vp_callSi ((va_runV (As := [.ref aw, .int (nI i)]) (rest := []) ⟨hx, hb, hml, hown, hts⟩ (c_X12_leastWith l dC dI cI cD cR y as ai ar am ak ao az ae aq af hi th po ba en an aw ax ap se n d t day al nd bb oo K F kn aw ((grK n d al t nd K F kn (2 ^ n - t)).1) i (by first | omega | assumption | exact gnd _ | exact gkn _ | exact Nat.lt_trans (gkn _) (by decide) | exact Nat.lt_trans (gnd _) (by decide) | exact Nat.lt_of_le_of_lt (pcN_le _) (by decide)) (by first | omega | assumption | exact gnd _ | exact gkn _ | exact Nat.lt_trans (gkn _) (by decide) | exact Nat.lt_trans (gnd _) (by decide) | exact Nat.lt_of_le_of_lt (pcN_le _) (by decide)) (by first | omega | assumption | exact gnd _ | exact gkn _ | exact Nat.lt_trans (gkn _) (by decide) | exact Nat.lt_trans (gnd _) (by decide) | exact Nat.lt_of_le_of_lt (pcN_le _) (by decide)) (by first | omega | assumption | exact gnd _ | exact gkn _ | exact Nat.lt_trans (gkn _) (by decide) | exact Nat.lt_trans (gnd _) (by decide) | exact Nat.lt_of_le_of_lt (pcN_le _) (by decide)) (by first | omega | assumption | exact gnd _ | exact gkn _ | exact Nat.lt_trans (gkn _) (by decide) | exact Nat.lt_trans (gnd _) (by decide) | exact Nat.lt_of_le_of_lt (pcN_le _) (by decide)) gnd gkn gK gF (by first | omega | assumption | exact gnd _ | exact gkn _ | exact Nat.lt_trans (gkn _) (by decide) | exact Nat.lt_trans (gnd _) (by decide) | exact Nat.lt_of_le_of_lt (pcN_le _) (by decide)) (fun k9 v9 h9 hk9 => by have := (grK_ok (n := n) (d := d) (al := al) (a := t) (nd := nd) (K := K) (kn := kn) gF (2 ^ n - t)).1 k9 v9 h9; omega)) (cwV 2 hts gX12_soonest_X12_leastWith rfl rfl rfl (by decide +kernel) ⟨Nat.le_of_ble_eq_true rfl, Nat.le_of_ble_eq_true rfl⟩) (preV_R hCX (va_recv hK hP (ci := 12) (q0 := 0) rfl rfl) ((hP.sub (ws' := [(y, .inr (12, [.ref as, .ref ai, .ref ar, .ref am, .ref ak, .ref ao, .ref az, .ref ae, .ref aq, .ref af, .int (bI hi), .int th, .int (nI po), .int (nI ba), .int (nI en), .ref an, .ref aw, .ref ax, .ref ap, .int se]))] ++ [(as, .inl (cI, 53, .inl (sF n d t day al nd bb oo K F kn)))] ++ [(aw, .inl (cI, 512, .inl (oF ((grK n d al t nd K F kn (2 ^ n - t)).1))))]) [0, 1, 2] rfl))) rfl rfl hl.1 rfl (lv_room (Nat.le_of_ble_eq_true rfl)) dX12_soonest_26 ⟨Nat.le_of_ble_eq_true (by first | rfl | decide), Nat.le_of_ble_eq_true (by first | rfl | decide)⟩).run) (fun r_26 hr_26 => ?_)
  subst hr_26
  have hW9 : ([(y, .inr (12, [.ref as, .ref ai, .ref ar, .ref am, .ref ak, .ref ao, .ref az, .ref ae, .ref aq, .ref af, .int (bI hi), .int th, .int (nI po), .int (nI ba), .int (nI en), .ref an, .ref aw, .ref ax, .ref ap, .int se]))] ++ [(as, .inl (cI, 53, .inl (sF n d t day al nd bb oo K F kn)))] ++ [(aw, .inl (cI, 512, .inl (oF ((grK n d al t nd K F kn (2 ^ n - t)).1))))] ++ [(ax, .inl (cI, 512, .inl (oF ((grK n d al t nd K F kn (2 ^ n - t)).2))))] : va_W) = [(y, .inr (12, [.ref as, .ref ai, .ref ar, .ref am, .ref ak, .ref ao, .ref az, .ref ae, .ref aq, .ref af, .int (bI hi), .int th, .int (nI po), .int (nI ba), .int (nI en), .ref an, .ref aw, .ref ax, .ref ap, .int se]))] ++ [(as, .inl (cI, 53, .inl (sF n d t day al nd bb oo K F kn)))] ++ [(aw, .inl (cI, 512, .inl (oF (on1 (oN (nI i) n) (fun _ => (grK n d al t nd K F kn (2 ^ n - t)).1) fe))))] ++ [(ax, .inl (cI, 512, .inl (oF (on1 (oN (nI i) n) (fun _ => (grK n d al t nd K F kn (2 ^ n - t)).2) ea))))] := by simp only [on2_n, on2_sn, on2_ss, on1_n, on1_s, cond_true, cond_false, Bool.true_and, Bool.and_true, Bool.false_and, Bool.and_false, oN_t h_i]
  rw [hW9] at hP hD
  exact W.iret (v := oI (lwO ((grK n d al t nd K F kn (2 ^ n - t)).1) i (2 ^ n))) hx hb hr (fun T9 hT9 hW9 => ⟨⟨_, (), rfl, (by (simp [on1, oN_t h_i]) <;> first | rfl | omega), by rw [hT9]; exact hP, hD⟩, hS.F hT9⟩) hS.2.2 dX12_soonest_29
