theorem fb_le {g : Nat → Int32} {z : Nat} : ∀ m p v, p ≤ z → fbE g z m p = some v → v ≤ z + 3
  | 0, _, _, _, h => by cases h
  | m + 1, p, v, hp, h => by
    cases hs : stOk g p
    · rw [fbE_b hs] at h
      cases h
      unfold stBad
      have h1 := dgC_le g (p + 1) (stK g p)
      have h2 := stK_le g p
      cases (dbO (g p)).isSome
      · rw [cond_false]; omega
      · rw [cond_true]; omega
    · by_cases h2 : p + stK g p + 2 < z
      · rw [fbE_s hs h2] at h
        exact fb_le m _ v (by omega) h
      · rw [fbE_e hs h2] at h; cases h
set_option maxHeartbeats 4000000 in
set_option maxRecDepth 100000 in
theorem c_X11_school_f (l : Launch) (dC : Nat → ClassId) (dI : Nat → Nat → Nat) (cI cD cR : ClassId) (x sN sM sP : Nat) (pt : Bool) (fo da ra : Nat) (dm : Nat → Option Nat) (rm : Nat → Option Nat) (x9 : Int32) (RL : List Nat) (rc rs rz : Nat → Nat) (rf : Nat → Nat → Int32) (grm : ∀ y r, rm y = some r → r ∈ RL) (hno : ∀ y r, x9 = nI y → y < 8 → rm y = some r → rs r = 0 → ¬ fbE (atR (rz r) (rf r)) (rz r) 101 0 = none) : Met l yX11_school wsX11_school ({ frames := 3, cells := 0, slots := 0, locals := 63 }) (pcR dC dI cI cD cR [.ref x, .int x9] (fun H => va_P (dC, dI) vwCl ([(x, .inr (11, [.ref sN, .ref sM, .ref sP, .int (bI pt), .ref fo, .ref da, .ref ra]))] ++ [(da, .inl (cD, 8, .inr (.inr (.inr (.inr dm)))))] ++ [(ra, .inl (cR, 8, .inr (.inr (.inr (.inr rm)))))]) H ∧ RP dC dI cI RL rc rs rz rf H)) (vp_Si (fun r => r = (on1 (oN x9 8) (fun y => match rm y with | none => (bif (rm y).isNone && (dm y).isNone then -11 else -12) | some r => bif decide (rs r = 0) then (match fbE (atR (rz r) (rf r)) (rz r) 101 0 with | none => 0 | some p => -1000 - nI p) else -12) (-1)))) 0 0 (fun _ => False) := by
  refine Met.ofW (cc := cX11_school) (maxL := 6) (ret := (some .int)) (by decide) rfl ?_
  intro p e s m args below meth c s₁ B hml hv
  obtain ⟨rfl, hH0, hCX⟩ := hv
  have hx := B.exec
  have hb := B.bytes
  have hr := B.returns
  have hts := atoms_spec (ws := wsX11_school) B.pre
  have hown : s.vm.findClass RX11 = some m.cls := findClass_of_methodNamed B.named
  have hlocks := B.notSynchronized
  have hK := hCX.1
  obtain ⟨hP, hRP⟩ := hH0
  have hl := lv_entry ([.ref x, .int x9]) (n := 6) (Nat.le_of_ble_eq_true rfl)
  rw [lg_entry_eq]
  generalize (lg_sl ([.ref x, .int x9]) ++ List.replicate (6 - (lg_sl ([.ref x, .int x9])).length) Slot.unset).toArray = ls at hl ⊢
  have hl : lv_has ls 6 [(0, .ref x), (1, .int x9)] := hl
  rcases okI_or x9 (n := 8) (by omega) with hb_x9 | ⟨y, h_y, rfl⟩
  · refine lv_aload_n hx hb dX11_school_0 rfl (lv_at hl 0 rfl) ?_
    refine lv_iload_n hx hb dX11_school_1 rfl (lv_at hl 1 rfl) ?_
    refine va_csq ((va_runV (As := [.int x9]) (rest := []) ⟨hx, hb, hml, hown, hts⟩ (c_X11_rowAt_f l dC dI cI cD cR x sN sM sP pt fo da ra rm x9 (by first | omega | assumption | exact gnd _ | exact gkn _ | exact Nat.lt_trans (gkn _) (by decide) | exact Nat.lt_trans (gnd _) (by decide) | exact Nat.lt_of_le_of_lt (pcN_le _) (by decide))) (cwV 1 hts gX11_school_X11_rowAt rfl rfl rfl (by decide +kernel) ⟨Nat.le_of_ble_eq_true rfl, Nat.le_of_ble_eq_true rfl⟩) (preV_R hCX (va_recv hK hP (ci := 11) (q0 := 0) rfl rfl) ((hP.sub (ws' := [(x, .inr (11, [.ref sN, .ref sM, .ref sP, .int (bI pt), .ref fo, .ref da, .ref ra]))] ++ [(ra, .inl (cR, 8, .inr (.inr (.inr (.inr rm)))))]) [0, 2] rfl))) rfl rfl hl.1 rfl (lv_room (Nat.le_of_ble_eq_true rfl)) dX11_school_2 ⟨Nat.le_of_ble_eq_true (by first | rfl | decide), Nat.le_of_ble_eq_true (by first | rfl | decide)⟩).run) (fun r_2 hr_2 => ?_)
    subst hr_2
    refine ho_topr (y := .null) rfl ?_
    refine lv_astore_nN (lv' := [(2, .null), (0, .ref x), (1, .int x9)]) hx hb dX11_school_5 rfl hl (by decide) rfl (fun ls hl => ?_)
    refine lv_aload_nN hx hb dX11_school_6 rfl (lv_at hl 0 rfl) ?_
    refine lv_ifnonnullN hx hb dX11_school_7 ?_
    refine lv_aload_n hx hb dX11_school_10 rfl (lv_at hl 1 rfl) ?_
    refine lv_iload_n hx hb dX11_school_11 rfl (lv_at hl 2 rfl) ?_
    refine vp_callSi ((va_runV (As := [.int x9]) (rest := []) ⟨hx, hb, hml, hown, hts⟩ (c_X11_whyMissing l dC dI cI cD cR x sN sM sP pt fo da ra dm rm x9) (cwV 1 hts gX11_school_X11_whyMissing rfl rfl rfl (by decide +kernel) ⟨Nat.le_of_ble_eq_true rfl, Nat.le_of_ble_eq_true rfl⟩) (preV_R hCX (va_recv hK hP (ci := 11) (q0 := 0) rfl rfl) (hP)) rfl rfl hl.1 rfl (lv_room (Nat.le_of_ble_eq_true rfl)) dX11_school_12 ⟨Nat.le_of_ble_eq_true (by first | rfl | decide), Nat.le_of_ble_eq_true (by first | rfl | decide)⟩).run) (fun r_12 hr_12 => ?_)
    subst hr_12
    exact W.iret (v := (whyR dm rm x9)) hx hb hr (fun T9 hT9 hW9 => ⟨_, rfl, (by (simp [on1, whyR, oN_f hb_x9]) <;> first | rfl | omega), hT9⟩) (fun q h => by cases h) dX11_school_15
  refine lv_aload_n hx hb dX11_school_0 rfl (lv_at hl 0 rfl) ?_
  refine lv_iload_n hx hb dX11_school_1 rfl (lv_at hl 1 rfl) ?_
  refine va_csq ((va_runV (As := [.int (nI y)]) (rest := []) ⟨hx, hb, hml, hown, hts⟩ (c_X11_rowAt_t l dC dI cI cD cR x sN sM sP pt fo da ra rm y (by first | omega | assumption | exact gnd _ | exact gkn _ | exact Nat.lt_trans (gkn _) (by decide) | exact Nat.lt_trans (gnd _) (by decide) | exact Nat.lt_of_le_of_lt (pcN_le _) (by decide))) (cwV 1 hts gX11_school_X11_rowAt rfl rfl rfl (by decide +kernel) ⟨Nat.le_of_ble_eq_true rfl, Nat.le_of_ble_eq_true rfl⟩) (preV_R hCX (va_recv hK hP (ci := 11) (q0 := 0) rfl rfl) ((hP.sub (ws' := [(x, .inr (11, [.ref sN, .ref sM, .ref sP, .int (bI pt), .ref fo, .ref da, .ref ra]))] ++ [(ra, .inl (cR, 8, .inr (.inr (.inr (.inr rm)))))]) [0, 2] rfl))) rfl rfl hl.1 rfl (lv_room (Nat.le_of_ble_eq_true rfl)) dX11_school_2 ⟨Nat.le_of_ble_eq_true (by first | rfl | decide), Nat.le_of_ble_eq_true (by first | rfl | decide)⟩).run) (fun r_2 hr_2 => ?_)
  subst hr_2
  cases hv_2 : rm y with
  | none =>
    refine ho_topr (y := .null) rfl ?_
    refine lv_astore_nN (lv' := [(2, .null), (0, .ref x), (1, .int (nI y))]) hx hb dX11_school_5 rfl hl (by decide) rfl (fun ls hl => ?_)
    refine lv_aload_nN hx hb dX11_school_6 rfl (lv_at hl 0 rfl) ?_
    refine lv_ifnonnullN hx hb dX11_school_7 ?_
    refine lv_aload_n hx hb dX11_school_10 rfl (lv_at hl 1 rfl) ?_
    refine lv_iload_n hx hb dX11_school_11 rfl (lv_at hl 2 rfl) ?_
    refine vp_callSi ((va_runV (As := [.int (nI y)]) (rest := []) ⟨hx, hb, hml, hown, hts⟩ (c_X11_whyMissing_n l dC dI cI cD cR x sN sM sP pt fo da ra dm rm y (by first | omega | assumption | exact gnd _ | exact gkn _ | exact Nat.lt_trans (gkn _) (by decide) | exact Nat.lt_trans (gnd _) (by decide) | exact Nat.lt_of_le_of_lt (pcN_le _) (by decide))) (cwV 1 hts gX11_school_X11_whyMissing rfl rfl rfl (by decide +kernel) ⟨Nat.le_of_ble_eq_true rfl, Nat.le_of_ble_eq_true rfl⟩) (preV_R hCX (va_recv hK hP (ci := 11) (q0 := 0) rfl rfl) (hP)) rfl rfl hl.1 rfl (lv_room (Nat.le_of_ble_eq_true rfl)) dX11_school_12 ⟨Nat.le_of_ble_eq_true (by first | rfl | decide), Nat.le_of_ble_eq_true (by first | rfl | decide)⟩).run) (fun r_12 hr_12 => ?_)
    subst hr_12
    exact W.iret (v := (bif (rm y).isNone && (dm y).isNone then -11 else -12)) hx hb hr (fun T9 hT9 hW9 => ⟨_, rfl, (by (simp [on1, whyR, hv_2, oN_t h_y]) <;> first | rfl | omega), hT9⟩) (fun q h => by cases h) dX11_school_15
  | some a_2 =>
    refine ho_topr (y := .ref a_2) rfl ?_
    have hra_2 : a_2 ∈ RL := grm _ _ hv_2
    have hso_2 : rs a_2 < 3 := (hRP _ hra_2).2.1
    have hzz_2 : rz a_2 ≤ 100 := (hRP _ hra_2).2.2
    refine lv_astore_n (lv' := [(2, .ref a_2), (0, .ref x), (1, .int (nI y))]) hx hb dX11_school_5 rfl hl (by decide) rfl (fun ls hl => ?_)
    refine lv_aload_n hx hb dX11_school_6 rfl (lv_at hl 0 rfl) ?_
    refine lv_ifnonnull (tgt := 16) hx hb dX11_school_7 (by decide) ?_
    refine lv_aload_n hx hb dX11_school_16 rfl (lv_at hl 0 rfl) ?_
    refine lv_iconst (v := nI 0) hx hb dX11_school_17 (by decide +kernel) ?_
    refine vp_callSi ((va_runV (As := [.int (nI 0)]) (rest := []) ⟨hx, hb, hml, hown, hts⟩ (c_X8_isOf l dC dI cI cD cR a_2 (rc a_2) (rs a_2) (rz a_2) (rf a_2) 0 (by first | omega | assumption) (by first | omega | assumption) (by first | omega | assumption)) (cwV 1 hts gX11_school_X8_isOf rfl rfl rfl (by decide +kernel) ⟨Nat.le_of_ble_eq_true rfl, Nat.le_of_ble_eq_true rfl⟩) (preV_R hCX (va_recv hK ((hRP _ hra_2).1) (ci := 8) (q0 := 0) rfl rfl) ((hRP _ hra_2).1)) rfl rfl hl.1 rfl (lv_room (Nat.le_of_ble_eq_true rfl)) dX11_school_18 ⟨Nat.le_of_ble_eq_true (by first | rfl | decide), Nat.le_of_ble_eq_true (by first | rfl | decide)⟩).run) (fun r_18 hr_18 => ?_)
    subst hr_18
    refine ho_bne (tgt := 27) hx hb dX11_school_21 (by decide) (fun c_21 => ?_) (fun c_21 => ?_)
    · refine lv_aload_n hx hb dX11_school_27 rfl (lv_at hl 0 rfl) ?_
      refine vp_callSi ((va_runS (As := [.ref a_2]) (rest := []) ⟨hx, hb, hml, hown, hts⟩ (c_X11_firstBadByte l dC dI cI cD cR a_2 (rc a_2) (rs a_2) (rz a_2) (rf a_2) (by first | omega | assumption) (by first | omega | assumption)) (va_cwS 1 hts gX11_school_X11_firstBadByte rfl rfl rfl (by decide +kernel) ⟨Nat.le_of_ble_eq_true rfl, Nat.le_of_ble_eq_true rfl⟩) (preS_R hCX ((hRP _ hra_2).1)) rfl rfl hl.1 rfl (lv_room (Nat.le_of_ble_eq_true rfl)) dX11_school_28 ⟨Nat.le_of_ble_eq_true (by first | rfl | decide), Nat.le_of_ble_eq_true (by first | rfl | decide)⟩).run) (fun r_28 hr_28 => ?_)
      subst hr_28
      cases hv_28 : fbE (atR (rz a_2) (rf a_2)) (rz a_2) 101 0 with
      | none =>
        refine ho_tope (y := (-1)) rfl ?_
        exact absurd hv_28 (hno _ _ rfl h_y hv_2 (of_decide_eq_true c_21))
      | some v_28 =>
        refine ho_tope (y := nI v_28) rfl ?_
        have hb28 := fb_le 101 0 v_28 (Nat.zero_le _) hv_28
        refine lv_istore_n (lv' := [(3, .int (nI v_28)), (2, .ref a_2), (0, .ref x), (1, .int (nI y))]) hx hb dX11_school_31 rfl hl (by decide) rfl (fun ls hl => ?_)
        refine lv_iload_n hx hb dX11_school_32 rfl (lv_at hl 0 rfl) ?_
        refine ho_if_lt0 hx hb dX11_school_33 (tgt := 42) (by decide) (by omega) ?_
        refine lv_sipush (v := (-1000)) hx hb dX11_school_36 (by decide +kernel) ?_
        refine lv_iload_n hx hb dX11_school_39 rfl (lv_at hl 0 rfl) ?_
        refine lv_isub hx hb dX11_school_40 ?_
        exact W.iret (v := ((-1000) - nI v_28)) hx hb hr (fun T9 hT9 hW9 => ⟨_, rfl, (by (simp [on1, whyR, hv_2, c_21, hv_28, oN_t h_y]) <;> first | rfl | omega), hT9⟩) (fun q h => by cases h) dX11_school_41
    refine lv_bipush (v := (-12)) hx hb dX11_school_24 (by decide +kernel) ?_
    exact W.iret (v := (-12)) hx hb hr (fun T9 hT9 hW9 => ⟨_, rfl, (by (simp [on1, whyR, hv_2, c_21, oN_t h_y]) <;> first | rfl | omega), hT9⟩) (fun q h => by cases h) dX11_school_26
