theorem va_P.kp {D : va_G} {cl : List vw_C} {ws : va_W} {A : Nat → Prop} {H H1 : Heap} {locs : List Loc} (h : va_P D cl ws H) (hA : ∀ (k : Nat) (q : Nat × va_E), ws[k]? = some q → ¬ A q.1) (hS : va_S A H H1 locs) : va_P D cl ws H1 := h.kept (fun k q hq => hS.2.1 q.1 (h k q hq).lt (hA k q hq))
theorem va_P.ge {D : va_G} {cl : List vw_C} {ws : va_W} {H : Heap} (h : va_P D cl ws H) : ∀ (k : Nat) (q : Nat × va_E), ws[k]? = some q → ¬ H.size ≤ q.1 := fun k q hq => Nat.not_le.mpr (h k q hq).lt
theorem DP.ge {dC : Nat → ClassId} {dI : Nat → Nat → Nat} {DL : List Nat} {kd fg : Nat → Nat} {H : Heap} (h : DP dC dI DL kd fg H) : ∀ a ∈ DL, ¬ H.size ≤ a := fun a ha => Nat.not_le.mpr (h.lt ha)
set_option maxHeartbeats 4000000 in
set_option maxRecDepth 100000 in
theorem c_X11_toss (l : Launch) (hl0 : l.stackTraces = false) (dC : Nat → ClassId) (dI : Nat → Nat → Nat) (cI cD cR : ClassId) (x sN sM sP : Nat) (pt : Bool) (fo da ra : Nat) (dm : Nat → Option Nat) (rm : Nat → Option Nat) (i : Int32) (DL : List Nat) (kd fg : Nat → Nat) (sz : Nat) (sa : Nat → Nat) (gdm : ∀ j a, dm j = some a → a ∈ DL) : vx_Met l yX11_toss wsX11_toss ({ frames := 9, cells := 1, slots := 6, locals := 240 }) (pcX dC dI cI cD cR [.ref x, .int i] (fun H => H.size = sz ∧ va_P (dC, dI) vwCl ([(x, .inr (11, [.ref sN, .ref sM, .ref sP, .int (bI pt), .ref fo, .ref da, .ref ra]))] ++ [(da, .inl (cD, 8, .inr (.inr (.inr (.inr dm)))))] ++ [(ra, .inl (cR, 8, .inr (.inr (.inr (.inr rm)))))]) H ∧ DP dC dI DL kd fg H) sa (fun q => sz ≤ q)) (va_Qi (fun r (_ : Unit) => r = on1 (oN i 8) (fun y => match dm y with | none => (bif (rm y).isNone && (dm y).isNone then -11 else -12) | some a => tossR (kd a) (fg a)) (-1)) (fun _ _ => True) (fun q => sz ≤ q)) (vx_X (fun (_ : Unit) => False) (fun _ _ _ => False) (fun q => sz ≤ q)) 1 6 (fun q => sz ≤ q) := by
  refine vx_ofWH (cc := cX11_toss) (maxL := 4) (ret := (some .int)) (by decide) rfl ?_
  intro p e s m args below meth c s₁ B hml hv
  obtain ⟨rfl, ⟨hsz, hP, hDP0⟩, hCX, hVX⟩ := hv
  subst hsz
  have hx := B.exec
  have hb := B.bytes
  have hr := B.returns
  have hts := atoms_spec (ws := wsX11_toss) B.pre
  have hlocks := B.notSynchronized
  have hK := hCX.1
  have hDP := hDP0
  have htab : c.exceptionTable.toList = tableOf [(16, 20, 23, 246), (16, 20, 29, 239), (16, 20, 38, 273)] := vx_table (x := yX11_toss) B (hts _ List.mem_cons_self)
  have hown : s.vm.findClass RX11 = some m.cls := findClass_of_methodNamed B.named
  have hS : va_S (fun q => s.heap.size ≤ q) s.heap s.heap [] := va_S.rf
  have hl := lv_entry ([.ref x, .int i]) (n := 4) (Nat.le_of_ble_eq_true rfl)
  rw [lg_entry_eq]
  generalize (lg_sl ([.ref x, .int i]) ++ List.replicate (4 - (lg_sl ([.ref x, .int i])).length) Slot.unset).toArray = ls at hl ⊢
  have hl : lv_has ls 4 [(0, .ref x), (1, .int i)] := hl
  rcases okI_or i (n := 8) (by omega) with hb_i | ⟨y, h_y, rfl⟩
  · refine lv_aload_n hx hb dX11_toss_0 rfl (lv_at hl 0 rfl) ?_
    refine lv_iload_n hx hb dX11_toss_1 rfl (lv_at hl 1 rfl) ?_
    refine va_csq ((va_runV (As := [.int i]) (rest := []) ⟨hx, hb, hml, hown, hts⟩ (c_X11_denierAt_f l dC dI cI cD cR x sN sM sP pt fo da ra dm i (by first | omega | assumption | exact gnd _ | exact gkn _ | exact Nat.lt_trans (gkn _) (by decide) | exact Nat.lt_trans (gnd _) (by decide) | exact Nat.lt_of_le_of_lt (pcN_le _) (by decide))) (cwV 1 hts gX11_toss_X11_denierAt rfl rfl rfl (by decide +kernel) ⟨Nat.le_of_ble_eq_true rfl, Nat.le_of_ble_eq_true rfl⟩) (preV_R hCX (va_recv hK hP (ci := 11) (q0 := 0) rfl rfl) ((hP.sub (ws' := [(x, .inr (11, [.ref sN, .ref sM, .ref sP, .int (bI pt), .ref fo, .ref da, .ref ra]))] ++ [(da, .inl (cD, 8, .inr (.inr (.inr (.inr dm)))))]) [0, 1] rfl))) rfl rfl hl.1 rfl (lv_room (Nat.le_of_ble_eq_true rfl)) dX11_toss_2 ⟨Nat.le_of_ble_eq_true (by first | rfl | decide), Nat.le_of_ble_eq_true (by first | rfl | decide)⟩).run) (fun r_2 hr_2 => ?_)
    subst hr_2
    refine ho_topr (y := .null) rfl ?_
    refine lv_astore_nN (lv' := [(2, .null), (0, .ref x), (1, .int i)]) hx hb dX11_toss_5 rfl hl (by decide) rfl (fun ls hl => ?_)
    refine lv_aload_nN hx hb dX11_toss_6 rfl (lv_at hl 0 rfl) ?_
    refine lv_ifnonnullN hx hb dX11_toss_7 ?_
    refine lv_aload_n hx hb dX11_toss_10 rfl (lv_at hl 1 rfl) ?_
    refine lv_iload_n hx hb dX11_toss_11 rfl (lv_at hl 2 rfl) ?_
    refine vp_callSi ((va_runV (As := [.int i]) (rest := []) ⟨hx, hb, hml, hown, hts⟩ (c_X11_whyMissing l dC dI cI cD cR x sN sM sP pt fo da ra dm rm i) (cwV 1 hts gX11_toss_X11_whyMissing rfl rfl rfl (by decide +kernel) ⟨Nat.le_of_ble_eq_true rfl, Nat.le_of_ble_eq_true rfl⟩) (preV_R hCX (va_recv hK hP (ci := 11) (q0 := 0) rfl rfl) (hP)) rfl rfl hl.1 rfl (lv_room (Nat.le_of_ble_eq_true rfl)) dX11_toss_12 ⟨Nat.le_of_ble_eq_true (by first | rfl | decide), Nat.le_of_ble_eq_true (by first | rfl | decide)⟩).run) (fun r_12 hr_12 => ?_)
    subst hr_12
    refine vx_ret (W.widen (k := 1) (n := 6) (by decide) (by decide) ?_)
    exact W.iret (v := (whyR dm rm i)) hx hb hr (fun T9 hT9 hW9 => ⟨⟨_, (), rfl, (by (simp [on1, whyR, oN_f hb_i]) <;> first | rfl | omega), trivial⟩, hS.F hT9⟩) hS.2.2 dX11_toss_15
  refine lv_aload_n hx hb dX11_toss_0 rfl (lv_at hl 0 rfl) ?_
  refine lv_iload_n hx hb dX11_toss_1 rfl (lv_at hl 1 rfl) ?_
  refine va_csq ((va_runV (As := [.int (nI y)]) (rest := []) ⟨hx, hb, hml, hown, hts⟩ (c_X11_denierAt_t l dC dI cI cD cR x sN sM sP pt fo da ra dm y (by first | omega | assumption | exact gnd _ | exact gkn _ | exact Nat.lt_trans (gkn _) (by decide) | exact Nat.lt_trans (gnd _) (by decide) | exact Nat.lt_of_le_of_lt (pcN_le _) (by decide))) (cwV 1 hts gX11_toss_X11_denierAt rfl rfl rfl (by decide +kernel) ⟨Nat.le_of_ble_eq_true rfl, Nat.le_of_ble_eq_true rfl⟩) (preV_R hCX (va_recv hK hP (ci := 11) (q0 := 0) rfl rfl) ((hP.sub (ws' := [(x, .inr (11, [.ref sN, .ref sM, .ref sP, .int (bI pt), .ref fo, .ref da, .ref ra]))] ++ [(da, .inl (cD, 8, .inr (.inr (.inr (.inr dm)))))]) [0, 1] rfl))) rfl rfl hl.1 rfl (lv_room (Nat.le_of_ble_eq_true rfl)) dX11_toss_2 ⟨Nat.le_of_ble_eq_true (by first | rfl | decide), Nat.le_of_ble_eq_true (by first | rfl | decide)⟩).run) (fun r_2 hr_2 => ?_)
  subst hr_2
  cases hv_2 : dm y with
  | none =>
    refine ho_topr (y := .null) rfl ?_
    refine lv_astore_nN (lv' := [(2, .null), (0, .ref x), (1, .int (nI y))]) hx hb dX11_toss_5 rfl hl (by decide) rfl (fun ls hl => ?_)
    refine lv_aload_nN hx hb dX11_toss_6 rfl (lv_at hl 0 rfl) ?_
    refine lv_ifnonnullN hx hb dX11_toss_7 ?_
    refine lv_aload_n hx hb dX11_toss_10 rfl (lv_at hl 1 rfl) ?_
    refine lv_iload_n hx hb dX11_toss_11 rfl (lv_at hl 2 rfl) ?_
    refine vp_callSi ((va_runV (As := [.int (nI y)]) (rest := []) ⟨hx, hb, hml, hown, hts⟩ (c_X11_whyMissing_n l dC dI cI cD cR x sN sM sP pt fo da ra dm rm y (by first | omega | assumption | exact gnd _ | exact gkn _ | exact Nat.lt_trans (gkn _) (by decide) | exact Nat.lt_trans (gnd _) (by decide) | exact Nat.lt_of_le_of_lt (pcN_le _) (by decide))) (cwV 1 hts gX11_toss_X11_whyMissing rfl rfl rfl (by decide +kernel) ⟨Nat.le_of_ble_eq_true rfl, Nat.le_of_ble_eq_true rfl⟩) (preV_R hCX (va_recv hK hP (ci := 11) (q0 := 0) rfl rfl) (hP)) rfl rfl hl.1 rfl (lv_room (Nat.le_of_ble_eq_true rfl)) dX11_toss_12 ⟨Nat.le_of_ble_eq_true (by first | rfl | decide), Nat.le_of_ble_eq_true (by first | rfl | decide)⟩).run) (fun r_12 hr_12 => ?_)
    subst hr_12
    refine vx_ret (W.widen (k := 1) (n := 6) (by decide) (by decide) ?_)
    exact W.iret (v := (bif (rm y).isNone && (dm y).isNone then -11 else -12)) hx hb hr (fun T9 hT9 hW9 => ⟨⟨_, (), rfl, (by (simp [on1, whyR, hv_2, oN_t h_y]) <;> first | rfl | omega), trivial⟩, hS.F hT9⟩) hS.2.2 dX11_toss_15
  | some a_2 =>
    refine ho_topr (y := .ref a_2) rfl ?_
    have hda_2 : a_2 ∈ DL := gdm _ _ hv_2
    refine lv_astore_n (lv' := [(2, .ref a_2), (0, .ref x), (1, .int (nI y))]) hx hb dX11_toss_5 rfl hl (by decide) rfl (fun ls hl => ?_)
    refine lv_aload_n hx hb dX11_toss_6 rfl (lv_at hl 0 rfl) ?_
    refine lv_ifnonnull (tgt := 16) hx hb dX11_toss_7 (by decide) ?_
    refine lv_aload_n hx hb dX11_toss_16 rfl (lv_at hl 0 rfl) ?_
    obtain ⟨hPa, hka, hfa⟩ := hDP0 _ hda_2
    rcases (show kd a_2 = 0 ∨ kd a_2 = 1 ∨ kd a_2 = 2 ∨ kd a_2 = 3 ∨ kd a_2 = 4 ∨ kd a_2 = 5 ∨ kd a_2 = 6 ∨ kd a_2 = 7 by omega) with hk9 | hk9 | hk9 | hk9 | hk9 | hk9 | hk9 | hk9
    · rw [hk9] at hPa
      refine vx_callv (vx_runV (As := []) (rest := []) ⟨hx, hb, hml, hown, hts⟩ (c_X2_fail_k0 l hl0 dC dI cI cD cR a_2 (fg a_2) s.heap.size sa hfa) (cwV 0 hts gX11_toss_X2_fail rfl rfl rfl (by decide +kernel) ⟨Nat.le_of_ble_eq_true rfl, Nat.le_of_ble_eq_true rfl⟩) (preV_X hCX hVX (va_recv hK hPa (ci := 2) (q0 := 0) rfl rfl) ⟨rfl, hPa⟩) rfl rfl hl.1 rfl (lv_room (Nat.le_of_ble_eq_true rfl)) dX11_toss_17 ⟨Nat.le_of_ble_eq_true rfl, Nat.le_of_ble_eq_true rfl⟩) hS (fun q _ h => h) (fun q h => h) (fun q _ h => h) (fun E9 ce9 q9 u9 t9 H1 locs1 ht9 hal9 hp9 hB9 hz9 hk1 hS1 hce9 hcv9 hcl9 => ?_) (fun u9 t9 H1 locs1 ht9 hal9 hp9 hB9 hz9 hk1 hS1 => ?_)
      · have hB9 : E9 = "java/lang/IllegalStateException" := hB9
        subst hB9
        refine vx_catch (name := "java/lang/IllegalStateException") hown [] ((tableOf [(16, 20, 23, 246)])[0]) (tableOf [(16, 20, 29, 239), (16, 20, 38, 273)]) htab (fun z h => by cases h) (by decide) (by decide) (hts (.classLink RX11 246 "java/lang/IllegalStateException") (by decide +kernel)) (va_Nw.use rfl hVX.cast0) hce9 hcv9 hcl9 ?_
        have hP := va_P.kp hP hP.ge hS1
        have hDP := DP.keep hDP0 hDP0.ge hS1
        have hS := hS1
        generalize H1 = H at hP hDP hS ⊢
        have hl : lv_has ls 4 [(2, .ref a_2), (0, .ref x), (1, .int (nI y))] := hl
        refine lv_astore_n (lv' := [(3, .ref q9), (2, .ref a_2), (0, .ref x), (1, .int (nI y))]) hx hb dX11_toss_23 rfl hl (by decide) rfl (fun ls hl => ?_)
        refine lv_aload_n hx hb dX11_toss_24 rfl (lv_at hl 1 rfl) ?_
        refine ho_via (g2 := F0 m 28 ls [.int (nI (fg a_2))]) (fun K9 => ?_) ?_
        · obtain ⟨hPa, hka, hfa⟩ := hDP _ hda_2
          generalize hkk : kd a_2 = kk at hPa hka K9
          generalize hff : fg a_2 = ff at hPa hfa K9
          rcases (show kk = 0 ∨ kk = 1 ∨ kk = 2 ∨ kk = 3 ∨ kk = 4 ∨ kk = 5 ∨ kk = 6 ∨ kk = 7 by omega) with rfl | rfl | rfl | rfl | rfl | rfl | rfl | rfl
          · exact va_get (D := (dC, dI)) (ci := 2) (v := .int (nI ff)) (C := RX2) (T := TX2) (N := 2) hx hb hts (fun _ h => List.mem_cons_of_mem _ (List.mem_append_left _ (List.mem_append_left _ (List.mem_append_left _ (List.mem_append_left _ (List.mem_append_left _ (List.mem_append_left _ (List.mem_append_left _ (List.mem_append_left _ (List.mem_append_left _ (List.mem_append_left _ (List.mem_append_right _ h)))))))))))) hown hK hPa 0 rfl rfl 1 (by decide) (hts (.fieldLink RX11 98 "HoldsOnceDenied$Denier" "figure" "I") (by decide +kernel)) (fun _ h9 => h9) rfl dX11_toss_25 K9
          · exact va_get (D := (dC, dI)) (ci := 3) (v := .int (nI ff)) (C := RX3) (T := TX3) (N := 2) hx hb hts (fun _ h => List.mem_cons_of_mem _ (List.mem_append_left _ (List.mem_append_left _ (List.mem_append_left _ (List.mem_append_left _ (List.mem_append_left _ (List.mem_append_left _ (List.mem_append_left _ (List.mem_append_left _ (List.mem_append_left _ (List.mem_append_right _ h))))))))))) hown hK hPa 0 rfl rfl 1 (by decide) (hts (.fieldLink RX11 98 "HoldsOnceDenied$Denier" "figure" "I") (by decide +kernel)) (fun _ h9 => h9) rfl dX11_toss_25 K9
          · exact va_get (D := (dC, dI)) (ci := 10) (v := .int (nI ff)) (C := RX10) (T := TX10) (N := 2) hx hb hts (fun _ h => List.mem_cons_of_mem _ (List.mem_append_left _ (List.mem_append_left _ (List.mem_append_left _ (List.mem_append_left _ (List.mem_append_left _ (List.mem_append_right _ h))))))) hown hK hPa 0 rfl rfl 1 (by decide) (hts (.fieldLink RX11 98 "HoldsOnceDenied$Denier" "figure" "I") (by decide +kernel)) (fun _ h9 => h9) rfl dX11_toss_25 K9
          · exact va_get (D := (dC, dI)) (ci := 1) (v := .int (nI ff)) (C := RX1) (T := TX1) (N := 2) hx hb hts (fun _ h => List.mem_cons_of_mem _ (List.mem_append_left _ (List.mem_append_left _ (List.mem_append_left _ (List.mem_append_left _ (List.mem_append_left _ (List.mem_append_left _ (List.mem_append_left _ (List.mem_append_left _ (List.mem_append_left _ (List.mem_append_left _ (List.mem_append_left _ (List.mem_append_right _ h))))))))))))) hown hK hPa 0 rfl rfl 1 (by decide) (hts (.fieldLink RX11 98 "HoldsOnceDenied$Denier" "figure" "I") (by decide +kernel)) (fun _ h9 => h9) rfl dX11_toss_25 K9
          · exact va_get (D := (dC, dI)) (ci := 5) (v := .int (nI ff)) (C := RX5) (T := TX5) (N := 2) hx hb hts (fun _ h => List.mem_cons_of_mem _ (List.mem_append_left _ (List.mem_append_left _ (List.mem_append_left _ (List.mem_append_left _ (List.mem_append_left _ (List.mem_append_left _ (List.mem_append_left _ (List.mem_append_left _ (List.mem_append_right _ h)))))))))) hown hK hPa 0 rfl rfl 1 (by decide) (hts (.fieldLink RX11 98 "HoldsOnceDenied$Denier" "figure" "I") (by decide +kernel)) (fun _ h9 => h9) rfl dX11_toss_25 K9
          · exact va_get (D := (dC, dI)) (ci := 6) (v := .int (nI ff)) (C := RX6) (T := TX6) (N := 2) hx hb hts (fun _ h => List.mem_cons_of_mem _ (List.mem_append_left _ (List.mem_append_left _ (List.mem_append_left _ (List.mem_append_left _ (List.mem_append_left _ (List.mem_append_left _ (List.mem_append_left _ (List.mem_append_right _ h))))))))) hown hK hPa 0 rfl rfl 1 (by decide) (hts (.fieldLink RX11 98 "HoldsOnceDenied$Denier" "figure" "I") (by decide +kernel)) (fun _ h9 => h9) rfl dX11_toss_25 K9
          · exact va_get (D := (dC, dI)) (ci := 7) (v := .int (nI ff)) (C := RX7) (T := TX7) (N := 2) hx hb hts (fun _ h => List.mem_cons_of_mem _ (List.mem_append_left _ (List.mem_append_left _ (List.mem_append_left _ (List.mem_append_left _ (List.mem_append_left _ (List.mem_append_left _ (List.mem_append_right _ h)))))))) hown hK hPa 0 rfl rfl 1 (by decide) (hts (.fieldLink RX11 98 "HoldsOnceDenied$Denier" "figure" "I") (by decide +kernel)) (fun _ h9 => h9) rfl dX11_toss_25 K9
          · exact va_get (D := (dC, dI)) (ci := 0) (v := .int (nI ff)) (C := RX0) (T := TX0) (N := 2) hx hb hts (fun _ h => List.mem_cons_of_mem _ (List.mem_append_left _ (List.mem_append_left _ (List.mem_append_left _ (List.mem_append_left _ (List.mem_append_left _ (List.mem_append_left _ (List.mem_append_left _ (List.mem_append_left _ (List.mem_append_left _ (List.mem_append_left _ (List.mem_append_left _ (List.mem_append_left _ (List.mem_append_right _ h)))))))))))))) hown hK hPa 0 rfl rfl 1 (by decide) (hts (.fieldLink RX11 98 "HoldsOnceDenied$Denier" "figure" "I") (by decide +kernel)) (fun _ h9 => h9) rfl dX11_toss_25 K9
        refine vx_ret ?_
        exact W.iret (v := nI (fg a_2)) hx hb hr (fun T9 hT9 hW9 => ⟨⟨_, (), rfl, (by rw [oN_t h_y, on1_s, hv_2]; simp only [tossR, hk9, if_neg (show ¬ fg a_2 = 0 from hp9)]; first | rfl | (simp only [asN]; omega) | simp [asN]), trivial⟩, hS.F hT9⟩) hS.2.2 dX11_toss_28
      · have hS := hS1
        generalize H1 = H at hS ⊢
        refine lv_goto (tgt := 48) hx hb dX11_toss_20 (by decide) ?_
        refine lv_bipush (v := (-15)) hx hb dX11_toss_48 (by decide +kernel) ?_
        refine vx_ret ?_
        exact W.iret (v := (-15)) hx hb hr (fun T9 hT9 hW9 => ⟨⟨_, (), rfl, (by rw [oN_t h_y, on1_s, hv_2]; simp only [tossR, hk9]; first | rfl | (rw [show fg a_2 = 0 from hp9]; rfl)), trivial⟩, hS.F hT9⟩) hS.2.2 dX11_toss_50
    · rw [hk9] at hPa
      refine vx_callv (vx_runU (As := []) (rest := []) ⟨hx, hb, hml, hown, hts⟩ (c_X3_fail l hl0 dC dI cI cD cR a_2 (fg a_2) s.heap.size sa hfa) (va_cwO 0 hts gX11_toss_X3_fail_u270X3 rfl rfl rfl (b0 := cX2_fail) (m0 := 1) (r0 := none) (by decide +kernel) (by decide +kernel) ⟨Nat.le_of_ble_eq_true rfl, Nat.le_of_ble_eq_true rfl⟩) (preV_X hCX hVX (va_recv hK hPa (ci := 3) (q0 := 0) rfl rfl) ⟨rfl, hPa⟩) rfl rfl hl.1 rfl (lv_room (Nat.le_of_ble_eq_true rfl)) dX11_toss_17 ⟨Nat.le_of_ble_eq_true rfl, Nat.le_of_ble_eq_true rfl⟩) hS (fun q _ h => h) (fun q h => h) (fun q _ h => h) (fun E9 ce9 q9 u9 t9 H1 locs1 ht9 hal9 hp9 hB9 hz9 hk1 hS1 hce9 hcv9 hcl9 => ?_) (fun u9 t9 H1 locs1 ht9 hal9 hp9 hB9 hz9 hk1 hS1 => ?_)
      · have hB9 : E9 = "java/lang/IllegalArgumentException" := hB9
        subst hB9
        refine vx_catch (name := "java/lang/IllegalArgumentException") hown (tableOf [(16, 20, 23, 246)]) ((tableOf [(16, 20, 29, 239)])[0]) (tableOf [(16, 20, 38, 273)]) htab (fun z h => Or.inr (by rcases List.mem_singleton.mp h with rfl; exact ⟨by decide, _, (hts (.classLink RX11 246 "java/lang/IllegalStateException") (by decide +kernel)), hVX.nc0⟩)) (by decide) (by decide) (hts (.classLink RX11 239 "java/lang/IllegalArgumentException") (by decide +kernel)) (va_Nw.use rfl hVX.cast1) hce9 hcv9 hcl9 ?_
        have hP := va_P.kp hP hP.ge hS1
        have hDP := DP.keep hDP0 hDP0.ge hS1
        have hS := hS1
        generalize H1 = H at hP hDP hS ⊢
        have hl : lv_has ls 4 [(2, .ref a_2), (0, .ref x), (1, .int (nI y))] := hl
        refine lv_astore_n (lv' := [(3, .ref q9), (2, .ref a_2), (0, .ref x), (1, .int (nI y))]) hx hb dX11_toss_29 rfl hl (by decide) rfl (fun ls hl => ?_)
        refine lv_bipush (v := nI 100) hx hb dX11_toss_30 (by decide +kernel) ?_
        refine lv_aload_n hx hb dX11_toss_32 rfl (lv_at hl 1 rfl) ?_
        refine ho_via (g2 := F0 m 36 ls [.int (nI (fg a_2)), .int (nI 100)]) (fun K9 => ?_) ?_
        · obtain ⟨hPa, hka, hfa⟩ := hDP _ hda_2
          generalize hkk : kd a_2 = kk at hPa hka K9
          generalize hff : fg a_2 = ff at hPa hfa K9
          rcases (show kk = 0 ∨ kk = 1 ∨ kk = 2 ∨ kk = 3 ∨ kk = 4 ∨ kk = 5 ∨ kk = 6 ∨ kk = 7 by omega) with rfl | rfl | rfl | rfl | rfl | rfl | rfl | rfl
          · exact va_get (D := (dC, dI)) (ci := 2) (v := .int (nI ff)) (C := RX2) (T := TX2) (N := 2) hx hb hts (fun _ h => List.mem_cons_of_mem _ (List.mem_append_left _ (List.mem_append_left _ (List.mem_append_left _ (List.mem_append_left _ (List.mem_append_left _ (List.mem_append_left _ (List.mem_append_left _ (List.mem_append_left _ (List.mem_append_left _ (List.mem_append_left _ (List.mem_append_right _ h)))))))))))) hown hK hPa 0 rfl rfl 1 (by decide) (hts (.fieldLink RX11 98 "HoldsOnceDenied$Denier" "figure" "I") (by decide +kernel)) (fun _ h9 => h9) rfl dX11_toss_33 K9
          · exact va_get (D := (dC, dI)) (ci := 3) (v := .int (nI ff)) (C := RX3) (T := TX3) (N := 2) hx hb hts (fun _ h => List.mem_cons_of_mem _ (List.mem_append_left _ (List.mem_append_left _ (List.mem_append_left _ (List.mem_append_left _ (List.mem_append_left _ (List.mem_append_left _ (List.mem_append_left _ (List.mem_append_left _ (List.mem_append_left _ (List.mem_append_right _ h))))))))))) hown hK hPa 0 rfl rfl 1 (by decide) (hts (.fieldLink RX11 98 "HoldsOnceDenied$Denier" "figure" "I") (by decide +kernel)) (fun _ h9 => h9) rfl dX11_toss_33 K9
          · exact va_get (D := (dC, dI)) (ci := 10) (v := .int (nI ff)) (C := RX10) (T := TX10) (N := 2) hx hb hts (fun _ h => List.mem_cons_of_mem _ (List.mem_append_left _ (List.mem_append_left _ (List.mem_append_left _ (List.mem_append_left _ (List.mem_append_left _ (List.mem_append_right _ h))))))) hown hK hPa 0 rfl rfl 1 (by decide) (hts (.fieldLink RX11 98 "HoldsOnceDenied$Denier" "figure" "I") (by decide +kernel)) (fun _ h9 => h9) rfl dX11_toss_33 K9
          · exact va_get (D := (dC, dI)) (ci := 1) (v := .int (nI ff)) (C := RX1) (T := TX1) (N := 2) hx hb hts (fun _ h => List.mem_cons_of_mem _ (List.mem_append_left _ (List.mem_append_left _ (List.mem_append_left _ (List.mem_append_left _ (List.mem_append_left _ (List.mem_append_left _ (List.mem_append_left _ (List.mem_append_left _ (List.mem_append_left _ (List.mem_append_left _ (List.mem_append_left _ (List.mem_append_right _ h))))))))))))) hown hK hPa 0 rfl rfl 1 (by decide) (hts (.fieldLink RX11 98 "HoldsOnceDenied$Denier" "figure" "I") (by decide +kernel)) (fun _ h9 => h9) rfl dX11_toss_33 K9
          · exact va_get (D := (dC, dI)) (ci := 5) (v := .int (nI ff)) (C := RX5) (T := TX5) (N := 2) hx hb hts (fun _ h => List.mem_cons_of_mem _ (List.mem_append_left _ (List.mem_append_left _ (List.mem_append_left _ (List.mem_append_left _ (List.mem_append_left _ (List.mem_append_left _ (List.mem_append_left _ (List.mem_append_left _ (List.mem_append_right _ h)))))))))) hown hK hPa 0 rfl rfl 1 (by decide) (hts (.fieldLink RX11 98 "HoldsOnceDenied$Denier" "figure" "I") (by decide +kernel)) (fun _ h9 => h9) rfl dX11_toss_33 K9
          · exact va_get (D := (dC, dI)) (ci := 6) (v := .int (nI ff)) (C := RX6) (T := TX6) (N := 2) hx hb hts (fun _ h => List.mem_cons_of_mem _ (List.mem_append_left _ (List.mem_append_left _ (List.mem_append_left _ (List.mem_append_left _ (List.mem_append_left _ (List.mem_append_left _ (List.mem_append_left _ (List.mem_append_right _ h))))))))) hown hK hPa 0 rfl rfl 1 (by decide) (hts (.fieldLink RX11 98 "HoldsOnceDenied$Denier" "figure" "I") (by decide +kernel)) (fun _ h9 => h9) rfl dX11_toss_33 K9
          · exact va_get (D := (dC, dI)) (ci := 7) (v := .int (nI ff)) (C := RX7) (T := TX7) (N := 2) hx hb hts (fun _ h => List.mem_cons_of_mem _ (List.mem_append_left _ (List.mem_append_left _ (List.mem_append_left _ (List.mem_append_left _ (List.mem_append_left _ (List.mem_append_left _ (List.mem_append_right _ h)))))))) hown hK hPa 0 rfl rfl 1 (by decide) (hts (.fieldLink RX11 98 "HoldsOnceDenied$Denier" "figure" "I") (by decide +kernel)) (fun _ h9 => h9) rfl dX11_toss_33 K9
          · exact va_get (D := (dC, dI)) (ci := 0) (v := .int (nI ff)) (C := RX0) (T := TX0) (N := 2) hx hb hts (fun _ h => List.mem_cons_of_mem _ (List.mem_append_left _ (List.mem_append_left _ (List.mem_append_left _ (List.mem_append_left _ (List.mem_append_left _ (List.mem_append_left _ (List.mem_append_left _ (List.mem_append_left _ (List.mem_append_left _ (List.mem_append_left _ (List.mem_append_left _ (List.mem_append_left _ (List.mem_append_right _ h)))))))))))))) hown hK hPa 0 rfl rfl 1 (by decide) (hts (.fieldLink RX11 98 "HoldsOnceDenied$Denier" "figure" "I") (by decide +kernel)) (fun _ h9 => h9) rfl dX11_toss_33 K9
        refine ho_iadd hx hb dX11_toss_36 ?_
        refine vx_ret ?_
        exact W.iret (v := nI (100 + (fg a_2))) hx hb hr (fun T9 hT9 hW9 => ⟨⟨_, (), rfl, (by rw [oN_t h_y, on1_s, hv_2]; simp only [tossR, hk9, if_neg (show ¬ fg a_2 = 0 from hp9)]; first | rfl | (simp only [asN]; omega) | simp [asN]), trivial⟩, hS.F hT9⟩) hS.2.2 dX11_toss_37
      · have hS := hS1
        generalize H1 = H at hS ⊢
        refine lv_goto (tgt := 48) hx hb dX11_toss_20 (by decide) ?_
        refine lv_bipush (v := (-15)) hx hb dX11_toss_48 (by decide +kernel) ?_
        refine vx_ret ?_
        exact W.iret (v := (-15)) hx hb hr (fun T9 hT9 hW9 => ⟨⟨_, (), rfl, (by rw [oN_t h_y, on1_s, hv_2]; simp only [tossR, hk9]; first | rfl | (rw [show fg a_2 = 0 from hp9]; rfl)), trivial⟩, hS.F hT9⟩) hS.2.2 dX11_toss_50
    · rw [hk9] at hPa
      refine vx_callv (vx_runU (As := []) (rest := []) ⟨hx, hb, hml, hown, hts⟩ (c_X2_fail_k2 l hl0 dC dI cI cD cR a_2 (fg a_2) s.heap.size sa hfa) (va_cwU 0 hts gX11_toss_X2_fail_u270X10 rfl rfl rfl rfl (by decide +kernel) ⟨Nat.le_of_ble_eq_true rfl, Nat.le_of_ble_eq_true rfl⟩) (preV_X hCX hVX (va_recv hK hPa (ci := 10) (q0 := 0) rfl rfl) ⟨rfl, hPa⟩) rfl rfl hl.1 rfl (lv_room (Nat.le_of_ble_eq_true rfl)) dX11_toss_17 ⟨Nat.le_of_ble_eq_true rfl, Nat.le_of_ble_eq_true rfl⟩) hS (fun q _ h => h) (fun q h => h) (fun q _ h => h) (fun E9 ce9 q9 u9 t9 H1 locs1 ht9 hal9 hp9 hB9 hz9 hk1 hS1 hce9 hcv9 hcl9 => ?_) (fun u9 t9 H1 locs1 ht9 hal9 hp9 hB9 hz9 hk1 hS1 => ?_)
      · have hB9 : E9 = "java/lang/IllegalStateException" := hB9
        subst hB9
        refine vx_catch (name := "java/lang/IllegalStateException") hown [] ((tableOf [(16, 20, 23, 246)])[0]) (tableOf [(16, 20, 29, 239), (16, 20, 38, 273)]) htab (fun z h => by cases h) (by decide) (by decide) (hts (.classLink RX11 246 "java/lang/IllegalStateException") (by decide +kernel)) (va_Nw.use rfl hVX.cast0) hce9 hcv9 hcl9 ?_
        have hP := va_P.kp hP hP.ge hS1
        have hDP := DP.keep hDP0 hDP0.ge hS1
        have hS := hS1
        generalize H1 = H at hP hDP hS ⊢
        have hl : lv_has ls 4 [(2, .ref a_2), (0, .ref x), (1, .int (nI y))] := hl
        refine lv_astore_n (lv' := [(3, .ref q9), (2, .ref a_2), (0, .ref x), (1, .int (nI y))]) hx hb dX11_toss_23 rfl hl (by decide) rfl (fun ls hl => ?_)
        refine lv_aload_n hx hb dX11_toss_24 rfl (lv_at hl 1 rfl) ?_
        refine ho_via (g2 := F0 m 28 ls [.int (nI (fg a_2))]) (fun K9 => ?_) ?_
        · obtain ⟨hPa, hka, hfa⟩ := hDP _ hda_2
          generalize hkk : kd a_2 = kk at hPa hka K9
          generalize hff : fg a_2 = ff at hPa hfa K9
          rcases (show kk = 0 ∨ kk = 1 ∨ kk = 2 ∨ kk = 3 ∨ kk = 4 ∨ kk = 5 ∨ kk = 6 ∨ kk = 7 by omega) with rfl | rfl | rfl | rfl | rfl | rfl | rfl | rfl
          · exact va_get (D := (dC, dI)) (ci := 2) (v := .int (nI ff)) (C := RX2) (T := TX2) (N := 2) hx hb hts (fun _ h => List.mem_cons_of_mem _ (List.mem_append_left _ (List.mem_append_left _ (List.mem_append_left _ (List.mem_append_left _ (List.mem_append_left _ (List.mem_append_left _ (List.mem_append_left _ (List.mem_append_left _ (List.mem_append_left _ (List.mem_append_left _ (List.mem_append_right _ h)))))))))))) hown hK hPa 0 rfl rfl 1 (by decide) (hts (.fieldLink RX11 98 "HoldsOnceDenied$Denier" "figure" "I") (by decide +kernel)) (fun _ h9 => h9) rfl dX11_toss_25 K9
          · exact va_get (D := (dC, dI)) (ci := 3) (v := .int (nI ff)) (C := RX3) (T := TX3) (N := 2) hx hb hts (fun _ h => List.mem_cons_of_mem _ (List.mem_append_left _ (List.mem_append_left _ (List.mem_append_left _ (List.mem_append_left _ (List.mem_append_left _ (List.mem_append_left _ (List.mem_append_left _ (List.mem_append_left _ (List.mem_append_left _ (List.mem_append_right _ h))))))))))) hown hK hPa 0 rfl rfl 1 (by decide) (hts (.fieldLink RX11 98 "HoldsOnceDenied$Denier" "figure" "I") (by decide +kernel)) (fun _ h9 => h9) rfl dX11_toss_25 K9
          · exact va_get (D := (dC, dI)) (ci := 10) (v := .int (nI ff)) (C := RX10) (T := TX10) (N := 2) hx hb hts (fun _ h => List.mem_cons_of_mem _ (List.mem_append_left _ (List.mem_append_left _ (List.mem_append_left _ (List.mem_append_left _ (List.mem_append_left _ (List.mem_append_right _ h))))))) hown hK hPa 0 rfl rfl 1 (by decide) (hts (.fieldLink RX11 98 "HoldsOnceDenied$Denier" "figure" "I") (by decide +kernel)) (fun _ h9 => h9) rfl dX11_toss_25 K9
          · exact va_get (D := (dC, dI)) (ci := 1) (v := .int (nI ff)) (C := RX1) (T := TX1) (N := 2) hx hb hts (fun _ h => List.mem_cons_of_mem _ (List.mem_append_left _ (List.mem_append_left _ (List.mem_append_left _ (List.mem_append_left _ (List.mem_append_left _ (List.mem_append_left _ (List.mem_append_left _ (List.mem_append_left _ (List.mem_append_left _ (List.mem_append_left _ (List.mem_append_left _ (List.mem_append_right _ h))))))))))))) hown hK hPa 0 rfl rfl 1 (by decide) (hts (.fieldLink RX11 98 "HoldsOnceDenied$Denier" "figure" "I") (by decide +kernel)) (fun _ h9 => h9) rfl dX11_toss_25 K9
          · exact va_get (D := (dC, dI)) (ci := 5) (v := .int (nI ff)) (C := RX5) (T := TX5) (N := 2) hx hb hts (fun _ h => List.mem_cons_of_mem _ (List.mem_append_left _ (List.mem_append_left _ (List.mem_append_left _ (List.mem_append_left _ (List.mem_append_left _ (List.mem_append_left _ (List.mem_append_left _ (List.mem_append_left _ (List.mem_append_right _ h)))))))))) hown hK hPa 0 rfl rfl 1 (by decide) (hts (.fieldLink RX11 98 "HoldsOnceDenied$Denier" "figure" "I") (by decide +kernel)) (fun _ h9 => h9) rfl dX11_toss_25 K9
          · exact va_get (D := (dC, dI)) (ci := 6) (v := .int (nI ff)) (C := RX6) (T := TX6) (N := 2) hx hb hts (fun _ h => List.mem_cons_of_mem _ (List.mem_append_left _ (List.mem_append_left _ (List.mem_append_left _ (List.mem_append_left _ (List.mem_append_left _ (List.mem_append_left _ (List.mem_append_left _ (List.mem_append_right _ h))))))))) hown hK hPa 0 rfl rfl 1 (by decide) (hts (.fieldLink RX11 98 "HoldsOnceDenied$Denier" "figure" "I") (by decide +kernel)) (fun _ h9 => h9) rfl dX11_toss_25 K9
          · exact va_get (D := (dC, dI)) (ci := 7) (v := .int (nI ff)) (C := RX7) (T := TX7) (N := 2) hx hb hts (fun _ h => List.mem_cons_of_mem _ (List.mem_append_left _ (List.mem_append_left _ (List.mem_append_left _ (List.mem_append_left _ (List.mem_append_left _ (List.mem_append_left _ (List.mem_append_right _ h)))))))) hown hK hPa 0 rfl rfl 1 (by decide) (hts (.fieldLink RX11 98 "HoldsOnceDenied$Denier" "figure" "I") (by decide +kernel)) (fun _ h9 => h9) rfl dX11_toss_25 K9
          · exact va_get (D := (dC, dI)) (ci := 0) (v := .int (nI ff)) (C := RX0) (T := TX0) (N := 2) hx hb hts (fun _ h => List.mem_cons_of_mem _ (List.mem_append_left _ (List.mem_append_left _ (List.mem_append_left _ (List.mem_append_left _ (List.mem_append_left _ (List.mem_append_left _ (List.mem_append_left _ (List.mem_append_left _ (List.mem_append_left _ (List.mem_append_left _ (List.mem_append_left _ (List.mem_append_left _ (List.mem_append_right _ h)))))))))))))) hown hK hPa 0 rfl rfl 1 (by decide) (hts (.fieldLink RX11 98 "HoldsOnceDenied$Denier" "figure" "I") (by decide +kernel)) (fun _ h9 => h9) rfl dX11_toss_25 K9
        refine vx_ret ?_
        exact W.iret (v := nI (fg a_2)) hx hb hr (fun T9 hT9 hW9 => ⟨⟨_, (), rfl, (by rw [oN_t h_y, on1_s, hv_2]; simp only [tossR, hk9, if_neg (show ¬ fg a_2 = 0 from hp9)]; first | rfl | (simp only [asN]; omega) | simp [asN]), trivial⟩, hS.F hT9⟩) hS.2.2 dX11_toss_28
      · have hS := hS1
        generalize H1 = H at hS ⊢
        refine lv_goto (tgt := 48) hx hb dX11_toss_20 (by decide) ?_
        refine lv_bipush (v := (-15)) hx hb dX11_toss_48 (by decide +kernel) ?_
        refine vx_ret ?_
        exact W.iret (v := (-15)) hx hb hr (fun T9 hT9 hW9 => ⟨⟨_, (), rfl, (by rw [oN_t h_y, on1_s, hv_2]; simp only [tossR, hk9]; first | rfl | (rw [show fg a_2 = 0 from hp9]; rfl)), trivial⟩, hS.F hT9⟩) hS.2.2 dX11_toss_50
    · rw [hk9] at hPa
      refine vx_callv (vx_runU (As := []) (rest := []) ⟨hx, hb, hml, hown, hts⟩ (c_X1_fail l hl0 dC dI cI cD cR a_2 (fg a_2) s.heap.size sa hfa) (va_cwO 0 hts gX11_toss_X1_fail_u270X1 rfl rfl rfl (b0 := cX2_fail) (m0 := 1) (r0 := none) (by decide +kernel) (by decide +kernel) ⟨Nat.le_of_ble_eq_true rfl, Nat.le_of_ble_eq_true rfl⟩) (preV_X hCX hVX (va_recv hK hPa (ci := 1) (q0 := 0) rfl rfl) ⟨rfl, hPa⟩) rfl rfl hl.1 rfl (lv_room (Nat.le_of_ble_eq_true rfl)) dX11_toss_17 ⟨Nat.le_of_ble_eq_true rfl, Nat.le_of_ble_eq_true rfl⟩) hS (fun q _ h => h) (fun q h => h) (fun q _ h => h) (fun E9 ce9 q9 u9 t9 H1 locs1 ht9 hal9 hp9 hB9 hz9 hk1 hS1 hce9 hcv9 hcl9 => ?_) (fun u9 t9 H1 locs1 ht9 hal9 hp9 hB9 hz9 hk1 hS1 => ?_)
      · exact hp9.elim
      · have hS := hS1
        generalize H1 = H at hS ⊢
        refine lv_goto (tgt := 48) hx hb dX11_toss_20 (by decide) ?_
        refine lv_bipush (v := (-15)) hx hb dX11_toss_48 (by decide +kernel) ?_
        refine vx_ret ?_
        exact W.iret (v := (-15)) hx hb hr (fun T9 hT9 hW9 => ⟨⟨_, (), rfl, (by rw [oN_t h_y, on1_s, hv_2]; simp only [tossR, hk9]; first | rfl | (rw [show fg a_2 = 0 from hp9]; rfl)), trivial⟩, hS.F hT9⟩) hS.2.2 dX11_toss_50
    · rw [hk9] at hPa
      refine vx_callv (vx_runU (As := []) (rest := []) ⟨hx, hb, hml, hown, hts⟩ (c_X2_fail_k4 l hl0 dC dI cI cD cR a_2 (fg a_2) s.heap.size sa hfa) (va_cwU 0 hts gX11_toss_X2_fail_u270X5 rfl rfl rfl rfl (by decide +kernel) ⟨Nat.le_of_ble_eq_true rfl, Nat.le_of_ble_eq_true rfl⟩) (preV_X hCX hVX (va_recv hK hPa (ci := 5) (q0 := 0) rfl rfl) ⟨rfl, hPa⟩) rfl rfl hl.1 rfl (lv_room (Nat.le_of_ble_eq_true rfl)) dX11_toss_17 ⟨Nat.le_of_ble_eq_true rfl, Nat.le_of_ble_eq_true rfl⟩) hS (fun q _ h => h) (fun q h => h) (fun q _ h => h) (fun E9 ce9 q9 u9 t9 H1 locs1 ht9 hal9 hp9 hB9 hz9 hk1 hS1 hce9 hcv9 hcl9 => ?_) (fun u9 t9 H1 locs1 ht9 hal9 hp9 hB9 hz9 hk1 hS1 => ?_)
      · have hB9 : E9 = "java/lang/IllegalStateException" := hB9
        subst hB9
        refine vx_catch (name := "java/lang/IllegalStateException") hown [] ((tableOf [(16, 20, 23, 246)])[0]) (tableOf [(16, 20, 29, 239), (16, 20, 38, 273)]) htab (fun z h => by cases h) (by decide) (by decide) (hts (.classLink RX11 246 "java/lang/IllegalStateException") (by decide +kernel)) (va_Nw.use rfl hVX.cast0) hce9 hcv9 hcl9 ?_
        have hP := va_P.kp hP hP.ge hS1
        have hDP := DP.keep hDP0 hDP0.ge hS1
        have hS := hS1
        generalize H1 = H at hP hDP hS ⊢
        have hl : lv_has ls 4 [(2, .ref a_2), (0, .ref x), (1, .int (nI y))] := hl
        refine lv_astore_n (lv' := [(3, .ref q9), (2, .ref a_2), (0, .ref x), (1, .int (nI y))]) hx hb dX11_toss_23 rfl hl (by decide) rfl (fun ls hl => ?_)
        refine lv_aload_n hx hb dX11_toss_24 rfl (lv_at hl 1 rfl) ?_
        refine ho_via (g2 := F0 m 28 ls [.int (nI (fg a_2))]) (fun K9 => ?_) ?_
        · obtain ⟨hPa, hka, hfa⟩ := hDP _ hda_2
          generalize hkk : kd a_2 = kk at hPa hka K9
          generalize hff : fg a_2 = ff at hPa hfa K9
          rcases (show kk = 0 ∨ kk = 1 ∨ kk = 2 ∨ kk = 3 ∨ kk = 4 ∨ kk = 5 ∨ kk = 6 ∨ kk = 7 by omega) with rfl | rfl | rfl | rfl | rfl | rfl | rfl | rfl
          · exact va_get (D := (dC, dI)) (ci := 2) (v := .int (nI ff)) (C := RX2) (T := TX2) (N := 2) hx hb hts (fun _ h => List.mem_cons_of_mem _ (List.mem_append_left _ (List.mem_append_left _ (List.mem_append_left _ (List.mem_append_left _ (List.mem_append_left _ (List.mem_append_left _ (List.mem_append_left _ (List.mem_append_left _ (List.mem_append_left _ (List.mem_append_left _ (List.mem_append_right _ h)))))))))))) hown hK hPa 0 rfl rfl 1 (by decide) (hts (.fieldLink RX11 98 "HoldsOnceDenied$Denier" "figure" "I") (by decide +kernel)) (fun _ h9 => h9) rfl dX11_toss_25 K9
          · exact va_get (D := (dC, dI)) (ci := 3) (v := .int (nI ff)) (C := RX3) (T := TX3) (N := 2) hx hb hts (fun _ h => List.mem_cons_of_mem _ (List.mem_append_left _ (List.mem_append_left _ (List.mem_append_left _ (List.mem_append_left _ (List.mem_append_left _ (List.mem_append_left _ (List.mem_append_left _ (List.mem_append_left _ (List.mem_append_left _ (List.mem_append_right _ h))))))))))) hown hK hPa 0 rfl rfl 1 (by decide) (hts (.fieldLink RX11 98 "HoldsOnceDenied$Denier" "figure" "I") (by decide +kernel)) (fun _ h9 => h9) rfl dX11_toss_25 K9
          · exact va_get (D := (dC, dI)) (ci := 10) (v := .int (nI ff)) (C := RX10) (T := TX10) (N := 2) hx hb hts (fun _ h => List.mem_cons_of_mem _ (List.mem_append_left _ (List.mem_append_left _ (List.mem_append_left _ (List.mem_append_left _ (List.mem_append_left _ (List.mem_append_right _ h))))))) hown hK hPa 0 rfl rfl 1 (by decide) (hts (.fieldLink RX11 98 "HoldsOnceDenied$Denier" "figure" "I") (by decide +kernel)) (fun _ h9 => h9) rfl dX11_toss_25 K9
          · exact va_get (D := (dC, dI)) (ci := 1) (v := .int (nI ff)) (C := RX1) (T := TX1) (N := 2) hx hb hts (fun _ h => List.mem_cons_of_mem _ (List.mem_append_left _ (List.mem_append_left _ (List.mem_append_left _ (List.mem_append_left _ (List.mem_append_left _ (List.mem_append_left _ (List.mem_append_left _ (List.mem_append_left _ (List.mem_append_left _ (List.mem_append_left _ (List.mem_append_left _ (List.mem_append_right _ h))))))))))))) hown hK hPa 0 rfl rfl 1 (by decide) (hts (.fieldLink RX11 98 "HoldsOnceDenied$Denier" "figure" "I") (by decide +kernel)) (fun _ h9 => h9) rfl dX11_toss_25 K9
          · exact va_get (D := (dC, dI)) (ci := 5) (v := .int (nI ff)) (C := RX5) (T := TX5) (N := 2) hx hb hts (fun _ h => List.mem_cons_of_mem _ (List.mem_append_left _ (List.mem_append_left _ (List.mem_append_left _ (List.mem_append_left _ (List.mem_append_left _ (List.mem_append_left _ (List.mem_append_left _ (List.mem_append_left _ (List.mem_append_right _ h)))))))))) hown hK hPa 0 rfl rfl 1 (by decide) (hts (.fieldLink RX11 98 "HoldsOnceDenied$Denier" "figure" "I") (by decide +kernel)) (fun _ h9 => h9) rfl dX11_toss_25 K9
          · exact va_get (D := (dC, dI)) (ci := 6) (v := .int (nI ff)) (C := RX6) (T := TX6) (N := 2) hx hb hts (fun _ h => List.mem_cons_of_mem _ (List.mem_append_left _ (List.mem_append_left _ (List.mem_append_left _ (List.mem_append_left _ (List.mem_append_left _ (List.mem_append_left _ (List.mem_append_left _ (List.mem_append_right _ h))))))))) hown hK hPa 0 rfl rfl 1 (by decide) (hts (.fieldLink RX11 98 "HoldsOnceDenied$Denier" "figure" "I") (by decide +kernel)) (fun _ h9 => h9) rfl dX11_toss_25 K9
          · exact va_get (D := (dC, dI)) (ci := 7) (v := .int (nI ff)) (C := RX7) (T := TX7) (N := 2) hx hb hts (fun _ h => List.mem_cons_of_mem _ (List.mem_append_left _ (List.mem_append_left _ (List.mem_append_left _ (List.mem_append_left _ (List.mem_append_left _ (List.mem_append_left _ (List.mem_append_right _ h)))))))) hown hK hPa 0 rfl rfl 1 (by decide) (hts (.fieldLink RX11 98 "HoldsOnceDenied$Denier" "figure" "I") (by decide +kernel)) (fun _ h9 => h9) rfl dX11_toss_25 K9
          · exact va_get (D := (dC, dI)) (ci := 0) (v := .int (nI ff)) (C := RX0) (T := TX0) (N := 2) hx hb hts (fun _ h => List.mem_cons_of_mem _ (List.mem_append_left _ (List.mem_append_left _ (List.mem_append_left _ (List.mem_append_left _ (List.mem_append_left _ (List.mem_append_left _ (List.mem_append_left _ (List.mem_append_left _ (List.mem_append_left _ (List.mem_append_left _ (List.mem_append_left _ (List.mem_append_left _ (List.mem_append_right _ h)))))))))))))) hown hK hPa 0 rfl rfl 1 (by decide) (hts (.fieldLink RX11 98 "HoldsOnceDenied$Denier" "figure" "I") (by decide +kernel)) (fun _ h9 => h9) rfl dX11_toss_25 K9
        refine vx_ret ?_
        exact W.iret (v := nI (fg a_2)) hx hb hr (fun T9 hT9 hW9 => ⟨⟨_, (), rfl, (by rw [oN_t h_y, on1_s, hv_2]; simp only [tossR, hk9, if_neg (show ¬ fg a_2 = 0 from hp9)]; first | rfl | (simp only [asN]; omega) | simp [asN]), trivial⟩, hS.F hT9⟩) hS.2.2 dX11_toss_28
      · have hS := hS1
        generalize H1 = H at hS ⊢
        refine lv_goto (tgt := 48) hx hb dX11_toss_20 (by decide) ?_
        refine lv_bipush (v := (-15)) hx hb dX11_toss_48 (by decide +kernel) ?_
        refine vx_ret ?_
        exact W.iret (v := (-15)) hx hb hr (fun T9 hT9 hW9 => ⟨⟨_, (), rfl, (by rw [oN_t h_y, on1_s, hv_2]; simp only [tossR, hk9]; first | rfl | (rw [show fg a_2 = 0 from hp9]; rfl)), trivial⟩, hS.F hT9⟩) hS.2.2 dX11_toss_50
    · rw [hk9] at hPa
      refine vx_callv (vx_runU (As := []) (rest := []) ⟨hx, hb, hml, hown, hts⟩ (c_X6_fail l hl0 dC dI cI cD cR a_2 (fg a_2) s.heap.size sa hfa) (va_cwO 0 hts gX11_toss_X6_fail_u270X6 rfl rfl rfl (b0 := cX2_fail) (m0 := 1) (r0 := none) (by decide +kernel) (by decide +kernel) ⟨Nat.le_of_ble_eq_true rfl, Nat.le_of_ble_eq_true rfl⟩) (preV_X hCX hVX (va_recv hK hPa (ci := 6) (q0 := 0) rfl rfl) ⟨rfl, hPa⟩) rfl rfl hl.1 rfl (lv_room (Nat.le_of_ble_eq_true rfl)) dX11_toss_17 ⟨Nat.le_of_ble_eq_true rfl, Nat.le_of_ble_eq_true rfl⟩) hS (fun q _ h => h) (fun q h => h) (fun q _ h => h) (fun E9 ce9 q9 u9 t9 H1 locs1 ht9 hal9 hp9 hB9 hz9 hk1 hS1 hce9 hcv9 hcl9 => ?_) (fun u9 t9 H1 locs1 ht9 hal9 hp9 hB9 hz9 hk1 hS1 => ?_)
      · have hB9 : E9 = "java/lang/IllegalStateException" := hB9
        subst hB9
        refine vx_catch (name := "java/lang/IllegalStateException") hown [] ((tableOf [(16, 20, 23, 246)])[0]) (tableOf [(16, 20, 29, 239), (16, 20, 38, 273)]) htab (fun z h => by cases h) (by decide) (by decide) (hts (.classLink RX11 246 "java/lang/IllegalStateException") (by decide +kernel)) (va_Nw.use rfl hVX.cast0) hce9 hcv9 hcl9 ?_
        have hP := va_P.kp hP hP.ge hS1
        have hDP := DP.keep hDP0 hDP0.ge hS1
        have hS := hS1
        generalize H1 = H at hP hDP hS ⊢
        have hl : lv_has ls 4 [(2, .ref a_2), (0, .ref x), (1, .int (nI y))] := hl
        refine lv_astore_n (lv' := [(3, .ref q9), (2, .ref a_2), (0, .ref x), (1, .int (nI y))]) hx hb dX11_toss_23 rfl hl (by decide) rfl (fun ls hl => ?_)
        refine lv_aload_n hx hb dX11_toss_24 rfl (lv_at hl 1 rfl) ?_
        refine ho_via (g2 := F0 m 28 ls [.int (nI (fg a_2))]) (fun K9 => ?_) ?_
        · obtain ⟨hPa, hka, hfa⟩ := hDP _ hda_2
          generalize hkk : kd a_2 = kk at hPa hka K9
          generalize hff : fg a_2 = ff at hPa hfa K9
          rcases (show kk = 0 ∨ kk = 1 ∨ kk = 2 ∨ kk = 3 ∨ kk = 4 ∨ kk = 5 ∨ kk = 6 ∨ kk = 7 by omega) with rfl | rfl | rfl | rfl | rfl | rfl | rfl | rfl
          · exact va_get (D := (dC, dI)) (ci := 2) (v := .int (nI ff)) (C := RX2) (T := TX2) (N := 2) hx hb hts (fun _ h => List.mem_cons_of_mem _ (List.mem_append_left _ (List.mem_append_left _ (List.mem_append_left _ (List.mem_append_left _ (List.mem_append_left _ (List.mem_append_left _ (List.mem_append_left _ (List.mem_append_left _ (List.mem_append_left _ (List.mem_append_left _ (List.mem_append_right _ h)))))))))))) hown hK hPa 0 rfl rfl 1 (by decide) (hts (.fieldLink RX11 98 "HoldsOnceDenied$Denier" "figure" "I") (by decide +kernel)) (fun _ h9 => h9) rfl dX11_toss_25 K9
          · exact va_get (D := (dC, dI)) (ci := 3) (v := .int (nI ff)) (C := RX3) (T := TX3) (N := 2) hx hb hts (fun _ h => List.mem_cons_of_mem _ (List.mem_append_left _ (List.mem_append_left _ (List.mem_append_left _ (List.mem_append_left _ (List.mem_append_left _ (List.mem_append_left _ (List.mem_append_left _ (List.mem_append_left _ (List.mem_append_left _ (List.mem_append_right _ h))))))))))) hown hK hPa 0 rfl rfl 1 (by decide) (hts (.fieldLink RX11 98 "HoldsOnceDenied$Denier" "figure" "I") (by decide +kernel)) (fun _ h9 => h9) rfl dX11_toss_25 K9
          · exact va_get (D := (dC, dI)) (ci := 10) (v := .int (nI ff)) (C := RX10) (T := TX10) (N := 2) hx hb hts (fun _ h => List.mem_cons_of_mem _ (List.mem_append_left _ (List.mem_append_left _ (List.mem_append_left _ (List.mem_append_left _ (List.mem_append_left _ (List.mem_append_right _ h))))))) hown hK hPa 0 rfl rfl 1 (by decide) (hts (.fieldLink RX11 98 "HoldsOnceDenied$Denier" "figure" "I") (by decide +kernel)) (fun _ h9 => h9) rfl dX11_toss_25 K9
          · exact va_get (D := (dC, dI)) (ci := 1) (v := .int (nI ff)) (C := RX1) (T := TX1) (N := 2) hx hb hts (fun _ h => List.mem_cons_of_mem _ (List.mem_append_left _ (List.mem_append_left _ (List.mem_append_left _ (List.mem_append_left _ (List.mem_append_left _ (List.mem_append_left _ (List.mem_append_left _ (List.mem_append_left _ (List.mem_append_left _ (List.mem_append_left _ (List.mem_append_left _ (List.mem_append_right _ h))))))))))))) hown hK hPa 0 rfl rfl 1 (by decide) (hts (.fieldLink RX11 98 "HoldsOnceDenied$Denier" "figure" "I") (by decide +kernel)) (fun _ h9 => h9) rfl dX11_toss_25 K9
          · exact va_get (D := (dC, dI)) (ci := 5) (v := .int (nI ff)) (C := RX5) (T := TX5) (N := 2) hx hb hts (fun _ h => List.mem_cons_of_mem _ (List.mem_append_left _ (List.mem_append_left _ (List.mem_append_left _ (List.mem_append_left _ (List.mem_append_left _ (List.mem_append_left _ (List.mem_append_left _ (List.mem_append_left _ (List.mem_append_right _ h)))))))))) hown hK hPa 0 rfl rfl 1 (by decide) (hts (.fieldLink RX11 98 "HoldsOnceDenied$Denier" "figure" "I") (by decide +kernel)) (fun _ h9 => h9) rfl dX11_toss_25 K9
          · exact va_get (D := (dC, dI)) (ci := 6) (v := .int (nI ff)) (C := RX6) (T := TX6) (N := 2) hx hb hts (fun _ h => List.mem_cons_of_mem _ (List.mem_append_left _ (List.mem_append_left _ (List.mem_append_left _ (List.mem_append_left _ (List.mem_append_left _ (List.mem_append_left _ (List.mem_append_left _ (List.mem_append_right _ h))))))))) hown hK hPa 0 rfl rfl 1 (by decide) (hts (.fieldLink RX11 98 "HoldsOnceDenied$Denier" "figure" "I") (by decide +kernel)) (fun _ h9 => h9) rfl dX11_toss_25 K9
          · exact va_get (D := (dC, dI)) (ci := 7) (v := .int (nI ff)) (C := RX7) (T := TX7) (N := 2) hx hb hts (fun _ h => List.mem_cons_of_mem _ (List.mem_append_left _ (List.mem_append_left _ (List.mem_append_left _ (List.mem_append_left _ (List.mem_append_left _ (List.mem_append_left _ (List.mem_append_right _ h)))))))) hown hK hPa 0 rfl rfl 1 (by decide) (hts (.fieldLink RX11 98 "HoldsOnceDenied$Denier" "figure" "I") (by decide +kernel)) (fun _ h9 => h9) rfl dX11_toss_25 K9
          · exact va_get (D := (dC, dI)) (ci := 0) (v := .int (nI ff)) (C := RX0) (T := TX0) (N := 2) hx hb hts (fun _ h => List.mem_cons_of_mem _ (List.mem_append_left _ (List.mem_append_left _ (List.mem_append_left _ (List.mem_append_left _ (List.mem_append_left _ (List.mem_append_left _ (List.mem_append_left _ (List.mem_append_left _ (List.mem_append_left _ (List.mem_append_left _ (List.mem_append_left _ (List.mem_append_left _ (List.mem_append_right _ h)))))))))))))) hown hK hPa 0 rfl rfl 1 (by decide) (hts (.fieldLink RX11 98 "HoldsOnceDenied$Denier" "figure" "I") (by decide +kernel)) (fun _ h9 => h9) rfl dX11_toss_25 K9
        refine vx_ret ?_
        exact W.iret (v := nI (fg a_2)) hx hb hr (fun T9 hT9 hW9 => ⟨⟨_, (), rfl, (by rw [oN_t h_y, on1_s, hv_2]; simp only [tossR, hk9, if_neg (show ¬ fg a_2 = 0 from hp9)]; first | rfl | (simp only [asN]; omega) | simp [asN]), trivial⟩, hS.F hT9⟩) hS.2.2 dX11_toss_28
      · have hS := hS1
        generalize H1 = H at hS ⊢
        refine lv_goto (tgt := 48) hx hb dX11_toss_20 (by decide) ?_
        refine lv_bipush (v := (-15)) hx hb dX11_toss_48 (by decide +kernel) ?_
        refine vx_ret ?_
        exact W.iret (v := (-15)) hx hb hr (fun T9 hT9 hW9 => ⟨⟨_, (), rfl, (by rw [oN_t h_y, on1_s, hv_2]; simp only [tossR, hk9]; first | rfl | (rw [show fg a_2 = 0 from hp9]; rfl)), trivial⟩, hS.F hT9⟩) hS.2.2 dX11_toss_50
    · rw [hk9] at hPa
      refine vx_callv (vx_runU (As := []) (rest := []) ⟨hx, hb, hml, hown, hts⟩ (c_X7_fail l hl0 dC dI cI cD cR a_2 (fg a_2) s.heap.size sa hfa) (va_cwO 0 hts gX11_toss_X7_fail_u270X7 rfl rfl rfl (b0 := cX2_fail) (m0 := 1) (r0 := none) (by decide +kernel) (by decide +kernel) ⟨Nat.le_of_ble_eq_true rfl, Nat.le_of_ble_eq_true rfl⟩) (preV_X hCX hVX (va_recv hK hPa (ci := 7) (q0 := 0) rfl rfl) ⟨rfl, hPa⟩) rfl rfl hl.1 rfl (lv_room (Nat.le_of_ble_eq_true rfl)) dX11_toss_17 ⟨Nat.le_of_ble_eq_true rfl, Nat.le_of_ble_eq_true rfl⟩) hS (fun q _ h => h) (fun q h => h) (fun q _ h => h) (fun E9 ce9 q9 u9 t9 H1 locs1 ht9 hal9 hp9 hB9 hz9 hk1 hS1 hce9 hcv9 hcl9 => ?_) (fun u9 t9 H1 locs1 ht9 hal9 hp9 hB9 hz9 hk1 hS1 => ?_)
      · have hB9 : E9 = "java/lang/UnsupportedOperationException" := hB9
        subst hB9
        refine vx_catch (name := "java/lang/UnsupportedOperationException") hown (tableOf [(16, 20, 23, 246), (16, 20, 29, 239)]) ((tableOf [(16, 20, 38, 273)])[0]) (tableOf []) htab (fun z h => Or.inr (by rcases List.mem_cons.mp h with rfl | h; exact ⟨by decide, _, (hts (.classLink RX11 246 "java/lang/IllegalStateException") (by decide +kernel)), hVX.nc1⟩; rcases List.mem_singleton.mp h with rfl; exact ⟨by decide, _, (hts (.classLink RX11 239 "java/lang/IllegalArgumentException") (by decide +kernel)), hVX.nc2⟩)) (by decide) (by decide) (hts (.classLink RX11 273 "java/lang/UnsupportedOperationException") (by decide +kernel)) (va_Nw.use rfl hVX.cast2) hce9 hcv9 hcl9 ?_
        have hP := va_P.kp hP hP.ge hS1
        have hDP := DP.keep hDP0 hDP0.ge hS1
        have hS := hS1
        generalize H1 = H at hP hDP hS ⊢
        have hl : lv_has ls 4 [(2, .ref a_2), (0, .ref x), (1, .int (nI y))] := hl
        refine lv_astore_n (lv' := [(3, .ref q9), (2, .ref a_2), (0, .ref x), (1, .int (nI y))]) hx hb dX11_toss_38 rfl hl (by decide) rfl (fun ls hl => ?_)
        refine lv_sipush (v := nI 200) hx hb dX11_toss_39 (by decide +kernel) ?_
        refine lv_aload_n hx hb dX11_toss_42 rfl (lv_at hl 1 rfl) ?_
        refine ho_via (g2 := F0 m 46 ls [.int (nI (asN (kd a_2) (fg a_2))), .int (nI 200)]) (fun K9 => ?_) ?_
        · obtain ⟨hPa, hka, hfa⟩ := hDP _ hda_2
          generalize hkk : kd a_2 = kk at hPa hka K9
          generalize hff : fg a_2 = ff at hPa hfa K9
          rcases (show kk = 0 ∨ kk = 1 ∨ kk = 2 ∨ kk = 3 ∨ kk = 4 ∨ kk = 5 ∨ kk = 6 ∨ kk = 7 by omega) with rfl | rfl | rfl | rfl | rfl | rfl | rfl | rfl
          · refine vp_callSi ((va_runV (As := []) (rest := [.int (nI 200)]) ⟨hx, hb, hml, hown, hts⟩ (c_X2_asks l dC dI cI cD cR a_2) (cwV 0 hts gX11_toss_X2_asks rfl rfl rfl (by decide +kernel) ⟨Nat.le_of_ble_eq_true rfl, Nat.le_of_ble_eq_true rfl⟩) (preV_R hCX (va_recv hK hPa (ci := 2) (q0 := 0) rfl rfl) (trivial)) rfl rfl hl.1 rfl (lv_room (Nat.le_of_ble_eq_true rfl)) dX11_toss_43 ⟨by first | decide | exact Nat.le_of_ble_eq_true rfl | omega, by first | decide | exact Nat.le_of_ble_eq_true rfl | omega⟩).run) (fun r9 hr9 => ?_)
            subst hr9
            exact K9
          · refine vp_callSi ((va_runU (As := []) (rest := [.int (nI 200)]) ⟨hx, hb, hml, hown, hts⟩ (c_X3_asks_k1 l dC dI cI cD cR a_2 ff) (va_cwO 0 hts gX11_toss_X3_asks_u107X3 rfl rfl rfl (b0 := cX2_asks) (m0 := 1) (r0 := (some .int)) (by decide +kernel) (by decide +kernel) ⟨Nat.le_of_ble_eq_true rfl, Nat.le_of_ble_eq_true rfl⟩) (preV_R hCX (va_recv hK hPa (ci := 3) (q0 := 0) rfl rfl) (hPa)) rfl rfl hl.1 rfl (lv_room (Nat.le_of_ble_eq_true rfl)) dX11_toss_43 ⟨by first | decide | exact Nat.le_of_ble_eq_true rfl | omega, by first | decide | exact Nat.le_of_ble_eq_true rfl | omega⟩).run) (fun r9 hr9 => ?_)
            subst hr9
            exact K9
          · refine vp_callSi ((va_runU (As := []) (rest := [.int (nI 200)]) ⟨hx, hb, hml, hown, hts⟩ (c_X10_asks_k2 l dC dI cI cD cR a_2 ff) (va_cwO 0 hts gX11_toss_X10_asks_u107X10 rfl rfl rfl (b0 := cX2_asks) (m0 := 1) (r0 := (some .int)) (by decide +kernel) (by decide +kernel) ⟨Nat.le_of_ble_eq_true rfl, Nat.le_of_ble_eq_true rfl⟩) (preV_R hCX (va_recv hK hPa (ci := 10) (q0 := 0) rfl rfl) (hPa)) rfl rfl hl.1 rfl (lv_room (Nat.le_of_ble_eq_true rfl)) dX11_toss_43 ⟨by first | decide | exact Nat.le_of_ble_eq_true rfl | omega, by first | decide | exact Nat.le_of_ble_eq_true rfl | omega⟩).run) (fun r9 hr9 => ?_)
            subst hr9
            exact K9
          · refine vp_callSi ((va_runU (As := []) (rest := [.int (nI 200)]) ⟨hx, hb, hml, hown, hts⟩ (c_X1_asks l dC dI cI cD cR a_2 ff) (va_cwO 0 hts gX11_toss_X1_asks_u107X1 rfl rfl rfl (b0 := cX2_asks) (m0 := 1) (r0 := (some .int)) (by decide +kernel) (by decide +kernel) ⟨Nat.le_of_ble_eq_true rfl, Nat.le_of_ble_eq_true rfl⟩) (preV_R hCX (va_recv hK hPa (ci := 1) (q0 := 0) rfl rfl) (hPa)) rfl rfl hl.1 rfl (lv_room (Nat.le_of_ble_eq_true rfl)) dX11_toss_43 ⟨by first | decide | exact Nat.le_of_ble_eq_true rfl | omega, by first | decide | exact Nat.le_of_ble_eq_true rfl | omega⟩).run) (fun r9 hr9 => ?_)
            subst hr9
            exact K9
          · refine vp_callSi ((va_runU (As := []) (rest := [.int (nI 200)]) ⟨hx, hb, hml, hown, hts⟩ (c_X5_asks_k4 l dC dI cI cD cR a_2 ff) (va_cwO 0 hts gX11_toss_X5_asks_u107X5 rfl rfl rfl (b0 := cX2_asks) (m0 := 1) (r0 := (some .int)) (by decide +kernel) (by decide +kernel) ⟨Nat.le_of_ble_eq_true rfl, Nat.le_of_ble_eq_true rfl⟩) (preV_R hCX (va_recv hK hPa (ci := 5) (q0 := 0) rfl rfl) (hPa)) rfl rfl hl.1 rfl (lv_room (Nat.le_of_ble_eq_true rfl)) dX11_toss_43 ⟨by first | decide | exact Nat.le_of_ble_eq_true rfl | omega, by first | decide | exact Nat.le_of_ble_eq_true rfl | omega⟩).run) (fun r9 hr9 => ?_)
            subst hr9
            exact K9
          · refine vp_callSi ((va_runU (As := []) (rest := [.int (nI 200)]) ⟨hx, hb, hml, hown, hts⟩ (c_X6_asks l dC dI cI cD cR a_2 ff) (va_cwO 0 hts gX11_toss_X6_asks_u107X6 rfl rfl rfl (b0 := cX2_asks) (m0 := 1) (r0 := (some .int)) (by decide +kernel) (by decide +kernel) ⟨Nat.le_of_ble_eq_true rfl, Nat.le_of_ble_eq_true rfl⟩) (preV_R hCX (va_recv hK hPa (ci := 6) (q0 := 0) rfl rfl) (hPa)) rfl rfl hl.1 rfl (lv_room (Nat.le_of_ble_eq_true rfl)) dX11_toss_43 ⟨by first | decide | exact Nat.le_of_ble_eq_true rfl | omega, by first | decide | exact Nat.le_of_ble_eq_true rfl | omega⟩).run) (fun r9 hr9 => ?_)
            subst hr9
            exact K9
          · refine vp_callSi ((va_runU (As := []) (rest := [.int (nI 200)]) ⟨hx, hb, hml, hown, hts⟩ (c_X7_asks l dC dI cI cD cR a_2 ff) (va_cwO 0 hts gX11_toss_X7_asks_u107X7 rfl rfl rfl (b0 := cX2_asks) (m0 := 1) (r0 := (some .int)) (by decide +kernel) (by decide +kernel) ⟨Nat.le_of_ble_eq_true rfl, Nat.le_of_ble_eq_true rfl⟩) (preV_R hCX (va_recv hK hPa (ci := 7) (q0 := 0) rfl rfl) (hPa)) rfl rfl hl.1 rfl (lv_room (Nat.le_of_ble_eq_true rfl)) dX11_toss_43 ⟨by first | decide | exact Nat.le_of_ble_eq_true rfl | omega, by first | decide | exact Nat.le_of_ble_eq_true rfl | omega⟩).run) (fun r9 hr9 => ?_)
            subst hr9
            exact K9
          · refine vp_callSi ((va_runU (As := []) (rest := [.int (nI 200)]) ⟨hx, hb, hml, hown, hts⟩ (c_X0_asks l dC dI cI cD cR a_2 ff (by first | omega | assumption | exact gnd _ | exact gkn _ | exact Nat.lt_trans (gkn _) (by decide) | exact Nat.lt_trans (gnd _) (by decide) | exact Nat.lt_of_le_of_lt (pcN_le _) (by decide))) (va_cwO 0 hts gX11_toss_X0_asks_u107X0 rfl rfl rfl (b0 := cX2_asks) (m0 := 1) (r0 := (some .int)) (by decide +kernel) (by decide +kernel) ⟨Nat.le_of_ble_eq_true rfl, Nat.le_of_ble_eq_true rfl⟩) (preV_R hCX (va_recv hK hPa (ci := 0) (q0 := 0) rfl rfl) (hPa)) rfl rfl hl.1 rfl (lv_room (Nat.le_of_ble_eq_true rfl)) dX11_toss_43 ⟨by first | decide | exact Nat.le_of_ble_eq_true rfl | omega, by first | decide | exact Nat.le_of_ble_eq_true rfl | omega⟩).run) (fun r9 hr9 => ?_)
            subst hr9
            exact K9
        refine ho_iadd hx hb dX11_toss_46 ?_
        refine vx_ret ?_
        exact W.iret (v := nI (200 + (asN (kd a_2) (fg a_2)))) hx hb hr (fun T9 hT9 hW9 => ⟨⟨_, (), rfl, (by rw [oN_t h_y, on1_s, hv_2]; simp only [tossR, hk9, if_neg (show ¬ fg a_2 = 0 from hp9)]; first | rfl | (simp only [asN]; omega) | simp [asN]), trivial⟩, hS.F hT9⟩) hS.2.2 dX11_toss_47
      · have hS := hS1
        generalize H1 = H at hS ⊢
        refine lv_goto (tgt := 48) hx hb dX11_toss_20 (by decide) ?_
        refine lv_bipush (v := (-15)) hx hb dX11_toss_48 (by decide +kernel) ?_
        refine vx_ret ?_
        exact W.iret (v := (-15)) hx hb hr (fun T9 hT9 hW9 => ⟨⟨_, (), rfl, (by rw [oN_t h_y, on1_s, hv_2]; simp only [tossR, hk9]; first | rfl | (rw [show fg a_2 = 0 from hp9]; rfl)), trivial⟩, hS.F hT9⟩) hS.2.2 dX11_toss_50
    · rw [hk9] at hPa
      refine vx_callv (vx_runU (As := []) (rest := []) ⟨hx, hb, hml, hown, hts⟩ (c_X2_fail_k7 l hl0 dC dI cI cD cR a_2 (fg a_2) s.heap.size sa hfa) (va_cwU 0 hts gX11_toss_X2_fail_u270X0 rfl rfl rfl rfl (by decide +kernel) ⟨Nat.le_of_ble_eq_true rfl, Nat.le_of_ble_eq_true rfl⟩) (preV_X hCX hVX (va_recv hK hPa (ci := 0) (q0 := 0) rfl rfl) ⟨rfl, hPa⟩) rfl rfl hl.1 rfl (lv_room (Nat.le_of_ble_eq_true rfl)) dX11_toss_17 ⟨Nat.le_of_ble_eq_true rfl, Nat.le_of_ble_eq_true rfl⟩) hS (fun q _ h => h) (fun q h => h) (fun q _ h => h) (fun E9 ce9 q9 u9 t9 H1 locs1 ht9 hal9 hp9 hB9 hz9 hk1 hS1 hce9 hcv9 hcl9 => ?_) (fun u9 t9 H1 locs1 ht9 hal9 hp9 hB9 hz9 hk1 hS1 => ?_)
      · have hB9 : E9 = "java/lang/IllegalStateException" := hB9
        subst hB9
        refine vx_catch (name := "java/lang/IllegalStateException") hown [] ((tableOf [(16, 20, 23, 246)])[0]) (tableOf [(16, 20, 29, 239), (16, 20, 38, 273)]) htab (fun z h => by cases h) (by decide) (by decide) (hts (.classLink RX11 246 "java/lang/IllegalStateException") (by decide +kernel)) (va_Nw.use rfl hVX.cast0) hce9 hcv9 hcl9 ?_
        have hP := va_P.kp hP hP.ge hS1
        have hDP := DP.keep hDP0 hDP0.ge hS1
        have hS := hS1
        generalize H1 = H at hP hDP hS ⊢
        have hl : lv_has ls 4 [(2, .ref a_2), (0, .ref x), (1, .int (nI y))] := hl
        refine lv_astore_n (lv' := [(3, .ref q9), (2, .ref a_2), (0, .ref x), (1, .int (nI y))]) hx hb dX11_toss_23 rfl hl (by decide) rfl (fun ls hl => ?_)
        refine lv_aload_n hx hb dX11_toss_24 rfl (lv_at hl 1 rfl) ?_
        refine ho_via (g2 := F0 m 28 ls [.int (nI (fg a_2))]) (fun K9 => ?_) ?_
        · obtain ⟨hPa, hka, hfa⟩ := hDP _ hda_2
          generalize hkk : kd a_2 = kk at hPa hka K9
          generalize hff : fg a_2 = ff at hPa hfa K9
          rcases (show kk = 0 ∨ kk = 1 ∨ kk = 2 ∨ kk = 3 ∨ kk = 4 ∨ kk = 5 ∨ kk = 6 ∨ kk = 7 by omega) with rfl | rfl | rfl | rfl | rfl | rfl | rfl | rfl
          · exact va_get (D := (dC, dI)) (ci := 2) (v := .int (nI ff)) (C := RX2) (T := TX2) (N := 2) hx hb hts (fun _ h => List.mem_cons_of_mem _ (List.mem_append_left _ (List.mem_append_left _ (List.mem_append_left _ (List.mem_append_left _ (List.mem_append_left _ (List.mem_append_left _ (List.mem_append_left _ (List.mem_append_left _ (List.mem_append_left _ (List.mem_append_left _ (List.mem_append_right _ h)))))))))))) hown hK hPa 0 rfl rfl 1 (by decide) (hts (.fieldLink RX11 98 "HoldsOnceDenied$Denier" "figure" "I") (by decide +kernel)) (fun _ h9 => h9) rfl dX11_toss_25 K9
          · exact va_get (D := (dC, dI)) (ci := 3) (v := .int (nI ff)) (C := RX3) (T := TX3) (N := 2) hx hb hts (fun _ h => List.mem_cons_of_mem _ (List.mem_append_left _ (List.mem_append_left _ (List.mem_append_left _ (List.mem_append_left _ (List.mem_append_left _ (List.mem_append_left _ (List.mem_append_left _ (List.mem_append_left _ (List.mem_append_left _ (List.mem_append_right _ h))))))))))) hown hK hPa 0 rfl rfl 1 (by decide) (hts (.fieldLink RX11 98 "HoldsOnceDenied$Denier" "figure" "I") (by decide +kernel)) (fun _ h9 => h9) rfl dX11_toss_25 K9
          · exact va_get (D := (dC, dI)) (ci := 10) (v := .int (nI ff)) (C := RX10) (T := TX10) (N := 2) hx hb hts (fun _ h => List.mem_cons_of_mem _ (List.mem_append_left _ (List.mem_append_left _ (List.mem_append_left _ (List.mem_append_left _ (List.mem_append_left _ (List.mem_append_right _ h))))))) hown hK hPa 0 rfl rfl 1 (by decide) (hts (.fieldLink RX11 98 "HoldsOnceDenied$Denier" "figure" "I") (by decide +kernel)) (fun _ h9 => h9) rfl dX11_toss_25 K9
          · exact va_get (D := (dC, dI)) (ci := 1) (v := .int (nI ff)) (C := RX1) (T := TX1) (N := 2) hx hb hts (fun _ h => List.mem_cons_of_mem _ (List.mem_append_left _ (List.mem_append_left _ (List.mem_append_left _ (List.mem_append_left _ (List.mem_append_left _ (List.mem_append_left _ (List.mem_append_left _ (List.mem_append_left _ (List.mem_append_left _ (List.mem_append_left _ (List.mem_append_left _ (List.mem_append_right _ h))))))))))))) hown hK hPa 0 rfl rfl 1 (by decide) (hts (.fieldLink RX11 98 "HoldsOnceDenied$Denier" "figure" "I") (by decide +kernel)) (fun _ h9 => h9) rfl dX11_toss_25 K9
          · exact va_get (D := (dC, dI)) (ci := 5) (v := .int (nI ff)) (C := RX5) (T := TX5) (N := 2) hx hb hts (fun _ h => List.mem_cons_of_mem _ (List.mem_append_left _ (List.mem_append_left _ (List.mem_append_left _ (List.mem_append_left _ (List.mem_append_left _ (List.mem_append_left _ (List.mem_append_left _ (List.mem_append_left _ (List.mem_append_right _ h)))))))))) hown hK hPa 0 rfl rfl 1 (by decide) (hts (.fieldLink RX11 98 "HoldsOnceDenied$Denier" "figure" "I") (by decide +kernel)) (fun _ h9 => h9) rfl dX11_toss_25 K9
          · exact va_get (D := (dC, dI)) (ci := 6) (v := .int (nI ff)) (C := RX6) (T := TX6) (N := 2) hx hb hts (fun _ h => List.mem_cons_of_mem _ (List.mem_append_left _ (List.mem_append_left _ (List.mem_append_left _ (List.mem_append_left _ (List.mem_append_left _ (List.mem_append_left _ (List.mem_append_left _ (List.mem_append_right _ h))))))))) hown hK hPa 0 rfl rfl 1 (by decide) (hts (.fieldLink RX11 98 "HoldsOnceDenied$Denier" "figure" "I") (by decide +kernel)) (fun _ h9 => h9) rfl dX11_toss_25 K9
          · exact va_get (D := (dC, dI)) (ci := 7) (v := .int (nI ff)) (C := RX7) (T := TX7) (N := 2) hx hb hts (fun _ h => List.mem_cons_of_mem _ (List.mem_append_left _ (List.mem_append_left _ (List.mem_append_left _ (List.mem_append_left _ (List.mem_append_left _ (List.mem_append_left _ (List.mem_append_right _ h)))))))) hown hK hPa 0 rfl rfl 1 (by decide) (hts (.fieldLink RX11 98 "HoldsOnceDenied$Denier" "figure" "I") (by decide +kernel)) (fun _ h9 => h9) rfl dX11_toss_25 K9
          · exact va_get (D := (dC, dI)) (ci := 0) (v := .int (nI ff)) (C := RX0) (T := TX0) (N := 2) hx hb hts (fun _ h => List.mem_cons_of_mem _ (List.mem_append_left _ (List.mem_append_left _ (List.mem_append_left _ (List.mem_append_left _ (List.mem_append_left _ (List.mem_append_left _ (List.mem_append_left _ (List.mem_append_left _ (List.mem_append_left _ (List.mem_append_left _ (List.mem_append_left _ (List.mem_append_left _ (List.mem_append_right _ h)))))))))))))) hown hK hPa 0 rfl rfl 1 (by decide) (hts (.fieldLink RX11 98 "HoldsOnceDenied$Denier" "figure" "I") (by decide +kernel)) (fun _ h9 => h9) rfl dX11_toss_25 K9
        refine vx_ret ?_
        exact W.iret (v := nI (fg a_2)) hx hb hr (fun T9 hT9 hW9 => ⟨⟨_, (), rfl, (by rw [oN_t h_y, on1_s, hv_2]; simp only [tossR, hk9, if_neg (show ¬ fg a_2 = 0 from hp9)]; first | rfl | (simp only [asN]; omega) | simp [asN]), trivial⟩, hS.F hT9⟩) hS.2.2 dX11_toss_28
      · have hS := hS1
        generalize H1 = H at hS ⊢
        refine lv_goto (tgt := 48) hx hb dX11_toss_20 (by decide) ?_
        refine lv_bipush (v := (-15)) hx hb dX11_toss_48 (by decide +kernel) ?_
        refine vx_ret ?_
        exact W.iret (v := (-15)) hx hb hr (fun T9 hT9 hW9 => ⟨⟨_, (), rfl, (by rw [oN_t h_y, on1_s, hv_2]; simp only [tossR, hk9]; first | rfl | (rw [show fg a_2 = 0 from hp9]; rfl)), trivial⟩, hS.F hT9⟩) hS.2.2 dX11_toss_50
