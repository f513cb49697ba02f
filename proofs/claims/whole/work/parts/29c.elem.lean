set_option maxHeartbeats 4000000 in
set_option maxRecDepth 100000 in
theorem c_X11_element (l : Launch) (hl0 : l.stackTraces = false) (dC : Nat → ClassId) (dI : Nat → Nat → Nat) (cI cD cR : ClassId) (x sN sM sP : Nat) (pt : Bool) (fo da ra : Nat) (rm : Nat → Option Nat) (x9 i9 : Int32) (RL : List Nat) (rc rs rz : Nat → Nat) (rf : Nat → Nat → Int32) (sz : Nat) (sa : Nat → Nat) (grm : ∀ y r, rm y = some r → r ∈ RL) : vx_Met l yX11_element wsX11_element ({ frames := 8, cells := 1, slots := 6, locals := 160 }) (pcX dC dI cI cD cR [.ref x, .int x9, .int i9] (fun H => H.size = sz ∧ va_P (dC, dI) vwCl ([(x, .inr (11, [.ref sN, .ref sM, .ref sP, .int (bI pt), .ref fo, .ref da, .ref ra]))] ++ [(ra, .inl (cR, 8, .inr (.inr (.inr (.inr rm)))))]) H ∧ RP dC dI cI RL rc rs rz rf H) sa (fun q => sz ≤ q)) (va_Ql (fun v9 (_ : Unit) => ∃ y r0, x9 = nI y ∧ y < 8 ∧ rm y = some r0 ∧ okI i9 (rz r0) = true ∧ v9 = (rf r0 (nT i9)).toInt64) (fun _ _ => True) (fun q => sz ≤ q)) (vx_X (fun (_ : Unit) => True) (fun E _ _ => (E = "java/lang/IllegalArgumentException" ∧ okI x9 8 = false) ∨ (E = "java/lang/IllegalStateException" ∧ ∃ y, x9 = nI y ∧ y < 8 ∧ ∀ r0, rm y = some r0 → okI i9 (rz r0) = false)) (fun q => sz ≤ q)) 1 6 (fun q => sz ≤ q) := by
  refine vx_ofW (cc := cX11_element) (maxL := 4) (ret := (some .long)) (by decide) rfl ?_
  intro p e s m args below meth c s₁ B hml hno hv
  obtain ⟨rfl, ⟨hsz, hP, hRP⟩, hCX, hVX⟩ := hv
  subst hsz
  have hx := B.exec
  have hb := B.bytes
  have hr := B.returns
  have hts := atoms_spec (ws := wsX11_element) B.pre
  have hlocks := B.notSynchronized
  have hK := hCX.1
  have hown : s.vm.findClass RX11 = some m.cls := findClass_of_methodNamed B.named
  have hS : va_S (fun q => s.heap.size ≤ q) s.heap s.heap [] := va_S.rf
  have hl := lv_entry ([.ref x, .int x9, .int i9]) (n := 4) (Nat.le_of_ble_eq_true rfl)
  rw [lg_entry_eq]
  generalize (lg_sl ([.ref x, .int x9, .int i9]) ++ List.replicate (4 - (lg_sl ([.ref x, .int x9, .int i9])).length) Slot.unset).toArray = ls at hl ⊢
  have hl : lv_has ls 4 [(0, .ref x), (1, .int x9), (2, .int i9)] := hl
  rcases okI_or x9 (n := 8) (by omega) with hb_x9 | ⟨y, h_y, rfl⟩
  · refine lv_iload_n hx hb dX11_element_0 rfl (lv_at hl 1 rfl) ?_
    refine vp_callSi ((va_runS (As := [.int x9]) (rest := []) ⟨hx, hb, hml, hown, hts⟩ (c_X11_isShelf_f l dC dI cI cD cR x9 (by first | omega | assumption | exact gnd _ | exact gkn _ | exact Nat.lt_trans (gkn _) (by decide) | exact Nat.lt_trans (gnd _) (by decide) | exact Nat.lt_of_le_of_lt (pcN_le _) (by decide))) (va_cwS 1 hts gX11_element_X11_isShelf rfl rfl rfl (by decide +kernel) ⟨Nat.le_of_ble_eq_true rfl, Nat.le_of_ble_eq_true rfl⟩) (preS_R hCX (trivial)) rfl rfl hl.1 rfl (lv_room (Nat.le_of_ble_eq_true rfl)) dX11_element_1 ⟨Nat.le_of_ble_eq_true (by first | rfl | decide), Nat.le_of_ble_eq_true (by first | rfl | decide)⟩).run) (fun r_1 hr_1 => ?_)
    subst hr_1
    refine lv_if_ne (tgt := 17) hx hb dX11_element_4 (by decide) (fun z => absurd z (by decide +kernel)) (fun _ => ?_)
    refine vx_throwS (cls := "java/lang/IllegalArgumentException") (text := "no such shelf") (names := ["java/lang/RuntimeException", "java/lang/Exception"]) (ik := 239) (is := 241) (ic := 243) (sa := sa 4) (A := fun q => s.heap.size ≤ q) hx hb hl0 hown (by decide +kernel) (by decide +kernel) (hts (.classLink RX11 239 "java/lang/IllegalArgumentException") (by decide +kernel)) (hts (.initialized "java/lang/IllegalArgumentException") (by decide +kernel)) (hVX.str4) ?_ (by decide +kernel) hVX.1 hVX.2.1 hS (hl.1.trans hml.symm) dX11_element_7 dX11_element_10 dX11_element_11 dX11_element_13 dX11_element_16 (fun z h => (hno z h).elim) (Nat.le_of_ble_eq_true rfl) (Nat.le_of_ble_eq_true rfl) (Nat.le_of_ble_eq_true rfl) (Nat.le_of_ble_eq_true rfl) hlocks (fun t h1 h2 h3 => ⟨(), trivial, Or.inl ⟨rfl, hb_x9⟩, h2, fun q h4 _ => h3 q h4⟩) (fun z h => by cases h) (Nat.le_refl _) (Nat.le_refl _)
    exact vx_hat (fun w h => hts w (List.mem_cons_of_mem _ (List.mem_append_left _ (List.mem_append_right _ h)))) (B := [.castable "java/lang/IllegalArgumentException" "java/lang/IllegalArgumentException", .declares ⟨"java/lang/RuntimeException", "<init>", "(Ljava/lang/String;)V"⟩, .declares ⟨"java/lang/Exception", "<init>", "(Ljava/lang/String;)V"⟩, .declares ⟨"java/lang/Throwable", "<init>", "(Ljava/lang/String;)V"⟩] ) (by decide +kernel) (vx_c (va_Nw.use rfl hVX.cast1) (vx_c (va_Nw.use rfl hVX.dec0) (vx_c (va_Nw.use rfl hVX.dec1) (vx_c (va_Nw.use rfl hVX.dec2) vx_n))))
  refine lv_iload_n hx hb dX11_element_0 rfl (lv_at hl 1 rfl) ?_
  refine vp_callSi ((va_runS (As := [.int (nI y)]) (rest := []) ⟨hx, hb, hml, hown, hts⟩ (c_X11_isShelf_t l dC dI cI cD cR y (by first | omega | assumption | exact gnd _ | exact gkn _ | exact Nat.lt_trans (gkn _) (by decide) | exact Nat.lt_trans (gnd _) (by decide) | exact Nat.lt_of_le_of_lt (pcN_le _) (by decide))) (va_cwS 1 hts gX11_element_X11_isShelf rfl rfl rfl (by decide +kernel) ⟨Nat.le_of_ble_eq_true rfl, Nat.le_of_ble_eq_true rfl⟩) (preS_R hCX (trivial)) rfl rfl hl.1 rfl (lv_room (Nat.le_of_ble_eq_true rfl)) dX11_element_1 ⟨Nat.le_of_ble_eq_true (by first | rfl | decide), Nat.le_of_ble_eq_true (by first | rfl | decide)⟩).run) (fun r_1 hr_1 => ?_)
  subst hr_1
  refine lv_if_ne (tgt := 17) hx hb dX11_element_4 (by decide) (fun _ => ?_) (fun z => absurd z (by decide +kernel))
  refine lv_aload_n hx hb dX11_element_17 rfl (lv_at hl 0 rfl) ?_
  refine lv_iload_n hx hb dX11_element_18 rfl (lv_at hl 1 rfl) ?_
  refine va_csq ((va_runV (As := [.int (nI y)]) (rest := []) ⟨hx, hb, hml, hown, hts⟩ (c_X11_rowAt_t l dC dI cI cD cR x sN sM sP pt fo da ra rm y (by first | omega | assumption | exact gnd _ | exact gkn _ | exact Nat.lt_trans (gkn _) (by decide) | exact Nat.lt_trans (gnd _) (by decide) | exact Nat.lt_of_le_of_lt (pcN_le _) (by decide))) (cwV 1 hts gX11_element_X11_rowAt rfl rfl rfl (by decide +kernel) ⟨Nat.le_of_ble_eq_true rfl, Nat.le_of_ble_eq_true rfl⟩) (preV_R hCX (va_recv hK hP (ci := 11) (q0 := 0) rfl rfl) (hP)) rfl rfl hl.1 rfl (lv_room (Nat.le_of_ble_eq_true rfl)) dX11_element_19 ⟨Nat.le_of_ble_eq_true (by first | rfl | decide), Nat.le_of_ble_eq_true (by first | rfl | decide)⟩).run) (fun r_19 hr_19 => ?_)
  subst hr_19
  cases hv_19 : rm y with
  | none =>
    refine ho_topr (y := .null) rfl ?_
    refine lv_astore_nN (lv' := [(3, .null), (0, .ref x), (1, .int (nI y)), (2, .int i9)]) hx hb dX11_element_22 rfl hl (by decide) rfl (fun ls hl => ?_)
    refine lv_aload_nN hx hb dX11_element_23 rfl (lv_at hl 0 rfl) ?_
    refine lv_ifnullN (tgt := 35) hx hb dX11_element_24 (by decide) ?_
    refine vx_throwS (cls := "java/lang/IllegalStateException") (text := "no such place of a row") (names := ["java/lang/RuntimeException", "java/lang/Exception"]) (ik := 246) (is := 248) (ic := 250) (sa := sa 5) (A := fun q => s.heap.size ≤ q) hx hb hl0 hown (by decide +kernel) (by decide +kernel) (hts (.classLink RX11 246 "java/lang/IllegalStateException") (by decide +kernel)) (hts (.initialized "java/lang/IllegalStateException") (by decide +kernel)) (hVX.str5) ?_ (by decide +kernel) hVX.1 hVX.2.1 hS (hl.1.trans hml.symm) dX11_element_35 dX11_element_38 dX11_element_39 dX11_element_41 dX11_element_44 (fun z h => (hno z h).elim) (Nat.le_of_ble_eq_true rfl) (Nat.le_of_ble_eq_true rfl) (Nat.le_of_ble_eq_true rfl) (Nat.le_of_ble_eq_true rfl) hlocks (fun t h1 h2 h3 => ⟨(), trivial, Or.inr ⟨rfl, y, rfl, h_y, fun r0 hr0 => by rw [hv_19] at hr0; cases hr0⟩, h2, fun q h4 _ => h3 q h4⟩) (fun z h => by cases h) (Nat.le_refl _) (Nat.le_refl _)
    exact vx_hat (fun w h => hts w (List.mem_cons_of_mem _ (List.mem_append_right _ h))) (B := [.castable "java/lang/IllegalStateException" "java/lang/IllegalStateException", .declares ⟨"java/lang/RuntimeException", "<init>", "(Ljava/lang/String;)V"⟩, .declares ⟨"java/lang/Exception", "<init>", "(Ljava/lang/String;)V"⟩, .declares ⟨"java/lang/Throwable", "<init>", "(Ljava/lang/String;)V"⟩] ) (by decide +kernel) (vx_c (va_Nw.use rfl hVX.cast0) (vx_c (va_Nw.use rfl hVX.dec0) (vx_c (va_Nw.use rfl hVX.dec1) (vx_c (va_Nw.use rfl hVX.dec2) vx_n))))
  | some a_19 =>
    refine ho_topr (y := .ref a_19) rfl ?_
    have hra_19 : a_19 ∈ RL := grm _ _ hv_19
    have hso_19 : rs a_19 < 3 := (hRP _ hra_19).2.1
    have hzz_19 : rz a_19 ≤ 100 := (hRP _ hra_19).2.2
    refine lv_astore_n (lv' := [(3, .ref a_19), (0, .ref x), (1, .int (nI y)), (2, .int i9)]) hx hb dX11_element_22 rfl hl (by decide) rfl (fun ls hl => ?_)
    refine lv_aload_n hx hb dX11_element_23 rfl (lv_at hl 0 rfl) ?_
    refine lv_ifnull hx hb dX11_element_24 ?_
    refine lv_aload_n hx hb dX11_element_27 rfl (lv_at hl 0 rfl) ?_
    refine lv_iload_n hx hb dX11_element_28 rfl (lv_at hl 3 rfl) ?_
    refine vp_callSi ((va_runV (As := [.int i9]) (rest := []) ⟨hx, hb, hml, hown, hts⟩ (c_X8_hasPlace l dC dI cI cD cR a_19 (rc a_19) (rs a_19) (rz a_19) (rf a_19) i9 (by first | omega | assumption) (by first | omega | assumption)) (cwV 1 hts gX11_element_X8_hasPlace rfl rfl rfl (by decide +kernel) ⟨Nat.le_of_ble_eq_true rfl, Nat.le_of_ble_eq_true rfl⟩) (preV_R hCX (va_recv hK ((hRP _ hra_19).1) (ci := 8) (q0 := 0) rfl rfl) ((hRP _ hra_19).1)) rfl rfl hl.1 rfl (lv_room (Nat.le_of_ble_eq_true rfl)) dX11_element_29 ⟨Nat.le_of_ble_eq_true (by first | rfl | decide), Nat.le_of_ble_eq_true (by first | rfl | decide)⟩).run) (fun r_29 hr_29 => ?_)
    subst hr_29
    refine ho_bne (tgt := 45) hx hb dX11_element_32 (by decide) (fun c_32 => ?_) (fun c_32 => ?_)
    · obtain ⟨j, hj9, rfl⟩ := okI_ex (by omega) c_32
      refine lv_aload_n hx hb dX11_element_45 rfl (lv_at hl 0 rfl) ?_
      refine lv_iload_n hx hb dX11_element_46 rfl (lv_at hl 3 rfl) ?_
      refine vp_callSi ((va_runV (As := [.int (nI j)]) (rest := []) ⟨hx, hb, hml, hown, hts⟩ (c_X8_at l dC dI cI cD cR a_19 (rc a_19) (rs a_19) (rz a_19) (rf a_19) j (by first | omega | assumption) (by first | omega | assumption) (by first | omega | assumption)) (cwV 1 hts gX11_element_X8_at rfl rfl rfl (by decide +kernel) ⟨Nat.le_of_ble_eq_true rfl, Nat.le_of_ble_eq_true rfl⟩) (preV_R hCX (va_recv hK ((hRP _ hra_19).1) (ci := 8) (q0 := 0) rfl rfl) ((hRP _ hra_19).1)) rfl rfl hl.1 rfl (lv_room (Nat.le_of_ble_eq_true rfl)) dX11_element_47 ⟨Nat.le_of_ble_eq_true (by first | rfl | decide), Nat.le_of_ble_eq_true (by first | rfl | decide)⟩).run) (fun r_47 hr_47 => ?_)
      subst hr_47
      refine lv_i2l (v := ((atR (rz a_19) (rf a_19) j)).toInt64) hx hb dX11_element_50 rfl ?_
      refine vx_ret (W.widen (k := 1) (n := 6) (by decide) (by decide) ?_)
      exact W.lret hx hb hr (fun T9 hT9 hW9 => ⟨⟨_, (), rfl, (by exact ⟨y, a_19, rfl, h_y, hv_19, c_32, by rw [nT_nI (by omega)]; simp [atR, hj9]⟩), trivial⟩, hS.F hT9⟩) hS.2.2 dX11_element_51
    refine vx_throwS (cls := "java/lang/IllegalStateException") (text := "no such place of a row") (names := ["java/lang/RuntimeException", "java/lang/Exception"]) (ik := 246) (is := 248) (ic := 250) (sa := sa 5) (A := fun q => s.heap.size ≤ q) hx hb hl0 hown (by decide +kernel) (by decide +kernel) (hts (.classLink RX11 246 "java/lang/IllegalStateException") (by decide +kernel)) (hts (.initialized "java/lang/IllegalStateException") (by decide +kernel)) (hVX.str5) ?_ (by decide +kernel) hVX.1 hVX.2.1 hS (hl.1.trans hml.symm) dX11_element_35 dX11_element_38 dX11_element_39 dX11_element_41 dX11_element_44 (fun z h => (hno z h).elim) (Nat.le_of_ble_eq_true rfl) (Nat.le_of_ble_eq_true rfl) (Nat.le_of_ble_eq_true rfl) (Nat.le_of_ble_eq_true rfl) hlocks (fun t h1 h2 h3 => ⟨(), trivial, Or.inr ⟨rfl, y, rfl, h_y, fun r0 hr0 => by rw [hv_19] at hr0; cases hr0; exact c_32⟩, h2, fun q h4 _ => h3 q h4⟩) (fun z h => by cases h) (Nat.le_refl _) (Nat.le_refl _)
    exact vx_hat (fun w h => hts w (List.mem_cons_of_mem _ (List.mem_append_right _ h))) (B := [.castable "java/lang/IllegalStateException" "java/lang/IllegalStateException", .declares ⟨"java/lang/RuntimeException", "<init>", "(Ljava/lang/String;)V"⟩, .declares ⟨"java/lang/Exception", "<init>", "(Ljava/lang/String;)V"⟩, .declares ⟨"java/lang/Throwable", "<init>", "(Ljava/lang/String;)V"⟩] ) (by decide +kernel) (vx_c (va_Nw.use rfl hVX.cast0) (vx_c (va_Nw.use rfl hVX.dec0) (vx_c (va_Nw.use rfl hVX.dec1) (vx_c (va_Nw.use rfl hVX.dec2) vx_n))))
