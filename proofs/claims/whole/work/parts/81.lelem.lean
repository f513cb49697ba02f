/-- a start, with the tables' word of a row of longs -/
def pcJ (dC : Nat → ClassId) (dI : Nat → Nat → Nat) (cI cD cR cJ : ClassId) (av : List Value) (P : Heap → Prop) (sa : Nat → Nat) (A : Nat → Prop) : Array Value → State → Prop := fun v U => pcX dC dI cI cD cR av P sa A v U ∧ va_K (dC, dI) vwCl [(cJ, .long)] U
theorem pcJ_fb {dC : Nat → ClassId} {dI : Nat → Nat → Nat} {cI cD cR cJ : ClassId} {av : List Value} {P : Heap → Prop} {sa : Nat → Nat} {A : Nat → Prop} : FrameBlind (pcJ dC dI cI cD cR cJ av P sa A) := fun a U g mk q => ⟨pcX_fb a U g mk q.1, va_K.moved (u := U) (U := U.calling g mk a) (Vm.Alike.refl U.vm) q.2⟩
set_option maxHeartbeats 4000000 in
set_option maxRecDepth 100000 in
theorem c_L_element (l : Launch) (hl0 : l.stackTraces = false) (dC : Nat → ClassId) (dI : Nat → Nat → Nat) (cI cD cR cJ : ClassId) (x sN sM sP : Nat) (pt : Bool) (fo da ra : Nat) (rm : Nat → Option Nat) (ou : Nat) (g : Nat → Int64) (x9 i9 : Int32) (RLs : List Nat) (rc rs rz : Nat → Nat) (rf : Nat → Nat → Int32) (sz : Nat) (sa : Nat → Nat) (grm : ∀ y r, rm y = some r → r ∈ RLs) : vx_Met l yL_element wsL_element ({ frames := 9, cells := 1, slots := 6, locals := 240 }) (pcJ dC dI cI cD cR cJ [.ref x, .int x9, .int i9, .ref ou] (fun H => H.size = sz ∧ va_P (dC, dI) vwCl ([(x, .inr (11, [.ref sN, .ref sM, .ref sP, .int (bI pt), .ref fo, .ref da, .ref ra])), (ra, .inl (cR, 8, .inr (.inr (.inr (.inr rm))))), (ou, .inl (cJ, 1, .inr (.inl g)))]) H ∧ va_D (fun _ => True) ([(x, .inr (11, [.ref sN, .ref sM, .ref sP, .int (bI pt), .ref fo, .ref da, .ref ra])), (ra, .inl (cR, 8, .inr (.inr (.inr (.inr rm))))), (ou, .inl (cJ, 1, .inr (.inl g)))]) ∧ RP dC dI cI RLs rc rs rz rf H) sa (va_A ([(ou, .inl (cJ, 1, .inr (.inl g)))]) sz)) (va_Qi (fun r (_ : Unit) => r = (bif okI x9 8 then (match rm (nT x9) with | none => 2 | some r0 => bif okI i9 (rz r0) then 0 else 2) else 1 : Int32)) (fun _ T9 => va_P (dC, dI) vwCl [(ou, .inl (cJ, 1, .inr (.inl (bif okI x9 8 then (match rm (nT x9) with | none => g | some r0 => bif okI i9 (rz r0) then vp_updL g 0 ((rf r0 (nT i9)).toInt64) else g) else g))))] T9.heap ∧ va_D (va_A ([(ou, .inl (cJ, 1, .inr (.inl g)))]) sz) [(ou, .inl (cJ, 1, .inr (.inl (bif okI x9 8 then (match rm (nT x9) with | none => g | some r0 => bif okI i9 (rz r0) then vp_updL g 0 ((rf r0 (nT i9)).toInt64) else g) else g))))]) (va_A ([(ou, .inl (cJ, 1, .inr (.inl g)))]) sz)) (vx_X (fun (_ : Unit) => False) (fun _ _ _ => False) (va_A ([(ou, .inl (cJ, 1, .inr (.inl g)))]) sz)) 1 6 (va_A ([(ou, .inl (cJ, 1, .inr (.inl g)))]) sz) := by
  refine vx_ofWH (cc := cL_element) (maxL := 5) (ret := (some .int)) (by decide) rfl ?_
  intro p e s m args below meth c s₁ B hml hv
  obtain ⟨⟨rfl, ⟨hsz, hP3, hD3, hRP⟩, hCX, hVX⟩, hKJ⟩ := hv
  subst hsz
  have hx := B.exec
  have hb := B.bytes
  have hr := B.returns
  have hts := atoms_spec (ws := wsL_element) B.pre
  have hlocks := B.notSynchronized
  have hK := hCX.1
  have htab : c.exceptionTable.toList = tableOf [(0, 9, 12, 13), (0, 9, 16, 15)] := vx_table (x := yL_element) B (hts _ List.mem_cons_self)
  have hown : s.vm.findClass RL = some m.cls := findClass_of_methodNamed B.named
  have hP := hP3.sub (ws' := [(ou, .inl (cJ, 1, .inr (.inl g)))]) [2] rfl
  have hD := (hD3.sub (ws' := [(ou, .inl (cJ, 1, .inr (.inl g)))]) [2] (by decide) rfl).self (sz := s.heap.size)
  have hPc := hP3.sub (ws' := [(x, .inr (11, [.ref sN, .ref sM, .ref sP, .int (bI pt), .ref fo, .ref da, .ref ra]))] ++ [(ra, .inl (cR, 8, .inr (.inr (.inr (.inr rm)))))]) [0, 1] rfl
  have hS : va_S (va_A ([(ou, .inl (cJ, 1, .inr (.inl g)))]) s.heap.size) s.heap s.heap [] := va_S.rf
  have hl := lv_entry ([.ref x, .int x9, .int i9, .ref ou]) (n := 5) (Nat.le_of_ble_eq_true rfl)
  rw [lg_entry_eq]
  generalize (lg_sl ([.ref x, .int x9, .int i9, .ref ou]) ++ List.replicate (5 - (lg_sl ([.ref x, .int x9, .int i9, .ref ou])).length) Slot.unset).toArray = ls at hl ⊢
  have hl : lv_has ls 5 [(0, .ref x), (1, .int x9), (2, .int i9), (3, .ref ou)] := hl
  refine lv_aload_n hx hb dL_element_0 rfl (lv_at hl 3 rfl) ?_
  refine lv_iconst (v := nI 0) hx hb dL_element_1 (by decide +kernel) ?_
  refine lv_aload_n hx hb dL_element_2 rfl (lv_at hl 0 rfl) ?_
  refine lv_iload_n hx hb dL_element_3 rfl (lv_at hl 1 rfl) ?_
  refine lv_iload_n hx hb dL_element_4 rfl (lv_at hl 2 rfl) ?_
  refine vx_calll (vx_runV (As := [.int x9, .int i9]) (rest := [.int (nI 0), .ref ou]) ⟨hx, hb, hml, hown, hts⟩ (c_X11_element l hl0 dC dI cI cD cR x sN sM sP pt fo da ra rm x9 i9 RLs rc rs rz rf s.heap.size sa grm) (cwV 2 hts gL_element_X11_element rfl rfl rfl (by decide +kernel) ⟨Nat.le_of_ble_eq_true rfl, Nat.le_of_ble_eq_true rfl⟩) (preV_X hCX (hVX.narrow (fun q h => Or.inr h)) (va_recv hK hPc (ci := 11) (q0 := 0) rfl rfl) ⟨rfl, hPc, hRP⟩) rfl rfl hl.1 rfl (lv_room (Nat.le_of_ble_eq_true rfl)) dL_element_5 ⟨Nat.le_of_ble_eq_true rfl, Nat.le_of_ble_eq_true rfl⟩) hS (fun q _ h => Or.inr h) (fun q h => Or.inr h) (fun q _ h => Or.inr h) (fun E9 ce9 q9 u9 t9 H1 locs1 ht9 hal9 hp9 hB9 hz9 hk1 hS1 hce9 hcv9 hcl9 => ?_) (fun r9 u9 t9 H1 locs1 ht9 hal9 hp9 hB9 hz9 hk1 hS1 => ?_)
  · have hP := va_P.kp (A := fun q => s.heap.size ≤ q) (locs := []) hP hP.ge ⟨hz9, hk1, fun z h => by cases h⟩
    have hS := hS1
    generalize H1 = H at hP hS hce9 ⊢
    rcases hB9 with ⟨hE, hbx⟩ | ⟨hE, y, rfl, hy, hno⟩
    · subst hE
      refine vx_catch (name := "java/lang/IllegalArgumentException") hown [] ((tableOf [(0, 9, 12, 13)])[0]) (tableOf [(0, 9, 16, 15)]) htab (fun z h => by cases h) (by decide) (by decide) (hts (.classLink RL 13 "java/lang/IllegalArgumentException") (by decide +kernel)) (va_Nw.use rfl hVX.cast1) hce9 hcv9 hcl9 ?_
      refine lv_astore (lv' := [(4, .ref q9), (0, .ref x), (1, .int _), (2, .int i9), (3, .ref ou)]) hx hb dL_element_12 hl (by decide) rfl (fun ls hl => ?_)
      refine lv_iconst (v := nI 1) hx hb dL_element_14 (by decide +kernel) ?_
      refine vx_ret ?_
      exact W.iret (v := nI 1) hx hb hr (fun T9 hT9 hW9 => ⟨⟨_, (), rfl, (by rw [hbx]; rfl), by rw [hT9, show (bif okI x9 8 then (match rm (nT x9) with | none => g | some r0 => bif okI i9 (rz r0) then vp_updL g 0 ((rf r0 (nT i9)).toInt64) else g) else g) = g from by rw [hbx]; rfl]; exact hP, by rw [show (bif okI x9 8 then (match rm (nT x9) with | none => g | some r0 => bif okI i9 (rz r0) then vp_updL g 0 ((rf r0 (nT i9)).toInt64) else g) else g) = g from by rw [hbx]; rfl]; exact hD⟩, hS.F hT9⟩) hS.2.2 dL_element_15
    · subst hE
      refine vx_catch (name := "java/lang/IllegalStateException") hown (tableOf [(0, 9, 12, 13)]) ((tableOf [(0, 9, 16, 15)])[0]) [] htab (fun z h => Or.inr (by rcases List.mem_singleton.mp h with rfl; exact ⟨by decide, _, (hts (.classLink RL 13 "java/lang/IllegalArgumentException") (by decide +kernel)), hVX.nc3⟩)) (by decide) (by decide) (hts (.classLink RL 15 "java/lang/IllegalStateException") (by decide +kernel)) (va_Nw.use rfl hVX.cast0) hce9 hcv9 hcl9 ?_
      refine lv_astore (lv' := [(4, .ref q9), (0, .ref x), (1, .int _), (2, .int i9), (3, .ref ou)]) hx hb dL_element_16 hl (by decide) rfl (fun ls hl => ?_)
      refine lv_iconst (v := nI 2) hx hb dL_element_18 (by decide +kernel) ?_
      refine vx_ret ?_
      exact W.iret (v := nI 2) hx hb hr (fun T9 hT9 hW9 => ⟨⟨_, (), rfl, (by rw [okI_nI (by omega) (by decide), decide_eq_true hy, cond_true, nT_nI (by omega)]; cases hrm : rm y with | none => rfl | some r0 => dsimp only; rw [hno r0 hrm]; rfl), by rw [hT9, show (bif okI (nI y) 8 then (match rm (nT (nI y)) with | none => g | some r0 => bif okI i9 (rz r0) then vp_updL g 0 ((rf r0 (nT i9)).toInt64) else g) else g) = g from by (rw [okI_nI (by omega) (by decide), decide_eq_true hy, cond_true, nT_nI (by omega)]; cases hrm : rm y with | none => rfl | some r0 => dsimp only; rw [hno r0 hrm]; rfl)]; exact hP, by rw [show (bif okI (nI y) 8 then (match rm (nT (nI y)) with | none => g | some r0 => bif okI i9 (rz r0) then vp_updL g 0 ((rf r0 (nT i9)).toInt64) else g) else g) = g from by (rw [okI_nI (by omega) (by decide), decide_eq_true hy, cond_true, nT_nI (by omega)]; cases hrm : rm y with | none => rfl | some r0 => dsimp only; rw [hno r0 hrm]; rfl)]; exact hD⟩, hS.F hT9⟩) hS.2.2 dL_element_19
  · obtain ⟨y, r0, rfl, hy, hrm, hok, rfl⟩ := hp9
    have hP := va_P.kp (A := fun q => s.heap.size ≤ q) (locs := []) hP hP.ge ⟨hz9, hk1, fun z h => by cases h⟩
    have hS := hS1
    generalize H1 = H at hP hS ⊢
    have e1 : (bif okI (nI y) 8 then (match rm (nT (nI y)) with | none => g | some r0 => bif okI i9 (rz r0) then vp_updL g 0 ((rf r0 (nT i9)).toInt64) else g) else g) = vp_updL g 0 ((rf r0 (nT i9)).toInt64) := by rw [okI_nI (by omega) (by decide), decide_eq_true hy, cond_true, nT_nI (by omega), hrm]; dsimp only; rw [hok]; rfl
    refine va_last hx hb hKJ hP hD hS 0 0 rfl rfl (vp_in_nI (by decide) (by decide)) dL_element_8 (fun H locs hP hD hS => ?_)
    refine lv_goto (tgt := 20) hx hb dL_element_9 (by decide) ?_
    refine lv_iconst (v := nI 0) hx hb dL_element_20 (by decide +kernel) ?_
    refine vx_ret ?_
    exact W.iret (v := nI 0) hx hb hr (fun T9 hT9 hW9 => ⟨⟨_, (), rfl, (by rw [okI_nI (by omega) (by decide), decide_eq_true hy, cond_true, nT_nI (by omega), hrm]; dsimp only; rw [hok]; rfl), by rw [hT9, e1]; exact hP, by rw [e1]; exact hD⟩, hS.F hT9⟩) hS.2.2 dL_element_21
