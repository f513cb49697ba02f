/-! WHAT THROWS: what the tables and the statics say of it -/
def VX (sa : Nat → Nat) (A : Nat → Prop) (U : State) (H : Heap) : Prop :=
  vx_Zq Bundle.tN "UNASSIGNED_STACK" Bundle.steD A U H ∧ vx_Zq Bundle.tN "SUPPRESSED_SENTINEL" Bundle.listD A U H ∧
  (vk_R RX2 27 "a denier fails" (sa 0) U ∧ vk_R RX3 29 "a fool fails" (sa 1) U ∧ vk_R RX6 27 "a hired one fails" (sa 2) U ∧ vk_R RX7 33 "an old one fails" (sa 3) U ∧ vk_R RX11 241 "no such shelf" (sa 4) U ∧ vk_R RX11 248 "no such place of a row" (sa 5) U) ∧
  (va_Nw (.castable "java/lang/IllegalStateException" "java/lang/IllegalStateException") U ∧ va_Nw (.castable "java/lang/IllegalArgumentException" "java/lang/IllegalArgumentException") U ∧ va_Nw (.castable "java/lang/UnsupportedOperationException" "java/lang/UnsupportedOperationException") U) ∧
  (va_Nc "java/lang/IllegalArgumentException" "java/lang/IllegalStateException" U ∧ va_Nc "java/lang/UnsupportedOperationException" "java/lang/IllegalStateException" U ∧ va_Nc "java/lang/UnsupportedOperationException" "java/lang/IllegalArgumentException" U ∧ va_Nc "java/lang/IllegalStateException" "java/lang/IllegalArgumentException" U ∧ va_Nw (.declares ⟨"java/lang/RuntimeException", "<init>", "(Ljava/lang/String;)V"⟩) U ∧ va_Nw (.declares ⟨"java/lang/Exception", "<init>", "(Ljava/lang/String;)V"⟩) U ∧ va_Nw (.declares ⟨"java/lang/Throwable", "<init>", "(Ljava/lang/String;)V"⟩) U)
section VXS
variable {sa : Nat → Nat} {A : Nat → Prop} {s U : State} {H : Heap}
theorem VX.str0 (h : VX sa A U H) : vk_R RX2 27 "a denier fails" (sa 0) U := h.2.2.1.1
theorem VX.str1 (h : VX sa A U H) : vk_R RX3 29 "a fool fails" (sa 1) U := h.2.2.1.2.1
theorem VX.str2 (h : VX sa A U H) : vk_R RX6 27 "a hired one fails" (sa 2) U := h.2.2.1.2.2.1
theorem VX.str3 (h : VX sa A U H) : vk_R RX7 33 "an old one fails" (sa 3) U := h.2.2.1.2.2.2.1
theorem VX.str4 (h : VX sa A U H) : vk_R RX11 241 "no such shelf" (sa 4) U := h.2.2.1.2.2.2.2.1
theorem VX.str5 (h : VX sa A U H) : vk_R RX11 248 "no such place of a row" (sa 5) U := h.2.2.1.2.2.2.2.2
theorem VX.cast0 (h : VX sa A U H) : va_Nw (.castable "java/lang/IllegalStateException" "java/lang/IllegalStateException") U := h.2.2.2.1.1
theorem VX.cast1 (h : VX sa A U H) : va_Nw (.castable "java/lang/IllegalArgumentException" "java/lang/IllegalArgumentException") U := h.2.2.2.1.2.1
theorem VX.cast2 (h : VX sa A U H) : va_Nw (.castable "java/lang/UnsupportedOperationException" "java/lang/UnsupportedOperationException") U := h.2.2.2.1.2.2
theorem VX.nc0 (h : VX sa A U H) : va_Nc "java/lang/IllegalArgumentException" "java/lang/IllegalStateException" U := h.2.2.2.2.1
theorem VX.nc1 (h : VX sa A U H) : va_Nc "java/lang/UnsupportedOperationException" "java/lang/IllegalStateException" U := h.2.2.2.2.2.1
theorem VX.nc2 (h : VX sa A U H) : va_Nc "java/lang/UnsupportedOperationException" "java/lang/IllegalArgumentException" U := h.2.2.2.2.2.2.1
theorem VX.nc3 (h : VX sa A U H) : va_Nc "java/lang/IllegalStateException" "java/lang/IllegalArgumentException" U := h.2.2.2.2.2.2.2.1
theorem VX.dec0 (h : VX sa A U H) : va_Nw (.declares ⟨"java/lang/RuntimeException", "<init>", "(Ljava/lang/String;)V"⟩) U := h.2.2.2.2.2.2.2.2.1
theorem VX.dec1 (h : VX sa A U H) : va_Nw (.declares ⟨"java/lang/Exception", "<init>", "(Ljava/lang/String;)V"⟩) U := h.2.2.2.2.2.2.2.2.2.1
theorem VX.dec2 (h : VX sa A U H) : va_Nw (.declares ⟨"java/lang/Throwable", "<init>", "(Ljava/lang/String;)V"⟩) U := h.2.2.2.2.2.2.2.2.2.2
theorem VX.warm (h : VX sa A s H) (hW : s.WarmedH U.vm) : VX sa A U H := by
  obtain ⟨h1, h2, ⟨a0, a1, a2, a3, a4, a5⟩, ⟨b0, b1, b2⟩, c0, c1, c2, c3, d0, d1, d2⟩ := h
  exact ⟨vx_Zq.moved hW.alike h1, vx_Zq.moved hW.alike h2, ⟨vk_R.warm hW a0, vk_R.warm hW a1, vk_R.warm hW a2, vk_R.warm hW a3, vk_R.warm hW a4, vk_R.warm hW a5⟩, ⟨va_Nw.warmC hW b0, va_Nw.warmC hW b1, va_Nw.warmC hW b2⟩, va_Nc.moved hW.alike c0, va_Nc.moved hW.alike c1, va_Nc.moved hW.alike c2, va_Nc.moved hW.alike c3, va_Nw.warmD hW d0, va_Nw.warmD hW d1, va_Nw.warmD hW d2⟩
theorem VX.same (h : VX sa A s H) (hv : U.vm = s.vm) : VX sa A U H := by
  obtain ⟨h1, h2, ⟨a0, a1, a2, a3, a4, a5⟩, ⟨b0, b1, b2⟩, c0, c1, c2, c3, d0, d1, d2⟩ := h
  have hal : s.vm.Alike U.vm := by rw [hv]; exact Vm.Alike.refl _
  exact ⟨vx_Zq.moved hal h1, vx_Zq.moved hal h2, ⟨vk_R.same hv a0, vk_R.same hv a1, vk_R.same hv a2, vk_R.same hv a3, vk_R.same hv a4, vk_R.same hv a5⟩, ⟨va_Nw.same rfl hv.symm b0, va_Nw.same rfl hv.symm b1, va_Nw.same rfl hv.symm b2⟩, va_Nc.moved hal c0, va_Nc.moved hal c1, va_Nc.moved hal c2, va_Nc.moved hal c3, va_Nw.same rfl hv.symm d0, va_Nw.same rfl hv.symm d1, va_Nw.same rfl hv.symm d2⟩
theorem VX.kept {H1 : Heap} (h : VX sa A U H) (hq : ∀ a : Nat, a < H.size → ¬ A a → H1[a]? = H[a]?) : VX sa A U H1 := ⟨vx_Zq.kept h.1 hq, vx_Zq.kept h.2.1 hq, h.2.2⟩
theorem VX.narrow {B : Nat → Prop} (h : VX sa A U H) (hAB : ∀ q, B q → A q) : VX sa B U H := ⟨vx_Zq.narrow h.1 hAB, vx_Zq.narrow h.2.1 hAB, h.2.2⟩
end VXS
/-- a start, with it -/
def pcX (dC : Nat → ClassId) (dI : Nat → Nat → Nat) (cI cD cR : ClassId) (av : List Value) (P : Heap → Prop) (sa : Nat → Nat) (A : Nat → Prop) : Array Value → State → Prop := fun v U => v = av.toArray ∧ P U.heap ∧ CX dC dI cI cD cR U ∧ VX sa A U U.heap
section PCX
variable {dC : Nat → ClassId} {dI : Nat → Nat → Nat} {cI cD cR : ClassId} {sa : Nat → Nat} {A : Nat → Prop} {s : State}
theorem pcX_fb {av : List Value} {P : Heap → Prop} : FrameBlind (pcX dC dI cI cD cR av P sa A) := fun a U g mk q => ⟨q.1, q.2.1, q.2.2.1.calling, VX.same (s := U) (U := U.calling g mk a) q.2.2.2 rfl⟩
theorem preS_X {H : Heap} {As : List Value} {P : Heap → Prop} (hC : CX dC dI cI cD cR s) (hV : VX sa A s H) (hP : P H) : PreS s H (pcX dC dI cI cD cR As P sa A) As := ⟨pcX_fb, fun U hU hW => ⟨rfl, by rw [hU]; exact hP, hC.warm hW, by rw [hU]; exact hV.warm hW⟩⟩
theorem preV_X {H : Heap} {C : String} {b : Addr} {As : List Value} {P : Heap → Prop} (hC : CX dC dI cI cD cR s) (hV : VX sa A s H) (hr : ∃ cellB : Cell, H[b]? = some cellB ∧ cellB.vm.isStatics = false ∧ s.vm.findClass C = some cellB.cls) (hP : P H) : PreV s H C b (pcX dC dI cI cD cR (.ref b :: As) P sa A) As := ⟨pcX_fb, hr, fun U hU hW => ⟨rfl, by rw [hU]; exact hP, hC.warm hW, by rw [hU]; exact hV.warm hW⟩⟩
end PCX
theorem nI_z0 {f : Nat} (hf : f < 2 ^ 31) (h : nI f = 0) : f = 0 := (nI_eq hf (by decide)).mp h
set_option maxHeartbeats 4000000 in
set_option maxRecDepth 100000 in
theorem c_X2_fail_k0 (l : Launch) (hl0 : l.stackTraces = false) (dC : Nat → ClassId) (dI : Nat → Nat → Nat) (cI cD cR : ClassId) (a f sz : Nat) (sa : Nat → Nat) (hf : f < 10) : vx_Met l yX2_fail wsX2_fail ({ frames := 8, cells := 1, slots := 6, locals := 160 }) (pcX dC dI cI cD cR [.ref a] (fun H => H.size = sz ∧ va_P (dC, dI) vwCl ([(a, dnE 0 f)]) H) sa (fun q => sz ≤ q)) (va_Qv (fun (_ : Unit) => f = 0) (fun _ _ => True) (fun q => sz ≤ q)) (vx_X (fun (_ : Unit) => ¬ f = 0) (fun E _ _ => E = "java/lang/IllegalStateException") (fun q => sz ≤ q)) 1 6 (fun q => sz ≤ q) := by
  refine vx_ofW (cc := cX2_fail) (maxL := 1) (ret := none) (by decide) rfl ?_
  intro p e s m args below meth c s₁ B hml hno hv
  obtain ⟨rfl, ⟨hsz, hP⟩, hCX, hVX⟩ := hv
  subst hsz
  have hx := B.exec
  have hb := B.bytes
  have hr := B.returns
  have hts := atoms_spec (ws := wsX2_fail) B.pre
  have hlocks := B.notSynchronized
  have hK := hCX.1
  have hown : s.vm.findClass RX2 = some m.cls := findClass_of_methodNamed B.named
  have hS : va_S (fun q => s.heap.size ≤ q) s.heap s.heap [] := va_S.rf
  have hl := lv_entry ([.ref a]) (n := 1) (Nat.le_of_ble_eq_true rfl)
  rw [lg_entry_eq]
  generalize (lg_sl ([.ref a]) ++ List.replicate (1 - (lg_sl ([.ref a])).length) Slot.unset).toArray = ls at hl ⊢
  have hl : lv_has ls 1 [(0, .ref a)] := hl
  refine lv_aload_n hx hb dX2_fail_0 rfl (lv_at hl 0 rfl) ?_
  refine va_get (D := (dC, dI)) (ci := 2) (v := .int (nI f)) (C := RX2) (T := TX2) (N := 2) hx hb hts (fun _ h => List.mem_cons_of_mem _ (List.mem_append_left _ (List.mem_append_left _ (List.mem_append_left _ (List.mem_append_left _ (List.mem_append_left _ (List.mem_append_left _ (List.mem_append_right _ h)))))))) hown hK hP 0 rfl rfl 1 (by decide) (hts (.fieldLink RX2 13 "HoldsOnceDenied$Denier" "figure" "I") (by decide +kernel)) (fun _ h9 => h9) rfl dX2_fail_1 ?_
  refine ho_if_eq (tgt := 17) hx hb dX2_fail_4 (by decide) (by omega) (fun c_4 => ?_) (fun c_4 => ?_)
  · refine vx_ret (W.widen (k := 1) (n := 6) (by decide) (by decide) ?_)
    exact W.vret hx hb hr (fun T9 hT9 hW9 => ⟨⟨(), rfl, c_4, trivial⟩, hS.F hT9⟩) hS.2.2 dX2_fail_17
  refine vx_throwS (cls := "java/lang/IllegalStateException") (text := "a denier fails") (names := ["java/lang/RuntimeException", "java/lang/Exception"]) (ik := 25) (is := 27) (ic := 29) (sa := sa 0) (A := fun q => s.heap.size ≤ q) hx hb hl0 hown (by decide +kernel) (by decide +kernel) (hts (.classLink RX2 25 "java/lang/IllegalStateException") (by decide +kernel)) (hts (.initialized "java/lang/IllegalStateException") (by decide +kernel)) (hVX.str0) ?_ (by decide +kernel) hVX.1 hVX.2.1 hS (hl.1.trans hml.symm) dX2_fail_7 dX2_fail_10 dX2_fail_11 dX2_fail_13 dX2_fail_16 (fun z h => (hno z h).elim) (Nat.le_of_ble_eq_true rfl) (Nat.le_of_ble_eq_true rfl) (Nat.le_of_ble_eq_true rfl) (Nat.le_of_ble_eq_true rfl) hlocks (fun t h1 h2 h3 => ⟨(), c_4, rfl, h2, fun q h4 _ => h3 q h4⟩) (fun z h => by cases h) (Nat.le_refl _) (Nat.le_refl _)
  exact vx_hat (fun w h => hts w (List.mem_cons_of_mem _ (List.mem_append_right _ h))) (B := [.castable "java/lang/IllegalStateException" "java/lang/IllegalStateException", .declares ⟨"java/lang/RuntimeException", "<init>", "(Ljava/lang/String;)V"⟩, .declares ⟨"java/lang/Exception", "<init>", "(Ljava/lang/String;)V"⟩, .declares ⟨"java/lang/Throwable", "<init>", "(Ljava/lang/String;)V"⟩] ) (by decide +kernel) (vx_c (va_Nw.use rfl hVX.cast0) (vx_c (va_Nw.use rfl hVX.dec0) (vx_c (va_Nw.use rfl hVX.dec1) (vx_c (va_Nw.use rfl hVX.dec2) vx_n))))
set_option maxHeartbeats 4000000 in
set_option maxRecDepth 100000 in
theorem c_X2_fail_k2 (l : Launch) (hl0 : l.stackTraces = false) (dC : Nat → ClassId) (dI : Nat → Nat → Nat) (cI cD cR : ClassId) (a f sz : Nat) (sa : Nat → Nat) (hf : f < 10) : vx_Met l yX2_fail wsX2_fail ({ frames := 8, cells := 1, slots := 6, locals := 160 }) (pcX dC dI cI cD cR [.ref a] (fun H => H.size = sz ∧ va_P (dC, dI) vwCl ([(a, dnE 2 f)]) H) sa (fun q => sz ≤ q)) (va_Qv (fun (_ : Unit) => f = 0) (fun _ _ => True) (fun q => sz ≤ q)) (vx_X (fun (_ : Unit) => ¬ f = 0) (fun E _ _ => E = "java/lang/IllegalStateException") (fun q => sz ≤ q)) 1 6 (fun q => sz ≤ q) := by
  refine vx_ofW (cc := cX2_fail) (maxL := 1) (ret := none) (by decide) rfl ?_
  intro p e s m args below meth c s₁ B hml hno hv
  obtain ⟨rfl, ⟨hsz, hP⟩, hCX, hVX⟩ := hv
  subst hsz
  have hx := B.exec
  have hb := B.bytes
  have hr := B.returns
  have hts := atoms_spec (ws := wsX2_fail) B.pre
  have hlocks := B.notSynchronized
  have hK := hCX.1
  have hown : s.vm.findClass RX2 = some m.cls := findClass_of_methodNamed B.named
  have hS : va_S (fun q => s.heap.size ≤ q) s.heap s.heap [] := va_S.rf
  have hl := lv_entry ([.ref a]) (n := 1) (Nat.le_of_ble_eq_true rfl)
  rw [lg_entry_eq]
  generalize (lg_sl ([.ref a]) ++ List.replicate (1 - (lg_sl ([.ref a])).length) Slot.unset).toArray = ls at hl ⊢
  have hl : lv_has ls 1 [(0, .ref a)] := hl
  refine lv_aload_n hx hb dX2_fail_0 rfl (lv_at hl 0 rfl) ?_
  refine va_get (D := (dC, dI)) (ci := 10) (v := .int (nI f)) (C := RX10) (T := TX10) (N := 2) hx hb hts (fun _ h => List.mem_cons_of_mem _ (List.mem_append_left _ (List.mem_append_right _ h))) hown hK hP 0 rfl rfl 1 (by decide) (hts (.fieldLink RX2 13 "HoldsOnceDenied$Denier" "figure" "I") (by decide +kernel)) (fun _ h9 => h9) rfl dX2_fail_1 ?_
  refine ho_if_eq (tgt := 17) hx hb dX2_fail_4 (by decide) (by omega) (fun c_4 => ?_) (fun c_4 => ?_)
  · refine vx_ret (W.widen (k := 1) (n := 6) (by decide) (by decide) ?_)
    exact W.vret hx hb hr (fun T9 hT9 hW9 => ⟨⟨(), rfl, c_4, trivial⟩, hS.F hT9⟩) hS.2.2 dX2_fail_17
  refine vx_throwS (cls := "java/lang/IllegalStateException") (text := "a denier fails") (names := ["java/lang/RuntimeException", "java/lang/Exception"]) (ik := 25) (is := 27) (ic := 29) (sa := sa 0) (A := fun q => s.heap.size ≤ q) hx hb hl0 hown (by decide +kernel) (by decide +kernel) (hts (.classLink RX2 25 "java/lang/IllegalStateException") (by decide +kernel)) (hts (.initialized "java/lang/IllegalStateException") (by decide +kernel)) (hVX.str0) ?_ (by decide +kernel) hVX.1 hVX.2.1 hS (hl.1.trans hml.symm) dX2_fail_7 dX2_fail_10 dX2_fail_11 dX2_fail_13 dX2_fail_16 (fun z h => (hno z h).elim) (Nat.le_of_ble_eq_true rfl) (Nat.le_of_ble_eq_true rfl) (Nat.le_of_ble_eq_true rfl) (Nat.le_of_ble_eq_true rfl) hlocks (fun t h1 h2 h3 => ⟨(), c_4, rfl, h2, fun q h4 _ => h3 q h4⟩) (fun z h => by cases h) (Nat.le_refl _) (Nat.le_refl _)
  exact vx_hat (fun w h => hts w (List.mem_cons_of_mem _ (List.mem_append_right _ h))) (B := [.castable "java/lang/IllegalStateException" "java/lang/IllegalStateException", .declares ⟨"java/lang/RuntimeException", "<init>", "(Ljava/lang/String;)V"⟩, .declares ⟨"java/lang/Exception", "<init>", "(Ljava/lang/String;)V"⟩, .declares ⟨"java/lang/Throwable", "<init>", "(Ljava/lang/String;)V"⟩] ) (by decide +kernel) (vx_c (va_Nw.use rfl hVX.cast0) (vx_c (va_Nw.use rfl hVX.dec0) (vx_c (va_Nw.use rfl hVX.dec1) (vx_c (va_Nw.use rfl hVX.dec2) vx_n))))
set_option maxHeartbeats 4000000 in
set_option maxRecDepth 100000 in
theorem c_X2_fail_k4 (l : Launch) (hl0 : l.stackTraces = false) (dC : Nat → ClassId) (dI : Nat → Nat → Nat) (cI cD cR : ClassId) (a f sz : Nat) (sa : Nat → Nat) (hf : f < 10) : vx_Met l yX2_fail wsX2_fail ({ frames := 8, cells := 1, slots := 6, locals := 160 }) (pcX dC dI cI cD cR [.ref a] (fun H => H.size = sz ∧ va_P (dC, dI) vwCl ([(a, dnE 4 f)]) H) sa (fun q => sz ≤ q)) (va_Qv (fun (_ : Unit) => f = 0) (fun _ _ => True) (fun q => sz ≤ q)) (vx_X (fun (_ : Unit) => ¬ f = 0) (fun E _ _ => E = "java/lang/IllegalStateException") (fun q => sz ≤ q)) 1 6 (fun q => sz ≤ q) := by
  refine vx_ofW (cc := cX2_fail) (maxL := 1) (ret := none) (by decide) rfl ?_
  intro p e s m args below meth c s₁ B hml hno hv
  obtain ⟨rfl, ⟨hsz, hP⟩, hCX, hVX⟩ := hv
  subst hsz
  have hx := B.exec
  have hb := B.bytes
  have hr := B.returns
  have hts := atoms_spec (ws := wsX2_fail) B.pre
  have hlocks := B.notSynchronized
  have hK := hCX.1
  have hown : s.vm.findClass RX2 = some m.cls := findClass_of_methodNamed B.named
  have hS : va_S (fun q => s.heap.size ≤ q) s.heap s.heap [] := va_S.rf
  have hl := lv_entry ([.ref a]) (n := 1) (Nat.le_of_ble_eq_true rfl)
  rw [lg_entry_eq]
  generalize (lg_sl ([.ref a]) ++ List.replicate (1 - (lg_sl ([.ref a])).length) Slot.unset).toArray = ls at hl ⊢
  have hl : lv_has ls 1 [(0, .ref a)] := hl
  refine lv_aload_n hx hb dX2_fail_0 rfl (lv_at hl 0 rfl) ?_
  refine va_get (D := (dC, dI)) (ci := 5) (v := .int (nI f)) (C := RX5) (T := TX5) (N := 2) hx hb hts (fun _ h => List.mem_cons_of_mem _ (List.mem_append_left _ (List.mem_append_left _ (List.mem_append_left _ (List.mem_append_left _ (List.mem_append_right _ h)))))) hown hK hP 0 rfl rfl 1 (by decide) (hts (.fieldLink RX2 13 "HoldsOnceDenied$Denier" "figure" "I") (by decide +kernel)) (fun _ h9 => h9) rfl dX2_fail_1 ?_
  refine ho_if_eq (tgt := 17) hx hb dX2_fail_4 (by decide) (by omega) (fun c_4 => ?_) (fun c_4 => ?_)
  · refine vx_ret (W.widen (k := 1) (n := 6) (by decide) (by decide) ?_)
    exact W.vret hx hb hr (fun T9 hT9 hW9 => ⟨⟨(), rfl, c_4, trivial⟩, hS.F hT9⟩) hS.2.2 dX2_fail_17
  refine vx_throwS (cls := "java/lang/IllegalStateException") (text := "a denier fails") (names := ["java/lang/RuntimeException", "java/lang/Exception"]) (ik := 25) (is := 27) (ic := 29) (sa := sa 0) (A := fun q => s.heap.size ≤ q) hx hb hl0 hown (by decide +kernel) (by decide +kernel) (hts (.classLink RX2 25 "java/lang/IllegalStateException") (by decide +kernel)) (hts (.initialized "java/lang/IllegalStateException") (by decide +kernel)) (hVX.str0) ?_ (by decide +kernel) hVX.1 hVX.2.1 hS (hl.1.trans hml.symm) dX2_fail_7 dX2_fail_10 dX2_fail_11 dX2_fail_13 dX2_fail_16 (fun z h => (hno z h).elim) (Nat.le_of_ble_eq_true rfl) (Nat.le_of_ble_eq_true rfl) (Nat.le_of_ble_eq_true rfl) (Nat.le_of_ble_eq_true rfl) hlocks (fun t h1 h2 h3 => ⟨(), c_4, rfl, h2, fun q h4 _ => h3 q h4⟩) (fun z h => by cases h) (Nat.le_refl _) (Nat.le_refl _)
  exact vx_hat (fun w h => hts w (List.mem_cons_of_mem _ (List.mem_append_right _ h))) (B := [.castable "java/lang/IllegalStateException" "java/lang/IllegalStateException", .declares ⟨"java/lang/RuntimeException", "<init>", "(Ljava/lang/String;)V"⟩, .declares ⟨"java/lang/Exception", "<init>", "(Ljava/lang/String;)V"⟩, .declares ⟨"java/lang/Throwable", "<init>", "(Ljava/lang/String;)V"⟩] ) (by decide +kernel) (vx_c (va_Nw.use rfl hVX.cast0) (vx_c (va_Nw.use rfl hVX.dec0) (vx_c (va_Nw.use rfl hVX.dec1) (vx_c (va_Nw.use rfl hVX.dec2) vx_n))))
set_option maxHeartbeats 4000000 in
set_option maxRecDepth 100000 in
theorem c_X2_fail_k7 (l : Launch) (hl0 : l.stackTraces = false) (dC : Nat → ClassId) (dI : Nat → Nat → Nat) (cI cD cR : ClassId) (a f sz : Nat) (sa : Nat → Nat) (hf : f < 10) : vx_Met l yX2_fail wsX2_fail ({ frames := 8, cells := 1, slots := 6, locals := 160 }) (pcX dC dI cI cD cR [.ref a] (fun H => H.size = sz ∧ va_P (dC, dI) vwCl ([(a, dnE 7 f)]) H) sa (fun q => sz ≤ q)) (va_Qv (fun (_ : Unit) => f = 0) (fun _ _ => True) (fun q => sz ≤ q)) (vx_X (fun (_ : Unit) => ¬ f = 0) (fun E _ _ => E = "java/lang/IllegalStateException") (fun q => sz ≤ q)) 1 6 (fun q => sz ≤ q) := by
  refine vx_ofW (cc := cX2_fail) (maxL := 1) (ret := none) (by decide) rfl ?_
  intro p e s m args below meth c s₁ B hml hno hv
  obtain ⟨rfl, ⟨hsz, hP⟩, hCX, hVX⟩ := hv
  subst hsz
  have hx := B.exec
  have hb := B.bytes
  have hr := B.returns
  have hts := atoms_spec (ws := wsX2_fail) B.pre
  have hlocks := B.notSynchronized
  have hK := hCX.1
  have hown : s.vm.findClass RX2 = some m.cls := findClass_of_methodNamed B.named
  have hS : va_S (fun q => s.heap.size ≤ q) s.heap s.heap [] := va_S.rf
  have hl := lv_entry ([.ref a]) (n := 1) (Nat.le_of_ble_eq_true rfl)
  rw [lg_entry_eq]
  generalize (lg_sl ([.ref a]) ++ List.replicate (1 - (lg_sl ([.ref a])).length) Slot.unset).toArray = ls at hl ⊢
  have hl : lv_has ls 1 [(0, .ref a)] := hl
  refine lv_aload_n hx hb dX2_fail_0 rfl (lv_at hl 0 rfl) ?_
  refine va_get (D := (dC, dI)) (ci := 0) (v := .int (nI f)) (C := RX0) (T := TX0) (N := 2) hx hb hts (fun _ h => List.mem_cons_of_mem _ (List.mem_append_left _ (List.mem_append_left _ (List.mem_append_left _ (List.mem_append_left _ (List.mem_append_left _ (List.mem_append_left _ (List.mem_append_left _ (List.mem_append_left _ (List.mem_append_right _ h)))))))))) hown hK hP 0 rfl rfl 1 (by decide) (hts (.fieldLink RX2 13 "HoldsOnceDenied$Denier" "figure" "I") (by decide +kernel)) (fun _ h9 => h9) rfl dX2_fail_1 ?_
  refine ho_if_eq (tgt := 17) hx hb dX2_fail_4 (by decide) (by omega) (fun c_4 => ?_) (fun c_4 => ?_)
  · refine vx_ret (W.widen (k := 1) (n := 6) (by decide) (by decide) ?_)
    exact W.vret hx hb hr (fun T9 hT9 hW9 => ⟨⟨(), rfl, c_4, trivial⟩, hS.F hT9⟩) hS.2.2 dX2_fail_17
  refine vx_throwS (cls := "java/lang/IllegalStateException") (text := "a denier fails") (names := ["java/lang/RuntimeException", "java/lang/Exception"]) (ik := 25) (is := 27) (ic := 29) (sa := sa 0) (A := fun q => s.heap.size ≤ q) hx hb hl0 hown (by decide +kernel) (by decide +kernel) (hts (.classLink RX2 25 "java/lang/IllegalStateException") (by decide +kernel)) (hts (.initialized "java/lang/IllegalStateException") (by decide +kernel)) (hVX.str0) ?_ (by decide +kernel) hVX.1 hVX.2.1 hS (hl.1.trans hml.symm) dX2_fail_7 dX2_fail_10 dX2_fail_11 dX2_fail_13 dX2_fail_16 (fun z h => (hno z h).elim) (Nat.le_of_ble_eq_true rfl) (Nat.le_of_ble_eq_true rfl) (Nat.le_of_ble_eq_true rfl) (Nat.le_of_ble_eq_true rfl) hlocks (fun t h1 h2 h3 => ⟨(), c_4, rfl, h2, fun q h4 _ => h3 q h4⟩) (fun z h => by cases h) (Nat.le_refl _) (Nat.le_refl _)
  exact vx_hat (fun w h => hts w (List.mem_cons_of_mem _ (List.mem_append_right _ h))) (B := [.castable "java/lang/IllegalStateException" "java/lang/IllegalStateException", .declares ⟨"java/lang/RuntimeException", "<init>", "(Ljava/lang/String;)V"⟩, .declares ⟨"java/lang/Exception", "<init>", "(Ljava/lang/String;)V"⟩, .declares ⟨"java/lang/Throwable", "<init>", "(Ljava/lang/String;)V"⟩] ) (by decide +kernel) (vx_c (va_Nw.use rfl hVX.cast0) (vx_c (va_Nw.use rfl hVX.dec0) (vx_c (va_Nw.use rfl hVX.dec1) (vx_c (va_Nw.use rfl hVX.dec2) vx_n))))
set_option maxHeartbeats 4000000 in
set_option maxRecDepth 100000 in
theorem c_X3_fail (l : Launch) (hl0 : l.stackTraces = false) (dC : Nat → ClassId) (dI : Nat → Nat → Nat) (cI cD cR : ClassId) (a f sz : Nat) (sa : Nat → Nat) (hf : f < 10) : vx_Met l yX3_fail wsX3_fail ({ frames := 8, cells := 1, slots := 6, locals := 160 }) (pcX dC dI cI cD cR [.ref a] (fun H => H.size = sz ∧ va_P (dC, dI) vwCl ([(a, dnE 1 f)]) H) sa (fun q => sz ≤ q)) (va_Qv (fun (_ : Unit) => f = 0) (fun _ _ => True) (fun q => sz ≤ q)) (vx_X (fun (_ : Unit) => ¬ f = 0) (fun E _ _ => E = "java/lang/IllegalArgumentException") (fun q => sz ≤ q)) 1 6 (fun q => sz ≤ q) := by
  refine vx_ofW (cc := cX3_fail) (maxL := 1) (ret := none) (by decide) rfl ?_
  intro p e s m args below meth c s₁ B hml hno hv
  obtain ⟨rfl, ⟨hsz, hP⟩, hCX, hVX⟩ := hv
  subst hsz
  have hx := B.exec
  have hb := B.bytes
  have hr := B.returns
  have hts := atoms_spec (ws := wsX3_fail) B.pre
  have hlocks := B.notSynchronized
  have hK := hCX.1
  have hown : s.vm.findClass RX3 = some m.cls := findClass_of_methodNamed B.named
  have hS : va_S (fun q => s.heap.size ≤ q) s.heap s.heap [] := va_S.rf
  have hl := lv_entry ([.ref a]) (n := 1) (Nat.le_of_ble_eq_true rfl)
  rw [lg_entry_eq]
  generalize (lg_sl ([.ref a]) ++ List.replicate (1 - (lg_sl ([.ref a])).length) Slot.unset).toArray = ls at hl ⊢
  have hl : lv_has ls 1 [(0, .ref a)] := hl
  refine lv_aload_n hx hb dX3_fail_0 rfl (lv_at hl 0 rfl) ?_
  refine va_get (D := (dC, dI)) (ci := 3) (v := .int (nI f)) (C := RX3) (T := TX3) (N := 2) hx hb hts (fun _ h => List.mem_cons_of_mem _ (List.mem_append_left _ (List.mem_append_left _ (List.mem_append_left _ (List.mem_append_left _ (List.mem_append_left _ (List.mem_append_right _ h))))))) hown hK hP 0 rfl rfl 1 (by decide) (hts (.fieldLink RX3 21 "HoldsOnceDenied$Fool" "figure" "I") (by decide +kernel)) (fun x9 h9 => u_same (hts (.sameField "HoldsOnceDenied$Fool" "HoldsOnceDenied$Denier" "figure" "I") (by decide +kernel)) x9 h9) rfl dX3_fail_1 ?_
  refine ho_if_eq (tgt := 17) hx hb dX3_fail_4 (by decide) (by omega) (fun c_4 => ?_) (fun c_4 => ?_)
  · refine vx_ret (W.widen (k := 1) (n := 6) (by decide) (by decide) ?_)
    exact W.vret hx hb hr (fun T9 hT9 hW9 => ⟨⟨(), rfl, c_4, trivial⟩, hS.F hT9⟩) hS.2.2 dX3_fail_17
  refine vx_throwS (cls := "java/lang/IllegalArgumentException") (text := "a fool fails") (names := ["java/lang/RuntimeException", "java/lang/Exception"]) (ik := 27) (is := 29) (ic := 31) (sa := sa 1) (A := fun q => s.heap.size ≤ q) hx hb hl0 hown (by decide +kernel) (by decide +kernel) (hts (.classLink RX3 27 "java/lang/IllegalArgumentException") (by decide +kernel)) (hts (.initialized "java/lang/IllegalArgumentException") (by decide +kernel)) (hVX.str1) ?_ (by decide +kernel) hVX.1 hVX.2.1 hS (hl.1.trans hml.symm) dX3_fail_7 dX3_fail_10 dX3_fail_11 dX3_fail_13 dX3_fail_16 (fun z h => (hno z h).elim) (Nat.le_of_ble_eq_true rfl) (Nat.le_of_ble_eq_true rfl) (Nat.le_of_ble_eq_true rfl) (Nat.le_of_ble_eq_true rfl) hlocks (fun t h1 h2 h3 => ⟨(), c_4, rfl, h2, fun q h4 _ => h3 q h4⟩) (fun z h => by cases h) (Nat.le_refl _) (Nat.le_refl _)
  exact vx_hat (fun w h => hts w (List.mem_cons_of_mem _ (List.mem_append_right _ h))) (B := [.castable "java/lang/IllegalArgumentException" "java/lang/IllegalArgumentException", .declares ⟨"java/lang/RuntimeException", "<init>", "(Ljava/lang/String;)V"⟩, .declares ⟨"java/lang/Exception", "<init>", "(Ljava/lang/String;)V"⟩, .declares ⟨"java/lang/Throwable", "<init>", "(Ljava/lang/String;)V"⟩] ) (by decide +kernel) (vx_c (va_Nw.use rfl hVX.cast1) (vx_c (va_Nw.use rfl hVX.dec0) (vx_c (va_Nw.use rfl hVX.dec1) (vx_c (va_Nw.use rfl hVX.dec2) vx_n))))
set_option maxHeartbeats 4000000 in
set_option maxRecDepth 100000 in
theorem c_X1_fail (l : Launch) (hl0 : l.stackTraces = false) (dC : Nat → ClassId) (dI : Nat → Nat → Nat) (cI cD cR : ClassId) (a f sz : Nat) (sa : Nat → Nat) (hf : f < 10) : vx_Met l yX1_fail wsX1_fail ({ frames := 8, cells := 1, slots := 6, locals := 160 }) (pcX dC dI cI cD cR [.ref a] (fun H => H.size = sz ∧ va_P (dC, dI) vwCl ([(a, dnE 3 f)]) H) sa (fun q => sz ≤ q)) (va_Qv (fun (_ : Unit) => True) (fun _ _ => True) (fun q => sz ≤ q)) (vx_X (fun (_ : Unit) => False) (fun E _ _ => E = "java/lang/IllegalStateException") (fun q => sz ≤ q)) 1 6 (fun q => sz ≤ q) := by
  refine vx_ofW (cc := cX1_fail) (maxL := 1) (ret := none) (by decide) rfl ?_
  intro p e s m args below meth c s₁ B hml hno hv
  obtain ⟨rfl, ⟨hsz, hP⟩, hCX, hVX⟩ := hv
  subst hsz
  have hx := B.exec
  have hb := B.bytes
  have hr := B.returns
  have hts := atoms_spec (ws := wsX1_fail) B.pre
  have hlocks := B.notSynchronized
  have hK := hCX.1
  have hown : s.vm.findClass RX1 = some m.cls := findClass_of_methodNamed B.named
  have hS : va_S (fun q => s.heap.size ≤ q) s.heap s.heap [] := va_S.rf
  have hl := lv_entry ([.ref a]) (n := 1) (Nat.le_of_ble_eq_true rfl)
  rw [lg_entry_eq]
  generalize (lg_sl ([.ref a]) ++ List.replicate (1 - (lg_sl ([.ref a])).length) Slot.unset).toArray = ls at hl ⊢
  have hl : lv_has ls 1 [(0, .ref a)] := hl
  refine vx_ret (W.widen (k := 1) (n := 6) (by decide) (by decide) ?_)
  exact W.vret hx hb hr (fun T9 hT9 hW9 => ⟨⟨(), rfl, trivial, trivial⟩, hS.F hT9⟩) hS.2.2 dX1_fail_0
set_option maxHeartbeats 4000000 in
set_option maxRecDepth 100000 in
theorem c_X6_fail (l : Launch) (hl0 : l.stackTraces = false) (dC : Nat → ClassId) (dI : Nat → Nat → Nat) (cI cD cR : ClassId) (a f sz : Nat) (sa : Nat → Nat) (hf : f < 10) : vx_Met l yX6_fail wsX6_fail ({ frames := 8, cells := 1, slots := 6, locals := 160 }) (pcX dC dI cI cD cR [.ref a] (fun H => H.size = sz ∧ va_P (dC, dI) vwCl ([(a, dnE 5 f)]) H) sa (fun q => sz ≤ q)) (va_Qv (fun (_ : Unit) => f = 0) (fun _ _ => True) (fun q => sz ≤ q)) (vx_X (fun (_ : Unit) => ¬ f = 0) (fun E _ _ => E = "java/lang/IllegalStateException") (fun q => sz ≤ q)) 1 6 (fun q => sz ≤ q) := by
  refine vx_ofW (cc := cX6_fail) (maxL := 1) (ret := none) (by decide) rfl ?_
  intro p e s m args below meth c s₁ B hml hno hv
  obtain ⟨rfl, ⟨hsz, hP⟩, hCX, hVX⟩ := hv
  subst hsz
  have hx := B.exec
  have hb := B.bytes
  have hr := B.returns
  have hts := atoms_spec (ws := wsX6_fail) B.pre
  have hlocks := B.notSynchronized
  have hK := hCX.1
  have hown : s.vm.findClass RX6 = some m.cls := findClass_of_methodNamed B.named
  have hS : va_S (fun q => s.heap.size ≤ q) s.heap s.heap [] := va_S.rf
  have hl := lv_entry ([.ref a]) (n := 1) (Nat.le_of_ble_eq_true rfl)
  rw [lg_entry_eq]
  generalize (lg_sl ([.ref a]) ++ List.replicate (1 - (lg_sl ([.ref a])).length) Slot.unset).toArray = ls at hl ⊢
  have hl : lv_has ls 1 [(0, .ref a)] := hl
  refine lv_aload_n hx hb dX6_fail_0 rfl (lv_at hl 0 rfl) ?_
  refine va_get (D := (dC, dI)) (ci := 6) (v := .int (nI f)) (C := RX6) (T := TX6) (N := 2) hx hb hts (fun _ h => List.mem_cons_of_mem _ (List.mem_append_left _ (List.mem_append_left _ (List.mem_append_left _ (List.mem_append_right _ h))))) hown hK hP 0 rfl rfl 1 (by decide) (hts (.fieldLink RX6 11 "HoldsOnceDenied$Hired" "figure" "I") (by decide +kernel)) (fun x9 h9 => u_same (hts (.sameField "HoldsOnceDenied$Hired" "HoldsOnceDenied$Denier" "figure" "I") (by decide +kernel)) x9 h9) rfl dX6_fail_1 ?_
  refine ho_if_eq (tgt := 17) hx hb dX6_fail_4 (by decide) (by omega) (fun c_4 => ?_) (fun c_4 => ?_)
  · refine vx_ret (W.widen (k := 1) (n := 6) (by decide) (by decide) ?_)
    exact W.vret hx hb hr (fun T9 hT9 hW9 => ⟨⟨(), rfl, c_4, trivial⟩, hS.F hT9⟩) hS.2.2 dX6_fail_17
  refine vx_throwS (cls := "java/lang/IllegalStateException") (text := "a hired one fails") (names := ["java/lang/RuntimeException", "java/lang/Exception"]) (ik := 25) (is := 27) (ic := 29) (sa := sa 2) (A := fun q => s.heap.size ≤ q) hx hb hl0 hown (by decide +kernel) (by decide +kernel) (hts (.classLink RX6 25 "java/lang/IllegalStateException") (by decide +kernel)) (hts (.initialized "java/lang/IllegalStateException") (by decide +kernel)) (hVX.str2) ?_ (by decide +kernel) hVX.1 hVX.2.1 hS (hl.1.trans hml.symm) dX6_fail_7 dX6_fail_10 dX6_fail_11 dX6_fail_13 dX6_fail_16 (fun z h => (hno z h).elim) (Nat.le_of_ble_eq_true rfl) (Nat.le_of_ble_eq_true rfl) (Nat.le_of_ble_eq_true rfl) (Nat.le_of_ble_eq_true rfl) hlocks (fun t h1 h2 h3 => ⟨(), c_4, rfl, h2, fun q h4 _ => h3 q h4⟩) (fun z h => by cases h) (Nat.le_refl _) (Nat.le_refl _)
  exact vx_hat (fun w h => hts w (List.mem_cons_of_mem _ (List.mem_append_right _ h))) (B := [.castable "java/lang/IllegalStateException" "java/lang/IllegalStateException", .declares ⟨"java/lang/RuntimeException", "<init>", "(Ljava/lang/String;)V"⟩, .declares ⟨"java/lang/Exception", "<init>", "(Ljava/lang/String;)V"⟩, .declares ⟨"java/lang/Throwable", "<init>", "(Ljava/lang/String;)V"⟩] ) (by decide +kernel) (vx_c (va_Nw.use rfl hVX.cast0) (vx_c (va_Nw.use rfl hVX.dec0) (vx_c (va_Nw.use rfl hVX.dec1) (vx_c (va_Nw.use rfl hVX.dec2) vx_n))))
set_option maxHeartbeats 4000000 in
set_option maxRecDepth 100000 in
theorem c_X7_fail (l : Launch) (hl0 : l.stackTraces = false) (dC : Nat → ClassId) (dI : Nat → Nat → Nat) (cI cD cR : ClassId) (a f sz : Nat) (sa : Nat → Nat) (hf : f < 10) : vx_Met l yX7_fail wsX7_fail ({ frames := 8, cells := 1, slots := 6, locals := 160 }) (pcX dC dI cI cD cR [.ref a] (fun H => H.size = sz ∧ va_P (dC, dI) vwCl ([(a, dnE 6 f)]) H) sa (fun q => sz ≤ q)) (va_Qv (fun (_ : Unit) => f = 0) (fun _ _ => True) (fun q => sz ≤ q)) (vx_X (fun (_ : Unit) => ¬ f = 0) (fun E _ _ => E = "java/lang/UnsupportedOperationException") (fun q => sz ≤ q)) 1 6 (fun q => sz ≤ q) := by
  refine vx_ofW (cc := cX7_fail) (maxL := 1) (ret := none) (by decide) rfl ?_
  intro p e s m args below meth c s₁ B hml hno hv
  obtain ⟨rfl, ⟨hsz, hP⟩, hCX, hVX⟩ := hv
  subst hsz
  have hx := B.exec
  have hb := B.bytes
  have hr := B.returns
  have hts := atoms_spec (ws := wsX7_fail) B.pre
  have hlocks := B.notSynchronized
  have hK := hCX.1
  have hown : s.vm.findClass RX7 = some m.cls := findClass_of_methodNamed B.named
  have hS : va_S (fun q => s.heap.size ≤ q) s.heap s.heap [] := va_S.rf
  have hl := lv_entry ([.ref a]) (n := 1) (Nat.le_of_ble_eq_true rfl)
  rw [lg_entry_eq]
  generalize (lg_sl ([.ref a]) ++ List.replicate (1 - (lg_sl ([.ref a])).length) Slot.unset).toArray = ls at hl ⊢
  have hl : lv_has ls 1 [(0, .ref a)] := hl
  refine lv_aload_n hx hb dX7_fail_0 rfl (lv_at hl 0 rfl) ?_
  refine va_get (D := (dC, dI)) (ci := 7) (v := .int (nI f)) (C := RX7) (T := TX7) (N := 2) hx hb hts (fun _ h => List.mem_cons_of_mem _ (List.mem_append_left _ (List.mem_append_left _ (List.mem_append_right _ h)))) hown hK hP 0 rfl rfl 1 (by decide) (hts (.fieldLink RX7 11 "HoldsOnceDenied$Old" "figure" "I") (by decide +kernel)) (fun x9 h9 => u_same (hts (.sameField "HoldsOnceDenied$Old" "HoldsOnceDenied$Denier" "figure" "I") (by decide +kernel)) x9 h9) rfl dX7_fail_1 ?_
  refine ho_if_eq (tgt := 17) hx hb dX7_fail_4 (by decide) (by omega) (fun c_4 => ?_) (fun c_4 => ?_)
  · refine vx_ret (W.widen (k := 1) (n := 6) (by decide) (by decide) ?_)
    exact W.vret hx hb hr (fun T9 hT9 hW9 => ⟨⟨(), rfl, c_4, trivial⟩, hS.F hT9⟩) hS.2.2 dX7_fail_17
  refine vx_throwS (cls := "java/lang/UnsupportedOperationException") (text := "an old one fails") (names := ["java/lang/RuntimeException", "java/lang/Exception"]) (ik := 31) (is := 33) (ic := 35) (sa := sa 3) (A := fun q => s.heap.size ≤ q) hx hb hl0 hown (by decide +kernel) (by decide +kernel) (hts (.classLink RX7 31 "java/lang/UnsupportedOperationException") (by decide +kernel)) (hts (.initialized "java/lang/UnsupportedOperationException") (by decide +kernel)) (hVX.str3) ?_ (by decide +kernel) hVX.1 hVX.2.1 hS (hl.1.trans hml.symm) dX7_fail_7 dX7_fail_10 dX7_fail_11 dX7_fail_13 dX7_fail_16 (fun z h => (hno z h).elim) (Nat.le_of_ble_eq_true rfl) (Nat.le_of_ble_eq_true rfl) (Nat.le_of_ble_eq_true rfl) (Nat.le_of_ble_eq_true rfl) hlocks (fun t h1 h2 h3 => ⟨(), c_4, rfl, h2, fun q h4 _ => h3 q h4⟩) (fun z h => by cases h) (Nat.le_refl _) (Nat.le_refl _)
  exact vx_hat (fun w h => hts w (List.mem_cons_of_mem _ (List.mem_append_right _ h))) (B := [.castable "java/lang/UnsupportedOperationException" "java/lang/UnsupportedOperationException", .declares ⟨"java/lang/RuntimeException", "<init>", "(Ljava/lang/String;)V"⟩, .declares ⟨"java/lang/Exception", "<init>", "(Ljava/lang/String;)V"⟩, .declares ⟨"java/lang/Throwable", "<init>", "(Ljava/lang/String;)V"⟩] ) (by decide +kernel) (vx_c (va_Nw.use rfl hVX.cast2) (vx_c (va_Nw.use rfl hVX.dec0) (vx_c (va_Nw.use rfl hVX.dec1) (vx_c (va_Nw.use rfl hVX.dec2) vx_n))))
