set_option maxHeartbeats 4000000 in
set_option maxRecDepth 100000 in
/-- has(bits, i) -/
theorem c_X11_has (l : Launch) (dC : Nat → ClassId) (dI : Nat → Nat → Nat) (cI cD cR : ClassId) (b i : Nat) (kb : b < 2 ^ 31) (hi : i < 9) : Met l yX11_has wsX11_has ({ frames := 0, cells := 0, slots := 0, locals := 0 }) (pcR dC dI cI cD cR [.int (nI b), .int (nI i)] (fun H => True)) (vp_Si (fun r => r = bI (b.testBit i))) 0 0 (fun _ => False) := by
  refine Met.ofW (cc := cX11_has) (maxL := 2) (ret := (some .boolean)) (by decide) rfl ?_
  intro p e s m args below meth c s₁ B hml hv
  obtain ⟨rfl, hH0, hCX⟩ := hv
  have hx := B.exec
  have hb := B.bytes
  have hr := B.returns
  have hts := atoms_spec (ws := wsX11_has) B.pre
  have hown : s.vm.findClass RX11 = some m.cls := findClass_of_methodNamed B.named
  have hlocks := B.notSynchronized
  have hK := hCX.1
  have hl := lv_entry ([.int (nI b), .int (nI i)]) (n := 2) (Nat.le_of_ble_eq_true rfl)
  rw [lg_entry_eq]
  generalize (lg_sl ([.int (nI b), .int (nI i)]) ++ List.replicate (2 - (lg_sl ([.int (nI b), .int (nI i)])).length) Slot.unset).toArray = ls at hl ⊢
  have hl : lv_has ls 2 [(0, .int (nI b)), (1, .int (nI i))] := hl
  refine lv_iload_n hx hb dX11_has_0 rfl (lv_at hl 1 rfl) ?_
  refine ho_if_lt0 hx hb dX11_has_1 (tgt := 22) (by decide) (by omega) ?_
  refine lv_iload_n hx hb dX11_has_4 rfl (lv_at hl 1 rfl) ?_
  refine lv_bipush (v := nI 9) hx hb dX11_has_5 (by decide +kernel) ?_
  refine ho_icmp_ge (tgt := 22) hx hb dX11_has_7 (by decide) (by omega) (by omega) (fun c_7 => ?_) (fun c_7 => ?_)
  · exfalso; omega
  refine lv_iload_n hx hb dX11_has_10 rfl (lv_at hl 0 rfl) ?_
  refine lv_iload_n hx hb dX11_has_11 rfl (lv_at hl 1 rfl) ?_
  refine ho_shr hx hb dX11_has_12 (by omega) (by omega) ?_
  refine lv_iconst (v := nI 1) hx hb dX11_has_13 (by decide +kernel) ?_
  refine ho_iand hx hb dX11_has_14 ?_
  refine ho_if_eq (tgt := 22) hx hb dX11_has_15 (by decide) (by rw [tb_shr]; cases b.testBit i <;> decide) (fun c_15 => ?_) (fun c_15 => ?_)
  · refine lv_iconst (v := nI 0) hx hb dX11_has_22 (by decide +kernel) ?_
    exact W.zret (v := nI 0) hx hb hr rfl (fun T9 hT9 hW9 => ⟨_, rfl, (bI_f (by rw [tb_shr] at c_15; cases h9 : b.testBit i <;> simp_all)), hT9⟩) (fun q h => by cases h) dX11_has_23
  refine lv_iconst (v := nI 1) hx hb dX11_has_18 (by decide +kernel) ?_
  refine lv_goto (tgt := 23) hx hb dX11_has_19 (by decide) ?_
  exact W.zret (v := nI 1) hx hb hr rfl (fun T9 hT9 hW9 => ⟨_, rfl, (bI_t (by rw [tb_shr] at c_15; cases h9 : b.testBit i <;> simp_all)), hT9⟩) (fun q h => by cases h) dX11_has_23
set_option maxHeartbeats 4000000 in
set_option maxRecDepth 100000 in
/-- bit(i) -/
theorem c_X11_bit (l : Launch) (dC : Nat → ClassId) (dI : Nat → Nat → Nat) (cI cD cR : ClassId) (i : Nat) (hi : i < 9) : Met l yX11_bit wsX11_bit ({ frames := 0, cells := 0, slots := 0, locals := 0 }) (pcR dC dI cI cD cR [.int (nI i)] (fun H => True)) (vp_Si (fun r => r = nI (2 ^ i))) 0 0 (fun _ => False) := by
  refine Met.ofW (cc := cX11_bit) (maxL := 1) (ret := (some .int)) (by decide) rfl ?_
  intro p e s m args below meth c s₁ B hml hv
  obtain ⟨rfl, hH0, hCX⟩ := hv
  have hx := B.exec
  have hb := B.bytes
  have hr := B.returns
  have hts := atoms_spec (ws := wsX11_bit) B.pre
  have hown : s.vm.findClass RX11 = some m.cls := findClass_of_methodNamed B.named
  have hlocks := B.notSynchronized
  have hK := hCX.1
  have hl := lv_entry ([.int (nI i)]) (n := 1) (Nat.le_of_ble_eq_true rfl)
  rw [lg_entry_eq]
  generalize (lg_sl ([.int (nI i)]) ++ List.replicate (1 - (lg_sl ([.int (nI i)])).length) Slot.unset).toArray = ls at hl ⊢
  have hl : lv_has ls 1 [(0, .int (nI i))] := hl
  refine lv_iload_n hx hb dX11_bit_0 rfl (lv_at hl 0 rfl) ?_
  refine ho_if_lt0 hx hb dX11_bit_1 (tgt := 16) (by decide) (by omega) ?_
  refine lv_iload_n hx hb dX11_bit_4 rfl (lv_at hl 0 rfl) ?_
  refine lv_bipush (v := nI 9) hx hb dX11_bit_5 (by decide +kernel) ?_
  refine ho_icmp_ge (tgt := 16) hx hb dX11_bit_7 (by decide) (by omega) (by omega) (fun c_7 => ?_) (fun c_7 => ?_)
  · exfalso; omega
  refine lv_iconst (v := nI 1) hx hb dX11_bit_10 (by decide +kernel) ?_
  refine lv_iload_n hx hb dX11_bit_11 rfl (lv_at hl 0 rfl) ?_
  refine ho_shl1 hx hb dX11_bit_12 (by omega) ?_
  refine lv_goto (tgt := 17) hx hb dX11_bit_13 (by decide) ?_
  exact W.iret (v := nI (2 ^ i)) hx hb hr (fun T9 hT9 hW9 => ⟨_, rfl, rfl, hT9⟩) (fun q h => by cases h) dX11_bit_17
set_option maxHeartbeats 4000000 in
set_option maxRecDepth 100000 in
/-- within(part, whole) -/
theorem c_X11_within (l : Launch) (dC : Nat → ClassId) (dI : Nat → Nat → Nat) (cI cD cR : ClassId) (a b : Nat) (ha : a < 2 ^ 31) : Met l yX11_within wsX11_within ({ frames := 0, cells := 0, slots := 0, locals := 0 }) (pcR dC dI cI cD cR [.int (nI a), .int (nI b)] (fun H => True)) (vp_Si (fun r => r = bI (sdf a b == 0))) 0 0 (fun _ => False) := by
  refine Met.ofW (cc := cX11_within) (maxL := 2) (ret := (some .boolean)) (by decide) rfl ?_
  intro p e s m args below meth c s₁ B hml hv
  obtain ⟨rfl, hH0, hCX⟩ := hv
  have hx := B.exec
  have hb := B.bytes
  have hr := B.returns
  have hts := atoms_spec (ws := wsX11_within) B.pre
  have hown : s.vm.findClass RX11 = some m.cls := findClass_of_methodNamed B.named
  have hlocks := B.notSynchronized
  have hK := hCX.1
  have hl := lv_entry ([.int (nI a), .int (nI b)]) (n := 2) (Nat.le_of_ble_eq_true rfl)
  rw [lg_entry_eq]
  generalize (lg_sl ([.int (nI a), .int (nI b)]) ++ List.replicate (2 - (lg_sl ([.int (nI a), .int (nI b)])).length) Slot.unset).toArray = ls at hl ⊢
  have hl : lv_has ls 2 [(0, .int (nI a)), (1, .int (nI b))] := hl
  refine lv_iload_n hx hb dX11_within_0 rfl (lv_at hl 0 rfl) ?_
  refine lv_iload_n hx hb dX11_within_1 rfl (lv_at hl 1 rfl) ?_
  refine lv_iconst (v := (-1)) hx hb dX11_within_2 (by decide +kernel) ?_
  refine lv_ixor hx hb dX11_within_3 ?_
  refine ho_iandC hx hb dX11_within_4 ?_
  refine ho_if_ne (tgt := 12) hx hb dX11_within_5 (by decide) (sdf_lt ha) (fun c_5 => ?_) (fun c_5 => ?_)
  · refine lv_iconst (v := nI 0) hx hb dX11_within_12 (by decide +kernel) ?_
    exact W.zret (v := nI 0) hx hb hr rfl (fun T9 hT9 hW9 => ⟨_, rfl, (bI_f (by simp [c_5])), hT9⟩) (fun q h => by cases h) dX11_within_13
  refine lv_iconst (v := nI 1) hx hb dX11_within_8 (by decide +kernel) ?_
  refine lv_goto (tgt := 13) hx hb dX11_within_9 (by decide) ?_
  exact W.zret (v := nI 1) hx hb hr rfl (fun T9 hT9 hW9 => ⟨_, rfl, (bI_t (by simp [c_5])), hT9⟩) (fun q h => by cases h) dX11_within_13
set_option maxHeartbeats 4000000 in
set_option maxRecDepth 100000 in
/-- a denier may dispute what is neither true nor known to him -/
theorem c_X2_mayDispute (l : Launch) (dC : Nat → ClassId) (dI : Nat → Nat → Nat) (cI cD cR : ClassId) (a i t kn nd : Nat) (hi : i < 9) (ht : t < 512) (hkn : kn < 512) (hnd : nd < 512) : Met l yX2_mayDispute wsX2_mayDispute ({ frames := 1, cells := 0, slots := 0, locals := 21 }) (pcR dC dI cI cD cR [.ref a, .int (nI i), .int (nI t), .int (nI kn), .int (nI nd)] (fun H => True)) (vp_Si (fun r => r = bI (plB t kn i))) 0 0 (fun _ => False) := by
  refine Met.ofW (cc := cX2_mayDispute) (maxL := 5) (ret := (some .boolean)) (by decide) rfl ?_
  intro p e s m args below meth c s₁ B hml hv
  obtain ⟨rfl, hH0, hCX⟩ := hv
  have hx := B.exec
  have hb := B.bytes
  have hr := B.returns
  have hts := atoms_spec (ws := wsX2_mayDispute) B.pre
  have hown : s.vm.findClass RX2 = some m.cls := findClass_of_methodNamed B.named
  have hlocks := B.notSynchronized
  have hK := hCX.1
  have hl := lv_entry ([.ref a, .int (nI i), .int (nI t), .int (nI kn), .int (nI nd)]) (n := 5) (Nat.le_of_ble_eq_true rfl)
  rw [lg_entry_eq]
  generalize (lg_sl ([.ref a, .int (nI i), .int (nI t), .int (nI kn), .int (nI nd)]) ++ List.replicate (5 - (lg_sl ([.ref a, .int (nI i), .int (nI t), .int (nI kn), .int (nI nd)])).length) Slot.unset).toArray = ls at hl ⊢
  have hl : lv_has ls 5 [(0, .ref a), (1, .int (nI i)), (2, .int (nI t)), (3, .int (nI kn)), (4, .int (nI nd))] := hl
  refine lv_iload_n hx hb dX2_mayDispute_0 rfl (lv_at hl 2 rfl) ?_
  refine lv_iload_n hx hb dX2_mayDispute_1 rfl (lv_at hl 1 rfl) ?_
  refine vp_callSi ((va_runSN (As := [.int (nI t), .int (nI i)]) (rest := []) ⟨hx, hb, hml, hown, hts⟩ (c_X11_has l dC dI cI cD cR t i (by first | omega | assumption | exact gnd _ | exact gkn _ | exact Nat.lt_trans (gkn _) (by decide) | exact Nat.lt_trans (gnd _) (by decide)) (by first | omega | assumption | exact gnd _ | exact gkn _ | exact Nat.lt_trans (gkn _) (by decide) | exact Nat.lt_trans (gnd _) (by decide))) ⟨va_cnB (host := "HoldsOnceDenied") 2 hts gX2_mayDispute_X11_has_n16 rfl rfl rfl (CX.nm hCX 7 rfl) (hts (.initialized RX11) (by decide +kernel)) (by decide +kernel) ⟨Nat.le_of_ble_eq_true rfl, Nat.le_of_ble_eq_true rfl⟩, (hts (.static yX11_has) (by decide +kernel)), trivial⟩ (preS_R hCX (trivial)) rfl rfl hl.1 rfl (lv_room (Nat.le_of_ble_eq_true rfl)) dX2_mayDispute_2 ⟨Nat.le_of_ble_eq_true (by first | rfl | decide), Nat.le_of_ble_eq_true (by first | rfl | decide)⟩).run) (fun r_2 hr_2 => ?_)
  subst hr_2
  refine ho_bne (tgt := 20) hx hb dX2_mayDispute_5 (by decide) (fun c_5 => ?_) (fun c_5 => ?_)
  · refine lv_iconst (v := nI 0) hx hb dX2_mayDispute_20 (by decide +kernel) ?_
    exact W.zret (v := nI 0) hx hb hr rfl (fun T9 hT9 hW9 => ⟨_, rfl, (bI_f (by simp_all [plB])), hT9⟩) (fun q h => by cases h) dX2_mayDispute_21
  refine lv_iload_n hx hb dX2_mayDispute_8 rfl (lv_at hl 3 rfl) ?_
  refine lv_iload_n hx hb dX2_mayDispute_9 rfl (lv_at hl 1 rfl) ?_
  refine vp_callSi ((va_runSN (As := [.int (nI kn), .int (nI i)]) (rest := []) ⟨hx, hb, hml, hown, hts⟩ (c_X11_has l dC dI cI cD cR kn i (by first | omega | assumption | exact gnd _ | exact gkn _ | exact Nat.lt_trans (gkn _) (by decide) | exact Nat.lt_trans (gnd _) (by decide)) (by first | omega | assumption | exact gnd _ | exact gkn _ | exact Nat.lt_trans (gkn _) (by decide) | exact Nat.lt_trans (gnd _) (by decide))) ⟨va_cnB (host := "HoldsOnceDenied") 2 hts gX2_mayDispute_X11_has_n16 rfl rfl rfl (CX.nm hCX 7 rfl) (hts (.initialized RX11) (by decide +kernel)) (by decide +kernel) ⟨Nat.le_of_ble_eq_true rfl, Nat.le_of_ble_eq_true rfl⟩, (hts (.static yX11_has) (by decide +kernel)), trivial⟩ (preS_R hCX (trivial)) rfl rfl hl.1 rfl (lv_room (Nat.le_of_ble_eq_true rfl)) dX2_mayDispute_10 ⟨Nat.le_of_ble_eq_true (by first | rfl | decide), Nat.le_of_ble_eq_true (by first | rfl | decide)⟩).run) (fun r_10 hr_10 => ?_)
  subst hr_10
  refine ho_bne (tgt := 20) hx hb dX2_mayDispute_13 (by decide) (fun c_13 => ?_) (fun c_13 => ?_)
  · refine lv_iconst (v := nI 0) hx hb dX2_mayDispute_20 (by decide +kernel) ?_
    exact W.zret (v := nI 0) hx hb hr rfl (fun T9 hT9 hW9 => ⟨_, rfl, (bI_f (by simp_all [plB])), hT9⟩) (fun q h => by cases h) dX2_mayDispute_21
  refine lv_iconst (v := nI 1) hx hb dX2_mayDispute_16 (by decide +kernel) ?_
  refine lv_goto (tgt := 21) hx hb dX2_mayDispute_17 (by decide) ?_
  exact W.zret (v := nI 1) hx hb hr rfl (fun T9 hT9 hW9 => ⟨_, rfl, (bI_t (by simp_all [plB])), hT9⟩) (fun q h => by cases h) dX2_mayDispute_21
set_option maxHeartbeats 4000000 in
set_option maxRecDepth 100000 in
/-- a denier is silenced once the needs are met -/
theorem c_X2_isSilenced (l : Launch) (dC : Nat → ClassId) (dI : Nat → Nat → Nat) (cI cD cR : ClassId) (a t kn nd : Nat) (odd : Bool) (ht : t < 512) (hkn : kn < 512) (hnd : nd < 512) : Met l yX2_isSilenced wsX2_isSilenced ({ frames := 1, cells := 0, slots := 0, locals := 21 }) (pcR dC dI cI cD cR [.ref a, .int (nI t), .int (nI kn), .int (nI nd), .int (bI odd)] (fun H => True)) (vp_Si (fun r => r = bI (meB t kn nd))) 0 0 (fun _ => False) := by
  refine Met.ofW (cc := cX2_isSilenced) (maxL := 5) (ret := (some .boolean)) (by decide) rfl ?_
  intro p e s m args below meth c s₁ B hml hv
  obtain ⟨rfl, hH0, hCX⟩ := hv
  have hx := B.exec
  have hb := B.bytes
  have hr := B.returns
  have hts := atoms_spec (ws := wsX2_isSilenced) B.pre
  have hown : s.vm.findClass RX2 = some m.cls := findClass_of_methodNamed B.named
  have hlocks := B.notSynchronized
  have hK := hCX.1
  have hl := lv_entry ([.ref a, .int (nI t), .int (nI kn), .int (nI nd), .int (bI odd)]) (n := 5) (Nat.le_of_ble_eq_true rfl)
  rw [lg_entry_eq]
  generalize (lg_sl ([.ref a, .int (nI t), .int (nI kn), .int (nI nd), .int (bI odd)]) ++ List.replicate (5 - (lg_sl ([.ref a, .int (nI t), .int (nI kn), .int (nI nd), .int (bI odd)])).length) Slot.unset).toArray = ls at hl ⊢
  have hl : lv_has ls 5 [(0, .ref a), (1, .int (nI t)), (2, .int (nI kn)), (3, .int (nI nd)), (4, .int (bI odd))] := hl
  refine lv_iload_n hx hb dX2_isSilenced_0 rfl (lv_at hl 3 rfl) ?_
  refine lv_iload_n hx hb dX2_isSilenced_1 rfl (lv_at hl 1 rfl) ?_
  refine lv_iload_n hx hb dX2_isSilenced_2 rfl (lv_at hl 2 rfl) ?_
  refine ho_ior hx hb dX2_isSilenced_3 ?_
  refine vp_callSi ((va_runSN (As := [.int (nI nd), .int (nI (t ||| kn))]) (rest := []) ⟨hx, hb, hml, hown, hts⟩ (c_X11_within l dC dI cI cD cR nd (t ||| kn) (by first | omega | assumption | exact gnd _ | exact gkn _ | exact Nat.lt_trans (gkn _) (by decide) | exact Nat.lt_trans (gnd _) (by decide))) ⟨va_cnB (host := "HoldsOnceDenied") 2 hts gX2_isSilenced_X11_within_n22 rfl rfl rfl (CX.nm hCX 8 rfl) (hts (.initialized RX11) (by decide +kernel)) (by decide +kernel) ⟨Nat.le_of_ble_eq_true rfl, Nat.le_of_ble_eq_true rfl⟩, (hts (.static yX11_within) (by decide +kernel)), trivial⟩ (preS_R hCX (trivial)) rfl rfl hl.1 rfl (lv_room (Nat.le_of_ble_eq_true rfl)) dX2_isSilenced_4 ⟨Nat.le_of_ble_eq_true (by first | rfl | decide), Nat.le_of_ble_eq_true (by first | rfl | decide)⟩).run) (fun r_4 hr_4 => ?_)
  subst hr_4
  exact W.zret (v := bI (sdf nd (t ||| kn) == 0)) hx hb hr (bI_nar _) (fun T9 hT9 hW9 => ⟨_, rfl, (congrArg bI (by rfl)), hT9⟩) (fun q h => by cases h) dX2_isSilenced_7
set_option maxHeartbeats 4000000 in
set_option maxRecDepth 100000 in
theorem c_X2_effort (l : Launch) (dC : Nat → ClassId) (dI : Nat → Nat → Nat) (cI cD cR : ClassId) (a n : Nat) (hn : n < 100) : Met l yX2_effort wsX2_effort ({ frames := 0, cells := 0, slots := 0, locals := 0 }) (pcR dC dI cI cD cR [.ref a, .int (nI n)] (fun H => True)) (vp_Si (fun r => r = nI (n + 1))) 0 0 (fun _ => False) := by
  refine Met.ofW (cc := cX2_effort) (maxL := 2) (ret := (some .int)) (by decide) rfl ?_
  intro p e s m args below meth c s₁ B hml hv
  obtain ⟨rfl, hH0, hCX⟩ := hv
  have hx := B.exec
  have hb := B.bytes
  have hr := B.returns
  have hts := atoms_spec (ws := wsX2_effort) B.pre
  have hown : s.vm.findClass RX2 = some m.cls := findClass_of_methodNamed B.named
  have hlocks := B.notSynchronized
  have hK := hCX.1
  have hl := lv_entry ([.ref a, .int (nI n)]) (n := 2) (Nat.le_of_ble_eq_true rfl)
  rw [lg_entry_eq]
  generalize (lg_sl ([.ref a, .int (nI n)]) ++ List.replicate (2 - (lg_sl ([.ref a, .int (nI n)])).length) Slot.unset).toArray = ls at hl ⊢
  have hl : lv_has ls 2 [(0, .ref a), (1, .int (nI n))] := hl
  refine lv_iload_n hx hb dX2_effort_0 rfl (lv_at hl 1 rfl) ?_
  refine lv_iconst (v := nI 1) hx hb dX2_effort_1 (by decide +kernel) ?_
  refine ho_iadd hx hb dX2_effort_2 ?_
  exact W.iret (v := nI (n + 1)) hx hb hr (fun T9 hT9 hW9 => ⟨_, rfl, rfl, hT9⟩) (fun q h => by cases h) dX2_effort_3
set_option maxHeartbeats 4000000 in
set_option maxRecDepth 100000 in
theorem c_X2_asks (l : Launch) (dC : Nat → ClassId) (dI : Nat → Nat → Nat) (cI cD cR : ClassId) (a : Nat)  : Met l yX2_asks wsX2_asks ({ frames := 0, cells := 0, slots := 0, locals := 0 }) (pcR dC dI cI cD cR [.ref a] (fun H => True)) (vp_Si (fun r => r = nI 3)) 0 0 (fun _ => False) := by
  refine Met.ofW (cc := cX2_asks) (maxL := 1) (ret := (some .int)) (by decide) rfl ?_
  intro p e s m args below meth c s₁ B hml hv
  obtain ⟨rfl, hH0, hCX⟩ := hv
  have hx := B.exec
  have hb := B.bytes
  have hr := B.returns
  have hts := atoms_spec (ws := wsX2_asks) B.pre
  have hown : s.vm.findClass RX2 = some m.cls := findClass_of_methodNamed B.named
  have hlocks := B.notSynchronized
  have hK := hCX.1
  have hl := lv_entry ([.ref a]) (n := 1) (Nat.le_of_ble_eq_true rfl)
  rw [lg_entry_eq]
  generalize (lg_sl ([.ref a]) ++ List.replicate (1 - (lg_sl ([.ref a])).length) Slot.unset).toArray = ls at hl ⊢
  have hl : lv_has ls 1 [(0, .ref a)] := hl
  refine lv_iconst (v := nI 3) hx hb dX2_asks_0 (by decide +kernel) ?_
  exact W.iret (v := nI 3) hx hb hr (fun T9 hT9 hW9 => ⟨_, rfl, rfl, hT9⟩) (fun q h => by cases h) dX2_asks_1
set_option maxHeartbeats 4000000 in
set_option maxRecDepth 100000 in
theorem c_X3_mayDispute (l : Launch) (dC : Nat → ClassId) (dI : Nat → Nat → Nat) (cI cD cR : ClassId) (a i t kn nd : Nat) (hi : i < 9) (ht : t < 512) (hkn : kn < 512) (hnd : nd < 512) : Met l yX3_mayDispute wsX3_mayDispute ({ frames := 1, cells := 0, slots := 0, locals := 21 }) (pcR dC dI cI cD cR [.ref a, .int (nI i), .int (nI t), .int (nI kn), .int (nI nd)] (fun H => True)) (vp_Si (fun r => r = bI (!t.testBit i))) 0 0 (fun _ => False) := by
  refine Met.ofW (cc := cX3_mayDispute) (maxL := 5) (ret := (some .boolean)) (by decide) rfl ?_
  intro p e s m args below meth c s₁ B hml hv
  obtain ⟨rfl, hH0, hCX⟩ := hv
  have hx := B.exec
  have hb := B.bytes
  have hr := B.returns
  have hts := atoms_spec (ws := wsX3_mayDispute) B.pre
  have hown : s.vm.findClass RX3 = some m.cls := findClass_of_methodNamed B.named
  have hlocks := B.notSynchronized
  have hK := hCX.1
  have hl := lv_entry ([.ref a, .int (nI i), .int (nI t), .int (nI kn), .int (nI nd)]) (n := 5) (Nat.le_of_ble_eq_true rfl)
  rw [lg_entry_eq]
  generalize (lg_sl ([.ref a, .int (nI i), .int (nI t), .int (nI kn), .int (nI nd)]) ++ List.replicate (5 - (lg_sl ([.ref a, .int (nI i), .int (nI t), .int (nI kn), .int (nI nd)])).length) Slot.unset).toArray = ls at hl ⊢
  have hl : lv_has ls 5 [(0, .ref a), (1, .int (nI i)), (2, .int (nI t)), (3, .int (nI kn)), (4, .int (nI nd))] := hl
  refine lv_iload_n hx hb dX3_mayDispute_0 rfl (lv_at hl 2 rfl) ?_
  refine lv_iload_n hx hb dX3_mayDispute_1 rfl (lv_at hl 1 rfl) ?_
  refine vp_callSi ((va_runSN (As := [.int (nI t), .int (nI i)]) (rest := []) ⟨hx, hb, hml, hown, hts⟩ (c_X11_has l dC dI cI cD cR t i (by first | omega | assumption | exact gnd _ | exact gkn _ | exact Nat.lt_trans (gkn _) (by decide) | exact Nat.lt_trans (gnd _) (by decide)) (by first | omega | assumption | exact gnd _ | exact gkn _ | exact Nat.lt_trans (gkn _) (by decide) | exact Nat.lt_trans (gnd _) (by decide))) ⟨va_cnB (host := "HoldsOnceDenied") 2 hts gX3_mayDispute_X11_has_n7 rfl rfl rfl (CX.nm hCX 4 rfl) (hts (.initialized RX11) (by decide +kernel)) (by decide +kernel) ⟨Nat.le_of_ble_eq_true rfl, Nat.le_of_ble_eq_true rfl⟩, (hts (.static yX11_has) (by decide +kernel)), trivial⟩ (preS_R hCX (trivial)) rfl rfl hl.1 rfl (lv_room (Nat.le_of_ble_eq_true rfl)) dX3_mayDispute_2 ⟨Nat.le_of_ble_eq_true (by first | rfl | decide), Nat.le_of_ble_eq_true (by first | rfl | decide)⟩).run) (fun r_2 hr_2 => ?_)
  subst hr_2
  refine ho_bne (tgt := 12) hx hb dX3_mayDispute_5 (by decide) (fun c_5 => ?_) (fun c_5 => ?_)
  · refine lv_iconst (v := nI 0) hx hb dX3_mayDispute_12 (by decide +kernel) ?_
    exact W.zret (v := nI 0) hx hb hr rfl (fun T9 hT9 hW9 => ⟨_, rfl, (bI_f (by simp_all)), hT9⟩) (fun q h => by cases h) dX3_mayDispute_13
  refine lv_iconst (v := nI 1) hx hb dX3_mayDispute_8 (by decide +kernel) ?_
  refine lv_goto (tgt := 13) hx hb dX3_mayDispute_9 (by decide) ?_
  exact W.zret (v := nI 1) hx hb hr rfl (fun T9 hT9 hW9 => ⟨_, rfl, (bI_t (by simp_all)), hT9⟩) (fun q h => by cases h) dX3_mayDispute_13
set_option maxHeartbeats 4000000 in
set_option maxRecDepth 100000 in
theorem c_X3_effort_k1 (l : Launch) (dC : Nat → ClassId) (dI : Nat → Nat → Nat) (cI cD cR : ClassId) (a f n : Nat) (hn : n < 100) : Met l yX3_effort wsX3_effort ({ frames := 1, cells := 0, slots := 0, locals := 21 }) (pcR dC dI cI cD cR [.ref a, .int (nI n)] (fun H => va_P (dC, dI) vwCl ([(a, dnE 1 f)]) H)) (vp_Si (fun r => r = nI (2 * (n + 1)))) 0 0 (fun _ => False) := by
  refine Met.ofW (cc := cX3_effort) (maxL := 2) (ret := (some .int)) (by decide) rfl ?_
  intro p e s m args below meth c s₁ B hml hv
  obtain ⟨rfl, hH0, hCX⟩ := hv
  have hx := B.exec
  have hb := B.bytes
  have hr := B.returns
  have hts := atoms_spec (ws := wsX3_effort) B.pre
  have hown : s.vm.findClass RX3 = some m.cls := findClass_of_methodNamed B.named
  have hlocks := B.notSynchronized
  have hK := hCX.1
  have hP := hH0
  have hl := lv_entry ([.ref a, .int (nI n)]) (n := 2) (Nat.le_of_ble_eq_true rfl)
  rw [lg_entry_eq]
  generalize (lg_sl ([.ref a, .int (nI n)]) ++ List.replicate (2 - (lg_sl ([.ref a, .int (nI n)])).length) Slot.unset).toArray = ls at hl ⊢
  have hl : lv_has ls 2 [(0, .ref a), (1, .int (nI n))] := hl
  refine lv_iconst (v := nI 2) hx hb dX3_effort_0 (by decide +kernel) ?_
  refine lv_aload_n hx hb dX3_effort_1 rfl (lv_at hl 0 rfl) ?_
  refine lv_iload_n hx hb dX3_effort_2 rfl (lv_at hl 1 rfl) ?_
  refine vp_callSi ((va_runSU (As := [.int (nI n)]) (rest := [.int (nI 2)]) (hK.1 3 _ rfl).2 ⟨hx, hb, hml, hown, hts⟩ (c_X2_effort l dC dI cI cD cR a n (by first | omega | assumption | exact gnd _ | exact gkn _ | exact Nat.lt_trans (gkn _) (by decide) | exact Nat.lt_trans (gnd _) (by decide))) (va_cwSU 1 hts gX3_effort_X2_effort_s13 rfl rfl rfl (by decide +kernel) ⟨Nat.le_of_ble_eq_true rfl, Nat.le_of_ble_eq_true rfl⟩) (preV_R hCX (va_recv hK hP (ci := 3) (q0 := 0) rfl rfl) (trivial)) rfl rfl hl.1 rfl (lv_room (Nat.le_of_ble_eq_true rfl)) dX3_effort_3 ⟨Nat.le_of_ble_eq_true (by first | rfl | decide), Nat.le_of_ble_eq_true (by first | rfl | decide)⟩).run) (fun r_3 hr_3 => ?_)
  subst hr_3
  refine ho_imul hx hb dX3_effort_6 ?_
  exact W.iret (v := nI (2 * (n + 1))) hx hb hr (fun T9 hT9 hW9 => ⟨_, rfl, rfl, hT9⟩) (fun q h => by cases h) dX3_effort_7
set_option maxHeartbeats 4000000 in
set_option maxRecDepth 100000 in
theorem c_X3_asks_k1 (l : Launch) (dC : Nat → ClassId) (dI : Nat → Nat → Nat) (cI cD cR : ClassId) (a f : Nat)  : Met l yX3_asks wsX3_asks ({ frames := 1, cells := 0, slots := 0, locals := 20 }) (pcR dC dI cI cD cR [.ref a] (fun H => va_P (dC, dI) vwCl ([(a, dnE 1 f)]) H)) (vp_Si (fun r => r = nI 2)) 0 0 (fun _ => False) := by
  refine Met.ofW (cc := cX3_asks) (maxL := 1) (ret := (some .int)) (by decide) rfl ?_
  intro p e s m args below meth c s₁ B hml hv
  obtain ⟨rfl, hH0, hCX⟩ := hv
  have hx := B.exec
  have hb := B.bytes
  have hr := B.returns
  have hts := atoms_spec (ws := wsX3_asks) B.pre
  have hown : s.vm.findClass RX3 = some m.cls := findClass_of_methodNamed B.named
  have hlocks := B.notSynchronized
  have hK := hCX.1
  have hP := hH0
  have hl := lv_entry ([.ref a]) (n := 1) (Nat.le_of_ble_eq_true rfl)
  rw [lg_entry_eq]
  generalize (lg_sl ([.ref a]) ++ List.replicate (1 - (lg_sl ([.ref a])).length) Slot.unset).toArray = ls at hl ⊢
  have hl : lv_has ls 1 [(0, .ref a)] := hl
  refine lv_aload_n hx hb dX3_asks_0 rfl (lv_at hl 0 rfl) ?_
  refine vp_callSi ((va_runSU (As := []) (rest := []) (hK.1 3 _ rfl).2 ⟨hx, hb, hml, hown, hts⟩ (c_X2_asks l dC dI cI cD cR a) (va_cwSU 0 hts gX3_asks_X2_asks_s17 rfl rfl rfl (by decide +kernel) ⟨Nat.le_of_ble_eq_true rfl, Nat.le_of_ble_eq_true rfl⟩) (preV_R hCX (va_recv hK hP (ci := 3) (q0 := 0) rfl rfl) (trivial)) rfl rfl hl.1 rfl (lv_room (Nat.le_of_ble_eq_true rfl)) dX3_asks_1 ⟨Nat.le_of_ble_eq_true (by first | rfl | decide), Nat.le_of_ble_eq_true (by first | rfl | decide)⟩).run) (fun r_1 hr_1 => ?_)
  subst hr_1
  refine lv_iconst (v := nI 1) hx hb dX3_asks_4 (by decide +kernel) ?_
  refine ho_isub hx hb dX3_asks_5 (by omega) ?_
  exact W.iret (v := nI (3 - 1)) hx hb hr (fun T9 hT9 hW9 => ⟨_, rfl, (congrArg nI (by rfl)), hT9⟩) (fun q h => by cases h) dX3_asks_6
set_option maxHeartbeats 4000000 in
set_option maxRecDepth 100000 in
theorem c_X3_effort_k3 (l : Launch) (dC : Nat → ClassId) (dI : Nat → Nat → Nat) (cI cD cR : ClassId) (a f n : Nat) (hn : n < 100) : Met l yX3_effort wsX3_effort ({ frames := 1, cells := 0, slots := 0, locals := 21 }) (pcR dC dI cI cD cR [.ref a, .int (nI n)] (fun H => va_P (dC, dI) vwCl ([(a, dnE 3 f)]) H)) (vp_Si (fun r => r = nI (2 * (n + 1)))) 0 0 (fun _ => False) := by
  refine Met.ofW (cc := cX3_effort) (maxL := 2) (ret := (some .int)) (by decide) rfl ?_
  intro p e s m args below meth c s₁ B hml hv
  obtain ⟨rfl, hH0, hCX⟩ := hv
  have hx := B.exec
  have hb := B.bytes
  have hr := B.returns
  have hts := atoms_spec (ws := wsX3_effort) B.pre
  have hown : s.vm.findClass RX3 = some m.cls := findClass_of_methodNamed B.named
  have hlocks := B.notSynchronized
  have hK := hCX.1
  have hP := hH0
  have hl := lv_entry ([.ref a, .int (nI n)]) (n := 2) (Nat.le_of_ble_eq_true rfl)
  rw [lg_entry_eq]
  generalize (lg_sl ([.ref a, .int (nI n)]) ++ List.replicate (2 - (lg_sl ([.ref a, .int (nI n)])).length) Slot.unset).toArray = ls at hl ⊢
  have hl : lv_has ls 2 [(0, .ref a), (1, .int (nI n))] := hl
  refine lv_iconst (v := nI 2) hx hb dX3_effort_0 (by decide +kernel) ?_
  refine lv_aload_n hx hb dX3_effort_1 rfl (lv_at hl 0 rfl) ?_
  refine lv_iload_n hx hb dX3_effort_2 rfl (lv_at hl 1 rfl) ?_
  refine vp_callSi ((va_runSU (As := [.int (nI n)]) (rest := [.int (nI 2)]) (hK.1 1 _ rfl).2 ⟨hx, hb, hml, hown, hts⟩ (c_X2_effort l dC dI cI cD cR a n (by first | omega | assumption | exact gnd _ | exact gkn _ | exact Nat.lt_trans (gkn _) (by decide) | exact Nat.lt_trans (gnd _) (by decide))) (va_cwSU 1 hts gX3_effort_X2_effort_s13 rfl rfl rfl (by decide +kernel) ⟨Nat.le_of_ble_eq_true rfl, Nat.le_of_ble_eq_true rfl⟩) (preV_R hCX (va_recv hK hP (ci := 1) (q0 := 0) rfl rfl) (trivial)) rfl rfl hl.1 rfl (lv_room (Nat.le_of_ble_eq_true rfl)) dX3_effort_3 ⟨Nat.le_of_ble_eq_true (by first | rfl | decide), Nat.le_of_ble_eq_true (by first | rfl | decide)⟩).run) (fun r_3 hr_3 => ?_)
  subst hr_3
  refine ho_imul hx hb dX3_effort_6 ?_
  exact W.iret (v := nI (2 * (n + 1))) hx hb hr (fun T9 hT9 hW9 => ⟨_, rfl, rfl, hT9⟩) (fun q h => by cases h) dX3_effort_7
set_option maxHeartbeats 4000000 in
set_option maxRecDepth 100000 in
theorem c_X3_asks_k3 (l : Launch) (dC : Nat → ClassId) (dI : Nat → Nat → Nat) (cI cD cR : ClassId) (a f : Nat)  : Met l yX3_asks wsX3_asks ({ frames := 1, cells := 0, slots := 0, locals := 20 }) (pcR dC dI cI cD cR [.ref a] (fun H => va_P (dC, dI) vwCl ([(a, dnE 3 f)]) H)) (vp_Si (fun r => r = nI 2)) 0 0 (fun _ => False) := by
  refine Met.ofW (cc := cX3_asks) (maxL := 1) (ret := (some .int)) (by decide) rfl ?_
  intro p e s m args below meth c s₁ B hml hv
  obtain ⟨rfl, hH0, hCX⟩ := hv
  have hx := B.exec
  have hb := B.bytes
  have hr := B.returns
  have hts := atoms_spec (ws := wsX3_asks) B.pre
  have hown : s.vm.findClass RX3 = some m.cls := findClass_of_methodNamed B.named
  have hlocks := B.notSynchronized
  have hK := hCX.1
  have hP := hH0
  have hl := lv_entry ([.ref a]) (n := 1) (Nat.le_of_ble_eq_true rfl)
  rw [lg_entry_eq]
  generalize (lg_sl ([.ref a]) ++ List.replicate (1 - (lg_sl ([.ref a])).length) Slot.unset).toArray = ls at hl ⊢
  have hl : lv_has ls 1 [(0, .ref a)] := hl
  refine lv_aload_n hx hb dX3_asks_0 rfl (lv_at hl 0 rfl) ?_
  refine vp_callSi ((va_runSU (As := []) (rest := []) (hK.1 1 _ rfl).2 ⟨hx, hb, hml, hown, hts⟩ (c_X2_asks l dC dI cI cD cR a) (va_cwSU 0 hts gX3_asks_X2_asks_s17 rfl rfl rfl (by decide +kernel) ⟨Nat.le_of_ble_eq_true rfl, Nat.le_of_ble_eq_true rfl⟩) (preV_R hCX (va_recv hK hP (ci := 1) (q0 := 0) rfl rfl) (trivial)) rfl rfl hl.1 rfl (lv_room (Nat.le_of_ble_eq_true rfl)) dX3_asks_1 ⟨Nat.le_of_ble_eq_true (by first | rfl | decide), Nat.le_of_ble_eq_true (by first | rfl | decide)⟩).run) (fun r_1 hr_1 => ?_)
  subst hr_1
  refine lv_iconst (v := nI 1) hx hb dX3_asks_4 (by decide +kernel) ?_
  refine ho_isub hx hb dX3_asks_5 (by omega) ?_
  exact W.iret (v := nI (3 - 1)) hx hb hr (fun T9 hT9 hW9 => ⟨_, rfl, (congrArg nI (by rfl)), hT9⟩) (fun q h => by cases h) dX3_asks_6
set_option maxHeartbeats 4000000 in
set_option maxRecDepth 100000 in
theorem c_X3_effort_k5 (l : Launch) (dC : Nat → ClassId) (dI : Nat → Nat → Nat) (cI cD cR : ClassId) (a f n : Nat) (hn : n < 100) : Met l yX3_effort wsX3_effort ({ frames := 1, cells := 0, slots := 0, locals := 21 }) (pcR dC dI cI cD cR [.ref a, .int (nI n)] (fun H => va_P (dC, dI) vwCl ([(a, dnE 5 f)]) H)) (vp_Si (fun r => r = nI (2 * (n + 1)))) 0 0 (fun _ => False) := by
  refine Met.ofW (cc := cX3_effort) (maxL := 2) (ret := (some .int)) (by decide) rfl ?_
  intro p e s m args below meth c s₁ B hml hv
  obtain ⟨rfl, hH0, hCX⟩ := hv
  have hx := B.exec
  have hb := B.bytes
  have hr := B.returns
  have hts := atoms_spec (ws := wsX3_effort) B.pre
  have hown : s.vm.findClass RX3 = some m.cls := findClass_of_methodNamed B.named
  have hlocks := B.notSynchronized
  have hK := hCX.1
  have hP := hH0
  have hl := lv_entry ([.ref a, .int (nI n)]) (n := 2) (Nat.le_of_ble_eq_true rfl)
  rw [lg_entry_eq]
  generalize (lg_sl ([.ref a, .int (nI n)]) ++ List.replicate (2 - (lg_sl ([.ref a, .int (nI n)])).length) Slot.unset).toArray = ls at hl ⊢
  have hl : lv_has ls 2 [(0, .ref a), (1, .int (nI n))] := hl
  refine lv_iconst (v := nI 2) hx hb dX3_effort_0 (by decide +kernel) ?_
  refine lv_aload_n hx hb dX3_effort_1 rfl (lv_at hl 0 rfl) ?_
  refine lv_iload_n hx hb dX3_effort_2 rfl (lv_at hl 1 rfl) ?_
  refine vp_callSi ((va_runSU (As := [.int (nI n)]) (rest := [.int (nI 2)]) (hK.1 6 _ rfl).2 ⟨hx, hb, hml, hown, hts⟩ (c_X2_effort l dC dI cI cD cR a n (by first | omega | assumption | exact gnd _ | exact gkn _ | exact Nat.lt_trans (gkn _) (by decide) | exact Nat.lt_trans (gnd _) (by decide))) (va_cwSU 1 hts gX3_effort_X2_effort_s13 rfl rfl rfl (by decide +kernel) ⟨Nat.le_of_ble_eq_true rfl, Nat.le_of_ble_eq_true rfl⟩) (preV_R hCX (va_recv hK hP (ci := 6) (q0 := 0) rfl rfl) (trivial)) rfl rfl hl.1 rfl (lv_room (Nat.le_of_ble_eq_true rfl)) dX3_effort_3 ⟨Nat.le_of_ble_eq_true (by first | rfl | decide), Nat.le_of_ble_eq_true (by first | rfl | decide)⟩).run) (fun r_3 hr_3 => ?_)
  subst hr_3
  refine ho_imul hx hb dX3_effort_6 ?_
  exact W.iret (v := nI (2 * (n + 1))) hx hb hr (fun T9 hT9 hW9 => ⟨_, rfl, rfl, hT9⟩) (fun q h => by cases h) dX3_effort_7
set_option maxHeartbeats 4000000 in
set_option maxRecDepth 100000 in
theorem c_X3_asks_k5 (l : Launch) (dC : Nat → ClassId) (dI : Nat → Nat → Nat) (cI cD cR : ClassId) (a f : Nat)  : Met l yX3_asks wsX3_asks ({ frames := 1, cells := 0, slots := 0, locals := 20 }) (pcR dC dI cI cD cR [.ref a] (fun H => va_P (dC, dI) vwCl ([(a, dnE 5 f)]) H)) (vp_Si (fun r => r = nI 2)) 0 0 (fun _ => False) := by
  refine Met.ofW (cc := cX3_asks) (maxL := 1) (ret := (some .int)) (by decide) rfl ?_
  intro p e s m args below meth c s₁ B hml hv
  obtain ⟨rfl, hH0, hCX⟩ := hv
  have hx := B.exec
  have hb := B.bytes
  have hr := B.returns
  have hts := atoms_spec (ws := wsX3_asks) B.pre
  have hown : s.vm.findClass RX3 = some m.cls := findClass_of_methodNamed B.named
  have hlocks := B.notSynchronized
  have hK := hCX.1
  have hP := hH0
  have hl := lv_entry ([.ref a]) (n := 1) (Nat.le_of_ble_eq_true rfl)
  rw [lg_entry_eq]
  generalize (lg_sl ([.ref a]) ++ List.replicate (1 - (lg_sl ([.ref a])).length) Slot.unset).toArray = ls at hl ⊢
  have hl : lv_has ls 1 [(0, .ref a)] := hl
  refine lv_aload_n hx hb dX3_asks_0 rfl (lv_at hl 0 rfl) ?_
  refine vp_callSi ((va_runSU (As := []) (rest := []) (hK.1 6 _ rfl).2 ⟨hx, hb, hml, hown, hts⟩ (c_X2_asks l dC dI cI cD cR a) (va_cwSU 0 hts gX3_asks_X2_asks_s17 rfl rfl rfl (by decide +kernel) ⟨Nat.le_of_ble_eq_true rfl, Nat.le_of_ble_eq_true rfl⟩) (preV_R hCX (va_recv hK hP (ci := 6) (q0 := 0) rfl rfl) (trivial)) rfl rfl hl.1 rfl (lv_room (Nat.le_of_ble_eq_true rfl)) dX3_asks_1 ⟨Nat.le_of_ble_eq_true (by first | rfl | decide), Nat.le_of_ble_eq_true (by first | rfl | decide)⟩).run) (fun r_1 hr_1 => ?_)
  subst hr_1
  refine lv_iconst (v := nI 1) hx hb dX3_asks_4 (by decide +kernel) ?_
  refine ho_isub hx hb dX3_asks_5 (by omega) ?_
  exact W.iret (v := nI (3 - 1)) hx hb hr (fun T9 hT9 hW9 => ⟨_, rfl, (congrArg nI (by rfl)), hT9⟩) (fun q h => by cases h) dX3_asks_6
set_option maxHeartbeats 4000000 in
set_option maxRecDepth 100000 in
theorem c_X10_mayDispute_k2 (l : Launch) (dC : Nat → ClassId) (dI : Nat → Nat → Nat) (cI cD cR : ClassId) (a f i t kn nd : Nat) (hi : i < 9) (ht : t < 512) (hkn : kn < 512) (hnd : nd < 512) : Met l yX10_mayDispute wsX10_mayDispute ({ frames := 2, cells := 0, slots := 0, locals := 45 }) (pcR dC dI cI cD cR [.ref a, .int (nI i), .int (nI t), .int (nI kn), .int (nI nd)] (fun H => va_P (dC, dI) vwCl ([(a, dnE 2 f)]) H)) (vp_Si (fun r => r = bI (plB t kn i && meB t kn nd))) 0 0 (fun _ => False) := by
  refine Met.ofW (cc := cX10_mayDispute) (maxL := 5) (ret := (some .boolean)) (by decide) rfl ?_
  intro p e s m args below meth c s₁ B hml hv
  obtain ⟨rfl, hH0, hCX⟩ := hv
  have hx := B.exec
  have hb := B.bytes
  have hr := B.returns
  have hts := atoms_spec (ws := wsX10_mayDispute) B.pre
  have hown : s.vm.findClass RX10 = some m.cls := findClass_of_methodNamed B.named
  have hlocks := B.notSynchronized
  have hK := hCX.1
  have hP := hH0
  have hl := lv_entry ([.ref a, .int (nI i), .int (nI t), .int (nI kn), .int (nI nd)]) (n := 5) (Nat.le_of_ble_eq_true rfl)
  rw [lg_entry_eq]
  generalize (lg_sl ([.ref a, .int (nI i), .int (nI t), .int (nI kn), .int (nI nd)]) ++ List.replicate (5 - (lg_sl ([.ref a, .int (nI i), .int (nI t), .int (nI kn), .int (nI nd)])).length) Slot.unset).toArray = ls at hl ⊢
  have hl : lv_has ls 5 [(0, .ref a), (1, .int (nI i)), (2, .int (nI t)), (3, .int (nI kn)), (4, .int (nI nd))] := hl
  refine lv_aload_n hx hb dX10_mayDispute_0 rfl (lv_at hl 0 rfl) ?_
  refine lv_iload_n hx hb dX10_mayDispute_1 rfl (lv_at hl 1 rfl) ?_
  refine lv_iload_n hx hb dX10_mayDispute_2 rfl (lv_at hl 2 rfl) ?_
  refine lv_iload_n hx hb dX10_mayDispute_3 rfl (lv_at hl 3 rfl) ?_
  refine lv_iload hx hb dX10_mayDispute_4 (lv_at hl 4 rfl) ?_
  refine vp_callSi ((va_runSU (As := [.int (nI i), .int (nI t), .int (nI kn), .int (nI nd)]) (rest := []) (hK.1 10 _ rfl).2 ⟨hx, hb, hml, hown, hts⟩ (c_X2_mayDispute l dC dI cI cD cR a i t kn nd (by first | omega | assumption | exact gnd _ | exact gkn _ | exact Nat.lt_trans (gkn _) (by decide) | exact Nat.lt_trans (gnd _) (by decide)) (by first | omega | assumption | exact gnd _ | exact gkn _ | exact Nat.lt_trans (gkn _) (by decide) | exact Nat.lt_trans (gnd _) (by decide)) (by first | omega | assumption | exact gnd _ | exact gkn _ | exact Nat.lt_trans (gkn _) (by decide) | exact Nat.lt_trans (gnd _) (by decide)) (by first | omega | assumption | exact gnd _ | exact gkn _ | exact Nat.lt_trans (gkn _) (by decide) | exact Nat.lt_trans (gnd _) (by decide))) (va_cwSU 4 hts gX10_mayDispute_X2_mayDispute_s7 rfl rfl rfl (by decide +kernel) ⟨Nat.le_of_ble_eq_true rfl, Nat.le_of_ble_eq_true rfl⟩) (preV_R hCX (va_recv hK hP (ci := 10) (q0 := 0) rfl rfl) (trivial)) rfl rfl hl.1 rfl (lv_room (Nat.le_of_ble_eq_true rfl)) dX10_mayDispute_6 ⟨Nat.le_of_ble_eq_true (by first | rfl | decide), Nat.le_of_ble_eq_true (by first | rfl | decide)⟩).run) (fun r_6 hr_6 => ?_)
  subst hr_6
  refine ho_beq (tgt := 27) hx hb dX10_mayDispute_9 (by decide) (fun c_9 => ?_) (fun c_9 => ?_)
  · refine lv_iconst (v := nI 0) hx hb dX10_mayDispute_27 (by decide +kernel) ?_
    exact W.zret (v := nI 0) hx hb hr rfl (fun T9 hT9 hW9 => ⟨_, rfl, (bI_f (by simp_all [meB])), hT9⟩) (fun q h => by cases h) dX10_mayDispute_28
  refine lv_iload hx hb dX10_mayDispute_12 (lv_at hl 4 rfl) ?_
  refine lv_iload_n hx hb dX10_mayDispute_14 rfl (lv_at hl 2 rfl) ?_
  refine lv_iload_n hx hb dX10_mayDispute_15 rfl (lv_at hl 3 rfl) ?_
  refine ho_ior hx hb dX10_mayDispute_16 ?_
  refine vp_callSi ((va_runSN (As := [.int (nI nd), .int (nI (t ||| kn))]) (rest := []) ⟨hx, hb, hml, hown, hts⟩ (c_X11_within l dC dI cI cD cR nd (t ||| kn) (by omega)) ⟨va_cnB (host := "HoldsOnceDenied") 2 hts gX10_mayDispute_X11_within_n11 rfl rfl rfl (CX.nm hCX 5 rfl) (hts (.initialized RX11) (by decide +kernel)) (by decide +kernel) ⟨Nat.le_of_ble_eq_true rfl, Nat.le_of_ble_eq_true rfl⟩, (hts (.static yX11_within) (by decide +kernel)), trivial⟩ (preS_R hCX (trivial)) rfl rfl hl.1 rfl (lv_room (Nat.le_of_ble_eq_true rfl)) dX10_mayDispute_17 ⟨Nat.le_of_ble_eq_true (by first | rfl | decide), Nat.le_of_ble_eq_true (by first | rfl | decide)⟩).run) (fun r_17 hr_17 => ?_)
  subst hr_17
  refine ho_beq (tgt := 27) hx hb dX10_mayDispute_20 (by decide) (fun c_20 => ?_) (fun c_20 => ?_)
  · refine lv_iconst (v := nI 0) hx hb dX10_mayDispute_27 (by decide +kernel) ?_
    exact W.zret (v := nI 0) hx hb hr rfl (fun T9 hT9 hW9 => ⟨_, rfl, (bI_f (by simp_all [meB])), hT9⟩) (fun q h => by cases h) dX10_mayDispute_28
  refine lv_iconst (v := nI 1) hx hb dX10_mayDispute_23 (by decide +kernel) ?_
  refine lv_goto (tgt := 28) hx hb dX10_mayDispute_24 (by decide) ?_
  exact W.zret (v := nI 1) hx hb hr rfl (fun T9 hT9 hW9 => ⟨_, rfl, (bI_t (by simp_all [meB])), hT9⟩) (fun q h => by cases h) dX10_mayDispute_28
set_option maxHeartbeats 4000000 in
set_option maxRecDepth 100000 in
theorem c_X10_asks_k2 (l : Launch) (dC : Nat → ClassId) (dI : Nat → Nat → Nat) (cI cD cR : ClassId) (a f : Nat)  : Met l yX10_asks wsX10_asks ({ frames := 1, cells := 0, slots := 0, locals := 20 }) (pcR dC dI cI cD cR [.ref a] (fun H => va_P (dC, dI) vwCl ([(a, dnE 2 f)]) H)) (vp_Si (fun r => r = nI (3 + f))) 0 0 (fun _ => False) := by
  refine Met.ofW (cc := cX10_asks) (maxL := 1) (ret := (some .int)) (by decide) rfl ?_
  intro p e s m args below meth c s₁ B hml hv
  obtain ⟨rfl, hH0, hCX⟩ := hv
  have hx := B.exec
  have hb := B.bytes
  have hr := B.returns
  have hts := atoms_spec (ws := wsX10_asks) B.pre
  have hown : s.vm.findClass RX10 = some m.cls := findClass_of_methodNamed B.named
  have hlocks := B.notSynchronized
  have hK := hCX.1
  have hP := hH0
  have hl := lv_entry ([.ref a]) (n := 1) (Nat.le_of_ble_eq_true rfl)
  rw [lg_entry_eq]
  generalize (lg_sl ([.ref a]) ++ List.replicate (1 - (lg_sl ([.ref a])).length) Slot.unset).toArray = ls at hl ⊢
  have hl : lv_has ls 1 [(0, .ref a)] := hl
  refine lv_aload_n hx hb dX10_asks_0 rfl (lv_at hl 0 rfl) ?_
  refine vp_callSi ((va_runSU (As := []) (rest := []) (hK.1 10 _ rfl).2 ⟨hx, hb, hml, hown, hts⟩ (c_X2_asks l dC dI cI cD cR a) (va_cwSU 0 hts gX10_asks_X2_asks_s17 rfl rfl rfl (by decide +kernel) ⟨Nat.le_of_ble_eq_true rfl, Nat.le_of_ble_eq_true rfl⟩) (preV_R hCX (va_recv hK hP (ci := 10) (q0 := 0) rfl rfl) (trivial)) rfl rfl hl.1 rfl (lv_room (Nat.le_of_ble_eq_true rfl)) dX10_asks_1 ⟨Nat.le_of_ble_eq_true (by first | rfl | decide), Nat.le_of_ble_eq_true (by first | rfl | decide)⟩).run) (fun r_1 hr_1 => ?_)
  subst hr_1
  refine lv_aload_n hx hb dX10_asks_4 rfl (lv_at hl 0 rfl) ?_
  refine va_get (D := (dC, dI)) (ci := 10) (v := .int (nI f)) (C := RX10) (T := TX10) (N := 2) hx hb hts (fun _ h => List.mem_cons_of_mem _ (List.mem_append_right _ h)) hown hK hP 0 rfl rfl 1 (by decide) (hts (.fieldLink RX10 21 "HoldsOnceDenied$Wise" "figure" "I") (by decide +kernel)) (fun x9 h9 => u_same (hts (.sameField "HoldsOnceDenied$Wise" "HoldsOnceDenied$Denier" "figure" "I") (by decide +kernel)) x9 h9) rfl dX10_asks_5 ?_
  refine ho_iadd hx hb dX10_asks_8 ?_
  exact W.iret (v := nI (3 + f)) hx hb hr (fun T9 hT9 hW9 => ⟨_, rfl, rfl, hT9⟩) (fun q h => by cases h) dX10_asks_9
set_option maxHeartbeats 4000000 in
set_option maxRecDepth 100000 in
theorem c_X10_mayDispute_k6 (l : Launch) (dC : Nat → ClassId) (dI : Nat → Nat → Nat) (cI cD cR : ClassId) (a f i t kn nd : Nat) (hi : i < 9) (ht : t < 512) (hkn : kn < 512) (hnd : nd < 512) : Met l yX10_mayDispute wsX10_mayDispute ({ frames := 2, cells := 0, slots := 0, locals := 45 }) (pcR dC dI cI cD cR [.ref a, .int (nI i), .int (nI t), .int (nI kn), .int (nI nd)] (fun H => va_P (dC, dI) vwCl ([(a, dnE 6 f)]) H)) (vp_Si (fun r => r = bI (plB t kn i && meB t kn nd))) 0 0 (fun _ => False) := by
  refine Met.ofW (cc := cX10_mayDispute) (maxL := 5) (ret := (some .boolean)) (by decide) rfl ?_
  intro p e s m args below meth c s₁ B hml hv
  obtain ⟨rfl, hH0, hCX⟩ := hv
  have hx := B.exec
  have hb := B.bytes
  have hr := B.returns
  have hts := atoms_spec (ws := wsX10_mayDispute) B.pre
  have hown : s.vm.findClass RX10 = some m.cls := findClass_of_methodNamed B.named
  have hlocks := B.notSynchronized
  have hK := hCX.1
  have hP := hH0
  have hl := lv_entry ([.ref a, .int (nI i), .int (nI t), .int (nI kn), .int (nI nd)]) (n := 5) (Nat.le_of_ble_eq_true rfl)
  rw [lg_entry_eq]
  generalize (lg_sl ([.ref a, .int (nI i), .int (nI t), .int (nI kn), .int (nI nd)]) ++ List.replicate (5 - (lg_sl ([.ref a, .int (nI i), .int (nI t), .int (nI kn), .int (nI nd)])).length) Slot.unset).toArray = ls at hl ⊢
  have hl : lv_has ls 5 [(0, .ref a), (1, .int (nI i)), (2, .int (nI t)), (3, .int (nI kn)), (4, .int (nI nd))] := hl
  refine lv_aload_n hx hb dX10_mayDispute_0 rfl (lv_at hl 0 rfl) ?_
  refine lv_iload_n hx hb dX10_mayDispute_1 rfl (lv_at hl 1 rfl) ?_
  refine lv_iload_n hx hb dX10_mayDispute_2 rfl (lv_at hl 2 rfl) ?_
  refine lv_iload_n hx hb dX10_mayDispute_3 rfl (lv_at hl 3 rfl) ?_
  refine lv_iload hx hb dX10_mayDispute_4 (lv_at hl 4 rfl) ?_
  refine vp_callSi ((va_runSU (As := [.int (nI i), .int (nI t), .int (nI kn), .int (nI nd)]) (rest := []) (hK.1 7 _ rfl).2 ⟨hx, hb, hml, hown, hts⟩ (c_X2_mayDispute l dC dI cI cD cR a i t kn nd (by first | omega | assumption | exact gnd _ | exact gkn _ | exact Nat.lt_trans (gkn _) (by decide) | exact Nat.lt_trans (gnd _) (by decide)) (by first | omega | assumption | exact gnd _ | exact gkn _ | exact Nat.lt_trans (gkn _) (by decide) | exact Nat.lt_trans (gnd _) (by decide)) (by first | omega | assumption | exact gnd _ | exact gkn _ | exact Nat.lt_trans (gkn _) (by decide) | exact Nat.lt_trans (gnd _) (by decide)) (by first | omega | assumption | exact gnd _ | exact gkn _ | exact Nat.lt_trans (gkn _) (by decide) | exact Nat.lt_trans (gnd _) (by decide))) (va_cwSU 4 hts gX10_mayDispute_X2_mayDispute_s7 rfl rfl rfl (by decide +kernel) ⟨Nat.le_of_ble_eq_true rfl, Nat.le_of_ble_eq_true rfl⟩) (preV_R hCX (va_recv hK hP (ci := 7) (q0 := 0) rfl rfl) (trivial)) rfl rfl hl.1 rfl (lv_room (Nat.le_of_ble_eq_true rfl)) dX10_mayDispute_6 ⟨Nat.le_of_ble_eq_true (by first | rfl | decide), Nat.le_of_ble_eq_true (by first | rfl | decide)⟩).run) (fun r_6 hr_6 => ?_)
  subst hr_6
  refine ho_beq (tgt := 27) hx hb dX10_mayDispute_9 (by decide) (fun c_9 => ?_) (fun c_9 => ?_)
  · refine lv_iconst (v := nI 0) hx hb dX10_mayDispute_27 (by decide +kernel) ?_
    exact W.zret (v := nI 0) hx hb hr rfl (fun T9 hT9 hW9 => ⟨_, rfl, (bI_f (by simp_all [meB])), hT9⟩) (fun q h => by cases h) dX10_mayDispute_28
  refine lv_iload hx hb dX10_mayDispute_12 (lv_at hl 4 rfl) ?_
  refine lv_iload_n hx hb dX10_mayDispute_14 rfl (lv_at hl 2 rfl) ?_
  refine lv_iload_n hx hb dX10_mayDispute_15 rfl (lv_at hl 3 rfl) ?_
  refine ho_ior hx hb dX10_mayDispute_16 ?_
  refine vp_callSi ((va_runSN (As := [.int (nI nd), .int (nI (t ||| kn))]) (rest := []) ⟨hx, hb, hml, hown, hts⟩ (c_X11_within l dC dI cI cD cR nd (t ||| kn) (by omega)) ⟨va_cnB (host := "HoldsOnceDenied") 2 hts gX10_mayDispute_X11_within_n11 rfl rfl rfl (CX.nm hCX 5 rfl) (hts (.initialized RX11) (by decide +kernel)) (by decide +kernel) ⟨Nat.le_of_ble_eq_true rfl, Nat.le_of_ble_eq_true rfl⟩, (hts (.static yX11_within) (by decide +kernel)), trivial⟩ (preS_R hCX (trivial)) rfl rfl hl.1 rfl (lv_room (Nat.le_of_ble_eq_true rfl)) dX10_mayDispute_17 ⟨Nat.le_of_ble_eq_true (by first | rfl | decide), Nat.le_of_ble_eq_true (by first | rfl | decide)⟩).run) (fun r_17 hr_17 => ?_)
  subst hr_17
  refine ho_beq (tgt := 27) hx hb dX10_mayDispute_20 (by decide) (fun c_20 => ?_) (fun c_20 => ?_)
  · refine lv_iconst (v := nI 0) hx hb dX10_mayDispute_27 (by decide +kernel) ?_
    exact W.zret (v := nI 0) hx hb hr rfl (fun T9 hT9 hW9 => ⟨_, rfl, (bI_f (by simp_all [meB])), hT9⟩) (fun q h => by cases h) dX10_mayDispute_28
  refine lv_iconst (v := nI 1) hx hb dX10_mayDispute_23 (by decide +kernel) ?_
  refine lv_goto (tgt := 28) hx hb dX10_mayDispute_24 (by decide) ?_
  exact W.zret (v := nI 1) hx hb hr rfl (fun T9 hT9 hW9 => ⟨_, rfl, (bI_t (by simp_all [meB])), hT9⟩) (fun q h => by cases h) dX10_mayDispute_28
set_option maxHeartbeats 4000000 in
set_option maxRecDepth 100000 in
theorem c_X10_asks_k6 (l : Launch) (dC : Nat → ClassId) (dI : Nat → Nat → Nat) (cI cD cR : ClassId) (a f : Nat)  : Met l yX10_asks wsX10_asks ({ frames := 1, cells := 0, slots := 0, locals := 20 }) (pcR dC dI cI cD cR [.ref a] (fun H => va_P (dC, dI) vwCl ([(a, dnE 6 f)]) H)) (vp_Si (fun r => r = nI (3 + f))) 0 0 (fun _ => False) := by
  refine Met.ofW (cc := cX10_asks) (maxL := 1) (ret := (some .int)) (by decide) rfl ?_
  intro p e s m args below meth c s₁ B hml hv
  obtain ⟨rfl, hH0, hCX⟩ := hv
  have hx := B.exec
  have hb := B.bytes
  have hr := B.returns
  have hts := atoms_spec (ws := wsX10_asks) B.pre
  have hown : s.vm.findClass RX10 = some m.cls := findClass_of_methodNamed B.named
  have hlocks := B.notSynchronized
  have hK := hCX.1
  have hP := hH0
  have hl := lv_entry ([.ref a]) (n := 1) (Nat.le_of_ble_eq_true rfl)
  rw [lg_entry_eq]
  generalize (lg_sl ([.ref a]) ++ List.replicate (1 - (lg_sl ([.ref a])).length) Slot.unset).toArray = ls at hl ⊢
  have hl : lv_has ls 1 [(0, .ref a)] := hl
  refine lv_aload_n hx hb dX10_asks_0 rfl (lv_at hl 0 rfl) ?_
  refine vp_callSi ((va_runSU (As := []) (rest := []) (hK.1 7 _ rfl).2 ⟨hx, hb, hml, hown, hts⟩ (c_X2_asks l dC dI cI cD cR a) (va_cwSU 0 hts gX10_asks_X2_asks_s17 rfl rfl rfl (by decide +kernel) ⟨Nat.le_of_ble_eq_true rfl, Nat.le_of_ble_eq_true rfl⟩) (preV_R hCX (va_recv hK hP (ci := 7) (q0 := 0) rfl rfl) (trivial)) rfl rfl hl.1 rfl (lv_room (Nat.le_of_ble_eq_true rfl)) dX10_asks_1 ⟨Nat.le_of_ble_eq_true (by first | rfl | decide), Nat.le_of_ble_eq_true (by first | rfl | decide)⟩).run) (fun r_1 hr_1 => ?_)
  subst hr_1
  refine lv_aload_n hx hb dX10_asks_4 rfl (lv_at hl 0 rfl) ?_
  refine va_get (D := (dC, dI)) (ci := 7) (v := .int (nI f)) (C := RX7) (T := TX7) (N := 2) hx hb hts (fun _ h => List.mem_cons_of_mem _ (List.mem_append_left _ (List.mem_append_right _ h))) hown hK hP 0 rfl rfl 1 (by decide) (hts (.fieldLink RX10 21 "HoldsOnceDenied$Wise" "figure" "I") (by decide +kernel)) (fun x9 h9 => u_same (hts (.sameField "HoldsOnceDenied$Wise" "HoldsOnceDenied$Denier" "figure" "I") (by decide +kernel)) x9 h9) rfl dX10_asks_5 ?_
  refine ho_iadd hx hb dX10_asks_8 ?_
  exact W.iret (v := nI (3 + f)) hx hb hr (fun T9 hT9 hW9 => ⟨_, rfl, rfl, hT9⟩) (fun q h => by cases h) dX10_asks_9
set_option maxHeartbeats 4000000 in
set_option maxRecDepth 100000 in
theorem c_X10_effort (l : Launch) (dC : Nat → ClassId) (dI : Nat → Nat → Nat) (cI cD cR : ClassId) (a n : Nat)  : Met l yX10_effort wsX10_effort ({ frames := 0, cells := 0, slots := 0, locals := 0 }) (pcR dC dI cI cD cR [.ref a, .int (nI n)] (fun H => True)) (vp_Si (fun r => r = nI n)) 0 0 (fun _ => False) := by
  refine Met.ofW (cc := cX10_effort) (maxL := 2) (ret := (some .int)) (by decide) rfl ?_
  intro p e s m args below meth c s₁ B hml hv
  obtain ⟨rfl, hH0, hCX⟩ := hv
  have hx := B.exec
  have hb := B.bytes
  have hr := B.returns
  have hts := atoms_spec (ws := wsX10_effort) B.pre
  have hown : s.vm.findClass RX10 = some m.cls := findClass_of_methodNamed B.named
  have hlocks := B.notSynchronized
  have hK := hCX.1
  have hl := lv_entry ([.ref a, .int (nI n)]) (n := 2) (Nat.le_of_ble_eq_true rfl)
  rw [lg_entry_eq]
  generalize (lg_sl ([.ref a, .int (nI n)]) ++ List.replicate (2 - (lg_sl ([.ref a, .int (nI n)])).length) Slot.unset).toArray = ls at hl ⊢
  have hl : lv_has ls 2 [(0, .ref a), (1, .int (nI n))] := hl
  refine lv_iload_n hx hb dX10_effort_0 rfl (lv_at hl 1 rfl) ?_
  exact W.iret (v := nI n) hx hb hr (fun T9 hT9 hW9 => ⟨_, rfl, rfl, hT9⟩) (fun q h => by cases h) dX10_effort_1
set_option maxHeartbeats 4000000 in
set_option maxRecDepth 100000 in
theorem c_X5_mayDispute_k4 (l : Launch) (dC : Nat → ClassId) (dI : Nat → Nat → Nat) (cI cD cR : ClassId) (a f i t kn nd : Nat) (hi : i < 9) (ht : t < 512) (hkn : kn < 512) (hnd : nd < 512) (hf : f < 10) : Met l yX5_mayDispute wsX5_mayDispute ({ frames := 2, cells := 0, slots := 0, locals := 45 }) (pcR dC dI cI cD cR [.ref a, .int (nI i), .int (nI t), .int (nI kn), .int (nI nd)] (fun H => va_P (dC, dI) vwCl ([(a, dnE 4 f)]) H)) (vp_Si (fun r => r = bI (plB t kn i && decide (i ≠ f)))) 0 0 (fun _ => False) := by
  refine Met.ofW (cc := cX5_mayDispute) (maxL := 5) (ret := (some .boolean)) (by decide) rfl ?_
  intro p e s m args below meth c s₁ B hml hv
  obtain ⟨rfl, hH0, hCX⟩ := hv
  have hx := B.exec
  have hb := B.bytes
  have hr := B.returns
  have hts := atoms_spec (ws := wsX5_mayDispute) B.pre
  have hown : s.vm.findClass RX5 = some m.cls := findClass_of_methodNamed B.named
  have hlocks := B.notSynchronized
  have hK := hCX.1
  have hP := hH0
  have hl := lv_entry ([.ref a, .int (nI i), .int (nI t), .int (nI kn), .int (nI nd)]) (n := 5) (Nat.le_of_ble_eq_true rfl)
  rw [lg_entry_eq]
  generalize (lg_sl ([.ref a, .int (nI i), .int (nI t), .int (nI kn), .int (nI nd)]) ++ List.replicate (5 - (lg_sl ([.ref a, .int (nI i), .int (nI t), .int (nI kn), .int (nI nd)])).length) Slot.unset).toArray = ls at hl ⊢
  have hl : lv_has ls 5 [(0, .ref a), (1, .int (nI i)), (2, .int (nI t)), (3, .int (nI kn)), (4, .int (nI nd))] := hl
  refine lv_aload_n hx hb dX5_mayDispute_0 rfl (lv_at hl 0 rfl) ?_
  refine lv_iload_n hx hb dX5_mayDispute_1 rfl (lv_at hl 1 rfl) ?_
  refine lv_iload_n hx hb dX5_mayDispute_2 rfl (lv_at hl 2 rfl) ?_
  refine lv_iload_n hx hb dX5_mayDispute_3 rfl (lv_at hl 3 rfl) ?_
  refine lv_iload hx hb dX5_mayDispute_4 (lv_at hl 4 rfl) ?_
  refine vp_callSi ((va_runSU (As := [.int (nI i), .int (nI t), .int (nI kn), .int (nI nd)]) (rest := []) (hK.1 5 _ rfl).2 ⟨hx, hb, hml, hown, hts⟩ (c_X2_mayDispute l dC dI cI cD cR a i t kn nd (by first | omega | assumption | exact gnd _ | exact gkn _ | exact Nat.lt_trans (gkn _) (by decide) | exact Nat.lt_trans (gnd _) (by decide)) (by first | omega | assumption | exact gnd _ | exact gkn _ | exact Nat.lt_trans (gkn _) (by decide) | exact Nat.lt_trans (gnd _) (by decide)) (by first | omega | assumption | exact gnd _ | exact gkn _ | exact Nat.lt_trans (gkn _) (by decide) | exact Nat.lt_trans (gnd _) (by decide)) (by first | omega | assumption | exact gnd _ | exact gkn _ | exact Nat.lt_trans (gkn _) (by decide) | exact Nat.lt_trans (gnd _) (by decide))) (va_cwSU 4 hts gX5_mayDispute_X2_mayDispute_s7 rfl rfl rfl (by decide +kernel) ⟨Nat.le_of_ble_eq_true rfl, Nat.le_of_ble_eq_true rfl⟩) (preV_R hCX (va_recv hK hP (ci := 5) (q0 := 0) rfl rfl) (trivial)) rfl rfl hl.1 rfl (lv_room (Nat.le_of_ble_eq_true rfl)) dX5_mayDispute_6 ⟨Nat.le_of_ble_eq_true (by first | rfl | decide), Nat.le_of_ble_eq_true (by first | rfl | decide)⟩).run) (fun r_6 hr_6 => ?_)
  subst hr_6
  refine ho_beq (tgt := 24) hx hb dX5_mayDispute_9 (by decide) (fun c_9 => ?_) (fun c_9 => ?_)
  · refine lv_iconst (v := nI 0) hx hb dX5_mayDispute_24 (by decide +kernel) ?_
    exact W.zret (v := nI 0) hx hb hr rfl (fun T9 hT9 hW9 => ⟨_, rfl, (bI_f (by simp_all)), hT9⟩) (fun q h => by cases h) dX5_mayDispute_25
  refine lv_iload_n hx hb dX5_mayDispute_12 rfl (lv_at hl 1 rfl) ?_
  refine lv_aload_n hx hb dX5_mayDispute_13 rfl (lv_at hl 0 rfl) ?_
  refine va_get (D := (dC, dI)) (ci := 5) (v := .int (nI f)) (C := RX5) (T := TX5) (N := 2) hx hb hts (fun _ h => List.mem_cons_of_mem _ (List.mem_append_left _ (List.mem_append_left _ (List.mem_append_left _ (List.mem_append_right _ h))))) hown hK hP 0 rfl rfl 1 (by decide) (hts (.fieldLink RX5 11 "HoldsOnceDenied$Friend" "figure" "I") (by decide +kernel)) (fun x9 h9 => u_same (hts (.sameField "HoldsOnceDenied$Friend" "HoldsOnceDenied$Denier" "figure" "I") (by decide +kernel)) x9 h9) rfl dX5_mayDispute_14 ?_
  refine ho_icmp_eq (tgt := 24) hx hb dX5_mayDispute_17 (by decide) (by omega) (by omega) (fun c_17 => ?_) (fun c_17 => ?_)
  · refine lv_iconst (v := nI 0) hx hb dX5_mayDispute_24 (by decide +kernel) ?_
    exact W.zret (v := nI 0) hx hb hr rfl (fun T9 hT9 hW9 => ⟨_, rfl, (bI_f (by simp_all)), hT9⟩) (fun q h => by cases h) dX5_mayDispute_25
  refine lv_iconst (v := nI 1) hx hb dX5_mayDispute_20 (by decide +kernel) ?_
  refine lv_goto (tgt := 25) hx hb dX5_mayDispute_21 (by decide) ?_
  exact W.zret (v := nI 1) hx hb hr rfl (fun T9 hT9 hW9 => ⟨_, rfl, (bI_t (by simp_all)), hT9⟩) (fun q h => by cases h) dX5_mayDispute_25
set_option maxHeartbeats 4000000 in
set_option maxRecDepth 100000 in
theorem c_X5_effort_k4 (l : Launch) (dC : Nat → ClassId) (dI : Nat → Nat → Nat) (cI cD cR : ClassId) (a f n : Nat) (hn : n < 100) : Met l yX5_effort wsX5_effort ({ frames := 1, cells := 0, slots := 0, locals := 21 }) (pcR dC dI cI cD cR [.ref a, .int (nI n)] (fun H => va_P (dC, dI) vwCl ([(a, dnE 4 f)]) H)) (vp_Si (fun r => r = nI (n + 1 + f))) 0 0 (fun _ => False) := by
  refine Met.ofW (cc := cX5_effort) (maxL := 2) (ret := (some .int)) (by decide) rfl ?_
  intro p e s m args below meth c s₁ B hml hv
  obtain ⟨rfl, hH0, hCX⟩ := hv
  have hx := B.exec
  have hb := B.bytes
  have hr := B.returns
  have hts := atoms_spec (ws := wsX5_effort) B.pre
  have hown : s.vm.findClass RX5 = some m.cls := findClass_of_methodNamed B.named
  have hlocks := B.notSynchronized
  have hK := hCX.1
  have hP := hH0
  have hl := lv_entry ([.ref a, .int (nI n)]) (n := 2) (Nat.le_of_ble_eq_true rfl)
  rw [lg_entry_eq]
  generalize (lg_sl ([.ref a, .int (nI n)]) ++ List.replicate (2 - (lg_sl ([.ref a, .int (nI n)])).length) Slot.unset).toArray = ls at hl ⊢
  have hl : lv_has ls 2 [(0, .ref a), (1, .int (nI n))] := hl
  refine lv_aload_n hx hb dX5_effort_0 rfl (lv_at hl 0 rfl) ?_
  refine lv_iload_n hx hb dX5_effort_1 rfl (lv_at hl 1 rfl) ?_
  refine vp_callSi ((va_runSU (As := [.int (nI n)]) (rest := []) (hK.1 5 _ rfl).2 ⟨hx, hb, hml, hown, hts⟩ (c_X2_effort l dC dI cI cD cR a n (by first | omega | assumption | exact gnd _ | exact gkn _ | exact Nat.lt_trans (gkn _) (by decide) | exact Nat.lt_trans (gnd _) (by decide))) (va_cwSU 1 hts gX5_effort_X2_effort_s17 rfl rfl rfl (by decide +kernel) ⟨Nat.le_of_ble_eq_true rfl, Nat.le_of_ble_eq_true rfl⟩) (preV_R hCX (va_recv hK hP (ci := 5) (q0 := 0) rfl rfl) (trivial)) rfl rfl hl.1 rfl (lv_room (Nat.le_of_ble_eq_true rfl)) dX5_effort_2 ⟨Nat.le_of_ble_eq_true (by first | rfl | decide), Nat.le_of_ble_eq_true (by first | rfl | decide)⟩).run) (fun r_2 hr_2 => ?_)
  subst hr_2
  refine lv_aload_n hx hb dX5_effort_5 rfl (lv_at hl 0 rfl) ?_
  refine va_get (D := (dC, dI)) (ci := 5) (v := .int (nI f)) (C := RX5) (T := TX5) (N := 2) hx hb hts (fun _ h => List.mem_cons_of_mem _ (List.mem_append_left _ (List.mem_append_left _ (List.mem_append_left _ (List.mem_append_right _ h))))) hown hK hP 0 rfl rfl 1 (by decide) (hts (.fieldLink RX5 11 "HoldsOnceDenied$Friend" "figure" "I") (by decide +kernel)) (fun x9 h9 => u_same (hts (.sameField "HoldsOnceDenied$Friend" "HoldsOnceDenied$Denier" "figure" "I") (by decide +kernel)) x9 h9) rfl dX5_effort_6 ?_
  refine ho_iadd hx hb dX5_effort_9 ?_
  exact W.iret (v := nI ((n + 1) + f)) hx hb hr (fun T9 hT9 hW9 => ⟨_, rfl, (congrArg nI (by simp [*])), hT9⟩) (fun q h => by cases h) dX5_effort_10
set_option maxHeartbeats 4000000 in
set_option maxRecDepth 100000 in
theorem c_X5_asks_k4 (l : Launch) (dC : Nat → ClassId) (dI : Nat → Nat → Nat) (cI cD cR : ClassId) (a f : Nat)  : Met l yX5_asks wsX5_asks ({ frames := 1, cells := 0, slots := 0, locals := 20 }) (pcR dC dI cI cD cR [.ref a] (fun H => va_P (dC, dI) vwCl ([(a, dnE 4 f)]) H)) (vp_Si (fun r => r = nI (3 * (f + 1)))) 0 0 (fun _ => False) := by
  refine Met.ofW (cc := cX5_asks) (maxL := 1) (ret := (some .int)) (by decide) rfl ?_
  intro p e s m args below meth c s₁ B hml hv
  obtain ⟨rfl, hH0, hCX⟩ := hv
  have hx := B.exec
  have hb := B.bytes
  have hr := B.returns
  have hts := atoms_spec (ws := wsX5_asks) B.pre
  have hown : s.vm.findClass RX5 = some m.cls := findClass_of_methodNamed B.named
  have hlocks := B.notSynchronized
  have hK := hCX.1
  have hP := hH0
  have hl := lv_entry ([.ref a]) (n := 1) (Nat.le_of_ble_eq_true rfl)
  rw [lg_entry_eq]
  generalize (lg_sl ([.ref a]) ++ List.replicate (1 - (lg_sl ([.ref a])).length) Slot.unset).toArray = ls at hl ⊢
  have hl : lv_has ls 1 [(0, .ref a)] := hl
  refine lv_aload_n hx hb dX5_asks_0 rfl (lv_at hl 0 rfl) ?_
  refine vp_callSi ((va_runSU (As := []) (rest := []) (hK.1 5 _ rfl).2 ⟨hx, hb, hml, hown, hts⟩ (c_X2_asks l dC dI cI cD cR a) (va_cwSU 0 hts gX5_asks_X2_asks_s21 rfl rfl rfl (by decide +kernel) ⟨Nat.le_of_ble_eq_true rfl, Nat.le_of_ble_eq_true rfl⟩) (preV_R hCX (va_recv hK hP (ci := 5) (q0 := 0) rfl rfl) (trivial)) rfl rfl hl.1 rfl (lv_room (Nat.le_of_ble_eq_true rfl)) dX5_asks_1 ⟨Nat.le_of_ble_eq_true (by first | rfl | decide), Nat.le_of_ble_eq_true (by first | rfl | decide)⟩).run) (fun r_1 hr_1 => ?_)
  subst hr_1
  refine lv_aload_n hx hb dX5_asks_4 rfl (lv_at hl 0 rfl) ?_
  refine va_get (D := (dC, dI)) (ci := 5) (v := .int (nI f)) (C := RX5) (T := TX5) (N := 2) hx hb hts (fun _ h => List.mem_cons_of_mem _ (List.mem_append_left _ (List.mem_append_left _ (List.mem_append_left _ (List.mem_append_right _ h))))) hown hK hP 0 rfl rfl 1 (by decide) (hts (.fieldLink RX5 11 "HoldsOnceDenied$Friend" "figure" "I") (by decide +kernel)) (fun x9 h9 => u_same (hts (.sameField "HoldsOnceDenied$Friend" "HoldsOnceDenied$Denier" "figure" "I") (by decide +kernel)) x9 h9) rfl dX5_asks_5 ?_
  refine lv_iconst (v := nI 1) hx hb dX5_asks_8 (by decide +kernel) ?_
  refine ho_iadd hx hb dX5_asks_9 ?_
  refine ho_imul hx hb dX5_asks_10 ?_
  exact W.iret (v := nI (3 * (f + 1))) hx hb hr (fun T9 hT9 hW9 => ⟨_, rfl, rfl, hT9⟩) (fun q h => by cases h) dX5_asks_11
set_option maxHeartbeats 4000000 in
set_option maxRecDepth 100000 in
theorem c_X5_mayDispute_k7 (l : Launch) (dC : Nat → ClassId) (dI : Nat → Nat → Nat) (cI cD cR : ClassId) (a f i t kn nd : Nat) (hi : i < 9) (ht : t < 512) (hkn : kn < 512) (hnd : nd < 512) (hf : f < 10) : Met l yX5_mayDispute wsX5_mayDispute ({ frames := 2, cells := 0, slots := 0, locals := 45 }) (pcR dC dI cI cD cR [.ref a, .int (nI i), .int (nI t), .int (nI kn), .int (nI nd)] (fun H => va_P (dC, dI) vwCl ([(a, dnE 7 f)]) H)) (vp_Si (fun r => r = bI (plB t kn i && decide (i ≠ f)))) 0 0 (fun _ => False) := by
  refine Met.ofW (cc := cX5_mayDispute) (maxL := 5) (ret := (some .boolean)) (by decide) rfl ?_
  intro p e s m args below meth c s₁ B hml hv
  obtain ⟨rfl, hH0, hCX⟩ := hv
  have hx := B.exec
  have hb := B.bytes
  have hr := B.returns
  have hts := atoms_spec (ws := wsX5_mayDispute) B.pre
  have hown : s.vm.findClass RX5 = some m.cls := findClass_of_methodNamed B.named
  have hlocks := B.notSynchronized
  have hK := hCX.1
  have hP := hH0
  have hl := lv_entry ([.ref a, .int (nI i), .int (nI t), .int (nI kn), .int (nI nd)]) (n := 5) (Nat.le_of_ble_eq_true rfl)
  rw [lg_entry_eq]
  generalize (lg_sl ([.ref a, .int (nI i), .int (nI t), .int (nI kn), .int (nI nd)]) ++ List.replicate (5 - (lg_sl ([.ref a, .int (nI i), .int (nI t), .int (nI kn), .int (nI nd)])).length) Slot.unset).toArray = ls at hl ⊢
  have hl : lv_has ls 5 [(0, .ref a), (1, .int (nI i)), (2, .int (nI t)), (3, .int (nI kn)), (4, .int (nI nd))] := hl
  refine lv_aload_n hx hb dX5_mayDispute_0 rfl (lv_at hl 0 rfl) ?_
  refine lv_iload_n hx hb dX5_mayDispute_1 rfl (lv_at hl 1 rfl) ?_
  refine lv_iload_n hx hb dX5_mayDispute_2 rfl (lv_at hl 2 rfl) ?_
  refine lv_iload_n hx hb dX5_mayDispute_3 rfl (lv_at hl 3 rfl) ?_
  refine lv_iload hx hb dX5_mayDispute_4 (lv_at hl 4 rfl) ?_
  refine vp_callSi ((va_runSU (As := [.int (nI i), .int (nI t), .int (nI kn), .int (nI nd)]) (rest := []) (hK.1 0 _ rfl).2 ⟨hx, hb, hml, hown, hts⟩ (c_X2_mayDispute l dC dI cI cD cR a i t kn nd (by first | omega | assumption | exact gnd _ | exact gkn _ | exact Nat.lt_trans (gkn _) (by decide) | exact Nat.lt_trans (gnd _) (by decide)) (by first | omega | assumption | exact gnd _ | exact gkn _ | exact Nat.lt_trans (gkn _) (by decide) | exact Nat.lt_trans (gnd _) (by decide)) (by first | omega | assumption | exact gnd _ | exact gkn _ | exact Nat.lt_trans (gkn _) (by decide) | exact Nat.lt_trans (gnd _) (by decide)) (by first | omega | assumption | exact gnd _ | exact gkn _ | exact Nat.lt_trans (gkn _) (by decide) | exact Nat.lt_trans (gnd _) (by decide))) (va_cwSU 4 hts gX5_mayDispute_X2_mayDispute_s7 rfl rfl rfl (by decide +kernel) ⟨Nat.le_of_ble_eq_true rfl, Nat.le_of_ble_eq_true rfl⟩) (preV_R hCX (va_recv hK hP (ci := 0) (q0 := 0) rfl rfl) (trivial)) rfl rfl hl.1 rfl (lv_room (Nat.le_of_ble_eq_true rfl)) dX5_mayDispute_6 ⟨Nat.le_of_ble_eq_true (by first | rfl | decide), Nat.le_of_ble_eq_true (by first | rfl | decide)⟩).run) (fun r_6 hr_6 => ?_)
  subst hr_6
  refine ho_beq (tgt := 24) hx hb dX5_mayDispute_9 (by decide) (fun c_9 => ?_) (fun c_9 => ?_)
  · refine lv_iconst (v := nI 0) hx hb dX5_mayDispute_24 (by decide +kernel) ?_
    exact W.zret (v := nI 0) hx hb hr rfl (fun T9 hT9 hW9 => ⟨_, rfl, (bI_f (by simp_all)), hT9⟩) (fun q h => by cases h) dX5_mayDispute_25
  refine lv_iload_n hx hb dX5_mayDispute_12 rfl (lv_at hl 1 rfl) ?_
  refine lv_aload_n hx hb dX5_mayDispute_13 rfl (lv_at hl 0 rfl) ?_
  refine va_get (D := (dC, dI)) (ci := 0) (v := .int (nI f)) (C := RX0) (T := TX0) (N := 2) hx hb hts (fun _ h => List.mem_cons_of_mem _ (List.mem_append_left _ (List.mem_append_left _ (List.mem_append_left _ (List.mem_append_left _ (List.mem_append_left _ (List.mem_append_left _ (List.mem_append_left _ (List.mem_append_right _ h))))))))) hown hK hP 0 rfl rfl 1 (by decide) (hts (.fieldLink RX5 11 "HoldsOnceDenied$Friend" "figure" "I") (by decide +kernel)) (fun x9 h9 => u_same (hts (.sameField "HoldsOnceDenied$Friend" "HoldsOnceDenied$Denier" "figure" "I") (by decide +kernel)) x9 h9) rfl dX5_mayDispute_14 ?_
  refine ho_icmp_eq (tgt := 24) hx hb dX5_mayDispute_17 (by decide) (by omega) (by omega) (fun c_17 => ?_) (fun c_17 => ?_)
  · refine lv_iconst (v := nI 0) hx hb dX5_mayDispute_24 (by decide +kernel) ?_
    exact W.zret (v := nI 0) hx hb hr rfl (fun T9 hT9 hW9 => ⟨_, rfl, (bI_f (by simp_all)), hT9⟩) (fun q h => by cases h) dX5_mayDispute_25
  refine lv_iconst (v := nI 1) hx hb dX5_mayDispute_20 (by decide +kernel) ?_
  refine lv_goto (tgt := 25) hx hb dX5_mayDispute_21 (by decide) ?_
  exact W.zret (v := nI 1) hx hb hr rfl (fun T9 hT9 hW9 => ⟨_, rfl, (bI_t (by simp_all)), hT9⟩) (fun q h => by cases h) dX5_mayDispute_25
set_option maxHeartbeats 4000000 in
set_option maxRecDepth 100000 in
theorem c_X5_effort_k7 (l : Launch) (dC : Nat → ClassId) (dI : Nat → Nat → Nat) (cI cD cR : ClassId) (a f n : Nat) (hn : n < 100) : Met l yX5_effort wsX5_effort ({ frames := 1, cells := 0, slots := 0, locals := 21 }) (pcR dC dI cI cD cR [.ref a, .int (nI n)] (fun H => va_P (dC, dI) vwCl ([(a, dnE 7 f)]) H)) (vp_Si (fun r => r = nI (n + 1 + f))) 0 0 (fun _ => False) := by
  refine Met.ofW (cc := cX5_effort) (maxL := 2) (ret := (some .int)) (by decide) rfl ?_
  intro p e s m args below meth c s₁ B hml hv
  obtain ⟨rfl, hH0, hCX⟩ := hv
  have hx := B.exec
  have hb := B.bytes
  have hr := B.returns
  have hts := atoms_spec (ws := wsX5_effort) B.pre
  have hown : s.vm.findClass RX5 = some m.cls := findClass_of_methodNamed B.named
  have hlocks := B.notSynchronized
  have hK := hCX.1
  have hP := hH0
  have hl := lv_entry ([.ref a, .int (nI n)]) (n := 2) (Nat.le_of_ble_eq_true rfl)
  rw [lg_entry_eq]
  generalize (lg_sl ([.ref a, .int (nI n)]) ++ List.replicate (2 - (lg_sl ([.ref a, .int (nI n)])).length) Slot.unset).toArray = ls at hl ⊢
  have hl : lv_has ls 2 [(0, .ref a), (1, .int (nI n))] := hl
  refine lv_aload_n hx hb dX5_effort_0 rfl (lv_at hl 0 rfl) ?_
  refine lv_iload_n hx hb dX5_effort_1 rfl (lv_at hl 1 rfl) ?_
  refine vp_callSi ((va_runSU (As := [.int (nI n)]) (rest := []) (hK.1 0 _ rfl).2 ⟨hx, hb, hml, hown, hts⟩ (c_X2_effort l dC dI cI cD cR a n (by first | omega | assumption | exact gnd _ | exact gkn _ | exact Nat.lt_trans (gkn _) (by decide) | exact Nat.lt_trans (gnd _) (by decide))) (va_cwSU 1 hts gX5_effort_X2_effort_s17 rfl rfl rfl (by decide +kernel) ⟨Nat.le_of_ble_eq_true rfl, Nat.le_of_ble_eq_true rfl⟩) (preV_R hCX (va_recv hK hP (ci := 0) (q0 := 0) rfl rfl) (trivial)) rfl rfl hl.1 rfl (lv_room (Nat.le_of_ble_eq_true rfl)) dX5_effort_2 ⟨Nat.le_of_ble_eq_true (by first | rfl | decide), Nat.le_of_ble_eq_true (by first | rfl | decide)⟩).run) (fun r_2 hr_2 => ?_)
  subst hr_2
  refine lv_aload_n hx hb dX5_effort_5 rfl (lv_at hl 0 rfl) ?_
  refine va_get (D := (dC, dI)) (ci := 0) (v := .int (nI f)) (C := RX0) (T := TX0) (N := 2) hx hb hts (fun _ h => List.mem_cons_of_mem _ (List.mem_append_left _ (List.mem_append_left _ (List.mem_append_left _ (List.mem_append_left _ (List.mem_append_left _ (List.mem_append_left _ (List.mem_append_left _ (List.mem_append_right _ h))))))))) hown hK hP 0 rfl rfl 1 (by decide) (hts (.fieldLink RX5 11 "HoldsOnceDenied$Friend" "figure" "I") (by decide +kernel)) (fun x9 h9 => u_same (hts (.sameField "HoldsOnceDenied$Friend" "HoldsOnceDenied$Denier" "figure" "I") (by decide +kernel)) x9 h9) rfl dX5_effort_6 ?_
  refine ho_iadd hx hb dX5_effort_9 ?_
  exact W.iret (v := nI ((n + 1) + f)) hx hb hr (fun T9 hT9 hW9 => ⟨_, rfl, (congrArg nI (by simp [*])), hT9⟩) (fun q h => by cases h) dX5_effort_10
set_option maxHeartbeats 4000000 in
set_option maxRecDepth 100000 in
theorem c_X5_asks_k7 (l : Launch) (dC : Nat → ClassId) (dI : Nat → Nat → Nat) (cI cD cR : ClassId) (a f : Nat)  : Met l yX5_asks wsX5_asks ({ frames := 1, cells := 0, slots := 0, locals := 20 }) (pcR dC dI cI cD cR [.ref a] (fun H => va_P (dC, dI) vwCl ([(a, dnE 7 f)]) H)) (vp_Si (fun r => r = nI (3 * (f + 1)))) 0 0 (fun _ => False) := by
  refine Met.ofW (cc := cX5_asks) (maxL := 1) (ret := (some .int)) (by decide) rfl ?_
  intro p e s m args below meth c s₁ B hml hv
  obtain ⟨rfl, hH0, hCX⟩ := hv
  have hx := B.exec
  have hb := B.bytes
  have hr := B.returns
  have hts := atoms_spec (ws := wsX5_asks) B.pre
  have hown : s.vm.findClass RX5 = some m.cls := findClass_of_methodNamed B.named
  have hlocks := B.notSynchronized
  have hK := hCX.1
  have hP := hH0
  have hl := lv_entry ([.ref a]) (n := 1) (Nat.le_of_ble_eq_true rfl)
  rw [lg_entry_eq]
  generalize (lg_sl ([.ref a]) ++ List.replicate (1 - (lg_sl ([.ref a])).length) Slot.unset).toArray = ls at hl ⊢
  have hl : lv_has ls 1 [(0, .ref a)] := hl
  refine lv_aload_n hx hb dX5_asks_0 rfl (lv_at hl 0 rfl) ?_
  refine vp_callSi ((va_runSU (As := []) (rest := []) (hK.1 0 _ rfl).2 ⟨hx, hb, hml, hown, hts⟩ (c_X2_asks l dC dI cI cD cR a) (va_cwSU 0 hts gX5_asks_X2_asks_s21 rfl rfl rfl (by decide +kernel) ⟨Nat.le_of_ble_eq_true rfl, Nat.le_of_ble_eq_true rfl⟩) (preV_R hCX (va_recv hK hP (ci := 0) (q0 := 0) rfl rfl) (trivial)) rfl rfl hl.1 rfl (lv_room (Nat.le_of_ble_eq_true rfl)) dX5_asks_1 ⟨Nat.le_of_ble_eq_true (by first | rfl | decide), Nat.le_of_ble_eq_true (by first | rfl | decide)⟩).run) (fun r_1 hr_1 => ?_)
  subst hr_1
  refine lv_aload_n hx hb dX5_asks_4 rfl (lv_at hl 0 rfl) ?_
  refine va_get (D := (dC, dI)) (ci := 0) (v := .int (nI f)) (C := RX0) (T := TX0) (N := 2) hx hb hts (fun _ h => List.mem_cons_of_mem _ (List.mem_append_left _ (List.mem_append_left _ (List.mem_append_left _ (List.mem_append_left _ (List.mem_append_left _ (List.mem_append_left _ (List.mem_append_left _ (List.mem_append_right _ h))))))))) hown hK hP 0 rfl rfl 1 (by decide) (hts (.fieldLink RX5 11 "HoldsOnceDenied$Friend" "figure" "I") (by decide +kernel)) (fun x9 h9 => u_same (hts (.sameField "HoldsOnceDenied$Friend" "HoldsOnceDenied$Denier" "figure" "I") (by decide +kernel)) x9 h9) rfl dX5_asks_5 ?_
  refine lv_iconst (v := nI 1) hx hb dX5_asks_8 (by decide +kernel) ?_
  refine ho_iadd hx hb dX5_asks_9 ?_
  refine ho_imul hx hb dX5_asks_10 ?_
  exact W.iret (v := nI (3 * (f + 1))) hx hb hr (fun T9 hT9 hW9 => ⟨_, rfl, rfl, hT9⟩) (fun q h => by cases h) dX5_asks_11
set_option maxHeartbeats 4000000 in
set_option maxRecDepth 100000 in
theorem c_X1_mayDispute (l : Launch) (dC : Nat → ClassId) (dI : Nat → Nat → Nat) (cI cD cR : ClassId) (a i t kn nd : Nat)  : Met l yX1_mayDispute wsX1_mayDispute ({ frames := 0, cells := 0, slots := 0, locals := 0 }) (pcR dC dI cI cD cR [.ref a, .int (nI i), .int (nI t), .int (nI kn), .int (nI nd)] (fun H => True)) (vp_Si (fun r => r = bI true)) 0 0 (fun _ => False) := by
  refine Met.ofW (cc := cX1_mayDispute) (maxL := 5) (ret := (some .boolean)) (by decide) rfl ?_
  intro p e s m args below meth c s₁ B hml hv
  obtain ⟨rfl, hH0, hCX⟩ := hv
  have hx := B.exec
  have hb := B.bytes
  have hr := B.returns
  have hts := atoms_spec (ws := wsX1_mayDispute) B.pre
  have hown : s.vm.findClass RX1 = some m.cls := findClass_of_methodNamed B.named
  have hlocks := B.notSynchronized
  have hK := hCX.1
  have hl := lv_entry ([.ref a, .int (nI i), .int (nI t), .int (nI kn), .int (nI nd)]) (n := 5) (Nat.le_of_ble_eq_true rfl)
  rw [lg_entry_eq]
  generalize (lg_sl ([.ref a, .int (nI i), .int (nI t), .int (nI kn), .int (nI nd)]) ++ List.replicate (5 - (lg_sl ([.ref a, .int (nI i), .int (nI t), .int (nI kn), .int (nI nd)])).length) Slot.unset).toArray = ls at hl ⊢
  have hl : lv_has ls 5 [(0, .ref a), (1, .int (nI i)), (2, .int (nI t)), (3, .int (nI kn)), (4, .int (nI nd))] := hl
  refine lv_iconst (v := nI 1) hx hb dX1_mayDispute_0 (by decide +kernel) ?_
  exact W.zret (v := nI 1) hx hb hr rfl (fun T9 hT9 hW9 => ⟨_, rfl, (bI_t (by rfl)), hT9⟩) (fun q h => by cases h) dX1_mayDispute_1
set_option maxHeartbeats 4000000 in
set_option maxRecDepth 100000 in
theorem c_X1_isSilenced (l : Launch) (dC : Nat → ClassId) (dI : Nat → Nat → Nat) (cI cD cR : ClassId) (a t kn nd : Nat) (odd : Bool)  : Met l yX1_isSilenced wsX1_isSilenced ({ frames := 0, cells := 0, slots := 0, locals := 0 }) (pcR dC dI cI cD cR [.ref a, .int (nI t), .int (nI kn), .int (nI nd), .int (bI odd)] (fun H => True)) (vp_Si (fun r => r = bI false)) 0 0 (fun _ => False) := by
  refine Met.ofW (cc := cX1_isSilenced) (maxL := 5) (ret := (some .boolean)) (by decide) rfl ?_
  intro p e s m args below meth c s₁ B hml hv
  obtain ⟨rfl, hH0, hCX⟩ := hv
  have hx := B.exec
  have hb := B.bytes
  have hr := B.returns
  have hts := atoms_spec (ws := wsX1_isSilenced) B.pre
  have hown : s.vm.findClass RX1 = some m.cls := findClass_of_methodNamed B.named
  have hlocks := B.notSynchronized
  have hK := hCX.1
  have hl := lv_entry ([.ref a, .int (nI t), .int (nI kn), .int (nI nd), .int (bI odd)]) (n := 5) (Nat.le_of_ble_eq_true rfl)
  rw [lg_entry_eq]
  generalize (lg_sl ([.ref a, .int (nI t), .int (nI kn), .int (nI nd), .int (bI odd)]) ++ List.replicate (5 - (lg_sl ([.ref a, .int (nI t), .int (nI kn), .int (nI nd), .int (bI odd)])).length) Slot.unset).toArray = ls at hl ⊢
  have hl : lv_has ls 5 [(0, .ref a), (1, .int (nI t)), (2, .int (nI kn)), (3, .int (nI nd)), (4, .int (bI odd))] := hl
  refine lv_iconst (v := nI 0) hx hb dX1_isSilenced_0 (by decide +kernel) ?_
  exact W.zret (v := nI 0) hx hb hr rfl (fun T9 hT9 hW9 => ⟨_, rfl, (bI_f (by rfl)), hT9⟩) (fun q h => by cases h) dX1_isSilenced_1
set_option maxHeartbeats 4000000 in
set_option maxRecDepth 100000 in
theorem c_X1_asks (l : Launch) (dC : Nat → ClassId) (dI : Nat → Nat → Nat) (cI cD cR : ClassId) (a f : Nat)  : Met l yX1_asks wsX1_asks ({ frames := 2, cells := 0, slots := 0, locals := 40 }) (pcR dC dI cI cD cR [.ref a] (fun H => va_P (dC, dI) vwCl ([(a, dnE 3 f)]) H)) (vp_Si (fun r => r = nI 4)) 0 0 (fun _ => False) := by
  refine Met.ofW (cc := cX1_asks) (maxL := 1) (ret := (some .int)) (by decide) rfl ?_
  intro p e s m args below meth c s₁ B hml hv
  obtain ⟨rfl, hH0, hCX⟩ := hv
  have hx := B.exec
  have hb := B.bytes
  have hr := B.returns
  have hts := atoms_spec (ws := wsX1_asks) B.pre
  have hown : s.vm.findClass RX1 = some m.cls := findClass_of_methodNamed B.named
  have hlocks := B.notSynchronized
  have hK := hCX.1
  have hP := hH0
  have hl := lv_entry ([.ref a]) (n := 1) (Nat.le_of_ble_eq_true rfl)
  rw [lg_entry_eq]
  generalize (lg_sl ([.ref a]) ++ List.replicate (1 - (lg_sl ([.ref a])).length) Slot.unset).toArray = ls at hl ⊢
  have hl : lv_has ls 1 [(0, .ref a)] := hl
  refine lv_iconst (v := nI 2) hx hb dX1_asks_0 (by decide +kernel) ?_
  refine lv_aload_n hx hb dX1_asks_1 rfl (lv_at hl 0 rfl) ?_
  refine vp_callSi ((va_runSU (As := []) (rest := [.int (nI 2)]) (hK.1 1 _ rfl).2 ⟨hx, hb, hml, hown, hts⟩ (c_X3_asks_k3 l dC dI cI cD cR a f) (va_cwSU 0 hts gX1_asks_X3_asks_s7 rfl rfl rfl (by decide +kernel) ⟨Nat.le_of_ble_eq_true rfl, Nat.le_of_ble_eq_true rfl⟩) (preV_R hCX (va_recv hK hP (ci := 1) (q0 := 0) rfl rfl) (hP)) rfl rfl hl.1 rfl (lv_room (Nat.le_of_ble_eq_true rfl)) dX1_asks_2 ⟨Nat.le_of_ble_eq_true (by first | rfl | decide), Nat.le_of_ble_eq_true (by first | rfl | decide)⟩).run) (fun r_2 hr_2 => ?_)
  subst hr_2
  refine ho_imul hx hb dX1_asks_5 ?_
  exact W.iret (v := nI (2 * 2)) hx hb hr (fun T9 hT9 hW9 => ⟨_, rfl, (congrArg nI (by rfl)), hT9⟩) (fun q h => by cases h) dX1_asks_6
set_option maxHeartbeats 4000000 in
set_option maxRecDepth 100000 in
theorem c_X6_mayDispute (l : Launch) (dC : Nat → ClassId) (dI : Nat → Nat → Nat) (cI cD cR : ClassId) (a f i t kn nd : Nat) (hi : i < 9) (ht : t < 512) (hkn : kn < 512) (hnd : nd < 512) (hf : f < 10) : Met l yX6_mayDispute wsX6_mayDispute ({ frames := 2, cells := 0, slots := 0, locals := 45 }) (pcR dC dI cI cD cR [.ref a, .int (nI i), .int (nI t), .int (nI kn), .int (nI nd)] (fun H => va_P (dC, dI) vwCl ([(a, dnE 5 f)]) H)) (vp_Si (fun r => r = bI (!t.testBit i && decide (i ≤ f)))) 0 0 (fun _ => False) := by
  refine Met.ofW (cc := cX6_mayDispute) (maxL := 5) (ret := (some .boolean)) (by decide) rfl ?_
  intro p e s m args below meth c s₁ B hml hv
  obtain ⟨rfl, hH0, hCX⟩ := hv
  have hx := B.exec
  have hb := B.bytes
  have hr := B.returns
  have hts := atoms_spec (ws := wsX6_mayDispute) B.pre
  have hown : s.vm.findClass RX6 = some m.cls := findClass_of_methodNamed B.named
  have hlocks := B.notSynchronized
  have hK := hCX.1
  have hP := hH0
  have hl := lv_entry ([.ref a, .int (nI i), .int (nI t), .int (nI kn), .int (nI nd)]) (n := 5) (Nat.le_of_ble_eq_true rfl)
  rw [lg_entry_eq]
  generalize (lg_sl ([.ref a, .int (nI i), .int (nI t), .int (nI kn), .int (nI nd)]) ++ List.replicate (5 - (lg_sl ([.ref a, .int (nI i), .int (nI t), .int (nI kn), .int (nI nd)])).length) Slot.unset).toArray = ls at hl ⊢
  have hl : lv_has ls 5 [(0, .ref a), (1, .int (nI i)), (2, .int (nI t)), (3, .int (nI kn)), (4, .int (nI nd))] := hl
  refine lv_aload_n hx hb dX6_mayDispute_0 rfl (lv_at hl 0 rfl) ?_
  refine lv_iload_n hx hb dX6_mayDispute_1 rfl (lv_at hl 1 rfl) ?_
  refine lv_iload_n hx hb dX6_mayDispute_2 rfl (lv_at hl 2 rfl) ?_
  refine lv_iload_n hx hb dX6_mayDispute_3 rfl (lv_at hl 3 rfl) ?_
  refine lv_iload hx hb dX6_mayDispute_4 (lv_at hl 4 rfl) ?_
  refine vp_callSi ((va_runSU (As := [.int (nI i), .int (nI t), .int (nI kn), .int (nI nd)]) (rest := []) (hK.1 6 _ rfl).2 ⟨hx, hb, hml, hown, hts⟩ (c_X3_mayDispute l dC dI cI cD cR a i t kn nd (by first | omega | assumption | exact gnd _ | exact gkn _ | exact Nat.lt_trans (gkn _) (by decide) | exact Nat.lt_trans (gnd _) (by decide)) (by first | omega | assumption | exact gnd _ | exact gkn _ | exact Nat.lt_trans (gkn _) (by decide) | exact Nat.lt_trans (gnd _) (by decide)) (by first | omega | assumption | exact gnd _ | exact gkn _ | exact Nat.lt_trans (gkn _) (by decide) | exact Nat.lt_trans (gnd _) (by decide)) (by first | omega | assumption | exact gnd _ | exact gkn _ | exact Nat.lt_trans (gkn _) (by decide) | exact Nat.lt_trans (gnd _) (by decide))) (va_cwSU 4 hts gX6_mayDispute_X3_mayDispute_s7 rfl rfl rfl (by decide +kernel) ⟨Nat.le_of_ble_eq_true rfl, Nat.le_of_ble_eq_true rfl⟩) (preV_R hCX (va_recv hK hP (ci := 6) (q0 := 0) rfl rfl) (trivial)) rfl rfl hl.1 rfl (lv_room (Nat.le_of_ble_eq_true rfl)) dX6_mayDispute_6 ⟨Nat.le_of_ble_eq_true (by first | rfl | decide), Nat.le_of_ble_eq_true (by first | rfl | decide)⟩).run) (fun r_6 hr_6 => ?_)
  subst hr_6
  refine ho_beq (tgt := 24) hx hb dX6_mayDispute_9 (by decide) (fun c_9 => ?_) (fun c_9 => ?_)
  · refine lv_iconst (v := nI 0) hx hb dX6_mayDispute_24 (by decide +kernel) ?_
    exact W.zret (v := nI 0) hx hb hr rfl (fun T9 hT9 hW9 => ⟨_, rfl, (bI_f (by simp_all)), hT9⟩) (fun q h => by cases h) dX6_mayDispute_25
  refine lv_iload_n hx hb dX6_mayDispute_12 rfl (lv_at hl 1 rfl) ?_
  refine lv_aload_n hx hb dX6_mayDispute_13 rfl (lv_at hl 0 rfl) ?_
  refine va_get (D := (dC, dI)) (ci := 6) (v := .int (nI f)) (C := RX6) (T := TX6) (N := 2) hx hb hts (fun _ h => List.mem_cons_of_mem _ (List.mem_append_left _ (List.mem_append_left _ (List.mem_append_right _ h)))) hown hK hP 0 rfl rfl 1 (by decide) (hts (.fieldLink RX6 11 "HoldsOnceDenied$Hired" "figure" "I") (by decide +kernel)) (fun x9 h9 => u_same (hts (.sameField "HoldsOnceDenied$Hired" "HoldsOnceDenied$Denier" "figure" "I") (by decide +kernel)) x9 h9) rfl dX6_mayDispute_14 ?_
  refine ho_icmp_gt (tgt := 24) hx hb dX6_mayDispute_17 (by decide) (by omega) (by omega) (fun c_17 => ?_) (fun c_17 => ?_)
  · refine lv_iconst (v := nI 0) hx hb dX6_mayDispute_24 (by decide +kernel) ?_
    exact W.zret (v := nI 0) hx hb hr rfl (fun T9 hT9 hW9 => ⟨_, rfl, (bI_f (by simp_all)), hT9⟩) (fun q h => by cases h) dX6_mayDispute_25
  refine lv_iconst (v := nI 1) hx hb dX6_mayDispute_20 (by decide +kernel) ?_
  refine lv_goto (tgt := 25) hx hb dX6_mayDispute_21 (by decide) ?_
  exact W.zret (v := nI 1) hx hb hr rfl (fun T9 hT9 hW9 => ⟨_, rfl, (bI_t (by simp_all)), hT9⟩) (fun q h => by cases h) dX6_mayDispute_25
set_option maxHeartbeats 4000000 in
set_option maxRecDepth 100000 in
theorem c_X6_effort (l : Launch) (dC : Nat → ClassId) (dI : Nat → Nat → Nat) (cI cD cR : ClassId) (a f n : Nat) (hn : n < 100) : Met l yX6_effort wsX6_effort ({ frames := 2, cells := 0, slots := 0, locals := 42 }) (pcR dC dI cI cD cR [.ref a, .int (nI n)] (fun H => va_P (dC, dI) vwCl ([(a, dnE 5 f)]) H)) (vp_Si (fun r => r = nI (2 * (n + 1) - 1))) 0 0 (fun _ => False) := by
  refine Met.ofW (cc := cX6_effort) (maxL := 2) (ret := (some .int)) (by decide) rfl ?_
  intro p e s m args below meth c s₁ B hml hv
  obtain ⟨rfl, hH0, hCX⟩ := hv
  have hx := B.exec
  have hb := B.bytes
  have hr := B.returns
  have hts := atoms_spec (ws := wsX6_effort) B.pre
  have hown : s.vm.findClass RX6 = some m.cls := findClass_of_methodNamed B.named
  have hlocks := B.notSynchronized
  have hK := hCX.1
  have hP := hH0
  have hl := lv_entry ([.ref a, .int (nI n)]) (n := 2) (Nat.le_of_ble_eq_true rfl)
  rw [lg_entry_eq]
  generalize (lg_sl ([.ref a, .int (nI n)]) ++ List.replicate (2 - (lg_sl ([.ref a, .int (nI n)])).length) Slot.unset).toArray = ls at hl ⊢
  have hl : lv_has ls 2 [(0, .ref a), (1, .int (nI n))] := hl
  refine lv_aload_n hx hb dX6_effort_0 rfl (lv_at hl 0 rfl) ?_
  refine lv_iload_n hx hb dX6_effort_1 rfl (lv_at hl 1 rfl) ?_
  refine vp_callSi ((va_runSU (As := [.int (nI n)]) (rest := []) (hK.1 6 _ rfl).2 ⟨hx, hb, hml, hown, hts⟩ (c_X3_effort_k5 l dC dI cI cD cR a f n (by first | omega | assumption | exact gnd _ | exact gkn _ | exact Nat.lt_trans (gkn _) (by decide) | exact Nat.lt_trans (gnd _) (by decide))) (va_cwSU 1 hts gX6_effort_X3_effort_s17 rfl rfl rfl (by decide +kernel) ⟨Nat.le_of_ble_eq_true rfl, Nat.le_of_ble_eq_true rfl⟩) (preV_R hCX (va_recv hK hP (ci := 6) (q0 := 0) rfl rfl) (hP)) rfl rfl hl.1 rfl (lv_room (Nat.le_of_ble_eq_true rfl)) dX6_effort_2 ⟨Nat.le_of_ble_eq_true (by first | rfl | decide), Nat.le_of_ble_eq_true (by first | rfl | decide)⟩).run) (fun r_2 hr_2 => ?_)
  subst hr_2
  refine lv_iconst (v := nI 1) hx hb dX6_effort_5 (by decide +kernel) ?_
  refine ho_isub hx hb dX6_effort_6 (by omega) ?_
  exact W.iret (v := nI ((2 * (n + 1)) - 1)) hx hb hr (fun T9 hT9 hW9 => ⟨_, rfl, (congrArg nI (by simp [*])), hT9⟩) (fun q h => by cases h) dX6_effort_7
set_option maxHeartbeats 4000000 in
set_option maxRecDepth 100000 in
theorem c_X6_asks (l : Launch) (dC : Nat → ClassId) (dI : Nat → Nat → Nat) (cI cD cR : ClassId) (a f : Nat)  : Met l yX6_asks wsX6_asks ({ frames := 2, cells := 0, slots := 0, locals := 40 }) (pcR dC dI cI cD cR [.ref a] (fun H => va_P (dC, dI) vwCl ([(a, dnE 5 f)]) H)) (vp_Si (fun r => r = nI 7)) 0 0 (fun _ => False) := by
  refine Met.ofW (cc := cX6_asks) (maxL := 1) (ret := (some .int)) (by decide) rfl ?_
  intro p e s m args below meth c s₁ B hml hv
  obtain ⟨rfl, hH0, hCX⟩ := hv
  have hx := B.exec
  have hb := B.bytes
  have hr := B.returns
  have hts := atoms_spec (ws := wsX6_asks) B.pre
  have hown : s.vm.findClass RX6 = some m.cls := findClass_of_methodNamed B.named
  have hlocks := B.notSynchronized
  have hK := hCX.1
  have hP := hH0
  have hl := lv_entry ([.ref a]) (n := 1) (Nat.le_of_ble_eq_true rfl)
  rw [lg_entry_eq]
  generalize (lg_sl ([.ref a]) ++ List.replicate (1 - (lg_sl ([.ref a])).length) Slot.unset).toArray = ls at hl ⊢
  have hl : lv_has ls 1 [(0, .ref a)] := hl
  refine lv_aload_n hx hb dX6_asks_0 rfl (lv_at hl 0 rfl) ?_
  refine vp_callSi ((va_runSU (As := []) (rest := []) (hK.1 6 _ rfl).2 ⟨hx, hb, hml, hown, hts⟩ (c_X3_asks_k5 l dC dI cI cD cR a f) (va_cwSU 0 hts gX6_asks_X3_asks_s21 rfl rfl rfl (by decide +kernel) ⟨Nat.le_of_ble_eq_true rfl, Nat.le_of_ble_eq_true rfl⟩) (preV_R hCX (va_recv hK hP (ci := 6) (q0 := 0) rfl rfl) (hP)) rfl rfl hl.1 rfl (lv_room (Nat.le_of_ble_eq_true rfl)) dX6_asks_1 ⟨Nat.le_of_ble_eq_true (by first | rfl | decide), Nat.le_of_ble_eq_true (by first | rfl | decide)⟩).run) (fun r_1 hr_1 => ?_)
  subst hr_1
  refine lv_iconst (v := nI 5) hx hb dX6_asks_4 (by decide +kernel) ?_
  refine ho_iadd hx hb dX6_asks_5 ?_
  exact W.iret (v := nI (2 + 5)) hx hb hr (fun T9 hT9 hW9 => ⟨_, rfl, (congrArg nI (by rfl)), hT9⟩) (fun q h => by cases h) dX6_asks_6
set_option maxHeartbeats 4000000 in
set_option maxRecDepth 100000 in
theorem c_X7_mayDispute (l : Launch) (dC : Nat → ClassId) (dI : Nat → Nat → Nat) (cI cD cR : ClassId) (a f i t kn nd : Nat) (hi : i < 9) (ht : t < 512) (hkn : kn < 512) (hnd : nd < 512) (hf : f < 10) : Met l yX7_mayDispute wsX7_mayDispute ({ frames := 3, cells := 0, slots := 0, locals := 69 }) (pcR dC dI cI cD cR [.ref a, .int (nI i), .int (nI t), .int (nI kn), .int (nI nd)] (fun H => va_P (dC, dI) vwCl ([(a, dnE 6 f)]) H)) (vp_Si (fun r => r = bI (plB t kn i && meB t kn nd || decide (i = f) && !t.testBit i))) 0 0 (fun _ => False) := by
  refine Met.ofW (cc := cX7_mayDispute) (maxL := 5) (ret := (some .boolean)) (by decide) rfl ?_
  intro p e s m args below meth c s₁ B hml hv
  obtain ⟨rfl, hH0, hCX⟩ := hv
  have hx := B.exec
  have hb := B.bytes
  have hr := B.returns
  have hts := atoms_spec (ws := wsX7_mayDispute) B.pre
  have hown : s.vm.findClass RX7 = some m.cls := findClass_of_methodNamed B.named
  have hlocks := B.notSynchronized
  have hK := hCX.1
  have hP := hH0
  have hl := lv_entry ([.ref a, .int (nI i), .int (nI t), .int (nI kn), .int (nI nd)]) (n := 5) (Nat.le_of_ble_eq_true rfl)
  rw [lg_entry_eq]
  generalize (lg_sl ([.ref a, .int (nI i), .int (nI t), .int (nI kn), .int (nI nd)]) ++ List.replicate (5 - (lg_sl ([.ref a, .int (nI i), .int (nI t), .int (nI kn), .int (nI nd)])).length) Slot.unset).toArray = ls at hl ⊢
  have hl : lv_has ls 5 [(0, .ref a), (1, .int (nI i)), (2, .int (nI t)), (3, .int (nI kn)), (4, .int (nI nd))] := hl
  refine lv_aload_n hx hb dX7_mayDispute_0 rfl (lv_at hl 0 rfl) ?_
  refine lv_iload_n hx hb dX7_mayDispute_1 rfl (lv_at hl 1 rfl) ?_
  refine lv_iload_n hx hb dX7_mayDispute_2 rfl (lv_at hl 2 rfl) ?_
  refine lv_iload_n hx hb dX7_mayDispute_3 rfl (lv_at hl 3 rfl) ?_
  refine lv_iload hx hb dX7_mayDispute_4 (lv_at hl 4 rfl) ?_
  refine vp_callSi ((va_runSU (As := [.int (nI i), .int (nI t), .int (nI kn), .int (nI nd)]) (rest := []) (hK.1 7 _ rfl).2 ⟨hx, hb, hml, hown, hts⟩ (c_X10_mayDispute_k6 l dC dI cI cD cR a f i t kn nd (by first | omega | assumption | exact gnd _ | exact gkn _ | exact Nat.lt_trans (gkn _) (by decide) | exact Nat.lt_trans (gnd _) (by decide)) (by first | omega | assumption | exact gnd _ | exact gkn _ | exact Nat.lt_trans (gkn _) (by decide) | exact Nat.lt_trans (gnd _) (by decide)) (by first | omega | assumption | exact gnd _ | exact gkn _ | exact Nat.lt_trans (gkn _) (by decide) | exact Nat.lt_trans (gnd _) (by decide)) (by first | omega | assumption | exact gnd _ | exact gkn _ | exact Nat.lt_trans (gkn _) (by decide) | exact Nat.lt_trans (gnd _) (by decide))) (va_cwSU 4 hts gX7_mayDispute_X10_mayDispute_s7 rfl rfl rfl (by decide +kernel) ⟨Nat.le_of_ble_eq_true rfl, Nat.le_of_ble_eq_true rfl⟩) (preV_R hCX (va_recv hK hP (ci := 7) (q0 := 0) rfl rfl) (hP)) rfl rfl hl.1 rfl (lv_room (Nat.le_of_ble_eq_true rfl)) dX7_mayDispute_6 ⟨Nat.le_of_ble_eq_true (by first | rfl | decide), Nat.le_of_ble_eq_true (by first | rfl | decide)⟩).run) (fun r_6 hr_6 => ?_)
  subst hr_6
  refine ho_bne (tgt := 28) hx hb dX7_mayDispute_9 (by decide) (fun c_9 => ?_) (fun c_9 => ?_)
  · refine lv_iconst (v := nI 1) hx hb dX7_mayDispute_28 (by decide +kernel) ?_
    refine lv_goto (tgt := 33) hx hb dX7_mayDispute_29 (by decide) ?_
    exact W.zret (v := nI 1) hx hb hr rfl (fun T9 hT9 hW9 => ⟨_, rfl, (bI_t (by simp_all)), hT9⟩) (fun q h => by cases h) dX7_mayDispute_33
  refine lv_iload_n hx hb dX7_mayDispute_12 rfl (lv_at hl 1 rfl) ?_
  refine lv_aload_n hx hb dX7_mayDispute_13 rfl (lv_at hl 0 rfl) ?_
  refine va_get (D := (dC, dI)) (ci := 7) (v := .int (nI f)) (C := RX7) (T := TX7) (N := 2) hx hb hts (fun _ h => List.mem_cons_of_mem _ (List.mem_append_left _ (List.mem_append_right _ h))) hown hK hP 0 rfl rfl 1 (by decide) (hts (.fieldLink RX7 11 "HoldsOnceDenied$Old" "figure" "I") (by decide +kernel)) (fun x9 h9 => u_same (hts (.sameField "HoldsOnceDenied$Old" "HoldsOnceDenied$Denier" "figure" "I") (by decide +kernel)) x9 h9) rfl dX7_mayDispute_14 ?_
  refine ho_icmp_ne (tgt := 32) hx hb dX7_mayDispute_17 (by decide) (by omega) (by omega) (fun c_17 => ?_) (fun c_17 => ?_)
  · refine lv_iconst (v := nI 0) hx hb dX7_mayDispute_32 (by decide +kernel) ?_
    exact W.zret (v := nI 0) hx hb hr rfl (fun T9 hT9 hW9 => ⟨_, rfl, (bI_f (by simp_all)), hT9⟩) (fun q h => by cases h) dX7_mayDispute_33
  refine lv_iload_n hx hb dX7_mayDispute_20 rfl (lv_at hl 2 rfl) ?_
  refine lv_iload_n hx hb dX7_mayDispute_21 rfl (lv_at hl 1 rfl) ?_
  refine vp_callSi ((va_runSN (As := [.int (nI t), .int (nI i)]) (rest := []) ⟨hx, hb, hml, hown, hts⟩ (c_X11_has l dC dI cI cD cR t i (by first | omega | assumption | exact gnd _ | exact gkn _ | exact Nat.lt_trans (gkn _) (by decide) | exact Nat.lt_trans (gnd _) (by decide)) (by first | omega | assumption | exact gnd _ | exact gkn _ | exact Nat.lt_trans (gkn _) (by decide) | exact Nat.lt_trans (gnd _) (by decide))) ⟨va_cnB (host := "HoldsOnceDenied") 2 hts gX7_mayDispute_X11_has_n17 rfl rfl rfl (CX.nm hCX 6 rfl) (hts (.initialized RX11) (by decide +kernel)) (by decide +kernel) ⟨Nat.le_of_ble_eq_true rfl, Nat.le_of_ble_eq_true rfl⟩, (hts (.static yX11_has) (by decide +kernel)), trivial⟩ (preS_R hCX (trivial)) rfl rfl hl.1 rfl (lv_room (Nat.le_of_ble_eq_true rfl)) dX7_mayDispute_22 ⟨Nat.le_of_ble_eq_true (by first | rfl | decide), Nat.le_of_ble_eq_true (by first | rfl | decide)⟩).run) (fun r_22 hr_22 => ?_)
  subst hr_22
  refine ho_bne (tgt := 32) hx hb dX7_mayDispute_25 (by decide) (fun c_25 => ?_) (fun c_25 => ?_)
  · refine lv_iconst (v := nI 0) hx hb dX7_mayDispute_32 (by decide +kernel) ?_
    exact W.zret (v := nI 0) hx hb hr rfl (fun T9 hT9 hW9 => ⟨_, rfl, (bI_f (by simp_all)), hT9⟩) (fun q h => by cases h) dX7_mayDispute_33
  refine lv_iconst (v := nI 1) hx hb dX7_mayDispute_28 (by decide +kernel) ?_
  refine lv_goto (tgt := 33) hx hb dX7_mayDispute_29 (by decide) ?_
  exact W.zret (v := nI 1) hx hb hr rfl (fun T9 hT9 hW9 => ⟨_, rfl, (bI_t (by simp_all)), hT9⟩) (fun q h => by cases h) dX7_mayDispute_33
set_option maxHeartbeats 4000000 in
set_option maxRecDepth 100000 in
theorem c_X7_effort (l : Launch) (dC : Nat → ClassId) (dI : Nat → Nat → Nat) (cI cD cR : ClassId) (a f n : Nat)  : Met l yX7_effort wsX7_effort ({ frames := 1, cells := 0, slots := 0, locals := 21 }) (pcR dC dI cI cD cR [.ref a, .int (nI n)] (fun H => va_P (dC, dI) vwCl ([(a, dnE 6 f)]) H)) (vp_Si (fun r => r = nI (n + f))) 0 0 (fun _ => False) := by
  refine Met.ofW (cc := cX7_effort) (maxL := 2) (ret := (some .int)) (by decide) rfl ?_
  intro p e s m args below meth c s₁ B hml hv
  obtain ⟨rfl, hH0, hCX⟩ := hv
  have hx := B.exec
  have hb := B.bytes
  have hr := B.returns
  have hts := atoms_spec (ws := wsX7_effort) B.pre
  have hown : s.vm.findClass RX7 = some m.cls := findClass_of_methodNamed B.named
  have hlocks := B.notSynchronized
  have hK := hCX.1
  have hP := hH0
  have hl := lv_entry ([.ref a, .int (nI n)]) (n := 2) (Nat.le_of_ble_eq_true rfl)
  rw [lg_entry_eq]
  generalize (lg_sl ([.ref a, .int (nI n)]) ++ List.replicate (2 - (lg_sl ([.ref a, .int (nI n)])).length) Slot.unset).toArray = ls at hl ⊢
  have hl : lv_has ls 2 [(0, .ref a), (1, .int (nI n))] := hl
  refine lv_aload_n hx hb dX7_effort_0 rfl (lv_at hl 0 rfl) ?_
  refine lv_iload_n hx hb dX7_effort_1 rfl (lv_at hl 1 rfl) ?_
  refine vp_callSi ((va_runSU (As := [.int (nI n)]) (rest := []) (hK.1 7 _ rfl).2 ⟨hx, hb, hml, hown, hts⟩ (c_X10_effort l dC dI cI cD cR a n) (va_cwSU 1 hts gX7_effort_X10_effort_s23 rfl rfl rfl (by decide +kernel) ⟨Nat.le_of_ble_eq_true rfl, Nat.le_of_ble_eq_true rfl⟩) (preV_R hCX (va_recv hK hP (ci := 7) (q0 := 0) rfl rfl) (trivial)) rfl rfl hl.1 rfl (lv_room (Nat.le_of_ble_eq_true rfl)) dX7_effort_2 ⟨Nat.le_of_ble_eq_true (by first | rfl | decide), Nat.le_of_ble_eq_true (by first | rfl | decide)⟩).run) (fun r_2 hr_2 => ?_)
  subst hr_2
  refine lv_aload_n hx hb dX7_effort_5 rfl (lv_at hl 0 rfl) ?_
  refine va_get (D := (dC, dI)) (ci := 7) (v := .int (nI f)) (C := RX7) (T := TX7) (N := 2) hx hb hts (fun _ h => List.mem_cons_of_mem _ (List.mem_append_left _ (List.mem_append_right _ h))) hown hK hP 0 rfl rfl 1 (by decide) (hts (.fieldLink RX7 11 "HoldsOnceDenied$Old" "figure" "I") (by decide +kernel)) (fun x9 h9 => u_same (hts (.sameField "HoldsOnceDenied$Old" "HoldsOnceDenied$Denier" "figure" "I") (by decide +kernel)) x9 h9) rfl dX7_effort_6 ?_
  refine ho_iadd hx hb dX7_effort_9 ?_
  exact W.iret (v := nI (n + f)) hx hb hr (fun T9 hT9 hW9 => ⟨_, rfl, rfl, hT9⟩) (fun q h => by cases h) dX7_effort_10
set_option maxHeartbeats 4000000 in
set_option maxRecDepth 100000 in
theorem c_X7_asks (l : Launch) (dC : Nat → ClassId) (dI : Nat → Nat → Nat) (cI cD cR : ClassId) (a f : Nat)  : Met l yX7_asks wsX7_asks ({ frames := 2, cells := 0, slots := 0, locals := 40 }) (pcR dC dI cI cD cR [.ref a] (fun H => va_P (dC, dI) vwCl ([(a, dnE 6 f)]) H)) (vp_Si (fun r => r = nI (3 + f - 2))) 0 0 (fun _ => False) := by
  refine Met.ofW (cc := cX7_asks) (maxL := 1) (ret := (some .int)) (by decide) rfl ?_
  intro p e s m args below meth c s₁ B hml hv
  obtain ⟨rfl, hH0, hCX⟩ := hv
  have hx := B.exec
  have hb := B.bytes
  have hr := B.returns
  have hts := atoms_spec (ws := wsX7_asks) B.pre
  have hown : s.vm.findClass RX7 = some m.cls := findClass_of_methodNamed B.named
  have hlocks := B.notSynchronized
  have hK := hCX.1
  have hP := hH0
  have hl := lv_entry ([.ref a]) (n := 1) (Nat.le_of_ble_eq_true rfl)
  rw [lg_entry_eq]
  generalize (lg_sl ([.ref a]) ++ List.replicate (1 - (lg_sl ([.ref a])).length) Slot.unset).toArray = ls at hl ⊢
  have hl : lv_has ls 1 [(0, .ref a)] := hl
  refine lv_aload_n hx hb dX7_asks_0 rfl (lv_at hl 0 rfl) ?_
  refine vp_callSi ((va_runSU (As := []) (rest := []) (hK.1 7 _ rfl).2 ⟨hx, hb, hml, hown, hts⟩ (c_X10_asks_k6 l dC dI cI cD cR a f) (va_cwSU 0 hts gX7_asks_X10_asks_s27 rfl rfl rfl (by decide +kernel) ⟨Nat.le_of_ble_eq_true rfl, Nat.le_of_ble_eq_true rfl⟩) (preV_R hCX (va_recv hK hP (ci := 7) (q0 := 0) rfl rfl) (hP)) rfl rfl hl.1 rfl (lv_room (Nat.le_of_ble_eq_true rfl)) dX7_asks_1 ⟨Nat.le_of_ble_eq_true (by first | rfl | decide), Nat.le_of_ble_eq_true (by first | rfl | decide)⟩).run) (fun r_1 hr_1 => ?_)
  subst hr_1
  refine lv_iconst (v := nI 2) hx hb dX7_asks_4 (by decide +kernel) ?_
  refine ho_isub hx hb dX7_asks_5 (by omega) ?_
  exact W.iret (v := nI ((3 + f) - 2)) hx hb hr (fun T9 hT9 hW9 => ⟨_, rfl, (congrArg nI (by simp [*])), hT9⟩) (fun q h => by cases h) dX7_asks_6
set_option maxHeartbeats 4000000 in
set_option maxRecDepth 100000 in
theorem c_X0_mayDispute (l : Launch) (dC : Nat → ClassId) (dI : Nat → Nat → Nat) (cI cD cR : ClassId) (a f i t kn nd : Nat) (hi : i < 9) (ht : t < 512) (hkn : kn < 512) (hnd : nd < 512) (hf : f < 10) : Met l yX0_mayDispute wsX0_mayDispute ({ frames := 3, cells := 0, slots := 0, locals := 69 }) (pcR dC dI cI cD cR [.ref a, .int (nI i), .int (nI t), .int (nI kn), .int (nI nd)] (fun H => va_P (dC, dI) vwCl ([(a, dnE 7 f)]) H)) (vp_Si (fun r => r = bI (plB t kn i && decide (i ≠ f) && decide (nd ≠ 0)))) 0 0 (fun _ => False) := by
  refine Met.ofW (cc := cX0_mayDispute) (maxL := 5) (ret := (some .boolean)) (by decide) rfl ?_
  intro p e s m args below meth c s₁ B hml hv
  obtain ⟨rfl, hH0, hCX⟩ := hv
  have hx := B.exec
  have hb := B.bytes
  have hr := B.returns
  have hts := atoms_spec (ws := wsX0_mayDispute) B.pre
  have hown : s.vm.findClass RX0 = some m.cls := findClass_of_methodNamed B.named
  have hlocks := B.notSynchronized
  have hK := hCX.1
  have hP := hH0
  have hl := lv_entry ([.ref a, .int (nI i), .int (nI t), .int (nI kn), .int (nI nd)]) (n := 5) (Nat.le_of_ble_eq_true rfl)
  rw [lg_entry_eq]
  generalize (lg_sl ([.ref a, .int (nI i), .int (nI t), .int (nI kn), .int (nI nd)]) ++ List.replicate (5 - (lg_sl ([.ref a, .int (nI i), .int (nI t), .int (nI kn), .int (nI nd)])).length) Slot.unset).toArray = ls at hl ⊢
  have hl : lv_has ls 5 [(0, .ref a), (1, .int (nI i)), (2, .int (nI t)), (3, .int (nI kn)), (4, .int (nI nd))] := hl
  refine lv_aload_n hx hb dX0_mayDispute_0 rfl (lv_at hl 0 rfl) ?_
  refine lv_iload_n hx hb dX0_mayDispute_1 rfl (lv_at hl 1 rfl) ?_
  refine lv_iload_n hx hb dX0_mayDispute_2 rfl (lv_at hl 2 rfl) ?_
  refine lv_iload_n hx hb dX0_mayDispute_3 rfl (lv_at hl 3 rfl) ?_
  refine lv_iload hx hb dX0_mayDispute_4 (lv_at hl 4 rfl) ?_
  refine vp_callSi ((va_runSU (As := [.int (nI i), .int (nI t), .int (nI kn), .int (nI nd)]) (rest := []) (hK.1 0 _ rfl).2 ⟨hx, hb, hml, hown, hts⟩ (c_X5_mayDispute_k7 l dC dI cI cD cR a f i t kn nd (by first | omega | assumption | exact gnd _ | exact gkn _ | exact Nat.lt_trans (gkn _) (by decide) | exact Nat.lt_trans (gnd _) (by decide)) (by first | omega | assumption | exact gnd _ | exact gkn _ | exact Nat.lt_trans (gkn _) (by decide) | exact Nat.lt_trans (gnd _) (by decide)) (by first | omega | assumption | exact gnd _ | exact gkn _ | exact Nat.lt_trans (gkn _) (by decide) | exact Nat.lt_trans (gnd _) (by decide)) (by first | omega | assumption | exact gnd _ | exact gkn _ | exact Nat.lt_trans (gkn _) (by decide) | exact Nat.lt_trans (gnd _) (by decide)) (by first | omega | assumption | exact gnd _ | exact gkn _ | exact Nat.lt_trans (gkn _) (by decide) | exact Nat.lt_trans (gnd _) (by decide))) (va_cwSU 4 hts gX0_mayDispute_X5_mayDispute_s7 rfl rfl rfl (by decide +kernel) ⟨Nat.le_of_ble_eq_true rfl, Nat.le_of_ble_eq_true rfl⟩) (preV_R hCX (va_recv hK hP (ci := 0) (q0 := 0) rfl rfl) (hP)) rfl rfl hl.1 rfl (lv_room (Nat.le_of_ble_eq_true rfl)) dX0_mayDispute_6 ⟨Nat.le_of_ble_eq_true (by first | rfl | decide), Nat.le_of_ble_eq_true (by first | rfl | decide)⟩).run) (fun r_6 hr_6 => ?_)
  subst hr_6
  refine ho_beq (tgt := 21) hx hb dX0_mayDispute_9 (by decide) (fun c_9 => ?_) (fun c_9 => ?_)
  · refine lv_iconst (v := nI 0) hx hb dX0_mayDispute_21 (by decide +kernel) ?_
    exact W.zret (v := nI 0) hx hb hr rfl (fun T9 hT9 hW9 => ⟨_, rfl, (bI_f (by by_cases h9 : i = f <;> simp_all)), hT9⟩) (fun q h => by cases h) dX0_mayDispute_22
  refine lv_iload hx hb dX0_mayDispute_12 (lv_at hl 4 rfl) ?_
  refine ho_if_eq (tgt := 21) hx hb dX0_mayDispute_14 (by decide) (by omega) (fun c_14 => ?_) (fun c_14 => ?_)
  · refine lv_iconst (v := nI 0) hx hb dX0_mayDispute_21 (by decide +kernel) ?_
    exact W.zret (v := nI 0) hx hb hr rfl (fun T9 hT9 hW9 => ⟨_, rfl, (bI_f (by by_cases h9 : i = f <;> simp_all)), hT9⟩) (fun q h => by cases h) dX0_mayDispute_22
  refine lv_iconst (v := nI 1) hx hb dX0_mayDispute_17 (by decide +kernel) ?_
  refine lv_goto (tgt := 22) hx hb dX0_mayDispute_18 (by decide) ?_
  exact W.zret (v := nI 1) hx hb hr rfl (fun T9 hT9 hW9 => ⟨_, rfl, (bI_t (by by_cases h9 : i = f <;> simp_all)), hT9⟩) (fun q h => by cases h) dX0_mayDispute_22
set_option maxHeartbeats 4000000 in
set_option maxRecDepth 100000 in
theorem c_X0_effort (l : Launch) (dC : Nat → ClassId) (dI : Nat → Nat → Nat) (cI cD cR : ClassId) (a f n : Nat) (hn : n < 100) : Met l yX0_effort wsX0_effort ({ frames := 2, cells := 0, slots := 0, locals := 42 }) (pcR dC dI cI cD cR [.ref a, .int (nI n)] (fun H => va_P (dC, dI) vwCl ([(a, dnE 7 f)]) H)) (vp_Si (fun r => r = nI ((n + 1 + f) * 2))) 0 0 (fun _ => False) := by
  refine Met.ofW (cc := cX0_effort) (maxL := 2) (ret := (some .int)) (by decide) rfl ?_
  intro p e s m args below meth c s₁ B hml hv
  obtain ⟨rfl, hH0, hCX⟩ := hv
  have hx := B.exec
  have hb := B.bytes
  have hr := B.returns
  have hts := atoms_spec (ws := wsX0_effort) B.pre
  have hown : s.vm.findClass RX0 = some m.cls := findClass_of_methodNamed B.named
  have hlocks := B.notSynchronized
  have hK := hCX.1
  have hP := hH0
  have hl := lv_entry ([.ref a, .int (nI n)]) (n := 2) (Nat.le_of_ble_eq_true rfl)
  rw [lg_entry_eq]
  generalize (lg_sl ([.ref a, .int (nI n)]) ++ List.replicate (2 - (lg_sl ([.ref a, .int (nI n)])).length) Slot.unset).toArray = ls at hl ⊢
  have hl : lv_has ls 2 [(0, .ref a), (1, .int (nI n))] := hl
  refine lv_aload_n hx hb dX0_effort_0 rfl (lv_at hl 0 rfl) ?_
  refine lv_iload_n hx hb dX0_effort_1 rfl (lv_at hl 1 rfl) ?_
  refine vp_callSi ((va_runSU (As := [.int (nI n)]) (rest := []) (hK.1 0 _ rfl).2 ⟨hx, hb, hml, hown, hts⟩ (c_X5_effort_k7 l dC dI cI cD cR a f n (by first | omega | assumption | exact gnd _ | exact gkn _ | exact Nat.lt_trans (gkn _) (by decide) | exact Nat.lt_trans (gnd _) (by decide))) (va_cwSU 1 hts gX0_effort_X5_effort_s15 rfl rfl rfl (by decide +kernel) ⟨Nat.le_of_ble_eq_true rfl, Nat.le_of_ble_eq_true rfl⟩) (preV_R hCX (va_recv hK hP (ci := 0) (q0 := 0) rfl rfl) (hP)) rfl rfl hl.1 rfl (lv_room (Nat.le_of_ble_eq_true rfl)) dX0_effort_2 ⟨Nat.le_of_ble_eq_true (by first | rfl | decide), Nat.le_of_ble_eq_true (by first | rfl | decide)⟩).run) (fun r_2 hr_2 => ?_)
  subst hr_2
  refine lv_iconst (v := nI 2) hx hb dX0_effort_5 (by decide +kernel) ?_
  refine ho_imul hx hb dX0_effort_6 ?_
  exact W.iret (v := nI ((n + 1 + f) * 2)) hx hb hr (fun T9 hT9 hW9 => ⟨_, rfl, rfl, hT9⟩) (fun q h => by cases h) dX0_effort_7
set_option maxHeartbeats 4000000 in
set_option maxRecDepth 100000 in
theorem c_X0_asks (l : Launch) (dC : Nat → ClassId) (dI : Nat → Nat → Nat) (cI cD cR : ClassId) (a f : Nat) (hf : f < 10) : Met l yX0_asks wsX0_asks ({ frames := 2, cells := 0, slots := 0, locals := 40 }) (pcR dC dI cI cD cR [.ref a] (fun H => va_P (dC, dI) vwCl ([(a, dnE 7 f)]) H)) (vp_Si (fun r => r = nI (3 * (f + 1) / 2))) 0 0 (fun _ => False) := by
  refine Met.ofW (cc := cX0_asks) (maxL := 1) (ret := (some .int)) (by decide) rfl ?_
  intro p e s m args below meth c s₁ B hml hv
  obtain ⟨rfl, hH0, hCX⟩ := hv
  have hx := B.exec
  have hb := B.bytes
  have hr := B.returns
  have hts := atoms_spec (ws := wsX0_asks) B.pre
  have hown : s.vm.findClass RX0 = some m.cls := findClass_of_methodNamed B.named
  have hlocks := B.notSynchronized
  have hK := hCX.1
  have hP := hH0
  have hl := lv_entry ([.ref a]) (n := 1) (Nat.le_of_ble_eq_true rfl)
  rw [lg_entry_eq]
  generalize (lg_sl ([.ref a]) ++ List.replicate (1 - (lg_sl ([.ref a])).length) Slot.unset).toArray = ls at hl ⊢
  have hl : lv_has ls 1 [(0, .ref a)] := hl
  refine lv_aload_n hx hb dX0_asks_0 rfl (lv_at hl 0 rfl) ?_
  refine vp_callSi ((va_runSU (As := []) (rest := []) (hK.1 0 _ rfl).2 ⟨hx, hb, hml, hown, hts⟩ (c_X5_asks_k7 l dC dI cI cD cR a f) (va_cwSU 0 hts gX0_asks_X5_asks_s19 rfl rfl rfl (by decide +kernel) ⟨Nat.le_of_ble_eq_true rfl, Nat.le_of_ble_eq_true rfl⟩) (preV_R hCX (va_recv hK hP (ci := 0) (q0 := 0) rfl rfl) (hP)) rfl rfl hl.1 rfl (lv_room (Nat.le_of_ble_eq_true rfl)) dX0_asks_1 ⟨Nat.le_of_ble_eq_true (by first | rfl | decide), Nat.le_of_ble_eq_true (by first | rfl | decide)⟩).run) (fun r_1 hr_1 => ?_)
  subst hr_1
  refine lv_iconst (v := nI 2) hx hb dX0_asks_4 (by decide +kernel) ?_
  refine ho_idiv hx hb dX0_asks_5 (by omega) (by omega) (by omega) ?_
  exact W.iret (v := nI ((3 * (f + 1)) / 2)) hx hb hr (fun T9 hT9 hW9 => ⟨_, rfl, (congrArg nI (by simp [*])), hT9⟩) (fun q h => by cases h) dX0_asks_6
set_option maxHeartbeats 4000000 in
set_option maxRecDepth 100000 in
theorem c_X0_isSilenced (l : Launch) (dC : Nat → ClassId) (dI : Nat → Nat → Nat) (cI cD cR : ClassId) (a f t kn nd : Nat) (odd : Bool) (ht : t < 512) (hkn : kn < 512) (hnd : nd < 512) : Met l yX0_isSilenced wsX0_isSilenced ({ frames := 2, cells := 0, slots := 0, locals := 45 }) (pcR dC dI cI cD cR [.ref a, .int (nI t), .int (nI kn), .int (nI nd), .int (bI odd)] (fun H => va_P (dC, dI) vwCl ([(a, dnE 7 f)]) H)) (vp_Si (fun r => r = bI (!odd && meB t kn nd))) 0 0 (fun _ => False) := by
  refine Met.ofW (cc := cX0_isSilenced) (maxL := 5) (ret := (some .boolean)) (by decide) rfl ?_
  intro p e s m args below meth c s₁ B hml hv
  obtain ⟨rfl, hH0, hCX⟩ := hv
  have hx := B.exec
  have hb := B.bytes
  have hr := B.returns
  have hts := atoms_spec (ws := wsX0_isSilenced) B.pre
  have hown : s.vm.findClass RX0 = some m.cls := findClass_of_methodNamed B.named
  have hlocks := B.notSynchronized
  have hK := hCX.1
  have hP := hH0
  have hl := lv_entry ([.ref a, .int (nI t), .int (nI kn), .int (nI nd), .int (bI odd)]) (n := 5) (Nat.le_of_ble_eq_true rfl)
  rw [lg_entry_eq]
  generalize (lg_sl ([.ref a, .int (nI t), .int (nI kn), .int (nI nd), .int (bI odd)]) ++ List.replicate (5 - (lg_sl ([.ref a, .int (nI t), .int (nI kn), .int (nI nd), .int (bI odd)])).length) Slot.unset).toArray = ls at hl ⊢
  have hl : lv_has ls 5 [(0, .ref a), (1, .int (nI t)), (2, .int (nI kn)), (3, .int (nI nd)), (4, .int (bI odd))] := hl
  refine lv_iload hx hb dX0_isSilenced_0 (lv_at hl 4 rfl) ?_
  refine ho_bne (tgt := 21) hx hb dX0_isSilenced_2 (by decide) (fun c_2 => ?_) (fun c_2 => ?_)
  · refine lv_iconst (v := nI 0) hx hb dX0_isSilenced_21 (by decide +kernel) ?_
    exact W.zret (v := nI 0) hx hb hr rfl (fun T9 hT9 hW9 => ⟨_, rfl, (bI_f (by simp_all)), hT9⟩) (fun q h => by cases h) dX0_isSilenced_22
  refine lv_aload_n hx hb dX0_isSilenced_5 rfl (lv_at hl 0 rfl) ?_
  refine lv_iload_n hx hb dX0_isSilenced_6 rfl (lv_at hl 1 rfl) ?_
  refine lv_iload_n hx hb dX0_isSilenced_7 rfl (lv_at hl 2 rfl) ?_
  refine lv_iload_n hx hb dX0_isSilenced_8 rfl (lv_at hl 3 rfl) ?_
  refine lv_iload hx hb dX0_isSilenced_9 (lv_at hl 4 rfl) ?_
  refine vp_callSi ((ho_boySU (As := [.int (nI t), .int (nI kn), .int (nI nd), .int (bI odd)]) (rest := []) (hK.1 0 _ rfl).2 ⟨hx, hb, hml, hown, hts⟩ (c_X2_isSilenced l dC dI cI cD cR a t kn nd odd (by omega) (by omega) (by omega)) hCX.2.2.2.1 rfl rfl (Nat.le_of_ble_eq_true rfl) (Nat.le_of_ble_eq_true rfl) (preV_R hCX (va_recv hK hP (ci := 0) (q0 := 0) rfl rfl) trivial) rfl rfl hl.1 rfl (lv_room (Nat.le_of_ble_eq_true rfl)) dX0_isSilenced_11 ⟨Nat.le_of_ble_eq_true (by first | rfl | decide), Nat.le_of_ble_eq_true (by first | rfl | decide)⟩).run) (fun r_11 hr_11 => ?_)
  subst hr_11
  refine ho_beq (tgt := 21) hx hb dX0_isSilenced_14 (by decide) (fun c_14 => ?_) (fun c_14 => ?_)
  · refine lv_iconst (v := nI 0) hx hb dX0_isSilenced_21 (by decide +kernel) ?_
    exact W.zret (v := nI 0) hx hb hr rfl (fun T9 hT9 hW9 => ⟨_, rfl, (bI_f (by simp_all)), hT9⟩) (fun q h => by cases h) dX0_isSilenced_22
  refine lv_iconst (v := nI 1) hx hb dX0_isSilenced_17 (by decide +kernel) ?_
  refine lv_goto (tgt := 22) hx hb dX0_isSilenced_18 (by decide) ?_
  exact W.zret (v := nI 1) hx hb hr rfl (fun T9 hT9 hW9 => ⟨_, rfl, (bI_t (by simp_all)), hT9⟩) (fun q h => by cases h) dX0_isSilenced_22
