set_option maxHeartbeats 4000000 in
set_option maxRecDepth 100000 in
theorem c_X8_isOf (l : Launch) (dC : Nat → ClassId) (dI : Nat → Nat → Nat) (cI cD cR : ClassId) (r rq so z : Nat) (f : Nat → Int32) (w : Nat) (hso : so < 3) (hz : z ≤ 100) (hw : w < 100) : Met l yX8_isOf wsX8_isOf ({ frames := 0, cells := 0, slots := 0, locals := 0 }) (pcR dC dI cI cD cR [.ref r, .int (nI w)] (fun H => va_P (dC, dI) vwCl ([(r, .inr (8, [.int (nI so), .ref rq])), (rq, .inl (cI, z, .inl f))]) H)) (vp_Si (fun r => r = bI (decide (so = w)))) 0 0 (fun _ => False) := by
  refine Met.ofW (cc := cX8_isOf) (maxL := 2) (ret := (some .boolean)) (by decide) rfl ?_
  intro p e s m args below meth c s₁ B hml hv
  obtain ⟨rfl, hH0, hCX⟩ := hv
  have hx := B.exec
  have hb := B.bytes
  have hr := B.returns
  have hts := atoms_spec (ws := wsX8_isOf) B.pre
  have hown : s.vm.findClass RX8 = some m.cls := findClass_of_methodNamed B.named
  have hlocks := B.notSynchronized
  have hK := hCX.1
  have hP := hH0
  have hl := lv_entry ([.ref r, .int (nI w)]) (n := 2) (Nat.le_of_ble_eq_true rfl)
  rw [lg_entry_eq]
  generalize (lg_sl ([.ref r, .int (nI w)]) ++ List.replicate (2 - (lg_sl ([.ref r, .int (nI w)])).length) Slot.unset).toArray = ls at hl ⊢
  have hl : lv_has ls 2 [(0, .ref r), (1, .int (nI w))] := hl
  refine lv_aload_n hx hb dX8_isOf_0 rfl (lv_at hl 0 rfl) ?_
  refine va_get (D := (dC, dI)) (ci := 8) (v := .int (nI so)) (C := RX8) (T := TX8) (N := 2) hx hb hts (fun _ h => List.mem_cons_of_mem _ (List.mem_append_right _ h)) hown hK hP 0 rfl rfl 0 (by decide) (hts (.fieldLink RX8 9 "HoldsOnceDenied$Row" "sort" "I") (by decide +kernel)) (fun _ h9 => h9) rfl dX8_isOf_1 ?_
  refine lv_iload_n hx hb dX8_isOf_4 rfl (lv_at hl 1 rfl) ?_
  refine ho_icmp_ne (tgt := 12) hx hb dX8_isOf_5 (by decide) (by omega) (by omega) (fun c_5 => ?_) (fun c_5 => ?_)
  · refine lv_iconst (v := nI 0) hx hb dX8_isOf_12 (by decide +kernel) ?_
    exact W.zret (v := nI 0) hx hb hr rfl (fun T9 hT9 hW9 => ⟨_, rfl, (bI_f (by simp [c_5])), hT9⟩) (fun q h => by cases h) dX8_isOf_13
  refine lv_iconst (v := nI 1) hx hb dX8_isOf_8 (by decide +kernel) ?_
  refine lv_goto (tgt := 13) hx hb dX8_isOf_9 (by decide) ?_
  exact W.zret (v := nI 1) hx hb hr rfl (fun T9 hT9 hW9 => ⟨_, rfl, (bI_t (by simp [c_5])), hT9⟩) (fun q h => by cases h) dX8_isOf_13
set_option maxHeartbeats 4000000 in
set_option maxRecDepth 100000 in
theorem c_X8_size (l : Launch) (dC : Nat → ClassId) (dI : Nat → Nat → Nat) (cI cD cR : ClassId) (r rq so z : Nat) (f : Nat → Int32) (hso : so < 3) (hz : z ≤ 100) : Met l yX8_size wsX8_size ({ frames := 0, cells := 0, slots := 0, locals := 0 }) (pcR dC dI cI cD cR [.ref r] (fun H => va_P (dC, dI) vwCl ([(r, .inr (8, [.int (nI so), .ref rq])), (rq, .inl (cI, z, .inl f))]) H)) (vp_Si (fun r => r = nI z)) 0 0 (fun _ => False) := by
  refine Met.ofW (cc := cX8_size) (maxL := 1) (ret := (some .int)) (by decide) rfl ?_
  intro p e s m args below meth c s₁ B hml hv
  obtain ⟨rfl, hH0, hCX⟩ := hv
  have hx := B.exec
  have hb := B.bytes
  have hr := B.returns
  have hts := atoms_spec (ws := wsX8_size) B.pre
  have hown : s.vm.findClass RX8 = some m.cls := findClass_of_methodNamed B.named
  have hlocks := B.notSynchronized
  have hK := hCX.1
  have hP := hH0
  have hl := lv_entry ([.ref r]) (n := 1) (Nat.le_of_ble_eq_true rfl)
  rw [lg_entry_eq]
  generalize (lg_sl ([.ref r]) ++ List.replicate (1 - (lg_sl ([.ref r])).length) Slot.unset).toArray = ls at hl ⊢
  have hl : lv_has ls 1 [(0, .ref r)] := hl
  refine lv_aload_n hx hb dX8_size_0 rfl (lv_at hl 0 rfl) ?_
  refine va_get (D := (dC, dI)) (ci := 8) (v := .ref rq) (C := RX8) (T := TX8) (N := 2) hx hb hts (fun _ h => List.mem_cons_of_mem _ (List.mem_append_right _ h)) hown hK hP 0 rfl rfl 1 (by decide) (hts (.fieldLink RX8 15 "HoldsOnceDenied$Row" "cells" "[I") (by decide +kernel)) (fun _ h9 => h9) rfl dX8_size_1 ?_
  refine va_alen (v := nI z) hx hb hK hP 1 0 rfl rfl rfl dX8_size_4 ?_
  exact W.iret (v := nI z) hx hb hr (fun T9 hT9 hW9 => ⟨_, rfl, rfl, hT9⟩) (fun q h => by cases h) dX8_size_5
set_option maxHeartbeats 4000000 in
set_option maxRecDepth 100000 in
theorem c_X8_hasPlace (l : Launch) (dC : Nat → ClassId) (dI : Nat → Nat → Nat) (cI cD cR : ClassId) (r rq so z : Nat) (f : Nat → Int32) (i : Int32) (hso : so < 3) (hz : z ≤ 100) : Met l yX8_hasPlace wsX8_hasPlace ({ frames := 0, cells := 0, slots := 0, locals := 0 }) (pcR dC dI cI cD cR [.ref r, .int i] (fun H => va_P (dC, dI) vwCl ([(r, .inr (8, [.int (nI so), .ref rq])), (rq, .inl (cI, z, .inl f))]) H)) (vp_Si (fun r => r = bI (okI i z))) 0 0 (fun _ => False) := by
  refine Met.ofW (cc := cX8_hasPlace) (maxL := 2) (ret := (some .boolean)) (by decide) rfl ?_
  intro p e s m args below meth c s₁ B hml hv
  obtain ⟨rfl, hH0, hCX⟩ := hv
  have hx := B.exec
  have hb := B.bytes
  have hr := B.returns
  have hts := atoms_spec (ws := wsX8_hasPlace) B.pre
  have hown : s.vm.findClass RX8 = some m.cls := findClass_of_methodNamed B.named
  have hlocks := B.notSynchronized
  have hK := hCX.1
  have hP := hH0
  have hl := lv_entry ([.ref r, .int i]) (n := 2) (Nat.le_of_ble_eq_true rfl)
  rw [lg_entry_eq]
  generalize (lg_sl ([.ref r, .int i]) ++ List.replicate (2 - (lg_sl ([.ref r, .int i])).length) Slot.unset).toArray = ls at hl ⊢
  have hl : lv_has ls 2 [(0, .ref r), (1, .int i)] := hl
  refine lv_iload_n hx hb dX8_hasPlace_0 rfl (lv_at hl 1 rfl) ?_
  refine lv_if_lt (tgt := 17) hx hb dX8_hasPlace_1 (by decide) (fun c_1 => ?_) (fun c_1 => ?_)
  · refine lv_iconst (v := nI 0) hx hb dX8_hasPlace_17 (by decide +kernel) ?_
    exact W.zret (v := nI 0) hx hb hr rfl (fun T9 hT9 hW9 => ⟨_, rfl, (bI_f (by first | exact okI_n0 c_1 | exact okI_n1 c_10 | exact okI_of c_1 (Int32.not_le.mp c_10))), hT9⟩) (fun q h => by cases h) dX8_hasPlace_18
  refine lv_iload_n hx hb dX8_hasPlace_4 rfl (lv_at hl 1 rfl) ?_
  refine lv_aload_n hx hb dX8_hasPlace_5 rfl (lv_at hl 0 rfl) ?_
  refine va_get (D := (dC, dI)) (ci := 8) (v := .ref rq) (C := RX8) (T := TX8) (N := 2) hx hb hts (fun _ h => List.mem_cons_of_mem _ (List.mem_append_right _ h)) hown hK hP 0 rfl rfl 1 (by decide) (hts (.fieldLink RX8 15 "HoldsOnceDenied$Row" "cells" "[I") (by decide +kernel)) (fun _ h9 => h9) rfl dX8_hasPlace_6 ?_
  refine va_alen (v := nI z) hx hb hK hP 1 0 rfl rfl rfl dX8_hasPlace_9 ?_
  refine lv_icmp_ge (tgt := 17) hx hb dX8_hasPlace_10 (by decide) (fun c_10 => ?_) (fun c_10 => ?_)
  · refine lv_iconst (v := nI 0) hx hb dX8_hasPlace_17 (by decide +kernel) ?_
    exact W.zret (v := nI 0) hx hb hr rfl (fun T9 hT9 hW9 => ⟨_, rfl, (bI_f (by first | exact okI_n0 c_1 | exact okI_n1 c_10 | exact okI_of c_1 (Int32.not_le.mp c_10))), hT9⟩) (fun q h => by cases h) dX8_hasPlace_18
  refine lv_iconst (v := nI 1) hx hb dX8_hasPlace_13 (by decide +kernel) ?_
  refine lv_goto (tgt := 18) hx hb dX8_hasPlace_14 (by decide) ?_
  exact W.zret (v := nI 1) hx hb hr rfl (fun T9 hT9 hW9 => ⟨_, rfl, (bI_t (by first | exact okI_n0 c_1 | exact okI_n1 c_10 | exact okI_of c_1 (Int32.not_le.mp c_10))), hT9⟩) (fun q h => by cases h) dX8_hasPlace_18
set_option maxHeartbeats 4000000 in
set_option maxRecDepth 100000 in
theorem c_X8_hasPlace_t (l : Launch) (dC : Nat → ClassId) (dI : Nat → Nat → Nat) (cI cD cR : ClassId) (r rq so z : Nat) (f : Nat → Int32) (i : Nat) (hso : so < 3) (hz : z ≤ 100) (hi : i < z) : Met l yX8_hasPlace wsX8_hasPlace ({ frames := 0, cells := 0, slots := 0, locals := 0 }) (pcR dC dI cI cD cR [.ref r, .int (nI i)] (fun H => va_P (dC, dI) vwCl ([(r, .inr (8, [.int (nI so), .ref rq])), (rq, .inl (cI, z, .inl f))]) H)) (vp_Si (fun r => r = bI true)) 0 0 (fun _ => False) := by
  refine Met.ofW (cc := cX8_hasPlace) (maxL := 2) (ret := (some .boolean)) (by decide) rfl ?_
  intro p e s m args below meth c s₁ B hml hv
  obtain ⟨rfl, hH0, hCX⟩ := hv
  have hx := B.exec
  have hb := B.bytes
  have hr := B.returns
  have hts := atoms_spec (ws := wsX8_hasPlace) B.pre
  have hown : s.vm.findClass RX8 = some m.cls := findClass_of_methodNamed B.named
  have hlocks := B.notSynchronized
  have hK := hCX.1
  have hP := hH0
  have hl := lv_entry ([.ref r, .int (nI i)]) (n := 2) (Nat.le_of_ble_eq_true rfl)
  rw [lg_entry_eq]
  generalize (lg_sl ([.ref r, .int (nI i)]) ++ List.replicate (2 - (lg_sl ([.ref r, .int (nI i)])).length) Slot.unset).toArray = ls at hl ⊢
  have hl : lv_has ls 2 [(0, .ref r), (1, .int (nI i))] := hl
  refine lv_iload_n hx hb dX8_hasPlace_0 rfl (lv_at hl 1 rfl) ?_
  refine ho_if_lt0 hx hb dX8_hasPlace_1 (tgt := 17) (by decide) (by omega) ?_
  refine lv_iload_n hx hb dX8_hasPlace_4 rfl (lv_at hl 1 rfl) ?_
  refine lv_aload_n hx hb dX8_hasPlace_5 rfl (lv_at hl 0 rfl) ?_
  refine va_get (D := (dC, dI)) (ci := 8) (v := .ref rq) (C := RX8) (T := TX8) (N := 2) hx hb hts (fun _ h => List.mem_cons_of_mem _ (List.mem_append_right _ h)) hown hK hP 0 rfl rfl 1 (by decide) (hts (.fieldLink RX8 15 "HoldsOnceDenied$Row" "cells" "[I") (by decide +kernel)) (fun _ h9 => h9) rfl dX8_hasPlace_6 ?_
  refine va_alen (v := nI z) hx hb hK hP 1 0 rfl rfl rfl dX8_hasPlace_9 ?_
  refine ho_icmp_ge (tgt := 17) hx hb dX8_hasPlace_10 (by decide) (by omega) (by omega) (fun c_10 => ?_) (fun c_10 => ?_)
  · exfalso; omega
  refine lv_iconst (v := nI 1) hx hb dX8_hasPlace_13 (by decide +kernel) ?_
  refine lv_goto (tgt := 18) hx hb dX8_hasPlace_14 (by decide) ?_
  exact W.zret (v := nI 1) hx hb hr rfl (fun T9 hT9 hW9 => ⟨_, rfl, (bI_t (by rfl)), hT9⟩) (fun q h => by cases h) dX8_hasPlace_18
set_option maxHeartbeats 4000000 in
set_option maxRecDepth 100000 in
theorem c_X8_hasStretch (l : Launch) (dC : Nat → ClassId) (dI : Nat → Nat → Nat) (cI cD cR : ClassId) (r rq so z : Nat) (f : Nat → Int32) (i n : Int32) (hso : so < 3) (hz : z ≤ 100) : Met l yX8_hasStretch wsX8_hasStretch ({ frames := 0, cells := 0, slots := 0, locals := 0 }) (pcR dC dI cI cD cR [.ref r, .int i, .int n] (fun H => va_P (dC, dI) vwCl ([(r, .inr (8, [.int (nI so), .ref rq])), (rq, .inl (cI, z, .inl f))]) H)) (vp_Si (fun r => r = bI (stB z i n))) 0 0 (fun _ => False) := by
  refine Met.ofW (cc := cX8_hasStretch) (maxL := 3) (ret := (some .boolean)) (by decide) rfl ?_
  intro p e s m args below meth c s₁ B hml hv
  obtain ⟨rfl, hH0, hCX⟩ := hv
  have hx := B.exec
  have hb := B.bytes
  have hr := B.returns
  have hts := atoms_spec (ws := wsX8_hasStretch) B.pre
  have hown : s.vm.findClass RX8 = some m.cls := findClass_of_methodNamed B.named
  have hlocks := B.notSynchronized
  have hK := hCX.1
  have hP := hH0
  have hl := lv_entry ([.ref r, .int i, .int n]) (n := 3) (Nat.le_of_ble_eq_true rfl)
  rw [lg_entry_eq]
  generalize (lg_sl ([.ref r, .int i, .int n]) ++ List.replicate (3 - (lg_sl ([.ref r, .int i, .int n])).length) Slot.unset).toArray = ls at hl ⊢
  have hl : lv_has ls 3 [(0, .ref r), (1, .int i), (2, .int n)] := hl
  refine lv_iload_n hx hb dX8_hasStretch_0 rfl (lv_at hl 2 rfl) ?_
  refine lv_if_lt (tgt := 32) hx hb dX8_hasStretch_1 (by decide) (fun c_1 => ?_) (fun c_1 => ?_)
  · refine lv_iconst (v := nI 0) hx hb dX8_hasStretch_32 (by decide +kernel) ?_
    exact W.zret (v := nI 0) hx hb hr rfl (fun T9 hT9 hW9 => ⟨_, rfl, (bI_f (by first | (simp [stB, c_1]; done) | (simp [stB, c_1, c_5]; done) | (simp [stB, c_1, c_5, Int32.not_le.mpr c_14]; done) | (simp [stB, c_1, c_5, Int32.not_lt.mp c_14, Int32.not_le.mpr c_25]; done) | (simp [stB, c_1, c_5, Int32.not_lt.mp c_14, Int32.not_lt.mp c_25]; done))), hT9⟩) (fun q h => by cases h) dX8_hasStretch_33
  refine lv_iload_n hx hb dX8_hasStretch_4 rfl (lv_at hl 1 rfl) ?_
  refine lv_if_lt (tgt := 32) hx hb dX8_hasStretch_5 (by decide) (fun c_5 => ?_) (fun c_5 => ?_)
  · refine lv_iconst (v := nI 0) hx hb dX8_hasStretch_32 (by decide +kernel) ?_
    exact W.zret (v := nI 0) hx hb hr rfl (fun T9 hT9 hW9 => ⟨_, rfl, (bI_f (by first | (simp [stB, c_1]; done) | (simp [stB, c_1, c_5]; done) | (simp [stB, c_1, c_5, Int32.not_le.mpr c_14]; done) | (simp [stB, c_1, c_5, Int32.not_lt.mp c_14, Int32.not_le.mpr c_25]; done) | (simp [stB, c_1, c_5, Int32.not_lt.mp c_14, Int32.not_lt.mp c_25]; done))), hT9⟩) (fun q h => by cases h) dX8_hasStretch_33
  refine lv_iload_n hx hb dX8_hasStretch_8 rfl (lv_at hl 1 rfl) ?_
  refine lv_aload_n hx hb dX8_hasStretch_9 rfl (lv_at hl 0 rfl) ?_
  refine va_get (D := (dC, dI)) (ci := 8) (v := .ref rq) (C := RX8) (T := TX8) (N := 2) hx hb hts (fun _ h => List.mem_cons_of_mem _ (List.mem_append_right _ h)) hown hK hP 0 rfl rfl 1 (by decide) (hts (.fieldLink RX8 15 "HoldsOnceDenied$Row" "cells" "[I") (by decide +kernel)) (fun _ h9 => h9) rfl dX8_hasStretch_10 ?_
  refine va_alen (v := nI z) hx hb hK hP 1 0 rfl rfl rfl dX8_hasStretch_13 ?_
  refine lv_icmp_gt (tgt := 32) hx hb dX8_hasStretch_14 (by decide) (fun c_14 => ?_) (fun c_14 => ?_)
  · refine lv_iconst (v := nI 0) hx hb dX8_hasStretch_32 (by decide +kernel) ?_
    exact W.zret (v := nI 0) hx hb hr rfl (fun T9 hT9 hW9 => ⟨_, rfl, (bI_f (by first | (simp [stB, c_1]; done) | (simp [stB, c_1, c_5]; done) | (simp [stB, c_1, c_5, Int32.not_le.mpr c_14]; done) | (simp [stB, c_1, c_5, Int32.not_lt.mp c_14, Int32.not_le.mpr c_25]; done) | (simp [stB, c_1, c_5, Int32.not_lt.mp c_14, Int32.not_lt.mp c_25]; done))), hT9⟩) (fun q h => by cases h) dX8_hasStretch_33
  refine lv_iload_n hx hb dX8_hasStretch_17 rfl (lv_at hl 2 rfl) ?_
  refine lv_aload_n hx hb dX8_hasStretch_18 rfl (lv_at hl 0 rfl) ?_
  refine va_get (D := (dC, dI)) (ci := 8) (v := .ref rq) (C := RX8) (T := TX8) (N := 2) hx hb hts (fun _ h => List.mem_cons_of_mem _ (List.mem_append_right _ h)) hown hK hP 0 rfl rfl 1 (by decide) (hts (.fieldLink RX8 15 "HoldsOnceDenied$Row" "cells" "[I") (by decide +kernel)) (fun _ h9 => h9) rfl dX8_hasStretch_19 ?_
  refine va_alen (v := nI z) hx hb hK hP 1 0 rfl rfl rfl dX8_hasStretch_22 ?_
  refine lv_iload_n hx hb dX8_hasStretch_23 rfl (lv_at hl 1 rfl) ?_
  refine lv_isub hx hb dX8_hasStretch_24 ?_
  refine lv_icmp_gt (tgt := 32) hx hb dX8_hasStretch_25 (by decide) (fun c_25 => ?_) (fun c_25 => ?_)
  · refine lv_iconst (v := nI 0) hx hb dX8_hasStretch_32 (by decide +kernel) ?_
    exact W.zret (v := nI 0) hx hb hr rfl (fun T9 hT9 hW9 => ⟨_, rfl, (bI_f (by first | (simp [stB, c_1]; done) | (simp [stB, c_1, c_5]; done) | (simp [stB, c_1, c_5, Int32.not_le.mpr c_14]; done) | (simp [stB, c_1, c_5, Int32.not_lt.mp c_14, Int32.not_le.mpr c_25]; done) | (simp [stB, c_1, c_5, Int32.not_lt.mp c_14, Int32.not_lt.mp c_25]; done))), hT9⟩) (fun q h => by cases h) dX8_hasStretch_33
  refine lv_iconst (v := nI 1) hx hb dX8_hasStretch_28 (by decide +kernel) ?_
  refine lv_goto (tgt := 33) hx hb dX8_hasStretch_29 (by decide) ?_
  exact W.zret (v := nI 1) hx hb hr rfl (fun T9 hT9 hW9 => ⟨_, rfl, (bI_t (by first | (simp [stB, c_1]; done) | (simp [stB, c_1, c_5]; done) | (simp [stB, c_1, c_5, Int32.not_le.mpr c_14]; done) | (simp [stB, c_1, c_5, Int32.not_lt.mp c_14, Int32.not_le.mpr c_25]; done) | (simp [stB, c_1, c_5, Int32.not_lt.mp c_14, Int32.not_lt.mp c_25]; done))), hT9⟩) (fun q h => by cases h) dX8_hasStretch_33
set_option maxHeartbeats 4000000 in
set_option maxRecDepth 100000 in
theorem c_X8_at (l : Launch) (dC : Nat → ClassId) (dI : Nat → Nat → Nat) (cI cD cR : ClassId) (r rq so z : Nat) (f : Nat → Int32) (i : Nat) (hso : so < 3) (hz : z ≤ 100) (hi : i < 2 ^ 31) : Met l yX8_at wsX8_at ({ frames := 0, cells := 0, slots := 0, locals := 0 }) (pcR dC dI cI cD cR [.ref r, .int (nI i)] (fun H => va_P (dC, dI) vwCl ([(r, .inr (8, [.int (nI so), .ref rq])), (rq, .inl (cI, z, .inl f))]) H)) (vp_Si (fun r => r = (atR z f i))) 0 0 (fun _ => False) := by
  refine Met.ofW (cc := cX8_at) (maxL := 2) (ret := (some .int)) (by decide) rfl ?_
  intro p e s m args below meth c s₁ B hml hv
  obtain ⟨rfl, hH0, hCX⟩ := hv
  have hx := B.exec
  have hb := B.bytes
  have hr := B.returns
  have hts := atoms_spec (ws := wsX8_at) B.pre
  have hown : s.vm.findClass RX8 = some m.cls := findClass_of_methodNamed B.named
  have hlocks := B.notSynchronized
  have hK := hCX.1
  have hP := hH0
  have hl := lv_entry ([.ref r, .int (nI i)]) (n := 2) (Nat.le_of_ble_eq_true rfl)
  rw [lg_entry_eq]
  generalize (lg_sl ([.ref r, .int (nI i)]) ++ List.replicate (2 - (lg_sl ([.ref r, .int (nI i)])).length) Slot.unset).toArray = ls at hl ⊢
  have hl : lv_has ls 2 [(0, .ref r), (1, .int (nI i))] := hl
  refine lv_iload_n hx hb dX8_at_0 rfl (lv_at hl 1 rfl) ?_
  refine ho_if_lt0 hx hb dX8_at_1 (tgt := 22) (by decide) (by omega) ?_
  refine lv_iload_n hx hb dX8_at_4 rfl (lv_at hl 1 rfl) ?_
  refine lv_aload_n hx hb dX8_at_5 rfl (lv_at hl 0 rfl) ?_
  refine va_get (D := (dC, dI)) (ci := 8) (v := .ref rq) (C := RX8) (T := TX8) (N := 2) hx hb hts (fun _ h => List.mem_cons_of_mem _ (List.mem_append_right _ h)) hown hK hP 0 rfl rfl 1 (by decide) (hts (.fieldLink RX8 15 "HoldsOnceDenied$Row" "cells" "[I") (by decide +kernel)) (fun _ h9 => h9) rfl dX8_at_6 ?_
  refine va_alen (v := nI z) hx hb hK hP 1 0 rfl rfl rfl dX8_at_9 ?_
  refine ho_icmp_ge (tgt := 22) hx hb dX8_at_10 (by decide) (by omega) (by omega) (fun c_10 => ?_) (fun c_10 => ?_)
  · refine lv_iconst (v := nI 0) hx hb dX8_at_22 (by decide +kernel) ?_
    exact W.iret (v := nI 0) hx hb hr (fun T9 hT9 hW9 => ⟨_, rfl, (by first | exact (if_pos (by omega)).symm | exact (if_neg (by omega)).symm), hT9⟩) (fun q h => by cases h) dX8_at_23
  refine lv_aload_n hx hb dX8_at_13 rfl (lv_at hl 0 rfl) ?_
  refine va_get (D := (dC, dI)) (ci := 8) (v := .ref rq) (C := RX8) (T := TX8) (N := 2) hx hb hts (fun _ h => List.mem_cons_of_mem _ (List.mem_append_right _ h)) hown hK hP 0 rfl rfl 1 (by decide) (hts (.fieldLink RX8 15 "HoldsOnceDenied$Row" "cells" "[I") (by decide +kernel)) (fun _ h9 => h9) rfl dX8_at_14 ?_
  refine lv_iload_n hx hb dX8_at_17 rfl (lv_at hl 1 rfl) ?_
  refine ho_iald (v := (f i)) hx hb hK hP 1 0 rfl rfl (by omega) (by first | decide | omega) rfl dX8_at_18 ?_
  refine lv_goto (tgt := 23) hx hb dX8_at_19 (by decide) ?_
  exact W.iret (v := (f i)) hx hb hr (fun T9 hT9 hW9 => ⟨_, rfl, (by first | exact (if_pos (by omega)).symm | exact (if_neg (by omega)).symm), hT9⟩) (fun q h => by cases h) dX8_at_23
set_option maxHeartbeats 4000000 in
set_option maxRecDepth 100000 in
theorem c_X8_cut (l : Launch) (dC : Nat → ClassId) (dI : Nat → Nat → Nat) (cI cD cR : ClassId) (r rq so z : Nat) (f : Nat → Int32) (v : Int32) (hso : so < 3) (hz : z ≤ 100) : Met l yX8_cut wsX8_cut ({ frames := 0, cells := 0, slots := 0, locals := 0 }) (pcR dC dI cI cD cR [.ref r, .int v] (fun H => va_P (dC, dI) vwCl ([(r, .inr (8, [.int (nI so), .ref rq])), (rq, .inl (cI, z, .inl f))]) H)) (vp_Si (fun r => r = (cutI so v))) 0 0 (fun _ => False) := by
  refine Met.ofW (cc := cX8_cut) (maxL := 2) (ret := (some .int)) (by decide) rfl ?_
  intro p e s m args below meth c s₁ B hml hv
  obtain ⟨rfl, hH0, hCX⟩ := hv
  have hx := B.exec
  have hb := B.bytes
  have hr := B.returns
  have hts := atoms_spec (ws := wsX8_cut) B.pre
  have hown : s.vm.findClass RX8 = some m.cls := findClass_of_methodNamed B.named
  have hlocks := B.notSynchronized
  have hK := hCX.1
  have hP := hH0
  have hl := lv_entry ([.ref r, .int v]) (n := 2) (Nat.le_of_ble_eq_true rfl)
  rw [lg_entry_eq]
  generalize (lg_sl ([.ref r, .int v]) ++ List.replicate (2 - (lg_sl ([.ref r, .int v])).length) Slot.unset).toArray = ls at hl ⊢
  have hl : lv_has ls 2 [(0, .ref r), (1, .int v)] := hl
  refine lv_aload_n hx hb dX8_cut_0 rfl (lv_at hl 0 rfl) ?_
  refine va_get (D := (dC, dI)) (ci := 8) (v := .int (nI so)) (C := RX8) (T := TX8) (N := 2) hx hb hts (fun _ h => List.mem_cons_of_mem _ (List.mem_append_right _ h)) hown hK hP 0 rfl rfl 0 (by decide) (hts (.fieldLink RX8 9 "HoldsOnceDenied$Row" "sort" "I") (by decide +kernel)) (fun _ h9 => h9) rfl dX8_cut_1 ?_
  refine ho_if_ne (tgt := 10) hx hb dX8_cut_4 (by decide) (by omega) (fun c_4 => ?_) (fun c_4 => ?_)
  · refine lv_aload_n hx hb dX8_cut_10 rfl (lv_at hl 0 rfl) ?_
    refine va_get (D := (dC, dI)) (ci := 8) (v := .int (nI so)) (C := RX8) (T := TX8) (N := 2) hx hb hts (fun _ h => List.mem_cons_of_mem _ (List.mem_append_right _ h)) hown hK hP 0 rfl rfl 0 (by decide) (hts (.fieldLink RX8 9 "HoldsOnceDenied$Row" "sort" "I") (by decide +kernel)) (fun _ h9 => h9) rfl dX8_cut_11 ?_
    refine lv_iconst (v := nI 1) hx hb dX8_cut_14 (by decide +kernel) ?_
    refine ho_icmp_ne (tgt := 23) hx hb dX8_cut_15 (by decide) (by omega) (by omega) (fun c_15 => ?_) (fun c_15 => ?_)
    · refine lv_iload_n hx hb dX8_cut_23 rfl (lv_at hl 1 rfl) ?_
      exact W.iret (v := v) hx hb hr (fun T9 hT9 hW9 => ⟨_, rfl, (by first | (simp [cutI, c_4, c_15]; done) | (simp [cutI, c_4]; done)), hT9⟩) (fun q h => by cases h) dX8_cut_24
    refine lv_iload_n hx hb dX8_cut_18 rfl (lv_at hl 1 rfl) ?_
    refine lv_i2s (v := (v).toInt16.toInt32) hx hb dX8_cut_19 rfl ?_
    refine lv_goto (tgt := 24) hx hb dX8_cut_20 (by decide) ?_
    exact W.iret (v := ((v).toInt16.toInt32)) hx hb hr (fun T9 hT9 hW9 => ⟨_, rfl, (by first | (simp [cutI, c_4, c_15]; done) | (simp [cutI, c_4]; done)), hT9⟩) (fun q h => by cases h) dX8_cut_24
  refine lv_iload_n hx hb dX8_cut_7 rfl (lv_at hl 1 rfl) ?_
  refine lv_i2b (v := (v).toInt8.toInt32) hx hb dX8_cut_8 rfl ?_
  exact W.iret (v := ((v).toInt8.toInt32)) hx hb hr (fun T9 hT9 hW9 => ⟨_, rfl, (by first | (simp [cutI, c_4, c_15]; done) | (simp [cutI, c_4]; done)), hT9⟩) (fun q h => by cases h) dX8_cut_9
set_option maxHeartbeats 4000000 in
set_option maxRecDepth 100000 in
theorem c_X8_store (l : Launch) (dC : Nat → ClassId) (dI : Nat → Nat → Nat) (cI cD cR : ClassId) (r rq so z : Nat) (f : Nat → Int32) (i : Nat) (v : Int32) (sz : Nat) (hso : so < 3) (hz : z ≤ 100) (hi : i < z) : Met l yX8_store wsX8_store ({ frames := 1, cells := 0, slots := 0, locals := 21 }) (pcR dC dI cI cD cR [.ref r, .int (nI i), .int v] (fun H => H.size = sz ∧ va_P (dC, dI) vwCl ([(r, .inr (8, [.int (nI so), .ref rq])), (rq, .inl (cI, z, .inl f))]) H ∧ va_D (fun _ => True) ([(r, .inr (8, [.int (nI so), .ref rq])), (rq, .inl (cI, z, .inl f))]))) (va_Qv (fun (_ : Unit) => True) (fun (_ : Unit) T9 => va_P (dC, dI) vwCl ([(r, .inr (8, [.int (nI so), .ref rq])), (rq, .inl (cI, z, .inl (upd f i (cutI so v))))]) T9.heap ∧ va_D (va_A ([(r, .inr (8, [.int (nI so), .ref rq])), (rq, .inl (cI, z, .inl f))]) sz) ([(r, .inr (8, [.int (nI so), .ref rq])), (rq, .inl (cI, z, .inl (upd f i (cutI so v))))])) (va_A ([(r, .inr (8, [.int (nI so), .ref rq])), (rq, .inl (cI, z, .inl f))]) sz)) 0 0 (va_A ([(r, .inr (8, [.int (nI so), .ref rq])), (rq, .inl (cI, z, .inl f))]) sz) := by
  refine Met.ofW (cc := cX8_store) (maxL := 3) (ret := none) (by decide) rfl ?_
  intro p e s m args below meth c s₁ B hml hv
  obtain ⟨rfl, hH0, hCX⟩ := hv
  have hx := B.exec
  have hb := B.bytes
  have hr := B.returns
  have hts := atoms_spec (ws := wsX8_store) B.pre
  have hown : s.vm.findClass RX8 = some m.cls := findClass_of_methodNamed B.named
  have hlocks := B.notSynchronized
  have hK := hCX.1
  obtain ⟨hsz, hP, hD0⟩ := hH0
  subst hsz
  have hD := hD0.self (sz := s.heap.size)
  generalize hAe : va_A ([(r, .inr (8, [.int (nI so), .ref rq])), (rq, .inl (cI, z, .inl f))]) s.heap.size = A at hD ⊢
  have hA : ∀ q : Nat, s.heap.size ≤ q → A q := fun q h => by rw [← hAe]; exact Or.inr h
  have hS : va_S A s.heap s.heap [] := va_S.rf
  have hP : va_P (dC, dI) vwCl ([(r, .inr (8, [.int (nI so), .ref rq])), (rq, .inl (cI, z, .inl f))]) s.heap := hP
  have hl := lv_entry ([.ref r, .int (nI i), .int v]) (n := 3) (Nat.le_of_ble_eq_true rfl)
  rw [lg_entry_eq]
  generalize (lg_sl ([.ref r, .int (nI i), .int v]) ++ List.replicate (3 - (lg_sl ([.ref r, .int (nI i), .int v])).length) Slot.unset).toArray = ls at hl ⊢
  have hl : lv_has ls 3 [(0, .ref r), (1, .int (nI i)), (2, .int v)] := hl
  refine lv_iload_n hx hb dX8_store_0 rfl (lv_at hl 1 rfl) ?_
  refine ho_if_lt0 hx hb dX8_store_1 (tgt := 24) (by decide) (by omega) ?_
  refine lv_iload_n hx hb dX8_store_4 rfl (lv_at hl 1 rfl) ?_
  refine lv_aload_n hx hb dX8_store_5 rfl (lv_at hl 0 rfl) ?_
  refine va_get (D := (dC, dI)) (ci := 8) (v := .ref rq) (C := RX8) (T := TX8) (N := 2) hx hb hts (fun _ h => List.mem_cons_of_mem _ (List.mem_append_right _ h)) hown hK hP 0 rfl rfl 1 (by decide) (hts (.fieldLink RX8 15 "HoldsOnceDenied$Row" "cells" "[I") (by decide +kernel)) (fun _ h9 => h9) rfl dX8_store_6 ?_
  refine va_alen (v := nI z) hx hb hK hP 1 0 rfl rfl rfl dX8_store_9 ?_
  refine ho_icmp_ge (tgt := 24) hx hb dX8_store_10 (by decide) (by omega) (by omega) (fun c_10 => ?_) (fun c_10 => ?_)
  · exfalso; omega
  refine lv_aload_n hx hb dX8_store_13 rfl (lv_at hl 0 rfl) ?_
  refine va_get (D := (dC, dI)) (ci := 8) (v := .ref rq) (C := RX8) (T := TX8) (N := 2) hx hb hts (fun _ h => List.mem_cons_of_mem _ (List.mem_append_right _ h)) hown hK hP 0 rfl rfl 1 (by decide) (hts (.fieldLink RX8 15 "HoldsOnceDenied$Row" "cells" "[I") (by decide +kernel)) (fun _ h9 => h9) rfl dX8_store_14 ?_
  refine lv_iload_n hx hb dX8_store_17 rfl (lv_at hl 1 rfl) ?_
  refine lv_aload_n hx hb dX8_store_18 rfl (lv_at hl 0 rfl) ?_
  refine lv_iload_n hx hb dX8_store_19 rfl (lv_at hl 2 rfl) ?_
  refine vp_callSi ((va_runV (As := [.int v]) (rest := [.int (nI i), .ref rq]) ⟨hx, hb, hml, hown, hts⟩ (c_X8_cut l dC dI cI cD cR r rq so z f v (by first | omega | assumption | exact gnd _ | exact gkn _ | exact Nat.lt_trans (gkn _) (by decide) | exact Nat.lt_trans (gnd _) (by decide) | exact Nat.lt_of_le_of_lt (pcN_le _) (by decide)) (by first | omega | assumption | exact gnd _ | exact gkn _ | exact Nat.lt_trans (gkn _) (by decide) | exact Nat.lt_trans (gnd _) (by decide) | exact Nat.lt_of_le_of_lt (pcN_le _) (by decide))) (cwV 1 hts gX8_store_X8_cut rfl rfl rfl (by decide +kernel) ⟨Nat.le_of_ble_eq_true rfl, Nat.le_of_ble_eq_true rfl⟩) (preV_R hCX (va_recv hK hP (ci := 8) (q0 := 0) rfl rfl) (hP)) rfl rfl hl.1 rfl (lv_room (Nat.le_of_ble_eq_true rfl)) dX8_store_20 ⟨Nat.le_of_ble_eq_true (by first | rfl | decide), Nat.le_of_ble_eq_true (by first | rfl | decide)⟩).run) (fun r_20 hr_20 => ?_)
  subst hr_20
  refine ho_iast (g := upd f i (cutI so v)) hx hb hK hP hD hS 1 0 rfl rfl (by omega) (by first | decide | omega) rfl dX8_store_23 (fun H locs hP hD hS => ?_)
  have hP : va_P (dC, dI) vwCl ([(r, .inr (8, [.int (nI so), .ref rq])), (rq, .inl (cI, z, .inl (upd f i (cutI so v))))]) H := hP
  have hD : va_D A ([(r, .inr (8, [.int (nI so), .ref rq])), (rq, .inl (cI, z, .inl (upd f i (cutI so v))))]) := hD
  exact W.vret hx hb hr (fun T9 hT9 hW9 => ⟨⟨(), rfl, trivial, by rw [hT9]; exact hP, hD⟩, hS.F hT9⟩) hS.2.2 dX8_store_24
set_option maxHeartbeats 4000000 in
set_option maxRecDepth 100000 in
theorem c_X8_init (l : Launch) (dC : Nat → ClassId) (dI : Nat → Nat → Nat) (cI cD cR : ClassId) (r rq so z : Nat) (f : Nat → Int32) (sz : Nat)  : Met l yX8_init wsX8_init ({ frames := 1, cells := 0, slots := 0, locals := 12 }) (pcR dC dI cI cD cR [.ref r, .int (nI so), .ref rq] (fun H => H.size = sz ∧ va_P (dC, dI) vwCl ([(r, .inr (8, [.int (nI 0), .null]))] ++ [(rq, .inl (cI, z, .inl f))]) H ∧ va_D (fun _ => True) ([(r, .inr (8, [.int (nI 0), .null]))] ++ [(rq, .inl (cI, z, .inl f))]))) (va_Qv (fun (_ : Unit) => True) (fun (_ : Unit) T9 => va_P (dC, dI) vwCl ([(r, .inr (8, [.int (nI so), .ref rq])), (rq, .inl (cI, z, .inl f))]) T9.heap ∧ va_D (va_A ([(r, .inr (8, [.int (nI 0), .null]))] ++ [(rq, .inl (cI, z, .inl f))]) sz) ([(r, .inr (8, [.int (nI so), .ref rq])), (rq, .inl (cI, z, .inl f))])) (va_A ([(r, .inr (8, [.int (nI 0), .null]))] ++ [(rq, .inl (cI, z, .inl f))]) sz)) 0 0 (va_A ([(r, .inr (8, [.int (nI 0), .null]))] ++ [(rq, .inl (cI, z, .inl f))]) sz) := by
  refine Met.ofW (cc := cX8_init) (maxL := 3) (ret := none) (by decide) rfl ?_
  intro p e s m args below meth c s₁ B hml hv
  obtain ⟨rfl, hH0, hCX⟩ := hv
  have hx := B.exec
  have hb := B.bytes
  have hr := B.returns
  have hts := atoms_spec (ws := wsX8_init) B.pre
  have hown : s.vm.findClass RX8 = some m.cls := findClass_of_methodNamed B.named
  have hlocks := B.notSynchronized
  have hin : meth.name = "<init>" := (name_of_methodNamed B.named B.method).1
  have hK := hCX.1
  obtain ⟨hsz, hP, hD0⟩ := hH0
  subst hsz
  have hD := hD0.self (sz := s.heap.size)
  generalize hAe : va_A ([(r, .inr (8, [.int (nI 0), .null]))] ++ [(rq, .inl (cI, z, .inl f))]) s.heap.size = A at hD ⊢
  have hA : ∀ q : Nat, s.heap.size ≤ q → A q := fun q h => by rw [← hAe]; exact Or.inr h
  have hS : va_S A s.heap s.heap [] := va_S.rf
  have hP : va_P (dC, dI) vwCl ([(r, .inr (8, [.int (nI 0), .null]))] ++ [(rq, .inl (cI, z, .inl f))]) s.heap := hP
  have hl := lv_entry ([.ref r, .int (nI so), .ref rq]) (n := 3) (Nat.le_of_ble_eq_true rfl)
  rw [lg_entry_eq]
  generalize (lg_sl ([.ref r, .int (nI so), .ref rq]) ++ List.replicate (3 - (lg_sl ([.ref r, .int (nI so), .ref rq])).length) Slot.unset).toArray = ls at hl ⊢
  have hl : lv_has ls 3 [(0, .ref r), (1, .int (nI so)), (2, .ref rq)] := hl
  refine lv_aload_n hx hb dX8_init_0 rfl (lv_at hl 0 rfl) ?_
  refine W.objInit hx hb hown (hts (.methodLink RX8 3 objectInit) (by decide +kernel)) (hts (.instanceMethod objectInit) (by decide +kernel)) (hts (.code objectInit ⟨#[0xb1]⟩ 1 none) (by decide +kernel)) rfl (by rw [hml]; exact hl.1) rfl dX8_init_1 (Nat.le_of_ble_eq_true rfl) (Nat.le_of_ble_eq_true rfl) ?_
  refine W.eq (g2 := F0 m 4 ls []) rfl ?_
  refine lv_aload_n hx hb dX8_init_4 rfl (lv_at hl 0 rfl) ?_
  refine lv_iload_n hx hb dX8_init_5 rfl (lv_at hl 1 rfl) ?_
  refine va_putF (D := (dC, dI)) (ci := 8) (v := .int (nI so)) (ty := .int) (C := RX8) (T := TX8) (N := 2) hx hb hts (fun _ h => List.mem_cons_of_mem _ (List.mem_append_right _ h)) tyX8 tyX8_ok nmX8 hown hK hP hD hS 0 rfl rfl 0 (by decide) (hts (.fieldLink RX8 9 "HoldsOnceDenied$Row" "sort" "I") (by decide +kernel)) (fun _ h9 => h9) rfl hin rfl (by decide +kernel) rfl rfl (Nat.le_of_ble_eq_true rfl) dX8_init_6 (fun H locs hP hD hS => ?_)
  have hP : va_P (dC, dI) vwCl ([(r, .inr (8, [.int (nI so), .null]))] ++ [(rq, .inl (cI, z, .inl f))]) H := hP
  have hD : va_D A ([(r, .inr (8, [.int (nI so), .null]))] ++ [(rq, .inl (cI, z, .inl f))]) := hD
  refine lv_aload_n hx hb dX8_init_9 rfl (lv_at hl 0 rfl) ?_
  refine lv_aload_n hx hb dX8_init_10 rfl (lv_at hl 2 rfl) ?_
  refine va_putF (D := (dC, dI)) (ci := 8) (v := .ref rq) (ty := tyX8 1) (C := RX8) (T := TX8) (N := 2) hx hb hts (fun _ h => List.mem_cons_of_mem _ (List.mem_append_right _ h)) tyX8 tyX8_ok nmX8 hown hK hP hD hS 0 rfl rfl 1 (by decide) (hts (.fieldLink RX8 15 "HoldsOnceDenied$Row" "cells" "[I") (by decide +kernel)) (fun _ h9 => h9) rfl hin rfl (by decide +kernel) rfl rfl (Nat.le_of_ble_eq_true rfl) dX8_init_11 (fun H locs hP hD hS => ?_)
  have hP : va_P (dC, dI) vwCl ([(r, .inr (8, [.int (nI so), .ref rq]))] ++ [(rq, .inl (cI, z, .inl f))]) H := hP
  have hD : va_D A ([(r, .inr (8, [.int (nI so), .ref rq]))] ++ [(rq, .inl (cI, z, .inl f))]) := hD
  have hW9 : ([(r, .inr (8, [.int (nI so), .ref rq]))] ++ [(rq, .inl (cI, z, .inl f))] : va_W) = [(r, .inr (8, [.int (nI so), .ref rq])), (rq, .inl (cI, z, .inl f))] := rfl
  rw [hW9] at hP hD
  exact W.vret hx hb hr (fun T9 hT9 hW9 => ⟨⟨(), rfl, trivial, by rw [hT9]; exact hP, hD⟩, hS.F hT9⟩) hS.2.2 dX8_init_14
set_option maxHeartbeats 4000000 in
set_option maxRecDepth 100000 in
theorem c_X2_init_k0 (l : Launch) (dC : Nat → ClassId) (dI : Nat → Nat → Nat) (cI cD cR : ClassId) (a f : Nat) (sz : Nat)  : Met l yX2_init wsX2_init ({ frames := 1, cells := 0, slots := 0, locals := 12 }) (pcR dC dI cI cD cR [.ref a, .int (nI 0), .int (nI f)] (fun H => H.size = sz ∧ va_P (dC, dI) vwCl ([(a, .inr (2, [.int (nI 0), .int (nI 0)]))]) H ∧ va_D (fun _ => True) ([(a, .inr (2, [.int (nI 0), .int (nI 0)]))]))) (va_Qv (fun (_ : Unit) => True) (fun (_ : Unit) T9 => va_P (dC, dI) vwCl ([(a, dnE 0 f)]) T9.heap ∧ va_D (va_A ([(a, .inr (2, [.int (nI 0), .int (nI 0)]))]) sz) ([(a, dnE 0 f)])) (va_A ([(a, .inr (2, [.int (nI 0), .int (nI 0)]))]) sz)) 0 0 (va_A ([(a, .inr (2, [.int (nI 0), .int (nI 0)]))]) sz) := by
  refine Met.ofW (cc := cX2_init) (maxL := 3) (ret := none) (by decide) rfl ?_
  intro p e s m args below meth c s₁ B hml hv
  obtain ⟨rfl, hH0, hCX⟩ := hv
  have hx := B.exec
  have hb := B.bytes
  have hr := B.returns
  have hts := atoms_spec (ws := wsX2_init) B.pre
  have hown : s.vm.findClass RX2 = some m.cls := findClass_of_methodNamed B.named
  have hlocks := B.notSynchronized
  have hin : meth.name = "<init>" := (name_of_methodNamed B.named B.method).1
  have hK := hCX.1
  obtain ⟨hsz, hP, hD0⟩ := hH0
  subst hsz
  have hD := hD0.self (sz := s.heap.size)
  generalize hAe : va_A ([(a, .inr (2, [.int (nI 0), .int (nI 0)]))]) s.heap.size = A at hD ⊢
  have hA : ∀ q : Nat, s.heap.size ≤ q → A q := fun q h => by rw [← hAe]; exact Or.inr h
  have hS : va_S A s.heap s.heap [] := va_S.rf
  have hP : va_P (dC, dI) vwCl ([(a, .inr (2, [.int (nI 0), .int (nI 0)]))]) s.heap := hP
  have hl := lv_entry ([.ref a, .int (nI 0), .int (nI f)]) (n := 3) (Nat.le_of_ble_eq_true rfl)
  rw [lg_entry_eq]
  generalize (lg_sl ([.ref a, .int (nI 0), .int (nI f)]) ++ List.replicate (3 - (lg_sl ([.ref a, .int (nI 0), .int (nI f)])).length) Slot.unset).toArray = ls at hl ⊢
  have hl : lv_has ls 3 [(0, .ref a), (1, .int (nI 0)), (2, .int (nI f))] := hl
  refine lv_aload_n hx hb dX2_init_0 rfl (lv_at hl 0 rfl) ?_
  refine W.objInit hx hb hown (hts (.methodLink RX2 1 objectInit) (by decide +kernel)) (hts (.instanceMethod objectInit) (by decide +kernel)) (hts (.code objectInit ⟨#[0xb1]⟩ 1 none) (by decide +kernel)) rfl (by rw [hml]; exact hl.1) rfl dX2_init_1 (Nat.le_of_ble_eq_true rfl) (Nat.le_of_ble_eq_true rfl) ?_
  refine W.eq (g2 := F0 m 4 ls []) rfl ?_
  refine lv_aload_n hx hb dX2_init_4 rfl (lv_at hl 0 rfl) ?_
  refine lv_iload_n hx hb dX2_init_5 rfl (lv_at hl 1 rfl) ?_
  refine va_putF (D := (dC, dI)) (ci := 2) (v := .int (nI 0)) (ty := .int) (C := RX2) (T := TX2) (N := 2) hx hb hts (fun _ h => List.mem_cons_of_mem _ (List.mem_append_left _ (List.mem_append_left _ (List.mem_append_left _ (List.mem_append_left _ (List.mem_append_left _ (List.mem_append_right _ h))))))) tyX2 tyX2_ok nmX2 hown hK hP hD hS 0 rfl rfl 0 (by decide) (hts (.fieldLink RX2 7 "HoldsOnceDenied$Denier" "kind" "I") (by decide +kernel)) (fun _ h9 => h9) rfl hin rfl (by decide +kernel) rfl rfl (Nat.le_of_ble_eq_true rfl) dX2_init_6 (fun H locs hP hD hS => ?_)
  have hP : va_P (dC, dI) vwCl ([(a, .inr (2, [.int (nI 0), .int (nI 0)]))]) H := hP
  have hD : va_D A ([(a, .inr (2, [.int (nI 0), .int (nI 0)]))]) := hD
  refine lv_aload_n hx hb dX2_init_9 rfl (lv_at hl 0 rfl) ?_
  refine lv_iload_n hx hb dX2_init_10 rfl (lv_at hl 2 rfl) ?_
  refine va_putF (D := (dC, dI)) (ci := 2) (v := .int (nI f)) (ty := .int) (C := RX2) (T := TX2) (N := 2) hx hb hts (fun _ h => List.mem_cons_of_mem _ (List.mem_append_left _ (List.mem_append_left _ (List.mem_append_left _ (List.mem_append_left _ (List.mem_append_left _ (List.mem_append_right _ h))))))) tyX2 tyX2_ok nmX2 hown hK hP hD hS 0 rfl rfl 1 (by decide) (hts (.fieldLink RX2 13 "HoldsOnceDenied$Denier" "figure" "I") (by decide +kernel)) (fun _ h9 => h9) rfl hin rfl (by decide +kernel) rfl rfl (Nat.le_of_ble_eq_true rfl) dX2_init_11 (fun H locs hP hD hS => ?_)
  have hP : va_P (dC, dI) vwCl ([(a, .inr (2, [.int (nI 0), .int (nI f)]))]) H := hP
  have hD : va_D A ([(a, .inr (2, [.int (nI 0), .int (nI f)]))]) := hD
  have hW9 : ([(a, .inr (2, [.int (nI 0), .int (nI f)]))] : va_W) = [(a, dnE 0 f)] := rfl
  rw [hW9] at hP hD
  exact W.vret hx hb hr (fun T9 hT9 hW9 => ⟨⟨(), rfl, trivial, by rw [hT9]; exact hP, hD⟩, hS.F hT9⟩) hS.2.2 dX2_init_14
set_option maxHeartbeats 4000000 in
set_option maxRecDepth 100000 in
theorem c_X2_init_k1 (l : Launch) (dC : Nat → ClassId) (dI : Nat → Nat → Nat) (cI cD cR : ClassId) (a f : Nat) (sz : Nat)  : Met l yX2_init wsX2_init ({ frames := 1, cells := 0, slots := 0, locals := 12 }) (pcR dC dI cI cD cR [.ref a, .int (nI 1), .int (nI f)] (fun H => H.size = sz ∧ va_P (dC, dI) vwCl ([(a, .inr (3, [.int (nI 0), .int (nI 0)]))]) H ∧ va_D (fun _ => True) ([(a, .inr (3, [.int (nI 0), .int (nI 0)]))]))) (va_Qv (fun (_ : Unit) => True) (fun (_ : Unit) T9 => va_P (dC, dI) vwCl ([(a, dnE 1 f)]) T9.heap ∧ va_D (va_A ([(a, .inr (3, [.int (nI 0), .int (nI 0)]))]) sz) ([(a, dnE 1 f)])) (va_A ([(a, .inr (3, [.int (nI 0), .int (nI 0)]))]) sz)) 0 0 (va_A ([(a, .inr (3, [.int (nI 0), .int (nI 0)]))]) sz) := by
  refine Met.ofW (cc := cX2_init) (maxL := 3) (ret := none) (by decide) rfl ?_
  intro p e s m args below meth c s₁ B hml hv
  obtain ⟨rfl, hH0, hCX⟩ := hv
  have hx := B.exec
  have hb := B.bytes
  have hr := B.returns
  have hts := atoms_spec (ws := wsX2_init) B.pre
  have hown : s.vm.findClass RX2 = some m.cls := findClass_of_methodNamed B.named
  have hlocks := B.notSynchronized
  have hin : meth.name = "<init>" := (name_of_methodNamed B.named B.method).1
  have hK := hCX.1
  obtain ⟨hsz, hP, hD0⟩ := hH0
  subst hsz
  have hD := hD0.self (sz := s.heap.size)
  generalize hAe : va_A ([(a, .inr (3, [.int (nI 0), .int (nI 0)]))]) s.heap.size = A at hD ⊢
  have hA : ∀ q : Nat, s.heap.size ≤ q → A q := fun q h => by rw [← hAe]; exact Or.inr h
  have hS : va_S A s.heap s.heap [] := va_S.rf
  have hP : va_P (dC, dI) vwCl ([(a, .inr (3, [.int (nI 0), .int (nI 0)]))]) s.heap := hP
  have hl := lv_entry ([.ref a, .int (nI 1), .int (nI f)]) (n := 3) (Nat.le_of_ble_eq_true rfl)
  rw [lg_entry_eq]
  generalize (lg_sl ([.ref a, .int (nI 1), .int (nI f)]) ++ List.replicate (3 - (lg_sl ([.ref a, .int (nI 1), .int (nI f)])).length) Slot.unset).toArray = ls at hl ⊢
  have hl : lv_has ls 3 [(0, .ref a), (1, .int (nI 1)), (2, .int (nI f))] := hl
  refine lv_aload_n hx hb dX2_init_0 rfl (lv_at hl 0 rfl) ?_
  refine W.objInit hx hb hown (hts (.methodLink RX2 1 objectInit) (by decide +kernel)) (hts (.instanceMethod objectInit) (by decide +kernel)) (hts (.code objectInit ⟨#[0xb1]⟩ 1 none) (by decide +kernel)) rfl (by rw [hml]; exact hl.1) rfl dX2_init_1 (Nat.le_of_ble_eq_true rfl) (Nat.le_of_ble_eq_true rfl) ?_
  refine W.eq (g2 := F0 m 4 ls []) rfl ?_
  refine lv_aload_n hx hb dX2_init_4 rfl (lv_at hl 0 rfl) ?_
  refine lv_iload_n hx hb dX2_init_5 rfl (lv_at hl 1 rfl) ?_
  refine va_putF (D := (dC, dI)) (ci := 3) (v := .int (nI 1)) (ty := .int) (C := RX3) (T := TX3) (N := 2) hx hb hts (fun _ h => List.mem_cons_of_mem _ (List.mem_append_left _ (List.mem_append_left _ (List.mem_append_left _ (List.mem_append_left _ (List.mem_append_right _ h)))))) tyX3 tyX3_ok nmX3 hown hK hP hD hS 0 rfl rfl 0 (by decide) (hts (.fieldLink RX2 7 "HoldsOnceDenied$Denier" "kind" "I") (by decide +kernel)) (fun _ h9 => h9) rfl hin rfl (by decide +kernel) rfl rfl (Nat.le_of_ble_eq_true rfl) dX2_init_6 (fun H locs hP hD hS => ?_)
  have hP : va_P (dC, dI) vwCl ([(a, .inr (3, [.int (nI 1), .int (nI 0)]))]) H := hP
  have hD : va_D A ([(a, .inr (3, [.int (nI 1), .int (nI 0)]))]) := hD
  refine lv_aload_n hx hb dX2_init_9 rfl (lv_at hl 0 rfl) ?_
  refine lv_iload_n hx hb dX2_init_10 rfl (lv_at hl 2 rfl) ?_
  refine va_putF (D := (dC, dI)) (ci := 3) (v := .int (nI f)) (ty := .int) (C := RX3) (T := TX3) (N := 2) hx hb hts (fun _ h => List.mem_cons_of_mem _ (List.mem_append_left _ (List.mem_append_left _ (List.mem_append_left _ (List.mem_append_left _ (List.mem_append_right _ h)))))) tyX3 tyX3_ok nmX3 hown hK hP hD hS 0 rfl rfl 1 (by decide) (hts (.fieldLink RX2 13 "HoldsOnceDenied$Denier" "figure" "I") (by decide +kernel)) (fun _ h9 => h9) rfl hin rfl (by decide +kernel) rfl rfl (Nat.le_of_ble_eq_true rfl) dX2_init_11 (fun H locs hP hD hS => ?_)
  have hP : va_P (dC, dI) vwCl ([(a, .inr (3, [.int (nI 1), .int (nI f)]))]) H := hP
  have hD : va_D A ([(a, .inr (3, [.int (nI 1), .int (nI f)]))]) := hD
  have hW9 : ([(a, .inr (3, [.int (nI 1), .int (nI f)]))] : va_W) = [(a, dnE 1 f)] := rfl
  rw [hW9] at hP hD
  exact W.vret hx hb hr (fun T9 hT9 hW9 => ⟨⟨(), rfl, trivial, by rw [hT9]; exact hP, hD⟩, hS.F hT9⟩) hS.2.2 dX2_init_14
set_option maxHeartbeats 4000000 in
set_option maxRecDepth 100000 in
theorem c_X2_init_k2 (l : Launch) (dC : Nat → ClassId) (dI : Nat → Nat → Nat) (cI cD cR : ClassId) (a f : Nat) (sz : Nat)  : Met l yX2_init wsX2_init ({ frames := 1, cells := 0, slots := 0, locals := 12 }) (pcR dC dI cI cD cR [.ref a, .int (nI 2), .int (nI f)] (fun H => H.size = sz ∧ va_P (dC, dI) vwCl ([(a, .inr (10, [.int (nI 0), .int (nI 0)]))]) H ∧ va_D (fun _ => True) ([(a, .inr (10, [.int (nI 0), .int (nI 0)]))]))) (va_Qv (fun (_ : Unit) => True) (fun (_ : Unit) T9 => va_P (dC, dI) vwCl ([(a, dnE 2 f)]) T9.heap ∧ va_D (va_A ([(a, .inr (10, [.int (nI 0), .int (nI 0)]))]) sz) ([(a, dnE 2 f)])) (va_A ([(a, .inr (10, [.int (nI 0), .int (nI 0)]))]) sz)) 0 0 (va_A ([(a, .inr (10, [.int (nI 0), .int (nI 0)]))]) sz) := by
  refine Met.ofW (cc := cX2_init) (maxL := 3) (ret := none) (by decide) rfl ?_
  intro p e s m args below meth c s₁ B hml hv
  obtain ⟨rfl, hH0, hCX⟩ := hv
  have hx := B.exec
  have hb := B.bytes
  have hr := B.returns
  have hts := atoms_spec (ws := wsX2_init) B.pre
  have hown : s.vm.findClass RX2 = some m.cls := findClass_of_methodNamed B.named
  have hlocks := B.notSynchronized
  have hin : meth.name = "<init>" := (name_of_methodNamed B.named B.method).1
  have hK := hCX.1
  obtain ⟨hsz, hP, hD0⟩ := hH0
  subst hsz
  have hD := hD0.self (sz := s.heap.size)
  generalize hAe : va_A ([(a, .inr (10, [.int (nI 0), .int (nI 0)]))]) s.heap.size = A at hD ⊢
  have hA : ∀ q : Nat, s.heap.size ≤ q → A q := fun q h => by rw [← hAe]; exact Or.inr h
  have hS : va_S A s.heap s.heap [] := va_S.rf
  have hP : va_P (dC, dI) vwCl ([(a, .inr (10, [.int (nI 0), .int (nI 0)]))]) s.heap := hP
  have hl := lv_entry ([.ref a, .int (nI 2), .int (nI f)]) (n := 3) (Nat.le_of_ble_eq_true rfl)
  rw [lg_entry_eq]
  generalize (lg_sl ([.ref a, .int (nI 2), .int (nI f)]) ++ List.replicate (3 - (lg_sl ([.ref a, .int (nI 2), .int (nI f)])).length) Slot.unset).toArray = ls at hl ⊢
  have hl : lv_has ls 3 [(0, .ref a), (1, .int (nI 2)), (2, .int (nI f))] := hl
  refine lv_aload_n hx hb dX2_init_0 rfl (lv_at hl 0 rfl) ?_
  refine W.objInit hx hb hown (hts (.methodLink RX2 1 objectInit) (by decide +kernel)) (hts (.instanceMethod objectInit) (by decide +kernel)) (hts (.code objectInit ⟨#[0xb1]⟩ 1 none) (by decide +kernel)) rfl (by rw [hml]; exact hl.1) rfl dX2_init_1 (Nat.le_of_ble_eq_true rfl) (Nat.le_of_ble_eq_true rfl) ?_
  refine W.eq (g2 := F0 m 4 ls []) rfl ?_
  refine lv_aload_n hx hb dX2_init_4 rfl (lv_at hl 0 rfl) ?_
  refine lv_iload_n hx hb dX2_init_5 rfl (lv_at hl 1 rfl) ?_
  refine va_putF (D := (dC, dI)) (ci := 10) (v := .int (nI 2)) (ty := .int) (C := RX10) (T := TX10) (N := 2) hx hb hts (fun _ h => List.mem_cons_of_mem _ (List.mem_append_right _ h)) tyX10 tyX10_ok nmX10 hown hK hP hD hS 0 rfl rfl 0 (by decide) (hts (.fieldLink RX2 7 "HoldsOnceDenied$Denier" "kind" "I") (by decide +kernel)) (fun _ h9 => h9) rfl hin rfl (by decide +kernel) rfl rfl (Nat.le_of_ble_eq_true rfl) dX2_init_6 (fun H locs hP hD hS => ?_)
  have hP : va_P (dC, dI) vwCl ([(a, .inr (10, [.int (nI 2), .int (nI 0)]))]) H := hP
  have hD : va_D A ([(a, .inr (10, [.int (nI 2), .int (nI 0)]))]) := hD
  refine lv_aload_n hx hb dX2_init_9 rfl (lv_at hl 0 rfl) ?_
  refine lv_iload_n hx hb dX2_init_10 rfl (lv_at hl 2 rfl) ?_
  refine va_putF (D := (dC, dI)) (ci := 10) (v := .int (nI f)) (ty := .int) (C := RX10) (T := TX10) (N := 2) hx hb hts (fun _ h => List.mem_cons_of_mem _ (List.mem_append_right _ h)) tyX10 tyX10_ok nmX10 hown hK hP hD hS 0 rfl rfl 1 (by decide) (hts (.fieldLink RX2 13 "HoldsOnceDenied$Denier" "figure" "I") (by decide +kernel)) (fun _ h9 => h9) rfl hin rfl (by decide +kernel) rfl rfl (Nat.le_of_ble_eq_true rfl) dX2_init_11 (fun H locs hP hD hS => ?_)
  have hP : va_P (dC, dI) vwCl ([(a, .inr (10, [.int (nI 2), .int (nI f)]))]) H := hP
  have hD : va_D A ([(a, .inr (10, [.int (nI 2), .int (nI f)]))]) := hD
  have hW9 : ([(a, .inr (10, [.int (nI 2), .int (nI f)]))] : va_W) = [(a, dnE 2 f)] := rfl
  rw [hW9] at hP hD
  exact W.vret hx hb hr (fun T9 hT9 hW9 => ⟨⟨(), rfl, trivial, by rw [hT9]; exact hP, hD⟩, hS.F hT9⟩) hS.2.2 dX2_init_14
set_option maxHeartbeats 4000000 in
set_option maxRecDepth 100000 in
theorem c_X2_init_k3 (l : Launch) (dC : Nat → ClassId) (dI : Nat → Nat → Nat) (cI cD cR : ClassId) (a f : Nat) (sz : Nat)  : Met l yX2_init wsX2_init ({ frames := 1, cells := 0, slots := 0, locals := 12 }) (pcR dC dI cI cD cR [.ref a, .int (nI 3), .int (nI f)] (fun H => H.size = sz ∧ va_P (dC, dI) vwCl ([(a, .inr (1, [.int (nI 0), .int (nI 0)]))]) H ∧ va_D (fun _ => True) ([(a, .inr (1, [.int (nI 0), .int (nI 0)]))]))) (va_Qv (fun (_ : Unit) => True) (fun (_ : Unit) T9 => va_P (dC, dI) vwCl ([(a, dnE 3 f)]) T9.heap ∧ va_D (va_A ([(a, .inr (1, [.int (nI 0), .int (nI 0)]))]) sz) ([(a, dnE 3 f)])) (va_A ([(a, .inr (1, [.int (nI 0), .int (nI 0)]))]) sz)) 0 0 (va_A ([(a, .inr (1, [.int (nI 0), .int (nI 0)]))]) sz) := by
  refine Met.ofW (cc := cX2_init) (maxL := 3) (ret := none) (by decide) rfl ?_
  intro p e s m args below meth c s₁ B hml hv
  obtain ⟨rfl, hH0, hCX⟩ := hv
  have hx := B.exec
  have hb := B.bytes
  have hr := B.returns
  have hts := atoms_spec (ws := wsX2_init) B.pre
  have hown : s.vm.findClass RX2 = some m.cls := findClass_of_methodNamed B.named
  have hlocks := B.notSynchronized
  have hin : meth.name = "<init>" := (name_of_methodNamed B.named B.method).1
  have hK := hCX.1
  obtain ⟨hsz, hP, hD0⟩ := hH0
  subst hsz
  have hD := hD0.self (sz := s.heap.size)
  generalize hAe : va_A ([(a, .inr (1, [.int (nI 0), .int (nI 0)]))]) s.heap.size = A at hD ⊢
  have hA : ∀ q : Nat, s.heap.size ≤ q → A q := fun q h => by rw [← hAe]; exact Or.inr h
  have hS : va_S A s.heap s.heap [] := va_S.rf
  have hP : va_P (dC, dI) vwCl ([(a, .inr (1, [.int (nI 0), .int (nI 0)]))]) s.heap := hP
  have hl := lv_entry ([.ref a, .int (nI 3), .int (nI f)]) (n := 3) (Nat.le_of_ble_eq_true rfl)
  rw [lg_entry_eq]
  generalize (lg_sl ([.ref a, .int (nI 3), .int (nI f)]) ++ List.replicate (3 - (lg_sl ([.ref a, .int (nI 3), .int (nI f)])).length) Slot.unset).toArray = ls at hl ⊢
  have hl : lv_has ls 3 [(0, .ref a), (1, .int (nI 3)), (2, .int (nI f))] := hl
  refine lv_aload_n hx hb dX2_init_0 rfl (lv_at hl 0 rfl) ?_
  refine W.objInit hx hb hown (hts (.methodLink RX2 1 objectInit) (by decide +kernel)) (hts (.instanceMethod objectInit) (by decide +kernel)) (hts (.code objectInit ⟨#[0xb1]⟩ 1 none) (by decide +kernel)) rfl (by rw [hml]; exact hl.1) rfl dX2_init_1 (Nat.le_of_ble_eq_true rfl) (Nat.le_of_ble_eq_true rfl) ?_
  refine W.eq (g2 := F0 m 4 ls []) rfl ?_
  refine lv_aload_n hx hb dX2_init_4 rfl (lv_at hl 0 rfl) ?_
  refine lv_iload_n hx hb dX2_init_5 rfl (lv_at hl 1 rfl) ?_
  refine va_putF (D := (dC, dI)) (ci := 1) (v := .int (nI 3)) (ty := .int) (C := RX1) (T := TX1) (N := 2) hx hb hts (fun _ h => List.mem_cons_of_mem _ (List.mem_append_left _ (List.mem_append_left _ (List.mem_append_left _ (List.mem_append_left _ (List.mem_append_left _ (List.mem_append_left _ (List.mem_append_right _ h)))))))) tyX1 tyX1_ok nmX1 hown hK hP hD hS 0 rfl rfl 0 (by decide) (hts (.fieldLink RX2 7 "HoldsOnceDenied$Denier" "kind" "I") (by decide +kernel)) (fun _ h9 => h9) rfl hin rfl (by decide +kernel) rfl rfl (Nat.le_of_ble_eq_true rfl) dX2_init_6 (fun H locs hP hD hS => ?_)
  have hP : va_P (dC, dI) vwCl ([(a, .inr (1, [.int (nI 3), .int (nI 0)]))]) H := hP
  have hD : va_D A ([(a, .inr (1, [.int (nI 3), .int (nI 0)]))]) := hD
  refine lv_aload_n hx hb dX2_init_9 rfl (lv_at hl 0 rfl) ?_
  refine lv_iload_n hx hb dX2_init_10 rfl (lv_at hl 2 rfl) ?_
  refine va_putF (D := (dC, dI)) (ci := 1) (v := .int (nI f)) (ty := .int) (C := RX1) (T := TX1) (N := 2) hx hb hts (fun _ h => List.mem_cons_of_mem _ (List.mem_append_left _ (List.mem_append_left _ (List.mem_append_left _ (List.mem_append_left _ (List.mem_append_left _ (List.mem_append_left _ (List.mem_append_right _ h)))))))) tyX1 tyX1_ok nmX1 hown hK hP hD hS 0 rfl rfl 1 (by decide) (hts (.fieldLink RX2 13 "HoldsOnceDenied$Denier" "figure" "I") (by decide +kernel)) (fun _ h9 => h9) rfl hin rfl (by decide +kernel) rfl rfl (Nat.le_of_ble_eq_true rfl) dX2_init_11 (fun H locs hP hD hS => ?_)
  have hP : va_P (dC, dI) vwCl ([(a, .inr (1, [.int (nI 3), .int (nI f)]))]) H := hP
  have hD : va_D A ([(a, .inr (1, [.int (nI 3), .int (nI f)]))]) := hD
  have hW9 : ([(a, .inr (1, [.int (nI 3), .int (nI f)]))] : va_W) = [(a, dnE 3 f)] := rfl
  rw [hW9] at hP hD
  exact W.vret hx hb hr (fun T9 hT9 hW9 => ⟨⟨(), rfl, trivial, by rw [hT9]; exact hP, hD⟩, hS.F hT9⟩) hS.2.2 dX2_init_14
set_option maxHeartbeats 4000000 in
set_option maxRecDepth 100000 in
theorem c_X2_init_k4 (l : Launch) (dC : Nat → ClassId) (dI : Nat → Nat → Nat) (cI cD cR : ClassId) (a f : Nat) (sz : Nat)  : Met l yX2_init wsX2_init ({ frames := 1, cells := 0, slots := 0, locals := 12 }) (pcR dC dI cI cD cR [.ref a, .int (nI 4), .int (nI f)] (fun H => H.size = sz ∧ va_P (dC, dI) vwCl ([(a, .inr (5, [.int (nI 0), .int (nI 0)]))]) H ∧ va_D (fun _ => True) ([(a, .inr (5, [.int (nI 0), .int (nI 0)]))]))) (va_Qv (fun (_ : Unit) => True) (fun (_ : Unit) T9 => va_P (dC, dI) vwCl ([(a, dnE 4 f)]) T9.heap ∧ va_D (va_A ([(a, .inr (5, [.int (nI 0), .int (nI 0)]))]) sz) ([(a, dnE 4 f)])) (va_A ([(a, .inr (5, [.int (nI 0), .int (nI 0)]))]) sz)) 0 0 (va_A ([(a, .inr (5, [.int (nI 0), .int (nI 0)]))]) sz) := by
  refine Met.ofW (cc := cX2_init) (maxL := 3) (ret := none) (by decide) rfl ?_
  intro p e s m args below meth c s₁ B hml hv
  obtain ⟨rfl, hH0, hCX⟩ := hv
  have hx := B.exec
  have hb := B.bytes
  have hr := B.returns
  have hts := atoms_spec (ws := wsX2_init) B.pre
  have hown : s.vm.findClass RX2 = some m.cls := findClass_of_methodNamed B.named
  have hlocks := B.notSynchronized
  have hin : meth.name = "<init>" := (name_of_methodNamed B.named B.method).1
  have hK := hCX.1
  obtain ⟨hsz, hP, hD0⟩ := hH0
  subst hsz
  have hD := hD0.self (sz := s.heap.size)
  generalize hAe : va_A ([(a, .inr (5, [.int (nI 0), .int (nI 0)]))]) s.heap.size = A at hD ⊢
  have hA : ∀ q : Nat, s.heap.size ≤ q → A q := fun q h => by rw [← hAe]; exact Or.inr h
  have hS : va_S A s.heap s.heap [] := va_S.rf
  have hP : va_P (dC, dI) vwCl ([(a, .inr (5, [.int (nI 0), .int (nI 0)]))]) s.heap := hP
  have hl := lv_entry ([.ref a, .int (nI 4), .int (nI f)]) (n := 3) (Nat.le_of_ble_eq_true rfl)
  rw [lg_entry_eq]
  generalize (lg_sl ([.ref a, .int (nI 4), .int (nI f)]) ++ List.replicate (3 - (lg_sl ([.ref a, .int (nI 4), .int (nI f)])).length) Slot.unset).toArray = ls at hl ⊢
  have hl : lv_has ls 3 [(0, .ref a), (1, .int (nI 4)), (2, .int (nI f))] := hl
  refine lv_aload_n hx hb dX2_init_0 rfl (lv_at hl 0 rfl) ?_
  refine W.objInit hx hb hown (hts (.methodLink RX2 1 objectInit) (by decide +kernel)) (hts (.instanceMethod objectInit) (by decide +kernel)) (hts (.code objectInit ⟨#[0xb1]⟩ 1 none) (by decide +kernel)) rfl (by rw [hml]; exact hl.1) rfl dX2_init_1 (Nat.le_of_ble_eq_true rfl) (Nat.le_of_ble_eq_true rfl) ?_
  refine W.eq (g2 := F0 m 4 ls []) rfl ?_
  refine lv_aload_n hx hb dX2_init_4 rfl (lv_at hl 0 rfl) ?_
  refine lv_iload_n hx hb dX2_init_5 rfl (lv_at hl 1 rfl) ?_
  refine va_putF (D := (dC, dI)) (ci := 5) (v := .int (nI 4)) (ty := .int) (C := RX5) (T := TX5) (N := 2) hx hb hts (fun _ h => List.mem_cons_of_mem _ (List.mem_append_left _ (List.mem_append_left _ (List.mem_append_left _ (List.mem_append_right _ h))))) tyX5 tyX5_ok nmX5 hown hK hP hD hS 0 rfl rfl 0 (by decide) (hts (.fieldLink RX2 7 "HoldsOnceDenied$Denier" "kind" "I") (by decide +kernel)) (fun _ h9 => h9) rfl hin rfl (by decide +kernel) rfl rfl (Nat.le_of_ble_eq_true rfl) dX2_init_6 (fun H locs hP hD hS => ?_)
  have hP : va_P (dC, dI) vwCl ([(a, .inr (5, [.int (nI 4), .int (nI 0)]))]) H := hP
  have hD : va_D A ([(a, .inr (5, [.int (nI 4), .int (nI 0)]))]) := hD
  refine lv_aload_n hx hb dX2_init_9 rfl (lv_at hl 0 rfl) ?_
  refine lv_iload_n hx hb dX2_init_10 rfl (lv_at hl 2 rfl) ?_
  refine va_putF (D := (dC, dI)) (ci := 5) (v := .int (nI f)) (ty := .int) (C := RX5) (T := TX5) (N := 2) hx hb hts (fun _ h => List.mem_cons_of_mem _ (List.mem_append_left _ (List.mem_append_left _ (List.mem_append_left _ (List.mem_append_right _ h))))) tyX5 tyX5_ok nmX5 hown hK hP hD hS 0 rfl rfl 1 (by decide) (hts (.fieldLink RX2 13 "HoldsOnceDenied$Denier" "figure" "I") (by decide +kernel)) (fun _ h9 => h9) rfl hin rfl (by decide +kernel) rfl rfl (Nat.le_of_ble_eq_true rfl) dX2_init_11 (fun H locs hP hD hS => ?_)
  have hP : va_P (dC, dI) vwCl ([(a, .inr (5, [.int (nI 4), .int (nI f)]))]) H := hP
  have hD : va_D A ([(a, .inr (5, [.int (nI 4), .int (nI f)]))]) := hD
  have hW9 : ([(a, .inr (5, [.int (nI 4), .int (nI f)]))] : va_W) = [(a, dnE 4 f)] := rfl
  rw [hW9] at hP hD
  exact W.vret hx hb hr (fun T9 hT9 hW9 => ⟨⟨(), rfl, trivial, by rw [hT9]; exact hP, hD⟩, hS.F hT9⟩) hS.2.2 dX2_init_14
set_option maxHeartbeats 4000000 in
set_option maxRecDepth 100000 in
theorem c_X2_init_k5 (l : Launch) (dC : Nat → ClassId) (dI : Nat → Nat → Nat) (cI cD cR : ClassId) (a f : Nat) (sz : Nat)  : Met l yX2_init wsX2_init ({ frames := 1, cells := 0, slots := 0, locals := 12 }) (pcR dC dI cI cD cR [.ref a, .int (nI 5), .int (nI f)] (fun H => H.size = sz ∧ va_P (dC, dI) vwCl ([(a, .inr (6, [.int (nI 0), .int (nI 0)]))]) H ∧ va_D (fun _ => True) ([(a, .inr (6, [.int (nI 0), .int (nI 0)]))]))) (va_Qv (fun (_ : Unit) => True) (fun (_ : Unit) T9 => va_P (dC, dI) vwCl ([(a, dnE 5 f)]) T9.heap ∧ va_D (va_A ([(a, .inr (6, [.int (nI 0), .int (nI 0)]))]) sz) ([(a, dnE 5 f)])) (va_A ([(a, .inr (6, [.int (nI 0), .int (nI 0)]))]) sz)) 0 0 (va_A ([(a, .inr (6, [.int (nI 0), .int (nI 0)]))]) sz) := by
  refine Met.ofW (cc := cX2_init) (maxL := 3) (ret := none) (by decide) rfl ?_
  intro p e s m args below meth c s₁ B hml hv
  obtain ⟨rfl, hH0, hCX⟩ := hv
  have hx := B.exec
  have hb := B.bytes
  have hr := B.returns
  have hts := atoms_spec (ws := wsX2_init) B.pre
  have hown : s.vm.findClass RX2 = some m.cls := findClass_of_methodNamed B.named
  have hlocks := B.notSynchronized
  have hin : meth.name = "<init>" := (name_of_methodNamed B.named B.method).1
  have hK := hCX.1
  obtain ⟨hsz, hP, hD0⟩ := hH0
  subst hsz
  have hD := hD0.self (sz := s.heap.size)
  generalize hAe : va_A ([(a, .inr (6, [.int (nI 0), .int (nI 0)]))]) s.heap.size = A at hD ⊢
  have hA : ∀ q : Nat, s.heap.size ≤ q → A q := fun q h => by rw [← hAe]; exact Or.inr h
  have hS : va_S A s.heap s.heap [] := va_S.rf
  have hP : va_P (dC, dI) vwCl ([(a, .inr (6, [.int (nI 0), .int (nI 0)]))]) s.heap := hP
  have hl := lv_entry ([.ref a, .int (nI 5), .int (nI f)]) (n := 3) (Nat.le_of_ble_eq_true rfl)
  rw [lg_entry_eq]
  generalize (lg_sl ([.ref a, .int (nI 5), .int (nI f)]) ++ List.replicate (3 - (lg_sl ([.ref a, .int (nI 5), .int (nI f)])).length) Slot.unset).toArray = ls at hl ⊢
  have hl : lv_has ls 3 [(0, .ref a), (1, .int (nI 5)), (2, .int (nI f))] := hl
  refine lv_aload_n hx hb dX2_init_0 rfl (lv_at hl 0 rfl) ?_
  refine W.objInit hx hb hown (hts (.methodLink RX2 1 objectInit) (by decide +kernel)) (hts (.instanceMethod objectInit) (by decide +kernel)) (hts (.code objectInit ⟨#[0xb1]⟩ 1 none) (by decide +kernel)) rfl (by rw [hml]; exact hl.1) rfl dX2_init_1 (Nat.le_of_ble_eq_true rfl) (Nat.le_of_ble_eq_true rfl) ?_
  refine W.eq (g2 := F0 m 4 ls []) rfl ?_
  refine lv_aload_n hx hb dX2_init_4 rfl (lv_at hl 0 rfl) ?_
  refine lv_iload_n hx hb dX2_init_5 rfl (lv_at hl 1 rfl) ?_
  refine va_putF (D := (dC, dI)) (ci := 6) (v := .int (nI 5)) (ty := .int) (C := RX6) (T := TX6) (N := 2) hx hb hts (fun _ h => List.mem_cons_of_mem _ (List.mem_append_left _ (List.mem_append_left _ (List.mem_append_right _ h)))) tyX6 tyX6_ok nmX6 hown hK hP hD hS 0 rfl rfl 0 (by decide) (hts (.fieldLink RX2 7 "HoldsOnceDenied$Denier" "kind" "I") (by decide +kernel)) (fun _ h9 => h9) rfl hin rfl (by decide +kernel) rfl rfl (Nat.le_of_ble_eq_true rfl) dX2_init_6 (fun H locs hP hD hS => ?_)
  have hP : va_P (dC, dI) vwCl ([(a, .inr (6, [.int (nI 5), .int (nI 0)]))]) H := hP
  have hD : va_D A ([(a, .inr (6, [.int (nI 5), .int (nI 0)]))]) := hD
  refine lv_aload_n hx hb dX2_init_9 rfl (lv_at hl 0 rfl) ?_
  refine lv_iload_n hx hb dX2_init_10 rfl (lv_at hl 2 rfl) ?_
  refine va_putF (D := (dC, dI)) (ci := 6) (v := .int (nI f)) (ty := .int) (C := RX6) (T := TX6) (N := 2) hx hb hts (fun _ h => List.mem_cons_of_mem _ (List.mem_append_left _ (List.mem_append_left _ (List.mem_append_right _ h)))) tyX6 tyX6_ok nmX6 hown hK hP hD hS 0 rfl rfl 1 (by decide) (hts (.fieldLink RX2 13 "HoldsOnceDenied$Denier" "figure" "I") (by decide +kernel)) (fun _ h9 => h9) rfl hin rfl (by decide +kernel) rfl rfl (Nat.le_of_ble_eq_true rfl) dX2_init_11 (fun H locs hP hD hS => ?_)
  have hP : va_P (dC, dI) vwCl ([(a, .inr (6, [.int (nI 5), .int (nI f)]))]) H := hP
  have hD : va_D A ([(a, .inr (6, [.int (nI 5), .int (nI f)]))]) := hD
  have hW9 : ([(a, .inr (6, [.int (nI 5), .int (nI f)]))] : va_W) = [(a, dnE 5 f)] := rfl
  rw [hW9] at hP hD
  exact W.vret hx hb hr (fun T9 hT9 hW9 => ⟨⟨(), rfl, trivial, by rw [hT9]; exact hP, hD⟩, hS.F hT9⟩) hS.2.2 dX2_init_14
set_option maxHeartbeats 4000000 in
set_option maxRecDepth 100000 in
theorem c_X2_init_k6 (l : Launch) (dC : Nat → ClassId) (dI : Nat → Nat → Nat) (cI cD cR : ClassId) (a f : Nat) (sz : Nat)  : Met l yX2_init wsX2_init ({ frames := 1, cells := 0, slots := 0, locals := 12 }) (pcR dC dI cI cD cR [.ref a, .int (nI 6), .int (nI f)] (fun H => H.size = sz ∧ va_P (dC, dI) vwCl ([(a, .inr (7, [.int (nI 0), .int (nI 0)]))]) H ∧ va_D (fun _ => True) ([(a, .inr (7, [.int (nI 0), .int (nI 0)]))]))) (va_Qv (fun (_ : Unit) => True) (fun (_ : Unit) T9 => va_P (dC, dI) vwCl ([(a, dnE 6 f)]) T9.heap ∧ va_D (va_A ([(a, .inr (7, [.int (nI 0), .int (nI 0)]))]) sz) ([(a, dnE 6 f)])) (va_A ([(a, .inr (7, [.int (nI 0), .int (nI 0)]))]) sz)) 0 0 (va_A ([(a, .inr (7, [.int (nI 0), .int (nI 0)]))]) sz) := by
  refine Met.ofW (cc := cX2_init) (maxL := 3) (ret := none) (by decide) rfl ?_
  intro p e s m args below meth c s₁ B hml hv
  obtain ⟨rfl, hH0, hCX⟩ := hv
  have hx := B.exec
  have hb := B.bytes
  have hr := B.returns
  have hts := atoms_spec (ws := wsX2_init) B.pre
  have hown : s.vm.findClass RX2 = some m.cls := findClass_of_methodNamed B.named
  have hlocks := B.notSynchronized
  have hin : meth.name = "<init>" := (name_of_methodNamed B.named B.method).1
  have hK := hCX.1
  obtain ⟨hsz, hP, hD0⟩ := hH0
  subst hsz
  have hD := hD0.self (sz := s.heap.size)
  generalize hAe : va_A ([(a, .inr (7, [.int (nI 0), .int (nI 0)]))]) s.heap.size = A at hD ⊢
  have hA : ∀ q : Nat, s.heap.size ≤ q → A q := fun q h => by rw [← hAe]; exact Or.inr h
  have hS : va_S A s.heap s.heap [] := va_S.rf
  have hP : va_P (dC, dI) vwCl ([(a, .inr (7, [.int (nI 0), .int (nI 0)]))]) s.heap := hP
  have hl := lv_entry ([.ref a, .int (nI 6), .int (nI f)]) (n := 3) (Nat.le_of_ble_eq_true rfl)
  rw [lg_entry_eq]
  generalize (lg_sl ([.ref a, .int (nI 6), .int (nI f)]) ++ List.replicate (3 - (lg_sl ([.ref a, .int (nI 6), .int (nI f)])).length) Slot.unset).toArray = ls at hl ⊢
  have hl : lv_has ls 3 [(0, .ref a), (1, .int (nI 6)), (2, .int (nI f))] := hl
  refine lv_aload_n hx hb dX2_init_0 rfl (lv_at hl 0 rfl) ?_
  refine W.objInit hx hb hown (hts (.methodLink RX2 1 objectInit) (by decide +kernel)) (hts (.instanceMethod objectInit) (by decide +kernel)) (hts (.code objectInit ⟨#[0xb1]⟩ 1 none) (by decide +kernel)) rfl (by rw [hml]; exact hl.1) rfl dX2_init_1 (Nat.le_of_ble_eq_true rfl) (Nat.le_of_ble_eq_true rfl) ?_
  refine W.eq (g2 := F0 m 4 ls []) rfl ?_
  refine lv_aload_n hx hb dX2_init_4 rfl (lv_at hl 0 rfl) ?_
  refine lv_iload_n hx hb dX2_init_5 rfl (lv_at hl 1 rfl) ?_
  refine va_putF (D := (dC, dI)) (ci := 7) (v := .int (nI 6)) (ty := .int) (C := RX7) (T := TX7) (N := 2) hx hb hts (fun _ h => List.mem_cons_of_mem _ (List.mem_append_left _ (List.mem_append_right _ h))) tyX7 tyX7_ok nmX7 hown hK hP hD hS 0 rfl rfl 0 (by decide) (hts (.fieldLink RX2 7 "HoldsOnceDenied$Denier" "kind" "I") (by decide +kernel)) (fun _ h9 => h9) rfl hin rfl (by decide +kernel) rfl rfl (Nat.le_of_ble_eq_true rfl) dX2_init_6 (fun H locs hP hD hS => ?_)
  have hP : va_P (dC, dI) vwCl ([(a, .inr (7, [.int (nI 6), .int (nI 0)]))]) H := hP
  have hD : va_D A ([(a, .inr (7, [.int (nI 6), .int (nI 0)]))]) := hD
  refine lv_aload_n hx hb dX2_init_9 rfl (lv_at hl 0 rfl) ?_
  refine lv_iload_n hx hb dX2_init_10 rfl (lv_at hl 2 rfl) ?_
  refine va_putF (D := (dC, dI)) (ci := 7) (v := .int (nI f)) (ty := .int) (C := RX7) (T := TX7) (N := 2) hx hb hts (fun _ h => List.mem_cons_of_mem _ (List.mem_append_left _ (List.mem_append_right _ h))) tyX7 tyX7_ok nmX7 hown hK hP hD hS 0 rfl rfl 1 (by decide) (hts (.fieldLink RX2 13 "HoldsOnceDenied$Denier" "figure" "I") (by decide +kernel)) (fun _ h9 => h9) rfl hin rfl (by decide +kernel) rfl rfl (Nat.le_of_ble_eq_true rfl) dX2_init_11 (fun H locs hP hD hS => ?_)
  have hP : va_P (dC, dI) vwCl ([(a, .inr (7, [.int (nI 6), .int (nI f)]))]) H := hP
  have hD : va_D A ([(a, .inr (7, [.int (nI 6), .int (nI f)]))]) := hD
  have hW9 : ([(a, .inr (7, [.int (nI 6), .int (nI f)]))] : va_W) = [(a, dnE 6 f)] := rfl
  rw [hW9] at hP hD
  exact W.vret hx hb hr (fun T9 hT9 hW9 => ⟨⟨(), rfl, trivial, by rw [hT9]; exact hP, hD⟩, hS.F hT9⟩) hS.2.2 dX2_init_14
set_option maxHeartbeats 4000000 in
set_option maxRecDepth 100000 in
theorem c_X2_init_k7 (l : Launch) (dC : Nat → ClassId) (dI : Nat → Nat → Nat) (cI cD cR : ClassId) (a f : Nat) (sz : Nat)  : Met l yX2_init wsX2_init ({ frames := 1, cells := 0, slots := 0, locals := 12 }) (pcR dC dI cI cD cR [.ref a, .int (nI 7), .int (nI f)] (fun H => H.size = sz ∧ va_P (dC, dI) vwCl ([(a, .inr (0, [.int (nI 0), .int (nI 0)]))]) H ∧ va_D (fun _ => True) ([(a, .inr (0, [.int (nI 0), .int (nI 0)]))]))) (va_Qv (fun (_ : Unit) => True) (fun (_ : Unit) T9 => va_P (dC, dI) vwCl ([(a, dnE 7 f)]) T9.heap ∧ va_D (va_A ([(a, .inr (0, [.int (nI 0), .int (nI 0)]))]) sz) ([(a, dnE 7 f)])) (va_A ([(a, .inr (0, [.int (nI 0), .int (nI 0)]))]) sz)) 0 0 (va_A ([(a, .inr (0, [.int (nI 0), .int (nI 0)]))]) sz) := by
  refine Met.ofW (cc := cX2_init) (maxL := 3) (ret := none) (by decide) rfl ?_
  intro p e s m args below meth c s₁ B hml hv
  obtain ⟨rfl, hH0, hCX⟩ := hv
  have hx := B.exec
  have hb := B.bytes
  have hr := B.returns
  have hts := atoms_spec (ws := wsX2_init) B.pre
  have hown : s.vm.findClass RX2 = some m.cls := findClass_of_methodNamed B.named
  have hlocks := B.notSynchronized
  have hin : meth.name = "<init>" := (name_of_methodNamed B.named B.method).1
  have hK := hCX.1
  obtain ⟨hsz, hP, hD0⟩ := hH0
  subst hsz
  have hD := hD0.self (sz := s.heap.size)
  generalize hAe : va_A ([(a, .inr (0, [.int (nI 0), .int (nI 0)]))]) s.heap.size = A at hD ⊢
  have hA : ∀ q : Nat, s.heap.size ≤ q → A q := fun q h => by rw [← hAe]; exact Or.inr h
  have hS : va_S A s.heap s.heap [] := va_S.rf
  have hP : va_P (dC, dI) vwCl ([(a, .inr (0, [.int (nI 0), .int (nI 0)]))]) s.heap := hP
  have hl := lv_entry ([.ref a, .int (nI 7), .int (nI f)]) (n := 3) (Nat.le_of_ble_eq_true rfl)
  rw [lg_entry_eq]
  generalize (lg_sl ([.ref a, .int (nI 7), .int (nI f)]) ++ List.replicate (3 - (lg_sl ([.ref a, .int (nI 7), .int (nI f)])).length) Slot.unset).toArray = ls at hl ⊢
  have hl : lv_has ls 3 [(0, .ref a), (1, .int (nI 7)), (2, .int (nI f))] := hl
  refine lv_aload_n hx hb dX2_init_0 rfl (lv_at hl 0 rfl) ?_
  refine W.objInit hx hb hown (hts (.methodLink RX2 1 objectInit) (by decide +kernel)) (hts (.instanceMethod objectInit) (by decide +kernel)) (hts (.code objectInit ⟨#[0xb1]⟩ 1 none) (by decide +kernel)) rfl (by rw [hml]; exact hl.1) rfl dX2_init_1 (Nat.le_of_ble_eq_true rfl) (Nat.le_of_ble_eq_true rfl) ?_
  refine W.eq (g2 := F0 m 4 ls []) rfl ?_
  refine lv_aload_n hx hb dX2_init_4 rfl (lv_at hl 0 rfl) ?_
  refine lv_iload_n hx hb dX2_init_5 rfl (lv_at hl 1 rfl) ?_
  refine va_putF (D := (dC, dI)) (ci := 0) (v := .int (nI 7)) (ty := .int) (C := RX0) (T := TX0) (N := 2) hx hb hts (fun _ h => List.mem_cons_of_mem _ (List.mem_append_left _ (List.mem_append_left _ (List.mem_append_left _ (List.mem_append_left _ (List.mem_append_left _ (List.mem_append_left _ (List.mem_append_left _ (List.mem_append_right _ h))))))))) tyX0 tyX0_ok nmX0 hown hK hP hD hS 0 rfl rfl 0 (by decide) (hts (.fieldLink RX2 7 "HoldsOnceDenied$Denier" "kind" "I") (by decide +kernel)) (fun _ h9 => h9) rfl hin rfl (by decide +kernel) rfl rfl (Nat.le_of_ble_eq_true rfl) dX2_init_6 (fun H locs hP hD hS => ?_)
  have hP : va_P (dC, dI) vwCl ([(a, .inr (0, [.int (nI 7), .int (nI 0)]))]) H := hP
  have hD : va_D A ([(a, .inr (0, [.int (nI 7), .int (nI 0)]))]) := hD
  refine lv_aload_n hx hb dX2_init_9 rfl (lv_at hl 0 rfl) ?_
  refine lv_iload_n hx hb dX2_init_10 rfl (lv_at hl 2 rfl) ?_
  refine va_putF (D := (dC, dI)) (ci := 0) (v := .int (nI f)) (ty := .int) (C := RX0) (T := TX0) (N := 2) hx hb hts (fun _ h => List.mem_cons_of_mem _ (List.mem_append_left _ (List.mem_append_left _ (List.mem_append_left _ (List.mem_append_left _ (List.mem_append_left _ (List.mem_append_left _ (List.mem_append_left _ (List.mem_append_right _ h))))))))) tyX0 tyX0_ok nmX0 hown hK hP hD hS 0 rfl rfl 1 (by decide) (hts (.fieldLink RX2 13 "HoldsOnceDenied$Denier" "figure" "I") (by decide +kernel)) (fun _ h9 => h9) rfl hin rfl (by decide +kernel) rfl rfl (Nat.le_of_ble_eq_true rfl) dX2_init_11 (fun H locs hP hD hS => ?_)
  have hP : va_P (dC, dI) vwCl ([(a, .inr (0, [.int (nI 7), .int (nI f)]))]) H := hP
  have hD : va_D A ([(a, .inr (0, [.int (nI 7), .int (nI f)]))]) := hD
  have hW9 : ([(a, .inr (0, [.int (nI 7), .int (nI f)]))] : va_W) = [(a, dnE 7 f)] := rfl
  rw [hW9] at hP hD
  exact W.vret hx hb hr (fun T9 hT9 hW9 => ⟨⟨(), rfl, trivial, by rw [hT9]; exact hP, hD⟩, hS.F hT9⟩) hS.2.2 dX2_init_14
set_option maxHeartbeats 4000000 in
set_option maxRecDepth 100000 in
theorem c_X3_init_k1 (l : Launch) (dC : Nat → ClassId) (dI : Nat → Nat → Nat) (cI cD cR : ClassId) (a f : Nat) (sz : Nat)  : Met l yX3_init wsX3_init ({ frames := 2, cells := 0, slots := 0, locals := 34 }) (pcR dC dI cI cD cR [.ref a, .int (nI 1), .int (nI f)] (fun H => H.size = sz ∧ va_P (dC, dI) vwCl ([(a, .inr (3, [.int (nI 0), .int (nI 0)]))]) H ∧ va_D (fun _ => True) ([(a, .inr (3, [.int (nI 0), .int (nI 0)]))]))) (va_Qv (fun (_ : Unit) => True) (fun (_ : Unit) T9 => va_P (dC, dI) vwCl ([(a, dnE 1 f)]) T9.heap ∧ va_D (va_A ([(a, .inr (3, [.int (nI 0), .int (nI 0)]))]) sz) ([(a, dnE 1 f)])) (va_A ([(a, .inr (3, [.int (nI 0), .int (nI 0)]))]) sz)) 0 0 (va_A ([(a, .inr (3, [.int (nI 0), .int (nI 0)]))]) sz) := by
  refine Met.ofW (cc := cX3_init) (maxL := 3) (ret := none) (by decide) rfl ?_
  intro p e s m args below meth c s₁ B hml hv
  obtain ⟨rfl, hH0, hCX⟩ := hv
  have hx := B.exec
  have hb := B.bytes
  have hr := B.returns
  have hts := atoms_spec (ws := wsX3_init) B.pre
  have hown : s.vm.findClass RX3 = some m.cls := findClass_of_methodNamed B.named
  have hlocks := B.notSynchronized
  have hin : meth.name = "<init>" := (name_of_methodNamed B.named B.method).1
  have hK := hCX.1
  obtain ⟨hsz, hP, hD0⟩ := hH0
  subst hsz
  have hD := hD0.self (sz := s.heap.size)
  generalize hAe : va_A ([(a, .inr (3, [.int (nI 0), .int (nI 0)]))]) s.heap.size = A at hD ⊢
  have hA : ∀ q : Nat, s.heap.size ≤ q → A q := fun q h => by rw [← hAe]; exact Or.inr h
  have hS : va_S A s.heap s.heap [] := va_S.rf
  have hP : va_P (dC, dI) vwCl ([(a, .inr (3, [.int (nI 0), .int (nI 0)]))]) s.heap := hP
  have hl := lv_entry ([.ref a, .int (nI 1), .int (nI f)]) (n := 3) (Nat.le_of_ble_eq_true rfl)
  rw [lg_entry_eq]
  generalize (lg_sl ([.ref a, .int (nI 1), .int (nI f)]) ++ List.replicate (3 - (lg_sl ([.ref a, .int (nI 1), .int (nI f)])).length) Slot.unset).toArray = ls at hl ⊢
  have hl : lv_has ls 3 [(0, .ref a), (1, .int (nI 1)), (2, .int (nI f))] := hl
  refine lv_aload_n hx hb dX3_init_0 rfl (lv_at hl 0 rfl) ?_
  refine lv_iload_n hx hb dX3_init_1 rfl (lv_at hl 1 rfl) ?_
  refine lv_iload_n hx hb dX3_init_2 rfl (lv_at hl 2 rfl) ?_
  have hPc := hP
  have hDc := hD
  have hFc := va_free (wc := [(a, .inr (3, [.int (nI 0), .int (nI 0)]))]) hD hS hA [0] rfl
  refine va_callv (va_runI (As := [.int (nI 1), .int (nI f)]) (rest := []) ⟨hx, hb, hml, hown, hts⟩ (c_X2_init_k1 l dC dI cI cD cR a f s.heap.size) (cwI 2 hts gX3_init_X2_init rfl rfl rfl (hts (.initialized RX2) (by decide +kernel)) (hts (.methodLink RX3 1 yX2_init) (by decide +kernel)) (hts (.instanceMethod yX2_init) (by decide +kernel)) rfl (by decide +kernel) ⟨Nat.le_of_ble_eq_true rfl, Nat.le_of_ble_eq_true rfl⟩) (preS_R hCX ⟨rfl, hPc, hDc.weaken (fun _ _ _ _ => trivial)⟩) rfl rfl hl.1 rfl (lv_room (Nat.le_of_ble_eq_true rfl)) dX3_init_3 ⟨Nat.le_of_ble_eq_true (by first | rfl | decide), Nat.le_of_ble_eq_true (by first | rfl | decide)⟩) hS (fun q _ h => hFc q h) hFc (fun u T8 H1 locs hT8 hvm hw hB hz1 hk1 hS => ?_)
  obtain ⟨hP1, hD1⟩ := hB
  rw [hT8] at hP1
  obtain ⟨hP, hD⟩ := va_join (wr := []) (w1 := [(a, dnE 1 f)]) hP hD [0] [] rfl rfl (by decide) (by decide) hk1 hFc hP1 hD1
  generalize H1 = H at hP hS ⊢
  have hP : va_P (dC, dI) vwCl ([(a, dnE 1 f)]) H := hP
  have hD : va_D A ([(a, dnE 1 f)]) := hD
  exact W.vret hx hb hr (fun T9 hT9 hW9 => ⟨⟨(), rfl, trivial, by rw [hT9]; exact hP, hD⟩, hS.F hT9⟩) hS.2.2 dX3_init_6
set_option maxHeartbeats 4000000 in
set_option maxRecDepth 100000 in
theorem c_X3_init_k3 (l : Launch) (dC : Nat → ClassId) (dI : Nat → Nat → Nat) (cI cD cR : ClassId) (a f : Nat) (sz : Nat)  : Met l yX3_init wsX3_init ({ frames := 2, cells := 0, slots := 0, locals := 34 }) (pcR dC dI cI cD cR [.ref a, .int (nI 3), .int (nI f)] (fun H => H.size = sz ∧ va_P (dC, dI) vwCl ([(a, .inr (1, [.int (nI 0), .int (nI 0)]))]) H ∧ va_D (fun _ => True) ([(a, .inr (1, [.int (nI 0), .int (nI 0)]))]))) (va_Qv (fun (_ : Unit) => True) (fun (_ : Unit) T9 => va_P (dC, dI) vwCl ([(a, dnE 3 f)]) T9.heap ∧ va_D (va_A ([(a, .inr (1, [.int (nI 0), .int (nI 0)]))]) sz) ([(a, dnE 3 f)])) (va_A ([(a, .inr (1, [.int (nI 0), .int (nI 0)]))]) sz)) 0 0 (va_A ([(a, .inr (1, [.int (nI 0), .int (nI 0)]))]) sz) := by
  refine Met.ofW (cc := cX3_init) (maxL := 3) (ret := none) (by decide) rfl ?_
  intro p e s m args below meth c s₁ B hml hv
  obtain ⟨rfl, hH0, hCX⟩ := hv
  have hx := B.exec
  have hb := B.bytes
  have hr := B.returns
  have hts := atoms_spec (ws := wsX3_init) B.pre
  have hown : s.vm.findClass RX3 = some m.cls := findClass_of_methodNamed B.named
  have hlocks := B.notSynchronized
  have hin : meth.name = "<init>" := (name_of_methodNamed B.named B.method).1
  have hK := hCX.1
  obtain ⟨hsz, hP, hD0⟩ := hH0
  subst hsz
  have hD := hD0.self (sz := s.heap.size)
  generalize hAe : va_A ([(a, .inr (1, [.int (nI 0), .int (nI 0)]))]) s.heap.size = A at hD ⊢
  have hA : ∀ q : Nat, s.heap.size ≤ q → A q := fun q h => by rw [← hAe]; exact Or.inr h
  have hS : va_S A s.heap s.heap [] := va_S.rf
  have hP : va_P (dC, dI) vwCl ([(a, .inr (1, [.int (nI 0), .int (nI 0)]))]) s.heap := hP
  have hl := lv_entry ([.ref a, .int (nI 3), .int (nI f)]) (n := 3) (Nat.le_of_ble_eq_true rfl)
  rw [lg_entry_eq]
  generalize (lg_sl ([.ref a, .int (nI 3), .int (nI f)]) ++ List.replicate (3 - (lg_sl ([.ref a, .int (nI 3), .int (nI f)])).length) Slot.unset).toArray = ls at hl ⊢
  have hl : lv_has ls 3 [(0, .ref a), (1, .int (nI 3)), (2, .int (nI f))] := hl
  refine lv_aload_n hx hb dX3_init_0 rfl (lv_at hl 0 rfl) ?_
  refine lv_iload_n hx hb dX3_init_1 rfl (lv_at hl 1 rfl) ?_
  refine lv_iload_n hx hb dX3_init_2 rfl (lv_at hl 2 rfl) ?_
  have hPc := hP
  have hDc := hD
  have hFc := va_free (wc := [(a, .inr (1, [.int (nI 0), .int (nI 0)]))]) hD hS hA [0] rfl
  refine va_callv (va_runI (As := [.int (nI 3), .int (nI f)]) (rest := []) ⟨hx, hb, hml, hown, hts⟩ (c_X2_init_k3 l dC dI cI cD cR a f s.heap.size) (cwI 2 hts gX3_init_X2_init rfl rfl rfl (hts (.initialized RX2) (by decide +kernel)) (hts (.methodLink RX3 1 yX2_init) (by decide +kernel)) (hts (.instanceMethod yX2_init) (by decide +kernel)) rfl (by decide +kernel) ⟨Nat.le_of_ble_eq_true rfl, Nat.le_of_ble_eq_true rfl⟩) (preS_R hCX ⟨rfl, hPc, hDc.weaken (fun _ _ _ _ => trivial)⟩) rfl rfl hl.1 rfl (lv_room (Nat.le_of_ble_eq_true rfl)) dX3_init_3 ⟨Nat.le_of_ble_eq_true (by first | rfl | decide), Nat.le_of_ble_eq_true (by first | rfl | decide)⟩) hS (fun q _ h => hFc q h) hFc (fun u T8 H1 locs hT8 hvm hw hB hz1 hk1 hS => ?_)
  obtain ⟨hP1, hD1⟩ := hB
  rw [hT8] at hP1
  obtain ⟨hP, hD⟩ := va_join (wr := []) (w1 := [(a, dnE 3 f)]) hP hD [0] [] rfl rfl (by decide) (by decide) hk1 hFc hP1 hD1
  generalize H1 = H at hP hS ⊢
  have hP : va_P (dC, dI) vwCl ([(a, dnE 3 f)]) H := hP
  have hD : va_D A ([(a, dnE 3 f)]) := hD
  exact W.vret hx hb hr (fun T9 hT9 hW9 => ⟨⟨(), rfl, trivial, by rw [hT9]; exact hP, hD⟩, hS.F hT9⟩) hS.2.2 dX3_init_6
set_option maxHeartbeats 4000000 in
set_option maxRecDepth 100000 in
theorem c_X3_init_k5 (l : Launch) (dC : Nat → ClassId) (dI : Nat → Nat → Nat) (cI cD cR : ClassId) (a f : Nat) (sz : Nat)  : Met l yX3_init wsX3_init ({ frames := 2, cells := 0, slots := 0, locals := 34 }) (pcR dC dI cI cD cR [.ref a, .int (nI 5), .int (nI f)] (fun H => H.size = sz ∧ va_P (dC, dI) vwCl ([(a, .inr (6, [.int (nI 0), .int (nI 0)]))]) H ∧ va_D (fun _ => True) ([(a, .inr (6, [.int (nI 0), .int (nI 0)]))]))) (va_Qv (fun (_ : Unit) => True) (fun (_ : Unit) T9 => va_P (dC, dI) vwCl ([(a, dnE 5 f)]) T9.heap ∧ va_D (va_A ([(a, .inr (6, [.int (nI 0), .int (nI 0)]))]) sz) ([(a, dnE 5 f)])) (va_A ([(a, .inr (6, [.int (nI 0), .int (nI 0)]))]) sz)) 0 0 (va_A ([(a, .inr (6, [.int (nI 0), .int (nI 0)]))]) sz) := by
  refine Met.ofW (cc := cX3_init) (maxL := 3) (ret := none) (by decide) rfl ?_
  intro p e s m args below meth c s₁ B hml hv
  obtain ⟨rfl, hH0, hCX⟩ := hv
  have hx := B.exec
  have hb := B.bytes
  have hr := B.returns
  have hts := atoms_spec (ws := wsX3_init) B.pre
  have hown : s.vm.findClass RX3 = some m.cls := findClass_of_methodNamed B.named
  have hlocks := B.notSynchronized
  have hin : meth.name = "<init>" := (name_of_methodNamed B.named B.method).1
  have hK := hCX.1
  obtain ⟨hsz, hP, hD0⟩ := hH0
  subst hsz
  have hD := hD0.self (sz := s.heap.size)
  generalize hAe : va_A ([(a, .inr (6, [.int (nI 0), .int (nI 0)]))]) s.heap.size = A at hD ⊢
  have hA : ∀ q : Nat, s.heap.size ≤ q → A q := fun q h => by rw [← hAe]; exact Or.inr h
  have hS : va_S A s.heap s.heap [] := va_S.rf
  have hP : va_P (dC, dI) vwCl ([(a, .inr (6, [.int (nI 0), .int (nI 0)]))]) s.heap := hP
  have hl := lv_entry ([.ref a, .int (nI 5), .int (nI f)]) (n := 3) (Nat.le_of_ble_eq_true rfl)
  rw [lg_entry_eq]
  generalize (lg_sl ([.ref a, .int (nI 5), .int (nI f)]) ++ List.replicate (3 - (lg_sl ([.ref a, .int (nI 5), .int (nI f)])).length) Slot.unset).toArray = ls at hl ⊢
  have hl : lv_has ls 3 [(0, .ref a), (1, .int (nI 5)), (2, .int (nI f))] := hl
  refine lv_aload_n hx hb dX3_init_0 rfl (lv_at hl 0 rfl) ?_
  refine lv_iload_n hx hb dX3_init_1 rfl (lv_at hl 1 rfl) ?_
  refine lv_iload_n hx hb dX3_init_2 rfl (lv_at hl 2 rfl) ?_
  have hPc := hP
  have hDc := hD
  have hFc := va_free (wc := [(a, .inr (6, [.int (nI 0), .int (nI 0)]))]) hD hS hA [0] rfl
  refine va_callv (va_runI (As := [.int (nI 5), .int (nI f)]) (rest := []) ⟨hx, hb, hml, hown, hts⟩ (c_X2_init_k5 l dC dI cI cD cR a f s.heap.size) (cwI 2 hts gX3_init_X2_init rfl rfl rfl (hts (.initialized RX2) (by decide +kernel)) (hts (.methodLink RX3 1 yX2_init) (by decide +kernel)) (hts (.instanceMethod yX2_init) (by decide +kernel)) rfl (by decide +kernel) ⟨Nat.le_of_ble_eq_true rfl, Nat.le_of_ble_eq_true rfl⟩) (preS_R hCX ⟨rfl, hPc, hDc.weaken (fun _ _ _ _ => trivial)⟩) rfl rfl hl.1 rfl (lv_room (Nat.le_of_ble_eq_true rfl)) dX3_init_3 ⟨Nat.le_of_ble_eq_true (by first | rfl | decide), Nat.le_of_ble_eq_true (by first | rfl | decide)⟩) hS (fun q _ h => hFc q h) hFc (fun u T8 H1 locs hT8 hvm hw hB hz1 hk1 hS => ?_)
  obtain ⟨hP1, hD1⟩ := hB
  rw [hT8] at hP1
  obtain ⟨hP, hD⟩ := va_join (wr := []) (w1 := [(a, dnE 5 f)]) hP hD [0] [] rfl rfl (by decide) (by decide) hk1 hFc hP1 hD1
  generalize H1 = H at hP hS ⊢
  have hP : va_P (dC, dI) vwCl ([(a, dnE 5 f)]) H := hP
  have hD : va_D A ([(a, dnE 5 f)]) := hD
  exact W.vret hx hb hr (fun T9 hT9 hW9 => ⟨⟨(), rfl, trivial, by rw [hT9]; exact hP, hD⟩, hS.F hT9⟩) hS.2.2 dX3_init_6
set_option maxHeartbeats 4000000 in
set_option maxRecDepth 100000 in
theorem c_X10_init_k2 (l : Launch) (dC : Nat → ClassId) (dI : Nat → Nat → Nat) (cI cD cR : ClassId) (a f : Nat) (sz : Nat)  : Met l yX10_init wsX10_init ({ frames := 2, cells := 0, slots := 0, locals := 34 }) (pcR dC dI cI cD cR [.ref a, .int (nI 2), .int (nI f)] (fun H => H.size = sz ∧ va_P (dC, dI) vwCl ([(a, .inr (10, [.int (nI 0), .int (nI 0)]))]) H ∧ va_D (fun _ => True) ([(a, .inr (10, [.int (nI 0), .int (nI 0)]))]))) (va_Qv (fun (_ : Unit) => True) (fun (_ : Unit) T9 => va_P (dC, dI) vwCl ([(a, dnE 2 f)]) T9.heap ∧ va_D (va_A ([(a, .inr (10, [.int (nI 0), .int (nI 0)]))]) sz) ([(a, dnE 2 f)])) (va_A ([(a, .inr (10, [.int (nI 0), .int (nI 0)]))]) sz)) 0 0 (va_A ([(a, .inr (10, [.int (nI 0), .int (nI 0)]))]) sz) := by
  refine Met.ofW (cc := cX10_init) (maxL := 3) (ret := none) (by decide) rfl ?_
  intro p e s m args below meth c s₁ B hml hv
  obtain ⟨rfl, hH0, hCX⟩ := hv
  have hx := B.exec
  have hb := B.bytes
  have hr := B.returns
  have hts := atoms_spec (ws := wsX10_init) B.pre
  have hown : s.vm.findClass RX10 = some m.cls := findClass_of_methodNamed B.named
  have hlocks := B.notSynchronized
  have hin : meth.name = "<init>" := (name_of_methodNamed B.named B.method).1
  have hK := hCX.1
  obtain ⟨hsz, hP, hD0⟩ := hH0
  subst hsz
  have hD := hD0.self (sz := s.heap.size)
  generalize hAe : va_A ([(a, .inr (10, [.int (nI 0), .int (nI 0)]))]) s.heap.size = A at hD ⊢
  have hA : ∀ q : Nat, s.heap.size ≤ q → A q := fun q h => by rw [← hAe]; exact Or.inr h
  have hS : va_S A s.heap s.heap [] := va_S.rf
  have hP : va_P (dC, dI) vwCl ([(a, .inr (10, [.int (nI 0), .int (nI 0)]))]) s.heap := hP
  have hl := lv_entry ([.ref a, .int (nI 2), .int (nI f)]) (n := 3) (Nat.le_of_ble_eq_true rfl)
  rw [lg_entry_eq]
  generalize (lg_sl ([.ref a, .int (nI 2), .int (nI f)]) ++ List.replicate (3 - (lg_sl ([.ref a, .int (nI 2), .int (nI f)])).length) Slot.unset).toArray = ls at hl ⊢
  have hl : lv_has ls 3 [(0, .ref a), (1, .int (nI 2)), (2, .int (nI f))] := hl
  refine lv_aload_n hx hb dX10_init_0 rfl (lv_at hl 0 rfl) ?_
  refine lv_iload_n hx hb dX10_init_1 rfl (lv_at hl 1 rfl) ?_
  refine lv_iload_n hx hb dX10_init_2 rfl (lv_at hl 2 rfl) ?_
  have hPc := hP
  have hDc := hD
  have hFc := va_free (wc := [(a, .inr (10, [.int (nI 0), .int (nI 0)]))]) hD hS hA [0] rfl
  refine va_callv (va_runI (As := [.int (nI 2), .int (nI f)]) (rest := []) ⟨hx, hb, hml, hown, hts⟩ (c_X2_init_k2 l dC dI cI cD cR a f s.heap.size) (cwI 2 hts gX10_init_X2_init rfl rfl rfl (hts (.initialized RX2) (by decide +kernel)) (hts (.methodLink RX10 1 yX2_init) (by decide +kernel)) (hts (.instanceMethod yX2_init) (by decide +kernel)) rfl (by decide +kernel) ⟨Nat.le_of_ble_eq_true rfl, Nat.le_of_ble_eq_true rfl⟩) (preS_R hCX ⟨rfl, hPc, hDc.weaken (fun _ _ _ _ => trivial)⟩) rfl rfl hl.1 rfl (lv_room (Nat.le_of_ble_eq_true rfl)) dX10_init_3 ⟨Nat.le_of_ble_eq_true (by first | rfl | decide), Nat.le_of_ble_eq_true (by first | rfl | decide)⟩) hS (fun q _ h => hFc q h) hFc (fun u T8 H1 locs hT8 hvm hw hB hz1 hk1 hS => ?_)
  obtain ⟨hP1, hD1⟩ := hB
  rw [hT8] at hP1
  obtain ⟨hP, hD⟩ := va_join (wr := []) (w1 := [(a, dnE 2 f)]) hP hD [0] [] rfl rfl (by decide) (by decide) hk1 hFc hP1 hD1
  generalize H1 = H at hP hS ⊢
  have hP : va_P (dC, dI) vwCl ([(a, dnE 2 f)]) H := hP
  have hD : va_D A ([(a, dnE 2 f)]) := hD
  exact W.vret hx hb hr (fun T9 hT9 hW9 => ⟨⟨(), rfl, trivial, by rw [hT9]; exact hP, hD⟩, hS.F hT9⟩) hS.2.2 dX10_init_6
set_option maxHeartbeats 4000000 in
set_option maxRecDepth 100000 in
theorem c_X10_init_k6 (l : Launch) (dC : Nat → ClassId) (dI : Nat → Nat → Nat) (cI cD cR : ClassId) (a f : Nat) (sz : Nat)  : Met l yX10_init wsX10_init ({ frames := 2, cells := 0, slots := 0, locals := 34 }) (pcR dC dI cI cD cR [.ref a, .int (nI 6), .int (nI f)] (fun H => H.size = sz ∧ va_P (dC, dI) vwCl ([(a, .inr (7, [.int (nI 0), .int (nI 0)]))]) H ∧ va_D (fun _ => True) ([(a, .inr (7, [.int (nI 0), .int (nI 0)]))]))) (va_Qv (fun (_ : Unit) => True) (fun (_ : Unit) T9 => va_P (dC, dI) vwCl ([(a, dnE 6 f)]) T9.heap ∧ va_D (va_A ([(a, .inr (7, [.int (nI 0), .int (nI 0)]))]) sz) ([(a, dnE 6 f)])) (va_A ([(a, .inr (7, [.int (nI 0), .int (nI 0)]))]) sz)) 0 0 (va_A ([(a, .inr (7, [.int (nI 0), .int (nI 0)]))]) sz) := by
  refine Met.ofW (cc := cX10_init) (maxL := 3) (ret := none) (by decide) rfl ?_
  intro p e s m args below meth c s₁ B hml hv
  obtain ⟨rfl, hH0, hCX⟩ := hv
  have hx := B.exec
  have hb := B.bytes
  have hr := B.returns
  have hts := atoms_spec (ws := wsX10_init) B.pre
  have hown : s.vm.findClass RX10 = some m.cls := findClass_of_methodNamed B.named
  have hlocks := B.notSynchronized
  have hin : meth.name = "<init>" := (name_of_methodNamed B.named B.method).1
  have hK := hCX.1
  obtain ⟨hsz, hP, hD0⟩ := hH0
  subst hsz
  have hD := hD0.self (sz := s.heap.size)
  generalize hAe : va_A ([(a, .inr (7, [.int (nI 0), .int (nI 0)]))]) s.heap.size = A at hD ⊢
  have hA : ∀ q : Nat, s.heap.size ≤ q → A q := fun q h => by rw [← hAe]; exact Or.inr h
  have hS : va_S A s.heap s.heap [] := va_S.rf
  have hP : va_P (dC, dI) vwCl ([(a, .inr (7, [.int (nI 0), .int (nI 0)]))]) s.heap := hP
  have hl := lv_entry ([.ref a, .int (nI 6), .int (nI f)]) (n := 3) (Nat.le_of_ble_eq_true rfl)
  rw [lg_entry_eq]
  generalize (lg_sl ([.ref a, .int (nI 6), .int (nI f)]) ++ List.replicate (3 - (lg_sl ([.ref a, .int (nI 6), .int (nI f)])).length) Slot.unset).toArray = ls at hl ⊢
  have hl : lv_has ls 3 [(0, .ref a), (1, .int (nI 6)), (2, .int (nI f))] := hl
  refine lv_aload_n hx hb dX10_init_0 rfl (lv_at hl 0 rfl) ?_
  refine lv_iload_n hx hb dX10_init_1 rfl (lv_at hl 1 rfl) ?_
  refine lv_iload_n hx hb dX10_init_2 rfl (lv_at hl 2 rfl) ?_
  have hPc := hP
  have hDc := hD
  have hFc := va_free (wc := [(a, .inr (7, [.int (nI 0), .int (nI 0)]))]) hD hS hA [0] rfl
  refine va_callv (va_runI (As := [.int (nI 6), .int (nI f)]) (rest := []) ⟨hx, hb, hml, hown, hts⟩ (c_X2_init_k6 l dC dI cI cD cR a f s.heap.size) (cwI 2 hts gX10_init_X2_init rfl rfl rfl (hts (.initialized RX2) (by decide +kernel)) (hts (.methodLink RX10 1 yX2_init) (by decide +kernel)) (hts (.instanceMethod yX2_init) (by decide +kernel)) rfl (by decide +kernel) ⟨Nat.le_of_ble_eq_true rfl, Nat.le_of_ble_eq_true rfl⟩) (preS_R hCX ⟨rfl, hPc, hDc.weaken (fun _ _ _ _ => trivial)⟩) rfl rfl hl.1 rfl (lv_room (Nat.le_of_ble_eq_true rfl)) dX10_init_3 ⟨Nat.le_of_ble_eq_true (by first | rfl | decide), Nat.le_of_ble_eq_true (by first | rfl | decide)⟩) hS (fun q _ h => hFc q h) hFc (fun u T8 H1 locs hT8 hvm hw hB hz1 hk1 hS => ?_)
  obtain ⟨hP1, hD1⟩ := hB
  rw [hT8] at hP1
  obtain ⟨hP, hD⟩ := va_join (wr := []) (w1 := [(a, dnE 6 f)]) hP hD [0] [] rfl rfl (by decide) (by decide) hk1 hFc hP1 hD1
  generalize H1 = H at hP hS ⊢
  have hP : va_P (dC, dI) vwCl ([(a, dnE 6 f)]) H := hP
  have hD : va_D A ([(a, dnE 6 f)]) := hD
  exact W.vret hx hb hr (fun T9 hT9 hW9 => ⟨⟨(), rfl, trivial, by rw [hT9]; exact hP, hD⟩, hS.F hT9⟩) hS.2.2 dX10_init_6
set_option maxHeartbeats 4000000 in
set_option maxRecDepth 100000 in
theorem c_X5_init_k4 (l : Launch) (dC : Nat → ClassId) (dI : Nat → Nat → Nat) (cI cD cR : ClassId) (a f : Nat) (sz : Nat)  : Met l yX5_init wsX5_init ({ frames := 2, cells := 0, slots := 0, locals := 34 }) (pcR dC dI cI cD cR [.ref a, .int (nI 4), .int (nI f)] (fun H => H.size = sz ∧ va_P (dC, dI) vwCl ([(a, .inr (5, [.int (nI 0), .int (nI 0)]))]) H ∧ va_D (fun _ => True) ([(a, .inr (5, [.int (nI 0), .int (nI 0)]))]))) (va_Qv (fun (_ : Unit) => True) (fun (_ : Unit) T9 => va_P (dC, dI) vwCl ([(a, dnE 4 f)]) T9.heap ∧ va_D (va_A ([(a, .inr (5, [.int (nI 0), .int (nI 0)]))]) sz) ([(a, dnE 4 f)])) (va_A ([(a, .inr (5, [.int (nI 0), .int (nI 0)]))]) sz)) 0 0 (va_A ([(a, .inr (5, [.int (nI 0), .int (nI 0)]))]) sz) := by
  refine Met.ofW (cc := cX5_init) (maxL := 3) (ret := none) (by decide) rfl ?_
  intro p e s m args below meth c s₁ B hml hv
  obtain ⟨rfl, hH0, hCX⟩ := hv
  have hx := B.exec
  have hb := B.bytes
  have hr := B.returns
  have hts := atoms_spec (ws := wsX5_init) B.pre
  have hown : s.vm.findClass RX5 = some m.cls := findClass_of_methodNamed B.named
  have hlocks := B.notSynchronized
  have hin : meth.name = "<init>" := (name_of_methodNamed B.named B.method).1
  have hK := hCX.1
  obtain ⟨hsz, hP, hD0⟩ := hH0
  subst hsz
  have hD := hD0.self (sz := s.heap.size)
  generalize hAe : va_A ([(a, .inr (5, [.int (nI 0), .int (nI 0)]))]) s.heap.size = A at hD ⊢
  have hA : ∀ q : Nat, s.heap.size ≤ q → A q := fun q h => by rw [← hAe]; exact Or.inr h
  have hS : va_S A s.heap s.heap [] := va_S.rf
  have hP : va_P (dC, dI) vwCl ([(a, .inr (5, [.int (nI 0), .int (nI 0)]))]) s.heap := hP
  have hl := lv_entry ([.ref a, .int (nI 4), .int (nI f)]) (n := 3) (Nat.le_of_ble_eq_true rfl)
  rw [lg_entry_eq]
  generalize (lg_sl ([.ref a, .int (nI 4), .int (nI f)]) ++ List.replicate (3 - (lg_sl ([.ref a, .int (nI 4), .int (nI f)])).length) Slot.unset).toArray = ls at hl ⊢
  have hl : lv_has ls 3 [(0, .ref a), (1, .int (nI 4)), (2, .int (nI f))] := hl
  refine lv_aload_n hx hb dX5_init_0 rfl (lv_at hl 0 rfl) ?_
  refine lv_iload_n hx hb dX5_init_1 rfl (lv_at hl 1 rfl) ?_
  refine lv_iload_n hx hb dX5_init_2 rfl (lv_at hl 2 rfl) ?_
  have hPc := hP
  have hDc := hD
  have hFc := va_free (wc := [(a, .inr (5, [.int (nI 0), .int (nI 0)]))]) hD hS hA [0] rfl
  refine va_callv (va_runI (As := [.int (nI 4), .int (nI f)]) (rest := []) ⟨hx, hb, hml, hown, hts⟩ (c_X2_init_k4 l dC dI cI cD cR a f s.heap.size) (cwI 2 hts gX5_init_X2_init rfl rfl rfl (hts (.initialized RX2) (by decide +kernel)) (hts (.methodLink RX5 1 yX2_init) (by decide +kernel)) (hts (.instanceMethod yX2_init) (by decide +kernel)) rfl (by decide +kernel) ⟨Nat.le_of_ble_eq_true rfl, Nat.le_of_ble_eq_true rfl⟩) (preS_R hCX ⟨rfl, hPc, hDc.weaken (fun _ _ _ _ => trivial)⟩) rfl rfl hl.1 rfl (lv_room (Nat.le_of_ble_eq_true rfl)) dX5_init_3 ⟨Nat.le_of_ble_eq_true (by first | rfl | decide), Nat.le_of_ble_eq_true (by first | rfl | decide)⟩) hS (fun q _ h => hFc q h) hFc (fun u T8 H1 locs hT8 hvm hw hB hz1 hk1 hS => ?_)
  obtain ⟨hP1, hD1⟩ := hB
  rw [hT8] at hP1
  obtain ⟨hP, hD⟩ := va_join (wr := []) (w1 := [(a, dnE 4 f)]) hP hD [0] [] rfl rfl (by decide) (by decide) hk1 hFc hP1 hD1
  generalize H1 = H at hP hS ⊢
  have hP : va_P (dC, dI) vwCl ([(a, dnE 4 f)]) H := hP
  have hD : va_D A ([(a, dnE 4 f)]) := hD
  exact W.vret hx hb hr (fun T9 hT9 hW9 => ⟨⟨(), rfl, trivial, by rw [hT9]; exact hP, hD⟩, hS.F hT9⟩) hS.2.2 dX5_init_6
set_option maxHeartbeats 4000000 in
set_option maxRecDepth 100000 in
theorem c_X5_init_k7 (l : Launch) (dC : Nat → ClassId) (dI : Nat → Nat → Nat) (cI cD cR : ClassId) (a f : Nat) (sz : Nat)  : Met l yX5_init wsX5_init ({ frames := 2, cells := 0, slots := 0, locals := 34 }) (pcR dC dI cI cD cR [.ref a, .int (nI 7), .int (nI f)] (fun H => H.size = sz ∧ va_P (dC, dI) vwCl ([(a, .inr (0, [.int (nI 0), .int (nI 0)]))]) H ∧ va_D (fun _ => True) ([(a, .inr (0, [.int (nI 0), .int (nI 0)]))]))) (va_Qv (fun (_ : Unit) => True) (fun (_ : Unit) T9 => va_P (dC, dI) vwCl ([(a, dnE 7 f)]) T9.heap ∧ va_D (va_A ([(a, .inr (0, [.int (nI 0), .int (nI 0)]))]) sz) ([(a, dnE 7 f)])) (va_A ([(a, .inr (0, [.int (nI 0), .int (nI 0)]))]) sz)) 0 0 (va_A ([(a, .inr (0, [.int (nI 0), .int (nI 0)]))]) sz) := by
  refine Met.ofW (cc := cX5_init) (maxL := 3) (ret := none) (by decide) rfl ?_
  intro p e s m args below meth c s₁ B hml hv
  obtain ⟨rfl, hH0, hCX⟩ := hv
  have hx := B.exec
  have hb := B.bytes
  have hr := B.returns
  have hts := atoms_spec (ws := wsX5_init) B.pre
  have hown : s.vm.findClass RX5 = some m.cls := findClass_of_methodNamed B.named
  have hlocks := B.notSynchronized
  have hin : meth.name = "<init>" := (name_of_methodNamed B.named B.method).1
  have hK := hCX.1
  obtain ⟨hsz, hP, hD0⟩ := hH0
  subst hsz
  have hD := hD0.self (sz := s.heap.size)
  generalize hAe : va_A ([(a, .inr (0, [.int (nI 0), .int (nI 0)]))]) s.heap.size = A at hD ⊢
  have hA : ∀ q : Nat, s.heap.size ≤ q → A q := fun q h => by rw [← hAe]; exact Or.inr h
  have hS : va_S A s.heap s.heap [] := va_S.rf
  have hP : va_P (dC, dI) vwCl ([(a, .inr (0, [.int (nI 0), .int (nI 0)]))]) s.heap := hP
  have hl := lv_entry ([.ref a, .int (nI 7), .int (nI f)]) (n := 3) (Nat.le_of_ble_eq_true rfl)
  rw [lg_entry_eq]
  generalize (lg_sl ([.ref a, .int (nI 7), .int (nI f)]) ++ List.replicate (3 - (lg_sl ([.ref a, .int (nI 7), .int (nI f)])).length) Slot.unset).toArray = ls at hl ⊢
  have hl : lv_has ls 3 [(0, .ref a), (1, .int (nI 7)), (2, .int (nI f))] := hl
  refine lv_aload_n hx hb dX5_init_0 rfl (lv_at hl 0 rfl) ?_
  refine lv_iload_n hx hb dX5_init_1 rfl (lv_at hl 1 rfl) ?_
  refine lv_iload_n hx hb dX5_init_2 rfl (lv_at hl 2 rfl) ?_
  have hPc := hP
  have hDc := hD
  have hFc := va_free (wc := [(a, .inr (0, [.int (nI 0), .int (nI 0)]))]) hD hS hA [0] rfl
  refine va_callv (va_runI (As := [.int (nI 7), .int (nI f)]) (rest := []) ⟨hx, hb, hml, hown, hts⟩ (c_X2_init_k7 l dC dI cI cD cR a f s.heap.size) (cwI 2 hts gX5_init_X2_init rfl rfl rfl (hts (.initialized RX2) (by decide +kernel)) (hts (.methodLink RX5 1 yX2_init) (by decide +kernel)) (hts (.instanceMethod yX2_init) (by decide +kernel)) rfl (by decide +kernel) ⟨Nat.le_of_ble_eq_true rfl, Nat.le_of_ble_eq_true rfl⟩) (preS_R hCX ⟨rfl, hPc, hDc.weaken (fun _ _ _ _ => trivial)⟩) rfl rfl hl.1 rfl (lv_room (Nat.le_of_ble_eq_true rfl)) dX5_init_3 ⟨Nat.le_of_ble_eq_true (by first | rfl | decide), Nat.le_of_ble_eq_true (by first | rfl | decide)⟩) hS (fun q _ h => hFc q h) hFc (fun u T8 H1 locs hT8 hvm hw hB hz1 hk1 hS => ?_)
  obtain ⟨hP1, hD1⟩ := hB
  rw [hT8] at hP1
  obtain ⟨hP, hD⟩ := va_join (wr := []) (w1 := [(a, dnE 7 f)]) hP hD [0] [] rfl rfl (by decide) (by decide) hk1 hFc hP1 hD1
  generalize H1 = H at hP hS ⊢
  have hP : va_P (dC, dI) vwCl ([(a, dnE 7 f)]) H := hP
  have hD : va_D A ([(a, dnE 7 f)]) := hD
  exact W.vret hx hb hr (fun T9 hT9 hW9 => ⟨⟨(), rfl, trivial, by rw [hT9]; exact hP, hD⟩, hS.F hT9⟩) hS.2.2 dX5_init_6
set_option maxHeartbeats 4000000 in
set_option maxRecDepth 100000 in
theorem c_X1_init_k3 (l : Launch) (dC : Nat → ClassId) (dI : Nat → Nat → Nat) (cI cD cR : ClassId) (a f : Nat) (sz : Nat)  : Met l yX1_init wsX1_init ({ frames := 3, cells := 0, slots := 0, locals := 56 }) (pcR dC dI cI cD cR [.ref a, .int (nI 3), .int (nI f)] (fun H => H.size = sz ∧ va_P (dC, dI) vwCl ([(a, .inr (1, [.int (nI 0), .int (nI 0)]))]) H ∧ va_D (fun _ => True) ([(a, .inr (1, [.int (nI 0), .int (nI 0)]))]))) (va_Qv (fun (_ : Unit) => True) (fun (_ : Unit) T9 => va_P (dC, dI) vwCl ([(a, dnE 3 f)]) T9.heap ∧ va_D (va_A ([(a, .inr (1, [.int (nI 0), .int (nI 0)]))]) sz) ([(a, dnE 3 f)])) (va_A ([(a, .inr (1, [.int (nI 0), .int (nI 0)]))]) sz)) 0 0 (va_A ([(a, .inr (1, [.int (nI 0), .int (nI 0)]))]) sz) := by
  refine Met.ofW (cc := cX1_init) (maxL := 3) (ret := none) (by decide) rfl ?_
  intro p e s m args below meth c s₁ B hml hv
  obtain ⟨rfl, hH0, hCX⟩ := hv
  have hx := B.exec
  have hb := B.bytes
  have hr := B.returns
  have hts := atoms_spec (ws := wsX1_init) B.pre
  have hown : s.vm.findClass RX1 = some m.cls := findClass_of_methodNamed B.named
  have hlocks := B.notSynchronized
  have hin : meth.name = "<init>" := (name_of_methodNamed B.named B.method).1
  have hK := hCX.1
  obtain ⟨hsz, hP, hD0⟩ := hH0
  subst hsz
  have hD := hD0.self (sz := s.heap.size)
  generalize hAe : va_A ([(a, .inr (1, [.int (nI 0), .int (nI 0)]))]) s.heap.size = A at hD ⊢
  have hA : ∀ q : Nat, s.heap.size ≤ q → A q := fun q h => by rw [← hAe]; exact Or.inr h
  have hS : va_S A s.heap s.heap [] := va_S.rf
  have hP : va_P (dC, dI) vwCl ([(a, .inr (1, [.int (nI 0), .int (nI 0)]))]) s.heap := hP
  have hl := lv_entry ([.ref a, .int (nI 3), .int (nI f)]) (n := 3) (Nat.le_of_ble_eq_true rfl)
  rw [lg_entry_eq]
  generalize (lg_sl ([.ref a, .int (nI 3), .int (nI f)]) ++ List.replicate (3 - (lg_sl ([.ref a, .int (nI 3), .int (nI f)])).length) Slot.unset).toArray = ls at hl ⊢
  have hl : lv_has ls 3 [(0, .ref a), (1, .int (nI 3)), (2, .int (nI f))] := hl
  refine lv_aload_n hx hb dX1_init_0 rfl (lv_at hl 0 rfl) ?_
  refine lv_iload_n hx hb dX1_init_1 rfl (lv_at hl 1 rfl) ?_
  refine lv_iload_n hx hb dX1_init_2 rfl (lv_at hl 2 rfl) ?_
  have hPc := hP
  have hDc := hD
  have hFc := va_free (wc := [(a, .inr (1, [.int (nI 0), .int (nI 0)]))]) hD hS hA [0] rfl
  refine va_callv (va_runI (As := [.int (nI 3), .int (nI f)]) (rest := []) ⟨hx, hb, hml, hown, hts⟩ (c_X3_init_k3 l dC dI cI cD cR a f s.heap.size) (cwI 2 hts gX1_init_X3_init rfl rfl rfl (hts (.initialized RX3) (by decide +kernel)) (hts (.methodLink RX1 1 yX3_init) (by decide +kernel)) (hts (.instanceMethod yX3_init) (by decide +kernel)) rfl (by decide +kernel) ⟨Nat.le_of_ble_eq_true rfl, Nat.le_of_ble_eq_true rfl⟩) (preS_R hCX ⟨rfl, hPc, hDc.weaken (fun _ _ _ _ => trivial)⟩) rfl rfl hl.1 rfl (lv_room (Nat.le_of_ble_eq_true rfl)) dX1_init_3 ⟨Nat.le_of_ble_eq_true (by first | rfl | decide), Nat.le_of_ble_eq_true (by first | rfl | decide)⟩) hS (fun q _ h => hFc q h) hFc (fun u T8 H1 locs hT8 hvm hw hB hz1 hk1 hS => ?_)
  obtain ⟨hP1, hD1⟩ := hB
  rw [hT8] at hP1
  obtain ⟨hP, hD⟩ := va_join (wr := []) (w1 := [(a, dnE 3 f)]) hP hD [0] [] rfl rfl (by decide) (by decide) hk1 hFc hP1 hD1
  generalize H1 = H at hP hS ⊢
  have hP : va_P (dC, dI) vwCl ([(a, dnE 3 f)]) H := hP
  have hD : va_D A ([(a, dnE 3 f)]) := hD
  exact W.vret hx hb hr (fun T9 hT9 hW9 => ⟨⟨(), rfl, trivial, by rw [hT9]; exact hP, hD⟩, hS.F hT9⟩) hS.2.2 dX1_init_6
set_option maxHeartbeats 4000000 in
set_option maxRecDepth 100000 in
theorem c_X6_init_k5 (l : Launch) (dC : Nat → ClassId) (dI : Nat → Nat → Nat) (cI cD cR : ClassId) (a f : Nat) (sz : Nat)  : Met l yX6_init wsX6_init ({ frames := 3, cells := 0, slots := 0, locals := 56 }) (pcR dC dI cI cD cR [.ref a, .int (nI 5), .int (nI f)] (fun H => H.size = sz ∧ va_P (dC, dI) vwCl ([(a, .inr (6, [.int (nI 0), .int (nI 0)]))]) H ∧ va_D (fun _ => True) ([(a, .inr (6, [.int (nI 0), .int (nI 0)]))]))) (va_Qv (fun (_ : Unit) => True) (fun (_ : Unit) T9 => va_P (dC, dI) vwCl ([(a, dnE 5 f)]) T9.heap ∧ va_D (va_A ([(a, .inr (6, [.int (nI 0), .int (nI 0)]))]) sz) ([(a, dnE 5 f)])) (va_A ([(a, .inr (6, [.int (nI 0), .int (nI 0)]))]) sz)) 0 0 (va_A ([(a, .inr (6, [.int (nI 0), .int (nI 0)]))]) sz) := by
  refine Met.ofW (cc := cX6_init) (maxL := 3) (ret := none) (by decide) rfl ?_
  intro p e s m args below meth c s₁ B hml hv
  obtain ⟨rfl, hH0, hCX⟩ := hv
  have hx := B.exec
  have hb := B.bytes
  have hr := B.returns
  have hts := atoms_spec (ws := wsX6_init) B.pre
  have hown : s.vm.findClass RX6 = some m.cls := findClass_of_methodNamed B.named
  have hlocks := B.notSynchronized
  have hin : meth.name = "<init>" := (name_of_methodNamed B.named B.method).1
  have hK := hCX.1
  obtain ⟨hsz, hP, hD0⟩ := hH0
  subst hsz
  have hD := hD0.self (sz := s.heap.size)
  generalize hAe : va_A ([(a, .inr (6, [.int (nI 0), .int (nI 0)]))]) s.heap.size = A at hD ⊢
  have hA : ∀ q : Nat, s.heap.size ≤ q → A q := fun q h => by rw [← hAe]; exact Or.inr h
  have hS : va_S A s.heap s.heap [] := va_S.rf
  have hP : va_P (dC, dI) vwCl ([(a, .inr (6, [.int (nI 0), .int (nI 0)]))]) s.heap := hP
  have hl := lv_entry ([.ref a, .int (nI 5), .int (nI f)]) (n := 3) (Nat.le_of_ble_eq_true rfl)
  rw [lg_entry_eq]
  generalize (lg_sl ([.ref a, .int (nI 5), .int (nI f)]) ++ List.replicate (3 - (lg_sl ([.ref a, .int (nI 5), .int (nI f)])).length) Slot.unset).toArray = ls at hl ⊢
  have hl : lv_has ls 3 [(0, .ref a), (1, .int (nI 5)), (2, .int (nI f))] := hl
  refine lv_aload_n hx hb dX6_init_0 rfl (lv_at hl 0 rfl) ?_
  refine lv_iload_n hx hb dX6_init_1 rfl (lv_at hl 1 rfl) ?_
  refine lv_iload_n hx hb dX6_init_2 rfl (lv_at hl 2 rfl) ?_
  have hPc := hP
  have hDc := hD
  have hFc := va_free (wc := [(a, .inr (6, [.int (nI 0), .int (nI 0)]))]) hD hS hA [0] rfl
  refine va_callv (va_runI (As := [.int (nI 5), .int (nI f)]) (rest := []) ⟨hx, hb, hml, hown, hts⟩ (c_X3_init_k5 l dC dI cI cD cR a f s.heap.size) (cwI 2 hts gX6_init_X3_init rfl rfl rfl (hts (.initialized RX3) (by decide +kernel)) (hts (.methodLink RX6 1 yX3_init) (by decide +kernel)) (hts (.instanceMethod yX3_init) (by decide +kernel)) rfl (by decide +kernel) ⟨Nat.le_of_ble_eq_true rfl, Nat.le_of_ble_eq_true rfl⟩) (preS_R hCX ⟨rfl, hPc, hDc.weaken (fun _ _ _ _ => trivial)⟩) rfl rfl hl.1 rfl (lv_room (Nat.le_of_ble_eq_true rfl)) dX6_init_3 ⟨Nat.le_of_ble_eq_true (by first | rfl | decide), Nat.le_of_ble_eq_true (by first | rfl | decide)⟩) hS (fun q _ h => hFc q h) hFc (fun u T8 H1 locs hT8 hvm hw hB hz1 hk1 hS => ?_)
  obtain ⟨hP1, hD1⟩ := hB
  rw [hT8] at hP1
  obtain ⟨hP, hD⟩ := va_join (wr := []) (w1 := [(a, dnE 5 f)]) hP hD [0] [] rfl rfl (by decide) (by decide) hk1 hFc hP1 hD1
  generalize H1 = H at hP hS ⊢
  have hP : va_P (dC, dI) vwCl ([(a, dnE 5 f)]) H := hP
  have hD : va_D A ([(a, dnE 5 f)]) := hD
  exact W.vret hx hb hr (fun T9 hT9 hW9 => ⟨⟨(), rfl, trivial, by rw [hT9]; exact hP, hD⟩, hS.F hT9⟩) hS.2.2 dX6_init_6
set_option maxHeartbeats 4000000 in
set_option maxRecDepth 100000 in
theorem c_X7_init_k6 (l : Launch) (dC : Nat → ClassId) (dI : Nat → Nat → Nat) (cI cD cR : ClassId) (a f : Nat) (sz : Nat)  : Met l yX7_init wsX7_init ({ frames := 3, cells := 0, slots := 0, locals := 56 }) (pcR dC dI cI cD cR [.ref a, .int (nI 6), .int (nI f)] (fun H => H.size = sz ∧ va_P (dC, dI) vwCl ([(a, .inr (7, [.int (nI 0), .int (nI 0)]))]) H ∧ va_D (fun _ => True) ([(a, .inr (7, [.int (nI 0), .int (nI 0)]))]))) (va_Qv (fun (_ : Unit) => True) (fun (_ : Unit) T9 => va_P (dC, dI) vwCl ([(a, dnE 6 f)]) T9.heap ∧ va_D (va_A ([(a, .inr (7, [.int (nI 0), .int (nI 0)]))]) sz) ([(a, dnE 6 f)])) (va_A ([(a, .inr (7, [.int (nI 0), .int (nI 0)]))]) sz)) 0 0 (va_A ([(a, .inr (7, [.int (nI 0), .int (nI 0)]))]) sz) := by
  refine Met.ofW (cc := cX7_init) (maxL := 3) (ret := none) (by decide) rfl ?_
  intro p e s m args below meth c s₁ B hml hv
  obtain ⟨rfl, hH0, hCX⟩ := hv
  have hx := B.exec
  have hb := B.bytes
  have hr := B.returns
  have hts := atoms_spec (ws := wsX7_init) B.pre
  have hown : s.vm.findClass RX7 = some m.cls := findClass_of_methodNamed B.named
  have hlocks := B.notSynchronized
  have hin : meth.name = "<init>" := (name_of_methodNamed B.named B.method).1
  have hK := hCX.1
  obtain ⟨hsz, hP, hD0⟩ := hH0
  subst hsz
  have hD := hD0.self (sz := s.heap.size)
  generalize hAe : va_A ([(a, .inr (7, [.int (nI 0), .int (nI 0)]))]) s.heap.size = A at hD ⊢
  have hA : ∀ q : Nat, s.heap.size ≤ q → A q := fun q h => by rw [← hAe]; exact Or.inr h
  have hS : va_S A s.heap s.heap [] := va_S.rf
  have hP : va_P (dC, dI) vwCl ([(a, .inr (7, [.int (nI 0), .int (nI 0)]))]) s.heap := hP
  have hl := lv_entry ([.ref a, .int (nI 6), .int (nI f)]) (n := 3) (Nat.le_of_ble_eq_true rfl)
  rw [lg_entry_eq]
  generalize (lg_sl ([.ref a, .int (nI 6), .int (nI f)]) ++ List.replicate (3 - (lg_sl ([.ref a, .int (nI 6), .int (nI f)])).length) Slot.unset).toArray = ls at hl ⊢
  have hl : lv_has ls 3 [(0, .ref a), (1, .int (nI 6)), (2, .int (nI f))] := hl
  refine lv_aload_n hx hb dX7_init_0 rfl (lv_at hl 0 rfl) ?_
  refine lv_iload_n hx hb dX7_init_1 rfl (lv_at hl 1 rfl) ?_
  refine lv_iload_n hx hb dX7_init_2 rfl (lv_at hl 2 rfl) ?_
  have hPc := hP
  have hDc := hD
  have hFc := va_free (wc := [(a, .inr (7, [.int (nI 0), .int (nI 0)]))]) hD hS hA [0] rfl
  refine va_callv (va_runI (As := [.int (nI 6), .int (nI f)]) (rest := []) ⟨hx, hb, hml, hown, hts⟩ (c_X10_init_k6 l dC dI cI cD cR a f s.heap.size) (cwI 2 hts gX7_init_X10_init rfl rfl rfl (hts (.initialized RX10) (by decide +kernel)) (hts (.methodLink RX7 1 yX10_init) (by decide +kernel)) (hts (.instanceMethod yX10_init) (by decide +kernel)) rfl (by decide +kernel) ⟨Nat.le_of_ble_eq_true rfl, Nat.le_of_ble_eq_true rfl⟩) (preS_R hCX ⟨rfl, hPc, hDc.weaken (fun _ _ _ _ => trivial)⟩) rfl rfl hl.1 rfl (lv_room (Nat.le_of_ble_eq_true rfl)) dX7_init_3 ⟨Nat.le_of_ble_eq_true (by first | rfl | decide), Nat.le_of_ble_eq_true (by first | rfl | decide)⟩) hS (fun q _ h => hFc q h) hFc (fun u T8 H1 locs hT8 hvm hw hB hz1 hk1 hS => ?_)
  obtain ⟨hP1, hD1⟩ := hB
  rw [hT8] at hP1
  obtain ⟨hP, hD⟩ := va_join (wr := []) (w1 := [(a, dnE 6 f)]) hP hD [0] [] rfl rfl (by decide) (by decide) hk1 hFc hP1 hD1
  generalize H1 = H at hP hS ⊢
  have hP : va_P (dC, dI) vwCl ([(a, dnE 6 f)]) H := hP
  have hD : va_D A ([(a, dnE 6 f)]) := hD
  exact W.vret hx hb hr (fun T9 hT9 hW9 => ⟨⟨(), rfl, trivial, by rw [hT9]; exact hP, hD⟩, hS.F hT9⟩) hS.2.2 dX7_init_6
set_option maxHeartbeats 4000000 in
set_option maxRecDepth 100000 in
theorem c_X0_init_k7 (l : Launch) (dC : Nat → ClassId) (dI : Nat → Nat → Nat) (cI cD cR : ClassId) (a f : Nat) (sz : Nat)  : Met l yX0_init wsX0_init ({ frames := 3, cells := 0, slots := 0, locals := 56 }) (pcR dC dI cI cD cR [.ref a, .int (nI 7), .int (nI f)] (fun H => H.size = sz ∧ va_P (dC, dI) vwCl ([(a, .inr (0, [.int (nI 0), .int (nI 0)]))]) H ∧ va_D (fun _ => True) ([(a, .inr (0, [.int (nI 0), .int (nI 0)]))]))) (va_Qv (fun (_ : Unit) => True) (fun (_ : Unit) T9 => va_P (dC, dI) vwCl ([(a, dnE 7 f)]) T9.heap ∧ va_D (va_A ([(a, .inr (0, [.int (nI 0), .int (nI 0)]))]) sz) ([(a, dnE 7 f)])) (va_A ([(a, .inr (0, [.int (nI 0), .int (nI 0)]))]) sz)) 0 0 (va_A ([(a, .inr (0, [.int (nI 0), .int (nI 0)]))]) sz) := by
  refine Met.ofW (cc := cX0_init) (maxL := 3) (ret := none) (by decide) rfl ?_
  intro p e s m args below meth c s₁ B hml hv
  obtain ⟨rfl, hH0, hCX⟩ := hv
  have hx := B.exec
  have hb := B.bytes
  have hr := B.returns
  have hts := atoms_spec (ws := wsX0_init) B.pre
  have hown : s.vm.findClass RX0 = some m.cls := findClass_of_methodNamed B.named
  have hlocks := B.notSynchronized
  have hin : meth.name = "<init>" := (name_of_methodNamed B.named B.method).1
  have hK := hCX.1
  obtain ⟨hsz, hP, hD0⟩ := hH0
  subst hsz
  have hD := hD0.self (sz := s.heap.size)
  generalize hAe : va_A ([(a, .inr (0, [.int (nI 0), .int (nI 0)]))]) s.heap.size = A at hD ⊢
  have hA : ∀ q : Nat, s.heap.size ≤ q → A q := fun q h => by rw [← hAe]; exact Or.inr h
  have hS : va_S A s.heap s.heap [] := va_S.rf
  have hP : va_P (dC, dI) vwCl ([(a, .inr (0, [.int (nI 0), .int (nI 0)]))]) s.heap := hP
  have hl := lv_entry ([.ref a, .int (nI 7), .int (nI f)]) (n := 3) (Nat.le_of_ble_eq_true rfl)
  rw [lg_entry_eq]
  generalize (lg_sl ([.ref a, .int (nI 7), .int (nI f)]) ++ List.replicate (3 - (lg_sl ([.ref a, .int (nI 7), .int (nI f)])).length) Slot.unset).toArray = ls at hl ⊢
  have hl : lv_has ls 3 [(0, .ref a), (1, .int (nI 7)), (2, .int (nI f))] := hl
  refine lv_aload_n hx hb dX0_init_0 rfl (lv_at hl 0 rfl) ?_
  refine lv_iload_n hx hb dX0_init_1 rfl (lv_at hl 1 rfl) ?_
  refine lv_iload_n hx hb dX0_init_2 rfl (lv_at hl 2 rfl) ?_
  have hPc := hP
  have hDc := hD
  have hFc := va_free (wc := [(a, .inr (0, [.int (nI 0), .int (nI 0)]))]) hD hS hA [0] rfl
  refine va_callv (va_runI (As := [.int (nI 7), .int (nI f)]) (rest := []) ⟨hx, hb, hml, hown, hts⟩ (c_X5_init_k7 l dC dI cI cD cR a f s.heap.size) (cwI 2 hts gX0_init_X5_init rfl rfl rfl (hts (.initialized RX5) (by decide +kernel)) (hts (.methodLink RX0 1 yX5_init) (by decide +kernel)) (hts (.instanceMethod yX5_init) (by decide +kernel)) rfl (by decide +kernel) ⟨Nat.le_of_ble_eq_true rfl, Nat.le_of_ble_eq_true rfl⟩) (preS_R hCX ⟨rfl, hPc, hDc.weaken (fun _ _ _ _ => trivial)⟩) rfl rfl hl.1 rfl (lv_room (Nat.le_of_ble_eq_true rfl)) dX0_init_3 ⟨Nat.le_of_ble_eq_true (by first | rfl | decide), Nat.le_of_ble_eq_true (by first | rfl | decide)⟩) hS (fun q _ h => hFc q h) hFc (fun u T8 H1 locs hT8 hvm hw hB hz1 hk1 hS => ?_)
  obtain ⟨hP1, hD1⟩ := hB
  rw [hT8] at hP1
  obtain ⟨hP, hD⟩ := va_join (wr := []) (w1 := [(a, dnE 7 f)]) hP hD [0] [] rfl rfl (by decide) (by decide) hk1 hFc hP1 hD1
  generalize H1 = H at hP hS ⊢
  have hP : va_P (dC, dI) vwCl ([(a, dnE 7 f)]) H := hP
  have hD : va_D A ([(a, dnE 7 f)]) := hD
  exact W.vret hx hb hr (fun T9 hT9 hW9 => ⟨⟨(), rfl, trivial, by rw [hT9]; exact hP, hD⟩, hS.F hT9⟩) hS.2.2 dX0_init_6
set_option maxHeartbeats 4000000 in
set_option maxRecDepth 100000 in
theorem c_X11_newDenier (l : Launch) (dC : Nat → ClassId) (dI : Nat → Nat → Nat) (cI cD cR : ClassId) (k f : Nat) (sz : Nat) (hk : k < 8) (hf : f < 10) : Met l yX11_newDenier wsX11_newDenier ({ frames := 4, cells := 1, slots := 2, locals := 78 }) (pcR dC dI cI cD cR [.int (nI k), .int (nI f)] (fun H => H.size = sz ∧ va_P (dC, dI) vwCl ([]) H ∧ va_D (fun _ => True) ([]))) (va_Qr (fun (_ : Unit) => True) (fun (_ : Unit) a9 T9 => va_P (dC, dI) vwCl ([(a9, dnE k f)]) T9.heap ∧ va_D (va_A ([]) sz) ([(a9, dnE k f)])) (va_A ([]) sz)) 1 2 (va_A ([]) sz) := by
  refine Met.ofW (cc := cX11_newDenier) (maxL := 2) (ret := (some (.object "HoldsOnceDenied$Denier"))) (by decide) rfl ?_
  intro p e s m args below meth c s₁ B hml hv
  obtain ⟨rfl, hH0, hCX⟩ := hv
  have hx := B.exec
  have hb := B.bytes
  have hr := B.returns
  have hts := atoms_spec (ws := wsX11_newDenier) B.pre
  have hown : s.vm.findClass RX11 = some m.cls := findClass_of_methodNamed B.named
  have hlocks := B.notSynchronized
  have hK := hCX.1
  obtain ⟨hsz, hP, hD0⟩ := hH0
  subst hsz
  have hD := hD0.self (sz := s.heap.size)
  generalize hAe : va_A ([]) s.heap.size = A at hD ⊢
  have hA : ∀ q : Nat, s.heap.size ≤ q → A q := fun q h => by rw [← hAe]; exact Or.inr h
  have hS : va_S A s.heap s.heap [] := va_S.rf
  have hP : va_P (dC, dI) vwCl ([]) s.heap := hP
  have hl := lv_entry ([.int (nI k), .int (nI f)]) (n := 2) (Nat.le_of_ble_eq_true rfl)
  rw [lg_entry_eq]
  generalize (lg_sl ([.int (nI k), .int (nI f)]) ++ List.replicate (2 - (lg_sl ([.int (nI k), .int (nI f)])).length) Slot.unset).toArray = ls at hl ⊢
  have hl : lv_has ls 2 [(0, .int (nI k)), (1, .int (nI f))] := hl
  refine lv_iload_n hx hb dX11_newDenier_0 rfl (lv_at hl 0 rfl) ?_
  by_cases k_1_0 : k = 0
  · subst k_1_0
    refine lv_tableIn (tgt := 48) hx hb dX11_newDenier_1 (by decide +kernel) (by decide +kernel) (off := 47) (by decide +kernel) (by decide) ?_
    refine va_new (ci := 2) (fs := [.int (nI 0), .int (nI 0)]) (C := RX2) (T := TX2) (N := 2) hx hb hts (fun _ h => List.mem_cons_of_mem _ (List.mem_append_left _ (List.mem_append_left _ (List.mem_append_left _ (List.mem_append_left _ (List.mem_append_left _ (List.mem_append_left _ (List.mem_append_left _ (List.mem_append_right _ h))))))))) tyX2 tyX2_ok hown (hts (.classLink RX11 29 RX2) (by decide +kernel)) (hts (.instantiable RX2 2) (by decide +kernel)) (hts (.initialized RX2) (by decide +kernel)) hK hP hD hS hA rfl (fun j hj => by rcases (show j = 0 ∨ j = 1 by omega) with rfl | rfl <;> rfl) (by first | decide | exact Nat.le_of_ble_eq_true rfl | (dsimp only; omega)) (by first | decide | exact Nat.le_of_ble_eq_true rfl | (dsimp only; omega)) dX11_newDenier_48 (fun q_48 H hP hD hS => ?_)
    have hP : va_P (dC, dI) vwCl ([(q_48, .inr (2, [.int (nI 0), .int (nI 0)]))]) H := hP
    have hD : va_D A ([(q_48, .inr (2, [.int (nI 0), .int (nI 0)]))]) := hD
    refine lv_dup hx hb dX11_newDenier_51 rfl ?_
    refine lv_iload_n hx hb dX11_newDenier_52 rfl (lv_at hl 0 rfl) ?_
    refine lv_iload_n hx hb dX11_newDenier_53 rfl (lv_at hl 1 rfl) ?_
    have hPc := hP
    have hDc := hD
    have hFc := va_free (wc := [(q_48, .inr (2, [.int (nI 0), .int (nI 0)]))]) hD hS hA [0] rfl
    refine va_callv (va_runI (As := [.int (nI 0), .int (nI f)]) (rest := [.ref q_48]) ⟨hx, hb, hml, hown, hts⟩ (c_X2_init_k0 l dC dI cI cD cR q_48 f H.size) (cwI 2 hts gX11_newDenier_X2_init rfl rfl rfl (hts (.initialized RX2) (by decide +kernel)) (hts (.methodLink RX11 275 yX2_init) (by decide +kernel)) (hts (.instanceMethod yX2_init) (by decide +kernel)) rfl (by decide +kernel) ⟨Nat.le_of_ble_eq_true rfl, Nat.le_of_ble_eq_true rfl⟩) (preS_R hCX ⟨rfl, hPc, hDc.weaken (fun _ _ _ _ => trivial)⟩) rfl rfl hl.1 rfl (lv_room (Nat.le_of_ble_eq_true rfl)) dX11_newDenier_54 ⟨by first | decide | exact Nat.le_of_ble_eq_true rfl | (dsimp only; omega), by first | decide | exact Nat.le_of_ble_eq_true rfl | (dsimp only; omega)⟩) hS (fun q _ h => hFc q h) hFc (fun u T8 H1 locs hT8 hvm hw hB hz1 hk1 hS => ?_)
    obtain ⟨hP1, hD1⟩ := hB
    rw [hT8] at hP1
    obtain ⟨hP, hD⟩ := va_join (wr := []) (w1 := [(q_48, dnE 0 f)]) hP hD [0] [] rfl rfl (by decide) (by decide) hk1 hFc hP1 hD1
    generalize H1 = H at hP hS ⊢
    have hP : va_P (dC, dI) vwCl ([(q_48, dnE 0 f)]) H := hP
    have hD : va_D A ([(q_48, dnE 0 f)]) := hD
    exact W.aret hx hb hr (Or.inl ⟨_, rfl⟩) (Or.inr ⟨_, rfl⟩) (fun T9 hT9 hW9 => ⟨⟨(), q_48, rfl, trivial, by rw [hT9]; exact hP, hD⟩, hS.F hT9⟩) hS.2.2 dX11_newDenier_57
  by_cases k_1_1 : k = 1
  · subst k_1_1
    refine lv_tableIn (tgt := 58) hx hb dX11_newDenier_1 (by decide +kernel) (by decide +kernel) (off := 57) (by decide +kernel) (by decide) ?_
    refine va_new (ci := 3) (fs := [.int (nI 0), .int (nI 0)]) (C := RX3) (T := TX3) (N := 2) hx hb hts (fun _ h => List.mem_cons_of_mem _ (List.mem_append_left _ (List.mem_append_left _ (List.mem_append_left _ (List.mem_append_left _ (List.mem_append_left _ (List.mem_append_left _ (List.mem_append_right _ h)))))))) tyX3 tyX3_ok hown (hts (.classLink RX11 277 RX3) (by decide +kernel)) (hts (.instantiable RX3 2) (by decide +kernel)) (hts (.initialized RX3) (by decide +kernel)) hK hP hD hS hA rfl (fun j hj => by rcases (show j = 0 ∨ j = 1 by omega) with rfl | rfl <;> rfl) (by first | decide | exact Nat.le_of_ble_eq_true rfl | (dsimp only; omega)) (by first | decide | exact Nat.le_of_ble_eq_true rfl | (dsimp only; omega)) dX11_newDenier_58 (fun q_58 H hP hD hS => ?_)
    have hP : va_P (dC, dI) vwCl ([(q_58, .inr (3, [.int (nI 0), .int (nI 0)]))]) H := hP
    have hD : va_D A ([(q_58, .inr (3, [.int (nI 0), .int (nI 0)]))]) := hD
    refine lv_dup hx hb dX11_newDenier_61 rfl ?_
    refine lv_iload_n hx hb dX11_newDenier_62 rfl (lv_at hl 0 rfl) ?_
    refine lv_iload_n hx hb dX11_newDenier_63 rfl (lv_at hl 1 rfl) ?_
    have hPc := hP
    have hDc := hD
    have hFc := va_free (wc := [(q_58, .inr (3, [.int (nI 0), .int (nI 0)]))]) hD hS hA [0] rfl
    refine va_callv (va_runI (As := [.int (nI 1), .int (nI f)]) (rest := [.ref q_58]) ⟨hx, hb, hml, hown, hts⟩ (c_X3_init_k1 l dC dI cI cD cR q_58 f H.size) (cwI 2 hts gX11_newDenier_X3_init rfl rfl rfl (hts (.initialized RX3) (by decide +kernel)) (hts (.methodLink RX11 279 yX3_init) (by decide +kernel)) (hts (.instanceMethod yX3_init) (by decide +kernel)) rfl (by decide +kernel) ⟨Nat.le_of_ble_eq_true rfl, Nat.le_of_ble_eq_true rfl⟩) (preS_R hCX ⟨rfl, hPc, hDc.weaken (fun _ _ _ _ => trivial)⟩) rfl rfl hl.1 rfl (lv_room (Nat.le_of_ble_eq_true rfl)) dX11_newDenier_64 ⟨by first | decide | exact Nat.le_of_ble_eq_true rfl | (dsimp only; omega), by first | decide | exact Nat.le_of_ble_eq_true rfl | (dsimp only; omega)⟩) hS (fun q _ h => hFc q h) hFc (fun u T8 H1 locs hT8 hvm hw hB hz1 hk1 hS => ?_)
    obtain ⟨hP1, hD1⟩ := hB
    rw [hT8] at hP1
    obtain ⟨hP, hD⟩ := va_join (wr := []) (w1 := [(q_58, dnE 1 f)]) hP hD [0] [] rfl rfl (by decide) (by decide) hk1 hFc hP1 hD1
    generalize H1 = H at hP hS ⊢
    have hP : va_P (dC, dI) vwCl ([(q_58, dnE 1 f)]) H := hP
    have hD : va_D A ([(q_58, dnE 1 f)]) := hD
    exact W.aret hx hb hr (Or.inl ⟨_, rfl⟩) (Or.inr ⟨_, rfl⟩) (fun T9 hT9 hW9 => ⟨⟨(), q_58, rfl, trivial, by rw [hT9]; exact hP, hD⟩, hS.F hT9⟩) hS.2.2 dX11_newDenier_67
  by_cases k_1_2 : k = 2
  · subst k_1_2
    refine lv_tableIn (tgt := 68) hx hb dX11_newDenier_1 (by decide +kernel) (by decide +kernel) (off := 67) (by decide +kernel) (by decide) ?_
    refine va_new (ci := 10) (fs := [.int (nI 0), .int (nI 0)]) (C := RX10) (T := TX10) (N := 2) hx hb hts (fun _ h => List.mem_cons_of_mem _ (List.mem_append_left _ (List.mem_append_left _ (List.mem_append_left _ (List.mem_append_left _ (List.mem_append_left _ (List.mem_append_right _ h))))))) tyX10 tyX10_ok hown (hts (.classLink RX11 280 RX10) (by decide +kernel)) (hts (.instantiable RX10 2) (by decide +kernel)) (hts (.initialized RX10) (by decide +kernel)) hK hP hD hS hA rfl (fun j hj => by rcases (show j = 0 ∨ j = 1 by omega) with rfl | rfl <;> rfl) (by first | decide | exact Nat.le_of_ble_eq_true rfl | (dsimp only; omega)) (by first | decide | exact Nat.le_of_ble_eq_true rfl | (dsimp only; omega)) dX11_newDenier_68 (fun q_68 H hP hD hS => ?_)
    have hP : va_P (dC, dI) vwCl ([(q_68, .inr (10, [.int (nI 0), .int (nI 0)]))]) H := hP
    have hD : va_D A ([(q_68, .inr (10, [.int (nI 0), .int (nI 0)]))]) := hD
    refine lv_dup hx hb dX11_newDenier_71 rfl ?_
    refine lv_iload_n hx hb dX11_newDenier_72 rfl (lv_at hl 0 rfl) ?_
    refine lv_iload_n hx hb dX11_newDenier_73 rfl (lv_at hl 1 rfl) ?_
    have hPc := hP
    have hDc := hD
    have hFc := va_free (wc := [(q_68, .inr (10, [.int (nI 0), .int (nI 0)]))]) hD hS hA [0] rfl
    refine va_callv (va_runI (As := [.int (nI 2), .int (nI f)]) (rest := [.ref q_68]) ⟨hx, hb, hml, hown, hts⟩ (c_X10_init_k2 l dC dI cI cD cR q_68 f H.size) (cwI 2 hts gX11_newDenier_X10_init rfl rfl rfl (hts (.initialized RX10) (by decide +kernel)) (hts (.methodLink RX11 282 yX10_init) (by decide +kernel)) (hts (.instanceMethod yX10_init) (by decide +kernel)) rfl (by decide +kernel) ⟨Nat.le_of_ble_eq_true rfl, Nat.le_of_ble_eq_true rfl⟩) (preS_R hCX ⟨rfl, hPc, hDc.weaken (fun _ _ _ _ => trivial)⟩) rfl rfl hl.1 rfl (lv_room (Nat.le_of_ble_eq_true rfl)) dX11_newDenier_74 ⟨by first | decide | exact Nat.le_of_ble_eq_true rfl | (dsimp only; omega), by first | decide | exact Nat.le_of_ble_eq_true rfl | (dsimp only; omega)⟩) hS (fun q _ h => hFc q h) hFc (fun u T8 H1 locs hT8 hvm hw hB hz1 hk1 hS => ?_)
    obtain ⟨hP1, hD1⟩ := hB
    rw [hT8] at hP1
    obtain ⟨hP, hD⟩ := va_join (wr := []) (w1 := [(q_68, dnE 2 f)]) hP hD [0] [] rfl rfl (by decide) (by decide) hk1 hFc hP1 hD1
    generalize H1 = H at hP hS ⊢
    have hP : va_P (dC, dI) vwCl ([(q_68, dnE 2 f)]) H := hP
    have hD : va_D A ([(q_68, dnE 2 f)]) := hD
    exact W.aret hx hb hr (Or.inl ⟨_, rfl⟩) (Or.inr ⟨_, rfl⟩) (fun T9 hT9 hW9 => ⟨⟨(), q_68, rfl, trivial, by rw [hT9]; exact hP, hD⟩, hS.F hT9⟩) hS.2.2 dX11_newDenier_77
  by_cases k_1_3 : k = 3
  · subst k_1_3
    refine lv_tableIn (tgt := 78) hx hb dX11_newDenier_1 (by decide +kernel) (by decide +kernel) (off := 77) (by decide +kernel) (by decide) ?_
    refine va_new (ci := 1) (fs := [.int (nI 0), .int (nI 0)]) (C := RX1) (T := TX1) (N := 2) hx hb hts (fun _ h => List.mem_cons_of_mem _ (List.mem_append_left _ (List.mem_append_left _ (List.mem_append_left _ (List.mem_append_left _ (List.mem_append_right _ h)))))) tyX1 tyX1_ok hown (hts (.classLink RX11 283 RX1) (by decide +kernel)) (hts (.instantiable RX1 2) (by decide +kernel)) (hts (.initialized RX1) (by decide +kernel)) hK hP hD hS hA rfl (fun j hj => by rcases (show j = 0 ∨ j = 1 by omega) with rfl | rfl <;> rfl) (by first | decide | exact Nat.le_of_ble_eq_true rfl | (dsimp only; omega)) (by first | decide | exact Nat.le_of_ble_eq_true rfl | (dsimp only; omega)) dX11_newDenier_78 (fun q_78 H hP hD hS => ?_)
    have hP : va_P (dC, dI) vwCl ([(q_78, .inr (1, [.int (nI 0), .int (nI 0)]))]) H := hP
    have hD : va_D A ([(q_78, .inr (1, [.int (nI 0), .int (nI 0)]))]) := hD
    refine lv_dup hx hb dX11_newDenier_81 rfl ?_
    refine lv_iload_n hx hb dX11_newDenier_82 rfl (lv_at hl 0 rfl) ?_
    refine lv_iload_n hx hb dX11_newDenier_83 rfl (lv_at hl 1 rfl) ?_
    have hPc := hP
    have hDc := hD
    have hFc := va_free (wc := [(q_78, .inr (1, [.int (nI 0), .int (nI 0)]))]) hD hS hA [0] rfl
    refine va_callv (va_runI (As := [.int (nI 3), .int (nI f)]) (rest := [.ref q_78]) ⟨hx, hb, hml, hown, hts⟩ (c_X1_init_k3 l dC dI cI cD cR q_78 f H.size) (cwI 2 hts gX11_newDenier_X1_init rfl rfl rfl (hts (.initialized RX1) (by decide +kernel)) (hts (.methodLink RX11 285 yX1_init) (by decide +kernel)) (hts (.instanceMethod yX1_init) (by decide +kernel)) rfl (by decide +kernel) ⟨Nat.le_of_ble_eq_true rfl, Nat.le_of_ble_eq_true rfl⟩) (preS_R hCX ⟨rfl, hPc, hDc.weaken (fun _ _ _ _ => trivial)⟩) rfl rfl hl.1 rfl (lv_room (Nat.le_of_ble_eq_true rfl)) dX11_newDenier_84 ⟨by first | decide | exact Nat.le_of_ble_eq_true rfl | (dsimp only; omega), by first | decide | exact Nat.le_of_ble_eq_true rfl | (dsimp only; omega)⟩) hS (fun q _ h => hFc q h) hFc (fun u T8 H1 locs hT8 hvm hw hB hz1 hk1 hS => ?_)
    obtain ⟨hP1, hD1⟩ := hB
    rw [hT8] at hP1
    obtain ⟨hP, hD⟩ := va_join (wr := []) (w1 := [(q_78, dnE 3 f)]) hP hD [0] [] rfl rfl (by decide) (by decide) hk1 hFc hP1 hD1
    generalize H1 = H at hP hS ⊢
    have hP : va_P (dC, dI) vwCl ([(q_78, dnE 3 f)]) H := hP
    have hD : va_D A ([(q_78, dnE 3 f)]) := hD
    exact W.aret hx hb hr (Or.inl ⟨_, rfl⟩) (Or.inr ⟨_, rfl⟩) (fun T9 hT9 hW9 => ⟨⟨(), q_78, rfl, trivial, by rw [hT9]; exact hP, hD⟩, hS.F hT9⟩) hS.2.2 dX11_newDenier_87
  by_cases k_1_4 : k = 4
  · subst k_1_4
    refine lv_tableIn (tgt := 88) hx hb dX11_newDenier_1 (by decide +kernel) (by decide +kernel) (off := 87) (by decide +kernel) (by decide) ?_
    refine va_new (ci := 5) (fs := [.int (nI 0), .int (nI 0)]) (C := RX5) (T := TX5) (N := 2) hx hb hts (fun _ h => List.mem_cons_of_mem _ (List.mem_append_left _ (List.mem_append_left _ (List.mem_append_left _ (List.mem_append_right _ h))))) tyX5 tyX5_ok hown (hts (.classLink RX11 286 RX5) (by decide +kernel)) (hts (.instantiable RX5 2) (by decide +kernel)) (hts (.initialized RX5) (by decide +kernel)) hK hP hD hS hA rfl (fun j hj => by rcases (show j = 0 ∨ j = 1 by omega) with rfl | rfl <;> rfl) (by first | decide | exact Nat.le_of_ble_eq_true rfl | (dsimp only; omega)) (by first | decide | exact Nat.le_of_ble_eq_true rfl | (dsimp only; omega)) dX11_newDenier_88 (fun q_88 H hP hD hS => ?_)
    have hP : va_P (dC, dI) vwCl ([(q_88, .inr (5, [.int (nI 0), .int (nI 0)]))]) H := hP
    have hD : va_D A ([(q_88, .inr (5, [.int (nI 0), .int (nI 0)]))]) := hD
    refine lv_dup hx hb dX11_newDenier_91 rfl ?_
    refine lv_iload_n hx hb dX11_newDenier_92 rfl (lv_at hl 0 rfl) ?_
    refine lv_iload_n hx hb dX11_newDenier_93 rfl (lv_at hl 1 rfl) ?_
    have hPc := hP
    have hDc := hD
    have hFc := va_free (wc := [(q_88, .inr (5, [.int (nI 0), .int (nI 0)]))]) hD hS hA [0] rfl
    refine va_callv (va_runI (As := [.int (nI 4), .int (nI f)]) (rest := [.ref q_88]) ⟨hx, hb, hml, hown, hts⟩ (c_X5_init_k4 l dC dI cI cD cR q_88 f H.size) (cwI 2 hts gX11_newDenier_X5_init rfl rfl rfl (hts (.initialized RX5) (by decide +kernel)) (hts (.methodLink RX11 288 yX5_init) (by decide +kernel)) (hts (.instanceMethod yX5_init) (by decide +kernel)) rfl (by decide +kernel) ⟨Nat.le_of_ble_eq_true rfl, Nat.le_of_ble_eq_true rfl⟩) (preS_R hCX ⟨rfl, hPc, hDc.weaken (fun _ _ _ _ => trivial)⟩) rfl rfl hl.1 rfl (lv_room (Nat.le_of_ble_eq_true rfl)) dX11_newDenier_94 ⟨by first | decide | exact Nat.le_of_ble_eq_true rfl | (dsimp only; omega), by first | decide | exact Nat.le_of_ble_eq_true rfl | (dsimp only; omega)⟩) hS (fun q _ h => hFc q h) hFc (fun u T8 H1 locs hT8 hvm hw hB hz1 hk1 hS => ?_)
    obtain ⟨hP1, hD1⟩ := hB
    rw [hT8] at hP1
    obtain ⟨hP, hD⟩ := va_join (wr := []) (w1 := [(q_88, dnE 4 f)]) hP hD [0] [] rfl rfl (by decide) (by decide) hk1 hFc hP1 hD1
    generalize H1 = H at hP hS ⊢
    have hP : va_P (dC, dI) vwCl ([(q_88, dnE 4 f)]) H := hP
    have hD : va_D A ([(q_88, dnE 4 f)]) := hD
    exact W.aret hx hb hr (Or.inl ⟨_, rfl⟩) (Or.inr ⟨_, rfl⟩) (fun T9 hT9 hW9 => ⟨⟨(), q_88, rfl, trivial, by rw [hT9]; exact hP, hD⟩, hS.F hT9⟩) hS.2.2 dX11_newDenier_97
  by_cases k_1_5 : k = 5
  · subst k_1_5
    refine lv_tableIn (tgt := 98) hx hb dX11_newDenier_1 (by decide +kernel) (by decide +kernel) (off := 97) (by decide +kernel) (by decide) ?_
    refine va_new (ci := 6) (fs := [.int (nI 0), .int (nI 0)]) (C := RX6) (T := TX6) (N := 2) hx hb hts (fun _ h => List.mem_cons_of_mem _ (List.mem_append_left _ (List.mem_append_left _ (List.mem_append_right _ h)))) tyX6 tyX6_ok hown (hts (.classLink RX11 289 RX6) (by decide +kernel)) (hts (.instantiable RX6 2) (by decide +kernel)) (hts (.initialized RX6) (by decide +kernel)) hK hP hD hS hA rfl (fun j hj => by rcases (show j = 0 ∨ j = 1 by omega) with rfl | rfl <;> rfl) (by first | decide | exact Nat.le_of_ble_eq_true rfl | (dsimp only; omega)) (by first | decide | exact Nat.le_of_ble_eq_true rfl | (dsimp only; omega)) dX11_newDenier_98 (fun q_98 H hP hD hS => ?_)
    have hP : va_P (dC, dI) vwCl ([(q_98, .inr (6, [.int (nI 0), .int (nI 0)]))]) H := hP
    have hD : va_D A ([(q_98, .inr (6, [.int (nI 0), .int (nI 0)]))]) := hD
    refine lv_dup hx hb dX11_newDenier_101 rfl ?_
    refine lv_iload_n hx hb dX11_newDenier_102 rfl (lv_at hl 0 rfl) ?_
    refine lv_iload_n hx hb dX11_newDenier_103 rfl (lv_at hl 1 rfl) ?_
    have hPc := hP
    have hDc := hD
    have hFc := va_free (wc := [(q_98, .inr (6, [.int (nI 0), .int (nI 0)]))]) hD hS hA [0] rfl
    refine va_callv (va_runI (As := [.int (nI 5), .int (nI f)]) (rest := [.ref q_98]) ⟨hx, hb, hml, hown, hts⟩ (c_X6_init_k5 l dC dI cI cD cR q_98 f H.size) (cwI 2 hts gX11_newDenier_X6_init rfl rfl rfl (hts (.initialized RX6) (by decide +kernel)) (hts (.methodLink RX11 291 yX6_init) (by decide +kernel)) (hts (.instanceMethod yX6_init) (by decide +kernel)) rfl (by decide +kernel) ⟨Nat.le_of_ble_eq_true rfl, Nat.le_of_ble_eq_true rfl⟩) (preS_R hCX ⟨rfl, hPc, hDc.weaken (fun _ _ _ _ => trivial)⟩) rfl rfl hl.1 rfl (lv_room (Nat.le_of_ble_eq_true rfl)) dX11_newDenier_104 ⟨by first | decide | exact Nat.le_of_ble_eq_true rfl | (dsimp only; omega), by first | decide | exact Nat.le_of_ble_eq_true rfl | (dsimp only; omega)⟩) hS (fun q _ h => hFc q h) hFc (fun u T8 H1 locs hT8 hvm hw hB hz1 hk1 hS => ?_)
    obtain ⟨hP1, hD1⟩ := hB
    rw [hT8] at hP1
    obtain ⟨hP, hD⟩ := va_join (wr := []) (w1 := [(q_98, dnE 5 f)]) hP hD [0] [] rfl rfl (by decide) (by decide) hk1 hFc hP1 hD1
    generalize H1 = H at hP hS ⊢
    have hP : va_P (dC, dI) vwCl ([(q_98, dnE 5 f)]) H := hP
    have hD : va_D A ([(q_98, dnE 5 f)]) := hD
    exact W.aret hx hb hr (Or.inl ⟨_, rfl⟩) (Or.inr ⟨_, rfl⟩) (fun T9 hT9 hW9 => ⟨⟨(), q_98, rfl, trivial, by rw [hT9]; exact hP, hD⟩, hS.F hT9⟩) hS.2.2 dX11_newDenier_107
  by_cases k_1_6 : k = 6
  · subst k_1_6
    refine lv_tableIn (tgt := 108) hx hb dX11_newDenier_1 (by decide +kernel) (by decide +kernel) (off := 107) (by decide +kernel) (by decide) ?_
    refine va_new (ci := 7) (fs := [.int (nI 0), .int (nI 0)]) (C := RX7) (T := TX7) (N := 2) hx hb hts (fun _ h => List.mem_cons_of_mem _ (List.mem_append_left _ (List.mem_append_right _ h))) tyX7 tyX7_ok hown (hts (.classLink RX11 292 RX7) (by decide +kernel)) (hts (.instantiable RX7 2) (by decide +kernel)) (hts (.initialized RX7) (by decide +kernel)) hK hP hD hS hA rfl (fun j hj => by rcases (show j = 0 ∨ j = 1 by omega) with rfl | rfl <;> rfl) (by first | decide | exact Nat.le_of_ble_eq_true rfl | (dsimp only; omega)) (by first | decide | exact Nat.le_of_ble_eq_true rfl | (dsimp only; omega)) dX11_newDenier_108 (fun q_108 H hP hD hS => ?_)
    have hP : va_P (dC, dI) vwCl ([(q_108, .inr (7, [.int (nI 0), .int (nI 0)]))]) H := hP
    have hD : va_D A ([(q_108, .inr (7, [.int (nI 0), .int (nI 0)]))]) := hD
    refine lv_dup hx hb dX11_newDenier_111 rfl ?_
    refine lv_iload_n hx hb dX11_newDenier_112 rfl (lv_at hl 0 rfl) ?_
    refine lv_iload_n hx hb dX11_newDenier_113 rfl (lv_at hl 1 rfl) ?_
    have hPc := hP
    have hDc := hD
    have hFc := va_free (wc := [(q_108, .inr (7, [.int (nI 0), .int (nI 0)]))]) hD hS hA [0] rfl
    refine va_callv (va_runI (As := [.int (nI 6), .int (nI f)]) (rest := [.ref q_108]) ⟨hx, hb, hml, hown, hts⟩ (c_X7_init_k6 l dC dI cI cD cR q_108 f H.size) (cwI 2 hts gX11_newDenier_X7_init rfl rfl rfl (hts (.initialized RX7) (by decide +kernel)) (hts (.methodLink RX11 294 yX7_init) (by decide +kernel)) (hts (.instanceMethod yX7_init) (by decide +kernel)) rfl (by decide +kernel) ⟨Nat.le_of_ble_eq_true rfl, Nat.le_of_ble_eq_true rfl⟩) (preS_R hCX ⟨rfl, hPc, hDc.weaken (fun _ _ _ _ => trivial)⟩) rfl rfl hl.1 rfl (lv_room (Nat.le_of_ble_eq_true rfl)) dX11_newDenier_114 ⟨by first | decide | exact Nat.le_of_ble_eq_true rfl | (dsimp only; omega), by first | decide | exact Nat.le_of_ble_eq_true rfl | (dsimp only; omega)⟩) hS (fun q _ h => hFc q h) hFc (fun u T8 H1 locs hT8 hvm hw hB hz1 hk1 hS => ?_)
    obtain ⟨hP1, hD1⟩ := hB
    rw [hT8] at hP1
    obtain ⟨hP, hD⟩ := va_join (wr := []) (w1 := [(q_108, dnE 6 f)]) hP hD [0] [] rfl rfl (by decide) (by decide) hk1 hFc hP1 hD1
    generalize H1 = H at hP hS ⊢
    have hP : va_P (dC, dI) vwCl ([(q_108, dnE 6 f)]) H := hP
    have hD : va_D A ([(q_108, dnE 6 f)]) := hD
    exact W.aret hx hb hr (Or.inl ⟨_, rfl⟩) (Or.inr ⟨_, rfl⟩) (fun T9 hT9 hW9 => ⟨⟨(), q_108, rfl, trivial, by rw [hT9]; exact hP, hD⟩, hS.F hT9⟩) hS.2.2 dX11_newDenier_117
  by_cases k_1_7 : k = 7
  · subst k_1_7
    refine lv_tableIn (tgt := 118) hx hb dX11_newDenier_1 (by decide +kernel) (by decide +kernel) (off := 117) (by decide +kernel) (by decide) ?_
    refine va_new (ci := 0) (fs := [.int (nI 0), .int (nI 0)]) (C := RX0) (T := TX0) (N := 2) hx hb hts (fun _ h => List.mem_cons_of_mem _ (List.mem_append_right _ h)) tyX0 tyX0_ok hown (hts (.classLink RX11 295 RX0) (by decide +kernel)) (hts (.instantiable RX0 2) (by decide +kernel)) (hts (.initialized RX0) (by decide +kernel)) hK hP hD hS hA rfl (fun j hj => by rcases (show j = 0 ∨ j = 1 by omega) with rfl | rfl <;> rfl) (by first | decide | exact Nat.le_of_ble_eq_true rfl | (dsimp only; omega)) (by first | decide | exact Nat.le_of_ble_eq_true rfl | (dsimp only; omega)) dX11_newDenier_118 (fun q_118 H hP hD hS => ?_)
    have hP : va_P (dC, dI) vwCl ([(q_118, .inr (0, [.int (nI 0), .int (nI 0)]))]) H := hP
    have hD : va_D A ([(q_118, .inr (0, [.int (nI 0), .int (nI 0)]))]) := hD
    refine lv_dup hx hb dX11_newDenier_121 rfl ?_
    refine lv_iload_n hx hb dX11_newDenier_122 rfl (lv_at hl 0 rfl) ?_
    refine lv_iload_n hx hb dX11_newDenier_123 rfl (lv_at hl 1 rfl) ?_
    have hPc := hP
    have hDc := hD
    have hFc := va_free (wc := [(q_118, .inr (0, [.int (nI 0), .int (nI 0)]))]) hD hS hA [0] rfl
    refine va_callv (va_runI (As := [.int (nI 7), .int (nI f)]) (rest := [.ref q_118]) ⟨hx, hb, hml, hown, hts⟩ (c_X0_init_k7 l dC dI cI cD cR q_118 f H.size) (cwI 2 hts gX11_newDenier_X0_init rfl rfl rfl (hts (.initialized RX0) (by decide +kernel)) (hts (.methodLink RX11 297 yX0_init) (by decide +kernel)) (hts (.instanceMethod yX0_init) (by decide +kernel)) rfl (by decide +kernel) ⟨Nat.le_of_ble_eq_true rfl, Nat.le_of_ble_eq_true rfl⟩) (preS_R hCX ⟨rfl, hPc, hDc.weaken (fun _ _ _ _ => trivial)⟩) rfl rfl hl.1 rfl (lv_room (Nat.le_of_ble_eq_true rfl)) dX11_newDenier_124 ⟨by first | decide | exact Nat.le_of_ble_eq_true rfl | (dsimp only; omega), by first | decide | exact Nat.le_of_ble_eq_true rfl | (dsimp only; omega)⟩) hS (fun q _ h => hFc q h) hFc (fun u T8 H1 locs hT8 hvm hw hB hz1 hk1 hS => ?_)
    obtain ⟨hP1, hD1⟩ := hB
    rw [hT8] at hP1
    obtain ⟨hP, hD⟩ := va_join (wr := []) (w1 := [(q_118, dnE 7 f)]) hP hD [0] [] rfl rfl (by decide) (by decide) hk1 hFc hP1 hD1
    generalize H1 = H at hP hS ⊢
    have hP : va_P (dC, dI) vwCl ([(q_118, dnE 7 f)]) H := hP
    have hD : va_D A ([(q_118, dnE 7 f)]) := hD
    exact W.aret hx hb hr (Or.inl ⟨_, rfl⟩) (Or.inr ⟨_, rfl⟩) (fun T9 hT9 hW9 => ⟨⟨(), q_118, rfl, trivial, by rw [hT9]; exact hP, hD⟩, hS.F hT9⟩) hS.2.2 dX11_newDenier_127
  exfalso; omega
set_option maxHeartbeats 4000000 in
set_option maxRecDepth 100000 in
theorem c_X11_newDenier_n (l : Launch) (dC : Nat → ClassId) (dI : Nat → Nat → Nat) (cI cD cR : ClassId) (k f : Nat) (hk : 8 ≤ k) (hk2 : k < 100) (hf : f < 10) : Met l yX11_newDenier wsX11_newDenier ({ frames := 0, cells := 0, slots := 0, locals := 0 }) (pcR dC dI cI cD cR [.int (nI k), .int (nI f)] (fun H => True)) (va_Sq (fun r => r = none)) 0 0 (fun _ => False) := by
  refine Met.ofW (cc := cX11_newDenier) (maxL := 2) (ret := (some (.object "HoldsOnceDenied$Denier"))) (by decide) rfl ?_
  intro p e s m args below meth c s₁ B hml hv
  obtain ⟨rfl, hH0, hCX⟩ := hv
  have hx := B.exec
  have hb := B.bytes
  have hr := B.returns
  have hts := atoms_spec (ws := wsX11_newDenier) B.pre
  have hown : s.vm.findClass RX11 = some m.cls := findClass_of_methodNamed B.named
  have hlocks := B.notSynchronized
  have hK := hCX.1
  have hl := lv_entry ([.int (nI k), .int (nI f)]) (n := 2) (Nat.le_of_ble_eq_true rfl)
  rw [lg_entry_eq]
  generalize (lg_sl ([.int (nI k), .int (nI f)]) ++ List.replicate (2 - (lg_sl ([.int (nI k), .int (nI f)])).length) Slot.unset).toArray = ls at hl ⊢
  have hl : lv_has ls 2 [(0, .int (nI k)), (1, .int (nI f))] := hl
  refine lv_iload_n hx hb dX11_newDenier_0 rfl (lv_at hl 0 rfl) ?_
  refine lv_tableOut (tgt := 128) hx hb dX11_newDenier_1 (by rw [nI_toInt (by omega)]; omega) (by decide) ?_
  refine lv_null hx hb dX11_newDenier_128 ?_
  exact W.aret hx hb hr (Or.inl ⟨_, rfl⟩) (Or.inl rfl) (fun T9 hT9 hW9 => ⟨none, rfl, (by rfl), hT9⟩) (fun q h => by cases h) dX11_newDenier_129
set_option maxHeartbeats 4000000 in
set_option maxRecDepth 100000 in
theorem c_X9_init (l : Launch) (dC : Nat → ClassId) (dI : Nat → Nat → Nat) (cI cD cR : ClassId) (h : Nat) (sz : Nat)  : Met l yX9_init wsX9_init ({ frames := 1, cells := 5, slots := 39, locals := 12 }) (pcO dC dI cI cD cR [.ref h] (fun H => H.size = sz ∧ va_P (dC, dI) vwCl ([(h, .inr (9, [.int (nI 0), .int (nI 0), .int (nI 0), .int (nI 0), .int (nI 0), .null, .null, .null, .null, .null]))]) H ∧ va_D (fun _ => True) ([(h, .inr (9, [.int (nI 0), .int (nI 0), .int (nI 0), .int (nI 0), .int (nI 0), .null, .null, .null, .null, .null]))]))) (va_Qv (fun (_ : Nat × Nat × Nat × Nat × Nat) => True) (fun (u9 : Nat × Nat × Nat × Nat × Nat) T9 => va_P (dC, dI) vwCl ((schW cI cD h u9.1 u9.2.1 u9.2.2.1 u9.2.2.2.1 u9.2.2.2.2 0 0 0 0 0 (fun _ => 0) (fun _ => 0) (fun _ => 0) (fun _ => 0) (fun _ => none))) T9.heap ∧ va_D (va_A ([(h, .inr (9, [.int (nI 0), .int (nI 0), .int (nI 0), .int (nI 0), .int (nI 0), .null, .null, .null, .null, .null]))]) sz) ((schW cI cD h u9.1 u9.2.1 u9.2.2.1 u9.2.2.2.1 u9.2.2.2.2 0 0 0 0 0 (fun _ => 0) (fun _ => 0) (fun _ => 0) (fun _ => 0) (fun _ => none)))) (va_A ([(h, .inr (9, [.int (nI 0), .int (nI 0), .int (nI 0), .int (nI 0), .int (nI 0), .null, .null, .null, .null, .null]))]) sz)) 5 39 (va_A ([(h, .inr (9, [.int (nI 0), .int (nI 0), .int (nI 0), .int (nI 0), .int (nI 0), .null, .null, .null, .null, .null]))]) sz) := by
  refine Met.ofW (cc := cX9_init) (maxL := 1) (ret := none) (by decide) rfl ?_
  intro p e s m args below meth c s₁ B hml hv
  obtain ⟨rfl, hH0, hCX, hAOd, hAOr⟩ := hv
  have hx := B.exec
  have hb := B.bytes
  have hr := B.returns
  have hts := atoms_spec (ws := wsX9_init) B.pre
  have hown : s.vm.findClass RX9 = some m.cls := findClass_of_methodNamed B.named
  have hlocks := B.notSynchronized
  have hin : meth.name = "<init>" := (name_of_methodNamed B.named B.method).1
  have hK := hCX.1
  obtain ⟨hsz, hP, hD0⟩ := hH0
  subst hsz
  have hD := hD0.self (sz := s.heap.size)
  generalize hAe : va_A ([(h, .inr (9, [.int (nI 0), .int (nI 0), .int (nI 0), .int (nI 0), .int (nI 0), .null, .null, .null, .null, .null]))]) s.heap.size = A at hD ⊢
  have hA : ∀ q : Nat, s.heap.size ≤ q → A q := fun q h => by rw [← hAe]; exact Or.inr h
  have hS : va_S A s.heap s.heap [] := va_S.rf
  have hP : va_P (dC, dI) vwCl ([(h, .inr (9, [.int (nI 0), .int (nI 0), .int (nI 0), .int (nI 0), .int (nI 0), .null, .null, .null, .null, .null]))]) s.heap := hP
  have hl := lv_entry ([.ref h]) (n := 1) (Nat.le_of_ble_eq_true rfl)
  rw [lg_entry_eq]
  generalize (lg_sl ([.ref h]) ++ List.replicate (1 - (lg_sl ([.ref h])).length) Slot.unset).toArray = ls at hl ⊢
  have hl : lv_has ls 1 [(0, .ref h)] := hl
  refine lv_aload_n hx hb dX9_init_0 rfl (lv_at hl 0 rfl) ?_
  refine W.objInit hx hb hown (hts (.methodLink RX9 3 objectInit) (by decide +kernel)) (hts (.instanceMethod objectInit) (by decide +kernel)) (hts (.code objectInit ⟨#[0xb1]⟩ 1 none) (by decide +kernel)) rfl (by rw [hml]; exact hl.1) rfl dX9_init_1 (Nat.le_of_ble_eq_true rfl) (Nat.le_of_ble_eq_true rfl) ?_
  refine W.eq (g2 := F0 m 4 ls []) rfl ?_
  refine lv_aload_n hx hb dX9_init_4 rfl (lv_at hl 0 rfl) ?_
  refine lv_bipush (v := nI 9) hx hb dX9_init_5 (by decide +kernel) ?_
  refine va_newa (atype := .int) (a0 := (9, .inl (nF (fun _ => 0)))) hx hb (hts (.arrayClass .int) (by decide +kernel)) rfl hK hP hD hS hA (fun c9 => rfl) (nI_pos (by omega)) (nI_clamp (by omega)) (Nat.le_of_ble_eq_true rfl) (by first | decide | exact Nat.le_of_ble_eq_true rfl | (dsimp only; omega)) (by first | decide | exact Nat.le_of_ble_eq_true rfl | (dsimp only; omega)) dX9_init_7 (fun q_7 c9 H hK9 hP hD hS => ?_)
  have e9 : c9 = cI := ho_cAi hK hK9
  rw [e9] at hP hD
  clear e9 hK9
  have hP : va_P (dC, dI) vwCl ([(h, .inr (9, [.int (nI 0), .int (nI 0), .int (nI 0), .int (nI 0), .int (nI 0), .null, .null, .null, .null, .null]))] ++ [(q_7, .inl (cI, 9, .inl (nF (fun _ => 0))))]) H := hP
  have hD : va_D A ([(h, .inr (9, [.int (nI 0), .int (nI 0), .int (nI 0), .int (nI 0), .int (nI 0), .null, .null, .null, .null, .null]))] ++ [(q_7, .inl (cI, 9, .inl (nF (fun _ => 0))))]) := hD
  refine va_putF (D := (dC, dI)) (ci := 9) (v := .ref q_7) (ty := tyX9 5) (C := RX9) (T := TX9) (N := 10) hx hb hts (fun _ h => List.mem_cons_of_mem _ (List.mem_append_right _ h)) tyX9 tyX9_ok nmX9 hown hK hP hD hS 0 rfl rfl 5 (by decide) (hts (.fieldLink RX9 9 "HoldsOnceDenied$School" "needs" "[I") (by decide +kernel)) (fun _ h9 => h9) rfl hin rfl (by decide +kernel) rfl rfl (Nat.le_of_ble_eq_true rfl) dX9_init_9 (fun H locs hP hD hS => ?_)
  have hP : va_P (dC, dI) vwCl ([(h, .inr (9, [.int (nI 0), .int (nI 0), .int (nI 0), .int (nI 0), .int (nI 0), .ref q_7, .null, .null, .null, .null]))] ++ [(q_7, .inl (cI, 9, .inl (nF (fun _ => 0))))]) H := hP
  have hD : va_D A ([(h, .inr (9, [.int (nI 0), .int (nI 0), .int (nI 0), .int (nI 0), .int (nI 0), .ref q_7, .null, .null, .null, .null]))] ++ [(q_7, .inl (cI, 9, .inl (nF (fun _ => 0))))]) := hD
  refine lv_aload_n hx hb dX9_init_12 rfl (lv_at hl 0 rfl) ?_
  refine lv_bipush (v := nI 9) hx hb dX9_init_13 (by decide +kernel) ?_
  refine va_newa (atype := .int) (a0 := (9, .inl ((fun _ => 0)))) hx hb (hts (.arrayClass .int) (by decide +kernel)) rfl hK hP hD hS hA (fun c9 => rfl) (nI_pos (by omega)) (nI_clamp (by omega)) (Nat.le_of_ble_eq_true rfl) (by first | decide | exact Nat.le_of_ble_eq_true rfl | (dsimp only; omega)) (by first | decide | exact Nat.le_of_ble_eq_true rfl | (dsimp only; omega)) dX9_init_15 (fun q_15 c9 H hK9 hP hD hS => ?_)
  have e9 : c9 = cI := ho_cAi hK hK9
  rw [e9] at hP hD
  clear e9 hK9
  have hP : va_P (dC, dI) vwCl ([(h, .inr (9, [.int (nI 0), .int (nI 0), .int (nI 0), .int (nI 0), .int (nI 0), .ref q_7, .null, .null, .null, .null]))] ++ [(q_7, .inl (cI, 9, .inl (nF (fun _ => 0))))] ++ [(q_15, .inl (cI, 9, .inl (fun _ => 0)))]) H := hP
  have hD : va_D A ([(h, .inr (9, [.int (nI 0), .int (nI 0), .int (nI 0), .int (nI 0), .int (nI 0), .ref q_7, .null, .null, .null, .null]))] ++ [(q_7, .inl (cI, 9, .inl (nF (fun _ => 0))))] ++ [(q_15, .inl (cI, 9, .inl (fun _ => 0)))]) := hD
  refine va_putF (D := (dC, dI)) (ci := 9) (v := .ref q_15) (ty := tyX9 6) (C := RX9) (T := TX9) (N := 10) hx hb hts (fun _ h => List.mem_cons_of_mem _ (List.mem_append_right _ h)) tyX9 tyX9_ok nmX9 hown hK hP hD hS 0 rfl rfl 6 (by decide) (hts (.fieldLink RX9 15 "HoldsOnceDenied$School" "makers" "[I") (by decide +kernel)) (fun _ h9 => h9) rfl hin rfl (by decide +kernel) rfl rfl (Nat.le_of_ble_eq_true rfl) dX9_init_17 (fun H locs hP hD hS => ?_)
  have hP : va_P (dC, dI) vwCl ([(h, .inr (9, [.int (nI 0), .int (nI 0), .int (nI 0), .int (nI 0), .int (nI 0), .ref q_7, .ref q_15, .null, .null, .null]))] ++ [(q_7, .inl (cI, 9, .inl (nF (fun _ => 0))))] ++ [(q_15, .inl (cI, 9, .inl (fun _ => 0)))]) H := hP
  have hD : va_D A ([(h, .inr (9, [.int (nI 0), .int (nI 0), .int (nI 0), .int (nI 0), .int (nI 0), .ref q_7, .ref q_15, .null, .null, .null]))] ++ [(q_7, .inl (cI, 9, .inl (nF (fun _ => 0))))] ++ [(q_15, .inl (cI, 9, .inl (fun _ => 0)))]) := hD
  refine lv_aload_n hx hb dX9_init_20 rfl (lv_at hl 0 rfl) ?_
  refine lv_bipush (v := nI 9) hx hb dX9_init_21 (by decide +kernel) ?_
  refine va_newa (atype := .int) (a0 := (9, .inl ((fun _ => 0)))) hx hb (hts (.arrayClass .int) (by decide +kernel)) rfl hK hP hD hS hA (fun c9 => rfl) (nI_pos (by omega)) (nI_clamp (by omega)) (Nat.le_of_ble_eq_true rfl) (by first | decide | exact Nat.le_of_ble_eq_true rfl | (dsimp only; omega)) (by first | decide | exact Nat.le_of_ble_eq_true rfl | (dsimp only; omega)) dX9_init_23 (fun q_23 c9 H hK9 hP hD hS => ?_)
  have e9 : c9 = cI := ho_cAi hK hK9
  rw [e9] at hP hD
  clear e9 hK9
  have hP : va_P (dC, dI) vwCl ([(h, .inr (9, [.int (nI 0), .int (nI 0), .int (nI 0), .int (nI 0), .int (nI 0), .ref q_7, .ref q_15, .null, .null, .null]))] ++ [(q_7, .inl (cI, 9, .inl (nF (fun _ => 0))))] ++ [(q_15, .inl (cI, 9, .inl (fun _ => 0)))] ++ [(q_23, .inl (cI, 9, .inl (fun _ => 0)))]) H := hP
  have hD : va_D A ([(h, .inr (9, [.int (nI 0), .int (nI 0), .int (nI 0), .int (nI 0), .int (nI 0), .ref q_7, .ref q_15, .null, .null, .null]))] ++ [(q_7, .inl (cI, 9, .inl (nF (fun _ => 0))))] ++ [(q_15, .inl (cI, 9, .inl (fun _ => 0)))] ++ [(q_23, .inl (cI, 9, .inl (fun _ => 0)))]) := hD
  refine va_putF (D := (dC, dI)) (ci := 9) (v := .ref q_23) (ty := tyX9 7) (C := RX9) (T := TX9) (N := 10) hx hb hts (fun _ h => List.mem_cons_of_mem _ (List.mem_append_right _ h)) tyX9 tyX9_ok nmX9 hown hK hP hD hS 0 rfl rfl 7 (by decide) (hts (.fieldLink RX9 18 "HoldsOnceDenied$School" "since" "[I") (by decide +kernel)) (fun _ h9 => h9) rfl hin rfl (by decide +kernel) rfl rfl (Nat.le_of_ble_eq_true rfl) dX9_init_25 (fun H locs hP hD hS => ?_)
  have hP : va_P (dC, dI) vwCl ([(h, .inr (9, [.int (nI 0), .int (nI 0), .int (nI 0), .int (nI 0), .int (nI 0), .ref q_7, .ref q_15, .ref q_23, .null, .null]))] ++ [(q_7, .inl (cI, 9, .inl (nF (fun _ => 0))))] ++ [(q_15, .inl (cI, 9, .inl (fun _ => 0)))] ++ [(q_23, .inl (cI, 9, .inl (fun _ => 0)))]) H := hP
  have hD : va_D A ([(h, .inr (9, [.int (nI 0), .int (nI 0), .int (nI 0), .int (nI 0), .int (nI 0), .ref q_7, .ref q_15, .ref q_23, .null, .null]))] ++ [(q_7, .inl (cI, 9, .inl (nF (fun _ => 0))))] ++ [(q_15, .inl (cI, 9, .inl (fun _ => 0)))] ++ [(q_23, .inl (cI, 9, .inl (fun _ => 0)))]) := hD
  refine lv_aload_n hx hb dX9_init_28 rfl (lv_at hl 0 rfl) ?_
  refine lv_bipush (v := nI 6) hx hb dX9_init_29 (by decide +kernel) ?_
  refine va_newa (atype := .int) (a0 := (6, .inl (nF (fun _ => 0)))) hx hb (hts (.arrayClass .int) (by decide +kernel)) rfl hK hP hD hS hA (fun c9 => rfl) (nI_pos (by omega)) (nI_clamp (by omega)) (Nat.le_of_ble_eq_true rfl) (by first | decide | exact Nat.le_of_ble_eq_true rfl | (dsimp only; omega)) (by first | decide | exact Nat.le_of_ble_eq_true rfl | (dsimp only; omega)) dX9_init_31 (fun q_31 c9 H hK9 hP hD hS => ?_)
  have e9 : c9 = cI := ho_cAi hK hK9
  rw [e9] at hP hD
  clear e9 hK9
  have hP : va_P (dC, dI) vwCl ([(h, .inr (9, [.int (nI 0), .int (nI 0), .int (nI 0), .int (nI 0), .int (nI 0), .ref q_7, .ref q_15, .ref q_23, .null, .null]))] ++ [(q_7, .inl (cI, 9, .inl (nF (fun _ => 0))))] ++ [(q_15, .inl (cI, 9, .inl (fun _ => 0)))] ++ [(q_23, .inl (cI, 9, .inl (fun _ => 0)))] ++ [(q_31, .inl (cI, 6, .inl (nF (fun _ => 0))))]) H := hP
  have hD : va_D A ([(h, .inr (9, [.int (nI 0), .int (nI 0), .int (nI 0), .int (nI 0), .int (nI 0), .ref q_7, .ref q_15, .ref q_23, .null, .null]))] ++ [(q_7, .inl (cI, 9, .inl (nF (fun _ => 0))))] ++ [(q_15, .inl (cI, 9, .inl (fun _ => 0)))] ++ [(q_23, .inl (cI, 9, .inl (fun _ => 0)))] ++ [(q_31, .inl (cI, 6, .inl (nF (fun _ => 0))))]) := hD
  refine va_putF (D := (dC, dI)) (ci := 9) (v := .ref q_31) (ty := tyX9 8) (C := RX9) (T := TX9) (N := 10) hx hb hts (fun _ h => List.mem_cons_of_mem _ (List.mem_append_right _ h)) tyX9 tyX9_ok nmX9 hown hK hP hD hS 0 rfl rfl 8 (by decide) (hts (.fieldLink RX9 21 "HoldsOnceDenied$School" "known" "[I") (by decide +kernel)) (fun _ h9 => h9) rfl hin rfl (by decide +kernel) rfl rfl (Nat.le_of_ble_eq_true rfl) dX9_init_33 (fun H locs hP hD hS => ?_)
  have hP : va_P (dC, dI) vwCl ([(h, .inr (9, [.int (nI 0), .int (nI 0), .int (nI 0), .int (nI 0), .int (nI 0), .ref q_7, .ref q_15, .ref q_23, .ref q_31, .null]))] ++ [(q_7, .inl (cI, 9, .inl (nF (fun _ => 0))))] ++ [(q_15, .inl (cI, 9, .inl (fun _ => 0)))] ++ [(q_23, .inl (cI, 9, .inl (fun _ => 0)))] ++ [(q_31, .inl (cI, 6, .inl (nF (fun _ => 0))))]) H := hP
  have hD : va_D A ([(h, .inr (9, [.int (nI 0), .int (nI 0), .int (nI 0), .int (nI 0), .int (nI 0), .ref q_7, .ref q_15, .ref q_23, .ref q_31, .null]))] ++ [(q_7, .inl (cI, 9, .inl (nF (fun _ => 0))))] ++ [(q_15, .inl (cI, 9, .inl (fun _ => 0)))] ++ [(q_23, .inl (cI, 9, .inl (fun _ => 0)))] ++ [(q_31, .inl (cI, 6, .inl (nF (fun _ => 0))))]) := hD
  refine lv_aload_n hx hb dX9_init_36 rfl (lv_at hl 0 rfl) ?_
  refine lv_bipush (v := nI 6) hx hb dX9_init_37 (by decide +kernel) ?_
  refine va_newq (N' := 6) hx hb hown (hts (.classLink RX9 24 RX2) (by decide +kernel)) hAOd hK hP hD hS hA (nI_pos (by omega)) (nI_clamp (by omega)) (Nat.le_of_ble_eq_true rfl) (by first | decide | exact Nat.le_of_ble_eq_true rfl | (dsimp only; omega)) (by first | decide | exact Nat.le_of_ble_eq_true rfl | (dsimp only; omega)) dX9_init_39 (fun q_39 c9 H hK9 hP hD hS => ?_)
  have e9 : c9 = cD := ho_cAd hK hK9
  rw [e9] at hP hD
  clear e9 hK9
  have hP : va_P (dC, dI) vwCl ([(h, .inr (9, [.int (nI 0), .int (nI 0), .int (nI 0), .int (nI 0), .int (nI 0), .ref q_7, .ref q_15, .ref q_23, .ref q_31, .null]))] ++ [(q_7, .inl (cI, 9, .inl (nF (fun _ => 0))))] ++ [(q_15, .inl (cI, 9, .inl (fun _ => 0)))] ++ [(q_23, .inl (cI, 9, .inl (fun _ => 0)))] ++ [(q_31, .inl (cI, 6, .inl (nF (fun _ => 0))))] ++ [(q_39, .inl (cD, 6, .inr (.inr (.inr (.inr (fun _ => none))))))]) H := hP
  have hD : va_D A ([(h, .inr (9, [.int (nI 0), .int (nI 0), .int (nI 0), .int (nI 0), .int (nI 0), .ref q_7, .ref q_15, .ref q_23, .ref q_31, .null]))] ++ [(q_7, .inl (cI, 9, .inl (nF (fun _ => 0))))] ++ [(q_15, .inl (cI, 9, .inl (fun _ => 0)))] ++ [(q_23, .inl (cI, 9, .inl (fun _ => 0)))] ++ [(q_31, .inl (cI, 6, .inl (nF (fun _ => 0))))] ++ [(q_39, .inl (cD, 6, .inr (.inr (.inr (.inr (fun _ => none))))))]) := hD
  refine va_putF (D := (dC, dI)) (ci := 9) (v := .ref q_39) (ty := tyX9 9) (C := RX9) (T := TX9) (N := 10) hx hb hts (fun _ h => List.mem_cons_of_mem _ (List.mem_append_right _ h)) tyX9 tyX9_ok nmX9 hown hK hP hD hS 0 rfl rfl 9 (by decide) (hts (.fieldLink RX9 26 "HoldsOnceDenied$School" "members" "[LHoldsOnceDenied$Denier;") (by decide +kernel)) (fun _ h9 => h9) rfl hin rfl (by decide +kernel) rfl rfl (Nat.le_of_ble_eq_true rfl) dX9_init_42 (fun H locs hP hD hS => ?_)
  have hP : va_P (dC, dI) vwCl ([(h, .inr (9, [.int (nI 0), .int (nI 0), .int (nI 0), .int (nI 0), .int (nI 0), .ref q_7, .ref q_15, .ref q_23, .ref q_31, .ref q_39]))] ++ [(q_7, .inl (cI, 9, .inl (nF (fun _ => 0))))] ++ [(q_15, .inl (cI, 9, .inl (fun _ => 0)))] ++ [(q_23, .inl (cI, 9, .inl (fun _ => 0)))] ++ [(q_31, .inl (cI, 6, .inl (nF (fun _ => 0))))] ++ [(q_39, .inl (cD, 6, .inr (.inr (.inr (.inr (fun _ => none))))))]) H := hP
  have hD : va_D A ([(h, .inr (9, [.int (nI 0), .int (nI 0), .int (nI 0), .int (nI 0), .int (nI 0), .ref q_7, .ref q_15, .ref q_23, .ref q_31, .ref q_39]))] ++ [(q_7, .inl (cI, 9, .inl (nF (fun _ => 0))))] ++ [(q_15, .inl (cI, 9, .inl (fun _ => 0)))] ++ [(q_23, .inl (cI, 9, .inl (fun _ => 0)))] ++ [(q_31, .inl (cI, 6, .inl (nF (fun _ => 0))))] ++ [(q_39, .inl (cD, 6, .inr (.inr (.inr (.inr (fun _ => none))))))]) := hD
  have hP : va_P (dC, dI) vwCl ((schW cI cD h q_7 q_15 q_23 q_31 q_39 0 0 0 0 0 (fun _ => 0) (fun _ => 0) (fun _ => 0) (fun _ => 0) (fun _ => none))) H := hP
  have hD : va_D A ((schW cI cD h q_7 q_15 q_23 q_31 q_39 0 0 0 0 0 (fun _ => 0) (fun _ => 0) (fun _ => 0) (fun _ => 0) (fun _ => none))) := hD
  refine W.widen (k := 5) (n := 39) (by first | decide | exact Nat.le_of_ble_eq_true rfl | (dsimp only; omega)) (by first | decide | exact Nat.le_of_ble_eq_true rfl | (dsimp only; omega)) ?_
  exact W.vret hx hb hr (fun T9 hT9 hW9 => ⟨⟨(q_7, q_15, q_23, q_31, q_39), rfl, trivial, by rw [hT9]; exact hP, hD⟩, hS.F hT9⟩) hS.2.2 dX9_init_45
set_option maxHeartbeats 4000000 in
set_option maxRecDepth 100000 in
theorem c_X4_init (l : Launch) (dC : Nat → ClassId) (dI : Nat → Nat → Nat) (cI cD cR : ClassId) (fo : Nat) (sz : Nat)  : Met l yX4_init wsX4_init ({ frames := 1, cells := 3, slots := 638, locals := 12 }) (pcR dC dI cI cD cR [.ref fo] (fun H => H.size = sz ∧ va_P (dC, dI) vwCl ([(fo, .inr (4, [.int (nI 0), .null, .null, .null]))]) H ∧ va_D (fun _ => True) ([(fo, .inr (4, [.int (nI 0), .null, .null, .null]))]))) (va_Qv (fun (_ : Nat × Nat × Nat) => True) (fun (u9 : Nat × Nat × Nat) T9 => va_P (dC, dI) vwCl ((forW cI fo u9.1 u9.2.1 u9.2.2 0 (fun _ => some 0) (fun _ => 0) (fun _ => some 0))) T9.heap ∧ va_D (va_A ([(fo, .inr (4, [.int (nI 0), .null, .null, .null]))]) sz) ((forW cI fo u9.1 u9.2.1 u9.2.2 0 (fun _ => some 0) (fun _ => 0) (fun _ => some 0)))) (va_A ([(fo, .inr (4, [.int (nI 0), .null, .null, .null]))]) sz)) 3 638 (va_A ([(fo, .inr (4, [.int (nI 0), .null, .null, .null]))]) sz) := by
  refine Met.ofW (cc := cX4_init) (maxL := 1) (ret := none) (by decide) rfl ?_
  intro p e s m args below meth c s₁ B hml hv
  obtain ⟨rfl, hH0, hCX⟩ := hv
  have hx := B.exec
  have hb := B.bytes
  have hr := B.returns
  have hts := atoms_spec (ws := wsX4_init) B.pre
  have hown : s.vm.findClass RX4 = some m.cls := findClass_of_methodNamed B.named
  have hlocks := B.notSynchronized
  have hin : meth.name = "<init>" := (name_of_methodNamed B.named B.method).1
  have hK := hCX.1
  obtain ⟨hsz, hP, hD0⟩ := hH0
  subst hsz
  have hD := hD0.self (sz := s.heap.size)
  generalize hAe : va_A ([(fo, .inr (4, [.int (nI 0), .null, .null, .null]))]) s.heap.size = A at hD ⊢
  have hA : ∀ q : Nat, s.heap.size ≤ q → A q := fun q h => by rw [← hAe]; exact Or.inr h
  have hS : va_S A s.heap s.heap [] := va_S.rf
  have hP : va_P (dC, dI) vwCl ([(fo, .inr (4, [.int (nI 0), .null, .null, .null]))]) s.heap := hP
  have hl := lv_entry ([.ref fo]) (n := 1) (Nat.le_of_ble_eq_true rfl)
  rw [lg_entry_eq]
  generalize (lg_sl ([.ref fo]) ++ List.replicate (1 - (lg_sl ([.ref fo])).length) Slot.unset).toArray = ls at hl ⊢
  have hl : lv_has ls 1 [(0, .ref fo)] := hl
  refine lv_aload_n hx hb dX4_init_0 rfl (lv_at hl 0 rfl) ?_
  refine W.objInit hx hb hown (hts (.methodLink RX4 3 objectInit) (by decide +kernel)) (hts (.instanceMethod objectInit) (by decide +kernel)) (hts (.code objectInit ⟨#[0xb1]⟩ 1 none) (by decide +kernel)) rfl (by rw [hml]; exact hl.1) rfl dX4_init_1 (Nat.le_of_ble_eq_true rfl) (Nat.le_of_ble_eq_true rfl) ?_
  refine W.eq (g2 := F0 m 4 ls []) rfl ?_
  refine lv_aload_n hx hb dX4_init_4 rfl (lv_at hl 0 rfl) ?_
  refine lv_bipush (v := nI 63) hx hb dX4_init_5 (by decide +kernel) ?_
  refine va_newa (atype := .int) (a0 := (63, .inl (oMF (fun _ => some 0)))) hx hb (hts (.arrayClass .int) (by decide +kernel)) rfl hK hP hD hS hA (fun c9 => rfl) (nI_pos (by omega)) (nI_clamp (by omega)) (Nat.le_of_ble_eq_true rfl) (by first | decide | exact Nat.le_of_ble_eq_true rfl | (dsimp only; omega)) (by first | decide | exact Nat.le_of_ble_eq_true rfl | (dsimp only; omega)) dX4_init_7 (fun q_7 c9 H hK9 hP hD hS => ?_)
  have e9 : c9 = cI := ho_cAi hK hK9
  rw [e9] at hP hD
  clear e9 hK9
  have hP : va_P (dC, dI) vwCl ([(fo, .inr (4, [.int (nI 0), .null, .null, .null]))] ++ [(q_7, .inl (cI, 63, .inl (oMF (fun _ => some 0))))]) H := hP
  have hD : va_D A ([(fo, .inr (4, [.int (nI 0), .null, .null, .null]))] ++ [(q_7, .inl (cI, 63, .inl (oMF (fun _ => some 0))))]) := hD
  refine va_putF (D := (dC, dI)) (ci := 4) (v := .ref q_7) (ty := tyX4 1) (C := RX4) (T := TX4) (N := 4) hx hb hts (fun _ h => List.mem_cons_of_mem _ (List.mem_append_right _ h)) tyX4 tyX4_ok nmX4 hown hK hP hD hS 0 rfl rfl 1 (by decide) (hts (.fieldLink RX4 11 "HoldsOnceDenied$Foresight" "lacks" "[I") (by decide +kernel)) (fun _ h9 => h9) rfl hin rfl (by decide +kernel) rfl rfl (Nat.le_of_ble_eq_true rfl) dX4_init_9 (fun H locs hP hD hS => ?_)
  have hP : va_P (dC, dI) vwCl ([(fo, .inr (4, [.int (nI 0), .ref q_7, .null, .null]))] ++ [(q_7, .inl (cI, 63, .inl (oMF (fun _ => some 0))))]) H := hP
  have hD : va_D A ([(fo, .inr (4, [.int (nI 0), .ref q_7, .null, .null]))] ++ [(q_7, .inl (cI, 63, .inl (oMF (fun _ => some 0))))]) := hD
  refine lv_aload_n hx hb dX4_init_12 rfl (lv_at hl 0 rfl) ?_
  refine lv_bipush (v := nI 63) hx hb dX4_init_13 (by decide +kernel) ?_
  refine va_newa (atype := .int) (a0 := (63, .inl (nF (fun _ => 0)))) hx hb (hts (.arrayClass .int) (by decide +kernel)) rfl hK hP hD hS hA (fun c9 => rfl) (nI_pos (by omega)) (nI_clamp (by omega)) (Nat.le_of_ble_eq_true rfl) (by first | decide | exact Nat.le_of_ble_eq_true rfl | (dsimp only; omega)) (by first | decide | exact Nat.le_of_ble_eq_true rfl | (dsimp only; omega)) dX4_init_15 (fun q_15 c9 H hK9 hP hD hS => ?_)
  have e9 : c9 = cI := ho_cAi hK hK9
  rw [e9] at hP hD
  clear e9 hK9
  have hP : va_P (dC, dI) vwCl ([(fo, .inr (4, [.int (nI 0), .ref q_7, .null, .null]))] ++ [(q_7, .inl (cI, 63, .inl (oMF (fun _ => some 0))))] ++ [(q_15, .inl (cI, 63, .inl (nF (fun _ => 0))))]) H := hP
  have hD : va_D A ([(fo, .inr (4, [.int (nI 0), .ref q_7, .null, .null]))] ++ [(q_7, .inl (cI, 63, .inl (oMF (fun _ => some 0))))] ++ [(q_15, .inl (cI, 63, .inl (nF (fun _ => 0))))]) := hD
  refine va_putF (D := (dC, dI)) (ci := 4) (v := .ref q_15) (ty := tyX4 2) (C := RX4) (T := TX4) (N := 4) hx hb hts (fun _ h => List.mem_cons_of_mem _ (List.mem_append_right _ h)) tyX4 tyX4_ok nmX4 hown hK hP hD hS 0 rfl rfl 2 (by decide) (hts (.fieldLink RX4 15 "HoldsOnceDenied$Foresight" "efforts" "[I") (by decide +kernel)) (fun _ h9 => h9) rfl hin rfl (by decide +kernel) rfl rfl (Nat.le_of_ble_eq_true rfl) dX4_init_17 (fun H locs hP hD hS => ?_)
  have hP : va_P (dC, dI) vwCl ([(fo, .inr (4, [.int (nI 0), .ref q_7, .ref q_15, .null]))] ++ [(q_7, .inl (cI, 63, .inl (oMF (fun _ => some 0))))] ++ [(q_15, .inl (cI, 63, .inl (nF (fun _ => 0))))]) H := hP
  have hD : va_D A ([(fo, .inr (4, [.int (nI 0), .ref q_7, .ref q_15, .null]))] ++ [(q_7, .inl (cI, 63, .inl (oMF (fun _ => some 0))))] ++ [(q_15, .inl (cI, 63, .inl (nF (fun _ => 0))))]) := hD
  refine lv_aload_n hx hb dX4_init_20 rfl (lv_at hl 0 rfl) ?_
  refine lv_sipush (v := nI 512) hx hb dX4_init_21 (by decide +kernel) ?_
  refine va_newa (atype := .int) (a0 := (512, .inl (oF (fun _ => some 0)))) hx hb (hts (.arrayClass .int) (by decide +kernel)) rfl hK hP hD hS hA (fun c9 => rfl) (nI_pos (by omega)) (nI_clamp (by omega)) (Nat.le_of_ble_eq_true rfl) (by first | decide | exact Nat.le_of_ble_eq_true rfl | (dsimp only; omega)) (by first | decide | exact Nat.le_of_ble_eq_true rfl | (dsimp only; omega)) dX4_init_24 (fun q_24 c9 H hK9 hP hD hS => ?_)
  have e9 : c9 = cI := ho_cAi hK hK9
  rw [e9] at hP hD
  clear e9 hK9
  have hP : va_P (dC, dI) vwCl ([(fo, .inr (4, [.int (nI 0), .ref q_7, .ref q_15, .null]))] ++ [(q_7, .inl (cI, 63, .inl (oMF (fun _ => some 0))))] ++ [(q_15, .inl (cI, 63, .inl (nF (fun _ => 0))))] ++ [(q_24, .inl (cI, 512, .inl (oF (fun _ => some 0))))]) H := hP
  have hD : va_D A ([(fo, .inr (4, [.int (nI 0), .ref q_7, .ref q_15, .null]))] ++ [(q_7, .inl (cI, 63, .inl (oMF (fun _ => some 0))))] ++ [(q_15, .inl (cI, 63, .inl (nF (fun _ => 0))))] ++ [(q_24, .inl (cI, 512, .inl (oF (fun _ => some 0))))]) := hD
  refine va_putF (D := (dC, dI)) (ci := 4) (v := .ref q_24) (ty := tyX4 3) (C := RX4) (T := TX4) (N := 4) hx hb hts (fun _ h => List.mem_cons_of_mem _ (List.mem_append_right _ h)) tyX4 tyX4_ok nmX4 hown hK hP hD hS 0 rfl rfl 3 (by decide) (hts (.fieldLink RX4 18 "HoldsOnceDenied$Foresight" "least" "[I") (by decide +kernel)) (fun _ h9 => h9) rfl hin rfl (by decide +kernel) rfl rfl (Nat.le_of_ble_eq_true rfl) dX4_init_26 (fun H locs hP hD hS => ?_)
  have hP : va_P (dC, dI) vwCl ([(fo, .inr (4, [.int (nI 0), .ref q_7, .ref q_15, .ref q_24]))] ++ [(q_7, .inl (cI, 63, .inl (oMF (fun _ => some 0))))] ++ [(q_15, .inl (cI, 63, .inl (nF (fun _ => 0))))] ++ [(q_24, .inl (cI, 512, .inl (oF (fun _ => some 0))))]) H := hP
  have hD : va_D A ([(fo, .inr (4, [.int (nI 0), .ref q_7, .ref q_15, .ref q_24]))] ++ [(q_7, .inl (cI, 63, .inl (oMF (fun _ => some 0))))] ++ [(q_15, .inl (cI, 63, .inl (nF (fun _ => 0))))] ++ [(q_24, .inl (cI, 512, .inl (oF (fun _ => some 0))))]) := hD
  have hP : va_P (dC, dI) vwCl ((forW cI fo q_7 q_15 q_24 0 (fun _ => some 0) (fun _ => 0) (fun _ => some 0))) H := hP
  have hD : va_D A ((forW cI fo q_7 q_15 q_24 0 (fun _ => some 0) (fun _ => 0) (fun _ => some 0))) := hD
  refine W.widen (k := 3) (n := 638) (by first | decide | exact Nat.le_of_ble_eq_true rfl | (dsimp only; omega)) (by first | decide | exact Nat.le_of_ble_eq_true rfl | (dsimp only; omega)) ?_
  exact W.vret hx hb hr (fun T9 hT9 hW9 => ⟨⟨(q_7, q_15, q_24), rfl, trivial, by rw [hT9]; exact hP, hD⟩, hS.F hT9⟩) hS.2.2 dX4_init_29
set_option maxHeartbeats 4000000 in
set_option maxRecDepth 100000 in
theorem c_X11_init (l : Launch) (dC : Nat → ClassId) (dI : Nat → Nat → Nat) (cI cD cR : ClassId) (x : Nat) (sz : Nat)  : Met l yX11_init wsX11_init ({ frames := 2, cells := 24, slots := 805, locals := 32 }) (pcO dC dI cI cD cR [.ref x] (fun H => H.size = sz ∧ va_P (dC, dI) vwCl ([(x, .inr (11, [.null, .null, .null, .int (bI false), .null, .null, .null]))]) H ∧ va_D (fun _ => True) ([(x, .inr (11, [.null, .null, .null, .int (bI false), .null, .null, .null]))]))) (va_Qv (fun (_ : Nat × Nat × Nat × Nat × Nat × Nat × Nat × Nat × Nat × Nat × Nat × Nat × Nat × Nat × Nat × Nat × Nat × Nat × Nat × Nat × Nat × Nat × Nat × Nat) => True) (fun (u9 : Nat × Nat × Nat × Nat × Nat × Nat × Nat × Nat × Nat × Nat × Nat × Nat × Nat × Nat × Nat × Nat × Nat × Nat × Nat × Nat × Nat × Nat × Nat × Nat) T9 => va_P (dC, dI) vwCl ([(x, .inr (11, [.ref u9.1, .ref u9.2.1, .ref u9.2.2.1, .int (bI false), .ref u9.2.2.2.1, .ref u9.2.2.2.2.1, .ref u9.2.2.2.2.2.1]))] ++ (schW cI cD u9.1 u9.2.2.2.2.2.2.1 u9.2.2.2.2.2.2.2.1 u9.2.2.2.2.2.2.2.2.1 u9.2.2.2.2.2.2.2.2.2.1 u9.2.2.2.2.2.2.2.2.2.2.1 0 0 0 0 0 (fun _ => 0) (fun _ => 0) (fun _ => 0) (fun _ => 0) (fun _ => none)) ++ (schW cI cD u9.2.1 u9.2.2.2.2.2.2.2.2.2.2.2.1 u9.2.2.2.2.2.2.2.2.2.2.2.2.1 u9.2.2.2.2.2.2.2.2.2.2.2.2.2.1 u9.2.2.2.2.2.2.2.2.2.2.2.2.2.2.1 u9.2.2.2.2.2.2.2.2.2.2.2.2.2.2.2.1 0 0 0 0 0 (fun _ => 0) (fun _ => 0) (fun _ => 0) (fun _ => 0) (fun _ => none)) ++ (schW cI cD u9.2.2.1 u9.2.2.2.2.2.2.2.2.2.2.2.2.2.2.2.2.1 u9.2.2.2.2.2.2.2.2.2.2.2.2.2.2.2.2.2.1 u9.2.2.2.2.2.2.2.2.2.2.2.2.2.2.2.2.2.2.1 u9.2.2.2.2.2.2.2.2.2.2.2.2.2.2.2.2.2.2.2.1 u9.2.2.2.2.2.2.2.2.2.2.2.2.2.2.2.2.2.2.2.2.1 0 0 0 0 0 (fun _ => 0) (fun _ => 0) (fun _ => 0) (fun _ => 0) (fun _ => none)) ++ (forW cI u9.2.2.2.1 u9.2.2.2.2.2.2.2.2.2.2.2.2.2.2.2.2.2.2.2.2.2.1 u9.2.2.2.2.2.2.2.2.2.2.2.2.2.2.2.2.2.2.2.2.2.2.1 u9.2.2.2.2.2.2.2.2.2.2.2.2.2.2.2.2.2.2.2.2.2.2.2 0 (fun _ => some 0) (fun _ => 0) (fun _ => some 0)) ++ [(u9.2.2.2.2.1, .inl (cD, 8, .inr (.inr (.inr (.inr (fun _ => none))))))] ++ [(u9.2.2.2.2.2.1, .inl (cR, 8, .inr (.inr (.inr (.inr (fun _ => none))))))]) T9.heap ∧ va_D (va_A ([(x, .inr (11, [.null, .null, .null, .int (bI false), .null, .null, .null]))]) sz) ([(x, .inr (11, [.ref u9.1, .ref u9.2.1, .ref u9.2.2.1, .int (bI false), .ref u9.2.2.2.1, .ref u9.2.2.2.2.1, .ref u9.2.2.2.2.2.1]))] ++ (schW cI cD u9.1 u9.2.2.2.2.2.2.1 u9.2.2.2.2.2.2.2.1 u9.2.2.2.2.2.2.2.2.1 u9.2.2.2.2.2.2.2.2.2.1 u9.2.2.2.2.2.2.2.2.2.2.1 0 0 0 0 0 (fun _ => 0) (fun _ => 0) (fun _ => 0) (fun _ => 0) (fun _ => none)) ++ (schW cI cD u9.2.1 u9.2.2.2.2.2.2.2.2.2.2.2.1 u9.2.2.2.2.2.2.2.2.2.2.2.2.1 u9.2.2.2.2.2.2.2.2.2.2.2.2.2.1 u9.2.2.2.2.2.2.2.2.2.2.2.2.2.2.1 u9.2.2.2.2.2.2.2.2.2.2.2.2.2.2.2.1 0 0 0 0 0 (fun _ => 0) (fun _ => 0) (fun _ => 0) (fun _ => 0) (fun _ => none)) ++ (schW cI cD u9.2.2.1 u9.2.2.2.2.2.2.2.2.2.2.2.2.2.2.2.2.1 u9.2.2.2.2.2.2.2.2.2.2.2.2.2.2.2.2.2.1 u9.2.2.2.2.2.2.2.2.2.2.2.2.2.2.2.2.2.2.1 u9.2.2.2.2.2.2.2.2.2.2.2.2.2.2.2.2.2.2.2.1 u9.2.2.2.2.2.2.2.2.2.2.2.2.2.2.2.2.2.2.2.2.1 0 0 0 0 0 (fun _ => 0) (fun _ => 0) (fun _ => 0) (fun _ => 0) (fun _ => none)) ++ (forW cI u9.2.2.2.1 u9.2.2.2.2.2.2.2.2.2.2.2.2.2.2.2.2.2.2.2.2.2.1 u9.2.2.2.2.2.2.2.2.2.2.2.2.2.2.2.2.2.2.2.2.2.2.1 u9.2.2.2.2.2.2.2.2.2.2.2.2.2.2.2.2.2.2.2.2.2.2.2 0 (fun _ => some 0) (fun _ => 0) (fun _ => some 0)) ++ [(u9.2.2.2.2.1, .inl (cD, 8, .inr (.inr (.inr (.inr (fun _ => none))))))] ++ [(u9.2.2.2.2.2.1, .inl (cR, 8, .inr (.inr (.inr (.inr (fun _ => none))))))])) (va_A ([(x, .inr (11, [.null, .null, .null, .int (bI false), .null, .null, .null]))]) sz)) 24 805 (va_A ([(x, .inr (11, [.null, .null, .null, .int (bI false), .null, .null, .null]))]) sz) := by
  refine Met.ofW (cc := cX11_init) (maxL := 1) (ret := none) (by decide) rfl ?_
  intro p e s m args below meth c s₁ B hml hv
  obtain ⟨rfl, hH0, hCX, hAOd, hAOr⟩ := hv
  have hx := B.exec
  have hb := B.bytes
  have hr := B.returns
  have hts := atoms_spec (ws := wsX11_init) B.pre
  have hown : s.vm.findClass RX11 = some m.cls := findClass_of_methodNamed B.named
  have hlocks := B.notSynchronized
  have hin : meth.name = "<init>" := (name_of_methodNamed B.named B.method).1
  have hK := hCX.1
  obtain ⟨hsz, hP, hD0⟩ := hH0
  subst hsz
  have hD := hD0.self (sz := s.heap.size)
  generalize hAe : va_A ([(x, .inr (11, [.null, .null, .null, .int (bI false), .null, .null, .null]))]) s.heap.size = A at hD ⊢
  have hA : ∀ q : Nat, s.heap.size ≤ q → A q := fun q h => by rw [← hAe]; exact Or.inr h
  have hS : va_S A s.heap s.heap [] := va_S.rf
  have hP : va_P (dC, dI) vwCl ([(x, .inr (11, [.null, .null, .null, .int (bI false), .null, .null, .null]))]) s.heap := hP
  have hl := lv_entry ([.ref x]) (n := 1) (Nat.le_of_ble_eq_true rfl)
  rw [lg_entry_eq]
  generalize (lg_sl ([.ref x]) ++ List.replicate (1 - (lg_sl ([.ref x])).length) Slot.unset).toArray = ls at hl ⊢
  have hl : lv_has ls 1 [(0, .ref x)] := hl
  refine lv_aload_n hx hb dX11_init_0 rfl (lv_at hl 0 rfl) ?_
  refine W.objInit hx hb hown (hts (.methodLink RX11 1 objectInit) (by decide +kernel)) (hts (.instanceMethod objectInit) (by decide +kernel)) (hts (.code objectInit ⟨#[0xb1]⟩ 1 none) (by decide +kernel)) rfl (by rw [hml]; exact hl.1) rfl dX11_init_1 (Nat.le_of_ble_eq_true rfl) (Nat.le_of_ble_eq_true rfl) ?_
  refine W.eq (g2 := F0 m 4 ls []) rfl ?_
  refine lv_aload_n hx hb dX11_init_4 rfl (lv_at hl 0 rfl) ?_
  refine va_new (ci := 9) (fs := [.int (nI 0), .int (nI 0), .int (nI 0), .int (nI 0), .int (nI 0), .null, .null, .null, .null, .null]) (C := RX9) (T := TX9) (N := 10) hx hb hts (fun _ h => List.mem_cons_of_mem _ (List.mem_append_left _ (List.mem_append_left _ (List.mem_append_right _ h)))) tyX9 tyX9_ok hown (hts (.classLink RX11 7 RX9) (by decide +kernel)) (hts (.instantiable RX9 10) (by decide +kernel)) (hts (.initialized RX9) (by decide +kernel)) hK hP hD hS hA rfl (fun j hj => by rcases (show j = 0 ∨ j = 1 ∨ j = 2 ∨ j = 3 ∨ j = 4 ∨ j = 5 ∨ j = 6 ∨ j = 7 ∨ j = 8 ∨ j = 9 by omega) with rfl | rfl | rfl | rfl | rfl | rfl | rfl | rfl | rfl | rfl <;> rfl) (by first | decide | exact Nat.le_of_ble_eq_true rfl | (dsimp only; omega)) (by first | decide | exact Nat.le_of_ble_eq_true rfl | (dsimp only; omega)) dX11_init_5 (fun q_5 H hP hD hS => ?_)
  have hP : va_P (dC, dI) vwCl ([(x, .inr (11, [.null, .null, .null, .int (bI false), .null, .null, .null]))] ++ [(q_5, .inr (9, [.int (nI 0), .int (nI 0), .int (nI 0), .int (nI 0), .int (nI 0), .null, .null, .null, .null, .null]))]) H := hP
  have hD : va_D A ([(x, .inr (11, [.null, .null, .null, .int (bI false), .null, .null, .null]))] ++ [(q_5, .inr (9, [.int (nI 0), .int (nI 0), .int (nI 0), .int (nI 0), .int (nI 0), .null, .null, .null, .null, .null]))]) := hD
  refine lv_dup hx hb dX11_init_8 rfl ?_
  have hPc := hP.sub (ws' := [(q_5, .inr (9, [.int (nI 0), .int (nI 0), .int (nI 0), .int (nI 0), .int (nI 0), .null, .null, .null, .null, .null]))]) [1] rfl
  have hDc := hD.sub (ws' := [(q_5, .inr (9, [.int (nI 0), .int (nI 0), .int (nI 0), .int (nI 0), .int (nI 0), .null, .null, .null, .null, .null]))]) [1] (by decide) rfl
  have hFc := va_free (wc := [(q_5, .inr (9, [.int (nI 0), .int (nI 0), .int (nI 0), .int (nI 0), .int (nI 0), .null, .null, .null, .null, .null]))]) hD hS hA [1] rfl
  refine va_callv (va_runIN (As := []) (rest := [.ref q_5, .ref x]) ⟨hx, hb, hml, hown, hts⟩ (c_X9_init l dC dI cI cD cR q_5 H.size) ⟨va_cnB (host := "HoldsOnceDenied") 0 hts gX11_init_X9_init_n9 rfl rfl rfl (CX.nm hCX 0 rfl) (hts (.initialized RX9) (by decide +kernel)) (by decide +kernel) ⟨Nat.le_of_ble_eq_true rfl, Nat.le_of_ble_eq_true rfl⟩, rfl, (hts (.instanceMethod yX9_init) (by decide +kernel))⟩ (preO_R hCX hAOd hAOr ⟨rfl, hPc, hDc.weaken (fun _ _ _ _ => trivial)⟩) rfl rfl hl.1 rfl (lv_room (Nat.le_of_ble_eq_true rfl)) dX11_init_9 ⟨(by first | decide | exact Nat.le_of_ble_eq_true rfl | (dsimp only; omega)), (by first | decide | exact Nat.le_of_ble_eq_true rfl | (dsimp only; omega))⟩) hS (fun q _ h => hFc q h) hFc (fun u T8 H1 locs hT8 hvm hw hB hz1 hk1 hS => ?_)
  obtain ⟨a1_9, a2_9, a3_9, a4_9, a5_9⟩ := u
  obtain ⟨hP1, hD1⟩ := hB
  rw [hT8] at hP1
  have hP1 : va_P (dC, dI) vwCl ((schW cI cD q_5 a1_9 a2_9 a3_9 a4_9 a5_9 0 0 0 0 0 (fun _ => 0) (fun _ => 0) (fun _ => 0) (fun _ => 0) (fun _ => none))) H1 := hP1
  obtain ⟨hP, hD⟩ := va_join (wr := [(x, .inr (11, [.null, .null, .null, .int (bI false), .null, .null, .null]))]) (w1 := (schW cI cD q_5 a1_9 a2_9 a3_9 a4_9 a5_9 0 0 0 0 0 (fun _ => 0) (fun _ => 0) (fun _ => 0) (fun _ => 0) (fun _ => none))) hP hD [1] [0] rfl rfl (by decide) (by decide) hk1 hFc hP1 hD1
  generalize H1 = H at hP hS ⊢
  have hP : va_P (dC, dI) vwCl ([(x, .inr (11, [.null, .null, .null, .int (bI false), .null, .null, .null]))] ++ (schW cI cD q_5 a1_9 a2_9 a3_9 a4_9 a5_9 0 0 0 0 0 (fun _ => 0) (fun _ => 0) (fun _ => 0) (fun _ => 0) (fun _ => none))) H := hP
  have hD : va_D A ([(x, .inr (11, [.null, .null, .null, .int (bI false), .null, .null, .null]))] ++ (schW cI cD q_5 a1_9 a2_9 a3_9 a4_9 a5_9 0 0 0 0 0 (fun _ => 0) (fun _ => 0) (fun _ => 0) (fun _ => 0) (fun _ => none))) := hD
  refine va_putF (D := (dC, dI)) (ci := 11) (v := .ref q_5) (ty := tyX11 0) (C := RX11) (T := TX11) (N := 7) hx hb hts (fun _ h => List.mem_cons_of_mem _ (List.mem_append_left _ (List.mem_append_right _ h))) tyX11 tyX11_ok nmX11 hown hK hP hD hS 0 rfl rfl 0 (by decide) (hts (.fieldLink RX11 10 "HoldsOnceDenied" "now" "LHoldsOnceDenied$School;") (by decide +kernel)) (fun _ h9 => h9) rfl hin rfl (by decide +kernel) rfl rfl (Nat.le_of_ble_eq_true rfl) dX11_init_12 (fun H locs hP hD hS => ?_)
  have hP : va_P (dC, dI) vwCl ([(x, .inr (11, [.ref q_5, .null, .null, .int (bI false), .null, .null, .null]))] ++ (schW cI cD q_5 a1_9 a2_9 a3_9 a4_9 a5_9 0 0 0 0 0 (fun _ => 0) (fun _ => 0) (fun _ => 0) (fun _ => 0) (fun _ => none))) H := hP
  have hD : va_D A ([(x, .inr (11, [.ref q_5, .null, .null, .int (bI false), .null, .null, .null]))] ++ (schW cI cD q_5 a1_9 a2_9 a3_9 a4_9 a5_9 0 0 0 0 0 (fun _ => 0) (fun _ => 0) (fun _ => 0) (fun _ => 0) (fun _ => none))) := hD
  refine lv_aload_n hx hb dX11_init_15 rfl (lv_at hl 0 rfl) ?_
  refine va_new (ci := 9) (fs := [.int (nI 0), .int (nI 0), .int (nI 0), .int (nI 0), .int (nI 0), .null, .null, .null, .null, .null]) (C := RX9) (T := TX9) (N := 10) hx hb hts (fun _ h => List.mem_cons_of_mem _ (List.mem_append_left _ (List.mem_append_left _ (List.mem_append_right _ h)))) tyX9 tyX9_ok hown (hts (.classLink RX11 7 RX9) (by decide +kernel)) (hts (.instantiable RX9 10) (by decide +kernel)) (hts (.initialized RX9) (by decide +kernel)) hK hP hD hS hA rfl (fun j hj => by rcases (show j = 0 ∨ j = 1 ∨ j = 2 ∨ j = 3 ∨ j = 4 ∨ j = 5 ∨ j = 6 ∨ j = 7 ∨ j = 8 ∨ j = 9 by omega) with rfl | rfl | rfl | rfl | rfl | rfl | rfl | rfl | rfl | rfl <;> rfl) (by first | decide | exact Nat.le_of_ble_eq_true rfl | (dsimp only; omega)) (by first | decide | exact Nat.le_of_ble_eq_true rfl | (dsimp only; omega)) dX11_init_16 (fun q_16 H hP hD hS => ?_)
  have hP : va_P (dC, dI) vwCl ([(x, .inr (11, [.ref q_5, .null, .null, .int (bI false), .null, .null, .null]))] ++ (schW cI cD q_5 a1_9 a2_9 a3_9 a4_9 a5_9 0 0 0 0 0 (fun _ => 0) (fun _ => 0) (fun _ => 0) (fun _ => 0) (fun _ => none)) ++ [(q_16, .inr (9, [.int (nI 0), .int (nI 0), .int (nI 0), .int (nI 0), .int (nI 0), .null, .null, .null, .null, .null]))]) H := hP
  have hD : va_D A ([(x, .inr (11, [.ref q_5, .null, .null, .int (bI false), .null, .null, .null]))] ++ (schW cI cD q_5 a1_9 a2_9 a3_9 a4_9 a5_9 0 0 0 0 0 (fun _ => 0) (fun _ => 0) (fun _ => 0) (fun _ => 0) (fun _ => none)) ++ [(q_16, .inr (9, [.int (nI 0), .int (nI 0), .int (nI 0), .int (nI 0), .int (nI 0), .null, .null, .null, .null, .null]))]) := hD
  refine lv_dup hx hb dX11_init_19 rfl ?_
  have hPc := hP.sub (ws' := [(q_16, .inr (9, [.int (nI 0), .int (nI 0), .int (nI 0), .int (nI 0), .int (nI 0), .null, .null, .null, .null, .null]))]) [7] rfl
  have hDc := hD.sub (ws' := [(q_16, .inr (9, [.int (nI 0), .int (nI 0), .int (nI 0), .int (nI 0), .int (nI 0), .null, .null, .null, .null, .null]))]) [7] (by decide) rfl
  have hFc := va_free (wc := [(q_16, .inr (9, [.int (nI 0), .int (nI 0), .int (nI 0), .int (nI 0), .int (nI 0), .null, .null, .null, .null, .null]))]) hD hS hA [7] rfl
  refine va_callv (va_runIN (As := []) (rest := [.ref q_16, .ref x]) ⟨hx, hb, hml, hown, hts⟩ (c_X9_init l dC dI cI cD cR q_16 H.size) ⟨va_cnB (host := "HoldsOnceDenied") 0 hts gX11_init_X9_init_n9 rfl rfl rfl (CX.nm hCX 0 rfl) (hts (.initialized RX9) (by decide +kernel)) (by decide +kernel) ⟨Nat.le_of_ble_eq_true rfl, Nat.le_of_ble_eq_true rfl⟩, rfl, (hts (.instanceMethod yX9_init) (by decide +kernel))⟩ (preO_R hCX hAOd hAOr ⟨rfl, hPc, hDc.weaken (fun _ _ _ _ => trivial)⟩) rfl rfl hl.1 rfl (lv_room (Nat.le_of_ble_eq_true rfl)) dX11_init_20 ⟨(by first | decide | exact Nat.le_of_ble_eq_true rfl | (dsimp only; omega)), (by first | decide | exact Nat.le_of_ble_eq_true rfl | (dsimp only; omega))⟩) hS (fun q _ h => hFc q h) hFc (fun u T8 H1 locs hT8 hvm hw hB hz1 hk1 hS => ?_)
  obtain ⟨a1_20, a2_20, a3_20, a4_20, a5_20⟩ := u
  obtain ⟨hP1, hD1⟩ := hB
  rw [hT8] at hP1
  have hP1 : va_P (dC, dI) vwCl ((schW cI cD q_16 a1_20 a2_20 a3_20 a4_20 a5_20 0 0 0 0 0 (fun _ => 0) (fun _ => 0) (fun _ => 0) (fun _ => 0) (fun _ => none))) H1 := hP1
  obtain ⟨hP, hD⟩ := va_join (wr := [(x, .inr (11, [.ref q_5, .null, .null, .int (bI false), .null, .null, .null]))] ++ (schW cI cD q_5 a1_9 a2_9 a3_9 a4_9 a5_9 0 0 0 0 0 (fun _ => 0) (fun _ => 0) (fun _ => 0) (fun _ => 0) (fun _ => none))) (w1 := (schW cI cD q_16 a1_20 a2_20 a3_20 a4_20 a5_20 0 0 0 0 0 (fun _ => 0) (fun _ => 0) (fun _ => 0) (fun _ => 0) (fun _ => none))) hP hD [7] [0, 1, 2, 3, 4, 5, 6] rfl rfl (by decide) (by decide) hk1 hFc hP1 hD1
  generalize H1 = H at hP hS ⊢
  have hP : va_P (dC, dI) vwCl ([(x, .inr (11, [.ref q_5, .null, .null, .int (bI false), .null, .null, .null]))] ++ (schW cI cD q_5 a1_9 a2_9 a3_9 a4_9 a5_9 0 0 0 0 0 (fun _ => 0) (fun _ => 0) (fun _ => 0) (fun _ => 0) (fun _ => none)) ++ (schW cI cD q_16 a1_20 a2_20 a3_20 a4_20 a5_20 0 0 0 0 0 (fun _ => 0) (fun _ => 0) (fun _ => 0) (fun _ => 0) (fun _ => none))) H := hP
  have hD : va_D A ([(x, .inr (11, [.ref q_5, .null, .null, .int (bI false), .null, .null, .null]))] ++ (schW cI cD q_5 a1_9 a2_9 a3_9 a4_9 a5_9 0 0 0 0 0 (fun _ => 0) (fun _ => 0) (fun _ => 0) (fun _ => 0) (fun _ => none)) ++ (schW cI cD q_16 a1_20 a2_20 a3_20 a4_20 a5_20 0 0 0 0 0 (fun _ => 0) (fun _ => 0) (fun _ => 0) (fun _ => 0) (fun _ => none))) := hD
  refine va_putF (D := (dC, dI)) (ci := 11) (v := .ref q_16) (ty := tyX11 1) (C := RX11) (T := TX11) (N := 7) hx hb hts (fun _ h => List.mem_cons_of_mem _ (List.mem_append_left _ (List.mem_append_right _ h))) tyX11 tyX11_ok nmX11 hown hK hP hD hS 0 rfl rfl 1 (by decide) (hts (.fieldLink RX11 16 "HoldsOnceDenied" "mind" "LHoldsOnceDenied$School;") (by decide +kernel)) (fun _ h9 => h9) rfl hin rfl (by decide +kernel) rfl rfl (Nat.le_of_ble_eq_true rfl) dX11_init_23 (fun H locs hP hD hS => ?_)
  have hP : va_P (dC, dI) vwCl ([(x, .inr (11, [.ref q_5, .ref q_16, .null, .int (bI false), .null, .null, .null]))] ++ (schW cI cD q_5 a1_9 a2_9 a3_9 a4_9 a5_9 0 0 0 0 0 (fun _ => 0) (fun _ => 0) (fun _ => 0) (fun _ => 0) (fun _ => none)) ++ (schW cI cD q_16 a1_20 a2_20 a3_20 a4_20 a5_20 0 0 0 0 0 (fun _ => 0) (fun _ => 0) (fun _ => 0) (fun _ => 0) (fun _ => none))) H := hP
  have hD : va_D A ([(x, .inr (11, [.ref q_5, .ref q_16, .null, .int (bI false), .null, .null, .null]))] ++ (schW cI cD q_5 a1_9 a2_9 a3_9 a4_9 a5_9 0 0 0 0 0 (fun _ => 0) (fun _ => 0) (fun _ => 0) (fun _ => 0) (fun _ => none)) ++ (schW cI cD q_16 a1_20 a2_20 a3_20 a4_20 a5_20 0 0 0 0 0 (fun _ => 0) (fun _ => 0) (fun _ => 0) (fun _ => 0) (fun _ => none))) := hD
  refine lv_aload_n hx hb dX11_init_26 rfl (lv_at hl 0 rfl) ?_
  refine va_new (ci := 9) (fs := [.int (nI 0), .int (nI 0), .int (nI 0), .int (nI 0), .int (nI 0), .null, .null, .null, .null, .null]) (C := RX9) (T := TX9) (N := 10) hx hb hts (fun _ h => List.mem_cons_of_mem _ (List.mem_append_left _ (List.mem_append_left _ (List.mem_append_right _ h)))) tyX9 tyX9_ok hown (hts (.classLink RX11 7 RX9) (by decide +kernel)) (hts (.instantiable RX9 10) (by decide +kernel)) (hts (.initialized RX9) (by decide +kernel)) hK hP hD hS hA rfl (fun j hj => by rcases (show j = 0 ∨ j = 1 ∨ j = 2 ∨ j = 3 ∨ j = 4 ∨ j = 5 ∨ j = 6 ∨ j = 7 ∨ j = 8 ∨ j = 9 by omega) with rfl | rfl | rfl | rfl | rfl | rfl | rfl | rfl | rfl | rfl <;> rfl) (by first | decide | exact Nat.le_of_ble_eq_true rfl | (dsimp only; omega)) (by first | decide | exact Nat.le_of_ble_eq_true rfl | (dsimp only; omega)) dX11_init_27 (fun q_27 H hP hD hS => ?_)
  have hP : va_P (dC, dI) vwCl ([(x, .inr (11, [.ref q_5, .ref q_16, .null, .int (bI false), .null, .null, .null]))] ++ (schW cI cD q_5 a1_9 a2_9 a3_9 a4_9 a5_9 0 0 0 0 0 (fun _ => 0) (fun _ => 0) (fun _ => 0) (fun _ => 0) (fun _ => none)) ++ (schW cI cD q_16 a1_20 a2_20 a3_20 a4_20 a5_20 0 0 0 0 0 (fun _ => 0) (fun _ => 0) (fun _ => 0) (fun _ => 0) (fun _ => none)) ++ [(q_27, .inr (9, [.int (nI 0), .int (nI 0), .int (nI 0), .int (nI 0), .int (nI 0), .null, .null, .null, .null, .null]))]) H := hP
  have hD : va_D A ([(x, .inr (11, [.ref q_5, .ref q_16, .null, .int (bI false), .null, .null, .null]))] ++ (schW cI cD q_5 a1_9 a2_9 a3_9 a4_9 a5_9 0 0 0 0 0 (fun _ => 0) (fun _ => 0) (fun _ => 0) (fun _ => 0) (fun _ => none)) ++ (schW cI cD q_16 a1_20 a2_20 a3_20 a4_20 a5_20 0 0 0 0 0 (fun _ => 0) (fun _ => 0) (fun _ => 0) (fun _ => 0) (fun _ => none)) ++ [(q_27, .inr (9, [.int (nI 0), .int (nI 0), .int (nI 0), .int (nI 0), .int (nI 0), .null, .null, .null, .null, .null]))]) := hD
  refine lv_dup hx hb dX11_init_30 rfl ?_
  have hPc := hP.sub (ws' := [(q_27, .inr (9, [.int (nI 0), .int (nI 0), .int (nI 0), .int (nI 0), .int (nI 0), .null, .null, .null, .null, .null]))]) [13] rfl
  have hDc := hD.sub (ws' := [(q_27, .inr (9, [.int (nI 0), .int (nI 0), .int (nI 0), .int (nI 0), .int (nI 0), .null, .null, .null, .null, .null]))]) [13] (by decide) rfl
  have hFc := va_free (wc := [(q_27, .inr (9, [.int (nI 0), .int (nI 0), .int (nI 0), .int (nI 0), .int (nI 0), .null, .null, .null, .null, .null]))]) hD hS hA [13] rfl
  refine va_callv (va_runIN (As := []) (rest := [.ref q_27, .ref x]) ⟨hx, hb, hml, hown, hts⟩ (c_X9_init l dC dI cI cD cR q_27 H.size) ⟨va_cnB (host := "HoldsOnceDenied") 0 hts gX11_init_X9_init_n9 rfl rfl rfl (CX.nm hCX 0 rfl) (hts (.initialized RX9) (by decide +kernel)) (by decide +kernel) ⟨Nat.le_of_ble_eq_true rfl, Nat.le_of_ble_eq_true rfl⟩, rfl, (hts (.instanceMethod yX9_init) (by decide +kernel))⟩ (preO_R hCX hAOd hAOr ⟨rfl, hPc, hDc.weaken (fun _ _ _ _ => trivial)⟩) rfl rfl hl.1 rfl (lv_room (Nat.le_of_ble_eq_true rfl)) dX11_init_31 ⟨(by first | decide | exact Nat.le_of_ble_eq_true rfl | (dsimp only; omega)), (by first | decide | exact Nat.le_of_ble_eq_true rfl | (dsimp only; omega))⟩) hS (fun q _ h => hFc q h) hFc (fun u T8 H1 locs hT8 hvm hw hB hz1 hk1 hS => ?_)
  obtain ⟨a1_31, a2_31, a3_31, a4_31, a5_31⟩ := u
  obtain ⟨hP1, hD1⟩ := hB
  rw [hT8] at hP1
  have hP1 : va_P (dC, dI) vwCl ((schW cI cD q_27 a1_31 a2_31 a3_31 a4_31 a5_31 0 0 0 0 0 (fun _ => 0) (fun _ => 0) (fun _ => 0) (fun _ => 0) (fun _ => none))) H1 := hP1
  obtain ⟨hP, hD⟩ := va_join (wr := [(x, .inr (11, [.ref q_5, .ref q_16, .null, .int (bI false), .null, .null, .null]))] ++ (schW cI cD q_5 a1_9 a2_9 a3_9 a4_9 a5_9 0 0 0 0 0 (fun _ => 0) (fun _ => 0) (fun _ => 0) (fun _ => 0) (fun _ => none)) ++ (schW cI cD q_16 a1_20 a2_20 a3_20 a4_20 a5_20 0 0 0 0 0 (fun _ => 0) (fun _ => 0) (fun _ => 0) (fun _ => 0) (fun _ => none))) (w1 := (schW cI cD q_27 a1_31 a2_31 a3_31 a4_31 a5_31 0 0 0 0 0 (fun _ => 0) (fun _ => 0) (fun _ => 0) (fun _ => 0) (fun _ => none))) hP hD [13] [0, 1, 2, 3, 4, 5, 6, 7, 8, 9, 10, 11, 12] rfl rfl (by decide) (by decide) hk1 hFc hP1 hD1
  generalize H1 = H at hP hS ⊢
  have hP : va_P (dC, dI) vwCl ([(x, .inr (11, [.ref q_5, .ref q_16, .null, .int (bI false), .null, .null, .null]))] ++ (schW cI cD q_5 a1_9 a2_9 a3_9 a4_9 a5_9 0 0 0 0 0 (fun _ => 0) (fun _ => 0) (fun _ => 0) (fun _ => 0) (fun _ => none)) ++ (schW cI cD q_16 a1_20 a2_20 a3_20 a4_20 a5_20 0 0 0 0 0 (fun _ => 0) (fun _ => 0) (fun _ => 0) (fun _ => 0) (fun _ => none)) ++ (schW cI cD q_27 a1_31 a2_31 a3_31 a4_31 a5_31 0 0 0 0 0 (fun _ => 0) (fun _ => 0) (fun _ => 0) (fun _ => 0) (fun _ => none))) H := hP
  have hD : va_D A ([(x, .inr (11, [.ref q_5, .ref q_16, .null, .int (bI false), .null, .null, .null]))] ++ (schW cI cD q_5 a1_9 a2_9 a3_9 a4_9 a5_9 0 0 0 0 0 (fun _ => 0) (fun _ => 0) (fun _ => 0) (fun _ => 0) (fun _ => none)) ++ (schW cI cD q_16 a1_20 a2_20 a3_20 a4_20 a5_20 0 0 0 0 0 (fun _ => 0) (fun _ => 0) (fun _ => 0) (fun _ => 0) (fun _ => none)) ++ (schW cI cD q_27 a1_31 a2_31 a3_31 a4_31 a5_31 0 0 0 0 0 (fun _ => 0) (fun _ => 0) (fun _ => 0) (fun _ => 0) (fun _ => none))) := hD
  refine va_putF (D := (dC, dI)) (ci := 11) (v := .ref q_27) (ty := tyX11 2) (C := RX11) (T := TX11) (N := 7) hx hb hts (fun _ h => List.mem_cons_of_mem _ (List.mem_append_left _ (List.mem_append_right _ h))) tyX11 tyX11_ok nmX11 hown hK hP hD hS 0 rfl rfl 2 (by decide) (hts (.fieldLink RX11 19 "HoldsOnceDenied" "past" "LHoldsOnceDenied$School;") (by decide +kernel)) (fun _ h9 => h9) rfl hin rfl (by decide +kernel) rfl rfl (Nat.le_of_ble_eq_true rfl) dX11_init_34 (fun H locs hP hD hS => ?_)
  have hP : va_P (dC, dI) vwCl ([(x, .inr (11, [.ref q_5, .ref q_16, .ref q_27, .int (bI false), .null, .null, .null]))] ++ (schW cI cD q_5 a1_9 a2_9 a3_9 a4_9 a5_9 0 0 0 0 0 (fun _ => 0) (fun _ => 0) (fun _ => 0) (fun _ => 0) (fun _ => none)) ++ (schW cI cD q_16 a1_20 a2_20 a3_20 a4_20 a5_20 0 0 0 0 0 (fun _ => 0) (fun _ => 0) (fun _ => 0) (fun _ => 0) (fun _ => none)) ++ (schW cI cD q_27 a1_31 a2_31 a3_31 a4_31 a5_31 0 0 0 0 0 (fun _ => 0) (fun _ => 0) (fun _ => 0) (fun _ => 0) (fun _ => none))) H := hP
  have hD : va_D A ([(x, .inr (11, [.ref q_5, .ref q_16, .ref q_27, .int (bI false), .null, .null, .null]))] ++ (schW cI cD q_5 a1_9 a2_9 a3_9 a4_9 a5_9 0 0 0 0 0 (fun _ => 0) (fun _ => 0) (fun _ => 0) (fun _ => 0) (fun _ => none)) ++ (schW cI cD q_16 a1_20 a2_20 a3_20 a4_20 a5_20 0 0 0 0 0 (fun _ => 0) (fun _ => 0) (fun _ => 0) (fun _ => 0) (fun _ => none)) ++ (schW cI cD q_27 a1_31 a2_31 a3_31 a4_31 a5_31 0 0 0 0 0 (fun _ => 0) (fun _ => 0) (fun _ => 0) (fun _ => 0) (fun _ => none))) := hD
  refine lv_aload_n hx hb dX11_init_37 rfl (lv_at hl 0 rfl) ?_
  refine va_new (ci := 4) (fs := [.int (nI 0), .null, .null, .null]) (C := RX4) (T := TX4) (N := 4) hx hb hts (fun _ h => List.mem_cons_of_mem _ (List.mem_append_right _ h)) tyX4 tyX4_ok hown (hts (.classLink RX11 22 RX4) (by decide +kernel)) (hts (.instantiable RX4 4) (by decide +kernel)) (hts (.initialized RX4) (by decide +kernel)) hK hP hD hS hA rfl (fun j hj => by rcases (show j = 0 ∨ j = 1 ∨ j = 2 ∨ j = 3 by omega) with rfl | rfl | rfl | rfl <;> rfl) (by first | decide | exact Nat.le_of_ble_eq_true rfl | (dsimp only; omega)) (by first | decide | exact Nat.le_of_ble_eq_true rfl | (dsimp only; omega)) dX11_init_38 (fun q_38 H hP hD hS => ?_)
  have hP : va_P (dC, dI) vwCl ([(x, .inr (11, [.ref q_5, .ref q_16, .ref q_27, .int (bI false), .null, .null, .null]))] ++ (schW cI cD q_5 a1_9 a2_9 a3_9 a4_9 a5_9 0 0 0 0 0 (fun _ => 0) (fun _ => 0) (fun _ => 0) (fun _ => 0) (fun _ => none)) ++ (schW cI cD q_16 a1_20 a2_20 a3_20 a4_20 a5_20 0 0 0 0 0 (fun _ => 0) (fun _ => 0) (fun _ => 0) (fun _ => 0) (fun _ => none)) ++ (schW cI cD q_27 a1_31 a2_31 a3_31 a4_31 a5_31 0 0 0 0 0 (fun _ => 0) (fun _ => 0) (fun _ => 0) (fun _ => 0) (fun _ => none)) ++ [(q_38, .inr (4, [.int (nI 0), .null, .null, .null]))]) H := hP
  have hD : va_D A ([(x, .inr (11, [.ref q_5, .ref q_16, .ref q_27, .int (bI false), .null, .null, .null]))] ++ (schW cI cD q_5 a1_9 a2_9 a3_9 a4_9 a5_9 0 0 0 0 0 (fun _ => 0) (fun _ => 0) (fun _ => 0) (fun _ => 0) (fun _ => none)) ++ (schW cI cD q_16 a1_20 a2_20 a3_20 a4_20 a5_20 0 0 0 0 0 (fun _ => 0) (fun _ => 0) (fun _ => 0) (fun _ => 0) (fun _ => none)) ++ (schW cI cD q_27 a1_31 a2_31 a3_31 a4_31 a5_31 0 0 0 0 0 (fun _ => 0) (fun _ => 0) (fun _ => 0) (fun _ => 0) (fun _ => none)) ++ [(q_38, .inr (4, [.int (nI 0), .null, .null, .null]))]) := hD
  refine lv_dup hx hb dX11_init_41 rfl ?_
  have hPc := hP.sub (ws' := [(q_38, .inr (4, [.int (nI 0), .null, .null, .null]))]) [19] rfl
  have hDc := hD.sub (ws' := [(q_38, .inr (4, [.int (nI 0), .null, .null, .null]))]) [19] (by decide) rfl
  have hFc := va_free (wc := [(q_38, .inr (4, [.int (nI 0), .null, .null, .null]))]) hD hS hA [19] rfl
  refine va_callv (va_runIN (As := []) (rest := [.ref q_38, .ref x]) ⟨hx, hb, hml, hown, hts⟩ (c_X4_init l dC dI cI cD cR q_38 H.size) ⟨va_cnB (host := "HoldsOnceDenied") 0 hts gX11_init_X4_init_n24 rfl rfl rfl (CX.nm hCX 1 rfl) (hts (.initialized RX4) (by decide +kernel)) (by decide +kernel) ⟨Nat.le_of_ble_eq_true rfl, Nat.le_of_ble_eq_true rfl⟩, rfl, (hts (.instanceMethod yX4_init) (by decide +kernel))⟩ (preS_R hCX ⟨rfl, hPc, hDc.weaken (fun _ _ _ _ => trivial)⟩) rfl rfl hl.1 rfl (lv_room (Nat.le_of_ble_eq_true rfl)) dX11_init_42 ⟨(by first | decide | exact Nat.le_of_ble_eq_true rfl | (dsimp only; omega)), (by first | decide | exact Nat.le_of_ble_eq_true rfl | (dsimp only; omega))⟩) hS (fun q _ h => hFc q h) hFc (fun u T8 H1 locs hT8 hvm hw hB hz1 hk1 hS => ?_)
  obtain ⟨l1_42, l2_42, l3_42⟩ := u
  obtain ⟨hP1, hD1⟩ := hB
  rw [hT8] at hP1
  have hP1 : va_P (dC, dI) vwCl ((forW cI q_38 l1_42 l2_42 l3_42 0 (fun _ => some 0) (fun _ => 0) (fun _ => some 0))) H1 := hP1
  obtain ⟨hP, hD⟩ := va_join (wr := [(x, .inr (11, [.ref q_5, .ref q_16, .ref q_27, .int (bI false), .null, .null, .null]))] ++ (schW cI cD q_5 a1_9 a2_9 a3_9 a4_9 a5_9 0 0 0 0 0 (fun _ => 0) (fun _ => 0) (fun _ => 0) (fun _ => 0) (fun _ => none)) ++ (schW cI cD q_16 a1_20 a2_20 a3_20 a4_20 a5_20 0 0 0 0 0 (fun _ => 0) (fun _ => 0) (fun _ => 0) (fun _ => 0) (fun _ => none)) ++ (schW cI cD q_27 a1_31 a2_31 a3_31 a4_31 a5_31 0 0 0 0 0 (fun _ => 0) (fun _ => 0) (fun _ => 0) (fun _ => 0) (fun _ => none))) (w1 := (forW cI q_38 l1_42 l2_42 l3_42 0 (fun _ => some 0) (fun _ => 0) (fun _ => some 0))) hP hD [19] [0, 1, 2, 3, 4, 5, 6, 7, 8, 9, 10, 11, 12, 13, 14, 15, 16, 17, 18] rfl rfl (by decide) (by decide) hk1 hFc hP1 hD1
  generalize H1 = H at hP hS ⊢
  have hP : va_P (dC, dI) vwCl ([(x, .inr (11, [.ref q_5, .ref q_16, .ref q_27, .int (bI false), .null, .null, .null]))] ++ (schW cI cD q_5 a1_9 a2_9 a3_9 a4_9 a5_9 0 0 0 0 0 (fun _ => 0) (fun _ => 0) (fun _ => 0) (fun _ => 0) (fun _ => none)) ++ (schW cI cD q_16 a1_20 a2_20 a3_20 a4_20 a5_20 0 0 0 0 0 (fun _ => 0) (fun _ => 0) (fun _ => 0) (fun _ => 0) (fun _ => none)) ++ (schW cI cD q_27 a1_31 a2_31 a3_31 a4_31 a5_31 0 0 0 0 0 (fun _ => 0) (fun _ => 0) (fun _ => 0) (fun _ => 0) (fun _ => none)) ++ (forW cI q_38 l1_42 l2_42 l3_42 0 (fun _ => some 0) (fun _ => 0) (fun _ => some 0))) H := hP
  have hD : va_D A ([(x, .inr (11, [.ref q_5, .ref q_16, .ref q_27, .int (bI false), .null, .null, .null]))] ++ (schW cI cD q_5 a1_9 a2_9 a3_9 a4_9 a5_9 0 0 0 0 0 (fun _ => 0) (fun _ => 0) (fun _ => 0) (fun _ => 0) (fun _ => none)) ++ (schW cI cD q_16 a1_20 a2_20 a3_20 a4_20 a5_20 0 0 0 0 0 (fun _ => 0) (fun _ => 0) (fun _ => 0) (fun _ => 0) (fun _ => none)) ++ (schW cI cD q_27 a1_31 a2_31 a3_31 a4_31 a5_31 0 0 0 0 0 (fun _ => 0) (fun _ => 0) (fun _ => 0) (fun _ => 0) (fun _ => none)) ++ (forW cI q_38 l1_42 l2_42 l3_42 0 (fun _ => some 0) (fun _ => 0) (fun _ => some 0))) := hD
  refine va_putF (D := (dC, dI)) (ci := 11) (v := .ref q_38) (ty := tyX11 4) (C := RX11) (T := TX11) (N := 7) hx hb hts (fun _ h => List.mem_cons_of_mem _ (List.mem_append_left _ (List.mem_append_right _ h))) tyX11 tyX11_ok nmX11 hown hK hP hD hS 0 rfl rfl 4 (by decide) (hts (.fieldLink RX11 25 "HoldsOnceDenied" "foresight" "LHoldsOnceDenied$Foresight;") (by decide +kernel)) (fun _ h9 => h9) rfl hin rfl (by decide +kernel) rfl rfl (Nat.le_of_ble_eq_true rfl) dX11_init_45 (fun H locs hP hD hS => ?_)
  have hP : va_P (dC, dI) vwCl ([(x, .inr (11, [.ref q_5, .ref q_16, .ref q_27, .int (bI false), .ref q_38, .null, .null]))] ++ (schW cI cD q_5 a1_9 a2_9 a3_9 a4_9 a5_9 0 0 0 0 0 (fun _ => 0) (fun _ => 0) (fun _ => 0) (fun _ => 0) (fun _ => none)) ++ (schW cI cD q_16 a1_20 a2_20 a3_20 a4_20 a5_20 0 0 0 0 0 (fun _ => 0) (fun _ => 0) (fun _ => 0) (fun _ => 0) (fun _ => none)) ++ (schW cI cD q_27 a1_31 a2_31 a3_31 a4_31 a5_31 0 0 0 0 0 (fun _ => 0) (fun _ => 0) (fun _ => 0) (fun _ => 0) (fun _ => none)) ++ (forW cI q_38 l1_42 l2_42 l3_42 0 (fun _ => some 0) (fun _ => 0) (fun _ => some 0))) H := hP
  have hD : va_D A ([(x, .inr (11, [.ref q_5, .ref q_16, .ref q_27, .int (bI false), .ref q_38, .null, .null]))] ++ (schW cI cD q_5 a1_9 a2_9 a3_9 a4_9 a5_9 0 0 0 0 0 (fun _ => 0) (fun _ => 0) (fun _ => 0) (fun _ => 0) (fun _ => none)) ++ (schW cI cD q_16 a1_20 a2_20 a3_20 a4_20 a5_20 0 0 0 0 0 (fun _ => 0) (fun _ => 0) (fun _ => 0) (fun _ => 0) (fun _ => none)) ++ (schW cI cD q_27 a1_31 a2_31 a3_31 a4_31 a5_31 0 0 0 0 0 (fun _ => 0) (fun _ => 0) (fun _ => 0) (fun _ => 0) (fun _ => none)) ++ (forW cI q_38 l1_42 l2_42 l3_42 0 (fun _ => some 0) (fun _ => 0) (fun _ => some 0))) := hD
  refine lv_aload_n hx hb dX11_init_48 rfl (lv_at hl 0 rfl) ?_
  refine lv_bipush (v := nI 8) hx hb dX11_init_49 (by decide +kernel) ?_
  refine va_newq (N' := 8) hx hb hown (hts (.classLink RX11 29 RX2) (by decide +kernel)) hAOd hK hP hD hS hA (nI_pos (by omega)) (nI_clamp (by omega)) (Nat.le_of_ble_eq_true rfl) (by first | decide | exact Nat.le_of_ble_eq_true rfl | (dsimp only; omega)) (by first | decide | exact Nat.le_of_ble_eq_true rfl | (dsimp only; omega)) dX11_init_51 (fun q_51 c9 H hK9 hP hD hS => ?_)
  have e9 : c9 = cD := ho_cAd hK hK9
  rw [e9] at hP hD
  clear e9 hK9
  have hP : va_P (dC, dI) vwCl ([(x, .inr (11, [.ref q_5, .ref q_16, .ref q_27, .int (bI false), .ref q_38, .null, .null]))] ++ (schW cI cD q_5 a1_9 a2_9 a3_9 a4_9 a5_9 0 0 0 0 0 (fun _ => 0) (fun _ => 0) (fun _ => 0) (fun _ => 0) (fun _ => none)) ++ (schW cI cD q_16 a1_20 a2_20 a3_20 a4_20 a5_20 0 0 0 0 0 (fun _ => 0) (fun _ => 0) (fun _ => 0) (fun _ => 0) (fun _ => none)) ++ (schW cI cD q_27 a1_31 a2_31 a3_31 a4_31 a5_31 0 0 0 0 0 (fun _ => 0) (fun _ => 0) (fun _ => 0) (fun _ => 0) (fun _ => none)) ++ (forW cI q_38 l1_42 l2_42 l3_42 0 (fun _ => some 0) (fun _ => 0) (fun _ => some 0)) ++ [(q_51, .inl (cD, 8, .inr (.inr (.inr (.inr (fun _ => none))))))]) H := hP
  have hD : va_D A ([(x, .inr (11, [.ref q_5, .ref q_16, .ref q_27, .int (bI false), .ref q_38, .null, .null]))] ++ (schW cI cD q_5 a1_9 a2_9 a3_9 a4_9 a5_9 0 0 0 0 0 (fun _ => 0) (fun _ => 0) (fun _ => 0) (fun _ => 0) (fun _ => none)) ++ (schW cI cD q_16 a1_20 a2_20 a3_20 a4_20 a5_20 0 0 0 0 0 (fun _ => 0) (fun _ => 0) (fun _ => 0) (fun _ => 0) (fun _ => none)) ++ (schW cI cD q_27 a1_31 a2_31 a3_31 a4_31 a5_31 0 0 0 0 0 (fun _ => 0) (fun _ => 0) (fun _ => 0) (fun _ => 0) (fun _ => none)) ++ (forW cI q_38 l1_42 l2_42 l3_42 0 (fun _ => some 0) (fun _ => 0) (fun _ => some 0)) ++ [(q_51, .inl (cD, 8, .inr (.inr (.inr (.inr (fun _ => none))))))]) := hD
  refine va_putF (D := (dC, dI)) (ci := 11) (v := .ref q_51) (ty := tyX11 5) (C := RX11) (T := TX11) (N := 7) hx hb hts (fun _ h => List.mem_cons_of_mem _ (List.mem_append_left _ (List.mem_append_right _ h))) tyX11 tyX11_ok nmX11 hown hK hP hD hS 0 rfl rfl 5 (by decide) (hts (.fieldLink RX11 31 "HoldsOnceDenied" "shelvedDeniers" "[LHoldsOnceDenied$Denier;") (by decide +kernel)) (fun _ h9 => h9) rfl hin rfl (by decide +kernel) rfl rfl (Nat.le_of_ble_eq_true rfl) dX11_init_54 (fun H locs hP hD hS => ?_)
  have hP : va_P (dC, dI) vwCl ([(x, .inr (11, [.ref q_5, .ref q_16, .ref q_27, .int (bI false), .ref q_38, .ref q_51, .null]))] ++ (schW cI cD q_5 a1_9 a2_9 a3_9 a4_9 a5_9 0 0 0 0 0 (fun _ => 0) (fun _ => 0) (fun _ => 0) (fun _ => 0) (fun _ => none)) ++ (schW cI cD q_16 a1_20 a2_20 a3_20 a4_20 a5_20 0 0 0 0 0 (fun _ => 0) (fun _ => 0) (fun _ => 0) (fun _ => 0) (fun _ => none)) ++ (schW cI cD q_27 a1_31 a2_31 a3_31 a4_31 a5_31 0 0 0 0 0 (fun _ => 0) (fun _ => 0) (fun _ => 0) (fun _ => 0) (fun _ => none)) ++ (forW cI q_38 l1_42 l2_42 l3_42 0 (fun _ => some 0) (fun _ => 0) (fun _ => some 0)) ++ [(q_51, .inl (cD, 8, .inr (.inr (.inr (.inr (fun _ => none))))))]) H := hP
  have hD : va_D A ([(x, .inr (11, [.ref q_5, .ref q_16, .ref q_27, .int (bI false), .ref q_38, .ref q_51, .null]))] ++ (schW cI cD q_5 a1_9 a2_9 a3_9 a4_9 a5_9 0 0 0 0 0 (fun _ => 0) (fun _ => 0) (fun _ => 0) (fun _ => 0) (fun _ => none)) ++ (schW cI cD q_16 a1_20 a2_20 a3_20 a4_20 a5_20 0 0 0 0 0 (fun _ => 0) (fun _ => 0) (fun _ => 0) (fun _ => 0) (fun _ => none)) ++ (schW cI cD q_27 a1_31 a2_31 a3_31 a4_31 a5_31 0 0 0 0 0 (fun _ => 0) (fun _ => 0) (fun _ => 0) (fun _ => 0) (fun _ => none)) ++ (forW cI q_38 l1_42 l2_42 l3_42 0 (fun _ => some 0) (fun _ => 0) (fun _ => some 0)) ++ [(q_51, .inl (cD, 8, .inr (.inr (.inr (.inr (fun _ => none))))))]) := hD
  refine lv_aload_n hx hb dX11_init_57 rfl (lv_at hl 0 rfl) ?_
  refine lv_bipush (v := nI 8) hx hb dX11_init_58 (by decide +kernel) ?_
  refine va_newq (N' := 8) hx hb hown (hts (.classLink RX11 35 RX8) (by decide +kernel)) hAOr hK hP hD hS hA (nI_pos (by omega)) (nI_clamp (by omega)) (Nat.le_of_ble_eq_true rfl) (by first | decide | exact Nat.le_of_ble_eq_true rfl | (dsimp only; omega)) (by first | decide | exact Nat.le_of_ble_eq_true rfl | (dsimp only; omega)) dX11_init_60 (fun q_60 c9 H hK9 hP hD hS => ?_)
  have e9 : c9 = cR := ho_cAr hK hK9
  rw [e9] at hP hD
  clear e9 hK9
  have hP : va_P (dC, dI) vwCl ([(x, .inr (11, [.ref q_5, .ref q_16, .ref q_27, .int (bI false), .ref q_38, .ref q_51, .null]))] ++ (schW cI cD q_5 a1_9 a2_9 a3_9 a4_9 a5_9 0 0 0 0 0 (fun _ => 0) (fun _ => 0) (fun _ => 0) (fun _ => 0) (fun _ => none)) ++ (schW cI cD q_16 a1_20 a2_20 a3_20 a4_20 a5_20 0 0 0 0 0 (fun _ => 0) (fun _ => 0) (fun _ => 0) (fun _ => 0) (fun _ => none)) ++ (schW cI cD q_27 a1_31 a2_31 a3_31 a4_31 a5_31 0 0 0 0 0 (fun _ => 0) (fun _ => 0) (fun _ => 0) (fun _ => 0) (fun _ => none)) ++ (forW cI q_38 l1_42 l2_42 l3_42 0 (fun _ => some 0) (fun _ => 0) (fun _ => some 0)) ++ [(q_51, .inl (cD, 8, .inr (.inr (.inr (.inr (fun _ => none))))))] ++ [(q_60, .inl (cR, 8, .inr (.inr (.inr (.inr (fun _ => none))))))]) H := hP
  have hD : va_D A ([(x, .inr (11, [.ref q_5, .ref q_16, .ref q_27, .int (bI false), .ref q_38, .ref q_51, .null]))] ++ (schW cI cD q_5 a1_9 a2_9 a3_9 a4_9 a5_9 0 0 0 0 0 (fun _ => 0) (fun _ => 0) (fun _ => 0) (fun _ => 0) (fun _ => none)) ++ (schW cI cD q_16 a1_20 a2_20 a3_20 a4_20 a5_20 0 0 0 0 0 (fun _ => 0) (fun _ => 0) (fun _ => 0) (fun _ => 0) (fun _ => none)) ++ (schW cI cD q_27 a1_31 a2_31 a3_31 a4_31 a5_31 0 0 0 0 0 (fun _ => 0) (fun _ => 0) (fun _ => 0) (fun _ => 0) (fun _ => none)) ++ (forW cI q_38 l1_42 l2_42 l3_42 0 (fun _ => some 0) (fun _ => 0) (fun _ => some 0)) ++ [(q_51, .inl (cD, 8, .inr (.inr (.inr (.inr (fun _ => none))))))] ++ [(q_60, .inl (cR, 8, .inr (.inr (.inr (.inr (fun _ => none))))))]) := hD
  refine va_putF (D := (dC, dI)) (ci := 11) (v := .ref q_60) (ty := tyX11 6) (C := RX11) (T := TX11) (N := 7) hx hb hts (fun _ h => List.mem_cons_of_mem _ (List.mem_append_left _ (List.mem_append_right _ h))) tyX11 tyX11_ok nmX11 hown hK hP hD hS 0 rfl rfl 6 (by decide) (hts (.fieldLink RX11 37 "HoldsOnceDenied" "shelvedRows" "[LHoldsOnceDenied$Row;") (by decide +kernel)) (fun _ h9 => h9) rfl hin rfl (by decide +kernel) rfl rfl (Nat.le_of_ble_eq_true rfl) dX11_init_63 (fun H locs hP hD hS => ?_)
  have hP : va_P (dC, dI) vwCl ([(x, .inr (11, [.ref q_5, .ref q_16, .ref q_27, .int (bI false), .ref q_38, .ref q_51, .ref q_60]))] ++ (schW cI cD q_5 a1_9 a2_9 a3_9 a4_9 a5_9 0 0 0 0 0 (fun _ => 0) (fun _ => 0) (fun _ => 0) (fun _ => 0) (fun _ => none)) ++ (schW cI cD q_16 a1_20 a2_20 a3_20 a4_20 a5_20 0 0 0 0 0 (fun _ => 0) (fun _ => 0) (fun _ => 0) (fun _ => 0) (fun _ => none)) ++ (schW cI cD q_27 a1_31 a2_31 a3_31 a4_31 a5_31 0 0 0 0 0 (fun _ => 0) (fun _ => 0) (fun _ => 0) (fun _ => 0) (fun _ => none)) ++ (forW cI q_38 l1_42 l2_42 l3_42 0 (fun _ => some 0) (fun _ => 0) (fun _ => some 0)) ++ [(q_51, .inl (cD, 8, .inr (.inr (.inr (.inr (fun _ => none))))))] ++ [(q_60, .inl (cR, 8, .inr (.inr (.inr (.inr (fun _ => none))))))]) H := hP
  have hD : va_D A ([(x, .inr (11, [.ref q_5, .ref q_16, .ref q_27, .int (bI false), .ref q_38, .ref q_51, .ref q_60]))] ++ (schW cI cD q_5 a1_9 a2_9 a3_9 a4_9 a5_9 0 0 0 0 0 (fun _ => 0) (fun _ => 0) (fun _ => 0) (fun _ => 0) (fun _ => none)) ++ (schW cI cD q_16 a1_20 a2_20 a3_20 a4_20 a5_20 0 0 0 0 0 (fun _ => 0) (fun _ => 0) (fun _ => 0) (fun _ => 0) (fun _ => none)) ++ (schW cI cD q_27 a1_31 a2_31 a3_31 a4_31 a5_31 0 0 0 0 0 (fun _ => 0) (fun _ => 0) (fun _ => 0) (fun _ => 0) (fun _ => none)) ++ (forW cI q_38 l1_42 l2_42 l3_42 0 (fun _ => some 0) (fun _ => 0) (fun _ => some 0)) ++ [(q_51, .inl (cD, 8, .inr (.inr (.inr (.inr (fun _ => none))))))] ++ [(q_60, .inl (cR, 8, .inr (.inr (.inr (.inr (fun _ => none))))))]) := hD
  refine W.widen (k := 24) (n := 805) (by first | decide | exact Nat.le_of_ble_eq_true rfl | (dsimp only; omega)) (by first | decide | exact Nat.le_of_ble_eq_true rfl | (dsimp only; omega)) ?_
  exact W.vret hx hb hr (fun T9 hT9 hW9 => ⟨⟨(q_5, q_16, q_27, q_38, q_51, q_60, a1_9, a2_9, a3_9, a4_9, a5_9, a1_20, a2_20, a3_20, a4_20, a5_20, a1_31, a2_31, a3_31, a4_31, a5_31, l1_42, l2_42, l3_42), rfl, trivial, by rw [hT9]; exact hP, hD⟩, hS.F hT9⟩) hS.2.2 dX11_init_66
