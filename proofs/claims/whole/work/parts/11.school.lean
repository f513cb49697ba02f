set_option maxHeartbeats 4000000 in
set_option maxRecDepth 100000 in
theorem c_X9_hasSentence (l : Launch) (dC : Nat → ClassId) (dI : Nat → Nat → Nat) (cI cD cR : ClassId) (h a1 a2 a3 a4 a5 n d t al day : Nat) (nd : Nat → Nat) (mk si : Nat → Int32) (kn : Nat → Nat) (mb : Nat → Option Nat) (x : Nat) (hn : n ≤ 9) (hd : d ≤ 6) (ht : t < 512) (hal : al < 64) (hday : day < 2 ^ 30) (gnd : ∀ i, nd i < 512) (gkn : ∀ j, kn j < 512) (hxx : x < 2 ^ 31) : Met l yX9_hasSentence wsX9_hasSentence ({ frames := 0, cells := 0, slots := 0, locals := 0 }) (pcR dC dI cI cD cR [.ref h, .int (nI x)] (fun H => va_P (dC, dI) vwCl ((schW cI cD h a1 a2 a3 a4 a5 n d t al day nd mk si kn mb)) H)) (vp_Si (fun r => r = bI (decide (x < n)))) 0 0 (fun _ => False) := by
  refine Met.ofW (cc := cX9_hasSentence) (maxL := 2) (ret := (some .boolean)) (by decide) rfl ?_
  intro p e s m args below meth c s₁ B hml hv
  obtain ⟨rfl, hH0, hCX⟩ := hv
  have hx := B.exec
  have hb := B.bytes
  have hr := B.returns
  have hts := atoms_spec (ws := wsX9_hasSentence) B.pre
  have hown : s.vm.findClass RX9 = some m.cls := findClass_of_methodNamed B.named
  have hlocks := B.notSynchronized
  have hK := hCX.1
  have hP := hH0
  have hl := lv_entry ([.ref h, .int (nI x)]) (n := 2) (Nat.le_of_ble_eq_true rfl)
  rw [lg_entry_eq]
  generalize (lg_sl ([.ref h, .int (nI x)]) ++ List.replicate (2 - (lg_sl ([.ref h, .int (nI x)])).length) Slot.unset).toArray = ls at hl ⊢
  have hl : lv_has ls 2 [(0, .ref h), (1, .int (nI x))] := hl
  refine lv_iload_n hx hb dX9_hasSentence_0 rfl (lv_at hl 1 rfl) ?_
  refine ho_if_lt0 hx hb dX9_hasSentence_1 (tgt := 16) (by decide) (by omega) ?_
  refine lv_iload_n hx hb dX9_hasSentence_4 rfl (lv_at hl 1 rfl) ?_
  refine lv_aload_n hx hb dX9_hasSentence_5 rfl (lv_at hl 0 rfl) ?_
  refine va_get (D := (dC, dI)) (ci := 9) (v := .int (nI n)) (C := RX9) (T := TX9) (N := 10) hx hb hts (fun _ h => List.mem_cons_of_mem _ (List.mem_append_right _ h)) hown hK hP 0 rfl rfl 0 (by decide) (hts (.fieldLink RX9 30 "HoldsOnceDenied$School" "sentences" "I") (by decide +kernel)) (fun _ h9 => h9) rfl dX9_hasSentence_6 ?_
  refine ho_icmp_ge (tgt := 16) hx hb dX9_hasSentence_9 (by decide) (by omega) (by omega) (fun c_9 => ?_) (fun c_9 => ?_)
  · refine lv_iconst (v := nI 0) hx hb dX9_hasSentence_16 (by decide +kernel) ?_
    exact W.zret (v := nI 0) hx hb hr rfl (fun T9 hT9 hW9 => ⟨_, rfl, (bI_f (by simp; omega)), hT9⟩) (fun q h => by cases h) dX9_hasSentence_17
  refine lv_iconst (v := nI 1) hx hb dX9_hasSentence_12 (by decide +kernel) ?_
  refine lv_goto (tgt := 17) hx hb dX9_hasSentence_13 (by decide) ?_
  exact W.zret (v := nI 1) hx hb hr rfl (fun T9 hT9 hW9 => ⟨_, rfl, (bI_t (by simp; omega)), hT9⟩) (fun q h => by cases h) dX9_hasSentence_17
set_option maxHeartbeats 4000000 in
set_option maxRecDepth 100000 in
theorem c_X9_hasSentence_r (l : Launch) (dC : Nat → ClassId) (dI : Nat → Nat → Nat) (cI cD cR : ClassId) (h a1 a2 a3 a4 a5 n d t al day : Nat) (nd : Nat → Nat) (mk si : Nat → Int32) (kn : Nat → Nat) (mb : Nat → Option Nat) (x : Int32) (hn : n ≤ 9) (hd : d ≤ 6) (ht : t < 512) (hal : al < 64) (hday : day < 2 ^ 30) (gnd : ∀ i, nd i < 512) (gkn : ∀ j, kn j < 512) : Met l yX9_hasSentence wsX9_hasSentence ({ frames := 0, cells := 0, slots := 0, locals := 0 }) (pcR dC dI cI cD cR [.ref h, .int x] (fun H => va_P (dC, dI) vwCl ((schW cI cD h a1 a2 a3 a4 a5 n d t al day nd mk si kn mb)) H)) (vp_Si (fun r => r = bI (okI x n))) 0 0 (fun _ => False) := by
  refine Met.ofW (cc := cX9_hasSentence) (maxL := 2) (ret := (some .boolean)) (by decide) rfl ?_
  intro p e s m args below meth c s₁ B hml hv
  obtain ⟨rfl, hH0, hCX⟩ := hv
  have hx := B.exec
  have hb := B.bytes
  have hr := B.returns
  have hts := atoms_spec (ws := wsX9_hasSentence) B.pre
  have hown : s.vm.findClass RX9 = some m.cls := findClass_of_methodNamed B.named
  have hlocks := B.notSynchronized
  have hK := hCX.1
  have hP := hH0
  have hl := lv_entry ([.ref h, .int x]) (n := 2) (Nat.le_of_ble_eq_true rfl)
  rw [lg_entry_eq]
  generalize (lg_sl ([.ref h, .int x]) ++ List.replicate (2 - (lg_sl ([.ref h, .int x])).length) Slot.unset).toArray = ls at hl ⊢
  have hl : lv_has ls 2 [(0, .ref h), (1, .int x)] := hl
  refine lv_iload_n hx hb dX9_hasSentence_0 rfl (lv_at hl 1 rfl) ?_
  refine lv_if_lt (tgt := 16) hx hb dX9_hasSentence_1 (by decide) (fun c_1 => ?_) (fun c_1 => ?_)
  · refine lv_iconst (v := nI 0) hx hb dX9_hasSentence_16 (by decide +kernel) ?_
    exact W.zret (v := nI 0) hx hb hr rfl (fun T9 hT9 hW9 => ⟨_, rfl, (bI_f (by first | exact okI_n0 c_1 | exact okI_n1 c_9 | exact okI_of c_1 (Int32.not_le.mp c_9))), hT9⟩) (fun q h => by cases h) dX9_hasSentence_17
  refine lv_iload_n hx hb dX9_hasSentence_4 rfl (lv_at hl 1 rfl) ?_
  refine lv_aload_n hx hb dX9_hasSentence_5 rfl (lv_at hl 0 rfl) ?_
  refine va_get (D := (dC, dI)) (ci := 9) (v := .int (nI n)) (C := RX9) (T := TX9) (N := 10) hx hb hts (fun _ h => List.mem_cons_of_mem _ (List.mem_append_right _ h)) hown hK hP 0 rfl rfl 0 (by decide) (hts (.fieldLink RX9 30 "HoldsOnceDenied$School" "sentences" "I") (by decide +kernel)) (fun _ h9 => h9) rfl dX9_hasSentence_6 ?_
  refine lv_icmp_ge (tgt := 16) hx hb dX9_hasSentence_9 (by decide) (fun c_9 => ?_) (fun c_9 => ?_)
  · refine lv_iconst (v := nI 0) hx hb dX9_hasSentence_16 (by decide +kernel) ?_
    exact W.zret (v := nI 0) hx hb hr rfl (fun T9 hT9 hW9 => ⟨_, rfl, (bI_f (by first | exact okI_n0 c_1 | exact okI_n1 c_9 | exact okI_of c_1 (Int32.not_le.mp c_9))), hT9⟩) (fun q h => by cases h) dX9_hasSentence_17
  refine lv_iconst (v := nI 1) hx hb dX9_hasSentence_12 (by decide +kernel) ?_
  refine lv_goto (tgt := 17) hx hb dX9_hasSentence_13 (by decide) ?_
  exact W.zret (v := nI 1) hx hb hr rfl (fun T9 hT9 hW9 => ⟨_, rfl, (bI_t (by first | exact okI_n0 c_1 | exact okI_n1 c_9 | exact okI_of c_1 (Int32.not_le.mp c_9))), hT9⟩) (fun q h => by cases h) dX9_hasSentence_17
set_option maxHeartbeats 4000000 in
set_option maxRecDepth 100000 in
theorem c_X9_hasDenier (l : Launch) (dC : Nat → ClassId) (dI : Nat → Nat → Nat) (cI cD cR : ClassId) (h a1 a2 a3 a4 a5 n d t al day : Nat) (nd : Nat → Nat) (mk si : Nat → Int32) (kn : Nat → Nat) (mb : Nat → Option Nat) (x : Nat) (hn : n ≤ 9) (hd : d ≤ 6) (ht : t < 512) (hal : al < 64) (hday : day < 2 ^ 30) (gnd : ∀ i, nd i < 512) (gkn : ∀ j, kn j < 512) (hxx : x < 2 ^ 31) : Met l yX9_hasDenier wsX9_hasDenier ({ frames := 0, cells := 0, slots := 0, locals := 0 }) (pcR dC dI cI cD cR [.ref h, .int (nI x)] (fun H => va_P (dC, dI) vwCl ((schW cI cD h a1 a2 a3 a4 a5 n d t al day nd mk si kn mb)) H)) (vp_Si (fun r => r = bI (decide (x < d)))) 0 0 (fun _ => False) := by
  refine Met.ofW (cc := cX9_hasDenier) (maxL := 2) (ret := (some .boolean)) (by decide) rfl ?_
  intro p e s m args below meth c s₁ B hml hv
  obtain ⟨rfl, hH0, hCX⟩ := hv
  have hx := B.exec
  have hb := B.bytes
  have hr := B.returns
  have hts := atoms_spec (ws := wsX9_hasDenier) B.pre
  have hown : s.vm.findClass RX9 = some m.cls := findClass_of_methodNamed B.named
  have hlocks := B.notSynchronized
  have hK := hCX.1
  have hP := hH0
  have hl := lv_entry ([.ref h, .int (nI x)]) (n := 2) (Nat.le_of_ble_eq_true rfl)
  rw [lg_entry_eq]
  generalize (lg_sl ([.ref h, .int (nI x)]) ++ List.replicate (2 - (lg_sl ([.ref h, .int (nI x)])).length) Slot.unset).toArray = ls at hl ⊢
  have hl : lv_has ls 2 [(0, .ref h), (1, .int (nI x))] := hl
  refine lv_iload_n hx hb dX9_hasDenier_0 rfl (lv_at hl 1 rfl) ?_
  refine ho_if_lt0 hx hb dX9_hasDenier_1 (tgt := 16) (by decide) (by omega) ?_
  refine lv_iload_n hx hb dX9_hasDenier_4 rfl (lv_at hl 1 rfl) ?_
  refine lv_aload_n hx hb dX9_hasDenier_5 rfl (lv_at hl 0 rfl) ?_
  refine va_get (D := (dC, dI)) (ci := 9) (v := .int (nI d)) (C := RX9) (T := TX9) (N := 10) hx hb hts (fun _ h => List.mem_cons_of_mem _ (List.mem_append_right _ h)) hown hK hP 0 rfl rfl 1 (by decide) (hts (.fieldLink RX9 34 "HoldsOnceDenied$School" "deniers" "I") (by decide +kernel)) (fun _ h9 => h9) rfl dX9_hasDenier_6 ?_
  refine ho_icmp_ge (tgt := 16) hx hb dX9_hasDenier_9 (by decide) (by omega) (by omega) (fun c_9 => ?_) (fun c_9 => ?_)
  · refine lv_iconst (v := nI 0) hx hb dX9_hasDenier_16 (by decide +kernel) ?_
    exact W.zret (v := nI 0) hx hb hr rfl (fun T9 hT9 hW9 => ⟨_, rfl, (bI_f (by simp; omega)), hT9⟩) (fun q h => by cases h) dX9_hasDenier_17
  refine lv_iconst (v := nI 1) hx hb dX9_hasDenier_12 (by decide +kernel) ?_
  refine lv_goto (tgt := 17) hx hb dX9_hasDenier_13 (by decide) ?_
  exact W.zret (v := nI 1) hx hb hr rfl (fun T9 hT9 hW9 => ⟨_, rfl, (bI_t (by simp; omega)), hT9⟩) (fun q h => by cases h) dX9_hasDenier_17
set_option maxHeartbeats 4000000 in
set_option maxRecDepth 100000 in
theorem c_X9_hasDenier_r (l : Launch) (dC : Nat → ClassId) (dI : Nat → Nat → Nat) (cI cD cR : ClassId) (h a1 a2 a3 a4 a5 n d t al day : Nat) (nd : Nat → Nat) (mk si : Nat → Int32) (kn : Nat → Nat) (mb : Nat → Option Nat) (x : Int32) (hn : n ≤ 9) (hd : d ≤ 6) (ht : t < 512) (hal : al < 64) (hday : day < 2 ^ 30) (gnd : ∀ i, nd i < 512) (gkn : ∀ j, kn j < 512) : Met l yX9_hasDenier wsX9_hasDenier ({ frames := 0, cells := 0, slots := 0, locals := 0 }) (pcR dC dI cI cD cR [.ref h, .int x] (fun H => va_P (dC, dI) vwCl ((schW cI cD h a1 a2 a3 a4 a5 n d t al day nd mk si kn mb)) H)) (vp_Si (fun r => r = bI (okI x d))) 0 0 (fun _ => False) := by
  refine Met.ofW (cc := cX9_hasDenier) (maxL := 2) (ret := (some .boolean)) (by decide) rfl ?_
  intro p e s m args below meth c s₁ B hml hv
  obtain ⟨rfl, hH0, hCX⟩ := hv
  have hx := B.exec
  have hb := B.bytes
  have hr := B.returns
  have hts := atoms_spec (ws := wsX9_hasDenier) B.pre
  have hown : s.vm.findClass RX9 = some m.cls := findClass_of_methodNamed B.named
  have hlocks := B.notSynchronized
  have hK := hCX.1
  have hP := hH0
  have hl := lv_entry ([.ref h, .int x]) (n := 2) (Nat.le_of_ble_eq_true rfl)
  rw [lg_entry_eq]
  generalize (lg_sl ([.ref h, .int x]) ++ List.replicate (2 - (lg_sl ([.ref h, .int x])).length) Slot.unset).toArray = ls at hl ⊢
  have hl : lv_has ls 2 [(0, .ref h), (1, .int x)] := hl
  refine lv_iload_n hx hb dX9_hasDenier_0 rfl (lv_at hl 1 rfl) ?_
  refine lv_if_lt (tgt := 16) hx hb dX9_hasDenier_1 (by decide) (fun c_1 => ?_) (fun c_1 => ?_)
  · refine lv_iconst (v := nI 0) hx hb dX9_hasDenier_16 (by decide +kernel) ?_
    exact W.zret (v := nI 0) hx hb hr rfl (fun T9 hT9 hW9 => ⟨_, rfl, (bI_f (by first | exact okI_n0 c_1 | exact okI_n1 c_9 | exact okI_of c_1 (Int32.not_le.mp c_9))), hT9⟩) (fun q h => by cases h) dX9_hasDenier_17
  refine lv_iload_n hx hb dX9_hasDenier_4 rfl (lv_at hl 1 rfl) ?_
  refine lv_aload_n hx hb dX9_hasDenier_5 rfl (lv_at hl 0 rfl) ?_
  refine va_get (D := (dC, dI)) (ci := 9) (v := .int (nI d)) (C := RX9) (T := TX9) (N := 10) hx hb hts (fun _ h => List.mem_cons_of_mem _ (List.mem_append_right _ h)) hown hK hP 0 rfl rfl 1 (by decide) (hts (.fieldLink RX9 34 "HoldsOnceDenied$School" "deniers" "I") (by decide +kernel)) (fun _ h9 => h9) rfl dX9_hasDenier_6 ?_
  refine lv_icmp_ge (tgt := 16) hx hb dX9_hasDenier_9 (by decide) (fun c_9 => ?_) (fun c_9 => ?_)
  · refine lv_iconst (v := nI 0) hx hb dX9_hasDenier_16 (by decide +kernel) ?_
    exact W.zret (v := nI 0) hx hb hr rfl (fun T9 hT9 hW9 => ⟨_, rfl, (bI_f (by first | exact okI_n0 c_1 | exact okI_n1 c_9 | exact okI_of c_1 (Int32.not_le.mp c_9))), hT9⟩) (fun q h => by cases h) dX9_hasDenier_17
  refine lv_iconst (v := nI 1) hx hb dX9_hasDenier_12 (by decide +kernel) ?_
  refine lv_goto (tgt := 17) hx hb dX9_hasDenier_13 (by decide) ?_
  exact W.zret (v := nI 1) hx hb hr rfl (fun T9 hT9 hW9 => ⟨_, rfl, (bI_t (by first | exact okI_n0 c_1 | exact okI_n1 c_9 | exact okI_of c_1 (Int32.not_le.mp c_9))), hT9⟩) (fun q h => by cases h) dX9_hasDenier_17
set_option maxHeartbeats 4000000 in
set_option maxRecDepth 100000 in
theorem c_X9_needsOf (l : Launch) (dC : Nat → ClassId) (dI : Nat → Nat → Nat) (cI cD cR : ClassId) (h a1 a2 a3 a4 a5 n d t al day : Nat) (nd : Nat → Nat) (mk si : Nat → Int32) (kn : Nat → Nat) (mb : Nat → Option Nat) (x : Nat) (hn : n ≤ 9) (hd : d ≤ 6) (ht : t < 512) (hal : al < 64) (hday : day < 2 ^ 30) (gnd : ∀ i, nd i < 512) (gkn : ∀ j, kn j < 512) (hxx : x < 9) : Met l yX9_needsOf wsX9_needsOf ({ frames := 0, cells := 0, slots := 0, locals := 0 }) (pcR dC dI cI cD cR [.ref h, .int (nI x)] (fun H => va_P (dC, dI) vwCl ((schW cI cD h a1 a2 a3 a4 a5 n d t al day nd mk si kn mb)) H)) (vp_Si (fun r => r = nI (nd x))) 0 0 (fun _ => False) := by
  refine Met.ofW (cc := cX9_needsOf) (maxL := 2) (ret := (some .int)) (by decide) rfl ?_
  intro p e s m args below meth c s₁ B hml hv
  obtain ⟨rfl, hH0, hCX⟩ := hv
  have hx := B.exec
  have hb := B.bytes
  have hr := B.returns
  have hts := atoms_spec (ws := wsX9_needsOf) B.pre
  have hown : s.vm.findClass RX9 = some m.cls := findClass_of_methodNamed B.named
  have hlocks := B.notSynchronized
  have hK := hCX.1
  have hP := hH0
  have hl := lv_entry ([.ref h, .int (nI x)]) (n := 2) (Nat.le_of_ble_eq_true rfl)
  rw [lg_entry_eq]
  generalize (lg_sl ([.ref h, .int (nI x)]) ++ List.replicate (2 - (lg_sl ([.ref h, .int (nI x)])).length) Slot.unset).toArray = ls at hl ⊢
  have hl : lv_has ls 2 [(0, .ref h), (1, .int (nI x))] := hl
  refine lv_iload_n hx hb dX9_needsOf_0 rfl (lv_at hl 1 rfl) ?_
  refine ho_if_lt0 hx hb dX9_needsOf_1 (tgt := 22) (by decide) (by omega) ?_
  refine lv_iload_n hx hb dX9_needsOf_4 rfl (lv_at hl 1 rfl) ?_
  refine lv_aload_n hx hb dX9_needsOf_5 rfl (lv_at hl 0 rfl) ?_
  refine va_get (D := (dC, dI)) (ci := 9) (v := .ref a1) (C := RX9) (T := TX9) (N := 10) hx hb hts (fun _ h => List.mem_cons_of_mem _ (List.mem_append_right _ h)) hown hK hP 0 rfl rfl 5 (by decide) (hts (.fieldLink RX9 9 "HoldsOnceDenied$School" "needs" "[I") (by decide +kernel)) (fun _ h9 => h9) rfl dX9_needsOf_6 ?_
  refine va_alen (v := nI 9) hx hb hK hP 1 0 rfl rfl rfl dX9_needsOf_9 ?_
  refine ho_icmp_ge (tgt := 22) hx hb dX9_needsOf_10 (by decide) (by omega) (by omega) (fun c_10 => ?_) (fun c_10 => ?_)
  · exfalso; omega
  refine lv_aload_n hx hb dX9_needsOf_13 rfl (lv_at hl 0 rfl) ?_
  refine va_get (D := (dC, dI)) (ci := 9) (v := .ref a1) (C := RX9) (T := TX9) (N := 10) hx hb hts (fun _ h => List.mem_cons_of_mem _ (List.mem_append_right _ h)) hown hK hP 0 rfl rfl 5 (by decide) (hts (.fieldLink RX9 9 "HoldsOnceDenied$School" "needs" "[I") (by decide +kernel)) (fun _ h9 => h9) rfl dX9_needsOf_14 ?_
  refine lv_iload_n hx hb dX9_needsOf_17 rfl (lv_at hl 1 rfl) ?_
  refine ho_iald (v := nI (nd x)) hx hb hK hP 1 0 rfl rfl (by omega) (by decide) rfl dX9_needsOf_18 ?_
  refine lv_goto (tgt := 23) hx hb dX9_needsOf_19 (by decide) ?_
  exact W.iret (v := nI (nd x)) hx hb hr (fun T9 hT9 hW9 => ⟨_, rfl, rfl, hT9⟩) (fun q h => by cases h) dX9_needsOf_23
set_option maxHeartbeats 4000000 in
set_option maxRecDepth 100000 in
theorem c_X9_makerOf (l : Launch) (dC : Nat → ClassId) (dI : Nat → Nat → Nat) (cI cD cR : ClassId) (h a1 a2 a3 a4 a5 n d t al day : Nat) (nd : Nat → Nat) (mk si : Nat → Int32) (kn : Nat → Nat) (mb : Nat → Option Nat) (x : Nat) (hn : n ≤ 9) (hd : d ≤ 6) (ht : t < 512) (hal : al < 64) (hday : day < 2 ^ 30) (gnd : ∀ i, nd i < 512) (gkn : ∀ j, kn j < 512) (hxx : x < 9) : Met l yX9_makerOf wsX9_makerOf ({ frames := 0, cells := 0, slots := 0, locals := 0 }) (pcR dC dI cI cD cR [.ref h, .int (nI x)] (fun H => va_P (dC, dI) vwCl ((schW cI cD h a1 a2 a3 a4 a5 n d t al day nd mk si kn mb)) H)) (vp_Si (fun r => r = (mk x))) 0 0 (fun _ => False) := by
  refine Met.ofW (cc := cX9_makerOf) (maxL := 2) (ret := (some .int)) (by decide) rfl ?_
  intro p e s m args below meth c s₁ B hml hv
  obtain ⟨rfl, hH0, hCX⟩ := hv
  have hx := B.exec
  have hb := B.bytes
  have hr := B.returns
  have hts := atoms_spec (ws := wsX9_makerOf) B.pre
  have hown : s.vm.findClass RX9 = some m.cls := findClass_of_methodNamed B.named
  have hlocks := B.notSynchronized
  have hK := hCX.1
  have hP := hH0
  have hl := lv_entry ([.ref h, .int (nI x)]) (n := 2) (Nat.le_of_ble_eq_true rfl)
  rw [lg_entry_eq]
  generalize (lg_sl ([.ref h, .int (nI x)]) ++ List.replicate (2 - (lg_sl ([.ref h, .int (nI x)])).length) Slot.unset).toArray = ls at hl ⊢
  have hl : lv_has ls 2 [(0, .ref h), (1, .int (nI x))] := hl
  refine lv_iload_n hx hb dX9_makerOf_0 rfl (lv_at hl 1 rfl) ?_
  refine ho_if_lt0 hx hb dX9_makerOf_1 (tgt := 22) (by decide) (by omega) ?_
  refine lv_iload_n hx hb dX9_makerOf_4 rfl (lv_at hl 1 rfl) ?_
  refine lv_aload_n hx hb dX9_makerOf_5 rfl (lv_at hl 0 rfl) ?_
  refine va_get (D := (dC, dI)) (ci := 9) (v := .ref a2) (C := RX9) (T := TX9) (N := 10) hx hb hts (fun _ h => List.mem_cons_of_mem _ (List.mem_append_right _ h)) hown hK hP 0 rfl rfl 6 (by decide) (hts (.fieldLink RX9 15 "HoldsOnceDenied$School" "makers" "[I") (by decide +kernel)) (fun _ h9 => h9) rfl dX9_makerOf_6 ?_
  refine va_alen (v := nI 9) hx hb hK hP 2 0 rfl rfl rfl dX9_makerOf_9 ?_
  refine ho_icmp_ge (tgt := 22) hx hb dX9_makerOf_10 (by decide) (by omega) (by omega) (fun c_10 => ?_) (fun c_10 => ?_)
  · exfalso; omega
  refine lv_aload_n hx hb dX9_makerOf_13 rfl (lv_at hl 0 rfl) ?_
  refine va_get (D := (dC, dI)) (ci := 9) (v := .ref a2) (C := RX9) (T := TX9) (N := 10) hx hb hts (fun _ h => List.mem_cons_of_mem _ (List.mem_append_right _ h)) hown hK hP 0 rfl rfl 6 (by decide) (hts (.fieldLink RX9 15 "HoldsOnceDenied$School" "makers" "[I") (by decide +kernel)) (fun _ h9 => h9) rfl dX9_makerOf_14 ?_
  refine lv_iload_n hx hb dX9_makerOf_17 rfl (lv_at hl 1 rfl) ?_
  refine ho_iald (v := (mk x)) hx hb hK hP 2 0 rfl rfl (by omega) (by decide) rfl dX9_makerOf_18 ?_
  refine lv_goto (tgt := 24) hx hb dX9_makerOf_19 (by decide) ?_
  exact W.iret (v := (mk x)) hx hb hr (fun T9 hT9 hW9 => ⟨_, rfl, rfl, hT9⟩) (fun q h => by cases h) dX9_makerOf_24
set_option maxHeartbeats 4000000 in
set_option maxRecDepth 100000 in
theorem c_X9_trueSince (l : Launch) (dC : Nat → ClassId) (dI : Nat → Nat → Nat) (cI cD cR : ClassId) (h a1 a2 a3 a4 a5 n d t al day : Nat) (nd : Nat → Nat) (mk si : Nat → Int32) (kn : Nat → Nat) (mb : Nat → Option Nat) (x : Nat) (hn : n ≤ 9) (hd : d ≤ 6) (ht : t < 512) (hal : al < 64) (hday : day < 2 ^ 30) (gnd : ∀ i, nd i < 512) (gkn : ∀ j, kn j < 512) (hxx : x < 9) : Met l yX9_trueSince wsX9_trueSince ({ frames := 0, cells := 0, slots := 0, locals := 0 }) (pcR dC dI cI cD cR [.ref h, .int (nI x)] (fun H => va_P (dC, dI) vwCl ((schW cI cD h a1 a2 a3 a4 a5 n d t al day nd mk si kn mb)) H)) (vp_Si (fun r => r = (si x))) 0 0 (fun _ => False) := by
  refine Met.ofW (cc := cX9_trueSince) (maxL := 2) (ret := (some .int)) (by decide) rfl ?_
  intro p e s m args below meth c s₁ B hml hv
  obtain ⟨rfl, hH0, hCX⟩ := hv
  have hx := B.exec
  have hb := B.bytes
  have hr := B.returns
  have hts := atoms_spec (ws := wsX9_trueSince) B.pre
  have hown : s.vm.findClass RX9 = some m.cls := findClass_of_methodNamed B.named
  have hlocks := B.notSynchronized
  have hK := hCX.1
  have hP := hH0
  have hl := lv_entry ([.ref h, .int (nI x)]) (n := 2) (Nat.le_of_ble_eq_true rfl)
  rw [lg_entry_eq]
  generalize (lg_sl ([.ref h, .int (nI x)]) ++ List.replicate (2 - (lg_sl ([.ref h, .int (nI x)])).length) Slot.unset).toArray = ls at hl ⊢
  have hl : lv_has ls 2 [(0, .ref h), (1, .int (nI x))] := hl
  refine lv_iload_n hx hb dX9_trueSince_0 rfl (lv_at hl 1 rfl) ?_
  refine ho_if_lt0 hx hb dX9_trueSince_1 (tgt := 22) (by decide) (by omega) ?_
  refine lv_iload_n hx hb dX9_trueSince_4 rfl (lv_at hl 1 rfl) ?_
  refine lv_aload_n hx hb dX9_trueSince_5 rfl (lv_at hl 0 rfl) ?_
  refine va_get (D := (dC, dI)) (ci := 9) (v := .ref a3) (C := RX9) (T := TX9) (N := 10) hx hb hts (fun _ h => List.mem_cons_of_mem _ (List.mem_append_right _ h)) hown hK hP 0 rfl rfl 7 (by decide) (hts (.fieldLink RX9 18 "HoldsOnceDenied$School" "since" "[I") (by decide +kernel)) (fun _ h9 => h9) rfl dX9_trueSince_6 ?_
  refine va_alen (v := nI 9) hx hb hK hP 3 0 rfl rfl rfl dX9_trueSince_9 ?_
  refine ho_icmp_ge (tgt := 22) hx hb dX9_trueSince_10 (by decide) (by omega) (by omega) (fun c_10 => ?_) (fun c_10 => ?_)
  · exfalso; omega
  refine lv_aload_n hx hb dX9_trueSince_13 rfl (lv_at hl 0 rfl) ?_
  refine va_get (D := (dC, dI)) (ci := 9) (v := .ref a3) (C := RX9) (T := TX9) (N := 10) hx hb hts (fun _ h => List.mem_cons_of_mem _ (List.mem_append_right _ h)) hown hK hP 0 rfl rfl 7 (by decide) (hts (.fieldLink RX9 18 "HoldsOnceDenied$School" "since" "[I") (by decide +kernel)) (fun _ h9 => h9) rfl dX9_trueSince_14 ?_
  refine lv_iload_n hx hb dX9_trueSince_17 rfl (lv_at hl 1 rfl) ?_
  refine ho_iald (v := (si x)) hx hb hK hP 3 0 rfl rfl (by omega) (by decide) rfl dX9_trueSince_18 ?_
  refine lv_goto (tgt := 24) hx hb dX9_trueSince_19 (by decide) ?_
  exact W.iret (v := (si x)) hx hb hr (fun T9 hT9 hW9 => ⟨_, rfl, rfl, hT9⟩) (fun q h => by cases h) dX9_trueSince_24
set_option maxHeartbeats 4000000 in
set_option maxRecDepth 100000 in
theorem c_X9_knownTo (l : Launch) (dC : Nat → ClassId) (dI : Nat → Nat → Nat) (cI cD cR : ClassId) (h a1 a2 a3 a4 a5 n d t al day : Nat) (nd : Nat → Nat) (mk si : Nat → Int32) (kn : Nat → Nat) (mb : Nat → Option Nat) (x : Nat) (hn : n ≤ 9) (hd : d ≤ 6) (ht : t < 512) (hal : al < 64) (hday : day < 2 ^ 30) (gnd : ∀ i, nd i < 512) (gkn : ∀ j, kn j < 512) (hxx : x < 6) : Met l yX9_knownTo wsX9_knownTo ({ frames := 0, cells := 0, slots := 0, locals := 0 }) (pcR dC dI cI cD cR [.ref h, .int (nI x)] (fun H => va_P (dC, dI) vwCl ((schW cI cD h a1 a2 a3 a4 a5 n d t al day nd mk si kn mb)) H)) (vp_Si (fun r => r = nI (kn x))) 0 0 (fun _ => False) := by
  refine Met.ofW (cc := cX9_knownTo) (maxL := 2) (ret := (some .int)) (by decide) rfl ?_
  intro p e s m args below meth c s₁ B hml hv
  obtain ⟨rfl, hH0, hCX⟩ := hv
  have hx := B.exec
  have hb := B.bytes
  have hr := B.returns
  have hts := atoms_spec (ws := wsX9_knownTo) B.pre
  have hown : s.vm.findClass RX9 = some m.cls := findClass_of_methodNamed B.named
  have hlocks := B.notSynchronized
  have hK := hCX.1
  have hP := hH0
  have hl := lv_entry ([.ref h, .int (nI x)]) (n := 2) (Nat.le_of_ble_eq_true rfl)
  rw [lg_entry_eq]
  generalize (lg_sl ([.ref h, .int (nI x)]) ++ List.replicate (2 - (lg_sl ([.ref h, .int (nI x)])).length) Slot.unset).toArray = ls at hl ⊢
  have hl : lv_has ls 2 [(0, .ref h), (1, .int (nI x))] := hl
  refine lv_iload_n hx hb dX9_knownTo_0 rfl (lv_at hl 1 rfl) ?_
  refine ho_if_lt0 hx hb dX9_knownTo_1 (tgt := 22) (by decide) (by omega) ?_
  refine lv_iload_n hx hb dX9_knownTo_4 rfl (lv_at hl 1 rfl) ?_
  refine lv_aload_n hx hb dX9_knownTo_5 rfl (lv_at hl 0 rfl) ?_
  refine va_get (D := (dC, dI)) (ci := 9) (v := .ref a4) (C := RX9) (T := TX9) (N := 10) hx hb hts (fun _ h => List.mem_cons_of_mem _ (List.mem_append_right _ h)) hown hK hP 0 rfl rfl 8 (by decide) (hts (.fieldLink RX9 21 "HoldsOnceDenied$School" "known" "[I") (by decide +kernel)) (fun _ h9 => h9) rfl dX9_knownTo_6 ?_
  refine va_alen (v := nI 6) hx hb hK hP 4 0 rfl rfl rfl dX9_knownTo_9 ?_
  refine ho_icmp_ge (tgt := 22) hx hb dX9_knownTo_10 (by decide) (by omega) (by omega) (fun c_10 => ?_) (fun c_10 => ?_)
  · exfalso; omega
  refine lv_aload_n hx hb dX9_knownTo_13 rfl (lv_at hl 0 rfl) ?_
  refine va_get (D := (dC, dI)) (ci := 9) (v := .ref a4) (C := RX9) (T := TX9) (N := 10) hx hb hts (fun _ h => List.mem_cons_of_mem _ (List.mem_append_right _ h)) hown hK hP 0 rfl rfl 8 (by decide) (hts (.fieldLink RX9 21 "HoldsOnceDenied$School" "known" "[I") (by decide +kernel)) (fun _ h9 => h9) rfl dX9_knownTo_14 ?_
  refine lv_iload_n hx hb dX9_knownTo_17 rfl (lv_at hl 1 rfl) ?_
  refine ho_iald (v := nI (kn x)) hx hb hK hP 4 0 rfl rfl (by omega) (by decide) rfl dX9_knownTo_18 ?_
  refine lv_goto (tgt := 23) hx hb dX9_knownTo_19 (by decide) ?_
  exact W.iret (v := nI (kn x)) hx hb hr (fun T9 hT9 hW9 => ⟨_, rfl, rfl, hT9⟩) (fun q h => by cases h) dX9_knownTo_23
set_option maxHeartbeats 4000000 in
set_option maxRecDepth 100000 in
theorem c_X9_memberAt (l : Launch) (dC : Nat → ClassId) (dI : Nat → Nat → Nat) (cI cD cR : ClassId) (h a1 a2 a3 a4 a5 n d t al day : Nat) (nd : Nat → Nat) (mk si : Nat → Int32) (kn : Nat → Nat) (mb : Nat → Option Nat) (x : Nat) (hn : n ≤ 9) (hd : d ≤ 6) (ht : t < 512) (hal : al < 64) (hday : day < 2 ^ 30) (gnd : ∀ i, nd i < 512) (gkn : ∀ j, kn j < 512) (hxx : x < 6) : Met l yX9_memberAt wsX9_memberAt ({ frames := 0, cells := 0, slots := 0, locals := 0 }) (pcR dC dI cI cD cR [.ref h, .int (nI x)] (fun H => va_P (dC, dI) vwCl ((schW cI cD h a1 a2 a3 a4 a5 n d t al day nd mk si kn mb)) H)) (va_Sq (fun r => r = mb x)) 0 0 (fun _ => False) := by
  refine Met.ofW (cc := cX9_memberAt) (maxL := 2) (ret := (some (.object "HoldsOnceDenied$Denier"))) (by decide) rfl ?_
  intro p e s m args below meth c s₁ B hml hv
  obtain ⟨rfl, hH0, hCX⟩ := hv
  have hx := B.exec
  have hb := B.bytes
  have hr := B.returns
  have hts := atoms_spec (ws := wsX9_memberAt) B.pre
  have hown : s.vm.findClass RX9 = some m.cls := findClass_of_methodNamed B.named
  have hlocks := B.notSynchronized
  have hK := hCX.1
  have hP := hH0
  have hl := lv_entry ([.ref h, .int (nI x)]) (n := 2) (Nat.le_of_ble_eq_true rfl)
  rw [lg_entry_eq]
  generalize (lg_sl ([.ref h, .int (nI x)]) ++ List.replicate (2 - (lg_sl ([.ref h, .int (nI x)])).length) Slot.unset).toArray = ls at hl ⊢
  have hl : lv_has ls 2 [(0, .ref h), (1, .int (nI x))] := hl
  refine lv_iload_n hx hb dX9_memberAt_0 rfl (lv_at hl 1 rfl) ?_
  refine ho_if_lt0 hx hb dX9_memberAt_1 (tgt := 22) (by decide) (by omega) ?_
  refine lv_iload_n hx hb dX9_memberAt_4 rfl (lv_at hl 1 rfl) ?_
  refine lv_aload_n hx hb dX9_memberAt_5 rfl (lv_at hl 0 rfl) ?_
  refine va_get (D := (dC, dI)) (ci := 9) (v := .ref a5) (C := RX9) (T := TX9) (N := 10) hx hb hts (fun _ h => List.mem_cons_of_mem _ (List.mem_append_right _ h)) hown hK hP 0 rfl rfl 9 (by decide) (hts (.fieldLink RX9 26 "HoldsOnceDenied$School" "members" "[LHoldsOnceDenied$Denier;") (by decide +kernel)) (fun _ h9 => h9) rfl dX9_memberAt_6 ?_
  refine va_alen (v := nI 6) hx hb hK hP 5 1 rfl rfl rfl dX9_memberAt_9 ?_
  refine ho_icmp_ge (tgt := 22) hx hb dX9_memberAt_10 (by decide) (by omega) (by omega) (fun c_10 => ?_) (fun c_10 => ?_)
  · exfalso; omega
  refine lv_aload_n hx hb dX9_memberAt_13 rfl (lv_at hl 0 rfl) ?_
  refine va_get (D := (dC, dI)) (ci := 9) (v := .ref a5) (C := RX9) (T := TX9) (N := 10) hx hb hts (fun _ h => List.mem_cons_of_mem _ (List.mem_append_right _ h)) hown hK hP 0 rfl rfl 9 (by decide) (hts (.fieldLink RX9 26 "HoldsOnceDenied$School" "members" "[LHoldsOnceDenied$Denier;") (by decide +kernel)) (fun _ h9 => h9) rfl dX9_memberAt_14 ?_
  refine lv_iload_n hx hb dX9_memberAt_17 rfl (lv_at hl 1 rfl) ?_
  refine ho_aald hx hb hK hP 5 1 rfl rfl (by omega) (by decide) dX9_memberAt_18 ?_
  refine lv_goto (tgt := 23) hx hb dX9_memberAt_19 (by decide) ?_
  exact W.aret hx hb hr (Or.inl ⟨_, rfl⟩) (va_rf_or _) (fun T9 hT9 hW9 => ⟨(mb x), rfl, rfl, hT9⟩) (fun q h => by cases h) dX9_memberAt_23
set_option maxHeartbeats 4000000 in
set_option maxRecDepth 100000 in
theorem c_X9_memberAt_w (l : Launch) (dC : Nat → ClassId) (dI : Nat → Nat → Nat) (cI cD cR : ClassId) (h a1 a2 a3 a4 a5 n d t al day : Nat) (nd : Nat → Nat) (mk si : Nat → Int32) (kn : Nat → Nat) (mb : Nat → Option Nat) (x : Nat) (hn : n ≤ 9) (hd : d ≤ 6) (ht : t < 512) (hal : al < 64) (hday : day < 2 ^ 30) (gnd : ∀ i, nd i < 512) (gkn : ∀ j, kn j < 512) (hxx : x < 2 ^ 31) : Met l yX9_memberAt wsX9_memberAt ({ frames := 0, cells := 0, slots := 0, locals := 0 }) (pcR dC dI cI cD cR [.ref h, .int (nI x)] (fun H => va_P (dC, dI) vwCl ((schW cI cD h a1 a2 a3 a4 a5 n d t al day nd mk si kn mb)) H)) (va_Sq (fun r => r = mbW mb x)) 0 0 (fun _ => False) := by
  refine Met.ofW (cc := cX9_memberAt) (maxL := 2) (ret := (some (.object "HoldsOnceDenied$Denier"))) (by decide) rfl ?_
  intro p e s m args below meth c s₁ B hml hv
  obtain ⟨rfl, hH0, hCX⟩ := hv
  have hx := B.exec
  have hb := B.bytes
  have hr := B.returns
  have hts := atoms_spec (ws := wsX9_memberAt) B.pre
  have hown : s.vm.findClass RX9 = some m.cls := findClass_of_methodNamed B.named
  have hlocks := B.notSynchronized
  have hK := hCX.1
  have hP := hH0
  have hl := lv_entry ([.ref h, .int (nI x)]) (n := 2) (Nat.le_of_ble_eq_true rfl)
  rw [lg_entry_eq]
  generalize (lg_sl ([.ref h, .int (nI x)]) ++ List.replicate (2 - (lg_sl ([.ref h, .int (nI x)])).length) Slot.unset).toArray = ls at hl ⊢
  have hl : lv_has ls 2 [(0, .ref h), (1, .int (nI x))] := hl
  refine lv_iload_n hx hb dX9_memberAt_0 rfl (lv_at hl 1 rfl) ?_
  refine ho_if_lt0 hx hb dX9_memberAt_1 (tgt := 22) (by decide) (by omega) ?_
  refine lv_iload_n hx hb dX9_memberAt_4 rfl (lv_at hl 1 rfl) ?_
  refine lv_aload_n hx hb dX9_memberAt_5 rfl (lv_at hl 0 rfl) ?_
  refine va_get (D := (dC, dI)) (ci := 9) (v := .ref a5) (C := RX9) (T := TX9) (N := 10) hx hb hts (fun _ h => List.mem_cons_of_mem _ (List.mem_append_right _ h)) hown hK hP 0 rfl rfl 9 (by decide) (hts (.fieldLink RX9 26 "HoldsOnceDenied$School" "members" "[LHoldsOnceDenied$Denier;") (by decide +kernel)) (fun _ h9 => h9) rfl dX9_memberAt_6 ?_
  refine va_alen (v := nI 6) hx hb hK hP 5 1 rfl rfl rfl dX9_memberAt_9 ?_
  refine ho_icmp_ge (tgt := 22) hx hb dX9_memberAt_10 (by decide) (by omega) (by omega) (fun c_10 => ?_) (fun c_10 => ?_)
  · refine lv_null hx hb dX9_memberAt_22 ?_
    exact W.aret hx hb hr (Or.inl ⟨_, rfl⟩) (Or.inl rfl) (fun T9 hT9 hW9 => ⟨none, rfl, (by (simp [mbW]) <;> (intros; omega)), hT9⟩) (fun q h => by cases h) dX9_memberAt_23
  refine lv_aload_n hx hb dX9_memberAt_13 rfl (lv_at hl 0 rfl) ?_
  refine va_get (D := (dC, dI)) (ci := 9) (v := .ref a5) (C := RX9) (T := TX9) (N := 10) hx hb hts (fun _ h => List.mem_cons_of_mem _ (List.mem_append_right _ h)) hown hK hP 0 rfl rfl 9 (by decide) (hts (.fieldLink RX9 26 "HoldsOnceDenied$School" "members" "[LHoldsOnceDenied$Denier;") (by decide +kernel)) (fun _ h9 => h9) rfl dX9_memberAt_14 ?_
  refine lv_iload_n hx hb dX9_memberAt_17 rfl (lv_at hl 1 rfl) ?_
  refine ho_aald hx hb hK hP 5 1 rfl rfl (by omega) (by decide) dX9_memberAt_18 ?_
  refine lv_goto (tgt := 23) hx hb dX9_memberAt_19 (by decide) ?_
  exact W.aret hx hb hr (Or.inl ⟨_, rfl⟩) (va_rf_or _) (fun T9 hT9 hW9 => ⟨(mb x), rfl, (by (simp [mbW]) <;> (intros; omega)), hT9⟩) (fun q h => by cases h) dX9_memberAt_23
set_option maxHeartbeats 4000000 in
set_option maxRecDepth 100000 in
theorem c_X9_isTrue (l : Launch) (dC : Nat → ClassId) (dI : Nat → Nat → Nat) (cI cD cR : ClassId) (h a1 a2 a3 a4 a5 n d t al day : Nat) (nd : Nat → Nat) (mk si : Nat → Int32) (kn : Nat → Nat) (mb : Nat → Option Nat) (x : Nat) (hn : n ≤ 9) (hd : d ≤ 6) (ht : t < 512) (hal : al < 64) (hday : day < 2 ^ 30) (gnd : ∀ i, nd i < 512) (gkn : ∀ j, kn j < 512) (hxx : x < 9) : Met l yX9_isTrue wsX9_isTrue ({ frames := 1, cells := 0, slots := 0, locals := 21 }) (pcR dC dI cI cD cR [.ref h, .int (nI x)] (fun H => va_P (dC, dI) vwCl ((schW cI cD h a1 a2 a3 a4 a5 n d t al day nd mk si kn mb)) H)) (vp_Si (fun r => r = bI (t.testBit x))) 0 0 (fun _ => False) := by
  refine Met.ofW (cc := cX9_isTrue) (maxL := 2) (ret := (some .boolean)) (by decide) rfl ?_
  intro p e s m args below meth c s₁ B hml hv
  obtain ⟨rfl, hH0, hCX⟩ := hv
  have hx := B.exec
  have hb := B.bytes
  have hr := B.returns
  have hts := atoms_spec (ws := wsX9_isTrue) B.pre
  have hown : s.vm.findClass RX9 = some m.cls := findClass_of_methodNamed B.named
  have hlocks := B.notSynchronized
  have hK := hCX.1
  have hP := hH0
  have hl := lv_entry ([.ref h, .int (nI x)]) (n := 2) (Nat.le_of_ble_eq_true rfl)
  rw [lg_entry_eq]
  generalize (lg_sl ([.ref h, .int (nI x)]) ++ List.replicate (2 - (lg_sl ([.ref h, .int (nI x)])).length) Slot.unset).toArray = ls at hl ⊢
  have hl : lv_has ls 2 [(0, .ref h), (1, .int (nI x))] := hl
  refine lv_aload_n hx hb dX9_isTrue_0 rfl (lv_at hl 0 rfl) ?_
  refine va_get (D := (dC, dI)) (ci := 9) (v := .int (nI t)) (C := RX9) (T := TX9) (N := 10) hx hb hts (fun _ h => List.mem_cons_of_mem _ (List.mem_append_right _ h)) hown hK hP 0 rfl rfl 2 (by decide) (hts (.fieldLink RX9 37 "HoldsOnceDenied$School" "truth" "I") (by decide +kernel)) (fun _ h9 => h9) rfl dX9_isTrue_1 ?_
  refine lv_iload_n hx hb dX9_isTrue_4 rfl (lv_at hl 1 rfl) ?_
  refine vp_callSi ((va_runSN (As := [.int (nI t), .int (nI x)]) (rest := []) ⟨hx, hb, hml, hown, hts⟩ (c_X11_has l dC dI cI cD cR t x (by first | omega | assumption | exact gnd _ | exact gkn _ | exact Nat.lt_trans (gkn _) (by decide) | exact Nat.lt_trans (gnd _) (by decide)) (by first | omega | assumption | exact gnd _ | exact gkn _ | exact Nat.lt_trans (gkn _) (by decide) | exact Nat.lt_trans (gnd _) (by decide))) ⟨va_cnB (host := "HoldsOnceDenied") 2 hts gX9_isTrue_X11_has_n52 rfl rfl rfl (CX.nm hCX 3 rfl) (hts (.initialized RX11) (by decide +kernel)) (by decide +kernel) ⟨Nat.le_of_ble_eq_true rfl, Nat.le_of_ble_eq_true rfl⟩, (hts (.static yX11_has) (by decide +kernel)), trivial⟩ (preS_R hCX (trivial)) rfl rfl hl.1 rfl (lv_room (Nat.le_of_ble_eq_true rfl)) dX9_isTrue_5 ⟨Nat.le_of_ble_eq_true (by first | rfl | decide), Nat.le_of_ble_eq_true (by first | rfl | decide)⟩).run) (fun r_5 hr_5 => ?_)
  subst hr_5
  exact W.zret (v := bI (t.testBit x)) hx hb hr (bI_nar _) (fun T9 hT9 hW9 => ⟨_, rfl, rfl, hT9⟩) (fun q h => by cases h) dX9_isTrue_8
set_option maxHeartbeats 4000000 in
set_option maxRecDepth 100000 in
theorem c_X9_isAlive (l : Launch) (dC : Nat → ClassId) (dI : Nat → Nat → Nat) (cI cD cR : ClassId) (h a1 a2 a3 a4 a5 n d t al day : Nat) (nd : Nat → Nat) (mk si : Nat → Int32) (kn : Nat → Nat) (mb : Nat → Option Nat) (x : Nat) (hn : n ≤ 9) (hd : d ≤ 6) (ht : t < 512) (hal : al < 64) (hday : day < 2 ^ 30) (gnd : ∀ i, nd i < 512) (gkn : ∀ j, kn j < 512) (hxx : x < 9) : Met l yX9_isAlive wsX9_isAlive ({ frames := 1, cells := 0, slots := 0, locals := 21 }) (pcR dC dI cI cD cR [.ref h, .int (nI x)] (fun H => va_P (dC, dI) vwCl ((schW cI cD h a1 a2 a3 a4 a5 n d t al day nd mk si kn mb)) H)) (vp_Si (fun r => r = bI (al.testBit x))) 0 0 (fun _ => False) := by
  refine Met.ofW (cc := cX9_isAlive) (maxL := 2) (ret := (some .boolean)) (by decide) rfl ?_
  intro p e s m args below meth c s₁ B hml hv
  obtain ⟨rfl, hH0, hCX⟩ := hv
  have hx := B.exec
  have hb := B.bytes
  have hr := B.returns
  have hts := atoms_spec (ws := wsX9_isAlive) B.pre
  have hown : s.vm.findClass RX9 = some m.cls := findClass_of_methodNamed B.named
  have hlocks := B.notSynchronized
  have hK := hCX.1
  have hP := hH0
  have hl := lv_entry ([.ref h, .int (nI x)]) (n := 2) (Nat.le_of_ble_eq_true rfl)
  rw [lg_entry_eq]
  generalize (lg_sl ([.ref h, .int (nI x)]) ++ List.replicate (2 - (lg_sl ([.ref h, .int (nI x)])).length) Slot.unset).toArray = ls at hl ⊢
  have hl : lv_has ls 2 [(0, .ref h), (1, .int (nI x))] := hl
  refine lv_aload_n hx hb dX9_isAlive_0 rfl (lv_at hl 0 rfl) ?_
  refine va_get (D := (dC, dI)) (ci := 9) (v := .int (nI al)) (C := RX9) (T := TX9) (N := 10) hx hb hts (fun _ h => List.mem_cons_of_mem _ (List.mem_append_right _ h)) hown hK hP 0 rfl rfl 3 (by decide) (hts (.fieldLink RX9 40 "HoldsOnceDenied$School" "alive" "I") (by decide +kernel)) (fun _ h9 => h9) rfl dX9_isAlive_1 ?_
  refine lv_iload_n hx hb dX9_isAlive_4 rfl (lv_at hl 1 rfl) ?_
  refine vp_callSi ((va_runSN (As := [.int (nI al), .int (nI x)]) (rest := []) ⟨hx, hb, hml, hown, hts⟩ (c_X11_has l dC dI cI cD cR al x (by first | omega | assumption | exact gnd _ | exact gkn _ | exact Nat.lt_trans (gkn _) (by decide) | exact Nat.lt_trans (gnd _) (by decide)) (by first | omega | assumption | exact gnd _ | exact gkn _ | exact Nat.lt_trans (gkn _) (by decide) | exact Nat.lt_trans (gnd _) (by decide))) ⟨va_cnB (host := "HoldsOnceDenied") 2 hts gX9_isAlive_X11_has_n52 rfl rfl rfl (CX.nm hCX 3 rfl) (hts (.initialized RX11) (by decide +kernel)) (by decide +kernel) ⟨Nat.le_of_ble_eq_true rfl, Nat.le_of_ble_eq_true rfl⟩, (hts (.static yX11_has) (by decide +kernel)), trivial⟩ (preS_R hCX (trivial)) rfl rfl hl.1 rfl (lv_room (Nat.le_of_ble_eq_true rfl)) dX9_isAlive_5 ⟨Nat.le_of_ble_eq_true (by first | rfl | decide), Nat.le_of_ble_eq_true (by first | rfl | decide)⟩).run) (fun r_5 hr_5 => ?_)
  subst hr_5
  exact W.zret (v := bI (al.testBit x)) hx hb hr (bI_nar _) (fun T9 hT9 hW9 => ⟨_, rfl, rfl, hT9⟩) (fun q h => by cases h) dX9_isAlive_8
set_option maxHeartbeats 4000000 in
set_option maxRecDepth 100000 in
theorem c_X9_untrue (l : Launch) (dC : Nat → ClassId) (dI : Nat → Nat → Nat) (cI cD cR : ClassId) (h a1 a2 a3 a4 a5 n d t al day : Nat) (nd : Nat → Nat) (mk si : Nat → Int32) (kn : Nat → Nat) (mb : Nat → Option Nat) (hn : n ≤ 9) (hd : d ≤ 6) (ht : t < 512) (hal : al < 64) (hday : day < 2 ^ 30) (gnd : ∀ i, nd i < 512) (gkn : ∀ j, kn j < 512) : Met l yX9_untrue wsX9_untrue ({ frames := 0, cells := 0, slots := 0, locals := 0 }) (pcR dC dI cI cD cR [.ref h] (fun H => va_P (dC, dI) vwCl ((schW cI cD h a1 a2 a3 a4 a5 n d t al day nd mk si kn mb)) H)) (vp_Si (fun r => r = nI (sdf (2 ^ n - 1) t))) 0 0 (fun _ => False) := by
  refine Met.ofW (cc := cX9_untrue) (maxL := 1) (ret := (some .int)) (by decide) rfl ?_
  intro p e s m args below meth c s₁ B hml hv
  obtain ⟨rfl, hH0, hCX⟩ := hv
  have hx := B.exec
  have hb := B.bytes
  have hr := B.returns
  have hts := atoms_spec (ws := wsX9_untrue) B.pre
  have hown : s.vm.findClass RX9 = some m.cls := findClass_of_methodNamed B.named
  have hlocks := B.notSynchronized
  have hK := hCX.1
  have hP := hH0
  have hl := lv_entry ([.ref h]) (n := 1) (Nat.le_of_ble_eq_true rfl)
  rw [lg_entry_eq]
  generalize (lg_sl ([.ref h]) ++ List.replicate (1 - (lg_sl ([.ref h])).length) Slot.unset).toArray = ls at hl ⊢
  have hl : lv_has ls 1 [(0, .ref h)] := hl
  refine lv_iconst (v := nI 1) hx hb dX9_untrue_0 (by decide +kernel) ?_
  refine lv_aload_n hx hb dX9_untrue_1 rfl (lv_at hl 0 rfl) ?_
  refine va_get (D := (dC, dI)) (ci := 9) (v := .int (nI n)) (C := RX9) (T := TX9) (N := 10) hx hb hts (fun _ h => List.mem_cons_of_mem _ (List.mem_append_right _ h)) hown hK hP 0 rfl rfl 0 (by decide) (hts (.fieldLink RX9 30 "HoldsOnceDenied$School" "sentences" "I") (by decide +kernel)) (fun _ h9 => h9) rfl dX9_untrue_2 ?_
  refine ho_shl1 hx hb dX9_untrue_5 (by omega) ?_
  refine lv_iconst (v := nI 1) hx hb dX9_untrue_6 (by decide +kernel) ?_
  refine ho_isub hx hb dX9_untrue_7 Nat.one_le_two_pow ?_
  refine lv_aload_n hx hb dX9_untrue_8 rfl (lv_at hl 0 rfl) ?_
  refine va_get (D := (dC, dI)) (ci := 9) (v := .int (nI t)) (C := RX9) (T := TX9) (N := 10) hx hb hts (fun _ h => List.mem_cons_of_mem _ (List.mem_append_right _ h)) hown hK hP 0 rfl rfl 2 (by decide) (hts (.fieldLink RX9 37 "HoldsOnceDenied$School" "truth" "I") (by decide +kernel)) (fun _ h9 => h9) rfl dX9_untrue_9 ?_
  refine lv_iconst (v := (-1)) hx hb dX9_untrue_12 (by decide +kernel) ?_
  refine lv_ixor hx hb dX9_untrue_13 ?_
  refine ho_iandC hx hb dX9_untrue_14 ?_
  exact W.iret (v := nI (sdf ((2 ^ n) - 1) t)) hx hb hr (fun T9 hT9 hW9 => ⟨_, rfl, (congrArg nI (by simp [*])), hT9⟩) (fun q h => by cases h) dX9_untrue_15
set_option maxHeartbeats 4000000 in
set_option maxRecDepth 100000 in
theorem c_X9_countSentences (l : Launch) (dC : Nat → ClassId) (dI : Nat → Nat → Nat) (cI cD cR : ClassId) (h a1 a2 a3 a4 a5 n d t al day : Nat) (nd : Nat → Nat) (mk si : Nat → Int32) (kn : Nat → Nat) (mb : Nat → Option Nat) (hn : n ≤ 9) (hd : d ≤ 6) (ht : t < 512) (hal : al < 64) (hday : day < 2 ^ 30) (gnd : ∀ i, nd i < 512) (gkn : ∀ j, kn j < 512) : Met l yX9_countSentences wsX9_countSentences ({ frames := 0, cells := 0, slots := 0, locals := 0 }) (pcR dC dI cI cD cR [.ref h] (fun H => va_P (dC, dI) vwCl ((schW cI cD h a1 a2 a3 a4 a5 n d t al day nd mk si kn mb)) H)) (vp_Si (fun r => r = nI n)) 0 0 (fun _ => False) := by
  refine Met.ofW (cc := cX9_countSentences) (maxL := 1) (ret := (some .int)) (by decide) rfl ?_
  intro p e s m args below meth c s₁ B hml hv
  obtain ⟨rfl, hH0, hCX⟩ := hv
  have hx := B.exec
  have hb := B.bytes
  have hr := B.returns
  have hts := atoms_spec (ws := wsX9_countSentences) B.pre
  have hown : s.vm.findClass RX9 = some m.cls := findClass_of_methodNamed B.named
  have hlocks := B.notSynchronized
  have hK := hCX.1
  have hP := hH0
  have hl := lv_entry ([.ref h]) (n := 1) (Nat.le_of_ble_eq_true rfl)
  rw [lg_entry_eq]
  generalize (lg_sl ([.ref h]) ++ List.replicate (1 - (lg_sl ([.ref h])).length) Slot.unset).toArray = ls at hl ⊢
  have hl : lv_has ls 1 [(0, .ref h)] := hl
  refine lv_aload_n hx hb dX9_countSentences_0 rfl (lv_at hl 0 rfl) ?_
  refine va_get (D := (dC, dI)) (ci := 9) (v := .int (nI n)) (C := RX9) (T := TX9) (N := 10) hx hb hts (fun _ h => List.mem_cons_of_mem _ (List.mem_append_right _ h)) hown hK hP 0 rfl rfl 0 (by decide) (hts (.fieldLink RX9 30 "HoldsOnceDenied$School" "sentences" "I") (by decide +kernel)) (fun _ h9 => h9) rfl dX9_countSentences_1 ?_
  exact W.iret (v := nI n) hx hb hr (fun T9 hT9 hW9 => ⟨_, rfl, rfl, hT9⟩) (fun q h => by cases h) dX9_countSentences_4
set_option maxHeartbeats 4000000 in
set_option maxRecDepth 100000 in
theorem c_X9_countDeniers (l : Launch) (dC : Nat → ClassId) (dI : Nat → Nat → Nat) (cI cD cR : ClassId) (h a1 a2 a3 a4 a5 n d t al day : Nat) (nd : Nat → Nat) (mk si : Nat → Int32) (kn : Nat → Nat) (mb : Nat → Option Nat) (hn : n ≤ 9) (hd : d ≤ 6) (ht : t < 512) (hal : al < 64) (hday : day < 2 ^ 30) (gnd : ∀ i, nd i < 512) (gkn : ∀ j, kn j < 512) : Met l yX9_countDeniers wsX9_countDeniers ({ frames := 0, cells := 0, slots := 0, locals := 0 }) (pcR dC dI cI cD cR [.ref h] (fun H => va_P (dC, dI) vwCl ((schW cI cD h a1 a2 a3 a4 a5 n d t al day nd mk si kn mb)) H)) (vp_Si (fun r => r = nI d)) 0 0 (fun _ => False) := by
  refine Met.ofW (cc := cX9_countDeniers) (maxL := 1) (ret := (some .int)) (by decide) rfl ?_
  intro p e s m args below meth c s₁ B hml hv
  obtain ⟨rfl, hH0, hCX⟩ := hv
  have hx := B.exec
  have hb := B.bytes
  have hr := B.returns
  have hts := atoms_spec (ws := wsX9_countDeniers) B.pre
  have hown : s.vm.findClass RX9 = some m.cls := findClass_of_methodNamed B.named
  have hlocks := B.notSynchronized
  have hK := hCX.1
  have hP := hH0
  have hl := lv_entry ([.ref h]) (n := 1) (Nat.le_of_ble_eq_true rfl)
  rw [lg_entry_eq]
  generalize (lg_sl ([.ref h]) ++ List.replicate (1 - (lg_sl ([.ref h])).length) Slot.unset).toArray = ls at hl ⊢
  have hl : lv_has ls 1 [(0, .ref h)] := hl
  refine lv_aload_n hx hb dX9_countDeniers_0 rfl (lv_at hl 0 rfl) ?_
  refine va_get (D := (dC, dI)) (ci := 9) (v := .int (nI d)) (C := RX9) (T := TX9) (N := 10) hx hb hts (fun _ h => List.mem_cons_of_mem _ (List.mem_append_right _ h)) hown hK hP 0 rfl rfl 1 (by decide) (hts (.fieldLink RX9 34 "HoldsOnceDenied$School" "deniers" "I") (by decide +kernel)) (fun _ h9 => h9) rfl dX9_countDeniers_1 ?_
  exact W.iret (v := nI d) hx hb hr (fun T9 hT9 hW9 => ⟨_, rfl, rfl, hT9⟩) (fun q h => by cases h) dX9_countDeniers_4
set_option maxHeartbeats 4000000 in
set_option maxRecDepth 100000 in
theorem c_X9_today (l : Launch) (dC : Nat → ClassId) (dI : Nat → Nat → Nat) (cI cD cR : ClassId) (h a1 a2 a3 a4 a5 n d t al day : Nat) (nd : Nat → Nat) (mk si : Nat → Int32) (kn : Nat → Nat) (mb : Nat → Option Nat) (hn : n ≤ 9) (hd : d ≤ 6) (ht : t < 512) (hal : al < 64) (hday : day < 2 ^ 30) (gnd : ∀ i, nd i < 512) (gkn : ∀ j, kn j < 512) : Met l yX9_today wsX9_today ({ frames := 0, cells := 0, slots := 0, locals := 0 }) (pcR dC dI cI cD cR [.ref h] (fun H => va_P (dC, dI) vwCl ((schW cI cD h a1 a2 a3 a4 a5 n d t al day nd mk si kn mb)) H)) (vp_Si (fun r => r = nI day)) 0 0 (fun _ => False) := by
  refine Met.ofW (cc := cX9_today) (maxL := 1) (ret := (some .int)) (by decide) rfl ?_
  intro p e s m args below meth c s₁ B hml hv
  obtain ⟨rfl, hH0, hCX⟩ := hv
  have hx := B.exec
  have hb := B.bytes
  have hr := B.returns
  have hts := atoms_spec (ws := wsX9_today) B.pre
  have hown : s.vm.findClass RX9 = some m.cls := findClass_of_methodNamed B.named
  have hlocks := B.notSynchronized
  have hK := hCX.1
  have hP := hH0
  have hl := lv_entry ([.ref h]) (n := 1) (Nat.le_of_ble_eq_true rfl)
  rw [lg_entry_eq]
  generalize (lg_sl ([.ref h]) ++ List.replicate (1 - (lg_sl ([.ref h])).length) Slot.unset).toArray = ls at hl ⊢
  have hl : lv_has ls 1 [(0, .ref h)] := hl
  refine lv_aload_n hx hb dX9_today_0 rfl (lv_at hl 0 rfl) ?_
  refine va_get (D := (dC, dI)) (ci := 9) (v := .int (nI day)) (C := RX9) (T := TX9) (N := 10) hx hb hts (fun _ h => List.mem_cons_of_mem _ (List.mem_append_right _ h)) hown hK hP 0 rfl rfl 4 (by decide) (hts (.fieldLink RX9 43 "HoldsOnceDenied$School" "day" "I") (by decide +kernel)) (fun _ h9 => h9) rfl dX9_today_1 ?_
  exact W.iret (v := nI day) hx hb hr (fun T9 hT9 hW9 => ⟨_, rfl, rfl, hT9⟩) (fun q h => by cases h) dX9_today_4
set_option maxHeartbeats 4000000 in
set_option maxRecDepth 100000 in
theorem c_X9_isOddDay (l : Launch) (dC : Nat → ClassId) (dI : Nat → Nat → Nat) (cI cD cR : ClassId) (h a1 a2 a3 a4 a5 n d t al day : Nat) (nd : Nat → Nat) (mk si : Nat → Int32) (kn : Nat → Nat) (mb : Nat → Option Nat) (hn : n ≤ 9) (hd : d ≤ 6) (ht : t < 512) (hal : al < 64) (hday : day < 2 ^ 30) (gnd : ∀ i, nd i < 512) (gkn : ∀ j, kn j < 512) : Met l yX9_isOddDay wsX9_isOddDay ({ frames := 0, cells := 0, slots := 0, locals := 0 }) (pcR dC dI cI cD cR [.ref h] (fun H => va_P (dC, dI) vwCl ((schW cI cD h a1 a2 a3 a4 a5 n d t al day nd mk si kn mb)) H)) (vp_Si (fun r => r = bI (day % 2 != 0))) 0 0 (fun _ => False) := by
  refine Met.ofW (cc := cX9_isOddDay) (maxL := 1) (ret := (some .boolean)) (by decide) rfl ?_
  intro p e s m args below meth c s₁ B hml hv
  obtain ⟨rfl, hH0, hCX⟩ := hv
  have hx := B.exec
  have hb := B.bytes
  have hr := B.returns
  have hts := atoms_spec (ws := wsX9_isOddDay) B.pre
  have hown : s.vm.findClass RX9 = some m.cls := findClass_of_methodNamed B.named
  have hlocks := B.notSynchronized
  have hK := hCX.1
  have hP := hH0
  have hl := lv_entry ([.ref h]) (n := 1) (Nat.le_of_ble_eq_true rfl)
  rw [lg_entry_eq]
  generalize (lg_sl ([.ref h]) ++ List.replicate (1 - (lg_sl ([.ref h])).length) Slot.unset).toArray = ls at hl ⊢
  have hl : lv_has ls 1 [(0, .ref h)] := hl
  refine lv_aload_n hx hb dX9_isOddDay_0 rfl (lv_at hl 0 rfl) ?_
  refine va_get (D := (dC, dI)) (ci := 9) (v := .int (nI day)) (C := RX9) (T := TX9) (N := 10) hx hb hts (fun _ h => List.mem_cons_of_mem _ (List.mem_append_right _ h)) hown hK hP 0 rfl rfl 4 (by decide) (hts (.fieldLink RX9 43 "HoldsOnceDenied$School" "day" "I") (by decide +kernel)) (fun _ h9 => h9) rfl dX9_isOddDay_1 ?_
  refine lv_iconst (v := nI 2) hx hb dX9_isOddDay_4 (by decide +kernel) ?_
  refine ho_irem hx hb dX9_isOddDay_5 (by omega) (by omega) (by omega) ?_
  refine ho_if_eq (tgt := 13) hx hb dX9_isOddDay_6 (by decide) (by omega) (fun c_6 => ?_) (fun c_6 => ?_)
  · refine lv_iconst (v := nI 0) hx hb dX9_isOddDay_13 (by decide +kernel) ?_
    exact W.zret (v := nI 0) hx hb hr rfl (fun T9 hT9 hW9 => ⟨_, rfl, (bI_f (by simp_all)), hT9⟩) (fun q h => by cases h) dX9_isOddDay_14
  refine lv_iconst (v := nI 1) hx hb dX9_isOddDay_9 (by decide +kernel) ?_
  refine lv_goto (tgt := 14) hx hb dX9_isOddDay_10 (by decide) ?_
  exact W.zret (v := nI 1) hx hb hr rfl (fun T9 hT9 hW9 => ⟨_, rfl, (bI_t (by simp_all)), hT9⟩) (fun q h => by cases h) dX9_isOddDay_14
set_option maxHeartbeats 4000000 in
set_option maxRecDepth 100000 in
theorem c_J6_bitCount_0f7a4 (l : Launch) (dC : Nat → ClassId) (dI : Nat → Nat → Nat) (cI cD cR : ClassId) (v : Nat) (hv9 : v < 1024) : Met l yJ6_bitCount_0f7a4 wsJ6_bitCount_0f7a4 ({ frames := 0, cells := 0, slots := 0, locals := 0 }) (pcR dC dI cI cD cR [.int (nI v)] (fun H => True)) (vp_Si (fun r => r = nI (pcN v))) 0 0 (fun _ => False) := by
  refine Met.ofW (cc := cJ6_bitCount_0f7a4) (maxL := 1) (ret := (some .int)) (by decide) rfl ?_
  intro p e s m args below meth c s₁ B hml hv
  obtain ⟨rfl, hH0, hCX⟩ := hv
  have hx := B.exec
  have hb := B.bytes
  have hr := B.returns
  have hts := atoms_spec (ws := wsJ6_bitCount_0f7a4) B.pre
  have hown : s.vm.findClass RJ6 = some m.cls := findClass_of_methodNamed B.named
  have hlocks := B.notSynchronized
  have hK := hCX.1
  have hl := lv_entry ([.int (nI v)]) (n := 1) (Nat.le_of_ble_eq_true rfl)
  rw [lg_entry_eq]
  generalize (lg_sl ([.int (nI v)]) ++ List.replicate (1 - (lg_sl ([.int (nI v)])).length) Slot.unset).toArray = ls at hl ⊢
  have hl : lv_has ls 1 [(0, .int (nI v))] := hl
  refine lv_iload_n hx hb dJ6_bitCount_0f7a4_0 rfl (lv_at hl 0 rfl) ?_
  refine lv_iload_n hx hb dJ6_bitCount_0f7a4_1 rfl (lv_at hl 0 rfl) ?_
  refine lv_iconst (v := nI 1) hx hb dJ6_bitCount_0f7a4_2 (by decide +kernel) ?_
  refine lv_iushr (v := (((nI v)).toUInt32 >>> ((nI 1).toUInt32 &&& Int32.toUInt32 31)).toInt32) hx hb dJ6_bitCount_0f7a4_3 rfl ?_
  refine lv_ldcw (v := 1431655765) hx hb hown (hts (.constant RJ6 265 (1431655765)) (by decide +kernel)) dJ6_bitCount_0f7a4_4 ?_
  refine ho_tope (y := nI 1431655765) (by decide +kernel) ?_
  refine lv_iand hx hb dJ6_bitCount_0f7a4_7 ?_
  refine lv_isub hx hb dJ6_bitCount_0f7a4_8 ?_
  refine lv_topi (fun z0 ez0 => ?_)
  refine lv_istore_n (lv' := [(0, .int z0)]) hx hb dJ6_bitCount_0f7a4_9 rfl hl (by decide) rfl (fun ls hl => ?_)
  refine lv_iload_n hx hb dJ6_bitCount_0f7a4_10 rfl (lv_at hl 0 rfl) ?_
  refine lv_ldcw (v := 858993459) hx hb hown (hts (.constant RJ6 266 (858993459)) (by decide +kernel)) dJ6_bitCount_0f7a4_11 ?_
  refine ho_tope (y := nI 858993459) (by decide +kernel) ?_
  refine lv_iand hx hb dJ6_bitCount_0f7a4_14 ?_
  refine lv_iload_n hx hb dJ6_bitCount_0f7a4_15 rfl (lv_at hl 0 rfl) ?_
  refine lv_iconst (v := nI 2) hx hb dJ6_bitCount_0f7a4_16 (by decide +kernel) ?_
  refine lv_iushr (v := ((z0).toUInt32 >>> ((nI 2).toUInt32 &&& Int32.toUInt32 31)).toInt32) hx hb dJ6_bitCount_0f7a4_17 rfl ?_
  refine lv_ldcw (v := 858993459) hx hb hown (hts (.constant RJ6 266 (858993459)) (by decide +kernel)) dJ6_bitCount_0f7a4_18 ?_
  refine ho_tope (y := nI 858993459) (by decide +kernel) ?_
  refine lv_iand hx hb dJ6_bitCount_0f7a4_21 ?_
  refine lv_iadd hx hb dJ6_bitCount_0f7a4_22 ?_
  refine lv_topi (fun z1 ez1 => ?_)
  refine lv_istore_n (lv' := [(0, .int z1)]) hx hb dJ6_bitCount_0f7a4_23 rfl hl (by decide) rfl (fun ls hl => ?_)
  refine lv_iload_n hx hb dJ6_bitCount_0f7a4_24 rfl (lv_at hl 0 rfl) ?_
  refine lv_iload_n hx hb dJ6_bitCount_0f7a4_25 rfl (lv_at hl 0 rfl) ?_
  refine lv_iconst (v := nI 4) hx hb dJ6_bitCount_0f7a4_26 (by decide +kernel) ?_
  refine lv_iushr (v := ((z1).toUInt32 >>> ((nI 4).toUInt32 &&& Int32.toUInt32 31)).toInt32) hx hb dJ6_bitCount_0f7a4_27 rfl ?_
  refine lv_iadd hx hb dJ6_bitCount_0f7a4_28 ?_
  refine lv_ldcw (v := 252645135) hx hb hown (hts (.constant RJ6 267 (252645135)) (by decide +kernel)) dJ6_bitCount_0f7a4_29 ?_
  refine ho_tope (y := nI 252645135) (by decide +kernel) ?_
  refine lv_iand hx hb dJ6_bitCount_0f7a4_32 ?_
  refine lv_topi (fun z2 ez2 => ?_)
  refine lv_istore_n (lv' := [(0, .int z2)]) hx hb dJ6_bitCount_0f7a4_33 rfl hl (by decide) rfl (fun ls hl => ?_)
  refine lv_iload_n hx hb dJ6_bitCount_0f7a4_34 rfl (lv_at hl 0 rfl) ?_
  refine lv_iload_n hx hb dJ6_bitCount_0f7a4_35 rfl (lv_at hl 0 rfl) ?_
  refine lv_bipush (v := nI 8) hx hb dJ6_bitCount_0f7a4_36 (by decide +kernel) ?_
  refine lv_iushr (v := ((z2).toUInt32 >>> ((nI 8).toUInt32 &&& Int32.toUInt32 31)).toInt32) hx hb dJ6_bitCount_0f7a4_38 rfl ?_
  refine lv_iadd hx hb dJ6_bitCount_0f7a4_39 ?_
  refine lv_topi (fun z3 ez3 => ?_)
  refine lv_istore_n (lv' := [(0, .int z3)]) hx hb dJ6_bitCount_0f7a4_40 rfl hl (by decide) rfl (fun ls hl => ?_)
  refine lv_iload_n hx hb dJ6_bitCount_0f7a4_41 rfl (lv_at hl 0 rfl) ?_
  refine lv_iload_n hx hb dJ6_bitCount_0f7a4_42 rfl (lv_at hl 0 rfl) ?_
  refine lv_bipush (v := nI 16) hx hb dJ6_bitCount_0f7a4_43 (by decide +kernel) ?_
  refine lv_iushr (v := ((z3).toUInt32 >>> ((nI 16).toUInt32 &&& Int32.toUInt32 31)).toInt32) hx hb dJ6_bitCount_0f7a4_45 rfl ?_
  refine lv_iadd hx hb dJ6_bitCount_0f7a4_46 ?_
  refine lv_topi (fun z4 ez4 => ?_)
  refine lv_istore_n (lv' := [(0, .int z4)]) hx hb dJ6_bitCount_0f7a4_47 rfl hl (by decide) rfl (fun ls hl => ?_)
  refine lv_iload_n hx hb dJ6_bitCount_0f7a4_48 rfl (lv_at hl 0 rfl) ?_
  refine lv_bipush (v := nI 63) hx hb dJ6_bitCount_0f7a4_49 (by decide +kernel) ?_
  refine lv_iand hx hb dJ6_bitCount_0f7a4_51 ?_
  exact W.iret (v := (z4 &&& nI 63)) hx hb hr (fun T9 hT9 hW9 => ⟨_, rfl, (by rw [ez4, ez3, ez2, ez1, ez0]; exact bcN v hv9), hT9⟩) (fun q h => by cases h) dJ6_bitCount_0f7a4_52
set_option maxHeartbeats 4000000 in
set_option maxRecDepth 100000 in
theorem c_X9_countTrue (l : Launch) (dC : Nat → ClassId) (dI : Nat → Nat → Nat) (cI cD cR : ClassId) (h a1 a2 a3 a4 a5 n d t al day : Nat) (nd : Nat → Nat) (mk si : Nat → Int32) (kn : Nat → Nat) (mb : Nat → Option Nat) (hn : n ≤ 9) (hd : d ≤ 6) (ht : t < 512) (hal : al < 64) (hday : day < 2 ^ 30) (gnd : ∀ i, nd i < 512) (gkn : ∀ j, kn j < 512) : Met l yX9_countTrue wsX9_countTrue ({ frames := 1, cells := 0, slots := 0, locals := 20 }) (pcR dC dI cI cD cR [.ref h] (fun H => va_P (dC, dI) vwCl ((schW cI cD h a1 a2 a3 a4 a5 n d t al day nd mk si kn mb)) H)) (vp_Si (fun r => r = nI (pcN t))) 0 0 (fun _ => False) := by
  refine Met.ofW (cc := cX9_countTrue) (maxL := 1) (ret := (some .int)) (by decide) rfl ?_
  intro p e s m args below meth c s₁ B hml hv
  obtain ⟨rfl, hH0, hCX⟩ := hv
  have hx := B.exec
  have hb := B.bytes
  have hr := B.returns
  have hts := atoms_spec (ws := wsX9_countTrue) B.pre
  have hown : s.vm.findClass RX9 = some m.cls := findClass_of_methodNamed B.named
  have hlocks := B.notSynchronized
  have hK := hCX.1
  have hP := hH0
  have hl := lv_entry ([.ref h]) (n := 1) (Nat.le_of_ble_eq_true rfl)
  rw [lg_entry_eq]
  generalize (lg_sl ([.ref h]) ++ List.replicate (1 - (lg_sl ([.ref h])).length) Slot.unset).toArray = ls at hl ⊢
  have hl : lv_has ls 1 [(0, .ref h)] := hl
  refine lv_aload_n hx hb dX9_countTrue_0 rfl (lv_at hl 0 rfl) ?_
  refine va_get (D := (dC, dI)) (ci := 9) (v := .int (nI t)) (C := RX9) (T := TX9) (N := 10) hx hb hts (fun _ h => List.mem_cons_of_mem _ (List.mem_append_right _ h)) hown hK hP 0 rfl rfl 2 (by decide) (hts (.fieldLink RX9 37 "HoldsOnceDenied$School" "truth" "I") (by decide +kernel)) (fun _ h9 => h9) rfl dX9_countTrue_1 ?_
  refine vp_callSi ((va_runS (As := [.int (nI t)]) (rest := []) ⟨hx, hb, hml, hown, hts⟩ (c_J6_bitCount_0f7a4 l dC dI cI cD cR t (by first | omega | assumption | exact gnd _ | exact gkn _ | exact Nat.lt_trans (gkn _) (by decide) | exact Nat.lt_trans (gnd _) (by decide))) (va_cwS 1 hts gX9_countTrue_J6_bitCount_0f7a4 rfl rfl rfl (by decide +kernel) ⟨Nat.le_of_ble_eq_true rfl, Nat.le_of_ble_eq_true rfl⟩) (preS_R hCX (trivial)) rfl rfl hl.1 rfl (lv_room (Nat.le_of_ble_eq_true rfl)) dX9_countTrue_4 ⟨Nat.le_of_ble_eq_true (by first | rfl | decide), Nat.le_of_ble_eq_true (by first | rfl | decide)⟩).run) (fun r_4 hr_4 => ?_)
  subst hr_4
  exact W.iret (v := nI (pcN t)) hx hb hr (fun T9 hT9 hW9 => ⟨_, rfl, rfl, hT9⟩) (fun q h => by cases h) dX9_countTrue_7
set_option maxHeartbeats 4000000 in
set_option maxRecDepth 100000 in
theorem c_X9_countAlive (l : Launch) (dC : Nat → ClassId) (dI : Nat → Nat → Nat) (cI cD cR : ClassId) (h a1 a2 a3 a4 a5 n d t al day : Nat) (nd : Nat → Nat) (mk si : Nat → Int32) (kn : Nat → Nat) (mb : Nat → Option Nat) (hn : n ≤ 9) (hd : d ≤ 6) (ht : t < 512) (hal : al < 64) (hday : day < 2 ^ 30) (gnd : ∀ i, nd i < 512) (gkn : ∀ j, kn j < 512) : Met l yX9_countAlive wsX9_countAlive ({ frames := 1, cells := 0, slots := 0, locals := 20 }) (pcR dC dI cI cD cR [.ref h] (fun H => va_P (dC, dI) vwCl ((schW cI cD h a1 a2 a3 a4 a5 n d t al day nd mk si kn mb)) H)) (vp_Si (fun r => r = nI (pcN al))) 0 0 (fun _ => False) := by
  refine Met.ofW (cc := cX9_countAlive) (maxL := 1) (ret := (some .int)) (by decide) rfl ?_
  intro p e s m args below meth c s₁ B hml hv
  obtain ⟨rfl, hH0, hCX⟩ := hv
  have hx := B.exec
  have hb := B.bytes
  have hr := B.returns
  have hts := atoms_spec (ws := wsX9_countAlive) B.pre
  have hown : s.vm.findClass RX9 = some m.cls := findClass_of_methodNamed B.named
  have hlocks := B.notSynchronized
  have hK := hCX.1
  have hP := hH0
  have hl := lv_entry ([.ref h]) (n := 1) (Nat.le_of_ble_eq_true rfl)
  rw [lg_entry_eq]
  generalize (lg_sl ([.ref h]) ++ List.replicate (1 - (lg_sl ([.ref h])).length) Slot.unset).toArray = ls at hl ⊢
  have hl : lv_has ls 1 [(0, .ref h)] := hl
  refine lv_aload_n hx hb dX9_countAlive_0 rfl (lv_at hl 0 rfl) ?_
  refine va_get (D := (dC, dI)) (ci := 9) (v := .int (nI al)) (C := RX9) (T := TX9) (N := 10) hx hb hts (fun _ h => List.mem_cons_of_mem _ (List.mem_append_right _ h)) hown hK hP 0 rfl rfl 3 (by decide) (hts (.fieldLink RX9 40 "HoldsOnceDenied$School" "alive" "I") (by decide +kernel)) (fun _ h9 => h9) rfl dX9_countAlive_1 ?_
  refine vp_callSi ((va_runS (As := [.int (nI al)]) (rest := []) ⟨hx, hb, hml, hown, hts⟩ (c_J6_bitCount_0f7a4 l dC dI cI cD cR al (by first | omega | assumption | exact gnd _ | exact gkn _ | exact Nat.lt_trans (gkn _) (by decide) | exact Nat.lt_trans (gnd _) (by decide))) (va_cwS 1 hts gX9_countAlive_J6_bitCount_0f7a4 rfl rfl rfl (by decide +kernel) ⟨Nat.le_of_ble_eq_true rfl, Nat.le_of_ble_eq_true rfl⟩) (preS_R hCX (trivial)) rfl rfl hl.1 rfl (lv_room (Nat.le_of_ble_eq_true rfl)) dX9_countAlive_4 ⟨Nat.le_of_ble_eq_true (by first | rfl | decide), Nat.le_of_ble_eq_true (by first | rfl | decide)⟩).run) (fun r_4 hr_4 => ?_)
  subst hr_4
  exact W.iret (v := nI (pcN al)) hx hb hr (fun T9 hT9 hW9 => ⟨_, rfl, rfl, hT9⟩) (fun q h => by cases h) dX9_countAlive_7
set_option maxHeartbeats 4000000 in
set_option maxRecDepth 100000 in
theorem c_X9_isAllowed (l : Launch) (dC : Nat → ClassId) (dI : Nat → Nat → Nat) (cI cD cR : ClassId) (h a1 a2 a3 a4 a5 n d t al day : Nat) (nd : Nat → Nat) (mk si : Nat → Int32) (kn : Nat → Nat) (mb : Nat → Option Nat) (x y : Nat) (DL : List Nat) (kd fg : Nat → Nat) (hn : n ≤ 9) (hd : d ≤ 6) (ht : t < 512) (hal : al < 64) (hday : day < 2 ^ 30) (gnd : ∀ i, nd i < 512) (gkn : ∀ j, kn j < 512) (hxx : x < 2 ^ 31) (hyy : y < 2 ^ 31) (gmb : ∀ j a, mb j = some a → a ∈ DL) : Met l yX9_isAllowed wsX9_isAllowed ({ frames := 4, cells := 0, slots := 0, locals := 93 }) (pcR dC dI cI cD cR [.ref h, .int (nI x), .int (nI y)] (fun H => va_P (dC, dI) vwCl ((schW cI cD h a1 a2 a3 a4 a5 n d t al day nd mk si kn mb)) H ∧ DP dC dI DL kd fg H)) (vp_Si (fun r => r = bI (alB n al t kn nd mb kd fg x y))) 0 0 (fun _ => False) := by
  refine Met.ofW (cc := cX9_isAllowed) (maxL := 4) (ret := (some .boolean)) (by decide) rfl ?_
  intro p e s m args below meth c s₁ B hml hv
  obtain ⟨rfl, hH0, hCX⟩ := hv
  have hx := B.exec
  have hb := B.bytes
  have hr := B.returns
  have hts := atoms_spec (ws := wsX9_isAllowed) B.pre
  have hown : s.vm.findClass RX9 = some m.cls := findClass_of_methodNamed B.named
  have hlocks := B.notSynchronized
  have hK := hCX.1
  obtain ⟨hP, hDP⟩ := hH0
  have hl := lv_entry ([.ref h, .int (nI x), .int (nI y)]) (n := 4) (Nat.le_of_ble_eq_true rfl)
  rw [lg_entry_eq]
  generalize (lg_sl ([.ref h, .int (nI x), .int (nI y)]) ++ List.replicate (4 - (lg_sl ([.ref h, .int (nI x), .int (nI y)])).length) Slot.unset).toArray = ls at hl ⊢
  have hl : lv_has ls 4 [(0, .ref h), (1, .int (nI x)), (2, .int (nI y))] := hl
  refine lv_aload_n hx hb dX9_isAllowed_0 rfl (lv_at hl 0 rfl) ?_
  refine lv_iload_n hx hb dX9_isAllowed_1 rfl (lv_at hl 1 rfl) ?_
  refine va_csq ((va_runV (As := [.int (nI x)]) (rest := []) ⟨hx, hb, hml, hown, hts⟩ (c_X9_memberAt_w l dC dI cI cD cR h a1 a2 a3 a4 a5 n d t al day nd mk si kn mb x (by first | omega | assumption | exact gnd _ | exact gkn _ | exact Nat.lt_trans (gkn _) (by decide) | exact Nat.lt_trans (gnd _) (by decide)) (by first | omega | assumption | exact gnd _ | exact gkn _ | exact Nat.lt_trans (gkn _) (by decide) | exact Nat.lt_trans (gnd _) (by decide)) (by first | omega | assumption | exact gnd _ | exact gkn _ | exact Nat.lt_trans (gkn _) (by decide) | exact Nat.lt_trans (gnd _) (by decide)) (by first | omega | assumption | exact gnd _ | exact gkn _ | exact Nat.lt_trans (gkn _) (by decide) | exact Nat.lt_trans (gnd _) (by decide)) (by first | omega | assumption | exact gnd _ | exact gkn _ | exact Nat.lt_trans (gkn _) (by decide) | exact Nat.lt_trans (gnd _) (by decide)) gnd gkn (by first | omega | assumption | exact gnd _ | exact gkn _ | exact Nat.lt_trans (gkn _) (by decide) | exact Nat.lt_trans (gnd _) (by decide))) (cwV 1 hts gX9_isAllowed_X9_memberAt rfl rfl rfl (by decide +kernel) ⟨Nat.le_of_ble_eq_true rfl, Nat.le_of_ble_eq_true rfl⟩) (preV_R hCX (va_recv hK hP (ci := 9) (q0 := 0) rfl rfl) (hP)) rfl rfl hl.1 rfl (lv_room (Nat.le_of_ble_eq_true rfl)) dX9_isAllowed_2 ⟨Nat.le_of_ble_eq_true (by first | rfl | decide), Nat.le_of_ble_eq_true (by first | rfl | decide)⟩).run) (fun r_2 hr_2 => ?_)
  subst hr_2
  cases hv_2 : mbW mb x with
  | none =>
    refine ho_topr (y := .null) rfl ?_
    refine lv_astore_nN (lv' := [(3, .null), (0, .ref h), (1, .int (nI x)), (2, .int (nI y))]) hx hb dX9_isAllowed_5 rfl hl (by decide) rfl (fun ls hl => ?_)
    refine lv_aload_nN hx hb dX9_isAllowed_6 rfl (lv_at hl 0 rfl) ?_
    refine lv_ifnullN (tgt := 52) hx hb dX9_isAllowed_7 (by decide) ?_
    refine lv_iconst (v := nI 0) hx hb dX9_isAllowed_52 (by decide +kernel) ?_
    exact W.zret (v := nI 0) hx hb hr rfl (fun T9 hT9 hW9 => ⟨_, rfl, (bI_f (by (simp_all [alB]) <;> (intros; omega))), hT9⟩) (fun q h => by cases h) dX9_isAllowed_53
  | some a_2 =>
    refine ho_topr (y := .ref a_2) rfl ?_
    obtain ⟨hx6, hmb⟩ := mbW_some hv_2
    have hda_2 : a_2 ∈ DL := gmb _ _ hmb
    refine lv_astore_n (lv' := [(3, .ref a_2), (0, .ref h), (1, .int (nI x)), (2, .int (nI y))]) hx hb dX9_isAllowed_5 rfl hl (by decide) rfl (fun ls hl => ?_)
    refine lv_aload_n hx hb dX9_isAllowed_6 rfl (lv_at hl 0 rfl) ?_
    refine lv_ifnull hx hb dX9_isAllowed_7 ?_
    refine lv_aload_n hx hb dX9_isAllowed_10 rfl (lv_at hl 1 rfl) ?_
    refine lv_iload_n hx hb dX9_isAllowed_11 rfl (lv_at hl 2 rfl) ?_
    refine vp_callSi ((va_runV (As := [.int (nI x)]) (rest := []) ⟨hx, hb, hml, hown, hts⟩ (c_X9_isAlive l dC dI cI cD cR h a1 a2 a3 a4 a5 n d t al day nd mk si kn mb x (by first | omega | assumption | exact gnd _ | exact gkn _ | exact Nat.lt_trans (gkn _) (by decide) | exact Nat.lt_trans (gnd _) (by decide)) (by first | omega | assumption | exact gnd _ | exact gkn _ | exact Nat.lt_trans (gkn _) (by decide) | exact Nat.lt_trans (gnd _) (by decide)) (by first | omega | assumption | exact gnd _ | exact gkn _ | exact Nat.lt_trans (gkn _) (by decide) | exact Nat.lt_trans (gnd _) (by decide)) (by first | omega | assumption | exact gnd _ | exact gkn _ | exact Nat.lt_trans (gkn _) (by decide) | exact Nat.lt_trans (gnd _) (by decide)) (by first | omega | assumption | exact gnd _ | exact gkn _ | exact Nat.lt_trans (gkn _) (by decide) | exact Nat.lt_trans (gnd _) (by decide)) gnd gkn (by first | omega | assumption | exact gnd _ | exact gkn _ | exact Nat.lt_trans (gkn _) (by decide) | exact Nat.lt_trans (gnd _) (by decide))) (cwV 1 hts gX9_isAllowed_X9_isAlive rfl rfl rfl (by decide +kernel) ⟨Nat.le_of_ble_eq_true rfl, Nat.le_of_ble_eq_true rfl⟩) (preV_R hCX (va_recv hK hP (ci := 9) (q0 := 0) rfl rfl) (hP)) rfl rfl hl.1 rfl (lv_room (Nat.le_of_ble_eq_true rfl)) dX9_isAllowed_12 ⟨Nat.le_of_ble_eq_true (by first | rfl | decide), Nat.le_of_ble_eq_true (by first | rfl | decide)⟩).run) (fun r_12 hr_12 => ?_)
    subst hr_12
    refine ho_beq (tgt := 52) hx hb dX9_isAllowed_15 (by decide) (fun c_15 => ?_) (fun c_15 => ?_)
    · refine lv_iconst (v := nI 0) hx hb dX9_isAllowed_52 (by decide +kernel) ?_
      exact W.zret (v := nI 0) hx hb hr rfl (fun T9 hT9 hW9 => ⟨_, rfl, (bI_f (by (simp_all [alB]) <;> (intros; omega))), hT9⟩) (fun q h => by cases h) dX9_isAllowed_53
    refine lv_aload_n hx hb dX9_isAllowed_18 rfl (lv_at hl 1 rfl) ?_
    refine lv_iload_n hx hb dX9_isAllowed_19 rfl (lv_at hl 3 rfl) ?_
    refine vp_callSi ((va_runV (As := [.int (nI y)]) (rest := []) ⟨hx, hb, hml, hown, hts⟩ (c_X9_hasSentence l dC dI cI cD cR h a1 a2 a3 a4 a5 n d t al day nd mk si kn mb y (by first | omega | assumption | exact gnd _ | exact gkn _ | exact Nat.lt_trans (gkn _) (by decide) | exact Nat.lt_trans (gnd _) (by decide)) (by first | omega | assumption | exact gnd _ | exact gkn _ | exact Nat.lt_trans (gkn _) (by decide) | exact Nat.lt_trans (gnd _) (by decide)) (by first | omega | assumption | exact gnd _ | exact gkn _ | exact Nat.lt_trans (gkn _) (by decide) | exact Nat.lt_trans (gnd _) (by decide)) (by first | omega | assumption | exact gnd _ | exact gkn _ | exact Nat.lt_trans (gkn _) (by decide) | exact Nat.lt_trans (gnd _) (by decide)) (by first | omega | assumption | exact gnd _ | exact gkn _ | exact Nat.lt_trans (gkn _) (by decide) | exact Nat.lt_trans (gnd _) (by decide)) gnd gkn (by first | omega | assumption | exact gnd _ | exact gkn _ | exact Nat.lt_trans (gkn _) (by decide) | exact Nat.lt_trans (gnd _) (by decide))) (cwV 1 hts gX9_isAllowed_X9_hasSentence rfl rfl rfl (by decide +kernel) ⟨Nat.le_of_ble_eq_true rfl, Nat.le_of_ble_eq_true rfl⟩) (preV_R hCX (va_recv hK hP (ci := 9) (q0 := 0) rfl rfl) (hP)) rfl rfl hl.1 rfl (lv_room (Nat.le_of_ble_eq_true rfl)) dX9_isAllowed_20 ⟨Nat.le_of_ble_eq_true (by first | rfl | decide), Nat.le_of_ble_eq_true (by first | rfl | decide)⟩).run) (fun r_20 hr_20 => ?_)
    subst hr_20
    refine ho_beq (tgt := 52) hx hb dX9_isAllowed_23 (by decide) (fun c_23 => ?_) (fun c_23 => ?_)
    · refine lv_iconst (v := nI 0) hx hb dX9_isAllowed_52 (by decide +kernel) ?_
      exact W.zret (v := nI 0) hx hb hr rfl (fun T9 hT9 hW9 => ⟨_, rfl, (bI_f (by (simp_all [alB]) <;> (intros; omega))), hT9⟩) (fun q h => by cases h) dX9_isAllowed_53
    have hyn := of_decide_eq_true c_23
    refine lv_aload_n hx hb dX9_isAllowed_26 rfl (lv_at hl 0 rfl) ?_
    refine lv_iload_n hx hb dX9_isAllowed_27 rfl (lv_at hl 3 rfl) ?_
    refine lv_aload_n hx hb dX9_isAllowed_28 rfl (lv_at hl 1 rfl) ?_
    refine va_get (D := (dC, dI)) (ci := 9) (v := .int (nI t)) (C := RX9) (T := TX9) (N := 10) hx hb hts (fun _ h => List.mem_cons_of_mem _ (List.mem_append_left _ (List.mem_append_left _ (List.mem_append_left _ (List.mem_append_left _ (List.mem_append_left _ (List.mem_append_left _ (List.mem_append_left _ (List.mem_append_left _ (List.mem_append_right _ h)))))))))) hown hK hP 0 rfl rfl 2 (by decide) (hts (.fieldLink RX9 37 "HoldsOnceDenied$School" "truth" "I") (by decide +kernel)) (fun _ h9 => h9) rfl dX9_isAllowed_29 ?_
    refine lv_aload_n hx hb dX9_isAllowed_32 rfl (lv_at hl 1 rfl) ?_
    refine lv_iload_n hx hb dX9_isAllowed_33 rfl (lv_at hl 2 rfl) ?_
    refine vp_callSi ((va_runV (As := [.int (nI x)]) (rest := [.int (nI t), .int (nI y), .ref a_2]) ⟨hx, hb, hml, hown, hts⟩ (c_X9_knownTo l dC dI cI cD cR h a1 a2 a3 a4 a5 n d t al day nd mk si kn mb x (by first | omega | assumption | exact gnd _ | exact gkn _ | exact Nat.lt_trans (gkn _) (by decide) | exact Nat.lt_trans (gnd _) (by decide)) (by first | omega | assumption | exact gnd _ | exact gkn _ | exact Nat.lt_trans (gkn _) (by decide) | exact Nat.lt_trans (gnd _) (by decide)) (by first | omega | assumption | exact gnd _ | exact gkn _ | exact Nat.lt_trans (gkn _) (by decide) | exact Nat.lt_trans (gnd _) (by decide)) (by first | omega | assumption | exact gnd _ | exact gkn _ | exact Nat.lt_trans (gkn _) (by decide) | exact Nat.lt_trans (gnd _) (by decide)) (by first | omega | assumption | exact gnd _ | exact gkn _ | exact Nat.lt_trans (gkn _) (by decide) | exact Nat.lt_trans (gnd _) (by decide)) gnd gkn (by first | omega | assumption | exact gnd _ | exact gkn _ | exact Nat.lt_trans (gkn _) (by decide) | exact Nat.lt_trans (gnd _) (by decide))) (cwV 1 hts gX9_isAllowed_X9_knownTo rfl rfl rfl (by decide +kernel) ⟨Nat.le_of_ble_eq_true rfl, Nat.le_of_ble_eq_true rfl⟩) (preV_R hCX (va_recv hK hP (ci := 9) (q0 := 0) rfl rfl) (hP)) rfl rfl hl.1 rfl (lv_room (Nat.le_of_ble_eq_true rfl)) dX9_isAllowed_34 ⟨Nat.le_of_ble_eq_true (by first | rfl | decide), Nat.le_of_ble_eq_true (by first | rfl | decide)⟩).run) (fun r_34 hr_34 => ?_)
    subst hr_34
    refine lv_aload_n hx hb dX9_isAllowed_37 rfl (lv_at hl 1 rfl) ?_
    refine lv_iload_n hx hb dX9_isAllowed_38 rfl (lv_at hl 3 rfl) ?_
    refine vp_callSi ((va_runV (As := [.int (nI y)]) (rest := [.int (nI (kn x)), .int (nI t), .int (nI y), .ref a_2]) ⟨hx, hb, hml, hown, hts⟩ (c_X9_needsOf l dC dI cI cD cR h a1 a2 a3 a4 a5 n d t al day nd mk si kn mb y (by first | omega | assumption | exact gnd _ | exact gkn _ | exact Nat.lt_trans (gkn _) (by decide) | exact Nat.lt_trans (gnd _) (by decide)) (by first | omega | assumption | exact gnd _ | exact gkn _ | exact Nat.lt_trans (gkn _) (by decide) | exact Nat.lt_trans (gnd _) (by decide)) (by first | omega | assumption | exact gnd _ | exact gkn _ | exact Nat.lt_trans (gkn _) (by decide) | exact Nat.lt_trans (gnd _) (by decide)) (by first | omega | assumption | exact gnd _ | exact gkn _ | exact Nat.lt_trans (gkn _) (by decide) | exact Nat.lt_trans (gnd _) (by decide)) (by first | omega | assumption | exact gnd _ | exact gkn _ | exact Nat.lt_trans (gkn _) (by decide) | exact Nat.lt_trans (gnd _) (by decide)) gnd gkn (by first | omega | assumption | exact gnd _ | exact gkn _ | exact Nat.lt_trans (gkn _) (by decide) | exact Nat.lt_trans (gnd _) (by decide))) (cwV 1 hts gX9_isAllowed_X9_needsOf rfl rfl rfl (by decide +kernel) ⟨Nat.le_of_ble_eq_true rfl, Nat.le_of_ble_eq_true rfl⟩) (preV_R hCX (va_recv hK hP (ci := 9) (q0 := 0) rfl rfl) (hP)) rfl rfl hl.1 rfl (lv_room (Nat.le_of_ble_eq_true rfl)) dX9_isAllowed_39 ⟨Nat.le_of_ble_eq_true (by first | rfl | decide), Nat.le_of_ble_eq_true (by first | rfl | decide)⟩).run) (fun r_39 hr_39 => ?_)
    subst hr_39
    refine ho_via (g2 := F0 m 45 ls [.int (bI (maB (kd a_2) (fg a_2) t (kn x) (nd y) y))]) (fun K9 => ?_) ?_
    · obtain ⟨hPa, hka, hfa⟩ := hDP _ hda_2
      generalize hkk : kd a_2 = kk at hPa hka K9
      generalize hff : fg a_2 = ff at hPa hfa K9
      rcases (show kk = 0 ∨ kk = 1 ∨ kk = 2 ∨ kk = 3 ∨ kk = 4 ∨ kk = 5 ∨ kk = 6 ∨ kk = 7 by omega) with rfl | rfl | rfl | rfl | rfl | rfl | rfl | rfl
      · refine vp_callSi ((va_runV (As := [.int (nI y), .int (nI t), .int (nI (kn x)), .int (nI (nd y))]) (rest := []) ⟨hx, hb, hml, hown, hts⟩ (c_X2_mayDispute l dC dI cI cD cR a_2 y t (kn x) (nd y) (by first | omega | assumption | exact gnd _ | exact gkn _ | exact Nat.lt_trans (gkn _) (by decide) | exact Nat.lt_trans (gnd _) (by decide)) (by first | omega | assumption | exact gnd _ | exact gkn _ | exact Nat.lt_trans (gkn _) (by decide) | exact Nat.lt_trans (gnd _) (by decide)) (by first | omega | assumption | exact gnd _ | exact gkn _ | exact Nat.lt_trans (gkn _) (by decide) | exact Nat.lt_trans (gnd _) (by decide)) (by first | omega | assumption | exact gnd _ | exact gkn _ | exact Nat.lt_trans (gkn _) (by decide) | exact Nat.lt_trans (gnd _) (by decide))) (cwV 4 hts gX9_isAllowed_X2_mayDispute rfl rfl rfl (by decide +kernel) ⟨Nat.le_of_ble_eq_true rfl, Nat.le_of_ble_eq_true rfl⟩) (preV_R hCX (va_recv hK hPa (ci := 2) (q0 := 0) rfl rfl) (trivial)) rfl rfl hl.1 rfl (lv_room (Nat.le_of_ble_eq_true rfl)) dX9_isAllowed_42 ⟨Nat.le_of_ble_eq_true (by first | rfl | decide), Nat.le_of_ble_eq_true (by first | rfl | decide)⟩).run) (fun r9 hr9 => ?_)
        subst hr9
        exact K9
      · refine vp_callSi ((va_runU (As := [.int (nI y), .int (nI t), .int (nI (kn x)), .int (nI (nd y))]) (rest := []) ⟨hx, hb, hml, hown, hts⟩ (c_X3_mayDispute l dC dI cI cD cR a_2 y t (kn x) (nd y) (by first | omega | assumption | exact gnd _ | exact gkn _ | exact Nat.lt_trans (gkn _) (by decide) | exact Nat.lt_trans (gnd _) (by decide)) (by first | omega | assumption | exact gnd _ | exact gkn _ | exact Nat.lt_trans (gkn _) (by decide) | exact Nat.lt_trans (gnd _) (by decide)) (by first | omega | assumption | exact gnd _ | exact gkn _ | exact Nat.lt_trans (gkn _) (by decide) | exact Nat.lt_trans (gnd _) (by decide)) (by first | omega | assumption | exact gnd _ | exact gkn _ | exact Nat.lt_trans (gkn _) (by decide) | exact Nat.lt_trans (gnd _) (by decide))) (va_cwO 4 hts gX9_isAllowed_X3_mayDispute_u89X3 rfl rfl rfl (b0 := cX2_mayDispute) (m0 := 5) (r0 := (some .boolean)) (by decide +kernel) (by decide +kernel) ⟨Nat.le_of_ble_eq_true rfl, Nat.le_of_ble_eq_true rfl⟩) (preV_R hCX (va_recv hK hPa (ci := 3) (q0 := 0) rfl rfl) (trivial)) rfl rfl hl.1 rfl (lv_room (Nat.le_of_ble_eq_true rfl)) dX9_isAllowed_42 ⟨Nat.le_of_ble_eq_true (by first | rfl | decide), Nat.le_of_ble_eq_true (by first | rfl | decide)⟩).run) (fun r9 hr9 => ?_)
        subst hr9
        exact K9
      · refine vp_callSi ((va_runU (As := [.int (nI y), .int (nI t), .int (nI (kn x)), .int (nI (nd y))]) (rest := []) ⟨hx, hb, hml, hown, hts⟩ (c_X10_mayDispute_k2 l dC dI cI cD cR a_2 ff y t (kn x) (nd y) (by first | omega | assumption | exact gnd _ | exact gkn _ | exact Nat.lt_trans (gkn _) (by decide) | exact Nat.lt_trans (gnd _) (by decide)) (by first | omega | assumption | exact gnd _ | exact gkn _ | exact Nat.lt_trans (gkn _) (by decide) | exact Nat.lt_trans (gnd _) (by decide)) (by first | omega | assumption | exact gnd _ | exact gkn _ | exact Nat.lt_trans (gkn _) (by decide) | exact Nat.lt_trans (gnd _) (by decide)) (by first | omega | assumption | exact gnd _ | exact gkn _ | exact Nat.lt_trans (gkn _) (by decide) | exact Nat.lt_trans (gnd _) (by decide))) (va_cwO 4 hts gX9_isAllowed_X10_mayDispute_u89X10 rfl rfl rfl (b0 := cX2_mayDispute) (m0 := 5) (r0 := (some .boolean)) (by decide +kernel) (by decide +kernel) ⟨Nat.le_of_ble_eq_true rfl, Nat.le_of_ble_eq_true rfl⟩) (preV_R hCX (va_recv hK hPa (ci := 10) (q0 := 0) rfl rfl) (hPa)) rfl rfl hl.1 rfl (lv_room (Nat.le_of_ble_eq_true rfl)) dX9_isAllowed_42 ⟨Nat.le_of_ble_eq_true (by first | rfl | decide), Nat.le_of_ble_eq_true (by first | rfl | decide)⟩).run) (fun r9 hr9 => ?_)
        subst hr9
        exact K9
      · refine vp_callSi ((va_runU (As := [.int (nI y), .int (nI t), .int (nI (kn x)), .int (nI (nd y))]) (rest := []) ⟨hx, hb, hml, hown, hts⟩ (c_X1_mayDispute l dC dI cI cD cR a_2 y t (kn x) (nd y)) (va_cwO 4 hts gX9_isAllowed_X1_mayDispute_u89X1 rfl rfl rfl (b0 := cX2_mayDispute) (m0 := 5) (r0 := (some .boolean)) (by decide +kernel) (by decide +kernel) ⟨Nat.le_of_ble_eq_true rfl, Nat.le_of_ble_eq_true rfl⟩) (preV_R hCX (va_recv hK hPa (ci := 1) (q0 := 0) rfl rfl) (trivial)) rfl rfl hl.1 rfl (lv_room (Nat.le_of_ble_eq_true rfl)) dX9_isAllowed_42 ⟨Nat.le_of_ble_eq_true (by first | rfl | decide), Nat.le_of_ble_eq_true (by first | rfl | decide)⟩).run) (fun r9 hr9 => ?_)
        subst hr9
        exact K9
      · refine vp_callSi ((va_runU (As := [.int (nI y), .int (nI t), .int (nI (kn x)), .int (nI (nd y))]) (rest := []) ⟨hx, hb, hml, hown, hts⟩ (c_X5_mayDispute_k4 l dC dI cI cD cR a_2 ff y t (kn x) (nd y) (by first | omega | assumption | exact gnd _ | exact gkn _ | exact Nat.lt_trans (gkn _) (by decide) | exact Nat.lt_trans (gnd _) (by decide)) (by first | omega | assumption | exact gnd _ | exact gkn _ | exact Nat.lt_trans (gkn _) (by decide) | exact Nat.lt_trans (gnd _) (by decide)) (by first | omega | assumption | exact gnd _ | exact gkn _ | exact Nat.lt_trans (gkn _) (by decide) | exact Nat.lt_trans (gnd _) (by decide)) (by first | omega | assumption | exact gnd _ | exact gkn _ | exact Nat.lt_trans (gkn _) (by decide) | exact Nat.lt_trans (gnd _) (by decide)) (by first | omega | assumption | exact gnd _ | exact gkn _ | exact Nat.lt_trans (gkn _) (by decide) | exact Nat.lt_trans (gnd _) (by decide))) (va_cwO 4 hts gX9_isAllowed_X5_mayDispute_u89X5 rfl rfl rfl (b0 := cX2_mayDispute) (m0 := 5) (r0 := (some .boolean)) (by decide +kernel) (by decide +kernel) ⟨Nat.le_of_ble_eq_true rfl, Nat.le_of_ble_eq_true rfl⟩) (preV_R hCX (va_recv hK hPa (ci := 5) (q0 := 0) rfl rfl) (hPa)) rfl rfl hl.1 rfl (lv_room (Nat.le_of_ble_eq_true rfl)) dX9_isAllowed_42 ⟨Nat.le_of_ble_eq_true (by first | rfl | decide), Nat.le_of_ble_eq_true (by first | rfl | decide)⟩).run) (fun r9 hr9 => ?_)
        subst hr9
        exact K9
      · refine vp_callSi ((va_runU (As := [.int (nI y), .int (nI t), .int (nI (kn x)), .int (nI (nd y))]) (rest := []) ⟨hx, hb, hml, hown, hts⟩ (c_X6_mayDispute l dC dI cI cD cR a_2 ff y t (kn x) (nd y) (by first | omega | assumption | exact gnd _ | exact gkn _ | exact Nat.lt_trans (gkn _) (by decide) | exact Nat.lt_trans (gnd _) (by decide)) (by first | omega | assumption | exact gnd _ | exact gkn _ | exact Nat.lt_trans (gkn _) (by decide) | exact Nat.lt_trans (gnd _) (by decide)) (by first | omega | assumption | exact gnd _ | exact gkn _ | exact Nat.lt_trans (gkn _) (by decide) | exact Nat.lt_trans (gnd _) (by decide)) (by first | omega | assumption | exact gnd _ | exact gkn _ | exact Nat.lt_trans (gkn _) (by decide) | exact Nat.lt_trans (gnd _) (by decide)) (by first | omega | assumption | exact gnd _ | exact gkn _ | exact Nat.lt_trans (gkn _) (by decide) | exact Nat.lt_trans (gnd _) (by decide))) (va_cwO 4 hts gX9_isAllowed_X6_mayDispute_u89X6 rfl rfl rfl (b0 := cX2_mayDispute) (m0 := 5) (r0 := (some .boolean)) (by decide +kernel) (by decide +kernel) ⟨Nat.le_of_ble_eq_true rfl, Nat.le_of_ble_eq_true rfl⟩) (preV_R hCX (va_recv hK hPa (ci := 6) (q0 := 0) rfl rfl) (hPa)) rfl rfl hl.1 rfl (lv_room (Nat.le_of_ble_eq_true rfl)) dX9_isAllowed_42 ⟨Nat.le_of_ble_eq_true (by first | rfl | decide), Nat.le_of_ble_eq_true (by first | rfl | decide)⟩).run) (fun r9 hr9 => ?_)
        subst hr9
        exact K9
      · refine vp_callSi ((va_runU (As := [.int (nI y), .int (nI t), .int (nI (kn x)), .int (nI (nd y))]) (rest := []) ⟨hx, hb, hml, hown, hts⟩ (c_X7_mayDispute l dC dI cI cD cR a_2 ff y t (kn x) (nd y) (by first | omega | assumption | exact gnd _ | exact gkn _ | exact Nat.lt_trans (gkn _) (by decide) | exact Nat.lt_trans (gnd _) (by decide)) (by first | omega | assumption | exact gnd _ | exact gkn _ | exact Nat.lt_trans (gkn _) (by decide) | exact Nat.lt_trans (gnd _) (by decide)) (by first | omega | assumption | exact gnd _ | exact gkn _ | exact Nat.lt_trans (gkn _) (by decide) | exact Nat.lt_trans (gnd _) (by decide)) (by first | omega | assumption | exact gnd _ | exact gkn _ | exact Nat.lt_trans (gkn _) (by decide) | exact Nat.lt_trans (gnd _) (by decide)) (by first | omega | assumption | exact gnd _ | exact gkn _ | exact Nat.lt_trans (gkn _) (by decide) | exact Nat.lt_trans (gnd _) (by decide))) (va_cwO 4 hts gX9_isAllowed_X7_mayDispute_u89X7 rfl rfl rfl (b0 := cX2_mayDispute) (m0 := 5) (r0 := (some .boolean)) (by decide +kernel) (by decide +kernel) ⟨Nat.le_of_ble_eq_true rfl, Nat.le_of_ble_eq_true rfl⟩) (preV_R hCX (va_recv hK hPa (ci := 7) (q0 := 0) rfl rfl) (hPa)) rfl rfl hl.1 rfl (lv_room (Nat.le_of_ble_eq_true rfl)) dX9_isAllowed_42 ⟨Nat.le_of_ble_eq_true (by first | rfl | decide), Nat.le_of_ble_eq_true (by first | rfl | decide)⟩).run) (fun r9 hr9 => ?_)
        subst hr9
        exact K9
      · refine vp_callSi ((va_runU (As := [.int (nI y), .int (nI t), .int (nI (kn x)), .int (nI (nd y))]) (rest := []) ⟨hx, hb, hml, hown, hts⟩ (c_X0_mayDispute l dC dI cI cD cR a_2 ff y t (kn x) (nd y) (by first | omega | assumption | exact gnd _ | exact gkn _ | exact Nat.lt_trans (gkn _) (by decide) | exact Nat.lt_trans (gnd _) (by decide)) (by first | omega | assumption | exact gnd _ | exact gkn _ | exact Nat.lt_trans (gkn _) (by decide) | exact Nat.lt_trans (gnd _) (by decide)) (by first | omega | assumption | exact gnd _ | exact gkn _ | exact Nat.lt_trans (gkn _) (by decide) | exact Nat.lt_trans (gnd _) (by decide)) (by first | omega | assumption | exact gnd _ | exact gkn _ | exact Nat.lt_trans (gkn _) (by decide) | exact Nat.lt_trans (gnd _) (by decide)) (by first | omega | assumption | exact gnd _ | exact gkn _ | exact Nat.lt_trans (gkn _) (by decide) | exact Nat.lt_trans (gnd _) (by decide))) (va_cwO 4 hts gX9_isAllowed_X0_mayDispute_u89X0 rfl rfl rfl (b0 := cX2_mayDispute) (m0 := 5) (r0 := (some .boolean)) (by decide +kernel) (by decide +kernel) ⟨Nat.le_of_ble_eq_true rfl, Nat.le_of_ble_eq_true rfl⟩) (preV_R hCX (va_recv hK hPa (ci := 0) (q0 := 0) rfl rfl) (hPa)) rfl rfl hl.1 rfl (lv_room (Nat.le_of_ble_eq_true rfl)) dX9_isAllowed_42 ⟨Nat.le_of_ble_eq_true (by first | rfl | decide), Nat.le_of_ble_eq_true (by first | rfl | decide)⟩).run) (fun r9 hr9 => ?_)
        subst hr9
        exact K9
    refine ho_beq (tgt := 52) hx hb dX9_isAllowed_45 (by decide) (fun c_45 => ?_) (fun c_45 => ?_)
    · refine lv_iconst (v := nI 0) hx hb dX9_isAllowed_52 (by decide +kernel) ?_
      exact W.zret (v := nI 0) hx hb hr rfl (fun T9 hT9 hW9 => ⟨_, rfl, (bI_f (by (simp_all [alB]) <;> (intros; omega))), hT9⟩) (fun q h => by cases h) dX9_isAllowed_53
    refine lv_iconst (v := nI 1) hx hb dX9_isAllowed_48 (by decide +kernel) ?_
    refine lv_goto (tgt := 53) hx hb dX9_isAllowed_49 (by decide) ?_
    exact W.zret (v := nI 1) hx hb hr rfl (fun T9 hT9 hW9 => ⟨_, rfl, (bI_t (by (simp_all [alB]) <;> (intros; omega))), hT9⟩) (fun q h => by cases h) dX9_isAllowed_53
set_option maxHeartbeats 4000000 in
set_option maxRecDepth 100000 in
theorem c_X9_wouldSilence (l : Launch) (dC : Nat → ClassId) (dI : Nat → Nat → Nat) (cI cD cR : ClassId) (h a1 a2 a3 a4 a5 n d t al day : Nat) (nd : Nat → Nat) (mk si : Nat → Int32) (kn : Nat → Nat) (mb : Nat → Option Nat) (x y : Nat) (DL : List Nat) (kd fg : Nat → Nat) (hn : n ≤ 9) (hd : d ≤ 6) (ht : t < 512) (hal : al < 64) (hday : day < 2 ^ 30) (gnd : ∀ i, nd i < 512) (gkn : ∀ j, kn j < 512) (hxx : x < 6) (hyy : y < 9) (gmb : ∀ j a, mb j = some a → a ∈ DL) : Met l yX9_wouldSilence wsX9_wouldSilence ({ frames := 3, cells := 0, slots := 0, locals := 69 }) (pcR dC dI cI cD cR [.ref h, .int (nI x), .int (nI y)] (fun H => va_P (dC, dI) vwCl ((schW cI cD h a1 a2 a3 a4 a5 n d t al day nd mk si kn mb)) H ∧ DP dC dI DL kd fg H)) (vp_Si (fun r => r = bI (wsB day t kn nd mb kd x y))) 0 0 (fun _ => False) := by
  refine Met.ofW (cc := cX9_wouldSilence) (maxL := 4) (ret := (some .boolean)) (by decide) rfl ?_
  intro p e s m args below meth c s₁ B hml hv
  obtain ⟨rfl, hH0, hCX⟩ := hv
  have hx := B.exec
  have hb := B.bytes
  have hr := B.returns
  have hts := atoms_spec (ws := wsX9_wouldSilence) B.pre
  have hown : s.vm.findClass RX9 = some m.cls := findClass_of_methodNamed B.named
  have hlocks := B.notSynchronized
  have hK := hCX.1
  obtain ⟨hP, hDP⟩ := hH0
  have hl := lv_entry ([.ref h, .int (nI x), .int (nI y)]) (n := 4) (Nat.le_of_ble_eq_true rfl)
  rw [lg_entry_eq]
  generalize (lg_sl ([.ref h, .int (nI x), .int (nI y)]) ++ List.replicate (4 - (lg_sl ([.ref h, .int (nI x), .int (nI y)])).length) Slot.unset).toArray = ls at hl ⊢
  have hl : lv_has ls 4 [(0, .ref h), (1, .int (nI x)), (2, .int (nI y))] := hl
  refine lv_aload_n hx hb dX9_wouldSilence_0 rfl (lv_at hl 0 rfl) ?_
  refine lv_iload_n hx hb dX9_wouldSilence_1 rfl (lv_at hl 1 rfl) ?_
  refine va_csq ((va_runV (As := [.int (nI x)]) (rest := []) ⟨hx, hb, hml, hown, hts⟩ (c_X9_memberAt l dC dI cI cD cR h a1 a2 a3 a4 a5 n d t al day nd mk si kn mb x (by first | omega | assumption | exact gnd _ | exact gkn _ | exact Nat.lt_trans (gkn _) (by decide) | exact Nat.lt_trans (gnd _) (by decide)) (by first | omega | assumption | exact gnd _ | exact gkn _ | exact Nat.lt_trans (gkn _) (by decide) | exact Nat.lt_trans (gnd _) (by decide)) (by first | omega | assumption | exact gnd _ | exact gkn _ | exact Nat.lt_trans (gkn _) (by decide) | exact Nat.lt_trans (gnd _) (by decide)) (by first | omega | assumption | exact gnd _ | exact gkn _ | exact Nat.lt_trans (gkn _) (by decide) | exact Nat.lt_trans (gnd _) (by decide)) (by first | omega | assumption | exact gnd _ | exact gkn _ | exact Nat.lt_trans (gkn _) (by decide) | exact Nat.lt_trans (gnd _) (by decide)) gnd gkn (by first | omega | assumption | exact gnd _ | exact gkn _ | exact Nat.lt_trans (gkn _) (by decide) | exact Nat.lt_trans (gnd _) (by decide))) (cwV 1 hts gX9_wouldSilence_X9_memberAt rfl rfl rfl (by decide +kernel) ⟨Nat.le_of_ble_eq_true rfl, Nat.le_of_ble_eq_true rfl⟩) (preV_R hCX (va_recv hK hP (ci := 9) (q0 := 0) rfl rfl) (hP)) rfl rfl hl.1 rfl (lv_room (Nat.le_of_ble_eq_true rfl)) dX9_wouldSilence_2 ⟨Nat.le_of_ble_eq_true (by first | rfl | decide), Nat.le_of_ble_eq_true (by first | rfl | decide)⟩).run) (fun r_2 hr_2 => ?_)
  subst hr_2
  cases hv_2 : mb x with
  | none =>
    refine ho_topr (y := .null) rfl ?_
    refine lv_astore_nN (lv' := [(3, .null), (0, .ref h), (1, .int (nI x)), (2, .int (nI y))]) hx hb dX9_wouldSilence_5 rfl hl (by decide) rfl (fun ls hl => ?_)
    refine lv_aload_nN hx hb dX9_wouldSilence_6 rfl (lv_at hl 0 rfl) ?_
    refine lv_ifnullN (tgt := 39) hx hb dX9_wouldSilence_7 (by decide) ?_
    refine lv_iconst (v := nI 0) hx hb dX9_wouldSilence_39 (by decide +kernel) ?_
    exact W.zret (v := nI 0) hx hb hr rfl (fun T9 hT9 hW9 => ⟨_, rfl, (bI_f (by simp_all [wsB])), hT9⟩) (fun q h => by cases h) dX9_wouldSilence_40
  | some a_2 =>
    refine ho_topr (y := .ref a_2) rfl ?_
    have hda_2 : a_2 ∈ DL := gmb _ _ hv_2
    refine lv_astore_n (lv' := [(3, .ref a_2), (0, .ref h), (1, .int (nI x)), (2, .int (nI y))]) hx hb dX9_wouldSilence_5 rfl hl (by decide) rfl (fun ls hl => ?_)
    refine lv_aload_n hx hb dX9_wouldSilence_6 rfl (lv_at hl 0 rfl) ?_
    refine lv_ifnull hx hb dX9_wouldSilence_7 ?_
    refine lv_aload_n hx hb dX9_wouldSilence_10 rfl (lv_at hl 0 rfl) ?_
    refine lv_aload_n hx hb dX9_wouldSilence_11 rfl (lv_at hl 1 rfl) ?_
    refine va_get (D := (dC, dI)) (ci := 9) (v := .int (nI t)) (C := RX9) (T := TX9) (N := 10) hx hb hts (fun _ h => List.mem_cons_of_mem _ (List.mem_append_right _ h)) hown hK hP 0 rfl rfl 2 (by decide) (hts (.fieldLink RX9 37 "HoldsOnceDenied$School" "truth" "I") (by decide +kernel)) (fun _ h9 => h9) rfl dX9_wouldSilence_12 ?_
    refine lv_aload_n hx hb dX9_wouldSilence_15 rfl (lv_at hl 1 rfl) ?_
    refine lv_iload_n hx hb dX9_wouldSilence_16 rfl (lv_at hl 2 rfl) ?_
    refine vp_callSi ((va_runV (As := [.int (nI x)]) (rest := [.int (nI t), .ref a_2]) ⟨hx, hb, hml, hown, hts⟩ (c_X9_knownTo l dC dI cI cD cR h a1 a2 a3 a4 a5 n d t al day nd mk si kn mb x (by first | omega | assumption | exact gnd _ | exact gkn _ | exact Nat.lt_trans (gkn _) (by decide) | exact Nat.lt_trans (gnd _) (by decide)) (by first | omega | assumption | exact gnd _ | exact gkn _ | exact Nat.lt_trans (gkn _) (by decide) | exact Nat.lt_trans (gnd _) (by decide)) (by first | omega | assumption | exact gnd _ | exact gkn _ | exact Nat.lt_trans (gkn _) (by decide) | exact Nat.lt_trans (gnd _) (by decide)) (by first | omega | assumption | exact gnd _ | exact gkn _ | exact Nat.lt_trans (gkn _) (by decide) | exact Nat.lt_trans (gnd _) (by decide)) (by first | omega | assumption | exact gnd _ | exact gkn _ | exact Nat.lt_trans (gkn _) (by decide) | exact Nat.lt_trans (gnd _) (by decide)) gnd gkn (by first | omega | assumption | exact gnd _ | exact gkn _ | exact Nat.lt_trans (gkn _) (by decide) | exact Nat.lt_trans (gnd _) (by decide))) (cwV 1 hts gX9_wouldSilence_X9_knownTo rfl rfl rfl (by decide +kernel) ⟨Nat.le_of_ble_eq_true rfl, Nat.le_of_ble_eq_true rfl⟩) (preV_R hCX (va_recv hK hP (ci := 9) (q0 := 0) rfl rfl) (hP)) rfl rfl hl.1 rfl (lv_room (Nat.le_of_ble_eq_true rfl)) dX9_wouldSilence_17 ⟨Nat.le_of_ble_eq_true (by first | rfl | decide), Nat.le_of_ble_eq_true (by first | rfl | decide)⟩).run) (fun r_17 hr_17 => ?_)
    subst hr_17
    refine lv_aload_n hx hb dX9_wouldSilence_20 rfl (lv_at hl 1 rfl) ?_
    refine lv_iload_n hx hb dX9_wouldSilence_21 rfl (lv_at hl 3 rfl) ?_
    refine vp_callSi ((va_runV (As := [.int (nI y)]) (rest := [.int (nI (kn x)), .int (nI t), .ref a_2]) ⟨hx, hb, hml, hown, hts⟩ (c_X9_needsOf l dC dI cI cD cR h a1 a2 a3 a4 a5 n d t al day nd mk si kn mb y (by first | omega | assumption | exact gnd _ | exact gkn _ | exact Nat.lt_trans (gkn _) (by decide) | exact Nat.lt_trans (gnd _) (by decide)) (by first | omega | assumption | exact gnd _ | exact gkn _ | exact Nat.lt_trans (gkn _) (by decide) | exact Nat.lt_trans (gnd _) (by decide)) (by first | omega | assumption | exact gnd _ | exact gkn _ | exact Nat.lt_trans (gkn _) (by decide) | exact Nat.lt_trans (gnd _) (by decide)) (by first | omega | assumption | exact gnd _ | exact gkn _ | exact Nat.lt_trans (gkn _) (by decide) | exact Nat.lt_trans (gnd _) (by decide)) (by first | omega | assumption | exact gnd _ | exact gkn _ | exact Nat.lt_trans (gkn _) (by decide) | exact Nat.lt_trans (gnd _) (by decide)) gnd gkn (by first | omega | assumption | exact gnd _ | exact gkn _ | exact Nat.lt_trans (gkn _) (by decide) | exact Nat.lt_trans (gnd _) (by decide))) (cwV 1 hts gX9_wouldSilence_X9_needsOf rfl rfl rfl (by decide +kernel) ⟨Nat.le_of_ble_eq_true rfl, Nat.le_of_ble_eq_true rfl⟩) (preV_R hCX (va_recv hK hP (ci := 9) (q0 := 0) rfl rfl) (hP)) rfl rfl hl.1 rfl (lv_room (Nat.le_of_ble_eq_true rfl)) dX9_wouldSilence_22 ⟨Nat.le_of_ble_eq_true (by first | rfl | decide), Nat.le_of_ble_eq_true (by first | rfl | decide)⟩).run) (fun r_22 hr_22 => ?_)
    subst hr_22
    refine lv_aload_n hx hb dX9_wouldSilence_25 rfl (lv_at hl 1 rfl) ?_
    refine vp_callSi ((va_runV (As := []) (rest := [.int (nI (nd y)), .int (nI (kn x)), .int (nI t), .ref a_2]) ⟨hx, hb, hml, hown, hts⟩ (c_X9_isOddDay l dC dI cI cD cR h a1 a2 a3 a4 a5 n d t al day nd mk si kn mb (by first | omega | assumption | exact gnd _ | exact gkn _ | exact Nat.lt_trans (gkn _) (by decide) | exact Nat.lt_trans (gnd _) (by decide)) (by first | omega | assumption | exact gnd _ | exact gkn _ | exact Nat.lt_trans (gkn _) (by decide) | exact Nat.lt_trans (gnd _) (by decide)) (by first | omega | assumption | exact gnd _ | exact gkn _ | exact Nat.lt_trans (gkn _) (by decide) | exact Nat.lt_trans (gnd _) (by decide)) (by first | omega | assumption | exact gnd _ | exact gkn _ | exact Nat.lt_trans (gkn _) (by decide) | exact Nat.lt_trans (gnd _) (by decide)) (by first | omega | assumption | exact gnd _ | exact gkn _ | exact Nat.lt_trans (gkn _) (by decide) | exact Nat.lt_trans (gnd _) (by decide)) gnd gkn) (cwV 0 hts gX9_wouldSilence_X9_isOddDay rfl rfl rfl (by decide +kernel) ⟨Nat.le_of_ble_eq_true rfl, Nat.le_of_ble_eq_true rfl⟩) (preV_R hCX (va_recv hK hP (ci := 9) (q0 := 0) rfl rfl) (hP)) rfl rfl hl.1 rfl (lv_room (Nat.le_of_ble_eq_true rfl)) dX9_wouldSilence_26 ⟨Nat.le_of_ble_eq_true (by first | rfl | decide), Nat.le_of_ble_eq_true (by first | rfl | decide)⟩).run) (fun r_26 hr_26 => ?_)
    subst hr_26
    refine ho_via (g2 := F0 m 32 ls [.int (bI (siB (kd a_2) t (kn x) (nd y) (day % 2 != 0)))]) (fun K9 => ?_) ?_
    · obtain ⟨hPa, hka, hfa⟩ := hDP _ hda_2
      generalize hkk : kd a_2 = kk at hPa hka K9
      generalize hff : fg a_2 = ff at hPa hfa K9
      rcases (show kk = 0 ∨ kk = 1 ∨ kk = 2 ∨ kk = 3 ∨ kk = 4 ∨ kk = 5 ∨ kk = 6 ∨ kk = 7 by omega) with rfl | rfl | rfl | rfl | rfl | rfl | rfl | rfl
      · refine vp_callSi ((va_runV (As := [.int (nI t), .int (nI (kn x)), .int (nI (nd y)), .int (bI (day % 2 != 0))]) (rest := []) ⟨hx, hb, hml, hown, hts⟩ (c_X2_isSilenced l dC dI cI cD cR a_2 t (kn x) (nd y) (day % 2 != 0) (by first | omega | assumption | exact gnd _ | exact gkn _ | exact Nat.lt_trans (gkn _) (by decide) | exact Nat.lt_trans (gnd _) (by decide)) (by first | omega | assumption | exact gnd _ | exact gkn _ | exact Nat.lt_trans (gkn _) (by decide) | exact Nat.lt_trans (gnd _) (by decide)) (by first | omega | assumption | exact gnd _ | exact gkn _ | exact Nat.lt_trans (gkn _) (by decide) | exact Nat.lt_trans (gnd _) (by decide))) (cwV 4 hts gX9_wouldSilence_X2_isSilenced rfl rfl rfl (by decide +kernel) ⟨Nat.le_of_ble_eq_true rfl, Nat.le_of_ble_eq_true rfl⟩) (preV_R hCX (va_recv hK hPa (ci := 2) (q0 := 0) rfl rfl) (trivial)) rfl rfl hl.1 rfl (lv_room (Nat.le_of_ble_eq_true rfl)) dX9_wouldSilence_29 ⟨Nat.le_of_ble_eq_true (by first | rfl | decide), Nat.le_of_ble_eq_true (by first | rfl | decide)⟩).run) (fun r9 hr9 => ?_)
        subst hr9
        exact K9
      · refine vp_callSi ((va_runU (As := [.int (nI t), .int (nI (kn x)), .int (nI (nd y)), .int (bI (day % 2 != 0))]) (rest := []) ⟨hx, hb, hml, hown, hts⟩ (c_X2_isSilenced l dC dI cI cD cR a_2 t (kn x) (nd y) (day % 2 != 0) (by first | omega | assumption | exact gnd _ | exact gkn _ | exact Nat.lt_trans (gkn _) (by decide) | exact Nat.lt_trans (gnd _) (by decide)) (by first | omega | assumption | exact gnd _ | exact gkn _ | exact Nat.lt_trans (gkn _) (by decide) | exact Nat.lt_trans (gnd _) (by decide)) (by first | omega | assumption | exact gnd _ | exact gkn _ | exact Nat.lt_trans (gkn _) (by decide) | exact Nat.lt_trans (gnd _) (by decide))) (va_cwU 4 hts gX9_wouldSilence_X2_isSilenced_u97X3 rfl rfl rfl rfl (by decide +kernel) ⟨Nat.le_of_ble_eq_true rfl, Nat.le_of_ble_eq_true rfl⟩) (preV_R hCX (va_recv hK hPa (ci := 3) (q0 := 0) rfl rfl) (trivial)) rfl rfl hl.1 rfl (lv_room (Nat.le_of_ble_eq_true rfl)) dX9_wouldSilence_29 ⟨Nat.le_of_ble_eq_true (by first | rfl | decide), Nat.le_of_ble_eq_true (by first | rfl | decide)⟩).run) (fun r9 hr9 => ?_)
        subst hr9
        exact K9
      · refine vp_callSi ((va_runU (As := [.int (nI t), .int (nI (kn x)), .int (nI (nd y)), .int (bI (day % 2 != 0))]) (rest := []) ⟨hx, hb, hml, hown, hts⟩ (c_X2_isSilenced l dC dI cI cD cR a_2 t (kn x) (nd y) (day % 2 != 0) (by first | omega | assumption | exact gnd _ | exact gkn _ | exact Nat.lt_trans (gkn _) (by decide) | exact Nat.lt_trans (gnd _) (by decide)) (by first | omega | assumption | exact gnd _ | exact gkn _ | exact Nat.lt_trans (gkn _) (by decide) | exact Nat.lt_trans (gnd _) (by decide)) (by first | omega | assumption | exact gnd _ | exact gkn _ | exact Nat.lt_trans (gkn _) (by decide) | exact Nat.lt_trans (gnd _) (by decide))) (va_cwU 4 hts gX9_wouldSilence_X2_isSilenced_u97X10 rfl rfl rfl rfl (by decide +kernel) ⟨Nat.le_of_ble_eq_true rfl, Nat.le_of_ble_eq_true rfl⟩) (preV_R hCX (va_recv hK hPa (ci := 10) (q0 := 0) rfl rfl) (trivial)) rfl rfl hl.1 rfl (lv_room (Nat.le_of_ble_eq_true rfl)) dX9_wouldSilence_29 ⟨Nat.le_of_ble_eq_true (by first | rfl | decide), Nat.le_of_ble_eq_true (by first | rfl | decide)⟩).run) (fun r9 hr9 => ?_)
        subst hr9
        exact K9
      · refine vp_callSi ((va_runU (As := [.int (nI t), .int (nI (kn x)), .int (nI (nd y)), .int (bI (day % 2 != 0))]) (rest := []) ⟨hx, hb, hml, hown, hts⟩ (c_X1_isSilenced l dC dI cI cD cR a_2 t (kn x) (nd y) (day % 2 != 0)) (va_cwO 4 hts gX9_wouldSilence_X1_isSilenced_u97X1 rfl rfl rfl (b0 := cX2_isSilenced) (m0 := 5) (r0 := (some .boolean)) (by decide +kernel) (by decide +kernel) ⟨Nat.le_of_ble_eq_true rfl, Nat.le_of_ble_eq_true rfl⟩) (preV_R hCX (va_recv hK hPa (ci := 1) (q0 := 0) rfl rfl) (trivial)) rfl rfl hl.1 rfl (lv_room (Nat.le_of_ble_eq_true rfl)) dX9_wouldSilence_29 ⟨Nat.le_of_ble_eq_true (by first | rfl | decide), Nat.le_of_ble_eq_true (by first | rfl | decide)⟩).run) (fun r9 hr9 => ?_)
        subst hr9
        exact K9
      · refine vp_callSi ((va_runU (As := [.int (nI t), .int (nI (kn x)), .int (nI (nd y)), .int (bI (day % 2 != 0))]) (rest := []) ⟨hx, hb, hml, hown, hts⟩ (c_X2_isSilenced l dC dI cI cD cR a_2 t (kn x) (nd y) (day % 2 != 0) (by first | omega | assumption | exact gnd _ | exact gkn _ | exact Nat.lt_trans (gkn _) (by decide) | exact Nat.lt_trans (gnd _) (by decide)) (by first | omega | assumption | exact gnd _ | exact gkn _ | exact Nat.lt_trans (gkn _) (by decide) | exact Nat.lt_trans (gnd _) (by decide)) (by first | omega | assumption | exact gnd _ | exact gkn _ | exact Nat.lt_trans (gkn _) (by decide) | exact Nat.lt_trans (gnd _) (by decide))) (va_cwU 4 hts gX9_wouldSilence_X2_isSilenced_u97X5 rfl rfl rfl rfl (by decide +kernel) ⟨Nat.le_of_ble_eq_true rfl, Nat.le_of_ble_eq_true rfl⟩) (preV_R hCX (va_recv hK hPa (ci := 5) (q0 := 0) rfl rfl) (trivial)) rfl rfl hl.1 rfl (lv_room (Nat.le_of_ble_eq_true rfl)) dX9_wouldSilence_29 ⟨Nat.le_of_ble_eq_true (by first | rfl | decide), Nat.le_of_ble_eq_true (by first | rfl | decide)⟩).run) (fun r9 hr9 => ?_)
        subst hr9
        exact K9
      · refine vp_callSi ((va_runU (As := [.int (nI t), .int (nI (kn x)), .int (nI (nd y)), .int (bI (day % 2 != 0))]) (rest := []) ⟨hx, hb, hml, hown, hts⟩ (c_X2_isSilenced l dC dI cI cD cR a_2 t (kn x) (nd y) (day % 2 != 0) (by first | omega | assumption | exact gnd _ | exact gkn _ | exact Nat.lt_trans (gkn _) (by decide) | exact Nat.lt_trans (gnd _) (by decide)) (by first | omega | assumption | exact gnd _ | exact gkn _ | exact Nat.lt_trans (gkn _) (by decide) | exact Nat.lt_trans (gnd _) (by decide)) (by first | omega | assumption | exact gnd _ | exact gkn _ | exact Nat.lt_trans (gkn _) (by decide) | exact Nat.lt_trans (gnd _) (by decide))) (va_cwU 4 hts gX9_wouldSilence_X2_isSilenced_u97X6 rfl rfl rfl rfl (by decide +kernel) ⟨Nat.le_of_ble_eq_true rfl, Nat.le_of_ble_eq_true rfl⟩) (preV_R hCX (va_recv hK hPa (ci := 6) (q0 := 0) rfl rfl) (trivial)) rfl rfl hl.1 rfl (lv_room (Nat.le_of_ble_eq_true rfl)) dX9_wouldSilence_29 ⟨Nat.le_of_ble_eq_true (by first | rfl | decide), Nat.le_of_ble_eq_true (by first | rfl | decide)⟩).run) (fun r9 hr9 => ?_)
        subst hr9
        exact K9
      · refine vp_callSi ((va_runU (As := [.int (nI t), .int (nI (kn x)), .int (nI (nd y)), .int (bI (day % 2 != 0))]) (rest := []) ⟨hx, hb, hml, hown, hts⟩ (c_X2_isSilenced l dC dI cI cD cR a_2 t (kn x) (nd y) (day % 2 != 0) (by first | omega | assumption | exact gnd _ | exact gkn _ | exact Nat.lt_trans (gkn _) (by decide) | exact Nat.lt_trans (gnd _) (by decide)) (by first | omega | assumption | exact gnd _ | exact gkn _ | exact Nat.lt_trans (gkn _) (by decide) | exact Nat.lt_trans (gnd _) (by decide)) (by first | omega | assumption | exact gnd _ | exact gkn _ | exact Nat.lt_trans (gkn _) (by decide) | exact Nat.lt_trans (gnd _) (by decide))) (va_cwU 4 hts gX9_wouldSilence_X2_isSilenced_u97X7 rfl rfl rfl rfl (by decide +kernel) ⟨Nat.le_of_ble_eq_true rfl, Nat.le_of_ble_eq_true rfl⟩) (preV_R hCX (va_recv hK hPa (ci := 7) (q0 := 0) rfl rfl) (trivial)) rfl rfl hl.1 rfl (lv_room (Nat.le_of_ble_eq_true rfl)) dX9_wouldSilence_29 ⟨Nat.le_of_ble_eq_true (by first | rfl | decide), Nat.le_of_ble_eq_true (by first | rfl | decide)⟩).run) (fun r9 hr9 => ?_)
        subst hr9
        exact K9
      · refine vp_callSi ((va_runU (As := [.int (nI t), .int (nI (kn x)), .int (nI (nd y)), .int (bI (day % 2 != 0))]) (rest := []) ⟨hx, hb, hml, hown, hts⟩ (c_X0_isSilenced l dC dI cI cD cR a_2 ff t (kn x) (nd y) (day % 2 != 0) (by first | omega | assumption | exact gnd _ | exact gkn _ | exact Nat.lt_trans (gkn _) (by decide) | exact Nat.lt_trans (gnd _) (by decide)) (by first | omega | assumption | exact gnd _ | exact gkn _ | exact Nat.lt_trans (gkn _) (by decide) | exact Nat.lt_trans (gnd _) (by decide)) (by first | omega | assumption | exact gnd _ | exact gkn _ | exact Nat.lt_trans (gkn _) (by decide) | exact Nat.lt_trans (gnd _) (by decide))) (va_cwO 4 hts gX9_wouldSilence_X0_isSilenced_u97X0 rfl rfl rfl (b0 := cX2_isSilenced) (m0 := 5) (r0 := (some .boolean)) (by decide +kernel) (by decide +kernel) ⟨Nat.le_of_ble_eq_true rfl, Nat.le_of_ble_eq_true rfl⟩) (preV_R hCX (va_recv hK hPa (ci := 0) (q0 := 0) rfl rfl) (hPa)) rfl rfl hl.1 rfl (lv_room (Nat.le_of_ble_eq_true rfl)) dX9_wouldSilence_29 ⟨Nat.le_of_ble_eq_true (by first | rfl | decide), Nat.le_of_ble_eq_true (by first | rfl | decide)⟩).run) (fun r9 hr9 => ?_)
        subst hr9
        exact K9
    refine ho_beq (tgt := 39) hx hb dX9_wouldSilence_32 (by decide) (fun c_32 => ?_) (fun c_32 => ?_)
    · refine lv_iconst (v := nI 0) hx hb dX9_wouldSilence_39 (by decide +kernel) ?_
      exact W.zret (v := nI 0) hx hb hr rfl (fun T9 hT9 hW9 => ⟨_, rfl, (bI_f (by simp_all [wsB])), hT9⟩) (fun q h => by cases h) dX9_wouldSilence_40
    refine lv_iconst (v := nI 1) hx hb dX9_wouldSilence_35 (by decide +kernel) ?_
    refine lv_goto (tgt := 40) hx hb dX9_wouldSilence_36 (by decide) ?_
    exact W.zret (v := nI 1) hx hb hr rfl (fun T9 hT9 hW9 => ⟨_, rfl, (bI_t (by simp_all [wsB])), hT9⟩) (fun q h => by cases h) dX9_wouldSilence_40
set_option maxHeartbeats 4000000 in
set_option maxRecDepth 100000 in
theorem c_X9_allowedTo (l : Launch) (dC : Nat → ClassId) (dI : Nat → Nat → Nat) (cI cD cR : ClassId) (h a1 a2 a3 a4 a5 n d t al day : Nat) (nd : Nat → Nat) (mk si : Nat → Int32) (kn : Nat → Nat) (mb : Nat → Option Nat) (x : Nat) (DL : List Nat) (kd fg : Nat → Nat) (hn : n ≤ 9) (hd : d ≤ 6) (ht : t < 512) (hal : al < 64) (hday : day < 2 ^ 30) (gnd : ∀ i, nd i < 512) (gkn : ∀ j, kn j < 512) (hxx : x < 2 ^ 31) (gmb : ∀ j a, mb j = some a → a ∈ DL) : Met l yX9_allowedTo wsX9_allowedTo ({ frames := 5, cells := 0, slots := 0, locals := 116 }) (pcR dC dI cI cD cR [.ref h, .int (nI x)] (fun H => va_P (dC, dI) vwCl ((schW cI cD h a1 a2 a3 a4 a5 n d t al day nd mk si kn mb)) H ∧ DP dC dI DL kd fg H)) (vp_Si (fun r => r = nI (orF (fun s9 => alB n al t kn nd mb kd fg x s9) n))) 0 0 (fun _ => False) := by
  refine Met.ofW (cc := cX9_allowedTo) (maxL := 4) (ret := (some .int)) (by decide) rfl ?_
  intro p e s m args below meth c s₁ B hml hv
  obtain ⟨rfl, hH0, hCX⟩ := hv
  have hx := B.exec
  have hb := B.bytes
  have hr := B.returns
  have hts := atoms_spec (ws := wsX9_allowedTo) B.pre
  have hown : s.vm.findClass RX9 = some m.cls := findClass_of_methodNamed B.named
  have hlocks := B.notSynchronized
  have hK := hCX.1
  obtain ⟨hP, hDP⟩ := hH0
  have hl := lv_entry ([.ref h, .int (nI x)]) (n := 4) (Nat.le_of_ble_eq_true rfl)
  rw [lg_entry_eq]
  generalize (lg_sl ([.ref h, .int (nI x)]) ++ List.replicate (4 - (lg_sl ([.ref h, .int (nI x)])).length) Slot.unset).toArray = ls at hl ⊢
  have hl : lv_has ls 4 [(0, .ref h), (1, .int (nI x))] := hl
  refine lv_iconst (v := nI 0) hx hb dX9_allowedTo_0 (by decide +kernel) ?_
  refine lv_istore_n (lv' := [(2, .int (nI 0)), (0, .ref h), (1, .int (nI x))]) hx hb dX9_allowedTo_1 rfl hl (by decide) rfl (fun ls hl => ?_)
  refine lv_iconst (v := nI 0) hx hb dX9_allowedTo_2 (by decide +kernel) ?_
  refine lv_istore_n (lv' := [(3, .int (nI 0)), (2, .int (nI 0)), (0, .ref h), (1, .int (nI x))]) hx hb dX9_allowedTo_3 rfl hl (by decide) rfl (fun ls hl => ?_)
  refine ho_lp (T := Nat) 4 (fun x9 => [(3, .int (nI x9)), (2, .int (nI (orF (fun s9 => alB n al t kn nd mb kd fg x s9) x9))), (0, .ref h), (1, .int (nI x))]) (fun x9 => []) (fun x9 => (x9 ≤ n)) (fun x9 => n - x9) 0 (by omega) (lv_sub hl [0, 1, 2, 3] rfl) ?_
  intro fu4 i ls hI hm4 hl ih
  have hin := hI
  have hl : lv_has ls 4 [(3, .int (nI i)), (2, .int (nI (orF (fun s9 => alB n al t kn nd mb kd fg x s9) i))), (0, .ref h), (1, .int (nI x))] := hl
  have hin : i ≤ n := hin
  have hm4 : n - i < fu4 + 1 := hm4
  refine W.eq (g2 := F0 m 4 ls []) rfl ?_
  have ih4 := ih
  refine lv_iload_n hx hb dX9_allowedTo_4 rfl (lv_at hl 0 rfl) ?_
  refine lv_aload_n hx hb dX9_allowedTo_5 rfl (lv_at hl 2 rfl) ?_
  refine va_get (D := (dC, dI)) (ci := 9) (v := .int (nI n)) (C := RX9) (T := TX9) (N := 10) hx hb hts (fun _ h => List.mem_cons_of_mem _ (List.mem_append_left _ (List.mem_append_left _ (List.mem_append_left _ (List.mem_append_left _ (List.mem_append_left _ (List.mem_append_left _ (List.mem_append_left _ (List.mem_append_left _ (List.mem_append_right _ h)))))))))) hown hK hP 0 rfl rfl 0 (by decide) (hts (.fieldLink RX9 30 "HoldsOnceDenied$School" "sentences" "I") (by decide +kernel)) (fun _ h9 => h9) rfl dX9_allowedTo_6 ?_
  refine ho_icmp_ge (tgt := 34) hx hb dX9_allowedTo_9 (by decide) (by omega) (by omega) (fun c_9 => ?_) (fun c_9 => ?_)
  · refine lv_iload_n hx hb dX9_allowedTo_34 rfl (lv_at hl 1 rfl) ?_
    exact W.iret (v := nI (orF (fun s9 => alB n al t kn nd mb kd fg x s9) i)) hx hb hr (fun T9 hT9 hW9 => ⟨_, rfl, (congrArg nI (by rw [show i = n by omega])), hT9⟩) (fun q h => by cases h) dX9_allowedTo_35
  refine lv_aload_n hx hb dX9_allowedTo_12 rfl (lv_at hl 2 rfl) ?_
  refine lv_iload_n hx hb dX9_allowedTo_13 rfl (lv_at hl 3 rfl) ?_
  refine lv_iload_n hx hb dX9_allowedTo_14 rfl (lv_at hl 0 rfl) ?_
  refine vp_callSi ((va_runV (As := [.int (nI x), .int (nI i)]) (rest := []) ⟨hx, hb, hml, hown, hts⟩ (c_X9_isAllowed l dC dI cI cD cR h a1 a2 a3 a4 a5 n d t al day nd mk si kn mb x i DL kd fg (by first | omega | assumption | exact gnd _ | exact gkn _ | exact Nat.lt_trans (gkn _) (by decide) | exact Nat.lt_trans (gnd _) (by decide)) (by first | omega | assumption | exact gnd _ | exact gkn _ | exact Nat.lt_trans (gkn _) (by decide) | exact Nat.lt_trans (gnd _) (by decide)) (by first | omega | assumption | exact gnd _ | exact gkn _ | exact Nat.lt_trans (gkn _) (by decide) | exact Nat.lt_trans (gnd _) (by decide)) (by first | omega | assumption | exact gnd _ | exact gkn _ | exact Nat.lt_trans (gkn _) (by decide) | exact Nat.lt_trans (gnd _) (by decide)) (by first | omega | assumption | exact gnd _ | exact gkn _ | exact Nat.lt_trans (gkn _) (by decide) | exact Nat.lt_trans (gnd _) (by decide)) gnd gkn (by first | omega | assumption | exact gnd _ | exact gkn _ | exact Nat.lt_trans (gkn _) (by decide) | exact Nat.lt_trans (gnd _) (by decide)) (by first | omega | assumption | exact gnd _ | exact gkn _ | exact Nat.lt_trans (gkn _) (by decide) | exact Nat.lt_trans (gnd _) (by decide)) gmb) (cwV 2 hts gX9_allowedTo_X9_isAllowed rfl rfl rfl (by decide +kernel) ⟨Nat.le_of_ble_eq_true rfl, Nat.le_of_ble_eq_true rfl⟩) (preV_R hCX (va_recv hK hP (ci := 9) (q0 := 0) rfl rfl) (⟨hP, hDP⟩)) rfl rfl hl.1 rfl (lv_room (Nat.le_of_ble_eq_true rfl)) dX9_allowedTo_15 ⟨Nat.le_of_ble_eq_true (by first | rfl | decide), Nat.le_of_ble_eq_true (by first | rfl | decide)⟩).run) (fun r_15 hr_15 => ?_)
  subst hr_15
  refine ho_beq (tgt := 28) hx hb dX9_allowedTo_18 (by decide) (fun c_18 => ?_) (fun c_18 => ?_)
  · refine ho_iinc (lv' := [(3, .int (nI (i + 1))), (2, .int (nI (orF (fun s9 => alB n al t kn nd mb kd fg x s9) i))), (0, .ref h), (1, .int (nI x))]) (a := i) (b := 1) hx hb dX9_allowedTo_28 hl (k := 0) rfl rfl (by decide) rfl (fun ls hl => ?_)
    refine lv_goto (tgt := 4) hx hb dX9_allowedTo_31 (by decide) ?_
    have e9_2 : orF (fun s9 => alB n al t kn nd mb kd fg x s9) i = orF (fun s9 => alB n al t kn nd mb kd fg x s9) (i + 1) := by first | exact orF_t c_18 | exact orF_f c_18
    rw [e9_2] at hl
    exact ih4 (i + 1) _ (by omega) (show n - (i + 1) < fu4 from (by omega)) (lv_sub hl [0, 1, 2, 3] rfl)
  refine lv_iload_n hx hb dX9_allowedTo_21 rfl (lv_at hl 1 rfl) ?_
  refine lv_iload_n hx hb dX9_allowedTo_22 rfl (lv_at hl 0 rfl) ?_
  refine vp_callSi ((va_runSN (As := [.int (nI i)]) (rest := [.int (nI (orF (fun s9 => alB n al t kn nd mb kd fg x s9) i))]) ⟨hx, hb, hml, hown, hts⟩ (c_X11_bit l dC dI cI cD cR i (by first | omega | assumption | exact gnd _ | exact gkn _ | exact Nat.lt_trans (gkn _) (by decide) | exact Nat.lt_trans (gnd _) (by decide))) ⟨va_cnB (host := "HoldsOnceDenied") 1 hts gX9_allowedTo_X11_bit_n66 rfl rfl rfl (CX.nm hCX 2 rfl) (hts (.initialized RX11) (by decide +kernel)) (by decide +kernel) ⟨Nat.le_of_ble_eq_true rfl, Nat.le_of_ble_eq_true rfl⟩, (hts (.static yX11_bit) (by decide +kernel)), trivial⟩ (preS_R hCX (trivial)) rfl rfl hl.1 rfl (lv_room (Nat.le_of_ble_eq_true rfl)) dX9_allowedTo_23 ⟨Nat.le_of_ble_eq_true (by first | rfl | decide), Nat.le_of_ble_eq_true (by first | rfl | decide)⟩).run) (fun r_23 hr_23 => ?_)
  subst hr_23
  refine ho_ior hx hb dX9_allowedTo_26 ?_
  refine lv_istore_n (lv' := [(2, .int (nI ((orF (fun s9 => alB n al t kn nd mb kd fg x s9) i) ||| (2 ^ i)))), (3, .int (nI i)), (0, .ref h), (1, .int (nI x))]) hx hb dX9_allowedTo_27 rfl hl (by decide) rfl (fun ls hl => ?_)
  refine ho_iinc (lv' := [(3, .int (nI (i + 1))), (2, .int (nI ((orF (fun s9 => alB n al t kn nd mb kd fg x s9) i) ||| (2 ^ i)))), (0, .ref h), (1, .int (nI x))]) (a := i) (b := 1) hx hb dX9_allowedTo_28 hl (k := 1) rfl rfl (by decide) rfl (fun ls hl => ?_)
  refine lv_goto (tgt := 4) hx hb dX9_allowedTo_31 (by decide) ?_
  have e9_2 : (orF (fun s9 => alB n al t kn nd mb kd fg x s9) i) ||| (2 ^ i) = orF (fun s9 => alB n al t kn nd mb kd fg x s9) (i + 1) := by first | exact orF_t c_18 | exact orF_f c_18
  rw [e9_2] at hl
  exact ih4 (i + 1) _ (by omega) (show n - (i + 1) < fu4 from (by omega)) (lv_sub hl [0, 1, 2, 3] rfl)
set_option maxHeartbeats 4000000 in
set_option maxRecDepth 100000 in
theorem c_X9_silencingFor (l : Launch) (dC : Nat → ClassId) (dI : Nat → Nat → Nat) (cI cD cR : ClassId) (h a1 a2 a3 a4 a5 n d t al day : Nat) (nd : Nat → Nat) (mk si : Nat → Int32) (kn : Nat → Nat) (mb : Nat → Option Nat) (x : Nat) (DL : List Nat) (kd fg : Nat → Nat) (hn : n ≤ 9) (hd : d ≤ 6) (ht : t < 512) (hal : al < 64) (hday : day < 2 ^ 30) (gnd : ∀ i, nd i < 512) (gkn : ∀ j, kn j < 512) (hxx : x < 6) (gmb : ∀ j a, mb j = some a → a ∈ DL) : Met l yX9_silencingFor wsX9_silencingFor ({ frames := 4, cells := 0, slots := 0, locals := 93 }) (pcR dC dI cI cD cR [.ref h, .int (nI x)] (fun H => va_P (dC, dI) vwCl ((schW cI cD h a1 a2 a3 a4 a5 n d t al day nd mk si kn mb)) H ∧ DP dC dI DL kd fg H)) (vp_Si (fun r => r = nI (slN n al t day kn nd mb kd fg x))) 0 0 (fun _ => False) := by
  refine Met.ofW (cc := cX9_silencingFor) (maxL := 7) (ret := (some .int)) (by decide) rfl ?_
  intro p e s m args below meth c s₁ B hml hv
  obtain ⟨rfl, hH0, hCX⟩ := hv
  have hx := B.exec
  have hb := B.bytes
  have hr := B.returns
  have hts := atoms_spec (ws := wsX9_silencingFor) B.pre
  have hown : s.vm.findClass RX9 = some m.cls := findClass_of_methodNamed B.named
  have hlocks := B.notSynchronized
  have hK := hCX.1
  obtain ⟨hP, hDP⟩ := hH0
  have hl := lv_entry ([.ref h, .int (nI x)]) (n := 7) (Nat.le_of_ble_eq_true rfl)
  rw [lg_entry_eq]
  generalize (lg_sl ([.ref h, .int (nI x)]) ++ List.replicate (7 - (lg_sl ([.ref h, .int (nI x)])).length) Slot.unset).toArray = ls at hl ⊢
  have hl : lv_has ls 7 [(0, .ref h), (1, .int (nI x))] := hl
  refine lv_aload_n hx hb dX9_silencingFor_0 rfl (lv_at hl 0 rfl) ?_
  refine lv_iload_n hx hb dX9_silencingFor_1 rfl (lv_at hl 1 rfl) ?_
  refine va_csq ((va_runV (As := [.int (nI x)]) (rest := []) ⟨hx, hb, hml, hown, hts⟩ (c_X9_memberAt l dC dI cI cD cR h a1 a2 a3 a4 a5 n d t al day nd mk si kn mb x (by first | omega | assumption | exact gnd _ | exact gkn _ | exact Nat.lt_trans (gkn _) (by decide) | exact Nat.lt_trans (gnd _) (by decide)) (by first | omega | assumption | exact gnd _ | exact gkn _ | exact Nat.lt_trans (gkn _) (by decide) | exact Nat.lt_trans (gnd _) (by decide)) (by first | omega | assumption | exact gnd _ | exact gkn _ | exact Nat.lt_trans (gkn _) (by decide) | exact Nat.lt_trans (gnd _) (by decide)) (by first | omega | assumption | exact gnd _ | exact gkn _ | exact Nat.lt_trans (gkn _) (by decide) | exact Nat.lt_trans (gnd _) (by decide)) (by first | omega | assumption | exact gnd _ | exact gkn _ | exact Nat.lt_trans (gkn _) (by decide) | exact Nat.lt_trans (gnd _) (by decide)) gnd gkn (by first | omega | assumption | exact gnd _ | exact gkn _ | exact Nat.lt_trans (gkn _) (by decide) | exact Nat.lt_trans (gnd _) (by decide))) (cwV 1 hts gX9_silencingFor_X9_memberAt rfl rfl rfl (by decide +kernel) ⟨Nat.le_of_ble_eq_true rfl, Nat.le_of_ble_eq_true rfl⟩) (preV_R hCX (va_recv hK hP (ci := 9) (q0 := 0) rfl rfl) (hP)) rfl rfl hl.1 rfl (lv_room (Nat.le_of_ble_eq_true rfl)) dX9_silencingFor_2 ⟨Nat.le_of_ble_eq_true (by first | rfl | decide), Nat.le_of_ble_eq_true (by first | rfl | decide)⟩).run) (fun r_2 hr_2 => ?_)
  subst hr_2
  cases hv_2 : mb x with
  | none =>
    refine ho_topr (y := .null) rfl ?_
    refine lv_astore_nN (lv' := [(2, .null), (0, .ref h), (1, .int (nI x))]) hx hb dX9_silencingFor_5 rfl hl (by decide) rfl (fun ls hl => ?_)
    refine lv_aload_nN hx hb dX9_silencingFor_6 rfl (lv_at hl 0 rfl) ?_
    refine lv_ifnullN (tgt := 18) hx hb dX9_silencingFor_7 (by decide) ?_
    refine lv_iconst (v := nI 0) hx hb dX9_silencingFor_18 (by decide +kernel) ?_
    exact W.iret (v := nI 0) hx hb hr (fun T9 hT9 hW9 => ⟨_, rfl, (congrArg nI (by simp_all [slN])), hT9⟩) (fun q h => by cases h) dX9_silencingFor_19
  | some a_2 =>
    refine ho_topr (y := .ref a_2) rfl ?_
    have hda_2 : a_2 ∈ DL := gmb _ _ hv_2
    refine lv_astore_n (lv' := [(2, .ref a_2), (0, .ref h), (1, .int (nI x))]) hx hb dX9_silencingFor_5 rfl hl (by decide) rfl (fun ls hl => ?_)
    refine lv_aload_n hx hb dX9_silencingFor_6 rfl (lv_at hl 0 rfl) ?_
    refine lv_ifnull hx hb dX9_silencingFor_7 ?_
    refine lv_aload_n hx hb dX9_silencingFor_10 rfl (lv_at hl 1 rfl) ?_
    refine lv_iload_n hx hb dX9_silencingFor_11 rfl (lv_at hl 2 rfl) ?_
    refine vp_callSi ((va_runV (As := [.int (nI x)]) (rest := []) ⟨hx, hb, hml, hown, hts⟩ (c_X9_isAlive l dC dI cI cD cR h a1 a2 a3 a4 a5 n d t al day nd mk si kn mb x (by first | omega | assumption | exact gnd _ | exact gkn _ | exact Nat.lt_trans (gkn _) (by decide) | exact Nat.lt_trans (gnd _) (by decide)) (by first | omega | assumption | exact gnd _ | exact gkn _ | exact Nat.lt_trans (gkn _) (by decide) | exact Nat.lt_trans (gnd _) (by decide)) (by first | omega | assumption | exact gnd _ | exact gkn _ | exact Nat.lt_trans (gkn _) (by decide) | exact Nat.lt_trans (gnd _) (by decide)) (by first | omega | assumption | exact gnd _ | exact gkn _ | exact Nat.lt_trans (gkn _) (by decide) | exact Nat.lt_trans (gnd _) (by decide)) (by first | omega | assumption | exact gnd _ | exact gkn _ | exact Nat.lt_trans (gkn _) (by decide) | exact Nat.lt_trans (gnd _) (by decide)) gnd gkn (by first | omega | assumption | exact gnd _ | exact gkn _ | exact Nat.lt_trans (gkn _) (by decide) | exact Nat.lt_trans (gnd _) (by decide))) (cwV 1 hts gX9_silencingFor_X9_isAlive rfl rfl rfl (by decide +kernel) ⟨Nat.le_of_ble_eq_true rfl, Nat.le_of_ble_eq_true rfl⟩) (preV_R hCX (va_recv hK hP (ci := 9) (q0 := 0) rfl rfl) (hP)) rfl rfl hl.1 rfl (lv_room (Nat.le_of_ble_eq_true rfl)) dX9_silencingFor_12 ⟨Nat.le_of_ble_eq_true (by first | rfl | decide), Nat.le_of_ble_eq_true (by first | rfl | decide)⟩).run) (fun r_12 hr_12 => ?_)
    subst hr_12
    refine ho_bne (tgt := 20) hx hb dX9_silencingFor_15 (by decide) (fun c_15 => ?_) (fun c_15 => ?_)
    · refine lv_iconst (v := nI 0) hx hb dX9_silencingFor_20 (by decide +kernel) ?_
      refine lv_istore_n (lv' := [(3, .int (nI 0)), (2, .ref a_2), (0, .ref h), (1, .int (nI x))]) hx hb dX9_silencingFor_21 rfl hl (by decide) rfl (fun ls hl => ?_)
      refine lv_aload_n hx hb dX9_silencingFor_22 rfl (lv_at hl 2 rfl) ?_
      refine lv_iload_n hx hb dX9_silencingFor_23 rfl (lv_at hl 3 rfl) ?_
      refine vp_callSi ((va_runV (As := [.int (nI x)]) (rest := []) ⟨hx, hb, hml, hown, hts⟩ (c_X9_knownTo l dC dI cI cD cR h a1 a2 a3 a4 a5 n d t al day nd mk si kn mb x (by first | omega | assumption | exact gnd _ | exact gkn _ | exact Nat.lt_trans (gkn _) (by decide) | exact Nat.lt_trans (gnd _) (by decide)) (by first | omega | assumption | exact gnd _ | exact gkn _ | exact Nat.lt_trans (gkn _) (by decide) | exact Nat.lt_trans (gnd _) (by decide)) (by first | omega | assumption | exact gnd _ | exact gkn _ | exact Nat.lt_trans (gkn _) (by decide) | exact Nat.lt_trans (gnd _) (by decide)) (by first | omega | assumption | exact gnd _ | exact gkn _ | exact Nat.lt_trans (gkn _) (by decide) | exact Nat.lt_trans (gnd _) (by decide)) (by first | omega | assumption | exact gnd _ | exact gkn _ | exact Nat.lt_trans (gkn _) (by decide) | exact Nat.lt_trans (gnd _) (by decide)) gnd gkn (by first | omega | assumption | exact gnd _ | exact gkn _ | exact Nat.lt_trans (gkn _) (by decide) | exact Nat.lt_trans (gnd _) (by decide))) (cwV 1 hts gX9_silencingFor_X9_knownTo rfl rfl rfl (by decide +kernel) ⟨Nat.le_of_ble_eq_true rfl, Nat.le_of_ble_eq_true rfl⟩) (preV_R hCX (va_recv hK hP (ci := 9) (q0 := 0) rfl rfl) (hP)) rfl rfl hl.1 rfl (lv_room (Nat.le_of_ble_eq_true rfl)) dX9_silencingFor_24 ⟨Nat.le_of_ble_eq_true (by first | rfl | decide), Nat.le_of_ble_eq_true (by first | rfl | decide)⟩).run) (fun r_24 hr_24 => ?_)
      subst hr_24
      refine lv_istore (lv' := [(4, .int (nI (kn x))), (3, .int (nI 0)), (2, .ref a_2), (0, .ref h), (1, .int (nI x))]) hx hb dX9_silencingFor_27 hl (by decide) rfl (fun ls hl => ?_)
      refine lv_iconst (v := nI 0) hx hb dX9_silencingFor_29 (by decide +kernel) ?_
      refine lv_istore (lv' := [(5, .int (nI 0)), (4, .int (nI (kn x))), (3, .int (nI 0)), (2, .ref a_2), (0, .ref h), (1, .int (nI x))]) hx hb dX9_silencingFor_30 hl (by decide) rfl (fun ls hl => ?_)
      refine ho_lp (T := Nat) 7 (fun x9 => [(5, .int (nI x9)), (4, .int (nI (kn x))), (3, .int (nI (orF (fun s9 => !t.testBit s9 && maB (kd a_2) (fg a_2) t (kn x) (nd s9) s9 && siB (kd a_2) t (kn x) (nd s9) (day % 2 != 0)) x9))), (2, .ref a_2), (0, .ref h), (1, .int (nI x))]) (fun x9 => []) (fun x9 => (x9 ≤ n)) (fun x9 => n - x9) 0 (by omega) (lv_sub hl [0, 1, 2, 3, 4, 5] rfl) ?_
      intro fu32 i ls hI hm32 hl ih
      have hin := hI
      have hl : lv_has ls 7 [(5, .int (nI i)), (4, .int (nI (kn x))), (3, .int (nI (orF (fun s9 => !t.testBit s9 && maB (kd a_2) (fg a_2) t (kn x) (nd s9) s9 && siB (kd a_2) t (kn x) (nd s9) (day % 2 != 0)) i))), (2, .ref a_2), (0, .ref h), (1, .int (nI x))] := hl
      have hin : i ≤ n := hin
      have hm32 : n - i < fu32 + 1 := hm32
      refine W.eq (g2 := F0 m 32 ls []) rfl ?_
      have ih32 := ih
      refine lv_iload hx hb dX9_silencingFor_32 (lv_at hl 0 rfl) ?_
      refine lv_aload_n hx hb dX9_silencingFor_34 rfl (lv_at hl 4 rfl) ?_
      refine va_get (D := (dC, dI)) (ci := 9) (v := .int (nI n)) (C := RX9) (T := TX9) (N := 10) hx hb hts (fun _ h => List.mem_cons_of_mem _ (List.mem_append_left _ (List.mem_append_left _ (List.mem_append_left _ (List.mem_append_left _ (List.mem_append_left _ (List.mem_append_left _ (List.mem_append_left _ (List.mem_append_left _ (List.mem_append_right _ h)))))))))) hown hK hP 0 rfl rfl 0 (by decide) (hts (.fieldLink RX9 30 "HoldsOnceDenied$School" "sentences" "I") (by decide +kernel)) (fun _ h9 => h9) rfl dX9_silencingFor_35 ?_
      refine ho_icmp_ge (tgt := 108) hx hb dX9_silencingFor_38 (by decide) (by omega) (by omega) (fun c_38 => ?_) (fun c_38 => ?_)
      · refine lv_iload_n hx hb dX9_silencingFor_108 rfl (lv_at hl 2 rfl) ?_
        exact W.iret (v := nI (orF (fun s9 => !t.testBit s9 && maB (kd a_2) (fg a_2) t (kn x) (nd s9) s9 && siB (kd a_2) t (kn x) (nd s9) (day % 2 != 0)) i)) hx hb hr (fun T9 hT9 hW9 => ⟨_, rfl, (congrArg nI (by rw [show i = n by omega]; simp_all [slN])), hT9⟩) (fun q h => by cases h) dX9_silencingFor_109
      refine lv_aload_n hx hb dX9_silencingFor_41 rfl (lv_at hl 4 rfl) ?_
      refine lv_iload hx hb dX9_silencingFor_42 (lv_at hl 0 rfl) ?_
      refine vp_callSi ((va_runV (As := [.int (nI i)]) (rest := []) ⟨hx, hb, hml, hown, hts⟩ (c_X9_needsOf l dC dI cI cD cR h a1 a2 a3 a4 a5 n d t al day nd mk si kn mb i (by first | omega | assumption | exact gnd _ | exact gkn _ | exact Nat.lt_trans (gkn _) (by decide) | exact Nat.lt_trans (gnd _) (by decide)) (by first | omega | assumption | exact gnd _ | exact gkn _ | exact Nat.lt_trans (gkn _) (by decide) | exact Nat.lt_trans (gnd _) (by decide)) (by first | omega | assumption | exact gnd _ | exact gkn _ | exact Nat.lt_trans (gkn _) (by decide) | exact Nat.lt_trans (gnd _) (by decide)) (by first | omega | assumption | exact gnd _ | exact gkn _ | exact Nat.lt_trans (gkn _) (by decide) | exact Nat.lt_trans (gnd _) (by decide)) (by first | omega | assumption | exact gnd _ | exact gkn _ | exact Nat.lt_trans (gkn _) (by decide) | exact Nat.lt_trans (gnd _) (by decide)) gnd gkn (by first | omega | assumption | exact gnd _ | exact gkn _ | exact Nat.lt_trans (gkn _) (by decide) | exact Nat.lt_trans (gnd _) (by decide))) (cwV 1 hts gX9_silencingFor_X9_needsOf rfl rfl rfl (by decide +kernel) ⟨Nat.le_of_ble_eq_true rfl, Nat.le_of_ble_eq_true rfl⟩) (preV_R hCX (va_recv hK hP (ci := 9) (q0 := 0) rfl rfl) (hP)) rfl rfl hl.1 rfl (lv_room (Nat.le_of_ble_eq_true rfl)) dX9_silencingFor_44 ⟨Nat.le_of_ble_eq_true (by first | rfl | decide), Nat.le_of_ble_eq_true (by first | rfl | decide)⟩).run) (fun r_44 hr_44 => ?_)
      subst hr_44
      refine lv_istore (lv' := [(6, .int (nI (nd i))), (5, .int (nI i)), (4, .int (nI (kn x))), (3, .int (nI (orF (fun s9 => !t.testBit s9 && maB (kd a_2) (fg a_2) t (kn x) (nd s9) s9 && siB (kd a_2) t (kn x) (nd s9) (day % 2 != 0)) i))), (2, .ref a_2), (0, .ref h), (1, .int (nI x))]) hx hb dX9_silencingFor_47 hl (by decide) rfl (fun ls hl => ?_)
      refine lv_aload_n hx hb dX9_silencingFor_49 rfl (lv_at hl 5 rfl) ?_
      refine lv_iload hx hb dX9_silencingFor_50 (lv_at hl 1 rfl) ?_
      refine vp_callSi ((va_runV (As := [.int (nI i)]) (rest := []) ⟨hx, hb, hml, hown, hts⟩ (c_X9_isTrue l dC dI cI cD cR h a1 a2 a3 a4 a5 n d t al day nd mk si kn mb i (by first | omega | assumption | exact gnd _ | exact gkn _ | exact Nat.lt_trans (gkn _) (by decide) | exact Nat.lt_trans (gnd _) (by decide)) (by first | omega | assumption | exact gnd _ | exact gkn _ | exact Nat.lt_trans (gkn _) (by decide) | exact Nat.lt_trans (gnd _) (by decide)) (by first | omega | assumption | exact gnd _ | exact gkn _ | exact Nat.lt_trans (gkn _) (by decide) | exact Nat.lt_trans (gnd _) (by decide)) (by first | omega | assumption | exact gnd _ | exact gkn _ | exact Nat.lt_trans (gkn _) (by decide) | exact Nat.lt_trans (gnd _) (by decide)) (by first | omega | assumption | exact gnd _ | exact gkn _ | exact Nat.lt_trans (gkn _) (by decide) | exact Nat.lt_trans (gnd _) (by decide)) gnd gkn (by first | omega | assumption | exact gnd _ | exact gkn _ | exact Nat.lt_trans (gkn _) (by decide) | exact Nat.lt_trans (gnd _) (by decide))) (cwV 1 hts gX9_silencingFor_X9_isTrue rfl rfl rfl (by decide +kernel) ⟨Nat.le_of_ble_eq_true rfl, Nat.le_of_ble_eq_true rfl⟩) (preV_R hCX (va_recv hK hP (ci := 9) (q0 := 0) rfl rfl) (hP)) rfl rfl hl.1 rfl (lv_room (Nat.le_of_ble_eq_true rfl)) dX9_silencingFor_52 ⟨Nat.le_of_ble_eq_true (by first | rfl | decide), Nat.le_of_ble_eq_true (by first | rfl | decide)⟩).run) (fun r_52 hr_52 => ?_)
      subst hr_52
      refine ho_bne (tgt := 102) hx hb dX9_silencingFor_55 (by decide) (fun c_55 => ?_) (fun c_55 => ?_)
      · refine ho_iinc (lv' := [(5, .int (nI (i + 1))), (6, .int (nI (nd i))), (4, .int (nI (kn x))), (3, .int (nI (orF (fun s9 => !t.testBit s9 && maB (kd a_2) (fg a_2) t (kn x) (nd s9) s9 && siB (kd a_2) t (kn x) (nd s9) (day % 2 != 0)) i))), (2, .ref a_2), (0, .ref h), (1, .int (nI x))]) (a := i) (b := 1) hx hb dX9_silencingFor_102 hl (k := 1) rfl rfl (by decide) rfl (fun ls hl => ?_)
        refine lv_goto (tgt := 32) hx hb dX9_silencingFor_105 (by decide) ?_
        have e9_3 : orF (fun s9 => !t.testBit s9 && maB (kd a_2) (fg a_2) t (kn x) (nd s9) s9 && siB (kd a_2) t (kn x) (nd s9) (day % 2 != 0)) i = orF (fun s9 => !t.testBit s9 && maB (kd a_2) (fg a_2) t (kn x) (nd s9) s9 && siB (kd a_2) t (kn x) (nd s9) (day % 2 != 0)) (i + 1) := by first | exact orF_t (by simp_all) | exact orF_f (by simp_all)
        rw [e9_3] at hl
        exact ih32 (i + 1) _ (by omega) (show n - (i + 1) < fu32 from (by omega)) (lv_sub hl [0, 2, 3, 4, 5, 6] rfl)
      refine lv_aload_n hx hb dX9_silencingFor_58 rfl (lv_at hl 4 rfl) ?_
      refine lv_iload hx hb dX9_silencingFor_59 (lv_at hl 1 rfl) ?_
      refine lv_aload_n hx hb dX9_silencingFor_61 rfl (lv_at hl 5 rfl) ?_
      refine va_get (D := (dC, dI)) (ci := 9) (v := .int (nI t)) (C := RX9) (T := TX9) (N := 10) hx hb hts (fun _ h => List.mem_cons_of_mem _ (List.mem_append_left _ (List.mem_append_left _ (List.mem_append_left _ (List.mem_append_left _ (List.mem_append_left _ (List.mem_append_left _ (List.mem_append_left _ (List.mem_append_left _ (List.mem_append_right _ h)))))))))) hown hK hP 0 rfl rfl 2 (by decide) (hts (.fieldLink RX9 37 "HoldsOnceDenied$School" "truth" "I") (by decide +kernel)) (fun _ h9 => h9) rfl dX9_silencingFor_62 ?_
      refine lv_iload hx hb dX9_silencingFor_65 (lv_at hl 2 rfl) ?_
      refine lv_iload hx hb dX9_silencingFor_67 (lv_at hl 0 rfl) ?_
      refine ho_via (g2 := F0 m 72 ls [.int (bI (maB (kd a_2) (fg a_2) t (kn x) (nd i) i))]) (fun K9 => ?_) ?_
      · obtain ⟨hPa, hka, hfa⟩ := hDP _ hda_2
        generalize hkk : kd a_2 = kk at hPa hka K9
        generalize hff : fg a_2 = ff at hPa hfa K9
        rcases (show kk = 0 ∨ kk = 1 ∨ kk = 2 ∨ kk = 3 ∨ kk = 4 ∨ kk = 5 ∨ kk = 6 ∨ kk = 7 by omega) with rfl | rfl | rfl | rfl | rfl | rfl | rfl | rfl
        · refine vp_callSi ((va_runV (As := [.int (nI i), .int (nI t), .int (nI (kn x)), .int (nI (nd i))]) (rest := []) ⟨hx, hb, hml, hown, hts⟩ (c_X2_mayDispute l dC dI cI cD cR a_2 i t (kn x) (nd i) (by first | omega | assumption | exact gnd _ | exact gkn _ | exact Nat.lt_trans (gkn _) (by decide) | exact Nat.lt_trans (gnd _) (by decide)) (by first | omega | assumption | exact gnd _ | exact gkn _ | exact Nat.lt_trans (gkn _) (by decide) | exact Nat.lt_trans (gnd _) (by decide)) (by first | omega | assumption | exact gnd _ | exact gkn _ | exact Nat.lt_trans (gkn _) (by decide) | exact Nat.lt_trans (gnd _) (by decide)) (by first | omega | assumption | exact gnd _ | exact gkn _ | exact Nat.lt_trans (gkn _) (by decide) | exact Nat.lt_trans (gnd _) (by decide))) (cwV 4 hts gX9_silencingFor_X2_mayDispute rfl rfl rfl (by decide +kernel) ⟨Nat.le_of_ble_eq_true rfl, Nat.le_of_ble_eq_true rfl⟩) (preV_R hCX (va_recv hK hPa (ci := 2) (q0 := 0) rfl rfl) (trivial)) rfl rfl hl.1 rfl (lv_room (Nat.le_of_ble_eq_true rfl)) dX9_silencingFor_69 ⟨Nat.le_of_ble_eq_true (by first | rfl | decide), Nat.le_of_ble_eq_true (by first | rfl | decide)⟩).run) (fun r9 hr9 => ?_)
          subst hr9
          exact K9
        · refine vp_callSi ((va_runU (As := [.int (nI i), .int (nI t), .int (nI (kn x)), .int (nI (nd i))]) (rest := []) ⟨hx, hb, hml, hown, hts⟩ (c_X3_mayDispute l dC dI cI cD cR a_2 i t (kn x) (nd i) (by first | omega | assumption | exact gnd _ | exact gkn _ | exact Nat.lt_trans (gkn _) (by decide) | exact Nat.lt_trans (gnd _) (by decide)) (by first | omega | assumption | exact gnd _ | exact gkn _ | exact Nat.lt_trans (gkn _) (by decide) | exact Nat.lt_trans (gnd _) (by decide)) (by first | omega | assumption | exact gnd _ | exact gkn _ | exact Nat.lt_trans (gkn _) (by decide) | exact Nat.lt_trans (gnd _) (by decide)) (by first | omega | assumption | exact gnd _ | exact gkn _ | exact Nat.lt_trans (gkn _) (by decide) | exact Nat.lt_trans (gnd _) (by decide))) (va_cwO 4 hts gX9_silencingFor_X3_mayDispute_u89X3 rfl rfl rfl (b0 := cX2_mayDispute) (m0 := 5) (r0 := (some .boolean)) (by decide +kernel) (by decide +kernel) ⟨Nat.le_of_ble_eq_true rfl, Nat.le_of_ble_eq_true rfl⟩) (preV_R hCX (va_recv hK hPa (ci := 3) (q0 := 0) rfl rfl) (trivial)) rfl rfl hl.1 rfl (lv_room (Nat.le_of_ble_eq_true rfl)) dX9_silencingFor_69 ⟨Nat.le_of_ble_eq_true (by first | rfl | decide), Nat.le_of_ble_eq_true (by first | rfl | decide)⟩).run) (fun r9 hr9 => ?_)
          subst hr9
          exact K9
        · refine vp_callSi ((va_runU (As := [.int (nI i), .int (nI t), .int (nI (kn x)), .int (nI (nd i))]) (rest := []) ⟨hx, hb, hml, hown, hts⟩ (c_X10_mayDispute_k2 l dC dI cI cD cR a_2 ff i t (kn x) (nd i) (by first | omega | assumption | exact gnd _ | exact gkn _ | exact Nat.lt_trans (gkn _) (by decide) | exact Nat.lt_trans (gnd _) (by decide)) (by first | omega | assumption | exact gnd _ | exact gkn _ | exact Nat.lt_trans (gkn _) (by decide) | exact Nat.lt_trans (gnd _) (by decide)) (by first | omega | assumption | exact gnd _ | exact gkn _ | exact Nat.lt_trans (gkn _) (by decide) | exact Nat.lt_trans (gnd _) (by decide)) (by first | omega | assumption | exact gnd _ | exact gkn _ | exact Nat.lt_trans (gkn _) (by decide) | exact Nat.lt_trans (gnd _) (by decide))) (va_cwO 4 hts gX9_silencingFor_X10_mayDispute_u89X10 rfl rfl rfl (b0 := cX2_mayDispute) (m0 := 5) (r0 := (some .boolean)) (by decide +kernel) (by decide +kernel) ⟨Nat.le_of_ble_eq_true rfl, Nat.le_of_ble_eq_true rfl⟩) (preV_R hCX (va_recv hK hPa (ci := 10) (q0 := 0) rfl rfl) (hPa)) rfl rfl hl.1 rfl (lv_room (Nat.le_of_ble_eq_true rfl)) dX9_silencingFor_69 ⟨Nat.le_of_ble_eq_true (by first | rfl | decide), Nat.le_of_ble_eq_true (by first | rfl | decide)⟩).run) (fun r9 hr9 => ?_)
          subst hr9
          exact K9
        · refine vp_callSi ((va_runU (As := [.int (nI i), .int (nI t), .int (nI (kn x)), .int (nI (nd i))]) (rest := []) ⟨hx, hb, hml, hown, hts⟩ (c_X1_mayDispute l dC dI cI cD cR a_2 i t (kn x) (nd i)) (va_cwO 4 hts gX9_silencingFor_X1_mayDispute_u89X1 rfl rfl rfl (b0 := cX2_mayDispute) (m0 := 5) (r0 := (some .boolean)) (by decide +kernel) (by decide +kernel) ⟨Nat.le_of_ble_eq_true rfl, Nat.le_of_ble_eq_true rfl⟩) (preV_R hCX (va_recv hK hPa (ci := 1) (q0 := 0) rfl rfl) (trivial)) rfl rfl hl.1 rfl (lv_room (Nat.le_of_ble_eq_true rfl)) dX9_silencingFor_69 ⟨Nat.le_of_ble_eq_true (by first | rfl | decide), Nat.le_of_ble_eq_true (by first | rfl | decide)⟩).run) (fun r9 hr9 => ?_)
          subst hr9
          exact K9
        · refine vp_callSi ((va_runU (As := [.int (nI i), .int (nI t), .int (nI (kn x)), .int (nI (nd i))]) (rest := []) ⟨hx, hb, hml, hown, hts⟩ (c_X5_mayDispute_k4 l dC dI cI cD cR a_2 ff i t (kn x) (nd i) (by first | omega | assumption | exact gnd _ | exact gkn _ | exact Nat.lt_trans (gkn _) (by decide) | exact Nat.lt_trans (gnd _) (by decide)) (by first | omega | assumption | exact gnd _ | exact gkn _ | exact Nat.lt_trans (gkn _) (by decide) | exact Nat.lt_trans (gnd _) (by decide)) (by first | omega | assumption | exact gnd _ | exact gkn _ | exact Nat.lt_trans (gkn _) (by decide) | exact Nat.lt_trans (gnd _) (by decide)) (by first | omega | assumption | exact gnd _ | exact gkn _ | exact Nat.lt_trans (gkn _) (by decide) | exact Nat.lt_trans (gnd _) (by decide)) (by first | omega | assumption | exact gnd _ | exact gkn _ | exact Nat.lt_trans (gkn _) (by decide) | exact Nat.lt_trans (gnd _) (by decide))) (va_cwO 4 hts gX9_silencingFor_X5_mayDispute_u89X5 rfl rfl rfl (b0 := cX2_mayDispute) (m0 := 5) (r0 := (some .boolean)) (by decide +kernel) (by decide +kernel) ⟨Nat.le_of_ble_eq_true rfl, Nat.le_of_ble_eq_true rfl⟩) (preV_R hCX (va_recv hK hPa (ci := 5) (q0 := 0) rfl rfl) (hPa)) rfl rfl hl.1 rfl (lv_room (Nat.le_of_ble_eq_true rfl)) dX9_silencingFor_69 ⟨Nat.le_of_ble_eq_true (by first | rfl | decide), Nat.le_of_ble_eq_true (by first | rfl | decide)⟩).run) (fun r9 hr9 => ?_)
          subst hr9
          exact K9
        · refine vp_callSi ((va_runU (As := [.int (nI i), .int (nI t), .int (nI (kn x)), .int (nI (nd i))]) (rest := []) ⟨hx, hb, hml, hown, hts⟩ (c_X6_mayDispute l dC dI cI cD cR a_2 ff i t (kn x) (nd i) (by first | omega | assumption | exact gnd _ | exact gkn _ | exact Nat.lt_trans (gkn _) (by decide) | exact Nat.lt_trans (gnd _) (by decide)) (by first | omega | assumption | exact gnd _ | exact gkn _ | exact Nat.lt_trans (gkn _) (by decide) | exact Nat.lt_trans (gnd _) (by decide)) (by first | omega | assumption | exact gnd _ | exact gkn _ | exact Nat.lt_trans (gkn _) (by decide) | exact Nat.lt_trans (gnd _) (by decide)) (by first | omega | assumption | exact gnd _ | exact gkn _ | exact Nat.lt_trans (gkn _) (by decide) | exact Nat.lt_trans (gnd _) (by decide)) (by first | omega | assumption | exact gnd _ | exact gkn _ | exact Nat.lt_trans (gkn _) (by decide) | exact Nat.lt_trans (gnd _) (by decide))) (va_cwO 4 hts gX9_silencingFor_X6_mayDispute_u89X6 rfl rfl rfl (b0 := cX2_mayDispute) (m0 := 5) (r0 := (some .boolean)) (by decide +kernel) (by decide +kernel) ⟨Nat.le_of_ble_eq_true rfl, Nat.le_of_ble_eq_true rfl⟩) (preV_R hCX (va_recv hK hPa (ci := 6) (q0 := 0) rfl rfl) (hPa)) rfl rfl hl.1 rfl (lv_room (Nat.le_of_ble_eq_true rfl)) dX9_silencingFor_69 ⟨Nat.le_of_ble_eq_true (by first | rfl | decide), Nat.le_of_ble_eq_true (by first | rfl | decide)⟩).run) (fun r9 hr9 => ?_)
          subst hr9
          exact K9
        · refine vp_callSi ((va_runU (As := [.int (nI i), .int (nI t), .int (nI (kn x)), .int (nI (nd i))]) (rest := []) ⟨hx, hb, hml, hown, hts⟩ (c_X7_mayDispute l dC dI cI cD cR a_2 ff i t (kn x) (nd i) (by first | omega | assumption | exact gnd _ | exact gkn _ | exact Nat.lt_trans (gkn _) (by decide) | exact Nat.lt_trans (gnd _) (by decide)) (by first | omega | assumption | exact gnd _ | exact gkn _ | exact Nat.lt_trans (gkn _) (by decide) | exact Nat.lt_trans (gnd _) (by decide)) (by first | omega | assumption | exact gnd _ | exact gkn _ | exact Nat.lt_trans (gkn _) (by decide) | exact Nat.lt_trans (gnd _) (by decide)) (by first | omega | assumption | exact gnd _ | exact gkn _ | exact Nat.lt_trans (gkn _) (by decide) | exact Nat.lt_trans (gnd _) (by decide)) (by first | omega | assumption | exact gnd _ | exact gkn _ | exact Nat.lt_trans (gkn _) (by decide) | exact Nat.lt_trans (gnd _) (by decide))) (va_cwO 4 hts gX9_silencingFor_X7_mayDispute_u89X7 rfl rfl rfl (b0 := cX2_mayDispute) (m0 := 5) (r0 := (some .boolean)) (by decide +kernel) (by decide +kernel) ⟨Nat.le_of_ble_eq_true rfl, Nat.le_of_ble_eq_true rfl⟩) (preV_R hCX (va_recv hK hPa (ci := 7) (q0 := 0) rfl rfl) (hPa)) rfl rfl hl.1 rfl (lv_room (Nat.le_of_ble_eq_true rfl)) dX9_silencingFor_69 ⟨Nat.le_of_ble_eq_true (by first | rfl | decide), Nat.le_of_ble_eq_true (by first | rfl | decide)⟩).run) (fun r9 hr9 => ?_)
          subst hr9
          exact K9
        · refine vp_callSi ((va_runU (As := [.int (nI i), .int (nI t), .int (nI (kn x)), .int (nI (nd i))]) (rest := []) ⟨hx, hb, hml, hown, hts⟩ (c_X0_mayDispute l dC dI cI cD cR a_2 ff i t (kn x) (nd i) (by first | omega | assumption | exact gnd _ | exact gkn _ | exact Nat.lt_trans (gkn _) (by decide) | exact Nat.lt_trans (gnd _) (by decide)) (by first | omega | assumption | exact gnd _ | exact gkn _ | exact Nat.lt_trans (gkn _) (by decide) | exact Nat.lt_trans (gnd _) (by decide)) (by first | omega | assumption | exact gnd _ | exact gkn _ | exact Nat.lt_trans (gkn _) (by decide) | exact Nat.lt_trans (gnd _) (by decide)) (by first | omega | assumption | exact gnd _ | exact gkn _ | exact Nat.lt_trans (gkn _) (by decide) | exact Nat.lt_trans (gnd _) (by decide)) (by first | omega | assumption | exact gnd _ | exact gkn _ | exact Nat.lt_trans (gkn _) (by decide) | exact Nat.lt_trans (gnd _) (by decide))) (va_cwO 4 hts gX9_silencingFor_X0_mayDispute_u89X0 rfl rfl rfl (b0 := cX2_mayDispute) (m0 := 5) (r0 := (some .boolean)) (by decide +kernel) (by decide +kernel) ⟨Nat.le_of_ble_eq_true rfl, Nat.le_of_ble_eq_true rfl⟩) (preV_R hCX (va_recv hK hPa (ci := 0) (q0 := 0) rfl rfl) (hPa)) rfl rfl hl.1 rfl (lv_room (Nat.le_of_ble_eq_true rfl)) dX9_silencingFor_69 ⟨Nat.le_of_ble_eq_true (by first | rfl | decide), Nat.le_of_ble_eq_true (by first | rfl | decide)⟩).run) (fun r9 hr9 => ?_)
          subst hr9
          exact K9
      refine ho_beq (tgt := 102) hx hb dX9_silencingFor_72 (by decide) (fun c_72 => ?_) (fun c_72 => ?_)
      · refine ho_iinc (lv' := [(5, .int (nI (i + 1))), (6, .int (nI (nd i))), (4, .int (nI (kn x))), (3, .int (nI (orF (fun s9 => !t.testBit s9 && maB (kd a_2) (fg a_2) t (kn x) (nd s9) s9 && siB (kd a_2) t (kn x) (nd s9) (day % 2 != 0)) i))), (2, .ref a_2), (0, .ref h), (1, .int (nI x))]) (a := i) (b := 1) hx hb dX9_silencingFor_102 hl (k := 1) rfl rfl (by decide) rfl (fun ls hl => ?_)
        refine lv_goto (tgt := 32) hx hb dX9_silencingFor_105 (by decide) ?_
        have e9_3 : orF (fun s9 => !t.testBit s9 && maB (kd a_2) (fg a_2) t (kn x) (nd s9) s9 && siB (kd a_2) t (kn x) (nd s9) (day % 2 != 0)) i = orF (fun s9 => !t.testBit s9 && maB (kd a_2) (fg a_2) t (kn x) (nd s9) s9 && siB (kd a_2) t (kn x) (nd s9) (day % 2 != 0)) (i + 1) := by first | exact orF_t (by simp_all) | exact orF_f (by simp_all)
        rw [e9_3] at hl
        exact ih32 (i + 1) _ (by omega) (show n - (i + 1) < fu32 from (by omega)) (lv_sub hl [0, 2, 3, 4, 5, 6] rfl)
      refine lv_aload_n hx hb dX9_silencingFor_75 rfl (lv_at hl 4 rfl) ?_
      refine lv_aload_n hx hb dX9_silencingFor_76 rfl (lv_at hl 5 rfl) ?_
      refine va_get (D := (dC, dI)) (ci := 9) (v := .int (nI t)) (C := RX9) (T := TX9) (N := 10) hx hb hts (fun _ h => List.mem_cons_of_mem _ (List.mem_append_left _ (List.mem_append_left _ (List.mem_append_left _ (List.mem_append_left _ (List.mem_append_left _ (List.mem_append_left _ (List.mem_append_left _ (List.mem_append_left _ (List.mem_append_right _ h)))))))))) hown hK hP 0 rfl rfl 2 (by decide) (hts (.fieldLink RX9 37 "HoldsOnceDenied$School" "truth" "I") (by decide +kernel)) (fun _ h9 => h9) rfl dX9_silencingFor_77 ?_
      refine lv_iload hx hb dX9_silencingFor_80 (lv_at hl 2 rfl) ?_
      refine lv_iload hx hb dX9_silencingFor_82 (lv_at hl 0 rfl) ?_
      refine lv_aload_n hx hb dX9_silencingFor_84 rfl (lv_at hl 5 rfl) ?_
      refine vp_callSi ((va_runV (As := []) (rest := [.int (nI (nd i)), .int (nI (kn x)), .int (nI t), .ref a_2]) ⟨hx, hb, hml, hown, hts⟩ (c_X9_isOddDay l dC dI cI cD cR h a1 a2 a3 a4 a5 n d t al day nd mk si kn mb (by first | omega | assumption | exact gnd _ | exact gkn _ | exact Nat.lt_trans (gkn _) (by decide) | exact Nat.lt_trans (gnd _) (by decide)) (by first | omega | assumption | exact gnd _ | exact gkn _ | exact Nat.lt_trans (gkn _) (by decide) | exact Nat.lt_trans (gnd _) (by decide)) (by first | omega | assumption | exact gnd _ | exact gkn _ | exact Nat.lt_trans (gkn _) (by decide) | exact Nat.lt_trans (gnd _) (by decide)) (by first | omega | assumption | exact gnd _ | exact gkn _ | exact Nat.lt_trans (gkn _) (by decide) | exact Nat.lt_trans (gnd _) (by decide)) (by first | omega | assumption | exact gnd _ | exact gkn _ | exact Nat.lt_trans (gkn _) (by decide) | exact Nat.lt_trans (gnd _) (by decide)) gnd gkn) (cwV 0 hts gX9_silencingFor_X9_isOddDay rfl rfl rfl (by decide +kernel) ⟨Nat.le_of_ble_eq_true rfl, Nat.le_of_ble_eq_true rfl⟩) (preV_R hCX (va_recv hK hP (ci := 9) (q0 := 0) rfl rfl) (hP)) rfl rfl hl.1 rfl (lv_room (Nat.le_of_ble_eq_true rfl)) dX9_silencingFor_85 ⟨Nat.le_of_ble_eq_true (by first | rfl | decide), Nat.le_of_ble_eq_true (by first | rfl | decide)⟩).run) (fun r_85 hr_85 => ?_)
      subst hr_85
      refine ho_via (g2 := F0 m 91 ls [.int (bI (siB (kd a_2) t (kn x) (nd i) (day % 2 != 0)))]) (fun K9 => ?_) ?_
      · obtain ⟨hPa, hka, hfa⟩ := hDP _ hda_2
        generalize hkk : kd a_2 = kk at hPa hka K9
        generalize hff : fg a_2 = ff at hPa hfa K9
        rcases (show kk = 0 ∨ kk = 1 ∨ kk = 2 ∨ kk = 3 ∨ kk = 4 ∨ kk = 5 ∨ kk = 6 ∨ kk = 7 by omega) with rfl | rfl | rfl | rfl | rfl | rfl | rfl | rfl
        · refine vp_callSi ((va_runV (As := [.int (nI t), .int (nI (kn x)), .int (nI (nd i)), .int (bI (day % 2 != 0))]) (rest := []) ⟨hx, hb, hml, hown, hts⟩ (c_X2_isSilenced l dC dI cI cD cR a_2 t (kn x) (nd i) (day % 2 != 0) (by first | omega | assumption | exact gnd _ | exact gkn _ | exact Nat.lt_trans (gkn _) (by decide) | exact Nat.lt_trans (gnd _) (by decide)) (by first | omega | assumption | exact gnd _ | exact gkn _ | exact Nat.lt_trans (gkn _) (by decide) | exact Nat.lt_trans (gnd _) (by decide)) (by first | omega | assumption | exact gnd _ | exact gkn _ | exact Nat.lt_trans (gkn _) (by decide) | exact Nat.lt_trans (gnd _) (by decide))) (cwV 4 hts gX9_silencingFor_X2_isSilenced rfl rfl rfl (by decide +kernel) ⟨Nat.le_of_ble_eq_true rfl, Nat.le_of_ble_eq_true rfl⟩) (preV_R hCX (va_recv hK hPa (ci := 2) (q0 := 0) rfl rfl) (trivial)) rfl rfl hl.1 rfl (lv_room (Nat.le_of_ble_eq_true rfl)) dX9_silencingFor_88 ⟨Nat.le_of_ble_eq_true (by first | rfl | decide), Nat.le_of_ble_eq_true (by first | rfl | decide)⟩).run) (fun r9 hr9 => ?_)
          subst hr9
          exact K9
        · refine vp_callSi ((va_runU (As := [.int (nI t), .int (nI (kn x)), .int (nI (nd i)), .int (bI (day % 2 != 0))]) (rest := []) ⟨hx, hb, hml, hown, hts⟩ (c_X2_isSilenced l dC dI cI cD cR a_2 t (kn x) (nd i) (day % 2 != 0) (by first | omega | assumption | exact gnd _ | exact gkn _ | exact Nat.lt_trans (gkn _) (by decide) | exact Nat.lt_trans (gnd _) (by decide)) (by first | omega | assumption | exact gnd _ | exact gkn _ | exact Nat.lt_trans (gkn _) (by decide) | exact Nat.lt_trans (gnd _) (by decide)) (by first | omega | assumption | exact gnd _ | exact gkn _ | exact Nat.lt_trans (gkn _) (by decide) | exact Nat.lt_trans (gnd _) (by decide))) (va_cwU 4 hts gX9_silencingFor_X2_isSilenced_u97X3 rfl rfl rfl rfl (by decide +kernel) ⟨Nat.le_of_ble_eq_true rfl, Nat.le_of_ble_eq_true rfl⟩) (preV_R hCX (va_recv hK hPa (ci := 3) (q0 := 0) rfl rfl) (trivial)) rfl rfl hl.1 rfl (lv_room (Nat.le_of_ble_eq_true rfl)) dX9_silencingFor_88 ⟨Nat.le_of_ble_eq_true (by first | rfl | decide), Nat.le_of_ble_eq_true (by first | rfl | decide)⟩).run) (fun r9 hr9 => ?_)
          subst hr9
          exact K9
        · refine vp_callSi ((va_runU (As := [.int (nI t), .int (nI (kn x)), .int (nI (nd i)), .int (bI (day % 2 != 0))]) (rest := []) ⟨hx, hb, hml, hown, hts⟩ (c_X2_isSilenced l dC dI cI cD cR a_2 t (kn x) (nd i) (day % 2 != 0) (by first | omega | assumption | exact gnd _ | exact gkn _ | exact Nat.lt_trans (gkn _) (by decide) | exact Nat.lt_trans (gnd _) (by decide)) (by first | omega | assumption | exact gnd _ | exact gkn _ | exact Nat.lt_trans (gkn _) (by decide) | exact Nat.lt_trans (gnd _) (by decide)) (by first | omega | assumption | exact gnd _ | exact gkn _ | exact Nat.lt_trans (gkn _) (by decide) | exact Nat.lt_trans (gnd _) (by decide))) (va_cwU 4 hts gX9_silencingFor_X2_isSilenced_u97X10 rfl rfl rfl rfl (by decide +kernel) ⟨Nat.le_of_ble_eq_true rfl, Nat.le_of_ble_eq_true rfl⟩) (preV_R hCX (va_recv hK hPa (ci := 10) (q0 := 0) rfl rfl) (trivial)) rfl rfl hl.1 rfl (lv_room (Nat.le_of_ble_eq_true rfl)) dX9_silencingFor_88 ⟨Nat.le_of_ble_eq_true (by first | rfl | decide), Nat.le_of_ble_eq_true (by first | rfl | decide)⟩).run) (fun r9 hr9 => ?_)
          subst hr9
          exact K9
        · refine vp_callSi ((va_runU (As := [.int (nI t), .int (nI (kn x)), .int (nI (nd i)), .int (bI (day % 2 != 0))]) (rest := []) ⟨hx, hb, hml, hown, hts⟩ (c_X1_isSilenced l dC dI cI cD cR a_2 t (kn x) (nd i) (day % 2 != 0)) (va_cwO 4 hts gX9_silencingFor_X1_isSilenced_u97X1 rfl rfl rfl (b0 := cX2_isSilenced) (m0 := 5) (r0 := (some .boolean)) (by decide +kernel) (by decide +kernel) ⟨Nat.le_of_ble_eq_true rfl, Nat.le_of_ble_eq_true rfl⟩) (preV_R hCX (va_recv hK hPa (ci := 1) (q0 := 0) rfl rfl) (trivial)) rfl rfl hl.1 rfl (lv_room (Nat.le_of_ble_eq_true rfl)) dX9_silencingFor_88 ⟨Nat.le_of_ble_eq_true (by first | rfl | decide), Nat.le_of_ble_eq_true (by first | rfl | decide)⟩).run) (fun r9 hr9 => ?_)
          subst hr9
          exact K9
        · refine vp_callSi ((va_runU (As := [.int (nI t), .int (nI (kn x)), .int (nI (nd i)), .int (bI (day % 2 != 0))]) (rest := []) ⟨hx, hb, hml, hown, hts⟩ (c_X2_isSilenced l dC dI cI cD cR a_2 t (kn x) (nd i) (day % 2 != 0) (by first | omega | assumption | exact gnd _ | exact gkn _ | exact Nat.lt_trans (gkn _) (by decide) | exact Nat.lt_trans (gnd _) (by decide)) (by first | omega | assumption | exact gnd _ | exact gkn _ | exact Nat.lt_trans (gkn _) (by decide) | exact Nat.lt_trans (gnd _) (by decide)) (by first | omega | assumption | exact gnd _ | exact gkn _ | exact Nat.lt_trans (gkn _) (by decide) | exact Nat.lt_trans (gnd _) (by decide))) (va_cwU 4 hts gX9_silencingFor_X2_isSilenced_u97X5 rfl rfl rfl rfl (by decide +kernel) ⟨Nat.le_of_ble_eq_true rfl, Nat.le_of_ble_eq_true rfl⟩) (preV_R hCX (va_recv hK hPa (ci := 5) (q0 := 0) rfl rfl) (trivial)) rfl rfl hl.1 rfl (lv_room (Nat.le_of_ble_eq_true rfl)) dX9_silencingFor_88 ⟨Nat.le_of_ble_eq_true (by first | rfl | decide), Nat.le_of_ble_eq_true (by first | rfl | decide)⟩).run) (fun r9 hr9 => ?_)
          subst hr9
          exact K9
        · refine vp_callSi ((va_runU (As := [.int (nI t), .int (nI (kn x)), .int (nI (nd i)), .int (bI (day % 2 != 0))]) (rest := []) ⟨hx, hb, hml, hown, hts⟩ (c_X2_isSilenced l dC dI cI cD cR a_2 t (kn x) (nd i) (day % 2 != 0) (by first | omega | assumption | exact gnd _ | exact gkn _ | exact Nat.lt_trans (gkn _) (by decide) | exact Nat.lt_trans (gnd _) (by decide)) (by first | omega | assumption | exact gnd _ | exact gkn _ | exact Nat.lt_trans (gkn _) (by decide) | exact Nat.lt_trans (gnd _) (by decide)) (by first | omega | assumption | exact gnd _ | exact gkn _ | exact Nat.lt_trans (gkn _) (by decide) | exact Nat.lt_trans (gnd _) (by decide))) (va_cwU 4 hts gX9_silencingFor_X2_isSilenced_u97X6 rfl rfl rfl rfl (by decide +kernel) ⟨Nat.le_of_ble_eq_true rfl, Nat.le_of_ble_eq_true rfl⟩) (preV_R hCX (va_recv hK hPa (ci := 6) (q0 := 0) rfl rfl) (trivial)) rfl rfl hl.1 rfl (lv_room (Nat.le_of_ble_eq_true rfl)) dX9_silencingFor_88 ⟨Nat.le_of_ble_eq_true (by first | rfl | decide), Nat.le_of_ble_eq_true (by first | rfl | decide)⟩).run) (fun r9 hr9 => ?_)
          subst hr9
          exact K9
        · refine vp_callSi ((va_runU (As := [.int (nI t), .int (nI (kn x)), .int (nI (nd i)), .int (bI (day % 2 != 0))]) (rest := []) ⟨hx, hb, hml, hown, hts⟩ (c_X2_isSilenced l dC dI cI cD cR a_2 t (kn x) (nd i) (day % 2 != 0) (by first | omega | assumption | exact gnd _ | exact gkn _ | exact Nat.lt_trans (gkn _) (by decide) | exact Nat.lt_trans (gnd _) (by decide)) (by first | omega | assumption | exact gnd _ | exact gkn _ | exact Nat.lt_trans (gkn _) (by decide) | exact Nat.lt_trans (gnd _) (by decide)) (by first | omega | assumption | exact gnd _ | exact gkn _ | exact Nat.lt_trans (gkn _) (by decide) | exact Nat.lt_trans (gnd _) (by decide))) (va_cwU 4 hts gX9_silencingFor_X2_isSilenced_u97X7 rfl rfl rfl rfl (by decide +kernel) ⟨Nat.le_of_ble_eq_true rfl, Nat.le_of_ble_eq_true rfl⟩) (preV_R hCX (va_recv hK hPa (ci := 7) (q0 := 0) rfl rfl) (trivial)) rfl rfl hl.1 rfl (lv_room (Nat.le_of_ble_eq_true rfl)) dX9_silencingFor_88 ⟨Nat.le_of_ble_eq_true (by first | rfl | decide), Nat.le_of_ble_eq_true (by first | rfl | decide)⟩).run) (fun r9 hr9 => ?_)
          subst hr9
          exact K9
        · refine vp_callSi ((va_runU (As := [.int (nI t), .int (nI (kn x)), .int (nI (nd i)), .int (bI (day % 2 != 0))]) (rest := []) ⟨hx, hb, hml, hown, hts⟩ (c_X0_isSilenced l dC dI cI cD cR a_2 ff t (kn x) (nd i) (day % 2 != 0) (by first | omega | assumption | exact gnd _ | exact gkn _ | exact Nat.lt_trans (gkn _) (by decide) | exact Nat.lt_trans (gnd _) (by decide)) (by first | omega | assumption | exact gnd _ | exact gkn _ | exact Nat.lt_trans (gkn _) (by decide) | exact Nat.lt_trans (gnd _) (by decide)) (by first | omega | assumption | exact gnd _ | exact gkn _ | exact Nat.lt_trans (gkn _) (by decide) | exact Nat.lt_trans (gnd _) (by decide))) (va_cwO 4 hts gX9_silencingFor_X0_isSilenced_u97X0 rfl rfl rfl (b0 := cX2_isSilenced) (m0 := 5) (r0 := (some .boolean)) (by decide +kernel) (by decide +kernel) ⟨Nat.le_of_ble_eq_true rfl, Nat.le_of_ble_eq_true rfl⟩) (preV_R hCX (va_recv hK hPa (ci := 0) (q0 := 0) rfl rfl) (hPa)) rfl rfl hl.1 rfl (lv_room (Nat.le_of_ble_eq_true rfl)) dX9_silencingFor_88 ⟨Nat.le_of_ble_eq_true (by first | rfl | decide), Nat.le_of_ble_eq_true (by first | rfl | decide)⟩).run) (fun r9 hr9 => ?_)
          subst hr9
          exact K9
      refine ho_beq (tgt := 102) hx hb dX9_silencingFor_91 (by decide) (fun c_91 => ?_) (fun c_91 => ?_)
      · refine ho_iinc (lv' := [(5, .int (nI (i + 1))), (6, .int (nI (nd i))), (4, .int (nI (kn x))), (3, .int (nI (orF (fun s9 => !t.testBit s9 && maB (kd a_2) (fg a_2) t (kn x) (nd s9) s9 && siB (kd a_2) t (kn x) (nd s9) (day % 2 != 0)) i))), (2, .ref a_2), (0, .ref h), (1, .int (nI x))]) (a := i) (b := 1) hx hb dX9_silencingFor_102 hl (k := 1) rfl rfl (by decide) rfl (fun ls hl => ?_)
        refine lv_goto (tgt := 32) hx hb dX9_silencingFor_105 (by decide) ?_
        have e9_3 : orF (fun s9 => !t.testBit s9 && maB (kd a_2) (fg a_2) t (kn x) (nd s9) s9 && siB (kd a_2) t (kn x) (nd s9) (day % 2 != 0)) i = orF (fun s9 => !t.testBit s9 && maB (kd a_2) (fg a_2) t (kn x) (nd s9) s9 && siB (kd a_2) t (kn x) (nd s9) (day % 2 != 0)) (i + 1) := by first | exact orF_t (by simp_all) | exact orF_f (by simp_all)
        rw [e9_3] at hl
        exact ih32 (i + 1) _ (by omega) (show n - (i + 1) < fu32 from (by omega)) (lv_sub hl [0, 2, 3, 4, 5, 6] rfl)
      refine lv_iload_n hx hb dX9_silencingFor_94 rfl (lv_at hl 3 rfl) ?_
      refine lv_iload hx hb dX9_silencingFor_95 (lv_at hl 1 rfl) ?_
      refine vp_callSi ((va_runSN (As := [.int (nI i)]) (rest := [.int (nI (orF (fun s9 => !t.testBit s9 && maB (kd a_2) (fg a_2) t (kn x) (nd s9) s9 && siB (kd a_2) t (kn x) (nd s9) (day % 2 != 0)) i))]) ⟨hx, hb, hml, hown, hts⟩ (c_X11_bit l dC dI cI cD cR i (by first | omega | assumption | exact gnd _ | exact gkn _ | exact Nat.lt_trans (gkn _) (by decide) | exact Nat.lt_trans (gnd _) (by decide))) ⟨va_cnB (host := "HoldsOnceDenied") 1 hts gX9_silencingFor_X11_bit_n66 rfl rfl rfl (CX.nm hCX 2 rfl) (hts (.initialized RX11) (by decide +kernel)) (by decide +kernel) ⟨Nat.le_of_ble_eq_true rfl, Nat.le_of_ble_eq_true rfl⟩, (hts (.static yX11_bit) (by decide +kernel)), trivial⟩ (preS_R hCX (trivial)) rfl rfl hl.1 rfl (lv_room (Nat.le_of_ble_eq_true rfl)) dX9_silencingFor_97 ⟨Nat.le_of_ble_eq_true (by first | rfl | decide), Nat.le_of_ble_eq_true (by first | rfl | decide)⟩).run) (fun r_97 hr_97 => ?_)
      subst hr_97
      refine ho_ior hx hb dX9_silencingFor_100 ?_
      refine lv_istore_n (lv' := [(3, .int (nI ((orF (fun s9 => !t.testBit s9 && maB (kd a_2) (fg a_2) t (kn x) (nd s9) s9 && siB (kd a_2) t (kn x) (nd s9) (day % 2 != 0)) i) ||| (2 ^ i)))), (6, .int (nI (nd i))), (5, .int (nI i)), (4, .int (nI (kn x))), (2, .ref a_2), (0, .ref h), (1, .int (nI x))]) hx hb dX9_silencingFor_101 rfl hl (by decide) rfl (fun ls hl => ?_)
      refine ho_iinc (lv' := [(5, .int (nI (i + 1))), (3, .int (nI ((orF (fun s9 => !t.testBit s9 && maB (kd a_2) (fg a_2) t (kn x) (nd s9) s9 && siB (kd a_2) t (kn x) (nd s9) (day % 2 != 0)) i) ||| (2 ^ i)))), (6, .int (nI (nd i))), (4, .int (nI (kn x))), (2, .ref a_2), (0, .ref h), (1, .int (nI x))]) (a := i) (b := 1) hx hb dX9_silencingFor_102 hl (k := 2) rfl rfl (by decide) rfl (fun ls hl => ?_)
      refine lv_goto (tgt := 32) hx hb dX9_silencingFor_105 (by decide) ?_
      have e9_3 : (orF (fun s9 => !t.testBit s9 && maB (kd a_2) (fg a_2) t (kn x) (nd s9) s9 && siB (kd a_2) t (kn x) (nd s9) (day % 2 != 0)) i) ||| (2 ^ i) = orF (fun s9 => !t.testBit s9 && maB (kd a_2) (fg a_2) t (kn x) (nd s9) s9 && siB (kd a_2) t (kn x) (nd s9) (day % 2 != 0)) (i + 1) := by first | exact orF_t (by simp_all) | exact orF_f (by simp_all)
      rw [e9_3] at hl
      exact ih32 (i + 1) _ (by omega) (show n - (i + 1) < fu32 from (by omega)) (lv_sub hl [0, 3, 1, 4, 5, 6] rfl)
    refine lv_iconst (v := nI 0) hx hb dX9_silencingFor_18 (by decide +kernel) ?_
    exact W.iret (v := nI 0) hx hb hr (fun T9 hT9 hW9 => ⟨_, rfl, (congrArg nI (by simp_all [slN])), hT9⟩) (fun q h => by cases h) dX9_silencingFor_19
set_option maxHeartbeats 4000000 in
set_option maxRecDepth 100000 in
theorem c_X9_ruins (l : Launch) (dC : Nat → ClassId) (dI : Nat → Nat → Nat) (cI cD cR : ClassId) (h a1 a2 a3 a4 a5 n d t al day : Nat) (nd : Nat → Nat) (mk si : Nat → Int32) (kn : Nat → Nat) (mb : Nat → Option Nat) (x : Nat) (hn : n ≤ 9) (hd : d ≤ 6) (ht : t < 512) (hal : al < 64) (hday : day < 2 ^ 30) (gnd : ∀ i, nd i < 512) (gkn : ∀ j, kn j < 512) (hxx : x < 2 ^ 31) : Met l yX9_ruins wsX9_ruins ({ frames := 2, cells := 0, slots := 0, locals := 42 }) (pcR dC dI cI cD cR [.ref h, .int (nI x)] (fun H => va_P (dC, dI) vwCl ((schW cI cD h a1 a2 a3 a4 a5 n d t al day nd mk si kn mb)) H)) (vp_Si (fun r => r = nI (ruR t nd n n (orF (fun s9 => t.testBit s9 && decide (mk s9 = nI x)) n)))) 0 0 (fun _ => False) := by
  refine Met.ofW (cc := cX9_ruins) (maxL := 5) (ret := (some .int)) (by decide) rfl ?_
  intro p e s m args below meth c s₁ B hml hv
  obtain ⟨rfl, hH0, hCX⟩ := hv
  have hx := B.exec
  have hb := B.bytes
  have hr := B.returns
  have hts := atoms_spec (ws := wsX9_ruins) B.pre
  have hown : s.vm.findClass RX9 = some m.cls := findClass_of_methodNamed B.named
  have hlocks := B.notSynchronized
  have hK := hCX.1
  have hP := hH0
  have hl := lv_entry ([.ref h, .int (nI x)]) (n := 5) (Nat.le_of_ble_eq_true rfl)
  rw [lg_entry_eq]
  generalize (lg_sl ([.ref h, .int (nI x)]) ++ List.replicate (5 - (lg_sl ([.ref h, .int (nI x)])).length) Slot.unset).toArray = ls at hl ⊢
  have hl : lv_has ls 5 [(0, .ref h), (1, .int (nI x))] := hl
  refine lv_iconst (v := nI 0) hx hb dX9_ruins_0 (by decide +kernel) ?_
  refine lv_istore_n (lv' := [(2, .int (nI 0)), (0, .ref h), (1, .int (nI x))]) hx hb dX9_ruins_1 rfl hl (by decide) rfl (fun ls hl => ?_)
  refine lv_iconst (v := nI 0) hx hb dX9_ruins_2 (by decide +kernel) ?_
  refine lv_istore_n (lv' := [(3, .int (nI 0)), (2, .int (nI 0)), (0, .ref h), (1, .int (nI x))]) hx hb dX9_ruins_3 rfl hl (by decide) rfl (fun ls hl => ?_)
  refine ho_lp (T := Nat) 5 (fun x9 => [(3, .int (nI x9)), (2, .int (nI (orF (fun s9 => t.testBit s9 && decide (mk s9 = nI x)) x9))), (0, .ref h), (1, .int (nI x))]) (fun x9 => []) (fun x9 => (x9 ≤ n)) (fun x9 => n - x9) 0 (by omega) (lv_sub hl [0, 1, 2, 3] rfl) ?_
  intro fu4 i ls hI hm4 hl ih
  have hin := hI
  have hl : lv_has ls 5 [(3, .int (nI i)), (2, .int (nI (orF (fun s9 => t.testBit s9 && decide (mk s9 = nI x)) i))), (0, .ref h), (1, .int (nI x))] := hl
  have hin : i ≤ n := hin
  have hm4 : n - i < fu4 + 1 := hm4
  refine W.eq (g2 := F0 m 4 ls []) rfl ?_
  have ih4 := ih
  refine lv_iload_n hx hb dX9_ruins_4 rfl (lv_at hl 0 rfl) ?_
  refine lv_aload_n hx hb dX9_ruins_5 rfl (lv_at hl 2 rfl) ?_
  refine va_get (D := (dC, dI)) (ci := 9) (v := .int (nI n)) (C := RX9) (T := TX9) (N := 10) hx hb hts (fun _ h => List.mem_cons_of_mem _ (List.mem_append_right _ h)) hown hK hP 0 rfl rfl 0 (by decide) (hts (.fieldLink RX9 30 "HoldsOnceDenied$School" "sentences" "I") (by decide +kernel)) (fun _ h9 => h9) rfl dX9_ruins_6 ?_
  refine ho_icmp_ge (tgt := 42) hx hb dX9_ruins_9 (by decide) (by omega) (by omega) (fun c_9 => ?_) (fun c_9 => ?_)
  · refine lv_iconst (v := nI 0) hx hb dX9_ruins_42 (by decide +kernel) ?_
    refine lv_istore_n (lv' := [(3, .int (nI 0)), (2, .int (nI (orF (fun s9 => t.testBit s9 && decide (mk s9 = nI x)) i))), (0, .ref h), (1, .int (nI x))]) hx hb dX9_ruins_43 rfl hl (by decide) rfl (fun ls hl => ?_)
    have e9_2 : orF (fun s9 => t.testBit s9 && decide (mk s9 = nI x)) i = ruR t nd n 0 (orF (fun s9 => t.testBit s9 && decide (mk s9 = nI x)) n) := by rw [show i = n by omega]; rfl
    rw [e9_2] at hl
    refine ho_lp (T := Nat) 5 (fun x9 => [(3, .int (nI x9)), (2, .int (nI (ruR t nd n x9 (orF (fun s9 => t.testBit s9 && decide (mk s9 = nI x)) n)))), (0, .ref h), (1, .int (nI x))]) (fun x9 => []) (fun x9 => (x9 ≤ n)) (fun x9 => n - x9) 0 (by omega) (lv_sub hl [0, 1, 2, 3] rfl) ?_
    intro fu44 r ls hI hm44 hl ih
    have hrn := hI
    have hl : lv_has ls 5 [(3, .int (nI r)), (2, .int (nI (ruR t nd n r (orF (fun s9 => t.testBit s9 && decide (mk s9 = nI x)) n)))), (0, .ref h), (1, .int (nI x))] := hl
    have hrn : r ≤ n := hrn
    have hm44 : n - r < fu44 + 1 := hm44
    refine W.eq (g2 := F0 m 44 ls []) rfl ?_
    have ih44 := ih
    refine lv_iload_n hx hb dX9_ruins_44 rfl (lv_at hl 0 rfl) ?_
    refine lv_aload_n hx hb dX9_ruins_45 rfl (lv_at hl 2 rfl) ?_
    refine va_get (D := (dC, dI)) (ci := 9) (v := .int (nI n)) (C := RX9) (T := TX9) (N := 10) hx hb hts (fun _ h => List.mem_cons_of_mem _ (List.mem_append_right _ h)) hown hK hP 0 rfl rfl 0 (by decide) (hts (.fieldLink RX9 30 "HoldsOnceDenied$School" "sentences" "I") (by decide +kernel)) (fun _ h9 => h9) rfl dX9_ruins_46 ?_
    refine ho_icmp_ge (tgt := 104) hx hb dX9_ruins_49 (by decide) (by omega) (by omega) (fun c_49 => ?_) (fun c_49 => ?_)
    · refine lv_iload_n hx hb dX9_ruins_104 rfl (lv_at hl 1 rfl) ?_
      exact W.iret (v := nI (ruR t nd n r (orF (fun s9 => t.testBit s9 && decide (mk s9 = nI x)) n))) hx hb hr (fun T9 hT9 hW9 => ⟨_, rfl, (congrArg nI (by rw [show r = n by omega])), hT9⟩) (fun q h => by cases h) dX9_ruins_105
    refine lv_iconst (v := nI 0) hx hb dX9_ruins_52 (by decide +kernel) ?_
    refine lv_istore (lv' := [(4, .int (nI 0)), (3, .int (nI r)), (2, .int (nI (ruR t nd n r (orF (fun s9 => t.testBit s9 && decide (mk s9 = nI x)) n)))), (0, .ref h), (1, .int (nI x))]) hx hb dX9_ruins_53 hl (by decide) rfl (fun ls hl => ?_)
    have e9_2 : ruR t nd n r (orF (fun s9 => t.testBit s9 && decide (mk s9 = nI x)) n) = ruI t nd 0 (ruR t nd n r (orF (fun s9 => t.testBit s9 && decide (mk s9 = nI x)) n)) := by rfl
    rw [e9_2] at hl
    refine ho_lp (T := Nat) 5 (fun x9 => [(4, .int (nI x9)), (3, .int (nI r)), (2, .int (nI (ruI t nd x9 (ruR t nd n r (orF (fun s9 => t.testBit s9 && decide (mk s9 = nI x)) n))))), (0, .ref h), (1, .int (nI x))]) (fun x9 => []) (fun x9 => (x9 ≤ n)) (fun x9 => n - x9) 0 (by omega) (lv_sub hl [0, 1, 2, 3, 4] rfl) ?_
    intro fu55 j ls hI hm55 hl ih
    have hjn := hI
    have hl : lv_has ls 5 [(4, .int (nI j)), (3, .int (nI r)), (2, .int (nI (ruI t nd j (ruR t nd n r (orF (fun s9 => t.testBit s9 && decide (mk s9 = nI x)) n))))), (0, .ref h), (1, .int (nI x))] := hl
    have hjn : j ≤ n := hjn
    have hm55 : n - j < fu55 + 1 := hm55
    refine W.eq (g2 := F0 m 55 ls []) rfl ?_
    have ih55 := ih
    refine lv_iload hx hb dX9_ruins_55 (lv_at hl 0 rfl) ?_
    refine lv_aload_n hx hb dX9_ruins_57 rfl (lv_at hl 3 rfl) ?_
    refine va_get (D := (dC, dI)) (ci := 9) (v := .int (nI n)) (C := RX9) (T := TX9) (N := 10) hx hb hts (fun _ h => List.mem_cons_of_mem _ (List.mem_append_right _ h)) hown hK hP 0 rfl rfl 0 (by decide) (hts (.fieldLink RX9 30 "HoldsOnceDenied$School" "sentences" "I") (by decide +kernel)) (fun _ h9 => h9) rfl dX9_ruins_58 ?_
    refine ho_icmp_ge (tgt := 98) hx hb dX9_ruins_61 (by decide) (by omega) (by omega) (fun c_61 => ?_) (fun c_61 => ?_)
    · refine ho_iinc (lv' := [(3, .int (nI (r + 1))), (4, .int (nI j)), (2, .int (nI (ruI t nd j (ruR t nd n r (orF (fun s9 => t.testBit s9 && decide (mk s9 = nI x)) n))))), (0, .ref h), (1, .int (nI x))]) (a := r) (b := 1) hx hb dX9_ruins_98 hl (k := 1) rfl rfl (by decide) rfl (fun ls hl => ?_)
      refine lv_goto (tgt := 44) hx hb dX9_ruins_101 (by decide) ?_
      have e9_2 : ruI t nd j (ruR t nd n r (orF (fun s9 => t.testBit s9 && decide (mk s9 = nI x)) n)) = ruR t nd n (r + 1) (orF (fun s9 => t.testBit s9 && decide (mk s9 = nI x)) n) := by rw [show j = n by omega]; rfl
      rw [e9_2] at hl
      exact ih44 (r + 1) _ (by omega) (show n - (r + 1) < fu44 from (by omega)) (lv_sub hl [0, 2, 3, 4] rfl)
    refine lv_aload_n hx hb dX9_ruins_64 rfl (lv_at hl 3 rfl) ?_
    refine lv_iload hx hb dX9_ruins_65 (lv_at hl 0 rfl) ?_
    refine vp_callSi ((va_runV (As := [.int (nI j)]) (rest := []) ⟨hx, hb, hml, hown, hts⟩ (c_X9_isTrue l dC dI cI cD cR h a1 a2 a3 a4 a5 n d t al day nd mk si kn mb j (by first | omega | assumption | exact gnd _ | exact gkn _ | exact Nat.lt_trans (gkn _) (by decide) | exact Nat.lt_trans (gnd _) (by decide)) (by first | omega | assumption | exact gnd _ | exact gkn _ | exact Nat.lt_trans (gkn _) (by decide) | exact Nat.lt_trans (gnd _) (by decide)) (by first | omega | assumption | exact gnd _ | exact gkn _ | exact Nat.lt_trans (gkn _) (by decide) | exact Nat.lt_trans (gnd _) (by decide)) (by first | omega | assumption | exact gnd _ | exact gkn _ | exact Nat.lt_trans (gkn _) (by decide) | exact Nat.lt_trans (gnd _) (by decide)) (by first | omega | assumption | exact gnd _ | exact gkn _ | exact Nat.lt_trans (gkn _) (by decide) | exact Nat.lt_trans (gnd _) (by decide)) gnd gkn (by first | omega | assumption | exact gnd _ | exact gkn _ | exact Nat.lt_trans (gkn _) (by decide) | exact Nat.lt_trans (gnd _) (by decide))) (cwV 1 hts gX9_ruins_X9_isTrue rfl rfl rfl (by decide +kernel) ⟨Nat.le_of_ble_eq_true rfl, Nat.le_of_ble_eq_true rfl⟩) (preV_R hCX (va_recv hK hP (ci := 9) (q0 := 0) rfl rfl) (hP)) rfl rfl hl.1 rfl (lv_room (Nat.le_of_ble_eq_true rfl)) dX9_ruins_67 ⟨Nat.le_of_ble_eq_true (by first | rfl | decide), Nat.le_of_ble_eq_true (by first | rfl | decide)⟩).run) (fun r_67 hr_67 => ?_)
    subst hr_67
    refine ho_beq (tgt := 92) hx hb dX9_ruins_70 (by decide) (fun c_70 => ?_) (fun c_70 => ?_)
    · refine ho_iinc (lv' := [(4, .int (nI (j + 1))), (3, .int (nI r)), (2, .int (nI (ruI t nd j (ruR t nd n r (orF (fun s9 => t.testBit s9 && decide (mk s9 = nI x)) n))))), (0, .ref h), (1, .int (nI x))]) (a := j) (b := 1) hx hb dX9_ruins_92 hl (k := 0) rfl rfl (by decide) rfl (fun ls hl => ?_)
      refine lv_goto (tgt := 55) hx hb dX9_ruins_95 (by decide) ?_
      have e9_2 : ruI t nd j (ruR t nd n r (orF (fun s9 => t.testBit s9 && decide (mk s9 = nI x)) n)) = ruI t nd (j + 1) (ruR t nd n r (orF (fun s9 => t.testBit s9 && decide (mk s9 = nI x)) n)) := by first | exact ruI_t c_70 c_81 | exact ruI_f1 c_70 | exact ruI_f2 c_81
      rw [e9_2] at hl
      exact ih55 (j + 1) _ (by omega) (show n - (j + 1) < fu55 from (by omega)) (lv_sub hl [0, 1, 2, 3, 4] rfl)
    refine lv_aload_n hx hb dX9_ruins_73 rfl (lv_at hl 3 rfl) ?_
    refine lv_iload hx hb dX9_ruins_74 (lv_at hl 0 rfl) ?_
    refine vp_callSi ((va_runV (As := [.int (nI j)]) (rest := []) ⟨hx, hb, hml, hown, hts⟩ (c_X9_needsOf l dC dI cI cD cR h a1 a2 a3 a4 a5 n d t al day nd mk si kn mb j (by first | omega | assumption | exact gnd _ | exact gkn _ | exact Nat.lt_trans (gkn _) (by decide) | exact Nat.lt_trans (gnd _) (by decide)) (by first | omega | assumption | exact gnd _ | exact gkn _ | exact Nat.lt_trans (gkn _) (by decide) | exact Nat.lt_trans (gnd _) (by decide)) (by first | omega | assumption | exact gnd _ | exact gkn _ | exact Nat.lt_trans (gkn _) (by decide) | exact Nat.lt_trans (gnd _) (by decide)) (by first | omega | assumption | exact gnd _ | exact gkn _ | exact Nat.lt_trans (gkn _) (by decide) | exact Nat.lt_trans (gnd _) (by decide)) (by first | omega | assumption | exact gnd _ | exact gkn _ | exact Nat.lt_trans (gkn _) (by decide) | exact Nat.lt_trans (gnd _) (by decide)) gnd gkn (by first | omega | assumption | exact gnd _ | exact gkn _ | exact Nat.lt_trans (gkn _) (by decide) | exact Nat.lt_trans (gnd _) (by decide))) (cwV 1 hts gX9_ruins_X9_needsOf rfl rfl rfl (by decide +kernel) ⟨Nat.le_of_ble_eq_true rfl, Nat.le_of_ble_eq_true rfl⟩) (preV_R hCX (va_recv hK hP (ci := 9) (q0 := 0) rfl rfl) (hP)) rfl rfl hl.1 rfl (lv_room (Nat.le_of_ble_eq_true rfl)) dX9_ruins_76 ⟨Nat.le_of_ble_eq_true (by first | rfl | decide), Nat.le_of_ble_eq_true (by first | rfl | decide)⟩).run) (fun r_76 hr_76 => ?_)
    subst hr_76
    refine lv_iload_n hx hb dX9_ruins_79 rfl (lv_at hl 2 rfl) ?_
    refine ho_iand hx hb dX9_ruins_80 ?_
    refine ho_if_eq (tgt := 92) hx hb dX9_ruins_81 (by decide) (Nat.lt_of_le_of_lt Nat.and_le_left (Nat.lt_trans (gnd _) (by decide))) (fun c_81 => ?_) (fun c_81 => ?_)
    · refine ho_iinc (lv' := [(4, .int (nI (j + 1))), (3, .int (nI r)), (2, .int (nI (ruI t nd j (ruR t nd n r (orF (fun s9 => t.testBit s9 && decide (mk s9 = nI x)) n))))), (0, .ref h), (1, .int (nI x))]) (a := j) (b := 1) hx hb dX9_ruins_92 hl (k := 0) rfl rfl (by decide) rfl (fun ls hl => ?_)
      refine lv_goto (tgt := 55) hx hb dX9_ruins_95 (by decide) ?_
      have e9_2 : ruI t nd j (ruR t nd n r (orF (fun s9 => t.testBit s9 && decide (mk s9 = nI x)) n)) = ruI t nd (j + 1) (ruR t nd n r (orF (fun s9 => t.testBit s9 && decide (mk s9 = nI x)) n)) := by first | exact ruI_t c_70 c_81 | exact ruI_f1 c_70 | exact ruI_f2 c_81
      rw [e9_2] at hl
      exact ih55 (j + 1) _ (by omega) (show n - (j + 1) < fu55 from (by omega)) (lv_sub hl [0, 1, 2, 3, 4] rfl)
    refine lv_iload_n hx hb dX9_ruins_84 rfl (lv_at hl 2 rfl) ?_
    refine lv_iload hx hb dX9_ruins_85 (lv_at hl 0 rfl) ?_
    refine vp_callSi ((va_runSN (As := [.int (nI j)]) (rest := [.int (nI (ruI t nd j (ruR t nd n r (orF (fun s9 => t.testBit s9 && decide (mk s9 = nI x)) n))))]) ⟨hx, hb, hml, hown, hts⟩ (c_X11_bit l dC dI cI cD cR j (by first | omega | assumption | exact gnd _ | exact gkn _ | exact Nat.lt_trans (gkn _) (by decide) | exact Nat.lt_trans (gnd _) (by decide))) ⟨va_cnB (host := "HoldsOnceDenied") 1 hts gX9_ruins_X11_bit_n66 rfl rfl rfl (CX.nm hCX 2 rfl) (hts (.initialized RX11) (by decide +kernel)) (by decide +kernel) ⟨Nat.le_of_ble_eq_true rfl, Nat.le_of_ble_eq_true rfl⟩, (hts (.static yX11_bit) (by decide +kernel)), trivial⟩ (preS_R hCX (trivial)) rfl rfl hl.1 rfl (lv_room (Nat.le_of_ble_eq_true rfl)) dX9_ruins_87 ⟨Nat.le_of_ble_eq_true (by first | rfl | decide), Nat.le_of_ble_eq_true (by first | rfl | decide)⟩).run) (fun r_87 hr_87 => ?_)
    subst hr_87
    refine ho_ior hx hb dX9_ruins_90 ?_
    refine lv_istore_n (lv' := [(2, .int (nI ((ruI t nd j (ruR t nd n r (orF (fun s9 => t.testBit s9 && decide (mk s9 = nI x)) n))) ||| (2 ^ j)))), (4, .int (nI j)), (3, .int (nI r)), (0, .ref h), (1, .int (nI x))]) hx hb dX9_ruins_91 rfl hl (by decide) rfl (fun ls hl => ?_)
    refine ho_iinc (lv' := [(4, .int (nI (j + 1))), (2, .int (nI ((ruI t nd j (ruR t nd n r (orF (fun s9 => t.testBit s9 && decide (mk s9 = nI x)) n))) ||| (2 ^ j)))), (3, .int (nI r)), (0, .ref h), (1, .int (nI x))]) (a := j) (b := 1) hx hb dX9_ruins_92 hl (k := 1) rfl rfl (by decide) rfl (fun ls hl => ?_)
    refine lv_goto (tgt := 55) hx hb dX9_ruins_95 (by decide) ?_
    have e9_2 : (ruI t nd j (ruR t nd n r (orF (fun s9 => t.testBit s9 && decide (mk s9 = nI x)) n))) ||| (2 ^ j) = ruI t nd (j + 1) (ruR t nd n r (orF (fun s9 => t.testBit s9 && decide (mk s9 = nI x)) n)) := by first | exact ruI_t c_70 c_81 | exact ruI_f1 c_70 | exact ruI_f2 c_81
    rw [e9_2] at hl
    exact ih55 (j + 1) _ (by omega) (show n - (j + 1) < fu55 from (by omega)) (lv_sub hl [0, 2, 1, 3, 4] rfl)
  refine lv_aload_n hx hb dX9_ruins_12 rfl (lv_at hl 2 rfl) ?_
  refine lv_iload_n hx hb dX9_ruins_13 rfl (lv_at hl 0 rfl) ?_
  refine vp_callSi ((va_runV (As := [.int (nI i)]) (rest := []) ⟨hx, hb, hml, hown, hts⟩ (c_X9_isTrue l dC dI cI cD cR h a1 a2 a3 a4 a5 n d t al day nd mk si kn mb i (by first | omega | assumption | exact gnd _ | exact gkn _ | exact Nat.lt_trans (gkn _) (by decide) | exact Nat.lt_trans (gnd _) (by decide)) (by first | omega | assumption | exact gnd _ | exact gkn _ | exact Nat.lt_trans (gkn _) (by decide) | exact Nat.lt_trans (gnd _) (by decide)) (by first | omega | assumption | exact gnd _ | exact gkn _ | exact Nat.lt_trans (gkn _) (by decide) | exact Nat.lt_trans (gnd _) (by decide)) (by first | omega | assumption | exact gnd _ | exact gkn _ | exact Nat.lt_trans (gkn _) (by decide) | exact Nat.lt_trans (gnd _) (by decide)) (by first | omega | assumption | exact gnd _ | exact gkn _ | exact Nat.lt_trans (gkn _) (by decide) | exact Nat.lt_trans (gnd _) (by decide)) gnd gkn (by first | omega | assumption | exact gnd _ | exact gkn _ | exact Nat.lt_trans (gkn _) (by decide) | exact Nat.lt_trans (gnd _) (by decide))) (cwV 1 hts gX9_ruins_X9_isTrue rfl rfl rfl (by decide +kernel) ⟨Nat.le_of_ble_eq_true rfl, Nat.le_of_ble_eq_true rfl⟩) (preV_R hCX (va_recv hK hP (ci := 9) (q0 := 0) rfl rfl) (hP)) rfl rfl hl.1 rfl (lv_room (Nat.le_of_ble_eq_true rfl)) dX9_ruins_14 ⟨Nat.le_of_ble_eq_true (by first | rfl | decide), Nat.le_of_ble_eq_true (by first | rfl | decide)⟩).run) (fun r_14 hr_14 => ?_)
  subst hr_14
  refine ho_beq (tgt := 36) hx hb dX9_ruins_17 (by decide) (fun c_17 => ?_) (fun c_17 => ?_)
  · refine ho_iinc (lv' := [(3, .int (nI (i + 1))), (2, .int (nI (orF (fun s9 => t.testBit s9 && decide (mk s9 = nI x)) i))), (0, .ref h), (1, .int (nI x))]) (a := i) (b := 1) hx hb dX9_ruins_36 hl (k := 0) rfl rfl (by decide) rfl (fun ls hl => ?_)
    refine lv_goto (tgt := 4) hx hb dX9_ruins_39 (by decide) ?_
    have e9_2 : orF (fun s9 => t.testBit s9 && decide (mk s9 = nI x)) i = orF (fun s9 => t.testBit s9 && decide (mk s9 = nI x)) (i + 1) := by first | exact orF_t (by simp_all) | exact orF_f (by simp_all)
    rw [e9_2] at hl
    exact ih4 (i + 1) _ (by omega) (show n - (i + 1) < fu4 from (by omega)) (lv_sub hl [0, 1, 2, 3] rfl)
  refine lv_aload_n hx hb dX9_ruins_20 rfl (lv_at hl 2 rfl) ?_
  refine lv_iload_n hx hb dX9_ruins_21 rfl (lv_at hl 0 rfl) ?_
  refine vp_callSi ((va_runV (As := [.int (nI i)]) (rest := []) ⟨hx, hb, hml, hown, hts⟩ (c_X9_makerOf l dC dI cI cD cR h a1 a2 a3 a4 a5 n d t al day nd mk si kn mb i (by first | omega | assumption | exact gnd _ | exact gkn _ | exact Nat.lt_trans (gkn _) (by decide) | exact Nat.lt_trans (gnd _) (by decide)) (by first | omega | assumption | exact gnd _ | exact gkn _ | exact Nat.lt_trans (gkn _) (by decide) | exact Nat.lt_trans (gnd _) (by decide)) (by first | omega | assumption | exact gnd _ | exact gkn _ | exact Nat.lt_trans (gkn _) (by decide) | exact Nat.lt_trans (gnd _) (by decide)) (by first | omega | assumption | exact gnd _ | exact gkn _ | exact Nat.lt_trans (gkn _) (by decide) | exact Nat.lt_trans (gnd _) (by decide)) (by first | omega | assumption | exact gnd _ | exact gkn _ | exact Nat.lt_trans (gkn _) (by decide) | exact Nat.lt_trans (gnd _) (by decide)) gnd gkn (by first | omega | assumption | exact gnd _ | exact gkn _ | exact Nat.lt_trans (gkn _) (by decide) | exact Nat.lt_trans (gnd _) (by decide))) (cwV 1 hts gX9_ruins_X9_makerOf rfl rfl rfl (by decide +kernel) ⟨Nat.le_of_ble_eq_true rfl, Nat.le_of_ble_eq_true rfl⟩) (preV_R hCX (va_recv hK hP (ci := 9) (q0 := 0) rfl rfl) (hP)) rfl rfl hl.1 rfl (lv_room (Nat.le_of_ble_eq_true rfl)) dX9_ruins_22 ⟨Nat.le_of_ble_eq_true (by first | rfl | decide), Nat.le_of_ble_eq_true (by first | rfl | decide)⟩).run) (fun r_22 hr_22 => ?_)
  subst hr_22
  refine lv_iload_n hx hb dX9_ruins_25 rfl (lv_at hl 3 rfl) ?_
  refine lv_icmp_ne (tgt := 36) hx hb dX9_ruins_26 (by decide) (fun c_26 => ?_) (fun c_26 => ?_)
  · refine ho_iinc (lv' := [(3, .int (nI (i + 1))), (2, .int (nI (orF (fun s9 => t.testBit s9 && decide (mk s9 = nI x)) i))), (0, .ref h), (1, .int (nI x))]) (a := i) (b := 1) hx hb dX9_ruins_36 hl (k := 0) rfl rfl (by decide) rfl (fun ls hl => ?_)
    refine lv_goto (tgt := 4) hx hb dX9_ruins_39 (by decide) ?_
    have e9_2 : orF (fun s9 => t.testBit s9 && decide (mk s9 = nI x)) i = orF (fun s9 => t.testBit s9 && decide (mk s9 = nI x)) (i + 1) := by first | exact orF_t (by simp_all) | exact orF_f (by simp_all)
    rw [e9_2] at hl
    exact ih4 (i + 1) _ (by omega) (show n - (i + 1) < fu4 from (by omega)) (lv_sub hl [0, 1, 2, 3] rfl)
  refine lv_iload_n hx hb dX9_ruins_29 rfl (lv_at hl 1 rfl) ?_
  refine lv_iload_n hx hb dX9_ruins_30 rfl (lv_at hl 0 rfl) ?_
  refine vp_callSi ((va_runSN (As := [.int (nI i)]) (rest := [.int (nI (orF (fun s9 => t.testBit s9 && decide (mk s9 = nI x)) i))]) ⟨hx, hb, hml, hown, hts⟩ (c_X11_bit l dC dI cI cD cR i (by first | omega | assumption | exact gnd _ | exact gkn _ | exact Nat.lt_trans (gkn _) (by decide) | exact Nat.lt_trans (gnd _) (by decide))) ⟨va_cnB (host := "HoldsOnceDenied") 1 hts gX9_ruins_X11_bit_n66 rfl rfl rfl (CX.nm hCX 2 rfl) (hts (.initialized RX11) (by decide +kernel)) (by decide +kernel) ⟨Nat.le_of_ble_eq_true rfl, Nat.le_of_ble_eq_true rfl⟩, (hts (.static yX11_bit) (by decide +kernel)), trivial⟩ (preS_R hCX (trivial)) rfl rfl hl.1 rfl (lv_room (Nat.le_of_ble_eq_true rfl)) dX9_ruins_31 ⟨Nat.le_of_ble_eq_true (by first | rfl | decide), Nat.le_of_ble_eq_true (by first | rfl | decide)⟩).run) (fun r_31 hr_31 => ?_)
  subst hr_31
  refine ho_ior hx hb dX9_ruins_34 ?_
  refine lv_istore_n (lv' := [(2, .int (nI ((orF (fun s9 => t.testBit s9 && decide (mk s9 = nI x)) i) ||| (2 ^ i)))), (3, .int (nI i)), (0, .ref h), (1, .int (nI x))]) hx hb dX9_ruins_35 rfl hl (by decide) rfl (fun ls hl => ?_)
  refine ho_iinc (lv' := [(3, .int (nI (i + 1))), (2, .int (nI ((orF (fun s9 => t.testBit s9 && decide (mk s9 = nI x)) i) ||| (2 ^ i)))), (0, .ref h), (1, .int (nI x))]) (a := i) (b := 1) hx hb dX9_ruins_36 hl (k := 1) rfl rfl (by decide) rfl (fun ls hl => ?_)
  refine lv_goto (tgt := 4) hx hb dX9_ruins_39 (by decide) ?_
  have e9_2 : (orF (fun s9 => t.testBit s9 && decide (mk s9 = nI x)) i) ||| (2 ^ i) = orF (fun s9 => t.testBit s9 && decide (mk s9 = nI x)) (i + 1) := by first | exact orF_t (by simp_all) | exact orF_f (by simp_all)
  rw [e9_2] at hl
  exact ih4 (i + 1) _ (by omega) (show n - (i + 1) < fu4 from (by omega)) (lv_sub hl [0, 1, 2, 3] rfl)
set_option maxHeartbeats 4000000 in
set_option maxRecDepth 100000 in
theorem c_X9_suspects (l : Launch) (dC : Nat → ClassId) (dI : Nat → Nat → Nat) (cI cD cR : ClassId) (h a1 a2 a3 a4 a5 n d t al day : Nat) (nd : Nat → Nat) (mk si : Nat → Int32) (kn : Nat → Nat) (mb : Nat → Option Nat) (x : Nat) (DL : List Nat) (kd fg : Nat → Nat) (hn : n ≤ 9) (hd : d ≤ 6) (ht : t < 512) (hal : al < 64) (hday : day < 2 ^ 30) (gnd : ∀ i, nd i < 512) (gkn : ∀ j, kn j < 512) (hxx : x < 9) (gmb : ∀ j a, mb j = some a → a ∈ DL) : Met l yX9_suspects wsX9_suspects ({ frames := 4, cells := 0, slots := 0, locals := 93 }) (pcR dC dI cI cD cR [.ref h, .int (nI x)] (fun H => va_P (dC, dI) vwCl ((schW cI cD h a1 a2 a3 a4 a5 n d t al day nd mk si kn mb)) H ∧ DP dC dI DL kd fg H)) (vp_Si (fun r => r = nI (orF (fun i9 => suB t nd kn mb kd fg x i9) d))) 0 0 (fun _ => False) := by
  refine Met.ofW (cc := cX9_suspects) (maxL := 8) (ret := (some .int)) (by decide) rfl ?_
  intro p e s m args below meth c s₁ B hml hv
  obtain ⟨rfl, hH0, hCX⟩ := hv
  have hx := B.exec
  have hb := B.bytes
  have hr := B.returns
  have hts := atoms_spec (ws := wsX9_suspects) B.pre
  have hown : s.vm.findClass RX9 = some m.cls := findClass_of_methodNamed B.named
  have hlocks := B.notSynchronized
  have hK := hCX.1
  obtain ⟨hP, hDP⟩ := hH0
  have hl := lv_entry ([.ref h, .int (nI x)]) (n := 8) (Nat.le_of_ble_eq_true rfl)
  rw [lg_entry_eq]
  generalize (lg_sl ([.ref h, .int (nI x)]) ++ List.replicate (8 - (lg_sl ([.ref h, .int (nI x)])).length) Slot.unset).toArray = ls at hl ⊢
  have hl : lv_has ls 8 [(0, .ref h), (1, .int (nI x))] := hl
  refine lv_iconst (v := nI 0) hx hb dX9_suspects_0 (by decide +kernel) ?_
  refine lv_istore_n (lv' := [(2, .int (nI 0)), (0, .ref h), (1, .int (nI x))]) hx hb dX9_suspects_1 rfl hl (by decide) rfl (fun ls hl => ?_)
  refine lv_iload_n hx hb dX9_suspects_2 rfl (lv_at hl 2 rfl) ?_
  refine vp_callSi ((va_runSN (As := [.int (nI x)]) (rest := []) ⟨hx, hb, hml, hown, hts⟩ (c_X11_bit l dC dI cI cD cR x (by first | omega | assumption | exact gnd _ | exact gkn _ | exact Nat.lt_trans (gkn _) (by decide) | exact Nat.lt_trans (gnd _) (by decide))) ⟨va_cnB (host := "HoldsOnceDenied") 1 hts gX9_suspects_X11_bit_n66 rfl rfl rfl (CX.nm hCX 2 rfl) (hts (.initialized RX11) (by decide +kernel)) (by decide +kernel) ⟨Nat.le_of_ble_eq_true rfl, Nat.le_of_ble_eq_true rfl⟩, (hts (.static yX11_bit) (by decide +kernel)), trivial⟩ (preS_R hCX (trivial)) rfl rfl hl.1 rfl (lv_room (Nat.le_of_ble_eq_true rfl)) dX9_suspects_3 ⟨Nat.le_of_ble_eq_true (by first | rfl | decide), Nat.le_of_ble_eq_true (by first | rfl | decide)⟩).run) (fun r_3 hr_3 => ?_)
  subst hr_3
  refine lv_iconst (v := (-1)) hx hb dX9_suspects_6 (by decide +kernel) ?_
  refine lv_ixor hx hb dX9_suspects_7 ?_
  refine lv_istore_n (lv' := [(3, .int (nI (2 ^ x) ^^^ (-1))), (2, .int (nI 0)), (0, .ref h), (1, .int (nI x))]) hx hb dX9_suspects_8 rfl hl (by decide) rfl (fun ls hl => ?_)
  refine lv_aload_n hx hb dX9_suspects_9 rfl (lv_at hl 2 rfl) ?_
  refine lv_iload_n hx hb dX9_suspects_10 rfl (lv_at hl 3 rfl) ?_
  refine vp_callSi ((va_runV (As := [.int (nI x)]) (rest := []) ⟨hx, hb, hml, hown, hts⟩ (c_X9_needsOf l dC dI cI cD cR h a1 a2 a3 a4 a5 n d t al day nd mk si kn mb x (by first | omega | assumption | exact gnd _ | exact gkn _ | exact Nat.lt_trans (gkn _) (by decide) | exact Nat.lt_trans (gnd _) (by decide)) (by first | omega | assumption | exact gnd _ | exact gkn _ | exact Nat.lt_trans (gkn _) (by decide) | exact Nat.lt_trans (gnd _) (by decide)) (by first | omega | assumption | exact gnd _ | exact gkn _ | exact Nat.lt_trans (gkn _) (by decide) | exact Nat.lt_trans (gnd _) (by decide)) (by first | omega | assumption | exact gnd _ | exact gkn _ | exact Nat.lt_trans (gkn _) (by decide) | exact Nat.lt_trans (gnd _) (by decide)) (by first | omega | assumption | exact gnd _ | exact gkn _ | exact Nat.lt_trans (gkn _) (by decide) | exact Nat.lt_trans (gnd _) (by decide)) gnd gkn (by first | omega | assumption | exact gnd _ | exact gkn _ | exact Nat.lt_trans (gkn _) (by decide) | exact Nat.lt_trans (gnd _) (by decide))) (cwV 1 hts gX9_suspects_X9_needsOf rfl rfl rfl (by decide +kernel) ⟨Nat.le_of_ble_eq_true rfl, Nat.le_of_ble_eq_true rfl⟩) (preV_R hCX (va_recv hK hP (ci := 9) (q0 := 0) rfl rfl) (hP)) rfl rfl hl.1 rfl (lv_room (Nat.le_of_ble_eq_true rfl)) dX9_suspects_11 ⟨Nat.le_of_ble_eq_true (by first | rfl | decide), Nat.le_of_ble_eq_true (by first | rfl | decide)⟩).run) (fun r_11 hr_11 => ?_)
  subst hr_11
  refine lv_istore (lv' := [(4, .int (nI (nd x))), (3, .int (nI (2 ^ x) ^^^ (-1))), (2, .int (nI 0)), (0, .ref h), (1, .int (nI x))]) hx hb dX9_suspects_14 hl (by decide) rfl (fun ls hl => ?_)
  refine lv_iconst (v := nI 0) hx hb dX9_suspects_16 (by decide +kernel) ?_
  refine lv_istore (lv' := [(5, .int (nI 0)), (4, .int (nI (nd x))), (3, .int (nI (2 ^ x) ^^^ (-1))), (2, .int (nI 0)), (0, .ref h), (1, .int (nI x))]) hx hb dX9_suspects_17 hl (by decide) rfl (fun ls hl => ?_)
  refine ho_lp (T := Nat) 8 (fun x9 => [(5, .int (nI x9)), (4, .int (nI (nd x))), (3, .int (nI (2 ^ x) ^^^ (-1))), (2, .int (nI (orF (fun i9 => suB t nd kn mb kd fg x i9) x9))), (0, .ref h), (1, .int (nI x))]) (fun x9 => []) (fun x9 => (x9 ≤ d)) (fun x9 => d - x9) 0 (by omega) (lv_sub hl [0, 1, 2, 3, 4, 5] rfl) ?_
  intro fu19 i ls hI hm19 hl ih
  have hin := hI
  have hl : lv_has ls 8 [(5, .int (nI i)), (4, .int (nI (nd x))), (3, .int (nI (2 ^ x) ^^^ (-1))), (2, .int (nI (orF (fun i9 => suB t nd kn mb kd fg x i9) i))), (0, .ref h), (1, .int (nI x))] := hl
  have hin : i ≤ d := hin
  have hm19 : d - i < fu19 + 1 := hm19
  refine W.eq (g2 := F0 m 19 ls []) rfl ?_
  have ih19 := ih
  refine lv_iload hx hb dX9_suspects_19 (lv_at hl 0 rfl) ?_
  refine lv_aload_n hx hb dX9_suspects_21 rfl (lv_at hl 4 rfl) ?_
  refine va_get (D := (dC, dI)) (ci := 9) (v := .int (nI d)) (C := RX9) (T := TX9) (N := 10) hx hb hts (fun _ h => List.mem_cons_of_mem _ (List.mem_append_left _ (List.mem_append_left _ (List.mem_append_left _ (List.mem_append_left _ (List.mem_append_left _ (List.mem_append_left _ (List.mem_append_left _ (List.mem_append_left _ (List.mem_append_right _ h)))))))))) hown hK hP 0 rfl rfl 1 (by decide) (hts (.fieldLink RX9 34 "HoldsOnceDenied$School" "deniers" "I") (by decide +kernel)) (fun _ h9 => h9) rfl dX9_suspects_22 ?_
  refine ho_icmp_ge (tgt := 103) hx hb dX9_suspects_25 (by decide) (by omega) (by omega) (fun c_25 => ?_) (fun c_25 => ?_)
  · refine lv_iload_n hx hb dX9_suspects_103 rfl (lv_at hl 3 rfl) ?_
    exact W.iret (v := nI (orF (fun i9 => suB t nd kn mb kd fg x i9) i)) hx hb hr (fun T9 hT9 hW9 => ⟨_, rfl, (congrArg nI (by rw [show i = d by omega])), hT9⟩) (fun q h => by cases h) dX9_suspects_104
  refine lv_aload_n hx hb dX9_suspects_28 rfl (lv_at hl 4 rfl) ?_
  refine lv_iload hx hb dX9_suspects_29 (lv_at hl 0 rfl) ?_
  refine va_csq ((va_runV (As := [.int (nI i)]) (rest := []) ⟨hx, hb, hml, hown, hts⟩ (c_X9_memberAt l dC dI cI cD cR h a1 a2 a3 a4 a5 n d t al day nd mk si kn mb i (by first | omega | assumption | exact gnd _ | exact gkn _ | exact Nat.lt_trans (gkn _) (by decide) | exact Nat.lt_trans (gnd _) (by decide)) (by first | omega | assumption | exact gnd _ | exact gkn _ | exact Nat.lt_trans (gkn _) (by decide) | exact Nat.lt_trans (gnd _) (by decide)) (by first | omega | assumption | exact gnd _ | exact gkn _ | exact Nat.lt_trans (gkn _) (by decide) | exact Nat.lt_trans (gnd _) (by decide)) (by first | omega | assumption | exact gnd _ | exact gkn _ | exact Nat.lt_trans (gkn _) (by decide) | exact Nat.lt_trans (gnd _) (by decide)) (by first | omega | assumption | exact gnd _ | exact gkn _ | exact Nat.lt_trans (gkn _) (by decide) | exact Nat.lt_trans (gnd _) (by decide)) gnd gkn (by first | omega | assumption | exact gnd _ | exact gkn _ | exact Nat.lt_trans (gkn _) (by decide) | exact Nat.lt_trans (gnd _) (by decide))) (cwV 1 hts gX9_suspects_X9_memberAt rfl rfl rfl (by decide +kernel) ⟨Nat.le_of_ble_eq_true rfl, Nat.le_of_ble_eq_true rfl⟩) (preV_R hCX (va_recv hK hP (ci := 9) (q0 := 0) rfl rfl) (hP)) rfl rfl hl.1 rfl (lv_room (Nat.le_of_ble_eq_true rfl)) dX9_suspects_31 ⟨Nat.le_of_ble_eq_true (by first | rfl | decide), Nat.le_of_ble_eq_true (by first | rfl | decide)⟩).run) (fun r_31 hr_31 => ?_)
  subst hr_31
  cases hv_31 : mb i with
  | none =>
    refine ho_topr (y := .null) rfl ?_
    refine lv_astoreN (lv' := [(6, .null), (5, .int (nI i)), (4, .int (nI (nd x))), (3, .int (nI (2 ^ x) ^^^ (-1))), (2, .int (nI (orF (fun i9 => suB t nd kn mb kd fg x i9) i))), (0, .ref h), (1, .int (nI x))]) hx hb dX9_suspects_34 hl (by decide) rfl (fun ls hl => ?_)
    refine lv_aload_n hx hb dX9_suspects_36 rfl (lv_at hl 5 rfl) ?_
    refine lv_iload hx hb dX9_suspects_37 (lv_at hl 1 rfl) ?_
    refine vp_callSi ((va_runV (As := [.int (nI i)]) (rest := []) ⟨hx, hb, hml, hown, hts⟩ (c_X9_knownTo l dC dI cI cD cR h a1 a2 a3 a4 a5 n d t al day nd mk si kn mb i (by first | omega | assumption | exact gnd _ | exact gkn _ | exact Nat.lt_trans (gkn _) (by decide) | exact Nat.lt_trans (gnd _) (by decide)) (by first | omega | assumption | exact gnd _ | exact gkn _ | exact Nat.lt_trans (gkn _) (by decide) | exact Nat.lt_trans (gnd _) (by decide)) (by first | omega | assumption | exact gnd _ | exact gkn _ | exact Nat.lt_trans (gkn _) (by decide) | exact Nat.lt_trans (gnd _) (by decide)) (by first | omega | assumption | exact gnd _ | exact gkn _ | exact Nat.lt_trans (gkn _) (by decide) | exact Nat.lt_trans (gnd _) (by decide)) (by first | omega | assumption | exact gnd _ | exact gkn _ | exact Nat.lt_trans (gkn _) (by decide) | exact Nat.lt_trans (gnd _) (by decide)) gnd gkn (by first | omega | assumption | exact gnd _ | exact gkn _ | exact Nat.lt_trans (gkn _) (by decide) | exact Nat.lt_trans (gnd _) (by decide))) (cwV 1 hts gX9_suspects_X9_knownTo rfl rfl rfl (by decide +kernel) ⟨Nat.le_of_ble_eq_true rfl, Nat.le_of_ble_eq_true rfl⟩) (preV_R hCX (va_recv hK hP (ci := 9) (q0 := 0) rfl rfl) (hP)) rfl rfl hl.1 rfl (lv_room (Nat.le_of_ble_eq_true rfl)) dX9_suspects_39 ⟨Nat.le_of_ble_eq_true (by first | rfl | decide), Nat.le_of_ble_eq_true (by first | rfl | decide)⟩).run) (fun r_39 hr_39 => ?_)
    subst hr_39
    refine lv_iload_n hx hb dX9_suspects_42 rfl (lv_at hl 3 rfl) ?_
    refine ho_iandC hx hb dX9_suspects_43 ?_
    refine lv_istore (lv' := [(7, .int (nI (sdf (kn i) (2 ^ x)))), (6, .null), (5, .int (nI i)), (4, .int (nI (nd x))), (3, .int (nI (2 ^ x) ^^^ (-1))), (2, .int (nI (orF (fun i9 => suB t nd kn mb kd fg x i9) i))), (0, .ref h), (1, .int (nI x))]) hx hb dX9_suspects_44 hl (by decide) rfl (fun ls hl => ?_)
    refine lv_aloadN hx hb dX9_suspects_46 (lv_at hl 1 rfl) ?_
    refine lv_ifnullN (tgt := 97) hx hb dX9_suspects_48 (by decide) ?_
    refine ho_iinc (lv' := [(5, .int (nI (i + 1))), (7, .int (nI (sdf (kn i) (2 ^ x)))), (6, .null), (4, .int (nI (nd x))), (3, .int (nI (2 ^ x) ^^^ (-1))), (2, .int (nI (orF (fun i9 => suB t nd kn mb kd fg x i9) i))), (0, .ref h), (1, .int (nI x))]) (a := i) (b := 1) hx hb dX9_suspects_97 hl (k := 2) rfl rfl (by decide) rfl (fun ls hl => ?_)
    refine lv_goto (tgt := 19) hx hb dX9_suspects_100 (by decide) ?_
    have e9_2 : orF (fun i9 => suB t nd kn mb kd fg x i9) i = orF (fun i9 => suB t nd kn mb kd fg x i9) (i + 1) := by first | exact orF_t (by simp_all [suB]) | exact orF_f (by simp_all [suB])
    rw [e9_2] at hl
    exact ih19 (i + 1) _ (by omega) (show d - (i + 1) < fu19 from (by omega)) (lv_sub hl [0, 3, 4, 5, 6, 7] rfl)
  | some a_31 =>
    refine ho_topr (y := .ref a_31) rfl ?_
    have hda_31 : a_31 ∈ DL := gmb _ _ hv_31
    refine lv_astore (lv' := [(6, .ref a_31), (5, .int (nI i)), (4, .int (nI (nd x))), (3, .int (nI (2 ^ x) ^^^ (-1))), (2, .int (nI (orF (fun i9 => suB t nd kn mb kd fg x i9) i))), (0, .ref h), (1, .int (nI x))]) hx hb dX9_suspects_34 hl (by decide) rfl (fun ls hl => ?_)
    refine lv_aload_n hx hb dX9_suspects_36 rfl (lv_at hl 5 rfl) ?_
    refine lv_iload hx hb dX9_suspects_37 (lv_at hl 1 rfl) ?_
    refine vp_callSi ((va_runV (As := [.int (nI i)]) (rest := []) ⟨hx, hb, hml, hown, hts⟩ (c_X9_knownTo l dC dI cI cD cR h a1 a2 a3 a4 a5 n d t al day nd mk si kn mb i (by first | omega | assumption | exact gnd _ | exact gkn _ | exact Nat.lt_trans (gkn _) (by decide) | exact Nat.lt_trans (gnd _) (by decide)) (by first | omega | assumption | exact gnd _ | exact gkn _ | exact Nat.lt_trans (gkn _) (by decide) | exact Nat.lt_trans (gnd _) (by decide)) (by first | omega | assumption | exact gnd _ | exact gkn _ | exact Nat.lt_trans (gkn _) (by decide) | exact Nat.lt_trans (gnd _) (by decide)) (by first | omega | assumption | exact gnd _ | exact gkn _ | exact Nat.lt_trans (gkn _) (by decide) | exact Nat.lt_trans (gnd _) (by decide)) (by first | omega | assumption | exact gnd _ | exact gkn _ | exact Nat.lt_trans (gkn _) (by decide) | exact Nat.lt_trans (gnd _) (by decide)) gnd gkn (by first | omega | assumption | exact gnd _ | exact gkn _ | exact Nat.lt_trans (gkn _) (by decide) | exact Nat.lt_trans (gnd _) (by decide))) (cwV 1 hts gX9_suspects_X9_knownTo rfl rfl rfl (by decide +kernel) ⟨Nat.le_of_ble_eq_true rfl, Nat.le_of_ble_eq_true rfl⟩) (preV_R hCX (va_recv hK hP (ci := 9) (q0 := 0) rfl rfl) (hP)) rfl rfl hl.1 rfl (lv_room (Nat.le_of_ble_eq_true rfl)) dX9_suspects_39 ⟨Nat.le_of_ble_eq_true (by first | rfl | decide), Nat.le_of_ble_eq_true (by first | rfl | decide)⟩).run) (fun r_39 hr_39 => ?_)
    subst hr_39
    refine lv_iload_n hx hb dX9_suspects_42 rfl (lv_at hl 3 rfl) ?_
    refine ho_iandC hx hb dX9_suspects_43 ?_
    refine lv_istore (lv' := [(7, .int (nI (sdf (kn i) (2 ^ x)))), (6, .ref a_31), (5, .int (nI i)), (4, .int (nI (nd x))), (3, .int (nI (2 ^ x) ^^^ (-1))), (2, .int (nI (orF (fun i9 => suB t nd kn mb kd fg x i9) i))), (0, .ref h), (1, .int (nI x))]) hx hb dX9_suspects_44 hl (by decide) rfl (fun ls hl => ?_)
    refine lv_aload hx hb dX9_suspects_46 (lv_at hl 1 rfl) ?_
    refine lv_ifnull hx hb dX9_suspects_48 ?_
    refine lv_aload hx hb dX9_suspects_51 (lv_at hl 1 rfl) ?_
    refine lv_iload_n hx hb dX9_suspects_53 rfl (lv_at hl 7 rfl) ?_
    refine lv_aload_n hx hb dX9_suspects_54 rfl (lv_at hl 6 rfl) ?_
    refine va_get (D := (dC, dI)) (ci := 9) (v := .int (nI t)) (C := RX9) (T := TX9) (N := 10) hx hb hts (fun _ h => List.mem_cons_of_mem _ (List.mem_append_left _ (List.mem_append_left _ (List.mem_append_left _ (List.mem_append_left _ (List.mem_append_left _ (List.mem_append_left _ (List.mem_append_left _ (List.mem_append_left _ (List.mem_append_right _ h)))))))))) hown hK hP 0 rfl rfl 2 (by decide) (hts (.fieldLink RX9 37 "HoldsOnceDenied$School" "truth" "I") (by decide +kernel)) (fun _ h9 => h9) rfl dX9_suspects_55 ?_
    refine lv_iload_n hx hb dX9_suspects_58 rfl (lv_at hl 4 rfl) ?_
    refine ho_iandC hx hb dX9_suspects_59 ?_
    refine lv_iload hx hb dX9_suspects_60 (lv_at hl 0 rfl) ?_
    refine lv_iload hx hb dX9_suspects_62 (lv_at hl 3 rfl) ?_
    refine ho_via (g2 := F0 m 67 ls [.int (bI (maB (kd a_31) (fg a_31) (sdf t (2 ^ x)) (sdf (kn i) (2 ^ x)) (nd x) x))]) (fun K9 => ?_) ?_
    · obtain ⟨hPa, hka, hfa⟩ := hDP _ hda_31
      generalize hkk : kd a_31 = kk at hPa hka K9
      generalize hff : fg a_31 = ff at hPa hfa K9
      rcases (show kk = 0 ∨ kk = 1 ∨ kk = 2 ∨ kk = 3 ∨ kk = 4 ∨ kk = 5 ∨ kk = 6 ∨ kk = 7 by omega) with rfl | rfl | rfl | rfl | rfl | rfl | rfl | rfl
      · refine vp_callSi ((va_runV (As := [.int (nI x), .int (nI (sdf t (2 ^ x))), .int (nI (sdf (kn i) (2 ^ x))), .int (nI (nd x))]) (rest := []) ⟨hx, hb, hml, hown, hts⟩ (c_X2_mayDispute l dC dI cI cD cR a_31 x (sdf t (2 ^ x)) (sdf (kn i) (2 ^ x)) (nd x) (by first | omega | assumption | exact gnd _ | exact gkn _ | exact Nat.lt_trans (gkn _) (by decide) | exact Nat.lt_trans (gnd _) (by decide)) (sdf_lt ht) (sdf_lt (gkn _)) (by first | omega | assumption | exact gnd _ | exact gkn _ | exact Nat.lt_trans (gkn _) (by decide) | exact Nat.lt_trans (gnd _) (by decide))) (cwV 4 hts gX9_suspects_X2_mayDispute rfl rfl rfl (by decide +kernel) ⟨Nat.le_of_ble_eq_true rfl, Nat.le_of_ble_eq_true rfl⟩) (preV_R hCX (va_recv hK hPa (ci := 2) (q0 := 0) rfl rfl) (trivial)) rfl rfl hl.1 rfl (lv_room (Nat.le_of_ble_eq_true rfl)) dX9_suspects_64 ⟨Nat.le_of_ble_eq_true (by first | rfl | decide), Nat.le_of_ble_eq_true (by first | rfl | decide)⟩).run) (fun r9 hr9 => ?_)
        subst hr9
        exact K9
      · refine vp_callSi ((va_runU (As := [.int (nI x), .int (nI (sdf t (2 ^ x))), .int (nI (sdf (kn i) (2 ^ x))), .int (nI (nd x))]) (rest := []) ⟨hx, hb, hml, hown, hts⟩ (c_X3_mayDispute l dC dI cI cD cR a_31 x (sdf t (2 ^ x)) (sdf (kn i) (2 ^ x)) (nd x) (by first | omega | assumption | exact gnd _ | exact gkn _ | exact Nat.lt_trans (gkn _) (by decide) | exact Nat.lt_trans (gnd _) (by decide)) (sdf_lt ht) (sdf_lt (gkn _)) (by first | omega | assumption | exact gnd _ | exact gkn _ | exact Nat.lt_trans (gkn _) (by decide) | exact Nat.lt_trans (gnd _) (by decide))) (va_cwO 4 hts gX9_suspects_X3_mayDispute_u89X3 rfl rfl rfl (b0 := cX2_mayDispute) (m0 := 5) (r0 := (some .boolean)) (by decide +kernel) (by decide +kernel) ⟨Nat.le_of_ble_eq_true rfl, Nat.le_of_ble_eq_true rfl⟩) (preV_R hCX (va_recv hK hPa (ci := 3) (q0 := 0) rfl rfl) (trivial)) rfl rfl hl.1 rfl (lv_room (Nat.le_of_ble_eq_true rfl)) dX9_suspects_64 ⟨Nat.le_of_ble_eq_true (by first | rfl | decide), Nat.le_of_ble_eq_true (by first | rfl | decide)⟩).run) (fun r9 hr9 => ?_)
        subst hr9
        exact K9
      · refine vp_callSi ((va_runU (As := [.int (nI x), .int (nI (sdf t (2 ^ x))), .int (nI (sdf (kn i) (2 ^ x))), .int (nI (nd x))]) (rest := []) ⟨hx, hb, hml, hown, hts⟩ (c_X10_mayDispute_k2 l dC dI cI cD cR a_31 ff x (sdf t (2 ^ x)) (sdf (kn i) (2 ^ x)) (nd x) (by first | omega | assumption | exact gnd _ | exact gkn _ | exact Nat.lt_trans (gkn _) (by decide) | exact Nat.lt_trans (gnd _) (by decide)) (sdf_lt ht) (sdf_lt (gkn _)) (by first | omega | assumption | exact gnd _ | exact gkn _ | exact Nat.lt_trans (gkn _) (by decide) | exact Nat.lt_trans (gnd _) (by decide))) (va_cwO 4 hts gX9_suspects_X10_mayDispute_u89X10 rfl rfl rfl (b0 := cX2_mayDispute) (m0 := 5) (r0 := (some .boolean)) (by decide +kernel) (by decide +kernel) ⟨Nat.le_of_ble_eq_true rfl, Nat.le_of_ble_eq_true rfl⟩) (preV_R hCX (va_recv hK hPa (ci := 10) (q0 := 0) rfl rfl) (hPa)) rfl rfl hl.1 rfl (lv_room (Nat.le_of_ble_eq_true rfl)) dX9_suspects_64 ⟨Nat.le_of_ble_eq_true (by first | rfl | decide), Nat.le_of_ble_eq_true (by first | rfl | decide)⟩).run) (fun r9 hr9 => ?_)
        subst hr9
        exact K9
      · refine vp_callSi ((va_runU (As := [.int (nI x), .int (nI (sdf t (2 ^ x))), .int (nI (sdf (kn i) (2 ^ x))), .int (nI (nd x))]) (rest := []) ⟨hx, hb, hml, hown, hts⟩ (c_X1_mayDispute l dC dI cI cD cR a_31 x (sdf t (2 ^ x)) (sdf (kn i) (2 ^ x)) (nd x)) (va_cwO 4 hts gX9_suspects_X1_mayDispute_u89X1 rfl rfl rfl (b0 := cX2_mayDispute) (m0 := 5) (r0 := (some .boolean)) (by decide +kernel) (by decide +kernel) ⟨Nat.le_of_ble_eq_true rfl, Nat.le_of_ble_eq_true rfl⟩) (preV_R hCX (va_recv hK hPa (ci := 1) (q0 := 0) rfl rfl) (trivial)) rfl rfl hl.1 rfl (lv_room (Nat.le_of_ble_eq_true rfl)) dX9_suspects_64 ⟨Nat.le_of_ble_eq_true (by first | rfl | decide), Nat.le_of_ble_eq_true (by first | rfl | decide)⟩).run) (fun r9 hr9 => ?_)
        subst hr9
        exact K9
      · refine vp_callSi ((va_runU (As := [.int (nI x), .int (nI (sdf t (2 ^ x))), .int (nI (sdf (kn i) (2 ^ x))), .int (nI (nd x))]) (rest := []) ⟨hx, hb, hml, hown, hts⟩ (c_X5_mayDispute_k4 l dC dI cI cD cR a_31 ff x (sdf t (2 ^ x)) (sdf (kn i) (2 ^ x)) (nd x) (by first | omega | assumption | exact gnd _ | exact gkn _ | exact Nat.lt_trans (gkn _) (by decide) | exact Nat.lt_trans (gnd _) (by decide)) (sdf_lt ht) (sdf_lt (gkn _)) (by first | omega | assumption | exact gnd _ | exact gkn _ | exact Nat.lt_trans (gkn _) (by decide) | exact Nat.lt_trans (gnd _) (by decide)) (by first | omega | assumption | exact gnd _ | exact gkn _ | exact Nat.lt_trans (gkn _) (by decide) | exact Nat.lt_trans (gnd _) (by decide))) (va_cwO 4 hts gX9_suspects_X5_mayDispute_u89X5 rfl rfl rfl (b0 := cX2_mayDispute) (m0 := 5) (r0 := (some .boolean)) (by decide +kernel) (by decide +kernel) ⟨Nat.le_of_ble_eq_true rfl, Nat.le_of_ble_eq_true rfl⟩) (preV_R hCX (va_recv hK hPa (ci := 5) (q0 := 0) rfl rfl) (hPa)) rfl rfl hl.1 rfl (lv_room (Nat.le_of_ble_eq_true rfl)) dX9_suspects_64 ⟨Nat.le_of_ble_eq_true (by first | rfl | decide), Nat.le_of_ble_eq_true (by first | rfl | decide)⟩).run) (fun r9 hr9 => ?_)
        subst hr9
        exact K9
      · refine vp_callSi ((va_runU (As := [.int (nI x), .int (nI (sdf t (2 ^ x))), .int (nI (sdf (kn i) (2 ^ x))), .int (nI (nd x))]) (rest := []) ⟨hx, hb, hml, hown, hts⟩ (c_X6_mayDispute l dC dI cI cD cR a_31 ff x (sdf t (2 ^ x)) (sdf (kn i) (2 ^ x)) (nd x) (by first | omega | assumption | exact gnd _ | exact gkn _ | exact Nat.lt_trans (gkn _) (by decide) | exact Nat.lt_trans (gnd _) (by decide)) (sdf_lt ht) (sdf_lt (gkn _)) (by first | omega | assumption | exact gnd _ | exact gkn _ | exact Nat.lt_trans (gkn _) (by decide) | exact Nat.lt_trans (gnd _) (by decide)) (by first | omega | assumption | exact gnd _ | exact gkn _ | exact Nat.lt_trans (gkn _) (by decide) | exact Nat.lt_trans (gnd _) (by decide))) (va_cwO 4 hts gX9_suspects_X6_mayDispute_u89X6 rfl rfl rfl (b0 := cX2_mayDispute) (m0 := 5) (r0 := (some .boolean)) (by decide +kernel) (by decide +kernel) ⟨Nat.le_of_ble_eq_true rfl, Nat.le_of_ble_eq_true rfl⟩) (preV_R hCX (va_recv hK hPa (ci := 6) (q0 := 0) rfl rfl) (hPa)) rfl rfl hl.1 rfl (lv_room (Nat.le_of_ble_eq_true rfl)) dX9_suspects_64 ⟨Nat.le_of_ble_eq_true (by first | rfl | decide), Nat.le_of_ble_eq_true (by first | rfl | decide)⟩).run) (fun r9 hr9 => ?_)
        subst hr9
        exact K9
      · refine vp_callSi ((va_runU (As := [.int (nI x), .int (nI (sdf t (2 ^ x))), .int (nI (sdf (kn i) (2 ^ x))), .int (nI (nd x))]) (rest := []) ⟨hx, hb, hml, hown, hts⟩ (c_X7_mayDispute l dC dI cI cD cR a_31 ff x (sdf t (2 ^ x)) (sdf (kn i) (2 ^ x)) (nd x) (by first | omega | assumption | exact gnd _ | exact gkn _ | exact Nat.lt_trans (gkn _) (by decide) | exact Nat.lt_trans (gnd _) (by decide)) (sdf_lt ht) (sdf_lt (gkn _)) (by first | omega | assumption | exact gnd _ | exact gkn _ | exact Nat.lt_trans (gkn _) (by decide) | exact Nat.lt_trans (gnd _) (by decide)) (by first | omega | assumption | exact gnd _ | exact gkn _ | exact Nat.lt_trans (gkn _) (by decide) | exact Nat.lt_trans (gnd _) (by decide))) (va_cwO 4 hts gX9_suspects_X7_mayDispute_u89X7 rfl rfl rfl (b0 := cX2_mayDispute) (m0 := 5) (r0 := (some .boolean)) (by decide +kernel) (by decide +kernel) ⟨Nat.le_of_ble_eq_true rfl, Nat.le_of_ble_eq_true rfl⟩) (preV_R hCX (va_recv hK hPa (ci := 7) (q0 := 0) rfl rfl) (hPa)) rfl rfl hl.1 rfl (lv_room (Nat.le_of_ble_eq_true rfl)) dX9_suspects_64 ⟨Nat.le_of_ble_eq_true (by first | rfl | decide), Nat.le_of_ble_eq_true (by first | rfl | decide)⟩).run) (fun r9 hr9 => ?_)
        subst hr9
        exact K9
      · refine vp_callSi ((va_runU (As := [.int (nI x), .int (nI (sdf t (2 ^ x))), .int (nI (sdf (kn i) (2 ^ x))), .int (nI (nd x))]) (rest := []) ⟨hx, hb, hml, hown, hts⟩ (c_X0_mayDispute l dC dI cI cD cR a_31 ff x (sdf t (2 ^ x)) (sdf (kn i) (2 ^ x)) (nd x) (by first | omega | assumption | exact gnd _ | exact gkn _ | exact Nat.lt_trans (gkn _) (by decide) | exact Nat.lt_trans (gnd _) (by decide)) (sdf_lt ht) (sdf_lt (gkn _)) (by first | omega | assumption | exact gnd _ | exact gkn _ | exact Nat.lt_trans (gkn _) (by decide) | exact Nat.lt_trans (gnd _) (by decide)) (by first | omega | assumption | exact gnd _ | exact gkn _ | exact Nat.lt_trans (gkn _) (by decide) | exact Nat.lt_trans (gnd _) (by decide))) (va_cwO 4 hts gX9_suspects_X0_mayDispute_u89X0 rfl rfl rfl (b0 := cX2_mayDispute) (m0 := 5) (r0 := (some .boolean)) (by decide +kernel) (by decide +kernel) ⟨Nat.le_of_ble_eq_true rfl, Nat.le_of_ble_eq_true rfl⟩) (preV_R hCX (va_recv hK hPa (ci := 0) (q0 := 0) rfl rfl) (hPa)) rfl rfl hl.1 rfl (lv_room (Nat.le_of_ble_eq_true rfl)) dX9_suspects_64 ⟨Nat.le_of_ble_eq_true (by first | rfl | decide), Nat.le_of_ble_eq_true (by first | rfl | decide)⟩).run) (fun r9 hr9 => ?_)
        subst hr9
        exact K9
    refine ho_beq (tgt := 97) hx hb dX9_suspects_67 (by decide) (fun c_67 => ?_) (fun c_67 => ?_)
    · refine ho_iinc (lv' := [(5, .int (nI (i + 1))), (7, .int (nI (sdf (kn i) (2 ^ x)))), (6, .ref a_31), (4, .int (nI (nd x))), (3, .int (nI (2 ^ x) ^^^ (-1))), (2, .int (nI (orF (fun i9 => suB t nd kn mb kd fg x i9) i))), (0, .ref h), (1, .int (nI x))]) (a := i) (b := 1) hx hb dX9_suspects_97 hl (k := 2) rfl rfl (by decide) rfl (fun ls hl => ?_)
      refine lv_goto (tgt := 19) hx hb dX9_suspects_100 (by decide) ?_
      have e9_2 : orF (fun i9 => suB t nd kn mb kd fg x i9) i = orF (fun i9 => suB t nd kn mb kd fg x i9) (i + 1) := by first | exact orF_t (by simp_all [suB]) | exact orF_f (by simp_all [suB])
      rw [e9_2] at hl
      exact ih19 (i + 1) _ (by omega) (show d - (i + 1) < fu19 from (by omega)) (lv_sub hl [0, 3, 4, 5, 6, 7] rfl)
    refine lv_aload hx hb dX9_suspects_70 (lv_at hl 1 rfl) ?_
    refine lv_aload_n hx hb dX9_suspects_72 rfl (lv_at hl 6 rfl) ?_
    refine va_get (D := (dC, dI)) (ci := 9) (v := .int (nI t)) (C := RX9) (T := TX9) (N := 10) hx hb hts (fun _ h => List.mem_cons_of_mem _ (List.mem_append_left _ (List.mem_append_left _ (List.mem_append_left _ (List.mem_append_left _ (List.mem_append_left _ (List.mem_append_left _ (List.mem_append_left _ (List.mem_append_left _ (List.mem_append_right _ h)))))))))) hown hK hP 0 rfl rfl 2 (by decide) (hts (.fieldLink RX9 37 "HoldsOnceDenied$School" "truth" "I") (by decide +kernel)) (fun _ h9 => h9) rfl dX9_suspects_73 ?_
    refine lv_iload_n hx hb dX9_suspects_76 rfl (lv_at hl 4 rfl) ?_
    refine ho_iandC hx hb dX9_suspects_77 ?_
    refine lv_iload hx hb dX9_suspects_78 (lv_at hl 0 rfl) ?_
    refine lv_iload hx hb dX9_suspects_80 (lv_at hl 3 rfl) ?_
    refine lv_iconst (v := nI 0) hx hb dX9_suspects_82 (by decide +kernel) ?_
    refine ho_via (g2 := F0 m 86 ls [.int (bI (siB (kd a_31) (sdf t (2 ^ x)) (sdf (kn i) (2 ^ x)) (nd x) false))]) (fun K9 => ?_) ?_
    · obtain ⟨hPa, hka, hfa⟩ := hDP _ hda_31
      generalize hkk : kd a_31 = kk at hPa hka K9
      generalize hff : fg a_31 = ff at hPa hfa K9
      rcases (show kk = 0 ∨ kk = 1 ∨ kk = 2 ∨ kk = 3 ∨ kk = 4 ∨ kk = 5 ∨ kk = 6 ∨ kk = 7 by omega) with rfl | rfl | rfl | rfl | rfl | rfl | rfl | rfl
      · refine vp_callSi ((va_runV (As := [.int (nI (sdf t (2 ^ x))), .int (nI (sdf (kn i) (2 ^ x))), .int (nI (nd x)), .int (bI false)]) (rest := []) ⟨hx, hb, hml, hown, hts⟩ (c_X2_isSilenced l dC dI cI cD cR a_31 (sdf t (2 ^ x)) (sdf (kn i) (2 ^ x)) (nd x) false (sdf_lt ht) (sdf_lt (gkn _)) (by first | omega | assumption | exact gnd _ | exact gkn _ | exact Nat.lt_trans (gkn _) (by decide) | exact Nat.lt_trans (gnd _) (by decide))) (cwV 4 hts gX9_suspects_X2_isSilenced rfl rfl rfl (by decide +kernel) ⟨Nat.le_of_ble_eq_true rfl, Nat.le_of_ble_eq_true rfl⟩) (preV_R hCX (va_recv hK hPa (ci := 2) (q0 := 0) rfl rfl) (trivial)) rfl rfl hl.1 rfl (lv_room (Nat.le_of_ble_eq_true rfl)) dX9_suspects_83 ⟨Nat.le_of_ble_eq_true (by first | rfl | decide), Nat.le_of_ble_eq_true (by first | rfl | decide)⟩).run) (fun r9 hr9 => ?_)
        subst hr9
        exact K9
      · refine vp_callSi ((va_runU (As := [.int (nI (sdf t (2 ^ x))), .int (nI (sdf (kn i) (2 ^ x))), .int (nI (nd x)), .int (bI false)]) (rest := []) ⟨hx, hb, hml, hown, hts⟩ (c_X2_isSilenced l dC dI cI cD cR a_31 (sdf t (2 ^ x)) (sdf (kn i) (2 ^ x)) (nd x) false (sdf_lt ht) (sdf_lt (gkn _)) (by first | omega | assumption | exact gnd _ | exact gkn _ | exact Nat.lt_trans (gkn _) (by decide) | exact Nat.lt_trans (gnd _) (by decide))) (va_cwU 4 hts gX9_suspects_X2_isSilenced_u97X3 rfl rfl rfl rfl (by decide +kernel) ⟨Nat.le_of_ble_eq_true rfl, Nat.le_of_ble_eq_true rfl⟩) (preV_R hCX (va_recv hK hPa (ci := 3) (q0 := 0) rfl rfl) (trivial)) rfl rfl hl.1 rfl (lv_room (Nat.le_of_ble_eq_true rfl)) dX9_suspects_83 ⟨Nat.le_of_ble_eq_true (by first | rfl | decide), Nat.le_of_ble_eq_true (by first | rfl | decide)⟩).run) (fun r9 hr9 => ?_)
        subst hr9
        exact K9
      · refine vp_callSi ((va_runU (As := [.int (nI (sdf t (2 ^ x))), .int (nI (sdf (kn i) (2 ^ x))), .int (nI (nd x)), .int (bI false)]) (rest := []) ⟨hx, hb, hml, hown, hts⟩ (c_X2_isSilenced l dC dI cI cD cR a_31 (sdf t (2 ^ x)) (sdf (kn i) (2 ^ x)) (nd x) false (sdf_lt ht) (sdf_lt (gkn _)) (by first | omega | assumption | exact gnd _ | exact gkn _ | exact Nat.lt_trans (gkn _) (by decide) | exact Nat.lt_trans (gnd _) (by decide))) (va_cwU 4 hts gX9_suspects_X2_isSilenced_u97X10 rfl rfl rfl rfl (by decide +kernel) ⟨Nat.le_of_ble_eq_true rfl, Nat.le_of_ble_eq_true rfl⟩) (preV_R hCX (va_recv hK hPa (ci := 10) (q0 := 0) rfl rfl) (trivial)) rfl rfl hl.1 rfl (lv_room (Nat.le_of_ble_eq_true rfl)) dX9_suspects_83 ⟨Nat.le_of_ble_eq_true (by first | rfl | decide), Nat.le_of_ble_eq_true (by first | rfl | decide)⟩).run) (fun r9 hr9 => ?_)
        subst hr9
        exact K9
      · refine vp_callSi ((va_runU (As := [.int (nI (sdf t (2 ^ x))), .int (nI (sdf (kn i) (2 ^ x))), .int (nI (nd x)), .int (bI false)]) (rest := []) ⟨hx, hb, hml, hown, hts⟩ (c_X1_isSilenced l dC dI cI cD cR a_31 (sdf t (2 ^ x)) (sdf (kn i) (2 ^ x)) (nd x) false) (va_cwO 4 hts gX9_suspects_X1_isSilenced_u97X1 rfl rfl rfl (b0 := cX2_isSilenced) (m0 := 5) (r0 := (some .boolean)) (by decide +kernel) (by decide +kernel) ⟨Nat.le_of_ble_eq_true rfl, Nat.le_of_ble_eq_true rfl⟩) (preV_R hCX (va_recv hK hPa (ci := 1) (q0 := 0) rfl rfl) (trivial)) rfl rfl hl.1 rfl (lv_room (Nat.le_of_ble_eq_true rfl)) dX9_suspects_83 ⟨Nat.le_of_ble_eq_true (by first | rfl | decide), Nat.le_of_ble_eq_true (by first | rfl | decide)⟩).run) (fun r9 hr9 => ?_)
        subst hr9
        exact K9
      · refine vp_callSi ((va_runU (As := [.int (nI (sdf t (2 ^ x))), .int (nI (sdf (kn i) (2 ^ x))), .int (nI (nd x)), .int (bI false)]) (rest := []) ⟨hx, hb, hml, hown, hts⟩ (c_X2_isSilenced l dC dI cI cD cR a_31 (sdf t (2 ^ x)) (sdf (kn i) (2 ^ x)) (nd x) false (sdf_lt ht) (sdf_lt (gkn _)) (by first | omega | assumption | exact gnd _ | exact gkn _ | exact Nat.lt_trans (gkn _) (by decide) | exact Nat.lt_trans (gnd _) (by decide))) (va_cwU 4 hts gX9_suspects_X2_isSilenced_u97X5 rfl rfl rfl rfl (by decide +kernel) ⟨Nat.le_of_ble_eq_true rfl, Nat.le_of_ble_eq_true rfl⟩) (preV_R hCX (va_recv hK hPa (ci := 5) (q0 := 0) rfl rfl) (trivial)) rfl rfl hl.1 rfl (lv_room (Nat.le_of_ble_eq_true rfl)) dX9_suspects_83 ⟨Nat.le_of_ble_eq_true (by first | rfl | decide), Nat.le_of_ble_eq_true (by first | rfl | decide)⟩).run) (fun r9 hr9 => ?_)
        subst hr9
        exact K9
      · refine vp_callSi ((va_runU (As := [.int (nI (sdf t (2 ^ x))), .int (nI (sdf (kn i) (2 ^ x))), .int (nI (nd x)), .int (bI false)]) (rest := []) ⟨hx, hb, hml, hown, hts⟩ (c_X2_isSilenced l dC dI cI cD cR a_31 (sdf t (2 ^ x)) (sdf (kn i) (2 ^ x)) (nd x) false (sdf_lt ht) (sdf_lt (gkn _)) (by first | omega | assumption | exact gnd _ | exact gkn _ | exact Nat.lt_trans (gkn _) (by decide) | exact Nat.lt_trans (gnd _) (by decide))) (va_cwU 4 hts gX9_suspects_X2_isSilenced_u97X6 rfl rfl rfl rfl (by decide +kernel) ⟨Nat.le_of_ble_eq_true rfl, Nat.le_of_ble_eq_true rfl⟩) (preV_R hCX (va_recv hK hPa (ci := 6) (q0 := 0) rfl rfl) (trivial)) rfl rfl hl.1 rfl (lv_room (Nat.le_of_ble_eq_true rfl)) dX9_suspects_83 ⟨Nat.le_of_ble_eq_true (by first | rfl | decide), Nat.le_of_ble_eq_true (by first | rfl | decide)⟩).run) (fun r9 hr9 => ?_)
        subst hr9
        exact K9
      · refine vp_callSi ((va_runU (As := [.int (nI (sdf t (2 ^ x))), .int (nI (sdf (kn i) (2 ^ x))), .int (nI (nd x)), .int (bI false)]) (rest := []) ⟨hx, hb, hml, hown, hts⟩ (c_X2_isSilenced l dC dI cI cD cR a_31 (sdf t (2 ^ x)) (sdf (kn i) (2 ^ x)) (nd x) false (sdf_lt ht) (sdf_lt (gkn _)) (by first | omega | assumption | exact gnd _ | exact gkn _ | exact Nat.lt_trans (gkn _) (by decide) | exact Nat.lt_trans (gnd _) (by decide))) (va_cwU 4 hts gX9_suspects_X2_isSilenced_u97X7 rfl rfl rfl rfl (by decide +kernel) ⟨Nat.le_of_ble_eq_true rfl, Nat.le_of_ble_eq_true rfl⟩) (preV_R hCX (va_recv hK hPa (ci := 7) (q0 := 0) rfl rfl) (trivial)) rfl rfl hl.1 rfl (lv_room (Nat.le_of_ble_eq_true rfl)) dX9_suspects_83 ⟨Nat.le_of_ble_eq_true (by first | rfl | decide), Nat.le_of_ble_eq_true (by first | rfl | decide)⟩).run) (fun r9 hr9 => ?_)
        subst hr9
        exact K9
      · refine vp_callSi ((va_runU (As := [.int (nI (sdf t (2 ^ x))), .int (nI (sdf (kn i) (2 ^ x))), .int (nI (nd x)), .int (bI false)]) (rest := []) ⟨hx, hb, hml, hown, hts⟩ (c_X0_isSilenced l dC dI cI cD cR a_31 ff (sdf t (2 ^ x)) (sdf (kn i) (2 ^ x)) (nd x) false (sdf_lt ht) (sdf_lt (gkn _)) (by first | omega | assumption | exact gnd _ | exact gkn _ | exact Nat.lt_trans (gkn _) (by decide) | exact Nat.lt_trans (gnd _) (by decide))) (va_cwO 4 hts gX9_suspects_X0_isSilenced_u97X0 rfl rfl rfl (b0 := cX2_isSilenced) (m0 := 5) (r0 := (some .boolean)) (by decide +kernel) (by decide +kernel) ⟨Nat.le_of_ble_eq_true rfl, Nat.le_of_ble_eq_true rfl⟩) (preV_R hCX (va_recv hK hPa (ci := 0) (q0 := 0) rfl rfl) (hPa)) rfl rfl hl.1 rfl (lv_room (Nat.le_of_ble_eq_true rfl)) dX9_suspects_83 ⟨Nat.le_of_ble_eq_true (by first | rfl | decide), Nat.le_of_ble_eq_true (by first | rfl | decide)⟩).run) (fun r9 hr9 => ?_)
        subst hr9
        exact K9
    refine ho_beq (tgt := 97) hx hb dX9_suspects_86 (by decide) (fun c_86 => ?_) (fun c_86 => ?_)
    · refine ho_iinc (lv' := [(5, .int (nI (i + 1))), (7, .int (nI (sdf (kn i) (2 ^ x)))), (6, .ref a_31), (4, .int (nI (nd x))), (3, .int (nI (2 ^ x) ^^^ (-1))), (2, .int (nI (orF (fun i9 => suB t nd kn mb kd fg x i9) i))), (0, .ref h), (1, .int (nI x))]) (a := i) (b := 1) hx hb dX9_suspects_97 hl (k := 2) rfl rfl (by decide) rfl (fun ls hl => ?_)
      refine lv_goto (tgt := 19) hx hb dX9_suspects_100 (by decide) ?_
      have e9_2 : orF (fun i9 => suB t nd kn mb kd fg x i9) i = orF (fun i9 => suB t nd kn mb kd fg x i9) (i + 1) := by first | exact orF_t (by simp_all [suB]) | exact orF_f (by simp_all [suB])
      rw [e9_2] at hl
      exact ih19 (i + 1) _ (by omega) (show d - (i + 1) < fu19 from (by omega)) (lv_sub hl [0, 3, 4, 5, 6, 7] rfl)
    refine lv_iload_n hx hb dX9_suspects_89 rfl (lv_at hl 5 rfl) ?_
    refine lv_iload hx hb dX9_suspects_90 (lv_at hl 2 rfl) ?_
    refine vp_callSi ((va_runSN (As := [.int (nI i)]) (rest := [.int (nI (orF (fun i9 => suB t nd kn mb kd fg x i9) i))]) ⟨hx, hb, hml, hown, hts⟩ (c_X11_bit l dC dI cI cD cR i (by first | omega | assumption | exact gnd _ | exact gkn _ | exact Nat.lt_trans (gkn _) (by decide) | exact Nat.lt_trans (gnd _) (by decide))) ⟨va_cnB (host := "HoldsOnceDenied") 1 hts gX9_suspects_X11_bit_n66 rfl rfl rfl (CX.nm hCX 2 rfl) (hts (.initialized RX11) (by decide +kernel)) (by decide +kernel) ⟨Nat.le_of_ble_eq_true rfl, Nat.le_of_ble_eq_true rfl⟩, (hts (.static yX11_bit) (by decide +kernel)), trivial⟩ (preS_R hCX (trivial)) rfl rfl hl.1 rfl (lv_room (Nat.le_of_ble_eq_true rfl)) dX9_suspects_92 ⟨Nat.le_of_ble_eq_true (by first | rfl | decide), Nat.le_of_ble_eq_true (by first | rfl | decide)⟩).run) (fun r_92 hr_92 => ?_)
    subst hr_92
    refine ho_ior hx hb dX9_suspects_95 ?_
    refine lv_istore_n (lv' := [(2, .int (nI ((orF (fun i9 => suB t nd kn mb kd fg x i9) i) ||| (2 ^ i)))), (7, .int (nI (sdf (kn i) (2 ^ x)))), (6, .ref a_31), (5, .int (nI i)), (4, .int (nI (nd x))), (3, .int (nI (2 ^ x) ^^^ (-1))), (0, .ref h), (1, .int (nI x))]) hx hb dX9_suspects_96 rfl hl (by decide) rfl (fun ls hl => ?_)
    refine ho_iinc (lv' := [(5, .int (nI (i + 1))), (2, .int (nI ((orF (fun i9 => suB t nd kn mb kd fg x i9) i) ||| (2 ^ i)))), (7, .int (nI (sdf (kn i) (2 ^ x)))), (6, .ref a_31), (4, .int (nI (nd x))), (3, .int (nI (2 ^ x) ^^^ (-1))), (0, .ref h), (1, .int (nI x))]) (a := i) (b := 1) hx hb dX9_suspects_97 hl (k := 3) rfl rfl (by decide) rfl (fun ls hl => ?_)
    refine lv_goto (tgt := 19) hx hb dX9_suspects_100 (by decide) ?_
    have e9_2 : (orF (fun i9 => suB t nd kn mb kd fg x i9) i) ||| (2 ^ i) = orF (fun i9 => suB t nd kn mb kd fg x i9) (i + 1) := by first | exact orF_t (by simp_all [suB]) | exact orF_f (by simp_all [suB])
    rw [e9_2] at hl
    exact ih19 (i + 1) _ (by omega) (show d - (i + 1) < fu19 from (by omega)) (lv_sub hl [0, 4, 5, 1, 6, 7] rfl)
