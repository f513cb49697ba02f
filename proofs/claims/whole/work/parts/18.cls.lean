set_option maxHeartbeats 4000000 in
set_option maxRecDepth 100000 in
theorem c_X11_isShelf_t (l : Launch) (dC : Nat → ClassId) (dI : Nat → Nat → Nat) (cI cD cR : ClassId) (x : Nat) (hx9 : x < 8) : Met l yX11_isShelf wsX11_isShelf ({ frames := 0, cells := 0, slots := 0, locals := 0 }) (pcR dC dI cI cD cR [.int (nI x)] (fun H => True)) (vp_Si (fun r => r = bI true)) 0 0 (fun _ => False) := by
  refine Met.ofW (cc := cX11_isShelf) (maxL := 1) (ret := (some .boolean)) (by decide) rfl ?_
  intro p e s m args below meth c s₁ B hml hv
  obtain ⟨rfl, hH0, hCX⟩ := hv
  have hx := B.exec
  have hb := B.bytes
  have hr := B.returns
  have hts := atoms_spec (ws := wsX11_isShelf) B.pre
  have hown : s.vm.findClass RX11 = some m.cls := findClass_of_methodNamed B.named
  have hlocks := B.notSynchronized
  have hK := hCX.1
  have hl := lv_entry ([.int (nI x)]) (n := 1) (Nat.le_of_ble_eq_true rfl)
  rw [lg_entry_eq]
  generalize (lg_sl ([.int (nI x)]) ++ List.replicate (1 - (lg_sl ([.int (nI x)])).length) Slot.unset).toArray = ls at hl ⊢
  have hl : lv_has ls 1 [(0, .int (nI x))] := hl
  refine lv_iload_n hx hb dX11_isShelf_0 rfl (lv_at hl 0 rfl) ?_
  refine ho_if_lt0 hx hb dX11_isShelf_1 (tgt := 14) (by decide) (by omega) ?_
  refine lv_iload_n hx hb dX11_isShelf_4 rfl (lv_at hl 0 rfl) ?_
  refine lv_bipush (v := nI 8) hx hb dX11_isShelf_5 (by decide +kernel) ?_
  refine ho_icmp_ge (tgt := 14) hx hb dX11_isShelf_7 (by decide) (by omega) (by omega) (fun c_7 => ?_) (fun c_7 => ?_)
  · exfalso; omega
  refine lv_iconst (v := nI 1) hx hb dX11_isShelf_10 (by decide +kernel) ?_
  refine lv_goto (tgt := 15) hx hb dX11_isShelf_11 (by decide) ?_
  exact W.zret (v := nI 1) hx hb hr rfl (fun T9 hT9 hW9 => ⟨_, rfl, (bI_t (by rfl)), hT9⟩) (fun q h => by cases h) dX11_isShelf_15
set_option maxHeartbeats 4000000 in
set_option maxRecDepth 100000 in
theorem c_X11_isShelf_f (l : Launch) (dC : Nat → ClassId) (dI : Nat → Nat → Nat) (cI cD cR : ClassId) (x : Int32) (hb9 : okI x 8 = false) : Met l yX11_isShelf wsX11_isShelf ({ frames := 0, cells := 0, slots := 0, locals := 0 }) (pcR dC dI cI cD cR [.int x] (fun H => True)) (vp_Si (fun r => r = bI false)) 0 0 (fun _ => False) := by
  refine Met.ofW (cc := cX11_isShelf) (maxL := 1) (ret := (some .boolean)) (by decide) rfl ?_
  intro p e s m args below meth c s₁ B hml hv
  obtain ⟨rfl, hH0, hCX⟩ := hv
  have hx := B.exec
  have hb := B.bytes
  have hr := B.returns
  have hts := atoms_spec (ws := wsX11_isShelf) B.pre
  have hown : s.vm.findClass RX11 = some m.cls := findClass_of_methodNamed B.named
  have hlocks := B.notSynchronized
  have hK := hCX.1
  have hl := lv_entry ([.int x]) (n := 1) (Nat.le_of_ble_eq_true rfl)
  rw [lg_entry_eq]
  generalize (lg_sl ([.int x]) ++ List.replicate (1 - (lg_sl ([.int x])).length) Slot.unset).toArray = ls at hl ⊢
  have hl : lv_has ls 1 [(0, .int x)] := hl
  refine lv_iload_n hx hb dX11_isShelf_0 rfl (lv_at hl 0 rfl) ?_
  refine lv_if_lt (tgt := 14) hx hb dX11_isShelf_1 (by decide) (fun c_1 => ?_) (fun c_1 => ?_)
  · refine lv_iconst (v := nI 0) hx hb dX11_isShelf_14 (by decide +kernel) ?_
    exact W.zret (v := nI 0) hx hb hr rfl (fun T9 hT9 hW9 => ⟨_, rfl, (bI_f (by rfl)), hT9⟩) (fun q h => by cases h) dX11_isShelf_15
  refine lv_iload_n hx hb dX11_isShelf_4 rfl (lv_at hl 0 rfl) ?_
  refine lv_bipush (v := nI 8) hx hb dX11_isShelf_5 (by decide +kernel) ?_
  refine lv_icmp_ge (tgt := 14) hx hb dX11_isShelf_7 (by decide) (fun c_7 => ?_) (fun c_7 => ?_)
  · refine lv_iconst (v := nI 0) hx hb dX11_isShelf_14 (by decide +kernel) ?_
    exact W.zret (v := nI 0) hx hb hr rfl (fun T9 hT9 hW9 => ⟨_, rfl, (bI_f (by rfl)), hT9⟩) (fun q h => by cases h) dX11_isShelf_15
  exact absurd (okI_of c_1 (Int32.not_le.mp c_7)) (by rw [hb9]; decide)
set_option maxHeartbeats 4000000 in
set_option maxRecDepth 100000 in
theorem c_X11_isFigure_t (l : Launch) (dC : Nat → ClassId) (dI : Nat → Nat → Nat) (cI cD cR : ClassId) (x : Nat) (hx9 : x < 10) : Met l yX11_isFigure wsX11_isFigure ({ frames := 0, cells := 0, slots := 0, locals := 0 }) (pcR dC dI cI cD cR [.int (nI x)] (fun H => True)) (vp_Si (fun r => r = bI true)) 0 0 (fun _ => False) := by
  refine Met.ofW (cc := cX11_isFigure) (maxL := 1) (ret := (some .boolean)) (by decide) rfl ?_
  intro p e s m args below meth c s₁ B hml hv
  obtain ⟨rfl, hH0, hCX⟩ := hv
  have hx := B.exec
  have hb := B.bytes
  have hr := B.returns
  have hts := atoms_spec (ws := wsX11_isFigure) B.pre
  have hown : s.vm.findClass RX11 = some m.cls := findClass_of_methodNamed B.named
  have hlocks := B.notSynchronized
  have hK := hCX.1
  have hl := lv_entry ([.int (nI x)]) (n := 1) (Nat.le_of_ble_eq_true rfl)
  rw [lg_entry_eq]
  generalize (lg_sl ([.int (nI x)]) ++ List.replicate (1 - (lg_sl ([.int (nI x)])).length) Slot.unset).toArray = ls at hl ⊢
  have hl : lv_has ls 1 [(0, .int (nI x))] := hl
  refine lv_iload_n hx hb dX11_isFigure_0 rfl (lv_at hl 0 rfl) ?_
  refine ho_if_lt0 hx hb dX11_isFigure_1 (tgt := 14) (by decide) (by omega) ?_
  refine lv_iload_n hx hb dX11_isFigure_4 rfl (lv_at hl 0 rfl) ?_
  refine lv_bipush (v := nI 9) hx hb dX11_isFigure_5 (by decide +kernel) ?_
  refine ho_icmp_gt (tgt := 14) hx hb dX11_isFigure_7 (by decide) (by omega) (by omega) (fun c_7 => ?_) (fun c_7 => ?_)
  · exfalso; omega
  refine lv_iconst (v := nI 1) hx hb dX11_isFigure_10 (by decide +kernel) ?_
  refine lv_goto (tgt := 15) hx hb dX11_isFigure_11 (by decide) ?_
  exact W.zret (v := nI 1) hx hb hr rfl (fun T9 hT9 hW9 => ⟨_, rfl, (bI_t (by rfl)), hT9⟩) (fun q h => by cases h) dX11_isFigure_15
set_option maxHeartbeats 4000000 in
set_option maxRecDepth 100000 in
theorem c_X11_isFigure_f (l : Launch) (dC : Nat → ClassId) (dI : Nat → Nat → Nat) (cI cD cR : ClassId) (x : Int32) (hb9 : okI x 10 = false) : Met l yX11_isFigure wsX11_isFigure ({ frames := 0, cells := 0, slots := 0, locals := 0 }) (pcR dC dI cI cD cR [.int x] (fun H => True)) (vp_Si (fun r => r = bI false)) 0 0 (fun _ => False) := by
  refine Met.ofW (cc := cX11_isFigure) (maxL := 1) (ret := (some .boolean)) (by decide) rfl ?_
  intro p e s m args below meth c s₁ B hml hv
  obtain ⟨rfl, hH0, hCX⟩ := hv
  have hx := B.exec
  have hb := B.bytes
  have hr := B.returns
  have hts := atoms_spec (ws := wsX11_isFigure) B.pre
  have hown : s.vm.findClass RX11 = some m.cls := findClass_of_methodNamed B.named
  have hlocks := B.notSynchronized
  have hK := hCX.1
  have hl := lv_entry ([.int x]) (n := 1) (Nat.le_of_ble_eq_true rfl)
  rw [lg_entry_eq]
  generalize (lg_sl ([.int x]) ++ List.replicate (1 - (lg_sl ([.int x])).length) Slot.unset).toArray = ls at hl ⊢
  have hl : lv_has ls 1 [(0, .int x)] := hl
  refine lv_iload_n hx hb dX11_isFigure_0 rfl (lv_at hl 0 rfl) ?_
  refine lv_if_lt (tgt := 14) hx hb dX11_isFigure_1 (by decide) (fun c_1 => ?_) (fun c_1 => ?_)
  · refine lv_iconst (v := nI 0) hx hb dX11_isFigure_14 (by decide +kernel) ?_
    exact W.zret (v := nI 0) hx hb hr rfl (fun T9 hT9 hW9 => ⟨_, rfl, (bI_f (by rfl)), hT9⟩) (fun q h => by cases h) dX11_isFigure_15
  refine lv_iload_n hx hb dX11_isFigure_4 rfl (lv_at hl 0 rfl) ?_
  refine lv_bipush (v := nI 9) hx hb dX11_isFigure_5 (by decide +kernel) ?_
  refine lv_icmp_gt (tgt := 14) hx hb dX11_isFigure_7 (by decide) (fun c_7 => ?_) (fun c_7 => ?_)
  · refine lv_iconst (v := nI 0) hx hb dX11_isFigure_14 (by decide +kernel) ?_
    exact W.zret (v := nI 0) hx hb hr rfl (fun T9 hT9 hW9 => ⟨_, rfl, (bI_f (by rfl)), hT9⟩) (fun q h => by cases h) dX11_isFigure_15
  exact absurd (okI_le9 c_1 c_7) (by rw [hb9]; decide)
set_option maxHeartbeats 4000000 in
set_option maxRecDepth 100000 in
theorem c_X9_hasSentence_t (l : Launch) (dC : Nat → ClassId) (dI : Nat → Nat → Nat) (cI cD cR : ClassId) (h a1 a2 a3 a4 a5 n d t al day : Nat) (nd : Nat → Nat) (mk si : Nat → Int32) (kn : Nat → Nat) (mb : Nat → Option Nat) (x : Nat) (hn : n ≤ 9) (hd : d ≤ 6) (ht : t < 512) (hal : al < 64) (hday : day < 2 ^ 30) (gnd : ∀ i, nd i < 512) (gkn : ∀ j, kn j < 512) (hxx : x < n) : Met l yX9_hasSentence wsX9_hasSentence ({ frames := 0, cells := 0, slots := 0, locals := 0 }) (pcR dC dI cI cD cR [.ref h, .int (nI x)] (fun H => va_P (dC, dI) vwCl ((schW cI cD h a1 a2 a3 a4 a5 n d t al day nd mk si kn mb)) H)) (vp_Si (fun r => r = bI true)) 0 0 (fun _ => False) := by
  refine Met.ofW (cc := cX9_hasSentence) (maxL := 2) (ret := (some .boolean)) (by decide) rfl ?_
  intro p e s m args below meth c s₁ B hml hv
  obtain ⟨rfl, hH0, hCX⟩ := hv
  have hx := B.exec
  have hb := B.bytes
  have hr := B.returns
  have hts := atoms_spec (ws := wsX9_hasSentence) B.pre
  have hown : s.vm.findClass RX9 = some m.cls := findClass_of_methodNamed B.named
  have hlocks := B.notSynchronized
  have hK := hCX.1
  have hP := hH0
  have hl := lv_entry ([.ref h, .int (nI x)]) (n := 2) (Nat.le_of_ble_eq_true rfl)
  rw [lg_entry_eq]
  generalize (lg_sl ([.ref h, .int (nI x)]) ++ List.replicate (2 - (lg_sl ([.ref h, .int (nI x)])).length) Slot.unset).toArray = ls at hl ⊢
  have hl : lv_has ls 2 [(0, .ref h), (1, .int (nI x))] := hl
  refine lv_iload_n hx hb dX9_hasSentence_0 rfl (lv_at hl 1 rfl) ?_
  refine ho_if_lt0 hx hb dX9_hasSentence_1 (tgt := 16) (by decide) (by omega) ?_
  refine lv_iload_n hx hb dX9_hasSentence_4 rfl (lv_at hl 1 rfl) ?_
  refine lv_aload_n hx hb dX9_hasSentence_5 rfl (lv_at hl 0 rfl) ?_
  refine va_get (D := (dC, dI)) (ci := 9) (v := .int (nI n)) (C := RX9) (T := TX9) (N := 10) hx hb hts (fun _ h => List.mem_cons_of_mem _ (List.mem_append_right _ h)) hown hK hP 0 rfl rfl 0 (by decide) (hts (.fieldLink RX9 30 "HoldsOnceDenied$School" "sentences" "I") (by decide +kernel)) (fun _ h9 => h9) rfl dX9_hasSentence_6 ?_
  refine ho_icmp_ge (tgt := 16) hx hb dX9_hasSentence_9 (by decide) (by omega) (by omega) (fun c_9 => ?_) (fun c_9 => ?_)
  · exfalso; omega
  refine lv_iconst (v := nI 1) hx hb dX9_hasSentence_12 (by decide +kernel) ?_
  refine lv_goto (tgt := 17) hx hb dX9_hasSentence_13 (by decide) ?_
  exact W.zret (v := nI 1) hx hb hr rfl (fun T9 hT9 hW9 => ⟨_, rfl, (bI_t (by rfl)), hT9⟩) (fun q h => by cases h) dX9_hasSentence_17
set_option maxHeartbeats 4000000 in
set_option maxRecDepth 100000 in
theorem c_X9_hasSentence_f (l : Launch) (dC : Nat → ClassId) (dI : Nat → Nat → Nat) (cI cD cR : ClassId) (h a1 a2 a3 a4 a5 n d t al day : Nat) (nd : Nat → Nat) (mk si : Nat → Int32) (kn : Nat → Nat) (mb : Nat → Option Nat) (x : Int32) (hn : n ≤ 9) (hd : d ≤ 6) (ht : t < 512) (hal : al < 64) (hday : day < 2 ^ 30) (gnd : ∀ i, nd i < 512) (gkn : ∀ j, kn j < 512) (hb9 : okI x n = false) : Met l yX9_hasSentence wsX9_hasSentence ({ frames := 0, cells := 0, slots := 0, locals := 0 }) (pcR dC dI cI cD cR [.ref h, .int x] (fun H => va_P (dC, dI) vwCl ((schW cI cD h a1 a2 a3 a4 a5 n d t al day nd mk si kn mb)) H)) (vp_Si (fun r => r = bI false)) 0 0 (fun _ => False) := by
  refine Met.ofW (cc := cX9_hasSentence) (maxL := 2) (ret := (some .boolean)) (by decide) rfl ?_
  intro p e s m args below meth c s₁ B hml hv
  obtain ⟨rfl, hH0, hCX⟩ := hv
  have hx := B.exec
  have hb := B.bytes
  have hr := B.returns
  have hts := atoms_spec (ws := wsX9_hasSentence) B.pre
  have hown : s.vm.findClass RX9 = some m.cls := findClass_of_methodNamed B.named
  have hlocks := B.notSynchronized
  have hK := hCX.1
  have hP := hH0
  have hl := lv_entry ([.ref h, .int x]) (n := 2) (Nat.le_of_ble_eq_true rfl)
  rw [lg_entry_eq]
  generalize (lg_sl ([.ref h, .int x]) ++ List.replicate (2 - (lg_sl ([.ref h, .int x])).length) Slot.unset).toArray = ls at hl ⊢
  have hl : lv_has ls 2 [(0, .ref h), (1, .int x)] := hl
  refine lv_iload_n hx hb dX9_hasSentence_0 rfl (lv_at hl 1 rfl) ?_
  refine lv_if_lt (tgt := 16) hx hb dX9_hasSentence_1 (by decide) (fun c_1 => ?_) (fun c_1 => ?_)
  · refine lv_iconst (v := nI 0) hx hb dX9_hasSentence_16 (by decide +kernel) ?_
    exact W.zret (v := nI 0) hx hb hr rfl (fun T9 hT9 hW9 => ⟨_, rfl, (bI_f (by rfl)), hT9⟩) (fun q h => by cases h) dX9_hasSentence_17
  refine lv_iload_n hx hb dX9_hasSentence_4 rfl (lv_at hl 1 rfl) ?_
  refine lv_aload_n hx hb dX9_hasSentence_5 rfl (lv_at hl 0 rfl) ?_
  refine va_get (D := (dC, dI)) (ci := 9) (v := .int (nI n)) (C := RX9) (T := TX9) (N := 10) hx hb hts (fun _ h => List.mem_cons_of_mem _ (List.mem_append_right _ h)) hown hK hP 0 rfl rfl 0 (by decide) (hts (.fieldLink RX9 30 "HoldsOnceDenied$School" "sentences" "I") (by decide +kernel)) (fun _ h9 => h9) rfl dX9_hasSentence_6 ?_
  refine lv_icmp_ge (tgt := 16) hx hb dX9_hasSentence_9 (by decide) (fun c_9 => ?_) (fun c_9 => ?_)
  · refine lv_iconst (v := nI 0) hx hb dX9_hasSentence_16 (by decide +kernel) ?_
    exact W.zret (v := nI 0) hx hb hr rfl (fun T9 hT9 hW9 => ⟨_, rfl, (bI_f (by rfl)), hT9⟩) (fun q h => by cases h) dX9_hasSentence_17
  exact absurd (okI_of c_1 (Int32.not_le.mp c_9)) (by rw [hb9]; decide)
set_option maxHeartbeats 4000000 in
set_option maxRecDepth 100000 in
theorem c_X9_hasDenier_t (l : Launch) (dC : Nat → ClassId) (dI : Nat → Nat → Nat) (cI cD cR : ClassId) (h a1 a2 a3 a4 a5 n d t al day : Nat) (nd : Nat → Nat) (mk si : Nat → Int32) (kn : Nat → Nat) (mb : Nat → Option Nat) (x : Nat) (hn : n ≤ 9) (hd : d ≤ 6) (ht : t < 512) (hal : al < 64) (hday : day < 2 ^ 30) (gnd : ∀ i, nd i < 512) (gkn : ∀ j, kn j < 512) (hxx : x < d) : Met l yX9_hasDenier wsX9_hasDenier ({ frames := 0, cells := 0, slots := 0, locals := 0 }) (pcR dC dI cI cD cR [.ref h, .int (nI x)] (fun H => va_P (dC, dI) vwCl ((schW cI cD h a1 a2 a3 a4 a5 n d t al day nd mk si kn mb)) H)) (vp_Si (fun r => r = bI true)) 0 0 (fun _ => False) := by
  refine Met.ofW (cc := cX9_hasDenier) (maxL := 2) (ret := (some .boolean)) (by decide) rfl ?_
  intro p e s m args below meth c s₁ B hml hv
  obtain ⟨rfl, hH0, hCX⟩ := hv
  have hx := B.exec
  have hb := B.bytes
  have hr := B.returns
  have hts := atoms_spec (ws := wsX9_hasDenier) B.pre
  have hown : s.vm.findClass RX9 = some m.cls := findClass_of_methodNamed B.named
  have hlocks := B.notSynchronized
  have hK := hCX.1
  have hP := hH0
  have hl := lv_entry ([.ref h, .int (nI x)]) (n := 2) (Nat.le_of_ble_eq_true rfl)
  rw [lg_entry_eq]
  generalize (lg_sl ([.ref h, .int (nI x)]) ++ List.replicate (2 - (lg_sl ([.ref h, .int (nI x)])).length) Slot.unset).toArray = ls at hl ⊢
  have hl : lv_has ls 2 [(0, .ref h), (1, .int (nI x))] := hl
  refine lv_iload_n hx hb dX9_hasDenier_0 rfl (lv_at hl 1 rfl) ?_
  refine ho_if_lt0 hx hb dX9_hasDenier_1 (tgt := 16) (by decide) (by omega) ?_
  refine lv_iload_n hx hb dX9_hasDenier_4 rfl (lv_at hl 1 rfl) ?_
  refine lv_aload_n hx hb dX9_hasDenier_5 rfl (lv_at hl 0 rfl) ?_
  refine va_get (D := (dC, dI)) (ci := 9) (v := .int (nI d)) (C := RX9) (T := TX9) (N := 10) hx hb hts (fun _ h => List.mem_cons_of_mem _ (List.mem_append_right _ h)) hown hK hP 0 rfl rfl 1 (by decide) (hts (.fieldLink RX9 34 "HoldsOnceDenied$School" "deniers" "I") (by decide +kernel)) (fun _ h9 => h9) rfl dX9_hasDenier_6 ?_
  refine ho_icmp_ge (tgt := 16) hx hb dX9_hasDenier_9 (by decide) (by omega) (by omega) (fun c_9 => ?_) (fun c_9 => ?_)
  · exfalso; omega
  refine lv_iconst (v := nI 1) hx hb dX9_hasDenier_12 (by decide +kernel) ?_
  refine lv_goto (tgt := 17) hx hb dX9_hasDenier_13 (by decide) ?_
  exact W.zret (v := nI 1) hx hb hr rfl (fun T9 hT9 hW9 => ⟨_, rfl, (bI_t (by rfl)), hT9⟩) (fun q h => by cases h) dX9_hasDenier_17
set_option maxHeartbeats 4000000 in
set_option maxRecDepth 100000 in
theorem c_X9_hasDenier_f (l : Launch) (dC : Nat → ClassId) (dI : Nat → Nat → Nat) (cI cD cR : ClassId) (h a1 a2 a3 a4 a5 n d t al day : Nat) (nd : Nat → Nat) (mk si : Nat → Int32) (kn : Nat → Nat) (mb : Nat → Option Nat) (x : Int32) (hn : n ≤ 9) (hd : d ≤ 6) (ht : t < 512) (hal : al < 64) (hday : day < 2 ^ 30) (gnd : ∀ i, nd i < 512) (gkn : ∀ j, kn j < 512) (hb9 : okI x d = false) : Met l yX9_hasDenier wsX9_hasDenier ({ frames := 0, cells := 0, slots := 0, locals := 0 }) (pcR dC dI cI cD cR [.ref h, .int x] (fun H => va_P (dC, dI) vwCl ((schW cI cD h a1 a2 a3 a4 a5 n d t al day nd mk si kn mb)) H)) (vp_Si (fun r => r = bI false)) 0 0 (fun _ => False) := by
  refine Met.ofW (cc := cX9_hasDenier) (maxL := 2) (ret := (some .boolean)) (by decide) rfl ?_
  intro p e s m args below meth c s₁ B hml hv
  obtain ⟨rfl, hH0, hCX⟩ := hv
  have hx := B.exec
  have hb := B.bytes
  have hr := B.returns
  have hts := atoms_spec (ws := wsX9_hasDenier) B.pre
  have hown : s.vm.findClass RX9 = some m.cls := findClass_of_methodNamed B.named
  have hlocks := B.notSynchronized
  have hK := hCX.1
  have hP := hH0
  have hl := lv_entry ([.ref h, .int x]) (n := 2) (Nat.le_of_ble_eq_true rfl)
  rw [lg_entry_eq]
  generalize (lg_sl ([.ref h, .int x]) ++ List.replicate (2 - (lg_sl ([.ref h, .int x])).length) Slot.unset).toArray = ls at hl ⊢
  have hl : lv_has ls 2 [(0, .ref h), (1, .int x)] := hl
  refine lv_iload_n hx hb dX9_hasDenier_0 rfl (lv_at hl 1 rfl) ?_
  refine lv_if_lt (tgt := 16) hx hb dX9_hasDenier_1 (by decide) (fun c_1 => ?_) (fun c_1 => ?_)
  · refine lv_iconst (v := nI 0) hx hb dX9_hasDenier_16 (by decide +kernel) ?_
    exact W.zret (v := nI 0) hx hb hr rfl (fun T9 hT9 hW9 => ⟨_, rfl, (bI_f (by rfl)), hT9⟩) (fun q h => by cases h) dX9_hasDenier_17
  refine lv_iload_n hx hb dX9_hasDenier_4 rfl (lv_at hl 1 rfl) ?_
  refine lv_aload_n hx hb dX9_hasDenier_5 rfl (lv_at hl 0 rfl) ?_
  refine va_get (D := (dC, dI)) (ci := 9) (v := .int (nI d)) (C := RX9) (T := TX9) (N := 10) hx hb hts (fun _ h => List.mem_cons_of_mem _ (List.mem_append_right _ h)) hown hK hP 0 rfl rfl 1 (by decide) (hts (.fieldLink RX9 34 "HoldsOnceDenied$School" "deniers" "I") (by decide +kernel)) (fun _ h9 => h9) rfl dX9_hasDenier_6 ?_
  refine lv_icmp_ge (tgt := 16) hx hb dX9_hasDenier_9 (by decide) (fun c_9 => ?_) (fun c_9 => ?_)
  · refine lv_iconst (v := nI 0) hx hb dX9_hasDenier_16 (by decide +kernel) ?_
    exact W.zret (v := nI 0) hx hb hr rfl (fun T9 hT9 hW9 => ⟨_, rfl, (bI_f (by rfl)), hT9⟩) (fun q h => by cases h) dX9_hasDenier_17
  exact absurd (okI_of c_1 (Int32.not_le.mp c_9)) (by rw [hb9]; decide)
set_option maxHeartbeats 4000000 in
set_option maxRecDepth 100000 in
theorem c_X9_memberAt_f (l : Launch) (dC : Nat → ClassId) (dI : Nat → Nat → Nat) (cI cD cR : ClassId) (h a1 a2 a3 a4 a5 n d t al day : Nat) (nd : Nat → Nat) (mk si : Nat → Int32) (kn : Nat → Nat) (mb : Nat → Option Nat) (x : Int32) (hn : n ≤ 9) (hd : d ≤ 6) (ht : t < 512) (hal : al < 64) (hday : day < 2 ^ 30) (gnd : ∀ i, nd i < 512) (gkn : ∀ j, kn j < 512) (hb9 : okI x d = false) (gmn : ∀ j, d ≤ j → mb j = none) : Met l yX9_memberAt wsX9_memberAt ({ frames := 0, cells := 0, slots := 0, locals := 0 }) (pcR dC dI cI cD cR [.ref h, .int x] (fun H => va_P (dC, dI) vwCl ((schW cI cD h a1 a2 a3 a4 a5 n d t al day nd mk si kn mb)) H)) (va_Sq (fun r => r = none)) 0 0 (fun _ => False) := by
  refine Met.ofW (cc := cX9_memberAt) (maxL := 2) (ret := (some (.object "HoldsOnceDenied$Denier"))) (by decide) rfl ?_
  intro p e s m args below meth c s₁ B hml hv
  obtain ⟨rfl, hH0, hCX⟩ := hv
  have hx := B.exec
  have hb := B.bytes
  have hr := B.returns
  have hts := atoms_spec (ws := wsX9_memberAt) B.pre
  have hown : s.vm.findClass RX9 = some m.cls := findClass_of_methodNamed B.named
  have hlocks := B.notSynchronized
  have hK := hCX.1
  have hP := hH0
  have hl := lv_entry ([.ref h, .int x]) (n := 2) (Nat.le_of_ble_eq_true rfl)
  rw [lg_entry_eq]
  generalize (lg_sl ([.ref h, .int x]) ++ List.replicate (2 - (lg_sl ([.ref h, .int x])).length) Slot.unset).toArray = ls at hl ⊢
  have hl : lv_has ls 2 [(0, .ref h), (1, .int x)] := hl
  refine lv_iload_n hx hb dX9_memberAt_0 rfl (lv_at hl 1 rfl) ?_
  refine lv_if_lt (tgt := 22) hx hb dX9_memberAt_1 (by decide) (fun c_1 => ?_) (fun c_1 => ?_)
  · refine lv_null hx hb dX9_memberAt_22 ?_
    exact W.aret hx hb hr (Or.inl ⟨_, rfl⟩) (Or.inl rfl) (fun T9 hT9 hW9 => ⟨none, rfl, (by first | rfl | exact gmn _ (okI_ge (by omega) (by omega) hb9)), hT9⟩) (fun q h => by cases h) dX9_memberAt_23
  refine lv_iload_n hx hb dX9_memberAt_4 rfl (lv_at hl 1 rfl) ?_
  refine lv_aload_n hx hb dX9_memberAt_5 rfl (lv_at hl 0 rfl) ?_
  refine va_get (D := (dC, dI)) (ci := 9) (v := .ref a5) (C := RX9) (T := TX9) (N := 10) hx hb hts (fun _ h => List.mem_cons_of_mem _ (List.mem_append_right _ h)) hown hK hP 0 rfl rfl 9 (by decide) (hts (.fieldLink RX9 26 "HoldsOnceDenied$School" "members" "[LHoldsOnceDenied$Denier;") (by decide +kernel)) (fun _ h9 => h9) rfl dX9_memberAt_6 ?_
  refine va_alen (v := nI 6) hx hb hK hP 5 1 rfl rfl rfl dX9_memberAt_9 ?_
  refine lv_icmp_ge (tgt := 22) hx hb dX9_memberAt_10 (by decide) (fun c_10 => ?_) (fun c_10 => ?_)
  · refine lv_null hx hb dX9_memberAt_22 ?_
    exact W.aret hx hb hr (Or.inl ⟨_, rfl⟩) (Or.inl rfl) (fun T9 hT9 hW9 => ⟨none, rfl, (by first | rfl | exact gmn _ (okI_ge (by omega) (by omega) hb9)), hT9⟩) (fun q h => by cases h) dX9_memberAt_23
  obtain ⟨x', hx6, rfl⟩ := nI_of1 (by decide) c_1 (Int32.not_le.mp c_10)
  refine lv_aload_n hx hb dX9_memberAt_13 rfl (lv_at hl 0 rfl) ?_
  refine va_get (D := (dC, dI)) (ci := 9) (v := .ref a5) (C := RX9) (T := TX9) (N := 10) hx hb hts (fun _ h => List.mem_cons_of_mem _ (List.mem_append_right _ h)) hown hK hP 0 rfl rfl 9 (by decide) (hts (.fieldLink RX9 26 "HoldsOnceDenied$School" "members" "[LHoldsOnceDenied$Denier;") (by decide +kernel)) (fun _ h9 => h9) rfl dX9_memberAt_14 ?_
  refine lv_iload_n hx hb dX9_memberAt_17 rfl (lv_at hl 1 rfl) ?_
  refine ho_aald hx hb hK hP 5 1 rfl rfl (by omega) (by decide) dX9_memberAt_18 ?_
  refine lv_goto (tgt := 23) hx hb dX9_memberAt_19 (by decide) ?_
  exact W.aret hx hb hr (Or.inl ⟨_, rfl⟩) (va_rf_or _) (fun T9 hT9 hW9 => ⟨(mb x'), rfl, (by first | rfl | exact gmn _ (okI_ge (by omega) (by omega) hb9)), hT9⟩) (fun q h => by cases h) dX9_memberAt_23
set_option maxHeartbeats 4000000 in
set_option maxRecDepth 100000 in
theorem c_X11_rowAt_t (l : Launch) (dC : Nat → ClassId) (dI : Nat → Nat → Nat) (cI cD cR : ClassId) (x sN sM sP : Nat) (pt : Bool) (fo da ra : Nat) (rm : Nat → Option Nat) (i : Nat) (hi : i < 8) : Met l yX11_rowAt wsX11_rowAt ({ frames := 0, cells := 0, slots := 0, locals := 0 }) (pcR dC dI cI cD cR [.ref x, .int (nI i)] (fun H => va_P (dC, dI) vwCl ([(x, .inr (11, [.ref sN, .ref sM, .ref sP, .int (bI pt), .ref fo, .ref da, .ref ra]))] ++ [(ra, .inl (cR, 8, .inr (.inr (.inr (.inr rm)))))]) H)) (va_Sq (fun r => r = rm i)) 0 0 (fun _ => False) := by
  refine Met.ofW (cc := cX11_rowAt) (maxL := 2) (ret := (some (.object "HoldsOnceDenied$Row"))) (by decide) rfl ?_
  intro p e s m args below meth c s₁ B hml hv
  obtain ⟨rfl, hH0, hCX⟩ := hv
  have hx := B.exec
  have hb := B.bytes
  have hr := B.returns
  have hts := atoms_spec (ws := wsX11_rowAt) B.pre
  have hown : s.vm.findClass RX11 = some m.cls := findClass_of_methodNamed B.named
  have hlocks := B.notSynchronized
  have hK := hCX.1
  have hP := hH0
  have hl := lv_entry ([.ref x, .int (nI i)]) (n := 2) (Nat.le_of_ble_eq_true rfl)
  rw [lg_entry_eq]
  generalize (lg_sl ([.ref x, .int (nI i)]) ++ List.replicate (2 - (lg_sl ([.ref x, .int (nI i)])).length) Slot.unset).toArray = ls at hl ⊢
  have hl : lv_has ls 2 [(0, .ref x), (1, .int (nI i))] := hl
  refine lv_iload_n hx hb dX11_rowAt_0 rfl (lv_at hl 1 rfl) ?_
  refine ho_if_lt0 hx hb dX11_rowAt_1 (tgt := 22) (by decide) (by omega) ?_
  refine lv_iload_n hx hb dX11_rowAt_4 rfl (lv_at hl 1 rfl) ?_
  refine lv_aload_n hx hb dX11_rowAt_5 rfl (lv_at hl 0 rfl) ?_
  refine va_get (D := (dC, dI)) (ci := 11) (v := .ref ra) (C := RX11) (T := TX11) (N := 7) hx hb hts (fun _ h => List.mem_cons_of_mem _ (List.mem_append_right _ h)) hown hK hP 0 rfl rfl 6 (by decide) (hts (.fieldLink RX11 37 "HoldsOnceDenied" "shelvedRows" "[LHoldsOnceDenied$Row;") (by decide +kernel)) (fun _ h9 => h9) rfl dX11_rowAt_6 ?_
  refine va_alen (v := nI 8) hx hb hK hP 1 2 rfl rfl rfl dX11_rowAt_9 ?_
  refine ho_icmp_ge (tgt := 22) hx hb dX11_rowAt_10 (by decide) (by omega) (by omega) (fun c_10 => ?_) (fun c_10 => ?_)
  · exfalso; omega
  refine lv_aload_n hx hb dX11_rowAt_13 rfl (lv_at hl 0 rfl) ?_
  refine va_get (D := (dC, dI)) (ci := 11) (v := .ref ra) (C := RX11) (T := TX11) (N := 7) hx hb hts (fun _ h => List.mem_cons_of_mem _ (List.mem_append_right _ h)) hown hK hP 0 rfl rfl 6 (by decide) (hts (.fieldLink RX11 37 "HoldsOnceDenied" "shelvedRows" "[LHoldsOnceDenied$Row;") (by decide +kernel)) (fun _ h9 => h9) rfl dX11_rowAt_14 ?_
  refine lv_iload_n hx hb dX11_rowAt_17 rfl (lv_at hl 1 rfl) ?_
  refine ho_aald hx hb hK hP 1 2 rfl rfl (by omega) (by decide) dX11_rowAt_18 ?_
  refine lv_goto (tgt := 23) hx hb dX11_rowAt_19 (by decide) ?_
  exact W.aret hx hb hr (Or.inl ⟨_, rfl⟩) (va_rf_or _) (fun T9 hT9 hW9 => ⟨(rm i), rfl, rfl, hT9⟩) (fun q h => by cases h) dX11_rowAt_23
set_option maxHeartbeats 4000000 in
set_option maxRecDepth 100000 in
theorem c_X11_rowAt_f (l : Launch) (dC : Nat → ClassId) (dI : Nat → Nat → Nat) (cI cD cR : ClassId) (x sN sM sP : Nat) (pt : Bool) (fo da ra : Nat) (rm : Nat → Option Nat) (i : Int32) (hb9 : okI i 8 = false) : Met l yX11_rowAt wsX11_rowAt ({ frames := 0, cells := 0, slots := 0, locals := 0 }) (pcR dC dI cI cD cR [.ref x, .int i] (fun H => va_P (dC, dI) vwCl ([(x, .inr (11, [.ref sN, .ref sM, .ref sP, .int (bI pt), .ref fo, .ref da, .ref ra]))] ++ [(ra, .inl (cR, 8, .inr (.inr (.inr (.inr rm)))))]) H)) (va_Sq (fun r => r = none)) 0 0 (fun _ => False) := by
  refine Met.ofW (cc := cX11_rowAt) (maxL := 2) (ret := (some (.object "HoldsOnceDenied$Row"))) (by decide) rfl ?_
  intro p e s m args below meth c s₁ B hml hv
  obtain ⟨rfl, hH0, hCX⟩ := hv
  have hx := B.exec
  have hb := B.bytes
  have hr := B.returns
  have hts := atoms_spec (ws := wsX11_rowAt) B.pre
  have hown : s.vm.findClass RX11 = some m.cls := findClass_of_methodNamed B.named
  have hlocks := B.notSynchronized
  have hK := hCX.1
  have hP := hH0
  have hl := lv_entry ([.ref x, .int i]) (n := 2) (Nat.le_of_ble_eq_true rfl)
  rw [lg_entry_eq]
  generalize (lg_sl ([.ref x, .int i]) ++ List.replicate (2 - (lg_sl ([.ref x, .int i])).length) Slot.unset).toArray = ls at hl ⊢
  have hl : lv_has ls 2 [(0, .ref x), (1, .int i)] := hl
  refine lv_iload_n hx hb dX11_rowAt_0 rfl (lv_at hl 1 rfl) ?_
  refine lv_if_lt (tgt := 22) hx hb dX11_rowAt_1 (by decide) (fun c_1 => ?_) (fun c_1 => ?_)
  · refine lv_null hx hb dX11_rowAt_22 ?_
    exact W.aret hx hb hr (Or.inl ⟨_, rfl⟩) (Or.inl rfl) (fun T9 hT9 hW9 => ⟨none, rfl, (by rfl), hT9⟩) (fun q h => by cases h) dX11_rowAt_23
  refine lv_iload_n hx hb dX11_rowAt_4 rfl (lv_at hl 1 rfl) ?_
  refine lv_aload_n hx hb dX11_rowAt_5 rfl (lv_at hl 0 rfl) ?_
  refine va_get (D := (dC, dI)) (ci := 11) (v := .ref ra) (C := RX11) (T := TX11) (N := 7) hx hb hts (fun _ h => List.mem_cons_of_mem _ (List.mem_append_right _ h)) hown hK hP 0 rfl rfl 6 (by decide) (hts (.fieldLink RX11 37 "HoldsOnceDenied" "shelvedRows" "[LHoldsOnceDenied$Row;") (by decide +kernel)) (fun _ h9 => h9) rfl dX11_rowAt_6 ?_
  refine va_alen (v := nI 8) hx hb hK hP 1 2 rfl rfl rfl dX11_rowAt_9 ?_
  refine lv_icmp_ge (tgt := 22) hx hb dX11_rowAt_10 (by decide) (fun c_10 => ?_) (fun c_10 => ?_)
  · refine lv_null hx hb dX11_rowAt_22 ?_
    exact W.aret hx hb hr (Or.inl ⟨_, rfl⟩) (Or.inl rfl) (fun T9 hT9 hW9 => ⟨none, rfl, (by rfl), hT9⟩) (fun q h => by cases h) dX11_rowAt_23
  exact absurd (okI_of c_1 (Int32.not_le.mp c_10)) (by rw [hb9]; decide)
set_option maxHeartbeats 4000000 in
set_option maxRecDepth 100000 in
theorem c_X11_denierAt_t (l : Launch) (dC : Nat → ClassId) (dI : Nat → Nat → Nat) (cI cD cR : ClassId) (x sN sM sP : Nat) (pt : Bool) (fo da ra : Nat) (dm : Nat → Option Nat) (i : Nat) (hi : i < 8) : Met l yX11_denierAt wsX11_denierAt ({ frames := 0, cells := 0, slots := 0, locals := 0 }) (pcR dC dI cI cD cR [.ref x, .int (nI i)] (fun H => va_P (dC, dI) vwCl ([(x, .inr (11, [.ref sN, .ref sM, .ref sP, .int (bI pt), .ref fo, .ref da, .ref ra]))] ++ [(da, .inl (cD, 8, .inr (.inr (.inr (.inr dm)))))]) H)) (va_Sq (fun r => r = dm i)) 0 0 (fun _ => False) := by
  refine Met.ofW (cc := cX11_denierAt) (maxL := 2) (ret := (some (.object "HoldsOnceDenied$Denier"))) (by decide) rfl ?_
  intro p e s m args below meth c s₁ B hml hv
  obtain ⟨rfl, hH0, hCX⟩ := hv
  have hx := B.exec
  have hb := B.bytes
  have hr := B.returns
  have hts := atoms_spec (ws := wsX11_denierAt) B.pre
  have hown : s.vm.findClass RX11 = some m.cls := findClass_of_methodNamed B.named
  have hlocks := B.notSynchronized
  have hK := hCX.1
  have hP := hH0
  have hl := lv_entry ([.ref x, .int (nI i)]) (n := 2) (Nat.le_of_ble_eq_true rfl)
  rw [lg_entry_eq]
  generalize (lg_sl ([.ref x, .int (nI i)]) ++ List.replicate (2 - (lg_sl ([.ref x, .int (nI i)])).length) Slot.unset).toArray = ls at hl ⊢
  have hl : lv_has ls 2 [(0, .ref x), (1, .int (nI i))] := hl
  refine lv_iload_n hx hb dX11_denierAt_0 rfl (lv_at hl 1 rfl) ?_
  refine ho_if_lt0 hx hb dX11_denierAt_1 (tgt := 22) (by decide) (by omega) ?_
  refine lv_iload_n hx hb dX11_denierAt_4 rfl (lv_at hl 1 rfl) ?_
  refine lv_aload_n hx hb dX11_denierAt_5 rfl (lv_at hl 0 rfl) ?_
  refine va_get (D := (dC, dI)) (ci := 11) (v := .ref da) (C := RX11) (T := TX11) (N := 7) hx hb hts (fun _ h => List.mem_cons_of_mem _ (List.mem_append_right _ h)) hown hK hP 0 rfl rfl 5 (by decide) (hts (.fieldLink RX11 31 "HoldsOnceDenied" "shelvedDeniers" "[LHoldsOnceDenied$Denier;") (by decide +kernel)) (fun _ h9 => h9) rfl dX11_denierAt_6 ?_
  refine va_alen (v := nI 8) hx hb hK hP 1 1 rfl rfl rfl dX11_denierAt_9 ?_
  refine ho_icmp_ge (tgt := 22) hx hb dX11_denierAt_10 (by decide) (by omega) (by omega) (fun c_10 => ?_) (fun c_10 => ?_)
  · exfalso; omega
  refine lv_aload_n hx hb dX11_denierAt_13 rfl (lv_at hl 0 rfl) ?_
  refine va_get (D := (dC, dI)) (ci := 11) (v := .ref da) (C := RX11) (T := TX11) (N := 7) hx hb hts (fun _ h => List.mem_cons_of_mem _ (List.mem_append_right _ h)) hown hK hP 0 rfl rfl 5 (by decide) (hts (.fieldLink RX11 31 "HoldsOnceDenied" "shelvedDeniers" "[LHoldsOnceDenied$Denier;") (by decide +kernel)) (fun _ h9 => h9) rfl dX11_denierAt_14 ?_
  refine lv_iload_n hx hb dX11_denierAt_17 rfl (lv_at hl 1 rfl) ?_
  refine ho_aald hx hb hK hP 1 1 rfl rfl (by omega) (by decide) dX11_denierAt_18 ?_
  refine lv_goto (tgt := 23) hx hb dX11_denierAt_19 (by decide) ?_
  exact W.aret hx hb hr (Or.inl ⟨_, rfl⟩) (va_rf_or _) (fun T9 hT9 hW9 => ⟨(dm i), rfl, rfl, hT9⟩) (fun q h => by cases h) dX11_denierAt_23
set_option maxHeartbeats 4000000 in
set_option maxRecDepth 100000 in
theorem c_X11_denierAt_f (l : Launch) (dC : Nat → ClassId) (dI : Nat → Nat → Nat) (cI cD cR : ClassId) (x sN sM sP : Nat) (pt : Bool) (fo da ra : Nat) (dm : Nat → Option Nat) (i : Int32) (hb9 : okI i 8 = false) : Met l yX11_denierAt wsX11_denierAt ({ frames := 0, cells := 0, slots := 0, locals := 0 }) (pcR dC dI cI cD cR [.ref x, .int i] (fun H => va_P (dC, dI) vwCl ([(x, .inr (11, [.ref sN, .ref sM, .ref sP, .int (bI pt), .ref fo, .ref da, .ref ra]))] ++ [(da, .inl (cD, 8, .inr (.inr (.inr (.inr dm)))))]) H)) (va_Sq (fun r => r = none)) 0 0 (fun _ => False) := by
  refine Met.ofW (cc := cX11_denierAt) (maxL := 2) (ret := (some (.object "HoldsOnceDenied$Denier"))) (by decide) rfl ?_
  intro p e s m args below meth c s₁ B hml hv
  obtain ⟨rfl, hH0, hCX⟩ := hv
  have hx := B.exec
  have hb := B.bytes
  have hr := B.returns
  have hts := atoms_spec (ws := wsX11_denierAt) B.pre
  have hown : s.vm.findClass RX11 = some m.cls := findClass_of_methodNamed B.named
  have hlocks := B.notSynchronized
  have hK := hCX.1
  have hP := hH0
  have hl := lv_entry ([.ref x, .int i]) (n := 2) (Nat.le_of_ble_eq_true rfl)
  rw [lg_entry_eq]
  generalize (lg_sl ([.ref x, .int i]) ++ List.replicate (2 - (lg_sl ([.ref x, .int i])).length) Slot.unset).toArray = ls at hl ⊢
  have hl : lv_has ls 2 [(0, .ref x), (1, .int i)] := hl
  refine lv_iload_n hx hb dX11_denierAt_0 rfl (lv_at hl 1 rfl) ?_
  refine lv_if_lt (tgt := 22) hx hb dX11_denierAt_1 (by decide) (fun c_1 => ?_) (fun c_1 => ?_)
  · refine lv_null hx hb dX11_denierAt_22 ?_
    exact W.aret hx hb hr (Or.inl ⟨_, rfl⟩) (Or.inl rfl) (fun T9 hT9 hW9 => ⟨none, rfl, (by rfl), hT9⟩) (fun q h => by cases h) dX11_denierAt_23
  refine lv_iload_n hx hb dX11_denierAt_4 rfl (lv_at hl 1 rfl) ?_
  refine lv_aload_n hx hb dX11_denierAt_5 rfl (lv_at hl 0 rfl) ?_
  refine va_get (D := (dC, dI)) (ci := 11) (v := .ref da) (C := RX11) (T := TX11) (N := 7) hx hb hts (fun _ h => List.mem_cons_of_mem _ (List.mem_append_right _ h)) hown hK hP 0 rfl rfl 5 (by decide) (hts (.fieldLink RX11 31 "HoldsOnceDenied" "shelvedDeniers" "[LHoldsOnceDenied$Denier;") (by decide +kernel)) (fun _ h9 => h9) rfl dX11_denierAt_6 ?_
  refine va_alen (v := nI 8) hx hb hK hP 1 1 rfl rfl rfl dX11_denierAt_9 ?_
  refine lv_icmp_ge (tgt := 22) hx hb dX11_denierAt_10 (by decide) (fun c_10 => ?_) (fun c_10 => ?_)
  · refine lv_null hx hb dX11_denierAt_22 ?_
    exact W.aret hx hb hr (Or.inl ⟨_, rfl⟩) (Or.inl rfl) (fun T9 hT9 hW9 => ⟨none, rfl, (by rfl), hT9⟩) (fun q h => by cases h) dX11_denierAt_23
  exact absurd (okI_of c_1 (Int32.not_le.mp c_10)) (by rw [hb9]; decide)
set_option maxHeartbeats 4000000 in
set_option maxRecDepth 100000 in
theorem c_X11_isEmpty (l : Launch) (dC : Nat → ClassId) (dI : Nat → Nat → Nat) (cI cD cR : ClassId) (x sN sM sP : Nat) (pt : Bool) (fo da ra : Nat) (dm : Nat → Option Nat) (rm : Nat → Option Nat) (i : Nat) (hi : i < 8) : Met l yX11_isEmpty wsX11_isEmpty ({ frames := 1, cells := 0, slots := 0, locals := 21 }) (pcR dC dI cI cD cR [.ref x, .int (nI i)] (fun H => va_P (dC, dI) vwCl ([(x, .inr (11, [.ref sN, .ref sM, .ref sP, .int (bI pt), .ref fo, .ref da, .ref ra]))] ++ [(da, .inl (cD, 8, .inr (.inr (.inr (.inr dm)))))] ++ [(ra, .inl (cR, 8, .inr (.inr (.inr (.inr rm)))))]) H)) (vp_Si (fun r => r = bI ((rm i).isNone && (dm i).isNone))) 0 0 (fun _ => False) := by
  refine Met.ofW (cc := cX11_isEmpty) (maxL := 2) (ret := (some .boolean)) (by decide) rfl ?_
  intro p e s m args below meth c s₁ B hml hv
  obtain ⟨rfl, hH0, hCX⟩ := hv
  have hx := B.exec
  have hb := B.bytes
  have hr := B.returns
  have hts := atoms_spec (ws := wsX11_isEmpty) B.pre
  have hown : s.vm.findClass RX11 = some m.cls := findClass_of_methodNamed B.named
  have hlocks := B.notSynchronized
  have hK := hCX.1
  have hP := hH0
  have hl := lv_entry ([.ref x, .int (nI i)]) (n := 2) (Nat.le_of_ble_eq_true rfl)
  rw [lg_entry_eq]
  generalize (lg_sl ([.ref x, .int (nI i)]) ++ List.replicate (2 - (lg_sl ([.ref x, .int (nI i)])).length) Slot.unset).toArray = ls at hl ⊢
  have hl : lv_has ls 2 [(0, .ref x), (1, .int (nI i))] := hl
  refine lv_aload_n hx hb dX11_isEmpty_0 rfl (lv_at hl 0 rfl) ?_
  refine lv_iload_n hx hb dX11_isEmpty_1 rfl (lv_at hl 1 rfl) ?_
  refine va_csq ((va_runV (As := [.int (nI i)]) (rest := []) ⟨hx, hb, hml, hown, hts⟩ (c_X11_rowAt_t l dC dI cI cD cR x sN sM sP pt fo da ra rm i (by first | omega | assumption | exact gnd _ | exact gkn _ | exact Nat.lt_trans (gkn _) (by decide) | exact Nat.lt_trans (gnd _) (by decide) | exact Nat.lt_of_le_of_lt (pcN_le _) (by decide))) (cwV 1 hts gX11_isEmpty_X11_rowAt rfl rfl rfl (by decide +kernel) ⟨Nat.le_of_ble_eq_true rfl, Nat.le_of_ble_eq_true rfl⟩) (preV_R hCX (va_recv hK hP (ci := 11) (q0 := 0) rfl rfl) ((hP.sub (ws' := [(x, .inr (11, [.ref sN, .ref sM, .ref sP, .int (bI pt), .ref fo, .ref da, .ref ra]))] ++ [(ra, .inl (cR, 8, .inr (.inr (.inr (.inr rm)))))]) [0, 2] rfl))) rfl rfl hl.1 rfl (lv_room (Nat.le_of_ble_eq_true rfl)) dX11_isEmpty_2 ⟨Nat.le_of_ble_eq_true (by first | rfl | decide), Nat.le_of_ble_eq_true (by first | rfl | decide)⟩).run) (fun r_2 hr_2 => ?_)
  subst hr_2
  cases hv_2 : rm i with
  | none =>
    refine ho_topr (y := .null) rfl ?_
    refine lv_ifnonnullN hx hb dX11_isEmpty_5 ?_
    refine lv_aload_n hx hb dX11_isEmpty_8 rfl (lv_at hl 0 rfl) ?_
    refine lv_iload_n hx hb dX11_isEmpty_9 rfl (lv_at hl 1 rfl) ?_
    refine va_csq ((va_runV (As := [.int (nI i)]) (rest := []) ⟨hx, hb, hml, hown, hts⟩ (c_X11_denierAt_t l dC dI cI cD cR x sN sM sP pt fo da ra dm i (by first | omega | assumption | exact gnd _ | exact gkn _ | exact Nat.lt_trans (gkn _) (by decide) | exact Nat.lt_trans (gnd _) (by decide) | exact Nat.lt_of_le_of_lt (pcN_le _) (by decide))) (cwV 1 hts gX11_isEmpty_X11_denierAt rfl rfl rfl (by decide +kernel) ⟨Nat.le_of_ble_eq_true rfl, Nat.le_of_ble_eq_true rfl⟩) (preV_R hCX (va_recv hK hP (ci := 11) (q0 := 0) rfl rfl) ((hP.sub (ws' := [(x, .inr (11, [.ref sN, .ref sM, .ref sP, .int (bI pt), .ref fo, .ref da, .ref ra]))] ++ [(da, .inl (cD, 8, .inr (.inr (.inr (.inr dm)))))]) [0, 1] rfl))) rfl rfl hl.1 rfl (lv_room (Nat.le_of_ble_eq_true rfl)) dX11_isEmpty_10 ⟨Nat.le_of_ble_eq_true (by first | rfl | decide), Nat.le_of_ble_eq_true (by first | rfl | decide)⟩).run) (fun r_10 hr_10 => ?_)
    subst hr_10
    cases hv_10 : dm i with
    | none =>
      refine ho_topr (y := .null) rfl ?_
      refine lv_ifnonnullN hx hb dX11_isEmpty_13 ?_
      refine lv_iconst (v := nI 1) hx hb dX11_isEmpty_16 (by decide +kernel) ?_
      refine lv_goto (tgt := 21) hx hb dX11_isEmpty_17 (by decide) ?_
      exact W.zret (v := nI 1) hx hb hr rfl (fun T9 hT9 hW9 => ⟨_, rfl, (bI_t (by (simp [hv_2, hv_10]) <;> first | rfl | omega)), hT9⟩) (fun q h => by cases h) dX11_isEmpty_21
    | some a_10 =>
      refine ho_topr (y := .ref a_10) rfl ?_
      refine lv_ifnonnull (tgt := 20) hx hb dX11_isEmpty_13 (by decide) ?_
      refine lv_iconst (v := nI 0) hx hb dX11_isEmpty_20 (by decide +kernel) ?_
      exact W.zret (v := nI 0) hx hb hr rfl (fun T9 hT9 hW9 => ⟨_, rfl, (bI_f (by (simp [hv_2, hv_10]) <;> first | rfl | omega)), hT9⟩) (fun q h => by cases h) dX11_isEmpty_21
  | some a_2 =>
    refine ho_topr (y := .ref a_2) rfl ?_
    refine lv_ifnonnull (tgt := 20) hx hb dX11_isEmpty_5 (by decide) ?_
    refine lv_iconst (v := nI 0) hx hb dX11_isEmpty_20 (by decide +kernel) ?_
    exact W.zret (v := nI 0) hx hb hr rfl (fun T9 hT9 hW9 => ⟨_, rfl, (bI_f (by (simp [hv_2]) <;> first | rfl | omega)), hT9⟩) (fun q h => by cases h) dX11_isEmpty_21
set_option maxHeartbeats 4000000 in
set_option maxRecDepth 100000 in
theorem c_X11_whyMissing (l : Launch) (dC : Nat → ClassId) (dI : Nat → Nat → Nat) (cI cD cR : ClassId) (x sN sM sP : Nat) (pt : Bool) (fo da ra : Nat) (dm : Nat → Option Nat) (rm : Nat → Option Nat) (i : Int32)  : Met l yX11_whyMissing wsX11_whyMissing ({ frames := 2, cells := 0, slots := 0, locals := 42 }) (pcR dC dI cI cD cR [.ref x, .int i] (fun H => va_P (dC, dI) vwCl ([(x, .inr (11, [.ref sN, .ref sM, .ref sP, .int (bI pt), .ref fo, .ref da, .ref ra]))] ++ [(da, .inl (cD, 8, .inr (.inr (.inr (.inr dm)))))] ++ [(ra, .inl (cR, 8, .inr (.inr (.inr (.inr rm)))))]) H)) (vp_Si (fun r => r = (whyR dm rm i))) 0 0 (fun _ => False) := by
  refine Met.ofW (cc := cX11_whyMissing) (maxL := 2) (ret := (some .int)) (by decide) rfl ?_
  intro p e s m args below meth c s₁ B hml hv
  obtain ⟨rfl, hH0, hCX⟩ := hv
  have hx := B.exec
  have hb := B.bytes
  have hr := B.returns
  have hts := atoms_spec (ws := wsX11_whyMissing) B.pre
  have hown : s.vm.findClass RX11 = some m.cls := findClass_of_methodNamed B.named
  have hlocks := B.notSynchronized
  have hK := hCX.1
  have hP := hH0
  have hl := lv_entry ([.ref x, .int i]) (n := 2) (Nat.le_of_ble_eq_true rfl)
  rw [lg_entry_eq]
  generalize (lg_sl ([.ref x, .int i]) ++ List.replicate (2 - (lg_sl ([.ref x, .int i])).length) Slot.unset).toArray = ls at hl ⊢
  have hl : lv_has ls 2 [(0, .ref x), (1, .int i)] := hl
  rcases okI_or i (n := 8) (by omega) with hb_i | ⟨y, h_y, rfl⟩
  · refine lv_iload_n hx hb dX11_whyMissing_0 rfl (lv_at hl 1 rfl) ?_
    refine vp_callSi ((va_runS (As := [.int i]) (rest := []) ⟨hx, hb, hml, hown, hts⟩ (c_X11_isShelf_f l dC dI cI cD cR i (by first | omega | assumption | exact gnd _ | exact gkn _ | exact Nat.lt_trans (gkn _) (by decide) | exact Nat.lt_trans (gnd _) (by decide) | exact Nat.lt_of_le_of_lt (pcN_le _) (by decide))) (va_cwS 1 hts gX11_whyMissing_X11_isShelf rfl rfl rfl (by decide +kernel) ⟨Nat.le_of_ble_eq_true rfl, Nat.le_of_ble_eq_true rfl⟩) (preS_R hCX (trivial)) rfl rfl hl.1 rfl (lv_room (Nat.le_of_ble_eq_true rfl)) dX11_whyMissing_1 ⟨Nat.le_of_ble_eq_true (by first | rfl | decide), Nat.le_of_ble_eq_true (by first | rfl | decide)⟩).run) (fun r_1 hr_1 => ?_)
    subst hr_1
    refine lv_if_ne (tgt := 9) hx hb dX11_whyMissing_4 (by decide) (fun z => absurd z (by decide +kernel)) (fun _ => ?_)
    refine lv_iconst (v := (-1)) hx hb dX11_whyMissing_7 (by decide +kernel) ?_
    exact W.iret (v := (-1)) hx hb hr (fun T9 hT9 hW9 => ⟨_, rfl, (by (simp [whyR, on1, oN_f hb_i]) <;> first | rfl | omega), hT9⟩) (fun q h => by cases h) dX11_whyMissing_8
  refine lv_iload_n hx hb dX11_whyMissing_0 rfl (lv_at hl 1 rfl) ?_
  refine vp_callSi ((va_runS (As := [.int (nI y)]) (rest := []) ⟨hx, hb, hml, hown, hts⟩ (c_X11_isShelf_t l dC dI cI cD cR y (by first | omega | assumption | exact gnd _ | exact gkn _ | exact Nat.lt_trans (gkn _) (by decide) | exact Nat.lt_trans (gnd _) (by decide) | exact Nat.lt_of_le_of_lt (pcN_le _) (by decide))) (va_cwS 1 hts gX11_whyMissing_X11_isShelf rfl rfl rfl (by decide +kernel) ⟨Nat.le_of_ble_eq_true rfl, Nat.le_of_ble_eq_true rfl⟩) (preS_R hCX (trivial)) rfl rfl hl.1 rfl (lv_room (Nat.le_of_ble_eq_true rfl)) dX11_whyMissing_1 ⟨Nat.le_of_ble_eq_true (by first | rfl | decide), Nat.le_of_ble_eq_true (by first | rfl | decide)⟩).run) (fun r_1 hr_1 => ?_)
  subst hr_1
  refine lv_if_ne (tgt := 9) hx hb dX11_whyMissing_4 (by decide) (fun _ => ?_) (fun z => absurd z (by decide +kernel))
  refine lv_aload_n hx hb dX11_whyMissing_9 rfl (lv_at hl 0 rfl) ?_
  refine lv_iload_n hx hb dX11_whyMissing_10 rfl (lv_at hl 1 rfl) ?_
  refine vp_callSi ((va_runV (As := [.int (nI y)]) (rest := []) ⟨hx, hb, hml, hown, hts⟩ (c_X11_isEmpty l dC dI cI cD cR x sN sM sP pt fo da ra dm rm y (by first | omega | assumption | exact gnd _ | exact gkn _ | exact Nat.lt_trans (gkn _) (by decide) | exact Nat.lt_trans (gnd _) (by decide) | exact Nat.lt_of_le_of_lt (pcN_le _) (by decide))) (cwV 1 hts gX11_whyMissing_X11_isEmpty rfl rfl rfl (by decide +kernel) ⟨Nat.le_of_ble_eq_true rfl, Nat.le_of_ble_eq_true rfl⟩) (preV_R hCX (va_recv hK hP (ci := 11) (q0 := 0) rfl rfl) (hP)) rfl rfl hl.1 rfl (lv_room (Nat.le_of_ble_eq_true rfl)) dX11_whyMissing_11 ⟨Nat.le_of_ble_eq_true (by first | rfl | decide), Nat.le_of_ble_eq_true (by first | rfl | decide)⟩).run) (fun r_11 hr_11 => ?_)
  subst hr_11
  refine ho_beq (tgt := 22) hx hb dX11_whyMissing_14 (by decide) (fun c_14 => ?_) (fun c_14 => ?_)
  · refine lv_bipush (v := (-12)) hx hb dX11_whyMissing_22 (by decide +kernel) ?_
    exact W.iret (v := (-12)) hx hb hr (fun T9 hT9 hW9 => ⟨_, rfl, (by (simp [whyR, on1, c_14, oN_t h_y]) <;> first | rfl | omega), hT9⟩) (fun q h => by cases h) dX11_whyMissing_24
  refine lv_bipush (v := (-11)) hx hb dX11_whyMissing_17 (by decide +kernel) ?_
  refine lv_goto (tgt := 24) hx hb dX11_whyMissing_19 (by decide) ?_
  exact W.iret (v := (-11)) hx hb hr (fun T9 hT9 hW9 => ⟨_, rfl, (by (simp [whyR, on1, c_14, oN_t h_y]) <;> first | rfl | omega), hT9⟩) (fun q h => by cases h) dX11_whyMissing_24
set_option maxHeartbeats 4000000 in
set_option maxRecDepth 100000 in
theorem c_X11_whyMissing_n (l : Launch) (dC : Nat → ClassId) (dI : Nat → Nat → Nat) (cI cD cR : ClassId) (x sN sM sP : Nat) (pt : Bool) (fo da ra : Nat) (dm : Nat → Option Nat) (rm : Nat → Option Nat) (i : Nat) (hi : i < 8) : Met l yX11_whyMissing wsX11_whyMissing ({ frames := 2, cells := 0, slots := 0, locals := 42 }) (pcR dC dI cI cD cR [.ref x, .int (nI i)] (fun H => va_P (dC, dI) vwCl ([(x, .inr (11, [.ref sN, .ref sM, .ref sP, .int (bI pt), .ref fo, .ref da, .ref ra]))] ++ [(da, .inl (cD, 8, .inr (.inr (.inr (.inr dm)))))] ++ [(ra, .inl (cR, 8, .inr (.inr (.inr (.inr rm)))))]) H)) (vp_Si (fun r => r = (bif (rm i).isNone && (dm i).isNone then -11 else -12))) 0 0 (fun _ => False) := by
  refine Met.ofW (cc := cX11_whyMissing) (maxL := 2) (ret := (some .int)) (by decide) rfl ?_
  intro p e s m args below meth c s₁ B hml hv
  obtain ⟨rfl, hH0, hCX⟩ := hv
  have hx := B.exec
  have hb := B.bytes
  have hr := B.returns
  have hts := atoms_spec (ws := wsX11_whyMissing) B.pre
  have hown : s.vm.findClass RX11 = some m.cls := findClass_of_methodNamed B.named
  have hlocks := B.notSynchronized
  have hK := hCX.1
  have hP := hH0
  have hl := lv_entry ([.ref x, .int (nI i)]) (n := 2) (Nat.le_of_ble_eq_true rfl)
  rw [lg_entry_eq]
  generalize (lg_sl ([.ref x, .int (nI i)]) ++ List.replicate (2 - (lg_sl ([.ref x, .int (nI i)])).length) Slot.unset).toArray = ls at hl ⊢
  have hl : lv_has ls 2 [(0, .ref x), (1, .int (nI i))] := hl
  refine lv_iload_n hx hb dX11_whyMissing_0 rfl (lv_at hl 1 rfl) ?_
  refine vp_callSi ((va_runS (As := [.int (nI i)]) (rest := []) ⟨hx, hb, hml, hown, hts⟩ (c_X11_isShelf_t l dC dI cI cD cR i (by first | omega | assumption | exact gnd _ | exact gkn _ | exact Nat.lt_trans (gkn _) (by decide) | exact Nat.lt_trans (gnd _) (by decide) | exact Nat.lt_of_le_of_lt (pcN_le _) (by decide))) (va_cwS 1 hts gX11_whyMissing_X11_isShelf rfl rfl rfl (by decide +kernel) ⟨Nat.le_of_ble_eq_true rfl, Nat.le_of_ble_eq_true rfl⟩) (preS_R hCX (trivial)) rfl rfl hl.1 rfl (lv_room (Nat.le_of_ble_eq_true rfl)) dX11_whyMissing_1 ⟨Nat.le_of_ble_eq_true (by first | rfl | decide), Nat.le_of_ble_eq_true (by first | rfl | decide)⟩).run) (fun r_1 hr_1 => ?_)
  subst hr_1
  refine lv_if_ne (tgt := 9) hx hb dX11_whyMissing_4 (by decide) (fun _ => ?_) (fun z => absurd z (by decide +kernel))
  refine lv_aload_n hx hb dX11_whyMissing_9 rfl (lv_at hl 0 rfl) ?_
  refine lv_iload_n hx hb dX11_whyMissing_10 rfl (lv_at hl 1 rfl) ?_
  refine vp_callSi ((va_runV (As := [.int (nI i)]) (rest := []) ⟨hx, hb, hml, hown, hts⟩ (c_X11_isEmpty l dC dI cI cD cR x sN sM sP pt fo da ra dm rm i (by first | omega | assumption | exact gnd _ | exact gkn _ | exact Nat.lt_trans (gkn _) (by decide) | exact Nat.lt_trans (gnd _) (by decide) | exact Nat.lt_of_le_of_lt (pcN_le _) (by decide))) (cwV 1 hts gX11_whyMissing_X11_isEmpty rfl rfl rfl (by decide +kernel) ⟨Nat.le_of_ble_eq_true rfl, Nat.le_of_ble_eq_true rfl⟩) (preV_R hCX (va_recv hK hP (ci := 11) (q0 := 0) rfl rfl) (hP)) rfl rfl hl.1 rfl (lv_room (Nat.le_of_ble_eq_true rfl)) dX11_whyMissing_11 ⟨Nat.le_of_ble_eq_true (by first | rfl | decide), Nat.le_of_ble_eq_true (by first | rfl | decide)⟩).run) (fun r_11 hr_11 => ?_)
  subst hr_11
  refine ho_beq (tgt := 22) hx hb dX11_whyMissing_14 (by decide) (fun c_14 => ?_) (fun c_14 => ?_)
  · refine lv_bipush (v := (-12)) hx hb dX11_whyMissing_22 (by decide +kernel) ?_
    exact W.iret (v := (-12)) hx hb hr (fun T9 hT9 hW9 => ⟨_, rfl, (by (simp [c_14]) <;> first | rfl | omega), hT9⟩) (fun q h => by cases h) dX11_whyMissing_24
  refine lv_bipush (v := (-11)) hx hb dX11_whyMissing_17 (by decide +kernel) ?_
  refine lv_goto (tgt := 24) hx hb dX11_whyMissing_19 (by decide) ?_
  exact W.iret (v := (-11)) hx hb hr (fun T9 hT9 hW9 => ⟨_, rfl, (by (simp [c_14]) <;> first | rfl | omega), hT9⟩) (fun q h => by cases h) dX11_whyMissing_24
set_option maxHeartbeats 4000000 in
set_option maxRecDepth 100000 in
theorem c_X11_isPair_f1 (l : Launch) (dC : Nat → ClassId) (dI : Nat → Nat → Nat) (cI cD cR : ClassId) (x sN sM sP : Nat) (pt : Bool) (fo da ra : Nat) (n1 n2 n3 n4 n5 : Nat) (n d t al day : Nat) (nd : Nat → Nat) (mk si : Nat → Int32) (kn : Nat → Nat) (mb : Nat → Option Nat) (i j : Int32) (hn : n ≤ 9) (hd : d ≤ 6) (ht : t < 512) (hal : al < 64) (hday : day < 2 ^ 30) (gnd : ∀ i, nd i < 512) (gkn : ∀ j, kn j < 512) (hb9 : okI i d = false) : Met l yX11_isPair wsX11_isPair ({ frames := 1, cells := 0, slots := 0, locals := 21 }) (pcR dC dI cI cD cR [.ref x, .int i, .int j] (fun H => va_P (dC, dI) vwCl ([(x, .inr (11, [.ref sN, .ref sM, .ref sP, .int (bI pt), .ref fo, .ref da, .ref ra]))] ++ (schW cI cD sN n1 n2 n3 n4 n5 n d t al day nd mk si kn mb)) H)) (vp_Si (fun r => r = bI false)) 0 0 (fun _ => False) := by
  refine Met.ofW (cc := cX11_isPair) (maxL := 3) (ret := (some .boolean)) (by decide) rfl ?_
  intro p e s m args below meth c s₁ B hml hv
  obtain ⟨rfl, hH0, hCX⟩ := hv
  have hx := B.exec
  have hb := B.bytes
  have hr := B.returns
  have hts := atoms_spec (ws := wsX11_isPair) B.pre
  have hown : s.vm.findClass RX11 = some m.cls := findClass_of_methodNamed B.named
  have hlocks := B.notSynchronized
  have hK := hCX.1
  have hP := hH0
  have hl := lv_entry ([.ref x, .int i, .int j]) (n := 3) (Nat.le_of_ble_eq_true rfl)
  rw [lg_entry_eq]
  generalize (lg_sl ([.ref x, .int i, .int j]) ++ List.replicate (3 - (lg_sl ([.ref x, .int i, .int j])).length) Slot.unset).toArray = ls at hl ⊢
  have hl : lv_has ls 3 [(0, .ref x), (1, .int i), (2, .int j)] := hl
  refine lv_aload_n hx hb dX11_isPair_0 rfl (lv_at hl 0 rfl) ?_
  refine va_get (D := (dC, dI)) (ci := 11) (v := .ref sN) (C := RX11) (T := TX11) (N := 7) hx hb hts (fun _ h => List.mem_cons_of_mem _ (List.mem_append_left _ (List.mem_append_right _ h))) hown hK hP 0 rfl rfl 0 (by decide) (hts (.fieldLink RX11 10 "HoldsOnceDenied" "now" "LHoldsOnceDenied$School;") (by decide +kernel)) (fun _ h9 => h9) rfl dX11_isPair_1 ?_
  refine lv_iload_n hx hb dX11_isPair_4 rfl (lv_at hl 1 rfl) ?_
  refine vp_callSi ((va_runV (As := [.int i]) (rest := []) ⟨hx, hb, hml, hown, hts⟩ (c_X9_hasDenier_f l dC dI cI cD cR sN n1 n2 n3 n4 n5 n d t al day nd mk si kn mb i (by first | omega | assumption | exact gnd _ | exact gkn _ | exact Nat.lt_trans (gkn _) (by decide) | exact Nat.lt_trans (gnd _) (by decide) | exact Nat.lt_of_le_of_lt (pcN_le _) (by decide)) (by first | omega | assumption | exact gnd _ | exact gkn _ | exact Nat.lt_trans (gkn _) (by decide) | exact Nat.lt_trans (gnd _) (by decide) | exact Nat.lt_of_le_of_lt (pcN_le _) (by decide)) (by first | omega | assumption | exact gnd _ | exact gkn _ | exact Nat.lt_trans (gkn _) (by decide) | exact Nat.lt_trans (gnd _) (by decide) | exact Nat.lt_of_le_of_lt (pcN_le _) (by decide)) (by first | omega | assumption | exact gnd _ | exact gkn _ | exact Nat.lt_trans (gkn _) (by decide) | exact Nat.lt_trans (gnd _) (by decide) | exact Nat.lt_of_le_of_lt (pcN_le _) (by decide)) (by first | omega | assumption | exact gnd _ | exact gkn _ | exact Nat.lt_trans (gkn _) (by decide) | exact Nat.lt_trans (gnd _) (by decide) | exact Nat.lt_of_le_of_lt (pcN_le _) (by decide)) gnd gkn (by first | omega | assumption | exact gnd _ | exact gkn _ | exact Nat.lt_trans (gkn _) (by decide) | exact Nat.lt_trans (gnd _) (by decide) | exact Nat.lt_of_le_of_lt (pcN_le _) (by decide))) (cwV 1 hts gX11_isPair_X9_hasDenier rfl rfl rfl (by decide +kernel) ⟨Nat.le_of_ble_eq_true rfl, Nat.le_of_ble_eq_true rfl⟩) (preV_R hCX (va_recv hK hP (ci := 9) (q0 := 1) rfl rfl) ((hP.sub (ws' := (schW cI cD sN n1 n2 n3 n4 n5 n d t al day nd mk si kn mb)) [1, 2, 3, 4, 5, 6] rfl))) rfl rfl hl.1 rfl (lv_room (Nat.le_of_ble_eq_true rfl)) dX11_isPair_5 ⟨Nat.le_of_ble_eq_true (by first | rfl | decide), Nat.le_of_ble_eq_true (by first | rfl | decide)⟩).run) (fun r_5 hr_5 => ?_)
  subst hr_5
  refine lv_if_eq (tgt := 26) hx hb dX11_isPair_8 (by decide) (fun _ => ?_) (fun z => absurd z (by decide +kernel))
  refine lv_iconst (v := nI 0) hx hb dX11_isPair_26 (by decide +kernel) ?_
  exact W.zret (v := nI 0) hx hb hr rfl (fun T9 hT9 hW9 => ⟨_, rfl, (bI_f (by rfl)), hT9⟩) (fun q h => by cases h) dX11_isPair_27
set_option maxHeartbeats 4000000 in
set_option maxRecDepth 100000 in
theorem c_X11_isPair_f2 (l : Launch) (dC : Nat → ClassId) (dI : Nat → Nat → Nat) (cI cD cR : ClassId) (x sN sM sP : Nat) (pt : Bool) (fo da ra : Nat) (n1 n2 n3 n4 n5 : Nat) (n d t al day : Nat) (nd : Nat → Nat) (mk si : Nat → Int32) (kn : Nat → Nat) (mb : Nat → Option Nat) (i : Nat) (j : Int32) (hn : n ≤ 9) (hd : d ≤ 6) (ht : t < 512) (hal : al < 64) (hday : day < 2 ^ 30) (gnd : ∀ i, nd i < 512) (gkn : ∀ j, kn j < 512) (hi : i < d) (hb9 : okI j n = false) : Met l yX11_isPair wsX11_isPair ({ frames := 1, cells := 0, slots := 0, locals := 21 }) (pcR dC dI cI cD cR [.ref x, .int (nI i), .int j] (fun H => va_P (dC, dI) vwCl ([(x, .inr (11, [.ref sN, .ref sM, .ref sP, .int (bI pt), .ref fo, .ref da, .ref ra]))] ++ (schW cI cD sN n1 n2 n3 n4 n5 n d t al day nd mk si kn mb)) H)) (vp_Si (fun r => r = bI false)) 0 0 (fun _ => False) := by
  refine Met.ofW (cc := cX11_isPair) (maxL := 3) (ret := (some .boolean)) (by decide) rfl ?_
  intro p e s m args below meth c s₁ B hml hv
  obtain ⟨rfl, hH0, hCX⟩ := hv
  have hx := B.exec
  have hb := B.bytes
  have hr := B.returns
  have hts := atoms_spec (ws := wsX11_isPair) B.pre
  have hown : s.vm.findClass RX11 = some m.cls := findClass_of_methodNamed B.named
  have hlocks := B.notSynchronized
  have hK := hCX.1
  have hP := hH0
  have hl := lv_entry ([.ref x, .int (nI i), .int j]) (n := 3) (Nat.le_of_ble_eq_true rfl)
  rw [lg_entry_eq]
  generalize (lg_sl ([.ref x, .int (nI i), .int j]) ++ List.replicate (3 - (lg_sl ([.ref x, .int (nI i), .int j])).length) Slot.unset).toArray = ls at hl ⊢
  have hl : lv_has ls 3 [(0, .ref x), (1, .int (nI i)), (2, .int j)] := hl
  refine lv_aload_n hx hb dX11_isPair_0 rfl (lv_at hl 0 rfl) ?_
  refine va_get (D := (dC, dI)) (ci := 11) (v := .ref sN) (C := RX11) (T := TX11) (N := 7) hx hb hts (fun _ h => List.mem_cons_of_mem _ (List.mem_append_left _ (List.mem_append_right _ h))) hown hK hP 0 rfl rfl 0 (by decide) (hts (.fieldLink RX11 10 "HoldsOnceDenied" "now" "LHoldsOnceDenied$School;") (by decide +kernel)) (fun _ h9 => h9) rfl dX11_isPair_1 ?_
  refine lv_iload_n hx hb dX11_isPair_4 rfl (lv_at hl 1 rfl) ?_
  refine vp_callSi ((va_runV (As := [.int (nI i)]) (rest := []) ⟨hx, hb, hml, hown, hts⟩ (c_X9_hasDenier_t l dC dI cI cD cR sN n1 n2 n3 n4 n5 n d t al day nd mk si kn mb i (by first | omega | assumption | exact gnd _ | exact gkn _ | exact Nat.lt_trans (gkn _) (by decide) | exact Nat.lt_trans (gnd _) (by decide) | exact Nat.lt_of_le_of_lt (pcN_le _) (by decide)) (by first | omega | assumption | exact gnd _ | exact gkn _ | exact Nat.lt_trans (gkn _) (by decide) | exact Nat.lt_trans (gnd _) (by decide) | exact Nat.lt_of_le_of_lt (pcN_le _) (by decide)) (by first | omega | assumption | exact gnd _ | exact gkn _ | exact Nat.lt_trans (gkn _) (by decide) | exact Nat.lt_trans (gnd _) (by decide) | exact Nat.lt_of_le_of_lt (pcN_le _) (by decide)) (by first | omega | assumption | exact gnd _ | exact gkn _ | exact Nat.lt_trans (gkn _) (by decide) | exact Nat.lt_trans (gnd _) (by decide) | exact Nat.lt_of_le_of_lt (pcN_le _) (by decide)) (by first | omega | assumption | exact gnd _ | exact gkn _ | exact Nat.lt_trans (gkn _) (by decide) | exact Nat.lt_trans (gnd _) (by decide) | exact Nat.lt_of_le_of_lt (pcN_le _) (by decide)) gnd gkn (by first | omega | assumption | exact gnd _ | exact gkn _ | exact Nat.lt_trans (gkn _) (by decide) | exact Nat.lt_trans (gnd _) (by decide) | exact Nat.lt_of_le_of_lt (pcN_le _) (by decide))) (cwV 1 hts gX11_isPair_X9_hasDenier rfl rfl rfl (by decide +kernel) ⟨Nat.le_of_ble_eq_true rfl, Nat.le_of_ble_eq_true rfl⟩) (preV_R hCX (va_recv hK hP (ci := 9) (q0 := 1) rfl rfl) ((hP.sub (ws' := (schW cI cD sN n1 n2 n3 n4 n5 n d t al day nd mk si kn mb)) [1, 2, 3, 4, 5, 6] rfl))) rfl rfl hl.1 rfl (lv_room (Nat.le_of_ble_eq_true rfl)) dX11_isPair_5 ⟨Nat.le_of_ble_eq_true (by first | rfl | decide), Nat.le_of_ble_eq_true (by first | rfl | decide)⟩).run) (fun r_5 hr_5 => ?_)
  subst hr_5
  refine lv_if_eq (tgt := 26) hx hb dX11_isPair_8 (by decide) (fun z => absurd z (by decide +kernel)) (fun _ => ?_)
  refine lv_aload_n hx hb dX11_isPair_11 rfl (lv_at hl 0 rfl) ?_
  refine va_get (D := (dC, dI)) (ci := 11) (v := .ref sN) (C := RX11) (T := TX11) (N := 7) hx hb hts (fun _ h => List.mem_cons_of_mem _ (List.mem_append_left _ (List.mem_append_right _ h))) hown hK hP 0 rfl rfl 0 (by decide) (hts (.fieldLink RX11 10 "HoldsOnceDenied" "now" "LHoldsOnceDenied$School;") (by decide +kernel)) (fun _ h9 => h9) rfl dX11_isPair_12 ?_
  refine lv_iload_n hx hb dX11_isPair_15 rfl (lv_at hl 2 rfl) ?_
  refine vp_callSi ((va_runV (As := [.int j]) (rest := []) ⟨hx, hb, hml, hown, hts⟩ (c_X9_hasSentence_f l dC dI cI cD cR sN n1 n2 n3 n4 n5 n d t al day nd mk si kn mb j (by first | omega | assumption | exact gnd _ | exact gkn _ | exact Nat.lt_trans (gkn _) (by decide) | exact Nat.lt_trans (gnd _) (by decide) | exact Nat.lt_of_le_of_lt (pcN_le _) (by decide)) (by first | omega | assumption | exact gnd _ | exact gkn _ | exact Nat.lt_trans (gkn _) (by decide) | exact Nat.lt_trans (gnd _) (by decide) | exact Nat.lt_of_le_of_lt (pcN_le _) (by decide)) (by first | omega | assumption | exact gnd _ | exact gkn _ | exact Nat.lt_trans (gkn _) (by decide) | exact Nat.lt_trans (gnd _) (by decide) | exact Nat.lt_of_le_of_lt (pcN_le _) (by decide)) (by first | omega | assumption | exact gnd _ | exact gkn _ | exact Nat.lt_trans (gkn _) (by decide) | exact Nat.lt_trans (gnd _) (by decide) | exact Nat.lt_of_le_of_lt (pcN_le _) (by decide)) (by first | omega | assumption | exact gnd _ | exact gkn _ | exact Nat.lt_trans (gkn _) (by decide) | exact Nat.lt_trans (gnd _) (by decide) | exact Nat.lt_of_le_of_lt (pcN_le _) (by decide)) gnd gkn (by first | omega | assumption | exact gnd _ | exact gkn _ | exact Nat.lt_trans (gkn _) (by decide) | exact Nat.lt_trans (gnd _) (by decide) | exact Nat.lt_of_le_of_lt (pcN_le _) (by decide))) (cwV 1 hts gX11_isPair_X9_hasSentence rfl rfl rfl (by decide +kernel) ⟨Nat.le_of_ble_eq_true rfl, Nat.le_of_ble_eq_true rfl⟩) (preV_R hCX (va_recv hK hP (ci := 9) (q0 := 1) rfl rfl) ((hP.sub (ws' := (schW cI cD sN n1 n2 n3 n4 n5 n d t al day nd mk si kn mb)) [1, 2, 3, 4, 5, 6] rfl))) rfl rfl hl.1 rfl (lv_room (Nat.le_of_ble_eq_true rfl)) dX11_isPair_16 ⟨Nat.le_of_ble_eq_true (by first | rfl | decide), Nat.le_of_ble_eq_true (by first | rfl | decide)⟩).run) (fun r_16 hr_16 => ?_)
  subst hr_16
  refine lv_if_eq (tgt := 26) hx hb dX11_isPair_19 (by decide) (fun _ => ?_) (fun z => absurd z (by decide +kernel))
  refine lv_iconst (v := nI 0) hx hb dX11_isPair_26 (by decide +kernel) ?_
  exact W.zret (v := nI 0) hx hb hr rfl (fun T9 hT9 hW9 => ⟨_, rfl, (bI_f (by rfl)), hT9⟩) (fun q h => by cases h) dX11_isPair_27
set_option maxHeartbeats 4000000 in
set_option maxRecDepth 100000 in
theorem c_X11_isPair_t (l : Launch) (dC : Nat → ClassId) (dI : Nat → Nat → Nat) (cI cD cR : ClassId) (x sN sM sP : Nat) (pt : Bool) (fo da ra : Nat) (n1 n2 n3 n4 n5 : Nat) (n d t al day : Nat) (nd : Nat → Nat) (mk si : Nat → Int32) (kn : Nat → Nat) (mb : Nat → Option Nat) (i j : Nat) (hn : n ≤ 9) (hd : d ≤ 6) (ht : t < 512) (hal : al < 64) (hday : day < 2 ^ 30) (gnd : ∀ i, nd i < 512) (gkn : ∀ j, kn j < 512) (hi : i < d) (hj : j < n) : Met l yX11_isPair wsX11_isPair ({ frames := 1, cells := 0, slots := 0, locals := 21 }) (pcR dC dI cI cD cR [.ref x, .int (nI i), .int (nI j)] (fun H => va_P (dC, dI) vwCl ([(x, .inr (11, [.ref sN, .ref sM, .ref sP, .int (bI pt), .ref fo, .ref da, .ref ra]))] ++ (schW cI cD sN n1 n2 n3 n4 n5 n d t al day nd mk si kn mb)) H)) (vp_Si (fun r => r = bI true)) 0 0 (fun _ => False) := by
  refine Met.ofW (cc := cX11_isPair) (maxL := 3) (ret := (some .boolean)) (by decide) rfl ?_
  intro p e s m args below meth c s₁ B hml hv
  obtain ⟨rfl, hH0, hCX⟩ := hv
  have hx := B.exec
  have hb := B.bytes
  have hr := B.returns
  have hts := atoms_spec (ws := wsX11_isPair) B.pre
  have hown : s.vm.findClass RX11 = some m.cls := findClass_of_methodNamed B.named
  have hlocks := B.notSynchronized
  have hK := hCX.1
  have hP := hH0
  have hl := lv_entry ([.ref x, .int (nI i), .int (nI j)]) (n := 3) (Nat.le_of_ble_eq_true rfl)
  rw [lg_entry_eq]
  generalize (lg_sl ([.ref x, .int (nI i), .int (nI j)]) ++ List.replicate (3 - (lg_sl ([.ref x, .int (nI i), .int (nI j)])).length) Slot.unset).toArray = ls at hl ⊢
  have hl : lv_has ls 3 [(0, .ref x), (1, .int (nI i)), (2, .int (nI j))] := hl
  refine lv_aload_n hx hb dX11_isPair_0 rfl (lv_at hl 0 rfl) ?_
  refine va_get (D := (dC, dI)) (ci := 11) (v := .ref sN) (C := RX11) (T := TX11) (N := 7) hx hb hts (fun _ h => List.mem_cons_of_mem _ (List.mem_append_left _ (List.mem_append_right _ h))) hown hK hP 0 rfl rfl 0 (by decide) (hts (.fieldLink RX11 10 "HoldsOnceDenied" "now" "LHoldsOnceDenied$School;") (by decide +kernel)) (fun _ h9 => h9) rfl dX11_isPair_1 ?_
  refine lv_iload_n hx hb dX11_isPair_4 rfl (lv_at hl 1 rfl) ?_
  refine vp_callSi ((va_runV (As := [.int (nI i)]) (rest := []) ⟨hx, hb, hml, hown, hts⟩ (c_X9_hasDenier_t l dC dI cI cD cR sN n1 n2 n3 n4 n5 n d t al day nd mk si kn mb i (by first | omega | assumption | exact gnd _ | exact gkn _ | exact Nat.lt_trans (gkn _) (by decide) | exact Nat.lt_trans (gnd _) (by decide) | exact Nat.lt_of_le_of_lt (pcN_le _) (by decide)) (by first | omega | assumption | exact gnd _ | exact gkn _ | exact Nat.lt_trans (gkn _) (by decide) | exact Nat.lt_trans (gnd _) (by decide) | exact Nat.lt_of_le_of_lt (pcN_le _) (by decide)) (by first | omega | assumption | exact gnd _ | exact gkn _ | exact Nat.lt_trans (gkn _) (by decide) | exact Nat.lt_trans (gnd _) (by decide) | exact Nat.lt_of_le_of_lt (pcN_le _) (by decide)) (by first | omega | assumption | exact gnd _ | exact gkn _ | exact Nat.lt_trans (gkn _) (by decide) | exact Nat.lt_trans (gnd _) (by decide) | exact Nat.lt_of_le_of_lt (pcN_le _) (by decide)) (by first | omega | assumption | exact gnd _ | exact gkn _ | exact Nat.lt_trans (gkn _) (by decide) | exact Nat.lt_trans (gnd _) (by decide) | exact Nat.lt_of_le_of_lt (pcN_le _) (by decide)) gnd gkn (by first | omega | assumption | exact gnd _ | exact gkn _ | exact Nat.lt_trans (gkn _) (by decide) | exact Nat.lt_trans (gnd _) (by decide) | exact Nat.lt_of_le_of_lt (pcN_le _) (by decide))) (cwV 1 hts gX11_isPair_X9_hasDenier rfl rfl rfl (by decide +kernel) ⟨Nat.le_of_ble_eq_true rfl, Nat.le_of_ble_eq_true rfl⟩) (preV_R hCX (va_recv hK hP (ci := 9) (q0 := 1) rfl rfl) ((hP.sub (ws' := (schW cI cD sN n1 n2 n3 n4 n5 n d t al day nd mk si kn mb)) [1, 2, 3, 4, 5, 6] rfl))) rfl rfl hl.1 rfl (lv_room (Nat.le_of_ble_eq_true rfl)) dX11_isPair_5 ⟨Nat.le_of_ble_eq_true (by first | rfl | decide), Nat.le_of_ble_eq_true (by first | rfl | decide)⟩).run) (fun r_5 hr_5 => ?_)
  subst hr_5
  refine lv_if_eq (tgt := 26) hx hb dX11_isPair_8 (by decide) (fun z => absurd z (by decide +kernel)) (fun _ => ?_)
  refine lv_aload_n hx hb dX11_isPair_11 rfl (lv_at hl 0 rfl) ?_
  refine va_get (D := (dC, dI)) (ci := 11) (v := .ref sN) (C := RX11) (T := TX11) (N := 7) hx hb hts (fun _ h => List.mem_cons_of_mem _ (List.mem_append_left _ (List.mem_append_right _ h))) hown hK hP 0 rfl rfl 0 (by decide) (hts (.fieldLink RX11 10 "HoldsOnceDenied" "now" "LHoldsOnceDenied$School;") (by decide +kernel)) (fun _ h9 => h9) rfl dX11_isPair_12 ?_
  refine lv_iload_n hx hb dX11_isPair_15 rfl (lv_at hl 2 rfl) ?_
  refine vp_callSi ((va_runV (As := [.int (nI j)]) (rest := []) ⟨hx, hb, hml, hown, hts⟩ (c_X9_hasSentence_t l dC dI cI cD cR sN n1 n2 n3 n4 n5 n d t al day nd mk si kn mb j (by first | omega | assumption | exact gnd _ | exact gkn _ | exact Nat.lt_trans (gkn _) (by decide) | exact Nat.lt_trans (gnd _) (by decide) | exact Nat.lt_of_le_of_lt (pcN_le _) (by decide)) (by first | omega | assumption | exact gnd _ | exact gkn _ | exact Nat.lt_trans (gkn _) (by decide) | exact Nat.lt_trans (gnd _) (by decide) | exact Nat.lt_of_le_of_lt (pcN_le _) (by decide)) (by first | omega | assumption | exact gnd _ | exact gkn _ | exact Nat.lt_trans (gkn _) (by decide) | exact Nat.lt_trans (gnd _) (by decide) | exact Nat.lt_of_le_of_lt (pcN_le _) (by decide)) (by first | omega | assumption | exact gnd _ | exact gkn _ | exact Nat.lt_trans (gkn _) (by decide) | exact Nat.lt_trans (gnd _) (by decide) | exact Nat.lt_of_le_of_lt (pcN_le _) (by decide)) (by first | omega | assumption | exact gnd _ | exact gkn _ | exact Nat.lt_trans (gkn _) (by decide) | exact Nat.lt_trans (gnd _) (by decide) | exact Nat.lt_of_le_of_lt (pcN_le _) (by decide)) gnd gkn (by first | omega | assumption | exact gnd _ | exact gkn _ | exact Nat.lt_trans (gkn _) (by decide) | exact Nat.lt_trans (gnd _) (by decide) | exact Nat.lt_of_le_of_lt (pcN_le _) (by decide))) (cwV 1 hts gX11_isPair_X9_hasSentence rfl rfl rfl (by decide +kernel) ⟨Nat.le_of_ble_eq_true rfl, Nat.le_of_ble_eq_true rfl⟩) (preV_R hCX (va_recv hK hP (ci := 9) (q0 := 1) rfl rfl) ((hP.sub (ws' := (schW cI cD sN n1 n2 n3 n4 n5 n d t al day nd mk si kn mb)) [1, 2, 3, 4, 5, 6] rfl))) rfl rfl hl.1 rfl (lv_room (Nat.le_of_ble_eq_true rfl)) dX11_isPair_16 ⟨Nat.le_of_ble_eq_true (by first | rfl | decide), Nat.le_of_ble_eq_true (by first | rfl | decide)⟩).run) (fun r_16 hr_16 => ?_)
  subst hr_16
  refine lv_if_eq (tgt := 26) hx hb dX11_isPair_19 (by decide) (fun z => absurd z (by decide +kernel)) (fun _ => ?_)
  refine lv_iconst (v := nI 1) hx hb dX11_isPair_22 (by decide +kernel) ?_
  refine lv_goto (tgt := 27) hx hb dX11_isPair_23 (by decide) ?_
  exact W.zret (v := nI 1) hx hb hr rfl (fun T9 hT9 hW9 => ⟨_, rfl, (bI_t (by rfl)), hT9⟩) (fun q h => by cases h) dX11_isPair_27
set_option maxHeartbeats 4000000 in
set_option maxRecDepth 100000 in
theorem c_X11_sentence (l : Launch) (dC : Nat → ClassId) (dI : Nat → Nat → Nat) (cI cD cR : ClassId) (x sN sM sP : Nat) (pt : Bool) (fo da ra : Nat) (n1 n2 n3 n4 n5 : Nat) (n d t al day : Nat) (nd : Nat → Nat) (mk si : Nat → Int32) (kn : Nat → Nat) (mb : Nat → Option Nat) (i w : Int32) (hn : n ≤ 9) (hd : d ≤ 6) (ht : t < 512) (hal : al < 64) (hday : day < 2 ^ 30) (gnd : ∀ i, nd i < 512) (gkn : ∀ j, kn j < 512) : Met l yX11_sentence wsX11_sentence ({ frames := 2, cells := 0, slots := 0, locals := 42 }) (pcR dC dI cI cD cR [.ref x, .int i, .int w] (fun H => va_P (dC, dI) vwCl ([(x, .inr (11, [.ref sN, .ref sM, .ref sP, .int (bI pt), .ref fo, .ref da, .ref ra]))] ++ (schW cI cD sN n1 n2 n3 n4 n5 n d t al day nd mk si kn mb)) H)) (vp_Si (fun r => r = (senR n t nd mk si i w))) 0 0 (fun _ => False) := by
  refine Met.ofW (cc := cX11_sentence) (maxL := 3) (ret := (some .int)) (by decide) rfl ?_
  intro p e s m args below meth c s₁ B hml hv
  obtain ⟨rfl, hH0, hCX⟩ := hv
  have hx := B.exec
  have hb := B.bytes
  have hr := B.returns
  have hts := atoms_spec (ws := wsX11_sentence) B.pre
  have hown : s.vm.findClass RX11 = some m.cls := findClass_of_methodNamed B.named
  have hlocks := B.notSynchronized
  have hK := hCX.1
  have hP := hH0
  have hl := lv_entry ([.ref x, .int i, .int w]) (n := 3) (Nat.le_of_ble_eq_true rfl)
  rw [lg_entry_eq]
  generalize (lg_sl ([.ref x, .int i, .int w]) ++ List.replicate (3 - (lg_sl ([.ref x, .int i, .int w])).length) Slot.unset).toArray = ls at hl ⊢
  have hl : lv_has ls 3 [(0, .ref x), (1, .int i), (2, .int w)] := hl
  rcases okI_or i (n := n) (by omega) with hb_i | ⟨y, h_y, rfl⟩
  · refine lv_aload_n hx hb dX11_sentence_0 rfl (lv_at hl 0 rfl) ?_
    refine va_get (D := (dC, dI)) (ci := 11) (v := .ref sN) (C := RX11) (T := TX11) (N := 7) hx hb hts (fun _ h => List.mem_cons_of_mem _ (List.mem_append_left _ (List.mem_append_right _ h))) hown hK hP 0 rfl rfl 0 (by decide) (hts (.fieldLink RX11 10 "HoldsOnceDenied" "now" "LHoldsOnceDenied$School;") (by decide +kernel)) (fun _ h9 => h9) rfl dX11_sentence_1 ?_
    refine lv_iload_n hx hb dX11_sentence_4 rfl (lv_at hl 1 rfl) ?_
    refine vp_callSi ((va_runV (As := [.int i]) (rest := []) ⟨hx, hb, hml, hown, hts⟩ (c_X9_hasSentence_f l dC dI cI cD cR sN n1 n2 n3 n4 n5 n d t al day nd mk si kn mb i (by first | omega | assumption | exact gnd _ | exact gkn _ | exact Nat.lt_trans (gkn _) (by decide) | exact Nat.lt_trans (gnd _) (by decide) | exact Nat.lt_of_le_of_lt (pcN_le _) (by decide)) (by first | omega | assumption | exact gnd _ | exact gkn _ | exact Nat.lt_trans (gkn _) (by decide) | exact Nat.lt_trans (gnd _) (by decide) | exact Nat.lt_of_le_of_lt (pcN_le _) (by decide)) (by first | omega | assumption | exact gnd _ | exact gkn _ | exact Nat.lt_trans (gkn _) (by decide) | exact Nat.lt_trans (gnd _) (by decide) | exact Nat.lt_of_le_of_lt (pcN_le _) (by decide)) (by first | omega | assumption | exact gnd _ | exact gkn _ | exact Nat.lt_trans (gkn _) (by decide) | exact Nat.lt_trans (gnd _) (by decide) | exact Nat.lt_of_le_of_lt (pcN_le _) (by decide)) (by first | omega | assumption | exact gnd _ | exact gkn _ | exact Nat.lt_trans (gkn _) (by decide) | exact Nat.lt_trans (gnd _) (by decide) | exact Nat.lt_of_le_of_lt (pcN_le _) (by decide)) gnd gkn (by first | omega | assumption | exact gnd _ | exact gkn _ | exact Nat.lt_trans (gkn _) (by decide) | exact Nat.lt_trans (gnd _) (by decide) | exact Nat.lt_of_le_of_lt (pcN_le _) (by decide))) (cwV 1 hts gX11_sentence_X9_hasSentence rfl rfl rfl (by decide +kernel) ⟨Nat.le_of_ble_eq_true rfl, Nat.le_of_ble_eq_true rfl⟩) (preV_R hCX (va_recv hK hP (ci := 9) (q0 := 1) rfl rfl) ((hP.sub (ws' := (schW cI cD sN n1 n2 n3 n4 n5 n d t al day nd mk si kn mb)) [1, 2, 3, 4, 5, 6] rfl))) rfl rfl hl.1 rfl (lv_room (Nat.le_of_ble_eq_true rfl)) dX11_sentence_5 ⟨Nat.le_of_ble_eq_true (by first | rfl | decide), Nat.le_of_ble_eq_true (by first | rfl | decide)⟩).run) (fun r_5 hr_5 => ?_)
    subst hr_5
    refine lv_if_ne (tgt := 13) hx hb dX11_sentence_8 (by decide) (fun z => absurd z (by decide +kernel)) (fun _ => ?_)
    refine lv_iconst (v := (-1)) hx hb dX11_sentence_11 (by decide +kernel) ?_
    exact W.iret (v := (-1)) hx hb hr (fun T9 hT9 hW9 => ⟨_, rfl, (by (simp [senR, on1, oN_f hb_i]) <;> first | rfl | omega), hT9⟩) (fun q h => by cases h) dX11_sentence_12
  refine lv_aload_n hx hb dX11_sentence_0 rfl (lv_at hl 0 rfl) ?_
  refine va_get (D := (dC, dI)) (ci := 11) (v := .ref sN) (C := RX11) (T := TX11) (N := 7) hx hb hts (fun _ h => List.mem_cons_of_mem _ (List.mem_append_left _ (List.mem_append_right _ h))) hown hK hP 0 rfl rfl 0 (by decide) (hts (.fieldLink RX11 10 "HoldsOnceDenied" "now" "LHoldsOnceDenied$School;") (by decide +kernel)) (fun _ h9 => h9) rfl dX11_sentence_1 ?_
  refine lv_iload_n hx hb dX11_sentence_4 rfl (lv_at hl 1 rfl) ?_
  refine vp_callSi ((va_runV (As := [.int (nI y)]) (rest := []) ⟨hx, hb, hml, hown, hts⟩ (c_X9_hasSentence_t l dC dI cI cD cR sN n1 n2 n3 n4 n5 n d t al day nd mk si kn mb y (by first | omega | assumption | exact gnd _ | exact gkn _ | exact Nat.lt_trans (gkn _) (by decide) | exact Nat.lt_trans (gnd _) (by decide) | exact Nat.lt_of_le_of_lt (pcN_le _) (by decide)) (by first | omega | assumption | exact gnd _ | exact gkn _ | exact Nat.lt_trans (gkn _) (by decide) | exact Nat.lt_trans (gnd _) (by decide) | exact Nat.lt_of_le_of_lt (pcN_le _) (by decide)) (by first | omega | assumption | exact gnd _ | exact gkn _ | exact Nat.lt_trans (gkn _) (by decide) | exact Nat.lt_trans (gnd _) (by decide) | exact Nat.lt_of_le_of_lt (pcN_le _) (by decide)) (by first | omega | assumption | exact gnd _ | exact gkn _ | exact Nat.lt_trans (gkn _) (by decide) | exact Nat.lt_trans (gnd _) (by decide) | exact Nat.lt_of_le_of_lt (pcN_le _) (by decide)) (by first | omega | assumption | exact gnd _ | exact gkn _ | exact Nat.lt_trans (gkn _) (by decide) | exact Nat.lt_trans (gnd _) (by decide) | exact Nat.lt_of_le_of_lt (pcN_le _) (by decide)) gnd gkn (by first | omega | assumption | exact gnd _ | exact gkn _ | exact Nat.lt_trans (gkn _) (by decide) | exact Nat.lt_trans (gnd _) (by decide) | exact Nat.lt_of_le_of_lt (pcN_le _) (by decide))) (cwV 1 hts gX11_sentence_X9_hasSentence rfl rfl rfl (by decide +kernel) ⟨Nat.le_of_ble_eq_true rfl, Nat.le_of_ble_eq_true rfl⟩) (preV_R hCX (va_recv hK hP (ci := 9) (q0 := 1) rfl rfl) ((hP.sub (ws' := (schW cI cD sN n1 n2 n3 n4 n5 n d t al day nd mk si kn mb)) [1, 2, 3, 4, 5, 6] rfl))) rfl rfl hl.1 rfl (lv_room (Nat.le_of_ble_eq_true rfl)) dX11_sentence_5 ⟨Nat.le_of_ble_eq_true (by first | rfl | decide), Nat.le_of_ble_eq_true (by first | rfl | decide)⟩).run) (fun r_5 hr_5 => ?_)
  subst hr_5
  refine lv_if_ne (tgt := 13) hx hb dX11_sentence_8 (by decide) (fun _ => ?_) (fun z => absurd z (by decide +kernel))
  refine lv_iload_n hx hb dX11_sentence_13 rfl (lv_at hl 2 rfl) ?_
  by_cases k_14_0 : w = 0
  · refine ho_tope (y := 0) k_14_0 ?_
    refine lv_tableIn (tgt := 44) hx hb dX11_sentence_14 (by decide +kernel) (by decide +kernel) (off := 30) (by decide +kernel) (by decide) ?_
    refine lv_aload_n hx hb dX11_sentence_44 rfl (lv_at hl 0 rfl) ?_
    refine va_get (D := (dC, dI)) (ci := 11) (v := .ref sN) (C := RX11) (T := TX11) (N := 7) hx hb hts (fun _ h => List.mem_cons_of_mem _ (List.mem_append_left _ (List.mem_append_right _ h))) hown hK hP 0 rfl rfl 0 (by decide) (hts (.fieldLink RX11 10 "HoldsOnceDenied" "now" "LHoldsOnceDenied$School;") (by decide +kernel)) (fun _ h9 => h9) rfl dX11_sentence_45 ?_
    refine lv_iload_n hx hb dX11_sentence_48 rfl (lv_at hl 1 rfl) ?_
    refine vp_callSi ((va_runV (As := [.int (nI y)]) (rest := []) ⟨hx, hb, hml, hown, hts⟩ (c_X9_needsOf l dC dI cI cD cR sN n1 n2 n3 n4 n5 n d t al day nd mk si kn mb y (by first | omega | assumption | exact gnd _ | exact gkn _ | exact Nat.lt_trans (gkn _) (by decide) | exact Nat.lt_trans (gnd _) (by decide) | exact Nat.lt_of_le_of_lt (pcN_le _) (by decide)) (by first | omega | assumption | exact gnd _ | exact gkn _ | exact Nat.lt_trans (gkn _) (by decide) | exact Nat.lt_trans (gnd _) (by decide) | exact Nat.lt_of_le_of_lt (pcN_le _) (by decide)) (by first | omega | assumption | exact gnd _ | exact gkn _ | exact Nat.lt_trans (gkn _) (by decide) | exact Nat.lt_trans (gnd _) (by decide) | exact Nat.lt_of_le_of_lt (pcN_le _) (by decide)) (by first | omega | assumption | exact gnd _ | exact gkn _ | exact Nat.lt_trans (gkn _) (by decide) | exact Nat.lt_trans (gnd _) (by decide) | exact Nat.lt_of_le_of_lt (pcN_le _) (by decide)) (by first | omega | assumption | exact gnd _ | exact gkn _ | exact Nat.lt_trans (gkn _) (by decide) | exact Nat.lt_trans (gnd _) (by decide) | exact Nat.lt_of_le_of_lt (pcN_le _) (by decide)) gnd gkn (by first | omega | assumption | exact gnd _ | exact gkn _ | exact Nat.lt_trans (gkn _) (by decide) | exact Nat.lt_trans (gnd _) (by decide) | exact Nat.lt_of_le_of_lt (pcN_le _) (by decide))) (cwV 1 hts gX11_sentence_X9_needsOf rfl rfl rfl (by decide +kernel) ⟨Nat.le_of_ble_eq_true rfl, Nat.le_of_ble_eq_true rfl⟩) (preV_R hCX (va_recv hK hP (ci := 9) (q0 := 1) rfl rfl) ((hP.sub (ws' := (schW cI cD sN n1 n2 n3 n4 n5 n d t al day nd mk si kn mb)) [1, 2, 3, 4, 5, 6] rfl))) rfl rfl hl.1 rfl (lv_room (Nat.le_of_ble_eq_true rfl)) dX11_sentence_49 ⟨Nat.le_of_ble_eq_true (by first | rfl | decide), Nat.le_of_ble_eq_true (by first | rfl | decide)⟩).run) (fun r_49 hr_49 => ?_)
    subst hr_49
    exact W.iret (v := nI (nd y)) hx hb hr (fun T9 hT9 hW9 => ⟨_, rfl, (by (simp [senR, on1, k_14_0, oN_t h_y]) <;> first | rfl | omega), hT9⟩) (fun q h => by cases h) dX11_sentence_52
  by_cases k_14_1 : w = 1
  · refine ho_tope (y := 1) k_14_1 ?_
    refine lv_tableIn (tgt := 53) hx hb dX11_sentence_14 (by decide +kernel) (by decide +kernel) (off := 39) (by decide +kernel) (by decide) ?_
    refine lv_aload_n hx hb dX11_sentence_53 rfl (lv_at hl 0 rfl) ?_
    refine va_get (D := (dC, dI)) (ci := 11) (v := .ref sN) (C := RX11) (T := TX11) (N := 7) hx hb hts (fun _ h => List.mem_cons_of_mem _ (List.mem_append_left _ (List.mem_append_right _ h))) hown hK hP 0 rfl rfl 0 (by decide) (hts (.fieldLink RX11 10 "HoldsOnceDenied" "now" "LHoldsOnceDenied$School;") (by decide +kernel)) (fun _ h9 => h9) rfl dX11_sentence_54 ?_
    refine lv_iload_n hx hb dX11_sentence_57 rfl (lv_at hl 1 rfl) ?_
    refine vp_callSi ((va_runV (As := [.int (nI y)]) (rest := []) ⟨hx, hb, hml, hown, hts⟩ (c_X9_isTrue l dC dI cI cD cR sN n1 n2 n3 n4 n5 n d t al day nd mk si kn mb y (by first | omega | assumption | exact gnd _ | exact gkn _ | exact Nat.lt_trans (gkn _) (by decide) | exact Nat.lt_trans (gnd _) (by decide) | exact Nat.lt_of_le_of_lt (pcN_le _) (by decide)) (by first | omega | assumption | exact gnd _ | exact gkn _ | exact Nat.lt_trans (gkn _) (by decide) | exact Nat.lt_trans (gnd _) (by decide) | exact Nat.lt_of_le_of_lt (pcN_le _) (by decide)) (by first | omega | assumption | exact gnd _ | exact gkn _ | exact Nat.lt_trans (gkn _) (by decide) | exact Nat.lt_trans (gnd _) (by decide) | exact Nat.lt_of_le_of_lt (pcN_le _) (by decide)) (by first | omega | assumption | exact gnd _ | exact gkn _ | exact Nat.lt_trans (gkn _) (by decide) | exact Nat.lt_trans (gnd _) (by decide) | exact Nat.lt_of_le_of_lt (pcN_le _) (by decide)) (by first | omega | assumption | exact gnd _ | exact gkn _ | exact Nat.lt_trans (gkn _) (by decide) | exact Nat.lt_trans (gnd _) (by decide) | exact Nat.lt_of_le_of_lt (pcN_le _) (by decide)) gnd gkn (by first | omega | assumption | exact gnd _ | exact gkn _ | exact Nat.lt_trans (gkn _) (by decide) | exact Nat.lt_trans (gnd _) (by decide) | exact Nat.lt_of_le_of_lt (pcN_le _) (by decide))) (cwV 1 hts gX11_sentence_X9_isTrue rfl rfl rfl (by decide +kernel) ⟨Nat.le_of_ble_eq_true rfl, Nat.le_of_ble_eq_true rfl⟩) (preV_R hCX (va_recv hK hP (ci := 9) (q0 := 1) rfl rfl) ((hP.sub (ws' := (schW cI cD sN n1 n2 n3 n4 n5 n d t al day nd mk si kn mb)) [1, 2, 3, 4, 5, 6] rfl))) rfl rfl hl.1 rfl (lv_room (Nat.le_of_ble_eq_true rfl)) dX11_sentence_58 ⟨Nat.le_of_ble_eq_true (by first | rfl | decide), Nat.le_of_ble_eq_true (by first | rfl | decide)⟩).run) (fun r_58 hr_58 => ?_)
    subst hr_58
    refine ho_beq (tgt := 68) hx hb dX11_sentence_61 (by decide) (fun c_61 => ?_) (fun c_61 => ?_)
    · refine lv_iconst (v := nI 0) hx hb dX11_sentence_68 (by decide +kernel) ?_
      exact W.iret (v := nI 0) hx hb hr (fun T9 hT9 hW9 => ⟨_, rfl, (by (simp [senR, on1, k_14_1, c_61, oN_t h_y]) <;> first | rfl | omega), hT9⟩) (fun q h => by cases h) dX11_sentence_69
    refine lv_iconst (v := nI 1) hx hb dX11_sentence_64 (by decide +kernel) ?_
    refine lv_goto (tgt := 69) hx hb dX11_sentence_65 (by decide) ?_
    exact W.iret (v := nI 1) hx hb hr (fun T9 hT9 hW9 => ⟨_, rfl, (by (simp [senR, on1, k_14_1, c_61, oN_t h_y]) <;> first | rfl | omega), hT9⟩) (fun q h => by cases h) dX11_sentence_69
  by_cases k_14_2 : w = 2
  · refine ho_tope (y := 2) k_14_2 ?_
    refine lv_tableIn (tgt := 70) hx hb dX11_sentence_14 (by decide +kernel) (by decide +kernel) (off := 56) (by decide +kernel) (by decide) ?_
    refine lv_aload_n hx hb dX11_sentence_70 rfl (lv_at hl 0 rfl) ?_
    refine va_get (D := (dC, dI)) (ci := 11) (v := .ref sN) (C := RX11) (T := TX11) (N := 7) hx hb hts (fun _ h => List.mem_cons_of_mem _ (List.mem_append_left _ (List.mem_append_right _ h))) hown hK hP 0 rfl rfl 0 (by decide) (hts (.fieldLink RX11 10 "HoldsOnceDenied" "now" "LHoldsOnceDenied$School;") (by decide +kernel)) (fun _ h9 => h9) rfl dX11_sentence_71 ?_
    refine lv_iload_n hx hb dX11_sentence_74 rfl (lv_at hl 1 rfl) ?_
    refine vp_callSi ((va_runV (As := [.int (nI y)]) (rest := []) ⟨hx, hb, hml, hown, hts⟩ (c_X9_isTrue l dC dI cI cD cR sN n1 n2 n3 n4 n5 n d t al day nd mk si kn mb y (by first | omega | assumption | exact gnd _ | exact gkn _ | exact Nat.lt_trans (gkn _) (by decide) | exact Nat.lt_trans (gnd _) (by decide) | exact Nat.lt_of_le_of_lt (pcN_le _) (by decide)) (by first | omega | assumption | exact gnd _ | exact gkn _ | exact Nat.lt_trans (gkn _) (by decide) | exact Nat.lt_trans (gnd _) (by decide) | exact Nat.lt_of_le_of_lt (pcN_le _) (by decide)) (by first | omega | assumption | exact gnd _ | exact gkn _ | exact Nat.lt_trans (gkn _) (by decide) | exact Nat.lt_trans (gnd _) (by decide) | exact Nat.lt_of_le_of_lt (pcN_le _) (by decide)) (by first | omega | assumption | exact gnd _ | exact gkn _ | exact Nat.lt_trans (gkn _) (by decide) | exact Nat.lt_trans (gnd _) (by decide) | exact Nat.lt_of_le_of_lt (pcN_le _) (by decide)) (by first | omega | assumption | exact gnd _ | exact gkn _ | exact Nat.lt_trans (gkn _) (by decide) | exact Nat.lt_trans (gnd _) (by decide) | exact Nat.lt_of_le_of_lt (pcN_le _) (by decide)) gnd gkn (by first | omega | assumption | exact gnd _ | exact gkn _ | exact Nat.lt_trans (gkn _) (by decide) | exact Nat.lt_trans (gnd _) (by decide) | exact Nat.lt_of_le_of_lt (pcN_le _) (by decide))) (cwV 1 hts gX11_sentence_X9_isTrue rfl rfl rfl (by decide +kernel) ⟨Nat.le_of_ble_eq_true rfl, Nat.le_of_ble_eq_true rfl⟩) (preV_R hCX (va_recv hK hP (ci := 9) (q0 := 1) rfl rfl) ((hP.sub (ws' := (schW cI cD sN n1 n2 n3 n4 n5 n d t al day nd mk si kn mb)) [1, 2, 3, 4, 5, 6] rfl))) rfl rfl hl.1 rfl (lv_room (Nat.le_of_ble_eq_true rfl)) dX11_sentence_75 ⟨Nat.le_of_ble_eq_true (by first | rfl | decide), Nat.le_of_ble_eq_true (by first | rfl | decide)⟩).run) (fun r_75 hr_75 => ?_)
    subst hr_75
    refine ho_beq (tgt := 92) hx hb dX11_sentence_78 (by decide) (fun c_78 => ?_) (fun c_78 => ?_)
    · refine lv_bipush (v := (-4)) hx hb dX11_sentence_92 (by decide +kernel) ?_
      exact W.iret (v := (-4)) hx hb hr (fun T9 hT9 hW9 => ⟨_, rfl, (by (simp [senR, on1, k_14_2, c_78, oN_t h_y]) <;> first | rfl | omega), hT9⟩) (fun q h => by cases h) dX11_sentence_94
    refine lv_aload_n hx hb dX11_sentence_81 rfl (lv_at hl 0 rfl) ?_
    refine va_get (D := (dC, dI)) (ci := 11) (v := .ref sN) (C := RX11) (T := TX11) (N := 7) hx hb hts (fun _ h => List.mem_cons_of_mem _ (List.mem_append_left _ (List.mem_append_right _ h))) hown hK hP 0 rfl rfl 0 (by decide) (hts (.fieldLink RX11 10 "HoldsOnceDenied" "now" "LHoldsOnceDenied$School;") (by decide +kernel)) (fun _ h9 => h9) rfl dX11_sentence_82 ?_
    refine lv_iload_n hx hb dX11_sentence_85 rfl (lv_at hl 1 rfl) ?_
    refine vp_callSi ((va_runV (As := [.int (nI y)]) (rest := []) ⟨hx, hb, hml, hown, hts⟩ (c_X9_makerOf l dC dI cI cD cR sN n1 n2 n3 n4 n5 n d t al day nd mk si kn mb y (by first | omega | assumption | exact gnd _ | exact gkn _ | exact Nat.lt_trans (gkn _) (by decide) | exact Nat.lt_trans (gnd _) (by decide) | exact Nat.lt_of_le_of_lt (pcN_le _) (by decide)) (by first | omega | assumption | exact gnd _ | exact gkn _ | exact Nat.lt_trans (gkn _) (by decide) | exact Nat.lt_trans (gnd _) (by decide) | exact Nat.lt_of_le_of_lt (pcN_le _) (by decide)) (by first | omega | assumption | exact gnd _ | exact gkn _ | exact Nat.lt_trans (gkn _) (by decide) | exact Nat.lt_trans (gnd _) (by decide) | exact Nat.lt_of_le_of_lt (pcN_le _) (by decide)) (by first | omega | assumption | exact gnd _ | exact gkn _ | exact Nat.lt_trans (gkn _) (by decide) | exact Nat.lt_trans (gnd _) (by decide) | exact Nat.lt_of_le_of_lt (pcN_le _) (by decide)) (by first | omega | assumption | exact gnd _ | exact gkn _ | exact Nat.lt_trans (gkn _) (by decide) | exact Nat.lt_trans (gnd _) (by decide) | exact Nat.lt_of_le_of_lt (pcN_le _) (by decide)) gnd gkn (by first | omega | assumption | exact gnd _ | exact gkn _ | exact Nat.lt_trans (gkn _) (by decide) | exact Nat.lt_trans (gnd _) (by decide) | exact Nat.lt_of_le_of_lt (pcN_le _) (by decide))) (cwV 1 hts gX11_sentence_X9_makerOf rfl rfl rfl (by decide +kernel) ⟨Nat.le_of_ble_eq_true rfl, Nat.le_of_ble_eq_true rfl⟩) (preV_R hCX (va_recv hK hP (ci := 9) (q0 := 1) rfl rfl) ((hP.sub (ws' := (schW cI cD sN n1 n2 n3 n4 n5 n d t al day nd mk si kn mb)) [1, 2, 3, 4, 5, 6] rfl))) rfl rfl hl.1 rfl (lv_room (Nat.le_of_ble_eq_true rfl)) dX11_sentence_86 ⟨Nat.le_of_ble_eq_true (by first | rfl | decide), Nat.le_of_ble_eq_true (by first | rfl | decide)⟩).run) (fun r_86 hr_86 => ?_)
    subst hr_86
    refine lv_goto (tgt := 94) hx hb dX11_sentence_89 (by decide) ?_
    exact W.iret (v := (mk y)) hx hb hr (fun T9 hT9 hW9 => ⟨_, rfl, (by (simp [senR, on1, k_14_2, c_78, oN_t h_y]) <;> first | rfl | omega), hT9⟩) (fun q h => by cases h) dX11_sentence_94
  by_cases k_14_3 : w = 3
  · refine ho_tope (y := 3) k_14_3 ?_
    refine lv_tableIn (tgt := 95) hx hb dX11_sentence_14 (by decide +kernel) (by decide +kernel) (off := 81) (by decide +kernel) (by decide) ?_
    refine lv_aload_n hx hb dX11_sentence_95 rfl (lv_at hl 0 rfl) ?_
    refine va_get (D := (dC, dI)) (ci := 11) (v := .ref sN) (C := RX11) (T := TX11) (N := 7) hx hb hts (fun _ h => List.mem_cons_of_mem _ (List.mem_append_left _ (List.mem_append_right _ h))) hown hK hP 0 rfl rfl 0 (by decide) (hts (.fieldLink RX11 10 "HoldsOnceDenied" "now" "LHoldsOnceDenied$School;") (by decide +kernel)) (fun _ h9 => h9) rfl dX11_sentence_96 ?_
    refine lv_iload_n hx hb dX11_sentence_99 rfl (lv_at hl 1 rfl) ?_
    refine vp_callSi ((va_runV (As := [.int (nI y)]) (rest := []) ⟨hx, hb, hml, hown, hts⟩ (c_X9_isTrue l dC dI cI cD cR sN n1 n2 n3 n4 n5 n d t al day nd mk si kn mb y (by first | omega | assumption | exact gnd _ | exact gkn _ | exact Nat.lt_trans (gkn _) (by decide) | exact Nat.lt_trans (gnd _) (by decide) | exact Nat.lt_of_le_of_lt (pcN_le _) (by decide)) (by first | omega | assumption | exact gnd _ | exact gkn _ | exact Nat.lt_trans (gkn _) (by decide) | exact Nat.lt_trans (gnd _) (by decide) | exact Nat.lt_of_le_of_lt (pcN_le _) (by decide)) (by first | omega | assumption | exact gnd _ | exact gkn _ | exact Nat.lt_trans (gkn _) (by decide) | exact Nat.lt_trans (gnd _) (by decide) | exact Nat.lt_of_le_of_lt (pcN_le _) (by decide)) (by first | omega | assumption | exact gnd _ | exact gkn _ | exact Nat.lt_trans (gkn _) (by decide) | exact Nat.lt_trans (gnd _) (by decide) | exact Nat.lt_of_le_of_lt (pcN_le _) (by decide)) (by first | omega | assumption | exact gnd _ | exact gkn _ | exact Nat.lt_trans (gkn _) (by decide) | exact Nat.lt_trans (gnd _) (by decide) | exact Nat.lt_of_le_of_lt (pcN_le _) (by decide)) gnd gkn (by first | omega | assumption | exact gnd _ | exact gkn _ | exact Nat.lt_trans (gkn _) (by decide) | exact Nat.lt_trans (gnd _) (by decide) | exact Nat.lt_of_le_of_lt (pcN_le _) (by decide))) (cwV 1 hts gX11_sentence_X9_isTrue rfl rfl rfl (by decide +kernel) ⟨Nat.le_of_ble_eq_true rfl, Nat.le_of_ble_eq_true rfl⟩) (preV_R hCX (va_recv hK hP (ci := 9) (q0 := 1) rfl rfl) ((hP.sub (ws' := (schW cI cD sN n1 n2 n3 n4 n5 n d t al day nd mk si kn mb)) [1, 2, 3, 4, 5, 6] rfl))) rfl rfl hl.1 rfl (lv_room (Nat.le_of_ble_eq_true rfl)) dX11_sentence_100 ⟨Nat.le_of_ble_eq_true (by first | rfl | decide), Nat.le_of_ble_eq_true (by first | rfl | decide)⟩).run) (fun r_100 hr_100 => ?_)
    subst hr_100
    refine ho_beq (tgt := 117) hx hb dX11_sentence_103 (by decide) (fun c_103 => ?_) (fun c_103 => ?_)
    · refine lv_bipush (v := (-4)) hx hb dX11_sentence_117 (by decide +kernel) ?_
      exact W.iret (v := (-4)) hx hb hr (fun T9 hT9 hW9 => ⟨_, rfl, (by (simp [senR, on1, k_14_3, c_103, oN_t h_y]) <;> first | rfl | omega), hT9⟩) (fun q h => by cases h) dX11_sentence_119
    refine lv_aload_n hx hb dX11_sentence_106 rfl (lv_at hl 0 rfl) ?_
    refine va_get (D := (dC, dI)) (ci := 11) (v := .ref sN) (C := RX11) (T := TX11) (N := 7) hx hb hts (fun _ h => List.mem_cons_of_mem _ (List.mem_append_left _ (List.mem_append_right _ h))) hown hK hP 0 rfl rfl 0 (by decide) (hts (.fieldLink RX11 10 "HoldsOnceDenied" "now" "LHoldsOnceDenied$School;") (by decide +kernel)) (fun _ h9 => h9) rfl dX11_sentence_107 ?_
    refine lv_iload_n hx hb dX11_sentence_110 rfl (lv_at hl 1 rfl) ?_
    refine vp_callSi ((va_runV (As := [.int (nI y)]) (rest := []) ⟨hx, hb, hml, hown, hts⟩ (c_X9_trueSince l dC dI cI cD cR sN n1 n2 n3 n4 n5 n d t al day nd mk si kn mb y (by first | omega | assumption | exact gnd _ | exact gkn _ | exact Nat.lt_trans (gkn _) (by decide) | exact Nat.lt_trans (gnd _) (by decide) | exact Nat.lt_of_le_of_lt (pcN_le _) (by decide)) (by first | omega | assumption | exact gnd _ | exact gkn _ | exact Nat.lt_trans (gkn _) (by decide) | exact Nat.lt_trans (gnd _) (by decide) | exact Nat.lt_of_le_of_lt (pcN_le _) (by decide)) (by first | omega | assumption | exact gnd _ | exact gkn _ | exact Nat.lt_trans (gkn _) (by decide) | exact Nat.lt_trans (gnd _) (by decide) | exact Nat.lt_of_le_of_lt (pcN_le _) (by decide)) (by first | omega | assumption | exact gnd _ | exact gkn _ | exact Nat.lt_trans (gkn _) (by decide) | exact Nat.lt_trans (gnd _) (by decide) | exact Nat.lt_of_le_of_lt (pcN_le _) (by decide)) (by first | omega | assumption | exact gnd _ | exact gkn _ | exact Nat.lt_trans (gkn _) (by decide) | exact Nat.lt_trans (gnd _) (by decide) | exact Nat.lt_of_le_of_lt (pcN_le _) (by decide)) gnd gkn (by first | omega | assumption | exact gnd _ | exact gkn _ | exact Nat.lt_trans (gkn _) (by decide) | exact Nat.lt_trans (gnd _) (by decide) | exact Nat.lt_of_le_of_lt (pcN_le _) (by decide))) (cwV 1 hts gX11_sentence_X9_trueSince rfl rfl rfl (by decide +kernel) ⟨Nat.le_of_ble_eq_true rfl, Nat.le_of_ble_eq_true rfl⟩) (preV_R hCX (va_recv hK hP (ci := 9) (q0 := 1) rfl rfl) ((hP.sub (ws' := (schW cI cD sN n1 n2 n3 n4 n5 n d t al day nd mk si kn mb)) [1, 2, 3, 4, 5, 6] rfl))) rfl rfl hl.1 rfl (lv_room (Nat.le_of_ble_eq_true rfl)) dX11_sentence_111 ⟨Nat.le_of_ble_eq_true (by first | rfl | decide), Nat.le_of_ble_eq_true (by first | rfl | decide)⟩).run) (fun r_111 hr_111 => ?_)
    subst hr_111
    refine lv_goto (tgt := 119) hx hb dX11_sentence_114 (by decide) ?_
    exact W.iret (v := (si y)) hx hb hr (fun T9 hT9 hW9 => ⟨_, rfl, (by (simp [senR, on1, k_14_3, c_103, oN_t h_y]) <;> first | rfl | omega), hT9⟩) (fun q h => by cases h) dX11_sentence_119
  refine lv_tableOut (tgt := 120) hx hb dX11_sentence_14 (by have z0 := sw_ne k_14_0 (i := 0) rfl; have z1 := sw_ne k_14_1 (i := 1) rfl; have z2 := sw_ne k_14_2 (i := 2) rfl; have z3 := sw_ne k_14_3 (i := 3) rfl; show _ ∨ _; omega) (by decide) ?_
  refine lv_iconst (v := (-1)) hx hb dX11_sentence_120 (by decide +kernel) ?_
  exact W.iret (v := (-1)) hx hb hr (fun T9 hT9 hW9 => ⟨_, rfl, (by (simp [senR, on1, k_14_0, k_14_1, k_14_2, k_14_3, oN_t h_y]) <;> first | rfl | omega), hT9⟩) (fun q h => by cases h) dX11_sentence_121
set_option maxHeartbeats 4000000 in
set_option maxRecDepth 100000 in
theorem c_X11_denier (l : Launch) (dC : Nat → ClassId) (dI : Nat → Nat → Nat) (cI cD cR : ClassId) (x sN sM sP : Nat) (pt : Bool) (fo da ra : Nat) (n1 n2 n3 n4 n5 : Nat) (n d t al day : Nat) (nd : Nat → Nat) (mk si : Nat → Int32) (kn : Nat → Nat) (mb : Nat → Option Nat) (i w : Int32) (DL : List Nat) (kd fg : Nat → Nat) (hn : n ≤ 9) (hd : d ≤ 6) (ht : t < 512) (hal : al < 64) (hday : day < 2 ^ 30) (gnd : ∀ i, nd i < 512) (gkn : ∀ j, kn j < 512) (gmb : ∀ j a, mb j = some a → a ∈ DL) (gmn : ∀ j, d ≤ j → mb j = none) (gms : ∀ j, j < d → ∃ a, mb j = some a) : Met l yX11_denier wsX11_denier ({ frames := 3, cells := 0, slots := 0, locals := 60 }) (pcR dC dI cI cD cR [.ref x, .int i, .int w] (fun H => va_P (dC, dI) vwCl ([(x, .inr (11, [.ref sN, .ref sM, .ref sP, .int (bI pt), .ref fo, .ref da, .ref ra]))] ++ (schW cI cD sN n1 n2 n3 n4 n5 n d t al day nd mk si kn mb)) H ∧ DP dC dI DL kd fg H)) (vp_Si (fun r => r = (denR d al kn (kx kd mb) (kx fg mb) i w))) 0 0 (fun _ => False) := by
  refine Met.ofW (cc := cX11_denier) (maxL := 4) (ret := (some .int)) (by decide) rfl ?_
  intro p e s m args below meth c s₁ B hml hv
  obtain ⟨rfl, hH0, hCX⟩ := hv
  have hx := B.exec
  have hb := B.bytes
  have hr := B.returns
  have hts := atoms_spec (ws := wsX11_denier) B.pre
  have hown : s.vm.findClass RX11 = some m.cls := findClass_of_methodNamed B.named
  have hlocks := B.notSynchronized
  have hK := hCX.1
  obtain ⟨hP, hDP⟩ := hH0
  have hl := lv_entry ([.ref x, .int i, .int w]) (n := 4) (Nat.le_of_ble_eq_true rfl)
  rw [lg_entry_eq]
  generalize (lg_sl ([.ref x, .int i, .int w]) ++ List.replicate (4 - (lg_sl ([.ref x, .int i, .int w])).length) Slot.unset).toArray = ls at hl ⊢
  have hl : lv_has ls 4 [(0, .ref x), (1, .int i), (2, .int w)] := hl
  rcases okI_or i (n := d) (by omega) with hb_i | ⟨y, h_y, rfl⟩
  · refine lv_aload_n hx hb dX11_denier_0 rfl (lv_at hl 0 rfl) ?_
    refine va_get (D := (dC, dI)) (ci := 11) (v := .ref sN) (C := RX11) (T := TX11) (N := 7) hx hb hts (fun _ h => List.mem_cons_of_mem _ (List.mem_append_left _ (List.mem_append_left _ (List.mem_append_left _ (List.mem_append_left _ (List.mem_append_left _ (List.mem_append_left _ (List.mem_append_left _ (List.mem_append_left _ (List.mem_append_left _ (List.mem_append_right _ h))))))))))) hown hK hP 0 rfl rfl 0 (by decide) (hts (.fieldLink RX11 10 "HoldsOnceDenied" "now" "LHoldsOnceDenied$School;") (by decide +kernel)) (fun _ h9 => h9) rfl dX11_denier_1 ?_
    refine lv_iload_n hx hb dX11_denier_4 rfl (lv_at hl 1 rfl) ?_
    refine va_csq ((va_runV (As := [.int i]) (rest := []) ⟨hx, hb, hml, hown, hts⟩ (c_X9_memberAt_f l dC dI cI cD cR sN n1 n2 n3 n4 n5 n d t al day nd mk si kn mb i (by first | omega | assumption | exact gnd _ | exact gkn _ | exact Nat.lt_trans (gkn _) (by decide) | exact Nat.lt_trans (gnd _) (by decide) | exact Nat.lt_of_le_of_lt (pcN_le _) (by decide)) (by first | omega | assumption | exact gnd _ | exact gkn _ | exact Nat.lt_trans (gkn _) (by decide) | exact Nat.lt_trans (gnd _) (by decide) | exact Nat.lt_of_le_of_lt (pcN_le _) (by decide)) (by first | omega | assumption | exact gnd _ | exact gkn _ | exact Nat.lt_trans (gkn _) (by decide) | exact Nat.lt_trans (gnd _) (by decide) | exact Nat.lt_of_le_of_lt (pcN_le _) (by decide)) (by first | omega | assumption | exact gnd _ | exact gkn _ | exact Nat.lt_trans (gkn _) (by decide) | exact Nat.lt_trans (gnd _) (by decide) | exact Nat.lt_of_le_of_lt (pcN_le _) (by decide)) (by first | omega | assumption | exact gnd _ | exact gkn _ | exact Nat.lt_trans (gkn _) (by decide) | exact Nat.lt_trans (gnd _) (by decide) | exact Nat.lt_of_le_of_lt (pcN_le _) (by decide)) gnd gkn (by first | omega | assumption | exact gnd _ | exact gkn _ | exact Nat.lt_trans (gkn _) (by decide) | exact Nat.lt_trans (gnd _) (by decide) | exact Nat.lt_of_le_of_lt (pcN_le _) (by decide)) gmn) (cwV 1 hts gX11_denier_X9_memberAt rfl rfl rfl (by decide +kernel) ⟨Nat.le_of_ble_eq_true rfl, Nat.le_of_ble_eq_true rfl⟩) (preV_R hCX (va_recv hK hP (ci := 9) (q0 := 1) rfl rfl) ((hP.sub (ws' := (schW cI cD sN n1 n2 n3 n4 n5 n d t al day nd mk si kn mb)) [1, 2, 3, 4, 5, 6] rfl))) rfl rfl hl.1 rfl (lv_room (Nat.le_of_ble_eq_true rfl)) dX11_denier_5 ⟨Nat.le_of_ble_eq_true (by first | rfl | decide), Nat.le_of_ble_eq_true (by first | rfl | decide)⟩).run) (fun r_5 hr_5 => ?_)
    subst hr_5
    refine ho_topr (y := .null) rfl ?_
    refine lv_astore_nN (lv' := [(3, .null), (0, .ref x), (1, .int i), (2, .int w)]) hx hb dX11_denier_8 rfl hl (by decide) rfl (fun ls hl => ?_)
    refine lv_aload_nN hx hb dX11_denier_9 rfl (lv_at hl 0 rfl) ?_
    refine lv_ifnonnullN hx hb dX11_denier_10 ?_
    refine lv_iconst (v := (-1)) hx hb dX11_denier_13 (by decide +kernel) ?_
    exact W.iret (v := (-1)) hx hb hr (fun T9 hT9 hW9 => ⟨_, rfl, (by (simp [denR, on1, kx, oN_f hb_i]) <;> first | rfl | omega), hT9⟩) (fun q h => by cases h) dX11_denier_14
  refine lv_aload_n hx hb dX11_denier_0 rfl (lv_at hl 0 rfl) ?_
  refine va_get (D := (dC, dI)) (ci := 11) (v := .ref sN) (C := RX11) (T := TX11) (N := 7) hx hb hts (fun _ h => List.mem_cons_of_mem _ (List.mem_append_left _ (List.mem_append_left _ (List.mem_append_left _ (List.mem_append_left _ (List.mem_append_left _ (List.mem_append_left _ (List.mem_append_left _ (List.mem_append_left _ (List.mem_append_left _ (List.mem_append_right _ h))))))))))) hown hK hP 0 rfl rfl 0 (by decide) (hts (.fieldLink RX11 10 "HoldsOnceDenied" "now" "LHoldsOnceDenied$School;") (by decide +kernel)) (fun _ h9 => h9) rfl dX11_denier_1 ?_
  refine lv_iload_n hx hb dX11_denier_4 rfl (lv_at hl 1 rfl) ?_
  refine va_csq ((va_runV (As := [.int (nI y)]) (rest := []) ⟨hx, hb, hml, hown, hts⟩ (c_X9_memberAt l dC dI cI cD cR sN n1 n2 n3 n4 n5 n d t al day nd mk si kn mb y (by first | omega | assumption | exact gnd _ | exact gkn _ | exact Nat.lt_trans (gkn _) (by decide) | exact Nat.lt_trans (gnd _) (by decide) | exact Nat.lt_of_le_of_lt (pcN_le _) (by decide)) (by first | omega | assumption | exact gnd _ | exact gkn _ | exact Nat.lt_trans (gkn _) (by decide) | exact Nat.lt_trans (gnd _) (by decide) | exact Nat.lt_of_le_of_lt (pcN_le _) (by decide)) (by first | omega | assumption | exact gnd _ | exact gkn _ | exact Nat.lt_trans (gkn _) (by decide) | exact Nat.lt_trans (gnd _) (by decide) | exact Nat.lt_of_le_of_lt (pcN_le _) (by decide)) (by first | omega | assumption | exact gnd _ | exact gkn _ | exact Nat.lt_trans (gkn _) (by decide) | exact Nat.lt_trans (gnd _) (by decide) | exact Nat.lt_of_le_of_lt (pcN_le _) (by decide)) (by first | omega | assumption | exact gnd _ | exact gkn _ | exact Nat.lt_trans (gkn _) (by decide) | exact Nat.lt_trans (gnd _) (by decide) | exact Nat.lt_of_le_of_lt (pcN_le _) (by decide)) gnd gkn (by first | omega | assumption | exact gnd _ | exact gkn _ | exact Nat.lt_trans (gkn _) (by decide) | exact Nat.lt_trans (gnd _) (by decide) | exact Nat.lt_of_le_of_lt (pcN_le _) (by decide))) (cwV 1 hts gX11_denier_X9_memberAt rfl rfl rfl (by decide +kernel) ⟨Nat.le_of_ble_eq_true rfl, Nat.le_of_ble_eq_true rfl⟩) (preV_R hCX (va_recv hK hP (ci := 9) (q0 := 1) rfl rfl) ((hP.sub (ws' := (schW cI cD sN n1 n2 n3 n4 n5 n d t al day nd mk si kn mb)) [1, 2, 3, 4, 5, 6] rfl))) rfl rfl hl.1 rfl (lv_room (Nat.le_of_ble_eq_true rfl)) dX11_denier_5 ⟨Nat.le_of_ble_eq_true (by first | rfl | decide), Nat.le_of_ble_eq_true (by first | rfl | decide)⟩).run) (fun r_5 hr_5 => ?_)
  subst hr_5
  cases hv_5 : mb y with
  | none =>
    refine ho_topr (y := .null) rfl ?_
    obtain ⟨a9, ha9⟩ := gms _ h_y
    rw [hv_5] at ha9; cases ha9
  | some a_5 =>
    refine ho_topr (y := .ref a_5) rfl ?_
    have hda_5 : a_5 ∈ DL := gmb _ _ hv_5
    refine lv_astore_n (lv' := [(3, .ref a_5), (0, .ref x), (1, .int (nI y)), (2, .int w)]) hx hb dX11_denier_8 rfl hl (by decide) rfl (fun ls hl => ?_)
    refine lv_aload_n hx hb dX11_denier_9 rfl (lv_at hl 0 rfl) ?_
    refine lv_ifnonnull (tgt := 15) hx hb dX11_denier_10 (by decide) ?_
    refine lv_iload_n hx hb dX11_denier_15 rfl (lv_at hl 3 rfl) ?_
    by_cases k_16_0 : w = 0
    · refine ho_tope (y := 0) k_16_0 ?_
      refine lv_tableIn (tgt := 52) hx hb dX11_denier_16 (by decide +kernel) (by decide +kernel) (off := 36) (by decide +kernel) (by decide) ?_
      refine lv_aload_n hx hb dX11_denier_52 rfl (lv_at hl 0 rfl) ?_
      refine ho_via (g2 := F0 m 56 ls [.int (nI (kd a_5))]) (fun K9 => ?_) ?_
      · obtain ⟨hPa, hka, hfa⟩ := hDP _ hda_5
        generalize hkk : kd a_5 = kk at hPa hka K9
        generalize hff : fg a_5 = ff at hPa hfa K9
        rcases (show kk = 0 ∨ kk = 1 ∨ kk = 2 ∨ kk = 3 ∨ kk = 4 ∨ kk = 5 ∨ kk = 6 ∨ kk = 7 by omega) with rfl | rfl | rfl | rfl | rfl | rfl | rfl | rfl
        · exact va_get (D := (dC, dI)) (ci := 2) (v := .int (nI 0)) (C := RX2) (T := TX2) (N := 2) hx hb hts (fun _ h => List.mem_cons_of_mem _ (List.mem_append_left _ (List.mem_append_left _ (List.mem_append_left _ (List.mem_append_left _ (List.mem_append_left _ (List.mem_append_left _ (List.mem_append_right _ h)))))))) hown hK hPa 0 rfl rfl 0 (by decide) (hts (.fieldLink RX11 94 "HoldsOnceDenied$Denier" "kind" "I") (by decide +kernel)) (fun _ h9 => h9) rfl dX11_denier_53 K9
        · exact va_get (D := (dC, dI)) (ci := 3) (v := .int (nI 1)) (C := RX3) (T := TX3) (N := 2) hx hb hts (fun _ h => List.mem_cons_of_mem _ (List.mem_append_left _ (List.mem_append_left _ (List.mem_append_left _ (List.mem_append_left _ (List.mem_append_left _ (List.mem_append_right _ h))))))) hown hK hPa 0 rfl rfl 0 (by decide) (hts (.fieldLink RX11 94 "HoldsOnceDenied$Denier" "kind" "I") (by decide +kernel)) (fun _ h9 => h9) rfl dX11_denier_53 K9
        · exact va_get (D := (dC, dI)) (ci := 10) (v := .int (nI 2)) (C := RX10) (T := TX10) (N := 2) hx hb hts (fun _ h => List.mem_cons_of_mem _ (List.mem_append_left _ (List.mem_append_right _ h))) hown hK hPa 0 rfl rfl 0 (by decide) (hts (.fieldLink RX11 94 "HoldsOnceDenied$Denier" "kind" "I") (by decide +kernel)) (fun _ h9 => h9) rfl dX11_denier_53 K9
        · exact va_get (D := (dC, dI)) (ci := 1) (v := .int (nI 3)) (C := RX1) (T := TX1) (N := 2) hx hb hts (fun _ h => List.mem_cons_of_mem _ (List.mem_append_left _ (List.mem_append_left _ (List.mem_append_left _ (List.mem_append_left _ (List.mem_append_left _ (List.mem_append_left _ (List.mem_append_left _ (List.mem_append_right _ h))))))))) hown hK hPa 0 rfl rfl 0 (by decide) (hts (.fieldLink RX11 94 "HoldsOnceDenied$Denier" "kind" "I") (by decide +kernel)) (fun _ h9 => h9) rfl dX11_denier_53 K9
        · exact va_get (D := (dC, dI)) (ci := 5) (v := .int (nI 4)) (C := RX5) (T := TX5) (N := 2) hx hb hts (fun _ h => List.mem_cons_of_mem _ (List.mem_append_left _ (List.mem_append_left _ (List.mem_append_left _ (List.mem_append_left _ (List.mem_append_right _ h)))))) hown hK hPa 0 rfl rfl 0 (by decide) (hts (.fieldLink RX11 94 "HoldsOnceDenied$Denier" "kind" "I") (by decide +kernel)) (fun _ h9 => h9) rfl dX11_denier_53 K9
        · exact va_get (D := (dC, dI)) (ci := 6) (v := .int (nI 5)) (C := RX6) (T := TX6) (N := 2) hx hb hts (fun _ h => List.mem_cons_of_mem _ (List.mem_append_left _ (List.mem_append_left _ (List.mem_append_left _ (List.mem_append_right _ h))))) hown hK hPa 0 rfl rfl 0 (by decide) (hts (.fieldLink RX11 94 "HoldsOnceDenied$Denier" "kind" "I") (by decide +kernel)) (fun _ h9 => h9) rfl dX11_denier_53 K9
        · exact va_get (D := (dC, dI)) (ci := 7) (v := .int (nI 6)) (C := RX7) (T := TX7) (N := 2) hx hb hts (fun _ h => List.mem_cons_of_mem _ (List.mem_append_left _ (List.mem_append_left _ (List.mem_append_right _ h)))) hown hK hPa 0 rfl rfl 0 (by decide) (hts (.fieldLink RX11 94 "HoldsOnceDenied$Denier" "kind" "I") (by decide +kernel)) (fun _ h9 => h9) rfl dX11_denier_53 K9
        · exact va_get (D := (dC, dI)) (ci := 0) (v := .int (nI 7)) (C := RX0) (T := TX0) (N := 2) hx hb hts (fun _ h => List.mem_cons_of_mem _ (List.mem_append_left _ (List.mem_append_left _ (List.mem_append_left _ (List.mem_append_left _ (List.mem_append_left _ (List.mem_append_left _ (List.mem_append_left _ (List.mem_append_left _ (List.mem_append_right _ h)))))))))) hown hK hPa 0 rfl rfl 0 (by decide) (hts (.fieldLink RX11 94 "HoldsOnceDenied$Denier" "kind" "I") (by decide +kernel)) (fun _ h9 => h9) rfl dX11_denier_53 K9
      exact W.iret (v := nI (kd a_5)) hx hb hr (fun T9 hT9 hW9 => ⟨_, rfl, (by (simp [denR, on1, kx, hv_5, k_16_0, oN_t h_y]) <;> first | rfl | omega), hT9⟩) (fun q h => by cases h) dX11_denier_56
    by_cases k_16_1 : w = 1
    · refine ho_tope (y := 1) k_16_1 ?_
      refine lv_tableIn (tgt := 57) hx hb dX11_denier_16 (by decide +kernel) (by decide +kernel) (off := 41) (by decide +kernel) (by decide) ?_
      refine lv_aload_n hx hb dX11_denier_57 rfl (lv_at hl 0 rfl) ?_
      refine ho_via (g2 := F0 m 61 ls [.int (nI (fg a_5))]) (fun K9 => ?_) ?_
      · obtain ⟨hPa, hka, hfa⟩ := hDP _ hda_5
        generalize hkk : kd a_5 = kk at hPa hka K9
        generalize hff : fg a_5 = ff at hPa hfa K9
        rcases (show kk = 0 ∨ kk = 1 ∨ kk = 2 ∨ kk = 3 ∨ kk = 4 ∨ kk = 5 ∨ kk = 6 ∨ kk = 7 by omega) with rfl | rfl | rfl | rfl | rfl | rfl | rfl | rfl
        · exact va_get (D := (dC, dI)) (ci := 2) (v := .int (nI ff)) (C := RX2) (T := TX2) (N := 2) hx hb hts (fun _ h => List.mem_cons_of_mem _ (List.mem_append_left _ (List.mem_append_left _ (List.mem_append_left _ (List.mem_append_left _ (List.mem_append_left _ (List.mem_append_left _ (List.mem_append_right _ h)))))))) hown hK hPa 0 rfl rfl 1 (by decide) (hts (.fieldLink RX11 98 "HoldsOnceDenied$Denier" "figure" "I") (by decide +kernel)) (fun _ h9 => h9) rfl dX11_denier_58 K9
        · exact va_get (D := (dC, dI)) (ci := 3) (v := .int (nI ff)) (C := RX3) (T := TX3) (N := 2) hx hb hts (fun _ h => List.mem_cons_of_mem _ (List.mem_append_left _ (List.mem_append_left _ (List.mem_append_left _ (List.mem_append_left _ (List.mem_append_left _ (List.mem_append_right _ h))))))) hown hK hPa 0 rfl rfl 1 (by decide) (hts (.fieldLink RX11 98 "HoldsOnceDenied$Denier" "figure" "I") (by decide +kernel)) (fun _ h9 => h9) rfl dX11_denier_58 K9
        · exact va_get (D := (dC, dI)) (ci := 10) (v := .int (nI ff)) (C := RX10) (T := TX10) (N := 2) hx hb hts (fun _ h => List.mem_cons_of_mem _ (List.mem_append_left _ (List.mem_append_right _ h))) hown hK hPa 0 rfl rfl 1 (by decide) (hts (.fieldLink RX11 98 "HoldsOnceDenied$Denier" "figure" "I") (by decide +kernel)) (fun _ h9 => h9) rfl dX11_denier_58 K9
        · exact va_get (D := (dC, dI)) (ci := 1) (v := .int (nI ff)) (C := RX1) (T := TX1) (N := 2) hx hb hts (fun _ h => List.mem_cons_of_mem _ (List.mem_append_left _ (List.mem_append_left _ (List.mem_append_left _ (List.mem_append_left _ (List.mem_append_left _ (List.mem_append_left _ (List.mem_append_left _ (List.mem_append_right _ h))))))))) hown hK hPa 0 rfl rfl 1 (by decide) (hts (.fieldLink RX11 98 "HoldsOnceDenied$Denier" "figure" "I") (by decide +kernel)) (fun _ h9 => h9) rfl dX11_denier_58 K9
        · exact va_get (D := (dC, dI)) (ci := 5) (v := .int (nI ff)) (C := RX5) (T := TX5) (N := 2) hx hb hts (fun _ h => List.mem_cons_of_mem _ (List.mem_append_left _ (List.mem_append_left _ (List.mem_append_left _ (List.mem_append_left _ (List.mem_append_right _ h)))))) hown hK hPa 0 rfl rfl 1 (by decide) (hts (.fieldLink RX11 98 "HoldsOnceDenied$Denier" "figure" "I") (by decide +kernel)) (fun _ h9 => h9) rfl dX11_denier_58 K9
        · exact va_get (D := (dC, dI)) (ci := 6) (v := .int (nI ff)) (C := RX6) (T := TX6) (N := 2) hx hb hts (fun _ h => List.mem_cons_of_mem _ (List.mem_append_left _ (List.mem_append_left _ (List.mem_append_left _ (List.mem_append_right _ h))))) hown hK hPa 0 rfl rfl 1 (by decide) (hts (.fieldLink RX11 98 "HoldsOnceDenied$Denier" "figure" "I") (by decide +kernel)) (fun _ h9 => h9) rfl dX11_denier_58 K9
        · exact va_get (D := (dC, dI)) (ci := 7) (v := .int (nI ff)) (C := RX7) (T := TX7) (N := 2) hx hb hts (fun _ h => List.mem_cons_of_mem _ (List.mem_append_left _ (List.mem_append_left _ (List.mem_append_right _ h)))) hown hK hPa 0 rfl rfl 1 (by decide) (hts (.fieldLink RX11 98 "HoldsOnceDenied$Denier" "figure" "I") (by decide +kernel)) (fun _ h9 => h9) rfl dX11_denier_58 K9
        · exact va_get (D := (dC, dI)) (ci := 0) (v := .int (nI ff)) (C := RX0) (T := TX0) (N := 2) hx hb hts (fun _ h => List.mem_cons_of_mem _ (List.mem_append_left _ (List.mem_append_left _ (List.mem_append_left _ (List.mem_append_left _ (List.mem_append_left _ (List.mem_append_left _ (List.mem_append_left _ (List.mem_append_left _ (List.mem_append_right _ h)))))))))) hown hK hPa 0 rfl rfl 1 (by decide) (hts (.fieldLink RX11 98 "HoldsOnceDenied$Denier" "figure" "I") (by decide +kernel)) (fun _ h9 => h9) rfl dX11_denier_58 K9
      exact W.iret (v := nI (fg a_5)) hx hb hr (fun T9 hT9 hW9 => ⟨_, rfl, (by (simp [denR, on1, kx, hv_5, k_16_1, oN_t h_y]) <;> first | rfl | omega), hT9⟩) (fun q h => by cases h) dX11_denier_61
    by_cases k_16_2 : w = 2
    · refine ho_tope (y := 2) k_16_2 ?_
      refine lv_tableIn (tgt := 62) hx hb dX11_denier_16 (by decide +kernel) (by decide +kernel) (off := 46) (by decide +kernel) (by decide) ?_
      refine lv_aload_n hx hb dX11_denier_62 rfl (lv_at hl 1 rfl) ?_
      refine va_get (D := (dC, dI)) (ci := 11) (v := .ref sN) (C := RX11) (T := TX11) (N := 7) hx hb hts (fun _ h => List.mem_cons_of_mem _ (List.mem_append_left _ (List.mem_append_left _ (List.mem_append_left _ (List.mem_append_left _ (List.mem_append_left _ (List.mem_append_left _ (List.mem_append_left _ (List.mem_append_left _ (List.mem_append_left _ (List.mem_append_right _ h))))))))))) hown hK hP 0 rfl rfl 0 (by decide) (hts (.fieldLink RX11 10 "HoldsOnceDenied" "now" "LHoldsOnceDenied$School;") (by decide +kernel)) (fun _ h9 => h9) rfl dX11_denier_63 ?_
      refine lv_iload_n hx hb dX11_denier_66 rfl (lv_at hl 2 rfl) ?_
      refine vp_callSi ((va_runV (As := [.int (nI y)]) (rest := []) ⟨hx, hb, hml, hown, hts⟩ (c_X9_knownTo l dC dI cI cD cR sN n1 n2 n3 n4 n5 n d t al day nd mk si kn mb y (by first | omega | assumption | exact gnd _ | exact gkn _ | exact Nat.lt_trans (gkn _) (by decide) | exact Nat.lt_trans (gnd _) (by decide) | exact Nat.lt_of_le_of_lt (pcN_le _) (by decide)) (by first | omega | assumption | exact gnd _ | exact gkn _ | exact Nat.lt_trans (gkn _) (by decide) | exact Nat.lt_trans (gnd _) (by decide) | exact Nat.lt_of_le_of_lt (pcN_le _) (by decide)) (by first | omega | assumption | exact gnd _ | exact gkn _ | exact Nat.lt_trans (gkn _) (by decide) | exact Nat.lt_trans (gnd _) (by decide) | exact Nat.lt_of_le_of_lt (pcN_le _) (by decide)) (by first | omega | assumption | exact gnd _ | exact gkn _ | exact Nat.lt_trans (gkn _) (by decide) | exact Nat.lt_trans (gnd _) (by decide) | exact Nat.lt_of_le_of_lt (pcN_le _) (by decide)) (by first | omega | assumption | exact gnd _ | exact gkn _ | exact Nat.lt_trans (gkn _) (by decide) | exact Nat.lt_trans (gnd _) (by decide) | exact Nat.lt_of_le_of_lt (pcN_le _) (by decide)) gnd gkn (by first | omega | assumption | exact gnd _ | exact gkn _ | exact Nat.lt_trans (gkn _) (by decide) | exact Nat.lt_trans (gnd _) (by decide) | exact Nat.lt_of_le_of_lt (pcN_le _) (by decide))) (cwV 1 hts gX11_denier_X9_knownTo rfl rfl rfl (by decide +kernel) ⟨Nat.le_of_ble_eq_true rfl, Nat.le_of_ble_eq_true rfl⟩) (preV_R hCX (va_recv hK hP (ci := 9) (q0 := 1) rfl rfl) ((hP.sub (ws' := (schW cI cD sN n1 n2 n3 n4 n5 n d t al day nd mk si kn mb)) [1, 2, 3, 4, 5, 6] rfl))) rfl rfl hl.1 rfl (lv_room (Nat.le_of_ble_eq_true rfl)) dX11_denier_67 ⟨Nat.le_of_ble_eq_true (by first | rfl | decide), Nat.le_of_ble_eq_true (by first | rfl | decide)⟩).run) (fun r_67 hr_67 => ?_)
      subst hr_67
      exact W.iret (v := nI (kn y)) hx hb hr (fun T9 hT9 hW9 => ⟨_, rfl, (by (simp [denR, on1, kx, hv_5, k_16_2, oN_t h_y]) <;> first | rfl | omega), hT9⟩) (fun q h => by cases h) dX11_denier_70
    by_cases k_16_3 : w = 3
    · refine ho_tope (y := 3) k_16_3 ?_
      refine lv_tableIn (tgt := 71) hx hb dX11_denier_16 (by decide +kernel) (by decide +kernel) (off := 55) (by decide +kernel) (by decide) ?_
      refine lv_aload_n hx hb dX11_denier_71 rfl (lv_at hl 1 rfl) ?_
      refine va_get (D := (dC, dI)) (ci := 11) (v := .ref sN) (C := RX11) (T := TX11) (N := 7) hx hb hts (fun _ h => List.mem_cons_of_mem _ (List.mem_append_left _ (List.mem_append_left _ (List.mem_append_left _ (List.mem_append_left _ (List.mem_append_left _ (List.mem_append_left _ (List.mem_append_left _ (List.mem_append_left _ (List.mem_append_left _ (List.mem_append_right _ h))))))))))) hown hK hP 0 rfl rfl 0 (by decide) (hts (.fieldLink RX11 10 "HoldsOnceDenied" "now" "LHoldsOnceDenied$School;") (by decide +kernel)) (fun _ h9 => h9) rfl dX11_denier_72 ?_
      refine lv_iload_n hx hb dX11_denier_75 rfl (lv_at hl 2 rfl) ?_
      refine vp_callSi ((va_runV (As := [.int (nI y)]) (rest := []) ⟨hx, hb, hml, hown, hts⟩ (c_X9_isAlive l dC dI cI cD cR sN n1 n2 n3 n4 n5 n d t al day nd mk si kn mb y (by first | omega | assumption | exact gnd _ | exact gkn _ | exact Nat.lt_trans (gkn _) (by decide) | exact Nat.lt_trans (gnd _) (by decide) | exact Nat.lt_of_le_of_lt (pcN_le _) (by decide)) (by first | omega | assumption | exact gnd _ | exact gkn _ | exact Nat.lt_trans (gkn _) (by decide) | exact Nat.lt_trans (gnd _) (by decide) | exact Nat.lt_of_le_of_lt (pcN_le _) (by decide)) (by first | omega | assumption | exact gnd _ | exact gkn _ | exact Nat.lt_trans (gkn _) (by decide) | exact Nat.lt_trans (gnd _) (by decide) | exact Nat.lt_of_le_of_lt (pcN_le _) (by decide)) (by first | omega | assumption | exact gnd _ | exact gkn _ | exact Nat.lt_trans (gkn _) (by decide) | exact Nat.lt_trans (gnd _) (by decide) | exact Nat.lt_of_le_of_lt (pcN_le _) (by decide)) (by first | omega | assumption | exact gnd _ | exact gkn _ | exact Nat.lt_trans (gkn _) (by decide) | exact Nat.lt_trans (gnd _) (by decide) | exact Nat.lt_of_le_of_lt (pcN_le _) (by decide)) gnd gkn (by first | omega | assumption | exact gnd _ | exact gkn _ | exact Nat.lt_trans (gkn _) (by decide) | exact Nat.lt_trans (gnd _) (by decide) | exact Nat.lt_of_le_of_lt (pcN_le _) (by decide))) (cwV 1 hts gX11_denier_X9_isAlive rfl rfl rfl (by decide +kernel) ⟨Nat.le_of_ble_eq_true rfl, Nat.le_of_ble_eq_true rfl⟩) (preV_R hCX (va_recv hK hP (ci := 9) (q0 := 1) rfl rfl) ((hP.sub (ws' := (schW cI cD sN n1 n2 n3 n4 n5 n d t al day nd mk si kn mb)) [1, 2, 3, 4, 5, 6] rfl))) rfl rfl hl.1 rfl (lv_room (Nat.le_of_ble_eq_true rfl)) dX11_denier_76 ⟨Nat.le_of_ble_eq_true (by first | rfl | decide), Nat.le_of_ble_eq_true (by first | rfl | decide)⟩).run) (fun r_76 hr_76 => ?_)
      subst hr_76
      refine ho_beq (tgt := 86) hx hb dX11_denier_79 (by decide) (fun c_79 => ?_) (fun c_79 => ?_)
      · refine lv_iconst (v := nI 0) hx hb dX11_denier_86 (by decide +kernel) ?_
        exact W.iret (v := nI 0) hx hb hr (fun T9 hT9 hW9 => ⟨_, rfl, (by (simp [denR, on1, kx, hv_5, k_16_3, c_79, oN_t h_y]) <;> first | rfl | omega), hT9⟩) (fun q h => by cases h) dX11_denier_87
      refine lv_iconst (v := nI 1) hx hb dX11_denier_82 (by decide +kernel) ?_
      refine lv_goto (tgt := 87) hx hb dX11_denier_83 (by decide) ?_
      exact W.iret (v := nI 1) hx hb hr (fun T9 hT9 hW9 => ⟨_, rfl, (by (simp [denR, on1, kx, hv_5, k_16_3, c_79, oN_t h_y]) <;> first | rfl | omega), hT9⟩) (fun q h => by cases h) dX11_denier_87
    by_cases k_16_4 : w = 4
    · refine ho_tope (y := 4) k_16_4 ?_
      refine lv_tableIn (tgt := 88) hx hb dX11_denier_16 (by decide +kernel) (by decide +kernel) (off := 72) (by decide +kernel) (by decide) ?_
      refine lv_aload_n hx hb dX11_denier_88 rfl (lv_at hl 0 rfl) ?_
      refine ho_via (g2 := F0 m 92 ls [.int (nI (asN (kd a_5) (fg a_5)))]) (fun K9 => ?_) ?_
      · obtain ⟨hPa, hka, hfa⟩ := hDP _ hda_5
        generalize hkk : kd a_5 = kk at hPa hka K9
        generalize hff : fg a_5 = ff at hPa hfa K9
        rcases (show kk = 0 ∨ kk = 1 ∨ kk = 2 ∨ kk = 3 ∨ kk = 4 ∨ kk = 5 ∨ kk = 6 ∨ kk = 7 by omega) with rfl | rfl | rfl | rfl | rfl | rfl | rfl | rfl
        · refine vp_callSi ((va_runV (As := []) (rest := []) ⟨hx, hb, hml, hown, hts⟩ (c_X2_asks l dC dI cI cD cR a_5) (cwV 0 hts gX11_denier_X2_asks rfl rfl rfl (by decide +kernel) ⟨Nat.le_of_ble_eq_true rfl, Nat.le_of_ble_eq_true rfl⟩) (preV_R hCX (va_recv hK hPa (ci := 2) (q0 := 0) rfl rfl) (trivial)) rfl rfl hl.1 rfl (lv_room (Nat.le_of_ble_eq_true rfl)) dX11_denier_89 ⟨Nat.le_of_ble_eq_true (by first | rfl | decide), Nat.le_of_ble_eq_true (by first | rfl | decide)⟩).run) (fun r9 hr9 => ?_)
          subst hr9
          exact K9
        · refine vp_callSi ((va_runU (As := []) (rest := []) ⟨hx, hb, hml, hown, hts⟩ (c_X3_asks_k1 l dC dI cI cD cR a_5 ff) (va_cwO 0 hts gX11_denier_X3_asks_u107X3 rfl rfl rfl (b0 := cX2_asks) (m0 := 1) (r0 := (some .int)) (by decide +kernel) (by decide +kernel) ⟨Nat.le_of_ble_eq_true rfl, Nat.le_of_ble_eq_true rfl⟩) (preV_R hCX (va_recv hK hPa (ci := 3) (q0 := 0) rfl rfl) (hPa)) rfl rfl hl.1 rfl (lv_room (Nat.le_of_ble_eq_true rfl)) dX11_denier_89 ⟨Nat.le_of_ble_eq_true (by first | rfl | decide), Nat.le_of_ble_eq_true (by first | rfl | decide)⟩).run) (fun r9 hr9 => ?_)
          subst hr9
          exact K9
        · refine vp_callSi ((va_runU (As := []) (rest := []) ⟨hx, hb, hml, hown, hts⟩ (c_X10_asks_k2 l dC dI cI cD cR a_5 ff) (va_cwO 0 hts gX11_denier_X10_asks_u107X10 rfl rfl rfl (b0 := cX2_asks) (m0 := 1) (r0 := (some .int)) (by decide +kernel) (by decide +kernel) ⟨Nat.le_of_ble_eq_true rfl, Nat.le_of_ble_eq_true rfl⟩) (preV_R hCX (va_recv hK hPa (ci := 10) (q0 := 0) rfl rfl) (hPa)) rfl rfl hl.1 rfl (lv_room (Nat.le_of_ble_eq_true rfl)) dX11_denier_89 ⟨Nat.le_of_ble_eq_true (by first | rfl | decide), Nat.le_of_ble_eq_true (by first | rfl | decide)⟩).run) (fun r9 hr9 => ?_)
          subst hr9
          exact K9
        · refine vp_callSi ((va_runU (As := []) (rest := []) ⟨hx, hb, hml, hown, hts⟩ (c_X1_asks l dC dI cI cD cR a_5 ff) (va_cwO 0 hts gX11_denier_X1_asks_u107X1 rfl rfl rfl (b0 := cX2_asks) (m0 := 1) (r0 := (some .int)) (by decide +kernel) (by decide +kernel) ⟨Nat.le_of_ble_eq_true rfl, Nat.le_of_ble_eq_true rfl⟩) (preV_R hCX (va_recv hK hPa (ci := 1) (q0 := 0) rfl rfl) (hPa)) rfl rfl hl.1 rfl (lv_room (Nat.le_of_ble_eq_true rfl)) dX11_denier_89 ⟨Nat.le_of_ble_eq_true (by first | rfl | decide), Nat.le_of_ble_eq_true (by first | rfl | decide)⟩).run) (fun r9 hr9 => ?_)
          subst hr9
          exact K9
        · refine vp_callSi ((va_runU (As := []) (rest := []) ⟨hx, hb, hml, hown, hts⟩ (c_X5_asks_k4 l dC dI cI cD cR a_5 ff) (va_cwO 0 hts gX11_denier_X5_asks_u107X5 rfl rfl rfl (b0 := cX2_asks) (m0 := 1) (r0 := (some .int)) (by decide +kernel) (by decide +kernel) ⟨Nat.le_of_ble_eq_true rfl, Nat.le_of_ble_eq_true rfl⟩) (preV_R hCX (va_recv hK hPa (ci := 5) (q0 := 0) rfl rfl) (hPa)) rfl rfl hl.1 rfl (lv_room (Nat.le_of_ble_eq_true rfl)) dX11_denier_89 ⟨Nat.le_of_ble_eq_true (by first | rfl | decide), Nat.le_of_ble_eq_true (by first | rfl | decide)⟩).run) (fun r9 hr9 => ?_)
          subst hr9
          exact K9
        · refine vp_callSi ((va_runU (As := []) (rest := []) ⟨hx, hb, hml, hown, hts⟩ (c_X6_asks l dC dI cI cD cR a_5 ff) (va_cwO 0 hts gX11_denier_X6_asks_u107X6 rfl rfl rfl (b0 := cX2_asks) (m0 := 1) (r0 := (some .int)) (by decide +kernel) (by decide +kernel) ⟨Nat.le_of_ble_eq_true rfl, Nat.le_of_ble_eq_true rfl⟩) (preV_R hCX (va_recv hK hPa (ci := 6) (q0 := 0) rfl rfl) (hPa)) rfl rfl hl.1 rfl (lv_room (Nat.le_of_ble_eq_true rfl)) dX11_denier_89 ⟨Nat.le_of_ble_eq_true (by first | rfl | decide), Nat.le_of_ble_eq_true (by first | rfl | decide)⟩).run) (fun r9 hr9 => ?_)
          subst hr9
          exact K9
        · refine vp_callSi ((va_runU (As := []) (rest := []) ⟨hx, hb, hml, hown, hts⟩ (c_X7_asks l dC dI cI cD cR a_5 ff) (va_cwO 0 hts gX11_denier_X7_asks_u107X7 rfl rfl rfl (b0 := cX2_asks) (m0 := 1) (r0 := (some .int)) (by decide +kernel) (by decide +kernel) ⟨Nat.le_of_ble_eq_true rfl, Nat.le_of_ble_eq_true rfl⟩) (preV_R hCX (va_recv hK hPa (ci := 7) (q0 := 0) rfl rfl) (hPa)) rfl rfl hl.1 rfl (lv_room (Nat.le_of_ble_eq_true rfl)) dX11_denier_89 ⟨Nat.le_of_ble_eq_true (by first | rfl | decide), Nat.le_of_ble_eq_true (by first | rfl | decide)⟩).run) (fun r9 hr9 => ?_)
          subst hr9
          exact K9
        · refine vp_callSi ((va_runU (As := []) (rest := []) ⟨hx, hb, hml, hown, hts⟩ (c_X0_asks l dC dI cI cD cR a_5 ff (by first | omega | assumption | exact gnd _ | exact gkn _ | exact Nat.lt_trans (gkn _) (by decide) | exact Nat.lt_trans (gnd _) (by decide) | exact Nat.lt_of_le_of_lt (pcN_le _) (by decide))) (va_cwO 0 hts gX11_denier_X0_asks_u107X0 rfl rfl rfl (b0 := cX2_asks) (m0 := 1) (r0 := (some .int)) (by decide +kernel) (by decide +kernel) ⟨Nat.le_of_ble_eq_true rfl, Nat.le_of_ble_eq_true rfl⟩) (preV_R hCX (va_recv hK hPa (ci := 0) (q0 := 0) rfl rfl) (hPa)) rfl rfl hl.1 rfl (lv_room (Nat.le_of_ble_eq_true rfl)) dX11_denier_89 ⟨Nat.le_of_ble_eq_true (by first | rfl | decide), Nat.le_of_ble_eq_true (by first | rfl | decide)⟩).run) (fun r9 hr9 => ?_)
          subst hr9
          exact K9
      exact W.iret (v := nI (asN (kd a_5) (fg a_5))) hx hb hr (fun T9 hT9 hW9 => ⟨_, rfl, (by (simp [denR, on1, kx, hv_5, k_16_4, oN_t h_y]) <;> first | rfl | omega), hT9⟩) (fun q h => by cases h) dX11_denier_92
    refine lv_tableOut (tgt := 93) hx hb dX11_denier_16 (by have z0 := sw_ne k_16_0 (i := 0) rfl; have z1 := sw_ne k_16_1 (i := 1) rfl; have z2 := sw_ne k_16_2 (i := 2) rfl; have z3 := sw_ne k_16_3 (i := 3) rfl; have z4 := sw_ne k_16_4 (i := 4) rfl; show _ ∨ _; omega) (by decide) ?_
    refine lv_iconst (v := (-1)) hx hb dX11_denier_93 (by decide +kernel) ?_
    exact W.iret (v := (-1)) hx hb hr (fun T9 hT9 hW9 => ⟨_, rfl, (by (simp [denR, on1, kx, hv_5, k_16_0, k_16_1, k_16_2, k_16_3, k_16_4, oN_t h_y]) <;> first | rfl | omega), hT9⟩) (fun q h => by cases h) dX11_denier_94
set_option maxHeartbeats 4000000 in
set_option maxRecDepth 100000 in
theorem c_X11_may (l : Launch) (dC : Nat → ClassId) (dI : Nat → Nat → Nat) (cI cD cR : ClassId) (x sN sM sP : Nat) (pt : Bool) (fo da ra : Nat) (n1 n2 n3 n4 n5 : Nat) (n d t al day : Nat) (nd : Nat → Nat) (mk si : Nat → Int32) (kn : Nat → Nat) (mb : Nat → Option Nat) (i : Int32) (DL : List Nat) (kd fg : Nat → Nat) (hn : n ≤ 9) (hd : d ≤ 6) (ht : t < 512) (hal : al < 64) (hday : day < 2 ^ 30) (gnd : ∀ i, nd i < 512) (gkn : ∀ j, kn j < 512) (gmb : ∀ j a, mb j = some a → a ∈ DL) : Met l yX11_may wsX11_may ({ frames := 6, cells := 0, slots := 0, locals := 139 }) (pcR dC dI cI cD cR [.ref x, .int i] (fun H => va_P (dC, dI) vwCl ([(x, .inr (11, [.ref sN, .ref sM, .ref sP, .int (bI pt), .ref fo, .ref da, .ref ra]))] ++ (schW cI cD sN n1 n2 n3 n4 n5 n d t al day nd mk si kn mb)) H ∧ DP dC dI DL kd fg H)) (vp_Si (fun r => r = (on1 (oN i d) (fun y => nI (orF (fun s9 => alB n al t kn nd mb kd fg y s9) n)) (-1)))) 0 0 (fun _ => False) := by
  refine Met.ofW (cc := cX11_may) (maxL := 2) (ret := (some .int)) (by decide) rfl ?_
  intro p e s m args below meth c s₁ B hml hv
  obtain ⟨rfl, hH0, hCX⟩ := hv
  have hx := B.exec
  have hb := B.bytes
  have hr := B.returns
  have hts := atoms_spec (ws := wsX11_may) B.pre
  have hown : s.vm.findClass RX11 = some m.cls := findClass_of_methodNamed B.named
  have hlocks := B.notSynchronized
  have hK := hCX.1
  obtain ⟨hP, hDP⟩ := hH0
  have hl := lv_entry ([.ref x, .int i]) (n := 2) (Nat.le_of_ble_eq_true rfl)
  rw [lg_entry_eq]
  generalize (lg_sl ([.ref x, .int i]) ++ List.replicate (2 - (lg_sl ([.ref x, .int i])).length) Slot.unset).toArray = ls at hl ⊢
  have hl : lv_has ls 2 [(0, .ref x), (1, .int i)] := hl
  rcases okI_or i (n := d) (by omega) with hb_i | ⟨y, h_y, rfl⟩
  · refine lv_aload_n hx hb dX11_may_0 rfl (lv_at hl 0 rfl) ?_
    refine va_get (D := (dC, dI)) (ci := 11) (v := .ref sN) (C := RX11) (T := TX11) (N := 7) hx hb hts (fun _ h => List.mem_cons_of_mem _ (List.mem_append_left _ (List.mem_append_left _ (List.mem_append_left _ (List.mem_append_left _ (List.mem_append_left _ (List.mem_append_left _ (List.mem_append_left _ (List.mem_append_left _ (List.mem_append_left _ (List.mem_append_right _ h))))))))))) hown hK hP 0 rfl rfl 0 (by decide) (hts (.fieldLink RX11 10 "HoldsOnceDenied" "now" "LHoldsOnceDenied$School;") (by decide +kernel)) (fun _ h9 => h9) rfl dX11_may_1 ?_
    refine lv_iload_n hx hb dX11_may_4 rfl (lv_at hl 1 rfl) ?_
    refine vp_callSi ((va_runV (As := [.int i]) (rest := []) ⟨hx, hb, hml, hown, hts⟩ (c_X9_hasDenier_f l dC dI cI cD cR sN n1 n2 n3 n4 n5 n d t al day nd mk si kn mb i (by first | omega | assumption | exact gnd _ | exact gkn _ | exact Nat.lt_trans (gkn _) (by decide) | exact Nat.lt_trans (gnd _) (by decide) | exact Nat.lt_of_le_of_lt (pcN_le _) (by decide)) (by first | omega | assumption | exact gnd _ | exact gkn _ | exact Nat.lt_trans (gkn _) (by decide) | exact Nat.lt_trans (gnd _) (by decide) | exact Nat.lt_of_le_of_lt (pcN_le _) (by decide)) (by first | omega | assumption | exact gnd _ | exact gkn _ | exact Nat.lt_trans (gkn _) (by decide) | exact Nat.lt_trans (gnd _) (by decide) | exact Nat.lt_of_le_of_lt (pcN_le _) (by decide)) (by first | omega | assumption | exact gnd _ | exact gkn _ | exact Nat.lt_trans (gkn _) (by decide) | exact Nat.lt_trans (gnd _) (by decide) | exact Nat.lt_of_le_of_lt (pcN_le _) (by decide)) (by first | omega | assumption | exact gnd _ | exact gkn _ | exact Nat.lt_trans (gkn _) (by decide) | exact Nat.lt_trans (gnd _) (by decide) | exact Nat.lt_of_le_of_lt (pcN_le _) (by decide)) gnd gkn (by first | omega | assumption | exact gnd _ | exact gkn _ | exact Nat.lt_trans (gkn _) (by decide) | exact Nat.lt_trans (gnd _) (by decide) | exact Nat.lt_of_le_of_lt (pcN_le _) (by decide))) (cwV 1 hts gX11_may_X9_hasDenier rfl rfl rfl (by decide +kernel) ⟨Nat.le_of_ble_eq_true rfl, Nat.le_of_ble_eq_true rfl⟩) (preV_R hCX (va_recv hK hP (ci := 9) (q0 := 1) rfl rfl) ((hP.sub (ws' := (schW cI cD sN n1 n2 n3 n4 n5 n d t al day nd mk si kn mb)) [1, 2, 3, 4, 5, 6] rfl))) rfl rfl hl.1 rfl (lv_room (Nat.le_of_ble_eq_true rfl)) dX11_may_5 ⟨Nat.le_of_ble_eq_true (by first | rfl | decide), Nat.le_of_ble_eq_true (by first | rfl | decide)⟩).run) (fun r_5 hr_5 => ?_)
    subst hr_5
    refine lv_if_eq (tgt := 22) hx hb dX11_may_8 (by decide) (fun _ => ?_) (fun z => absurd z (by decide +kernel))
    refine lv_iconst (v := (-1)) hx hb dX11_may_22 (by decide +kernel) ?_
    exact W.iret (v := (-1)) hx hb hr (fun T9 hT9 hW9 => ⟨_, rfl, (by (simp [on1, oN_f hb_i]) <;> first | rfl | omega), hT9⟩) (fun q h => by cases h) dX11_may_23
  refine lv_aload_n hx hb dX11_may_0 rfl (lv_at hl 0 rfl) ?_
  refine va_get (D := (dC, dI)) (ci := 11) (v := .ref sN) (C := RX11) (T := TX11) (N := 7) hx hb hts (fun _ h => List.mem_cons_of_mem _ (List.mem_append_left _ (List.mem_append_left _ (List.mem_append_left _ (List.mem_append_left _ (List.mem_append_left _ (List.mem_append_left _ (List.mem_append_left _ (List.mem_append_left _ (List.mem_append_left _ (List.mem_append_right _ h))))))))))) hown hK hP 0 rfl rfl 0 (by decide) (hts (.fieldLink RX11 10 "HoldsOnceDenied" "now" "LHoldsOnceDenied$School;") (by decide +kernel)) (fun _ h9 => h9) rfl dX11_may_1 ?_
  refine lv_iload_n hx hb dX11_may_4 rfl (lv_at hl 1 rfl) ?_
  refine vp_callSi ((va_runV (As := [.int (nI y)]) (rest := []) ⟨hx, hb, hml, hown, hts⟩ (c_X9_hasDenier_t l dC dI cI cD cR sN n1 n2 n3 n4 n5 n d t al day nd mk si kn mb y (by first | omega | assumption | exact gnd _ | exact gkn _ | exact Nat.lt_trans (gkn _) (by decide) | exact Nat.lt_trans (gnd _) (by decide) | exact Nat.lt_of_le_of_lt (pcN_le _) (by decide)) (by first | omega | assumption | exact gnd _ | exact gkn _ | exact Nat.lt_trans (gkn _) (by decide) | exact Nat.lt_trans (gnd _) (by decide) | exact Nat.lt_of_le_of_lt (pcN_le _) (by decide)) (by first | omega | assumption | exact gnd _ | exact gkn _ | exact Nat.lt_trans (gkn _) (by decide) | exact Nat.lt_trans (gnd _) (by decide) | exact Nat.lt_of_le_of_lt (pcN_le _) (by decide)) (by first | omega | assumption | exact gnd _ | exact gkn _ | exact Nat.lt_trans (gkn _) (by decide) | exact Nat.lt_trans (gnd _) (by decide) | exact Nat.lt_of_le_of_lt (pcN_le _) (by decide)) (by first | omega | assumption | exact gnd _ | exact gkn _ | exact Nat.lt_trans (gkn _) (by decide) | exact Nat.lt_trans (gnd _) (by decide) | exact Nat.lt_of_le_of_lt (pcN_le _) (by decide)) gnd gkn (by first | omega | assumption | exact gnd _ | exact gkn _ | exact Nat.lt_trans (gkn _) (by decide) | exact Nat.lt_trans (gnd _) (by decide) | exact Nat.lt_of_le_of_lt (pcN_le _) (by decide))) (cwV 1 hts gX11_may_X9_hasDenier rfl rfl rfl (by decide +kernel) ⟨Nat.le_of_ble_eq_true rfl, Nat.le_of_ble_eq_true rfl⟩) (preV_R hCX (va_recv hK hP (ci := 9) (q0 := 1) rfl rfl) ((hP.sub (ws' := (schW cI cD sN n1 n2 n3 n4 n5 n d t al day nd mk si kn mb)) [1, 2, 3, 4, 5, 6] rfl))) rfl rfl hl.1 rfl (lv_room (Nat.le_of_ble_eq_true rfl)) dX11_may_5 ⟨Nat.le_of_ble_eq_true (by first | rfl | decide), Nat.le_of_ble_eq_true (by first | rfl | decide)⟩).run) (fun r_5 hr_5 => ?_)
  subst hr_5
  refine lv_if_eq (tgt := 22) hx hb dX11_may_8 (by decide) (fun z => absurd z (by decide +kernel)) (fun _ => ?_)
  refine lv_aload_n hx hb dX11_may_11 rfl (lv_at hl 0 rfl) ?_
  refine va_get (D := (dC, dI)) (ci := 11) (v := .ref sN) (C := RX11) (T := TX11) (N := 7) hx hb hts (fun _ h => List.mem_cons_of_mem _ (List.mem_append_left _ (List.mem_append_left _ (List.mem_append_left _ (List.mem_append_left _ (List.mem_append_left _ (List.mem_append_left _ (List.mem_append_left _ (List.mem_append_left _ (List.mem_append_left _ (List.mem_append_right _ h))))))))))) hown hK hP 0 rfl rfl 0 (by decide) (hts (.fieldLink RX11 10 "HoldsOnceDenied" "now" "LHoldsOnceDenied$School;") (by decide +kernel)) (fun _ h9 => h9) rfl dX11_may_12 ?_
  refine lv_iload_n hx hb dX11_may_15 rfl (lv_at hl 1 rfl) ?_
  refine vp_callSi ((va_runV (As := [.int (nI y)]) (rest := []) ⟨hx, hb, hml, hown, hts⟩ (c_X9_allowedTo l dC dI cI cD cR sN n1 n2 n3 n4 n5 n d t al day nd mk si kn mb y DL kd fg (by first | omega | assumption | exact gnd _ | exact gkn _ | exact Nat.lt_trans (gkn _) (by decide) | exact Nat.lt_trans (gnd _) (by decide) | exact Nat.lt_of_le_of_lt (pcN_le _) (by decide)) (by first | omega | assumption | exact gnd _ | exact gkn _ | exact Nat.lt_trans (gkn _) (by decide) | exact Nat.lt_trans (gnd _) (by decide) | exact Nat.lt_of_le_of_lt (pcN_le _) (by decide)) (by first | omega | assumption | exact gnd _ | exact gkn _ | exact Nat.lt_trans (gkn _) (by decide) | exact Nat.lt_trans (gnd _) (by decide) | exact Nat.lt_of_le_of_lt (pcN_le _) (by decide)) (by first | omega | assumption | exact gnd _ | exact gkn _ | exact Nat.lt_trans (gkn _) (by decide) | exact Nat.lt_trans (gnd _) (by decide) | exact Nat.lt_of_le_of_lt (pcN_le _) (by decide)) (by first | omega | assumption | exact gnd _ | exact gkn _ | exact Nat.lt_trans (gkn _) (by decide) | exact Nat.lt_trans (gnd _) (by decide) | exact Nat.lt_of_le_of_lt (pcN_le _) (by decide)) gnd gkn (by first | omega | assumption | exact gnd _ | exact gkn _ | exact Nat.lt_trans (gkn _) (by decide) | exact Nat.lt_trans (gnd _) (by decide) | exact Nat.lt_of_le_of_lt (pcN_le _) (by decide)) gmb) (cwV 1 hts gX11_may_X9_allowedTo rfl rfl rfl (by decide +kernel) ⟨Nat.le_of_ble_eq_true rfl, Nat.le_of_ble_eq_true rfl⟩) (preV_R hCX (va_recv hK hP (ci := 9) (q0 := 1) rfl rfl) (⟨(hP.sub (ws' := (schW cI cD sN n1 n2 n3 n4 n5 n d t al day nd mk si kn mb)) [1, 2, 3, 4, 5, 6] rfl), hDP⟩)) rfl rfl hl.1 rfl (lv_room (Nat.le_of_ble_eq_true rfl)) dX11_may_16 ⟨Nat.le_of_ble_eq_true (by first | rfl | decide), Nat.le_of_ble_eq_true (by first | rfl | decide)⟩).run) (fun r_16 hr_16 => ?_)
  subst hr_16
  refine lv_goto (tgt := 23) hx hb dX11_may_19 (by decide) ?_
  exact W.iret (v := nI (orF (fun s9 => alB n al t kn nd mb kd fg y s9) n)) hx hb hr (fun T9 hT9 hW9 => ⟨_, rfl, (by (simp [on1, oN_t h_y]) <;> first | rfl | omega), hT9⟩) (fun q h => by cases h) dX11_may_23
set_option maxHeartbeats 4000000 in
set_option maxRecDepth 100000 in
theorem c_X11_silences (l : Launch) (dC : Nat → ClassId) (dI : Nat → Nat → Nat) (cI cD cR : ClassId) (x sN sM sP : Nat) (pt : Bool) (fo da ra : Nat) (n1 n2 n3 n4 n5 : Nat) (n d t al day : Nat) (nd : Nat → Nat) (mk si : Nat → Int32) (kn : Nat → Nat) (mb : Nat → Option Nat) (i : Int32) (DL : List Nat) (kd fg : Nat → Nat) (hn : n ≤ 9) (hd : d ≤ 6) (ht : t < 512) (hal : al < 64) (hday : day < 2 ^ 30) (gnd : ∀ i, nd i < 512) (gkn : ∀ j, kn j < 512) (gmb : ∀ j a, mb j = some a → a ∈ DL) : Met l yX11_silences wsX11_silences ({ frames := 5, cells := 0, slots := 0, locals := 119 }) (pcR dC dI cI cD cR [.ref x, .int i] (fun H => va_P (dC, dI) vwCl ([(x, .inr (11, [.ref sN, .ref sM, .ref sP, .int (bI pt), .ref fo, .ref da, .ref ra]))] ++ (schW cI cD sN n1 n2 n3 n4 n5 n d t al day nd mk si kn mb)) H ∧ DP dC dI DL kd fg H)) (vp_Si (fun r => r = (on1 (oN i d) (fun y => nI (slN n al t day kn nd mb kd fg y)) (-1)))) 0 0 (fun _ => False) := by
  refine Met.ofW (cc := cX11_silences) (maxL := 2) (ret := (some .int)) (by decide) rfl ?_
  intro p e s m args below meth c s₁ B hml hv
  obtain ⟨rfl, hH0, hCX⟩ := hv
  have hx := B.exec
  have hb := B.bytes
  have hr := B.returns
  have hts := atoms_spec (ws := wsX11_silences) B.pre
  have hown : s.vm.findClass RX11 = some m.cls := findClass_of_methodNamed B.named
  have hlocks := B.notSynchronized
  have hK := hCX.1
  obtain ⟨hP, hDP⟩ := hH0
  have hl := lv_entry ([.ref x, .int i]) (n := 2) (Nat.le_of_ble_eq_true rfl)
  rw [lg_entry_eq]
  generalize (lg_sl ([.ref x, .int i]) ++ List.replicate (2 - (lg_sl ([.ref x, .int i])).length) Slot.unset).toArray = ls at hl ⊢
  have hl : lv_has ls 2 [(0, .ref x), (1, .int i)] := hl
  rcases okI_or i (n := d) (by omega) with hb_i | ⟨y, h_y, rfl⟩
  · refine lv_aload_n hx hb dX11_silences_0 rfl (lv_at hl 0 rfl) ?_
    refine va_get (D := (dC, dI)) (ci := 11) (v := .ref sN) (C := RX11) (T := TX11) (N := 7) hx hb hts (fun _ h => List.mem_cons_of_mem _ (List.mem_append_left _ (List.mem_append_left _ (List.mem_append_left _ (List.mem_append_left _ (List.mem_append_left _ (List.mem_append_left _ (List.mem_append_left _ (List.mem_append_left _ (List.mem_append_left _ (List.mem_append_right _ h))))))))))) hown hK hP 0 rfl rfl 0 (by decide) (hts (.fieldLink RX11 10 "HoldsOnceDenied" "now" "LHoldsOnceDenied$School;") (by decide +kernel)) (fun _ h9 => h9) rfl dX11_silences_1 ?_
    refine lv_iload_n hx hb dX11_silences_4 rfl (lv_at hl 1 rfl) ?_
    refine vp_callSi ((va_runV (As := [.int i]) (rest := []) ⟨hx, hb, hml, hown, hts⟩ (c_X9_hasDenier_f l dC dI cI cD cR sN n1 n2 n3 n4 n5 n d t al day nd mk si kn mb i (by first | omega | assumption | exact gnd _ | exact gkn _ | exact Nat.lt_trans (gkn _) (by decide) | exact Nat.lt_trans (gnd _) (by decide) | exact Nat.lt_of_le_of_lt (pcN_le _) (by decide)) (by first | omega | assumption | exact gnd _ | exact gkn _ | exact Nat.lt_trans (gkn _) (by decide) | exact Nat.lt_trans (gnd _) (by decide) | exact Nat.lt_of_le_of_lt (pcN_le _) (by decide)) (by first | omega | assumption | exact gnd _ | exact gkn _ | exact Nat.lt_trans (gkn _) (by decide) | exact Nat.lt_trans (gnd _) (by decide) | exact Nat.lt_of_le_of_lt (pcN_le _) (by decide)) (by first | omega | assumption | exact gnd _ | exact gkn _ | exact Nat.lt_trans (gkn _) (by decide) | exact Nat.lt_trans (gnd _) (by decide) | exact Nat.lt_of_le_of_lt (pcN_le _) (by decide)) (by first | omega | assumption | exact gnd _ | exact gkn _ | exact Nat.lt_trans (gkn _) (by decide) | exact Nat.lt_trans (gnd _) (by decide) | exact Nat.lt_of_le_of_lt (pcN_le _) (by decide)) gnd gkn (by first | omega | assumption | exact gnd _ | exact gkn _ | exact Nat.lt_trans (gkn _) (by decide) | exact Nat.lt_trans (gnd _) (by decide) | exact Nat.lt_of_le_of_lt (pcN_le _) (by decide))) (cwV 1 hts gX11_silences_X9_hasDenier rfl rfl rfl (by decide +kernel) ⟨Nat.le_of_ble_eq_true rfl, Nat.le_of_ble_eq_true rfl⟩) (preV_R hCX (va_recv hK hP (ci := 9) (q0 := 1) rfl rfl) ((hP.sub (ws' := (schW cI cD sN n1 n2 n3 n4 n5 n d t al day nd mk si kn mb)) [1, 2, 3, 4, 5, 6] rfl))) rfl rfl hl.1 rfl (lv_room (Nat.le_of_ble_eq_true rfl)) dX11_silences_5 ⟨Nat.le_of_ble_eq_true (by first | rfl | decide), Nat.le_of_ble_eq_true (by first | rfl | decide)⟩).run) (fun r_5 hr_5 => ?_)
    subst hr_5
    refine lv_if_eq (tgt := 22) hx hb dX11_silences_8 (by decide) (fun _ => ?_) (fun z => absurd z (by decide +kernel))
    refine lv_iconst (v := (-1)) hx hb dX11_silences_22 (by decide +kernel) ?_
    exact W.iret (v := (-1)) hx hb hr (fun T9 hT9 hW9 => ⟨_, rfl, (by (simp [on1, oN_f hb_i]) <;> first | rfl | omega), hT9⟩) (fun q h => by cases h) dX11_silences_23
  refine lv_aload_n hx hb dX11_silences_0 rfl (lv_at hl 0 rfl) ?_
  refine va_get (D := (dC, dI)) (ci := 11) (v := .ref sN) (C := RX11) (T := TX11) (N := 7) hx hb hts (fun _ h => List.mem_cons_of_mem _ (List.mem_append_left _ (List.mem_append_left _ (List.mem_append_left _ (List.mem_append_left _ (List.mem_append_left _ (List.mem_append_left _ (List.mem_append_left _ (List.mem_append_left _ (List.mem_append_left _ (List.mem_append_right _ h))))))))))) hown hK hP 0 rfl rfl 0 (by decide) (hts (.fieldLink RX11 10 "HoldsOnceDenied" "now" "LHoldsOnceDenied$School;") (by decide +kernel)) (fun _ h9 => h9) rfl dX11_silences_1 ?_
  refine lv_iload_n hx hb dX11_silences_4 rfl (lv_at hl 1 rfl) ?_
  refine vp_callSi ((va_runV (As := [.int (nI y)]) (rest := []) ⟨hx, hb, hml, hown, hts⟩ (c_X9_hasDenier_t l dC dI cI cD cR sN n1 n2 n3 n4 n5 n d t al day nd mk si kn mb y (by first | omega | assumption | exact gnd _ | exact gkn _ | exact Nat.lt_trans (gkn _) (by decide) | exact Nat.lt_trans (gnd _) (by decide) | exact Nat.lt_of_le_of_lt (pcN_le _) (by decide)) (by first | omega | assumption | exact gnd _ | exact gkn _ | exact Nat.lt_trans (gkn _) (by decide) | exact Nat.lt_trans (gnd _) (by decide) | exact Nat.lt_of_le_of_lt (pcN_le _) (by decide)) (by first | omega | assumption | exact gnd _ | exact gkn _ | exact Nat.lt_trans (gkn _) (by decide) | exact Nat.lt_trans (gnd _) (by decide) | exact Nat.lt_of_le_of_lt (pcN_le _) (by decide)) (by first | omega | assumption | exact gnd _ | exact gkn _ | exact Nat.lt_trans (gkn _) (by decide) | exact Nat.lt_trans (gnd _) (by decide) | exact Nat.lt_of_le_of_lt (pcN_le _) (by decide)) (by first | omega | assumption | exact gnd _ | exact gkn _ | exact Nat.lt_trans (gkn _) (by decide) | exact Nat.lt_trans (gnd _) (by decide) | exact Nat.lt_of_le_of_lt (pcN_le _) (by decide)) gnd gkn (by first | omega | assumption | exact gnd _ | exact gkn _ | exact Nat.lt_trans (gkn _) (by decide) | exact Nat.lt_trans (gnd _) (by decide) | exact Nat.lt_of_le_of_lt (pcN_le _) (by decide))) (cwV 1 hts gX11_silences_X9_hasDenier rfl rfl rfl (by decide +kernel) ⟨Nat.le_of_ble_eq_true rfl, Nat.le_of_ble_eq_true rfl⟩) (preV_R hCX (va_recv hK hP (ci := 9) (q0 := 1) rfl rfl) ((hP.sub (ws' := (schW cI cD sN n1 n2 n3 n4 n5 n d t al day nd mk si kn mb)) [1, 2, 3, 4, 5, 6] rfl))) rfl rfl hl.1 rfl (lv_room (Nat.le_of_ble_eq_true rfl)) dX11_silences_5 ⟨Nat.le_of_ble_eq_true (by first | rfl | decide), Nat.le_of_ble_eq_true (by first | rfl | decide)⟩).run) (fun r_5 hr_5 => ?_)
  subst hr_5
  refine lv_if_eq (tgt := 22) hx hb dX11_silences_8 (by decide) (fun z => absurd z (by decide +kernel)) (fun _ => ?_)
  refine lv_aload_n hx hb dX11_silences_11 rfl (lv_at hl 0 rfl) ?_
  refine va_get (D := (dC, dI)) (ci := 11) (v := .ref sN) (C := RX11) (T := TX11) (N := 7) hx hb hts (fun _ h => List.mem_cons_of_mem _ (List.mem_append_left _ (List.mem_append_left _ (List.mem_append_left _ (List.mem_append_left _ (List.mem_append_left _ (List.mem_append_left _ (List.mem_append_left _ (List.mem_append_left _ (List.mem_append_left _ (List.mem_append_right _ h))))))))))) hown hK hP 0 rfl rfl 0 (by decide) (hts (.fieldLink RX11 10 "HoldsOnceDenied" "now" "LHoldsOnceDenied$School;") (by decide +kernel)) (fun _ h9 => h9) rfl dX11_silences_12 ?_
  refine lv_iload_n hx hb dX11_silences_15 rfl (lv_at hl 1 rfl) ?_
  refine vp_callSi ((va_runV (As := [.int (nI y)]) (rest := []) ⟨hx, hb, hml, hown, hts⟩ (c_X9_silencingFor l dC dI cI cD cR sN n1 n2 n3 n4 n5 n d t al day nd mk si kn mb y DL kd fg (by first | omega | assumption | exact gnd _ | exact gkn _ | exact Nat.lt_trans (gkn _) (by decide) | exact Nat.lt_trans (gnd _) (by decide) | exact Nat.lt_of_le_of_lt (pcN_le _) (by decide)) (by first | omega | assumption | exact gnd _ | exact gkn _ | exact Nat.lt_trans (gkn _) (by decide) | exact Nat.lt_trans (gnd _) (by decide) | exact Nat.lt_of_le_of_lt (pcN_le _) (by decide)) (by first | omega | assumption | exact gnd _ | exact gkn _ | exact Nat.lt_trans (gkn _) (by decide) | exact Nat.lt_trans (gnd _) (by decide) | exact Nat.lt_of_le_of_lt (pcN_le _) (by decide)) (by first | omega | assumption | exact gnd _ | exact gkn _ | exact Nat.lt_trans (gkn _) (by decide) | exact Nat.lt_trans (gnd _) (by decide) | exact Nat.lt_of_le_of_lt (pcN_le _) (by decide)) (by first | omega | assumption | exact gnd _ | exact gkn _ | exact Nat.lt_trans (gkn _) (by decide) | exact Nat.lt_trans (gnd _) (by decide) | exact Nat.lt_of_le_of_lt (pcN_le _) (by decide)) gnd gkn (by first | omega | assumption | exact gnd _ | exact gkn _ | exact Nat.lt_trans (gkn _) (by decide) | exact Nat.lt_trans (gnd _) (by decide) | exact Nat.lt_of_le_of_lt (pcN_le _) (by decide)) gmb) (cwV 1 hts gX11_silences_X9_silencingFor rfl rfl rfl (by decide +kernel) ⟨Nat.le_of_ble_eq_true rfl, Nat.le_of_ble_eq_true rfl⟩) (preV_R hCX (va_recv hK hP (ci := 9) (q0 := 1) rfl rfl) (⟨(hP.sub (ws' := (schW cI cD sN n1 n2 n3 n4 n5 n d t al day nd mk si kn mb)) [1, 2, 3, 4, 5, 6] rfl), hDP⟩)) rfl rfl hl.1 rfl (lv_room (Nat.le_of_ble_eq_true rfl)) dX11_silences_16 ⟨Nat.le_of_ble_eq_true (by first | rfl | decide), Nat.le_of_ble_eq_true (by first | rfl | decide)⟩).run) (fun r_16 hr_16 => ?_)
  subst hr_16
  refine lv_goto (tgt := 23) hx hb dX11_silences_19 (by decide) ?_
  exact W.iret (v := nI (slN n al t day kn nd mb kd fg y)) hx hb hr (fun T9 hT9 hW9 => ⟨_, rfl, (by (simp [on1, oN_t h_y]) <;> first | rfl | omega), hT9⟩) (fun q h => by cases h) dX11_silences_23
set_option maxHeartbeats 4000000 in
set_option maxRecDepth 100000 in
theorem c_X11_steps (l : Launch) (dC : Nat → ClassId) (dI : Nat → Nat → Nat) (cI cD cR : ClassId) (x sN sM sP : Nat) (pt : Bool) (fo da ra : Nat) (n1 n2 n3 n4 n5 : Nat) (n d t al day : Nat) (nd : Nat → Nat) (mk si : Nat → Int32) (kn : Nat → Nat) (mb : Nat → Option Nat) (i j : Int32) (DL : List Nat) (kd fg : Nat → Nat) (hn : n ≤ 9) (hd : d ≤ 6) (ht : t < 512) (hal : al < 64) (hday : day < 2 ^ 30) (gnd : ∀ i, nd i < 512) (gkn : ∀ j, kn j < 512) (gmb : ∀ j a, mb j = some a → a ∈ DL) (gmn : ∀ j, d ≤ j → mb j = none) (gms : ∀ j, j < d → ∃ a, mb j = some a) : Met l yX11_steps wsX11_steps ({ frames := 3, cells := 0, slots := 0, locals := 63 }) (pcR dC dI cI cD cR [.ref x, .int i, .int j] (fun H => va_P (dC, dI) vwCl ([(x, .inr (11, [.ref sN, .ref sM, .ref sP, .int (bI pt), .ref fo, .ref da, .ref ra]))] ++ (schW cI cD sN n1 n2 n3 n4 n5 n d t al day nd mk si kn mb)) H ∧ DP dC dI DL kd fg H)) (vp_Si (fun r => r = (on2 (oN i d) (oN j n) (fun y s => nI (efN (kx kd mb y) (kx fg mb y) (pcN (nd s)))) (-1)))) 0 0 (fun _ => False) := by
  refine Met.ofW (cc := cX11_steps) (maxL := 4) (ret := (some .int)) (by decide) rfl ?_
  intro p e s m args below meth c s₁ B hml hv
  obtain ⟨rfl, hH0, hCX⟩ := hv
  have hx := B.exec
  have hb := B.bytes
  have hr := B.returns
  have hts := atoms_spec (ws := wsX11_steps) B.pre
  have hown : s.vm.findClass RX11 = some m.cls := findClass_of_methodNamed B.named
  have hlocks := B.notSynchronized
  have hK := hCX.1
  obtain ⟨hP, hDP⟩ := hH0
  have hl := lv_entry ([.ref x, .int i, .int j]) (n := 4) (Nat.le_of_ble_eq_true rfl)
  rw [lg_entry_eq]
  generalize (lg_sl ([.ref x, .int i, .int j]) ++ List.replicate (4 - (lg_sl ([.ref x, .int i, .int j])).length) Slot.unset).toArray = ls at hl ⊢
  have hl : lv_has ls 4 [(0, .ref x), (1, .int i), (2, .int j)] := hl
  rcases okI_or i (n := d) (by omega) with hb_i | ⟨y, h_y, rfl⟩
  · refine lv_aload_n hx hb dX11_steps_0 rfl (lv_at hl 0 rfl) ?_
    refine va_get (D := (dC, dI)) (ci := 11) (v := .ref sN) (C := RX11) (T := TX11) (N := 7) hx hb hts (fun _ h => List.mem_cons_of_mem _ (List.mem_append_left _ (List.mem_append_left _ (List.mem_append_left _ (List.mem_append_left _ (List.mem_append_left _ (List.mem_append_left _ (List.mem_append_left _ (List.mem_append_left _ (List.mem_append_left _ (List.mem_append_right _ h))))))))))) hown hK hP 0 rfl rfl 0 (by decide) (hts (.fieldLink RX11 10 "HoldsOnceDenied" "now" "LHoldsOnceDenied$School;") (by decide +kernel)) (fun _ h9 => h9) rfl dX11_steps_1 ?_
    refine lv_iload_n hx hb dX11_steps_4 rfl (lv_at hl 1 rfl) ?_
    refine va_csq ((va_runV (As := [.int i]) (rest := []) ⟨hx, hb, hml, hown, hts⟩ (c_X9_memberAt_f l dC dI cI cD cR sN n1 n2 n3 n4 n5 n d t al day nd mk si kn mb i (by first | omega | assumption | exact gnd _ | exact gkn _ | exact Nat.lt_trans (gkn _) (by decide) | exact Nat.lt_trans (gnd _) (by decide) | exact Nat.lt_of_le_of_lt (pcN_le _) (by decide)) (by first | omega | assumption | exact gnd _ | exact gkn _ | exact Nat.lt_trans (gkn _) (by decide) | exact Nat.lt_trans (gnd _) (by decide) | exact Nat.lt_of_le_of_lt (pcN_le _) (by decide)) (by first | omega | assumption | exact gnd _ | exact gkn _ | exact Nat.lt_trans (gkn _) (by decide) | exact Nat.lt_trans (gnd _) (by decide) | exact Nat.lt_of_le_of_lt (pcN_le _) (by decide)) (by first | omega | assumption | exact gnd _ | exact gkn _ | exact Nat.lt_trans (gkn _) (by decide) | exact Nat.lt_trans (gnd _) (by decide) | exact Nat.lt_of_le_of_lt (pcN_le _) (by decide)) (by first | omega | assumption | exact gnd _ | exact gkn _ | exact Nat.lt_trans (gkn _) (by decide) | exact Nat.lt_trans (gnd _) (by decide) | exact Nat.lt_of_le_of_lt (pcN_le _) (by decide)) gnd gkn (by first | omega | assumption | exact gnd _ | exact gkn _ | exact Nat.lt_trans (gkn _) (by decide) | exact Nat.lt_trans (gnd _) (by decide) | exact Nat.lt_of_le_of_lt (pcN_le _) (by decide)) gmn) (cwV 1 hts gX11_steps_X9_memberAt rfl rfl rfl (by decide +kernel) ⟨Nat.le_of_ble_eq_true rfl, Nat.le_of_ble_eq_true rfl⟩) (preV_R hCX (va_recv hK hP (ci := 9) (q0 := 1) rfl rfl) ((hP.sub (ws' := (schW cI cD sN n1 n2 n3 n4 n5 n d t al day nd mk si kn mb)) [1, 2, 3, 4, 5, 6] rfl))) rfl rfl hl.1 rfl (lv_room (Nat.le_of_ble_eq_true rfl)) dX11_steps_5 ⟨Nat.le_of_ble_eq_true (by first | rfl | decide), Nat.le_of_ble_eq_true (by first | rfl | decide)⟩).run) (fun r_5 hr_5 => ?_)
    subst hr_5
    refine ho_topr (y := .null) rfl ?_
    refine lv_astore_nN (lv' := [(3, .null), (0, .ref x), (1, .int i), (2, .int j)]) hx hb dX11_steps_8 rfl hl (by decide) rfl (fun ls hl => ?_)
    refine lv_aload_nN hx hb dX11_steps_9 rfl (lv_at hl 0 rfl) ?_
    refine lv_ifnullN (tgt := 24) hx hb dX11_steps_10 (by decide) ?_
    refine lv_iconst (v := (-1)) hx hb dX11_steps_24 (by decide +kernel) ?_
    exact W.iret (v := (-1)) hx hb hr (fun T9 hT9 hW9 => ⟨_, rfl, (by (simp [on2, on1, kx, oN_f hb_i]) <;> first | rfl | omega), hT9⟩) (fun q h => by cases h) dX11_steps_25
  rcases okI_or j (n := n) (by omega) with hb_j | ⟨v, h_v, rfl⟩
  · refine lv_aload_n hx hb dX11_steps_0 rfl (lv_at hl 0 rfl) ?_
    refine va_get (D := (dC, dI)) (ci := 11) (v := .ref sN) (C := RX11) (T := TX11) (N := 7) hx hb hts (fun _ h => List.mem_cons_of_mem _ (List.mem_append_left _ (List.mem_append_left _ (List.mem_append_left _ (List.mem_append_left _ (List.mem_append_left _ (List.mem_append_left _ (List.mem_append_left _ (List.mem_append_left _ (List.mem_append_left _ (List.mem_append_right _ h))))))))))) hown hK hP 0 rfl rfl 0 (by decide) (hts (.fieldLink RX11 10 "HoldsOnceDenied" "now" "LHoldsOnceDenied$School;") (by decide +kernel)) (fun _ h9 => h9) rfl dX11_steps_1 ?_
    refine lv_iload_n hx hb dX11_steps_4 rfl (lv_at hl 1 rfl) ?_
    refine va_csq ((va_runV (As := [.int (nI y)]) (rest := []) ⟨hx, hb, hml, hown, hts⟩ (c_X9_memberAt l dC dI cI cD cR sN n1 n2 n3 n4 n5 n d t al day nd mk si kn mb y (by first | omega | assumption | exact gnd _ | exact gkn _ | exact Nat.lt_trans (gkn _) (by decide) | exact Nat.lt_trans (gnd _) (by decide) | exact Nat.lt_of_le_of_lt (pcN_le _) (by decide)) (by first | omega | assumption | exact gnd _ | exact gkn _ | exact Nat.lt_trans (gkn _) (by decide) | exact Nat.lt_trans (gnd _) (by decide) | exact Nat.lt_of_le_of_lt (pcN_le _) (by decide)) (by first | omega | assumption | exact gnd _ | exact gkn _ | exact Nat.lt_trans (gkn _) (by decide) | exact Nat.lt_trans (gnd _) (by decide) | exact Nat.lt_of_le_of_lt (pcN_le _) (by decide)) (by first | omega | assumption | exact gnd _ | exact gkn _ | exact Nat.lt_trans (gkn _) (by decide) | exact Nat.lt_trans (gnd _) (by decide) | exact Nat.lt_of_le_of_lt (pcN_le _) (by decide)) (by first | omega | assumption | exact gnd _ | exact gkn _ | exact Nat.lt_trans (gkn _) (by decide) | exact Nat.lt_trans (gnd _) (by decide) | exact Nat.lt_of_le_of_lt (pcN_le _) (by decide)) gnd gkn (by first | omega | assumption | exact gnd _ | exact gkn _ | exact Nat.lt_trans (gkn _) (by decide) | exact Nat.lt_trans (gnd _) (by decide) | exact Nat.lt_of_le_of_lt (pcN_le _) (by decide))) (cwV 1 hts gX11_steps_X9_memberAt rfl rfl rfl (by decide +kernel) ⟨Nat.le_of_ble_eq_true rfl, Nat.le_of_ble_eq_true rfl⟩) (preV_R hCX (va_recv hK hP (ci := 9) (q0 := 1) rfl rfl) ((hP.sub (ws' := (schW cI cD sN n1 n2 n3 n4 n5 n d t al day nd mk si kn mb)) [1, 2, 3, 4, 5, 6] rfl))) rfl rfl hl.1 rfl (lv_room (Nat.le_of_ble_eq_true rfl)) dX11_steps_5 ⟨Nat.le_of_ble_eq_true (by first | rfl | decide), Nat.le_of_ble_eq_true (by first | rfl | decide)⟩).run) (fun r_5 hr_5 => ?_)
    subst hr_5
    cases hv_5 : mb y with
    | none =>
      refine ho_topr (y := .null) rfl ?_
      obtain ⟨a9, ha9⟩ := gms _ h_y
      rw [hv_5] at ha9; cases ha9
    | some a_5 =>
      refine ho_topr (y := .ref a_5) rfl ?_
      have hda_5 : a_5 ∈ DL := gmb _ _ hv_5
      refine lv_astore_n (lv' := [(3, .ref a_5), (0, .ref x), (1, .int (nI y)), (2, .int j)]) hx hb dX11_steps_8 rfl hl (by decide) rfl (fun ls hl => ?_)
      refine lv_aload_n hx hb dX11_steps_9 rfl (lv_at hl 0 rfl) ?_
      refine lv_ifnull hx hb dX11_steps_10 ?_
      refine lv_aload_n hx hb dX11_steps_13 rfl (lv_at hl 1 rfl) ?_
      refine va_get (D := (dC, dI)) (ci := 11) (v := .ref sN) (C := RX11) (T := TX11) (N := 7) hx hb hts (fun _ h => List.mem_cons_of_mem _ (List.mem_append_left _ (List.mem_append_left _ (List.mem_append_left _ (List.mem_append_left _ (List.mem_append_left _ (List.mem_append_left _ (List.mem_append_left _ (List.mem_append_left _ (List.mem_append_left _ (List.mem_append_right _ h))))))))))) hown hK hP 0 rfl rfl 0 (by decide) (hts (.fieldLink RX11 10 "HoldsOnceDenied" "now" "LHoldsOnceDenied$School;") (by decide +kernel)) (fun _ h9 => h9) rfl dX11_steps_14 ?_
      refine lv_iload_n hx hb dX11_steps_17 rfl (lv_at hl 3 rfl) ?_
      refine vp_callSi ((va_runV (As := [.int j]) (rest := []) ⟨hx, hb, hml, hown, hts⟩ (c_X9_hasSentence_f l dC dI cI cD cR sN n1 n2 n3 n4 n5 n d t al day nd mk si kn mb j (by first | omega | assumption | exact gnd _ | exact gkn _ | exact Nat.lt_trans (gkn _) (by decide) | exact Nat.lt_trans (gnd _) (by decide) | exact Nat.lt_of_le_of_lt (pcN_le _) (by decide)) (by first | omega | assumption | exact gnd _ | exact gkn _ | exact Nat.lt_trans (gkn _) (by decide) | exact Nat.lt_trans (gnd _) (by decide) | exact Nat.lt_of_le_of_lt (pcN_le _) (by decide)) (by first | omega | assumption | exact gnd _ | exact gkn _ | exact Nat.lt_trans (gkn _) (by decide) | exact Nat.lt_trans (gnd _) (by decide) | exact Nat.lt_of_le_of_lt (pcN_le _) (by decide)) (by first | omega | assumption | exact gnd _ | exact gkn _ | exact Nat.lt_trans (gkn _) (by decide) | exact Nat.lt_trans (gnd _) (by decide) | exact Nat.lt_of_le_of_lt (pcN_le _) (by decide)) (by first | omega | assumption | exact gnd _ | exact gkn _ | exact Nat.lt_trans (gkn _) (by decide) | exact Nat.lt_trans (gnd _) (by decide) | exact Nat.lt_of_le_of_lt (pcN_le _) (by decide)) gnd gkn (by first | omega | assumption | exact gnd _ | exact gkn _ | exact Nat.lt_trans (gkn _) (by decide) | exact Nat.lt_trans (gnd _) (by decide) | exact Nat.lt_of_le_of_lt (pcN_le _) (by decide))) (cwV 1 hts gX11_steps_X9_hasSentence rfl rfl rfl (by decide +kernel) ⟨Nat.le_of_ble_eq_true rfl, Nat.le_of_ble_eq_true rfl⟩) (preV_R hCX (va_recv hK hP (ci := 9) (q0 := 1) rfl rfl) ((hP.sub (ws' := (schW cI cD sN n1 n2 n3 n4 n5 n d t al day nd mk si kn mb)) [1, 2, 3, 4, 5, 6] rfl))) rfl rfl hl.1 rfl (lv_room (Nat.le_of_ble_eq_true rfl)) dX11_steps_18 ⟨Nat.le_of_ble_eq_true (by first | rfl | decide), Nat.le_of_ble_eq_true (by first | rfl | decide)⟩).run) (fun r_18 hr_18 => ?_)
      subst hr_18
      refine lv_if_ne (tgt := 26) hx hb dX11_steps_21 (by decide) (fun z => absurd z (by decide +kernel)) (fun _ => ?_)
      refine lv_iconst (v := (-1)) hx hb dX11_steps_24 (by decide +kernel) ?_
      exact W.iret (v := (-1)) hx hb hr (fun T9 hT9 hW9 => ⟨_, rfl, (by (simp [on2, on1, kx, hv_5, oN_t h_y, oN_f hb_j]) <;> first | rfl | omega), hT9⟩) (fun q h => by cases h) dX11_steps_25
  refine lv_aload_n hx hb dX11_steps_0 rfl (lv_at hl 0 rfl) ?_
  refine va_get (D := (dC, dI)) (ci := 11) (v := .ref sN) (C := RX11) (T := TX11) (N := 7) hx hb hts (fun _ h => List.mem_cons_of_mem _ (List.mem_append_left _ (List.mem_append_left _ (List.mem_append_left _ (List.mem_append_left _ (List.mem_append_left _ (List.mem_append_left _ (List.mem_append_left _ (List.mem_append_left _ (List.mem_append_left _ (List.mem_append_right _ h))))))))))) hown hK hP 0 rfl rfl 0 (by decide) (hts (.fieldLink RX11 10 "HoldsOnceDenied" "now" "LHoldsOnceDenied$School;") (by decide +kernel)) (fun _ h9 => h9) rfl dX11_steps_1 ?_
  refine lv_iload_n hx hb dX11_steps_4 rfl (lv_at hl 1 rfl) ?_
  refine va_csq ((va_runV (As := [.int (nI y)]) (rest := []) ⟨hx, hb, hml, hown, hts⟩ (c_X9_memberAt l dC dI cI cD cR sN n1 n2 n3 n4 n5 n d t al day nd mk si kn mb y (by first | omega | assumption | exact gnd _ | exact gkn _ | exact Nat.lt_trans (gkn _) (by decide) | exact Nat.lt_trans (gnd _) (by decide) | exact Nat.lt_of_le_of_lt (pcN_le _) (by decide)) (by first | omega | assumption | exact gnd _ | exact gkn _ | exact Nat.lt_trans (gkn _) (by decide) | exact Nat.lt_trans (gnd _) (by decide) | exact Nat.lt_of_le_of_lt (pcN_le _) (by decide)) (by first | omega | assumption | exact gnd _ | exact gkn _ | exact Nat.lt_trans (gkn _) (by decide) | exact Nat.lt_trans (gnd _) (by decide) | exact Nat.lt_of_le_of_lt (pcN_le _) (by decide)) (by first | omega | assumption | exact gnd _ | exact gkn _ | exact Nat.lt_trans (gkn _) (by decide) | exact Nat.lt_trans (gnd _) (by decide) | exact Nat.lt_of_le_of_lt (pcN_le _) (by decide)) (by first | omega | assumption | exact gnd _ | exact gkn _ | exact Nat.lt_trans (gkn _) (by decide) | exact Nat.lt_trans (gnd _) (by decide) | exact Nat.lt_of_le_of_lt (pcN_le _) (by decide)) gnd gkn (by first | omega | assumption | exact gnd _ | exact gkn _ | exact Nat.lt_trans (gkn _) (by decide) | exact Nat.lt_trans (gnd _) (by decide) | exact Nat.lt_of_le_of_lt (pcN_le _) (by decide))) (cwV 1 hts gX11_steps_X9_memberAt rfl rfl rfl (by decide +kernel) ⟨Nat.le_of_ble_eq_true rfl, Nat.le_of_ble_eq_true rfl⟩) (preV_R hCX (va_recv hK hP (ci := 9) (q0 := 1) rfl rfl) ((hP.sub (ws' := (schW cI cD sN n1 n2 n3 n4 n5 n d t al day nd mk si kn mb)) [1, 2, 3, 4, 5, 6] rfl))) rfl rfl hl.1 rfl (lv_room (Nat.le_of_ble_eq_true rfl)) dX11_steps_5 ⟨Nat.le_of_ble_eq_true (by first | rfl | decide), Nat.le_of_ble_eq_true (by first | rfl | decide)⟩).run) (fun r_5 hr_5 => ?_)
  subst hr_5
  cases hv_5 : mb y with
  | none =>
    refine ho_topr (y := .null) rfl ?_
    obtain ⟨a9, ha9⟩ := gms _ h_y
    rw [hv_5] at ha9; cases ha9
  | some a_5 =>
    refine ho_topr (y := .ref a_5) rfl ?_
    have hda_5 : a_5 ∈ DL := gmb _ _ hv_5
    refine lv_astore_n (lv' := [(3, .ref a_5), (0, .ref x), (1, .int (nI y)), (2, .int (nI v))]) hx hb dX11_steps_8 rfl hl (by decide) rfl (fun ls hl => ?_)
    refine lv_aload_n hx hb dX11_steps_9 rfl (lv_at hl 0 rfl) ?_
    refine lv_ifnull hx hb dX11_steps_10 ?_
    refine lv_aload_n hx hb dX11_steps_13 rfl (lv_at hl 1 rfl) ?_
    refine va_get (D := (dC, dI)) (ci := 11) (v := .ref sN) (C := RX11) (T := TX11) (N := 7) hx hb hts (fun _ h => List.mem_cons_of_mem _ (List.mem_append_left _ (List.mem_append_left _ (List.mem_append_left _ (List.mem_append_left _ (List.mem_append_left _ (List.mem_append_left _ (List.mem_append_left _ (List.mem_append_left _ (List.mem_append_left _ (List.mem_append_right _ h))))))))))) hown hK hP 0 rfl rfl 0 (by decide) (hts (.fieldLink RX11 10 "HoldsOnceDenied" "now" "LHoldsOnceDenied$School;") (by decide +kernel)) (fun _ h9 => h9) rfl dX11_steps_14 ?_
    refine lv_iload_n hx hb dX11_steps_17 rfl (lv_at hl 3 rfl) ?_
    refine vp_callSi ((va_runV (As := [.int (nI v)]) (rest := []) ⟨hx, hb, hml, hown, hts⟩ (c_X9_hasSentence_t l dC dI cI cD cR sN n1 n2 n3 n4 n5 n d t al day nd mk si kn mb v (by first | omega | assumption | exact gnd _ | exact gkn _ | exact Nat.lt_trans (gkn _) (by decide) | exact Nat.lt_trans (gnd _) (by decide) | exact Nat.lt_of_le_of_lt (pcN_le _) (by decide)) (by first | omega | assumption | exact gnd _ | exact gkn _ | exact Nat.lt_trans (gkn _) (by decide) | exact Nat.lt_trans (gnd _) (by decide) | exact Nat.lt_of_le_of_lt (pcN_le _) (by decide)) (by first | omega | assumption | exact gnd _ | exact gkn _ | exact Nat.lt_trans (gkn _) (by decide) | exact Nat.lt_trans (gnd _) (by decide) | exact Nat.lt_of_le_of_lt (pcN_le _) (by decide)) (by first | omega | assumption | exact gnd _ | exact gkn _ | exact Nat.lt_trans (gkn _) (by decide) | exact Nat.lt_trans (gnd _) (by decide) | exact Nat.lt_of_le_of_lt (pcN_le _) (by decide)) (by first | omega | assumption | exact gnd _ | exact gkn _ | exact Nat.lt_trans (gkn _) (by decide) | exact Nat.lt_trans (gnd _) (by decide) | exact Nat.lt_of_le_of_lt (pcN_le _) (by decide)) gnd gkn (by first | omega | assumption | exact gnd _ | exact gkn _ | exact Nat.lt_trans (gkn _) (by decide) | exact Nat.lt_trans (gnd _) (by decide) | exact Nat.lt_of_le_of_lt (pcN_le _) (by decide))) (cwV 1 hts gX11_steps_X9_hasSentence rfl rfl rfl (by decide +kernel) ⟨Nat.le_of_ble_eq_true rfl, Nat.le_of_ble_eq_true rfl⟩) (preV_R hCX (va_recv hK hP (ci := 9) (q0 := 1) rfl rfl) ((hP.sub (ws' := (schW cI cD sN n1 n2 n3 n4 n5 n d t al day nd mk si kn mb)) [1, 2, 3, 4, 5, 6] rfl))) rfl rfl hl.1 rfl (lv_room (Nat.le_of_ble_eq_true rfl)) dX11_steps_18 ⟨Nat.le_of_ble_eq_true (by first | rfl | decide), Nat.le_of_ble_eq_true (by first | rfl | decide)⟩).run) (fun r_18 hr_18 => ?_)
    subst hr_18
    refine lv_if_ne (tgt := 26) hx hb dX11_steps_21 (by decide) (fun _ => ?_) (fun z => absurd z (by decide +kernel))
    refine lv_aload_n hx hb dX11_steps_26 rfl (lv_at hl 0 rfl) ?_
    refine lv_aload_n hx hb dX11_steps_27 rfl (lv_at hl 1 rfl) ?_
    refine va_get (D := (dC, dI)) (ci := 11) (v := .ref sN) (C := RX11) (T := TX11) (N := 7) hx hb hts (fun _ h => List.mem_cons_of_mem _ (List.mem_append_left _ (List.mem_append_left _ (List.mem_append_left _ (List.mem_append_left _ (List.mem_append_left _ (List.mem_append_left _ (List.mem_append_left _ (List.mem_append_left _ (List.mem_append_left _ (List.mem_append_right _ h))))))))))) hown hK hP 0 rfl rfl 0 (by decide) (hts (.fieldLink RX11 10 "HoldsOnceDenied" "now" "LHoldsOnceDenied$School;") (by decide +kernel)) (fun _ h9 => h9) rfl dX11_steps_28 ?_
    refine lv_iload_n hx hb dX11_steps_31 rfl (lv_at hl 3 rfl) ?_
    refine vp_callSi ((va_runV (As := [.int (nI v)]) (rest := [.ref a_5]) ⟨hx, hb, hml, hown, hts⟩ (c_X9_needsOf l dC dI cI cD cR sN n1 n2 n3 n4 n5 n d t al day nd mk si kn mb v (by first | omega | assumption | exact gnd _ | exact gkn _ | exact Nat.lt_trans (gkn _) (by decide) | exact Nat.lt_trans (gnd _) (by decide) | exact Nat.lt_of_le_of_lt (pcN_le _) (by decide)) (by first | omega | assumption | exact gnd _ | exact gkn _ | exact Nat.lt_trans (gkn _) (by decide) | exact Nat.lt_trans (gnd _) (by decide) | exact Nat.lt_of_le_of_lt (pcN_le _) (by decide)) (by first | omega | assumption | exact gnd _ | exact gkn _ | exact Nat.lt_trans (gkn _) (by decide) | exact Nat.lt_trans (gnd _) (by decide) | exact Nat.lt_of_le_of_lt (pcN_le _) (by decide)) (by first | omega | assumption | exact gnd _ | exact gkn _ | exact Nat.lt_trans (gkn _) (by decide) | exact Nat.lt_trans (gnd _) (by decide) | exact Nat.lt_of_le_of_lt (pcN_le _) (by decide)) (by first | omega | assumption | exact gnd _ | exact gkn _ | exact Nat.lt_trans (gkn _) (by decide) | exact Nat.lt_trans (gnd _) (by decide) | exact Nat.lt_of_le_of_lt (pcN_le _) (by decide)) gnd gkn (by first | omega | assumption | exact gnd _ | exact gkn _ | exact Nat.lt_trans (gkn _) (by decide) | exact Nat.lt_trans (gnd _) (by decide) | exact Nat.lt_of_le_of_lt (pcN_le _) (by decide))) (cwV 1 hts gX11_steps_X9_needsOf rfl rfl rfl (by decide +kernel) ⟨Nat.le_of_ble_eq_true rfl, Nat.le_of_ble_eq_true rfl⟩) (preV_R hCX (va_recv hK hP (ci := 9) (q0 := 1) rfl rfl) ((hP.sub (ws' := (schW cI cD sN n1 n2 n3 n4 n5 n d t al day nd mk si kn mb)) [1, 2, 3, 4, 5, 6] rfl))) rfl rfl hl.1 rfl (lv_room (Nat.le_of_ble_eq_true rfl)) dX11_steps_32 ⟨Nat.le_of_ble_eq_true (by first | rfl | decide), Nat.le_of_ble_eq_true (by first | rfl | decide)⟩).run) (fun r_32 hr_32 => ?_)
    subst hr_32
    refine vp_callSi ((va_runS (As := [.int (nI (nd v))]) (rest := [.ref a_5]) ⟨hx, hb, hml, hown, hts⟩ (c_J6_bitCount_0f7a4 l dC dI cI cD cR (nd v) (by first | omega | assumption | exact gnd _ | exact gkn _ | exact Nat.lt_trans (gkn _) (by decide) | exact Nat.lt_trans (gnd _) (by decide) | exact Nat.lt_of_le_of_lt (pcN_le _) (by decide))) (va_cwS 1 hts gX11_steps_J6_bitCount_0f7a4 rfl rfl rfl (by decide +kernel) ⟨Nat.le_of_ble_eq_true rfl, Nat.le_of_ble_eq_true rfl⟩) (preS_R hCX (trivial)) rfl rfl hl.1 rfl (lv_room (Nat.le_of_ble_eq_true rfl)) dX11_steps_35 ⟨Nat.le_of_ble_eq_true (by first | rfl | decide), Nat.le_of_ble_eq_true (by first | rfl | decide)⟩).run) (fun r_35 hr_35 => ?_)
    subst hr_35
    refine ho_via (g2 := F0 m 41 ls [.int (nI (efN (kd a_5) (fg a_5) (pcN (nd v))))]) (fun K9 => ?_) ?_
    · obtain ⟨hPa, hka, hfa⟩ := hDP _ hda_5
      generalize hkk : kd a_5 = kk at hPa hka K9
      generalize hff : fg a_5 = ff at hPa hfa K9
      rcases (show kk = 0 ∨ kk = 1 ∨ kk = 2 ∨ kk = 3 ∨ kk = 4 ∨ kk = 5 ∨ kk = 6 ∨ kk = 7 by omega) with rfl | rfl | rfl | rfl | rfl | rfl | rfl | rfl
      · refine vp_callSi ((va_runV (As := [.int (nI (pcN (nd v)))]) (rest := []) ⟨hx, hb, hml, hown, hts⟩ (c_X2_effort l dC dI cI cD cR a_5 (pcN (nd v)) (by have := pcN_le (nd v); omega)) (cwV 1 hts gX11_steps_X2_effort rfl rfl rfl (by decide +kernel) ⟨Nat.le_of_ble_eq_true rfl, Nat.le_of_ble_eq_true rfl⟩) (preV_R hCX (va_recv hK hPa (ci := 2) (q0 := 0) rfl rfl) (trivial)) rfl rfl hl.1 rfl (lv_room (Nat.le_of_ble_eq_true rfl)) dX11_steps_38 ⟨Nat.le_of_ble_eq_true (by first | rfl | decide), Nat.le_of_ble_eq_true (by first | rfl | decide)⟩).run) (fun r9 hr9 => ?_)
        subst hr9
        exact K9
      · refine vp_callSi ((va_runU (As := [.int (nI (pcN (nd v)))]) (rest := []) ⟨hx, hb, hml, hown, hts⟩ (c_X3_effort_k1 l dC dI cI cD cR a_5 ff (pcN (nd v)) (by have := pcN_le (nd v); omega)) (va_cwO 1 hts gX11_steps_X3_effort_u151X3 rfl rfl rfl (b0 := cX2_effort) (m0 := 2) (r0 := (some .int)) (by decide +kernel) (by decide +kernel) ⟨Nat.le_of_ble_eq_true rfl, Nat.le_of_ble_eq_true rfl⟩) (preV_R hCX (va_recv hK hPa (ci := 3) (q0 := 0) rfl rfl) (hPa)) rfl rfl hl.1 rfl (lv_room (Nat.le_of_ble_eq_true rfl)) dX11_steps_38 ⟨Nat.le_of_ble_eq_true (by first | rfl | decide), Nat.le_of_ble_eq_true (by first | rfl | decide)⟩).run) (fun r9 hr9 => ?_)
        subst hr9
        exact K9
      · refine vp_callSi ((va_runU (As := [.int (nI (pcN (nd v)))]) (rest := []) ⟨hx, hb, hml, hown, hts⟩ (c_X10_effort l dC dI cI cD cR a_5 (pcN (nd v))) (va_cwO 1 hts gX11_steps_X10_effort_u151X10 rfl rfl rfl (b0 := cX2_effort) (m0 := 2) (r0 := (some .int)) (by decide +kernel) (by decide +kernel) ⟨Nat.le_of_ble_eq_true rfl, Nat.le_of_ble_eq_true rfl⟩) (preV_R hCX (va_recv hK hPa (ci := 10) (q0 := 0) rfl rfl) (trivial)) rfl rfl hl.1 rfl (lv_room (Nat.le_of_ble_eq_true rfl)) dX11_steps_38 ⟨Nat.le_of_ble_eq_true (by first | rfl | decide), Nat.le_of_ble_eq_true (by first | rfl | decide)⟩).run) (fun r9 hr9 => ?_)
        subst hr9
        exact K9
      · refine vp_callSi ((va_runU (As := [.int (nI (pcN (nd v)))]) (rest := []) ⟨hx, hb, hml, hown, hts⟩ (c_X3_effort_k3 l dC dI cI cD cR a_5 ff (pcN (nd v)) (by have := pcN_le (nd v); omega)) (va_cwO 1 hts gX11_steps_X3_effort_u151X1 rfl rfl rfl (b0 := cX2_effort) (m0 := 2) (r0 := (some .int)) (by decide +kernel) (by decide +kernel) ⟨Nat.le_of_ble_eq_true rfl, Nat.le_of_ble_eq_true rfl⟩) (preV_R hCX (va_recv hK hPa (ci := 1) (q0 := 0) rfl rfl) (hPa)) rfl rfl hl.1 rfl (lv_room (Nat.le_of_ble_eq_true rfl)) dX11_steps_38 ⟨Nat.le_of_ble_eq_true (by first | rfl | decide), Nat.le_of_ble_eq_true (by first | rfl | decide)⟩).run) (fun r9 hr9 => ?_)
        subst hr9
        exact K9
      · refine vp_callSi ((va_runU (As := [.int (nI (pcN (nd v)))]) (rest := []) ⟨hx, hb, hml, hown, hts⟩ (c_X5_effort_k4 l dC dI cI cD cR a_5 ff (pcN (nd v)) (by have := pcN_le (nd v); omega)) (va_cwO 1 hts gX11_steps_X5_effort_u151X5 rfl rfl rfl (b0 := cX2_effort) (m0 := 2) (r0 := (some .int)) (by decide +kernel) (by decide +kernel) ⟨Nat.le_of_ble_eq_true rfl, Nat.le_of_ble_eq_true rfl⟩) (preV_R hCX (va_recv hK hPa (ci := 5) (q0 := 0) rfl rfl) (hPa)) rfl rfl hl.1 rfl (lv_room (Nat.le_of_ble_eq_true rfl)) dX11_steps_38 ⟨Nat.le_of_ble_eq_true (by first | rfl | decide), Nat.le_of_ble_eq_true (by first | rfl | decide)⟩).run) (fun r9 hr9 => ?_)
        subst hr9
        exact K9
      · refine vp_callSi ((va_runU (As := [.int (nI (pcN (nd v)))]) (rest := []) ⟨hx, hb, hml, hown, hts⟩ (c_X6_effort l dC dI cI cD cR a_5 ff (pcN (nd v)) (by have := pcN_le (nd v); omega)) (va_cwO 1 hts gX11_steps_X6_effort_u151X6 rfl rfl rfl (b0 := cX2_effort) (m0 := 2) (r0 := (some .int)) (by decide +kernel) (by decide +kernel) ⟨Nat.le_of_ble_eq_true rfl, Nat.le_of_ble_eq_true rfl⟩) (preV_R hCX (va_recv hK hPa (ci := 6) (q0 := 0) rfl rfl) (hPa)) rfl rfl hl.1 rfl (lv_room (Nat.le_of_ble_eq_true rfl)) dX11_steps_38 ⟨Nat.le_of_ble_eq_true (by first | rfl | decide), Nat.le_of_ble_eq_true (by first | rfl | decide)⟩).run) (fun r9 hr9 => ?_)
        subst hr9
        exact K9
      · refine vp_callSi ((va_runU (As := [.int (nI (pcN (nd v)))]) (rest := []) ⟨hx, hb, hml, hown, hts⟩ (c_X7_effort l dC dI cI cD cR a_5 ff (pcN (nd v))) (va_cwO 1 hts gX11_steps_X7_effort_u151X7 rfl rfl rfl (b0 := cX2_effort) (m0 := 2) (r0 := (some .int)) (by decide +kernel) (by decide +kernel) ⟨Nat.le_of_ble_eq_true rfl, Nat.le_of_ble_eq_true rfl⟩) (preV_R hCX (va_recv hK hPa (ci := 7) (q0 := 0) rfl rfl) (hPa)) rfl rfl hl.1 rfl (lv_room (Nat.le_of_ble_eq_true rfl)) dX11_steps_38 ⟨Nat.le_of_ble_eq_true (by first | rfl | decide), Nat.le_of_ble_eq_true (by first | rfl | decide)⟩).run) (fun r9 hr9 => ?_)
        subst hr9
        exact K9
      · refine vp_callSi ((va_runU (As := [.int (nI (pcN (nd v)))]) (rest := []) ⟨hx, hb, hml, hown, hts⟩ (c_X0_effort l dC dI cI cD cR a_5 ff (pcN (nd v)) (by have := pcN_le (nd v); omega)) (va_cwO 1 hts gX11_steps_X0_effort_u151X0 rfl rfl rfl (b0 := cX2_effort) (m0 := 2) (r0 := (some .int)) (by decide +kernel) (by decide +kernel) ⟨Nat.le_of_ble_eq_true rfl, Nat.le_of_ble_eq_true rfl⟩) (preV_R hCX (va_recv hK hPa (ci := 0) (q0 := 0) rfl rfl) (hPa)) rfl rfl hl.1 rfl (lv_room (Nat.le_of_ble_eq_true rfl)) dX11_steps_38 ⟨Nat.le_of_ble_eq_true (by first | rfl | decide), Nat.le_of_ble_eq_true (by first | rfl | decide)⟩).run) (fun r9 hr9 => ?_)
        subst hr9
        exact K9
    exact W.iret (v := nI (efN (kd a_5) (fg a_5) (pcN (nd v)))) hx hb hr (fun T9 hT9 hW9 => ⟨_, rfl, (by (simp [on2, on1, kx, hv_5, oN_t h_y, oN_t h_v]) <;> first | rfl | omega), hT9⟩) (fun q h => by cases h) dX11_steps_41
set_option maxHeartbeats 4000000 in
set_option maxRecDepth 100000 in
theorem c_X11_falls (l : Launch) (dC : Nat → ClassId) (dI : Nat → Nat → Nat) (cI cD cR : ClassId) (x sN sM sP : Nat) (pt : Bool) (fo da ra : Nat) (n1 n2 n3 n4 n5 : Nat) (n d t al day : Nat) (nd : Nat → Nat) (mk si : Nat → Int32) (kn : Nat → Nat) (mb : Nat → Option Nat) (i : Int32) (hn : n ≤ 9) (hd : d ≤ 6) (ht : t < 512) (hal : al < 64) (hday : day < 2 ^ 30) (gnd : ∀ i, nd i < 512) (gkn : ∀ j, kn j < 512) : Met l yX11_falls wsX11_falls ({ frames := 3, cells := 0, slots := 0, locals := 66 }) (pcR dC dI cI cD cR [.ref x, .int i] (fun H => va_P (dC, dI) vwCl ([(x, .inr (11, [.ref sN, .ref sM, .ref sP, .int (bI pt), .ref fo, .ref da, .ref ra]))] ++ (schW cI cD sN n1 n2 n3 n4 n5 n d t al day nd mk si kn mb)) H)) (vp_Si (fun r => r = (on1 (oN i d) (fun y => nI (ruF t nd mk n y)) (-1)))) 0 0 (fun _ => False) := by
  refine Met.ofW (cc := cX11_falls) (maxL := 2) (ret := (some .int)) (by decide) rfl ?_
  intro p e s m args below meth c s₁ B hml hv
  obtain ⟨rfl, hH0, hCX⟩ := hv
  have hx := B.exec
  have hb := B.bytes
  have hr := B.returns
  have hts := atoms_spec (ws := wsX11_falls) B.pre
  have hown : s.vm.findClass RX11 = some m.cls := findClass_of_methodNamed B.named
  have hlocks := B.notSynchronized
  have hK := hCX.1
  have hP := hH0
  have hl := lv_entry ([.ref x, .int i]) (n := 2) (Nat.le_of_ble_eq_true rfl)
  rw [lg_entry_eq]
  generalize (lg_sl ([.ref x, .int i]) ++ List.replicate (2 - (lg_sl ([.ref x, .int i])).length) Slot.unset).toArray = ls at hl ⊢
  have hl : lv_has ls 2 [(0, .ref x), (1, .int i)] := hl
  rcases okI_or i (n := d) (by omega) with hb_i | ⟨y, h_y, rfl⟩
  · refine lv_aload_n hx hb dX11_falls_0 rfl (lv_at hl 0 rfl) ?_
    refine va_get (D := (dC, dI)) (ci := 11) (v := .ref sN) (C := RX11) (T := TX11) (N := 7) hx hb hts (fun _ h => List.mem_cons_of_mem _ (List.mem_append_left _ (List.mem_append_right _ h))) hown hK hP 0 rfl rfl 0 (by decide) (hts (.fieldLink RX11 10 "HoldsOnceDenied" "now" "LHoldsOnceDenied$School;") (by decide +kernel)) (fun _ h9 => h9) rfl dX11_falls_1 ?_
    refine lv_iload_n hx hb dX11_falls_4 rfl (lv_at hl 1 rfl) ?_
    refine vp_callSi ((va_runV (As := [.int i]) (rest := []) ⟨hx, hb, hml, hown, hts⟩ (c_X9_hasDenier_f l dC dI cI cD cR sN n1 n2 n3 n4 n5 n d t al day nd mk si kn mb i (by first | omega | assumption | exact gnd _ | exact gkn _ | exact Nat.lt_trans (gkn _) (by decide) | exact Nat.lt_trans (gnd _) (by decide) | exact Nat.lt_of_le_of_lt (pcN_le _) (by decide)) (by first | omega | assumption | exact gnd _ | exact gkn _ | exact Nat.lt_trans (gkn _) (by decide) | exact Nat.lt_trans (gnd _) (by decide) | exact Nat.lt_of_le_of_lt (pcN_le _) (by decide)) (by first | omega | assumption | exact gnd _ | exact gkn _ | exact Nat.lt_trans (gkn _) (by decide) | exact Nat.lt_trans (gnd _) (by decide) | exact Nat.lt_of_le_of_lt (pcN_le _) (by decide)) (by first | omega | assumption | exact gnd _ | exact gkn _ | exact Nat.lt_trans (gkn _) (by decide) | exact Nat.lt_trans (gnd _) (by decide) | exact Nat.lt_of_le_of_lt (pcN_le _) (by decide)) (by first | omega | assumption | exact gnd _ | exact gkn _ | exact Nat.lt_trans (gkn _) (by decide) | exact Nat.lt_trans (gnd _) (by decide) | exact Nat.lt_of_le_of_lt (pcN_le _) (by decide)) gnd gkn (by first | omega | assumption | exact gnd _ | exact gkn _ | exact Nat.lt_trans (gkn _) (by decide) | exact Nat.lt_trans (gnd _) (by decide) | exact Nat.lt_of_le_of_lt (pcN_le _) (by decide))) (cwV 1 hts gX11_falls_X9_hasDenier rfl rfl rfl (by decide +kernel) ⟨Nat.le_of_ble_eq_true rfl, Nat.le_of_ble_eq_true rfl⟩) (preV_R hCX (va_recv hK hP (ci := 9) (q0 := 1) rfl rfl) ((hP.sub (ws' := (schW cI cD sN n1 n2 n3 n4 n5 n d t al day nd mk si kn mb)) [1, 2, 3, 4, 5, 6] rfl))) rfl rfl hl.1 rfl (lv_room (Nat.le_of_ble_eq_true rfl)) dX11_falls_5 ⟨Nat.le_of_ble_eq_true (by first | rfl | decide), Nat.le_of_ble_eq_true (by first | rfl | decide)⟩).run) (fun r_5 hr_5 => ?_)
    subst hr_5
    refine lv_if_eq (tgt := 22) hx hb dX11_falls_8 (by decide) (fun _ => ?_) (fun z => absurd z (by decide +kernel))
    refine lv_iconst (v := (-1)) hx hb dX11_falls_22 (by decide +kernel) ?_
    exact W.iret (v := (-1)) hx hb hr (fun T9 hT9 hW9 => ⟨_, rfl, (by (simp [on1, ruF, oN_f hb_i]) <;> first | rfl | omega), hT9⟩) (fun q h => by cases h) dX11_falls_23
  refine lv_aload_n hx hb dX11_falls_0 rfl (lv_at hl 0 rfl) ?_
  refine va_get (D := (dC, dI)) (ci := 11) (v := .ref sN) (C := RX11) (T := TX11) (N := 7) hx hb hts (fun _ h => List.mem_cons_of_mem _ (List.mem_append_left _ (List.mem_append_right _ h))) hown hK hP 0 rfl rfl 0 (by decide) (hts (.fieldLink RX11 10 "HoldsOnceDenied" "now" "LHoldsOnceDenied$School;") (by decide +kernel)) (fun _ h9 => h9) rfl dX11_falls_1 ?_
  refine lv_iload_n hx hb dX11_falls_4 rfl (lv_at hl 1 rfl) ?_
  refine vp_callSi ((va_runV (As := [.int (nI y)]) (rest := []) ⟨hx, hb, hml, hown, hts⟩ (c_X9_hasDenier_t l dC dI cI cD cR sN n1 n2 n3 n4 n5 n d t al day nd mk si kn mb y (by first | omega | assumption | exact gnd _ | exact gkn _ | exact Nat.lt_trans (gkn _) (by decide) | exact Nat.lt_trans (gnd _) (by decide) | exact Nat.lt_of_le_of_lt (pcN_le _) (by decide)) (by first | omega | assumption | exact gnd _ | exact gkn _ | exact Nat.lt_trans (gkn _) (by decide) | exact Nat.lt_trans (gnd _) (by decide) | exact Nat.lt_of_le_of_lt (pcN_le _) (by decide)) (by first | omega | assumption | exact gnd _ | exact gkn _ | exact Nat.lt_trans (gkn _) (by decide) | exact Nat.lt_trans (gnd _) (by decide) | exact Nat.lt_of_le_of_lt (pcN_le _) (by decide)) (by first | omega | assumption | exact gnd _ | exact gkn _ | exact Nat.lt_trans (gkn _) (by decide) | exact Nat.lt_trans (gnd _) (by decide) | exact Nat.lt_of_le_of_lt (pcN_le _) (by decide)) (by first | omega | assumption | exact gnd _ | exact gkn _ | exact Nat.lt_trans (gkn _) (by decide) | exact Nat.lt_trans (gnd _) (by decide) | exact Nat.lt_of_le_of_lt (pcN_le _) (by decide)) gnd gkn (by first | omega | assumption | exact gnd _ | exact gkn _ | exact Nat.lt_trans (gkn _) (by decide) | exact Nat.lt_trans (gnd _) (by decide) | exact Nat.lt_of_le_of_lt (pcN_le _) (by decide))) (cwV 1 hts gX11_falls_X9_hasDenier rfl rfl rfl (by decide +kernel) ⟨Nat.le_of_ble_eq_true rfl, Nat.le_of_ble_eq_true rfl⟩) (preV_R hCX (va_recv hK hP (ci := 9) (q0 := 1) rfl rfl) ((hP.sub (ws' := (schW cI cD sN n1 n2 n3 n4 n5 n d t al day nd mk si kn mb)) [1, 2, 3, 4, 5, 6] rfl))) rfl rfl hl.1 rfl (lv_room (Nat.le_of_ble_eq_true rfl)) dX11_falls_5 ⟨Nat.le_of_ble_eq_true (by first | rfl | decide), Nat.le_of_ble_eq_true (by first | rfl | decide)⟩).run) (fun r_5 hr_5 => ?_)
  subst hr_5
  refine lv_if_eq (tgt := 22) hx hb dX11_falls_8 (by decide) (fun z => absurd z (by decide +kernel)) (fun _ => ?_)
  refine lv_aload_n hx hb dX11_falls_11 rfl (lv_at hl 0 rfl) ?_
  refine va_get (D := (dC, dI)) (ci := 11) (v := .ref sN) (C := RX11) (T := TX11) (N := 7) hx hb hts (fun _ h => List.mem_cons_of_mem _ (List.mem_append_left _ (List.mem_append_right _ h))) hown hK hP 0 rfl rfl 0 (by decide) (hts (.fieldLink RX11 10 "HoldsOnceDenied" "now" "LHoldsOnceDenied$School;") (by decide +kernel)) (fun _ h9 => h9) rfl dX11_falls_12 ?_
  refine lv_iload_n hx hb dX11_falls_15 rfl (lv_at hl 1 rfl) ?_
  refine vp_callSi ((va_runV (As := [.int (nI y)]) (rest := []) ⟨hx, hb, hml, hown, hts⟩ (c_X9_ruins l dC dI cI cD cR sN n1 n2 n3 n4 n5 n d t al day nd mk si kn mb y (by first | omega | assumption | exact gnd _ | exact gkn _ | exact Nat.lt_trans (gkn _) (by decide) | exact Nat.lt_trans (gnd _) (by decide) | exact Nat.lt_of_le_of_lt (pcN_le _) (by decide)) (by first | omega | assumption | exact gnd _ | exact gkn _ | exact Nat.lt_trans (gkn _) (by decide) | exact Nat.lt_trans (gnd _) (by decide) | exact Nat.lt_of_le_of_lt (pcN_le _) (by decide)) (by first | omega | assumption | exact gnd _ | exact gkn _ | exact Nat.lt_trans (gkn _) (by decide) | exact Nat.lt_trans (gnd _) (by decide) | exact Nat.lt_of_le_of_lt (pcN_le _) (by decide)) (by first | omega | assumption | exact gnd _ | exact gkn _ | exact Nat.lt_trans (gkn _) (by decide) | exact Nat.lt_trans (gnd _) (by decide) | exact Nat.lt_of_le_of_lt (pcN_le _) (by decide)) (by first | omega | assumption | exact gnd _ | exact gkn _ | exact Nat.lt_trans (gkn _) (by decide) | exact Nat.lt_trans (gnd _) (by decide) | exact Nat.lt_of_le_of_lt (pcN_le _) (by decide)) gnd gkn (by first | omega | assumption | exact gnd _ | exact gkn _ | exact Nat.lt_trans (gkn _) (by decide) | exact Nat.lt_trans (gnd _) (by decide) | exact Nat.lt_of_le_of_lt (pcN_le _) (by decide))) (cwV 1 hts gX11_falls_X9_ruins rfl rfl rfl (by decide +kernel) ⟨Nat.le_of_ble_eq_true rfl, Nat.le_of_ble_eq_true rfl⟩) (preV_R hCX (va_recv hK hP (ci := 9) (q0 := 1) rfl rfl) ((hP.sub (ws' := (schW cI cD sN n1 n2 n3 n4 n5 n d t al day nd mk si kn mb)) [1, 2, 3, 4, 5, 6] rfl))) rfl rfl hl.1 rfl (lv_room (Nat.le_of_ble_eq_true rfl)) dX11_falls_16 ⟨Nat.le_of_ble_eq_true (by first | rfl | decide), Nat.le_of_ble_eq_true (by first | rfl | decide)⟩).run) (fun r_16 hr_16 => ?_)
  subst hr_16
  refine lv_goto (tgt := 23) hx hb dX11_falls_19 (by decide) ?_
  exact W.iret (v := nI (ruR t nd n n (orF (fun s9 => t.testBit s9 && decide (mk s9 = nI y)) n))) hx hb hr (fun T9 hT9 hW9 => ⟨_, rfl, (by (simp [on1, ruF, oN_t h_y]) <;> first | rfl | omega), hT9⟩) (fun q h => by cases h) dX11_falls_23
set_option maxHeartbeats 4000000 in
set_option maxRecDepth 100000 in
theorem c_X11_lonely (l : Launch) (dC : Nat → ClassId) (dI : Nat → Nat → Nat) (cI cD cR : ClassId) (x sN sM sP : Nat) (pt : Bool) (fo da ra : Nat) (n1 n2 n3 n4 n5 : Nat) (n d t al day : Nat) (nd : Nat → Nat) (mk si : Nat → Int32) (kn : Nat → Nat) (mb : Nat → Option Nat) (DL : List Nat) (kd fg : Nat → Nat) (hn : n ≤ 9) (hd : d ≤ 6) (ht : t < 512) (hal : al < 64) (hday : day < 2 ^ 30) (gnd : ∀ i, nd i < 512) (gkn : ∀ j, kn j < 512) (gmb : ∀ j a, mb j = some a → a ∈ DL) : Met l yX11_lonely wsX11_lonely ({ frames := 6, cells := 0, slots := 0, locals := 139 }) (pcR dC dI cI cD cR [.ref x] (fun H => va_P (dC, dI) vwCl ([(x, .inr (11, [.ref sN, .ref sM, .ref sP, .int (bI pt), .ref fo, .ref da, .ref ra]))] ++ (schW cI cD sN n1 n2 n3 n4 n5 n d t al day nd mk si kn mb)) H ∧ DP dC dI DL kd fg H)) (vp_Si (fun r => r = nI (sdf (sdf (2 ^ n - 1) t) (loF (fun y => orF (fun s9 => alB n al t kn nd mb kd fg y s9) n) 6)))) 0 0 (fun _ => False) := by
  refine Met.ofW (cc := cX11_lonely) (maxL := 3) (ret := (some .int)) (by decide) rfl ?_
  intro p e s m args below meth c s₁ B hml hv
  obtain ⟨rfl, hH0, hCX⟩ := hv
  have hx := B.exec
  have hb := B.bytes
  have hr := B.returns
  have hts := atoms_spec (ws := wsX11_lonely) B.pre
  have hown : s.vm.findClass RX11 = some m.cls := findClass_of_methodNamed B.named
  have hlocks := B.notSynchronized
  have hK := hCX.1
  obtain ⟨hP, hDP⟩ := hH0
  have hl := lv_entry ([.ref x]) (n := 3) (Nat.le_of_ble_eq_true rfl)
  rw [lg_entry_eq]
  generalize (lg_sl ([.ref x]) ++ List.replicate (3 - (lg_sl ([.ref x])).length) Slot.unset).toArray = ls at hl ⊢
  have hl : lv_has ls 3 [(0, .ref x)] := hl
  refine lv_iconst (v := nI 0) hx hb dX11_lonely_0 (by decide +kernel) ?_
  refine lv_istore_n (lv' := [(1, .int (nI 0)), (0, .ref x)]) hx hb dX11_lonely_1 rfl hl (by decide) rfl (fun ls hl => ?_)
  refine lv_iconst (v := nI 0) hx hb dX11_lonely_2 (by decide +kernel) ?_
  refine lv_istore_n (lv' := [(2, .int (nI 0)), (1, .int (nI 0)), (0, .ref x)]) hx hb dX11_lonely_3 rfl hl (by decide) rfl (fun ls hl => ?_)
  refine ho_lp (T := Nat) 3 (fun x9 => [(2, .int (nI x9)), (1, .int (nI (loF (fun y => orF (fun s9 => alB n al t kn nd mb kd fg y s9) n) x9))), (0, .ref x)]) (fun x9 => []) (fun x9 => (x9 ≤ 6)) (fun x9 => 6 - x9) 0 (by omega) (lv_sub hl [0, 1, 2] rfl) ?_
  intro fu4 i ls hI hm4 hl ih
  have hi6 := hI
  have hl : lv_has ls 3 [(2, .int (nI i)), (1, .int (nI (loF (fun y => orF (fun s9 => alB n al t kn nd mb kd fg y s9) n) i))), (0, .ref x)] := hl
  have hi6 : i ≤ 6 := hi6
  have hm4 : 6 - i < fu4 + 1 := hm4
  refine W.eq (g2 := F0 m 4 ls []) rfl ?_
  have ih4 := ih
  refine lv_iload_n hx hb dX11_lonely_4 rfl (lv_at hl 0 rfl) ?_
  refine lv_bipush (v := nI 6) hx hb dX11_lonely_5 (by decide +kernel) ?_
  refine ho_icmp_ge (tgt := 27) hx hb dX11_lonely_7 (by decide) (by omega) (by omega) (fun c_7 => ?_) (fun c_7 => ?_)
  · refine lv_aload_n hx hb dX11_lonely_27 rfl (lv_at hl 2 rfl) ?_
    refine va_get (D := (dC, dI)) (ci := 11) (v := .ref sN) (C := RX11) (T := TX11) (N := 7) hx hb hts (fun _ h => List.mem_cons_of_mem _ (List.mem_append_left _ (List.mem_append_left _ (List.mem_append_left _ (List.mem_append_left _ (List.mem_append_left _ (List.mem_append_left _ (List.mem_append_left _ (List.mem_append_left _ (List.mem_append_left _ (List.mem_append_right _ h))))))))))) hown hK hP 0 rfl rfl 0 (by decide) (hts (.fieldLink RX11 10 "HoldsOnceDenied" "now" "LHoldsOnceDenied$School;") (by decide +kernel)) (fun _ h9 => h9) rfl dX11_lonely_28 ?_
    refine vp_callSi ((va_runV (As := []) (rest := []) ⟨hx, hb, hml, hown, hts⟩ (c_X9_untrue l dC dI cI cD cR sN n1 n2 n3 n4 n5 n d t al day nd mk si kn mb (by first | omega | assumption | exact gnd _ | exact gkn _ | exact Nat.lt_trans (gkn _) (by decide) | exact Nat.lt_trans (gnd _) (by decide) | exact Nat.lt_of_le_of_lt (pcN_le _) (by decide)) (by first | omega | assumption | exact gnd _ | exact gkn _ | exact Nat.lt_trans (gkn _) (by decide) | exact Nat.lt_trans (gnd _) (by decide) | exact Nat.lt_of_le_of_lt (pcN_le _) (by decide)) (by first | omega | assumption | exact gnd _ | exact gkn _ | exact Nat.lt_trans (gkn _) (by decide) | exact Nat.lt_trans (gnd _) (by decide) | exact Nat.lt_of_le_of_lt (pcN_le _) (by decide)) (by first | omega | assumption | exact gnd _ | exact gkn _ | exact Nat.lt_trans (gkn _) (by decide) | exact Nat.lt_trans (gnd _) (by decide) | exact Nat.lt_of_le_of_lt (pcN_le _) (by decide)) (by first | omega | assumption | exact gnd _ | exact gkn _ | exact Nat.lt_trans (gkn _) (by decide) | exact Nat.lt_trans (gnd _) (by decide) | exact Nat.lt_of_le_of_lt (pcN_le _) (by decide)) gnd gkn) (cwV 0 hts gX11_lonely_X9_untrue rfl rfl rfl (by decide +kernel) ⟨Nat.le_of_ble_eq_true rfl, Nat.le_of_ble_eq_true rfl⟩) (preV_R hCX (va_recv hK hP (ci := 9) (q0 := 1) rfl rfl) ((hP.sub (ws' := (schW cI cD sN n1 n2 n3 n4 n5 n d t al day nd mk si kn mb)) [1, 2, 3, 4, 5, 6] rfl))) rfl rfl hl.1 rfl (lv_room (Nat.le_of_ble_eq_true rfl)) dX11_lonely_31 ⟨Nat.le_of_ble_eq_true (by first | rfl | decide), Nat.le_of_ble_eq_true (by first | rfl | decide)⟩).run) (fun r_31 hr_31 => ?_)
    subst hr_31
    refine lv_iload_n hx hb dX11_lonely_34 rfl (lv_at hl 1 rfl) ?_
    refine lv_iconst (v := (-1)) hx hb dX11_lonely_35 (by decide +kernel) ?_
    refine lv_ixor hx hb dX11_lonely_36 ?_
    refine ho_iandC hx hb dX11_lonely_37 ?_
    exact W.iret (v := nI (sdf (sdf (2 ^ n - 1) t) (loF (fun y => orF (fun s9 => alB n al t kn nd mb kd fg y s9) n) i))) hx hb hr (fun T9 hT9 hW9 => ⟨_, rfl, (congrArg nI (by rw [show i = 6 by omega])), hT9⟩) (fun q h => by cases h) dX11_lonely_38
  refine lv_iload_n hx hb dX11_lonely_10 rfl (lv_at hl 1 rfl) ?_
  refine lv_aload_n hx hb dX11_lonely_11 rfl (lv_at hl 2 rfl) ?_
  refine va_get (D := (dC, dI)) (ci := 11) (v := .ref sN) (C := RX11) (T := TX11) (N := 7) hx hb hts (fun _ h => List.mem_cons_of_mem _ (List.mem_append_left _ (List.mem_append_left _ (List.mem_append_left _ (List.mem_append_left _ (List.mem_append_left _ (List.mem_append_left _ (List.mem_append_left _ (List.mem_append_left _ (List.mem_append_left _ (List.mem_append_right _ h))))))))))) hown hK hP 0 rfl rfl 0 (by decide) (hts (.fieldLink RX11 10 "HoldsOnceDenied" "now" "LHoldsOnceDenied$School;") (by decide +kernel)) (fun _ h9 => h9) rfl dX11_lonely_12 ?_
  refine lv_iload_n hx hb dX11_lonely_15 rfl (lv_at hl 0 rfl) ?_
  refine vp_callSi ((va_runV (As := [.int (nI i)]) (rest := [.int (nI (loF (fun y => orF (fun s9 => alB n al t kn nd mb kd fg y s9) n) i))]) ⟨hx, hb, hml, hown, hts⟩ (c_X9_allowedTo l dC dI cI cD cR sN n1 n2 n3 n4 n5 n d t al day nd mk si kn mb i DL kd fg (by first | omega | assumption | exact gnd _ | exact gkn _ | exact Nat.lt_trans (gkn _) (by decide) | exact Nat.lt_trans (gnd _) (by decide) | exact Nat.lt_of_le_of_lt (pcN_le _) (by decide)) (by first | omega | assumption | exact gnd _ | exact gkn _ | exact Nat.lt_trans (gkn _) (by decide) | exact Nat.lt_trans (gnd _) (by decide) | exact Nat.lt_of_le_of_lt (pcN_le _) (by decide)) (by first | omega | assumption | exact gnd _ | exact gkn _ | exact Nat.lt_trans (gkn _) (by decide) | exact Nat.lt_trans (gnd _) (by decide) | exact Nat.lt_of_le_of_lt (pcN_le _) (by decide)) (by first | omega | assumption | exact gnd _ | exact gkn _ | exact Nat.lt_trans (gkn _) (by decide) | exact Nat.lt_trans (gnd _) (by decide) | exact Nat.lt_of_le_of_lt (pcN_le _) (by decide)) (by first | omega | assumption | exact gnd _ | exact gkn _ | exact Nat.lt_trans (gkn _) (by decide) | exact Nat.lt_trans (gnd _) (by decide) | exact Nat.lt_of_le_of_lt (pcN_le _) (by decide)) gnd gkn (by first | omega | assumption | exact gnd _ | exact gkn _ | exact Nat.lt_trans (gkn _) (by decide) | exact Nat.lt_trans (gnd _) (by decide) | exact Nat.lt_of_le_of_lt (pcN_le _) (by decide)) gmb) (cwV 1 hts gX11_lonely_X9_allowedTo rfl rfl rfl (by decide +kernel) ⟨Nat.le_of_ble_eq_true rfl, Nat.le_of_ble_eq_true rfl⟩) (preV_R hCX (va_recv hK hP (ci := 9) (q0 := 1) rfl rfl) (⟨(hP.sub (ws' := (schW cI cD sN n1 n2 n3 n4 n5 n d t al day nd mk si kn mb)) [1, 2, 3, 4, 5, 6] rfl), hDP⟩)) rfl rfl hl.1 rfl (lv_room (Nat.le_of_ble_eq_true rfl)) dX11_lonely_16 ⟨Nat.le_of_ble_eq_true (by first | rfl | decide), Nat.le_of_ble_eq_true (by first | rfl | decide)⟩).run) (fun r_16 hr_16 => ?_)
  subst hr_16
  refine ho_ior hx hb dX11_lonely_19 ?_
  refine lv_istore_n (lv' := [(1, .int (nI ((loF (fun y => orF (fun s9 => alB n al t kn nd mb kd fg y s9) n) i) ||| (orF (fun s9 => alB n al t kn nd mb kd fg i s9) n)))), (2, .int (nI i)), (0, .ref x)]) hx hb dX11_lonely_20 rfl hl (by decide) rfl (fun ls hl => ?_)
  refine ho_iinc (lv' := [(2, .int (nI (i + 1))), (1, .int (nI ((loF (fun y => orF (fun s9 => alB n al t kn nd mb kd fg y s9) n) i) ||| (orF (fun s9 => alB n al t kn nd mb kd fg i s9) n)))), (0, .ref x)]) (a := i) (b := 1) hx hb dX11_lonely_21 hl (k := 1) rfl rfl (by decide) rfl (fun ls hl => ?_)
  refine lv_goto (tgt := 4) hx hb dX11_lonely_24 (by decide) ?_
  have e9_1 : (loF (fun y => orF (fun s9 => alB n al t kn nd mb kd fg y s9) n) i) ||| (orF (fun s9 => alB n al t kn nd mb kd fg i s9) n) = loF (fun y => orF (fun s9 => alB n al t kn nd mb kd fg y s9) n) (i + 1) := by rfl
  rw [e9_1] at hl
  exact ih4 (i + 1) _ (by omega) (show 6 - (i + 1) < fu4 from (by omega)) (lv_sub hl [0, 1, 2] rfl)
set_option maxHeartbeats 4000000 in
set_option maxRecDepth 100000 in
theorem c_X11_canHave (l : Launch) (dC : Nat → ClassId) (dI : Nat → Nat → Nat) (cI cD cR : ClassId) (x sN sM sP : Nat) (pt : Bool) (fo da ra : Nat) (n1 n2 n3 n4 n5 : Nat) (n d t al day : Nat) (nd : Nat → Nat) (mk si : Nat → Int32) (kn : Nat → Nat) (mb : Nat → Option Nat) (i : Int32) (DL : List Nat) (kd fg : Nat → Nat) (hn : n ≤ 9) (hd : d ≤ 6) (ht : t < 512) (hal : al < 64) (hday : day < 2 ^ 30) (gnd : ∀ i, nd i < 512) (gkn : ∀ j, kn j < 512) (gmb : ∀ j a, mb j = some a → a ∈ DL) : Met l yX11_canHave wsX11_canHave ({ frames := 5, cells := 0, slots := 0, locals := 120 }) (pcR dC dI cI cD cR [.ref x, .int i] (fun H => va_P (dC, dI) vwCl ([(x, .inr (11, [.ref sN, .ref sM, .ref sP, .int (bI pt), .ref fo, .ref da, .ref ra]))] ++ (schW cI cD sN n1 n2 n3 n4 n5 n d t al day nd mk si kn mb)) H ∧ DP dC dI DL kd fg H)) (vp_Si (fun r => r = (on1 (oN i n) (fun s => bif t.testBit s then nI (orF (fun i9 => suB t nd kn mb kd fg s i9) d) else -3) (-1)))) 0 0 (fun _ => False) := by
  refine Met.ofW (cc := cX11_canHave) (maxL := 2) (ret := (some .int)) (by decide) rfl ?_
  intro p e s m args below meth c s₁ B hml hv
  obtain ⟨rfl, hH0, hCX⟩ := hv
  have hx := B.exec
  have hb := B.bytes
  have hr := B.returns
  have hts := atoms_spec (ws := wsX11_canHave) B.pre
  have hown : s.vm.findClass RX11 = some m.cls := findClass_of_methodNamed B.named
  have hlocks := B.notSynchronized
  have hK := hCX.1
  obtain ⟨hP, hDP⟩ := hH0
  have hl := lv_entry ([.ref x, .int i]) (n := 2) (Nat.le_of_ble_eq_true rfl)
  rw [lg_entry_eq]
  generalize (lg_sl ([.ref x, .int i]) ++ List.replicate (2 - (lg_sl ([.ref x, .int i])).length) Slot.unset).toArray = ls at hl ⊢
  have hl : lv_has ls 2 [(0, .ref x), (1, .int i)] := hl
  rcases okI_or i (n := n) (by omega) with hb_i | ⟨y, h_y, rfl⟩
  · refine lv_aload_n hx hb dX11_canHave_0 rfl (lv_at hl 0 rfl) ?_
    refine va_get (D := (dC, dI)) (ci := 11) (v := .ref sN) (C := RX11) (T := TX11) (N := 7) hx hb hts (fun _ h => List.mem_cons_of_mem _ (List.mem_append_left _ (List.mem_append_left _ (List.mem_append_left _ (List.mem_append_left _ (List.mem_append_left _ (List.mem_append_left _ (List.mem_append_left _ (List.mem_append_left _ (List.mem_append_left _ (List.mem_append_right _ h))))))))))) hown hK hP 0 rfl rfl 0 (by decide) (hts (.fieldLink RX11 10 "HoldsOnceDenied" "now" "LHoldsOnceDenied$School;") (by decide +kernel)) (fun _ h9 => h9) rfl dX11_canHave_1 ?_
    refine lv_iload_n hx hb dX11_canHave_4 rfl (lv_at hl 1 rfl) ?_
    refine vp_callSi ((va_runV (As := [.int i]) (rest := []) ⟨hx, hb, hml, hown, hts⟩ (c_X9_hasSentence_f l dC dI cI cD cR sN n1 n2 n3 n4 n5 n d t al day nd mk si kn mb i (by first | omega | assumption | exact gnd _ | exact gkn _ | exact Nat.lt_trans (gkn _) (by decide) | exact Nat.lt_trans (gnd _) (by decide) | exact Nat.lt_of_le_of_lt (pcN_le _) (by decide)) (by first | omega | assumption | exact gnd _ | exact gkn _ | exact Nat.lt_trans (gkn _) (by decide) | exact Nat.lt_trans (gnd _) (by decide) | exact Nat.lt_of_le_of_lt (pcN_le _) (by decide)) (by first | omega | assumption | exact gnd _ | exact gkn _ | exact Nat.lt_trans (gkn _) (by decide) | exact Nat.lt_trans (gnd _) (by decide) | exact Nat.lt_of_le_of_lt (pcN_le _) (by decide)) (by first | omega | assumption | exact gnd _ | exact gkn _ | exact Nat.lt_trans (gkn _) (by decide) | exact Nat.lt_trans (gnd _) (by decide) | exact Nat.lt_of_le_of_lt (pcN_le _) (by decide)) (by first | omega | assumption | exact gnd _ | exact gkn _ | exact Nat.lt_trans (gkn _) (by decide) | exact Nat.lt_trans (gnd _) (by decide) | exact Nat.lt_of_le_of_lt (pcN_le _) (by decide)) gnd gkn (by first | omega | assumption | exact gnd _ | exact gkn _ | exact Nat.lt_trans (gkn _) (by decide) | exact Nat.lt_trans (gnd _) (by decide) | exact Nat.lt_of_le_of_lt (pcN_le _) (by decide))) (cwV 1 hts gX11_canHave_X9_hasSentence rfl rfl rfl (by decide +kernel) ⟨Nat.le_of_ble_eq_true rfl, Nat.le_of_ble_eq_true rfl⟩) (preV_R hCX (va_recv hK hP (ci := 9) (q0 := 1) rfl rfl) ((hP.sub (ws' := (schW cI cD sN n1 n2 n3 n4 n5 n d t al day nd mk si kn mb)) [1, 2, 3, 4, 5, 6] rfl))) rfl rfl hl.1 rfl (lv_room (Nat.le_of_ble_eq_true rfl)) dX11_canHave_5 ⟨Nat.le_of_ble_eq_true (by first | rfl | decide), Nat.le_of_ble_eq_true (by first | rfl | decide)⟩).run) (fun r_5 hr_5 => ?_)
    subst hr_5
    refine lv_if_ne (tgt := 13) hx hb dX11_canHave_8 (by decide) (fun z => absurd z (by decide +kernel)) (fun _ => ?_)
    refine lv_iconst (v := (-1)) hx hb dX11_canHave_11 (by decide +kernel) ?_
    exact W.iret (v := (-1)) hx hb hr (fun T9 hT9 hW9 => ⟨_, rfl, (by (simp [on1, oN_f hb_i]) <;> first | rfl | omega), hT9⟩) (fun q h => by cases h) dX11_canHave_12
  refine lv_aload_n hx hb dX11_canHave_0 rfl (lv_at hl 0 rfl) ?_
  refine va_get (D := (dC, dI)) (ci := 11) (v := .ref sN) (C := RX11) (T := TX11) (N := 7) hx hb hts (fun _ h => List.mem_cons_of_mem _ (List.mem_append_left _ (List.mem_append_left _ (List.mem_append_left _ (List.mem_append_left _ (List.mem_append_left _ (List.mem_append_left _ (List.mem_append_left _ (List.mem_append_left _ (List.mem_append_left _ (List.mem_append_right _ h))))))))))) hown hK hP 0 rfl rfl 0 (by decide) (hts (.fieldLink RX11 10 "HoldsOnceDenied" "now" "LHoldsOnceDenied$School;") (by decide +kernel)) (fun _ h9 => h9) rfl dX11_canHave_1 ?_
  refine lv_iload_n hx hb dX11_canHave_4 rfl (lv_at hl 1 rfl) ?_
  refine vp_callSi ((va_runV (As := [.int (nI y)]) (rest := []) ⟨hx, hb, hml, hown, hts⟩ (c_X9_hasSentence_t l dC dI cI cD cR sN n1 n2 n3 n4 n5 n d t al day nd mk si kn mb y (by first | omega | assumption | exact gnd _ | exact gkn _ | exact Nat.lt_trans (gkn _) (by decide) | exact Nat.lt_trans (gnd _) (by decide) | exact Nat.lt_of_le_of_lt (pcN_le _) (by decide)) (by first | omega | assumption | exact gnd _ | exact gkn _ | exact Nat.lt_trans (gkn _) (by decide) | exact Nat.lt_trans (gnd _) (by decide) | exact Nat.lt_of_le_of_lt (pcN_le _) (by decide)) (by first | omega | assumption | exact gnd _ | exact gkn _ | exact Nat.lt_trans (gkn _) (by decide) | exact Nat.lt_trans (gnd _) (by decide) | exact Nat.lt_of_le_of_lt (pcN_le _) (by decide)) (by first | omega | assumption | exact gnd _ | exact gkn _ | exact Nat.lt_trans (gkn _) (by decide) | exact Nat.lt_trans (gnd _) (by decide) | exact Nat.lt_of_le_of_lt (pcN_le _) (by decide)) (by first | omega | assumption | exact gnd _ | exact gkn _ | exact Nat.lt_trans (gkn _) (by decide) | exact Nat.lt_trans (gnd _) (by decide) | exact Nat.lt_of_le_of_lt (pcN_le _) (by decide)) gnd gkn (by first | omega | assumption | exact gnd _ | exact gkn _ | exact Nat.lt_trans (gkn _) (by decide) | exact Nat.lt_trans (gnd _) (by decide) | exact Nat.lt_of_le_of_lt (pcN_le _) (by decide))) (cwV 1 hts gX11_canHave_X9_hasSentence rfl rfl rfl (by decide +kernel) ⟨Nat.le_of_ble_eq_true rfl, Nat.le_of_ble_eq_true rfl⟩) (preV_R hCX (va_recv hK hP (ci := 9) (q0 := 1) rfl rfl) ((hP.sub (ws' := (schW cI cD sN n1 n2 n3 n4 n5 n d t al day nd mk si kn mb)) [1, 2, 3, 4, 5, 6] rfl))) rfl rfl hl.1 rfl (lv_room (Nat.le_of_ble_eq_true rfl)) dX11_canHave_5 ⟨Nat.le_of_ble_eq_true (by first | rfl | decide), Nat.le_of_ble_eq_true (by first | rfl | decide)⟩).run) (fun r_5 hr_5 => ?_)
  subst hr_5
  refine lv_if_ne (tgt := 13) hx hb dX11_canHave_8 (by decide) (fun _ => ?_) (fun z => absurd z (by decide +kernel))
  refine lv_aload_n hx hb dX11_canHave_13 rfl (lv_at hl 0 rfl) ?_
  refine va_get (D := (dC, dI)) (ci := 11) (v := .ref sN) (C := RX11) (T := TX11) (N := 7) hx hb hts (fun _ h => List.mem_cons_of_mem _ (List.mem_append_left _ (List.mem_append_left _ (List.mem_append_left _ (List.mem_append_left _ (List.mem_append_left _ (List.mem_append_left _ (List.mem_append_left _ (List.mem_append_left _ (List.mem_append_left _ (List.mem_append_right _ h))))))))))) hown hK hP 0 rfl rfl 0 (by decide) (hts (.fieldLink RX11 10 "HoldsOnceDenied" "now" "LHoldsOnceDenied$School;") (by decide +kernel)) (fun _ h9 => h9) rfl dX11_canHave_14 ?_
  refine lv_iload_n hx hb dX11_canHave_17 rfl (lv_at hl 1 rfl) ?_
  refine vp_callSi ((va_runV (As := [.int (nI y)]) (rest := []) ⟨hx, hb, hml, hown, hts⟩ (c_X9_isTrue l dC dI cI cD cR sN n1 n2 n3 n4 n5 n d t al day nd mk si kn mb y (by first | omega | assumption | exact gnd _ | exact gkn _ | exact Nat.lt_trans (gkn _) (by decide) | exact Nat.lt_trans (gnd _) (by decide) | exact Nat.lt_of_le_of_lt (pcN_le _) (by decide)) (by first | omega | assumption | exact gnd _ | exact gkn _ | exact Nat.lt_trans (gkn _) (by decide) | exact Nat.lt_trans (gnd _) (by decide) | exact Nat.lt_of_le_of_lt (pcN_le _) (by decide)) (by first | omega | assumption | exact gnd _ | exact gkn _ | exact Nat.lt_trans (gkn _) (by decide) | exact Nat.lt_trans (gnd _) (by decide) | exact Nat.lt_of_le_of_lt (pcN_le _) (by decide)) (by first | omega | assumption | exact gnd _ | exact gkn _ | exact Nat.lt_trans (gkn _) (by decide) | exact Nat.lt_trans (gnd _) (by decide) | exact Nat.lt_of_le_of_lt (pcN_le _) (by decide)) (by first | omega | assumption | exact gnd _ | exact gkn _ | exact Nat.lt_trans (gkn _) (by decide) | exact Nat.lt_trans (gnd _) (by decide) | exact Nat.lt_of_le_of_lt (pcN_le _) (by decide)) gnd gkn (by first | omega | assumption | exact gnd _ | exact gkn _ | exact Nat.lt_trans (gkn _) (by decide) | exact Nat.lt_trans (gnd _) (by decide) | exact Nat.lt_of_le_of_lt (pcN_le _) (by decide))) (cwV 1 hts gX11_canHave_X9_isTrue rfl rfl rfl (by decide +kernel) ⟨Nat.le_of_ble_eq_true rfl, Nat.le_of_ble_eq_true rfl⟩) (preV_R hCX (va_recv hK hP (ci := 9) (q0 := 1) rfl rfl) ((hP.sub (ws' := (schW cI cD sN n1 n2 n3 n4 n5 n d t al day nd mk si kn mb)) [1, 2, 3, 4, 5, 6] rfl))) rfl rfl hl.1 rfl (lv_room (Nat.le_of_ble_eq_true rfl)) dX11_canHave_18 ⟨Nat.le_of_ble_eq_true (by first | rfl | decide), Nat.le_of_ble_eq_true (by first | rfl | decide)⟩).run) (fun r_18 hr_18 => ?_)
  subst hr_18
  refine ho_bne (tgt := 27) hx hb dX11_canHave_21 (by decide) (fun c_21 => ?_) (fun c_21 => ?_)
  · refine lv_aload_n hx hb dX11_canHave_27 rfl (lv_at hl 0 rfl) ?_
    refine va_get (D := (dC, dI)) (ci := 11) (v := .ref sN) (C := RX11) (T := TX11) (N := 7) hx hb hts (fun _ h => List.mem_cons_of_mem _ (List.mem_append_left _ (List.mem_append_left _ (List.mem_append_left _ (List.mem_append_left _ (List.mem_append_left _ (List.mem_append_left _ (List.mem_append_left _ (List.mem_append_left _ (List.mem_append_left _ (List.mem_append_right _ h))))))))))) hown hK hP 0 rfl rfl 0 (by decide) (hts (.fieldLink RX11 10 "HoldsOnceDenied" "now" "LHoldsOnceDenied$School;") (by decide +kernel)) (fun _ h9 => h9) rfl dX11_canHave_28 ?_
    refine lv_iload_n hx hb dX11_canHave_31 rfl (lv_at hl 1 rfl) ?_
    refine vp_callSi ((va_runV (As := [.int (nI y)]) (rest := []) ⟨hx, hb, hml, hown, hts⟩ (c_X9_suspects l dC dI cI cD cR sN n1 n2 n3 n4 n5 n d t al day nd mk si kn mb y DL kd fg (by first | omega | assumption | exact gnd _ | exact gkn _ | exact Nat.lt_trans (gkn _) (by decide) | exact Nat.lt_trans (gnd _) (by decide) | exact Nat.lt_of_le_of_lt (pcN_le _) (by decide)) (by first | omega | assumption | exact gnd _ | exact gkn _ | exact Nat.lt_trans (gkn _) (by decide) | exact Nat.lt_trans (gnd _) (by decide) | exact Nat.lt_of_le_of_lt (pcN_le _) (by decide)) (by first | omega | assumption | exact gnd _ | exact gkn _ | exact Nat.lt_trans (gkn _) (by decide) | exact Nat.lt_trans (gnd _) (by decide) | exact Nat.lt_of_le_of_lt (pcN_le _) (by decide)) (by first | omega | assumption | exact gnd _ | exact gkn _ | exact Nat.lt_trans (gkn _) (by decide) | exact Nat.lt_trans (gnd _) (by decide) | exact Nat.lt_of_le_of_lt (pcN_le _) (by decide)) (by first | omega | assumption | exact gnd _ | exact gkn _ | exact Nat.lt_trans (gkn _) (by decide) | exact Nat.lt_trans (gnd _) (by decide) | exact Nat.lt_of_le_of_lt (pcN_le _) (by decide)) gnd gkn (by first | omega | assumption | exact gnd _ | exact gkn _ | exact Nat.lt_trans (gkn _) (by decide) | exact Nat.lt_trans (gnd _) (by decide) | exact Nat.lt_of_le_of_lt (pcN_le _) (by decide)) gmb) (cwV 1 hts gX11_canHave_X9_suspects rfl rfl rfl (by decide +kernel) ⟨Nat.le_of_ble_eq_true rfl, Nat.le_of_ble_eq_true rfl⟩) (preV_R hCX (va_recv hK hP (ci := 9) (q0 := 1) rfl rfl) (⟨(hP.sub (ws' := (schW cI cD sN n1 n2 n3 n4 n5 n d t al day nd mk si kn mb)) [1, 2, 3, 4, 5, 6] rfl), hDP⟩)) rfl rfl hl.1 rfl (lv_room (Nat.le_of_ble_eq_true rfl)) dX11_canHave_32 ⟨Nat.le_of_ble_eq_true (by first | rfl | decide), Nat.le_of_ble_eq_true (by first | rfl | decide)⟩).run) (fun r_32 hr_32 => ?_)
    subst hr_32
    exact W.iret (v := nI (orF (fun i9 => suB t nd kn mb kd fg y i9) d)) hx hb hr (fun T9 hT9 hW9 => ⟨_, rfl, (by (simp [on1, c_21, oN_t h_y]) <;> first | rfl | omega), hT9⟩) (fun q h => by cases h) dX11_canHave_35
  refine lv_bipush (v := (-3)) hx hb dX11_canHave_24 (by decide +kernel) ?_
  exact W.iret (v := (-3)) hx hb hr (fun T9 hT9 hW9 => ⟨_, rfl, (by (simp [on1, c_21, oN_t h_y]) <;> first | rfl | omega), hT9⟩) (fun q h => by cases h) dX11_canHave_26
set_option maxHeartbeats 4000000 in
set_option maxRecDepth 100000 in
theorem c_X11_count (l : Launch) (dC : Nat → ClassId) (dI : Nat → Nat → Nat) (cI cD cR : ClassId) (x sN sM sP : Nat) (pt : Bool) (fo da ra : Nat) (n1 n2 n3 n4 n5 : Nat) (n d t al day : Nat) (nd : Nat → Nat) (mk si : Nat → Int32) (kn : Nat → Nat) (mb : Nat → Option Nat) (w : Int32) (hn : n ≤ 9) (hd : d ≤ 6) (ht : t < 512) (hal : al < 64) (hday : day < 2 ^ 30) (gnd : ∀ i, nd i < 512) (gkn : ∀ j, kn j < 512) : Met l yX11_count wsX11_count ({ frames := 2, cells := 0, slots := 0, locals := 40 }) (pcR dC dI cI cD cR [.ref x, .int w] (fun H => va_P (dC, dI) vwCl ([(x, .inr (11, [.ref sN, .ref sM, .ref sP, .int (bI pt), .ref fo, .ref da, .ref ra]))] ++ (schW cI cD sN n1 n2 n3 n4 n5 n d t al day nd mk si kn mb)) H)) (vp_Si (fun r => r = (if w = 0 then nI n else if w = 1 then nI d else if w = 2 then nI day else if w = 3 then nI (pcN t) else if w = 4 then nI (pcN al) else -1))) 0 0 (fun _ => False) := by
  refine Met.ofW (cc := cX11_count) (maxL := 2) (ret := (some .int)) (by decide) rfl ?_
  intro p e s m args below meth c s₁ B hml hv
  obtain ⟨rfl, hH0, hCX⟩ := hv
  have hx := B.exec
  have hb := B.bytes
  have hr := B.returns
  have hts := atoms_spec (ws := wsX11_count) B.pre
  have hown : s.vm.findClass RX11 = some m.cls := findClass_of_methodNamed B.named
  have hlocks := B.notSynchronized
  have hK := hCX.1
  have hP := hH0
  have hl := lv_entry ([.ref x, .int w]) (n := 2) (Nat.le_of_ble_eq_true rfl)
  rw [lg_entry_eq]
  generalize (lg_sl ([.ref x, .int w]) ++ List.replicate (2 - (lg_sl ([.ref x, .int w])).length) Slot.unset).toArray = ls at hl ⊢
  have hl : lv_has ls 2 [(0, .ref x), (1, .int w)] := hl
  refine lv_iload_n hx hb dX11_count_0 rfl (lv_at hl 1 rfl) ?_
  by_cases k_1_0 : w = 0
  · refine ho_tope (y := 0) k_1_0 ?_
    refine lv_tableIn (tgt := 36) hx hb dX11_count_1 (by decide +kernel) (by decide +kernel) (off := 35) (by decide +kernel) (by decide) ?_
    refine lv_aload_n hx hb dX11_count_36 rfl (lv_at hl 0 rfl) ?_
    refine va_get (D := (dC, dI)) (ci := 11) (v := .ref sN) (C := RX11) (T := TX11) (N := 7) hx hb hts (fun _ h => List.mem_cons_of_mem _ (List.mem_append_left _ (List.mem_append_right _ h))) hown hK hP 0 rfl rfl 0 (by decide) (hts (.fieldLink RX11 10 "HoldsOnceDenied" "now" "LHoldsOnceDenied$School;") (by decide +kernel)) (fun _ h9 => h9) rfl dX11_count_37 ?_
    refine vp_callSi ((va_runV (As := []) (rest := []) ⟨hx, hb, hml, hown, hts⟩ (c_X9_countSentences l dC dI cI cD cR sN n1 n2 n3 n4 n5 n d t al day nd mk si kn mb (by first | omega | assumption | exact gnd _ | exact gkn _ | exact Nat.lt_trans (gkn _) (by decide) | exact Nat.lt_trans (gnd _) (by decide) | exact Nat.lt_of_le_of_lt (pcN_le _) (by decide)) (by first | omega | assumption | exact gnd _ | exact gkn _ | exact Nat.lt_trans (gkn _) (by decide) | exact Nat.lt_trans (gnd _) (by decide) | exact Nat.lt_of_le_of_lt (pcN_le _) (by decide)) (by first | omega | assumption | exact gnd _ | exact gkn _ | exact Nat.lt_trans (gkn _) (by decide) | exact Nat.lt_trans (gnd _) (by decide) | exact Nat.lt_of_le_of_lt (pcN_le _) (by decide)) (by first | omega | assumption | exact gnd _ | exact gkn _ | exact Nat.lt_trans (gkn _) (by decide) | exact Nat.lt_trans (gnd _) (by decide) | exact Nat.lt_of_le_of_lt (pcN_le _) (by decide)) (by first | omega | assumption | exact gnd _ | exact gkn _ | exact Nat.lt_trans (gkn _) (by decide) | exact Nat.lt_trans (gnd _) (by decide) | exact Nat.lt_of_le_of_lt (pcN_le _) (by decide)) gnd gkn) (cwV 0 hts gX11_count_X9_countSentences rfl rfl rfl (by decide +kernel) ⟨Nat.le_of_ble_eq_true rfl, Nat.le_of_ble_eq_true rfl⟩) (preV_R hCX (va_recv hK hP (ci := 9) (q0 := 1) rfl rfl) ((hP.sub (ws' := (schW cI cD sN n1 n2 n3 n4 n5 n d t al day nd mk si kn mb)) [1, 2, 3, 4, 5, 6] rfl))) rfl rfl hl.1 rfl (lv_room (Nat.le_of_ble_eq_true rfl)) dX11_count_40 ⟨Nat.le_of_ble_eq_true (by first | rfl | decide), Nat.le_of_ble_eq_true (by first | rfl | decide)⟩).run) (fun r_40 hr_40 => ?_)
    subst hr_40
    exact W.iret (v := nI n) hx hb hr (fun T9 hT9 hW9 => ⟨_, rfl, (by (simp [k_1_0]) <;> first | rfl | omega), hT9⟩) (fun q h => by cases h) dX11_count_43
  by_cases k_1_1 : w = 1
  · refine ho_tope (y := 1) k_1_1 ?_
    refine lv_tableIn (tgt := 44) hx hb dX11_count_1 (by decide +kernel) (by decide +kernel) (off := 43) (by decide +kernel) (by decide) ?_
    refine lv_aload_n hx hb dX11_count_44 rfl (lv_at hl 0 rfl) ?_
    refine va_get (D := (dC, dI)) (ci := 11) (v := .ref sN) (C := RX11) (T := TX11) (N := 7) hx hb hts (fun _ h => List.mem_cons_of_mem _ (List.mem_append_left _ (List.mem_append_right _ h))) hown hK hP 0 rfl rfl 0 (by decide) (hts (.fieldLink RX11 10 "HoldsOnceDenied" "now" "LHoldsOnceDenied$School;") (by decide +kernel)) (fun _ h9 => h9) rfl dX11_count_45 ?_
    refine vp_callSi ((va_runV (As := []) (rest := []) ⟨hx, hb, hml, hown, hts⟩ (c_X9_countDeniers l dC dI cI cD cR sN n1 n2 n3 n4 n5 n d t al day nd mk si kn mb (by first | omega | assumption | exact gnd _ | exact gkn _ | exact Nat.lt_trans (gkn _) (by decide) | exact Nat.lt_trans (gnd _) (by decide) | exact Nat.lt_of_le_of_lt (pcN_le _) (by decide)) (by first | omega | assumption | exact gnd _ | exact gkn _ | exact Nat.lt_trans (gkn _) (by decide) | exact Nat.lt_trans (gnd _) (by decide) | exact Nat.lt_of_le_of_lt (pcN_le _) (by decide)) (by first | omega | assumption | exact gnd _ | exact gkn _ | exact Nat.lt_trans (gkn _) (by decide) | exact Nat.lt_trans (gnd _) (by decide) | exact Nat.lt_of_le_of_lt (pcN_le _) (by decide)) (by first | omega | assumption | exact gnd _ | exact gkn _ | exact Nat.lt_trans (gkn _) (by decide) | exact Nat.lt_trans (gnd _) (by decide) | exact Nat.lt_of_le_of_lt (pcN_le _) (by decide)) (by first | omega | assumption | exact gnd _ | exact gkn _ | exact Nat.lt_trans (gkn _) (by decide) | exact Nat.lt_trans (gnd _) (by decide) | exact Nat.lt_of_le_of_lt (pcN_le _) (by decide)) gnd gkn) (cwV 0 hts gX11_count_X9_countDeniers rfl rfl rfl (by decide +kernel) ⟨Nat.le_of_ble_eq_true rfl, Nat.le_of_ble_eq_true rfl⟩) (preV_R hCX (va_recv hK hP (ci := 9) (q0 := 1) rfl rfl) ((hP.sub (ws' := (schW cI cD sN n1 n2 n3 n4 n5 n d t al day nd mk si kn mb)) [1, 2, 3, 4, 5, 6] rfl))) rfl rfl hl.1 rfl (lv_room (Nat.le_of_ble_eq_true rfl)) dX11_count_48 ⟨Nat.le_of_ble_eq_true (by first | rfl | decide), Nat.le_of_ble_eq_true (by first | rfl | decide)⟩).run) (fun r_48 hr_48 => ?_)
    subst hr_48
    exact W.iret (v := nI d) hx hb hr (fun T9 hT9 hW9 => ⟨_, rfl, (by (simp [k_1_1]) <;> first | rfl | omega), hT9⟩) (fun q h => by cases h) dX11_count_51
  by_cases k_1_2 : w = 2
  · refine ho_tope (y := 2) k_1_2 ?_
    refine lv_tableIn (tgt := 52) hx hb dX11_count_1 (by decide +kernel) (by decide +kernel) (off := 51) (by decide +kernel) (by decide) ?_
    refine lv_aload_n hx hb dX11_count_52 rfl (lv_at hl 0 rfl) ?_
    refine va_get (D := (dC, dI)) (ci := 11) (v := .ref sN) (C := RX11) (T := TX11) (N := 7) hx hb hts (fun _ h => List.mem_cons_of_mem _ (List.mem_append_left _ (List.mem_append_right _ h))) hown hK hP 0 rfl rfl 0 (by decide) (hts (.fieldLink RX11 10 "HoldsOnceDenied" "now" "LHoldsOnceDenied$School;") (by decide +kernel)) (fun _ h9 => h9) rfl dX11_count_53 ?_
    refine vp_callSi ((va_runV (As := []) (rest := []) ⟨hx, hb, hml, hown, hts⟩ (c_X9_today l dC dI cI cD cR sN n1 n2 n3 n4 n5 n d t al day nd mk si kn mb (by first | omega | assumption | exact gnd _ | exact gkn _ | exact Nat.lt_trans (gkn _) (by decide) | exact Nat.lt_trans (gnd _) (by decide) | exact Nat.lt_of_le_of_lt (pcN_le _) (by decide)) (by first | omega | assumption | exact gnd _ | exact gkn _ | exact Nat.lt_trans (gkn _) (by decide) | exact Nat.lt_trans (gnd _) (by decide) | exact Nat.lt_of_le_of_lt (pcN_le _) (by decide)) (by first | omega | assumption | exact gnd _ | exact gkn _ | exact Nat.lt_trans (gkn _) (by decide) | exact Nat.lt_trans (gnd _) (by decide) | exact Nat.lt_of_le_of_lt (pcN_le _) (by decide)) (by first | omega | assumption | exact gnd _ | exact gkn _ | exact Nat.lt_trans (gkn _) (by decide) | exact Nat.lt_trans (gnd _) (by decide) | exact Nat.lt_of_le_of_lt (pcN_le _) (by decide)) (by first | omega | assumption | exact gnd _ | exact gkn _ | exact Nat.lt_trans (gkn _) (by decide) | exact Nat.lt_trans (gnd _) (by decide) | exact Nat.lt_of_le_of_lt (pcN_le _) (by decide)) gnd gkn) (cwV 0 hts gX11_count_X9_today rfl rfl rfl (by decide +kernel) ⟨Nat.le_of_ble_eq_true rfl, Nat.le_of_ble_eq_true rfl⟩) (preV_R hCX (va_recv hK hP (ci := 9) (q0 := 1) rfl rfl) ((hP.sub (ws' := (schW cI cD sN n1 n2 n3 n4 n5 n d t al day nd mk si kn mb)) [1, 2, 3, 4, 5, 6] rfl))) rfl rfl hl.1 rfl (lv_room (Nat.le_of_ble_eq_true rfl)) dX11_count_56 ⟨Nat.le_of_ble_eq_true (by first | rfl | decide), Nat.le_of_ble_eq_true (by first | rfl | decide)⟩).run) (fun r_56 hr_56 => ?_)
    subst hr_56
    exact W.iret (v := nI day) hx hb hr (fun T9 hT9 hW9 => ⟨_, rfl, (by (simp [k_1_2]) <;> first | rfl | omega), hT9⟩) (fun q h => by cases h) dX11_count_59
  by_cases k_1_3 : w = 3
  · refine ho_tope (y := 3) k_1_3 ?_
    refine lv_tableIn (tgt := 60) hx hb dX11_count_1 (by decide +kernel) (by decide +kernel) (off := 59) (by decide +kernel) (by decide) ?_
    refine lv_aload_n hx hb dX11_count_60 rfl (lv_at hl 0 rfl) ?_
    refine va_get (D := (dC, dI)) (ci := 11) (v := .ref sN) (C := RX11) (T := TX11) (N := 7) hx hb hts (fun _ h => List.mem_cons_of_mem _ (List.mem_append_left _ (List.mem_append_right _ h))) hown hK hP 0 rfl rfl 0 (by decide) (hts (.fieldLink RX11 10 "HoldsOnceDenied" "now" "LHoldsOnceDenied$School;") (by decide +kernel)) (fun _ h9 => h9) rfl dX11_count_61 ?_
    refine vp_callSi ((va_runV (As := []) (rest := []) ⟨hx, hb, hml, hown, hts⟩ (c_X9_countTrue l dC dI cI cD cR sN n1 n2 n3 n4 n5 n d t al day nd mk si kn mb (by first | omega | assumption | exact gnd _ | exact gkn _ | exact Nat.lt_trans (gkn _) (by decide) | exact Nat.lt_trans (gnd _) (by decide) | exact Nat.lt_of_le_of_lt (pcN_le _) (by decide)) (by first | omega | assumption | exact gnd _ | exact gkn _ | exact Nat.lt_trans (gkn _) (by decide) | exact Nat.lt_trans (gnd _) (by decide) | exact Nat.lt_of_le_of_lt (pcN_le _) (by decide)) (by first | omega | assumption | exact gnd _ | exact gkn _ | exact Nat.lt_trans (gkn _) (by decide) | exact Nat.lt_trans (gnd _) (by decide) | exact Nat.lt_of_le_of_lt (pcN_le _) (by decide)) (by first | omega | assumption | exact gnd _ | exact gkn _ | exact Nat.lt_trans (gkn _) (by decide) | exact Nat.lt_trans (gnd _) (by decide) | exact Nat.lt_of_le_of_lt (pcN_le _) (by decide)) (by first | omega | assumption | exact gnd _ | exact gkn _ | exact Nat.lt_trans (gkn _) (by decide) | exact Nat.lt_trans (gnd _) (by decide) | exact Nat.lt_of_le_of_lt (pcN_le _) (by decide)) gnd gkn) (cwV 0 hts gX11_count_X9_countTrue rfl rfl rfl (by decide +kernel) ⟨Nat.le_of_ble_eq_true rfl, Nat.le_of_ble_eq_true rfl⟩) (preV_R hCX (va_recv hK hP (ci := 9) (q0 := 1) rfl rfl) ((hP.sub (ws' := (schW cI cD sN n1 n2 n3 n4 n5 n d t al day nd mk si kn mb)) [1, 2, 3, 4, 5, 6] rfl))) rfl rfl hl.1 rfl (lv_room (Nat.le_of_ble_eq_true rfl)) dX11_count_64 ⟨Nat.le_of_ble_eq_true (by first | rfl | decide), Nat.le_of_ble_eq_true (by first | rfl | decide)⟩).run) (fun r_64 hr_64 => ?_)
    subst hr_64
    exact W.iret (v := nI (pcN t)) hx hb hr (fun T9 hT9 hW9 => ⟨_, rfl, (by (simp [k_1_3]) <;> first | rfl | omega), hT9⟩) (fun q h => by cases h) dX11_count_67
  by_cases k_1_4 : w = 4
  · refine ho_tope (y := 4) k_1_4 ?_
    refine lv_tableIn (tgt := 68) hx hb dX11_count_1 (by decide +kernel) (by decide +kernel) (off := 67) (by decide +kernel) (by decide) ?_
    refine lv_aload_n hx hb dX11_count_68 rfl (lv_at hl 0 rfl) ?_
    refine va_get (D := (dC, dI)) (ci := 11) (v := .ref sN) (C := RX11) (T := TX11) (N := 7) hx hb hts (fun _ h => List.mem_cons_of_mem _ (List.mem_append_left _ (List.mem_append_right _ h))) hown hK hP 0 rfl rfl 0 (by decide) (hts (.fieldLink RX11 10 "HoldsOnceDenied" "now" "LHoldsOnceDenied$School;") (by decide +kernel)) (fun _ h9 => h9) rfl dX11_count_69 ?_
    refine vp_callSi ((va_runV (As := []) (rest := []) ⟨hx, hb, hml, hown, hts⟩ (c_X9_countAlive l dC dI cI cD cR sN n1 n2 n3 n4 n5 n d t al day nd mk si kn mb (by first | omega | assumption | exact gnd _ | exact gkn _ | exact Nat.lt_trans (gkn _) (by decide) | exact Nat.lt_trans (gnd _) (by decide) | exact Nat.lt_of_le_of_lt (pcN_le _) (by decide)) (by first | omega | assumption | exact gnd _ | exact gkn _ | exact Nat.lt_trans (gkn _) (by decide) | exact Nat.lt_trans (gnd _) (by decide) | exact Nat.lt_of_le_of_lt (pcN_le _) (by decide)) (by first | omega | assumption | exact gnd _ | exact gkn _ | exact Nat.lt_trans (gkn _) (by decide) | exact Nat.lt_trans (gnd _) (by decide) | exact Nat.lt_of_le_of_lt (pcN_le _) (by decide)) (by first | omega | assumption | exact gnd _ | exact gkn _ | exact Nat.lt_trans (gkn _) (by decide) | exact Nat.lt_trans (gnd _) (by decide) | exact Nat.lt_of_le_of_lt (pcN_le _) (by decide)) (by first | omega | assumption | exact gnd _ | exact gkn _ | exact Nat.lt_trans (gkn _) (by decide) | exact Nat.lt_trans (gnd _) (by decide) | exact Nat.lt_of_le_of_lt (pcN_le _) (by decide)) gnd gkn) (cwV 0 hts gX11_count_X9_countAlive rfl rfl rfl (by decide +kernel) ⟨Nat.le_of_ble_eq_true rfl, Nat.le_of_ble_eq_true rfl⟩) (preV_R hCX (va_recv hK hP (ci := 9) (q0 := 1) rfl rfl) ((hP.sub (ws' := (schW cI cD sN n1 n2 n3 n4 n5 n d t al day nd mk si kn mb)) [1, 2, 3, 4, 5, 6] rfl))) rfl rfl hl.1 rfl (lv_room (Nat.le_of_ble_eq_true rfl)) dX11_count_72 ⟨Nat.le_of_ble_eq_true (by first | rfl | decide), Nat.le_of_ble_eq_true (by first | rfl | decide)⟩).run) (fun r_72 hr_72 => ?_)
    subst hr_72
    exact W.iret (v := nI (pcN al)) hx hb hr (fun T9 hT9 hW9 => ⟨_, rfl, (by (simp [k_1_4]) <;> first | rfl | omega), hT9⟩) (fun q h => by cases h) dX11_count_75
  refine lv_tableOut (tgt := 76) hx hb dX11_count_1 (by have z0 := sw_ne k_1_0 (i := 0) rfl; have z1 := sw_ne k_1_1 (i := 1) rfl; have z2 := sw_ne k_1_2 (i := 2) rfl; have z3 := sw_ne k_1_3 (i := 3) rfl; have z4 := sw_ne k_1_4 (i := 4) rfl; show _ ∨ _; omega) (by decide) ?_
  refine lv_iconst (v := (-1)) hx hb dX11_count_76 (by decide +kernel) ?_
  exact W.iret (v := (-1)) hx hb hr (fun T9 hT9 hW9 => ⟨_, rfl, (by (simp [k_1_0, k_1_1, k_1_2, k_1_3, k_1_4]) <;> first | rfl | omega), hT9⟩) (fun q h => by cases h) dX11_count_77
set_option maxHeartbeats 4000000 in
set_option maxRecDepth 100000 in
theorem c_X11_price (l : Launch) (dC : Nat → ClassId) (dI : Nat → Nat → Nat) (cI cD cR : ClassId) (x sN sM sP : Nat) (pt : Bool) (fo da ra : Nat) (dm : Nat → Option Nat) (rm : Nat → Option Nat) (i : Int32) (DL : List Nat) (kd fg : Nat → Nat) (gdm : ∀ j a, dm j = some a → a ∈ DL) : Met l yX11_price wsX11_price ({ frames := 3, cells := 0, slots := 0, locals := 63 }) (pcR dC dI cI cD cR [.ref x, .int i] (fun H => va_P (dC, dI) vwCl ([(x, .inr (11, [.ref sN, .ref sM, .ref sP, .int (bI pt), .ref fo, .ref da, .ref ra]))] ++ [(da, .inl (cD, 8, .inr (.inr (.inr (.inr dm)))))] ++ [(ra, .inl (cR, 8, .inr (.inr (.inr (.inr rm)))))]) H ∧ DP dC dI DL kd fg H)) (vp_Si (fun r => r = (on1 (oN i 8) (fun y => match dm y with | none => (bif (rm y).isNone && (dm y).isNone then -11 else -12) | some a => nI (asN (kd a) (fg a))) (-1)))) 0 0 (fun _ => False) := by
  refine Met.ofW (cc := cX11_price) (maxL := 3) (ret := (some .int)) (by decide) rfl ?_
  intro p e s m args below meth c s₁ B hml hv
  obtain ⟨rfl, hH0, hCX⟩ := hv
  have hx := B.exec
  have hb := B.bytes
  have hr := B.returns
  have hts := atoms_spec (ws := wsX11_price) B.pre
  have hown : s.vm.findClass RX11 = some m.cls := findClass_of_methodNamed B.named
  have hlocks := B.notSynchronized
  have hK := hCX.1
  obtain ⟨hP, hDP⟩ := hH0
  have hl := lv_entry ([.ref x, .int i]) (n := 3) (Nat.le_of_ble_eq_true rfl)
  rw [lg_entry_eq]
  generalize (lg_sl ([.ref x, .int i]) ++ List.replicate (3 - (lg_sl ([.ref x, .int i])).length) Slot.unset).toArray = ls at hl ⊢
  have hl : lv_has ls 3 [(0, .ref x), (1, .int i)] := hl
  rcases okI_or i (n := 8) (by omega) with hb_i | ⟨y, h_y, rfl⟩
  · refine lv_aload_n hx hb dX11_price_0 rfl (lv_at hl 0 rfl) ?_
    refine lv_iload_n hx hb dX11_price_1 rfl (lv_at hl 1 rfl) ?_
    refine va_csq ((va_runV (As := [.int i]) (rest := []) ⟨hx, hb, hml, hown, hts⟩ (c_X11_denierAt_f l dC dI cI cD cR x sN sM sP pt fo da ra dm i (by first | omega | assumption | exact gnd _ | exact gkn _ | exact Nat.lt_trans (gkn _) (by decide) | exact Nat.lt_trans (gnd _) (by decide) | exact Nat.lt_of_le_of_lt (pcN_le _) (by decide))) (cwV 1 hts gX11_price_X11_denierAt rfl rfl rfl (by decide +kernel) ⟨Nat.le_of_ble_eq_true rfl, Nat.le_of_ble_eq_true rfl⟩) (preV_R hCX (va_recv hK hP (ci := 11) (q0 := 0) rfl rfl) ((hP.sub (ws' := [(x, .inr (11, [.ref sN, .ref sM, .ref sP, .int (bI pt), .ref fo, .ref da, .ref ra]))] ++ [(da, .inl (cD, 8, .inr (.inr (.inr (.inr dm)))))]) [0, 1] rfl))) rfl rfl hl.1 rfl (lv_room (Nat.le_of_ble_eq_true rfl)) dX11_price_2 ⟨Nat.le_of_ble_eq_true (by first | rfl | decide), Nat.le_of_ble_eq_true (by first | rfl | decide)⟩).run) (fun r_2 hr_2 => ?_)
    subst hr_2
    refine ho_topr (y := .null) rfl ?_
    refine lv_astore_nN (lv' := [(2, .null), (0, .ref x), (1, .int i)]) hx hb dX11_price_5 rfl hl (by decide) rfl (fun ls hl => ?_)
    refine lv_aload_nN hx hb dX11_price_6 rfl (lv_at hl 0 rfl) ?_
    refine lv_ifnonnullN hx hb dX11_price_7 ?_
    refine lv_aload_n hx hb dX11_price_10 rfl (lv_at hl 1 rfl) ?_
    refine lv_iload_n hx hb dX11_price_11 rfl (lv_at hl 2 rfl) ?_
    refine vp_callSi ((va_runV (As := [.int i]) (rest := []) ⟨hx, hb, hml, hown, hts⟩ (c_X11_whyMissing l dC dI cI cD cR x sN sM sP pt fo da ra dm rm i) (cwV 1 hts gX11_price_X11_whyMissing rfl rfl rfl (by decide +kernel) ⟨Nat.le_of_ble_eq_true rfl, Nat.le_of_ble_eq_true rfl⟩) (preV_R hCX (va_recv hK hP (ci := 11) (q0 := 0) rfl rfl) (hP)) rfl rfl hl.1 rfl (lv_room (Nat.le_of_ble_eq_true rfl)) dX11_price_12 ⟨Nat.le_of_ble_eq_true (by first | rfl | decide), Nat.le_of_ble_eq_true (by first | rfl | decide)⟩).run) (fun r_12 hr_12 => ?_)
    subst hr_12
    refine lv_goto (tgt := 22) hx hb dX11_price_15 (by decide) ?_
    exact W.iret (v := (whyR dm rm i)) hx hb hr (fun T9 hT9 hW9 => ⟨_, rfl, (by (simp [on1, whyR, oN_f hb_i]) <;> first | rfl | omega), hT9⟩) (fun q h => by cases h) dX11_price_22
  refine lv_aload_n hx hb dX11_price_0 rfl (lv_at hl 0 rfl) ?_
  refine lv_iload_n hx hb dX11_price_1 rfl (lv_at hl 1 rfl) ?_
  refine va_csq ((va_runV (As := [.int (nI y)]) (rest := []) ⟨hx, hb, hml, hown, hts⟩ (c_X11_denierAt_t l dC dI cI cD cR x sN sM sP pt fo da ra dm y (by first | omega | assumption | exact gnd _ | exact gkn _ | exact Nat.lt_trans (gkn _) (by decide) | exact Nat.lt_trans (gnd _) (by decide) | exact Nat.lt_of_le_of_lt (pcN_le _) (by decide))) (cwV 1 hts gX11_price_X11_denierAt rfl rfl rfl (by decide +kernel) ⟨Nat.le_of_ble_eq_true rfl, Nat.le_of_ble_eq_true rfl⟩) (preV_R hCX (va_recv hK hP (ci := 11) (q0 := 0) rfl rfl) ((hP.sub (ws' := [(x, .inr (11, [.ref sN, .ref sM, .ref sP, .int (bI pt), .ref fo, .ref da, .ref ra]))] ++ [(da, .inl (cD, 8, .inr (.inr (.inr (.inr dm)))))]) [0, 1] rfl))) rfl rfl hl.1 rfl (lv_room (Nat.le_of_ble_eq_true rfl)) dX11_price_2 ⟨Nat.le_of_ble_eq_true (by first | rfl | decide), Nat.le_of_ble_eq_true (by first | rfl | decide)⟩).run) (fun r_2 hr_2 => ?_)
  subst hr_2
  cases hv_2 : dm y with
  | none =>
    refine ho_topr (y := .null) rfl ?_
    refine lv_astore_nN (lv' := [(2, .null), (0, .ref x), (1, .int (nI y))]) hx hb dX11_price_5 rfl hl (by decide) rfl (fun ls hl => ?_)
    refine lv_aload_nN hx hb dX11_price_6 rfl (lv_at hl 0 rfl) ?_
    refine lv_ifnonnullN hx hb dX11_price_7 ?_
    refine lv_aload_n hx hb dX11_price_10 rfl (lv_at hl 1 rfl) ?_
    refine lv_iload_n hx hb dX11_price_11 rfl (lv_at hl 2 rfl) ?_
    refine vp_callSi ((va_runV (As := [.int (nI y)]) (rest := []) ⟨hx, hb, hml, hown, hts⟩ (c_X11_whyMissing_n l dC dI cI cD cR x sN sM sP pt fo da ra dm rm y (by first | omega | assumption | exact gnd _ | exact gkn _ | exact Nat.lt_trans (gkn _) (by decide) | exact Nat.lt_trans (gnd _) (by decide) | exact Nat.lt_of_le_of_lt (pcN_le _) (by decide))) (cwV 1 hts gX11_price_X11_whyMissing rfl rfl rfl (by decide +kernel) ⟨Nat.le_of_ble_eq_true rfl, Nat.le_of_ble_eq_true rfl⟩) (preV_R hCX (va_recv hK hP (ci := 11) (q0 := 0) rfl rfl) (hP)) rfl rfl hl.1 rfl (lv_room (Nat.le_of_ble_eq_true rfl)) dX11_price_12 ⟨Nat.le_of_ble_eq_true (by first | rfl | decide), Nat.le_of_ble_eq_true (by first | rfl | decide)⟩).run) (fun r_12 hr_12 => ?_)
    subst hr_12
    refine lv_goto (tgt := 22) hx hb dX11_price_15 (by decide) ?_
    exact W.iret (v := (bif (rm y).isNone && (dm y).isNone then -11 else -12)) hx hb hr (fun T9 hT9 hW9 => ⟨_, rfl, (by (simp [on1, whyR, hv_2, oN_t h_y]) <;> first | rfl | omega), hT9⟩) (fun q h => by cases h) dX11_price_22
  | some a_2 =>
    refine ho_topr (y := .ref a_2) rfl ?_
    have hda_2 : a_2 ∈ DL := gdm _ _ hv_2
    refine lv_astore_n (lv' := [(2, .ref a_2), (0, .ref x), (1, .int (nI y))]) hx hb dX11_price_5 rfl hl (by decide) rfl (fun ls hl => ?_)
    refine lv_aload_n hx hb dX11_price_6 rfl (lv_at hl 0 rfl) ?_
    refine lv_ifnonnull (tgt := 18) hx hb dX11_price_7 (by decide) ?_
    refine lv_aload_n hx hb dX11_price_18 rfl (lv_at hl 0 rfl) ?_
    refine ho_via (g2 := F0 m 22 ls [.int (nI (asN (kd a_2) (fg a_2)))]) (fun K9 => ?_) ?_
    · obtain ⟨hPa, hka, hfa⟩ := hDP _ hda_2
      generalize hkk : kd a_2 = kk at hPa hka K9
      generalize hff : fg a_2 = ff at hPa hfa K9
      rcases (show kk = 0 ∨ kk = 1 ∨ kk = 2 ∨ kk = 3 ∨ kk = 4 ∨ kk = 5 ∨ kk = 6 ∨ kk = 7 by omega) with rfl | rfl | rfl | rfl | rfl | rfl | rfl | rfl
      · refine vp_callSi ((va_runV (As := []) (rest := []) ⟨hx, hb, hml, hown, hts⟩ (c_X2_asks l dC dI cI cD cR a_2) (cwV 0 hts gX11_price_X2_asks rfl rfl rfl (by decide +kernel) ⟨Nat.le_of_ble_eq_true rfl, Nat.le_of_ble_eq_true rfl⟩) (preV_R hCX (va_recv hK hPa (ci := 2) (q0 := 0) rfl rfl) (trivial)) rfl rfl hl.1 rfl (lv_room (Nat.le_of_ble_eq_true rfl)) dX11_price_19 ⟨Nat.le_of_ble_eq_true (by first | rfl | decide), Nat.le_of_ble_eq_true (by first | rfl | decide)⟩).run) (fun r9 hr9 => ?_)
        subst hr9
        exact K9
      · refine vp_callSi ((va_runU (As := []) (rest := []) ⟨hx, hb, hml, hown, hts⟩ (c_X3_asks_k1 l dC dI cI cD cR a_2 ff) (va_cwO 0 hts gX11_price_X3_asks_u107X3 rfl rfl rfl (b0 := cX2_asks) (m0 := 1) (r0 := (some .int)) (by decide +kernel) (by decide +kernel) ⟨Nat.le_of_ble_eq_true rfl, Nat.le_of_ble_eq_true rfl⟩) (preV_R hCX (va_recv hK hPa (ci := 3) (q0 := 0) rfl rfl) (hPa)) rfl rfl hl.1 rfl (lv_room (Nat.le_of_ble_eq_true rfl)) dX11_price_19 ⟨Nat.le_of_ble_eq_true (by first | rfl | decide), Nat.le_of_ble_eq_true (by first | rfl | decide)⟩).run) (fun r9 hr9 => ?_)
        subst hr9
        exact K9
      · refine vp_callSi ((va_runU (As := []) (rest := []) ⟨hx, hb, hml, hown, hts⟩ (c_X10_asks_k2 l dC dI cI cD cR a_2 ff) (va_cwO 0 hts gX11_price_X10_asks_u107X10 rfl rfl rfl (b0 := cX2_asks) (m0 := 1) (r0 := (some .int)) (by decide +kernel) (by decide +kernel) ⟨Nat.le_of_ble_eq_true rfl, Nat.le_of_ble_eq_true rfl⟩) (preV_R hCX (va_recv hK hPa (ci := 10) (q0 := 0) rfl rfl) (hPa)) rfl rfl hl.1 rfl (lv_room (Nat.le_of_ble_eq_true rfl)) dX11_price_19 ⟨Nat.le_of_ble_eq_true (by first | rfl | decide), Nat.le_of_ble_eq_true (by first | rfl | decide)⟩).run) (fun r9 hr9 => ?_)
        subst hr9
        exact K9
      · refine vp_callSi ((va_runU (As := []) (rest := []) ⟨hx, hb, hml, hown, hts⟩ (c_X1_asks l dC dI cI cD cR a_2 ff) (va_cwO 0 hts gX11_price_X1_asks_u107X1 rfl rfl rfl (b0 := cX2_asks) (m0 := 1) (r0 := (some .int)) (by decide +kernel) (by decide +kernel) ⟨Nat.le_of_ble_eq_true rfl, Nat.le_of_ble_eq_true rfl⟩) (preV_R hCX (va_recv hK hPa (ci := 1) (q0 := 0) rfl rfl) (hPa)) rfl rfl hl.1 rfl (lv_room (Nat.le_of_ble_eq_true rfl)) dX11_price_19 ⟨Nat.le_of_ble_eq_true (by first | rfl | decide), Nat.le_of_ble_eq_true (by first | rfl | decide)⟩).run) (fun r9 hr9 => ?_)
        subst hr9
        exact K9
      · refine vp_callSi ((va_runU (As := []) (rest := []) ⟨hx, hb, hml, hown, hts⟩ (c_X5_asks_k4 l dC dI cI cD cR a_2 ff) (va_cwO 0 hts gX11_price_X5_asks_u107X5 rfl rfl rfl (b0 := cX2_asks) (m0 := 1) (r0 := (some .int)) (by decide +kernel) (by decide +kernel) ⟨Nat.le_of_ble_eq_true rfl, Nat.le_of_ble_eq_true rfl⟩) (preV_R hCX (va_recv hK hPa (ci := 5) (q0 := 0) rfl rfl) (hPa)) rfl rfl hl.1 rfl (lv_room (Nat.le_of_ble_eq_true rfl)) dX11_price_19 ⟨Nat.le_of_ble_eq_true (by first | rfl | decide), Nat.le_of_ble_eq_true (by first | rfl | decide)⟩).run) (fun r9 hr9 => ?_)
        subst hr9
        exact K9
      · refine vp_callSi ((va_runU (As := []) (rest := []) ⟨hx, hb, hml, hown, hts⟩ (c_X6_asks l dC dI cI cD cR a_2 ff) (va_cwO 0 hts gX11_price_X6_asks_u107X6 rfl rfl rfl (b0 := cX2_asks) (m0 := 1) (r0 := (some .int)) (by decide +kernel) (by decide +kernel) ⟨Nat.le_of_ble_eq_true rfl, Nat.le_of_ble_eq_true rfl⟩) (preV_R hCX (va_recv hK hPa (ci := 6) (q0 := 0) rfl rfl) (hPa)) rfl rfl hl.1 rfl (lv_room (Nat.le_of_ble_eq_true rfl)) dX11_price_19 ⟨Nat.le_of_ble_eq_true (by first | rfl | decide), Nat.le_of_ble_eq_true (by first | rfl | decide)⟩).run) (fun r9 hr9 => ?_)
        subst hr9
        exact K9
      · refine vp_callSi ((va_runU (As := []) (rest := []) ⟨hx, hb, hml, hown, hts⟩ (c_X7_asks l dC dI cI cD cR a_2 ff) (va_cwO 0 hts gX11_price_X7_asks_u107X7 rfl rfl rfl (b0 := cX2_asks) (m0 := 1) (r0 := (some .int)) (by decide +kernel) (by decide +kernel) ⟨Nat.le_of_ble_eq_true rfl, Nat.le_of_ble_eq_true rfl⟩) (preV_R hCX (va_recv hK hPa (ci := 7) (q0 := 0) rfl rfl) (hPa)) rfl rfl hl.1 rfl (lv_room (Nat.le_of_ble_eq_true rfl)) dX11_price_19 ⟨Nat.le_of_ble_eq_true (by first | rfl | decide), Nat.le_of_ble_eq_true (by first | rfl | decide)⟩).run) (fun r9 hr9 => ?_)
        subst hr9
        exact K9
      · refine vp_callSi ((va_runU (As := []) (rest := []) ⟨hx, hb, hml, hown, hts⟩ (c_X0_asks l dC dI cI cD cR a_2 ff (by first | omega | assumption | exact gnd _ | exact gkn _ | exact Nat.lt_trans (gkn _) (by decide) | exact Nat.lt_trans (gnd _) (by decide) | exact Nat.lt_of_le_of_lt (pcN_le _) (by decide))) (va_cwO 0 hts gX11_price_X0_asks_u107X0 rfl rfl rfl (b0 := cX2_asks) (m0 := 1) (r0 := (some .int)) (by decide +kernel) (by decide +kernel) ⟨Nat.le_of_ble_eq_true rfl, Nat.le_of_ble_eq_true rfl⟩) (preV_R hCX (va_recv hK hPa (ci := 0) (q0 := 0) rfl rfl) (hPa)) rfl rfl hl.1 rfl (lv_room (Nat.le_of_ble_eq_true rfl)) dX11_price_19 ⟨Nat.le_of_ble_eq_true (by first | rfl | decide), Nat.le_of_ble_eq_true (by first | rfl | decide)⟩).run) (fun r9 hr9 => ?_)
        subst hr9
        exact K9
    exact W.iret (v := nI (asN (kd a_2) (fg a_2))) hx hb hr (fun T9 hT9 hW9 => ⟨_, rfl, (by (simp [on1, whyR, hv_2, oN_t h_y]) <;> first | rfl | omega), hT9⟩) (fun q h => by cases h) dX11_price_22
