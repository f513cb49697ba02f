set_option maxHeartbeats 4000000 in
set_option maxRecDepth 100000 in
theorem c_X12_isIn (l : Launch) (dC : Nat → ClassId) (dI : Nat → Nat → Nat) (cI cD cR : ClassId) (a b z : Int64)  : Met l yX12_isIn wsX12_isIn ({ frames := 0, cells := 0, slots := 0, locals := 0 }) (pcR dC dI cI cD cR [.long a, .long b, .long z] (fun H => True)) (vp_Si (fun r => r = bI (inB a b z))) 0 0 (fun _ => False) := by
  refine Met.ofW (cc := cX12_isIn) (maxL := 6) (ret := (some .boolean)) (by decide) rfl ?_
  intro p e s m args below meth c s₁ B hml hv
  obtain ⟨rfl, hH0, hCX⟩ := hv
  have hx := B.exec
  have hb := B.bytes
  have hr := B.returns
  have hts := atoms_spec (ws := wsX12_isIn) B.pre
  have hown : s.vm.findClass RX12 = some m.cls := findClass_of_methodNamed B.named
  have hlocks := B.notSynchronized
  have hK := hCX.1
  have hl := lv_entry ([.long a, .long b, .long z]) (n := 6) (Nat.le_of_ble_eq_true rfl)
  rw [lg_entry_eq]
  generalize (lg_sl ([.long a, .long b, .long z]) ++ List.replicate (6 - (lg_sl ([.long a, .long b, .long z])).length) Slot.unset).toArray = ls at hl ⊢
  have hl : lv_has ls 6 [(0, .long a), (2, .long b), (4, .long z)] := hl
  refine lv_lload_n hx hb dX12_isIn_0 rfl (lv_at hl 0 rfl) ?_
  refine lv_lload_n hx hb dX12_isIn_1 rfl (lv_at hl 1 rfl) ?_
  refine W.lcmp hx hb dX12_isIn_2 ?_
  refine lv_if_lt (tgt := 17) hx hb dX12_isIn_3 (by decide) (fun c_3 => ?_) (fun c_3 => ?_)
  · refine lv_iconst (v := nI 0) hx hb dX12_isIn_17 (by decide +kernel) ?_
    exact W.zret (v := nI 0) hx hb hr rfl (fun T9 hT9 hW9 => ⟨_, rfl, (bI_f (by first | exact inB_1 c_3 | exact inB_2 c_10 | exact inB_3 c_3 c_10)), hT9⟩) (fun q h => by cases h) dX12_isIn_18
  refine lv_lload_n hx hb dX12_isIn_6 rfl (lv_at hl 0 rfl) ?_
  refine lv_lload hx hb dX12_isIn_7 (lv_at hl 2 rfl) ?_
  refine W.lcmp hx hb dX12_isIn_9 ?_
  refine lv_if_gt (tgt := 17) hx hb dX12_isIn_10 (by decide) (fun c_10 => ?_) (fun c_10 => ?_)
  · refine lv_iconst (v := nI 0) hx hb dX12_isIn_17 (by decide +kernel) ?_
    exact W.zret (v := nI 0) hx hb hr rfl (fun T9 hT9 hW9 => ⟨_, rfl, (bI_f (by first | exact inB_1 c_3 | exact inB_2 c_10 | exact inB_3 c_3 c_10)), hT9⟩) (fun q h => by cases h) dX12_isIn_18
  refine lv_iconst (v := nI 1) hx hb dX12_isIn_13 (by decide +kernel) ?_
  refine lv_goto (tgt := 18) hx hb dX12_isIn_14 (by decide) ?_
  exact W.zret (v := nI 1) hx hb hr rfl (fun T9 hT9 hW9 => ⟨_, rfl, (bI_t (by first | exact inB_1 c_3 | exact inB_2 c_10 | exact inB_3 c_3 c_10)), hT9⟩) (fun q h => by cases h) dX12_isIn_18
set_option maxHeartbeats 4000000 in
set_option maxRecDepth 100000 in
theorem c_X12_isShelf_f (l : Launch) (dC : Nat → ClassId) (dI : Nat → Nat → Nat) (cI cD cR : ClassId) (x : Int32) (hb9 : okI x 8 = false) : Met l yX12_isShelf wsX12_isShelf ({ frames := 1, cells := 0, slots := 0, locals := 25 }) (pcR dC dI cI cD cR [.int x] (fun H => True)) (vp_Si (fun r => r = bI false)) 0 0 (fun _ => False) := by
  refine Met.ofW (cc := cX12_isShelf) (maxL := 1) (ret := (some .boolean)) (by decide) rfl ?_
  intro p e s m args below meth c s₁ B hml hv
  obtain ⟨rfl, hH0, hCX⟩ := hv
  have hx := B.exec
  have hb := B.bytes
  have hr := B.returns
  have hts := atoms_spec (ws := wsX12_isShelf) B.pre
  have hown : s.vm.findClass RX12 = some m.cls := findClass_of_methodNamed B.named
  have hlocks := B.notSynchronized
  have hK := hCX.1
  have hl := lv_entry ([.int x]) (n := 1) (Nat.le_of_ble_eq_true rfl)
  rw [lg_entry_eq]
  generalize (lg_sl ([.int x]) ++ List.replicate (1 - (lg_sl ([.int x])).length) Slot.unset).toArray = ls at hl ⊢
  have hl : lv_has ls 1 [(0, .int x)] := hl
  refine lv_iload_n hx hb dX12_isShelf_0 rfl (lv_at hl 0 rfl) ?_
  refine lv_i2l (v := (x).toInt64) hx hb dX12_isShelf_1 rfl ?_
  refine lv_lconst (v := lN 0) hx hb dX12_isShelf_2 (by decide +kernel) ?_
  refine lv_ldc2 (v := 7) hx hb hown (hts (.constantLong RX12 56 (7)) (by decide +kernel)) dX12_isShelf_3 ?_
  refine vp_callSi ((va_runS (As := [.long ((x).toInt64), .long (lN 0), .long (7 : Int64)]) (rest := []) ⟨hx, hb, hml, hown, hts⟩ (c_X12_isIn l dC dI cI cD cR ((x).toInt64) (lN 0) (7 : Int64)) (va_cwS 3 hts gX12_isShelf_X12_isIn rfl rfl rfl (by decide +kernel) ⟨Nat.le_of_ble_eq_true rfl, Nat.le_of_ble_eq_true rfl⟩) (preS_R hCX (trivial)) rfl rfl hl.1 rfl (lv_room (Nat.le_of_ble_eq_true rfl)) dX12_isShelf_6 ⟨Nat.le_of_ble_eq_true (by first | rfl | decide), Nat.le_of_ble_eq_true (by first | rfl | decide)⟩).run) (fun r_6 hr_6 => ?_)
  subst hr_6
  exact W.zret (v := bI (inB ((x).toInt64) (lN 0) (7 : Int64))) hx hb hr (bI_nar _) (fun T9 hT9 hW9 => ⟨_, rfl, (congrArg bI (by exact (inB_k x (k := 7) (by decide)).trans hb9)), hT9⟩) (fun q h => by cases h) dX12_isShelf_9
set_option maxHeartbeats 4000000 in
set_option maxRecDepth 100000 in
theorem c_X12_isShelf_t (l : Launch) (dC : Nat → ClassId) (dI : Nat → Nat → Nat) (cI cD cR : ClassId) (x : Nat) (hx9 : x < 8) : Met l yX12_isShelf wsX12_isShelf ({ frames := 1, cells := 0, slots := 0, locals := 25 }) (pcR dC dI cI cD cR [.int (nI x)] (fun H => True)) (vp_Si (fun r => r = bI true)) 0 0 (fun _ => False) := by
  refine Met.ofW (cc := cX12_isShelf) (maxL := 1) (ret := (some .boolean)) (by decide) rfl ?_
  intro p e s m args below meth c s₁ B hml hv
  obtain ⟨rfl, hH0, hCX⟩ := hv
  have hx := B.exec
  have hb := B.bytes
  have hr := B.returns
  have hts := atoms_spec (ws := wsX12_isShelf) B.pre
  have hown : s.vm.findClass RX12 = some m.cls := findClass_of_methodNamed B.named
  have hlocks := B.notSynchronized
  have hK := hCX.1
  have hl := lv_entry ([.int (nI x)]) (n := 1) (Nat.le_of_ble_eq_true rfl)
  rw [lg_entry_eq]
  generalize (lg_sl ([.int (nI x)]) ++ List.replicate (1 - (lg_sl ([.int (nI x)])).length) Slot.unset).toArray = ls at hl ⊢
  have hl : lv_has ls 1 [(0, .int (nI x))] := hl
  refine lv_iload_n hx hb dX12_isShelf_0 rfl (lv_at hl 0 rfl) ?_
  refine lv_i2l (v := lN x) hx hb dX12_isShelf_1 (nI_l (by omega)) ?_
  refine lv_lconst (v := lN 0) hx hb dX12_isShelf_2 (by decide +kernel) ?_
  refine lv_ldc2 (v := 7) hx hb hown (hts (.constantLong RX12 56 (7)) (by decide +kernel)) dX12_isShelf_3 ?_
  refine vp_callSi ((va_runS (As := [.long (lN x), .long (lN 0), .long (7 : Int64)]) (rest := []) ⟨hx, hb, hml, hown, hts⟩ (c_X12_isIn l dC dI cI cD cR (lN x) (lN 0) (7 : Int64)) (va_cwS 3 hts gX12_isShelf_X12_isIn rfl rfl rfl (by decide +kernel) ⟨Nat.le_of_ble_eq_true rfl, Nat.le_of_ble_eq_true rfl⟩) (preS_R hCX (trivial)) rfl rfl hl.1 rfl (lv_room (Nat.le_of_ble_eq_true rfl)) dX12_isShelf_6 ⟨Nat.le_of_ble_eq_true (by first | rfl | decide), Nat.le_of_ble_eq_true (by first | rfl | decide)⟩).run) (fun r_6 hr_6 => ?_)
  subst hr_6
  exact W.zret (v := bI (inB (lN x) (lN 0) (7 : Int64))) hx hb hr (bI_nar _) (fun T9 hT9 hW9 => ⟨_, rfl, (congrArg bI (by exact inB_kt (k := 7) (by omega) (by decide))), hT9⟩) (fun q h => by cases h) dX12_isShelf_9
set_option maxHeartbeats 4000000 in
set_option maxRecDepth 100000 in
theorem c_X12_has (l : Launch) (dC : Nat → ClassId) (dI : Nat → Nat → Nat) (cI cD cR : ClassId) (v i : Nat) (kb : v < 2 ^ 31) (hi9 : i < 31) : Met l yX12_has wsX12_has ({ frames := 0, cells := 0, slots := 0, locals := 0 }) (pcR dC dI cI cD cR [.int (nI v), .int (nI i)] (fun H => True)) (vp_Si (fun r => r = bI (v.testBit i))) 0 0 (fun _ => False) := by
  refine Met.ofW (cc := cX12_has) (maxL := 2) (ret := (some .boolean)) (by decide) rfl ?_
  intro p e s m args below meth c s₁ B hml hv
  obtain ⟨rfl, hH0, hCX⟩ := hv
  have hx := B.exec
  have hb := B.bytes
  have hr := B.returns
  have hts := atoms_spec (ws := wsX12_has) B.pre
  have hown : s.vm.findClass RX12 = some m.cls := findClass_of_methodNamed B.named
  have hlocks := B.notSynchronized
  have hK := hCX.1
  have hl := lv_entry ([.int (nI v), .int (nI i)]) (n := 2) (Nat.le_of_ble_eq_true rfl)
  rw [lg_entry_eq]
  generalize (lg_sl ([.int (nI v), .int (nI i)]) ++ List.replicate (2 - (lg_sl ([.int (nI v), .int (nI i)])).length) Slot.unset).toArray = ls at hl ⊢
  have hl : lv_has ls 2 [(0, .int (nI v)), (1, .int (nI i))] := hl
  refine lv_iload_n hx hb dX12_has_0 rfl (lv_at hl 0 rfl) ?_
  refine lv_iload_n hx hb dX12_has_1 rfl (lv_at hl 1 rfl) ?_
  refine ho_shr hx hb dX12_has_2 (by omega) (by omega) ?_
  refine lv_iconst (v := nI 1) hx hb dX12_has_3 (by decide +kernel) ?_
  refine ho_iand hx hb dX12_has_4 ?_
  refine lv_iconst (v := nI 1) hx hb dX12_has_5 (by decide +kernel) ?_
  refine ho_icmp_ne (tgt := 13) hx hb dX12_has_6 (by decide) (by rw [tb_shr]; cases v.testBit i <;> decide) (by omega) (fun c_6 => ?_) (fun c_6 => ?_)
  · refine lv_iconst (v := nI 0) hx hb dX12_has_13 (by decide +kernel) ?_
    exact W.zret (v := nI 0) hx hb hr rfl (fun T9 hT9 hW9 => ⟨_, rfl, (bI_f (by rw [tb_shr] at c_6; cases h9 : v.testBit i <;> simp_all)), hT9⟩) (fun q h => by cases h) dX12_has_14
  refine lv_iconst (v := nI 1) hx hb dX12_has_9 (by decide +kernel) ?_
  refine lv_goto (tgt := 14) hx hb dX12_has_10 (by decide) ?_
  exact W.zret (v := nI 1) hx hb hr rfl (fun T9 hT9 hW9 => ⟨_, rfl, (bI_t (by rw [tb_shr] at c_6; cases h9 : v.testBit i <;> simp_all)), hT9⟩) (fun q h => by cases h) dX12_has_14
set_option maxHeartbeats 4000000 in
set_option maxRecDepth 100000 in
theorem c_X12_bits (l : Launch) (dC : Nat → ClassId) (dI : Nat → Nat → Nat) (cI cD cR : ClassId) (v : Nat) (hv : v < 1024) : Met l yX12_bits wsX12_bits ({ frames := 0, cells := 0, slots := 0, locals := 0 }) (pcR dC dI cI cD cR [.int (nI v)] (fun H => True)) (vp_Si (fun r => r = nI (pcN v))) 0 0 (fun _ => False) := by
  refine Met.ofW (cc := cX12_bits) (maxL := 3) (ret := (some .int)) (by decide) rfl ?_
  intro p e s m args below meth c s₁ B hml hv
  obtain ⟨rfl, hH0, hCX⟩ := hv
  have hx := B.exec
  have hb := B.bytes
  have hr := B.returns
  have hts := atoms_spec (ws := wsX12_bits) B.pre
  have hown : s.vm.findClass RX12 = some m.cls := findClass_of_methodNamed B.named
  have hlocks := B.notSynchronized
  have hK := hCX.1
  have hl := lv_entry ([.int (nI v)]) (n := 3) (Nat.le_of_ble_eq_true rfl)
  rw [lg_entry_eq]
  generalize (lg_sl ([.int (nI v)]) ++ List.replicate (3 - (lg_sl ([.int (nI v)])).length) Slot.unset).toArray = ls at hl ⊢
  have hl : lv_has ls 3 [(0, .int (nI v))] := hl
  refine lv_iconst (v := nI 0) hx hb dX12_bits_0 (by decide +kernel) ?_
  refine lv_istore_n (lv' := [(1, .int (nI 0)), (0, .int (nI v))]) hx hb dX12_bits_1 rfl hl (by decide) rfl (fun ls hl => ?_)
  refine lv_iload_n hx hb dX12_bits_2 rfl (lv_at hl 1 rfl) ?_
  refine lv_istore_n (lv' := [(2, .int (nI v)), (1, .int (nI 0)), (0, .int (nI v))]) hx hb dX12_bits_3 rfl hl (by decide) rfl (fun ls hl => ?_)
  refine ho_lp (T := Nat × Nat) 3 (fun x9 => [(2, .int (nI x9.2)), (1, .int (nI x9.1)), (0, .int (nI v))]) (fun x9 => []) (fun x9 => (x9.2 < 1024) ∧ (x9.1 ≤ 10) ∧ (x9.1 + pcN x9.2 = pcN v)) (fun x9 => x9.2) (0, v) ⟨hv, by omega, Nat.zero_add _⟩ (lv_sub hl [0, 1, 2] rfl) ?_
  intro fu4 x9 ls hI hm4 hl ih
  obtain ⟨mm, w⟩ := x9
  obtain ⟨hw, hm, he⟩ := hI
  have hl : lv_has ls 3 [(2, .int (nI w)), (1, .int (nI mm)), (0, .int (nI v))] := hl
  have hw : w < 1024 := hw
  have hm : mm ≤ 10 := hm
  have he : mm + pcN w = pcN v := he
  have hm4 : w < fu4 + 1 := hm4
  refine W.eq (g2 := F0 m 4 ls []) rfl ?_
  have ih4 := ih
  refine lv_iload_n hx hb dX12_bits_4 rfl (lv_at hl 0 rfl) ?_
  refine ho_if_le (tgt := 21) hx hb dX12_bits_5 (by decide) (by omega) (fun c_5 => ?_) (fun c_5 => ?_)
  · refine lv_iload_n hx hb dX12_bits_21 rfl (lv_at hl 1 rfl) ?_
    exact W.iret (v := nI mm) hx hb hr (fun T9 hT9 hW9 => ⟨_, rfl, (congrArg nI (by rw [show w = 0 by omega, pcN_0] at he; omega)), hT9⟩) (fun q h => by cases h) dX12_bits_22
  refine lv_iload_n hx hb dX12_bits_8 rfl (lv_at hl 1 rfl) ?_
  refine lv_iload_n hx hb dX12_bits_9 rfl (lv_at hl 0 rfl) ?_
  refine lv_iconst (v := nI 1) hx hb dX12_bits_10 (by decide +kernel) ?_
  refine ho_iand hx hb dX12_bits_11 ?_
  refine ho_iadd hx hb dX12_bits_12 ?_
  refine lv_istore_n (lv' := [(1, .int (nI (mm + (w &&& 1)))), (2, .int (nI w)), (0, .int (nI v))]) hx hb dX12_bits_13 rfl hl (by decide) rfl (fun ls hl => ?_)
  refine lv_iload_n hx hb dX12_bits_14 rfl (lv_at hl 1 rfl) ?_
  refine lv_iconst (v := nI 1) hx hb dX12_bits_15 (by decide +kernel) ?_
  refine ho_shr hx hb dX12_bits_16 (by omega) (by omega) ?_
  refine lv_istore_n (lv' := [(2, .int (nI (w / 2 ^ 1))), (1, .int (nI (mm + (w &&& 1)))), (0, .int (nI v))]) hx hb dX12_bits_17 rfl hl (by decide) rfl (fun ls hl => ?_)
  refine lv_goto (tgt := 4) hx hb dX12_bits_18 (by decide) ?_
  exact ih4 ((mm + (w &&& 1), w / 2 ^ 1)) _ ⟨by omega, by have h9 := pcN_st hw he; have h8 := pcN_le v; omega, pcN_st hw he⟩ (show (w / 2 ^ 1) < fu4 from (by omega)) (lv_sub hl [0, 1, 2] rfl)
set_option maxHeartbeats 4000000 in
set_option maxRecDepth 100000 in
theorem c_X12_priceBy (l : Launch) (dC : Nat → ClassId) (dI : Nat → Nat → Nat) (cI cD cR : ClassId) (k f : Nat) (hk : k < 8) (hf : f < 10) : Met l yX12_priceBy wsX12_priceBy ({ frames := 0, cells := 0, slots := 0, locals := 0 }) (pcR dC dI cI cD cR [.int (nI k), .int (nI f)] (fun H => True)) (vp_Si (fun r => r = nI (asN k f))) 0 0 (fun _ => False) := by
  refine Met.ofW (cc := cX12_priceBy) (maxL := 2) (ret := (some .int)) (by decide) rfl ?_
  intro p e s m args below meth c s₁ B hml hv
  obtain ⟨rfl, hH0, hCX⟩ := hv
  have hx := B.exec
  have hb := B.bytes
  have hr := B.returns
  have hts := atoms_spec (ws := wsX12_priceBy) B.pre
  have hown : s.vm.findClass RX12 = some m.cls := findClass_of_methodNamed B.named
  have hlocks := B.notSynchronized
  have hK := hCX.1
  have hl := lv_entry ([.int (nI k), .int (nI f)]) (n := 2) (Nat.le_of_ble_eq_true rfl)
  rw [lg_entry_eq]
  generalize (lg_sl ([.int (nI k), .int (nI f)]) ++ List.replicate (2 - (lg_sl ([.int (nI k), .int (nI f)])).length) Slot.unset).toArray = ls at hl ⊢
  have hl : lv_has ls 2 [(0, .int (nI k)), (1, .int (nI f))] := hl
  refine lv_iload_n hx hb dX12_priceBy_0 rfl (lv_at hl 0 rfl) ?_
  by_cases k_1_0 : k = 1
  · refine ho_tope (y := nI 1) (by rw [k_1_0]) ?_
    refine lv_tableIn (tgt := 44) hx hb dX12_priceBy_1 (by decide +kernel) (by decide +kernel) (off := 43) (by decide +kernel) (by decide) ?_
    refine lv_iconst (v := nI 2) hx hb dX12_priceBy_44 (by decide +kernel) ?_
    exact W.iret (v := nI 2) hx hb hr (fun T9 hT9 hW9 => ⟨_, rfl, (congrArg nI (by first | (simp only [k_1_0, asN]; done) | (simp only [k_1_1, asN]; done) | (simp only [k_1_2, asN]; done) | (simp only [k_1_3, asN]; done) | (simp only [k_1_4, asN]; done) | (simp only [k_1_5, asN]; omega) | (simp only [k_1_6, asN]; done) | (rw [show k = 0 by omega]; rfl))), hT9⟩) (fun q h => by cases h) dX12_priceBy_45
  by_cases k_1_1 : k = 2
  · refine ho_tope (y := nI 2) (by rw [k_1_1]) ?_
    refine lv_tableIn (tgt := 46) hx hb dX12_priceBy_1 (by decide +kernel) (by decide +kernel) (off := 45) (by decide +kernel) (by decide) ?_
    refine lv_iconst (v := nI 3) hx hb dX12_priceBy_46 (by decide +kernel) ?_
    refine lv_iload_n hx hb dX12_priceBy_47 rfl (lv_at hl 1 rfl) ?_
    refine ho_iadd hx hb dX12_priceBy_48 ?_
    exact W.iret (v := nI (3 + f)) hx hb hr (fun T9 hT9 hW9 => ⟨_, rfl, (congrArg nI (by first | (simp only [k_1_0, asN]; done) | (simp only [k_1_1, asN]; done) | (simp only [k_1_2, asN]; done) | (simp only [k_1_3, asN]; done) | (simp only [k_1_4, asN]; done) | (simp only [k_1_5, asN]; omega) | (simp only [k_1_6, asN]; done) | (rw [show k = 0 by omega]; rfl))), hT9⟩) (fun q h => by cases h) dX12_priceBy_49
  by_cases k_1_2 : k = 3
  · refine ho_tope (y := nI 3) (by rw [k_1_2]) ?_
    refine lv_tableIn (tgt := 50) hx hb dX12_priceBy_1 (by decide +kernel) (by decide +kernel) (off := 49) (by decide +kernel) (by decide) ?_
    refine lv_iconst (v := nI 4) hx hb dX12_priceBy_50 (by decide +kernel) ?_
    exact W.iret (v := nI 4) hx hb hr (fun T9 hT9 hW9 => ⟨_, rfl, (congrArg nI (by first | (simp only [k_1_0, asN]; done) | (simp only [k_1_1, asN]; done) | (simp only [k_1_2, asN]; done) | (simp only [k_1_3, asN]; done) | (simp only [k_1_4, asN]; done) | (simp only [k_1_5, asN]; omega) | (simp only [k_1_6, asN]; done) | (rw [show k = 0 by omega]; rfl))), hT9⟩) (fun q h => by cases h) dX12_priceBy_51
  by_cases k_1_3 : k = 4
  · refine ho_tope (y := nI 4) (by rw [k_1_3]) ?_
    refine lv_tableIn (tgt := 52) hx hb dX12_priceBy_1 (by decide +kernel) (by decide +kernel) (off := 51) (by decide +kernel) (by decide) ?_
    refine lv_iconst (v := nI 3) hx hb dX12_priceBy_52 (by decide +kernel) ?_
    refine lv_iload_n hx hb dX12_priceBy_53 rfl (lv_at hl 1 rfl) ?_
    refine lv_iconst (v := nI 1) hx hb dX12_priceBy_54 (by decide +kernel) ?_
    refine ho_iadd hx hb dX12_priceBy_55 ?_
    refine ho_imul hx hb dX12_priceBy_56 ?_
    exact W.iret (v := nI (3 * (f + 1))) hx hb hr (fun T9 hT9 hW9 => ⟨_, rfl, (congrArg nI (by first | (simp only [k_1_0, asN]; done) | (simp only [k_1_1, asN]; done) | (simp only [k_1_2, asN]; done) | (simp only [k_1_3, asN]; done) | (simp only [k_1_4, asN]; done) | (simp only [k_1_5, asN]; omega) | (simp only [k_1_6, asN]; done) | (rw [show k = 0 by omega]; rfl))), hT9⟩) (fun q h => by cases h) dX12_priceBy_57
  by_cases k_1_4 : k = 5
  · refine ho_tope (y := nI 5) (by rw [k_1_4]) ?_
    refine lv_tableIn (tgt := 58) hx hb dX12_priceBy_1 (by decide +kernel) (by decide +kernel) (off := 57) (by decide +kernel) (by decide) ?_
    refine lv_bipush (v := nI 7) hx hb dX12_priceBy_58 (by decide +kernel) ?_
    exact W.iret (v := nI 7) hx hb hr (fun T9 hT9 hW9 => ⟨_, rfl, (congrArg nI (by first | (simp only [k_1_0, asN]; done) | (simp only [k_1_1, asN]; done) | (simp only [k_1_2, asN]; done) | (simp only [k_1_3, asN]; done) | (simp only [k_1_4, asN]; done) | (simp only [k_1_5, asN]; omega) | (simp only [k_1_6, asN]; done) | (rw [show k = 0 by omega]; rfl))), hT9⟩) (fun q h => by cases h) dX12_priceBy_60
  by_cases k_1_5 : k = 6
  · refine ho_tope (y := nI 6) (by rw [k_1_5]) ?_
    refine lv_tableIn (tgt := 61) hx hb dX12_priceBy_1 (by decide +kernel) (by decide +kernel) (off := 60) (by decide +kernel) (by decide) ?_
    refine lv_iconst (v := nI 1) hx hb dX12_priceBy_61 (by decide +kernel) ?_
    refine lv_iload_n hx hb dX12_priceBy_62 rfl (lv_at hl 1 rfl) ?_
    refine ho_iadd hx hb dX12_priceBy_63 ?_
    exact W.iret (v := nI (1 + f)) hx hb hr (fun T9 hT9 hW9 => ⟨_, rfl, (congrArg nI (by first | (simp only [k_1_0, asN]; done) | (simp only [k_1_1, asN]; done) | (simp only [k_1_2, asN]; done) | (simp only [k_1_3, asN]; done) | (simp only [k_1_4, asN]; done) | (simp only [k_1_5, asN]; omega) | (simp only [k_1_6, asN]; done) | (rw [show k = 0 by omega]; rfl))), hT9⟩) (fun q h => by cases h) dX12_priceBy_64
  by_cases k_1_6 : k = 7
  · refine ho_tope (y := nI 7) (by rw [k_1_6]) ?_
    refine lv_tableIn (tgt := 65) hx hb dX12_priceBy_1 (by decide +kernel) (by decide +kernel) (off := 64) (by decide +kernel) (by decide) ?_
    refine lv_iconst (v := nI 3) hx hb dX12_priceBy_65 (by decide +kernel) ?_
    refine lv_iload_n hx hb dX12_priceBy_66 rfl (lv_at hl 1 rfl) ?_
    refine lv_iconst (v := nI 1) hx hb dX12_priceBy_67 (by decide +kernel) ?_
    refine ho_iadd hx hb dX12_priceBy_68 ?_
    refine ho_imul hx hb dX12_priceBy_69 ?_
    refine lv_iconst (v := nI 2) hx hb dX12_priceBy_70 (by decide +kernel) ?_
    refine ho_idiv hx hb dX12_priceBy_71 (by omega) (by omega) (by omega) ?_
    exact W.iret (v := nI ((3 * (f + 1)) / 2)) hx hb hr (fun T9 hT9 hW9 => ⟨_, rfl, (congrArg nI (by first | (simp only [k_1_0, asN]; done) | (simp only [k_1_1, asN]; done) | (simp only [k_1_2, asN]; done) | (simp only [k_1_3, asN]; done) | (simp only [k_1_4, asN]; done) | (simp only [k_1_5, asN]; omega) | (simp only [k_1_6, asN]; done) | (rw [show k = 0 by omega]; rfl))), hT9⟩) (fun q h => by cases h) dX12_priceBy_72
  refine lv_tableOut (tgt := 73) hx hb dX12_priceBy_1 (by rw [nI_toInt (by omega)]; omega) (by decide) ?_
  refine lv_iconst (v := nI 3) hx hb dX12_priceBy_73 (by decide +kernel) ?_
  exact W.iret (v := nI 3) hx hb hr (fun T9 hT9 hW9 => ⟨_, rfl, (congrArg nI (by first | (simp only [k_1_0, asN]; done) | (simp only [k_1_1, asN]; done) | (simp only [k_1_2, asN]; done) | (simp only [k_1_3, asN]; done) | (simp only [k_1_4, asN]; done) | (simp only [k_1_5, asN]; omega) | (simp only [k_1_6, asN]; done) | (rw [show k = 0 by omega]; rfl))), hT9⟩) (fun q h => by cases h) dX12_priceBy_74
set_option maxHeartbeats 4000000 in
set_option maxRecDepth 100000 in
theorem c_X12_isSentence_r (l : Launch) (dC : Nat → ClassId) (dI : Nat → Nat → Nat) (cI cD cR : ClassId) (y as ai ar am ak ao az ae aq af : Nat) (hi : Bool) (th : Int32) (po ba en an aw ax ap : Nat) (se : Int32) (n d t day al : Nat) (nd : Nat → Nat) (bb oo : Nat → Int32) (K F kn : Nat → Nat) (x : Int32) (hn : n ≤ 9) (hd : d ≤ 7) (ht : t < 512) (hal : al < 128) (hday : day < 2 ^ 30) (gnd : ∀ i, nd i < 512) (gkn : ∀ j, kn j < 512) (gK : ∀ j, K j < 8) (gF : ∀ j, F j < 10) : Met l yX12_isSentence wsX12_isSentence ({ frames := 1, cells := 0, slots := 0, locals := 25 }) (pcR dC dI cI cD cR [.ref y, .int x] (fun H => va_P (dC, dI) vwCl ([(y, .inr (12, [.ref as, .ref ai, .ref ar, .ref am, .ref ak, .ref ao, .ref az, .ref ae, .ref aq, .ref af, .int (bI hi), .int th, .int (nI po), .int (nI ba), .int (nI en), .ref an, .ref aw, .ref ax, .ref ap, .int se]))] ++ [(as, .inl (cI, 53, .inl (sF n d t day al nd bb oo K F kn)))]) H)) (vp_Si (fun r => r = bI (okI x n))) 0 0 (fun _ => False) := by
  refine Met.ofW (cc := cX12_isSentence) (maxL := 2) (ret := (some .boolean)) (by decide) rfl ?_
  intro p e s m args below meth c s₁ B hml hv
  obtain ⟨rfl, hH0, hCX⟩ := hv
  have hx := B.exec
  have hb := B.bytes
  have hr := B.returns
  have hts := atoms_spec (ws := wsX12_isSentence) B.pre
  have hown : s.vm.findClass RX12 = some m.cls := findClass_of_methodNamed B.named
  have hlocks := B.notSynchronized
  have hK := hCX.1
  have hP := hH0
  have hl := lv_entry ([.ref y, .int x]) (n := 2) (Nat.le_of_ble_eq_true rfl)
  rw [lg_entry_eq]
  generalize (lg_sl ([.ref y, .int x]) ++ List.replicate (2 - (lg_sl ([.ref y, .int x])).length) Slot.unset).toArray = ls at hl ⊢
  have hl : lv_has ls 2 [(0, .ref y), (1, .int x)] := hl
  refine lv_iload_n hx hb dX12_isSentence_0 rfl (lv_at hl 1 rfl) ?_
  refine lv_i2l (v := (x).toInt64) hx hb dX12_isSentence_1 rfl ?_
  refine lv_lconst (v := lN 0) hx hb dX12_isSentence_2 (by decide +kernel) ?_
  refine lv_aload_n hx hb dX12_isSentence_3 rfl (lv_at hl 0 rfl) ?_
  refine va_get (D := (dC, dI)) (ci := 12) (v := .ref as) (C := RX12) (T := TX12) (N := 20) hx hb hts (fun _ h => List.mem_cons_of_mem _ (List.mem_append_right _ h)) hown hK hP 0 rfl rfl 0 (by decide) (hts (.fieldLink RX12 9 "HoldsOnceDeniedModel" "s" "[I") (by decide +kernel)) (fun _ h9 => h9) rfl dX12_isSentence_4 ?_
  refine lv_iconst (v := nI 0) hx hb dX12_isSentence_7 (by decide +kernel) ?_
  refine ho_iald (v := nI n) hx hb hK hP 1 0 rfl rfl (by omega) (by first | decide | omega) rfl dX12_isSentence_8 ?_
  refine lv_iconst (v := nI 1) hx hb dX12_isSentence_9 (by decide +kernel) ?_
  refine lv_isub hx hb dX12_isSentence_10 ?_
  refine lv_i2l (v := ((nI n - nI 1)).toInt64) hx hb dX12_isSentence_11 rfl ?_
  refine vp_callSi ((va_runS (As := [.long ((x).toInt64), .long (lN 0), .long (((nI n - nI 1)).toInt64)]) (rest := []) ⟨hx, hb, hml, hown, hts⟩ (c_X12_isIn l dC dI cI cD cR ((x).toInt64) (lN 0) (((nI n - nI 1)).toInt64)) (va_cwS 3 hts gX12_isSentence_X12_isIn rfl rfl rfl (by decide +kernel) ⟨Nat.le_of_ble_eq_true rfl, Nat.le_of_ble_eq_true rfl⟩) (preS_R hCX (trivial)) rfl rfl hl.1 rfl (lv_room (Nat.le_of_ble_eq_true rfl)) dX12_isSentence_12 ⟨Nat.le_of_ble_eq_true (by first | rfl | decide), Nat.le_of_ble_eq_true (by first | rfl | decide)⟩).run) (fun r_12 hr_12 => ?_)
  subst hr_12
  exact W.zret (v := bI (inB ((x).toInt64) (lN 0) (((nI n - nI 1)).toInt64))) hx hb hr (bI_nar _) (fun T9 hT9 hW9 => ⟨_, rfl, (congrArg bI (by exact inB_m x (by omega))), hT9⟩) (fun q h => by cases h) dX12_isSentence_15
set_option maxHeartbeats 4000000 in
set_option maxRecDepth 100000 in
theorem c_X12_isSentence_f (l : Launch) (dC : Nat → ClassId) (dI : Nat → Nat → Nat) (cI cD cR : ClassId) (y as ai ar am ak ao az ae aq af : Nat) (hi : Bool) (th : Int32) (po ba en an aw ax ap : Nat) (se : Int32) (n d t day al : Nat) (nd : Nat → Nat) (bb oo : Nat → Int32) (K F kn : Nat → Nat) (x : Int32) (hn : n ≤ 9) (hd : d ≤ 7) (ht : t < 512) (hal : al < 128) (hday : day < 2 ^ 30) (gnd : ∀ i, nd i < 512) (gkn : ∀ j, kn j < 512) (gK : ∀ j, K j < 8) (gF : ∀ j, F j < 10) (hb9 : okI x n = false) : Met l yX12_isSentence wsX12_isSentence ({ frames := 1, cells := 0, slots := 0, locals := 25 }) (pcR dC dI cI cD cR [.ref y, .int x] (fun H => va_P (dC, dI) vwCl ([(y, .inr (12, [.ref as, .ref ai, .ref ar, .ref am, .ref ak, .ref ao, .ref az, .ref ae, .ref aq, .ref af, .int (bI hi), .int th, .int (nI po), .int (nI ba), .int (nI en), .ref an, .ref aw, .ref ax, .ref ap, .int se]))] ++ [(as, .inl (cI, 53, .inl (sF n d t day al nd bb oo K F kn)))]) H)) (vp_Si (fun r => r = bI false)) 0 0 (fun _ => False) := by
  refine Met.ofW (cc := cX12_isSentence) (maxL := 2) (ret := (some .boolean)) (by decide) rfl ?_
  intro p e s m args below meth c s₁ B hml hv
  obtain ⟨rfl, hH0, hCX⟩ := hv
  have hx := B.exec
  have hb := B.bytes
  have hr := B.returns
  have hts := atoms_spec (ws := wsX12_isSentence) B.pre
  have hown : s.vm.findClass RX12 = some m.cls := findClass_of_methodNamed B.named
  have hlocks := B.notSynchronized
  have hK := hCX.1
  have hP := hH0
  have hl := lv_entry ([.ref y, .int x]) (n := 2) (Nat.le_of_ble_eq_true rfl)
  rw [lg_entry_eq]
  generalize (lg_sl ([.ref y, .int x]) ++ List.replicate (2 - (lg_sl ([.ref y, .int x])).length) Slot.unset).toArray = ls at hl ⊢
  have hl : lv_has ls 2 [(0, .ref y), (1, .int x)] := hl
  refine lv_iload_n hx hb dX12_isSentence_0 rfl (lv_at hl 1 rfl) ?_
  refine lv_i2l (v := (x).toInt64) hx hb dX12_isSentence_1 rfl ?_
  refine lv_lconst (v := lN 0) hx hb dX12_isSentence_2 (by decide +kernel) ?_
  refine lv_aload_n hx hb dX12_isSentence_3 rfl (lv_at hl 0 rfl) ?_
  refine va_get (D := (dC, dI)) (ci := 12) (v := .ref as) (C := RX12) (T := TX12) (N := 20) hx hb hts (fun _ h => List.mem_cons_of_mem _ (List.mem_append_right _ h)) hown hK hP 0 rfl rfl 0 (by decide) (hts (.fieldLink RX12 9 "HoldsOnceDeniedModel" "s" "[I") (by decide +kernel)) (fun _ h9 => h9) rfl dX12_isSentence_4 ?_
  refine lv_iconst (v := nI 0) hx hb dX12_isSentence_7 (by decide +kernel) ?_
  refine ho_iald (v := nI n) hx hb hK hP 1 0 rfl rfl (by omega) (by first | decide | omega) rfl dX12_isSentence_8 ?_
  refine lv_iconst (v := nI 1) hx hb dX12_isSentence_9 (by decide +kernel) ?_
  refine lv_isub hx hb dX12_isSentence_10 ?_
  refine lv_i2l (v := ((nI n - nI 1)).toInt64) hx hb dX12_isSentence_11 rfl ?_
  refine vp_callSi ((va_runS (As := [.long ((x).toInt64), .long (lN 0), .long (((nI n - nI 1)).toInt64)]) (rest := []) ⟨hx, hb, hml, hown, hts⟩ (c_X12_isIn l dC dI cI cD cR ((x).toInt64) (lN 0) (((nI n - nI 1)).toInt64)) (va_cwS 3 hts gX12_isSentence_X12_isIn rfl rfl rfl (by decide +kernel) ⟨Nat.le_of_ble_eq_true rfl, Nat.le_of_ble_eq_true rfl⟩) (preS_R hCX (trivial)) rfl rfl hl.1 rfl (lv_room (Nat.le_of_ble_eq_true rfl)) dX12_isSentence_12 ⟨Nat.le_of_ble_eq_true (by first | rfl | decide), Nat.le_of_ble_eq_true (by first | rfl | decide)⟩).run) (fun r_12 hr_12 => ?_)
  subst hr_12
  exact W.zret (v := bI (inB ((x).toInt64) (lN 0) (((nI n - nI 1)).toInt64))) hx hb hr (bI_nar _) (fun T9 hT9 hW9 => ⟨_, rfl, (congrArg bI (by exact (inB_m x (by omega)).trans hb9)), hT9⟩) (fun q h => by cases h) dX12_isSentence_15
set_option maxHeartbeats 4000000 in
set_option maxRecDepth 100000 in
theorem c_X12_isSentence_t (l : Launch) (dC : Nat → ClassId) (dI : Nat → Nat → Nat) (cI cD cR : ClassId) (y as ai ar am ak ao az ae aq af : Nat) (hi : Bool) (th : Int32) (po ba en an aw ax ap : Nat) (se : Int32) (n d t day al : Nat) (nd : Nat → Nat) (bb oo : Nat → Int32) (K F kn : Nat → Nat) (x : Nat) (hn : n ≤ 9) (hd : d ≤ 7) (ht : t < 512) (hal : al < 128) (hday : day < 2 ^ 30) (gnd : ∀ i, nd i < 512) (gkn : ∀ j, kn j < 512) (gK : ∀ j, K j < 8) (gF : ∀ j, F j < 10) (hx9 : x < n) : Met l yX12_isSentence wsX12_isSentence ({ frames := 1, cells := 0, slots := 0, locals := 25 }) (pcR dC dI cI cD cR [.ref y, .int (nI x)] (fun H => va_P (dC, dI) vwCl ([(y, .inr (12, [.ref as, .ref ai, .ref ar, .ref am, .ref ak, .ref ao, .ref az, .ref ae, .ref aq, .ref af, .int (bI hi), .int th, .int (nI po), .int (nI ba), .int (nI en), .ref an, .ref aw, .ref ax, .ref ap, .int se]))] ++ [(as, .inl (cI, 53, .inl (sF n d t day al nd bb oo K F kn)))]) H)) (vp_Si (fun r => r = bI true)) 0 0 (fun _ => False) := by
  refine Met.ofW (cc := cX12_isSentence) (maxL := 2) (ret := (some .boolean)) (by decide) rfl ?_
  intro p e s m args below meth c s₁ B hml hv
  obtain ⟨rfl, hH0, hCX⟩ := hv
  have hx := B.exec
  have hb := B.bytes
  have hr := B.returns
  have hts := atoms_spec (ws := wsX12_isSentence) B.pre
  have hown : s.vm.findClass RX12 = some m.cls := findClass_of_methodNamed B.named
  have hlocks := B.notSynchronized
  have hK := hCX.1
  have hP := hH0
  have hl := lv_entry ([.ref y, .int (nI x)]) (n := 2) (Nat.le_of_ble_eq_true rfl)
  rw [lg_entry_eq]
  generalize (lg_sl ([.ref y, .int (nI x)]) ++ List.replicate (2 - (lg_sl ([.ref y, .int (nI x)])).length) Slot.unset).toArray = ls at hl ⊢
  have hl : lv_has ls 2 [(0, .ref y), (1, .int (nI x))] := hl
  refine lv_iload_n hx hb dX12_isSentence_0 rfl (lv_at hl 1 rfl) ?_
  refine lv_i2l (v := lN x) hx hb dX12_isSentence_1 (nI_l (by omega)) ?_
  refine lv_lconst (v := lN 0) hx hb dX12_isSentence_2 (by decide +kernel) ?_
  refine lv_aload_n hx hb dX12_isSentence_3 rfl (lv_at hl 0 rfl) ?_
  refine va_get (D := (dC, dI)) (ci := 12) (v := .ref as) (C := RX12) (T := TX12) (N := 20) hx hb hts (fun _ h => List.mem_cons_of_mem _ (List.mem_append_right _ h)) hown hK hP 0 rfl rfl 0 (by decide) (hts (.fieldLink RX12 9 "HoldsOnceDeniedModel" "s" "[I") (by decide +kernel)) (fun _ h9 => h9) rfl dX12_isSentence_4 ?_
  refine lv_iconst (v := nI 0) hx hb dX12_isSentence_7 (by decide +kernel) ?_
  refine ho_iald (v := nI n) hx hb hK hP 1 0 rfl rfl (by omega) (by first | decide | omega) rfl dX12_isSentence_8 ?_
  refine lv_iconst (v := nI 1) hx hb dX12_isSentence_9 (by decide +kernel) ?_
  refine lv_isub hx hb dX12_isSentence_10 ?_
  refine lv_i2l (v := ((nI n - nI 1)).toInt64) hx hb dX12_isSentence_11 rfl ?_
  refine vp_callSi ((va_runS (As := [.long (lN x), .long (lN 0), .long (((nI n - nI 1)).toInt64)]) (rest := []) ⟨hx, hb, hml, hown, hts⟩ (c_X12_isIn l dC dI cI cD cR (lN x) (lN 0) (((nI n - nI 1)).toInt64)) (va_cwS 3 hts gX12_isSentence_X12_isIn rfl rfl rfl (by decide +kernel) ⟨Nat.le_of_ble_eq_true rfl, Nat.le_of_ble_eq_true rfl⟩) (preS_R hCX (trivial)) rfl rfl hl.1 rfl (lv_room (Nat.le_of_ble_eq_true rfl)) dX12_isSentence_12 ⟨Nat.le_of_ble_eq_true (by first | rfl | decide), Nat.le_of_ble_eq_true (by first | rfl | decide)⟩).run) (fun r_12 hr_12 => ?_)
  subst hr_12
  exact W.zret (v := bI (inB (lN x) (lN 0) (((nI n - nI 1)).toInt64))) hx hb hr (bI_nar _) (fun T9 hT9 hW9 => ⟨_, rfl, (congrArg bI (by exact inB_mt hx9 (by omega))), hT9⟩) (fun q h => by cases h) dX12_isSentence_15
set_option maxHeartbeats 4000000 in
set_option maxRecDepth 100000 in
theorem c_X12_isDenier_r (l : Launch) (dC : Nat → ClassId) (dI : Nat → Nat → Nat) (cI cD cR : ClassId) (y as ai ar am ak ao az ae aq af : Nat) (hi : Bool) (th : Int32) (po ba en an aw ax ap : Nat) (se : Int32) (n d t day al : Nat) (nd : Nat → Nat) (bb oo : Nat → Int32) (K F kn : Nat → Nat) (x : Int32) (hn : n ≤ 9) (hd : d ≤ 7) (ht : t < 512) (hal : al < 128) (hday : day < 2 ^ 30) (gnd : ∀ i, nd i < 512) (gkn : ∀ j, kn j < 512) (gK : ∀ j, K j < 8) (gF : ∀ j, F j < 10) : Met l yX12_isDenier wsX12_isDenier ({ frames := 1, cells := 0, slots := 0, locals := 25 }) (pcR dC dI cI cD cR [.ref y, .int x] (fun H => va_P (dC, dI) vwCl ([(y, .inr (12, [.ref as, .ref ai, .ref ar, .ref am, .ref ak, .ref ao, .ref az, .ref ae, .ref aq, .ref af, .int (bI hi), .int th, .int (nI po), .int (nI ba), .int (nI en), .ref an, .ref aw, .ref ax, .ref ap, .int se]))] ++ [(as, .inl (cI, 53, .inl (sF n d t day al nd bb oo K F kn)))]) H)) (vp_Si (fun r => r = bI (okI x d))) 0 0 (fun _ => False) := by
  refine Met.ofW (cc := cX12_isDenier) (maxL := 2) (ret := (some .boolean)) (by decide) rfl ?_
  intro p e s m args below meth c s₁ B hml hv
  obtain ⟨rfl, hH0, hCX⟩ := hv
  have hx := B.exec
  have hb := B.bytes
  have hr := B.returns
  have hts := atoms_spec (ws := wsX12_isDenier) B.pre
  have hown : s.vm.findClass RX12 = some m.cls := findClass_of_methodNamed B.named
  have hlocks := B.notSynchronized
  have hK := hCX.1
  have hP := hH0
  have hl := lv_entry ([.ref y, .int x]) (n := 2) (Nat.le_of_ble_eq_true rfl)
  rw [lg_entry_eq]
  generalize (lg_sl ([.ref y, .int x]) ++ List.replicate (2 - (lg_sl ([.ref y, .int x])).length) Slot.unset).toArray = ls at hl ⊢
  have hl : lv_has ls 2 [(0, .ref y), (1, .int x)] := hl
  refine lv_iload_n hx hb dX12_isDenier_0 rfl (lv_at hl 1 rfl) ?_
  refine lv_i2l (v := (x).toInt64) hx hb dX12_isDenier_1 rfl ?_
  refine lv_lconst (v := lN 0) hx hb dX12_isDenier_2 (by decide +kernel) ?_
  refine lv_aload_n hx hb dX12_isDenier_3 rfl (lv_at hl 0 rfl) ?_
  refine va_get (D := (dC, dI)) (ci := 12) (v := .ref as) (C := RX12) (T := TX12) (N := 20) hx hb hts (fun _ h => List.mem_cons_of_mem _ (List.mem_append_right _ h)) hown hK hP 0 rfl rfl 0 (by decide) (hts (.fieldLink RX12 9 "HoldsOnceDeniedModel" "s" "[I") (by decide +kernel)) (fun _ h9 => h9) rfl dX12_isDenier_4 ?_
  refine lv_iconst (v := nI 1) hx hb dX12_isDenier_7 (by decide +kernel) ?_
  refine ho_iald (v := nI d) hx hb hK hP 1 0 rfl rfl (by omega) (by first | decide | omega) rfl dX12_isDenier_8 ?_
  refine lv_iconst (v := nI 1) hx hb dX12_isDenier_9 (by decide +kernel) ?_
  refine lv_isub hx hb dX12_isDenier_10 ?_
  refine lv_i2l (v := ((nI d - nI 1)).toInt64) hx hb dX12_isDenier_11 rfl ?_
  refine vp_callSi ((va_runS (As := [.long ((x).toInt64), .long (lN 0), .long (((nI d - nI 1)).toInt64)]) (rest := []) ⟨hx, hb, hml, hown, hts⟩ (c_X12_isIn l dC dI cI cD cR ((x).toInt64) (lN 0) (((nI d - nI 1)).toInt64)) (va_cwS 3 hts gX12_isDenier_X12_isIn rfl rfl rfl (by decide +kernel) ⟨Nat.le_of_ble_eq_true rfl, Nat.le_of_ble_eq_true rfl⟩) (preS_R hCX (trivial)) rfl rfl hl.1 rfl (lv_room (Nat.le_of_ble_eq_true rfl)) dX12_isDenier_12 ⟨Nat.le_of_ble_eq_true (by first | rfl | decide), Nat.le_of_ble_eq_true (by first | rfl | decide)⟩).run) (fun r_12 hr_12 => ?_)
  subst hr_12
  exact W.zret (v := bI (inB ((x).toInt64) (lN 0) (((nI d - nI 1)).toInt64))) hx hb hr (bI_nar _) (fun T9 hT9 hW9 => ⟨_, rfl, (congrArg bI (by exact inB_m x (by omega))), hT9⟩) (fun q h => by cases h) dX12_isDenier_15
set_option maxHeartbeats 4000000 in
set_option maxRecDepth 100000 in
theorem c_X12_isDenier_f (l : Launch) (dC : Nat → ClassId) (dI : Nat → Nat → Nat) (cI cD cR : ClassId) (y as ai ar am ak ao az ae aq af : Nat) (hi : Bool) (th : Int32) (po ba en an aw ax ap : Nat) (se : Int32) (n d t day al : Nat) (nd : Nat → Nat) (bb oo : Nat → Int32) (K F kn : Nat → Nat) (x : Int32) (hn : n ≤ 9) (hd : d ≤ 7) (ht : t < 512) (hal : al < 128) (hday : day < 2 ^ 30) (gnd : ∀ i, nd i < 512) (gkn : ∀ j, kn j < 512) (gK : ∀ j, K j < 8) (gF : ∀ j, F j < 10) (hb9 : okI x d = false) : Met l yX12_isDenier wsX12_isDenier ({ frames := 1, cells := 0, slots := 0, locals := 25 }) (pcR dC dI cI cD cR [.ref y, .int x] (fun H => va_P (dC, dI) vwCl ([(y, .inr (12, [.ref as, .ref ai, .ref ar, .ref am, .ref ak, .ref ao, .ref az, .ref ae, .ref aq, .ref af, .int (bI hi), .int th, .int (nI po), .int (nI ba), .int (nI en), .ref an, .ref aw, .ref ax, .ref ap, .int se]))] ++ [(as, .inl (cI, 53, .inl (sF n d t day al nd bb oo K F kn)))]) H)) (vp_Si (fun r => r = bI false)) 0 0 (fun _ => False) := by
  refine Met.ofW (cc := cX12_isDenier) (maxL := 2) (ret := (some .boolean)) (by decide) rfl ?_
  intro p e s m args below meth c s₁ B hml hv
  obtain ⟨rfl, hH0, hCX⟩ := hv
  have hx := B.exec
  have hb := B.bytes
  have hr := B.returns
  have hts := atoms_spec (ws := wsX12_isDenier) B.pre
  have hown : s.vm.findClass RX12 = some m.cls := findClass_of_methodNamed B.named
  have hlocks := B.notSynchronized
  have hK := hCX.1
  have hP := hH0
  have hl := lv_entry ([.ref y, .int x]) (n := 2) (Nat.le_of_ble_eq_true rfl)
  rw [lg_entry_eq]
  generalize (lg_sl ([.ref y, .int x]) ++ List.replicate (2 - (lg_sl ([.ref y, .int x])).length) Slot.unset).toArray = ls at hl ⊢
  have hl : lv_has ls 2 [(0, .ref y), (1, .int x)] := hl
  refine lv_iload_n hx hb dX12_isDenier_0 rfl (lv_at hl 1 rfl) ?_
  refine lv_i2l (v := (x).toInt64) hx hb dX12_isDenier_1 rfl ?_
  refine lv_lconst (v := lN 0) hx hb dX12_isDenier_2 (by decide +kernel) ?_
  refine lv_aload_n hx hb dX12_isDenier_3 rfl (lv_at hl 0 rfl) ?_
  refine va_get (D := (dC, dI)) (ci := 12) (v := .ref as) (C := RX12) (T := TX12) (N := 20) hx hb hts (fun _ h => List.mem_cons_of_mem _ (List.mem_append_right _ h)) hown hK hP 0 rfl rfl 0 (by decide) (hts (.fieldLink RX12 9 "HoldsOnceDeniedModel" "s" "[I") (by decide +kernel)) (fun _ h9 => h9) rfl dX12_isDenier_4 ?_
  refine lv_iconst (v := nI 1) hx hb dX12_isDenier_7 (by decide +kernel) ?_
  refine ho_iald (v := nI d) hx hb hK hP 1 0 rfl rfl (by omega) (by first | decide | omega) rfl dX12_isDenier_8 ?_
  refine lv_iconst (v := nI 1) hx hb dX12_isDenier_9 (by decide +kernel) ?_
  refine lv_isub hx hb dX12_isDenier_10 ?_
  refine lv_i2l (v := ((nI d - nI 1)).toInt64) hx hb dX12_isDenier_11 rfl ?_
  refine vp_callSi ((va_runS (As := [.long ((x).toInt64), .long (lN 0), .long (((nI d - nI 1)).toInt64)]) (rest := []) ⟨hx, hb, hml, hown, hts⟩ (c_X12_isIn l dC dI cI cD cR ((x).toInt64) (lN 0) (((nI d - nI 1)).toInt64)) (va_cwS 3 hts gX12_isDenier_X12_isIn rfl rfl rfl (by decide +kernel) ⟨Nat.le_of_ble_eq_true rfl, Nat.le_of_ble_eq_true rfl⟩) (preS_R hCX (trivial)) rfl rfl hl.1 rfl (lv_room (Nat.le_of_ble_eq_true rfl)) dX12_isDenier_12 ⟨Nat.le_of_ble_eq_true (by first | rfl | decide), Nat.le_of_ble_eq_true (by first | rfl | decide)⟩).run) (fun r_12 hr_12 => ?_)
  subst hr_12
  exact W.zret (v := bI (inB ((x).toInt64) (lN 0) (((nI d - nI 1)).toInt64))) hx hb hr (bI_nar _) (fun T9 hT9 hW9 => ⟨_, rfl, (congrArg bI (by exact (inB_m x (by omega)).trans hb9)), hT9⟩) (fun q h => by cases h) dX12_isDenier_15
set_option maxHeartbeats 4000000 in
set_option maxRecDepth 100000 in
theorem c_X12_isDenier_t (l : Launch) (dC : Nat → ClassId) (dI : Nat → Nat → Nat) (cI cD cR : ClassId) (y as ai ar am ak ao az ae aq af : Nat) (hi : Bool) (th : Int32) (po ba en an aw ax ap : Nat) (se : Int32) (n d t day al : Nat) (nd : Nat → Nat) (bb oo : Nat → Int32) (K F kn : Nat → Nat) (x : Nat) (hn : n ≤ 9) (hd : d ≤ 7) (ht : t < 512) (hal : al < 128) (hday : day < 2 ^ 30) (gnd : ∀ i, nd i < 512) (gkn : ∀ j, kn j < 512) (gK : ∀ j, K j < 8) (gF : ∀ j, F j < 10) (hx9 : x < d) : Met l yX12_isDenier wsX12_isDenier ({ frames := 1, cells := 0, slots := 0, locals := 25 }) (pcR dC dI cI cD cR [.ref y, .int (nI x)] (fun H => va_P (dC, dI) vwCl ([(y, .inr (12, [.ref as, .ref ai, .ref ar, .ref am, .ref ak, .ref ao, .ref az, .ref ae, .ref aq, .ref af, .int (bI hi), .int th, .int (nI po), .int (nI ba), .int (nI en), .ref an, .ref aw, .ref ax, .ref ap, .int se]))] ++ [(as, .inl (cI, 53, .inl (sF n d t day al nd bb oo K F kn)))]) H)) (vp_Si (fun r => r = bI true)) 0 0 (fun _ => False) := by
  refine Met.ofW (cc := cX12_isDenier) (maxL := 2) (ret := (some .boolean)) (by decide) rfl ?_
  intro p e s m args below meth c s₁ B hml hv
  obtain ⟨rfl, hH0, hCX⟩ := hv
  have hx := B.exec
  have hb := B.bytes
  have hr := B.returns
  have hts := atoms_spec (ws := wsX12_isDenier) B.pre
  have hown : s.vm.findClass RX12 = some m.cls := findClass_of_methodNamed B.named
  have hlocks := B.notSynchronized
  have hK := hCX.1
  have hP := hH0
  have hl := lv_entry ([.ref y, .int (nI x)]) (n := 2) (Nat.le_of_ble_eq_true rfl)
  rw [lg_entry_eq]
  generalize (lg_sl ([.ref y, .int (nI x)]) ++ List.replicate (2 - (lg_sl ([.ref y, .int (nI x)])).length) Slot.unset).toArray = ls at hl ⊢
  have hl : lv_has ls 2 [(0, .ref y), (1, .int (nI x))] := hl
  refine lv_iload_n hx hb dX12_isDenier_0 rfl (lv_at hl 1 rfl) ?_
  refine lv_i2l (v := lN x) hx hb dX12_isDenier_1 (nI_l (by omega)) ?_
  refine lv_lconst (v := lN 0) hx hb dX12_isDenier_2 (by decide +kernel) ?_
  refine lv_aload_n hx hb dX12_isDenier_3 rfl (lv_at hl 0 rfl) ?_
  refine va_get (D := (dC, dI)) (ci := 12) (v := .ref as) (C := RX12) (T := TX12) (N := 20) hx hb hts (fun _ h => List.mem_cons_of_mem _ (List.mem_append_right _ h)) hown hK hP 0 rfl rfl 0 (by decide) (hts (.fieldLink RX12 9 "HoldsOnceDeniedModel" "s" "[I") (by decide +kernel)) (fun _ h9 => h9) rfl dX12_isDenier_4 ?_
  refine lv_iconst (v := nI 1) hx hb dX12_isDenier_7 (by decide +kernel) ?_
  refine ho_iald (v := nI d) hx hb hK hP 1 0 rfl rfl (by omega) (by first | decide | omega) rfl dX12_isDenier_8 ?_
  refine lv_iconst (v := nI 1) hx hb dX12_isDenier_9 (by decide +kernel) ?_
  refine lv_isub hx hb dX12_isDenier_10 ?_
  refine lv_i2l (v := ((nI d - nI 1)).toInt64) hx hb dX12_isDenier_11 rfl ?_
  refine vp_callSi ((va_runS (As := [.long (lN x), .long (lN 0), .long (((nI d - nI 1)).toInt64)]) (rest := []) ⟨hx, hb, hml, hown, hts⟩ (c_X12_isIn l dC dI cI cD cR (lN x) (lN 0) (((nI d - nI 1)).toInt64)) (va_cwS 3 hts gX12_isDenier_X12_isIn rfl rfl rfl (by decide +kernel) ⟨Nat.le_of_ble_eq_true rfl, Nat.le_of_ble_eq_true rfl⟩) (preS_R hCX (trivial)) rfl rfl hl.1 rfl (lv_room (Nat.le_of_ble_eq_true rfl)) dX12_isDenier_12 ⟨Nat.le_of_ble_eq_true (by first | rfl | decide), Nat.le_of_ble_eq_true (by first | rfl | decide)⟩).run) (fun r_12 hr_12 => ?_)
  subst hr_12
  exact W.zret (v := bI (inB (lN x) (lN 0) (((nI d - nI 1)).toInt64))) hx hb hr (bI_nar _) (fun T9 hT9 hW9 => ⟨_, rfl, (congrArg bI (by exact inB_mt hx9 (by omega))), hT9⟩) (fun q h => by cases h) dX12_isDenier_15
set_option maxHeartbeats 4000000 in
set_option maxRecDepth 100000 in
theorem c_X12_of_0 (l : Launch) (dC : Nat → ClassId) (dI : Nat → Nat → Nat) (cI cD cR : ClassId) (y as ai ar am ak ao az ae aq af : Nat) (hi : Bool) (th : Int32) (po ba en an aw ax ap : Nat) (se : Int32) (n d t day al : Nat) (nd : Nat → Nat) (bb oo : Nat → Int32) (K F kn : Nat → Nat) (i : Nat) (hn : n ≤ 9) (hd : d ≤ 7) (ht : t < 512) (hal : al < 128) (hday : day < 2 ^ 30) (gnd : ∀ i, nd i < 512) (gkn : ∀ j, kn j < 512) (gK : ∀ j, K j < 8) (gF : ∀ j, F j < 10) (hi9 : i < 9) : Met l yX12_of wsX12_of ({ frames := 0, cells := 0, slots := 0, locals := 0 }) (pcR dC dI cI cD cR [.ref y, .int (nI i), .int (nI 0)] (fun H => va_P (dC, dI) vwCl ([(y, .inr (12, [.ref as, .ref ai, .ref ar, .ref am, .ref ak, .ref ao, .ref az, .ref ae, .ref aq, .ref af, .int (bI hi), .int th, .int (nI po), .int (nI ba), .int (nI en), .ref an, .ref aw, .ref ax, .ref ap, .int se]))] ++ [(as, .inl (cI, 53, .inl (sF n d t day al nd bb oo K F kn)))]) H)) (vp_Si (fun r => r = nI (nd i))) 0 0 (fun _ => False) := by
  refine Met.ofW (cc := cX12_of) (maxL := 3) (ret := (some .int)) (by decide) rfl ?_
  intro p e s m args below meth c s₁ B hml hv
  obtain ⟨rfl, hH0, hCX⟩ := hv
  have hx := B.exec
  have hb := B.bytes
  have hr := B.returns
  have hts := atoms_spec (ws := wsX12_of) B.pre
  have hown : s.vm.findClass RX12 = some m.cls := findClass_of_methodNamed B.named
  have hlocks := B.notSynchronized
  have hK := hCX.1
  have hP := hH0
  have hl := lv_entry ([.ref y, .int (nI i), .int (nI 0)]) (n := 3) (Nat.le_of_ble_eq_true rfl)
  rw [lg_entry_eq]
  generalize (lg_sl ([.ref y, .int (nI i), .int (nI 0)]) ++ List.replicate (3 - (lg_sl ([.ref y, .int (nI i), .int (nI 0)])).length) Slot.unset).toArray = ls at hl ⊢
  have hl : lv_has ls 3 [(0, .ref y), (1, .int (nI i)), (2, .int (nI 0))] := hl
  refine lv_aload_n hx hb dX12_of_0 rfl (lv_at hl 0 rfl) ?_
  refine va_get (D := (dC, dI)) (ci := 12) (v := .ref as) (C := RX12) (T := TX12) (N := 20) hx hb hts (fun _ h => List.mem_cons_of_mem _ (List.mem_append_right _ h)) hown hK hP 0 rfl rfl 0 (by decide) (hts (.fieldLink RX12 9 "HoldsOnceDeniedModel" "s" "[I") (by decide +kernel)) (fun _ h9 => h9) rfl dX12_of_1 ?_
  refine lv_iconst (v := nI 5) hx hb dX12_of_4 (by decide +kernel) ?_
  refine lv_iconst (v := nI 3) hx hb dX12_of_5 (by decide +kernel) ?_
  refine lv_iload_n hx hb dX12_of_6 rfl (lv_at hl 1 rfl) ?_
  refine ho_imul hx hb dX12_of_7 ?_
  refine ho_iadd hx hb dX12_of_8 ?_
  refine lv_iload_n hx hb dX12_of_9 rfl (lv_at hl 2 rfl) ?_
  refine ho_iadd hx hb dX12_of_10 ?_
  refine ho_iald (v := nI (nd i)) hx hb hK hP 1 0 rfl rfl (by omega) (by first | decide | omega) (sF_n0 (by omega)) dX12_of_11 ?_
  exact W.iret (v := nI (nd i)) hx hb hr (fun T9 hT9 hW9 => ⟨_, rfl, rfl, hT9⟩) (fun q h => by cases h) dX12_of_12
