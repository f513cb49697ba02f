set_option maxHeartbeats 4000000 in
set_option maxRecDepth 100000 in
theorem c_X12_isIn (l : Launch) (dC : Nat → ClassId) (dI : Nat → Nat → Nat) (cI cD cR : ClassId) (a b z : Int64)  : Met l yX12_isIn wsX12_isIn ({ frames := 0, cells := 0, slots := 0, locals := 0 }) (pcR dC dI cI cD cR [.long a, .long b, .long z] (fun H => True)) (vp_Si (fun r => r = bI (inB a b z))) 0 0 (fun _ => False) := by
  refine Met.ofW (cc := cX12_isIn) (maxL := 6) (ret := (some .boolean)) (by decide) rfl ?_
  intro p e s m args below meth c s₁ B hml hv
  obtain ⟨rfl, hH0, hCX⟩ := hv
  have hx := B.exec
  have hb := B.bytes
  have hr := B.returns
  have hts := atoms_spec (ws := wsX12_isIn) B.pre
  have hown : s.vm.findClass RX12 = some m.cls := findClass_of_methodNamed B.named
  have hlocks := B.notSynchronized
  have hK := hCX.1
  have hl := lv_entry ([.long a, .long b, .long z]) (n := 6) (Nat.le_of_ble_eq_true rfl)
  rw [lg_entry_eq]
  generalize (lg_sl ([.long a, .long b, .long z]) ++ List.replicate (6 - (lg_sl ([.long a, .long b, .long z])).length) Slot.unset).toArray = ls at hl ⊢
  have hl : lv_has ls 6 [(0, .long a), (2, .long b), (4, .long z)] := hl
  refine lv_lload_n hx hb dX12_isIn_0 rfl (lv_at hl 0 rfl) ?_
  refine lv_lload_n hx hb dX12_isIn_1 rfl (lv_at hl 1 rfl) ?_
  refine W.lcmp hx hb dX12_isIn_2 ?_
  refine lv_if_lt (tgt := 17) hx hb dX12_isIn_3 (by decide) (fun c_3 => ?_) (fun c_3 => ?_)
  · refine lv_iconst (v := nI 0) hx hb dX12_isIn_17 (by decide +kernel) ?_
    exact W.zret (v := nI 0) hx hb hr rfl (fun T9 hT9 hW9 => ⟨_, rfl, (bI_f (by first | exact inB_1 c_3 | exact inB_2 c_10 | exact inB_3 c_3 c_10)), hT9⟩) (fun q h => by cases h) dX12_isIn_18
  refine lv_lload_n hx hb dX12_isIn_6 rfl (lv_at hl 0 rfl) ?_
  refine lv_lload hx hb dX12_isIn_7 (lv_at hl 2 rfl) ?_
  refine W.lcmp hx hb dX12_isIn_9 ?_
  refine lv_if_gt (tgt := 17) hx hb dX12_isIn_10 (by decide) (fun c_10 => ?_) (fun c_10 => ?_)
  · refine lv_iconst (v := nI 0) hx hb dX12_isIn_17 (by decide +kernel) ?_
    exact W.zret (v := nI 0) hx hb hr rfl (fun T9 hT9 hW9 => ⟨_, rfl, (bI_f (by first | exact inB_1 c_3 | exact inB_2 c_10 | exact inB_3 c_3 c_10)), hT9⟩) (fun q h => by cases h) dX12_isIn_18
  refine lv_iconst (v := nI 1) hx hb dX12_isIn_13 (by decide +kernel) ?_
  refine lv_goto (tgt := 18) hx hb dX12_isIn_14 (by decide) ?_
  exact W.zret (v := nI 1) hx hb hr rfl (fun T9 hT9 hW9 => ⟨_, rfl, (bI_t (by first | exact inB_1 c_3 | exact inB_2 c_10 | exact inB_3 c_3 c_10)), hT9⟩) (fun q h => by cases h) dX12_isIn_18
set_option maxHeartbeats 4000000 in
set_option maxRecDepth 100000 in
theorem c_X12_isShelf_f (l : Launch) (dC : Nat → ClassId) (dI : Nat → Nat → Nat) (cI cD cR : ClassId) (x : Int32) (hb9 : okI x 8 = false) : Met l yX12_isShelf wsX12_isShelf ({ frames := 1, cells := 0, slots := 0, locals := 25 }) (pcR dC dI cI cD cR [.int x] (fun H => True)) (vp_Si (fun r => r = bI false)) 0 0 (fun _ => False) := by
  refine Met.ofW (cc := cX12_isShelf) (maxL := 1) (ret := (some .boolean)) (by decide) rfl ?_
  intro p e s m args below meth c s₁ B hml hv
  obtain ⟨rfl, hH0, hCX⟩ := hv
  have hx := B.exec
  have hb := B.bytes
  have hr := B.returns
  have hts := atoms_spec (ws := wsX12_isShelf) B.pre
  have hown : s.vm.findClass RX12 = some m.cls := findClass_of_methodNamed B.named
  have hlocks := B.notSynchronized
  have hK := hCX.1
  have hl := lv_entry ([.int x]) (n := 1) (Nat.le_of_ble_eq_true rfl)
  rw [lg_entry_eq]
  generalize (lg_sl ([.int x]) ++ List.replicate (1 - (lg_sl ([.int x])).length) Slot.unset).toArray = ls at hl ⊢
  have hl : lv_has ls 1 [(0, .int x)] := hl
  refine lv_iload_n hx hb dX12_isShelf_0 rfl (lv_at hl 0 rfl) ?_
  refine lv_i2l (v := (x).toInt64) hx hb dX12_isShelf_1 rfl ?_
  refine lv_lconst (v := lN 0) hx hb dX12_isShelf_2 (by decide +kernel) ?_
  refine lv_ldc2 (v := 7) hx hb hown (hts (.constantLong RX12 56 (7)) (by decide +kernel)) dX12_isShelf_3 ?_
  refine vp_callSi ((va_runS (As := [.long ((x).toInt64), .long (lN 0), .long (7 : Int64)]) (rest := []) ⟨hx, hb, hml, hown, hts⟩ (c_X12_isIn l dC dI cI cD cR ((x).toInt64) (lN 0) (7 : Int64)) (va_cwS 3 hts gX12_isShelf_X12_isIn rfl rfl rfl (by decide +kernel) ⟨Nat.le_of_ble_eq_true rfl, Nat.le_of_ble_eq_true rfl⟩) (preS_R hCX (trivial)) rfl rfl hl.1 rfl (lv_room (Nat.le_of_ble_eq_true rfl)) dX12_isShelf_6 ⟨Nat.le_of_ble_eq_true (by first | rfl | decide), Nat.le_of_ble_eq_true (by first | rfl | decide)⟩).run) (fun r_6 hr_6 => ?_)
  subst hr_6
  exact W.zret (v := bI (inB ((x).toInt64) (lN 0) (7 : Int64))) hx hb hr (bI_nar _) (fun T9 hT9 hW9 => ⟨_, rfl, (congrArg bI (by exact (inB_k x (k := 7) (by decide)).trans hb9)), hT9⟩) (fun q h => by cases h) dX12_isShelf_9
set_option maxHeartbeats 4000000 in
set_option maxRecDepth 100000 in
theorem c_X12_isShelf_t (l : Launch) (dC : Nat → ClassId) (dI : Nat → Nat → Nat) (cI cD cR : ClassId) (x : Nat) (hx9 : x < 8) : Met l yX12_isShelf wsX12_isShelf ({ frames := 1, cells := 0, slots := 0, locals := 25 }) (pcR dC dI cI cD cR [.int (nI x)] (fun H => True)) (vp_Si (fun r => r = bI true)) 0 0 (fun _ => False) := by
  refine Met.ofW (cc := cX12_isShelf) (maxL := 1) (ret := (some .boolean)) (by decide) rfl ?_
  intro p e s m args below meth c s₁ B hml hv
  obtain ⟨rfl, hH0, hCX⟩ := hv
  have hx := B.exec
  have hb := B.bytes
  have hr := B.returns
  have hts := atoms_spec (ws := wsX12_isShelf) B.pre
  have hown : s.vm.findClass RX12 = some m.cls := findClass_of_methodNamed B.named
  have hlocks := B.notSynchronized
  have hK := hCX.1
  have hl := lv_entry ([.int (nI x)]) (n := 1) (Nat.le_of_ble_eq_true rfl)
  rw [lg_entry_eq]
  generalize (lg_sl ([.int (nI x)]) ++ List.replicate (1 - (lg_sl ([.int (nI x)])).length) Slot.unset).toArray = ls at hl ⊢
  have hl : lv_has ls 1 [(0, .int (nI x))] := hl
  refine lv_iload_n hx hb dX12_isShelf_0 rfl (lv_at hl 0 rfl) ?_
  refine lv_i2l (v := lN x) hx hb dX12_isShelf_1 (nI_l (by omega)) ?_
  refine lv_lconst (v := lN 0) hx hb dX12_isShelf_2 (by decide +kernel) ?_
  refine lv_ldc2 (v := 7) hx hb hown (hts (.constantLong RX12 56 (7)) (by decide +kernel)) dX12_isShelf_3 ?_
  refine vp_callSi ((va_runS (As := [.long (lN x), .long (lN 0), .long (7 : Int64)]) (rest := []) ⟨hx, hb, hml, hown, hts⟩ (c_X12_isIn l dC dI cI cD cR (lN x) (lN 0) (7 : Int64)) (va_cwS 3 hts gX12_isShelf_X12_isIn rfl rfl rfl (by decide +kernel) ⟨Nat.le_of_ble_eq_true rfl, Nat.le_of_ble_eq_true rfl⟩) (preS_R hCX (trivial)) rfl rfl hl.1 rfl (lv_room (Nat.le_of_ble_eq_true rfl)) dX12_isShelf_6 ⟨Nat.le_of_ble_eq_true (by first | rfl | decide), Nat.le_of_ble_eq_true (by first | rfl | decide)⟩).run) (fun r_6 hr_6 => ?_)
  subst hr_6
  exact W.zret (v := bI (inB (lN x) (lN 0) (7 : Int64))) hx hb hr (bI_nar _) (fun T9 hT9 hW9 => ⟨_, rfl, (congrArg bI (by exact inB_kt (k := 7) (by omega) (by decide))), hT9⟩) (fun q h => by cases h) dX12_isShelf_9
set_option maxHeartbeats 4000000 in
set_option maxRecDepth 100000 in
theorem c_X12_has (l : Launch) (dC : Nat → ClassId) (dI : Nat → Nat → Nat) (cI cD cR : ClassId) (v i : Nat) (kb : v < 2 ^ 31) (hi9 : i < 31) : Met l yX12_has wsX12_has ({ frames := 0, cells := 0, slots := 0, locals := 0 }) (pcR dC dI cI cD cR [.int (nI v), .int (nI i)] (fun H => True)) (vp_Si (fun r => r = bI (v.testBit i))) 0 0 (fun _ => False) := by
  refine Met.ofW (cc := cX12_has) (maxL := 2) (ret := (some .boolean)) (by decide) rfl ?_
  intro p e s m args below meth c s₁ B hml hv
  obtain ⟨rfl, hH0, hCX⟩ := hv
  have hx := B.exec
  have hb := B.bytes
  have hr := B.returns
  have hts := atoms_spec (ws := wsX12_has) B.pre
  have hown : s.vm.findClass RX12 = some m.cls := findClass_of_methodNamed B.named
  have hlocks := B.notSynchronized
  have hK := hCX.1
  have hl := lv_entry ([.int (nI v), .int (nI i)]) (n := 2) (Nat.le_of_ble_eq_true rfl)
  rw [lg_entry_eq]
  generalize (lg_sl ([.int (nI v), .int (nI i)]) ++ List.replicate (2 - (lg_sl ([.int (nI v), .int (nI i)])).length) Slot.unset).toArray = ls at hl ⊢
  have hl : lv_has ls 2 [(0, .int (nI v)), (1, .int (nI i))] := hl
  refine lv_iload_n hx hb dX12_has_0 rfl (lv_at hl 0 rfl) ?_
  refine lv_iload_n hx hb dX12_has_1 rfl (lv_at hl 1 rfl) ?_
  refine ho_shr hx hb dX12_has_2 (by omega) (by omega) ?_
  refine lv_iconst (v := nI 1) hx hb dX12_has_3 (by decide +kernel) ?_
  refine ho_iand hx hb dX12_has_4 ?_
  refine lv_iconst (v := nI 1) hx hb dX12_has_5 (by decide +kernel) ?_
  refine ho_icmp_ne (tgt := 13) hx hb dX12_has_6 (by decide) (by rw [tb_shr]; cases v.testBit i <;> decide) (by omega) (fun c_6 => ?_) (fun c_6 => ?_)
  · refine lv_iconst (v := nI 0) hx hb dX12_has_13 (by decide +kernel) ?_
    exact W.zret (v := nI 0) hx hb hr rfl (fun T9 hT9 hW9 => ⟨_, rfl, (bI_f (by rw [tb_shr] at c_6; cases h9 : v.testBit i <;> simp_all)), hT9⟩) (fun q h => by cases h) dX12_has_14
  refine lv_iconst (v := nI 1) hx hb dX12_has_9 (by decide +kernel) ?_
  refine lv_goto (tgt := 14) hx hb dX12_has_10 (by decide) ?_
  exact W.zret (v := nI 1) hx hb hr rfl (fun T9 hT9 hW9 => ⟨_, rfl, (bI_t (by rw [tb_shr] at c_6; cases h9 : v.testBit i <;> simp_all)), hT9⟩) (fun q h => by cases h) dX12_has_14
set_option maxHeartbeats 4000000 in
set_option maxRecDepth 100000 in
theorem c_X12_bits (l : Launch) (dC : Nat → ClassId) (dI : Nat → Nat → Nat) (cI cD cR : ClassId) (v : Nat) (hv : v < 1024) : Met l yX12_bits wsX12_bits ({ frames := 0, cells := 0, slots := 0, locals := 0 }) (pcR dC dI cI cD cR [.int (nI v)] (fun H => True)) (vp_Si (fun r => r = nI (pcN v))) 0 0 (fun _ => False) := by
  refine Met.ofW (cc := cX12_bits) (maxL := 3) (ret := (some .int)) (by decide) rfl ?_
  intro p e s m args below meth c s₁ B hml hv
  obtain ⟨rfl, hH0, hCX⟩ := hv
  have hx := B.exec
  have hb := B.bytes
  have hr := B.returns
  have hts := atoms_spec (ws := wsX12_bits) B.pre
  have hown : s.vm.findClass RX12 = some m.cls := findClass_of_methodNamed B.named
  have hlocks := B.notSynchronized
  have hK := hCX.1
  have hl := lv_entry ([.int (nI v)]) (n := 3) (Nat.le_of_ble_eq_true rfl)
  rw [lg_entry_eq]
  generalize (lg_sl ([.int (nI v)]) ++ List.replicate (3 - (lg_sl ([.int (nI v)])).length) Slot.unset).toArray = ls at hl ⊢
  have hl : lv_has ls 3 [(0, .int (nI v))] := hl
  refine lv_iconst (v := nI 0) hx hb dX12_bits_0 (by decide +kernel) ?_
  refine lv_istore_n (lv' := [(1, .int (nI 0)), (0, .int (nI v))]) hx hb dX12_bits_1 rfl hl (by decide) rfl (fun ls hl => ?_)
  refine lv_iload_n hx hb dX12_bits_2 rfl (lv_at hl 1 rfl) ?_
  refine lv_istore_n (lv' := [(2, .int (nI v)), (1, .int (nI 0)), (0, .int (nI v))]) hx hb dX12_bits_3 rfl hl (by decide) rfl (fun ls hl => ?_)
  refine ho_lp (T := Nat × Nat) 3 (fun x9 => [(2, .int (nI x9.2)), (1, .int (nI x9.1)), (0, .int (nI v))]) (fun x9 => []) (fun x9 => (x9.2 < 1024) ∧ (x9.1 ≤ 10) ∧ (x9.1 + pcN x9.2 = pcN v)) (fun x9 => x9.2) (0, v) ⟨hv, by omega, by omega⟩ (lv_sub hl [0, 1, 2] rfl) ?_
  intro fu4 x9 ls hI hm4 hl ih
  obtain ⟨mm, w⟩ := x9
  obtain ⟨hw, hm, he⟩ := hI
  have hl : lv_has ls 3 [(2, .int (nI w)), (1, .int (nI mm)), (0, .int (nI v))] := hl
  have hw : w < 1024 := hw
  have hm : mm ≤ 10 := hm
  have he : mm + pcN w = pcN v := he
  have hm4 : w < fu4 + 1 := hm4
  refine W.eq (g2 := F0 m 4 ls []) rfl ?_
  have ih4 := ih
  refine lv_iload_n hx hb dX12_bits_4 rfl (lv_at hl 0 rfl) ?_
  refine ho_if_le (tgt := 21) hx hb dX12_bits_5 (by decide) (by omega) (fun c_5 => ?_) (fun c_5 => ?_)
  · refine lv_iload_n hx hb dX12_bits_21 rfl (lv_at hl 1 rfl) ?_
    exact W.iret (v := nI mm) hx hb hr (fun T9 hT9 hW9 => ⟨_, rfl, (congrArg nI (by rw [show w = 0 by omega, pcN_0] at he; omega)), hT9⟩) (fun q h => by cases h) dX12_bits_22
  refine lv_iload_n hx hb dX12_bits_8 rfl (lv_at hl 1 rfl) ?_
  refine lv_iload_n hx hb dX12_bits_9 rfl (lv_at hl 0 rfl) ?_
  refine lv_iconst (v := nI 1) hx hb dX12_bits_10 (by decide +kernel) ?_
  refine ho_iand hx hb dX12_bits_11 ?_
  refine ho_iadd hx hb dX12_bits_12 ?_
  refine lv_istore_n (lv' := [(1, .int (nI (mm + (w &&& 1)))), (2, .int (nI w)), (0, .int (nI v))]) hx hb dX12_bits_13 rfl hl (by decide) rfl (fun ls hl => ?_)
  refine lv_iload_n hx hb dX12_bits_14 rfl (lv_at hl 1 rfl) ?_
  refine lv_iconst (v := nI 1) hx hb dX12_bits_15 (by decide +kernel) ?_
  refine ho_shr hx hb dX12_bits_16 (by omega) (by omega) ?_
  refine lv_istore_n (lv' := [(2, .int (nI (w / 2 ^ 1))), (1, .int (nI (mm + (w &&& 1)))), (0, .int (nI v))]) hx hb dX12_bits_17 rfl hl (by decide) rfl (fun ls hl => ?_)
  refine lv_goto (tgt := 4) hx hb dX12_bits_18 (by decide) ?_
  exact ih4 ((mm + (w &&& 1), w / 2 ^ 1)) _ ⟨by omega, by have h9 := pcN_st hw he; have h8 := pcN_le v; omega, pcN_st hw he⟩ (show (w / 2 ^ 1) < fu4 from (by omega)) (lv_sub hl [0, 1, 2] rfl)
set_option maxHeartbeats 4000000 in
set_option maxRecDepth 100000 in
theorem c_X12_priceBy (l : Launch) (dC : Nat → ClassId) (dI : Nat → Nat → Nat) (cI cD cR : ClassId) (k f : Nat) (hk : k < 8) (hf : f < 10) : Met l yX12_priceBy wsX12_priceBy ({ frames := 0, cells := 0, slots := 0, locals := 0 }) (pcR dC dI cI cD cR [.int (nI k), .int (nI f)] (fun H => True)) (vp_Si (fun r => r = nI (asN k f))) 0 0 (fun _ => False) := by
  refine Met.ofW (cc := cX12_priceBy) (maxL := 2) (ret := (some .int)) (by decide) rfl ?_
  intro p e s m args below meth c s₁ B hml hv
  obtain ⟨rfl, hH0, hCX⟩ := hv
  have hx := B.exec
  have hb := B.bytes
  have hr := B.returns
  have hts := atoms_spec (ws := wsX12_priceBy) B.pre
  have hown : s.vm.findClass RX12 = some m.cls := findClass_of_methodNamed B.named
  have hlocks := B.notSynchronized
  have hK := hCX.1
  have hl := lv_entry ([.int (nI k), .int (nI f)]) (n := 2) (Nat.le_of_ble_eq_true rfl)
  rw [lg_entry_eq]
  generalize (lg_sl ([.int (nI k), .int (nI f)]) ++ List.replicate (2 - (lg_sl ([.int (nI k), .int (nI f)])).length) Slot.unset).toArray = ls at hl ⊢
  have hl : lv_has ls 2 [(0, .int (nI k)), (1, .int (nI f))] := hl
  refine lv_iload_n hx hb dX12_priceBy_0 rfl (lv_at hl 0 rfl) ?_
  by_cases k_1_0 : k = 1
  · refine ho_tope (y := nI 1) (by rw [k_1_0]) ?_
    refine lv_tableIn (tgt := 44) hx hb dX12_priceBy_1 (by decide +kernel) (by decide +kernel) (off := 43) (by decide +kernel) (by decide) ?_
    refine lv_iconst (v := nI 2) hx hb dX12_priceBy_44 (by decide +kernel) ?_
    exact W.iret (v := nI 2) hx hb hr (fun T9 hT9 hW9 => ⟨_, rfl, (congrArg nI (by first | (simp only [k_1_0, asN]; done) | (simp only [k_1_1, asN]; done) | (simp only [k_1_2, asN]; done) | (simp only [k_1_3, asN]; done) | (simp only [k_1_4, asN]; done) | (simp only [k_1_5, asN]; omega) | (simp only [k_1_6, asN]; done) | (rw [show k = 0 by omega]; rfl))), hT9⟩) (fun q h => by cases h) dX12_priceBy_45
  by_cases k_1_1 : k = 2
  · refine ho_tope (y := nI 2) (by rw [k_1_1]) ?_
    refine lv_tableIn (tgt := 46) hx hb dX12_priceBy_1 (by decide +kernel) (by decide +kernel) (off := 45) (by decide +kernel) (by decide) ?_
    refine lv_iconst (v := nI 3) hx hb dX12_priceBy_46 (by decide +kernel) ?_
    refine lv_iload_n hx hb dX12_priceBy_47 rfl (lv_at hl 1 rfl) ?_
    refine ho_iadd hx hb dX12_priceBy_48 ?_
    exact W.iret (v := nI (3 + f)) hx hb hr (fun T9 hT9 hW9 => ⟨_, rfl, (congrArg nI (by first | (simp only [k_1_0, asN]; done) | (simp only [k_1_1, asN]; done) | (simp only [k_1_2, asN]; done) | (simp only [k_1_3, asN]; done) | (simp only [k_1_4, asN]; done) | (simp only [k_1_5, asN]; omega) | (simp only [k_1_6, asN]; done) | (rw [show k = 0 by omega]; rfl))), hT9⟩) (fun q h => by cases h) dX12_priceBy_49
  by_cases k_1_2 : k = 3
  · refine ho_tope (y := nI 3) (by rw [k_1_2]) ?_
    refine lv_tableIn (tgt := 50) hx hb dX12_priceBy_1 (by decide +kernel) (by decide +kernel) (off := 49) (by decide +kernel) (by decide) ?_
    refine lv_iconst (v := nI 4) hx hb dX12_priceBy_50 (by decide +kernel) ?_
    exact W.iret (v := nI 4) hx hb hr (fun T9 hT9 hW9 => ⟨_, rfl, (congrArg nI (by first | (simp only [k_1_0, asN]; done) | (simp only [k_1_1, asN]; done) | (simp only [k_1_2, asN]; done) | (simp only [k_1_3, asN]; done) | (simp only [k_1_4, asN]; done) | (simp only [k_1_5, asN]; omega) | (simp only [k_1_6, asN]; done) | (rw [show k = 0 by omega]; rfl))), hT9⟩) (fun q h => by cases h) dX12_priceBy_51
  by_cases k_1_3 : k = 4
  · refine ho_tope (y := nI 4) (by rw [k_1_3]) ?_
    refine lv_tableIn (tgt := 52) hx hb dX12_priceBy_1 (by decide +kernel) (by decide +kernel) (off := 51) (by decide +kernel) (by decide) ?_
    refine lv_iconst (v := nI 3) hx hb dX12_priceBy_52 (by decide +kernel) ?_
    refine lv_iload_n hx hb dX12_priceBy_53 rfl (lv_at hl 1 rfl) ?_
    refine lv_iconst (v := nI 1) hx hb dX12_priceBy_54 (by decide +kernel) ?_
    refine ho_iadd hx hb dX12_priceBy_55 ?_
    refine ho_imul hx hb dX12_priceBy_56 ?_
    exact W.iret (v := nI (3 * (f + 1))) hx hb hr (fun T9 hT9 hW9 => ⟨_, rfl, (congrArg nI (by first | (simp only [k_1_0, asN]; done) | (simp only [k_1_1, asN]; done) | (simp only [k_1_2, asN]; done) | (simp only [k_1_3, asN]; done) | (simp only [k_1_4, asN]; done) | (simp only [k_1_5, asN]; omega) | (simp only [k_1_6, asN]; done) | (rw [show k = 0 by omega]; rfl))), hT9⟩) (fun q h => by cases h) dX12_priceBy_57
  by_cases k_1_4 : k = 5
  · refine ho_tope (y := nI 5) (by rw [k_1_4]) ?_
    refine lv_tableIn (tgt := 58) hx hb dX12_priceBy_1 (by decide +kernel) (by decide +kernel) (off := 57) (by decide +kernel) (by decide) ?_
    refine lv_bipush (v := nI 7) hx hb dX12_priceBy_58 (by decide +kernel) ?_
    exact W.iret (v := nI 7) hx hb hr (fun T9 hT9 hW9 => ⟨_, rfl, (congrArg nI (by first | (simp only [k_1_0, asN]; done) | (simp only [k_1_1, asN]; done) | (simp only [k_1_2, asN]; done) | (simp only [k_1_3, asN]; done) | (simp only [k_1_4, asN]; done) | (simp only [k_1_5, asN]; omega) | (simp only [k_1_6, asN]; done) | (rw [show k = 0 by omega]; rfl))), hT9⟩) (fun q h => by cases h) dX12_priceBy_60
  by_cases k_1_5 : k = 6
  · refine ho_tope (y := nI 6) (by rw [k_1_5]) ?_
    refine lv_tableIn (tgt := 61) hx hb dX12_priceBy_1 (by decide +kernel) (by decide +kernel) (off := 60) (by decide +kernel) (by decide) ?_
    refine lv_iconst (v := nI 1) hx hb dX12_priceBy_61 (by decide +kernel) ?_
    refine lv_iload_n hx hb dX12_priceBy_62 rfl (lv_at hl 1 rfl) ?_
    refine ho_iadd hx hb dX12_priceBy_63 ?_
    exact W.iret (v := nI (1 + f)) hx hb hr (fun T9 hT9 hW9 => ⟨_, rfl, (congrArg nI (by first | (simp only [k_1_0, asN]; done) | (simp only [k_1_1, asN]; done) | (simp only [k_1_2, asN]; done) | (simp only [k_1_3, asN]; done) | (simp only [k_1_4, asN]; done) | (simp only [k_1_5, asN]; omega) | (simp only [k_1_6, asN]; done) | (rw [show k = 0 by omega]; rfl))), hT9⟩) (fun q h => by cases h) dX12_priceBy_64
  by_cases k_1_6 : k = 7
  · refine ho_tope (y := nI 7) (by rw [k_1_6]) ?_
    refine lv_tableIn (tgt := 65) hx hb dX12_priceBy_1 (by decide +kernel) (by decide +kernel) (off := 64) (by decide +kernel) (by decide) ?_
    refine lv_iconst (v := nI 3) hx hb dX12_priceBy_65 (by decide +kernel) ?_
    refine lv_iload_n hx hb dX12_priceBy_66 rfl (lv_at hl 1 rfl) ?_
    refine lv_iconst (v := nI 1) hx hb dX12_priceBy_67 (by decide +kernel) ?_
    refine ho_iadd hx hb dX12_priceBy_68 ?_
    refine ho_imul hx hb dX12_priceBy_69 ?_
    refine lv_iconst (v := nI 2) hx hb dX12_priceBy_70 (by decide +kernel) ?_
    refine ho_idiv hx hb dX12_priceBy_71 (by omega) (by omega) (by omega) ?_
    exact W.iret (v := nI ((3 * (f + 1)) / 2)) hx hb hr (fun T9 hT9 hW9 => ⟨_, rfl, (congrArg nI (by first | (simp only [k_1_0, asN]; done) | (simp only [k_1_1, asN]; done) | (simp only [k_1_2, asN]; done) | (simp only [k_1_3, asN]; done) | (simp only [k_1_4, asN]; done) | (simp only [k_1_5, asN]; omega) | (simp only [k_1_6, asN]; done) | (rw [show k = 0 by omega]; rfl))), hT9⟩) (fun q h => by cases h) dX12_priceBy_72
  refine lv_tableOut (tgt := 73) hx hb dX12_priceBy_1 (by rw [nI_toInt (by omega)]; omega) (by decide) ?_
  refine lv_iconst (v := nI 3) hx hb dX12_priceBy_73 (by decide +kernel) ?_
  exact W.iret (v := nI 3) hx hb hr (fun T9 hT9 hW9 => ⟨_, rfl, (congrArg nI (by first | (simp only [k_1_0, asN]; done) | (simp only [k_1_1, asN]; done) | (simp only [k_1_2, asN]; done) | (simp only [k_1_3, asN]; done) | (simp only [k_1_4, asN]; done) | (simp only [k_1_5, asN]; omega) | (simp only [k_1_6, asN]; done) | (rw [show k = 0 by omega]; rfl))), hT9⟩) (fun q h => by cases h) dX12_priceBy_74
set_option maxHeartbeats 4000000 in
set_option maxRecDepth 100000 in
theorem c_X12_isSentence_r (l : Launch) (dC : Nat → ClassId) (dI : Nat → Nat → Nat) (cI cD cR : ClassId) (y as ai ar am ak ao az ae aq af : Nat) (hi : Bool) (th : Int32) (po ba en an aw ax ap : Nat) (se : Int32) (n d t day al : Nat) (nd : Nat → Nat) (bb oo : Nat → Int32) (K F kn : Nat → Nat) (x : Int32) (hn : n ≤ 9) (hd : d ≤ 7) (ht : t < 512) (hal : al < 128) (hday : day < 2 ^ 30) (gnd : ∀ i, nd i < 512) (gkn : ∀ j, kn j < 512) (gK : ∀ j, K j < 8) (gF : ∀ j, F j < 10) : Met l yX12_isSentence wsX12_isSentence ({ frames := 1, cells := 0, slots := 0, locals := 25 }) (pcR dC dI cI cD cR [.ref y, .int x] (fun H => va_P (dC, dI) vwCl ([(y, .inr (12, [.ref as, .ref ai, .ref ar, .ref am, .ref ak, .ref ao, .ref az, .ref ae, .ref aq, .ref af, .int (bI hi), .int th, .int (nI po), .int (nI ba), .int (nI en), .ref an, .ref aw, .ref ax, .ref ap, .int se]))] ++ [(as, .inl (cI, 53, .inl (sF n d t day al nd bb oo K F kn)))]) H)) (vp_Si (fun r => r = bI (okI x n))) 0 0 (fun _ => False) := by
  refine Met.ofW (cc := cX12_isSentence) (maxL := 2) (ret := (some .boolean)) (by decide) rfl ?_
  intro p e s m args below meth c s₁ B hml hv
  obtain ⟨rfl, hH0, hCX⟩ := hv
  have hx := B.exec
  have hb := B.bytes
  have hr := B.returns
  have hts := atoms_spec (ws := wsX12_isSentence) B.pre
  have hown : s.vm.findClass RX12 = some m.cls := findClass_of_methodNamed B.named
  have hlocks := B.notSynchronized
  have hK := hCX.1
  have hP := hH0
  have hl := lv_entry ([.ref y, .int x]) (n := 2) (Nat.le_of_ble_eq_true rfl)
  rw [lg_entry_eq]
  generalize (lg_sl ([.ref y, .int x]) ++ List.replicate (2 - (lg_sl ([.ref y, .int x])).length) Slot.unset).toArray = ls at hl ⊢
  have hl : lv_has ls 2 [(0, .ref y), (1, .int x)] := hl
  refine lv_iload_n hx hb dX12_isSentence_0 rfl (lv_at hl 1 rfl) ?_
  refine lv_i2l (v := (x).toInt64) hx hb dX12_isSentence_1 rfl ?_
  refine lv_lconst (v := lN 0) hx hb dX12_isSentence_2 (by decide +kernel) ?_
  refine lv_aload_n hx hb dX12_isSentence_3 rfl (lv_at hl 0 rfl) ?_
  refine va_get (D := (dC, dI)) (ci := 12) (v := .ref as) (C := RX12) (T := TX12) (N := 20) hx hb hts (fun _ h => List.mem_cons_of_mem _ (List.mem_append_right _ h)) hown hK hP 0 rfl rfl 0 (by decide) (hts (.fieldLink RX12 9 "HoldsOnceDeniedModel" "s" "[I") (by decide +kernel)) (fun _ h9 => h9) rfl dX12_isSentence_4 ?_
  refine lv_iconst (v := nI 0) hx hb dX12_isSentence_7 (by decide +kernel) ?_
  refine ho_iald (v := nI n) hx hb hK hP 1 0 rfl rfl (by omega) (by first | decide | omega) rfl dX12_isSentence_8 ?_
  refine lv_iconst (v := nI 1) hx hb dX12_isSentence_9 (by decide +kernel) ?_
  refine lv_isub hx hb dX12_isSentence_10 ?_
  refine lv_i2l (v := ((nI n - nI 1)).toInt64) hx hb dX12_isSentence_11 rfl ?_
  refine vp_callSi ((va_runS (As := [.long ((x).toInt64), .long (lN 0), .long (((nI n - nI 1)).toInt64)]) (rest := []) ⟨hx, hb, hml, hown, hts⟩ (c_X12_isIn l dC dI cI cD cR ((x).toInt64) (lN 0) (((nI n - nI 1)).toInt64)) (va_cwS 3 hts gX12_isSentence_X12_isIn rfl rfl rfl (by decide +kernel) ⟨Nat.le_of_ble_eq_true rfl, Nat.le_of_ble_eq_true rfl⟩) (preS_R hCX (trivial)) rfl rfl hl.1 rfl (lv_room (Nat.le_of_ble_eq_true rfl)) dX12_isSentence_12 ⟨Nat.le_of_ble_eq_true (by first | rfl | decide), Nat.le_of_ble_eq_true (by first | rfl | decide)⟩).run) (fun r_12 hr_12 => ?_)
  subst hr_12
  exact W.zret (v := bI (inB ((x).toInt64) (lN 0) (((nI n - nI 1)).toInt64))) hx hb hr (bI_nar _) (fun T9 hT9 hW9 => ⟨_, rfl, (congrArg bI (by exact inB_m x (by omega))), hT9⟩) (fun q h => by cases h) dX12_isSentence_15
set_option maxHeartbeats 4000000 in
set_option maxRecDepth 100000 in
theorem c_X12_isSentence_f (l : Launch) (dC : Nat → ClassId) (dI : Nat → Nat → Nat) (cI cD cR : ClassId) (y as ai ar am ak ao az ae aq af : Nat) (hi : Bool) (th : Int32) (po ba en an aw ax ap : Nat) (se : Int32) (n d t day al : Nat) (nd : Nat → Nat) (bb oo : Nat → Int32) (K F kn : Nat → Nat) (x : Int32) (hn : n ≤ 9) (hd : d ≤ 7) (ht : t < 512) (hal : al < 128) (hday : day < 2 ^ 30) (gnd : ∀ i, nd i < 512) (gkn : ∀ j, kn j < 512) (gK : ∀ j, K j < 8) (gF : ∀ j, F j < 10) (hb9 : okI x n = false) : Met l yX12_isSentence wsX12_isSentence ({ frames := 1, cells := 0, slots := 0, locals := 25 }) (pcR dC dI cI cD cR [.ref y, .int x] (fun H => va_P (dC, dI) vwCl ([(y, .inr (12, [.ref as, .ref ai, .ref ar, .ref am, .ref ak, .ref ao, .ref az, .ref ae, .ref aq, .ref af, .int (bI hi), .int th, .int (nI po), .int (nI ba), .int (nI en), .ref an, .ref aw, .ref ax, .ref ap, .int se]))] ++ [(as, .inl (cI, 53, .inl (sF n d t day al nd bb oo K F kn)))]) H)) (vp_Si (fun r => r = bI false)) 0 0 (fun _ => False) := by
  refine Met.ofW (cc := cX12_isSentence) (maxL := 2) (ret := (some .boolean)) (by decide) rfl ?_
  intro p e s m args below meth c s₁ B hml hv
  obtain ⟨rfl, hH0, hCX⟩ := hv
  have hx := B.exec
  have hb := B.bytes
  have hr := B.returns
  have hts := atoms_spec (ws := wsX12_isSentence) B.pre
  have hown : s.vm.findClass RX12 = some m.cls := findClass_of_methodNamed B.named
  have hlocks := B.notSynchronized
  have hK := hCX.1
  have hP := hH0
  have hl := lv_entry ([.ref y, .int x]) (n := 2) (Nat.le_of_ble_eq_true rfl)
  rw [lg_entry_eq]
  generalize (lg_sl ([.ref y, .int x]) ++ List.replicate (2 - (lg_sl ([.ref y, .int x])).length) Slot.unset).toArray = ls at hl ⊢
  have hl : lv_has ls 2 [(0, .ref y), (1, .int x)] := hl
  refine lv_iload_n hx hb dX12_isSentence_0 rfl (lv_at hl 1 rfl) ?_
  refine lv_i2l (v := (x).toInt64) hx hb dX12_isSentence_1 rfl ?_
  refine lv_lconst (v := lN 0) hx hb dX12_isSentence_2 (by decide +kernel) ?_
  refine lv_aload_n hx hb dX12_isSentence_3 rfl (lv_at hl 0 rfl) ?_
  refine va_get (D := (dC, dI)) (ci := 12) (v := .ref as) (C := RX12) (T := TX12) (N := 20) hx hb hts (fun _ h => List.mem_cons_of_mem _ (List.mem_append_right _ h)) hown hK hP 0 rfl rfl 0 (by decide) (hts (.fieldLink RX12 9 "HoldsOnceDeniedModel" "s" "[I") (by decide +kernel)) (fun _ h9 => h9) rfl dX12_isSentence_4 ?_
  refine lv_iconst (v := nI 0) hx hb dX12_isSentence_7 (by decide +kernel) ?_
  refine ho_iald (v := nI n) hx hb hK hP 1 0 rfl rfl (by omega) (by first | decide | omega) rfl dX12_isSentence_8 ?_
  refine lv_iconst (v := nI 1) hx hb dX12_isSentence_9 (by decide +kernel) ?_
  refine lv_isub hx hb dX12_isSentence_10 ?_
  refine lv_i2l (v := ((nI n - nI 1)).toInt64) hx hb dX12_isSentence_11 rfl ?_
  refine vp_callSi ((va_runS (As := [.long ((x).toInt64), .long (lN 0), .long (((nI n - nI 1)).toInt64)]) (rest := []) ⟨hx, hb, hml, hown, hts⟩ (c_X12_isIn l dC dI cI cD cR ((x).toInt64) (lN 0) (((nI n - nI 1)).toInt64)) (va_cwS 3 hts gX12_isSentence_X12_isIn rfl rfl rfl (by decide +kernel) ⟨Nat.le_of_ble_eq_true rfl, Nat.le_of_ble_eq_true rfl⟩) (preS_R hCX (trivial)) rfl rfl hl.1 rfl (lv_room (Nat.le_of_ble_eq_true rfl)) dX12_isSentence_12 ⟨Nat.le_of_ble_eq_true (by first | rfl | decide), Nat.le_of_ble_eq_true (by first | rfl | decide)⟩).run) (fun r_12 hr_12 => ?_)
  subst hr_12
  exact W.zret (v := bI (inB ((x).toInt64) (lN 0) (((nI n - nI 1)).toInt64))) hx hb hr (bI_nar _) (fun T9 hT9 hW9 => ⟨_, rfl, (congrArg bI (by exact (inB_m x (by omega)).trans hb9)), hT9⟩) (fun q h => by cases h) dX12_isSentence_15
set_option maxHeartbeats 4000000 in
set_option maxRecDepth 100000 in
theorem c_X12_isSentence_t (l : Launch) (dC : Nat → ClassId) (dI : Nat → Nat → Nat) (cI cD cR : ClassId) (y as ai ar am ak ao az ae aq af : Nat) (hi : Bool) (th : Int32) (po ba en an aw ax ap : Nat) (se : Int32) (n d t day al : Nat) (nd : Nat → Nat) (bb oo : Nat → Int32) (K F kn : Nat → Nat) (x : Nat) (hn : n ≤ 9) (hd : d ≤ 7) (ht : t < 512) (hal : al < 128) (hday : day < 2 ^ 30) (gnd : ∀ i, nd i < 512) (gkn : ∀ j, kn j < 512) (gK : ∀ j, K j < 8) (gF : ∀ j, F j < 10) (hx9 : x < n) : Met l yX12_isSentence wsX12_isSentence ({ frames := 1, cells := 0, slots := 0, locals := 25 }) (pcR dC dI cI cD cR [.ref y, .int (nI x)] (fun H => va_P (dC, dI) vwCl ([(y, .inr (12, [.ref as, .ref ai, .ref ar, .ref am, .ref ak, .ref ao, .ref az, .ref ae, .ref aq, .ref af, .int (bI hi), .int th, .int (nI po), .int (nI ba), .int (nI en), .ref an, .ref aw, .ref ax, .ref ap, .int se]))] ++ [(as, .inl (cI, 53, .inl (sF n d t day al nd bb oo K F kn)))]) H)) (vp_Si (fun r => r = bI true)) 0 0 (fun _ => False) := by
  refine Met.ofW (cc := cX12_isSentence) (maxL := 2) (ret := (some .boolean)) (by decide) rfl ?_
  intro p e s m args below meth c s₁ B hml hv
  obtain ⟨rfl, hH0, hCX⟩ := hv
  have hx := B.exec
  have hb := B.bytes
  have hr := B.returns
  have hts := atoms_spec (ws := wsX12_isSentence) B.pre
  have hown : s.vm.findClass RX12 = some m.cls := findClass_of_methodNamed B.named
  have hlocks := B.notSynchronized
  have hK := hCX.1
  have hP := hH0
  have hl := lv_entry ([.ref y, .int (nI x)]) (n := 2) (Nat.le_of_ble_eq_true rfl)
  rw [lg_entry_eq]
  generalize (lg_sl ([.ref y, .int (nI x)]) ++ List.replicate (2 - (lg_sl ([.ref y, .int (nI x)])).length) Slot.unset).toArray = ls at hl ⊢
  have hl : lv_has ls 2 [(0, .ref y), (1, .int (nI x))] := hl
  refine lv_iload_n hx hb dX12_isSentence_0 rfl (lv_at hl 1 rfl) ?_
  refine lv_i2l (v := lN x) hx hb dX12_isSentence_1 (nI_l (by omega)) ?_
  refine lv_lconst (v := lN 0) hx hb dX12_isSentence_2 (by decide +kernel) ?_
  refine lv_aload_n hx hb dX12_isSentence_3 rfl (lv_at hl 0 rfl) ?_
  refine va_get (D := (dC, dI)) (ci := 12) (v := .ref as) (C := RX12) (T := TX12) (N := 20) hx hb hts (fun _ h => List.mem_cons_of_mem _ (List.mem_append_right _ h)) hown hK hP 0 rfl rfl 0 (by decide) (hts (.fieldLink RX12 9 "HoldsOnceDeniedModel" "s" "[I") (by decide +kernel)) (fun _ h9 => h9) rfl dX12_isSentence_4 ?_
  refine lv_iconst (v := nI 0) hx hb dX12_isSentence_7 (by decide +kernel) ?_
  refine ho_iald (v := nI n) hx hb hK hP 1 0 rfl rfl (by omega) (by first | decide | omega) rfl dX12_isSentence_8 ?_
  refine lv_iconst (v := nI 1) hx hb dX12_isSentence_9 (by decide +kernel) ?_
  refine lv_isub hx hb dX12_isSentence_10 ?_
  refine lv_i2l (v := ((nI n - nI 1)).toInt64) hx hb dX12_isSentence_11 rfl ?_
  refine vp_callSi ((va_runS (As := [.long (lN x), .long (lN 0), .long (((nI n - nI 1)).toInt64)]) (rest := []) ⟨hx, hb, hml, hown, hts⟩ (c_X12_isIn l dC dI cI cD cR (lN x) (lN 0) (((nI n - nI 1)).toInt64)) (va_cwS 3 hts gX12_isSentence_X12_isIn rfl rfl rfl (by decide +kernel) ⟨Nat.le_of_ble_eq_true rfl, Nat.le_of_ble_eq_true rfl⟩) (preS_R hCX (trivial)) rfl rfl hl.1 rfl (lv_room (Nat.le_of_ble_eq_true rfl)) dX12_isSentence_12 ⟨Nat.le_of_ble_eq_true (by first | rfl | decide), Nat.le_of_ble_eq_true (by first | rfl | decide)⟩).run) (fun r_12 hr_12 => ?_)
  subst hr_12
  exact W.zret (v := bI (inB (lN x) (lN 0) (((nI n - nI 1)).toInt64))) hx hb hr (bI_nar _) (fun T9 hT9 hW9 => ⟨_, rfl, (congrArg bI (by exact inB_mt hx9 (by omega))), hT9⟩) (fun q h => by cases h) dX12_isSentence_15
set_option maxHeartbeats 4000000 in
set_option maxRecDepth 100000 in
theorem c_X12_isDenier_r (l : Launch) (dC : Nat → ClassId) (dI : Nat → Nat → Nat) (cI cD cR : ClassId) (y as ai ar am ak ao az ae aq af : Nat) (hi : Bool) (th : Int32) (po ba en an aw ax ap : Nat) (se : Int32) (n d t day al : Nat) (nd : Nat → Nat) (bb oo : Nat → Int32) (K F kn : Nat → Nat) (x : Int32) (hn : n ≤ 9) (hd : d ≤ 7) (ht : t < 512) (hal : al < 128) (hday : day < 2 ^ 30) (gnd : ∀ i, nd i < 512) (gkn : ∀ j, kn j < 512) (gK : ∀ j, K j < 8) (gF : ∀ j, F j < 10) : Met l yX12_isDenier wsX12_isDenier ({ frames := 1, cells := 0, slots := 0, locals := 25 }) (pcR dC dI cI cD cR [.ref y, .int x] (fun H => va_P (dC, dI) vwCl ([(y, .inr (12, [.ref as, .ref ai, .ref ar, .ref am, .ref ak, .ref ao, .ref az, .ref ae, .ref aq, .ref af, .int (bI hi), .int th, .int (nI po), .int (nI ba), .int (nI en), .ref an, .ref aw, .ref ax, .ref ap, .int se]))] ++ [(as, .inl (cI, 53, .inl (sF n d t day al nd bb oo K F kn)))]) H)) (vp_Si (fun r => r = bI (okI x d))) 0 0 (fun _ => False) := by
  refine Met.ofW (cc := cX12_isDenier) (maxL := 2) (ret := (some .boolean)) (by decide) rfl ?_
  intro p e s m args below meth c s₁ B hml hv
  obtain ⟨rfl, hH0, hCX⟩ := hv
  have hx := B.exec
  have hb := B.bytes
  have hr := B.returns
  have hts := atoms_spec (ws := wsX12_isDenier) B.pre
  have hown : s.vm.findClass RX12 = some m.cls := findClass_of_methodNamed B.named
  have hlocks := B.notSynchronized
  have hK := hCX.1
  have hP := hH0
  have hl := lv_entry ([.ref y, .int x]) (n := 2) (Nat.le_of_ble_eq_true rfl)
  rw [lg_entry_eq]
  generalize (lg_sl ([.ref y, .int x]) ++ List.replicate (2 - (lg_sl ([.ref y, .int x])).length) Slot.unset).toArray = ls at hl ⊢
  have hl : lv_has ls 2 [(0, .ref y), (1, .int x)] := hl
  refine lv_iload_n hx hb dX12_isDenier_0 rfl (lv_at hl 1 rfl) ?_
  refine lv_i2l (v := (x).toInt64) hx hb dX12_isDenier_1 rfl ?_
  refine lv_lconst (v := lN 0) hx hb dX12_isDenier_2 (by decide +kernel) ?_
  refine lv_aload_n hx hb dX12_isDenier_3 rfl (lv_at hl 0 rfl) ?_
  refine va_get (D := (dC, dI)) (ci := 12) (v := .ref as) (C := RX12) (T := TX12) (N := 20) hx hb hts (fun _ h => List.mem_cons_of_mem _ (List.mem_append_right _ h)) hown hK hP 0 rfl rfl 0 (by decide) (hts (.fieldLink RX12 9 "HoldsOnceDeniedModel" "s" "[I") (by decide +kernel)) (fun _ h9 => h9) rfl dX12_isDenier_4 ?_
  refine lv_iconst (v := nI 1) hx hb dX12_isDenier_7 (by decide +kernel) ?_
  refine ho_iald (v := nI d) hx hb hK hP 1 0 rfl rfl (by omega) (by first | decide | omega) rfl dX12_isDenier_8 ?_
  refine lv_iconst (v := nI 1) hx hb dX12_isDenier_9 (by decide +kernel) ?_
  refine lv_isub hx hb dX12_isDenier_10 ?_
  refine lv_i2l (v := ((nI d - nI 1)).toInt64) hx hb dX12_isDenier_11 rfl ?_
  refine vp_callSi ((va_runS (As := [.long ((x).toInt64), .long (lN 0), .long (((nI d - nI 1)).toInt64)]) (rest := []) ⟨hx, hb, hml, hown, hts⟩ (c_X12_isIn l dC dI cI cD cR ((x).toInt64) (lN 0) (((nI d - nI 1)).toInt64)) (va_cwS 3 hts gX12_isDenier_X12_isIn rfl rfl rfl (by decide +kernel) ⟨Nat.le_of_ble_eq_true rfl, Nat.le_of_ble_eq_true rfl⟩) (preS_R hCX (trivial)) rfl rfl hl.1 rfl (lv_room (Nat.le_of_ble_eq_true rfl)) dX12_isDenier_12 ⟨Nat.le_of_ble_eq_true (by first | rfl | decide), Nat.le_of_ble_eq_true (by first | rfl | decide)⟩).run) (fun r_12 hr_12 => ?_)
  subst hr_12
  exact W.zret (v := bI (inB ((x).toInt64) (lN 0) (((nI d - nI 1)).toInt64))) hx hb hr (bI_nar _) (fun T9 hT9 hW9 => ⟨_, rfl, (congrArg bI (by exact inB_m x (by omega))), hT9⟩) (fun q h => by cases h) dX12_isDenier_15
set_option maxHeartbeats 4000000 in
set_option maxRecDepth 100000 in
theorem c_X12_isDenier_f (l : Launch) (dC : Nat → ClassId) (dI : Nat → Nat → Nat) (cI cD cR : ClassId) (y as ai ar am ak ao az ae aq af : Nat) (hi : Bool) (th : Int32) (po ba en an aw ax ap : Nat) (se : Int32) (n d t day al : Nat) (nd : Nat → Nat) (bb oo : Nat → Int32) (K F kn : Nat → Nat) (x : Int32) (hn : n ≤ 9) (hd : d ≤ 7) (ht : t < 512) (hal : al < 128) (hday : day < 2 ^ 30) (gnd : ∀ i, nd i < 512) (gkn : ∀ j, kn j < 512) (gK : ∀ j, K j < 8) (gF : ∀ j, F j < 10) (hb9 : okI x d = false) : Met l yX12_isDenier wsX12_isDenier ({ frames := 1, cells := 0, slots := 0, locals := 25 }) (pcR dC dI cI cD cR [.ref y, .int x] (fun H => va_P (dC, dI) vwCl ([(y, .inr (12, [.ref as, .ref ai, .ref ar, .ref am, .ref ak, .ref ao, .ref az, .ref ae, .ref aq, .ref af, .int (bI hi), .int th, .int (nI po), .int (nI ba), .int (nI en), .ref an, .ref aw, .ref ax, .ref ap, .int se]))] ++ [(as, .inl (cI, 53, .inl (sF n d t day al nd bb oo K F kn)))]) H)) (vp_Si (fun r => r = bI false)) 0 0 (fun _ => False) := by
  refine Met.ofW (cc := cX12_isDenier) (maxL := 2) (ret := (some .boolean)) (by decide) rfl ?_
  intro p e s m args below meth c s₁ B hml hv
  obtain ⟨rfl, hH0, hCX⟩ := hv
  have hx := B.exec
  have hb := B.bytes
  have hr := B.returns
  have hts := atoms_spec (ws := wsX12_isDenier) B.pre
  have hown : s.vm.findClass RX12 = some m.cls := findClass_of_methodNamed B.named
  have hlocks := B.notSynchronized
  have hK := hCX.1
  have hP := hH0
  have hl := lv_entry ([.ref y, .int x]) (n := 2) (Nat.le_of_ble_eq_true rfl)
  rw [lg_entry_eq]
  generalize (lg_sl ([.ref y, .int x]) ++ List.replicate (2 - (lg_sl ([.ref y, .int x])).length) Slot.unset).toArray = ls at hl ⊢
  have hl : lv_has ls 2 [(0, .ref y), (1, .int x)] := hl
  refine lv_iload_n hx hb dX12_isDenier_0 rfl (lv_at hl 1 rfl) ?_
  refine lv_i2l (v := (x).toInt64) hx hb dX12_isDenier_1 rfl ?_
  refine lv_lconst (v := lN 0) hx hb dX12_isDenier_2 (by decide +kernel) ?_
  refine lv_aload_n hx hb dX12_isDenier_3 rfl (lv_at hl 0 rfl) ?_
  refine va_get (D := (dC, dI)) (ci := 12) (v := .ref as) (C := RX12) (T := TX12) (N := 20) hx hb hts (fun _ h => List.mem_cons_of_mem _ (List.mem_append_right _ h)) hown hK hP 0 rfl rfl 0 (by decide) (hts (.fieldLink RX12 9 "HoldsOnceDeniedModel" "s" "[I") (by decide +kernel)) (fun _ h9 => h9) rfl dX12_isDenier_4 ?_
  refine lv_iconst (v := nI 1) hx hb dX12_isDenier_7 (by decide +kernel) ?_
  refine ho_iald (v := nI d) hx hb hK hP 1 0 rfl rfl (by omega) (by first | decide | omega) rfl dX12_isDenier_8 ?_
  refine lv_iconst (v := nI 1) hx hb dX12_isDenier_9 (by decide +kernel) ?_
  refine lv_isub hx hb dX12_isDenier_10 ?_
  refine lv_i2l (v := ((nI d - nI 1)).toInt64) hx hb dX12_isDenier_11 rfl ?_
  refine vp_callSi ((va_runS (As := [.long ((x).toInt64), .long (lN 0), .long (((nI d - nI 1)).toInt64)]) (rest := []) ⟨hx, hb, hml, hown, hts⟩ (c_X12_isIn l dC dI cI cD cR ((x).toInt64) (lN 0) (((nI d - nI 1)).toInt64)) (va_cwS 3 hts gX12_isDenier_X12_isIn rfl rfl rfl (by decide +kernel) ⟨Nat.le_of_ble_eq_true rfl, Nat.le_of_ble_eq_true rfl⟩) (preS_R hCX (trivial)) rfl rfl hl.1 rfl (lv_room (Nat.le_of_ble_eq_true rfl)) dX12_isDenier_12 ⟨Nat.le_of_ble_eq_true (by first | rfl | decide), Nat.le_of_ble_eq_true (by first | rfl | decide)⟩).run) (fun r_12 hr_12 => ?_)
  subst hr_12
  exact W.zret (v := bI (inB ((x).toInt64) (lN 0) (((nI d - nI 1)).toInt64))) hx hb hr (bI_nar _) (fun T9 hT9 hW9 => ⟨_, rfl, (congrArg bI (by exact (inB_m x (by omega)).trans hb9)), hT9⟩) (fun q h => by cases h) dX12_isDenier_15
set_option maxHeartbeats 4000000 in
set_option maxRecDepth 100000 in
theorem c_X12_isDenier_t (l : Launch) (dC : Nat → ClassId) (dI : Nat → Nat → Nat) (cI cD cR : ClassId) (y as ai ar am ak ao az ae aq af : Nat) (hi : Bool) (th : Int32) (po ba en an aw ax ap : Nat) (se : Int32) (n d t day al : Nat) (nd : Nat → Nat) (bb oo : Nat → Int32) (K F kn : Nat → Nat) (x : Nat) (hn : n ≤ 9) (hd : d ≤ 7) (ht : t < 512) (hal : al < 128) (hday : day < 2 ^ 30) (gnd : ∀ i, nd i < 512) (gkn : ∀ j, kn j < 512) (gK : ∀ j, K j < 8) (gF : ∀ j, F j < 10) (hx9 : x < d) : Met l yX12_isDenier wsX12_isDenier ({ frames := 1, cells := 0, slots := 0, locals := 25 }) (pcR dC dI cI cD cR [.ref y, .int (nI x)] (fun H => va_P (dC, dI) vwCl ([(y, .inr (12, [.ref as, .ref ai, .ref ar, .ref am, .ref ak, .ref ao, .ref az, .ref ae, .ref aq, .ref af, .int (bI hi), .int th, .int (nI po), .int (nI ba), .int (nI en), .ref an, .ref aw, .ref ax, .ref ap, .int se]))] ++ [(as, .inl (cI, 53, .inl (sF n d t day al nd bb oo K F kn)))]) H)) (vp_Si (fun r => r = bI true)) 0 0 (fun _ => False) := by
  refine Met.ofW (cc := cX12_isDenier) (maxL := 2) (ret := (some .boolean)) (by decide) rfl ?_
  intro p e s m args below meth c s₁ B hml hv
  obtain ⟨rfl, hH0, hCX⟩ := hv
  have hx := B.exec
  have hb := B.bytes
  have hr := B.returns
  have hts := atoms_spec (ws := wsX12_isDenier) B.pre
  have hown : s.vm.findClass RX12 = some m.cls := findClass_of_methodNamed B.named
  have hlocks := B.notSynchronized
  have hK := hCX.1
  have hP := hH0
  have hl := lv_entry ([.ref y, .int (nI x)]) (n := 2) (Nat.le_of_ble_eq_true rfl)
  rw [lg_entry_eq]
  generalize (lg_sl ([.ref y, .int (nI x)]) ++ List.replicate (2 - (lg_sl ([.ref y, .int (nI x)])).length) Slot.unset).toArray = ls at hl ⊢
  have hl : lv_has ls 2 [(0, .ref y), (1, .int (nI x))] := hl
  refine lv_iload_n hx hb dX12_isDenier_0 rfl (lv_at hl 1 rfl) ?_
  refine lv_i2l (v := lN x) hx hb dX12_isDenier_1 (nI_l (by omega)) ?_
  refine lv_lconst (v := lN 0) hx hb dX12_isDenier_2 (by decide +kernel) ?_
  refine lv_aload_n hx hb dX12_isDenier_3 rfl (lv_at hl 0 rfl) ?_
  refine va_get (D := (dC, dI)) (ci := 12) (v := .ref as) (C := RX12) (T := TX12) (N := 20) hx hb hts (fun _ h => List.mem_cons_of_mem _ (List.mem_append_right _ h)) hown hK hP 0 rfl rfl 0 (by decide) (hts (.fieldLink RX12 9 "HoldsOnceDeniedModel" "s" "[I") (by decide +kernel)) (fun _ h9 => h9) rfl dX12_isDenier_4 ?_
  refine lv_iconst (v := nI 1) hx hb dX12_isDenier_7 (by decide +kernel) ?_
  refine ho_iald (v := nI d) hx hb hK hP 1 0 rfl rfl (by omega) (by first | decide | omega) rfl dX12_isDenier_8 ?_
  refine lv_iconst (v := nI 1) hx hb dX12_isDenier_9 (by decide +kernel) ?_
  refine lv_isub hx hb dX12_isDenier_10 ?_
  refine lv_i2l (v := ((nI d - nI 1)).toInt64) hx hb dX12_isDenier_11 rfl ?_
  refine vp_callSi ((va_runS (As := [.long (lN x), .long (lN 0), .long (((nI d - nI 1)).toInt64)]) (rest := []) ⟨hx, hb, hml, hown, hts⟩ (c_X12_isIn l dC dI cI cD cR (lN x) (lN 0) (((nI d - nI 1)).toInt64)) (va_cwS 3 hts gX12_isDenier_X12_isIn rfl rfl rfl (by decide +kernel) ⟨Nat.le_of_ble_eq_true rfl, Nat.le_of_ble_eq_true rfl⟩) (preS_R hCX (trivial)) rfl rfl hl.1 rfl (lv_room (Nat.le_of_ble_eq_true rfl)) dX12_isDenier_12 ⟨Nat.le_of_ble_eq_true (by first | rfl | decide), Nat.le_of_ble_eq_true (by first | rfl | decide)⟩).run) (fun r_12 hr_12 => ?_)
  subst hr_12
  exact W.zret (v := bI (inB (lN x) (lN 0) (((nI d - nI 1)).toInt64))) hx hb hr (bI_nar _) (fun T9 hT9 hW9 => ⟨_, rfl, (congrArg bI (by exact inB_mt hx9 (by omega))), hT9⟩) (fun q h => by cases h) dX12_isDenier_15
set_option maxHeartbeats 4000000 in
set_option maxRecDepth 100000 in
theorem c_X12_of_0 (l : Launch) (dC : Nat → ClassId) (dI : Nat → Nat → Nat) (cI cD cR : ClassId) (y as ai ar am ak ao az ae aq af : Nat) (hi : Bool) (th : Int32) (po ba en an aw ax ap : Nat) (se : Int32) (n d t day al : Nat) (nd : Nat → Nat) (bb oo : Nat → Int32) (K F kn : Nat → Nat) (i : Nat) (hn : n ≤ 9) (hd : d ≤ 7) (ht : t < 512) (hal : al < 128) (hday : day < 2 ^ 30) (gnd : ∀ i, nd i < 512) (gkn : ∀ j, kn j < 512) (gK : ∀ j, K j < 8) (gF : ∀ j, F j < 10) (hi9 : i < 9) : Met l yX12_of wsX12_of ({ frames := 0, cells := 0, slots := 0, locals := 0 }) (pcR dC dI cI cD cR [.ref y, .int (nI i), .int (nI 0)] (fun H => va_P (dC, dI) vwCl ([(y, .inr (12, [.ref as, .ref ai, .ref ar, .ref am, .ref ak, .ref ao, .ref az, .ref ae, .ref aq, .ref af, .int (bI hi), .int th, .int (nI po), .int (nI ba), .int (nI en), .ref an, .ref aw, .ref ax, .ref ap, .int se]))] ++ [(as, .inl (cI, 53, .inl (sF n d t day al nd bb oo K F kn)))]) H)) (vp_Si (fun r => r = nI (nd i))) 0 0 (fun _ => False) := by
  refine Met.ofW (cc := cX12_of) (maxL := 3) (ret := (some .int)) (by decide) rfl ?_
  intro p e s m args below meth c s₁ B hml hv
  obtain ⟨rfl, hH0, hCX⟩ := hv
  have hx := B.exec
  have hb := B.bytes
  have hr := B.returns
  have hts := atoms_spec (ws := wsX12_of) B.pre
  have hown : s.vm.findClass RX12 = some m.cls := findClass_of_methodNamed B.named
  have hlocks := B.notSynchronized
  have hK := hCX.1
  have hP := hH0
  have hl := lv_entry ([.ref y, .int (nI i), .int (nI 0)]) (n := 3) (Nat.le_of_ble_eq_true rfl)
  rw [lg_entry_eq]
  generalize (lg_sl ([.ref y, .int (nI i), .int (nI 0)]) ++ List.replicate (3 - (lg_sl ([.ref y, .int (nI i), .int (nI 0)])).length) Slot.unset).toArray = ls at hl ⊢
  have hl : lv_has ls 3 [(0, .ref y), (1, .int (nI i)), (2, .int (nI 0))] := hl
  refine lv_aload_n hx hb dX12_of_0 rfl (lv_at hl 0 rfl) ?_
  refine va_get (D := (dC, dI)) (ci := 12) (v := .ref as) (C := RX12) (T := TX12) (N := 20) hx hb hts (fun _ h => List.mem_cons_of_mem _ (List.mem_append_right _ h)) hown hK hP 0 rfl rfl 0 (by decide) (hts (.fieldLink RX12 9 "HoldsOnceDeniedModel" "s" "[I") (by decide +kernel)) (fun _ h9 => h9) rfl dX12_of_1 ?_
  refine lv_iconst (v := nI 5) hx hb dX12_of_4 (by decide +kernel) ?_
  refine lv_iconst (v := nI 3) hx hb dX12_of_5 (by decide +kernel) ?_
  refine lv_iload_n hx hb dX12_of_6 rfl (lv_at hl 1 rfl) ?_
  refine ho_imul hx hb dX12_of_7 ?_
  refine ho_iadd hx hb dX12_of_8 ?_
  refine lv_iload_n hx hb dX12_of_9 rfl (lv_at hl 2 rfl) ?_
  refine ho_iadd hx hb dX12_of_10 ?_
  refine ho_iald (v := nI (nd i)) hx hb hK hP 1 0 rfl rfl (by omega) (by first | decide | omega) (sF_n0 (by omega)) dX12_of_11 ?_
  exact W.iret (v := nI (nd i)) hx hb hr (fun T9 hT9 hW9 => ⟨_, rfl, rfl, hT9⟩) (fun q h => by cases h) dX12_of_12
set_option maxHeartbeats 4000000 in
set_option maxRecDepth 100000 in
theorem c_X12_of_1 (l : Launch) (dC : Nat → ClassId) (dI : Nat → Nat → Nat) (cI cD cR : ClassId) (y as ai ar am ak ao az ae aq af : Nat) (hi : Bool) (th : Int32) (po ba en an aw ax ap : Nat) (se : Int32) (n d t day al : Nat) (nd : Nat → Nat) (bb oo : Nat → Int32) (K F kn : Nat → Nat) (i : Nat) (hn : n ≤ 9) (hd : d ≤ 7) (ht : t < 512) (hal : al < 128) (hday : day < 2 ^ 30) (gnd : ∀ i, nd i < 512) (gkn : ∀ j, kn j < 512) (gK : ∀ j, K j < 8) (gF : ∀ j, F j < 10) (hi9 : i < 9) : Met l yX12_of wsX12_of ({ frames := 0, cells := 0, slots := 0, locals := 0 }) (pcR dC dI cI cD cR [.ref y, .int (nI i), .int (nI 1)] (fun H => va_P (dC, dI) vwCl ([(y, .inr (12, [.ref as, .ref ai, .ref ar, .ref am, .ref ak, .ref ao, .ref az, .ref ae, .ref aq, .ref af, .int (bI hi), .int th, .int (nI po), .int (nI ba), .int (nI en), .ref an, .ref aw, .ref ax, .ref ap, .int se]))] ++ [(as, .inl (cI, 53, .inl (sF n d t day al nd bb oo K F kn)))]) H)) (vp_Si (fun r => r = (bb i))) 0 0 (fun _ => False) := by
  refine Met.ofW (cc := cX12_of) (maxL := 3) (ret := (some .int)) (by decide) rfl ?_
  intro p e s m args below meth c s₁ B hml hv
  obtain ⟨rfl, hH0, hCX⟩ := hv
  have hx := B.exec
  have hb := B.bytes
  have hr := B.returns
  have hts := atoms_spec (ws := wsX12_of) B.pre
  have hown : s.vm.findClass RX12 = some m.cls := findClass_of_methodNamed B.named
  have hlocks := B.notSynchronized
  have hK := hCX.1
  have hP := hH0
  have hl := lv_entry ([.ref y, .int (nI i), .int (nI 1)]) (n := 3) (Nat.le_of_ble_eq_true rfl)
  rw [lg_entry_eq]
  generalize (lg_sl ([.ref y, .int (nI i), .int (nI 1)]) ++ List.replicate (3 - (lg_sl ([.ref y, .int (nI i), .int (nI 1)])).length) Slot.unset).toArray = ls at hl ⊢
  have hl : lv_has ls 3 [(0, .ref y), (1, .int (nI i)), (2, .int (nI 1))] := hl
  refine lv_aload_n hx hb dX12_of_0 rfl (lv_at hl 0 rfl) ?_
  refine va_get (D := (dC, dI)) (ci := 12) (v := .ref as) (C := RX12) (T := TX12) (N := 20) hx hb hts (fun _ h => List.mem_cons_of_mem _ (List.mem_append_right _ h)) hown hK hP 0 rfl rfl 0 (by decide) (hts (.fieldLink RX12 9 "HoldsOnceDeniedModel" "s" "[I") (by decide +kernel)) (fun _ h9 => h9) rfl dX12_of_1 ?_
  refine lv_iconst (v := nI 5) hx hb dX12_of_4 (by decide +kernel) ?_
  refine lv_iconst (v := nI 3) hx hb dX12_of_5 (by decide +kernel) ?_
  refine lv_iload_n hx hb dX12_of_6 rfl (lv_at hl 1 rfl) ?_
  refine ho_imul hx hb dX12_of_7 ?_
  refine ho_iadd hx hb dX12_of_8 ?_
  refine lv_iload_n hx hb dX12_of_9 rfl (lv_at hl 2 rfl) ?_
  refine ho_iadd hx hb dX12_of_10 ?_
  refine ho_iald (v := (bb i)) hx hb hK hP 1 0 rfl rfl (by omega) (by first | decide | omega) (sF_n1 (by omega)) dX12_of_11 ?_
  exact W.iret (v := (bb i)) hx hb hr (fun T9 hT9 hW9 => ⟨_, rfl, rfl, hT9⟩) (fun q h => by cases h) dX12_of_12
set_option maxHeartbeats 4000000 in
set_option maxRecDepth 100000 in
theorem c_X12_of_2 (l : Launch) (dC : Nat → ClassId) (dI : Nat → Nat → Nat) (cI cD cR : ClassId) (y as ai ar am ak ao az ae aq af : Nat) (hi : Bool) (th : Int32) (po ba en an aw ax ap : Nat) (se : Int32) (n d t day al : Nat) (nd : Nat → Nat) (bb oo : Nat → Int32) (K F kn : Nat → Nat) (i : Nat) (hn : n ≤ 9) (hd : d ≤ 7) (ht : t < 512) (hal : al < 128) (hday : day < 2 ^ 30) (gnd : ∀ i, nd i < 512) (gkn : ∀ j, kn j < 512) (gK : ∀ j, K j < 8) (gF : ∀ j, F j < 10) (hi9 : i < 9) : Met l yX12_of wsX12_of ({ frames := 0, cells := 0, slots := 0, locals := 0 }) (pcR dC dI cI cD cR [.ref y, .int (nI i), .int (nI 2)] (fun H => va_P (dC, dI) vwCl ([(y, .inr (12, [.ref as, .ref ai, .ref ar, .ref am, .ref ak, .ref ao, .ref az, .ref ae, .ref aq, .ref af, .int (bI hi), .int th, .int (nI po), .int (nI ba), .int (nI en), .ref an, .ref aw, .ref ax, .ref ap, .int se]))] ++ [(as, .inl (cI, 53, .inl (sF n d t day al nd bb oo K F kn)))]) H)) (vp_Si (fun r => r = (oo i))) 0 0 (fun _ => False) := by
  refine Met.ofW (cc := cX12_of) (maxL := 3) (ret := (some .int)) (by decide) rfl ?_
  intro p e s m args below meth c s₁ B hml hv
  obtain ⟨rfl, hH0, hCX⟩ := hv
  have hx := B.exec
  have hb := B.bytes
  have hr := B.returns
  have hts := atoms_spec (ws := wsX12_of) B.pre
  have hown : s.vm.findClass RX12 = some m.cls := findClass_of_methodNamed B.named
  have hlocks := B.notSynchronized
  have hK := hCX.1
  have hP := hH0
  have hl := lv_entry ([.ref y, .int (nI i), .int (nI 2)]) (n := 3) (Nat.le_of_ble_eq_true rfl)
  rw [lg_entry_eq]
  generalize (lg_sl ([.ref y, .int (nI i), .int (nI 2)]) ++ List.replicate (3 - (lg_sl ([.ref y, .int (nI i), .int (nI 2)])).length) Slot.unset).toArray = ls at hl ⊢
  have hl : lv_has ls 3 [(0, .ref y), (1, .int (nI i)), (2, .int (nI 2))] := hl
  refine lv_aload_n hx hb dX12_of_0 rfl (lv_at hl 0 rfl) ?_
  refine va_get (D := (dC, dI)) (ci := 12) (v := .ref as) (C := RX12) (T := TX12) (N := 20) hx hb hts (fun _ h => List.mem_cons_of_mem _ (List.mem_append_right _ h)) hown hK hP 0 rfl rfl 0 (by decide) (hts (.fieldLink RX12 9 "HoldsOnceDeniedModel" "s" "[I") (by decide +kernel)) (fun _ h9 => h9) rfl dX12_of_1 ?_
  refine lv_iconst (v := nI 5) hx hb dX12_of_4 (by decide +kernel) ?_
  refine lv_iconst (v := nI 3) hx hb dX12_of_5 (by decide +kernel) ?_
  refine lv_iload_n hx hb dX12_of_6 rfl (lv_at hl 1 rfl) ?_
  refine ho_imul hx hb dX12_of_7 ?_
  refine ho_iadd hx hb dX12_of_8 ?_
  refine lv_iload_n hx hb dX12_of_9 rfl (lv_at hl 2 rfl) ?_
  refine ho_iadd hx hb dX12_of_10 ?_
  refine ho_iald (v := (oo i)) hx hb hK hP 1 0 rfl rfl (by omega) (by first | decide | omega) (sF_n2 (by omega)) dX12_of_11 ?_
  exact W.iret (v := (oo i)) hx hb hr (fun T9 hT9 hW9 => ⟨_, rfl, rfl, hT9⟩) (fun q h => by cases h) dX12_of_12
set_option maxHeartbeats 4000000 in
set_option maxRecDepth 100000 in
theorem c_X12_get_0 (l : Launch) (dC : Nat → ClassId) (dI : Nat → Nat → Nat) (cI cD cR : ClassId) (y as ai ar am ak ao az ae aq af : Nat) (hi : Bool) (th : Int32) (po ba en an aw ax ap : Nat) (se : Int32) (n d t day al : Nat) (nd : Nat → Nat) (bb oo : Nat → Int32) (K F kn : Nat → Nat) (j : Nat) (hn : n ≤ 9) (hd : d ≤ 7) (ht : t < 512) (hal : al < 128) (hday : day < 2 ^ 30) (gnd : ∀ i, nd i < 512) (gkn : ∀ j, kn j < 512) (gK : ∀ j, K j < 8) (gF : ∀ j, F j < 10) (hj9 : j < 7) : Met l yX12_get wsX12_get ({ frames := 0, cells := 0, slots := 0, locals := 0 }) (pcR dC dI cI cD cR [.ref y, .int (nI j), .int (nI 0)] (fun H => va_P (dC, dI) vwCl ([(y, .inr (12, [.ref as, .ref ai, .ref ar, .ref am, .ref ak, .ref ao, .ref az, .ref ae, .ref aq, .ref af, .int (bI hi), .int th, .int (nI po), .int (nI ba), .int (nI en), .ref an, .ref aw, .ref ax, .ref ap, .int se]))] ++ [(as, .inl (cI, 53, .inl (sF n d t day al nd bb oo K F kn)))]) H)) (vp_Si (fun r => r = nI (K j))) 0 0 (fun _ => False) := by
  refine Met.ofW (cc := cX12_get) (maxL := 3) (ret := (some .int)) (by decide) rfl ?_
  intro p e s m args below meth c s₁ B hml hv
  obtain ⟨rfl, hH0, hCX⟩ := hv
  have hx := B.exec
  have hb := B.bytes
  have hr := B.returns
  have hts := atoms_spec (ws := wsX12_get) B.pre
  have hown : s.vm.findClass RX12 = some m.cls := findClass_of_methodNamed B.named
  have hlocks := B.notSynchronized
  have hK := hCX.1
  have hP := hH0
  have hl := lv_entry ([.ref y, .int (nI j), .int (nI 0)]) (n := 3) (Nat.le_of_ble_eq_true rfl)
  rw [lg_entry_eq]
  generalize (lg_sl ([.ref y, .int (nI j), .int (nI 0)]) ++ List.replicate (3 - (lg_sl ([.ref y, .int (nI j), .int (nI 0)])).length) Slot.unset).toArray = ls at hl ⊢
  have hl : lv_has ls 3 [(0, .ref y), (1, .int (nI j)), (2, .int (nI 0))] := hl
  refine lv_aload_n hx hb dX12_get_0 rfl (lv_at hl 0 rfl) ?_
  refine va_get (D := (dC, dI)) (ci := 12) (v := .ref as) (C := RX12) (T := TX12) (N := 20) hx hb hts (fun _ h => List.mem_cons_of_mem _ (List.mem_append_right _ h)) hown hK hP 0 rfl rfl 0 (by decide) (hts (.fieldLink RX12 9 "HoldsOnceDeniedModel" "s" "[I") (by decide +kernel)) (fun _ h9 => h9) rfl dX12_get_1 ?_
  refine lv_bipush (v := nI 32) hx hb dX12_get_4 (by decide +kernel) ?_
  refine lv_iconst (v := nI 3) hx hb dX12_get_6 (by decide +kernel) ?_
  refine lv_iload_n hx hb dX12_get_7 rfl (lv_at hl 1 rfl) ?_
  refine ho_imul hx hb dX12_get_8 ?_
  refine ho_iadd hx hb dX12_get_9 ?_
  refine lv_iload_n hx hb dX12_get_10 rfl (lv_at hl 2 rfl) ?_
  refine ho_iadd hx hb dX12_get_11 ?_
  refine ho_iald (v := nI (K j)) hx hb hK hP 1 0 rfl rfl (by omega) (by first | decide | omega) sF_k0 dX12_get_12 ?_
  exact W.iret (v := nI (K j)) hx hb hr (fun T9 hT9 hW9 => ⟨_, rfl, rfl, hT9⟩) (fun q h => by cases h) dX12_get_13
set_option maxHeartbeats 4000000 in
set_option maxRecDepth 100000 in
theorem c_X12_get_1 (l : Launch) (dC : Nat → ClassId) (dI : Nat → Nat → Nat) (cI cD cR : ClassId) (y as ai ar am ak ao az ae aq af : Nat) (hi : Bool) (th : Int32) (po ba en an aw ax ap : Nat) (se : Int32) (n d t day al : Nat) (nd : Nat → Nat) (bb oo : Nat → Int32) (K F kn : Nat → Nat) (j : Nat) (hn : n ≤ 9) (hd : d ≤ 7) (ht : t < 512) (hal : al < 128) (hday : day < 2 ^ 30) (gnd : ∀ i, nd i < 512) (gkn : ∀ j, kn j < 512) (gK : ∀ j, K j < 8) (gF : ∀ j, F j < 10) (hj9 : j < 7) : Met l yX12_get wsX12_get ({ frames := 0, cells := 0, slots := 0, locals := 0 }) (pcR dC dI cI cD cR [.ref y, .int (nI j), .int (nI 1)] (fun H => va_P (dC, dI) vwCl ([(y, .inr (12, [.ref as, .ref ai, .ref ar, .ref am, .ref ak, .ref ao, .ref az, .ref ae, .ref aq, .ref af, .int (bI hi), .int th, .int (nI po), .int (nI ba), .int (nI en), .ref an, .ref aw, .ref ax, .ref ap, .int se]))] ++ [(as, .inl (cI, 53, .inl (sF n d t day al nd bb oo K F kn)))]) H)) (vp_Si (fun r => r = nI (F j))) 0 0 (fun _ => False) := by
  refine Met.ofW (cc := cX12_get) (maxL := 3) (ret := (some .int)) (by decide) rfl ?_
  intro p e s m args below meth c s₁ B hml hv
  obtain ⟨rfl, hH0, hCX⟩ := hv
  have hx := B.exec
  have hb := B.bytes
  have hr := B.returns
  have hts := atoms_spec (ws := wsX12_get) B.pre
  have hown : s.vm.findClass RX12 = some m.cls := findClass_of_methodNamed B.named
  have hlocks := B.notSynchronized
  have hK := hCX.1
  have hP := hH0
  have hl := lv_entry ([.ref y, .int (nI j), .int (nI 1)]) (n := 3) (Nat.le_of_ble_eq_true rfl)
  rw [lg_entry_eq]
  generalize (lg_sl ([.ref y, .int (nI j), .int (nI 1)]) ++ List.replicate (3 - (lg_sl ([.ref y, .int (nI j), .int (nI 1)])).length) Slot.unset).toArray = ls at hl ⊢
  have hl : lv_has ls 3 [(0, .ref y), (1, .int (nI j)), (2, .int (nI 1))] := hl
  refine lv_aload_n hx hb dX12_get_0 rfl (lv_at hl 0 rfl) ?_
  refine va_get (D := (dC, dI)) (ci := 12) (v := .ref as) (C := RX12) (T := TX12) (N := 20) hx hb hts (fun _ h => List.mem_cons_of_mem _ (List.mem_append_right _ h)) hown hK hP 0 rfl rfl 0 (by decide) (hts (.fieldLink RX12 9 "HoldsOnceDeniedModel" "s" "[I") (by decide +kernel)) (fun _ h9 => h9) rfl dX12_get_1 ?_
  refine lv_bipush (v := nI 32) hx hb dX12_get_4 (by decide +kernel) ?_
  refine lv_iconst (v := nI 3) hx hb dX12_get_6 (by decide +kernel) ?_
  refine lv_iload_n hx hb dX12_get_7 rfl (lv_at hl 1 rfl) ?_
  refine ho_imul hx hb dX12_get_8 ?_
  refine ho_iadd hx hb dX12_get_9 ?_
  refine lv_iload_n hx hb dX12_get_10 rfl (lv_at hl 2 rfl) ?_
  refine ho_iadd hx hb dX12_get_11 ?_
  refine ho_iald (v := nI (F j)) hx hb hK hP 1 0 rfl rfl (by omega) (by first | decide | omega) sF_k1 dX12_get_12 ?_
  exact W.iret (v := nI (F j)) hx hb hr (fun T9 hT9 hW9 => ⟨_, rfl, rfl, hT9⟩) (fun q h => by cases h) dX12_get_13
set_option maxHeartbeats 4000000 in
set_option maxRecDepth 100000 in
theorem c_X12_get_2 (l : Launch) (dC : Nat → ClassId) (dI : Nat → Nat → Nat) (cI cD cR : ClassId) (y as ai ar am ak ao az ae aq af : Nat) (hi : Bool) (th : Int32) (po ba en an aw ax ap : Nat) (se : Int32) (n d t day al : Nat) (nd : Nat → Nat) (bb oo : Nat → Int32) (K F kn : Nat → Nat) (j : Nat) (hn : n ≤ 9) (hd : d ≤ 7) (ht : t < 512) (hal : al < 128) (hday : day < 2 ^ 30) (gnd : ∀ i, nd i < 512) (gkn : ∀ j, kn j < 512) (gK : ∀ j, K j < 8) (gF : ∀ j, F j < 10) (hj9 : j < 7) : Met l yX12_get wsX12_get ({ frames := 0, cells := 0, slots := 0, locals := 0 }) (pcR dC dI cI cD cR [.ref y, .int (nI j), .int (nI 2)] (fun H => va_P (dC, dI) vwCl ([(y, .inr (12, [.ref as, .ref ai, .ref ar, .ref am, .ref ak, .ref ao, .ref az, .ref ae, .ref aq, .ref af, .int (bI hi), .int th, .int (nI po), .int (nI ba), .int (nI en), .ref an, .ref aw, .ref ax, .ref ap, .int se]))] ++ [(as, .inl (cI, 53, .inl (sF n d t day al nd bb oo K F kn)))]) H)) (vp_Si (fun r => r = nI (kn j))) 0 0 (fun _ => False) := by
  refine Met.ofW (cc := cX12_get) (maxL := 3) (ret := (some .int)) (by decide) rfl ?_
  intro p e s m args below meth c s₁ B hml hv
  obtain ⟨rfl, hH0, hCX⟩ := hv
  have hx := B.exec
  have hb := B.bytes
  have hr := B.returns
  have hts := atoms_spec (ws := wsX12_get) B.pre
  have hown : s.vm.findClass RX12 = some m.cls := findClass_of_methodNamed B.named
  have hlocks := B.notSynchronized
  have hK := hCX.1
  have hP := hH0
  have hl := lv_entry ([.ref y, .int (nI j), .int (nI 2)]) (n := 3) (Nat.le_of_ble_eq_true rfl)
  rw [lg_entry_eq]
  generalize (lg_sl ([.ref y, .int (nI j), .int (nI 2)]) ++ List.replicate (3 - (lg_sl ([.ref y, .int (nI j), .int (nI 2)])).length) Slot.unset).toArray = ls at hl ⊢
  have hl : lv_has ls 3 [(0, .ref y), (1, .int (nI j)), (2, .int (nI 2))] := hl
  refine lv_aload_n hx hb dX12_get_0 rfl (lv_at hl 0 rfl) ?_
  refine va_get (D := (dC, dI)) (ci := 12) (v := .ref as) (C := RX12) (T := TX12) (N := 20) hx hb hts (fun _ h => List.mem_cons_of_mem _ (List.mem_append_right _ h)) hown hK hP 0 rfl rfl 0 (by decide) (hts (.fieldLink RX12 9 "HoldsOnceDeniedModel" "s" "[I") (by decide +kernel)) (fun _ h9 => h9) rfl dX12_get_1 ?_
  refine lv_bipush (v := nI 32) hx hb dX12_get_4 (by decide +kernel) ?_
  refine lv_iconst (v := nI 3) hx hb dX12_get_6 (by decide +kernel) ?_
  refine lv_iload_n hx hb dX12_get_7 rfl (lv_at hl 1 rfl) ?_
  refine ho_imul hx hb dX12_get_8 ?_
  refine ho_iadd hx hb dX12_get_9 ?_
  refine lv_iload_n hx hb dX12_get_10 rfl (lv_at hl 2 rfl) ?_
  refine ho_iadd hx hb dX12_get_11 ?_
  refine ho_iald (v := nI (kn j)) hx hb hK hP 1 0 rfl rfl (by omega) (by first | decide | omega) sF_k2 dX12_get_12 ?_
  exact W.iret (v := nI (kn j)) hx hb hr (fun T9 hT9 hW9 => ⟨_, rfl, rfl, hT9⟩) (fun q h => by cases h) dX12_get_13
set_option maxHeartbeats 4000000 in
set_option maxRecDepth 100000 in
theorem c_X12_setOf_0 (l : Launch) (dC : Nat → ClassId) (dI : Nat → Nat → Nat) (cI cD cR : ClassId) (y as ai ar am ak ao az ae aq af : Nat) (hi : Bool) (th : Int32) (po ba en an aw ax ap : Nat) (se : Int32) (n d t day al : Nat) (nd : Nat → Nat) (bb oo : Nat → Int32) (K F kn : Nat → Nat) (i v : Nat) (sz : Nat) (hn : n ≤ 9) (hd : d ≤ 7) (ht : t < 512) (hal : al < 128) (hday : day < 2 ^ 30) (gnd : ∀ i, nd i < 512) (gkn : ∀ j, kn j < 512) (gK : ∀ j, K j < 8) (gF : ∀ j, F j < 10) (hi9 : i < 9) : Met l yX12_setOf wsX12_setOf ({ frames := 0, cells := 0, slots := 0, locals := 0 }) (pcR dC dI cI cD cR [.ref y, .int (nI i), .int (nI 0), .int (nI v)] (fun H => H.size = sz ∧ va_P (dC, dI) vwCl ([(y, .inr (12, [.ref as, .ref ai, .ref ar, .ref am, .ref ak, .ref ao, .ref az, .ref ae, .ref aq, .ref af, .int (bI hi), .int th, .int (nI po), .int (nI ba), .int (nI en), .ref an, .ref aw, .ref ax, .ref ap, .int se]))] ++ [(as, .inl (cI, 53, .inl (sF n d t day al nd bb oo K F kn)))]) H ∧ va_D (fun _ => True) ([(y, .inr (12, [.ref as, .ref ai, .ref ar, .ref am, .ref ak, .ref ao, .ref az, .ref ae, .ref aq, .ref af, .int (bI hi), .int th, .int (nI po), .int (nI ba), .int (nI en), .ref an, .ref aw, .ref ax, .ref ap, .int se]))] ++ [(as, .inl (cI, 53, .inl (sF n d t day al nd bb oo K F kn)))]))) (va_Qv (fun (_ : Unit) => True) (fun (_ : Unit) T9 => va_P (dC, dI) vwCl ([(y, .inr (12, [.ref as, .ref ai, .ref ar, .ref am, .ref ak, .ref ao, .ref az, .ref ae, .ref aq, .ref af, .int (bI hi), .int th, .int (nI po), .int (nI ba), .int (nI en), .ref an, .ref aw, .ref ax, .ref ap, .int se]))] ++ [(as, .inl (cI, 53, .inl (sF n d t day al (va_up nd i v) bb oo K F kn)))]) T9.heap ∧ va_D (va_A ([(y, .inr (12, [.ref as, .ref ai, .ref ar, .ref am, .ref ak, .ref ao, .ref az, .ref ae, .ref aq, .ref af, .int (bI hi), .int th, .int (nI po), .int (nI ba), .int (nI en), .ref an, .ref aw, .ref ax, .ref ap, .int se]))] ++ [(as, .inl (cI, 53, .inl (sF n d t day al nd bb oo K F kn)))]) sz) ([(y, .inr (12, [.ref as, .ref ai, .ref ar, .ref am, .ref ak, .ref ao, .ref az, .ref ae, .ref aq, .ref af, .int (bI hi), .int th, .int (nI po), .int (nI ba), .int (nI en), .ref an, .ref aw, .ref ax, .ref ap, .int se]))] ++ [(as, .inl (cI, 53, .inl (sF n d t day al (va_up nd i v) bb oo K F kn)))])) (va_A ([(y, .inr (12, [.ref as, .ref ai, .ref ar, .ref am, .ref ak, .ref ao, .ref az, .ref ae, .ref aq, .ref af, .int (bI hi), .int th, .int (nI po), .int (nI ba), .int (nI en), .ref an, .ref aw, .ref ax, .ref ap, .int se]))] ++ [(as, .inl (cI, 53, .inl (sF n d t day al nd bb oo K F kn)))]) sz)) 0 0 (va_A ([(y, .inr (12, [.ref as, .ref ai, .ref ar, .ref am, .ref ak, .ref ao, .ref az, .ref ae, .ref aq, .ref af, .int (bI hi), .int th, .int (nI po), .int (nI ba), .int (nI en), .ref an, .ref aw, .ref ax, .ref ap, .int se]))] ++ [(as, .inl (cI, 53, .inl (sF n d t day al nd bb oo K F kn)))]) sz) := by
  refine Met.ofW (cc := cX12_setOf) (maxL := 4) (ret := none) (by decide) rfl ?_
  intro p e s m args below meth c s₁ B hml hv
  obtain ⟨rfl, hH0, hCX⟩ := hv
  have hx := B.exec
  have hb := B.bytes
  have hr := B.returns
  have hts := atoms_spec (ws := wsX12_setOf) B.pre
  have hown : s.vm.findClass RX12 = some m.cls := findClass_of_methodNamed B.named
  have hlocks := B.notSynchronized
  have hK := hCX.1
  obtain ⟨hsz, hP, hD0⟩ := hH0
  subst hsz
  have hD := hD0.self (sz := s.heap.size)
  generalize hAe : va_A ([(y, .inr (12, [.ref as, .ref ai, .ref ar, .ref am, .ref ak, .ref ao, .ref az, .ref ae, .ref aq, .ref af, .int (bI hi), .int th, .int (nI po), .int (nI ba), .int (nI en), .ref an, .ref aw, .ref ax, .ref ap, .int se]))] ++ [(as, .inl (cI, 53, .inl (sF n d t day al nd bb oo K F kn)))]) s.heap.size = A at hD ⊢
  have hA : ∀ q : Nat, s.heap.size ≤ q → A q := fun q h => by rw [← hAe]; exact Or.inr h
  have hS : va_S A s.heap s.heap [] := va_S.rf
  have hP : va_P (dC, dI) vwCl ([(y, .inr (12, [.ref as, .ref ai, .ref ar, .ref am, .ref ak, .ref ao, .ref az, .ref ae, .ref aq, .ref af, .int (bI hi), .int th, .int (nI po), .int (nI ba), .int (nI en), .ref an, .ref aw, .ref ax, .ref ap, .int se]))] ++ [(as, .inl (cI, 53, .inl (sF n d t day al nd bb oo K F kn)))]) s.heap := hP
  have hl := lv_entry ([.ref y, .int (nI i), .int (nI 0), .int (nI v)]) (n := 4) (Nat.le_of_ble_eq_true rfl)
  rw [lg_entry_eq]
  generalize (lg_sl ([.ref y, .int (nI i), .int (nI 0), .int (nI v)]) ++ List.replicate (4 - (lg_sl ([.ref y, .int (nI i), .int (nI 0), .int (nI v)])).length) Slot.unset).toArray = ls at hl ⊢
  have hl : lv_has ls 4 [(0, .ref y), (1, .int (nI i)), (2, .int (nI 0)), (3, .int (nI v))] := hl
  refine lv_aload_n hx hb dX12_setOf_0 rfl (lv_at hl 0 rfl) ?_
  refine va_get (D := (dC, dI)) (ci := 12) (v := .ref as) (C := RX12) (T := TX12) (N := 20) hx hb hts (fun _ h => List.mem_cons_of_mem _ (List.mem_append_right _ h)) hown hK hP 0 rfl rfl 0 (by decide) (hts (.fieldLink RX12 9 "HoldsOnceDeniedModel" "s" "[I") (by decide +kernel)) (fun _ h9 => h9) rfl dX12_setOf_1 ?_
  refine lv_iconst (v := nI 5) hx hb dX12_setOf_4 (by decide +kernel) ?_
  refine lv_iconst (v := nI 3) hx hb dX12_setOf_5 (by decide +kernel) ?_
  refine lv_iload_n hx hb dX12_setOf_6 rfl (lv_at hl 1 rfl) ?_
  refine ho_imul hx hb dX12_setOf_7 ?_
  refine ho_iadd hx hb dX12_setOf_8 ?_
  refine lv_iload_n hx hb dX12_setOf_9 rfl (lv_at hl 2 rfl) ?_
  refine ho_iadd hx hb dX12_setOf_10 ?_
  refine lv_iload_n hx hb dX12_setOf_11 rfl (lv_at hl 3 rfl) ?_
  refine ho_iast (g := sF n d t day al (va_up nd i v) bb oo K F kn) hx hb hK hP hD hS 1 0 rfl rfl (by omega) (by first | decide | omega) (sF_w0 (by omega)) dX12_setOf_12 (fun H locs hP hD hS => ?_)
  have hP : va_P (dC, dI) vwCl ([(y, .inr (12, [.ref as, .ref ai, .ref ar, .ref am, .ref ak, .ref ao, .ref az, .ref ae, .ref aq, .ref af, .int (bI hi), .int th, .int (nI po), .int (nI ba), .int (nI en), .ref an, .ref aw, .ref ax, .ref ap, .int se]))] ++ [(as, .inl (cI, 53, .inl (sF n d t day al (va_up nd i v) bb oo K F kn)))]) H := hP
  have hD : va_D A ([(y, .inr (12, [.ref as, .ref ai, .ref ar, .ref am, .ref ak, .ref ao, .ref az, .ref ae, .ref aq, .ref af, .int (bI hi), .int th, .int (nI po), .int (nI ba), .int (nI en), .ref an, .ref aw, .ref ax, .ref ap, .int se]))] ++ [(as, .inl (cI, 53, .inl (sF n d t day al (va_up nd i v) bb oo K F kn)))]) := hD
  exact W.vret hx hb hr (fun T9 hT9 hW9 => ⟨⟨(), rfl, trivial, by rw [hT9]; exact hP, hD⟩, hS.F hT9⟩) hS.2.2 dX12_setOf_13
set_option maxHeartbeats 4000000 in
set_option maxRecDepth 100000 in
theorem c_X12_setOf_1 (l : Launch) (dC : Nat → ClassId) (dI : Nat → Nat → Nat) (cI cD cR : ClassId) (y as ai ar am ak ao az ae aq af : Nat) (hi : Bool) (th : Int32) (po ba en an aw ax ap : Nat) (se : Int32) (n d t day al : Nat) (nd : Nat → Nat) (bb oo : Nat → Int32) (K F kn : Nat → Nat) (i : Nat) (v : Int32) (sz : Nat) (hn : n ≤ 9) (hd : d ≤ 7) (ht : t < 512) (hal : al < 128) (hday : day < 2 ^ 30) (gnd : ∀ i, nd i < 512) (gkn : ∀ j, kn j < 512) (gK : ∀ j, K j < 8) (gF : ∀ j, F j < 10) (hi9 : i < 9) : Met l yX12_setOf wsX12_setOf ({ frames := 0, cells := 0, slots := 0, locals := 0 }) (pcR dC dI cI cD cR [.ref y, .int (nI i), .int (nI 1), .int v] (fun H => H.size = sz ∧ va_P (dC, dI) vwCl ([(y, .inr (12, [.ref as, .ref ai, .ref ar, .ref am, .ref ak, .ref ao, .ref az, .ref ae, .ref aq, .ref af, .int (bI hi), .int th, .int (nI po), .int (nI ba), .int (nI en), .ref an, .ref aw, .ref ax, .ref ap, .int se]))] ++ [(as, .inl (cI, 53, .inl (sF n d t day al nd bb oo K F kn)))]) H ∧ va_D (fun _ => True) ([(y, .inr (12, [.ref as, .ref ai, .ref ar, .ref am, .ref ak, .ref ao, .ref az, .ref ae, .ref aq, .ref af, .int (bI hi), .int th, .int (nI po), .int (nI ba), .int (nI en), .ref an, .ref aw, .ref ax, .ref ap, .int se]))] ++ [(as, .inl (cI, 53, .inl (sF n d t day al nd bb oo K F kn)))]))) (va_Qv (fun (_ : Unit) => True) (fun (_ : Unit) T9 => va_P (dC, dI) vwCl ([(y, .inr (12, [.ref as, .ref ai, .ref ar, .ref am, .ref ak, .ref ao, .ref az, .ref ae, .ref aq, .ref af, .int (bI hi), .int th, .int (nI po), .int (nI ba), .int (nI en), .ref an, .ref aw, .ref ax, .ref ap, .int se]))] ++ [(as, .inl (cI, 53, .inl (sF n d t day al nd (upd bb i v) oo K F kn)))]) T9.heap ∧ va_D (va_A ([(y, .inr (12, [.ref as, .ref ai, .ref ar, .ref am, .ref ak, .ref ao, .ref az, .ref ae, .ref aq, .ref af, .int (bI hi), .int th, .int (nI po), .int (nI ba), .int (nI en), .ref an, .ref aw, .ref ax, .ref ap, .int se]))] ++ [(as, .inl (cI, 53, .inl (sF n d t day al nd bb oo K F kn)))]) sz) ([(y, .inr (12, [.ref as, .ref ai, .ref ar, .ref am, .ref ak, .ref ao, .ref az, .ref ae, .ref aq, .ref af, .int (bI hi), .int th, .int (nI po), .int (nI ba), .int (nI en), .ref an, .ref aw, .ref ax, .ref ap, .int se]))] ++ [(as, .inl (cI, 53, .inl (sF n d t day al nd (upd bb i v) oo K F kn)))])) (va_A ([(y, .inr (12, [.ref as, .ref ai, .ref ar, .ref am, .ref ak, .ref ao, .ref az, .ref ae, .ref aq, .ref af, .int (bI hi), .int th, .int (nI po), .int (nI ba), .int (nI en), .ref an, .ref aw, .ref ax, .ref ap, .int se]))] ++ [(as, .inl (cI, 53, .inl (sF n d t day al nd bb oo K F kn)))]) sz)) 0 0 (va_A ([(y, .inr (12, [.ref as, .ref ai, .ref ar, .ref am, .ref ak, .ref ao, .ref az, .ref ae, .ref aq, .ref af, .int (bI hi), .int th, .int (nI po), .int (nI ba), .int (nI en), .ref an, .ref aw, .ref ax, .ref ap, .int se]))] ++ [(as, .inl (cI, 53, .inl (sF n d t day al nd bb oo K F kn)))]) sz) := by
  refine Met.ofW (cc := cX12_setOf) (maxL := 4) (ret := none) (by decide) rfl ?_
  intro p e s m args below meth c s₁ B hml hv
  obtain ⟨rfl, hH0, hCX⟩ := hv
  have hx := B.exec
  have hb := B.bytes
  have hr := B.returns
  have hts := atoms_spec (ws := wsX12_setOf) B.pre
  have hown : s.vm.findClass RX12 = some m.cls := findClass_of_methodNamed B.named
  have hlocks := B.notSynchronized
  have hK := hCX.1
  obtain ⟨hsz, hP, hD0⟩ := hH0
  subst hsz
  have hD := hD0.self (sz := s.heap.size)
  generalize hAe : va_A ([(y, .inr (12, [.ref as, .ref ai, .ref ar, .ref am, .ref ak, .ref ao, .ref az, .ref ae, .ref aq, .ref af, .int (bI hi), .int th, .int (nI po), .int (nI ba), .int (nI en), .ref an, .ref aw, .ref ax, .ref ap, .int se]))] ++ [(as, .inl (cI, 53, .inl (sF n d t day al nd bb oo K F kn)))]) s.heap.size = A at hD ⊢
  have hA : ∀ q : Nat, s.heap.size ≤ q → A q := fun q h => by rw [← hAe]; exact Or.inr h
  have hS : va_S A s.heap s.heap [] := va_S.rf
  have hP : va_P (dC, dI) vwCl ([(y, .inr (12, [.ref as, .ref ai, .ref ar, .ref am, .ref ak, .ref ao, .ref az, .ref ae, .ref aq, .ref af, .int (bI hi), .int th, .int (nI po), .int (nI ba), .int (nI en), .ref an, .ref aw, .ref ax, .ref ap, .int se]))] ++ [(as, .inl (cI, 53, .inl (sF n d t day al nd bb oo K F kn)))]) s.heap := hP
  have hl := lv_entry ([.ref y, .int (nI i), .int (nI 1), .int v]) (n := 4) (Nat.le_of_ble_eq_true rfl)
  rw [lg_entry_eq]
  generalize (lg_sl ([.ref y, .int (nI i), .int (nI 1), .int v]) ++ List.replicate (4 - (lg_sl ([.ref y, .int (nI i), .int (nI 1), .int v])).length) Slot.unset).toArray = ls at hl ⊢
  have hl : lv_has ls 4 [(0, .ref y), (1, .int (nI i)), (2, .int (nI 1)), (3, .int v)] := hl
  refine lv_aload_n hx hb dX12_setOf_0 rfl (lv_at hl 0 rfl) ?_
  refine va_get (D := (dC, dI)) (ci := 12) (v := .ref as) (C := RX12) (T := TX12) (N := 20) hx hb hts (fun _ h => List.mem_cons_of_mem _ (List.mem_append_right _ h)) hown hK hP 0 rfl rfl 0 (by decide) (hts (.fieldLink RX12 9 "HoldsOnceDeniedModel" "s" "[I") (by decide +kernel)) (fun _ h9 => h9) rfl dX12_setOf_1 ?_
  refine lv_iconst (v := nI 5) hx hb dX12_setOf_4 (by decide +kernel) ?_
  refine lv_iconst (v := nI 3) hx hb dX12_setOf_5 (by decide +kernel) ?_
  refine lv_iload_n hx hb dX12_setOf_6 rfl (lv_at hl 1 rfl) ?_
  refine ho_imul hx hb dX12_setOf_7 ?_
  refine ho_iadd hx hb dX12_setOf_8 ?_
  refine lv_iload_n hx hb dX12_setOf_9 rfl (lv_at hl 2 rfl) ?_
  refine ho_iadd hx hb dX12_setOf_10 ?_
  refine lv_iload_n hx hb dX12_setOf_11 rfl (lv_at hl 3 rfl) ?_
  refine ho_iast (g := sF n d t day al nd (upd bb i v) oo K F kn) hx hb hK hP hD hS 1 0 rfl rfl (by omega) (by first | decide | omega) (sF_w1 (by omega)) dX12_setOf_12 (fun H locs hP hD hS => ?_)
  have hP : va_P (dC, dI) vwCl ([(y, .inr (12, [.ref as, .ref ai, .ref ar, .ref am, .ref ak, .ref ao, .ref az, .ref ae, .ref aq, .ref af, .int (bI hi), .int th, .int (nI po), .int (nI ba), .int (nI en), .ref an, .ref aw, .ref ax, .ref ap, .int se]))] ++ [(as, .inl (cI, 53, .inl (sF n d t day al nd (upd bb i v) oo K F kn)))]) H := hP
  have hD : va_D A ([(y, .inr (12, [.ref as, .ref ai, .ref ar, .ref am, .ref ak, .ref ao, .ref az, .ref ae, .ref aq, .ref af, .int (bI hi), .int th, .int (nI po), .int (nI ba), .int (nI en), .ref an, .ref aw, .ref ax, .ref ap, .int se]))] ++ [(as, .inl (cI, 53, .inl (sF n d t day al nd (upd bb i v) oo K F kn)))]) := hD
  exact W.vret hx hb hr (fun T9 hT9 hW9 => ⟨⟨(), rfl, trivial, by rw [hT9]; exact hP, hD⟩, hS.F hT9⟩) hS.2.2 dX12_setOf_13
set_option maxHeartbeats 4000000 in
set_option maxRecDepth 100000 in
theorem c_X12_setOf_2 (l : Launch) (dC : Nat → ClassId) (dI : Nat → Nat → Nat) (cI cD cR : ClassId) (y as ai ar am ak ao az ae aq af : Nat) (hi : Bool) (th : Int32) (po ba en an aw ax ap : Nat) (se : Int32) (n d t day al : Nat) (nd : Nat → Nat) (bb oo : Nat → Int32) (K F kn : Nat → Nat) (i : Nat) (v : Int32) (sz : Nat) (hn : n ≤ 9) (hd : d ≤ 7) (ht : t < 512) (hal : al < 128) (hday : day < 2 ^ 30) (gnd : ∀ i, nd i < 512) (gkn : ∀ j, kn j < 512) (gK : ∀ j, K j < 8) (gF : ∀ j, F j < 10) (hi9 : i < 9) : Met l yX12_setOf wsX12_setOf ({ frames := 0, cells := 0, slots := 0, locals := 0 }) (pcR dC dI cI cD cR [.ref y, .int (nI i), .int (nI 2), .int v] (fun H => H.size = sz ∧ va_P (dC, dI) vwCl ([(y, .inr (12, [.ref as, .ref ai, .ref ar, .ref am, .ref ak, .ref ao, .ref az, .ref ae, .ref aq, .ref af, .int (bI hi), .int th, .int (nI po), .int (nI ba), .int (nI en), .ref an, .ref aw, .ref ax, .ref ap, .int se]))] ++ [(as, .inl (cI, 53, .inl (sF n d t day al nd bb oo K F kn)))]) H ∧ va_D (fun _ => True) ([(y, .inr (12, [.ref as, .ref ai, .ref ar, .ref am, .ref ak, .ref ao, .ref az, .ref ae, .ref aq, .ref af, .int (bI hi), .int th, .int (nI po), .int (nI ba), .int (nI en), .ref an, .ref aw, .ref ax, .ref ap, .int se]))] ++ [(as, .inl (cI, 53, .inl (sF n d t day al nd bb oo K F kn)))]))) (va_Qv (fun (_ : Unit) => True) (fun (_ : Unit) T9 => va_P (dC, dI) vwCl ([(y, .inr (12, [.ref as, .ref ai, .ref ar, .ref am, .ref ak, .ref ao, .ref az, .ref ae, .ref aq, .ref af, .int (bI hi), .int th, .int (nI po), .int (nI ba), .int (nI en), .ref an, .ref aw, .ref ax, .ref ap, .int se]))] ++ [(as, .inl (cI, 53, .inl (sF n d t day al nd bb (upd oo i v) K F kn)))]) T9.heap ∧ va_D (va_A ([(y, .inr (12, [.ref as, .ref ai, .ref ar, .ref am, .ref ak, .ref ao, .ref az, .ref ae, .ref aq, .ref af, .int (bI hi), .int th, .int (nI po), .int (nI ba), .int (nI en), .ref an, .ref aw, .ref ax, .ref ap, .int se]))] ++ [(as, .inl (cI, 53, .inl (sF n d t day al nd bb oo K F kn)))]) sz) ([(y, .inr (12, [.ref as, .ref ai, .ref ar, .ref am, .ref ak, .ref ao, .ref az, .ref ae, .ref aq, .ref af, .int (bI hi), .int th, .int (nI po), .int (nI ba), .int (nI en), .ref an, .ref aw, .ref ax, .ref ap, .int se]))] ++ [(as, .inl (cI, 53, .inl (sF n d t day al nd bb (upd oo i v) K F kn)))])) (va_A ([(y, .inr (12, [.ref as, .ref ai, .ref ar, .ref am, .ref ak, .ref ao, .ref az, .ref ae, .ref aq, .ref af, .int (bI hi), .int th, .int (nI po), .int (nI ba), .int (nI en), .ref an, .ref aw, .ref ax, .ref ap, .int se]))] ++ [(as, .inl (cI, 53, .inl (sF n d t day al nd bb oo K F kn)))]) sz)) 0 0 (va_A ([(y, .inr (12, [.ref as, .ref ai, .ref ar, .ref am, .ref ak, .ref ao, .ref az, .ref ae, .ref aq, .ref af, .int (bI hi), .int th, .int (nI po), .int (nI ba), .int (nI en), .ref an, .ref aw, .ref ax, .ref ap, .int se]))] ++ [(as, .inl (cI, 53, .inl (sF n d t day al nd bb oo K F kn)))]) sz) := by
  refine Met.ofW (cc := cX12_setOf) (maxL := 4) (ret := none) (by decide) rfl ?_
  intro p e s m args below meth c s₁ B hml hv
  obtain ⟨rfl, hH0, hCX⟩ := hv
  have hx := B.exec
  have hb := B.bytes
  have hr := B.returns
  have hts := atoms_spec (ws := wsX12_setOf) B.pre
  have hown : s.vm.findClass RX12 = some m.cls := findClass_of_methodNamed B.named
  have hlocks := B.notSynchronized
  have hK := hCX.1
  obtain ⟨hsz, hP, hD0⟩ := hH0
  subst hsz
  have hD := hD0.self (sz := s.heap.size)
  generalize hAe : va_A ([(y, .inr (12, [.ref as, .ref ai, .ref ar, .ref am, .ref ak, .ref ao, .ref az, .ref ae, .ref aq, .ref af, .int (bI hi), .int th, .int (nI po), .int (nI ba), .int (nI en), .ref an, .ref aw, .ref ax, .ref ap, .int se]))] ++ [(as, .inl (cI, 53, .inl (sF n d t day al nd bb oo K F kn)))]) s.heap.size = A at hD ⊢
  have hA : ∀ q : Nat, s.heap.size ≤ q → A q := fun q h => by rw [← hAe]; exact Or.inr h
  have hS : va_S A s.heap s.heap [] := va_S.rf
  have hP : va_P (dC, dI) vwCl ([(y, .inr (12, [.ref as, .ref ai, .ref ar, .ref am, .ref ak, .ref ao, .ref az, .ref ae, .ref aq, .ref af, .int (bI hi), .int th, .int (nI po), .int (nI ba), .int (nI en), .ref an, .ref aw, .ref ax, .ref ap, .int se]))] ++ [(as, .inl (cI, 53, .inl (sF n d t day al nd bb oo K F kn)))]) s.heap := hP
  have hl := lv_entry ([.ref y, .int (nI i), .int (nI 2), .int v]) (n := 4) (Nat.le_of_ble_eq_true rfl)
  rw [lg_entry_eq]
  generalize (lg_sl ([.ref y, .int (nI i), .int (nI 2), .int v]) ++ List.replicate (4 - (lg_sl ([.ref y, .int (nI i), .int (nI 2), .int v])).length) Slot.unset).toArray = ls at hl ⊢
  have hl : lv_has ls 4 [(0, .ref y), (1, .int (nI i)), (2, .int (nI 2)), (3, .int v)] := hl
  refine lv_aload_n hx hb dX12_setOf_0 rfl (lv_at hl 0 rfl) ?_
  refine va_get (D := (dC, dI)) (ci := 12) (v := .ref as) (C := RX12) (T := TX12) (N := 20) hx hb hts (fun _ h => List.mem_cons_of_mem _ (List.mem_append_right _ h)) hown hK hP 0 rfl rfl 0 (by decide) (hts (.fieldLink RX12 9 "HoldsOnceDeniedModel" "s" "[I") (by decide +kernel)) (fun _ h9 => h9) rfl dX12_setOf_1 ?_
  refine lv_iconst (v := nI 5) hx hb dX12_setOf_4 (by decide +kernel) ?_
  refine lv_iconst (v := nI 3) hx hb dX12_setOf_5 (by decide +kernel) ?_
  refine lv_iload_n hx hb dX12_setOf_6 rfl (lv_at hl 1 rfl) ?_
  refine ho_imul hx hb dX12_setOf_7 ?_
  refine ho_iadd hx hb dX12_setOf_8 ?_
  refine lv_iload_n hx hb dX12_setOf_9 rfl (lv_at hl 2 rfl) ?_
  refine ho_iadd hx hb dX12_setOf_10 ?_
  refine lv_iload_n hx hb dX12_setOf_11 rfl (lv_at hl 3 rfl) ?_
  refine ho_iast (g := sF n d t day al nd bb (upd oo i v) K F kn) hx hb hK hP hD hS 1 0 rfl rfl (by omega) (by first | decide | omega) (sF_w2 (by omega)) dX12_setOf_12 (fun H locs hP hD hS => ?_)
  have hP : va_P (dC, dI) vwCl ([(y, .inr (12, [.ref as, .ref ai, .ref ar, .ref am, .ref ak, .ref ao, .ref az, .ref ae, .ref aq, .ref af, .int (bI hi), .int th, .int (nI po), .int (nI ba), .int (nI en), .ref an, .ref aw, .ref ax, .ref ap, .int se]))] ++ [(as, .inl (cI, 53, .inl (sF n d t day al nd bb (upd oo i v) K F kn)))]) H := hP
  have hD : va_D A ([(y, .inr (12, [.ref as, .ref ai, .ref ar, .ref am, .ref ak, .ref ao, .ref az, .ref ae, .ref aq, .ref af, .int (bI hi), .int th, .int (nI po), .int (nI ba), .int (nI en), .ref an, .ref aw, .ref ax, .ref ap, .int se]))] ++ [(as, .inl (cI, 53, .inl (sF n d t day al nd bb (upd oo i v) K F kn)))]) := hD
  exact W.vret hx hb hr (fun T9 hT9 hW9 => ⟨⟨(), rfl, trivial, by rw [hT9]; exact hP, hD⟩, hS.F hT9⟩) hS.2.2 dX12_setOf_13
set_option maxHeartbeats 4000000 in
set_option maxRecDepth 100000 in
theorem c_X12_puts_0 (l : Launch) (dC : Nat → ClassId) (dI : Nat → Nat → Nat) (cI cD cR : ClassId) (y as ai ar am ak ao az ae aq af : Nat) (hi : Bool) (th : Int32) (po ba en an aw ax ap : Nat) (se : Int32) (n d t day al : Nat) (nd : Nat → Nat) (bb oo : Nat → Int32) (K F kn : Nat → Nat) (j v : Nat) (sz : Nat) (hn : n ≤ 9) (hd : d ≤ 7) (ht : t < 512) (hal : al < 128) (hday : day < 2 ^ 30) (gnd : ∀ i, nd i < 512) (gkn : ∀ j, kn j < 512) (gK : ∀ j, K j < 8) (gF : ∀ j, F j < 10) (hj9 : j < 7) : Met l yX12_puts wsX12_puts ({ frames := 0, cells := 0, slots := 0, locals := 0 }) (pcR dC dI cI cD cR [.ref y, .int (nI j), .int (nI 0), .int (nI v)] (fun H => H.size = sz ∧ va_P (dC, dI) vwCl ([(y, .inr (12, [.ref as, .ref ai, .ref ar, .ref am, .ref ak, .ref ao, .ref az, .ref ae, .ref aq, .ref af, .int (bI hi), .int th, .int (nI po), .int (nI ba), .int (nI en), .ref an, .ref aw, .ref ax, .ref ap, .int se]))] ++ [(as, .inl (cI, 53, .inl (sF n d t day al nd bb oo K F kn)))]) H ∧ va_D (fun _ => True) ([(y, .inr (12, [.ref as, .ref ai, .ref ar, .ref am, .ref ak, .ref ao, .ref az, .ref ae, .ref aq, .ref af, .int (bI hi), .int th, .int (nI po), .int (nI ba), .int (nI en), .ref an, .ref aw, .ref ax, .ref ap, .int se]))] ++ [(as, .inl (cI, 53, .inl (sF n d t day al nd bb oo K F kn)))]))) (va_Qv (fun (_ : Unit) => True) (fun (_ : Unit) T9 => va_P (dC, dI) vwCl ([(y, .inr (12, [.ref as, .ref ai, .ref ar, .ref am, .ref ak, .ref ao, .ref az, .ref ae, .ref aq, .ref af, .int (bI hi), .int th, .int (nI po), .int (nI ba), .int (nI en), .ref an, .ref aw, .ref ax, .ref ap, .int se]))] ++ [(as, .inl (cI, 53, .inl (sF n d t day al nd bb oo (va_up K j v) F kn)))]) T9.heap ∧ va_D (va_A ([(y, .inr (12, [.ref as, .ref ai, .ref ar, .ref am, .ref ak, .ref ao, .ref az, .ref ae, .ref aq, .ref af, .int (bI hi), .int th, .int (nI po), .int (nI ba), .int (nI en), .ref an, .ref aw, .ref ax, .ref ap, .int se]))] ++ [(as, .inl (cI, 53, .inl (sF n d t day al nd bb oo K F kn)))]) sz) ([(y, .inr (12, [.ref as, .ref ai, .ref ar, .ref am, .ref ak, .ref ao, .ref az, .ref ae, .ref aq, .ref af, .int (bI hi), .int th, .int (nI po), .int (nI ba), .int (nI en), .ref an, .ref aw, .ref ax, .ref ap, .int se]))] ++ [(as, .inl (cI, 53, .inl (sF n d t day al nd bb oo (va_up K j v) F kn)))])) (va_A ([(y, .inr (12, [.ref as, .ref ai, .ref ar, .ref am, .ref ak, .ref ao, .ref az, .ref ae, .ref aq, .ref af, .int (bI hi), .int th, .int (nI po), .int (nI ba), .int (nI en), .ref an, .ref aw, .ref ax, .ref ap, .int se]))] ++ [(as, .inl (cI, 53, .inl (sF n d t day al nd bb oo K F kn)))]) sz)) 0 0 (va_A ([(y, .inr (12, [.ref as, .ref ai, .ref ar, .ref am, .ref ak, .ref ao, .ref az, .ref ae, .ref aq, .ref af, .int (bI hi), .int th, .int (nI po), .int (nI ba), .int (nI en), .ref an, .ref aw, .ref ax, .ref ap, .int se]))] ++ [(as, .inl (cI, 53, .inl (sF n d t day al nd bb oo K F kn)))]) sz) := by
  refine Met.ofW (cc := cX12_puts) (maxL := 4) (ret := none) (by decide) rfl ?_
  intro p e s m args below meth c s₁ B hml hv
  obtain ⟨rfl, hH0, hCX⟩ := hv
  have hx := B.exec
  have hb := B.bytes
  have hr := B.returns
  have hts := atoms_spec (ws := wsX12_puts) B.pre
  have hown : s.vm.findClass RX12 = some m.cls := findClass_of_methodNamed B.named
  have hlocks := B.notSynchronized
  have hK := hCX.1
  obtain ⟨hsz, hP, hD0⟩ := hH0
  subst hsz
  have hD := hD0.self (sz := s.heap.size)
  generalize hAe : va_A ([(y, .inr (12, [.ref as, .ref ai, .ref ar, .ref am, .ref ak, .ref ao, .ref az, .ref ae, .ref aq, .ref af, .int (bI hi), .int th, .int (nI po), .int (nI ba), .int (nI en), .ref an, .ref aw, .ref ax, .ref ap, .int se]))] ++ [(as, .inl (cI, 53, .inl (sF n d t day al nd bb oo K F kn)))]) s.heap.size = A at hD ⊢
  have hA : ∀ q : Nat, s.heap.size ≤ q → A q := fun q h => by rw [← hAe]; exact Or.inr h
  have hS : va_S A s.heap s.heap [] := va_S.rf
  have hP : va_P (dC, dI) vwCl ([(y, .inr (12, [.ref as, .ref ai, .ref ar, .ref am, .ref ak, .ref ao, .ref az, .ref ae, .ref aq, .ref af, .int (bI hi), .int th, .int (nI po), .int (nI ba), .int (nI en), .ref an, .ref aw, .ref ax, .ref ap, .int se]))] ++ [(as, .inl (cI, 53, .inl (sF n d t day al nd bb oo K F kn)))]) s.heap := hP
  have hl := lv_entry ([.ref y, .int (nI j), .int (nI 0), .int (nI v)]) (n := 4) (Nat.le_of_ble_eq_true rfl)
  rw [lg_entry_eq]
  generalize (lg_sl ([.ref y, .int (nI j), .int (nI 0), .int (nI v)]) ++ List.replicate (4 - (lg_sl ([.ref y, .int (nI j), .int (nI 0), .int (nI v)])).length) Slot.unset).toArray = ls at hl ⊢
  have hl : lv_has ls 4 [(0, .ref y), (1, .int (nI j)), (2, .int (nI 0)), (3, .int (nI v))] := hl
  refine lv_aload_n hx hb dX12_puts_0 rfl (lv_at hl 0 rfl) ?_
  refine va_get (D := (dC, dI)) (ci := 12) (v := .ref as) (C := RX12) (T := TX12) (N := 20) hx hb hts (fun _ h => List.mem_cons_of_mem _ (List.mem_append_right _ h)) hown hK hP 0 rfl rfl 0 (by decide) (hts (.fieldLink RX12 9 "HoldsOnceDeniedModel" "s" "[I") (by decide +kernel)) (fun _ h9 => h9) rfl dX12_puts_1 ?_
  refine lv_bipush (v := nI 32) hx hb dX12_puts_4 (by decide +kernel) ?_
  refine lv_iconst (v := nI 3) hx hb dX12_puts_6 (by decide +kernel) ?_
  refine lv_iload_n hx hb dX12_puts_7 rfl (lv_at hl 1 rfl) ?_
  refine ho_imul hx hb dX12_puts_8 ?_
  refine ho_iadd hx hb dX12_puts_9 ?_
  refine lv_iload_n hx hb dX12_puts_10 rfl (lv_at hl 2 rfl) ?_
  refine ho_iadd hx hb dX12_puts_11 ?_
  refine lv_iload_n hx hb dX12_puts_12 rfl (lv_at hl 3 rfl) ?_
  refine ho_iast (g := sF n d t day al nd bb oo (va_up K j v) F kn) hx hb hK hP hD hS 1 0 rfl rfl (by omega) (by first | decide | omega) sF_x0 dX12_puts_13 (fun H locs hP hD hS => ?_)
  have hP : va_P (dC, dI) vwCl ([(y, .inr (12, [.ref as, .ref ai, .ref ar, .ref am, .ref ak, .ref ao, .ref az, .ref ae, .ref aq, .ref af, .int (bI hi), .int th, .int (nI po), .int (nI ba), .int (nI en), .ref an, .ref aw, .ref ax, .ref ap, .int se]))] ++ [(as, .inl (cI, 53, .inl (sF n d t day al nd bb oo (va_up K j v) F kn)))]) H := hP
  have hD : va_D A ([(y, .inr (12, [.ref as, .ref ai, .ref ar, .ref am, .ref ak, .ref ao, .ref az, .ref ae, .ref aq, .ref af, .int (bI hi), .int th, .int (nI po), .int (nI ba), .int (nI en), .ref an, .ref aw, .ref ax, .ref ap, .int se]))] ++ [(as, .inl (cI, 53, .inl (sF n d t day al nd bb oo (va_up K j v) F kn)))]) := hD
  exact W.vret hx hb hr (fun T9 hT9 hW9 => ⟨⟨(), rfl, trivial, by rw [hT9]; exact hP, hD⟩, hS.F hT9⟩) hS.2.2 dX12_puts_14
set_option maxHeartbeats 4000000 in
set_option maxRecDepth 100000 in
theorem c_X12_puts_1 (l : Launch) (dC : Nat → ClassId) (dI : Nat → Nat → Nat) (cI cD cR : ClassId) (y as ai ar am ak ao az ae aq af : Nat) (hi : Bool) (th : Int32) (po ba en an aw ax ap : Nat) (se : Int32) (n d t day al : Nat) (nd : Nat → Nat) (bb oo : Nat → Int32) (K F kn : Nat → Nat) (j v : Nat) (sz : Nat) (hn : n ≤ 9) (hd : d ≤ 7) (ht : t < 512) (hal : al < 128) (hday : day < 2 ^ 30) (gnd : ∀ i, nd i < 512) (gkn : ∀ j, kn j < 512) (gK : ∀ j, K j < 8) (gF : ∀ j, F j < 10) (hj9 : j < 7) : Met l yX12_puts wsX12_puts ({ frames := 0, cells := 0, slots := 0, locals := 0 }) (pcR dC dI cI cD cR [.ref y, .int (nI j), .int (nI 1), .int (nI v)] (fun H => H.size = sz ∧ va_P (dC, dI) vwCl ([(y, .inr (12, [.ref as, .ref ai, .ref ar, .ref am, .ref ak, .ref ao, .ref az, .ref ae, .ref aq, .ref af, .int (bI hi), .int th, .int (nI po), .int (nI ba), .int (nI en), .ref an, .ref aw, .ref ax, .ref ap, .int se]))] ++ [(as, .inl (cI, 53, .inl (sF n d t day al nd bb oo K F kn)))]) H ∧ va_D (fun _ => True) ([(y, .inr (12, [.ref as, .ref ai, .ref ar, .ref am, .ref ak, .ref ao, .ref az, .ref ae, .ref aq, .ref af, .int (bI hi), .int th, .int (nI po), .int (nI ba), .int (nI en), .ref an, .ref aw, .ref ax, .ref ap, .int se]))] ++ [(as, .inl (cI, 53, .inl (sF n d t day al nd bb oo K F kn)))]))) (va_Qv (fun (_ : Unit) => True) (fun (_ : Unit) T9 => va_P (dC, dI) vwCl ([(y, .inr (12, [.ref as, .ref ai, .ref ar, .ref am, .ref ak, .ref ao, .ref az, .ref ae, .ref aq, .ref af, .int (bI hi), .int th, .int (nI po), .int (nI ba), .int (nI en), .ref an, .ref aw, .ref ax, .ref ap, .int se]))] ++ [(as, .inl (cI, 53, .inl (sF n d t day al nd bb oo K (va_up F j v) kn)))]) T9.heap ∧ va_D (va_A ([(y, .inr (12, [.ref as, .ref ai, .ref ar, .ref am, .ref ak, .ref ao, .ref az, .ref ae, .ref aq, .ref af, .int (bI hi), .int th, .int (nI po), .int (nI ba), .int (nI en), .ref an, .ref aw, .ref ax, .ref ap, .int se]))] ++ [(as, .inl (cI, 53, .inl (sF n d t day al nd bb oo K F kn)))]) sz) ([(y, .inr (12, [.ref as, .ref ai, .ref ar, .ref am, .ref ak, .ref ao, .ref az, .ref ae, .ref aq, .ref af, .int (bI hi), .int th, .int (nI po), .int (nI ba), .int (nI en), .ref an, .ref aw, .ref ax, .ref ap, .int se]))] ++ [(as, .inl (cI, 53, .inl (sF n d t day al nd bb oo K (va_up F j v) kn)))])) (va_A ([(y, .inr (12, [.ref as, .ref ai, .ref ar, .ref am, .ref ak, .ref ao, .ref az, .ref ae, .ref aq, .ref af, .int (bI hi), .int th, .int (nI po), .int (nI ba), .int (nI en), .ref an, .ref aw, .ref ax, .ref ap, .int se]))] ++ [(as, .inl (cI, 53, .inl (sF n d t day al nd bb oo K F kn)))]) sz)) 0 0 (va_A ([(y, .inr (12, [.ref as, .ref ai, .ref ar, .ref am, .ref ak, .ref ao, .ref az, .ref ae, .ref aq, .ref af, .int (bI hi), .int th, .int (nI po), .int (nI ba), .int (nI en), .ref an, .ref aw, .ref ax, .ref ap, .int se]))] ++ [(as, .inl (cI, 53, .inl (sF n d t day al nd bb oo K F kn)))]) sz) := by
  refine Met.ofW (cc := cX12_puts) (maxL := 4) (ret := none) (by decide) rfl ?_
  intro p e s m args below meth c s₁ B hml hv
  obtain ⟨rfl, hH0, hCX⟩ := hv
  have hx := B.exec
  have hb := B.bytes
  have hr := B.returns
  have hts := atoms_spec (ws := wsX12_puts) B.pre
  have hown : s.vm.findClass RX12 = some m.cls := findClass_of_methodNamed B.named
  have hlocks := B.notSynchronized
  have hK := hCX.1
  obtain ⟨hsz, hP, hD0⟩ := hH0
  subst hsz
  have hD := hD0.self (sz := s.heap.size)
  generalize hAe : va_A ([(y, .inr (12, [.ref as, .ref ai, .ref ar, .ref am, .ref ak, .ref ao, .ref az, .ref ae, .ref aq, .ref af, .int (bI hi), .int th, .int (nI po), .int (nI ba), .int (nI en), .ref an, .ref aw, .ref ax, .ref ap, .int se]))] ++ [(as, .inl (cI, 53, .inl (sF n d t day al nd bb oo K F kn)))]) s.heap.size = A at hD ⊢
  have hA : ∀ q : Nat, s.heap.size ≤ q → A q := fun q h => by rw [← hAe]; exact Or.inr h
  have hS : va_S A s.heap s.heap [] := va_S.rf
  have hP : va_P (dC, dI) vwCl ([(y, .inr (12, [.ref as, .ref ai, .ref ar, .ref am, .ref ak, .ref ao, .ref az, .ref ae, .ref aq, .ref af, .int (bI hi), .int th, .int (nI po), .int (nI ba), .int (nI en), .ref an, .ref aw, .ref ax, .ref ap, .int se]))] ++ [(as, .inl (cI, 53, .inl (sF n d t day al nd bb oo K F kn)))]) s.heap := hP
  have hl := lv_entry ([.ref y, .int (nI j), .int (nI 1), .int (nI v)]) (n := 4) (Nat.le_of_ble_eq_true rfl)
  rw [lg_entry_eq]
  generalize (lg_sl ([.ref y, .int (nI j), .int (nI 1), .int (nI v)]) ++ List.replicate (4 - (lg_sl ([.ref y, .int (nI j), .int (nI 1), .int (nI v)])).length) Slot.unset).toArray = ls at hl ⊢
  have hl : lv_has ls 4 [(0, .ref y), (1, .int (nI j)), (2, .int (nI 1)), (3, .int (nI v))] := hl
  refine lv_aload_n hx hb dX12_puts_0 rfl (lv_at hl 0 rfl) ?_
  refine va_get (D := (dC, dI)) (ci := 12) (v := .ref as) (C := RX12) (T := TX12) (N := 20) hx hb hts (fun _ h => List.mem_cons_of_mem _ (List.mem_append_right _ h)) hown hK hP 0 rfl rfl 0 (by decide) (hts (.fieldLink RX12 9 "HoldsOnceDeniedModel" "s" "[I") (by decide +kernel)) (fun _ h9 => h9) rfl dX12_puts_1 ?_
  refine lv_bipush (v := nI 32) hx hb dX12_puts_4 (by decide +kernel) ?_
  refine lv_iconst (v := nI 3) hx hb dX12_puts_6 (by decide +kernel) ?_
  refine lv_iload_n hx hb dX12_puts_7 rfl (lv_at hl 1 rfl) ?_
  refine ho_imul hx hb dX12_puts_8 ?_
  refine ho_iadd hx hb dX12_puts_9 ?_
  refine lv_iload_n hx hb dX12_puts_10 rfl (lv_at hl 2 rfl) ?_
  refine ho_iadd hx hb dX12_puts_11 ?_
  refine lv_iload_n hx hb dX12_puts_12 rfl (lv_at hl 3 rfl) ?_
  refine ho_iast (g := sF n d t day al nd bb oo K (va_up F j v) kn) hx hb hK hP hD hS 1 0 rfl rfl (by omega) (by first | decide | omega) sF_x1 dX12_puts_13 (fun H locs hP hD hS => ?_)
  have hP : va_P (dC, dI) vwCl ([(y, .inr (12, [.ref as, .ref ai, .ref ar, .ref am, .ref ak, .ref ao, .ref az, .ref ae, .ref aq, .ref af, .int (bI hi), .int th, .int (nI po), .int (nI ba), .int (nI en), .ref an, .ref aw, .ref ax, .ref ap, .int se]))] ++ [(as, .inl (cI, 53, .inl (sF n d t day al nd bb oo K (va_up F j v) kn)))]) H := hP
  have hD : va_D A ([(y, .inr (12, [.ref as, .ref ai, .ref ar, .ref am, .ref ak, .ref ao, .ref az, .ref ae, .ref aq, .ref af, .int (bI hi), .int th, .int (nI po), .int (nI ba), .int (nI en), .ref an, .ref aw, .ref ax, .ref ap, .int se]))] ++ [(as, .inl (cI, 53, .inl (sF n d t day al nd bb oo K (va_up F j v) kn)))]) := hD
  exact W.vret hx hb hr (fun T9 hT9 hW9 => ⟨⟨(), rfl, trivial, by rw [hT9]; exact hP, hD⟩, hS.F hT9⟩) hS.2.2 dX12_puts_14
set_option maxHeartbeats 4000000 in
set_option maxRecDepth 100000 in
theorem c_X12_puts_2 (l : Launch) (dC : Nat → ClassId) (dI : Nat → Nat → Nat) (cI cD cR : ClassId) (y as ai ar am ak ao az ae aq af : Nat) (hi : Bool) (th : Int32) (po ba en an aw ax ap : Nat) (se : Int32) (n d t day al : Nat) (nd : Nat → Nat) (bb oo : Nat → Int32) (K F kn : Nat → Nat) (j v : Nat) (sz : Nat) (hn : n ≤ 9) (hd : d ≤ 7) (ht : t < 512) (hal : al < 128) (hday : day < 2 ^ 30) (gnd : ∀ i, nd i < 512) (gkn : ∀ j, kn j < 512) (gK : ∀ j, K j < 8) (gF : ∀ j, F j < 10) (hj9 : j < 7) : Met l yX12_puts wsX12_puts ({ frames := 0, cells := 0, slots := 0, locals := 0 }) (pcR dC dI cI cD cR [.ref y, .int (nI j), .int (nI 2), .int (nI v)] (fun H => H.size = sz ∧ va_P (dC, dI) vwCl ([(y, .inr (12, [.ref as, .ref ai, .ref ar, .ref am, .ref ak, .ref ao, .ref az, .ref ae, .ref aq, .ref af, .int (bI hi), .int th, .int (nI po), .int (nI ba), .int (nI en), .ref an, .ref aw, .ref ax, .ref ap, .int se]))] ++ [(as, .inl (cI, 53, .inl (sF n d t day al nd bb oo K F kn)))]) H ∧ va_D (fun _ => True) ([(y, .inr (12, [.ref as, .ref ai, .ref ar, .ref am, .ref ak, .ref ao, .ref az, .ref ae, .ref aq, .ref af, .int (bI hi), .int th, .int (nI po), .int (nI ba), .int (nI en), .ref an, .ref aw, .ref ax, .ref ap, .int se]))] ++ [(as, .inl (cI, 53, .inl (sF n d t day al nd bb oo K F kn)))]))) (va_Qv (fun (_ : Unit) => True) (fun (_ : Unit) T9 => va_P (dC, dI) vwCl ([(y, .inr (12, [.ref as, .ref ai, .ref ar, .ref am, .ref ak, .ref ao, .ref az, .ref ae, .ref aq, .ref af, .int (bI hi), .int th, .int (nI po), .int (nI ba), .int (nI en), .ref an, .ref aw, .ref ax, .ref ap, .int se]))] ++ [(as, .inl (cI, 53, .inl (sF n d t day al nd bb oo K F (va_up kn j v))))]) T9.heap ∧ va_D (va_A ([(y, .inr (12, [.ref as, .ref ai, .ref ar, .ref am, .ref ak, .ref ao, .ref az, .ref ae, .ref aq, .ref af, .int (bI hi), .int th, .int (nI po), .int (nI ba), .int (nI en), .ref an, .ref aw, .ref ax, .ref ap, .int se]))] ++ [(as, .inl (cI, 53, .inl (sF n d t day al nd bb oo K F kn)))]) sz) ([(y, .inr (12, [.ref as, .ref ai, .ref ar, .ref am, .ref ak, .ref ao, .ref az, .ref ae, .ref aq, .ref af, .int (bI hi), .int th, .int (nI po), .int (nI ba), .int (nI en), .ref an, .ref aw, .ref ax, .ref ap, .int se]))] ++ [(as, .inl (cI, 53, .inl (sF n d t day al nd bb oo K F (va_up kn j v))))])) (va_A ([(y, .inr (12, [.ref as, .ref ai, .ref ar, .ref am, .ref ak, .ref ao, .ref az, .ref ae, .ref aq, .ref af, .int (bI hi), .int th, .int (nI po), .int (nI ba), .int (nI en), .ref an, .ref aw, .ref ax, .ref ap, .int se]))] ++ [(as, .inl (cI, 53, .inl (sF n d t day al nd bb oo K F kn)))]) sz)) 0 0 (va_A ([(y, .inr (12, [.ref as, .ref ai, .ref ar, .ref am, .ref ak, .ref ao, .ref az, .ref ae, .ref aq, .ref af, .int (bI hi), .int th, .int (nI po), .int (nI ba), .int (nI en), .ref an, .ref aw, .ref ax, .ref ap, .int se]))] ++ [(as, .inl (cI, 53, .inl (sF n d t day al nd bb oo K F kn)))]) sz) := by
  refine Met.ofW (cc := cX12_puts) (maxL := 4) (ret := none) (by decide) rfl ?_
  intro p e s m args below meth c s₁ B hml hv
  obtain ⟨rfl, hH0, hCX⟩ := hv
  have hx := B.exec
  have hb := B.bytes
  have hr := B.returns
  have hts := atoms_spec (ws := wsX12_puts) B.pre
  have hown : s.vm.findClass RX12 = some m.cls := findClass_of_methodNamed B.named
  have hlocks := B.notSynchronized
  have hK := hCX.1
  obtain ⟨hsz, hP, hD0⟩ := hH0
  subst hsz
  have hD := hD0.self (sz := s.heap.size)
  generalize hAe : va_A ([(y, .inr (12, [.ref as, .ref ai, .ref ar, .ref am, .ref ak, .ref ao, .ref az, .ref ae, .ref aq, .ref af, .int (bI hi), .int th, .int (nI po), .int (nI ba), .int (nI en), .ref an, .ref aw, .ref ax, .ref ap, .int se]))] ++ [(as, .inl (cI, 53, .inl (sF n d t day al nd bb oo K F kn)))]) s.heap.size = A at hD ⊢
  have hA : ∀ q : Nat, s.heap.size ≤ q → A q := fun q h => by rw [← hAe]; exact Or.inr h
  have hS : va_S A s.heap s.heap [] := va_S.rf
  have hP : va_P (dC, dI) vwCl ([(y, .inr (12, [.ref as, .ref ai, .ref ar, .ref am, .ref ak, .ref ao, .ref az, .ref ae, .ref aq, .ref af, .int (bI hi), .int th, .int (nI po), .int (nI ba), .int (nI en), .ref an, .ref aw, .ref ax, .ref ap, .int se]))] ++ [(as, .inl (cI, 53, .inl (sF n d t day al nd bb oo K F kn)))]) s.heap := hP
  have hl := lv_entry ([.ref y, .int (nI j), .int (nI 2), .int (nI v)]) (n := 4) (Nat.le_of_ble_eq_true rfl)
  rw [lg_entry_eq]
  generalize (lg_sl ([.ref y, .int (nI j), .int (nI 2), .int (nI v)]) ++ List.replicate (4 - (lg_sl ([.ref y, .int (nI j), .int (nI 2), .int (nI v)])).length) Slot.unset).toArray = ls at hl ⊢
  have hl : lv_has ls 4 [(0, .ref y), (1, .int (nI j)), (2, .int (nI 2)), (3, .int (nI v))] := hl
  refine lv_aload_n hx hb dX12_puts_0 rfl (lv_at hl 0 rfl) ?_
  refine va_get (D := (dC, dI)) (ci := 12) (v := .ref as) (C := RX12) (T := TX12) (N := 20) hx hb hts (fun _ h => List.mem_cons_of_mem _ (List.mem_append_right _ h)) hown hK hP 0 rfl rfl 0 (by decide) (hts (.fieldLink RX12 9 "HoldsOnceDeniedModel" "s" "[I") (by decide +kernel)) (fun _ h9 => h9) rfl dX12_puts_1 ?_
  refine lv_bipush (v := nI 32) hx hb dX12_puts_4 (by decide +kernel) ?_
  refine lv_iconst (v := nI 3) hx hb dX12_puts_6 (by decide +kernel) ?_
  refine lv_iload_n hx hb dX12_puts_7 rfl (lv_at hl 1 rfl) ?_
  refine ho_imul hx hb dX12_puts_8 ?_
  refine ho_iadd hx hb dX12_puts_9 ?_
  refine lv_iload_n hx hb dX12_puts_10 rfl (lv_at hl 2 rfl) ?_
  refine ho_iadd hx hb dX12_puts_11 ?_
  refine lv_iload_n hx hb dX12_puts_12 rfl (lv_at hl 3 rfl) ?_
  refine ho_iast (g := sF n d t day al nd bb oo K F (va_up kn j v)) hx hb hK hP hD hS 1 0 rfl rfl (by omega) (by first | decide | omega) sF_x2 dX12_puts_13 (fun H locs hP hD hS => ?_)
  have hP : va_P (dC, dI) vwCl ([(y, .inr (12, [.ref as, .ref ai, .ref ar, .ref am, .ref ak, .ref ao, .ref az, .ref ae, .ref aq, .ref af, .int (bI hi), .int th, .int (nI po), .int (nI ba), .int (nI en), .ref an, .ref aw, .ref ax, .ref ap, .int se]))] ++ [(as, .inl (cI, 53, .inl (sF n d t day al nd bb oo K F (va_up kn j v))))]) H := hP
  have hD : va_D A ([(y, .inr (12, [.ref as, .ref ai, .ref ar, .ref am, .ref ak, .ref ao, .ref az, .ref ae, .ref aq, .ref af, .int (bI hi), .int th, .int (nI po), .int (nI ba), .int (nI en), .ref an, .ref aw, .ref ax, .ref ap, .int se]))] ++ [(as, .inl (cI, 53, .inl (sF n d t day al nd bb oo K F (va_up kn j v))))]) := hD
  exact W.vret hx hb hr (fun T9 hT9 hW9 => ⟨⟨(), rfl, trivial, by rw [hT9]; exact hP, hD⟩, hS.F hT9⟩) hS.2.2 dX12_puts_14
set_option maxHeartbeats 4000000 in
set_option maxRecDepth 100000 in
theorem c_X12_lays (l : Launch) (dC : Nat → ClassId) (dI : Nat → Nat → Nat) (cI cD cR : ClassId) (a b : Nat) (n d t day al : Nat) (nd : Nat → Nat) (bb oo : Nat → Int32) (K F kn : Nat → Nat) (n2 d2 t2 day2 al2 : Nat) (nd2 : Nat → Nat) (bb2 oo2 : Nat → Int32) (K2 F2 kn2 : Nat → Nat) (sz : Nat)  : Met l yX12_lays wsX12_lays ({ frames := 0, cells := 0, slots := 0, locals := 0 }) (pcR dC dI cI cD cR [.ref a, .ref b] (fun H => H.size = sz ∧ va_P (dC, dI) vwCl ([(a, .inl (cI, 53, .inl (sF n d t day al nd bb oo K F kn)))] ++ [(b, .inl (cI, 53, .inl (sF n2 d2 t2 day2 al2 nd2 bb2 oo2 K2 F2 kn2)))]) H ∧ va_D (fun _ => True) ([(a, .inl (cI, 53, .inl (sF n d t day al nd bb oo K F kn)))] ++ [(b, .inl (cI, 53, .inl (sF n2 d2 t2 day2 al2 nd2 bb2 oo2 K2 F2 kn2)))]))) (va_Qv (fun (_ : Unit) => True) (fun (_ : Unit) T9 => va_P (dC, dI) vwCl ([(a, .inl (cI, 53, .inl (sF n d t day al nd bb oo K F kn)))] ++ [(b, .inl (cI, 53, .inl (sF n d t day al nd bb oo K F kn)))]) T9.heap ∧ va_D (va_A ([(a, .inl (cI, 53, .inl (sF n d t day al nd bb oo K F kn)))] ++ [(b, .inl (cI, 53, .inl (sF n2 d2 t2 day2 al2 nd2 bb2 oo2 K2 F2 kn2)))]) sz) ([(a, .inl (cI, 53, .inl (sF n d t day al nd bb oo K F kn)))] ++ [(b, .inl (cI, 53, .inl (sF n d t day al nd bb oo K F kn)))])) (va_A ([(a, .inl (cI, 53, .inl (sF n d t day al nd bb oo K F kn)))] ++ [(b, .inl (cI, 53, .inl (sF n2 d2 t2 day2 al2 nd2 bb2 oo2 K2 F2 kn2)))]) sz)) 0 0 (va_A ([(a, .inl (cI, 53, .inl (sF n d t day al nd bb oo K F kn)))] ++ [(b, .inl (cI, 53, .inl (sF n2 d2 t2 day2 al2 nd2 bb2 oo2 K2 F2 kn2)))]) sz) := by
  refine Met.ofW (cc := cX12_lays) (maxL := 3) (ret := none) (by decide) rfl ?_
  intro p e s m args below meth c s₁ B hml hv
  obtain ⟨rfl, hH0, hCX⟩ := hv
  have hx := B.exec
  have hb := B.bytes
  have hr := B.returns
  have hts := atoms_spec (ws := wsX12_lays) B.pre
  have hown : s.vm.findClass RX12 = some m.cls := findClass_of_methodNamed B.named
  have hlocks := B.notSynchronized
  have hK := hCX.1
  obtain ⟨hsz, hP, hD0⟩ := hH0
  subst hsz
  have hD := hD0.self (sz := s.heap.size)
  generalize hAe : va_A ([(a, .inl (cI, 53, .inl (sF n d t day al nd bb oo K F kn)))] ++ [(b, .inl (cI, 53, .inl (sF n2 d2 t2 day2 al2 nd2 bb2 oo2 K2 F2 kn2)))]) s.heap.size = A at hD ⊢
  have hA : ∀ q : Nat, s.heap.size ≤ q → A q := fun q h => by rw [← hAe]; exact Or.inr h
  have hS : va_S A s.heap s.heap [] := va_S.rf
  have hP : va_P (dC, dI) vwCl ([(a, .inl (cI, 53, .inl (sF n d t day al nd bb oo K F kn)))] ++ [(b, .inl (cI, 53, .inl (sF n2 d2 t2 day2 al2 nd2 bb2 oo2 K2 F2 kn2)))]) s.heap := hP
  have hl := lv_entry ([.ref a, .ref b]) (n := 3) (Nat.le_of_ble_eq_true rfl)
  rw [lg_entry_eq]
  generalize (lg_sl ([.ref a, .ref b]) ++ List.replicate (3 - (lg_sl ([.ref a, .ref b])).length) Slot.unset).toArray = ls at hl ⊢
  have hl : lv_has ls 3 [(0, .ref a), (1, .ref b)] := hl
  refine lv_iconst (v := nI 0) hx hb dX12_lays_0 (by decide +kernel) ?_
  refine lv_istore_n (lv' := [(2, .int (nI 0)), (0, .ref a), (1, .ref b)]) hx hb dX12_lays_1 rfl hl (by decide) rfl (fun ls hl => ?_)
  rw [← cpF_0 (sF n d t day al nd bb oo K F kn) (sF n2 d2 t2 day2 al2 nd2 bb2 oo2 K2 F2 kn2)] at hP hD
  refine ho_lpW (T := Nat) 3 (fun x9 => ([(a, .inl (cI, 53, .inl (sF n d t day al nd bb oo K F kn)))] ++ [(b, .inl (cI, 53, .inl (cpF (sF n d t day al nd bb oo K F kn) (sF n2 d2 t2 day2 al2 nd2 bb2 oo2 K2 F2 kn2) x9)))] : va_W)) (fun x9 => [(2, .int (nI x9)), (0, .ref a), (1, .ref b)]) (fun x9 => []) (fun x9 => (x9 ≤ 53)) (fun x9 => 53 - x9) 0 (by omega) (lv_sub hl [0, 1, 2] rfl) hP hD hS ?_
  intro fu2 i H locs ls hI hm2 hP hD hS hl ih
  have hi5 := hI
  have hl : lv_has ls 3 [(2, .int (nI i)), (0, .ref a), (1, .ref b)] := hl
  have hi5 : i ≤ 53 := hi5
  have hm2 : 53 - i < fu2 + 1 := hm2
  have hP : va_P (dC, dI) vwCl ([(a, .inl (cI, 53, .inl (sF n d t day al nd bb oo K F kn)))] ++ [(b, .inl (cI, 53, .inl (cpF (sF n d t day al nd bb oo K F kn) (sF n2 d2 t2 day2 al2 nd2 bb2 oo2 K2 F2 kn2) i)))]) H := hP
  have hD : va_D A ([(a, .inl (cI, 53, .inl (sF n d t day al nd bb oo K F kn)))] ++ [(b, .inl (cI, 53, .inl (cpF (sF n d t day al nd bb oo K F kn) (sF n2 d2 t2 day2 al2 nd2 bb2 oo2 K2 F2 kn2) i)))]) := hD
  refine W.eq (g2 := F0 m 2 ls []) rfl ?_
  have ih2 := ih
  refine lv_iload_n hx hb dX12_lays_2 rfl (lv_at hl 0 rfl) ?_
  refine lv_bipush (v := nI 53) hx hb dX12_lays_3 (by decide +kernel) ?_
  refine ho_icmp_ge (tgt := 20) hx hb dX12_lays_5 (by decide) (by omega) (by omega) (fun c_5 => ?_) (fun c_5 => ?_)
  · have hq9 := ho_relabq (q := 1) (g := sF n d t day al nd bb oo K F kn) rfl (fun j hj => by simp [cpF, show j < i by omega]) hP
    have hP := hq9
    have hD := hD.set (p := 1) (e := .inl (cI, 53, .inl (sF n d t day al nd bb oo K F kn))) rfl
    exact W.vret hx hb hr (fun T9 hT9 hW9 => ⟨⟨(), rfl, trivial, by rw [hT9]; exact hP, hD⟩, hS.F hT9⟩) hS.2.2 dX12_lays_20
  refine lv_aload_n hx hb dX12_lays_8 rfl (lv_at hl 2 rfl) ?_
  refine lv_iload_n hx hb dX12_lays_9 rfl (lv_at hl 0 rfl) ?_
  refine lv_aload_n hx hb dX12_lays_10 rfl (lv_at hl 1 rfl) ?_
  refine lv_iload_n hx hb dX12_lays_11 rfl (lv_at hl 0 rfl) ?_
  refine ho_iald (v := ((sF n d t day al nd bb oo K F kn) i)) hx hb hK hP 0 0 rfl rfl (by omega) (by first | decide | omega) rfl dX12_lays_12 ?_
  refine ho_iast (g := upd (cpF (sF n d t day al nd bb oo K F kn) (sF n2 d2 t2 day2 al2 nd2 bb2 oo2 K2 F2 kn2) i) i ((sF n d t day al nd bb oo K F kn) i)) hx hb hK hP hD hS 1 0 rfl rfl (by omega) (by first | decide | omega) rfl dX12_lays_13 (fun H locs hP hD hS => ?_)
  have hP : va_P (dC, dI) vwCl ([(a, .inl (cI, 53, .inl (sF n d t day al nd bb oo K F kn)))] ++ [(b, .inl (cI, 53, .inl (upd (cpF (sF n d t day al nd bb oo K F kn) (sF n2 d2 t2 day2 al2 nd2 bb2 oo2 K2 F2 kn2) i) i ((sF n d t day al nd bb oo K F kn) i))))]) H := hP
  have hD : va_D A ([(a, .inl (cI, 53, .inl (sF n d t day al nd bb oo K F kn)))] ++ [(b, .inl (cI, 53, .inl (upd (cpF (sF n d t day al nd bb oo K F kn) (sF n2 d2 t2 day2 al2 nd2 bb2 oo2 K2 F2 kn2) i) i ((sF n d t day al nd bb oo K F kn) i))))]) := hD
  refine ho_iinc (lv' := [(2, .int (nI (i + 1))), (0, .ref a), (1, .ref b)]) (a := i) (b := 1) hx hb dX12_lays_14 hl (k := 0) rfl rfl (by decide) rfl (fun ls hl => ?_)
  refine lv_goto (tgt := 2) hx hb dX12_lays_17 (by decide) ?_
  have hW9 : ([(a, .inl (cI, 53, .inl (sF n d t day al nd bb oo K F kn)))] ++ [(b, .inl (cI, 53, .inl (upd (cpF (sF n d t day al nd bb oo K F kn) (sF n2 d2 t2 day2 al2 nd2 bb2 oo2 K2 F2 kn2) i) i ((sF n d t day al nd bb oo K F kn) i))))] : va_W) = [(a, .inl (cI, 53, .inl (sF n d t day al nd bb oo K F kn)))] ++ [(b, .inl (cI, 53, .inl (cpF (sF n d t day al nd bb oo K F kn) (sF n2 d2 t2 day2 al2 nd2 bb2 oo2 K2 F2 kn2) (i + 1))))] := by rw [cpF_up]
  rw [hW9] at hP hD
  exact ih2 (i + 1) _ _ _ (by omega) (show 53 - (i + 1) < fu2 from (by omega)) hP hD hS (lv_sub hl [0, 1, 2] rfl)
set_option maxHeartbeats 4000000 in
set_option maxRecDepth 100000 in
theorem c_X12_begins (l : Launch) (dC : Nat → ClassId) (dI : Nat → Nat → Nat) (cI cD cR : ClassId) (y as ai ar am ak ao az ae aq af : Nat) (hi : Bool) (th : Int32) (po ba en an aw ax ap : Nat) (se : Int32) (n d t day al : Nat) (nd : Nat → Nat) (bb oo : Nat → Int32) (K F kn : Nat → Nat) (nM dM tM dayM alM : Nat) (ndM : Nat → Nat) (bbM ooM : Nat → Int32) (KM FM knM : Nat → Nat) (sz : Nat)  : Met l yX12_begins wsX12_begins ({ frames := 1, cells := 0, slots := 0, locals := 22 }) (pcR dC dI cI cD cR [.ref y] (fun H => H.size = sz ∧ va_P (dC, dI) vwCl ([(y, .inr (12, [.ref as, .ref ai, .ref ar, .ref am, .ref ak, .ref ao, .ref az, .ref ae, .ref aq, .ref af, .int (bI hi), .int th, .int (nI po), .int (nI ba), .int (nI en), .ref an, .ref aw, .ref ax, .ref ap, .int se]))] ++ [(as, .inl (cI, 53, .inl (sF n d t day al nd bb oo K F kn)))] ++ [(am, .inl (cI, 53, .inl (sF nM dM tM dayM alM ndM bbM ooM KM FM knM)))]) H ∧ va_D (fun _ => True) ([(y, .inr (12, [.ref as, .ref ai, .ref ar, .ref am, .ref ak, .ref ao, .ref az, .ref ae, .ref aq, .ref af, .int (bI hi), .int th, .int (nI po), .int (nI ba), .int (nI en), .ref an, .ref aw, .ref ax, .ref ap, .int se]))] ++ [(as, .inl (cI, 53, .inl (sF n d t day al nd bb oo K F kn)))] ++ [(am, .inl (cI, 53, .inl (sF nM dM tM dayM alM ndM bbM ooM KM FM knM)))]))) (va_Qv (fun (_ : Unit) => True) (fun (_ : Unit) T9 => va_P (dC, dI) vwCl ([(y, .inr (12, [.ref as, .ref ai, .ref ar, .ref am, .ref ak, .ref ao, .ref az, .ref ae, .ref aq, .ref af, .int (bI hi), .int th, .int (nI po), .int (nI ba), .int (nI en), .ref an, .ref aw, .ref ax, .ref ap, .int se]))] ++ [(as, .inl (cI, 53, .inl (sF n d t day al nd bb oo K F kn)))] ++ [(am, .inl (cI, 53, .inl (sF n d t day al nd bb oo K F kn)))]) T9.heap ∧ va_D (va_A ([(y, .inr (12, [.ref as, .ref ai, .ref ar, .ref am, .ref ak, .ref ao, .ref az, .ref ae, .ref aq, .ref af, .int (bI hi), .int th, .int (nI po), .int (nI ba), .int (nI en), .ref an, .ref aw, .ref ax, .ref ap, .int se]))] ++ [(as, .inl (cI, 53, .inl (sF n d t day al nd bb oo K F kn)))] ++ [(am, .inl (cI, 53, .inl (sF nM dM tM dayM alM ndM bbM ooM KM FM knM)))]) sz) ([(y, .inr (12, [.ref as, .ref ai, .ref ar, .ref am, .ref ak, .ref ao, .ref az, .ref ae, .ref aq, .ref af, .int (bI hi), .int th, .int (nI po), .int (nI ba), .int (nI en), .ref an, .ref aw, .ref ax, .ref ap, .int se]))] ++ [(as, .inl (cI, 53, .inl (sF n d t day al nd bb oo K F kn)))] ++ [(am, .inl (cI, 53, .inl (sF n d t day al nd bb oo K F kn)))])) (va_A ([(y, .inr (12, [.ref as, .ref ai, .ref ar, .ref am, .ref ak, .ref ao, .ref az, .ref ae, .ref aq, .ref af, .int (bI hi), .int th, .int (nI po), .int (nI ba), .int (nI en), .ref an, .ref aw, .ref ax, .ref ap, .int se]))] ++ [(as, .inl (cI, 53, .inl (sF n d t day al nd bb oo K F kn)))] ++ [(am, .inl (cI, 53, .inl (sF nM dM tM dayM alM ndM bbM ooM KM FM knM)))]) sz)) 0 0 (va_A ([(y, .inr (12, [.ref as, .ref ai, .ref ar, .ref am, .ref ak, .ref ao, .ref az, .ref ae, .ref aq, .ref af, .int (bI hi), .int th, .int (nI po), .int (nI ba), .int (nI en), .ref an, .ref aw, .ref ax, .ref ap, .int se]))] ++ [(as, .inl (cI, 53, .inl (sF n d t day al nd bb oo K F kn)))] ++ [(am, .inl (cI, 53, .inl (sF nM dM tM dayM alM ndM bbM ooM KM FM knM)))]) sz) := by
  refine Met.ofW (cc := cX12_begins) (maxL := 1) (ret := none) (by decide) rfl ?_
  intro p e s m args below meth c s₁ B hml hv
  obtain ⟨rfl, hH0, hCX⟩ := hv
  have hx := B.exec
  have hb := B.bytes
  have hr := B.returns
  have hts := atoms_spec (ws := wsX12_begins) B.pre
  have hown : s.vm.findClass RX12 = some m.cls := findClass_of_methodNamed B.named
  have hlocks := B.notSynchronized
  have hK := hCX.1
  obtain ⟨hsz, hP, hD0⟩ := hH0
  subst hsz
  have hD := hD0.self (sz := s.heap.size)
  generalize hAe : va_A ([(y, .inr (12, [.ref as, .ref ai, .ref ar, .ref am, .ref ak, .ref ao, .ref az, .ref ae, .ref aq, .ref af, .int (bI hi), .int th, .int (nI po), .int (nI ba), .int (nI en), .ref an, .ref aw, .ref ax, .ref ap, .int se]))] ++ [(as, .inl (cI, 53, .inl (sF n d t day al nd bb oo K F kn)))] ++ [(am, .inl (cI, 53, .inl (sF nM dM tM dayM alM ndM bbM ooM KM FM knM)))]) s.heap.size = A at hD ⊢
  have hA : ∀ q : Nat, s.heap.size ≤ q → A q := fun q h => by rw [← hAe]; exact Or.inr h
  have hS : va_S A s.heap s.heap [] := va_S.rf
  have hP : va_P (dC, dI) vwCl ([(y, .inr (12, [.ref as, .ref ai, .ref ar, .ref am, .ref ak, .ref ao, .ref az, .ref ae, .ref aq, .ref af, .int (bI hi), .int th, .int (nI po), .int (nI ba), .int (nI en), .ref an, .ref aw, .ref ax, .ref ap, .int se]))] ++ [(as, .inl (cI, 53, .inl (sF n d t day al nd bb oo K F kn)))] ++ [(am, .inl (cI, 53, .inl (sF nM dM tM dayM alM ndM bbM ooM KM FM knM)))]) s.heap := hP
  have hl := lv_entry ([.ref y]) (n := 1) (Nat.le_of_ble_eq_true rfl)
  rw [lg_entry_eq]
  generalize (lg_sl ([.ref y]) ++ List.replicate (1 - (lg_sl ([.ref y])).length) Slot.unset).toArray = ls at hl ⊢
  have hl : lv_has ls 1 [(0, .ref y)] := hl
  refine lv_aload_n hx hb dX12_begins_0 rfl (lv_at hl 0 rfl) ?_
  refine va_get (D := (dC, dI)) (ci := 12) (v := .ref as) (C := RX12) (T := TX12) (N := 20) hx hb hts (fun _ h => List.mem_cons_of_mem _ (List.mem_append_right _ h)) hown hK hP 0 rfl rfl 0 (by decide) (hts (.fieldLink RX12 9 "HoldsOnceDeniedModel" "s" "[I") (by decide +kernel)) (fun _ h9 => h9) rfl dX12_begins_1 ?_
  refine lv_aload_n hx hb dX12_begins_4 rfl (lv_at hl 0 rfl) ?_
  refine va_get (D := (dC, dI)) (ci := 12) (v := .ref am) (C := RX12) (T := TX12) (N := 20) hx hb hts (fun _ h => List.mem_cons_of_mem _ (List.mem_append_right _ h)) hown hK hP 0 rfl rfl 3 (by decide) (hts (.fieldLink RX12 19 "HoldsOnceDeniedModel" "mind" "[I") (by decide +kernel)) (fun _ h9 => h9) rfl dX12_begins_5 ?_
  have hPc := hP.sub (ws' := [(as, .inl (cI, 53, .inl (sF n d t day al nd bb oo K F kn)))] ++ [(am, .inl (cI, 53, .inl (sF nM dM tM dayM alM ndM bbM ooM KM FM knM)))]) [1, 2] rfl
  have hDc := hD.sub (ws' := [(as, .inl (cI, 53, .inl (sF n d t day al nd bb oo K F kn)))] ++ [(am, .inl (cI, 53, .inl (sF nM dM tM dayM alM ndM bbM ooM KM FM knM)))]) [1, 2] (by decide) rfl
  have hFc := va_free (wc := [(as, .inl (cI, 53, .inl (sF n d t day al nd bb oo K F kn)))] ++ [(am, .inl (cI, 53, .inl (sF nM dM tM dayM alM ndM bbM ooM KM FM knM)))]) hD hS hA [1, 2] rfl
  refine va_callv (va_runS (As := [.ref as, .ref am]) (rest := []) ⟨hx, hb, hml, hown, hts⟩ (c_X12_lays l dC dI cI cD cR as am n d t day al nd bb oo K F kn nM dM tM dayM alM ndM bbM ooM KM FM knM s.heap.size) (va_cwS 2 hts gX12_begins_X12_lays rfl rfl rfl (by decide +kernel) ⟨Nat.le_of_ble_eq_true rfl, Nat.le_of_ble_eq_true rfl⟩) (preS_R hCX ⟨rfl, hPc, hDc.weaken (fun _ _ _ _ => trivial)⟩) rfl rfl hl.1 rfl (lv_room (Nat.le_of_ble_eq_true rfl)) dX12_begins_8 ⟨Nat.le_of_ble_eq_true (by first | rfl | decide), Nat.le_of_ble_eq_true (by first | rfl | decide)⟩) hS (fun q _ h => hFc q h) hFc (fun u T8 H1 locs hT8 hvm hw hB hz1 hk1 hS => ?_)
  obtain ⟨hP1, hD1⟩ := hB
  rw [hT8] at hP1
  obtain ⟨hP, hD⟩ := va_join (wr := [(y, .inr (12, [.ref as, .ref ai, .ref ar, .ref am, .ref ak, .ref ao, .ref az, .ref ae, .ref aq, .ref af, .int (bI hi), .int th, .int (nI po), .int (nI ba), .int (nI en), .ref an, .ref aw, .ref ax, .ref ap, .int se]))]) (w1 := [(as, .inl (cI, 53, .inl (sF n d t day al nd bb oo K F kn)))] ++ [(am, .inl (cI, 53, .inl (sF n d t day al nd bb oo K F kn)))]) hP hD [1, 2] [0] rfl rfl (by decide) (by decide) hk1 hFc hP1 hD1
  generalize H1 = H at hP hS ⊢
  have hP : va_P (dC, dI) vwCl ([(y, .inr (12, [.ref as, .ref ai, .ref ar, .ref am, .ref ak, .ref ao, .ref az, .ref ae, .ref aq, .ref af, .int (bI hi), .int th, .int (nI po), .int (nI ba), .int (nI en), .ref an, .ref aw, .ref ax, .ref ap, .int se]))] ++ [(as, .inl (cI, 53, .inl (sF n d t day al nd bb oo K F kn)))] ++ [(am, .inl (cI, 53, .inl (sF n d t day al nd bb oo K F kn)))]) H := hP
  have hD : va_D A ([(y, .inr (12, [.ref as, .ref ai, .ref ar, .ref am, .ref ak, .ref ao, .ref az, .ref ae, .ref aq, .ref af, .int (bI hi), .int th, .int (nI po), .int (nI ba), .int (nI en), .ref an, .ref aw, .ref ax, .ref ap, .int se]))] ++ [(as, .inl (cI, 53, .inl (sF n d t day al nd bb oo K F kn)))] ++ [(am, .inl (cI, 53, .inl (sF n d t day al nd bb oo K F kn)))]) := hD
  exact W.vret hx hb hr (fun T9 hT9 hW9 => ⟨⟨(), rfl, trivial, by rw [hT9]; exact hP, hD⟩, hS.F hT9⟩) hS.2.2 dX12_begins_11
set_option maxHeartbeats 4000000 in
set_option maxRecDepth 100000 in
theorem c_X12_ends (l : Launch) (dC : Nat → ClassId) (dI : Nat → Nat → Nat) (cI cD cR : ClassId) (y as ai ar am ak ao az ae aq af : Nat) (hi : Bool) (th : Int32) (po ba en an aw ax ap : Nat) (se : Int32) (n d t day al : Nat) (nd : Nat → Nat) (bb oo : Nat → Int32) (K F kn : Nat → Nat) (nM dM tM dayM alM : Nat) (ndM : Nat → Nat) (bbM ooM : Nat → Int32) (KM FM knM : Nat → Nat) (sz : Nat)  : Met l yX12_ends wsX12_ends ({ frames := 1, cells := 0, slots := 0, locals := 22 }) (pcR dC dI cI cD cR [.ref y] (fun H => H.size = sz ∧ va_P (dC, dI) vwCl ([(y, .inr (12, [.ref as, .ref ai, .ref ar, .ref am, .ref ak, .ref ao, .ref az, .ref ae, .ref aq, .ref af, .int (bI hi), .int th, .int (nI po), .int (nI ba), .int (nI en), .ref an, .ref aw, .ref ax, .ref ap, .int se]))] ++ [(as, .inl (cI, 53, .inl (sF n d t day al nd bb oo K F kn)))] ++ [(am, .inl (cI, 53, .inl (sF nM dM tM dayM alM ndM bbM ooM KM FM knM)))]) H ∧ va_D (fun _ => True) ([(y, .inr (12, [.ref as, .ref ai, .ref ar, .ref am, .ref ak, .ref ao, .ref az, .ref ae, .ref aq, .ref af, .int (bI hi), .int th, .int (nI po), .int (nI ba), .int (nI en), .ref an, .ref aw, .ref ax, .ref ap, .int se]))] ++ [(as, .inl (cI, 53, .inl (sF n d t day al nd bb oo K F kn)))] ++ [(am, .inl (cI, 53, .inl (sF nM dM tM dayM alM ndM bbM ooM KM FM knM)))]))) (va_Qv (fun (_ : Unit) => True) (fun (_ : Unit) T9 => va_P (dC, dI) vwCl ([(y, .inr (12, [.ref as, .ref ai, .ref ar, .ref am, .ref ak, .ref ao, .ref az, .ref ae, .ref aq, .ref af, .int (bI hi), .int th, .int (nI po), .int (nI ba), .int (nI en), .ref an, .ref aw, .ref ax, .ref ap, .int se]))] ++ [(as, .inl (cI, 53, .inl (sF nM dM tM dayM alM ndM bbM ooM KM FM knM)))] ++ [(am, .inl (cI, 53, .inl (sF nM dM tM dayM alM ndM bbM ooM KM FM knM)))]) T9.heap ∧ va_D (va_A ([(y, .inr (12, [.ref as, .ref ai, .ref ar, .ref am, .ref ak, .ref ao, .ref az, .ref ae, .ref aq, .ref af, .int (bI hi), .int th, .int (nI po), .int (nI ba), .int (nI en), .ref an, .ref aw, .ref ax, .ref ap, .int se]))] ++ [(as, .inl (cI, 53, .inl (sF n d t day al nd bb oo K F kn)))] ++ [(am, .inl (cI, 53, .inl (sF nM dM tM dayM alM ndM bbM ooM KM FM knM)))]) sz) ([(y, .inr (12, [.ref as, .ref ai, .ref ar, .ref am, .ref ak, .ref ao, .ref az, .ref ae, .ref aq, .ref af, .int (bI hi), .int th, .int (nI po), .int (nI ba), .int (nI en), .ref an, .ref aw, .ref ax, .ref ap, .int se]))] ++ [(as, .inl (cI, 53, .inl (sF nM dM tM dayM alM ndM bbM ooM KM FM knM)))] ++ [(am, .inl (cI, 53, .inl (sF nM dM tM dayM alM ndM bbM ooM KM FM knM)))])) (va_A ([(y, .inr (12, [.ref as, .ref ai, .ref ar, .ref am, .ref ak, .ref ao, .ref az, .ref ae, .ref aq, .ref af, .int (bI hi), .int th, .int (nI po), .int (nI ba), .int (nI en), .ref an, .ref aw, .ref ax, .ref ap, .int se]))] ++ [(as, .inl (cI, 53, .inl (sF n d t day al nd bb oo K F kn)))] ++ [(am, .inl (cI, 53, .inl (sF nM dM tM dayM alM ndM bbM ooM KM FM knM)))]) sz)) 0 0 (va_A ([(y, .inr (12, [.ref as, .ref ai, .ref ar, .ref am, .ref ak, .ref ao, .ref az, .ref ae, .ref aq, .ref af, .int (bI hi), .int th, .int (nI po), .int (nI ba), .int (nI en), .ref an, .ref aw, .ref ax, .ref ap, .int se]))] ++ [(as, .inl (cI, 53, .inl (sF n d t day al nd bb oo K F kn)))] ++ [(am, .inl (cI, 53, .inl (sF nM dM tM dayM alM ndM bbM ooM KM FM knM)))]) sz) := by
  refine Met.ofW (cc := cX12_ends) (maxL := 1) (ret := none) (by decide) rfl ?_
  intro p e s m args below meth c s₁ B hml hv
  obtain ⟨rfl, hH0, hCX⟩ := hv
  have hx := B.exec
  have hb := B.bytes
  have hr := B.returns
  have hts := atoms_spec (ws := wsX12_ends) B.pre
  have hown : s.vm.findClass RX12 = some m.cls := findClass_of_methodNamed B.named
  have hlocks := B.notSynchronized
  have hK := hCX.1
  obtain ⟨hsz, hP, hD0⟩ := hH0
  subst hsz
  have hD := hD0.self (sz := s.heap.size)
  generalize hAe : va_A ([(y, .inr (12, [.ref as, .ref ai, .ref ar, .ref am, .ref ak, .ref ao, .ref az, .ref ae, .ref aq, .ref af, .int (bI hi), .int th, .int (nI po), .int (nI ba), .int (nI en), .ref an, .ref aw, .ref ax, .ref ap, .int se]))] ++ [(as, .inl (cI, 53, .inl (sF n d t day al nd bb oo K F kn)))] ++ [(am, .inl (cI, 53, .inl (sF nM dM tM dayM alM ndM bbM ooM KM FM knM)))]) s.heap.size = A at hD ⊢
  have hA : ∀ q : Nat, s.heap.size ≤ q → A q := fun q h => by rw [← hAe]; exact Or.inr h
  have hS : va_S A s.heap s.heap [] := va_S.rf
  have hP : va_P (dC, dI) vwCl ([(y, .inr (12, [.ref as, .ref ai, .ref ar, .ref am, .ref ak, .ref ao, .ref az, .ref ae, .ref aq, .ref af, .int (bI hi), .int th, .int (nI po), .int (nI ba), .int (nI en), .ref an, .ref aw, .ref ax, .ref ap, .int se]))] ++ [(as, .inl (cI, 53, .inl (sF n d t day al nd bb oo K F kn)))] ++ [(am, .inl (cI, 53, .inl (sF nM dM tM dayM alM ndM bbM ooM KM FM knM)))]) s.heap := hP
  have hl := lv_entry ([.ref y]) (n := 1) (Nat.le_of_ble_eq_true rfl)
  rw [lg_entry_eq]
  generalize (lg_sl ([.ref y]) ++ List.replicate (1 - (lg_sl ([.ref y])).length) Slot.unset).toArray = ls at hl ⊢
  have hl : lv_has ls 1 [(0, .ref y)] := hl
  refine lv_aload_n hx hb dX12_ends_0 rfl (lv_at hl 0 rfl) ?_
  refine va_get (D := (dC, dI)) (ci := 12) (v := .ref am) (C := RX12) (T := TX12) (N := 20) hx hb hts (fun _ h => List.mem_cons_of_mem _ (List.mem_append_right _ h)) hown hK hP 0 rfl rfl 3 (by decide) (hts (.fieldLink RX12 19 "HoldsOnceDeniedModel" "mind" "[I") (by decide +kernel)) (fun _ h9 => h9) rfl dX12_ends_1 ?_
  refine lv_aload_n hx hb dX12_ends_4 rfl (lv_at hl 0 rfl) ?_
  refine va_get (D := (dC, dI)) (ci := 12) (v := .ref as) (C := RX12) (T := TX12) (N := 20) hx hb hts (fun _ h => List.mem_cons_of_mem _ (List.mem_append_right _ h)) hown hK hP 0 rfl rfl 0 (by decide) (hts (.fieldLink RX12 9 "HoldsOnceDeniedModel" "s" "[I") (by decide +kernel)) (fun _ h9 => h9) rfl dX12_ends_5 ?_
  have hPc := hP.sub (ws' := [(am, .inl (cI, 53, .inl (sF nM dM tM dayM alM ndM bbM ooM KM FM knM)))] ++ [(as, .inl (cI, 53, .inl (sF n d t day al nd bb oo K F kn)))]) [2, 1] rfl
  have hDc := hD.sub (ws' := [(am, .inl (cI, 53, .inl (sF nM dM tM dayM alM ndM bbM ooM KM FM knM)))] ++ [(as, .inl (cI, 53, .inl (sF n d t day al nd bb oo K F kn)))]) [2, 1] (by decide) rfl
  have hFc := va_free (wc := [(am, .inl (cI, 53, .inl (sF nM dM tM dayM alM ndM bbM ooM KM FM knM)))] ++ [(as, .inl (cI, 53, .inl (sF n d t day al nd bb oo K F kn)))]) hD hS hA [2, 1] rfl
  refine va_callv (va_runS (As := [.ref am, .ref as]) (rest := []) ⟨hx, hb, hml, hown, hts⟩ (c_X12_lays l dC dI cI cD cR am as nM dM tM dayM alM ndM bbM ooM KM FM knM n d t day al nd bb oo K F kn s.heap.size) (va_cwS 2 hts gX12_ends_X12_lays rfl rfl rfl (by decide +kernel) ⟨Nat.le_of_ble_eq_true rfl, Nat.le_of_ble_eq_true rfl⟩) (preS_R hCX ⟨rfl, hPc, hDc.weaken (fun _ _ _ _ => trivial)⟩) rfl rfl hl.1 rfl (lv_room (Nat.le_of_ble_eq_true rfl)) dX12_ends_8 ⟨Nat.le_of_ble_eq_true (by first | rfl | decide), Nat.le_of_ble_eq_true (by first | rfl | decide)⟩) hS (fun q _ h => hFc q h) hFc (fun u T8 H1 locs hT8 hvm hw hB hz1 hk1 hS => ?_)
  obtain ⟨hP1, hD1⟩ := hB
  rw [hT8] at hP1
  obtain ⟨hP, hD⟩ := va_join (wr := [(y, .inr (12, [.ref as, .ref ai, .ref ar, .ref am, .ref ak, .ref ao, .ref az, .ref ae, .ref aq, .ref af, .int (bI hi), .int th, .int (nI po), .int (nI ba), .int (nI en), .ref an, .ref aw, .ref ax, .ref ap, .int se]))]) (w1 := [(am, .inl (cI, 53, .inl (sF nM dM tM dayM alM ndM bbM ooM KM FM knM)))] ++ [(as, .inl (cI, 53, .inl (sF nM dM tM dayM alM ndM bbM ooM KM FM knM)))]) hP hD [2, 1] [0] rfl rfl (by decide) (by decide) hk1 hFc hP1 hD1
  generalize H1 = H at hP hS ⊢
  have hP := hP.sub (ws' := [(y, .inr (12, [.ref as, .ref ai, .ref ar, .ref am, .ref ak, .ref ao, .ref az, .ref ae, .ref aq, .ref af, .int (bI hi), .int th, .int (nI po), .int (nI ba), .int (nI en), .ref an, .ref aw, .ref ax, .ref ap, .int se]))] ++ [(as, .inl (cI, 53, .inl (sF nM dM tM dayM alM ndM bbM ooM KM FM knM)))] ++ [(am, .inl (cI, 53, .inl (sF nM dM tM dayM alM ndM bbM ooM KM FM knM)))]) [0, 2, 1] rfl
  have hD := hD.sub (ws' := [(y, .inr (12, [.ref as, .ref ai, .ref ar, .ref am, .ref ak, .ref ao, .ref az, .ref ae, .ref aq, .ref af, .int (bI hi), .int th, .int (nI po), .int (nI ba), .int (nI en), .ref an, .ref aw, .ref ax, .ref ap, .int se]))] ++ [(as, .inl (cI, 53, .inl (sF nM dM tM dayM alM ndM bbM ooM KM FM knM)))] ++ [(am, .inl (cI, 53, .inl (sF nM dM tM dayM alM ndM bbM ooM KM FM knM)))]) [0, 2, 1] (by decide) rfl
  exact W.vret hx hb hr (fun T9 hT9 hW9 => ⟨⟨(), rfl, trivial, by rw [hT9]; exact hP, hD⟩, hS.F hT9⟩) hS.2.2 dX12_ends_11
set_option maxHeartbeats 4000000 in
set_option maxRecDepth 100000 in
theorem c_X12_everything (l : Launch) (dC : Nat → ClassId) (dI : Nat → Nat → Nat) (cI cD cR : ClassId) (y as ai ar am ak ao az ae aq af : Nat) (hi : Bool) (th : Int32) (po ba en an aw ax ap : Nat) (se : Int32) (n d t day al : Nat) (nd : Nat → Nat) (bb oo : Nat → Int32) (K F kn : Nat → Nat) (hn : n ≤ 9) (hd : d ≤ 7) (ht : t < 512) (hal : al < 128) (hday : day < 2 ^ 30) (gnd : ∀ i, nd i < 512) (gkn : ∀ j, kn j < 512) (gK : ∀ j, K j < 8) (gF : ∀ j, F j < 10) : Met l yX12_everything wsX12_everything ({ frames := 0, cells := 0, slots := 0, locals := 0 }) (pcR dC dI cI cD cR [.ref y] (fun H => va_P (dC, dI) vwCl ([(y, .inr (12, [.ref as, .ref ai, .ref ar, .ref am, .ref ak, .ref ao, .ref az, .ref ae, .ref aq, .ref af, .int (bI hi), .int th, .int (nI po), .int (nI ba), .int (nI en), .ref an, .ref aw, .ref ax, .ref ap, .int se]))] ++ [(as, .inl (cI, 53, .inl (sF n d t day al nd bb oo K F kn)))]) H)) (vp_Si (fun r => r = nI (2 ^ n - 1))) 0 0 (fun _ => False) := by
  refine Met.ofW (cc := cX12_everything) (maxL := 1) (ret := (some .int)) (by decide) rfl ?_
  intro p e s m args below meth c s₁ B hml hv
  obtain ⟨rfl, hH0, hCX⟩ := hv
  have hx := B.exec
  have hb := B.bytes
  have hr := B.returns
  have hts := atoms_spec (ws := wsX12_everything) B.pre
  have hown : s.vm.findClass RX12 = some m.cls := findClass_of_methodNamed B.named
  have hlocks := B.notSynchronized
  have hK := hCX.1
  have hP := hH0
  have hl := lv_entry ([.ref y]) (n := 1) (Nat.le_of_ble_eq_true rfl)
  rw [lg_entry_eq]
  generalize (lg_sl ([.ref y]) ++ List.replicate (1 - (lg_sl ([.ref y])).length) Slot.unset).toArray = ls at hl ⊢
  have hl : lv_has ls 1 [(0, .ref y)] := hl
  refine lv_iconst (v := nI 1) hx hb dX12_everything_0 (by decide +kernel) ?_
  refine lv_aload_n hx hb dX12_everything_1 rfl (lv_at hl 0 rfl) ?_
  refine va_get (D := (dC, dI)) (ci := 12) (v := .ref as) (C := RX12) (T := TX12) (N := 20) hx hb hts (fun _ h => List.mem_cons_of_mem _ (List.mem_append_right _ h)) hown hK hP 0 rfl rfl 0 (by decide) (hts (.fieldLink RX12 9 "HoldsOnceDeniedModel" "s" "[I") (by decide +kernel)) (fun _ h9 => h9) rfl dX12_everything_2 ?_
  refine lv_iconst (v := nI 0) hx hb dX12_everything_5 (by decide +kernel) ?_
  refine ho_iald (v := nI n) hx hb hK hP 1 0 rfl rfl (by omega) (by first | decide | omega) rfl dX12_everything_6 ?_
  refine ho_shl1 hx hb dX12_everything_7 (by omega) ?_
  refine lv_iconst (v := nI 1) hx hb dX12_everything_8 (by decide +kernel) ?_
  refine ho_isub hx hb dX12_everything_9 (by omega) ?_
  exact W.iret (v := nI ((2 ^ n) - 1)) hx hb hr (fun T9 hT9 hW9 => ⟨_, rfl, (congrArg nI (by simp [*])), hT9⟩) (fun q h => by cases h) dX12_everything_10
set_option maxHeartbeats 4000000 in
set_option maxRecDepth 100000 in
theorem c_X12_isTrue (l : Launch) (dC : Nat → ClassId) (dI : Nat → Nat → Nat) (cI cD cR : ClassId) (y as ai ar am ak ao az ae aq af : Nat) (hi : Bool) (th : Int32) (po ba en an aw ax ap : Nat) (se : Int32) (n d t day al : Nat) (nd : Nat → Nat) (bb oo : Nat → Int32) (K F kn : Nat → Nat) (i : Nat) (hn : n ≤ 9) (hd : d ≤ 7) (ht : t < 512) (hal : al < 128) (hday : day < 2 ^ 30) (gnd : ∀ i, nd i < 512) (gkn : ∀ j, kn j < 512) (gK : ∀ j, K j < 8) (gF : ∀ j, F j < 10) (hi9 : i < 31) : Met l yX12_isTrue wsX12_isTrue ({ frames := 1, cells := 0, slots := 0, locals := 21 }) (pcR dC dI cI cD cR [.ref y, .int (nI i)] (fun H => va_P (dC, dI) vwCl ([(y, .inr (12, [.ref as, .ref ai, .ref ar, .ref am, .ref ak, .ref ao, .ref az, .ref ae, .ref aq, .ref af, .int (bI hi), .int th, .int (nI po), .int (nI ba), .int (nI en), .ref an, .ref aw, .ref ax, .ref ap, .int se]))] ++ [(as, .inl (cI, 53, .inl (sF n d t day al nd bb oo K F kn)))]) H)) (vp_Si (fun r => r = bI (t.testBit i))) 0 0 (fun _ => False) := by
  refine Met.ofW (cc := cX12_isTrue) (maxL := 2) (ret := (some .boolean)) (by decide) rfl ?_
  intro p e s m args below meth c s₁ B hml hv
  obtain ⟨rfl, hH0, hCX⟩ := hv
  have hx := B.exec
  have hb := B.bytes
  have hr := B.returns
  have hts := atoms_spec (ws := wsX12_isTrue) B.pre
  have hown : s.vm.findClass RX12 = some m.cls := findClass_of_methodNamed B.named
  have hlocks := B.notSynchronized
  have hK := hCX.1
  have hP := hH0
  have hl := lv_entry ([.ref y, .int (nI i)]) (n := 2) (Nat.le_of_ble_eq_true rfl)
  rw [lg_entry_eq]
  generalize (lg_sl ([.ref y, .int (nI i)]) ++ List.replicate (2 - (lg_sl ([.ref y, .int (nI i)])).length) Slot.unset).toArray = ls at hl ⊢
  have hl : lv_has ls 2 [(0, .ref y), (1, .int (nI i))] := hl
  refine lv_aload_n hx hb dX12_isTrue_0 rfl (lv_at hl 0 rfl) ?_
  refine va_get (D := (dC, dI)) (ci := 12) (v := .ref as) (C := RX12) (T := TX12) (N := 20) hx hb hts (fun _ h => List.mem_cons_of_mem _ (List.mem_append_right _ h)) hown hK hP 0 rfl rfl 0 (by decide) (hts (.fieldLink RX12 9 "HoldsOnceDeniedModel" "s" "[I") (by decide +kernel)) (fun _ h9 => h9) rfl dX12_isTrue_1 ?_
  refine lv_iconst (v := nI 2) hx hb dX12_isTrue_4 (by decide +kernel) ?_
  refine ho_iald (v := nI t) hx hb hK hP 1 0 rfl rfl (by omega) (by first | decide | omega) rfl dX12_isTrue_5 ?_
  refine lv_iload_n hx hb dX12_isTrue_6 rfl (lv_at hl 1 rfl) ?_
  refine vp_callSi ((va_runS (As := [.int (nI t), .int (nI i)]) (rest := []) ⟨hx, hb, hml, hown, hts⟩ (c_X12_has l dC dI cI cD cR t i (by first | omega | assumption | exact gnd _ | exact gkn _ | exact Nat.lt_trans (gkn _) (by decide) | exact Nat.lt_trans (gnd _) (by decide) | exact Nat.lt_of_le_of_lt (pcN_le _) (by decide)) (by first | omega | assumption | exact gnd _ | exact gkn _ | exact Nat.lt_trans (gkn _) (by decide) | exact Nat.lt_trans (gnd _) (by decide) | exact Nat.lt_of_le_of_lt (pcN_le _) (by decide))) (va_cwS 2 hts gX12_isTrue_X12_has rfl rfl rfl (by decide +kernel) ⟨Nat.le_of_ble_eq_true rfl, Nat.le_of_ble_eq_true rfl⟩) (preS_R hCX (trivial)) rfl rfl hl.1 rfl (lv_room (Nat.le_of_ble_eq_true rfl)) dX12_isTrue_7 ⟨Nat.le_of_ble_eq_true (by first | rfl | decide), Nat.le_of_ble_eq_true (by first | rfl | decide)⟩).run) (fun r_7 hr_7 => ?_)
  subst hr_7
  exact W.zret (v := bI (t.testBit i)) hx hb hr (bI_nar _) (fun T9 hT9 hW9 => ⟨_, rfl, rfl, hT9⟩) (fun q h => by cases h) dX12_isTrue_10
set_option maxHeartbeats 4000000 in
set_option maxRecDepth 100000 in
theorem c_X12_isAlive (l : Launch) (dC : Nat → ClassId) (dI : Nat → Nat → Nat) (cI cD cR : ClassId) (y as ai ar am ak ao az ae aq af : Nat) (hi : Bool) (th : Int32) (po ba en an aw ax ap : Nat) (se : Int32) (n d t day al : Nat) (nd : Nat → Nat) (bb oo : Nat → Int32) (K F kn : Nat → Nat) (j : Nat) (hn : n ≤ 9) (hd : d ≤ 7) (ht : t < 512) (hal : al < 128) (hday : day < 2 ^ 30) (gnd : ∀ i, nd i < 512) (gkn : ∀ j, kn j < 512) (gK : ∀ j, K j < 8) (gF : ∀ j, F j < 10) (hj9 : j < 31) : Met l yX12_isAlive wsX12_isAlive ({ frames := 1, cells := 0, slots := 0, locals := 21 }) (pcR dC dI cI cD cR [.ref y, .int (nI j)] (fun H => va_P (dC, dI) vwCl ([(y, .inr (12, [.ref as, .ref ai, .ref ar, .ref am, .ref ak, .ref ao, .ref az, .ref ae, .ref aq, .ref af, .int (bI hi), .int th, .int (nI po), .int (nI ba), .int (nI en), .ref an, .ref aw, .ref ax, .ref ap, .int se]))] ++ [(as, .inl (cI, 53, .inl (sF n d t day al nd bb oo K F kn)))]) H)) (vp_Si (fun r => r = bI (al.testBit j))) 0 0 (fun _ => False) := by
  refine Met.ofW (cc := cX12_isAlive) (maxL := 2) (ret := (some .boolean)) (by decide) rfl ?_
  intro p e s m args below meth c s₁ B hml hv
  obtain ⟨rfl, hH0, hCX⟩ := hv
  have hx := B.exec
  have hb := B.bytes
  have hr := B.returns
  have hts := atoms_spec (ws := wsX12_isAlive) B.pre
  have hown : s.vm.findClass RX12 = some m.cls := findClass_of_methodNamed B.named
  have hlocks := B.notSynchronized
  have hK := hCX.1
  have hP := hH0
  have hl := lv_entry ([.ref y, .int (nI j)]) (n := 2) (Nat.le_of_ble_eq_true rfl)
  rw [lg_entry_eq]
  generalize (lg_sl ([.ref y, .int (nI j)]) ++ List.replicate (2 - (lg_sl ([.ref y, .int (nI j)])).length) Slot.unset).toArray = ls at hl ⊢
  have hl : lv_has ls 2 [(0, .ref y), (1, .int (nI j))] := hl
  refine lv_aload_n hx hb dX12_isAlive_0 rfl (lv_at hl 0 rfl) ?_
  refine va_get (D := (dC, dI)) (ci := 12) (v := .ref as) (C := RX12) (T := TX12) (N := 20) hx hb hts (fun _ h => List.mem_cons_of_mem _ (List.mem_append_right _ h)) hown hK hP 0 rfl rfl 0 (by decide) (hts (.fieldLink RX12 9 "HoldsOnceDeniedModel" "s" "[I") (by decide +kernel)) (fun _ h9 => h9) rfl dX12_isAlive_1 ?_
  refine lv_iconst (v := nI 4) hx hb dX12_isAlive_4 (by decide +kernel) ?_
  refine ho_iald (v := nI al) hx hb hK hP 1 0 rfl rfl (by omega) (by first | decide | omega) rfl dX12_isAlive_5 ?_
  refine lv_iload_n hx hb dX12_isAlive_6 rfl (lv_at hl 1 rfl) ?_
  refine vp_callSi ((va_runS (As := [.int (nI al), .int (nI j)]) (rest := []) ⟨hx, hb, hml, hown, hts⟩ (c_X12_has l dC dI cI cD cR al j (by first | omega | assumption | exact gnd _ | exact gkn _ | exact Nat.lt_trans (gkn _) (by decide) | exact Nat.lt_trans (gnd _) (by decide) | exact Nat.lt_of_le_of_lt (pcN_le _) (by decide)) (by first | omega | assumption | exact gnd _ | exact gkn _ | exact Nat.lt_trans (gkn _) (by decide) | exact Nat.lt_trans (gnd _) (by decide) | exact Nat.lt_of_le_of_lt (pcN_le _) (by decide))) (va_cwS 2 hts gX12_isAlive_X12_has rfl rfl rfl (by decide +kernel) ⟨Nat.le_of_ble_eq_true rfl, Nat.le_of_ble_eq_true rfl⟩) (preS_R hCX (trivial)) rfl rfl hl.1 rfl (lv_room (Nat.le_of_ble_eq_true rfl)) dX12_isAlive_7 ⟨Nat.le_of_ble_eq_true (by first | rfl | decide), Nat.le_of_ble_eq_true (by first | rfl | decide)⟩).run) (fun r_7 hr_7 => ?_)
  subst hr_7
  exact W.zret (v := bI (al.testBit j)) hx hb hr (bI_nar _) (fun T9 hT9 hW9 => ⟨_, rfl, rfl, hT9⟩) (fun q h => by cases h) dX12_isAlive_10
set_option maxHeartbeats 4000000 in
set_option maxRecDepth 100000 in
theorem c_X12_knows (l : Launch) (dC : Nat → ClassId) (dI : Nat → Nat → Nat) (cI cD cR : ClassId) (y as ai ar am ak ao az ae aq af : Nat) (hi : Bool) (th : Int32) (po ba en an aw ax ap : Nat) (se : Int32) (n d t day al : Nat) (nd : Nat → Nat) (bb oo : Nat → Int32) (K F kn : Nat → Nat) (j i : Nat) (hn : n ≤ 9) (hd : d ≤ 7) (ht : t < 512) (hal : al < 128) (hday : day < 2 ^ 30) (gnd : ∀ i, nd i < 512) (gkn : ∀ j, kn j < 512) (gK : ∀ j, K j < 8) (gF : ∀ j, F j < 10) (hj9 : j < 7) (hi9 : i < 31) : Met l yX12_knows wsX12_knows ({ frames := 1, cells := 0, slots := 0, locals := 22 }) (pcR dC dI cI cD cR [.ref y, .int (nI j), .int (nI i)] (fun H => va_P (dC, dI) vwCl ([(y, .inr (12, [.ref as, .ref ai, .ref ar, .ref am, .ref ak, .ref ao, .ref az, .ref ae, .ref aq, .ref af, .int (bI hi), .int th, .int (nI po), .int (nI ba), .int (nI en), .ref an, .ref aw, .ref ax, .ref ap, .int se]))] ++ [(as, .inl (cI, 53, .inl (sF n d t day al nd bb oo K F kn)))]) H)) (vp_Si (fun r => r = bI ((kn j).testBit i))) 0 0 (fun _ => False) := by
  refine Met.ofW (cc := cX12_knows) (maxL := 3) (ret := (some .boolean)) (by decide) rfl ?_
  intro p e s m args below meth c s₁ B hml hv
  obtain ⟨rfl, hH0, hCX⟩ := hv
  have hx := B.exec
  have hb := B.bytes
  have hr := B.returns
  have hts := atoms_spec (ws := wsX12_knows) B.pre
  have hown : s.vm.findClass RX12 = some m.cls := findClass_of_methodNamed B.named
  have hlocks := B.notSynchronized
  have hK := hCX.1
  have hP := hH0
  have hl := lv_entry ([.ref y, .int (nI j), .int (nI i)]) (n := 3) (Nat.le_of_ble_eq_true rfl)
  rw [lg_entry_eq]
  generalize (lg_sl ([.ref y, .int (nI j), .int (nI i)]) ++ List.replicate (3 - (lg_sl ([.ref y, .int (nI j), .int (nI i)])).length) Slot.unset).toArray = ls at hl ⊢
  have hl : lv_has ls 3 [(0, .ref y), (1, .int (nI j)), (2, .int (nI i))] := hl
  refine lv_aload_n hx hb dX12_knows_0 rfl (lv_at hl 0 rfl) ?_
  refine lv_iload_n hx hb dX12_knows_1 rfl (lv_at hl 1 rfl) ?_
  refine lv_iconst (v := nI 2) hx hb dX12_knows_2 (by decide +kernel) ?_
  refine vp_callSi ((va_runV (As := [.int (nI j), .int (nI 2)]) (rest := []) ⟨hx, hb, hml, hown, hts⟩ (c_X12_get_2 l dC dI cI cD cR y as ai ar am ak ao az ae aq af hi th po ba en an aw ax ap se n d t day al nd bb oo K F kn j (by first | omega | assumption | exact gnd _ | exact gkn _ | exact Nat.lt_trans (gkn _) (by decide) | exact Nat.lt_trans (gnd _) (by decide) | exact Nat.lt_of_le_of_lt (pcN_le _) (by decide)) (by first | omega | assumption | exact gnd _ | exact gkn _ | exact Nat.lt_trans (gkn _) (by decide) | exact Nat.lt_trans (gnd _) (by decide) | exact Nat.lt_of_le_of_lt (pcN_le _) (by decide)) (by first | omega | assumption | exact gnd _ | exact gkn _ | exact Nat.lt_trans (gkn _) (by decide) | exact Nat.lt_trans (gnd _) (by decide) | exact Nat.lt_of_le_of_lt (pcN_le _) (by decide)) (by first | omega | assumption | exact gnd _ | exact gkn _ | exact Nat.lt_trans (gkn _) (by decide) | exact Nat.lt_trans (gnd _) (by decide) | exact Nat.lt_of_le_of_lt (pcN_le _) (by decide)) (by first | omega | assumption | exact gnd _ | exact gkn _ | exact Nat.lt_trans (gkn _) (by decide) | exact Nat.lt_trans (gnd _) (by decide) | exact Nat.lt_of_le_of_lt (pcN_le _) (by decide)) gnd gkn gK gF (by first | omega | assumption | exact gnd _ | exact gkn _ | exact Nat.lt_trans (gkn _) (by decide) | exact Nat.lt_trans (gnd _) (by decide) | exact Nat.lt_of_le_of_lt (pcN_le _) (by decide))) (cwV 2 hts gX12_knows_X12_get rfl rfl rfl (by decide +kernel) ⟨Nat.le_of_ble_eq_true rfl, Nat.le_of_ble_eq_true rfl⟩) (preV_R hCX (va_recv hK hP (ci := 12) (q0 := 0) rfl rfl) (hP)) rfl rfl hl.1 rfl (lv_room (Nat.le_of_ble_eq_true rfl)) dX12_knows_3 ⟨Nat.le_of_ble_eq_true (by first | rfl | decide), Nat.le_of_ble_eq_true (by first | rfl | decide)⟩).run) (fun r_3 hr_3 => ?_)
  subst hr_3
  refine lv_iload_n hx hb dX12_knows_6 rfl (lv_at hl 2 rfl) ?_
  refine vp_callSi ((va_runS (As := [.int (nI (kn j)), .int (nI i)]) (rest := []) ⟨hx, hb, hml, hown, hts⟩ (c_X12_has l dC dI cI cD cR (kn j) i (Nat.lt_trans (gkn j) (by decide)) (by first | omega | assumption | exact gnd _ | exact gkn _ | exact Nat.lt_trans (gkn _) (by decide) | exact Nat.lt_trans (gnd _) (by decide) | exact Nat.lt_of_le_of_lt (pcN_le _) (by decide))) (va_cwS 2 hts gX12_knows_X12_has rfl rfl rfl (by decide +kernel) ⟨Nat.le_of_ble_eq_true rfl, Nat.le_of_ble_eq_true rfl⟩) (preS_R hCX (trivial)) rfl rfl hl.1 rfl (lv_room (Nat.le_of_ble_eq_true rfl)) dX12_knows_7 ⟨Nat.le_of_ble_eq_true (by first | rfl | decide), Nat.le_of_ble_eq_true (by first | rfl | decide)⟩).run) (fun r_7 hr_7 => ?_)
  subst hr_7
  exact W.zret (v := bI ((kn j).testBit i)) hx hb hr (bI_nar _) (fun T9 hT9 hW9 => ⟨_, rfl, rfl, hT9⟩) (fun q h => by cases h) dX12_knows_10
set_option maxHeartbeats 4000000 in
set_option maxRecDepth 100000 in
theorem c_X12_isMet (l : Launch) (dC : Nat → ClassId) (dI : Nat → Nat → Nat) (cI cD cR : ClassId) (y as ai ar am ak ao az ae aq af : Nat) (hi : Bool) (th : Int32) (po ba en an aw ax ap : Nat) (se : Int32) (n d t day al : Nat) (nd : Nat → Nat) (bb oo : Nat → Int32) (K F kn : Nat → Nat) (j i : Nat) (hn : n ≤ 9) (hd : d ≤ 7) (ht : t < 512) (hal : al < 128) (hday : day < 2 ^ 30) (gnd : ∀ i, nd i < 512) (gkn : ∀ j, kn j < 512) (gK : ∀ j, K j < 8) (gF : ∀ j, F j < 10) (hj9 : j < 7) (hi9 : i < 9) : Met l yX12_isMet wsX12_isMet ({ frames := 1, cells := 0, slots := 0, locals := 22 }) (pcR dC dI cI cD cR [.ref y, .int (nI j), .int (nI i)] (fun H => va_P (dC, dI) vwCl ([(y, .inr (12, [.ref as, .ref ai, .ref ar, .ref am, .ref ak, .ref ao, .ref az, .ref ae, .ref aq, .ref af, .int (bI hi), .int th, .int (nI po), .int (nI ba), .int (nI en), .ref an, .ref aw, .ref ax, .ref ap, .int se]))] ++ [(as, .inl (cI, 53, .inl (sF n d t day al nd bb oo K F kn)))]) H)) (vp_Si (fun r => r = bI (meB t (kn j) (nd i)))) 0 0 (fun _ => False) := by
  refine Met.ofW (cc := cX12_isMet) (maxL := 3) (ret := (some .boolean)) (by decide) rfl ?_
  intro p e s m args below meth c s₁ B hml hv
  obtain ⟨rfl, hH0, hCX⟩ := hv
  have hx := B.exec
  have hb := B.bytes
  have hr := B.returns
  have hts := atoms_spec (ws := wsX12_isMet) B.pre
  have hown : s.vm.findClass RX12 = some m.cls := findClass_of_methodNamed B.named
  have hlocks := B.notSynchronized
  have hK := hCX.1
  have hP := hH0
  have hl := lv_entry ([.ref y, .int (nI j), .int (nI i)]) (n := 3) (Nat.le_of_ble_eq_true rfl)
  rw [lg_entry_eq]
  generalize (lg_sl ([.ref y, .int (nI j), .int (nI i)]) ++ List.replicate (3 - (lg_sl ([.ref y, .int (nI j), .int (nI i)])).length) Slot.unset).toArray = ls at hl ⊢
  have hl : lv_has ls 3 [(0, .ref y), (1, .int (nI j)), (2, .int (nI i))] := hl
  refine lv_aload_n hx hb dX12_isMet_0 rfl (lv_at hl 0 rfl) ?_
  refine lv_iload_n hx hb dX12_isMet_1 rfl (lv_at hl 2 rfl) ?_
  refine lv_iconst (v := nI 0) hx hb dX12_isMet_2 (by decide +kernel) ?_
  refine vp_callSi ((va_runV (As := [.int (nI i), .int (nI 0)]) (rest := []) ⟨hx, hb, hml, hown, hts⟩ (c_X12_of_0 l dC dI cI cD cR y as ai ar am ak ao az ae aq af hi th po ba en an aw ax ap se n d t day al nd bb oo K F kn i (by first | omega | assumption | exact gnd _ | exact gkn _ | exact Nat.lt_trans (gkn _) (by decide) | exact Nat.lt_trans (gnd _) (by decide) | exact Nat.lt_of_le_of_lt (pcN_le _) (by decide)) (by first | omega | assumption | exact gnd _ | exact gkn _ | exact Nat.lt_trans (gkn _) (by decide) | exact Nat.lt_trans (gnd _) (by decide) | exact Nat.lt_of_le_of_lt (pcN_le _) (by decide)) (by first | omega | assumption | exact gnd _ | exact gkn _ | exact Nat.lt_trans (gkn _) (by decide) | exact Nat.lt_trans (gnd _) (by decide) | exact Nat.lt_of_le_of_lt (pcN_le _) (by decide)) (by first | omega | assumption | exact gnd _ | exact gkn _ | exact Nat.lt_trans (gkn _) (by decide) | exact Nat.lt_trans (gnd _) (by decide) | exact Nat.lt_of_le_of_lt (pcN_le _) (by decide)) (by first | omega | assumption | exact gnd _ | exact gkn _ | exact Nat.lt_trans (gkn _) (by decide) | exact Nat.lt_trans (gnd _) (by decide) | exact Nat.lt_of_le_of_lt (pcN_le _) (by decide)) gnd gkn gK gF (by first | omega | assumption | exact gnd _ | exact gkn _ | exact Nat.lt_trans (gkn _) (by decide) | exact Nat.lt_trans (gnd _) (by decide) | exact Nat.lt_of_le_of_lt (pcN_le _) (by decide))) (cwV 2 hts gX12_isMet_X12_of rfl rfl rfl (by decide +kernel) ⟨Nat.le_of_ble_eq_true rfl, Nat.le_of_ble_eq_true rfl⟩) (preV_R hCX (va_recv hK hP (ci := 12) (q0 := 0) rfl rfl) (hP)) rfl rfl hl.1 rfl (lv_room (Nat.le_of_ble_eq_true rfl)) dX12_isMet_3 ⟨Nat.le_of_ble_eq_true (by first | rfl | decide), Nat.le_of_ble_eq_true (by first | rfl | decide)⟩).run) (fun r_3 hr_3 => ?_)
  subst hr_3
  refine lv_aload_n hx hb dX12_isMet_6 rfl (lv_at hl 0 rfl) ?_
  refine va_get (D := (dC, dI)) (ci := 12) (v := .ref as) (C := RX12) (T := TX12) (N := 20) hx hb hts (fun _ h => List.mem_cons_of_mem _ (List.mem_append_right _ h)) hown hK hP 0 rfl rfl 0 (by decide) (hts (.fieldLink RX12 9 "HoldsOnceDeniedModel" "s" "[I") (by decide +kernel)) (fun _ h9 => h9) rfl dX12_isMet_7 ?_
  refine lv_iconst (v := nI 2) hx hb dX12_isMet_10 (by decide +kernel) ?_
  refine ho_iald (v := nI t) hx hb hK hP 1 0 rfl rfl (by omega) (by first | decide | omega) rfl dX12_isMet_11 ?_
  refine lv_aload_n hx hb dX12_isMet_12 rfl (lv_at hl 0 rfl) ?_
  refine lv_iload_n hx hb dX12_isMet_13 rfl (lv_at hl 1 rfl) ?_
  refine lv_iconst (v := nI 2) hx hb dX12_isMet_14 (by decide +kernel) ?_
  refine vp_callSi ((va_runV (As := [.int (nI j), .int (nI 2)]) (rest := [.int (nI t), .int (nI (nd i))]) ⟨hx, hb, hml, hown, hts⟩ (c_X12_get_2 l dC dI cI cD cR y as ai ar am ak ao az ae aq af hi th po ba en an aw ax ap se n d t day al nd bb oo K F kn j (by first | omega | assumption | exact gnd _ | exact gkn _ | exact Nat.lt_trans (gkn _) (by decide) | exact Nat.lt_trans (gnd _) (by decide) | exact Nat.lt_of_le_of_lt (pcN_le _) (by decide)) (by first | omega | assumption | exact gnd _ | exact gkn _ | exact Nat.lt_trans (gkn _) (by decide) | exact Nat.lt_trans (gnd _) (by decide) | exact Nat.lt_of_le_of_lt (pcN_le _) (by decide)) (by first | omega | assumption | exact gnd _ | exact gkn _ | exact Nat.lt_trans (gkn _) (by decide) | exact Nat.lt_trans (gnd _) (by decide) | exact Nat.lt_of_le_of_lt (pcN_le _) (by decide)) (by first | omega | assumption | exact gnd _ | exact gkn _ | exact Nat.lt_trans (gkn _) (by decide) | exact Nat.lt_trans (gnd _) (by decide) | exact Nat.lt_of_le_of_lt (pcN_le _) (by decide)) (by first | omega | assumption | exact gnd _ | exact gkn _ | exact Nat.lt_trans (gkn _) (by decide) | exact Nat.lt_trans (gnd _) (by decide) | exact Nat.lt_of_le_of_lt (pcN_le _) (by decide)) gnd gkn gK gF (by first | omega | assumption | exact gnd _ | exact gkn _ | exact Nat.lt_trans (gkn _) (by decide) | exact Nat.lt_trans (gnd _) (by decide) | exact Nat.lt_of_le_of_lt (pcN_le _) (by decide))) (cwV 2 hts gX12_isMet_X12_get rfl rfl rfl (by decide +kernel) ⟨Nat.le_of_ble_eq_true rfl, Nat.le_of_ble_eq_true rfl⟩) (preV_R hCX (va_recv hK hP (ci := 12) (q0 := 0) rfl rfl) (hP)) rfl rfl hl.1 rfl (lv_room (Nat.le_of_ble_eq_true rfl)) dX12_isMet_15 ⟨Nat.le_of_ble_eq_true (by first | rfl | decide), Nat.le_of_ble_eq_true (by first | rfl | decide)⟩).run) (fun r_15 hr_15 => ?_)
  subst hr_15
  refine ho_ior hx hb dX12_isMet_18 ?_
  refine lv_iconst (v := (-1)) hx hb dX12_isMet_19 (by decide +kernel) ?_
  refine lv_ixor hx hb dX12_isMet_20 ?_
  refine ho_iandC hx hb dX12_isMet_21 ?_
  refine ho_if_ne (tgt := 29) hx hb dX12_isMet_22 (by decide) (Nat.lt_trans (sdf_lt (gnd i)) (by decide)) (fun c_22 => ?_) (fun c_22 => ?_)
  · refine lv_iconst (v := nI 0) hx hb dX12_isMet_29 (by decide +kernel) ?_
    exact W.zret (v := nI 0) hx hb hr rfl (fun T9 hT9 hW9 => ⟨_, rfl, (bI_f (by simp [meB, c_22])), hT9⟩) (fun q h => by cases h) dX12_isMet_30
  refine lv_iconst (v := nI 1) hx hb dX12_isMet_25 (by decide +kernel) ?_
  refine lv_goto (tgt := 30) hx hb dX12_isMet_26 (by decide) ?_
  exact W.zret (v := nI 1) hx hb hr rfl (fun T9 hT9 hW9 => ⟨_, rfl, (bI_t (by simp [meB, c_22])), hT9⟩) (fun q h => by cases h) dX12_isMet_30
set_option maxHeartbeats 4000000 in
set_option maxRecDepth 100000 in
theorem c_X12_mayIf (l : Launch) (dC : Nat → ClassId) (dI : Nat → Nat → Nat) (cI cD cR : ClassId) (y as ai ar am ak ao az ae aq af : Nat) (hi : Bool) (th : Int32) (po ba en an aw ax ap : Nat) (se : Int32) (n d t day al : Nat) (nd : Nat → Nat) (bb oo : Nat → Int32) (K F kn : Nat → Nat) (j i : Nat) (hn : n ≤ 9) (hd : d ≤ 7) (ht : t < 512) (hal : al < 128) (hday : day < 2 ^ 30) (gnd : ∀ i, nd i < 512) (gkn : ∀ j, kn j < 512) (gK : ∀ j, K j < 8) (gF : ∀ j, F j < 10) (hj9 : j < 7) (hi9 : i < 9) : Met l yX12_mayIf wsX12_mayIf ({ frames := 2, cells := 0, slots := 0, locals := 44 }) (pcR dC dI cI cD cR [.ref y, .int (nI j), .int (nI i)] (fun H => va_P (dC, dI) vwCl ([(y, .inr (12, [.ref as, .ref ai, .ref ar, .ref am, .ref ak, .ref ao, .ref az, .ref ae, .ref aq, .ref af, .int (bI hi), .int th, .int (nI po), .int (nI ba), .int (nI en), .ref an, .ref aw, .ref ax, .ref ap, .int se]))] ++ [(as, .inl (cI, 53, .inl (sF n d t day al nd bb oo K F kn)))]) H)) (vp_Si (fun r => r = bI (maB (K j) (F j) t (kn j) (nd i) i))) 0 0 (fun _ => False) := by
  refine Met.ofW (cc := cX12_mayIf) (maxL := 6) (ret := (some .boolean)) (by decide) rfl ?_
  intro p e s m args below meth c s₁ B hml hv
  obtain ⟨rfl, hH0, hCX⟩ := hv
  have hx := B.exec
  have hb := B.bytes
  have hr := B.returns
  have hts := atoms_spec (ws := wsX12_mayIf) B.pre
  have hown : s.vm.findClass RX12 = some m.cls := findClass_of_methodNamed B.named
  have hlocks := B.notSynchronized
  have hK := hCX.1
  have hP := hH0
  have hl := lv_entry ([.ref y, .int (nI j), .int (nI i)]) (n := 6) (Nat.le_of_ble_eq_true rfl)
  rw [lg_entry_eq]
  generalize (lg_sl ([.ref y, .int (nI j), .int (nI i)]) ++ List.replicate (6 - (lg_sl ([.ref y, .int (nI j), .int (nI i)])).length) Slot.unset).toArray = ls at hl ⊢
  have hl : lv_has ls 6 [(0, .ref y), (1, .int (nI j)), (2, .int (nI i))] := hl
  refine lv_aload_n hx hb dX12_mayIf_0 rfl (lv_at hl 0 rfl) ?_
  refine lv_iload_n hx hb dX12_mayIf_1 rfl (lv_at hl 1 rfl) ?_
  refine lv_iconst (v := nI 1) hx hb dX12_mayIf_2 (by decide +kernel) ?_
  refine vp_callSi ((va_runV (As := [.int (nI j), .int (nI 1)]) (rest := []) ⟨hx, hb, hml, hown, hts⟩ (c_X12_get_1 l dC dI cI cD cR y as ai ar am ak ao az ae aq af hi th po ba en an aw ax ap se n d t day al nd bb oo K F kn j (by first | omega | assumption | exact gnd _ | exact gkn _ | exact Nat.lt_trans (gkn _) (by decide) | exact Nat.lt_trans (gnd _) (by decide) | exact Nat.lt_of_le_of_lt (pcN_le _) (by decide)) (by first | omega | assumption | exact gnd _ | exact gkn _ | exact Nat.lt_trans (gkn _) (by decide) | exact Nat.lt_trans (gnd _) (by decide) | exact Nat.lt_of_le_of_lt (pcN_le _) (by decide)) (by first | omega | assumption | exact gnd _ | exact gkn _ | exact Nat.lt_trans (gkn _) (by decide) | exact Nat.lt_trans (gnd _) (by decide) | exact Nat.lt_of_le_of_lt (pcN_le _) (by decide)) (by first | omega | assumption | exact gnd _ | exact gkn _ | exact Nat.lt_trans (gkn _) (by decide) | exact Nat.lt_trans (gnd _) (by decide) | exact Nat.lt_of_le_of_lt (pcN_le _) (by decide)) (by first | omega | assumption | exact gnd _ | exact gkn _ | exact Nat.lt_trans (gkn _) (by decide) | exact Nat.lt_trans (gnd _) (by decide) | exact Nat.lt_of_le_of_lt (pcN_le _) (by decide)) gnd gkn gK gF (by first | omega | assumption | exact gnd _ | exact gkn _ | exact Nat.lt_trans (gkn _) (by decide) | exact Nat.lt_trans (gnd _) (by decide) | exact Nat.lt_of_le_of_lt (pcN_le _) (by decide))) (cwV 2 hts gX12_mayIf_X12_get rfl rfl rfl (by decide +kernel) ⟨Nat.le_of_ble_eq_true rfl, Nat.le_of_ble_eq_true rfl⟩) (preV_R hCX (va_recv hK hP (ci := 12) (q0 := 0) rfl rfl) (hP)) rfl rfl hl.1 rfl (lv_room (Nat.le_of_ble_eq_true rfl)) dX12_mayIf_3 ⟨Nat.le_of_ble_eq_true (by first | rfl | decide), Nat.le_of_ble_eq_true (by first | rfl | decide)⟩).run) (fun r_3 hr_3 => ?_)
  subst hr_3
  have hF9 := gF j
  refine lv_istore_n (lv' := [(3, .int (nI (F j))), (0, .ref y), (1, .int (nI j)), (2, .int (nI i))]) hx hb dX12_mayIf_6 rfl hl (by decide) rfl (fun ls hl => ?_)
  refine lv_aload_n hx hb dX12_mayIf_7 rfl (lv_at hl 1 rfl) ?_
  refine lv_iload_n hx hb dX12_mayIf_8 rfl (lv_at hl 3 rfl) ?_
  refine vp_callSi ((va_runV (As := [.int (nI i)]) (rest := []) ⟨hx, hb, hml, hown, hts⟩ (c_X12_isTrue l dC dI cI cD cR y as ai ar am ak ao az ae aq af hi th po ba en an aw ax ap se n d t day al nd bb oo K F kn i (by first | omega | assumption | exact gnd _ | exact gkn _ | exact Nat.lt_trans (gkn _) (by decide) | exact Nat.lt_trans (gnd _) (by decide) | exact Nat.lt_of_le_of_lt (pcN_le _) (by decide)) (by first | omega | assumption | exact gnd _ | exact gkn _ | exact Nat.lt_trans (gkn _) (by decide) | exact Nat.lt_trans (gnd _) (by decide) | exact Nat.lt_of_le_of_lt (pcN_le _) (by decide)) (by first | omega | assumption | exact gnd _ | exact gkn _ | exact Nat.lt_trans (gkn _) (by decide) | exact Nat.lt_trans (gnd _) (by decide) | exact Nat.lt_of_le_of_lt (pcN_le _) (by decide)) (by first | omega | assumption | exact gnd _ | exact gkn _ | exact Nat.lt_trans (gkn _) (by decide) | exact Nat.lt_trans (gnd _) (by decide) | exact Nat.lt_of_le_of_lt (pcN_le _) (by decide)) (by first | omega | assumption | exact gnd _ | exact gkn _ | exact Nat.lt_trans (gkn _) (by decide) | exact Nat.lt_trans (gnd _) (by decide) | exact Nat.lt_of_le_of_lt (pcN_le _) (by decide)) gnd gkn gK gF (by first | omega | assumption | exact gnd _ | exact gkn _ | exact Nat.lt_trans (gkn _) (by decide) | exact Nat.lt_trans (gnd _) (by decide) | exact Nat.lt_of_le_of_lt (pcN_le _) (by decide))) (cwV 1 hts gX12_mayIf_X12_isTrue rfl rfl rfl (by decide +kernel) ⟨Nat.le_of_ble_eq_true rfl, Nat.le_of_ble_eq_true rfl⟩) (preV_R hCX (va_recv hK hP (ci := 12) (q0 := 0) rfl rfl) (hP)) rfl rfl hl.1 rfl (lv_room (Nat.le_of_ble_eq_true rfl)) dX12_mayIf_9 ⟨Nat.le_of_ble_eq_true (by first | rfl | decide), Nat.le_of_ble_eq_true (by first | rfl | decide)⟩).run) (fun r_9 hr_9 => ?_)
  subst hr_9
  refine ho_bne (tgt := 19) hx hb dX12_mayIf_12 (by decide) (fun c_12 => ?_) (fun c_12 => ?_)
  · refine lv_iconst (v := nI 0) hx hb dX12_mayIf_19 (by decide +kernel) ?_
    refine lv_istore (lv' := [(4, .int (nI 0)), (3, .int (nI (F j))), (0, .ref y), (1, .int (nI j)), (2, .int (nI i))]) hx hb dX12_mayIf_20 hl (by decide) rfl (fun ls hl => ?_)
    refine lv_iload hx hb dX12_mayIf_22 (lv_at hl 0 rfl) ?_
    refine lv_if_eq (tgt := 40) hx hb dX12_mayIf_24 (by decide) (fun _ => ?_) (fun z => absurd z (by decide +kernel))
    refine lv_iconst (v := nI 0) hx hb dX12_mayIf_40 (by decide +kernel) ?_
    refine lv_istore (lv' := [(5, .int (nI 0)), (4, .int (nI 0)), (3, .int (nI (F j))), (0, .ref y), (1, .int (nI j)), (2, .int (nI i))]) hx hb dX12_mayIf_41 hl (by decide) rfl (fun ls hl => ?_)
    refine lv_aload_n hx hb dX12_mayIf_43 rfl (lv_at hl 3 rfl) ?_
    refine lv_iload_n hx hb dX12_mayIf_44 rfl (lv_at hl 4 rfl) ?_
    refine lv_iconst (v := nI 0) hx hb dX12_mayIf_45 (by decide +kernel) ?_
    refine vp_callSi ((va_runV (As := [.int (nI j), .int (nI 0)]) (rest := []) ⟨hx, hb, hml, hown, hts⟩ (c_X12_get_0 l dC dI cI cD cR y as ai ar am ak ao az ae aq af hi th po ba en an aw ax ap se n d t day al nd bb oo K F kn j (by first | omega | assumption | exact gnd _ | exact gkn _ | exact Nat.lt_trans (gkn _) (by decide) | exact Nat.lt_trans (gnd _) (by decide) | exact Nat.lt_of_le_of_lt (pcN_le _) (by decide)) (by first | omega | assumption | exact gnd _ | exact gkn _ | exact Nat.lt_trans (gkn _) (by decide) | exact Nat.lt_trans (gnd _) (by decide) | exact Nat.lt_of_le_of_lt (pcN_le _) (by decide)) (by first | omega | assumption | exact gnd _ | exact gkn _ | exact Nat.lt_trans (gkn _) (by decide) | exact Nat.lt_trans (gnd _) (by decide) | exact Nat.lt_of_le_of_lt (pcN_le _) (by decide)) (by first | omega | assumption | exact gnd _ | exact gkn _ | exact Nat.lt_trans (gkn _) (by decide) | exact Nat.lt_trans (gnd _) (by decide) | exact Nat.lt_of_le_of_lt (pcN_le _) (by decide)) (by first | omega | assumption | exact gnd _ | exact gkn _ | exact Nat.lt_trans (gkn _) (by decide) | exact Nat.lt_trans (gnd _) (by decide) | exact Nat.lt_of_le_of_lt (pcN_le _) (by decide)) gnd gkn gK gF (by first | omega | assumption | exact gnd _ | exact gkn _ | exact Nat.lt_trans (gkn _) (by decide) | exact Nat.lt_trans (gnd _) (by decide) | exact Nat.lt_of_le_of_lt (pcN_le _) (by decide))) (cwV 2 hts gX12_mayIf_X12_get rfl rfl rfl (by decide +kernel) ⟨Nat.le_of_ble_eq_true rfl, Nat.le_of_ble_eq_true rfl⟩) (preV_R hCX (va_recv hK hP (ci := 12) (q0 := 0) rfl rfl) (hP)) rfl rfl hl.1 rfl (lv_room (Nat.le_of_ble_eq_true rfl)) dX12_mayIf_46 ⟨Nat.le_of_ble_eq_true (by first | rfl | decide), Nat.le_of_ble_eq_true (by first | rfl | decide)⟩).run) (fun r_46 hr_46 => ?_)
    subst hr_46
    have hK9 := gK j
    by_cases k_49_0 : K j = 1
    · refine ho_tope (y := nI 1) (by rw [k_49_0]) ?_
      refine lv_tableIn (tgt := 92) hx hb dX12_mayIf_49 (by decide +kernel) (by decide +kernel) (off := 43) (by decide +kernel) (by decide) ?_
      refine lv_iload hx hb dX12_mayIf_92 (lv_at hl 1 rfl) ?_
      exact W.zret (v := nI 0) hx hb hr rfl (fun T9 hT9 hW9 => ⟨_, rfl, (bI_f (by (simp [maB, plB, c_12, k_49_0]) <;> first | omega | rfl)), hT9⟩) (fun q h => by cases h) dX12_mayIf_94
    by_cases k_49_1 : K j = 2
    · refine ho_tope (y := nI 2) (by rw [k_49_1]) ?_
      refine lv_tableIn (tgt := 95) hx hb dX12_mayIf_49 (by decide +kernel) (by decide +kernel) (off := 46) (by decide +kernel) (by decide) ?_
      refine lv_iload hx hb dX12_mayIf_95 (lv_at hl 0 rfl) ?_
      refine lv_if_eq (tgt := 113) hx hb dX12_mayIf_97 (by decide) (fun _ => ?_) (fun z => absurd z (by decide +kernel))
      refine lv_iconst (v := nI 0) hx hb dX12_mayIf_113 (by decide +kernel) ?_
      exact W.zret (v := nI 0) hx hb hr rfl (fun T9 hT9 hW9 => ⟨_, rfl, (bI_f (by (simp [maB, plB, c_12, k_49_1]) <;> first | omega | rfl)), hT9⟩) (fun q h => by cases h) dX12_mayIf_114
    by_cases k_49_2 : K j = 3
    · refine ho_tope (y := nI 3) (by rw [k_49_2]) ?_
      refine lv_tableIn (tgt := 115) hx hb dX12_mayIf_49 (by decide +kernel) (by decide +kernel) (off := 66) (by decide +kernel) (by decide) ?_
      refine lv_iconst (v := nI 1) hx hb dX12_mayIf_115 (by decide +kernel) ?_
      exact W.zret (v := nI 1) hx hb hr rfl (fun T9 hT9 hW9 => ⟨_, rfl, (bI_t (by (simp [maB, plB, c_12, k_49_2]) <;> first | omega | rfl)), hT9⟩) (fun q h => by cases h) dX12_mayIf_116
    by_cases k_49_3 : K j = 4
    · refine ho_tope (y := nI 4) (by rw [k_49_3]) ?_
      refine lv_tableIn (tgt := 117) hx hb dX12_mayIf_49 (by decide +kernel) (by decide +kernel) (off := 68) (by decide +kernel) (by decide) ?_
      refine lv_iload hx hb dX12_mayIf_117 (lv_at hl 0 rfl) ?_
      refine lv_if_eq (tgt := 131) hx hb dX12_mayIf_119 (by decide) (fun _ => ?_) (fun z => absurd z (by decide +kernel))
      refine lv_iconst (v := nI 0) hx hb dX12_mayIf_131 (by decide +kernel) ?_
      exact W.zret (v := nI 0) hx hb hr rfl (fun T9 hT9 hW9 => ⟨_, rfl, (bI_f (by (simp [maB, plB, c_12, k_49_3]) <;> first | omega | rfl)), hT9⟩) (fun q h => by cases h) dX12_mayIf_132
    by_cases k_49_4 : K j = 5
    · refine ho_tope (y := nI 5) (by rw [k_49_4]) ?_
      refine lv_tableIn (tgt := 133) hx hb dX12_mayIf_49 (by decide +kernel) (by decide +kernel) (off := 84) (by decide +kernel) (by decide) ?_
      refine lv_iload hx hb dX12_mayIf_133 (lv_at hl 1 rfl) ?_
      refine lv_if_eq (tgt := 147) hx hb dX12_mayIf_135 (by decide) (fun _ => ?_) (fun z => absurd z (by decide +kernel))
      refine lv_iconst (v := nI 0) hx hb dX12_mayIf_147 (by decide +kernel) ?_
      exact W.zret (v := nI 0) hx hb hr rfl (fun T9 hT9 hW9 => ⟨_, rfl, (bI_f (by (simp [maB, plB, c_12, k_49_4]) <;> first | omega | rfl)), hT9⟩) (fun q h => by cases h) dX12_mayIf_148
    by_cases k_49_5 : K j = 6
    · refine ho_tope (y := nI 6) (by rw [k_49_5]) ?_
      refine lv_tableIn (tgt := 149) hx hb dX12_mayIf_49 (by decide +kernel) (by decide +kernel) (off := 100) (by decide +kernel) (by decide) ?_
      refine lv_iload hx hb dX12_mayIf_149 (lv_at hl 0 rfl) ?_
      refine lv_if_eq (tgt := 163) hx hb dX12_mayIf_151 (by decide) (fun _ => ?_) (fun z => absurd z (by decide +kernel))
      refine lv_iload hx hb dX12_mayIf_163 (lv_at hl 1 rfl) ?_
      refine lv_if_eq (tgt := 177) hx hb dX12_mayIf_165 (by decide) (fun _ => ?_) (fun z => absurd z (by decide +kernel))
      refine lv_iconst (v := nI 0) hx hb dX12_mayIf_177 (by decide +kernel) ?_
      exact W.zret (v := nI 0) hx hb hr rfl (fun T9 hT9 hW9 => ⟨_, rfl, (bI_f (by (simp [maB, plB, c_12, k_49_5]) <;> first | omega | rfl)), hT9⟩) (fun q h => by cases h) dX12_mayIf_178
    by_cases k_49_6 : K j = 7
    · refine ho_tope (y := nI 7) (by rw [k_49_6]) ?_
      refine lv_tableIn (tgt := 179) hx hb dX12_mayIf_49 (by decide +kernel) (by decide +kernel) (off := 130) (by decide +kernel) (by decide) ?_
      refine lv_iload hx hb dX12_mayIf_179 (lv_at hl 0 rfl) ?_
      refine lv_if_eq (tgt := 202) hx hb dX12_mayIf_181 (by decide) (fun _ => ?_) (fun z => absurd z (by decide +kernel))
      refine lv_iconst (v := nI 0) hx hb dX12_mayIf_202 (by decide +kernel) ?_
      exact W.zret (v := nI 0) hx hb hr rfl (fun T9 hT9 hW9 => ⟨_, rfl, (bI_f (by (simp [maB, plB, c_12, k_49_6]) <;> first | omega | rfl)), hT9⟩) (fun q h => by cases h) dX12_mayIf_203
    refine lv_tableOut (tgt := 204) hx hb dX12_mayIf_49 (by rw [nI_toInt (by omega)]; omega) (by decide) ?_
    refine lv_iload hx hb dX12_mayIf_204 (lv_at hl 0 rfl) ?_
    exact W.zret (v := nI 0) hx hb hr rfl (fun T9 hT9 hW9 => ⟨_, rfl, (bI_f (by rw [show K j = 0 by omega]; (simp [maB, plB, c_12]) <;> first | omega | rfl)), hT9⟩) (fun q h => by cases h) dX12_mayIf_206
  refine lv_iconst (v := nI 1) hx hb dX12_mayIf_15 (by decide +kernel) ?_
  refine lv_goto (tgt := 20) hx hb dX12_mayIf_16 (by decide) ?_
  refine lv_istore (lv' := [(4, .int (nI 1)), (3, .int (nI (F j))), (0, .ref y), (1, .int (nI j)), (2, .int (nI i))]) hx hb dX12_mayIf_20 hl (by decide) rfl (fun ls hl => ?_)
  refine lv_iload hx hb dX12_mayIf_22 (lv_at hl 0 rfl) ?_
  refine lv_if_eq (tgt := 40) hx hb dX12_mayIf_24 (by decide) (fun z => absurd z (by decide +kernel)) (fun _ => ?_)
  refine lv_aload_n hx hb dX12_mayIf_27 rfl (lv_at hl 2 rfl) ?_
  refine lv_iload_n hx hb dX12_mayIf_28 rfl (lv_at hl 3 rfl) ?_
  refine lv_iload_n hx hb dX12_mayIf_29 rfl (lv_at hl 4 rfl) ?_
  refine vp_callSi ((va_runV (As := [.int (nI j), .int (nI i)]) (rest := []) ⟨hx, hb, hml, hown, hts⟩ (c_X12_knows l dC dI cI cD cR y as ai ar am ak ao az ae aq af hi th po ba en an aw ax ap se n d t day al nd bb oo K F kn j i (by first | omega | assumption | exact gnd _ | exact gkn _ | exact Nat.lt_trans (gkn _) (by decide) | exact Nat.lt_trans (gnd _) (by decide) | exact Nat.lt_of_le_of_lt (pcN_le _) (by decide)) (by first | omega | assumption | exact gnd _ | exact gkn _ | exact Nat.lt_trans (gkn _) (by decide) | exact Nat.lt_trans (gnd _) (by decide) | exact Nat.lt_of_le_of_lt (pcN_le _) (by decide)) (by first | omega | assumption | exact gnd _ | exact gkn _ | exact Nat.lt_trans (gkn _) (by decide) | exact Nat.lt_trans (gnd _) (by decide) | exact Nat.lt_of_le_of_lt (pcN_le _) (by decide)) (by first | omega | assumption | exact gnd _ | exact gkn _ | exact Nat.lt_trans (gkn _) (by decide) | exact Nat.lt_trans (gnd _) (by decide) | exact Nat.lt_of_le_of_lt (pcN_le _) (by decide)) (by first | omega | assumption | exact gnd _ | exact gkn _ | exact Nat.lt_trans (gkn _) (by decide) | exact Nat.lt_trans (gnd _) (by decide) | exact Nat.lt_of_le_of_lt (pcN_le _) (by decide)) gnd gkn gK gF (by first | omega | assumption | exact gnd _ | exact gkn _ | exact Nat.lt_trans (gkn _) (by decide) | exact Nat.lt_trans (gnd _) (by decide) | exact Nat.lt_of_le_of_lt (pcN_le _) (by decide)) (by first | omega | assumption | exact gnd _ | exact gkn _ | exact Nat.lt_trans (gkn _) (by decide) | exact Nat.lt_trans (gnd _) (by decide) | exact Nat.lt_of_le_of_lt (pcN_le _) (by decide))) (cwV 2 hts gX12_mayIf_X12_knows rfl rfl rfl (by decide +kernel) ⟨Nat.le_of_ble_eq_true rfl, Nat.le_of_ble_eq_true rfl⟩) (preV_R hCX (va_recv hK hP (ci := 12) (q0 := 0) rfl rfl) (hP)) rfl rfl hl.1 rfl (lv_room (Nat.le_of_ble_eq_true rfl)) dX12_mayIf_30 ⟨Nat.le_of_ble_eq_true (by first | rfl | decide), Nat.le_of_ble_eq_true (by first | rfl | decide)⟩).run) (fun r_30 hr_30 => ?_)
  subst hr_30
  refine ho_bne (tgt := 40) hx hb dX12_mayIf_33 (by decide) (fun c_33 => ?_) (fun c_33 => ?_)
  · refine lv_iconst (v := nI 0) hx hb dX12_mayIf_40 (by decide +kernel) ?_
    refine lv_istore (lv' := [(5, .int (nI 0)), (4, .int (nI 1)), (3, .int (nI (F j))), (0, .ref y), (1, .int (nI j)), (2, .int (nI i))]) hx hb dX12_mayIf_41 hl (by decide) rfl (fun ls hl => ?_)
    refine lv_aload_n hx hb dX12_mayIf_43 rfl (lv_at hl 3 rfl) ?_
    refine lv_iload_n hx hb dX12_mayIf_44 rfl (lv_at hl 4 rfl) ?_
    refine lv_iconst (v := nI 0) hx hb dX12_mayIf_45 (by decide +kernel) ?_
    refine vp_callSi ((va_runV (As := [.int (nI j), .int (nI 0)]) (rest := []) ⟨hx, hb, hml, hown, hts⟩ (c_X12_get_0 l dC dI cI cD cR y as ai ar am ak ao az ae aq af hi th po ba en an aw ax ap se n d t day al nd bb oo K F kn j (by first | omega | assumption | exact gnd _ | exact gkn _ | exact Nat.lt_trans (gkn _) (by decide) | exact Nat.lt_trans (gnd _) (by decide) | exact Nat.lt_of_le_of_lt (pcN_le _) (by decide)) (by first | omega | assumption | exact gnd _ | exact gkn _ | exact Nat.lt_trans (gkn _) (by decide) | exact Nat.lt_trans (gnd _) (by decide) | exact Nat.lt_of_le_of_lt (pcN_le _) (by decide)) (by first | omega | assumption | exact gnd _ | exact gkn _ | exact Nat.lt_trans (gkn _) (by decide) | exact Nat.lt_trans (gnd _) (by decide) | exact Nat.lt_of_le_of_lt (pcN_le _) (by decide)) (by first | omega | assumption | exact gnd _ | exact gkn _ | exact Nat.lt_trans (gkn _) (by decide) | exact Nat.lt_trans (gnd _) (by decide) | exact Nat.lt_of_le_of_lt (pcN_le _) (by decide)) (by first | omega | assumption | exact gnd _ | exact gkn _ | exact Nat.lt_trans (gkn _) (by decide) | exact Nat.lt_trans (gnd _) (by decide) | exact Nat.lt_of_le_of_lt (pcN_le _) (by decide)) gnd gkn gK gF (by first | omega | assumption | exact gnd _ | exact gkn _ | exact Nat.lt_trans (gkn _) (by decide) | exact Nat.lt_trans (gnd _) (by decide) | exact Nat.lt_of_le_of_lt (pcN_le _) (by decide))) (cwV 2 hts gX12_mayIf_X12_get rfl rfl rfl (by decide +kernel) ⟨Nat.le_of_ble_eq_true rfl, Nat.le_of_ble_eq_true rfl⟩) (preV_R hCX (va_recv hK hP (ci := 12) (q0 := 0) rfl rfl) (hP)) rfl rfl hl.1 rfl (lv_room (Nat.le_of_ble_eq_true rfl)) dX12_mayIf_46 ⟨Nat.le_of_ble_eq_true (by first | rfl | decide), Nat.le_of_ble_eq_true (by first | rfl | decide)⟩).run) (fun r_46 hr_46 => ?_)
    subst hr_46
    have hK9 := gK j
    by_cases k_49_0 : K j = 1
    · refine ho_tope (y := nI 1) (by rw [k_49_0]) ?_
      refine lv_tableIn (tgt := 92) hx hb dX12_mayIf_49 (by decide +kernel) (by decide +kernel) (off := 43) (by decide +kernel) (by decide) ?_
      refine lv_iload hx hb dX12_mayIf_92 (lv_at hl 1 rfl) ?_
      exact W.zret (v := nI 1) hx hb hr rfl (fun T9 hT9 hW9 => ⟨_, rfl, (bI_t (by (simp [maB, plB, c_12, c_33, k_49_0]) <;> first | omega | rfl)), hT9⟩) (fun q h => by cases h) dX12_mayIf_94
    by_cases k_49_1 : K j = 2
    · refine ho_tope (y := nI 2) (by rw [k_49_1]) ?_
      refine lv_tableIn (tgt := 95) hx hb dX12_mayIf_49 (by decide +kernel) (by decide +kernel) (off := 46) (by decide +kernel) (by decide) ?_
      refine lv_iload hx hb dX12_mayIf_95 (lv_at hl 0 rfl) ?_
      refine lv_if_eq (tgt := 113) hx hb dX12_mayIf_97 (by decide) (fun _ => ?_) (fun z => absurd z (by decide +kernel))
      refine lv_iconst (v := nI 0) hx hb dX12_mayIf_113 (by decide +kernel) ?_
      exact W.zret (v := nI 0) hx hb hr rfl (fun T9 hT9 hW9 => ⟨_, rfl, (bI_f (by (simp [maB, plB, c_12, c_33, k_49_1]) <;> first | omega | rfl)), hT9⟩) (fun q h => by cases h) dX12_mayIf_114
    by_cases k_49_2 : K j = 3
    · refine ho_tope (y := nI 3) (by rw [k_49_2]) ?_
      refine lv_tableIn (tgt := 115) hx hb dX12_mayIf_49 (by decide +kernel) (by decide +kernel) (off := 66) (by decide +kernel) (by decide) ?_
      refine lv_iconst (v := nI 1) hx hb dX12_mayIf_115 (by decide +kernel) ?_
      exact W.zret (v := nI 1) hx hb hr rfl (fun T9 hT9 hW9 => ⟨_, rfl, (bI_t (by (simp [maB, plB, c_12, c_33, k_49_2]) <;> first | omega | rfl)), hT9⟩) (fun q h => by cases h) dX12_mayIf_116
    by_cases k_49_3 : K j = 4
    · refine ho_tope (y := nI 4) (by rw [k_49_3]) ?_
      refine lv_tableIn (tgt := 117) hx hb dX12_mayIf_49 (by decide +kernel) (by decide +kernel) (off := 68) (by decide +kernel) (by decide) ?_
      refine lv_iload hx hb dX12_mayIf_117 (lv_at hl 0 rfl) ?_
      refine lv_if_eq (tgt := 131) hx hb dX12_mayIf_119 (by decide) (fun _ => ?_) (fun z => absurd z (by decide +kernel))
      refine lv_iconst (v := nI 0) hx hb dX12_mayIf_131 (by decide +kernel) ?_
      exact W.zret (v := nI 0) hx hb hr rfl (fun T9 hT9 hW9 => ⟨_, rfl, (bI_f (by (simp [maB, plB, c_12, c_33, k_49_3]) <;> first | omega | rfl)), hT9⟩) (fun q h => by cases h) dX12_mayIf_132
    by_cases k_49_4 : K j = 5
    · refine ho_tope (y := nI 5) (by rw [k_49_4]) ?_
      refine lv_tableIn (tgt := 133) hx hb dX12_mayIf_49 (by decide +kernel) (by decide +kernel) (off := 84) (by decide +kernel) (by decide) ?_
      refine lv_iload hx hb dX12_mayIf_133 (lv_at hl 1 rfl) ?_
      refine lv_if_eq (tgt := 147) hx hb dX12_mayIf_135 (by decide) (fun z => absurd z (by decide +kernel)) (fun _ => ?_)
      refine lv_iload_n hx hb dX12_mayIf_138 rfl (lv_at hl 5 rfl) ?_
      refine lv_iload_n hx hb dX12_mayIf_139 rfl (lv_at hl 2 rfl) ?_
      refine ho_icmp_gt (tgt := 147) hx hb dX12_mayIf_140 (by decide) (by omega) (by omega) (fun c_140 => ?_) (fun c_140 => ?_)
      · refine lv_iconst (v := nI 0) hx hb dX12_mayIf_147 (by decide +kernel) ?_
        exact W.zret (v := nI 0) hx hb hr rfl (fun T9 hT9 hW9 => ⟨_, rfl, (bI_f (by (simp [maB, plB, c_12, c_33, k_49_4, c_140]) <;> first | omega | rfl)), hT9⟩) (fun q h => by cases h) dX12_mayIf_148
      refine lv_iconst (v := nI 1) hx hb dX12_mayIf_143 (by decide +kernel) ?_
      refine lv_goto (tgt := 148) hx hb dX12_mayIf_144 (by decide) ?_
      exact W.zret (v := nI 1) hx hb hr rfl (fun T9 hT9 hW9 => ⟨_, rfl, (bI_t (by (simp [maB, plB, c_12, c_33, k_49_4, c_140]) <;> first | omega | rfl)), hT9⟩) (fun q h => by cases h) dX12_mayIf_148
    by_cases k_49_5 : K j = 6
    · refine ho_tope (y := nI 6) (by rw [k_49_5]) ?_
      refine lv_tableIn (tgt := 149) hx hb dX12_mayIf_49 (by decide +kernel) (by decide +kernel) (off := 100) (by decide +kernel) (by decide) ?_
      refine lv_iload hx hb dX12_mayIf_149 (lv_at hl 0 rfl) ?_
      refine lv_if_eq (tgt := 163) hx hb dX12_mayIf_151 (by decide) (fun _ => ?_) (fun z => absurd z (by decide +kernel))
      refine lv_iload hx hb dX12_mayIf_163 (lv_at hl 1 rfl) ?_
      refine lv_if_eq (tgt := 177) hx hb dX12_mayIf_165 (by decide) (fun z => absurd z (by decide +kernel)) (fun _ => ?_)
      refine lv_iload_n hx hb dX12_mayIf_168 rfl (lv_at hl 5 rfl) ?_
      refine lv_iload_n hx hb dX12_mayIf_169 rfl (lv_at hl 2 rfl) ?_
      refine ho_icmp_ne (tgt := 177) hx hb dX12_mayIf_170 (by decide) (by omega) (by omega) (fun c_170 => ?_) (fun c_170 => ?_)
      · refine lv_iconst (v := nI 0) hx hb dX12_mayIf_177 (by decide +kernel) ?_
        exact W.zret (v := nI 0) hx hb hr rfl (fun T9 hT9 hW9 => ⟨_, rfl, (bI_f (by (simp [maB, plB, c_12, c_33, k_49_5, c_170]) <;> first | omega | rfl)), hT9⟩) (fun q h => by cases h) dX12_mayIf_178
      refine lv_iconst (v := nI 1) hx hb dX12_mayIf_173 (by decide +kernel) ?_
      refine lv_goto (tgt := 178) hx hb dX12_mayIf_174 (by decide) ?_
      exact W.zret (v := nI 1) hx hb hr rfl (fun T9 hT9 hW9 => ⟨_, rfl, (bI_t (by (simp [maB, plB, c_12, c_33, k_49_5, c_170]) <;> first | omega | rfl)), hT9⟩) (fun q h => by cases h) dX12_mayIf_178
    by_cases k_49_6 : K j = 7
    · refine ho_tope (y := nI 7) (by rw [k_49_6]) ?_
      refine lv_tableIn (tgt := 179) hx hb dX12_mayIf_49 (by decide +kernel) (by decide +kernel) (off := 130) (by decide +kernel) (by decide) ?_
      refine lv_iload hx hb dX12_mayIf_179 (lv_at hl 0 rfl) ?_
      refine lv_if_eq (tgt := 202) hx hb dX12_mayIf_181 (by decide) (fun _ => ?_) (fun z => absurd z (by decide +kernel))
      refine lv_iconst (v := nI 0) hx hb dX12_mayIf_202 (by decide +kernel) ?_
      exact W.zret (v := nI 0) hx hb hr rfl (fun T9 hT9 hW9 => ⟨_, rfl, (bI_f (by (simp [maB, plB, c_12, c_33, k_49_6]) <;> first | omega | rfl)), hT9⟩) (fun q h => by cases h) dX12_mayIf_203
    refine lv_tableOut (tgt := 204) hx hb dX12_mayIf_49 (by rw [nI_toInt (by omega)]; omega) (by decide) ?_
    refine lv_iload hx hb dX12_mayIf_204 (lv_at hl 0 rfl) ?_
    exact W.zret (v := nI 0) hx hb hr rfl (fun T9 hT9 hW9 => ⟨_, rfl, (bI_f (by rw [show K j = 0 by omega]; (simp [maB, plB, c_12, c_33]) <;> first | omega | rfl)), hT9⟩) (fun q h => by cases h) dX12_mayIf_206
  refine lv_iconst (v := nI 1) hx hb dX12_mayIf_36 (by decide +kernel) ?_
  refine lv_goto (tgt := 41) hx hb dX12_mayIf_37 (by decide) ?_
  refine lv_istore (lv' := [(5, .int (nI 1)), (4, .int (nI 1)), (3, .int (nI (F j))), (0, .ref y), (1, .int (nI j)), (2, .int (nI i))]) hx hb dX12_mayIf_41 hl (by decide) rfl (fun ls hl => ?_)
  refine lv_aload_n hx hb dX12_mayIf_43 rfl (lv_at hl 3 rfl) ?_
  refine lv_iload_n hx hb dX12_mayIf_44 rfl (lv_at hl 4 rfl) ?_
  refine lv_iconst (v := nI 0) hx hb dX12_mayIf_45 (by decide +kernel) ?_
  refine vp_callSi ((va_runV (As := [.int (nI j), .int (nI 0)]) (rest := []) ⟨hx, hb, hml, hown, hts⟩ (c_X12_get_0 l dC dI cI cD cR y as ai ar am ak ao az ae aq af hi th po ba en an aw ax ap se n d t day al nd bb oo K F kn j (by first | omega | assumption | exact gnd _ | exact gkn _ | exact Nat.lt_trans (gkn _) (by decide) | exact Nat.lt_trans (gnd _) (by decide) | exact Nat.lt_of_le_of_lt (pcN_le _) (by decide)) (by first | omega | assumption | exact gnd _ | exact gkn _ | exact Nat.lt_trans (gkn _) (by decide) | exact Nat.lt_trans (gnd _) (by decide) | exact Nat.lt_of_le_of_lt (pcN_le _) (by decide)) (by first | omega | assumption | exact gnd _ | exact gkn _ | exact Nat.lt_trans (gkn _) (by decide) | exact Nat.lt_trans (gnd _) (by decide) | exact Nat.lt_of_le_of_lt (pcN_le _) (by decide)) (by first | omega | assumption | exact gnd _ | exact gkn _ | exact Nat.lt_trans (gkn _) (by decide) | exact Nat.lt_trans (gnd _) (by decide) | exact Nat.lt_of_le_of_lt (pcN_le _) (by decide)) (by first | omega | assumption | exact gnd _ | exact gkn _ | exact Nat.lt_trans (gkn _) (by decide) | exact Nat.lt_trans (gnd _) (by decide) | exact Nat.lt_of_le_of_lt (pcN_le _) (by decide)) gnd gkn gK gF (by first | omega | assumption | exact gnd _ | exact gkn _ | exact Nat.lt_trans (gkn _) (by decide) | exact Nat.lt_trans (gnd _) (by decide) | exact Nat.lt_of_le_of_lt (pcN_le _) (by decide))) (cwV 2 hts gX12_mayIf_X12_get rfl rfl rfl (by decide +kernel) ⟨Nat.le_of_ble_eq_true rfl, Nat.le_of_ble_eq_true rfl⟩) (preV_R hCX (va_recv hK hP (ci := 12) (q0 := 0) rfl rfl) (hP)) rfl rfl hl.1 rfl (lv_room (Nat.le_of_ble_eq_true rfl)) dX12_mayIf_46 ⟨Nat.le_of_ble_eq_true (by first | rfl | decide), Nat.le_of_ble_eq_true (by first | rfl | decide)⟩).run) (fun r_46 hr_46 => ?_)
  subst hr_46
  have hK9 := gK j
  by_cases k_49_0 : K j = 1
  · refine ho_tope (y := nI 1) (by rw [k_49_0]) ?_
    refine lv_tableIn (tgt := 92) hx hb dX12_mayIf_49 (by decide +kernel) (by decide +kernel) (off := 43) (by decide +kernel) (by decide) ?_
    refine lv_iload hx hb dX12_mayIf_92 (lv_at hl 1 rfl) ?_
    exact W.zret (v := nI 1) hx hb hr rfl (fun T9 hT9 hW9 => ⟨_, rfl, (bI_t (by (simp [maB, plB, c_12, c_33, k_49_0]) <;> first | omega | rfl)), hT9⟩) (fun q h => by cases h) dX12_mayIf_94
  by_cases k_49_1 : K j = 2
  · refine ho_tope (y := nI 2) (by rw [k_49_1]) ?_
    refine lv_tableIn (tgt := 95) hx hb dX12_mayIf_49 (by decide +kernel) (by decide +kernel) (off := 46) (by decide +kernel) (by decide) ?_
    refine lv_iload hx hb dX12_mayIf_95 (lv_at hl 0 rfl) ?_
    refine lv_if_eq (tgt := 113) hx hb dX12_mayIf_97 (by decide) (fun z => absurd z (by decide +kernel)) (fun _ => ?_)
    refine lv_aload_n hx hb dX12_mayIf_100 rfl (lv_at hl 3 rfl) ?_
    refine lv_iload_n hx hb dX12_mayIf_101 rfl (lv_at hl 4 rfl) ?_
    refine lv_iload_n hx hb dX12_mayIf_102 rfl (lv_at hl 5 rfl) ?_
    refine vp_callSi ((va_runV (As := [.int (nI j), .int (nI i)]) (rest := []) ⟨hx, hb, hml, hown, hts⟩ (c_X12_isMet l dC dI cI cD cR y as ai ar am ak ao az ae aq af hi th po ba en an aw ax ap se n d t day al nd bb oo K F kn j i (by first | omega | assumption | exact gnd _ | exact gkn _ | exact Nat.lt_trans (gkn _) (by decide) | exact Nat.lt_trans (gnd _) (by decide) | exact Nat.lt_of_le_of_lt (pcN_le _) (by decide)) (by first | omega | assumption | exact gnd _ | exact gkn _ | exact Nat.lt_trans (gkn _) (by decide) | exact Nat.lt_trans (gnd _) (by decide) | exact Nat.lt_of_le_of_lt (pcN_le _) (by decide)) (by first | omega | assumption | exact gnd _ | exact gkn _ | exact Nat.lt_trans (gkn _) (by decide) | exact Nat.lt_trans (gnd _) (by decide) | exact Nat.lt_of_le_of_lt (pcN_le _) (by decide)) (by first | omega | assumption | exact gnd _ | exact gkn _ | exact Nat.lt_trans (gkn _) (by decide) | exact Nat.lt_trans (gnd _) (by decide) | exact Nat.lt_of_le_of_lt (pcN_le _) (by decide)) (by first | omega | assumption | exact gnd _ | exact gkn _ | exact Nat.lt_trans (gkn _) (by decide) | exact Nat.lt_trans (gnd _) (by decide) | exact Nat.lt_of_le_of_lt (pcN_le _) (by decide)) gnd gkn gK gF (by first | omega | assumption | exact gnd _ | exact gkn _ | exact Nat.lt_trans (gkn _) (by decide) | exact Nat.lt_trans (gnd _) (by decide) | exact Nat.lt_of_le_of_lt (pcN_le _) (by decide)) (by first | omega | assumption | exact gnd _ | exact gkn _ | exact Nat.lt_trans (gkn _) (by decide) | exact Nat.lt_trans (gnd _) (by decide) | exact Nat.lt_of_le_of_lt (pcN_le _) (by decide))) (cwV 2 hts gX12_mayIf_X12_isMet rfl rfl rfl (by decide +kernel) ⟨Nat.le_of_ble_eq_true rfl, Nat.le_of_ble_eq_true rfl⟩) (preV_R hCX (va_recv hK hP (ci := 12) (q0 := 0) rfl rfl) (hP)) rfl rfl hl.1 rfl (lv_room (Nat.le_of_ble_eq_true rfl)) dX12_mayIf_103 ⟨Nat.le_of_ble_eq_true (by first | rfl | decide), Nat.le_of_ble_eq_true (by first | rfl | decide)⟩).run) (fun r_103 hr_103 => ?_)
    subst hr_103
    refine ho_beq (tgt := 113) hx hb dX12_mayIf_106 (by decide) (fun c_106 => ?_) (fun c_106 => ?_)
    · refine lv_iconst (v := nI 0) hx hb dX12_mayIf_113 (by decide +kernel) ?_
      exact W.zret (v := nI 0) hx hb hr rfl (fun T9 hT9 hW9 => ⟨_, rfl, (bI_f (by (simp [maB, plB, c_12, c_33, k_49_1, c_106]) <;> first | omega | rfl)), hT9⟩) (fun q h => by cases h) dX12_mayIf_114
    refine lv_iconst (v := nI 1) hx hb dX12_mayIf_109 (by decide +kernel) ?_
    refine lv_goto (tgt := 114) hx hb dX12_mayIf_110 (by decide) ?_
    exact W.zret (v := nI 1) hx hb hr rfl (fun T9 hT9 hW9 => ⟨_, rfl, (bI_t (by (simp [maB, plB, c_12, c_33, k_49_1, c_106]) <;> first | omega | rfl)), hT9⟩) (fun q h => by cases h) dX12_mayIf_114
  by_cases k_49_2 : K j = 3
  · refine ho_tope (y := nI 3) (by rw [k_49_2]) ?_
    refine lv_tableIn (tgt := 115) hx hb dX12_mayIf_49 (by decide +kernel) (by decide +kernel) (off := 66) (by decide +kernel) (by decide) ?_
    refine lv_iconst (v := nI 1) hx hb dX12_mayIf_115 (by decide +kernel) ?_
    exact W.zret (v := nI 1) hx hb hr rfl (fun T9 hT9 hW9 => ⟨_, rfl, (bI_t (by (simp [maB, plB, c_12, c_33, k_49_2]) <;> first | omega | rfl)), hT9⟩) (fun q h => by cases h) dX12_mayIf_116
  by_cases k_49_3 : K j = 4
  · refine ho_tope (y := nI 4) (by rw [k_49_3]) ?_
    refine lv_tableIn (tgt := 117) hx hb dX12_mayIf_49 (by decide +kernel) (by decide +kernel) (off := 68) (by decide +kernel) (by decide) ?_
    refine lv_iload hx hb dX12_mayIf_117 (lv_at hl 0 rfl) ?_
    refine lv_if_eq (tgt := 131) hx hb dX12_mayIf_119 (by decide) (fun z => absurd z (by decide +kernel)) (fun _ => ?_)
    refine lv_iload_n hx hb dX12_mayIf_122 rfl (lv_at hl 5 rfl) ?_
    refine lv_iload_n hx hb dX12_mayIf_123 rfl (lv_at hl 2 rfl) ?_
    refine ho_icmp_eq (tgt := 131) hx hb dX12_mayIf_124 (by decide) (by omega) (by omega) (fun c_124 => ?_) (fun c_124 => ?_)
    · refine lv_iconst (v := nI 0) hx hb dX12_mayIf_131 (by decide +kernel) ?_
      exact W.zret (v := nI 0) hx hb hr rfl (fun T9 hT9 hW9 => ⟨_, rfl, (bI_f (by (simp [maB, plB, c_12, c_33, k_49_3, c_124]) <;> first | omega | rfl)), hT9⟩) (fun q h => by cases h) dX12_mayIf_132
    refine lv_iconst (v := nI 1) hx hb dX12_mayIf_127 (by decide +kernel) ?_
    refine lv_goto (tgt := 132) hx hb dX12_mayIf_128 (by decide) ?_
    exact W.zret (v := nI 1) hx hb hr rfl (fun T9 hT9 hW9 => ⟨_, rfl, (bI_t (by (simp [maB, plB, c_12, c_33, k_49_3, c_124]) <;> first | omega | rfl)), hT9⟩) (fun q h => by cases h) dX12_mayIf_132
  by_cases k_49_4 : K j = 5
  · refine ho_tope (y := nI 5) (by rw [k_49_4]) ?_
    refine lv_tableIn (tgt := 133) hx hb dX12_mayIf_49 (by decide +kernel) (by decide +kernel) (off := 84) (by decide +kernel) (by decide) ?_
    refine lv_iload hx hb dX12_mayIf_133 (lv_at hl 1 rfl) ?_
    refine lv_if_eq (tgt := 147) hx hb dX12_mayIf_135 (by decide) (fun z => absurd z (by decide +kernel)) (fun _ => ?_)
    refine lv_iload_n hx hb dX12_mayIf_138 rfl (lv_at hl 5 rfl) ?_
    refine lv_iload_n hx hb dX12_mayIf_139 rfl (lv_at hl 2 rfl) ?_
    refine ho_icmp_gt (tgt := 147) hx hb dX12_mayIf_140 (by decide) (by omega) (by omega) (fun c_140 => ?_) (fun c_140 => ?_)
    · refine lv_iconst (v := nI 0) hx hb dX12_mayIf_147 (by decide +kernel) ?_
      exact W.zret (v := nI 0) hx hb hr rfl (fun T9 hT9 hW9 => ⟨_, rfl, (bI_f (by (simp [maB, plB, c_12, c_33, k_49_4, c_140]) <;> first | omega | rfl)), hT9⟩) (fun q h => by cases h) dX12_mayIf_148
    refine lv_iconst (v := nI 1) hx hb dX12_mayIf_143 (by decide +kernel) ?_
    refine lv_goto (tgt := 148) hx hb dX12_mayIf_144 (by decide) ?_
    exact W.zret (v := nI 1) hx hb hr rfl (fun T9 hT9 hW9 => ⟨_, rfl, (bI_t (by (simp [maB, plB, c_12, c_33, k_49_4, c_140]) <;> first | omega | rfl)), hT9⟩) (fun q h => by cases h) dX12_mayIf_148
  by_cases k_49_5 : K j = 6
  · refine ho_tope (y := nI 6) (by rw [k_49_5]) ?_
    refine lv_tableIn (tgt := 149) hx hb dX12_mayIf_49 (by decide +kernel) (by decide +kernel) (off := 100) (by decide +kernel) (by decide) ?_
    refine lv_iload hx hb dX12_mayIf_149 (lv_at hl 0 rfl) ?_
    refine lv_if_eq (tgt := 163) hx hb dX12_mayIf_151 (by decide) (fun z => absurd z (by decide +kernel)) (fun _ => ?_)
    refine lv_aload_n hx hb dX12_mayIf_154 rfl (lv_at hl 3 rfl) ?_
    refine lv_iload_n hx hb dX12_mayIf_155 rfl (lv_at hl 4 rfl) ?_
    refine lv_iload_n hx hb dX12_mayIf_156 rfl (lv_at hl 5 rfl) ?_
    refine vp_callSi ((va_runV (As := [.int (nI j), .int (nI i)]) (rest := []) ⟨hx, hb, hml, hown, hts⟩ (c_X12_isMet l dC dI cI cD cR y as ai ar am ak ao az ae aq af hi th po ba en an aw ax ap se n d t day al nd bb oo K F kn j i (by first | omega | assumption | exact gnd _ | exact gkn _ | exact Nat.lt_trans (gkn _) (by decide) | exact Nat.lt_trans (gnd _) (by decide) | exact Nat.lt_of_le_of_lt (pcN_le _) (by decide)) (by first | omega | assumption | exact gnd _ | exact gkn _ | exact Nat.lt_trans (gkn _) (by decide) | exact Nat.lt_trans (gnd _) (by decide) | exact Nat.lt_of_le_of_lt (pcN_le _) (by decide)) (by first | omega | assumption | exact gnd _ | exact gkn _ | exact Nat.lt_trans (gkn _) (by decide) | exact Nat.lt_trans (gnd _) (by decide) | exact Nat.lt_of_le_of_lt (pcN_le _) (by decide)) (by first | omega | assumption | exact gnd _ | exact gkn _ | exact Nat.lt_trans (gkn _) (by decide) | exact Nat.lt_trans (gnd _) (by decide) | exact Nat.lt_of_le_of_lt (pcN_le _) (by decide)) (by first | omega | assumption | exact gnd _ | exact gkn _ | exact Nat.lt_trans (gkn _) (by decide) | exact Nat.lt_trans (gnd _) (by decide) | exact Nat.lt_of_le_of_lt (pcN_le _) (by decide)) gnd gkn gK gF (by first | omega | assumption | exact gnd _ | exact gkn _ | exact Nat.lt_trans (gkn _) (by decide) | exact Nat.lt_trans (gnd _) (by decide) | exact Nat.lt_of_le_of_lt (pcN_le _) (by decide)) (by first | omega | assumption | exact gnd _ | exact gkn _ | exact Nat.lt_trans (gkn _) (by decide) | exact Nat.lt_trans (gnd _) (by decide) | exact Nat.lt_of_le_of_lt (pcN_le _) (by decide))) (cwV 2 hts gX12_mayIf_X12_isMet rfl rfl rfl (by decide +kernel) ⟨Nat.le_of_ble_eq_true rfl, Nat.le_of_ble_eq_true rfl⟩) (preV_R hCX (va_recv hK hP (ci := 12) (q0 := 0) rfl rfl) (hP)) rfl rfl hl.1 rfl (lv_room (Nat.le_of_ble_eq_true rfl)) dX12_mayIf_157 ⟨Nat.le_of_ble_eq_true (by first | rfl | decide), Nat.le_of_ble_eq_true (by first | rfl | decide)⟩).run) (fun r_157 hr_157 => ?_)
    subst hr_157
    refine ho_bne (tgt := 173) hx hb dX12_mayIf_160 (by decide) (fun c_160 => ?_) (fun c_160 => ?_)
    · refine lv_iconst (v := nI 1) hx hb dX12_mayIf_173 (by decide +kernel) ?_
      refine lv_goto (tgt := 178) hx hb dX12_mayIf_174 (by decide) ?_
      exact W.zret (v := nI 1) hx hb hr rfl (fun T9 hT9 hW9 => ⟨_, rfl, (bI_t (by (simp [maB, plB, c_12, c_33, k_49_5, c_160]) <;> first | omega | rfl)), hT9⟩) (fun q h => by cases h) dX12_mayIf_178
    refine lv_iload hx hb dX12_mayIf_163 (lv_at hl 1 rfl) ?_
    refine lv_if_eq (tgt := 177) hx hb dX12_mayIf_165 (by decide) (fun z => absurd z (by decide +kernel)) (fun _ => ?_)
    refine lv_iload_n hx hb dX12_mayIf_168 rfl (lv_at hl 5 rfl) ?_
    refine lv_iload_n hx hb dX12_mayIf_169 rfl (lv_at hl 2 rfl) ?_
    refine ho_icmp_ne (tgt := 177) hx hb dX12_mayIf_170 (by decide) (by omega) (by omega) (fun c_170 => ?_) (fun c_170 => ?_)
    · refine lv_iconst (v := nI 0) hx hb dX12_mayIf_177 (by decide +kernel) ?_
      exact W.zret (v := nI 0) hx hb hr rfl (fun T9 hT9 hW9 => ⟨_, rfl, (bI_f (by (simp [maB, plB, c_12, c_33, k_49_5, c_160, c_170]) <;> first | omega | rfl)), hT9⟩) (fun q h => by cases h) dX12_mayIf_178
    refine lv_iconst (v := nI 1) hx hb dX12_mayIf_173 (by decide +kernel) ?_
    refine lv_goto (tgt := 178) hx hb dX12_mayIf_174 (by decide) ?_
    exact W.zret (v := nI 1) hx hb hr rfl (fun T9 hT9 hW9 => ⟨_, rfl, (bI_t (by (simp [maB, plB, c_12, c_33, k_49_5, c_160, c_170]) <;> first | omega | rfl)), hT9⟩) (fun q h => by cases h) dX12_mayIf_178
  by_cases k_49_6 : K j = 7
  · refine ho_tope (y := nI 7) (by rw [k_49_6]) ?_
    refine lv_tableIn (tgt := 179) hx hb dX12_mayIf_49 (by decide +kernel) (by decide +kernel) (off := 130) (by decide +kernel) (by decide) ?_
    refine lv_iload hx hb dX12_mayIf_179 (lv_at hl 0 rfl) ?_
    refine lv_if_eq (tgt := 202) hx hb dX12_mayIf_181 (by decide) (fun z => absurd z (by decide +kernel)) (fun _ => ?_)
    refine lv_iload_n hx hb dX12_mayIf_184 rfl (lv_at hl 5 rfl) ?_
    refine lv_iload_n hx hb dX12_mayIf_185 rfl (lv_at hl 2 rfl) ?_
    refine ho_icmp_eq (tgt := 202) hx hb dX12_mayIf_186 (by decide) (by omega) (by omega) (fun c_186 => ?_) (fun c_186 => ?_)
    · refine lv_iconst (v := nI 0) hx hb dX12_mayIf_202 (by decide +kernel) ?_
      exact W.zret (v := nI 0) hx hb hr rfl (fun T9 hT9 hW9 => ⟨_, rfl, (bI_f (by (simp [maB, plB, c_12, c_33, k_49_6, c_186]) <;> first | omega | rfl)), hT9⟩) (fun q h => by cases h) dX12_mayIf_203
    refine lv_aload_n hx hb dX12_mayIf_189 rfl (lv_at hl 3 rfl) ?_
    refine lv_iload_n hx hb dX12_mayIf_190 rfl (lv_at hl 5 rfl) ?_
    refine lv_iconst (v := nI 0) hx hb dX12_mayIf_191 (by decide +kernel) ?_
    refine vp_callSi ((va_runV (As := [.int (nI i), .int (nI 0)]) (rest := []) ⟨hx, hb, hml, hown, hts⟩ (c_X12_of_0 l dC dI cI cD cR y as ai ar am ak ao az ae aq af hi th po ba en an aw ax ap se n d t day al nd bb oo K F kn i (by first | omega | assumption | exact gnd _ | exact gkn _ | exact Nat.lt_trans (gkn _) (by decide) | exact Nat.lt_trans (gnd _) (by decide) | exact Nat.lt_of_le_of_lt (pcN_le _) (by decide)) (by first | omega | assumption | exact gnd _ | exact gkn _ | exact Nat.lt_trans (gkn _) (by decide) | exact Nat.lt_trans (gnd _) (by decide) | exact Nat.lt_of_le_of_lt (pcN_le _) (by decide)) (by first | omega | assumption | exact gnd _ | exact gkn _ | exact Nat.lt_trans (gkn _) (by decide) | exact Nat.lt_trans (gnd _) (by decide) | exact Nat.lt_of_le_of_lt (pcN_le _) (by decide)) (by first | omega | assumption | exact gnd _ | exact gkn _ | exact Nat.lt_trans (gkn _) (by decide) | exact Nat.lt_trans (gnd _) (by decide) | exact Nat.lt_of_le_of_lt (pcN_le _) (by decide)) (by first | omega | assumption | exact gnd _ | exact gkn _ | exact Nat.lt_trans (gkn _) (by decide) | exact Nat.lt_trans (gnd _) (by decide) | exact Nat.lt_of_le_of_lt (pcN_le _) (by decide)) gnd gkn gK gF (by first | omega | assumption | exact gnd _ | exact gkn _ | exact Nat.lt_trans (gkn _) (by decide) | exact Nat.lt_trans (gnd _) (by decide) | exact Nat.lt_of_le_of_lt (pcN_le _) (by decide))) (cwV 2 hts gX12_mayIf_X12_of rfl rfl rfl (by decide +kernel) ⟨Nat.le_of_ble_eq_true rfl, Nat.le_of_ble_eq_true rfl⟩) (preV_R hCX (va_recv hK hP (ci := 12) (q0 := 0) rfl rfl) (hP)) rfl rfl hl.1 rfl (lv_room (Nat.le_of_ble_eq_true rfl)) dX12_mayIf_192 ⟨Nat.le_of_ble_eq_true (by first | rfl | decide), Nat.le_of_ble_eq_true (by first | rfl | decide)⟩).run) (fun r_192 hr_192 => ?_)
    subst hr_192
    refine ho_if_eq (tgt := 202) hx hb dX12_mayIf_195 (by decide) (Nat.lt_trans (gnd i) (by decide)) (fun c_195 => ?_) (fun c_195 => ?_)
    · refine lv_iconst (v := nI 0) hx hb dX12_mayIf_202 (by decide +kernel) ?_
      exact W.zret (v := nI 0) hx hb hr rfl (fun T9 hT9 hW9 => ⟨_, rfl, (bI_f (by (simp [maB, plB, c_12, c_33, k_49_6, c_186, c_195]) <;> first | omega | rfl)), hT9⟩) (fun q h => by cases h) dX12_mayIf_203
    refine lv_iconst (v := nI 1) hx hb dX12_mayIf_198 (by decide +kernel) ?_
    refine lv_goto (tgt := 203) hx hb dX12_mayIf_199 (by decide) ?_
    exact W.zret (v := nI 1) hx hb hr rfl (fun T9 hT9 hW9 => ⟨_, rfl, (bI_t (by (simp [maB, plB, c_12, c_33, k_49_6, c_186, c_195]) <;> first | omega | rfl)), hT9⟩) (fun q h => by cases h) dX12_mayIf_203
  refine lv_tableOut (tgt := 204) hx hb dX12_mayIf_49 (by rw [nI_toInt (by omega)]; omega) (by decide) ?_
  refine lv_iload hx hb dX12_mayIf_204 (lv_at hl 0 rfl) ?_
  exact W.zret (v := nI 1) hx hb hr rfl (fun T9 hT9 hW9 => ⟨_, rfl, (bI_t (by rw [show K j = 0 by omega]; (simp [maB, plB, c_12, c_33]) <;> first | omega | rfl)), hT9⟩) (fun q h => by cases h) dX12_mayIf_206
set_option maxHeartbeats 4000000 in
set_option maxRecDepth 100000 in
theorem c_X12_mayNow (l : Launch) (dC : Nat → ClassId) (dI : Nat → Nat → Nat) (cI cD cR : ClassId) (y as ai ar am ak ao az ae aq af : Nat) (hi : Bool) (th : Int32) (po ba en an aw ax ap : Nat) (se : Int32) (n d t day al : Nat) (nd : Nat → Nat) (bb oo : Nat → Int32) (K F kn : Nat → Nat) (j i : Nat) (hn : n ≤ 9) (hd : d ≤ 7) (ht : t < 512) (hal : al < 128) (hday : day < 2 ^ 30) (gnd : ∀ i, nd i < 512) (gkn : ∀ j, kn j < 512) (gK : ∀ j, K j < 8) (gF : ∀ j, F j < 10) (hj9 : j < 7) (hi9 : i < 9) : Met l yX12_mayNow wsX12_mayNow ({ frames := 3, cells := 0, slots := 0, locals := 69 }) (pcR dC dI cI cD cR [.ref y, .int (nI j), .int (nI i)] (fun H => va_P (dC, dI) vwCl ([(y, .inr (12, [.ref as, .ref ai, .ref ar, .ref am, .ref ak, .ref ao, .ref az, .ref ae, .ref aq, .ref af, .int (bI hi), .int th, .int (nI po), .int (nI ba), .int (nI en), .ref an, .ref aw, .ref ax, .ref ap, .int se]))] ++ [(as, .inl (cI, 53, .inl (sF n d t day al nd bb oo K F kn)))]) H)) (vp_Si (fun r => r = bI (mnB t al nd K F kn j i))) 0 0 (fun _ => False) := by
  refine Met.ofW (cc := cX12_mayNow) (maxL := 3) (ret := (some .boolean)) (by decide) rfl ?_
  intro p e s m args below meth c s₁ B hml hv
  obtain ⟨rfl, hH0, hCX⟩ := hv
  have hx := B.exec
  have hb := B.bytes
  have hr := B.returns
  have hts := atoms_spec (ws := wsX12_mayNow) B.pre
  have hown : s.vm.findClass RX12 = some m.cls := findClass_of_methodNamed B.named
  have hlocks := B.notSynchronized
  have hK := hCX.1
  have hP := hH0
  have hl := lv_entry ([.ref y, .int (nI j), .int (nI i)]) (n := 3) (Nat.le_of_ble_eq_true rfl)
  rw [lg_entry_eq]
  generalize (lg_sl ([.ref y, .int (nI j), .int (nI i)]) ++ List.replicate (3 - (lg_sl ([.ref y, .int (nI j), .int (nI i)])).length) Slot.unset).toArray = ls at hl ⊢
  have hl : lv_has ls 3 [(0, .ref y), (1, .int (nI j)), (2, .int (nI i))] := hl
  refine lv_aload_n hx hb dX12_mayNow_0 rfl (lv_at hl 0 rfl) ?_
  refine lv_iload_n hx hb dX12_mayNow_1 rfl (lv_at hl 1 rfl) ?_
  refine vp_callSi ((va_runV (As := [.int (nI j)]) (rest := []) ⟨hx, hb, hml, hown, hts⟩ (c_X12_isAlive l dC dI cI cD cR y as ai ar am ak ao az ae aq af hi th po ba en an aw ax ap se n d t day al nd bb oo K F kn j (by first | omega | assumption | exact gnd _ | exact gkn _ | exact Nat.lt_trans (gkn _) (by decide) | exact Nat.lt_trans (gnd _) (by decide) | exact Nat.lt_of_le_of_lt (pcN_le _) (by decide)) (by first | omega | assumption | exact gnd _ | exact gkn _ | exact Nat.lt_trans (gkn _) (by decide) | exact Nat.lt_trans (gnd _) (by decide) | exact Nat.lt_of_le_of_lt (pcN_le _) (by decide)) (by first | omega | assumption | exact gnd _ | exact gkn _ | exact Nat.lt_trans (gkn _) (by decide) | exact Nat.lt_trans (gnd _) (by decide) | exact Nat.lt_of_le_of_lt (pcN_le _) (by decide)) (by first | omega | assumption | exact gnd _ | exact gkn _ | exact Nat.lt_trans (gkn _) (by decide) | exact Nat.lt_trans (gnd _) (by decide) | exact Nat.lt_of_le_of_lt (pcN_le _) (by decide)) (by first | omega | assumption | exact gnd _ | exact gkn _ | exact Nat.lt_trans (gkn _) (by decide) | exact Nat.lt_trans (gnd _) (by decide) | exact Nat.lt_of_le_of_lt (pcN_le _) (by decide)) gnd gkn gK gF (by first | omega | assumption | exact gnd _ | exact gkn _ | exact Nat.lt_trans (gkn _) (by decide) | exact Nat.lt_trans (gnd _) (by decide) | exact Nat.lt_of_le_of_lt (pcN_le _) (by decide))) (cwV 1 hts gX12_mayNow_X12_isAlive rfl rfl rfl (by decide +kernel) ⟨Nat.le_of_ble_eq_true rfl, Nat.le_of_ble_eq_true rfl⟩) (preV_R hCX (va_recv hK hP (ci := 12) (q0 := 0) rfl rfl) (hP)) rfl rfl hl.1 rfl (lv_room (Nat.le_of_ble_eq_true rfl)) dX12_mayNow_2 ⟨Nat.le_of_ble_eq_true (by first | rfl | decide), Nat.le_of_ble_eq_true (by first | rfl | decide)⟩).run) (fun r_2 hr_2 => ?_)
  subst hr_2
  refine ho_beq (tgt := 21) hx hb dX12_mayNow_5 (by decide) (fun c_5 => ?_) (fun c_5 => ?_)
  · refine lv_iconst (v := nI 0) hx hb dX12_mayNow_21 (by decide +kernel) ?_
    exact W.zret (v := nI 0) hx hb hr rfl (fun T9 hT9 hW9 => ⟨_, rfl, (bI_f (by (simp [mnB, c_5]) <;> first | rfl | omega)), hT9⟩) (fun q h => by cases h) dX12_mayNow_22
  refine lv_aload_n hx hb dX12_mayNow_8 rfl (lv_at hl 0 rfl) ?_
  refine lv_iload_n hx hb dX12_mayNow_9 rfl (lv_at hl 1 rfl) ?_
  refine lv_iload_n hx hb dX12_mayNow_10 rfl (lv_at hl 2 rfl) ?_
  refine vp_callSi ((va_runV (As := [.int (nI j), .int (nI i)]) (rest := []) ⟨hx, hb, hml, hown, hts⟩ (c_X12_mayIf l dC dI cI cD cR y as ai ar am ak ao az ae aq af hi th po ba en an aw ax ap se n d t day al nd bb oo K F kn j i (by first | omega | assumption | exact gnd _ | exact gkn _ | exact Nat.lt_trans (gkn _) (by decide) | exact Nat.lt_trans (gnd _) (by decide) | exact Nat.lt_of_le_of_lt (pcN_le _) (by decide)) (by first | omega | assumption | exact gnd _ | exact gkn _ | exact Nat.lt_trans (gkn _) (by decide) | exact Nat.lt_trans (gnd _) (by decide) | exact Nat.lt_of_le_of_lt (pcN_le _) (by decide)) (by first | omega | assumption | exact gnd _ | exact gkn _ | exact Nat.lt_trans (gkn _) (by decide) | exact Nat.lt_trans (gnd _) (by decide) | exact Nat.lt_of_le_of_lt (pcN_le _) (by decide)) (by first | omega | assumption | exact gnd _ | exact gkn _ | exact Nat.lt_trans (gkn _) (by decide) | exact Nat.lt_trans (gnd _) (by decide) | exact Nat.lt_of_le_of_lt (pcN_le _) (by decide)) (by first | omega | assumption | exact gnd _ | exact gkn _ | exact Nat.lt_trans (gkn _) (by decide) | exact Nat.lt_trans (gnd _) (by decide) | exact Nat.lt_of_le_of_lt (pcN_le _) (by decide)) gnd gkn gK gF (by first | omega | assumption | exact gnd _ | exact gkn _ | exact Nat.lt_trans (gkn _) (by decide) | exact Nat.lt_trans (gnd _) (by decide) | exact Nat.lt_of_le_of_lt (pcN_le _) (by decide)) (by first | omega | assumption | exact gnd _ | exact gkn _ | exact Nat.lt_trans (gkn _) (by decide) | exact Nat.lt_trans (gnd _) (by decide) | exact Nat.lt_of_le_of_lt (pcN_le _) (by decide))) (cwV 2 hts gX12_mayNow_X12_mayIf rfl rfl rfl (by decide +kernel) ⟨Nat.le_of_ble_eq_true rfl, Nat.le_of_ble_eq_true rfl⟩) (preV_R hCX (va_recv hK hP (ci := 12) (q0 := 0) rfl rfl) (hP)) rfl rfl hl.1 rfl (lv_room (Nat.le_of_ble_eq_true rfl)) dX12_mayNow_11 ⟨Nat.le_of_ble_eq_true (by first | rfl | decide), Nat.le_of_ble_eq_true (by first | rfl | decide)⟩).run) (fun r_11 hr_11 => ?_)
  subst hr_11
  refine ho_beq (tgt := 21) hx hb dX12_mayNow_14 (by decide) (fun c_14 => ?_) (fun c_14 => ?_)
  · refine lv_iconst (v := nI 0) hx hb dX12_mayNow_21 (by decide +kernel) ?_
    exact W.zret (v := nI 0) hx hb hr rfl (fun T9 hT9 hW9 => ⟨_, rfl, (bI_f (by (simp [mnB, c_5, c_14]) <;> first | rfl | omega)), hT9⟩) (fun q h => by cases h) dX12_mayNow_22
  refine lv_iconst (v := nI 1) hx hb dX12_mayNow_17 (by decide +kernel) ?_
  refine lv_goto (tgt := 22) hx hb dX12_mayNow_18 (by decide) ?_
  exact W.zret (v := nI 1) hx hb hr rfl (fun T9 hT9 hW9 => ⟨_, rfl, (bI_t (by (simp [mnB, c_5, c_14]) <;> first | rfl | omega)), hT9⟩) (fun q h => by cases h) dX12_mayNow_22
set_option maxHeartbeats 4000000 in
set_option maxRecDepth 100000 in
theorem c_X12_isSilenced (l : Launch) (dC : Nat → ClassId) (dI : Nat → Nat → Nat) (cI cD cR : ClassId) (y as ai ar am ak ao az ae aq af : Nat) (hi : Bool) (th : Int32) (po ba en an aw ax ap : Nat) (se : Int32) (n d t day al : Nat) (nd : Nat → Nat) (bb oo : Nat → Int32) (K F kn : Nat → Nat) (j i dy : Nat) (hn : n ≤ 9) (hd : d ≤ 7) (ht : t < 512) (hal : al < 128) (hday : day < 2 ^ 30) (gnd : ∀ i, nd i < 512) (gkn : ∀ j, kn j < 512) (gK : ∀ j, K j < 8) (gF : ∀ j, F j < 10) (hj9 : j < 7) (hi9 : i < 9) (hdy : dy < 2 ^ 31) : Met l yX12_isSilenced wsX12_isSilenced ({ frames := 2, cells := 0, slots := 0, locals := 44 }) (pcR dC dI cI cD cR [.ref y, .int (nI j), .int (nI i), .int (nI dy)] (fun H => va_P (dC, dI) vwCl ([(y, .inr (12, [.ref as, .ref ai, .ref ar, .ref am, .ref ak, .ref ao, .ref az, .ref ae, .ref aq, .ref af, .int (bI hi), .int th, .int (nI po), .int (nI ba), .int (nI en), .ref an, .ref aw, .ref ax, .ref ap, .int se]))] ++ [(as, .inl (cI, 53, .inl (sF n d t day al nd bb oo K F kn)))]) H)) (vp_Si (fun r => r = bI (siB (K j) t (kn j) (nd i) (dy % 2 != 0)))) 0 0 (fun _ => False) := by
  refine Met.ofW (cc := cX12_isSilenced) (maxL := 5) (ret := (some .boolean)) (by decide) rfl ?_
  intro p e s m args below meth c s₁ B hml hv
  obtain ⟨rfl, hH0, hCX⟩ := hv
  have hx := B.exec
  have hb := B.bytes
  have hr := B.returns
  have hts := atoms_spec (ws := wsX12_isSilenced) B.pre
  have hown : s.vm.findClass RX12 = some m.cls := findClass_of_methodNamed B.named
  have hlocks := B.notSynchronized
  have hK := hCX.1
  have hP := hH0
  have hl := lv_entry ([.ref y, .int (nI j), .int (nI i), .int (nI dy)]) (n := 5) (Nat.le_of_ble_eq_true rfl)
  rw [lg_entry_eq]
  generalize (lg_sl ([.ref y, .int (nI j), .int (nI i), .int (nI dy)]) ++ List.replicate (5 - (lg_sl ([.ref y, .int (nI j), .int (nI i), .int (nI dy)])).length) Slot.unset).toArray = ls at hl ⊢
  have hl : lv_has ls 5 [(0, .ref y), (1, .int (nI j)), (2, .int (nI i)), (3, .int (nI dy))] := hl
  refine lv_aload_n hx hb dX12_isSilenced_0 rfl (lv_at hl 0 rfl) ?_
  refine lv_iload_n hx hb dX12_isSilenced_1 rfl (lv_at hl 1 rfl) ?_
  refine lv_iconst (v := nI 0) hx hb dX12_isSilenced_2 (by decide +kernel) ?_
  refine vp_callSi ((va_runV (As := [.int (nI j), .int (nI 0)]) (rest := []) ⟨hx, hb, hml, hown, hts⟩ (c_X12_get_0 l dC dI cI cD cR y as ai ar am ak ao az ae aq af hi th po ba en an aw ax ap se n d t day al nd bb oo K F kn j (by first | omega | assumption | exact gnd _ | exact gkn _ | exact Nat.lt_trans (gkn _) (by decide) | exact Nat.lt_trans (gnd _) (by decide) | exact Nat.lt_of_le_of_lt (pcN_le _) (by decide)) (by first | omega | assumption | exact gnd _ | exact gkn _ | exact Nat.lt_trans (gkn _) (by decide) | exact Nat.lt_trans (gnd _) (by decide) | exact Nat.lt_of_le_of_lt (pcN_le _) (by decide)) (by first | omega | assumption | exact gnd _ | exact gkn _ | exact Nat.lt_trans (gkn _) (by decide) | exact Nat.lt_trans (gnd _) (by decide) | exact Nat.lt_of_le_of_lt (pcN_le _) (by decide)) (by first | omega | assumption | exact gnd _ | exact gkn _ | exact Nat.lt_trans (gkn _) (by decide) | exact Nat.lt_trans (gnd _) (by decide) | exact Nat.lt_of_le_of_lt (pcN_le _) (by decide)) (by first | omega | assumption | exact gnd _ | exact gkn _ | exact Nat.lt_trans (gkn _) (by decide) | exact Nat.lt_trans (gnd _) (by decide) | exact Nat.lt_of_le_of_lt (pcN_le _) (by decide)) gnd gkn gK gF (by first | omega | assumption | exact gnd _ | exact gkn _ | exact Nat.lt_trans (gkn _) (by decide) | exact Nat.lt_trans (gnd _) (by decide) | exact Nat.lt_of_le_of_lt (pcN_le _) (by decide))) (cwV 2 hts gX12_isSilenced_X12_get rfl rfl rfl (by decide +kernel) ⟨Nat.le_of_ble_eq_true rfl, Nat.le_of_ble_eq_true rfl⟩) (preV_R hCX (va_recv hK hP (ci := 12) (q0 := 0) rfl rfl) (hP)) rfl rfl hl.1 rfl (lv_room (Nat.le_of_ble_eq_true rfl)) dX12_isSilenced_3 ⟨Nat.le_of_ble_eq_true (by first | rfl | decide), Nat.le_of_ble_eq_true (by first | rfl | decide)⟩).run) (fun r_3 hr_3 => ?_)
  subst hr_3
  have hK9 := gK j
  refine lv_istore (lv' := [(4, .int (nI (K j))), (0, .ref y), (1, .int (nI j)), (2, .int (nI i)), (3, .int (nI dy))]) hx hb dX12_isSilenced_6 hl (by decide) rfl (fun ls hl => ?_)
  refine lv_iload hx hb dX12_isSilenced_8 (lv_at hl 0 rfl) ?_
  refine lv_iconst (v := nI 3) hx hb dX12_isSilenced_10 (by decide +kernel) ?_
  refine ho_icmp_eq (tgt := 40) hx hb dX12_isSilenced_11 (by decide) (by omega) (by omega) (fun c_11 => ?_) (fun c_11 => ?_)
  · refine lv_iconst (v := nI 0) hx hb dX12_isSilenced_40 (by decide +kernel) ?_
    exact W.zret (v := nI 0) hx hb hr rfl (fun T9 hT9 hW9 => ⟨_, rfl, (bI_f (by first | (rw [c_11]; rfl) | (rw [siB_g c_11 (fun q => c_18 q)]; first | exact c_33 | rfl) | (rw [c_18]; simp [siB, c_24, c_33]) | (rw [c_18]; simp [siB, c_24]))), hT9⟩) (fun q h => by cases h) dX12_isSilenced_41
  refine lv_iload hx hb dX12_isSilenced_14 (lv_at hl 0 rfl) ?_
  refine lv_bipush (v := nI 7) hx hb dX12_isSilenced_16 (by decide +kernel) ?_
  refine ho_icmp_ne (tgt := 27) hx hb dX12_isSilenced_18 (by decide) (by omega) (by omega) (fun c_18 => ?_) (fun c_18 => ?_)
  · refine lv_aload_n hx hb dX12_isSilenced_27 rfl (lv_at hl 1 rfl) ?_
    refine lv_iload_n hx hb dX12_isSilenced_28 rfl (lv_at hl 2 rfl) ?_
    refine lv_iload_n hx hb dX12_isSilenced_29 rfl (lv_at hl 3 rfl) ?_
    refine vp_callSi ((va_runV (As := [.int (nI j), .int (nI i)]) (rest := []) ⟨hx, hb, hml, hown, hts⟩ (c_X12_isMet l dC dI cI cD cR y as ai ar am ak ao az ae aq af hi th po ba en an aw ax ap se n d t day al nd bb oo K F kn j i (by first | omega | assumption | exact gnd _ | exact gkn _ | exact Nat.lt_trans (gkn _) (by decide) | exact Nat.lt_trans (gnd _) (by decide) | exact Nat.lt_of_le_of_lt (pcN_le _) (by decide)) (by first | omega | assumption | exact gnd _ | exact gkn _ | exact Nat.lt_trans (gkn _) (by decide) | exact Nat.lt_trans (gnd _) (by decide) | exact Nat.lt_of_le_of_lt (pcN_le _) (by decide)) (by first | omega | assumption | exact gnd _ | exact gkn _ | exact Nat.lt_trans (gkn _) (by decide) | exact Nat.lt_trans (gnd _) (by decide) | exact Nat.lt_of_le_of_lt (pcN_le _) (by decide)) (by first | omega | assumption | exact gnd _ | exact gkn _ | exact Nat.lt_trans (gkn _) (by decide) | exact Nat.lt_trans (gnd _) (by decide) | exact Nat.lt_of_le_of_lt (pcN_le _) (by decide)) (by first | omega | assumption | exact gnd _ | exact gkn _ | exact Nat.lt_trans (gkn _) (by decide) | exact Nat.lt_trans (gnd _) (by decide) | exact Nat.lt_of_le_of_lt (pcN_le _) (by decide)) gnd gkn gK gF (by first | omega | assumption | exact gnd _ | exact gkn _ | exact Nat.lt_trans (gkn _) (by decide) | exact Nat.lt_trans (gnd _) (by decide) | exact Nat.lt_of_le_of_lt (pcN_le _) (by decide)) (by first | omega | assumption | exact gnd _ | exact gkn _ | exact Nat.lt_trans (gkn _) (by decide) | exact Nat.lt_trans (gnd _) (by decide) | exact Nat.lt_of_le_of_lt (pcN_le _) (by decide))) (cwV 2 hts gX12_isSilenced_X12_isMet rfl rfl rfl (by decide +kernel) ⟨Nat.le_of_ble_eq_true rfl, Nat.le_of_ble_eq_true rfl⟩) (preV_R hCX (va_recv hK hP (ci := 12) (q0 := 0) rfl rfl) (hP)) rfl rfl hl.1 rfl (lv_room (Nat.le_of_ble_eq_true rfl)) dX12_isSilenced_30 ⟨Nat.le_of_ble_eq_true (by first | rfl | decide), Nat.le_of_ble_eq_true (by first | rfl | decide)⟩).run) (fun r_30 hr_30 => ?_)
    subst hr_30
    refine ho_beq (tgt := 40) hx hb dX12_isSilenced_33 (by decide) (fun c_33 => ?_) (fun c_33 => ?_)
    · refine lv_iconst (v := nI 0) hx hb dX12_isSilenced_40 (by decide +kernel) ?_
      exact W.zret (v := nI 0) hx hb hr rfl (fun T9 hT9 hW9 => ⟨_, rfl, (bI_f (by first | (rw [c_11]; rfl) | (rw [siB_g c_11 (fun q => c_18 q)]; first | exact c_33 | rfl) | (rw [c_18]; simp [siB, c_24, c_33]) | (rw [c_18]; simp [siB, c_24]))), hT9⟩) (fun q h => by cases h) dX12_isSilenced_41
    refine lv_iconst (v := nI 1) hx hb dX12_isSilenced_36 (by decide +kernel) ?_
    refine lv_goto (tgt := 41) hx hb dX12_isSilenced_37 (by decide) ?_
    exact W.zret (v := nI 1) hx hb hr rfl (fun T9 hT9 hW9 => ⟨_, rfl, (bI_t (by first | (rw [c_11]; rfl) | (rw [siB_g c_11 (fun q => c_18 q)]; first | exact c_33 | rfl) | (rw [c_18]; simp [siB, c_24, c_33]) | (rw [c_18]; simp [siB, c_24]))), hT9⟩) (fun q h => by cases h) dX12_isSilenced_41
  refine lv_iload_n hx hb dX12_isSilenced_21 rfl (lv_at hl 4 rfl) ?_
  refine lv_iconst (v := nI 2) hx hb dX12_isSilenced_22 (by decide +kernel) ?_
  refine ho_irem hx hb dX12_isSilenced_23 (by omega) (by omega) (by omega) ?_
  refine ho_if_ne (tgt := 40) hx hb dX12_isSilenced_24 (by decide) (by omega) (fun c_24 => ?_) (fun c_24 => ?_)
  · refine lv_iconst (v := nI 0) hx hb dX12_isSilenced_40 (by decide +kernel) ?_
    exact W.zret (v := nI 0) hx hb hr rfl (fun T9 hT9 hW9 => ⟨_, rfl, (bI_f (by first | (rw [c_11]; rfl) | (rw [siB_g c_11 (fun q => c_18 q)]; first | exact c_33 | rfl) | (rw [c_18]; simp [siB, c_24, c_33]) | (rw [c_18]; simp [siB, c_24]))), hT9⟩) (fun q h => by cases h) dX12_isSilenced_41
  refine lv_aload_n hx hb dX12_isSilenced_27 rfl (lv_at hl 1 rfl) ?_
  refine lv_iload_n hx hb dX12_isSilenced_28 rfl (lv_at hl 2 rfl) ?_
  refine lv_iload_n hx hb dX12_isSilenced_29 rfl (lv_at hl 3 rfl) ?_
  refine vp_callSi ((va_runV (As := [.int (nI j), .int (nI i)]) (rest := []) ⟨hx, hb, hml, hown, hts⟩ (c_X12_isMet l dC dI cI cD cR y as ai ar am ak ao az ae aq af hi th po ba en an aw ax ap se n d t day al nd bb oo K F kn j i (by first | omega | assumption | exact gnd _ | exact gkn _ | exact Nat.lt_trans (gkn _) (by decide) | exact Nat.lt_trans (gnd _) (by decide) | exact Nat.lt_of_le_of_lt (pcN_le _) (by decide)) (by first | omega | assumption | exact gnd _ | exact gkn _ | exact Nat.lt_trans (gkn _) (by decide) | exact Nat.lt_trans (gnd _) (by decide) | exact Nat.lt_of_le_of_lt (pcN_le _) (by decide)) (by first | omega | assumption | exact gnd _ | exact gkn _ | exact Nat.lt_trans (gkn _) (by decide) | exact Nat.lt_trans (gnd _) (by decide) | exact Nat.lt_of_le_of_lt (pcN_le _) (by decide)) (by first | omega | assumption | exact gnd _ | exact gkn _ | exact Nat.lt_trans (gkn _) (by decide) | exact Nat.lt_trans (gnd _) (by decide) | exact Nat.lt_of_le_of_lt (pcN_le _) (by decide)) (by first | omega | assumption | exact gnd _ | exact gkn _ | exact Nat.lt_trans (gkn _) (by decide) | exact Nat.lt_trans (gnd _) (by decide) | exact Nat.lt_of_le_of_lt (pcN_le _) (by decide)) gnd gkn gK gF (by first | omega | assumption | exact gnd _ | exact gkn _ | exact Nat.lt_trans (gkn _) (by decide) | exact Nat.lt_trans (gnd _) (by decide) | exact Nat.lt_of_le_of_lt (pcN_le _) (by decide)) (by first | omega | assumption | exact gnd _ | exact gkn _ | exact Nat.lt_trans (gkn _) (by decide) | exact Nat.lt_trans (gnd _) (by decide) | exact Nat.lt_of_le_of_lt (pcN_le _) (by decide))) (cwV 2 hts gX12_isSilenced_X12_isMet rfl rfl rfl (by decide +kernel) ⟨Nat.le_of_ble_eq_true rfl, Nat.le_of_ble_eq_true rfl⟩) (preV_R hCX (va_recv hK hP (ci := 12) (q0 := 0) rfl rfl) (hP)) rfl rfl hl.1 rfl (lv_room (Nat.le_of_ble_eq_true rfl)) dX12_isSilenced_30 ⟨Nat.le_of_ble_eq_true (by first | rfl | decide), Nat.le_of_ble_eq_true (by first | rfl | decide)⟩).run) (fun r_30 hr_30 => ?_)
  subst hr_30
  refine ho_beq (tgt := 40) hx hb dX12_isSilenced_33 (by decide) (fun c_33 => ?_) (fun c_33 => ?_)
  · refine lv_iconst (v := nI 0) hx hb dX12_isSilenced_40 (by decide +kernel) ?_
    exact W.zret (v := nI 0) hx hb hr rfl (fun T9 hT9 hW9 => ⟨_, rfl, (bI_f (by first | (rw [c_11]; rfl) | (rw [siB_g c_11 (fun q => c_18 q)]; first | exact c_33 | rfl) | (rw [c_18]; simp [siB, c_24, c_33]) | (rw [c_18]; simp [siB, c_24]))), hT9⟩) (fun q h => by cases h) dX12_isSilenced_41
  refine lv_iconst (v := nI 1) hx hb dX12_isSilenced_36 (by decide +kernel) ?_
  refine lv_goto (tgt := 41) hx hb dX12_isSilenced_37 (by decide) ?_
  exact W.zret (v := nI 1) hx hb hr rfl (fun T9 hT9 hW9 => ⟨_, rfl, (bI_t (by first | (rw [c_11]; rfl) | (rw [siB_g c_11 (fun q => c_18 q)]; first | exact c_33 | rfl) | (rw [c_18]; simp [siB, c_24, c_33]) | (rw [c_18]; simp [siB, c_24]))), hT9⟩) (fun q h => by cases h) dX12_isSilenced_41
set_option maxHeartbeats 4000000 in
set_option maxRecDepth 100000 in
theorem c_X12_stepsOf (l : Launch) (dC : Nat → ClassId) (dI : Nat → Nat → Nat) (cI cD cR : ClassId) (y as ai ar am ak ao az ae aq af : Nat) (hi : Bool) (th : Int32) (po ba en an aw ax ap : Nat) (se : Int32) (n d t day al : Nat) (nd : Nat → Nat) (bb oo : Nat → Int32) (K F kn : Nat → Nat) (j i : Nat) (hn : n ≤ 9) (hd : d ≤ 7) (ht : t < 512) (hal : al < 128) (hday : day < 2 ^ 30) (gnd : ∀ i, nd i < 512) (gkn : ∀ j, kn j < 512) (gK : ∀ j, K j < 8) (gF : ∀ j, F j < 10) (hj9 : j < 7) (hi9 : i < 9) : Met l yX12_stepsOf wsX12_stepsOf ({ frames := 1, cells := 0, slots := 0, locals := 22 }) (pcR dC dI cI cD cR [.ref y, .int (nI j), .int (nI i)] (fun H => va_P (dC, dI) vwCl ([(y, .inr (12, [.ref as, .ref ai, .ref ar, .ref am, .ref ak, .ref ao, .ref az, .ref ae, .ref aq, .ref af, .int (bI hi), .int th, .int (nI po), .int (nI ba), .int (nI en), .ref an, .ref aw, .ref ax, .ref ap, .int se]))] ++ [(as, .inl (cI, 53, .inl (sF n d t day al nd bb oo K F kn)))]) H)) (vp_Si (fun r => r = nI (efN (K j) (F j) (pcN (nd i))))) 0 0 (fun _ => False) := by
  refine Met.ofW (cc := cX12_stepsOf) (maxL := 5) (ret := (some .int)) (by decide) rfl ?_
  intro p e s m args below meth c s₁ B hml hv
  obtain ⟨rfl, hH0, hCX⟩ := hv
  have hx := B.exec
  have hb := B.bytes
  have hr := B.returns
  have hts := atoms_spec (ws := wsX12_stepsOf) B.pre
  have hown : s.vm.findClass RX12 = some m.cls := findClass_of_methodNamed B.named
  have hlocks := B.notSynchronized
  have hK := hCX.1
  have hP := hH0
  have hl := lv_entry ([.ref y, .int (nI j), .int (nI i)]) (n := 5) (Nat.le_of_ble_eq_true rfl)
  rw [lg_entry_eq]
  generalize (lg_sl ([.ref y, .int (nI j), .int (nI i)]) ++ List.replicate (5 - (lg_sl ([.ref y, .int (nI j), .int (nI i)])).length) Slot.unset).toArray = ls at hl ⊢
  have hl : lv_has ls 5 [(0, .ref y), (1, .int (nI j)), (2, .int (nI i))] := hl
  refine lv_aload_n hx hb dX12_stepsOf_0 rfl (lv_at hl 0 rfl) ?_
  refine lv_iload_n hx hb dX12_stepsOf_1 rfl (lv_at hl 2 rfl) ?_
  refine lv_iconst (v := nI 0) hx hb dX12_stepsOf_2 (by decide +kernel) ?_
  refine vp_callSi ((va_runV (As := [.int (nI i), .int (nI 0)]) (rest := []) ⟨hx, hb, hml, hown, hts⟩ (c_X12_of_0 l dC dI cI cD cR y as ai ar am ak ao az ae aq af hi th po ba en an aw ax ap se n d t day al nd bb oo K F kn i (by first | omega | assumption | exact gnd _ | exact gkn _ | exact Nat.lt_trans (gkn _) (by decide) | exact Nat.lt_trans (gnd _) (by decide) | exact Nat.lt_of_le_of_lt (pcN_le _) (by decide)) (by first | omega | assumption | exact gnd _ | exact gkn _ | exact Nat.lt_trans (gkn _) (by decide) | exact Nat.lt_trans (gnd _) (by decide) | exact Nat.lt_of_le_of_lt (pcN_le _) (by decide)) (by first | omega | assumption | exact gnd _ | exact gkn _ | exact Nat.lt_trans (gkn _) (by decide) | exact Nat.lt_trans (gnd _) (by decide) | exact Nat.lt_of_le_of_lt (pcN_le _) (by decide)) (by first | omega | assumption | exact gnd _ | exact gkn _ | exact Nat.lt_trans (gkn _) (by decide) | exact Nat.lt_trans (gnd _) (by decide) | exact Nat.lt_of_le_of_lt (pcN_le _) (by decide)) (by first | omega | assumption | exact gnd _ | exact gkn _ | exact Nat.lt_trans (gkn _) (by decide) | exact Nat.lt_trans (gnd _) (by decide) | exact Nat.lt_of_le_of_lt (pcN_le _) (by decide)) gnd gkn gK gF (by first | omega | assumption | exact gnd _ | exact gkn _ | exact Nat.lt_trans (gkn _) (by decide) | exact Nat.lt_trans (gnd _) (by decide) | exact Nat.lt_of_le_of_lt (pcN_le _) (by decide))) (cwV 2 hts gX12_stepsOf_X12_of rfl rfl rfl (by decide +kernel) ⟨Nat.le_of_ble_eq_true rfl, Nat.le_of_ble_eq_true rfl⟩) (preV_R hCX (va_recv hK hP (ci := 12) (q0 := 0) rfl rfl) (hP)) rfl rfl hl.1 rfl (lv_room (Nat.le_of_ble_eq_true rfl)) dX12_stepsOf_3 ⟨Nat.le_of_ble_eq_true (by first | rfl | decide), Nat.le_of_ble_eq_true (by first | rfl | decide)⟩).run) (fun r_3 hr_3 => ?_)
  subst hr_3
  refine vp_callSi ((va_runS (As := [.int (nI (nd i))]) (rest := []) ⟨hx, hb, hml, hown, hts⟩ (c_X12_bits l dC dI cI cD cR (nd i) (Nat.lt_trans (gnd i) (by decide))) (va_cwS 1 hts gX12_stepsOf_X12_bits rfl rfl rfl (by decide +kernel) ⟨Nat.le_of_ble_eq_true rfl, Nat.le_of_ble_eq_true rfl⟩) (preS_R hCX (trivial)) rfl rfl hl.1 rfl (lv_room (Nat.le_of_ble_eq_true rfl)) dX12_stepsOf_6 ⟨Nat.le_of_ble_eq_true (by first | rfl | decide), Nat.le_of_ble_eq_true (by first | rfl | decide)⟩).run) (fun r_6 hr_6 => ?_)
  subst hr_6
  have hp9 := pcN_le (nd i)
  refine lv_istore_n (lv' := [(3, .int (nI (pcN (nd i)))), (0, .ref y), (1, .int (nI j)), (2, .int (nI i))]) hx hb dX12_stepsOf_9 rfl hl (by decide) rfl (fun ls hl => ?_)
  refine lv_aload_n hx hb dX12_stepsOf_10 rfl (lv_at hl 1 rfl) ?_
  refine lv_iload_n hx hb dX12_stepsOf_11 rfl (lv_at hl 2 rfl) ?_
  refine lv_iconst (v := nI 1) hx hb dX12_stepsOf_12 (by decide +kernel) ?_
  refine vp_callSi ((va_runV (As := [.int (nI j), .int (nI 1)]) (rest := []) ⟨hx, hb, hml, hown, hts⟩ (c_X12_get_1 l dC dI cI cD cR y as ai ar am ak ao az ae aq af hi th po ba en an aw ax ap se n d t day al nd bb oo K F kn j (by first | omega | assumption | exact gnd _ | exact gkn _ | exact Nat.lt_trans (gkn _) (by decide) | exact Nat.lt_trans (gnd _) (by decide) | exact Nat.lt_of_le_of_lt (pcN_le _) (by decide)) (by first | omega | assumption | exact gnd _ | exact gkn _ | exact Nat.lt_trans (gkn _) (by decide) | exact Nat.lt_trans (gnd _) (by decide) | exact Nat.lt_of_le_of_lt (pcN_le _) (by decide)) (by first | omega | assumption | exact gnd _ | exact gkn _ | exact Nat.lt_trans (gkn _) (by decide) | exact Nat.lt_trans (gnd _) (by decide) | exact Nat.lt_of_le_of_lt (pcN_le _) (by decide)) (by first | omega | assumption | exact gnd _ | exact gkn _ | exact Nat.lt_trans (gkn _) (by decide) | exact Nat.lt_trans (gnd _) (by decide) | exact Nat.lt_of_le_of_lt (pcN_le _) (by decide)) (by first | omega | assumption | exact gnd _ | exact gkn _ | exact Nat.lt_trans (gkn _) (by decide) | exact Nat.lt_trans (gnd _) (by decide) | exact Nat.lt_of_le_of_lt (pcN_le _) (by decide)) gnd gkn gK gF (by first | omega | assumption | exact gnd _ | exact gkn _ | exact Nat.lt_trans (gkn _) (by decide) | exact Nat.lt_trans (gnd _) (by decide) | exact Nat.lt_of_le_of_lt (pcN_le _) (by decide))) (cwV 2 hts gX12_stepsOf_X12_get rfl rfl rfl (by decide +kernel) ⟨Nat.le_of_ble_eq_true rfl, Nat.le_of_ble_eq_true rfl⟩) (preV_R hCX (va_recv hK hP (ci := 12) (q0 := 0) rfl rfl) (hP)) rfl rfl hl.1 rfl (lv_room (Nat.le_of_ble_eq_true rfl)) dX12_stepsOf_13 ⟨Nat.le_of_ble_eq_true (by first | rfl | decide), Nat.le_of_ble_eq_true (by first | rfl | decide)⟩).run) (fun r_13 hr_13 => ?_)
  subst hr_13
  have hF9 := gF j
  refine lv_istore (lv' := [(4, .int (nI (F j))), (3, .int (nI (pcN (nd i)))), (0, .ref y), (1, .int (nI j)), (2, .int (nI i))]) hx hb dX12_stepsOf_16 hl (by decide) rfl (fun ls hl => ?_)
  refine lv_aload_n hx hb dX12_stepsOf_18 rfl (lv_at hl 2 rfl) ?_
  refine lv_iload_n hx hb dX12_stepsOf_19 rfl (lv_at hl 3 rfl) ?_
  refine lv_iconst (v := nI 0) hx hb dX12_stepsOf_20 (by decide +kernel) ?_
  refine vp_callSi ((va_runV (As := [.int (nI j), .int (nI 0)]) (rest := []) ⟨hx, hb, hml, hown, hts⟩ (c_X12_get_0 l dC dI cI cD cR y as ai ar am ak ao az ae aq af hi th po ba en an aw ax ap se n d t day al nd bb oo K F kn j (by first | omega | assumption | exact gnd _ | exact gkn _ | exact Nat.lt_trans (gkn _) (by decide) | exact Nat.lt_trans (gnd _) (by decide) | exact Nat.lt_of_le_of_lt (pcN_le _) (by decide)) (by first | omega | assumption | exact gnd _ | exact gkn _ | exact Nat.lt_trans (gkn _) (by decide) | exact Nat.lt_trans (gnd _) (by decide) | exact Nat.lt_of_le_of_lt (pcN_le _) (by decide)) (by first | omega | assumption | exact gnd _ | exact gkn _ | exact Nat.lt_trans (gkn _) (by decide) | exact Nat.lt_trans (gnd _) (by decide) | exact Nat.lt_of_le_of_lt (pcN_le _) (by decide)) (by first | omega | assumption | exact gnd _ | exact gkn _ | exact Nat.lt_trans (gkn _) (by decide) | exact Nat.lt_trans (gnd _) (by decide) | exact Nat.lt_of_le_of_lt (pcN_le _) (by decide)) (by first | omega | assumption | exact gnd _ | exact gkn _ | exact Nat.lt_trans (gkn _) (by decide) | exact Nat.lt_trans (gnd _) (by decide) | exact Nat.lt_of_le_of_lt (pcN_le _) (by decide)) gnd gkn gK gF (by first | omega | assumption | exact gnd _ | exact gkn _ | exact Nat.lt_trans (gkn _) (by decide) | exact Nat.lt_trans (gnd _) (by decide) | exact Nat.lt_of_le_of_lt (pcN_le _) (by decide))) (cwV 2 hts gX12_stepsOf_X12_get rfl rfl rfl (by decide +kernel) ⟨Nat.le_of_ble_eq_true rfl, Nat.le_of_ble_eq_true rfl⟩) (preV_R hCX (va_recv hK hP (ci := 12) (q0 := 0) rfl rfl) (hP)) rfl rfl hl.1 rfl (lv_room (Nat.le_of_ble_eq_true rfl)) dX12_stepsOf_21 ⟨Nat.le_of_ble_eq_true (by first | rfl | decide), Nat.le_of_ble_eq_true (by first | rfl | decide)⟩).run) (fun r_21 hr_21 => ?_)
  subst hr_21
  have hK9 := gK j
  by_cases k_24_0 : K j = 1
  · refine ho_tope (y := nI 1) (by rw [k_24_0]) ?_
    refine lv_tableIn (tgt := 68) hx hb dX12_stepsOf_24 (by decide +kernel) (by decide +kernel) (off := 44) (by decide +kernel) (by decide) ?_
    refine lv_iconst (v := nI 2) hx hb dX12_stepsOf_68 (by decide +kernel) ?_
    refine lv_iload_n hx hb dX12_stepsOf_69 rfl (lv_at hl 1 rfl) ?_
    refine lv_iconst (v := nI 1) hx hb dX12_stepsOf_70 (by decide +kernel) ?_
    refine ho_iadd hx hb dX12_stepsOf_71 ?_
    refine ho_imul hx hb dX12_stepsOf_72 ?_
    exact W.iret (v := nI (2 * ((pcN (nd i)) + 1))) hx hb hr (fun T9 hT9 hW9 => ⟨_, rfl, (congrArg nI (by first | (simp only [k_24_0, efN]; done) | (simp only [k_24_1, efN]; done) | (simp only [k_24_2, efN]; done) | (simp only [k_24_3, efN]; done) | (simp only [k_24_4, efN]; done) | (simp only [k_24_5, efN]; done) | (simp only [k_24_6, efN]; omega) | (rw [show K j = 0 by omega]; rfl))), hT9⟩) (fun q h => by cases h) dX12_stepsOf_73
  by_cases k_24_1 : K j = 2
  · refine ho_tope (y := nI 2) (by rw [k_24_1]) ?_
    refine lv_tableIn (tgt := 74) hx hb dX12_stepsOf_24 (by decide +kernel) (by decide +kernel) (off := 50) (by decide +kernel) (by decide) ?_
    refine lv_iload_n hx hb dX12_stepsOf_74 rfl (lv_at hl 1 rfl) ?_
    exact W.iret (v := nI (pcN (nd i))) hx hb hr (fun T9 hT9 hW9 => ⟨_, rfl, (congrArg nI (by first | (simp only [k_24_0, efN]; done) | (simp only [k_24_1, efN]; done) | (simp only [k_24_2, efN]; done) | (simp only [k_24_3, efN]; done) | (simp only [k_24_4, efN]; done) | (simp only [k_24_5, efN]; done) | (simp only [k_24_6, efN]; omega) | (rw [show K j = 0 by omega]; rfl))), hT9⟩) (fun q h => by cases h) dX12_stepsOf_75
  by_cases k_24_2 : K j = 3
  · refine ho_tope (y := nI 3) (by rw [k_24_2]) ?_
    refine lv_tableIn (tgt := 68) hx hb dX12_stepsOf_24 (by decide +kernel) (by decide +kernel) (off := 44) (by decide +kernel) (by decide) ?_
    refine lv_iconst (v := nI 2) hx hb dX12_stepsOf_68 (by decide +kernel) ?_
    refine lv_iload_n hx hb dX12_stepsOf_69 rfl (lv_at hl 1 rfl) ?_
    refine lv_iconst (v := nI 1) hx hb dX12_stepsOf_70 (by decide +kernel) ?_
    refine ho_iadd hx hb dX12_stepsOf_71 ?_
    refine ho_imul hx hb dX12_stepsOf_72 ?_
    exact W.iret (v := nI (2 * ((pcN (nd i)) + 1))) hx hb hr (fun T9 hT9 hW9 => ⟨_, rfl, (congrArg nI (by first | (simp only [k_24_0, efN]; done) | (simp only [k_24_1, efN]; done) | (simp only [k_24_2, efN]; done) | (simp only [k_24_3, efN]; done) | (simp only [k_24_4, efN]; done) | (simp only [k_24_5, efN]; done) | (simp only [k_24_6, efN]; omega) | (rw [show K j = 0 by omega]; rfl))), hT9⟩) (fun q h => by cases h) dX12_stepsOf_73
  by_cases k_24_3 : K j = 4
  · refine ho_tope (y := nI 4) (by rw [k_24_3]) ?_
    refine lv_tableIn (tgt := 76) hx hb dX12_stepsOf_24 (by decide +kernel) (by decide +kernel) (off := 52) (by decide +kernel) (by decide) ?_
    refine lv_iload_n hx hb dX12_stepsOf_76 rfl (lv_at hl 1 rfl) ?_
    refine lv_iconst (v := nI 1) hx hb dX12_stepsOf_77 (by decide +kernel) ?_
    refine ho_iadd hx hb dX12_stepsOf_78 ?_
    refine lv_iload hx hb dX12_stepsOf_79 (lv_at hl 0 rfl) ?_
    refine ho_iadd hx hb dX12_stepsOf_81 ?_
    exact W.iret (v := nI (((pcN (nd i)) + 1) + (F j))) hx hb hr (fun T9 hT9 hW9 => ⟨_, rfl, (congrArg nI (by first | (simp only [k_24_0, efN]; done) | (simp only [k_24_1, efN]; done) | (simp only [k_24_2, efN]; done) | (simp only [k_24_3, efN]; done) | (simp only [k_24_4, efN]; done) | (simp only [k_24_5, efN]; done) | (simp only [k_24_6, efN]; omega) | (rw [show K j = 0 by omega]; rfl))), hT9⟩) (fun q h => by cases h) dX12_stepsOf_82
  by_cases k_24_4 : K j = 5
  · refine ho_tope (y := nI 5) (by rw [k_24_4]) ?_
    refine lv_tableIn (tgt := 83) hx hb dX12_stepsOf_24 (by decide +kernel) (by decide +kernel) (off := 59) (by decide +kernel) (by decide) ?_
    refine lv_iconst (v := nI 2) hx hb dX12_stepsOf_83 (by decide +kernel) ?_
    refine lv_iload_n hx hb dX12_stepsOf_84 rfl (lv_at hl 1 rfl) ?_
    refine lv_iconst (v := nI 1) hx hb dX12_stepsOf_85 (by decide +kernel) ?_
    refine ho_iadd hx hb dX12_stepsOf_86 ?_
    refine ho_imul hx hb dX12_stepsOf_87 ?_
    refine lv_iconst (v := nI 1) hx hb dX12_stepsOf_88 (by decide +kernel) ?_
    refine ho_isub hx hb dX12_stepsOf_89 (by omega) ?_
    exact W.iret (v := nI ((2 * ((pcN (nd i)) + 1)) - 1)) hx hb hr (fun T9 hT9 hW9 => ⟨_, rfl, (congrArg nI (by first | (simp only [k_24_0, efN]; done) | (simp only [k_24_1, efN]; done) | (simp only [k_24_2, efN]; done) | (simp only [k_24_3, efN]; done) | (simp only [k_24_4, efN]; done) | (simp only [k_24_5, efN]; done) | (simp only [k_24_6, efN]; omega) | (rw [show K j = 0 by omega]; rfl))), hT9⟩) (fun q h => by cases h) dX12_stepsOf_90
  by_cases k_24_5 : K j = 6
  · refine ho_tope (y := nI 6) (by rw [k_24_5]) ?_
    refine lv_tableIn (tgt := 91) hx hb dX12_stepsOf_24 (by decide +kernel) (by decide +kernel) (off := 67) (by decide +kernel) (by decide) ?_
    refine lv_iload_n hx hb dX12_stepsOf_91 rfl (lv_at hl 1 rfl) ?_
    refine lv_iload hx hb dX12_stepsOf_92 (lv_at hl 0 rfl) ?_
    refine ho_iadd hx hb dX12_stepsOf_94 ?_
    exact W.iret (v := nI ((pcN (nd i)) + (F j))) hx hb hr (fun T9 hT9 hW9 => ⟨_, rfl, (congrArg nI (by first | (simp only [k_24_0, efN]; done) | (simp only [k_24_1, efN]; done) | (simp only [k_24_2, efN]; done) | (simp only [k_24_3, efN]; done) | (simp only [k_24_4, efN]; done) | (simp only [k_24_5, efN]; done) | (simp only [k_24_6, efN]; omega) | (rw [show K j = 0 by omega]; rfl))), hT9⟩) (fun q h => by cases h) dX12_stepsOf_95
  by_cases k_24_6 : K j = 7
  · refine ho_tope (y := nI 7) (by rw [k_24_6]) ?_
    refine lv_tableIn (tgt := 96) hx hb dX12_stepsOf_24 (by decide +kernel) (by decide +kernel) (off := 72) (by decide +kernel) (by decide) ?_
    refine lv_iconst (v := nI 2) hx hb dX12_stepsOf_96 (by decide +kernel) ?_
    refine lv_iload_n hx hb dX12_stepsOf_97 rfl (lv_at hl 1 rfl) ?_
    refine lv_iconst (v := nI 1) hx hb dX12_stepsOf_98 (by decide +kernel) ?_
    refine ho_iadd hx hb dX12_stepsOf_99 ?_
    refine lv_iload hx hb dX12_stepsOf_100 (lv_at hl 0 rfl) ?_
    refine ho_iadd hx hb dX12_stepsOf_102 ?_
    refine ho_imul hx hb dX12_stepsOf_103 ?_
    exact W.iret (v := nI (2 * (((pcN (nd i)) + 1) + (F j)))) hx hb hr (fun T9 hT9 hW9 => ⟨_, rfl, (congrArg nI (by first | (simp only [k_24_0, efN]; done) | (simp only [k_24_1, efN]; done) | (simp only [k_24_2, efN]; done) | (simp only [k_24_3, efN]; done) | (simp only [k_24_4, efN]; done) | (simp only [k_24_5, efN]; done) | (simp only [k_24_6, efN]; omega) | (rw [show K j = 0 by omega]; rfl))), hT9⟩) (fun q h => by cases h) dX12_stepsOf_104
  refine lv_tableOut (tgt := 105) hx hb dX12_stepsOf_24 (by rw [nI_toInt (by omega)]; omega) (by decide) ?_
  refine lv_iload_n hx hb dX12_stepsOf_105 rfl (lv_at hl 1 rfl) ?_
  refine lv_iconst (v := nI 1) hx hb dX12_stepsOf_106 (by decide +kernel) ?_
  refine ho_iadd hx hb dX12_stepsOf_107 ?_
  exact W.iret (v := nI ((pcN (nd i)) + 1)) hx hb hr (fun T9 hT9 hW9 => ⟨_, rfl, (congrArg nI (by first | (simp only [k_24_0, efN]; done) | (simp only [k_24_1, efN]; done) | (simp only [k_24_2, efN]; done) | (simp only [k_24_3, efN]; done) | (simp only [k_24_4, efN]; done) | (simp only [k_24_5, efN]; done) | (simp only [k_24_6, efN]; omega) | (rw [show K j = 0 by omega]; rfl))), hT9⟩) (fun q h => by cases h) dX12_stepsOf_108
set_option maxHeartbeats 4000000 in
set_option maxRecDepth 100000 in
theorem c_X12_priceOf (l : Launch) (dC : Nat → ClassId) (dI : Nat → Nat → Nat) (cI cD cR : ClassId) (y as ai ar am ak ao az ae aq af : Nat) (hi : Bool) (th : Int32) (po ba en an aw ax ap : Nat) (se : Int32) (n d t day al : Nat) (nd : Nat → Nat) (bb oo : Nat → Int32) (K F kn : Nat → Nat) (j : Nat) (hn : n ≤ 9) (hd : d ≤ 7) (ht : t < 512) (hal : al < 128) (hday : day < 2 ^ 30) (gnd : ∀ i, nd i < 512) (gkn : ∀ j, kn j < 512) (gK : ∀ j, K j < 8) (gF : ∀ j, F j < 10) (hj9 : j < 7) : Met l yX12_priceOf wsX12_priceOf ({ frames := 1, cells := 0, slots := 0, locals := 22 }) (pcR dC dI cI cD cR [.ref y, .int (nI j)] (fun H => va_P (dC, dI) vwCl ([(y, .inr (12, [.ref as, .ref ai, .ref ar, .ref am, .ref ak, .ref ao, .ref az, .ref ae, .ref aq, .ref af, .int (bI hi), .int th, .int (nI po), .int (nI ba), .int (nI en), .ref an, .ref aw, .ref ax, .ref ap, .int se]))] ++ [(as, .inl (cI, 53, .inl (sF n d t day al nd bb oo K F kn)))]) H)) (vp_Si (fun r => r = nI (asN (K j) (F j)))) 0 0 (fun _ => False) := by
  refine Met.ofW (cc := cX12_priceOf) (maxL := 2) (ret := (some .int)) (by decide) rfl ?_
  intro p e s m args below meth c s₁ B hml hv
  obtain ⟨rfl, hH0, hCX⟩ := hv
  have hx := B.exec
  have hb := B.bytes
  have hr := B.returns
  have hts := atoms_spec (ws := wsX12_priceOf) B.pre
  have hown : s.vm.findClass RX12 = some m.cls := findClass_of_methodNamed B.named
  have hlocks := B.notSynchronized
  have hK := hCX.1
  have hP := hH0
  have hl := lv_entry ([.ref y, .int (nI j)]) (n := 2) (Nat.le_of_ble_eq_true rfl)
  rw [lg_entry_eq]
  generalize (lg_sl ([.ref y, .int (nI j)]) ++ List.replicate (2 - (lg_sl ([.ref y, .int (nI j)])).length) Slot.unset).toArray = ls at hl ⊢
  have hl : lv_has ls 2 [(0, .ref y), (1, .int (nI j))] := hl
  refine lv_aload_n hx hb dX12_priceOf_0 rfl (lv_at hl 0 rfl) ?_
  refine lv_iload_n hx hb dX12_priceOf_1 rfl (lv_at hl 1 rfl) ?_
  refine lv_iconst (v := nI 0) hx hb dX12_priceOf_2 (by decide +kernel) ?_
  refine vp_callSi ((va_runV (As := [.int (nI j), .int (nI 0)]) (rest := []) ⟨hx, hb, hml, hown, hts⟩ (c_X12_get_0 l dC dI cI cD cR y as ai ar am ak ao az ae aq af hi th po ba en an aw ax ap se n d t day al nd bb oo K F kn j (by first | omega | assumption | exact gnd _ | exact gkn _ | exact Nat.lt_trans (gkn _) (by decide) | exact Nat.lt_trans (gnd _) (by decide) | exact Nat.lt_of_le_of_lt (pcN_le _) (by decide)) (by first | omega | assumption | exact gnd _ | exact gkn _ | exact Nat.lt_trans (gkn _) (by decide) | exact Nat.lt_trans (gnd _) (by decide) | exact Nat.lt_of_le_of_lt (pcN_le _) (by decide)) (by first | omega | assumption | exact gnd _ | exact gkn _ | exact Nat.lt_trans (gkn _) (by decide) | exact Nat.lt_trans (gnd _) (by decide) | exact Nat.lt_of_le_of_lt (pcN_le _) (by decide)) (by first | omega | assumption | exact gnd _ | exact gkn _ | exact Nat.lt_trans (gkn _) (by decide) | exact Nat.lt_trans (gnd _) (by decide) | exact Nat.lt_of_le_of_lt (pcN_le _) (by decide)) (by first | omega | assumption | exact gnd _ | exact gkn _ | exact Nat.lt_trans (gkn _) (by decide) | exact Nat.lt_trans (gnd _) (by decide) | exact Nat.lt_of_le_of_lt (pcN_le _) (by decide)) gnd gkn gK gF (by first | omega | assumption | exact gnd _ | exact gkn _ | exact Nat.lt_trans (gkn _) (by decide) | exact Nat.lt_trans (gnd _) (by decide) | exact Nat.lt_of_le_of_lt (pcN_le _) (by decide))) (cwV 2 hts gX12_priceOf_X12_get rfl rfl rfl (by decide +kernel) ⟨Nat.le_of_ble_eq_true rfl, Nat.le_of_ble_eq_true rfl⟩) (preV_R hCX (va_recv hK hP (ci := 12) (q0 := 0) rfl rfl) (hP)) rfl rfl hl.1 rfl (lv_room (Nat.le_of_ble_eq_true rfl)) dX12_priceOf_3 ⟨Nat.le_of_ble_eq_true (by first | rfl | decide), Nat.le_of_ble_eq_true (by first | rfl | decide)⟩).run) (fun r_3 hr_3 => ?_)
  subst hr_3
  refine lv_aload_n hx hb dX12_priceOf_6 rfl (lv_at hl 0 rfl) ?_
  refine lv_iload_n hx hb dX12_priceOf_7 rfl (lv_at hl 1 rfl) ?_
  refine lv_iconst (v := nI 1) hx hb dX12_priceOf_8 (by decide +kernel) ?_
  refine vp_callSi ((va_runV (As := [.int (nI j), .int (nI 1)]) (rest := [.int (nI (K j))]) ⟨hx, hb, hml, hown, hts⟩ (c_X12_get_1 l dC dI cI cD cR y as ai ar am ak ao az ae aq af hi th po ba en an aw ax ap se n d t day al nd bb oo K F kn j (by first | omega | assumption | exact gnd _ | exact gkn _ | exact Nat.lt_trans (gkn _) (by decide) | exact Nat.lt_trans (gnd _) (by decide) | exact Nat.lt_of_le_of_lt (pcN_le _) (by decide)) (by first | omega | assumption | exact gnd _ | exact gkn _ | exact Nat.lt_trans (gkn _) (by decide) | exact Nat.lt_trans (gnd _) (by decide) | exact Nat.lt_of_le_of_lt (pcN_le _) (by decide)) (by first | omega | assumption | exact gnd _ | exact gkn _ | exact Nat.lt_trans (gkn _) (by decide) | exact Nat.lt_trans (gnd _) (by decide) | exact Nat.lt_of_le_of_lt (pcN_le _) (by decide)) (by first | omega | assumption | exact gnd _ | exact gkn _ | exact Nat.lt_trans (gkn _) (by decide) | exact Nat.lt_trans (gnd _) (by decide) | exact Nat.lt_of_le_of_lt (pcN_le _) (by decide)) (by first | omega | assumption | exact gnd _ | exact gkn _ | exact Nat.lt_trans (gkn _) (by decide) | exact Nat.lt_trans (gnd _) (by decide) | exact Nat.lt_of_le_of_lt (pcN_le _) (by decide)) gnd gkn gK gF (by first | omega | assumption | exact gnd _ | exact gkn _ | exact Nat.lt_trans (gkn _) (by decide) | exact Nat.lt_trans (gnd _) (by decide) | exact Nat.lt_of_le_of_lt (pcN_le _) (by decide))) (cwV 2 hts gX12_priceOf_X12_get rfl rfl rfl (by decide +kernel) ⟨Nat.le_of_ble_eq_true rfl, Nat.le_of_ble_eq_true rfl⟩) (preV_R hCX (va_recv hK hP (ci := 12) (q0 := 0) rfl rfl) (hP)) rfl rfl hl.1 rfl (lv_room (Nat.le_of_ble_eq_true rfl)) dX12_priceOf_9 ⟨Nat.le_of_ble_eq_true (by first | rfl | decide), Nat.le_of_ble_eq_true (by first | rfl | decide)⟩).run) (fun r_9 hr_9 => ?_)
  subst hr_9
  refine vp_callSi ((va_runS (As := [.int (nI (K j)), .int (nI (F j))]) (rest := []) ⟨hx, hb, hml, hown, hts⟩ (c_X12_priceBy l dC dI cI cD cR (K j) (F j) (gK j) (gF j)) (va_cwS 2 hts gX12_priceOf_X12_priceBy rfl rfl rfl (by decide +kernel) ⟨Nat.le_of_ble_eq_true rfl, Nat.le_of_ble_eq_true rfl⟩) (preS_R hCX (trivial)) rfl rfl hl.1 rfl (lv_room (Nat.le_of_ble_eq_true rfl)) dX12_priceOf_12 ⟨Nat.le_of_ble_eq_true (by first | rfl | decide), Nat.le_of_ble_eq_true (by first | rfl | decide)⟩).run) (fun r_12 hr_12 => ?_)
  subst hr_12
  exact W.iret (v := nI (asN (K j) (F j))) hx hb hr (fun T9 hT9 hW9 => ⟨_, rfl, rfl, hT9⟩) (fun q h => by cases h) dX12_priceOf_15
set_option maxHeartbeats 4000000 in
set_option maxRecDepth 100000 in
theorem c_X12_denies (l : Launch) (dC : Nat → ClassId) (dI : Nat → Nat → Nat) (cI cD cR : ClassId) (y as ai ar am ak ao az ae aq af : Nat) (hi : Bool) (th : Int32) (po ba en an aw ax ap : Nat) (se : Int32) (n d t day al : Nat) (nd : Nat → Nat) (bb oo : Nat → Int32) (K F kn : Nat → Nat) (j i : Nat) (sz : Nat) (hn : n ≤ 9) (hd : d ≤ 7) (ht : t < 512) (hal : al < 128) (hday : day < 2 ^ 30) (gnd : ∀ i, nd i < 512) (gkn : ∀ j, kn j < 512) (gK : ∀ j, K j < 8) (gF : ∀ j, F j < 10) (hj9 : j < 7) (hi9 : i < 9) (hdy : day + 1 < 2 ^ 30) : Met l yX12_denies wsX12_denies ({ frames := 3, cells := 0, slots := 0, locals := 68 }) (pcR dC dI cI cD cR [.ref y, .int (nI j), .int (nI i)] (fun H => H.size = sz ∧ va_P (dC, dI) vwCl ([(y, .inr (12, [.ref as, .ref ai, .ref ar, .ref am, .ref ak, .ref ao, .ref az, .ref ae, .ref aq, .ref af, .int (bI hi), .int th, .int (nI po), .int (nI ba), .int (nI en), .ref an, .ref aw, .ref ax, .ref ap, .int se]))] ++ [(as, .inl (cI, 53, .inl (sF n d t day al nd bb oo K F kn)))]) H ∧ va_D (fun _ => True) ([(y, .inr (12, [.ref as, .ref ai, .ref ar, .ref am, .ref ak, .ref ao, .ref az, .ref ae, .ref aq, .ref af, .int (bI hi), .int th, .int (nI po), .int (nI ba), .int (nI en), .ref an, .ref aw, .ref ax, .ref ap, .int se]))] ++ [(as, .inl (cI, 53, .inl (sF n d t day al nd bb oo K F kn)))]))) (va_Qi (fun r (_ : Unit) => r = bI (siB (K j) t (kn j) (nd i) (day % 2 != 0))) (fun (_ : Unit) T9 => va_P (dC, dI) vwCl ([(y, .inr (12, [.ref as, .ref ai, .ref ar, .ref am, .ref ak, .ref ao, .ref az, .ref ae, .ref aq, .ref af, .int (bI hi), .int th, .int (nI po), .int (nI ba), .int (nI en), .ref an, .ref aw, .ref ax, .ref ap, .int se]))] ++ [(as, .inl (cI, 53, .inl (sF n d (bif siB (K j) t (kn j) (nd i) (day % 2 != 0) then t ||| 2 ^ i else t) (day + 1) al nd (bif siB (K j) t (kn j) (nd i) (day % 2 != 0) then upd bb i (nI j) else bb) (bif siB (K j) t (kn j) (nd i) (day % 2 != 0) then upd oo i (nI (day + 1)) else oo) K F (bif siB (K j) t (kn j) (nd i) (day % 2 != 0) then va_up kn j (kn j ||| 2 ^ i) else kn))))]) T9.heap ∧ va_D (va_A ([(y, .inr (12, [.ref as, .ref ai, .ref ar, .ref am, .ref ak, .ref ao, .ref az, .ref ae, .ref aq, .ref af, .int (bI hi), .int th, .int (nI po), .int (nI ba), .int (nI en), .ref an, .ref aw, .ref ax, .ref ap, .int se]))] ++ [(as, .inl (cI, 53, .inl (sF n d t day al nd bb oo K F kn)))]) sz) ([(y, .inr (12, [.ref as, .ref ai, .ref ar, .ref am, .ref ak, .ref ao, .ref az, .ref ae, .ref aq, .ref af, .int (bI hi), .int th, .int (nI po), .int (nI ba), .int (nI en), .ref an, .ref aw, .ref ax, .ref ap, .int se]))] ++ [(as, .inl (cI, 53, .inl (sF n d (bif siB (K j) t (kn j) (nd i) (day % 2 != 0) then t ||| 2 ^ i else t) (day + 1) al nd (bif siB (K j) t (kn j) (nd i) (day % 2 != 0) then upd bb i (nI j) else bb) (bif siB (K j) t (kn j) (nd i) (day % 2 != 0) then upd oo i (nI (day + 1)) else oo) K F (bif siB (K j) t (kn j) (nd i) (day % 2 != 0) then va_up kn j (kn j ||| 2 ^ i) else kn))))])) (va_A ([(y, .inr (12, [.ref as, .ref ai, .ref ar, .ref am, .ref ak, .ref ao, .ref az, .ref ae, .ref aq, .ref af, .int (bI hi), .int th, .int (nI po), .int (nI ba), .int (nI en), .ref an, .ref aw, .ref ax, .ref ap, .int se]))] ++ [(as, .inl (cI, 53, .inl (sF n d t day al nd bb oo K F kn)))]) sz)) 0 0 (va_A ([(y, .inr (12, [.ref as, .ref ai, .ref ar, .ref am, .ref ak, .ref ao, .ref az, .ref ae, .ref aq, .ref af, .int (bI hi), .int th, .int (nI po), .int (nI ba), .int (nI en), .ref an, .ref aw, .ref ax, .ref ap, .int se]))] ++ [(as, .inl (cI, 53, .inl (sF n d t day al nd bb oo K F kn)))]) sz) := by
  refine Met.ofW (cc := cX12_denies) (maxL := 4) (ret := (some .boolean)) (by decide) rfl ?_
  intro p e s m args below meth c s₁ B hml hv
  obtain ⟨rfl, hH0, hCX⟩ := hv
  have hx := B.exec
  have hb := B.bytes
  have hr := B.returns
  have hts := atoms_spec (ws := wsX12_denies) B.pre
  have hown : s.vm.findClass RX12 = some m.cls := findClass_of_methodNamed B.named
  have hlocks := B.notSynchronized
  have hK := hCX.1
  obtain ⟨hsz, hP, hD0⟩ := hH0
  subst hsz
  have hD := hD0.self (sz := s.heap.size)
  generalize hAe : va_A ([(y, .inr (12, [.ref as, .ref ai, .ref ar, .ref am, .ref ak, .ref ao, .ref az, .ref ae, .ref aq, .ref af, .int (bI hi), .int th, .int (nI po), .int (nI ba), .int (nI en), .ref an, .ref aw, .ref ax, .ref ap, .int se]))] ++ [(as, .inl (cI, 53, .inl (sF n d t day al nd bb oo K F kn)))]) s.heap.size = A at hD ⊢
  have hA : ∀ q : Nat, s.heap.size ≤ q → A q := fun q h => by rw [← hAe]; exact Or.inr h
  have hS : va_S A s.heap s.heap [] := va_S.rf
  have hP : va_P (dC, dI) vwCl ([(y, .inr (12, [.ref as, .ref ai, .ref ar, .ref am, .ref ak, .ref ao, .ref az, .ref ae, .ref aq, .ref af, .int (bI hi), .int th, .int (nI po), .int (nI ba), .int (nI en), .ref an, .ref aw, .ref ax, .ref ap, .int se]))] ++ [(as, .inl (cI, 53, .inl (sF n d t day al nd bb oo K F kn)))]) s.heap := hP
  have hl := lv_entry ([.ref y, .int (nI j), .int (nI i)]) (n := 4) (Nat.le_of_ble_eq_true rfl)
  rw [lg_entry_eq]
  generalize (lg_sl ([.ref y, .int (nI j), .int (nI i)]) ++ List.replicate (4 - (lg_sl ([.ref y, .int (nI j), .int (nI i)])).length) Slot.unset).toArray = ls at hl ⊢
  have hl : lv_has ls 4 [(0, .ref y), (1, .int (nI j)), (2, .int (nI i))] := hl
  refine lv_aload_n hx hb dX12_denies_0 rfl (lv_at hl 0 rfl) ?_
  refine lv_iload_n hx hb dX12_denies_1 rfl (lv_at hl 1 rfl) ?_
  refine lv_iload_n hx hb dX12_denies_2 rfl (lv_at hl 2 rfl) ?_
  refine lv_aload_n hx hb dX12_denies_3 rfl (lv_at hl 0 rfl) ?_
  refine va_get (D := (dC, dI)) (ci := 12) (v := .ref as) (C := RX12) (T := TX12) (N := 20) hx hb hts (fun _ h => List.mem_cons_of_mem _ (List.mem_append_right _ h)) hown hK hP 0 rfl rfl 0 (by decide) (hts (.fieldLink RX12 9 "HoldsOnceDeniedModel" "s" "[I") (by decide +kernel)) (fun _ h9 => h9) rfl dX12_denies_4 ?_
  refine lv_iconst (v := nI 3) hx hb dX12_denies_7 (by decide +kernel) ?_
  refine ho_iald (v := nI day) hx hb hK hP 1 0 rfl rfl (by omega) (by first | decide | omega) rfl dX12_denies_8 ?_
  refine vp_callSi ((va_runV (As := [.int (nI j), .int (nI i), .int (nI day)]) (rest := []) ⟨hx, hb, hml, hown, hts⟩ (c_X12_isSilenced l dC dI cI cD cR y as ai ar am ak ao az ae aq af hi th po ba en an aw ax ap se n d t day al nd bb oo K F kn j i day (by first | omega | assumption | exact gnd _ | exact gkn _ | exact Nat.lt_trans (gkn _) (by decide) | exact Nat.lt_trans (gnd _) (by decide) | exact Nat.lt_of_le_of_lt (pcN_le _) (by decide)) (by first | omega | assumption | exact gnd _ | exact gkn _ | exact Nat.lt_trans (gkn _) (by decide) | exact Nat.lt_trans (gnd _) (by decide) | exact Nat.lt_of_le_of_lt (pcN_le _) (by decide)) (by first | omega | assumption | exact gnd _ | exact gkn _ | exact Nat.lt_trans (gkn _) (by decide) | exact Nat.lt_trans (gnd _) (by decide) | exact Nat.lt_of_le_of_lt (pcN_le _) (by decide)) (by first | omega | assumption | exact gnd _ | exact gkn _ | exact Nat.lt_trans (gkn _) (by decide) | exact Nat.lt_trans (gnd _) (by decide) | exact Nat.lt_of_le_of_lt (pcN_le _) (by decide)) (by first | omega | assumption | exact gnd _ | exact gkn _ | exact Nat.lt_trans (gkn _) (by decide) | exact Nat.lt_trans (gnd _) (by decide) | exact Nat.lt_of_le_of_lt (pcN_le _) (by decide)) gnd gkn gK gF (by first | omega | assumption | exact gnd _ | exact gkn _ | exact Nat.lt_trans (gkn _) (by decide) | exact Nat.lt_trans (gnd _) (by decide) | exact Nat.lt_of_le_of_lt (pcN_le _) (by decide)) (by first | omega | assumption | exact gnd _ | exact gkn _ | exact Nat.lt_trans (gkn _) (by decide) | exact Nat.lt_trans (gnd _) (by decide) | exact Nat.lt_of_le_of_lt (pcN_le _) (by decide)) (by first | omega | assumption | exact gnd _ | exact gkn _ | exact Nat.lt_trans (gkn _) (by decide) | exact Nat.lt_trans (gnd _) (by decide) | exact Nat.lt_of_le_of_lt (pcN_le _) (by decide))) (cwV 3 hts gX12_denies_X12_isSilenced rfl rfl rfl (by decide +kernel) ⟨Nat.le_of_ble_eq_true rfl, Nat.le_of_ble_eq_true rfl⟩) (preV_R hCX (va_recv hK hP (ci := 12) (q0 := 0) rfl rfl) (hP)) rfl rfl hl.1 rfl (lv_room (Nat.le_of_ble_eq_true rfl)) dX12_denies_9 ⟨Nat.le_of_ble_eq_true (by first | rfl | decide), Nat.le_of_ble_eq_true (by first | rfl | decide)⟩).run) (fun r_9 hr_9 => ?_)
  subst hr_9
  refine lv_istore_n (lv' := [(3, .int (bI (siB (K j) t (kn j) (nd i) (day % 2 != 0)))), (0, .ref y), (1, .int (nI j)), (2, .int (nI i))]) hx hb dX12_denies_12 rfl hl (by decide) rfl (fun ls hl => ?_)
  refine lv_aload_n hx hb dX12_denies_13 rfl (lv_at hl 1 rfl) ?_
  refine va_get (D := (dC, dI)) (ci := 12) (v := .ref as) (C := RX12) (T := TX12) (N := 20) hx hb hts (fun _ h => List.mem_cons_of_mem _ (List.mem_append_right _ h)) hown hK hP 0 rfl rfl 0 (by decide) (hts (.fieldLink RX12 9 "HoldsOnceDeniedModel" "s" "[I") (by decide +kernel)) (fun _ h9 => h9) rfl dX12_denies_14 ?_
  refine lv_iconst (v := nI 3) hx hb dX12_denies_17 (by decide +kernel) ?_
  refine lv_dup2_11 hx hb dX12_denies_18 rfl rfl ?_
  refine ho_iald (v := nI day) hx hb hK hP 1 0 rfl rfl (by omega) (by first | decide | omega) rfl dX12_denies_19 ?_
  refine lv_iconst (v := nI 1) hx hb dX12_denies_20 (by decide +kernel) ?_
  refine ho_iadd hx hb dX12_denies_21 ?_
  refine ho_iast (g := sF n d t (day + 1) al nd bb oo K F kn) hx hb hK hP hD hS 1 0 rfl rfl (by omega) (by first | decide | omega) sF_u3 dX12_denies_22 (fun H locs hP hD hS => ?_)
  have hP : va_P (dC, dI) vwCl ([(y, .inr (12, [.ref as, .ref ai, .ref ar, .ref am, .ref ak, .ref ao, .ref az, .ref ae, .ref aq, .ref af, .int (bI hi), .int th, .int (nI po), .int (nI ba), .int (nI en), .ref an, .ref aw, .ref ax, .ref ap, .int se]))] ++ [(as, .inl (cI, 53, .inl (sF n d t (day + 1) al nd bb oo K F kn)))]) H := hP
  have hD : va_D A ([(y, .inr (12, [.ref as, .ref ai, .ref ar, .ref am, .ref ak, .ref ao, .ref az, .ref ae, .ref aq, .ref af, .int (bI hi), .int th, .int (nI po), .int (nI ba), .int (nI en), .ref an, .ref aw, .ref ax, .ref ap, .int se]))] ++ [(as, .inl (cI, 53, .inl (sF n d t (day + 1) al nd bb oo K F kn)))]) := hD
  refine lv_iload_n hx hb dX12_denies_23 rfl (lv_at hl 0 rfl) ?_
  refine ho_bne (tgt := 29) hx hb dX12_denies_24 (by decide) (fun c_24 => ?_) (fun c_24 => ?_)
  · refine lv_aload_n hx hb dX12_denies_29 rfl (lv_at hl 1 rfl) ?_
    refine va_get (D := (dC, dI)) (ci := 12) (v := .ref as) (C := RX12) (T := TX12) (N := 20) hx hb hts (fun _ h => List.mem_cons_of_mem _ (List.mem_append_right _ h)) hown hK hP 0 rfl rfl 0 (by decide) (hts (.fieldLink RX12 9 "HoldsOnceDeniedModel" "s" "[I") (by decide +kernel)) (fun _ h9 => h9) rfl dX12_denies_30 ?_
    refine lv_iconst (v := nI 2) hx hb dX12_denies_33 (by decide +kernel) ?_
    refine lv_dup2_11 hx hb dX12_denies_34 rfl rfl ?_
    refine ho_iald (v := nI t) hx hb hK hP 1 0 rfl rfl (by omega) (by first | decide | omega) rfl dX12_denies_35 ?_
    refine lv_iconst (v := nI 1) hx hb dX12_denies_36 (by decide +kernel) ?_
    refine lv_iload_n hx hb dX12_denies_37 rfl (lv_at hl 3 rfl) ?_
    refine ho_shl1 hx hb dX12_denies_38 (by omega) ?_
    refine ho_ior hx hb dX12_denies_39 ?_
    refine ho_iast (g := sF n d (t ||| (2 ^ i)) (day + 1) al nd bb oo K F kn) hx hb hK hP hD hS 1 0 rfl rfl (by omega) (by first | decide | omega) sF_u2 dX12_denies_40 (fun H locs hP hD hS => ?_)
    have hP : va_P (dC, dI) vwCl ([(y, .inr (12, [.ref as, .ref ai, .ref ar, .ref am, .ref ak, .ref ao, .ref az, .ref ae, .ref aq, .ref af, .int (bI hi), .int th, .int (nI po), .int (nI ba), .int (nI en), .ref an, .ref aw, .ref ax, .ref ap, .int se]))] ++ [(as, .inl (cI, 53, .inl (sF n d (t ||| (2 ^ i)) (day + 1) al nd bb oo K F kn)))]) H := hP
    have hD : va_D A ([(y, .inr (12, [.ref as, .ref ai, .ref ar, .ref am, .ref ak, .ref ao, .ref az, .ref ae, .ref aq, .ref af, .int (bI hi), .int th, .int (nI po), .int (nI ba), .int (nI en), .ref an, .ref aw, .ref ax, .ref ap, .int se]))] ++ [(as, .inl (cI, 53, .inl (sF n d (t ||| (2 ^ i)) (day + 1) al nd bb oo K F kn)))]) := hD
    refine lv_aload_n hx hb dX12_denies_41 rfl (lv_at hl 1 rfl) ?_
    refine lv_iload_n hx hb dX12_denies_42 rfl (lv_at hl 3 rfl) ?_
    refine lv_iconst (v := nI 1) hx hb dX12_denies_43 (by decide +kernel) ?_
    refine lv_iload_n hx hb dX12_denies_44 rfl (lv_at hl 2 rfl) ?_
    have hPc := hP
    have hDc := hD
    have hFc := va_free (wc := [(y, .inr (12, [.ref as, .ref ai, .ref ar, .ref am, .ref ak, .ref ao, .ref az, .ref ae, .ref aq, .ref af, .int (bI hi), .int th, .int (nI po), .int (nI ba), .int (nI en), .ref an, .ref aw, .ref ax, .ref ap, .int se]))] ++ [(as, .inl (cI, 53, .inl (sF n d (t ||| (2 ^ i)) (day + 1) al nd bb oo K F kn)))]) hD hS hA [0, 1] rfl
    refine va_callv (va_runV (As := [.int (nI i), .int (nI 1), .int (nI j)]) (rest := []) ⟨hx, hb, hml, hown, hts⟩ (c_X12_setOf_1 l dC dI cI cD cR y as ai ar am ak ao az ae aq af hi th po ba en an aw ax ap se n d (t ||| (2 ^ i)) (day + 1) al nd bb oo K F kn i (nI j) H.size (by first | omega | assumption | exact gnd _ | exact gkn _ | exact Nat.lt_trans (gkn _) (by decide) | exact Nat.lt_trans (gnd _) (by decide) | exact Nat.lt_of_le_of_lt (pcN_le _) (by decide)) (by first | omega | assumption | exact gnd _ | exact gkn _ | exact Nat.lt_trans (gkn _) (by decide) | exact Nat.lt_trans (gnd _) (by decide) | exact Nat.lt_of_le_of_lt (pcN_le _) (by decide)) (or_512 ht (bit_512 hi9)) (by first | omega | assumption | exact gnd _ | exact gkn _ | exact Nat.lt_trans (gkn _) (by decide) | exact Nat.lt_trans (gnd _) (by decide) | exact Nat.lt_of_le_of_lt (pcN_le _) (by decide)) hdy gnd gkn gK gF (by first | omega | assumption | exact gnd _ | exact gkn _ | exact Nat.lt_trans (gkn _) (by decide) | exact Nat.lt_trans (gnd _) (by decide) | exact Nat.lt_of_le_of_lt (pcN_le _) (by decide))) (cwV 3 hts gX12_denies_X12_setOf rfl rfl rfl (by decide +kernel) ⟨Nat.le_of_ble_eq_true rfl, Nat.le_of_ble_eq_true rfl⟩) (preV_R hCX (va_recv hK hP (ci := 12) (q0 := 0) rfl rfl) ⟨rfl, hPc, hDc.weaken (fun _ _ _ _ => trivial)⟩) rfl rfl hl.1 rfl (lv_room (Nat.le_of_ble_eq_true rfl)) dX12_denies_45 ⟨Nat.le_of_ble_eq_true (by first | rfl | decide), Nat.le_of_ble_eq_true (by first | rfl | decide)⟩) hS (fun q _ h => hFc q h) hFc (fun u T8 H1 locs hT8 hvm hw hB hz1 hk1 hS => ?_)
    obtain ⟨hP1, hD1⟩ := hB
    rw [hT8] at hP1
    obtain ⟨hP, hD⟩ := va_join (wr := []) (w1 := [(y, .inr (12, [.ref as, .ref ai, .ref ar, .ref am, .ref ak, .ref ao, .ref az, .ref ae, .ref aq, .ref af, .int (bI hi), .int th, .int (nI po), .int (nI ba), .int (nI en), .ref an, .ref aw, .ref ax, .ref ap, .int se]))] ++ [(as, .inl (cI, 53, .inl (sF n d (t ||| (2 ^ i)) (day + 1) al nd (upd bb i (nI j)) oo K F kn)))]) hP hD [0, 1] [] rfl rfl (by decide) (by decide) hk1 hFc hP1 hD1
    generalize H1 = H at hP hS ⊢
    have hP : va_P (dC, dI) vwCl ([(y, .inr (12, [.ref as, .ref ai, .ref ar, .ref am, .ref ak, .ref ao, .ref az, .ref ae, .ref aq, .ref af, .int (bI hi), .int th, .int (nI po), .int (nI ba), .int (nI en), .ref an, .ref aw, .ref ax, .ref ap, .int se]))] ++ [(as, .inl (cI, 53, .inl (sF n d (t ||| (2 ^ i)) (day + 1) al nd (upd bb i (nI j)) oo K F kn)))]) H := hP
    have hD : va_D A ([(y, .inr (12, [.ref as, .ref ai, .ref ar, .ref am, .ref ak, .ref ao, .ref az, .ref ae, .ref aq, .ref af, .int (bI hi), .int th, .int (nI po), .int (nI ba), .int (nI en), .ref an, .ref aw, .ref ax, .ref ap, .int se]))] ++ [(as, .inl (cI, 53, .inl (sF n d (t ||| (2 ^ i)) (day + 1) al nd (upd bb i (nI j)) oo K F kn)))]) := hD
    refine lv_aload_n hx hb dX12_denies_48 rfl (lv_at hl 1 rfl) ?_
    refine lv_iload_n hx hb dX12_denies_49 rfl (lv_at hl 3 rfl) ?_
    refine lv_iconst (v := nI 2) hx hb dX12_denies_50 (by decide +kernel) ?_
    refine lv_aload_n hx hb dX12_denies_51 rfl (lv_at hl 1 rfl) ?_
    refine va_get (D := (dC, dI)) (ci := 12) (v := .ref as) (C := RX12) (T := TX12) (N := 20) hx hb hts (fun _ h => List.mem_cons_of_mem _ (List.mem_append_right _ h)) hown hK hP 0 rfl rfl 0 (by decide) (hts (.fieldLink RX12 9 "HoldsOnceDeniedModel" "s" "[I") (by decide +kernel)) (fun _ h9 => h9) rfl dX12_denies_52 ?_
    refine lv_iconst (v := nI 3) hx hb dX12_denies_55 (by decide +kernel) ?_
    refine ho_iald (v := nI (day + 1)) hx hb hK hP 1 0 rfl rfl (by omega) (by first | decide | omega) rfl dX12_denies_56 ?_
    have hPc := hP
    have hDc := hD
    have hFc := va_free (wc := [(y, .inr (12, [.ref as, .ref ai, .ref ar, .ref am, .ref ak, .ref ao, .ref az, .ref ae, .ref aq, .ref af, .int (bI hi), .int th, .int (nI po), .int (nI ba), .int (nI en), .ref an, .ref aw, .ref ax, .ref ap, .int se]))] ++ [(as, .inl (cI, 53, .inl (sF n d (t ||| (2 ^ i)) (day + 1) al nd (upd bb i (nI j)) oo K F kn)))]) hD hS hA [0, 1] rfl
    refine va_callv (va_runV (As := [.int (nI i), .int (nI 2), .int (nI (day + 1))]) (rest := []) ⟨hx, hb, hml, hown, hts⟩ (c_X12_setOf_2 l dC dI cI cD cR y as ai ar am ak ao az ae aq af hi th po ba en an aw ax ap se n d (t ||| (2 ^ i)) (day + 1) al nd (upd bb i (nI j)) oo K F kn i (nI (day + 1)) H.size (by first | omega | assumption | exact gnd _ | exact gkn _ | exact Nat.lt_trans (gkn _) (by decide) | exact Nat.lt_trans (gnd _) (by decide) | exact Nat.lt_of_le_of_lt (pcN_le _) (by decide)) (by first | omega | assumption | exact gnd _ | exact gkn _ | exact Nat.lt_trans (gkn _) (by decide) | exact Nat.lt_trans (gnd _) (by decide) | exact Nat.lt_of_le_of_lt (pcN_le _) (by decide)) (or_512 ht (bit_512 hi9)) (by first | omega | assumption | exact gnd _ | exact gkn _ | exact Nat.lt_trans (gkn _) (by decide) | exact Nat.lt_trans (gnd _) (by decide) | exact Nat.lt_of_le_of_lt (pcN_le _) (by decide)) hdy gnd gkn gK gF (by first | omega | assumption | exact gnd _ | exact gkn _ | exact Nat.lt_trans (gkn _) (by decide) | exact Nat.lt_trans (gnd _) (by decide) | exact Nat.lt_of_le_of_lt (pcN_le _) (by decide))) (cwV 3 hts gX12_denies_X12_setOf rfl rfl rfl (by decide +kernel) ⟨Nat.le_of_ble_eq_true rfl, Nat.le_of_ble_eq_true rfl⟩) (preV_R hCX (va_recv hK hP (ci := 12) (q0 := 0) rfl rfl) ⟨rfl, hPc, hDc.weaken (fun _ _ _ _ => trivial)⟩) rfl rfl hl.1 rfl (lv_room (Nat.le_of_ble_eq_true rfl)) dX12_denies_57 ⟨Nat.le_of_ble_eq_true (by first | rfl | decide), Nat.le_of_ble_eq_true (by first | rfl | decide)⟩) hS (fun q _ h => hFc q h) hFc (fun u T8 H1 locs hT8 hvm hw hB hz1 hk1 hS => ?_)
    obtain ⟨hP1, hD1⟩ := hB
    rw [hT8] at hP1
    obtain ⟨hP, hD⟩ := va_join (wr := []) (w1 := [(y, .inr (12, [.ref as, .ref ai, .ref ar, .ref am, .ref ak, .ref ao, .ref az, .ref ae, .ref aq, .ref af, .int (bI hi), .int th, .int (nI po), .int (nI ba), .int (nI en), .ref an, .ref aw, .ref ax, .ref ap, .int se]))] ++ [(as, .inl (cI, 53, .inl (sF n d (t ||| (2 ^ i)) (day + 1) al nd (upd bb i (nI j)) (upd oo i (nI (day + 1))) K F kn)))]) hP hD [0, 1] [] rfl rfl (by decide) (by decide) hk1 hFc hP1 hD1
    generalize H1 = H at hP hS ⊢
    have hP : va_P (dC, dI) vwCl ([(y, .inr (12, [.ref as, .ref ai, .ref ar, .ref am, .ref ak, .ref ao, .ref az, .ref ae, .ref aq, .ref af, .int (bI hi), .int th, .int (nI po), .int (nI ba), .int (nI en), .ref an, .ref aw, .ref ax, .ref ap, .int se]))] ++ [(as, .inl (cI, 53, .inl (sF n d (t ||| (2 ^ i)) (day + 1) al nd (upd bb i (nI j)) (upd oo i (nI (day + 1))) K F kn)))]) H := hP
    have hD : va_D A ([(y, .inr (12, [.ref as, .ref ai, .ref ar, .ref am, .ref ak, .ref ao, .ref az, .ref ae, .ref aq, .ref af, .int (bI hi), .int th, .int (nI po), .int (nI ba), .int (nI en), .ref an, .ref aw, .ref ax, .ref ap, .int se]))] ++ [(as, .inl (cI, 53, .inl (sF n d (t ||| (2 ^ i)) (day + 1) al nd (upd bb i (nI j)) (upd oo i (nI (day + 1))) K F kn)))]) := hD
    refine lv_aload_n hx hb dX12_denies_60 rfl (lv_at hl 1 rfl) ?_
    refine lv_iload_n hx hb dX12_denies_61 rfl (lv_at hl 2 rfl) ?_
    refine lv_iconst (v := nI 2) hx hb dX12_denies_62 (by decide +kernel) ?_
    refine lv_aload_n hx hb dX12_denies_63 rfl (lv_at hl 1 rfl) ?_
    refine lv_iload_n hx hb dX12_denies_64 rfl (lv_at hl 2 rfl) ?_
    refine lv_iconst (v := nI 2) hx hb dX12_denies_65 (by decide +kernel) ?_
    refine vp_callSi ((va_runV (As := [.int (nI j), .int (nI 2)]) (rest := [.int (nI 2), .int (nI j), .ref y]) ⟨hx, hb, hml, hown, hts⟩ (c_X12_get_2 l dC dI cI cD cR y as ai ar am ak ao az ae aq af hi th po ba en an aw ax ap se n d (t ||| (2 ^ i)) (day + 1) al nd (upd bb i (nI j)) (upd oo i (nI (day + 1))) K F kn j (by first | omega | assumption | exact gnd _ | exact gkn _ | exact Nat.lt_trans (gkn _) (by decide) | exact Nat.lt_trans (gnd _) (by decide) | exact Nat.lt_of_le_of_lt (pcN_le _) (by decide)) (by first | omega | assumption | exact gnd _ | exact gkn _ | exact Nat.lt_trans (gkn _) (by decide) | exact Nat.lt_trans (gnd _) (by decide) | exact Nat.lt_of_le_of_lt (pcN_le _) (by decide)) (or_512 ht (bit_512 hi9)) (by first | omega | assumption | exact gnd _ | exact gkn _ | exact Nat.lt_trans (gkn _) (by decide) | exact Nat.lt_trans (gnd _) (by decide) | exact Nat.lt_of_le_of_lt (pcN_le _) (by decide)) hdy gnd gkn gK gF (by first | omega | assumption | exact gnd _ | exact gkn _ | exact Nat.lt_trans (gkn _) (by decide) | exact Nat.lt_trans (gnd _) (by decide) | exact Nat.lt_of_le_of_lt (pcN_le _) (by decide))) (cwV 2 hts gX12_denies_X12_get rfl rfl rfl (by decide +kernel) ⟨Nat.le_of_ble_eq_true rfl, Nat.le_of_ble_eq_true rfl⟩) (preV_R hCX (va_recv hK hP (ci := 12) (q0 := 0) rfl rfl) (hP)) rfl rfl hl.1 rfl (lv_room (Nat.le_of_ble_eq_true rfl)) dX12_denies_66 ⟨Nat.le_of_ble_eq_true (by first | rfl | decide), Nat.le_of_ble_eq_true (by first | rfl | decide)⟩).run) (fun r_66 hr_66 => ?_)
    subst hr_66
    refine lv_iconst (v := nI 1) hx hb dX12_denies_69 (by decide +kernel) ?_
    refine lv_iload_n hx hb dX12_denies_70 rfl (lv_at hl 3 rfl) ?_
    refine ho_shl1 hx hb dX12_denies_71 (by omega) ?_
    refine ho_ior hx hb dX12_denies_72 ?_
    have hPc := hP
    have hDc := hD
    have hFc := va_free (wc := [(y, .inr (12, [.ref as, .ref ai, .ref ar, .ref am, .ref ak, .ref ao, .ref az, .ref ae, .ref aq, .ref af, .int (bI hi), .int th, .int (nI po), .int (nI ba), .int (nI en), .ref an, .ref aw, .ref ax, .ref ap, .int se]))] ++ [(as, .inl (cI, 53, .inl (sF n d (t ||| (2 ^ i)) (day + 1) al nd (upd bb i (nI j)) (upd oo i (nI (day + 1))) K F kn)))]) hD hS hA [0, 1] rfl
    refine va_callv (va_runV (As := [.int (nI j), .int (nI 2), .int (nI ((kn j) ||| (2 ^ i)))]) (rest := []) ⟨hx, hb, hml, hown, hts⟩ (c_X12_puts_2 l dC dI cI cD cR y as ai ar am ak ao az ae aq af hi th po ba en an aw ax ap se n d (t ||| (2 ^ i)) (day + 1) al nd (upd bb i (nI j)) (upd oo i (nI (day + 1))) K F kn j ((kn j) ||| (2 ^ i)) H.size (by first | omega | assumption | exact gnd _ | exact gkn _ | exact Nat.lt_trans (gkn _) (by decide) | exact Nat.lt_trans (gnd _) (by decide) | exact Nat.lt_of_le_of_lt (pcN_le _) (by decide)) (by first | omega | assumption | exact gnd _ | exact gkn _ | exact Nat.lt_trans (gkn _) (by decide) | exact Nat.lt_trans (gnd _) (by decide) | exact Nat.lt_of_le_of_lt (pcN_le _) (by decide)) (or_512 ht (bit_512 hi9)) (by first | omega | assumption | exact gnd _ | exact gkn _ | exact Nat.lt_trans (gkn _) (by decide) | exact Nat.lt_trans (gnd _) (by decide) | exact Nat.lt_of_le_of_lt (pcN_le _) (by decide)) hdy gnd gkn gK gF (by first | omega | assumption | exact gnd _ | exact gkn _ | exact Nat.lt_trans (gkn _) (by decide) | exact Nat.lt_trans (gnd _) (by decide) | exact Nat.lt_of_le_of_lt (pcN_le _) (by decide))) (cwV 3 hts gX12_denies_X12_puts rfl rfl rfl (by decide +kernel) ⟨Nat.le_of_ble_eq_true rfl, Nat.le_of_ble_eq_true rfl⟩) (preV_R hCX (va_recv hK hP (ci := 12) (q0 := 0) rfl rfl) ⟨rfl, hPc, hDc.weaken (fun _ _ _ _ => trivial)⟩) rfl rfl hl.1 rfl (lv_room (Nat.le_of_ble_eq_true rfl)) dX12_denies_73 ⟨Nat.le_of_ble_eq_true (by first | rfl | decide), Nat.le_of_ble_eq_true (by first | rfl | decide)⟩) hS (fun q _ h => hFc q h) hFc (fun u T8 H1 locs hT8 hvm hw hB hz1 hk1 hS => ?_)
    obtain ⟨hP1, hD1⟩ := hB
    rw [hT8] at hP1
    obtain ⟨hP, hD⟩ := va_join (wr := []) (w1 := [(y, .inr (12, [.ref as, .ref ai, .ref ar, .ref am, .ref ak, .ref ao, .ref az, .ref ae, .ref aq, .ref af, .int (bI hi), .int th, .int (nI po), .int (nI ba), .int (nI en), .ref an, .ref aw, .ref ax, .ref ap, .int se]))] ++ [(as, .inl (cI, 53, .inl (sF n d (t ||| (2 ^ i)) (day + 1) al nd (upd bb i (nI j)) (upd oo i (nI (day + 1))) K F (va_up kn j ((kn j) ||| (2 ^ i))))))]) hP hD [0, 1] [] rfl rfl (by decide) (by decide) hk1 hFc hP1 hD1
    generalize H1 = H at hP hS ⊢
    have hP : va_P (dC, dI) vwCl ([(y, .inr (12, [.ref as, .ref ai, .ref ar, .ref am, .ref ak, .ref ao, .ref az, .ref ae, .ref aq, .ref af, .int (bI hi), .int th, .int (nI po), .int (nI ba), .int (nI en), .ref an, .ref aw, .ref ax, .ref ap, .int se]))] ++ [(as, .inl (cI, 53, .inl (sF n d (t ||| (2 ^ i)) (day + 1) al nd (upd bb i (nI j)) (upd oo i (nI (day + 1))) K F (va_up kn j ((kn j) ||| (2 ^ i))))))]) H := hP
    have hD : va_D A ([(y, .inr (12, [.ref as, .ref ai, .ref ar, .ref am, .ref ak, .ref ao, .ref az, .ref ae, .ref aq, .ref af, .int (bI hi), .int th, .int (nI po), .int (nI ba), .int (nI en), .ref an, .ref aw, .ref ax, .ref ap, .int se]))] ++ [(as, .inl (cI, 53, .inl (sF n d (t ||| (2 ^ i)) (day + 1) al nd (upd bb i (nI j)) (upd oo i (nI (day + 1))) K F (va_up kn j ((kn j) ||| (2 ^ i))))))]) := hD
    refine lv_iconst (v := nI 1) hx hb dX12_denies_76 (by decide +kernel) ?_
    have hW9 : ([(y, .inr (12, [.ref as, .ref ai, .ref ar, .ref am, .ref ak, .ref ao, .ref az, .ref ae, .ref aq, .ref af, .int (bI hi), .int th, .int (nI po), .int (nI ba), .int (nI en), .ref an, .ref aw, .ref ax, .ref ap, .int se]))] ++ [(as, .inl (cI, 53, .inl (sF n d (t ||| (2 ^ i)) (day + 1) al nd (upd bb i (nI j)) (upd oo i (nI (day + 1))) K F (va_up kn j ((kn j) ||| (2 ^ i))))))] : va_W) = [(y, .inr (12, [.ref as, .ref ai, .ref ar, .ref am, .ref ak, .ref ao, .ref az, .ref ae, .ref aq, .ref af, .int (bI hi), .int th, .int (nI po), .int (nI ba), .int (nI en), .ref an, .ref aw, .ref ax, .ref ap, .int se]))] ++ [(as, .inl (cI, 53, .inl (sF n d (bif siB (K j) t (kn j) (nd i) (day % 2 != 0) then t ||| 2 ^ i else t) (day + 1) al nd (bif siB (K j) t (kn j) (nd i) (day % 2 != 0) then upd bb i (nI j) else bb) (bif siB (K j) t (kn j) (nd i) (day % 2 != 0) then upd oo i (nI (day + 1)) else oo) K F (bif siB (K j) t (kn j) (nd i) (day % 2 != 0) then va_up kn j (kn j ||| 2 ^ i) else kn))))] := by simp only [c_24, cond_true, cond_false]
    rw [hW9] at hP hD
    exact W.zret (v := nI 1) hx hb hr rfl (fun T9 hT9 hW9 => ⟨⟨_, (), rfl, (bI_t (by simp [c_24])), by rw [hT9]; exact hP, hD⟩, hS.F hT9⟩) hS.2.2 dX12_denies_77
  refine lv_iconst (v := nI 0) hx hb dX12_denies_27 (by decide +kernel) ?_
  have hW9 : ([(y, .inr (12, [.ref as, .ref ai, .ref ar, .ref am, .ref ak, .ref ao, .ref az, .ref ae, .ref aq, .ref af, .int (bI hi), .int th, .int (nI po), .int (nI ba), .int (nI en), .ref an, .ref aw, .ref ax, .ref ap, .int se]))] ++ [(as, .inl (cI, 53, .inl (sF n d t (day + 1) al nd bb oo K F kn)))] : va_W) = [(y, .inr (12, [.ref as, .ref ai, .ref ar, .ref am, .ref ak, .ref ao, .ref az, .ref ae, .ref aq, .ref af, .int (bI hi), .int th, .int (nI po), .int (nI ba), .int (nI en), .ref an, .ref aw, .ref ax, .ref ap, .int se]))] ++ [(as, .inl (cI, 53, .inl (sF n d (bif siB (K j) t (kn j) (nd i) (day % 2 != 0) then t ||| 2 ^ i else t) (day + 1) al nd (bif siB (K j) t (kn j) (nd i) (day % 2 != 0) then upd bb i (nI j) else bb) (bif siB (K j) t (kn j) (nd i) (day % 2 != 0) then upd oo i (nI (day + 1)) else oo) K F (bif siB (K j) t (kn j) (nd i) (day % 2 != 0) then va_up kn j (kn j ||| 2 ^ i) else kn))))] := by simp only [c_24, cond_true, cond_false]
  rw [hW9] at hP hD
  exact W.zret (v := nI 0) hx hb hr rfl (fun T9 hT9 hW9 => ⟨⟨_, (), rfl, (bI_f (by simp [c_24])), by rw [hT9]; exact hP, hD⟩, hS.F hT9⟩) hS.2.2 dX12_denies_28
set_option maxHeartbeats 4000000 in
set_option maxRecDepth 100000 in
theorem c_X12_fallsBy (l : Launch) (dC : Nat → ClassId) (dI : Nat → Nat → Nat) (cI cD cR : ClassId) (y as ai ar am ak ao az ae aq af : Nat) (hi : Bool) (th : Int32) (po ba en an aw ax ap : Nat) (se : Int32) (n d t day al : Nat) (nd : Nat → Nat) (bb oo : Nat → Int32) (K F kn : Nat → Nat) (j : Nat) (hn : n ≤ 9) (hd : d ≤ 7) (ht : t < 512) (hal : al < 128) (hday : day < 2 ^ 30) (gnd : ∀ i, nd i < 512) (gkn : ∀ j, kn j < 512) (gK : ∀ j, K j < 8) (gF : ∀ j, F j < 10) (hj9 : j < 7) : Met l yX12_fallsBy wsX12_fallsBy ({ frames := 2, cells := 0, slots := 0, locals := 42 }) (pcR dC dI cI cD cR [.ref y, .int (nI j)] (fun H => va_P (dC, dI) vwCl ([(y, .inr (12, [.ref as, .ref ai, .ref ar, .ref am, .ref ak, .ref ao, .ref az, .ref ae, .ref aq, .ref af, .int (bI hi), .int th, .int (nI po), .int (nI ba), .int (nI en), .ref an, .ref aw, .ref ax, .ref ap, .int se]))] ++ [(as, .inl (cI, 53, .inl (sF n d t day al nd bb oo K F kn)))]) H)) (vp_Si (fun r => r = nI (bif al.testBit j then ruR t nd n 9 (orF (fun s9 => t.testBit s9 && decide (bb s9 = nI j)) n) else 0))) 0 0 (fun _ => False) := by
  refine Met.ofW (cc := cX12_fallsBy) (maxL := 5) (ret := (some .int)) (by decide) rfl ?_
  intro p e s m args below meth c s₁ B hml hv
  obtain ⟨rfl, hH0, hCX⟩ := hv
  have hx := B.exec
  have hb := B.bytes
  have hr := B.returns
  have hts := atoms_spec (ws := wsX12_fallsBy) B.pre
  have hown : s.vm.findClass RX12 = some m.cls := findClass_of_methodNamed B.named
  have hlocks := B.notSynchronized
  have hK := hCX.1
  have hP := hH0
  have hl := lv_entry ([.ref y, .int (nI j)]) (n := 5) (Nat.le_of_ble_eq_true rfl)
  rw [lg_entry_eq]
  generalize (lg_sl ([.ref y, .int (nI j)]) ++ List.replicate (5 - (lg_sl ([.ref y, .int (nI j)])).length) Slot.unset).toArray = ls at hl ⊢
  have hl : lv_has ls 5 [(0, .ref y), (1, .int (nI j))] := hl
  refine lv_iconst (v := nI 0) hx hb dX12_fallsBy_0 (by decide +kernel) ?_
  refine lv_istore_n (lv' := [(2, .int (nI 0)), (0, .ref y), (1, .int (nI j))]) hx hb dX12_fallsBy_1 rfl hl (by decide) rfl (fun ls hl => ?_)
  refine lv_iconst (v := nI 0) hx hb dX12_fallsBy_2 (by decide +kernel) ?_
  refine lv_istore_n (lv' := [(3, .int (nI 0)), (2, .int (nI 0)), (0, .ref y), (1, .int (nI j))]) hx hb dX12_fallsBy_3 rfl hl (by decide) rfl (fun ls hl => ?_)
  refine ho_lp (T := Nat) 5 (fun x9 => [(3, .int (nI x9)), (2, .int (nI (orF (fun s9 => t.testBit s9 && decide (bb s9 = nI j)) x9))), (0, .ref y), (1, .int (nI j))]) (fun x9 => []) (fun x9 => (x9 ≤ n)) (fun x9 => n - x9) 0 (by omega) (lv_sub hl [0, 1, 2, 3] rfl) ?_
  intro fu4 i ls hI hm4 hl ih
  have hin := hI
  have hl : lv_has ls 5 [(3, .int (nI i)), (2, .int (nI (orF (fun s9 => t.testBit s9 && decide (bb s9 = nI j)) i))), (0, .ref y), (1, .int (nI j))] := hl
  have hin : i ≤ n := hin
  have hm4 : n - i < fu4 + 1 := hm4
  refine W.eq (g2 := F0 m 4 ls []) rfl ?_
  have ih4 := ih
  refine lv_iload_n hx hb dX12_fallsBy_4 rfl (lv_at hl 0 rfl) ?_
  refine lv_aload_n hx hb dX12_fallsBy_5 rfl (lv_at hl 2 rfl) ?_
  refine va_get (D := (dC, dI)) (ci := 12) (v := .ref as) (C := RX12) (T := TX12) (N := 20) hx hb hts (fun _ h => List.mem_cons_of_mem _ (List.mem_append_right _ h)) hown hK hP 0 rfl rfl 0 (by decide) (hts (.fieldLink RX12 9 "HoldsOnceDeniedModel" "s" "[I") (by decide +kernel)) (fun _ h9 => h9) rfl dX12_fallsBy_6 ?_
  refine lv_iconst (v := nI 0) hx hb dX12_fallsBy_9 (by decide +kernel) ?_
  refine ho_iald (v := nI n) hx hb hK hP 1 0 rfl rfl (by omega) (by first | decide | omega) rfl dX12_fallsBy_10 ?_
  refine ho_icmp_ge (tgt := 48) hx hb dX12_fallsBy_11 (by decide) (by omega) (by omega) (fun c_11 => ?_) (fun c_11 => ?_)
  · refine lv_iconst (v := nI 0) hx hb dX12_fallsBy_48 (by decide +kernel) ?_
    refine lv_istore_n (lv' := [(3, .int (nI 0)), (2, .int (nI (orF (fun s9 => t.testBit s9 && decide (bb s9 = nI j)) i))), (0, .ref y), (1, .int (nI j))]) hx hb dX12_fallsBy_49 rfl hl (by decide) rfl (fun ls hl => ?_)
    have e9_2 : orF (fun s9 => t.testBit s9 && decide (bb s9 = nI j)) i = ruR t nd n 0 (orF (fun s9 => t.testBit s9 && decide (bb s9 = nI j)) n) := by rw [show i = n by omega]; rfl
    rw [e9_2] at hl
    refine ho_lp (T := Nat) 5 (fun x9 => [(3, .int (nI x9)), (2, .int (nI (ruR t nd n x9 (orF (fun s9 => t.testBit s9 && decide (bb s9 = nI j)) n)))), (0, .ref y), (1, .int (nI j))]) (fun x9 => []) (fun x9 => (x9 ≤ 9)) (fun x9 => 9 - x9) 0 (by omega) (lv_sub hl [0, 1, 2, 3] rfl) ?_
    intro fu50 r ls hI hm50 hl ih
    have hr9 := hI
    have hl : lv_has ls 5 [(3, .int (nI r)), (2, .int (nI (ruR t nd n r (orF (fun s9 => t.testBit s9 && decide (bb s9 = nI j)) n)))), (0, .ref y), (1, .int (nI j))] := hl
    have hr9 : r ≤ 9 := hr9
    have hm50 : 9 - r < fu50 + 1 := hm50
    refine W.eq (g2 := F0 m 50 ls []) rfl ?_
    have ih50 := ih
    refine lv_iload_n hx hb dX12_fallsBy_50 rfl (lv_at hl 0 rfl) ?_
    refine lv_bipush (v := nI 9) hx hb dX12_fallsBy_51 (by decide +kernel) ?_
    refine ho_icmp_ge (tgt := 114) hx hb dX12_fallsBy_53 (by decide) (by omega) (by omega) (fun c_53 => ?_) (fun c_53 => ?_)
    · refine lv_aload_n hx hb dX12_fallsBy_114 rfl (lv_at hl 2 rfl) ?_
      refine lv_iload_n hx hb dX12_fallsBy_115 rfl (lv_at hl 3 rfl) ?_
      refine vp_callSi ((va_runV (As := [.int (nI j)]) (rest := []) ⟨hx, hb, hml, hown, hts⟩ (c_X12_isAlive l dC dI cI cD cR y as ai ar am ak ao az ae aq af hi th po ba en an aw ax ap se n d t day al nd bb oo K F kn j (by first | omega | assumption | exact gnd _ | exact gkn _ | exact Nat.lt_trans (gkn _) (by decide) | exact Nat.lt_trans (gnd _) (by decide) | exact Nat.lt_of_le_of_lt (pcN_le _) (by decide)) (by first | omega | assumption | exact gnd _ | exact gkn _ | exact Nat.lt_trans (gkn _) (by decide) | exact Nat.lt_trans (gnd _) (by decide) | exact Nat.lt_of_le_of_lt (pcN_le _) (by decide)) (by first | omega | assumption | exact gnd _ | exact gkn _ | exact Nat.lt_trans (gkn _) (by decide) | exact Nat.lt_trans (gnd _) (by decide) | exact Nat.lt_of_le_of_lt (pcN_le _) (by decide)) (by first | omega | assumption | exact gnd _ | exact gkn _ | exact Nat.lt_trans (gkn _) (by decide) | exact Nat.lt_trans (gnd _) (by decide) | exact Nat.lt_of_le_of_lt (pcN_le _) (by decide)) (by first | omega | assumption | exact gnd _ | exact gkn _ | exact Nat.lt_trans (gkn _) (by decide) | exact Nat.lt_trans (gnd _) (by decide) | exact Nat.lt_of_le_of_lt (pcN_le _) (by decide)) gnd gkn gK gF (by first | omega | assumption | exact gnd _ | exact gkn _ | exact Nat.lt_trans (gkn _) (by decide) | exact Nat.lt_trans (gnd _) (by decide) | exact Nat.lt_of_le_of_lt (pcN_le _) (by decide))) (cwV 1 hts gX12_fallsBy_X12_isAlive rfl rfl rfl (by decide +kernel) ⟨Nat.le_of_ble_eq_true rfl, Nat.le_of_ble_eq_true rfl⟩) (preV_R hCX (va_recv hK hP (ci := 12) (q0 := 0) rfl rfl) (hP)) rfl rfl hl.1 rfl (lv_room (Nat.le_of_ble_eq_true rfl)) dX12_fallsBy_116 ⟨Nat.le_of_ble_eq_true (by first | rfl | decide), Nat.le_of_ble_eq_true (by first | rfl | decide)⟩).run) (fun r_116 hr_116 => ?_)
      subst hr_116
      refine ho_beq (tgt := 126) hx hb dX12_fallsBy_119 (by decide) (fun c_119 => ?_) (fun c_119 => ?_)
      · refine lv_iconst (v := nI 0) hx hb dX12_fallsBy_126 (by decide +kernel) ?_
        exact W.iret (v := nI 0) hx hb hr (fun T9 hT9 hW9 => ⟨_, rfl, (congrArg nI (by rw [c_119, show r = 9 by omega]; rfl)), hT9⟩) (fun q h => by cases h) dX12_fallsBy_127
      refine lv_iload_n hx hb dX12_fallsBy_122 rfl (lv_at hl 1 rfl) ?_
      refine lv_goto (tgt := 127) hx hb dX12_fallsBy_123 (by decide) ?_
      exact W.iret (v := nI (ruR t nd n r (orF (fun s9 => t.testBit s9 && decide (bb s9 = nI j)) n))) hx hb hr (fun T9 hT9 hW9 => ⟨_, rfl, (congrArg nI (by rw [c_119, show r = 9 by omega]; rfl)), hT9⟩) (fun q h => by cases h) dX12_fallsBy_127
    refine lv_iconst (v := nI 0) hx hb dX12_fallsBy_56 (by decide +kernel) ?_
    refine lv_istore (lv' := [(4, .int (nI 0)), (3, .int (nI r)), (2, .int (nI (ruR t nd n r (orF (fun s9 => t.testBit s9 && decide (bb s9 = nI j)) n)))), (0, .ref y), (1, .int (nI j))]) hx hb dX12_fallsBy_57 hl (by decide) rfl (fun ls hl => ?_)
    have e9_2 : ruR t nd n r (orF (fun s9 => t.testBit s9 && decide (bb s9 = nI j)) n) = ruI t nd 0 (ruR t nd n r (orF (fun s9 => t.testBit s9 && decide (bb s9 = nI j)) n)) := by rfl
    rw [e9_2] at hl
    refine ho_lp (T := Nat) 5 (fun x9 => [(4, .int (nI x9)), (3, .int (nI r)), (2, .int (nI (ruI t nd x9 (ruR t nd n r (orF (fun s9 => t.testBit s9 && decide (bb s9 = nI j)) n))))), (0, .ref y), (1, .int (nI j))]) (fun x9 => []) (fun x9 => (x9 ≤ n)) (fun x9 => n - x9) 0 (by omega) (lv_sub hl [0, 1, 2, 3, 4] rfl) ?_
    intro fu59 u ls hI hm59 hl ih
    have hun := hI
    have hl : lv_has ls 5 [(4, .int (nI u)), (3, .int (nI r)), (2, .int (nI (ruI t nd u (ruR t nd n r (orF (fun s9 => t.testBit s9 && decide (bb s9 = nI j)) n))))), (0, .ref y), (1, .int (nI j))] := hl
    have hun : u ≤ n := hun
    have hm59 : n - u < fu59 + 1 := hm59
    refine W.eq (g2 := F0 m 59 ls []) rfl ?_
    have ih59 := ih
    refine lv_iload hx hb dX12_fallsBy_59 (lv_at hl 0 rfl) ?_
    refine lv_aload_n hx hb dX12_fallsBy_61 rfl (lv_at hl 3 rfl) ?_
    refine va_get (D := (dC, dI)) (ci := 12) (v := .ref as) (C := RX12) (T := TX12) (N := 20) hx hb hts (fun _ h => List.mem_cons_of_mem _ (List.mem_append_right _ h)) hown hK hP 0 rfl rfl 0 (by decide) (hts (.fieldLink RX12 9 "HoldsOnceDeniedModel" "s" "[I") (by decide +kernel)) (fun _ h9 => h9) rfl dX12_fallsBy_62 ?_
    refine lv_iconst (v := nI 0) hx hb dX12_fallsBy_65 (by decide +kernel) ?_
    refine ho_iald (v := nI n) hx hb hK hP 1 0 rfl rfl (by omega) (by first | decide | omega) rfl dX12_fallsBy_66 ?_
    refine ho_icmp_ge (tgt := 108) hx hb dX12_fallsBy_67 (by decide) (by omega) (by omega) (fun c_67 => ?_) (fun c_67 => ?_)
    · refine ho_iinc (lv' := [(3, .int (nI (r + 1))), (4, .int (nI u)), (2, .int (nI (ruI t nd u (ruR t nd n r (orF (fun s9 => t.testBit s9 && decide (bb s9 = nI j)) n))))), (0, .ref y), (1, .int (nI j))]) (a := r) (b := 1) hx hb dX12_fallsBy_108 hl (k := 1) rfl rfl (by decide) rfl (fun ls hl => ?_)
      refine lv_goto (tgt := 50) hx hb dX12_fallsBy_111 (by decide) ?_
      have e9_2 : ruI t nd u (ruR t nd n r (orF (fun s9 => t.testBit s9 && decide (bb s9 = nI j)) n)) = ruR t nd n (r + 1) (orF (fun s9 => t.testBit s9 && decide (bb s9 = nI j)) n) := by rw [show u = n by omega]; rfl
      rw [e9_2] at hl
      exact ih50 (r + 1) _ (by omega) (show 9 - (r + 1) < fu50 from (by omega)) (lv_sub hl [0, 2, 3, 4] rfl)
    refine lv_iload_n hx hb dX12_fallsBy_70 rfl (lv_at hl 2 rfl) ?_
    refine lv_aload_n hx hb dX12_fallsBy_71 rfl (lv_at hl 3 rfl) ?_
    refine lv_iload hx hb dX12_fallsBy_72 (lv_at hl 0 rfl) ?_
    refine vp_callSi ((va_runV (As := [.int (nI u)]) (rest := [.int (nI (ruI t nd u (ruR t nd n r (orF (fun s9 => t.testBit s9 && decide (bb s9 = nI j)) n))))]) ⟨hx, hb, hml, hown, hts⟩ (c_X12_isTrue l dC dI cI cD cR y as ai ar am ak ao az ae aq af hi th po ba en an aw ax ap se n d t day al nd bb oo K F kn u (by first | omega | assumption | exact gnd _ | exact gkn _ | exact Nat.lt_trans (gkn _) (by decide) | exact Nat.lt_trans (gnd _) (by decide) | exact Nat.lt_of_le_of_lt (pcN_le _) (by decide)) (by first | omega | assumption | exact gnd _ | exact gkn _ | exact Nat.lt_trans (gkn _) (by decide) | exact Nat.lt_trans (gnd _) (by decide) | exact Nat.lt_of_le_of_lt (pcN_le _) (by decide)) (by first | omega | assumption | exact gnd _ | exact gkn _ | exact Nat.lt_trans (gkn _) (by decide) | exact Nat.lt_trans (gnd _) (by decide) | exact Nat.lt_of_le_of_lt (pcN_le _) (by decide)) (by first | omega | assumption | exact gnd _ | exact gkn _ | exact Nat.lt_trans (gkn _) (by decide) | exact Nat.lt_trans (gnd _) (by decide) | exact Nat.lt_of_le_of_lt (pcN_le _) (by decide)) (by first | omega | assumption | exact gnd _ | exact gkn _ | exact Nat.lt_trans (gkn _) (by decide) | exact Nat.lt_trans (gnd _) (by decide) | exact Nat.lt_of_le_of_lt (pcN_le _) (by decide)) gnd gkn gK gF (by first | omega | assumption | exact gnd _ | exact gkn _ | exact Nat.lt_trans (gkn _) (by decide) | exact Nat.lt_trans (gnd _) (by decide) | exact Nat.lt_of_le_of_lt (pcN_le _) (by decide))) (cwV 1 hts gX12_fallsBy_X12_isTrue rfl rfl rfl (by decide +kernel) ⟨Nat.le_of_ble_eq_true rfl, Nat.le_of_ble_eq_true rfl⟩) (preV_R hCX (va_recv hK hP (ci := 12) (q0 := 0) rfl rfl) (hP)) rfl rfl hl.1 rfl (lv_room (Nat.le_of_ble_eq_true rfl)) dX12_fallsBy_74 ⟨Nat.le_of_ble_eq_true (by first | rfl | decide), Nat.le_of_ble_eq_true (by first | rfl | decide)⟩).run) (fun r_74 hr_74 => ?_)
    subst hr_74
    refine ho_beq (tgt := 99) hx hb dX12_fallsBy_77 (by decide) (fun c_77 => ?_) (fun c_77 => ?_)
    · refine lv_iconst (v := nI 0) hx hb dX12_fallsBy_99 (by decide +kernel) ?_
      refine ho_ior hx hb dX12_fallsBy_100 ?_
      refine lv_istore_n (lv' := [(2, .int (nI ((ruI t nd u (ruR t nd n r (orF (fun s9 => t.testBit s9 && decide (bb s9 = nI j)) n))) ||| 0))), (4, .int (nI u)), (3, .int (nI r)), (0, .ref y), (1, .int (nI j))]) hx hb dX12_fallsBy_101 rfl hl (by decide) rfl (fun ls hl => ?_)
      refine ho_iinc (lv' := [(4, .int (nI (u + 1))), (2, .int (nI ((ruI t nd u (ruR t nd n r (orF (fun s9 => t.testBit s9 && decide (bb s9 = nI j)) n))) ||| 0))), (3, .int (nI r)), (0, .ref y), (1, .int (nI j))]) (a := u) (b := 1) hx hb dX12_fallsBy_102 hl (k := 1) rfl rfl (by decide) rfl (fun ls hl => ?_)
      refine lv_goto (tgt := 59) hx hb dX12_fallsBy_105 (by decide) ?_
      have e9_2 : (ruI t nd u (ruR t nd n r (orF (fun s9 => t.testBit s9 && decide (bb s9 = nI j)) n))) ||| 0 = ruI t nd (u + 1) (ruR t nd n r (orF (fun s9 => t.testBit s9 && decide (bb s9 = nI j)) n)) := by first | exact ruI_t c_77 c_89 | exact ruI_u1 c_77 | exact ruI_u2 c_89
      rw [e9_2] at hl
      exact ih59 (u + 1) _ (by omega) (show n - (u + 1) < fu59 from (by omega)) (lv_sub hl [0, 2, 1, 3, 4] rfl)
    refine lv_aload_n hx hb dX12_fallsBy_80 rfl (lv_at hl 3 rfl) ?_
    refine lv_iload hx hb dX12_fallsBy_81 (lv_at hl 0 rfl) ?_
    refine lv_iconst (v := nI 0) hx hb dX12_fallsBy_83 (by decide +kernel) ?_
    refine vp_callSi ((va_runV (As := [.int (nI u), .int (nI 0)]) (rest := [.int (nI (ruI t nd u (ruR t nd n r (orF (fun s9 => t.testBit s9 && decide (bb s9 = nI j)) n))))]) ⟨hx, hb, hml, hown, hts⟩ (c_X12_of_0 l dC dI cI cD cR y as ai ar am ak ao az ae aq af hi th po ba en an aw ax ap se n d t day al nd bb oo K F kn u (by first | omega | assumption | exact gnd _ | exact gkn _ | exact Nat.lt_trans (gkn _) (by decide) | exact Nat.lt_trans (gnd _) (by decide) | exact Nat.lt_of_le_of_lt (pcN_le _) (by decide)) (by first | omega | assumption | exact gnd _ | exact gkn _ | exact Nat.lt_trans (gkn _) (by decide) | exact Nat.lt_trans (gnd _) (by decide) | exact Nat.lt_of_le_of_lt (pcN_le _) (by decide)) (by first | omega | assumption | exact gnd _ | exact gkn _ | exact Nat.lt_trans (gkn _) (by decide) | exact Nat.lt_trans (gnd _) (by decide) | exact Nat.lt_of_le_of_lt (pcN_le _) (by decide)) (by first | omega | assumption | exact gnd _ | exact gkn _ | exact Nat.lt_trans (gkn _) (by decide) | exact Nat.lt_trans (gnd _) (by decide) | exact Nat.lt_of_le_of_lt (pcN_le _) (by decide)) (by first | omega | assumption | exact gnd _ | exact gkn _ | exact Nat.lt_trans (gkn _) (by decide) | exact Nat.lt_trans (gnd _) (by decide) | exact Nat.lt_of_le_of_lt (pcN_le _) (by decide)) gnd gkn gK gF (by first | omega | assumption | exact gnd _ | exact gkn _ | exact Nat.lt_trans (gkn _) (by decide) | exact Nat.lt_trans (gnd _) (by decide) | exact Nat.lt_of_le_of_lt (pcN_le _) (by decide))) (cwV 2 hts gX12_fallsBy_X12_of rfl rfl rfl (by decide +kernel) ⟨Nat.le_of_ble_eq_true rfl, Nat.le_of_ble_eq_true rfl⟩) (preV_R hCX (va_recv hK hP (ci := 12) (q0 := 0) rfl rfl) (hP)) rfl rfl hl.1 rfl (lv_room (Nat.le_of_ble_eq_true rfl)) dX12_fallsBy_84 ⟨Nat.le_of_ble_eq_true (by first | rfl | decide), Nat.le_of_ble_eq_true (by first | rfl | decide)⟩).run) (fun r_84 hr_84 => ?_)
    subst hr_84
    refine lv_iload_n hx hb dX12_fallsBy_87 rfl (lv_at hl 2 rfl) ?_
    refine ho_iand hx hb dX12_fallsBy_88 ?_
    refine ho_if_eq (tgt := 99) hx hb dX12_fallsBy_89 (by decide) (Nat.lt_of_le_of_lt Nat.and_le_left (Nat.lt_trans (gnd _) (by decide))) (fun c_89 => ?_) (fun c_89 => ?_)
    · refine lv_iconst (v := nI 0) hx hb dX12_fallsBy_99 (by decide +kernel) ?_
      refine ho_ior hx hb dX12_fallsBy_100 ?_
      refine lv_istore_n (lv' := [(2, .int (nI ((ruI t nd u (ruR t nd n r (orF (fun s9 => t.testBit s9 && decide (bb s9 = nI j)) n))) ||| 0))), (4, .int (nI u)), (3, .int (nI r)), (0, .ref y), (1, .int (nI j))]) hx hb dX12_fallsBy_101 rfl hl (by decide) rfl (fun ls hl => ?_)
      refine ho_iinc (lv' := [(4, .int (nI (u + 1))), (2, .int (nI ((ruI t nd u (ruR t nd n r (orF (fun s9 => t.testBit s9 && decide (bb s9 = nI j)) n))) ||| 0))), (3, .int (nI r)), (0, .ref y), (1, .int (nI j))]) (a := u) (b := 1) hx hb dX12_fallsBy_102 hl (k := 1) rfl rfl (by decide) rfl (fun ls hl => ?_)
      refine lv_goto (tgt := 59) hx hb dX12_fallsBy_105 (by decide) ?_
      have e9_2 : (ruI t nd u (ruR t nd n r (orF (fun s9 => t.testBit s9 && decide (bb s9 = nI j)) n))) ||| 0 = ruI t nd (u + 1) (ruR t nd n r (orF (fun s9 => t.testBit s9 && decide (bb s9 = nI j)) n)) := by first | exact ruI_t c_77 c_89 | exact ruI_u1 c_77 | exact ruI_u2 c_89
      rw [e9_2] at hl
      exact ih59 (u + 1) _ (by omega) (show n - (u + 1) < fu59 from (by omega)) (lv_sub hl [0, 2, 1, 3, 4] rfl)
    refine lv_iconst (v := nI 1) hx hb dX12_fallsBy_92 (by decide +kernel) ?_
    refine lv_iload hx hb dX12_fallsBy_93 (lv_at hl 0 rfl) ?_
    refine ho_shl1 hx hb dX12_fallsBy_95 (by omega) ?_
    refine lv_goto (tgt := 100) hx hb dX12_fallsBy_96 (by decide) ?_
    refine ho_ior hx hb dX12_fallsBy_100 ?_
    refine lv_istore_n (lv' := [(2, .int (nI ((ruI t nd u (ruR t nd n r (orF (fun s9 => t.testBit s9 && decide (bb s9 = nI j)) n))) ||| (2 ^ u)))), (4, .int (nI u)), (3, .int (nI r)), (0, .ref y), (1, .int (nI j))]) hx hb dX12_fallsBy_101 rfl hl (by decide) rfl (fun ls hl => ?_)
    refine ho_iinc (lv' := [(4, .int (nI (u + 1))), (2, .int (nI ((ruI t nd u (ruR t nd n r (orF (fun s9 => t.testBit s9 && decide (bb s9 = nI j)) n))) ||| (2 ^ u)))), (3, .int (nI r)), (0, .ref y), (1, .int (nI j))]) (a := u) (b := 1) hx hb dX12_fallsBy_102 hl (k := 1) rfl rfl (by decide) rfl (fun ls hl => ?_)
    refine lv_goto (tgt := 59) hx hb dX12_fallsBy_105 (by decide) ?_
    have e9_2 : (ruI t nd u (ruR t nd n r (orF (fun s9 => t.testBit s9 && decide (bb s9 = nI j)) n))) ||| (2 ^ u) = ruI t nd (u + 1) (ruR t nd n r (orF (fun s9 => t.testBit s9 && decide (bb s9 = nI j)) n)) := by first | exact ruI_t c_77 c_89 | exact ruI_u1 c_77 | exact ruI_u2 c_89
    rw [e9_2] at hl
    exact ih59 (u + 1) _ (by omega) (show n - (u + 1) < fu59 from (by omega)) (lv_sub hl [0, 2, 1, 3, 4] rfl)
  refine lv_iload_n hx hb dX12_fallsBy_14 rfl (lv_at hl 1 rfl) ?_
  refine lv_aload_n hx hb dX12_fallsBy_15 rfl (lv_at hl 2 rfl) ?_
  refine lv_iload_n hx hb dX12_fallsBy_16 rfl (lv_at hl 0 rfl) ?_
  refine vp_callSi ((va_runV (As := [.int (nI i)]) (rest := [.int (nI (orF (fun s9 => t.testBit s9 && decide (bb s9 = nI j)) i))]) ⟨hx, hb, hml, hown, hts⟩ (c_X12_isTrue l dC dI cI cD cR y as ai ar am ak ao az ae aq af hi th po ba en an aw ax ap se n d t day al nd bb oo K F kn i (by first | omega | assumption | exact gnd _ | exact gkn _ | exact Nat.lt_trans (gkn _) (by decide) | exact Nat.lt_trans (gnd _) (by decide) | exact Nat.lt_of_le_of_lt (pcN_le _) (by decide)) (by first | omega | assumption | exact gnd _ | exact gkn _ | exact Nat.lt_trans (gkn _) (by decide) | exact Nat.lt_trans (gnd _) (by decide) | exact Nat.lt_of_le_of_lt (pcN_le _) (by decide)) (by first | omega | assumption | exact gnd _ | exact gkn _ | exact Nat.lt_trans (gkn _) (by decide) | exact Nat.lt_trans (gnd _) (by decide) | exact Nat.lt_of_le_of_lt (pcN_le _) (by decide)) (by first | omega | assumption | exact gnd _ | exact gkn _ | exact Nat.lt_trans (gkn _) (by decide) | exact Nat.lt_trans (gnd _) (by decide) | exact Nat.lt_of_le_of_lt (pcN_le _) (by decide)) (by first | omega | assumption | exact gnd _ | exact gkn _ | exact Nat.lt_trans (gkn _) (by decide) | exact Nat.lt_trans (gnd _) (by decide) | exact Nat.lt_of_le_of_lt (pcN_le _) (by decide)) gnd gkn gK gF (by first | omega | assumption | exact gnd _ | exact gkn _ | exact Nat.lt_trans (gkn _) (by decide) | exact Nat.lt_trans (gnd _) (by decide) | exact Nat.lt_of_le_of_lt (pcN_le _) (by decide))) (cwV 1 hts gX12_fallsBy_X12_isTrue rfl rfl rfl (by decide +kernel) ⟨Nat.le_of_ble_eq_true rfl, Nat.le_of_ble_eq_true rfl⟩) (preV_R hCX (va_recv hK hP (ci := 12) (q0 := 0) rfl rfl) (hP)) rfl rfl hl.1 rfl (lv_room (Nat.le_of_ble_eq_true rfl)) dX12_fallsBy_17 ⟨Nat.le_of_ble_eq_true (by first | rfl | decide), Nat.le_of_ble_eq_true (by first | rfl | decide)⟩).run) (fun r_17 hr_17 => ?_)
  subst hr_17
  refine ho_beq (tgt := 39) hx hb dX12_fallsBy_20 (by decide) (fun c_20 => ?_) (fun c_20 => ?_)
  · refine lv_iconst (v := nI 0) hx hb dX12_fallsBy_39 (by decide +kernel) ?_
    refine ho_ior hx hb dX12_fallsBy_40 ?_
    refine lv_istore_n (lv' := [(2, .int (nI ((orF (fun s9 => t.testBit s9 && decide (bb s9 = nI j)) i) ||| 0))), (3, .int (nI i)), (0, .ref y), (1, .int (nI j))]) hx hb dX12_fallsBy_41 rfl hl (by decide) rfl (fun ls hl => ?_)
    refine ho_iinc (lv' := [(3, .int (nI (i + 1))), (2, .int (nI ((orF (fun s9 => t.testBit s9 && decide (bb s9 = nI j)) i) ||| 0))), (0, .ref y), (1, .int (nI j))]) (a := i) (b := 1) hx hb dX12_fallsBy_42 hl (k := 1) rfl rfl (by decide) rfl (fun ls hl => ?_)
    refine lv_goto (tgt := 4) hx hb dX12_fallsBy_45 (by decide) ?_
    have e9_2 : (orF (fun s9 => t.testBit s9 && decide (bb s9 = nI j)) i) ||| 0 = orF (fun s9 => t.testBit s9 && decide (bb s9 = nI j)) (i + 1) := by first | exact orF_t (by simp [c_20]) | exact orF_t (by simp [c_20, c_30]) | exact orF_u (by simp [c_20]) | exact orF_u (by simp [c_20, c_30])
    rw [e9_2] at hl
    exact ih4 (i + 1) _ (by omega) (show n - (i + 1) < fu4 from (by omega)) (lv_sub hl [0, 1, 2, 3] rfl)
  refine lv_aload_n hx hb dX12_fallsBy_23 rfl (lv_at hl 2 rfl) ?_
  refine lv_iload_n hx hb dX12_fallsBy_24 rfl (lv_at hl 0 rfl) ?_
  refine lv_iconst (v := nI 1) hx hb dX12_fallsBy_25 (by decide +kernel) ?_
  refine vp_callSi ((va_runV (As := [.int (nI i), .int (nI 1)]) (rest := [.int (nI (orF (fun s9 => t.testBit s9 && decide (bb s9 = nI j)) i))]) ⟨hx, hb, hml, hown, hts⟩ (c_X12_of_1 l dC dI cI cD cR y as ai ar am ak ao az ae aq af hi th po ba en an aw ax ap se n d t day al nd bb oo K F kn i (by first | omega | assumption | exact gnd _ | exact gkn _ | exact Nat.lt_trans (gkn _) (by decide) | exact Nat.lt_trans (gnd _) (by decide) | exact Nat.lt_of_le_of_lt (pcN_le _) (by decide)) (by first | omega | assumption | exact gnd _ | exact gkn _ | exact Nat.lt_trans (gkn _) (by decide) | exact Nat.lt_trans (gnd _) (by decide) | exact Nat.lt_of_le_of_lt (pcN_le _) (by decide)) (by first | omega | assumption | exact gnd _ | exact gkn _ | exact Nat.lt_trans (gkn _) (by decide) | exact Nat.lt_trans (gnd _) (by decide) | exact Nat.lt_of_le_of_lt (pcN_le _) (by decide)) (by first | omega | assumption | exact gnd _ | exact gkn _ | exact Nat.lt_trans (gkn _) (by decide) | exact Nat.lt_trans (gnd _) (by decide) | exact Nat.lt_of_le_of_lt (pcN_le _) (by decide)) (by first | omega | assumption | exact gnd _ | exact gkn _ | exact Nat.lt_trans (gkn _) (by decide) | exact Nat.lt_trans (gnd _) (by decide) | exact Nat.lt_of_le_of_lt (pcN_le _) (by decide)) gnd gkn gK gF (by first | omega | assumption | exact gnd _ | exact gkn _ | exact Nat.lt_trans (gkn _) (by decide) | exact Nat.lt_trans (gnd _) (by decide) | exact Nat.lt_of_le_of_lt (pcN_le _) (by decide))) (cwV 2 hts gX12_fallsBy_X12_of rfl rfl rfl (by decide +kernel) ⟨Nat.le_of_ble_eq_true rfl, Nat.le_of_ble_eq_true rfl⟩) (preV_R hCX (va_recv hK hP (ci := 12) (q0 := 0) rfl rfl) (hP)) rfl rfl hl.1 rfl (lv_room (Nat.le_of_ble_eq_true rfl)) dX12_fallsBy_26 ⟨Nat.le_of_ble_eq_true (by first | rfl | decide), Nat.le_of_ble_eq_true (by first | rfl | decide)⟩).run) (fun r_26 hr_26 => ?_)
  subst hr_26
  refine lv_iload_n hx hb dX12_fallsBy_29 rfl (lv_at hl 3 rfl) ?_
  refine lv_icmp_ne (tgt := 39) hx hb dX12_fallsBy_30 (by decide) (fun c_30 => ?_) (fun c_30 => ?_)
  · refine lv_iconst (v := nI 0) hx hb dX12_fallsBy_39 (by decide +kernel) ?_
    refine ho_ior hx hb dX12_fallsBy_40 ?_
    refine lv_istore_n (lv' := [(2, .int (nI ((orF (fun s9 => t.testBit s9 && decide (bb s9 = nI j)) i) ||| 0))), (3, .int (nI i)), (0, .ref y), (1, .int (nI j))]) hx hb dX12_fallsBy_41 rfl hl (by decide) rfl (fun ls hl => ?_)
    refine ho_iinc (lv' := [(3, .int (nI (i + 1))), (2, .int (nI ((orF (fun s9 => t.testBit s9 && decide (bb s9 = nI j)) i) ||| 0))), (0, .ref y), (1, .int (nI j))]) (a := i) (b := 1) hx hb dX12_fallsBy_42 hl (k := 1) rfl rfl (by decide) rfl (fun ls hl => ?_)
    refine lv_goto (tgt := 4) hx hb dX12_fallsBy_45 (by decide) ?_
    have e9_2 : (orF (fun s9 => t.testBit s9 && decide (bb s9 = nI j)) i) ||| 0 = orF (fun s9 => t.testBit s9 && decide (bb s9 = nI j)) (i + 1) := by first | exact orF_t (by simp [c_20]) | exact orF_t (by simp [c_20, c_30]) | exact orF_u (by simp [c_20]) | exact orF_u (by simp [c_20, c_30])
    rw [e9_2] at hl
    exact ih4 (i + 1) _ (by omega) (show n - (i + 1) < fu4 from (by omega)) (lv_sub hl [0, 1, 2, 3] rfl)
  refine lv_iconst (v := nI 1) hx hb dX12_fallsBy_33 (by decide +kernel) ?_
  refine lv_iload_n hx hb dX12_fallsBy_34 rfl (lv_at hl 0 rfl) ?_
  refine ho_shl1 hx hb dX12_fallsBy_35 (by omega) ?_
  refine lv_goto (tgt := 40) hx hb dX12_fallsBy_36 (by decide) ?_
  refine ho_ior hx hb dX12_fallsBy_40 ?_
  refine lv_istore_n (lv' := [(2, .int (nI ((orF (fun s9 => t.testBit s9 && decide (bb s9 = nI j)) i) ||| (2 ^ i)))), (3, .int (nI i)), (0, .ref y), (1, .int (nI j))]) hx hb dX12_fallsBy_41 rfl hl (by decide) rfl (fun ls hl => ?_)
  refine ho_iinc (lv' := [(3, .int (nI (i + 1))), (2, .int (nI ((orF (fun s9 => t.testBit s9 && decide (bb s9 = nI j)) i) ||| (2 ^ i)))), (0, .ref y), (1, .int (nI j))]) (a := i) (b := 1) hx hb dX12_fallsBy_42 hl (k := 1) rfl rfl (by decide) rfl (fun ls hl => ?_)
  refine lv_goto (tgt := 4) hx hb dX12_fallsBy_45 (by decide) ?_
  have e9_2 : (orF (fun s9 => t.testBit s9 && decide (bb s9 = nI j)) i) ||| (2 ^ i) = orF (fun s9 => t.testBit s9 && decide (bb s9 = nI j)) (i + 1) := by first | exact orF_t (by simp [c_20]) | exact orF_t (by simp [c_20, c_30]) | exact orF_u (by simp [c_20]) | exact orF_u (by simp [c_20, c_30])
  rw [e9_2] at hl
  exact ih4 (i + 1) _ (by omega) (show n - (i + 1) < fu4 from (by omega)) (lv_sub hl [0, 1, 2, 3] rfl)
set_option maxHeartbeats 4000000 in
set_option maxRecDepth 100000 in
theorem c_X12_fallAll (l : Launch) (dC : Nat → ClassId) (dI : Nat → Nat → Nat) (cI cD cR : ClassId) (y as ai ar am ak ao az ae aq af : Nat) (hi : Bool) (th : Int32) (po ba en an aw ax ap : Nat) (se : Int32) (n d t day al : Nat) (nd : Nat → Nat) (bb oo : Nat → Int32) (K F kn : Nat → Nat) (v : Nat) (sz : Nat) (hn : n ≤ 9) (hd : d ≤ 7) (ht : t < 512) (hal : al < 128) (hday : day < 2 ^ 30) (gnd : ∀ i, nd i < 512) (gkn : ∀ j, kn j < 512) (gK : ∀ j, K j < 8) (gF : ∀ j, F j < 10) (hv9 : v < 512) : Met l yX12_fallAll wsX12_fallAll ({ frames := 1, cells := 0, slots := 0, locals := 23 }) (pcR dC dI cI cD cR [.ref y, .int (nI v)] (fun H => H.size = sz ∧ va_P (dC, dI) vwCl ([(y, .inr (12, [.ref as, .ref ai, .ref ar, .ref am, .ref ak, .ref ao, .ref az, .ref ae, .ref aq, .ref af, .int (bI hi), .int th, .int (nI po), .int (nI ba), .int (nI en), .ref an, .ref aw, .ref ax, .ref ap, .int se]))] ++ [(as, .inl (cI, 53, .inl (sF n d t day al nd bb oo K F kn)))]) H ∧ va_D (fun _ => True) ([(y, .inr (12, [.ref as, .ref ai, .ref ar, .ref am, .ref ak, .ref ao, .ref az, .ref ae, .ref aq, .ref af, .int (bI hi), .int th, .int (nI po), .int (nI ba), .int (nI en), .ref an, .ref aw, .ref ax, .ref ap, .int se]))] ++ [(as, .inl (cI, 53, .inl (sF n d t day al nd bb oo K F kn)))]))) (va_Qv (fun (_ : Unit) => True) (fun (_ : Unit) T9 => va_P (dC, dI) vwCl ([(y, .inr (12, [.ref as, .ref ai, .ref ar, .ref am, .ref ak, .ref ao, .ref az, .ref ae, .ref aq, .ref af, .int (bI hi), .int th, .int (nI po), .int (nI ba), .int (nI en), .ref an, .ref aw, .ref ax, .ref ap, .int se]))] ++ [(as, .inl (cI, 53, .inl (sF n d (sdf t v) day al nd (faB v (-4) n bb) (faB v (-4) n oo) K F kn)))]) T9.heap ∧ va_D (va_A ([(y, .inr (12, [.ref as, .ref ai, .ref ar, .ref am, .ref ak, .ref ao, .ref az, .ref ae, .ref aq, .ref af, .int (bI hi), .int th, .int (nI po), .int (nI ba), .int (nI en), .ref an, .ref aw, .ref ax, .ref ap, .int se]))] ++ [(as, .inl (cI, 53, .inl (sF n d t day al nd bb oo K F kn)))]) sz) ([(y, .inr (12, [.ref as, .ref ai, .ref ar, .ref am, .ref ak, .ref ao, .ref az, .ref ae, .ref aq, .ref af, .int (bI hi), .int th, .int (nI po), .int (nI ba), .int (nI en), .ref an, .ref aw, .ref ax, .ref ap, .int se]))] ++ [(as, .inl (cI, 53, .inl (sF n d (sdf t v) day al nd (faB v (-4) n bb) (faB v (-4) n oo) K F kn)))])) (va_A ([(y, .inr (12, [.ref as, .ref ai, .ref ar, .ref am, .ref ak, .ref ao, .ref az, .ref ae, .ref aq, .ref af, .int (bI hi), .int th, .int (nI po), .int (nI ba), .int (nI en), .ref an, .ref aw, .ref ax, .ref ap, .int se]))] ++ [(as, .inl (cI, 53, .inl (sF n d t day al nd bb oo K F kn)))]) sz)) 0 0 (va_A ([(y, .inr (12, [.ref as, .ref ai, .ref ar, .ref am, .ref ak, .ref ao, .ref az, .ref ae, .ref aq, .ref af, .int (bI hi), .int th, .int (nI po), .int (nI ba), .int (nI en), .ref an, .ref aw, .ref ax, .ref ap, .int se]))] ++ [(as, .inl (cI, 53, .inl (sF n d t day al nd bb oo K F kn)))]) sz) := by
  refine Met.ofW (cc := cX12_fallAll) (maxL := 3) (ret := none) (by decide) rfl ?_
  intro p e s m args below meth c s₁ B hml hv
  obtain ⟨rfl, hH0, hCX⟩ := hv
  have hx := B.exec
  have hb := B.bytes
  have hr := B.returns
  have hts := atoms_spec (ws := wsX12_fallAll) B.pre
  have hown : s.vm.findClass RX12 = some m.cls := findClass_of_methodNamed B.named
  have hlocks := B.notSynchronized
  have hK := hCX.1
  obtain ⟨hsz, hP, hD0⟩ := hH0
  subst hsz
  have hD := hD0.self (sz := s.heap.size)
  generalize hAe : va_A ([(y, .inr (12, [.ref as, .ref ai, .ref ar, .ref am, .ref ak, .ref ao, .ref az, .ref ae, .ref aq, .ref af, .int (bI hi), .int th, .int (nI po), .int (nI ba), .int (nI en), .ref an, .ref aw, .ref ax, .ref ap, .int se]))] ++ [(as, .inl (cI, 53, .inl (sF n d t day al nd bb oo K F kn)))]) s.heap.size = A at hD ⊢
  have hA : ∀ q : Nat, s.heap.size ≤ q → A q := fun q h => by rw [← hAe]; exact Or.inr h
  have hS : va_S A s.heap s.heap [] := va_S.rf
  have hP : va_P (dC, dI) vwCl ([(y, .inr (12, [.ref as, .ref ai, .ref ar, .ref am, .ref ak, .ref ao, .ref az, .ref ae, .ref aq, .ref af, .int (bI hi), .int th, .int (nI po), .int (nI ba), .int (nI en), .ref an, .ref aw, .ref ax, .ref ap, .int se]))] ++ [(as, .inl (cI, 53, .inl (sF n d t day al nd bb oo K F kn)))]) s.heap := hP
  have hl := lv_entry ([.ref y, .int (nI v)]) (n := 3) (Nat.le_of_ble_eq_true rfl)
  rw [lg_entry_eq]
  generalize (lg_sl ([.ref y, .int (nI v)]) ++ List.replicate (3 - (lg_sl ([.ref y, .int (nI v)])).length) Slot.unset).toArray = ls at hl ⊢
  have hl : lv_has ls 3 [(0, .ref y), (1, .int (nI v))] := hl
  refine lv_aload_n hx hb dX12_fallAll_0 rfl (lv_at hl 0 rfl) ?_
  refine va_get (D := (dC, dI)) (ci := 12) (v := .ref as) (C := RX12) (T := TX12) (N := 20) hx hb hts (fun _ h => List.mem_cons_of_mem _ (List.mem_append_right _ h)) hown hK hP 0 rfl rfl 0 (by decide) (hts (.fieldLink RX12 9 "HoldsOnceDeniedModel" "s" "[I") (by decide +kernel)) (fun _ h9 => h9) rfl dX12_fallAll_1 ?_
  refine lv_iconst (v := nI 2) hx hb dX12_fallAll_4 (by decide +kernel) ?_
  refine lv_dup2_11 hx hb dX12_fallAll_5 rfl rfl ?_
  refine ho_iald (v := nI t) hx hb hK hP 1 0 rfl rfl (by omega) (by first | decide | omega) rfl dX12_fallAll_6 ?_
  refine lv_iload_n hx hb dX12_fallAll_7 rfl (lv_at hl 1 rfl) ?_
  refine lv_iconst (v := (-1)) hx hb dX12_fallAll_8 (by decide +kernel) ?_
  refine lv_ixor hx hb dX12_fallAll_9 ?_
  refine ho_iandC hx hb dX12_fallAll_10 ?_
  refine ho_iast (g := sF n d (sdf t v) day al nd bb oo K F kn) hx hb hK hP hD hS 1 0 rfl rfl (by omega) (by first | decide | omega) sF_u2 dX12_fallAll_11 (fun H locs hP hD hS => ?_)
  have hP : va_P (dC, dI) vwCl ([(y, .inr (12, [.ref as, .ref ai, .ref ar, .ref am, .ref ak, .ref ao, .ref az, .ref ae, .ref aq, .ref af, .int (bI hi), .int th, .int (nI po), .int (nI ba), .int (nI en), .ref an, .ref aw, .ref ax, .ref ap, .int se]))] ++ [(as, .inl (cI, 53, .inl (sF n d (sdf t v) day al nd bb oo K F kn)))]) H := hP
  have hD : va_D A ([(y, .inr (12, [.ref as, .ref ai, .ref ar, .ref am, .ref ak, .ref ao, .ref az, .ref ae, .ref aq, .ref af, .int (bI hi), .int th, .int (nI po), .int (nI ba), .int (nI en), .ref an, .ref aw, .ref ax, .ref ap, .int se]))] ++ [(as, .inl (cI, 53, .inl (sF n d (sdf t v) day al nd bb oo K F kn)))]) := hD
  refine lv_iconst (v := nI 0) hx hb dX12_fallAll_12 (by decide +kernel) ?_
  refine lv_istore_n (lv' := [(2, .int (nI 0)), (0, .ref y), (1, .int (nI v))]) hx hb dX12_fallAll_13 rfl hl (by decide) rfl (fun ls hl => ?_)
  refine ho_lpW (T := Nat) 3 (fun x9 => ([(y, .inr (12, [.ref as, .ref ai, .ref ar, .ref am, .ref ak, .ref ao, .ref az, .ref ae, .ref aq, .ref af, .int (bI hi), .int th, .int (nI po), .int (nI ba), .int (nI en), .ref an, .ref aw, .ref ax, .ref ap, .int se]))] ++ [(as, .inl (cI, 53, .inl (sF n d (sdf t v) day al nd (faB v (-4) x9 bb) (faB v (-4) x9 oo) K F kn)))] : va_W)) (fun x9 => [(2, .int (nI x9)), (0, .ref y), (1, .int (nI v))]) (fun x9 => []) (fun x9 => (x9 ≤ n)) (fun x9 => n - x9) 0 (by omega) (lv_sub hl [0, 1, 2] rfl) hP hD hS ?_
  intro fu14 i H locs ls hI hm14 hP hD hS hl ih
  have hin := hI
  have hl : lv_has ls 3 [(2, .int (nI i)), (0, .ref y), (1, .int (nI v))] := hl
  have hin : i ≤ n := hin
  have hm14 : n - i < fu14 + 1 := hm14
  have hP : va_P (dC, dI) vwCl ([(y, .inr (12, [.ref as, .ref ai, .ref ar, .ref am, .ref ak, .ref ao, .ref az, .ref ae, .ref aq, .ref af, .int (bI hi), .int th, .int (nI po), .int (nI ba), .int (nI en), .ref an, .ref aw, .ref ax, .ref ap, .int se]))] ++ [(as, .inl (cI, 53, .inl (sF n d (sdf t v) day al nd (faB v (-4) i bb) (faB v (-4) i oo) K F kn)))]) H := hP
  have hD : va_D A ([(y, .inr (12, [.ref as, .ref ai, .ref ar, .ref am, .ref ak, .ref ao, .ref az, .ref ae, .ref aq, .ref af, .int (bI hi), .int th, .int (nI po), .int (nI ba), .int (nI en), .ref an, .ref aw, .ref ax, .ref ap, .int se]))] ++ [(as, .inl (cI, 53, .inl (sF n d (sdf t v) day al nd (faB v (-4) i bb) (faB v (-4) i oo) K F kn)))]) := hD
  refine W.eq (g2 := F0 m 14 ls []) rfl ?_
  have ih14 := ih
  refine lv_iload_n hx hb dX12_fallAll_14 rfl (lv_at hl 0 rfl) ?_
  refine lv_aload_n hx hb dX12_fallAll_15 rfl (lv_at hl 1 rfl) ?_
  refine va_get (D := (dC, dI)) (ci := 12) (v := .ref as) (C := RX12) (T := TX12) (N := 20) hx hb hts (fun _ h => List.mem_cons_of_mem _ (List.mem_append_right _ h)) hown hK hP 0 rfl rfl 0 (by decide) (hts (.fieldLink RX12 9 "HoldsOnceDeniedModel" "s" "[I") (by decide +kernel)) (fun _ h9 => h9) rfl dX12_fallAll_16 ?_
  refine lv_iconst (v := nI 0) hx hb dX12_fallAll_19 (by decide +kernel) ?_
  refine ho_iald (v := nI n) hx hb hK hP 1 0 rfl rfl (by omega) (by first | decide | omega) rfl dX12_fallAll_20 ?_
  refine ho_icmp_ge (tgt := 57) hx hb dX12_fallAll_21 (by decide) (by omega) (by omega) (fun c_21 => ?_) (fun c_21 => ?_)
  · have hW9 : ([(y, .inr (12, [.ref as, .ref ai, .ref ar, .ref am, .ref ak, .ref ao, .ref az, .ref ae, .ref aq, .ref af, .int (bI hi), .int th, .int (nI po), .int (nI ba), .int (nI en), .ref an, .ref aw, .ref ax, .ref ap, .int se]))] ++ [(as, .inl (cI, 53, .inl (sF n d (sdf t v) day al nd (faB v (-4) i bb) (faB v (-4) i oo) K F kn)))] : va_W) = [(y, .inr (12, [.ref as, .ref ai, .ref ar, .ref am, .ref ak, .ref ao, .ref az, .ref ae, .ref aq, .ref af, .int (bI hi), .int th, .int (nI po), .int (nI ba), .int (nI en), .ref an, .ref aw, .ref ax, .ref ap, .int se]))] ++ [(as, .inl (cI, 53, .inl (sF n d (sdf t v) day al nd (faB v (-4) n bb) (faB v (-4) n oo) K F kn)))] := by rw [show i = n by omega]
    rw [hW9] at hP hD
    exact W.vret hx hb hr (fun T9 hT9 hW9 => ⟨⟨(), rfl, trivial, by rw [hT9]; exact hP, hD⟩, hS.F hT9⟩) hS.2.2 dX12_fallAll_57
  refine lv_iload_n hx hb dX12_fallAll_24 rfl (lv_at hl 2 rfl) ?_
  refine lv_iload_n hx hb dX12_fallAll_25 rfl (lv_at hl 0 rfl) ?_
  refine vp_callSi ((va_runS (As := [.int (nI v), .int (nI i)]) (rest := []) ⟨hx, hb, hml, hown, hts⟩ (c_X12_has l dC dI cI cD cR v i (by first | omega | assumption | exact gnd _ | exact gkn _ | exact Nat.lt_trans (gkn _) (by decide) | exact Nat.lt_trans (gnd _) (by decide) | exact Nat.lt_of_le_of_lt (pcN_le _) (by decide)) (by first | omega | assumption | exact gnd _ | exact gkn _ | exact Nat.lt_trans (gkn _) (by decide) | exact Nat.lt_trans (gnd _) (by decide) | exact Nat.lt_of_le_of_lt (pcN_le _) (by decide))) (va_cwS 2 hts gX12_fallAll_X12_has rfl rfl rfl (by decide +kernel) ⟨Nat.le_of_ble_eq_true rfl, Nat.le_of_ble_eq_true rfl⟩) (preS_R hCX (trivial)) rfl rfl hl.1 rfl (lv_room (Nat.le_of_ble_eq_true rfl)) dX12_fallAll_26 ⟨Nat.le_of_ble_eq_true (by first | rfl | decide), Nat.le_of_ble_eq_true (by first | rfl | decide)⟩).run) (fun r_26 hr_26 => ?_)
  subst hr_26
  refine ho_bne (tgt := 35) hx hb dX12_fallAll_29 (by decide) (fun c_29 => ?_) (fun c_29 => ?_)
  · refine lv_aload_n hx hb dX12_fallAll_35 rfl (lv_at hl 1 rfl) ?_
    refine lv_iload_n hx hb dX12_fallAll_36 rfl (lv_at hl 0 rfl) ?_
    refine lv_iconst (v := nI 1) hx hb dX12_fallAll_37 (by decide +kernel) ?_
    refine lv_bipush (v := (-4)) hx hb dX12_fallAll_38 (by decide +kernel) ?_
    have hPc := hP
    have hDc := hD
    have hFc := va_free (wc := [(y, .inr (12, [.ref as, .ref ai, .ref ar, .ref am, .ref ak, .ref ao, .ref az, .ref ae, .ref aq, .ref af, .int (bI hi), .int th, .int (nI po), .int (nI ba), .int (nI en), .ref an, .ref aw, .ref ax, .ref ap, .int se]))] ++ [(as, .inl (cI, 53, .inl (sF n d (sdf t v) day al nd (faB v (-4) i bb) (faB v (-4) i oo) K F kn)))]) hD hS hA [0, 1] rfl
    refine va_callv (va_runV (As := [.int (nI i), .int (nI 1), .int (-4)]) (rest := []) ⟨hx, hb, hml, hown, hts⟩ (c_X12_setOf_1 l dC dI cI cD cR y as ai ar am ak ao az ae aq af hi th po ba en an aw ax ap se n d (sdf t v) day al nd (faB v (-4) i bb) (faB v (-4) i oo) K F kn i (-4) H.size (by first | omega | assumption | exact gnd _ | exact gkn _ | exact Nat.lt_trans (gkn _) (by decide) | exact Nat.lt_trans (gnd _) (by decide) | exact Nat.lt_of_le_of_lt (pcN_le _) (by decide)) (by first | omega | assumption | exact gnd _ | exact gkn _ | exact Nat.lt_trans (gkn _) (by decide) | exact Nat.lt_trans (gnd _) (by decide) | exact Nat.lt_of_le_of_lt (pcN_le _) (by decide)) (sdf_lt ht) (by first | omega | assumption | exact gnd _ | exact gkn _ | exact Nat.lt_trans (gkn _) (by decide) | exact Nat.lt_trans (gnd _) (by decide) | exact Nat.lt_of_le_of_lt (pcN_le _) (by decide)) (by first | omega | assumption | exact gnd _ | exact gkn _ | exact Nat.lt_trans (gkn _) (by decide) | exact Nat.lt_trans (gnd _) (by decide) | exact Nat.lt_of_le_of_lt (pcN_le _) (by decide)) gnd gkn gK gF (by first | omega | assumption | exact gnd _ | exact gkn _ | exact Nat.lt_trans (gkn _) (by decide) | exact Nat.lt_trans (gnd _) (by decide) | exact Nat.lt_of_le_of_lt (pcN_le _) (by decide))) (cwV 3 hts gX12_fallAll_X12_setOf rfl rfl rfl (by decide +kernel) ⟨Nat.le_of_ble_eq_true rfl, Nat.le_of_ble_eq_true rfl⟩) (preV_R hCX (va_recv hK hP (ci := 12) (q0 := 0) rfl rfl) ⟨rfl, hPc, hDc.weaken (fun _ _ _ _ => trivial)⟩) rfl rfl hl.1 rfl (lv_room (Nat.le_of_ble_eq_true rfl)) dX12_fallAll_40 ⟨Nat.le_of_ble_eq_true (by first | rfl | decide), Nat.le_of_ble_eq_true (by first | rfl | decide)⟩) hS (fun q _ h => hFc q h) hFc (fun u T8 H1 locs hT8 hvm hw hB hz1 hk1 hS => ?_)
    obtain ⟨hP1, hD1⟩ := hB
    rw [hT8] at hP1
    obtain ⟨hP, hD⟩ := va_join (wr := []) (w1 := [(y, .inr (12, [.ref as, .ref ai, .ref ar, .ref am, .ref ak, .ref ao, .ref az, .ref ae, .ref aq, .ref af, .int (bI hi), .int th, .int (nI po), .int (nI ba), .int (nI en), .ref an, .ref aw, .ref ax, .ref ap, .int se]))] ++ [(as, .inl (cI, 53, .inl (sF n d (sdf t v) day al nd (upd (faB v (-4) i bb) i (-4)) (faB v (-4) i oo) K F kn)))]) hP hD [0, 1] [] rfl rfl (by decide) (by decide) hk1 hFc hP1 hD1
    generalize H1 = H at hP hS ⊢
    have hP : va_P (dC, dI) vwCl ([(y, .inr (12, [.ref as, .ref ai, .ref ar, .ref am, .ref ak, .ref ao, .ref az, .ref ae, .ref aq, .ref af, .int (bI hi), .int th, .int (nI po), .int (nI ba), .int (nI en), .ref an, .ref aw, .ref ax, .ref ap, .int se]))] ++ [(as, .inl (cI, 53, .inl (sF n d (sdf t v) day al nd (upd (faB v (-4) i bb) i (-4)) (faB v (-4) i oo) K F kn)))]) H := hP
    have hD : va_D A ([(y, .inr (12, [.ref as, .ref ai, .ref ar, .ref am, .ref ak, .ref ao, .ref az, .ref ae, .ref aq, .ref af, .int (bI hi), .int th, .int (nI po), .int (nI ba), .int (nI en), .ref an, .ref aw, .ref ax, .ref ap, .int se]))] ++ [(as, .inl (cI, 53, .inl (sF n d (sdf t v) day al nd (upd (faB v (-4) i bb) i (-4)) (faB v (-4) i oo) K F kn)))]) := hD
    refine lv_aload_n hx hb dX12_fallAll_43 rfl (lv_at hl 1 rfl) ?_
    refine lv_iload_n hx hb dX12_fallAll_44 rfl (lv_at hl 0 rfl) ?_
    refine lv_iconst (v := nI 2) hx hb dX12_fallAll_45 (by decide +kernel) ?_
    refine lv_bipush (v := (-4)) hx hb dX12_fallAll_46 (by decide +kernel) ?_
    have hPc := hP
    have hDc := hD
    have hFc := va_free (wc := [(y, .inr (12, [.ref as, .ref ai, .ref ar, .ref am, .ref ak, .ref ao, .ref az, .ref ae, .ref aq, .ref af, .int (bI hi), .int th, .int (nI po), .int (nI ba), .int (nI en), .ref an, .ref aw, .ref ax, .ref ap, .int se]))] ++ [(as, .inl (cI, 53, .inl (sF n d (sdf t v) day al nd (upd (faB v (-4) i bb) i (-4)) (faB v (-4) i oo) K F kn)))]) hD hS hA [0, 1] rfl
    refine va_callv (va_runV (As := [.int (nI i), .int (nI 2), .int (-4)]) (rest := []) ⟨hx, hb, hml, hown, hts⟩ (c_X12_setOf_2 l dC dI cI cD cR y as ai ar am ak ao az ae aq af hi th po ba en an aw ax ap se n d (sdf t v) day al nd (upd (faB v (-4) i bb) i (-4)) (faB v (-4) i oo) K F kn i (-4) H.size (by first | omega | assumption | exact gnd _ | exact gkn _ | exact Nat.lt_trans (gkn _) (by decide) | exact Nat.lt_trans (gnd _) (by decide) | exact Nat.lt_of_le_of_lt (pcN_le _) (by decide)) (by first | omega | assumption | exact gnd _ | exact gkn _ | exact Nat.lt_trans (gkn _) (by decide) | exact Nat.lt_trans (gnd _) (by decide) | exact Nat.lt_of_le_of_lt (pcN_le _) (by decide)) (sdf_lt ht) (by first | omega | assumption | exact gnd _ | exact gkn _ | exact Nat.lt_trans (gkn _) (by decide) | exact Nat.lt_trans (gnd _) (by decide) | exact Nat.lt_of_le_of_lt (pcN_le _) (by decide)) (by first | omega | assumption | exact gnd _ | exact gkn _ | exact Nat.lt_trans (gkn _) (by decide) | exact Nat.lt_trans (gnd _) (by decide) | exact Nat.lt_of_le_of_lt (pcN_le _) (by decide)) gnd gkn gK gF (by first | omega | assumption | exact gnd _ | exact gkn _ | exact Nat.lt_trans (gkn _) (by decide) | exact Nat.lt_trans (gnd _) (by decide) | exact Nat.lt_of_le_of_lt (pcN_le _) (by decide))) (cwV 3 hts gX12_fallAll_X12_setOf rfl rfl rfl (by decide +kernel) ⟨Nat.le_of_ble_eq_true rfl, Nat.le_of_ble_eq_true rfl⟩) (preV_R hCX (va_recv hK hP (ci := 12) (q0 := 0) rfl rfl) ⟨rfl, hPc, hDc.weaken (fun _ _ _ _ => trivial)⟩) rfl rfl hl.1 rfl (lv_room (Nat.le_of_ble_eq_true rfl)) dX12_fallAll_48 ⟨Nat.le_of_ble_eq_true (by first | rfl | decide), Nat.le_of_ble_eq_true (by first | rfl | decide)⟩) hS (fun q _ h => hFc q h) hFc (fun u T8 H1 locs hT8 hvm hw hB hz1 hk1 hS => ?_)
    obtain ⟨hP1, hD1⟩ := hB
    rw [hT8] at hP1
    obtain ⟨hP, hD⟩ := va_join (wr := []) (w1 := [(y, .inr (12, [.ref as, .ref ai, .ref ar, .ref am, .ref ak, .ref ao, .ref az, .ref ae, .ref aq, .ref af, .int (bI hi), .int th, .int (nI po), .int (nI ba), .int (nI en), .ref an, .ref aw, .ref ax, .ref ap, .int se]))] ++ [(as, .inl (cI, 53, .inl (sF n d (sdf t v) day al nd (upd (faB v (-4) i bb) i (-4)) (upd (faB v (-4) i oo) i (-4)) K F kn)))]) hP hD [0, 1] [] rfl rfl (by decide) (by decide) hk1 hFc hP1 hD1
    generalize H1 = H at hP hS ⊢
    have hP : va_P (dC, dI) vwCl ([(y, .inr (12, [.ref as, .ref ai, .ref ar, .ref am, .ref ak, .ref ao, .ref az, .ref ae, .ref aq, .ref af, .int (bI hi), .int th, .int (nI po), .int (nI ba), .int (nI en), .ref an, .ref aw, .ref ax, .ref ap, .int se]))] ++ [(as, .inl (cI, 53, .inl (sF n d (sdf t v) day al nd (upd (faB v (-4) i bb) i (-4)) (upd (faB v (-4) i oo) i (-4)) K F kn)))]) H := hP
    have hD : va_D A ([(y, .inr (12, [.ref as, .ref ai, .ref ar, .ref am, .ref ak, .ref ao, .ref az, .ref ae, .ref aq, .ref af, .int (bI hi), .int th, .int (nI po), .int (nI ba), .int (nI en), .ref an, .ref aw, .ref ax, .ref ap, .int se]))] ++ [(as, .inl (cI, 53, .inl (sF n d (sdf t v) day al nd (upd (faB v (-4) i bb) i (-4)) (upd (faB v (-4) i oo) i (-4)) K F kn)))]) := hD
    refine ho_iinc (lv' := [(2, .int (nI (i + 1))), (0, .ref y), (1, .int (nI v))]) (a := i) (b := 1) hx hb dX12_fallAll_51 hl (k := 0) rfl rfl (by decide) rfl (fun ls hl => ?_)
    refine lv_goto (tgt := 14) hx hb dX12_fallAll_54 (by decide) ?_
    have hW9 : ([(y, .inr (12, [.ref as, .ref ai, .ref ar, .ref am, .ref ak, .ref ao, .ref az, .ref ae, .ref aq, .ref af, .int (bI hi), .int th, .int (nI po), .int (nI ba), .int (nI en), .ref an, .ref aw, .ref ax, .ref ap, .int se]))] ++ [(as, .inl (cI, 53, .inl (sF n d (sdf t v) day al nd (upd (faB v (-4) i bb) i (-4)) (upd (faB v (-4) i oo) i (-4)) K F kn)))] : va_W) = [(y, .inr (12, [.ref as, .ref ai, .ref ar, .ref am, .ref ak, .ref ao, .ref az, .ref ae, .ref aq, .ref af, .int (bI hi), .int th, .int (nI po), .int (nI ba), .int (nI en), .ref an, .ref aw, .ref ax, .ref ap, .int se]))] ++ [(as, .inl (cI, 53, .inl (sF n d (sdf t v) day al nd (faB v (-4) (i + 1) bb) (faB v (-4) (i + 1) oo) K F kn)))] := by first | rw [faB_t c_29, faB_t c_29] | rw [← faB_f c_29, ← faB_f c_29]
    rw [hW9] at hP hD
    exact ih14 (i + 1) _ _ _ (by omega) (show n - (i + 1) < fu14 from (by omega)) hP hD hS (lv_sub hl [0, 1, 2] rfl)
  refine lv_goto (tgt := 51) hx hb dX12_fallAll_32 (by decide) ?_
  refine ho_iinc (lv' := [(2, .int (nI (i + 1))), (0, .ref y), (1, .int (nI v))]) (a := i) (b := 1) hx hb dX12_fallAll_51 hl (k := 0) rfl rfl (by decide) rfl (fun ls hl => ?_)
  refine lv_goto (tgt := 14) hx hb dX12_fallAll_54 (by decide) ?_
  have hW9 : ([(y, .inr (12, [.ref as, .ref ai, .ref ar, .ref am, .ref ak, .ref ao, .ref az, .ref ae, .ref aq, .ref af, .int (bI hi), .int th, .int (nI po), .int (nI ba), .int (nI en), .ref an, .ref aw, .ref ax, .ref ap, .int se]))] ++ [(as, .inl (cI, 53, .inl (sF n d (sdf t v) day al nd (faB v (-4) i bb) (faB v (-4) i oo) K F kn)))] : va_W) = [(y, .inr (12, [.ref as, .ref ai, .ref ar, .ref am, .ref ak, .ref ao, .ref az, .ref ae, .ref aq, .ref af, .int (bI hi), .int th, .int (nI po), .int (nI ba), .int (nI en), .ref an, .ref aw, .ref ax, .ref ap, .int se]))] ++ [(as, .inl (cI, 53, .inl (sF n d (sdf t v) day al nd (faB v (-4) (i + 1) bb) (faB v (-4) (i + 1) oo) K F kn)))] := by first | rw [faB_t c_29, faB_t c_29] | rw [← faB_f c_29, ← faB_f c_29]
  rw [hW9] at hP hD
  exact ih14 (i + 1) _ _ _ (by omega) (show n - (i + 1) < fu14 from (by omega)) hP hD hS (lv_sub hl [0, 1, 2] rfl)
set_option maxHeartbeats 4000000 in
set_option maxRecDepth 100000 in
theorem c_X12_silencesOf (l : Launch) (dC : Nat → ClassId) (dI : Nat → Nat → Nat) (cI cD cR : ClassId) (y as ai ar am ak ao az ae aq af : Nat) (hi : Bool) (th : Int32) (po ba en an aw ax ap : Nat) (se : Int32) (n d t day al : Nat) (nd : Nat → Nat) (bb oo : Nat → Int32) (K F kn : Nat → Nat) (j dy : Nat) (hn : n ≤ 9) (hd : d ≤ 7) (ht : t < 512) (hal : al < 128) (hday : day < 2 ^ 30) (gnd : ∀ i, nd i < 512) (gkn : ∀ j, kn j < 512) (gK : ∀ j, K j < 8) (gF : ∀ j, F j < 10) (hj9 : j < 7) (hdy : dy < 2 ^ 31) : Met l yX12_silencesOf wsX12_silencesOf ({ frames := 4, cells := 0, slots := 0, locals := 91 }) (pcR dC dI cI cD cR [.ref y, .int (nI j), .int (nI dy)] (fun H => va_P (dC, dI) vwCl ([(y, .inr (12, [.ref as, .ref ai, .ref ar, .ref am, .ref ak, .ref ao, .ref az, .ref ae, .ref aq, .ref af, .int (bI hi), .int th, .int (nI po), .int (nI ba), .int (nI en), .ref an, .ref aw, .ref ax, .ref ap, .int se]))] ++ [(as, .inl (cI, 53, .inl (sF n d t day al nd bb oo K F kn)))]) H)) (vp_Si (fun r => r = nI (smN n t al nd K F kn (dy % 2 != 0) j))) 0 0 (fun _ => False) := by
  refine Met.ofW (cc := cX12_silencesOf) (maxL := 5) (ret := (some .int)) (by decide) rfl ?_
  intro p e s m args below meth c s₁ B hml hv
  obtain ⟨rfl, hH0, hCX⟩ := hv
  have hx := B.exec
  have hb := B.bytes
  have hr := B.returns
  have hts := atoms_spec (ws := wsX12_silencesOf) B.pre
  have hown : s.vm.findClass RX12 = some m.cls := findClass_of_methodNamed B.named
  have hlocks := B.notSynchronized
  have hK := hCX.1
  have hP := hH0
  have hl := lv_entry ([.ref y, .int (nI j), .int (nI dy)]) (n := 5) (Nat.le_of_ble_eq_true rfl)
  rw [lg_entry_eq]
  generalize (lg_sl ([.ref y, .int (nI j), .int (nI dy)]) ++ List.replicate (5 - (lg_sl ([.ref y, .int (nI j), .int (nI dy)])).length) Slot.unset).toArray = ls at hl ⊢
  have hl : lv_has ls 5 [(0, .ref y), (1, .int (nI j)), (2, .int (nI dy))] := hl
  refine lv_iconst (v := nI 0) hx hb dX12_silencesOf_0 (by decide +kernel) ?_
  refine lv_istore_n (lv' := [(3, .int (nI 0)), (0, .ref y), (1, .int (nI j)), (2, .int (nI dy))]) hx hb dX12_silencesOf_1 rfl hl (by decide) rfl (fun ls hl => ?_)
  refine lv_iconst (v := nI 0) hx hb dX12_silencesOf_2 (by decide +kernel) ?_
  refine lv_istore (lv' := [(4, .int (nI 0)), (3, .int (nI 0)), (0, .ref y), (1, .int (nI j)), (2, .int (nI dy))]) hx hb dX12_silencesOf_3 hl (by decide) rfl (fun ls hl => ?_)
  refine ho_lp (T := Nat) 5 (fun x9 => [(4, .int (nI x9)), (3, .int (nI (orF (fun x9 => !t.testBit x9 && mnB t al nd K F kn j x9 && siB (K j) t (kn j) (nd x9) (dy % 2 != 0)) x9))), (0, .ref y), (1, .int (nI j)), (2, .int (nI dy))]) (fun x9 => []) (fun x9 => (x9 ≤ n)) (fun x9 => n - x9) 0 (by omega) (lv_sub hl [0, 1, 2, 3, 4] rfl) ?_
  intro fu5 i ls hI hm5 hl ih
  have hin := hI
  have hl : lv_has ls 5 [(4, .int (nI i)), (3, .int (nI (orF (fun i => !t.testBit i && mnB t al nd K F kn j i && siB (K j) t (kn j) (nd i) (dy % 2 != 0)) i))), (0, .ref y), (1, .int (nI j)), (2, .int (nI dy))] := hl
  have hin : i ≤ n := hin
  have hm5 : n - i < fu5 + 1 := hm5
  refine W.eq (g2 := F0 m 5 ls []) rfl ?_
  have ih5 := ih
  refine lv_iload hx hb dX12_silencesOf_5 (lv_at hl 0 rfl) ?_
  refine lv_aload_n hx hb dX12_silencesOf_7 rfl (lv_at hl 2 rfl) ?_
  refine va_get (D := (dC, dI)) (ci := 12) (v := .ref as) (C := RX12) (T := TX12) (N := 20) hx hb hts (fun _ h => List.mem_cons_of_mem _ (List.mem_append_right _ h)) hown hK hP 0 rfl rfl 0 (by decide) (hts (.fieldLink RX12 9 "HoldsOnceDeniedModel" "s" "[I") (by decide +kernel)) (fun _ h9 => h9) rfl dX12_silencesOf_8 ?_
  refine lv_iconst (v := nI 0) hx hb dX12_silencesOf_11 (by decide +kernel) ?_
  refine ho_iald (v := nI n) hx hb hK hP 1 0 rfl rfl (by omega) (by first | decide | omega) rfl dX12_silencesOf_12 ?_
  refine ho_icmp_ge (tgt := 63) hx hb dX12_silencesOf_13 (by decide) (by omega) (by omega) (fun c_13 => ?_) (fun c_13 => ?_)
  · refine lv_iload_n hx hb dX12_silencesOf_63 rfl (lv_at hl 1 rfl) ?_
    exact W.iret (v := nI (orF (fun i => !t.testBit i && mnB t al nd K F kn j i && siB (K j) t (kn j) (nd i) (dy % 2 != 0)) i)) hx hb hr (fun T9 hT9 hW9 => ⟨_, rfl, (congrArg nI (by rw [show i = n by omega]; rfl)), hT9⟩) (fun q h => by cases h) dX12_silencesOf_64
  refine lv_iload_n hx hb dX12_silencesOf_16 rfl (lv_at hl 1 rfl) ?_
  refine lv_aload_n hx hb dX12_silencesOf_17 rfl (lv_at hl 2 rfl) ?_
  refine lv_iload hx hb dX12_silencesOf_18 (lv_at hl 0 rfl) ?_
  refine vp_callSi ((va_runV (As := [.int (nI i)]) (rest := [.int (nI (orF (fun i => !t.testBit i && mnB t al nd K F kn j i && siB (K j) t (kn j) (nd i) (dy % 2 != 0)) i))]) ⟨hx, hb, hml, hown, hts⟩ (c_X12_isTrue l dC dI cI cD cR y as ai ar am ak ao az ae aq af hi th po ba en an aw ax ap se n d t day al nd bb oo K F kn i (by first | omega | assumption | exact gnd _ | exact gkn _ | exact Nat.lt_trans (gkn _) (by decide) | exact Nat.lt_trans (gnd _) (by decide) | exact Nat.lt_of_le_of_lt (pcN_le _) (by decide)) (by first | omega | assumption | exact gnd _ | exact gkn _ | exact Nat.lt_trans (gkn _) (by decide) | exact Nat.lt_trans (gnd _) (by decide) | exact Nat.lt_of_le_of_lt (pcN_le _) (by decide)) (by first | omega | assumption | exact gnd _ | exact gkn _ | exact Nat.lt_trans (gkn _) (by decide) | exact Nat.lt_trans (gnd _) (by decide) | exact Nat.lt_of_le_of_lt (pcN_le _) (by decide)) (by first | omega | assumption | exact gnd _ | exact gkn _ | exact Nat.lt_trans (gkn _) (by decide) | exact Nat.lt_trans (gnd _) (by decide) | exact Nat.lt_of_le_of_lt (pcN_le _) (by decide)) (by first | omega | assumption | exact gnd _ | exact gkn _ | exact Nat.lt_trans (gkn _) (by decide) | exact Nat.lt_trans (gnd _) (by decide) | exact Nat.lt_of_le_of_lt (pcN_le _) (by decide)) gnd gkn gK gF (by first | omega | assumption | exact gnd _ | exact gkn _ | exact Nat.lt_trans (gkn _) (by decide) | exact Nat.lt_trans (gnd _) (by decide) | exact Nat.lt_of_le_of_lt (pcN_le _) (by decide))) (cwV 1 hts gX12_silencesOf_X12_isTrue rfl rfl rfl (by decide +kernel) ⟨Nat.le_of_ble_eq_true rfl, Nat.le_of_ble_eq_true rfl⟩) (preV_R hCX (va_recv hK hP (ci := 12) (q0 := 0) rfl rfl) (hP)) rfl rfl hl.1 rfl (lv_room (Nat.le_of_ble_eq_true rfl)) dX12_silencesOf_20 ⟨Nat.le_of_ble_eq_true (by first | rfl | decide), Nat.le_of_ble_eq_true (by first | rfl | decide)⟩).run) (fun r_20 hr_20 => ?_)
  subst hr_20
  refine ho_bne (tgt := 54) hx hb dX12_silencesOf_23 (by decide) (fun c_23 => ?_) (fun c_23 => ?_)
  · refine lv_iconst (v := nI 0) hx hb dX12_silencesOf_54 (by decide +kernel) ?_
    refine ho_ior hx hb dX12_silencesOf_55 ?_
    refine lv_istore_n (lv' := [(3, .int (nI ((orF (fun i => !t.testBit i && mnB t al nd K F kn j i && siB (K j) t (kn j) (nd i) (dy % 2 != 0)) i) ||| 0))), (4, .int (nI i)), (0, .ref y), (1, .int (nI j)), (2, .int (nI dy))]) hx hb dX12_silencesOf_56 rfl hl (by decide) rfl (fun ls hl => ?_)
    refine ho_iinc (lv' := [(4, .int (nI (i + 1))), (3, .int (nI ((orF (fun i => !t.testBit i && mnB t al nd K F kn j i && siB (K j) t (kn j) (nd i) (dy % 2 != 0)) i) ||| 0))), (0, .ref y), (1, .int (nI j)), (2, .int (nI dy))]) (a := i) (b := 1) hx hb dX12_silencesOf_57 hl (k := 1) rfl rfl (by decide) rfl (fun ls hl => ?_)
    refine lv_goto (tgt := 5) hx hb dX12_silencesOf_60 (by decide) ?_
    have e9_3 : (orF (fun i => !t.testBit i && mnB t al nd K F kn j i && siB (K j) t (kn j) (nd i) (dy % 2 != 0)) i) ||| 0 = orF (fun (i + 1) => !t.testBit (i + 1) && mnB t al nd K F kn j (i + 1) && siB (K j) t (kn j) (nd (i + 1)) (dy % 2 != 0)) (i + 1) := by first | exact orF_t (by simp [c_23]) | exact orF_t (by simp [c_23, c_33]) | exact orF_t (by simp [c_23, c_33, c_44]) | exact orF_u (by simp [c_23]) | exact orF_u (by simp [c_23, c_33]) | exact orF_u (by simp [c_23, c_33, c_44])
    rw [e9_3] at hl
    exact ih5 (i + 1) _ (by omega) (show n - (i + 1) < fu5 from (by omega)) (lv_sub hl [0, 1, 2, 3, 4] rfl)
  refine lv_aload_n hx hb dX12_silencesOf_26 rfl (lv_at hl 2 rfl) ?_
  refine lv_iload_n hx hb dX12_silencesOf_27 rfl (lv_at hl 3 rfl) ?_
  refine lv_iload hx hb dX12_silencesOf_28 (lv_at hl 0 rfl) ?_
  refine vp_callSi ((va_runV (As := [.int (nI j), .int (nI i)]) (rest := [.int (nI (orF (fun i => !t.testBit i && mnB t al nd K F kn j i && siB (K j) t (kn j) (nd i) (dy % 2 != 0)) i))]) ⟨hx, hb, hml, hown, hts⟩ (c_X12_mayNow l dC dI cI cD cR y as ai ar am ak ao az ae aq af hi th po ba en an aw ax ap se n d t day al nd bb oo K F kn j i (by first | omega | assumption | exact gnd _ | exact gkn _ | exact Nat.lt_trans (gkn _) (by decide) | exact Nat.lt_trans (gnd _) (by decide) | exact Nat.lt_of_le_of_lt (pcN_le _) (by decide)) (by first | omega | assumption | exact gnd _ | exact gkn _ | exact Nat.lt_trans (gkn _) (by decide) | exact Nat.lt_trans (gnd _) (by decide) | exact Nat.lt_of_le_of_lt (pcN_le _) (by decide)) (by first | omega | assumption | exact gnd _ | exact gkn _ | exact Nat.lt_trans (gkn _) (by decide) | exact Nat.lt_trans (gnd _) (by decide) | exact Nat.lt_of_le_of_lt (pcN_le _) (by decide)) (by first | omega | assumption | exact gnd _ | exact gkn _ | exact Nat.lt_trans (gkn _) (by decide) | exact Nat.lt_trans (gnd _) (by decide) | exact Nat.lt_of_le_of_lt (pcN_le _) (by decide)) (by first | omega | assumption | exact gnd _ | exact gkn _ | exact Nat.lt_trans (gkn _) (by decide) | exact Nat.lt_trans (gnd _) (by decide) | exact Nat.lt_of_le_of_lt (pcN_le _) (by decide)) gnd gkn gK gF (by first | omega | assumption | exact gnd _ | exact gkn _ | exact Nat.lt_trans (gkn _) (by decide) | exact Nat.lt_trans (gnd _) (by decide) | exact Nat.lt_of_le_of_lt (pcN_le _) (by decide)) (by first | omega | assumption | exact gnd _ | exact gkn _ | exact Nat.lt_trans (gkn _) (by decide) | exact Nat.lt_trans (gnd _) (by decide) | exact Nat.lt_of_le_of_lt (pcN_le _) (by decide))) (cwV 2 hts gX12_silencesOf_X12_mayNow rfl rfl rfl (by decide +kernel) ⟨Nat.le_of_ble_eq_true rfl, Nat.le_of_ble_eq_true rfl⟩) (preV_R hCX (va_recv hK hP (ci := 12) (q0 := 0) rfl rfl) (hP)) rfl rfl hl.1 rfl (lv_room (Nat.le_of_ble_eq_true rfl)) dX12_silencesOf_30 ⟨Nat.le_of_ble_eq_true (by first | rfl | decide), Nat.le_of_ble_eq_true (by first | rfl | decide)⟩).run) (fun r_30 hr_30 => ?_)
  subst hr_30
  refine ho_beq (tgt := 54) hx hb dX12_silencesOf_33 (by decide) (fun c_33 => ?_) (fun c_33 => ?_)
  · refine lv_iconst (v := nI 0) hx hb dX12_silencesOf_54 (by decide +kernel) ?_
    refine ho_ior hx hb dX12_silencesOf_55 ?_
    refine lv_istore_n (lv' := [(3, .int (nI ((orF (fun i => !t.testBit i && mnB t al nd K F kn j i && siB (K j) t (kn j) (nd i) (dy % 2 != 0)) i) ||| 0))), (4, .int (nI i)), (0, .ref y), (1, .int (nI j)), (2, .int (nI dy))]) hx hb dX12_silencesOf_56 rfl hl (by decide) rfl (fun ls hl => ?_)
    refine ho_iinc (lv' := [(4, .int (nI (i + 1))), (3, .int (nI ((orF (fun i => !t.testBit i && mnB t al nd K F kn j i && siB (K j) t (kn j) (nd i) (dy % 2 != 0)) i) ||| 0))), (0, .ref y), (1, .int (nI j)), (2, .int (nI dy))]) (a := i) (b := 1) hx hb dX12_silencesOf_57 hl (k := 1) rfl rfl (by decide) rfl (fun ls hl => ?_)
    refine lv_goto (tgt := 5) hx hb dX12_silencesOf_60 (by decide) ?_
    have e9_3 : (orF (fun i => !t.testBit i && mnB t al nd K F kn j i && siB (K j) t (kn j) (nd i) (dy % 2 != 0)) i) ||| 0 = orF (fun (i + 1) => !t.testBit (i + 1) && mnB t al nd K F kn j (i + 1) && siB (K j) t (kn j) (nd (i + 1)) (dy % 2 != 0)) (i + 1) := by first | exact orF_t (by simp [c_23]) | exact orF_t (by simp [c_23, c_33]) | exact orF_t (by simp [c_23, c_33, c_44]) | exact orF_u (by simp [c_23]) | exact orF_u (by simp [c_23, c_33]) | exact orF_u (by simp [c_23, c_33, c_44])
    rw [e9_3] at hl
    exact ih5 (i + 1) _ (by omega) (show n - (i + 1) < fu5 from (by omega)) (lv_sub hl [0, 1, 2, 3, 4] rfl)
  refine lv_aload_n hx hb dX12_silencesOf_36 rfl (lv_at hl 2 rfl) ?_
  refine lv_iload_n hx hb dX12_silencesOf_37 rfl (lv_at hl 3 rfl) ?_
  refine lv_iload hx hb dX12_silencesOf_38 (lv_at hl 0 rfl) ?_
  refine lv_iload_n hx hb dX12_silencesOf_40 rfl (lv_at hl 4 rfl) ?_
  refine vp_callSi ((va_runV (As := [.int (nI j), .int (nI i), .int (nI dy)]) (rest := [.int (nI (orF (fun i => !t.testBit i && mnB t al nd K F kn j i && siB (K j) t (kn j) (nd i) (dy % 2 != 0)) i))]) ⟨hx, hb, hml, hown, hts⟩ (c_X12_isSilenced l dC dI cI cD cR y as ai ar am ak ao az ae aq af hi th po ba en an aw ax ap se n d t day al nd bb oo K F kn j i dy (by first | omega | assumption | exact gnd _ | exact gkn _ | exact Nat.lt_trans (gkn _) (by decide) | exact Nat.lt_trans (gnd _) (by decide) | exact Nat.lt_of_le_of_lt (pcN_le _) (by decide)) (by first | omega | assumption | exact gnd _ | exact gkn _ | exact Nat.lt_trans (gkn _) (by decide) | exact Nat.lt_trans (gnd _) (by decide) | exact Nat.lt_of_le_of_lt (pcN_le _) (by decide)) (by first | omega | assumption | exact gnd _ | exact gkn _ | exact Nat.lt_trans (gkn _) (by decide) | exact Nat.lt_trans (gnd _) (by decide) | exact Nat.lt_of_le_of_lt (pcN_le _) (by decide)) (by first | omega | assumption | exact gnd _ | exact gkn _ | exact Nat.lt_trans (gkn _) (by decide) | exact Nat.lt_trans (gnd _) (by decide) | exact Nat.lt_of_le_of_lt (pcN_le _) (by decide)) (by first | omega | assumption | exact gnd _ | exact gkn _ | exact Nat.lt_trans (gkn _) (by decide) | exact Nat.lt_trans (gnd _) (by decide) | exact Nat.lt_of_le_of_lt (pcN_le _) (by decide)) gnd gkn gK gF (by first | omega | assumption | exact gnd _ | exact gkn _ | exact Nat.lt_trans (gkn _) (by decide) | exact Nat.lt_trans (gnd _) (by decide) | exact Nat.lt_of_le_of_lt (pcN_le _) (by decide)) (by first | omega | assumption | exact gnd _ | exact gkn _ | exact Nat.lt_trans (gkn _) (by decide) | exact Nat.lt_trans (gnd _) (by decide) | exact Nat.lt_of_le_of_lt (pcN_le _) (by decide)) (by first | omega | assumption | exact gnd _ | exact gkn _ | exact Nat.lt_trans (gkn _) (by decide) | exact Nat.lt_trans (gnd _) (by decide) | exact Nat.lt_of_le_of_lt (pcN_le _) (by decide))) (cwV 3 hts gX12_silencesOf_X12_isSilenced rfl rfl rfl (by decide +kernel) ⟨Nat.le_of_ble_eq_true rfl, Nat.le_of_ble_eq_true rfl⟩) (preV_R hCX (va_recv hK hP (ci := 12) (q0 := 0) rfl rfl) (hP)) rfl rfl hl.1 rfl (lv_room (Nat.le_of_ble_eq_true rfl)) dX12_silencesOf_41 ⟨Nat.le_of_ble_eq_true (by first | rfl | decide), Nat.le_of_ble_eq_true (by first | rfl | decide)⟩).run) (fun r_41 hr_41 => ?_)
  subst hr_41
  refine ho_beq (tgt := 54) hx hb dX12_silencesOf_44 (by decide) (fun c_44 => ?_) (fun c_44 => ?_)
  · refine lv_iconst (v := nI 0) hx hb dX12_silencesOf_54 (by decide +kernel) ?_
    refine ho_ior hx hb dX12_silencesOf_55 ?_
    refine lv_istore_n (lv' := [(3, .int (nI ((orF (fun i => !t.testBit i && mnB t al nd K F kn j i && siB (K j) t (kn j) (nd i) (dy % 2 != 0)) i) ||| 0))), (4, .int (nI i)), (0, .ref y), (1, .int (nI j)), (2, .int (nI dy))]) hx hb dX12_silencesOf_56 rfl hl (by decide) rfl (fun ls hl => ?_)
    refine ho_iinc (lv' := [(4, .int (nI (i + 1))), (3, .int (nI ((orF (fun i => !t.testBit i && mnB t al nd K F kn j i && siB (K j) t (kn j) (nd i) (dy % 2 != 0)) i) ||| 0))), (0, .ref y), (1, .int (nI j)), (2, .int (nI dy))]) (a := i) (b := 1) hx hb dX12_silencesOf_57 hl (k := 1) rfl rfl (by decide) rfl (fun ls hl => ?_)
    refine lv_goto (tgt := 5) hx hb dX12_silencesOf_60 (by decide) ?_
    have e9_3 : (orF (fun i => !t.testBit i && mnB t al nd K F kn j i && siB (K j) t (kn j) (nd i) (dy % 2 != 0)) i) ||| 0 = orF (fun (i + 1) => !t.testBit (i + 1) && mnB t al nd K F kn j (i + 1) && siB (K j) t (kn j) (nd (i + 1)) (dy % 2 != 0)) (i + 1) := by first | exact orF_t (by simp [c_23]) | exact orF_t (by simp [c_23, c_33]) | exact orF_t (by simp [c_23, c_33, c_44]) | exact orF_u (by simp [c_23]) | exact orF_u (by simp [c_23, c_33]) | exact orF_u (by simp [c_23, c_33, c_44])
    rw [e9_3] at hl
    exact ih5 (i + 1) _ (by omega) (show n - (i + 1) < fu5 from (by omega)) (lv_sub hl [0, 1, 2, 3, 4] rfl)
  refine lv_iconst (v := nI 1) hx hb dX12_silencesOf_47 (by decide +kernel) ?_
  refine lv_iload hx hb dX12_silencesOf_48 (lv_at hl 0 rfl) ?_
  refine ho_shl1 hx hb dX12_silencesOf_50 (by omega) ?_
  refine lv_goto (tgt := 55) hx hb dX12_silencesOf_51 (by decide) ?_
  refine ho_ior hx hb dX12_silencesOf_55 ?_
  refine lv_istore_n (lv' := [(3, .int (nI ((orF (fun i => !t.testBit i && mnB t al nd K F kn j i && siB (K j) t (kn j) (nd i) (dy % 2 != 0)) i) ||| (2 ^ i)))), (4, .int (nI i)), (0, .ref y), (1, .int (nI j)), (2, .int (nI dy))]) hx hb dX12_silencesOf_56 rfl hl (by decide) rfl (fun ls hl => ?_)
  refine ho_iinc (lv' := [(4, .int (nI (i + 1))), (3, .int (nI ((orF (fun i => !t.testBit i && mnB t al nd K F kn j i && siB (K j) t (kn j) (nd i) (dy % 2 != 0)) i) ||| (2 ^ i)))), (0, .ref y), (1, .int (nI j)), (2, .int (nI dy))]) (a := i) (b := 1) hx hb dX12_silencesOf_57 hl (k := 1) rfl rfl (by decide) rfl (fun ls hl => ?_)
  refine lv_goto (tgt := 5) hx hb dX12_silencesOf_60 (by decide) ?_
  have e9_3 : (orF (fun i => !t.testBit i && mnB t al nd K F kn j i && siB (K j) t (kn j) (nd i) (dy % 2 != 0)) i) ||| (2 ^ i) = orF (fun (i + 1) => !t.testBit (i + 1) && mnB t al nd K F kn j (i + 1) && siB (K j) t (kn j) (nd (i + 1)) (dy % 2 != 0)) (i + 1) := by first | exact orF_t (by simp [c_23]) | exact orF_t (by simp [c_23, c_33]) | exact orF_t (by simp [c_23, c_33, c_44]) | exact orF_u (by simp [c_23]) | exact orF_u (by simp [c_23, c_33]) | exact orF_u (by simp [c_23, c_33, c_44])
  rw [e9_3] at hl
  exact ih5 (i + 1) _ (by omega) (show n - (i + 1) < fu5 from (by omega)) (lv_sub hl [0, 1, 2, 3, 4] rfl)
set_option maxHeartbeats 4000000 in
set_option maxRecDepth 100000 in
theorem c_X12_sentence (l : Launch) (dC : Nat → ClassId) (dI : Nat → Nat → Nat) (cI cD cR : ClassId) (y as ai ar am ak ao az ae aq af : Nat) (hi : Bool) (th : Int32) (po ba en an aw ax ap : Nat) (se : Int32) (n d t day al : Nat) (nd : Nat → Nat) (bb oo : Nat → Int32) (K F kn : Nat → Nat) (x w : Int32) (hn : n ≤ 9) (hd : d ≤ 7) (ht : t < 512) (hal : al < 128) (hday : day < 2 ^ 30) (gnd : ∀ i, nd i < 512) (gkn : ∀ j, kn j < 512) (gK : ∀ j, K j < 8) (gF : ∀ j, F j < 10) : Met l yX12_sentence wsX12_sentence ({ frames := 2, cells := 0, slots := 0, locals := 46 }) (pcR dC dI cI cD cR [.ref y, .int x, .int w] (fun H => va_P (dC, dI) vwCl ([(y, .inr (12, [.ref as, .ref ai, .ref ar, .ref am, .ref ak, .ref ao, .ref az, .ref ae, .ref aq, .ref af, .int (bI hi), .int th, .int (nI po), .int (nI ba), .int (nI en), .ref an, .ref aw, .ref ax, .ref ap, .int se]))] ++ [(as, .inl (cI, 53, .inl (sF n d t day al nd bb oo K F kn)))]) H)) (vp_Si (fun r => r = (on1 (oN x n) (fun v => if w = 0 then nI (nd v) else if w = 1 then bI (t.testBit v) else if w = 2 then bb v else if w = 3 then oo v else -1) (-1)))) 0 0 (fun _ => False) := by
  refine Met.ofW (cc := cX12_sentence) (maxL := 3) (ret := (some .int)) (by decide) rfl ?_
  intro p e s m args below meth c s₁ B hml hv
  obtain ⟨rfl, hH0, hCX⟩ := hv
  have hx := B.exec
  have hb := B.bytes
  have hr := B.returns
  have hts := atoms_spec (ws := wsX12_sentence) B.pre
  have hown : s.vm.findClass RX12 = some m.cls := findClass_of_methodNamed B.named
  have hlocks := B.notSynchronized
  have hK := hCX.1
  have hP := hH0
  have hl := lv_entry ([.ref y, .int x, .int w]) (n := 3) (Nat.le_of_ble_eq_true rfl)
  rw [lg_entry_eq]
  generalize (lg_sl ([.ref y, .int x, .int w]) ++ List.replicate (3 - (lg_sl ([.ref y, .int x, .int w])).length) Slot.unset).toArray = ls at hl ⊢
  have hl : lv_has ls 3 [(0, .ref y), (1, .int x), (2, .int w)] := hl
  rcases okI_or x (n := n) (by omega) with hb_x | ⟨v, h_v, rfl⟩
  · refine lv_aload_n hx hb dX12_sentence_0 rfl (lv_at hl 0 rfl) ?_
    refine lv_iload_n hx hb dX12_sentence_1 rfl (lv_at hl 1 rfl) ?_
    refine vp_callSi ((va_runV (As := [.int x]) (rest := []) ⟨hx, hb, hml, hown, hts⟩ (c_X12_isSentence_f l dC dI cI cD cR y as ai ar am ak ao az ae aq af hi th po ba en an aw ax ap se n d t day al nd bb oo K F kn x (by first | omega | assumption | exact gnd _ | exact gkn _ | exact Nat.lt_trans (gkn _) (by decide) | exact Nat.lt_trans (gnd _) (by decide) | exact Nat.lt_of_le_of_lt (pcN_le _) (by decide)) (by first | omega | assumption | exact gnd _ | exact gkn _ | exact Nat.lt_trans (gkn _) (by decide) | exact Nat.lt_trans (gnd _) (by decide) | exact Nat.lt_of_le_of_lt (pcN_le _) (by decide)) (by first | omega | assumption | exact gnd _ | exact gkn _ | exact Nat.lt_trans (gkn _) (by decide) | exact Nat.lt_trans (gnd _) (by decide) | exact Nat.lt_of_le_of_lt (pcN_le _) (by decide)) (by first | omega | assumption | exact gnd _ | exact gkn _ | exact Nat.lt_trans (gkn _) (by decide) | exact Nat.lt_trans (gnd _) (by decide) | exact Nat.lt_of_le_of_lt (pcN_le _) (by decide)) (by first | omega | assumption | exact gnd _ | exact gkn _ | exact Nat.lt_trans (gkn _) (by decide) | exact Nat.lt_trans (gnd _) (by decide) | exact Nat.lt_of_le_of_lt (pcN_le _) (by decide)) gnd gkn gK gF (by first | omega | assumption | exact gnd _ | exact gkn _ | exact Nat.lt_trans (gkn _) (by decide) | exact Nat.lt_trans (gnd _) (by decide) | exact Nat.lt_of_le_of_lt (pcN_le _) (by decide))) (cwV 1 hts gX12_sentence_X12_isSentence rfl rfl rfl (by decide +kernel) ⟨Nat.le_of_ble_eq_true rfl, Nat.le_of_ble_eq_true rfl⟩) (preV_R hCX (va_recv hK hP (ci := 12) (q0 := 0) rfl rfl) (hP)) rfl rfl hl.1 rfl (lv_room (Nat.le_of_ble_eq_true rfl)) dX12_sentence_2 ⟨Nat.le_of_ble_eq_true (by first | rfl | decide), Nat.le_of_ble_eq_true (by first | rfl | decide)⟩).run) (fun r_2 hr_2 => ?_)
    subst hr_2
    refine lv_if_ne (tgt := 10) hx hb dX12_sentence_5 (by decide) (fun z => absurd z (by decide +kernel)) (fun _ => ?_)
    refine lv_iconst (v := (-1)) hx hb dX12_sentence_8 (by decide +kernel) ?_
    exact W.iret (v := (-1)) hx hb hr (fun T9 hT9 hW9 => ⟨_, rfl, (by (simp [on1, oN_f hb_x]) <;> first | rfl | omega), hT9⟩) (fun q h => by cases h) dX12_sentence_9
  refine lv_aload_n hx hb dX12_sentence_0 rfl (lv_at hl 0 rfl) ?_
  refine lv_iload_n hx hb dX12_sentence_1 rfl (lv_at hl 1 rfl) ?_
  refine vp_callSi ((va_runV (As := [.int (nI v)]) (rest := []) ⟨hx, hb, hml, hown, hts⟩ (c_X12_isSentence_t l dC dI cI cD cR y as ai ar am ak ao az ae aq af hi th po ba en an aw ax ap se n d t day al nd bb oo K F kn v (by first | omega | assumption | exact gnd _ | exact gkn _ | exact Nat.lt_trans (gkn _) (by decide) | exact Nat.lt_trans (gnd _) (by decide) | exact Nat.lt_of_le_of_lt (pcN_le _) (by decide)) (by first | omega | assumption | exact gnd _ | exact gkn _ | exact Nat.lt_trans (gkn _) (by decide) | exact Nat.lt_trans (gnd _) (by decide) | exact Nat.lt_of_le_of_lt (pcN_le _) (by decide)) (by first | omega | assumption | exact gnd _ | exact gkn _ | exact Nat.lt_trans (gkn _) (by decide) | exact Nat.lt_trans (gnd _) (by decide) | exact Nat.lt_of_le_of_lt (pcN_le _) (by decide)) (by first | omega | assumption | exact gnd _ | exact gkn _ | exact Nat.lt_trans (gkn _) (by decide) | exact Nat.lt_trans (gnd _) (by decide) | exact Nat.lt_of_le_of_lt (pcN_le _) (by decide)) (by first | omega | assumption | exact gnd _ | exact gkn _ | exact Nat.lt_trans (gkn _) (by decide) | exact Nat.lt_trans (gnd _) (by decide) | exact Nat.lt_of_le_of_lt (pcN_le _) (by decide)) gnd gkn gK gF (by first | omega | assumption | exact gnd _ | exact gkn _ | exact Nat.lt_trans (gkn _) (by decide) | exact Nat.lt_trans (gnd _) (by decide) | exact Nat.lt_of_le_of_lt (pcN_le _) (by decide))) (cwV 1 hts gX12_sentence_X12_isSentence rfl rfl rfl (by decide +kernel) ⟨Nat.le_of_ble_eq_true rfl, Nat.le_of_ble_eq_true rfl⟩) (preV_R hCX (va_recv hK hP (ci := 12) (q0 := 0) rfl rfl) (hP)) rfl rfl hl.1 rfl (lv_room (Nat.le_of_ble_eq_true rfl)) dX12_sentence_2 ⟨Nat.le_of_ble_eq_true (by first | rfl | decide), Nat.le_of_ble_eq_true (by first | rfl | decide)⟩).run) (fun r_2 hr_2 => ?_)
  subst hr_2
  refine lv_if_ne (tgt := 10) hx hb dX12_sentence_5 (by decide) (fun _ => ?_) (fun z => absurd z (by decide +kernel))
  refine lv_iload_n hx hb dX12_sentence_10 rfl (lv_at hl 2 rfl) ?_
  by_cases k_11_0 : w = 0
  · refine ho_tope (y := 0) k_11_0 ?_
    refine lv_tableIn (tgt := 40) hx hb dX12_sentence_11 (by decide +kernel) (by decide +kernel) (off := 29) (by decide +kernel) (by decide) ?_
    refine lv_aload_n hx hb dX12_sentence_40 rfl (lv_at hl 0 rfl) ?_
    refine lv_iload_n hx hb dX12_sentence_41 rfl (lv_at hl 1 rfl) ?_
    refine lv_iconst (v := nI 0) hx hb dX12_sentence_42 (by decide +kernel) ?_
    refine vp_callSi ((va_runV (As := [.int (nI v), .int (nI 0)]) (rest := []) ⟨hx, hb, hml, hown, hts⟩ (c_X12_of_0 l dC dI cI cD cR y as ai ar am ak ao az ae aq af hi th po ba en an aw ax ap se n d t day al nd bb oo K F kn v (by first | omega | assumption | exact gnd _ | exact gkn _ | exact Nat.lt_trans (gkn _) (by decide) | exact Nat.lt_trans (gnd _) (by decide) | exact Nat.lt_of_le_of_lt (pcN_le _) (by decide)) (by first | omega | assumption | exact gnd _ | exact gkn _ | exact Nat.lt_trans (gkn _) (by decide) | exact Nat.lt_trans (gnd _) (by decide) | exact Nat.lt_of_le_of_lt (pcN_le _) (by decide)) (by first | omega | assumption | exact gnd _ | exact gkn _ | exact Nat.lt_trans (gkn _) (by decide) | exact Nat.lt_trans (gnd _) (by decide) | exact Nat.lt_of_le_of_lt (pcN_le _) (by decide)) (by first | omega | assumption | exact gnd _ | exact gkn _ | exact Nat.lt_trans (gkn _) (by decide) | exact Nat.lt_trans (gnd _) (by decide) | exact Nat.lt_of_le_of_lt (pcN_le _) (by decide)) (by first | omega | assumption | exact gnd _ | exact gkn _ | exact Nat.lt_trans (gkn _) (by decide) | exact Nat.lt_trans (gnd _) (by decide) | exact Nat.lt_of_le_of_lt (pcN_le _) (by decide)) gnd gkn gK gF (by first | omega | assumption | exact gnd _ | exact gkn _ | exact Nat.lt_trans (gkn _) (by decide) | exact Nat.lt_trans (gnd _) (by decide) | exact Nat.lt_of_le_of_lt (pcN_le _) (by decide))) (cwV 2 hts gX12_sentence_X12_of rfl rfl rfl (by decide +kernel) ⟨Nat.le_of_ble_eq_true rfl, Nat.le_of_ble_eq_true rfl⟩) (preV_R hCX (va_recv hK hP (ci := 12) (q0 := 0) rfl rfl) (hP)) rfl rfl hl.1 rfl (lv_room (Nat.le_of_ble_eq_true rfl)) dX12_sentence_43 ⟨Nat.le_of_ble_eq_true (by first | rfl | decide), Nat.le_of_ble_eq_true (by first | rfl | decide)⟩).run) (fun r_43 hr_43 => ?_)
    subst hr_43
    exact W.iret (v := nI (nd v)) hx hb hr (fun T9 hT9 hW9 => ⟨_, rfl, (by (simp [on1, k_11_0, oN_t h_v]) <;> first | rfl | omega), hT9⟩) (fun q h => by cases h) dX12_sentence_46
  by_cases k_11_1 : w = 1
  · refine ho_tope (y := 1) k_11_1 ?_
    refine lv_tableIn (tgt := 47) hx hb dX12_sentence_11 (by decide +kernel) (by decide +kernel) (off := 36) (by decide +kernel) (by decide) ?_
    refine lv_aload_n hx hb dX12_sentence_47 rfl (lv_at hl 0 rfl) ?_
    refine lv_iload_n hx hb dX12_sentence_48 rfl (lv_at hl 1 rfl) ?_
    refine vp_callSi ((va_runV (As := [.int (nI v)]) (rest := []) ⟨hx, hb, hml, hown, hts⟩ (c_X12_isTrue l dC dI cI cD cR y as ai ar am ak ao az ae aq af hi th po ba en an aw ax ap se n d t day al nd bb oo K F kn v (by first | omega | assumption | exact gnd _ | exact gkn _ | exact Nat.lt_trans (gkn _) (by decide) | exact Nat.lt_trans (gnd _) (by decide) | exact Nat.lt_of_le_of_lt (pcN_le _) (by decide)) (by first | omega | assumption | exact gnd _ | exact gkn _ | exact Nat.lt_trans (gkn _) (by decide) | exact Nat.lt_trans (gnd _) (by decide) | exact Nat.lt_of_le_of_lt (pcN_le _) (by decide)) (by first | omega | assumption | exact gnd _ | exact gkn _ | exact Nat.lt_trans (gkn _) (by decide) | exact Nat.lt_trans (gnd _) (by decide) | exact Nat.lt_of_le_of_lt (pcN_le _) (by decide)) (by first | omega | assumption | exact gnd _ | exact gkn _ | exact Nat.lt_trans (gkn _) (by decide) | exact Nat.lt_trans (gnd _) (by decide) | exact Nat.lt_of_le_of_lt (pcN_le _) (by decide)) (by first | omega | assumption | exact gnd _ | exact gkn _ | exact Nat.lt_trans (gkn _) (by decide) | exact Nat.lt_trans (gnd _) (by decide) | exact Nat.lt_of_le_of_lt (pcN_le _) (by decide)) gnd gkn gK gF (by first | omega | assumption | exact gnd _ | exact gkn _ | exact Nat.lt_trans (gkn _) (by decide) | exact Nat.lt_trans (gnd _) (by decide) | exact Nat.lt_of_le_of_lt (pcN_le _) (by decide))) (cwV 1 hts gX12_sentence_X12_isTrue rfl rfl rfl (by decide +kernel) ⟨Nat.le_of_ble_eq_true rfl, Nat.le_of_ble_eq_true rfl⟩) (preV_R hCX (va_recv hK hP (ci := 12) (q0 := 0) rfl rfl) (hP)) rfl rfl hl.1 rfl (lv_room (Nat.le_of_ble_eq_true rfl)) dX12_sentence_49 ⟨Nat.le_of_ble_eq_true (by first | rfl | decide), Nat.le_of_ble_eq_true (by first | rfl | decide)⟩).run) (fun r_49 hr_49 => ?_)
    subst hr_49
    refine ho_beq (tgt := 59) hx hb dX12_sentence_52 (by decide) (fun c_52 => ?_) (fun c_52 => ?_)
    · refine lv_iconst (v := nI 0) hx hb dX12_sentence_59 (by decide +kernel) ?_
      exact W.iret (v := nI 0) hx hb hr (fun T9 hT9 hW9 => ⟨_, rfl, (by (simp [on1, k_11_1, c_52, oN_t h_v]) <;> first | rfl | omega), hT9⟩) (fun q h => by cases h) dX12_sentence_60
    refine lv_iconst (v := nI 1) hx hb dX12_sentence_55 (by decide +kernel) ?_
    refine lv_goto (tgt := 60) hx hb dX12_sentence_56 (by decide) ?_
    exact W.iret (v := nI 1) hx hb hr (fun T9 hT9 hW9 => ⟨_, rfl, (by (simp [on1, k_11_1, c_52, oN_t h_v]) <;> first | rfl | omega), hT9⟩) (fun q h => by cases h) dX12_sentence_60
  by_cases k_11_2 : w = 2
  · refine ho_tope (y := 2) k_11_2 ?_
    refine lv_tableIn (tgt := 61) hx hb dX12_sentence_11 (by decide +kernel) (by decide +kernel) (off := 50) (by decide +kernel) (by decide) ?_
    refine lv_aload_n hx hb dX12_sentence_61 rfl (lv_at hl 0 rfl) ?_
    refine lv_iload_n hx hb dX12_sentence_62 rfl (lv_at hl 1 rfl) ?_
    refine lv_iconst (v := nI 1) hx hb dX12_sentence_63 (by decide +kernel) ?_
    refine vp_callSi ((va_runV (As := [.int (nI v), .int (nI 1)]) (rest := []) ⟨hx, hb, hml, hown, hts⟩ (c_X12_of_1 l dC dI cI cD cR y as ai ar am ak ao az ae aq af hi th po ba en an aw ax ap se n d t day al nd bb oo K F kn v (by first | omega | assumption | exact gnd _ | exact gkn _ | exact Nat.lt_trans (gkn _) (by decide) | exact Nat.lt_trans (gnd _) (by decide) | exact Nat.lt_of_le_of_lt (pcN_le _) (by decide)) (by first | omega | assumption | exact gnd _ | exact gkn _ | exact Nat.lt_trans (gkn _) (by decide) | exact Nat.lt_trans (gnd _) (by decide) | exact Nat.lt_of_le_of_lt (pcN_le _) (by decide)) (by first | omega | assumption | exact gnd _ | exact gkn _ | exact Nat.lt_trans (gkn _) (by decide) | exact Nat.lt_trans (gnd _) (by decide) | exact Nat.lt_of_le_of_lt (pcN_le _) (by decide)) (by first | omega | assumption | exact gnd _ | exact gkn _ | exact Nat.lt_trans (gkn _) (by decide) | exact Nat.lt_trans (gnd _) (by decide) | exact Nat.lt_of_le_of_lt (pcN_le _) (by decide)) (by first | omega | assumption | exact gnd _ | exact gkn _ | exact Nat.lt_trans (gkn _) (by decide) | exact Nat.lt_trans (gnd _) (by decide) | exact Nat.lt_of_le_of_lt (pcN_le _) (by decide)) gnd gkn gK gF (by first | omega | assumption | exact gnd _ | exact gkn _ | exact Nat.lt_trans (gkn _) (by decide) | exact Nat.lt_trans (gnd _) (by decide) | exact Nat.lt_of_le_of_lt (pcN_le _) (by decide))) (cwV 2 hts gX12_sentence_X12_of rfl rfl rfl (by decide +kernel) ⟨Nat.le_of_ble_eq_true rfl, Nat.le_of_ble_eq_true rfl⟩) (preV_R hCX (va_recv hK hP (ci := 12) (q0 := 0) rfl rfl) (hP)) rfl rfl hl.1 rfl (lv_room (Nat.le_of_ble_eq_true rfl)) dX12_sentence_64 ⟨Nat.le_of_ble_eq_true (by first | rfl | decide), Nat.le_of_ble_eq_true (by first | rfl | decide)⟩).run) (fun r_64 hr_64 => ?_)
    subst hr_64
    exact W.iret (v := (bb v)) hx hb hr (fun T9 hT9 hW9 => ⟨_, rfl, (by (simp [on1, k_11_2, oN_t h_v]) <;> first | rfl | omega), hT9⟩) (fun q h => by cases h) dX12_sentence_67
  by_cases k_11_3 : w = 3
  · refine ho_tope (y := 3) k_11_3 ?_
    refine lv_tableIn (tgt := 68) hx hb dX12_sentence_11 (by decide +kernel) (by decide +kernel) (off := 57) (by decide +kernel) (by decide) ?_
    refine lv_aload_n hx hb dX12_sentence_68 rfl (lv_at hl 0 rfl) ?_
    refine lv_iload_n hx hb dX12_sentence_69 rfl (lv_at hl 1 rfl) ?_
    refine lv_iconst (v := nI 2) hx hb dX12_sentence_70 (by decide +kernel) ?_
    refine vp_callSi ((va_runV (As := [.int (nI v), .int (nI 2)]) (rest := []) ⟨hx, hb, hml, hown, hts⟩ (c_X12_of_2 l dC dI cI cD cR y as ai ar am ak ao az ae aq af hi th po ba en an aw ax ap se n d t day al nd bb oo K F kn v (by first | omega | assumption | exact gnd _ | exact gkn _ | exact Nat.lt_trans (gkn _) (by decide) | exact Nat.lt_trans (gnd _) (by decide) | exact Nat.lt_of_le_of_lt (pcN_le _) (by decide)) (by first | omega | assumption | exact gnd _ | exact gkn _ | exact Nat.lt_trans (gkn _) (by decide) | exact Nat.lt_trans (gnd _) (by decide) | exact Nat.lt_of_le_of_lt (pcN_le _) (by decide)) (by first | omega | assumption | exact gnd _ | exact gkn _ | exact Nat.lt_trans (gkn _) (by decide) | exact Nat.lt_trans (gnd _) (by decide) | exact Nat.lt_of_le_of_lt (pcN_le _) (by decide)) (by first | omega | assumption | exact gnd _ | exact gkn _ | exact Nat.lt_trans (gkn _) (by decide) | exact Nat.lt_trans (gnd _) (by decide) | exact Nat.lt_of_le_of_lt (pcN_le _) (by decide)) (by first | omega | assumption | exact gnd _ | exact gkn _ | exact Nat.lt_trans (gkn _) (by decide) | exact Nat.lt_trans (gnd _) (by decide) | exact Nat.lt_of_le_of_lt (pcN_le _) (by decide)) gnd gkn gK gF (by first | omega | assumption | exact gnd _ | exact gkn _ | exact Nat.lt_trans (gkn _) (by decide) | exact Nat.lt_trans (gnd _) (by decide) | exact Nat.lt_of_le_of_lt (pcN_le _) (by decide))) (cwV 2 hts gX12_sentence_X12_of rfl rfl rfl (by decide +kernel) ⟨Nat.le_of_ble_eq_true rfl, Nat.le_of_ble_eq_true rfl⟩) (preV_R hCX (va_recv hK hP (ci := 12) (q0 := 0) rfl rfl) (hP)) rfl rfl hl.1 rfl (lv_room (Nat.le_of_ble_eq_true rfl)) dX12_sentence_71 ⟨Nat.le_of_ble_eq_true (by first | rfl | decide), Nat.le_of_ble_eq_true (by first | rfl | decide)⟩).run) (fun r_71 hr_71 => ?_)
    subst hr_71
    exact W.iret (v := (oo v)) hx hb hr (fun T9 hT9 hW9 => ⟨_, rfl, (by (simp [on1, k_11_3, oN_t h_v]) <;> first | rfl | omega), hT9⟩) (fun q h => by cases h) dX12_sentence_74
  refine lv_tableOut (tgt := 75) hx hb dX12_sentence_11 (by have z0 := sw_ne k_11_0 (i := 0) rfl; have z1 := sw_ne k_11_1 (i := 1) rfl; have z2 := sw_ne k_11_2 (i := 2) rfl; have z3 := sw_ne k_11_3 (i := 3) rfl; show _ ∨ _; omega) (by decide) ?_
  refine lv_iconst (v := (-1)) hx hb dX12_sentence_75 (by decide +kernel) ?_
  exact W.iret (v := (-1)) hx hb hr (fun T9 hT9 hW9 => ⟨_, rfl, (by (simp [on1, k_11_0, k_11_1, k_11_2, k_11_3, oN_t h_v]) <;> first | rfl | omega), hT9⟩) (fun q h => by cases h) dX12_sentence_76
set_option maxHeartbeats 4000000 in
set_option maxRecDepth 100000 in
theorem c_X12_denier (l : Launch) (dC : Nat → ClassId) (dI : Nat → Nat → Nat) (cI cD cR : ClassId) (y as ai ar am ak ao az ae aq af : Nat) (hi : Bool) (th : Int32) (po ba en an aw ax ap : Nat) (se : Int32) (n d t day al : Nat) (nd : Nat → Nat) (bb oo : Nat → Int32) (K F kn : Nat → Nat) (x w : Int32) (hn : n ≤ 9) (hd : d ≤ 7) (ht : t < 512) (hal : al < 128) (hday : day < 2 ^ 30) (gnd : ∀ i, nd i < 512) (gkn : ∀ j, kn j < 512) (gK : ∀ j, K j < 8) (gF : ∀ j, F j < 10) : Met l yX12_denier wsX12_denier ({ frames := 2, cells := 0, slots := 0, locals := 46 }) (pcR dC dI cI cD cR [.ref y, .int x, .int w] (fun H => va_P (dC, dI) vwCl ([(y, .inr (12, [.ref as, .ref ai, .ref ar, .ref am, .ref ak, .ref ao, .ref az, .ref ae, .ref aq, .ref af, .int (bI hi), .int th, .int (nI po), .int (nI ba), .int (nI en), .ref an, .ref aw, .ref ax, .ref ap, .int se]))] ++ [(as, .inl (cI, 53, .inl (sF n d t day al nd bb oo K F kn)))]) H)) (vp_Si (fun r => r = (denR d al kn K F x w))) 0 0 (fun _ => False) := by
  refine Met.ofW (cc := cX12_denier) (maxL := 3) (ret := (some .int)) (by decide) rfl ?_
  intro p e s m args below meth c s₁ B hml hv
  obtain ⟨rfl, hH0, hCX⟩ := hv
  have hx := B.exec
  have hb := B.bytes
  have hr := B.returns
  have hts := atoms_spec (ws := wsX12_denier) B.pre
  have hown : s.vm.findClass RX12 = some m.cls := findClass_of_methodNamed B.named
  have hlocks := B.notSynchronized
  have hK := hCX.1
  have hP := hH0
  have hl := lv_entry ([.ref y, .int x, .int w]) (n := 3) (Nat.le_of_ble_eq_true rfl)
  rw [lg_entry_eq]
  generalize (lg_sl ([.ref y, .int x, .int w]) ++ List.replicate (3 - (lg_sl ([.ref y, .int x, .int w])).length) Slot.unset).toArray = ls at hl ⊢
  have hl : lv_has ls 3 [(0, .ref y), (1, .int x), (2, .int w)] := hl
  rcases okI_or x (n := d) (by omega) with hb_x | ⟨v, h_v, rfl⟩
  · refine lv_aload_n hx hb dX12_denier_0 rfl (lv_at hl 0 rfl) ?_
    refine lv_iload_n hx hb dX12_denier_1 rfl (lv_at hl 1 rfl) ?_
    refine vp_callSi ((va_runV (As := [.int x]) (rest := []) ⟨hx, hb, hml, hown, hts⟩ (c_X12_isDenier_f l dC dI cI cD cR y as ai ar am ak ao az ae aq af hi th po ba en an aw ax ap se n d t day al nd bb oo K F kn x (by first | omega | assumption | exact gnd _ | exact gkn _ | exact Nat.lt_trans (gkn _) (by decide) | exact Nat.lt_trans (gnd _) (by decide) | exact Nat.lt_of_le_of_lt (pcN_le _) (by decide)) (by first | omega | assumption | exact gnd _ | exact gkn _ | exact Nat.lt_trans (gkn _) (by decide) | exact Nat.lt_trans (gnd _) (by decide) | exact Nat.lt_of_le_of_lt (pcN_le _) (by decide)) (by first | omega | assumption | exact gnd _ | exact gkn _ | exact Nat.lt_trans (gkn _) (by decide) | exact Nat.lt_trans (gnd _) (by decide) | exact Nat.lt_of_le_of_lt (pcN_le _) (by decide)) (by first | omega | assumption | exact gnd _ | exact gkn _ | exact Nat.lt_trans (gkn _) (by decide) | exact Nat.lt_trans (gnd _) (by decide) | exact Nat.lt_of_le_of_lt (pcN_le _) (by decide)) (by first | omega | assumption | exact gnd _ | exact gkn _ | exact Nat.lt_trans (gkn _) (by decide) | exact Nat.lt_trans (gnd _) (by decide) | exact Nat.lt_of_le_of_lt (pcN_le _) (by decide)) gnd gkn gK gF (by first | omega | assumption | exact gnd _ | exact gkn _ | exact Nat.lt_trans (gkn _) (by decide) | exact Nat.lt_trans (gnd _) (by decide) | exact Nat.lt_of_le_of_lt (pcN_le _) (by decide))) (cwV 1 hts gX12_denier_X12_isDenier rfl rfl rfl (by decide +kernel) ⟨Nat.le_of_ble_eq_true rfl, Nat.le_of_ble_eq_true rfl⟩) (preV_R hCX (va_recv hK hP (ci := 12) (q0 := 0) rfl rfl) (hP)) rfl rfl hl.1 rfl (lv_room (Nat.le_of_ble_eq_true rfl)) dX12_denier_2 ⟨Nat.le_of_ble_eq_true (by first | rfl | decide), Nat.le_of_ble_eq_true (by first | rfl | decide)⟩).run) (fun r_2 hr_2 => ?_)
    subst hr_2
    refine lv_if_ne (tgt := 10) hx hb dX12_denier_5 (by decide) (fun z => absurd z (by decide +kernel)) (fun _ => ?_)
    refine lv_iconst (v := (-1)) hx hb dX12_denier_8 (by decide +kernel) ?_
    exact W.iret (v := (-1)) hx hb hr (fun T9 hT9 hW9 => ⟨_, rfl, (by (simp [denR, on1, oN_f hb_x]) <;> first | rfl | omega), hT9⟩) (fun q h => by cases h) dX12_denier_9
  refine lv_aload_n hx hb dX12_denier_0 rfl (lv_at hl 0 rfl) ?_
  refine lv_iload_n hx hb dX12_denier_1 rfl (lv_at hl 1 rfl) ?_
  refine vp_callSi ((va_runV (As := [.int (nI v)]) (rest := []) ⟨hx, hb, hml, hown, hts⟩ (c_X12_isDenier_t l dC dI cI cD cR y as ai ar am ak ao az ae aq af hi th po ba en an aw ax ap se n d t day al nd bb oo K F kn v (by first | omega | assumption | exact gnd _ | exact gkn _ | exact Nat.lt_trans (gkn _) (by decide) | exact Nat.lt_trans (gnd _) (by decide) | exact Nat.lt_of_le_of_lt (pcN_le _) (by decide)) (by first | omega | assumption | exact gnd _ | exact gkn _ | exact Nat.lt_trans (gkn _) (by decide) | exact Nat.lt_trans (gnd _) (by decide) | exact Nat.lt_of_le_of_lt (pcN_le _) (by decide)) (by first | omega | assumption | exact gnd _ | exact gkn _ | exact Nat.lt_trans (gkn _) (by decide) | exact Nat.lt_trans (gnd _) (by decide) | exact Nat.lt_of_le_of_lt (pcN_le _) (by decide)) (by first | omega | assumption | exact gnd _ | exact gkn _ | exact Nat.lt_trans (gkn _) (by decide) | exact Nat.lt_trans (gnd _) (by decide) | exact Nat.lt_of_le_of_lt (pcN_le _) (by decide)) (by first | omega | assumption | exact gnd _ | exact gkn _ | exact Nat.lt_trans (gkn _) (by decide) | exact Nat.lt_trans (gnd _) (by decide) | exact Nat.lt_of_le_of_lt (pcN_le _) (by decide)) gnd gkn gK gF (by first | omega | assumption | exact gnd _ | exact gkn _ | exact Nat.lt_trans (gkn _) (by decide) | exact Nat.lt_trans (gnd _) (by decide) | exact Nat.lt_of_le_of_lt (pcN_le _) (by decide))) (cwV 1 hts gX12_denier_X12_isDenier rfl rfl rfl (by decide +kernel) ⟨Nat.le_of_ble_eq_true rfl, Nat.le_of_ble_eq_true rfl⟩) (preV_R hCX (va_recv hK hP (ci := 12) (q0 := 0) rfl rfl) (hP)) rfl rfl hl.1 rfl (lv_room (Nat.le_of_ble_eq_true rfl)) dX12_denier_2 ⟨Nat.le_of_ble_eq_true (by first | rfl | decide), Nat.le_of_ble_eq_true (by first | rfl | decide)⟩).run) (fun r_2 hr_2 => ?_)
  subst hr_2
  refine lv_if_ne (tgt := 10) hx hb dX12_denier_5 (by decide) (fun _ => ?_) (fun z => absurd z (by decide +kernel))
  refine lv_iload_n hx hb dX12_denier_10 rfl (lv_at hl 2 rfl) ?_
  by_cases k_11_0 : w = 0
  · refine ho_tope (y := 0) k_11_0 ?_
    refine lv_tableIn (tgt := 44) hx hb dX12_denier_11 (by decide +kernel) (by decide +kernel) (off := 33) (by decide +kernel) (by decide) ?_
    refine lv_aload_n hx hb dX12_denier_44 rfl (lv_at hl 0 rfl) ?_
    refine lv_iload_n hx hb dX12_denier_45 rfl (lv_at hl 1 rfl) ?_
    refine lv_iload_n hx hb dX12_denier_46 rfl (lv_at hl 2 rfl) ?_
    refine ho_tope (y := nI 0) k_11_0 ?_
    refine vp_callSi ((va_runV (As := [.int (nI v), .int (nI 0)]) (rest := []) ⟨hx, hb, hml, hown, hts⟩ (c_X12_get_0 l dC dI cI cD cR y as ai ar am ak ao az ae aq af hi th po ba en an aw ax ap se n d t day al nd bb oo K F kn v (by first | omega | assumption | exact gnd _ | exact gkn _ | exact Nat.lt_trans (gkn _) (by decide) | exact Nat.lt_trans (gnd _) (by decide) | exact Nat.lt_of_le_of_lt (pcN_le _) (by decide)) (by first | omega | assumption | exact gnd _ | exact gkn _ | exact Nat.lt_trans (gkn _) (by decide) | exact Nat.lt_trans (gnd _) (by decide) | exact Nat.lt_of_le_of_lt (pcN_le _) (by decide)) (by first | omega | assumption | exact gnd _ | exact gkn _ | exact Nat.lt_trans (gkn _) (by decide) | exact Nat.lt_trans (gnd _) (by decide) | exact Nat.lt_of_le_of_lt (pcN_le _) (by decide)) (by first | omega | assumption | exact gnd _ | exact gkn _ | exact Nat.lt_trans (gkn _) (by decide) | exact Nat.lt_trans (gnd _) (by decide) | exact Nat.lt_of_le_of_lt (pcN_le _) (by decide)) (by first | omega | assumption | exact gnd _ | exact gkn _ | exact Nat.lt_trans (gkn _) (by decide) | exact Nat.lt_trans (gnd _) (by decide) | exact Nat.lt_of_le_of_lt (pcN_le _) (by decide)) gnd gkn gK gF (by first | omega | assumption | exact gnd _ | exact gkn _ | exact Nat.lt_trans (gkn _) (by decide) | exact Nat.lt_trans (gnd _) (by decide) | exact Nat.lt_of_le_of_lt (pcN_le _) (by decide))) (cwV 2 hts gX12_denier_X12_get rfl rfl rfl (by decide +kernel) ⟨Nat.le_of_ble_eq_true rfl, Nat.le_of_ble_eq_true rfl⟩) (preV_R hCX (va_recv hK hP (ci := 12) (q0 := 0) rfl rfl) (hP)) rfl rfl hl.1 rfl (lv_room (Nat.le_of_ble_eq_true rfl)) dX12_denier_47 ⟨Nat.le_of_ble_eq_true (by first | rfl | decide), Nat.le_of_ble_eq_true (by first | rfl | decide)⟩).run) (fun r_47 hr_47 => ?_)
    subst hr_47
    exact W.iret (v := nI (K v)) hx hb hr (fun T9 hT9 hW9 => ⟨_, rfl, (by (simp [denR, on1, k_11_0, oN_t h_v]) <;> first | rfl | omega), hT9⟩) (fun q h => by cases h) dX12_denier_50
  by_cases k_11_1 : w = 1
  · refine ho_tope (y := 1) k_11_1 ?_
    refine lv_tableIn (tgt := 44) hx hb dX12_denier_11 (by decide +kernel) (by decide +kernel) (off := 33) (by decide +kernel) (by decide) ?_
    refine lv_aload_n hx hb dX12_denier_44 rfl (lv_at hl 0 rfl) ?_
    refine lv_iload_n hx hb dX12_denier_45 rfl (lv_at hl 1 rfl) ?_
    refine lv_iload_n hx hb dX12_denier_46 rfl (lv_at hl 2 rfl) ?_
    refine ho_tope (y := nI 1) k_11_1 ?_
    refine vp_callSi ((va_runV (As := [.int (nI v), .int (nI 1)]) (rest := []) ⟨hx, hb, hml, hown, hts⟩ (c_X12_get_1 l dC dI cI cD cR y as ai ar am ak ao az ae aq af hi th po ba en an aw ax ap se n d t day al nd bb oo K F kn v (by first | omega | assumption | exact gnd _ | exact gkn _ | exact Nat.lt_trans (gkn _) (by decide) | exact Nat.lt_trans (gnd _) (by decide) | exact Nat.lt_of_le_of_lt (pcN_le _) (by decide)) (by first | omega | assumption | exact gnd _ | exact gkn _ | exact Nat.lt_trans (gkn _) (by decide) | exact Nat.lt_trans (gnd _) (by decide) | exact Nat.lt_of_le_of_lt (pcN_le _) (by decide)) (by first | omega | assumption | exact gnd _ | exact gkn _ | exact Nat.lt_trans (gkn _) (by decide) | exact Nat.lt_trans (gnd _) (by decide) | exact Nat.lt_of_le_of_lt (pcN_le _) (by decide)) (by first | omega | assumption | exact gnd _ | exact gkn _ | exact Nat.lt_trans (gkn _) (by decide) | exact Nat.lt_trans (gnd _) (by decide) | exact Nat.lt_of_le_of_lt (pcN_le _) (by decide)) (by first | omega | assumption | exact gnd _ | exact gkn _ | exact Nat.lt_trans (gkn _) (by decide) | exact Nat.lt_trans (gnd _) (by decide) | exact Nat.lt_of_le_of_lt (pcN_le _) (by decide)) gnd gkn gK gF (by first | omega | assumption | exact gnd _ | exact gkn _ | exact Nat.lt_trans (gkn _) (by decide) | exact Nat.lt_trans (gnd _) (by decide) | exact Nat.lt_of_le_of_lt (pcN_le _) (by decide))) (cwV 2 hts gX12_denier_X12_get rfl rfl rfl (by decide +kernel) ⟨Nat.le_of_ble_eq_true rfl, Nat.le_of_ble_eq_true rfl⟩) (preV_R hCX (va_recv hK hP (ci := 12) (q0 := 0) rfl rfl) (hP)) rfl rfl hl.1 rfl (lv_room (Nat.le_of_ble_eq_true rfl)) dX12_denier_47 ⟨Nat.le_of_ble_eq_true (by first | rfl | decide), Nat.le_of_ble_eq_true (by first | rfl | decide)⟩).run) (fun r_47 hr_47 => ?_)
    subst hr_47
    exact W.iret (v := nI (F v)) hx hb hr (fun T9 hT9 hW9 => ⟨_, rfl, (by (simp [denR, on1, k_11_1, oN_t h_v]) <;> first | rfl | omega), hT9⟩) (fun q h => by cases h) dX12_denier_50
  by_cases k_11_2 : w = 2
  · refine ho_tope (y := 2) k_11_2 ?_
    refine lv_tableIn (tgt := 44) hx hb dX12_denier_11 (by decide +kernel) (by decide +kernel) (off := 33) (by decide +kernel) (by decide) ?_
    refine lv_aload_n hx hb dX12_denier_44 rfl (lv_at hl 0 rfl) ?_
    refine lv_iload_n hx hb dX12_denier_45 rfl (lv_at hl 1 rfl) ?_
    refine lv_iload_n hx hb dX12_denier_46 rfl (lv_at hl 2 rfl) ?_
    refine ho_tope (y := nI 2) k_11_2 ?_
    refine vp_callSi ((va_runV (As := [.int (nI v), .int (nI 2)]) (rest := []) ⟨hx, hb, hml, hown, hts⟩ (c_X12_get_2 l dC dI cI cD cR y as ai ar am ak ao az ae aq af hi th po ba en an aw ax ap se n d t day al nd bb oo K F kn v (by first | omega | assumption | exact gnd _ | exact gkn _ | exact Nat.lt_trans (gkn _) (by decide) | exact Nat.lt_trans (gnd _) (by decide) | exact Nat.lt_of_le_of_lt (pcN_le _) (by decide)) (by first | omega | assumption | exact gnd _ | exact gkn _ | exact Nat.lt_trans (gkn _) (by decide) | exact Nat.lt_trans (gnd _) (by decide) | exact Nat.lt_of_le_of_lt (pcN_le _) (by decide)) (by first | omega | assumption | exact gnd _ | exact gkn _ | exact Nat.lt_trans (gkn _) (by decide) | exact Nat.lt_trans (gnd _) (by decide) | exact Nat.lt_of_le_of_lt (pcN_le _) (by decide)) (by first | omega | assumption | exact gnd _ | exact gkn _ | exact Nat.lt_trans (gkn _) (by decide) | exact Nat.lt_trans (gnd _) (by decide) | exact Nat.lt_of_le_of_lt (pcN_le _) (by decide)) (by first | omega | assumption | exact gnd _ | exact gkn _ | exact Nat.lt_trans (gkn _) (by decide) | exact Nat.lt_trans (gnd _) (by decide) | exact Nat.lt_of_le_of_lt (pcN_le _) (by decide)) gnd gkn gK gF (by first | omega | assumption | exact gnd _ | exact gkn _ | exact Nat.lt_trans (gkn _) (by decide) | exact Nat.lt_trans (gnd _) (by decide) | exact Nat.lt_of_le_of_lt (pcN_le _) (by decide))) (cwV 2 hts gX12_denier_X12_get rfl rfl rfl (by decide +kernel) ⟨Nat.le_of_ble_eq_true rfl, Nat.le_of_ble_eq_true rfl⟩) (preV_R hCX (va_recv hK hP (ci := 12) (q0 := 0) rfl rfl) (hP)) rfl rfl hl.1 rfl (lv_room (Nat.le_of_ble_eq_true rfl)) dX12_denier_47 ⟨Nat.le_of_ble_eq_true (by first | rfl | decide), Nat.le_of_ble_eq_true (by first | rfl | decide)⟩).run) (fun r_47 hr_47 => ?_)
    subst hr_47
    exact W.iret (v := nI (kn v)) hx hb hr (fun T9 hT9 hW9 => ⟨_, rfl, (by (simp [denR, on1, k_11_2, oN_t h_v]) <;> first | rfl | omega), hT9⟩) (fun q h => by cases h) dX12_denier_50
  by_cases k_11_3 : w = 3
  · refine ho_tope (y := 3) k_11_3 ?_
    refine lv_tableIn (tgt := 51) hx hb dX12_denier_11 (by decide +kernel) (by decide +kernel) (off := 40) (by decide +kernel) (by decide) ?_
    refine lv_aload_n hx hb dX12_denier_51 rfl (lv_at hl 0 rfl) ?_
    refine lv_iload_n hx hb dX12_denier_52 rfl (lv_at hl 1 rfl) ?_
    refine vp_callSi ((va_runV (As := [.int (nI v)]) (rest := []) ⟨hx, hb, hml, hown, hts⟩ (c_X12_isAlive l dC dI cI cD cR y as ai ar am ak ao az ae aq af hi th po ba en an aw ax ap se n d t day al nd bb oo K F kn v (by first | omega | assumption | exact gnd _ | exact gkn _ | exact Nat.lt_trans (gkn _) (by decide) | exact Nat.lt_trans (gnd _) (by decide) | exact Nat.lt_of_le_of_lt (pcN_le _) (by decide)) (by first | omega | assumption | exact gnd _ | exact gkn _ | exact Nat.lt_trans (gkn _) (by decide) | exact Nat.lt_trans (gnd _) (by decide) | exact Nat.lt_of_le_of_lt (pcN_le _) (by decide)) (by first | omega | assumption | exact gnd _ | exact gkn _ | exact Nat.lt_trans (gkn _) (by decide) | exact Nat.lt_trans (gnd _) (by decide) | exact Nat.lt_of_le_of_lt (pcN_le _) (by decide)) (by first | omega | assumption | exact gnd _ | exact gkn _ | exact Nat.lt_trans (gkn _) (by decide) | exact Nat.lt_trans (gnd _) (by decide) | exact Nat.lt_of_le_of_lt (pcN_le _) (by decide)) (by first | omega | assumption | exact gnd _ | exact gkn _ | exact Nat.lt_trans (gkn _) (by decide) | exact Nat.lt_trans (gnd _) (by decide) | exact Nat.lt_of_le_of_lt (pcN_le _) (by decide)) gnd gkn gK gF (by first | omega | assumption | exact gnd _ | exact gkn _ | exact Nat.lt_trans (gkn _) (by decide) | exact Nat.lt_trans (gnd _) (by decide) | exact Nat.lt_of_le_of_lt (pcN_le _) (by decide))) (cwV 1 hts gX12_denier_X12_isAlive rfl rfl rfl (by decide +kernel) ⟨Nat.le_of_ble_eq_true rfl, Nat.le_of_ble_eq_true rfl⟩) (preV_R hCX (va_recv hK hP (ci := 12) (q0 := 0) rfl rfl) (hP)) rfl rfl hl.1 rfl (lv_room (Nat.le_of_ble_eq_true rfl)) dX12_denier_53 ⟨Nat.le_of_ble_eq_true (by first | rfl | decide), Nat.le_of_ble_eq_true (by first | rfl | decide)⟩).run) (fun r_53 hr_53 => ?_)
    subst hr_53
    refine ho_beq (tgt := 63) hx hb dX12_denier_56 (by decide) (fun c_56 => ?_) (fun c_56 => ?_)
    · refine lv_iconst (v := nI 0) hx hb dX12_denier_63 (by decide +kernel) ?_
      exact W.iret (v := nI 0) hx hb hr (fun T9 hT9 hW9 => ⟨_, rfl, (by (simp [denR, on1, k_11_3, c_56, oN_t h_v]) <;> first | rfl | omega), hT9⟩) (fun q h => by cases h) dX12_denier_64
    refine lv_iconst (v := nI 1) hx hb dX12_denier_59 (by decide +kernel) ?_
    refine lv_goto (tgt := 64) hx hb dX12_denier_60 (by decide) ?_
    exact W.iret (v := nI 1) hx hb hr (fun T9 hT9 hW9 => ⟨_, rfl, (by (simp [denR, on1, k_11_3, c_56, oN_t h_v]) <;> first | rfl | omega), hT9⟩) (fun q h => by cases h) dX12_denier_64
  by_cases k_11_4 : w = 4
  · refine ho_tope (y := 4) k_11_4 ?_
    refine lv_tableIn (tgt := 65) hx hb dX12_denier_11 (by decide +kernel) (by decide +kernel) (off := 54) (by decide +kernel) (by decide) ?_
    refine lv_aload_n hx hb dX12_denier_65 rfl (lv_at hl 0 rfl) ?_
    refine lv_iload_n hx hb dX12_denier_66 rfl (lv_at hl 1 rfl) ?_
    refine vp_callSi ((va_runV (As := [.int (nI v)]) (rest := []) ⟨hx, hb, hml, hown, hts⟩ (c_X12_priceOf l dC dI cI cD cR y as ai ar am ak ao az ae aq af hi th po ba en an aw ax ap se n d t day al nd bb oo K F kn v (by first | omega | assumption | exact gnd _ | exact gkn _ | exact Nat.lt_trans (gkn _) (by decide) | exact Nat.lt_trans (gnd _) (by decide) | exact Nat.lt_of_le_of_lt (pcN_le _) (by decide)) (by first | omega | assumption | exact gnd _ | exact gkn _ | exact Nat.lt_trans (gkn _) (by decide) | exact Nat.lt_trans (gnd _) (by decide) | exact Nat.lt_of_le_of_lt (pcN_le _) (by decide)) (by first | omega | assumption | exact gnd _ | exact gkn _ | exact Nat.lt_trans (gkn _) (by decide) | exact Nat.lt_trans (gnd _) (by decide) | exact Nat.lt_of_le_of_lt (pcN_le _) (by decide)) (by first | omega | assumption | exact gnd _ | exact gkn _ | exact Nat.lt_trans (gkn _) (by decide) | exact Nat.lt_trans (gnd _) (by decide) | exact Nat.lt_of_le_of_lt (pcN_le _) (by decide)) (by first | omega | assumption | exact gnd _ | exact gkn _ | exact Nat.lt_trans (gkn _) (by decide) | exact Nat.lt_trans (gnd _) (by decide) | exact Nat.lt_of_le_of_lt (pcN_le _) (by decide)) gnd gkn gK gF (by first | omega | assumption | exact gnd _ | exact gkn _ | exact Nat.lt_trans (gkn _) (by decide) | exact Nat.lt_trans (gnd _) (by decide) | exact Nat.lt_of_le_of_lt (pcN_le _) (by decide))) (cwV 1 hts gX12_denier_X12_priceOf rfl rfl rfl (by decide +kernel) ⟨Nat.le_of_ble_eq_true rfl, Nat.le_of_ble_eq_true rfl⟩) (preV_R hCX (va_recv hK hP (ci := 12) (q0 := 0) rfl rfl) (hP)) rfl rfl hl.1 rfl (lv_room (Nat.le_of_ble_eq_true rfl)) dX12_denier_67 ⟨Nat.le_of_ble_eq_true (by first | rfl | decide), Nat.le_of_ble_eq_true (by first | rfl | decide)⟩).run) (fun r_67 hr_67 => ?_)
    subst hr_67
    exact W.iret (v := nI (asN (K v) (F v))) hx hb hr (fun T9 hT9 hW9 => ⟨_, rfl, (by (simp [denR, on1, k_11_4, oN_t h_v]) <;> first | rfl | omega), hT9⟩) (fun q h => by cases h) dX12_denier_70
  refine lv_tableOut (tgt := 71) hx hb dX12_denier_11 (by have z0 := sw_ne k_11_0 (i := 0) rfl; have z1 := sw_ne k_11_1 (i := 1) rfl; have z2 := sw_ne k_11_2 (i := 2) rfl; have z3 := sw_ne k_11_3 (i := 3) rfl; have z4 := sw_ne k_11_4 (i := 4) rfl; show _ ∨ _; omega) (by decide) ?_
  refine lv_iconst (v := (-1)) hx hb dX12_denier_71 (by decide +kernel) ?_
  exact W.iret (v := (-1)) hx hb hr (fun T9 hT9 hW9 => ⟨_, rfl, (by (simp [denR, on1, k_11_0, k_11_1, k_11_2, k_11_3, k_11_4, oN_t h_v]) <;> first | rfl | omega), hT9⟩) (fun q h => by cases h) dX12_denier_72
set_option maxHeartbeats 4000000 in
set_option maxRecDepth 100000 in
theorem c_X12_may (l : Launch) (dC : Nat → ClassId) (dI : Nat → Nat → Nat) (cI cD cR : ClassId) (y as ai ar am ak ao az ae aq af : Nat) (hi : Bool) (th : Int32) (po ba en an aw ax ap : Nat) (se : Int32) (n d t day al : Nat) (nd : Nat → Nat) (bb oo : Nat → Int32) (K F kn : Nat → Nat) (x : Int32) (hn : n ≤ 9) (hd : d ≤ 7) (ht : t < 512) (hal : al < 128) (hday : day < 2 ^ 30) (gnd : ∀ i, nd i < 512) (gkn : ∀ j, kn j < 512) (gK : ∀ j, K j < 8) (gF : ∀ j, F j < 10) : Met l yX12_may wsX12_may ({ frames := 4, cells := 0, slots := 0, locals := 91 }) (pcR dC dI cI cD cR [.ref y, .int x] (fun H => va_P (dC, dI) vwCl ([(y, .inr (12, [.ref as, .ref ai, .ref ar, .ref am, .ref ak, .ref ao, .ref az, .ref ae, .ref aq, .ref af, .int (bI hi), .int th, .int (nI po), .int (nI ba), .int (nI en), .ref an, .ref aw, .ref ax, .ref ap, .int se]))] ++ [(as, .inl (cI, 53, .inl (sF n d t day al nd bb oo K F kn)))]) H)) (vp_Si (fun r => r = (on1 (oN x d) (fun j => nI (orF (fun s9 => mnB t al nd K F kn j s9) n)) (-1)))) 0 0 (fun _ => False) := by
  refine Met.ofW (cc := cX12_may) (maxL := 4) (ret := (some .int)) (by decide) rfl ?_
  intro p e s m args below meth c s₁ B hml hv
  obtain ⟨rfl, hH0, hCX⟩ := hv
  have hx := B.exec
  have hb := B.bytes
  have hr := B.returns
  have hts := atoms_spec (ws := wsX12_may) B.pre
  have hown : s.vm.findClass RX12 = some m.cls := findClass_of_methodNamed B.named
  have hlocks := B.notSynchronized
  have hK := hCX.1
  have hP := hH0
  have hl := lv_entry ([.ref y, .int x]) (n := 4) (Nat.le_of_ble_eq_true rfl)
  rw [lg_entry_eq]
  generalize (lg_sl ([.ref y, .int x]) ++ List.replicate (4 - (lg_sl ([.ref y, .int x])).length) Slot.unset).toArray = ls at hl ⊢
  have hl : lv_has ls 4 [(0, .ref y), (1, .int x)] := hl
  rcases okI_or x (n := d) (by omega) with hb_x | ⟨j, h_j, rfl⟩
  · refine lv_aload_n hx hb dX12_may_0 rfl (lv_at hl 0 rfl) ?_
    refine lv_iload_n hx hb dX12_may_1 rfl (lv_at hl 1 rfl) ?_
    refine vp_callSi ((va_runV (As := [.int x]) (rest := []) ⟨hx, hb, hml, hown, hts⟩ (c_X12_isDenier_f l dC dI cI cD cR y as ai ar am ak ao az ae aq af hi th po ba en an aw ax ap se n d t day al nd bb oo K F kn x (by first | omega | assumption | exact gnd _ | exact gkn _ | exact Nat.lt_trans (gkn _) (by decide) | exact Nat.lt_trans (gnd _) (by decide) | exact Nat.lt_of_le_of_lt (pcN_le _) (by decide)) (by first | omega | assumption | exact gnd _ | exact gkn _ | exact Nat.lt_trans (gkn _) (by decide) | exact Nat.lt_trans (gnd _) (by decide) | exact Nat.lt_of_le_of_lt (pcN_le _) (by decide)) (by first | omega | assumption | exact gnd _ | exact gkn _ | exact Nat.lt_trans (gkn _) (by decide) | exact Nat.lt_trans (gnd _) (by decide) | exact Nat.lt_of_le_of_lt (pcN_le _) (by decide)) (by first | omega | assumption | exact gnd _ | exact gkn _ | exact Nat.lt_trans (gkn _) (by decide) | exact Nat.lt_trans (gnd _) (by decide) | exact Nat.lt_of_le_of_lt (pcN_le _) (by decide)) (by first | omega | assumption | exact gnd _ | exact gkn _ | exact Nat.lt_trans (gkn _) (by decide) | exact Nat.lt_trans (gnd _) (by decide) | exact Nat.lt_of_le_of_lt (pcN_le _) (by decide)) gnd gkn gK gF (by first | omega | assumption | exact gnd _ | exact gkn _ | exact Nat.lt_trans (gkn _) (by decide) | exact Nat.lt_trans (gnd _) (by decide) | exact Nat.lt_of_le_of_lt (pcN_le _) (by decide))) (cwV 1 hts gX12_may_X12_isDenier rfl rfl rfl (by decide +kernel) ⟨Nat.le_of_ble_eq_true rfl, Nat.le_of_ble_eq_true rfl⟩) (preV_R hCX (va_recv hK hP (ci := 12) (q0 := 0) rfl rfl) (hP)) rfl rfl hl.1 rfl (lv_room (Nat.le_of_ble_eq_true rfl)) dX12_may_2 ⟨Nat.le_of_ble_eq_true (by first | rfl | decide), Nat.le_of_ble_eq_true (by first | rfl | decide)⟩).run) (fun r_2 hr_2 => ?_)
    subst hr_2
    refine lv_if_ne (tgt := 10) hx hb dX12_may_5 (by decide) (fun z => absurd z (by decide +kernel)) (fun _ => ?_)
    refine lv_iconst (v := (-1)) hx hb dX12_may_8 (by decide +kernel) ?_
    exact W.iret (v := (-1)) hx hb hr (fun T9 hT9 hW9 => ⟨_, rfl, (by (simp [on1, oN_f hb_x]) <;> first | rfl | omega), hT9⟩) (fun q h => by cases h) dX12_may_9
  refine lv_aload_n hx hb dX12_may_0 rfl (lv_at hl 0 rfl) ?_
  refine lv_iload_n hx hb dX12_may_1 rfl (lv_at hl 1 rfl) ?_
  refine vp_callSi ((va_runV (As := [.int (nI j)]) (rest := []) ⟨hx, hb, hml, hown, hts⟩ (c_X12_isDenier_t l dC dI cI cD cR y as ai ar am ak ao az ae aq af hi th po ba en an aw ax ap se n d t day al nd bb oo K F kn j (by first | omega | assumption | exact gnd _ | exact gkn _ | exact Nat.lt_trans (gkn _) (by decide) | exact Nat.lt_trans (gnd _) (by decide) | exact Nat.lt_of_le_of_lt (pcN_le _) (by decide)) (by first | omega | assumption | exact gnd _ | exact gkn _ | exact Nat.lt_trans (gkn _) (by decide) | exact Nat.lt_trans (gnd _) (by decide) | exact Nat.lt_of_le_of_lt (pcN_le _) (by decide)) (by first | omega | assumption | exact gnd _ | exact gkn _ | exact Nat.lt_trans (gkn _) (by decide) | exact Nat.lt_trans (gnd _) (by decide) | exact Nat.lt_of_le_of_lt (pcN_le _) (by decide)) (by first | omega | assumption | exact gnd _ | exact gkn _ | exact Nat.lt_trans (gkn _) (by decide) | exact Nat.lt_trans (gnd _) (by decide) | exact Nat.lt_of_le_of_lt (pcN_le _) (by decide)) (by first | omega | assumption | exact gnd _ | exact gkn _ | exact Nat.lt_trans (gkn _) (by decide) | exact Nat.lt_trans (gnd _) (by decide) | exact Nat.lt_of_le_of_lt (pcN_le _) (by decide)) gnd gkn gK gF (by first | omega | assumption | exact gnd _ | exact gkn _ | exact Nat.lt_trans (gkn _) (by decide) | exact Nat.lt_trans (gnd _) (by decide) | exact Nat.lt_of_le_of_lt (pcN_le _) (by decide))) (cwV 1 hts gX12_may_X12_isDenier rfl rfl rfl (by decide +kernel) ⟨Nat.le_of_ble_eq_true rfl, Nat.le_of_ble_eq_true rfl⟩) (preV_R hCX (va_recv hK hP (ci := 12) (q0 := 0) rfl rfl) (hP)) rfl rfl hl.1 rfl (lv_room (Nat.le_of_ble_eq_true rfl)) dX12_may_2 ⟨Nat.le_of_ble_eq_true (by first | rfl | decide), Nat.le_of_ble_eq_true (by first | rfl | decide)⟩).run) (fun r_2 hr_2 => ?_)
  subst hr_2
  refine lv_if_ne (tgt := 10) hx hb dX12_may_5 (by decide) (fun _ => ?_) (fun z => absurd z (by decide +kernel))
  refine lv_iconst (v := nI 0) hx hb dX12_may_10 (by decide +kernel) ?_
  refine lv_istore_n (lv' := [(2, .int (nI 0)), (0, .ref y), (1, .int (nI j))]) hx hb dX12_may_11 rfl hl (by decide) rfl (fun ls hl => ?_)
  refine lv_iconst (v := nI 0) hx hb dX12_may_12 (by decide +kernel) ?_
  refine lv_istore_n (lv' := [(3, .int (nI 0)), (2, .int (nI 0)), (0, .ref y), (1, .int (nI j))]) hx hb dX12_may_13 rfl hl (by decide) rfl (fun ls hl => ?_)
  refine ho_lp (T := Nat) 4 (fun x9 => [(3, .int (nI x9)), (2, .int (nI (orF (fun s9 => mnB t al nd K F kn j s9) x9))), (0, .ref y), (1, .int (nI j))]) (fun x9 => []) (fun x9 => (x9 ≤ n)) (fun x9 => n - x9) 0 (by omega) (lv_sub hl [0, 1, 2, 3] rfl) ?_
  intro fu14 i ls hI hm14 hl ih
  have hin := hI
  have hl : lv_has ls 4 [(3, .int (nI i)), (2, .int (nI (orF (fun s9 => mnB t al nd K F kn j s9) i))), (0, .ref y), (1, .int (nI j))] := hl
  have hin : i ≤ n := hin
  have hm14 : n - i < fu14 + 1 := hm14
  refine W.eq (g2 := F0 m 14 ls []) rfl ?_
  have ih14 := ih
  refine lv_iload_n hx hb dX12_may_14 rfl (lv_at hl 0 rfl) ?_
  refine lv_aload_n hx hb dX12_may_15 rfl (lv_at hl 2 rfl) ?_
  refine va_get (D := (dC, dI)) (ci := 12) (v := .ref as) (C := RX12) (T := TX12) (N := 20) hx hb hts (fun _ h => List.mem_cons_of_mem _ (List.mem_append_right _ h)) hown hK hP 0 rfl rfl 0 (by decide) (hts (.fieldLink RX12 9 "HoldsOnceDeniedModel" "s" "[I") (by decide +kernel)) (fun _ h9 => h9) rfl dX12_may_16 ?_
  refine lv_iconst (v := nI 0) hx hb dX12_may_19 (by decide +kernel) ?_
  refine ho_iald (v := nI n) hx hb hK hP 1 0 rfl rfl (by omega) (by first | decide | omega) rfl dX12_may_20 ?_
  refine ho_icmp_ge (tgt := 49) hx hb dX12_may_21 (by decide) (by omega) (by omega) (fun c_21 => ?_) (fun c_21 => ?_)
  · refine lv_iload_n hx hb dX12_may_49 rfl (lv_at hl 1 rfl) ?_
    exact W.iret (v := nI (orF (fun s9 => mnB t al nd K F kn j s9) i)) hx hb hr (fun T9 hT9 hW9 => ⟨_, rfl, (by rw [oN_t h_j, on1_s, show i = n by omega]), hT9⟩) (fun q h => by cases h) dX12_may_50
  refine lv_iload_n hx hb dX12_may_24 rfl (lv_at hl 1 rfl) ?_
  refine lv_aload_n hx hb dX12_may_25 rfl (lv_at hl 2 rfl) ?_
  refine lv_iload_n hx hb dX12_may_26 rfl (lv_at hl 3 rfl) ?_
  refine lv_iload_n hx hb dX12_may_27 rfl (lv_at hl 0 rfl) ?_
  refine vp_callSi ((va_runV (As := [.int (nI j), .int (nI i)]) (rest := [.int (nI (orF (fun s9 => mnB t al nd K F kn j s9) i))]) ⟨hx, hb, hml, hown, hts⟩ (c_X12_mayNow l dC dI cI cD cR y as ai ar am ak ao az ae aq af hi th po ba en an aw ax ap se n d t day al nd bb oo K F kn j i (by first | omega | assumption | exact gnd _ | exact gkn _ | exact Nat.lt_trans (gkn _) (by decide) | exact Nat.lt_trans (gnd _) (by decide) | exact Nat.lt_of_le_of_lt (pcN_le _) (by decide)) (by first | omega | assumption | exact gnd _ | exact gkn _ | exact Nat.lt_trans (gkn _) (by decide) | exact Nat.lt_trans (gnd _) (by decide) | exact Nat.lt_of_le_of_lt (pcN_le _) (by decide)) (by first | omega | assumption | exact gnd _ | exact gkn _ | exact Nat.lt_trans (gkn _) (by decide) | exact Nat.lt_trans (gnd _) (by decide) | exact Nat.lt_of_le_of_lt (pcN_le _) (by decide)) (by first | omega | assumption | exact gnd _ | exact gkn _ | exact Nat.lt_trans (gkn _) (by decide) | exact Nat.lt_trans (gnd _) (by decide) | exact Nat.lt_of_le_of_lt (pcN_le _) (by decide)) (by first | omega | assumption | exact gnd _ | exact gkn _ | exact Nat.lt_trans (gkn _) (by decide) | exact Nat.lt_trans (gnd _) (by decide) | exact Nat.lt_of_le_of_lt (pcN_le _) (by decide)) gnd gkn gK gF (by first | omega | assumption | exact gnd _ | exact gkn _ | exact Nat.lt_trans (gkn _) (by decide) | exact Nat.lt_trans (gnd _) (by decide) | exact Nat.lt_of_le_of_lt (pcN_le _) (by decide)) (by first | omega | assumption | exact gnd _ | exact gkn _ | exact Nat.lt_trans (gkn _) (by decide) | exact Nat.lt_trans (gnd _) (by decide) | exact Nat.lt_of_le_of_lt (pcN_le _) (by decide))) (cwV 2 hts gX12_may_X12_mayNow rfl rfl rfl (by decide +kernel) ⟨Nat.le_of_ble_eq_true rfl, Nat.le_of_ble_eq_true rfl⟩) (preV_R hCX (va_recv hK hP (ci := 12) (q0 := 0) rfl rfl) (hP)) rfl rfl hl.1 rfl (lv_room (Nat.le_of_ble_eq_true rfl)) dX12_may_28 ⟨Nat.le_of_ble_eq_true (by first | rfl | decide), Nat.le_of_ble_eq_true (by first | rfl | decide)⟩).run) (fun r_28 hr_28 => ?_)
  subst hr_28
  refine ho_beq (tgt := 40) hx hb dX12_may_31 (by decide) (fun c_31 => ?_) (fun c_31 => ?_)
  · refine lv_iconst (v := nI 0) hx hb dX12_may_40 (by decide +kernel) ?_
    refine ho_ior hx hb dX12_may_41 ?_
    refine lv_istore_n (lv' := [(2, .int (nI ((orF (fun s9 => mnB t al nd K F kn j s9) i) ||| 0))), (3, .int (nI i)), (0, .ref y), (1, .int (nI j))]) hx hb dX12_may_42 rfl hl (by decide) rfl (fun ls hl => ?_)
    refine ho_iinc (lv' := [(3, .int (nI (i + 1))), (2, .int (nI ((orF (fun s9 => mnB t al nd K F kn j s9) i) ||| 0))), (0, .ref y), (1, .int (nI j))]) (a := i) (b := 1) hx hb dX12_may_43 hl (k := 1) rfl rfl (by decide) rfl (fun ls hl => ?_)
    refine lv_goto (tgt := 14) hx hb dX12_may_46 (by decide) ?_
    have e9_2 : (orF (fun s9 => mnB t al nd K F kn j s9) i) ||| 0 = orF (fun s9 => mnB t al nd K F kn j s9) (i + 1) := by first | exact orF_t (by simp [c_31]) | exact orF_u (by simp [c_31])
    rw [e9_2] at hl
    exact ih14 (i + 1) _ (by omega) (show n - (i + 1) < fu14 from (by omega)) (lv_sub hl [0, 1, 2, 3] rfl)
  refine lv_iconst (v := nI 1) hx hb dX12_may_34 (by decide +kernel) ?_
  refine lv_iload_n hx hb dX12_may_35 rfl (lv_at hl 0 rfl) ?_
  refine ho_shl1 hx hb dX12_may_36 (by omega) ?_
  refine lv_goto (tgt := 41) hx hb dX12_may_37 (by decide) ?_
  refine ho_ior hx hb dX12_may_41 ?_
  refine lv_istore_n (lv' := [(2, .int (nI ((orF (fun s9 => mnB t al nd K F kn j s9) i) ||| (2 ^ i)))), (3, .int (nI i)), (0, .ref y), (1, .int (nI j))]) hx hb dX12_may_42 rfl hl (by decide) rfl (fun ls hl => ?_)
  refine ho_iinc (lv' := [(3, .int (nI (i + 1))), (2, .int (nI ((orF (fun s9 => mnB t al nd K F kn j s9) i) ||| (2 ^ i)))), (0, .ref y), (1, .int (nI j))]) (a := i) (b := 1) hx hb dX12_may_43 hl (k := 1) rfl rfl (by decide) rfl (fun ls hl => ?_)
  refine lv_goto (tgt := 14) hx hb dX12_may_46 (by decide) ?_
  have e9_2 : (orF (fun s9 => mnB t al nd K F kn j s9) i) ||| (2 ^ i) = orF (fun s9 => mnB t al nd K F kn j s9) (i + 1) := by first | exact orF_t (by simp [c_31]) | exact orF_u (by simp [c_31])
  rw [e9_2] at hl
  exact ih14 (i + 1) _ (by omega) (show n - (i + 1) < fu14 from (by omega)) (lv_sub hl [0, 1, 2, 3] rfl)
set_option maxHeartbeats 4000000 in
set_option maxRecDepth 100000 in
theorem c_X12_may_n (l : Launch) (dC : Nat → ClassId) (dI : Nat → Nat → Nat) (cI cD cR : ClassId) (y as ai ar am ak ao az ae aq af : Nat) (hi : Bool) (th : Int32) (po ba en an aw ax ap : Nat) (se : Int32) (n d t day al : Nat) (nd : Nat → Nat) (bb oo : Nat → Int32) (K F kn : Nat → Nat) (j : Nat) (hn : n ≤ 9) (hd : d ≤ 7) (ht : t < 512) (hal : al < 128) (hday : day < 2 ^ 30) (gnd : ∀ i, nd i < 512) (gkn : ∀ j, kn j < 512) (gK : ∀ j, K j < 8) (gF : ∀ j, F j < 10) (hj9 : j < d) (hd6 : d ≤ 6) : Met l yX12_may wsX12_may ({ frames := 4, cells := 0, slots := 0, locals := 91 }) (pcR dC dI cI cD cR [.ref y, .int (nI j)] (fun H => va_P (dC, dI) vwCl ([(y, .inr (12, [.ref as, .ref ai, .ref ar, .ref am, .ref ak, .ref ao, .ref az, .ref ae, .ref aq, .ref af, .int (bI hi), .int th, .int (nI po), .int (nI ba), .int (nI en), .ref an, .ref aw, .ref ax, .ref ap, .int se]))] ++ [(as, .inl (cI, 53, .inl (sF n d t day al nd bb oo K F kn)))]) H)) (vp_Si (fun r => r = nI (orF (fun s9 => mnB t al nd K F kn j s9) n))) 0 0 (fun _ => False) := by
  refine Met.ofW (cc := cX12_may) (maxL := 4) (ret := (some .int)) (by decide) rfl ?_
  intro p e s m args below meth c s₁ B hml hv
  obtain ⟨rfl, hH0, hCX⟩ := hv
  have hx := B.exec
  have hb := B.bytes
  have hr := B.returns
  have hts := atoms_spec (ws := wsX12_may) B.pre
  have hown : s.vm.findClass RX12 = some m.cls := findClass_of_methodNamed B.named
  have hlocks := B.notSynchronized
  have hK := hCX.1
  have hP := hH0
  have hl := lv_entry ([.ref y, .int (nI j)]) (n := 4) (Nat.le_of_ble_eq_true rfl)
  rw [lg_entry_eq]
  generalize (lg_sl ([.ref y, .int (nI j)]) ++ List.replicate (4 - (lg_sl ([.ref y, .int (nI j)])).length) Slot.unset).toArray = ls at hl ⊢
  have hl : lv_has ls 4 [(0, .ref y), (1, .int (nI j))] := hl
  refine lv_aload_n hx hb dX12_may_0 rfl (lv_at hl 0 rfl) ?_
  refine lv_iload_n hx hb dX12_may_1 rfl (lv_at hl 1 rfl) ?_
  refine vp_callSi ((va_runV (As := [.int (nI j)]) (rest := []) ⟨hx, hb, hml, hown, hts⟩ (c_X12_isDenier_t l dC dI cI cD cR y as ai ar am ak ao az ae aq af hi th po ba en an aw ax ap se n d t day al nd bb oo K F kn j (by first | omega | assumption | exact gnd _ | exact gkn _ | exact Nat.lt_trans (gkn _) (by decide) | exact Nat.lt_trans (gnd _) (by decide) | exact Nat.lt_of_le_of_lt (pcN_le _) (by decide)) (by first | omega | assumption | exact gnd _ | exact gkn _ | exact Nat.lt_trans (gkn _) (by decide) | exact Nat.lt_trans (gnd _) (by decide) | exact Nat.lt_of_le_of_lt (pcN_le _) (by decide)) (by first | omega | assumption | exact gnd _ | exact gkn _ | exact Nat.lt_trans (gkn _) (by decide) | exact Nat.lt_trans (gnd _) (by decide) | exact Nat.lt_of_le_of_lt (pcN_le _) (by decide)) (by first | omega | assumption | exact gnd _ | exact gkn _ | exact Nat.lt_trans (gkn _) (by decide) | exact Nat.lt_trans (gnd _) (by decide) | exact Nat.lt_of_le_of_lt (pcN_le _) (by decide)) (by first | omega | assumption | exact gnd _ | exact gkn _ | exact Nat.lt_trans (gkn _) (by decide) | exact Nat.lt_trans (gnd _) (by decide) | exact Nat.lt_of_le_of_lt (pcN_le _) (by decide)) gnd gkn gK gF (by first | omega | assumption | exact gnd _ | exact gkn _ | exact Nat.lt_trans (gkn _) (by decide) | exact Nat.lt_trans (gnd _) (by decide) | exact Nat.lt_of_le_of_lt (pcN_le _) (by decide))) (cwV 1 hts gX12_may_X12_isDenier rfl rfl rfl (by decide +kernel) ⟨Nat.le_of_ble_eq_true rfl, Nat.le_of_ble_eq_true rfl⟩) (preV_R hCX (va_recv hK hP (ci := 12) (q0 := 0) rfl rfl) (hP)) rfl rfl hl.1 rfl (lv_room (Nat.le_of_ble_eq_true rfl)) dX12_may_2 ⟨Nat.le_of_ble_eq_true (by first | rfl | decide), Nat.le_of_ble_eq_true (by first | rfl | decide)⟩).run) (fun r_2 hr_2 => ?_)
  subst hr_2
  refine lv_if_ne (tgt := 10) hx hb dX12_may_5 (by decide) (fun _ => ?_) (fun z => absurd z (by decide +kernel))
  refine lv_iconst (v := nI 0) hx hb dX12_may_10 (by decide +kernel) ?_
  refine lv_istore_n (lv' := [(2, .int (nI 0)), (0, .ref y), (1, .int (nI j))]) hx hb dX12_may_11 rfl hl (by decide) rfl (fun ls hl => ?_)
  refine lv_iconst (v := nI 0) hx hb dX12_may_12 (by decide +kernel) ?_
  refine lv_istore_n (lv' := [(3, .int (nI 0)), (2, .int (nI 0)), (0, .ref y), (1, .int (nI j))]) hx hb dX12_may_13 rfl hl (by decide) rfl (fun ls hl => ?_)
  refine ho_lp (T := Nat) 4 (fun x9 => [(3, .int (nI x9)), (2, .int (nI (orF (fun s9 => mnB t al nd K F kn j s9) x9))), (0, .ref y), (1, .int (nI j))]) (fun x9 => []) (fun x9 => (x9 ≤ n)) (fun x9 => n - x9) 0 (by omega) (lv_sub hl [0, 1, 2, 3] rfl) ?_
  intro fu14 i ls hI hm14 hl ih
  have hin := hI
  have hl : lv_has ls 4 [(3, .int (nI i)), (2, .int (nI (orF (fun s9 => mnB t al nd K F kn j s9) i))), (0, .ref y), (1, .int (nI j))] := hl
  have hin : i ≤ n := hin
  have hm14 : n - i < fu14 + 1 := hm14
  refine W.eq (g2 := F0 m 14 ls []) rfl ?_
  have ih14 := ih
  refine lv_iload_n hx hb dX12_may_14 rfl (lv_at hl 0 rfl) ?_
  refine lv_aload_n hx hb dX12_may_15 rfl (lv_at hl 2 rfl) ?_
  refine va_get (D := (dC, dI)) (ci := 12) (v := .ref as) (C := RX12) (T := TX12) (N := 20) hx hb hts (fun _ h => List.mem_cons_of_mem _ (List.mem_append_right _ h)) hown hK hP 0 rfl rfl 0 (by decide) (hts (.fieldLink RX12 9 "HoldsOnceDeniedModel" "s" "[I") (by decide +kernel)) (fun _ h9 => h9) rfl dX12_may_16 ?_
  refine lv_iconst (v := nI 0) hx hb dX12_may_19 (by decide +kernel) ?_
  refine ho_iald (v := nI n) hx hb hK hP 1 0 rfl rfl (by omega) (by first | decide | omega) rfl dX12_may_20 ?_
  refine ho_icmp_ge (tgt := 49) hx hb dX12_may_21 (by decide) (by omega) (by omega) (fun c_21 => ?_) (fun c_21 => ?_)
  · refine lv_iload_n hx hb dX12_may_49 rfl (lv_at hl 1 rfl) ?_
    exact W.iret (v := nI (orF (fun s9 => mnB t al nd K F kn j s9) i)) hx hb hr (fun T9 hT9 hW9 => ⟨_, rfl, (congrArg nI (by rw [show i = n by omega])), hT9⟩) (fun q h => by cases h) dX12_may_50
  refine lv_iload_n hx hb dX12_may_24 rfl (lv_at hl 1 rfl) ?_
  refine lv_aload_n hx hb dX12_may_25 rfl (lv_at hl 2 rfl) ?_
  refine lv_iload_n hx hb dX12_may_26 rfl (lv_at hl 3 rfl) ?_
  refine lv_iload_n hx hb dX12_may_27 rfl (lv_at hl 0 rfl) ?_
  refine vp_callSi ((va_runV (As := [.int (nI j), .int (nI i)]) (rest := [.int (nI (orF (fun s9 => mnB t al nd K F kn j s9) i))]) ⟨hx, hb, hml, hown, hts⟩ (c_X12_mayNow l dC dI cI cD cR y as ai ar am ak ao az ae aq af hi th po ba en an aw ax ap se n d t day al nd bb oo K F kn j i (by first | omega | assumption | exact gnd _ | exact gkn _ | exact Nat.lt_trans (gkn _) (by decide) | exact Nat.lt_trans (gnd _) (by decide) | exact Nat.lt_of_le_of_lt (pcN_le _) (by decide)) (by first | omega | assumption | exact gnd _ | exact gkn _ | exact Nat.lt_trans (gkn _) (by decide) | exact Nat.lt_trans (gnd _) (by decide) | exact Nat.lt_of_le_of_lt (pcN_le _) (by decide)) (by first | omega | assumption | exact gnd _ | exact gkn _ | exact Nat.lt_trans (gkn _) (by decide) | exact Nat.lt_trans (gnd _) (by decide) | exact Nat.lt_of_le_of_lt (pcN_le _) (by decide)) (by first | omega | assumption | exact gnd _ | exact gkn _ | exact Nat.lt_trans (gkn _) (by decide) | exact Nat.lt_trans (gnd _) (by decide) | exact Nat.lt_of_le_of_lt (pcN_le _) (by decide)) (by first | omega | assumption | exact gnd _ | exact gkn _ | exact Nat.lt_trans (gkn _) (by decide) | exact Nat.lt_trans (gnd _) (by decide) | exact Nat.lt_of_le_of_lt (pcN_le _) (by decide)) gnd gkn gK gF (by first | omega | assumption | exact gnd _ | exact gkn _ | exact Nat.lt_trans (gkn _) (by decide) | exact Nat.lt_trans (gnd _) (by decide) | exact Nat.lt_of_le_of_lt (pcN_le _) (by decide)) (by first | omega | assumption | exact gnd _ | exact gkn _ | exact Nat.lt_trans (gkn _) (by decide) | exact Nat.lt_trans (gnd _) (by decide) | exact Nat.lt_of_le_of_lt (pcN_le _) (by decide))) (cwV 2 hts gX12_may_X12_mayNow rfl rfl rfl (by decide +kernel) ⟨Nat.le_of_ble_eq_true rfl, Nat.le_of_ble_eq_true rfl⟩) (preV_R hCX (va_recv hK hP (ci := 12) (q0 := 0) rfl rfl) (hP)) rfl rfl hl.1 rfl (lv_room (Nat.le_of_ble_eq_true rfl)) dX12_may_28 ⟨Nat.le_of_ble_eq_true (by first | rfl | decide), Nat.le_of_ble_eq_true (by first | rfl | decide)⟩).run) (fun r_28 hr_28 => ?_)
  subst hr_28
  refine ho_beq (tgt := 40) hx hb dX12_may_31 (by decide) (fun c_31 => ?_) (fun c_31 => ?_)
  · refine lv_iconst (v := nI 0) hx hb dX12_may_40 (by decide +kernel) ?_
    refine ho_ior hx hb dX12_may_41 ?_
    refine lv_istore_n (lv' := [(2, .int (nI ((orF (fun s9 => mnB t al nd K F kn j s9) i) ||| 0))), (3, .int (nI i)), (0, .ref y), (1, .int (nI j))]) hx hb dX12_may_42 rfl hl (by decide) rfl (fun ls hl => ?_)
    refine ho_iinc (lv' := [(3, .int (nI (i + 1))), (2, .int (nI ((orF (fun s9 => mnB t al nd K F kn j s9) i) ||| 0))), (0, .ref y), (1, .int (nI j))]) (a := i) (b := 1) hx hb dX12_may_43 hl (k := 1) rfl rfl (by decide) rfl (fun ls hl => ?_)
    refine lv_goto (tgt := 14) hx hb dX12_may_46 (by decide) ?_
    have e9_2 : (orF (fun s9 => mnB t al nd K F kn j s9) i) ||| 0 = orF (fun s9 => mnB t al nd K F kn j s9) (i + 1) := by first | exact orF_t (by simp [c_31]) | exact orF_u (by simp [c_31])
    rw [e9_2] at hl
    exact ih14 (i + 1) _ (by omega) (show n - (i + 1) < fu14 from (by omega)) (lv_sub hl [0, 1, 2, 3] rfl)
  refine lv_iconst (v := nI 1) hx hb dX12_may_34 (by decide +kernel) ?_
  refine lv_iload_n hx hb dX12_may_35 rfl (lv_at hl 0 rfl) ?_
  refine ho_shl1 hx hb dX12_may_36 (by omega) ?_
  refine lv_goto (tgt := 41) hx hb dX12_may_37 (by decide) ?_
  refine ho_ior hx hb dX12_may_41 ?_
  refine lv_istore_n (lv' := [(2, .int (nI ((orF (fun s9 => mnB t al nd K F kn j s9) i) ||| (2 ^ i)))), (3, .int (nI i)), (0, .ref y), (1, .int (nI j))]) hx hb dX12_may_42 rfl hl (by decide) rfl (fun ls hl => ?_)
  refine ho_iinc (lv' := [(3, .int (nI (i + 1))), (2, .int (nI ((orF (fun s9 => mnB t al nd K F kn j s9) i) ||| (2 ^ i)))), (0, .ref y), (1, .int (nI j))]) (a := i) (b := 1) hx hb dX12_may_43 hl (k := 1) rfl rfl (by decide) rfl (fun ls hl => ?_)
  refine lv_goto (tgt := 14) hx hb dX12_may_46 (by decide) ?_
  have e9_2 : (orF (fun s9 => mnB t al nd K F kn j s9) i) ||| (2 ^ i) = orF (fun s9 => mnB t al nd K F kn j s9) (i + 1) := by first | exact orF_t (by simp [c_31]) | exact orF_u (by simp [c_31])
  rw [e9_2] at hl
  exact ih14 (i + 1) _ (by omega) (show n - (i + 1) < fu14 from (by omega)) (lv_sub hl [0, 1, 2, 3] rfl)
set_option maxHeartbeats 4000000 in
set_option maxRecDepth 100000 in
theorem c_X12_silences (l : Launch) (dC : Nat → ClassId) (dI : Nat → Nat → Nat) (cI cD cR : ClassId) (y as ai ar am ak ao az ae aq af : Nat) (hi : Bool) (th : Int32) (po ba en an aw ax ap : Nat) (se : Int32) (n d t day al : Nat) (nd : Nat → Nat) (bb oo : Nat → Int32) (K F kn : Nat → Nat) (x : Int32) (hn : n ≤ 9) (hd : d ≤ 7) (ht : t < 512) (hal : al < 128) (hday : day < 2 ^ 30) (gnd : ∀ i, nd i < 512) (gkn : ∀ j, kn j < 512) (gK : ∀ j, K j < 8) (gF : ∀ j, F j < 10) : Met l yX12_silences wsX12_silences ({ frames := 5, cells := 0, slots := 0, locals := 115 }) (pcR dC dI cI cD cR [.ref y, .int x] (fun H => va_P (dC, dI) vwCl ([(y, .inr (12, [.ref as, .ref ai, .ref ar, .ref am, .ref ak, .ref ao, .ref az, .ref ae, .ref aq, .ref af, .int (bI hi), .int th, .int (nI po), .int (nI ba), .int (nI en), .ref an, .ref aw, .ref ax, .ref ap, .int se]))] ++ [(as, .inl (cI, 53, .inl (sF n d t day al nd bb oo K F kn)))]) H)) (vp_Si (fun r => r = (on1 (oN x d) (fun j => nI (smN n t al nd K F kn (day % 2 != 0) j)) (-1)))) 0 0 (fun _ => False) := by
  refine Met.ofW (cc := cX12_silences) (maxL := 2) (ret := (some .int)) (by decide) rfl ?_
  intro p e s m args below meth c s₁ B hml hv
  obtain ⟨rfl, hH0, hCX⟩ := hv
  have hx := B.exec
  have hb := B.bytes
  have hr := B.returns
  have hts := atoms_spec (ws := wsX12_silences) B.pre
  have hown : s.vm.findClass RX12 = some m.cls := findClass_of_methodNamed B.named
  have hlocks := B.notSynchronized
  have hK := hCX.1
  have hP := hH0
  have hl := lv_entry ([.ref y, .int x]) (n := 2) (Nat.le_of_ble_eq_true rfl)
  rw [lg_entry_eq]
  generalize (lg_sl ([.ref y, .int x]) ++ List.replicate (2 - (lg_sl ([.ref y, .int x])).length) Slot.unset).toArray = ls at hl ⊢
  have hl : lv_has ls 2 [(0, .ref y), (1, .int x)] := hl
  rcases okI_or x (n := d) (by omega) with hb_x | ⟨v, h_v, rfl⟩
  · refine lv_aload_n hx hb dX12_silences_0 rfl (lv_at hl 0 rfl) ?_
    refine lv_iload_n hx hb dX12_silences_1 rfl (lv_at hl 1 rfl) ?_
    refine vp_callSi ((va_runV (As := [.int x]) (rest := []) ⟨hx, hb, hml, hown, hts⟩ (c_X12_isDenier_f l dC dI cI cD cR y as ai ar am ak ao az ae aq af hi th po ba en an aw ax ap se n d t day al nd bb oo K F kn x (by first | omega | assumption | exact gnd _ | exact gkn _ | exact Nat.lt_trans (gkn _) (by decide) | exact Nat.lt_trans (gnd _) (by decide) | exact Nat.lt_of_le_of_lt (pcN_le _) (by decide)) (by first | omega | assumption | exact gnd _ | exact gkn _ | exact Nat.lt_trans (gkn _) (by decide) | exact Nat.lt_trans (gnd _) (by decide) | exact Nat.lt_of_le_of_lt (pcN_le _) (by decide)) (by first | omega | assumption | exact gnd _ | exact gkn _ | exact Nat.lt_trans (gkn _) (by decide) | exact Nat.lt_trans (gnd _) (by decide) | exact Nat.lt_of_le_of_lt (pcN_le _) (by decide)) (by first | omega | assumption | exact gnd _ | exact gkn _ | exact Nat.lt_trans (gkn _) (by decide) | exact Nat.lt_trans (gnd _) (by decide) | exact Nat.lt_of_le_of_lt (pcN_le _) (by decide)) (by first | omega | assumption | exact gnd _ | exact gkn _ | exact Nat.lt_trans (gkn _) (by decide) | exact Nat.lt_trans (gnd _) (by decide) | exact Nat.lt_of_le_of_lt (pcN_le _) (by decide)) gnd gkn gK gF (by first | omega | assumption | exact gnd _ | exact gkn _ | exact Nat.lt_trans (gkn _) (by decide) | exact Nat.lt_trans (gnd _) (by decide) | exact Nat.lt_of_le_of_lt (pcN_le _) (by decide))) (cwV 1 hts gX12_silences_X12_isDenier rfl rfl rfl (by decide +kernel) ⟨Nat.le_of_ble_eq_true rfl, Nat.le_of_ble_eq_true rfl⟩) (preV_R hCX (va_recv hK hP (ci := 12) (q0 := 0) rfl rfl) (hP)) rfl rfl hl.1 rfl (lv_room (Nat.le_of_ble_eq_true rfl)) dX12_silences_2 ⟨Nat.le_of_ble_eq_true (by first | rfl | decide), Nat.le_of_ble_eq_true (by first | rfl | decide)⟩).run) (fun r_2 hr_2 => ?_)
    subst hr_2
    refine lv_if_eq (tgt := 22) hx hb dX12_silences_5 (by decide) (fun _ => ?_) (fun z => absurd z (by decide +kernel))
    refine lv_iconst (v := (-1)) hx hb dX12_silences_22 (by decide +kernel) ?_
    exact W.iret (v := (-1)) hx hb hr (fun T9 hT9 hW9 => ⟨_, rfl, (by (simp [on1, oN_f hb_x]) <;> first | rfl | omega), hT9⟩) (fun q h => by cases h) dX12_silences_23
  refine lv_aload_n hx hb dX12_silences_0 rfl (lv_at hl 0 rfl) ?_
  refine lv_iload_n hx hb dX12_silences_1 rfl (lv_at hl 1 rfl) ?_
  refine vp_callSi ((va_runV (As := [.int (nI v)]) (rest := []) ⟨hx, hb, hml, hown, hts⟩ (c_X12_isDenier_t l dC dI cI cD cR y as ai ar am ak ao az ae aq af hi th po ba en an aw ax ap se n d t day al nd bb oo K F kn v (by first | omega | assumption | exact gnd _ | exact gkn _ | exact Nat.lt_trans (gkn _) (by decide) | exact Nat.lt_trans (gnd _) (by decide) | exact Nat.lt_of_le_of_lt (pcN_le _) (by decide)) (by first | omega | assumption | exact gnd _ | exact gkn _ | exact Nat.lt_trans (gkn _) (by decide) | exact Nat.lt_trans (gnd _) (by decide) | exact Nat.lt_of_le_of_lt (pcN_le _) (by decide)) (by first | omega | assumption | exact gnd _ | exact gkn _ | exact Nat.lt_trans (gkn _) (by decide) | exact Nat.lt_trans (gnd _) (by decide) | exact Nat.lt_of_le_of_lt (pcN_le _) (by decide)) (by first | omega | assumption | exact gnd _ | exact gkn _ | exact Nat.lt_trans (gkn _) (by decide) | exact Nat.lt_trans (gnd _) (by decide) | exact Nat.lt_of_le_of_lt (pcN_le _) (by decide)) (by first | omega | assumption | exact gnd _ | exact gkn _ | exact Nat.lt_trans (gkn _) (by decide) | exact Nat.lt_trans (gnd _) (by decide) | exact Nat.lt_of_le_of_lt (pcN_le _) (by decide)) gnd gkn gK gF (by first | omega | assumption | exact gnd _ | exact gkn _ | exact Nat.lt_trans (gkn _) (by decide) | exact Nat.lt_trans (gnd _) (by decide) | exact Nat.lt_of_le_of_lt (pcN_le _) (by decide))) (cwV 1 hts gX12_silences_X12_isDenier rfl rfl rfl (by decide +kernel) ⟨Nat.le_of_ble_eq_true rfl, Nat.le_of_ble_eq_true rfl⟩) (preV_R hCX (va_recv hK hP (ci := 12) (q0 := 0) rfl rfl) (hP)) rfl rfl hl.1 rfl (lv_room (Nat.le_of_ble_eq_true rfl)) dX12_silences_2 ⟨Nat.le_of_ble_eq_true (by first | rfl | decide), Nat.le_of_ble_eq_true (by first | rfl | decide)⟩).run) (fun r_2 hr_2 => ?_)
  subst hr_2
  refine lv_if_eq (tgt := 22) hx hb dX12_silences_5 (by decide) (fun z => absurd z (by decide +kernel)) (fun _ => ?_)
  refine lv_aload_n hx hb dX12_silences_8 rfl (lv_at hl 0 rfl) ?_
  refine lv_iload_n hx hb dX12_silences_9 rfl (lv_at hl 1 rfl) ?_
  refine lv_aload_n hx hb dX12_silences_10 rfl (lv_at hl 0 rfl) ?_
  refine va_get (D := (dC, dI)) (ci := 12) (v := .ref as) (C := RX12) (T := TX12) (N := 20) hx hb hts (fun _ h => List.mem_cons_of_mem _ (List.mem_append_right _ h)) hown hK hP 0 rfl rfl 0 (by decide) (hts (.fieldLink RX12 9 "HoldsOnceDeniedModel" "s" "[I") (by decide +kernel)) (fun _ h9 => h9) rfl dX12_silences_11 ?_
  refine lv_iconst (v := nI 3) hx hb dX12_silences_14 (by decide +kernel) ?_
  refine ho_iald (v := nI day) hx hb hK hP 1 0 rfl rfl (by omega) (by first | decide | omega) rfl dX12_silences_15 ?_
  refine vp_callSi ((va_runV (As := [.int (nI v), .int (nI day)]) (rest := []) ⟨hx, hb, hml, hown, hts⟩ (c_X12_silencesOf l dC dI cI cD cR y as ai ar am ak ao az ae aq af hi th po ba en an aw ax ap se n d t day al nd bb oo K F kn v day (by first | omega | assumption | exact gnd _ | exact gkn _ | exact Nat.lt_trans (gkn _) (by decide) | exact Nat.lt_trans (gnd _) (by decide) | exact Nat.lt_of_le_of_lt (pcN_le _) (by decide)) (by first | omega | assumption | exact gnd _ | exact gkn _ | exact Nat.lt_trans (gkn _) (by decide) | exact Nat.lt_trans (gnd _) (by decide) | exact Nat.lt_of_le_of_lt (pcN_le _) (by decide)) (by first | omega | assumption | exact gnd _ | exact gkn _ | exact Nat.lt_trans (gkn _) (by decide) | exact Nat.lt_trans (gnd _) (by decide) | exact Nat.lt_of_le_of_lt (pcN_le _) (by decide)) (by first | omega | assumption | exact gnd _ | exact gkn _ | exact Nat.lt_trans (gkn _) (by decide) | exact Nat.lt_trans (gnd _) (by decide) | exact Nat.lt_of_le_of_lt (pcN_le _) (by decide)) (by first | omega | assumption | exact gnd _ | exact gkn _ | exact Nat.lt_trans (gkn _) (by decide) | exact Nat.lt_trans (gnd _) (by decide) | exact Nat.lt_of_le_of_lt (pcN_le _) (by decide)) gnd gkn gK gF (by first | omega | assumption | exact gnd _ | exact gkn _ | exact Nat.lt_trans (gkn _) (by decide) | exact Nat.lt_trans (gnd _) (by decide) | exact Nat.lt_of_le_of_lt (pcN_le _) (by decide)) (by first | omega | assumption | exact gnd _ | exact gkn _ | exact Nat.lt_trans (gkn _) (by decide) | exact Nat.lt_trans (gnd _) (by decide) | exact Nat.lt_of_le_of_lt (pcN_le _) (by decide))) (cwV 2 hts gX12_silences_X12_silencesOf rfl rfl rfl (by decide +kernel) ⟨Nat.le_of_ble_eq_true rfl, Nat.le_of_ble_eq_true rfl⟩) (preV_R hCX (va_recv hK hP (ci := 12) (q0 := 0) rfl rfl) (hP)) rfl rfl hl.1 rfl (lv_room (Nat.le_of_ble_eq_true rfl)) dX12_silences_16 ⟨Nat.le_of_ble_eq_true (by first | rfl | decide), Nat.le_of_ble_eq_true (by first | rfl | decide)⟩).run) (fun r_16 hr_16 => ?_)
  subst hr_16
  refine lv_goto (tgt := 23) hx hb dX12_silences_19 (by decide) ?_
  exact W.iret (v := nI (smN n t al nd K F kn (day % 2 != 0) v)) hx hb hr (fun T9 hT9 hW9 => ⟨_, rfl, (by (simp [on1, oN_t h_v]) <;> first | rfl | omega), hT9⟩) (fun q h => by cases h) dX12_silences_23
set_option maxHeartbeats 4000000 in
set_option maxRecDepth 100000 in
theorem c_X12_steps (l : Launch) (dC : Nat → ClassId) (dI : Nat → Nat → Nat) (cI cD cR : ClassId) (y as ai ar am ak ao az ae aq af : Nat) (hi : Bool) (th : Int32) (po ba en an aw ax ap : Nat) (se : Int32) (n d t day al : Nat) (nd : Nat → Nat) (bb oo : Nat → Int32) (K F kn : Nat → Nat) (x z : Int32) (hn : n ≤ 9) (hd : d ≤ 7) (ht : t < 512) (hal : al < 128) (hday : day < 2 ^ 30) (gnd : ∀ i, nd i < 512) (gkn : ∀ j, kn j < 512) (gK : ∀ j, K j < 8) (gF : ∀ j, F j < 10) : Met l yX12_steps wsX12_steps ({ frames := 2, cells := 0, slots := 0, locals := 46 }) (pcR dC dI cI cD cR [.ref y, .int x, .int z] (fun H => va_P (dC, dI) vwCl ([(y, .inr (12, [.ref as, .ref ai, .ref ar, .ref am, .ref ak, .ref ao, .ref az, .ref ae, .ref aq, .ref af, .int (bI hi), .int th, .int (nI po), .int (nI ba), .int (nI en), .ref an, .ref aw, .ref ax, .ref ap, .int se]))] ++ [(as, .inl (cI, 53, .inl (sF n d t day al nd bb oo K F kn)))]) H)) (vp_Si (fun r => r = (on2 (oN x d) (oN z n) (fun j i => nI (efN (K j) (F j) (pcN (nd i)))) (-1)))) 0 0 (fun _ => False) := by
  refine Met.ofW (cc := cX12_steps) (maxL := 3) (ret := (some .int)) (by decide) rfl ?_
  intro p e s m args below meth c s₁ B hml hv
  obtain ⟨rfl, hH0, hCX⟩ := hv
  have hx := B.exec
  have hb := B.bytes
  have hr := B.returns
  have hts := atoms_spec (ws := wsX12_steps) B.pre
  have hown : s.vm.findClass RX12 = some m.cls := findClass_of_methodNamed B.named
  have hlocks := B.notSynchronized
  have hK := hCX.1
  have hP := hH0
  have hl := lv_entry ([.ref y, .int x, .int z]) (n := 3) (Nat.le_of_ble_eq_true rfl)
  rw [lg_entry_eq]
  generalize (lg_sl ([.ref y, .int x, .int z]) ++ List.replicate (3 - (lg_sl ([.ref y, .int x, .int z])).length) Slot.unset).toArray = ls at hl ⊢
  have hl : lv_has ls 3 [(0, .ref y), (1, .int x), (2, .int z)] := hl
  rcases okI_or x (n := d) (by omega) with hb_x | ⟨j, h_j, rfl⟩
  · refine lv_aload_n hx hb dX12_steps_0 rfl (lv_at hl 0 rfl) ?_
    refine lv_iload_n hx hb dX12_steps_1 rfl (lv_at hl 1 rfl) ?_
    refine vp_callSi ((va_runV (As := [.int x]) (rest := []) ⟨hx, hb, hml, hown, hts⟩ (c_X12_isDenier_f l dC dI cI cD cR y as ai ar am ak ao az ae aq af hi th po ba en an aw ax ap se n d t day al nd bb oo K F kn x (by first | omega | assumption | exact gnd _ | exact gkn _ | exact Nat.lt_trans (gkn _) (by decide) | exact Nat.lt_trans (gnd _) (by decide) | exact Nat.lt_of_le_of_lt (pcN_le _) (by decide)) (by first | omega | assumption | exact gnd _ | exact gkn _ | exact Nat.lt_trans (gkn _) (by decide) | exact Nat.lt_trans (gnd _) (by decide) | exact Nat.lt_of_le_of_lt (pcN_le _) (by decide)) (by first | omega | assumption | exact gnd _ | exact gkn _ | exact Nat.lt_trans (gkn _) (by decide) | exact Nat.lt_trans (gnd _) (by decide) | exact Nat.lt_of_le_of_lt (pcN_le _) (by decide)) (by first | omega | assumption | exact gnd _ | exact gkn _ | exact Nat.lt_trans (gkn _) (by decide) | exact Nat.lt_trans (gnd _) (by decide) | exact Nat.lt_of_le_of_lt (pcN_le _) (by decide)) (by first | omega | assumption | exact gnd _ | exact gkn _ | exact Nat.lt_trans (gkn _) (by decide) | exact Nat.lt_trans (gnd _) (by decide) | exact Nat.lt_of_le_of_lt (pcN_le _) (by decide)) gnd gkn gK gF (by first | omega | assumption | exact gnd _ | exact gkn _ | exact Nat.lt_trans (gkn _) (by decide) | exact Nat.lt_trans (gnd _) (by decide) | exact Nat.lt_of_le_of_lt (pcN_le _) (by decide))) (cwV 1 hts gX12_steps_X12_isDenier rfl rfl rfl (by decide +kernel) ⟨Nat.le_of_ble_eq_true rfl, Nat.le_of_ble_eq_true rfl⟩) (preV_R hCX (va_recv hK hP (ci := 12) (q0 := 0) rfl rfl) (hP)) rfl rfl hl.1 rfl (lv_room (Nat.le_of_ble_eq_true rfl)) dX12_steps_2 ⟨Nat.le_of_ble_eq_true (by first | rfl | decide), Nat.le_of_ble_eq_true (by first | rfl | decide)⟩).run) (fun r_2 hr_2 => ?_)
    subst hr_2
    refine lv_if_eq (tgt := 25) hx hb dX12_steps_5 (by decide) (fun _ => ?_) (fun z => absurd z (by decide +kernel))
    refine lv_iconst (v := (-1)) hx hb dX12_steps_25 (by decide +kernel) ?_
    exact W.iret (v := (-1)) hx hb hr (fun T9 hT9 hW9 => ⟨_, rfl, (by (simp [on2, on1, oN_f hb_x]) <;> first | rfl | omega), hT9⟩) (fun q h => by cases h) dX12_steps_26
  rcases okI_or z (n := n) (by omega) with hb_z | ⟨i, h_i, rfl⟩
  · refine lv_aload_n hx hb dX12_steps_0 rfl (lv_at hl 0 rfl) ?_
    refine lv_iload_n hx hb dX12_steps_1 rfl (lv_at hl 1 rfl) ?_
    refine vp_callSi ((va_runV (As := [.int (nI j)]) (rest := []) ⟨hx, hb, hml, hown, hts⟩ (c_X12_isDenier_t l dC dI cI cD cR y as ai ar am ak ao az ae aq af hi th po ba en an aw ax ap se n d t day al nd bb oo K F kn j (by first | omega | assumption | exact gnd _ | exact gkn _ | exact Nat.lt_trans (gkn _) (by decide) | exact Nat.lt_trans (gnd _) (by decide) | exact Nat.lt_of_le_of_lt (pcN_le _) (by decide)) (by first | omega | assumption | exact gnd _ | exact gkn _ | exact Nat.lt_trans (gkn _) (by decide) | exact Nat.lt_trans (gnd _) (by decide) | exact Nat.lt_of_le_of_lt (pcN_le _) (by decide)) (by first | omega | assumption | exact gnd _ | exact gkn _ | exact Nat.lt_trans (gkn _) (by decide) | exact Nat.lt_trans (gnd _) (by decide) | exact Nat.lt_of_le_of_lt (pcN_le _) (by decide)) (by first | omega | assumption | exact gnd _ | exact gkn _ | exact Nat.lt_trans (gkn _) (by decide) | exact Nat.lt_trans (gnd _) (by decide) | exact Nat.lt_of_le_of_lt (pcN_le _) (by decide)) (by first | omega | assumption | exact gnd _ | exact gkn _ | exact Nat.lt_trans (gkn _) (by decide) | exact Nat.lt_trans (gnd _) (by decide) | exact Nat.lt_of_le_of_lt (pcN_le _) (by decide)) gnd gkn gK gF (by first | omega | assumption | exact gnd _ | exact gkn _ | exact Nat.lt_trans (gkn _) (by decide) | exact Nat.lt_trans (gnd _) (by decide) | exact Nat.lt_of_le_of_lt (pcN_le _) (by decide))) (cwV 1 hts gX12_steps_X12_isDenier rfl rfl rfl (by decide +kernel) ⟨Nat.le_of_ble_eq_true rfl, Nat.le_of_ble_eq_true rfl⟩) (preV_R hCX (va_recv hK hP (ci := 12) (q0 := 0) rfl rfl) (hP)) rfl rfl hl.1 rfl (lv_room (Nat.le_of_ble_eq_true rfl)) dX12_steps_2 ⟨Nat.le_of_ble_eq_true (by first | rfl | decide), Nat.le_of_ble_eq_true (by first | rfl | decide)⟩).run) (fun r_2 hr_2 => ?_)
    subst hr_2
    refine lv_if_eq (tgt := 25) hx hb dX12_steps_5 (by decide) (fun z => absurd z (by decide +kernel)) (fun _ => ?_)
    refine lv_aload_n hx hb dX12_steps_8 rfl (lv_at hl 0 rfl) ?_
    refine lv_iload_n hx hb dX12_steps_9 rfl (lv_at hl 2 rfl) ?_
    refine vp_callSi ((va_runV (As := [.int z]) (rest := []) ⟨hx, hb, hml, hown, hts⟩ (c_X12_isSentence_f l dC dI cI cD cR y as ai ar am ak ao az ae aq af hi th po ba en an aw ax ap se n d t day al nd bb oo K F kn z (by first | omega | assumption | exact gnd _ | exact gkn _ | exact Nat.lt_trans (gkn _) (by decide) | exact Nat.lt_trans (gnd _) (by decide) | exact Nat.lt_of_le_of_lt (pcN_le _) (by decide)) (by first | omega | assumption | exact gnd _ | exact gkn _ | exact Nat.lt_trans (gkn _) (by decide) | exact Nat.lt_trans (gnd _) (by decide) | exact Nat.lt_of_le_of_lt (pcN_le _) (by decide)) (by first | omega | assumption | exact gnd _ | exact gkn _ | exact Nat.lt_trans (gkn _) (by decide) | exact Nat.lt_trans (gnd _) (by decide) | exact Nat.lt_of_le_of_lt (pcN_le _) (by decide)) (by first | omega | assumption | exact gnd _ | exact gkn _ | exact Nat.lt_trans (gkn _) (by decide) | exact Nat.lt_trans (gnd _) (by decide) | exact Nat.lt_of_le_of_lt (pcN_le _) (by decide)) (by first | omega | assumption | exact gnd _ | exact gkn _ | exact Nat.lt_trans (gkn _) (by decide) | exact Nat.lt_trans (gnd _) (by decide) | exact Nat.lt_of_le_of_lt (pcN_le _) (by decide)) gnd gkn gK gF (by first | omega | assumption | exact gnd _ | exact gkn _ | exact Nat.lt_trans (gkn _) (by decide) | exact Nat.lt_trans (gnd _) (by decide) | exact Nat.lt_of_le_of_lt (pcN_le _) (by decide))) (cwV 1 hts gX12_steps_X12_isSentence rfl rfl rfl (by decide +kernel) ⟨Nat.le_of_ble_eq_true rfl, Nat.le_of_ble_eq_true rfl⟩) (preV_R hCX (va_recv hK hP (ci := 12) (q0 := 0) rfl rfl) (hP)) rfl rfl hl.1 rfl (lv_room (Nat.le_of_ble_eq_true rfl)) dX12_steps_10 ⟨Nat.le_of_ble_eq_true (by first | rfl | decide), Nat.le_of_ble_eq_true (by first | rfl | decide)⟩).run) (fun r_10 hr_10 => ?_)
    subst hr_10
    refine lv_if_eq (tgt := 25) hx hb dX12_steps_13 (by decide) (fun _ => ?_) (fun z => absurd z (by decide +kernel))
    refine lv_iconst (v := (-1)) hx hb dX12_steps_25 (by decide +kernel) ?_
    exact W.iret (v := (-1)) hx hb hr (fun T9 hT9 hW9 => ⟨_, rfl, (by (simp [on2, on1, oN_t h_j, oN_f hb_z]) <;> first | rfl | omega), hT9⟩) (fun q h => by cases h) dX12_steps_26
  refine lv_aload_n hx hb dX12_steps_0 rfl (lv_at hl 0 rfl) ?_
  refine lv_iload_n hx hb dX12_steps_1 rfl (lv_at hl 1 rfl) ?_
  refine vp_callSi ((va_runV (As := [.int (nI j)]) (rest := []) ⟨hx, hb, hml, hown, hts⟩ (c_X12_isDenier_t l dC dI cI cD cR y as ai ar am ak ao az ae aq af hi th po ba en an aw ax ap se n d t day al nd bb oo K F kn j (by first | omega | assumption | exact gnd _ | exact gkn _ | exact Nat.lt_trans (gkn _) (by decide) | exact Nat.lt_trans (gnd _) (by decide) | exact Nat.lt_of_le_of_lt (pcN_le _) (by decide)) (by first | omega | assumption | exact gnd _ | exact gkn _ | exact Nat.lt_trans (gkn _) (by decide) | exact Nat.lt_trans (gnd _) (by decide) | exact Nat.lt_of_le_of_lt (pcN_le _) (by decide)) (by first | omega | assumption | exact gnd _ | exact gkn _ | exact Nat.lt_trans (gkn _) (by decide) | exact Nat.lt_trans (gnd _) (by decide) | exact Nat.lt_of_le_of_lt (pcN_le _) (by decide)) (by first | omega | assumption | exact gnd _ | exact gkn _ | exact Nat.lt_trans (gkn _) (by decide) | exact Nat.lt_trans (gnd _) (by decide) | exact Nat.lt_of_le_of_lt (pcN_le _) (by decide)) (by first | omega | assumption | exact gnd _ | exact gkn _ | exact Nat.lt_trans (gkn _) (by decide) | exact Nat.lt_trans (gnd _) (by decide) | exact Nat.lt_of_le_of_lt (pcN_le _) (by decide)) gnd gkn gK gF (by first | omega | assumption | exact gnd _ | exact gkn _ | exact Nat.lt_trans (gkn _) (by decide) | exact Nat.lt_trans (gnd _) (by decide) | exact Nat.lt_of_le_of_lt (pcN_le _) (by decide))) (cwV 1 hts gX12_steps_X12_isDenier rfl rfl rfl (by decide +kernel) ⟨Nat.le_of_ble_eq_true rfl, Nat.le_of_ble_eq_true rfl⟩) (preV_R hCX (va_recv hK hP (ci := 12) (q0 := 0) rfl rfl) (hP)) rfl rfl hl.1 rfl (lv_room (Nat.le_of_ble_eq_true rfl)) dX12_steps_2 ⟨Nat.le_of_ble_eq_true (by first | rfl | decide), Nat.le_of_ble_eq_true (by first | rfl | decide)⟩).run) (fun r_2 hr_2 => ?_)
  subst hr_2
  refine lv_if_eq (tgt := 25) hx hb dX12_steps_5 (by decide) (fun z => absurd z (by decide +kernel)) (fun _ => ?_)
  refine lv_aload_n hx hb dX12_steps_8 rfl (lv_at hl 0 rfl) ?_
  refine lv_iload_n hx hb dX12_steps_9 rfl (lv_at hl 2 rfl) ?_
  refine vp_callSi ((va_runV (As := [.int (nI i)]) (rest := []) ⟨hx, hb, hml, hown, hts⟩ (c_X12_isSentence_t l dC dI cI cD cR y as ai ar am ak ao az ae aq af hi th po ba en an aw ax ap se n d t day al nd bb oo K F kn i (by first | omega | assumption | exact gnd _ | exact gkn _ | exact Nat.lt_trans (gkn _) (by decide) | exact Nat.lt_trans (gnd _) (by decide) | exact Nat.lt_of_le_of_lt (pcN_le _) (by decide)) (by first | omega | assumption | exact gnd _ | exact gkn _ | exact Nat.lt_trans (gkn _) (by decide) | exact Nat.lt_trans (gnd _) (by decide) | exact Nat.lt_of_le_of_lt (pcN_le _) (by decide)) (by first | omega | assumption | exact gnd _ | exact gkn _ | exact Nat.lt_trans (gkn _) (by decide) | exact Nat.lt_trans (gnd _) (by decide) | exact Nat.lt_of_le_of_lt (pcN_le _) (by decide)) (by first | omega | assumption | exact gnd _ | exact gkn _ | exact Nat.lt_trans (gkn _) (by decide) | exact Nat.lt_trans (gnd _) (by decide) | exact Nat.lt_of_le_of_lt (pcN_le _) (by decide)) (by first | omega | assumption | exact gnd _ | exact gkn _ | exact Nat.lt_trans (gkn _) (by decide) | exact Nat.lt_trans (gnd _) (by decide) | exact Nat.lt_of_le_of_lt (pcN_le _) (by decide)) gnd gkn gK gF (by first | omega | assumption | exact gnd _ | exact gkn _ | exact Nat.lt_trans (gkn _) (by decide) | exact Nat.lt_trans (gnd _) (by decide) | exact Nat.lt_of_le_of_lt (pcN_le _) (by decide))) (cwV 1 hts gX12_steps_X12_isSentence rfl rfl rfl (by decide +kernel) ⟨Nat.le_of_ble_eq_true rfl, Nat.le_of_ble_eq_true rfl⟩) (preV_R hCX (va_recv hK hP (ci := 12) (q0 := 0) rfl rfl) (hP)) rfl rfl hl.1 rfl (lv_room (Nat.le_of_ble_eq_true rfl)) dX12_steps_10 ⟨Nat.le_of_ble_eq_true (by first | rfl | decide), Nat.le_of_ble_eq_true (by first | rfl | decide)⟩).run) (fun r_10 hr_10 => ?_)
  subst hr_10
  refine lv_if_eq (tgt := 25) hx hb dX12_steps_13 (by decide) (fun z => absurd z (by decide +kernel)) (fun _ => ?_)
  refine lv_aload_n hx hb dX12_steps_16 rfl (lv_at hl 0 rfl) ?_
  refine lv_iload_n hx hb dX12_steps_17 rfl (lv_at hl 1 rfl) ?_
  refine lv_iload_n hx hb dX12_steps_18 rfl (lv_at hl 2 rfl) ?_
  refine vp_callSi ((va_runV (As := [.int (nI j), .int (nI i)]) (rest := []) ⟨hx, hb, hml, hown, hts⟩ (c_X12_stepsOf l dC dI cI cD cR y as ai ar am ak ao az ae aq af hi th po ba en an aw ax ap se n d t day al nd bb oo K F kn j i (by first | omega | assumption | exact gnd _ | exact gkn _ | exact Nat.lt_trans (gkn _) (by decide) | exact Nat.lt_trans (gnd _) (by decide) | exact Nat.lt_of_le_of_lt (pcN_le _) (by decide)) (by first | omega | assumption | exact gnd _ | exact gkn _ | exact Nat.lt_trans (gkn _) (by decide) | exact Nat.lt_trans (gnd _) (by decide) | exact Nat.lt_of_le_of_lt (pcN_le _) (by decide)) (by first | omega | assumption | exact gnd _ | exact gkn _ | exact Nat.lt_trans (gkn _) (by decide) | exact Nat.lt_trans (gnd _) (by decide) | exact Nat.lt_of_le_of_lt (pcN_le _) (by decide)) (by first | omega | assumption | exact gnd _ | exact gkn _ | exact Nat.lt_trans (gkn _) (by decide) | exact Nat.lt_trans (gnd _) (by decide) | exact Nat.lt_of_le_of_lt (pcN_le _) (by decide)) (by first | omega | assumption | exact gnd _ | exact gkn _ | exact Nat.lt_trans (gkn _) (by decide) | exact Nat.lt_trans (gnd _) (by decide) | exact Nat.lt_of_le_of_lt (pcN_le _) (by decide)) gnd gkn gK gF (by first | omega | assumption | exact gnd _ | exact gkn _ | exact Nat.lt_trans (gkn _) (by decide) | exact Nat.lt_trans (gnd _) (by decide) | exact Nat.lt_of_le_of_lt (pcN_le _) (by decide)) (by first | omega | assumption | exact gnd _ | exact gkn _ | exact Nat.lt_trans (gkn _) (by decide) | exact Nat.lt_trans (gnd _) (by decide) | exact Nat.lt_of_le_of_lt (pcN_le _) (by decide))) (cwV 2 hts gX12_steps_X12_stepsOf rfl rfl rfl (by decide +kernel) ⟨Nat.le_of_ble_eq_true rfl, Nat.le_of_ble_eq_true rfl⟩) (preV_R hCX (va_recv hK hP (ci := 12) (q0 := 0) rfl rfl) (hP)) rfl rfl hl.1 rfl (lv_room (Nat.le_of_ble_eq_true rfl)) dX12_steps_19 ⟨Nat.le_of_ble_eq_true (by first | rfl | decide), Nat.le_of_ble_eq_true (by first | rfl | decide)⟩).run) (fun r_19 hr_19 => ?_)
  subst hr_19
  refine lv_goto (tgt := 26) hx hb dX12_steps_22 (by decide) ?_
  exact W.iret (v := nI (efN (K j) (F j) (pcN (nd i)))) hx hb hr (fun T9 hT9 hW9 => ⟨_, rfl, (by (simp [on2, on1, oN_t h_j, oN_t h_i]) <;> first | rfl | omega), hT9⟩) (fun q h => by cases h) dX12_steps_26
set_option maxHeartbeats 4000000 in
set_option maxRecDepth 100000 in
theorem c_X12_falls (l : Launch) (dC : Nat → ClassId) (dI : Nat → Nat → Nat) (cI cD cR : ClassId) (y as ai ar am ak ao az ae aq af : Nat) (hi : Bool) (th : Int32) (po ba en an aw ax ap : Nat) (se : Int32) (n d t day al : Nat) (nd : Nat → Nat) (bb oo : Nat → Int32) (K F kn : Nat → Nat) (x : Int32) (hn : n ≤ 9) (hd : d ≤ 7) (ht : t < 512) (hal : al < 128) (hday : day < 2 ^ 30) (gnd : ∀ i, nd i < 512) (gkn : ∀ j, kn j < 512) (gK : ∀ j, K j < 8) (gF : ∀ j, F j < 10) : Met l yX12_falls wsX12_falls ({ frames := 3, cells := 0, slots := 0, locals := 66 }) (pcR dC dI cI cD cR [.ref y, .int x] (fun H => va_P (dC, dI) vwCl ([(y, .inr (12, [.ref as, .ref ai, .ref ar, .ref am, .ref ak, .ref ao, .ref az, .ref ae, .ref aq, .ref af, .int (bI hi), .int th, .int (nI po), .int (nI ba), .int (nI en), .ref an, .ref aw, .ref ax, .ref ap, .int se]))] ++ [(as, .inl (cI, 53, .inl (sF n d t day al nd bb oo K F kn)))]) H)) (vp_Si (fun r => r = (on1 (oN x d) (fun j => nI (bif al.testBit j then ruR t nd n 9 (orF (fun s9 => t.testBit s9 && decide (bb s9 = nI j)) n) else 0)) (-1)))) 0 0 (fun _ => False) := by
  refine Met.ofW (cc := cX12_falls) (maxL := 2) (ret := (some .int)) (by decide) rfl ?_
  intro p e s m args below meth c s₁ B hml hv
  obtain ⟨rfl, hH0, hCX⟩ := hv
  have hx := B.exec
  have hb := B.bytes
  have hr := B.returns
  have hts := atoms_spec (ws := wsX12_falls) B.pre
  have hown : s.vm.findClass RX12 = some m.cls := findClass_of_methodNamed B.named
  have hlocks := B.notSynchronized
  have hK := hCX.1
  have hP := hH0
  have hl := lv_entry ([.ref y, .int x]) (n := 2) (Nat.le_of_ble_eq_true rfl)
  rw [lg_entry_eq]
  generalize (lg_sl ([.ref y, .int x]) ++ List.replicate (2 - (lg_sl ([.ref y, .int x])).length) Slot.unset).toArray = ls at hl ⊢
  have hl : lv_has ls 2 [(0, .ref y), (1, .int x)] := hl
  rcases okI_or x (n := d) (by omega) with hb_x | ⟨v, h_v, rfl⟩
  · refine lv_aload_n hx hb dX12_falls_0 rfl (lv_at hl 0 rfl) ?_
    refine lv_iload_n hx hb dX12_falls_1 rfl (lv_at hl 1 rfl) ?_
    refine vp_callSi ((va_runV (As := [.int x]) (rest := []) ⟨hx, hb, hml, hown, hts⟩ (c_X12_isDenier_f l dC dI cI cD cR y as ai ar am ak ao az ae aq af hi th po ba en an aw ax ap se n d t day al nd bb oo K F kn x (by first | omega | assumption | exact gnd _ | exact gkn _ | exact Nat.lt_trans (gkn _) (by decide) | exact Nat.lt_trans (gnd _) (by decide) | exact Nat.lt_of_le_of_lt (pcN_le _) (by decide)) (by first | omega | assumption | exact gnd _ | exact gkn _ | exact Nat.lt_trans (gkn _) (by decide) | exact Nat.lt_trans (gnd _) (by decide) | exact Nat.lt_of_le_of_lt (pcN_le _) (by decide)) (by first | omega | assumption | exact gnd _ | exact gkn _ | exact Nat.lt_trans (gkn _) (by decide) | exact Nat.lt_trans (gnd _) (by decide) | exact Nat.lt_of_le_of_lt (pcN_le _) (by decide)) (by first | omega | assumption | exact gnd _ | exact gkn _ | exact Nat.lt_trans (gkn _) (by decide) | exact Nat.lt_trans (gnd _) (by decide) | exact Nat.lt_of_le_of_lt (pcN_le _) (by decide)) (by first | omega | assumption | exact gnd _ | exact gkn _ | exact Nat.lt_trans (gkn _) (by decide) | exact Nat.lt_trans (gnd _) (by decide) | exact Nat.lt_of_le_of_lt (pcN_le _) (by decide)) gnd gkn gK gF (by first | omega | assumption | exact gnd _ | exact gkn _ | exact Nat.lt_trans (gkn _) (by decide) | exact Nat.lt_trans (gnd _) (by decide) | exact Nat.lt_of_le_of_lt (pcN_le _) (by decide))) (cwV 1 hts gX12_falls_X12_isDenier rfl rfl rfl (by decide +kernel) ⟨Nat.le_of_ble_eq_true rfl, Nat.le_of_ble_eq_true rfl⟩) (preV_R hCX (va_recv hK hP (ci := 12) (q0 := 0) rfl rfl) (hP)) rfl rfl hl.1 rfl (lv_room (Nat.le_of_ble_eq_true rfl)) dX12_falls_2 ⟨Nat.le_of_ble_eq_true (by first | rfl | decide), Nat.le_of_ble_eq_true (by first | rfl | decide)⟩).run) (fun r_2 hr_2 => ?_)
    subst hr_2
    refine lv_if_eq (tgt := 16) hx hb dX12_falls_5 (by decide) (fun _ => ?_) (fun z => absurd z (by decide +kernel))
    refine lv_iconst (v := (-1)) hx hb dX12_falls_16 (by decide +kernel) ?_
    exact W.iret (v := (-1)) hx hb hr (fun T9 hT9 hW9 => ⟨_, rfl, (by (simp [on1, oN_f hb_x]) <;> first | rfl | omega), hT9⟩) (fun q h => by cases h) dX12_falls_17
  refine lv_aload_n hx hb dX12_falls_0 rfl (lv_at hl 0 rfl) ?_
  refine lv_iload_n hx hb dX12_falls_1 rfl (lv_at hl 1 rfl) ?_
  refine vp_callSi ((va_runV (As := [.int (nI v)]) (rest := []) ⟨hx, hb, hml, hown, hts⟩ (c_X12_isDenier_t l dC dI cI cD cR y as ai ar am ak ao az ae aq af hi th po ba en an aw ax ap se n d t day al nd bb oo K F kn v (by first | omega | assumption | exact gnd _ | exact gkn _ | exact Nat.lt_trans (gkn _) (by decide) | exact Nat.lt_trans (gnd _) (by decide) | exact Nat.lt_of_le_of_lt (pcN_le _) (by decide)) (by first | omega | assumption | exact gnd _ | exact gkn _ | exact Nat.lt_trans (gkn _) (by decide) | exact Nat.lt_trans (gnd _) (by decide) | exact Nat.lt_of_le_of_lt (pcN_le _) (by decide)) (by first | omega | assumption | exact gnd _ | exact gkn _ | exact Nat.lt_trans (gkn _) (by decide) | exact Nat.lt_trans (gnd _) (by decide) | exact Nat.lt_of_le_of_lt (pcN_le _) (by decide)) (by first | omega | assumption | exact gnd _ | exact gkn _ | exact Nat.lt_trans (gkn _) (by decide) | exact Nat.lt_trans (gnd _) (by decide) | exact Nat.lt_of_le_of_lt (pcN_le _) (by decide)) (by first | omega | assumption | exact gnd _ | exact gkn _ | exact Nat.lt_trans (gkn _) (by decide) | exact Nat.lt_trans (gnd _) (by decide) | exact Nat.lt_of_le_of_lt (pcN_le _) (by decide)) gnd gkn gK gF (by first | omega | assumption | exact gnd _ | exact gkn _ | exact Nat.lt_trans (gkn _) (by decide) | exact Nat.lt_trans (gnd _) (by decide) | exact Nat.lt_of_le_of_lt (pcN_le _) (by decide))) (cwV 1 hts gX12_falls_X12_isDenier rfl rfl rfl (by decide +kernel) ⟨Nat.le_of_ble_eq_true rfl, Nat.le_of_ble_eq_true rfl⟩) (preV_R hCX (va_recv hK hP (ci := 12) (q0 := 0) rfl rfl) (hP)) rfl rfl hl.1 rfl (lv_room (Nat.le_of_ble_eq_true rfl)) dX12_falls_2 ⟨Nat.le_of_ble_eq_true (by first | rfl | decide), Nat.le_of_ble_eq_true (by first | rfl | decide)⟩).run) (fun r_2 hr_2 => ?_)
  subst hr_2
  refine lv_if_eq (tgt := 16) hx hb dX12_falls_5 (by decide) (fun z => absurd z (by decide +kernel)) (fun _ => ?_)
  refine lv_aload_n hx hb dX12_falls_8 rfl (lv_at hl 0 rfl) ?_
  refine lv_iload_n hx hb dX12_falls_9 rfl (lv_at hl 1 rfl) ?_
  refine vp_callSi ((va_runV (As := [.int (nI v)]) (rest := []) ⟨hx, hb, hml, hown, hts⟩ (c_X12_fallsBy l dC dI cI cD cR y as ai ar am ak ao az ae aq af hi th po ba en an aw ax ap se n d t day al nd bb oo K F kn v (by first | omega | assumption | exact gnd _ | exact gkn _ | exact Nat.lt_trans (gkn _) (by decide) | exact Nat.lt_trans (gnd _) (by decide) | exact Nat.lt_of_le_of_lt (pcN_le _) (by decide)) (by first | omega | assumption | exact gnd _ | exact gkn _ | exact Nat.lt_trans (gkn _) (by decide) | exact Nat.lt_trans (gnd _) (by decide) | exact Nat.lt_of_le_of_lt (pcN_le _) (by decide)) (by first | omega | assumption | exact gnd _ | exact gkn _ | exact Nat.lt_trans (gkn _) (by decide) | exact Nat.lt_trans (gnd _) (by decide) | exact Nat.lt_of_le_of_lt (pcN_le _) (by decide)) (by first | omega | assumption | exact gnd _ | exact gkn _ | exact Nat.lt_trans (gkn _) (by decide) | exact Nat.lt_trans (gnd _) (by decide) | exact Nat.lt_of_le_of_lt (pcN_le _) (by decide)) (by first | omega | assumption | exact gnd _ | exact gkn _ | exact Nat.lt_trans (gkn _) (by decide) | exact Nat.lt_trans (gnd _) (by decide) | exact Nat.lt_of_le_of_lt (pcN_le _) (by decide)) gnd gkn gK gF (by first | omega | assumption | exact gnd _ | exact gkn _ | exact Nat.lt_trans (gkn _) (by decide) | exact Nat.lt_trans (gnd _) (by decide) | exact Nat.lt_of_le_of_lt (pcN_le _) (by decide))) (cwV 1 hts gX12_falls_X12_fallsBy rfl rfl rfl (by decide +kernel) ⟨Nat.le_of_ble_eq_true rfl, Nat.le_of_ble_eq_true rfl⟩) (preV_R hCX (va_recv hK hP (ci := 12) (q0 := 0) rfl rfl) (hP)) rfl rfl hl.1 rfl (lv_room (Nat.le_of_ble_eq_true rfl)) dX12_falls_10 ⟨Nat.le_of_ble_eq_true (by first | rfl | decide), Nat.le_of_ble_eq_true (by first | rfl | decide)⟩).run) (fun r_10 hr_10 => ?_)
  subst hr_10
  refine lv_goto (tgt := 17) hx hb dX12_falls_13 (by decide) ?_
  exact W.iret (v := nI (bif al.testBit v then ruR t nd n 9 (orF (fun s9 => t.testBit s9 && decide (bb s9 = nI v)) n) else 0)) hx hb hr (fun T9 hT9 hW9 => ⟨_, rfl, (by (simp [on1, oN_t h_v]) <;> first | rfl | omega), hT9⟩) (fun q h => by cases h) dX12_falls_17
set_option maxHeartbeats 4000000 in
set_option maxRecDepth 100000 in
theorem c_X12_lonely (l : Launch) (dC : Nat → ClassId) (dI : Nat → Nat → Nat) (cI cD cR : ClassId) (y as ai ar am ak ao az ae aq af : Nat) (hi : Bool) (th : Int32) (po ba en an aw ax ap : Nat) (se : Int32) (n d t day al : Nat) (nd : Nat → Nat) (bb oo : Nat → Int32) (K F kn : Nat → Nat) (hn : n ≤ 9) (hd : d ≤ 7) (ht : t < 512) (hal : al < 128) (hday : day < 2 ^ 30) (gnd : ∀ i, nd i < 512) (gkn : ∀ j, kn j < 512) (gK : ∀ j, K j < 8) (gF : ∀ j, F j < 10) (hd6 : d ≤ 6) : Met l yX12_lonely wsX12_lonely ({ frames := 5, cells := 0, slots := 0, locals := 114 }) (pcR dC dI cI cD cR [.ref y] (fun H => va_P (dC, dI) vwCl ([(y, .inr (12, [.ref as, .ref ai, .ref ar, .ref am, .ref ak, .ref ao, .ref az, .ref ae, .ref aq, .ref af, .int (bI hi), .int th, .int (nI po), .int (nI ba), .int (nI en), .ref an, .ref aw, .ref ax, .ref ap, .int se]))] ++ [(as, .inl (cI, 53, .inl (sF n d t day al nd bb oo K F kn)))]) H)) (vp_Si (fun r => r = nI (lmF (fun j => orF (fun s9 => mnB t al nd K F kn j s9) n) d (sdf (2 ^ n - 1) t)))) 0 0 (fun _ => False) := by
  refine Met.ofW (cc := cX12_lonely) (maxL := 3) (ret := (some .int)) (by decide) rfl ?_
  intro p e s m args below meth c s₁ B hml hv
  obtain ⟨rfl, hH0, hCX⟩ := hv
  have hx := B.exec
  have hb := B.bytes
  have hr := B.returns
  have hts := atoms_spec (ws := wsX12_lonely) B.pre
  have hown : s.vm.findClass RX12 = some m.cls := findClass_of_methodNamed B.named
  have hlocks := B.notSynchronized
  have hK := hCX.1
  have hP := hH0
  have hl := lv_entry ([.ref y]) (n := 3) (Nat.le_of_ble_eq_true rfl)
  rw [lg_entry_eq]
  generalize (lg_sl ([.ref y]) ++ List.replicate (3 - (lg_sl ([.ref y])).length) Slot.unset).toArray = ls at hl ⊢
  have hl : lv_has ls 3 [(0, .ref y)] := hl
  refine lv_aload_n hx hb dX12_lonely_0 rfl (lv_at hl 0 rfl) ?_
  refine vp_callSi ((va_runV (As := []) (rest := []) ⟨hx, hb, hml, hown, hts⟩ (c_X12_everything l dC dI cI cD cR y as ai ar am ak ao az ae aq af hi th po ba en an aw ax ap se n d t day al nd bb oo K F kn (by first | omega | assumption | exact gnd _ | exact gkn _ | exact Nat.lt_trans (gkn _) (by decide) | exact Nat.lt_trans (gnd _) (by decide) | exact Nat.lt_of_le_of_lt (pcN_le _) (by decide)) (by first | omega | assumption | exact gnd _ | exact gkn _ | exact Nat.lt_trans (gkn _) (by decide) | exact Nat.lt_trans (gnd _) (by decide) | exact Nat.lt_of_le_of_lt (pcN_le _) (by decide)) (by first | omega | assumption | exact gnd _ | exact gkn _ | exact Nat.lt_trans (gkn _) (by decide) | exact Nat.lt_trans (gnd _) (by decide) | exact Nat.lt_of_le_of_lt (pcN_le _) (by decide)) (by first | omega | assumption | exact gnd _ | exact gkn _ | exact Nat.lt_trans (gkn _) (by decide) | exact Nat.lt_trans (gnd _) (by decide) | exact Nat.lt_of_le_of_lt (pcN_le _) (by decide)) (by first | omega | assumption | exact gnd _ | exact gkn _ | exact Nat.lt_trans (gkn _) (by decide) | exact Nat.lt_trans (gnd _) (by decide) | exact Nat.lt_of_le_of_lt (pcN_le _) (by decide)) gnd gkn gK gF) (cwV 0 hts gX12_lonely_X12_everything rfl rfl rfl (by decide +kernel) ⟨Nat.le_of_ble_eq_true rfl, Nat.le_of_ble_eq_true rfl⟩) (preV_R hCX (va_recv hK hP (ci := 12) (q0 := 0) rfl rfl) (hP)) rfl rfl hl.1 rfl (lv_room (Nat.le_of_ble_eq_true rfl)) dX12_lonely_1 ⟨Nat.le_of_ble_eq_true (by first | rfl | decide), Nat.le_of_ble_eq_true (by first | rfl | decide)⟩).run) (fun r_1 hr_1 => ?_)
  subst hr_1
  refine lv_aload_n hx hb dX12_lonely_4 rfl (lv_at hl 0 rfl) ?_
  refine va_get (D := (dC, dI)) (ci := 12) (v := .ref as) (C := RX12) (T := TX12) (N := 20) hx hb hts (fun _ h => List.mem_cons_of_mem _ (List.mem_append_right _ h)) hown hK hP 0 rfl rfl 0 (by decide) (hts (.fieldLink RX12 9 "HoldsOnceDeniedModel" "s" "[I") (by decide +kernel)) (fun _ h9 => h9) rfl dX12_lonely_5 ?_
  refine lv_iconst (v := nI 2) hx hb dX12_lonely_8 (by decide +kernel) ?_
  refine ho_iald (v := nI t) hx hb hK hP 1 0 rfl rfl (by omega) (by first | decide | omega) rfl dX12_lonely_9 ?_
  refine lv_iconst (v := (-1)) hx hb dX12_lonely_10 (by decide +kernel) ?_
  refine lv_ixor hx hb dX12_lonely_11 ?_
  refine ho_iandC hx hb dX12_lonely_12 ?_
  refine lv_istore_n (lv' := [(1, .int (nI (sdf (2 ^ n - 1) t))), (0, .ref y)]) hx hb dX12_lonely_13 rfl hl (by decide) rfl (fun ls hl => ?_)
  refine lv_iconst (v := nI 0) hx hb dX12_lonely_14 (by decide +kernel) ?_
  refine lv_istore_n (lv' := [(2, .int (nI 0)), (1, .int (nI (sdf (2 ^ n - 1) t))), (0, .ref y)]) hx hb dX12_lonely_15 rfl hl (by decide) rfl (fun ls hl => ?_)
  have e9_1 : sdf (2 ^ n - 1) t = lmF (fun 0 => orF (fun s9 => mnB t al nd K F kn 0 s9) n) 0 (sdf (2 ^ n - 1) t) := by rfl
  rw [e9_1] at hl
  refine ho_lp (T := Nat) 3 (fun x9 => [(2, .int (nI x9)), (1, .int (nI (lmF (fun x9 => orF (fun s9 => mnB t al nd K F kn x9 s9) n) x9 (sdf (2 ^ n - 1) t)))), (0, .ref y)]) (fun x9 => []) (fun x9 => (x9 ≤ d)) (fun x9 => d - x9) 0 (by omega) (lv_sub hl [0, 1, 2] rfl) ?_
  intro fu16 j ls hI hm16 hl ih
  have hjd := hI
  have hl : lv_has ls 3 [(2, .int (nI j)), (1, .int (nI (lmF (fun j => orF (fun s9 => mnB t al nd K F kn j s9) n) j (sdf (2 ^ n - 1) t)))), (0, .ref y)] := hl
  have hjd : j ≤ d := hjd
  have hm16 : d - j < fu16 + 1 := hm16
  refine W.eq (g2 := F0 m 16 ls []) rfl ?_
  have ih16 := ih
  refine lv_iload_n hx hb dX12_lonely_16 rfl (lv_at hl 0 rfl) ?_
  refine lv_aload_n hx hb dX12_lonely_17 rfl (lv_at hl 2 rfl) ?_
  refine va_get (D := (dC, dI)) (ci := 12) (v := .ref as) (C := RX12) (T := TX12) (N := 20) hx hb hts (fun _ h => List.mem_cons_of_mem _ (List.mem_append_right _ h)) hown hK hP 0 rfl rfl 0 (by decide) (hts (.fieldLink RX12 9 "HoldsOnceDeniedModel" "s" "[I") (by decide +kernel)) (fun _ h9 => h9) rfl dX12_lonely_18 ?_
  refine lv_iconst (v := nI 1) hx hb dX12_lonely_21 (by decide +kernel) ?_
  refine ho_iald (v := nI d) hx hb hK hP 1 0 rfl rfl (by omega) (by first | decide | omega) rfl dX12_lonely_22 ?_
  refine ho_icmp_ge (tgt := 42) hx hb dX12_lonely_23 (by decide) (by omega) (by omega) (fun c_23 => ?_) (fun c_23 => ?_)
  · refine lv_iload_n hx hb dX12_lonely_42 rfl (lv_at hl 1 rfl) ?_
    exact W.iret (v := nI (lmF (fun j => orF (fun s9 => mnB t al nd K F kn j s9) n) j (sdf (2 ^ n - 1) t))) hx hb hr (fun T9 hT9 hW9 => ⟨_, rfl, (congrArg nI (by rw [show j = d by omega])), hT9⟩) (fun q h => by cases h) dX12_lonely_43
  refine lv_iload_n hx hb dX12_lonely_26 rfl (lv_at hl 1 rfl) ?_
  refine lv_aload_n hx hb dX12_lonely_27 rfl (lv_at hl 2 rfl) ?_
  refine lv_iload_n hx hb dX12_lonely_28 rfl (lv_at hl 0 rfl) ?_
  refine vp_callSi ((va_runV (As := [.int (nI j)]) (rest := [.int (nI (lmF (fun j => orF (fun s9 => mnB t al nd K F kn j s9) n) j (sdf (2 ^ n - 1) t)))]) ⟨hx, hb, hml, hown, hts⟩ (c_X12_may_n l dC dI cI cD cR y as ai ar am ak ao az ae aq af hi th po ba en an aw ax ap se n d t day al nd bb oo K F kn j (by first | omega | assumption | exact gnd _ | exact gkn _ | exact Nat.lt_trans (gkn _) (by decide) | exact Nat.lt_trans (gnd _) (by decide) | exact Nat.lt_of_le_of_lt (pcN_le _) (by decide)) (by first | omega | assumption | exact gnd _ | exact gkn _ | exact Nat.lt_trans (gkn _) (by decide) | exact Nat.lt_trans (gnd _) (by decide) | exact Nat.lt_of_le_of_lt (pcN_le _) (by decide)) (by first | omega | assumption | exact gnd _ | exact gkn _ | exact Nat.lt_trans (gkn _) (by decide) | exact Nat.lt_trans (gnd _) (by decide) | exact Nat.lt_of_le_of_lt (pcN_le _) (by decide)) (by first | omega | assumption | exact gnd _ | exact gkn _ | exact Nat.lt_trans (gkn _) (by decide) | exact Nat.lt_trans (gnd _) (by decide) | exact Nat.lt_of_le_of_lt (pcN_le _) (by decide)) (by first | omega | assumption | exact gnd _ | exact gkn _ | exact Nat.lt_trans (gkn _) (by decide) | exact Nat.lt_trans (gnd _) (by decide) | exact Nat.lt_of_le_of_lt (pcN_le _) (by decide)) gnd gkn gK gF (by first | omega | assumption | exact gnd _ | exact gkn _ | exact Nat.lt_trans (gkn _) (by decide) | exact Nat.lt_trans (gnd _) (by decide) | exact Nat.lt_of_le_of_lt (pcN_le _) (by decide)) (by first | omega | assumption | exact gnd _ | exact gkn _ | exact Nat.lt_trans (gkn _) (by decide) | exact Nat.lt_trans (gnd _) (by decide) | exact Nat.lt_of_le_of_lt (pcN_le _) (by decide))) (cwV 1 hts gX12_lonely_X12_may rfl rfl rfl (by decide +kernel) ⟨Nat.le_of_ble_eq_true rfl, Nat.le_of_ble_eq_true rfl⟩) (preV_R hCX (va_recv hK hP (ci := 12) (q0 := 0) rfl rfl) (hP)) rfl rfl hl.1 rfl (lv_room (Nat.le_of_ble_eq_true rfl)) dX12_lonely_29 ⟨Nat.le_of_ble_eq_true (by first | rfl | decide), Nat.le_of_ble_eq_true (by first | rfl | decide)⟩).run) (fun r_29 hr_29 => ?_)
  subst hr_29
  refine lv_iconst (v := (-1)) hx hb dX12_lonely_32 (by decide +kernel) ?_
  refine lv_ixor hx hb dX12_lonely_33 ?_
  refine ho_iandC hx hb dX12_lonely_34 ?_
  refine lv_istore_n (lv' := [(1, .int (nI (sdf (lmF (fun j => orF (fun s9 => mnB t al nd K F kn j s9) n) j (sdf (2 ^ n - 1) t)) (orF (fun s9 => mnB t al nd K F kn j s9) n)))), (2, .int (nI j)), (0, .ref y)]) hx hb dX12_lonely_35 rfl hl (by decide) rfl (fun ls hl => ?_)
  refine ho_iinc (lv' := [(2, .int (nI (j + 1))), (1, .int (nI (sdf (lmF (fun j => orF (fun s9 => mnB t al nd K F kn j s9) n) j (sdf (2 ^ n - 1) t)) (orF (fun s9 => mnB t al nd K F kn j s9) n)))), (0, .ref y)]) (a := j) (b := 1) hx hb dX12_lonely_36 hl (k := 1) rfl rfl (by decide) rfl (fun ls hl => ?_)
  refine lv_goto (tgt := 16) hx hb dX12_lonely_39 (by decide) ?_
  have e9_1 : sdf (lmF (fun j => orF (fun s9 => mnB t al nd K F kn j s9) n) j (sdf (2 ^ n - 1) t)) (orF (fun s9 => mnB t al nd K F kn j s9) n) = lmF (fun (j + 1) => orF (fun s9 => mnB t al nd K F kn (j + 1) s9) n) (j + 1) (sdf (2 ^ n - 1) t) := by rfl
  rw [e9_1] at hl
  exact ih16 (j + 1) _ (by omega) (show d - (j + 1) < fu16 from (by omega)) (lv_sub hl [0, 1, 2] rfl)
