theorem gt_of {i L : Nat} (hi : i ≤ 4000) (hL : L ≤ 3072) (h : ¬ nI L - nI 6 < nI i) : i + 6 ≤ L := by
  rw [Int32.lt_iff_toInt_lt, Int32.toInt_sub, nI_toInt (show L < 2 ^ 31 by omega), nI_toInt (show 6 < 2 ^ 31 by omega), nI_toInt (show i < 2 ^ 31 by omega), Int.bmod_eq_of_le (by omega) (by omega)] at h
  omega
set_option maxHeartbeats 4000000 in
set_option maxRecDepth 100000 in
/-- THE LOOP: with fuel k -/
theorem lk_loop {p : Program} {l : Launch} {e : Env} {s : State} {m : MethodId} {below : List Frame} {meth : Method} {c : Code} {b L : Nat} {xs : Nat → Int32} {dC : Nat → ClassId} {dI : Nat → Nat → Nat} {cI cD cR cL : ClassId} {ad : Nat → Nat} {sa9 : Nat → Nat} (C0 : LC p l s m meth c b L xs dC dI cI cD cR cL ad sa9) : ∀ (k i : Nat) {H : Heap} {locs : List Loc} {ls : Array Slot}, i ≤ L → L < i + 6 * (k + 1) → LI dC dI cI cD cR cL ad s.heap.size (17 * i) H → va_S (fun q => s.heap.size ≤ q) s.heap H locs → lv_has ls 8 [(4, .int (nI i)), (3, .ref (ad 40)), (2, .ref (ad 25)), (1, .ref (ad 0)), (0, .ref b)] → W p l e room_1 s m #[Value.ref b] below meth c H locs (100 + 10 * i) (10000 + 100 * i) (lw_Z below #[Value.ref b] s) (F0 m 23 ls []) := by
  have C1 := C0
  obtain ⟨⟨hx, hb, hr, hml, hown, htl, hX, hbl, hlocks⟩, -, -, -, -, -, hL⟩ := C1
  have hbA : ¬ (fun q : Nat => s.heap.size ≤ q) b := Nat.not_le.mpr hbl
  have hout : ∀ (i : Nat) {H : Heap} {locs : List Loc} {ls : Array Slot}, i ≤ L → va_S (fun q => s.heap.size ≤ q) s.heap H locs → W p l e room_1 s m #[Value.ref b] below meth c H locs (100 + 10 * i) (10000 + 100 * i) (lw_Z below #[Value.ref b] s) (F0 m 1229 ls []) := by
    intro i H locs ls hi hS
    refine lv_iconst (v := 1) hx hb dL_law_1229 (by decide) ?_
    refine va_forget hS.2.2 ?_
    refine W.widen (k := 903060) (n := 6386924) (by omega) (by omega) ?_
    exact lw_ret hx hb hr hlocks dL_law_1230
  intro k
  induction k with
  | zero => 
    intro i H locs ls hi hk hI hS hl
    refine lv_iload hx hb dL_law_23 (lv_at hl 0 rfl) ?_
    refine lv_aload_n hx hb dL_law_25 rfl (lv_at hl 4 rfl) ?_
    refine va_slen hx hb hX hbl hbA hS dL_law_26 ?_
    refine lv_bipush (v := nI 6) hx hb dL_law_27 (by decide +kernel) ?_
    refine lv_isub hx hb dL_law_29 ?_
    refine lv_icmp_gt (tgt := 1229) hx hb dL_law_30 (by decide) (fun _ => hout i hi hS) (fun h9 => ?_)
    have hi6 : i + 6 ≤ L := gt_of (by omega) hL h9
    omega
  | succ k ih =>
    intro i H locs ls hi hk hI hS hl
    refine lv_iload hx hb dL_law_23 (lv_at hl 0 rfl) ?_
    refine lv_aload_n hx hb dL_law_25 rfl (lv_at hl 4 rfl) ?_
    refine va_slen hx hb hX hbl hbA hS dL_law_26 ?_
    refine lv_bipush (v := nI 6) hx hb dL_law_27 (by decide +kernel) ?_
    refine lv_isub hx hb dL_law_29 ?_
    refine lv_icmp_gt (tgt := 1229) hx hb dL_law_30 (by decide) (fun _ => hout i hi hS) (fun h9 => ?_)
    have hi6 : i + 6 ≤ L := gt_of (by omega) hL h9
    refine lk_step C0 (by omega) hI hS hl hi6 (by omega) (by omega) (fun H1 locs1 ls1 hI1 hS1 hl1 => ?_)
    refine ho_iinc (lv' := [(4, .int (nI (i + 6))), (3, .ref (ad 40)), (2, .ref (ad 25)), (1, .ref (ad 0)), (0, .ref b)]) (a := i) (b := 6) hx hb dL_law_1223 hl1 (k := 0) rfl rfl (by decide) rfl (fun ls hl => ?_)
    refine lv_goto (tgt := 23) hx hb dL_law_1226 (by decide) ?_
    refine W.widen (k := 100 + 10 * (i + 6)) (n := 10000 + 100 * (i + 6)) (by omega) (by omega) ?_
    obtain ⟨hi, n, d, t, day, al, nd, bb, oo, K, F, kn, nZ, dZ, tZ, dayZ, alZ, ndZ, bbZ, ooZ, KZ, FZ, knZ, ke, so, zz, el, qk, qf, hXS, hMT⟩ := hI1
    exact ih (i + 6) hi6 (by omega) ⟨_, _, _, _, _, _, _, _, _, _, _, _, _, _, _, _, _, _, _, _, _, _, _, _, _, _, _, _, _, hXS.mono (by omega), hMT⟩ hS1 hl
