theorem adL_len (ad : Nat → Nat) : ∀ (b k : Nat), (adL ad b k).length = k
  | _, 0 => rfl
  | b, k + 1 => by
    show (adL ad (b + 1) k).length + 1 = k + 1
    rw [adL_len ad (b + 1) k]
theorem ad_of {A : Nat → Prop} {ws : va_W} {ad : Nat → Nat} {k i j : Nat} (hD : va_D A ws) (e : ws.map Prod.fst = adL ad 0 k) (hi : i < k) (hj : j < k) (h : ad i = ad j) : i = j := by
  have hlen : ws.length = k := by rw [← List.length_map (f := Prod.fst), e, adL_len]
  have h1 : ws[i]? = some ws[i] := List.getElem?_eq_getElem (by omega)
  have h2 : ws[j]? = some ws[j] := List.getElem?_eq_getElem (by omega)
  have a1 := (ws_at e h1).2
  have a2 := (ws_at e h2).2
  rw [Nat.zero_add] at a1 a2
  exact hD.1 i j _ _ h1 h2 (by rw [a1, a2, h])
theorem ad_ge {ws : va_W} {ad : Nat → Nat} {k i s0 : Nat} (hD : va_D (fun q => s0 ≤ q) ws) (e : ws.map Prod.fst = adL ad 0 k) (hi : i < k) : s0 ≤ ad i := by
  have hlen : ws.length = k := by rw [← List.length_map (f := Prod.fst), e, adL_len]
  have h1 : ws[i]? = some ws[i] := List.getElem?_eq_getElem (by omega)
  have a1 := (ws_at e h1).2
  rw [Nat.zero_add] at a1
  have := hD.2 i _ h1
  rw [a1] at this
  exact this
theorem ad_lt {D : va_G} {ws : va_W} {ad : Nat → Nat} {k i : Nat} {H : Heap} (hP : va_P D vwCl ws H) (e : ws.map Prod.fst = adL ad 0 k) (hi : i < k) : ad i < H.size := by
  have hlen : ws.length = k := by rw [← List.length_map (f := Prod.fst), e, adL_len]
  have h1 : ws[i]? = some ws[i] := List.getElem?_eq_getElem (by omega)
  have a1 := (ws_at e h1).2
  rw [Nat.zero_add] at a1
  have := (hP i _ h1).lt
  rw [a1] at this
  exact this
theorem nF_0 : nF (fun _ => 0) = fun _ => 0 := by funext k; show nI 0 = 0; decide
theorem oF_0 : oF (fun _ => some 0) = fun _ => 0 := by funext k; show oI (some 0) = 0; decide
set_option maxHeartbeats 4000000 in
set_option maxRecDepth 100000 in
theorem lk_step {p : Program} {l : Launch} {e : Env} {s : State} {m : MethodId} {below : List Frame} {meth : Method} {c : Code} {b L : Nat} {xs : Nat → Int32} {dC : Nat → ClassId} {dI : Nat → Nat → Nat} {cI cD cR cL : ClassId} {ad : Nat → Nat} {sa9 : Nat → Nat} {B i : Nat} {H : Heap} {locs : List Loc} {cells slots : Nat} {ls : Array Slot} (C0 : LC p l s m meth c b L xs dC dI cI cD cR cL ad sa9) (hB : B ≤ 60000) (hI : LI dC dI cI cD cR cL ad s.heap.size B H) (hS : va_S (fun q => s.heap.size ≤ q) s.heap H locs) (hl : lv_has ls 8 [(4, .int (nI i)), (3, .ref (ad 40)), (2, .ref (ad 25)), (1, .ref (ad 0)), (0, .ref b)]) (hi : i + 6 ≤ L) (hc9 : cells + 20 ≤ 601024) (hs9 : slots + 220 ≤ 6386924) (kk : ∀ (H1 : Heap) (locs1 : List Loc) (ls1 : Array Slot), LI dC dI cI cD cR cL ad s.heap.size (B + 100) H1 → va_S (fun q => s.heap.size ≤ q) s.heap H1 locs1 → lv_has ls1 8 [(4, .int (nI i)), (3, .ref (ad 40)), (2, .ref (ad 25)), (1, .ref (ad 0)), (0, .ref b)] → W p l e room_1 s m #[Value.ref b] below meth c H1 locs1 (cells + 20) (slots + 220) (lw_Z below #[Value.ref b] s) (F0 m 1223 ls1 [])) : W p l e room_1 s m #[Value.ref b] below meth c H locs cells slots (lw_Z below #[Value.ref b] s) (F0 m 33 ls []) := by
  have C1 := C0
  obtain ⟨⟨hx, hb, hr, hml, hown, htl, hX, hbl, hlocks⟩, -, -, -, -, -, hL⟩ := C1
  have hbA : ¬ (fun q : Nat => s.heap.size ≤ q) b := Nat.not_le.mpr hbl
  refine lv_aload_n hx hb dL_law_33 rfl (lv_at hl 4 rfl) ?_
  refine lv_iload hx hb dL_law_34 (lv_at hl 0 rfl) ?_
  refine va_sld hx hb hX hbl hbA hS (vp_in_nI (by omega) (by omega)) dL_law_36 ?_
  refine lv_bipush (v := nI 63) hx hb dL_law_37 (by decide +kernel) ?_
  refine lv_iand hx hb dL_law_39 ?_
  generalize xs (nI i).toNatClampNeg &&& nI 63 = v9
  by_cases k_0 : v9 = 0
  · refine ho_tope (y := 0) k_0 ?_
    refine lv_tableIn (tgt := 188) hx hb dL_law_40 (by decide +kernel) (by decide +kernel) (off := 148) (by decide +kernel) (by decide) ?_
    exact lk_school C0 hB hI hS hl hi hc9 hs9 kk
  by_cases k_1 : v9 = 1
  · refine ho_tope (y := 1) k_1 ?_
    refine lv_tableIn (tgt := 213) hx hb dL_law_40 (by decide +kernel) (by decide +kernel) (off := 173) (by decide +kernel) (by decide) ?_
    exact lk_sentence C0 hB hI hS hl hi hc9 hs9 kk
  by_cases k_2 : v9 = 2
  · refine ho_tope (y := 2) k_2 ?_
    refine lv_tableIn (tgt := 250) hx hb dL_law_40 (by decide +kernel) (by decide +kernel) (off := 210) (by decide +kernel) (by decide) ?_
    exact lk_denier C0 hB hI hS hl hi hc9 hs9 kk
  by_cases k_3 : v9 = 3
  · refine ho_tope (y := 3) k_3 ?_
    refine lv_tableIn (tgt := 287) hx hb dL_law_40 (by decide +kernel) (by decide +kernel) (off := 247) (by decide +kernel) (by decide) ?_
    exact lk_comes C0 hB hI hS hl hi hc9 hs9 kk
  by_cases k_4 : v9 = 4
  · refine ho_tope (y := 4) k_4 ?_
    refine lv_tableIn (tgt := 312) hx hb dL_law_40 (by decide +kernel) (by decide +kernel) (off := 272) (by decide +kernel) (by decide) ?_
    exact lk_learns C0 hB hI hS hl hi hc9 hs9 kk
  by_cases k_5 : v9 = 5
  · refine ho_tope (y := 5) k_5 ?_
    refine lv_tableIn (tgt := 349) hx hb dL_law_40 (by decide +kernel) (by decide +kernel) (off := 309) (by decide +kernel) (by decide) ?_
    exact lk_deny C0 hB hI hS hl hi hc9 hs9 kk
  by_cases k_6 : v9 = 6
  · refine ho_tope (y := 6) k_6 ?_
    refine lv_tableIn (tgt := 386) hx hb dL_law_40 (by decide +kernel) (by decide +kernel) (off := 346) (by decide +kernel) (by decide) ?_
    exact lk_die C0 hB hI hS hl hi hc9 hs9 kk
  by_cases k_7 : v9 = 7
  · refine ho_tope (y := 7) k_7 ?_
    refine lv_tableIn (tgt := 411) hx hb dL_law_40 (by decide +kernel) (by decide +kernel) (off := 371) (by decide +kernel) (by decide) ?_
    exact lk_may C0 hB hI hS hl hi hc9 hs9 kk
  by_cases k_8 : v9 = 8
  · refine ho_tope (y := 8) k_8 ?_
    refine lv_tableIn (tgt := 436) hx hb dL_law_40 (by decide +kernel) (by decide +kernel) (off := 396) (by decide +kernel) (by decide) ?_
    exact lk_silences C0 hB hI hS hl hi hc9 hs9 kk
  by_cases k_9 : v9 = 9
  · refine ho_tope (y := 9) k_9 ?_
    refine lv_tableIn (tgt := 461) hx hb dL_law_40 (by decide +kernel) (by decide +kernel) (off := 421) (by decide +kernel) (by decide) ?_
    exact lk_steps C0 hB hI hS hl hi hc9 hs9 kk
  by_cases k_10 : v9 = 10
  · refine ho_tope (y := 10) k_10 ?_
    refine lv_tableIn (tgt := 498) hx hb dL_law_40 (by decide +kernel) (by decide +kernel) (off := 458) (by decide +kernel) (by decide) ?_
    exact lk_falls C0 hB hI hS hl hi hc9 hs9 kk
  by_cases k_11 : v9 = 11
  · refine ho_tope (y := 11) k_11 ?_
    refine lv_tableIn (tgt := 523) hx hb dL_law_40 (by decide +kernel) (by decide +kernel) (off := 483) (by decide +kernel) (by decide) ?_
    exact lk_lonely C0 hB hI hS hl hi hc9 hs9 kk
  by_cases k_12 : v9 = 12
  · refine ho_tope (y := 12) k_12 ?_
    refine lv_tableIn (tgt := 536) hx hb dL_law_40 (by decide +kernel) (by decide +kernel) (off := 496) (by decide +kernel) (by decide) ?_
    exact lk_ever C0 hB hI hS hl hi hc9 hs9 kk
  by_cases k_13 : v9 = 13
  · refine ho_tope (y := 13) k_13 ?_
    refine lv_tableIn (tgt := 549) hx hb dL_law_40 (by decide +kernel) (by decide +kernel) (off := 509) (by decide +kernel) (by decide) ?_
    exact lk_soonest C0 hB hI hS hl hi hc9 hs9 kk
  by_cases k_14 : v9 = 14
  · refine ho_tope (y := 14) k_14 ?_
    refine lv_tableIn (tgt := 574) hx hb dL_law_40 (by decide +kernel) (by decide +kernel) (off := 534) (by decide +kernel) (by decide) ?_
    exact lk_first C0 hB hI hS hl hi hc9 hs9 kk
  by_cases k_15 : v9 = 15
  · refine ho_tope (y := 15) k_15 ?_
    refine lv_tableIn (tgt := 599) hx hb dL_law_40 (by decide +kernel) (by decide +kernel) (off := 559) (by decide +kernel) (by decide) ?_
    exact lk_easiest C0 hB hI hS hl hi hc9 hs9 kk
  by_cases k_16 : v9 = 16
  · refine ho_tope (y := 16) k_16 ?_
    refine lv_tableIn (tgt := 624) hx hb dL_law_40 (by decide +kernel) (by decide +kernel) (off := 584) (by decide +kernel) (by decide) ?_
    exact lk_all C0 hB hI hS hl hi hc9 hs9 kk
  by_cases k_17 : v9 = 17
  · refine ho_tope (y := 17) k_17 ?_
    refine lv_tableIn (tgt := 637) hx hb dL_law_40 (by decide +kernel) (by decide +kernel) (off := 597) (by decide +kernel) (by decide) ?_
    exact lk_atOnce C0 hB hI hS hl hi hc9 hs9 kk
  by_cases k_18 : v9 = 18
  · refine ho_tope (y := 18) k_18 ?_
    refine lv_tableIn (tgt := 662) hx hb dL_law_40 (by decide +kernel) (by decide +kernel) (off := 622) (by decide +kernel) (by decide) ?_
    exact lk_hire C0 hB hI hS hl hi hc9 hs9 kk
  by_cases k_19 : v9 = 19
  · refine ho_tope (y := 19) k_19 ?_
    refine lv_tableIn (tgt := 699) hx hb dL_law_40 (by decide +kernel) (by decide +kernel) (off := 659) (by decide +kernel) (by decide) ?_
    exact lk_canHave C0 hB hI hS hl hi hc9 hs9 kk
  by_cases k_20 : v9 = 20
  · refine ho_tope (y := 20) k_20 ?_
    refine lv_tableIn (tgt := 724) hx hb dL_law_40 (by decide +kernel) (by decide +kernel) (off := 684) (by decide +kernel) (by decide) ?_
    exact lk_run C0 hB hI hS hl hi hc9 hs9 kk
  by_cases k_21 : v9 = 21
  · refine ho_tope (y := 21) k_21 ?_
    refine lv_tableIn (tgt := 761) hx hb dL_law_40 (by decide +kernel) (by decide +kernel) (off := 721) (by decide +kernel) (by decide) ?_
    exact lk_seeded C0 hB hI hS hl hi hc9 hs9 kk
  by_cases k_22 : v9 = 22
  · refine ho_tope (y := 22) k_22 ?_
    refine lv_tableIn (tgt := 798) hx hb dL_law_40 (by decide +kernel) (by decide +kernel) (off := 758) (by decide +kernel) (by decide) ?_
    exact lk_judge C0 hB hI hS hl hi hc9 hs9 kk
  by_cases k_23 : v9 = 23
  · refine ho_tope (y := 23) k_23 ?_
    refine lv_tableIn (tgt := 823) hx hb dL_law_40 (by decide +kernel) (by decide +kernel) (off := 783) (by decide +kernel) (by decide) ?_
    exact lk_image C0 hB hI hS hl hi hc9 hs9 kk
  by_cases k_24 : v9 = 24
  · refine ho_tope (y := 24) k_24 ?_
    refine lv_tableIn (tgt := 836) hx hb dL_law_40 (by decide +kernel) (by decide +kernel) (off := 796) (by decide +kernel) (by decide) ?_
    exact lk_restore C0 hB hI hS hl hi hc9 hs9 kk
  by_cases k_25 : v9 = 25
  · refine ho_tope (y := 25) k_25 ?_
    refine lv_tableIn (tgt := 849) hx hb dL_law_40 (by decide +kernel) (by decide +kernel) (off := 809) (by decide +kernel) (by decide) ?_
    exact lk_count C0 hB hI hS hl hi hc9 hs9 kk
  by_cases k_26 : v9 = 26
  · refine ho_tope (y := 26) k_26 ?_
    refine lv_tableIn (tgt := 874) hx hb dL_law_40 (by decide +kernel) (by decide +kernel) (off := 834) (by decide +kernel) (by decide) ?_
    exact lk_keep C0 hB hI hS hl hi hc9 hs9 kk
  by_cases k_27 : v9 = 27
  · refine ho_tope (y := 27) k_27 ?_
    refine lv_tableIn (tgt := 935) hx hb dL_law_40 (by decide +kernel) (by decide +kernel) (off := 895) (by decide +kernel) (by decide) ?_
    exact lk_row C0 hB hI hS hl hi hc9 hs9 kk
  by_cases k_28 : v9 = 28
  · refine ho_tope (y := 28) k_28 ?_
    refine lv_tableIn (tgt := 984) hx hb dL_law_40 (by decide +kernel) (by decide +kernel) (off := 944) (by decide +kernel) (by decide) ?_
    exact lk_put C0 hB hI hS hl hi hc9 hs9 kk
  by_cases k_29 : v9 = 29
  · refine ho_tope (y := 29) k_29 ?_
    refine lv_tableIn (tgt := 1033) hx hb dL_law_40 (by decide +kernel) (by decide +kernel) (off := 993) (by decide +kernel) (by decide) ?_
    exact lk_element C0 hB hI hS hl hi hc9 hs9 kk
  by_cases k_30 : v9 = 30
  · refine ho_tope (y := 30) k_30 ?_
    refine lv_tableIn (tgt := 1100) hx hb dL_law_40 (by decide +kernel) (by decide +kernel) (off := 1060) (by decide +kernel) (by decide) ?_
    exact lk_copy C0 hB hI hS hl hi hc9 hs9 kk
  by_cases k_31 : v9 = 31
  · refine ho_tope (y := 31) k_31 ?_
    refine lv_tableIn (tgt := 1173) hx hb dL_law_40 (by decide +kernel) (by decide +kernel) (off := 1133) (by decide +kernel) (by decide) ?_
    exact lk_price C0 hB hI hS hl hi hc9 hs9 kk
  by_cases k_32 : v9 = 32
  · refine ho_tope (y := 32) k_32 ?_
    refine lv_tableIn (tgt := 1198) hx hb dL_law_40 (by decide +kernel) (by decide +kernel) (off := 1158) (by decide +kernel) (by decide) ?_
    exact lk_toss C0 hB hI hS hl hi hc9 hs9 kk
  refine lv_tableOut (tgt := 1223) hx hb dL_law_40 (by have z0 := sw_ne k_0 (i := 0) (by decide +kernel); have z1 := sw_ne k_1 (i := 1) (by decide +kernel); have z2 := sw_ne k_2 (i := 2) (by decide +kernel); have z3 := sw_ne k_3 (i := 3) (by decide +kernel); have z4 := sw_ne k_4 (i := 4) (by decide +kernel); have z5 := sw_ne k_5 (i := 5) (by decide +kernel); have z6 := sw_ne k_6 (i := 6) (by decide +kernel); have z7 := sw_ne k_7 (i := 7) (by decide +kernel); have z8 := sw_ne k_8 (i := 8) (by decide +kernel); have z9 := sw_ne k_9 (i := 9) (by decide +kernel); have z10 := sw_ne k_10 (i := 10) (by decide +kernel); have z11 := sw_ne k_11 (i := 11) (by decide +kernel); have z12 := sw_ne k_12 (i := 12) (by decide +kernel); have z13 := sw_ne k_13 (i := 13) (by decide +kernel); have z14 := sw_ne k_14 (i := 14) (by decide +kernel); have z15 := sw_ne k_15 (i := 15) (by decide +kernel); have z16 := sw_ne k_16 (i := 16) (by decide +kernel); have z17 := sw_ne k_17 (i := 17) (by decide +kernel); have z18 := sw_ne k_18 (i := 18) (by decide +kernel); have z19 := sw_ne k_19 (i := 19) (by decide +kernel); have z20 := sw_ne k_20 (i := 20) (by decide +kernel); have z21 := sw_ne k_21 (i := 21) (by decide +kernel); have z22 := sw_ne k_22 (i := 22) (by decide +kernel); have z23 := sw_ne k_23 (i := 23) (by decide +kernel); have z24 := sw_ne k_24 (i := 24) (by decide +kernel); have z25 := sw_ne k_25 (i := 25) (by decide +kernel); have z26 := sw_ne k_26 (i := 26) (by decide +kernel); have z27 := sw_ne k_27 (i := 27) (by decide +kernel); have z28 := sw_ne k_28 (i := 28) (by decide +kernel); have z29 := sw_ne k_29 (i := 29) (by decide +kernel); have z30 := sw_ne k_30 (i := 30) (by decide +kernel); have z31 := sw_ne k_31 (i := 31) (by decide +kernel); have z32 := sw_ne k_32 (i := 32) (by decide +kernel); show _ ∨ _; omega) (by decide) ?_
  refine W.widen (k := cells + 20) (n := slots + 220) (by omega) (by omega) ?_
  obtain ⟨hi, n, d, t, day, al, nd, bb, oo, K, F, kn, nZ, dZ, tZ, dayZ, alZ, ndZ, bbZ, ooZ, KZ, FZ, knZ, ke, so, zz, el, qk, qf, hXS, hMT⟩ := hI
  exact kk _ _ ls ⟨_, _, _, _, _, _, _, _, _, _, _, _, _, _, _, _, _, _, _, _, _, _, _, _, _, _, _, _, _, hXS.mono (by omega), hMT⟩ hS hl
theorem gt_of {i L : Nat} (hi : i ≤ 4000) (hL : L ≤ 3072) (h : ¬ nI L - nI 6 < nI i) : i + 6 ≤ L := by
  rw [Int32.lt_iff_toInt_lt, Int32.toInt_sub, nI_toInt (show L < 2 ^ 31 by omega), nI_toInt (show 6 < 2 ^ 31 by omega), nI_toInt (show i < 2 ^ 31 by omega), Int.bmod_eq_of_le (by omega) (by omega)] at h
  omega
set_option maxHeartbeats 4000000 in
set_option maxRecDepth 100000 in
/-- THE LOOP: with fuel k -/
theorem lk_loop {p : Program} {l : Launch} {e : Env} {s : State} {m : MethodId} {below : List Frame} {meth : Method} {c : Code} {b L : Nat} {xs : Nat → Int32} {dC : Nat → ClassId} {dI : Nat → Nat → Nat} {cI cD cR cL : ClassId} {ad : Nat → Nat} {sa9 : Nat → Nat} (C0 : LC p l s m meth c b L xs dC dI cI cD cR cL ad sa9) : ∀ (k i : Nat) {H : Heap} {locs : List Loc} {ls : Array Slot}, i ≤ L → L < i + 6 * (k + 1) → LI dC dI cI cD cR cL ad s.heap.size (17 * i) H → va_S (fun q => s.heap.size ≤ q) s.heap H locs → lv_has ls 8 [(4, .int (nI i)), (3, .ref (ad 40)), (2, .ref (ad 25)), (1, .ref (ad 0)), (0, .ref b)] → W p l e room_1 s m #[Value.ref b] below meth c H locs (100 + 10 * i) (10000 + 100 * i) (lw_Z below #[Value.ref b] s) (F0 m 23 ls []) := by
  have C1 := C0
  obtain ⟨⟨hx, hb, hr, hml, hown, htl, hX, hbl, hlocks⟩, -, -, -, -, -, hL⟩ := C1
  have hbA : ¬ (fun q : Nat => s.heap.size ≤ q) b := Nat.not_le.mpr hbl
  have hout : ∀ (i : Nat) {H : Heap} {locs : List Loc} {ls : Array Slot}, i ≤ L → va_S (fun q => s.heap.size ≤ q) s.heap H locs → W p l e room_1 s m #[Value.ref b] below meth c H locs (100 + 10 * i) (10000 + 100 * i) (lw_Z below #[Value.ref b] s) (F0 m 1229 ls []) := by
    intro i H locs ls hi hS
    refine lv_iconst (v := 1) hx hb dL_law_1229 (by decide) ?_
    refine va_forget hS.2.2 ?_
    refine W.widen (k := 601024) (n := 7293034) (by omega) (by omega) ?_
    exact lw_ret hx hb hr hlocks dL_law_1230
  intro k
  induction k with
  | zero => 
    intro i H locs ls hi hk hI hS hl
    refine lv_iload hx hb dL_law_23 (lv_at hl 0 rfl) ?_
    refine lv_aload_n hx hb dL_law_25 rfl (lv_at hl 4 rfl) ?_
    refine va_slen hx hb hX hbl hbA hS dL_law_26 ?_
    refine lv_bipush (v := nI 6) hx hb dL_law_27 (by decide +kernel) ?_
    refine lv_isub hx hb dL_law_29 ?_
    refine lv_icmp_gt (tgt := 1229) hx hb dL_law_30 (by decide) (fun _ => hout i hi hS) (fun h9 => ?_)
    have hi6 : i + 6 ≤ L := gt_of (by omega) hL h9
    omega
  | succ k ih =>
    intro i H locs ls hi hk hI hS hl
    refine lv_iload hx hb dL_law_23 (lv_at hl 0 rfl) ?_
    refine lv_aload_n hx hb dL_law_25 rfl (lv_at hl 4 rfl) ?_
    refine va_slen hx hb hX hbl hbA hS dL_law_26 ?_
    refine lv_bipush (v := nI 6) hx hb dL_law_27 (by decide +kernel) ?_
    refine lv_isub hx hb dL_law_29 ?_
    refine lv_icmp_gt (tgt := 1229) hx hb dL_law_30 (by decide) (fun _ => hout i hi hS) (fun h9 => ?_)
    have hi6 : i + 6 ≤ L := gt_of (by omega) hL h9
    refine lk_step C0 (by omega) hI hS hl hi6 (by omega) (by omega) (fun H1 locs1 ls1 hI1 hS1 hl1 => ?_)
    refine ho_iinc (lv' := [(4, .int (nI (i + 6))), (3, .ref (ad 40)), (2, .ref (ad 25)), (1, .ref (ad 0)), (0, .ref b)]) (a := i) (b := 6) hx hb dL_law_1223 hl1 (k := 0) rfl rfl (by decide) rfl (fun ls hl => ?_)
    refine lv_goto (tgt := 23) hx hb dL_law_1226 (by decide) ?_
    refine W.widen (k := 100 + 10 * (i + 6)) (n := 10000 + 100 * (i + 6)) (by omega) (by omega) ?_
    obtain ⟨hi, n, d, t, day, al, nd, bb, oo, K, F, kn, nZ, dZ, tZ, dayZ, alZ, ndZ, bbZ, ooZ, KZ, FZ, knZ, ke, so, zz, el, qk, qf, hXS, hMT⟩ := hI1
    exact ih (i + 6) hi6 (by omega) ⟨_, _, _, _, _, _, _, _, _, _, _, _, _, _, _, _, _, _, _, _, _, _, _, _, _, _, _, _, _, hXS.mono (by omega), hMT⟩ hS1 hl
theorem sF_0 : sF 0 0 0 0 0 (fun _ => 0) (fun _ => 0) (fun _ => 0) (fun _ => 0) (fun _ => 0) (fun _ => 0) = fun _ => 0 := by
  funext k
  simp only [sF, show nI 0 = 0 from by decide]
  repeat' split
  all_goals rfl
theorem nn_M : ∀ q ∈ nnM, Cond.methodLinkNest q.1 q.2.1 q.2.2.1 q.2.2.2 ∈ lw_tbl := by decide +kernel
theorem nn_F : ∀ q ∈ nnF, Cond.fieldLinkNest q.1 q.2.1 q.2.2.1 q.2.2.2.1 q.2.2.2.2.1 q.2.2.2.2.2 ∈ lw_tbl := by decide +kernel
theorem nn_X : ∀ w ∈ cxW, w ∈ lw_tbl := by decide +kernel
theorem nn_C : ∀ q ∈ nnC, Cond.castable q "HoldsOnceDenied$Denier" ∈ lw_tbl := by decide +kernel
theorem AO_K {s : State} {C : String} (h : va_AO C s) : ∃ cA : ClassId, ArrOfT s cA (.object C) ∧ va_RA s cA (.object C) := by
  obtain ⟨comp, cA, k, h1, -, h3, h4, h5⟩ := Cond.arrayOver_spec h
  exact ⟨cA, fun N z => ⟨(fun k h => by cases h), k, h3, comp, h4⟩, k, comp, h3, h4, h1, h5⟩
theorem zero_WS : WS 0 0 0 0 (fun _ => 0) (fun _ => 0) (fun _ => 0) (fun _ => 0) (fun _ => 0) := ⟨by decide, by decide, by decide, by decide, fun _ => by decide, fun _ => Nat.zero_testBit _, fun _ => by decide, fun _ => by decide, fun _ => by decide, fun i h => by rw [Nat.zero_testBit] at h; cases h⟩
theorem zero_RS {kd fg : Nat → Nat} : RS [] kd fg 0 0 0 (fun _ => 0) (fun _ => 0) (fun _ => none) (fun _ => 0) (fun _ => 0) (fun _ => 0) (fun _ => 0) := ⟨fun i h => by rw [Nat.zero_testBit] at h; cases h, fun i h => absurd h (Nat.not_lt_zero i), fun j h => absurd h (Nat.not_lt_zero j), fun _ _ => rfl⟩
theorem zero_SH {kd fg rs rz : Nat → Nat} {rf : Nat → Nat → Int32} : SH [] kd fg [] rs rz rf (fun _ => none) (fun _ => none) (fun _ => 0) (fun _ => 0) (fun _ => 0) (fun _ => 0) (fun _ => 0) (fun _ => 0) := ⟨fun y a h => by cases h, fun y r h => by cases h, fun y1 y2 r h => by cases h, fun y _ => Or.inl ⟨rfl, rfl, rfl⟩⟩
set_option maxHeartbeats 4000000 in
set_option maxRecDepth 100000 in
/-- THE LAW, from its entry -/
theorem whole_start {p : Program} {e : Env} {s : State} {m : MethodId} {below : List Frame} {meth : Method} {c : Code} (l : Launch) (hflags : l.flags = flags0) {b L : Nat} {xs : Nat → Int32} (hL : L ≤ 3072) (C0 : lw_At p s m meth c b L xs) : W p l e room_1 s m #[Value.ref b] below meth c s.heap [] 0 0 (lw_Z below #[Value.ref b] s) (entryFrame m ([Value.ref b] : List Value).toArray 8) := by
  obtain ⟨hx, hb, hr, hml, hown, hts, hX, hbl, hlocks, hgv⟩ := id C0
  have htl : ∀ w ∈ wsL_law, w.before #[Value.ref b] s = true := fun w h => hts w (wsL_law_in w h)
  have hA0 : ∀ q : Nat, s.heap.size ≤ q → (fun q : Nat => s.heap.size ≤ q) q := fun _ h => h
  have hbA : ¬ (fun q : Nat => s.heap.size ≤ q) b := Nat.not_le.mpr hbl
  have hl0 : l.stackTraces = false := by unfold Launch.stackTraces; rw [hflags]; decide +kernel
  obtain ⟨c0, iS0, hKn0⟩ := u_known (C := RX0) (T := TX0) (N := 2) (n := 2) hts inX0 (hts (.instantiable RX0 2) (by decide +kernel))
  obtain ⟨c1, iS1, hKn1⟩ := u_known (C := RX1) (T := TX1) (N := 2) (n := 2) hts inX1 (hts (.instantiable RX1 2) (by decide +kernel))
  obtain ⟨c2, iS2, hKn2⟩ := u_known (C := RX2) (T := TX2) (N := 2) (n := 2) hts inX2 (hts (.instantiable RX2 2) (by decide +kernel))
  obtain ⟨c3, iS3, hKn3⟩ := u_known (C := RX3) (T := TX3) (N := 2) (n := 2) hts inX3 (hts (.instantiable RX3 2) (by decide +kernel))
  obtain ⟨c4, iS4, hKn4⟩ := u_known (C := RX4) (T := TX4) (N := 4) (n := 4) hts inX4 (hts (.instantiable RX4 4) (by decide +kernel))
  obtain ⟨c5, iS5, hKn5⟩ := u_known (C := RX5) (T := TX5) (N := 2) (n := 2) hts inX5 (hts (.instantiable RX5 2) (by decide +kernel))
  obtain ⟨c6, iS6, hKn6⟩ := u_known (C := RX6) (T := TX6) (N := 2) (n := 2) hts inX6 (hts (.instantiable RX6 2) (by decide +kernel))
  obtain ⟨c7, iS7, hKn7⟩ := u_known (C := RX7) (T := TX7) (N := 2) (n := 2) hts inX7 (hts (.instantiable RX7 2) (by decide +kernel))
  obtain ⟨c8, iS8, hKn8⟩ := u_known (C := RX8) (T := TX8) (N := 2) (n := 2) hts inX8 (hts (.instantiable RX8 2) (by decide +kernel))
  obtain ⟨c9, iS9, hKn9⟩ := u_known (C := RX9) (T := TX9) (N := 10) (n := 10) hts inX9 (hts (.instantiable RX9 10) (by decide +kernel))
  obtain ⟨c10, iS10, hKn10⟩ := u_known (C := RX10) (T := TX10) (N := 2) (n := 2) hts inX10 (hts (.instantiable RX10 2) (by decide +kernel))
  obtain ⟨c11, iS11, hKn11⟩ := u_known (C := RX11) (T := TX11) (N := 7) (n := 7) hts inX11 (hts (.instantiable RX11 7) (by decide +kernel))
  obtain ⟨c12, iS12, hKn12⟩ := u_known (C := RX12) (T := TX12) (N := 20) (n := 20) hts inX12 (hts (.instantiable RX12 20) (by decide +kernel))
  obtain ⟨dC, dI, hKc⟩ : ∃ (dC : Nat → ClassId) (dI : Nat → Nat → Nat), ∀ (k : Nat) (q : vw_C), vwCl[k]? = some q → u_Kn s q.1 q.2.1 q.2.2 (dC k) (dI k) := by
    refine ⟨fun k => if k = 0 then c0 else if k = 1 then c1 else if k = 2 then c2 else if k = 3 then c3 else if k = 4 then c4 else if k = 5 then c5 else if k = 6 then c6 else if k = 7 then c7 else if k = 8 then c8 else if k = 9 then c9 else if k = 10 then c10 else if k = 11 then c11 else c12, fun k => if k = 0 then iS0 else if k = 1 then iS1 else if k = 2 then iS2 else if k = 3 then iS3 else if k = 4 then iS4 else if k = 5 then iS5 else if k = 6 then iS6 else if k = 7 then iS7 else if k = 8 then iS8 else if k = 9 then iS9 else if k = 10 then iS10 else if k = 11 then iS11 else iS12, ?_⟩
    intro k q hq
    match k, hq with
    | 0, hq => cases hq; exact hKn0
    | 1, hq => cases hq; exact hKn1
    | 2, hq => cases hq; exact hKn2
    | 3, hq => cases hq; exact hKn3
    | 4, hq => cases hq; exact hKn4
    | 5, hq => cases hq; exact hKn5
    | 6, hq => cases hq; exact hKn6
    | 7, hq => cases hq; exact hKn7
    | 8, hq => cases hq; exact hKn8
    | 9, hq => cases hq; exact hKn9
    | 10, hq => cases hq; exact hKn10
    | 11, hq => cases hq; exact hKn11
    | 12, hq => cases hq; exact hKn12
    | k + 13, hq => exact absurd (List.getElem?_eq_some_iff.mp hq).1 (by simp only [List.length_cons, List.length_nil]; omega)
  obtain ⟨cI, kI, compI, a1, a2, a3⟩ := Cond.arrayClass_spec (hts (.arrayClass .int) (by decide +kernel))
  obtain ⟨cL, kL, compL, b1, b2, b3⟩ := Cond.arrayClass_spec (hts (.arrayClass .long) (by decide +kernel))
  have hAOd : va_AO RX2 s := va_AO.of (hts (.arrayOver (.object RX2)) (by decide +kernel))
  have hAOr : va_AO RX8 s := va_AO.of (hts (.arrayOver (.object RX8)) (by decide +kernel))
  obtain ⟨cD, d1, d2⟩ := AO_K hAOd
  obtain ⟨cR, r1, r2⟩ := AO_K hAOr
  have hK : va_K (dC, dI) vwCl (tyl cI cD cR) s := ⟨hKc, fun k q hk => by
    match k, hk with
    | 0, hk => cases hk; exact ⟨fun N z => ⟨(fun k h => by cases h), kI, a2, compI, a3⟩, a1⟩
    | 1, hk => cases hk; exact ⟨d1, d2⟩
    | 2, hk => cases hk; exact ⟨r1, r2⟩
    | k + 3, hk => cases hk⟩
  have hKJ : va_K (dC, dI) vwCl [(cL, .long)] s := ⟨hKc, fun k q hk => by
    match k, hk with
    | 0, hk => cases hk; exact ⟨fun N z => ⟨(fun k h => by cases h), kL, b2, compL, b3⟩, b1⟩
    | k + 1, hk => cases hk⟩
  have hCX : CX dC dI cI cD cR s := ⟨hK, fun q hq => va_Nw.of rfl (hts _ (nn_M q hq)), fun q hq => va_Nw.of rfl (hts _ (nn_F q hq)), fun w hw => va_Nw.of (cxW_tab w hw) (hts w (nn_X w hw)), fun q hq => va_Nw.of rfl (hts _ (nn_C q hq))⟩
  have hs0 : (Cond.stringRef RX2 27 "a denier fails").before #[Value.ref b] s = true := hts (.stringRef RX2 27 "a denier fails") (by decide +kernel)
  obtain ⟨-, -, -, sa0, -, -, -, -, -, ev0⟩ := Cond.stringRef_spec hKn2.2.1 hs0
  have hs1 : (Cond.stringRef RX3 29 "a fool fails").before #[Value.ref b] s = true := hts (.stringRef RX3 29 "a fool fails") (by decide +kernel)
  obtain ⟨-, -, -, sa1, -, -, -, -, -, ev1⟩ := Cond.stringRef_spec hKn3.2.1 hs1
  have hs2 : (Cond.stringRef RX6 27 "a hired one fails").before #[Value.ref b] s = true := hts (.stringRef RX6 27 "a hired one fails") (by decide +kernel)
  obtain ⟨-, -, -, sa2, -, -, -, -, -, ev2⟩ := Cond.stringRef_spec hKn6.2.1 hs2
  have hs3 : (Cond.stringRef RX7 33 "an old one fails").before #[Value.ref b] s = true := hts (.stringRef RX7 33 "an old one fails") (by decide +kernel)
  obtain ⟨-, -, -, sa3, -, -, -, -, -, ev3⟩ := Cond.stringRef_spec hKn7.2.1 hs3
  have hs4 : (Cond.stringRef RX11 241 "no such shelf").before #[Value.ref b] s = true := hts (.stringRef RX11 241 "no such shelf") (by decide +kernel)
  obtain ⟨-, -, -, sa4, -, -, -, -, -, ev4⟩ := Cond.stringRef_spec hKn11.2.1 hs4
  have hs5 : (Cond.stringRef RX11 248 "no such place of a row").before #[Value.ref b] s = true := hts (.stringRef RX11 248 "no such place of a row") (by decide +kernel)
  obtain ⟨-, -, -, sa5, -, -, -, -, -, ev5⟩ := Cond.stringRef_spec hKn11.2.1 hs5
  obtain ⟨sa9, hsa⟩ : ∃ sa9 : Nat → Nat, sa9 0 = sa0 ∧ sa9 1 = sa1 ∧ sa9 2 = sa2 ∧ sa9 3 = sa3 ∧ sa9 4 = sa4 ∧ sa9 5 = sa5 := ⟨fun k => if k = 0 then sa0 else if k = 1 then sa1 else if k = 2 then sa2 else if k = 3 then sa3 else if k = 4 then sa4 else sa5, rfl, rfl, rfl, rfl, rfl, rfl⟩
  obtain ⟨g0, g1, g2, g3, g4, g5⟩ := hsa
  have hgf := flat_of_before _ hgv
  have hVX : VX sa9 (fun q => s.heap.size ≤ q) s s.heap := ⟨vx_Zqof (hts (.laysStatic "java/lang/Throwable" "UNASSIGNED_STACK" "[Ljava/lang/StackTraceElement;") (by decide +kernel)) (hts (.initialized "java/lang/Throwable") (by decide +kernel)) (hgf (.isRef (.static "java/lang/Throwable" "UNASSIGNED_STACK" "[Ljava/lang/StackTraceElement;")) (by decide +kernel)) (fun a ha h => by omega), vx_Zqof (hts (.laysStatic "java/lang/Throwable" "SUPPRESSED_SENTINEL" "Ljava/util/List;") (by decide +kernel)) (hts (.initialized "java/lang/Throwable") (by decide +kernel)) (hgf (.isRef (.static "java/lang/Throwable" "SUPPRESSED_SENTINEL" "Ljava/util/List;")) (by decide +kernel)) (fun a ha h => by omega), ⟨vk_R.of hs0 (by rw [g0]; exact ev0), vk_R.of hs1 (by rw [g1]; exact ev1), vk_R.of hs2 (by rw [g2]; exact ev2), vk_R.of hs3 (by rw [g3]; exact ev3), vk_R.of hs4 (by rw [g4]; exact ev4), vk_R.of hs5 (by rw [g5]; exact ev5)⟩, ⟨va_Nw.of rfl (hts (.castable "java/lang/IllegalStateException" "java/lang/IllegalStateException") (by decide +kernel)), va_Nw.of rfl (hts (.castable "java/lang/IllegalArgumentException" "java/lang/IllegalArgumentException") (by decide +kernel)), va_Nw.of rfl (hts (.castable "java/lang/UnsupportedOperationException" "java/lang/UnsupportedOperationException") (by decide +kernel))⟩, va_Nc.of (hgf (.not (.castable "java/lang/IllegalArgumentException" "java/lang/IllegalStateException")) (by decide +kernel)), va_Nc.of (hgf (.not (.castable "java/lang/UnsupportedOperationException" "java/lang/IllegalStateException")) (by decide +kernel)), va_Nc.of (hgf (.not (.castable "java/lang/UnsupportedOperationException" "java/lang/IllegalArgumentException")) (by decide +kernel)), va_Nc.of (hgf (.not (.castable "java/lang/IllegalStateException" "java/lang/IllegalArgumentException")) (by decide +kernel)), va_Nw.of rfl (hts (.declares ⟨"java/lang/RuntimeException", "<init>", "(Ljava/lang/String;)V"⟩) (by decide +kernel)), va_Nw.of rfl (hts (.declares ⟨"java/lang/Exception", "<init>", "(Ljava/lang/String;)V"⟩) (by decide +kernel)), va_Nw.of rfl (hts (.declares ⟨"java/lang/Throwable", "<init>", "(Ljava/lang/String;)V"⟩) (by decide +kernel))⟩
  have hS : va_S (fun q : Nat => s.heap.size ≤ q) s.heap s.heap [] := va_S.rf
  have hP : va_P (dC, dI) vwCl [] s.heap := fun k q h => by cases h
  have hD : va_D (fun q : Nat => s.heap.size ≤ q) ([] : va_W) := ⟨fun i j p q h => (by cases h), fun k q h => (by cases h)⟩
  have hl := lv_entry ([.ref b]) (n := 8) (Nat.le_of_ble_eq_true rfl)
  rw [lg_entry_eq]
  generalize (lg_sl ([.ref b]) ++ List.replicate (8 - (lg_sl ([.ref b])).length) Slot.unset).toArray = ls at hl ⊢
  have hl : lv_has ls 8 [(0, .ref b)] := hl
  refine va_new (ci := 11) (fs := [.null, .null, .null, .int (bI false), .null, .null, .null]) (C := RX11) (T := TX11) (N := 7) hx hb htl inlX11 tyX11 tyX11_ok hown (htl (.classLink RL 8 RX11) (by decide +kernel)) (htl (.instantiable RX11 7) (by decide +kernel)) (htl (.initialized RX11) (by decide +kernel)) hK hP hD hS hA0 rfl (fun j hj => by rcases (show j = 0 ∨ j = 1 ∨ j = 2 ∨ j = 3 ∨ j = 4 ∨ j = 5 ∨ j = 6 by omega) with rfl | rfl | rfl | rfl | rfl | rfl | rfl <;> rfl) (by show _ ≤ 903060; omega) (by show _ ≤ 6386924; omega) dL_law_0 (fun x0 H hP hD hS => ?_)
  have hP : va_P (dC, dI) vwCl [(x0, .inr (11, [.null, .null, .null, .int (bI false), .null, .null, .null]))] H := hP
  have hD : va_D (fun q : Nat => s.heap.size ≤ q) [(x0, .inr (11, [.null, .null, .null, .int (bI false), .null, .null, .null]))] := hD
  refine lv_dup hx hb dL_law_3 rfl ?_
  have hFc := va_free (wc := [(x0, .inr (11, [.null, .null, .null, .int (bI false), .null, .null, .null]))]) hD hS hA0 [0] rfl
  refine va_callv (va_runI (As := []) (rest := [.ref x0]) ⟨hx, hb, hml, hown, htl⟩ (c_X11_init l dC dI cI cD cR x0 H.size) (cwI 0 htl gL_law_X11_init rfl rfl rfl (htl (.initialized RX11) (by decide +kernel)) (htl (.methodLink RL 17 yX11_init) (by decide +kernel)) (htl (.instanceMethod yX11_init) (by decide +kernel)) rfl (by decide +kernel) ⟨Nat.le_of_ble_eq_true rfl, Nat.le_of_ble_eq_true rfl⟩) (preO_R hCX hAOd hAOr ⟨rfl, hP, hD.weaken (fun _ _ _ _ => trivial)⟩) rfl rfl hl.1 rfl (lv_room (Nat.le_of_ble_eq_true rfl)) dL_law_4 ⟨by show _ ≤ 903060; omega, by show _ ≤ 6386924; omega⟩) hS (fun q _ h => hFc q h) hFc (fun u T8 H1 locs hT8 hvm hw hB hz1 hk1 hS => ?_)
  obtain ⟨x1, x2, x3, x4, x5, x6, x7, x8, x9, x10, x11, x12, x13, x14, x15, x16, x17, x18, x19, x20, x21, x22, x23, x24⟩ := u
  obtain ⟨hP1, hD1⟩ := hB
  rw [hT8] at hP1
  have hP1 : va_P (dC, dI) vwCl ([(x0, .inr (11, [.ref x1, .ref x2, .ref x3, .int (bI false), .ref x4, .ref x5, .ref x6]))] ++ (schW cI cD x1 x7 x8 x9 x10 x11 0 0 0 0 0 (fun _ => 0) (fun _ => 0) (fun _ => 0) (fun _ => 0) (fun _ => none)) ++ (schW cI cD x2 x12 x13 x14 x15 x16 0 0 0 0 0 (fun _ => 0) (fun _ => 0) (fun _ => 0) (fun _ => 0) (fun _ => none)) ++ (schW cI cD x3 x17 x18 x19 x20 x21 0 0 0 0 0 (fun _ => 0) (fun _ => 0) (fun _ => 0) (fun _ => 0) (fun _ => none)) ++ (forW cI x4 x22 x23 x24 0 (fun _ => some 0) (fun _ => 0) (fun _ => some 0)) ++ [(x5, .inl (cD, 8, .inr (.inr (.inr (.inr (fun _ => none))))))] ++ [(x6, .inl (cR, 8, .inr (.inr (.inr (.inr (fun _ => none))))))]) H1 := hP1
  have hD1 : va_D (va_A [(x0, .inr (11, [.null, .null, .null, .int (bI false), .null, .null, .null]))] H.size) ([(x0, .inr (11, [.ref x1, .ref x2, .ref x3, .int (bI false), .ref x4, .ref x5, .ref x6]))] ++ (schW cI cD x1 x7 x8 x9 x10 x11 0 0 0 0 0 (fun _ => 0) (fun _ => 0) (fun _ => 0) (fun _ => 0) (fun _ => none)) ++ (schW cI cD x2 x12 x13 x14 x15 x16 0 0 0 0 0 (fun _ => 0) (fun _ => 0) (fun _ => 0) (fun _ => 0) (fun _ => none)) ++ (schW cI cD x3 x17 x18 x19 x20 x21 0 0 0 0 0 (fun _ => 0) (fun _ => 0) (fun _ => 0) (fun _ => 0) (fun _ => none)) ++ (forW cI x4 x22 x23 x24 0 (fun _ => some 0) (fun _ => 0) (fun _ => some 0)) ++ [(x5, .inl (cD, 8, .inr (.inr (.inr (.inr (fun _ => none))))))] ++ [(x6, .inl (cR, 8, .inr (.inr (.inr (.inr (fun _ => none))))))]) := hD1
  obtain ⟨hP, hD⟩ := va_join (wr := []) (w1 := [(x0, .inr (11, [.ref x1, .ref x2, .ref x3, .int (bI false), .ref x4, .ref x5, .ref x6]))] ++ (schW cI cD x1 x7 x8 x9 x10 x11 0 0 0 0 0 (fun _ => 0) (fun _ => 0) (fun _ => 0) (fun _ => 0) (fun _ => none)) ++ (schW cI cD x2 x12 x13 x14 x15 x16 0 0 0 0 0 (fun _ => 0) (fun _ => 0) (fun _ => 0) (fun _ => 0) (fun _ => none)) ++ (schW cI cD x3 x17 x18 x19 x20 x21 0 0 0 0 0 (fun _ => 0) (fun _ => 0) (fun _ => 0) (fun _ => 0) (fun _ => none)) ++ (forW cI x4 x22 x23 x24 0 (fun _ => some 0) (fun _ => 0) (fun _ => some 0)) ++ [(x5, .inl (cD, 8, .inr (.inr (.inr (.inr (fun _ => none))))))] ++ [(x6, .inl (cR, 8, .inr (.inr (.inr (.inr (fun _ => none))))))]) hP hD [0] [] rfl rfl (by decide) (by decide) hk1 hFc hP1 hD1
  have hP : va_P (dC, dI) vwCl ([(x0, .inr (11, [.ref x1, .ref x2, .ref x3, .int (bI false), .ref x4, .ref x5, .ref x6]))] ++ (schW cI cD x1 x7 x8 x9 x10 x11 0 0 0 0 0 (fun _ => 0) (fun _ => 0) (fun _ => 0) (fun _ => 0) (fun _ => none)) ++ (schW cI cD x2 x12 x13 x14 x15 x16 0 0 0 0 0 (fun _ => 0) (fun _ => 0) (fun _ => 0) (fun _ => 0) (fun _ => none)) ++ (schW cI cD x3 x17 x18 x19 x20 x21 0 0 0 0 0 (fun _ => 0) (fun _ => 0) (fun _ => 0) (fun _ => 0) (fun _ => none)) ++ (forW cI x4 x22 x23 x24 0 (fun _ => some 0) (fun _ => 0) (fun _ => some 0)) ++ [(x5, .inl (cD, 8, .inr (.inr (.inr (.inr (fun _ => none))))))] ++ [(x6, .inl (cR, 8, .inr (.inr (.inr (.inr (fun _ => none))))))]) H1 := hP
  have hD : va_D (fun q : Nat => s.heap.size ≤ q) ([(x0, .inr (11, [.ref x1, .ref x2, .ref x3, .int (bI false), .ref x4, .ref x5, .ref x6]))] ++ (schW cI cD x1 x7 x8 x9 x10 x11 0 0 0 0 0 (fun _ => 0) (fun _ => 0) (fun _ => 0) (fun _ => 0) (fun _ => none)) ++ (schW cI cD x2 x12 x13 x14 x15 x16 0 0 0 0 0 (fun _ => 0) (fun _ => 0) (fun _ => 0) (fun _ => 0) (fun _ => none)) ++ (schW cI cD x3 x17 x18 x19 x20 x21 0 0 0 0 0 (fun _ => 0) (fun _ => 0) (fun _ => 0) (fun _ => 0) (fun _ => none)) ++ (forW cI x4 x22 x23 x24 0 (fun _ => some 0) (fun _ => 0) (fun _ => some 0)) ++ [(x5, .inl (cD, 8, .inr (.inr (.inr (.inr (fun _ => none))))))] ++ [(x6, .inl (cR, 8, .inr (.inr (.inr (.inr (fun _ => none))))))]) := hD
  clear hP1 hD1 hk1
  generalize H1 = H at hP hS ⊢
  refine lv_astore_n (lv' := [(1, .ref x0), (0, .ref b)]) hx hb dL_law_7 rfl hl (by decide) rfl (fun ls hl => ?_)
  refine va_new (ci := 12) (fs := [.null, .null, .null, .null, .null, .null, .null, .null, .null, .null, .int (bI false), .int (nI 0), .int (nI 0), .int (nI 0), .int (nI 0), .null, .null, .null, .null, .int (nI 0)]) (C := RX12) (T := TX12) (N := 20) hx hb htl inlX12 tyX12 tyX12_ok hown (htl (.classLink RL 18 RX12) (by decide +kernel)) (htl (.instantiable RX12 20) (by decide +kernel)) (htl (.initialized RX12) (by decide +kernel)) hK hP hD hS hA0 rfl (fun j hj => by rcases (show j = 0 ∨ j = 1 ∨ j = 2 ∨ j = 3 ∨ j = 4 ∨ j = 5 ∨ j = 6 ∨ j = 7 ∨ j = 8 ∨ j = 9 ∨ j = 10 ∨ j = 11 ∨ j = 12 ∨ j = 13 ∨ j = 14 ∨ j = 15 ∨ j = 16 ∨ j = 17 ∨ j = 18 ∨ j = 19 by omega) with rfl | rfl | rfl | rfl | rfl | rfl | rfl | rfl | rfl | rfl | rfl | rfl | rfl | rfl | rfl | rfl | rfl | rfl | rfl | rfl <;> rfl) (by show _ ≤ 903060; omega) (by show _ ≤ 6386924; omega) dL_law_8 (fun y0 H hP hD hS => ?_)
  have hP : va_P (dC, dI) vwCl (([(x0, .inr (11, [.ref x1, .ref x2, .ref x3, .int (bI false), .ref x4, .ref x5, .ref x6]))] ++ (schW cI cD x1 x7 x8 x9 x10 x11 0 0 0 0 0 (fun _ => 0) (fun _ => 0) (fun _ => 0) (fun _ => 0) (fun _ => none)) ++ (schW cI cD x2 x12 x13 x14 x15 x16 0 0 0 0 0 (fun _ => 0) (fun _ => 0) (fun _ => 0) (fun _ => 0) (fun _ => none)) ++ (schW cI cD x3 x17 x18 x19 x20 x21 0 0 0 0 0 (fun _ => 0) (fun _ => 0) (fun _ => 0) (fun _ => 0) (fun _ => none)) ++ (forW cI x4 x22 x23 x24 0 (fun _ => some 0) (fun _ => 0) (fun _ => some 0)) ++ [(x5, .inl (cD, 8, .inr (.inr (.inr (.inr (fun _ => none))))))] ++ [(x6, .inl (cR, 8, .inr (.inr (.inr (.inr (fun _ => none))))))]) ++ [(y0, .inr (12, [.null, .null, .null, .null, .null, .null, .null, .null, .null, .null, .int (bI false), .int (nI 0), .int (nI 0), .int (nI 0), .int (nI 0), .null, .null, .null, .null, .int (nI 0)]))]) H := hP
  have hD : va_D (fun q : Nat => s.heap.size ≤ q) (([(x0, .inr (11, [.ref x1, .ref x2, .ref x3, .int (bI false), .ref x4, .ref x5, .ref x6]))] ++ (schW cI cD x1 x7 x8 x9 x10 x11 0 0 0 0 0 (fun _ => 0) (fun _ => 0) (fun _ => 0) (fun _ => 0) (fun _ => none)) ++ (schW cI cD x2 x12 x13 x14 x15 x16 0 0 0 0 0 (fun _ => 0) (fun _ => 0) (fun _ => 0) (fun _ => 0) (fun _ => none)) ++ (schW cI cD x3 x17 x18 x19 x20 x21 0 0 0 0 0 (fun _ => 0) (fun _ => 0) (fun _ => 0) (fun _ => 0) (fun _ => none)) ++ (forW cI x4 x22 x23 x24 0 (fun _ => some 0) (fun _ => 0) (fun _ => some 0)) ++ [(x5, .inl (cD, 8, .inr (.inr (.inr (.inr (fun _ => none))))))] ++ [(x6, .inl (cR, 8, .inr (.inr (.inr (.inr (fun _ => none))))))]) ++ [(y0, .inr (12, [.null, .null, .null, .null, .null, .null, .null, .null, .null, .null, .int (bI false), .int (nI 0), .int (nI 0), .int (nI 0), .int (nI 0), .null, .null, .null, .null, .int (nI 0)]))]) := hD
  refine lv_dup hx hb dL_law_11 rfl ?_
  have hPc := hP.sub (ws' := [(y0, .inr (12, [.null, .null, .null, .null, .null, .null, .null, .null, .null, .null, .int (bI false), .int (nI 0), .int (nI 0), .int (nI 0), .int (nI 0), .null, .null, .null, .null, .int (nI 0)]))]) [25] rfl
  have hDc := hD.sub (ws' := [(y0, .inr (12, [.null, .null, .null, .null, .null, .null, .null, .null, .null, .null, .int (bI false), .int (nI 0), .int (nI 0), .int (nI 0), .int (nI 0), .null, .null, .null, .null, .int (nI 0)]))]) [25] (by decide) rfl
  have hFc := va_free (wc := [(y0, .inr (12, [.null, .null, .null, .null, .null, .null, .null, .null, .null, .null, .int (bI false), .int (nI 0), .int (nI 0), .int (nI 0), .int (nI 0), .null, .null, .null, .null, .int (nI 0)]))]) hD hS hA0 [25] rfl
  refine va_callv (va_runI (As := []) (rest := [.ref y0]) ⟨hx, hb, hml, hown, htl⟩ (c_X12_init l dC dI cI cD cR y0 H.size) (cwI 0 htl gL_law_X12_init rfl rfl rfl (htl (.initialized RX12) (by decide +kernel)) (htl (.methodLink RL 20 yX12_init) (by decide +kernel)) (htl (.instanceMethod yX12_init) (by decide +kernel)) rfl (by decide +kernel) ⟨Nat.le_of_ble_eq_true rfl, Nat.le_of_ble_eq_true rfl⟩) (preS_R hCX ⟨rfl, hPc, hDc.weaken (fun _ _ _ _ => trivial)⟩) rfl rfl hl.1 rfl (lv_room (Nat.le_of_ble_eq_true rfl)) dL_law_12 ⟨by show _ ≤ 903060; omega, by show _ ≤ 6386924; omega⟩) hS (fun q _ h => hFc q h) hFc (fun u T8 H1 locs hT8 hvm hw hB hz1 hk1 hS => ?_)
  obtain ⟨y1, y2, y3, y4, y5, y6, y7, y8, y9, y10, y11, y12, y13, y14⟩ := u
  obtain ⟨hP1, hD1⟩ := hB
  rw [hT8] at hP1
  have hP1 : va_P (dC, dI) vwCl ([(y0, .inr (12, [.ref y1, .ref y2, .ref y3, .ref y4, .ref y5, .ref y6, .ref y7, .ref y8, .ref y9, .ref y10, .int (bI false), .int (nI 0), .int (nI 0), .int (nI 0), .int (nI 0), .ref y11, .ref y12, .ref y13, .ref y14, .int (nI 0)]))] ++ [(y1, .inl (cI, 53, .inl (fun _ => 0)))] ++ [(y2, .inl (cI, 53, .inl (fun _ => 0)))] ++ [(y3, .inl (cI, 53, .inl (fun _ => 0)))] ++ [(y4, .inl (cI, 53, .inl (fun _ => 0)))] ++ [(y5, .inl (cI, 8, .inl (fun _ => 0)))] ++ [(y6, .inl (cI, 8, .inl (fun _ => 0)))] ++ [(y7, .inl (cI, 8, .inl (fun _ => 0)))] ++ [(y8, .inl (cI, 800, .inl (fun _ => 0)))] ++ [(y9, .inl (cI, 8, .inl (fun _ => 0)))] ++ [(y10, .inl (cI, 8, .inl (fun _ => 0)))] ++ [(y11, .inl (cI, 2, .inl (fun _ => 0)))] ++ [(y12, .inl (cI, 512, .inl (fun _ => 0)))] ++ [(y13, .inl (cI, 512, .inl (fun _ => 0)))] ++ [(y14, .inl (cI, 512, .inl (fun _ => 0)))]) H1 := hP1
  have hD1 : va_D (va_A [(y0, .inr (12, [.null, .null, .null, .null, .null, .null, .null, .null, .null, .null, .int (bI false), .int (nI 0), .int (nI 0), .int (nI 0), .int (nI 0), .null, .null, .null, .null, .int (nI 0)]))] H.size) ([(y0, .inr (12, [.ref y1, .ref y2, .ref y3, .ref y4, .ref y5, .ref y6, .ref y7, .ref y8, .ref y9, .ref y10, .int (bI false), .int (nI 0), .int (nI 0), .int (nI 0), .int (nI 0), .ref y11, .ref y12, .ref y13, .ref y14, .int (nI 0)]))] ++ [(y1, .inl (cI, 53, .inl (fun _ => 0)))] ++ [(y2, .inl (cI, 53, .inl (fun _ => 0)))] ++ [(y3, .inl (cI, 53, .inl (fun _ => 0)))] ++ [(y4, .inl (cI, 53, .inl (fun _ => 0)))] ++ [(y5, .inl (cI, 8, .inl (fun _ => 0)))] ++ [(y6, .inl (cI, 8, .inl (fun _ => 0)))] ++ [(y7, .inl (cI, 8, .inl (fun _ => 0)))] ++ [(y8, .inl (cI, 800, .inl (fun _ => 0)))] ++ [(y9, .inl (cI, 8, .inl (fun _ => 0)))] ++ [(y10, .inl (cI, 8, .inl (fun _ => 0)))] ++ [(y11, .inl (cI, 2, .inl (fun _ => 0)))] ++ [(y12, .inl (cI, 512, .inl (fun _ => 0)))] ++ [(y13, .inl (cI, 512, .inl (fun _ => 0)))] ++ [(y14, .inl (cI, 512, .inl (fun _ => 0)))]) := hD1
  obtain ⟨hP, hD⟩ := va_join (wr := [(x0, .inr (11, [.ref x1, .ref x2, .ref x3, .int (bI false), .ref x4, .ref x5, .ref x6]))] ++ (schW cI cD x1 x7 x8 x9 x10 x11 0 0 0 0 0 (fun _ => 0) (fun _ => 0) (fun _ => 0) (fun _ => 0) (fun _ => none)) ++ (schW cI cD x2 x12 x13 x14 x15 x16 0 0 0 0 0 (fun _ => 0) (fun _ => 0) (fun _ => 0) (fun _ => 0) (fun _ => none)) ++ (schW cI cD x3 x17 x18 x19 x20 x21 0 0 0 0 0 (fun _ => 0) (fun _ => 0) (fun _ => 0) (fun _ => 0) (fun _ => none)) ++ (forW cI x4 x22 x23 x24 0 (fun _ => some 0) (fun _ => 0) (fun _ => some 0)) ++ [(x5, .inl (cD, 8, .inr (.inr (.inr (.inr (fun _ => none))))))] ++ [(x6, .inl (cR, 8, .inr (.inr (.inr (.inr (fun _ => none))))))]) (w1 := [(y0, .inr (12, [.ref y1, .ref y2, .ref y3, .ref y4, .ref y5, .ref y6, .ref y7, .ref y8, .ref y9, .ref y10, .int (bI false), .int (nI 0), .int (nI 0), .int (nI 0), .int (nI 0), .ref y11, .ref y12, .ref y13, .ref y14, .int (nI 0)]))] ++ [(y1, .inl (cI, 53, .inl (fun _ => 0)))] ++ [(y2, .inl (cI, 53, .inl (fun _ => 0)))] ++ [(y3, .inl (cI, 53, .inl (fun _ => 0)))] ++ [(y4, .inl (cI, 53, .inl (fun _ => 0)))] ++ [(y5, .inl (cI, 8, .inl (fun _ => 0)))] ++ [(y6, .inl (cI, 8, .inl (fun _ => 0)))] ++ [(y7, .inl (cI, 8, .inl (fun _ => 0)))] ++ [(y8, .inl (cI, 800, .inl (fun _ => 0)))] ++ [(y9, .inl (cI, 8, .inl (fun _ => 0)))] ++ [(y10, .inl (cI, 8, .inl (fun _ => 0)))] ++ [(y11, .inl (cI, 2, .inl (fun _ => 0)))] ++ [(y12, .inl (cI, 512, .inl (fun _ => 0)))] ++ [(y13, .inl (cI, 512, .inl (fun _ => 0)))] ++ [(y14, .inl (cI, 512, .inl (fun _ => 0)))]) hP hD [25] [0, 1, 2, 3, 4, 5, 6, 7, 8, 9, 10, 11, 12, 13, 14, 15, 16, 17, 18, 19, 20, 21, 22, 23, 24] rfl rfl (by decide) (by decide) hk1 hFc hP1 hD1
  clear hP1 hD1 hk1 hPc hDc
  generalize H1 = H at hP hS ⊢
  refine lv_astore_n (lv' := [(2, .ref y0), (1, .ref x0), (0, .ref b)]) hx hb dL_law_15 rfl hl (by decide) rfl (fun ls hl => ?_)
  refine lv_iconst (v := nI 1) hx hb dL_law_16 (by decide +kernel) ?_
  refine va_newa (atype := .long) (a0 := (1, .inr (.inl (fun _ => 0)))) hx hb (htl (.arrayClass .long) (by decide +kernel)) rfl hK hP hD hS hA0 (fun c9 => rfl) (nI_pos (by omega)) (nI_clamp (by omega)) (Nat.le_of_ble_eq_true rfl) (by show _ ≤ 903060; omega) (by show _ ≤ 6386924; omega) dL_law_17 (fun o0 c9 H hK9 hP hD hS => ?_)
  have e9 : c9 = cL := Option.some.inj ((show s.vm.findClass ("[" ++ FieldType.long.toString) = some c9 from (hK9.2 3 _ rfl).2).symm.trans b1)
  rw [e9] at hP hD
  clear e9 hK9
  refine lv_astore_n (lv' := [(3, .ref o0), (2, .ref y0), (1, .ref x0), (0, .ref b)]) hx hb dL_law_19 rfl hl (by decide) rfl (fun ls hl => ?_)
  refine lv_iconst (v := nI 0) hx hb dL_law_20 (by decide +kernel) ?_
  refine lv_istore (lv' := [(4, .int (nI 0)), (3, .ref o0), (2, .ref y0), (1, .ref x0), (0, .ref b)]) hx hb dL_law_21 hl (by decide) rfl (fun ls hl => ?_)
  obtain ⟨ad, had⟩ : ∃ ad : Nat → Nat, ad = fun k => [x0, x1, x7, x8, x9, x10, x11, x2, x12, x13, x14, x15, x16, x3, x17, x18, x19, x20, x21, x4, x22, x23, x24, x5, x6, y0, y1, y2, y3, y4, y5, y6, y7, y8, y9, y10, y11, y12, y13, y14, o0].getD k 0 := ⟨_, rfl⟩
  have e_0 : ad 0 = x0 := by rw [had]; rfl
  have e_1 : ad 1 = x1 := by rw [had]; rfl
  have e_2 : ad 2 = x7 := by rw [had]; rfl
  have e_3 : ad 3 = x8 := by rw [had]; rfl
  have e_4 : ad 4 = x9 := by rw [had]; rfl
  have e_5 : ad 5 = x10 := by rw [had]; rfl
  have e_6 : ad 6 = x11 := by rw [had]; rfl
  have e_7 : ad 7 = x2 := by rw [had]; rfl
  have e_8 : ad 8 = x12 := by rw [had]; rfl
  have e_9 : ad 9 = x13 := by rw [had]; rfl
  have e_10 : ad 10 = x14 := by rw [had]; rfl
  have e_11 : ad 11 = x15 := by rw [had]; rfl
  have e_12 : ad 12 = x16 := by rw [had]; rfl
  have e_13 : ad 13 = x3 := by rw [had]; rfl
  have e_14 : ad 14 = x17 := by rw [had]; rfl
  have e_15 : ad 15 = x18 := by rw [had]; rfl
  have e_16 : ad 16 = x19 := by rw [had]; rfl
  have e_17 : ad 17 = x20 := by rw [had]; rfl
  have e_18 : ad 18 = x21 := by rw [had]; rfl
  have e_19 : ad 19 = x4 := by rw [had]; rfl
  have e_20 : ad 20 = x22 := by rw [had]; rfl
  have e_21 : ad 21 = x23 := by rw [had]; rfl
  have e_22 : ad 22 = x24 := by rw [had]; rfl
  have e_23 : ad 23 = x5 := by rw [had]; rfl
  have e_24 : ad 24 = x6 := by rw [had]; rfl
  have e_25 : ad 25 = y0 := by rw [had]; rfl
  have e_26 : ad 26 = y1 := by rw [had]; rfl
  have e_27 : ad 27 = y2 := by rw [had]; rfl
  have e_28 : ad 28 = y3 := by rw [had]; rfl
  have e_29 : ad 29 = y4 := by rw [had]; rfl
  have e_30 : ad 30 = y5 := by rw [had]; rfl
  have e_31 : ad 31 = y6 := by rw [had]; rfl
  have e_32 : ad 32 = y7 := by rw [had]; rfl
  have e_33 : ad 33 = y8 := by rw [had]; rfl
  have e_34 : ad 34 = y9 := by rw [had]; rfl
  have e_35 : ad 35 = y10 := by rw [had]; rfl
  have e_36 : ad 36 = y11 := by rw [had]; rfl
  have e_37 : ad 37 = y12 := by rw [had]; rfl
  have e_38 : ad 38 = y13 := by rw [had]; rfl
  have e_39 : ad 39 = y14 := by rw [had]; rfl
  have e_40 : ad 40 = o0 := by rw [had]; rfl
  have hmap : ((([(x0, .inr (11, [.ref x1, .ref x2, .ref x3, .int (bI false), .ref x4, .ref x5, .ref x6]))] ++ (schW cI cD x1 x7 x8 x9 x10 x11 0 0 0 0 0 (fun _ => 0) (fun _ => 0) (fun _ => 0) (fun _ => 0) (fun _ => none)) ++ (schW cI cD x2 x12 x13 x14 x15 x16 0 0 0 0 0 (fun _ => 0) (fun _ => 0) (fun _ => 0) (fun _ => 0) (fun _ => none)) ++ (schW cI cD x3 x17 x18 x19 x20 x21 0 0 0 0 0 (fun _ => 0) (fun _ => 0) (fun _ => 0) (fun _ => 0) (fun _ => none)) ++ (forW cI x4 x22 x23 x24 0 (fun _ => some 0) (fun _ => 0) (fun _ => some 0)) ++ [(x5, .inl (cD, 8, .inr (.inr (.inr (.inr (fun _ => none))))))] ++ [(x6, .inl (cR, 8, .inr (.inr (.inr (.inr (fun _ => none))))))]) ++ ([(y0, .inr (12, [.ref y1, .ref y2, .ref y3, .ref y4, .ref y5, .ref y6, .ref y7, .ref y8, .ref y9, .ref y10, .int (bI false), .int (nI 0), .int (nI 0), .int (nI 0), .int (nI 0), .ref y11, .ref y12, .ref y13, .ref y14, .int (nI 0)]))] ++ [(y1, .inl (cI, 53, .inl (fun _ => 0)))] ++ [(y2, .inl (cI, 53, .inl (fun _ => 0)))] ++ [(y3, .inl (cI, 53, .inl (fun _ => 0)))] ++ [(y4, .inl (cI, 53, .inl (fun _ => 0)))] ++ [(y5, .inl (cI, 8, .inl (fun _ => 0)))] ++ [(y6, .inl (cI, 8, .inl (fun _ => 0)))] ++ [(y7, .inl (cI, 8, .inl (fun _ => 0)))] ++ [(y8, .inl (cI, 800, .inl (fun _ => 0)))] ++ [(y9, .inl (cI, 8, .inl (fun _ => 0)))] ++ [(y10, .inl (cI, 8, .inl (fun _ => 0)))] ++ [(y11, .inl (cI, 2, .inl (fun _ => 0)))] ++ [(y12, .inl (cI, 512, .inl (fun _ => 0)))] ++ [(y13, .inl (cI, 512, .inl (fun _ => 0)))] ++ [(y14, .inl (cI, 512, .inl (fun _ => 0)))])) ++ [(o0, .inl (cL, 1, .inr (.inl (fun _ => 0))))]).map Prod.fst = adL ad 0 41 := by rw [had]; rfl
  have hAD : AdD ad s.heap.size := ⟨fun i j hi hj hij => ad_of hD hmap hi hj hij, fun i hi => ad_ge hD hmap hi⟩
  have hPX : va_P (dC, dI) vwCl (XW cI cD cR ad false 0 0 0 0 0 (fun _ => 0) (fun _ => 0) (fun _ => 0) (fun _ => 0) (fun _ => none) 0 0 0 0 0 (fun _ => 0) (fun _ => 0) (fun _ => 0) (fun _ => 0) (fun _ => none) 0 0 0 0 0 (fun _ => 0) (fun _ => 0) (fun _ => 0) (fun _ => 0) (fun _ => none) 0 (fun _ => some 0) (fun _ => 0) (fun _ => some 0) (fun _ => none) (fun _ => none)) H := by
    simp only [XW, schW, forW, e_0, e_1, e_2, e_3, e_4, e_5, e_6, e_7, e_8, e_9, e_10, e_11, e_12, e_13, e_14, e_15, e_16, e_17, e_18, e_19, e_20, e_21, e_22, e_23, e_24]
    exact hP.sub [0, 1, 2, 3, 4, 5, 6, 7, 8, 9, 10, 11, 12, 13, 14, 15, 16, 17, 18, 19, 20, 21, 22, 23, 24] rfl
  have hPM : va_P (dC, dI) vwCl (MW cI cL ad false (nI 0) 0 0 0 (nI 0) 0 0 0 0 0 (fun _ => 0) (fun _ => 0) (fun _ => 0) (fun _ => 0) (fun _ => 0) (fun _ => 0) 0 0 0 0 0 (fun _ => 0) (fun _ => 0) (fun _ => 0) (fun _ => 0) (fun _ => 0) (fun _ => 0) 0 0 0 0 0 (fun _ => 0) (fun _ => 0) (fun _ => 0) (fun _ => 0) (fun _ => 0) (fun _ => 0) 0 0 0 0 0 (fun _ => 0) (fun _ => 0) (fun _ => 0) (fun _ => 0) (fun _ => 0) (fun _ => 0) (fun _ => 0) (fun _ => 0) (fun _ => 0) (fun _ => 0) (fun _ => 0) (fun _ => 0) (fun _ => 0) (fun _ => some 0) (fun _ => some 0) (fun _ => some 0) (fun _ => 0)) H := by
    simp only [MW, e_25, e_26, e_27, e_28, e_29, e_30, e_31, e_32, e_33, e_34, e_35, e_36, e_37, e_38, e_39, e_40, sF_0, nF_0, oF_0]
    exact hP.sub [25, 26, 27, 28, 29, 30, 31, 32, 33, 34, 35, 36, 37, 38, 39, 40] rfl
  have hI : LI dC dI cI cD cR cL ad s.heap.size (17 * 0) H := ⟨false, 0, 0, 0, 0, 0, (fun _ => 0), (fun _ => 0), (fun _ => 0), (fun _ => 0), (fun _ => 0), (fun _ => 0), 0, 0, 0, 0, 0, (fun _ => 0), (fun _ => 0), (fun _ => 0), (fun _ => 0), (fun _ => 0), (fun _ => 0), (fun _ => 0), (fun _ => 0), (fun _ => 0), (fun _ => 0), (fun _ => 0), (fun _ => 0), ⟨⟨zero_WS, zero_WS, Nat.le_refl 0, Nat.le_refl 0, fun _ => Nat.zero_le 100, fun _ => (show (0 : Nat) < 3 from (by decide)), fun _ => Nat.zero_le 2, fun j h => absurd (show (0 : Nat) = 1 from h) (by decide)⟩, (fun _ => 0), (fun _ => 0), (fun _ => none), 0, 0, 0, 0, 0, (fun _ => 0), (fun _ => 0), (fun _ => 0), (fun _ => 0), (fun _ => none), (fun _ => 0), (fun _ => 0), (fun _ => none), 0, (fun _ => some 0), (fun _ => 0), (fun _ => some 0), (fun _ => none), (fun _ => none), [], (fun _ => 0), (fun _ => 0), [], (fun _ => 0), (fun _ => 0), (fun _ => 0), (fun _ _ => 0), hPX, fun a h => (by cases h), fun r h => (by cases h), ⟨fun a h => (by cases h), fun r h => (by cases h), fun r h => (by cases h), fun r h => (by cases h), fun a h => (by cases h)⟩, zero_RS, zero_RS, zero_SH, fun _ => (show (0 : Nat) < 1000 from (by decide)), fun j hj => ad_lt hP hmap hj⟩, (nI 0), (fun _ => 0), 0, 0, 0, (nI 0), 0, 0, 0, 0, 0, (fun _ => 0), (fun _ => 0), (fun _ => 0), (fun _ => 0), (fun _ => 0), (fun _ => 0), 0, 0, 0, 0, 0, (fun _ => 0), (fun _ => 0), (fun _ => 0), (fun _ => 0), (fun _ => 0), (fun _ => 0), (fun _ => 0), (fun _ => some 0), (fun _ => some 0), (fun _ => some 0), hPM⟩
  have hLC : LC p l s m meth c b L xs dC dI cI cD cR cL ad sa9 := ⟨⟨hx, hb, hr, hml, hown, htl, hX, hbl, hlocks⟩, hCX, hKJ, hVX, hAD, hl0, hL⟩
  have hl9 : lv_has ls 8 [(4, .int (nI 0)), (3, .ref (ad 40)), (2, .ref (ad 25)), (1, .ref (ad 0)), (0, .ref b)] := by rw [e_40, e_25, e_0]; exact hl
  refine W.widen (k := 100 + 10 * 0) (n := 10000 + 100 * 0) (by omega) (by omega) ?_
  exact lk_loop hLC 512 0 (Nat.zero_le L) (by omega) hI hS hl9
