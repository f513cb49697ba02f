theorem adL_len (ad : Nat → Nat) : ∀ (b k : Nat), (adL ad b k).length = k
  | _, 0 => rfl
  | b, k + 1 => by
    show (adL ad (b + 1) k).length + 1 = k + 1
    rw [adL_len ad (b + 1) k]
theorem ad_of9 {A : Nat → Prop} {ws : va_W} {ad : Nat → Nat} {k i j : Nat} (hD : va_D A ws) (e : ws.map Prod.fst = adL ad 0 k) (hi : i < k) (hj : j < k) (h : ad i = ad j) : i = j := by
  have hlen : ws.length = k := by rw [← List.length_map (f := Prod.fst), e, adL_len]
  have h1 : ws[i]? = some ws[i] := List.getElem?_eq_getElem (by omega)
  have h2 : ws[j]? = some ws[j] := List.getElem?_eq_getElem (by omega)
  have a1 := (ws_at e h1).2
  have a2 := (ws_at e h2).2
  rw [Nat.zero_add] at a1 a2
  exact hD.1 i j _ _ h1 h2 (by rw [a1, a2, h])
theorem ad_ge {ws : va_W} {ad : Nat → Nat} {k i s0 : Nat} (hD : va_D (fun q => s0 ≤ q) ws) (e : ws.map Prod.fst = adL ad 0 k) (hi : i < k) : s0 ≤ ad i := by
  have hlen : ws.length = k := by rw [← List.length_map (f := Prod.fst), e, adL_len]
  have h1 : ws[i]? = some ws[i] := List.getElem?_eq_getElem (by omega)
  have a1 := (ws_at e h1).2
  rw [Nat.zero_add] at a1
  have := hD.2 i _ h1
  rw [a1] at this
  exact this
theorem ad_lt {D : va_G} {ws : va_W} {ad : Nat → Nat} {k i : Nat} {H : Heap} (hP : va_P D vwCl ws H) (e : ws.map Prod.fst = adL ad 0 k) (hi : i < k) : ad i < H.size := by
  have hlen : ws.length = k := by rw [← List.length_map (f := Prod.fst), e, adL_len]
  have h1 : ws[i]? = some ws[i] := List.getElem?_eq_getElem (by omega)
  have a1 := (ws_at e h1).2
  rw [Nat.zero_add] at a1
  have := (hP i _ h1).lt
  rw [a1] at this
  exact this
theorem nF_09 : nF (fun _ => 0) = fun _ => 0 := by funext k; show nI 0 = 0; decide
theorem oF_09 : oF (fun _ => some 0) = fun _ => 0 := by funext k; show oI (some 0) = 0; decide
set_option maxHeartbeats 4000000 in
set_option maxRecDepth 100000 in
theorem lk_step {p : Program} {l : Launch} {e : Env} {s : State} {m : MethodId} {below : List Frame} {meth : Method} {c : Code} {b L : Nat} {xs : Nat → Int32} {dC : Nat → ClassId} {dI : Nat → Nat → Nat} {cI cD cR cL : ClassId} {ad : Nat → Nat} {sa9 : Nat → Nat} {B i : Nat} {H : Heap} {locs : List Loc} {cells slots : Nat} {ls : Array Slot} (C0 : LC p l s m meth c b L xs dC dI cI cD cR cL ad sa9) (hB : B ≤ 60000) (hI : LI dC dI cI cD cR cL ad s.heap.size B H) (hS : va_S (fun q => s.heap.size ≤ q) s.heap H locs) (hl : lv_has ls 8 [(4, .int (nI i)), (3, .ref (ad 40)), (2, .ref (ad 25)), (1, .ref (ad 0)), (0, .ref b)]) (hi : i + 6 ≤ L) (hc9 : cells + 20 ≤ 903060) (hs9 : slots + 220 ≤ 6386924) (kk : ∀ (H1 : Heap) (locs1 : List Loc) (ls1 : Array Slot), LI dC dI cI cD cR cL ad s.heap.size (B + 100) H1 → va_S (fun q => s.heap.size ≤ q) s.heap H1 locs1 → lv_has ls1 8 [(4, .int (nI i)), (3, .ref (ad 40)), (2, .ref (ad 25)), (1, .ref (ad 0)), (0, .ref b)] → W p l e room_1 s m #[Value.ref b] below meth c H1 locs1 (cells + 20) (slots + 220) (lw_Z below #[Value.ref b] s) (F0 m 1223 ls1 [])) : W p l e room_1 s m #[Value.ref b] below meth c H locs cells slots (lw_Z below #[Value.ref b] s) (F0 m 33 ls []) := by
  have C1 := C0
  obtain ⟨⟨hx, hb, hr, hml, hown, htl, hX, hbl, hlocks⟩, -, -, -, -, -, hL⟩ := C1
  have hbA : ¬ (fun q : Nat => s.heap.size ≤ q) b := Nat.not_le.mpr hbl
  refine lv_aload_n hx hb dL_law_33 rfl (lv_at hl 4 rfl) ?_
  refine lv_iload hx hb dL_law_34 (lv_at hl 0 rfl) ?_
  refine va_sld hx hb hX hbl hbA hS (vp_in_nI (by omega) (by omega)) dL_law_36 ?_
  refine lv_bipush (v := nI 63) hx hb dL_law_37 (by decide +kernel) ?_
  refine lv_iand hx hb dL_law_39 ?_
  generalize xs (nI i).toNatClampNeg &&& nI 63 = v9
  by_cases k_0 : v9 = 0
  · refine ho_tope (y := 0) k_0 ?_
    refine lv_tableIn (tgt := 188) hx hb dL_law_40 (by decide +kernel) (by decide +kernel) (off := 148) (by decide +kernel) (by decide) ?_
    exact lk_school C0 hB hI hS hl hi hc9 hs9 kk
  by_cases k_1 : v9 = 1
  · refine ho_tope (y := 1) k_1 ?_
    refine lv_tableIn (tgt := 213) hx hb dL_law_40 (by decide +kernel) (by decide +kernel) (off := 173) (by decide +kernel) (by decide) ?_
    exact lk_sentence C0 hB hI hS hl hi hc9 hs9 kk
  by_cases k_2 : v9 = 2
  · refine ho_tope (y := 2) k_2 ?_
    refine lv_tableIn (tgt := 250) hx hb dL_law_40 (by decide +kernel) (by decide +kernel) (off := 210) (by decide +kernel) (by decide) ?_
    exact lk_denier C0 hB hI hS hl hi hc9 hs9 kk
  by_cases k_3 : v9 = 3
  · refine ho_tope (y := 3) k_3 ?_
    refine lv_tableIn (tgt := 287) hx hb dL_law_40 (by decide +kernel) (by decide +kernel) (off := 247) (by decide +kernel) (by decide) ?_
    exact lk_comes C0 hB hI hS hl hi hc9 hs9 kk
  by_cases k_4 : v9 = 4
  · refine ho_tope (y := 4) k_4 ?_
    refine lv_tableIn (tgt := 312) hx hb dL_law_40 (by decide +kernel) (by decide +kernel) (off := 272) (by decide +kernel) (by decide) ?_
    exact lk_learns C0 hB hI hS hl hi hc9 hs9 kk
  by_cases k_5 : v9 = 5
  · refine ho_tope (y := 5) k_5 ?_
    refine lv_tableIn (tgt := 349) hx hb dL_law_40 (by decide +kernel) (by decide +kernel) (off := 309) (by decide +kernel) (by decide) ?_
    exact lk_deny C0 hB hI hS hl hi hc9 hs9 kk
  by_cases k_6 : v9 = 6
  · refine ho_tope (y := 6) k_6 ?_
    refine lv_tableIn (tgt := 386) hx hb dL_law_40 (by decide +kernel) (by decide +kernel) (off := 346) (by decide +kernel) (by decide) ?_
    exact lk_die C0 hB hI hS hl hi hc9 hs9 kk
  by_cases k_7 : v9 = 7
  · refine ho_tope (y := 7) k_7 ?_
    refine lv_tableIn (tgt := 411) hx hb dL_law_40 (by decide +kernel) (by decide +kernel) (off := 371) (by decide +kernel) (by decide) ?_
    exact lk_may C0 hB hI hS hl hi hc9 hs9 kk
  by_cases k_8 : v9 = 8
  · refine ho_tope (y := 8) k_8 ?_
    refine lv_tableIn (tgt := 436) hx hb dL_law_40 (by decide +kernel) (by decide +kernel) (off := 396) (by decide +kernel) (by decide) ?_
    exact lk_silences C0 hB hI hS hl hi hc9 hs9 kk
  by_cases k_9 : v9 = 9
  · refine ho_tope (y := 9) k_9 ?_
    refine lv_tableIn (tgt := 461) hx hb dL_law_40 (by decide +kernel) (by decide +kernel) (off := 421) (by decide +kernel) (by decide) ?_
    exact lk_steps C0 hB hI hS hl hi hc9 hs9 kk
  by_cases k_10 : v9 = 10
  · refine ho_tope (y := 10) k_10 ?_
    refine lv_tableIn (tgt := 498) hx hb dL_law_40 (by decide +kernel) (by decide +kernel) (off := 458) (by decide +kernel) (by decide) ?_
    exact lk_falls C0 hB hI hS hl hi hc9 hs9 kk
  by_cases k_11 : v9 = 11
  · refine ho_tope (y := 11) k_11 ?_
    refine lv_tableIn (tgt := 523) hx hb dL_law_40 (by decide +kernel) (by decide +kernel) (off := 483) (by decide +kernel) (by decide) ?_
    exact lk_lonely C0 hB hI hS hl hi hc9 hs9 kk
  by_cases k_12 : v9 = 12
  · refine ho_tope (y := 12) k_12 ?_
    refine lv_tableIn (tgt := 536) hx hb dL_law_40 (by decide +kernel) (by decide +kernel) (off := 496) (by decide +kernel) (by decide) ?_
    exact lk_ever C0 hB hI hS hl hi hc9 hs9 kk
  by_cases k_13 : v9 = 13
  · refine ho_tope (y := 13) k_13 ?_
    refine lv_tableIn (tgt := 549) hx hb dL_law_40 (by decide +kernel) (by decide +kernel) (off := 509) (by decide +kernel) (by decide) ?_
    exact lk_soonest C0 hB hI hS hl hi hc9 hs9 kk
  by_cases k_14 : v9 = 14
  · refine ho_tope (y := 14) k_14 ?_
    refine lv_tableIn (tgt := 574) hx hb dL_law_40 (by decide +kernel) (by decide +kernel) (off := 534) (by decide +kernel) (by decide) ?_
    exact lk_first C0 hB hI hS hl hi hc9 hs9 kk
  by_cases k_15 : v9 = 15
  · refine ho_tope (y := 15) k_15 ?_
    refine lv_tableIn (tgt := 599) hx hb dL_law_40 (by decide +kernel) (by decide +kernel) (off := 559) (by decide +kernel) (by decide) ?_
    exact lk_easiest C0 hB hI hS hl hi hc9 hs9 kk
  by_cases k_16 : v9 = 16
  · refine ho_tope (y := 16) k_16 ?_
    refine lv_tableIn (tgt := 624) hx hb dL_law_40 (by decide +kernel) (by decide +kernel) (off := 584) (by decide +kernel) (by decide) ?_
    exact lk_all C0 hB hI hS hl hi hc9 hs9 kk
  by_cases k_17 : v9 = 17
  · refine ho_tope (y := 17) k_17 ?_
    refine lv_tableIn (tgt := 637) hx hb dL_law_40 (by decide +kernel) (by decide +kernel) (off := 597) (by decide +kernel) (by decide) ?_
    exact lk_atOnce C0 hB hI hS hl hi hc9 hs9 kk
  by_cases k_18 : v9 = 18
  · refine ho_tope (y := 18) k_18 ?_
    refine lv_tableIn (tgt := 662) hx hb dL_law_40 (by decide +kernel) (by decide +kernel) (off := 622) (by decide +kernel) (by decide) ?_
    exact lk_hire C0 hB hI hS hl hi hc9 hs9 kk
  by_cases k_19 : v9 = 19
  · refine ho_tope (y := 19) k_19 ?_
    refine lv_tableIn (tgt := 699) hx hb dL_law_40 (by decide +kernel) (by decide +kernel) (off := 659) (by decide +kernel) (by decide) ?_
    exact lk_canHave C0 hB hI hS hl hi hc9 hs9 kk
  by_cases k_20 : v9 = 20
  · refine ho_tope (y := 20) k_20 ?_
    refine lv_tableIn (tgt := 724) hx hb dL_law_40 (by decide +kernel) (by decide +kernel) (off := 684) (by decide +kernel) (by decide) ?_
    exact lk_run C0 hB hI hS hl hi hc9 hs9 kk
  by_cases k_21 : v9 = 21
  · refine ho_tope (y := 21) k_21 ?_
    refine lv_tableIn (tgt := 761) hx hb dL_law_40 (by decide +kernel) (by decide +kernel) (off := 721) (by decide +kernel) (by decide) ?_
    exact lk_seeded C0 hB hI hS hl hi hc9 hs9 kk
  by_cases k_22 : v9 = 22
  · refine ho_tope (y := 22) k_22 ?_
    refine lv_tableIn (tgt := 798) hx hb dL_law_40 (by decide +kernel) (by decide +kernel) (off := 758) (by decide +kernel) (by decide) ?_
    exact lk_judge C0 hB hI hS hl hi hc9 hs9 kk
  by_cases k_23 : v9 = 23
  · refine ho_tope (y := 23) k_23 ?_
    refine lv_tableIn (tgt := 823) hx hb dL_law_40 (by decide +kernel) (by decide +kernel) (off := 783) (by decide +kernel) (by decide) ?_
    exact lk_image C0 hB hI hS hl hi hc9 hs9 kk
  by_cases k_24 : v9 = 24
  · refine ho_tope (y := 24) k_24 ?_
    refine lv_tableIn (tgt := 836) hx hb dL_law_40 (by decide +kernel) (by decide +kernel) (off := 796) (by decide +kernel) (by decide) ?_
    exact lk_restore C0 hB hI hS hl hi hc9 hs9 kk
  by_cases k_25 : v9 = 25
  · refine ho_tope (y := 25) k_25 ?_
    refine lv_tableIn (tgt := 849) hx hb dL_law_40 (by decide +kernel) (by decide +kernel) (off := 809) (by decide +kernel) (by decide) ?_
    exact lk_count C0 hB hI hS hl hi hc9 hs9 kk
  by_cases k_26 : v9 = 26
  · refine ho_tope (y := 26) k_26 ?_
    refine lv_tableIn (tgt := 874) hx hb dL_law_40 (by decide +kernel) (by decide +kernel) (off := 834) (by decide +kernel) (by decide) ?_
    exact lk_keep C0 hB hI hS hl hi hc9 hs9 kk
  by_cases k_27 : v9 = 27
  · refine ho_tope (y := 27) k_27 ?_
    refine lv_tableIn (tgt := 935) hx hb dL_law_40 (by decide +kernel) (by decide +kernel) (off := 895) (by decide +kernel) (by decide) ?_
    exact lk_row C0 hB hI hS hl hi hc9 hs9 kk
  by_cases k_28 : v9 = 28
  · refine ho_tope (y := 28) k_28 ?_
    refine lv_tableIn (tgt := 984) hx hb dL_law_40 (by decide +kernel) (by decide +kernel) (off := 944) (by decide +kernel) (by decide) ?_
    exact lk_put C0 hB hI hS hl hi hc9 hs9 kk
  by_cases k_29 : v9 = 29
  · refine ho_tope (y := 29) k_29 ?_
    refine lv_tableIn (tgt := 1033) hx hb dL_law_40 (by decide +kernel) (by decide +kernel) (off := 993) (by decide +kernel) (by decide) ?_
    exact lk_element C0 hB hI hS hl hi hc9 hs9 kk
  by_cases k_30 : v9 = 30
  · refine ho_tope (y := 30) k_30 ?_
    refine lv_tableIn (tgt := 1100) hx hb dL_law_40 (by decide +kernel) (by decide +kernel) (off := 1060) (by decide +kernel) (by decide) ?_
    exact lk_copy C0 hB hI hS hl hi hc9 hs9 kk
  by_cases k_31 : v9 = 31
  · refine ho_tope (y := 31) k_31 ?_
    refine lv_tableIn (tgt := 1173) hx hb dL_law_40 (by decide +kernel) (by decide +kernel) (off := 1133) (by decide +kernel) (by decide) ?_
    exact lk_price C0 hB hI hS hl hi hc9 hs9 kk
  by_cases k_32 : v9 = 32
  · refine ho_tope (y := 32) k_32 ?_
    refine lv_tableIn (tgt := 1198) hx hb dL_law_40 (by decide +kernel) (by decide +kernel) (off := 1158) (by decide +kernel) (by decide) ?_
    exact lk_toss C0 hB hI hS hl hi hc9 hs9 kk
  refine lv_tableOut (tgt := 1223) hx hb dL_law_40 (by have z0 := sw_ne k_0 (i := 0) (by decide +kernel); have z1 := sw_ne k_1 (i := 1) (by decide +kernel); have z2 := sw_ne k_2 (i := 2) (by decide +kernel); have z3 := sw_ne k_3 (i := 3) (by decide +kernel); have z4 := sw_ne k_4 (i := 4) (by decide +kernel); have z5 := sw_ne k_5 (i := 5) (by decide +kernel); have z6 := sw_ne k_6 (i := 6) (by decide +kernel); have z7 := sw_ne k_7 (i := 7) (by decide +kernel); have z8 := sw_ne k_8 (i := 8) (by decide +kernel); have z9 := sw_ne k_9 (i := 9) (by decide +kernel); have z10 := sw_ne k_10 (i := 10) (by decide +kernel); have z11 := sw_ne k_11 (i := 11) (by decide +kernel); have z12 := sw_ne k_12 (i := 12) (by decide +kernel); have z13 := sw_ne k_13 (i := 13) (by decide +kernel); have z14 := sw_ne k_14 (i := 14) (by decide +kernel); have z15 := sw_ne k_15 (i := 15) (by decide +kernel); have z16 := sw_ne k_16 (i := 16) (by decide +kernel); have z17 := sw_ne k_17 (i := 17) (by decide +kernel); have z18 := sw_ne k_18 (i := 18) (by decide +kernel); have z19 := sw_ne k_19 (i := 19) (by decide +kernel); have z20 := sw_ne k_20 (i := 20) (by decide +kernel); have z21 := sw_ne k_21 (i := 21) (by decide +kernel); have z22 := sw_ne k_22 (i := 22) (by decide +kernel); have z23 := sw_ne k_23 (i := 23) (by decide +kernel); have z24 := sw_ne k_24 (i := 24) (by decide +kernel); have z25 := sw_ne k_25 (i := 25) (by decide +kernel); have z26 := sw_ne k_26 (i := 26) (by decide +kernel); have z27 := sw_ne k_27 (i := 27) (by decide +kernel); have z28 := sw_ne k_28 (i := 28) (by decide +kernel); have z29 := sw_ne k_29 (i := 29) (by decide +kernel); have z30 := sw_ne k_30 (i := 30) (by decide +kernel); have z31 := sw_ne k_31 (i := 31) (by decide +kernel); have z32 := sw_ne k_32 (i := 32) (by decide +kernel); show _ ∨ _; omega) (by decide) ?_
  refine W.widen (k := cells + 20) (n := slots + 220) (by omega) (by omega) ?_
  obtain ⟨hi, n, d, t, day, al, nd, bb, oo, K, F, kn, nZ, dZ, tZ, dayZ, alZ, ndZ, bbZ, ooZ, KZ, FZ, knZ, ke, so, zz, el, qk, qf, hXS, hMT⟩ := hI
  exact kk _ _ ls ⟨_, _, _, _, _, _, _, _, _, _, _, _, _, _, _, _, _, _, _, _, _, _, _, _, _, _, _, _, _, hXS.mono (by omega), hMT⟩ hS hl
