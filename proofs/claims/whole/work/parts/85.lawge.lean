set_option maxHeartbeats 4000000 in
set_option maxRecDepth 100000 in
theorem lk_toss {p : Program} {l : Launch} {e : Env} {s : State} {m : MethodId} {below : List Frame} {meth : Method} {c : Code} {b L : Nat} {xs : Nat → Int32} {dC : Nat → ClassId} {dI : Nat → Nat → Nat} {cI cD cR cL : ClassId} {ad : Nat → Nat} {sa9 : Nat → Nat} {B i : Nat} {H : Heap} {locs : List Loc} {cells slots : Nat} {ls : Array Slot} (C0 : LC p l s m meth c b L xs dC dI cI cD cR cL ad sa9) (hB : B ≤ 60000) (hI : LI dC dI cI cD cR cL ad s.heap.size B H) (hS : va_S (fun q => s.heap.size ≤ q) s.heap H locs) (hl : lv_has ls 8 [(4, .int (nI i)), (3, .ref (ad 40)), (2, .ref (ad 25)), (1, .ref (ad 0)), (0, .ref b)]) (hi : i + 6 ≤ L) (hc9 : cells + 20 ≤ 903060) (hs9 : slots + 220 ≤ 6386924) (kk : ∀ (H1 : Heap) (locs1 : List Loc) (ls1 : Array Slot), LI dC dI cI cD cR cL ad s.heap.size (B + 100) H1 → va_S (fun q => s.heap.size ≤ q) s.heap H1 locs1 → lv_has ls1 8 [(4, .int (nI i)), (3, .ref (ad 40)), (2, .ref (ad 25)), (1, .ref (ad 0)), (0, .ref b)] → W p l e room_1 s m #[Value.ref b] below meth c H1 locs1 (cells + 20) (slots + 220) (lw_Z below #[Value.ref b] s) (F0 m 1223 ls1 [])) : W p l e room_1 s m #[Value.ref b] below meth c H locs cells slots (lw_Z below #[Value.ref b] s) (F0 m 1198 ls []) := by
  obtain ⟨⟨hx, hb, hr, hml, hown, htl, hX, hbl, hlocks⟩, hCX, hKJ, hVX, hA, hl0, hL⟩ := C0
  have hbA : ¬ (fun q : Nat => s.heap.size ≤ q) b := Nat.not_le.mpr hbl
  have hK := hCX.1
  obtain ⟨hi, n, d, t, day, al, nd, bb, oo, K, F, kn, nZ, dZ, tZ, dayZ, alZ, ndZ, bbZ, ooZ, KZ, FZ, knZ, ke, so, zz, el, qk, qf, hXS, hMT⟩ := hI
  have hC := hXS.1
  refine lv_aload_n hx hb dL_law_1198 rfl (lv_at hl 3 rfl) ?_
  refine lv_aload_n hx hb dL_law_1199 rfl (lv_at hl 4 rfl) ?_
  refine lv_iload hx hb dL_law_1200 (lv_at hl 0 rfl) ?_
  refine lv_iconst (v := nI 1) hx hb dL_law_1202 (by decide +kernel) ?_
  refine ho_iadd hx hb dL_law_1203 ?_
  refine va_sld hx hb hX hbl hbA hS (vp_in_nI (by omega) (by omega)) dL_law_1204 ?_
  refine ho_tope (y := xs (i + 1)) (by rw [nI_clamp (by omega)]) ?_
  have hVH : VX sa9 (fun q => s.heap.size ≤ q) s H := hVX.kept (fun a ha hno => hS.2.1 a ha hno)
  refine vx_calli (vx_runVX (As := [.int (xs (i + 1))]) (rest := []) ⟨hx, hb, hml, hown, htl⟩ (u_X11_toss l dC dI cI cD cR ad s.heap.size B hA hB hi n d t day al nd bb oo K F kn nZ dZ tZ dayZ alZ ndZ bbZ ooZ KZ FZ knZ ke so zz el qk qf (fun H => MT dC dI cI cL ad hi n d t day al nd bb oo K F kn nZ dZ tZ dayZ alZ ndZ bbZ ooZ KZ FZ knZ ke so zz el qk qf H) (MT.up hi n d t day al nd bb oo K F kn nZ dZ tZ dayZ alZ ndZ bbZ ooZ KZ FZ knZ ke so zz el qk qf) hl0 sa9 (xs (i + 1))) (vx_cwVW 1 htl gL_law_X11_toss rfl rfl rfl (by decide +kernel) ⟨Nat.le_of_ble_eq_true rfl, Nat.le_of_ble_eq_true rfl⟩) (preV_X hCX hVH (xs_recv hK hXS) ⟨hXS, hMT⟩) rfl rfl hl.1 rfl (lv_room (Nat.le_of_ble_eq_true rfl)) dL_law_1205 ⟨by show _ ≤ 903060; omega, by show _ ≤ 6386924; omega⟩) hS (fun q _ h => h) (fun q h => h) (fun q _ h => h) (fun E9 ce9 q9 u9 t9 H1 locs1 ht9 hal9 hp9 hB9 hz9 hk1 hS1 hce9 hcv9 hcl9 => hp9.elim) (fun r u T8 H1 locs hT8 hvm hw hB8 hz1 hk1 hS => ?_)
  obtain ⟨hXS, hMT⟩ := hB8
  rw [hT8] at hXS hMT
  generalize H1 = H at hXS hMT hS ⊢
  refine lv_aload_n hx hb dL_law_1208 rfl (lv_at hl 2 rfl) ?_
  refine lv_aload_n hx hb dL_law_1209 rfl (lv_at hl 4 rfl) ?_
  refine lv_iload hx hb dL_law_1210 (lv_at hl 0 rfl) ?_
  refine lv_iconst (v := nI 1) hx hb dL_law_1212 (by decide +kernel) ?_
  refine ho_iadd hx hb dL_law_1213 ?_
  refine va_sld hx hb hX hbl hbA hS (vp_in_nI (by omega) (by omega)) dL_law_1214 ?_
  refine ho_tope (y := xs (i + 1)) (by rw [nI_clamp (by omega)]) ?_
  refine va_calli (va_runV (As := [.int (xs (i + 1))]) (rest := [.int r]) ⟨hx, hb, hml, hown, htl⟩ (u_X12_toss l dC dI cI cD cR cL ad s.heap.size B hA hB hi n d t day al nd bb oo K F kn nZ dZ tZ dayZ alZ ndZ bbZ ooZ KZ FZ knZ ke so zz el qk qf (fun H => XS dC dI cI cD cR ad s.heap.size (B + 100) hi n d t day al nd bb oo K F kn nZ dZ tZ dayZ alZ ndZ bbZ ooZ KZ FZ knZ ke so zz el qk qf H) (XS.up hA (B + 100) hi n d t day al nd bb oo K F kn nZ dZ tZ dayZ alZ ndZ bbZ ooZ KZ FZ knZ ke so zz el qk qf) hC (xs (i + 1))) (cwV 1 htl gL_law_X12_toss rfl rfl rfl (by decide +kernel) ⟨Nat.le_of_ble_eq_true rfl, Nat.le_of_ble_eq_true rfl⟩) (preV_R hCX (mt_recv hK hMT) ⟨hXS, hMT⟩) rfl rfl hl.1 rfl (lv_room (Nat.le_of_ble_eq_true rfl)) dL_law_1215 ⟨by show _ ≤ 903060; omega, by show _ ≤ 6386924; omega⟩) hS (fun q _ h => h) (fun q h => h) (fun r2 u2 T9 H1 locs hT9 hvm2 hw2 hB8 hz1 hk1 hS => ?_)
  obtain ⟨hXS, hMT⟩ := hB8
  rw [hT9] at hXS hMT
  refine lv_icmp_eq (tgt := 1223) hx hb dL_law_1218 (by decide) (fun _ => ?_) (fun z9 => absurd (hw.trans hw2.symm) z9)
  refine W.widen (k := cells + 20) (n := slots + 220) (by omega) (by omega) ?_
  exact kk _ _ ls ⟨_, _, _, _, _, _, _, _, _, _, _, _, _, _, _, _, _, _, _, _, _, _, _, _, _, _, _, _, _, hXS, hMT⟩ hS hl
set_option maxHeartbeats 4000000 in
set_option maxRecDepth 100000 in
theorem lk_element {p : Program} {l : Launch} {e : Env} {s : State} {m : MethodId} {below : List Frame} {meth : Method} {c : Code} {b L : Nat} {xs : Nat → Int32} {dC : Nat → ClassId} {dI : Nat → Nat → Nat} {cI cD cR cL : ClassId} {ad : Nat → Nat} {sa9 : Nat → Nat} {B i : Nat} {H : Heap} {locs : List Loc} {cells slots : Nat} {ls : Array Slot} (C0 : LC p l s m meth c b L xs dC dI cI cD cR cL ad sa9) (hB : B ≤ 60000) (hI : LI dC dI cI cD cR cL ad s.heap.size B H) (hS : va_S (fun q => s.heap.size ≤ q) s.heap H locs) (hl : lv_has ls 8 [(4, .int (nI i)), (3, .ref (ad 40)), (2, .ref (ad 25)), (1, .ref (ad 0)), (0, .ref b)]) (hi : i + 6 ≤ L) (hc9 : cells + 20 ≤ 903060) (hs9 : slots + 220 ≤ 6386924) (kk : ∀ (H1 : Heap) (locs1 : List Loc) (ls1 : Array Slot), LI dC dI cI cD cR cL ad s.heap.size (B + 100) H1 → va_S (fun q => s.heap.size ≤ q) s.heap H1 locs1 → lv_has ls1 8 [(4, .int (nI i)), (3, .ref (ad 40)), (2, .ref (ad 25)), (1, .ref (ad 0)), (0, .ref b)] → W p l e room_1 s m #[Value.ref b] below meth c H1 locs1 (cells + 20) (slots + 220) (lw_Z below #[Value.ref b] s) (F0 m 1223 ls1 [])) : W p l e room_1 s m #[Value.ref b] below meth c H locs cells slots (lw_Z below #[Value.ref b] s) (F0 m 1033 ls []) := by
  obtain ⟨⟨hx, hb, hr, hml, hown, htl, hX, hbl, hlocks⟩, hCX, hKJ, hVX, hA, hl0, hL⟩ := C0
  have hbA : ¬ (fun q : Nat => s.heap.size ≤ q) b := Nat.not_le.mpr hbl
  have hK := hCX.1
  obtain ⟨hi, n, d, t, day, al, nd, bb, oo, K, F, kn, nZ, dZ, tZ, dayZ, alZ, ndZ, bbZ, ooZ, KZ, FZ, knZ, ke, so, zz, el, qk, qf, hXS, hMT⟩ := hI
  have hC := hXS.1
  obtain ⟨th, ov, hMU⟩ := hMT
  refine lv_aload_n hx hb dL_law_1033 rfl (lv_at hl 3 rfl) ?_
  refine lv_aload_n hx hb dL_law_1034 rfl (lv_at hl 4 rfl) ?_
  refine lv_iload hx hb dL_law_1035 (lv_at hl 0 rfl) ?_
  refine lv_iconst (v := nI 1) hx hb dL_law_1037 (by decide +kernel) ?_
  refine ho_iadd hx hb dL_law_1038 ?_
  refine va_sld hx hb hX hbl hbA hS (vp_in_nI (by omega) (by omega)) dL_law_1039 ?_
  refine ho_tope (y := xs (i + 1)) (by rw [nI_clamp (by omega)]) ?_
  refine lv_aload_n hx hb dL_law_1040 rfl (lv_at hl 4 rfl) ?_
  refine lv_iload hx hb dL_law_1041 (lv_at hl 0 rfl) ?_
  refine lv_iconst (v := nI 2) hx hb dL_law_1043 (by decide +kernel) ?_
  refine ho_iadd hx hb dL_law_1044 ?_
  refine va_sld hx hb hX hbl hbA hS (vp_in_nI (by omega) (by omega)) dL_law_1045 ?_
  refine ho_tope (y := xs (i + 2)) (by rw [nI_clamp (by omega)]) ?_
  refine lv_aload_n hx hb dL_law_1046 rfl (lv_at hl 1 rfl) ?_
  have hVH : VX sa9 (fun q => s.heap.size ≤ q) s H := hVX.kept (fun a ha hno => hS.2.1 a ha hno)
  refine vx_calli (vx_runSX (As := [.ref (ad 0), .int (xs (i + 1)), .int (xs (i + 2)), .ref (ad 40)]) (rest := []) ⟨hx, hb, hml, hown, htl⟩ (u_L_element l hl0 dC dI cI cD cR cL ad s.heap.size B hA hB hi n d t day al nd bb oo K F kn nZ dZ tZ dayZ alZ ndZ bbZ ooZ KZ FZ knZ ke so zz el qk qf th ov sa9 (xs (i + 1)) (xs (i + 2))) (vx_cwSW 4 htl gL_law_L_element rfl rfl rfl (by decide +kernel) ⟨Nat.le_of_ble_eq_true rfl, Nat.le_of_ble_eq_true rfl⟩) (preJ hCX hVH hKJ ⟨hXS, hMU⟩) rfl rfl hl.1 rfl (lv_room (Nat.le_of_ble_eq_true rfl)) dL_law_1047 ⟨by show _ ≤ 903060; omega, by show _ ≤ 6386924; omega⟩) hS (fun q _ h => h) (fun q h => h) (fun q _ h => h) (fun E9 ce9 q9 u9 t9 H1 locs1 ht9 hal9 hp9 hB9 hz9 hk1 hS1 hce9 hcv9 hcl9 => hp9.elim) (fun r u T8 H1 locs hT8 hvm hw hB8 hz1 hk1 hS => ?_)
  obtain ⟨hXS, hMU⟩ := hB8
  rw [hT8] at hXS hMU
  generalize H1 = H at hXS hMU hS ⊢
  refine lv_istore (lv' := [(5, .int r), (4, .int (nI i)), (3, .ref (ad 40)), (2, .ref (ad 25)), (1, .ref (ad 0)), (0, .ref b)]) hx hb dL_law_1050 hl (by decide) rfl (fun ls hl => ?_)
  refine lv_aload_n hx hb dL_law_1052 rfl (lv_at hl 3 rfl) ?_
  refine lv_aload_n hx hb dL_law_1053 rfl (lv_at hl 5 rfl) ?_
  refine lv_iload hx hb dL_law_1054 (lv_at hl 1 rfl) ?_
  refine lv_iconst (v := nI 1) hx hb dL_law_1056 (by decide +kernel) ?_
  refine ho_iadd hx hb dL_law_1057 ?_
  refine va_sld hx hb hX hbl hbA hS (vp_in_nI (by omega) (by omega)) dL_law_1058 ?_
  refine ho_tope (y := xs (i + 1)) (by rw [nI_clamp (by omega)]) ?_
  refine lv_aload_n hx hb dL_law_1059 rfl (lv_at hl 5 rfl) ?_
  refine lv_iload hx hb dL_law_1060 (lv_at hl 1 rfl) ?_
  refine lv_iconst (v := nI 2) hx hb dL_law_1062 (by decide +kernel) ?_
  refine ho_iadd hx hb dL_law_1063 ?_
  refine va_sld hx hb hX hbl hbA hS (vp_in_nI (by omega) (by omega)) dL_law_1064 ?_
  refine ho_tope (y := xs (i + 2)) (by rw [nI_clamp (by omega)]) ?_
  refine va_calll (va_runV (As := [.int (xs (i + 1)), .int (xs (i + 2))]) (rest := []) ⟨hx, hb, hml, hown, htl⟩ (u_X12_element l dC dI cI cD cR cL ad s.heap.size B hA hB hi n d t day al nd bb oo K F kn nZ dZ tZ dayZ alZ ndZ bbZ ooZ KZ FZ knZ ke so zz el qk qf (fun H => XS dC dI cI cD cR ad s.heap.size (B + 100) hi n d t day al nd bb oo K F kn nZ dZ tZ dayZ alZ ndZ bbZ ooZ KZ FZ knZ ke so zz el qk qf H) (XS.up hA (B + 100) hi n d t day al nd bb oo K F kn nZ dZ tZ dayZ alZ ndZ bbZ ooZ KZ FZ knZ ke so zz el qk qf) hC (xs (i + 1)) (xs (i + 2)) th (bif okI (xs (i + 1)) 8 && (decide (ke (nT (xs (i + 1))) = 2) && okI (xs (i + 2)) (zz (nT (xs (i + 1))))) then vp_updL ov 0 ((el (100 * nT (xs (i + 1)) + nT (xs (i + 2)))).toInt64) else ov)) (cwV 2 htl gL_law_X12_element rfl rfl rfl (by decide +kernel) ⟨Nat.le_of_ble_eq_true rfl, Nat.le_of_ble_eq_true rfl⟩) (preV_R hCX (mu_recv hK hMU) ⟨hXS, hMU⟩) rfl rfl hl.1 rfl (lv_room (Nat.le_of_ble_eq_true rfl)) dL_law_1065 ⟨by show _ ≤ 903060; omega, by show _ ≤ 6386924; omega⟩) hS (fun q _ h => h) (fun q h => h) (fun r2 u T8 H1 locs hT8 hvm hw2 hB8 hz1 hk1 hS => ?_)
  obtain ⟨hXS, hMU⟩ := hB8
  rw [hT8] at hXS hMU
  generalize H1 = H at hXS hMU hS ⊢
  refine lv_lstore (lv' := [(6, .long r2), (5, .int r), (4, .int (nI i)), (3, .ref (ad 40)), (2, .ref (ad 25)), (1, .ref (ad 0)), (0, .ref b)]) hx hb dL_law_1068 hl (by decide) rfl (fun ls hl => ?_)
  refine lv_aload_n hx hb dL_law_1070 rfl (lv_at hl 4 rfl) ?_
  refine va_calli (va_runV (As := []) (rest := []) ⟨hx, hb, hml, hown, htl⟩ (u_X12_thrown l dC dI cI cD cR cL ad s.heap.size B hA hB hi n d t day al nd bb oo K F kn nZ dZ tZ dayZ alZ ndZ bbZ ooZ KZ FZ knZ ke so zz el qk qf (fun H => XS dC dI cI cD cR ad s.heap.size (B + 100) hi n d t day al nd bb oo K F kn nZ dZ tZ dayZ alZ ndZ bbZ ooZ KZ FZ knZ ke so zz el qk qf H) (XS.up hA (B + 100) hi n d t day al nd bb oo K F kn nZ dZ tZ dayZ alZ ndZ bbZ ooZ KZ FZ knZ ke so zz el qk qf) hC (bif okI (xs (i + 1)) 8 then (bif decide (ke (nT (xs (i + 1))) = 2) && okI (xs (i + 2)) (zz (nT (xs (i + 1)))) then 0 else 2) else 1) (bif okI (xs (i + 1)) 8 && (decide (ke (nT (xs (i + 1))) = 2) && okI (xs (i + 2)) (zz (nT (xs (i + 1))))) then vp_updL ov 0 ((el (100 * nT (xs (i + 1)) + nT (xs (i + 2)))).toInt64) else ov)) (cwV 0 htl gL_law_X12_thrown rfl rfl rfl (by decide +kernel) ⟨Nat.le_of_ble_eq_true rfl, Nat.le_of_ble_eq_true rfl⟩) (preV_R hCX (mu_recv hK hMU) ⟨hXS, hMU⟩) rfl rfl hl.1 rfl (lv_room (Nat.le_of_ble_eq_true rfl)) dL_law_1071 ⟨by show _ ≤ 903060; omega, by show _ ≤ 6386924; omega⟩) hS (fun q _ h => h) (fun q h => h) (fun r3 u T8 H1 locs hT8 hvm hw3 hB8 hz1 hk1 hS => ?_)
  obtain ⟨hXS, hMU⟩ := hB8
  rw [hT8] at hXS hMU
  generalize H1 = H at hXS hMU hS ⊢
  have hr3 : r3 = r := hw3.trans hw.symm
  subst hr3
  refine lv_iload hx hb dL_law_1074 (lv_at hl 1 rfl) ?_
  refine lv_icmp_eq (tgt := 1081) hx hb dL_law_1076 (by decide) (fun _ => ?_) (fun z9 => absurd rfl z9)
  refine lv_iload hx hb dL_law_1081 (lv_at hl 1 rfl) ?_
  refine lv_if_ne (tgt := 1097) hx hb dL_law_1083 (by decide) (fun c9 => ?_) (fun c9 => ?_)
  · skip
    refine lv_goto (tgt := 1223) hx hb dL_law_1097 (by decide) ?_
    refine W.widen (k := cells + 20) (n := slots + 220) (by omega) (by omega) ?_
    exact kk _ _ ls ⟨_, _, _, _, _, _, _, _, _, _, _, _, _, _, _, _, _, _, _, _, _, _, _, _, _, _, _, _, _, hXS, _, _, hMU⟩ hS (lv_sub hl [2, 3, 4, 5, 6] rfl)
  · have hc : (okI (xs (i + 1)) 8 && (decide (ke (nT (xs (i + 1))) = 2) && okI (xs (i + 2)) (zz (nT (xs (i + 1)))))) = true := by
      have c8 : r3 = 0 := by first | exact c9 | exact Classical.not_not.mp c9
      rw [hw] at c8
      cases ha : okI (xs (i + 1)) 8
      · rw [ha] at c8; exact absurd (show (1 : Int32) = 0 from c8) (by decide)
      · rw [ha] at c8; rw [Bool.true_and]; cases hb9 : (decide (ke (nT (xs (i + 1))) = 2) && okI (xs (i + 2)) (zz (nT (xs (i + 1)))))
        · rw [hb9] at c8; exact absurd (show (2 : Int32) = 0 from c8) (by decide)
        · rfl
    rw [hc] at hMU hw2
    have hMU9 := hMU
    obtain ⟨po, ba, en, se, nR, dR, tR, dayR, alR, ndR, bbR, ooR, KR, FR, knR, nM, dM, tM, dayM, alM, ndM, bbM, ooM, KM, FM, knM, nu, fe, ea, pr, hPM⟩ := hMU9
    refine lv_aload_n hx hb dL_law_1086 rfl (lv_at hl 3 rfl) ?_
    refine lv_iconst (v := nI 0) hx hb dL_law_1087 (by decide +kernel) ?_
    refine va_lald hx hb hKJ hPM 15 0 rfl rfl (vp_in_nI (by decide) (by decide)) dL_law_1088 ?_
    refine lv_lload hx hb dL_law_1089 (lv_at hl 0 rfl) ?_
    refine W.lcmp hx hb dL_law_1091 ?_
    refine lv_if_eq (tgt := 1097) hx hb dL_law_1092 (by decide) (fun _ => ?_) (fun z9 => absurd ?_ z9)
    · skip
      refine lv_goto (tgt := 1223) hx hb dL_law_1097 (by decide) ?_
      refine W.widen (k := cells + 20) (n := slots + 220) (by omega) (by omega) ?_
      exact kk _ _ ls ⟨_, _, _, _, _, _, _, _, _, _, _, _, _, _, _, _, _, _, _, _, _, _, _, _, _, _, _, _, _, hXS, _, _, hMU⟩ hS (lv_sub hl [2, 3, 4, 5, 6] rfl)
    · rw [hw2, nI_clamp (show 0 < 2 ^ 31 by decide)]; simp [vp_updL, lc_self]
