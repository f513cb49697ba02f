set_option maxHeartbeats 4000000 in
set_option maxRecDepth 100000 in
theorem lk_keep {p : Program} {l : Launch} {e : Env} {s : State} {m : MethodId} {below : List Frame} {meth : Method} {c : Code} {b L : Nat} {xs : Nat → Int32} {dC : Nat → ClassId} {dI : Nat → Nat → Nat} {cI cD cR cL : ClassId} {ad : Nat → Nat} {sa9 : Nat → Nat} {B i : Nat} {H : Heap} {locs : List Loc} {cells slots : Nat} {ls : Array Slot} (C0 : LC p l s m meth c b L xs dC dI cI cD cR cL ad sa9) (hB : B ≤ 60000) (hI : LI dC dI cI cD cR cL ad s.heap.size B H) (hS : va_S (fun q => s.heap.size ≤ q) s.heap H locs) (hl : lv_has ls 8 [(4, .int (nI i)), (3, .ref (ad 40)), (2, .ref (ad 25)), (1, .ref (ad 0)), (0, .ref b)]) (hi : i + 6 ≤ L) (hc9 : cells + 20 ≤ 903060) (hs9 : slots + 220 ≤ 6386924) (kk : ∀ (H1 : Heap) (locs1 : List Loc) (ls1 : Array Slot), LI dC dI cI cD cR cL ad s.heap.size (B + 100) H1 → va_S (fun q => s.heap.size ≤ q) s.heap H1 locs1 → lv_has ls1 8 [(4, .int (nI i)), (3, .ref (ad 40)), (2, .ref (ad 25)), (1, .ref (ad 0)), (0, .ref b)] → W p l e room_1 s m #[Value.ref b] below meth c H1 locs1 (cells + 20) (slots + 220) (lw_Z below #[Value.ref b] s) (F0 m 1223 ls1 [])) : W p l e room_1 s m #[Value.ref b] below meth c H locs cells slots (lw_Z below #[Value.ref b] s) (F0 m 874 ls []) := by
  obtain ⟨⟨hx, hb, hr, hml, hown, htl, hX, hbl, hlocks⟩, hCX, hKJ, hVX, hA, hl0, hL⟩ := C0
  have hbA : ¬ (fun q : Nat => s.heap.size ≤ q) b := Nat.not_le.mpr hbl
  have hK := hCX.1
  obtain ⟨hi, n, d, t, day, al, nd, bb, oo, K, F, kn, nZ, dZ, tZ, dayZ, alZ, ndZ, bbZ, ooZ, KZ, FZ, knZ, ke, so, zz, el, qk, qf, hXS, hMT⟩ := hI
  have hC := hXS.1
  refine lv_aload_n hx hb dL_law_874 rfl (lv_at hl 3 rfl) ?_
  refine lv_aload_n hx hb dL_law_875 rfl (lv_at hl 4 rfl) ?_
  refine lv_iload hx hb dL_law_876 (lv_at hl 0 rfl) ?_
  refine lv_iconst (v := nI 1) hx hb dL_law_878 (by decide +kernel) ?_
  refine ho_iadd hx hb dL_law_879 ?_
  refine va_sld hx hb hX hbl hbA hS (vp_in_nI (by omega) (by omega)) dL_law_880 ?_
  refine ho_tope (y := xs (i + 1)) (by rw [nI_clamp (by omega)]) ?_
  refine lv_aload_n hx hb dL_law_881 rfl (lv_at hl 4 rfl) ?_
  refine lv_iload hx hb dL_law_882 (lv_at hl 0 rfl) ?_
  refine lv_iconst (v := nI 2) hx hb dL_law_884 (by decide +kernel) ?_
  refine ho_iadd hx hb dL_law_885 ?_
  refine va_sld hx hb hX hbl hbA hS (vp_in_nI (by omega) (by omega)) dL_law_886 ?_
  refine ho_tope (y := xs (i + 2)) (by rw [nI_clamp (by omega)]) ?_
  refine lv_aload_n hx hb dL_law_887 rfl (lv_at hl 4 rfl) ?_
  refine lv_iload hx hb dL_law_888 (lv_at hl 0 rfl) ?_
  refine lv_iconst (v := nI 3) hx hb dL_law_890 (by decide +kernel) ?_
  refine ho_iadd hx hb dL_law_891 ?_
  refine va_sld hx hb hX hbl hbA hS (vp_in_nI (by omega) (by omega)) dL_law_892 ?_
  refine ho_tope (y := xs (i + 3)) (by rw [nI_clamp (by omega)]) ?_
  refine lv_aload_n hx hb dL_law_893 rfl (lv_at hl 4 rfl) ?_
  refine lv_iload hx hb dL_law_894 (lv_at hl 0 rfl) ?_
  refine lv_iconst (v := nI 4) hx hb dL_law_896 (by decide +kernel) ?_
  refine ho_iadd hx hb dL_law_897 ?_
  refine va_sld hx hb hX hbl hbA hS (vp_in_nI (by omega) (by omega)) dL_law_898 ?_
  refine ho_tope (y := xs (i + 4)) (by rw [nI_clamp (by omega)]) ?_
  refine va_calli (va_runV (As := [.int (xs (i + 1)), .int (xs (i + 2)), .int (xs (i + 3)), .int (xs (i + 4))]) (rest := []) ⟨hx, hb, hml, hown, htl⟩ (u_X11_keep l dC dI cI cD cR ad s.heap.size B hA hB hi n d t day al nd bb oo K F kn nZ dZ tZ dayZ alZ ndZ bbZ ooZ KZ FZ knZ ke so zz el qk qf (fun H => MT dC dI cI cL ad hi n d t day al nd bb oo K F kn nZ dZ tZ dayZ alZ ndZ bbZ ooZ KZ FZ knZ ke so zz el qk qf H) (MT.up hi n d t day al nd bb oo K F kn nZ dZ tZ dayZ alZ ndZ bbZ ooZ KZ FZ knZ ke so zz el qk qf) (xs (i + 1)) (xs (i + 2)) (xs (i + 3)) (xs (i + 4))) (cwV 4 htl gL_law_X11_keep rfl rfl rfl (by decide +kernel) ⟨Nat.le_of_ble_eq_true rfl, Nat.le_of_ble_eq_true rfl⟩) (preV_R hCX (xs_recv hK hXS) ⟨hXS, hMT⟩) rfl rfl hl.1 rfl (lv_room (Nat.le_of_ble_eq_true rfl)) dL_law_899 ⟨by show _ ≤ 903060; omega, by show _ ≤ 6386924; omega⟩) hS (fun q _ h => h) (fun q h => h) (fun r u T8 H1 locs hT8 hvm hw hB8 hz1 hk1 hS => ?_)
  obtain ⟨hXS, hMT⟩ := hB8
  rw [hT8] at hXS hMT
  generalize H1 = H at hXS hMT hS ⊢
  refine lv_aload_n hx hb dL_law_902 rfl (lv_at hl 2 rfl) ?_
  refine lv_aload_n hx hb dL_law_903 rfl (lv_at hl 4 rfl) ?_
  refine lv_iload hx hb dL_law_904 (lv_at hl 0 rfl) ?_
  refine lv_iconst (v := nI 1) hx hb dL_law_906 (by decide +kernel) ?_
  refine ho_iadd hx hb dL_law_907 ?_
  refine va_sld hx hb hX hbl hbA hS (vp_in_nI (by omega) (by omega)) dL_law_908 ?_
  refine ho_tope (y := xs (i + 1)) (by rw [nI_clamp (by omega)]) ?_
  refine lv_aload_n hx hb dL_law_909 rfl (lv_at hl 4 rfl) ?_
  refine lv_iload hx hb dL_law_910 (lv_at hl 0 rfl) ?_
  refine lv_iconst (v := nI 2) hx hb dL_law_912 (by decide +kernel) ?_
  refine ho_iadd hx hb dL_law_913 ?_
  refine va_sld hx hb hX hbl hbA hS (vp_in_nI (by omega) (by omega)) dL_law_914 ?_
  refine ho_tope (y := xs (i + 2)) (by rw [nI_clamp (by omega)]) ?_
  refine lv_aload_n hx hb dL_law_915 rfl (lv_at hl 4 rfl) ?_
  refine lv_iload hx hb dL_law_916 (lv_at hl 0 rfl) ?_
  refine lv_iconst (v := nI 3) hx hb dL_law_918 (by decide +kernel) ?_
  refine ho_iadd hx hb dL_law_919 ?_
  refine va_sld hx hb hX hbl hbA hS (vp_in_nI (by omega) (by omega)) dL_law_920 ?_
  refine ho_tope (y := xs (i + 3)) (by rw [nI_clamp (by omega)]) ?_
  refine lv_aload_n hx hb dL_law_921 rfl (lv_at hl 4 rfl) ?_
  refine lv_iload hx hb dL_law_922 (lv_at hl 0 rfl) ?_
  refine lv_iconst (v := nI 4) hx hb dL_law_924 (by decide +kernel) ?_
  refine ho_iadd hx hb dL_law_925 ?_
  refine va_sld hx hb hX hbl hbA hS (vp_in_nI (by omega) (by omega)) dL_law_926 ?_
  refine ho_tope (y := xs (i + 4)) (by rw [nI_clamp (by omega)]) ?_
  refine va_calli (va_runV (As := [.int (xs (i + 1)), .int (xs (i + 2)), .int (xs (i + 3)), .int (xs (i + 4))]) (rest := [.int r]) ⟨hx, hb, hml, hown, htl⟩ (u_X12_keep l dC dI cI cD cR cL ad s.heap.size B hA hB hi n d t day al nd bb oo K F kn nZ dZ tZ dayZ alZ ndZ bbZ ooZ KZ FZ knZ ke so zz el qk qf (fun H => XS dC dI cI cD cR ad s.heap.size (B + 100) hi n d t day al nd bb oo K F kn nZ dZ tZ dayZ alZ ndZ bbZ ooZ KZ FZ knZ (bif okI (xs (i + 1)) 8 && (okI (xs (i + 2)) 2 && (decide ((xs (i + 2)) = 0) || (okI (xs (i + 3)) 8 && okI (xs (i + 4)) 10))) then va_up ke (nT (xs (i + 1))) (nT (xs (i + 2))) else ke) so zz el (bif okI (xs (i + 1)) 8 && (okI (xs (i + 2)) 2 && (decide ((xs (i + 2)) = 0) || (okI (xs (i + 3)) 8 && okI (xs (i + 4)) 10))) then upd qk (nT (xs (i + 1))) (xs (i + 3)) else qk) (bif okI (xs (i + 1)) 8 && (okI (xs (i + 2)) 2 && (decide ((xs (i + 2)) = 0) || (okI (xs (i + 3)) 8 && okI (xs (i + 4)) 10))) then upd qf (nT (xs (i + 1))) (xs (i + 4)) else qf) H) (XS.up hA (B + 100) hi n d t day al nd bb oo K F kn nZ dZ tZ dayZ alZ ndZ bbZ ooZ KZ FZ knZ (bif okI (xs (i + 1)) 8 && (okI (xs (i + 2)) 2 && (decide ((xs (i + 2)) = 0) || (okI (xs (i + 3)) 8 && okI (xs (i + 4)) 10))) then va_up ke (nT (xs (i + 1))) (nT (xs (i + 2))) else ke) so zz el (bif okI (xs (i + 1)) 8 && (okI (xs (i + 2)) 2 && (decide ((xs (i + 2)) = 0) || (okI (xs (i + 3)) 8 && okI (xs (i + 4)) 10))) then upd qk (nT (xs (i + 1))) (xs (i + 3)) else qk) (bif okI (xs (i + 1)) 8 && (okI (xs (i + 2)) 2 && (decide ((xs (i + 2)) = 0) || (okI (xs (i + 3)) 8 && okI (xs (i + 4)) 10))) then upd qf (nT (xs (i + 1))) (xs (i + 4)) else qf)) hC (xs (i + 1)) (xs (i + 2)) (xs (i + 3)) (xs (i + 4))) (cwV 4 htl gL_law_X12_keep rfl rfl rfl (by decide +kernel) ⟨Nat.le_of_ble_eq_true rfl, Nat.le_of_ble_eq_true rfl⟩) (preV_R hCX (mt_recv hK hMT) ⟨hXS, hMT⟩) rfl rfl hl.1 rfl (lv_room (Nat.le_of_ble_eq_true rfl)) dL_law_927 ⟨by show _ ≤ 903060; omega, by show _ ≤ 6386924; omega⟩) hS (fun q _ h => h) (fun q h => h) (fun r2 u2 T9 H1 locs hT9 hvm2 hw2 hB8 hz1 hk1 hS => ?_)
  obtain ⟨hXS, hMT⟩ := hB8
  rw [hT9] at hXS hMT
  refine lv_icmp_eq (tgt := 1223) hx hb dL_law_930 (by decide) (fun _ => ?_) (fun z9 => absurd (hw.trans hw2.symm) z9)
  refine W.widen (k := cells + 20) (n := slots + 220) (by omega) (by omega) ?_
  exact kk _ _ ls ⟨_, _, _, _, _, _, _, _, _, _, _, _, _, _, _, _, _, _, _, _, _, _, _, _, _, _, _, _, _, hXS, hMT⟩ hS hl
set_option maxHeartbeats 4000000 in
set_option maxRecDepth 100000 in
theorem lk_row {p : Program} {l : Launch} {e : Env} {s : State} {m : MethodId} {below : List Frame} {meth : Method} {c : Code} {b L : Nat} {xs : Nat → Int32} {dC : Nat → ClassId} {dI : Nat → Nat → Nat} {cI cD cR cL : ClassId} {ad : Nat → Nat} {sa9 : Nat → Nat} {B i : Nat} {H : Heap} {locs : List Loc} {cells slots : Nat} {ls : Array Slot} (C0 : LC p l s m meth c b L xs dC dI cI cD cR cL ad sa9) (hB : B ≤ 60000) (hI : LI dC dI cI cD cR cL ad s.heap.size B H) (hS : va_S (fun q => s.heap.size ≤ q) s.heap H locs) (hl : lv_has ls 8 [(4, .int (nI i)), (3, .ref (ad 40)), (2, .ref (ad 25)), (1, .ref (ad 0)), (0, .ref b)]) (hi : i + 6 ≤ L) (hc9 : cells + 20 ≤ 903060) (hs9 : slots + 220 ≤ 6386924) (kk : ∀ (H1 : Heap) (locs1 : List Loc) (ls1 : Array Slot), LI dC dI cI cD cR cL ad s.heap.size (B + 100) H1 → va_S (fun q => s.heap.size ≤ q) s.heap H1 locs1 → lv_has ls1 8 [(4, .int (nI i)), (3, .ref (ad 40)), (2, .ref (ad 25)), (1, .ref (ad 0)), (0, .ref b)] → W p l e room_1 s m #[Value.ref b] below meth c H1 locs1 (cells + 20) (slots + 220) (lw_Z below #[Value.ref b] s) (F0 m 1223 ls1 [])) : W p l e room_1 s m #[Value.ref b] below meth c H locs cells slots (lw_Z below #[Value.ref b] s) (F0 m 935 ls []) := by
  obtain ⟨⟨hx, hb, hr, hml, hown, htl, hX, hbl, hlocks⟩, hCX, hKJ, hVX, hA, hl0, hL⟩ := C0
  have hbA : ¬ (fun q : Nat => s.heap.size ≤ q) b := Nat.not_le.mpr hbl
  have hK := hCX.1
  obtain ⟨hi, n, d, t, day, al, nd, bb, oo, K, F, kn, nZ, dZ, tZ, dayZ, alZ, ndZ, bbZ, ooZ, KZ, FZ, knZ, ke, so, zz, el, qk, qf, hXS, hMT⟩ := hI
  have hC := hXS.1
  refine lv_aload_n hx hb dL_law_935 rfl (lv_at hl 3 rfl) ?_
  refine lv_aload_n hx hb dL_law_936 rfl (lv_at hl 4 rfl) ?_
  refine lv_iload hx hb dL_law_937 (lv_at hl 0 rfl) ?_
  refine lv_iconst (v := nI 1) hx hb dL_law_939 (by decide +kernel) ?_
  refine ho_iadd hx hb dL_law_940 ?_
  refine va_sld hx hb hX hbl hbA hS (vp_in_nI (by omega) (by omega)) dL_law_941 ?_
  refine ho_tope (y := xs (i + 1)) (by rw [nI_clamp (by omega)]) ?_
  refine lv_aload_n hx hb dL_law_942 rfl (lv_at hl 4 rfl) ?_
  refine lv_iload hx hb dL_law_943 (lv_at hl 0 rfl) ?_
  refine lv_iconst (v := nI 2) hx hb dL_law_945 (by decide +kernel) ?_
  refine ho_iadd hx hb dL_law_946 ?_
  refine va_sld hx hb hX hbl hbA hS (vp_in_nI (by omega) (by omega)) dL_law_947 ?_
  refine ho_tope (y := xs (i + 2)) (by rw [nI_clamp (by omega)]) ?_
  refine lv_aload_n hx hb dL_law_948 rfl (lv_at hl 4 rfl) ?_
  refine lv_iload hx hb dL_law_949 (lv_at hl 0 rfl) ?_
  refine lv_iconst (v := nI 3) hx hb dL_law_951 (by decide +kernel) ?_
  refine ho_iadd hx hb dL_law_952 ?_
  refine va_sld hx hb hX hbl hbA hS (vp_in_nI (by omega) (by omega)) dL_law_953 ?_
  refine ho_tope (y := xs (i + 3)) (by rw [nI_clamp (by omega)]) ?_
  refine va_calli (va_runV (As := [.int (xs (i + 1)), .int (xs (i + 2)), .int (xs (i + 3))]) (rest := []) ⟨hx, hb, hml, hown, htl⟩ (u_X11_row l dC dI cI cD cR ad s.heap.size B hA hB hi n d t day al nd bb oo K F kn nZ dZ tZ dayZ alZ ndZ bbZ ooZ KZ FZ knZ ke so zz el qk qf (fun H => MT dC dI cI cL ad hi n d t day al nd bb oo K F kn nZ dZ tZ dayZ alZ ndZ bbZ ooZ KZ FZ knZ ke so zz el qk qf H) (MT.up hi n d t day al nd bb oo K F kn nZ dZ tZ dayZ alZ ndZ bbZ ooZ KZ FZ knZ ke so zz el qk qf) (xs (i + 1)) (xs (i + 2)) (xs (i + 3))) (cwV 3 htl gL_law_X11_row rfl rfl rfl (by decide +kernel) ⟨Nat.le_of_ble_eq_true rfl, Nat.le_of_ble_eq_true rfl⟩) (preV_R hCX (xs_recv hK hXS) ⟨hXS, hMT⟩) rfl rfl hl.1 rfl (lv_room (Nat.le_of_ble_eq_true rfl)) dL_law_954 ⟨by show _ ≤ 903060; omega, by show _ ≤ 6386924; omega⟩) hS (fun q _ h => h) (fun q h => h) (fun r u T8 H1 locs hT8 hvm hw hB8 hz1 hk1 hS => ?_)
  obtain ⟨hXS, hMT⟩ := hB8
  rw [hT8] at hXS hMT
  generalize H1 = H at hXS hMT hS ⊢
  refine lv_aload_n hx hb dL_law_957 rfl (lv_at hl 2 rfl) ?_
  refine lv_aload_n hx hb dL_law_958 rfl (lv_at hl 4 rfl) ?_
  refine lv_iload hx hb dL_law_959 (lv_at hl 0 rfl) ?_
  refine lv_iconst (v := nI 1) hx hb dL_law_961 (by decide +kernel) ?_
  refine ho_iadd hx hb dL_law_962 ?_
  refine va_sld hx hb hX hbl hbA hS (vp_in_nI (by omega) (by omega)) dL_law_963 ?_
  refine ho_tope (y := xs (i + 1)) (by rw [nI_clamp (by omega)]) ?_
  refine lv_aload_n hx hb dL_law_964 rfl (lv_at hl 4 rfl) ?_
  refine lv_iload hx hb dL_law_965 (lv_at hl 0 rfl) ?_
  refine lv_iconst (v := nI 2) hx hb dL_law_967 (by decide +kernel) ?_
  refine ho_iadd hx hb dL_law_968 ?_
  refine va_sld hx hb hX hbl hbA hS (vp_in_nI (by omega) (by omega)) dL_law_969 ?_
  refine ho_tope (y := xs (i + 2)) (by rw [nI_clamp (by omega)]) ?_
  refine lv_aload_n hx hb dL_law_970 rfl (lv_at hl 4 rfl) ?_
  refine lv_iload hx hb dL_law_971 (lv_at hl 0 rfl) ?_
  refine lv_iconst (v := nI 3) hx hb dL_law_973 (by decide +kernel) ?_
  refine ho_iadd hx hb dL_law_974 ?_
  refine va_sld hx hb hX hbl hbA hS (vp_in_nI (by omega) (by omega)) dL_law_975 ?_
  refine ho_tope (y := xs (i + 3)) (by rw [nI_clamp (by omega)]) ?_
  refine va_calli (va_runV (As := [.int (xs (i + 1)), .int (xs (i + 2)), .int (xs (i + 3))]) (rest := [.int r]) ⟨hx, hb, hml, hown, htl⟩ (u_X12_row l dC dI cI cD cR cL ad s.heap.size B hA hB hi n d t day al nd bb oo K F kn nZ dZ tZ dayZ alZ ndZ bbZ ooZ KZ FZ knZ ke so zz el qk qf (fun H => XS dC dI cI cD cR ad s.heap.size (B + 100) hi n d t day al nd bb oo K F kn nZ dZ tZ dayZ alZ ndZ bbZ ooZ KZ FZ knZ (bif (okI (xs (i + 1)) 8 && (okI (xs (i + 2)) 3 && !decide (nI 100 < (xs (i + 3))))) && !decide ((xs (i + 3)) < 0) then va_up ke (nT (xs (i + 1))) 2 else ke) (bif (okI (xs (i + 1)) 8 && (okI (xs (i + 2)) 3 && !decide (nI 100 < (xs (i + 3))))) && !decide ((xs (i + 3)) < 0) then va_up so (nT (xs (i + 1))) (nT (xs (i + 2))) else so) (bif (okI (xs (i + 1)) 8 && (okI (xs (i + 2)) 3 && !decide (nI 100 < (xs (i + 3))))) && !decide ((xs (i + 3)) < 0) then va_up zz (nT (xs (i + 1))) (nT (xs (i + 3))) else zz) (bif (okI (xs (i + 1)) 8 && (okI (xs (i + 2)) 3 && !decide (nI 100 < (xs (i + 3))))) && !decide ((xs (i + 3)) < 0) then czE el (nT (xs (i + 1))) 100 else el) qk qf H) (XS.up hA (B + 100) hi n d t day al nd bb oo K F kn nZ dZ tZ dayZ alZ ndZ bbZ ooZ KZ FZ knZ (bif (okI (xs (i + 1)) 8 && (okI (xs (i + 2)) 3 && !decide (nI 100 < (xs (i + 3))))) && !decide ((xs (i + 3)) < 0) then va_up ke (nT (xs (i + 1))) 2 else ke) (bif (okI (xs (i + 1)) 8 && (okI (xs (i + 2)) 3 && !decide (nI 100 < (xs (i + 3))))) && !decide ((xs (i + 3)) < 0) then va_up so (nT (xs (i + 1))) (nT (xs (i + 2))) else so) (bif (okI (xs (i + 1)) 8 && (okI (xs (i + 2)) 3 && !decide (nI 100 < (xs (i + 3))))) && !decide ((xs (i + 3)) < 0) then va_up zz (nT (xs (i + 1))) (nT (xs (i + 3))) else zz) (bif (okI (xs (i + 1)) 8 && (okI (xs (i + 2)) 3 && !decide (nI 100 < (xs (i + 3))))) && !decide ((xs (i + 3)) < 0) then czE el (nT (xs (i + 1))) 100 else el) qk qf) hC (xs (i + 1)) (xs (i + 2)) (xs (i + 3))) (cwV 3 htl gL_law_X12_row rfl rfl rfl (by decide +kernel) ⟨Nat.le_of_ble_eq_true rfl, Nat.le_of_ble_eq_true rfl⟩) (preV_R hCX (mt_recv hK hMT) ⟨hXS, hMT⟩) rfl rfl hl.1 rfl (lv_room (Nat.le_of_ble_eq_true rfl)) dL_law_976 ⟨by show _ ≤ 903060; omega, by show _ ≤ 6386924; omega⟩) hS (fun q _ h => h) (fun q h => h) (fun r2 u2 T9 H1 locs hT9 hvm2 hw2 hB8 hz1 hk1 hS => ?_)
  obtain ⟨hXS, hMT⟩ := hB8
  rw [hT9] at hXS hMT
  refine lv_icmp_eq (tgt := 1223) hx hb dL_law_979 (by decide) (fun _ => ?_) (fun z9 => absurd (hw.trans hw2.symm) z9)
  refine W.widen (k := cells + 20) (n := slots + 220) (by omega) (by omega) ?_
  exact kk _ _ ls ⟨_, _, _, _, _, _, _, _, _, _, _, _, _, _, _, _, _, _, _, _, _, _, _, _, _, _, _, _, _, hXS, hMT⟩ hS hl
set_option maxHeartbeats 4000000 in
set_option maxRecDepth 100000 in
theorem lk_put {p : Program} {l : Launch} {e : Env} {s : State} {m : MethodId} {below : List Frame} {meth : Method} {c : Code} {b L : Nat} {xs : Nat → Int32} {dC : Nat → ClassId} {dI : Nat → Nat → Nat} {cI cD cR cL : ClassId} {ad : Nat → Nat} {sa9 : Nat → Nat} {B i : Nat} {H : Heap} {locs : List Loc} {cells slots : Nat} {ls : Array Slot} (C0 : LC p l s m meth c b L xs dC dI cI cD cR cL ad sa9) (hB : B ≤ 60000) (hI : LI dC dI cI cD cR cL ad s.heap.size B H) (hS : va_S (fun q => s.heap.size ≤ q) s.heap H locs) (hl : lv_has ls 8 [(4, .int (nI i)), (3, .ref (ad 40)), (2, .ref (ad 25)), (1, .ref (ad 0)), (0, .ref b)]) (hi : i + 6 ≤ L) (hc9 : cells + 20 ≤ 903060) (hs9 : slots + 220 ≤ 6386924) (kk : ∀ (H1 : Heap) (locs1 : List Loc) (ls1 : Array Slot), LI dC dI cI cD cR cL ad s.heap.size (B + 100) H1 → va_S (fun q => s.heap.size ≤ q) s.heap H1 locs1 → lv_has ls1 8 [(4, .int (nI i)), (3, .ref (ad 40)), (2, .ref (ad 25)), (1, .ref (ad 0)), (0, .ref b)] → W p l e room_1 s m #[Value.ref b] below meth c H1 locs1 (cells + 20) (slots + 220) (lw_Z below #[Value.ref b] s) (F0 m 1223 ls1 [])) : W p l e room_1 s m #[Value.ref b] below meth c H locs cells slots (lw_Z below #[Value.ref b] s) (F0 m 984 ls []) := by
  obtain ⟨⟨hx, hb, hr, hml, hown, htl, hX, hbl, hlocks⟩, hCX, hKJ, hVX, hA, hl0, hL⟩ := C0
  have hbA : ¬ (fun q : Nat => s.heap.size ≤ q) b := Nat.not_le.mpr hbl
  have hK := hCX.1
  obtain ⟨hi, n, d, t, day, al, nd, bb, oo, K, F, kn, nZ, dZ, tZ, dayZ, alZ, ndZ, bbZ, ooZ, KZ, FZ, knZ, ke, so, zz, el, qk, qf, hXS, hMT⟩ := hI
  have hC := hXS.1
  refine lv_aload_n hx hb dL_law_984 rfl (lv_at hl 3 rfl) ?_
  refine lv_aload_n hx hb dL_law_985 rfl (lv_at hl 4 rfl) ?_
  refine lv_iload hx hb dL_law_986 (lv_at hl 0 rfl) ?_
  refine lv_iconst (v := nI 1) hx hb dL_law_988 (by decide +kernel) ?_
  refine ho_iadd hx hb dL_law_989 ?_
  refine va_sld hx hb hX hbl hbA hS (vp_in_nI (by omega) (by omega)) dL_law_990 ?_
  refine ho_tope (y := xs (i + 1)) (by rw [nI_clamp (by omega)]) ?_
  refine lv_aload_n hx hb dL_law_991 rfl (lv_at hl 4 rfl) ?_
  refine lv_iload hx hb dL_law_992 (lv_at hl 0 rfl) ?_
  refine lv_iconst (v := nI 2) hx hb dL_law_994 (by decide +kernel) ?_
  refine ho_iadd hx hb dL_law_995 ?_
  refine va_sld hx hb hX hbl hbA hS (vp_in_nI (by omega) (by omega)) dL_law_996 ?_
  refine ho_tope (y := xs (i + 2)) (by rw [nI_clamp (by omega)]) ?_
  refine lv_aload_n hx hb dL_law_997 rfl (lv_at hl 4 rfl) ?_
  refine lv_iload hx hb dL_law_998 (lv_at hl 0 rfl) ?_
  refine lv_iconst (v := nI 3) hx hb dL_law_1000 (by decide +kernel) ?_
  refine ho_iadd hx hb dL_law_1001 ?_
  refine va_sld hx hb hX hbl hbA hS (vp_in_nI (by omega) (by omega)) dL_law_1002 ?_
  refine ho_tope (y := xs (i + 3)) (by rw [nI_clamp (by omega)]) ?_
  refine va_calli (va_runV (As := [.int (xs (i + 1)), .int (xs (i + 2)), .int (xs (i + 3))]) (rest := []) ⟨hx, hb, hml, hown, htl⟩ (u_X11_put l dC dI cI cD cR ad s.heap.size B hA hB hi n d t day al nd bb oo K F kn nZ dZ tZ dayZ alZ ndZ bbZ ooZ KZ FZ knZ ke so zz el qk qf (fun H => MT dC dI cI cL ad hi n d t day al nd bb oo K F kn nZ dZ tZ dayZ alZ ndZ bbZ ooZ KZ FZ knZ ke so zz el qk qf H) (MT.up hi n d t day al nd bb oo K F kn nZ dZ tZ dayZ alZ ndZ bbZ ooZ KZ FZ knZ ke so zz el qk qf) (xs (i + 1)) (xs (i + 2)) (xs (i + 3)) (hXS.1.2.2.2.2.1)) (cwV 3 htl gL_law_X11_put rfl rfl rfl (by decide +kernel) ⟨Nat.le_of_ble_eq_true rfl, Nat.le_of_ble_eq_true rfl⟩) (preV_R hCX (xs_recv hK hXS) ⟨hXS, hMT⟩) rfl rfl hl.1 rfl (lv_room (Nat.le_of_ble_eq_true rfl)) dL_law_1003 ⟨by show _ ≤ 903060; omega, by show _ ≤ 6386924; omega⟩) hS (fun q _ h => h) (fun q h => h) (fun r u T8 H1 locs hT8 hvm hw hB8 hz1 hk1 hS => ?_)
  obtain ⟨hXS, hMT⟩ := hB8
  rw [hT8] at hXS hMT
  generalize H1 = H at hXS hMT hS ⊢
  refine lv_aload_n hx hb dL_law_1006 rfl (lv_at hl 2 rfl) ?_
  refine lv_aload_n hx hb dL_law_1007 rfl (lv_at hl 4 rfl) ?_
  refine lv_iload hx hb dL_law_1008 (lv_at hl 0 rfl) ?_
  refine lv_iconst (v := nI 1) hx hb dL_law_1010 (by decide +kernel) ?_
  refine ho_iadd hx hb dL_law_1011 ?_
  refine va_sld hx hb hX hbl hbA hS (vp_in_nI (by omega) (by omega)) dL_law_1012 ?_
  refine ho_tope (y := xs (i + 1)) (by rw [nI_clamp (by omega)]) ?_
  refine lv_aload_n hx hb dL_law_1013 rfl (lv_at hl 4 rfl) ?_
  refine lv_iload hx hb dL_law_1014 (lv_at hl 0 rfl) ?_
  refine lv_iconst (v := nI 2) hx hb dL_law_1016 (by decide +kernel) ?_
  refine ho_iadd hx hb dL_law_1017 ?_
  refine va_sld hx hb hX hbl hbA hS (vp_in_nI (by omega) (by omega)) dL_law_1018 ?_
  refine ho_tope (y := xs (i + 2)) (by rw [nI_clamp (by omega)]) ?_
  refine lv_aload_n hx hb dL_law_1019 rfl (lv_at hl 4 rfl) ?_
  refine lv_iload hx hb dL_law_1020 (lv_at hl 0 rfl) ?_
  refine lv_iconst (v := nI 3) hx hb dL_law_1022 (by decide +kernel) ?_
  refine ho_iadd hx hb dL_law_1023 ?_
  refine va_sld hx hb hX hbl hbA hS (vp_in_nI (by omega) (by omega)) dL_law_1024 ?_
  refine ho_tope (y := xs (i + 3)) (by rw [nI_clamp (by omega)]) ?_
  refine va_calli (va_runV (As := [.int (xs (i + 1)), .int (xs (i + 2)), .int (xs (i + 3))]) (rest := [.int r]) ⟨hx, hb, hml, hown, htl⟩ (u_X12_put l dC dI cI cD cR cL ad s.heap.size B hA hB hi n d t day al nd bb oo K F kn nZ dZ tZ dayZ alZ ndZ bbZ ooZ KZ FZ knZ ke so zz el qk qf (fun H => XS dC dI cI cD cR ad s.heap.size (B + 100) hi n d t day al nd bb oo K F kn nZ dZ tZ dayZ alZ ndZ bbZ ooZ KZ FZ knZ ke so zz (bif okI (xs (i + 1)) 8 && (decide (ke (nT (xs (i + 1))) = 2) && okI (xs (i + 2)) (zz (nT (xs (i + 1))))) then upd el (100 * nT (xs (i + 1)) + nT (xs (i + 2))) (cutI (so (nT (xs (i + 1)))) (xs (i + 3))) else el) qk qf H) (XS.up hA (B + 100) hi n d t day al nd bb oo K F kn nZ dZ tZ dayZ alZ ndZ bbZ ooZ KZ FZ knZ ke so zz (bif okI (xs (i + 1)) 8 && (decide (ke (nT (xs (i + 1))) = 2) && okI (xs (i + 2)) (zz (nT (xs (i + 1))))) then upd el (100 * nT (xs (i + 1)) + nT (xs (i + 2))) (cutI (so (nT (xs (i + 1)))) (xs (i + 3))) else el) qk qf) hC (xs (i + 1)) (xs (i + 2)) (xs (i + 3))) (cwV 3 htl gL_law_X12_put rfl rfl rfl (by decide +kernel) ⟨Nat.le_of_ble_eq_true rfl, Nat.le_of_ble_eq_true rfl⟩) (preV_R hCX (mt_recv hK hMT) ⟨hXS, hMT⟩) rfl rfl hl.1 rfl (lv_room (Nat.le_of_ble_eq_true rfl)) dL_law_1025 ⟨by show _ ≤ 903060; omega, by show _ ≤ 6386924; omega⟩) hS (fun q _ h => h) (fun q h => h) (fun r2 u2 T9 H1 locs hT9 hvm2 hw2 hB8 hz1 hk1 hS => ?_)
  obtain ⟨hXS, hMT⟩ := hB8
  rw [hT9] at hXS hMT
  refine lv_icmp_eq (tgt := 1223) hx hb dL_law_1028 (by decide) (fun _ => ?_) (fun z9 => absurd (hw.trans hw2.symm) z9)
  refine W.widen (k := cells + 20) (n := slots + 220) (by omega) (by omega) ?_
  exact kk _ _ ls ⟨_, _, _, _, _, _, _, _, _, _, _, _, _, _, _, _, _, _, _, _, _, _, _, _, _, _, _, _, _, hXS, hMT⟩ hS hl
set_option maxHeartbeats 4000000 in
set_option maxRecDepth 100000 in
theorem lk_copy {p : Program} {l : Launch} {e : Env} {s : State} {m : MethodId} {below : List Frame} {meth : Method} {c : Code} {b L : Nat} {xs : Nat → Int32} {dC : Nat → ClassId} {dI : Nat → Nat → Nat} {cI cD cR cL : ClassId} {ad : Nat → Nat} {sa9 : Nat → Nat} {B i : Nat} {H : Heap} {locs : List Loc} {cells slots : Nat} {ls : Array Slot} (C0 : LC p l s m meth c b L xs dC dI cI cD cR cL ad sa9) (hB : B ≤ 60000) (hI : LI dC dI cI cD cR cL ad s.heap.size B H) (hS : va_S (fun q => s.heap.size ≤ q) s.heap H locs) (hl : lv_has ls 8 [(4, .int (nI i)), (3, .ref (ad 40)), (2, .ref (ad 25)), (1, .ref (ad 0)), (0, .ref b)]) (hi : i + 6 ≤ L) (hc9 : cells + 20 ≤ 903060) (hs9 : slots + 220 ≤ 6386924) (kk : ∀ (H1 : Heap) (locs1 : List Loc) (ls1 : Array Slot), LI dC dI cI cD cR cL ad s.heap.size (B + 100) H1 → va_S (fun q => s.heap.size ≤ q) s.heap H1 locs1 → lv_has ls1 8 [(4, .int (nI i)), (3, .ref (ad 40)), (2, .ref (ad 25)), (1, .ref (ad 0)), (0, .ref b)] → W p l e room_1 s m #[Value.ref b] below meth c H1 locs1 (cells + 20) (slots + 220) (lw_Z below #[Value.ref b] s) (F0 m 1223 ls1 [])) : W p l e room_1 s m #[Value.ref b] below meth c H locs cells slots (lw_Z below #[Value.ref b] s) (F0 m 1100 ls []) := by
  obtain ⟨⟨hx, hb, hr, hml, hown, htl, hX, hbl, hlocks⟩, hCX, hKJ, hVX, hA, hl0, hL⟩ := C0
  have hbA : ¬ (fun q : Nat => s.heap.size ≤ q) b := Nat.not_le.mpr hbl
  have hK := hCX.1
  obtain ⟨hi, n, d, t, day, al, nd, bb, oo, K, F, kn, nZ, dZ, tZ, dayZ, alZ, ndZ, bbZ, ooZ, KZ, FZ, knZ, ke, so, zz, el, qk, qf, hXS, hMT⟩ := hI
  have hC := hXS.1
  refine lv_aload_n hx hb dL_law_1100 rfl (lv_at hl 3 rfl) ?_
  refine lv_aload_n hx hb dL_law_1101 rfl (lv_at hl 4 rfl) ?_
  refine lv_iload hx hb dL_law_1102 (lv_at hl 0 rfl) ?_
  refine lv_iconst (v := nI 1) hx hb dL_law_1104 (by decide +kernel) ?_
  refine ho_iadd hx hb dL_law_1105 ?_
  refine va_sld hx hb hX hbl hbA hS (vp_in_nI (by omega) (by omega)) dL_law_1106 ?_
  refine ho_tope (y := xs (i + 1)) (by rw [nI_clamp (by omega)]) ?_
  refine lv_aload_n hx hb dL_law_1107 rfl (lv_at hl 4 rfl) ?_
  refine lv_iload hx hb dL_law_1108 (lv_at hl 0 rfl) ?_
  refine lv_iconst (v := nI 2) hx hb dL_law_1110 (by decide +kernel) ?_
  refine ho_iadd hx hb dL_law_1111 ?_
  refine va_sld hx hb hX hbl hbA hS (vp_in_nI (by omega) (by omega)) dL_law_1112 ?_
  refine ho_tope (y := xs (i + 2)) (by rw [nI_clamp (by omega)]) ?_
  refine lv_aload_n hx hb dL_law_1113 rfl (lv_at hl 4 rfl) ?_
  refine lv_iload hx hb dL_law_1114 (lv_at hl 0 rfl) ?_
  refine lv_iconst (v := nI 3) hx hb dL_law_1116 (by decide +kernel) ?_
  refine ho_iadd hx hb dL_law_1117 ?_
  refine va_sld hx hb hX hbl hbA hS (vp_in_nI (by omega) (by omega)) dL_law_1118 ?_
  refine ho_tope (y := xs (i + 3)) (by rw [nI_clamp (by omega)]) ?_
  refine lv_aload_n hx hb dL_law_1119 rfl (lv_at hl 4 rfl) ?_
  refine lv_iload hx hb dL_law_1120 (lv_at hl 0 rfl) ?_
  refine lv_iconst (v := nI 4) hx hb dL_law_1122 (by decide +kernel) ?_
  refine ho_iadd hx hb dL_law_1123 ?_
  refine va_sld hx hb hX hbl hbA hS (vp_in_nI (by omega) (by omega)) dL_law_1124 ?_
  refine ho_tope (y := xs (i + 4)) (by rw [nI_clamp (by omega)]) ?_
  refine lv_aload_n hx hb dL_law_1125 rfl (lv_at hl 4 rfl) ?_
  refine lv_iload hx hb dL_law_1126 (lv_at hl 0 rfl) ?_
  refine lv_iconst (v := nI 5) hx hb dL_law_1128 (by decide +kernel) ?_
  refine ho_iadd hx hb dL_law_1129 ?_
  refine va_sld hx hb hX hbl hbA hS (vp_in_nI (by omega) (by omega)) dL_law_1130 ?_
  refine ho_tope (y := xs (i + 5)) (by rw [nI_clamp (by omega)]) ?_
  refine va_calli (va_runV (As := [.int (xs (i + 1)), .int (xs (i + 2)), .int (xs (i + 3)), .int (xs (i + 4)), .int (xs (i + 5))]) (rest := []) ⟨hx, hb, hml, hown, htl⟩ (u_X11_copy l dC dI cI cD cR ad s.heap.size B hA hB hi n d t day al nd bb oo K F kn nZ dZ tZ dayZ alZ ndZ bbZ ooZ KZ FZ knZ ke so zz el qk qf (fun H => MT dC dI cI cL ad hi n d t day al nd bb oo K F kn nZ dZ tZ dayZ alZ ndZ bbZ ooZ KZ FZ knZ ke so zz el qk qf H) (MT.up hi n d t day al nd bb oo K F kn nZ dZ tZ dayZ alZ ndZ bbZ ooZ KZ FZ knZ ke so zz el qk qf) (xs (i + 1)) (xs (i + 2)) (xs (i + 3)) (xs (i + 4)) (xs (i + 5)) (hXS.1.2.2.2.2.1)) (cwV 5 htl gL_law_X11_copy rfl rfl rfl (by decide +kernel) ⟨Nat.le_of_ble_eq_true rfl, Nat.le_of_ble_eq_true rfl⟩) (preV_R hCX (xs_recv hK hXS) ⟨hXS, hMT⟩) rfl rfl hl.1 rfl (lv_room (Nat.le_of_ble_eq_true rfl)) dL_law_1131 ⟨by show _ ≤ 903060; omega, by show _ ≤ 6386924; omega⟩) hS (fun q _ h => h) (fun q h => h) (fun r u T8 H1 locs hT8 hvm hw hB8 hz1 hk1 hS => ?_)
  obtain ⟨hXS, hMT⟩ := hB8
  rw [hT8] at hXS hMT
  generalize H1 = H at hXS hMT hS ⊢
  refine lv_aload_n hx hb dL_law_1134 rfl (lv_at hl 2 rfl) ?_
  refine lv_aload_n hx hb dL_law_1135 rfl (lv_at hl 4 rfl) ?_
  refine lv_iload hx hb dL_law_1136 (lv_at hl 0 rfl) ?_
  refine lv_iconst (v := nI 1) hx hb dL_law_1138 (by decide +kernel) ?_
  refine ho_iadd hx hb dL_law_1139 ?_
  refine va_sld hx hb hX hbl hbA hS (vp_in_nI (by omega) (by omega)) dL_law_1140 ?_
  refine ho_tope (y := xs (i + 1)) (by rw [nI_clamp (by omega)]) ?_
  refine lv_aload_n hx hb dL_law_1141 rfl (lv_at hl 4 rfl) ?_
  refine lv_iload hx hb dL_law_1142 (lv_at hl 0 rfl) ?_
  refine lv_iconst (v := nI 2) hx hb dL_law_1144 (by decide +kernel) ?_
  refine ho_iadd hx hb dL_law_1145 ?_
  refine va_sld hx hb hX hbl hbA hS (vp_in_nI (by omega) (by omega)) dL_law_1146 ?_
  refine ho_tope (y := xs (i + 2)) (by rw [nI_clamp (by omega)]) ?_
  refine lv_aload_n hx hb dL_law_1147 rfl (lv_at hl 4 rfl) ?_
  refine lv_iload hx hb dL_law_1148 (lv_at hl 0 rfl) ?_
  refine lv_iconst (v := nI 3) hx hb dL_law_1150 (by decide +kernel) ?_
  refine ho_iadd hx hb dL_law_1151 ?_
  refine va_sld hx hb hX hbl hbA hS (vp_in_nI (by omega) (by omega)) dL_law_1152 ?_
  refine ho_tope (y := xs (i + 3)) (by rw [nI_clamp (by omega)]) ?_
  refine lv_aload_n hx hb dL_law_1153 rfl (lv_at hl 4 rfl) ?_
  refine lv_iload hx hb dL_law_1154 (lv_at hl 0 rfl) ?_
  refine lv_iconst (v := nI 4) hx hb dL_law_1156 (by decide +kernel) ?_
  refine ho_iadd hx hb dL_law_1157 ?_
  refine va_sld hx hb hX hbl hbA hS (vp_in_nI (by omega) (by omega)) dL_law_1158 ?_
  refine ho_tope (y := xs (i + 4)) (by rw [nI_clamp (by omega)]) ?_
  refine lv_aload_n hx hb dL_law_1159 rfl (lv_at hl 4 rfl) ?_
  refine lv_iload hx hb dL_law_1160 (lv_at hl 0 rfl) ?_
  refine lv_iconst (v := nI 5) hx hb dL_law_1162 (by decide +kernel) ?_
  refine ho_iadd hx hb dL_law_1163 ?_
  refine va_sld hx hb hX hbl hbA hS (vp_in_nI (by omega) (by omega)) dL_law_1164 ?_
  refine ho_tope (y := xs (i + 5)) (by rw [nI_clamp (by omega)]) ?_
  refine va_calli (va_runV (As := [.int (xs (i + 1)), .int (xs (i + 2)), .int (xs (i + 3)), .int (xs (i + 4)), .int (xs (i + 5))]) (rest := [.int r]) ⟨hx, hb, hml, hown, htl⟩ (u_X12_copy l dC dI cI cD cR cL ad s.heap.size B hA hB hi n d t day al nd bb oo K F kn nZ dZ tZ dayZ alZ ndZ bbZ ooZ KZ FZ knZ ke so zz el qk qf (fun H => XS dC dI cI cD cR ad s.heap.size (B + 100) hi n d t day al nd bb oo K F kn nZ dZ tZ dayZ alZ ndZ bbZ ooZ KZ FZ knZ ke so zz (bif okI (xs (i + 1)) 8 && (okI (xs (i + 3)) 8 && (decide (ke (nT (xs (i + 1))) = 2 ∧ ke (nT (xs (i + 3))) = 2 ∧ so (nT (xs (i + 1))) = so (nT (xs (i + 3)))) && cpK (zz (nT (xs (i + 1)))) (zz (nT (xs (i + 3)))) (xs (i + 2)) (xs (i + 4)) (xs (i + 5)))) then cpE el (100 * nT (xs (i + 1)) + nT (xs (i + 2))) (100 * nT (xs (i + 3)) + nT (xs (i + 4))) (nT (xs (i + 5))) else el) qk qf H) (XS.up hA (B + 100) hi n d t day al nd bb oo K F kn nZ dZ tZ dayZ alZ ndZ bbZ ooZ KZ FZ knZ ke so zz (bif okI (xs (i + 1)) 8 && (okI (xs (i + 3)) 8 && (decide (ke (nT (xs (i + 1))) = 2 ∧ ke (nT (xs (i + 3))) = 2 ∧ so (nT (xs (i + 1))) = so (nT (xs (i + 3)))) && cpK (zz (nT (xs (i + 1)))) (zz (nT (xs (i + 3)))) (xs (i + 2)) (xs (i + 4)) (xs (i + 5)))) then cpE el (100 * nT (xs (i + 1)) + nT (xs (i + 2))) (100 * nT (xs (i + 3)) + nT (xs (i + 4))) (nT (xs (i + 5))) else el) qk qf) hC (xs (i + 1)) (xs (i + 2)) (xs (i + 3)) (xs (i + 4)) (xs (i + 5)) hC.2.2.2.2.1) (cwV 5 htl gL_law_X12_copy rfl rfl rfl (by decide +kernel) ⟨Nat.le_of_ble_eq_true rfl, Nat.le_of_ble_eq_true rfl⟩) (preV_R hCX (mt_recv hK hMT) ⟨hXS, hMT⟩) rfl rfl hl.1 rfl (lv_room (Nat.le_of_ble_eq_true rfl)) dL_law_1165 ⟨by show _ ≤ 903060; omega, by show _ ≤ 6386924; omega⟩) hS (fun q _ h => h) (fun q h => h) (fun r2 u2 T9 H1 locs hT9 hvm2 hw2 hB8 hz1 hk1 hS => ?_)
  obtain ⟨hXS, hMT⟩ := hB8
  rw [hT9] at hXS hMT
  refine lv_icmp_eq (tgt := 1223) hx hb dL_law_1168 (by decide) (fun _ => ?_) (fun z9 => absurd (hw.trans hw2.symm) z9)
  refine W.widen (k := cells + 20) (n := slots + 220) (by omega) (by omega) ?_
  exact kk _ _ ls ⟨_, _, _, _, _, _, _, _, _, _, _, _, _, _, _, _, _, _, _, _, _, _, _, _, _, _, _, _, _, hXS, hMT⟩ hS hl
set_option maxHeartbeats 4000000 in
set_option maxRecDepth 100000 in
theorem lk_price {p : Program} {l : Launch} {e : Env} {s : State} {m : MethodId} {below : List Frame} {meth : Method} {c : Code} {b L : Nat} {xs : Nat → Int32} {dC : Nat → ClassId} {dI : Nat → Nat → Nat} {cI cD cR cL : ClassId} {ad : Nat → Nat} {sa9 : Nat → Nat} {B i : Nat} {H : Heap} {locs : List Loc} {cells slots : Nat} {ls : Array Slot} (C0 : LC p l s m meth c b L xs dC dI cI cD cR cL ad sa9) (hB : B ≤ 60000) (hI : LI dC dI cI cD cR cL ad s.heap.size B H) (hS : va_S (fun q => s.heap.size ≤ q) s.heap H locs) (hl : lv_has ls 8 [(4, .int (nI i)), (3, .ref (ad 40)), (2, .ref (ad 25)), (1, .ref (ad 0)), (0, .ref b)]) (hi : i + 6 ≤ L) (hc9 : cells + 20 ≤ 903060) (hs9 : slots + 220 ≤ 6386924) (kk : ∀ (H1 : Heap) (locs1 : List Loc) (ls1 : Array Slot), LI dC dI cI cD cR cL ad s.heap.size (B + 100) H1 → va_S (fun q => s.heap.size ≤ q) s.heap H1 locs1 → lv_has ls1 8 [(4, .int (nI i)), (3, .ref (ad 40)), (2, .ref (ad 25)), (1, .ref (ad 0)), (0, .ref b)] → W p l e room_1 s m #[Value.ref b] below meth c H1 locs1 (cells + 20) (slots + 220) (lw_Z below #[Value.ref b] s) (F0 m 1223 ls1 [])) : W p l e room_1 s m #[Value.ref b] below meth c H locs cells slots (lw_Z below #[Value.ref b] s) (F0 m 1173 ls []) := by
  obtain ⟨⟨hx, hb, hr, hml, hown, htl, hX, hbl, hlocks⟩, hCX, hKJ, hVX, hA, hl0, hL⟩ := C0
  have hbA : ¬ (fun q : Nat => s.heap.size ≤ q) b := Nat.not_le.mpr hbl
  have hK := hCX.1
  obtain ⟨hi, n, d, t, day, al, nd, bb, oo, K, F, kn, nZ, dZ, tZ, dayZ, alZ, ndZ, bbZ, ooZ, KZ, FZ, knZ, ke, so, zz, el, qk, qf, hXS, hMT⟩ := hI
  have hC := hXS.1
  refine lv_aload_n hx hb dL_law_1173 rfl (lv_at hl 3 rfl) ?_
  refine lv_aload_n hx hb dL_law_1174 rfl (lv_at hl 4 rfl) ?_
  refine lv_iload hx hb dL_law_1175 (lv_at hl 0 rfl) ?_
  refine lv_iconst (v := nI 1) hx hb dL_law_1177 (by decide +kernel) ?_
  refine ho_iadd hx hb dL_law_1178 ?_
  refine va_sld hx hb hX hbl hbA hS (vp_in_nI (by omega) (by omega)) dL_law_1179 ?_
  refine ho_tope (y := xs (i + 1)) (by rw [nI_clamp (by omega)]) ?_
  refine va_calli (va_runV (As := [.int (xs (i + 1))]) (rest := []) ⟨hx, hb, hml, hown, htl⟩ (u_X11_price l dC dI cI cD cR ad s.heap.size B hA hB hi n d t day al nd bb oo K F kn nZ dZ tZ dayZ alZ ndZ bbZ ooZ KZ FZ knZ ke so zz el qk qf (fun H => MT dC dI cI cL ad hi n d t day al nd bb oo K F kn nZ dZ tZ dayZ alZ ndZ bbZ ooZ KZ FZ knZ ke so zz el qk qf H) (MT.up hi n d t day al nd bb oo K F kn nZ dZ tZ dayZ alZ ndZ bbZ ooZ KZ FZ knZ ke so zz el qk qf) (xs (i + 1))) (cwV 1 htl gL_law_X11_price rfl rfl rfl (by decide +kernel) ⟨Nat.le_of_ble_eq_true rfl, Nat.le_of_ble_eq_true rfl⟩) (preV_R hCX (xs_recv hK hXS) ⟨hXS, hMT⟩) rfl rfl hl.1 rfl (lv_room (Nat.le_of_ble_eq_true rfl)) dL_law_1180 ⟨by show _ ≤ 903060; omega, by show _ ≤ 6386924; omega⟩) hS (fun q _ h => h) (fun q h => h) (fun r u T8 H1 locs hT8 hvm hw hB8 hz1 hk1 hS => ?_)
  obtain ⟨hXS, hMT⟩ := hB8
  rw [hT8] at hXS hMT
  generalize H1 = H at hXS hMT hS ⊢
  refine lv_aload_n hx hb dL_law_1183 rfl (lv_at hl 2 rfl) ?_
  refine lv_aload_n hx hb dL_law_1184 rfl (lv_at hl 4 rfl) ?_
  refine lv_iload hx hb dL_law_1185 (lv_at hl 0 rfl) ?_
  refine lv_iconst (v := nI 1) hx hb dL_law_1187 (by decide +kernel) ?_
  refine ho_iadd hx hb dL_law_1188 ?_
  refine va_sld hx hb hX hbl hbA hS (vp_in_nI (by omega) (by omega)) dL_law_1189 ?_
  refine ho_tope (y := xs (i + 1)) (by rw [nI_clamp (by omega)]) ?_
  refine va_calli (va_runV (As := [.int (xs (i + 1))]) (rest := [.int r]) ⟨hx, hb, hml, hown, htl⟩ (u_X12_price l dC dI cI cD cR cL ad s.heap.size B hA hB hi n d t day al nd bb oo K F kn nZ dZ tZ dayZ alZ ndZ bbZ ooZ KZ FZ knZ ke so zz el qk qf (fun H => XS dC dI cI cD cR ad s.heap.size (B + 100) hi n d t day al nd bb oo K F kn nZ dZ tZ dayZ alZ ndZ bbZ ooZ KZ FZ knZ ke so zz el qk qf H) (XS.up hA (B + 100) hi n d t day al nd bb oo K F kn nZ dZ tZ dayZ alZ ndZ bbZ ooZ KZ FZ knZ ke so zz el qk qf) hC (xs (i + 1))) (cwV 1 htl gL_law_X12_price rfl rfl rfl (by decide +kernel) ⟨Nat.le_of_ble_eq_true rfl, Nat.le_of_ble_eq_true rfl⟩) (preV_R hCX (mt_recv hK hMT) ⟨hXS, hMT⟩) rfl rfl hl.1 rfl (lv_room (Nat.le_of_ble_eq_true rfl)) dL_law_1190 ⟨by show _ ≤ 903060; omega, by show _ ≤ 6386924; omega⟩) hS (fun q _ h => h) (fun q h => h) (fun r2 u2 T9 H1 locs hT9 hvm2 hw2 hB8 hz1 hk1 hS => ?_)
  obtain ⟨hXS, hMT⟩ := hB8
  rw [hT9] at hXS hMT
  refine lv_icmp_eq (tgt := 1223) hx hb dL_law_1193 (by decide) (fun _ => ?_) (fun z9 => absurd (hw.trans hw2.symm) z9)
  refine W.widen (k := cells + 20) (n := slots + 220) (by omega) (by omega) ?_
  exact kk _ _ ls ⟨_, _, _, _, _, _, _, _, _, _, _, _, _, _, _, _, _, _, _, _, _, _, _, _, _, _, _, _, _, hXS, hMT⟩ hS hl
