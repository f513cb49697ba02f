/-- what holds of the law's run: the machine, the words, the script, the classes, the addresses -/
def LC (p : Program) (l : Launch) (s : State) (m : MethodId) (meth : Method) (c : Code) (b L : Nat) (xs : Nat → Int32) (dC : Nat → ClassId) (dI : Nat → Nat → Nat) (cI cD cR cL : ClassId) (ad sa9 : Nat → Nat) : Prop :=
  (p.tables.exec = Jvm.exec ∧ c.code = cL_law ∧ meth.sig.returnType = ret ∧ c.maxLocals = 8 ∧ s.vm.findClass RL = some m.cls ∧ (∀ w ∈ wsL_law, w.before #[Value.ref b] s = true) ∧ va_X b L xs s s.heap ∧ b < s.heap.size ∧ meth.locks = false) ∧ CX dC dI cI cD cR s ∧ va_K (dC, dI) vwCl [(cL, .long)] s ∧ VX sa9 (fun q => s.heap.size ≤ q) s s.heap ∧ AdD ad s.heap.size ∧ l.stackTraces = false ∧ L ≤ 3072
/-- both sides, in step -/
def LI (dC : Nat → ClassId) (dI : Nat → Nat → Nat) (cI cD cR cL : ClassId) (ad : Nat → Nat) (s0 B : Nat) (H : Heap) : Prop := ∃ (hi : Bool) (n d t day al : Nat) (nd : Nat → Nat) (bb oo : Nat → Int32) (K F kn : Nat → Nat) (nZ dZ tZ dayZ alZ : Nat) (ndZ : Nat → Nat) (bbZ ooZ : Nat → Int32) (KZ FZ knZ : Nat → Nat) (ke so zz : Nat → Nat) (el qk qf : Nat → Int32), XS dC dI cI cD cR ad s0 B hi n d t day al nd bb oo K F kn nZ dZ tZ dayZ alZ ndZ bbZ ooZ KZ FZ knZ ke so zz el qk qf H ∧ MT dC dI cI cL ad hi n d t day al nd bb oo K F kn nZ dZ tZ dayZ alZ ndZ bbZ ooZ KZ FZ knZ ke so zz el qk qf H
theorem xs_recv {dC : Nat → ClassId} {dI : Nat → Nat → Nat} {cI cD cR : ClassId} {ad : Nat → Nat} {s0 B : Nat} {H : Heap} {s : State} {hi : Bool} {n d t day al : Nat} {nd : Nat → Nat} {bb oo : Nat → Int32} {K F kn : Nat → Nat} {nZ dZ tZ dayZ alZ : Nat} {ndZ : Nat → Nat} {bbZ ooZ : Nat → Int32} {KZ FZ knZ : Nat → Nat} {ke so zz : Nat → Nat} {el qk qf : Nat → Int32} (hK : va_K (dC, dI) vwCl (tyl cI cD cR) s) (h : XS dC dI cI cD cR ad s0 B hi n d t day al nd bb oo K F kn nZ dZ tZ dayZ alZ ndZ bbZ ooZ KZ FZ knZ ke so zz el qk qf H) : ∃ cellB : Cell, H[ad 0]? = some cellB ∧ cellB.vm.isStatics = false ∧ s.vm.findClass RX11 = some cellB.cls := by
  obtain ⟨-, mk, si, mb, nM, dM, tM, dayM, alM, ndM, mkM, siM, knM, mbM, mkP, siP, mbP, sa, lk, ef, le, dm, rm, DL, kd, fg, RL, rc, rs, rz, rf, hP, -⟩ := h
  exact va_recv hK hP (ci := 11) (q0 := 0) rfl rfl
theorem mu_recv {dC : Nat → ClassId} {dI : Nat → Nat → Nat} {cI cD cR cL : ClassId} {ad : Nat → Nat} {H : Heap} {s : State} {hi : Bool} {n d t day al : Nat} {nd : Nat → Nat} {bb oo : Nat → Int32} {K F kn : Nat → Nat} {nZ dZ tZ dayZ alZ : Nat} {ndZ : Nat → Nat} {bbZ ooZ : Nat → Int32} {KZ FZ knZ : Nat → Nat} {ke so zz : Nat → Nat} {el qk qf : Nat → Int32} {th : Int32} {ov : Nat → Int64} (hK : va_K (dC, dI) vwCl (tyl cI cD cR) s) (h : MU dC dI cI cL ad hi n d t day al nd bb oo K F kn nZ dZ tZ dayZ alZ ndZ bbZ ooZ KZ FZ knZ ke so zz el qk qf th ov H) : ∃ cellB : Cell, H[ad 25]? = some cellB ∧ cellB.vm.isStatics = false ∧ s.vm.findClass RX12 = some cellB.cls := by
  obtain ⟨po, ba, en, se, nR, dR, tR, dayR, alR, ndR, bbR, ooR, KR, FR, knR, nM, dM, tM, dayM, alM, ndM, bbM, ooM, KM, FM, knM, nu, fe, ea, pr, hP⟩ := h
  exact va_recv hK hP (ci := 12) (q0 := 0) rfl rfl
theorem mt_recv {dC : Nat → ClassId} {dI : Nat → Nat → Nat} {cI cD cR cL : ClassId} {ad : Nat → Nat} {H : Heap} {s : State} {hi : Bool} {n d t day al : Nat} {nd : Nat → Nat} {bb oo : Nat → Int32} {K F kn : Nat → Nat} {nZ dZ tZ dayZ alZ : Nat} {ndZ : Nat → Nat} {bbZ ooZ : Nat → Int32} {KZ FZ knZ : Nat → Nat} {ke so zz : Nat → Nat} {el qk qf : Nat → Int32} (hK : va_K (dC, dI) vwCl (tyl cI cD cR) s) (h : MT dC dI cI cL ad hi n d t day al nd bb oo K F kn nZ dZ tZ dayZ alZ ndZ bbZ ooZ KZ FZ knZ ke so zz el qk qf H) : ∃ cellB : Cell, H[ad 25]? = some cellB ∧ cellB.vm.isStatics = false ∧ s.vm.findClass RX12 = some cellB.cls := by
  obtain ⟨th, ov, h⟩ := h
  exact mu_recv hK h
theorem XS.up {dC : Nat → ClassId} {dI : Nat → Nat → Nat} {cI cD cR : ClassId} {ad : Nat → Nat} {s0 : Nat} (hA : AdD ad s0) (B : Nat) (hi : Bool) (n d t day al : Nat) (nd : Nat → Nat) (bb oo : Nat → Int32) (K F kn : Nat → Nat) (nZ dZ tZ dayZ alZ : Nat) (ndZ : Nat → Nat) (bbZ ooZ : Nat → Int32) (KZ FZ knZ : Nat → Nat) (ke so zz : Nat → Nat) (el qk qf : Nat → Int32) : XK ad (fun H => XS dC dI cI cD cR ad s0 B hi n d t day al nd bb oo K F kn nZ dZ tZ dayZ alZ ndZ bbZ ooZ KZ FZ knZ ke so zz el qk qf H) := fun _ _ h hz hfr => XS.go hA hz h hfr
theorem MT.up {dC : Nat → ClassId} {dI : Nat → Nat → Nat} {cI cL : ClassId} {ad : Nat → Nat} (hi : Bool) (n d t day al : Nat) (nd : Nat → Nat) (bb oo : Nat → Int32) (K F kn : Nat → Nat) (nZ dZ tZ dayZ alZ : Nat) (ndZ : Nat → Nat) (bbZ ooZ : Nat → Int32) (KZ FZ knZ : Nat → Nat) (ke so zz : Nat → Nat) (el qk qf : Nat → Int32) : YK ad (fun H => MT dC dI cI cL ad hi n d t day al nd bb oo K F kn nZ dZ tZ dayZ alZ ndZ bbZ ooZ KZ FZ knZ ke so zz el qk qf H) := fun _ _ h _ hfr => MT.keep h hfr
theorem lc_self (x : Int64) : lg_cmp x x = 0 := by
  unfold lg_cmp
  rw [if_neg (fun q => Int.lt_irrefl _ (Int64.lt_iff_toInt_lt.mp q)), if_pos rfl]
theorem preJ {s : State} {H : Heap} {dC : Nat → ClassId} {dI : Nat → Nat → Nat} {cI cD cR cJ : ClassId} {As : List Value} {P : Heap → Prop} {sa : Nat → Nat} {A : Nat → Prop} (hC : CX dC dI cI cD cR s) (hV : VX sa A s H) (hJ : va_K (dC, dI) vwCl [(cJ, .long)] s) (hP : P H) : PreS s H (pcJ dC dI cI cD cR cJ As P sa A) As := ⟨pcJ_fb, fun U hU hW => ⟨⟨rfl, by rw [hU]; exact hP, hC.warm hW, by rw [hU]; exact hV.warm hW⟩, va_K.moved hW.alike hJ⟩⟩
set_option maxHeartbeats 4000000 in
set_option maxRecDepth 100000 in
theorem lk_school {p : Program} {l : Launch} {e : Env} {s : State} {m : MethodId} {below : List Frame} {meth : Method} {c : Code} {b L : Nat} {xs : Nat → Int32} {dC : Nat → ClassId} {dI : Nat → Nat → Nat} {cI cD cR cL : ClassId} {ad : Nat → Nat} {sa9 : Nat → Nat} {B i : Nat} {H : Heap} {locs : List Loc} {cells slots : Nat} {ls : Array Slot} (C0 : LC p l s m meth c b L xs dC dI cI cD cR cL ad sa9) (hB : B ≤ 60000) (hI : LI dC dI cI cD cR cL ad s.heap.size B H) (hS : va_S (fun q => s.heap.size ≤ q) s.heap H locs) (hl : lv_has ls 8 [(4, .int (nI i)), (3, .ref (ad 40)), (2, .ref (ad 25)), (1, .ref (ad 0)), (0, .ref b)]) (hi : i + 6 ≤ L) (hc9 : cells + 20 ≤ 903060) (hs9 : slots + 220 ≤ 6386924) (kk : ∀ (H1 : Heap) (locs1 : List Loc) (ls1 : Array Slot), LI dC dI cI cD cR cL ad s.heap.size (B + 100) H1 → va_S (fun q => s.heap.size ≤ q) s.heap H1 locs1 → lv_has ls1 8 [(4, .int (nI i)), (3, .ref (ad 40)), (2, .ref (ad 25)), (1, .ref (ad 0)), (0, .ref b)] → W p l e room_1 s m #[Value.ref b] below meth c H1 locs1 (cells + 20) (slots + 220) (lw_Z below #[Value.ref b] s) (F0 m 1223 ls1 [])) : W p l e room_1 s m #[Value.ref b] below meth c H locs cells slots (lw_Z below #[Value.ref b] s) (F0 m 188 ls []) := by
  obtain ⟨⟨hx, hb, hr, hml, hown, htl, hX, hbl, hlocks⟩, hCX, hKJ, hVX, hA, hl0, hL⟩ := C0
  have hbA : ¬ (fun q : Nat => s.heap.size ≤ q) b := Nat.not_le.mpr hbl
  have hK := hCX.1
  obtain ⟨hi, n, d, t, day, al, nd, bb, oo, K, F, kn, nZ, dZ, tZ, dayZ, alZ, ndZ, bbZ, ooZ, KZ, FZ, knZ, ke, so, zz, el, qk, qf, hXS, hMT⟩ := hI
  have hC := hXS.1
  refine lv_aload_n hx hb dL_law_188 rfl (lv_at hl 3 rfl) ?_
  refine lv_aload_n hx hb dL_law_189 rfl (lv_at hl 4 rfl) ?_
  refine lv_iload hx hb dL_law_190 (lv_at hl 0 rfl) ?_
  refine lv_iconst (v := nI 1) hx hb dL_law_192 (by decide +kernel) ?_
  refine ho_iadd hx hb dL_law_193 ?_
  refine va_sld hx hb hX hbl hbA hS (vp_in_nI (by omega) (by omega)) dL_law_194 ?_
  refine ho_tope (y := xs (i + 1)) (by rw [nI_clamp (by omega)]) ?_
  refine va_calli (va_runV (As := [.int (xs (i + 1))]) (rest := []) ⟨hx, hb, hml, hown, htl⟩ (u_X11_school l dC dI cI cD cR ad s.heap.size B hA hB hi n d t day al nd bb oo K F kn nZ dZ tZ dayZ alZ ndZ bbZ ooZ KZ FZ knZ ke so zz el qk qf (fun H => MT dC dI cI cL ad hi n d t day al nd bb oo K F kn nZ dZ tZ dayZ alZ ndZ bbZ ooZ KZ FZ knZ ke so zz el qk qf H) (MT.up hi n d t day al nd bb oo K F kn nZ dZ tZ dayZ alZ ndZ bbZ ooZ KZ FZ knZ ke so zz el qk qf) (xs (i + 1))) (cwV 1 htl gL_law_X11_school rfl rfl rfl (by decide +kernel) ⟨Nat.le_of_ble_eq_true rfl, Nat.le_of_ble_eq_true rfl⟩) (preV_R hCX (xs_recv hK hXS) ⟨hXS, hMT⟩) rfl rfl hl.1 rfl (lv_room (Nat.le_of_ble_eq_true rfl)) dL_law_195 ⟨by show _ ≤ 903060; omega, by show _ ≤ 6386924; omega⟩) hS (fun q _ h => h) (fun q h => h) (fun r u T8 H1 locs hT8 hvm hw hB8 hz1 hk1 hS => ?_)
  obtain ⟨hXS, hMT⟩ := hB8
  rw [hT8] at hXS hMT
  generalize H1 = H at hXS hMT hS ⊢
  refine lv_aload_n hx hb dL_law_198 rfl (lv_at hl 2 rfl) ?_
  refine lv_aload_n hx hb dL_law_199 rfl (lv_at hl 4 rfl) ?_
  refine lv_iload hx hb dL_law_200 (lv_at hl 0 rfl) ?_
  refine lv_iconst (v := nI 1) hx hb dL_law_202 (by decide +kernel) ?_
  refine ho_iadd hx hb dL_law_203 ?_
  refine va_sld hx hb hX hbl hbA hS (vp_in_nI (by omega) (by omega)) dL_law_204 ?_
  refine ho_tope (y := xs (i + 1)) (by rw [nI_clamp (by omega)]) ?_
  refine va_calli (va_runV (As := [.int (xs (i + 1))]) (rest := [.int r]) ⟨hx, hb, hml, hown, htl⟩ (u_X12_school l dC dI cI cD cR cL ad s.heap.size B hA hB hi n d t day al nd bb oo K F kn nZ dZ tZ dayZ alZ ndZ bbZ ooZ KZ FZ knZ ke so zz el qk qf (fun H => XS dC dI cI cD cR ad s.heap.size (B + 100) hi (bif okI (xs (i + 1)) 8 && (decide (wrR ke so (nT (xs (i + 1))) = 0) && (fbE (hrG el (100 * nT (xs (i + 1))) (zz (nT (xs (i + 1))))) (zz (nT (xs (i + 1)))) 101 0).isNone) then (scU (hrG el (100 * nT (xs (i + 1))) (zz (nT (xs (i + 1))))) (zz (nT (xs (i + 1)))) (n, d, t, day, al, nd, bb, oo, K, F, kn)).1 else n) (bif okI (xs (i + 1)) 8 && (decide (wrR ke so (nT (xs (i + 1))) = 0) && (fbE (hrG el (100 * nT (xs (i + 1))) (zz (nT (xs (i + 1))))) (zz (nT (xs (i + 1)))) 101 0).isNone) then (scU (hrG el (100 * nT (xs (i + 1))) (zz (nT (xs (i + 1))))) (zz (nT (xs (i + 1)))) (n, d, t, day, al, nd, bb, oo, K, F, kn)).2.1 else d) (bif okI (xs (i + 1)) 8 && (decide (wrR ke so (nT (xs (i + 1))) = 0) && (fbE (hrG el (100 * nT (xs (i + 1))) (zz (nT (xs (i + 1))))) (zz (nT (xs (i + 1)))) 101 0).isNone) then (scU (hrG el (100 * nT (xs (i + 1))) (zz (nT (xs (i + 1))))) (zz (nT (xs (i + 1)))) (n, d, t, day, al, nd, bb, oo, K, F, kn)).2.2.1 else t) (bif okI (xs (i + 1)) 8 && (decide (wrR ke so (nT (xs (i + 1))) = 0) && (fbE (hrG el (100 * nT (xs (i + 1))) (zz (nT (xs (i + 1))))) (zz (nT (xs (i + 1)))) 101 0).isNone) then (scU (hrG el (100 * nT (xs (i + 1))) (zz (nT (xs (i + 1))))) (zz (nT (xs (i + 1)))) (n, d, t, day, al, nd, bb, oo, K, F, kn)).2.2.2.1 else day) (bif okI (xs (i + 1)) 8 && (decide (wrR ke so (nT (xs (i + 1))) = 0) && (fbE (hrG el (100 * nT (xs (i + 1))) (zz (nT (xs (i + 1))))) (zz (nT (xs (i + 1)))) 101 0).isNone) then (scU (hrG el (100 * nT (xs (i + 1))) (zz (nT (xs (i + 1))))) (zz (nT (xs (i + 1)))) (n, d, t, day, al, nd, bb, oo, K, F, kn)).2.2.2.2.1 else al) (bif okI (xs (i + 1)) 8 && (decide (wrR ke so (nT (xs (i + 1))) = 0) && (fbE (hrG el (100 * nT (xs (i + 1))) (zz (nT (xs (i + 1))))) (zz (nT (xs (i + 1)))) 101 0).isNone) then (scU (hrG el (100 * nT (xs (i + 1))) (zz (nT (xs (i + 1))))) (zz (nT (xs (i + 1)))) (n, d, t, day, al, nd, bb, oo, K, F, kn)).2.2.2.2.2.1 else nd) (bif okI (xs (i + 1)) 8 && (decide (wrR ke so (nT (xs (i + 1))) = 0) && (fbE (hrG el (100 * nT (xs (i + 1))) (zz (nT (xs (i + 1))))) (zz (nT (xs (i + 1)))) 101 0).isNone) then (scU (hrG el (100 * nT (xs (i + 1))) (zz (nT (xs (i + 1))))) (zz (nT (xs (i + 1)))) (n, d, t, day, al, nd, bb, oo, K, F, kn)).2.2.2.2.2.2.1 else bb) (bif okI (xs (i + 1)) 8 && (decide (wrR ke so (nT (xs (i + 1))) = 0) && (fbE (hrG el (100 * nT (xs (i + 1))) (zz (nT (xs (i + 1))))) (zz (nT (xs (i + 1)))) 101 0).isNone) then (scU (hrG el (100 * nT (xs (i + 1))) (zz (nT (xs (i + 1))))) (zz (nT (xs (i + 1)))) (n, d, t, day, al, nd, bb, oo, K, F, kn)).2.2.2.2.2.2.2.1 else oo) (bif okI (xs (i + 1)) 8 && (decide (wrR ke so (nT (xs (i + 1))) = 0) && (fbE (hrG el (100 * nT (xs (i + 1))) (zz (nT (xs (i + 1))))) (zz (nT (xs (i + 1)))) 101 0).isNone) then (scU (hrG el (100 * nT (xs (i + 1))) (zz (nT (xs (i + 1))))) (zz (nT (xs (i + 1)))) (n, d, t, day, al, nd, bb, oo, K, F, kn)).2.2.2.2.2.2.2.2.1 else K) (bif okI (xs (i + 1)) 8 && (decide (wrR ke so (nT (xs (i + 1))) = 0) && (fbE (hrG el (100 * nT (xs (i + 1))) (zz (nT (xs (i + 1))))) (zz (nT (xs (i + 1)))) 101 0).isNone) then (scU (hrG el (100 * nT (xs (i + 1))) (zz (nT (xs (i + 1))))) (zz (nT (xs (i + 1)))) (n, d, t, day, al, nd, bb, oo, K, F, kn)).2.2.2.2.2.2.2.2.2.1 else F) (bif okI (xs (i + 1)) 8 && (decide (wrR ke so (nT (xs (i + 1))) = 0) && (fbE (hrG el (100 * nT (xs (i + 1))) (zz (nT (xs (i + 1))))) (zz (nT (xs (i + 1)))) 101 0).isNone) then (scU (hrG el (100 * nT (xs (i + 1))) (zz (nT (xs (i + 1))))) (zz (nT (xs (i + 1)))) (n, d, t, day, al, nd, bb, oo, K, F, kn)).2.2.2.2.2.2.2.2.2.2 else kn) nZ dZ tZ dayZ alZ ndZ bbZ ooZ KZ FZ knZ ke so zz el qk qf H) (XS.up hA (B + 100) hi (bif okI (xs (i + 1)) 8 && (decide (wrR ke so (nT (xs (i + 1))) = 0) && (fbE (hrG el (100 * nT (xs (i + 1))) (zz (nT (xs (i + 1))))) (zz (nT (xs (i + 1)))) 101 0).isNone) then (scU (hrG el (100 * nT (xs (i + 1))) (zz (nT (xs (i + 1))))) (zz (nT (xs (i + 1)))) (n, d, t, day, al, nd, bb, oo, K, F, kn)).1 else n) (bif okI (xs (i + 1)) 8 && (decide (wrR ke so (nT (xs (i + 1))) = 0) && (fbE (hrG el (100 * nT (xs (i + 1))) (zz (nT (xs (i + 1))))) (zz (nT (xs (i + 1)))) 101 0).isNone) then (scU (hrG el (100 * nT (xs (i + 1))) (zz (nT (xs (i + 1))))) (zz (nT (xs (i + 1)))) (n, d, t, day, al, nd, bb, oo, K, F, kn)).2.1 else d) (bif okI (xs (i + 1)) 8 && (decide (wrR ke so (nT (xs (i + 1))) = 0) && (fbE (hrG el (100 * nT (xs (i + 1))) (zz (nT (xs (i + 1))))) (zz (nT (xs (i + 1)))) 101 0).isNone) then (scU (hrG el (100 * nT (xs (i + 1))) (zz (nT (xs (i + 1))))) (zz (nT (xs (i + 1)))) (n, d, t, day, al, nd, bb, oo, K, F, kn)).2.2.1 else t) (bif okI (xs (i + 1)) 8 && (decide (wrR ke so (nT (xs (i + 1))) = 0) && (fbE (hrG el (100 * nT (xs (i + 1))) (zz (nT (xs (i + 1))))) (zz (nT (xs (i + 1)))) 101 0).isNone) then (scU (hrG el (100 * nT (xs (i + 1))) (zz (nT (xs (i + 1))))) (zz (nT (xs (i + 1)))) (n, d, t, day, al, nd, bb, oo, K, F, kn)).2.2.2.1 else day) (bif okI (xs (i + 1)) 8 && (decide (wrR ke so (nT (xs (i + 1))) = 0) && (fbE (hrG el (100 * nT (xs (i + 1))) (zz (nT (xs (i + 1))))) (zz (nT (xs (i + 1)))) 101 0).isNone) then (scU (hrG el (100 * nT (xs (i + 1))) (zz (nT (xs (i + 1))))) (zz (nT (xs (i + 1)))) (n, d, t, day, al, nd, bb, oo, K, F, kn)).2.2.2.2.1 else al) (bif okI (xs (i + 1)) 8 && (decide (wrR ke so (nT (xs (i + 1))) = 0) && (fbE (hrG el (100 * nT (xs (i + 1))) (zz (nT (xs (i + 1))))) (zz (nT (xs (i + 1)))) 101 0).isNone) then (scU (hrG el (100 * nT (xs (i + 1))) (zz (nT (xs (i + 1))))) (zz (nT (xs (i + 1)))) (n, d, t, day, al, nd, bb, oo, K, F, kn)).2.2.2.2.2.1 else nd) (bif okI (xs (i + 1)) 8 && (decide (wrR ke so (nT (xs (i + 1))) = 0) && (fbE (hrG el (100 * nT (xs (i + 1))) (zz (nT (xs (i + 1))))) (zz (nT (xs (i + 1)))) 101 0).isNone) then (scU (hrG el (100 * nT (xs (i + 1))) (zz (nT (xs (i + 1))))) (zz (nT (xs (i + 1)))) (n, d, t, day, al, nd, bb, oo, K, F, kn)).2.2.2.2.2.2.1 else bb) (bif okI (xs (i + 1)) 8 && (decide (wrR ke so (nT (xs (i + 1))) = 0) && (fbE (hrG el (100 * nT (xs (i + 1))) (zz (nT (xs (i + 1))))) (zz (nT (xs (i + 1)))) 101 0).isNone) then (scU (hrG el (100 * nT (xs (i + 1))) (zz (nT (xs (i + 1))))) (zz (nT (xs (i + 1)))) (n, d, t, day, al, nd, bb, oo, K, F, kn)).2.2.2.2.2.2.2.1 else oo) (bif okI (xs (i + 1)) 8 && (decide (wrR ke so (nT (xs (i + 1))) = 0) && (fbE (hrG el (100 * nT (xs (i + 1))) (zz (nT (xs (i + 1))))) (zz (nT (xs (i + 1)))) 101 0).isNone) then (scU (hrG el (100 * nT (xs (i + 1))) (zz (nT (xs (i + 1))))) (zz (nT (xs (i + 1)))) (n, d, t, day, al, nd, bb, oo, K, F, kn)).2.2.2.2.2.2.2.2.1 else K) (bif okI (xs (i + 1)) 8 && (decide (wrR ke so (nT (xs (i + 1))) = 0) && (fbE (hrG el (100 * nT (xs (i + 1))) (zz (nT (xs (i + 1))))) (zz (nT (xs (i + 1)))) 101 0).isNone) then (scU (hrG el (100 * nT (xs (i + 1))) (zz (nT (xs (i + 1))))) (zz (nT (xs (i + 1)))) (n, d, t, day, al, nd, bb, oo, K, F, kn)).2.2.2.2.2.2.2.2.2.1 else F) (bif okI (xs (i + 1)) 8 && (decide (wrR ke so (nT (xs (i + 1))) = 0) && (fbE (hrG el (100 * nT (xs (i + 1))) (zz (nT (xs (i + 1))))) (zz (nT (xs (i + 1)))) 101 0).isNone) then (scU (hrG el (100 * nT (xs (i + 1))) (zz (nT (xs (i + 1))))) (zz (nT (xs (i + 1)))) (n, d, t, day, al, nd, bb, oo, K, F, kn)).2.2.2.2.2.2.2.2.2.2 else kn) nZ dZ tZ dayZ alZ ndZ bbZ ooZ KZ FZ knZ ke so zz el qk qf) hC (xs (i + 1))) (cwV 1 htl gL_law_X12_school rfl rfl rfl (by decide +kernel) ⟨Nat.le_of_ble_eq_true rfl, Nat.le_of_ble_eq_true rfl⟩) (preV_R hCX (mt_recv hK hMT) ⟨hXS, hMT⟩) rfl rfl hl.1 rfl (lv_room (Nat.le_of_ble_eq_true rfl)) dL_law_205 ⟨by show _ ≤ 903060; omega, by show _ ≤ 6386924; omega⟩) hS (fun q _ h => h) (fun q h => h) (fun r2 u2 T9 H1 locs hT9 hvm2 hw2 hB8 hz1 hk1 hS => ?_)
  obtain ⟨hXS, hMT⟩ := hB8
  rw [hT9] at hXS hMT
  refine lv_icmp_eq (tgt := 1223) hx hb dL_law_208 (by decide) (fun _ => ?_) (fun z9 => absurd (hw.trans hw2.symm) z9)
  refine W.widen (k := cells + 20) (n := slots + 220) (by omega) (by omega) ?_
  exact kk _ _ ls ⟨_, _, _, _, _, _, _, _, _, _, _, _, _, _, _, _, _, _, _, _, _, _, _, _, _, _, _, _, _, hXS, hMT⟩ hS hl
set_option maxHeartbeats 4000000 in
set_option maxRecDepth 100000 in
theorem lk_sentence {p : Program} {l : Launch} {e : Env} {s : State} {m : MethodId} {below : List Frame} {meth : Method} {c : Code} {b L : Nat} {xs : Nat → Int32} {dC : Nat → ClassId} {dI : Nat → Nat → Nat} {cI cD cR cL : ClassId} {ad : Nat → Nat} {sa9 : Nat → Nat} {B i : Nat} {H : Heap} {locs : List Loc} {cells slots : Nat} {ls : Array Slot} (C0 : LC p l s m meth c b L xs dC dI cI cD cR cL ad sa9) (hB : B ≤ 60000) (hI : LI dC dI cI cD cR cL ad s.heap.size B H) (hS : va_S (fun q => s.heap.size ≤ q) s.heap H locs) (hl : lv_has ls 8 [(4, .int (nI i)), (3, .ref (ad 40)), (2, .ref (ad 25)), (1, .ref (ad 0)), (0, .ref b)]) (hi : i + 6 ≤ L) (hc9 : cells + 20 ≤ 903060) (hs9 : slots + 220 ≤ 6386924) (kk : ∀ (H1 : Heap) (locs1 : List Loc) (ls1 : Array Slot), LI dC dI cI cD cR cL ad s.heap.size (B + 100) H1 → va_S (fun q => s.heap.size ≤ q) s.heap H1 locs1 → lv_has ls1 8 [(4, .int (nI i)), (3, .ref (ad 40)), (2, .ref (ad 25)), (1, .ref (ad 0)), (0, .ref b)] → W p l e room_1 s m #[Value.ref b] below meth c H1 locs1 (cells + 20) (slots + 220) (lw_Z below #[Value.ref b] s) (F0 m 1223 ls1 [])) : W p l e room_1 s m #[Value.ref b] below meth c H locs cells slots (lw_Z below #[Value.ref b] s) (F0 m 213 ls []) := by
  obtain ⟨⟨hx, hb, hr, hml, hown, htl, hX, hbl, hlocks⟩, hCX, hKJ, hVX, hA, hl0, hL⟩ := C0
  have hbA : ¬ (fun q : Nat => s.heap.size ≤ q) b := Nat.not_le.mpr hbl
  have hK := hCX.1
  obtain ⟨hi, n, d, t, day, al, nd, bb, oo, K, F, kn, nZ, dZ, tZ, dayZ, alZ, ndZ, bbZ, ooZ, KZ, FZ, knZ, ke, so, zz, el, qk, qf, hXS, hMT⟩ := hI
  have hC := hXS.1
  refine lv_aload_n hx hb dL_law_213 rfl (lv_at hl 3 rfl) ?_
  refine lv_aload_n hx hb dL_law_214 rfl (lv_at hl 4 rfl) ?_
  refine lv_iload hx hb dL_law_215 (lv_at hl 0 rfl) ?_
  refine lv_iconst (v := nI 1) hx hb dL_law_217 (by decide +kernel) ?_
  refine ho_iadd hx hb dL_law_218 ?_
  refine va_sld hx hb hX hbl hbA hS (vp_in_nI (by omega) (by omega)) dL_law_219 ?_
  refine ho_tope (y := xs (i + 1)) (by rw [nI_clamp (by omega)]) ?_
  refine lv_aload_n hx hb dL_law_220 rfl (lv_at hl 4 rfl) ?_
  refine lv_iload hx hb dL_law_221 (lv_at hl 0 rfl) ?_
  refine lv_iconst (v := nI 2) hx hb dL_law_223 (by decide +kernel) ?_
  refine ho_iadd hx hb dL_law_224 ?_
  refine va_sld hx hb hX hbl hbA hS (vp_in_nI (by omega) (by omega)) dL_law_225 ?_
  refine ho_tope (y := xs (i + 2)) (by rw [nI_clamp (by omega)]) ?_
  refine va_calli (va_runV (As := [.int (xs (i + 1)), .int (xs (i + 2))]) (rest := []) ⟨hx, hb, hml, hown, htl⟩ (u_X11_sentence l dC dI cI cD cR ad s.heap.size B hA hB hi n d t day al nd bb oo K F kn nZ dZ tZ dayZ alZ ndZ bbZ ooZ KZ FZ knZ ke so zz el qk qf (fun H => MT dC dI cI cL ad hi n d t day al nd bb oo K F kn nZ dZ tZ dayZ alZ ndZ bbZ ooZ KZ FZ knZ ke so zz el qk qf H) (MT.up hi n d t day al nd bb oo K F kn nZ dZ tZ dayZ alZ ndZ bbZ ooZ KZ FZ knZ ke so zz el qk qf) (xs (i + 1)) (xs (i + 2))) (cwV 2 htl gL_law_X11_sentence rfl rfl rfl (by decide +kernel) ⟨Nat.le_of_ble_eq_true rfl, Nat.le_of_ble_eq_true rfl⟩) (preV_R hCX (xs_recv hK hXS) ⟨hXS, hMT⟩) rfl rfl hl.1 rfl (lv_room (Nat.le_of_ble_eq_true rfl)) dL_law_226 ⟨by show _ ≤ 903060; omega, by show _ ≤ 6386924; omega⟩) hS (fun q _ h => h) (fun q h => h) (fun r u T8 H1 locs hT8 hvm hw hB8 hz1 hk1 hS => ?_)
  obtain ⟨hXS, hMT⟩ := hB8
  rw [hT8] at hXS hMT
  generalize H1 = H at hXS hMT hS ⊢
  refine lv_aload_n hx hb dL_law_229 rfl (lv_at hl 2 rfl) ?_
  refine lv_aload_n hx hb dL_law_230 rfl (lv_at hl 4 rfl) ?_
  refine lv_iload hx hb dL_law_231 (lv_at hl 0 rfl) ?_
  refine lv_iconst (v := nI 1) hx hb dL_law_233 (by decide +kernel) ?_
  refine ho_iadd hx hb dL_law_234 ?_
  refine va_sld hx hb hX hbl hbA hS (vp_in_nI (by omega) (by omega)) dL_law_235 ?_
  refine ho_tope (y := xs (i + 1)) (by rw [nI_clamp (by omega)]) ?_
  refine lv_aload_n hx hb dL_law_236 rfl (lv_at hl 4 rfl) ?_
  refine lv_iload hx hb dL_law_237 (lv_at hl 0 rfl) ?_
  refine lv_iconst (v := nI 2) hx hb dL_law_239 (by decide +kernel) ?_
  refine ho_iadd hx hb dL_law_240 ?_
  refine va_sld hx hb hX hbl hbA hS (vp_in_nI (by omega) (by omega)) dL_law_241 ?_
  refine ho_tope (y := xs (i + 2)) (by rw [nI_clamp (by omega)]) ?_
  refine va_calli (va_runV (As := [.int (xs (i + 1)), .int (xs (i + 2))]) (rest := [.int r]) ⟨hx, hb, hml, hown, htl⟩ (u_X12_sentence l dC dI cI cD cR cL ad s.heap.size B hA hB hi n d t day al nd bb oo K F kn nZ dZ tZ dayZ alZ ndZ bbZ ooZ KZ FZ knZ ke so zz el qk qf (fun H => XS dC dI cI cD cR ad s.heap.size (B + 100) hi n d t day al nd bb oo K F kn nZ dZ tZ dayZ alZ ndZ bbZ ooZ KZ FZ knZ ke so zz el qk qf H) (XS.up hA (B + 100) hi n d t day al nd bb oo K F kn nZ dZ tZ dayZ alZ ndZ bbZ ooZ KZ FZ knZ ke so zz el qk qf) hC (xs (i + 1)) (xs (i + 2))) (cwV 2 htl gL_law_X12_sentence rfl rfl rfl (by decide +kernel) ⟨Nat.le_of_ble_eq_true rfl, Nat.le_of_ble_eq_true rfl⟩) (preV_R hCX (mt_recv hK hMT) ⟨hXS, hMT⟩) rfl rfl hl.1 rfl (lv_room (Nat.le_of_ble_eq_true rfl)) dL_law_242 ⟨by show _ ≤ 903060; omega, by show _ ≤ 6386924; omega⟩) hS (fun q _ h => h) (fun q h => h) (fun r2 u2 T9 H1 locs hT9 hvm2 hw2 hB8 hz1 hk1 hS => ?_)
  obtain ⟨hXS, hMT⟩ := hB8
  rw [hT9] at hXS hMT
  refine lv_icmp_eq (tgt := 1223) hx hb dL_law_245 (by decide) (fun _ => ?_) (fun z9 => absurd (hw.trans hw2.symm) z9)
  refine W.widen (k := cells + 20) (n := slots + 220) (by omega) (by omega) ?_
  exact kk _ _ ls ⟨_, _, _, _, _, _, _, _, _, _, _, _, _, _, _, _, _, _, _, _, _, _, _, _, _, _, _, _, _, hXS, hMT⟩ hS hl
set_option maxHeartbeats 4000000 in
set_option maxRecDepth 100000 in
theorem lk_denier {p : Program} {l : Launch} {e : Env} {s : State} {m : MethodId} {below : List Frame} {meth : Method} {c : Code} {b L : Nat} {xs : Nat → Int32} {dC : Nat → ClassId} {dI : Nat → Nat → Nat} {cI cD cR cL : ClassId} {ad : Nat → Nat} {sa9 : Nat → Nat} {B i : Nat} {H : Heap} {locs : List Loc} {cells slots : Nat} {ls : Array Slot} (C0 : LC p l s m meth c b L xs dC dI cI cD cR cL ad sa9) (hB : B ≤ 60000) (hI : LI dC dI cI cD cR cL ad s.heap.size B H) (hS : va_S (fun q => s.heap.size ≤ q) s.heap H locs) (hl : lv_has ls 8 [(4, .int (nI i)), (3, .ref (ad 40)), (2, .ref (ad 25)), (1, .ref (ad 0)), (0, .ref b)]) (hi : i + 6 ≤ L) (hc9 : cells + 20 ≤ 903060) (hs9 : slots + 220 ≤ 6386924) (kk : ∀ (H1 : Heap) (locs1 : List Loc) (ls1 : Array Slot), LI dC dI cI cD cR cL ad s.heap.size (B + 100) H1 → va_S (fun q => s.heap.size ≤ q) s.heap H1 locs1 → lv_has ls1 8 [(4, .int (nI i)), (3, .ref (ad 40)), (2, .ref (ad 25)), (1, .ref (ad 0)), (0, .ref b)] → W p l e room_1 s m #[Value.ref b] below meth c H1 locs1 (cells + 20) (slots + 220) (lw_Z below #[Value.ref b] s) (F0 m 1223 ls1 [])) : W p l e room_1 s m #[Value.ref b] below meth c H locs cells slots (lw_Z below #[Value.ref b] s) (F0 m 250 ls []) := by
  obtain ⟨⟨hx, hb, hr, hml, hown, htl, hX, hbl, hlocks⟩, hCX, hKJ, hVX, hA, hl0, hL⟩ := C0
  have hbA : ¬ (fun q : Nat => s.heap.size ≤ q) b := Nat.not_le.mpr hbl
  have hK := hCX.1
  obtain ⟨hi, n, d, t, day, al, nd, bb, oo, K, F, kn, nZ, dZ, tZ, dayZ, alZ, ndZ, bbZ, ooZ, KZ, FZ, knZ, ke, so, zz, el, qk, qf, hXS, hMT⟩ := hI
  have hC := hXS.1
  refine lv_aload_n hx hb dL_law_250 rfl (lv_at hl 3 rfl) ?_
  refine lv_aload_n hx hb dL_law_251 rfl (lv_at hl 4 rfl) ?_
  refine lv_iload hx hb dL_law_252 (lv_at hl 0 rfl) ?_
  refine lv_iconst (v := nI 1) hx hb dL_law_254 (by decide +kernel) ?_
  refine ho_iadd hx hb dL_law_255 ?_
  refine va_sld hx hb hX hbl hbA hS (vp_in_nI (by omega) (by omega)) dL_law_256 ?_
  refine ho_tope (y := xs (i + 1)) (by rw [nI_clamp (by omega)]) ?_
  refine lv_aload_n hx hb dL_law_257 rfl (lv_at hl 4 rfl) ?_
  refine lv_iload hx hb dL_law_258 (lv_at hl 0 rfl) ?_
  refine lv_iconst (v := nI 2) hx hb dL_law_260 (by decide +kernel) ?_
  refine ho_iadd hx hb dL_law_261 ?_
  refine va_sld hx hb hX hbl hbA hS (vp_in_nI (by omega) (by omega)) dL_law_262 ?_
  refine ho_tope (y := xs (i + 2)) (by rw [nI_clamp (by omega)]) ?_
  refine va_calli (va_runV (As := [.int (xs (i + 1)), .int (xs (i + 2))]) (rest := []) ⟨hx, hb, hml, hown, htl⟩ (u_X11_denier l dC dI cI cD cR ad s.heap.size B hA hB hi n d t day al nd bb oo K F kn nZ dZ tZ dayZ alZ ndZ bbZ ooZ KZ FZ knZ ke so zz el qk qf (fun H => MT dC dI cI cL ad hi n d t day al nd bb oo K F kn nZ dZ tZ dayZ alZ ndZ bbZ ooZ KZ FZ knZ ke so zz el qk qf H) (MT.up hi n d t day al nd bb oo K F kn nZ dZ tZ dayZ alZ ndZ bbZ ooZ KZ FZ knZ ke so zz el qk qf) (xs (i + 1)) (xs (i + 2))) (cwV 2 htl gL_law_X11_denier rfl rfl rfl (by decide +kernel) ⟨Nat.le_of_ble_eq_true rfl, Nat.le_of_ble_eq_true rfl⟩) (preV_R hCX (xs_recv hK hXS) ⟨hXS, hMT⟩) rfl rfl hl.1 rfl (lv_room (Nat.le_of_ble_eq_true rfl)) dL_law_263 ⟨by show _ ≤ 903060; omega, by show _ ≤ 6386924; omega⟩) hS (fun q _ h => h) (fun q h => h) (fun r u T8 H1 locs hT8 hvm hw hB8 hz1 hk1 hS => ?_)
  obtain ⟨hXS, hMT⟩ := hB8
  rw [hT8] at hXS hMT
  generalize H1 = H at hXS hMT hS ⊢
  refine lv_aload_n hx hb dL_law_266 rfl (lv_at hl 2 rfl) ?_
  refine lv_aload_n hx hb dL_law_267 rfl (lv_at hl 4 rfl) ?_
  refine lv_iload hx hb dL_law_268 (lv_at hl 0 rfl) ?_
  refine lv_iconst (v := nI 1) hx hb dL_law_270 (by decide +kernel) ?_
  refine ho_iadd hx hb dL_law_271 ?_
  refine va_sld hx hb hX hbl hbA hS (vp_in_nI (by omega) (by omega)) dL_law_272 ?_
  refine ho_tope (y := xs (i + 1)) (by rw [nI_clamp (by omega)]) ?_
  refine lv_aload_n hx hb dL_law_273 rfl (lv_at hl 4 rfl) ?_
  refine lv_iload hx hb dL_law_274 (lv_at hl 0 rfl) ?_
  refine lv_iconst (v := nI 2) hx hb dL_law_276 (by decide +kernel) ?_
  refine ho_iadd hx hb dL_law_277 ?_
  refine va_sld hx hb hX hbl hbA hS (vp_in_nI (by omega) (by omega)) dL_law_278 ?_
  refine ho_tope (y := xs (i + 2)) (by rw [nI_clamp (by omega)]) ?_
  refine va_calli (va_runV (As := [.int (xs (i + 1)), .int (xs (i + 2))]) (rest := [.int r]) ⟨hx, hb, hml, hown, htl⟩ (u_X12_denier l dC dI cI cD cR cL ad s.heap.size B hA hB hi n d t day al nd bb oo K F kn nZ dZ tZ dayZ alZ ndZ bbZ ooZ KZ FZ knZ ke so zz el qk qf (fun H => XS dC dI cI cD cR ad s.heap.size (B + 100) hi n d t day al nd bb oo K F kn nZ dZ tZ dayZ alZ ndZ bbZ ooZ KZ FZ knZ ke so zz el qk qf H) (XS.up hA (B + 100) hi n d t day al nd bb oo K F kn nZ dZ tZ dayZ alZ ndZ bbZ ooZ KZ FZ knZ ke so zz el qk qf) hC (xs (i + 1)) (xs (i + 2))) (cwV 2 htl gL_law_X12_denier rfl rfl rfl (by decide +kernel) ⟨Nat.le_of_ble_eq_true rfl, Nat.le_of_ble_eq_true rfl⟩) (preV_R hCX (mt_recv hK hMT) ⟨hXS, hMT⟩) rfl rfl hl.1 rfl (lv_room (Nat.le_of_ble_eq_true rfl)) dL_law_279 ⟨by show _ ≤ 903060; omega, by show _ ≤ 6386924; omega⟩) hS (fun q _ h => h) (fun q h => h) (fun r2 u2 T9 H1 locs hT9 hvm2 hw2 hB8 hz1 hk1 hS => ?_)
  obtain ⟨hXS, hMT⟩ := hB8
  rw [hT9] at hXS hMT
  refine lv_icmp_eq (tgt := 1223) hx hb dL_law_282 (by decide) (fun _ => ?_) (fun z9 => absurd (hw.trans hw2.symm) z9)
  refine W.widen (k := cells + 20) (n := slots + 220) (by omega) (by omega) ?_
  exact kk _ _ ls ⟨_, _, _, _, _, _, _, _, _, _, _, _, _, _, _, _, _, _, _, _, _, _, _, _, _, _, _, _, _, hXS, hMT⟩ hS hl
set_option maxHeartbeats 4000000 in
set_option maxRecDepth 100000 in
theorem lk_comes {p : Program} {l : Launch} {e : Env} {s : State} {m : MethodId} {below : List Frame} {meth : Method} {c : Code} {b L : Nat} {xs : Nat → Int32} {dC : Nat → ClassId} {dI : Nat → Nat → Nat} {cI cD cR cL : ClassId} {ad : Nat → Nat} {sa9 : Nat → Nat} {B i : Nat} {H : Heap} {locs : List Loc} {cells slots : Nat} {ls : Array Slot} (C0 : LC p l s m meth c b L xs dC dI cI cD cR cL ad sa9) (hB : B ≤ 60000) (hI : LI dC dI cI cD cR cL ad s.heap.size B H) (hS : va_S (fun q => s.heap.size ≤ q) s.heap H locs) (hl : lv_has ls 8 [(4, .int (nI i)), (3, .ref (ad 40)), (2, .ref (ad 25)), (1, .ref (ad 0)), (0, .ref b)]) (hi : i + 6 ≤ L) (hc9 : cells + 20 ≤ 903060) (hs9 : slots + 220 ≤ 6386924) (kk : ∀ (H1 : Heap) (locs1 : List Loc) (ls1 : Array Slot), LI dC dI cI cD cR cL ad s.heap.size (B + 100) H1 → va_S (fun q => s.heap.size ≤ q) s.heap H1 locs1 → lv_has ls1 8 [(4, .int (nI i)), (3, .ref (ad 40)), (2, .ref (ad 25)), (1, .ref (ad 0)), (0, .ref b)] → W p l e room_1 s m #[Value.ref b] below meth c H1 locs1 (cells + 20) (slots + 220) (lw_Z below #[Value.ref b] s) (F0 m 1223 ls1 [])) : W p l e room_1 s m #[Value.ref b] below meth c H locs cells slots (lw_Z below #[Value.ref b] s) (F0 m 287 ls []) := by
  obtain ⟨⟨hx, hb, hr, hml, hown, htl, hX, hbl, hlocks⟩, hCX, hKJ, hVX, hA, hl0, hL⟩ := C0
  have hbA : ¬ (fun q : Nat => s.heap.size ≤ q) b := Nat.not_le.mpr hbl
  have hK := hCX.1
  obtain ⟨hi, n, d, t, day, al, nd, bb, oo, K, F, kn, nZ, dZ, tZ, dayZ, alZ, ndZ, bbZ, ooZ, KZ, FZ, knZ, ke, so, zz, el, qk, qf, hXS, hMT⟩ := hI
  have hC := hXS.1
  refine lv_aload_n hx hb dL_law_287 rfl (lv_at hl 3 rfl) ?_
  refine lv_aload_n hx hb dL_law_288 rfl (lv_at hl 4 rfl) ?_
  refine lv_iload hx hb dL_law_289 (lv_at hl 0 rfl) ?_
  refine lv_iconst (v := nI 1) hx hb dL_law_291 (by decide +kernel) ?_
  refine ho_iadd hx hb dL_law_292 ?_
  refine va_sld hx hb hX hbl hbA hS (vp_in_nI (by omega) (by omega)) dL_law_293 ?_
  refine ho_tope (y := xs (i + 1)) (by rw [nI_clamp (by omega)]) ?_
  refine va_calli (va_runV (As := [.int (xs (i + 1))]) (rest := []) ⟨hx, hb, hml, hown, htl⟩ (u_X11_comes l dC dI cI cD cR ad s.heap.size B hA hB hi n d t day al nd bb oo K F kn nZ dZ tZ dayZ alZ ndZ bbZ ooZ KZ FZ knZ ke so zz el qk qf (fun H => MT dC dI cI cL ad hi n d t day al nd bb oo K F kn nZ dZ tZ dayZ alZ ndZ bbZ ooZ KZ FZ knZ ke so zz el qk qf H) (MT.up hi n d t day al nd bb oo K F kn nZ dZ tZ dayZ alZ ndZ bbZ ooZ KZ FZ knZ ke so zz el qk qf) (xs (i + 1))) (cwV 1 htl gL_law_X11_comes rfl rfl rfl (by decide +kernel) ⟨Nat.le_of_ble_eq_true rfl, Nat.le_of_ble_eq_true rfl⟩) (preV_R hCX (xs_recv hK hXS) ⟨hXS, hMT⟩) rfl rfl hl.1 rfl (lv_room (Nat.le_of_ble_eq_true rfl)) dL_law_294 ⟨by show _ ≤ 903060; omega, by show _ ≤ 6386924; omega⟩) hS (fun q _ h => h) (fun q h => h) (fun r u T8 H1 locs hT8 hvm hw hB8 hz1 hk1 hS => ?_)
  obtain ⟨hXS, hMT⟩ := hB8
  rw [hT8] at hXS hMT
  generalize H1 = H at hXS hMT hS ⊢
  refine lv_aload_n hx hb dL_law_297 rfl (lv_at hl 2 rfl) ?_
  refine lv_aload_n hx hb dL_law_298 rfl (lv_at hl 4 rfl) ?_
  refine lv_iload hx hb dL_law_299 (lv_at hl 0 rfl) ?_
  refine lv_iconst (v := nI 1) hx hb dL_law_301 (by decide +kernel) ?_
  refine ho_iadd hx hb dL_law_302 ?_
  refine va_sld hx hb hX hbl hbA hS (vp_in_nI (by omega) (by omega)) dL_law_303 ?_
  refine ho_tope (y := xs (i + 1)) (by rw [nI_clamp (by omega)]) ?_
  refine va_calli (va_runV (As := [.int (xs (i + 1))]) (rest := [.int r]) ⟨hx, hb, hml, hown, htl⟩ (u_X12_comes l dC dI cI cD cR cL ad s.heap.size B hA hB hi n d t day al nd bb oo K F kn nZ dZ tZ dayZ alZ ndZ bbZ ooZ KZ FZ knZ ke so zz el qk qf (fun H => XS dC dI cI cD cR ad s.heap.size (B + 100) hi n (on1 (oN (xs (i + 1)) 8) (fun y9 => bif (decide (wkR ke y9 = 0) && decide (d < 6)) then d + 1 else d) (d)) t day (on1 (oN (xs (i + 1)) 8) (fun y9 => bif (decide (wkR ke y9 = 0) && decide (d < 6)) then al ||| 2 ^ d else al) (al)) nd bb oo (on1 (oN (xs (i + 1)) 8) (fun y9 => bif (decide (wkR ke y9 = 0) && decide (d < 6)) then va_up K d (nT (qk y9)) else K) (K)) (on1 (oN (xs (i + 1)) 8) (fun y9 => bif (decide (wkR ke y9 = 0) && decide (d < 6)) then va_up F d (nT (qf y9)) else F) (F)) (on1 (oN (xs (i + 1)) 8) (fun y9 => bif (decide (wkR ke y9 = 0) && decide (d < 6)) then va_up kn d 0 else kn) (kn)) nZ dZ tZ dayZ alZ ndZ bbZ ooZ KZ FZ knZ ke so zz el qk qf H) (XS.up hA (B + 100) hi n (on1 (oN (xs (i + 1)) 8) (fun y9 => bif (decide (wkR ke y9 = 0) && decide (d < 6)) then d + 1 else d) (d)) t day (on1 (oN (xs (i + 1)) 8) (fun y9 => bif (decide (wkR ke y9 = 0) && decide (d < 6)) then al ||| 2 ^ d else al) (al)) nd bb oo (on1 (oN (xs (i + 1)) 8) (fun y9 => bif (decide (wkR ke y9 = 0) && decide (d < 6)) then va_up K d (nT (qk y9)) else K) (K)) (on1 (oN (xs (i + 1)) 8) (fun y9 => bif (decide (wkR ke y9 = 0) && decide (d < 6)) then va_up F d (nT (qf y9)) else F) (F)) (on1 (oN (xs (i + 1)) 8) (fun y9 => bif (decide (wkR ke y9 = 0) && decide (d < 6)) then va_up kn d 0 else kn) (kn)) nZ dZ tZ dayZ alZ ndZ bbZ ooZ KZ FZ knZ ke so zz el qk qf) hC (xs (i + 1))) (cwV 1 htl gL_law_X12_comes rfl rfl rfl (by decide +kernel) ⟨Nat.le_of_ble_eq_true rfl, Nat.le_of_ble_eq_true rfl⟩) (preV_R hCX (mt_recv hK hMT) ⟨hXS, hMT⟩) rfl rfl hl.1 rfl (lv_room (Nat.le_of_ble_eq_true rfl)) dL_law_304 ⟨by show _ ≤ 903060; omega, by show _ ≤ 6386924; omega⟩) hS (fun q _ h => h) (fun q h => h) (fun r2 u2 T9 H1 locs hT9 hvm2 hw2 hB8 hz1 hk1 hS => ?_)
  obtain ⟨hXS, hMT⟩ := hB8
  rw [hT9] at hXS hMT
  refine lv_icmp_eq (tgt := 1223) hx hb dL_law_307 (by decide) (fun _ => ?_) (fun z9 => absurd (hw.trans hw2.symm) z9)
  refine W.widen (k := cells + 20) (n := slots + 220) (by omega) (by omega) ?_
  exact kk _ _ ls ⟨_, _, _, _, _, _, _, _, _, _, _, _, _, _, _, _, _, _, _, _, _, _, _, _, _, _, _, _, _, hXS, hMT⟩ hS hl
set_option maxHeartbeats 4000000 in
set_option maxRecDepth 100000 in
theorem lk_learns {p : Program} {l : Launch} {e : Env} {s : State} {m : MethodId} {below : List Frame} {meth : Method} {c : Code} {b L : Nat} {xs : Nat → Int32} {dC : Nat → ClassId} {dI : Nat → Nat → Nat} {cI cD cR cL : ClassId} {ad : Nat → Nat} {sa9 : Nat → Nat} {B i : Nat} {H : Heap} {locs : List Loc} {cells slots : Nat} {ls : Array Slot} (C0 : LC p l s m meth c b L xs dC dI cI cD cR cL ad sa9) (hB : B ≤ 60000) (hI : LI dC dI cI cD cR cL ad s.heap.size B H) (hS : va_S (fun q => s.heap.size ≤ q) s.heap H locs) (hl : lv_has ls 8 [(4, .int (nI i)), (3, .ref (ad 40)), (2, .ref (ad 25)), (1, .ref (ad 0)), (0, .ref b)]) (hi : i + 6 ≤ L) (hc9 : cells + 20 ≤ 903060) (hs9 : slots + 220 ≤ 6386924) (kk : ∀ (H1 : Heap) (locs1 : List Loc) (ls1 : Array Slot), LI dC dI cI cD cR cL ad s.heap.size (B + 100) H1 → va_S (fun q => s.heap.size ≤ q) s.heap H1 locs1 → lv_has ls1 8 [(4, .int (nI i)), (3, .ref (ad 40)), (2, .ref (ad 25)), (1, .ref (ad 0)), (0, .ref b)] → W p l e room_1 s m #[Value.ref b] below meth c H1 locs1 (cells + 20) (slots + 220) (lw_Z below #[Value.ref b] s) (F0 m 1223 ls1 [])) : W p l e room_1 s m #[Value.ref b] below meth c H locs cells slots (lw_Z below #[Value.ref b] s) (F0 m 312 ls []) := by
  obtain ⟨⟨hx, hb, hr, hml, hown, htl, hX, hbl, hlocks⟩, hCX, hKJ, hVX, hA, hl0, hL⟩ := C0
  have hbA : ¬ (fun q : Nat => s.heap.size ≤ q) b := Nat.not_le.mpr hbl
  have hK := hCX.1
  obtain ⟨hi, n, d, t, day, al, nd, bb, oo, K, F, kn, nZ, dZ, tZ, dayZ, alZ, ndZ, bbZ, ooZ, KZ, FZ, knZ, ke, so, zz, el, qk, qf, hXS, hMT⟩ := hI
  have hC := hXS.1
  refine lv_aload_n hx hb dL_law_312 rfl (lv_at hl 3 rfl) ?_
  refine lv_aload_n hx hb dL_law_313 rfl (lv_at hl 4 rfl) ?_
  refine lv_iload hx hb dL_law_314 (lv_at hl 0 rfl) ?_
  refine lv_iconst (v := nI 1) hx hb dL_law_316 (by decide +kernel) ?_
  refine ho_iadd hx hb dL_law_317 ?_
  refine va_sld hx hb hX hbl hbA hS (vp_in_nI (by omega) (by omega)) dL_law_318 ?_
  refine ho_tope (y := xs (i + 1)) (by rw [nI_clamp (by omega)]) ?_
  refine lv_aload_n hx hb dL_law_319 rfl (lv_at hl 4 rfl) ?_
  refine lv_iload hx hb dL_law_320 (lv_at hl 0 rfl) ?_
  refine lv_iconst (v := nI 2) hx hb dL_law_322 (by decide +kernel) ?_
  refine ho_iadd hx hb dL_law_323 ?_
  refine va_sld hx hb hX hbl hbA hS (vp_in_nI (by omega) (by omega)) dL_law_324 ?_
  refine ho_tope (y := xs (i + 2)) (by rw [nI_clamp (by omega)]) ?_
  refine va_calli (va_runV (As := [.int (xs (i + 1)), .int (xs (i + 2))]) (rest := []) ⟨hx, hb, hml, hown, htl⟩ (u_X11_learns l dC dI cI cD cR ad s.heap.size B hA hB hi n d t day al nd bb oo K F kn nZ dZ tZ dayZ alZ ndZ bbZ ooZ KZ FZ knZ ke so zz el qk qf (fun H => MT dC dI cI cL ad hi n d t day al nd bb oo K F kn nZ dZ tZ dayZ alZ ndZ bbZ ooZ KZ FZ knZ ke so zz el qk qf H) (MT.up hi n d t day al nd bb oo K F kn nZ dZ tZ dayZ alZ ndZ bbZ ooZ KZ FZ knZ ke so zz el qk qf) (xs (i + 1)) (xs (i + 2))) (cwV 2 htl gL_law_X11_learns rfl rfl rfl (by decide +kernel) ⟨Nat.le_of_ble_eq_true rfl, Nat.le_of_ble_eq_true rfl⟩) (preV_R hCX (xs_recv hK hXS) ⟨hXS, hMT⟩) rfl rfl hl.1 rfl (lv_room (Nat.le_of_ble_eq_true rfl)) dL_law_325 ⟨by show _ ≤ 903060; omega, by show _ ≤ 6386924; omega⟩) hS (fun q _ h => h) (fun q h => h) (fun r u T8 H1 locs hT8 hvm hw hB8 hz1 hk1 hS => ?_)
  obtain ⟨hXS, hMT⟩ := hB8
  rw [hT8] at hXS hMT
  generalize H1 = H at hXS hMT hS ⊢
  refine lv_aload_n hx hb dL_law_328 rfl (lv_at hl 2 rfl) ?_
  refine lv_aload_n hx hb dL_law_329 rfl (lv_at hl 4 rfl) ?_
  refine lv_iload hx hb dL_law_330 (lv_at hl 0 rfl) ?_
  refine lv_iconst (v := nI 1) hx hb dL_law_332 (by decide +kernel) ?_
  refine ho_iadd hx hb dL_law_333 ?_
  refine va_sld hx hb hX hbl hbA hS (vp_in_nI (by omega) (by omega)) dL_law_334 ?_
  refine ho_tope (y := xs (i + 1)) (by rw [nI_clamp (by omega)]) ?_
  refine lv_aload_n hx hb dL_law_335 rfl (lv_at hl 4 rfl) ?_
  refine lv_iload hx hb dL_law_336 (lv_at hl 0 rfl) ?_
  refine lv_iconst (v := nI 2) hx hb dL_law_338 (by decide +kernel) ?_
  refine ho_iadd hx hb dL_law_339 ?_
  refine va_sld hx hb hX hbl hbA hS (vp_in_nI (by omega) (by omega)) dL_law_340 ?_
  refine ho_tope (y := xs (i + 2)) (by rw [nI_clamp (by omega)]) ?_
  refine va_calli (va_runV (As := [.int (xs (i + 1)), .int (xs (i + 2))]) (rest := [.int r]) ⟨hx, hb, hml, hown, htl⟩ (u_X12_learns l dC dI cI cD cR cL ad s.heap.size B hA hB hi n d t day al nd bb oo K F kn nZ dZ tZ dayZ alZ ndZ bbZ ooZ KZ FZ knZ ke so zz el qk qf (fun H => XS dC dI cI cD cR ad s.heap.size (B + 100) hi n d t day al nd bb oo K F (on2 (oN (xs (i + 1)) d) (oN (xs (i + 2)) n) (fun y v => va_up kn y (kn y ||| 2 ^ v)) kn) nZ dZ tZ dayZ alZ ndZ bbZ ooZ KZ FZ knZ ke so zz el qk qf H) (XS.up hA (B + 100) hi n d t day al nd bb oo K F (on2 (oN (xs (i + 1)) d) (oN (xs (i + 2)) n) (fun y v => va_up kn y (kn y ||| 2 ^ v)) kn) nZ dZ tZ dayZ alZ ndZ bbZ ooZ KZ FZ knZ ke so zz el qk qf) hC (xs (i + 1)) (xs (i + 2))) (cwV 2 htl gL_law_X12_learns rfl rfl rfl (by decide +kernel) ⟨Nat.le_of_ble_eq_true rfl, Nat.le_of_ble_eq_true rfl⟩) (preV_R hCX (mt_recv hK hMT) ⟨hXS, hMT⟩) rfl rfl hl.1 rfl (lv_room (Nat.le_of_ble_eq_true rfl)) dL_law_341 ⟨by show _ ≤ 903060; omega, by show _ ≤ 6386924; omega⟩) hS (fun q _ h => h) (fun q h => h) (fun r2 u2 T9 H1 locs hT9 hvm2 hw2 hB8 hz1 hk1 hS => ?_)
  obtain ⟨hXS, hMT⟩ := hB8
  rw [hT9] at hXS hMT
  refine lv_icmp_eq (tgt := 1223) hx hb dL_law_344 (by decide) (fun _ => ?_) (fun z9 => absurd (hw.trans hw2.symm) z9)
  refine W.widen (k := cells + 20) (n := slots + 220) (by omega) (by omega) ?_
  exact kk _ _ ls ⟨_, _, _, _, _, _, _, _, _, _, _, _, _, _, _, _, _, _, _, _, _, _, _, _, _, _, _, _, _, hXS, hMT⟩ hS hl
set_option maxHeartbeats 4000000 in
set_option maxRecDepth 100000 in
theorem lk_deny {p : Program} {l : Launch} {e : Env} {s : State} {m : MethodId} {below : List Frame} {meth : Method} {c : Code} {b L : Nat} {xs : Nat → Int32} {dC : Nat → ClassId} {dI : Nat → Nat → Nat} {cI cD cR cL : ClassId} {ad : Nat → Nat} {sa9 : Nat → Nat} {B i : Nat} {H : Heap} {locs : List Loc} {cells slots : Nat} {ls : Array Slot} (C0 : LC p l s m meth c b L xs dC dI cI cD cR cL ad sa9) (hB : B ≤ 60000) (hI : LI dC dI cI cD cR cL ad s.heap.size B H) (hS : va_S (fun q => s.heap.size ≤ q) s.heap H locs) (hl : lv_has ls 8 [(4, .int (nI i)), (3, .ref (ad 40)), (2, .ref (ad 25)), (1, .ref (ad 0)), (0, .ref b)]) (hi : i + 6 ≤ L) (hc9 : cells + 20 ≤ 903060) (hs9 : slots + 220 ≤ 6386924) (kk : ∀ (H1 : Heap) (locs1 : List Loc) (ls1 : Array Slot), LI dC dI cI cD cR cL ad s.heap.size (B + 100) H1 → va_S (fun q => s.heap.size ≤ q) s.heap H1 locs1 → lv_has ls1 8 [(4, .int (nI i)), (3, .ref (ad 40)), (2, .ref (ad 25)), (1, .ref (ad 0)), (0, .ref b)] → W p l e room_1 s m #[Value.ref b] below meth c H1 locs1 (cells + 20) (slots + 220) (lw_Z below #[Value.ref b] s) (F0 m 1223 ls1 [])) : W p l e room_1 s m #[Value.ref b] below meth c H locs cells slots (lw_Z below #[Value.ref b] s) (F0 m 349 ls []) := by
  obtain ⟨⟨hx, hb, hr, hml, hown, htl, hX, hbl, hlocks⟩, hCX, hKJ, hVX, hA, hl0, hL⟩ := C0
  have hbA : ¬ (fun q : Nat => s.heap.size ≤ q) b := Nat.not_le.mpr hbl
  have hK := hCX.1
  obtain ⟨hi, n, d, t, day, al, nd, bb, oo, K, F, kn, nZ, dZ, tZ, dayZ, alZ, ndZ, bbZ, ooZ, KZ, FZ, knZ, ke, so, zz, el, qk, qf, hXS, hMT⟩ := hI
  have hC := hXS.1
  refine lv_aload_n hx hb dL_law_349 rfl (lv_at hl 3 rfl) ?_
  refine lv_aload_n hx hb dL_law_350 rfl (lv_at hl 4 rfl) ?_
  refine lv_iload hx hb dL_law_351 (lv_at hl 0 rfl) ?_
  refine lv_iconst (v := nI 1) hx hb dL_law_353 (by decide +kernel) ?_
  refine ho_iadd hx hb dL_law_354 ?_
  refine va_sld hx hb hX hbl hbA hS (vp_in_nI (by omega) (by omega)) dL_law_355 ?_
  refine ho_tope (y := xs (i + 1)) (by rw [nI_clamp (by omega)]) ?_
  refine lv_aload_n hx hb dL_law_356 rfl (lv_at hl 4 rfl) ?_
  refine lv_iload hx hb dL_law_357 (lv_at hl 0 rfl) ?_
  refine lv_iconst (v := nI 2) hx hb dL_law_359 (by decide +kernel) ?_
  refine ho_iadd hx hb dL_law_360 ?_
  refine va_sld hx hb hX hbl hbA hS (vp_in_nI (by omega) (by omega)) dL_law_361 ?_
  refine ho_tope (y := xs (i + 2)) (by rw [nI_clamp (by omega)]) ?_
  refine va_calli (va_runV (As := [.int (xs (i + 1)), .int (xs (i + 2))]) (rest := []) ⟨hx, hb, hml, hown, htl⟩ (u_X11_deny l dC dI cI cD cR ad s.heap.size B hA hB hi n d t day al nd bb oo K F kn nZ dZ tZ dayZ alZ ndZ bbZ ooZ KZ FZ knZ ke so zz el qk qf (fun H => MT dC dI cI cL ad hi n d t day al nd bb oo K F kn nZ dZ tZ dayZ alZ ndZ bbZ ooZ KZ FZ knZ ke so zz el qk qf H) (MT.up hi n d t day al nd bb oo K F kn nZ dZ tZ dayZ alZ ndZ bbZ ooZ KZ FZ knZ ke so zz el qk qf) (xs (i + 1)) (xs (i + 2))) (cwV 2 htl gL_law_X11_deny rfl rfl rfl (by decide +kernel) ⟨Nat.le_of_ble_eq_true rfl, Nat.le_of_ble_eq_true rfl⟩) (preV_R hCX (xs_recv hK hXS) ⟨hXS, hMT⟩) rfl rfl hl.1 rfl (lv_room (Nat.le_of_ble_eq_true rfl)) dL_law_362 ⟨by show _ ≤ 903060; omega, by show _ ≤ 6386924; omega⟩) hS (fun q _ h => h) (fun q h => h) (fun r u T8 H1 locs hT8 hvm hw hB8 hz1 hk1 hS => ?_)
  obtain ⟨hXS, hMT⟩ := hB8
  rw [hT8] at hXS hMT
  generalize H1 = H at hXS hMT hS ⊢
  refine lv_aload_n hx hb dL_law_365 rfl (lv_at hl 2 rfl) ?_
  refine lv_aload_n hx hb dL_law_366 rfl (lv_at hl 4 rfl) ?_
  refine lv_iload hx hb dL_law_367 (lv_at hl 0 rfl) ?_
  refine lv_iconst (v := nI 1) hx hb dL_law_369 (by decide +kernel) ?_
  refine ho_iadd hx hb dL_law_370 ?_
  refine va_sld hx hb hX hbl hbA hS (vp_in_nI (by omega) (by omega)) dL_law_371 ?_
  refine ho_tope (y := xs (i + 1)) (by rw [nI_clamp (by omega)]) ?_
  refine lv_aload_n hx hb dL_law_372 rfl (lv_at hl 4 rfl) ?_
  refine lv_iload hx hb dL_law_373 (lv_at hl 0 rfl) ?_
  refine lv_iconst (v := nI 2) hx hb dL_law_375 (by decide +kernel) ?_
  refine ho_iadd hx hb dL_law_376 ?_
  refine va_sld hx hb hX hbl hbA hS (vp_in_nI (by omega) (by omega)) dL_law_377 ?_
  refine ho_tope (y := xs (i + 2)) (by rw [nI_clamp (by omega)]) ?_
  refine va_calli (va_runV (As := [.int (xs (i + 1)), .int (xs (i + 2))]) (rest := [.int r]) ⟨hx, hb, hml, hown, htl⟩ (u_X12_deny l dC dI cI cD cR cL ad s.heap.size B hA hB hi n d t day al nd bb oo K F kn nZ dZ tZ dayZ alZ ndZ bbZ ooZ KZ FZ knZ ke so zz el qk qf (fun H => XS dC dI cI cD cR ad s.heap.size (B + 100) hi n d (bif dnC n d (fun y v => mnB t al nd K F kn y v && siB (K y) t (kn y) (nd v) (day % 2 != 0)) (xs (i + 1)) (xs (i + 2)) then t ||| 2 ^ (xs (i + 2)).toNatClampNeg else t) (bif dnC n d (fun y v => mnB t al nd K F kn y v) (xs (i + 1)) (xs (i + 2)) then day + 1 else day) al nd (bif dnC n d (fun y v => mnB t al nd K F kn y v && siB (K y) t (kn y) (nd v) (day % 2 != 0)) (xs (i + 1)) (xs (i + 2)) then upd bb (xs (i + 2)).toNatClampNeg (nI (xs (i + 1)).toNatClampNeg) else bb) (bif dnC n d (fun y v => mnB t al nd K F kn y v && siB (K y) t (kn y) (nd v) (day % 2 != 0)) (xs (i + 1)) (xs (i + 2)) then upd oo (xs (i + 2)).toNatClampNeg (nI (day + 1)) else oo) K F (bif dnC n d (fun y v => mnB t al nd K F kn y v && siB (K y) t (kn y) (nd v) (day % 2 != 0)) (xs (i + 1)) (xs (i + 2)) then va_up kn (xs (i + 1)).toNatClampNeg (kn (xs (i + 1)).toNatClampNeg ||| 2 ^ (xs (i + 2)).toNatClampNeg) else kn) nZ dZ tZ dayZ alZ ndZ bbZ ooZ KZ FZ knZ ke so zz el qk qf H) (XS.up hA (B + 100) hi n d (bif dnC n d (fun y v => mnB t al nd K F kn y v && siB (K y) t (kn y) (nd v) (day % 2 != 0)) (xs (i + 1)) (xs (i + 2)) then t ||| 2 ^ (xs (i + 2)).toNatClampNeg else t) (bif dnC n d (fun y v => mnB t al nd K F kn y v) (xs (i + 1)) (xs (i + 2)) then day + 1 else day) al nd (bif dnC n d (fun y v => mnB t al nd K F kn y v && siB (K y) t (kn y) (nd v) (day % 2 != 0)) (xs (i + 1)) (xs (i + 2)) then upd bb (xs (i + 2)).toNatClampNeg (nI (xs (i + 1)).toNatClampNeg) else bb) (bif dnC n d (fun y v => mnB t al nd K F kn y v && siB (K y) t (kn y) (nd v) (day % 2 != 0)) (xs (i + 1)) (xs (i + 2)) then upd oo (xs (i + 2)).toNatClampNeg (nI (day + 1)) else oo) K F (bif dnC n d (fun y v => mnB t al nd K F kn y v && siB (K y) t (kn y) (nd v) (day % 2 != 0)) (xs (i + 1)) (xs (i + 2)) then va_up kn (xs (i + 1)).toNatClampNeg (kn (xs (i + 1)).toNatClampNeg ||| 2 ^ (xs (i + 2)).toNatClampNeg) else kn) nZ dZ tZ dayZ alZ ndZ bbZ ooZ KZ FZ knZ ke so zz el qk qf) hC (xs (i + 1)) (xs (i + 2))) (cwV 2 htl gL_law_X12_deny rfl rfl rfl (by decide +kernel) ⟨Nat.le_of_ble_eq_true rfl, Nat.le_of_ble_eq_true rfl⟩) (preV_R hCX (mt_recv hK hMT) ⟨hXS, hMT⟩) rfl rfl hl.1 rfl (lv_room (Nat.le_of_ble_eq_true rfl)) dL_law_378 ⟨by show _ ≤ 903060; omega, by show _ ≤ 6386924; omega⟩) hS (fun q _ h => h) (fun q h => h) (fun r2 u2 T9 H1 locs hT9 hvm2 hw2 hB8 hz1 hk1 hS => ?_)
  obtain ⟨hXS, hMT⟩ := hB8
  rw [hT9] at hXS hMT
  refine lv_icmp_eq (tgt := 1223) hx hb dL_law_381 (by decide) (fun _ => ?_) (fun z9 => absurd (hw.trans hw2.symm) z9)
  refine W.widen (k := cells + 20) (n := slots + 220) (by omega) (by omega) ?_
  exact kk _ _ ls ⟨_, _, _, _, _, _, _, _, _, _, _, _, _, _, _, _, _, _, _, _, _, _, _, _, _, _, _, _, _, hXS, hMT⟩ hS hl
set_option maxHeartbeats 4000000 in
set_option maxRecDepth 100000 in
theorem lk_die {p : Program} {l : Launch} {e : Env} {s : State} {m : MethodId} {below : List Frame} {meth : Method} {c : Code} {b L : Nat} {xs : Nat → Int32} {dC : Nat → ClassId} {dI : Nat → Nat → Nat} {cI cD cR cL : ClassId} {ad : Nat → Nat} {sa9 : Nat → Nat} {B i : Nat} {H : Heap} {locs : List Loc} {cells slots : Nat} {ls : Array Slot} (C0 : LC p l s m meth c b L xs dC dI cI cD cR cL ad sa9) (hB : B ≤ 60000) (hI : LI dC dI cI cD cR cL ad s.heap.size B H) (hS : va_S (fun q => s.heap.size ≤ q) s.heap H locs) (hl : lv_has ls 8 [(4, .int (nI i)), (3, .ref (ad 40)), (2, .ref (ad 25)), (1, .ref (ad 0)), (0, .ref b)]) (hi : i + 6 ≤ L) (hc9 : cells + 20 ≤ 903060) (hs9 : slots + 220 ≤ 6386924) (kk : ∀ (H1 : Heap) (locs1 : List Loc) (ls1 : Array Slot), LI dC dI cI cD cR cL ad s.heap.size (B + 100) H1 → va_S (fun q => s.heap.size ≤ q) s.heap H1 locs1 → lv_has ls1 8 [(4, .int (nI i)), (3, .ref (ad 40)), (2, .ref (ad 25)), (1, .ref (ad 0)), (0, .ref b)] → W p l e room_1 s m #[Value.ref b] below meth c H1 locs1 (cells + 20) (slots + 220) (lw_Z below #[Value.ref b] s) (F0 m 1223 ls1 [])) : W p l e room_1 s m #[Value.ref b] below meth c H locs cells slots (lw_Z below #[Value.ref b] s) (F0 m 386 ls []) := by
  obtain ⟨⟨hx, hb, hr, hml, hown, htl, hX, hbl, hlocks⟩, hCX, hKJ, hVX, hA, hl0, hL⟩ := C0
  have hbA : ¬ (fun q : Nat => s.heap.size ≤ q) b := Nat.not_le.mpr hbl
  have hK := hCX.1
  obtain ⟨hi, n, d, t, day, al, nd, bb, oo, K, F, kn, nZ, dZ, tZ, dayZ, alZ, ndZ, bbZ, ooZ, KZ, FZ, knZ, ke, so, zz, el, qk, qf, hXS, hMT⟩ := hI
  have hC := hXS.1
  refine lv_aload_n hx hb dL_law_386 rfl (lv_at hl 3 rfl) ?_
  refine lv_aload_n hx hb dL_law_387 rfl (lv_at hl 4 rfl) ?_
  refine lv_iload hx hb dL_law_388 (lv_at hl 0 rfl) ?_
  refine lv_iconst (v := nI 1) hx hb dL_law_390 (by decide +kernel) ?_
  refine ho_iadd hx hb dL_law_391 ?_
  refine va_sld hx hb hX hbl hbA hS (vp_in_nI (by omega) (by omega)) dL_law_392 ?_
  refine ho_tope (y := xs (i + 1)) (by rw [nI_clamp (by omega)]) ?_
  refine va_calli (va_runV (As := [.int (xs (i + 1))]) (rest := []) ⟨hx, hb, hml, hown, htl⟩ (u_X11_die l dC dI cI cD cR ad s.heap.size B hA hB hi n d t day al nd bb oo K F kn nZ dZ tZ dayZ alZ ndZ bbZ ooZ KZ FZ knZ ke so zz el qk qf (fun H => MT dC dI cI cL ad hi n d t day al nd bb oo K F kn nZ dZ tZ dayZ alZ ndZ bbZ ooZ KZ FZ knZ ke so zz el qk qf H) (MT.up hi n d t day al nd bb oo K F kn nZ dZ tZ dayZ alZ ndZ bbZ ooZ KZ FZ knZ ke so zz el qk qf) (xs (i + 1))) (cwV 1 htl gL_law_X11_die rfl rfl rfl (by decide +kernel) ⟨Nat.le_of_ble_eq_true rfl, Nat.le_of_ble_eq_true rfl⟩) (preV_R hCX (xs_recv hK hXS) ⟨hXS, hMT⟩) rfl rfl hl.1 rfl (lv_room (Nat.le_of_ble_eq_true rfl)) dL_law_393 ⟨by show _ ≤ 903060; omega, by show _ ≤ 6386924; omega⟩) hS (fun q _ h => h) (fun q h => h) (fun r u T8 H1 locs hT8 hvm hw hB8 hz1 hk1 hS => ?_)
  obtain ⟨hXS, hMT⟩ := hB8
  rw [hT8] at hXS hMT
  generalize H1 = H at hXS hMT hS ⊢
  refine lv_aload_n hx hb dL_law_396 rfl (lv_at hl 2 rfl) ?_
  refine lv_aload_n hx hb dL_law_397 rfl (lv_at hl 4 rfl) ?_
  refine lv_iload hx hb dL_law_398 (lv_at hl 0 rfl) ?_
  refine lv_iconst (v := nI 1) hx hb dL_law_400 (by decide +kernel) ?_
  refine ho_iadd hx hb dL_law_401 ?_
  refine va_sld hx hb hX hbl hbA hS (vp_in_nI (by omega) (by omega)) dL_law_402 ?_
  refine ho_tope (y := xs (i + 1)) (by rw [nI_clamp (by omega)]) ?_
  refine va_calli (va_runV (As := [.int (xs (i + 1))]) (rest := [.int r]) ⟨hx, hb, hml, hown, htl⟩ (u_X12_die l dC dI cI cD cR cL ad s.heap.size B hA hB hi n d t day al nd bb oo K F kn nZ dZ tZ dayZ alZ ndZ bbZ ooZ KZ FZ knZ ke so zz el qk qf (fun H => XS dC dI cI cD cR ad s.heap.size (B + 100) hi n d (on1 (oN (xs (i + 1)) d) (fun y => bif al.testBit y then sdf t (bif al.testBit y then ruR t nd n 9 (orF (fun s9 => t.testBit s9 && decide (bb s9 = nI y)) n) else 0) else t) t) day (on1 (oN (xs (i + 1)) d) (fun y => bif al.testBit y then sdf al (2 ^ y) else al) al) nd (on1 (oN (xs (i + 1)) d) (fun y => bif al.testBit y then faB (bif al.testBit y then ruR t nd n 9 (orF (fun s9 => t.testBit s9 && decide (bb s9 = nI y)) n) else 0) (-4) n bb else bb) bb) (on1 (oN (xs (i + 1)) d) (fun y => bif al.testBit y then faB (bif al.testBit y then ruR t nd n 9 (orF (fun s9 => t.testBit s9 && decide (bb s9 = nI y)) n) else 0) (-4) n oo else oo) oo) K F kn nZ dZ tZ dayZ alZ ndZ bbZ ooZ KZ FZ knZ ke so zz el qk qf H) (XS.up hA (B + 100) hi n d (on1 (oN (xs (i + 1)) d) (fun y => bif al.testBit y then sdf t (bif al.testBit y then ruR t nd n 9 (orF (fun s9 => t.testBit s9 && decide (bb s9 = nI y)) n) else 0) else t) t) day (on1 (oN (xs (i + 1)) d) (fun y => bif al.testBit y then sdf al (2 ^ y) else al) al) nd (on1 (oN (xs (i + 1)) d) (fun y => bif al.testBit y then faB (bif al.testBit y then ruR t nd n 9 (orF (fun s9 => t.testBit s9 && decide (bb s9 = nI y)) n) else 0) (-4) n bb else bb) bb) (on1 (oN (xs (i + 1)) d) (fun y => bif al.testBit y then faB (bif al.testBit y then ruR t nd n 9 (orF (fun s9 => t.testBit s9 && decide (bb s9 = nI y)) n) else 0) (-4) n oo else oo) oo) K F kn nZ dZ tZ dayZ alZ ndZ bbZ ooZ KZ FZ knZ ke so zz el qk qf) hC (xs (i + 1))) (cwV 1 htl gL_law_X12_die rfl rfl rfl (by decide +kernel) ⟨Nat.le_of_ble_eq_true rfl, Nat.le_of_ble_eq_true rfl⟩) (preV_R hCX (mt_recv hK hMT) ⟨hXS, hMT⟩) rfl rfl hl.1 rfl (lv_room (Nat.le_of_ble_eq_true rfl)) dL_law_403 ⟨by show _ ≤ 903060; omega, by show _ ≤ 6386924; omega⟩) hS (fun q _ h => h) (fun q h => h) (fun r2 u2 T9 H1 locs hT9 hvm2 hw2 hB8 hz1 hk1 hS => ?_)
  obtain ⟨hXS, hMT⟩ := hB8
  rw [hT9] at hXS hMT
  refine lv_icmp_eq (tgt := 1223) hx hb dL_law_406 (by decide) (fun _ => ?_) (fun z9 => absurd (hw.trans hw2.symm) z9)
  refine W.widen (k := cells + 20) (n := slots + 220) (by omega) (by omega) ?_
  exact kk _ _ ls ⟨_, _, _, _, _, _, _, _, _, _, _, _, _, _, _, _, _, _, _, _, _, _, _, _, _, _, _, _, _, hXS, hMT⟩ hS hl
