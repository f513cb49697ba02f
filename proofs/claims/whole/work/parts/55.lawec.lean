set_option maxHeartbeats 4000000 in
set_option maxRecDepth 100000 in
theorem u_X12_copy_f (l : Launch) (dC : Nat → ClassId) (dI : Nat → Nat → Nat) (cI cD cR : ClassId) (cL : ClassId) (ad : Nat → Nat) (s0 B : Nat) (hA : AdD ad s0) (hB : B ≤ 60000) (hi : Bool) (n d t day al : Nat) (nd : Nat → Nat) (bb oo : Nat → Int32) (K F kn : Nat → Nat) (nZ dZ tZ dayZ alZ : Nat) (ndZ : Nat → Nat) (bbZ ooZ : Nat → Int32) (KZ FZ knZ : Nat → Nat) (ke so zz : Nat → Nat) (el qk qf : Nat → Int32) (X : Heap → Prop) (hX : XK ad X) (hC : CiI B n d t day al nd bb oo K F kn nZ dZ tZ dayZ alZ ndZ bbZ ooZ KZ FZ knZ ke so zz qk qf) (v1 : Int32) (v2 : Int32) (v3 : Int32) (v4 : Int32) (v5 : Int32) (hno : ∀ y1 y2, v1 = nI y1 → v3 = nI y2 → y1 < 8 → y2 < 8 → ke y1 = 2 → ke y2 = 2 → so y1 = so y2 → cpK (zz y1) (zz y2) v2 v4 v5 = false) : Met l yX12_copy wsX12_copy ({ frames := 9, cells := 0, slots := 0, locals := 340 }) (pcR dC dI cI cD cR [.ref (ad 25), .int v1, .int v2, .int v3, .int v4, .int v5] (fun H => X H ∧ MT dC dI cI cL ad hi n d t day al nd bb oo K F kn nZ dZ tZ dayZ alZ ndZ bbZ ooZ KZ FZ knZ ke so zz el qk qf H)) (LQ s0 ((on1 (oN v1 8) (fun y1 => on1 (oN v3 8) (fun y2 => if ke y1 = 0 ∨ ke y2 = 0 then -11 else if ke y1 = 2 ∧ ke y2 = 2 ∧ so y1 = so y2 then -13 else -12) (-1)) (-1))) (fun H => X H ∧ MT dC dI cI cL ad hi n d t day al nd bb oo K F kn nZ dZ tZ dayZ alZ ndZ bbZ ooZ KZ FZ knZ ke so zz el qk qf H)) 0 0 (fun q => s0 ≤ q) := by
  refine met_cs (fun a s hs => ?_)
  obtain ⟨rfl, ⟨hXs, hM9⟩, hCX⟩ := hs
  have hM8 := hM9
  obtain ⟨th, ov, po, ba, en, se, nR, dR, tR, dayR, alR, ndR, bbR, ooR, KR, FR, knR, nM, dM, tM, dayM, alM, ndM, bbM, ooM, KM, FM, knM, nu, fe, ea, pr, hP⟩ := hM8
  have hC9 := hC
  obtain ⟨hWS, hWZ, hB1, hB2, gzz, gso, gke2, gkk⟩ := hC9
  have hn := hWS.1
  have hd := hWS.2.1
  have ht := ws_t9 hWS
  have hal : al < 64 := Nat.lt_of_lt_of_le hWS.2.2.2.1 (Nat.pow_le_pow_right (by decide) hd)
  have hday : day < 2 ^ 30 := by omega
  have gnd := hWS.2.2.2.2.1
  have gK := hWS.2.2.2.2.2.2.1
  have gF := hWS.2.2.2.2.2.2.2.1
  have gkn := hWS.2.2.2.2.2.2.2.2.1
  have hE : (MW cI cL ad hi th po ba en se n d t day al nd bb oo K F kn nZ dZ tZ dayZ alZ ndZ bbZ ooZ KZ FZ knZ nR dR tR dayR alR ndR bbR ooR KR FR knR nM dM tM dayM alM ndM bbM ooM KM FM knM ke so zz el qk qf nu fe ea pr ov).map Prod.fst = adL ad 25 16 := MW_ad cI cL ad hi th po ba en se n d t day al nd bb oo K F kn nZ dZ tZ dayZ alZ ndZ bbZ ooZ KZ FZ knZ nR dR tR dayR alR ndR bbR ooR KR FR knR nM dM tM dayM alM ndM bbM ooM KM FM knM ke so zz el qk qf nu fe ea pr ov
  have hPc := hP.sub (ws' := [((ad 25), .inr (12, [.ref (ad 26), .ref (ad 27), .ref (ad 28), .ref (ad 29), .ref (ad 30), .ref (ad 31), .ref (ad 32), .ref (ad 33), .ref (ad 34), .ref (ad 35), .int (bI hi), .int th, .int (nI po), .int (nI ba), .int (nI en), .ref (ad 36), .ref (ad 37), .ref (ad 38), .ref (ad 39), .int se]))] ++ [((ad 30), .inl (cI, 8, .inl (nF ke)))] ++ [((ad 31), .inl (cI, 8, .inl (nF so)))] ++ [((ad 32), .inl (cI, 8, .inl (nF zz)))]) [0, 5, 6, 7] rfl
  refine ⟨_, _, _, _, _, _, c_X12_copy_f l dC dI cI cD cR (ad 25) (ad 26) (ad 27) (ad 28) (ad 29) (ad 30) (ad 31) (ad 32) (ad 33) (ad 34) (ad 35) hi th po ba en (ad 36) (ad 37) (ad 38) (ad 39) se ke so zz v1 v2 v3 v4 v5 gzz gso gke2 hno, ⟨by decide, by decide, by first | decide | exact Nat.zero_le _, by first | decide | exact Nat.zero_le _⟩, ⟨Nat.zero_le _, Nat.zero_le _⟩, ⟨rfl, hPc, hCX⟩, ?_, fun q hq => hq.elim⟩
  rintro o t ⟨r, ho, hr, hh⟩
  exact ⟨⟨r, (), ho, hr, by first | (rw [hh]; exact ⟨hXs, hM9⟩) | (simp only [hh]; exact ⟨hXs, hM9⟩)⟩, by rw [hh]; exact Nat.le_refl _, fun q _ _ => by rw [hh]⟩
set_option maxHeartbeats 4000000 in
set_option maxRecDepth 100000 in
theorem u_X12_copy (l : Launch) (dC : Nat → ClassId) (dI : Nat → Nat → Nat) (cI cD cR : ClassId) (cL : ClassId) (ad : Nat → Nat) (s0 B : Nat) (hA : AdD ad s0) (hB : B ≤ 60000) (hi : Bool) (n d t day al : Nat) (nd : Nat → Nat) (bb oo : Nat → Int32) (K F kn : Nat → Nat) (nZ dZ tZ dayZ alZ : Nat) (ndZ : Nat → Nat) (bbZ ooZ : Nat → Int32) (KZ FZ knZ : Nat → Nat) (ke so zz : Nat → Nat) (el qk qf : Nat → Int32) (X : Heap → Prop) (hX : XK ad X) (hC : CiI B n d t day al nd bb oo K F kn nZ dZ tZ dayZ alZ ndZ bbZ ooZ KZ FZ knZ ke so zz qk qf) (v1 v2 v3 v4 v5 : Int32) (hzz9 : ∀ j, zz j ≤ 100) : Met l yX12_copy wsX12_copy ({ frames := 9, cells := 0, slots := 0, locals := 340 }) (pcR dC dI cI cD cR [.ref (ad 25), .int v1, .int v2, .int v3, .int v4, .int v5] (fun H => X H ∧ MT dC dI cI cL ad hi n d t day al nd bb oo K F kn nZ dZ tZ dayZ alZ ndZ bbZ ooZ KZ FZ knZ ke so zz el qk qf H)) (LQ s0 (bif okI v1 8 && (okI v3 8 && (decide (ke (nT v1) = 2 ∧ ke (nT v3) = 2 ∧ so (nT v1) = so (nT v3)) && cpK (zz (nT v1)) (zz (nT v3)) v2 v4 v5)) then v5 else on1 (oN v1 8) (fun y1 => on1 (oN v3 8) (fun y2 => if ke y1 = 0 ∨ ke y2 = 0 then -11 else if ke y1 = 2 ∧ ke y2 = 2 ∧ so y1 = so y2 then -13 else -12) (-1)) (-1)) (fun H => X H ∧ MT dC dI cI cL ad hi n d t day al nd bb oo K F kn nZ dZ tZ dayZ alZ ndZ bbZ ooZ KZ FZ knZ ke so zz (bif okI v1 8 && (okI v3 8 && (decide (ke (nT v1) = 2 ∧ ke (nT v3) = 2 ∧ so (nT v1) = so (nT v3)) && cpK (zz (nT v1)) (zz (nT v3)) v2 v4 v5)) then cpE el (100 * nT v1 + nT v2) (100 * nT v3 + nT v4) (nT v5) else el) qk qf H)) 0 0 (fun q => s0 ≤ q) := by
  cases hc : okI v1 8 && (okI v3 8 && (decide (ke (nT v1) = 2 ∧ ke (nT v3) = 2 ∧ so (nT v1) = so (nT v3)) && cpK (zz (nT v1)) (zz (nT v3)) v2 v4 v5))
  · refine u_X12_copy_f l dC dI cI cD cR cL ad s0 B hA hB hi n d t day al nd bb oo K F kn nZ dZ tZ dayZ alZ ndZ bbZ ooZ KZ FZ knZ ke so zz el qk qf X hX hC v1 v2 v3 v4 v5 (fun y1 y2 e1 e2 h1 h2 a1 a2 a3 => ?_)
    subst e1; subst e2
    rw [okI_nI (by omega) (by decide), decide_eq_true h1, okI_nI (by omega) (by decide), decide_eq_true h2, nT_nI (by omega), nT_nI (by omega), decide_eq_true ⟨a1, a2, a3⟩] at hc
    exact hc
  · simp only [Bool.and_eq_true] at hc
    obtain ⟨c1, c2, c3, c4⟩ := hc
    obtain ⟨y1, h1, rfl⟩ := okI_ex (by decide) c1
    obtain ⟨y2, h2, rfl⟩ := okI_ex (by decide) c2
    rw [nT_nI (show y1 < 2 ^ 31 by omega), nT_nI (show y2 < 2 ^ 31 by omega)] at c3 c4; rw [nT_nI (show y1 < 2 ^ 31 by omega), nT_nI (show y2 < 2 ^ 31 by omega)]
    obtain ⟨a1, a2, a3⟩ := of_decide_eq_true c3
    obtain ⟨i, j, n9, rfl, rfl, rfl, hi9, hj9⟩ := cp_nat (hzz9 y1) (hzz9 y2) c4
    have hz1 := hzz9 y1; have hz2 := hzz9 y2
    rw [nT_nI (show i < 2 ^ 31 by omega), nT_nI (show j < 2 ^ 31 by omega), nT_nI (show n9 < 2 ^ 31 by omega)]
    exact u_X12_copy_t l dC dI cI cD cR cL ad s0 B hA hB hi n d t day al nd bb oo K F kn nZ dZ tZ dayZ alZ ndZ bbZ ooZ KZ FZ knZ ke so zz el qk qf X hX hC y1 i y2 j n9 h1 h2 a1 a2 a3 hi9 hj9
set_option maxHeartbeats 4000000 in
set_option maxRecDepth 100000 in
theorem u_X11_school_go (l : Launch) (dC : Nat → ClassId) (dI : Nat → Nat → Nat) (cI cD cR : ClassId) (ad : Nat → Nat) (s0 B : Nat) (hA : AdD ad s0) (hB : B ≤ 60000) (hi : Bool) (n d t day al : Nat) (nd : Nat → Nat) (bb oo : Nat → Int32) (K F kn : Nat → Nat) (nZ dZ tZ dayZ alZ : Nat) (ndZ : Nat → Nat) (bbZ ooZ : Nat → Int32) (KZ FZ knZ : Nat → Nat) (ke so zz : Nat → Nat) (el qk qf : Nat → Int32) (Y : Heap → Prop) (hY : YK ad Y) (v1 : Nat) (hy9 : v1 < 8) (hke9 : ke v1 = 2) (hso9 : so v1 = 0) (hok9 : fbE (hrG el (100 * v1) (zz v1)) (zz v1) 101 0 = none) : Met l yX11_school wsX11_school ({ frames := 9, cells := 7, slots := 14, locals := 340 }) (pcR dC dI cI cD cR [.ref (ad 0), .int (nI v1)] (fun H => XS dC dI cI cD cR ad s0 B hi n d t day al nd bb oo K F kn nZ dZ tZ dayZ alZ ndZ bbZ ooZ KZ FZ knZ ke so zz el qk qf H ∧ Y H)) (LQ s0 (scR (hrG el (100 * v1) (zz v1)) (zz v1) (n, d, t, day, al, nd, bb, oo, K, F, kn)) (fun H => XS dC dI cI cD cR ad s0 (B + 100) hi ((scU (hrG el (100 * v1) (zz v1)) (zz v1) (n, d, t, day, al, nd, bb, oo, K, F, kn)).1) ((scU (hrG el (100 * v1) (zz v1)) (zz v1) (n, d, t, day, al, nd, bb, oo, K, F, kn)).2.1) ((scU (hrG el (100 * v1) (zz v1)) (zz v1) (n, d, t, day, al, nd, bb, oo, K, F, kn)).2.2.1) ((scU (hrG el (100 * v1) (zz v1)) (zz v1) (n, d, t, day, al, nd, bb, oo, K, F, kn)).2.2.2.1) ((scU (hrG el (100 * v1) (zz v1)) (zz v1) (n, d, t, day, al, nd, bb, oo, K, F, kn)).2.2.2.2.1) ((scU (hrG el (100 * v1) (zz v1)) (zz v1) (n, d, t, day, al, nd, bb, oo, K, F, kn)).2.2.2.2.2.1) ((scU (hrG el (100 * v1) (zz v1)) (zz v1) (n, d, t, day, al, nd, bb, oo, K, F, kn)).2.2.2.2.2.2.1) ((scU (hrG el (100 * v1) (zz v1)) (zz v1) (n, d, t, day, al, nd, bb, oo, K, F, kn)).2.2.2.2.2.2.2.1) ((scU (hrG el (100 * v1) (zz v1)) (zz v1) (n, d, t, day, al, nd, bb, oo, K, F, kn)).2.2.2.2.2.2.2.2.1) ((scU (hrG el (100 * v1) (zz v1)) (zz v1) (n, d, t, day, al, nd, bb, oo, K, F, kn)).2.2.2.2.2.2.2.2.2.1) ((scU (hrG el (100 * v1) (zz v1)) (zz v1) (n, d, t, day, al, nd, bb, oo, K, F, kn)).2.2.2.2.2.2.2.2.2.2) nZ dZ tZ dayZ alZ ndZ bbZ ooZ KZ FZ knZ ke so zz el qk qf H ∧ Y H)) 7 14 (fun q => s0 ≤ q) := by
  refine met_cs (fun a s hs => ?_)
  obtain ⟨rfl, ⟨hX9, hYs⟩, hCX⟩ := hs
  have hX8 := hX9
  obtain ⟨hC, mk, si, mb, nM, dM, tM, dayM, alM, ndM, mkM, siM, knM, mbM, mkP, siP, mbP, sa, lk, ef, le, dm, rm, DL, kd, fg, RL, rc, rs, rz, rf, hP, hDP, hRP, hO, hRS, hRZ, hSH, hef, hlt⟩ := hX8
  have hC9 := hC
  obtain ⟨hWS, hWZ, hB1, hB2, gzz, gso, gke2, gkk⟩ := hC9
  have hn := hWS.1
  have hd := hWS.2.1
  have ht := ws_t9 hWS
  have hal : al < 64 := Nat.lt_of_lt_of_le hWS.2.2.2.1 (Nat.pow_le_pow_right (by decide) hd)
  have hday : day < 2 ^ 30 := by omega
  have gnd := hWS.2.2.2.2.1
  have gK := hWS.2.2.2.2.2.2.1
  have gF := hWS.2.2.2.2.2.2.2.1
  have gkn := hWS.2.2.2.2.2.2.2.2.1
  obtain ⟨r9, hrm_r9, -, hso_r9, hzz_r9, hel_r9⟩ := hSH.ke2 hy9 hke9
  have hTX := tx_of hel_r9
  have hok8 : fbE (atR (rz r9) (rf r9)) (rz r9) 101 0 = none := by rw [tx_fb hTX 101 0, ← hzz_r9]; exact hok9
  have hE : (XW cI cD cR ad hi n d t day al nd mk si kn mb nM dM tM dayM alM ndM mkM siM knM mbM nZ dZ tZ dayZ alZ ndZ mkP siP knZ mbP sa lk ef le dm rm).map Prod.fst = adL ad 0 25 := rfl
  have hz := s0_le hA hP hE (by omega) (by omega)
  have hR_r9 := hSH.2.1 _ _ hrm_r9
  obtain ⟨hPr_r9, hs3_r9, hz9_r9⟩ := hRP r9 hR_r9
  obtain ⟨ha_r9, hb_r9, hc_r9⟩ := hO.2.1 r9 hR_r9
  have hDr : va_D (fun _ => True) ([(r9, .inr (8, [.int (nI (rs r9)), .ref (rc r9)])), (rc r9, .inl (cI, rz r9, .inl (rf r9)))]) := row_D (hO.2.2.2.1 r9 hR_r9 r9 hR_r9)
  have hPr : va_P (dC, dI) vwCl ([(r9, .inr (8, [.int (nI (rs r9)), .ref (rc r9)])), (rc r9, .inl (cI, rz r9, .inl (rf r9)))]) s.heap := hPr_r9
  have hDw := D_app (ws := XW cI cD cR ad hi n d t day al nd mk si kn mb nM dM tM dayM alM ndM mkM siM knM mbM nZ dZ tZ dayZ alZ ndZ mkP siP knZ mbP sa lk ef le dm rm) hA hE (by omega) hDr (fun x hx j hj => by
    rcases List.mem_cons.mp hx with rfl | hx
    · exact (ha_r9 j hj).1
    · rcases List.mem_singleton.mp hx with rfl
      exact (ha_r9 j hj).2)
  have hPw := hP.app hPr
  have hPc := hPw.sub (ws' := [((ad 0), .inr (11, [.ref (ad 1), .ref (ad 7), .ref (ad 13), .int (bI hi), .ref (ad 19), .ref (ad 23), .ref (ad 24)]))] ++ (schW cI cD (ad 1) (ad 2) (ad 3) (ad 4) (ad 5) (ad 6) n d t al day nd mk si kn mb) ++ (schW cI cD (ad 7) (ad 8) (ad 9) (ad 10) (ad 11) (ad 12) nM dM tM alM dayM ndM mkM siM knM mbM) ++ [((ad 24), .inl (cR, 8, .inr (.inr (.inr (.inr rm)))))] ++ [(r9, .inr (8, [.int (nI (rs r9)), .ref (rc r9)])), (rc r9, .inl (cI, rz r9, .inl (rf r9)))]) [0, 1, 2, 3, 4, 5, 6, 7, 8, 9, 10, 11, 12, 24, 25, 26] rfl
  have hDc := hDw.sub (ws' := [((ad 0), .inr (11, [.ref (ad 1), .ref (ad 7), .ref (ad 13), .int (bI hi), .ref (ad 19), .ref (ad 23), .ref (ad 24)]))] ++ (schW cI cD (ad 1) (ad 2) (ad 3) (ad 4) (ad 5) (ad 6) n d t al day nd mk si kn mb) ++ (schW cI cD (ad 7) (ad 8) (ad 9) (ad 10) (ad 11) (ad 12) nM dM tM alM dayM ndM mkM siM knM mbM) ++ [((ad 24), .inl (cR, 8, .inr (.inr (.inr (.inr rm)))))] ++ [(r9, .inr (8, [.int (nI (rs r9)), .ref (rc r9)])), (rc r9, .inl (cI, rz r9, .inl (rf r9)))]) [0, 1, 2, 3, 4, 5, 6, 7, 8, 9, 10, 11, 12, 24, 25, 26] (by decide) rfl
  have k_gro : ∀ a9 ∈ DL, ¬ va_A ([((ad 0), .inr (11, [.ref (ad 1), .ref (ad 7), .ref (ad 13), .int (bI hi), .ref (ad 19), .ref (ad 23), .ref (ad 24)]))] ++ (schW cI cD (ad 1) (ad 2) (ad 3) (ad 4) (ad 5) (ad 6) n d t al day nd mk si kn mb) ++ (schW cI cD (ad 7) (ad 8) (ad 9) (ad 10) (ad 11) (ad 12) nM dM tM alM dayM ndM mkM siM knM mbM) ++ [((ad 24), .inl (cR, 8, .inr (.inr (.inr (.inr rm)))))] ++ [(r9, .inr (8, [.int (nI (rs r9)), .ref (rc r9)])), (rc r9, .inl (cI, rz r9, .inl (rf r9)))]) s.heap.size a9 := fun a9 ha9 => by
    rintro (⟨i9, z9, hi9⟩ | hz8)
    · obtain ⟨j9, hj9⟩ := ws_in (ws := (XW cI cD cR ad hi n d t day al nd mk si kn mb nM dM tM dayM alM ndM mkM siM knM mbM nZ dZ tZ dayZ alZ ndZ mkP siP knZ mbP sa lk ef le dm rm) ++ ([(r9, .inr (8, [.int (nI (rs r9)), .ref (rc r9)])), (rc r9, .inl (cI, rz r9, .inl (rf r9)))])) [0, 1, 2, 3, 4, 5, 6, 7, 8, 9, 10, 11, 12, 24, 25, 26] rfl hi9
      rcases List.mem_append.mp (List.mem_of_getElem? hj9) with h8 | hx
      · obtain ⟨j2, hj2⟩ := List.getElem?_of_mem h8
        obtain ⟨a1, a2⟩ := ws_at hE hj2
        exact hO.1 a9 ha9 (0 + j2) (by omega) a2
      · generalize hx9 : (a9, z9) = x at hx
        have hxa : a9 = x.1 := by rw [← hx9]
        rcases List.mem_cons.mp hx with rfl | hx
        · exact (hO.2.2.2.2 a9 ha9 r9 hR_r9).1 hxa
        · rcases List.mem_singleton.mp hx with rfl
          exact (hO.2.2.2.2 a9 ha9 r9 hR_r9).2 hxa
    · have := hDP.lt ha9; omega
  refine ⟨_, _, _, _, _, _, c_X11_school_go l dC dI cI cD cR (ad 0) (ad 1) (ad 7) (ad 13) hi (ad 19) (ad 23) (ad 24) (ad 2) (ad 3) (ad 4) (ad 5) (ad 6) n d t al day nd mk si kn mb (ad 8) (ad 9) (ad 10) (ad 11) (ad 12) nM dM tM alM dayM ndM mkM siM knM mbM rm r9 (rc r9) (rs r9) (rz r9) (rf r9) v1 bb oo K F DL kd fg s.heap.size hn hd ht hal hday gnd gkn hRS.gmb hRS.2.2.2 hRS.gms hy9 hrm_r9 hs3_r9 (by omega) hz9_r9 hok8 hRS hWS (by omega) (fun a9 ha9 => k_gro a9 ha9), ⟨by decide, by decide, by first | decide | (dsimp only; omega), by first | decide | (dsimp only; omega)⟩, ⟨by first | decide | omega, by first | decide | omega⟩, ⟨rfl, ⟨rfl, hPc, hDc, hDP⟩, hCX⟩, ?_, free_row (ws := XW cI cD cR ad hi n d t day al nd mk si kn mb nM dM tM dayM alM ndM mkM siM knM mbM nZ dZ tZ dayZ alZ ndZ mkP siP knZ mbP sa lk ef le dm rm) (rw9 := [(r9, .inr (8, [.int (nI (rs r9)), .ref (rc r9)])), (rc r9, .inl (cI, rz r9, .inl (rf r9)))]) hA (by omega) hE [0, 1, 2, 3, 4, 5, 6, 7, 8, 9, 10, 11, 12, 24, 25, 26] rfl hz (fun x hx => by
    rcases List.mem_cons.mp hx with rfl | hx
    · exact hb_r9
    · rcases List.mem_singleton.mp hx with rfl
      exact hc_r9)⟩
  rintro o T8 ⟨⟨r, ⟨eN9, eD9, eT9, eAl9, eDay9, eNd9, eMk9, eSi9, eKn9, eMb9, nM9, dM9, tM9, alM9, dayM9, ndM9, mkM9, siM9, knM9, mbM9, DL9, kd9, fg9, bb9, oo9, K9, F9⟩, ho, hr, hP1, hD1, hfx0, hfx1, hfx2, hfx3, hfx4, hfx5, hfx6⟩, hF⟩
  have hP1 : va_P (dC, dI) vwCl ([((ad 0), .inr (11, [.ref (ad 1), .ref (ad 7), .ref (ad 13), .int (bI hi), .ref (ad 19), .ref (ad 23), .ref (ad 24)]))] ++ (schW cI cD (ad 1) (ad 2) (ad 3) (ad 4) (ad 5) (ad 6) eN9 eD9 eT9 eAl9 eDay9 eNd9 eMk9 eSi9 eKn9 eMb9) ++ (schW cI cD (ad 7) (ad 8) (ad 9) (ad 10) (ad 11) (ad 12) nM9 dM9 tM9 alM9 dayM9 ndM9 mkM9 siM9 knM9 mbM9) ++ [((ad 24), .inl (cR, 8, .inr (.inr (.inr (.inr rm)))))] ++ [(r9, .inr (8, [.int (nI (rs r9)), .ref (rc r9)])), (rc r9, .inl (cI, rz r9, .inl (rf r9)))]) T8.heap := hP1
  have hfr0 := fr_row (ws := XW cI cD cR ad hi n d t day al nd mk si kn mb nM dM tM dayM alM ndM mkM siM knM mbM nZ dZ tZ dayZ alZ ndZ mkP siP knZ mbP sa lk ef le dm rm) (rw9 := [(r9, .inr (8, [.int (nI (rs r9)), .ref (rc r9)])), (rc r9, .inl (cI, rz r9, .inl (rf r9)))]) hE [0, 1, 2, 3, 4, 5, 6, 7, 8, 9, 10, 11, 12, 24, 25, 26] rfl hF
  have hfr : ∀ q : Nat, q < s.heap.size → (∀ j, 0 ≤ j → j < 0 + 25 → q ≠ ad j) → q ≠ r9 → q ≠ rc r9 → T8.heap[q]? = s.heap[q]? := fun q hq h1 g1_r9 g2_r9 => hfr0 q hq h1 (fun x hx => by
    rcases List.mem_cons.mp hx with rfl | hx
    · exact g1_r9
    · rcases List.mem_singleton.mp hx with rfl
      exact g2_r9)
  obtain ⟨hP2, -⟩ := va_join (wr := (schW cI cD (ad 13) (ad 14) (ad 15) (ad 16) (ad 17) (ad 18) nZ dZ tZ alZ dayZ ndZ mkP siP knZ mbP) ++ (forW cI (ad 19) (ad 20) (ad 21) (ad 22) sa lk ef le) ++ [((ad 23), .inl (cD, 8, .inr (.inr (.inr (.inr dm)))))]) (w1 := [((ad 0), .inr (11, [.ref (ad 1), .ref (ad 7), .ref (ad 13), .int (bI hi), .ref (ad 19), .ref (ad 23), .ref (ad 24)]))] ++ (schW cI cD (ad 1) (ad 2) (ad 3) (ad 4) (ad 5) (ad 6) eN9 eD9 eT9 eAl9 eDay9 eNd9 eMk9 eSi9 eKn9 eMb9) ++ (schW cI cD (ad 7) (ad 8) (ad 9) (ad 10) (ad 11) (ad 12) nM9 dM9 tM9 alM9 dayM9 ndM9 mkM9 siM9 knM9 mbM9) ++ [((ad 24), .inl (cR, 8, .inr (.inr (.inr (.inr rm)))))] ++ [(r9, .inr (8, [.int (nI (rs r9)), .ref (rc r9)])), (rc r9, .inl (cI, rz r9, .inl (rf r9)))]) hPw hDw [0, 1, 2, 3, 4, 5, 6, 7, 8, 9, 10, 11, 12, 24, 25, 26] [13, 14, 15, 16, 17, 18, 19, 20, 21, 22, 23] rfl rfl (by decide) (by decide) hF.2 (fun _ _ => trivial) hP1 hD1
  have hP3 := hP2.sub (ws' := XW cI cD cR ad hi eN9 eD9 eT9 eDay9 eAl9 eNd9 eMk9 eSi9 eKn9 eMb9 nM9 dM9 tM9 dayM9 alM9 ndM9 mkM9 siM9 knM9 mbM9 nZ dZ tZ dayZ alZ ndZ mkP siP knZ mbP sa lk ef le dm rm) [11, 12, 13, 14, 15, 16, 17, 18, 19, 20, 21, 22, 23, 0, 1, 2, 3, 4, 5, 6, 7, 8, 9, 10, 24] rfl
  have hQ_r9 := hP2.sub (ws' := [(r9, .inr (8, [.int (nI (rs r9)), .ref (rc r9)])), (rc r9, .inl (cI, rz r9, .inl (rf r9)))]) [25, 26] rfl
  clear hP1 hD1 hP2 hPw hDw hPc hDc hPr hDr
  have hU : (eN9, eD9, eT9, eDay9, eAl9, eNd9, bb9, oo9, K9, F9, eKn9) = scU (hrG el (100 * v1) (zz v1)) (zz v1) (n, d, t, day, al, nd, bb, oo, K, F, kn) := by rw [hfx2, tx_U hTX, ← hzz_r9]
  rw [← hU]
  have k_rp : RP dC dI cI RL rc rs rz rf T8.heap := rp_k hRP (fun x hx => by
    by_cases e1 : x = r9
    · subst e1; left; exact hQ_r9
    · right; exact ⟨rfl, hfr x (hRP.lt1 hx) (fun j9 _ hj9 => ((hO.2.1 x hx).1 j9 (by omega)).1) e1 (hO.2.2.2.1 x hx r9 hR_r9), hfr (rc x) (hRP.lt2 hx) (fun j9 _ hj9 => ((hO.2.1 x hx).1 j9 (by omega)).2) (fun z9 => hO.2.2.2.1 r9 hR_r9 x hx z9.symm) (fun z9 => e1 (hO.2.2.1 x hx r9 hR_r9 z9))⟩)
  exact ⟨⟨r, (), ho, hr.trans (by rw [tx_R hTX, ← hzz_r9]), ⟨⟨hfx1, hWZ, (Nat.le_trans hfx3 (by omega)), (by omega), gzz, gso, gke2, gkk⟩, eMk9, eSi9, eMb9, nM9, dM9, tM9, dayM9, alM9, ndM9, mkM9, siM9, knM9, mbM9, mkP, siP, mbP, sa, lk, ef, le, dm, rm, DL9, kd9, fg9, RL, rc, rs, rz, rf, hP3, hfx4, k_rp, (po_dl hO hfx5 hlt (fun r8 hr8 => ⟨hRP.lt1 hr8, hRP.lt2 hr8⟩)), hfx0, (rs_dl hRZ hfx6), (sh_dl hSH hfx6), hef, fun j9 hj9 => Nat.lt_of_lt_of_le (hlt j9 hj9) hF.1⟩, hY _ _ hYs hF.1 (fun q hq hx => by obtain ⟨i9, g1, g2, g3⟩ := hx; exact hfr q hq (fun j9 h8 h9 z9 => by have := hA.1 i9 j9 g2 (by omega) (g3.symm.trans z9); omega) (fun z9 => (ha_r9 i9 g2).1 (z9.symm.trans g3)) (fun z9 => (ha_r9 i9 g2).2 (z9.symm.trans g3)))⟩, hF.1, fun q hq hno => hfr q hq (fun j9 _ hj9 z9 => hno (by rw [z9]; exact hA.2 j9 (by omega))) (fun z9 => hno (by rw [z9]; exact hb_r9)) (fun z9 => hno (by rw [z9]; exact hc_r9))⟩
set_option maxHeartbeats 4000000 in
set_option maxRecDepth 100000 in
theorem u_X11_school_f (l : Launch) (dC : Nat → ClassId) (dI : Nat → Nat → Nat) (cI cD cR : ClassId) (ad : Nat → Nat) (s0 B : Nat) (hA : AdD ad s0) (hB : B ≤ 60000) (hi : Bool) (n d t day al : Nat) (nd : Nat → Nat) (bb oo : Nat → Int32) (K F kn : Nat → Nat) (nZ dZ tZ dayZ alZ : Nat) (ndZ : Nat → Nat) (bbZ ooZ : Nat → Int32) (KZ FZ knZ : Nat → Nat) (ke so zz : Nat → Nat) (el qk qf : Nat → Int32) (Y : Heap → Prop) (hY : YK ad Y) (v1 : Int32) (hno9 : ∀ y, v1 = nI y → y < 8 → wrR ke so y = 0 → ¬ fbE (hrG el (100 * y) (zz y)) (zz y) 101 0 = none) : Met l yX11_school wsX11_school ({ frames := 9, cells := 7, slots := 14, locals := 340 }) (pcR dC dI cI cD cR [.ref (ad 0), .int v1] (fun H => XS dC dI cI cD cR ad s0 B hi n d t day al nd bb oo K F kn nZ dZ tZ dayZ alZ ndZ bbZ ooZ KZ FZ knZ ke so zz el qk qf H ∧ Y H)) (LQ s0 (on1 (oN v1 8) (fun y9 => if wrR ke so y9 = 0 then (match fbE (hrG el (100 * y9) (zz y9)) (zz y9) 101 0 with | none => 0 | some p => -1000 - nI p) else wrR ke so y9) (-1)) (fun H => XS dC dI cI cD cR ad s0 (B + 100) hi n d t day al nd bb oo K F kn nZ dZ tZ dayZ alZ ndZ bbZ ooZ KZ FZ knZ ke so zz el qk qf H ∧ Y H)) 7 14 (fun q => s0 ≤ q) := by
  refine met_cs (fun a s hs => ?_)
  obtain ⟨rfl, ⟨hX9, hYs⟩, hCX⟩ := hs
  have hX8 := hX9
  obtain ⟨hC, mk, si, mb, nM, dM, tM, dayM, alM, ndM, mkM, siM, knM, mbM, mkP, siP, mbP, sa, lk, ef, le, dm, rm, DL, kd, fg, RL, rc, rs, rz, rf, hP, hDP, hRP, hO, hRS, hRZ, hSH, hef, hlt⟩ := hX8
  have hC9 := hC
  obtain ⟨hWS, hWZ, hB1, hB2, gzz, gso, gke2, gkk⟩ := hC9
  have hn := hWS.1
  have hd := hWS.2.1
  have ht := ws_t9 hWS
  have hal : al < 64 := Nat.lt_of_lt_of_le hWS.2.2.2.1 (Nat.pow_le_pow_right (by decide) hd)
  have hday : day < 2 ^ 30 := by omega
  have gnd := hWS.2.2.2.2.1
  have gK := hWS.2.2.2.2.2.2.1
  have gF := hWS.2.2.2.2.2.2.2.1
  have gkn := hWS.2.2.2.2.2.2.2.2.1
  have hkk : ∀ a9 ∈ DL, kd a9 < 8 ∧ fg a9 < 10 := fun a9 ha9 => (hDP a9 ha9).2
  have hno : ∀ y r9, v1 = nI y → y < 8 → rm y = some r9 → rs r9 = 0 → ¬ fbE (atR (rz r9) (rf r9)) (rz r9) 101 0 = none := fun y r9 e hy hr9 h0 h1 => by
    obtain ⟨a1, -, a3, a4, a5⟩ := hSH.row hy hr9
    refine hno9 y e hy (by unfold wrR; rw [if_neg (by omega), if_pos a1, if_pos (by rw [a3]; exact h0)]) ?_
    rw [a4, ← tx_fb (tx_of a5) 101 0]
    exact h1
  have hE : (XW cI cD cR ad hi n d t day al nd mk si kn mb nM dM tM dayM alM ndM mkM siM knM mbM nZ dZ tZ dayZ alZ ndZ mkP siP knZ mbP sa lk ef le dm rm).map Prod.fst = adL ad 0 25 := rfl
  have hPc := hP.sub (ws' := [((ad 0), .inr (11, [.ref (ad 1), .ref (ad 7), .ref (ad 13), .int (bI hi), .ref (ad 19), .ref (ad 23), .ref (ad 24)]))] ++ [((ad 23), .inl (cD, 8, .inr (.inr (.inr (.inr dm)))))] ++ [((ad 24), .inl (cR, 8, .inr (.inr (.inr (.inr rm)))))]) [0, 23, 24] rfl
  refine ⟨_, _, _, _, _, _, c_X11_school_f l dC dI cI cD cR (ad 0) (ad 1) (ad 7) (ad 13) hi (ad 19) (ad 23) (ad 24) dm rm v1 RL rc rs rz rf hSH.2.1 hno, ⟨by decide, by decide, by first | decide | exact Nat.zero_le _, by first | decide | exact Nat.zero_le _⟩, ⟨Nat.zero_le _, Nat.zero_le _⟩, ⟨rfl, ⟨hPc, hRP⟩, hCX⟩, ?_, fun q hq => hq.elim⟩
  rintro o t ⟨r, ho, hr, hh⟩
  exact ⟨⟨r, (), ho, hr.trans (r_schf hSH _), by first | (rw [hh]; exact ⟨hX9.mono (by omega), hYs⟩) | (simp only [hh]; exact ⟨hX9.mono (by omega), hYs⟩)⟩, by rw [hh]; exact Nat.le_refl _, fun q _ _ => by rw [hh]⟩
set_option maxHeartbeats 4000000 in
set_option maxRecDepth 100000 in
theorem u_X11_school (l : Launch) (dC : Nat → ClassId) (dI : Nat → Nat → Nat) (cI cD cR : ClassId) (ad : Nat → Nat) (s0 B : Nat) (hA : AdD ad s0) (hB : B ≤ 60000) (hi : Bool) (n d t day al : Nat) (nd : Nat → Nat) (bb oo : Nat → Int32) (K F kn : Nat → Nat) (nZ dZ tZ dayZ alZ : Nat) (ndZ : Nat → Nat) (bbZ ooZ : Nat → Int32) (KZ FZ knZ : Nat → Nat) (ke so zz : Nat → Nat) (el qk qf : Nat → Int32) (Y : Heap → Prop) (hY : YK ad Y) (v1 : Int32) : Met l yX11_school wsX11_school ({ frames := 9, cells := 7, slots := 14, locals := 340 }) (pcR dC dI cI cD cR [.ref (ad 0), .int v1] (fun H => XS dC dI cI cD cR ad s0 B hi n d t day al nd bb oo K F kn nZ dZ tZ dayZ alZ ndZ bbZ ooZ KZ FZ knZ ke so zz el qk qf H ∧ Y H)) (LQ s0 (bif okI v1 8 && (decide (wrR ke so (nT v1) = 0) && (fbE (hrG el (100 * nT v1) (zz (nT v1))) (zz (nT v1)) 101 0).isNone) then scR (hrG el (100 * nT v1) (zz (nT v1))) (zz (nT v1)) (n, d, t, day, al, nd, bb, oo, K, F, kn) else on1 (oN v1 8) (fun y9 => if wrR ke so y9 = 0 then (match fbE (hrG el (100 * y9) (zz y9)) (zz y9) 101 0 with | none => 0 | some p => -1000 - nI p) else wrR ke so y9) (-1)) (fun H => XS dC dI cI cD cR ad s0 (B + 100) hi (bif okI v1 8 && (decide (wrR ke so (nT v1) = 0) && (fbE (hrG el (100 * nT v1) (zz (nT v1))) (zz (nT v1)) 101 0).isNone) then (scU (hrG el (100 * nT v1) (zz (nT v1))) (zz (nT v1)) (n, d, t, day, al, nd, bb, oo, K, F, kn)).1 else n) (bif okI v1 8 && (decide (wrR ke so (nT v1) = 0) && (fbE (hrG el (100 * nT v1) (zz (nT v1))) (zz (nT v1)) 101 0).isNone) then (scU (hrG el (100 * nT v1) (zz (nT v1))) (zz (nT v1)) (n, d, t, day, al, nd, bb, oo, K, F, kn)).2.1 else d) (bif okI v1 8 && (decide (wrR ke so (nT v1) = 0) && (fbE (hrG el (100 * nT v1) (zz (nT v1))) (zz (nT v1)) 101 0).isNone) then (scU (hrG el (100 * nT v1) (zz (nT v1))) (zz (nT v1)) (n, d, t, day, al, nd, bb, oo, K, F, kn)).2.2.1 else t) (bif okI v1 8 && (decide (wrR ke so (nT v1) = 0) && (fbE (hrG el (100 * nT v1) (zz (nT v1))) (zz (nT v1)) 101 0).isNone) then (scU (hrG el (100 * nT v1) (zz (nT v1))) (zz (nT v1)) (n, d, t, day, al, nd, bb, oo, K, F, kn)).2.2.2.1 else day) (bif okI v1 8 && (decide (wrR ke so (nT v1) = 0) && (fbE (hrG el (100 * nT v1) (zz (nT v1))) (zz (nT v1)) 101 0).isNone) then (scU (hrG el (100 * nT v1) (zz (nT v1))) (zz (nT v1)) (n, d, t, day, al, nd, bb, oo, K, F, kn)).2.2.2.2.1 else al) (bif okI v1 8 && (decide (wrR ke so (nT v1) = 0) && (fbE (hrG el (100 * nT v1) (zz (nT v1))) (zz (nT v1)) 101 0).isNone) then (scU (hrG el (100 * nT v1) (zz (nT v1))) (zz (nT v1)) (n, d, t, day, al, nd, bb, oo, K, F, kn)).2.2.2.2.2.1 else nd) (bif okI v1 8 && (decide (wrR ke so (nT v1) = 0) && (fbE (hrG el (100 * nT v1) (zz (nT v1))) (zz (nT v1)) 101 0).isNone) then (scU (hrG el (100 * nT v1) (zz (nT v1))) (zz (nT v1)) (n, d, t, day, al, nd, bb, oo, K, F, kn)).2.2.2.2.2.2.1 else bb) (bif okI v1 8 && (decide (wrR ke so (nT v1) = 0) && (fbE (hrG el (100 * nT v1) (zz (nT v1))) (zz (nT v1)) 101 0).isNone) then (scU (hrG el (100 * nT v1) (zz (nT v1))) (zz (nT v1)) (n, d, t, day, al, nd, bb, oo, K, F, kn)).2.2.2.2.2.2.2.1 else oo) (bif okI v1 8 && (decide (wrR ke so (nT v1) = 0) && (fbE (hrG el (100 * nT v1) (zz (nT v1))) (zz (nT v1)) 101 0).isNone) then (scU (hrG el (100 * nT v1) (zz (nT v1))) (zz (nT v1)) (n, d, t, day, al, nd, bb, oo, K, F, kn)).2.2.2.2.2.2.2.2.1 else K) (bif okI v1 8 && (decide (wrR ke so (nT v1) = 0) && (fbE (hrG el (100 * nT v1) (zz (nT v1))) (zz (nT v1)) 101 0).isNone) then (scU (hrG el (100 * nT v1) (zz (nT v1))) (zz (nT v1)) (n, d, t, day, al, nd, bb, oo, K, F, kn)).2.2.2.2.2.2.2.2.2.1 else F) (bif okI v1 8 && (decide (wrR ke so (nT v1) = 0) && (fbE (hrG el (100 * nT v1) (zz (nT v1))) (zz (nT v1)) 101 0).isNone) then (scU (hrG el (100 * nT v1) (zz (nT v1))) (zz (nT v1)) (n, d, t, day, al, nd, bb, oo, K, F, kn)).2.2.2.2.2.2.2.2.2.2 else kn) nZ dZ tZ dayZ alZ ndZ bbZ ooZ KZ FZ knZ ke so zz el qk qf H ∧ Y H)) 7 14 (fun q => s0 ≤ q) := by
  rcases okI_or v1 (n := 8) (by decide) with q1 | ⟨y, hy, rfl⟩
  · have hf := u_X11_school_f l dC dI cI cD cR ad s0 B hA hB hi n d t day al nd bb oo K F kn nZ dZ tZ dayZ alZ ndZ bbZ ooZ KZ FZ knZ ke so zz el qk qf Y hY v1 (fun y e hy => by subst e; rw [okI_nI (by omega) (by decide)] at q1; exact absurd hy (of_decide_eq_false q1))
    rw [oN_f q1] at hf ⊢; rw [q1]; exact hf
  · have hy9 : ∀ y2, nI y = nI y2 → y2 < 8 → y = y2 := fun y2 e h2 => (nI_eq (by omega) (by omega)).mp e
    rw [oN_t hy, okI_nI (by omega) (by decide), decide_eq_true hy, Bool.true_and, nT_nI (by omega), on1_s]
    by_cases hw : wrR ke so y = 0
    · rw [decide_eq_true hw, Bool.true_and, if_pos hw]
      cases hfb : fbE (hrG el (100 * y) (zz y)) (zz y) 101 0 with
      | none =>
        obtain ⟨hk, hs⟩ := wr_0 hw
        exact u_X11_school_go l dC dI cI cD cR ad s0 B hA hB hi n d t day al nd bb oo K F kn nZ dZ tZ dayZ alZ ndZ bbZ ooZ KZ FZ knZ ke so zz el qk qf Y hY y hy hk hs hfb
      | some pb9 =>
        have hf := u_X11_school_f l dC dI cI cD cR ad s0 B hA hB hi n d t day al nd bb oo K F kn nZ dZ tZ dayZ alZ ndZ bbZ ooZ KZ FZ knZ ke so zz el qk qf Y hY (nI y) (fun y2 e h2 h3 h4 => by rw [← hy9 y2 e h2, hfb] at h4; cases h4)
        rw [oN_t hy, on1_s, if_pos hw, hfb] at hf; exact hf
    · rw [decide_eq_false hw, Bool.false_and, if_neg hw]
      have hf := u_X11_school_f l dC dI cI cD cR ad s0 B hA hB hi n d t day al nd bb oo K F kn nZ dZ tZ dayZ alZ ndZ bbZ ooZ KZ FZ knZ ke so zz el qk qf Y hY (nI y) (fun y2 e h2 h3 h4 => by rw [← hy9 y2 e h2] at h3; exact hw h3)
      rw [oN_t hy, on1_s, if_neg hw] at hf; exact hf
set_option maxHeartbeats 4000000 in
set_option maxRecDepth 100000 in
theorem u_X12_school_n (l : Launch) (dC : Nat → ClassId) (dI : Nat → Nat → Nat) (cI cD cR : ClassId) (cL : ClassId) (ad : Nat → Nat) (s0 B : Nat) (hA : AdD ad s0) (hB : B ≤ 60000) (hi : Bool) (n d t day al : Nat) (nd : Nat → Nat) (bb oo : Nat → Int32) (K F kn : Nat → Nat) (nZ dZ tZ dayZ alZ : Nat) (ndZ : Nat → Nat) (bbZ ooZ : Nat → Int32) (KZ FZ knZ : Nat → Nat) (ke so zz : Nat → Nat) (el qk qf : Nat → Int32) (X : Heap → Prop) (hX : XK ad X) (hC : CiI B n d t day al nd bb oo K F kn nZ dZ tZ dayZ alZ ndZ bbZ ooZ KZ FZ knZ ke so zz qk qf) (v1 : Int32) (hb9 : okI v1 8 = false) : Met l yX12_school wsX12_school ({ frames := 9, cells := 0, slots := 0, locals := 340 }) (pcR dC dI cI cD cR [.ref (ad 25), .int v1] (fun H => X H ∧ MT dC dI cI cL ad hi n d t day al nd bb oo K F kn nZ dZ tZ dayZ alZ ndZ bbZ ooZ KZ FZ knZ ke so zz el qk qf H)) (LQ s0 ((-1)) (fun H => X H ∧ MT dC dI cI cL ad hi n d t day al nd bb oo K F kn nZ dZ tZ dayZ alZ ndZ bbZ ooZ KZ FZ knZ ke so zz el qk qf H)) 0 0 (fun q => s0 ≤ q) := by
  refine met_cs (fun a s hs => ?_)
  obtain ⟨rfl, ⟨hXs, hM9⟩, hCX⟩ := hs
  have hM8 := hM9
  obtain ⟨th, ov, po, ba, en, se, nR, dR, tR, dayR, alR, ndR, bbR, ooR, KR, FR, knR, nM, dM, tM, dayM, alM, ndM, bbM, ooM, KM, FM, knM, nu, fe, ea, pr, hP⟩ := hM8
  have hC9 := hC
  obtain ⟨hWS, hWZ, hB1, hB2, gzz, gso, gke2, gkk⟩ := hC9
  have hn := hWS.1
  have hd := hWS.2.1
  have ht := ws_t9 hWS
  have hal : al < 64 := Nat.lt_of_lt_of_le hWS.2.2.2.1 (Nat.pow_le_pow_right (by decide) hd)
  have hday : day < 2 ^ 30 := by omega
  have gnd := hWS.2.2.2.2.1
  have gK := hWS.2.2.2.2.2.2.1
  have gF := hWS.2.2.2.2.2.2.2.1
  have gkn := hWS.2.2.2.2.2.2.2.2.1
  have hE : (MW cI cL ad hi th po ba en se n d t day al nd bb oo K F kn nZ dZ tZ dayZ alZ ndZ bbZ ooZ KZ FZ knZ nR dR tR dayR alR ndR bbR ooR KR FR knR nM dM tM dayM alM ndM bbM ooM KM FM knM ke so zz el qk qf nu fe ea pr ov).map Prod.fst = adL ad 25 16 := MW_ad cI cL ad hi th po ba en se n d t day al nd bb oo K F kn nZ dZ tZ dayZ alZ ndZ bbZ ooZ KZ FZ knZ nR dR tR dayR alR ndR bbR ooR KR FR knR nM dM tM dayM alM ndM bbM ooM KM FM knM ke so zz el qk qf nu fe ea pr ov
  have hPc := hP.sub (ws' := [((ad 25), .inr (12, [.ref (ad 26), .ref (ad 27), .ref (ad 28), .ref (ad 29), .ref (ad 30), .ref (ad 31), .ref (ad 32), .ref (ad 33), .ref (ad 34), .ref (ad 35), .int (bI hi), .int th, .int (nI po), .int (nI ba), .int (nI en), .ref (ad 36), .ref (ad 37), .ref (ad 38), .ref (ad 39), .int se]))] ++ [((ad 30), .inl (cI, 8, .inl (nF ke)))] ++ [((ad 31), .inl (cI, 8, .inl (nF so)))]) [0, 5, 6] rfl
  refine ⟨_, _, _, _, _, _, c_X12_school_f l dC dI cI cD cR (ad 25) (ad 26) (ad 27) (ad 28) (ad 29) (ad 30) (ad 31) (ad 32) (ad 33) (ad 34) (ad 35) hi th po ba en (ad 36) (ad 37) (ad 38) (ad 39) se ke so v1 hb9, ⟨by decide, by decide, by first | decide | exact Nat.zero_le _, by first | decide | exact Nat.zero_le _⟩, ⟨Nat.zero_le _, Nat.zero_le _⟩, ⟨rfl, hPc, hCX⟩, ?_, fun q hq => hq.elim⟩
  rintro o t ⟨r, ho, hr, hh⟩
  exact ⟨⟨r, (), ho, hr, by first | (rw [hh]; exact ⟨hXs, hM9⟩) | (simp only [hh]; exact ⟨hXs, hM9⟩)⟩, by rw [hh]; exact Nat.le_refl _, fun q _ _ => by rw [hh]⟩
set_option maxHeartbeats 4000000 in
set_option maxRecDepth 100000 in
theorem u_X12_school_w (l : Launch) (dC : Nat → ClassId) (dI : Nat → Nat → Nat) (cI cD cR : ClassId) (cL : ClassId) (ad : Nat → Nat) (s0 B : Nat) (hA : AdD ad s0) (hB : B ≤ 60000) (hi : Bool) (n d t day al : Nat) (nd : Nat → Nat) (bb oo : Nat → Int32) (K F kn : Nat → Nat) (nZ dZ tZ dayZ alZ : Nat) (ndZ : Nat → Nat) (bbZ ooZ : Nat → Int32) (KZ FZ knZ : Nat → Nat) (ke so zz : Nat → Nat) (el qk qf : Nat → Int32) (X : Heap → Prop) (hX : XK ad X) (hC : CiI B n d t day al nd bb oo K F kn nZ dZ tZ dayZ alZ ndZ bbZ ooZ KZ FZ knZ ke so zz qk qf) (v1 : Nat) (hy9 : v1 < 8) (hw8 : ¬ wrR ke so v1 = 0) : Met l yX12_school wsX12_school ({ frames := 9, cells := 0, slots := 0, locals := 340 }) (pcR dC dI cI cD cR [.ref (ad 25), .int (nI v1)] (fun H => X H ∧ MT dC dI cI cL ad hi n d t day al nd bb oo K F kn nZ dZ tZ dayZ alZ ndZ bbZ ooZ KZ FZ knZ ke so zz el qk qf H)) (LQ s0 ((wrR ke so v1)) (fun H => X H ∧ MT dC dI cI cL ad hi n d t day al nd bb oo K F kn nZ dZ tZ dayZ alZ ndZ bbZ ooZ KZ FZ knZ ke so zz el qk qf H)) 0 0 (fun q => s0 ≤ q) := by
  refine met_cs (fun a s hs => ?_)
  obtain ⟨rfl, ⟨hXs, hM9⟩, hCX⟩ := hs
  have hM8 := hM9
  obtain ⟨th, ov, po, ba, en, se, nR, dR, tR, dayR, alR, ndR, bbR, ooR, KR, FR, knR, nM, dM, tM, dayM, alM, ndM, bbM, ooM, KM, FM, knM, nu, fe, ea, pr, hP⟩ := hM8
  have hC9 := hC
  obtain ⟨hWS, hWZ, hB1, hB2, gzz, gso, gke2, gkk⟩ := hC9
  have hn := hWS.1
  have hd := hWS.2.1
  have ht := ws_t9 hWS
  have hal : al < 64 := Nat.lt_of_lt_of_le hWS.2.2.2.1 (Nat.pow_le_pow_right (by decide) hd)
  have hday : day < 2 ^ 30 := by omega
  have gnd := hWS.2.2.2.2.1
  have gK := hWS.2.2.2.2.2.2.1
  have gF := hWS.2.2.2.2.2.2.2.1
  have gkn := hWS.2.2.2.2.2.2.2.2.1
  have hE : (MW cI cL ad hi th po ba en se n d t day al nd bb oo K F kn nZ dZ tZ dayZ alZ ndZ bbZ ooZ KZ FZ knZ nR dR tR dayR alR ndR bbR ooR KR FR knR nM dM tM dayM alM ndM bbM ooM KM FM knM ke so zz el qk qf nu fe ea pr ov).map Prod.fst = adL ad 25 16 := MW_ad cI cL ad hi th po ba en se n d t day al nd bb oo K F kn nZ dZ tZ dayZ alZ ndZ bbZ ooZ KZ FZ knZ nR dR tR dayR alR ndR bbR ooR KR FR knR nM dM tM dayM alM ndM bbM ooM KM FM knM ke so zz el qk qf nu fe ea pr ov
  have hPc := hP.sub (ws' := [((ad 25), .inr (12, [.ref (ad 26), .ref (ad 27), .ref (ad 28), .ref (ad 29), .ref (ad 30), .ref (ad 31), .ref (ad 32), .ref (ad 33), .ref (ad 34), .ref (ad 35), .int (bI hi), .int th, .int (nI po), .int (nI ba), .int (nI en), .ref (ad 36), .ref (ad 37), .ref (ad 38), .ref (ad 39), .int se]))] ++ [((ad 30), .inl (cI, 8, .inl (nF ke)))] ++ [((ad 31), .inl (cI, 8, .inl (nF so)))] ++ [((ad 32), .inl (cI, 8, .inl (nF zz)))]) [0, 5, 6, 7] rfl
  refine ⟨_, _, _, _, _, _, c_X12_school_w l dC dI cI cD cR (ad 25) (ad 26) (ad 27) (ad 28) (ad 29) (ad 30) (ad 31) (ad 32) (ad 33) (ad 34) (ad 35) hi th po ba en (ad 36) (ad 37) (ad 38) (ad 39) se ke so zz v1 hy9 gzz gso gke2 hw8, ⟨by decide, by decide, by first | decide | exact Nat.zero_le _, by first | decide | exact Nat.zero_le _⟩, ⟨Nat.zero_le _, Nat.zero_le _⟩, ⟨rfl, hPc, hCX⟩, ?_, fun q hq => hq.elim⟩
  rintro o t ⟨r, ho, hr, hh⟩
  exact ⟨⟨r, (), ho, hr, by first | (rw [hh]; exact ⟨hXs, hM9⟩) | (simp only [hh]; exact ⟨hXs, hM9⟩)⟩, by rw [hh]; exact Nat.le_refl _, fun q _ _ => by rw [hh]⟩
set_option maxHeartbeats 4000000 in
set_option maxRecDepth 100000 in
theorem u_X12_school_b (l : Launch) (dC : Nat → ClassId) (dI : Nat → Nat → Nat) (cI cD cR : ClassId) (cL : ClassId) (ad : Nat → Nat) (s0 B : Nat) (hA : AdD ad s0) (hB : B ≤ 60000) (hi : Bool) (n d t day al : Nat) (nd : Nat → Nat) (bb oo : Nat → Int32) (K F kn : Nat → Nat) (nZ dZ tZ dayZ alZ : Nat) (ndZ : Nat → Nat) (bbZ ooZ : Nat → Int32) (KZ FZ knZ : Nat → Nat) (ke so zz : Nat → Nat) (el qk qf : Nat → Int32) (X : Heap → Prop) (hX : XK ad X) (hC : CiI B n d t day al nd bb oo K F kn nZ dZ tZ dayZ alZ ndZ bbZ ooZ KZ FZ knZ ke so zz qk qf) (v1 : Nat) (pb9 : Nat) (hy9 : v1 < 8) (hw8 : wrR ke so v1 = 0) (hbad : fbE (hrG el (100 * v1) (zz v1)) (zz v1) 101 0 = some pb9) : Met l yX12_school wsX12_school ({ frames := 9, cells := 0, slots := 0, locals := 340 }) (pcR dC dI cI cD cR [.ref (ad 25), .int (nI v1)] (fun H => X H ∧ MT dC dI cI cL ad hi n d t day al nd bb oo K F kn nZ dZ tZ dayZ alZ ndZ bbZ ooZ KZ FZ knZ ke so zz el qk qf H)) (LQ s0 (((-1000) - nI pb9)) (fun H => X H ∧ MT dC dI cI cL ad hi n d t day al nd bb oo K F kn nZ dZ tZ dayZ alZ ndZ bbZ ooZ KZ FZ knZ ke so zz el qk qf H)) 0 0 (fun q => s0 ≤ q) := by
  refine met_cs (fun a s hs => ?_)
  obtain ⟨rfl, ⟨hXs, hM9⟩, hCX⟩ := hs
  have hM8 := hM9
  obtain ⟨th, ov, po, ba, en, se, nR, dR, tR, dayR, alR, ndR, bbR, ooR, KR, FR, knR, nM, dM, tM, dayM, alM, ndM, bbM, ooM, KM, FM, knM, nu, fe, ea, pr, hP⟩ := hM8
  have hC9 := hC
  obtain ⟨hWS, hWZ, hB1, hB2, gzz, gso, gke2, gkk⟩ := hC9
  have hn := hWS.1
  have hd := hWS.2.1
  have ht := ws_t9 hWS
  have hal : al < 64 := Nat.lt_of_lt_of_le hWS.2.2.2.1 (Nat.pow_le_pow_right (by decide) hd)
  have hday : day < 2 ^ 30 := by omega
  have gnd := hWS.2.2.2.2.1
  have gK := hWS.2.2.2.2.2.2.1
  have gF := hWS.2.2.2.2.2.2.2.1
  have gkn := hWS.2.2.2.2.2.2.2.2.1
  have hE : (MW cI cL ad hi th po ba en se n d t day al nd bb oo K F kn nZ dZ tZ dayZ alZ ndZ bbZ ooZ KZ FZ knZ nR dR tR dayR alR ndR bbR ooR KR FR knR nM dM tM dayM alM ndM bbM ooM KM FM knM ke so zz el qk qf nu fe ea pr ov).map Prod.fst = adL ad 25 16 := MW_ad cI cL ad hi th po ba en se n d t day al nd bb oo K F kn nZ dZ tZ dayZ alZ ndZ bbZ ooZ KZ FZ knZ nR dR tR dayR alR ndR bbR ooR KR FR knR nM dM tM dayM alM ndM bbM ooM KM FM knM ke so zz el qk qf nu fe ea pr ov
  have hPc := hP.sub (ws' := [((ad 25), .inr (12, [.ref (ad 26), .ref (ad 27), .ref (ad 28), .ref (ad 29), .ref (ad 30), .ref (ad 31), .ref (ad 32), .ref (ad 33), .ref (ad 34), .ref (ad 35), .int (bI hi), .int th, .int (nI po), .int (nI ba), .int (nI en), .ref (ad 36), .ref (ad 37), .ref (ad 38), .ref (ad 39), .int se]))] ++ [((ad 26), .inl (cI, 53, .inl (sF n d t day al nd bb oo K F kn)))] ++ [((ad 28), .inl (cI, 53, .inl (sF nR dR tR dayR alR ndR bbR ooR KR FR knR)))] ++ [((ad 30), .inl (cI, 8, .inl (nF ke)))] ++ [((ad 31), .inl (cI, 8, .inl (nF so)))] ++ [((ad 32), .inl (cI, 8, .inl (nF zz)))] ++ [((ad 33), .inl (cI, 800, .inl el))] ++ [((ad 36), .inl (cI, 2, .inl nu))]) [0, 1, 3, 5, 6, 7, 8, 11] rfl
  have hD := ws_D hA hE (by omega)
  have hz := s0_le hA hP hE (by omega) (by omega)
  have hDc := hD.sub (ws' := [((ad 25), .inr (12, [.ref (ad 26), .ref (ad 27), .ref (ad 28), .ref (ad 29), .ref (ad 30), .ref (ad 31), .ref (ad 32), .ref (ad 33), .ref (ad 34), .ref (ad 35), .int (bI hi), .int th, .int (nI po), .int (nI ba), .int (nI en), .ref (ad 36), .ref (ad 37), .ref (ad 38), .ref (ad 39), .int se]))] ++ [((ad 26), .inl (cI, 53, .inl (sF n d t day al nd bb oo K F kn)))] ++ [((ad 28), .inl (cI, 53, .inl (sF nR dR tR dayR alR ndR bbR ooR KR FR knR)))] ++ [((ad 30), .inl (cI, 8, .inl (nF ke)))] ++ [((ad 31), .inl (cI, 8, .inl (nF so)))] ++ [((ad 32), .inl (cI, 8, .inl (nF zz)))] ++ [((ad 33), .inl (cI, 800, .inl el))] ++ [((ad 36), .inl (cI, 2, .inl nu))]) [0, 1, 3, 5, 6, 7, 8, 11] (by decide) rfl
  refine ⟨_, _, _, _, _, _, c_X12_school_b l dC dI cI cD cR (ad 25) (ad 26) (ad 27) (ad 28) (ad 29) (ad 30) (ad 31) (ad 32) (ad 33) (ad 34) (ad 35) hi th po ba en (ad 36) (ad 37) (ad 38) (ad 39) se n d t day al nd bb oo K F kn nR dR tR dayR alR ndR bbR ooR KR FR knR ke so zz el nu v1 pb9 s.heap.size hy9 gzz gso gke2 hw8 hbad, ⟨by decide, by decide, by first | decide | (dsimp only; omega), by first | decide | (dsimp only; omega)⟩, ⟨by first | decide | (dsimp only; omega) | omega, by first | decide | (dsimp only; omega) | omega⟩, ⟨rfl, ⟨rfl, hPc, hDc⟩, hCX⟩, ?_, free_of hA (by omega) hE [0, 1, 3, 5, 6, 7, 8, 11] rfl hz⟩
  rintro o T8 ⟨⟨r, nuX9, ho, hr, hP1, hD1⟩, hF⟩
  have hP1 : va_P (dC, dI) vwCl ([((ad 25), .inr (12, [.ref (ad 26), .ref (ad 27), .ref (ad 28), .ref (ad 29), .ref (ad 30), .ref (ad 31), .ref (ad 32), .ref (ad 33), .ref (ad 34), .ref (ad 35), .int (bI hi), .int th, .int (nI pb9), .int (nI (100 * v1)), .int (nI (zz v1)), .ref (ad 36), .ref (ad 37), .ref (ad 38), .ref (ad 39), .int se]))] ++ [((ad 26), .inl (cI, 53, .inl (sF n d t day al nd bb oo K F kn)))] ++ [((ad 28), .inl (cI, 53, .inl (sF nR dR tR dayR alR ndR bbR ooR KR FR knR)))] ++ [((ad 30), .inl (cI, 8, .inl (nF ke)))] ++ [((ad 31), .inl (cI, 8, .inl (nF so)))] ++ [((ad 32), .inl (cI, 8, .inl (nF zz)))] ++ [((ad 33), .inl (cI, 800, .inl el))] ++ [((ad 36), .inl (cI, 2, .inl nuX9))]) T8.heap := hP1
  have hfr := fr_of hE [0, 1, 3, 5, 6, 7, 8, 11] rfl hF
  obtain ⟨hP2, -⟩ := va_join (wr := [((ad 27), .inl (cI, 53, .inl (sF nZ dZ tZ dayZ alZ ndZ bbZ ooZ KZ FZ knZ))), ((ad 29), .inl (cI, 53, .inl (sF nM dM tM dayM alM ndM bbM ooM KM FM knM))), ((ad 34), .inl (cI, 8, .inl qk)), ((ad 35), .inl (cI, 8, .inl qf)), ((ad 37), .inl (cI, 512, .inl (oF fe))), ((ad 38), .inl (cI, 512, .inl (oF ea))), ((ad 39), .inl (cI, 512, .inl (oF pr))), (ad 40, .inl (cL, 1, .inr (.inl ov)))]) (w1 := [((ad 25), .inr (12, [.ref (ad 26), .ref (ad 27), .ref (ad 28), .ref (ad 29), .ref (ad 30), .ref (ad 31), .ref (ad 32), .ref (ad 33), .ref (ad 34), .ref (ad 35), .int (bI hi), .int th, .int (nI pb9), .int (nI (100 * v1)), .int (nI (zz v1)), .ref (ad 36), .ref (ad 37), .ref (ad 38), .ref (ad 39), .int se]))] ++ [((ad 26), .inl (cI, 53, .inl (sF n d t day al nd bb oo K F kn)))] ++ [((ad 28), .inl (cI, 53, .inl (sF nR dR tR dayR alR ndR bbR ooR KR FR knR)))] ++ [((ad 30), .inl (cI, 8, .inl (nF ke)))] ++ [((ad 31), .inl (cI, 8, .inl (nF so)))] ++ [((ad 32), .inl (cI, 8, .inl (nF zz)))] ++ [((ad 33), .inl (cI, 800, .inl el))] ++ [((ad 36), .inl (cI, 2, .inl nuX9))]) hP hD [0, 1, 3, 5, 6, 7, 8, 11] [2, 4, 9, 10, 12, 13, 14, 15] rfl rfl (by decide) (by decide) hF.2 (fun _ _ => trivial) hP1 hD1
  have hP3 := hP2.sub (ws' := MW cI cL ad hi th pb9 (100 * v1) (zz v1) se n d t day al nd bb oo K F kn nZ dZ tZ dayZ alZ ndZ bbZ ooZ KZ FZ knZ nR dR tR dayR alR ndR bbR ooR KR FR knR nM dM tM dayM alM ndM bbM ooM KM FM knM ke so zz el qk qf nuX9 fe ea pr ov) [8, 9, 0, 10, 1, 11, 12, 13, 14, 2, 3, 15, 4, 5, 6, 7] rfl
  clear hP1 hD1 hP2
  exact ⟨⟨r, (), ho, hr, hX _ _ hXs hF.1 (fun q hq hx => hfr q hq (fun j9 h8 h9 => hx j9 h8 (by omega))), th, ov, pb9, 100 * v1, zz v1, se, nR, dR, tR, dayR, alR, ndR, bbR, ooR, KR, FR, knR, nM, dM, tM, dayM, alM, ndM, bbM, ooM, KM, FM, knM, nuX9, fe, ea, pr, hP3⟩, hF.1, fun q hq hno => hfr q hq (fun j9 _ hj9 z9 => hno (by rw [z9]; exact hA.2 j9 (by omega)))⟩
