/-- an end with a long -/
abbrev LQl (s0 : Nat) (v : Int64) (P : Heap → Prop) : Array Value → State → Outcome → State → Prop := va_Ql (fun r (_ : Unit) => r = v) (fun _ T9 => P T9.heap) (fun q => s0 ≤ q)
set_option maxHeartbeats 4000000 in
set_option maxRecDepth 100000 in
theorem u_X11_toss (l : Launch) (dC : Nat → ClassId) (dI : Nat → Nat → Nat) (cI cD cR : ClassId) (ad : Nat → Nat) (s0 B : Nat) (hA : AdD ad s0) (hB : B ≤ 60000) (hi : Bool) (n d t day al : Nat) (nd : Nat → Nat) (bb oo : Nat → Int32) (K F kn : Nat → Nat) (nZ dZ tZ dayZ alZ : Nat) (ndZ : Nat → Nat) (bbZ ooZ : Nat → Int32) (KZ FZ knZ : Nat → Nat) (ke so zz : Nat → Nat) (el qk qf : Nat → Int32) (Y : Heap → Prop) (hY : YK ad Y) (hl0 : l.stackTraces = false) (sa9 : Nat → Nat) (v1 : Int32) : vx_Met l yX11_toss wsX11_toss ({ frames := 9, cells := 1, slots := 6, locals := 340 }) (pcX dC dI cI cD cR [.ref (ad 0), .int v1] (fun H => XS dC dI cI cD cR ad s0 B hi n d t day al nd bb oo K F kn nZ dZ tZ dayZ alZ ndZ bbZ ooZ KZ FZ knZ ke so zz el qk qf H ∧ Y H) sa9 (fun q => s0 ≤ q)) (LQ s0 ((on1 (oN v1 8) (fun y9 => if wkR ke y9 = 0 then tossR (nT (qk y9)) (nT (qf y9)) else wkR ke y9) (-1))) (fun H => XS dC dI cI cD cR ad s0 (B + 100) hi n d t day al nd bb oo K F kn nZ dZ tZ dayZ alZ ndZ bbZ ooZ KZ FZ knZ ke so zz el qk qf H ∧ Y H)) (vx_X (fun (_ : Unit) => False) (fun _ _ _ => False) (fun q => s0 ≤ q)) 1 6 (fun q => s0 ≤ q) := by
  refine vx_cs (fun a s hs => ?_)
  obtain ⟨rfl, ⟨hX9, hYs⟩, hCX, hVX⟩ := hs
  have hX8 := hX9
  obtain ⟨hC, mk, si, mb, nM, dM, tM, dayM, alM, ndM, mkM, siM, knM, mbM, mkP, siP, mbP, sa, lk, ef, le, dm, rm, DL, kd, fg, RL, rc, rs, rz, rf, hP, hDP, hRP, hO, hRS, hRZ, hSH, hef, hlt⟩ := hX8
  have hC9 := hC
  obtain ⟨hWS, hWZ, hB1, hB2, gzz, gso, gke2, gkk⟩ := hC9
  have hn := hWS.1
  have hd := hWS.2.1
  have ht := ws_t9 hWS
  have hal : al < 64 := Nat.lt_of_lt_of_le hWS.2.2.2.1 (Nat.pow_le_pow_right (by decide) hd)
  have hday : day < 2 ^ 30 := by omega
  have gnd := hWS.2.2.2.2.1
  have gK := hWS.2.2.2.2.2.2.1
  have gF := hWS.2.2.2.2.2.2.2.1
  have gkn := hWS.2.2.2.2.2.2.2.2.1
  have hkk : ∀ a9 ∈ DL, kd a9 < 8 ∧ fg a9 < 10 := fun a9 ha9 => (hDP a9 ha9).2
  have hE : (XW cI cD cR ad hi n d t day al nd mk si kn mb nM dM tM dayM alM ndM mkM siM knM mbM nZ dZ tZ dayZ alZ ndZ mkP siP knZ mbP sa lk ef le dm rm).map Prod.fst = adL ad 0 25 := rfl
  have hz := s0_le hA hP hE (by omega) (by omega)
  have hPc := hP.sub (ws' := [((ad 0), .inr (11, [.ref (ad 1), .ref (ad 7), .ref (ad 13), .int (bI hi), .ref (ad 19), .ref (ad 23), .ref (ad 24)]))] ++ [((ad 23), .inl (cD, 8, .inr (.inr (.inr (.inr dm)))))] ++ [((ad 24), .inl (cR, 8, .inr (.inr (.inr (.inr rm)))))]) [0, 23, 24] rfl
  refine ⟨_, _, _, _, _, _, _, c_X11_toss l hl0 dC dI cI cD cR (ad 0) (ad 1) (ad 7) (ad 13) hi (ad 19) (ad 23) (ad 24) dm rm v1 DL kd fg s.heap.size sa9 hSH.1, ⟨by decide, by decide, by decide, by decide⟩, ⟨by decide, by decide⟩, ⟨rfl, ⟨rfl, hPc, hDP⟩, hCX, hVX.narrow (fun q hq => Nat.le_trans hz hq)⟩, ?_, ?_, fun q hq => Nat.le_trans hz hq⟩
  · rintro o T8 ⟨⟨r, u, ho, hr, -⟩, hF⟩
    exact ⟨⟨r, (), ho, hr.trans (r_toss hSH hkk _), XS.go hA hF.1 (hX9.mono (by omega)) (fun q hq _ => hF.2 q hq (by omega)), hY _ _ hYs hF.1 (fun q hq _ => hF.2 q hq (by omega))⟩, hF.1, fun q hq _ => hF.2 q hq (by omega)⟩
  · rintro E T8 ⟨u, hu, -⟩
    exact hu
set_option maxHeartbeats 4000000 in
set_option maxRecDepth 100000 in
theorem u_X12_toss (l : Launch) (dC : Nat → ClassId) (dI : Nat → Nat → Nat) (cI cD cR : ClassId) (cL : ClassId) (ad : Nat → Nat) (s0 B : Nat) (hA : AdD ad s0) (hB : B ≤ 60000) (hi : Bool) (n d t day al : Nat) (nd : Nat → Nat) (bb oo : Nat → Int32) (K F kn : Nat → Nat) (nZ dZ tZ dayZ alZ : Nat) (ndZ : Nat → Nat) (bbZ ooZ : Nat → Int32) (KZ FZ knZ : Nat → Nat) (ke so zz : Nat → Nat) (el qk qf : Nat → Int32) (X : Heap → Prop) (hX : XK ad X) (hC : CiI B n d t day al nd bb oo K F kn nZ dZ tZ dayZ alZ ndZ bbZ ooZ KZ FZ knZ ke so zz qk qf) (v1 : Int32) : Met l yX12_toss wsX12_toss ({ frames := 9, cells := 0, slots := 0, locals := 340 }) (pcR dC dI cI cD cR [.ref (ad 25), .int v1] (fun H => X H ∧ MT dC dI cI cL ad hi n d t day al nd bb oo K F kn nZ dZ tZ dayZ alZ ndZ bbZ ooZ KZ FZ knZ ke so zz el qk qf H)) (LQ s0 ((on1 (oN v1 8) (fun y9 => if wkR ke y9 = 0 then tossR (nT (qk y9)) (nT (qf y9)) else wkR ke y9) (-1))) (fun H => X H ∧ MT dC dI cI cL ad hi n d t day al nd bb oo K F kn nZ dZ tZ dayZ alZ ndZ bbZ ooZ KZ FZ knZ ke so zz el qk qf H)) 0 0 (fun q => s0 ≤ q) := by
  refine met_cs (fun a s hs => ?_)
  obtain ⟨rfl, ⟨hXs, hM9⟩, hCX⟩ := hs
  have hM8 := hM9
  obtain ⟨th, ov, po, ba, en, se, nR, dR, tR, dayR, alR, ndR, bbR, ooR, KR, FR, knR, nM, dM, tM, dayM, alM, ndM, bbM, ooM, KM, FM, knM, nu, fe, ea, pr, hP⟩ := hM8
  have hC9 := hC
  obtain ⟨hWS, hWZ, hB1, hB2, gzz, gso, gke2, gkk⟩ := hC9
  have hn := hWS.1
  have hd := hWS.2.1
  have ht := ws_t9 hWS
  have hal : al < 64 := Nat.lt_of_lt_of_le hWS.2.2.2.1 (Nat.pow_le_pow_right (by decide) hd)
  have hday : day < 2 ^ 30 := by omega
  have gnd := hWS.2.2.2.2.1
  have gK := hWS.2.2.2.2.2.2.1
  have gF := hWS.2.2.2.2.2.2.2.1
  have gkn := hWS.2.2.2.2.2.2.2.2.1
  have hE : (MW cI cL ad hi th po ba en se n d t day al nd bb oo K F kn nZ dZ tZ dayZ alZ ndZ bbZ ooZ KZ FZ knZ nR dR tR dayR alR ndR bbR ooR KR FR knR nM dM tM dayM alM ndM bbM ooM KM FM knM ke so zz el qk qf nu fe ea pr ov).map Prod.fst = adL ad 25 16 := MW_ad cI cL ad hi th po ba en se n d t day al nd bb oo K F kn nZ dZ tZ dayZ alZ ndZ bbZ ooZ KZ FZ knZ nR dR tR dayR alR ndR bbR ooR KR FR knR nM dM tM dayM alM ndM bbM ooM KM FM knM ke so zz el qk qf nu fe ea pr ov
  have hPc := hP.sub (ws' := [((ad 25), .inr (12, [.ref (ad 26), .ref (ad 27), .ref (ad 28), .ref (ad 29), .ref (ad 30), .ref (ad 31), .ref (ad 32), .ref (ad 33), .ref (ad 34), .ref (ad 35), .int (bI hi), .int th, .int (nI po), .int (nI ba), .int (nI en), .ref (ad 36), .ref (ad 37), .ref (ad 38), .ref (ad 39), .int se]))] ++ [((ad 30), .inl (cI, 8, .inl (nF ke)))] ++ [((ad 34), .inl (cI, 8, .inl qk))] ++ [((ad 35), .inl (cI, 8, .inl qf))]) [0, 5, 9, 10] rfl
  refine ⟨_, _, _, _, _, _, c_X12_toss l dC dI cI cD cR (ad 25) (ad 26) (ad 27) (ad 28) (ad 29) (ad 30) (ad 31) (ad 32) (ad 33) (ad 34) (ad 35) hi th po ba en (ad 36) (ad 37) (ad 38) (ad 39) se ke qk qf v1 gkk gke2, ⟨by decide, by decide, by first | decide | exact Nat.zero_le _, by first | decide | exact Nat.zero_le _⟩, ⟨Nat.zero_le _, Nat.zero_le _⟩, ⟨rfl, hPc, hCX⟩, ?_, fun q hq => hq.elim⟩
  rintro o t ⟨r, ho, hr, hh⟩
  exact ⟨⟨r, (), ho, hr, by first | (rw [hh]; exact ⟨hXs, hM9⟩) | (simp only [hh]; exact ⟨hXs, hM9⟩)⟩, by rw [hh]; exact Nat.le_refl _, fun q _ _ => by rw [hh]⟩
set_option maxHeartbeats 4000000 in
set_option maxRecDepth 100000 in
theorem u_X12_element_t (l : Launch) (dC : Nat → ClassId) (dI : Nat → Nat → Nat) (cI cD cR : ClassId) (cL : ClassId) (ad : Nat → Nat) (s0 B : Nat) (hA : AdD ad s0) (hB : B ≤ 60000) (hi : Bool) (n d t day al : Nat) (nd : Nat → Nat) (bb oo : Nat → Int32) (K F kn : Nat → Nat) (nZ dZ tZ dayZ alZ : Nat) (ndZ : Nat → Nat) (bbZ ooZ : Nat → Int32) (KZ FZ knZ : Nat → Nat) (ke so zz : Nat → Nat) (el qk qf : Nat → Int32) (X : Heap → Prop) (hX : XK ad X) (hC : CiI B n d t day al nd bb oo K F kn nZ dZ tZ dayZ alZ ndZ bbZ ooZ KZ FZ knZ ke so zz qk qf) (v1 : Nat) (v2 : Nat) (hy9 : v1 < 8) (hke9 : ke v1 = 2) (hi9 : v2 < zz v1) (th : Int32) (ov : Nat → Int64) : Met l yX12_element wsX12_element ({ frames := 9, cells := 0, slots := 0, locals := 340 }) (pcR dC dI cI cD cR [.ref (ad 25), .int (nI v1), .int (nI v2)] (fun H => X H ∧ MU dC dI cI cL ad hi n d t day al nd bb oo K F kn nZ dZ tZ dayZ alZ ndZ bbZ ooZ KZ FZ knZ ke so zz el qk qf th ov H)) (LQl s0 ((el (100 * v1 + v2)).toInt64) (fun H => X H ∧ MU dC dI cI cL ad hi n d t day al nd bb oo K F kn nZ dZ tZ dayZ alZ ndZ bbZ ooZ KZ FZ knZ ke so zz el qk qf (nI 0) ov H)) 0 0 (fun q => s0 ≤ q) := by
  refine met_cs (fun a s hs => ?_)
  obtain ⟨rfl, ⟨hXs, hM9⟩, hCX⟩ := hs
  obtain ⟨po, ba, en, se, nR, dR, tR, dayR, alR, ndR, bbR, ooR, KR, FR, knR, nM, dM, tM, dayM, alM, ndM, bbM, ooM, KM, FM, knM, nu, fe, ea, pr, hP⟩ := hM9
  have hC9 := hC
  obtain ⟨hWS, hWZ, hB1, hB2, gzz, gso, gke2, gkk⟩ := hC9
  have hn := hWS.1
  have hd := hWS.2.1
  have ht := ws_t9 hWS
  have hal : al < 64 := Nat.lt_of_lt_of_le hWS.2.2.2.1 (Nat.pow_le_pow_right (by decide) hd)
  have hday : day < 2 ^ 30 := by omega
  have gnd := hWS.2.2.2.2.1
  have gK := hWS.2.2.2.2.2.2.1
  have gF := hWS.2.2.2.2.2.2.2.1
  have gkn := hWS.2.2.2.2.2.2.2.2.1
  have hE : (MW cI cL ad hi th po ba en se n d t day al nd bb oo K F kn nZ dZ tZ dayZ alZ ndZ bbZ ooZ KZ FZ knZ nR dR tR dayR alR ndR bbR ooR KR FR knR nM dM tM dayM alM ndM bbM ooM KM FM knM ke so zz el qk qf nu fe ea pr ov).map Prod.fst = adL ad 25 16 := MW_ad cI cL ad hi th po ba en se n d t day al nd bb oo K F kn nZ dZ tZ dayZ alZ ndZ bbZ ooZ KZ FZ knZ nR dR tR dayR alR ndR bbR ooR KR FR knR nM dM tM dayM alM ndM bbM ooM KM FM knM ke so zz el qk qf nu fe ea pr ov
  have hPc := hP.sub (ws' := [((ad 25), .inr (12, [.ref (ad 26), .ref (ad 27), .ref (ad 28), .ref (ad 29), .ref (ad 30), .ref (ad 31), .ref (ad 32), .ref (ad 33), .ref (ad 34), .ref (ad 35), .int (bI hi), .int th, .int (nI po), .int (nI ba), .int (nI en), .ref (ad 36), .ref (ad 37), .ref (ad 38), .ref (ad 39), .int se]))] ++ [((ad 30), .inl (cI, 8, .inl (nF ke)))] ++ [((ad 32), .inl (cI, 8, .inl (nF zz)))] ++ [((ad 33), .inl (cI, 800, .inl el))]) [0, 5, 7, 8] rfl
  have hD := ws_D hA hE (by omega)
  have hz := s0_le hA hP hE (by omega) (by omega)
  have hDc := hD.sub (ws' := [((ad 25), .inr (12, [.ref (ad 26), .ref (ad 27), .ref (ad 28), .ref (ad 29), .ref (ad 30), .ref (ad 31), .ref (ad 32), .ref (ad 33), .ref (ad 34), .ref (ad 35), .int (bI hi), .int th, .int (nI po), .int (nI ba), .int (nI en), .ref (ad 36), .ref (ad 37), .ref (ad 38), .ref (ad 39), .int se]))] ++ [((ad 30), .inl (cI, 8, .inl (nF ke)))] ++ [((ad 32), .inl (cI, 8, .inl (nF zz)))] ++ [((ad 33), .inl (cI, 800, .inl el))]) [0, 5, 7, 8] (by decide) rfl
  refine ⟨_, _, _, _, _, _, c_X12_element_t l dC dI cI cD cR (ad 25) (ad 26) (ad 27) (ad 28) (ad 29) (ad 30) (ad 31) (ad 32) (ad 33) (ad 34) (ad 35) hi th po ba en (ad 36) (ad 37) (ad 38) (ad 39) se ke zz el v1 v2 s.heap.size hy9 hke9 hi9 gzz gke2, ⟨by decide, by decide, by first | decide | (dsimp only; omega), by first | decide | (dsimp only; omega)⟩, ⟨by first | decide | (dsimp only; omega) | omega, by first | decide | (dsimp only; omega) | omega⟩, ⟨rfl, ⟨rfl, hPc, hDc⟩, hCX⟩, ?_, free_of hA (by omega) hE [0, 5, 7, 8] rfl hz⟩
  rintro o T8 ⟨⟨r, u, ho, hr, hP1, hD1⟩, hF⟩
  have hP1 : va_P (dC, dI) vwCl ([((ad 25), .inr (12, [.ref (ad 26), .ref (ad 27), .ref (ad 28), .ref (ad 29), .ref (ad 30), .ref (ad 31), .ref (ad 32), .ref (ad 33), .ref (ad 34), .ref (ad 35), .int (bI hi), .int (nI 0), .int (nI po), .int (nI ba), .int (nI en), .ref (ad 36), .ref (ad 37), .ref (ad 38), .ref (ad 39), .int se]))] ++ [((ad 30), .inl (cI, 8, .inl (nF ke)))] ++ [((ad 32), .inl (cI, 8, .inl (nF zz)))] ++ [((ad 33), .inl (cI, 800, .inl el))]) T8.heap := hP1
  have hfr := fr_of hE [0, 5, 7, 8] rfl hF
  obtain ⟨hP2, -⟩ := va_join (wr := [((ad 26), .inl (cI, 53, .inl (sF n d t day al nd bb oo K F kn))), ((ad 27), .inl (cI, 53, .inl (sF nZ dZ tZ dayZ alZ ndZ bbZ ooZ KZ FZ knZ))), ((ad 28), .inl (cI, 53, .inl (sF nR dR tR dayR alR ndR bbR ooR KR FR knR))), ((ad 29), .inl (cI, 53, .inl (sF nM dM tM dayM alM ndM bbM ooM KM FM knM))), ((ad 31), .inl (cI, 8, .inl (nF so))), ((ad 34), .inl (cI, 8, .inl qk)), ((ad 35), .inl (cI, 8, .inl qf)), ((ad 36), .inl (cI, 2, .inl nu)), ((ad 37), .inl (cI, 512, .inl (oF fe))), ((ad 38), .inl (cI, 512, .inl (oF ea))), ((ad 39), .inl (cI, 512, .inl (oF pr))), (ad 40, .inl (cL, 1, .inr (.inl ov)))]) (w1 := [((ad 25), .inr (12, [.ref (ad 26), .ref (ad 27), .ref (ad 28), .ref (ad 29), .ref (ad 30), .ref (ad 31), .ref (ad 32), .ref (ad 33), .ref (ad 34), .ref (ad 35), .int (bI hi), .int (nI 0), .int (nI po), .int (nI ba), .int (nI en), .ref (ad 36), .ref (ad 37), .ref (ad 38), .ref (ad 39), .int se]))] ++ [((ad 30), .inl (cI, 8, .inl (nF ke)))] ++ [((ad 32), .inl (cI, 8, .inl (nF zz)))] ++ [((ad 33), .inl (cI, 800, .inl el))]) hP hD [0, 5, 7, 8] [1, 2, 3, 4, 6, 9, 10, 11, 12, 13, 14, 15] rfl rfl (by decide) (by decide) hF.2 (fun _ _ => trivial) hP1 hD1
  have hP3 := hP2.sub (ws' := MW cI cL ad hi (nI 0) po ba en se n d t day al nd bb oo K F kn nZ dZ tZ dayZ alZ ndZ bbZ ooZ KZ FZ knZ nR dR tR dayR alR ndR bbR ooR KR FR knR nM dM tM dayM alM ndM bbM ooM KM FM knM ke so zz el qk qf nu fe ea pr ov) [12, 0, 1, 2, 3, 13, 4, 14, 15, 5, 6, 7, 8, 9, 10, 11] rfl
  clear hP1 hD1 hP2
  exact ⟨⟨r, (), ho, hr, hX _ _ hXs hF.1 (fun q hq hx => hfr q hq (fun j9 h8 h9 => hx j9 h8 (by omega))), po, ba, en, se, nR, dR, tR, dayR, alR, ndR, bbR, ooR, KR, FR, knR, nM, dM, tM, dayM, alM, ndM, bbM, ooM, KM, FM, knM, nu, fe, ea, pr, hP3⟩, hF.1, fun q hq hno => hfr q hq (fun j9 _ hj9 z9 => hno (by rw [z9]; exact hA.2 j9 (by omega)))⟩
set_option maxHeartbeats 4000000 in
set_option maxRecDepth 100000 in
theorem u_X12_element_f (l : Launch) (dC : Nat → ClassId) (dI : Nat → Nat → Nat) (cI cD cR : ClassId) (cL : ClassId) (ad : Nat → Nat) (s0 B : Nat) (hA : AdD ad s0) (hB : B ≤ 60000) (hi : Bool) (n d t day al : Nat) (nd : Nat → Nat) (bb oo : Nat → Int32) (K F kn : Nat → Nat) (nZ dZ tZ dayZ alZ : Nat) (ndZ : Nat → Nat) (bbZ ooZ : Nat → Int32) (KZ FZ knZ : Nat → Nat) (ke so zz : Nat → Nat) (el qk qf : Nat → Int32) (X : Heap → Prop) (hX : XK ad X) (hC : CiI B n d t day al nd bb oo K F kn nZ dZ tZ dayZ alZ ndZ bbZ ooZ KZ FZ knZ ke so zz qk qf) (v1 : Int32) (v2 : Int32) (hno : ∀ y, v1 = nI y → y < 8 → ke y = 2 → okI v2 (zz y) = false) (th : Int32) (ov : Nat → Int64) : Met l yX12_element wsX12_element ({ frames := 9, cells := 0, slots := 0, locals := 340 }) (pcR dC dI cI cD cR [.ref (ad 25), .int v1, .int v2] (fun H => X H ∧ MU dC dI cI cL ad hi n d t day al nd bb oo K F kn nZ dZ tZ dayZ alZ ndZ bbZ ooZ KZ FZ knZ ke so zz el qk qf th ov H)) (LQl s0 (lN 0) (fun H => X H ∧ MU dC dI cI cL ad hi n d t day al nd bb oo K F kn nZ dZ tZ dayZ alZ ndZ bbZ ooZ KZ FZ knZ ke so zz el qk qf (on1 (oN v1 8) (fun _ => nI 2) (nI 1)) ov H)) 0 0 (fun q => s0 ≤ q) := by
  refine met_cs (fun a s hs => ?_)
  obtain ⟨rfl, ⟨hXs, hM9⟩, hCX⟩ := hs
  obtain ⟨po, ba, en, se, nR, dR, tR, dayR, alR, ndR, bbR, ooR, KR, FR, knR, nM, dM, tM, dayM, alM, ndM, bbM, ooM, KM, FM, knM, nu, fe, ea, pr, hP⟩ := hM9
  have hC9 := hC
  obtain ⟨hWS, hWZ, hB1, hB2, gzz, gso, gke2, gkk⟩ := hC9
  have hn := hWS.1
  have hd := hWS.2.1
  have ht := ws_t9 hWS
  have hal : al < 64 := Nat.lt_of_lt_of_le hWS.2.2.2.1 (Nat.pow_le_pow_right (by decide) hd)
  have hday : day < 2 ^ 30 := by omega
  have gnd := hWS.2.2.2.2.1
  have gK := hWS.2.2.2.2.2.2.1
  have gF := hWS.2.2.2.2.2.2.2.1
  have gkn := hWS.2.2.2.2.2.2.2.2.1
  have hE : (MW cI cL ad hi th po ba en se n d t day al nd bb oo K F kn nZ dZ tZ dayZ alZ ndZ bbZ ooZ KZ FZ knZ nR dR tR dayR alR ndR bbR ooR KR FR knR nM dM tM dayM alM ndM bbM ooM KM FM knM ke so zz el qk qf nu fe ea pr ov).map Prod.fst = adL ad 25 16 := MW_ad cI cL ad hi th po ba en se n d t day al nd bb oo K F kn nZ dZ tZ dayZ alZ ndZ bbZ ooZ KZ FZ knZ nR dR tR dayR alR ndR bbR ooR KR FR knR nM dM tM dayM alM ndM bbM ooM KM FM knM ke so zz el qk qf nu fe ea pr ov
  have hPc := hP.sub (ws' := [((ad 25), .inr (12, [.ref (ad 26), .ref (ad 27), .ref (ad 28), .ref (ad 29), .ref (ad 30), .ref (ad 31), .ref (ad 32), .ref (ad 33), .ref (ad 34), .ref (ad 35), .int (bI hi), .int th, .int (nI po), .int (nI ba), .int (nI en), .ref (ad 36), .ref (ad 37), .ref (ad 38), .ref (ad 39), .int se]))] ++ [((ad 30), .inl (cI, 8, .inl (nF ke)))] ++ [((ad 32), .inl (cI, 8, .inl (nF zz)))]) [0, 5, 7] rfl
  have hD := ws_D hA hE (by omega)
  have hz := s0_le hA hP hE (by omega) (by omega)
  have hDc := hD.sub (ws' := [((ad 25), .inr (12, [.ref (ad 26), .ref (ad 27), .ref (ad 28), .ref (ad 29), .ref (ad 30), .ref (ad 31), .ref (ad 32), .ref (ad 33), .ref (ad 34), .ref (ad 35), .int (bI hi), .int th, .int (nI po), .int (nI ba), .int (nI en), .ref (ad 36), .ref (ad 37), .ref (ad 38), .ref (ad 39), .int se]))] ++ [((ad 30), .inl (cI, 8, .inl (nF ke)))] ++ [((ad 32), .inl (cI, 8, .inl (nF zz)))]) [0, 5, 7] (by decide) rfl
  refine ⟨_, _, _, _, _, _, c_X12_element_f l dC dI cI cD cR (ad 25) (ad 26) (ad 27) (ad 28) (ad 29) (ad 30) (ad 31) (ad 32) (ad 33) (ad 34) (ad 35) hi th po ba en (ad 36) (ad 37) (ad 38) (ad 39) se ke zz v1 v2 s.heap.size gzz gke2 hno, ⟨by decide, by decide, by first | decide | (dsimp only; omega), by first | decide | (dsimp only; omega)⟩, ⟨by first | decide | (dsimp only; omega) | omega, by first | decide | (dsimp only; omega) | omega⟩, ⟨rfl, ⟨rfl, hPc, hDc⟩, hCX⟩, ?_, free_of hA (by omega) hE [0, 5, 7] rfl hz⟩
  rintro o T8 ⟨⟨r, u, ho, hr, hP1, hD1⟩, hF⟩
  have hP1 : va_P (dC, dI) vwCl ([((ad 25), .inr (12, [.ref (ad 26), .ref (ad 27), .ref (ad 28), .ref (ad 29), .ref (ad 30), .ref (ad 31), .ref (ad 32), .ref (ad 33), .ref (ad 34), .ref (ad 35), .int (bI hi), .int (on1 (oN v1 8) (fun _ => nI 2) (nI 1)), .int (nI po), .int (nI ba), .int (nI en), .ref (ad 36), .ref (ad 37), .ref (ad 38), .ref (ad 39), .int se]))] ++ [((ad 30), .inl (cI, 8, .inl (nF ke)))] ++ [((ad 32), .inl (cI, 8, .inl (nF zz)))]) T8.heap := hP1
  have hfr := fr_of hE [0, 5, 7] rfl hF
  obtain ⟨hP2, -⟩ := va_join (wr := [((ad 26), .inl (cI, 53, .inl (sF n d t day al nd bb oo K F kn))), ((ad 27), .inl (cI, 53, .inl (sF nZ dZ tZ dayZ alZ ndZ bbZ ooZ KZ FZ knZ))), ((ad 28), .inl (cI, 53, .inl (sF nR dR tR dayR alR ndR bbR ooR KR FR knR))), ((ad 29), .inl (cI, 53, .inl (sF nM dM tM dayM alM ndM bbM ooM KM FM knM))), ((ad 31), .inl (cI, 8, .inl (nF so))), ((ad 33), .inl (cI, 800, .inl el)), ((ad 34), .inl (cI, 8, .inl qk)), ((ad 35), .inl (cI, 8, .inl qf)), ((ad 36), .inl (cI, 2, .inl nu)), ((ad 37), .inl (cI, 512, .inl (oF fe))), ((ad 38), .inl (cI, 512, .inl (oF ea))), ((ad 39), .inl (cI, 512, .inl (oF pr))), (ad 40, .inl (cL, 1, .inr (.inl ov)))]) (w1 := [((ad 25), .inr (12, [.ref (ad 26), .ref (ad 27), .ref (ad 28), .ref (ad 29), .ref (ad 30), .ref (ad 31), .ref (ad 32), .ref (ad 33), .ref (ad 34), .ref (ad 35), .int (bI hi), .int (on1 (oN v1 8) (fun _ => nI 2) (nI 1)), .int (nI po), .int (nI ba), .int (nI en), .ref (ad 36), .ref (ad 37), .ref (ad 38), .ref (ad 39), .int se]))] ++ [((ad 30), .inl (cI, 8, .inl (nF ke)))] ++ [((ad 32), .inl (cI, 8, .inl (nF zz)))]) hP hD [0, 5, 7] [1, 2, 3, 4, 6, 8, 9, 10, 11, 12, 13, 14, 15] rfl rfl (by decide) (by decide) hF.2 (fun _ _ => trivial) hP1 hD1
  have hP3 := hP2.sub (ws' := MW cI cL ad hi (on1 (oN v1 8) (fun _ => nI 2) (nI 1)) po ba en se n d t day al nd bb oo K F kn nZ dZ tZ dayZ alZ ndZ bbZ ooZ KZ FZ knZ nR dR tR dayR alR ndR bbR ooR KR FR knR nM dM tM dayM alM ndM bbM ooM KM FM knM ke so zz el qk qf nu fe ea pr ov) [13, 0, 1, 2, 3, 14, 4, 15, 5, 6, 7, 8, 9, 10, 11, 12] rfl
  clear hP1 hD1 hP2
  exact ⟨⟨r, (), ho, hr, hX _ _ hXs hF.1 (fun q hq hx => hfr q hq (fun j9 h8 h9 => hx j9 h8 (by omega))), po, ba, en, se, nR, dR, tR, dayR, alR, ndR, bbR, ooR, KR, FR, knR, nM, dM, tM, dayM, alM, ndM, bbM, ooM, KM, FM, knM, nu, fe, ea, pr, hP3⟩, hF.1, fun q hq hno => hfr q hq (fun j9 _ hj9 z9 => hno (by rw [z9]; exact hA.2 j9 (by omega)))⟩
set_option maxHeartbeats 4000000 in
set_option maxRecDepth 100000 in
theorem u_X12_element (l : Launch) (dC : Nat → ClassId) (dI : Nat → Nat → Nat) (cI cD cR : ClassId) (cL : ClassId) (ad : Nat → Nat) (s0 B : Nat) (hA : AdD ad s0) (hB : B ≤ 60000) (hi : Bool) (n d t day al : Nat) (nd : Nat → Nat) (bb oo : Nat → Int32) (K F kn : Nat → Nat) (nZ dZ tZ dayZ alZ : Nat) (ndZ : Nat → Nat) (bbZ ooZ : Nat → Int32) (KZ FZ knZ : Nat → Nat) (ke so zz : Nat → Nat) (el qk qf : Nat → Int32) (X : Heap → Prop) (hX : XK ad X) (hC : CiI B n d t day al nd bb oo K F kn nZ dZ tZ dayZ alZ ndZ bbZ ooZ KZ FZ knZ ke so zz qk qf) (v1 v2 : Int32) (th : Int32) (ov : Nat → Int64) : Met l yX12_element wsX12_element ({ frames := 9, cells := 0, slots := 0, locals := 340 }) (pcR dC dI cI cD cR [.ref (ad 25), .int v1, .int v2] (fun H => X H ∧ MU dC dI cI cL ad hi n d t day al nd bb oo K F kn nZ dZ tZ dayZ alZ ndZ bbZ ooZ KZ FZ knZ ke so zz el qk qf th ov H)) (LQl s0 (bif okI v1 8 && (decide (ke (nT v1) = 2) && okI v2 (zz (nT v1))) then (el (100 * nT v1 + nT v2)).toInt64 else lN 0) (fun H => X H ∧ MU dC dI cI cL ad hi n d t day al nd bb oo K F kn nZ dZ tZ dayZ alZ ndZ bbZ ooZ KZ FZ knZ ke so zz el qk qf (bif okI v1 8 then (bif decide (ke (nT v1) = 2) && okI v2 (zz (nT v1)) then 0 else 2) else 1) ov H)) 0 0 (fun q => s0 ≤ q) := by
  have hf := fun hno => u_X12_element_f l dC dI cI cD cR cL ad s0 B hA hB hi n d t day al nd bb oo K F kn nZ dZ tZ dayZ alZ ndZ bbZ ooZ KZ FZ knZ ke so zz el qk qf X hX hC v1 v2 hno th ov
  rcases okI_or v1 (n := 8) (by decide) with q1 | ⟨y, hy, rfl⟩
  · rw [oN_f q1] at hf; rw [q1]; exact hf (fun y e hy => by subst e; rw [okI_nI (by omega) (by decide)] at q1; exact absurd hy (of_decide_eq_false q1))
  · rw [oN_t hy, on1_s, show nI 2 = 2 from by decide] at hf; rw [okI_nI (by omega) (by decide), decide_eq_true hy, Bool.true_and, nT_nI (by omega)]
    have hy9 : ∀ y2, nI y = nI y2 → y2 < 8 → y = y2 := fun y2 e h2 => (nI_eq (by omega) (by omega)).mp e
    have hz9 : zz y ≤ 100 := hC.2.2.2.2.1 y
    by_cases hk : ke y = 2
    · rw [decide_eq_true hk, Bool.true_and]
      rcases okI_or v2 (n := zz y) (by omega) with q2 | ⟨i, hi9, rfl⟩
      · rw [q2]; exact hf (fun y2 e h2 _ => by rw [← hy9 y2 e h2]; exact q2)
      · rw [okI_nI (by omega) (by omega), decide_eq_true hi9, nT_nI (by omega)]; have ht := u_X12_element_t l dC dI cI cD cR cL ad s0 B hA hB hi n d t day al nd bb oo K F kn nZ dZ tZ dayZ alZ ndZ bbZ ooZ KZ FZ knZ ke so zz el qk qf X hX hC y i hy hk hi9 th ov; rw [show nI 0 = 0 from by decide] at ht; exact ht
    · rw [decide_eq_false hk]; exact hf (fun y2 e h2 h3 => by rw [← hy9 y2 e h2] at h3; exact absurd h3 hk)
set_option maxHeartbeats 4000000 in
set_option maxRecDepth 100000 in
theorem u_X12_thrown (l : Launch) (dC : Nat → ClassId) (dI : Nat → Nat → Nat) (cI cD cR : ClassId) (cL : ClassId) (ad : Nat → Nat) (s0 B : Nat) (hA : AdD ad s0) (hB : B ≤ 60000) (hi : Bool) (n d t day al : Nat) (nd : Nat → Nat) (bb oo : Nat → Int32) (K F kn : Nat → Nat) (nZ dZ tZ dayZ alZ : Nat) (ndZ : Nat → Nat) (bbZ ooZ : Nat → Int32) (KZ FZ knZ : Nat → Nat) (ke so zz : Nat → Nat) (el qk qf : Nat → Int32) (X : Heap → Prop) (hX : XK ad X) (hC : CiI B n d t day al nd bb oo K F kn nZ dZ tZ dayZ alZ ndZ bbZ ooZ KZ FZ knZ ke so zz qk qf) (th : Int32) (ov : Nat → Int64) : Met l yX12_thrown wsX12_thrown ({ frames := 9, cells := 0, slots := 0, locals := 340 }) (pcR dC dI cI cD cR [.ref (ad 25)] (fun H => X H ∧ MU dC dI cI cL ad hi n d t day al nd bb oo K F kn nZ dZ tZ dayZ alZ ndZ bbZ ooZ KZ FZ knZ ke so zz el qk qf th ov H)) (LQ s0 th (fun H => X H ∧ MU dC dI cI cL ad hi n d t day al nd bb oo K F kn nZ dZ tZ dayZ alZ ndZ bbZ ooZ KZ FZ knZ ke so zz el qk qf th ov H)) 0 0 (fun q => s0 ≤ q) := by
  refine met_cs (fun a s hs => ?_)
  obtain ⟨rfl, ⟨hXs, hM9⟩, hCX⟩ := hs
  have hM8 := hM9
  obtain ⟨po, ba, en, se, nR, dR, tR, dayR, alR, ndR, bbR, ooR, KR, FR, knR, nM, dM, tM, dayM, alM, ndM, bbM, ooM, KM, FM, knM, nu, fe, ea, pr, hP⟩ := hM8
  have hE : (MW cI cL ad hi th po ba en se n d t day al nd bb oo K F kn nZ dZ tZ dayZ alZ ndZ bbZ ooZ KZ FZ knZ nR dR tR dayR alR ndR bbR ooR KR FR knR nM dM tM dayM alM ndM bbM ooM KM FM knM ke so zz el qk qf nu fe ea pr ov).map Prod.fst = adL ad 25 16 := MW_ad cI cL ad hi th po ba en se n d t day al nd bb oo K F kn nZ dZ tZ dayZ alZ ndZ bbZ ooZ KZ FZ knZ nR dR tR dayR alR ndR bbR ooR KR FR knR nM dM tM dayM alM ndM bbM ooM KM FM knM ke so zz el qk qf nu fe ea pr ov
  have hPc := hP.sub (ws' := [((ad 25), .inr (12, [.ref (ad 26), .ref (ad 27), .ref (ad 28), .ref (ad 29), .ref (ad 30), .ref (ad 31), .ref (ad 32), .ref (ad 33), .ref (ad 34), .ref (ad 35), .int (bI hi), .int th, .int (nI po), .int (nI ba), .int (nI en), .ref (ad 36), .ref (ad 37), .ref (ad 38), .ref (ad 39), .int se]))]) [0] rfl
  refine ⟨_, _, _, _, _, _, c_X12_thrown l dC dI cI cD cR (ad 25) (ad 26) (ad 27) (ad 28) (ad 29) (ad 30) (ad 31) (ad 32) (ad 33) (ad 34) (ad 35) hi th po ba en (ad 36) (ad 37) (ad 38) (ad 39) se, ⟨by decide, by decide, by first | decide | exact Nat.zero_le _, by first | decide | exact Nat.zero_le _⟩, ⟨Nat.zero_le _, Nat.zero_le _⟩, ⟨rfl, hPc, hCX⟩, ?_, fun q hq => hq.elim⟩
  rintro o t ⟨r, ho, hr, hh⟩
  exact ⟨⟨r, (), ho, hr, by first | (rw [hh]; exact ⟨hXs, hM9⟩) | (simp only [hh]; exact ⟨hXs, hM9⟩)⟩, by rw [hh]; exact Nat.le_refl _, fun q _ _ => by rw [hh]⟩
set_option maxHeartbeats 4000000 in
set_option maxRecDepth 100000 in
theorem u_L_element (l : Launch) (hl0 : l.stackTraces = false) (dC : Nat → ClassId) (dI : Nat → Nat → Nat) (cI cD cR : ClassId) (cL : ClassId) (ad : Nat → Nat) (s0 B : Nat) (hA : AdD ad s0) (hB : B ≤ 60000) (hi : Bool) (n d t day al : Nat) (nd : Nat → Nat) (bb oo : Nat → Int32) (K F kn : Nat → Nat) (nZ dZ tZ dayZ alZ : Nat) (ndZ : Nat → Nat) (bbZ ooZ : Nat → Int32) (KZ FZ knZ : Nat → Nat) (ke so zz : Nat → Nat) (el qk qf : Nat → Int32) (th : Int32) (ov : Nat → Int64) (sa9 : Nat → Nat) (v1 v2 : Int32) : vx_Met l yL_element wsL_element ({ frames := 9, cells := 1, slots := 6, locals := 340 }) (pcJ dC dI cI cD cR cL [.ref (ad 0), .int v1, .int v2, .ref (ad 40)] (fun H => XS dC dI cI cD cR ad s0 B hi n d t day al nd bb oo K F kn nZ dZ tZ dayZ alZ ndZ bbZ ooZ KZ FZ knZ ke so zz el qk qf H ∧ MU dC dI cI cL ad hi n d t day al nd bb oo K F kn nZ dZ tZ dayZ alZ ndZ bbZ ooZ KZ FZ knZ ke so zz el qk qf th ov H) sa9 (fun q => s0 ≤ q)) (LQ s0 (bif okI v1 8 then (bif decide (ke (nT v1) = 2) && okI v2 (zz (nT v1)) then 0 else 2) else 1) (fun H => XS dC dI cI cD cR ad s0 (B + 100) hi n d t day al nd bb oo K F kn nZ dZ tZ dayZ alZ ndZ bbZ ooZ KZ FZ knZ ke so zz el qk qf H ∧ MU dC dI cI cL ad hi n d t day al nd bb oo K F kn nZ dZ tZ dayZ alZ ndZ bbZ ooZ KZ FZ knZ ke so zz el qk qf th (bif okI v1 8 && (decide (ke (nT v1) = 2) && okI v2 (zz (nT v1))) then vp_updL ov 0 ((el (100 * nT v1 + nT v2)).toInt64) else ov) H)) (vx_X (fun (_ : Unit) => False) (fun _ _ _ => False) (fun q => s0 ≤ q)) 1 6 (fun q => s0 ≤ q) := by
  refine vx_cs (fun a s hs => ?_)
  obtain ⟨⟨rfl, ⟨hX9, hMU⟩, hCX, hVX⟩, hKJ⟩ := hs
  have hX8 := hX9
  obtain ⟨hC, mk, si, mb, nM, dM, tM, dayM, alM, ndM, mkM, siM, knM, mbM, mkP, siP, mbP, sa, lk, ef, le, dm, rm, DL, kd, fg, RL, rc, rs, rz, rf, hP, hDP, hRP, hO, hRS, hRZ, hSH, hef, hlt⟩ := hX8
  have hC9 := hC
  obtain ⟨hWS, hWZ, hB1, hB2, gzz, gso, gke2, gkk⟩ := hC9
  have hn := hWS.1
  have hd := hWS.2.1
  have ht := ws_t9 hWS
  have hal : al < 64 := Nat.lt_of_lt_of_le hWS.2.2.2.1 (Nat.pow_le_pow_right (by decide) hd)
  have hday : day < 2 ^ 30 := by omega
  have gnd := hWS.2.2.2.2.1
  have gK := hWS.2.2.2.2.2.2.1
  have gF := hWS.2.2.2.2.2.2.2.1
  have gkn := hWS.2.2.2.2.2.2.2.2.1
  have hkk : ∀ a9 ∈ DL, kd a9 < 8 ∧ fg a9 < 10 := fun a9 ha9 => (hDP a9 ha9).2
  obtain ⟨po, ba, en, se, nR, dR, tR, dayR, alR, ndR, bbR, ooR, KR, FR, knR, nM, dM, tM, dayM, alM, ndM, bbM, ooM, KM, FM, knM, nu, fe, ea, pr, hPM⟩ := hMU
  have hE : (XW cI cD cR ad hi n d t day al nd mk si kn mb nM dM tM dayM alM ndM mkM siM knM mbM nZ dZ tZ dayZ alZ ndZ mkP siP knZ mbP sa lk ef le dm rm).map Prod.fst = adL ad 0 25 := rfl
  have hEM : (MW cI cL ad hi th po ba en se n d t day al nd bb oo K F kn nZ dZ tZ dayZ alZ ndZ bbZ ooZ KZ FZ knZ nR dR tR dayR alR ndR bbR ooR KR FR knR nM dM tM dayM alM ndM bbM ooM KM FM knM ke so zz el qk qf nu fe ea pr ov).map Prod.fst = adL ad 25 16 := MW_ad cI cL ad hi th po ba en se n d t day al nd bb oo K F kn nZ dZ tZ dayZ alZ ndZ bbZ ooZ KZ FZ knZ nR dR tR dayR alR ndR bbR ooR KR FR knR nM dM tM dayM alM ndM bbM ooM KM FM knM ke so zz el qk qf nu fe ea pr ov
  have hz := s0_le hA hP hE (by omega) (by omega)
  have hPc : va_P (dC, dI) vwCl [(ad 0, .inr (11, [.ref (ad 1), .ref (ad 7), .ref (ad 13), .int (bI hi), .ref (ad 19), .ref (ad 23), .ref (ad 24)])), (ad 24, .inl (cR, 8, .inr (.inr (.inr (.inr rm))))), (ad 40, .inl (cL, 1, .inr (.inl ov)))] s.heap := (hP.sub (ws' := [(ad 0, .inr (11, [.ref (ad 1), .ref (ad 7), .ref (ad 13), .int (bI hi), .ref (ad 19), .ref (ad 23), .ref (ad 24)])), (ad 24, .inl (cR, 8, .inr (.inr (.inr (.inr rm)))))]) [0, 24] rfl).app (hPM.sub (ws' := [(ad 40, .inl (cL, 1, .inr (.inl ov)))]) [15] rfl)
  have hD := ws_D hA hE (by omega)
  have hDM := ws_D hA hEM (by omega)
  have hDc : va_D (fun _ => True) [(ad 0, .inr (11, [.ref (ad 1), .ref (ad 7), .ref (ad 13), .int (bI hi), .ref (ad 19), .ref (ad 23), .ref (ad 24)])), (ad 24, .inl (cR, 8, .inr (.inr (.inr (.inr rm))))), (ad 40, .inl (cL, 1, .inr (.inl ov)))] := va_D.app (hD.sub (ws' := [(ad 0, .inr (11, [.ref (ad 1), .ref (ad 7), .ref (ad 13), .int (bI hi), .ref (ad 19), .ref (ad 23), .ref (ad 24)])), (ad 24, .inl (cR, 8, .inr (.inr (.inr (.inr rm)))))]) [0, 24] (by decide) rfl) (hDM.sub (ws' := [(ad 40, .inl (cL, 1, .inr (.inl ov)))]) [15] (by decide) rfl) (fun i j p q hp hq hpq => by
    have hi9 : i < 2 := (List.getElem?_eq_some_iff.mp hp).1
    have hj9 : j < 1 := (List.getElem?_eq_some_iff.mp hq).1
    have hj0 : j = 0 := by omega
    subst hj0
    cases hq
    rcases (show i = 0 ∨ i = 1 by omega) with rfl | rfl
    · cases hp; exact absurd (hA.1 0 40 (by omega) (by omega) hpq) (by decide)
    · cases hp; exact absurd (hA.1 24 40 (by omega) (by omega) hpq) (by decide))
  have e2 : (bif okI v1 8 then (match rm (nT v1) with | none => ov | some r0 => bif okI v2 (rz r0) then vp_updL ov 0 ((rf r0 (nT v2)).toInt64) else ov) else ov) = (bif okI v1 8 && (decide (ke (nT v1) = 2) && okI v2 (zz (nT v1))) then vp_updL ov 0 ((el (100 * nT v1 + nT v2)).toInt64) else ov) ∧ (bif okI v1 8 then (match rm (nT v1) with | none => 2 | some r0 => bif okI v2 (rz r0) then 0 else 2) else 1 : Int32) = (bif okI v1 8 then (bif decide (ke (nT v1) = 2) && okI v2 (zz (nT v1)) then 0 else 2) else 1) := by
    rcases okI_or v1 (n := 8) (by decide) with q1 | ⟨y, hy, rfl⟩
    · rw [q1]; exact ⟨rfl, rfl⟩
    · rw [okI_nI (by omega) (by decide), decide_eq_true hy, nT_nI (by omega)]
      by_cases hk : ke y = 2
      · obtain ⟨r0, h1, -, -, h4, h5⟩ := hSH.ke2 hy hk
        rw [h1, decide_eq_true hk, Bool.true_and, h4]
        have h6 := gzz y
        rcases okI_or v2 (n := rz r0) (by omega) with q2 | ⟨i, hi9, rfl⟩
        · dsimp only; rw [q2]; exact ⟨rfl, rfl⟩
        · dsimp only; rw [okI_nI (by omega) (by omega), decide_eq_true hi9, nT_nI (by omega), h5 i hi9]; exact ⟨rfl, rfl⟩
      · rw [hSH.norow hy hk, decide_eq_false hk]; exact ⟨rfl, rfl⟩
  refine ⟨_, _, _, _, _, _, _, c_L_element l hl0 dC dI cI cD cR cL (ad 0) (ad 1) (ad 7) (ad 13) hi (ad 19) (ad 23) (ad 24) rm (ad 40) ov v1 v2 RL rc rs rz rf s.heap.size sa9 hSH.2.1, ⟨by decide, by decide, by decide, by decide⟩, ⟨by decide, by decide⟩, ⟨⟨rfl, ⟨rfl, hPc, hDc, hRP⟩, hCX, hVX.narrow ?_⟩, hKJ⟩, ?_, ?_, ?_⟩
  · rintro q (⟨k9, e9, hk9⟩ | hq)
    · have hk8 : k9 < 1 := (List.getElem?_eq_some_iff.mp hk9).1
      have hk0 : k9 = 0 := by omega
      subst hk0
      have h8 := congrArg Prod.fst (Option.some.inj hk9)
      have h9 := hA.2 40 (by omega)
      have h7 : ad 40 = q := h8
      omega
    · omega
  · rintro o T8 ⟨⟨r, u, ho, hr, hP1, hD1⟩, hF⟩
    have hP1 : va_P (dC, dI) vwCl [(ad 40, .inl (cL, 1, .inr (.inl (bif okI v1 8 && (decide (ke (nT v1) = 2) && okI v2 (zz (nT v1))) then vp_updL ov 0 ((el (100 * nT v1 + nT v2)).toInt64) else ov))))] T8.heap := Eq.mp (congrArg (fun z9 => va_P (dC, dI) vwCl [(ad 40, .inl (cL, 1, .inr (.inl z9)))] T8.heap) e2.1) hP1
    have hD1 : va_D (va_A [(ad 40, .inl (cL, 1, .inr (.inl ov)))] s.heap.size) [(ad 40, .inl (cL, 1, .inr (.inl (bif okI v1 8 && (decide (ke (nT v1) = 2) && okI v2 (zz (nT v1))) then vp_updL ov 0 ((el (100 * nT v1 + nT v2)).toInt64) else ov))))] := Eq.mp (congrArg (fun z9 => va_D (va_A [(ad 40, .inl (cL, 1, .inr (.inl ov)))] s.heap.size) [(ad 40, .inl (cL, 1, .inr (.inl z9)))]) e2.1) hD1
    have hfr : ∀ q : Nat, q < s.heap.size → q ≠ ad 40 → T8.heap[q]? = s.heap[q]? := fun q hq hne => hF.2 q hq (by
      rintro (⟨k9, e9, hk9⟩ | hq9)
      · have hk8 : k9 < 1 := (List.getElem?_eq_some_iff.mp hk9).1
        have hk0 : k9 = 0 := by omega
        subst hk0
        exact hne (congrArg Prod.fst (Option.some.inj hk9)).symm
      · omega)
    obtain ⟨hP2, -⟩ := va_join (wr := [((ad 25), .inr (12, [.ref (ad 26), .ref (ad 27), .ref (ad 28), .ref (ad 29), .ref (ad 30), .ref (ad 31), .ref (ad 32), .ref (ad 33), .ref (ad 34), .ref (ad 35), .int (bI hi), .int th, .int (nI po), .int (nI ba), .int (nI en), .ref (ad 36), .ref (ad 37), .ref (ad 38), .ref (ad 39), .int se])), ((ad 26), .inl (cI, 53, .inl (sF n d t day al nd bb oo K F kn))), ((ad 27), .inl (cI, 53, .inl (sF nZ dZ tZ dayZ alZ ndZ bbZ ooZ KZ FZ knZ))), ((ad 28), .inl (cI, 53, .inl (sF nR dR tR dayR alR ndR bbR ooR KR FR knR))), ((ad 29), .inl (cI, 53, .inl (sF nM dM tM dayM alM ndM bbM ooM KM FM knM))), ((ad 30), .inl (cI, 8, .inl (nF ke))), ((ad 31), .inl (cI, 8, .inl (nF so))), ((ad 32), .inl (cI, 8, .inl (nF zz))), ((ad 33), .inl (cI, 800, .inl el)), ((ad 34), .inl (cI, 8, .inl qk)), ((ad 35), .inl (cI, 8, .inl qf)), ((ad 36), .inl (cI, 2, .inl nu)), ((ad 37), .inl (cI, 512, .inl (oF fe))), ((ad 38), .inl (cI, 512, .inl (oF ea))), ((ad 39), .inl (cI, 512, .inl (oF pr)))]) (w1 := [(ad 40, .inl (cL, 1, .inr (.inl (bif okI v1 8 && (decide (ke (nT v1) = 2) && okI v2 (zz (nT v1))) then vp_updL ov 0 ((el (100 * nT v1 + nT v2)).toInt64) else ov))))]) hPM hDM [15] [0, 1, 2, 3, 4, 5, 6, 7, 8, 9, 10, 11, 12, 13, 14] rfl rfl (by decide) (by decide) (wc := [(ad 40, .inl (cL, 1, .inr (.inl ov)))]) hF.2 (fun _ _ => trivial) hP1 hD1
    exact ⟨⟨r, (), ho, hr.trans e2.2, XS.go hA hF.1 (hX9.mono (by omega)) (fun q hq hno => hfr q hq (hno 40 (by omega) (by omega))), po, ba, en, se, nR, dR, tR, dayR, alR, ndR, bbR, ooR, KR, FR, knR, nM, dM, tM, dayM, alM, ndM, bbM, ooM, KM, FM, knM, nu, fe, ea, pr, hP2⟩, hF.1, fun q hq hno => hfr q hq (fun z9 => hno (by rw [z9]; exact hA.2 40 (by omega)))⟩
  · rintro E T8 ⟨u, hu, -⟩
    exact hu
  · rintro q (⟨k9, e9, hk9⟩ | hq)
    · have hk8 : k9 < 1 := (List.getElem?_eq_some_iff.mp hk9).1
      have hk0 : k9 = 0 := by omega
      subst hk0
      have h8 := congrArg Prod.fst (Option.some.inj hk9)
      have h9 := hA.2 40 (by omega)
      have h7 : ad 40 = q := h8
      omega
    · omega
