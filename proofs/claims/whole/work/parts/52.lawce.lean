set_option maxHeartbeats 4000000 in
set_option maxRecDepth 100000 in
theorem u_X12_silences (l : Launch) (dC : Nat → ClassId) (dI : Nat → Nat → Nat) (cI cD cR : ClassId) (cL : ClassId) (ad : Nat → Nat) (s0 B : Nat) (hA : AdD ad s0) (hB : B ≤ 60000) (hi : Bool) (n d t day al : Nat) (nd : Nat → Nat) (bb oo : Nat → Int32) (K F kn : Nat → Nat) (nZ dZ tZ dayZ alZ : Nat) (ndZ : Nat → Nat) (bbZ ooZ : Nat → Int32) (KZ FZ knZ : Nat → Nat) (ke so zz : Nat → Nat) (el qk qf : Nat → Int32) (X : Heap → Prop) (hX : XK ad X) (hC : CiI B n d t day al nd bb oo K F kn nZ dZ tZ dayZ alZ ndZ bbZ ooZ KZ FZ knZ ke so zz qk qf) (v1 : Int32) : Met l yX12_silences wsX12_silences ({ frames := 9, cells := 0, slots := 0, locals := 340 }) (pcR dC dI cI cD cR [.ref (ad 25), .int v1] (fun H => X H ∧ MT dC dI cI cL ad hi n d t day al nd bb oo K F kn nZ dZ tZ dayZ alZ ndZ bbZ ooZ KZ FZ knZ ke so zz el qk qf H)) (LQ s0 ((on1 (oN v1 d) (fun j => nI (smN n t al nd K F kn (day % 2 != 0) j)) (-1))) (fun H => X H ∧ MT dC dI cI cL ad hi n d t day al nd bb oo K F kn nZ dZ tZ dayZ alZ ndZ bbZ ooZ KZ FZ knZ ke so zz el qk qf H)) 0 0 (fun q => s0 ≤ q) := by
  refine met_cs (fun a s hs => ?_)
  obtain ⟨rfl, ⟨hXs, hM9⟩, hCX⟩ := hs
  have hM8 := hM9
  obtain ⟨th, ov, po, ba, en, se, nR, dR, tR, dayR, alR, ndR, bbR, ooR, KR, FR, knR, nM, dM, tM, dayM, alM, ndM, bbM, ooM, KM, FM, knM, nu, fe, ea, pr, hP⟩ := hM8
  have hC9 := hC
  obtain ⟨hWS, hWZ, hB1, hB2, gzz, gso, gke2, gkk⟩ := hC9
  have hn := hWS.1
  have hd := hWS.2.1
  have ht := ws_t9 hWS
  have hal : al < 64 := Nat.lt_of_lt_of_le hWS.2.2.2.1 (Nat.pow_le_pow_right (by decide) hd)
  have hday : day < 2 ^ 30 := by omega
  have gnd := hWS.2.2.2.2.1
  have gK := hWS.2.2.2.2.2.2.1
  have gF := hWS.2.2.2.2.2.2.2.1
  have gkn := hWS.2.2.2.2.2.2.2.2.1
  have hE : (MW cI cL ad hi th po ba en se n d t day al nd bb oo K F kn nZ dZ tZ dayZ alZ ndZ bbZ ooZ KZ FZ knZ nR dR tR dayR alR ndR bbR ooR KR FR knR nM dM tM dayM alM ndM bbM ooM KM FM knM ke so zz el qk qf nu fe ea pr ov).map Prod.fst = adL ad 25 16 := MW_ad cI cL ad hi th po ba en se n d t day al nd bb oo K F kn nZ dZ tZ dayZ alZ ndZ bbZ ooZ KZ FZ knZ nR dR tR dayR alR ndR bbR ooR KR FR knR nM dM tM dayM alM ndM bbM ooM KM FM knM ke so zz el qk qf nu fe ea pr ov
  have hPc := hP.sub (ws' := [((ad 25), .inr (12, [.ref (ad 26), .ref (ad 27), .ref (ad 28), .ref (ad 29), .ref (ad 30), .ref (ad 31), .ref (ad 32), .ref (ad 33), .ref (ad 34), .ref (ad 35), .int (bI hi), .int th, .int (nI po), .int (nI ba), .int (nI en), .ref (ad 36), .ref (ad 37), .ref (ad 38), .ref (ad 39), .int se]))] ++ [((ad 26), .inl (cI, 53, .inl (sF n d t day al nd bb oo K F kn)))]) [0, 1] rfl
  refine ⟨_, _, _, _, _, _, c_X12_silences l dC dI cI cD cR (ad 25) (ad 26) (ad 27) (ad 28) (ad 29) (ad 30) (ad 31) (ad 32) (ad 33) (ad 34) (ad 35) hi th po ba en (ad 36) (ad 37) (ad 38) (ad 39) se n d t day al nd bb oo K F kn v1 hn (by omega) ht (by omega) hday gnd gkn gK gF, ⟨by decide, by decide, by first | decide | exact Nat.zero_le _, by first | decide | exact Nat.zero_le _⟩, ⟨Nat.zero_le _, Nat.zero_le _⟩, ⟨rfl, hPc, hCX⟩, ?_, fun q hq => hq.elim⟩
  rintro o t ⟨r, ho, hr, hh⟩
  exact ⟨⟨r, (), ho, hr, by first | (rw [hh]; exact ⟨hXs, hM9⟩) | (simp only [hh]; exact ⟨hXs, hM9⟩)⟩, by rw [hh]; exact Nat.le_refl _, fun q _ _ => by rw [hh]⟩
set_option maxHeartbeats 4000000 in
set_option maxRecDepth 100000 in
theorem u_X12_steps (l : Launch) (dC : Nat → ClassId) (dI : Nat → Nat → Nat) (cI cD cR : ClassId) (cL : ClassId) (ad : Nat → Nat) (s0 B : Nat) (hA : AdD ad s0) (hB : B ≤ 60000) (hi : Bool) (n d t day al : Nat) (nd : Nat → Nat) (bb oo : Nat → Int32) (K F kn : Nat → Nat) (nZ dZ tZ dayZ alZ : Nat) (ndZ : Nat → Nat) (bbZ ooZ : Nat → Int32) (KZ FZ knZ : Nat → Nat) (ke so zz : Nat → Nat) (el qk qf : Nat → Int32) (X : Heap → Prop) (hX : XK ad X) (hC : CiI B n d t day al nd bb oo K F kn nZ dZ tZ dayZ alZ ndZ bbZ ooZ KZ FZ knZ ke so zz qk qf) (v1 : Int32) (v2 : Int32) : Met l yX12_steps wsX12_steps ({ frames := 9, cells := 0, slots := 0, locals := 340 }) (pcR dC dI cI cD cR [.ref (ad 25), .int v1, .int v2] (fun H => X H ∧ MT dC dI cI cL ad hi n d t day al nd bb oo K F kn nZ dZ tZ dayZ alZ ndZ bbZ ooZ KZ FZ knZ ke so zz el qk qf H)) (LQ s0 ((on2 (oN v1 d) (oN v2 n) (fun j i => nI (efN (K j) (F j) (pcN (nd i)))) (-1))) (fun H => X H ∧ MT dC dI cI cL ad hi n d t day al nd bb oo K F kn nZ dZ tZ dayZ alZ ndZ bbZ ooZ KZ FZ knZ ke so zz el qk qf H)) 0 0 (fun q => s0 ≤ q) := by
  refine met_cs (fun a s hs => ?_)
  obtain ⟨rfl, ⟨hXs, hM9⟩, hCX⟩ := hs
  have hM8 := hM9
  obtain ⟨th, ov, po, ba, en, se, nR, dR, tR, dayR, alR, ndR, bbR, ooR, KR, FR, knR, nM, dM, tM, dayM, alM, ndM, bbM, ooM, KM, FM, knM, nu, fe, ea, pr, hP⟩ := hM8
  have hC9 := hC
  obtain ⟨hWS, hWZ, hB1, hB2, gzz, gso, gke2, gkk⟩ := hC9
  have hn := hWS.1
  have hd := hWS.2.1
  have ht := ws_t9 hWS
  have hal : al < 64 := Nat.lt_of_lt_of_le hWS.2.2.2.1 (Nat.pow_le_pow_right (by decide) hd)
  have hday : day < 2 ^ 30 := by omega
  have gnd := hWS.2.2.2.2.1
  have gK := hWS.2.2.2.2.2.2.1
  have gF := hWS.2.2.2.2.2.2.2.1
  have gkn := hWS.2.2.2.2.2.2.2.2.1
  have hE : (MW cI cL ad hi th po ba en se n d t day al nd bb oo K F kn nZ dZ tZ dayZ alZ ndZ bbZ ooZ KZ FZ knZ nR dR tR dayR alR ndR bbR ooR KR FR knR nM dM tM dayM alM ndM bbM ooM KM FM knM ke so zz el qk qf nu fe ea pr ov).map Prod.fst = adL ad 25 16 := MW_ad cI cL ad hi th po ba en se n d t day al nd bb oo K F kn nZ dZ tZ dayZ alZ ndZ bbZ ooZ KZ FZ knZ nR dR tR dayR alR ndR bbR ooR KR FR knR nM dM tM dayM alM ndM bbM ooM KM FM knM ke so zz el qk qf nu fe ea pr ov
  have hPc := hP.sub (ws' := [((ad 25), .inr (12, [.ref (ad 26), .ref (ad 27), .ref (ad 28), .ref (ad 29), .ref (ad 30), .ref (ad 31), .ref (ad 32), .ref (ad 33), .ref (ad 34), .ref (ad 35), .int (bI hi), .int th, .int (nI po), .int (nI ba), .int (nI en), .ref (ad 36), .ref (ad 37), .ref (ad 38), .ref (ad 39), .int se]))] ++ [((ad 26), .inl (cI, 53, .inl (sF n d t day al nd bb oo K F kn)))]) [0, 1] rfl
  refine ⟨_, _, _, _, _, _, c_X12_steps l dC dI cI cD cR (ad 25) (ad 26) (ad 27) (ad 28) (ad 29) (ad 30) (ad 31) (ad 32) (ad 33) (ad 34) (ad 35) hi th po ba en (ad 36) (ad 37) (ad 38) (ad 39) se n d t day al nd bb oo K F kn v1 v2 hn (by omega) ht (by omega) hday gnd gkn gK gF, ⟨by decide, by decide, by first | decide | exact Nat.zero_le _, by first | decide | exact Nat.zero_le _⟩, ⟨Nat.zero_le _, Nat.zero_le _⟩, ⟨rfl, hPc, hCX⟩, ?_, fun q hq => hq.elim⟩
  rintro o t ⟨r, ho, hr, hh⟩
  exact ⟨⟨r, (), ho, hr, by first | (rw [hh]; exact ⟨hXs, hM9⟩) | (simp only [hh]; exact ⟨hXs, hM9⟩)⟩, by rw [hh]; exact Nat.le_refl _, fun q _ _ => by rw [hh]⟩
set_option maxHeartbeats 4000000 in
set_option maxRecDepth 100000 in
theorem u_X12_falls (l : Launch) (dC : Nat → ClassId) (dI : Nat → Nat → Nat) (cI cD cR : ClassId) (cL : ClassId) (ad : Nat → Nat) (s0 B : Nat) (hA : AdD ad s0) (hB : B ≤ 60000) (hi : Bool) (n d t day al : Nat) (nd : Nat → Nat) (bb oo : Nat → Int32) (K F kn : Nat → Nat) (nZ dZ tZ dayZ alZ : Nat) (ndZ : Nat → Nat) (bbZ ooZ : Nat → Int32) (KZ FZ knZ : Nat → Nat) (ke so zz : Nat → Nat) (el qk qf : Nat → Int32) (X : Heap → Prop) (hX : XK ad X) (hC : CiI B n d t day al nd bb oo K F kn nZ dZ tZ dayZ alZ ndZ bbZ ooZ KZ FZ knZ ke so zz qk qf) (v1 : Int32) : Met l yX12_falls wsX12_falls ({ frames := 9, cells := 0, slots := 0, locals := 340 }) (pcR dC dI cI cD cR [.ref (ad 25), .int v1] (fun H => X H ∧ MT dC dI cI cL ad hi n d t day al nd bb oo K F kn nZ dZ tZ dayZ alZ ndZ bbZ ooZ KZ FZ knZ ke so zz el qk qf H)) (LQ s0 ((on1 (oN v1 d) (fun j => nI (bif al.testBit j then ruR t nd n 9 (orF (fun s9 => t.testBit s9 && decide (bb s9 = nI j)) n) else 0)) (-1))) (fun H => X H ∧ MT dC dI cI cL ad hi n d t day al nd bb oo K F kn nZ dZ tZ dayZ alZ ndZ bbZ ooZ KZ FZ knZ ke so zz el qk qf H)) 0 0 (fun q => s0 ≤ q) := by
  refine met_cs (fun a s hs => ?_)
  obtain ⟨rfl, ⟨hXs, hM9⟩, hCX⟩ := hs
  have hM8 := hM9
  obtain ⟨th, ov, po, ba, en, se, nR, dR, tR, dayR, alR, ndR, bbR, ooR, KR, FR, knR, nM, dM, tM, dayM, alM, ndM, bbM, ooM, KM, FM, knM, nu, fe, ea, pr, hP⟩ := hM8
  have hC9 := hC
  obtain ⟨hWS, hWZ, hB1, hB2, gzz, gso, gke2, gkk⟩ := hC9
  have hn := hWS.1
  have hd := hWS.2.1
  have ht := ws_t9 hWS
  have hal : al < 64 := Nat.lt_of_lt_of_le hWS.2.2.2.1 (Nat.pow_le_pow_right (by decide) hd)
  have hday : day < 2 ^ 30 := by omega
  have gnd := hWS.2.2.2.2.1
  have gK := hWS.2.2.2.2.2.2.1
  have gF := hWS.2.2.2.2.2.2.2.1
  have gkn := hWS.2.2.2.2.2.2.2.2.1
  have hE : (MW cI cL ad hi th po ba en se n d t day al nd bb oo K F kn nZ dZ tZ dayZ alZ ndZ bbZ ooZ KZ FZ knZ nR dR tR dayR alR ndR bbR ooR KR FR knR nM dM tM dayM alM ndM bbM ooM KM FM knM ke so zz el qk qf nu fe ea pr ov).map Prod.fst = adL ad 25 16 := MW_ad cI cL ad hi th po ba en se n d t day al nd bb oo K F kn nZ dZ tZ dayZ alZ ndZ bbZ ooZ KZ FZ knZ nR dR tR dayR alR ndR bbR ooR KR FR knR nM dM tM dayM alM ndM bbM ooM KM FM knM ke so zz el qk qf nu fe ea pr ov
  have hPc := hP.sub (ws' := [((ad 25), .inr (12, [.ref (ad 26), .ref (ad 27), .ref (ad 28), .ref (ad 29), .ref (ad 30), .ref (ad 31), .ref (ad 32), .ref (ad 33), .ref (ad 34), .ref (ad 35), .int (bI hi), .int th, .int (nI po), .int (nI ba), .int (nI en), .ref (ad 36), .ref (ad 37), .ref (ad 38), .ref (ad 39), .int se]))] ++ [((ad 26), .inl (cI, 53, .inl (sF n d t day al nd bb oo K F kn)))]) [0, 1] rfl
  refine ⟨_, _, _, _, _, _, c_X12_falls l dC dI cI cD cR (ad 25) (ad 26) (ad 27) (ad 28) (ad 29) (ad 30) (ad 31) (ad 32) (ad 33) (ad 34) (ad 35) hi th po ba en (ad 36) (ad 37) (ad 38) (ad 39) se n d t day al nd bb oo K F kn v1 hn (by omega) ht (by omega) hday gnd gkn gK gF, ⟨by decide, by decide, by first | decide | exact Nat.zero_le _, by first | decide | exact Nat.zero_le _⟩, ⟨Nat.zero_le _, Nat.zero_le _⟩, ⟨rfl, hPc, hCX⟩, ?_, fun q hq => hq.elim⟩
  rintro o t ⟨r, ho, hr, hh⟩
  exact ⟨⟨r, (), ho, hr, by first | (rw [hh]; exact ⟨hXs, hM9⟩) | (simp only [hh]; exact ⟨hXs, hM9⟩)⟩, by rw [hh]; exact Nat.le_refl _, fun q _ _ => by rw [hh]⟩
set_option maxHeartbeats 4000000 in
set_option maxRecDepth 100000 in
theorem u_X12_lonely (l : Launch) (dC : Nat → ClassId) (dI : Nat → Nat → Nat) (cI cD cR : ClassId) (cL : ClassId) (ad : Nat → Nat) (s0 B : Nat) (hA : AdD ad s0) (hB : B ≤ 60000) (hi : Bool) (n d t day al : Nat) (nd : Nat → Nat) (bb oo : Nat → Int32) (K F kn : Nat → Nat) (nZ dZ tZ dayZ alZ : Nat) (ndZ : Nat → Nat) (bbZ ooZ : Nat → Int32) (KZ FZ knZ : Nat → Nat) (ke so zz : Nat → Nat) (el qk qf : Nat → Int32) (X : Heap → Prop) (hX : XK ad X) (hC : CiI B n d t day al nd bb oo K F kn nZ dZ tZ dayZ alZ ndZ bbZ ooZ KZ FZ knZ ke so zz qk qf) : Met l yX12_lonely wsX12_lonely ({ frames := 9, cells := 0, slots := 0, locals := 340 }) (pcR dC dI cI cD cR [.ref (ad 25)] (fun H => X H ∧ MT dC dI cI cL ad hi n d t day al nd bb oo K F kn nZ dZ tZ dayZ alZ ndZ bbZ ooZ KZ FZ knZ ke so zz el qk qf H)) (LQ s0 (nI (lmF (fun j9 => orF (fun s9 => mnB t al nd K F kn j9 s9) n) d (sdf (2 ^ n - 1) t))) (fun H => X H ∧ MT dC dI cI cL ad hi n d t day al nd bb oo K F kn nZ dZ tZ dayZ alZ ndZ bbZ ooZ KZ FZ knZ ke so zz el qk qf H)) 0 0 (fun q => s0 ≤ q) := by
  refine met_cs (fun a s hs => ?_)
  obtain ⟨rfl, ⟨hXs, hM9⟩, hCX⟩ := hs
  have hM8 := hM9
  obtain ⟨th, ov, po, ba, en, se, nR, dR, tR, dayR, alR, ndR, bbR, ooR, KR, FR, knR, nM, dM, tM, dayM, alM, ndM, bbM, ooM, KM, FM, knM, nu, fe, ea, pr, hP⟩ := hM8
  have hC9 := hC
  obtain ⟨hWS, hWZ, hB1, hB2, gzz, gso, gke2, gkk⟩ := hC9
  have hn := hWS.1
  have hd := hWS.2.1
  have ht := ws_t9 hWS
  have hal : al < 64 := Nat.lt_of_lt_of_le hWS.2.2.2.1 (Nat.pow_le_pow_right (by decide) hd)
  have hday : day < 2 ^ 30 := by omega
  have gnd := hWS.2.2.2.2.1
  have gK := hWS.2.2.2.2.2.2.1
  have gF := hWS.2.2.2.2.2.2.2.1
  have gkn := hWS.2.2.2.2.2.2.2.2.1
  have hE : (MW cI cL ad hi th po ba en se n d t day al nd bb oo K F kn nZ dZ tZ dayZ alZ ndZ bbZ ooZ KZ FZ knZ nR dR tR dayR alR ndR bbR ooR KR FR knR nM dM tM dayM alM ndM bbM ooM KM FM knM ke so zz el qk qf nu fe ea pr ov).map Prod.fst = adL ad 25 16 := MW_ad cI cL ad hi th po ba en se n d t day al nd bb oo K F kn nZ dZ tZ dayZ alZ ndZ bbZ ooZ KZ FZ knZ nR dR tR dayR alR ndR bbR ooR KR FR knR nM dM tM dayM alM ndM bbM ooM KM FM knM ke so zz el qk qf nu fe ea pr ov
  have hPc := hP.sub (ws' := [((ad 25), .inr (12, [.ref (ad 26), .ref (ad 27), .ref (ad 28), .ref (ad 29), .ref (ad 30), .ref (ad 31), .ref (ad 32), .ref (ad 33), .ref (ad 34), .ref (ad 35), .int (bI hi), .int th, .int (nI po), .int (nI ba), .int (nI en), .ref (ad 36), .ref (ad 37), .ref (ad 38), .ref (ad 39), .int se]))] ++ [((ad 26), .inl (cI, 53, .inl (sF n d t day al nd bb oo K F kn)))]) [0, 1] rfl
  refine ⟨_, _, _, _, _, _, c_X12_lonely l dC dI cI cD cR (ad 25) (ad 26) (ad 27) (ad 28) (ad 29) (ad 30) (ad 31) (ad 32) (ad 33) (ad 34) (ad 35) hi th po ba en (ad 36) (ad 37) (ad 38) (ad 39) se n d t day al nd bb oo K F kn hn (by omega) ht (by omega) hday gnd gkn gK gF hd, ⟨by decide, by decide, by first | decide | exact Nat.zero_le _, by first | decide | exact Nat.zero_le _⟩, ⟨Nat.zero_le _, Nat.zero_le _⟩, ⟨rfl, hPc, hCX⟩, ?_, fun q hq => hq.elim⟩
  rintro o t ⟨r, ho, hr, hh⟩
  exact ⟨⟨r, (), ho, hr, by first | (rw [hh]; exact ⟨hXs, hM9⟩) | (simp only [hh]; exact ⟨hXs, hM9⟩)⟩, by rw [hh]; exact Nat.le_refl _, fun q _ _ => by rw [hh]⟩
set_option maxHeartbeats 4000000 in
set_option maxRecDepth 100000 in
theorem u_X12_canHave (l : Launch) (dC : Nat → ClassId) (dI : Nat → Nat → Nat) (cI cD cR : ClassId) (cL : ClassId) (ad : Nat → Nat) (s0 B : Nat) (hA : AdD ad s0) (hB : B ≤ 60000) (hi : Bool) (n d t day al : Nat) (nd : Nat → Nat) (bb oo : Nat → Int32) (K F kn : Nat → Nat) (nZ dZ tZ dayZ alZ : Nat) (ndZ : Nat → Nat) (bbZ ooZ : Nat → Int32) (KZ FZ knZ : Nat → Nat) (ke so zz : Nat → Nat) (el qk qf : Nat → Int32) (X : Heap → Prop) (hX : XK ad X) (hC : CiI B n d t day al nd bb oo K F kn nZ dZ tZ dayZ alZ ndZ bbZ ooZ KZ FZ knZ ke so zz qk qf) (v1 : Int32) : Met l yX12_canHave wsX12_canHave ({ frames := 9, cells := 0, slots := 0, locals := 340 }) (pcR dC dI cI cD cR [.ref (ad 25), .int v1] (fun H => X H ∧ MT dC dI cI cL ad hi n d t day al nd bb oo K F kn nZ dZ tZ dayZ alZ ndZ bbZ ooZ KZ FZ knZ ke so zz el qk qf H)) (LQ s0 ((on1 (oN v1 n) (fun i => bif t.testBit i then nI (orF (fun j9 => maB (K j9) (F j9) (sdf t (2 ^ i)) (kcF kn (2 ^ i) d j9) (nd i) i && siB (K j9) (sdf t (2 ^ i)) (kcF kn (2 ^ i) d j9) (nd i) false) d) else -3) (-1))) (fun H => X H ∧ MT dC dI cI cL ad hi n d t day al nd bb oo K F kn nZ dZ tZ dayZ alZ ndZ bbZ ooZ KZ FZ knZ ke so zz el qk qf H)) 0 0 (fun q => s0 ≤ q) := by
  refine met_cs (fun a s hs => ?_)
  obtain ⟨rfl, ⟨hXs, hM9⟩, hCX⟩ := hs
  have hM8 := hM9
  obtain ⟨th, ov, po, ba, en, se, nR, dR, tR, dayR, alR, ndR, bbR, ooR, KR, FR, knR, nM, dM, tM, dayM, alM, ndM, bbM, ooM, KM, FM, knM, nu, fe, ea, pr, hP⟩ := hM8
  have hC9 := hC
  obtain ⟨hWS, hWZ, hB1, hB2, gzz, gso, gke2, gkk⟩ := hC9
  have hn := hWS.1
  have hd := hWS.2.1
  have ht := ws_t9 hWS
  have hal : al < 64 := Nat.lt_of_lt_of_le hWS.2.2.2.1 (Nat.pow_le_pow_right (by decide) hd)
  have hday : day < 2 ^ 30 := by omega
  have gnd := hWS.2.2.2.2.1
  have gK := hWS.2.2.2.2.2.2.1
  have gF := hWS.2.2.2.2.2.2.2.1
  have gkn := hWS.2.2.2.2.2.2.2.2.1
  have hE : (MW cI cL ad hi th po ba en se n d t day al nd bb oo K F kn nZ dZ tZ dayZ alZ ndZ bbZ ooZ KZ FZ knZ nR dR tR dayR alR ndR bbR ooR KR FR knR nM dM tM dayM alM ndM bbM ooM KM FM knM ke so zz el qk qf nu fe ea pr ov).map Prod.fst = adL ad 25 16 := MW_ad cI cL ad hi th po ba en se n d t day al nd bb oo K F kn nZ dZ tZ dayZ alZ ndZ bbZ ooZ KZ FZ knZ nR dR tR dayR alR ndR bbR ooR KR FR knR nM dM tM dayM alM ndM bbM ooM KM FM knM ke so zz el qk qf nu fe ea pr ov
  have hPc := hP.sub (ws' := [((ad 25), .inr (12, [.ref (ad 26), .ref (ad 27), .ref (ad 28), .ref (ad 29), .ref (ad 30), .ref (ad 31), .ref (ad 32), .ref (ad 33), .ref (ad 34), .ref (ad 35), .int (bI hi), .int th, .int (nI po), .int (nI ba), .int (nI en), .ref (ad 36), .ref (ad 37), .ref (ad 38), .ref (ad 39), .int se]))] ++ [((ad 26), .inl (cI, 53, .inl (sF n d t day al nd bb oo K F kn)))] ++ [((ad 29), .inl (cI, 53, .inl (sF nM dM tM dayM alM ndM bbM ooM KM FM knM)))]) [0, 1, 4] rfl
  have hD := ws_D hA hE (by omega)
  have hz := s0_le hA hP hE (by omega) (by omega)
  have hDc := hD.sub (ws' := [((ad 25), .inr (12, [.ref (ad 26), .ref (ad 27), .ref (ad 28), .ref (ad 29), .ref (ad 30), .ref (ad 31), .ref (ad 32), .ref (ad 33), .ref (ad 34), .ref (ad 35), .int (bI hi), .int th, .int (nI po), .int (nI ba), .int (nI en), .ref (ad 36), .ref (ad 37), .ref (ad 38), .ref (ad 39), .int se]))] ++ [((ad 26), .inl (cI, 53, .inl (sF n d t day al nd bb oo K F kn)))] ++ [((ad 29), .inl (cI, 53, .inl (sF nM dM tM dayM alM ndM bbM ooM KM FM knM)))]) [0, 1, 4] (by decide) rfl
  refine ⟨_, _, _, _, _, _, c_X12_canHave l dC dI cI cD cR (ad 25) (ad 26) (ad 27) (ad 28) (ad 29) (ad 30) (ad 31) (ad 32) (ad 33) (ad 34) (ad 35) hi th po ba en (ad 36) (ad 37) (ad 38) (ad 39) se n d t day al nd bb oo K F kn nM dM tM dayM alM ndM bbM ooM KM FM knM v1 s.heap.size hn (by omega) ht (by omega) hday gnd gkn gK gF hd, ⟨by decide, by decide, by first | decide | (dsimp only; omega), by first | decide | (dsimp only; omega)⟩, ⟨by first | decide | (dsimp only; omega) | omega, by first | decide | (dsimp only; omega) | omega⟩, ⟨rfl, ⟨rfl, hPc, hDc⟩, hCX⟩, ?_, free_of hA (by omega) hE [0, 1, 4] rfl hz⟩
  rintro o T8 ⟨⟨r, u, ho, hr, hP1, hD1⟩, hF⟩
  have hP1 : va_P (dC, dI) vwCl ([((ad 25), .inr (12, [.ref (ad 26), .ref (ad 27), .ref (ad 28), .ref (ad 29), .ref (ad 30), .ref (ad 31), .ref (ad 32), .ref (ad 33), .ref (ad 34), .ref (ad 35), .int (bI hi), .int th, .int (nI po), .int (nI ba), .int (nI en), .ref (ad 36), .ref (ad 37), .ref (ad 38), .ref (ad 39), .int se]))] ++ [((ad 26), .inl (cI, 53, .inl (sF n d t day al nd bb oo K F kn)))] ++ [((ad 29), .inl (cI, 53, .inl (sF (on1 (oN v1 n) (fun i => bif t.testBit i then n else nM) nM) (on1 (oN v1 n) (fun i => bif t.testBit i then d else dM) dM) (on1 (oN v1 n) (fun i => bif t.testBit i then t else tM) tM) (on1 (oN v1 n) (fun i => bif t.testBit i then day else dayM) dayM) (on1 (oN v1 n) (fun i => bif t.testBit i then al else alM) alM) (on1 (oN v1 n) (fun i => bif t.testBit i then nd else ndM) ndM) (on1 (oN v1 n) (fun i => bif t.testBit i then bb else bbM) bbM) (on1 (oN v1 n) (fun i => bif t.testBit i then oo else ooM) ooM) (on1 (oN v1 n) (fun i => bif t.testBit i then K else KM) KM) (on1 (oN v1 n) (fun i => bif t.testBit i then F else FM) FM) (on1 (oN v1 n) (fun i => bif t.testBit i then kn else knM) knM))))]) T8.heap := hP1
  have hfr := fr_of hE [0, 1, 4] rfl hF
  obtain ⟨hP2, -⟩ := va_join (wr := [((ad 27), .inl (cI, 53, .inl (sF nZ dZ tZ dayZ alZ ndZ bbZ ooZ KZ FZ knZ))), ((ad 28), .inl (cI, 53, .inl (sF nR dR tR dayR alR ndR bbR ooR KR FR knR))), ((ad 30), .inl (cI, 8, .inl (nF ke))), ((ad 31), .inl (cI, 8, .inl (nF so))), ((ad 32), .inl (cI, 8, .inl (nF zz))), ((ad 33), .inl (cI, 800, .inl el)), ((ad 34), .inl (cI, 8, .inl qk)), ((ad 35), .inl (cI, 8, .inl qf)), ((ad 36), .inl (cI, 2, .inl nu)), ((ad 37), .inl (cI, 512, .inl (oF fe))), ((ad 38), .inl (cI, 512, .inl (oF ea))), ((ad 39), .inl (cI, 512, .inl (oF pr))), (ad 40, .inl (cL, 1, .inr (.inl ov)))]) (w1 := [((ad 25), .inr (12, [.ref (ad 26), .ref (ad 27), .ref (ad 28), .ref (ad 29), .ref (ad 30), .ref (ad 31), .ref (ad 32), .ref (ad 33), .ref (ad 34), .ref (ad 35), .int (bI hi), .int th, .int (nI po), .int (nI ba), .int (nI en), .ref (ad 36), .ref (ad 37), .ref (ad 38), .ref (ad 39), .int se]))] ++ [((ad 26), .inl (cI, 53, .inl (sF n d t day al nd bb oo K F kn)))] ++ [((ad 29), .inl (cI, 53, .inl (sF (on1 (oN v1 n) (fun i => bif t.testBit i then n else nM) nM) (on1 (oN v1 n) (fun i => bif t.testBit i then d else dM) dM) (on1 (oN v1 n) (fun i => bif t.testBit i then t else tM) tM) (on1 (oN v1 n) (fun i => bif t.testBit i then day else dayM) dayM) (on1 (oN v1 n) (fun i => bif t.testBit i then al else alM) alM) (on1 (oN v1 n) (fun i => bif t.testBit i then nd else ndM) ndM) (on1 (oN v1 n) (fun i => bif t.testBit i then bb else bbM) bbM) (on1 (oN v1 n) (fun i => bif t.testBit i then oo else ooM) ooM) (on1 (oN v1 n) (fun i => bif t.testBit i then K else KM) KM) (on1 (oN v1 n) (fun i => bif t.testBit i then F else FM) FM) (on1 (oN v1 n) (fun i => bif t.testBit i then kn else knM) knM))))]) hP hD [0, 1, 4] [2, 3, 5, 6, 7, 8, 9, 10, 11, 12, 13, 14, 15] rfl rfl (by decide) (by decide) hF.2 (fun _ _ => trivial) hP1 hD1
  have hP3 := hP2.sub (ws' := MW cI cL ad hi th po ba en se n d t day al nd bb oo K F kn nZ dZ tZ dayZ alZ ndZ bbZ ooZ KZ FZ knZ nR dR tR dayR alR ndR bbR ooR KR FR knR (on1 (oN v1 n) (fun i => bif t.testBit i then n else nM) nM) (on1 (oN v1 n) (fun i => bif t.testBit i then d else dM) dM) (on1 (oN v1 n) (fun i => bif t.testBit i then t else tM) tM) (on1 (oN v1 n) (fun i => bif t.testBit i then day else dayM) dayM) (on1 (oN v1 n) (fun i => bif t.testBit i then al else alM) alM) (on1 (oN v1 n) (fun i => bif t.testBit i then nd else ndM) ndM) (on1 (oN v1 n) (fun i => bif t.testBit i then bb else bbM) bbM) (on1 (oN v1 n) (fun i => bif t.testBit i then oo else ooM) ooM) (on1 (oN v1 n) (fun i => bif t.testBit i then K else KM) KM) (on1 (oN v1 n) (fun i => bif t.testBit i then F else FM) FM) (on1 (oN v1 n) (fun i => bif t.testBit i then kn else knM) knM) ke so zz el qk qf nu fe ea pr ov) [13, 14, 0, 1, 15, 2, 3, 4, 5, 6, 7, 8, 9, 10, 11, 12] rfl
  clear hP1 hD1 hP2
  exact ⟨⟨r, (), ho, hr, hX _ _ hXs hF.1 (fun q hq hx => hfr q hq (fun j9 h8 h9 => hx j9 h8 (by omega))), th, ov, po, ba, en, se, nR, dR, tR, dayR, alR, ndR, bbR, ooR, KR, FR, knR, on1 (oN v1 n) (fun i => bif t.testBit i then n else nM) nM, on1 (oN v1 n) (fun i => bif t.testBit i then d else dM) dM, on1 (oN v1 n) (fun i => bif t.testBit i then t else tM) tM, on1 (oN v1 n) (fun i => bif t.testBit i then day else dayM) dayM, on1 (oN v1 n) (fun i => bif t.testBit i then al else alM) alM, on1 (oN v1 n) (fun i => bif t.testBit i then nd else ndM) ndM, on1 (oN v1 n) (fun i => bif t.testBit i then bb else bbM) bbM, on1 (oN v1 n) (fun i => bif t.testBit i then oo else ooM) ooM, on1 (oN v1 n) (fun i => bif t.testBit i then K else KM) KM, on1 (oN v1 n) (fun i => bif t.testBit i then F else FM) FM, on1 (oN v1 n) (fun i => bif t.testBit i then kn else knM) knM, nu, fe, ea, pr, hP3⟩, hF.1, fun q hq hno => hfr q hq (fun j9 _ hj9 z9 => hno (by rw [z9]; exact hA.2 j9 (by omega)))⟩
set_option maxHeartbeats 4000000 in
set_option maxRecDepth 100000 in
theorem u_X12_count (l : Launch) (dC : Nat → ClassId) (dI : Nat → Nat → Nat) (cI cD cR : ClassId) (cL : ClassId) (ad : Nat → Nat) (s0 B : Nat) (hA : AdD ad s0) (hB : B ≤ 60000) (hi : Bool) (n d t day al : Nat) (nd : Nat → Nat) (bb oo : Nat → Int32) (K F kn : Nat → Nat) (nZ dZ tZ dayZ alZ : Nat) (ndZ : Nat → Nat) (bbZ ooZ : Nat → Int32) (KZ FZ knZ : Nat → Nat) (ke so zz : Nat → Nat) (el qk qf : Nat → Int32) (X : Heap → Prop) (hX : XK ad X) (hC : CiI B n d t day al nd bb oo K F kn nZ dZ tZ dayZ alZ ndZ bbZ ooZ KZ FZ knZ ke so zz qk qf) (v1 : Int32) : Met l yX12_count wsX12_count ({ frames := 9, cells := 0, slots := 0, locals := 340 }) (pcR dC dI cI cD cR [.ref (ad 25), .int v1] (fun H => X H ∧ MT dC dI cI cL ad hi n d t day al nd bb oo K F kn nZ dZ tZ dayZ alZ ndZ bbZ ooZ KZ FZ knZ ke so zz el qk qf H)) (LQ s0 ((if v1 = 0 then nI n else if v1 = 1 then nI d else if v1 = 2 then nI day else if v1 = 3 then nI (pcN t) else if v1 = 4 then nI (pcN al) else -1)) (fun H => X H ∧ MT dC dI cI cL ad hi n d t day al nd bb oo K F kn nZ dZ tZ dayZ alZ ndZ bbZ ooZ KZ FZ knZ ke so zz el qk qf H)) 0 0 (fun q => s0 ≤ q) := by
  refine met_cs (fun a s hs => ?_)
  obtain ⟨rfl, ⟨hXs, hM9⟩, hCX⟩ := hs
  have hM8 := hM9
  obtain ⟨th, ov, po, ba, en, se, nR, dR, tR, dayR, alR, ndR, bbR, ooR, KR, FR, knR, nM, dM, tM, dayM, alM, ndM, bbM, ooM, KM, FM, knM, nu, fe, ea, pr, hP⟩ := hM8
  have hC9 := hC
  obtain ⟨hWS, hWZ, hB1, hB2, gzz, gso, gke2, gkk⟩ := hC9
  have hn := hWS.1
  have hd := hWS.2.1
  have ht := ws_t9 hWS
  have hal : al < 64 := Nat.lt_of_lt_of_le hWS.2.2.2.1 (Nat.pow_le_pow_right (by decide) hd)
  have hday : day < 2 ^ 30 := by omega
  have gnd := hWS.2.2.2.2.1
  have gK := hWS.2.2.2.2.2.2.1
  have gF := hWS.2.2.2.2.2.2.2.1
  have gkn := hWS.2.2.2.2.2.2.2.2.1
  have hE : (MW cI cL ad hi th po ba en se n d t day al nd bb oo K F kn nZ dZ tZ dayZ alZ ndZ bbZ ooZ KZ FZ knZ nR dR tR dayR alR ndR bbR ooR KR FR knR nM dM tM dayM alM ndM bbM ooM KM FM knM ke so zz el qk qf nu fe ea pr ov).map Prod.fst = adL ad 25 16 := MW_ad cI cL ad hi th po ba en se n d t day al nd bb oo K F kn nZ dZ tZ dayZ alZ ndZ bbZ ooZ KZ FZ knZ nR dR tR dayR alR ndR bbR ooR KR FR knR nM dM tM dayM alM ndM bbM ooM KM FM knM ke so zz el qk qf nu fe ea pr ov
  have hPc := hP.sub (ws' := [((ad 25), .inr (12, [.ref (ad 26), .ref (ad 27), .ref (ad 28), .ref (ad 29), .ref (ad 30), .ref (ad 31), .ref (ad 32), .ref (ad 33), .ref (ad 34), .ref (ad 35), .int (bI hi), .int th, .int (nI po), .int (nI ba), .int (nI en), .ref (ad 36), .ref (ad 37), .ref (ad 38), .ref (ad 39), .int se]))] ++ [((ad 26), .inl (cI, 53, .inl (sF n d t day al nd bb oo K F kn)))]) [0, 1] rfl
  refine ⟨_, _, _, _, _, _, c_X12_count l dC dI cI cD cR (ad 25) (ad 26) (ad 27) (ad 28) (ad 29) (ad 30) (ad 31) (ad 32) (ad 33) (ad 34) (ad 35) hi th po ba en (ad 36) (ad 37) (ad 38) (ad 39) se n d t day al nd bb oo K F kn v1 hn (by omega) ht (by omega) hday gnd gkn gK gF, ⟨by decide, by decide, by first | decide | exact Nat.zero_le _, by first | decide | exact Nat.zero_le _⟩, ⟨Nat.zero_le _, Nat.zero_le _⟩, ⟨rfl, hPc, hCX⟩, ?_, fun q hq => hq.elim⟩
  rintro o t ⟨r, ho, hr, hh⟩
  exact ⟨⟨r, (), ho, hr, by first | (rw [hh]; exact ⟨hXs, hM9⟩) | (simp only [hh]; exact ⟨hXs, hM9⟩)⟩, by rw [hh]; exact Nat.le_refl _, fun q _ _ => by rw [hh]⟩
set_option maxHeartbeats 4000000 in
set_option maxRecDepth 100000 in
theorem u_X12_price (l : Launch) (dC : Nat → ClassId) (dI : Nat → Nat → Nat) (cI cD cR : ClassId) (cL : ClassId) (ad : Nat → Nat) (s0 B : Nat) (hA : AdD ad s0) (hB : B ≤ 60000) (hi : Bool) (n d t day al : Nat) (nd : Nat → Nat) (bb oo : Nat → Int32) (K F kn : Nat → Nat) (nZ dZ tZ dayZ alZ : Nat) (ndZ : Nat → Nat) (bbZ ooZ : Nat → Int32) (KZ FZ knZ : Nat → Nat) (ke so zz : Nat → Nat) (el qk qf : Nat → Int32) (X : Heap → Prop) (hX : XK ad X) (hC : CiI B n d t day al nd bb oo K F kn nZ dZ tZ dayZ alZ ndZ bbZ ooZ KZ FZ knZ ke so zz qk qf) (v1 : Int32) : Met l yX12_price wsX12_price ({ frames := 9, cells := 0, slots := 0, locals := 340 }) (pcR dC dI cI cD cR [.ref (ad 25), .int v1] (fun H => X H ∧ MT dC dI cI cL ad hi n d t day al nd bb oo K F kn nZ dZ tZ dayZ alZ ndZ bbZ ooZ KZ FZ knZ ke so zz el qk qf H)) (LQ s0 ((on1 (oN v1 8) (fun y9 => if wkR ke y9 = 0 then nI (asN (nT (qk y9)) (nT (qf y9))) else wkR ke y9) (-1))) (fun H => X H ∧ MT dC dI cI cL ad hi n d t day al nd bb oo K F kn nZ dZ tZ dayZ alZ ndZ bbZ ooZ KZ FZ knZ ke so zz el qk qf H)) 0 0 (fun q => s0 ≤ q) := by
  refine met_cs (fun a s hs => ?_)
  obtain ⟨rfl, ⟨hXs, hM9⟩, hCX⟩ := hs
  have hM8 := hM9
  obtain ⟨th, ov, po, ba, en, se, nR, dR, tR, dayR, alR, ndR, bbR, ooR, KR, FR, knR, nM, dM, tM, dayM, alM, ndM, bbM, ooM, KM, FM, knM, nu, fe, ea, pr, hP⟩ := hM8
  have hC9 := hC
  obtain ⟨hWS, hWZ, hB1, hB2, gzz, gso, gke2, gkk⟩ := hC9
  have hn := hWS.1
  have hd := hWS.2.1
  have ht := ws_t9 hWS
  have hal : al < 64 := Nat.lt_of_lt_of_le hWS.2.2.2.1 (Nat.pow_le_pow_right (by decide) hd)
  have hday : day < 2 ^ 30 := by omega
  have gnd := hWS.2.2.2.2.1
  have gK := hWS.2.2.2.2.2.2.1
  have gF := hWS.2.2.2.2.2.2.2.1
  have gkn := hWS.2.2.2.2.2.2.2.2.1
  have hE : (MW cI cL ad hi th po ba en se n d t day al nd bb oo K F kn nZ dZ tZ dayZ alZ ndZ bbZ ooZ KZ FZ knZ nR dR tR dayR alR ndR bbR ooR KR FR knR nM dM tM dayM alM ndM bbM ooM KM FM knM ke so zz el qk qf nu fe ea pr ov).map Prod.fst = adL ad 25 16 := MW_ad cI cL ad hi th po ba en se n d t day al nd bb oo K F kn nZ dZ tZ dayZ alZ ndZ bbZ ooZ KZ FZ knZ nR dR tR dayR alR ndR bbR ooR KR FR knR nM dM tM dayM alM ndM bbM ooM KM FM knM ke so zz el qk qf nu fe ea pr ov
  have hPc := hP.sub (ws' := [((ad 25), .inr (12, [.ref (ad 26), .ref (ad 27), .ref (ad 28), .ref (ad 29), .ref (ad 30), .ref (ad 31), .ref (ad 32), .ref (ad 33), .ref (ad 34), .ref (ad 35), .int (bI hi), .int th, .int (nI po), .int (nI ba), .int (nI en), .ref (ad 36), .ref (ad 37), .ref (ad 38), .ref (ad 39), .int se]))] ++ [((ad 30), .inl (cI, 8, .inl (nF ke)))] ++ [((ad 34), .inl (cI, 8, .inl qk))] ++ [((ad 35), .inl (cI, 8, .inl qf))]) [0, 5, 9, 10] rfl
  refine ⟨_, _, _, _, _, _, c_X12_price l dC dI cI cD cR (ad 25) (ad 26) (ad 27) (ad 28) (ad 29) (ad 30) (ad 31) (ad 32) (ad 33) (ad 34) (ad 35) hi th po ba en (ad 36) (ad 37) (ad 38) (ad 39) se ke qk qf v1 gkk gke2, ⟨by decide, by decide, by first | decide | exact Nat.zero_le _, by first | decide | exact Nat.zero_le _⟩, ⟨Nat.zero_le _, Nat.zero_le _⟩, ⟨rfl, hPc, hCX⟩, ?_, fun q hq => hq.elim⟩
  rintro o t ⟨r, ho, hr, hh⟩
  exact ⟨⟨r, (), ho, hr, by first | (rw [hh]; exact ⟨hXs, hM9⟩) | (simp only [hh]; exact ⟨hXs, hM9⟩)⟩, by rw [hh]; exact Nat.le_refl _, fun q _ _ => by rw [hh]⟩
set_option maxHeartbeats 4000000 in
set_option maxRecDepth 100000 in
theorem u_X12_learns (l : Launch) (dC : Nat → ClassId) (dI : Nat → Nat → Nat) (cI cD cR : ClassId) (cL : ClassId) (ad : Nat → Nat) (s0 B : Nat) (hA : AdD ad s0) (hB : B ≤ 60000) (hi : Bool) (n d t day al : Nat) (nd : Nat → Nat) (bb oo : Nat → Int32) (K F kn : Nat → Nat) (nZ dZ tZ dayZ alZ : Nat) (ndZ : Nat → Nat) (bbZ ooZ : Nat → Int32) (KZ FZ knZ : Nat → Nat) (ke so zz : Nat → Nat) (el qk qf : Nat → Int32) (X : Heap → Prop) (hX : XK ad X) (hC : CiI B n d t day al nd bb oo K F kn nZ dZ tZ dayZ alZ ndZ bbZ ooZ KZ FZ knZ ke so zz qk qf) (v1 : Int32) (v2 : Int32) : Met l yX12_learns wsX12_learns ({ frames := 9, cells := 0, slots := 0, locals := 340 }) (pcR dC dI cI cD cR [.ref (ad 25), .int v1, .int v2] (fun H => X H ∧ MT dC dI cI cL ad hi n d t day al nd bb oo K F kn nZ dZ tZ dayZ alZ ndZ bbZ ooZ KZ FZ knZ ke so zz el qk qf H)) (LQ s0 ((on2 (oN v1 d) (oN v2 n) (fun y v => bI (!(kn y).testBit v)) (-1))) (fun H => X H ∧ MT dC dI cI cL ad hi n d t day al nd bb oo K F (on2 (oN v1 d) (oN v2 n) (fun y v => va_up kn y (kn y ||| 2 ^ v)) kn) nZ dZ tZ dayZ alZ ndZ bbZ ooZ KZ FZ knZ ke so zz el qk qf H)) 0 0 (fun q => s0 ≤ q) := by
  refine met_cs (fun a s hs => ?_)
  obtain ⟨rfl, ⟨hXs, hM9⟩, hCX⟩ := hs
  have hM8 := hM9
  obtain ⟨th, ov, po, ba, en, se, nR, dR, tR, dayR, alR, ndR, bbR, ooR, KR, FR, knR, nM, dM, tM, dayM, alM, ndM, bbM, ooM, KM, FM, knM, nu, fe, ea, pr, hP⟩ := hM8
  have hC9 := hC
  obtain ⟨hWS, hWZ, hB1, hB2, gzz, gso, gke2, gkk⟩ := hC9
  have hn := hWS.1
  have hd := hWS.2.1
  have ht := ws_t9 hWS
  have hal : al < 64 := Nat.lt_of_lt_of_le hWS.2.2.2.1 (Nat.pow_le_pow_right (by decide) hd)
  have hday : day < 2 ^ 30 := by omega
  have gnd := hWS.2.2.2.2.1
  have gK := hWS.2.2.2.2.2.2.1
  have gF := hWS.2.2.2.2.2.2.2.1
  have gkn := hWS.2.2.2.2.2.2.2.2.1
  have hE : (MW cI cL ad hi th po ba en se n d t day al nd bb oo K F kn nZ dZ tZ dayZ alZ ndZ bbZ ooZ KZ FZ knZ nR dR tR dayR alR ndR bbR ooR KR FR knR nM dM tM dayM alM ndM bbM ooM KM FM knM ke so zz el qk qf nu fe ea pr ov).map Prod.fst = adL ad 25 16 := MW_ad cI cL ad hi th po ba en se n d t day al nd bb oo K F kn nZ dZ tZ dayZ alZ ndZ bbZ ooZ KZ FZ knZ nR dR tR dayR alR ndR bbR ooR KR FR knR nM dM tM dayM alM ndM bbM ooM KM FM knM ke so zz el qk qf nu fe ea pr ov
  have hPc := hP.sub (ws' := [((ad 25), .inr (12, [.ref (ad 26), .ref (ad 27), .ref (ad 28), .ref (ad 29), .ref (ad 30), .ref (ad 31), .ref (ad 32), .ref (ad 33), .ref (ad 34), .ref (ad 35), .int (bI hi), .int th, .int (nI po), .int (nI ba), .int (nI en), .ref (ad 36), .ref (ad 37), .ref (ad 38), .ref (ad 39), .int se]))] ++ [((ad 26), .inl (cI, 53, .inl (sF n d t day al nd bb oo K F kn)))]) [0, 1] rfl
  have hD := ws_D hA hE (by omega)
  have hz := s0_le hA hP hE (by omega) (by omega)
  have hDc := hD.sub (ws' := [((ad 25), .inr (12, [.ref (ad 26), .ref (ad 27), .ref (ad 28), .ref (ad 29), .ref (ad 30), .ref (ad 31), .ref (ad 32), .ref (ad 33), .ref (ad 34), .ref (ad 35), .int (bI hi), .int th, .int (nI po), .int (nI ba), .int (nI en), .ref (ad 36), .ref (ad 37), .ref (ad 38), .ref (ad 39), .int se]))] ++ [((ad 26), .inl (cI, 53, .inl (sF n d t day al nd bb oo K F kn)))]) [0, 1] (by decide) rfl
  refine ⟨_, _, _, _, _, _, c_X12_learns l dC dI cI cD cR (ad 25) (ad 26) (ad 27) (ad 28) (ad 29) (ad 30) (ad 31) (ad 32) (ad 33) (ad 34) (ad 35) hi th po ba en (ad 36) (ad 37) (ad 38) (ad 39) se n d t day al nd bb oo K F kn v1 v2 s.heap.size hn (by omega) ht (by omega) hday gnd gkn gK gF, ⟨by decide, by decide, by first | decide | (dsimp only; omega), by first | decide | (dsimp only; omega)⟩, ⟨by first | decide | (dsimp only; omega) | omega, by first | decide | (dsimp only; omega) | omega⟩, ⟨rfl, ⟨rfl, hPc, hDc⟩, hCX⟩, ?_, free_of hA (by omega) hE [0, 1] rfl hz⟩
  rintro o T8 ⟨⟨r, u, ho, hr, hP1, hD1⟩, hF⟩
  have hP1 : va_P (dC, dI) vwCl ([((ad 25), .inr (12, [.ref (ad 26), .ref (ad 27), .ref (ad 28), .ref (ad 29), .ref (ad 30), .ref (ad 31), .ref (ad 32), .ref (ad 33), .ref (ad 34), .ref (ad 35), .int (bI hi), .int th, .int (nI po), .int (nI ba), .int (nI en), .ref (ad 36), .ref (ad 37), .ref (ad 38), .ref (ad 39), .int se]))] ++ [((ad 26), .inl (cI, 53, .inl (sF n d t day al nd bb oo K F (on2 (oN v1 d) (oN v2 n) (fun y0 v => va_up kn y0 (kn y0 ||| 2 ^ v)) kn))))]) T8.heap := hP1
  have hfr := fr_of hE [0, 1] rfl hF
  obtain ⟨hP2, -⟩ := va_join (wr := [((ad 27), .inl (cI, 53, .inl (sF nZ dZ tZ dayZ alZ ndZ bbZ ooZ KZ FZ knZ))), ((ad 28), .inl (cI, 53, .inl (sF nR dR tR dayR alR ndR bbR ooR KR FR knR))), ((ad 29), .inl (cI, 53, .inl (sF nM dM tM dayM alM ndM bbM ooM KM FM knM))), ((ad 30), .inl (cI, 8, .inl (nF ke))), ((ad 31), .inl (cI, 8, .inl (nF so))), ((ad 32), .inl (cI, 8, .inl (nF zz))), ((ad 33), .inl (cI, 800, .inl el)), ((ad 34), .inl (cI, 8, .inl qk)), ((ad 35), .inl (cI, 8, .inl qf)), ((ad 36), .inl (cI, 2, .inl nu)), ((ad 37), .inl (cI, 512, .inl (oF fe))), ((ad 38), .inl (cI, 512, .inl (oF ea))), ((ad 39), .inl (cI, 512, .inl (oF pr))), (ad 40, .inl (cL, 1, .inr (.inl ov)))]) (w1 := [((ad 25), .inr (12, [.ref (ad 26), .ref (ad 27), .ref (ad 28), .ref (ad 29), .ref (ad 30), .ref (ad 31), .ref (ad 32), .ref (ad 33), .ref (ad 34), .ref (ad 35), .int (bI hi), .int th, .int (nI po), .int (nI ba), .int (nI en), .ref (ad 36), .ref (ad 37), .ref (ad 38), .ref (ad 39), .int se]))] ++ [((ad 26), .inl (cI, 53, .inl (sF n d t day al nd bb oo K F (on2 (oN v1 d) (oN v2 n) (fun y0 v => va_up kn y0 (kn y0 ||| 2 ^ v)) kn))))]) hP hD [0, 1] [2, 3, 4, 5, 6, 7, 8, 9, 10, 11, 12, 13, 14, 15] rfl rfl (by decide) (by decide) hF.2 (fun _ _ => trivial) hP1 hD1
  have hP3 := hP2.sub (ws' := MW cI cL ad hi th po ba en se n d t day al nd bb oo K F (on2 (oN v1 d) (oN v2 n) (fun y0 v => va_up kn y0 (kn y0 ||| 2 ^ v)) kn) nZ dZ tZ dayZ alZ ndZ bbZ ooZ KZ FZ knZ nR dR tR dayR alR ndR bbR ooR KR FR knR nM dM tM dayM alM ndM bbM ooM KM FM knM ke so zz el qk qf nu fe ea pr ov) [14, 15, 0, 1, 2, 3, 4, 5, 6, 7, 8, 9, 10, 11, 12, 13] rfl
  clear hP1 hD1 hP2
  exact ⟨⟨r, (), ho, hr, hX _ _ hXs hF.1 (fun q hq hx => hfr q hq (fun j9 h8 h9 => hx j9 h8 (by omega))), th, ov, po, ba, en, se, nR, dR, tR, dayR, alR, ndR, bbR, ooR, KR, FR, knR, nM, dM, tM, dayM, alM, ndM, bbM, ooM, KM, FM, knM, nu, fe, ea, pr, hP3⟩, hF.1, fun q hq hno => hfr q hq (fun j9 _ hj9 z9 => hno (by rw [z9]; exact hA.2 j9 (by omega)))⟩
set_option maxHeartbeats 4000000 in
set_option maxRecDepth 100000 in
theorem u_X12_comes (l : Launch) (dC : Nat → ClassId) (dI : Nat → Nat → Nat) (cI cD cR : ClassId) (cL : ClassId) (ad : Nat → Nat) (s0 B : Nat) (hA : AdD ad s0) (hB : B ≤ 60000) (hi : Bool) (n d t day al : Nat) (nd : Nat → Nat) (bb oo : Nat → Int32) (K F kn : Nat → Nat) (nZ dZ tZ dayZ alZ : Nat) (ndZ : Nat → Nat) (bbZ ooZ : Nat → Int32) (KZ FZ knZ : Nat → Nat) (ke so zz : Nat → Nat) (el qk qf : Nat → Int32) (X : Heap → Prop) (hX : XK ad X) (hC : CiI B n d t day al nd bb oo K F kn nZ dZ tZ dayZ alZ ndZ bbZ ooZ KZ FZ knZ ke so zz qk qf) (v1 : Int32) : Met l yX12_comes wsX12_comes ({ frames := 9, cells := 0, slots := 0, locals := 340 }) (pcR dC dI cI cD cR [.ref (ad 25), .int v1] (fun H => X H ∧ MT dC dI cI cL ad hi n d t day al nd bb oo K F kn nZ dZ tZ dayZ alZ ndZ bbZ ooZ KZ FZ knZ ke so zz el qk qf H)) (LQ s0 ((on1 (oN v1 8) (fun y9 => if wkR ke y9 = 0 then (bif decide (d < 6) then nI d else -2) else wkR ke y9) (-1))) (fun H => X H ∧ MT dC dI cI cL ad hi n (on1 (oN v1 8) (fun y9 => bif (decide (wkR ke y9 = 0) && decide (d < 6)) then d + 1 else d) (d)) t day (on1 (oN v1 8) (fun y9 => bif (decide (wkR ke y9 = 0) && decide (d < 6)) then al ||| 2 ^ d else al) (al)) nd bb oo (on1 (oN v1 8) (fun y9 => bif (decide (wkR ke y9 = 0) && decide (d < 6)) then va_up K d (nT (qk y9)) else K) (K)) (on1 (oN v1 8) (fun y9 => bif (decide (wkR ke y9 = 0) && decide (d < 6)) then va_up F d (nT (qf y9)) else F) (F)) (on1 (oN v1 8) (fun y9 => bif (decide (wkR ke y9 = 0) && decide (d < 6)) then va_up kn d 0 else kn) (kn)) nZ dZ tZ dayZ alZ ndZ bbZ ooZ KZ FZ knZ ke so zz el qk qf H)) 0 0 (fun q => s0 ≤ q) := by
  refine met_cs (fun a s hs => ?_)
  obtain ⟨rfl, ⟨hXs, hM9⟩, hCX⟩ := hs
  have hM8 := hM9
  obtain ⟨th, ov, po, ba, en, se, nR, dR, tR, dayR, alR, ndR, bbR, ooR, KR, FR, knR, nM, dM, tM, dayM, alM, ndM, bbM, ooM, KM, FM, knM, nu, fe, ea, pr, hP⟩ := hM8
  have hC9 := hC
  obtain ⟨hWS, hWZ, hB1, hB2, gzz, gso, gke2, gkk⟩ := hC9
  have hn := hWS.1
  have hd := hWS.2.1
  have ht := ws_t9 hWS
  have hal : al < 64 := Nat.lt_of_lt_of_le hWS.2.2.2.1 (Nat.pow_le_pow_right (by decide) hd)
  have hday : day < 2 ^ 30 := by omega
  have gnd := hWS.2.2.2.2.1
  have gK := hWS.2.2.2.2.2.2.1
  have gF := hWS.2.2.2.2.2.2.2.1
  have gkn := hWS.2.2.2.2.2.2.2.2.1
  have hE : (MW cI cL ad hi th po ba en se n d t day al nd bb oo K F kn nZ dZ tZ dayZ alZ ndZ bbZ ooZ KZ FZ knZ nR dR tR dayR alR ndR bbR ooR KR FR knR nM dM tM dayM alM ndM bbM ooM KM FM knM ke so zz el qk qf nu fe ea pr ov).map Prod.fst = adL ad 25 16 := MW_ad cI cL ad hi th po ba en se n d t day al nd bb oo K F kn nZ dZ tZ dayZ alZ ndZ bbZ ooZ KZ FZ knZ nR dR tR dayR alR ndR bbR ooR KR FR knR nM dM tM dayM alM ndM bbM ooM KM FM knM ke so zz el qk qf nu fe ea pr ov
  have hPc := hP.sub (ws' := [((ad 25), .inr (12, [.ref (ad 26), .ref (ad 27), .ref (ad 28), .ref (ad 29), .ref (ad 30), .ref (ad 31), .ref (ad 32), .ref (ad 33), .ref (ad 34), .ref (ad 35), .int (bI hi), .int th, .int (nI po), .int (nI ba), .int (nI en), .ref (ad 36), .ref (ad 37), .ref (ad 38), .ref (ad 39), .int se]))] ++ [((ad 26), .inl (cI, 53, .inl (sF n d t day al nd bb oo K F kn)))] ++ [((ad 30), .inl (cI, 8, .inl (nF ke)))] ++ [((ad 34), .inl (cI, 8, .inl qk))] ++ [((ad 35), .inl (cI, 8, .inl qf))]) [0, 1, 5, 9, 10] rfl
  have hD := ws_D hA hE (by omega)
  have hz := s0_le hA hP hE (by omega) (by omega)
  have hDc := hD.sub (ws' := [((ad 25), .inr (12, [.ref (ad 26), .ref (ad 27), .ref (ad 28), .ref (ad 29), .ref (ad 30), .ref (ad 31), .ref (ad 32), .ref (ad 33), .ref (ad 34), .ref (ad 35), .int (bI hi), .int th, .int (nI po), .int (nI ba), .int (nI en), .ref (ad 36), .ref (ad 37), .ref (ad 38), .ref (ad 39), .int se]))] ++ [((ad 26), .inl (cI, 53, .inl (sF n d t day al nd bb oo K F kn)))] ++ [((ad 30), .inl (cI, 8, .inl (nF ke)))] ++ [((ad 34), .inl (cI, 8, .inl qk))] ++ [((ad 35), .inl (cI, 8, .inl qf))]) [0, 1, 5, 9, 10] (by decide) rfl
  refine ⟨_, _, _, _, _, _, c_X12_comes l dC dI cI cD cR (ad 25) (ad 26) (ad 27) (ad 28) (ad 29) (ad 30) (ad 31) (ad 32) (ad 33) (ad 34) (ad 35) hi th po ba en (ad 36) (ad 37) (ad 38) (ad 39) se n d t day al nd bb oo K F kn ke qk qf v1 s.heap.size hn (by omega) ht (by omega) hday gnd gkn gK gF hd gkk gke2, ⟨by decide, by decide, by first | decide | (dsimp only; omega), by first | decide | (dsimp only; omega)⟩, ⟨by first | decide | (dsimp only; omega) | omega, by first | decide | (dsimp only; omega) | omega⟩, ⟨rfl, ⟨rfl, hPc, hDc⟩, hCX⟩, ?_, free_of hA (by omega) hE [0, 1, 5, 9, 10] rfl hz⟩
  rintro o T8 ⟨⟨r, u, ho, hr, hP1, hD1⟩, hF⟩
  have hP1 : va_P (dC, dI) vwCl ([((ad 25), .inr (12, [.ref (ad 26), .ref (ad 27), .ref (ad 28), .ref (ad 29), .ref (ad 30), .ref (ad 31), .ref (ad 32), .ref (ad 33), .ref (ad 34), .ref (ad 35), .int (bI hi), .int th, .int (nI po), .int (nI ba), .int (nI en), .ref (ad 36), .ref (ad 37), .ref (ad 38), .ref (ad 39), .int se]))] ++ [((ad 26), .inl (cI, 53, .inl (sF n (on1 (oN v1 8) (fun y9 => bif (decide (wkR ke y9 = 0) && decide (d < 6)) then d + 1 else d) (d)) t day (on1 (oN v1 8) (fun y9 => bif (decide (wkR ke y9 = 0) && decide (d < 6)) then al ||| 2 ^ d else al) (al)) nd bb oo (on1 (oN v1 8) (fun y9 => bif (decide (wkR ke y9 = 0) && decide (d < 6)) then va_up K d (nT (qk y9)) else K) (K)) (on1 (oN v1 8) (fun y9 => bif (decide (wkR ke y9 = 0) && decide (d < 6)) then va_up F d (nT (qf y9)) else F) (F)) (on1 (oN v1 8) (fun y9 => bif (decide (wkR ke y9 = 0) && decide (d < 6)) then va_up kn d 0 else kn) (kn)))))] ++ [((ad 30), .inl (cI, 8, .inl (nF ke)))] ++ [((ad 34), .inl (cI, 8, .inl qk))] ++ [((ad 35), .inl (cI, 8, .inl qf))]) T8.heap := hP1
  have hfr := fr_of hE [0, 1, 5, 9, 10] rfl hF
  obtain ⟨hP2, -⟩ := va_join (wr := [((ad 27), .inl (cI, 53, .inl (sF nZ dZ tZ dayZ alZ ndZ bbZ ooZ KZ FZ knZ))), ((ad 28), .inl (cI, 53, .inl (sF nR dR tR dayR alR ndR bbR ooR KR FR knR))), ((ad 29), .inl (cI, 53, .inl (sF nM dM tM dayM alM ndM bbM ooM KM FM knM))), ((ad 31), .inl (cI, 8, .inl (nF so))), ((ad 32), .inl (cI, 8, .inl (nF zz))), ((ad 33), .inl (cI, 800, .inl el)), ((ad 36), .inl (cI, 2, .inl nu)), ((ad 37), .inl (cI, 512, .inl (oF fe))), ((ad 38), .inl (cI, 512, .inl (oF ea))), ((ad 39), .inl (cI, 512, .inl (oF pr))), (ad 40, .inl (cL, 1, .inr (.inl ov)))]) (w1 := [((ad 25), .inr (12, [.ref (ad 26), .ref (ad 27), .ref (ad 28), .ref (ad 29), .ref (ad 30), .ref (ad 31), .ref (ad 32), .ref (ad 33), .ref (ad 34), .ref (ad 35), .int (bI hi), .int th, .int (nI po), .int (nI ba), .int (nI en), .ref (ad 36), .ref (ad 37), .ref (ad 38), .ref (ad 39), .int se]))] ++ [((ad 26), .inl (cI, 53, .inl (sF n (on1 (oN v1 8) (fun y9 => bif (decide (wkR ke y9 = 0) && decide (d < 6)) then d + 1 else d) (d)) t day (on1 (oN v1 8) (fun y9 => bif (decide (wkR ke y9 = 0) && decide (d < 6)) then al ||| 2 ^ d else al) (al)) nd bb oo (on1 (oN v1 8) (fun y9 => bif (decide (wkR ke y9 = 0) && decide (d < 6)) then va_up K d (nT (qk y9)) else K) (K)) (on1 (oN v1 8) (fun y9 => bif (decide (wkR ke y9 = 0) && decide (d < 6)) then va_up F d (nT (qf y9)) else F) (F)) (on1 (oN v1 8) (fun y9 => bif (decide (wkR ke y9 = 0) && decide (d < 6)) then va_up kn d 0 else kn) (kn)))))] ++ [((ad 30), .inl (cI, 8, .inl (nF ke)))] ++ [((ad 34), .inl (cI, 8, .inl qk))] ++ [((ad 35), .inl (cI, 8, .inl qf))]) hP hD [0, 1, 5, 9, 10] [2, 3, 4, 6, 7, 8, 11, 12, 13, 14, 15] rfl rfl (by decide) (by decide) hF.2 (fun _ _ => trivial) hP1 hD1
  have hP3 := hP2.sub (ws' := MW cI cL ad hi th po ba en se n (on1 (oN v1 8) (fun y9 => bif (decide (wkR ke y9 = 0) && decide (d < 6)) then d + 1 else d) (d)) t day (on1 (oN v1 8) (fun y9 => bif (decide (wkR ke y9 = 0) && decide (d < 6)) then al ||| 2 ^ d else al) (al)) nd bb oo (on1 (oN v1 8) (fun y9 => bif (decide (wkR ke y9 = 0) && decide (d < 6)) then va_up K d (nT (qk y9)) else K) (K)) (on1 (oN v1 8) (fun y9 => bif (decide (wkR ke y9 = 0) && decide (d < 6)) then va_up F d (nT (qf y9)) else F) (F)) (on1 (oN v1 8) (fun y9 => bif (decide (wkR ke y9 = 0) && decide (d < 6)) then va_up kn d 0 else kn) (kn)) nZ dZ tZ dayZ alZ ndZ bbZ ooZ KZ FZ knZ nR dR tR dayR alR ndR bbR ooR KR FR knR nM dM tM dayM alM ndM bbM ooM KM FM knM ke so zz el qk qf nu fe ea pr ov) [11, 12, 0, 1, 2, 13, 3, 4, 5, 14, 15, 6, 7, 8, 9, 10] rfl
  clear hP1 hD1 hP2
  exact ⟨⟨r, (), ho, hr, hX _ _ hXs hF.1 (fun q hq hx => hfr q hq (fun j9 h8 h9 => hx j9 h8 (by omega))), th, ov, po, ba, en, se, nR, dR, tR, dayR, alR, ndR, bbR, ooR, KR, FR, knR, nM, dM, tM, dayM, alM, ndM, bbM, ooM, KM, FM, knM, nu, fe, ea, pr, hP3⟩, hF.1, fun q hq hno => hfr q hq (fun j9 _ hj9 z9 => hno (by rw [z9]; exact hA.2 j9 (by omega)))⟩
