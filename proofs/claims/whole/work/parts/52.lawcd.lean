set_option maxHeartbeats 4000000 in
set_option maxRecDepth 100000 in
theorem u_X11_run (l : Launch) (dC : Nat → ClassId) (dI : Nat → Nat → Nat) (cI cD cR : ClassId) (ad : Nat → Nat) (s0 B : Nat) (hA : AdD ad s0) (hB : B ≤ 60000) (hi : Bool) (n d t day al : Nat) (nd : Nat → Nat) (bb oo : Nat → Int32) (K F kn : Nat → Nat) (nZ dZ tZ dayZ alZ : Nat) (ndZ : Nat → Nat) (bbZ ooZ : Nat → Int32) (KZ FZ knZ : Nat → Nat) (ke so zz : Nat → Nat) (el qk qf : Nat → Int32) (Y : Heap → Prop) (hY : YK ad Y) (v1 : Int32) (v2 : Int32) : Met l yX11_run wsX11_run ({ frames := 9, cells := 0, slots := 0, locals := 340 }) (pcR dC dI cI cD cR [.ref (ad 0), .int v1, .int v2] (fun H => XS dC dI cI cD cR ad s0 B hi n d t day al nd bb oo K F kn nZ dZ tZ dayZ alZ ndZ bbZ ooZ KZ FZ knZ ke so zz el qk qf H ∧ Y H)) (LQ s0 ((on1 (oN v1 8) (fun y9 => bif okI v2 2 then (if wrR ke so y9 = 0 then (bif (decide (zz y9 % 2 = 0) && (decide (zz y9 ≤ 24) && adF (fun i9 => el (100 * y9 + i9)) d n (zz y9 / 2))) then (if v2 = 0 then nI (pcN (rnF al nd K F (fun i9 => el (100 * y9 + i9)) (day, t, kn) (zz y9 / 2)).2.1) else nI (rnM al nd K F (fun i9 => el (100 * y9 + i9)) (day, t, kn) (zz y9 / 2))) else -13) else wrR ke so y9) else -1) (-1))) (fun H => XS dC dI cI cD cR ad s0 (B + 100) hi n d t day al nd bb oo K F kn nZ dZ tZ dayZ alZ ndZ bbZ ooZ KZ FZ knZ ke so zz el qk qf H ∧ Y H)) 0 0 (fun q => s0 ≤ q) := by
  refine met_cs (fun a s hs => ?_)
  obtain ⟨rfl, ⟨hX9, hYs⟩, hCX⟩ := hs
  have hX8 := hX9
  obtain ⟨hC, mk, si, mb, nM, dM, tM, dayM, alM, ndM, mkM, siM, knM, mbM, mkP, siP, mbP, sa, lk, ef, le, dm, rm, DL, kd, fg, RL, rc, rs, rz, rf, hP, hDP, hRP, hO, hRS, hRZ, hSH, hef, hlt⟩ := hX8
  have hC9 := hC
  obtain ⟨hWS, hWZ, hB1, hB2, gzz, gso, gke2, gkk⟩ := hC9
  have hn := hWS.1
  have hd := hWS.2.1
  have ht := ws_t9 hWS
  have hal : al < 64 := Nat.lt_of_lt_of_le hWS.2.2.2.1 (Nat.pow_le_pow_right (by decide) hd)
  have hday : day < 2 ^ 30 := by omega
  have gnd := hWS.2.2.2.2.1
  have gK := hWS.2.2.2.2.2.2.1
  have gF := hWS.2.2.2.2.2.2.2.1
  have gkn := hWS.2.2.2.2.2.2.2.2.1
  have hkk : ∀ a9 ∈ DL, kd a9 < 8 ∧ fg a9 < 10 := fun a9 ha9 => (hDP a9 ha9).2
  have hE : (XW cI cD cR ad hi n d t day al nd mk si kn mb nM dM tM dayM alM ndM mkM siM knM mbM nZ dZ tZ dayZ alZ ndZ mkP siP knZ mbP sa lk ef le dm rm).map Prod.fst = adL ad 0 25 := rfl
  have hPc := hP.sub (ws' := [((ad 0), .inr (11, [.ref (ad 1), .ref (ad 7), .ref (ad 13), .int (bI hi), .ref (ad 19), .ref (ad 23), .ref (ad 24)]))] ++ (schW cI cD (ad 1) (ad 2) (ad 3) (ad 4) (ad 5) (ad 6) n d t al day nd mk si kn mb) ++ (schW cI cD (ad 7) (ad 8) (ad 9) (ad 10) (ad 11) (ad 12) nM dM tM alM dayM ndM mkM siM knM mbM) ++ [((ad 23), .inl (cD, 8, .inr (.inr (.inr (.inr dm)))))] ++ [((ad 24), .inl (cR, 8, .inr (.inr (.inr (.inr rm)))))]) [0, 1, 2, 3, 4, 5, 6, 7, 8, 9, 10, 11, 12, 23, 24] rfl
  have hD := ws_D hA hE (by omega)
  have hz := s0_le hA hP hE (by omega) (by omega)
  have hDc := hD.sub (ws' := [((ad 0), .inr (11, [.ref (ad 1), .ref (ad 7), .ref (ad 13), .int (bI hi), .ref (ad 19), .ref (ad 23), .ref (ad 24)]))] ++ (schW cI cD (ad 1) (ad 2) (ad 3) (ad 4) (ad 5) (ad 6) n d t al day nd mk si kn mb) ++ (schW cI cD (ad 7) (ad 8) (ad 9) (ad 10) (ad 11) (ad 12) nM dM tM alM dayM ndM mkM siM knM mbM) ++ [((ad 23), .inl (cD, 8, .inr (.inr (.inr (.inr dm)))))] ++ [((ad 24), .inl (cR, 8, .inr (.inr (.inr (.inr rm)))))]) [0, 1, 2, 3, 4, 5, 6, 7, 8, 9, 10, 11, 12, 23, 24] (by decide) rfl
  refine ⟨_, _, _, _, _, _, c_X11_run l dC dI cI cD cR (ad 0) (ad 1) (ad 7) (ad 13) hi (ad 19) (ad 23) (ad 24) (ad 2) (ad 3) (ad 4) (ad 5) (ad 6) n d t al day nd mk si kn mb (ad 8) (ad 9) (ad 10) (ad 11) (ad 12) nM dM tM alM dayM ndM mkM siM knM mbM dm rm v1 v2 DL kd fg RL rc rs rz rf s.heap.size hn hd ht hal hday gnd gkn hRS.gmb hRS.2.2.2 hRS.gms hSH.2.1 (by omega) (fun a9 ha9 => not_in hA hE (by omega) [0, 1, 2, 3, 4, 5, 6, 7, 8, 9, 10, 11, 12, 23, 24] rfl (hDP.lt ha9) (hO.1 a9 ha9)) (fun r9 hr9 => ⟨not_in hA hE (by omega) [0, 1, 2, 3, 4, 5, 6, 7, 8, 9, 10, 11, 12, 23, 24] rfl (hRP.lt1 hr9) (fun j9 hj9 => ((hO.2.1 r9 hr9).1 j9 hj9).1), not_in hA hE (by omega) [0, 1, 2, 3, 4, 5, 6, 7, 8, 9, 10, 11, 12, 23, 24] rfl (hRP.lt2 hr9) (fun j9 hj9 => ((hO.2.1 r9 hr9).1 j9 hj9).2)⟩), ⟨by decide, by decide, by first | decide | (dsimp only; omega), by first | decide | (dsimp only; omega)⟩, ⟨by first | decide | (dsimp only; omega) | omega, by first | decide | (dsimp only; omega) | omega⟩, ⟨rfl, ⟨rfl, hPc, hDc, hDP, hRP⟩, hCX⟩, ?_, free_of hA (by omega) hE [0, 1, 2, 3, 4, 5, 6, 7, 8, 9, 10, 11, 12, 23, 24] rfl hz⟩
  rintro o T8 ⟨⟨r, ⟨nM9, dM9, tM9, alM9, dayM9, ndM9, mkM9, siM9, knM9, mbM9⟩, ho, hr, hP1, hD1⟩, hF⟩
  have hP1 : va_P (dC, dI) vwCl ([((ad 0), .inr (11, [.ref (ad 1), .ref (ad 7), .ref (ad 13), .int (bI hi), .ref (ad 19), .ref (ad 23), .ref (ad 24)]))] ++ (schW cI cD (ad 1) (ad 2) (ad 3) (ad 4) (ad 5) (ad 6) n d t al day nd mk si kn mb) ++ (schW cI cD (ad 7) (ad 8) (ad 9) (ad 10) (ad 11) (ad 12) nM9 dM9 tM9 alM9 dayM9 ndM9 mkM9 siM9 knM9 mbM9) ++ [((ad 23), .inl (cD, 8, .inr (.inr (.inr (.inr dm)))))] ++ [((ad 24), .inl (cR, 8, .inr (.inr (.inr (.inr rm)))))]) T8.heap := hP1
  have hfr := fr_of hE [0, 1, 2, 3, 4, 5, 6, 7, 8, 9, 10, 11, 12, 23, 24] rfl hF
  obtain ⟨hP2, -⟩ := va_join (wr := (schW cI cD (ad 13) (ad 14) (ad 15) (ad 16) (ad 17) (ad 18) nZ dZ tZ alZ dayZ ndZ mkP siP knZ mbP) ++ (forW cI (ad 19) (ad 20) (ad 21) (ad 22) sa lk ef le)) (w1 := [((ad 0), .inr (11, [.ref (ad 1), .ref (ad 7), .ref (ad 13), .int (bI hi), .ref (ad 19), .ref (ad 23), .ref (ad 24)]))] ++ (schW cI cD (ad 1) (ad 2) (ad 3) (ad 4) (ad 5) (ad 6) n d t al day nd mk si kn mb) ++ (schW cI cD (ad 7) (ad 8) (ad 9) (ad 10) (ad 11) (ad 12) nM9 dM9 tM9 alM9 dayM9 ndM9 mkM9 siM9 knM9 mbM9) ++ [((ad 23), .inl (cD, 8, .inr (.inr (.inr (.inr dm)))))] ++ [((ad 24), .inl (cR, 8, .inr (.inr (.inr (.inr rm)))))]) hP hD [0, 1, 2, 3, 4, 5, 6, 7, 8, 9, 10, 11, 12, 23, 24] [13, 14, 15, 16, 17, 18, 19, 20, 21, 22] rfl rfl (by decide) (by decide) hF.2 (fun _ _ => trivial) hP1 hD1
  have hP3 := hP2.sub (ws' := XW cI cD cR ad hi n d t day al nd mk si kn mb nM9 dM9 tM9 dayM9 alM9 ndM9 mkM9 siM9 knM9 mbM9 nZ dZ tZ dayZ alZ ndZ mkP siP knZ mbP sa lk ef le dm rm) [10, 11, 12, 13, 14, 15, 16, 17, 18, 19, 20, 21, 22, 0, 1, 2, 3, 4, 5, 6, 7, 8, 9, 23, 24] rfl
  clear hP1 hD1 hP2
  exact ⟨⟨r, (), ho, hr.trans (r_run hRS hd hSH _ _), ⟨⟨hWS, hWZ, (by omega), (by omega), gzz, gso, gke2, gkk⟩, mk, si, mb, nM9, dM9, tM9, dayM9, alM9, ndM9, mkM9, siM9, knM9, mbM9, mkP, siP, mbP, sa, lk, ef, le, dm, rm, DL, kd, fg, RL, rc, rs, rz, rf, hP3, (hDP.go hO (fun q hq hno => hfr q hq (fun j9 _ hj9 => hno j9 (by omega)))), (hRP.go hO (fun q hq hno => hfr q hq (fun j9 _ hj9 => hno j9 (by omega)))), hO, hRS, hRZ, hSH, hef, fun j9 hj9 => Nat.lt_of_lt_of_le (hlt j9 hj9) hF.1⟩, hY _ _ hYs hF.1 (fun q hq hx => hfr q hq (fun j9 h8 h9 z9 => by obtain ⟨i9, g1, g2, g3⟩ := hx; have := hA.1 i9 j9 g2 (by omega) (g3.symm.trans z9); omega))⟩, hF.1, fun q hq hno => hfr q hq (fun j9 _ hj9 z9 => hno (by rw [z9]; exact hA.2 j9 (by omega)))⟩
set_option maxHeartbeats 4000000 in
set_option maxRecDepth 100000 in
theorem u_X11_judge (l : Launch) (dC : Nat → ClassId) (dI : Nat → Nat → Nat) (cI cD cR : ClassId) (ad : Nat → Nat) (s0 B : Nat) (hA : AdD ad s0) (hB : B ≤ 60000) (hi : Bool) (n d t day al : Nat) (nd : Nat → Nat) (bb oo : Nat → Int32) (K F kn : Nat → Nat) (nZ dZ tZ dayZ alZ : Nat) (ndZ : Nat → Nat) (bbZ ooZ : Nat → Int32) (KZ FZ knZ : Nat → Nat) (ke so zz : Nat → Nat) (el qk qf : Nat → Int32) (Y : Heap → Prop) (hY : YK ad Y) (v1 : Int32) : Met l yX11_judge wsX11_judge ({ frames := 9, cells := 0, slots := 0, locals := 340 }) (pcR dC dI cI cD cR [.ref (ad 0), .int v1] (fun H => XS dC dI cI cD cR ad s0 B hi n d t day al nd bb oo K F kn nZ dZ tZ dayZ alZ ndZ bbZ ooZ KZ FZ knZ ke so zz el qk qf H ∧ Y H)) (LQ s0 ((on1 (oN v1 8) (fun y1 => if wrS ke y1 = 0 then jdF al n d nd K F (fun q9 => el (100 * y1 + q9)) (zz y1) 35 0 (day, t, kn) else wrS ke y1) (-1))) (fun H => XS dC dI cI cD cR ad s0 (B + 100) hi n d t day al nd bb oo K F kn nZ dZ tZ dayZ alZ ndZ bbZ ooZ KZ FZ knZ ke so zz el qk qf H ∧ Y H)) 0 0 (fun q => s0 ≤ q) := by
  refine met_cs (fun a s hs => ?_)
  obtain ⟨rfl, ⟨hX9, hYs⟩, hCX⟩ := hs
  have hX8 := hX9
  obtain ⟨hC, mk, si, mb, nM, dM, tM, dayM, alM, ndM, mkM, siM, knM, mbM, mkP, siP, mbP, sa, lk, ef, le, dm, rm, DL, kd, fg, RL, rc, rs, rz, rf, hP, hDP, hRP, hO, hRS, hRZ, hSH, hef, hlt⟩ := hX8
  have hC9 := hC
  obtain ⟨hWS, hWZ, hB1, hB2, gzz, gso, gke2, gkk⟩ := hC9
  have hn := hWS.1
  have hd := hWS.2.1
  have ht := ws_t9 hWS
  have hal : al < 64 := Nat.lt_of_lt_of_le hWS.2.2.2.1 (Nat.pow_le_pow_right (by decide) hd)
  have hday : day < 2 ^ 30 := by omega
  have gnd := hWS.2.2.2.2.1
  have gK := hWS.2.2.2.2.2.2.1
  have gF := hWS.2.2.2.2.2.2.2.1
  have gkn := hWS.2.2.2.2.2.2.2.2.1
  have hkk : ∀ a9 ∈ DL, kd a9 < 8 ∧ fg a9 < 10 := fun a9 ha9 => (hDP a9 ha9).2
  have hE : (XW cI cD cR ad hi n d t day al nd mk si kn mb nM dM tM dayM alM ndM mkM siM knM mbM nZ dZ tZ dayZ alZ ndZ mkP siP knZ mbP sa lk ef le dm rm).map Prod.fst = adL ad 0 25 := rfl
  have hPc := hP.sub (ws' := [((ad 0), .inr (11, [.ref (ad 1), .ref (ad 7), .ref (ad 13), .int (bI hi), .ref (ad 19), .ref (ad 23), .ref (ad 24)]))] ++ (schW cI cD (ad 1) (ad 2) (ad 3) (ad 4) (ad 5) (ad 6) n d t al day nd mk si kn mb) ++ (schW cI cD (ad 7) (ad 8) (ad 9) (ad 10) (ad 11) (ad 12) nM dM tM alM dayM ndM mkM siM knM mbM) ++ [((ad 23), .inl (cD, 8, .inr (.inr (.inr (.inr dm)))))] ++ [((ad 24), .inl (cR, 8, .inr (.inr (.inr (.inr rm)))))]) [0, 1, 2, 3, 4, 5, 6, 7, 8, 9, 10, 11, 12, 23, 24] rfl
  have hD := ws_D hA hE (by omega)
  have hz := s0_le hA hP hE (by omega) (by omega)
  have hDc := hD.sub (ws' := [((ad 0), .inr (11, [.ref (ad 1), .ref (ad 7), .ref (ad 13), .int (bI hi), .ref (ad 19), .ref (ad 23), .ref (ad 24)]))] ++ (schW cI cD (ad 1) (ad 2) (ad 3) (ad 4) (ad 5) (ad 6) n d t al day nd mk si kn mb) ++ (schW cI cD (ad 7) (ad 8) (ad 9) (ad 10) (ad 11) (ad 12) nM dM tM alM dayM ndM mkM siM knM mbM) ++ [((ad 23), .inl (cD, 8, .inr (.inr (.inr (.inr dm)))))] ++ [((ad 24), .inl (cR, 8, .inr (.inr (.inr (.inr rm)))))]) [0, 1, 2, 3, 4, 5, 6, 7, 8, 9, 10, 11, 12, 23, 24] (by decide) rfl
  refine ⟨_, _, _, _, _, _, c_X11_judge l dC dI cI cD cR (ad 0) (ad 1) (ad 7) (ad 13) hi (ad 19) (ad 23) (ad 24) (ad 2) (ad 3) (ad 4) (ad 5) (ad 6) n d t al day nd mk si kn mb (ad 8) (ad 9) (ad 10) (ad 11) (ad 12) nM dM tM alM dayM ndM mkM siM knM mbM dm rm v1 DL kd fg RL rc rs rz rf s.heap.size hn hd ht hal hday gnd gkn hRS.gmb hRS.2.2.2 hRS.gms hSH.2.1 (by omega) (fun a9 ha9 => not_in hA hE (by omega) [0, 1, 2, 3, 4, 5, 6, 7, 8, 9, 10, 11, 12, 23, 24] rfl (hDP.lt ha9) (hO.1 a9 ha9)) (fun r9 hr9 => ⟨not_in hA hE (by omega) [0, 1, 2, 3, 4, 5, 6, 7, 8, 9, 10, 11, 12, 23, 24] rfl (hRP.lt1 hr9) (fun j9 hj9 => ((hO.2.1 r9 hr9).1 j9 hj9).1), not_in hA hE (by omega) [0, 1, 2, 3, 4, 5, 6, 7, 8, 9, 10, 11, 12, 23, 24] rfl (hRP.lt2 hr9) (fun j9 hj9 => ((hO.2.1 r9 hr9).1 j9 hj9).2)⟩), ⟨by decide, by decide, by first | decide | (dsimp only; omega), by first | decide | (dsimp only; omega)⟩, ⟨by first | decide | (dsimp only; omega) | omega, by first | decide | (dsimp only; omega) | omega⟩, ⟨rfl, ⟨rfl, hPc, hDc, hDP, hRP⟩, hCX⟩, ?_, free_of hA (by omega) hE [0, 1, 2, 3, 4, 5, 6, 7, 8, 9, 10, 11, 12, 23, 24] rfl hz⟩
  rintro o T8 ⟨⟨r, ⟨nM9, dM9, tM9, alM9, dayM9, ndM9, mkM9, siM9, knM9, mbM9⟩, ho, hr, hP1, hD1⟩, hF⟩
  have hP1 : va_P (dC, dI) vwCl ([((ad 0), .inr (11, [.ref (ad 1), .ref (ad 7), .ref (ad 13), .int (bI hi), .ref (ad 19), .ref (ad 23), .ref (ad 24)]))] ++ (schW cI cD (ad 1) (ad 2) (ad 3) (ad 4) (ad 5) (ad 6) n d t al day nd mk si kn mb) ++ (schW cI cD (ad 7) (ad 8) (ad 9) (ad 10) (ad 11) (ad 12) nM9 dM9 tM9 alM9 dayM9 ndM9 mkM9 siM9 knM9 mbM9) ++ [((ad 23), .inl (cD, 8, .inr (.inr (.inr (.inr dm)))))] ++ [((ad 24), .inl (cR, 8, .inr (.inr (.inr (.inr rm)))))]) T8.heap := hP1
  have hfr := fr_of hE [0, 1, 2, 3, 4, 5, 6, 7, 8, 9, 10, 11, 12, 23, 24] rfl hF
  obtain ⟨hP2, -⟩ := va_join (wr := (schW cI cD (ad 13) (ad 14) (ad 15) (ad 16) (ad 17) (ad 18) nZ dZ tZ alZ dayZ ndZ mkP siP knZ mbP) ++ (forW cI (ad 19) (ad 20) (ad 21) (ad 22) sa lk ef le)) (w1 := [((ad 0), .inr (11, [.ref (ad 1), .ref (ad 7), .ref (ad 13), .int (bI hi), .ref (ad 19), .ref (ad 23), .ref (ad 24)]))] ++ (schW cI cD (ad 1) (ad 2) (ad 3) (ad 4) (ad 5) (ad 6) n d t al day nd mk si kn mb) ++ (schW cI cD (ad 7) (ad 8) (ad 9) (ad 10) (ad 11) (ad 12) nM9 dM9 tM9 alM9 dayM9 ndM9 mkM9 siM9 knM9 mbM9) ++ [((ad 23), .inl (cD, 8, .inr (.inr (.inr (.inr dm)))))] ++ [((ad 24), .inl (cR, 8, .inr (.inr (.inr (.inr rm)))))]) hP hD [0, 1, 2, 3, 4, 5, 6, 7, 8, 9, 10, 11, 12, 23, 24] [13, 14, 15, 16, 17, 18, 19, 20, 21, 22] rfl rfl (by decide) (by decide) hF.2 (fun _ _ => trivial) hP1 hD1
  have hP3 := hP2.sub (ws' := XW cI cD cR ad hi n d t day al nd mk si kn mb nM9 dM9 tM9 dayM9 alM9 ndM9 mkM9 siM9 knM9 mbM9 nZ dZ tZ dayZ alZ ndZ mkP siP knZ mbP sa lk ef le dm rm) [10, 11, 12, 13, 14, 15, 16, 17, 18, 19, 20, 21, 22, 0, 1, 2, 3, 4, 5, 6, 7, 8, 9, 23, 24] rfl
  clear hP1 hD1 hP2
  exact ⟨⟨r, (), ho, hr.trans (r_judge hRS hd hSH _), ⟨⟨hWS, hWZ, (by omega), (by omega), gzz, gso, gke2, gkk⟩, mk, si, mb, nM9, dM9, tM9, dayM9, alM9, ndM9, mkM9, siM9, knM9, mbM9, mkP, siP, mbP, sa, lk, ef, le, dm, rm, DL, kd, fg, RL, rc, rs, rz, rf, hP3, (hDP.go hO (fun q hq hno => hfr q hq (fun j9 _ hj9 => hno j9 (by omega)))), (hRP.go hO (fun q hq hno => hfr q hq (fun j9 _ hj9 => hno j9 (by omega)))), hO, hRS, hRZ, hSH, hef, fun j9 hj9 => Nat.lt_of_lt_of_le (hlt j9 hj9) hF.1⟩, hY _ _ hYs hF.1 (fun q hq hx => hfr q hq (fun j9 h8 h9 z9 => by obtain ⟨i9, g1, g2, g3⟩ := hx; have := hA.1 i9 j9 g2 (by omega) (g3.symm.trans z9); omega))⟩, hF.1, fun q hq hno => hfr q hq (fun j9 _ hj9 z9 => hno (by rw [z9]; exact hA.2 j9 (by omega)))⟩
set_option maxHeartbeats 4000000 in
set_option maxRecDepth 100000 in
theorem u_X11_seeded (l : Launch) (dC : Nat → ClassId) (dI : Nat → Nat → Nat) (cI cD cR : ClassId) (ad : Nat → Nat) (s0 B : Nat) (hA : AdD ad s0) (hB : B ≤ 60000) (hi : Bool) (n d t day al : Nat) (nd : Nat → Nat) (bb oo : Nat → Int32) (K F kn : Nat → Nat) (nZ dZ tZ dayZ alZ : Nat) (ndZ : Nat → Nat) (bbZ ooZ : Nat → Int32) (KZ FZ knZ : Nat → Nat) (ke so zz : Nat → Nat) (el qk qf : Nat → Int32) (Y : Heap → Prop) (hY : YK ad Y) (v1 : Int32) (v2 : Int32) : Met l yX11_seeded wsX11_seeded ({ frames := 9, cells := 0, slots := 0, locals := 340 }) (pcR dC dI cI cD cR [.ref (ad 0), .int v1, .int v2] (fun H => XS dC dI cI cD cR ad s0 B hi n d t day al nd bb oo K F kn nZ dZ tZ dayZ alZ ndZ bbZ ooZ KZ FZ knZ ke so zz el qk qf H ∧ Y H)) (LQ s0 ((on1 (sdO v1) (fun k => bif decide (d < 1) || decide (n < 1) then -3 else nI (pcN (sdF_ al d n nd K F v2 (day, t, kn) k).2.1)) (-1))) (fun H => XS dC dI cI cD cR ad s0 (B + 100) hi n d t day al nd bb oo K F kn nZ dZ tZ dayZ alZ ndZ bbZ ooZ KZ FZ knZ ke so zz el qk qf H ∧ Y H)) 0 0 (fun q => s0 ≤ q) := by
  refine met_cs (fun a s hs => ?_)
  obtain ⟨rfl, ⟨hX9, hYs⟩, hCX⟩ := hs
  have hX8 := hX9
  obtain ⟨hC, mk, si, mb, nM, dM, tM, dayM, alM, ndM, mkM, siM, knM, mbM, mkP, siP, mbP, sa, lk, ef, le, dm, rm, DL, kd, fg, RL, rc, rs, rz, rf, hP, hDP, hRP, hO, hRS, hRZ, hSH, hef, hlt⟩ := hX8
  have hC9 := hC
  obtain ⟨hWS, hWZ, hB1, hB2, gzz, gso, gke2, gkk⟩ := hC9
  have hn := hWS.1
  have hd := hWS.2.1
  have ht := ws_t9 hWS
  have hal : al < 64 := Nat.lt_of_lt_of_le hWS.2.2.2.1 (Nat.pow_le_pow_right (by decide) hd)
  have hday : day < 2 ^ 30 := by omega
  have gnd := hWS.2.2.2.2.1
  have gK := hWS.2.2.2.2.2.2.1
  have gF := hWS.2.2.2.2.2.2.2.1
  have gkn := hWS.2.2.2.2.2.2.2.2.1
  have hkk : ∀ a9 ∈ DL, kd a9 < 8 ∧ fg a9 < 10 := fun a9 ha9 => (hDP a9 ha9).2
  have hE : (XW cI cD cR ad hi n d t day al nd mk si kn mb nM dM tM dayM alM ndM mkM siM knM mbM nZ dZ tZ dayZ alZ ndZ mkP siP knZ mbP sa lk ef le dm rm).map Prod.fst = adL ad 0 25 := rfl
  have hPc := hP.sub (ws' := [((ad 0), .inr (11, [.ref (ad 1), .ref (ad 7), .ref (ad 13), .int (bI hi), .ref (ad 19), .ref (ad 23), .ref (ad 24)]))] ++ (schW cI cD (ad 1) (ad 2) (ad 3) (ad 4) (ad 5) (ad 6) n d t al day nd mk si kn mb) ++ (schW cI cD (ad 7) (ad 8) (ad 9) (ad 10) (ad 11) (ad 12) nM dM tM alM dayM ndM mkM siM knM mbM)) [0, 1, 2, 3, 4, 5, 6, 7, 8, 9, 10, 11, 12] rfl
  have hD := ws_D hA hE (by omega)
  have hz := s0_le hA hP hE (by omega) (by omega)
  have hDc := hD.sub (ws' := [((ad 0), .inr (11, [.ref (ad 1), .ref (ad 7), .ref (ad 13), .int (bI hi), .ref (ad 19), .ref (ad 23), .ref (ad 24)]))] ++ (schW cI cD (ad 1) (ad 2) (ad 3) (ad 4) (ad 5) (ad 6) n d t al day nd mk si kn mb) ++ (schW cI cD (ad 7) (ad 8) (ad 9) (ad 10) (ad 11) (ad 12) nM dM tM alM dayM ndM mkM siM knM mbM)) [0, 1, 2, 3, 4, 5, 6, 7, 8, 9, 10, 11, 12] (by decide) rfl
  refine ⟨_, _, _, _, _, _, c_X11_seeded l dC dI cI cD cR (ad 0) (ad 1) (ad 7) (ad 13) hi (ad 19) (ad 23) (ad 24) (ad 2) (ad 3) (ad 4) (ad 5) (ad 6) n d t al day nd mk si kn mb (ad 8) (ad 9) (ad 10) (ad 11) (ad 12) nM dM tM alM dayM ndM mkM siM knM mbM v1 v2 DL kd fg s.heap.size hn hd ht hal hday gnd gkn hRS.gmb hRS.2.2.2 hRS.gms (by omega) (fun a9 ha9 => not_in hA hE (by omega) [0, 1, 2, 3, 4, 5, 6, 7, 8, 9, 10, 11, 12] rfl (hDP.lt ha9) (hO.1 a9 ha9)), ⟨by decide, by decide, by first | decide | (dsimp only; omega), by first | decide | (dsimp only; omega)⟩, ⟨by first | decide | (dsimp only; omega) | omega, by first | decide | (dsimp only; omega) | omega⟩, ⟨rfl, ⟨rfl, hPc, hDc, hDP⟩, hCX⟩, ?_, free_of hA (by omega) hE [0, 1, 2, 3, 4, 5, 6, 7, 8, 9, 10, 11, 12] rfl hz⟩
  rintro o T8 ⟨⟨r, ⟨nM9, dM9, tM9, alM9, dayM9, ndM9, mkM9, siM9, knM9, mbM9⟩, ho, hr, hP1, hD1⟩, hF⟩
  have hP1 : va_P (dC, dI) vwCl ([((ad 0), .inr (11, [.ref (ad 1), .ref (ad 7), .ref (ad 13), .int (bI hi), .ref (ad 19), .ref (ad 23), .ref (ad 24)]))] ++ (schW cI cD (ad 1) (ad 2) (ad 3) (ad 4) (ad 5) (ad 6) n d t al day nd mk si kn mb) ++ (schW cI cD (ad 7) (ad 8) (ad 9) (ad 10) (ad 11) (ad 12) nM9 dM9 tM9 alM9 dayM9 ndM9 mkM9 siM9 knM9 mbM9)) T8.heap := hP1
  have hfr := fr_of hE [0, 1, 2, 3, 4, 5, 6, 7, 8, 9, 10, 11, 12] rfl hF
  obtain ⟨hP2, -⟩ := va_join (wr := (schW cI cD (ad 13) (ad 14) (ad 15) (ad 16) (ad 17) (ad 18) nZ dZ tZ alZ dayZ ndZ mkP siP knZ mbP) ++ (forW cI (ad 19) (ad 20) (ad 21) (ad 22) sa lk ef le) ++ [((ad 23), .inl (cD, 8, .inr (.inr (.inr (.inr dm)))))] ++ [((ad 24), .inl (cR, 8, .inr (.inr (.inr (.inr rm)))))]) (w1 := [((ad 0), .inr (11, [.ref (ad 1), .ref (ad 7), .ref (ad 13), .int (bI hi), .ref (ad 19), .ref (ad 23), .ref (ad 24)]))] ++ (schW cI cD (ad 1) (ad 2) (ad 3) (ad 4) (ad 5) (ad 6) n d t al day nd mk si kn mb) ++ (schW cI cD (ad 7) (ad 8) (ad 9) (ad 10) (ad 11) (ad 12) nM9 dM9 tM9 alM9 dayM9 ndM9 mkM9 siM9 knM9 mbM9)) hP hD [0, 1, 2, 3, 4, 5, 6, 7, 8, 9, 10, 11, 12] [13, 14, 15, 16, 17, 18, 19, 20, 21, 22, 23, 24] rfl rfl (by decide) (by decide) hF.2 (fun _ _ => trivial) hP1 hD1
  have hP3 := hP2.sub (ws' := XW cI cD cR ad hi n d t day al nd mk si kn mb nM9 dM9 tM9 dayM9 alM9 ndM9 mkM9 siM9 knM9 mbM9 nZ dZ tZ dayZ alZ ndZ mkP siP knZ mbP sa lk ef le dm rm) [12, 13, 14, 15, 16, 17, 18, 19, 20, 21, 22, 23, 24, 0, 1, 2, 3, 4, 5, 6, 7, 8, 9, 10, 11] rfl
  clear hP1 hD1 hP2
  exact ⟨⟨r, (), ho, hr.trans (r_seed hRS _ _), ⟨⟨hWS, hWZ, (by omega), (by omega), gzz, gso, gke2, gkk⟩, mk, si, mb, nM9, dM9, tM9, dayM9, alM9, ndM9, mkM9, siM9, knM9, mbM9, mkP, siP, mbP, sa, lk, ef, le, dm, rm, DL, kd, fg, RL, rc, rs, rz, rf, hP3, (hDP.go hO (fun q hq hno => hfr q hq (fun j9 _ hj9 => hno j9 (by omega)))), (hRP.go hO (fun q hq hno => hfr q hq (fun j9 _ hj9 => hno j9 (by omega)))), hO, hRS, hRZ, hSH, hef, fun j9 hj9 => Nat.lt_of_lt_of_le (hlt j9 hj9) hF.1⟩, hY _ _ hYs hF.1 (fun q hq hx => hfr q hq (fun j9 h8 h9 z9 => by obtain ⟨i9, g1, g2, g3⟩ := hx; have := hA.1 i9 j9 g2 (by omega) (g3.symm.trans z9); omega))⟩, hF.1, fun q hq hno => hfr q hq (fun j9 _ hj9 z9 => hno (by rw [z9]; exact hA.2 j9 (by omega)))⟩
set_option maxHeartbeats 4000000 in
set_option maxRecDepth 100000 in
theorem u_X11_image (l : Launch) (dC : Nat → ClassId) (dI : Nat → Nat → Nat) (cI cD cR : ClassId) (ad : Nat → Nat) (s0 B : Nat) (hA : AdD ad s0) (hB : B ≤ 60000) (hi : Bool) (n d t day al : Nat) (nd : Nat → Nat) (bb oo : Nat → Int32) (K F kn : Nat → Nat) (nZ dZ tZ dayZ alZ : Nat) (ndZ : Nat → Nat) (bbZ ooZ : Nat → Int32) (KZ FZ knZ : Nat → Nat) (ke so zz : Nat → Nat) (el qk qf : Nat → Int32) (Y : Heap → Prop) (hY : YK ad Y) : Met l yX11_image wsX11_image ({ frames := 9, cells := 0, slots := 0, locals := 340 }) (pcR dC dI cI cD cR [.ref (ad 0)] (fun H => XS dC dI cI cD cR ad s0 B hi n d t day al nd bb oo K F kn nZ dZ tZ dayZ alZ ndZ bbZ ooZ KZ FZ knZ ke so zz el qk qf H ∧ Y H)) (LQ s0 (nI (pcN t)) (fun H => XS dC dI cI cD cR ad s0 (B + 100) true n d t day al nd bb oo K F kn n d t day al nd bb oo K F kn ke so zz el qk qf H ∧ Y H)) 0 0 (fun q => s0 ≤ q) := by
  refine met_cs (fun a s hs => ?_)
  obtain ⟨rfl, ⟨hX9, hYs⟩, hCX⟩ := hs
  have hX8 := hX9
  obtain ⟨hC, mk, si, mb, nM, dM, tM, dayM, alM, ndM, mkM, siM, knM, mbM, mkP, siP, mbP, sa, lk, ef, le, dm, rm, DL, kd, fg, RL, rc, rs, rz, rf, hP, hDP, hRP, hO, hRS, hRZ, hSH, hef, hlt⟩ := hX8
  have hC9 := hC
  obtain ⟨hWS, hWZ, hB1, hB2, gzz, gso, gke2, gkk⟩ := hC9
  have hn := hWS.1
  have hd := hWS.2.1
  have ht := ws_t9 hWS
  have hal : al < 64 := Nat.lt_of_lt_of_le hWS.2.2.2.1 (Nat.pow_le_pow_right (by decide) hd)
  have hday : day < 2 ^ 30 := by omega
  have gnd := hWS.2.2.2.2.1
  have gK := hWS.2.2.2.2.2.2.1
  have gF := hWS.2.2.2.2.2.2.2.1
  have gkn := hWS.2.2.2.2.2.2.2.2.1
  have hkk : ∀ a9 ∈ DL, kd a9 < 8 ∧ fg a9 < 10 := fun a9 ha9 => (hDP a9 ha9).2
  have hE : (XW cI cD cR ad hi n d t day al nd mk si kn mb nM dM tM dayM alM ndM mkM siM knM mbM nZ dZ tZ dayZ alZ ndZ mkP siP knZ mbP sa lk ef le dm rm).map Prod.fst = adL ad 0 25 := rfl
  have hPc := hP.sub (ws' := [((ad 0), .inr (11, [.ref (ad 1), .ref (ad 7), .ref (ad 13), .int (bI hi), .ref (ad 19), .ref (ad 23), .ref (ad 24)]))] ++ (schW cI cD (ad 1) (ad 2) (ad 3) (ad 4) (ad 5) (ad 6) n d t al day nd mk si kn mb) ++ (schW cI cD (ad 13) (ad 14) (ad 15) (ad 16) (ad 17) (ad 18) nZ dZ tZ alZ dayZ ndZ mkP siP knZ mbP)) [0, 1, 2, 3, 4, 5, 6, 13, 14, 15, 16, 17, 18] rfl
  have hD := ws_D hA hE (by omega)
  have hz := s0_le hA hP hE (by omega) (by omega)
  have hDc := hD.sub (ws' := [((ad 0), .inr (11, [.ref (ad 1), .ref (ad 7), .ref (ad 13), .int (bI hi), .ref (ad 19), .ref (ad 23), .ref (ad 24)]))] ++ (schW cI cD (ad 1) (ad 2) (ad 3) (ad 4) (ad 5) (ad 6) n d t al day nd mk si kn mb) ++ (schW cI cD (ad 13) (ad 14) (ad 15) (ad 16) (ad 17) (ad 18) nZ dZ tZ alZ dayZ ndZ mkP siP knZ mbP)) [0, 1, 2, 3, 4, 5, 6, 13, 14, 15, 16, 17, 18] (by decide) rfl
  refine ⟨_, _, _, _, _, _, c_X11_image l dC dI cI cD cR (ad 0) (ad 1) (ad 7) (ad 13) hi (ad 19) (ad 23) (ad 24) (ad 2) (ad 3) (ad 4) (ad 5) (ad 6) n d t al day nd mk si kn mb (ad 14) (ad 15) (ad 16) (ad 17) (ad 18) nZ dZ tZ alZ dayZ ndZ mkP siP knZ mbP DL kd fg s.heap.size hn hd ht hal hday gnd gkn hRS.gmb (fun a9 ha9 => not_in hA hE (by omega) [0, 1, 2, 3, 4, 5, 6, 13, 14, 15, 16, 17, 18] rfl (hDP.lt ha9) (hO.1 a9 ha9)), ⟨by decide, by decide, by first | decide | (dsimp only; omega), by first | decide | (dsimp only; omega)⟩, ⟨by first | decide | (dsimp only; omega) | omega, by first | decide | (dsimp only; omega) | omega⟩, ⟨rfl, ⟨rfl, hPc, hDc, hDP⟩, hCX⟩, ?_, free_of hA (by omega) hE [0, 1, 2, 3, 4, 5, 6, 13, 14, 15, 16, 17, 18] rfl hz⟩
  rintro o T8 ⟨⟨r, u, ho, hr, hP1, hD1⟩, hF⟩
  have hP1 : va_P (dC, dI) vwCl ([((ad 0), .inr (11, [.ref (ad 1), .ref (ad 7), .ref (ad 13), .int (bI true), .ref (ad 19), .ref (ad 23), .ref (ad 24)]))] ++ (schW cI cD (ad 1) (ad 2) (ad 3) (ad 4) (ad 5) (ad 6) n d t al day nd mk si kn mb) ++ (schW cI cD (ad 13) (ad 14) (ad 15) (ad 16) (ad 17) (ad 18) n d t al day nd mk si kn mb)) T8.heap := hP1
  have hfr := fr_of hE [0, 1, 2, 3, 4, 5, 6, 13, 14, 15, 16, 17, 18] rfl hF
  obtain ⟨hP2, -⟩ := va_join (wr := (schW cI cD (ad 7) (ad 8) (ad 9) (ad 10) (ad 11) (ad 12) nM dM tM alM dayM ndM mkM siM knM mbM) ++ (forW cI (ad 19) (ad 20) (ad 21) (ad 22) sa lk ef le) ++ [((ad 23), .inl (cD, 8, .inr (.inr (.inr (.inr dm)))))] ++ [((ad 24), .inl (cR, 8, .inr (.inr (.inr (.inr rm)))))]) (w1 := [((ad 0), .inr (11, [.ref (ad 1), .ref (ad 7), .ref (ad 13), .int (bI true), .ref (ad 19), .ref (ad 23), .ref (ad 24)]))] ++ (schW cI cD (ad 1) (ad 2) (ad 3) (ad 4) (ad 5) (ad 6) n d t al day nd mk si kn mb) ++ (schW cI cD (ad 13) (ad 14) (ad 15) (ad 16) (ad 17) (ad 18) n d t al day nd mk si kn mb)) hP hD [0, 1, 2, 3, 4, 5, 6, 13, 14, 15, 16, 17, 18] [7, 8, 9, 10, 11, 12, 19, 20, 21, 22, 23, 24] rfl rfl (by decide) (by decide) hF.2 (fun _ _ => trivial) hP1 hD1
  have hP3 := hP2.sub (ws' := XW cI cD cR ad true n d t day al nd mk si kn mb nM dM tM dayM alM ndM mkM siM knM mbM n d t day al nd mk si kn mb sa lk ef le dm rm) [12, 13, 14, 15, 16, 17, 18, 0, 1, 2, 3, 4, 5, 19, 20, 21, 22, 23, 24, 6, 7, 8, 9, 10, 11] rfl
  clear hP1 hD1 hP2
  exact ⟨⟨r, (), ho, hr.trans (rfl), ⟨⟨hWS, hWS, (by omega), (by omega), gzz, gso, gke2, gkk⟩, mk, si, mb, nM, dM, tM, dayM, alM, ndM, mkM, siM, knM, mbM, mk, si, mb, sa, lk, ef, le, dm, rm, DL, kd, fg, RL, rc, rs, rz, rf, hP3, (hDP.go hO (fun q hq hno => hfr q hq (fun j9 _ hj9 => hno j9 (by omega)))), (hRP.go hO (fun q hq hno => hfr q hq (fun j9 _ hj9 => hno j9 (by omega)))), hO, hRS, hRS, hSH, hef, fun j9 hj9 => Nat.lt_of_lt_of_le (hlt j9 hj9) hF.1⟩, hY _ _ hYs hF.1 (fun q hq hx => hfr q hq (fun j9 h8 h9 z9 => by obtain ⟨i9, g1, g2, g3⟩ := hx; have := hA.1 i9 j9 g2 (by omega) (g3.symm.trans z9); omega))⟩, hF.1, fun q hq hno => hfr q hq (fun j9 _ hj9 z9 => hno (by rw [z9]; exact hA.2 j9 (by omega)))⟩
set_option maxHeartbeats 4000000 in
set_option maxRecDepth 100000 in
theorem u_X11_restore (l : Launch) (dC : Nat → ClassId) (dI : Nat → Nat → Nat) (cI cD cR : ClassId) (ad : Nat → Nat) (s0 B : Nat) (hA : AdD ad s0) (hB : B ≤ 60000) (hi : Bool) (n d t day al : Nat) (nd : Nat → Nat) (bb oo : Nat → Int32) (K F kn : Nat → Nat) (nZ dZ tZ dayZ alZ : Nat) (ndZ : Nat → Nat) (bbZ ooZ : Nat → Int32) (KZ FZ knZ : Nat → Nat) (ke so zz : Nat → Nat) (el qk qf : Nat → Int32) (Y : Heap → Prop) (hY : YK ad Y) : Met l yX11_restore wsX11_restore ({ frames := 9, cells := 0, slots := 0, locals := 340 }) (pcR dC dI cI cD cR [.ref (ad 0)] (fun H => XS dC dI cI cD cR ad s0 B hi n d t day al nd bb oo K F kn nZ dZ tZ dayZ alZ ndZ bbZ ooZ KZ FZ knZ ke so zz el qk qf H ∧ Y H)) (LQ s0 ((bif hi then nI (pcN tZ) else -3)) (fun H => XS dC dI cI cD cR ad s0 (B + 100) hi (bif hi then nZ else n) (bif hi then dZ else d) (bif hi then tZ else t) (bif hi then dayZ else day) (bif hi then alZ else al) (bif hi then ndZ else nd) (bif hi then bbZ else bb) (bif hi then ooZ else oo) (bif hi then KZ else K) (bif hi then FZ else F) (bif hi then knZ else kn) nZ dZ tZ dayZ alZ ndZ bbZ ooZ KZ FZ knZ ke so zz el qk qf H ∧ Y H)) 0 0 (fun q => s0 ≤ q) := by
  refine met_cs (fun a s hs => ?_)
  obtain ⟨rfl, ⟨hX9, hYs⟩, hCX⟩ := hs
  have hX8 := hX9
  obtain ⟨hC, mk, si, mb, nM, dM, tM, dayM, alM, ndM, mkM, siM, knM, mbM, mkP, siP, mbP, sa, lk, ef, le, dm, rm, DL, kd, fg, RL, rc, rs, rz, rf, hP, hDP, hRP, hO, hRS, hRZ, hSH, hef, hlt⟩ := hX8
  have hC9 := hC
  obtain ⟨hWS, hWZ, hB1, hB2, gzz, gso, gke2, gkk⟩ := hC9
  have hn := hWS.1
  have hd := hWS.2.1
  have ht := ws_t9 hWS
  have hal : al < 64 := Nat.lt_of_lt_of_le hWS.2.2.2.1 (Nat.pow_le_pow_right (by decide) hd)
  have hday : day < 2 ^ 30 := by omega
  have gnd := hWS.2.2.2.2.1
  have gK := hWS.2.2.2.2.2.2.1
  have gF := hWS.2.2.2.2.2.2.2.1
  have gkn := hWS.2.2.2.2.2.2.2.2.1
  have hkk : ∀ a9 ∈ DL, kd a9 < 8 ∧ fg a9 < 10 := fun a9 ha9 => (hDP a9 ha9).2
  have hE : (XW cI cD cR ad hi n d t day al nd mk si kn mb nM dM tM dayM alM ndM mkM siM knM mbM nZ dZ tZ dayZ alZ ndZ mkP siP knZ mbP sa lk ef le dm rm).map Prod.fst = adL ad 0 25 := rfl
  have hPc := hP.sub (ws' := [((ad 0), .inr (11, [.ref (ad 1), .ref (ad 7), .ref (ad 13), .int (bI hi), .ref (ad 19), .ref (ad 23), .ref (ad 24)]))] ++ (schW cI cD (ad 1) (ad 2) (ad 3) (ad 4) (ad 5) (ad 6) n d t al day nd mk si kn mb) ++ (schW cI cD (ad 13) (ad 14) (ad 15) (ad 16) (ad 17) (ad 18) nZ dZ tZ alZ dayZ ndZ mkP siP knZ mbP)) [0, 1, 2, 3, 4, 5, 6, 13, 14, 15, 16, 17, 18] rfl
  have hD := ws_D hA hE (by omega)
  have hz := s0_le hA hP hE (by omega) (by omega)
  have hDc := hD.sub (ws' := [((ad 0), .inr (11, [.ref (ad 1), .ref (ad 7), .ref (ad 13), .int (bI hi), .ref (ad 19), .ref (ad 23), .ref (ad 24)]))] ++ (schW cI cD (ad 1) (ad 2) (ad 3) (ad 4) (ad 5) (ad 6) n d t al day nd mk si kn mb) ++ (schW cI cD (ad 13) (ad 14) (ad 15) (ad 16) (ad 17) (ad 18) nZ dZ tZ alZ dayZ ndZ mkP siP knZ mbP)) [0, 1, 2, 3, 4, 5, 6, 13, 14, 15, 16, 17, 18] (by decide) rfl
  refine ⟨_, _, _, _, _, _, c_X11_restore l dC dI cI cD cR (ad 0) (ad 1) (ad 7) (ad 13) hi (ad 19) (ad 23) (ad 24) (ad 2) (ad 3) (ad 4) (ad 5) (ad 6) n d t al day nd mk si kn mb (ad 14) (ad 15) (ad 16) (ad 17) (ad 18) nZ dZ tZ alZ dayZ ndZ mkP siP knZ mbP DL kd fg s.heap.size hn hd ht hal hday gnd gkn hRS.gmb hRZ.gmb (ws_t9 hWZ) hWZ.1 hWZ.2.1 (Nat.lt_of_lt_of_le hWZ.2.2.2.1 (Nat.pow_le_pow_right (by decide) hWZ.2.1)) (by omega) hWZ.2.2.2.2.1 hWZ.2.2.2.2.2.2.2.2.1 (fun a9 ha9 => not_in hA hE (by omega) [0, 1, 2, 3, 4, 5, 6, 13, 14, 15, 16, 17, 18] rfl (hDP.lt ha9) (hO.1 a9 ha9)), ⟨by decide, by decide, by first | decide | (dsimp only; omega), by first | decide | (dsimp only; omega)⟩, ⟨by first | decide | (dsimp only; omega) | omega, by first | decide | (dsimp only; omega) | omega⟩, ⟨rfl, ⟨rfl, hPc, hDc, hDP⟩, hCX⟩, ?_, free_of hA (by omega) hE [0, 1, 2, 3, 4, 5, 6, 13, 14, 15, 16, 17, 18] rfl hz⟩
  rintro o T8 ⟨⟨r, u, ho, hr, hP1, hD1⟩, hF⟩
  have hP1 : va_P (dC, dI) vwCl ([((ad 0), .inr (11, [.ref (ad 1), .ref (ad 7), .ref (ad 13), .int (bI hi), .ref (ad 19), .ref (ad 23), .ref (ad 24)]))] ++ (schW cI cD (ad 1) (ad 2) (ad 3) (ad 4) (ad 5) (ad 6) (bif hi then nZ else n) (bif hi then dZ else d) (bif hi then tZ else t) (bif hi then alZ else al) (bif hi then dayZ else day) (bif hi then ndZ else nd) (bif hi then mkP else mk) (bif hi then siP else si) (bif hi then knZ else kn) (bif hi then mbP else mb)) ++ (schW cI cD (ad 13) (ad 14) (ad 15) (ad 16) (ad 17) (ad 18) nZ dZ tZ alZ dayZ ndZ mkP siP knZ mbP)) T8.heap := hP1
  have hfr := fr_of hE [0, 1, 2, 3, 4, 5, 6, 13, 14, 15, 16, 17, 18] rfl hF
  obtain ⟨hP2, -⟩ := va_join (wr := (schW cI cD (ad 7) (ad 8) (ad 9) (ad 10) (ad 11) (ad 12) nM dM tM alM dayM ndM mkM siM knM mbM) ++ (forW cI (ad 19) (ad 20) (ad 21) (ad 22) sa lk ef le) ++ [((ad 23), .inl (cD, 8, .inr (.inr (.inr (.inr dm)))))] ++ [((ad 24), .inl (cR, 8, .inr (.inr (.inr (.inr rm)))))]) (w1 := [((ad 0), .inr (11, [.ref (ad 1), .ref (ad 7), .ref (ad 13), .int (bI hi), .ref (ad 19), .ref (ad 23), .ref (ad 24)]))] ++ (schW cI cD (ad 1) (ad 2) (ad 3) (ad 4) (ad 5) (ad 6) (bif hi then nZ else n) (bif hi then dZ else d) (bif hi then tZ else t) (bif hi then alZ else al) (bif hi then dayZ else day) (bif hi then ndZ else nd) (bif hi then mkP else mk) (bif hi then siP else si) (bif hi then knZ else kn) (bif hi then mbP else mb)) ++ (schW cI cD (ad 13) (ad 14) (ad 15) (ad 16) (ad 17) (ad 18) nZ dZ tZ alZ dayZ ndZ mkP siP knZ mbP)) hP hD [0, 1, 2, 3, 4, 5, 6, 13, 14, 15, 16, 17, 18] [7, 8, 9, 10, 11, 12, 19, 20, 21, 22, 23, 24] rfl rfl (by decide) (by decide) hF.2 (fun _ _ => trivial) hP1 hD1
  have hP3 := hP2.sub (ws' := XW cI cD cR ad hi (bif hi then nZ else n) (bif hi then dZ else d) (bif hi then tZ else t) (bif hi then dayZ else day) (bif hi then alZ else al) (bif hi then ndZ else nd) (bif hi then mkP else mk) (bif hi then siP else si) (bif hi then knZ else kn) (bif hi then mbP else mb) nM dM tM dayM alM ndM mkM siM knM mbM nZ dZ tZ dayZ alZ ndZ mkP siP knZ mbP sa lk ef le dm rm) [12, 13, 14, 15, 16, 17, 18, 0, 1, 2, 3, 4, 5, 19, 20, 21, 22, 23, 24, 6, 7, 8, 9, 10, 11] rfl
  clear hP1 hD1 hP2
  exact ⟨⟨r, (), ho, hr.trans (rfl), ⟨⟨(by cases hi; exact hWS; exact hWZ), hWZ, (by cases hi; exact (by omega : day ≤ B + 100); exact (by omega : dayZ ≤ B + 100)), (by omega), gzz, gso, gke2, gkk⟩, bif hi then mkP else mk, bif hi then siP else si, bif hi then mbP else mb, nM, dM, tM, dayM, alM, ndM, mkM, siM, knM, mbM, mkP, siP, mbP, sa, lk, ef, le, dm, rm, DL, kd, fg, RL, rc, rs, rz, rf, hP3, (hDP.go hO (fun q hq hno => hfr q hq (fun j9 _ hj9 => hno j9 (by omega)))), (hRP.go hO (fun q hq hno => hfr q hq (fun j9 _ hj9 => hno j9 (by omega)))), hO, (by cases hi; exact hRS; exact hRZ), hRZ, hSH, hef, fun j9 hj9 => Nat.lt_of_lt_of_le (hlt j9 hj9) hF.1⟩, hY _ _ hYs hF.1 (fun q hq hx => hfr q hq (fun j9 h8 h9 z9 => by obtain ⟨i9, g1, g2, g3⟩ := hx; have := hA.1 i9 j9 g2 (by omega) (g3.symm.trans z9); omega))⟩, hF.1, fun q hq hno => hfr q hq (fun j9 _ hj9 z9 => hno (by rw [z9]; exact hA.2 j9 (by omega)))⟩
theorem MW_ad (cI cL : ClassId) (ad : Nat → Nat) (hi : Bool) (th : Int32) (po ba en : Nat) (se : Int32) (n d t day al : Nat) (nd : Nat → Nat) (bb oo : Nat → Int32) (K F kn : Nat → Nat) (nZ dZ tZ dayZ alZ : Nat) (ndZ : Nat → Nat) (bbZ ooZ : Nat → Int32) (KZ FZ knZ : Nat → Nat) (nR dR tR dayR alR : Nat) (ndR : Nat → Nat) (bbR ooR : Nat → Int32) (KR FR knR : Nat → Nat) (nM dM tM dayM alM : Nat) (ndM : Nat → Nat) (bbM ooM : Nat → Int32) (KM FM knM : Nat → Nat) (ke so zz : Nat → Nat) (el qk qf : Nat → Int32) (nu : Nat → Int32) (fe ea pr : Nat → Option Nat) (ov : Nat → Int64) : (MW cI cL ad hi th po ba en se n d t day al nd bb oo K F kn nZ dZ tZ dayZ alZ ndZ bbZ ooZ KZ FZ knZ nR dR tR dayR alR ndR bbR ooR KR FR knR nM dM tM dayM alM ndM bbM ooM KM FM knM ke so zz el qk qf nu fe ea pr ov).map Prod.fst = adL ad 25 16 := rfl
set_option maxHeartbeats 4000000 in
set_option maxRecDepth 100000 in
theorem u_X12_sentence (l : Launch) (dC : Nat → ClassId) (dI : Nat → Nat → Nat) (cI cD cR : ClassId) (cL : ClassId) (ad : Nat → Nat) (s0 B : Nat) (hA : AdD ad s0) (hB : B ≤ 60000) (hi : Bool) (n d t day al : Nat) (nd : Nat → Nat) (bb oo : Nat → Int32) (K F kn : Nat → Nat) (nZ dZ tZ dayZ alZ : Nat) (ndZ : Nat → Nat) (bbZ ooZ : Nat → Int32) (KZ FZ knZ : Nat → Nat) (ke so zz : Nat → Nat) (el qk qf : Nat → Int32) (X : Heap → Prop) (hX : XK ad X) (hC : CiI B n d t day al nd bb oo K F kn nZ dZ tZ dayZ alZ ndZ bbZ ooZ KZ FZ knZ ke so zz qk qf) (v1 : Int32) (v2 : Int32) : Met l yX12_sentence wsX12_sentence ({ frames := 9, cells := 0, slots := 0, locals := 340 }) (pcR dC dI cI cD cR [.ref (ad 25), .int v1, .int v2] (fun H => X H ∧ MT dC dI cI cL ad hi n d t day al nd bb oo K F kn nZ dZ tZ dayZ alZ ndZ bbZ ooZ KZ FZ knZ ke so zz el qk qf H)) (LQ s0 ((on1 (oN v1 n) (fun v => if v2 = 0 then nI (nd v) else if v2 = 1 then bI (t.testBit v) else if v2 = 2 then bb v else if v2 = 3 then oo v else -1) (-1))) (fun H => X H ∧ MT dC dI cI cL ad hi n d t day al nd bb oo K F kn nZ dZ tZ dayZ alZ ndZ bbZ ooZ KZ FZ knZ ke so zz el qk qf H)) 0 0 (fun q => s0 ≤ q) := by
  refine met_cs (fun a s hs => ?_)
  obtain ⟨rfl, ⟨hXs, hM9⟩, hCX⟩ := hs
  have hM8 := hM9
  obtain ⟨th, ov, po, ba, en, se, nR, dR, tR, dayR, alR, ndR, bbR, ooR, KR, FR, knR, nM, dM, tM, dayM, alM, ndM, bbM, ooM, KM, FM, knM, nu, fe, ea, pr, hP⟩ := hM8
  have hC9 := hC
  obtain ⟨hWS, hWZ, hB1, hB2, gzz, gso, gke2, gkk⟩ := hC9
  have hn := hWS.1
  have hd := hWS.2.1
  have ht := ws_t9 hWS
  have hal : al < 64 := Nat.lt_of_lt_of_le hWS.2.2.2.1 (Nat.pow_le_pow_right (by decide) hd)
  have hday : day < 2 ^ 30 := by omega
  have gnd := hWS.2.2.2.2.1
  have gK := hWS.2.2.2.2.2.2.1
  have gF := hWS.2.2.2.2.2.2.2.1
  have gkn := hWS.2.2.2.2.2.2.2.2.1
  have hE : (MW cI cL ad hi th po ba en se n d t day al nd bb oo K F kn nZ dZ tZ dayZ alZ ndZ bbZ ooZ KZ FZ knZ nR dR tR dayR alR ndR bbR ooR KR FR knR nM dM tM dayM alM ndM bbM ooM KM FM knM ke so zz el qk qf nu fe ea pr ov).map Prod.fst = adL ad 25 16 := MW_ad cI cL ad hi th po ba en se n d t day al nd bb oo K F kn nZ dZ tZ dayZ alZ ndZ bbZ ooZ KZ FZ knZ nR dR tR dayR alR ndR bbR ooR KR FR knR nM dM tM dayM alM ndM bbM ooM KM FM knM ke so zz el qk qf nu fe ea pr ov
  have hPc := hP.sub (ws' := [((ad 25), .inr (12, [.ref (ad 26), .ref (ad 27), .ref (ad 28), .ref (ad 29), .ref (ad 30), .ref (ad 31), .ref (ad 32), .ref (ad 33), .ref (ad 34), .ref (ad 35), .int (bI hi), .int th, .int (nI po), .int (nI ba), .int (nI en), .ref (ad 36), .ref (ad 37), .ref (ad 38), .ref (ad 39), .int se]))] ++ [((ad 26), .inl (cI, 53, .inl (sF n d t day al nd bb oo K F kn)))]) [0, 1] rfl
  refine ⟨_, _, _, _, _, _, c_X12_sentence l dC dI cI cD cR (ad 25) (ad 26) (ad 27) (ad 28) (ad 29) (ad 30) (ad 31) (ad 32) (ad 33) (ad 34) (ad 35) hi th po ba en (ad 36) (ad 37) (ad 38) (ad 39) se n d t day al nd bb oo K F kn v1 v2 hn (by omega) ht (by omega) hday gnd gkn gK gF, ⟨by decide, by decide, by first | decide | exact Nat.zero_le _, by first | decide | exact Nat.zero_le _⟩, ⟨Nat.zero_le _, Nat.zero_le _⟩, ⟨rfl, hPc, hCX⟩, ?_, fun q hq => hq.elim⟩
  rintro o t ⟨r, ho, hr, hh⟩
  exact ⟨⟨r, (), ho, hr, by first | (rw [hh]; exact ⟨hXs, hM9⟩) | (simp only [hh]; exact ⟨hXs, hM9⟩)⟩, by rw [hh]; exact Nat.le_refl _, fun q _ _ => by rw [hh]⟩
set_option maxHeartbeats 4000000 in
set_option maxRecDepth 100000 in
theorem u_X12_denier (l : Launch) (dC : Nat → ClassId) (dI : Nat → Nat → Nat) (cI cD cR : ClassId) (cL : ClassId) (ad : Nat → Nat) (s0 B : Nat) (hA : AdD ad s0) (hB : B ≤ 60000) (hi : Bool) (n d t day al : Nat) (nd : Nat → Nat) (bb oo : Nat → Int32) (K F kn : Nat → Nat) (nZ dZ tZ dayZ alZ : Nat) (ndZ : Nat → Nat) (bbZ ooZ : Nat → Int32) (KZ FZ knZ : Nat → Nat) (ke so zz : Nat → Nat) (el qk qf : Nat → Int32) (X : Heap → Prop) (hX : XK ad X) (hC : CiI B n d t day al nd bb oo K F kn nZ dZ tZ dayZ alZ ndZ bbZ ooZ KZ FZ knZ ke so zz qk qf) (v1 : Int32) (v2 : Int32) : Met l yX12_denier wsX12_denier ({ frames := 9, cells := 0, slots := 0, locals := 340 }) (pcR dC dI cI cD cR [.ref (ad 25), .int v1, .int v2] (fun H => X H ∧ MT dC dI cI cL ad hi n d t day al nd bb oo K F kn nZ dZ tZ dayZ alZ ndZ bbZ ooZ KZ FZ knZ ke so zz el qk qf H)) (LQ s0 ((denR d al kn K F v1 v2)) (fun H => X H ∧ MT dC dI cI cL ad hi n d t day al nd bb oo K F kn nZ dZ tZ dayZ alZ ndZ bbZ ooZ KZ FZ knZ ke so zz el qk qf H)) 0 0 (fun q => s0 ≤ q) := by
  refine met_cs (fun a s hs => ?_)
  obtain ⟨rfl, ⟨hXs, hM9⟩, hCX⟩ := hs
  have hM8 := hM9
  obtain ⟨th, ov, po, ba, en, se, nR, dR, tR, dayR, alR, ndR, bbR, ooR, KR, FR, knR, nM, dM, tM, dayM, alM, ndM, bbM, ooM, KM, FM, knM, nu, fe, ea, pr, hP⟩ := hM8
  have hC9 := hC
  obtain ⟨hWS, hWZ, hB1, hB2, gzz, gso, gke2, gkk⟩ := hC9
  have hn := hWS.1
  have hd := hWS.2.1
  have ht := ws_t9 hWS
  have hal : al < 64 := Nat.lt_of_lt_of_le hWS.2.2.2.1 (Nat.pow_le_pow_right (by decide) hd)
  have hday : day < 2 ^ 30 := by omega
  have gnd := hWS.2.2.2.2.1
  have gK := hWS.2.2.2.2.2.2.1
  have gF := hWS.2.2.2.2.2.2.2.1
  have gkn := hWS.2.2.2.2.2.2.2.2.1
  have hE : (MW cI cL ad hi th po ba en se n d t day al nd bb oo K F kn nZ dZ tZ dayZ alZ ndZ bbZ ooZ KZ FZ knZ nR dR tR dayR alR ndR bbR ooR KR FR knR nM dM tM dayM alM ndM bbM ooM KM FM knM ke so zz el qk qf nu fe ea pr ov).map Prod.fst = adL ad 25 16 := MW_ad cI cL ad hi th po ba en se n d t day al nd bb oo K F kn nZ dZ tZ dayZ alZ ndZ bbZ ooZ KZ FZ knZ nR dR tR dayR alR ndR bbR ooR KR FR knR nM dM tM dayM alM ndM bbM ooM KM FM knM ke so zz el qk qf nu fe ea pr ov
  have hPc := hP.sub (ws' := [((ad 25), .inr (12, [.ref (ad 26), .ref (ad 27), .ref (ad 28), .ref (ad 29), .ref (ad 30), .ref (ad 31), .ref (ad 32), .ref (ad 33), .ref (ad 34), .ref (ad 35), .int (bI hi), .int th, .int (nI po), .int (nI ba), .int (nI en), .ref (ad 36), .ref (ad 37), .ref (ad 38), .ref (ad 39), .int se]))] ++ [((ad 26), .inl (cI, 53, .inl (sF n d t day al nd bb oo K F kn)))]) [0, 1] rfl
  refine ⟨_, _, _, _, _, _, c_X12_denier l dC dI cI cD cR (ad 25) (ad 26) (ad 27) (ad 28) (ad 29) (ad 30) (ad 31) (ad 32) (ad 33) (ad 34) (ad 35) hi th po ba en (ad 36) (ad 37) (ad 38) (ad 39) se n d t day al nd bb oo K F kn v1 v2 hn (by omega) ht (by omega) hday gnd gkn gK gF, ⟨by decide, by decide, by first | decide | exact Nat.zero_le _, by first | decide | exact Nat.zero_le _⟩, ⟨Nat.zero_le _, Nat.zero_le _⟩, ⟨rfl, hPc, hCX⟩, ?_, fun q hq => hq.elim⟩
  rintro o t ⟨r, ho, hr, hh⟩
  exact ⟨⟨r, (), ho, hr, by first | (rw [hh]; exact ⟨hXs, hM9⟩) | (simp only [hh]; exact ⟨hXs, hM9⟩)⟩, by rw [hh]; exact Nat.le_refl _, fun q _ _ => by rw [hh]⟩
set_option maxHeartbeats 4000000 in
set_option maxRecDepth 100000 in
theorem u_X12_may (l : Launch) (dC : Nat → ClassId) (dI : Nat → Nat → Nat) (cI cD cR : ClassId) (cL : ClassId) (ad : Nat → Nat) (s0 B : Nat) (hA : AdD ad s0) (hB : B ≤ 60000) (hi : Bool) (n d t day al : Nat) (nd : Nat → Nat) (bb oo : Nat → Int32) (K F kn : Nat → Nat) (nZ dZ tZ dayZ alZ : Nat) (ndZ : Nat → Nat) (bbZ ooZ : Nat → Int32) (KZ FZ knZ : Nat → Nat) (ke so zz : Nat → Nat) (el qk qf : Nat → Int32) (X : Heap → Prop) (hX : XK ad X) (hC : CiI B n d t day al nd bb oo K F kn nZ dZ tZ dayZ alZ ndZ bbZ ooZ KZ FZ knZ ke so zz qk qf) (v1 : Int32) : Met l yX12_may wsX12_may ({ frames := 9, cells := 0, slots := 0, locals := 340 }) (pcR dC dI cI cD cR [.ref (ad 25), .int v1] (fun H => X H ∧ MT dC dI cI cL ad hi n d t day al nd bb oo K F kn nZ dZ tZ dayZ alZ ndZ bbZ ooZ KZ FZ knZ ke so zz el qk qf H)) (LQ s0 ((on1 (oN v1 d) (fun j => nI (orF (fun s9 => mnB t al nd K F kn j s9) n)) (-1))) (fun H => X H ∧ MT dC dI cI cL ad hi n d t day al nd bb oo K F kn nZ dZ tZ dayZ alZ ndZ bbZ ooZ KZ FZ knZ ke so zz el qk qf H)) 0 0 (fun q => s0 ≤ q) := by
  refine met_cs (fun a s hs => ?_)
  obtain ⟨rfl, ⟨hXs, hM9⟩, hCX⟩ := hs
  have hM8 := hM9
  obtain ⟨th, ov, po, ba, en, se, nR, dR, tR, dayR, alR, ndR, bbR, ooR, KR, FR, knR, nM, dM, tM, dayM, alM, ndM, bbM, ooM, KM, FM, knM, nu, fe, ea, pr, hP⟩ := hM8
  have hC9 := hC
  obtain ⟨hWS, hWZ, hB1, hB2, gzz, gso, gke2, gkk⟩ := hC9
  have hn := hWS.1
  have hd := hWS.2.1
  have ht := ws_t9 hWS
  have hal : al < 64 := Nat.lt_of_lt_of_le hWS.2.2.2.1 (Nat.pow_le_pow_right (by decide) hd)
  have hday : day < 2 ^ 30 := by omega
  have gnd := hWS.2.2.2.2.1
  have gK := hWS.2.2.2.2.2.2.1
  have gF := hWS.2.2.2.2.2.2.2.1
  have gkn := hWS.2.2.2.2.2.2.2.2.1
  have hE : (MW cI cL ad hi th po ba en se n d t day al nd bb oo K F kn nZ dZ tZ dayZ alZ ndZ bbZ ooZ KZ FZ knZ nR dR tR dayR alR ndR bbR ooR KR FR knR nM dM tM dayM alM ndM bbM ooM KM FM knM ke so zz el qk qf nu fe ea pr ov).map Prod.fst = adL ad 25 16 := MW_ad cI cL ad hi th po ba en se n d t day al nd bb oo K F kn nZ dZ tZ dayZ alZ ndZ bbZ ooZ KZ FZ knZ nR dR tR dayR alR ndR bbR ooR KR FR knR nM dM tM dayM alM ndM bbM ooM KM FM knM ke so zz el qk qf nu fe ea pr ov
  have hPc := hP.sub (ws' := [((ad 25), .inr (12, [.ref (ad 26), .ref (ad 27), .ref (ad 28), .ref (ad 29), .ref (ad 30), .ref (ad 31), .ref (ad 32), .ref (ad 33), .ref (ad 34), .ref (ad 35), .int (bI hi), .int th, .int (nI po), .int (nI ba), .int (nI en), .ref (ad 36), .ref (ad 37), .ref (ad 38), .ref (ad 39), .int se]))] ++ [((ad 26), .inl (cI, 53, .inl (sF n d t day al nd bb oo K F kn)))]) [0, 1] rfl
  refine ⟨_, _, _, _, _, _, c_X12_may l dC dI cI cD cR (ad 25) (ad 26) (ad 27) (ad 28) (ad 29) (ad 30) (ad 31) (ad 32) (ad 33) (ad 34) (ad 35) hi th po ba en (ad 36) (ad 37) (ad 38) (ad 39) se n d t day al nd bb oo K F kn v1 hn (by omega) ht (by omega) hday gnd gkn gK gF, ⟨by decide, by decide, by first | decide | exact Nat.zero_le _, by first | decide | exact Nat.zero_le _⟩, ⟨Nat.zero_le _, Nat.zero_le _⟩, ⟨rfl, hPc, hCX⟩, ?_, fun q hq => hq.elim⟩
  rintro o t ⟨r, ho, hr, hh⟩
  exact ⟨⟨r, (), ho, hr, by first | (rw [hh]; exact ⟨hXs, hM9⟩) | (simp only [hh]; exact ⟨hXs, hM9⟩)⟩, by rw [hh]; exact Nat.le_refl _, fun q _ _ => by rw [hh]⟩
