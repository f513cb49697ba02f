set_option maxHeartbeats 4000000 in
set_option maxRecDepth 100000 in
theorem u_X11_price (l : Launch) (dC : Nat → ClassId) (dI : Nat → Nat → Nat) (cI cD cR : ClassId) (ad : Nat → Nat) (s0 B : Nat) (hA : AdD ad s0) (hB : B ≤ 60000) (hi : Bool) (n d t day al : Nat) (nd : Nat → Nat) (bb oo : Nat → Int32) (K F kn : Nat → Nat) (nZ dZ tZ dayZ alZ : Nat) (ndZ : Nat → Nat) (bbZ ooZ : Nat → Int32) (KZ FZ knZ : Nat → Nat) (ke so zz : Nat → Nat) (el qk qf : Nat → Int32) (Y : Heap → Prop) (hY : YK ad Y) (v1 : Int32) : Met l yX11_price wsX11_price ({ frames := 9, cells := 0, slots := 0, locals := 340 }) (pcR dC dI cI cD cR [.ref (ad 0), .int v1] (fun H => XS dC dI cI cD cR ad s0 B hi n d t day al nd bb oo K F kn nZ dZ tZ dayZ alZ ndZ bbZ ooZ KZ FZ knZ ke so zz el qk qf H ∧ Y H)) (LQ s0 ((on1 (oN v1 8) (fun y9 => if wkR ke y9 = 0 then nI (asN (nT (qk y9)) (nT (qf y9))) else wkR ke y9) (-1))) (fun H => XS dC dI cI cD cR ad s0 (B + 100) hi n d t day al nd bb oo K F kn nZ dZ tZ dayZ alZ ndZ bbZ ooZ KZ FZ knZ ke so zz el qk qf H ∧ Y H)) 0 0 (fun q => s0 ≤ q) := by
  refine met_cs (fun a s hs => ?_)
  obtain ⟨rfl, ⟨hX9, hYs⟩, hCX⟩ := hs
  have hX8 := hX9
  obtain ⟨hC, mk, si, mb, nM, dM, tM, dayM, alM, ndM, mkM, siM, knM, mbM, mkP, siP, mbP, sa, lk, ef, le, dm, rm, DL, kd, fg, RL, rc, rs, rz, rf, hP, hDP, hRP, hO, hRS, hRZ, hSH, hef, hlt⟩ := hX8
  have hC9 := hC
  obtain ⟨hWS, hWZ, hB1, hB2, gzz, gso, gke2, gkk⟩ := hC9
  have hn := hWS.1
  have hd := hWS.2.1
  have ht := ws_t9 hWS
  have hal : al < 64 := Nat.lt_of_lt_of_le hWS.2.2.2.1 (Nat.pow_le_pow_right (by decide) hd)
  have hday : day < 2 ^ 30 := by omega
  have gnd := hWS.2.2.2.2.1
  have gK := hWS.2.2.2.2.2.2.1
  have gF := hWS.2.2.2.2.2.2.2.1
  have gkn := hWS.2.2.2.2.2.2.2.2.1
  have hkk : ∀ a9 ∈ DL, kd a9 < 8 ∧ fg a9 < 10 := fun a9 ha9 => (hDP a9 ha9).2
  have hE : (XW cI cD cR ad hi n d t day al nd mk si kn mb nM dM tM dayM alM ndM mkM siM knM mbM nZ dZ tZ dayZ alZ ndZ mkP siP knZ mbP sa lk ef le dm rm).map Prod.fst = adL ad 0 25 := rfl
  have hPc := hP.sub (ws' := [((ad 0), .inr (11, [.ref (ad 1), .ref (ad 7), .ref (ad 13), .int (bI hi), .ref (ad 19), .ref (ad 23), .ref (ad 24)]))] ++ [((ad 23), .inl (cD, 8, .inr (.inr (.inr (.inr dm)))))] ++ [((ad 24), .inl (cR, 8, .inr (.inr (.inr (.inr rm)))))]) [0, 23, 24] rfl
  refine ⟨_, _, _, _, _, _, c_X11_price l dC dI cI cD cR (ad 0) (ad 1) (ad 7) (ad 13) hi (ad 19) (ad 23) (ad 24) dm rm v1 DL kd fg hSH.1, ⟨by decide, by decide, by first | decide | exact Nat.zero_le _, by first | decide | exact Nat.zero_le _⟩, ⟨Nat.zero_le _, Nat.zero_le _⟩, ⟨rfl, ⟨hPc, hDP⟩, hCX⟩, ?_, fun q hq => hq.elim⟩
  rintro o t ⟨r, ho, hr, hh⟩
  exact ⟨⟨r, (), ho, hr.trans (r_price hSH hkk _), by first | (rw [hh]; exact ⟨hX9.mono (by omega), hYs⟩) | (simp only [hh]; exact ⟨hX9.mono (by omega), hYs⟩)⟩, by rw [hh]; exact Nat.le_refl _, fun q _ _ => by rw [hh]⟩
set_option maxHeartbeats 4000000 in
set_option maxRecDepth 100000 in
theorem u_X11_learns (l : Launch) (dC : Nat → ClassId) (dI : Nat → Nat → Nat) (cI cD cR : ClassId) (ad : Nat → Nat) (s0 B : Nat) (hA : AdD ad s0) (hB : B ≤ 60000) (hi : Bool) (n d t day al : Nat) (nd : Nat → Nat) (bb oo : Nat → Int32) (K F kn : Nat → Nat) (nZ dZ tZ dayZ alZ : Nat) (ndZ : Nat → Nat) (bbZ ooZ : Nat → Int32) (KZ FZ knZ : Nat → Nat) (ke so zz : Nat → Nat) (el qk qf : Nat → Int32) (Y : Heap → Prop) (hY : YK ad Y) (v1 : Int32) (v2 : Int32) : Met l yX11_learns wsX11_learns ({ frames := 9, cells := 0, slots := 0, locals := 340 }) (pcR dC dI cI cD cR [.ref (ad 0), .int v1, .int v2] (fun H => XS dC dI cI cD cR ad s0 B hi n d t day al nd bb oo K F kn nZ dZ tZ dayZ alZ ndZ bbZ ooZ KZ FZ knZ ke so zz el qk qf H ∧ Y H)) (LQ s0 ((on2 (oN v1 d) (oN v2 n) (fun y v => bI (!(kn y).testBit v)) (-1))) (fun H => XS dC dI cI cD cR ad s0 (B + 100) hi n d t day al nd bb oo K F (on2 (oN v1 d) (oN v2 n) (fun y v => va_up kn y (kn y ||| 2 ^ v)) kn) nZ dZ tZ dayZ alZ ndZ bbZ ooZ KZ FZ knZ ke so zz el qk qf H ∧ Y H)) 0 0 (fun q => s0 ≤ q) := by
  refine met_cs (fun a s hs => ?_)
  obtain ⟨rfl, ⟨hX9, hYs⟩, hCX⟩ := hs
  have hX8 := hX9
  obtain ⟨hC, mk, si, mb, nM, dM, tM, dayM, alM, ndM, mkM, siM, knM, mbM, mkP, siP, mbP, sa, lk, ef, le, dm, rm, DL, kd, fg, RL, rc, rs, rz, rf, hP, hDP, hRP, hO, hRS, hRZ, hSH, hef, hlt⟩ := hX8
  have hC9 := hC
  obtain ⟨hWS, hWZ, hB1, hB2, gzz, gso, gke2, gkk⟩ := hC9
  have hn := hWS.1
  have hd := hWS.2.1
  have ht := ws_t9 hWS
  have hal : al < 64 := Nat.lt_of_lt_of_le hWS.2.2.2.1 (Nat.pow_le_pow_right (by decide) hd)
  have hday : day < 2 ^ 30 := by omega
  have gnd := hWS.2.2.2.2.1
  have gK := hWS.2.2.2.2.2.2.1
  have gF := hWS.2.2.2.2.2.2.2.1
  have gkn := hWS.2.2.2.2.2.2.2.2.1
  have hkk : ∀ a9 ∈ DL, kd a9 < 8 ∧ fg a9 < 10 := fun a9 ha9 => (hDP a9 ha9).2
  have hws9 : WS n d t al nd bb K F (on2 (oN v1 d) (oN v2 n) (fun y v => va_up kn y (kn y ||| 2 ^ v)) kn) := by
    rcases okI_or v1 (n := d) (by omega) with q | ⟨y, hy, rfl⟩
    · rw [oN_f q]; exact hWS
    · rcases okI_or v2 (n := n) (by omega) with q | ⟨v, hv, rfl⟩
      · rw [oN_t hy, oN_f q]; exact hWS
      · rw [oN_t hy, oN_t hv]; exact ws_k hWS hv
  have hE : (XW cI cD cR ad hi n d t day al nd mk si kn mb nM dM tM dayM alM ndM mkM siM knM mbM nZ dZ tZ dayZ alZ ndZ mkP siP knZ mbP sa lk ef le dm rm).map Prod.fst = adL ad 0 25 := rfl
  have hPc := hP.sub (ws' := [((ad 0), .inr (11, [.ref (ad 1), .ref (ad 7), .ref (ad 13), .int (bI hi), .ref (ad 19), .ref (ad 23), .ref (ad 24)]))] ++ (schW cI cD (ad 1) (ad 2) (ad 3) (ad 4) (ad 5) (ad 6) n d t al day nd mk si kn mb)) [0, 1, 2, 3, 4, 5, 6] rfl
  have hD := ws_D hA hE (by omega)
  have hz := s0_le hA hP hE (by omega) (by omega)
  have hDc := hD.sub (ws' := [((ad 0), .inr (11, [.ref (ad 1), .ref (ad 7), .ref (ad 13), .int (bI hi), .ref (ad 19), .ref (ad 23), .ref (ad 24)]))] ++ (schW cI cD (ad 1) (ad 2) (ad 3) (ad 4) (ad 5) (ad 6) n d t al day nd mk si kn mb)) [0, 1, 2, 3, 4, 5, 6] (by decide) rfl
  refine ⟨_, _, _, _, _, _, c_X11_learns l dC dI cI cD cR (ad 0) (ad 1) (ad 7) (ad 13) hi (ad 19) (ad 23) (ad 24) (ad 2) (ad 3) (ad 4) (ad 5) (ad 6) n d t al day nd mk si kn mb v1 v2 s.heap.size hn hd ht hal hday gnd gkn, ⟨by decide, by decide, by first | decide | (dsimp only; omega), by first | decide | (dsimp only; omega)⟩, ⟨by first | decide | (dsimp only; omega) | omega, by first | decide | (dsimp only; omega) | omega⟩, ⟨rfl, ⟨rfl, hPc, hDc⟩, hCX⟩, ?_, free_of hA (by omega) hE [0, 1, 2, 3, 4, 5, 6] rfl hz⟩
  rintro o T8 ⟨⟨r, u, ho, hr, hP1, hD1⟩, hF⟩
  have hP1 : va_P (dC, dI) vwCl ([((ad 0), .inr (11, [.ref (ad 1), .ref (ad 7), .ref (ad 13), .int (bI hi), .ref (ad 19), .ref (ad 23), .ref (ad 24)]))] ++ (schW cI cD (ad 1) (ad 2) (ad 3) (ad 4) (ad 5) (ad 6) n d t al day nd mk si (on2 (oN v1 d) (oN v2 n) (fun y v => va_up kn y (kn y ||| 2 ^ v)) kn) mb)) T8.heap := hP1
  have hfr := fr_of hE [0, 1, 2, 3, 4, 5, 6] rfl hF
  obtain ⟨hP2, -⟩ := va_join (wr := (schW cI cD (ad 7) (ad 8) (ad 9) (ad 10) (ad 11) (ad 12) nM dM tM alM dayM ndM mkM siM knM mbM) ++ (schW cI cD (ad 13) (ad 14) (ad 15) (ad 16) (ad 17) (ad 18) nZ dZ tZ alZ dayZ ndZ mkP siP knZ mbP) ++ (forW cI (ad 19) (ad 20) (ad 21) (ad 22) sa lk ef le) ++ [((ad 23), .inl (cD, 8, .inr (.inr (.inr (.inr dm)))))] ++ [((ad 24), .inl (cR, 8, .inr (.inr (.inr (.inr rm)))))]) (w1 := [((ad 0), .inr (11, [.ref (ad 1), .ref (ad 7), .ref (ad 13), .int (bI hi), .ref (ad 19), .ref (ad 23), .ref (ad 24)]))] ++ (schW cI cD (ad 1) (ad 2) (ad 3) (ad 4) (ad 5) (ad 6) n d t al day nd mk si (on2 (oN v1 d) (oN v2 n) (fun y v => va_up kn y (kn y ||| 2 ^ v)) kn) mb)) hP hD [0, 1, 2, 3, 4, 5, 6] [7, 8, 9, 10, 11, 12, 13, 14, 15, 16, 17, 18, 19, 20, 21, 22, 23, 24] rfl rfl (by decide) (by decide) hF.2 (fun _ _ => trivial) hP1 hD1
  have hP3 := hP2.sub (ws' := XW cI cD cR ad hi n d t day al nd mk si (on2 (oN v1 d) (oN v2 n) (fun y v => va_up kn y (kn y ||| 2 ^ v)) kn) mb nM dM tM dayM alM ndM mkM siM knM mbM nZ dZ tZ dayZ alZ ndZ mkP siP knZ mbP sa lk ef le dm rm) [18, 19, 20, 21, 22, 23, 24, 0, 1, 2, 3, 4, 5, 6, 7, 8, 9, 10, 11, 12, 13, 14, 15, 16, 17] rfl
  clear hP1 hD1 hP2
  exact ⟨⟨r, (), ho, hr.trans (rfl), ⟨⟨hws9, hWZ, (by omega), (by omega), gzz, gso, gke2, gkk⟩, mk, si, mb, nM, dM, tM, dayM, alM, ndM, mkM, siM, knM, mbM, mkP, siP, mbP, sa, lk, ef, le, dm, rm, DL, kd, fg, RL, rc, rs, rz, rf, hP3, (hDP.go hO (fun q hq hno => hfr q hq (fun j9 _ hj9 => hno j9 (by omega)))), (hRP.go hO (fun q hq hno => hfr q hq (fun j9 _ hj9 => hno j9 (by omega)))), hO, hRS, hRZ, hSH, hef, fun j9 hj9 => Nat.lt_of_lt_of_le (hlt j9 hj9) hF.1⟩, hY _ _ hYs hF.1 (fun q hq hx => hfr q hq (fun j9 h8 h9 z9 => by obtain ⟨i9, g1, g2, g3⟩ := hx; have := hA.1 i9 j9 g2 (by omega) (g3.symm.trans z9); omega))⟩, hF.1, fun q hq hno => hfr q hq (fun j9 _ hj9 z9 => hno (by rw [z9]; exact hA.2 j9 (by omega)))⟩
set_option maxHeartbeats 4000000 in
set_option maxRecDepth 100000 in
theorem u_X11_comes (l : Launch) (dC : Nat → ClassId) (dI : Nat → Nat → Nat) (cI cD cR : ClassId) (ad : Nat → Nat) (s0 B : Nat) (hA : AdD ad s0) (hB : B ≤ 60000) (hi : Bool) (n d t day al : Nat) (nd : Nat → Nat) (bb oo : Nat → Int32) (K F kn : Nat → Nat) (nZ dZ tZ dayZ alZ : Nat) (ndZ : Nat → Nat) (bbZ ooZ : Nat → Int32) (KZ FZ knZ : Nat → Nat) (ke so zz : Nat → Nat) (el qk qf : Nat → Int32) (Y : Heap → Prop) (hY : YK ad Y) (v1 : Int32) : Met l yX11_comes wsX11_comes ({ frames := 9, cells := 0, slots := 0, locals := 340 }) (pcR dC dI cI cD cR [.ref (ad 0), .int v1] (fun H => XS dC dI cI cD cR ad s0 B hi n d t day al nd bb oo K F kn nZ dZ tZ dayZ alZ ndZ bbZ ooZ KZ FZ knZ ke so zz el qk qf H ∧ Y H)) (LQ s0 ((on1 (oN v1 8) (fun y9 => if wkR ke y9 = 0 then (bif decide (d < 6) then nI d else -2) else wkR ke y9) (-1))) (fun H => XS dC dI cI cD cR ad s0 (B + 100) hi n (on1 (oN v1 8) (fun y9 => bif (decide (wkR ke y9 = 0) && decide (d < 6)) then d + 1 else d) (d)) t day (on1 (oN v1 8) (fun y9 => bif (decide (wkR ke y9 = 0) && decide (d < 6)) then al ||| 2 ^ d else al) (al)) nd bb oo (on1 (oN v1 8) (fun y9 => bif (decide (wkR ke y9 = 0) && decide (d < 6)) then va_up K d (nT (qk y9)) else K) (K)) (on1 (oN v1 8) (fun y9 => bif (decide (wkR ke y9 = 0) && decide (d < 6)) then va_up F d (nT (qf y9)) else F) (F)) (on1 (oN v1 8) (fun y9 => bif (decide (wkR ke y9 = 0) && decide (d < 6)) then va_up kn d 0 else kn) (kn)) nZ dZ tZ dayZ alZ ndZ bbZ ooZ KZ FZ knZ ke so zz el qk qf H ∧ Y H)) 0 0 (fun q => s0 ≤ q) := by
  refine met_cs (fun a s hs => ?_)
  obtain ⟨rfl, ⟨hX9, hYs⟩, hCX⟩ := hs
  have hX8 := hX9
  obtain ⟨hC, mk, si, mb, nM, dM, tM, dayM, alM, ndM, mkM, siM, knM, mbM, mkP, siP, mbP, sa, lk, ef, le, dm, rm, DL, kd, fg, RL, rc, rs, rz, rf, hP, hDP, hRP, hO, hRS, hRZ, hSH, hef, hlt⟩ := hX8
  have hC9 := hC
  obtain ⟨hWS, hWZ, hB1, hB2, gzz, gso, gke2, gkk⟩ := hC9
  have hn := hWS.1
  have hd := hWS.2.1
  have ht := ws_t9 hWS
  have hal : al < 64 := Nat.lt_of_lt_of_le hWS.2.2.2.1 (Nat.pow_le_pow_right (by decide) hd)
  have hday : day < 2 ^ 30 := by omega
  have gnd := hWS.2.2.2.2.1
  have gK := hWS.2.2.2.2.2.2.1
  have gF := hWS.2.2.2.2.2.2.2.1
  have gkn := hWS.2.2.2.2.2.2.2.2.1
  have hkk : ∀ a9 ∈ DL, kd a9 < 8 ∧ fg a9 < 10 := fun a9 ha9 => (hDP a9 ha9).2
  have hE : (XW cI cD cR ad hi n d t day al nd mk si kn mb nM dM tM dayM alM ndM mkM siM knM mbM nZ dZ tZ dayZ alZ ndZ mkP siP knZ mbP sa lk ef le dm rm).map Prod.fst = adL ad 0 25 := rfl
  have hPc := hP.sub (ws' := [((ad 0), .inr (11, [.ref (ad 1), .ref (ad 7), .ref (ad 13), .int (bI hi), .ref (ad 19), .ref (ad 23), .ref (ad 24)]))] ++ (schW cI cD (ad 1) (ad 2) (ad 3) (ad 4) (ad 5) (ad 6) n d t al day nd mk si kn mb) ++ [((ad 23), .inl (cD, 8, .inr (.inr (.inr (.inr dm)))))] ++ [((ad 24), .inl (cR, 8, .inr (.inr (.inr (.inr rm)))))]) [0, 1, 2, 3, 4, 5, 6, 23, 24] rfl
  have hD := ws_D hA hE (by omega)
  have hz := s0_le hA hP hE (by omega) (by omega)
  have hDc := hD.sub (ws' := [((ad 0), .inr (11, [.ref (ad 1), .ref (ad 7), .ref (ad 13), .int (bI hi), .ref (ad 19), .ref (ad 23), .ref (ad 24)]))] ++ (schW cI cD (ad 1) (ad 2) (ad 3) (ad 4) (ad 5) (ad 6) n d t al day nd mk si kn mb) ++ [((ad 23), .inl (cD, 8, .inr (.inr (.inr (.inr dm)))))] ++ [((ad 24), .inl (cR, 8, .inr (.inr (.inr (.inr rm)))))]) [0, 1, 2, 3, 4, 5, 6, 23, 24] (by decide) rfl
  refine ⟨_, _, _, _, _, _, c_X11_comes l dC dI cI cD cR (ad 0) (ad 1) (ad 7) (ad 13) hi (ad 19) (ad 23) (ad 24) (ad 2) (ad 3) (ad 4) (ad 5) (ad 6) n d t al day nd mk si kn mb dm rm v1 DL kd fg s.heap.size hn hd ht hal hday gnd gkn hRS.gmb hSH.1 (fun a9 ha9 => not_in hA hE (by omega) [0, 1, 2, 3, 4, 5, 6, 23, 24] rfl (hDP.lt ha9) (hO.1 a9 ha9)), ⟨by decide, by decide, by first | decide | (dsimp only; omega), by first | decide | (dsimp only; omega)⟩, ⟨by first | decide | (dsimp only; omega) | omega, by first | decide | (dsimp only; omega) | omega⟩, ⟨rfl, ⟨rfl, hPc, hDc, hDP⟩, hCX⟩, ?_, free_of hA (by omega) hE [0, 1, 2, 3, 4, 5, 6, 23, 24] rfl hz⟩
  rintro o T8 ⟨⟨r, u, ho, hr, hP1, hD1⟩, hF⟩
  have hP1 : va_P (dC, dI) vwCl ([((ad 0), .inr (11, [.ref (ad 1), .ref (ad 7), .ref (ad 13), .int (bI hi), .ref (ad 19), .ref (ad 23), .ref (ad 24)]))] ++ (schW cI cD (ad 1) (ad 2) (ad 3) (ad 4) (ad 5) (ad 6) n (bif (cmB dm v1 && decide (d < 6)) then d + 1 else d) t (bif (cmB dm v1 && decide (d < 6)) then al ||| 2 ^ d else al) day nd mk si (bif (cmB dm v1 && decide (d < 6)) then va_up kn d 0 else kn) (bif (cmB dm v1 && decide (d < 6)) then va_up mb d (some (cmA dm v1)) else mb)) ++ [((ad 23), .inl (cD, 8, .inr (.inr (.inr (.inr dm)))))] ++ [((ad 24), .inl (cR, 8, .inr (.inr (.inr (.inr rm)))))]) T8.heap := hP1
  have hfr := fr_of hE [0, 1, 2, 3, 4, 5, 6, 23, 24] rfl hF
  obtain ⟨hP2, -⟩ := va_join (wr := (schW cI cD (ad 7) (ad 8) (ad 9) (ad 10) (ad 11) (ad 12) nM dM tM alM dayM ndM mkM siM knM mbM) ++ (schW cI cD (ad 13) (ad 14) (ad 15) (ad 16) (ad 17) (ad 18) nZ dZ tZ alZ dayZ ndZ mkP siP knZ mbP) ++ (forW cI (ad 19) (ad 20) (ad 21) (ad 22) sa lk ef le)) (w1 := [((ad 0), .inr (11, [.ref (ad 1), .ref (ad 7), .ref (ad 13), .int (bI hi), .ref (ad 19), .ref (ad 23), .ref (ad 24)]))] ++ (schW cI cD (ad 1) (ad 2) (ad 3) (ad 4) (ad 5) (ad 6) n (bif (cmB dm v1 && decide (d < 6)) then d + 1 else d) t (bif (cmB dm v1 && decide (d < 6)) then al ||| 2 ^ d else al) day nd mk si (bif (cmB dm v1 && decide (d < 6)) then va_up kn d 0 else kn) (bif (cmB dm v1 && decide (d < 6)) then va_up mb d (some (cmA dm v1)) else mb)) ++ [((ad 23), .inl (cD, 8, .inr (.inr (.inr (.inr dm)))))] ++ [((ad 24), .inl (cR, 8, .inr (.inr (.inr (.inr rm)))))]) hP hD [0, 1, 2, 3, 4, 5, 6, 23, 24] [7, 8, 9, 10, 11, 12, 13, 14, 15, 16, 17, 18, 19, 20, 21, 22] rfl rfl (by decide) (by decide) hF.2 (fun _ _ => trivial) hP1 hD1
  have hP3 := hP2.sub (ws' := XW cI cD cR ad hi n (bif (cmB dm v1 && decide (d < 6)) then d + 1 else d) t day (bif (cmB dm v1 && decide (d < 6)) then al ||| 2 ^ d else al) nd mk si (bif (cmB dm v1 && decide (d < 6)) then va_up kn d 0 else kn) (bif (cmB dm v1 && decide (d < 6)) then va_up mb d (some (cmA dm v1)) else mb) nM dM tM dayM alM ndM mkM siM knM mbM nZ dZ tZ dayZ alZ ndZ mkP siP knZ mbP sa lk ef le dm rm) [16, 17, 18, 19, 20, 21, 22, 0, 1, 2, 3, 4, 5, 6, 7, 8, 9, 10, 11, 12, 13, 14, 15, 23, 24] rfl
  clear hP1 hD1 hP2
  have ec : ∀ {α : Type} (x9 z9 : α), (bif (cmB dm v1 && decide (d < 6)) then x9 else z9) = on1 (oN v1 8) (fun y9 => bif (decide (wkR ke y9 = 0) && decide (d < 6)) then x9 else z9) z9 := by
    intro α x9 z9
    rcases r_com hSH hkk v1 with ⟨e0, q | ⟨y, hy, rfl, hk⟩⟩ | ⟨y, a9, hy, rfl, hk, e0, e1, ha, e2, e3⟩
    · rw [e0, oN_f q]; rfl
    · rw [e0, oN_t hy, on1_s, decide_eq_false hk]
    · rw [e0, oN_t hy, on1_s, decide_eq_true hk]
  rw [ec (d + 1) d, ec (al ||| 2 ^ d) al, ec (va_up kn d 0) kn] at hP3
  have hRS9 : RS DL kd fg n (on1 (oN v1 8) (fun y9 => bif (decide (wkR ke y9 = 0) && decide (d < 6)) then d + 1 else d) (d)) t mk si (bif (cmB dm v1 && decide (d < 6)) then va_up mb d (some (cmA dm v1)) else mb) bb oo (on1 (oN v1 8) (fun y9 => bif (decide (wkR ke y9 = 0) && decide (d < 6)) then va_up K d (nT (qk y9)) else K) (K)) (on1 (oN v1 8) (fun y9 => bif (decide (wkR ke y9 = 0) && decide (d < 6)) then va_up F d (nT (qf y9)) else F) (F)) := by
    rcases r_com hSH hkk v1 with ⟨e0, q | ⟨y, hy, rfl, hk⟩⟩ | ⟨y, a9, hy, rfl, hk, e0, e1, ha, e2, e3⟩
    · simp only [e0, oN_f q, on1_n, Bool.false_and, cond_false]; exact hRS
    · simp only [e0, oN_t hy, on1_s, decide_eq_false hk, Bool.false_and, cond_false]; exact hRS
    · by_cases h6 : d < 6
      · simp only [e0, e1, oN_t hy, on1_s, decide_eq_true hk, decide_eq_true h6, Bool.true_and, cond_true]
        have h9 := rs_d2 hRS ha
        rw [e2, e3] at h9
        exact h9
      · simp only [e0, oN_t hy, on1_s, decide_eq_false h6, Bool.and_false, cond_false]; exact hRS
  have hWS9 : WS n (on1 (oN v1 8) (fun y9 => bif (decide (wkR ke y9 = 0) && decide (d < 6)) then d + 1 else d) (d)) t (on1 (oN v1 8) (fun y9 => bif (decide (wkR ke y9 = 0) && decide (d < 6)) then al ||| 2 ^ d else al) (al)) nd bb (on1 (oN v1 8) (fun y9 => bif (decide (wkR ke y9 = 0) && decide (d < 6)) then va_up K d (nT (qk y9)) else K) (K)) (on1 (oN v1 8) (fun y9 => bif (decide (wkR ke y9 = 0) && decide (d < 6)) then va_up F d (nT (qf y9)) else F) (F)) (on1 (oN v1 8) (fun y9 => bif (decide (wkR ke y9 = 0) && decide (d < 6)) then va_up kn d 0 else kn) (kn)) := by
    rcases r_com hSH hkk v1 with ⟨e0, q | ⟨y, hy, rfl, hk⟩⟩ | ⟨y, a9, hy, rfl, hk, e0, e1, ha, e2, e3⟩
    · simp only [e0, oN_f q, on1_n, Bool.false_and, cond_false]; exact hWS
    · simp only [e0, oN_t hy, on1_s, decide_eq_false hk, Bool.false_and, cond_false]; exact hWS
    · by_cases h6 : d < 6
      · simp only [oN_t hy, on1_s, decide_eq_true hk, decide_eq_true h6, Bool.true_and, cond_true]
        exact ws_d hWS h6 (by rw [← e2]; exact (hkk a9 ha).1) (by rw [← e3]; exact (hkk a9 ha).2)
      · simp only [oN_t hy, on1_s, decide_eq_false h6, Bool.and_false, cond_false]; exact hWS
  exact ⟨⟨r, (), ho, hr.trans (r_comes hSH _ _), ⟨⟨hWS9, hWZ, (by omega), (by omega), gzz, gso, gke2, gkk⟩, mk, si, bif (cmB dm v1 && decide (d < 6)) then va_up mb d (some (cmA dm v1)) else mb, nM, dM, tM, dayM, alM, ndM, mkM, siM, knM, mbM, mkP, siP, mbP, sa, lk, ef, le, dm, rm, DL, kd, fg, RL, rc, rs, rz, rf, hP3, (hDP.go hO (fun q hq hno => hfr q hq (fun j9 _ hj9 => hno j9 (by omega)))), (hRP.go hO (fun q hq hno => hfr q hq (fun j9 _ hj9 => hno j9 (by omega)))), hO, hRS9, hRZ, hSH, hef, fun j9 hj9 => Nat.lt_of_lt_of_le (hlt j9 hj9) hF.1⟩, hY _ _ hYs hF.1 (fun q hq hx => hfr q hq (fun j9 h8 h9 z9 => by obtain ⟨i9, g1, g2, g3⟩ := hx; have := hA.1 i9 j9 g2 (by omega) (g3.symm.trans z9); omega))⟩, hF.1, fun q hq hno => hfr q hq (fun j9 _ hj9 z9 => hno (by rw [z9]; exact hA.2 j9 (by omega)))⟩
set_option maxHeartbeats 4000000 in
set_option maxRecDepth 100000 in
theorem u_X11_deny (l : Launch) (dC : Nat → ClassId) (dI : Nat → Nat → Nat) (cI cD cR : ClassId) (ad : Nat → Nat) (s0 B : Nat) (hA : AdD ad s0) (hB : B ≤ 60000) (hi : Bool) (n d t day al : Nat) (nd : Nat → Nat) (bb oo : Nat → Int32) (K F kn : Nat → Nat) (nZ dZ tZ dayZ alZ : Nat) (ndZ : Nat → Nat) (bbZ ooZ : Nat → Int32) (KZ FZ knZ : Nat → Nat) (ke so zz : Nat → Nat) (el qk qf : Nat → Int32) (Y : Heap → Prop) (hY : YK ad Y) (v1 : Int32) (v2 : Int32) : Met l yX11_deny wsX11_deny ({ frames := 9, cells := 0, slots := 0, locals := 340 }) (pcR dC dI cI cD cR [.ref (ad 0), .int v1, .int v2] (fun H => XS dC dI cI cD cR ad s0 B hi n d t day al nd bb oo K F kn nZ dZ tZ dayZ alZ ndZ bbZ ooZ KZ FZ knZ ke so zz el qk qf H ∧ Y H)) (LQ s0 ((on2 (oN v1 d) (oN v2 n) (fun y v => bif mnB t al nd K F kn y v then bI (siB (K y) t (kn y) (nd v) (day % 2 != 0)) else -3) (-1))) (fun H => XS dC dI cI cD cR ad s0 (B + 100) hi n d (bif dnC n d (fun y v => mnB t al nd K F kn y v && siB (K y) t (kn y) (nd v) (day % 2 != 0)) v1 v2 then t ||| 2 ^ v2.toNatClampNeg else t) (bif dnC n d (fun y v => mnB t al nd K F kn y v) v1 v2 then day + 1 else day) al nd (bif dnC n d (fun y v => mnB t al nd K F kn y v && siB (K y) t (kn y) (nd v) (day % 2 != 0)) v1 v2 then upd bb v2.toNatClampNeg (nI v1.toNatClampNeg) else bb) (bif dnC n d (fun y v => mnB t al nd K F kn y v && siB (K y) t (kn y) (nd v) (day % 2 != 0)) v1 v2 then upd oo v2.toNatClampNeg (nI (day + 1)) else oo) K F (bif dnC n d (fun y v => mnB t al nd K F kn y v && siB (K y) t (kn y) (nd v) (day % 2 != 0)) v1 v2 then va_up kn v1.toNatClampNeg (kn v1.toNatClampNeg ||| 2 ^ v2.toNatClampNeg) else kn) nZ dZ tZ dayZ alZ ndZ bbZ ooZ KZ FZ knZ ke so zz el qk qf H ∧ Y H)) 0 0 (fun q => s0 ≤ q) := by
  refine met_cs (fun a s hs => ?_)
  obtain ⟨rfl, ⟨hX9, hYs⟩, hCX⟩ := hs
  have hX8 := hX9
  obtain ⟨hC, mk, si, mb, nM, dM, tM, dayM, alM, ndM, mkM, siM, knM, mbM, mkP, siP, mbP, sa, lk, ef, le, dm, rm, DL, kd, fg, RL, rc, rs, rz, rf, hP, hDP, hRP, hO, hRS, hRZ, hSH, hef, hlt⟩ := hX8
  have hC9 := hC
  obtain ⟨hWS, hWZ, hB1, hB2, gzz, gso, gke2, gkk⟩ := hC9
  have hn := hWS.1
  have hd := hWS.2.1
  have ht := ws_t9 hWS
  have hal : al < 64 := Nat.lt_of_lt_of_le hWS.2.2.2.1 (Nat.pow_le_pow_right (by decide) hd)
  have hday : day < 2 ^ 30 := by omega
  have gnd := hWS.2.2.2.2.1
  have gK := hWS.2.2.2.2.2.2.1
  have gF := hWS.2.2.2.2.2.2.2.1
  have gkn := hWS.2.2.2.2.2.2.2.2.1
  have hkk : ∀ a9 ∈ DL, kd a9 < 8 ∧ fg a9 < 10 := fun a9 ha9 => (hDP a9 ha9).2
  have hE : (XW cI cD cR ad hi n d t day al nd mk si kn mb nM dM tM dayM alM ndM mkM siM knM mbM nZ dZ tZ dayZ alZ ndZ mkP siP knZ mbP sa lk ef le dm rm).map Prod.fst = adL ad 0 25 := rfl
  have hPc := hP.sub (ws' := [((ad 0), .inr (11, [.ref (ad 1), .ref (ad 7), .ref (ad 13), .int (bI hi), .ref (ad 19), .ref (ad 23), .ref (ad 24)]))] ++ (schW cI cD (ad 1) (ad 2) (ad 3) (ad 4) (ad 5) (ad 6) n d t al day nd mk si kn mb)) [0, 1, 2, 3, 4, 5, 6] rfl
  have hD := ws_D hA hE (by omega)
  have hz := s0_le hA hP hE (by omega) (by omega)
  have hDc := hD.sub (ws' := [((ad 0), .inr (11, [.ref (ad 1), .ref (ad 7), .ref (ad 13), .int (bI hi), .ref (ad 19), .ref (ad 23), .ref (ad 24)]))] ++ (schW cI cD (ad 1) (ad 2) (ad 3) (ad 4) (ad 5) (ad 6) n d t al day nd mk si kn mb)) [0, 1, 2, 3, 4, 5, 6] (by decide) rfl
  refine ⟨_, _, _, _, _, _, c_X11_deny l dC dI cI cD cR (ad 0) (ad 1) (ad 7) (ad 13) hi (ad 19) (ad 23) (ad 24) (ad 2) (ad 3) (ad 4) (ad 5) (ad 6) n d t al day nd mk si kn mb v1 v2 DL kd fg s.heap.size hn hd ht hal hday gnd gkn hRS.gmb (by omega) (fun a9 ha9 => not_in hA hE (by omega) [0, 1, 2, 3, 4, 5, 6] rfl (hDP.lt ha9) (hO.1 a9 ha9)), ⟨by decide, by decide, by first | decide | (dsimp only; omega), by first | decide | (dsimp only; omega)⟩, ⟨by first | decide | (dsimp only; omega) | omega, by first | decide | (dsimp only; omega) | omega⟩, ⟨rfl, ⟨rfl, hPc, hDc, hDP⟩, hCX⟩, ?_, free_of hA (by omega) hE [0, 1, 2, 3, 4, 5, 6] rfl hz⟩
  rintro o T8 ⟨⟨r, u, ho, hr, hP1, hD1⟩, hF⟩
  have hP1 : va_P (dC, dI) vwCl ([((ad 0), .inr (11, [.ref (ad 1), .ref (ad 7), .ref (ad 13), .int (bI hi), .ref (ad 19), .ref (ad 23), .ref (ad 24)]))] ++ (schW cI cD (ad 1) (ad 2) (ad 3) (ad 4) (ad 5) (ad 6) n d (bif dnC n d (fun y v => alB n al t kn nd mb kd fg y v && wsB day t kn nd mb kd y v) v1 v2 then t ||| 2 ^ v2.toNatClampNeg else t) al (bif dnC n d (fun y v => alB n al t kn nd mb kd fg y v) v1 v2 then day + 1 else day) nd (bif dnC n d (fun y v => alB n al t kn nd mb kd fg y v && wsB day t kn nd mb kd y v) v1 v2 then upd mk v2.toNatClampNeg (nI v1.toNatClampNeg) else mk) (bif dnC n d (fun y v => alB n al t kn nd mb kd fg y v && wsB day t kn nd mb kd y v) v1 v2 then upd si v2.toNatClampNeg (nI (day + 1)) else si) (bif dnC n d (fun y v => alB n al t kn nd mb kd fg y v && wsB day t kn nd mb kd y v) v1 v2 then va_up kn v1.toNatClampNeg (kn v1.toNatClampNeg ||| 2 ^ v2.toNatClampNeg) else kn) mb)) T8.heap := hP1
  have hfr := fr_of hE [0, 1, 2, 3, 4, 5, 6] rfl hF
  obtain ⟨hP2, -⟩ := va_join (wr := (schW cI cD (ad 7) (ad 8) (ad 9) (ad 10) (ad 11) (ad 12) nM dM tM alM dayM ndM mkM siM knM mbM) ++ (schW cI cD (ad 13) (ad 14) (ad 15) (ad 16) (ad 17) (ad 18) nZ dZ tZ alZ dayZ ndZ mkP siP knZ mbP) ++ (forW cI (ad 19) (ad 20) (ad 21) (ad 22) sa lk ef le) ++ [((ad 23), .inl (cD, 8, .inr (.inr (.inr (.inr dm)))))] ++ [((ad 24), .inl (cR, 8, .inr (.inr (.inr (.inr rm)))))]) (w1 := [((ad 0), .inr (11, [.ref (ad 1), .ref (ad 7), .ref (ad 13), .int (bI hi), .ref (ad 19), .ref (ad 23), .ref (ad 24)]))] ++ (schW cI cD (ad 1) (ad 2) (ad 3) (ad 4) (ad 5) (ad 6) n d (bif dnC n d (fun y v => alB n al t kn nd mb kd fg y v && wsB day t kn nd mb kd y v) v1 v2 then t ||| 2 ^ v2.toNatClampNeg else t) al (bif dnC n d (fun y v => alB n al t kn nd mb kd fg y v) v1 v2 then day + 1 else day) nd (bif dnC n d (fun y v => alB n al t kn nd mb kd fg y v && wsB day t kn nd mb kd y v) v1 v2 then upd mk v2.toNatClampNeg (nI v1.toNatClampNeg) else mk) (bif dnC n d (fun y v => alB n al t kn nd mb kd fg y v && wsB day t kn nd mb kd y v) v1 v2 then upd si v2.toNatClampNeg (nI (day + 1)) else si) (bif dnC n d (fun y v => alB n al t kn nd mb kd fg y v && wsB day t kn nd mb kd y v) v1 v2 then va_up kn v1.toNatClampNeg (kn v1.toNatClampNeg ||| 2 ^ v2.toNatClampNeg) else kn) mb)) hP hD [0, 1, 2, 3, 4, 5, 6] [7, 8, 9, 10, 11, 12, 13, 14, 15, 16, 17, 18, 19, 20, 21, 22, 23, 24] rfl rfl (by decide) (by decide) hF.2 (fun _ _ => trivial) hP1 hD1
  have hP3 := hP2.sub (ws' := XW cI cD cR ad hi n d (bif dnC n d (fun y v => alB n al t kn nd mb kd fg y v && wsB day t kn nd mb kd y v) v1 v2 then t ||| 2 ^ v2.toNatClampNeg else t) (bif dnC n d (fun y v => alB n al t kn nd mb kd fg y v) v1 v2 then day + 1 else day) al nd (bif dnC n d (fun y v => alB n al t kn nd mb kd fg y v && wsB day t kn nd mb kd y v) v1 v2 then upd mk v2.toNatClampNeg (nI v1.toNatClampNeg) else mk) (bif dnC n d (fun y v => alB n al t kn nd mb kd fg y v && wsB day t kn nd mb kd y v) v1 v2 then upd si v2.toNatClampNeg (nI (day + 1)) else si) (bif dnC n d (fun y v => alB n al t kn nd mb kd fg y v && wsB day t kn nd mb kd y v) v1 v2 then va_up kn v1.toNatClampNeg (kn v1.toNatClampNeg ||| 2 ^ v2.toNatClampNeg) else kn) mb nM dM tM dayM alM ndM mkM siM knM mbM nZ dZ tZ dayZ alZ ndZ mkP siP knZ mbP sa lk ef le dm rm) [18, 19, 20, 21, 22, 23, 24, 0, 1, 2, 3, 4, 5, 6, 7, 8, 9, 10, 11, 12, 13, 14, 15, 16, 17] rfl
  clear hP1 hD1 hP2
  have e1 : dnC n d (fun y v => alB n al t kn nd mb kd fg y v && wsB day t kn nd mb kd y v) v1 v2 = dnC n d (fun y v => mnB t al nd K F kn y v && siB (K y) t (kn y) (nd v) (day % 2 != 0)) v1 v2 := dn_cong hn hd (fun y v hy hv => by obtain ⟨a9, h1, -⟩ := hRS.2.2.1 y hy; rw [q_al hRS hd hy hv, wsB_si h1, hRS.kdq hy])
  have e2 : dnC n d (fun y v => alB n al t kn nd mb kd fg y v) v1 v2 = dnC n d (fun y v => mnB t al nd K F kn y v) v1 v2 := dn_cong hn hd (fun y v hy hv => q_al hRS hd hy hv)
  rw [e1, e2] at hP3
  have hRS9 : RS DL kd fg n d (bif dnC n d (fun y v => mnB t al nd K F kn y v && siB (K y) t (kn y) (nd v) (day % 2 != 0)) v1 v2 then t ||| 2 ^ v2.toNatClampNeg else t) (bif dnC n d (fun y v => mnB t al nd K F kn y v && siB (K y) t (kn y) (nd v) (day % 2 != 0)) v1 v2 then upd mk v2.toNatClampNeg (nI v1.toNatClampNeg) else mk) (bif dnC n d (fun y v => mnB t al nd K F kn y v && siB (K y) t (kn y) (nd v) (day % 2 != 0)) v1 v2 then upd si v2.toNatClampNeg (nI (day + 1)) else si) mb (bif dnC n d (fun y v => mnB t al nd K F kn y v && siB (K y) t (kn y) (nd v) (day % 2 != 0)) v1 v2 then upd bb v2.toNatClampNeg (nI v1.toNatClampNeg) else bb) (bif dnC n d (fun y v => mnB t al nd K F kn y v && siB (K y) t (kn y) (nd v) (day % 2 != 0)) v1 v2 then upd oo v2.toNatClampNeg (nI (day + 1)) else oo) K F := by
    cases dnC n d (fun y v => mnB t al nd K F kn y v && siB (K y) t (kn y) (nd v) (day % 2 != 0)) v1 v2
    · exact hRS
    · exact rs_t hRS
  have hWS9 : WS n d (bif dnC n d (fun y v => mnB t al nd K F kn y v && siB (K y) t (kn y) (nd v) (day % 2 != 0)) v1 v2 then t ||| 2 ^ v2.toNatClampNeg else t) al nd (bif dnC n d (fun y v => mnB t al nd K F kn y v && siB (K y) t (kn y) (nd v) (day % 2 != 0)) v1 v2 then upd bb v2.toNatClampNeg (nI v1.toNatClampNeg) else bb) K F (bif dnC n d (fun y v => mnB t al nd K F kn y v && siB (K y) t (kn y) (nd v) (day % 2 != 0)) v1 v2 then va_up kn v1.toNatClampNeg (kn v1.toNatClampNeg ||| 2 ^ v2.toNatClampNeg) else kn) := by
    cases hc9 : dnC n d (fun y v => mnB t al nd K F kn y v && siB (K y) t (kn y) (nd v) (day % 2 != 0)) v1 v2
    · exact hWS
    · obtain ⟨y, v, hy, hv, rfl, rfl, hq⟩ := dn_t (by omega) (by omega) hc9
      rw [Bool.and_eq_true] at hq
      have hal9 : al.testBit y = true := by have := hq.1; unfold mnB at this; rw [Bool.and_eq_true] at this; exact this.1
      rw [nI_clamp (by omega), nI_clamp (by omega)]
      exact ws_k (ws_t hWS hv (Or.inr ⟨y, hy, rfl, hal9⟩)) hv
  exact ⟨⟨r, (), ho, hr.trans (r_deny hRS hn hd _ _), ⟨⟨hWS9, hWZ, (by generalize dnC n d (fun y v => mnB t al nd K F kn y v) v1 v2 = c9; cases c9 <;> simp only [cond_true, cond_false] <;> omega), (by omega), gzz, gso, gke2, gkk⟩, (bif dnC n d (fun y v => mnB t al nd K F kn y v && siB (K y) t (kn y) (nd v) (day % 2 != 0)) v1 v2 then upd mk v2.toNatClampNeg (nI v1.toNatClampNeg) else mk), (bif dnC n d (fun y v => mnB t al nd K F kn y v && siB (K y) t (kn y) (nd v) (day % 2 != 0)) v1 v2 then upd si v2.toNatClampNeg (nI (day + 1)) else si), mb, nM, dM, tM, dayM, alM, ndM, mkM, siM, knM, mbM, mkP, siP, mbP, sa, lk, ef, le, dm, rm, DL, kd, fg, RL, rc, rs, rz, rf, hP3, (hDP.go hO (fun q hq hno => hfr q hq (fun j9 _ hj9 => hno j9 (by omega)))), (hRP.go hO (fun q hq hno => hfr q hq (fun j9 _ hj9 => hno j9 (by omega)))), hO, hRS9, hRZ, hSH, hef, fun j9 hj9 => Nat.lt_of_lt_of_le (hlt j9 hj9) hF.1⟩, hY _ _ hYs hF.1 (fun q hq hx => hfr q hq (fun j9 h8 h9 z9 => by obtain ⟨i9, g1, g2, g3⟩ := hx; have := hA.1 i9 j9 g2 (by omega) (g3.symm.trans z9); omega))⟩, hF.1, fun q hq hno => hfr q hq (fun j9 _ hj9 z9 => hno (by rw [z9]; exact hA.2 j9 (by omega)))⟩
set_option maxHeartbeats 4000000 in
set_option maxRecDepth 100000 in
theorem u_X11_die (l : Launch) (dC : Nat → ClassId) (dI : Nat → Nat → Nat) (cI cD cR : ClassId) (ad : Nat → Nat) (s0 B : Nat) (hA : AdD ad s0) (hB : B ≤ 60000) (hi : Bool) (n d t day al : Nat) (nd : Nat → Nat) (bb oo : Nat → Int32) (K F kn : Nat → Nat) (nZ dZ tZ dayZ alZ : Nat) (ndZ : Nat → Nat) (bbZ ooZ : Nat → Int32) (KZ FZ knZ : Nat → Nat) (ke so zz : Nat → Nat) (el qk qf : Nat → Int32) (Y : Heap → Prop) (hY : YK ad Y) (v1 : Int32) : Met l yX11_die wsX11_die ({ frames := 9, cells := 0, slots := 0, locals := 340 }) (pcR dC dI cI cD cR [.ref (ad 0), .int v1] (fun H => XS dC dI cI cD cR ad s0 B hi n d t day al nd bb oo K F kn nZ dZ tZ dayZ alZ ndZ bbZ ooZ KZ FZ knZ ke so zz el qk qf H ∧ Y H)) (LQ s0 ((on1 (oN v1 d) (fun y => bif al.testBit y then nI (pcN (bif al.testBit y then ruR t nd n 9 (orF (fun s9 => t.testBit s9 && decide (bb s9 = nI y)) n) else 0)) else -3) (-1))) (fun H => XS dC dI cI cD cR ad s0 (B + 100) hi n d (on1 (oN v1 d) (fun y => bif al.testBit y then sdf t (bif al.testBit y then ruR t nd n 9 (orF (fun s9 => t.testBit s9 && decide (bb s9 = nI y)) n) else 0) else t) t) day (on1 (oN v1 d) (fun y => bif al.testBit y then sdf al (2 ^ y) else al) al) nd (on1 (oN v1 d) (fun y => bif al.testBit y then faB (bif al.testBit y then ruR t nd n 9 (orF (fun s9 => t.testBit s9 && decide (bb s9 = nI y)) n) else 0) (-4) n bb else bb) bb) (on1 (oN v1 d) (fun y => bif al.testBit y then faB (bif al.testBit y then ruR t nd n 9 (orF (fun s9 => t.testBit s9 && decide (bb s9 = nI y)) n) else 0) (-4) n oo else oo) oo) K F kn nZ dZ tZ dayZ alZ ndZ bbZ ooZ KZ FZ knZ ke so zz el qk qf H ∧ Y H)) 0 0 (fun q => s0 ≤ q) := by
  refine met_cs (fun a s hs => ?_)
  obtain ⟨rfl, ⟨hX9, hYs⟩, hCX⟩ := hs
  have hX8 := hX9
  obtain ⟨hC, mk, si, mb, nM, dM, tM, dayM, alM, ndM, mkM, siM, knM, mbM, mkP, siP, mbP, sa, lk, ef, le, dm, rm, DL, kd, fg, RL, rc, rs, rz, rf, hP, hDP, hRP, hO, hRS, hRZ, hSH, hef, hlt⟩ := hX8
  have hC9 := hC
  obtain ⟨hWS, hWZ, hB1, hB2, gzz, gso, gke2, gkk⟩ := hC9
  have hn := hWS.1
  have hd := hWS.2.1
  have ht := ws_t9 hWS
  have hal : al < 64 := Nat.lt_of_lt_of_le hWS.2.2.2.1 (Nat.pow_le_pow_right (by decide) hd)
  have hday : day < 2 ^ 30 := by omega
  have gnd := hWS.2.2.2.2.1
  have gK := hWS.2.2.2.2.2.2.1
  have gF := hWS.2.2.2.2.2.2.2.1
  have gkn := hWS.2.2.2.2.2.2.2.2.1
  have hkk : ∀ a9 ∈ DL, kd a9 < 8 ∧ fg a9 < 10 := fun a9 ha9 => (hDP a9 ha9).2
  have hE : (XW cI cD cR ad hi n d t day al nd mk si kn mb nM dM tM dayM alM ndM mkM siM knM mbM nZ dZ tZ dayZ alZ ndZ mkP siP knZ mbP sa lk ef le dm rm).map Prod.fst = adL ad 0 25 := rfl
  have hPc := hP.sub (ws' := [((ad 0), .inr (11, [.ref (ad 1), .ref (ad 7), .ref (ad 13), .int (bI hi), .ref (ad 19), .ref (ad 23), .ref (ad 24)]))] ++ (schW cI cD (ad 1) (ad 2) (ad 3) (ad 4) (ad 5) (ad 6) n d t al day nd mk si kn mb)) [0, 1, 2, 3, 4, 5, 6] rfl
  have hD := ws_D hA hE (by omega)
  have hz := s0_le hA hP hE (by omega) (by omega)
  have hDc := hD.sub (ws' := [((ad 0), .inr (11, [.ref (ad 1), .ref (ad 7), .ref (ad 13), .int (bI hi), .ref (ad 19), .ref (ad 23), .ref (ad 24)]))] ++ (schW cI cD (ad 1) (ad 2) (ad 3) (ad 4) (ad 5) (ad 6) n d t al day nd mk si kn mb)) [0, 1, 2, 3, 4, 5, 6] (by decide) rfl
  refine ⟨_, _, _, _, _, _, c_X11_die l dC dI cI cD cR (ad 0) (ad 1) (ad 7) (ad 13) hi (ad 19) (ad 23) (ad 24) (ad 2) (ad 3) (ad 4) (ad 5) (ad 6) n d t al day nd mk si kn mb v1 s.heap.size hn hd ht hal hday gnd gkn, ⟨by decide, by decide, by first | decide | (dsimp only; omega), by first | decide | (dsimp only; omega)⟩, ⟨by first | decide | (dsimp only; omega) | omega, by first | decide | (dsimp only; omega) | omega⟩, ⟨rfl, ⟨rfl, hPc, hDc⟩, hCX⟩, ?_, free_of hA (by omega) hE [0, 1, 2, 3, 4, 5, 6] rfl hz⟩
  rintro o T8 ⟨⟨r, u, ho, hr, hP1, hD1⟩, hF⟩
  have hP1 : va_P (dC, dI) vwCl ([((ad 0), .inr (11, [.ref (ad 1), .ref (ad 7), .ref (ad 13), .int (bI hi), .ref (ad 19), .ref (ad 23), .ref (ad 24)]))] ++ (schW cI cD (ad 1) (ad 2) (ad 3) (ad 4) (ad 5) (ad 6) n d (on1 (oN v1 d) (fun y => bif al.testBit y then sdf t (ruF t nd mk n y) else t) t) (on1 (oN v1 d) (fun y => bif al.testBit y then sdf al (2 ^ y) else al) al) day nd mk si kn mb)) T8.heap := hP1
  have hfr := fr_of hE [0, 1, 2, 3, 4, 5, 6] rfl hF
  obtain ⟨hP2, -⟩ := va_join (wr := (schW cI cD (ad 7) (ad 8) (ad 9) (ad 10) (ad 11) (ad 12) nM dM tM alM dayM ndM mkM siM knM mbM) ++ (schW cI cD (ad 13) (ad 14) (ad 15) (ad 16) (ad 17) (ad 18) nZ dZ tZ alZ dayZ ndZ mkP siP knZ mbP) ++ (forW cI (ad 19) (ad 20) (ad 21) (ad 22) sa lk ef le) ++ [((ad 23), .inl (cD, 8, .inr (.inr (.inr (.inr dm)))))] ++ [((ad 24), .inl (cR, 8, .inr (.inr (.inr (.inr rm)))))]) (w1 := [((ad 0), .inr (11, [.ref (ad 1), .ref (ad 7), .ref (ad 13), .int (bI hi), .ref (ad 19), .ref (ad 23), .ref (ad 24)]))] ++ (schW cI cD (ad 1) (ad 2) (ad 3) (ad 4) (ad 5) (ad 6) n d (on1 (oN v1 d) (fun y => bif al.testBit y then sdf t (ruF t nd mk n y) else t) t) (on1 (oN v1 d) (fun y => bif al.testBit y then sdf al (2 ^ y) else al) al) day nd mk si kn mb)) hP hD [0, 1, 2, 3, 4, 5, 6] [7, 8, 9, 10, 11, 12, 13, 14, 15, 16, 17, 18, 19, 20, 21, 22, 23, 24] rfl rfl (by decide) (by decide) hF.2 (fun _ _ => trivial) hP1 hD1
  have hP3 := hP2.sub (ws' := XW cI cD cR ad hi n d (on1 (oN v1 d) (fun y => bif al.testBit y then sdf t (ruF t nd mk n y) else t) t) day (on1 (oN v1 d) (fun y => bif al.testBit y then sdf al (2 ^ y) else al) al) nd mk si kn mb nM dM tM dayM alM ndM mkM siM knM mbM nZ dZ tZ dayZ alZ ndZ mkP siP knZ mbP sa lk ef le dm rm) [18, 19, 20, 21, 22, 23, 24, 0, 1, 2, 3, 4, 5, 6, 7, 8, 9, 10, 11, 12, 13, 14, 15, 16, 17] rfl
  clear hP1 hD1 hP2
  have e1 : on1 (oN v1 d) (fun y => bif al.testBit y then sdf t (ruF t nd mk n y) else t) t = on1 (oN v1 d) (fun y => bif al.testBit y then sdf t (bif al.testBit y then ruR t nd n 9 (orF (fun s9 => t.testBit s9 && decide (bb s9 = nI y)) n) else 0) else t) t := on1_cong (by omega) (fun y hy => by (try dsimp only); rw [q_fal hRS hWS hy])
  rw [e1] at hP3
  have hRS9 : RS DL kd fg n d (on1 (oN v1 d) (fun y => bif al.testBit y then sdf t (bif al.testBit y then ruR t nd n 9 (orF (fun s9 => t.testBit s9 && decide (bb s9 = nI y)) n) else 0) else t) t) mk si mb (on1 (oN v1 d) (fun y => bif al.testBit y then faB (bif al.testBit y then ruR t nd n 9 (orF (fun s9 => t.testBit s9 && decide (bb s9 = nI y)) n) else 0) (-4) n bb else bb) bb) (on1 (oN v1 d) (fun y => bif al.testBit y then faB (bif al.testBit y then ruR t nd n 9 (orF (fun s9 => t.testBit s9 && decide (bb s9 = nI y)) n) else 0) (-4) n oo else oo) oo) K F := by
    rcases okI_or v1 (n := d) (by omega) with q | ⟨y, hy, rfl⟩
    · simp only [oN_f q, on1_n]; exact hRS
    · simp only [oN_t hy, on1_s]
      cases al.testBit y
      · exact hRS
      · exact rs_die hRS
  have hWS9 : WS n d (on1 (oN v1 d) (fun y => bif al.testBit y then sdf t (bif al.testBit y then ruR t nd n 9 (orF (fun s9 => t.testBit s9 && decide (bb s9 = nI y)) n) else 0) else t) t) (on1 (oN v1 d) (fun y => bif al.testBit y then sdf al (2 ^ y) else al) al) nd (on1 (oN v1 d) (fun y => bif al.testBit y then faB (bif al.testBit y then ruR t nd n 9 (orF (fun s9 => t.testBit s9 && decide (bb s9 = nI y)) n) else 0) (-4) n bb else bb) bb) K F kn := by
    rcases okI_or v1 (n := d) (by omega) with q | ⟨y, hy, rfl⟩
    · simp only [oN_f q, on1_n]; exact hWS
    · simp only [oN_t hy, on1_s]
      cases al.testBit y
      · exact hWS
      · exact ws_die hWS
  exact ⟨⟨r, (), ho, hr.trans (on1_cong (by omega) (fun y hy => by (try dsimp only); rw [q_fal hRS hWS hy])), ⟨⟨hWS9, hWZ, (by omega), (by omega), gzz, gso, gke2, gkk⟩, mk, si, mb, nM, dM, tM, dayM, alM, ndM, mkM, siM, knM, mbM, mkP, siP, mbP, sa, lk, ef, le, dm, rm, DL, kd, fg, RL, rc, rs, rz, rf, hP3, (hDP.go hO (fun q hq hno => hfr q hq (fun j9 _ hj9 => hno j9 (by omega)))), (hRP.go hO (fun q hq hno => hfr q hq (fun j9 _ hj9 => hno j9 (by omega)))), hO, hRS9, hRZ, hSH, hef, fun j9 hj9 => Nat.lt_of_lt_of_le (hlt j9 hj9) hF.1⟩, hY _ _ hYs hF.1 (fun q hq hx => hfr q hq (fun j9 h8 h9 z9 => by obtain ⟨i9, g1, g2, g3⟩ := hx; have := hA.1 i9 j9 g2 (by omega) (g3.symm.trans z9); omega))⟩, hF.1, fun q hq hno => hfr q hq (fun j9 _ hj9 z9 => hno (by rw [z9]; exact hA.2 j9 (by omega)))⟩
