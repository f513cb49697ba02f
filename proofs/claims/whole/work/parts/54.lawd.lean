set_option maxHeartbeats 4000000 in
set_option maxRecDepth 100000 in
theorem u_X11_keep_f (l : Launch) (dC : Nat → ClassId) (dI : Nat → Nat → Nat) (cI cD cR : ClassId) (ad : Nat → Nat) (s0 B : Nat) (hA : AdD ad s0) (hB : B ≤ 60000) (hi : Bool) (n d t day al : Nat) (nd : Nat → Nat) (bb oo : Nat → Int32) (K F kn : Nat → Nat) (nZ dZ tZ dayZ alZ : Nat) (ndZ : Nat → Nat) (bbZ ooZ : Nat → Int32) (KZ FZ knZ : Nat → Nat) (ke so zz : Nat → Nat) (el qk qf : Nat → Int32) (Y : Heap → Prop) (hY : YK ad Y) (v1 : Int32) (v2 : Int32) (v3 : Int32) (v4 : Int32) (hno : ∀ y, v1 = nI y → y < 8 → keepB v2 v3 v4 = false) : Met l yX11_keep wsX11_keep ({ frames := 9, cells := 1, slots := 2, locals := 340 }) (pcR dC dI cI cD cR [.ref (ad 0), .int v1, .int v2, .int v3, .int v4] (fun H => XS dC dI cI cD cR ad s0 B hi n d t day al nd bb oo K F kn nZ dZ tZ dayZ alZ ndZ bbZ ooZ KZ FZ knZ ke so zz el qk qf H ∧ Y H)) (LQ s0 (-1) (fun H => XS dC dI cI cD cR ad s0 (B + 100) hi n d t day al nd bb oo K F kn nZ dZ tZ dayZ alZ ndZ bbZ ooZ KZ FZ knZ ke so zz el qk qf H ∧ Y H)) 1 2 (fun q => s0 ≤ q) := by
  refine met_cs (fun a s hs => ?_)
  obtain ⟨rfl, ⟨hX9, hYs⟩, hCX⟩ := hs
  have hX8 := hX9
  obtain ⟨hC, mk, si, mb, nM, dM, tM, dayM, alM, ndM, mkM, siM, knM, mbM, mkP, siP, mbP, sa, lk, ef, le, dm, rm, DL, kd, fg, RL, rc, rs, rz, rf, hP, hDP, hRP, hO, hRS, hRZ, hSH, hef, hlt⟩ := hX8
  have hC9 := hC
  obtain ⟨hWS, hWZ, hB1, hB2, gzz, gso, gke2, gkk⟩ := hC9
  have hn := hWS.1
  have hd := hWS.2.1
  have ht := ws_t9 hWS
  have hal : al < 64 := Nat.lt_of_lt_of_le hWS.2.2.2.1 (Nat.pow_le_pow_right (by decide) hd)
  have hday : day < 2 ^ 30 := by omega
  have gnd := hWS.2.2.2.2.1
  have gK := hWS.2.2.2.2.2.2.1
  have gF := hWS.2.2.2.2.2.2.2.1
  have gkn := hWS.2.2.2.2.2.2.2.2.1
  have hkk : ∀ a9 ∈ DL, kd a9 < 8 ∧ fg a9 < 10 := fun a9 ha9 => (hDP a9 ha9).2
  have hE : (XW cI cD cR ad hi n d t day al nd mk si kn mb nM dM tM dayM alM ndM mkM siM knM mbM nZ dZ tZ dayZ alZ ndZ mkP siP knZ mbP sa lk ef le dm rm).map Prod.fst = adL ad 0 25 := rfl
  have hPc := hP.sub (ws' := [((ad 0), .inr (11, [.ref (ad 1), .ref (ad 7), .ref (ad 13), .int (bI hi), .ref (ad 19), .ref (ad 23), .ref (ad 24)]))] ++ [((ad 23), .inl (cD, 8, .inr (.inr (.inr (.inr dm)))))] ++ [((ad 24), .inl (cR, 8, .inr (.inr (.inr (.inr rm)))))]) [0, 23, 24] rfl
  refine ⟨_, _, _, _, _, _, c_X11_keep_f l dC dI cI cD cR (ad 0) (ad 1) (ad 7) (ad 13) hi (ad 19) (ad 23) (ad 24) dm rm v1 v2 v3 v4 hno, ⟨by decide, by decide, by first | decide | exact Nat.zero_le _, by first | decide | exact Nat.zero_le _⟩, ⟨Nat.zero_le _, Nat.zero_le _⟩, ⟨rfl, hPc, hCX⟩, ?_, fun q hq => hq.elim⟩
  rintro o t ⟨r, ho, hr, hh⟩
  exact ⟨⟨r, (), ho, hr.trans (rfl), by first | (rw [hh]; exact ⟨hX9.mono (by omega), hYs⟩) | (simp only [hh]; exact ⟨hX9.mono (by omega), hYs⟩)⟩, by rw [hh]; exact Nat.le_refl _, fun q _ _ => by rw [hh]⟩
set_option maxHeartbeats 4000000 in
set_option maxRecDepth 100000 in
theorem u_X11_keep_0 (l : Launch) (dC : Nat → ClassId) (dI : Nat → Nat → Nat) (cI cD cR : ClassId) (ad : Nat → Nat) (s0 B : Nat) (hA : AdD ad s0) (hB : B ≤ 60000) (hi : Bool) (n d t day al : Nat) (nd : Nat → Nat) (bb oo : Nat → Int32) (K F kn : Nat → Nat) (nZ dZ tZ dayZ alZ : Nat) (ndZ : Nat → Nat) (bbZ ooZ : Nat → Int32) (KZ FZ knZ : Nat → Nat) (ke so zz : Nat → Nat) (el qk qf : Nat → Int32) (Y : Heap → Prop) (hY : YK ad Y) (v1 : Nat) (v3 : Int32) (v4 : Int32) (hy9 : v1 < 8) : Met l yX11_keep wsX11_keep ({ frames := 9, cells := 1, slots := 2, locals := 340 }) (pcR dC dI cI cD cR [.ref (ad 0), .int (nI v1), .int (nI 0), .int v3, .int v4] (fun H => XS dC dI cI cD cR ad s0 B hi n d t day al nd bb oo K F kn nZ dZ tZ dayZ alZ ndZ bbZ ooZ KZ FZ knZ ke so zz el qk qf H ∧ Y H)) (LQ s0 (nI 0) (fun H => XS dC dI cI cD cR ad s0 (B + 100) hi n d t day al nd bb oo K F kn nZ dZ tZ dayZ alZ ndZ bbZ ooZ KZ FZ knZ (va_up ke v1 0) so zz el (upd qk v1 v3) (upd qf v1 v4) H ∧ Y H)) 1 2 (fun q => s0 ≤ q) := by
  refine met_cs (fun a s hs => ?_)
  obtain ⟨rfl, ⟨hX9, hYs⟩, hCX⟩ := hs
  have hX8 := hX9
  obtain ⟨hC, mk, si, mb, nM, dM, tM, dayM, alM, ndM, mkM, siM, knM, mbM, mkP, siP, mbP, sa, lk, ef, le, dm, rm, DL, kd, fg, RL, rc, rs, rz, rf, hP, hDP, hRP, hO, hRS, hRZ, hSH, hef, hlt⟩ := hX8
  have hC9 := hC
  obtain ⟨hWS, hWZ, hB1, hB2, gzz, gso, gke2, gkk⟩ := hC9
  have hn := hWS.1
  have hd := hWS.2.1
  have ht := ws_t9 hWS
  have hal : al < 64 := Nat.lt_of_lt_of_le hWS.2.2.2.1 (Nat.pow_le_pow_right (by decide) hd)
  have hday : day < 2 ^ 30 := by omega
  have gnd := hWS.2.2.2.2.1
  have gK := hWS.2.2.2.2.2.2.1
  have gF := hWS.2.2.2.2.2.2.2.1
  have gkn := hWS.2.2.2.2.2.2.2.2.1
  have hkk : ∀ a9 ∈ DL, kd a9 < 8 ∧ fg a9 < 10 := fun a9 ha9 => (hDP a9 ha9).2
  have hE : (XW cI cD cR ad hi n d t day al nd mk si kn mb nM dM tM dayM alM ndM mkM siM knM mbM nZ dZ tZ dayZ alZ ndZ mkP siP knZ mbP sa lk ef le dm rm).map Prod.fst = adL ad 0 25 := rfl
  have hPc := hP.sub (ws' := [((ad 0), .inr (11, [.ref (ad 1), .ref (ad 7), .ref (ad 13), .int (bI hi), .ref (ad 19), .ref (ad 23), .ref (ad 24)]))] ++ [((ad 23), .inl (cD, 8, .inr (.inr (.inr (.inr dm)))))] ++ [((ad 24), .inl (cR, 8, .inr (.inr (.inr (.inr rm)))))]) [0, 23, 24] rfl
  have hD := ws_D hA hE (by omega)
  have hz := s0_le hA hP hE (by omega) (by omega)
  have hDc := hD.sub (ws' := [((ad 0), .inr (11, [.ref (ad 1), .ref (ad 7), .ref (ad 13), .int (bI hi), .ref (ad 19), .ref (ad 23), .ref (ad 24)]))] ++ [((ad 23), .inl (cD, 8, .inr (.inr (.inr (.inr dm)))))] ++ [((ad 24), .inl (cR, 8, .inr (.inr (.inr (.inr rm)))))]) [0, 23, 24] (by decide) rfl
  refine ⟨_, _, _, _, _, _, c_X11_keep_0 l dC dI cI cD cR (ad 0) (ad 1) (ad 7) (ad 13) hi (ad 19) (ad 23) (ad 24) dm rm v1 v3 v4 s.heap.size hy9, ⟨by decide, by decide, by first | decide | (dsimp only; omega), by first | decide | (dsimp only; omega)⟩, ⟨by first | decide | (dsimp only; omega) | omega, by first | decide | (dsimp only; omega) | omega⟩, ⟨rfl, ⟨rfl, hPc, hDc⟩, hCX⟩, ?_, free_of hA (by omega) hE [0, 23, 24] rfl hz⟩
  rintro o T8 ⟨⟨r, u, ho, hr, hP1, hD1⟩, hF⟩
  have hP1 : va_P (dC, dI) vwCl ([((ad 0), .inr (11, [.ref (ad 1), .ref (ad 7), .ref (ad 13), .int (bI hi), .ref (ad 19), .ref (ad 23), .ref (ad 24)]))] ++ [((ad 23), .inl (cD, 8, .inr (.inr (.inr (.inr (va_up dm v1 none))))))] ++ [((ad 24), .inl (cR, 8, .inr (.inr (.inr (.inr (va_up rm v1 none))))))]) T8.heap := hP1
  have hfr := fr_of hE [0, 23, 24] rfl hF
  obtain ⟨hP2, -⟩ := va_join (wr := (schW cI cD (ad 1) (ad 2) (ad 3) (ad 4) (ad 5) (ad 6) n d t al day nd mk si kn mb) ++ (schW cI cD (ad 7) (ad 8) (ad 9) (ad 10) (ad 11) (ad 12) nM dM tM alM dayM ndM mkM siM knM mbM) ++ (schW cI cD (ad 13) (ad 14) (ad 15) (ad 16) (ad 17) (ad 18) nZ dZ tZ alZ dayZ ndZ mkP siP knZ mbP) ++ (forW cI (ad 19) (ad 20) (ad 21) (ad 22) sa lk ef le)) (w1 := [((ad 0), .inr (11, [.ref (ad 1), .ref (ad 7), .ref (ad 13), .int (bI hi), .ref (ad 19), .ref (ad 23), .ref (ad 24)]))] ++ [((ad 23), .inl (cD, 8, .inr (.inr (.inr (.inr (va_up dm v1 none))))))] ++ [((ad 24), .inl (cR, 8, .inr (.inr (.inr (.inr (va_up rm v1 none))))))]) hP hD [0, 23, 24] [1, 2, 3, 4, 5, 6, 7, 8, 9, 10, 11, 12, 13, 14, 15, 16, 17, 18, 19, 20, 21, 22] rfl rfl (by decide) (by decide) hF.2 (fun _ _ => trivial) hP1 hD1
  have hP3 := hP2.sub (ws' := XW cI cD cR ad hi n d t day al nd mk si kn mb nM dM tM dayM alM ndM mkM siM knM mbM nZ dZ tZ dayZ alZ ndZ mkP siP knZ mbP sa lk ef le (va_up dm v1 none) (va_up rm v1 none)) [22, 0, 1, 2, 3, 4, 5, 6, 7, 8, 9, 10, 11, 12, 13, 14, 15, 16, 17, 18, 19, 20, 21, 23, 24] rfl
  clear hP1 hD1 hP2
  exact ⟨⟨r, (), ho, hr.trans (rfl), ⟨⟨hWS, hWZ, (by omega), (by omega), gzz, gso, (up_le2 gke2 (by decide)), (up_kk gkk (fun z9 => absurd z9 (by decide)))⟩, mk, si, mb, nM, dM, tM, dayM, alM, ndM, mkM, siM, knM, mbM, mkP, siP, mbP, sa, lk, ef, le, va_up dm v1 none, va_up rm v1 none, DL, kd, fg, RL, rc, rs, rz, rf, hP3, (hDP.go hO (fun q hq hno => hfr q hq (fun j9 _ hj9 => hno j9 (by omega)))), (hRP.go hO (fun q hq hno => hfr q hq (fun j9 _ hj9 => hno j9 (by omega)))), hO, hRS, hRZ, (sh_0 hSH), hef, fun j9 hj9 => Nat.lt_of_lt_of_le (hlt j9 hj9) hF.1⟩, hY _ _ hYs hF.1 (fun q hq hx => hfr q hq (fun j9 h8 h9 z9 => by obtain ⟨i9, g1, g2, g3⟩ := hx; have := hA.1 i9 j9 g2 (by omega) (g3.symm.trans z9); omega))⟩, hF.1, fun q hq hno => hfr q hq (fun j9 _ hj9 z9 => hno (by rw [z9]; exact hA.2 j9 (by omega)))⟩
set_option maxHeartbeats 4000000 in
set_option maxRecDepth 100000 in
theorem u_X11_keep_1 (l : Launch) (dC : Nat → ClassId) (dI : Nat → Nat → Nat) (cI cD cR : ClassId) (ad : Nat → Nat) (s0 B : Nat) (hA : AdD ad s0) (hB : B ≤ 60000) (hi : Bool) (n d t day al : Nat) (nd : Nat → Nat) (bb oo : Nat → Int32) (K F kn : Nat → Nat) (nZ dZ tZ dayZ alZ : Nat) (ndZ : Nat → Nat) (bbZ ooZ : Nat → Int32) (KZ FZ knZ : Nat → Nat) (ke so zz : Nat → Nat) (el qk qf : Nat → Int32) (Y : Heap → Prop) (hY : YK ad Y) (v1 : Nat) (v3 : Nat) (v4 : Nat) (hy9 : v1 < 8) (hk9 : v3 < 8) (hf9 : v4 < 10) : Met l yX11_keep wsX11_keep ({ frames := 9, cells := 1, slots := 2, locals := 340 }) (pcR dC dI cI cD cR [.ref (ad 0), .int (nI v1), .int (nI 1), .int (nI v3), .int (nI v4)] (fun H => XS dC dI cI cD cR ad s0 B hi n d t day al nd bb oo K F kn nZ dZ tZ dayZ alZ ndZ bbZ ooZ KZ FZ knZ ke so zz el qk qf H ∧ Y H)) (LQ s0 (nI 0) (fun H => XS dC dI cI cD cR ad s0 (B + 100) hi n d t day al nd bb oo K F kn nZ dZ tZ dayZ alZ ndZ bbZ ooZ KZ FZ knZ (va_up ke v1 1) so zz el (upd qk v1 (nI v3)) (upd qf v1 (nI v4)) H ∧ Y H)) 1 2 (fun q => s0 ≤ q) := by
  refine met_cs (fun a s hs => ?_)
  obtain ⟨rfl, ⟨hX9, hYs⟩, hCX⟩ := hs
  have hX8 := hX9
  obtain ⟨hC, mk, si, mb, nM, dM, tM, dayM, alM, ndM, mkM, siM, knM, mbM, mkP, siP, mbP, sa, lk, ef, le, dm, rm, DL, kd, fg, RL, rc, rs, rz, rf, hP, hDP, hRP, hO, hRS, hRZ, hSH, hef, hlt⟩ := hX8
  have hC9 := hC
  obtain ⟨hWS, hWZ, hB1, hB2, gzz, gso, gke2, gkk⟩ := hC9
  have hn := hWS.1
  have hd := hWS.2.1
  have ht := ws_t9 hWS
  have hal : al < 64 := Nat.lt_of_lt_of_le hWS.2.2.2.1 (Nat.pow_le_pow_right (by decide) hd)
  have hday : day < 2 ^ 30 := by omega
  have gnd := hWS.2.2.2.2.1
  have gK := hWS.2.2.2.2.2.2.1
  have gF := hWS.2.2.2.2.2.2.2.1
  have gkn := hWS.2.2.2.2.2.2.2.2.1
  have hkk : ∀ a9 ∈ DL, kd a9 < 8 ∧ fg a9 < 10 := fun a9 ha9 => (hDP a9 ha9).2
  have hE : (XW cI cD cR ad hi n d t day al nd mk si kn mb nM dM tM dayM alM ndM mkM siM knM mbM nZ dZ tZ dayZ alZ ndZ mkP siP knZ mbP sa lk ef le dm rm).map Prod.fst = adL ad 0 25 := rfl
  have hPc := hP.sub (ws' := [((ad 0), .inr (11, [.ref (ad 1), .ref (ad 7), .ref (ad 13), .int (bI hi), .ref (ad 19), .ref (ad 23), .ref (ad 24)]))] ++ [((ad 23), .inl (cD, 8, .inr (.inr (.inr (.inr dm)))))] ++ [((ad 24), .inl (cR, 8, .inr (.inr (.inr (.inr rm)))))]) [0, 23, 24] rfl
  have hD := ws_D hA hE (by omega)
  have hz := s0_le hA hP hE (by omega) (by omega)
  have hDc := hD.sub (ws' := [((ad 0), .inr (11, [.ref (ad 1), .ref (ad 7), .ref (ad 13), .int (bI hi), .ref (ad 19), .ref (ad 23), .ref (ad 24)]))] ++ [((ad 23), .inl (cD, 8, .inr (.inr (.inr (.inr dm)))))] ++ [((ad 24), .inl (cR, 8, .inr (.inr (.inr (.inr rm)))))]) [0, 23, 24] (by decide) rfl
  refine ⟨_, _, _, _, _, _, c_X11_keep_1 l dC dI cI cD cR (ad 0) (ad 1) (ad 7) (ad 13) hi (ad 19) (ad 23) (ad 24) dm rm v1 v3 v4 s.heap.size hy9 hk9 hf9, ⟨by decide, by decide, by first | decide | (dsimp only; omega), by first | decide | (dsimp only; omega)⟩, ⟨by first | decide | (dsimp only; omega) | omega, by first | decide | (dsimp only; omega) | omega⟩, ⟨rfl, ⟨rfl, hPc, hDc⟩, hCX⟩, ?_, free_of hA (by omega) hE [0, 23, 24] rfl hz⟩
  rintro o T8 ⟨⟨r, qq9, ho, hr, hP1, hD1⟩, hF⟩
  have hP1 : va_P (dC, dI) vwCl ([((ad 0), .inr (11, [.ref (ad 1), .ref (ad 7), .ref (ad 13), .int (bI hi), .ref (ad 19), .ref (ad 23), .ref (ad 24)]))] ++ [((ad 23), .inl (cD, 8, .inr (.inr (.inr (.inr (va_up dm v1 (some qq9)))))))] ++ [((ad 24), .inl (cR, 8, .inr (.inr (.inr (.inr (va_up rm v1 none))))))] ++ [(qq9, dnE v3 v4)]) T8.heap := hP1
  have hfr := fr_of hE [0, 23, 24] rfl hF
  obtain ⟨hP2, -⟩ := va_join (wr := (schW cI cD (ad 1) (ad 2) (ad 3) (ad 4) (ad 5) (ad 6) n d t al day nd mk si kn mb) ++ (schW cI cD (ad 7) (ad 8) (ad 9) (ad 10) (ad 11) (ad 12) nM dM tM alM dayM ndM mkM siM knM mbM) ++ (schW cI cD (ad 13) (ad 14) (ad 15) (ad 16) (ad 17) (ad 18) nZ dZ tZ alZ dayZ ndZ mkP siP knZ mbP) ++ (forW cI (ad 19) (ad 20) (ad 21) (ad 22) sa lk ef le)) (w1 := [((ad 0), .inr (11, [.ref (ad 1), .ref (ad 7), .ref (ad 13), .int (bI hi), .ref (ad 19), .ref (ad 23), .ref (ad 24)]))] ++ [((ad 23), .inl (cD, 8, .inr (.inr (.inr (.inr (va_up dm v1 (some qq9)))))))] ++ [((ad 24), .inl (cR, 8, .inr (.inr (.inr (.inr (va_up rm v1 none))))))] ++ [(qq9, dnE v3 v4)]) hP hD [0, 23, 24] [1, 2, 3, 4, 5, 6, 7, 8, 9, 10, 11, 12, 13, 14, 15, 16, 17, 18, 19, 20, 21, 22] rfl rfl (by decide) (by decide) hF.2 (fun _ _ => trivial) hP1 hD1
  have hP3 := hP2.sub (ws' := XW cI cD cR ad hi n d t day al nd mk si kn mb nM dM tM dayM alM ndM mkM siM knM mbM nZ dZ tZ dayZ alZ ndZ mkP siP knZ mbP sa lk ef le (va_up dm v1 (some qq9)) (va_up rm v1 none)) [22, 0, 1, 2, 3, 4, 5, 6, 7, 8, 9, 10, 11, 12, 13, 14, 15, 16, 17, 18, 19, 20, 21, 23, 24] rfl
  have hq_qq9 : s.heap.size ≤ qq9 := by
    rcases hD1.2 3 _ rfl with ⟨k9, e9, hk9⟩ | h9
    · exfalso
      have hk8 : k9 < 3 := (List.getElem?_eq_some_iff.mp hk9).1
      rcases (show k9 = 0 ∨ k9 = 1 ∨ k9 = 2 by omega) with rfl | rfl | rfl
      · have h8 := Option.some.inj hk9; have h6 := congrArg Prod.fst h8; have h7 := hD1.1 0 3 _ _ rfl rfl h6; omega
      · have h8 := Option.some.inj hk9; have h6 := congrArg Prod.fst h8; have h7 := hD1.1 1 3 _ _ rfl rfl h6; omega
      · have h8 := Option.some.inj hk9; have h6 := congrArg Prod.fst h8; have h7 := hD1.1 2 3 _ _ rfl rfl h6; omega
    · exact h9
  have hqP : va_P (dC, dI) vwCl [(qq9, dnE v3 v4)] T8.heap := hP1.sub (ws' := [(qq9, dnE v3 v4)]) [3] rfl
  have hqn : qq9 ∉ DL := fun z9 => by have := hDP.lt z9; omega
  have hSH1 := sh_dl hSH (dl_cons (kd := kd) (fg := fg) (k := v3) (f := v4) hqn)
  clear hP1 hD1 hP2
  exact ⟨⟨r, (), ho, hr.trans (rfl), ⟨⟨hWS, hWZ, (by omega), (by omega), gzz, gso, (up_le2 gke2 (by decide)), (up_kk gkk (fun _ => ⟨by rw [okI_nI (by omega) (by decide)]; exact decide_eq_true hk9, by rw [okI_nI (by omega) (by decide)]; exact decide_eq_true hf9⟩))⟩, mk, si, mb, nM, dM, tM, dayM, alM, ndM, mkM, siM, knM, mbM, mkP, siP, mbP, sa, lk, ef, le, va_up dm v1 (some qq9), va_up rm v1 none, (qq9 :: DL), (va_up kd qq9 v3), (va_up fg qq9 v4), RL, rc, rs, rz, rf, hP3, (DP.more (hDP.go hO (fun q hq hno => hfr q hq (fun j9 _ hj9 => hno j9 (by omega)))) hqn hqP hk9 hf9), (hRP.go hO (fun q hq hno => hfr q hq (fun j9 _ hj9 => hno j9 (by omega)))), (po_den hO (fun j9 hj9 => by have := hlt j9 hj9; omega) (fun r9 hr9 => by have h8 := hRP.lt1 hr9; have h7 := hRP.lt2 hr9; omega)), (rs_dl hRS (dl_cons hqn)), (rs_dl hRZ (dl_cons hqn)), (sh_1 hSH1 List.mem_cons_self (by rw [va_up_self]) (by rw [va_up_self])), hef, fun j9 hj9 => Nat.lt_of_lt_of_le (hlt j9 hj9) hF.1⟩, hY _ _ hYs hF.1 (fun q hq hx => hfr q hq (fun j9 h8 h9 z9 => by obtain ⟨i9, g1, g2, g3⟩ := hx; have := hA.1 i9 j9 g2 (by omega) (g3.symm.trans z9); omega))⟩, hF.1, fun q hq hno => hfr q hq (fun j9 _ hj9 z9 => hno (by rw [z9]; exact hA.2 j9 (by omega)))⟩
set_option maxHeartbeats 4000000 in
set_option maxRecDepth 100000 in
theorem u_X11_keep (l : Launch) (dC : Nat → ClassId) (dI : Nat → Nat → Nat) (cI cD cR : ClassId) (ad : Nat → Nat) (s0 B : Nat) (hA : AdD ad s0) (hB : B ≤ 60000) (hi : Bool) (n d t day al : Nat) (nd : Nat → Nat) (bb oo : Nat → Int32) (K F kn : Nat → Nat) (nZ dZ tZ dayZ alZ : Nat) (ndZ : Nat → Nat) (bbZ ooZ : Nat → Int32) (KZ FZ knZ : Nat → Nat) (ke so zz : Nat → Nat) (el qk qf : Nat → Int32) (Y : Heap → Prop) (hY : YK ad Y) (v1 v2 v3 v4 : Int32) : Met l yX11_keep wsX11_keep ({ frames := 9, cells := 1, slots := 2, locals := 340 }) (pcR dC dI cI cD cR [.ref (ad 0), .int v1, .int v2, .int v3, .int v4] (fun H => XS dC dI cI cD cR ad s0 B hi n d t day al nd bb oo K F kn nZ dZ tZ dayZ alZ ndZ bbZ ooZ KZ FZ knZ ke so zz el qk qf H ∧ Y H)) (LQ s0 ((bif okI v1 8 && (okI v2 2 && (decide (v2 = 0) || (okI v3 8 && okI v4 10))) then 0 else (-1))) (fun H => XS dC dI cI cD cR ad s0 (B + 100) hi n d t day al nd bb oo K F kn nZ dZ tZ dayZ alZ ndZ bbZ ooZ KZ FZ knZ (bif okI v1 8 && (okI v2 2 && (decide (v2 = 0) || (okI v3 8 && okI v4 10))) then va_up ke (nT v1) (nT v2) else ke) so zz el (bif okI v1 8 && (okI v2 2 && (decide (v2 = 0) || (okI v3 8 && okI v4 10))) then upd qk (nT v1) v3 else qk) (bif okI v1 8 && (okI v2 2 && (decide (v2 = 0) || (okI v3 8 && okI v4 10))) then upd qf (nT v1) v4 else qf) H ∧ Y H)) 1 2 (fun q => s0 ≤ q) := by
  rcases okI_or v1 (n := 8) (by decide) with q1 | ⟨y, hy, rfl⟩
  · rw [q1]; exact u_X11_keep_f l dC dI cI cD cR ad s0 B hA hB hi n d t day al nd bb oo K F kn nZ dZ tZ dayZ alZ ndZ bbZ ooZ KZ FZ knZ ke so zz el qk qf Y hY v1 v2 v3 v4 (fun y e hy => by subst e; rw [okI_nI (by omega) (by decide)] at q1; exact absurd hy (of_decide_eq_false q1))
  · rw [okI_nI (by omega) (by decide), decide_eq_true hy, Bool.true_and, nT_nI (by omega)]
    rcases okI_or v2 (n := 2) (by decide) with q2 | ⟨z, hz, rfl⟩
    · rw [q2]; exact u_X11_keep_f l dC dI cI cD cR ad s0 B hA hB hi n d t day al nd bb oo K F kn nZ dZ tZ dayZ alZ ndZ bbZ ooZ KZ FZ knZ ke so zz el qk qf Y hY (nI y) v2 v3 v4 (fun y e hy => by rw [okI_2, Bool.or_eq_false_iff] at q2; simp [keepB, q2.1, q2.2])
    · rcases (show z = 0 ∨ z = 1 by omega) with rfl | rfl
      · exact u_X11_keep_0 l dC dI cI cD cR ad s0 B hA hB hi n d t day al nd bb oo K F kn nZ dZ tZ dayZ alZ ndZ bbZ ooZ KZ FZ knZ ke so zz el qk qf Y hY y v3 v4 hy
      · rcases okI_or v3 (n := 8) (by decide) with q3 | ⟨k, hk, rfl⟩
        · rw [q3]; exact u_X11_keep_f l dC dI cI cD cR ad s0 B hA hB hi n d t day al nd bb oo K F kn nZ dZ tZ dayZ alZ ndZ bbZ ooZ KZ FZ knZ ke so zz el qk qf Y hY (nI y) (nI 1) v3 v4 (fun y e hy => by simp [keepB, q3]; decide)
        · rcases okI_or v4 (n := 10) (by decide) with q4 | ⟨f, hf, rfl⟩
          · rw [q4, Bool.and_false]; exact u_X11_keep_f l dC dI cI cD cR ad s0 B hA hB hi n d t day al nd bb oo K F kn nZ dZ tZ dayZ alZ ndZ bbZ ooZ KZ FZ knZ ke so zz el qk qf Y hY (nI y) (nI 1) (nI k) v4 (fun y e hy => by simp [keepB, q4]; decide)
          · have e8 : okI (nI k) 8 = true := by rw [okI_nI (by omega) (by decide)]; exact decide_eq_true hk
            have e10 : okI (nI f) 10 = true := by rw [okI_nI (by omega) (by decide)]; exact decide_eq_true hf
            rw [e8, e10]; exact u_X11_keep_1 l dC dI cI cD cR ad s0 B hA hB hi n d t day al nd bb oo K F kn nZ dZ tZ dayZ alZ ndZ bbZ ooZ KZ FZ knZ ke so zz el qk qf Y hY y k f hy hk hf
set_option maxHeartbeats 4000000 in
set_option maxRecDepth 100000 in
theorem u_X12_keep (l : Launch) (dC : Nat → ClassId) (dI : Nat → Nat → Nat) (cI cD cR : ClassId) (cL : ClassId) (ad : Nat → Nat) (s0 B : Nat) (hA : AdD ad s0) (hB : B ≤ 60000) (hi : Bool) (n d t day al : Nat) (nd : Nat → Nat) (bb oo : Nat → Int32) (K F kn : Nat → Nat) (nZ dZ tZ dayZ alZ : Nat) (ndZ : Nat → Nat) (bbZ ooZ : Nat → Int32) (KZ FZ knZ : Nat → Nat) (ke so zz : Nat → Nat) (el qk qf : Nat → Int32) (X : Heap → Prop) (hX : XK ad X) (hC : CiI B n d t day al nd bb oo K F kn nZ dZ tZ dayZ alZ ndZ bbZ ooZ KZ FZ knZ ke so zz qk qf) (v1 : Int32) (v2 : Int32) (v3 : Int32) (v4 : Int32) : Met l yX12_keep wsX12_keep ({ frames := 9, cells := 0, slots := 0, locals := 340 }) (pcR dC dI cI cD cR [.ref (ad 25), .int v1, .int v2, .int v3, .int v4] (fun H => X H ∧ MT dC dI cI cL ad hi n d t day al nd bb oo K F kn nZ dZ tZ dayZ alZ ndZ bbZ ooZ KZ FZ knZ ke so zz el qk qf H)) (LQ s0 ((bif okI v1 8 && (okI v2 2 && (decide (v2 = 0) || (okI v3 8 && okI v4 10))) then 0 else (-1))) (fun H => X H ∧ MT dC dI cI cL ad hi n d t day al nd bb oo K F kn nZ dZ tZ dayZ alZ ndZ bbZ ooZ KZ FZ knZ (bif okI v1 8 && (okI v2 2 && (decide (v2 = 0) || (okI v3 8 && okI v4 10))) then va_up ke (nT v1) (nT v2) else ke) so zz el (bif okI v1 8 && (okI v2 2 && (decide (v2 = 0) || (okI v3 8 && okI v4 10))) then upd qk (nT v1) v3 else qk) (bif okI v1 8 && (okI v2 2 && (decide (v2 = 0) || (okI v3 8 && okI v4 10))) then upd qf (nT v1) v4 else qf) H)) 0 0 (fun q => s0 ≤ q) := by
  refine met_cs (fun a s hs => ?_)
  obtain ⟨rfl, ⟨hXs, hM9⟩, hCX⟩ := hs
  have hM8 := hM9
  obtain ⟨th, ov, po, ba, en, se, nR, dR, tR, dayR, alR, ndR, bbR, ooR, KR, FR, knR, nM, dM, tM, dayM, alM, ndM, bbM, ooM, KM, FM, knM, nu, fe, ea, pr, hP⟩ := hM8
  have hC9 := hC
  obtain ⟨hWS, hWZ, hB1, hB2, gzz, gso, gke2, gkk⟩ := hC9
  have hn := hWS.1
  have hd := hWS.2.1
  have ht := ws_t9 hWS
  have hal : al < 64 := Nat.lt_of_lt_of_le hWS.2.2.2.1 (Nat.pow_le_pow_right (by decide) hd)
  have hday : day < 2 ^ 30 := by omega
  have gnd := hWS.2.2.2.2.1
  have gK := hWS.2.2.2.2.2.2.1
  have gF := hWS.2.2.2.2.2.2.2.1
  have gkn := hWS.2.2.2.2.2.2.2.2.1
  have hE : (MW cI cL ad hi th po ba en se n d t day al nd bb oo K F kn nZ dZ tZ dayZ alZ ndZ bbZ ooZ KZ FZ knZ nR dR tR dayR alR ndR bbR ooR KR FR knR nM dM tM dayM alM ndM bbM ooM KM FM knM ke so zz el qk qf nu fe ea pr ov).map Prod.fst = adL ad 25 16 := MW_ad cI cL ad hi th po ba en se n d t day al nd bb oo K F kn nZ dZ tZ dayZ alZ ndZ bbZ ooZ KZ FZ knZ nR dR tR dayR alR ndR bbR ooR KR FR knR nM dM tM dayM alM ndM bbM ooM KM FM knM ke so zz el qk qf nu fe ea pr ov
  have hPc := hP.sub (ws' := [((ad 25), .inr (12, [.ref (ad 26), .ref (ad 27), .ref (ad 28), .ref (ad 29), .ref (ad 30), .ref (ad 31), .ref (ad 32), .ref (ad 33), .ref (ad 34), .ref (ad 35), .int (bI hi), .int th, .int (nI po), .int (nI ba), .int (nI en), .ref (ad 36), .ref (ad 37), .ref (ad 38), .ref (ad 39), .int se]))] ++ [((ad 30), .inl (cI, 8, .inl (nF ke)))] ++ [((ad 34), .inl (cI, 8, .inl qk))] ++ [((ad 35), .inl (cI, 8, .inl qf))]) [0, 5, 9, 10] rfl
  have hD := ws_D hA hE (by omega)
  have hz := s0_le hA hP hE (by omega) (by omega)
  have hDc := hD.sub (ws' := [((ad 25), .inr (12, [.ref (ad 26), .ref (ad 27), .ref (ad 28), .ref (ad 29), .ref (ad 30), .ref (ad 31), .ref (ad 32), .ref (ad 33), .ref (ad 34), .ref (ad 35), .int (bI hi), .int th, .int (nI po), .int (nI ba), .int (nI en), .ref (ad 36), .ref (ad 37), .ref (ad 38), .ref (ad 39), .int se]))] ++ [((ad 30), .inl (cI, 8, .inl (nF ke)))] ++ [((ad 34), .inl (cI, 8, .inl qk))] ++ [((ad 35), .inl (cI, 8, .inl qf))]) [0, 5, 9, 10] (by decide) rfl
  refine ⟨_, _, _, _, _, _, c_X12_keep l dC dI cI cD cR (ad 25) (ad 26) (ad 27) (ad 28) (ad 29) (ad 30) (ad 31) (ad 32) (ad 33) (ad 34) (ad 35) hi th po ba en (ad 36) (ad 37) (ad 38) (ad 39) se ke qk qf v1 v2 v3 v4 s.heap.size, ⟨by decide, by decide, by first | decide | (dsimp only; omega), by first | decide | (dsimp only; omega)⟩, ⟨by first | decide | (dsimp only; omega) | omega, by first | decide | (dsimp only; omega) | omega⟩, ⟨rfl, ⟨rfl, hPc, hDc⟩, hCX⟩, ?_, free_of hA (by omega) hE [0, 5, 9, 10] rfl hz⟩
  rintro o T8 ⟨⟨r, u, ho, hr, hP1, hD1⟩, hF⟩
  have hP1 : va_P (dC, dI) vwCl ([((ad 25), .inr (12, [.ref (ad 26), .ref (ad 27), .ref (ad 28), .ref (ad 29), .ref (ad 30), .ref (ad 31), .ref (ad 32), .ref (ad 33), .ref (ad 34), .ref (ad 35), .int (bI hi), .int th, .int (nI po), .int (nI ba), .int (nI en), .ref (ad 36), .ref (ad 37), .ref (ad 38), .ref (ad 39), .int se]))] ++ [((ad 30), .inl (cI, 8, .inl (nF (bif okI v1 8 && (okI v2 2 && (decide (v2 = 0) || (okI v3 8 && okI v4 10))) then va_up ke (nT v1) (nT v2) else ke))))] ++ [((ad 34), .inl (cI, 8, .inl (bif okI v1 8 && (okI v2 2 && (decide (v2 = 0) || (okI v3 8 && okI v4 10))) then upd qk (nT v1) v3 else qk)))] ++ [((ad 35), .inl (cI, 8, .inl (bif okI v1 8 && (okI v2 2 && (decide (v2 = 0) || (okI v3 8 && okI v4 10))) then upd qf (nT v1) v4 else qf)))]) T8.heap := hP1
  have hfr := fr_of hE [0, 5, 9, 10] rfl hF
  obtain ⟨hP2, -⟩ := va_join (wr := [((ad 26), .inl (cI, 53, .inl (sF n d t day al nd bb oo K F kn))), ((ad 27), .inl (cI, 53, .inl (sF nZ dZ tZ dayZ alZ ndZ bbZ ooZ KZ FZ knZ))), ((ad 28), .inl (cI, 53, .inl (sF nR dR tR dayR alR ndR bbR ooR KR FR knR))), ((ad 29), .inl (cI, 53, .inl (sF nM dM tM dayM alM ndM bbM ooM KM FM knM))), ((ad 31), .inl (cI, 8, .inl (nF so))), ((ad 32), .inl (cI, 8, .inl (nF zz))), ((ad 33), .inl (cI, 800, .inl el)), ((ad 36), .inl (cI, 2, .inl nu)), ((ad 37), .inl (cI, 512, .inl (oF fe))), ((ad 38), .inl (cI, 512, .inl (oF ea))), ((ad 39), .inl (cI, 512, .inl (oF pr))), (ad 40, .inl (cL, 1, .inr (.inl ov)))]) (w1 := [((ad 25), .inr (12, [.ref (ad 26), .ref (ad 27), .ref (ad 28), .ref (ad 29), .ref (ad 30), .ref (ad 31), .ref (ad 32), .ref (ad 33), .ref (ad 34), .ref (ad 35), .int (bI hi), .int th, .int (nI po), .int (nI ba), .int (nI en), .ref (ad 36), .ref (ad 37), .ref (ad 38), .ref (ad 39), .int se]))] ++ [((ad 30), .inl (cI, 8, .inl (nF (bif okI v1 8 && (okI v2 2 && (decide (v2 = 0) || (okI v3 8 && okI v4 10))) then va_up ke (nT v1) (nT v2) else ke))))] ++ [((ad 34), .inl (cI, 8, .inl (bif okI v1 8 && (okI v2 2 && (decide (v2 = 0) || (okI v3 8 && okI v4 10))) then upd qk (nT v1) v3 else qk)))] ++ [((ad 35), .inl (cI, 8, .inl (bif okI v1 8 && (okI v2 2 && (decide (v2 = 0) || (okI v3 8 && okI v4 10))) then upd qf (nT v1) v4 else qf)))]) hP hD [0, 5, 9, 10] [1, 2, 3, 4, 6, 7, 8, 11, 12, 13, 14, 15] rfl rfl (by decide) (by decide) hF.2 (fun _ _ => trivial) hP1 hD1
  have hP3 := hP2.sub (ws' := MW cI cL ad hi th po ba en se n d t day al nd bb oo K F kn nZ dZ tZ dayZ alZ ndZ bbZ ooZ KZ FZ knZ nR dR tR dayR alR ndR bbR ooR KR FR knR nM dM tM dayM alM ndM bbM ooM KM FM knM (bif okI v1 8 && (okI v2 2 && (decide (v2 = 0) || (okI v3 8 && okI v4 10))) then va_up ke (nT v1) (nT v2) else ke) so zz el (bif okI v1 8 && (okI v2 2 && (decide (v2 = 0) || (okI v3 8 && okI v4 10))) then upd qk (nT v1) v3 else qk) (bif okI v1 8 && (okI v2 2 && (decide (v2 = 0) || (okI v3 8 && okI v4 10))) then upd qf (nT v1) v4 else qf) nu fe ea pr ov) [12, 0, 1, 2, 3, 13, 4, 5, 6, 14, 15, 7, 8, 9, 10, 11] rfl
  clear hP1 hD1 hP2
  exact ⟨⟨r, (), ho, hr, hX _ _ hXs hF.1 (fun q hq hx => hfr q hq (fun j9 h8 h9 => hx j9 h8 (by omega))), th, ov, po, ba, en, se, nR, dR, tR, dayR, alR, ndR, bbR, ooR, KR, FR, knR, nM, dM, tM, dayM, alM, ndM, bbM, ooM, KM, FM, knM, nu, fe, ea, pr, hP3⟩, hF.1, fun q hq hno => hfr q hq (fun j9 _ hj9 z9 => hno (by rw [z9]; exact hA.2 j9 (by omega)))⟩
set_option maxHeartbeats 4000000 in
set_option maxRecDepth 100000 in
theorem u_X11_row_f (l : Launch) (dC : Nat → ClassId) (dI : Nat → Nat → Nat) (cI cD cR : ClassId) (ad : Nat → Nat) (s0 B : Nat) (hA : AdD ad s0) (hB : B ≤ 60000) (hi : Bool) (n d t day al : Nat) (nd : Nat → Nat) (bb oo : Nat → Int32) (K F kn : Nat → Nat) (nZ dZ tZ dayZ alZ : Nat) (ndZ : Nat → Nat) (bbZ ooZ : Nat → Int32) (KZ FZ knZ : Nat → Nat) (ke so zz : Nat → Nat) (el qk qf : Nat → Int32) (Y : Heap → Prop) (hY : YK ad Y) (v1 : Int32) (v2 : Int32) (v3 : Int32) (hno : ∀ y, v1 = nI y → y < 8 → rowB v2 v3 = true → v3 < 0) : Met l yX11_row wsX11_row ({ frames := 9, cells := 2, slots := 102, locals := 340 }) (pcR dC dI cI cD cR [.ref (ad 0), .int v1, .int v2, .int v3] (fun H => XS dC dI cI cD cR ad s0 B hi n d t day al nd bb oo K F kn nZ dZ tZ dayZ alZ ndZ bbZ ooZ KZ FZ knZ ke so zz el qk qf H ∧ Y H)) (LQ s0 ((bif okI v1 8 && rowB v2 v3 then -14 else -1)) (fun H => XS dC dI cI cD cR ad s0 (B + 100) hi n d t day al nd bb oo K F kn nZ dZ tZ dayZ alZ ndZ bbZ ooZ KZ FZ knZ ke so zz el qk qf H ∧ Y H)) 2 102 (fun q => s0 ≤ q) := by
  refine met_cs (fun a s hs => ?_)
  obtain ⟨rfl, ⟨hX9, hYs⟩, hCX⟩ := hs
  have hX8 := hX9
  obtain ⟨hC, mk, si, mb, nM, dM, tM, dayM, alM, ndM, mkM, siM, knM, mbM, mkP, siP, mbP, sa, lk, ef, le, dm, rm, DL, kd, fg, RL, rc, rs, rz, rf, hP, hDP, hRP, hO, hRS, hRZ, hSH, hef, hlt⟩ := hX8
  have hC9 := hC
  obtain ⟨hWS, hWZ, hB1, hB2, gzz, gso, gke2, gkk⟩ := hC9
  have hn := hWS.1
  have hd := hWS.2.1
  have ht := ws_t9 hWS
  have hal : al < 64 := Nat.lt_of_lt_of_le hWS.2.2.2.1 (Nat.pow_le_pow_right (by decide) hd)
  have hday : day < 2 ^ 30 := by omega
  have gnd := hWS.2.2.2.2.1
  have gK := hWS.2.2.2.2.2.2.1
  have gF := hWS.2.2.2.2.2.2.2.1
  have gkn := hWS.2.2.2.2.2.2.2.2.1
  have hkk : ∀ a9 ∈ DL, kd a9 < 8 ∧ fg a9 < 10 := fun a9 ha9 => (hDP a9 ha9).2
  have hE : (XW cI cD cR ad hi n d t day al nd mk si kn mb nM dM tM dayM alM ndM mkM siM knM mbM nZ dZ tZ dayZ alZ ndZ mkP siP knZ mbP sa lk ef le dm rm).map Prod.fst = adL ad 0 25 := rfl
  have hPc := hP.sub (ws' := [((ad 0), .inr (11, [.ref (ad 1), .ref (ad 7), .ref (ad 13), .int (bI hi), .ref (ad 19), .ref (ad 23), .ref (ad 24)]))] ++ [((ad 23), .inl (cD, 8, .inr (.inr (.inr (.inr dm)))))] ++ [((ad 24), .inl (cR, 8, .inr (.inr (.inr (.inr rm)))))]) [0, 23, 24] rfl
  refine ⟨_, _, _, _, _, _, c_X11_row_f l dC dI cI cD cR (ad 0) (ad 1) (ad 7) (ad 13) hi (ad 19) (ad 23) (ad 24) dm rm v1 v2 v3 hno, ⟨by decide, by decide, by first | decide | exact Nat.zero_le _, by first | decide | exact Nat.zero_le _⟩, ⟨Nat.zero_le _, Nat.zero_le _⟩, ⟨rfl, hPc, hCX⟩, ?_, fun q hq => hq.elim⟩
  rintro o t ⟨r, ho, hr, hh⟩
  exact ⟨⟨r, (), ho, hr.trans (rfl), by first | (rw [hh]; exact ⟨hX9.mono (by omega), hYs⟩) | (simp only [hh]; exact ⟨hX9.mono (by omega), hYs⟩)⟩, by rw [hh]; exact Nat.le_refl _, fun q _ _ => by rw [hh]⟩
set_option maxHeartbeats 4000000 in
set_option maxRecDepth 100000 in
theorem u_X11_row_t (l : Launch) (dC : Nat → ClassId) (dI : Nat → Nat → Nat) (cI cD cR : ClassId) (ad : Nat → Nat) (s0 B : Nat) (hA : AdD ad s0) (hB : B ≤ 60000) (hi : Bool) (n d t day al : Nat) (nd : Nat → Nat) (bb oo : Nat → Int32) (K F kn : Nat → Nat) (nZ dZ tZ dayZ alZ : Nat) (ndZ : Nat → Nat) (bbZ ooZ : Nat → Int32) (KZ FZ knZ : Nat → Nat) (ke so zz : Nat → Nat) (el qk qf : Nat → Int32) (Y : Heap → Prop) (hY : YK ad Y) (v1 : Nat) (v2 : Nat) (v3 : Nat) (hy9 : v1 < 8) (ho9 : v2 < 3) (hz9 : v3 ≤ 100) : Met l yX11_row wsX11_row ({ frames := 9, cells := 2, slots := 102, locals := 340 }) (pcR dC dI cI cD cR [.ref (ad 0), .int (nI v1), .int (nI v2), .int (nI v3)] (fun H => XS dC dI cI cD cR ad s0 B hi n d t day al nd bb oo K F kn nZ dZ tZ dayZ alZ ndZ bbZ ooZ KZ FZ knZ ke so zz el qk qf H ∧ Y H)) (LQ s0 (nI 0) (fun H => XS dC dI cI cD cR ad s0 (B + 100) hi n d t day al nd bb oo K F kn nZ dZ tZ dayZ alZ ndZ bbZ ooZ KZ FZ knZ (va_up ke v1 2) (va_up so v1 v2) (va_up zz v1 v3) (czE el v1 100) qk qf H ∧ Y H)) 2 102 (fun q => s0 ≤ q) := by
  refine met_cs (fun a s hs => ?_)
  obtain ⟨rfl, ⟨hX9, hYs⟩, hCX⟩ := hs
  have hX8 := hX9
  obtain ⟨hC, mk, si, mb, nM, dM, tM, dayM, alM, ndM, mkM, siM, knM, mbM, mkP, siP, mbP, sa, lk, ef, le, dm, rm, DL, kd, fg, RL, rc, rs, rz, rf, hP, hDP, hRP, hO, hRS, hRZ, hSH, hef, hlt⟩ := hX8
  have hC9 := hC
  obtain ⟨hWS, hWZ, hB1, hB2, gzz, gso, gke2, gkk⟩ := hC9
  have hn := hWS.1
  have hd := hWS.2.1
  have ht := ws_t9 hWS
  have hal : al < 64 := Nat.lt_of_lt_of_le hWS.2.2.2.1 (Nat.pow_le_pow_right (by decide) hd)
  have hday : day < 2 ^ 30 := by omega
  have gnd := hWS.2.2.2.2.1
  have gK := hWS.2.2.2.2.2.2.1
  have gF := hWS.2.2.2.2.2.2.2.1
  have gkn := hWS.2.2.2.2.2.2.2.2.1
  have hkk : ∀ a9 ∈ DL, kd a9 < 8 ∧ fg a9 < 10 := fun a9 ha9 => (hDP a9 ha9).2
  have hE : (XW cI cD cR ad hi n d t day al nd mk si kn mb nM dM tM dayM alM ndM mkM siM knM mbM nZ dZ tZ dayZ alZ ndZ mkP siP knZ mbP sa lk ef le dm rm).map Prod.fst = adL ad 0 25 := rfl
  have hPc := hP.sub (ws' := [((ad 0), .inr (11, [.ref (ad 1), .ref (ad 7), .ref (ad 13), .int (bI hi), .ref (ad 19), .ref (ad 23), .ref (ad 24)]))] ++ [((ad 23), .inl (cD, 8, .inr (.inr (.inr (.inr dm)))))] ++ [((ad 24), .inl (cR, 8, .inr (.inr (.inr (.inr rm)))))]) [0, 23, 24] rfl
  have hD := ws_D hA hE (by omega)
  have hz := s0_le hA hP hE (by omega) (by omega)
  have hDc := hD.sub (ws' := [((ad 0), .inr (11, [.ref (ad 1), .ref (ad 7), .ref (ad 13), .int (bI hi), .ref (ad 19), .ref (ad 23), .ref (ad 24)]))] ++ [((ad 23), .inl (cD, 8, .inr (.inr (.inr (.inr dm)))))] ++ [((ad 24), .inl (cR, 8, .inr (.inr (.inr (.inr rm)))))]) [0, 23, 24] (by decide) rfl
  refine ⟨_, _, _, _, _, _, c_X11_row_t l dC dI cI cD cR (ad 0) (ad 1) (ad 7) (ad 13) hi (ad 19) (ad 23) (ad 24) dm rm v1 v2 v3 s.heap.size hy9 ho9 hz9, ⟨by first | decide | exact Nat.le_of_ble_eq_true rfl, by first | decide | exact Nat.le_of_ble_eq_true rfl, by first | decide | (dsimp only; omega), by first | decide | (dsimp only; omega)⟩, ⟨by first | decide | (dsimp only; omega) | omega, by first | decide | (dsimp only; omega) | omega⟩, ⟨rfl, ⟨rfl, hPc, hDc⟩, hCX⟩, ?_, free_of hA (by omega) hE [0, 23, 24] rfl hz⟩
  rintro o T8 ⟨⟨r, ⟨qq9, qr9⟩, ho, hr, hP1, hD1⟩, hF⟩
  have hP1 : va_P (dC, dI) vwCl ([((ad 0), .inr (11, [.ref (ad 1), .ref (ad 7), .ref (ad 13), .int (bI hi), .ref (ad 19), .ref (ad 23), .ref (ad 24)]))] ++ [((ad 23), .inl (cD, 8, .inr (.inr (.inr (.inr (va_up dm v1 none))))))] ++ [((ad 24), .inl (cR, 8, .inr (.inr (.inr (.inr (va_up rm v1 (some qq9)))))))] ++ [(qq9, .inr (8, [.int (nI v2), .ref qr9])), (qr9, .inl (cI, v3, .inl (fun _ => 0)))]) T8.heap := hP1
  have hfr := fr_of hE [0, 23, 24] rfl hF
  obtain ⟨hP2, -⟩ := va_join (wr := (schW cI cD (ad 1) (ad 2) (ad 3) (ad 4) (ad 5) (ad 6) n d t al day nd mk si kn mb) ++ (schW cI cD (ad 7) (ad 8) (ad 9) (ad 10) (ad 11) (ad 12) nM dM tM alM dayM ndM mkM siM knM mbM) ++ (schW cI cD (ad 13) (ad 14) (ad 15) (ad 16) (ad 17) (ad 18) nZ dZ tZ alZ dayZ ndZ mkP siP knZ mbP) ++ (forW cI (ad 19) (ad 20) (ad 21) (ad 22) sa lk ef le)) (w1 := [((ad 0), .inr (11, [.ref (ad 1), .ref (ad 7), .ref (ad 13), .int (bI hi), .ref (ad 19), .ref (ad 23), .ref (ad 24)]))] ++ [((ad 23), .inl (cD, 8, .inr (.inr (.inr (.inr (va_up dm v1 none))))))] ++ [((ad 24), .inl (cR, 8, .inr (.inr (.inr (.inr (va_up rm v1 (some qq9)))))))] ++ [(qq9, .inr (8, [.int (nI v2), .ref qr9])), (qr9, .inl (cI, v3, .inl (fun _ => 0)))]) hP hD [0, 23, 24] [1, 2, 3, 4, 5, 6, 7, 8, 9, 10, 11, 12, 13, 14, 15, 16, 17, 18, 19, 20, 21, 22] rfl rfl (by decide) (by decide) hF.2 (fun _ _ => trivial) hP1 hD1
  have hP3 := hP2.sub (ws' := XW cI cD cR ad hi n d t day al nd mk si kn mb nM dM tM dayM alM ndM mkM siM knM mbM nZ dZ tZ dayZ alZ ndZ mkP siP knZ mbP sa lk ef le (va_up dm v1 none) (va_up rm v1 (some qq9))) [22, 0, 1, 2, 3, 4, 5, 6, 7, 8, 9, 10, 11, 12, 13, 14, 15, 16, 17, 18, 19, 20, 21, 23, 24] rfl
  have hq_qq9 : s.heap.size ≤ qq9 := by
    rcases hD1.2 3 _ rfl with ⟨k9, e9, hk9⟩ | h9
    · exfalso
      have hk8 : k9 < 3 := (List.getElem?_eq_some_iff.mp hk9).1
      rcases (show k9 = 0 ∨ k9 = 1 ∨ k9 = 2 by omega) with rfl | rfl | rfl
      · have h8 := Option.some.inj hk9; have h6 := congrArg Prod.fst h8; have h7 := hD1.1 0 3 _ _ rfl rfl h6; omega
      · have h8 := Option.some.inj hk9; have h6 := congrArg Prod.fst h8; have h7 := hD1.1 1 3 _ _ rfl rfl h6; omega
      · have h8 := Option.some.inj hk9; have h6 := congrArg Prod.fst h8; have h7 := hD1.1 2 3 _ _ rfl rfl h6; omega
    · exact h9
  have hq_qr9 : s.heap.size ≤ qr9 := by
    rcases hD1.2 4 _ rfl with ⟨k9, e9, hk9⟩ | h9
    · exfalso
      have hk8 : k9 < 3 := (List.getElem?_eq_some_iff.mp hk9).1
      rcases (show k9 = 0 ∨ k9 = 1 ∨ k9 = 2 by omega) with rfl | rfl | rfl
      · have h8 := Option.some.inj hk9; have h6 := congrArg Prod.fst h8; have h7 := hD1.1 0 4 _ _ rfl rfl h6; omega
      · have h8 := Option.some.inj hk9; have h6 := congrArg Prod.fst h8; have h7 := hD1.1 1 4 _ _ rfl rfl h6; omega
      · have h8 := Option.some.inj hk9; have h6 := congrArg Prod.fst h8; have h7 := hD1.1 2 4 _ _ rfl rfl h6; omega
    · exact h9
  have hne9 : qq9 ≠ qr9 := fun z9 => by have := hD1.1 3 4 _ _ rfl rfl z9; omega
  have hqP : va_P (dC, dI) vwCl [(qq9, .inr (8, [.int (nI v2), .ref qr9])), (qr9, .inl (cI, v3, .inl (fun _ => 0)))] T8.heap := hP1.sub (ws' := [(qq9, .inr (8, [.int (nI v2), .ref qr9])), (qr9, .inl (cI, v3, .inl (fun _ => 0)))]) [3, 4] rfl
  have hqn : qq9 ∉ RL := fun z9 => by have := hRP.lt1 z9; omega
  clear hP1 hD1 hP2
  exact ⟨⟨r, (), ho, hr.trans (rfl), ⟨⟨hWS, hWZ, (by omega), (by omega), (up_le gzz hz9), (up_lt gso ho9), (up_le2 gke2 (by decide)), (up_k2 gkk (by decide))⟩, mk, si, mb, nM, dM, tM, dayM, alM, ndM, mkM, siM, knM, mbM, mkP, siP, mbP, sa, lk, ef, le, va_up dm v1 none, va_up rm v1 (some qq9), DL, kd, fg, (qq9 :: RL), (va_up rc qq9 qr9), (va_up rs qq9 v2), (va_up rz qq9 v3), (va_up rf qq9 (fun _ => 0)), hP3, (hDP.go hO (fun q hq hno => hfr q hq (fun j9 _ hj9 => hno j9 (by omega)))), (rp_more (hRP.go hO (fun q hq hno => hfr q hq (fun j9 _ hj9 => hno j9 (by omega)))) hqn hqP ho9 hz9), (po_row hO hlt (fun r9 hr9 => ⟨hRP.lt1 hr9, hRP.lt2 hr9⟩) (fun a9 ha9 => hDP.lt ha9) hq_qq9 hq_qr9 hne9 hz), hRS, hRZ, (sh_2 hSH hqn hz9 (fun r9 hr9 => (hRP r9 hr9).2.2)), hef, fun j9 hj9 => Nat.lt_of_lt_of_le (hlt j9 hj9) hF.1⟩, hY _ _ hYs hF.1 (fun q hq hx => hfr q hq (fun j9 h8 h9 z9 => by obtain ⟨i9, g1, g2, g3⟩ := hx; have := hA.1 i9 j9 g2 (by omega) (g3.symm.trans z9); omega))⟩, hF.1, fun q hq hno => hfr q hq (fun j9 _ hj9 z9 => hno (by rw [z9]; exact hA.2 j9 (by omega)))⟩
set_option maxHeartbeats 4000000 in
set_option maxRecDepth 100000 in
theorem u_X11_row (l : Launch) (dC : Nat → ClassId) (dI : Nat → Nat → Nat) (cI cD cR : ClassId) (ad : Nat → Nat) (s0 B : Nat) (hA : AdD ad s0) (hB : B ≤ 60000) (hi : Bool) (n d t day al : Nat) (nd : Nat → Nat) (bb oo : Nat → Int32) (K F kn : Nat → Nat) (nZ dZ tZ dayZ alZ : Nat) (ndZ : Nat → Nat) (bbZ ooZ : Nat → Int32) (KZ FZ knZ : Nat → Nat) (ke so zz : Nat → Nat) (el qk qf : Nat → Int32) (Y : Heap → Prop) (hY : YK ad Y) (v1 v2 v3 : Int32) : Met l yX11_row wsX11_row ({ frames := 9, cells := 2, slots := 102, locals := 340 }) (pcR dC dI cI cD cR [.ref (ad 0), .int v1, .int v2, .int v3] (fun H => XS dC dI cI cD cR ad s0 B hi n d t day al nd bb oo K F kn nZ dZ tZ dayZ alZ ndZ bbZ ooZ KZ FZ knZ ke so zz el qk qf H ∧ Y H)) (LQ s0 ((bif okI v1 8 && (okI v2 3 && !decide (nI 100 < v3)) then (if v3 < 0 then -14 else 0) else -1)) (fun H => XS dC dI cI cD cR ad s0 (B + 100) hi n d t day al nd bb oo K F kn nZ dZ tZ dayZ alZ ndZ bbZ ooZ KZ FZ knZ (bif (okI v1 8 && (okI v2 3 && !decide (nI 100 < v3))) && !decide (v3 < 0) then va_up ke (nT v1) 2 else ke) (bif (okI v1 8 && (okI v2 3 && !decide (nI 100 < v3))) && !decide (v3 < 0) then va_up so (nT v1) (nT v2) else so) (bif (okI v1 8 && (okI v2 3 && !decide (nI 100 < v3))) && !decide (v3 < 0) then va_up zz (nT v1) (nT v3) else zz) (bif (okI v1 8 && (okI v2 3 && !decide (nI 100 < v3))) && !decide (v3 < 0) then czE el (nT v1) 100 else el) qk qf H ∧ Y H)) 2 102 (fun q => s0 ≤ q) := by
  have hf := fun hno => u_X11_row_f l dC dI cI cD cR ad s0 B hA hB hi n d t day al nd bb oo K F kn nZ dZ tZ dayZ alZ ndZ bbZ ooZ KZ FZ knZ ke so zz el qk qf Y hY v1 v2 v3 hno
  unfold rowB at hf
  cases hc : okI v1 8 && (okI v2 3 && !decide (nI 100 < v3))
  · rw [hc] at hf; exact hf (fun y e hy hq => by subst e; rw [okI_nI (by omega) (by decide), decide_eq_true hy, Bool.true_and, hq] at hc; cases hc)
  · rw [hc] at hf
    by_cases h0 : v3 < 0
    · rw [if_pos h0, decide_eq_true h0]; exact hf (fun _ _ _ _ => h0)
    · rw [if_neg h0, decide_eq_false h0]
      rw [Bool.and_eq_true, Bool.and_eq_true, Bool.not_eq_true', decide_eq_false_iff_not] at hc
      obtain ⟨h1, h2, h3⟩ := hc
      obtain ⟨y, hy, rfl⟩ := okI_ex (by decide) h1
      obtain ⟨b, hb, rfl⟩ := okI_ex (by decide) h2
      obtain ⟨z, hz, rfl⟩ := nI_of h0
      have hz9 : z ≤ 100 := by
        rw [Int32.lt_iff_toInt_lt, nI_toInt (by decide), nI_toInt hz] at h3
        omega
      rw [nT_nI (show y < 2 ^ 31 by omega), nT_nI (show b < 2 ^ 31 by omega), nT_nI hz]
      exact u_X11_row_t l dC dI cI cD cR ad s0 B hA hB hi n d t day al nd bb oo K F kn nZ dZ tZ dayZ alZ ndZ bbZ ooZ KZ FZ knZ ke so zz el qk qf Y hY y b z hy hb hz9
set_option maxHeartbeats 4000000 in
set_option maxRecDepth 100000 in
theorem u_X12_row (l : Launch) (dC : Nat → ClassId) (dI : Nat → Nat → Nat) (cI cD cR : ClassId) (cL : ClassId) (ad : Nat → Nat) (s0 B : Nat) (hA : AdD ad s0) (hB : B ≤ 60000) (hi : Bool) (n d t day al : Nat) (nd : Nat → Nat) (bb oo : Nat → Int32) (K F kn : Nat → Nat) (nZ dZ tZ dayZ alZ : Nat) (ndZ : Nat → Nat) (bbZ ooZ : Nat → Int32) (KZ FZ knZ : Nat → Nat) (ke so zz : Nat → Nat) (el qk qf : Nat → Int32) (X : Heap → Prop) (hX : XK ad X) (hC : CiI B n d t day al nd bb oo K F kn nZ dZ tZ dayZ alZ ndZ bbZ ooZ KZ FZ knZ ke so zz qk qf) (v1 : Int32) (v2 : Int32) (v3 : Int32) : Met l yX12_row wsX12_row ({ frames := 9, cells := 0, slots := 0, locals := 340 }) (pcR dC dI cI cD cR [.ref (ad 25), .int v1, .int v2, .int v3] (fun H => X H ∧ MT dC dI cI cL ad hi n d t day al nd bb oo K F kn nZ dZ tZ dayZ alZ ndZ bbZ ooZ KZ FZ knZ ke so zz el qk qf H)) (LQ s0 ((bif okI v1 8 && (okI v2 3 && !decide (nI 100 < v3)) then (if v3 < 0 then -14 else 0) else -1)) (fun H => X H ∧ MT dC dI cI cL ad hi n d t day al nd bb oo K F kn nZ dZ tZ dayZ alZ ndZ bbZ ooZ KZ FZ knZ (bif (okI v1 8 && (okI v2 3 && !decide (nI 100 < v3))) && !decide (v3 < 0) then va_up ke (nT v1) 2 else ke) (bif (okI v1 8 && (okI v2 3 && !decide (nI 100 < v3))) && !decide (v3 < 0) then va_up so (nT v1) (nT v2) else so) (bif (okI v1 8 && (okI v2 3 && !decide (nI 100 < v3))) && !decide (v3 < 0) then va_up zz (nT v1) (nT v3) else zz) (bif (okI v1 8 && (okI v2 3 && !decide (nI 100 < v3))) && !decide (v3 < 0) then czE el (nT v1) 100 else el) qk qf H)) 0 0 (fun q => s0 ≤ q) := by
  refine met_cs (fun a s hs => ?_)
  obtain ⟨rfl, ⟨hXs, hM9⟩, hCX⟩ := hs
  have hM8 := hM9
  obtain ⟨th, ov, po, ba, en, se, nR, dR, tR, dayR, alR, ndR, bbR, ooR, KR, FR, knR, nM, dM, tM, dayM, alM, ndM, bbM, ooM, KM, FM, knM, nu, fe, ea, pr, hP⟩ := hM8
  have hC9 := hC
  obtain ⟨hWS, hWZ, hB1, hB2, gzz, gso, gke2, gkk⟩ := hC9
  have hn := hWS.1
  have hd := hWS.2.1
  have ht := ws_t9 hWS
  have hal : al < 64 := Nat.lt_of_lt_of_le hWS.2.2.2.1 (Nat.pow_le_pow_right (by decide) hd)
  have hday : day < 2 ^ 30 := by omega
  have gnd := hWS.2.2.2.2.1
  have gK := hWS.2.2.2.2.2.2.1
  have gF := hWS.2.2.2.2.2.2.2.1
  have gkn := hWS.2.2.2.2.2.2.2.2.1
  have hE : (MW cI cL ad hi th po ba en se n d t day al nd bb oo K F kn nZ dZ tZ dayZ alZ ndZ bbZ ooZ KZ FZ knZ nR dR tR dayR alR ndR bbR ooR KR FR knR nM dM tM dayM alM ndM bbM ooM KM FM knM ke so zz el qk qf nu fe ea pr ov).map Prod.fst = adL ad 25 16 := MW_ad cI cL ad hi th po ba en se n d t day al nd bb oo K F kn nZ dZ tZ dayZ alZ ndZ bbZ ooZ KZ FZ knZ nR dR tR dayR alR ndR bbR ooR KR FR knR nM dM tM dayM alM ndM bbM ooM KM FM knM ke so zz el qk qf nu fe ea pr ov
  have hPc := hP.sub (ws' := [((ad 25), .inr (12, [.ref (ad 26), .ref (ad 27), .ref (ad 28), .ref (ad 29), .ref (ad 30), .ref (ad 31), .ref (ad 32), .ref (ad 33), .ref (ad 34), .ref (ad 35), .int (bI hi), .int th, .int (nI po), .int (nI ba), .int (nI en), .ref (ad 36), .ref (ad 37), .ref (ad 38), .ref (ad 39), .int se]))] ++ [((ad 30), .inl (cI, 8, .inl (nF ke)))] ++ [((ad 31), .inl (cI, 8, .inl (nF so)))] ++ [((ad 32), .inl (cI, 8, .inl (nF zz)))] ++ [((ad 33), .inl (cI, 800, .inl el))]) [0, 5, 6, 7, 8] rfl
  have hD := ws_D hA hE (by omega)
  have hz := s0_le hA hP hE (by omega) (by omega)
  have hDc := hD.sub (ws' := [((ad 25), .inr (12, [.ref (ad 26), .ref (ad 27), .ref (ad 28), .ref (ad 29), .ref (ad 30), .ref (ad 31), .ref (ad 32), .ref (ad 33), .ref (ad 34), .ref (ad 35), .int (bI hi), .int th, .int (nI po), .int (nI ba), .int (nI en), .ref (ad 36), .ref (ad 37), .ref (ad 38), .ref (ad 39), .int se]))] ++ [((ad 30), .inl (cI, 8, .inl (nF ke)))] ++ [((ad 31), .inl (cI, 8, .inl (nF so)))] ++ [((ad 32), .inl (cI, 8, .inl (nF zz)))] ++ [((ad 33), .inl (cI, 800, .inl el))]) [0, 5, 6, 7, 8] (by decide) rfl
  refine ⟨_, _, _, _, _, _, c_X12_row l dC dI cI cD cR (ad 25) (ad 26) (ad 27) (ad 28) (ad 29) (ad 30) (ad 31) (ad 32) (ad 33) (ad 34) (ad 35) hi th po ba en (ad 36) (ad 37) (ad 38) (ad 39) se ke so zz el v1 v2 v3 s.heap.size, ⟨by decide, by decide, by first | decide | (dsimp only; omega), by first | decide | (dsimp only; omega)⟩, ⟨by first | decide | (dsimp only; omega) | omega, by first | decide | (dsimp only; omega) | omega⟩, ⟨rfl, ⟨rfl, hPc, hDc⟩, hCX⟩, ?_, free_of hA (by omega) hE [0, 5, 6, 7, 8] rfl hz⟩
  rintro o T8 ⟨⟨r, u, ho, hr, hP1, hD1⟩, hF⟩
  have hP1 : va_P (dC, dI) vwCl ([((ad 25), .inr (12, [.ref (ad 26), .ref (ad 27), .ref (ad 28), .ref (ad 29), .ref (ad 30), .ref (ad 31), .ref (ad 32), .ref (ad 33), .ref (ad 34), .ref (ad 35), .int (bI hi), .int th, .int (nI po), .int (nI ba), .int (nI en), .ref (ad 36), .ref (ad 37), .ref (ad 38), .ref (ad 39), .int se]))] ++ [((ad 30), .inl (cI, 8, .inl (nF (bif (okI v1 8 && (okI v2 3 && !decide (nI 100 < v3))) && !decide (v3 < 0) then va_up ke (nT v1) 2 else ke))))] ++ [((ad 31), .inl (cI, 8, .inl (nF (bif (okI v1 8 && (okI v2 3 && !decide (nI 100 < v3))) && !decide (v3 < 0) then va_up so (nT v1) (nT v2) else so))))] ++ [((ad 32), .inl (cI, 8, .inl (nF (bif (okI v1 8 && (okI v2 3 && !decide (nI 100 < v3))) && !decide (v3 < 0) then va_up zz (nT v1) (nT v3) else zz))))] ++ [((ad 33), .inl (cI, 800, .inl (bif (okI v1 8 && (okI v2 3 && !decide (nI 100 < v3))) && !decide (v3 < 0) then czE el (nT v1) 100 else el)))]) T8.heap := hP1
  have hfr := fr_of hE [0, 5, 6, 7, 8] rfl hF
  obtain ⟨hP2, -⟩ := va_join (wr := [((ad 26), .inl (cI, 53, .inl (sF n d t day al nd bb oo K F kn))), ((ad 27), .inl (cI, 53, .inl (sF nZ dZ tZ dayZ alZ ndZ bbZ ooZ KZ FZ knZ))), ((ad 28), .inl (cI, 53, .inl (sF nR dR tR dayR alR ndR bbR ooR KR FR knR))), ((ad 29), .inl (cI, 53, .inl (sF nM dM tM dayM alM ndM bbM ooM KM FM knM))), ((ad 34), .inl (cI, 8, .inl qk)), ((ad 35), .inl (cI, 8, .inl qf)), ((ad 36), .inl (cI, 2, .inl nu)), ((ad 37), .inl (cI, 512, .inl (oF fe))), ((ad 38), .inl (cI, 512, .inl (oF ea))), ((ad 39), .inl (cI, 512, .inl (oF pr))), (ad 40, .inl (cL, 1, .inr (.inl ov)))]) (w1 := [((ad 25), .inr (12, [.ref (ad 26), .ref (ad 27), .ref (ad 28), .ref (ad 29), .ref (ad 30), .ref (ad 31), .ref (ad 32), .ref (ad 33), .ref (ad 34), .ref (ad 35), .int (bI hi), .int th, .int (nI po), .int (nI ba), .int (nI en), .ref (ad 36), .ref (ad 37), .ref (ad 38), .ref (ad 39), .int se]))] ++ [((ad 30), .inl (cI, 8, .inl (nF (bif (okI v1 8 && (okI v2 3 && !decide (nI 100 < v3))) && !decide (v3 < 0) then va_up ke (nT v1) 2 else ke))))] ++ [((ad 31), .inl (cI, 8, .inl (nF (bif (okI v1 8 && (okI v2 3 && !decide (nI 100 < v3))) && !decide (v3 < 0) then va_up so (nT v1) (nT v2) else so))))] ++ [((ad 32), .inl (cI, 8, .inl (nF (bif (okI v1 8 && (okI v2 3 && !decide (nI 100 < v3))) && !decide (v3 < 0) then va_up zz (nT v1) (nT v3) else zz))))] ++ [((ad 33), .inl (cI, 800, .inl (bif (okI v1 8 && (okI v2 3 && !decide (nI 100 < v3))) && !decide (v3 < 0) then czE el (nT v1) 100 else el)))]) hP hD [0, 5, 6, 7, 8] [1, 2, 3, 4, 9, 10, 11, 12, 13, 14, 15] rfl rfl (by decide) (by decide) hF.2 (fun _ _ => trivial) hP1 hD1
  have hP3 := hP2.sub (ws' := MW cI cL ad hi th po ba en se n d t day al nd bb oo K F kn nZ dZ tZ dayZ alZ ndZ bbZ ooZ KZ FZ knZ nR dR tR dayR alR ndR bbR ooR KR FR knR nM dM tM dayM alM ndM bbM ooM KM FM knM (bif (okI v1 8 && (okI v2 3 && !decide (nI 100 < v3))) && !decide (v3 < 0) then va_up ke (nT v1) 2 else ke) (bif (okI v1 8 && (okI v2 3 && !decide (nI 100 < v3))) && !decide (v3 < 0) then va_up so (nT v1) (nT v2) else so) (bif (okI v1 8 && (okI v2 3 && !decide (nI 100 < v3))) && !decide (v3 < 0) then va_up zz (nT v1) (nT v3) else zz) (bif (okI v1 8 && (okI v2 3 && !decide (nI 100 < v3))) && !decide (v3 < 0) then czE el (nT v1) 100 else el) qk qf nu fe ea pr ov) [11, 0, 1, 2, 3, 12, 13, 14, 15, 4, 5, 6, 7, 8, 9, 10] rfl
  clear hP1 hD1 hP2
  exact ⟨⟨r, (), ho, hr, hX _ _ hXs hF.1 (fun q hq hx => hfr q hq (fun j9 h8 h9 => hx j9 h8 (by omega))), th, ov, po, ba, en, se, nR, dR, tR, dayR, alR, ndR, bbR, ooR, KR, FR, knR, nM, dM, tM, dayM, alM, ndM, bbM, ooM, KM, FM, knM, nu, fe, ea, pr, hP3⟩, hF.1, fun q hq hno => hfr q hq (fun j9 _ hj9 z9 => hno (by rw [z9]; exact hA.2 j9 (by omega)))⟩
