set_option maxHeartbeats 4000000 in
set_option maxRecDepth 100000 in
theorem u_X11_copy_d (l : Launch) (dC : Nat → ClassId) (dI : Nat → Nat → Nat) (cI cD cR : ClassId) (ad : Nat → Nat) (s0 B : Nat) (hA : AdD ad s0) (hB : B ≤ 60000) (hi : Bool) (n d t day al : Nat) (nd : Nat → Nat) (bb oo : Nat → Int32) (K F kn : Nat → Nat) (nZ dZ tZ dayZ alZ : Nat) (ndZ : Nat → Nat) (bbZ ooZ : Nat → Int32) (KZ FZ knZ : Nat → Nat) (ke so zz : Nat → Nat) (el qk qf : Nat → Int32) (Y : Heap → Prop) (hY : YK ad Y) (v1 v2 v3 v4 v5 : Nat) (hy1 : v1 < 8) (hy2 : v3 < 8) (hke1 : ke v1 = 2) (hke2 : ke v3 = 2) (hso12 : so v1 = so v3) (hi9 : v2 + v5 ≤ zz v1) (hj9 : v4 + v5 ≤ zz v3) (hne0 : v1 ≠ v3) : Met l yX11_copy wsX11_copy ({ frames := 9, cells := 0, slots := 0, locals := 340 }) (pcR dC dI cI cD cR [.ref (ad 0), .int (nI v1), .int (nI v2), .int (nI v3), .int (nI v4), .int (nI v5)] (fun H => XS dC dI cI cD cR ad s0 B hi n d t day al nd bb oo K F kn nZ dZ tZ dayZ alZ ndZ bbZ ooZ KZ FZ knZ ke so zz el qk qf H ∧ Y H)) (LQ s0 (nI v5) (fun H => XS dC dI cI cD cR ad s0 (B + 100) hi n d t day al nd bb oo K F kn nZ dZ tZ dayZ alZ ndZ bbZ ooZ KZ FZ knZ ke so zz (cpE el (100 * v1 + v2) (100 * v3 + v4) v5) qk qf H ∧ Y H)) 0 0 (fun q => s0 ≤ q) := by
  refine met_cs (fun a s hs => ?_)
  obtain ⟨rfl, ⟨hX9, hYs⟩, hCX⟩ := hs
  have hX8 := hX9
  obtain ⟨hC, mk, si, mb, nM, dM, tM, dayM, alM, ndM, mkM, siM, knM, mbM, mkP, siP, mbP, sa, lk, ef, le, dm, rm, DL, kd, fg, RL, rc, rs, rz, rf, hP, hDP, hRP, hO, hRS, hRZ, hSH, hef, hlt⟩ := hX8
  have hC9 := hC
  obtain ⟨hWS, hWZ, hB1, hB2, gzz, gso, gke2, gkk⟩ := hC9
  have hn := hWS.1
  have hd := hWS.2.1
  have ht := ws_t9 hWS
  have hal : al < 64 := Nat.lt_of_lt_of_le hWS.2.2.2.1 (Nat.pow_le_pow_right (by decide) hd)
  have hday : day < 2 ^ 30 := by omega
  have gnd := hWS.2.2.2.2.1
  have gK := hWS.2.2.2.2.2.2.1
  have gF := hWS.2.2.2.2.2.2.2.1
  have gkn := hWS.2.2.2.2.2.2.2.2.1
  obtain ⟨r1, hrm_r1, -, hso_r1, hzz_r1, hel_r1⟩ := hSH.ke2 hy1 hke1
  obtain ⟨r2, hrm_r2, -, hso_r2, hzz_r2, hel_r2⟩ := hSH.ke2 hy2 hke2
  have hne12 : r1 ≠ r2 := fun z9 => by subst z9; exact hne0 (hSH.2.2.1 v1 v3 r1 hrm_r1 hrm_r2)
  have hso0 : rs r2 = rs r1 := by rw [← hso_r1, ← hso_r2, hso12]
  have hE : (XW cI cD cR ad hi n d t day al nd mk si kn mb nM dM tM dayM alM ndM mkM siM knM mbM nZ dZ tZ dayZ alZ ndZ mkP siP knZ mbP sa lk ef le dm rm).map Prod.fst = adL ad 0 25 := rfl
  have hz := s0_le hA hP hE (by omega) (by omega)
  have hR_r1 := hSH.2.1 _ _ hrm_r1
  obtain ⟨hPr_r1, hs3_r1, hz9_r1⟩ := hRP r1 hR_r1
  obtain ⟨ha_r1, hb_r1, hc_r1⟩ := hO.2.1 r1 hR_r1
  have hR_r2 := hSH.2.1 _ _ hrm_r2
  obtain ⟨hPr_r2, hs3_r2, hz9_r2⟩ := hRP r2 hR_r2
  obtain ⟨ha_r2, hb_r2, hc_r2⟩ := hO.2.1 r2 hR_r2
  have hPr_r2 : va_P (dC, dI) vwCl ([(r2, .inr (8, [.int (nI (rs r1)), .ref (rc r2)])), (rc r2, .inl (cI, rz r2, .inl (rf r2)))]) s.heap := by rw [← hso0]; exact hPr_r2
  have hDr : va_D (fun _ => True) ([(r1, .inr (8, [.int (nI (rs r1)), .ref (rc r1)])), (rc r1, .inl (cI, rz r1, .inl (rf r1)))] ++ [(r2, .inr (8, [.int (nI (rs r1)), .ref (rc r2)])), (rc r2, .inl (cI, rz r2, .inl (rf r2)))]) := va_D.app (row_D (hO.2.2.2.1 r1 hR_r1 r1 hR_r1)) (row_D (hO.2.2.2.1 r2 hR_r2 r2 hR_r2)) (fun i j p q hp hq hpq => by
    have hi9 : i < 2 := (List.getElem?_eq_some_iff.mp hp).1
    have hj9 : j < 2 := (List.getElem?_eq_some_iff.mp hq).1
    rcases (show i = 0 ∨ i = 1 by omega) with rfl | rfl <;> rcases (show j = 0 ∨ j = 1 by omega) with rfl | rfl <;> cases hp <;> cases hq
    · exact hne12 hpq
    · exact hO.2.2.2.1 r1 hR_r1 r2 hR_r2 hpq
    · exact hO.2.2.2.1 r2 hR_r2 r1 hR_r1 hpq.symm
    · exact hne12 (hO.2.2.1 r1 hR_r1 r2 hR_r2 hpq))
  have hPr : va_P (dC, dI) vwCl ([(r1, .inr (8, [.int (nI (rs r1)), .ref (rc r1)])), (rc r1, .inl (cI, rz r1, .inl (rf r1)))] ++ [(r2, .inr (8, [.int (nI (rs r1)), .ref (rc r2)])), (rc r2, .inl (cI, rz r2, .inl (rf r2)))]) s.heap := hPr_r1.app hPr_r2
  have hDw := D_app (ws := XW cI cD cR ad hi n d t day al nd mk si kn mb nM dM tM dayM alM ndM mkM siM knM mbM nZ dZ tZ dayZ alZ ndZ mkP siP knZ mbP sa lk ef le dm rm) hA hE (by omega) hDr (fun x hx j hj => by
    rcases List.mem_append.mp hx with hx | hx
    · rcases List.mem_cons.mp hx with rfl | hx
      · exact (ha_r1 j hj).1
      · rcases List.mem_singleton.mp hx with rfl
        exact (ha_r1 j hj).2
    · rcases List.mem_cons.mp hx with rfl | hx
      · exact (ha_r2 j hj).1
      · rcases List.mem_singleton.mp hx with rfl
        exact (ha_r2 j hj).2)
  have hPw := hP.app hPr
  have hPc := hPw.sub (ws' := [((ad 0), .inr (11, [.ref (ad 1), .ref (ad 7), .ref (ad 13), .int (bI hi), .ref (ad 19), .ref (ad 23), .ref (ad 24)]))] ++ [((ad 23), .inl (cD, 8, .inr (.inr (.inr (.inr dm)))))] ++ [((ad 24), .inl (cR, 8, .inr (.inr (.inr (.inr rm)))))] ++ [(r1, .inr (8, [.int (nI (rs r1)), .ref (rc r1)])), (rc r1, .inl (cI, rz r1, .inl (rf r1)))] ++ [(r2, .inr (8, [.int (nI (rs r1)), .ref (rc r2)])), (rc r2, .inl (cI, rz r2, .inl (rf r2)))]) [0, 23, 24, 25, 26, 27, 28] rfl
  have hDc := hDw.sub (ws' := [((ad 0), .inr (11, [.ref (ad 1), .ref (ad 7), .ref (ad 13), .int (bI hi), .ref (ad 19), .ref (ad 23), .ref (ad 24)]))] ++ [((ad 23), .inl (cD, 8, .inr (.inr (.inr (.inr dm)))))] ++ [((ad 24), .inl (cR, 8, .inr (.inr (.inr (.inr rm)))))] ++ [(r1, .inr (8, [.int (nI (rs r1)), .ref (rc r1)])), (rc r1, .inl (cI, rz r1, .inl (rf r1)))] ++ [(r2, .inr (8, [.int (nI (rs r1)), .ref (rc r2)])), (rc r2, .inl (cI, rz r2, .inl (rf r2)))]) [0, 23, 24, 25, 26, 27, 28] (by decide) rfl
  refine ⟨_, _, _, _, _, _, c_X11_copy_d l dC dI cI cD cR (ad 0) (ad 1) (ad 7) (ad 13) hi (ad 19) (ad 23) (ad 24) dm rm r1 (rc r1) (rs r1) (rz r1) (rf r1) r2 (rc r2) (rz r2) (rf r2) v1 v2 v3 v4 v5 s.heap.size hy1 hy2 hrm_r1 hrm_r2 hs3_r1 hz9_r1 hz9_r2 (by omega) (by omega), ⟨by decide, by decide, by first | decide | (dsimp only; omega), by first | decide | (dsimp only; omega)⟩, ⟨by first | decide | omega, by first | decide | omega⟩, ⟨rfl, ⟨rfl, hPc, hDc⟩, hCX⟩, ?_, free_row (ws := XW cI cD cR ad hi n d t day al nd mk si kn mb nM dM tM dayM alM ndM mkM siM knM mbM nZ dZ tZ dayZ alZ ndZ mkP siP knZ mbP sa lk ef le dm rm) (rw9 := [(r1, .inr (8, [.int (nI (rs r1)), .ref (rc r1)])), (rc r1, .inl (cI, rz r1, .inl (rf r1)))] ++ [(r2, .inr (8, [.int (nI (rs r1)), .ref (rc r2)])), (rc r2, .inl (cI, rz r2, .inl (rf r2)))]) hA (by omega) hE [0, 23, 24, 25, 26, 27, 28] rfl hz (fun x hx => by
    rcases List.mem_append.mp hx with hx | hx
    · rcases List.mem_cons.mp hx with rfl | hx
      · exact hb_r1
      · rcases List.mem_singleton.mp hx with rfl
        exact hc_r1
    · rcases List.mem_cons.mp hx with rfl | hx
      · exact hb_r2
      · rcases List.mem_singleton.mp hx with rfl
        exact hc_r2)⟩
  rintro o T8 ⟨⟨r, u, ho, hr, hP1, hD1⟩, hF⟩
  have hP1 : va_P (dC, dI) vwCl ([((ad 0), .inr (11, [.ref (ad 1), .ref (ad 7), .ref (ad 13), .int (bI hi), .ref (ad 19), .ref (ad 23), .ref (ad 24)]))] ++ [((ad 23), .inl (cD, 8, .inr (.inr (.inr (.inr dm)))))] ++ [((ad 24), .inl (cR, 8, .inr (.inr (.inr (.inr rm)))))] ++ [(r1, .inr (8, [.int (nI (rs r1)), .ref (rc r1)])), (rc r1, .inl (cI, rz r1, .inl (rf r1)))] ++ [(r2, .inr (8, [.int (nI (rs r1)), .ref (rc r2)])), (rc r2, .inl (cI, rz r2, .inl ((va_cpy (rf r1) (rf r2) v2 v4 v5))))]) T8.heap := hP1
  have hfr0 := fr_row (ws := XW cI cD cR ad hi n d t day al nd mk si kn mb nM dM tM dayM alM ndM mkM siM knM mbM nZ dZ tZ dayZ alZ ndZ mkP siP knZ mbP sa lk ef le dm rm) (rw9 := [(r1, .inr (8, [.int (nI (rs r1)), .ref (rc r1)])), (rc r1, .inl (cI, rz r1, .inl (rf r1)))] ++ [(r2, .inr (8, [.int (nI (rs r1)), .ref (rc r2)])), (rc r2, .inl (cI, rz r2, .inl (rf r2)))]) hE [0, 23, 24, 25, 26, 27, 28] rfl hF
  have hfr : ∀ q : Nat, q < s.heap.size → (∀ j, 0 ≤ j → j < 0 + 25 → q ≠ ad j) → q ≠ r1 → q ≠ rc r1 → q ≠ r2 → q ≠ rc r2 → T8.heap[q]? = s.heap[q]? := fun q hq h1 g1_r1 g2_r1 g1_r2 g2_r2 => hfr0 q hq h1 (fun x hx => by
    rcases List.mem_append.mp hx with hx | hx
    · rcases List.mem_cons.mp hx with rfl | hx
      · exact g1_r1
      · rcases List.mem_singleton.mp hx with rfl
        exact g2_r1
    · rcases List.mem_cons.mp hx with rfl | hx
      · exact g1_r2
      · rcases List.mem_singleton.mp hx with rfl
        exact g2_r2)
  obtain ⟨hP2, -⟩ := va_join (wr := (schW cI cD (ad 1) (ad 2) (ad 3) (ad 4) (ad 5) (ad 6) n d t al day nd mk si kn mb) ++ (schW cI cD (ad 7) (ad 8) (ad 9) (ad 10) (ad 11) (ad 12) nM dM tM alM dayM ndM mkM siM knM mbM) ++ (schW cI cD (ad 13) (ad 14) (ad 15) (ad 16) (ad 17) (ad 18) nZ dZ tZ alZ dayZ ndZ mkP siP knZ mbP) ++ (forW cI (ad 19) (ad 20) (ad 21) (ad 22) sa lk ef le)) (w1 := [((ad 0), .inr (11, [.ref (ad 1), .ref (ad 7), .ref (ad 13), .int (bI hi), .ref (ad 19), .ref (ad 23), .ref (ad 24)]))] ++ [((ad 23), .inl (cD, 8, .inr (.inr (.inr (.inr dm)))))] ++ [((ad 24), .inl (cR, 8, .inr (.inr (.inr (.inr rm)))))] ++ [(r1, .inr (8, [.int (nI (rs r1)), .ref (rc r1)])), (rc r1, .inl (cI, rz r1, .inl (rf r1)))] ++ [(r2, .inr (8, [.int (nI (rs r1)), .ref (rc r2)])), (rc r2, .inl (cI, rz r2, .inl ((va_cpy (rf r1) (rf r2) v2 v4 v5))))]) hPw hDw [0, 23, 24, 25, 26, 27, 28] [1, 2, 3, 4, 5, 6, 7, 8, 9, 10, 11, 12, 13, 14, 15, 16, 17, 18, 19, 20, 21, 22] rfl rfl (by decide) (by decide) hF.2 (fun _ _ => trivial) hP1 hD1
  have hP3 := hP2.sub (ws' := XW cI cD cR ad hi n d t day al nd mk si kn mb nM dM tM dayM alM ndM mkM siM knM mbM nZ dZ tZ dayZ alZ ndZ mkP siP knZ mbP sa lk ef le dm rm) [22, 0, 1, 2, 3, 4, 5, 6, 7, 8, 9, 10, 11, 12, 13, 14, 15, 16, 17, 18, 19, 20, 21, 23, 24] rfl
  have hQ_r1 := hP2.sub (ws' := [(r1, .inr (8, [.int (nI (rs r1)), .ref (rc r1)])), (rc r1, .inl (cI, rz r1, .inl (rf r1)))]) [25, 26] rfl
  have hQ_r2 := hP2.sub (ws' := [(r2, .inr (8, [.int (nI (rs r1)), .ref (rc r2)])), (rc r2, .inl (cI, rz r2, .inl ((va_cpy (rf r1) (rf r2) v2 v4 v5))))]) [27, 28] rfl
  have hQ_r2 : va_P (dC, dI) vwCl ([(r2, .inr (8, [.int (nI (rs r2)), .ref (rc r2)])), (rc r2, .inl (cI, rz r2, .inl ((va_cpy (rf r1) (rf r2) v2 v4 v5))))]) T8.heap := by rw [hso0]; exact hQ_r2
  clear hP1 hD1 hP2 hPw hDw hPc hDc hPr hDr
  have k_dp := hDP.go3 (H1 := T8.heap) (fun a9 ha9 => hfr a9 (hDP.lt ha9) (fun j9 _ hj9 => hO.1 a9 ha9 j9 (by omega)) (hO.2.2.2.2 a9 ha9 r1 hR_r1).1 (hO.2.2.2.2 a9 ha9 r1 hR_r1).2 (hO.2.2.2.2 a9 ha9 r2 hR_r2).1 (hO.2.2.2.2 a9 ha9 r2 hR_r2).2)
  have k_rp : RP dC dI cI RL rc rs rz (va_up rf r2 (va_cpy (rf r1) (rf r2) v2 v4 v5)) T8.heap := rp_k hRP (fun x hx => by
    by_cases e2 : x = r2
    · subst e2; left; rw [va_up_self]; exact hQ_r2
    · by_cases e1 : x = r1
      · subst e1; left; rw [va_up_ne _ _ e2]; exact hQ_r1
      · right; refine ⟨va_up_ne _ _ e2, hfr x (hRP.lt1 hx) (fun j9 _ hj9 => ((hO.2.1 x hx).1 j9 (by omega)).1) e1 (hO.2.2.2.1 x hx r1 hR_r1) e2 (hO.2.2.2.1 x hx r2 hR_r2), hfr (rc x) (hRP.lt2 hx) (fun j9 _ hj9 => ((hO.2.1 x hx).1 j9 (by omega)).2) (fun z9 => hO.2.2.2.1 r1 hR_r1 x hx z9.symm) (fun z9 => e1 (hO.2.2.1 x hx r1 hR_r1 z9)) (fun z9 => hO.2.2.2.1 r2 hR_r2 x hx z9.symm) (fun z9 => e2 (hO.2.2.1 x hx r2 hR_r2 z9))⟩)
  exact ⟨⟨r, (), ho, hr.trans (rfl), ⟨⟨hWS, hWZ, (by omega), (by omega), gzz, gso, gke2, gkk⟩, mk, si, mb, nM, dM, tM, dayM, alM, ndM, mkM, siM, knM, mbM, mkP, siP, mbP, sa, lk, ef, le, dm, rm, DL, kd, fg, RL, rc, rs, rz, (va_up rf r2 (va_cpy (rf r1) (rf r2) v2 v4 v5)), hP3, k_dp, k_rp, hO, hRS, hRZ, (sh_w hSH (fun r8 hr8 => (hRP r8 hr8).2.2) hrm_r2 (fun i hi => by (unfold cpE va_cpy); (by_cases hc9 : v4 ≤ i ∧ i < v4 + v5); (rw [if_pos hc9, if_pos (by omega), ← hel_r1 (v2 + (i - v4)) (by omega)]; congr 1; omega); (rw [if_neg hc9, if_neg (by omega)]; exact hel_r2 i hi)) (fun j i hj hi => by (unfold cpE); (rw [if_neg (by omega)]))), hef, fun j9 hj9 => Nat.lt_of_lt_of_le (hlt j9 hj9) hF.1⟩, hY _ _ hYs hF.1 (fun q hq hx => by obtain ⟨i9, g1, g2, g3⟩ := hx; exact hfr q hq (fun j9 h8 h9 z9 => by have := hA.1 i9 j9 g2 (by omega) (g3.symm.trans z9); omega) (fun z9 => (ha_r1 i9 g2).1 (z9.symm.trans g3)) (fun z9 => (ha_r1 i9 g2).2 (z9.symm.trans g3)) (fun z9 => (ha_r2 i9 g2).1 (z9.symm.trans g3)) (fun z9 => (ha_r2 i9 g2).2 (z9.symm.trans g3)))⟩, hF.1, fun q hq hno => hfr q hq (fun j9 _ hj9 z9 => hno (by rw [z9]; exact hA.2 j9 (by omega))) (fun z9 => hno (by rw [z9]; exact hb_r1)) (fun z9 => hno (by rw [z9]; exact hc_r1)) (fun z9 => hno (by rw [z9]; exact hb_r2)) (fun z9 => hno (by rw [z9]; exact hc_r2))⟩
set_option maxHeartbeats 4000000 in
set_option maxRecDepth 100000 in
theorem u_X11_copy_s (l : Launch) (dC : Nat → ClassId) (dI : Nat → Nat → Nat) (cI cD cR : ClassId) (ad : Nat → Nat) (s0 B : Nat) (hA : AdD ad s0) (hB : B ≤ 60000) (hi : Bool) (n d t day al : Nat) (nd : Nat → Nat) (bb oo : Nat → Int32) (K F kn : Nat → Nat) (nZ dZ tZ dayZ alZ : Nat) (ndZ : Nat → Nat) (bbZ ooZ : Nat → Int32) (KZ FZ knZ : Nat → Nat) (ke so zz : Nat → Nat) (el qk qf : Nat → Int32) (Y : Heap → Prop) (hY : YK ad Y) (v1 v2 v3 v4 v5 : Nat) (hy1 : v1 < 8) (hy2 : v3 < 8) (hke1 : ke v1 = 2) (hke2 : ke v3 = 2) (hso12 : so v1 = so v3) (hi9 : v2 + v5 ≤ zz v1) (hj9 : v4 + v5 ≤ zz v3) (hne0 : v1 = v3) : Met l yX11_copy wsX11_copy ({ frames := 9, cells := 0, slots := 0, locals := 340 }) (pcR dC dI cI cD cR [.ref (ad 0), .int (nI v1), .int (nI v2), .int (nI v3), .int (nI v4), .int (nI v5)] (fun H => XS dC dI cI cD cR ad s0 B hi n d t day al nd bb oo K F kn nZ dZ tZ dayZ alZ ndZ bbZ ooZ KZ FZ knZ ke so zz el qk qf H ∧ Y H)) (LQ s0 (nI v5) (fun H => XS dC dI cI cD cR ad s0 (B + 100) hi n d t day al nd bb oo K F kn nZ dZ tZ dayZ alZ ndZ bbZ ooZ KZ FZ knZ ke so zz (cpE el (100 * v1 + v2) (100 * v3 + v4) v5) qk qf H ∧ Y H)) 0 0 (fun q => s0 ≤ q) := by
  refine met_cs (fun a s hs => ?_)
  obtain ⟨rfl, ⟨hX9, hYs⟩, hCX⟩ := hs
  have hX8 := hX9
  obtain ⟨hC, mk, si, mb, nM, dM, tM, dayM, alM, ndM, mkM, siM, knM, mbM, mkP, siP, mbP, sa, lk, ef, le, dm, rm, DL, kd, fg, RL, rc, rs, rz, rf, hP, hDP, hRP, hO, hRS, hRZ, hSH, hef, hlt⟩ := hX8
  have hC9 := hC
  obtain ⟨hWS, hWZ, hB1, hB2, gzz, gso, gke2, gkk⟩ := hC9
  have hn := hWS.1
  have hd := hWS.2.1
  have ht := ws_t9 hWS
  have hal : al < 64 := Nat.lt_of_lt_of_le hWS.2.2.2.1 (Nat.pow_le_pow_right (by decide) hd)
  have hday : day < 2 ^ 30 := by omega
  have gnd := hWS.2.2.2.2.1
  have gK := hWS.2.2.2.2.2.2.1
  have gF := hWS.2.2.2.2.2.2.2.1
  have gkn := hWS.2.2.2.2.2.2.2.2.1
  subst hne0
  obtain ⟨r9, hrm_r9, -, hso_r9, hzz_r9, hel_r9⟩ := hSH.ke2 hy1 hke1
  have hE : (XW cI cD cR ad hi n d t day al nd mk si kn mb nM dM tM dayM alM ndM mkM siM knM mbM nZ dZ tZ dayZ alZ ndZ mkP siP knZ mbP sa lk ef le dm rm).map Prod.fst = adL ad 0 25 := rfl
  have hz := s0_le hA hP hE (by omega) (by omega)
  have hR_r9 := hSH.2.1 _ _ hrm_r9
  obtain ⟨hPr_r9, hs3_r9, hz9_r9⟩ := hRP r9 hR_r9
  obtain ⟨ha_r9, hb_r9, hc_r9⟩ := hO.2.1 r9 hR_r9
  have hDr : va_D (fun _ => True) ([(r9, .inr (8, [.int (nI (rs r9)), .ref (rc r9)])), (rc r9, .inl (cI, rz r9, .inl (rf r9)))]) := row_D (hO.2.2.2.1 r9 hR_r9 r9 hR_r9)
  have hPr : va_P (dC, dI) vwCl ([(r9, .inr (8, [.int (nI (rs r9)), .ref (rc r9)])), (rc r9, .inl (cI, rz r9, .inl (rf r9)))]) s.heap := hPr_r9
  have hDw := D_app (ws := XW cI cD cR ad hi n d t day al nd mk si kn mb nM dM tM dayM alM ndM mkM siM knM mbM nZ dZ tZ dayZ alZ ndZ mkP siP knZ mbP sa lk ef le dm rm) hA hE (by omega) hDr (fun x hx j hj => by
    rcases List.mem_cons.mp hx with rfl | hx
    · exact (ha_r9 j hj).1
    · rcases List.mem_singleton.mp hx with rfl
      exact (ha_r9 j hj).2)
  have hPw := hP.app hPr
  have hPc := hPw.sub (ws' := [((ad 0), .inr (11, [.ref (ad 1), .ref (ad 7), .ref (ad 13), .int (bI hi), .ref (ad 19), .ref (ad 23), .ref (ad 24)]))] ++ [((ad 23), .inl (cD, 8, .inr (.inr (.inr (.inr dm)))))] ++ [((ad 24), .inl (cR, 8, .inr (.inr (.inr (.inr rm)))))] ++ [(r9, .inr (8, [.int (nI (rs r9)), .ref (rc r9)])), (rc r9, .inl (cI, rz r9, .inl (rf r9)))]) [0, 23, 24, 25, 26] rfl
  have hDc := hDw.sub (ws' := [((ad 0), .inr (11, [.ref (ad 1), .ref (ad 7), .ref (ad 13), .int (bI hi), .ref (ad 19), .ref (ad 23), .ref (ad 24)]))] ++ [((ad 23), .inl (cD, 8, .inr (.inr (.inr (.inr dm)))))] ++ [((ad 24), .inl (cR, 8, .inr (.inr (.inr (.inr rm)))))] ++ [(r9, .inr (8, [.int (nI (rs r9)), .ref (rc r9)])), (rc r9, .inl (cI, rz r9, .inl (rf r9)))]) [0, 23, 24, 25, 26] (by decide) rfl
  refine ⟨_, _, _, _, _, _, c_X11_copy_s l dC dI cI cD cR (ad 0) (ad 1) (ad 7) (ad 13) hi (ad 19) (ad 23) (ad 24) dm rm r9 (rc r9) (rs r9) (rz r9) (rf r9) v1 v2 v1 v4 v5 s.heap.size hy1 hy1 hrm_r9 hrm_r9 hs3_r9 hz9_r9 (by omega) (by omega), ⟨by decide, by decide, by first | decide | (dsimp only; omega), by first | decide | (dsimp only; omega)⟩, ⟨by first | decide | omega, by first | decide | omega⟩, ⟨rfl, ⟨rfl, hPc, hDc⟩, hCX⟩, ?_, free_row (ws := XW cI cD cR ad hi n d t day al nd mk si kn mb nM dM tM dayM alM ndM mkM siM knM mbM nZ dZ tZ dayZ alZ ndZ mkP siP knZ mbP sa lk ef le dm rm) (rw9 := [(r9, .inr (8, [.int (nI (rs r9)), .ref (rc r9)])), (rc r9, .inl (cI, rz r9, .inl (rf r9)))]) hA (by omega) hE [0, 23, 24, 25, 26] rfl hz (fun x hx => by
    rcases List.mem_cons.mp hx with rfl | hx
    · exact hb_r9
    · rcases List.mem_singleton.mp hx with rfl
      exact hc_r9)⟩
  rintro o T8 ⟨⟨r, u, ho, hr, hP1, hD1⟩, hF⟩
  have hP1 : va_P (dC, dI) vwCl ([((ad 0), .inr (11, [.ref (ad 1), .ref (ad 7), .ref (ad 13), .int (bI hi), .ref (ad 19), .ref (ad 23), .ref (ad 24)]))] ++ [((ad 23), .inl (cD, 8, .inr (.inr (.inr (.inr dm)))))] ++ [((ad 24), .inl (cR, 8, .inr (.inr (.inr (.inr rm)))))] ++ [(r9, .inr (8, [.int (nI (rs r9)), .ref (rc r9)])), (rc r9, .inl (cI, rz r9, .inl ((va_cpy (rf r9) (rf r9) v2 v4 v5))))]) T8.heap := hP1
  have hfr0 := fr_row (ws := XW cI cD cR ad hi n d t day al nd mk si kn mb nM dM tM dayM alM ndM mkM siM knM mbM nZ dZ tZ dayZ alZ ndZ mkP siP knZ mbP sa lk ef le dm rm) (rw9 := [(r9, .inr (8, [.int (nI (rs r9)), .ref (rc r9)])), (rc r9, .inl (cI, rz r9, .inl (rf r9)))]) hE [0, 23, 24, 25, 26] rfl hF
  have hfr : ∀ q : Nat, q < s.heap.size → (∀ j, 0 ≤ j → j < 0 + 25 → q ≠ ad j) → q ≠ r9 → q ≠ rc r9 → T8.heap[q]? = s.heap[q]? := fun q hq h1 g1_r9 g2_r9 => hfr0 q hq h1 (fun x hx => by
    rcases List.mem_cons.mp hx with rfl | hx
    · exact g1_r9
    · rcases List.mem_singleton.mp hx with rfl
      exact g2_r9)
  obtain ⟨hP2, -⟩ := va_join (wr := (schW cI cD (ad 1) (ad 2) (ad 3) (ad 4) (ad 5) (ad 6) n d t al day nd mk si kn mb) ++ (schW cI cD (ad 7) (ad 8) (ad 9) (ad 10) (ad 11) (ad 12) nM dM tM alM dayM ndM mkM siM knM mbM) ++ (schW cI cD (ad 13) (ad 14) (ad 15) (ad 16) (ad 17) (ad 18) nZ dZ tZ alZ dayZ ndZ mkP siP knZ mbP) ++ (forW cI (ad 19) (ad 20) (ad 21) (ad 22) sa lk ef le)) (w1 := [((ad 0), .inr (11, [.ref (ad 1), .ref (ad 7), .ref (ad 13), .int (bI hi), .ref (ad 19), .ref (ad 23), .ref (ad 24)]))] ++ [((ad 23), .inl (cD, 8, .inr (.inr (.inr (.inr dm)))))] ++ [((ad 24), .inl (cR, 8, .inr (.inr (.inr (.inr rm)))))] ++ [(r9, .inr (8, [.int (nI (rs r9)), .ref (rc r9)])), (rc r9, .inl (cI, rz r9, .inl ((va_cpy (rf r9) (rf r9) v2 v4 v5))))]) hPw hDw [0, 23, 24, 25, 26] [1, 2, 3, 4, 5, 6, 7, 8, 9, 10, 11, 12, 13, 14, 15, 16, 17, 18, 19, 20, 21, 22] rfl rfl (by decide) (by decide) hF.2 (fun _ _ => trivial) hP1 hD1
  have hP3 := hP2.sub (ws' := XW cI cD cR ad hi n d t day al nd mk si kn mb nM dM tM dayM alM ndM mkM siM knM mbM nZ dZ tZ dayZ alZ ndZ mkP siP knZ mbP sa lk ef le dm rm) [22, 0, 1, 2, 3, 4, 5, 6, 7, 8, 9, 10, 11, 12, 13, 14, 15, 16, 17, 18, 19, 20, 21, 23, 24] rfl
  have hQ_r9 := hP2.sub (ws' := [(r9, .inr (8, [.int (nI (rs r9)), .ref (rc r9)])), (rc r9, .inl (cI, rz r9, .inl ((va_cpy (rf r9) (rf r9) v2 v4 v5))))]) [25, 26] rfl
  clear hP1 hD1 hP2 hPw hDw hPc hDc hPr hDr
  exact ⟨⟨r, (), ho, hr.trans (rfl), ⟨⟨hWS, hWZ, (by omega), (by omega), gzz, gso, gke2, gkk⟩, mk, si, mb, nM, dM, tM, dayM, alM, ndM, mkM, siM, knM, mbM, mkP, siP, mbP, sa, lk, ef, le, dm, rm, DL, kd, fg, RL, rc, rs, rz, (va_up rf r9 (va_cpy (rf r9) (rf r9) v2 v4 v5)), hP3, (hDP.go2 hO hR_r9 (fun q hq h1 h2 h3 => hfr q hq (fun j9 _ hj9 => h1 j9 (by omega)) h2 h3)), (rp_w hRP hO hR_r9 hQ_r9 (fun q hq h1 h2 h3 => hfr q hq (fun j9 _ hj9 => h1 j9 (by omega)) h2 h3)), hO, hRS, hRZ, (sh_w hSH (fun r8 hr8 => (hRP r8 hr8).2.2) hrm_r9 (fun i hi => by (unfold cpE va_cpy); (by_cases hc9 : v4 ≤ i ∧ i < v4 + v5); (rw [if_pos hc9, if_pos (by omega), ← hel_r9 (v2 + (i - v4)) (by omega)]; congr 1; omega); (rw [if_neg hc9, if_neg (by omega)]; exact hel_r9 i hi)) (fun j i hj hi => by (unfold cpE); (rw [if_neg (by omega)]))), hef, fun j9 hj9 => Nat.lt_of_lt_of_le (hlt j9 hj9) hF.1⟩, hY _ _ hYs hF.1 (fun q hq hx => by obtain ⟨i9, g1, g2, g3⟩ := hx; exact hfr q hq (fun j9 h8 h9 z9 => by have := hA.1 i9 j9 g2 (by omega) (g3.symm.trans z9); omega) (fun z9 => (ha_r9 i9 g2).1 (z9.symm.trans g3)) (fun z9 => (ha_r9 i9 g2).2 (z9.symm.trans g3)))⟩, hF.1, fun q hq hno => hfr q hq (fun j9 _ hj9 z9 => hno (by rw [z9]; exact hA.2 j9 (by omega))) (fun z9 => hno (by rw [z9]; exact hb_r9)) (fun z9 => hno (by rw [z9]; exact hc_r9))⟩
theorem r_copyf2 {DL : List Nat} {kd fg : Nat → Nat} {RL : List Nat} {rs rz : Nat → Nat} {rf : Nat → Nat → Int32} {dm rm : Nat → Option Nat} {ke so zz : Nat → Nat} {el qk qf : Nat → Int32} (h : SH DL kd fg RL rs rz rf dm rm ke so zz el qk qf) (x1 x2 : Int32) : (on1 (oN x1 8) (fun y1 => on1 (oN x2 8) (fun y2 => bif ((rm y1).isNone && (dm y1).isNone) || ((rm y2).isNone && (dm y2).isNone) then -11 else match rm y1, rm y2 with | some r1, some r2 => (bif decide (rs r2 = rs r1) then -13 else -12) | _, _ => -12) (-1)) (-1) : Int32) = on1 (oN x1 8) (fun y1 => on1 (oN x2 8) (fun y2 => if ke y1 = 0 ∨ ke y2 = 0 then -11 else if ke y1 = 2 ∧ ke y2 = 2 ∧ so y1 = so y2 then -13 else -12) (-1)) (-1) := by
  refine on1_cong (by decide) (fun y1 hy1 => on1_cong (by decide) (fun y2 hy2 => ?_))
  rw [h.why hy1, h.why hy2]
  by_cases a1 : ke y1 = 0
  · simp [a1]
  · by_cases a2 : ke y2 = 0
    · simp [a2]
    · rw [decide_eq_false a1, decide_eq_false a2, if_neg (by simp [a1, a2])]
      rw [show (false || false) = false from rfl, cond_false]
      by_cases b1 : ke y1 = 2
      · obtain ⟨r1, c1, -, c2, -⟩ := h.ke2 hy1 b1
        by_cases b2 : ke y2 = 2
        · obtain ⟨r2, e1, -, e2, -⟩ := h.ke2 hy2 b2
          rw [c1, e1]
          by_cases z : rs r2 = rs r1
          · simp [b1, b2, c2, e2, z]
          · have z2 : ¬ rs r1 = rs r2 := fun q => z q.symm
            simp [b1, b2, c2, e2, z, z2]
        · rw [c1, h.norow hy2 b2]
          simp [b2]
      · rw [h.norow hy1 b1]
        simp [b1]
set_option maxHeartbeats 4000000 in
set_option maxRecDepth 100000 in
theorem u_X11_copy_f (l : Launch) (dC : Nat → ClassId) (dI : Nat → Nat → Nat) (cI cD cR : ClassId) (ad : Nat → Nat) (s0 B : Nat) (hA : AdD ad s0) (hB : B ≤ 60000) (hi : Bool) (n d t day al : Nat) (nd : Nat → Nat) (bb oo : Nat → Int32) (K F kn : Nat → Nat) (nZ dZ tZ dayZ alZ : Nat) (ndZ : Nat → Nat) (bbZ ooZ : Nat → Int32) (KZ FZ knZ : Nat → Nat) (ke so zz : Nat → Nat) (el qk qf : Nat → Int32) (Y : Heap → Prop) (hY : YK ad Y) (v1 : Int32) (v2 : Int32) (v3 : Int32) (v4 : Int32) (v5 : Int32) (hno9 : ∀ y1 y2, v1 = nI y1 → v3 = nI y2 → y1 < 8 → y2 < 8 → ke y1 = 2 → ke y2 = 2 → so y1 = so y2 → cpK (zz y1) (zz y2) v2 v4 v5 = false) : Met l yX11_copy wsX11_copy ({ frames := 9, cells := 0, slots := 0, locals := 340 }) (pcR dC dI cI cD cR [.ref (ad 0), .int v1, .int v2, .int v3, .int v4, .int v5] (fun H => XS dC dI cI cD cR ad s0 B hi n d t day al nd bb oo K F kn nZ dZ tZ dayZ alZ ndZ bbZ ooZ KZ FZ knZ ke so zz el qk qf H ∧ Y H)) (LQ s0 (on1 (oN v1 8) (fun y1 => on1 (oN v3 8) (fun y2 => if ke y1 = 0 ∨ ke y2 = 0 then -11 else if ke y1 = 2 ∧ ke y2 = 2 ∧ so y1 = so y2 then -13 else -12) (-1)) (-1)) (fun H => XS dC dI cI cD cR ad s0 (B + 100) hi n d t day al nd bb oo K F kn nZ dZ tZ dayZ alZ ndZ bbZ ooZ KZ FZ knZ ke so zz el qk qf H ∧ Y H)) 0 0 (fun q => s0 ≤ q) := by
  refine met_cs (fun a s hs => ?_)
  obtain ⟨rfl, ⟨hX9, hYs⟩, hCX⟩ := hs
  have hX8 := hX9
  obtain ⟨hC, mk, si, mb, nM, dM, tM, dayM, alM, ndM, mkM, siM, knM, mbM, mkP, siP, mbP, sa, lk, ef, le, dm, rm, DL, kd, fg, RL, rc, rs, rz, rf, hP, hDP, hRP, hO, hRS, hRZ, hSH, hef, hlt⟩ := hX8
  have hC9 := hC
  obtain ⟨hWS, hWZ, hB1, hB2, gzz, gso, gke2, gkk⟩ := hC9
  have hn := hWS.1
  have hd := hWS.2.1
  have ht := ws_t9 hWS
  have hal : al < 64 := Nat.lt_of_lt_of_le hWS.2.2.2.1 (Nat.pow_le_pow_right (by decide) hd)
  have hday : day < 2 ^ 30 := by omega
  have gnd := hWS.2.2.2.2.1
  have gK := hWS.2.2.2.2.2.2.1
  have gF := hWS.2.2.2.2.2.2.2.1
  have gkn := hWS.2.2.2.2.2.2.2.2.1
  have hkk : ∀ a9 ∈ DL, kd a9 < 8 ∧ fg a9 < 10 := fun a9 ha9 => (hDP a9 ha9).2
  have hno : ∀ y1 y2 r1 r2, v1 = nI y1 → v3 = nI y2 → y1 < 8 → y2 < 8 → rm y1 = some r1 → rm y2 = some r2 → rs r1 = rs r2 → (stB (rz r1) v2 v5 && stB (rz r2) v4 v5) = false := fun y1 y2 r1 r2 e1 e2 h1 h2 g1 g2 g3 => by
    obtain ⟨a1, -, a3, a4, -⟩ := hSH.row h1 g1
    obtain ⟨b1, -, b3, b4, -⟩ := hSH.row h2 g2
    rw [r_stcp (hRP r1 (hSH.2.1 _ _ g1)).2.2 (hRP r2 (hSH.2.1 _ _ g2)).2.2, ← a4, ← b4]
    exact hno9 y1 y2 e1 e2 h1 h2 a1 b1 (by rw [a3, b3, g3])
  have hE : (XW cI cD cR ad hi n d t day al nd mk si kn mb nM dM tM dayM alM ndM mkM siM knM mbM nZ dZ tZ dayZ alZ ndZ mkP siP knZ mbP sa lk ef le dm rm).map Prod.fst = adL ad 0 25 := rfl
  have hPc := hP.sub (ws' := [((ad 0), .inr (11, [.ref (ad 1), .ref (ad 7), .ref (ad 13), .int (bI hi), .ref (ad 19), .ref (ad 23), .ref (ad 24)]))] ++ [((ad 23), .inl (cD, 8, .inr (.inr (.inr (.inr dm)))))] ++ [((ad 24), .inl (cR, 8, .inr (.inr (.inr (.inr rm)))))]) [0, 23, 24] rfl
  refine ⟨_, _, _, _, _, _, c_X11_copy_f l dC dI cI cD cR (ad 0) (ad 1) (ad 7) (ad 13) hi (ad 19) (ad 23) (ad 24) dm rm v1 v2 v3 v4 v5 RL rc rs rz rf hSH.2.1 hno, ⟨by decide, by decide, by first | decide | exact Nat.zero_le _, by first | decide | exact Nat.zero_le _⟩, ⟨Nat.zero_le _, Nat.zero_le _⟩, ⟨rfl, ⟨hPc, hRP⟩, hCX⟩, ?_, fun q hq => hq.elim⟩
  rintro o t ⟨r, ho, hr, hh⟩
  exact ⟨⟨r, (), ho, hr.trans (r_copyf2 hSH _ _), by first | (rw [hh]; exact ⟨hX9.mono (by omega), hYs⟩) | (simp only [hh]; exact ⟨hX9.mono (by omega), hYs⟩)⟩, by rw [hh]; exact Nat.le_refl _, fun q _ _ => by rw [hh]⟩
set_option maxHeartbeats 4000000 in
set_option maxRecDepth 100000 in
theorem u_X11_copy (l : Launch) (dC : Nat → ClassId) (dI : Nat → Nat → Nat) (cI cD cR : ClassId) (ad : Nat → Nat) (s0 B : Nat) (hA : AdD ad s0) (hB : B ≤ 60000) (hi : Bool) (n d t day al : Nat) (nd : Nat → Nat) (bb oo : Nat → Int32) (K F kn : Nat → Nat) (nZ dZ tZ dayZ alZ : Nat) (ndZ : Nat → Nat) (bbZ ooZ : Nat → Int32) (KZ FZ knZ : Nat → Nat) (ke so zz : Nat → Nat) (el qk qf : Nat → Int32) (Y : Heap → Prop) (hY : YK ad Y) (v1 v2 v3 v4 v5 : Int32) (hzz9 : ∀ j, zz j ≤ 100) : Met l yX11_copy wsX11_copy ({ frames := 9, cells := 0, slots := 0, locals := 340 }) (pcR dC dI cI cD cR [.ref (ad 0), .int v1, .int v2, .int v3, .int v4, .int v5] (fun H => XS dC dI cI cD cR ad s0 B hi n d t day al nd bb oo K F kn nZ dZ tZ dayZ alZ ndZ bbZ ooZ KZ FZ knZ ke so zz el qk qf H ∧ Y H)) (LQ s0 (bif okI v1 8 && (okI v3 8 && (decide (ke (nT v1) = 2 ∧ ke (nT v3) = 2 ∧ so (nT v1) = so (nT v3)) && cpK (zz (nT v1)) (zz (nT v3)) v2 v4 v5)) then v5 else on1 (oN v1 8) (fun y1 => on1 (oN v3 8) (fun y2 => if ke y1 = 0 ∨ ke y2 = 0 then -11 else if ke y1 = 2 ∧ ke y2 = 2 ∧ so y1 = so y2 then -13 else -12) (-1)) (-1)) (fun H => XS dC dI cI cD cR ad s0 (B + 100) hi n d t day al nd bb oo K F kn nZ dZ tZ dayZ alZ ndZ bbZ ooZ KZ FZ knZ ke so zz (bif okI v1 8 && (okI v3 8 && (decide (ke (nT v1) = 2 ∧ ke (nT v3) = 2 ∧ so (nT v1) = so (nT v3)) && cpK (zz (nT v1)) (zz (nT v3)) v2 v4 v5)) then cpE el (100 * nT v1 + nT v2) (100 * nT v3 + nT v4) (nT v5) else el) qk qf H ∧ Y H)) 0 0 (fun q => s0 ≤ q) := by
  cases hc : okI v1 8 && (okI v3 8 && (decide (ke (nT v1) = 2 ∧ ke (nT v3) = 2 ∧ so (nT v1) = so (nT v3)) && cpK (zz (nT v1)) (zz (nT v3)) v2 v4 v5))
  · refine u_X11_copy_f l dC dI cI cD cR ad s0 B hA hB hi n d t day al nd bb oo K F kn nZ dZ tZ dayZ alZ ndZ bbZ ooZ KZ FZ knZ ke so zz el qk qf Y hY v1 v2 v3 v4 v5 (fun y1 y2 e1 e2 h1 h2 a1 a2 a3 => ?_)
    subst e1; subst e2
    rw [okI_nI (by omega) (by decide), decide_eq_true h1, okI_nI (by omega) (by decide), decide_eq_true h2, nT_nI (by omega), nT_nI (by omega), decide_eq_true ⟨a1, a2, a3⟩] at hc
    exact hc
  · simp only [Bool.and_eq_true] at hc
    obtain ⟨c1, c2, c3, c4⟩ := hc
    obtain ⟨y1, h1, rfl⟩ := okI_ex (by decide) c1
    obtain ⟨y2, h2, rfl⟩ := okI_ex (by decide) c2
    rw [nT_nI (show y1 < 2 ^ 31 by omega), nT_nI (show y2 < 2 ^ 31 by omega)] at c3 c4; rw [nT_nI (show y1 < 2 ^ 31 by omega), nT_nI (show y2 < 2 ^ 31 by omega)]
    obtain ⟨a1, a2, a3⟩ := of_decide_eq_true c3
    obtain ⟨i, j, n9, rfl, rfl, rfl, hi9, hj9⟩ := cp_nat (hzz9 y1) (hzz9 y2) c4
    have hz1 := hzz9 y1; have hz2 := hzz9 y2
    rw [nT_nI (show i < 2 ^ 31 by omega), nT_nI (show j < 2 ^ 31 by omega), nT_nI (show n9 < 2 ^ 31 by omega)]
    by_cases he : y1 = y2
    · exact u_X11_copy_s l dC dI cI cD cR ad s0 B hA hB hi n d t day al nd bb oo K F kn nZ dZ tZ dayZ alZ ndZ bbZ ooZ KZ FZ knZ ke so zz el qk qf Y hY y1 i y2 j n9 h1 h2 a1 a2 a3 hi9 hj9 he
    · exact u_X11_copy_d l dC dI cI cD cR ad s0 B hA hB hi n d t day al nd bb oo K F kn nZ dZ tZ dayZ alZ ndZ bbZ ooZ KZ FZ knZ ke so zz el qk qf Y hY y1 i y2 j n9 h1 h2 a1 a2 a3 hi9 hj9 he
set_option maxHeartbeats 4000000 in
set_option maxRecDepth 100000 in
theorem u_X12_copy_t (l : Launch) (dC : Nat → ClassId) (dI : Nat → Nat → Nat) (cI cD cR : ClassId) (cL : ClassId) (ad : Nat → Nat) (s0 B : Nat) (hA : AdD ad s0) (hB : B ≤ 60000) (hi : Bool) (n d t day al : Nat) (nd : Nat → Nat) (bb oo : Nat → Int32) (K F kn : Nat → Nat) (nZ dZ tZ dayZ alZ : Nat) (ndZ : Nat → Nat) (bbZ ooZ : Nat → Int32) (KZ FZ knZ : Nat → Nat) (ke so zz : Nat → Nat) (el qk qf : Nat → Int32) (X : Heap → Prop) (hX : XK ad X) (hC : CiI B n d t day al nd bb oo K F kn nZ dZ tZ dayZ alZ ndZ bbZ ooZ KZ FZ knZ ke so zz qk qf) (v1 : Nat) (v2 : Nat) (v3 : Nat) (v4 : Nat) (v5 : Nat) (hy1 : v1 < 8) (hy2 : v3 < 8) (hke1 : ke v1 = 2) (hke2 : ke v3 = 2) (hso12 : so v1 = so v3) (hi9 : v2 + v5 ≤ zz v1) (hj9 : v4 + v5 ≤ zz v3) : Met l yX12_copy wsX12_copy ({ frames := 9, cells := 0, slots := 0, locals := 340 }) (pcR dC dI cI cD cR [.ref (ad 25), .int (nI v1), .int (nI v2), .int (nI v3), .int (nI v4), .int (nI v5)] (fun H => X H ∧ MT dC dI cI cL ad hi n d t day al nd bb oo K F kn nZ dZ tZ dayZ alZ ndZ bbZ ooZ KZ FZ knZ ke so zz el qk qf H)) (LQ s0 (nI v5) (fun H => X H ∧ MT dC dI cI cL ad hi n d t day al nd bb oo K F kn nZ dZ tZ dayZ alZ ndZ bbZ ooZ KZ FZ knZ ke so zz (cpE el (100 * v1 + v2) (100 * v3 + v4) v5) qk qf H)) 0 0 (fun q => s0 ≤ q) := by
  refine met_cs (fun a s hs => ?_)
  obtain ⟨rfl, ⟨hXs, hM9⟩, hCX⟩ := hs
  have hM8 := hM9
  obtain ⟨th, ov, po, ba, en, se, nR, dR, tR, dayR, alR, ndR, bbR, ooR, KR, FR, knR, nM, dM, tM, dayM, alM, ndM, bbM, ooM, KM, FM, knM, nu, fe, ea, pr, hP⟩ := hM8
  have hC9 := hC
  obtain ⟨hWS, hWZ, hB1, hB2, gzz, gso, gke2, gkk⟩ := hC9
  have hn := hWS.1
  have hd := hWS.2.1
  have ht := ws_t9 hWS
  have hal : al < 64 := Nat.lt_of_lt_of_le hWS.2.2.2.1 (Nat.pow_le_pow_right (by decide) hd)
  have hday : day < 2 ^ 30 := by omega
  have gnd := hWS.2.2.2.2.1
  have gK := hWS.2.2.2.2.2.2.1
  have gF := hWS.2.2.2.2.2.2.2.1
  have gkn := hWS.2.2.2.2.2.2.2.2.1
  have hE : (MW cI cL ad hi th po ba en se n d t day al nd bb oo K F kn nZ dZ tZ dayZ alZ ndZ bbZ ooZ KZ FZ knZ nR dR tR dayR alR ndR bbR ooR KR FR knR nM dM tM dayM alM ndM bbM ooM KM FM knM ke so zz el qk qf nu fe ea pr ov).map Prod.fst = adL ad 25 16 := MW_ad cI cL ad hi th po ba en se n d t day al nd bb oo K F kn nZ dZ tZ dayZ alZ ndZ bbZ ooZ KZ FZ knZ nR dR tR dayR alR ndR bbR ooR KR FR knR nM dM tM dayM alM ndM bbM ooM KM FM knM ke so zz el qk qf nu fe ea pr ov
  have hPc := hP.sub (ws' := [((ad 25), .inr (12, [.ref (ad 26), .ref (ad 27), .ref (ad 28), .ref (ad 29), .ref (ad 30), .ref (ad 31), .ref (ad 32), .ref (ad 33), .ref (ad 34), .ref (ad 35), .int (bI hi), .int th, .int (nI po), .int (nI ba), .int (nI en), .ref (ad 36), .ref (ad 37), .ref (ad 38), .ref (ad 39), .int se]))] ++ [((ad 30), .inl (cI, 8, .inl (nF ke)))] ++ [((ad 31), .inl (cI, 8, .inl (nF so)))] ++ [((ad 32), .inl (cI, 8, .inl (nF zz)))] ++ [((ad 33), .inl (cI, 800, .inl el))]) [0, 5, 6, 7, 8] rfl
  have hD := ws_D hA hE (by omega)
  have hz := s0_le hA hP hE (by omega) (by omega)
  have hDc := hD.sub (ws' := [((ad 25), .inr (12, [.ref (ad 26), .ref (ad 27), .ref (ad 28), .ref (ad 29), .ref (ad 30), .ref (ad 31), .ref (ad 32), .ref (ad 33), .ref (ad 34), .ref (ad 35), .int (bI hi), .int th, .int (nI po), .int (nI ba), .int (nI en), .ref (ad 36), .ref (ad 37), .ref (ad 38), .ref (ad 39), .int se]))] ++ [((ad 30), .inl (cI, 8, .inl (nF ke)))] ++ [((ad 31), .inl (cI, 8, .inl (nF so)))] ++ [((ad 32), .inl (cI, 8, .inl (nF zz)))] ++ [((ad 33), .inl (cI, 800, .inl el))]) [0, 5, 6, 7, 8] (by decide) rfl
  refine ⟨_, _, _, _, _, _, c_X12_copy_t l dC dI cI cD cR (ad 25) (ad 26) (ad 27) (ad 28) (ad 29) (ad 30) (ad 31) (ad 32) (ad 33) (ad 34) (ad 35) hi th po ba en (ad 36) (ad 37) (ad 38) (ad 39) se ke so zz el v1 v2 v3 v4 v5 s.heap.size hy1 hy2 hke1 hke2 hso12 hi9 hj9 gzz gso gke2, ⟨by decide, by decide, by first | decide | (dsimp only; omega), by first | decide | (dsimp only; omega)⟩, ⟨by first | decide | (dsimp only; omega) | omega, by first | decide | (dsimp only; omega) | omega⟩, ⟨rfl, ⟨rfl, hPc, hDc⟩, hCX⟩, ?_, free_of hA (by omega) hE [0, 5, 6, 7, 8] rfl hz⟩
  rintro o T8 ⟨⟨r, u, ho, hr, hP1, hD1⟩, hF⟩
  have hP1 : va_P (dC, dI) vwCl ([((ad 25), .inr (12, [.ref (ad 26), .ref (ad 27), .ref (ad 28), .ref (ad 29), .ref (ad 30), .ref (ad 31), .ref (ad 32), .ref (ad 33), .ref (ad 34), .ref (ad 35), .int (bI hi), .int th, .int (nI po), .int (nI ba), .int (nI en), .ref (ad 36), .ref (ad 37), .ref (ad 38), .ref (ad 39), .int se]))] ++ [((ad 30), .inl (cI, 8, .inl (nF ke)))] ++ [((ad 31), .inl (cI, 8, .inl (nF so)))] ++ [((ad 32), .inl (cI, 8, .inl (nF zz)))] ++ [((ad 33), .inl (cI, 800, .inl (cpE el (100 * v1 + v2) (100 * v3 + v4) v5)))]) T8.heap := hP1
  have hfr := fr_of hE [0, 5, 6, 7, 8] rfl hF
  obtain ⟨hP2, -⟩ := va_join (wr := [((ad 26), .inl (cI, 53, .inl (sF n d t day al nd bb oo K F kn))), ((ad 27), .inl (cI, 53, .inl (sF nZ dZ tZ dayZ alZ ndZ bbZ ooZ KZ FZ knZ))), ((ad 28), .inl (cI, 53, .inl (sF nR dR tR dayR alR ndR bbR ooR KR FR knR))), ((ad 29), .inl (cI, 53, .inl (sF nM dM tM dayM alM ndM bbM ooM KM FM knM))), ((ad 34), .inl (cI, 8, .inl qk)), ((ad 35), .inl (cI, 8, .inl qf)), ((ad 36), .inl (cI, 2, .inl nu)), ((ad 37), .inl (cI, 512, .inl (oF fe))), ((ad 38), .inl (cI, 512, .inl (oF ea))), ((ad 39), .inl (cI, 512, .inl (oF pr))), (ad 40, .inl (cL, 1, .inr (.inl ov)))]) (w1 := [((ad 25), .inr (12, [.ref (ad 26), .ref (ad 27), .ref (ad 28), .ref (ad 29), .ref (ad 30), .ref (ad 31), .ref (ad 32), .ref (ad 33), .ref (ad 34), .ref (ad 35), .int (bI hi), .int th, .int (nI po), .int (nI ba), .int (nI en), .ref (ad 36), .ref (ad 37), .ref (ad 38), .ref (ad 39), .int se]))] ++ [((ad 30), .inl (cI, 8, .inl (nF ke)))] ++ [((ad 31), .inl (cI, 8, .inl (nF so)))] ++ [((ad 32), .inl (cI, 8, .inl (nF zz)))] ++ [((ad 33), .inl (cI, 800, .inl (cpE el (100 * v1 + v2) (100 * v3 + v4) v5)))]) hP hD [0, 5, 6, 7, 8] [1, 2, 3, 4, 9, 10, 11, 12, 13, 14, 15] rfl rfl (by decide) (by decide) hF.2 (fun _ _ => trivial) hP1 hD1
  have hP3 := hP2.sub (ws' := MW cI cL ad hi th po ba en se n d t day al nd bb oo K F kn nZ dZ tZ dayZ alZ ndZ bbZ ooZ KZ FZ knZ nR dR tR dayR alR ndR bbR ooR KR FR knR nM dM tM dayM alM ndM bbM ooM KM FM knM ke so zz (cpE el (100 * v1 + v2) (100 * v3 + v4) v5) qk qf nu fe ea pr ov) [11, 0, 1, 2, 3, 12, 13, 14, 15, 4, 5, 6, 7, 8, 9, 10] rfl
  clear hP1 hD1 hP2
  exact ⟨⟨r, (), ho, hr, hX _ _ hXs hF.1 (fun q hq hx => hfr q hq (fun j9 h8 h9 => hx j9 h8 (by omega))), th, ov, po, ba, en, se, nR, dR, tR, dayR, alR, ndR, bbR, ooR, KR, FR, knR, nM, dM, tM, dayM, alM, ndM, bbM, ooM, KM, FM, knM, nu, fe, ea, pr, hP3⟩, hF.1, fun q hq hno => hfr q hq (fun j9 _ hj9 z9 => hno (by rw [z9]; exact hA.2 j9 (by omega)))⟩
