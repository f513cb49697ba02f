theorem DP.go3 {dC : Nat → ClassId} {dI : Nat → Nat → Nat} {DL : List Nat} {kd fg : Nat → Nat} {H H1 : Heap} (h : DP dC dI DL kd fg H) (hfr : ∀ a ∈ DL, H1[a]? = H[a]?) : DP dC dI DL kd fg H1 := fun a ha => ⟨(h a ha).1.kept (fun i q hq => by
  have hz : i < 1 := (List.getElem?_eq_some_iff.mp hq).1
  have h0 : i = 0 := by omega
  subst h0
  cases hq
  exact hfr a ha), (h a ha).2⟩
theorem rp_k {dC : Nat → ClassId} {dI : Nat → Nat → Nat} {cI : ClassId} {RL : List Nat} {rc rs rz : Nat → Nat} {rf rf2 : Nat → Nat → Int32} {H H1 : Heap} (h : RP dC dI cI RL rc rs rz rf H) (hall : ∀ x ∈ RL, (va_P (dC, dI) vwCl [(x, .inr (8, [.int (nI (rs x)), .ref (rc x)])), (rc x, .inl (cI, rz x, .inl (rf2 x)))] H1) ∨ (rf2 x = rf x ∧ H1[x]? = H[x]? ∧ H1[rc x]? = H[rc x]?)) : RP dC dI cI RL rc rs rz rf2 H1 := fun x hx => ⟨by
  rcases hall x hx with q | ⟨q1, q2, q3⟩
  · exact q
  · rw [q1]
    refine (h x hx).1.kept (fun i q hq => ?_)
    have hz : i < 2 := (List.getElem?_eq_some_iff.mp hq).1
    rcases (show i = 0 ∨ i = 1 by omega) with rfl | rfl
    · cases hq; exact q2
    · cases hq; exact q3, (h x hx).2⟩
theorem cp_nat {z1 z2 : Nat} {i j n : Int32} (h1 : z1 ≤ 100) (h2 : z2 ≤ 100) (h : cpK z1 z2 i j n = true) : ∃ a b k : Nat, i = nI a ∧ j = nI b ∧ n = nI k ∧ a + k ≤ z1 ∧ b + k ≤ z2 := by
  have hst : ∀ {z : Nat} {i n : Int32}, z ≤ 100 → ¬ i < 0 → ¬ n < 0 → n ≤ nI z - i → ∃ a k : Nat, i = nI a ∧ n = nI k ∧ a + k ≤ z := by
    intro z i n hz hi hn hq
    obtain ⟨a, ha, rfl⟩ := nI_of hi
    obtain ⟨k, hk, rfl⟩ := nI_of hn
    refine ⟨a, k, rfl, rfl, ?_⟩
    rw [Int32.le_iff_toInt_le, nI_toInt hk, Int32.toInt_sub, nI_toInt ha, nI_toInt (show z < 2 ^ 31 by omega), Int.bmod_eq_of_le (by omega) (by omega)] at hq
    omega
  unfold cpK at h
  simp only [Bool.and_eq_true, Bool.not_eq_true', decide_eq_false_iff_not, decide_eq_true_eq] at h
  obtain ⟨b1, b2, b3, b4, b5⟩ := h
  obtain ⟨a, k, rfl, rfl, e1⟩ := hst h1 b2 b1 b4
  obtain ⟨b, k2, rfl, e3, e2⟩ := hst h2 b3 b1 b5
  have hk : k = k2 := (nI_eq (by omega) (by omega)).mp e3
  exact ⟨a, b, k, rfl, rfl, rfl, e1, by omega⟩
theorem r_schf {DL : List Nat} {kd fg : Nat → Nat} {RL : List Nat} {rs rz : Nat → Nat} {rf : Nat → Nat → Int32} {dm rm : Nat → Option Nat} {ke so zz : Nat → Nat} {el qk qf : Nat → Int32} (h : SH DL kd fg RL rs rz rf dm rm ke so zz el qk qf) (i : Int32) : on1 (oN i 8) (fun y => match rm y with | none => (bif (rm y).isNone && (dm y).isNone then -11 else -12) | some r => bif decide (rs r = 0) then (match fbE (atR (rz r) (rf r)) (rz r) 101 0 with | none => 0 | some p => -1000 - nI p) else -12) (-1) = on1 (oN i 8) (fun y9 => if wrR ke so y9 = 0 then (match fbE (hrG el (100 * y9) (zz y9)) (zz y9) 101 0 with | none => 0 | some p => -1000 - nI p) else wrR ke so y9) (-1) := by
  refine on1_cong (by decide) (fun y hy => ?_)
  by_cases hk : ke y = 2
  · obtain ⟨r, h1, h2, h3, h4, h5⟩ := h.ke2 hy hk
    rw [h1]
    show (bif decide (rs r = 0) then _ else _) = _
    by_cases hso : rs r = 0
    · have e : wrR ke so y = 0 := by unfold wrR; rw [if_neg (by omega), if_pos hk, if_pos (by rw [h3]; exact hso)]
      rw [decide_eq_true hso, cond_true, if_pos e, tx_fb (tx_of h5) 101 0, h4]
    · have e : wrR ke so y = -12 := by unfold wrR; rw [if_neg (by omega), if_pos hk, if_neg (by rw [h3]; exact hso)]
      rw [decide_eq_false hso, cond_false, e, if_neg (by decide)]
  · rw [h.norow hy hk]
    show (bif (none : Option Nat).isNone && (dm y).isNone then (-11 : Int32) else -12) = _
    have e := h.why hy
    rw [h.norow hy hk] at e
    rw [e]
    by_cases h0 : ke y = 0
    · have e : wrR ke so y = -11 := by unfold wrR; rw [if_pos h0]
      rw [e, if_neg (by decide), decide_eq_true h0]; rfl
    · have e : wrR ke so y = -12 := by unfold wrR; rw [if_neg h0, if_neg hk]
      rw [e, if_neg (by decide), decide_eq_false h0]; rfl
set_option maxHeartbeats 4000000 in
set_option maxRecDepth 100000 in
theorem u_X11_put_t (l : Launch) (dC : Nat → ClassId) (dI : Nat → Nat → Nat) (cI cD cR : ClassId) (ad : Nat → Nat) (s0 B : Nat) (hA : AdD ad s0) (hB : B ≤ 60000) (hi : Bool) (n d t day al : Nat) (nd : Nat → Nat) (bb oo : Nat → Int32) (K F kn : Nat → Nat) (nZ dZ tZ dayZ alZ : Nat) (ndZ : Nat → Nat) (bbZ ooZ : Nat → Int32) (KZ FZ knZ : Nat → Nat) (ke so zz : Nat → Nat) (el qk qf : Nat → Int32) (Y : Heap → Prop) (hY : YK ad Y) (v1 v2 : Nat) (v3 : Int32) (hy9 : v1 < 8) (hke : ke v1 = 2) (hi9 : v2 < zz v1) : Met l yX11_put wsX11_put ({ frames := 9, cells := 0, slots := 0, locals := 340 }) (pcR dC dI cI cD cR [.ref (ad 0), .int (nI v1), .int (nI v2), .int v3] (fun H => XS dC dI cI cD cR ad s0 B hi n d t day al nd bb oo K F kn nZ dZ tZ dayZ alZ ndZ bbZ ooZ KZ FZ knZ ke so zz el qk qf H ∧ Y H)) (LQ s0 (nI 0) (fun H => XS dC dI cI cD cR ad s0 (B + 100) hi n d t day al nd bb oo K F kn nZ dZ tZ dayZ alZ ndZ bbZ ooZ KZ FZ knZ ke so zz (upd el (100 * v1 + v2) (cutI (so v1) v3)) qk qf H ∧ Y H)) 0 0 (fun q => s0 ≤ q) := by
  refine met_cs (fun a s hs => ?_)
  obtain ⟨rfl, ⟨hX9, hYs⟩, hCX⟩ := hs
  have hX8 := hX9
  obtain ⟨hC, mk, si, mb, nM, dM, tM, dayM, alM, ndM, mkM, siM, knM, mbM, mkP, siP, mbP, sa, lk, ef, le, dm, rm, DL, kd, fg, RL, rc, rs, rz, rf, hP, hDP, hRP, hO, hRS, hRZ, hSH, hef, hlt⟩ := hX8
  have hC9 := hC
  obtain ⟨hWS, hWZ, hB1, hB2, gzz, gso, gke2, gkk⟩ := hC9
  have hn := hWS.1
  have hd := hWS.2.1
  have ht := ws_t9 hWS
  have hal : al < 64 := Nat.lt_of_lt_of_le hWS.2.2.2.1 (Nat.pow_le_pow_right (by decide) hd)
  have hday : day < 2 ^ 30 := by omega
  have gnd := hWS.2.2.2.2.1
  have gK := hWS.2.2.2.2.2.2.1
  have gF := hWS.2.2.2.2.2.2.2.1
  have gkn := hWS.2.2.2.2.2.2.2.2.1
  obtain ⟨r9, hrm_r9, -, hso9, hzz9, hel9⟩ := hSH.ke2 hy9 hke
  have hE : (XW cI cD cR ad hi n d t day al nd mk si kn mb nM dM tM dayM alM ndM mkM siM knM mbM nZ dZ tZ dayZ alZ ndZ mkP siP knZ mbP sa lk ef le dm rm).map Prod.fst = adL ad 0 25 := rfl
  have hz := s0_le hA hP hE (by omega) (by omega)
  have hR_r9 := hSH.2.1 _ _ hrm_r9
  obtain ⟨hPr_r9, hs3_r9, hz9_r9⟩ := hRP r9 hR_r9
  obtain ⟨ha_r9, hb_r9, hc_r9⟩ := hO.2.1 r9 hR_r9
  have hDr : va_D (fun _ => True) ([(r9, .inr (8, [.int (nI (rs r9)), .ref (rc r9)])), (rc r9, .inl (cI, rz r9, .inl (rf r9)))]) := row_D (hO.2.2.2.1 r9 hR_r9 r9 hR_r9)
  have hPr : va_P (dC, dI) vwCl ([(r9, .inr (8, [.int (nI (rs r9)), .ref (rc r9)])), (rc r9, .inl (cI, rz r9, .inl (rf r9)))]) s.heap := hPr_r9
  have hDw := D_app (ws := XW cI cD cR ad hi n d t day al nd mk si kn mb nM dM tM dayM alM ndM mkM siM knM mbM nZ dZ tZ dayZ alZ ndZ mkP siP knZ mbP sa lk ef le dm rm) hA hE (by omega) hDr (fun x hx j hj => by
    rcases List.mem_cons.mp hx with rfl | hx
    · exact (ha_r9 j hj).1
    · rcases List.mem_singleton.mp hx with rfl
      exact (ha_r9 j hj).2)
  have hPw := hP.app hPr
  have hPc := hPw.sub (ws' := [((ad 0), .inr (11, [.ref (ad 1), .ref (ad 7), .ref (ad 13), .int (bI hi), .ref (ad 19), .ref (ad 23), .ref (ad 24)]))] ++ [((ad 24), .inl (cR, 8, .inr (.inr (.inr (.inr rm)))))] ++ [(r9, .inr (8, [.int (nI (rs r9)), .ref (rc r9)])), (rc r9, .inl (cI, rz r9, .inl (rf r9)))]) [0, 24, 25, 26] rfl
  have hDc := hDw.sub (ws' := [((ad 0), .inr (11, [.ref (ad 1), .ref (ad 7), .ref (ad 13), .int (bI hi), .ref (ad 19), .ref (ad 23), .ref (ad 24)]))] ++ [((ad 24), .inl (cR, 8, .inr (.inr (.inr (.inr rm)))))] ++ [(r9, .inr (8, [.int (nI (rs r9)), .ref (rc r9)])), (rc r9, .inl (cI, rz r9, .inl (rf r9)))]) [0, 24, 25, 26] (by decide) rfl
  refine ⟨_, _, _, _, _, _, c_X11_put_t l dC dI cI cD cR (ad 0) (ad 1) (ad 7) (ad 13) hi (ad 19) (ad 23) (ad 24) rm r9 (rc r9) (rs r9) (rz r9) (rf r9) v1 v2 v3 s.heap.size hy9 hrm_r9 (by omega) hs3_r9 hz9_r9, ⟨by decide, by decide, by first | decide | (dsimp only; omega), by first | decide | (dsimp only; omega)⟩, ⟨by first | decide | omega, by first | decide | omega⟩, ⟨rfl, ⟨rfl, hPc, hDc⟩, hCX⟩, ?_, free_row (ws := XW cI cD cR ad hi n d t day al nd mk si kn mb nM dM tM dayM alM ndM mkM siM knM mbM nZ dZ tZ dayZ alZ ndZ mkP siP knZ mbP sa lk ef le dm rm) (rw9 := [(r9, .inr (8, [.int (nI (rs r9)), .ref (rc r9)])), (rc r9, .inl (cI, rz r9, .inl (rf r9)))]) hA (by omega) hE [0, 24, 25, 26] rfl hz (fun x hx => by
    rcases List.mem_cons.mp hx with rfl | hx
    · exact hb_r9
    · rcases List.mem_singleton.mp hx with rfl
      exact hc_r9)⟩
  rintro o T8 ⟨⟨r, u, ho, hr, hP1, hD1⟩, hF⟩
  have hP1 : va_P (dC, dI) vwCl ([((ad 0), .inr (11, [.ref (ad 1), .ref (ad 7), .ref (ad 13), .int (bI hi), .ref (ad 19), .ref (ad 23), .ref (ad 24)]))] ++ [((ad 24), .inl (cR, 8, .inr (.inr (.inr (.inr rm)))))] ++ [(r9, .inr (8, [.int (nI (rs r9)), .ref (rc r9)])), (rc r9, .inl (cI, rz r9, .inl ((upd (rf r9) v2 (cutI (rs r9) v3)))))]) T8.heap := hP1
  have hfr0 := fr_row (ws := XW cI cD cR ad hi n d t day al nd mk si kn mb nM dM tM dayM alM ndM mkM siM knM mbM nZ dZ tZ dayZ alZ ndZ mkP siP knZ mbP sa lk ef le dm rm) (rw9 := [(r9, .inr (8, [.int (nI (rs r9)), .ref (rc r9)])), (rc r9, .inl (cI, rz r9, .inl (rf r9)))]) hE [0, 24, 25, 26] rfl hF
  have hfr : ∀ q : Nat, q < s.heap.size → (∀ j, 0 ≤ j → j < 0 + 25 → q ≠ ad j) → q ≠ r9 → q ≠ rc r9 → T8.heap[q]? = s.heap[q]? := fun q hq h1 g1_r9 g2_r9 => hfr0 q hq h1 (fun x hx => by
    rcases List.mem_cons.mp hx with rfl | hx
    · exact g1_r9
    · rcases List.mem_singleton.mp hx with rfl
      exact g2_r9)
  obtain ⟨hP2, -⟩ := va_join (wr := (schW cI cD (ad 1) (ad 2) (ad 3) (ad 4) (ad 5) (ad 6) n d t al day nd mk si kn mb) ++ (schW cI cD (ad 7) (ad 8) (ad 9) (ad 10) (ad 11) (ad 12) nM dM tM alM dayM ndM mkM siM knM mbM) ++ (schW cI cD (ad 13) (ad 14) (ad 15) (ad 16) (ad 17) (ad 18) nZ dZ tZ alZ dayZ ndZ mkP siP knZ mbP) ++ (forW cI (ad 19) (ad 20) (ad 21) (ad 22) sa lk ef le) ++ [((ad 23), .inl (cD, 8, .inr (.inr (.inr (.inr dm)))))]) (w1 := [((ad 0), .inr (11, [.ref (ad 1), .ref (ad 7), .ref (ad 13), .int (bI hi), .ref (ad 19), .ref (ad 23), .ref (ad 24)]))] ++ [((ad 24), .inl (cR, 8, .inr (.inr (.inr (.inr rm)))))] ++ [(r9, .inr (8, [.int (nI (rs r9)), .ref (rc r9)])), (rc r9, .inl (cI, rz r9, .inl ((upd (rf r9) v2 (cutI (rs r9) v3)))))]) hPw hDw [0, 24, 25, 26] [1, 2, 3, 4, 5, 6, 7, 8, 9, 10, 11, 12, 13, 14, 15, 16, 17, 18, 19, 20, 21, 22, 23] rfl rfl (by decide) (by decide) hF.2 (fun _ _ => trivial) hP1 hD1
  have hP3 := hP2.sub (ws' := XW cI cD cR ad hi n d t day al nd mk si kn mb nM dM tM dayM alM ndM mkM siM knM mbM nZ dZ tZ dayZ alZ ndZ mkP siP knZ mbP sa lk ef le dm rm) [23, 0, 1, 2, 3, 4, 5, 6, 7, 8, 9, 10, 11, 12, 13, 14, 15, 16, 17, 18, 19, 20, 21, 22, 24] rfl
  have hQ_r9 := hP2.sub (ws' := [(r9, .inr (8, [.int (nI (rs r9)), .ref (rc r9)])), (rc r9, .inl (cI, rz r9, .inl ((upd (rf r9) v2 (cutI (rs r9) v3)))))]) [25, 26] rfl
  clear hP1 hD1 hP2 hPw hDw hPc hDc hPr hDr
  exact ⟨⟨r, (), ho, hr.trans (rfl), ⟨⟨hWS, hWZ, (by omega), (by omega), gzz, gso, gke2, gkk⟩, mk, si, mb, nM, dM, tM, dayM, alM, ndM, mkM, siM, knM, mbM, mkP, siP, mbP, sa, lk, ef, le, dm, rm, DL, kd, fg, RL, rc, rs, rz, (va_up rf r9 (upd (rf r9) v2 (cutI (rs r9) v3))), hP3, (hDP.go2 hO hR_r9 (fun q hq h1 h2 h3 => hfr q hq (fun j9 _ hj9 => h1 j9 (by omega)) h2 h3)), (rp_w hRP hO hR_r9 hQ_r9 (fun q hq h1 h2 h3 => hfr q hq (fun j9 _ hj9 => h1 j9 (by omega)) h2 h3)), hO, hRS, hRZ, (sh_w hSH (fun r8 hr8 => (hRP r8 hr8).2.2) hrm_r9 (fun i hi => by (by_cases he : i = v2); (subst he; rw [up_e, up_e, hso9]); (rw [up_n he, up_n (by omega)]; exact hel9 i hi)) (fun j i hj hi => up_n (by omega))), hef, fun j9 hj9 => Nat.lt_of_lt_of_le (hlt j9 hj9) hF.1⟩, hY _ _ hYs hF.1 (fun q hq hx => by obtain ⟨i9, g1, g2, g3⟩ := hx; exact hfr q hq (fun j9 h8 h9 z9 => by have := hA.1 i9 j9 g2 (by omega) (g3.symm.trans z9); omega) (fun z9 => (ha_r9 i9 g2).1 (z9.symm.trans g3)) (fun z9 => (ha_r9 i9 g2).2 (z9.symm.trans g3)))⟩, hF.1, fun q hq hno => hfr q hq (fun j9 _ hj9 z9 => hno (by rw [z9]; exact hA.2 j9 (by omega))) (fun z9 => hno (by rw [z9]; exact hb_r9)) (fun z9 => hno (by rw [z9]; exact hc_r9))⟩
set_option maxHeartbeats 4000000 in
set_option maxRecDepth 100000 in
theorem u_X11_put_f (l : Launch) (dC : Nat → ClassId) (dI : Nat → Nat → Nat) (cI cD cR : ClassId) (ad : Nat → Nat) (s0 B : Nat) (hA : AdD ad s0) (hB : B ≤ 60000) (hi : Bool) (n d t day al : Nat) (nd : Nat → Nat) (bb oo : Nat → Int32) (K F kn : Nat → Nat) (nZ dZ tZ dayZ alZ : Nat) (ndZ : Nat → Nat) (bbZ ooZ : Nat → Int32) (KZ FZ knZ : Nat → Nat) (ke so zz : Nat → Nat) (el qk qf : Nat → Int32) (Y : Heap → Prop) (hY : YK ad Y) (v1 : Int32) (v2 : Int32) (v3 : Int32) (hno9 : ∀ y, v1 = nI y → y < 8 → ke y = 2 → okI v2 (zz y) = false) : Met l yX11_put wsX11_put ({ frames := 9, cells := 0, slots := 0, locals := 340 }) (pcR dC dI cI cD cR [.ref (ad 0), .int v1, .int v2, .int v3] (fun H => XS dC dI cI cD cR ad s0 B hi n d t day al nd bb oo K F kn nZ dZ tZ dayZ alZ ndZ bbZ ooZ KZ FZ knZ ke so zz el qk qf H ∧ Y H)) (LQ s0 (on1 (oN v1 8) (fun y9 => if wrS ke y9 = 0 then -13 else wrS ke y9) (-1)) (fun H => XS dC dI cI cD cR ad s0 (B + 100) hi n d t day al nd bb oo K F kn nZ dZ tZ dayZ alZ ndZ bbZ ooZ KZ FZ knZ ke so zz el qk qf H ∧ Y H)) 0 0 (fun q => s0 ≤ q) := by
  refine met_cs (fun a s hs => ?_)
  obtain ⟨rfl, ⟨hX9, hYs⟩, hCX⟩ := hs
  have hX8 := hX9
  obtain ⟨hC, mk, si, mb, nM, dM, tM, dayM, alM, ndM, mkM, siM, knM, mbM, mkP, siP, mbP, sa, lk, ef, le, dm, rm, DL, kd, fg, RL, rc, rs, rz, rf, hP, hDP, hRP, hO, hRS, hRZ, hSH, hef, hlt⟩ := hX8
  have hC9 := hC
  obtain ⟨hWS, hWZ, hB1, hB2, gzz, gso, gke2, gkk⟩ := hC9
  have hn := hWS.1
  have hd := hWS.2.1
  have ht := ws_t9 hWS
  have hal : al < 64 := Nat.lt_of_lt_of_le hWS.2.2.2.1 (Nat.pow_le_pow_right (by decide) hd)
  have hday : day < 2 ^ 30 := by omega
  have gnd := hWS.2.2.2.2.1
  have gK := hWS.2.2.2.2.2.2.1
  have gF := hWS.2.2.2.2.2.2.2.1
  have gkn := hWS.2.2.2.2.2.2.2.2.1
  have hkk : ∀ a9 ∈ DL, kd a9 < 8 ∧ fg a9 < 10 := fun a9 ha9 => (hDP a9 ha9).2
  have hno : ∀ y r9, v1 = nI y → y < 8 → rm y = some r9 → okI v2 (rz r9) = false := fun y r9 e hy hr9 => by obtain ⟨h1, -, -, h2, -⟩ := hSH.row hy hr9; have h3 := hno9 y e hy h1; rw [h2] at h3; exact h3
  have hE : (XW cI cD cR ad hi n d t day al nd mk si kn mb nM dM tM dayM alM ndM mkM siM knM mbM nZ dZ tZ dayZ alZ ndZ mkP siP knZ mbP sa lk ef le dm rm).map Prod.fst = adL ad 0 25 := rfl
  have hPc := hP.sub (ws' := [((ad 0), .inr (11, [.ref (ad 1), .ref (ad 7), .ref (ad 13), .int (bI hi), .ref (ad 19), .ref (ad 23), .ref (ad 24)]))] ++ [((ad 23), .inl (cD, 8, .inr (.inr (.inr (.inr dm)))))] ++ [((ad 24), .inl (cR, 8, .inr (.inr (.inr (.inr rm)))))]) [0, 23, 24] rfl
  refine ⟨_, _, _, _, _, _, c_X11_put_f l dC dI cI cD cR (ad 0) (ad 1) (ad 7) (ad 13) hi (ad 19) (ad 23) (ad 24) dm rm v1 v2 v3 RL rc rs rz rf hSH.2.1 hno, ⟨by decide, by decide, by first | decide | exact Nat.zero_le _, by first | decide | exact Nat.zero_le _⟩, ⟨Nat.zero_le _, Nat.zero_le _⟩, ⟨rfl, ⟨hPc, hRP⟩, hCX⟩, ?_, fun q hq => hq.elim⟩
  rintro o t ⟨r, ho, hr, hh⟩
  exact ⟨⟨r, (), ho, hr.trans (r_putf hSH _), by first | (rw [hh]; exact ⟨hX9.mono (by omega), hYs⟩) | (simp only [hh]; exact ⟨hX9.mono (by omega), hYs⟩)⟩, by rw [hh]; exact Nat.le_refl _, fun q _ _ => by rw [hh]⟩
set_option maxHeartbeats 4000000 in
set_option maxRecDepth 100000 in
theorem u_X11_put (l : Launch) (dC : Nat → ClassId) (dI : Nat → Nat → Nat) (cI cD cR : ClassId) (ad : Nat → Nat) (s0 B : Nat) (hA : AdD ad s0) (hB : B ≤ 60000) (hi : Bool) (n d t day al : Nat) (nd : Nat → Nat) (bb oo : Nat → Int32) (K F kn : Nat → Nat) (nZ dZ tZ dayZ alZ : Nat) (ndZ : Nat → Nat) (bbZ ooZ : Nat → Int32) (KZ FZ knZ : Nat → Nat) (ke so zz : Nat → Nat) (el qk qf : Nat → Int32) (Y : Heap → Prop) (hY : YK ad Y) (v1 v2 v3 : Int32) (hzz9 : ∀ j, zz j ≤ 100) : Met l yX11_put wsX11_put ({ frames := 9, cells := 0, slots := 0, locals := 340 }) (pcR dC dI cI cD cR [.ref (ad 0), .int v1, .int v2, .int v3] (fun H => XS dC dI cI cD cR ad s0 B hi n d t day al nd bb oo K F kn nZ dZ tZ dayZ alZ ndZ bbZ ooZ KZ FZ knZ ke so zz el qk qf H ∧ Y H)) (LQ s0 (on1 (oN v1 8) (fun y9 => if wrS ke y9 = 0 then (bif okI v2 (zz y9) then 0 else -13) else wrS ke y9) (-1)) (fun H => XS dC dI cI cD cR ad s0 (B + 100) hi n d t day al nd bb oo K F kn nZ dZ tZ dayZ alZ ndZ bbZ ooZ KZ FZ knZ ke so zz (bif okI v1 8 && (decide (ke (nT v1) = 2) && okI v2 (zz (nT v1))) then upd el (100 * nT v1 + nT v2) (cutI (so (nT v1)) v3) else el) qk qf H ∧ Y H)) 0 0 (fun q => s0 ≤ q) := by
  have hf := fun hno => u_X11_put_f l dC dI cI cD cR ad s0 B hA hB hi n d t day al nd bb oo K F kn nZ dZ tZ dayZ alZ ndZ bbZ ooZ KZ FZ knZ ke so zz el qk qf Y hY v1 v2 v3 hno
  rcases okI_or v1 (n := 8) (by decide) with q1 | ⟨y, hy, rfl⟩
  · rw [oN_f q1] at hf ⊢; rw [q1]; exact hf (fun y e hy => by subst e; rw [okI_nI (by omega) (by decide)] at q1; exact absurd hy (of_decide_eq_false q1))
  · rw [oN_t hy] at hf ⊢; rw [okI_nI (by omega) (by decide), decide_eq_true hy, Bool.true_and, nT_nI (by omega)]; rw [on1_s] at hf ⊢
    have hy9 : ∀ y2, nI y = nI y2 → y2 < 8 → y = y2 := fun y2 e h2 => (nI_eq (by omega) (by omega)).mp e
    by_cases hk : ke y = 2
    · rw [decide_eq_true hk, Bool.true_and]
      have e0 : wrS ke y = 0 := wS_2e hk
      rw [e0, if_pos rfl] at hf; rw [e0, if_pos rfl]
      by_cases hq2 : okI v2 (zz y) = true
      · by_cases hzz : zz y < 2 ^ 31
        · obtain ⟨i, hi9, rfl⟩ := okI_ex hzz hq2
          rw [hq2, nT_nI (by omega)]; exact u_X11_put_t l dC dI cI cD cR ad s0 B hA hB hi n d t day al nd bb oo K F kn nZ dZ tZ dayZ alZ ndZ bbZ ooZ KZ FZ knZ ke so zz el qk qf Y hY y i v3 hy hk hi9
        · exact absurd hq2 (fun _ => hzz (by have := hzz9 y; omega))
      · rw [Bool.not_eq_true] at hq2; rw [hq2]; exact hf (fun y2 e h2 _ => by rw [← hy9 y2 e h2]; exact hq2)
    · rw [decide_eq_false hk, Bool.false_and, cond_false]
      have e0 : ¬ wrS ke y = 0 := by (unfold wrS; rw [if_neg hk]; split <;> decide)
      rw [if_neg e0] at hf; rw [if_neg e0]
      exact hf (fun y2 e h2 h3 => by rw [← hy9 y2 e h2] at h3; exact absurd h3 hk)
set_option maxHeartbeats 4000000 in
set_option maxRecDepth 100000 in
set_option maxHeartbeats 4000000 in
set_option maxRecDepth 100000 in
theorem u_X12_put_t (l : Launch) (dC : Nat → ClassId) (dI : Nat → Nat → Nat) (cI cD cR : ClassId) (cL : ClassId) (ad : Nat → Nat) (s0 B : Nat) (hA : AdD ad s0) (hB : B ≤ 60000) (hi : Bool) (n d t day al : Nat) (nd : Nat → Nat) (bb oo : Nat → Int32) (K F kn : Nat → Nat) (nZ dZ tZ dayZ alZ : Nat) (ndZ : Nat → Nat) (bbZ ooZ : Nat → Int32) (KZ FZ knZ : Nat → Nat) (ke so zz : Nat → Nat) (el qk qf : Nat → Int32) (X : Heap → Prop) (hX : XK ad X) (hC : CiI B n d t day al nd bb oo K F kn nZ dZ tZ dayZ alZ ndZ bbZ ooZ KZ FZ knZ ke so zz qk qf) (v1 : Nat) (v2 : Nat) (v3 : Int32) (hy9 : v1 < 8) (hke9 : ke v1 = 2) (hi9 : v2 < zz v1) : Met l yX12_put wsX12_put ({ frames := 9, cells := 0, slots := 0, locals := 340 }) (pcR dC dI cI cD cR [.ref (ad 25), .int (nI v1), .int (nI v2), .int v3] (fun H => X H ∧ MT dC dI cI cL ad hi n d t day al nd bb oo K F kn nZ dZ tZ dayZ alZ ndZ bbZ ooZ KZ FZ knZ ke so zz el qk qf H)) (LQ s0 (nI 0) (fun H => X H ∧ MT dC dI cI cL ad hi n d t day al nd bb oo K F kn nZ dZ tZ dayZ alZ ndZ bbZ ooZ KZ FZ knZ ke so zz (upd el (100 * v1 + v2) (cutI (so v1) v3)) qk qf H)) 0 0 (fun q => s0 ≤ q) := by
  refine met_cs (fun a s hs => ?_)
  obtain ⟨rfl, ⟨hXs, hM9⟩, hCX⟩ := hs
  have hM8 := hM9
  obtain ⟨th, ov, po, ba, en, se, nR, dR, tR, dayR, alR, ndR, bbR, ooR, KR, FR, knR, nM, dM, tM, dayM, alM, ndM, bbM, ooM, KM, FM, knM, nu, fe, ea, pr, hP⟩ := hM8
  have hC9 := hC
  obtain ⟨hWS, hWZ, hB1, hB2, gzz, gso, gke2, gkk⟩ := hC9
  have hn := hWS.1
  have hd := hWS.2.1
  have ht := ws_t9 hWS
  have hal : al < 64 := Nat.lt_of_lt_of_le hWS.2.2.2.1 (Nat.pow_le_pow_right (by decide) hd)
  have hday : day < 2 ^ 30 := by omega
  have gnd := hWS.2.2.2.2.1
  have gK := hWS.2.2.2.2.2.2.1
  have gF := hWS.2.2.2.2.2.2.2.1
  have gkn := hWS.2.2.2.2.2.2.2.2.1
  have hE : (MW cI cL ad hi th po ba en se n d t day al nd bb oo K F kn nZ dZ tZ dayZ alZ ndZ bbZ ooZ KZ FZ knZ nR dR tR dayR alR ndR bbR ooR KR FR knR nM dM tM dayM alM ndM bbM ooM KM FM knM ke so zz el qk qf nu fe ea pr ov).map Prod.fst = adL ad 25 16 := MW_ad cI cL ad hi th po ba en se n d t day al nd bb oo K F kn nZ dZ tZ dayZ alZ ndZ bbZ ooZ KZ FZ knZ nR dR tR dayR alR ndR bbR ooR KR FR knR nM dM tM dayM alM ndM bbM ooM KM FM knM ke so zz el qk qf nu fe ea pr ov
  have hPc := hP.sub (ws' := [((ad 25), .inr (12, [.ref (ad 26), .ref (ad 27), .ref (ad 28), .ref (ad 29), .ref (ad 30), .ref (ad 31), .ref (ad 32), .ref (ad 33), .ref (ad 34), .ref (ad 35), .int (bI hi), .int th, .int (nI po), .int (nI ba), .int (nI en), .ref (ad 36), .ref (ad 37), .ref (ad 38), .ref (ad 39), .int se]))] ++ [((ad 30), .inl (cI, 8, .inl (nF ke)))] ++ [((ad 31), .inl (cI, 8, .inl (nF so)))] ++ [((ad 32), .inl (cI, 8, .inl (nF zz)))] ++ [((ad 33), .inl (cI, 800, .inl el))]) [0, 5, 6, 7, 8] rfl
  have hD := ws_D hA hE (by omega)
  have hz := s0_le hA hP hE (by omega) (by omega)
  have hDc := hD.sub (ws' := [((ad 25), .inr (12, [.ref (ad 26), .ref (ad 27), .ref (ad 28), .ref (ad 29), .ref (ad 30), .ref (ad 31), .ref (ad 32), .ref (ad 33), .ref (ad 34), .ref (ad 35), .int (bI hi), .int th, .int (nI po), .int (nI ba), .int (nI en), .ref (ad 36), .ref (ad 37), .ref (ad 38), .ref (ad 39), .int se]))] ++ [((ad 30), .inl (cI, 8, .inl (nF ke)))] ++ [((ad 31), .inl (cI, 8, .inl (nF so)))] ++ [((ad 32), .inl (cI, 8, .inl (nF zz)))] ++ [((ad 33), .inl (cI, 800, .inl el))]) [0, 5, 6, 7, 8] (by decide) rfl
  refine ⟨_, _, _, _, _, _, c_X12_put_t l dC dI cI cD cR (ad 25) (ad 26) (ad 27) (ad 28) (ad 29) (ad 30) (ad 31) (ad 32) (ad 33) (ad 34) (ad 35) hi th po ba en (ad 36) (ad 37) (ad 38) (ad 39) se ke so zz el v1 v2 v3 s.heap.size hy9 hke9 hi9 gzz gso gke2, ⟨by decide, by decide, by first | decide | (dsimp only; omega), by first | decide | (dsimp only; omega)⟩, ⟨by first | decide | (dsimp only; omega) | omega, by first | decide | (dsimp only; omega) | omega⟩, ⟨rfl, ⟨rfl, hPc, hDc⟩, hCX⟩, ?_, free_of hA (by omega) hE [0, 5, 6, 7, 8] rfl hz⟩
  rintro o T8 ⟨⟨r, u, ho, hr, hP1, hD1⟩, hF⟩
  have hP1 : va_P (dC, dI) vwCl ([((ad 25), .inr (12, [.ref (ad 26), .ref (ad 27), .ref (ad 28), .ref (ad 29), .ref (ad 30), .ref (ad 31), .ref (ad 32), .ref (ad 33), .ref (ad 34), .ref (ad 35), .int (bI hi), .int th, .int (nI po), .int (nI ba), .int (nI en), .ref (ad 36), .ref (ad 37), .ref (ad 38), .ref (ad 39), .int se]))] ++ [((ad 30), .inl (cI, 8, .inl (nF ke)))] ++ [((ad 31), .inl (cI, 8, .inl (nF so)))] ++ [((ad 32), .inl (cI, 8, .inl (nF zz)))] ++ [((ad 33), .inl (cI, 800, .inl (upd el (100 * v1 + v2) (cutI (so v1) v3))))]) T8.heap := hP1
  have hfr := fr_of hE [0, 5, 6, 7, 8] rfl hF
  obtain ⟨hP2, -⟩ := va_join (wr := [((ad 26), .inl (cI, 53, .inl (sF n d t day al nd bb oo K F kn))), ((ad 27), .inl (cI, 53, .inl (sF nZ dZ tZ dayZ alZ ndZ bbZ ooZ KZ FZ knZ))), ((ad 28), .inl (cI, 53, .inl (sF nR dR tR dayR alR ndR bbR ooR KR FR knR))), ((ad 29), .inl (cI, 53, .inl (sF nM dM tM dayM alM ndM bbM ooM KM FM knM))), ((ad 34), .inl (cI, 8, .inl qk)), ((ad 35), .inl (cI, 8, .inl qf)), ((ad 36), .inl (cI, 2, .inl nu)), ((ad 37), .inl (cI, 512, .inl (oF fe))), ((ad 38), .inl (cI, 512, .inl (oF ea))), ((ad 39), .inl (cI, 512, .inl (oF pr))), (ad 40, .inl (cL, 1, .inr (.inl ov)))]) (w1 := [((ad 25), .inr (12, [.ref (ad 26), .ref (ad 27), .ref (ad 28), .ref (ad 29), .ref (ad 30), .ref (ad 31), .ref (ad 32), .ref (ad 33), .ref (ad 34), .ref (ad 35), .int (bI hi), .int th, .int (nI po), .int (nI ba), .int (nI en), .ref (ad 36), .ref (ad 37), .ref (ad 38), .ref (ad 39), .int se]))] ++ [((ad 30), .inl (cI, 8, .inl (nF ke)))] ++ [((ad 31), .inl (cI, 8, .inl (nF so)))] ++ [((ad 32), .inl (cI, 8, .inl (nF zz)))] ++ [((ad 33), .inl (cI, 800, .inl (upd el (100 * v1 + v2) (cutI (so v1) v3))))]) hP hD [0, 5, 6, 7, 8] [1, 2, 3, 4, 9, 10, 11, 12, 13, 14, 15] rfl rfl (by decide) (by decide) hF.2 (fun _ _ => trivial) hP1 hD1
  have hP3 := hP2.sub (ws' := MW cI cL ad hi th po ba en se n d t day al nd bb oo K F kn nZ dZ tZ dayZ alZ ndZ bbZ ooZ KZ FZ knZ nR dR tR dayR alR ndR bbR ooR KR FR knR nM dM tM dayM alM ndM bbM ooM KM FM knM ke so zz (upd el (100 * v1 + v2) (cutI (so v1) v3)) qk qf nu fe ea pr ov) [11, 0, 1, 2, 3, 12, 13, 14, 15, 4, 5, 6, 7, 8, 9, 10] rfl
  clear hP1 hD1 hP2
  exact ⟨⟨r, (), ho, hr, hX _ _ hXs hF.1 (fun q hq hx => hfr q hq (fun j9 h8 h9 => hx j9 h8 (by omega))), th, ov, po, ba, en, se, nR, dR, tR, dayR, alR, ndR, bbR, ooR, KR, FR, knR, nM, dM, tM, dayM, alM, ndM, bbM, ooM, KM, FM, knM, nu, fe, ea, pr, hP3⟩, hF.1, fun q hq hno => hfr q hq (fun j9 _ hj9 z9 => hno (by rw [z9]; exact hA.2 j9 (by omega)))⟩
set_option maxHeartbeats 4000000 in
set_option maxRecDepth 100000 in
theorem u_X12_put_f (l : Launch) (dC : Nat → ClassId) (dI : Nat → Nat → Nat) (cI cD cR : ClassId) (cL : ClassId) (ad : Nat → Nat) (s0 B : Nat) (hA : AdD ad s0) (hB : B ≤ 60000) (hi : Bool) (n d t day al : Nat) (nd : Nat → Nat) (bb oo : Nat → Int32) (K F kn : Nat → Nat) (nZ dZ tZ dayZ alZ : Nat) (ndZ : Nat → Nat) (bbZ ooZ : Nat → Int32) (KZ FZ knZ : Nat → Nat) (ke so zz : Nat → Nat) (el qk qf : Nat → Int32) (X : Heap → Prop) (hX : XK ad X) (hC : CiI B n d t day al nd bb oo K F kn nZ dZ tZ dayZ alZ ndZ bbZ ooZ KZ FZ knZ ke so zz qk qf) (v1 : Int32) (v2 : Int32) (v3 : Int32) (hno : ∀ y, v1 = nI y → y < 8 → ke y = 2 → okI v2 (zz y) = false) : Met l yX12_put wsX12_put ({ frames := 9, cells := 0, slots := 0, locals := 340 }) (pcR dC dI cI cD cR [.ref (ad 25), .int v1, .int v2, .int v3] (fun H => X H ∧ MT dC dI cI cL ad hi n d t day al nd bb oo K F kn nZ dZ tZ dayZ alZ ndZ bbZ ooZ KZ FZ knZ ke so zz el qk qf H)) (LQ s0 ((on1 (oN v1 8) (fun y9 => if wrS ke y9 = 0 then -13 else wrS ke y9) (-1))) (fun H => X H ∧ MT dC dI cI cL ad hi n d t day al nd bb oo K F kn nZ dZ tZ dayZ alZ ndZ bbZ ooZ KZ FZ knZ ke so zz el qk qf H)) 0 0 (fun q => s0 ≤ q) := by
  refine met_cs (fun a s hs => ?_)
  obtain ⟨rfl, ⟨hXs, hM9⟩, hCX⟩ := hs
  have hM8 := hM9
  obtain ⟨th, ov, po, ba, en, se, nR, dR, tR, dayR, alR, ndR, bbR, ooR, KR, FR, knR, nM, dM, tM, dayM, alM, ndM, bbM, ooM, KM, FM, knM, nu, fe, ea, pr, hP⟩ := hM8
  have hC9 := hC
  obtain ⟨hWS, hWZ, hB1, hB2, gzz, gso, gke2, gkk⟩ := hC9
  have hn := hWS.1
  have hd := hWS.2.1
  have ht := ws_t9 hWS
  have hal : al < 64 := Nat.lt_of_lt_of_le hWS.2.2.2.1 (Nat.pow_le_pow_right (by decide) hd)
  have hday : day < 2 ^ 30 := by omega
  have gnd := hWS.2.2.2.2.1
  have gK := hWS.2.2.2.2.2.2.1
  have gF := hWS.2.2.2.2.2.2.2.1
  have gkn := hWS.2.2.2.2.2.2.2.2.1
  have hE : (MW cI cL ad hi th po ba en se n d t day al nd bb oo K F kn nZ dZ tZ dayZ alZ ndZ bbZ ooZ KZ FZ knZ nR dR tR dayR alR ndR bbR ooR KR FR knR nM dM tM dayM alM ndM bbM ooM KM FM knM ke so zz el qk qf nu fe ea pr ov).map Prod.fst = adL ad 25 16 := MW_ad cI cL ad hi th po ba en se n d t day al nd bb oo K F kn nZ dZ tZ dayZ alZ ndZ bbZ ooZ KZ FZ knZ nR dR tR dayR alR ndR bbR ooR KR FR knR nM dM tM dayM alM ndM bbM ooM KM FM knM ke so zz el qk qf nu fe ea pr ov
  have hPc := hP.sub (ws' := [((ad 25), .inr (12, [.ref (ad 26), .ref (ad 27), .ref (ad 28), .ref (ad 29), .ref (ad 30), .ref (ad 31), .ref (ad 32), .ref (ad 33), .ref (ad 34), .ref (ad 35), .int (bI hi), .int th, .int (nI po), .int (nI ba), .int (nI en), .ref (ad 36), .ref (ad 37), .ref (ad 38), .ref (ad 39), .int se]))] ++ [((ad 30), .inl (cI, 8, .inl (nF ke)))] ++ [((ad 31), .inl (cI, 8, .inl (nF so)))] ++ [((ad 32), .inl (cI, 8, .inl (nF zz)))]) [0, 5, 6, 7] rfl
  refine ⟨_, _, _, _, _, _, c_X12_put_f l dC dI cI cD cR (ad 25) (ad 26) (ad 27) (ad 28) (ad 29) (ad 30) (ad 31) (ad 32) (ad 33) (ad 34) (ad 35) hi th po ba en (ad 36) (ad 37) (ad 38) (ad 39) se ke so zz v1 v2 v3 gzz gso gke2 hno, ⟨by decide, by decide, by first | decide | exact Nat.zero_le _, by first | decide | exact Nat.zero_le _⟩, ⟨Nat.zero_le _, Nat.zero_le _⟩, ⟨rfl, hPc, hCX⟩, ?_, fun q hq => hq.elim⟩
  rintro o t ⟨r, ho, hr, hh⟩
  exact ⟨⟨r, (), ho, hr, by first | (rw [hh]; exact ⟨hXs, hM9⟩) | (simp only [hh]; exact ⟨hXs, hM9⟩)⟩, by rw [hh]; exact Nat.le_refl _, fun q _ _ => by rw [hh]⟩
set_option maxHeartbeats 4000000 in
set_option maxRecDepth 100000 in
theorem u_X12_put (l : Launch) (dC : Nat → ClassId) (dI : Nat → Nat → Nat) (cI cD cR : ClassId) (cL : ClassId) (ad : Nat → Nat) (s0 B : Nat) (hA : AdD ad s0) (hB : B ≤ 60000) (hi : Bool) (n d t day al : Nat) (nd : Nat → Nat) (bb oo : Nat → Int32) (K F kn : Nat → Nat) (nZ dZ tZ dayZ alZ : Nat) (ndZ : Nat → Nat) (bbZ ooZ : Nat → Int32) (KZ FZ knZ : Nat → Nat) (ke so zz : Nat → Nat) (el qk qf : Nat → Int32) (X : Heap → Prop) (hX : XK ad X) (hC : CiI B n d t day al nd bb oo K F kn nZ dZ tZ dayZ alZ ndZ bbZ ooZ KZ FZ knZ ke so zz qk qf) (v1 v2 v3 : Int32) : Met l yX12_put wsX12_put ({ frames := 9, cells := 0, slots := 0, locals := 340 }) (pcR dC dI cI cD cR [.ref (ad 25), .int v1, .int v2, .int v3] (fun H => X H ∧ MT dC dI cI cL ad hi n d t day al nd bb oo K F kn nZ dZ tZ dayZ alZ ndZ bbZ ooZ KZ FZ knZ ke so zz el qk qf H)) (LQ s0 (on1 (oN v1 8) (fun y9 => if wrS ke y9 = 0 then (bif okI v2 (zz y9) then 0 else -13) else wrS ke y9) (-1)) (fun H => X H ∧ MT dC dI cI cL ad hi n d t day al nd bb oo K F kn nZ dZ tZ dayZ alZ ndZ bbZ ooZ KZ FZ knZ ke so zz (bif okI v1 8 && (decide (ke (nT v1) = 2) && okI v2 (zz (nT v1))) then upd el (100 * nT v1 + nT v2) (cutI (so (nT v1)) v3) else el) qk qf H)) 0 0 (fun q => s0 ≤ q) := by
  have hf := fun hno => u_X12_put_f l dC dI cI cD cR cL ad s0 B hA hB hi n d t day al nd bb oo K F kn nZ dZ tZ dayZ alZ ndZ bbZ ooZ KZ FZ knZ ke so zz el qk qf X hX hC v1 v2 v3 hno
  rcases okI_or v1 (n := 8) (by decide) with q1 | ⟨y, hy, rfl⟩
  · rw [oN_f q1] at hf ⊢; rw [q1]; exact hf (fun y e hy => by subst e; rw [okI_nI (by omega) (by decide)] at q1; exact absurd hy (of_decide_eq_false q1))
  · rw [oN_t hy] at hf ⊢; rw [okI_nI (by omega) (by decide), decide_eq_true hy, Bool.true_and, nT_nI (by omega)]; rw [on1_s] at hf ⊢
    have hy9 : ∀ y2, nI y = nI y2 → y2 < 8 → y = y2 := fun y2 e h2 => (nI_eq (by omega) (by omega)).mp e
    by_cases hk : ke y = 2
    · rw [decide_eq_true hk, Bool.true_and]
      have e0 : wrS ke y = 0 := wS_2e hk
      rw [e0, if_pos rfl] at hf; rw [e0, if_pos rfl]
      rcases okI_or v2 (n := zz y) (by obtain ⟨-, -, -, -, h5, -⟩ := hC; have := h5 y; omega) with q2 | ⟨i, hi9, rfl⟩
      · rw [q2]; exact hf (fun y2 e h2 _ => by rw [← hy9 y2 e h2]; exact q2)
      · rw [nT_nI (by obtain ⟨-, -, -, -, h5, -⟩ := hC; have := h5 y; omega), okI_nI (by obtain ⟨-, -, -, -, h5, -⟩ := hC; have := h5 y; omega) (by obtain ⟨-, -, -, -, h5, -⟩ := hC; have := h5 y; omega), decide_eq_true hi9]; exact u_X12_put_t l dC dI cI cD cR cL ad s0 B hA hB hi n d t day al nd bb oo K F kn nZ dZ tZ dayZ alZ ndZ bbZ ooZ KZ FZ knZ ke so zz el qk qf X hX hC y i v3 hy hk hi9
    · rw [decide_eq_false hk, Bool.false_and, cond_false]
      have e0 : ¬ wrS ke y = 0 := by (unfold wrS; rw [if_neg hk]; split <;> decide)
      rw [if_neg e0] at hf; rw [if_neg e0]
      exact hf (fun y2 e h2 h3 => by rw [← hy9 y2 e h2] at h3; exact absurd h3 hk)
