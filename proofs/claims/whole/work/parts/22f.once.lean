/-! all at once: the class pushes, the model pulls -/
def nxP (L : Nat → Option Nat) (sil a S : Nat) (w : Nat) : Prop := L S = some w ∨ ∃ s u, sil.testBit s = true ∧ S.testBit s = true ∧ L (sdf S (2 ^ s)) = some u ∧ w = u + a
theorem sd_o9 {T s : Nat} (h : T.testBit s = false) : sdf (T ||| 2 ^ s) (2 ^ s) = T := by
  apply Nat.eq_of_testBit_eq
  intro i
  rw [sdf_bit, or_b, Nat.testBit_two_pow]
  by_cases hi : s = i
  · subst hi; rw [h]; simp
  · rw [decide_eq_false hi]; simp
theorem or_sd {S s : Nat} (h : S.testBit s = true) : sdf S (2 ^ s) ||| 2 ^ s = S := by
  apply Nat.eq_of_testBit_eq
  intro i
  rw [or_b, sdf_bit, Nat.testBit_two_pow]
  by_cases hi : s = i
  · subst hi; rw [h]; simp
  · rw [decide_eq_false hi]; simp
theorem sd_b {S s : Nat} : (sdf S (2 ^ s)).testBit s = false := by rw [sdf_bit, Nat.testBit_two_pow]; simp
theorem sd_lt9 {S s : Nat} (h : S.testBit s = true) : sdf S (2 ^ s) < S := by
  have h1 := or_gt (sd_b (S := S) (s := s))
  rw [or_sd h] at h1
  exact h1
theorem min_self {o : Option Nat} : IsMin o (fun w => o = some w) := ⟨fun v hv => ⟨hv, fun w hw => by rw [hv] at hw; cases hw; exact Nat.le_refl _⟩, fun hn w hw => by rw [hn] at hw; cases hw⟩
section LJP
variable {sil ak T : Nat} {L : Nat → Option Nat}
theorem lj_T (hT : T < 512) : ∀ m, ljI sil ak T m L T = L T
  | 0 => rfl
  | m + 1 => by
    have ih := lj_T hT m
    unfold ljI
    rw [ih]
    cases hL : L T with
    | none => exact ih.trans hL
    | some v =>
      dsimp only
      cases hc : (sil.testBit m && (T ||| 2 ^ m != T))
      · rw [cond_false, ih, hL]
      · rw [cond_true]
        have hne : T ≠ T ||| 2 ^ m := fun q => by
          simp only [Bool.and_eq_true, bne_iff_ne] at hc
          exact hc.2 q.symm
        cases hw : ljI sil ak T m L (T ||| 2 ^ m) with
        | none => dsimp only; rw [va_up_ne _ _ hne, ih, hL]
        | some w =>
          dsimp only
          cases decide (v + ak < w)
          · rw [cond_false, ih, hL]
          · rw [cond_true, va_up_ne _ _ hne, ih, hL]
theorem lj_min (hT : T < 512) {U : Nat} : ∀ m, IsMin (ljI sil ak T m L U) (fun w => L U = some w ∨ ∃ s u, s < m ∧ sil.testBit s = true ∧ T.testBit s = false ∧ U = T ||| 2 ^ s ∧ L T = some u ∧ w = u + ak)
  | 0 => (min_self (o := L U)).iff (fun w => ⟨fun h => Or.inl h, fun h => h.elim id (fun ⟨s, _, h1, _⟩ => absurd h1 (Nat.not_lt_zero s))⟩)
  | m + 1 => by
    have ih := lj_min hT (U := U) m
    have hTm := lj_T (sil := sil) (ak := ak) (L := L) hT m
    have down : (∀ u, sil.testBit m = true → T.testBit m = false → U = T ||| 2 ^ m → L T = some u → False) → IsMin (ljI sil ak T m L U) (fun w => L U = some w ∨ ∃ s u, s < m + 1 ∧ sil.testBit s = true ∧ T.testBit s = false ∧ U = T ||| 2 ^ s ∧ L T = some u ∧ w = u + ak) := by
      intro hno
      refine ih.iff (fun w => ⟨fun h => ?_, fun h => ?_⟩)
      · rcases h with q | ⟨s, u, h1, h2⟩
        · exact Or.inl q
        · exact Or.inr ⟨s, u, by omega, h2⟩
      · rcases h with q | ⟨s, u, h1, h2, h3, h4, h5, h6⟩
        · exact Or.inl q
        · by_cases he : s = m
          · subst he; exact absurd (hno u h2 h3 h4 h5) id
          · exact Or.inr ⟨s, u, by omega, h2, h3, h4, h5, h6⟩
    unfold ljI
    rw [hTm]
    cases hL : L T with
    | none =>
      rw [hL] at down
      exact down (fun u _ _ _ h => by cases h)
    | some v =>
      dsimp only
      cases hc : (sil.testBit m && (T ||| 2 ^ m != T))
      · rw [cond_false]
        rw [hL] at down
        refine down (fun u h1 h2 h3 _ => ?_)
        have h9 : T ≠ T ||| 2 ^ m := by have := or_gt h2; omega
        rw [h1, Bool.true_and] at hc
        have := bne_eq_false_iff_eq.mp hc
        exact h9 this.symm
      · rw [cond_true]
        simp only [Bool.and_eq_true, bne_iff_ne] at hc
        have hb : T.testBit m = false := by
          cases hq : T.testBit m
          · rfl
          · exfalso
            apply hc.2
            apply Nat.eq_of_testBit_eq
            intro i
            rw [or_b]
            by_cases hi : m = i
            · subst hi; rw [hq]; rfl
            · rw [decide_eq_false hi, Bool.or_false]
        by_cases hU : U = T ||| 2 ^ m
        · subst hU
          have h9 := ih.add (c := v + ak)
          have conv : ∀ o, IsMin o (fun w => w = v + ak ∨ (L (T ||| 2 ^ m) = some w ∨ ∃ s u, s < m ∧ sil.testBit s = true ∧ T.testBit s = false ∧ T ||| 2 ^ m = T ||| 2 ^ s ∧ L T = some u ∧ w = u + ak)) → IsMin o (fun w => L (T ||| 2 ^ m) = some w ∨ ∃ s u, s < m + 1 ∧ sil.testBit s = true ∧ T.testBit s = false ∧ T ||| 2 ^ m = T ||| 2 ^ s ∧ some v = some u ∧ w = u + ak) := by
            intro o ho
            refine ho.iff (fun w => ⟨fun h => ?_, fun h => ?_⟩)
            · rcases h with q | q | ⟨s, u, h1, h2, h3, h4, h5, h6⟩
              · exact Or.inr ⟨m, v, Nat.lt_succ_self m, hc.1, hb, rfl, rfl, q⟩
              · exact Or.inl q
              · exact Or.inr ⟨s, u, by omega, h2, h3, h4, by rw [← hL]; exact h5, h6⟩
            · rcases h with q | ⟨s, u, h1, h2, h3, h4, h5, h6⟩
              · exact Or.inr (Or.inl q)
              · cases h5; exact Or.inl h6
          cases hw : ljI sil ak T m L (T ||| 2 ^ m) with
          | none => dsimp only; rw [va_up_self]; rw [hw] at h9; exact conv _ h9
          | some w =>
            dsimp only
            rw [hw, mnO] at h9
            cases hd : decide (v + ak < w)
            · rw [hd, cond_false] at h9; rw [cond_false, hw]; exact conv _ h9
            · rw [hd, cond_true] at h9; rw [cond_true, va_up_self]; exact conv _ h9
        · rw [hL] at down
          have h9 := down (fun u _ _ h _ => hU h)
          cases hw : ljI sil ak T m L (T ||| 2 ^ m) with
          | none => dsimp only; rw [va_up_ne _ _ hU]; exact h9
          | some w =>
            dsimp only
            cases decide (v + ak < w)
            · exact h9
            · rw [cond_true, va_up_ne _ _ hU]; exact h9
end LJP
section LJD
variable {sil ak : Nat} {le : Nat → Option Nat}
theorem ld_min : ∀ j, j ≤ 512 → ∀ S, IsMin (ljD sil ak le j S) (fun w => le S = some w ∨ ∃ s u, s < 9 ∧ sil.testBit s = true ∧ S.testBit s = true ∧ 512 ≤ sdf S (2 ^ s) + j ∧ sdf S (2 ^ s) < 512 ∧ le (sdf S (2 ^ s)) = some u ∧ w = u + ak)
  | 0, _, S => (min_self (o := le S)).iff (fun w => ⟨fun h => Or.inl h, fun h => h.elim id (fun ⟨s, u, _, _, _, h1, h2, _⟩ => by omega)⟩)
  | j + 1, hj, S => by
    have ih := ld_min j (by omega)
    have hsrc : ljD sil ak le j (511 - j) = le (511 - j) := by
      refine IsMin.uniq (ih (511 - j)) ((min_self (o := le (511 - j))).iff (fun w => ⟨fun h => Or.inl h, fun h => h.elim id (fun ⟨s, u, _, _, h1, h2, _⟩ => ?_)⟩))
      have := sd_lt9 h1
      omega
    show IsMin (ljI sil ak (511 - j) 9 (ljD sil ak le j) S) _
    refine (lj_min (T := 511 - j) (by omega) 9).grow ?_ ?_
    · rintro w (h | ⟨s, u, h1, h2, h3, h4, h5, h6⟩)
      · rcases ((ih S).1 w h).1 with q | ⟨s, u, q1, q2, q3, q4, q5, q6⟩
        · exact Or.inl q
        · exact Or.inr ⟨s, u, q1, q2, q3, by omega, q5, q6⟩
      · rw [hsrc] at h5
        subst h4
        exact Or.inr ⟨s, u, h1, h2, by rw [or_b]; simp, by rw [sd_o9 h3]; omega, by rw [sd_o9 h3]; omega, by rw [sd_o9 h3]; exact h5, h6⟩
    · intro w h
      have old : (le S = some w ∨ ∃ s u, s < 9 ∧ sil.testBit s = true ∧ S.testBit s = true ∧ 512 ≤ sdf S (2 ^ s) + j ∧ sdf S (2 ^ s) < 512 ∧ le (sdf S (2 ^ s)) = some u ∧ w = u + ak) → ∃ v, (ljD sil ak le j S = some v ∨ ∃ s u, s < 9 ∧ sil.testBit s = true ∧ (511 - j).testBit s = false ∧ S = (511 - j) ||| 2 ^ s ∧ ljD sil ak le j (511 - j) = some u ∧ v = u + ak) ∧ v ≤ w := by
        intro q
        cases hD : ljD sil ak le j S with
        | none => exact absurd q ((ih S).2 hD w)
        | some v => exact ⟨v, Or.inl rfl, ((ih S).1 v hD).2 w q⟩
      rcases h with q | ⟨s, u, h1, h2, h3, h4, h5, h6, h7⟩
      · exact old (Or.inl q)
      · by_cases he : sdf S (2 ^ s) = 511 - j
        · refine ⟨w, Or.inr ⟨s, u, h1, h2, by rw [← he]; exact sd_b, by rw [← he]; exact (or_sd h3).symm, by rw [hsrc, ← he]; exact h6, h7⟩, Nat.le_refl w⟩
        · exact old (Or.inr ⟨s, u, h1, h2, h3, by omega, h5, h6, h7⟩)
theorem ld_nx (hs : sil < 512) {S : Nat} (hS : S < 512) : IsMin (ljD sil ak le 512 S) (nxP le sil ak S) := by
  refine (ld_min 512 (Nat.le_refl 512) S).iff (fun w => ⟨fun h => ?_, fun h => ?_⟩)
  · rcases h with q | ⟨s, u, h1, h2, h3, h4, h5, h6, h7⟩
    · exact Or.inl q
    · exact Or.inr ⟨s, u, h2, h3, h6, h7⟩
  · rcases h with q | ⟨s, u, h2, h3, h6, h7⟩
    · exact Or.inl q
    · have := sd_lt9 h3
      exact Or.inr ⟨s, u, tb_lt (n := 9) hs h2, h2, h3, by omega, by omega, h6, h7⟩
end LJD
section PMP
variable {sil a k n : Nat} {L : Nat → Option Nat}
theorem pi_ne {q : Nat} (hq : q ≠ k) : ∀ i, pmI sil a k L i q = L q
  | 0 => rfl
  | i + 1 => by
    have ih := pi_ne hq i
    unfold pmI
    cases (k &&& sil).testBit i
    · exact ih
    · rw [cond_true]
      cases pmI sil a k L i (sdf k (2 ^ i)) with
      | none => exact ih
      | some u =>
        dsimp only
        cases pmI sil a k L i k with
        | none => dsimp only; rw [va_up_ne _ _ hq]; exact ih
        | some w =>
          dsimp only
          cases decide (u + a < w)
          · exact ih
          · rw [cond_true, va_up_ne _ _ hq]; exact ih
theorem pi_min : ∀ i, IsMin (pmI sil a k L i k) (fun w => L k = some w ∨ ∃ s u, s < i ∧ sil.testBit s = true ∧ k.testBit s = true ∧ L (sdf k (2 ^ s)) = some u ∧ w = u + a)
  | 0 => (min_self (o := L k)).iff (fun w => ⟨fun h => Or.inl h, fun h => h.elim id (fun ⟨s, _, h1, _⟩ => absurd h1 (Nat.not_lt_zero s))⟩)
  | i + 1 => by
    have ih := pi_min i
    have down : (∀ u, sil.testBit i = true → k.testBit i = true → L (sdf k (2 ^ i)) = some u → False) → IsMin (pmI sil a k L i k) (fun w => L k = some w ∨ ∃ s u, s < i + 1 ∧ sil.testBit s = true ∧ k.testBit s = true ∧ L (sdf k (2 ^ s)) = some u ∧ w = u + a) := by
      intro hno
      refine ih.iff (fun w => ⟨fun h => ?_, fun h => ?_⟩)
      · rcases h with q | ⟨s, u, h1, h2⟩
        · exact Or.inl q
        · exact Or.inr ⟨s, u, by omega, h2⟩
      · rcases h with q | ⟨s, u, h1, h2, h3, h4, h5⟩
        · exact Or.inl q
        · by_cases he : s = i
          · subst he; exact absurd (hno u h2 h3 h4) id
          · exact Or.inr ⟨s, u, by omega, h2, h3, h4, h5⟩
    unfold pmI
    cases hb : (k &&& sil).testBit i
    · rw [Nat.testBit_and] at hb
      exact down (fun u h1 h2 _ => by rw [h1, h2] at hb; cases hb)
    · rw [Nat.testBit_and, Bool.and_eq_true] at hb
      have hlt := sd_lt9 hb.1
      rw [cond_true, pi_ne (show sdf k (2 ^ i) ≠ k by omega) i]
      cases hu : L (sdf k (2 ^ i)) with
      | none => exact down (fun u _ _ h => by rw [hu] at h; cases h)
      | some u =>
        dsimp only
        have h9 := ih.add (c := u + a)
        have conv : ∀ o, IsMin o (fun w => w = u + a ∨ (L k = some w ∨ ∃ s u, s < i ∧ sil.testBit s = true ∧ k.testBit s = true ∧ L (sdf k (2 ^ s)) = some u ∧ w = u + a)) → IsMin o (fun w => L k = some w ∨ ∃ s u, s < i + 1 ∧ sil.testBit s = true ∧ k.testBit s = true ∧ L (sdf k (2 ^ s)) = some u ∧ w = u + a) := by
          intro o ho
          refine ho.iff (fun w => ⟨fun h => ?_, fun h => ?_⟩)
          · rcases h with q | q | ⟨s, u', h1, h2⟩
            · exact Or.inr ⟨i, u, Nat.lt_succ_self i, hb.2, hb.1, hu, q⟩
            · exact Or.inl q
            · exact Or.inr ⟨s, u', by omega, h2⟩
          · rcases h with q | ⟨s, u', h1, h2, h3, h4, h5⟩
            · exact Or.inr (Or.inl q)
            · by_cases he : s = i
              · subst he; rw [hu] at h4; cases h4; exact Or.inl h5
              · exact Or.inr (Or.inr ⟨s, u', by omega, h2, h3, h4, h5⟩)
        cases hw : pmI sil a k L i k with
        | none => dsimp only; rw [va_up_self]; rw [hw] at h9; exact conv _ h9
        | some w =>
          dsimp only
          rw [hw, mnO] at h9
          cases hd : decide (u + a < w)
          · rw [hd, cond_false] at h9; rw [cond_false, hw]; exact conv _ h9
          · rw [hd, cond_true] at h9; rw [cond_true, va_up_self]; exact conv _ h9
theorem pk_all (hs : sil < 2 ^ n) : ∀ c, c ≤ 2 ^ n - 1 → (∀ S, (S + c < 2 ^ n ∨ 2 ^ n ≤ S) → pmK sil a n L c S = L S) ∧ ∀ S, 2 ^ n ≤ S + c → S < 2 ^ n → IsMin (pmK sil a n L c S) (nxP L sil a S)
  | 0, _ => ⟨fun _ _ => rfl, fun S h1 h2 => by omega⟩
  | c + 1, hc => by
    obtain ⟨i1, i2⟩ := pk_all hs c (by omega)
    refine ⟨fun S h => ?_, fun S h1 h2 => ?_⟩
    · show pmI sil a (2 ^ n - 1 - c) (pmK sil a n L c) n S = L S
      rw [pi_ne (by omega) n]
      exact i1 S (by omega)
    · show IsMin (pmI sil a (2 ^ n - 1 - c) (pmK sil a n L c) n S) _
      by_cases he : S = 2 ^ n - 1 - c
      · rw [← he]
        refine (pi_min n).iff (fun w => ⟨fun h => ?_, fun h => ?_⟩)
        · rcases h with q | ⟨s, u, q1, q2, q3, q4, q5⟩
          · rw [i1 S (by omega)] at q; exact Or.inl q
          · have := sd_lt9 q3
            rw [i1 _ (by omega)] at q4
            exact Or.inr ⟨s, u, q2, q3, q4, q5⟩
        · rcases h with q | ⟨s, u, q2, q3, q4, q5⟩
          · exact Or.inl (by rw [i1 S (by omega)]; exact q)
          · have := sd_lt9 q3
            exact Or.inr ⟨s, u, tb_lt hs q2, q2, q3, by rw [i1 _ (by omega)]; exact q4, q5⟩
      · rw [pi_ne he n]
        exact i2 S (by omega) h2
theorem pk_nx (hs : sil < 2 ^ n) {S : Nat} (hS : S < 2 ^ n) : IsMin (pmK sil a n L (2 ^ n - 1) S) (nxP L sil a S) := by
  obtain ⟨i1, i2⟩ := pk_all (a := a) (L := L) hs (2 ^ n - 1) (Nat.le_refl _)
  by_cases h0 : S = 0
  · subst h0
    rw [i1 0 (Or.inl (by have := Nat.one_le_two_pow (n := n); omega))]
    exact (min_self (o := L 0)).iff (fun w => ⟨fun h => Or.inl h, fun h => h.elim id (fun ⟨s, u, _, h1, _⟩ => by rw [Nat.zero_testBit] at h1; cases h1)⟩)
  · exact i2 S (by omega) hS
end PMP
section ONCE
variable {DL : List Nat} {kd fg : Nat → Nat} {n d t al day : Nat} {nd : Nat → Nat} {mk si : Nat → Int32} {kn : Nat → Nat} {mb : Nat → Option Nat} {bb oo : Nat → Int32} {K F : Nat → Nat}
theorem sm_lt2 {odd : Bool} {j : Nat} : smN n t al nd K F kn odd j < 2 ^ n := orF_lt _ n
theorem on_eq (h : RS DL kd fg n d t mk si mb bb oo K F) (hn : n ≤ 9) : ∀ i, i ≤ d → ∀ S, S < 512 → tgL n al t day kn nd mb kd fg i S = pmD n t al nd K F kn (day % 2 != 0) i S ∧ (2 ^ n ≤ S → tgL n al t day kn nd mb kd fg i S = none)
  | 0, _, S, _ => by
    have h1 := Nat.one_le_two_pow (n := n)
    refine ⟨?_, fun hS => ?_⟩
    · show va_up (fun _ => none) 0 (some 0) S = if S = 0 then some 0 else none
      by_cases h0 : S = 0
      · subst h0; rw [va_up_self]; rfl
      · rw [va_up_ne _ _ h0, if_neg h0]
    · show va_up (fun _ => none) 0 (some 0) S = none
      rw [va_up_ne _ _ (show S ≠ 0 by omega)]
  | i + 1, hi, S, hS => by
    have ih := on_eq h hn i (by omega)
    obtain ⟨c, h1, h2, h3, h4⟩ := h.2.2.1 i (by omega)
    have hp9 : 2 ^ n ≤ 2 ^ 9 := Nat.pow_le_pow_right (by decide) hn
    have e : tgL n al t day kn nd mb kd fg (i + 1) = ljD (smN n t al nd K F kn (day % 2 != 0) i) (asN (K i) (F i)) (tgL n al t day kn nd mb kd fg i) 512 := by
      rw [← tgL_s h1, q_sil h (by omega), h3, h4]
    have hsil : smN n t al nd K F kn (day % 2 != 0) i < 2 ^ n := sm_lt2
    rw [e]
    have hc := ld_nx (ak := asN (K i) (F i)) (le := tgL n al t day kn nd mb kd fg i) (show smN n t al nd K F kn (day % 2 != 0) i < 512 by omega) hS
    have hno : 2 ^ n ≤ S → ljD (smN n t al nd K F kn (day % 2 != 0) i) (asN (K i) (F i)) (tgL n al t day kn nd mb kd fg i) 512 S = none := by
      intro hge
      cases hv : ljD (smN n t al nd K F kn (day % 2 != 0) i) (asN (K i) (F i)) (tgL n al t day kn nd mb kd fg i) 512 S with
      | none => rfl
      | some v =>
        exfalso
        rcases (hc.1 v hv).1 with q | ⟨s, u, q1, q2, q3, q4⟩
        · rw [(ih S hS).2 hge] at q; cases q
        · have hlt := sd_lt9 q2
          have hsn := tb_lt hsil q1
          have hge2 : 2 ^ n ≤ sdf S (2 ^ s) := by
            rcases Nat.lt_or_ge (sdf S (2 ^ s)) (2 ^ n) with z | z
            · have h9 := or_lt2 z hsn
              rw [or_sd q2] at h9
              omega
            · exact z
          rw [(ih _ (by omega)).2 hge2] at q3
          cases q3
    refine ⟨?_, hno⟩
    show _ = pmK (smN n t al nd K F kn (day % 2 != 0) i) (asN (K i) (F i)) n (pmD n t al nd K F kn (day % 2 != 0) i) (2 ^ n - 1) S
    rcases Nat.lt_or_ge S (2 ^ n) with hlt | hge
    · refine IsMin.uniq hc ((pk_nx (a := asN (K i) (F i)) (L := pmD n t al nd K F kn (day % 2 != 0) i) hsil hlt).iff (fun w => ?_))
      unfold nxP
      rw [(ih S hS).1]
      constructor
      · rintro (q | ⟨s, u, q1, q2, q3, q4⟩)
        · exact Or.inl q
        · have := sd_lt9 q2
          exact Or.inr ⟨s, u, q1, q2, by rw [(ih _ (by omega)).1]; exact q3, q4⟩
      · rintro (q | ⟨s, u, q1, q2, q3, q4⟩)
        · exact Or.inl q
        · have := sd_lt9 q2
          exact Or.inr ⟨s, u, q1, q2, by rw [← (ih _ (by omega)).1]; exact q3, q4⟩
    · rw [hno hge, (pk_all hsil (2 ^ n - 1) (Nat.le_refl _)).1 S (Or.inr hge), ← (ih S hS).1, (ih S hS).2 hge]
theorem tgM_no {le : Nat → Option Nat} {k : Nat} (h : ∀ j, k ≤ j → j < 512 → le j = none) : ∀ m, k + m ≤ 512 → tgM le (k + m) = tgM le k
  | 0, _ => rfl
  | m + 1, hm => by
    have ih := tgM_no h m (by omega)
    show tgM le ((k + m) + 1) = _
    rw [tgM, h (k + m) (by omega) (by omega)]
    exact ih
theorem tgM_cong {le le' : Nat → Option Nat} : ∀ k, (∀ j, j < k → le j = le' j) → tgM le k = tgM le' k
  | 0, _ => rfl
  | k + 1, h => by
    have ih := tgM_cong k (fun j hj => h j (by omega))
    unfold tgM
    rw [ih, h k (Nat.lt_succ_self k)]
theorem q_once (h : RS DL kd fg n d t mk si mb bb oo K F) (hn : n ≤ 9) (hd : d ≤ 6) : tgM (tgL n al t day kn nd mb kd fg 6) 512 = tgM (pmD n t al nd K F kn (day % 2 != 0) d) (2 ^ n) := by
  have hp9 : 2 ^ n ≤ 2 ^ 9 := Nat.pow_le_pow_right (by decide) hn
  have h6 : ∀ m, tgL n al t day kn nd mb kd fg (d + m) = tgL n al t day kn nd mb kd fg d := by
    intro m
    induction m with
    | zero => rfl
    | succ m ih =>
      show tgL n al t day kn nd mb kd fg ((d + m) + 1) = _
      rw [← tgL_n (h.2.2.2 (d + m) (by omega))]
      exact ih
  have h7 := h6 (6 - d)
  rw [show d + (6 - d) = 6 by omega] at h7
  rw [h7]
  have he := on_eq (al := al) (day := day) (nd := nd) (kn := kn) h hn d (Nat.le_refl d)
  have h8 := tgM_no (le := tgL n al t day kn nd mb kd fg d) (k := 2 ^ n) (fun j h1 h2 => (he j h2).2 h1) (512 - 2 ^ n) (by omega)
  rw [show 2 ^ n + (512 - 2 ^ n) = 512 by omega] at h8
  rw [h8]
  exact tgM_cong (2 ^ n) (fun j hj => (he j (by omega)).1)
end ONCE
