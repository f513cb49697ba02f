/-! ways: from a set to a set, by one sentence more at a time -/
def Pn (st : Nat → Nat → Option Nat) : Nat → Nat → Nat → Nat → Prop
  | 0, T, U, w => T = U ∧ w = 0
  | m + 1, T, U, w => ∃ s e w', st T s = some e ∧ Pn st m (T ||| 2 ^ s) U w' ∧ w = e + w'
def Pa (st : Nat → Nat → Option Nat) (T U w : Nat) : Prop := ∃ m, Pn st m T U w
theorem Pa.nil {st : Nat → Nat → Option Nat} (T : Nat) : Pa st T T 0 := ⟨0, rfl, rfl⟩
theorem Pa.cons {st : Nat → Nat → Option Nat} {T s e U w : Nat} (h : st T s = some e) (p : Pa st (T ||| 2 ^ s) U w) : Pa st T U (e + w) := by
  obtain ⟨m, hm⟩ := p
  exact ⟨m + 1, s, e, w, h, hm, rfl⟩
theorem Pa.inv {st : Nat → Nat → Option Nat} {T U w : Nat} (p : Pa st T U w) : (T = U ∧ w = 0) ∨ ∃ s e w', st T s = some e ∧ Pa st (T ||| 2 ^ s) U w' ∧ w = e + w' := by
  obtain ⟨m, hm⟩ := p
  cases m with
  | zero => exact Or.inl hm
  | succ m =>
    obtain ⟨s, e, w', h1, h2, h3⟩ := hm
    exact Or.inr ⟨s, e, w', h1, ⟨m, h2⟩, h3⟩
theorem Pn.ind {st : Nat → Nat → Option Nat} {P : Nat → Nat → Nat → Prop} (h0 : ∀ T, P T T 0) (h1 : ∀ T s e U w, st T s = some e → P (T ||| 2 ^ s) U w → P T U (e + w)) : ∀ m T U w, Pn st m T U w → P T U w
  | 0, T, U, w, h => by
    obtain ⟨rfl, rfl⟩ := h
    exact h0 T
  | m + 1, T, U, w, h => by
    obtain ⟨s, e, w', q1, q2, rfl⟩ := h
    exact h1 T s e U w' q1 (Pn.ind h0 h1 m _ _ _ q2)
theorem Pa.ind {st : Nat → Nat → Option Nat} {P : Nat → Nat → Nat → Prop} (h0 : ∀ T, P T T 0) (h1 : ∀ T s e U w, st T s = some e → P (T ||| 2 ^ s) U w → P T U (e + w)) {T U w : Nat} (p : Pa st T U w) : P T U w := by
  obtain ⟨m, hm⟩ := p
  exact Pn.ind h0 h1 m T U w hm
theorem Pa.snoc {st : Nat → Nat → Option Nat} {T U w s e : Nat} (p : Pa st T U w) (h : st U s = some e) : Pa st T (U ||| 2 ^ s) (w + e) :=
  Pa.ind (P := fun T U w => st U s = some e → Pa st T (U ||| 2 ^ s) (w + e)) (fun T h => by rw [Nat.zero_add]; exact Pa.cons h (Pa.nil _)) (fun T s' e' U w h1 ih h => by rw [Nat.add_assoc]; exact Pa.cons h1 (ih h)) p h
/-- a way's last step -/
theorem Pn.last {st : Nat → Nat → Option Nat} : ∀ m T U w, Pn st m T U w → (U = T ∧ w = 0) ∨ ∃ S s e w', Pa st T S w' ∧ st S s = some e ∧ U = S ||| 2 ^ s ∧ w = w' + e
  | 0, T, U, w, h => Or.inl ⟨h.1.symm, h.2⟩
  | m + 1, T, U, w, h => by
    obtain ⟨s, e, w1, q1, q2, rfl⟩ := h
    right
    rcases Pn.last m _ _ _ q2 with ⟨h1, h2⟩ | ⟨S, s', e', w', h1, h2, h3, h4⟩
    · exact ⟨T, s, e, 0, Pa.nil _, q1, h1, by omega⟩
    · exact ⟨S, s', e', e + w', Pa.cons q1 h1, h2, h3, by omega⟩
theorem Pa.last {st : Nat → Nat → Option Nat} {T U w : Nat} (p : Pa st T U w) : (U = T ∧ w = 0) ∨ ∃ S s e w', Pa st T S w' ∧ st S s = some e ∧ U = S ||| 2 ^ s ∧ w = w' + e := by
  obtain ⟨m, hm⟩ := p
  exact Pn.last m T U w hm
/-- the least of what is so -/
def IsMin (o : Option Nat) (P : Nat → Prop) : Prop := (∀ v, o = some v → P v ∧ ∀ w, P w → v ≤ w) ∧ (o = none → ∀ w, ¬ P w)
theorem IsMin.uniq {o o' : Option Nat} {P : Nat → Prop} (h : IsMin o P) (h' : IsMin o' P) : o = o' := by
  cases ho : o with
  | none =>
    cases ho' : o' with
    | none => rfl
    | some v => exact absurd (h'.1 v ho').1 (h.2 ho v)
  | some v =>
    cases ho' : o' with
    | none => exact absurd (h.1 v ho).1 (h'.2 ho' v)
    | some w =>
      have h1 := (h.1 v ho).2 w (h'.1 w ho').1
      have h2 := (h'.1 w ho').2 v (h.1 v ho).1
      rw [show v = w by omega]
theorem IsMin.iff {o : Option Nat} {P Q : Nat → Prop} (h : IsMin o P) (e : ∀ w, P w ↔ Q w) : IsMin o Q := ⟨fun v hv => ⟨(e v).mp (h.1 v hv).1, fun w hw => (h.1 v hv).2 w ((e w).mpr hw)⟩, fun hn w hw => h.2 hn w ((e w).mpr hw)⟩
theorem IsMin.zero {P : Nat → Prop} (h : P 0) : IsMin (some 0) P := ⟨fun v hv => by cases hv; exact ⟨h, fun w _ => Nat.zero_le w⟩, fun q => by cases q⟩
/-- least among more -/
theorem IsMin.grow {o : Option Nat} {P Q : Nat → Prop} (h : IsMin o P) (h1 : ∀ w, P w → Q w) (h2 : ∀ w, Q w → ∃ v, P v ∧ v ≤ w) : IsMin o Q := ⟨fun v hv => ⟨h1 v (h.1 v hv).1, fun w hw => by
    obtain ⟨u, hu, huw⟩ := h2 w hw
    exact Nat.le_trans ((h.1 v hv).2 u hu) huw⟩, fun hn w hw => by
    obtain ⟨u, hu, -⟩ := h2 w hw
    exact h.2 hn u hu⟩
/-- one more way to do it -/
def mnO (c : Nat) : Option Nat → Option Nat
  | none => some c
  | some w => bif decide (c < w) then some c else some w
theorem IsMin.add {o : Option Nat} {c : Nat} {P : Nat → Prop} (h : IsMin o P) : IsMin (mnO c o) (fun w => w = c ∨ P w) := by
  cases o with
  | none => exact ⟨fun v hv => by cases hv; exact ⟨Or.inl rfl, fun w hw => hw.elim (fun q => by omega) (fun q => absurd q (h.2 rfl w))⟩, fun q => by cases q⟩
  | some u =>
    have hu := h.1 u rfl
    by_cases hc : c < u
    · rw [mnO, decide_eq_true hc, cond_true]
      exact ⟨fun v hv => by cases hv; exact ⟨Or.inl rfl, fun w hw => hw.elim (fun q => by omega) (fun q => by have := hu.2 w q; omega)⟩, fun q => by cases q⟩
    · rw [mnO, decide_eq_false hc, cond_false]
      exact ⟨fun v hv => by cases hv; exact ⟨Or.inr hu.1, fun w hw => hw.elim (fun q => by omega) (fun q => hu.2 w q)⟩, fun q => by cases q⟩
/-- the steps that there are, at their cost -/
def stp (n al d : Nat) (nd K F kn : Nat → Nat) (b : Bool) (T s : Nat) : Option Nat := match leS n T al nd K F kn s d with
  | none => none
  | some e => some (bif b then e else 1)
section STP
variable {n al d : Nat} {nd K F kn : Nat → Nat} {b : Bool} {T s c : Nat}
theorem stp_s {e : Nat} (h : leS n T al nd K F kn s d = some e) : stp n al d nd K F kn b T s = some (bif b then e else 1) := by simp only [stp, h]
theorem stp_of (h : stp n al d nd K F kn b T s = some c) : ∃ e, leS n T al nd K F kn s d = some e ∧ c = bif b then e else 1 := by
  unfold stp at h
  cases hl : leS n T al nd K F kn s d with
  | none => rw [hl] at h; cases h
  | some e => rw [hl] at h; cases h; exact ⟨e, rfl, rfl⟩
theorem stp_T (h : stp n al d nd K F kn b T s = some c) : T.testBit s = false ∧ s < n := by
  obtain ⟨e, he, -⟩ := stp_of h
  exact ⟨le_T (by rw [he]; rfl), le_n (by rw [he]; rfl)⟩
theorem or_gt {T s : Nat} (h : T.testBit s = false) : T < T ||| 2 ^ s := by
  have h1 : T ≤ T ||| 2 ^ s := Nat.left_le_or
  have h2 : T ≠ T ||| 2 ^ s := fun q => by
    have h3 : (T ||| 2 ^ s).testBit s = true := by rw [or_b]; simp
    rw [← q, h] at h3
    cases h3
  omega
theorem pa_ge {U w : Nat} (p : Pa (stp n al d nd K F kn b) T U w) : T ≤ U :=
  Pa.ind (P := fun T U _ => T ≤ U) (fun T => Nat.le_refl T) (fun T s e U w _ ih => Nat.le_trans Nat.left_le_or ih) p
theorem pa_sub {U w : Nat} (p : Pa (stp n al d nd K F kn b) T U w) : ∀ i, T.testBit i = true → U.testBit i = true :=
  Pa.ind (P := fun T U _ => ∀ i, T.testBit i = true → U.testBit i = true) (fun T _ h => h) (fun T s e U w _ ih i hi => ih i (by rw [or_b, hi]; rfl)) p
theorem pa_lt {U w : Nat} (p : Pa (stp n al d nd K F kn b) T U w) (h : T < 2 ^ n) : U < 2 ^ n :=
  Pa.ind (P := fun T U _ => T < 2 ^ n → U < 2 ^ n) (fun T h => h) (fun T s e U w h1 ih h => ih (or_lt2 h (stp_T h1).2)) p h
end STP
theorem sd_0 {g T : Nat} : (sdf g T == 0) = true ↔ ∀ i, g.testBit i = true → T.testBit i = true := by
  rw [beq_iff_eq]
  constructor
  · intro h i hi
    have h1 : (sdf g T).testBit i = false := by rw [h]; exact Nat.zero_testBit i
    rw [sdf_bit, hi] at h1
    cases hT : T.testBit i
    · rw [hT] at h1; cases h1
    · rfl
  · intro h
    apply Nat.eq_of_testBit_eq
    intro i
    rw [sdf_bit, Nat.zero_testBit]
    cases hg : g.testBit i
    · rfl
    · rw [h i hg]; rfl
/-! the class looks back from the end -/
section BACK
variable {n al d : Nat} {nd K F kn : Nat → Nat} {lk : Nat → Option Nat} {ef : Nat → Nat} {b : Bool} {sa goal : Nat} {le : Nat → Option Nat}
theorem lf_min {D : Nat → Option Nat} {T : Nat} (hch : ∀ T s, s < 9 → chE lk ef T s = leS n T al nd K F kn s d) : ∀ m, m ≤ 9 → IsMin (lfF lk ef D b T m) (fun w => ∃ s c r, s < m ∧ stp n al d nd K F kn b T s = some c ∧ D (T ||| 2 ^ s) = some r ∧ w = r + c)
  | 0, _ => ⟨fun v hv => (by cases hv), fun _ w ⟨s, _, _, h, _⟩ => absurd h (Nat.not_lt_zero s)⟩
  | m + 1, hm => by
    have ih := lf_min (D := D) (T := T) hch m (by omega)
    unfold lfF
    rw [hch T m (by omega)]
    have down : (leS n T al nd K F kn m d = none ∨ D (T ||| 2 ^ m) = none) → IsMin (lfF lk ef D b T m) (fun w => ∃ s c r, s < m + 1 ∧ stp n al d nd K F kn b T s = some c ∧ D (T ||| 2 ^ s) = some r ∧ w = r + c) := by
      intro hno
      refine ih.iff (fun w => ⟨fun ⟨s, c, r, h1, h2⟩ => ⟨s, c, r, by omega, h2⟩, fun ⟨s, c, r, h1, h2, h3, h4⟩ => ⟨s, c, r, ?_, h2, h3, h4⟩⟩)
      by_cases he : s = m
      · subst he
        rcases hno with q | q
        · obtain ⟨e, h5, -⟩ := stp_of h2
          rw [q] at h5; cases h5
        · rw [q] at h3; cases h3
      · omega
    cases hl : leS n T al nd K F kn m d with
    | none => exact down (Or.inl hl)
    | some e =>
      cases hD : D (T ||| 2 ^ m) with
      | none => exact down (Or.inr hD)
      | some r =>
        dsimp only
        have h9 := ih.add (c := r + (bif b then e else 1))
        have h8 : IsMin (mnO (r + (bif b then e else 1)) (lfF lk ef D b T m)) (fun w => ∃ s c r, s < m + 1 ∧ stp n al d nd K F kn b T s = some c ∧ D (T ||| 2 ^ s) = some r ∧ w = r + c) := by
          refine h9.iff (fun w => ⟨fun h => ?_, fun h => ?_⟩)
          · rcases h with q | ⟨s, c, r', h1, h2⟩
            · exact ⟨m, _, r, Nat.lt_succ_self m, stp_s hl, hD, q⟩
            · exact ⟨s, c, r', by omega, h2⟩
          · obtain ⟨s, c, r', h1, h2, h3, h4⟩ := h
            by_cases he : s = m
            · subst he
              left
              rw [stp_s hl] at h2
              rw [hD] at h3
              cases h2
              cases h3
              exact h4
            · exact Or.inr ⟨s, c, r', by omega, h2, h3, h4⟩
        cases hL : lfF lk ef D b T m with
        | none => rw [hL] at h8; exact h8
        | some w => rw [hL] at h8; exact h8
theorem pl_min (hn : n ≤ 9) (hch : ∀ T s, s < 9 → chE lk ef T s = leS n T al nd K F kn s d) : ∀ j, j ≤ 512 → ∀ T, 512 ≤ T + j → T ≤ 511 → (∀ i, sa.testBit i = true → T.testBit i = true) → IsMin (plD lk ef sa goal b le j T) (fun w => ∃ U, (∀ i, goal.testBit i = true → U.testBit i = true) ∧ Pa (stp n al d nd K F kn b) T U w)
  | 0, _, T, h1, h2, _ => by omega
  | j + 1, hj, T, h1, h2, h3 => by
    have ih := pl_min hn hch j (by omega)
    unfold plD
    by_cases hT : T = 511 - j
    · rw [← hT, sd_0.mpr h3, cond_true, va_up_self]
      by_cases hg : ∀ i, goal.testBit i = true → T.testBit i = true
      · rw [sd_0.mpr hg, cond_true]
        exact IsMin.zero ⟨T, hg, Pa.nil T⟩
      · have hg' : (sdf goal T == 0) = false := by
          cases hq : (sdf goal T == 0)
          · rfl
          · exact absurd (sd_0.mp hq) hg
        rw [hg', cond_false]
        refine (lf_min hch 9 (Nat.le_refl 9)).grow ?_ ?_
        · rintro w ⟨s, c, r, hs, hst, hD, hw⟩
          obtain ⟨hTs, hsn⟩ := stp_T hst
          have hlt := or_gt hTs
          have hle : T ||| 2 ^ s < 512 := or_512 (by omega) (bit_512 (by omega))
          obtain ⟨U, hU, hp⟩ := ((ih _ (by omega) (by omega) (fun i hi => by rw [or_b, h3 i hi]; rfl)).1 r hD).1
          exact ⟨U, hU, by rw [hw, Nat.add_comm]; exact Pa.cons hst hp⟩
        · rintro w ⟨U, hU, hp⟩
          rcases hp.inv with ⟨rfl, -⟩ | ⟨s, e, w', hst, hp2, rfl⟩
          · exact absurd hU hg
          · obtain ⟨hTs, hsn⟩ := stp_T hst
            have hlt := or_gt hTs
            have hle : T ||| 2 ^ s < 512 := or_512 (by omega) (bit_512 (by omega))
            have hm := ih (T ||| 2 ^ s) (by omega) (by omega) (fun i hi => by rw [or_b, h3 i hi]; rfl)
            cases hD : plD lk ef sa goal b le j (T ||| 2 ^ s) with
            | none => exact absurd ⟨U, hU, hp2⟩ (hm.2 hD w')
            | some r =>
              have hr := (hm.1 r hD).2 w' ⟨U, hU, hp2⟩
              exact ⟨r + e, ⟨s, e, r, by omega, hst, hD, rfl⟩, by omega⟩
    · have h9 := ih T (by omega) h2 h3
      cases (sdf sa (511 - j) == 0)
      · exact h9
      · rw [cond_true, va_up_ne _ _ hT]; exact h9
end BACK
/-! the model goes on from the start -/
section FORE
variable {n al d : Nat} {nd K F kn : Nat → Nat}
def pj (b : Bool) (p : (Nat → Option Nat) × (Nat → Option Nat)) : Nat → Option Nat := bif b then p.2 else p.1
theorem gr_st {b : Bool} {T i : Nat} {p : (Nat → Option Nat) × (Nat → Option Nat)} : pj b (grI n d al T nd K F kn p (i + 1)) = match (bif T.testBit i then none else stp n al d nd K F kn b T i) with
    | none => pj b (grI n d al T nd K F kn p i)
    | some c => upO (pj b (grI n d al T nd K F kn p i)) (T ||| 2 ^ i) ((pj b (grI n d al T nd K F kn p i) T).getD 0 + c) := by
  have e : grI n d al T nd K F kn p (i + 1) = bif T.testBit i then grI n d al T nd K F kn p i else (gbF (grI n d al T nd K F kn p i).1 T i (leS n T al nd K F kn i d), gbE (grI n d al T nd K F kn p i).2 T i (leS n T al nd K F kn i d)) := rfl
  rw [e]
  generalize grI n d al T nd K F kn p i = g
  cases T.testBit i
  · rw [cond_false, cond_false]
    unfold stp gbF gbE pj
    cases leS n T al nd K F kn i d <;> cases b <;> rfl
  · rfl
theorem upO_low {fe : Nat → Option Nat} {to c U v : Nat} (h : fe U = some v) : ∃ v', upO fe to c U = some v' ∧ v' ≤ v := by
  by_cases he : U = to
  · subst he
    unfold upO
    rw [h]
    dsimp only
    by_cases hc : c < v
    · rw [decide_eq_true hc, cond_true, va_up_self]; exact ⟨c, rfl, by omega⟩
    · rw [decide_eq_false hc, cond_false]; exact ⟨v, h, Nat.le_refl v⟩
  · rw [upO_ne he]; exact ⟨v, h, Nat.le_refl v⟩
theorem upO_or {fe : Nat → Option Nat} {to c U v : Nat} (h : upO fe to c U = some v) : fe U = some v ∨ (U = to ∧ v = c) := by
  by_cases he : U = to
  · subst he
    unfold upO at h
    cases hf : fe U with
    | none => rw [hf] at h; dsimp only at h; rw [va_up_self] at h; cases h; exact Or.inr ⟨rfl, rfl⟩
    | some w =>
      rw [hf] at h
      dsimp only at h
      cases hd : decide (c < w)
      · rw [hd, cond_false, hf] at h; exact Or.inl h
      · rw [hd, cond_true, va_up_self] at h; cases h; exact Or.inr ⟨rfl, rfl⟩
  · rw [upO_ne he] at h; exact Or.inl h
theorem gi_all {b : Bool} {T : Nat} {p : (Nat → Option Nat) × (Nat → Option Nat)} : ∀ i, pj b (grI n d al T nd K F kn p i) T = pj b p T ∧ (∀ U v, pj b p U = some v → ∃ v', pj b (grI n d al T nd K F kn p i) U = some v' ∧ v' ≤ v) ∧ (∀ s c, s < i → stp n al d nd K F kn b T s = some c → ∃ v, pj b (grI n d al T nd K F kn p i) (T ||| 2 ^ s) = some v ∧ v ≤ (pj b p T).getD 0 + c) ∧ (∀ U v, pj b (grI n d al T nd K F kn p i) U = some v → pj b p U = some v ∨ ∃ s c, stp n al d nd K F kn b T s = some c ∧ U = T ||| 2 ^ s ∧ v = (pj b p T).getD 0 + c)
  | 0 => ⟨rfl, fun U v h => ⟨v, h, Nat.le_refl v⟩, fun s c h => absurd h (Nat.not_lt_zero s), fun U v h => Or.inl h⟩
  | i + 1 => by
    obtain ⟨i1, i2, i3, i4⟩ := gi_all (b := b) (T := T) (p := p) i
    rw [gr_st]
    cases hs : (bif T.testBit i then none else stp n al d nd K F kn b T i) with
    | none =>
      refine ⟨i1, i2, fun s c h1 h2 => ?_, i4⟩
      by_cases he : s = i
      · subst he
        rw [(stp_T h2).1, cond_false, h2] at hs
        cases hs
      · exact i3 s c (by omega) h2
    | some c0 =>
      dsimp only
      have hb : T.testBit i = false := by
        cases hq : T.testBit i
        · rfl
        · rw [hq] at hs; cases hs
      rw [hb, cond_false] at hs
      have hne := or_gt hb
      rw [i1]
      refine ⟨by rw [upO_ne (by omega)]; exact i1, fun U v h => ?_, fun s c h1 h2 => ?_, fun U v h => ?_⟩
      · obtain ⟨v', q1, q2⟩ := i2 U v h
        obtain ⟨v2, q3, q4⟩ := upO_low (to := T ||| 2 ^ i) (c := (pj b p T).getD 0 + c0) q1
        exact ⟨v2, q3, by omega⟩
      · by_cases he : s = i
        · subst he
          rw [hs] at h2
          cases h2
          exact upO_to
        · obtain ⟨v', q1, q2⟩ := i3 s c (by omega) h2
          obtain ⟨v2, q3, q4⟩ := upO_low (to := T ||| 2 ^ i) (c := (pj b p T).getD 0 + c0) q1
          exact ⟨v2, q3, by omega⟩
      · rcases upO_or h with q | ⟨q1, q2⟩
        · exact i4 U v q
        · exact Or.inr ⟨i, c0, hs, q1, q2⟩
theorem gk_iff {a : Nat} : ∀ m U, (pj true (grK n d al a nd K F kn m) U).isSome = (pj false (grK n d al a nd K F kn m) U).isSome
  | 0, U => rfl
  | m + 1, U => by
    have ih := gk_iff (a := a) m
    unfold grK
    cases (grK n d al a nd K F kn m).1 (a + m) with
    | none => exact ih U
    | some v => exact (grI_iff (fun k => (ih k).symm) n U).symm
theorem gk_all {b : Bool} {a : Nat} : ∀ m, pj b (grK n d al a nd K F kn m) a = some 0 ∧ (∀ U v, pj b (grK n d al a nd K F kn m) U = some v → Pa (stp n al d nd K F kn b) a U v) ∧ (∀ S s c w, S < a + m → Pa (stp n al d nd K F kn b) a S w → stp n al d nd K F kn b S s = some c → ∃ v, pj b (grK n d al a nd K F kn m) (S ||| 2 ^ s) = some v ∧ v ≤ w + c)
  | 0 => by
    have h0 : pj b (grK n d al a nd K F kn 0) = fun k => if k = a then some 0 else none := by cases b <;> rfl
    rw [h0]
    refine ⟨if_pos rfl, fun U v h => ?_, fun S s c w h1 h2 => ?_⟩
    · dsimp only at h
      split at h
      · rename_i hU; subst hU; cases h; exact Pa.nil _
      · cases h
    · have := pa_ge h2
      omega
  | m + 1 => by
    obtain ⟨i1, i2, i3⟩ := gk_all (b := b) (a := a) m
    have hfor : ∀ w, Pa (stp n al d nd K F kn b) a (a + m) w → ∃ v, pj b (grK n d al a nd K F kn m) (a + m) = some v ∧ v ≤ w := by
      intro w hp
      rcases hp.last with ⟨q1, q2⟩ | ⟨S, s, e, w', q1, q2, q3, q4⟩
      · rw [show a + m = a from q1]; exact ⟨0, i1, Nat.zero_le w⟩
      · have hlt := or_gt (stp_T q2).1
        obtain ⟨v, h1, h2⟩ := i3 S s e w' (by omega) q1 q2
        rw [← q3] at h1
        exact ⟨v, h1, by omega⟩
    have hiff : (pj b (grK n d al a nd K F kn m) (a + m)).isSome = ((grK n d al a nd K F kn m).1 (a + m)).isSome := by
      cases b
      · rfl
      · exact gk_iff m (a + m)
    unfold grK
    cases hv : (grK n d al a nd K F kn m).1 (a + m) with
    | none =>
      refine ⟨i1, i2, fun S s c w h1 h2 h3 => ?_⟩
      by_cases he : S = a + m
      · subst he
        obtain ⟨v, q1, -⟩ := hfor w h2
        rw [q1, hv] at hiff
        cases hiff
      · exact i3 S s c w (by omega) h2 h3
    | some v0 =>
      dsimp only
      obtain ⟨g1, g2, g3, g4⟩ := gi_all (n := n) (al := al) (d := d) (nd := nd) (K := K) (F := F) (kn := kn) (b := b) (T := a + m) (p := grK n d al a nd K F kn m) n
      obtain ⟨u, hu⟩ : ∃ u, pj b (grK n d al a nd K F kn m) (a + m) = some u := Option.isSome_iff_exists.mp (by rw [hiff, hv]; rfl)
      refine ⟨?_, fun U v h => ?_, fun S s c w h1 h2 h3 => ?_⟩
      · obtain ⟨v', q1, q2⟩ := g2 a 0 i1
        rw [q1, show v' = 0 by omega]
      · rcases g4 U v h with q | ⟨s, c, q1, q2, q3⟩
        · exact i2 U v q
        · rw [hu, Option.getD_some] at q3
          rw [q2, q3]
          exact (i2 _ _ hu).snoc q1
      · by_cases he : S = a + m
        · subst he
          obtain ⟨v', q1, q2⟩ := hfor w h2
          obtain ⟨v2, q3, q4⟩ := g3 s c (stp_T h3).2 h3
          rw [q1, Option.getD_some] at q4
          exact ⟨v2, q3, by omega⟩
        · obtain ⟨v, q1, q2⟩ := i3 S s c w (by omega) h2 h3
          obtain ⟨v', q3, q4⟩ := g2 _ _ q1
          exact ⟨v', q3, by omega⟩
theorem gk_min {b : Bool} {a : Nat} (ha : a < 2 ^ n) {U : Nat} : IsMin (pj b (grK n d al a nd K F kn (2 ^ n - a)) U) (fun w => Pa (stp n al d nd K F kn b) a U w) := by
  obtain ⟨i1, i2, i3⟩ := gk_all (n := n) (al := al) (d := d) (nd := nd) (K := K) (F := F) (kn := kn) (b := b) (a := a) (2 ^ n - a)
  have hfor : ∀ w, Pa (stp n al d nd K F kn b) a U w → ∃ v, pj b (grK n d al a nd K F kn (2 ^ n - a)) U = some v ∧ v ≤ w := by
    intro w hp
    rcases hp.last with ⟨q1, q2⟩ | ⟨S, s, e, w', q1, q2, q3, q4⟩
    · rw [q1]; exact ⟨0, i1, Nat.zero_le w⟩
    · have hS := pa_lt q1 ha
      obtain ⟨v, h1, h2⟩ := i3 S s e w' (by omega) q1 q2
      rw [← q3] at h1
      exact ⟨v, h1, by omega⟩
  refine ⟨fun v hv => ⟨i2 U v hv, fun w hw => ?_⟩, fun hn w hw => ?_⟩
  · obtain ⟨u, h1, h2⟩ := hfor w hw
    rw [hv] at h1
    cases h1
    exact h2
  · obtain ⟨u, h1, -⟩ := hfor w hw
    rw [hn] at h1
    cases h1
theorem lw_min {f : Nat → Option Nat} {i : Nat} : ∀ k, IsMin (lwO f i k) (fun w => ∃ U, U < k ∧ U.testBit i = true ∧ f U = some w)
  | 0 => ⟨fun v hv => (by cases hv), fun _ w ⟨U, h, _⟩ => absurd h (Nat.not_lt_zero U)⟩
  | k + 1 => by
    have ih := lw_min (f := f) (i := i) k
    have down : (k.testBit i = false ∨ f k = none) → IsMin (lwO f i k) (fun w => ∃ U, U < k + 1 ∧ U.testBit i = true ∧ f U = some w) := by
      intro hno
      refine ih.iff (fun w => ⟨fun ⟨U, h1, h2⟩ => ⟨U, by omega, h2⟩, fun ⟨U, h1, h2, h3⟩ => ⟨U, ?_, h2, h3⟩⟩)
      by_cases he : U = k
      · subst he
        rcases hno with q | q
        · rw [q] at h2; cases h2
        · rw [q] at h3; cases h3
      · omega
    cases hb : k.testBit i
    · rw [← lwO_f hb]; exact down (Or.inl hb)
    · cases hf : f k with
      | none => rw [← lwO_n hb hf]; exact down (Or.inr hf)
      | some v =>
        have h9 : IsMin (lwO f i (k + 1)) (fun w => w = v ∨ ∃ U, U < k ∧ U.testBit i = true ∧ f U = some w) := by
          have h8 := ih.add (c := v)
          cases hL : lwO f i k with
          | none => rw [hL] at h8; rw [← lwO_0 hb hf hL]; exact h8
          | some w =>
            rw [hL, mnO] at h8
            by_cases hvw : v < w
            · rw [← lwO_l hb hf hL hvw]; rw [decide_eq_true hvw] at h8; exact h8
            · rw [← lwO_g hb hf hL (by omega)]; rw [decide_eq_false hvw] at h8; exact h8
        refine h9.iff (fun w => ⟨fun h => ?_, fun ⟨U, h1, h2, h3⟩ => ?_⟩)
        · rcases h with q | ⟨U, h1, h2⟩
          · exact ⟨k, Nat.lt_succ_self k, hb, by rw [hf, q]⟩
          · exact ⟨U, by omega, h2⟩
        · by_cases he : U = k
          · subst he; rw [hf] at h3; cases h3; exact Or.inl rfl
          · exact Or.inr ⟨U, by omega, h2, h3⟩
/-- a sentence's way, by either -/
theorem lwp_min {b : Bool} {a i : Nat} (ha : a < 2 ^ n) : IsMin (lwO (pj b (grK n d al a nd K F kn (2 ^ n - a))) i (2 ^ n)) (fun w => ∃ U, (∀ j, (2 ^ i).testBit j = true → U.testBit j = true) ∧ Pa (stp n al d nd K F kn b) a U w) := by
  refine (lw_min (2 ^ n)).grow ?_ ?_
  · rintro w ⟨U, h1, h2, h3⟩
    refine ⟨U, fun j hj => ?_, ((gk_min (b := b) ha).1 w h3).1⟩
    rw [Nat.testBit_two_pow, decide_eq_true_eq] at hj
    subst hj
    exact h2
  · rintro w ⟨U, h1, h2⟩
    have hm := gk_min (n := n) (al := al) (d := d) (nd := nd) (K := K) (F := F) (kn := kn) (b := b) ha (U := U)
    cases hf : pj b (grK n d al a nd K F kn (2 ^ n - a)) U with
    | none => exact absurd h2 (hm.2 hf w)
    | some v => exact ⟨v, ⟨U, pa_lt h2 ha, h1 i (by simp), hf⟩, (hm.1 v hf).2 w h2⟩
end FORE
