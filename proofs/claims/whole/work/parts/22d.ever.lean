/-! what could come: the class' chances and the model's -/
theorem mt_s2 (o : Option Nat) (e : Nat) : (match o with | none => some e | some v => bif decide (e < v) then some e else some v).isSome = true := by
  cases o with
  | none => rfl
  | some v =>
    dsimp only
    cases decide (e < v) <;> rfl
theorem me_self (kn nd : Nat) : meB nd kn nd = true := by
  unfold meB
  rw [beq_iff_eq]
  apply Nat.eq_of_testBit_eq
  intro i
  rw [sdf_bit, Nat.testBit_or, Nat.zero_testBit]
  cases nd.testBit i <;> simp
theorem me_sd (T kn nd : Nat) : (sdf (sdf nd kn) T == 0) = meB T kn nd := by
  unfold meB
  have h : sdf (sdf nd kn) T = sdf nd (T ||| kn) := by
    apply Nat.eq_of_testBit_eq
    intro i
    simp only [sdf_bit, Nat.testBit_or]
    cases nd.testBit i <;> cases kn.testBit i <;> cases T.testBit i <;> rfl
  rw [h]
theorem cd_eq {k f T kn nd s : Nat} (h1 : T.testBit s = false) (h2 : nd.testBit s = false) : (maB k f T kn nd s && siB k T kn nd false) = (cdB k f kn nd s && meB T kn nd) := by
  have hm := me_self kn nd
  unfold cdB
  cases hT : meB T kn nd
  · have hs : siB k T kn nd false = false := by
      unfold siB
      split
      · rfl
      · rw [hT]; rfl
      · exact hT
    rw [hs, Bool.and_false, Bool.and_false]
  · have hs : siB k T kn nd false = siB k nd kn nd false := by
      unfold siB
      rw [hT, hm]
    have ha : maB k f T kn nd s = maB k f nd kn nd s := by
      unfold maB plB
      rw [hT, hm, h1, h2]
    rw [hs, ha, Bool.and_true]
theorem cn_at {k f kn q : Nat} {nd : Nat → Nat} {L : Nat → Option Nat} {q' s : Nat} (hs : s < 9) : ∀ m, m ≤ 9 → cnL k f kn q nd m L (q' * 9 + s) = bif decide (q' = q) && (decide (s < m) && cdB k f kn (nd s) s) then some (sdf (nd s) kn) else L (q' * 9 + s)
  | 0, _ => by simp [cnL]
  | m + 1, hm => by
    have ih := cn_at (k := k) (f := f) (kn := kn) (q := q) (nd := nd) (L := L) (q' := q') hs m (by omega)
    unfold cnL
    by_cases hc : cdB k f kn (nd m) m = true
    · rw [hc, cond_true]
      by_cases he : q' * 9 + s = q * 9 + m
      · obtain ⟨rfl, rfl⟩ : q' = q ∧ s = m := by omega
        rw [va_up_self, hc]
        simp
      · rw [va_up_ne _ _ he, ih]
        by_cases hq : q' = q
        · have hsm : s ≠ m := fun z => he (by rw [hq, z])
          rw [show decide (s < m + 1) = decide (s < m) from decide_eq_decide.mpr (by omega)]
        · simp [hq]
    · have hc' : cdB k f kn (nd m) m = false := by simpa using hc
      rw [hc', cond_false, ih]
      by_cases hsm : s = m
      · subst hsm
        rw [hc']
        simp
      · rw [show decide (s < m + 1) = decide (s < m) from decide_eq_decide.mpr (by omega)]
theorem cne_at {k f kn q : Nat} {nd : Nat → Nat} {L : Nat → Nat} {q' s : Nat} (hs : s < 9) : ∀ m, m ≤ 9 → cnE k f kn q nd m L (q' * 9 + s) = bif decide (q' = q) && (decide (s < m) && cdB k f kn (nd s) s) then efN k f (pcN (nd s)) else L (q' * 9 + s)
  | 0, _ => by simp [cnE]
  | m + 1, hm => by
    have ih := cne_at (k := k) (f := f) (kn := kn) (q := q) (nd := nd) (L := L) (q' := q') hs m (by omega)
    unfold cnE
    by_cases hc : cdB k f kn (nd m) m = true
    · rw [hc, cond_true]
      by_cases he : q' * 9 + s = q * 9 + m
      · obtain ⟨rfl, rfl⟩ : q' = q ∧ s = m := by omega
        rw [va_up_self, hc]
        simp
      · rw [va_up_ne _ _ he, ih]
        by_cases hq : q' = q
        · have hsm : s ≠ m := fun z => he (by rw [hq, z])
          rw [show decide (s < m + 1) = decide (s < m) from decide_eq_decide.mpr (by omega)]
        · simp [hq]
    · have hc' : cdB k f kn (nd m) m = false := by simpa using hc
      rw [hc', cond_false, ih]
      by_cases hsm : s = m
      · subst hsm
        rw [hc']
        simp
      · rw [show decide (s < m + 1) = decide (s < m) from decide_eq_decide.mpr (by omega)]
section CHANCE
variable {DL : List Nat} {kd fg : Nat → Nat} {n d t al day : Nat} {nd : Nat → Nat} {mk si : Nat → Int32} {kn : Nat → Nat} {mb : Nat → Option Nat} {bb oo : Nat → Int32} {K F : Nat → Nat} {ef : Nat → Nat}
theorem lk_at (h : RS DL kd fg n d t mk si mb bb oo K F) (hn : n ≤ 9) (hal : al < 2 ^ d) {j s : Nat} (hs : s < 9) : ∀ i, lkI n al nd kn mb kd fg i (j * 9 + s) = bif decide (j < i) && (al.testBit j && (decide (s < n) && cdB (K j) (F j) (kn j) (nd s) s)) then some (sdf (nd s) (kn j)) else none
  | 0 => by simp [lkI]
  | i + 1 => by
    have ih := lk_at h hn hal (j := j) hs i
    unfold lkI
    cases ha : al.testBit i
    · rw [cond_false, ih]
      by_cases hj : j = i
      · subst hj; rw [ha]; simp
      · rw [show decide (j < i + 1) = decide (j < i) from decide_eq_decide.mpr (by omega)]
    · have hid : i < d := tb_lt hal ha
      obtain ⟨a, h1, -, h2, h3⟩ := h.2.2.1 i hid
      rw [cond_true, h1]
      dsimp only
      rw [cn_at hs n hn, ih, h2, h3]
      by_cases hj : j = i
      · subst hj; rw [ha]; simp
      · rw [show decide (j < i + 1) = decide (j < i) from decide_eq_decide.mpr (by omega), decide_eq_false hj]
        rfl
theorem ef_at (h : RS DL kd fg n d t mk si mb bb oo K F) (hn : n ≤ 9) (hal : al < 2 ^ d) {j s : Nat} (hs : s < 9) : ∀ i, efI n al nd kn mb kd fg ef i (j * 9 + s) = bif decide (j < i) && (al.testBit j && (decide (s < n) && cdB (K j) (F j) (kn j) (nd s) s)) then efN (K j) (F j) (pcN (nd s)) else ef (j * 9 + s)
  | 0 => by simp [efI]
  | i + 1 => by
    have ih := ef_at h hn hal (j := j) hs i
    unfold efI
    cases ha : al.testBit i
    · rw [cond_false, ih]
      by_cases hj : j = i
      · subst hj; rw [ha]; simp
      · rw [show decide (j < i + 1) = decide (j < i) from decide_eq_decide.mpr (by omega)]
    · have hid : i < d := tb_lt hal ha
      obtain ⟨a, h1, -, h2, h3⟩ := h.2.2.1 i hid
      rw [cond_true, h1]
      dsimp only
      rw [cne_at hs n hn, ih, h2, h3]
      by_cases hj : j = i
      · subst hj; rw [ha]; simp
      · rw [show decide (j < i + 1) = decide (j < i) from decide_eq_decide.mpr (by omega), decide_eq_false hj]
        rfl
end CHANCE
/-- the model's silencing of s at T, told by the class' word -/
theorem sm_bit {n T al j s : Nat} {nd K F kn : Nat → Nat} (hT : T.testBit s = false) (hnd : (nd s).testBit s = false) : (smN n T al nd K F kn false j).testBit s = (al.testBit j && (decide (s < n) && (cdB (K j) (F j) (kn j) (nd s) s && meB T (kn j) (nd s)))) := by
  unfold smN
  rw [orF_bit, hT]
  unfold mnB
  have h := cd_eq (k := K j) (f := F j) (kn := kn j) hT hnd
  rw [← h]
  cases decide (s < n) <;> cases al.testBit j <;> cases maB (K j) (F j) T (kn j) (nd s) s <;> rfl
theorem sm_bit0 {n T al j s : Nat} {nd K F kn : Nat → Nat} (hT : T.testBit s = true) : (smN n T al nd K F kn false j).testBit s = false := by
  unfold smN
  rw [orF_bit, hT]
  simp
theorem le_0 {n T al s : Nat} {nd K F kn : Nat → Nat} (h : ∀ j, (smN n T al nd K F kn false j).testBit s = false) : ∀ k, leS n T al nd K F kn s k = none
  | 0 => rfl
  | k + 1 => by rw [leS, h k]; exact le_0 h k
section CHANCE2
variable {DL : List Nat} {kd fg : Nat → Nat} {n d t al day : Nat} {nd : Nat → Nat} {mk si : Nat → Int32} {kn : Nat → Nat} {mb : Nat → Option Nat} {bb oo : Nat → Int32} {K F : Nat → Nat} {ef : Nat → Nat}
theorem ch_le (h : RS DL kd fg n d t mk si mb bb oo K F) (hn : n ≤ 9) (hd : d ≤ 6) (hal : al < 2 ^ d) {T s : Nat} (hs : s < 9) (hT : T.testBit s = false) (hnd : (nd s).testBit s = false) : ∀ k, k ≤ 6 → chF (lkI n al nd kn mb kd fg 6) (efI n al nd kn mb kd fg ef 6) T s k = leS n T al nd K F kn s k
  | 0, _ => rfl
  | k + 1, hk => by
    have ih := ch_le h hn hd hal hs hT hnd k (by omega)
    unfold chF leS
    rw [show s + 9 * k = k * 9 + s by omega, lk_at h hn hal hs 6, ef_at h hn hal hs 6, ih, sm_bit hT hnd, decide_eq_true (show k < 6 by omega)]
    cases al.testBit k
    · rfl
    · cases decide (s < n)
      · rfl
      · cases cdB (K k) (F k) (kn k) (nd s) s
        · rfl
        · simp only [Bool.true_and, cond_true, me_sd]
          cases leS n T al nd K F kn s k <;> rfl
theorem ch_7 (h : RS DL kd fg n d t mk si mb bb oo K F) (hn : n ≤ 9) (hd : d ≤ 6) (hal : al < 2 ^ d) {T s : Nat} (hs : s < 9) (hnds : ∀ i, (nd i).testBit i = false) : chE (lkI n al nd kn mb kd fg 6) (efI n al nd kn mb kd fg ef 6) T s = leS n T al nd K F kn s d := by
  unfold chE
  cases hT : T.testBit s
  · rw [cond_false]
    have h6 : lkI n al nd kn mb kd fg 6 (6 * 9 + s) = none := by rw [lk_at h hn hal hs 6]; rfl
    have h7 : chF (lkI n al nd kn mb kd fg 6) (efI n al nd kn mb kd fg ef 6) T s 7 = chF (lkI n al nd kn mb kd fg 6) (efI n al nd kn mb kd fg ef 6) T s 6 := by
      rw [chF, show s + 9 * 6 = 6 * 9 + s by omega, h6]
    rw [h7, ch_le h hn hd hal hs hT (hnds s) 6 (Nat.le_refl 6)]
    have hm : ∀ m, leS n T al nd K F kn s (d + m) = leS n T al nd K F kn s d := by
      intro m
      induction m with
      | zero => rfl
      | succ m ih =>
        show leS n T al nd K F kn s ((d + m) + 1) = _
        rw [leS, sm_bit hT (hnds s), ← ih]
        have : al.testBit (d + m) = false := by
          cases ha : al.testBit (d + m)
          · rfl
          · have := tb_lt hal ha; omega
        rw [this]
        rfl
    have h9 := hm (6 - d)
    rw [show d + (6 - d) = 6 by omega] at h9
    exact h9
  · rw [cond_true]
    exact (le_0 (fun j => sm_bit0 hT) d).symm
end CHANCE2
/-! the closure, by rounds of either kind -/
theorem me_mono {T T' kn nd : Nat} (h : ∀ i, T.testBit i = true → T'.testBit i = true) (hm : meB T kn nd = true) : meB T' kn nd = true := by
  unfold meB at hm ⊢
  rw [beq_iff_eq] at hm ⊢
  apply Nat.eq_of_testBit_eq
  intro i
  have h1 : (sdf nd (T ||| kn)).testBit i = false := by rw [hm]; exact Nat.zero_testBit i
  rw [sdf_bit, Nat.testBit_or] at h1
  rw [sdf_bit, Nat.testBit_or, Nat.zero_testBit]
  have h2 := h i
  cases hn : nd.testBit i
  · rfl
  · cases hk : kn.testBit i
    · cases hT : T.testBit i
      · rw [hn, hk, hT] at h1; cases h1
      · rw [h2 hT]; rfl
    · simp
theorem le_some {n T al i : Nat} {nd K F kn : Nat → Nat} : ∀ k, (leS n T al nd K F kn i k).isSome = true ↔ ∃ j, j < k ∧ (smN n T al nd K F kn false j).testBit i = true
  | 0 => ⟨fun h => (by cases h), fun ⟨j, h, _⟩ => absurd h (Nat.not_lt_zero j)⟩
  | k + 1 => by
    have ih := le_some (n := n) (T := T) (al := al) (i := i) (nd := nd) (K := K) (F := F) (kn := kn) k
    unfold leS
    cases hb : (smN n T al nd K F kn false k).testBit i
    · rw [cond_false, ih]
      constructor
      · rintro ⟨j, h1, h2⟩
        exact ⟨j, by omega, h2⟩
      · rintro ⟨j, h1, h2⟩
        refine ⟨j, ?_, h2⟩
        by_cases he : j = k
        · subst he; rw [hb] at h2; cases h2
        · omega
    · rw [cond_true]
      exact ⟨fun _ => ⟨k, Nat.lt_succ_self k, hb⟩, fun _ => mt_s2 _ _⟩
theorem sm_A {n T al i : Nat} {nd K F kn : Nat → Nat} {a : Nat} : ∀ k, (smA n T al nd K F kn k a).testBit i = (a.testBit i || (leS n T al nd K F kn i k).isSome)
  | 0 => by simp [smA, leS]
  | k + 1 => by
    have ih := sm_A (n := n) (T := T) (al := al) (i := i) (nd := nd) (K := K) (F := F) (kn := kn) (a := a) k
    unfold smA leS
    rw [Nat.testBit_or, ih]
    cases hb : (smN n T al nd K F kn false k).testBit i
    · rw [cond_false, Bool.or_false]
    · rw [cond_true, Bool.or_true]
      exact ((congrArg (fun x9 => a.testBit i || x9) (mt_s2 _ _)).trans (Bool.or_true _)).symm
section EV
variable {n d al t : Nat} {nd K F kn : Nat → Nat}
theorem ev_bit {k i : Nat} : (evN n al d nd K F kn (k + 1) t).testBit i = ((evN n al d nd K F kn k t).testBit i || (leS n (evN n al d nd K F kn k t) al nd K F kn i d).isSome) := sm_A d
theorem le_n {T i : Nat} (h : (leS n T al nd K F kn i d).isSome = true) : i < n := by
  obtain ⟨j, -, h2⟩ := (le_some d).mp h
  unfold smN at h2
  rw [orF_bit, Bool.and_eq_true, decide_eq_true_eq] at h2
  exact h2.1
theorem le_T {T i : Nat} (h : (leS n T al nd K F kn i d).isSome = true) : T.testBit i = false := by
  obtain ⟨j, -, h2⟩ := (le_some d).mp h
  cases hT : T.testBit i
  · rfl
  · rw [sm_bit0 hT] at h2; cases h2
theorem le_mono {T T' i : Nat} (hnd : ∀ i, (nd i).testBit i = false) (h : ∀ i, T.testBit i = true → T'.testBit i = true) (hs : (leS n T al nd K F kn i d).isSome = true) : T'.testBit i = true ∨ (leS n T' al nd K F kn i d).isSome = true := by
  have hT := le_T hs
  obtain ⟨j, h1, h2⟩ := (le_some d).mp hs
  cases hT' : T'.testBit i
  · right
    rw [sm_bit hT (hnd i)] at h2
    simp only [Bool.and_eq_true] at h2
    obtain ⟨q1, q2, q3, q4⟩ := h2
    refine (le_some d).mpr ⟨j, h1, ?_⟩
    rw [sm_bit hT' (hnd i), q1, q2, q3, me_mono h q4]
    rfl
  · exact Or.inl rfl
theorem ev_ge {k i : Nat} (h : (evN n al d nd K F kn k t).testBit i = true) : (evN n al d nd K F kn (k + 1) t).testBit i = true := by rw [ev_bit, h]; rfl
theorem ev_new (hn : n ≤ 9) (r : Nat) : evN n al d nd K F kn (r + 1) t = evN n al d nd K F kn r t ∨ ∃ i, i < 9 ∧ (evN n al d nd K F kn r t).testBit i = false ∧ (evN n al d nd K F kn (r + 1) t).testBit i = true := by
  by_cases hall : ∀ i, (leS n (evN n al d nd K F kn r t) al nd K F kn i d).isSome = true → (evN n al d nd K F kn r t).testBit i = true
  · left
    apply Nat.eq_of_testBit_eq
    intro i
    rw [ev_bit]
    cases hl : (leS n (evN n al d nd K F kn r t) al nd K F kn i d).isSome
    · rw [Bool.or_false]
    · rw [hall i hl]; rfl
  · right
    obtain ⟨i, hi⟩ := Classical.not_forall.mp hall
    obtain ⟨h1, h2⟩ := Classical.not_imp.mp hi
    have h3 : (evN n al d nd K F kn r t).testBit i = false := by simpa using h2
    exact ⟨i, Nat.lt_of_lt_of_le (le_n h1) hn, h3, by rw [ev_bit, h1, h3]; rfl⟩
theorem ev_n (hn : n ≤ 9) : ∀ r, evN n al d nd K F kn (r + 1) t = evN n al d nd K F kn r t ∨ r + 1 ≤ cb 9 (evN n al d nd K F kn (r + 1) t)
  | 0 => by
    rcases ev_new (al := al) (d := d) (nd := nd) (K := K) (F := F) (kn := kn) (t := t) hn 0 with h | ⟨i, h1, h2, h3⟩
    · exact Or.inl h
    · right
      have h4 := cb_lt (fun i hi => ev_ge hi) h2 h3 9 h1
      exact Nat.lt_of_le_of_lt (Nat.zero_le _) h4
  | r + 1 => by
    rcases ev_n hn r with h | h
    · left
      show smA n (evN n al d nd K F kn (r + 1) t) al nd K F kn d (evN n al d nd K F kn (r + 1) t) = _
      rw [h]
      exact h
    · rcases ev_new (al := al) (d := d) (nd := nd) (K := K) (F := F) (kn := kn) (t := t) hn (r + 1) with q | ⟨i, h1, h2, h3⟩
      · exact Or.inl q
      · right
        have h4 := cb_lt (fun i hi => ev_ge hi) h2 h3 9 h1
        exact Nat.lt_of_le_of_lt h h4
theorem ev_9 (hn : n ≤ 9) : evN n al d nd K F kn 10 t = evN n al d nd K F kn 9 t := by
  rcases ev_n (al := al) (d := d) (nd := nd) (K := K) (F := F) (kn := kn) (t := t) hn 9 with h | h
  · exact h
  · exact absurd (Nat.le_trans h (cb_le _ 9)) (by decide)
theorem ev_512 (hn : n ≤ 9) : evN n al d nd K F kn 512 t = evN n al d nd K F kn 9 t := by
  have h := evN_st (k := 9) (ev_9 (al := al) (d := d) (nd := nd) (K := K) (F := F) (kn := kn) (t := t) hn) 503
  exact h
theorem ev_cl (hn : n ≤ 9) {i : Nat} (h : (leS n (evN n al d nd K F kn 512 t) al nd K F kn i d).isSome = true) : (evN n al d nd K F kn 512 t).testBit i = true := by
  rw [ev_512 hn] at h ⊢
  rw [← ev_9 hn, ev_bit, h, Bool.or_true]
variable {lk : Nat → Option Nat} {ef : Nat → Nat}
theorem ra_sub (hn : n ≤ 9) (hnd : ∀ i, (nd i).testBit i = false) (hch : ∀ T s, s < 9 → chE lk ef T s = leS n T al nd K F kn s d) : ∀ s X, s ≤ 9 → (∀ i, X.testBit i = true → (evN n al d nd K F kn 512 t).testBit i = true) → ∀ i, (raI lk ef s X).testBit i = true → (evN n al d nd K F kn 512 t).testBit i = true
  | 0, _, _, h => h
  | s + 1, X, hs, h => by
    have ih := ra_sub hn hnd hch s X (by omega) h
    intro i hi
    unfold raI at hi
    rw [hch _ s (by omega)] at hi
    cases hl : leS n (raI lk ef s X) al nd K F kn s d with
    | none => rw [hl] at hi; exact ih i hi
    | some e =>
      rw [hl] at hi
      dsimp only at hi
      rw [or_b] at hi
      cases hx : (raI lk ef s X).testBit i
      · rw [hx, Bool.false_or, decide_eq_true_eq] at hi
        subst hi
        rcases le_mono hnd ih (show (leS n (raI lk ef s X) al nd K F kn s d).isSome = true by rw [hl]; rfl) with q | q
        · exact q
        · exact ev_cl hn q
      · exact ih i hx
theorem ra_R (hn : n ≤ 9) (hnd : ∀ i, (nd i).testBit i = false) (hch : ∀ T s, s < 9 → chE lk ef T s = leS n T al nd K F kn s d) (ht : ∀ i, t.testBit i = true → (evN n al d nd K F kn 512 t).testBit i = true) : ∀ r, ∀ i, (raR lk ef r t).testBit i = true → (evN n al d nd K F kn 512 t).testBit i = true
  | 0 => ht
  | r + 1 => ra_sub hn hnd hch 9 _ (Nat.le_refl 9) (ra_R hn hnd hch ht r)
theorem ra_ge : ∀ s X i, X.testBit i = true → (raI lk ef s X).testBit i = true
  | 0, _, _, h => h
  | s + 1, X, i, h => by
    have ih := ra_ge s X i h
    unfold raI
    split
    · exact ih
    · rw [or_b, ih]; rfl
theorem ra_in (hnd : ∀ i, (nd i).testBit i = false) (hch : ∀ T s, s < 9 → chE lk ef T s = leS n T al nd K F kn s d) {X i : Nat} (hi : (leS n X al nd K F kn i d).isSome = true) : ∀ s, s ≤ 9 → i < s → (raI lk ef s X).testBit i = true
  | s + 1, hs, his => by
    unfold raI
    rw [hch _ s (by omega)]
    by_cases he : i = s
    · subst he
      rcases le_mono hnd (ra_ge (lk := lk) (ef := ef) i X) hi with q | q
      · split
        · exact q
        · rw [or_b, q]; rfl
      · obtain ⟨e, he⟩ := Option.isSome_iff_exists.mp q
        rw [he]
        dsimp only
        rw [or_b]
        simp
    · have ih := ra_in hnd hch hi s (by omega) (by omega)
      split
      · exact ih
      · rw [or_b, ih]; rfl
theorem ev_sub (hn : n ≤ 9) (hnd : ∀ i, (nd i).testBit i = false) (hch : ∀ T s, s < 9 → chE lk ef T s = leS n T al nd K F kn s d) : ∀ r i, (evN n al d nd K F kn r t).testBit i = true → (raR lk ef r t).testBit i = true
  | 0, _, h => h
  | r + 1, i, h => by
    have ih := ev_sub hn hnd hch r
    show (raI lk ef 9 (raR lk ef r t)).testBit i = true
    rw [ev_bit] at h
    cases hx : (evN n al d nd K F kn r t).testBit i
    · rw [hx, Bool.false_or] at h
      rcases le_mono hnd ih h with q | q
      · exact ra_ge 9 _ i q
      · exact ra_in hnd hch q 9 (Nat.le_refl 9) (Nat.lt_of_lt_of_le (le_n h) hn)
    · exact ra_ge 9 _ i (ih i hx)
theorem ev_ra (hn : n ≤ 9) (hnd : ∀ i, (nd i).testBit i = false) (hch : ∀ T s, s < 9 → chE lk ef T s = leS n T al nd K F kn s d) : raR lk ef 9 t = evN n al d nd K F kn 512 t := by
  have hge : ∀ k i, t.testBit i = true → (evN n al d nd K F kn k t).testBit i = true := by
    intro k
    induction k with
    | zero => intro i h; exact h
    | succ k ih => intro i h; exact ev_ge (ih i h)
  apply Nat.eq_of_testBit_eq
  intro i
  cases h1 : (evN n al d nd K F kn 512 t).testBit i
  · cases h2 : (raR lk ef 9 t).testBit i
    · rfl
    · rw [ra_R hn hnd hch (hge 512) 9 i h2] at h1; cases h1
  · rw [ev_512 hn] at h1
    exact ev_sub hn hnd hch 9 i h1
end EV
