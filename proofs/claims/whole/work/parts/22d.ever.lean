/-! what could come: the class' chances and the model's -/
theorem me_self (kn nd : Nat) : meB nd kn nd = true := by
  unfold meB
  rw [beq_iff_eq]
  apply Nat.eq_of_testBit_eq
  intro i
  rw [sdf_bit, Nat.testBit_or, Nat.zero_testBit]
  cases nd.testBit i <;> simp
theorem me_sd (T kn nd : Nat) : (sdf (sdf nd kn) T == 0) = meB T kn nd := by
  unfold meB
  have h : sdf (sdf nd kn) T = sdf nd (T ||| kn) := by
    apply Nat.eq_of_testBit_eq
    intro i
    simp only [sdf_bit, Nat.testBit_or]
    cases nd.testBit i <;> cases kn.testBit i <;> cases T.testBit i <;> rfl
  rw [h]
theorem cd_eq {k f T kn nd s : Nat} (h1 : T.testBit s = false) (h2 : nd.testBit s = false) : (maB k f T kn nd s && siB k T kn nd false) = (cdB k f kn nd s && meB T kn nd) := by
  have hm := me_self kn nd
  unfold cdB
  cases hT : meB T kn nd
  · have hs : siB k T kn nd false = false := by
      unfold siB
      split
      · rfl
      · rw [hT]; rfl
      · exact hT
    rw [hs, Bool.and_false, Bool.and_false]
  · have hs : siB k T kn nd false = siB k nd kn nd false := by
      unfold siB
      rw [hT, hm]
    have ha : maB k f T kn nd s = maB k f nd kn nd s := by
      unfold maB plB
      rw [hT, hm, h1, h2]
    rw [hs, ha, Bool.and_true]
theorem cn_at {k f kn q : Nat} {nd : Nat → Nat} {L : Nat → Option Nat} {q' s : Nat} (hs : s < 9) : ∀ m, m ≤ 9 → cnL k f kn q nd m L (q' * 9 + s) = bif decide (q' = q) && (decide (s < m) && cdB k f kn (nd s) s) then some (sdf (nd s) kn) else L (q' * 9 + s)
  | 0, _ => by simp [cnL]
  | m + 1, hm => by
    have ih := cn_at (k := k) (f := f) (kn := kn) (q := q) (nd := nd) (L := L) (q' := q') hs m (by omega)
    unfold cnL
    by_cases hc : cdB k f kn (nd m) m = true
    · rw [hc, cond_true]
      by_cases he : q' * 9 + s = q * 9 + m
      · obtain ⟨rfl, rfl⟩ : q' = q ∧ s = m := by omega
        rw [va_up_self, hc]
        simp
      · rw [va_up_ne _ _ he, ih]
        by_cases hq : q' = q
        · have hsm : s ≠ m := fun z => he (by rw [hq, z])
          rw [show decide (s < m + 1) = decide (s < m) from decide_eq_decide.mpr (by omega)]
        · simp [hq]
    · have hc' : cdB k f kn (nd m) m = false := by simpa using hc
      rw [hc', cond_false, ih]
      by_cases hsm : s = m
      · subst hsm
        rw [hc']
        simp
      · rw [show decide (s < m + 1) = decide (s < m) from decide_eq_decide.mpr (by omega)]
theorem cne_at {k f kn q : Nat} {nd : Nat → Nat} {L : Nat → Nat} {q' s : Nat} (hs : s < 9) : ∀ m, m ≤ 9 → cnE k f kn q nd m L (q' * 9 + s) = bif decide (q' = q) && (decide (s < m) && cdB k f kn (nd s) s) then efN k f (pcN (nd s)) else L (q' * 9 + s)
  | 0, _ => by simp [cnE]
  | m + 1, hm => by
    have ih := cne_at (k := k) (f := f) (kn := kn) (q := q) (nd := nd) (L := L) (q' := q') hs m (by omega)
    unfold cnE
    by_cases hc : cdB k f kn (nd m) m = true
    · rw [hc, cond_true]
      by_cases he : q' * 9 + s = q * 9 + m
      · obtain ⟨rfl, rfl⟩ : q' = q ∧ s = m := by omega
        rw [va_up_self, hc]
        simp
      · rw [va_up_ne _ _ he, ih]
        by_cases hq : q' = q
        · have hsm : s ≠ m := fun z => he (by rw [hq, z])
          rw [show decide (s < m + 1) = decide (s < m) from decide_eq_decide.mpr (by omega)]
        · simp [hq]
    · have hc' : cdB k f kn (nd m) m = false := by simpa using hc
      rw [hc', cond_false, ih]
      by_cases hsm : s = m
      · subst hsm
        rw [hc']
        simp
      · rw [show decide (s < m + 1) = decide (s < m) from decide_eq_decide.mpr (by omega)]
section CHANCE
variable {DL : List Nat} {kd fg : Nat → Nat} {n d t al day : Nat} {nd : Nat → Nat} {mk si : Nat → Int32} {kn : Nat → Nat} {mb : Nat → Option Nat} {bb oo : Nat → Int32} {K F : Nat → Nat} {ef : Nat → Nat}
theorem lk_at (h : RS DL kd fg n d t mk si mb bb oo K F) (hn : n ≤ 9) (hal : al < 2 ^ d) {j s : Nat} (hs : s < 9) : ∀ i, lkI n al nd kn mb kd fg i (j * 9 + s) = bif decide (j < i) && (al.testBit j && (decide (s < n) && cdB (K j) (F j) (kn j) (nd s) s)) then some (sdf (nd s) (kn j)) else none
  | 0 => by simp [lkI]
  | i + 1 => by
    have ih := lk_at h hn hal (nd := nd) (kn := kn) (j := j) hs i
    unfold lkI
    cases ha : al.testBit i
    · rw [cond_false, ih]
      by_cases hj : j = i
      · subst hj; rw [ha]; simp
      · rw [show decide (j < i + 1) = decide (j < i) from decide_eq_decide.mpr (by omega)]
    · have hid : i < d := tb_lt hal ha
      obtain ⟨a, h1, -, h2, h3⟩ := h.2.2.1 i hid
      rw [cond_true, h1]
      dsimp only
      rw [cn_at hs n hn, ih, h2, h3]
      by_cases hj : j = i
      · subst hj; rw [ha]; simp
      · rw [show decide (j < i + 1) = decide (j < i) from decide_eq_decide.mpr (by omega), decide_eq_false hj]
        rfl
theorem ef_at (h : RS DL kd fg n d t mk si mb bb oo K F) (hn : n ≤ 9) (hal : al < 2 ^ d) {j s : Nat} (hs : s < 9) : ∀ i, efI n al nd kn mb kd fg ef i (j * 9 + s) = bif decide (j < i) && (al.testBit j && (decide (s < n) && cdB (K j) (F j) (kn j) (nd s) s)) then efN (K j) (F j) (pcN (nd s)) else ef (j * 9 + s)
  | 0 => by simp [efI]
  | i + 1 => by
    have ih := ef_at h hn hal (nd := nd) (kn := kn) (j := j) hs i
    unfold efI
    cases ha : al.testBit i
    · rw [cond_false, ih]
      by_cases hj : j = i
      · subst hj; rw [ha]; simp
      · rw [show decide (j < i + 1) = decide (j < i) from decide_eq_decide.mpr (by omega)]
    · have hid : i < d := tb_lt hal ha
      obtain ⟨a, h1, -, h2, h3⟩ := h.2.2.1 i hid
      rw [cond_true, h1]
      dsimp only
      rw [cne_at hs n hn, ih, h2, h3]
      by_cases hj : j = i
      · subst hj; rw [ha]; simp
      · rw [show decide (j < i + 1) = decide (j < i) from decide_eq_decide.mpr (by omega), decide_eq_false hj]
        rfl
end CHANCE
/-- the model's silencing of s at T, told by the class' word -/
theorem sm_bit {n T al j s : Nat} {nd K F kn : Nat → Nat} (hT : T.testBit s = false) (hnd : (nd s).testBit s = false) : (smN n T al nd K F kn false j).testBit s = (al.testBit j && (decide (s < n) && (cdB (K j) (F j) (kn j) (nd s) s && meB T (kn j) (nd s)))) := by
  unfold smN
  rw [orF_bit, hT]
  unfold mnB
  have h := cd_eq (k := K j) (f := F j) (kn := kn j) hT hnd
  rw [← h]
  cases decide (s < n) <;> cases al.testBit j <;> cases maB (K j) (F j) T (kn j) (nd s) s <;> rfl
theorem sm_bit0 {n T al j s : Nat} {nd K F kn : Nat → Nat} (hT : T.testBit s = true) : (smN n T al nd K F kn false j).testBit s = false := by
  unfold smN
  rw [orF_bit, hT]
  simp
theorem le_0 {n T al s : Nat} {nd K F kn : Nat → Nat} (h : ∀ j, (smN n T al nd K F kn false j).testBit s = false) : ∀ k, leS n T al nd K F kn s k = none
  | 0 => rfl
  | k + 1 => by rw [leS, h k]; exact le_0 h k
section CHANCE2
variable {DL : List Nat} {kd fg : Nat → Nat} {n d t al day : Nat} {nd : Nat → Nat} {mk si : Nat → Int32} {kn : Nat → Nat} {mb : Nat → Option Nat} {bb oo : Nat → Int32} {K F : Nat → Nat} {ef : Nat → Nat}
theorem ch_le (h : RS DL kd fg n d t mk si mb bb oo K F) (hn : n ≤ 9) (hd : d ≤ 6) (hal : al < 2 ^ d) {T s : Nat} (hs : s < 9) (hT : T.testBit s = false) (hnd : (nd s).testBit s = false) : ∀ k, k ≤ 6 → chF (lkI n al nd kn mb kd fg 6) (efI n al nd kn mb kd fg ef 6) T s k = leS n T al nd K F kn s k
  | 0, _ => rfl
  | k + 1, hk => by
    have ih := ch_le h hn hd hal (nd := nd) (kn := kn) (ef := ef) hs hT hnd k (by omega)
    unfold chF leS
    rw [show s + 9 * k = k * 9 + s by omega, lk_at h hn hal hs 6, ef_at h hn hal hs 6, ih, sm_bit hT hnd, decide_eq_true (show k < 6 by omega)]
    cases al.testBit k
    · rfl
    · cases decide (s < n)
      · rfl
      · cases cdB (K k) (F k) (kn k) (nd s) s
        · rfl
        · simp only [Bool.true_and, cond_true, me_sd]
theorem ch_7 (h : RS DL kd fg n d t mk si mb bb oo K F) (hn : n ≤ 9) (hd : d ≤ 6) (hal : al < 2 ^ d) {T s : Nat} (hs : s < 9) (hnds : ∀ i, (nd i).testBit i = false) : chE (lkI n al nd kn mb kd fg 6) (efI n al nd kn mb kd fg ef 6) T s = leS n T al nd K F kn s d := by
  unfold chE
  cases hT : T.testBit s
  · rw [cond_false]
    have h6 : lkI n al nd kn mb kd fg 6 (6 * 9 + s) = none := by rw [lk_at h hn hal hs 6]; rfl
    have h7 : chF (lkI n al nd kn mb kd fg 6) (efI n al nd kn mb kd fg ef 6) T s 7 = chF (lkI n al nd kn mb kd fg 6) (efI n al nd kn mb kd fg ef 6) T s 6 := by
      rw [chF, show s + 9 * 6 = 6 * 9 + s by omega, h6]
    rw [h7, ch_le h hn hd hal hs hT (hnds s) 6 (Nat.le_refl 6)]
    have hm : ∀ m, leS n T al nd K F kn s (d + m) = leS n T al nd K F kn s d := by
      intro m
      induction m with
      | zero => rfl
      | succ m ih =>
        show leS n T al nd K F kn s ((d + m) + 1) = _
        rw [leS, sm_bit hT (hnds s), ← ih]
        have : al.testBit (d + m) = false := by
          cases ha : al.testBit (d + m)
          · rfl
          · have := tb_lt hal ha; omega
        rw [this]
        rfl
    have h9 := hm (6 - d)
    rw [show d + (6 - d) = 6 by omega] at h9
    exact h9
  · rw [cond_true]
    exact (le_0 (fun j => sm_bit0 hT) d).symm
end CHANCE2
