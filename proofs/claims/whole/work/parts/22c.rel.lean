/-! ONE SCHOOL, TWICE: the class' (deniers by their addresses) and the model's (by their numbers) -/
def RS (DL : List Nat) (kd fg : Nat → Nat) (n d t : Nat) (mk si : Nat → Int32) (mb : Nat → Option Nat) (bb oo : Nat → Int32) (K F : Nat → Nat) : Prop :=
  (∀ i, t.testBit i = true → mk i = bb i ∧ si i = oo i) ∧ (∀ i, i < n → t.testBit i = false → bb i = -4 ∧ oo i = -4) ∧ (∀ j, j < d → ∃ a, mb j = some a ∧ a ∈ DL ∧ kd a = K j ∧ fg a = F j) ∧ ∀ j, d ≤ j → mb j = none
/-- what holds of every school -/
def WS (n d t al : Nat) (nd : Nat → Nat) (bb : Nat → Int32) (K F kn : Nat → Nat) : Prop :=
  n ≤ 9 ∧ d ≤ 6 ∧ t < 2 ^ n ∧ al < 2 ^ d ∧ (∀ i, nd i < 512) ∧ (∀ i, (nd i).testBit i = false) ∧ (∀ j, K j < 8) ∧ (∀ j, F j < 10) ∧ (∀ j, kn j < 512) ∧ ∀ i, t.testBit i = true → bb i = -4 ∨ ∃ j, j < d ∧ bb i = nI j ∧ al.testBit j = true
section RS
variable {DL : List Nat} {kd fg : Nat → Nat} {n d t al day : Nat} {nd : Nat → Nat} {mk si : Nat → Int32} {kn : Nat → Nat} {mb : Nat → Option Nat} {bb oo : Nat → Int32} {K F : Nat → Nat}
theorem RS.kdq (h : RS DL kd fg n d t mk si mb bb oo K F) {j : Nat} (hj : j < d) : kx kd mb j = K j := by
  obtain ⟨a, h1, -, h2, -⟩ := h.2.2.1 j hj
  rw [kx_s h1, h2]
theorem RS.fgq (h : RS DL kd fg n d t mk si mb bb oo K F) {j : Nat} (hj : j < d) : kx fg mb j = F j := by
  obtain ⟨a, h1, -, -, h2⟩ := h.2.2.1 j hj
  rw [kx_s h1, h2]
theorem RS.gms (h : RS DL kd fg n d t mk si mb bb oo K F) : ∀ j, j < d → ∃ a, mb j = some a := fun j hj => by
  obtain ⟨a, h1, -⟩ := h.2.2.1 j hj
  exact ⟨a, h1⟩
theorem RS.gmb (h : RS DL kd fg n d t mk si mb bb oo K F) : ∀ j a, mb j = some a → a ∈ DL := fun j a hj => by
  rcases Nat.lt_or_ge j d with q | q
  · obtain ⟨b, h1, h2, -⟩ := h.2.2.1 j q
    rw [h1] at hj
    cases hj
    exact h2
  · rw [h.2.2.2 j q] at hj
    cases hj
theorem on1_cong {α : Type} {x : Int32} {n : Nat} {f g : Nat → α} {z : α} (hn : n < 2 ^ 31) (h : ∀ y, y < n → f y = g y) : on1 (oN x n) f z = on1 (oN x n) g z := by
  rcases okI_or x hn with q | ⟨y, hy, rfl⟩
  · rw [oN_f q]
    rfl
  · rw [oN_t hy]
    exact h y hy
theorem on2_cong {α : Type} {x y : Int32} {n m : Nat} {f g : Nat → Nat → α} {z : α} (hn : n < 2 ^ 31) (hm : m < 2 ^ 31) (h : ∀ i j, i < n → j < m → f i j = g i j) : on2 (oN x n) (oN y m) f z = on2 (oN x n) (oN y m) g z := on1_cong hn (fun i hi => on1_cong hm (fun j hj => h i j hi hj))
theorem q_sen (h : RS DL kd fg n d t mk si mb bb oo K F) (hn : n ≤ 9) (i w : Int32) : senR n t nd mk si i w = on1 (oN i n) (fun v => if w = 0 then nI (nd v) else if w = 1 then bI (t.testBit v) else if w = 2 then bb v else if w = 3 then oo v else -1) (-1) := by
  unfold senR
  refine on1_cong (by omega) (fun y hy => ?_)
  cases ht : t.testBit y
  · obtain ⟨h1, h2⟩ := h.2.1 y hy ht
    rw [h1, h2]
    rfl
  · obtain ⟨h1, h2⟩ := h.1 y ht
    rw [h1, h2]
    rfl
theorem q_den (h : RS DL kd fg n d t mk si mb bb oo K F) (hd : d ≤ 6) (i w : Int32) : denR d al kn (kx kd mb) (kx fg mb) i w = denR d al kn K F i w := by
  unfold denR
  refine on1_cong (by omega) (fun y hy => ?_)
  rw [h.kdq hy, h.fgq hy]
/-- who may: the same -/
theorem q_al (h : RS DL kd fg n d t mk si mb bb oo K F) (hd : d ≤ 6) {x s : Nat} (hx : x < d) (hs : s < n) : alB n al t kn nd mb kd fg x s = mnB t al nd K F kn x s := by
  obtain ⟨a, h1, -, h2, h3⟩ := h.2.2.1 x hx
  rw [alB_mn (by omega) h1 hs]
  unfold mnB
  rw [h.kdq hx, h.fgq hx]
theorem q_al0 (h : RS DL kd fg n d t mk si mb bb oo K F) {x s : Nat} (hx : d ≤ x) : alB n al t kn nd mb kd fg x s = false := by
  unfold alB mbW
  split
  · rfl
  · rename_i a ha
    split at ha
    · rw [h.2.2.2 x hx] at ha
      cases ha
    · cases ha
theorem q_may (h : RS DL kd fg n d t mk si mb bb oo K F) (hd : d ≤ 6) {y : Nat} (hy : y < d) : orF (fun s9 => alB n al t kn nd mb kd fg y s9) n = orF (fun s9 => mnB t al nd K F kn y s9) n := orF_cong (fun s hs => q_al h hd hy hs)
theorem q_may0 (h : RS DL kd fg n d t mk si mb bb oo K F) {y : Nat} (hy : d ≤ y) : orF (fun s9 => alB n al t kn nd mb kd fg y s9) n = 0 := by
  have e : ∀ m, orF (fun s9 => alB n al t kn nd mb kd fg y s9) m = 0 := by
    intro m
    induction m with
    | zero => rfl
    | succ m ih => rw [orF, ih, q_al0 h hy]; simp
  exact e n
theorem q_sil (h : RS DL kd fg n d t mk si mb bb oo K F) {y : Nat} (hy : y < d) : slN n al t day kn nd mb kd fg y = smN n t al nd K F kn (day % 2 != 0) y := by
  obtain ⟨a, h1, -, h2, h3⟩ := h.2.2.1 y hy
  unfold slN smN
  simp only [h1]
  cases hal : al.testBit y
  · simp only [cond_false]
    have e : ∀ m, orF (fun i => !t.testBit i && mnB t al nd K F kn y i && siB (K y) t (kn y) (nd i) (day % 2 != 0)) m = 0 := by
      intro m
      induction m with
      | zero => rfl
      | succ m ih => rw [orF, ih]; simp [mnB, hal]
    exact (e n).symm
  · simp only [cond_true]
    refine orF_cong (fun i hi => ?_)
    rw [h2, h3]
    simp only [mnB, hal, Bool.true_and]
/-- the loneliest -/
theorem lo_sd {G : Nat → Nat} : ∀ (k v : Nat), lmF G k v = sdf v (loF G k)
  | 0, v => by
    apply Nat.eq_of_testBit_eq
    intro i
    simp [lmF, loF, sdf_bit]
  | k + 1, v => by
    apply Nat.eq_of_testBit_eq
    intro i
    simp only [lmF, loF, lo_sd k v, sdf_bit, Nat.testBit_or]
    cases v.testBit i <;> cases (loF G k).testBit i <;> cases (G k).testBit i <;> rfl
theorem lo_cong {G G2 : Nat → Nat} : ∀ {k : Nat}, (∀ j, j < k → G j = G2 j) → loF G k = loF G2 k
  | 0, _ => rfl
  | k + 1, h => by
    unfold loF
    rw [lo_cong (fun j hj => h j (Nat.lt_succ_of_lt hj)), h k (Nat.lt_succ_self k)]
theorem lo_more {G : Nat → Nat} {k : Nat} (h : ∀ j, k ≤ j → G j = 0) : ∀ m, loF G (k + m) = loF G k
  | 0 => rfl
  | m + 1 => by
    have ih := lo_more h m
    show loF G (k + m) ||| G (k + m) = _
    rw [ih, h (k + m) (by omega), Nat.or_zero]
theorem q_lon (h : RS DL kd fg n d t mk si mb bb oo K F) (hd : d ≤ 6) : sdf (sdf (2 ^ n - 1) t) (loF (fun y => orF (fun s9 => alB n al t kn nd mb kd fg y s9) n) 6) = lmF (fun j => orF (fun s9 => mnB t al nd K F kn j s9) n) d (sdf (2 ^ n - 1) t) := by
  rw [lo_sd]
  congr 1
  have h1 := lo_more (G := fun y => orF (fun s9 => alB n al t kn nd mb kd fg y s9) n) (k := d) (fun j hj => q_may0 h hj) (6 - d)
  rw [show d + (6 - d) = 6 by omega] at h1
  rw [h1]
  exact lo_cong (fun j hj => q_may h hd hj)
theorem q_stp (h : RS DL kd fg n d t mk si mb bb oo K F) (hn : n ≤ 9) (hd : d ≤ 6) (i j : Int32) : on2 (oN i d) (oN j n) (fun y s => nI (efN (kx kd mb y) (kx fg mb y) (pcN (nd s)))) (-1) = on2 (oN i d) (oN j n) (fun j i => nI (efN (K j) (F j) (pcN (nd i)))) (-1) := on2_cong (by omega) (by omega) (fun y s hy _ => by rw [h.kdq hy, h.fgq hy])
theorem q_can (h : RS DL kd fg n d t mk si mb bb oo K F) {s : Nat} : orF (fun i9 => suB t nd kn mb kd fg s i9) d = orF (fun j => maB (K j) (F j) (sdf t (2 ^ s)) (kcF kn (2 ^ s) d j) (nd s) s && siB (K j) (sdf t (2 ^ s)) (kcF kn (2 ^ s) d j) (nd s) false) d := orF_cong (fun j hj => by
  obtain ⟨a, h1, -, h2, h3⟩ := h.2.2.1 j hj
  simp only [suB, h1, h2, h3, kcF, if_pos hj])
end RS
/-! what falls: as many rounds as you like, from n on -/
theorem ru_ge {t F : Nat} {nd : Nat → Nat} : ∀ s i, F.testBit i = true → (ruI t nd s F).testBit i = true
  | 0, _, h => h
  | s + 1, i, h => by
    have ih := ru_ge (t := t) (nd := nd) s i h
    unfold ruI
    cases (t.testBit s && (nd s &&& ruI t nd s F != 0))
    · exact ih
    · simp [ih]
/-- nothing new in a round: nothing new ever -/
theorem ru_fix {t F n : Nat} {nd : Nat → Nat} (h : ruI t nd n F = F) : ∀ r, ruR t nd n r F = F
  | 0 => rfl
  | r + 1 => by
    show ruI t nd n (ruR t nd n r F) = F
    rw [ru_fix h r, h]
/-- the bits below n of a set -/
def cb (n F : Nat) : Nat := match n with
  | 0 => 0
  | k + 1 => cb k F + (F.testBit k).toNat
theorem cb_le (F : Nat) : ∀ n, cb n F ≤ n
  | 0 => Nat.le_refl 0
  | n + 1 => by
    have ih := cb_le F n
    unfold cb
    cases F.testBit n <;> simp <;> omega
theorem cb_mono {F G : Nat} (h : ∀ i, F.testBit i = true → G.testBit i = true) : ∀ n, cb n F ≤ cb n G
  | 0 => Nat.le_refl 0
  | n + 1 => by
    have ih := cb_mono h n
    unfold cb
    cases hf : F.testBit n
    · cases G.testBit n <;> simp <;> omega
    · rw [h n hf]; omega
theorem cb_lt {F G i : Nat} (h : ∀ i, F.testBit i = true → G.testBit i = true) (hi : F.testBit i = false) (hg : G.testBit i = true) : ∀ n, i < n → cb n F < cb n G
  | n + 1, hin => by
    unfold cb
    by_cases he : i = n
    · subst he
      rw [hi, hg]
      have := cb_mono h i
      simp
      omega
    · have ih := cb_lt h hi hg n (by omega)
      cases hf : F.testBit n
      · cases G.testBit n <;> simp <;> omega
      · rw [h n hf]; omega
theorem ru_new {t F : Nat} {nd : Nat → Nat} : ∀ s, ruI t nd s F = F ∨ ∃ i, i < s ∧ F.testBit i = false ∧ (ruI t nd s F).testBit i = true
  | 0 => Or.inl rfl
  | s + 1 => by
    rcases ru_new (t := t) (F := F) (nd := nd) s with h | ⟨i, h1, h2, h3⟩
    · cases hc : (t.testBit s && (nd s &&& ruI t nd s F != 0))
      · left
        unfold ruI
        rw [hc, h]
        rfl
      · cases hf : F.testBit s
        · right
          refine ⟨s, Nat.lt_succ_self s, hf, ?_⟩
          unfold ruI
          rw [hc]
          simp
        · left
          unfold ruI
          rw [hc, h]
          apply Nat.eq_of_testBit_eq
          intro i
          simp only [cond_true, Nat.testBit_or, Nat.testBit_two_pow]
          by_cases hs : s = i
          · subst hs; simp [hf]
          · simp [hs]
    · right
      refine ⟨i, by omega, h2, ?_⟩
      unfold ruI
      cases (t.testBit s && (nd s &&& ruI t nd s F != 0))
      · exact h3
      · simp [h3]
theorem ru_n {t F n : Nat} {nd : Nat → Nat} : ∀ r, ruR t nd n (r + 1) F = ruR t nd n r F ∨ r + 1 ≤ cb n (ruR t nd n (r + 1) F)
  | 0 => by
    rcases ru_new (t := t) (F := F) (nd := nd) n with h | ⟨i, h1, h2, h3⟩
    · exact Or.inl h
    · right
      have h4 := cb_lt (G := ruR t nd n 1 F) (fun i hi => ru_ge n i hi) h2 h3 n h1
      exact Nat.lt_of_le_of_lt (Nat.zero_le _) h4
  | r + 1 => by
    rcases ru_n (t := t) (F := F) (n := n) (nd := nd) r with h | h
    · left
      show ruI t nd n (ruR t nd n (r + 1) F) = ruI t nd n (ruR t nd n r F)
      rw [h]
    · rcases ru_new (t := t) (F := ruR t nd n (r + 1) F) (nd := nd) n with q | ⟨i, h1, h2, h3⟩
      · exact Or.inl q
      · right
        have h4 := cb_lt (G := ruR t nd n (r + 2) F) (fun i hi => ru_ge n i hi) h2 h3 n h1
        exact Nat.lt_of_le_of_lt h h4
theorem ru_same {t F n : Nat} {nd : Nat → Nat} : ∀ m, ruR t nd n (n + m) F = ruR t nd n n F
  | 0 => rfl
  | m + 1 => by
    have ih := ru_same (t := t) (F := F) (n := n) (nd := nd) m
    have hs : ruI t nd n (ruR t nd n n F) = ruR t nd n n F := by
      rcases ru_n (t := t) (F := F) (n := n) (nd := nd) n with h | h
      · exact h
      · have := cb_le (ruR t nd n (n + 1) F) n
        omega
    show ruI t nd n (ruR t nd n (n + m) F) = _
    rw [ih, hs]
theorem orF_0 {f : Nat → Bool} : ∀ n, (∀ i, i < n → f i = false) → orF f n = 0
  | 0, _ => rfl
  | n + 1, h => by
    rw [orF, orF_0 n (fun i hi => h i (Nat.lt_succ_of_lt hi)), h n (Nat.lt_succ_self n)]
    simp
theorem ru_0 {t n : Nat} {nd : Nat → Nat} : ∀ r, ruR t nd n r 0 = 0 := ru_fix (by
  have e : ∀ s, ruI t nd s 0 = 0 := by
    intro s
    induction s with
    | zero => rfl
    | succ s ih => unfold ruI; rw [ih]; simp
  exact e n)
section RS2
variable {DL : List Nat} {kd fg : Nat → Nat} {n d t al day : Nat} {nd : Nat → Nat} {mk si : Nat → Int32} {kn : Nat → Nat} {mb : Nat → Option Nat} {bb oo : Nat → Int32} {K F : Nat → Nat}
theorem q_fal (h : RS DL kd fg n d t mk si mb bb oo K F) (hw : WS n d t al nd bb K F kn) {y : Nat} (hy : y < d) : ruF t nd mk n y = (bif al.testBit y then ruR t nd n 9 (orF (fun s9 => t.testBit s9 && decide (bb s9 = nI y)) n) else 0) := by
  obtain ⟨hn, hd, -, -, -, -, -, -, -, hal⟩ := hw
  unfold ruF
  have e : orF (fun s9 => t.testBit s9 && decide (mk s9 = nI y)) n = orF (fun s9 => t.testBit s9 && decide (bb s9 = nI y)) n := orF_cong (fun i _ => by
    cases ht : t.testBit i
    · rfl
    · rw [(h.1 i ht).1])
  rw [e]
  cases ha : al.testBit y
  · rw [orF_0 n (fun i _ => ?_)]
    · exact ru_0 n
    · cases ht : t.testBit i
      · rfl
      · rcases hal i ht with q | ⟨j, h1, h2, h3⟩
        · rw [q]
          simp only [Bool.true_and]
          exact decide_eq_false (fun z => absurd z.symm (ng_ne (by omega) (by decide)))
        · rw [h2]
          simp only [Bool.true_and]
          refine decide_eq_false (fun z => ?_)
          have hjy : j = y := (nI_eq (by omega) (by omega)).mp z
          rw [hjy, ha] at h3
          cases h3
  · have h9 := ru_same (t := t) (F := orF (fun s9 => t.testBit s9 && decide (bb s9 = nI y)) n) (n := n) (nd := nd) (9 - n)
    rw [show n + (9 - n) = 9 by omega] at h9
    rw [h9]
    rfl
end RS2
/-! a school's statements, on both sides -/
theorem up_e {g : Nat → Int32} {k : Nat} {v : Int32} : upd g k v k = v := by simp [upd]
theorem up_n {g : Nat → Int32} {k j : Nat} {v : Int32} (h : j ≠ k) : upd g k v j = g j := by simp [upd, h]
theorem tb_lt {t n i : Nat} (ht : t < 2 ^ n) (h : t.testBit i = true) : i < n := by
  rcases Nat.lt_or_ge i n with q | q
  · exact q
  · rw [Nat.testBit_lt_two_pow (Nat.lt_of_lt_of_le ht (Nat.pow_le_pow_right (by decide) q))] at h
    cases h
theorem or_b {t a i : Nat} : (t ||| 2 ^ a).testBit i = (t.testBit i || decide (a = i)) := by rw [Nat.testBit_or, Nat.testBit_two_pow]
theorem or_lt2 {t n a : Nat} (ht : t < 2 ^ n) (ha : a < n) : t ||| 2 ^ a < 2 ^ n := Nat.or_lt_two_pow ht (Nat.pow_lt_pow_right (by decide) ha)
section STEP
variable {DL : List Nat} {kd fg : Nat → Nat} {n d t al day : Nat} {nd : Nat → Nat} {mk si : Nat → Int32} {kn : Nat → Nat} {mb : Nat → Option Nat} {bb oo : Nat → Int32} {K F : Nat → Nat}
theorem rs_s (h : RS DL kd fg n d t mk si mb bb oo K F) (hw : WS n d t al nd bb K F kn) (hn : n < 9) : RS DL kd fg (n + 1) d t mk si mb (upd bb n (-4)) (upd oo n (-4)) K F ∧ WS (n + 1) d t al (va_up nd n 0) (upd bb n (-4)) K F kn := by
  obtain ⟨r1, r2, r3, r4⟩ := h
  obtain ⟨w1, w2, w3, w4, w5, w6, w7, w8, w9, w10⟩ := hw
  have hne : ∀ i, t.testBit i = true → i ≠ n := fun i hi q => by have := tb_lt w3 hi; omega
  refine ⟨⟨fun i hi => ?_, fun i hi hf => ?_, r3, r4⟩, ⟨by omega, w2, ?_, w4, fun i => ?_, fun i => ?_, w7, w8, w9, fun i hi => ?_⟩⟩
  · rw [up_n (hne i hi), up_n (hne i hi)]; exact r1 i hi
  · by_cases he : i = n
    · subst he; exact ⟨up_e, up_e⟩
    · rw [up_n he, up_n he]; exact r2 i (by omega) hf
  · exact Nat.lt_of_lt_of_le w3 (Nat.pow_le_pow_right (by decide) (Nat.le_succ n))
  · by_cases he : i = n
    · subst he; rw [va_up_self]; decide
    · rw [va_up_ne _ _ he]; exact w5 i
  · by_cases he : i = n
    · subst he; rw [va_up_self]; exact Nat.zero_testBit i
    · rw [va_up_ne _ _ he]; exact w6 i
  · rw [up_n (hne i hi)]; exact w10 i hi
theorem ws_s (hw : WS n d t al nd bb K F kn) (hn : n < 9) : WS (n + 1) d t al (va_up nd n 0) (upd bb n (-4)) K F kn := by
  obtain ⟨w1, w2, w3, w4, w5, w6, w7, w8, w9, w10⟩ := hw
  refine ⟨by omega, w2, ?_, w4, fun i => ?_, fun i => ?_, w7, w8, w9, fun i hi => ?_⟩
  · exact Nat.lt_of_lt_of_le w3 (Nat.pow_le_pow_right (by decide) (Nat.le_succ n))
  · by_cases he : i = n
    · subst he; rw [va_up_self]; decide
    · rw [va_up_ne _ _ he]; exact w5 i
  · by_cases he : i = n
    · subst he; rw [va_up_self]; exact Nat.zero_testBit i
    · rw [va_up_ne _ _ he]; exact w6 i
  · rw [up_n (fun q => by have := tb_lt w3 hi; omega)]; exact w10 i hi
theorem ws_n {a b : Nat} (hw : WS n d t al nd bb K F kn) (hb : b < n) (hab : a ≠ b) : WS n d t al (va_up nd a (nd a ||| 2 ^ b)) bb K F kn := by
  obtain ⟨w1, w2, w3, w4, w5, w6, w7, w8, w9, w10⟩ := hw
  refine ⟨w1, w2, w3, w4, fun i => ?_, fun i => ?_, w7, w8, w9, w10⟩
  · by_cases he : i = a
    · subst he; rw [va_up_self]; exact or_512 (w5 i) (bit_512 (by omega))
    · rw [va_up_ne _ _ he]; exact w5 i
  · by_cases he : i = a
    · subst he; rw [va_up_self, or_b, w6 i, decide_eq_false (fun q => hab q.symm)]; rfl
    · rw [va_up_ne _ _ he]; exact w6 i
theorem rs_t {a : Nat} {v w : Int32} (h : RS DL kd fg n d t mk si mb bb oo K F) : RS DL kd fg n d (t ||| 2 ^ a) (upd mk a v) (upd si a w) mb (upd bb a v) (upd oo a w) K F := by
  obtain ⟨r1, r2, r3, r4⟩ := h
  refine ⟨fun i hi => ?_, fun i hi hf => ?_, r3, r4⟩
  · by_cases he : i = a
    · subst he; rw [up_e, up_e, up_e, up_e]; exact ⟨rfl, rfl⟩
    · rw [up_n he, up_n he, up_n he, up_n he]
      rw [or_b, decide_eq_false (fun q => he q.symm), Bool.or_false] at hi
      exact r1 i hi
  · rw [or_b] at hf
    by_cases he : i = a
    · subst he; simp at hf
    · rw [up_n he, up_n he]
      rw [decide_eq_false (fun q => he q.symm), Bool.or_false] at hf
      exact r2 i hi hf
theorem ws_t {a : Nat} {v : Int32} (hw : WS n d t al nd bb K F kn) (ha : a < n) (hv : v = -4 ∨ ∃ j, j < d ∧ v = nI j ∧ al.testBit j = true) : WS n d (t ||| 2 ^ a) al nd (upd bb a v) K F kn := by
  obtain ⟨w1, w2, w3, w4, w5, w6, w7, w8, w9, w10⟩ := hw
  refine ⟨w1, w2, or_lt2 w3 ha, w4, w5, w6, w7, w8, w9, fun i hi => ?_⟩
  by_cases he : i = a
  · subst he; rw [up_e]; exact hv
  · rw [up_n he]
    rw [or_b, decide_eq_false (fun q => he q.symm), Bool.or_false] at hi
    exact w10 i hi
theorem ws_k {a b : Nat} (hw : WS n d t al nd bb K F kn) (hb : b < n) : WS n d t al nd bb K F (va_up kn a (kn a ||| 2 ^ b)) := by
  obtain ⟨w1, w2, w3, w4, w5, w6, w7, w8, w9, w10⟩ := hw
  refine ⟨w1, w2, w3, w4, w5, w6, w7, w8, fun i => ?_, w10⟩
  by_cases he : i = a
  · subst he; rw [va_up_self]; exact or_512 (w9 i) (bit_512 (by omega))
  · rw [va_up_ne _ _ he]; exact w9 i
/-- another comes: of a new address, or of one that is there -/
theorem rs_d {q a b : Nat} (h : RS DL kd fg n d t mk si mb bb oo K F) (hq : q ∉ DL) : RS (q :: DL) (va_up kd q a) (va_up fg q b) n (d + 1) t mk si (va_up mb d (some q)) bb oo (va_up K d a) (va_up F d b) := by
  obtain ⟨r1, r2, r3, r4⟩ := h
  refine ⟨r1, r2, fun j hj => ?_, fun j hj => ?_⟩
  · by_cases he : j = d
    · subst he
      refine ⟨q, va_up_self _ _ _, List.mem_cons_self, ?_, ?_⟩
      · rw [va_up_self, va_up_self]
      · rw [va_up_self, va_up_self]
    · obtain ⟨c, h1, h2, h3, h4⟩ := r3 j (by omega)
      have hc : c ≠ q := fun z => hq (z ▸ h2)
      refine ⟨c, by rw [va_up_ne _ _ he]; exact h1, List.mem_cons_of_mem _ h2, ?_, ?_⟩
      · rw [va_up_ne _ _ hc, va_up_ne _ _ he]; exact h3
      · rw [va_up_ne _ _ hc, va_up_ne _ _ he]; exact h4
  · rw [va_up_ne _ _ (show j ≠ d by omega)]; exact r4 j (by omega)
theorem rs_d2 {q : Nat} (h : RS DL kd fg n d t mk si mb bb oo K F) (hq : q ∈ DL) : RS DL kd fg n (d + 1) t mk si (va_up mb d (some q)) bb oo (va_up K d (kd q)) (va_up F d (fg q)) := by
  obtain ⟨r1, r2, r3, r4⟩ := h
  refine ⟨r1, r2, fun j hj => ?_, fun j hj => ?_⟩
  · by_cases he : j = d
    · subst he
      exact ⟨q, va_up_self _ _ _, hq, (va_up_self _ _ _).symm, (va_up_self _ _ _).symm⟩
    · obtain ⟨c, h1, h2, h3, h4⟩ := r3 j (by omega)
      exact ⟨c, by rw [va_up_ne _ _ he]; exact h1, h2, by rw [va_up_ne _ _ he]; exact h3, by rw [va_up_ne _ _ he]; exact h4⟩
  · rw [va_up_ne _ _ (show j ≠ d by omega)]; exact r4 j (by omega)
theorem ws_d {a b : Nat} (hw : WS n d t al nd bb K F kn) (hd : d < 6) (ha : a < 8) (hb : b < 10) : WS n (d + 1) t (al ||| 2 ^ d) nd bb (va_up K d a) (va_up F d b) (va_up kn d 0) := by
  obtain ⟨w1, w2, w3, w4, w5, w6, w7, w8, w9, w10⟩ := hw
  refine ⟨w1, by omega, w3, or_lt2 (Nat.lt_of_lt_of_le w4 (Nat.pow_le_pow_right (by decide) (Nat.le_succ d))) (Nat.lt_succ_self d), w5, w6, fun j => ?_, fun j => ?_, fun j => ?_, fun i hi => ?_⟩
  · by_cases he : j = d
    · subst he; rw [va_up_self]; exact ha
    · rw [va_up_ne _ _ he]; exact w7 j
  · by_cases he : j = d
    · subst he; rw [va_up_self]; exact hb
    · rw [va_up_ne _ _ he]; exact w8 j
  · by_cases he : j = d
    · subst he; rw [va_up_self]; decide
    · rw [va_up_ne _ _ he]; exact w9 j
  · rcases w10 i hi with q | ⟨j, h1, h2, h3⟩
    · exact Or.inl q
    · exact Or.inr ⟨j, by omega, h2, by rw [or_b, h3]; rfl⟩
theorem ws_x {a b : Nat} (w : Bool) (hw : WS n d t al nd bb K F kn) (ha : a < d) (hb : b < n) (hal : al.testBit a = true) : WS n d (bif w then t ||| 2 ^ b else t) al nd (bif w then upd bb b (nI a) else bb) K F (bif w then va_up kn a (kn a ||| 2 ^ b) else kn) := by
  cases w
  · exact hw
  · exact ws_k (ws_t hw hb (Or.inr ⟨a, ha, rfl, hal⟩)) hb
/-- a denial of his, on both sides -/
theorem rs_x {a b : Nat} (h : RS DL kd fg n d t mk si mb bb oo K F) (hw : WS n d t al nd bb K F kn) (ha : a < d) (hb : b < n) (hal : al.testBit a = true) :
    RS DL kd fg n d (bif wsB day t kn nd mb kd a b then t ||| 2 ^ b else t) (bif wsB day t kn nd mb kd a b then upd mk b (nI a) else mk) (bif wsB day t kn nd mb kd a b then upd si b (nI (day + 1)) else si) mb (bif wsB day t kn nd mb kd a b then upd bb b (nI a) else bb) (bif wsB day t kn nd mb kd a b then upd oo b (nI (day + 1)) else oo) K F ∧
    WS n d (bif wsB day t kn nd mb kd a b then t ||| 2 ^ b else t) al nd (bif wsB day t kn nd mb kd a b then upd bb b (nI a) else bb) K F (bif wsB day t kn nd mb kd a b then va_up kn a (kn a ||| 2 ^ b) else kn) ∧ wsB day t kn nd mb kd a b = siB (K a) t (kn a) (nd b) (day % 2 != 0) := by
  obtain ⟨c, h1, h2, h3, h4⟩ := h.2.2.1 a ha
  have e : wsB day t kn nd mb kd a b = siB (K a) t (kn a) (nd b) (day % 2 != 0) := by rw [wsB_si h1, h.kdq ha]
  refine ⟨?_, ?_, e⟩
  · cases wsB day t kn nd mb kd a b
    · exact h
    · exact rs_t h
  · exact ws_x _ hw ha hb hal
end STEP
/-! where things lie -/
theorem DP.carry {dC : Nat → ClassId} {dI : Nat → Nat → Nat} {DL : List Nat} {kd fg : Nat → Nat} {H H1 : Heap} {wc : va_W} {ad : List Nat} (h : DP dC dI DL kd fg H) (had : ∀ a ∈ DL, ∀ b ∈ ad, a ≠ b) (hs : ∀ q ∈ wc, q.1 ∈ ad) (hk : ∀ q : Nat, q < H.size → ¬ va_A wc H.size q → H1[q]? = H[q]?) : DP dC dI DL kd fg H1 := fun a ha => by
  have hlt := h.lt ha
  refine ⟨(h a ha).1.kept (fun k q hq => ?_), (h a ha).2⟩
  have hz : k < 1 := (List.getElem?_eq_some_iff.mp hq).1
  have h0 : k = 0 := by omega
  subst h0
  cases hq
  refine hk a hlt ?_
  rintro (⟨k, z, hk9⟩ | hz9)
  · exact had a ha a (hs _ (List.mem_of_getElem? hk9)) rfl
  · omega
theorem ad_no {dC : Nat → ClassId} {dI : Nat → Nat → Nat} {DL : List Nat} {kd fg : Nat → Nat} {H : Heap} {wc : va_W} {ad : List Nat} (h : DP dC dI DL kd fg H) (had : ∀ a ∈ DL, ∀ b ∈ ad, a ≠ b) (hs : ∀ q ∈ wc, q.1 ∈ ad) : ∀ a ∈ DL, ¬ va_A wc H.size a := fun a ha => by
  rintro (⟨k, z, hk9⟩ | hz9)
  · exact had a ha a (hs _ (List.mem_of_getElem? hk9)) rfl
  · have := h.lt ha
    omega
theorem DP.cong {dC : Nat → ClassId} {dI : Nat → Nat → Nat} {DL : List Nat} {kd fg kd2 fg2 : Nat → Nat} {H : Heap} (h : DP dC dI DL kd fg H) (e : ∀ a ∈ DL, kd2 a = kd a ∧ fg2 a = fg a) : DP dC dI DL kd2 fg2 H := fun a ha => by
  rw [(e a ha).1, (e a ha).2]
  exact h a ha
