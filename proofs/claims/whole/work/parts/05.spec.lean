/-! THE SCHOOL AS NUMBERS: what both sides are tied to -/
/-- what a sentence needs (nd) is true (t) or known (kn) -/
def meB (t kn nd : Nat) : Bool := sdf nd (t ||| kn) == 0
/-- not true, not known -/
def plB (t kn i : Nat) : Bool := !t.testBit i && !kn.testBit i
/-- a denier of kind k and figure f, who knows kn, may dispute sentence i, that needs nd -/
def maB (k f t kn nd i : Nat) : Bool := match k with
  | 1 => !t.testBit i
  | 2 => plB t kn i && meB t kn nd
  | 3 => true
  | 4 => plB t kn i && decide (i ≠ f)
  | 5 => !t.testBit i && decide (i ≤ f)
  | 6 => plB t kn i && meB t kn nd || decide (i = f) && !t.testBit i
  | 7 => plB t kn i && decide (i ≠ f) && decide (nd ≠ 0)
  | _ => plB t kn i
/-- he is silenced -/
def siB (k t kn nd : Nat) (odd : Bool) : Bool := match k with
  | 3 => false
  | 7 => !odd && meB t kn nd
  | _ => meB t kn nd
/-- the steps, of a sentence with c needs -/
def efN (k f c : Nat) : Nat := match k with
  | 1 => 2 * (c + 1)
  | 2 => c
  | 3 => 2 * (c + 1)
  | 4 => c + 1 + f
  | 5 => 2 * (c + 1) - 1
  | 6 => c + f
  | 7 => (c + 1 + f) * 2
  | _ => c + 1
/-- the price -/
def asN (k f : Nat) : Nat := match k with
  | 1 => 2
  | 2 => 3 + f
  | 3 => 4
  | 4 => 3 * (f + 1)
  | 5 => 7
  | 6 => 3 + f - 2
  | 7 => 3 * (f + 1) / 2
  | _ => 3
/-- the set of those below n for which f holds -/
def orF (f : Nat → Bool) : Nat → Nat
  | 0 => 0
  | n + 1 => orF f n ||| (if f n then 2 ^ n else 0)
/-- how many bits -/
def pcF : Nat → Nat → Nat
  | 0, _ => 0
  | k + 1, v => v % 2 + pcF k (v / 2)
def pcN (v : Nat) : Nat := pcF 10 v
theorem sdf_bit (a b i : Nat) : (sdf a b).testBit i = (a.testBit i && !b.testBit i) := by
  simp only [sdf, Nat.testBit_xor, Nat.testBit_and]
  cases a.testBit i <;> cases b.testBit i <;> rfl
theorem sdf_le (a b : Nat) : sdf a b ≤ a := by
  have h : a &&& sdf a b = sdf a b := by
    apply Nat.eq_of_testBit_eq
    intro i
    simp only [Nat.testBit_and, sdf_bit]
    cases a.testBit i <;> cases b.testBit i <;> rfl
  rw [← h]
  exact Nat.and_le_left
theorem sdf_lt {a b n : Nat} (h : a < n) : sdf a b < n := Nat.lt_of_le_of_lt (sdf_le a b) h
theorem or_lt {a b : Nat} (k : Nat) (ha : a < 2 ^ k) (hb : b < 2 ^ k) : a ||| b < 2 ^ k := Nat.or_lt_two_pow ha hb
theorem or_512 {a b : Nat} (ha : a < 512) (hb : b < 512) : a ||| b < 512 := or_lt 9 ha hb
theorem bit_512 {i : Nat} (h : i < 9) : 2 ^ i < 512 := Nat.pow_lt_pow_right (by decide) h
theorem bit_64 {i : Nat} (h : i < 6) : 2 ^ i < 64 := Nat.pow_lt_pow_right (by decide) h
theorem bit_31 {i : Nat} (h : i < 31) : 2 ^ i < 2 ^ 31 := Nat.pow_lt_pow_right (by decide) h
theorem orF_lt (f : Nat → Bool) : ∀ n, orF f n < 2 ^ n
  | 0 => Nat.one_pos
  | n + 1 => by
    have h := orF_lt f n
    have h2 : 2 ^ n < 2 ^ (n + 1) := Nat.pow_lt_pow_right (by decide) (Nat.lt_succ_self n)
    unfold orF
    apply Nat.or_lt_two_pow (Nat.lt_trans h h2)
    split
    · exact h2
    · exact Nat.pos_of_ne_zero (by simp)
theorem orF_bit (f : Nat → Bool) (i : Nat) : ∀ n, (orF f n).testBit i = (decide (i < n) && f i)
  | 0 => by simp [orF]
  | n + 1 => by
    unfold orF
    rw [Nat.testBit_or, orF_bit f i n]
    by_cases h : i = n
    · subst h
      cases hf : f i <;> simp
    · have h1 : (decide (i < n + 1)) = decide (i < n) := by
        apply decide_eq_decide.mpr
        omega
      rw [h1]
      cases hf : f n <;> simp [Nat.testBit_two_pow, Ne.symm h]
theorem orF_t {f : Nat → Bool} {n : Nat} (h : f n = true) : orF f n ||| 2 ^ n = orF f (n + 1) := by simp [orF, h]
theorem orF_f {f : Nat → Bool} {n : Nat} (h : f n = false) : orF f n = orF f (n + 1) := by simp [orF, h]
theorem orF_9 (f : Nat → Bool) {n : Nat} (h : n ≤ 9) : orF f n < 512 := Nat.lt_of_lt_of_le (orF_lt f n) (Nat.pow_le_pow_right (by decide) h)
theorem orF_cong {f g : Nat → Bool} : ∀ {n : Nat}, (∀ i, i < n → f i = g i) → orF f n = orF g n
  | 0, _ => rfl
  | n + 1, h => by
    unfold orF
    rw [orF_cong (fun i hi => h i (Nat.lt_succ_of_lt hi)), h n (Nat.lt_succ_self n)]
theorem pcF_lt : ∀ k v, pcF k v ≤ k
  | 0, _ => Nat.le_refl 0
  | k + 1, v => by
    have h := pcF_lt k (v / 2)
    have h2 := Nat.mod_lt v (show 0 < 2 by decide)
    unfold pcF
    omega
theorem pcN_le (v : Nat) : pcN v ≤ 10 := pcF_lt 10 v
theorem pcF_0 : ∀ k, pcF k 0 = 0
  | 0 => rfl
  | k + 1 => by unfold pcF; simp [pcF_0 k]
theorem pcF_up : ∀ k v, v < 2 ^ k → pcF (k + 1) v = pcF k v
  | 0, v, h => by
    have h0 : v = 0 := by simpa using h
    subst h0
    rfl
  | k + 1, v, h => by
    have h1 : v / 2 < 2 ^ k := by
      have : 2 ^ (k + 1) = 2 * 2 ^ k := by rw [Nat.pow_succ, Nat.mul_comm]
      omega
    have h2 := pcF_up k (v / 2) h1
    show v % 2 + pcF (k + 1) (v / 2) = v % 2 + pcF k (v / 2)
    rw [h2]
theorem pcN_half {v : Nat} (h : v < 1024) : pcN v = v % 2 + pcN (v / 2) := by
  have h1 : v / 2 < 2 ^ 9 := by omega
  show v % 2 + pcF 9 (v / 2) = v % 2 + pcF 10 (v / 2)
  rw [pcF_up 9 _ h1]
theorem pcN_0 : pcN 0 = 0 := pcF_0 10
