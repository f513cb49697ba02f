/-! SCHOOLS AS TEXTS: reading, and what a statement does; places hold ints (g) -/
theorem adF_mono {g : Nat → Int32} {d n : Nat} : ∀ {a b : Nat}, adF g d n b = true → a ≤ b → adF g d n a = true
  | 0, _, _, _ => rfl
  | a + 1, b, h, hab => by
    have h1 := adF_at h a (by omega)
    simp only [adF, adF_mono (a := a) h (by omega), h1.1, h1.2, Bool.and_self]
/-- how many digits stand from p on, of the first so many -/
def dgC (g : Nat → Int32) (p : Nat) : Nat → Nat
  | 0 => 0
  | k + 1 => if dgC g p k = k ∧ (dgO (g (p + k))).isSome = true then k + 1 else dgC g p k
theorem dgC_le (g : Nat → Int32) (p : Nat) : ∀ k, dgC g p k ≤ k
  | 0 => Nat.le_refl 0
  | k + 1 => by
    have ih := dgC_le g p k
    unfold dgC
    split <;> omega
theorem dgC_y {g : Nat → Int32} {p k : Nat} (h : dgC g p k = k) (h2 : (dgO (g (p + k))).isSome = true) : dgC g p (k + 1) = k + 1 := by
  rw [dgC, if_pos ⟨h, h2⟩]
theorem dgC_no {g : Nat → Int32} {p k : Nat} (h : dgC g p k = k) (h2 : (dgO (g (p + k))).isSome = false) : ∀ j, dgC g p (k + 1 + j) = k
  | 0 => by
    show dgC g p (k + 1) = k
    rw [dgC, if_neg (by rw [h2]; intro q; cases q.2), h]
  | j + 1 => by
    have ih := dgC_no h h2 j
    show dgC g p ((k + 1 + j) + 1) = k
    rw [dgC, ih, if_neg (by omega)]
theorem dgC_at {g : Nat → Int32} {p : Nat} : ∀ {k : Nat}, dgC g p k = k → ∀ i, i < k → (dgO (g (p + i))).isSome = true
  | k + 1, h, i, hi => by
    rw [dgC] at h
    split at h
    · rename_i hc
      by_cases he : i = k
      · subst he; exact hc.2
      · exact dgC_at hc.1 i (by omega)
    · have := dgC_le g p k
      omega
def stK (g : Nat → Int32) (p : Nat) : Nat := (dbO (g p)).getD 0
theorem stK_le (g : Nat → Int32) (p : Nat) : stK g p ≤ 2 := by
  unfold stK
  cases h : dbO (g p) with
  | none => exact Nat.zero_le _
  | some v => exact dbO_le h
/-- a statement stands at p -/
def stOk (g : Nat → Int32) (p : Nat) : Bool := (dbO (g p)).isSome && (decide (dgC g (p + 1) (stK g p) = stK g p) && decide (g (p + 1 + stK g p) = 59))
/-- where it doesn't: the first place with which none can go on -/
def stBad (g : Nat → Int32) (p : Nat) : Nat := bif (dbO (g p)).isSome then p + 1 + dgC g (p + 1) (stK g p) else p
/-- the first fault of a text of z bytes, from p on -/
def fbE (g : Nat → Int32) (z : Nat) : Nat → Nat → Option Nat
  | 0, _ => none
  | m + 1, p => bif stOk g p then (if p + stK g p + 2 < z then fbE g z m (p + stK g p + 2) else none) else some (stBad g p)
/-- how many statements -/
def cnF (g : Nat → Int32) (z : Nat) : Nat → Nat → Nat
  | 0, _ => 0
  | m + 1, p => if p < z then 1 + cnF g z m (p + stK g p + 2) else 0
theorem fbE_b {g : Nat → Int32} {z m p : Nat} (h : stOk g p = false) : fbE g z (m + 1) p = some (stBad g p) := by rw [fbE, h]; rfl
theorem fbE_e {g : Nat → Int32} {z m p : Nat} (h : stOk g p = true) (h2 : ¬ p + stK g p + 2 < z) : fbE g z (m + 1) p = none := by rw [fbE, h, cond_true, if_neg h2]
theorem fbE_s {g : Nat → Int32} {z m p : Nat} (h : stOk g p = true) (h2 : p + stK g p + 2 < z) : fbE g z (m + 1) p = fbE g z m (p + stK g p + 2) := by rw [fbE, h, cond_true, if_pos h2]
theorem fbE_ok {g : Nat → Int32} {z m p : Nat} (h : fbE g z (m + 1) p = none) : stOk g p = true := by
  cases hs : stOk g p
  · rw [fbE_b hs] at h; cases h
  · rfl
/-- a school as numbers: n d t day al, needs, by, on, kinds, figures, what is known -/
abbrev SC : Type := Nat × Nat × Nat × Nat × Nat × (Nat → Nat) × (Nat → Int32) × (Nat → Int32) × (Nat → Nat) × (Nat → Nat) × (Nat → Nat)
/-- a denial, silencing or not -/
def scD (a b : Nat) : SC → SC := fun (n, d, t, day, al, nd, bb, oo, K, F, kn) => (n, d, bif siB (K a) t (kn a) (nd b) (day % 2 != 0) then t ||| 2 ^ b else t, day + 1, al, nd, bif siB (K a) t (kn a) (nd b) (day % 2 != 0) then upd bb b (nI a) else bb, bif siB (K a) t (kn a) (nd b) (day % 2 != 0) then upd oo b (nI (day + 1)) else oo, K, F, bif siB (K a) t (kn a) (nd b) (day % 2 != 0) then va_up kn a (kn a ||| 2 ^ b) else kn)
/-- a statement, by its letter -/
def tlS : SC → Option SC := fun (n, d, t, day, al, nd, bb, oo, K, F, kn) => bif decide (n < 9) then some (n + 1, d, t, day, al, va_up nd n 0, upd bb n (-4), upd oo n (-4), K, F, kn) else none
def tlN (a b : Nat) : SC → Option SC := fun (n, d, t, day, al, nd, bb, oo, K, F, kn) => bif decide (a < n) && (decide (b < n) && decide (a ≠ b)) then some (n, d, t, day, al, va_up nd a (nd a ||| 2 ^ b), bb, oo, K, F, kn) else none
def tlT (a : Nat) : SC → Option SC := fun (n, d, t, day, al, nd, bb, oo, K, F, kn) => bif decide (a < n) && !t.testBit a then some (n, d, t ||| 2 ^ a, day, al, nd, upd bb a (-4), upd oo a (nI day), K, F, kn) else none
def tlD (a b : Nat) : SC → Option SC := fun (n, d, t, day, al, nd, bb, oo, K, F, kn) => bif decide (a < 8) && decide (d < 6) then some (n, d + 1, t, day, al ||| 2 ^ d, nd, bb, oo, va_up K d a, va_up F d b, va_up kn d 0) else none
def tlK (a b : Nat) : SC → Option SC := fun (n, d, t, day, al, nd, bb, oo, K, F, kn) => bif decide (a < d) && decide (b < n) then some (n, d, t, day, al, nd, bb, oo, K, F, va_up kn a (kn a ||| 2 ^ b)) else none
def tlX (a b : Nat) : SC → Option SC := fun (n, d, t, day, al, nd, bb, oo, K, F, kn) => bif decide (a < d) && (decide (b < n) && mnB t al nd K F kn a b) then some (scD a b (n, d, t, day, al, nd, bb, oo, K, F, kn)) else none
def tlF (x : Int32) (a b : Nat) (u : SC) : Option SC := if x = 115 then tlS u else if x = 110 then tlN a b u else if x = 116 then tlT a u else if x = 100 then tlD a b u else if x = 107 then tlK a b u else tlX a b u
def tlG (x : Int32) (a b : Nat) (u : SC) : SC := (tlF x a b u).getD u
def dgN (x : Int32) : Nat := (dgO x).getD 0
/-- statement by statement: the place that fails, and what is there then -/
def tsE (g : Nat → Int32) (z : Nat) : Nat → Nat → SC → Option Nat × SC
  | 0, _, u => (none, u)
  | m + 1, p, u => if p < z then (match tlF (g p) (dgN (g (p + 1))) (dgN (g (p + 2))) u with
    | none => (some p, u)
    | some v => tsE g z m (p + stK g p + 2) v) else (none, u)
theorem tsE_e {g : Nat → Int32} {z m p : Nat} {u : SC} (h : ¬ p < z) : tsE g z (m + 1) p u = (none, u) := by rw [tsE, if_neg h]
theorem tsE_n {g : Nat → Int32} {z m p : Nat} {u : SC} (h : p < z) (h2 : tlF (g p) (dgN (g (p + 1))) (dgN (g (p + 2))) u = none) : tsE g z (m + 1) p u = (some p, u) := by rw [tsE, if_pos h, h2]
theorem tsE_s {g : Nat → Int32} {z m p : Nat} {u v : SC} (h : p < z) (h2 : tlF (g p) (dgN (g (p + 1))) (dgN (g (p + 2))) u = some v) : tsE g z (m + 1) p u = tsE g z m (p + stK g p + 2) v := by rw [tsE, if_pos h, h2]
theorem cnF_s {g : Nat → Int32} {z m p : Nat} (h : p < z) : cnF g z (m + 1) p = 1 + cnF g z m (p + stK g p + 2) := by rw [cnF, if_pos h]
theorem cnF_e {g : Nat → Int32} {z m p : Nat} (h : ¬ p < z) : cnF g z (m + 1) p = 0 := by rw [cnF, if_neg h]
