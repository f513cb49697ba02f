/-! what is foreseen: lk says what must be true ahead of a seat's making a sentence true (none: never), ef the steps -/
def chF (lk : Nat → Option Nat) (ef : Nat → Nat) (t s : Nat) : Nat → Option Nat
  | 0 => none
  | k + 1 => match lk (s + 9 * k) with
    | none => chF lk ef t s k
    | some L => bif sdf L t == 0 then (match chF lk ef t s k with
      | none => some (ef (s + 9 * k))
      | some v => bif decide (ef (s + 9 * k) < v) then some (ef (s + 9 * k)) else some v) else chF lk ef t s k
def chE (lk : Nat → Option Nat) (ef : Nat → Nat) (t s : Nat) : Option Nat := bif t.testBit s then none else chF lk ef t s 7
theorem chF_lt {lk : Nat → Option Nat} {ef : Nat → Nat} {t s B : Nat} (h : ∀ i, ef i < B) : ∀ k v, chF lk ef t s k = some v → v < B
  | 0, v, hv => by cases hv
  | k + 1, v, hv => by
    have ih := chF_lt (lk := lk) (t := t) (s := s) h k
    unfold chF at hv
    split at hv
    · exact ih v hv
    · rename_i L hL
      cases hc : (sdf L t == 0)
      · rw [hc] at hv; exact ih v hv
      · rw [hc] at hv
        simp only [cond_true] at hv
        split at hv
        · cases hv; exact h _
        · rename_i w hw
          cases hd : decide (ef (s + 9 * k) < w)
          · rw [hd] at hv; cases hv; exact ih _ hw
          · rw [hd] at hv; cases hv; exact h _
theorem chE_lt {lk : Nat → Option Nat} {ef : Nat → Nat} {t s B v : Nat} (h : ∀ i, ef i < B) (hv : chE lk ef t s = some v) : v < B := by
  unfold chE at hv
  cases ht : t.testBit s
  · rw [ht] at hv; exact chF_lt h 7 v hv
  · rw [ht] at hv; cases hv
theorem chE_t {lk : Nat → Option Nat} {ef : Nat → Nat} {t s v : Nat} (hv : chE lk ef t s = some v) : t.testBit s = false := by
  unfold chE at hv
  cases ht : t.testBit s
  · rfl
  · rw [ht] at hv; cases hv
/-- a round over the sentences: what can be had comes -/
def raI (lk : Nat → Option Nat) (ef : Nat → Nat) : Nat → Nat → Nat
  | 0, t => t
  | s + 1, t => match chE lk ef (raI lk ef s t) s with
    | none => raI lk ef s t
    | some _ => raI lk ef s t ||| 2 ^ s
def raR (lk : Nat → Option Nat) (ef : Nat → Nat) : Nat → Nat → Nat
  | 0, t => t
  | r + 1, t => raI lk ef 9 (raR lk ef r t)
theorem raI_lt (lk : Nat → Option Nat) (ef : Nat → Nat) {t : Nat} (h : t < 512) : ∀ s, s ≤ 9 → raI lk ef s t < 512
  | 0, _ => h
  | s + 1, hs => by
    have ih := raI_lt lk ef h s (Nat.le_of_succ_le hs)
    unfold raI
    split
    · exact ih
    · exact or_512 ih (bit_512 (by omega))
theorem raR_lt (lk : Nat → Option Nat) (ef : Nat → Nat) {t : Nat} (h : t < 512) : ∀ r, raR lk ef r t < 512
  | 0 => h
  | r + 1 => raI_lt lk ef (raR_lt lk ef h r) 9 (Nat.le_refl 9)
theorem raI_n {lk : Nat → Option Nat} {ef : Nat → Nat} {s t : Nat} (h : chE lk ef (raI lk ef s t) s = none) : raI lk ef s t = raI lk ef (s + 1) t := by simp [raI, h]
theorem raI_s {lk : Nat → Option Nat} {ef : Nat → Nat} {s t v : Nat} (h : chE lk ef (raI lk ef s t) s = some v) : raI lk ef s t ||| 2 ^ s = raI lk ef (s + 1) t := by simp [raI, h]
/-- the least from a set on, over the sets one larger -/
def lfF (lk : Nat → Option Nat) (ef : Nat → Nat) (le : Nat → Option Nat) (b : Bool) (t : Nat) : Nat → Option Nat
  | 0 => none
  | s + 1 => match chE lk ef t s with
    | none => lfF lk ef le b t s
    | some e => match le (t ||| 2 ^ s) with
      | none => lfF lk ef le b t s
      | some r => match lfF lk ef le b t s with
        | none => some (r + (bif b then e else 1))
        | some w => bif decide (r + (bif b then e else 1) < w) then some (r + (bif b then e else 1)) else some w
section CHF
variable {lk : Nat → Option Nat} {ef : Nat → Nat} {le : Nat → Option Nat} {t s k L v : Nat}
theorem chF_n (h : lk (s + 9 * k) = none) : chF lk ef t s k = chF lk ef t s (k + 1) := by simp [chF, h]
theorem chF_f (h : lk (s + 9 * k) = some L) (h2 : (sdf L t == 0) = false) : chF lk ef t s k = chF lk ef t s (k + 1) := by simp only [chF, h, h2, cond_false]
theorem chF_0 (h : lk (s + 9 * k) = some L) (h2 : (sdf L t == 0) = true) (h3 : chF lk ef t s k = none) : some (ef (s + 9 * k)) = chF lk ef t s (k + 1) := by simp only [chF, h, h2, h3, cond_true]
theorem chF_l (h : lk (s + 9 * k) = some L) (h2 : (sdf L t == 0) = true) (h3 : chF lk ef t s k = some v) (h4 : ef (s + 9 * k) < v) : some (ef (s + 9 * k)) = chF lk ef t s (k + 1) := by simp only [chF, h, h2, h3, cond_true, decide_eq_true h4]
theorem chF_g (h : lk (s + 9 * k) = some L) (h2 : (sdf L t == 0) = true) (h3 : chF lk ef t s k = some v) (h4 : v ≤ ef (s + 9 * k)) : some v = chF lk ef t s (k + 1) := by simp only [chF, h, h2, h3, cond_true, cond_false, decide_eq_false (Nat.not_lt.mpr h4)]
theorem chE_of (h : t.testBit s = false) : chF lk ef t s 7 = chE lk ef t s := by simp only [chE, h, cond_false]
theorem chE_tt (h : t.testBit s = true) : none = chE lk ef t s := by simp only [chE, h, cond_true]
variable {b : Bool} {e r w m : Nat}
theorem lfF_n (h : chE lk ef t s = none) : lfF lk ef le b t s = lfF lk ef le b t (s + 1) := by simp only [lfF, h]
theorem lfF_m (h : chE lk ef t s = some e) (h2 : le (t ||| 2 ^ s) = none) : lfF lk ef le b t s = lfF lk ef le b t (s + 1) := by simp only [lfF, h, h2]
theorem lfF_0 (h : chE lk ef t s = some e) (h2 : le (t ||| 2 ^ s) = some r) (hm : (bif b then e else 1) = m) (h3 : lfF lk ef le b t s = none) : some (r + m) = lfF lk ef le b t (s + 1) := by simp only [lfF, h, h2, h3, hm]
theorem lfF_l (h : chE lk ef t s = some e) (h2 : le (t ||| 2 ^ s) = some r) (hm : (bif b then e else 1) = m) (h3 : lfF lk ef le b t s = some w) (h4 : r + m < w) : some (r + m) = lfF lk ef le b t (s + 1) := by simp only [lfF, h, h2, h3, hm, decide_eq_true h4, cond_true]
theorem lfF_g (h : chE lk ef t s = some e) (h2 : le (t ||| 2 ^ s) = some r) (hm : (bif b then e else 1) = m) (h3 : lfF lk ef le b t s = some w) (h4 : w ≤ r + m) : some w = lfF lk ef le b t (s + 1) := by simp only [lfF, h, h2, h3, hm, decide_eq_false (Nat.not_lt.mpr h4), cond_false]
end CHF
theorem lfF_lt {lk : Nat → Option Nat} {ef : Nat → Nat} {le : Nat → Option Nat} {b : Bool} {t : Nat} (hle : ∀ i v, le i = some v → v < 100000) (hef : ∀ i, ef i < 1000) : ∀ k v, lfF lk ef le b t k = some v → v < 101001
  | 0, v, hv => by cases hv
  | k + 1, v, hv => by
    have ih := lfF_lt (b := b) (lk := lk) (t := t) hle hef k
    unfold lfF at hv
    split at hv
    · exact ih v hv
    · rename_i e he
      have h1 := chE_lt hef he
      split at hv
      · exact ih v hv
      · rename_i r hr
        have h2 := hle _ _ hr
        have h3 : (bif b then e else 1) < 1001 := by cases b <;> simp <;> omega
        split at hv
        · cases hv; omega
        · rename_i w hw
          have h4 := ih _ hw
          cases hd : decide (r + (bif b then e else 1) < w)
          · rw [hd] at hv; cases hv; exact h4
          · rw [hd] at hv; cases hv; omega
