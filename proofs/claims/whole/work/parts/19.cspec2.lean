/-! what the writing calls of the class do -/
def cmB (dm : Nat → Option Nat) (i : Int32) : Bool := on1 (oN i 8) (fun y => (dm y).isSome) false
def cmA (dm : Nat → Option Nat) (i : Int32) : Nat := on1 (oN i 8) (fun y => (dm y).getD 0) 0
theorem cmB_f {dm : Nat → Option Nat} {i : Int32} (h : okI i 8 = false) : cmB dm i = false := by simp [cmB, oN_f h, on1]
theorem cmB_n {dm : Nat → Option Nat} {y : Nat} (hy : y < 8) (h : dm y = none) : cmB dm (nI y) = false := by simp [cmB, oN_t hy, on1, h]
theorem cmB_s {dm : Nat → Option Nat} {y a : Nat} (hy : y < 8) (h : dm y = some a) : cmB dm (nI y) = true := by simp [cmB, oN_t hy, on1, h]
theorem cmA_s {dm : Nat → Option Nat} {y a : Nat} (hy : y < 8) (h : dm y = some a) : cmA dm (nI y) = a := by simp [cmA, oN_t hy, on1, h]
def comR (dm rm : Nat → Option Nat) (d : Nat) (i : Int32) : Int32 := bif cmB dm i then cond (decide (d < 6)) (nI d) (-2) else whyR dm rm i
/-- he may, and does: of numbers as they come -/
def dnC (n d : Nat) (f : Nat → Nat → Bool) (i j : Int32) : Bool := on2 (oN i d) (oN j n) f false
theorem dnC_1 {n d : Nat} {f : Nat → Nat → Bool} {i j : Int32} (h : okI i d = false) : dnC n d f i j = false := by simp [dnC, oN_f h, on2_n]
theorem dnC_2 {n d y : Nat} {f : Nat → Nat → Bool} {j : Int32} (hd : d < 2 ^ 31) (hy : y < d) (h : okI j n = false) : dnC n d f (nI y) j = false := by simp [dnC, oN_t hy, oN_f h, on2_sn]
theorem dnC_3 {n d y s : Nat} {f : Nat → Nat → Bool} (hd : d < 2 ^ 31) (hn : n < 2 ^ 31) (hy : y < d) (hs : s < n) : dnC n d f (nI y) (nI s) = f y s := by simp [dnC, oN_t hy, oN_t hs, on2_ss]
theorem cnL_lt {k f kn q : Nat} {nd : Nat → Nat} {L : Nat → Option Nat} (hnd : ∀ i, nd i < 512) (hL : ∀ i v, L i = some v → v < 512) : ∀ s i v, cnL k f kn q nd s L i = some v → v < 512
  | 0, i, v, h => hL i v h
  | s + 1, i, v, h => by
    have ih := cnL_lt (k := k) (f := f) (kn := kn) (q := q) hnd hL s
    unfold cnL at h
    cases hc : cdB k f kn (nd s) s
    · rw [hc] at h
      exact ih i v h
    · rw [hc] at h
      simp only [cond_true] at h
      by_cases hi : i = q * 9 + s
      · subst hi
        rw [va_up_self] at h
        cases h
        exact sdf_lt (hnd s)
      · rw [va_up_ne _ _ hi] at h
        exact ih i v h
theorem cnE_lt {k f kn q : Nat} {nd : Nat → Nat} {E : Nat → Nat} (hf : f < 10) (hE : ∀ i, E i < 1000) : ∀ s i, cnE k f kn q nd s E i < 1000
  | 0, i => hE i
  | s + 1, i => by
    have ih := cnE_lt (k := k) (f := f) (kn := kn) (q := q) (nd := nd) hf hE s
    unfold cnE
    cases hc : cdB k f kn (nd s) s
    · exact ih i
    · simp only [cond_true]
      by_cases hi : i = q * 9 + s
      · subst hi
        rw [va_up_self]
        exact efN_lt hf (pcN_le _)
      · rw [va_up_ne _ _ hi]
        exact ih i
theorem lkI_lt {n al : Nat} {nd kn : Nat → Nat} {mb : Nat → Option Nat} {kd fg : Nat → Nat} (hnd : ∀ i, nd i < 512) : ∀ z i v, lkI n al nd kn mb kd fg z i = some v → v < 512
  | 0, i, v, h => by cases h
  | z + 1, i, v, h => by
    have ih := lkI_lt (n := n) (al := al) (kn := kn) (mb := mb) (kd := kd) (fg := fg) hnd z
    unfold lkI at h
    cases hc : al.testBit z
    · rw [hc] at h
      exact ih i v h
    · rw [hc] at h
      simp only [cond_true] at h
      cases hm : mb z with
      | none => simp only [hm] at h; exact ih i v h
      | some a => simp only [hm] at h; exact cnL_lt hnd ih n i v h
theorem efI_lt {n al : Nat} {nd kn : Nat → Nat} {mb : Nat → Option Nat} {kd fg : Nat → Nat} {ef : Nat → Nat} (hfg : ∀ j a, mb j = some a → fg a < 10) (hE : ∀ i, ef i < 1000) : ∀ z i, efI n al nd kn mb kd fg ef z i < 1000
  | 0, i => hE i
  | z + 1, i => by
    have ih := efI_lt (n := n) (al := al) (nd := nd) (kn := kn) (kd := kd) hfg hE z
    unfold efI
    cases hc : al.testBit z
    · exact ih i
    · simp only [cond_true]
      cases hm : mb z with
      | none => exact ih i
      | some a => exact cnE_lt (hfg _ _ hm) ih n i
