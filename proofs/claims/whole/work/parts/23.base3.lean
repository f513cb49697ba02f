/-! loops that make things, or carry a fact of the heap -/
section HOX
variable {p : Program} {l : Launch} {e : Env} {R : Room} {s : State} {m : MethodId} {args : Array Value} {below : List Frame} {meth : Method} {c : Code} {H : Heap} {locs : List Loc} {Q : State → Prop} {pc : Nat}
theorem ho_lpX {D : va_G} {cl : List vw_C} {A : Nat → Prop} {H0 : Heap} {T : Type} (nL : Nat) (w : T → va_W) (lv : T → List (Nat × Value)) (stk : T → List Value) (I : T → Prop) (μ : T → Nat) (ex : T → Heap → Prop) (ce sl : T → Nat) (x0 : T) {ls : Array Slot} (h0 : I x0) (hl : lv_has ls nL (lv x0)) (hP : va_P D cl (w x0) H) (hD : va_D A (w x0)) (hS : va_S A H0 H locs) (hE : ex x0 H)
    (step : ∀ (n : Nat) (x : T) (H : Heap) (locs : List Loc) (ls : Array Slot), I x → μ x < n + 1 → va_P D cl (w x) H → va_D A (w x) → va_S A H0 H locs → ex x H → lv_has ls nL (lv x) → (∀ (x' : T) (H' : Heap) (locs' : List Loc) (ls' : Array Slot), I x' → μ x' < n → va_P D cl (w x') H' → va_D A (w x') → va_S A H0 H' locs' → ex x' H' → lv_has ls' nL (lv x') → W p l e R s m args below meth c H' locs' (ce x') (sl x') Q (F0 m pc ls' (stk x'))) → W p l e R s m args below meth c H locs (ce x) (sl x) Q (F0 m pc ls (stk x))) : W p l e R s m args below meth c H locs (ce x0) (sl x0) Q (F0 m pc ls (stk x0)) := by
  have key : ∀ (n : Nat) (x : T) (H : Heap) (locs : List Loc) (ls : Array Slot), I x → μ x < n → va_P D cl (w x) H → va_D A (w x) → va_S A H0 H locs → ex x H → lv_has ls nL (lv x) → W p l e R s m args below meth c H locs (ce x) (sl x) Q (F0 m pc ls (stk x)) := by
    intro n
    induction n with
    | zero => intro x H locs ls _ h; exact absurd h (Nat.not_lt_zero _)
    | succ n ih => intro x H locs ls hI hm hP hD hS hE hl; exact step n x H locs ls hI hm hP hD hS hE hl (fun x' H' locs' ls' a b c d e f g => ih x' H' locs' ls' a b c d e f g)
  exact key (μ x0 + 1) x0 H locs ls h0 (Nat.lt_succ_self _) hP hD hS hE hl
end HOX
/-- one denier more, at a new place -/
theorem DP.more {dC : Nat → ClassId} {dI : Nat → Nat → Nat} {DL : List Nat} {kd fg : Nat → Nat} {H : Heap} {a k f : Nat} (h : DP dC dI DL kd fg H) (hn : a ∉ DL) (hP : va_P (dC, dI) vwCl [(a, dnE k f)] H) (hk : k < 8) (hf : f < 10) : DP dC dI (a :: DL) (va_up kd a k) (va_up fg a f) H := fun q hq => by
  rcases List.mem_cons.mp hq with rfl | hq
  · rw [va_up_self, va_up_self]
    exact ⟨hP, hk, hf⟩
  · have hne : q ≠ a := fun z => hn (z ▸ hq)
    rw [va_up_ne _ _ hne, va_up_ne _ _ hne]
    exact h q hq
theorem DP.lt {dC : Nat → ClassId} {dI : Nat → Nat → Nat} {DL : List Nat} {kd fg : Nat → Nat} {H : Heap} (h : DP dC dI DL kd fg H) {a : Nat} (ha : a ∈ DL) : a < H.size := ((h a ha).1 0 _ rfl).lt
/-- a world's last thing lies apart from the deniers that were there -/
theorem fr_no {dC : Nat → ClassId} {dI : Nat → Nat → Nat} {DL : List Nat} {kd fg : Nat → Nat} {H : Heap} {a : Nat} {e : va_E} (h : DP dC dI DL kd fg H) (hD : va_D (va_A [] H.size) [(a, e)]) : a ∉ DL := fun q => by
  have h1 := h.lt q
  rcases hD.2 0 (a, e) rfl with ⟨k, z, hz⟩ | hz
  · cases hz
  · exact absurd hz (Nat.not_le.mpr h1)
theorem fr_ge {H : Heap} {a : Nat} {e : va_E} (hD : va_D (va_A [] H.size) [(a, e)]) : H.size ≤ a := by
  rcases hD.2 0 (a, e) rfl with ⟨k, z, hz⟩ | hz
  · cases hz
  · exact hz
theorem ho_stk {p : Program} {l : Launch} {e : Env} {R : Room} {s : State} {m : MethodId} {args : Array Value} {below : List Frame} {meth : Method} {c : Code} {H : Heap} {locs : List Loc} {cells cells2 slots slots2 : Nat} {Q : State → Prop} {g : JFrame} (h1 : cells = cells2) (h2 : slots = slots2) (k : W p l e R s m args below meth c H locs cells2 slots2 Q g) : W p l e R s m args below meth c H locs cells slots Q g := by rw [h1, h2]; exact k
/-- another of the class' kinds: the best by their number of sentences -/
def hbV (E : Nat → Nat) : Nat → Option Nat
  | 0 => none
  | k + 1 => match hbV E k with
    | none => some (E k)
    | some m => bif decide (m < E k) then some (E k) else some m
def hbK (E : Nat → Nat) : Nat → Nat
  | 0 => 0
  | k + 1 => match hbV E k with
    | none => k
    | some m => bif decide (m < E k) then k else hbK E k
section HB
variable {E : Nat → Nat} {k m : Nat}
theorem hbV_0 (h : hbV E k = none) : some (E k) = hbV E (k + 1) := by simp only [hbV, h]
theorem hbV_t (h : hbV E k = some m) (h2 : m < E k) : some (E k) = hbV E (k + 1) := by simp only [hbV, h, decide_eq_true h2, cond_true]
theorem hbV_f (h : hbV E k = some m) (h2 : E k ≤ m) : some m = hbV E (k + 1) := by simp only [hbV, h, decide_eq_false (Nat.not_lt.mpr h2), cond_false]
theorem hbK_0 (h : hbV E k = none) : k = hbK E (k + 1) := by simp only [hbK, h]
theorem hbK_t (h : hbV E k = some m) (h2 : m < E k) : k = hbK E (k + 1) := by simp only [hbK, h, decide_eq_true h2, cond_true]
theorem hbK_f (h : hbV E k = some m) (h2 : E k ≤ m) : hbK E k = hbK E (k + 1) := by simp only [hbK, h, decide_eq_false (Nat.not_lt.mpr h2), cond_false]
theorem hbV_le (hE : ∀ k, E k ≤ 10) : ∀ k m, hbV E k = some m → m ≤ 10
  | 0, m, h => by cases h
  | k + 1, m, h => by
    have ih := hbV_le hE k
    unfold hbV at h
    cases hv : hbV E k with
    | none => simp only [hv] at h; cases h; exact hE k
    | some w =>
      simp only [hv] at h
      cases hd : decide (w < E k)
      · rw [hd] at h; cases h; exact ih _ hv
      · rw [hd] at h; cases h; exact hE k
theorem hbK_le : ∀ k, hbK E k ≤ k
  | 0 => Nat.le_refl 0
  | k + 1 => by
    have ih := hbK_le (E := E) k
    unfold hbK
    split
    · omega
    · cases decide (_ < E k) <;> simp <;> omega
end HB
/-- the guest's chances, added -/
def gsL (n : Nat) (nd : Nat → Nat) (lk : Nat → Option Nat) (k f : Nat) : Nat → Option Nat := cnL k f 0 6 nd n lk
def gsE (n : Nat) (nd : Nat → Nat) (ef : Nat → Nat) (k f : Nat) : Nat → Nat := cnE k f 0 6 nd n ef
theorem lkI_cong {n al : Nat} {nd kn : Nat → Nat} {mb : Nat → Option Nat} {kd fg kd2 fg2 : Nat → Nat} (h : ∀ j a, mb j = some a → kd2 a = kd a ∧ fg2 a = fg a) : ∀ i, lkI n al nd kn mb kd2 fg2 i = lkI n al nd kn mb kd fg i
  | 0 => rfl
  | i + 1 => by
    have ih := lkI_cong (n := n) (al := al) (nd := nd) (kn := kn) h i
    unfold lkI
    rw [ih]
    cases hm : mb i with
    | none => rfl
    | some a => simp only [(h i a hm).1, (h i a hm).2]
theorem efI_cong {n al : Nat} {nd kn : Nat → Nat} {mb : Nat → Option Nat} {kd fg kd2 fg2 : Nat → Nat} {ef : Nat → Nat} (h : ∀ j a, mb j = some a → kd2 a = kd a ∧ fg2 a = fg a) : ∀ i, efI n al nd kn mb kd2 fg2 ef i = efI n al nd kn mb kd fg ef i
  | 0 => rfl
  | i + 1 => by
    have ih := efI_cong (n := n) (al := al) (nd := nd) (kn := kn) (ef := ef) h i
    unfold efI
    rw [ih]
    cases hm : mb i with
    | none => rfl
    | some a => simp only [(h i a hm).1, (h i a hm).2]
theorem up_old {DL : List Nat} {mb : Nat → Option Nat} {kd : Nat → Nat} {q k : Nat} (hq : q ∉ DL) (h : ∀ j a, mb j = some a → a ∈ DL) : ∀ j a, mb j = some a → va_up kd q k a = kd a := fun j a hj => va_up_ne _ _ (fun z => hq (z ▸ h j a hj))
