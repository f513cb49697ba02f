/-! what the class' calls answer, as functions of what is asked -/
def on1 {α : Type} (o : Option Nat) (f : Nat → α) (z : α) : α := match o with
  | none => z
  | some y => f y
theorem on1_n {α : Type} (f : Nat → α) (z : α) : on1 none f z = z := rfl
theorem on1_s {α : Type} (y : Nat) (f : Nat → α) (z : α) : on1 (some y) f z = f y := rfl
def on2 {α : Type} (o p : Option Nat) (f : Nat → Nat → α) (z : α) : α := on1 o (fun y => on1 p (f y) z) z
theorem on2_n {α : Type} (p : Option Nat) (f : Nat → Nat → α) (z : α) : on2 none p f z = z := rfl
theorem on2_sn {α : Type} (y : Nat) (f : Nat → Nat → α) (z : α) : on2 (some y) none f z = z := rfl
theorem on2_ss {α : Type} (y s : Nat) (f : Nat → Nat → α) (z : α) : on2 (some y) (some s) f z = f y s := rfl
/-- a denier's kind, figure, by his number -/
def kx (kd : Nat → Nat) (mb : Nat → Option Nat) (j : Nat) : Nat := kd ((mb j).getD 0)
theorem kx_s {kd : Nat → Nat} {mb : Nat → Option Nat} {j a : Nat} (h : mb j = some a) : kx kd mb j = kd a := by simp [kx, h]
theorem okI_le9 {x : Int32} (h1 : ¬ x < 0) (h2 : ¬ nI 9 < x) : okI x 10 = true := okI_of h1 (by
  have h3 := Int32.not_lt.mp h2
  rw [Int32.le_iff_toInt_le] at h3
  rw [Int32.lt_iff_toInt_lt]
  have h4 : (nI 9).toInt = 9 := by decide
  have h5 : (nI 10).toInt = 10 := by decide
  omega)
theorem okI_gt9 {x : Int32} (h2 : nI 9 < x) : okI x 10 = false := okI_n1 (by
  rw [Int32.lt_iff_toInt_lt] at h2
  rw [Int32.le_iff_toInt_le]
  have h4 : (nI 9).toInt = 9 := by decide
  have h5 : (nI 10).toInt = 10 := by decide
  omega)
theorem okI_ge {j n : Nat} (hj : j < 2 ^ 31) (hn : n < 2 ^ 31) (h : okI (nI j) n = false) : n ≤ j := by
  rw [okI_nI hj hn] at h
  have := of_decide_eq_false h
  omega
def whyR (dm rm : Nat → Option Nat) (i : Int32) : Int32 := on1 (oN i 8) (fun y => bif (rm y).isNone && (dm y).isNone then -11 else -12) (-1)
def senR (n t : Nat) (nd : Nat → Nat) (mk si : Nat → Int32) (i w : Int32) : Int32 := on1 (oN i n) (fun y => if w = 0 then nI (nd y) else if w = 1 then bI (t.testBit y) else if w = 2 then (bif t.testBit y then mk y else -4) else if w = 3 then (bif t.testBit y then si y else -4) else -1) (-1)
def denR (d al : Nat) (kn K F : Nat → Nat) (i w : Int32) : Int32 := on1 (oN i d) (fun y => if w = 0 then nI (K y) else if w = 1 then nI (F y) else if w = 2 then nI (kn y) else if w = 3 then bI (al.testBit y) else if w = 4 then nI (asN (K y) (F y)) else -1) (-1)
/-- what falls with one -/
def ruF (t : Nat) (nd : Nat → Nat) (mk : Nat → Int32) (n y : Nat) : Nat := ruR t nd n n (orF (fun s9 => t.testBit s9 && decide (mk s9 = nI y)) n)
theorem ruI_lt {t : Nat} {nd : Nat → Nat} {F : Nat} (h : F < 512) : ∀ s, s ≤ 9 → ruI t nd s F < 512
  | 0, _ => h
  | s + 1, hs => by
    have ih := ruI_lt (t := t) (nd := nd) h s (by omega)
    unfold ruI
    cases (t.testBit s && (nd s &&& ruI t nd s F != 0))
    · exact ih
    · exact or_512 ih (bit_512 (by omega))
theorem ruR_lt {t : Nat} {nd : Nat → Nat} {n F : Nat} (hn : n ≤ 9) (h : F < 512) : ∀ r, ruR t nd n r F < 512
  | 0 => h
  | r + 1 => ruI_lt (ruR_lt hn h r) n hn
theorem ruF_lt {t : Nat} {nd : Nat → Nat} {mk : Nat → Int32} {n y : Nat} (hn : n ≤ 9) : ruF t nd mk n y < 512 := ruR_lt hn (orF_9 _ hn) n
def loF (F : Nat → Nat) : Nat → Nat
  | 0 => 0
  | i + 1 => loF F i ||| F i
theorem efN_lt {k f c : Nat} (hf : f < 10) (hc : c ≤ 10) : efN k f c < 1000 := by
  unfold efN
  split <;> omega
