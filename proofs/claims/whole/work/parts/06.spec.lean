/-! what a school of the class answers -/
def mbW (mb : Nat → Option Nat) (x : Nat) : Option Nat := if x < 6 then mb x else none
theorem mbW_some {mb : Nat → Option Nat} {x a : Nat} (h : mbW mb x = some a) : x < 6 ∧ mb x = some a := by
  unfold mbW at h
  by_cases h6 : x < 6
  · rw [if_pos h6] at h; exact ⟨h6, h⟩
  · rw [if_neg h6] at h; cases h
def alB (n al t : Nat) (kn nd : Nat → Nat) (mb : Nat → Option Nat) (kd fg : Nat → Nat) (x y : Nat) : Bool := match mbW mb x with
  | none => false
  | some a => al.testBit x && decide (y < n) && maB (kd a) (fg a) t (kn x) (nd y) y
def wsB (day t : Nat) (kn nd : Nat → Nat) (mb : Nat → Option Nat) (kd : Nat → Nat) (x y : Nat) : Bool := match mb x with
  | none => false
  | some a => siB (kd a) t (kn x) (nd y) (day % 2 != 0)
def slN (n al t day : Nat) (kn nd : Nat → Nat) (mb : Nat → Option Nat) (kd fg : Nat → Nat) (x : Nat) : Nat := match mb x with
  | none => 0
  | some a => bif al.testBit x then orF (fun s9 => !t.testBit s9 && maB (kd a) (fg a) t (kn x) (nd s9) s9 && siB (kd a) t (kn x) (nd s9) (day % 2 != 0)) n else 0
def suB (t : Nat) (nd kn : Nat → Nat) (mb : Nat → Option Nat) (kd fg : Nat → Nat) (y i : Nat) : Bool := match mb i with
  | none => false
  | some a => maB (kd a) (fg a) (sdf t (2 ^ y)) (sdf (kn i) (2 ^ y)) (nd y) y && siB (kd a) (sdf t (2 ^ y)) (sdf (kn i) (2 ^ y)) (nd y) false
/-- one round of what falls with what fell -/
def ruI (t : Nat) (nd : Nat → Nat) : Nat → Nat → Nat
  | 0, F => F
  | s + 1, F => bif t.testBit s && (nd s &&& ruI t nd s F != 0) then ruI t nd s F ||| 2 ^ s else ruI t nd s F
def ruR (t : Nat) (nd : Nat → Nat) (n : Nat) : Nat → Nat → Nat
  | 0, F => F
  | r + 1, F => ruI t nd n (ruR t nd n r F)
theorem ruI_t {t : Nat} {nd : Nat → Nat} {s F : Nat} (h1 : t.testBit s = true) (h2 : nd s &&& ruI t nd s F ≠ 0) : ruI t nd s F ||| 2 ^ s = ruI t nd (s + 1) F := by
  have h3 : (nd s &&& ruI t nd s F != 0) = true := by simpa using h2
  simp only [ruI, h1, h3]
  rfl
theorem ruI_f1 {t : Nat} {nd : Nat → Nat} {s F : Nat} (h1 : t.testBit s = false) : ruI t nd s F = ruI t nd (s + 1) F := by
  simp [ruI, h1]
theorem ruI_f2 {t : Nat} {nd : Nat → Nat} {s F : Nat} (h2 : nd s &&& ruI t nd s F = 0) : ruI t nd s F = ruI t nd (s + 1) F := by
  simp [ruI, h2]
def bc1 (x : Int32) : Int32 := x - (((x).toUInt32 >>> ((nI 1).toUInt32 &&& Int32.toUInt32 31)).toInt32 &&& nI 1431655765)
def bc2 (x : Int32) : Int32 := (x &&& nI 858993459) + (((x).toUInt32 >>> ((nI 2).toUInt32 &&& Int32.toUInt32 31)).toInt32 &&& nI 858993459)
def bc3 (x : Int32) : Int32 := (x + ((x).toUInt32 >>> ((nI 4).toUInt32 &&& Int32.toUInt32 31)).toInt32) &&& nI 252645135
def bc4 (x : Int32) : Int32 := x + ((x).toUInt32 >>> ((nI 8).toUInt32 &&& Int32.toUInt32 31)).toInt32
def bc5 (x : Int32) : Int32 := x + ((x).toUInt32 >>> ((nI 16).toUInt32 &&& Int32.toUInt32 31)).toInt32
theorem bcN : ∀ v, v < 1024 → bc5 (bc4 (bc3 (bc2 (bc1 (nI v))))) &&& nI 63 = nI (pcN v) := by decide +kernel
