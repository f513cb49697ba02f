/-! what one may deny, whom he silences: by numbers -/
def mnB (t al : Nat) (nd K F kn : Nat → Nat) (j i : Nat) : Bool := al.testBit j && maB (K j) (F j) t (kn j) (nd i) i
def smN (n t al : Nat) (nd K F kn : Nat → Nat) (odd : Bool) (j : Nat) : Nat := orF (fun i => !t.testBit i && mnB t al nd K F kn j i && siB (K j) t (kn j) (nd i) odd) n
theorem smN_lt {n t al : Nat} {nd K F kn : Nat → Nat} {odd : Bool} {j : Nat} (hn : n ≤ 9) : smN n t al nd K F kn odd j < 512 := orF_9 _ hn
theorem alB_mn {n al t x s a : Nat} {kn nd : Nat → Nat} {mb : Nat → Option Nat} {kd fg : Nat → Nat} (hx : x < 6) (h : mb x = some a) (hs : s < n) : alB n al t kn nd mb kd fg x s = mnB t al nd (kx kd mb) (kx fg mb) kn x s := by
  simp only [alB, mbW, if_pos hx, h, mnB, kx_s h, decide_eq_true hs, Bool.and_true]
theorem wsB_si {day t x s a : Nat} {kn nd : Nat → Nat} {mb : Nat → Option Nat} {kd : Nat → Nat} (h : mb x = some a) : wsB day t kn nd mb kd x s = siB (kx kd mb x) t (kn x) (nd s) (day % 2 != 0) := by
  simp only [wsB, h, kx_s h]
/-- day, truth, what is known -/
abbrev D3 : Type := Nat × Nat × (Nat → Nat)
def d3B (al : Nat) (nd K F : Nat → Nat) (x s : Nat) (u : D3) : Bool := mnB u.2.1 al nd K F u.2.2 x s
def d3Z (nd K : Nat → Nat) (x s : Nat) (u : D3) : Bool := siB (K x) u.2.1 (u.2.2 x) (nd s) (u.1 % 2 != 0)
/-- a denial, whether he is silenced or not -/
def d3D (nd K : Nat → Nat) (x s : Nat) (u : D3) : D3 := (u.1 + 1, bif d3Z nd K x s u then u.2.1 ||| 2 ^ s else u.2.1, bif d3Z nd K x s u then va_up u.2.2 x (u.2.2 x ||| 2 ^ s) else u.2.2)
def d3T (al : Nat) (nd K F : Nat → Nat) (x s : Nat) (u : D3) : D3 := bif d3B al nd K F x s u then d3D nd K x s u else u
theorem d3T_t {al x s : Nat} {nd K F : Nat → Nat} {u : D3} (h : d3B al nd K F x s u = true) : d3T al nd K F x s u = d3D nd K x s u := by simp only [d3T, h, cond_true]
theorem d3T_f {al x s : Nat} {nd K F : Nat → Nat} {u : D3} (h : d3B al nd K F x s u = false) : d3T al nd K F x s u = u := by simp only [d3T, h, cond_false]
theorem d3D_ok {nd K : Nat → Nat} {x s : Nat} {u : D3} (hs : s < 9) (ht : u.2.1 < 512) (hk : ∀ j, u.2.2 j < 512) : (d3D nd K x s u).2.1 < 512 ∧ ∀ j, (d3D nd K x s u).2.2 j < 512 := by
  unfold d3D
  cases d3Z nd K x s u
  · exact ⟨ht, hk⟩
  · refine ⟨or_512 ht (bit_512 hs), fun j => ?_⟩
    by_cases hj : j = x
    · subst hj
      show va_up _ _ _ _ < 512
      rw [va_up_self]
      exact or_512 (hk j) (bit_512 hs)
    · show va_up _ _ _ _ < 512
      rw [va_up_ne _ _ hj]
      exact hk j
theorem d3T_ok {al : Nat} {nd K F : Nat → Nat} {x s : Nat} {u : D3} (hs : s < 9) (ht : u.2.1 < 512) (hk : ∀ j, u.2.2 j < 512) : (d3T al nd K F x s u).2.1 < 512 ∧ (∀ j, (d3T al nd K F x s u).2.2 j < 512) ∧ (d3T al nd K F x s u).1 ≤ u.1 + 1 := by
  unfold d3T
  cases d3B al nd K F x s u
  · exact ⟨ht, hk, Nat.le_succ _⟩
  · exact ⟨(d3D_ok hs ht hk).1, (d3D_ok hs ht hk).2, Nat.le_refl _⟩
/-- a row of denials: of bytes by twos -/
def nT (x : Int32) : Nat := x.toNatClampNeg
theorem nT_ok {x : Int32} {n : Nat} (hn : n < 2 ^ 31) (h : okI x n = true) : x = nI (nT x) ∧ nT x < n := by
  obtain ⟨j, hj, rfl⟩ := okI_ex hn h
  unfold nT
  rw [nI_clamp (by omega)]
  exact ⟨rfl, hj⟩
def adF (g : Nat → Int32) (d n : Nat) : Nat → Bool
  | 0 => true
  | m + 1 => adF g d n m && (okI (g (2 * m)) d && okI (g (2 * m + 1)) n)
theorem adF_at {g : Nat → Int32} {d n : Nat} : ∀ {m : Nat}, adF g d n m = true → ∀ i, i < m → okI (g (2 * i)) d = true ∧ okI (g (2 * i + 1)) n = true
  | m + 1, h, i, hi => by
    simp only [adF, Bool.and_eq_true] at h
    by_cases he : i = m
    · subst he
      exact h.2
    · exact adF_at h.1 i (by omega)
theorem adF_no {g : Nat → Int32} {d n m k : Nat} (h : adF g d n (k + 1) = false) (hk : k < m) : adF g d n m = false := by
  cases hm : adF g d n m
  · rfl
  · have h2 := adF_at hm k hk
    have : ∀ j, j ≤ m → adF g d n j = true := by
      intro j
      induction j with
      | zero => intro _; rfl
      | succ j ih =>
        intro hj
        have h3 := adF_at hm j (by omega)
        simp only [adF, ih (by omega), h3.1, h3.2, Bool.and_true]
    rw [this (k + 1) (by omega)] at h
    cases h
/-- so many of them done, and how many were made -/
def rnF (al : Nat) (nd K F : Nat → Nat) (g : Nat → Int32) (u : D3) : Nat → D3
  | 0 => u
  | m + 1 => d3T al nd K F (nT (g (2 * m))) (nT (g (2 * m + 1))) (rnF al nd K F g u m)
def rnM (al : Nat) (nd K F : Nat → Nat) (g : Nat → Int32) (u : D3) : Nat → Nat
  | 0 => 0
  | m + 1 => rnM al nd K F g u m + (d3B al nd K F (nT (g (2 * m))) (nT (g (2 * m + 1))) (rnF al nd K F g u m)).toNat
theorem rnM_le {al : Nat} {nd K F : Nat → Nat} {g : Nat → Int32} {u : D3} : ∀ m, rnM al nd K F g u m ≤ m
  | 0 => Nat.le_refl 0
  | m + 1 => by
    have ih := rnM_le (al := al) (nd := nd) (K := K) (F := F) (g := g) (u := u) m
    unfold rnM
    cases d3B al nd K F (nT (g (2 * m))) (nT (g (2 * m + 1))) (rnF al nd K F g u m) <;> simp <;> omega
theorem rnF_ok {al n d : Nat} {nd K F : Nat → Nat} {g : Nat → Int32} {u : D3} (hn : n ≤ 9) (hd : d < 2 ^ 31) (ht : u.2.1 < 512) (hk : ∀ j, u.2.2 j < 512) : ∀ m, adF g d n m = true → (rnF al nd K F g u m).2.1 < 512 ∧ (∀ j, (rnF al nd K F g u m).2.2 j < 512) ∧ (rnF al nd K F g u m).1 ≤ u.1 + m
  | 0, _ => ⟨ht, hk, Nat.le_refl _⟩
  | m + 1, h => by
    have h2 := adF_at h m (Nat.lt_succ_self m)
    simp only [adF, Bool.and_eq_true] at h
    obtain ⟨i1, i2, i3⟩ := rnF_ok (al := al) (nd := nd) (K := K) (F := F) (u := u) hn hd ht hk m h.1
    have hs := (nT_ok (by omega) h2.2).2
    obtain ⟨q1, q2, q3⟩ := d3T_ok (al := al) (nd := nd) (K := K) (F := F) (x := nT (g (2 * m))) (s := nT (g (2 * m + 1))) (by omega) i1 i2
    exact ⟨q1, q2, by show (d3T _ _ _ _ _ _ _).1 ≤ _; omega⟩
/-- numbers drawn -/
def nsI (z : Int32) : Int32 := z * 1103515245 + 12345
def dwN (z : Int32) (n : Nat) : Nat := (z.toBitVec.toNat % 2147483648) / 65536 % n
theorem dw_and (z : Int32) : z &&& nI 2147483647 = nI (z.toBitVec.toNat % 2147483648) := by
  apply Int32.toBitVec_inj.mp
  apply BitVec.eq_of_toNat_eq
  rw [Int32.toBitVec_and, BitVec.toNat_and]
  have h1 : (nI 2147483647).toBitVec.toNat = 2 ^ 31 - 1 := by decide
  have h2 : (nI (z.toBitVec.toNat % 2147483648)).toBitVec.toNat = z.toBitVec.toNat % 2147483648 := by
    show (Int32.ofNat _).toBitVec.toNat = _
    rw [Int32.toBitVec_ofNat', BitVec.toNat_ofNat]
    omega
  rw [h1, h2, Nat.and_two_pow_sub_one_eq_mod]
def sdZ (d n : Nat) (z : Int32) : Nat → Int32
  | 0 => z
  | m + 1 => nsI (nsI (sdZ d n z m))
def sdF_ (al d n : Nat) (nd K F : Nat → Nat) (z : Int32) (u : D3) : Nat → D3
  | 0 => u
  | m + 1 => d3T al nd K F (dwN (nsI (sdZ d n z m)) d) (dwN (nsI (nsI (sdZ d n z m))) n) (sdF_ al d n nd K F z u m)
theorem dwN_lt {z : Int32} {n : Nat} (h : 0 < n) : dwN z n < n := Nat.mod_lt _ h
theorem dw_e (z : Int32) (b : Nat) : z.toBitVec.toNat % 2147483648 / 2 ^ 16 % b = dwN z b := by rw [dwN, show (2 : Nat) ^ 16 = 65536 from by decide]
theorem sdF_s {al d n : Nat} {nd K F : Nat → Nat} {z : Int32} {u : D3} {m : Nat} : sdF_ al d n nd K F z u (m + 1) = d3T al nd K F (dwN (nsI (sdZ d n z m)) d) (dwN (nsI (nsI (sdZ d n z m))) n) (sdF_ al d n nd K F z u m) := by rw [sdF_]
theorem sdF_ok {al n d : Nat} {nd K F : Nat → Nat} {z : Int32} {u : D3} (hn : n ≤ 9) (hn0 : 0 < n) (ht : u.2.1 < 512) (hk : ∀ j, u.2.2 j < 512) (m : Nat) : (sdF_ al d n nd K F z u m).2.1 < 512 ∧ (∀ j, (sdF_ al d n nd K F z u m).2.2 j < 512) ∧ (sdF_ al d n nd K F z u m).1 ≤ u.1 + m := by
  induction m with
  | zero => exact ⟨ht, hk, Nat.le_refl _⟩
  | succ m ih =>
    obtain ⟨i1, i2, i3⟩ := ih
    rw [sdF_s]
    have hs : dwN (nsI (nsI (sdZ d n z m))) n < 9 := Nat.lt_of_lt_of_le (dwN_lt hn0) hn
    generalize dwN (nsI (nsI (sdZ d n z m))) n = b at hs ⊢
    generalize dwN (nsI (sdZ d n z m)) d = a
    generalize sdF_ al d n nd K F z u m = w at i1 i2 i3 ⊢
    obtain ⟨q1, q2, q3⟩ := d3T_ok (al := al) (nd := nd) (K := K) (F := F) (x := a) hs i1 i2
    exact ⟨q1, q2, by omega⟩
/-- how many by seeds -/
def sdO (i : Int32) : Option Nat := if i < nI 1 ∨ ¬ i ≤ nI 40 then none else some i.toNatClampNeg
theorem sd_or (i : Int32) : (i < nI 1 ∨ ¬ i ≤ nI 40) ∨ ∃ k, 1 ≤ k ∧ k ≤ 40 ∧ i = nI k := by
  by_cases h : i < nI 1 ∨ ¬ i ≤ nI 40
  · exact Or.inl h
  · refine Or.inr ?_
    have h1 : ¬ i < nI 1 := fun q => h (Or.inl q)
    have h2 : i ≤ nI 40 := Classical.byContradiction (fun q => h (Or.inr q))
    rw [Int32.lt_iff_toInt_lt] at h1
    rw [Int32.le_iff_toInt_le] at h2
    have e1 : (nI 1).toInt = 1 := by decide
    have e2 : (nI 40).toInt = 40 := by decide
    have e0 : (0 : Int32).toInt = 0 := by decide
    obtain ⟨j, hj, rfl⟩ := nI_of (x := i) (fun q => by have := Int32.lt_iff_toInt_lt.mp q; omega)
    rw [nI_toInt hj] at h1 h2
    exact ⟨j, by omega, by omega, rfl⟩
theorem sdO_f {i : Int32} (h : i < nI 1 ∨ ¬ i ≤ nI 40) : sdO i = none := by rw [sdO, if_pos h]
theorem sdO_t {k : Nat} (h1 : 1 ≤ k) (h2 : k ≤ 40) : sdO (nI k) = some k := by
  rw [sdO, if_neg, nI_clamp (by omega)]
  rintro (q | q)
  · exact absurd ((nI_ltI (by omega) (by omega)).mp q) (by omega)
  · exact q ((nI_leI (by omega) (by omega)).mpr h2)
/-- a told row, by threes -/
def jdF (al n d : Nat) (nd K F : Nat → Nat) (g : Nat → Int32) (z : Nat) : Nat → Nat → D3 → Int32
  | 0, _, _ => -4
  | m + 1, p, u => if p < z then (if z < p + 3 then nI p else bif okI (g p) d then (bif okI (g (p + 1)) n then (bif d3B al nd K F (nT (g p)) (nT (g (p + 1))) u then (if g (p + 2) = bI (d3Z nd K (nT (g p)) (nT (g (p + 1))) u) then jdF al n d nd K F g z m (p + 3) (d3D nd K (nT (g p)) (nT (g (p + 1))) u) else nI (p + 2)) else nI (p + 1)) else nI (p + 1)) else nI p) else -4
section JD
variable {al n d z m p : Nat} {nd K F : Nat → Nat} {g : Nat → Int32} {u : D3}
theorem jd_end (h : ¬ p < z) : jdF al n d nd K F g z (m + 1) p u = -4 := by rw [jdF, if_neg h]
theorem jd_1 (h : p < z) (h2 : z < p + 3) : jdF al n d nd K F g z (m + 1) p u = nI p := by rw [jdF, if_pos h, if_pos h2]
theorem jd_2 (h2 : ¬ z < p + 3) (h3 : okI (g p) d = false) : jdF al n d nd K F g z (m + 1) p u = nI p := by rw [jdF, if_pos (by omega), if_neg h2, h3]; rfl
theorem jd_3 (h2 : ¬ z < p + 3) (h3 : okI (g p) d = true) (h4 : okI (g (p + 1)) n = false) : jdF al n d nd K F g z (m + 1) p u = nI (p + 1) := by rw [jdF, if_pos (by omega), if_neg h2, h3, h4]; rfl
theorem jd_4 (h2 : ¬ z < p + 3) (h3 : okI (g p) d = true) (h4 : okI (g (p + 1)) n = true) (h5 : d3B al nd K F (nT (g p)) (nT (g (p + 1))) u = false) : jdF al n d nd K F g z (m + 1) p u = nI (p + 1) := by rw [jdF, if_pos (by omega), if_neg h2, h3, h4, h5]; rfl
theorem jd_5 (h2 : ¬ z < p + 3) (h3 : okI (g p) d = true) (h4 : okI (g (p + 1)) n = true) (h5 : d3B al nd K F (nT (g p)) (nT (g (p + 1))) u = true) (h6 : ¬ g (p + 2) = bI (d3Z nd K (nT (g p)) (nT (g (p + 1))) u)) : jdF al n d nd K F g z (m + 1) p u = nI (p + 2) := by rw [jdF, if_pos (by omega), if_neg h2, h3, h4, h5]; simp only [cond_true, if_neg h6]
theorem jd_6 (h2 : ¬ z < p + 3) (h3 : okI (g p) d = true) (h4 : okI (g (p + 1)) n = true) (h5 : d3B al nd K F (nT (g p)) (nT (g (p + 1))) u = true) (h6 : g (p + 2) = bI (d3Z nd K (nT (g p)) (nT (g (p + 1))) u)) : jdF al n d nd K F g z (m + 1) p u = jdF al n d nd K F g z m (p + 3) (d3D nd K (nT (g p)) (nT (g (p + 1))) u) := by rw [jdF, if_pos (by omega), if_neg h2, h3, h4, h5]; simp only [cond_true, if_pos h6]
end JD
theorem kn_up {kn : Nat → Nat} {x s : Nat} (hk : ∀ j, kn j < 512) (hs : s < 9) (j : Nat) : va_up kn x (kn x ||| 2 ^ s) j < 512 := by
  by_cases hj : j = x
  · subst hj
    rw [va_up_self]
    exact or_512 (hk j) (bit_512 hs)
  · rw [va_up_ne _ _ hj]
    exact hk j
