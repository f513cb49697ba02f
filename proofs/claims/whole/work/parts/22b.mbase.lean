/-! THE MODEL'S STATE: the row s as numbers -/
def sF (n d t day al : Nat) (nd : Nat → Nat) (bb oo : Nat → Int32) (K F kn : Nat → Nat) : Nat → Int32 := fun k =>
  if k < 5 then (if k = 0 then nI n else if k = 1 then nI d else if k = 2 then nI t else if k = 3 then nI day else nI al)
  else if k < 32 then (if (k - 5) % 3 = 0 then nI (nd ((k - 5) / 3)) else if (k - 5) % 3 = 1 then bb ((k - 5) / 3) else oo ((k - 5) / 3))
  else (if (k - 32) % 3 = 0 then nI (K ((k - 32) / 3)) else if (k - 32) % 3 = 1 then nI (F ((k - 32) / 3)) else nI (kn ((k - 32) / 3)))
section SF
variable {n d t day al v i : Nat} {nd : Nat → Nat} {bb oo : Nat → Int32} {K F kn : Nat → Nat} {z : Int32}
theorem sF_0 : sF n d t day al nd bb oo K F kn 0 = nI n := rfl
theorem sF_1 : sF n d t day al nd bb oo K F kn 1 = nI d := rfl
theorem sF_2 : sF n d t day al nd bb oo K F kn 2 = nI t := rfl
theorem sF_3 : sF n d t day al nd bb oo K F kn 3 = nI day := rfl
theorem sF_4 : sF n d t day al nd bb oo K F kn 4 = nI al := rfl
theorem sF_n0 (h : i < 9) : sF n d t day al nd bb oo K F kn (5 + (3 * i) + 0) = nI (nd i) := by
  unfold sF
  rw [if_neg (by omega), if_pos (by omega), if_pos (by omega), show (5 + 3 * i + 0 - 5) / 3 = i by omega]
theorem sF_n1 (h : i < 9) : sF n d t day al nd bb oo K F kn (5 + (3 * i) + 1) = bb i := by
  unfold sF
  rw [if_neg (by omega), if_pos (by omega), if_neg (by omega), if_pos (by omega), show (5 + 3 * i + 1 - 5) / 3 = i by omega]
theorem sF_n2 (h : i < 9) : sF n d t day al nd bb oo K F kn (5 + (3 * i) + 2) = oo i := by
  unfold sF
  rw [if_neg (by omega), if_pos (by omega), if_neg (by omega), if_neg (by omega), show (5 + 3 * i + 2 - 5) / 3 = i by omega]
theorem sF_k0 : sF n d t day al nd bb oo K F kn (32 + (3 * i) + 0) = nI (K i) := by
  unfold sF
  rw [if_neg (by omega), if_neg (by omega), if_pos (by omega), show (32 + 3 * i + 0 - 32) / 3 = i by omega]
theorem sF_k1 : sF n d t day al nd bb oo K F kn (32 + (3 * i) + 1) = nI (F i) := by
  unfold sF
  rw [if_neg (by omega), if_neg (by omega), if_neg (by omega), if_pos (by omega), show (32 + 3 * i + 1 - 32) / 3 = i by omega]
theorem sF_k2 : sF n d t day al nd bb oo K F kn (32 + (3 * i) + 2) = nI (kn i) := by
  unfold sF
  rw [if_neg (by omega), if_neg (by omega), if_neg (by omega), if_neg (by omega), show (32 + 3 * i + 2 - 32) / 3 = i by omega]
theorem sF_u0 : upd (sF n d t day al nd bb oo K F kn) 0 (nI v) = sF v d t day al nd bb oo K F kn := by
  funext j
  unfold upd sF
  repeat' split
  all_goals first | rfl | omega
theorem sF_u1 : upd (sF n d t day al nd bb oo K F kn) 1 (nI v) = sF n v t day al nd bb oo K F kn := by
  funext j
  unfold upd sF
  repeat' split
  all_goals first | rfl | omega
theorem sF_u2 : upd (sF n d t day al nd bb oo K F kn) 2 (nI v) = sF n d v day al nd bb oo K F kn := by
  funext j
  unfold upd sF
  repeat' split
  all_goals first | rfl | omega
theorem sF_u3 : upd (sF n d t day al nd bb oo K F kn) 3 (nI v) = sF n d t v al nd bb oo K F kn := by
  funext j
  unfold upd sF
  repeat' split
  all_goals first | rfl | omega
theorem sF_u4 : upd (sF n d t day al nd bb oo K F kn) 4 (nI v) = sF n d t day v nd bb oo K F kn := by
  funext j
  unfold upd sF
  repeat' split
  all_goals first | rfl | omega
theorem sF_w0 (h : i < 9) : upd (sF n d t day al nd bb oo K F kn) (5 + (3 * i) + 0) (nI v) = sF n d t day al (va_up nd i v) bb oo K F kn := by
  funext j
  by_cases hj : j = 5 + 3 * i + 0
  · subst hj
    rw [sF_n0 h, va_up_self, pk_us]
  · rw [pk_un hj]
    by_cases hi : (j - 5) / 3 = i
    · unfold sF
      repeat' split
      all_goals first | rfl | omega
    · unfold sF
      rw [va_up_ne _ _ hi]
theorem sF_w1 (h : i < 9) : upd (sF n d t day al nd bb oo K F kn) (5 + (3 * i) + 1) z = sF n d t day al nd (upd bb i z) oo K F kn := by
  funext j
  by_cases hj : j = 5 + 3 * i + 1
  · subst hj
    rw [sF_n1 h, pk_us, pk_us]
  · rw [pk_un hj]
    by_cases hi : (j - 5) / 3 = i
    · unfold sF
      repeat' split
      all_goals first | rfl | omega
    · unfold sF
      rw [pk_un hi]
theorem sF_w2 (h : i < 9) : upd (sF n d t day al nd bb oo K F kn) (5 + (3 * i) + 2) z = sF n d t day al nd bb (upd oo i z) K F kn := by
  funext j
  by_cases hj : j = 5 + 3 * i + 2
  · subst hj
    rw [sF_n2 h, pk_us, pk_us]
  · rw [pk_un hj]
    by_cases hi : (j - 5) / 3 = i
    · unfold sF
      repeat' split
      all_goals first | rfl | omega
    · unfold sF
      rw [pk_un hi]
theorem sF_x0 : upd (sF n d t day al nd bb oo K F kn) (32 + (3 * i) + 0) (nI v) = sF n d t day al nd bb oo (va_up K i v) F kn := by
  funext j
  by_cases hj : j = 32 + 3 * i + 0
  · subst hj
    rw [sF_k0, va_up_self, pk_us]
  · rw [pk_un hj]
    by_cases hi : (j - 32) / 3 = i
    · unfold sF
      repeat' split
      all_goals first | rfl | omega
    · unfold sF
      rw [va_up_ne _ _ hi]
theorem sF_x1 : upd (sF n d t day al nd bb oo K F kn) (32 + (3 * i) + 1) (nI v) = sF n d t day al nd bb oo K (va_up F i v) kn := by
  funext j
  by_cases hj : j = 32 + 3 * i + 1
  · subst hj
    rw [sF_k1, va_up_self, pk_us]
  · rw [pk_un hj]
    by_cases hi : (j - 32) / 3 = i
    · unfold sF
      repeat' split
      all_goals first | rfl | omega
    · unfold sF
      rw [va_up_ne _ _ hi]
theorem sF_x2 : upd (sF n d t day al nd bb oo K F kn) (32 + (3 * i) + 2) (nI v) = sF n d t day al nd bb oo K F (va_up kn i v) := by
  funext j
  by_cases hj : j = 32 + 3 * i + 2
  · subst hj
    rw [sF_k2, va_up_self, pk_us]
  · rw [pk_un hj]
    by_cases hi : (j - 32) / 3 = i
    · unfold sF
      repeat' split
      all_goals first | rfl | omega
    · unfold sF
      rw [va_up_ne _ _ hi]
end SF
/-- the first so many of one row, the rest of the other -/
def cpF (f g : Nat → Int32) (k : Nat) : Nat → Int32 := fun j => if j < k then f j else g j
theorem cpF_0 (f g : Nat → Int32) : cpF f g 0 = g := by funext j; simp [cpF]
theorem cpF_up (f g : Nat → Int32) (k : Nat) : upd (cpF f g k) k (f k) = cpF f g (k + 1) := by
  funext j
  by_cases h : j = k
  · subst h; simp [cpF, upd]
  · by_cases h2 : j < k
    · simp [cpF, upd, h, h2, Nat.lt_succ_of_lt h2]
    · simp [cpF, upd, h, h2, show ¬ j < k + 1 by omega]
theorem ho_relabq {D : va_G} {cl : List vw_C} {ws : va_W} {q a : Nat} {cA : ClassId} {n : Nat} {f g : Nat → Int32} {H : Heap} (hq : ws[q]? = some (a, .inl (cA, n, .inl f))) (h : ∀ j, j < n → f j = g j) (hP : va_P D cl ws H) : va_P D cl (ws.set q (a, .inl (cA, n, .inl g))) H := by
  refine ho_setP (e := .inl (cA, n, .inl f)) ?_ (List.getElem?_eq_some_iff.mp hq).1 (fun z => ?_)
  · rw [show ws.set q (a, .inl (cA, n, .inl f)) = ws from List.ext_getElem? (fun k => by
      by_cases hk : k = q
      · subst hk
        rw [List.getElem?_set_self (List.getElem?_eq_some_iff.mp hq).1, hq]
      · rw [List.getElem?_set_ne (Ne.symm hk)])]
    exact hP
  · refine Eq.trans z (congrArg some ?_)
    rw [vp_cell_i, vp_cell_i]
    exact ho_arrV (fun j hj => by rw [h j hj])
/-- a ≤ x ≤ b, of longs -/
def inB (x a b : Int64) : Bool := decide (a ≤ x) && decide (x ≤ b)
theorem lg_lt0 {x y : Int64} : lg_cmp x y < 0 ↔ x < y := by
  have h := lg_cmp_ge x y
  constructor
  · intro q
    exact Int64.not_le.mp (fun z => absurd (h.mpr z) (Int32.not_le.mpr q))
  · intro q
    exact Int32.not_le.mp (fun z => absurd (h.mp z) (Int64.not_le.mpr q))
theorem lg_gt0 {x y : Int64} : 0 < lg_cmp x y ↔ y < x := by
  unfold lg_cmp
  by_cases h : x > y
  · rw [if_pos h]
    exact ⟨fun _ => h, fun _ => by decide⟩
  · rw [if_neg h]
    refine ⟨fun q => ?_, fun q => absurd q h⟩
    split at q <;> exact absurd q (by decide)
theorem inB_1 {x a b : Int64} (h : lg_cmp x a < 0) : inB x a b = false := by
  have := lg_lt0.mp h
  simp [inB, Int64.not_le.mpr this]
theorem inB_2 {x a b : Int64} (h2 : 0 < lg_cmp x b) : inB x a b = false := by
  have := lg_gt0.mp h2
  simp [inB, Int64.not_le.mpr this]
theorem inB_3 {x a b : Int64} (h : ¬ lg_cmp x a < 0) (h2 : ¬ 0 < lg_cmp x b) : inB x a b = true := by
  have h3 := Int64.not_lt.mp (mt lg_lt0.mpr h)
  have h4 := Int64.not_lt.mp (mt lg_gt0.mpr h2)
  simp [inB, h3, h4]
theorem inB_k (x : Int32) {k : Nat} (hk : k + 1 < 2 ^ 31) : inB x.toInt64 (lN 0) (lN k) = okI x (k + 1) := by
  unfold inB okI
  have e1 : decide (lN 0 ≤ x.toInt64) = !decide (x < 0) := by
    rw [← decide_not, decide_eq_decide, Int64.le_iff_toInt_le, Int32.toInt_toInt64, lN_toInt (by omega), Int32.lt_iff_toInt_lt]
    have h0 : (0 : Int32).toInt = 0 := by decide
    omega
  have e2 : decide (x.toInt64 ≤ lN k) = decide (x < nI (k + 1)) := by
    rw [decide_eq_decide, Int64.le_iff_toInt_le, Int32.toInt_toInt64, lN_toInt (by omega), Int32.lt_iff_toInt_lt, nI_toInt hk]
    omega
  rw [e1, e2]
theorem inB_m (x : Int32) {n : Nat} (hn : n < 2 ^ 31) : inB x.toInt64 (lN 0) (nI n - nI 1).toInt64 = okI x n := by
  cases n with
  | zero =>
    unfold inB okI
    have e1 : (nI 0 - nI 1).toInt64.toInt = -1 := by decide
    by_cases h : x < 0
    · have h2 : ¬ lN 0 ≤ x.toInt64 := by
        rw [Int64.le_iff_toInt_le, Int32.toInt_toInt64, lN_toInt (by omega)]
        have h3 := Int32.lt_iff_toInt_lt.mp h
        have h0 : (0 : Int32).toInt = 0 := by decide
        omega
      simp [h, h2]
    · have h2 : ¬ x.toInt64 ≤ (nI 0 - nI 1).toInt64 := by
        rw [Int64.le_iff_toInt_le, Int32.toInt_toInt64, e1]
        have h3 := mt Int32.lt_iff_toInt_lt.mpr h
        have h0 : (0 : Int32).toInt = 0 := by decide
        omega
      have h4 : ¬ x < nI 0 := h
      simp [h2, h4]
  | succ k =>
    have e : (nI (k + 1) - nI 1).toInt64 = lN k := by
      rw [nI_sub (by omega), show k + 1 - 1 = k by omega, nI_l (by omega)]
    rw [e]
    exact inB_k x hn
theorem inB_kt {j k : Nat} (h : j < k + 1) (hk : k + 1 < 2 ^ 31) : inB (lN j) (lN 0) (lN k) = true := by
  have h1 := inB_k (nI j) hk
  rw [nI_l (by omega), okI_nI (by omega) hk, decide_eq_true h] at h1
  exact h1
theorem inB_mt {j n : Nat} (h : j < n) (hn : n < 2 ^ 31) : inB (lN j) (lN 0) (nI n - nI 1).toInt64 = true := by
  have h1 := inB_m (nI j) hn
  rw [nI_l (by omega), okI_nI (by omega) hn, decide_eq_true h] at h1
  exact h1
theorem orF_u {f : Nat → Bool} {n : Nat} (h : f n = false) : orF f n ||| 0 = orF f (n + 1) := by rw [Nat.or_zero]; exact orF_f h
theorem ruI_u1 {t : Nat} {nd : Nat → Nat} {s F : Nat} (h1 : t.testBit s = false) : ruI t nd s F ||| 0 = ruI t nd (s + 1) F := by rw [Nat.or_zero]; exact ruI_f1 h1
theorem ruI_u2 {t : Nat} {nd : Nat → Nat} {s F : Nat} (h2 : nd s &&& ruI t nd s F = 0) : ruI t nd s F ||| 0 = ruI t nd (s + 1) F := by rw [Nat.or_zero]; exact ruI_f2 h2
theorem tb_31 {v : Nat} (h : v < 1024) : v < 2 ^ 31 := Nat.lt_trans h (by decide)
theorem pcN_st {v m a : Nat} (hv : v < 1024) (h : m + pcN v = a) : m + (v &&& 1) + pcN (v / 2 ^ 1) = a := by
  have h2 := pcN_half hv
  rw [Nat.and_one_is_mod, Nat.pow_one]
  omega
theorem or_128 {a b : Nat} (ha : a < 128) (hb : b < 128) : a ||| b < 128 := or_lt 7 ha hb
theorem bit_128 {i : Nat} (h : i < 7) : 2 ^ i < 128 := Nat.pow_lt_pow_right (by decide) h
/-- who fell has no denier, no day -/
def faB (set : Nat) (z : Int32) : Nat → (Nat → Int32) → Nat → Int32
  | 0, bb => bb
  | i + 1, bb => bif set.testBit i then upd (faB set z i bb) i z else faB set z i bb
theorem faB_t {set i : Nat} {z : Int32} {bb : Nat → Int32} (h : set.testBit i = true) : upd (faB set z i bb) i z = faB set z (i + 1) bb := by simp [faB, h]
theorem faB_f {set i : Nat} {z : Int32} {bb : Nat → Int32} (h : set.testBit i = false) : faB set z i bb = faB set z (i + 1) bb := by simp [faB, h]
/-- what nobody of the first so many may deny -/
def lmF (F : Nat → Nat) : Nat → Nat → Nat
  | 0, v => v
  | i + 1, v => sdf (lmF F i v) (F i)
/-- what anyone alive silences, joined -/
def smA (n t al : Nat) (nd K F kn : Nat → Nat) : Nat → Nat → Nat
  | 0, a => a
  | j + 1, a => smA n t al nd K F kn j a ||| smN n t al nd K F kn false j
def evN (n al d : Nat) (nd K F kn : Nat → Nat) : Nat → Nat → Nat
  | 0, t => t
  | k + 1, t => smA n (evN n al d nd K F kn k t) al nd K F kn d (evN n al d nd K F kn k t)
theorem smA_ge (n t al : Nat) (nd K F kn : Nat → Nat) : ∀ j a, a ≤ smA n t al nd K F kn j a
  | 0, a => Nat.le_refl a
  | j + 1, a => Nat.le_trans (smA_ge n t al nd K F kn j a) Nat.left_le_or
theorem smA_lt {n t al : Nat} {nd K F kn : Nat → Nat} (hn : n ≤ 9) : ∀ j a, a < 512 → smA n t al nd K F kn j a < 512
  | 0, _, h => h
  | j + 1, a, h => or_512 (smA_lt hn j a h) (smN_lt hn)
theorem evN_lt {n al d : Nat} {nd K F kn : Nat → Nat} (hn : n ≤ 9) : ∀ k t, t < 512 → evN n al d nd K F kn k t < 512
  | 0, _, h => h
  | k + 1, t, h => smA_lt hn d _ (evN_lt hn k t h)
theorem evN_st {n al d : Nat} {nd K F kn : Nat → Nat} {k t : Nat} (h : evN n al d nd K F kn (k + 1) t = evN n al d nd K F kn k t) : ∀ m, evN n al d nd K F kn (k + m) t = evN n al d nd K F kn k t
  | 0 => rfl
  | m + 1 => by
    have ih := evN_st h m
    have h2 : evN n al d nd K F kn (k + m + 1) t = smA n (evN n al d nd K F kn (k + m) t) al nd K F kn d (evN n al d nd K F kn (k + m) t) := rfl
    rw [ih] at h2
    exact h2.trans h
theorem evN_512 {n al d : Nat} {nd K F kn : Nat → Nat} {k t : Nat} (h : evN n al d nd K F kn (k + 1) t = evN n al d nd K F kn k t) (hk : k ≤ 512) : evN n al d nd K F kn k t = evN n al d nd K F kn 512 t := by
  have h2 := evN_st h (512 - k)
  rw [show k + (512 - k) = 512 by omega] at h2
  exact h2.symm
theorem siB_g {k t kn nd : Nat} {odd : Bool} (h3 : k ≠ 3) (h7 : k ≠ 7) : siB k t kn nd odd = meB t kn nd := by
  unfold siB
  split
  · exact absurd rfl h3
  · exact absurd rfl h7
  · rfl
theorem ev_more {n al d : Nat} {nd K F kn : Nat → Nat} {k t : Nat} (hk : k ≤ 512) (hne : ¬ evN n al d nd K F kn (k + 1) t = evN n al d nd K F kn k t) (hg : k ≤ evN n al d nd K F kn k t) (hl : evN n al d nd K F kn (k + 1) t < 512) : k + 1 ≤ 512 ∧ (true = true → k + 1 ≤ evN n al d nd K F kn (k + 1) t) ∧ (true = false → evN n al d nd K F kn (k + 1) t = evN n al d nd K F kn 512 t) := by
  have h1 : evN n al d nd K F kn k t ≤ evN n al d nd K F kn (k + 1) t := smA_ge _ _ _ _ _ _ _ _ _
  exact ⟨by omega, fun _ => by omega, fun q => by cases q⟩
/-- the least steps of whom of the first so many silences with i, at T -/
def leS (n T al : Nat) (nd K F kn : Nat → Nat) (i : Nat) : Nat → Option Nat
  | 0 => none
  | j + 1 => bif (smN n T al nd K F kn false j).testBit i then (match leS n T al nd K F kn i j with
    | none => some (efN (K j) (F j) (pcN (nd i)))
    | some v => bif decide (efN (K j) (F j) (pcN (nd i)) < v) then some (efN (K j) (F j) (pcN (nd i))) else some v) else leS n T al nd K F kn i j
section LES
variable {n T al i j v : Nat} {nd K F kn : Nat → Nat}
theorem leS_f (h : (smN n T al nd K F kn false j).testBit i = false) : leS n T al nd K F kn i j = leS n T al nd K F kn i (j + 1) := by simp only [leS, h, cond_false]
theorem leS_0 (h : (smN n T al nd K F kn false j).testBit i = true) (h2 : leS n T al nd K F kn i j = none) : some (efN (K j) (F j) (pcN (nd i))) = leS n T al nd K F kn i (j + 1) := by simp only [leS, h, h2, cond_true]
theorem leS_l (h : (smN n T al nd K F kn false j).testBit i = true) (h2 : leS n T al nd K F kn i j = some v) (h3 : efN (K j) (F j) (pcN (nd i)) < v) : some (efN (K j) (F j) (pcN (nd i))) = leS n T al nd K F kn i (j + 1) := by simp only [leS, h, h2, cond_true, decide_eq_true h3]
theorem leS_g (h : (smN n T al nd K F kn false j).testBit i = true) (h2 : leS n T al nd K F kn i j = some v) (h3 : v ≤ efN (K j) (F j) (pcN (nd i))) : some v = leS n T al nd K F kn i (j + 1) := by simp only [leS, h, h2, cond_true, decide_eq_false (Nat.not_lt.mpr h3), cond_false]
theorem leS_lt (hF : ∀ j, F j < 10) : ∀ m v, leS n T al nd K F kn i m = some v → v < 1000
  | 0, v, h => by cases h
  | m + 1, v, h => by
    have ih := leS_lt hF m
    have he : efN (K m) (F m) (pcN (nd i)) < 1000 := efN_lt (hF m) (pcN_le _)
    unfold leS at h
    cases hb : (smN n T al nd K F kn false m).testBit i
    · rw [hb] at h
      exact ih v h
    · rw [hb] at h
      simp only [cond_true] at h
      cases hl : leS n T al nd K F kn i m with
      | none => simp only [hl] at h; cases h; exact he
      | some w =>
        simp only [hl] at h
        cases hd : decide (efN (K m) (F m) (pcN (nd i)) < w)
        · rw [hd] at h; cases h; exact ih _ hl
        · rw [hd] at h; cases h; exact he
end LES
/-- a way to a set, if it is shorter -/
def upO (fe : Nat → Option Nat) (to c : Nat) : Nat → Option Nat := match fe to with
  | none => va_up fe to (some c)
  | some w => bif decide (c < w) then va_up fe to (some c) else fe
section UPO
variable {fe : Nat → Option Nat} {to c w : Nat}
theorem upO_0 (h : fe to = none) : va_up fe to (some c) = upO fe to c := by simp only [upO, h]
theorem upO_l (h : fe to = some w) (h2 : c < w) : va_up fe to (some c) = upO fe to c := by simp only [upO, h, decide_eq_true h2, cond_true]
theorem upO_g (h : fe to = some w) (h2 : w ≤ c) : fe = upO fe to c := by simp only [upO, h, decide_eq_false (Nat.not_lt.mpr h2), cond_false]
theorem upO_ne {i : Nat} (h : i ≠ to) : upO fe to c i = fe i := by
  unfold upO
  cases hw : fe to with
  | none => exact va_up_ne _ _ h
  | some w =>
    dsimp only
    cases decide (c < w)
    · rfl
    · exact va_up_ne _ _ h
theorem upO_to : ∃ v, upO fe to c to = some v ∧ v ≤ c := by
  unfold upO
  cases hw : fe to with
  | none => exact ⟨c, va_up_self .., Nat.le_refl c⟩
  | some w =>
    dsimp only
    cases hd : decide (c < w)
    · exact ⟨w, hw, Nat.not_lt.mp (of_decide_eq_false hd)⟩
    · exact ⟨c, va_up_self .., Nat.le_refl c⟩
theorem upO_le {m : Nat} (h : ∀ i v, fe i = some v → v ≤ m * i) (hc : c ≤ m * to) : ∀ i v, upO fe to c i = some v → v ≤ m * i := by
  intro i v hv
  by_cases hi : i = to
  · subst hi
    obtain ⟨u, h1, h2⟩ := upO_to (fe := fe) (to := i) (c := c)
    rw [h1] at hv
    cases hv
    omega
  · rw [upO_ne hi] at hv
    exact h i v hv
end UPO
/-- the fewest, the easiest, once i may come at T -/
def gbF (fe : Nat → Option Nat) (T i : Nat) (le : Option Nat) : Nat → Option Nat := match le with
  | none => fe
  | some _ => upO fe (T ||| 2 ^ i) ((fe T).getD 0 + 1)
def gbE (ea : Nat → Option Nat) (T i : Nat) (le : Option Nat) : Nat → Option Nat := match le with
  | none => ea
  | some e => upO ea (T ||| 2 ^ i) ((ea T).getD 0 + e)
/-- all that can come at T -/
def grI (n d al T : Nat) (nd K F kn : Nat → Nat) (p : (Nat → Option Nat) × (Nat → Option Nat)) : Nat → (Nat → Option Nat) × (Nat → Option Nat)
  | 0 => p
  | i + 1 => bif T.testBit i then grI n d al T nd K F kn p i else (gbF (grI n d al T nd K F kn p i).1 T i (leS n T al nd K F kn i d), gbE (grI n d al T nd K F kn p i).2 T i (leS n T al nd K F kn i d))
/-- from a set on, set by set -/
def grK (n d al a : Nat) (nd K F kn : Nat → Nat) : Nat → (Nat → Option Nat) × (Nat → Option Nat)
  | 0 => (fun k => if k = a then some 0 else none, fun k => if k = a then some 0 else none)
  | m + 1 => match (grK n d al a nd K F kn m).1 (a + m) with
    | none => grK n d al a nd K F kn m
    | some _ => grI n d al (a + m) nd K F kn (grK n d al a nd K F kn m) n
/-- the least of those with i -/
def lwO (fe : Nat → Option Nat) (i : Nat) : Nat → Option Nat
  | 0 => none
  | k + 1 => bif k.testBit i then (match fe k with
    | none => lwO fe i k
    | some v => match lwO fe i k with
      | none => some v
      | some w => bif decide (v < w) then some v else some w) else lwO fe i k
section LWO
variable {fe : Nat → Option Nat} {i k v w : Nat}
theorem lwO_f (h : k.testBit i = false) : lwO fe i k = lwO fe i (k + 1) := by simp only [lwO, h, cond_false]
theorem lwO_n (h : k.testBit i = true) (h2 : fe k = none) : lwO fe i k = lwO fe i (k + 1) := by simp only [lwO, h, h2, cond_true]
theorem lwO_0 (h : k.testBit i = true) (h2 : fe k = some v) (h3 : lwO fe i k = none) : some v = lwO fe i (k + 1) := by simp only [lwO, h, h2, h3, cond_true]
theorem lwO_l (h : k.testBit i = true) (h2 : fe k = some v) (h3 : lwO fe i k = some w) (h4 : v < w) : some v = lwO fe i (k + 1) := by simp only [lwO, h, h2, h3, cond_true, decide_eq_true h4]
theorem lwO_g (h : k.testBit i = true) (h2 : fe k = some v) (h3 : lwO fe i k = some w) (h4 : w ≤ v) : some w = lwO fe i (k + 1) := by simp only [lwO, h, h2, h3, cond_true, decide_eq_false (Nat.not_lt.mpr h4), cond_false]
theorem lwO_lt {B : Nat} (h : ∀ k v, fe k = some v → k < 512 → v < B) : ∀ k, k ≤ 512 → ∀ v, lwO fe i k = some v → v < B
  | 0, _, v, hv => by cases hv
  | k + 1, hk, v, hv => by
    have ih := lwO_lt h k (by omega)
    unfold lwO at hv
    cases hb : k.testBit i
    · rw [hb] at hv
      exact ih v hv
    · rw [hb] at hv
      simp only [cond_true] at hv
      cases hf : fe k with
      | none => simp only [hf] at hv; exact ih v hv
      | some u =>
        simp only [hf] at hv
        have hu := h k u hf (by omega)
        cases hl : lwO fe i k with
        | none => simp only [hl] at hv; cases hv; exact hu
        | some w =>
          simp only [hl] at hv
          cases hd : decide (u < w)
          · rw [hd] at hv; cases hv; exact ih _ hl
          · rw [hd] at hv; cases hv; exact hu
end LWO
theorem or_nt {T i : Nat} (h : T.testBit i = false) : T ||| 2 ^ i ≠ T := by
  intro q
  have := or_ge T i h
  omega
section GRK
variable {n d al a T : Nat} {nd K F kn : Nat → Nat}
theorem grI_ok {p : (Nat → Option Nat) × (Nat → Option Nat)} (hF : ∀ j, F j < 10) (hf : ∀ k v, p.1 k = some v → v ≤ 1 * k) (he : ∀ k v, p.2 k = some v → v ≤ 1000 * k) (h1 : ∃ v, p.1 T = some v) (h2 : ∃ v, p.2 T = some v) : ∀ i, (∀ k v, (grI n d al T nd K F kn p i).1 k = some v → v ≤ 1 * k) ∧ (∀ k v, (grI n d al T nd K F kn p i).2 k = some v → v ≤ 1000 * k) ∧ (grI n d al T nd K F kn p i).1 T = p.1 T ∧ (grI n d al T nd K F kn p i).2 T = p.2 T
  | 0 => ⟨hf, he, rfl, rfl⟩
  | i + 1 => by
    obtain ⟨i1, i2, i3, i4⟩ := grI_ok hF hf he h1 h2 i
    unfold grI
    cases hb : T.testBit i
    · simp only [cond_false]
      cases hl : leS n T al nd K F kn i d with
      | none => exact ⟨i1, i2, i3, i4⟩
      | some e =>
        have hT := or_ge T i hb
        have hel : e < 1000 := leS_lt hF d e hl
        obtain ⟨v1, hv1⟩ := h1
        obtain ⟨v2, hv2⟩ := h2
        have g1 := hf _ _ hv1
        have g2 := he _ _ hv2
        refine ⟨upO_le i1 ?_, upO_le i2 ?_, ?_, ?_⟩
        · rw [i3, hv1]; show v1 + 1 ≤ _; omega
        · rw [i4, hv2]; show v2 + e ≤ _; omega
        · rw [← i3]; exact upO_ne (Ne.symm (or_nt hb))
        · rw [← i4]; exact upO_ne (Ne.symm (or_nt hb))
    · exact ⟨i1, i2, i3, i4⟩
theorem grI_iff {p : (Nat → Option Nat) × (Nat → Option Nat)} (h : ∀ k, (p.1 k).isSome = (p.2 k).isSome) : ∀ i k, ((grI n d al T nd K F kn p i).1 k).isSome = ((grI n d al T nd K F kn p i).2 k).isSome
  | 0, k => h k
  | i + 1, k => by
    have ih := grI_iff h i
    unfold grI
    cases T.testBit i
    · simp only [cond_false]
      cases hl : leS n T al nd K F kn i d with
      | none => exact ih k
      | some e =>
        show (upO _ _ _ k).isSome = (upO _ _ _ k).isSome
        by_cases hk : k = T ||| 2 ^ i
        · subst hk
          obtain ⟨v, h1, -⟩ := upO_to (fe := (grI n d al T nd K F kn p i).1) (to := T ||| 2 ^ i) (c := ((grI n d al T nd K F kn p i).1 T).getD 0 + 1)
          obtain ⟨w, h2, -⟩ := upO_to (fe := (grI n d al T nd K F kn p i).2) (to := T ||| 2 ^ i) (c := ((grI n d al T nd K F kn p i).2 T).getD 0 + e)
          rw [h1, h2]
          rfl
        · rw [upO_ne hk, upO_ne hk]
          exact ih k
    · exact ih k
theorem grK_ok (hF : ∀ j, F j < 10) : ∀ m, (∀ k v, (grK n d al a nd K F kn m).1 k = some v → v ≤ 1 * k) ∧ (∀ k v, (grK n d al a nd K F kn m).2 k = some v → v ≤ 1000 * k) ∧ ∀ k, ((grK n d al a nd K F kn m).1 k).isSome = ((grK n d al a nd K F kn m).2 k).isSome
  | 0 => by
    refine ⟨fun k v h => ?_, fun k v h => ?_, fun k => rfl⟩
    · have h : (if k = a then some 0 else none) = some v := h
      split at h <;> cases h
      omega
    · have h : (if k = a then some 0 else none) = some v := h
      split at h <;> cases h
      omega
  | m + 1 => by
    obtain ⟨i1, i2, i3⟩ := grK_ok hF m
    unfold grK
    cases hv : (grK n d al a nd K F kn m).1 (a + m) with
    | none => exact ⟨i1, i2, i3⟩
    | some v =>
      have h2 : ∃ w, (grK n d al a nd K F kn m).2 (a + m) = some w := by
        have := i3 (a + m)
        rw [hv] at this
        exact Option.isSome_iff_exists.mp this.symm
      obtain ⟨q1, q2, -, -⟩ := grI_ok (n := n) (d := d) (al := al) (nd := nd) (K := K) (kn := kn) hF i1 i2 ⟨v, hv⟩ h2 n
      exact ⟨q1, q2, grI_iff i3 n⟩
theorem grI_b {p : (Nat → Option Nat) × (Nat → Option Nat)} {i : Nat} (h : T.testBit i = true) : grI n d al T nd K F kn p i = grI n d al T nd K F kn p (i + 1) := by simp only [grI, h, cond_true]
theorem grI_c {p : (Nat → Option Nat) × (Nat → Option Nat)} {i : Nat} (h : T.testBit i = false) : (gbF (grI n d al T nd K F kn p i).1 T i (leS n T al nd K F kn i d), gbE (grI n d al T nd K F kn p i).2 T i (leS n T al nd K F kn i d)) = grI n d al T nd K F kn p (i + 1) := by simp only [grI, h, cond_false]
theorem grK_n {m : Nat} (h : (grK n d al a nd K F kn m).1 (a + m) = none) : grK n d al a nd K F kn m = grK n d al a nd K F kn (m + 1) := by
  rw [grK, h]
theorem grK_s {m v : Nat} (h : (grK n d al a nd K F kn m).1 (a + m) = some v) : grI n d al (a + m) nd K F kn (grK n d al a nd K F kn m) n = grK n d al a nd K F kn (m + 1) := by
  rw [grK, h]
end GRK
/-- a row filled with one way's start -/
def inF (a : Nat) (g : Nat → Option Nat) (k : Nat) : Nat → Option Nat := fun j => if j < k then (if j = a then some 0 else none) else g j
theorem inF_0 (a : Nat) (g : Nat → Option Nat) : inF a g 0 = g := by funext j; simp [inF]
theorem inF_up {a k : Nat} {g : Nat → Option Nat} {o : Option Nat} (h : o = if k = a then some 0 else none) : va_up (inF a g k) k o = inF a g (k + 1) := by
  funext j
  by_cases hj : j = k
  · subst hj
    rw [va_up_self, h]
    simp [inF]
  · rw [va_up_ne _ _ hj]
    by_cases h2 : j < k
    · simp [inF, h2, Nat.lt_succ_of_lt h2]
    · simp [inF, h2, show ¬ j < k + 1 by omega]
theorem oF_0 (a : Nat) : oF (inF a (fun _ => none) 0) = oF (fun _ => none) := by rw [inF_0]
theorem inF_t {a k : Nat} {g : Nat → Option Nat} (h : k = a) : va_up (inF a g k) k (some 0) = inF a g (k + 1) := inF_up (by rw [if_pos h])
theorem inF_f {a k : Nat} {g : Nat → Option Nat} (h : k ≠ a) : va_up (inF a g k) k none = inF a g (k + 1) := inF_up (by rw [if_neg h])
theorem inF_r {a k j : Nat} {g : Nat → Option Nat} (h : j < k) : inF a g k j = (if j = a then some 0 else none) := by simp [inF, h]
/-- what is wrong with a shelf -/
def wrR (ke so : Nat → Nat) (y : Nat) : Int32 := if ke y = 0 then -11 else if ke y = 2 then (if so y = 0 then 0 else -12) else -12
def wrS (ke : Nat → Nat) (y : Nat) : Int32 := if ke y = 0 then -11 else if ke y = 2 then 0 else -12
def wkR (ke : Nat → Nat) (y : Nat) : Int32 := if ke y = 0 then -11 else if ke y = 1 then 0 else -12
theorem wk_0 {ke : Nat → Nat} {y : Nat} (h : wkR ke y = 0) : ke y = 1 := by
  unfold wkR at h
  split at h
  · exact absurd h (by decide)
  · split at h
    · assumption
    · exact absurd h (by decide)
theorem wr_0 {ke so : Nat → Nat} {y : Nat} (h : wrR ke so y = 0) : ke y = 2 ∧ so y = 0 := by
  unfold wrR at h
  split at h
  · exact absurd h (by decide)
  · split at h
    · split at h
      · exact ⟨by assumption, by assumption⟩
      · exact absurd h (by decide)
    · exact absurd h (by decide)
theorem ws_0 {ke : Nat → Nat} {y : Nat} (h : wrS ke y = 0) : ke y = 2 := by
  unfold wrS at h
  split at h
  · exact absurd h (by decide)
  · split at h
    · assumption
    · exact absurd h (by decide)
theorem up_8 {K : Nat → Nat} {d v B : Nat} (h : ∀ j, K j < B) (hv : v < B) (j : Nat) : va_up K d v j < B := by
  by_cases hj : j = d
  · subst hj; rw [va_up_self]; exact hv
  · rw [va_up_ne _ _ hj]; exact h j
theorem mfa_lt {al t n y : Nat} {nd : Nat → Nat} {bb : Nat → Int32} (hn : n ≤ 9) : (bif al.testBit y then ruR t nd n 9 (orF (fun s9 => t.testBit s9 && decide (bb s9 = nI y)) n) else 0) < 512 := by
  cases al.testBit y
  · exact Nat.zero_lt_succ _
  · exact ruR_lt hn (orF_9 _ hn) 9
section LVS
variable {p : Program} {l : Launch} {e : Env} {R : Room} {s : State} {m : MethodId} {args : Array Value} {below : List Frame} {meth : Method} {c : Code} {H : Heap} {locs : List Loc} {cells slots : Nat} {Q : State → Prop} {pc : Nat} {ls : Array Slot} {rest : List Value}
theorem lv_isub_top {x y z : Int32} (h : x = y) (k : W p l e R s m args below meth c H locs cells slots Q (F0 m pc ls (.int z :: .int y :: rest))) : W p l e R s m args below meth c H locs cells slots Q (F0 m pc ls (.int z :: .int x :: rest)) := by rw [h]; exact k
end LVS
theorem inB_sd {k : Nat} (h1 : 1 ≤ k) (h2 : k ≤ 40) : inB (lN k) (lN 1) (lN 40) = true := by
  unfold inB
  rw [decide_eq_true ((lN_le (by omega) (by omega)).mpr h1), decide_eq_true ((lN_le (by omega) (by omega)).mpr h2)]
  rfl
theorem inB_sf {i : Int32} (h : i < nI 1 ∨ ¬ i ≤ nI 40) : inB i.toInt64 (lN 1) (lN 40) = false := by
  unfold inB
  have e1 : (nI 1).toInt = 1 := by decide
  have e2 : (nI 40).toInt = 40 := by decide
  rcases h with h | h
  · have h2 : ¬ lN 1 ≤ i.toInt64 := by
      rw [Int64.le_iff_toInt_le, Int32.toInt_toInt64, lN_toInt (by omega)]
      rw [Int32.lt_iff_toInt_lt] at h
      omega
    rw [decide_eq_false h2]
    rfl
  · have h2 : ¬ i.toInt64 ≤ lN 40 := by
      rw [Int64.le_iff_toInt_le, Int32.toInt_toInt64, lN_toInt (by omega)]
      rw [Int32.le_iff_toInt_le] at h
      omega
    rw [decide_eq_false h2, Bool.and_false]
/-- three told ints, one after the other -/
def w3C (al n d : Nat) (nd K F : Nat → Nat) (g : Nat → Int32) (p : Nat) (u : D3) : Bool := okI (g p) d && (okI (g (p + 1)) n && d3B al nd K F (nT (g p)) (nT (g (p + 1))) u)
def w3U (al n d : Nat) (nd K F : Nat → Nat) (g : Nat → Int32) (p : Nat) (u : D3) : D3 := bif w3C al n d nd K F g p u then d3D nd K (nT (g p)) (nT (g (p + 1))) u else u
def w3F (al n d : Nat) (nd K F : Nat → Nat) (g : Nat → Int32) (p : Nat) (u : D3) : Int32 := bif okI (g p) d then (bif okI (g (p + 1)) n then (bif d3B al nd K F (nT (g p)) (nT (g (p + 1))) u then (if g (p + 2) = bI (d3Z nd K (nT (g p)) (nT (g (p + 1))) u) then -4 else nI (p + 2)) else nI (p + 1)) else nI (p + 1)) else nI p
section W3
variable {al n d p z m : Nat} {nd K F : Nat → Nat} {g : Nat → Int32} {u : D3}
theorem w3_4 (hp : p < 100) (h : w3F al n d nd K F g p u = -4) : okI (g p) d = true ∧ okI (g (p + 1)) n = true ∧ d3B al nd K F (nT (g p)) (nT (g (p + 1))) u = true ∧ g (p + 2) = bI (d3Z nd K (nT (g p)) (nT (g (p + 1))) u) := by
  unfold w3F at h
  have hn4 : ∀ q, q < 200 → ¬ nI q = -4 := fun q hq => ng_ne (by omega) (by decide)
  cases h1 : okI (g p) d
  · rw [h1] at h; exact absurd h (hn4 _ (by omega))
  · rw [h1] at h
    cases h2 : okI (g (p + 1)) n
    · rw [h2] at h; exact absurd h (hn4 _ (by omega))
    · rw [h2] at h
      cases h3 : d3B al nd K F (nT (g p)) (nT (g (p + 1))) u
      · rw [h3] at h; exact absurd h (hn4 _ (by omega))
      · rw [h3] at h
        by_cases h4 : g (p + 2) = bI (d3Z nd K (nT (g p)) (nT (g (p + 1))) u)
        · exact ⟨rfl, rfl, rfl, h4⟩
        · simp only [cond_true, if_neg h4] at h
          exact absurd h (hn4 _ (by omega))
theorem w3_ge (hp : p < 100) (h : ¬ w3F al n d nd K F g p u = -4) : 0 ≤ w3F al n d nd K F g p u := by
  have hn0 : ∀ q, q < 200 → 0 ≤ nI q := fun q hq => nI_pos' (by omega)
  unfold w3F at h ⊢
  cases h1 : okI (g p) d
  · exact hn0 _ (by omega)
  · rw [h1] at h
    cases h2 : okI (g (p + 1)) n
    · exact hn0 _ (by omega)
    · rw [h2] at h
      cases h3 : d3B al nd K F (nT (g p)) (nT (g (p + 1))) u
      · exact hn0 _ (by omega)
      · rw [h3] at h
        by_cases h4 : g (p + 2) = bI (d3Z nd K (nT (g p)) (nT (g (p + 1))) u)
        · simp only [cond_true, if_pos h4] at h
          exact absurd trivial h
        · simp only [cond_true, if_neg h4]
          exact hn0 _ (by omega)
theorem w3_jd (h2 : ¬ z < p + 3) (hp : p < 100) (h : ¬ w3F al n d nd K F g p u = -4) : w3F al n d nd K F g p u = jdF al n d nd K F g z (m + 1) p u := by
  cases h1 : okI (g p) d
  · rw [jd_2 h2 h1, w3F, h1]; rfl
  · cases h3 : okI (g (p + 1)) n
    · rw [jd_3 h2 h1 h3, w3F, h1, h3]; rfl
    · cases h4 : d3B al nd K F (nT (g p)) (nT (g (p + 1))) u
      · rw [jd_4 h2 h1 h3 h4, w3F, h1, h3, h4]; rfl
      · by_cases h5 : g (p + 2) = bI (d3Z nd K (nT (g p)) (nT (g (p + 1))) u)
        · refine absurd ?_ h
          rw [w3F, h1, h3, h4]
          simp only [cond_true, if_pos h5]
        · rw [jd_5 h2 h1 h3 h4 h5, w3F, h1, h3, h4]
          simp only [cond_true, if_neg h5]
theorem w3_next {k day dayq tq : Nat} {knq : Nat → Nat} {r : Int32} (hn : n ≤ 9) (hz : 3 * k + 3 ≤ z) (hz2 : z ≤ 100) (hdq : dayq ≤ day + k) (htq : tq < 512) (gkq : ∀ j, knq j < 512) (hres : jdF al n d nd K F g z (35 - k) (3 * k) (dayq, tq, knq) = r) (hw3 : w3F al n d nd K F g (3 * k) (dayq, tq, knq) = -4) :
    3 * (k + 1) ≤ z ∧ (w3U al n d nd K F g (3 * k) (dayq, tq, knq)).1 ≤ day + (k + 1) ∧ (w3U al n d nd K F g (3 * k) (dayq, tq, knq)).2.1 < 512 ∧ (∀ j, (w3U al n d nd K F g (3 * k) (dayq, tq, knq)).2.2 j < 512) ∧ jdF al n d nd K F g z (35 - (k + 1)) (3 * (k + 1)) ((w3U al n d nd K F g (3 * k) (dayq, tq, knq)).1, (w3U al n d nd K F g (3 * k) (dayq, tq, knq)).2.1, (w3U al n d nd K F g (3 * k) (dayq, tq, knq)).2.2) = r := by
  obtain ⟨h1, h2, h3, h4⟩ := w3_4 (by omega) hw3
  have hu : w3U al n d nd K F g (3 * k) (dayq, tq, knq) = d3D nd K (nT (g (3 * k))) (nT (g (3 * k + 1))) (dayq, tq, knq) := by
    rw [w3U, w3C, h1, h2, h3]
    rfl
  rw [hu]
  have hs := (nT_ok (by omega) h2).2
  obtain ⟨q1, q2⟩ := d3D_ok (nd := nd) (K := K) (x := nT (g (3 * k))) (s := nT (g (3 * k + 1))) (u := (dayq, tq, knq)) (by omega) htq gkq
  refine ⟨by omega, ?_, q1, q2, ?_⟩
  · show dayq + 1 ≤ _
    omega
  · rw [← hres, show 35 - k = (35 - (k + 1)) + 1 by omega, jd_6 (by omega) h1 h2 h3 h4]
    rfl
end W3
theorem nT_nI {y : Nat} (h : y < 2 ^ 31) : nT (nI y) = y := nI_clamp h
theorem nT_1 {w : Int32} (h : w = nI 1) : nT w = 1 := by rw [h]; rfl
theorem nT_0 {w : Int32} (h : w = 0) : nT w = 0 := by rw [h]; rfl
theorem w01 {w : Int32} (h : okI w 2 = true) (h2 : ¬ w = nI 1) : w = 0 := by
  obtain ⟨j, hj, rfl⟩ := okI_ex (by decide) h
  rcases (show j = 0 ∨ j = 1 by omega) with rfl | rfl
  · rfl
  · exact absurd rfl h2
theorem w10 {w : Int32} (h : w = nI 1) (q : w = 0) : False := absurd (h.symm.trans q) (by decide)
theorem le100 {z : Int32} (h : 0 ≤ z) (h2 : z ≤ nI 100) : ∃ j, j ≤ 100 ∧ z = nI j := by
  obtain ⟨j, hj, rfl⟩ := nI_of (x := z) (Int32.not_lt.mpr h)
  exact ⟨j, (nI_leI hj (by decide)).mp h2, rfl⟩
def tossR (k f : Nat) : Int32 := if k = 3 then -15 else if f = 0 then -15 else if k = 1 then nI (100 + f) else if k = 6 then nI (200 + asN 6 f) else nI f
/-- a row's elements made 0 -/
def czE (el : Nat → Int32) (y m : Nat) : Nat → Int32 := fun p => if 100 * y ≤ p ∧ p < 100 * y + m then 0 else el p
theorem cz_0 (el : Nat → Int32) (y : Nat) : czE el y 0 = el := by
  funext p
  unfold czE
  rw [if_neg (by omega)]
theorem cz_up (el : Nat → Int32) (y m : Nat) : upd (czE el y m) (100 * y + m) (nI 0) = czE el y (m + 1) := by
  funext p
  by_cases h : p = 100 * y + m
  · subst h
    rw [pk_us, czE, if_pos (by omega)]
    rfl
  · rw [pk_un h]
    unfold czE
    by_cases h2 : 100 * y ≤ p ∧ p < 100 * y + m
    · rw [if_pos h2, if_pos (by omega)]
    · rw [if_neg h2, if_neg (by omega)]
/-- so many elements from a on, at b -/
def cpE (el : Nat → Int32) (a b n : Nat) : Nat → Int32 := fun p => if b ≤ p ∧ p < b + n then el (a + (p - b)) else el p
def cpD (el : Nat → Int32) (a b n k : Nat) : Nat → Int32 := fun p => if b + (n - k) ≤ p ∧ p < b + n then el (a + (p - b)) else el p
theorem cpE_0 (el : Nat → Int32) (a b : Nat) : cpE el a b 0 = el := by
  funext p
  unfold cpE
  rw [if_neg (by omega)]
theorem cpD_0 (el : Nat → Int32) (a b n : Nat) : cpD el a b n 0 = el := by
  funext p
  unfold cpD
  rw [if_neg (by omega)]
theorem cpD_n (el : Nat → Int32) (a b n : Nat) : cpD el a b n n = cpE el a b n := by
  funext p
  unfold cpD cpE
  rw [show b + (n - n) = b by omega]
theorem cpE_up {el : Nat → Int32} {a b k : Nat} (h : ¬ (b ≤ a + k ∧ a + k < b + k)) : upd (cpE el a b k) (b + k) (cpE el a b k (a + k)) = cpE el a b (k + 1) := by
  have e : cpE el a b k (a + k) = el (a + k) := by rw [cpE, if_neg h]
  rw [e]
  funext p
  by_cases hp : p = b + k
  · subst hp
    rw [pk_us, cpE, if_pos (by omega), show b + k - b = k by omega]
  · rw [pk_un hp]
    unfold cpE
    by_cases h2 : b ≤ p ∧ p < b + k
    · rw [if_pos h2, if_pos (by omega)]
    · rw [if_neg h2, if_neg (by omega)]
theorem cpD_up {el : Nat → Int32} {a b n k : Nat} (hk : k < n) (h : ¬ (b + (n - k) ≤ a + (n - 1 - k) ∧ a + (n - 1 - k) < b + n)) : upd (cpD el a b n k) (b + (n - 1 - k)) (cpD el a b n k (a + (n - 1 - k))) = cpD el a b n (k + 1) := by
  have e : cpD el a b n k (a + (n - 1 - k)) = el (a + (n - 1 - k)) := by rw [cpD, if_neg h]
  rw [e]
  funext p
  by_cases hp : p = b + (n - 1 - k)
  · subst hp
    rw [pk_us, cpD, if_pos (by omega), show b + (n - 1 - k) - b = n - 1 - k by omega]
  · rw [pk_un hp]
    unfold cpD
    by_cases h2 : b + (n - k) ≤ p ∧ p < b + n
    · rw [if_pos h2, if_pos (by omega)]
    · rw [if_neg h2, if_neg (by omega)]
/-- whether so many may be copied -/
def cpK (z1 z2 : Nat) (i j n : Int32) : Bool := !decide (n < 0) && (!decide (i < 0) && (!decide (j < 0) && (decide (n ≤ nI z1 - i) && decide (n ≤ nI z2 - j))))
/-- what is known without one sentence, for the first so many -/
def kcF (kn : Nat → Nat) (v j : Nat) : Nat → Nat := fun q => if q < j then sdf (kn q) v else kn q
theorem kcF_0 (kn : Nat → Nat) (v : Nat) : kcF kn v 0 = kn := by funext q; simp [kcF]
theorem kcF_up (kn : Nat → Nat) (v j : Nat) : va_up (kcF kn v j) j (sdf (kcF kn v j j) v) = kcF kn v (j + 1) := by
  funext q
  by_cases h : q = j
  · subst h
    rw [va_up_self]
    simp [kcF]
  · rw [va_up_ne _ _ h]
    by_cases h2 : q < j
    · simp [kcF, h2, Nat.lt_succ_of_lt h2]
    · simp [kcF, h2, show ¬ q < j + 1 by omega]
theorem kcF_lt {kn : Nat → Nat} {v j : Nat} (h : ∀ q, kn q < 512) (q : Nat) : kcF kn v j q < 512 := by
  unfold kcF
  split
  · exact sdf_lt (h q)
  · exact h q
/-- the best of the first so many -/
def hiV (E : Nat → Nat) : Nat → Option Nat
  | 0 => none
  | k + 1 => match hiV E k with
    | none => some (E k)
    | some m => bif decide (m < E k) then some (E k) else some m
def hiB (E : Nat → Nat) : Nat → Option Nat
  | 0 => none
  | k + 1 => match hiV E k with
    | none => some k
    | some m => bif decide (m < E k) then some k else hiB E k
section HI
variable {E : Nat → Nat} {k m : Nat}
theorem hiV_0 (h : hiV E k = none) : some (E k) = hiV E (k + 1) := by simp only [hiV, h]
theorem hiV_t (h : hiV E k = some m) (h2 : m < E k) : some (E k) = hiV E (k + 1) := by simp only [hiV, h, decide_eq_true h2, cond_true]
theorem hiV_f (h : hiV E k = some m) (h2 : E k ≤ m) : some m = hiV E (k + 1) := by simp only [hiV, h, decide_eq_false (Nat.not_lt.mpr h2), cond_false]
theorem hiB_0 (h : hiV E k = none) : some k = hiB E (k + 1) := by simp only [hiB, h]
theorem hiB_t (h : hiV E k = some m) (h2 : m < E k) : some k = hiB E (k + 1) := by simp only [hiB, h, decide_eq_true h2, cond_true]
theorem hiB_f (h : hiV E k = some m) (h2 : E k ≤ m) : hiB E k = hiB E (k + 1) := by simp only [hiB, h, decide_eq_false (Nat.not_lt.mpr h2), cond_false]
theorem hiV_le (hE : ∀ k, E k ≤ 10) : ∀ k m, hiV E k = some m → m ≤ 10
  | 0, m, h => by cases h
  | k + 1, m, h => by
    have ih := hiV_le hE k
    unfold hiV at h
    cases hv : hiV E k with
    | none => simp only [hv] at h; cases h; exact hE k
    | some w =>
      simp only [hv] at h
      cases hd : decide (w < E k)
      · rw [hd] at h; cases h; exact ih _ hv
      · rw [hd] at h; cases h; exact hE k
end HI
/-- the first of so many, from a place on -/
def ffN (P : Nat → Bool) : Nat → Nat → Option Nat
  | 0, _ => none
  | m + 1, k => bif P k then some k else ffN P m (k + 1)
theorem ffN_t {P : Nat → Bool} {m k : Nat} (h : P k = true) : ffN P (m + 1) k = some k := by simp only [ffN, h, cond_true]
theorem ffN_f {P : Nat → Bool} {m k : Nat} (h : P k = false) : ffN P (m + 1) k = ffN P m (k + 1) := by simp only [ffN, h, cond_false]
/-- at once: one denier more, who silences sil and costs a -/
def pmI (sil a k : Nat) (L : Nat → Option Nat) : Nat → Nat → Option Nat
  | 0 => L
  | i + 1 => bif (k &&& sil).testBit i then (match pmI sil a k L i (sdf k (2 ^ i)) with
    | none => pmI sil a k L i
    | some u => match pmI sil a k L i k with
      | none => va_up (pmI sil a k L i) k (some (u + a))
      | some w => bif decide (u + a < w) then va_up (pmI sil a k L i) k (some (u + a)) else pmI sil a k L i) else pmI sil a k L i
def pmK (sil a n : Nat) (L : Nat → Option Nat) : Nat → Nat → Option Nat
  | 0 => L
  | j + 1 => pmI sil a (2 ^ n - 1 - j) (pmK sil a n L j) n
def pmD (n t al : Nat) (nd K F kn : Nat → Nat) (odd : Bool) : Nat → Nat → Option Nat
  | 0 => fun k => if k = 0 then some 0 else none
  | j + 1 => pmK (smN n t al nd K F kn odd j) (asN (K j) (F j)) n (pmD n t al nd K F kn odd j) (2 ^ n - 1)
section PM
variable {sil a k i n u w : Nat} {L : Nat → Option Nat}
theorem pmI_f (h : (k &&& sil).testBit i = false) : pmI sil a k L i = pmI sil a k L (i + 1) := by simp only [pmI, h, cond_false]
theorem pmI_n (h : (k &&& sil).testBit i = true) (h2 : pmI sil a k L i (sdf k (2 ^ i)) = none) : pmI sil a k L i = pmI sil a k L (i + 1) := by simp only [pmI, h, h2, cond_true]
theorem pmI_0 (h : (k &&& sil).testBit i = true) (h2 : pmI sil a k L i (sdf k (2 ^ i)) = some u) (h3 : pmI sil a k L i k = none) : va_up (pmI sil a k L i) k (some (u + a)) = pmI sil a k L (i + 1) := by simp only [pmI, h, h2, h3, cond_true]
theorem pmI_l (h : (k &&& sil).testBit i = true) (h2 : pmI sil a k L i (sdf k (2 ^ i)) = some u) (h3 : pmI sil a k L i k = some w) (h4 : u + a < w) : va_up (pmI sil a k L i) k (some (u + a)) = pmI sil a k L (i + 1) := by simp only [pmI, h, h2, h3, cond_true, decide_eq_true h4]
theorem pmI_g (h : (k &&& sil).testBit i = true) (h2 : pmI sil a k L i (sdf k (2 ^ i)) = some u) (h3 : pmI sil a k L i k = some w) (h4 : w ≤ u + a) : pmI sil a k L i = pmI sil a k L (i + 1) := by simp only [pmI, h, h2, h3, cond_true, decide_eq_false (Nat.not_lt.mpr h4), cond_false]
theorem pmI_lt {B : Nat} (ha : a ≤ 30) (hL : ∀ k v, L k = some v → v < B) : ∀ i q v, pmI sil a k L i q = some v → v < B + 30 * i
  | 0, q, v, h => by have := hL q v h; omega
  | i + 1, q, v, h => by
    have ih := pmI_lt ha hL i
    cases hb : (k &&& sil).testBit i
    · rw [← pmI_f hb] at h; have := ih q v h; omega
    · cases hu : pmI sil a k L i (sdf k (2 ^ i)) with
      | none => rw [← pmI_n hb hu] at h; have := ih q v h; omega
      | some u =>
        have h1 := ih _ _ hu
        cases hw : pmI sil a k L i k with
        | none =>
          rw [← pmI_0 hb hu hw] at h
          by_cases hq : q = k
          · subst hq; rw [va_up_self] at h; cases h; omega
          · rw [va_up_ne _ _ hq] at h; have := ih q v h; omega
        | some w =>
          rcases Nat.lt_or_ge (u + a) w with h5 | h5
          · rw [← pmI_l hb hu hw h5] at h
            by_cases hq : q = k
            · subst hq; rw [va_up_self] at h; cases h; omega
            · rw [va_up_ne _ _ hq] at h; have := ih q v h; omega
          · rw [← pmI_g hb hu hw h5] at h; have := ih q v h; omega
theorem pmK_lt {B : Nat} (ha : a ≤ 30) (hn : n ≤ 9) (hL : ∀ k v, L k = some v → v < B) : ∀ j q v, pmK sil a n L j q = some v → v < B + 270 * j
  | 0, q, v, h => by have := hL q v h; omega
  | j + 1, q, v, h => by
    have h2 := pmI_lt ha (pmK_lt ha hn hL j) n q v h
    have h3 : 30 * n ≤ 270 := by omega
    omega
end PM
theorem pmD_lt {n t al : Nat} {nd K F kn : Nat → Nat} {odd : Bool} (hn : n ≤ 9) (hF : ∀ j, F j < 10) : ∀ j q v, pmD n t al nd K F kn odd j q = some v → v < 1 + 138240 * j
  | 0, q, v, h => by
    have h : (if q = 0 then some 0 else none) = some v := h
    split at h <;> cases h
    omega
  | j + 1, q, v, h => by
    have hp2 : 2 ^ n ≤ 2 ^ 9 := Nat.pow_le_pow_right (by decide) hn
    have h2 := pmK_lt (asN_le (hF j)) hn (pmD_lt hn hF j) (2 ^ n - 1) q v h
    omega
theorem pmF_in {k : Nat} {g : Nat → Option Nat} : True := trivial
/-- the first with which a shortest way begins -/
def fiR (o : Option Nat) (P : Nat → Bool) (n : Nat) : Int32 := match o with
  | none => -4
  | some v => if v = 0 then -4 else oI (ffN P n 0)
section FI
variable {o : Option Nat} {P : Nat → Bool} {n f v : Nat}
theorem fiR_n (h : o = none) : fiR o P n = -4 := by rw [h]; rfl
theorem fiR_0 (h : o = some v) (h2 : v = 0) : fiR o P n = -4 := by rw [h]; exact if_pos h2
theorem fiR_e (h : ffN P n 0 = none) : fiR o P n = -4 := by
  unfold fiR
  split
  · rfl
  · rw [h]
    split <;> rfl
theorem fiR_t (h : o = some v) (h2 : v ≠ 0) (h3 : ffN P n 0 = some f) : fiR o P n = nI f := by
  rw [h]
  show (if v = 0 then -4 else oI (ffN P n 0)) = nI f
  rw [if_neg h2, h3]
  rfl
theorem ffN_n (hf : f < n) (h : P f = false) : ffN P (n - (f + 1)) (f + 1) = ffN P (n - f) f := by
  rw [show n - f = (n - (f + 1)) + 1 by omega]
  exact (ffN_f h).symm
theorem ffN_at (hf : f < n) (h : P f = true) : ffN P (n - f) f = some f := by
  rw [show n - f = (n - (f + 1)) + 1 by omega]
  exact ffN_t h
end FI
theorem pf_no {a : Bool} {p q : Prop} [Decidable p] [Decidable q] (h : a = true ∨ ¬ p ∨ ¬ q) : (!a && (decide p && decide q)) = false := by
  rcases h with h | h | h <;> simp [h]
theorem pf_yes {a : Bool} {p q : Prop} [Decidable p] [Decidable q] (h1 : a = false) (h2 : p) (h3 : q) : (!a && (decide p && decide q)) = true := by simp [h1, h2, h3]
theorem or_2n {n t f : Nat} (h : t < 2 ^ n) (hf : f < n) : t ||| 2 ^ f < 2 ^ n := or_lt n h (Nat.pow_lt_pow_right (by decide) hf)
