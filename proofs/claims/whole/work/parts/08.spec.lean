/-! what Foresight writes -/
def flU (g : Nat → Int32) (v : Int32) (i : Nat) : Nat → Int32 := fun j => if j < i then v else g j
theorem flU_0 (g : Nat → Int32) (v : Int32) : g = flU g v 0 := by funext j; simp [flU]
theorem flU_up (g : Nat → Int32) (v : Int32) (i : Nat) : upd (flU g v i) i v = flU g v (i + 1) := by
  funext j
  unfold upd flU
  by_cases h : j = i
  · subst h; simp
  · by_cases h2 : j < i
    · simp [h, h2, Nat.lt_succ_of_lt h2]
    · simp [h, h2, show ¬ j < i + 1 by omega]
theorem ho_relab {D : va_G} {cl : List vw_C} {a : Nat} {cA : ClassId} {n : Nat} {f g : Nat → Int32} {H : Heap} (h : ∀ j, j < n → f j = g j) (hP : va_P D cl [(a, .inl (cA, n, .inl f))] H) : va_P D cl [(a, .inl (cA, n, .inl g))] H :=
  ho_setP (ws := [(a, .inl (cA, n, .inl f))]) (q := 0) hP (Nat.zero_lt_one) (fun q => by
    refine Eq.trans q (congrArg some ?_)
    rw [vp_cell_i, vp_cell_i]
    exact ho_arrV (fun j hj => by rw [h j hj]))
theorem ho_relabD {A : Nat → Prop} {a : Nat} {e e2 : va_E} (h : va_D A [(a, e)]) : va_D A [(a, e2)] := by
  have key : ∀ (k : Nat) (q : Nat × va_E), [(a, e2)][k]? = some q → k = 0 ∧ q.1 = a := by
    intro k q hk
    have h1 : k < 1 := (List.getElem?_eq_some_iff.mp hk).1
    have h0 : k = 0 := by omega
    subst h0
    cases hk
    exact ⟨rfl, rfl⟩
  refine ⟨fun i j p q hi hj _ => (key i p hi).1.trans (key j q hj).1.symm, fun k q hk => ?_⟩
  rw [(key k q hk).2]
  exact h.2 0 (a, e) rfl
/-- the plan, from the largest set down -/
def plD (lk : Nat → Option Nat) (ef : Nat → Nat) (sa goal : Nat) (b : Bool) (le : Nat → Option Nat) : Nat → Nat → Option Nat
  | 0 => le
  | j + 1 => bif sdf sa (511 - j) == 0 then va_up (plD lk ef sa goal b le j) (511 - j) (bif sdf goal (511 - j) == 0 then some 0 else lfF lk ef (plD lk ef sa goal b le j) b (511 - j) 9) else plD lk ef sa goal b le j
theorem lfF_ltB {lk : Nat → Option Nat} {ef : Nat → Nat} {le : Nat → Option Nat} {b : Bool} {t B : Nat} (hef : ∀ i, ef i < 1000) : ∀ k, k ≤ 9 → (∀ s e v, s < 9 → chE lk ef t s = some e → le (t ||| 2 ^ s) = some v → v < B) → ∀ v, lfF lk ef le b t k = some v → v < B + 1000
  | 0, _, _, v, hv => by cases hv
  | k + 1, hk, hle, v, hv => by
    have ih := lfF_ltB (b := b) (lk := lk) (t := t) hef k (by omega) hle
    unfold lfF at hv
    split at hv
    · exact ih v hv
    · rename_i e he
      have h1 := chE_lt hef he
      split at hv
      · exact ih v hv
      · rename_i r hr
        have h2 := hle _ _ _ (by omega) he hr
        have h3 : (bif b then e else 1) < 1001 ∧ (bif b then e else 1) ≤ 999 + 1 := by cases b <;> simp <;> omega
        have h5 : (bif b then e else 1) ≤ 1000 := h3.2
        have h6 : (bif b then e else 1) < 1000 := by cases b <;> simp <;> omega
        split at hv
        · cases hv; omega
        · rename_i w hw
          have h4 := ih _ hw
          cases hd : decide (r + (bif b then e else 1) < w)
          · rw [hd] at hv; cases hv; exact h4
          · rw [hd] at hv; cases hv; omega
theorem or_ge (t s : Nat) (h : t.testBit s = false) : t + 1 ≤ t ||| 2 ^ s := by
  have h1 : t ≤ t ||| 2 ^ s := Nat.left_le_or
  have h2 : t ≠ t ||| 2 ^ s := by
    intro q
    have := congrArg (fun z => z.testBit s) q
    simp [h] at this
  omega
theorem sdf_or {a t m : Nat} (h : sdf a t = 0) : sdf a (t ||| m) = 0 := by
  apply Nat.eq_of_testBit_eq
  intro i
  have h1 := congrArg (fun z => z.testBit i) h
  simp only [sdf_bit, Nat.zero_testBit, Nat.testBit_or] at h1 ⊢
  cases ha : a.testBit i
  · rfl
  · rw [ha] at h1
    cases ht : t.testBit i
    · rw [ht] at h1; cases h1
    · rfl
theorem plD_lt {lk : Nat → Option Nat} {ef : Nat → Nat} {sa goal : Nat} {b : Bool} {le : Nat → Option Nat} (hef : ∀ i, ef i < 1000) : ∀ j, j ≤ 512 → ∀ i v, 512 - j ≤ i → i < 512 → sdf sa i = 0 → plD lk ef sa goal b le j i = some v → v ≤ 1000 * j
  | 0, _, i, v, h1, h2, _, _ => by omega
  | j + 1, hj, i, v, h1, h2, h3, hv => by
    have ih := plD_lt (lk := lk) (sa := sa) (goal := goal) (b := b) (le := le) hef j (by omega)
    unfold plD at hv
    by_cases hi : i = 511 - j
    · subst hi
      rw [h3] at hv
      simp only [beq_self_eq_true, cond_true, va_up_self] at hv
      cases hg : (sdf goal (511 - j) == 0)
      · rw [hg] at hv
        have h4 := lfF_ltB (B := 1000 * j + 1) hef 9 (Nat.le_refl 9) (fun s e w hs he hw => Nat.lt_succ_of_le (ih _ w (by have h9 := or_ge (511 - j) s (chE_t he); omega) (or_512 (by omega) (bit_512 hs)) (sdf_or h3) hw)) v hv
        omega
      · rw [hg] at hv; cases hv; omega
    · have h5 : plD lk ef sa goal b le j i = some v := by
        cases hc : (sdf sa (511 - j) == 0)
        · rw [hc] at hv; exact hv
        · rw [hc] at hv; simpa [va_up_ne _ _ hi] using hv
      have h6 := ih i v (by omega) h2 h3 h5
      omega
/-- one denier of kind k, figure f, who knows kn, at seat q: what he could make true -/
def cdB (k f kn nd s : Nat) : Bool := maB k f nd kn nd s && siB k nd kn nd false
def cnL (k f kn q : Nat) (nd : Nat → Nat) : Nat → (Nat → Option Nat) → Nat → Option Nat
  | 0, L => L
  | s + 1, L => bif cdB k f kn (nd s) s then va_up (cnL k f kn q nd s L) (q * 9 + s) (some (sdf (nd s) kn)) else cnL k f kn q nd s L
def cnE (k f kn q : Nat) (nd : Nat → Nat) : Nat → (Nat → Nat) → Nat → Nat
  | 0, L => L
  | s + 1, L => bif cdB k f kn (nd s) s then va_up (cnE k f kn q nd s L) (q * 9 + s) (efN k f (pcN (nd s))) else cnE k f kn q nd s L
def lkI (n al : Nat) (nd kn : Nat → Nat) (mb : Nat → Option Nat) (kd fg : Nat → Nat) : Nat → Nat → Option Nat
  | 0 => fun _ => none
  | i + 1 => bif al.testBit i then (match mb i with
    | none => lkI n al nd kn mb kd fg i
    | some a => cnL (kd a) (fg a) (kn i) i nd n (lkI n al nd kn mb kd fg i)) else lkI n al nd kn mb kd fg i
def efI (n al : Nat) (nd kn : Nat → Nat) (mb : Nat → Option Nat) (kd fg : Nat → Nat) (ef : Nat → Nat) : Nat → Nat → Nat
  | 0 => ef
  | i + 1 => bif al.testBit i then (match mb i with
    | none => efI n al nd kn mb kd fg ef i
    | some a => cnE (kd a) (fg a) (kn i) i nd n (efI n al nd kn mb kd fg ef i)) else efI n al nd kn mb kd fg ef i
section CN
variable {k f kn q s n al i a : Nat} {nd knf : Nat → Nat} {L : Nat → Option Nat} {E ef : Nat → Nat} {mb : Nat → Option Nat} {kd fg : Nat → Nat}
theorem cnL_t (h1 : maB k f (nd s) kn (nd s) s = true) (h2 : siB k (nd s) kn (nd s) false = true) : va_up (cnL k f kn q nd s L) (q * 9 + s) (some (sdf (nd s) kn)) = cnL k f kn q nd (s + 1) L := by simp [cnL, cdB, h1, h2]
theorem cnL_f1 (h1 : maB k f (nd s) kn (nd s) s = false) : cnL k f kn q nd s L = cnL k f kn q nd (s + 1) L := by simp [cnL, cdB, h1]
theorem cnL_f2 (h2 : siB k (nd s) kn (nd s) false = false) : cnL k f kn q nd s L = cnL k f kn q nd (s + 1) L := by simp [cnL, cdB, h2]
theorem cnE_t (h1 : maB k f (nd s) kn (nd s) s = true) (h2 : siB k (nd s) kn (nd s) false = true) : va_up (cnE k f kn q nd s E) (q * 9 + s) (efN k f (pcN (nd s))) = cnE k f kn q nd (s + 1) E := by simp [cnE, cdB, h1, h2]
theorem cnE_f1 (h1 : maB k f (nd s) kn (nd s) s = false) : cnE k f kn q nd s E = cnE k f kn q nd (s + 1) E := by simp [cnE, cdB, h1]
theorem cnE_f2 (h2 : siB k (nd s) kn (nd s) false = false) : cnE k f kn q nd s E = cnE k f kn q nd (s + 1) E := by simp [cnE, cdB, h2]
theorem lkI_f (h : al.testBit i = false) : lkI n al nd knf mb kd fg i = lkI n al nd knf mb kd fg (i + 1) := by simp [lkI, h]
theorem lkI_n (h : al.testBit i = true) (h2 : mb i = none) : lkI n al nd knf mb kd fg i = lkI n al nd knf mb kd fg (i + 1) := by simp [lkI, h, h2]
theorem lkI_s (h : al.testBit i = true) (h2 : mb i = some a) : cnL (kd a) (fg a) (knf i) i nd n (lkI n al nd knf mb kd fg i) = lkI n al nd knf mb kd fg (i + 1) := by simp [lkI, h, h2]
theorem efI_f (h : al.testBit i = false) : efI n al nd knf mb kd fg ef i = efI n al nd knf mb kd fg ef (i + 1) := by simp [efI, h]
theorem efI_n (h : al.testBit i = true) (h2 : mb i = none) : efI n al nd knf mb kd fg ef i = efI n al nd knf mb kd fg ef (i + 1) := by simp [efI, h, h2]
theorem efI_s (h : al.testBit i = true) (h2 : mb i = some a) : cnE (kd a) (fg a) (knf i) i nd n (efI n al nd knf mb kd fg ef i) = efI n al nd knf mb kd fg ef (i + 1) := by simp [efI, h, h2]
end CN
/-- one denier more joins, from the set st on -/
def ljI (sil ak st : Nat) : Nat → (Nat → Option Nat) → Nat → Option Nat
  | 0, L => L
  | s + 1, L => match ljI sil ak st s L st with
    | none => ljI sil ak st s L
    | some v => bif sil.testBit s && (st ||| 2 ^ s != st) then (match ljI sil ak st s L (st ||| 2 ^ s) with
      | none => va_up (ljI sil ak st s L) (st ||| 2 ^ s) (some (v + ak))
      | some w => bif decide (v + ak < w) then va_up (ljI sil ak st s L) (st ||| 2 ^ s) (some (v + ak)) else ljI sil ak st s L) else ljI sil ak st s L
def ljD (sil ak : Nat) (le : Nat → Option Nat) : Nat → Nat → Option Nat
  | 0 => le
  | j + 1 => ljI sil ak (511 - j) 9 (ljD sil ak le j)
/-- the most at once, and the cheapest -/
def tgM (le : Nat → Option Nat) : Nat → Nat × Nat
  | 0 => (0, 0)
  | k + 1 => match le k with
    | none => tgM le k
    | some v => bif decide ((tgM le k).1 < pcN k) || (decide (pcN k = (tgM le k).1) && decide (v < (tgM le k).2)) then (pcN k, v) else tgM le k
section LJ
variable {sil ak st s v w j : Nat} {L le : Nat → Option Nat}
theorem ljI_n (h : ljI sil ak st s L st = none) : ljI sil ak st s L = ljI sil ak st (s + 1) L := by simp only [ljI, h]
theorem ljI_f (h : ljI sil ak st s L st = some v) (h2 : sil.testBit s = false) : ljI sil ak st s L = ljI sil ak st (s + 1) L := by simp only [ljI, h, h2, Bool.false_and, cond_false]
theorem ljI_e (h : ljI sil ak st s L st = some v) (h2 : st ||| 2 ^ s = st) : ljI sil ak st s L = ljI sil ak st (s + 1) L := by simp [ljI, h, h2]
theorem lj_c (h2 : sil.testBit s = true) (h3 : st ||| 2 ^ s ≠ st) : (sil.testBit s && (st ||| 2 ^ s != st)) = true := by simp [h2, bne_iff_ne, h3]
theorem ljI_0 (h : ljI sil ak st s L st = some v) (h2 : sil.testBit s = true) (h3 : st ||| 2 ^ s ≠ st) (h4 : ljI sil ak st s L (st ||| 2 ^ s) = none) : va_up (ljI sil ak st s L) (st ||| 2 ^ s) (some (v + ak)) = ljI sil ak st (s + 1) L := by simp only [ljI, h, lj_c h2 h3, h4, cond_true]
theorem ljI_l (h : ljI sil ak st s L st = some v) (h2 : sil.testBit s = true) (h3 : st ||| 2 ^ s ≠ st) (h4 : ljI sil ak st s L (st ||| 2 ^ s) = some w) (h5 : v + ak < w) : va_up (ljI sil ak st s L) (st ||| 2 ^ s) (some (v + ak)) = ljI sil ak st (s + 1) L := by simp only [ljI, h, lj_c h2 h3, h4, cond_true, decide_eq_true h5]
theorem ljI_g (h : ljI sil ak st s L st = some v) (h2 : sil.testBit s = true) (h3 : st ||| 2 ^ s ≠ st) (h4 : ljI sil ak st s L (st ||| 2 ^ s) = some w) (h5 : w ≤ v + ak) : ljI sil ak st s L = ljI sil ak st (s + 1) L := by simp only [ljI, h, lj_c h2 h3, h4, cond_true, decide_eq_false (Nat.not_lt.mpr h5), cond_false]
theorem ljI_none (h : ljI sil ak st s L st = none) : ∀ k, ljI sil ak st (s + k) L = ljI sil ak st s L
  | 0 => rfl
  | k + 1 => by
    have ih := ljI_none h k
    have h2 : ljI sil ak st (s + k) L st = none := by rw [ih]; exact h
    rw [← ih]
    exact (ljI_n h2).symm
theorem ljI_end (h : ljI sil ak st s L st = none) (hs : s ≤ 9) : ljI sil ak st s L = ljI sil ak st 9 L := by
  have h2 := ljI_none h (9 - s)
  rw [show s + (9 - s) = 9 by omega] at h2
  exact h2.symm
theorem ljI_lt {B : Nat} (hk : ak ≤ 30) (hL : ∀ i v, L i = some v → v < B) (z : Nat) : ∀ i v, ljI sil ak st z L i = some v → v < B + 30 * z := by
  induction z with
  | zero => intro i v h; have := hL i v h; omega
  | succ z ih =>
    intro i v h
    cases hu : ljI sil ak st z L st with
    | none => rw [← ljI_n hu] at h; have := ih i v h; omega
    | some u =>
      have h1 := ih _ _ hu
      cases hb : sil.testBit z
      · rw [← ljI_f hu hb] at h; have := ih i v h; omega
      · by_cases he : st ||| 2 ^ z = st
        · rw [← ljI_e hu he] at h; have := ih i v h; omega
        · cases hw : ljI sil ak st z L (st ||| 2 ^ z) with
          | none =>
            rw [← ljI_0 hu hb he hw] at h
            by_cases hi : i = st ||| 2 ^ z
            · subst hi; rw [va_up_self] at h; cases h; omega
            · rw [va_up_ne _ _ hi] at h; have := ih i v h; omega
          | some w =>
            rcases Nat.lt_or_ge (u + ak) w with h5 | h5
            · rw [← ljI_l hu hb he hw h5] at h
              by_cases hi : i = st ||| 2 ^ z
              · subst hi; rw [va_up_self] at h; cases h; omega
              · rw [va_up_ne _ _ hi] at h; have := ih i v h; omega
            · rw [← ljI_g hu hb he hw h5] at h; have := ih i v h; omega
theorem ljD_lt {B : Nat} (hk : ak ≤ 30) (hL : ∀ i v, le i = some v → v < B) (z : Nat) : ∀ i v, ljD sil ak le z i = some v → v < B + 270 * z := by
  induction z with
  | zero => intro i v h; have := hL i v h; omega
  | succ z ih =>
    intro i v h
    have h3 : ljI sil ak (511 - z) 9 (ljD sil ak le z) i = some v := h
    have h2 : v < B + 270 * z + 30 * 9 := ljI_lt hk ih 9 i v h3
    have h4 : B + 270 * z + 30 * 9 = B + 270 * (z + 1) := by
      clear h h2 h3 ih
      omega
    rw [← h4]
    exact h2
end LJ
theorem tgM_n {le : Nat → Option Nat} {k : Nat} (h : le k = none) : tgM le k = tgM le (k + 1) := by simp only [tgM, h]
theorem tgM_t {le : Nat → Option Nat} {k v : Nat} (h : le k = some v) (h2 : (tgM le k).1 < pcN k ∨ (pcN k = (tgM le k).1 ∧ v < (tgM le k).2)) : (pcN k, v) = tgM le (k + 1) := by
  have h3 : (decide ((tgM le k).1 < pcN k) || (decide (pcN k = (tgM le k).1) && decide (v < (tgM le k).2))) = true := by simpa using h2
  simp only [tgM, h, h3, cond_true]
theorem tgM_f {le : Nat → Option Nat} {k v : Nat} (h : le k = some v) (h2 : ¬ ((tgM le k).1 < pcN k ∨ (pcN k = (tgM le k).1 ∧ v < (tgM le k).2))) : tgM le k = tgM le (k + 1) := by
  have h3 : (decide ((tgM le k).1 < pcN k) || (decide (pcN k = (tgM le k).1) && decide (v < (tgM le k).2))) = false := by
    rw [← Bool.not_eq_true]
    simpa using h2
  simp only [tgM, h, h3, cond_false]
theorem tgM_lt {le : Nat → Option Nat} {B : Nat} (hB : 0 < B) (h : ∀ i v, le i = some v → v < B) : ∀ k, (tgM le k).1 ≤ 10 ∧ (tgM le k).2 < B
  | 0 => ⟨Nat.zero_le _, hB⟩
  | k + 1 => by
    have ih := tgM_lt hB h k
    unfold tgM
    split
    · exact ih
    · rename_i v hv
      cases hc : (decide ((tgM le k).1 < pcN k) || (decide (pcN k = (tgM le k).1) && decide (v < (tgM le k).2)))
      · exact ih
      · exact ⟨pcN_le k, h _ _ hv⟩
/-- the first sentence to begin with, from sentence k on -/
def bgF (lk : Nat → Option Nat) (ef : Nat → Nat) (sa : Nat) (le : Nat → Option Nat) (m : Nat) (k : Nat) : Option Nat :=
  (List.range' k (9 - k)).find? (fun s => (chE lk ef sa s).isSome && decide (le (sa ||| 2 ^ s) = some m))
def bgN (lk : Nat → Option Nat) (ef : Nat → Nat) (sa : Nat) (le : Nat → Option Nat) : Option Nat := match le sa with
  | none => none
  | some v => bif decide (v < 1) then none else bgF lk ef sa le (v - 1) 0
theorem sdf_self (a : Nat) : sdf a a = 0 := by
  apply Nat.eq_of_testBit_eq
  intro i
  rw [sdf_bit, Nat.zero_testBit]
  cases a.testBit i <;> rfl
section BG
variable {lk : Nat → Option Nat} {ef : Nat → Nat} {sa m k v w e : Nat} {le : Nat → Option Nat} {o : Option Nat}
theorem bgF_step (h : k < 9) : bgF lk ef sa le m k = bif (chE lk ef sa k).isSome && decide (le (sa ||| 2 ^ k) = some m) then some k else bgF lk ef sa le m (k + 1) := by
  unfold bgF
  rw [show 9 - k = (9 - (k + 1)) + 1 by omega, List.range'_succ, List.find?_cons]
  cases ((chE lk ef sa k).isSome && decide (le (sa ||| 2 ^ k) = some m)) <;> rfl
theorem bgF_n (hk : k < 9) (h : chE lk ef sa k = none) : bgF lk ef sa le m (k + 1) = bgF lk ef sa le m k := by rw [bgF_step hk, h]; rfl
theorem bgF_m (hk : k < 9) (h2 : le (sa ||| 2 ^ k) = none) : bgF lk ef sa le m (k + 1) = bgF lk ef sa le m k := by
  rw [bgF_step hk, h2]
  cases (chE lk ef sa k).isSome <;> rfl
theorem bgF_d (hk : k < 9) (h2 : le (sa ||| 2 ^ k) = some w) (h3 : w ≠ m) : bgF lk ef sa le m (k + 1) = bgF lk ef sa le m k := by
  rw [bgF_step hk, h2, show decide (some w = some m) = false from decide_eq_false (fun q => h3 (Option.some.inj q))]
  cases (chE lk ef sa k).isSome <;> rfl
theorem bgF_e (hk : k < 9) (h : chE lk ef sa k = some e) (h2 : le (sa ||| 2 ^ k) = some m) : bgF lk ef sa le m k = some k := by
  rw [bgF_step hk, h, h2, decide_eq_true rfl]; rfl
theorem bgF_9 : bgF lk ef sa le m 9 = none := rfl
theorem bgN_n (h : le sa = none) : bgN lk ef sa le = none := by simp only [bgN, h]
theorem bgN_0 (h : le sa = some v) (h2 : v < 1) : bgN lk ef sa le = none := by simp only [bgN, h, decide_eq_true h2, cond_true]
theorem bgN_s (h : le sa = some v) (h2 : ¬ v < 1) (h3 : bgF lk ef sa le (v - 1) 0 = o) : bgN lk ef sa le = o := by simp only [bgN, h, decide_eq_false h2, cond_false, h3]
end BG
theorem slN_lt {n al t day : Nat} {kn nd : Nat → Nat} {mb : Nat → Option Nat} {kd fg : Nat → Nat} {x : Nat} (hn : n ≤ 9) : slN n al t day kn nd mb kd fg x < 512 := by
  unfold slN
  cases mb x with
  | none => exact (by decide : 0 < 512)
  | some a =>
    cases al.testBit x
    · exact (by decide : 0 < 512)
    · exact orF_9 _ hn
theorem asN_le {k f : Nat} (hf : f < 10) : asN k f ≤ 30 := by
  unfold asN
  split <;> omega
def tgL (n al t day : Nat) (kn nd : Nat → Nat) (mb : Nat → Option Nat) (kd fg : Nat → Nat) : Nat → Nat → Option Nat
  | 0 => va_up (fun _ => none) 0 (some 0)
  | i + 1 => match mb i with
    | none => tgL n al t day kn nd mb kd fg i
    | some a => ljD (slN n al t day kn nd mb kd fg i) (asN (kd a) (fg a)) (tgL n al t day kn nd mb kd fg i) 512
theorem tg_eq (z : Nat) : 1 + 138240 * z + 270 * 512 = 1 + 138240 * (z + 1) := by omega
section TG
variable {n al t day i a : Nat} {kn nd : Nat → Nat} {mb : Nat → Option Nat} {kd fg : Nat → Nat}
theorem tgL_n (h : mb i = none) : tgL n al t day kn nd mb kd fg i = tgL n al t day kn nd mb kd fg (i + 1) := by simp only [tgL, h]
theorem tgL_s (h : mb i = some a) : ljD (slN n al t day kn nd mb kd fg i) (asN (kd a) (fg a)) (tgL n al t day kn nd mb kd fg i) 512 = tgL n al t day kn nd mb kd fg (i + 1) := by simp only [tgL, h]
theorem tgL_lt (hf : ∀ j a, mb j = some a → fg a < 10) (z : Nat) : ∀ i v, tgL n al t day kn nd mb kd fg z i = some v → v < 1 + 138240 * z := by
  induction z with
  | zero =>
    intro i v h
    by_cases hi : i = 0
    · subst hi
      have h2 : some 0 = some v := h
      cases h2
      omega
    · have h2 : va_up (fun _ => (none : Option Nat)) 0 (some 0) i = some v := h
      rw [va_up_ne _ _ hi] at h2
      cases h2
  | succ z ih =>
    intro i v h
    cases hm : mb z with
    | none => rw [← tgL_n hm] at h; have := ih i v h; omega
    | some a =>
      rw [← tgL_s hm] at h
      exact Nat.lt_of_lt_of_le (ljD_lt (asN_le (hf z a hm)) ih 512 i v h) (Nat.le_of_eq (tg_eq z))
end TG
