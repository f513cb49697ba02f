/-! what is soonest, easiest, first, all: both sides -/
section WAYS
variable {DL : List Nat} {kd fg : Nat → Nat} {n d t al day : Nat} {nd : Nat → Nat} {mk si : Nat → Int32} {kn : Nat → Nat} {mb : Nat → Option Nat} {bb oo : Nat → Int32} {K F : Nat → Nat} {ef : Nat → Nat} {le : Nat → Option Nat}
theorem q_ch (h : RS DL kd fg n d t mk si mb bb oo K F) (hw : WS n d t al nd bb K F kn) : ∀ T s, s < 9 → chE (lkI n al nd kn mb kd fg 6) (efI n al nd kn mb kd fg ef 6) T s = leS n T al nd K F kn s d := fun T s hs => ch_7 h hw.1 hw.2.1 hw.2.2.2.1 hs hw.2.2.2.2.2.1
theorem q_ever (h : RS DL kd fg n d t mk si mb bb oo K F) (hw : WS n d t al nd bb K F kn) : raR (lkI n al nd kn mb kd fg 6) (efI n al nd kn mb kd fg ef 6) 9 t = evN n al d nd K F kn 512 t := ev_ra hw.1 hw.2.2.2.2.2.1 (q_ch h hw)
theorem ws_t9 (hw : WS n d t al nd bb K F kn) : t < 512 := Nat.lt_of_lt_of_le hw.2.2.1 (Nat.pow_le_pow_right (by decide) hw.1)
theorem q_way (h : RS DL kd fg n d t mk si mb bb oo K F) (hw : WS n d t al nd bb K F kn) (b : Bool) (y : Nat) : plD (lkI n al nd kn mb kd fg 6) (efI n al nd kn mb kd fg ef 6) t (2 ^ y) b le 512 t = lwO (pj b (grK n d al t nd K F kn (2 ^ n - t))) y (2 ^ n) := by
  have ht := ws_t9 hw
  exact IsMin.uniq (pl_min hw.1 (q_ch h hw) 512 (Nat.le_refl 512) t (by omega) (by omega) (fun _ q => q)) (lwp_min hw.2.2.1)
/-- a way stays in what can come -/
theorem pa_cl (hn : n ≤ 9) (hnd : ∀ i, (nd i).testBit i = false) {b : Bool} {T U w : Nat} (p : Pa (stp n al d nd K F kn b) T U w) (h : ∀ i, T.testBit i = true → (evN n al d nd K F kn 512 t).testBit i = true) : ∀ i, U.testBit i = true → (evN n al d nd K F kn 512 t).testBit i = true :=
  Pa.ind (P := fun T U _ => (∀ i, T.testBit i = true → (evN n al d nd K F kn 512 t).testBit i = true) → ∀ i, U.testBit i = true → (evN n al d nd K F kn 512 t).testBit i = true) (fun T h => h) (fun T s e U w h1 ih h => ih (fun i hi => by
    rw [or_b] at hi
    cases hT : T.testBit i
    · rw [hT, Bool.false_or, decide_eq_true_eq] at hi
      subst hi
      obtain ⟨e', he, -⟩ := stp_of h1
      rcases le_mono hnd h (show (leS n T al nd K F kn s d).isSome = true by rw [he]; rfl) with q | q
      · exact q
      · exact ev_cl hn q
    · exact h i hT)) p h
theorem q_all (h : RS DL kd fg n d t mk si mb bb oo K F) (hw : WS n d t al nd bb K F kn) : plD (lkI n al nd kn mb kd fg 6) (efI n al nd kn mb kd fg ef 6) t (raR (lkI n al nd kn mb kd fg 6) (efI n al nd kn mb kd fg ef 6) 9 t) true le 512 t = (grK n d al t nd K F kn (2 ^ n - t)).2 (evN n al d nd K F kn 512 t) := by
  have ht := ws_t9 hw
  rw [q_ever h hw]
  have hge : ∀ k i, t.testBit i = true → (evN n al d nd K F kn k t).testBit i = true := by
    intro k
    induction k with
    | zero => intro i q; exact q
    | succ k ih => intro i q; exact ev_ge (ih i q)
  refine IsMin.uniq (pl_min hw.1 (q_ch h hw) 512 (Nat.le_refl 512) t (by omega) (by omega) (fun _ q => q)) ((gk_min (b := true) hw.2.2.1).iff (fun w => ⟨fun p => ⟨_, fun _ q => q, p⟩, fun ⟨U, h1, p⟩ => ?_⟩))
  have hU : U = evN n al d nd K F kn 512 t := by
    have h2 := pa_cl hw.1 hw.2.2.2.2.2.1 p (hge 512)
    apply Nat.eq_of_testBit_eq
    intro i
    cases h3 : U.testBit i
    · cases h4 : (evN n al d nd K F kn 512 t).testBit i
      · rfl
      · rw [h1 i h4] at h3; cases h3
    · exact (h2 i h3).symm
  rw [← hU]
  exact p
/-- ways of one step -/
theorem pa_0 {T U : Nat} (p : Pa (stp n al d nd K F kn false) T U 0) : T = U := by
  rcases p.inv with ⟨h, -⟩ | ⟨s, e, w', h1, -, h3⟩
  · exact h
  · obtain ⟨e', -, he⟩ := stp_of h1
    rw [he, cond_false] at h3
    omega
theorem pa_1 {T U : Nat} (p : Pa (stp n al d nd K F kn false) T U 1) : ∃ s, stp n al d nd K F kn false T s = some 1 ∧ T ||| 2 ^ s = U := by
  rcases p.inv with ⟨-, h⟩ | ⟨s, e, w', h1, h2, h3⟩
  · cases h
  · obtain ⟨e', -, he⟩ := stp_of h1
    rw [cond_false] at he
    subst he
    rw [show w' = 0 by omega] at h2
    exact ⟨s, h1, pa_0 h2⟩
theorem or_inj {T s f : Nat} (h : T.testBit s = false) (e : T ||| 2 ^ s = T ||| 2 ^ f) : s = f := by
  have h1 : (T ||| 2 ^ f).testBit s = true := by rw [← e, or_b]; simp
  rw [or_b, h, Bool.false_or, decide_eq_true_eq] at h1
  exact h1.symm
theorem fe_one (hw : t < 2 ^ n) {f : Nat} (hf : f < n) : (!t.testBit f && decide ((grK n d al t nd K F kn (2 ^ n - t)).1 (t ||| 2 ^ f) = some 1)) = (leS n t al nd K F kn f d).isSome := by
  have hm := gk_min (n := n) (al := al) (d := d) (nd := nd) (K := K) (F := F) (kn := kn) (b := false) hw (U := t ||| 2 ^ f)
  cases hl : leS n t al nd K F kn f d with
  | none =>
    refine Bool.and_eq_false_iff.mpr (Or.inr (decide_eq_false (fun q => ?_)))
    obtain ⟨s, h1, h2⟩ := pa_1 (hm.1 1 q).1
    have h3 := or_inj (stp_T h1).1 h2
    subst h3
    obtain ⟨e, he, -⟩ := stp_of h1
    rw [hl] at he
    cases he
  | some e =>
    have h1 : stp n al d nd K F kn false t f = some 1 := stp_s hl
    have hT := (stp_T h1).1
    have p1 : Pa (stp n al d nd K F kn false) t (t ||| 2 ^ f) (1 + 0) := Pa.cons h1 (Pa.nil _)
    have hv : (grK n d al t nd K F kn (2 ^ n - t)).1 (t ||| 2 ^ f) = some 1 := by
      cases hq : (grK n d al t nd K F kn (2 ^ n - t)).1 (t ||| 2 ^ f) with
      | none => exact absurd p1 (hm.2 hq _)
      | some v =>
        have h2 := (hm.1 v hq).2 _ p1
        by_cases h0 : v = 0
        · subst h0
          have h3 := pa_0 (hm.1 0 hq).1
          have h4 := or_gt hT
          omega
        · rw [show v = 1 by omega]
    rw [hT, decide_eq_true hv]
    rfl
theorem fd_ff {P : Nat → Bool} : ∀ m k, (List.range' k m).find? P = ffN P m k
  | 0, k => rfl
  | m + 1, k => by
    have ih := fd_ff (P := P) m (k + 1)
    rw [List.range'_succ, List.find?_cons, ffN, ← ih]
    cases P k <;> rfl
theorem ff_cong {P Q : Nat → Bool} : ∀ m k, (∀ j, k ≤ j → j < k + m → P j = Q j) → ffN P m k = ffN Q m k
  | 0, _, _ => rfl
  | m + 1, k, h => by
    rw [ffN, ffN, h k (Nat.le_refl k) (by omega), ff_cong m (k + 1) (fun j h1 h2 => h j (by omega) (by omega))]
theorem ff_none {P : Nat → Bool} : ∀ m k, (∀ j, k ≤ j → j < k + m → P j = false) → ffN P m k = none
  | 0, _, _ => rfl
  | m + 1, k, h => by
    rw [ffN, h k (Nat.le_refl k) (by omega), cond_false]
    exact ff_none m (k + 1) (fun j h1 h2 => h j (by omega) (by omega))
theorem ff_add {P : Nat → Bool} : ∀ m m2 k, (∀ j, k + m ≤ j → j < k + m + m2 → P j = false) → ffN P (m + m2) k = ffN P m k
  | 0, m2, k, h => by
    rw [Nat.zero_add]
    exact ff_none m2 k (fun j h1 h2 => h j (by omega) (by omega))
  | m + 1, m2, k, h => by
    rw [show m + 1 + m2 = (m + m2) + 1 by omega, ffN, ffN, ff_add m m2 (k + 1) (fun j h1 h2 => h j (by omega) (by omega))]
theorem q_first (h : RS DL kd fg n d t mk si mb bb oo K F) (hw : WS n d t al nd bb K F kn) (y : Nat) : oI (bgN (lkI n al nd kn mb kd fg 6) (efI n al nd kn mb kd fg ef 6) t (plD (lkI n al nd kn mb kd fg 6) (efI n al nd kn mb kd fg ef 6) t (2 ^ y) false le 512)) = fiR (lwO (grK n d al t nd K F kn (2 ^ n - t)).1 y (2 ^ n)) (fun f => !t.testBit f && (decide ((grK n d al t nd K F kn (2 ^ n - t)).1 (t ||| 2 ^ f) = some 1) && decide (lwO (grK n d al (t ||| 2 ^ f) nd K F kn (2 ^ n - (t ||| 2 ^ f))).1 y (2 ^ n) = some ((lwO (grK n d al t nd K F kn (2 ^ n - t)).1 y (2 ^ n)).getD 0 - 1)))) n := by
  have ht := ws_t9 hw
  have h1 : plD (lkI n al nd kn mb kd fg 6) (efI n al nd kn mb kd fg ef 6) t (2 ^ y) false le 512 t = lwO (grK n d al t nd K F kn (2 ^ n - t)).1 y (2 ^ n) := q_way h hw false y
  unfold bgN fiR
  rw [h1]
  cases hv : lwO (grK n d al t nd K F kn (2 ^ n - t)).1 y (2 ^ n) with
  | none => rfl
  | some v =>
    dsimp only
    by_cases h0 : v = 0
    · subst h0; rfl
    · rw [decide_eq_false (show ¬ v < 1 by omega), cond_false, if_neg h0]
      congr 1
      unfold bgF
      rw [fd_ff, Option.getD_some]
      have h9 : n + (9 - n) = 9 := by have := hw.1; omega
      rw [show 9 - 0 = n + (9 - n) by omega]
      have hP : ∀ f, f < n + (9 - n) → ((chE (lkI n al nd kn mb kd fg 6) (efI n al nd kn mb kd fg ef 6) t f).isSome && decide (plD (lkI n al nd kn mb kd fg 6) (efI n al nd kn mb kd fg ef 6) t (2 ^ y) false le 512 (t ||| 2 ^ f) = some (v - 1))) = bif decide (f < n) then (!t.testBit f && (decide ((grK n d al t nd K F kn (2 ^ n - t)).1 (t ||| 2 ^ f) = some 1) && decide (lwO (grK n d al (t ||| 2 ^ f) nd K F kn (2 ^ n - (t ||| 2 ^ f))).1 y (2 ^ n) = some (v - 1)))) else false := by
        intro f hf
        rw [q_ch h hw t f (by omega)]
        by_cases hfn : f < n
        · rw [decide_eq_true hfn, cond_true, ← Bool.and_assoc, fe_one hw.2.2.1 hfn]
          cases hl : (leS n t al nd K F kn f d).isSome
          · rfl
          · have hlt := or_lt2 hw.2.2.1 hfn
            have h512 : t ||| 2 ^ f < 512 := or_512 ht (bit_512 (by omega))
            have e1 : plD (lkI n al nd kn mb kd fg 6) (efI n al nd kn mb kd fg ef 6) t (2 ^ y) false le 512 (t ||| 2 ^ f) = lwO (grK n d al (t ||| 2 ^ f) nd K F kn (2 ^ n - (t ||| 2 ^ f))).1 y (2 ^ n) :=
              IsMin.uniq (pl_min hw.1 (q_ch h hw) 512 (Nat.le_refl 512) (t ||| 2 ^ f) (by omega) (by omega) (fun i hi => by rw [or_b, hi]; rfl)) (lwp_min (b := false) hlt)
            rw [e1]
        · rw [decide_eq_false hfn, cond_false]
          cases hl : (leS n t al nd K F kn f d).isSome
          · rfl
          · exact absurd (le_n hl) hfn
      rw [ff_cong (n + (9 - n)) 0 (fun j _ hj => hP j (by omega)), ff_add n (9 - n) 0 (fun j h2 h3 => by rw [decide_eq_false (show ¬ j < n by omega)]; rfl)]
      exact ff_cong n 0 (fun j _ hj => by rw [decide_eq_true (show j < n by omega)]; rfl)
/-! hiring -/
theorem hi_V {E : Nat → Nat} : ∀ k, hiV E k = hbV E k
  | 0 => rfl
  | k + 1 => by
    have ih := hi_V (E := E) k
    unfold hiV hbV
    rw [ih]
    cases hbV E k <;> rfl
theorem hi_B {E : Nat → Nat} : ∀ k, 0 < k → hiB E k = some (hbK E k)
  | k + 1, _ => by
    unfold hiB hbK
    rw [hi_V k]
    cases hv : hbV E k with
    | none => rfl
    | some m =>
      dsimp only
      cases hd : decide (m < E k)
      · rw [cond_false, cond_false]
        cases k with
        | zero => cases hv
        | succ k => exact hi_B (k + 1) (Nat.succ_pos k)
      · rfl
theorem hb_cong {E E' : Nat → Nat} : ∀ k, (∀ j, j < k → E j = E' j) → hbV E k = hbV E' k ∧ hbK E k = hbK E' k
  | 0, _ => ⟨rfl, rfl⟩
  | k + 1, h => by
    obtain ⟨i1, i2⟩ := hb_cong k (fun j hj => h j (by omega))
    unfold hbV hbK
    rw [i1, i2, h k (Nat.lt_succ_self k)]
    exact ⟨rfl, rfl⟩
theorem chF_cong {lk lk' : Nat → Option Nat} {ef ef' : Nat → Nat} {T s : Nat} : ∀ k, (∀ j, j < k → lk (s + 9 * j) = lk' (s + 9 * j) ∧ (∀ L, lk' (s + 9 * j) = some L → ef (s + 9 * j) = ef' (s + 9 * j))) → chF lk ef T s k = chF lk' ef' T s k
  | 0, _ => rfl
  | k + 1, h => by
    have ih := chF_cong (T := T) k (fun j hj => h j (by omega))
    obtain ⟨h1, h2⟩ := h k (Nat.lt_succ_self k)
    unfold chF
    rw [ih, h1]
    cases hl : lk' (s + 9 * k) with
    | none => rfl
    | some L => rw [h2 L hl]
theorem le_cong {n T al al' s : Nat} {nd K F kn K' F' kn' : Nat → Nat} (hT : T.testBit s = false) (hnd : (nd s).testBit s = false) : ∀ k, (∀ j, j < k → al'.testBit j = al.testBit j ∧ K' j = K j ∧ F' j = F j ∧ kn' j = kn j) → leS n T al' nd K' F' kn' s k = leS n T al nd K F kn s k
  | 0, _ => rfl
  | k + 1, h => by
    have ih := le_cong (n := n) (T := T) hT hnd k (fun j hj => h j (by omega))
    obtain ⟨h1, h2, h3, h4⟩ := h k (Nat.lt_succ_self k)
    unfold leS
    rw [sm_bit hT hnd, sm_bit hT hnd, ih, h1, h2, h3, h4]
theorem le_d6 (hal : al < 2 ^ d) (hd : d ≤ 6) {T s : Nat} (hT : T.testBit s = false) (hnd : (nd s).testBit s = false) : leS n T al nd K F kn s 6 = leS n T al nd K F kn s d := by
  have hm : ∀ m, leS n T al nd K F kn s (d + m) = leS n T al nd K F kn s d := by
    intro m
    induction m with
    | zero => rfl
    | succ m ih =>
      show leS n T al nd K F kn s ((d + m) + 1) = _
      rw [leS, sm_bit hT hnd, ← ih]
      have : al.testBit (d + m) = false := by
        cases ha : al.testBit (d + m)
        · rfl
        · have := tb_lt hal ha; omega
      rw [this]
      rfl
  have h9 := hm (6 - d)
  rw [show d + (6 - d) = 6 by omega] at h9
  exact h9
theorem q_guest (h : RS DL kd fg n d t mk si mb bb oo K F) (hw : WS n d t al nd bb K F kn) (k f : Nat) : raR (cnL k f 0 6 nd n (lkI n al nd kn mb kd fg 6)) (fun _ => 0) 9 t = evN n (al ||| 2 ^ d) (d + 1) nd (va_up K d k) (va_up F d f) (va_up kn d 0) 512 t := by
  obtain ⟨hn, hd, -, hal, -, hnd, -⟩ := hw
  rw [raR_ef (ef2 := cnE k f 0 6 nd n (efI n al nd kn mb kd fg (fun _ => 0) 6)) 9]
  refine ev_ra hn hnd (fun T s hs => ?_)
  unfold chE
  cases hT : T.testBit s
  · rw [cond_false]
    have h6 : chF (cnL k f 0 6 nd n (lkI n al nd kn mb kd fg 6)) (cnE k f 0 6 nd n (efI n al nd kn mb kd fg (fun _ => 0) 6)) T s 6 = leS n T (al ||| 2 ^ d) nd (va_up K d k) (va_up F d f) (va_up kn d 0) s d := by
      rw [chF_cong (lk' := lkI n al nd kn mb kd fg 6) (ef' := efI n al nd kn mb kd fg (fun _ => 0) 6) 6 (fun j hj => ?_), ch_le h hn hd hal hs hT (hnd s) 6 (Nat.le_refl 6), le_d6 hal hd hT (hnd s)]
      · refine (le_cong hT (hnd s) d (fun j hj => ?_)).symm
        have hne : j ≠ d := by omega
        rw [or_b, decide_eq_false (fun q => hne q.symm), Bool.or_false, va_up_ne _ _ hne, va_up_ne _ _ hne, va_up_ne _ _ hne]
        exact ⟨rfl, rfl, rfl, rfl⟩
      · rw [show s + 9 * j = j * 9 + s by omega, cn_at hs n hn, cne_at hs n hn, decide_eq_false (show ¬ j = 6 by omega)]
        exact ⟨rfl, fun _ _ => rfl⟩
    have hlk : lkI n al nd kn mb kd fg 6 (6 * 9 + s) = none := by rw [lk_at h hn hal hs 6]; rfl
    unfold chF leS
    rw [h6, show s + 9 * 6 = 6 * 9 + s by omega, cn_at hs n hn, cne_at hs n hn, hlk, sm_bit hT (hnd s), or_b, va_up_self, va_up_self, va_up_self]
    cases decide (s < n)
    · simp
    · cases cdB k f 0 (nd s) s
      · simp
      · simp only [decide_true, Bool.or_true, Bool.true_and, cond_true, me_sd]
        cases leS n T (al ||| 2 ^ d) nd (va_up K d k) (va_up F d f) (va_up kn d 0) s d <;> rfl
  · rw [cond_true]
    exact (le_0 (fun j => sm_bit0 hT) (d + 1)).symm
theorem okI_2 (w : Int32) : okI w 2 = (decide (w = 0) || decide (w = 1)) := by
  rcases okI_or w (n := 2) (by decide) with q | ⟨y, hy, rfl⟩
  · rw [q]
    have h0 : ¬ w = 0 := fun z => by subst z; exact absurd q (by decide)
    have h1 : ¬ w = 1 := fun z => by subst z; exact absurd q (by decide)
    simp [h0, h1]
  · rcases (show y = 0 ∨ y = 1 by omega) with rfl | rfl <;> decide
end WAYS
