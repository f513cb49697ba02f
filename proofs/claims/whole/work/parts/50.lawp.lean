/-! THE SHELVES, on both sides: 0 nothing, 1 a denier, 2 a row -/
def SH (DL : List Nat) (kd fg : Nat → Nat) (RL : List Nat) (rs rz : Nat → Nat) (rf : Nat → Nat → Int32) (dm rm : Nat → Option Nat) (ke so zz : Nat → Nat) (el qk qf : Nat → Int32) : Prop :=
  (∀ y a, dm y = some a → a ∈ DL) ∧ (∀ y r, rm y = some r → r ∈ RL) ∧ (∀ y1 y2 r, rm y1 = some r → rm y2 = some r → y1 = y2) ∧ ∀ y, y < 8 → (ke y = 0 ∧ dm y = none ∧ rm y = none) ∨ (ke y = 1 ∧ rm y = none ∧ ∃ a, dm y = some a ∧ qk y = nI (kd a) ∧ qf y = nI (fg a)) ∨ (ke y = 2 ∧ dm y = none ∧ ∃ r, rm y = some r ∧ so y = rs r ∧ zz y = rz r ∧ ∀ i, i < rz r → el (100 * y + i) = rf r i)
section SHE
variable {DL : List Nat} {kd fg : Nat → Nat} {RL : List Nat} {rs rz : Nat → Nat} {rf : Nat → Nat → Int32} {dm rm : Nat → Option Nat} {ke so zz : Nat → Nat} {el qk qf : Nat → Int32}
theorem SH.why (h : SH DL kd fg RL rs rz rf dm rm ke so zz el qk qf) {y : Nat} (hy : y < 8) : ((rm y).isNone && (dm y).isNone) = decide (ke y = 0) := by
  rcases h.2.2.2 y hy with ⟨h1, h2, h3⟩ | ⟨h1, h2, a, h3, -⟩ | ⟨h1, h2, r, h3, -⟩ <;> simp [h1, h2, h3]
theorem SH.row (h : SH DL kd fg RL rs rz rf dm rm ke so zz el qk qf) {y r : Nat} (hy : y < 8) (hr : rm y = some r) : ke y = 2 ∧ dm y = none ∧ so y = rs r ∧ zz y = rz r ∧ ∀ i, i < rz r → el (100 * y + i) = rf r i := by
  rcases h.2.2.2 y hy with ⟨h1, h2, h3⟩ | ⟨h1, h2, a, h3, -⟩ | ⟨h1, h2, r1, h3, h4⟩
  · rw [h3] at hr; cases hr
  · rw [h2] at hr; cases hr
  · rw [h3] at hr; cases hr; exact ⟨h1, h2, h4⟩
theorem SH.ke2 (h : SH DL kd fg RL rs rz rf dm rm ke so zz el qk qf) {y : Nat} (hy : y < 8) (hk : ke y = 2) : ∃ r, rm y = some r ∧ dm y = none ∧ so y = rs r ∧ zz y = rz r ∧ ∀ i, i < rz r → el (100 * y + i) = rf r i := by
  rcases h.2.2.2 y hy with ⟨h1, h2, h3⟩ | ⟨h1, h2, a, h3, -⟩ | ⟨h1, h2, r1, h3, h4⟩
  · omega
  · omega
  · exact ⟨r1, h3, h2, h4⟩
theorem SH.norow (h : SH DL kd fg RL rs rz rf dm rm ke so zz el qk qf) {y : Nat} (hy : y < 8) (hk : ¬ ke y = 2) : rm y = none := by
  rcases h.2.2.2 y hy with ⟨h1, h2, h3⟩ | ⟨h1, h2, a, h3, -⟩ | ⟨h1, h2, r1, h3, h4⟩
  · exact h3
  · exact h2
  · exact absurd h1 hk
theorem SH.ke1 (h : SH DL kd fg RL rs rz rf dm rm ke so zz el qk qf) {y : Nat} (hy : y < 8) (hk : ke y = 1) : rm y = none ∧ ∃ a, dm y = some a ∧ qk y = nI (kd a) ∧ qf y = nI (fg a) := by
  rcases h.2.2.2 y hy with ⟨h1, h2, h3⟩ | ⟨h1, h2, h4⟩ | ⟨h1, h2, r1, h3, h4⟩
  · omega
  · exact ⟨h2, h4⟩
  · omega
theorem SH.noden (h : SH DL kd fg RL rs rz rf dm rm ke so zz el qk qf) {y : Nat} (hy : y < 8) (hk : ¬ ke y = 1) : dm y = none := by
  rcases h.2.2.2 y hy with ⟨h1, h2, h3⟩ | ⟨h1, h2, h4⟩ | ⟨h1, h2, r1, h3, h4⟩
  · exact h2
  · exact absurd h1 hk
  · exact h2
theorem wk_0e {y : Nat} (h : ke y = 0) : wkR ke y = -11 := by unfold wkR; rw [if_pos h]
theorem wk_1e {y : Nat} (h : ke y = 1) : wkR ke y = 0 := by unfold wkR; rw [if_neg (by omega), if_pos h]
theorem wk_2e {y : Nat} (h : ke y = 2) : wkR ke y = -12 := by unfold wkR; rw [if_neg (by omega), if_neg (by omega)]
theorem wS_0e {y : Nat} (h : ke y = 0) : wrS ke y = -11 := by unfold wrS; rw [if_pos h]
theorem wS_1e {y : Nat} (h : ke y = 1) : wrS ke y = -12 := by unfold wrS; rw [if_neg (by omega), if_neg (by omega)]
theorem wS_2e {y : Nat} (h : ke y = 2) : wrS ke y = 0 := by unfold wrS; rw [if_neg (by omega), if_pos h]
theorem r_price (h : SH DL kd fg RL rs rz rf dm rm ke so zz el qk qf) (hk : ∀ a ∈ DL, kd a < 8 ∧ fg a < 10) (i : Int32) : on1 (oN i 8) (fun y => match dm y with | none => (bif (rm y).isNone && (dm y).isNone then -11 else -12) | some a => nI (asN (kd a) (fg a))) (-1) = on1 (oN i 8) (fun y9 => if wkR ke y9 = 0 then nI (asN (nT (qk y9)) (nT (qf y9))) else wkR ke y9) (-1) := by
  refine on1_cong (by decide) (fun y hy => ?_)
  try dsimp only
  rcases h.2.2.2 y hy with ⟨h1, h2, h3⟩ | ⟨h1, h2, a, h3, h4, h5⟩ | ⟨h1, h2, r1, h3, -⟩
  · rw [h2, h3, wk_0e h1, if_neg (by decide)]; try rfl
  · obtain ⟨g1, g2⟩ := hk a (h.1 y a h3)
    rw [h3, wk_1e h1, if_pos rfl, h4, h5, nT_nI (show kd a < 2 ^ 31 by omega), nT_nI (show fg a < 2 ^ 31 by omega)]
    try rfl
  · rw [h2, h3, wk_2e h1, if_neg (by decide)]; try rfl
theorem r_toss (h : SH DL kd fg RL rs rz rf dm rm ke so zz el qk qf) (hk : ∀ a ∈ DL, kd a < 8 ∧ fg a < 10) (i : Int32) : on1 (oN i 8) (fun y => match dm y with | none => (bif (rm y).isNone && (dm y).isNone then -11 else -12) | some a => tossR (kd a) (fg a)) (-1) = on1 (oN i 8) (fun y9 => if wkR ke y9 = 0 then tossR (nT (qk y9)) (nT (qf y9)) else wkR ke y9) (-1) := by
  refine on1_cong (by decide) (fun y hy => ?_)
  try dsimp only
  rcases h.2.2.2 y hy with ⟨h1, h2, h3⟩ | ⟨h1, h2, a, h3, h4, h5⟩ | ⟨h1, h2, r1, h3, -⟩
  · rw [h2, h3, wk_0e h1, if_neg (by decide)]; try rfl
  · obtain ⟨g1, g2⟩ := hk a (h.1 y a h3)
    rw [h3, wk_1e h1, if_pos rfl, h4, h5, nT_nI (show kd a < 2 ^ 31 by omega), nT_nI (show fg a < 2 ^ 31 by omega)]
    try rfl
  · rw [h2, h3, wk_2e h1, if_neg (by decide)]; try rfl
theorem r_comes (h : SH DL kd fg RL rs rz rf dm rm ke so zz el qk qf) (d : Nat) (i : Int32) : comR dm rm d i = on1 (oN i 8) (fun y9 => if wkR ke y9 = 0 then (bif decide (d < 6) then nI d else -2) else wkR ke y9) (-1) := by
  unfold comR whyR
  rcases okI_or i (n := 8) (by decide) with q | ⟨y, hy, rfl⟩
  · rw [cmB_f q, oN_f q]; try rfl
  · rw [oN_t hy, on1_s, on1_s]
    rcases h.2.2.2 y hy with ⟨h1, h2, h3⟩ | ⟨h1, h2, a, h3, h4, h5⟩ | ⟨h1, h2, r1, h3, -⟩
    · rw [cmB_n hy h2, h2, h3, wk_0e h1, if_neg (by decide)]; try rfl
    · rw [cmB_s hy h3, wk_1e h1, if_pos rfl]; try rfl
    · rw [cmB_n hy h2, h2, h3, wk_2e h1, if_neg (by decide)]; try rfl
/-- who comes, if one does -/
theorem r_com (h : SH DL kd fg RL rs rz rf dm rm ke so zz el qk qf) (hk : ∀ a ∈ DL, kd a < 8 ∧ fg a < 10) (i : Int32) : (cmB dm i = false ∧ (okI i 8 = false ∨ ∃ y, y < 8 ∧ i = nI y ∧ ¬ wkR ke y = 0)) ∨ ∃ y a, y < 8 ∧ i = nI y ∧ wkR ke y = 0 ∧ cmB dm i = true ∧ cmA dm i = a ∧ a ∈ DL ∧ kd a = nT (qk y) ∧ fg a = nT (qf y) := by
  rcases okI_or i (n := 8) (by decide) with q | ⟨y, hy, rfl⟩
  · exact Or.inl ⟨cmB_f q, Or.inl q⟩
  · rcases h.2.2.2 y hy with ⟨h1, h2, h3⟩ | ⟨h1, h2, a, h3, h4, h5⟩ | ⟨h1, h2, r1, h3, -⟩
    · exact Or.inl ⟨cmB_n hy h2, Or.inr ⟨y, hy, rfl, by rw [wk_0e h1]; decide⟩⟩
    · obtain ⟨g1, g2⟩ := hk a (h.1 y a h3)
      exact Or.inr ⟨y, a, hy, rfl, wk_1e h1, cmB_s hy h3, cmA_s hy h3, h.1 y a h3, by rw [h4, nT_nI (by omega)], by rw [h5, nT_nI (by omega)]⟩
    · exact Or.inl ⟨cmB_n hy h2, Or.inr ⟨y, hy, rfl, by rw [wk_2e h1]; decide⟩⟩
theorem r_putf (h : SH DL kd fg RL rs rz rf dm rm ke so zz el qk qf) (i : Int32) : on1 (oN i 8) (fun y => match rm y with | none => (bif (rm y).isNone && (dm y).isNone then -11 else -12) | some _ => -13) (-1) = on1 (oN i 8) (fun y9 => if wrS ke y9 = 0 then -13 else wrS ke y9) (-1) := by
  refine on1_cong (by decide) (fun y hy => ?_)
  try dsimp only
  rcases h.2.2.2 y hy with ⟨h1, h2, h3⟩ | ⟨h1, h2, a, h3, h4, h5⟩ | ⟨h1, h2, r1, h3, -⟩
  · rw [h2, h3, wS_0e h1, if_neg (by decide)]; try rfl
  · rw [h2, h3, wS_1e h1, if_neg (by decide)]; try rfl
  · rw [h3, wS_2e h1, if_pos rfl]
    try rfl
theorem r_copyf (h : SH DL kd fg RL rs rz rf dm rm ke so zz el qk qf) (x1 x2 : Int32) : on1 (oN x1 8) (fun y1 => on1 (oN x2 8) (fun y2 => bif ((rm y1).isNone && (dm y1).isNone) || ((rm y2).isNone && (dm y2).isNone) then -11 else match rm y1, rm y2 with | some r1, some r2 => (bif decide (rs r2 = rs r1) then -13 else -12) | _, _ => -12) (-1)) (-1) = on1 (oN x1 8) (fun y1 => on1 (oN x2 8) (fun y2 => if ke y1 = 0 ∨ ke y2 = 0 then -11 else if ke y1 = 2 ∧ ke y2 = 2 ∧ so y1 = so y2 then -13 else -12) (-1)) (-1) := by
  refine on1_cong (by decide) (fun y1 hy1 => on1_cong (by decide) (fun y2 hy2 => ?_))
  rw [h.why hy1, h.why hy2]
  by_cases a1 : ke y1 = 0
  · simp [a1]
  · by_cases a2 : ke y2 = 0
    · simp [a2]
    · rw [decide_eq_false a1, decide_eq_false a2, if_neg (by simp [a1, a2])]
      rw [show (false || false) = false from rfl, cond_false]
      by_cases b1 : ke y1 = 2
      · obtain ⟨r1, c1, -, c2, -⟩ := h.ke2 hy1 b1
        by_cases b2 : ke y2 = 2
        · obtain ⟨r2, e1, -, e2, -⟩ := h.ke2 hy2 b2
          rw [c1, e1]
          by_cases z : rs r2 = rs r1
          · simp [b1, b2, c2, e2, z]
          · have z2 : ¬ rs r1 = rs r2 := fun q => z q.symm
            simp [b1, b2, c2, e2, z, z2]
        · rw [c1, h.norow hy2 b2]
          simp [b2]
      · rw [h.norow hy1 b1]
        simp [b1]
theorem r_stcp {z1 z2 : Nat} {i j n : Int32} (h1 : z1 ≤ 100) (h2 : z2 ≤ 100) : (stB z1 i n && stB z2 j n) = cpK z1 z2 i j n := by
  unfold stB cpK
  cases hn : decide (n < 0)
  · cases hi : decide (i < 0)
    · cases hj : decide (j < 0)
      · simp only [Bool.not_false, Bool.true_and]
        have hle : ∀ {z : Nat} {i : Int32}, z ≤ 100 → decide (i < 0) = false → decide (n ≤ nI z - i) = true → decide (i ≤ nI z) = true := by
          intro z i hz hi hq
          have hn0 := of_decide_eq_false hn
          have hi0 := of_decide_eq_false hi
          have hq := of_decide_eq_true hq
          apply decide_eq_true
          rw [Int32.le_iff_toInt_le] at hq ⊢
          rw [Int32.lt_iff_toInt_lt] at hn0 hi0
          have e0 : (0 : Int32).toInt = 0 := by decide
          have ez := nI_toInt (show z < 2 ^ 31 by omega)
          obtain ⟨k, hk, rfl⟩ := nI_of (x := i) (fun q => hi0 (Int32.lt_iff_toInt_lt.mp q))
          rw [nI_toInt hk, ez]
          rcases Nat.lt_or_ge z k with q | q
          · exfalso
            have e1 : nI z - nI k < 0 := by
              rw [Int32.lt_iff_toInt_lt, Int32.toInt_sub, nI_toInt hk, ez, e0]
              rw [Int.bmod_eq_of_le (by omega) (by omega)]
              omega
            rw [Int32.lt_iff_toInt_lt] at e1
            omega
          · omega
        cases ha : decide (n ≤ nI z1 - i)
        · simp
        · rw [hle h1 hi ha]
          cases hb : decide (n ≤ nI z2 - j)
          · simp
          · rw [hle h2 hj hb]; try rfl
      · simp
    · simp
  · simp
end SHE
/-! what falls on both sides, a death -/
theorem fa_at {set i : Nat} {z : Int32} {bb : Nat → Int32} : ∀ n, faB set z n bb i = if i < n ∧ set.testBit i = true then z else bb i
  | 0 => by simp [faB]
  | n + 1 => by
    unfold faB
    cases h : set.testBit n
    · rw [cond_false, fa_at n]
      by_cases he : i = n
      · subst he; simp [h]
      · simp only [show (i < n + 1) = (i < n) from propext (by omega)]
    · rw [cond_true]
      by_cases he : i = n
      · subst he; rw [up_e]; simp [h]
      · rw [up_n he, fa_at n]
        simp only [show (i < n + 1) = (i < n) from propext (by omega)]
section DIE
variable {DL : List Nat} {kd fg : Nat → Nat} {n d t al day : Nat} {nd : Nat → Nat} {mk si : Nat → Int32} {kn : Nat → Nat} {mb : Nat → Option Nat} {bb oo : Nat → Int32} {K F : Nat → Nat}
theorem ru_geR {t n F : Nat} {nd : Nat → Nat} {i : Nat} (h : F.testBit i = true) : ∀ r, (ruR t nd n r F).testBit i = true
  | 0 => h
  | r + 1 => ru_ge n i (ru_geR h r)
theorem rs_die {f : Nat} (h : RS DL kd fg n d t mk si mb bb oo K F) : RS DL kd fg n d (sdf t f) mk si mb (faB f (-4) n bb) (faB f (-4) n oo) K F := by
  obtain ⟨r1, r2, r3, r4⟩ := h
  refine ⟨fun i hi => ?_, fun i hi hf => ?_, r3, r4⟩
  · rw [sdf_bit, Bool.and_eq_true, Bool.not_eq_true'] at hi
    rw [fa_at, fa_at, if_neg (fun q => by rw [hi.2] at q; exact absurd q.2 (by decide)), if_neg (fun q => by rw [hi.2] at q; exact absurd q.2 (by decide))]
    exact r1 i hi.1
  · rw [fa_at, fa_at]
    cases hfi : f.testBit i
    · rw [if_neg (by simp), if_neg (by simp)]
      rw [sdf_bit, hfi] at hf
      exact r2 i hi (by simpa using hf)
    · rw [if_pos ⟨hi, rfl⟩, if_pos ⟨hi, rfl⟩]
      exact ⟨rfl, rfl⟩
theorem ws_die {y : Nat} (hw : WS n d t al nd bb K F kn) : WS n d (sdf t (ruR t nd n 9 (orF (fun s9 => t.testBit s9 && decide (bb s9 = nI y)) n))) (sdf al (2 ^ y)) nd (faB (ruR t nd n 9 (orF (fun s9 => t.testBit s9 && decide (bb s9 = nI y)) n)) (-4) n bb) K F kn := by
  obtain ⟨w1, w2, w3, w4, w5, w6, w7, w8, w9, w10⟩ := hw
  refine ⟨w1, w2, sdf_lt w3, sdf_lt w4, w5, w6, w7, w8, w9, fun i hi => ?_⟩
  rw [sdf_bit, Bool.and_eq_true, Bool.not_eq_true'] at hi
  rw [fa_at, if_neg (fun q => by rw [hi.2] at q; exact absurd q.2 (by decide))]
  rcases w10 i hi.1 with q | ⟨j, h1, h2, h3⟩
  · exact Or.inl q
  · refine Or.inr ⟨j, h1, h2, ?_⟩
    rw [sdf_bit, h3, Nat.testBit_two_pow]
    by_cases he : y = j
    · exfalso
      subst he
      have hin : (orF (fun s9 => t.testBit s9 && decide (bb s9 = nI y)) n).testBit i = true := by rw [orF_bit, hi.1, h2]; simp [tb_lt w3 hi.1]
      have := ru_geR (t := t) (nd := nd) (n := n) hin 9
      rw [hi.2] at this
      cases this
    · simp [he]
end DIE
/-! told disputes, seeds, hiring: class against model -/
section TOLD
variable {DL : List Nat} {kd fg : Nat → Nat} {n d t al day : Nat} {nd : Nat → Nat} {mk si : Nat → Int32} {kn : Nat → Nat} {mb : Nat → Option Nat} {bb oo : Nat → Int32} {K F : Nat → Nat}
variable {RL : List Nat} {rs rz : Nat → Nat} {rf : Nat → Nat → Int32} {dm rm : Nat → Option Nat} {ke so zz : Nat → Nat} {el qk qf : Nat → Int32}
theorem r_run (h : RS DL kd fg n d t mk si mb bb oo K F) (hd : d ≤ 6) (hs : SH DL kd fg RL rs rz rf dm rm ke so zz el qk qf) (i w : Int32) : (if ¬ w = 0 ∧ ¬ w = 1 then -1 else on1 (oN i 8) (fun y => match rm y with | none => (bif (rm y).isNone && (dm y).isNone then -11 else -12) | some r => bif decide (rs r = 0) then (bif (decide (rz r % 2 = 0) && (decide (rz r ≤ 24) && adF (atR (rz r) (rf r)) d n (rz r / 2))) then (if w = 0 then nI (pcN (rnF al nd (kx kd mb) (kx fg mb) (atR (rz r) (rf r)) (day, t, kn) (rz r / 2)).2.1) else nI (rnM al nd (kx kd mb) (kx fg mb) (atR (rz r) (rf r)) (day, t, kn) (rz r / 2))) else -13) else -12) (-1)) = on1 (oN i 8) (fun y9 => bif okI w 2 then (if wrR ke so y9 = 0 then (bif (decide (zz y9 % 2 = 0) && (decide (zz y9 ≤ 24) && adF (fun i9 => el (100 * y9 + i9)) d n (zz y9 / 2))) then (if w = 0 then nI (pcN (rnF al nd K F (fun i9 => el (100 * y9 + i9)) (day, t, kn) (zz y9 / 2)).2.1) else nI (rnM al nd K F (fun i9 => el (100 * y9 + i9)) (day, t, kn) (zz y9 / 2))) else -13) else wrR ke so y9) else -1) (-1) := by
  by_cases hw : okI w 2 = true
  · have hw2 := hw
    rw [okI_2, Bool.or_eq_true, decide_eq_true_eq, decide_eq_true_eq] at hw2
    rw [if_neg (by rcases hw2 with q | q <;> simp [q]), hw]
    refine on1_cong (by decide) (fun y hy => ?_)
    rw [cond_true]
    by_cases hk : ke y = 2
    · obtain ⟨r, h1, h2, h3, h4, h5⟩ := hs.ke2 hy hk
      rw [h1]
      show (bif decide (rs r = 0) then _ else _) = _
      by_cases hso : rs r = 0
      · have hg : ∀ i, i < 2 * (rz r / 2) → atR (rz r) (rf r) i = (fun i9 => el (100 * y + i9)) i := fun i hi => by
          rw [atR, if_pos (by omega)]
          exact (h5 i (by omega)).symm
        rw [decide_eq_true hso, cond_true, if_pos (show wrR ke so y = 0 by unfold wrR; rw [if_neg (by omega), if_pos hk, if_pos (by rw [h3]; exact hso)]), h4, ad_c (rz r / 2) hg]
        by_cases had : adF (fun i9 => el (100 * y + i9)) d n (rz r / 2) = true
        · rw [(rn_g (rz r / 2) hg).1, (rn_g (rz r / 2) hg).2, (rn_c (fun j hj => h.kdq hj) (fun j hj => h.fgq hj) (by omega) _ had).1, (rn_c (fun j hj => h.kdq hj) (fun j hj => h.fgq hj) (by omega) _ had).2]
        · rw [Bool.not_eq_true] at had
          rw [had, Bool.and_false, Bool.and_false, cond_false, cond_false]
      · rw [decide_eq_false hso, cond_false]
        have e : wrR ke so y = -12 := by unfold wrR; rw [if_neg (by omega), if_pos hk, if_neg (by rw [h3]; exact hso)]
        rw [e, if_neg (by decide)]
    · rw [hs.norow hy hk]
      show (bif (none : Option Nat).isNone && (dm y).isNone then (-11 : Int32) else -12) = _
      have e := hs.why hy
      rw [hs.norow hy hk] at e
      rw [e]
      by_cases h0 : ke y = 0
      · have e : wrR ke so y = -11 := by unfold wrR; rw [if_pos h0]
        rw [e, if_neg (by decide), decide_eq_true h0]; try rfl
      · have e : wrR ke so y = -12 := by unfold wrR; rw [if_neg h0, if_neg hk]
        rw [e, if_neg (by decide), decide_eq_false h0]; try rfl
  · rw [Bool.not_eq_true] at hw
    have hw2 := hw
    rw [okI_2, Bool.or_eq_false_iff] at hw2
    rw [if_pos ⟨of_decide_eq_false hw2.1, of_decide_eq_false hw2.2⟩, hw]
    rcases okI_or i (n := 8) (by decide) with q | ⟨y, hy, rfl⟩
    · rw [oN_f q]; try rfl
    · rw [oN_t hy]; try rfl
theorem r_judge (h : RS DL kd fg n d t mk si mb bb oo K F) (hd : d ≤ 6) (hs : SH DL kd fg RL rs rz rf dm rm ke so zz el qk qf) (i : Int32) : on1 (oN i 8) (fun y => match rm y with | none => (bif (rm y).isNone && (dm y).isNone then -11 else -12) | some r => jdF al n d nd (kx kd mb) (kx fg mb) (atR (rz r) (rf r)) (rz r) 35 0 (day, t, kn)) (-1) = on1 (oN i 8) (fun y1 => if wrS ke y1 = 0 then jdF al n d nd K F (fun q9 => el (100 * y1 + q9)) (zz y1) 35 0 (day, t, kn) else wrS ke y1) (-1) := by
  refine on1_cong (by decide) (fun y hy => ?_)
  by_cases hk : ke y = 2
  · obtain ⟨r, h1, h2, h3, h4, h5⟩ := hs.ke2 hy hk
    rw [h1, if_pos (wS_2e hk)]
    show jdF al n d nd (kx kd mb) (kx fg mb) (atR (rz r) (rf r)) (rz r) 35 0 (day, t, kn) = _
    rw [h4, jd_c (fun j hj => h.kdq hj) (fun j hj => h.fgq hj) (by omega), jd_g (g' := fun q9 => el (100 * y + q9)) (fun i hi => by rw [atR, if_pos hi]; exact (h5 i hi).symm)]
  · rw [hs.norow hy hk]
    show (bif (none : Option Nat).isNone && (dm y).isNone then (-11 : Int32) else -12) = _
    have e := hs.why hy
    rw [hs.norow hy hk] at e
    rw [e]
    by_cases h0 : ke y = 0
    · have e : wrS ke y = -11 := wS_0e h0
      rw [e, if_neg (by decide), decide_eq_true h0]; try rfl
    · have e : wrS ke y = -12 := by unfold wrS; rw [if_neg h0, if_neg hk]
      rw [e, if_neg (by decide), decide_eq_false h0]; try rfl
theorem r_seed (h : RS DL kd fg n d t mk si mb bb oo K F) (i z : Int32) : on1 (sdO i) (fun k => bif decide (d < 1) || decide (n < 1) then -3 else nI (pcN (sdF_ al d n nd (kx kd mb) (kx fg mb) z (day, t, kn) k).2.1)) (-1) = on1 (sdO i) (fun k => bif decide (d < 1) || decide (n < 1) then -3 else nI (pcN (sdF_ al d n nd K F z (day, t, kn) k).2.1)) (-1) := by
  cases sdO i with
  | none => rw [on1_n, on1_n]
  | some k =>
    rw [on1_s, on1_s]
    by_cases hd : d < 1
    · simp [hd]
    · rw [sd_c (fun j hj => h.kdq hj) (fun j hj => h.fgq hj) (by omega)]
theorem hb_some {E : Nat → Nat} (k : Nat) : ∃ v, hbV E (k + 1) = some v := by
  unfold hbV
  cases hbV E k with
  | none => exact ⟨_, rfl⟩
  | some m =>
    try dsimp only
    cases decide (m < E k)
    · exact ⟨_, rfl⟩
    · exact ⟨_, rfl⟩
theorem r_hire (h : RS DL kd fg n d t mk si mb bb oo K F) (hw : WS n d t al nd bb K F kn) (f9 w : Int32) : on1 (oN f9 10) (fun f1 => (if w = 0 then nI (hbK (fun kv => pcN (raR (cnL kv f1 0 6 nd n (lkI n al nd kn mb kd fg 6)) (fun _ => 0) 9 t)) 8) else if w = 1 then oM (hbV (fun kv => pcN (raR (cnL kv f1 0 6 nd n (lkI n al nd kn mb kd fg 6)) (fun _ => 0) 9 t)) 8) else -1)) (-1) = (bif okI f9 10 && okI w 2 then (if w = 0 then oI (hiB (fun kv => pcN (evN n (al ||| 2 ^ d) (d + 1) nd (va_up K d kv) (va_up F d (nT f9)) (va_up kn d 0) 512 t)) 8) else oI (hiV (fun kv => pcN (evN n (al ||| 2 ^ d) (d + 1) nd (va_up K d kv) (va_up F d (nT f9)) (va_up kn d 0) 512 t)) 8)) else -1) := by
  rcases okI_or f9 (n := 10) (by decide) with q | ⟨f1, hf, rfl⟩
  · rw [oN_f q, q]; try rfl
  · rw [oN_t hf, on1_s, okI_nI (by omega) (by decide), decide_eq_true hf, Bool.true_and, nT_nI (by omega), hi_V, hi_B 8 (by decide)]
    obtain ⟨e1, e2⟩ := hb_cong (E := fun kv => pcN (raR (cnL kv f1 0 6 nd n (lkI n al nd kn mb kd fg 6)) (fun _ => 0) 9 t)) (E' := fun kv => pcN (evN n (al ||| 2 ^ d) (d + 1) nd (va_up K d kv) (va_up F d f1) (va_up kn d 0) 512 t)) 8 (fun j _ => by (try dsimp only); rw [q_guest h hw j f1])
    rw [e1, e2, okI_2]
    obtain ⟨v, hv⟩ := hb_some (E := fun kv => pcN (evN n (al ||| 2 ^ d) (d + 1) nd (va_up K d kv) (va_up F d f1) (va_up kn d 0) 512 t)) 7
    rw [hv]
    by_cases h0 : w = 0
    · simp [h0, oI]
    · by_cases h1 : w = 1
      · simp [h1, oI, oM]
      · simp [h0, h1]
theorem r_once (h : RS DL kd fg n d t mk si mb bb oo K F) (hn : n ≤ 9) (hd : d ≤ 6) (w : Int32) : (if w = 0 then nI (tgM (tgL n al t day kn nd mb kd fg 6) 512).1 else if w = 1 then nI (tgM (tgL n al t day kn nd mb kd fg 6) 512).2 else -1) = (bif okI w 2 then (if w = 0 then nI (tgM (pmD n t al nd K F kn (day % 2 != 0) d) (2 ^ n)).1 else nI (tgM (pmD n t al nd K F kn (day % 2 != 0) d) (2 ^ n)).2) else -1) := by
  rw [q_once h hn hd, okI_2]
  by_cases h0 : w = 0
  · simp [h0]
  · by_cases h1 : w = 1
    · simp [h1]
    · simp [h0, h1]
theorem r_deny (h : RS DL kd fg n d t mk si mb bb oo K F) (hn : n ≤ 9) (hd : d ≤ 6) (i j : Int32) : on2 (oN i d) (oN j n) (fun y v => bif alB n al t kn nd mb kd fg y v then bI (wsB day t kn nd mb kd y v) else -3) (-1) = on2 (oN i d) (oN j n) (fun y v => bif mnB t al nd K F kn y v then bI (siB (K y) t (kn y) (nd v) (day % 2 != 0)) else -3) (-1) := on2_cong (by omega) (by omega) (fun y v hy hv => by
  obtain ⟨a, h1, -⟩ := h.2.2.1 y hy
  rw [q_al h hd hy hv, wsB_si h1, h.kdq hy])
theorem dn_cong {f g : Nat → Nat → Bool} (hn : n ≤ 9) (hd : d ≤ 6) {i j : Int32} (e : ∀ y v, y < d → v < n → f y v = g y v) : dnC n d f i j = dnC n d g i j := on2_cong (by omega) (by omega) e
theorem r_fbe (h : SH DL kd fg RL rs rz rf dm rm ke so zz el qk qf) {y r : Nat} (hy : y < 8) (hr : rm y = some r) : TX (atR (rz r) (rf r)) (hrG el (100 * y) (zz y)) (rz r) ∧ zz y = rz r := by
  obtain ⟨-, -, -, h4, h5⟩ := h.row hy hr
  rw [h4]
  exact ⟨tx_of h5, rfl⟩
end TOLD
