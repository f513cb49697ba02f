/-! loops that make things, or carry a fact of the heap -/
section HOX
variable {p : Program} {l : Launch} {e : Env} {R : Room} {s : State} {m : MethodId} {args : Array Value} {below : List Frame} {meth : Method} {c : Code} {H : Heap} {locs : List Loc} {Q : State → Prop} {pc : Nat}
theorem ho_lpX {D : va_G} {cl : List vw_C} {A : Nat → Prop} {H0 : Heap} {T : Type} (nL : Nat) (w : T → va_W) (lv : T → List (Nat × Value)) (stk : T → List Value) (I : T → Prop) (μ : T → Nat) (ex : T → Heap → Prop) (ce sl : T → Nat) (x0 : T) {ls : Array Slot} (h0 : I x0) (hl : lv_has ls nL (lv x0)) (hP : va_P D cl (w x0) H) (hD : va_D A (w x0)) (hS : va_S A H0 H locs) (hE : ex x0 H)
    (step : ∀ (n : Nat) (x : T) (H : Heap) (locs : List Loc) (ls : Array Slot), I x → μ x < n + 1 → va_P D cl (w x) H → va_D A (w x) → va_S A H0 H locs → ex x H → lv_has ls nL (lv x) → (∀ (x' : T) (H' : Heap) (locs' : List Loc) (ls' : Array Slot), I x' → μ x' < n → va_P D cl (w x') H' → va_D A (w x') → va_S A H0 H' locs' → ex x' H' → lv_has ls' nL (lv x') → W p l e R s m args below meth c H' locs' (ce x') (sl x') Q (F0 m pc ls' (stk x'))) → W p l e R s m args below meth c H locs (ce x) (sl x) Q (F0 m pc ls (stk x))) : W p l e R s m args below meth c H locs (ce x0) (sl x0) Q (F0 m pc ls (stk x0)) := by
  have key : ∀ (n : Nat) (x : T) (H : Heap) (locs : List Loc) (ls : Array Slot), I x → μ x < n → va_P D cl (w x) H → va_D A (w x) → va_S A H0 H locs → ex x H → lv_has ls nL (lv x) → W p l e R s m args below meth c H locs (ce x) (sl x) Q (F0 m pc ls (stk x)) := by
    intro n
    induction n with
    | zero => intro x H locs ls _ h; exact absurd h (Nat.not_lt_zero _)
    | succ n ih => intro x H locs ls hI hm hP hD hS hE hl; exact step n x H locs ls hI hm hP hD hS hE hl (fun x' H' locs' ls' a b c d e f g => ih x' H' locs' ls' a b c d e f g)
  exact key (μ x0 + 1) x0 H locs ls h0 (Nat.lt_succ_self _) hP hD hS hE hl
end HOX
/-- one denier more, at a new place -/
theorem DP.more {dC : Nat → ClassId} {dI : Nat → Nat → Nat} {DL : List Nat} {kd fg : Nat → Nat} {H : Heap} {a k f : Nat} (h : DP dC dI DL kd fg H) (hn : a ∉ DL) (hP : va_P (dC, dI) vwCl [(a, dnE k f)] H) (hk : k < 8) (hf : f < 10) : DP dC dI (a :: DL) (va_up kd a k) (va_up fg a f) H := fun q hq => by
  rcases List.mem_cons.mp hq with rfl | hq
  · rw [va_up_self, va_up_self]
    exact ⟨hP, hk, hf⟩
  · have hne : q ≠ a := fun z => hn (z ▸ hq)
    rw [va_up_ne _ _ hne, va_up_ne _ _ hne]
    exact h q hq
theorem DP.lt {dC : Nat → ClassId} {dI : Nat → Nat → Nat} {DL : List Nat} {kd fg : Nat → Nat} {H : Heap} (h : DP dC dI DL kd fg H) {a : Nat} (ha : a ∈ DL) : a < H.size := ((h a ha).1 0 _ rfl).lt
/-- a world's last thing lies apart from the deniers that were there -/
theorem fr_no {dC : Nat → ClassId} {dI : Nat → Nat → Nat} {DL : List Nat} {kd fg : Nat → Nat} {H : Heap} {a : Nat} {e : va_E} (h : DP dC dI DL kd fg H) (hD : va_D (va_A [] H.size) [(a, e)]) : a ∉ DL := fun q => by
  have h1 := h.lt q
  rcases hD.2 0 (a, e) rfl with ⟨k, z, hz⟩ | hz
  · cases hz
  · exact absurd hz (Nat.not_le.mpr h1)
theorem fr_ge {H : Heap} {a : Nat} {e : va_E} (hD : va_D (va_A [] H.size) [(a, e)]) : H.size ≤ a := by
  rcases hD.2 0 (a, e) rfl with ⟨k, z, hz⟩ | hz
  · cases hz
  · exact hz
theorem ho_stk {p : Program} {l : Launch} {e : Env} {R : Room} {s : State} {m : MethodId} {args : Array Value} {below : List Frame} {meth : Method} {c : Code} {H : Heap} {locs : List Loc} {cells cells2 slots slots2 : Nat} {Q : State → Prop} {g : JFrame} (h1 : cells = cells2) (h2 : slots = slots2) (k : W p l e R s m args below meth c H locs cells2 slots2 Q g) : W p l e R s m args below meth c H locs cells slots Q g := by rw [h1, h2]; exact k
/-- another of the class' kinds: the best by their number of sentences -/
def hbV (E : Nat → Nat) : Nat → Option Nat
  | 0 => none
  | k + 1 => match hbV E k with
    | none => some (E k)
    | some m => bif decide (m < E k) then some (E k) else some m
def hbK (E : Nat → Nat) : Nat → Nat
  | 0 => 0
  | k + 1 => match hbV E k with
    | none => k
    | some m => bif decide (m < E k) then k else hbK E k
section HB
variable {E : Nat → Nat} {k m : Nat}
theorem hbV_0 (h : hbV E k = none) : some (E k) = hbV E (k + 1) := by simp only [hbV, h]
theorem hbV_t (h : hbV E k = some m) (h2 : m < E k) : some (E k) = hbV E (k + 1) := by simp only [hbV, h, decide_eq_true h2, cond_true]
theorem hbV_f (h : hbV E k = some m) (h2 : E k ≤ m) : some m = hbV E (k + 1) := by simp only [hbV, h, decide_eq_false (Nat.not_lt.mpr h2), cond_false]
theorem hbK_0 (h : hbV E k = none) : k = hbK E (k + 1) := by simp only [hbK, h]
theorem hbK_t (h : hbV E k = some m) (h2 : m < E k) : k = hbK E (k + 1) := by simp only [hbK, h, decide_eq_true h2, cond_true]
theorem hbK_f (h : hbV E k = some m) (h2 : E k ≤ m) : hbK E k = hbK E (k + 1) := by simp only [hbK, h, decide_eq_false (Nat.not_lt.mpr h2), cond_false]
theorem hbV_le (hE : ∀ k, E k ≤ 10) : ∀ k m, hbV E k = some m → m ≤ 10
  | 0, m, h => by cases h
  | k + 1, m, h => by
    have ih := hbV_le hE k
    unfold hbV at h
    cases hv : hbV E k with
    | none => simp only [hv] at h; cases h; exact hE k
    | some w =>
      simp only [hv] at h
      cases hd : decide (w < E k)
      · rw [hd] at h; cases h; exact ih _ hv
      · rw [hd] at h; cases h; exact hE k
theorem hbK_le : ∀ k, hbK E k ≤ k
  | 0 => Nat.le_refl 0
  | k + 1 => by
    have ih := hbK_le k
    unfold hbK
    split
    · omega
    · cases decide (_ < E k) <;> simp <;> omega
end HB
/-- the guest's chances, added -/
def gsL (n : Nat) (nd : Nat → Nat) (lk : Nat → Option Nat) (k f : Nat) : Nat → Option Nat := cnL k f 0 6 nd n lk
def gsE (n : Nat) (nd : Nat → Nat) (ef : Nat → Nat) (k f : Nat) : Nat → Nat := cnE k f 0 6 nd n ef
theorem lkI_cong {n al : Nat} {nd kn : Nat → Nat} {mb : Nat → Option Nat} {kd fg kd2 fg2 : Nat → Nat} (h : ∀ j a, mb j = some a → kd2 a = kd a ∧ fg2 a = fg a) : ∀ i, lkI n al nd kn mb kd2 fg2 i = lkI n al nd kn mb kd fg i
  | 0 => rfl
  | i + 1 => by
    have ih := lkI_cong (n := n) (al := al) (nd := nd) (kn := kn) h i
    unfold lkI
    rw [ih]
    cases hm : mb i with
    | none => rfl
    | some a => simp only [(h i a hm).1, (h i a hm).2]
theorem efI_cong {n al : Nat} {nd kn : Nat → Nat} {mb : Nat → Option Nat} {kd fg kd2 fg2 : Nat → Nat} {ef : Nat → Nat} (h : ∀ j a, mb j = some a → kd2 a = kd a ∧ fg2 a = fg a) : ∀ i, efI n al nd kn mb kd2 fg2 ef i = efI n al nd kn mb kd fg ef i
  | 0 => rfl
  | i + 1 => by
    have ih := efI_cong (n := n) (al := al) (nd := nd) (kn := kn) (ef := ef) h i
    unfold efI
    rw [ih]
    cases hm : mb i with
    | none => rfl
    | some a => simp only [(h i a hm).1, (h i a hm).2]
theorem up_old {DL : List Nat} {mb : Nat → Option Nat} {kd : Nat → Nat} {q k : Nat} (hq : q ∉ DL) (h : ∀ j a, mb j = some a → a ∈ DL) : ∀ j a, mb j = some a → va_up kd q k a = kd a := fun j a hj => va_up_ne _ _ (fun z => hq (z ▸ h j a hj))
theorem gro_cons {D : va_G} {cl : List vw_C} {A : Nat → Prop} {DL : List Nat} {ws wc : va_W} {q : Nat} {e : va_E} {H : Heap} (hD : va_D A (ws ++ [(q, e)])) (hP : va_P D cl (ws ++ [(q, e)]) H) (isC : List Nat) (hC : isC.map (fun i => ws[i]?) = wc.map some) (h : ∀ a ∈ DL, ¬ va_A wc H.size a) : ∀ a ∈ q :: DL, ¬ va_A wc H.size a := fun a ha => by
  rcases List.mem_cons.mp ha with rfl | ha
  · have hq : (ws ++ [(a, e)])[ws.length]? = some (a, e) := by simp
    rintro (⟨k, z, hk⟩ | hz)
    · have h1 : (isC.map (fun i => ws[i]?))[k]? = some (some (a, z)) := by rw [hC, List.getElem?_map, hk]; rfl
      rw [List.getElem?_map] at h1
      cases hi : isC[k]? with
      | none => rw [hi] at h1; cases h1
      | some i =>
        rw [hi] at h1
        have h2 : ws[i]? = some (a, z) := Option.some.inj h1
        have h3 := (List.getElem?_eq_some_iff.mp h2).1
        have h4 := hD.1 i ws.length (a, z) (a, e) (by rw [List.getElem?_append_left h3]; exact h2) hq rfl
        omega
    · exact absurd ((hP ws.length _ hq).lt) (Nat.not_lt.mpr hz)
  · exact h a ha
/-- what reaches depends on what lacks alone -/
theorem mt_s (o : Option Nat) (e : Nat) : (match o with | none => some e | some v => bif decide (e < v) then some e else some v).isSome = true := by
  cases o with
  | none => rfl
  | some v =>
    dsimp only
    cases decide (e < v) <;> rfl
theorem chF_ef {lk : Nat → Option Nat} {ef ef2 : Nat → Nat} {t s : Nat} : ∀ k, (chF lk ef t s k).isSome = (chF lk ef2 t s k).isSome
  | 0 => rfl
  | k + 1 => by
    have ih := chF_ef (lk := lk) (ef := ef) (ef2 := ef2) (t := t) (s := s) k
    unfold chF
    cases lk (s + 9 * k) with
    | none => exact ih
    | some L =>
      dsimp only
      cases (sdf L t == 0)
      · exact ih
      · simp only [cond_true]
        exact (mt_s _ _).trans (mt_s _ _).symm
theorem chE_ef {lk : Nat → Option Nat} {ef ef2 : Nat → Nat} {t s : Nat} : (chE lk ef t s).isSome = (chE lk ef2 t s).isSome := by
  unfold chE
  cases t.testBit s
  · exact chF_ef 7
  · rfl
theorem raI_ef {lk : Nat → Option Nat} {ef ef2 : Nat → Nat} {t : Nat} : ∀ s, raI lk ef s t = raI lk ef2 s t
  | 0 => rfl
  | s + 1 => by
    have ih := raI_ef (lk := lk) (ef := ef) (ef2 := ef2) (t := t) s
    unfold raI
    rw [ih]
    have h := chE_ef (lk := lk) (ef := ef) (ef2 := ef2) (t := raI lk ef2 s t) (s := s)
    cases h1 : chE lk ef (raI lk ef2 s t) s <;> cases h2 : chE lk ef2 (raI lk ef2 s t) s <;> simp_all
theorem raR_ef {lk : Nat → Option Nat} {ef ef2 : Nat → Nat} {t : Nat} : ∀ r, raR lk ef r t = raR lk ef2 r t
  | 0 => rfl
  | r + 1 => by
    show raI lk ef 9 (raR lk ef r t) = raI lk ef2 9 (raR lk ef2 r t)
    rw [raR_ef r, raI_ef 9]
section HOCP
variable {p : Program} {l : Launch} {e : Env} {R : Room} {s : State} {m : MethodId} {args : Array Value} {below : List Frame} {meth : Method} {c : Code} {H : Heap} {locs : List Loc} {cells slots : Nat} {Q : State → Prop} {cc : ByteArray} {pc : Nat} {ls : Array Slot} {rest : List Value} {D : va_G} {cl : List vw_C} {tys : List (ClassId × FieldType)} {ws : va_W} {a : Nat} {A : Nat → Prop} {H0 : Heap}
theorem ho_cpyi (hexec : p.tables.exec = Jvm.exec) (hb : c.code = cc) (hml : c.maxLocals = ls.size) {own : String} {index : Nat} (hown : s.vm.findClass own = some m.cls) (hlink : (Cond.methodLink own index arraycopyName).before args s = true) (hnat : (Cond.native arraycopyName).before args s = true) (hstat : (Cond.static arraycopyName).before args s = true) (hini : (Cond.initialized "java/lang/System").before args s = true)
    (hK : va_K D cl tys s) (hP : va_P D cl ws H) (hD : va_D A ws) (hS : va_S A H0 H locs) (q0 q1 t0 : Nat) {a0 k0 k1 : Nat} {c0 : ClassId} {f g : Nat → Int32} (ha0 : ws[q0]? = some (a0, .inl (c0, k0, .inl f))) (ha1 : ws[q1]? = some (a, .inl (c0, k1, .inl g))) (ht0 : tys[t0]? = some (c0, .int)) {i j n : Nat} (h4 : i + n ≤ k0) (h5 : j + n ≤ k1) (hk0 : k0 < 2 ^ 31) (hk1 : k1 < 2 ^ 31)
    (hframes : 1 ≤ R.frames) (hlocals : (rest.map fun v => v.category).sum + (nativeFrameWords "java/lang/System" "arraycopy" 5 + 11) ≤ R.locals) (hdg : decode cc pc = .ok (.invokestatic index, 3))
    (kk : ∀ (H1 : Heap) (locs1 : List Loc), va_P D cl (ws.set q1 (a, .inl (c0, k1, .inl (va_cpy f g i j n)))) H1 → va_D A (ws.set q1 (a, .inl (c0, k1, .inl (va_cpy f g i j n)))) → va_S A H0 H1 locs1 → W p l e R s m args below meth c H1 locs1 cells slots Q (F0 m (pc + 3) ls rest)) : W p l e R s m args below meth c H locs cells slots Q (F0 m pc ls (.int (nI n) :: .int (nI j) :: .ref a :: .int (nI i) :: .ref a0 :: rest)) := by
  have ei : (nI i).toNatClampNeg = i := nI_clamp (by omega)
  have ej : (nI j).toNatClampNeg = j := nI_clamp (by omega)
  have en : (nI n).toNatClampNeg = n := nI_clamp (by omega)
  refine va_copyi hexec hb hml hown hlink hnat hstat hini hK hP hD hS q0 q1 t0 t0 ha0 ha1 ht0 ht0 rfl (nI_pos (by omega)) (nI_pos (by omega)) (nI_pos (by omega)) (by rw [ei, en]; exact h4) (by rw [ej, en]; exact h5) (fun _ _ => rfl) hframes hlocals hdg (fun H1 locs1 hP1 hD1 hS1 => ?_)
  rw [ei, ej, en] at hP1 hD1
  exact kk H1 locs1 hP1 hD1 hS1
end HOCP
theorem DP.one {dC : Nat → ClassId} {dI : Nat → Nat → Nat} {H : Heap} {a k f : Nat} (hP : va_P (dC, dI) vwCl [(a, dnE k f)] H) (hk : k < 8) (hf : f < 10) : DP dC dI [a] (fun _ => k) (fun _ => f) H := fun q hq => by
  cases List.mem_singleton.mp hq
  exact ⟨hP, hk, hf⟩
theorem le9_ok {x : Int32} {n : Nat} (h1 : ¬ x < 0) (h2 : x < nI n) : okI x n = true := okI_of h1 h2
def keepB (w k f : Int32) : Bool := decide (w = 0) || (decide (w = 1) && (okI k 8 && okI f 10))
def rowB (o z : Int32) : Bool := okI o 3 && !decide (nI 100 < z)
theorem stB_t {z i n : Nat} (h : i + n ≤ z) (hz : z < 2 ^ 31) : stB z (nI i) (nI n) = true := by
  have h1 : ¬ nI n < 0 := nI_pos (by omega)
  have h2 : ¬ nI i < 0 := nI_pos (by omega)
  have h3 : nI i ≤ nI z := nI_le (by omega) hz
  have h4 : nI n ≤ nI z - nI i := by
    rw [nI_sub (by omega)]
    exact nI_le (by omega) (by omega)
  simp [stB, h1, h2, h3, h4]
theorem dg_1 {x : Int32} (h : x < nI 48) : dgO x = none := by
  unfold dgO
  rw [if_neg]
  rintro ⟨q, -⟩
  exact absurd h (Int32.not_lt.mpr q)
theorem dg_2 {x : Int32} (h : nI 57 < x) : dgO x = none := by
  unfold dgO
  rw [if_neg]
  rintro ⟨-, q⟩
  exact absurd h (Int32.not_lt.mpr q)
theorem dg_3 {x : Int32} (h : ¬ x < nI 48) (h2 : ¬ nI 57 < x) : x - nI 48 = oM (dgO x) := by
  have h1 : 48 ≤ x := Int32.not_lt.mp h
  have h3 : x ≤ 57 := Int32.not_lt.mp h2
  unfold dgO
  rw [if_pos ⟨h1, h3⟩]
  have h4 : (48 : Int32).toInt ≤ x.toInt := Int32.le_iff_toInt_le.mp h1
  have e1 : (48 : Int32).toInt = 48 := by decide
  have e0 : (0 : Int32).toInt = 0 := by decide
  obtain ⟨j, hj, rfl⟩ := nI_of (x := x) (fun q => by have := Int32.lt_iff_toInt_lt.mp q; omega)
  rw [nI_toInt hj, e1] at h4
  have h7 : nI j - nI 48 = nI (j - 48) := nI_sub (by omega)
  show nI j - nI 48 = nI (nI j - 48).toNatClampNeg
  rw [show nI j - 48 = nI j - nI 48 from rfl, h7, nI_clamp (by omega)]
theorem db_n {x : Int32} (h0 : ¬ x = 100) (h1 : ¬ x = 107) (h2 : ¬ x = 110) (h3 : ¬ x = 115) (h4 : ¬ x = 116) (h5 : ¬ x = 120) : dbO x = none := by
  unfold dbO
  rw [if_neg h3, if_neg h4, if_neg]
  rintro (q | q | q | q)
  · exact h2 q
  · exact h0 q
  · exact h1 q
  · exact h5 q
theorem db_in {x : Int32} {v : Nat} (h : dbO x = some v) : x = 100 ∨ x = 107 ∨ x = 110 ∨ x = 115 ∨ x = 116 ∨ x = 120 := by
  by_cases h0 : x = 100
  · exact Or.inl h0
  by_cases h1 : x = 107
  · exact Or.inr (Or.inl h1)
  by_cases h2 : x = 110
  · exact Or.inr (Or.inr (Or.inl h2))
  by_cases h3 : x = 115
  · exact Or.inr (Or.inr (Or.inr (Or.inl h3)))
  by_cases h4 : x = 116
  · exact Or.inr (Or.inr (Or.inr (Or.inr (Or.inl h4))))
  by_cases h5 : x = 120
  · exact Or.inr (Or.inr (Or.inr (Or.inr (Or.inr h5))))
  rw [db_n h0 h1 h2 h3 h4 h5] at h
  cases h
section OKS
variable {g : Nat → Int32} {p v i : Nat}
theorem ok_n (h : dbO (g p) = none) : stOk g p = false ∧ stBad g p = p := by simp [stOk, stBad, h]
theorem dgC_j {g : Nat → Int32} {p i v : Nat} (h : dgC g p i = i) (h2 : dgO (g (p + i)) = none) (hi : i < v) : dgC g p v = i := by
  have h3 := dgC_no h (by rw [h2]; rfl) (v - (i + 1))
  rw [show i + 1 + (v - (i + 1)) = v by omega] at h3
  exact h3
theorem ok_d (h : dbO (g p) = some v) (h2 : dgC g (p + 1) i = i) (h3 : dgO (g (p + 1 + i)) = none) (hi : i < v) : stOk g p = false ∧ stBad g p = p + 1 + i := by
  have h4 := dgC_j h2 h3 hi
  have hk : stK g p = v := by simp [stK, h]
  simp only [stOk, stBad, h, hk, h4]
  refine ⟨?_, rfl⟩
  rw [decide_eq_false (show ¬ i = v by omega)]
  rfl
theorem ok_s (h : dbO (g p) = some v) (h2 : dgC g (p + 1) v = v) (h3 : ¬ g (p + 1 + v) = 59) : stOk g p = false ∧ stBad g p = p + 1 + v := by
  have hk : stK g p = v := by simp [stK, h]
  simp only [stOk, stBad, h, hk, h2]
  refine ⟨?_, rfl⟩
  rw [decide_eq_false h3]
  simp
theorem ok_y (h : dbO (g p) = some v) (h2 : dgC g (p + 1) v = v) (h3 : g (p + 1 + v) = 59) : stOk g p = true ∧ stK g p = v := by
  have hk : stK g p = v := by simp [stK, h]
  simp only [stOk, h, hk, h2, h3]
  exact ⟨rfl, trivial⟩
theorem ok_of (h : stOk g p = true) : ∃ v, dbO (g p) = some v ∧ stK g p = v ∧ dgC g (p + 1) v = v ∧ g (p + 1 + v) = 59 := by
  unfold stOk at h
  simp only [Bool.and_eq_true, decide_eq_true_eq] at h
  obtain ⟨h1, h2, h3⟩ := h
  obtain ⟨v, hv⟩ := Option.isSome_iff_exists.mp h1
  have hk : stK g p = v := by simp [stK, hv]
  rw [hk] at h2 h3
  exact ⟨v, hv, hk, h2, h3⟩
end OKS
theorem alB_lt {n al t x s : Nat} {kn nd : Nat → Nat} {mb : Nat → Option Nat} {kd fg : Nat → Nat} (h : alB n al t kn nd mb kd fg x s = true) : x < 6 ∧ s < n := by
  unfold alB at h
  cases hm : mbW mb x with
  | none => rw [hm] at h; cases h
  | some a =>
    rw [hm] at h
    simp only [Bool.and_eq_true, decide_eq_true_eq] at h
    exact ⟨(mbW_some hm).1, h.1.2⟩
