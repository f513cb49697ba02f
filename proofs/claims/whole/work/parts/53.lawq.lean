/-! shelves, deniers and rows: how they grow -/
section GROW
variable {dC : Nat → ClassId} {dI : Nat → Nat → Nat} {cI : ClassId} {ad : Nat → Nat} {s0 : Nat} {DL RL : List Nat} {kd fg kd2 fg2 : Nat → Nat} {rc rs rz : Nat → Nat} {rf : Nat → Nat → Int32} {dm rm : Nat → Option Nat} {ke so zz : Nat → Nat} {el qk qf : Nat → Int32} {H : Heap}
theorem rs_dl {DL2 : List Nat} {n d t : Nat} {mk si : Nat → Int32} {mb : Nat → Option Nat} {bb oo : Nat → Int32} {K F : Nat → Nat} (h : RS DL kd fg n d t mk si mb bb oo K F) (e : ∀ a ∈ DL, a ∈ DL2 ∧ kd2 a = kd a ∧ fg2 a = fg a) : RS DL2 kd2 fg2 n d t mk si mb bb oo K F := by
  obtain ⟨r1, r2, r3, r4⟩ := h
  refine ⟨r1, r2, fun j hj => ?_, r4⟩
  obtain ⟨a, h1, h2, h3, h4⟩ := r3 j hj
  obtain ⟨e1, e2, e3⟩ := e a h2
  exact ⟨a, h1, e1, e2.trans h3, e3.trans h4⟩
theorem sh_dl {DL2 : List Nat} (h : SH DL kd fg RL rs rz rf dm rm ke so zz el qk qf) (e : ∀ a ∈ DL, a ∈ DL2 ∧ kd2 a = kd a ∧ fg2 a = fg a) : SH DL2 kd2 fg2 RL rs rz rf dm rm ke so zz el qk qf := by
  obtain ⟨h1, h2, h3, h4⟩ := h
  refine ⟨fun y a hy => (e a (h1 y a hy)).1, h2, h3, fun y hy => ?_⟩
  rcases h4 y hy with g | ⟨g1, g2, a, g3, g4, g5⟩ | g
  · exact Or.inl g
  · obtain ⟨-, e2, e3⟩ := e a (h1 y a g3)
    exact Or.inr (Or.inl ⟨g1, g2, a, g3, by rw [e2]; exact g4, by rw [e3]; exact g5⟩)
  · exact Or.inr (Or.inr g)
theorem dl_cons {q k f : Nat} (hq : q ∉ DL) : ∀ a ∈ DL, a ∈ q :: DL ∧ va_up kd q k a = kd a ∧ va_up fg q f a = fg a := fun a ha => by
  have hne : a ≠ q := fun z => hq (z ▸ ha)
  exact ⟨List.mem_cons_of_mem _ ha, va_up_ne _ _ hne, va_up_ne _ _ hne⟩
theorem sh_0 {y : Nat} {k9 f9 : Int32} (h : SH DL kd fg RL rs rz rf dm rm ke so zz el qk qf) : SH DL kd fg RL rs rz rf (va_up dm y none) (va_up rm y none) (va_up ke y 0) so zz el (upd qk y k9) (upd qf y f9) := by
  obtain ⟨h1, h2, h3, h4⟩ := h
  refine ⟨fun j a hj => ?_, fun j r hj => ?_, fun j1 j2 r a1 a2 => ?_, fun j hj => ?_⟩
  · by_cases he : j = y
    · subst he; rw [va_up_self] at hj; cases hj
    · rw [va_up_ne _ _ he] at hj; exact h1 j a hj
  · by_cases he : j = y
    · subst he; rw [va_up_self] at hj; cases hj
    · rw [va_up_ne _ _ he] at hj; exact h2 j r hj
  · by_cases e1 : j1 = y
    · subst e1; rw [va_up_self] at a1; cases a1
    · by_cases e2 : j2 = y
      · subst e2; rw [va_up_self] at a2; cases a2
      · rw [va_up_ne _ _ e1] at a1; rw [va_up_ne _ _ e2] at a2; exact h3 j1 j2 r a1 a2
  · by_cases he : j = y
    · subst he; exact Or.inl ⟨va_up_self _ _ _, va_up_self _ _ _, va_up_self _ _ _⟩
    · rw [va_up_ne _ _ he, va_up_ne _ _ he, va_up_ne _ _ he, up_n he, up_n he]; exact h4 j hj
theorem sh_1 {y q : Nat} {k9 f9 : Int32} (h : SH DL kd fg RL rs rz rf dm rm ke so zz el qk qf) (hq : q ∈ DL) (hk : k9 = nI (kd q)) (hf : f9 = nI (fg q)) : SH DL kd fg RL rs rz rf (va_up dm y (some q)) (va_up rm y none) (va_up ke y 1) so zz el (upd qk y k9) (upd qf y f9) := by
  obtain ⟨h1, h2, h3, h4⟩ := h
  refine ⟨fun j a hj => ?_, fun j r hj => ?_, fun j1 j2 r a1 a2 => ?_, fun j hj => ?_⟩
  · by_cases he : j = y
    · subst he; rw [va_up_self] at hj; cases hj; exact hq
    · rw [va_up_ne _ _ he] at hj; exact h1 j a hj
  · by_cases he : j = y
    · subst he; rw [va_up_self] at hj; cases hj
    · rw [va_up_ne _ _ he] at hj; exact h2 j r hj
  · by_cases e1 : j1 = y
    · subst e1; rw [va_up_self] at a1; cases a1
    · by_cases e2 : j2 = y
      · subst e2; rw [va_up_self] at a2; cases a2
      · rw [va_up_ne _ _ e1] at a1; rw [va_up_ne _ _ e2] at a2; exact h3 j1 j2 r a1 a2
  · by_cases he : j = y
    · subst he; exact Or.inr (Or.inl ⟨va_up_self _ _ _, va_up_self _ _ _, q, va_up_self _ _ _, by rw [up_e]; exact hk, by rw [up_e]; exact hf⟩)
    · rw [va_up_ne _ _ he, va_up_ne _ _ he, va_up_ne _ _ he, up_n he, up_n he]; exact h4 j hj
theorem sh_2 {y q v z : Nat} (h : SH DL kd fg RL rs rz rf dm rm ke so zz el qk qf) (hq : q ∉ RL) (hz : z ≤ 100) (hrz : ∀ r ∈ RL, rz r ≤ 100) : SH DL kd fg (q :: RL) (va_up rs q v) (va_up rz q z) (va_up rf q (fun _ => 0)) (va_up dm y none) (va_up rm y (some q)) (va_up ke y 2) (va_up so y v) (va_up zz y z) (czE el y 100) qk qf := by
  obtain ⟨h1, h2, h3, h4⟩ := h
  refine ⟨fun j a hj => ?_, fun j r hj => ?_, fun j1 j2 r a1 a2 => ?_, fun j hj => ?_⟩
  · by_cases he : j = y
    · subst he; rw [va_up_self] at hj; cases hj
    · rw [va_up_ne _ _ he] at hj; exact h1 j a hj
  · by_cases he : j = y
    · subst he; rw [va_up_self] at hj; cases hj; exact List.mem_cons_self
    · rw [va_up_ne _ _ he] at hj; exact List.mem_cons_of_mem _ (h2 j r hj)
  · by_cases e1 : j1 = y
    · by_cases e2 : j2 = y
      · rw [e1, e2]
      · subst e1; rw [va_up_self] at a1; rw [va_up_ne _ _ e2] at a2; cases a1; exact absurd (h2 j2 q a2) hq
    · by_cases e2 : j2 = y
      · subst e2; rw [va_up_self] at a2; rw [va_up_ne _ _ e1] at a1; cases a2; exact absurd (h2 j1 q a1) hq
      · rw [va_up_ne _ _ e1] at a1; rw [va_up_ne _ _ e2] at a2; exact h3 j1 j2 r a1 a2
  · by_cases he : j = y
    · subst he
      refine Or.inr (Or.inr ⟨va_up_self _ _ _, va_up_self _ _ _, q, va_up_self _ _ _, ?_, ?_, fun i hi => ?_⟩)
      · rw [va_up_self, va_up_self]
      · rw [va_up_self, va_up_self]
      · rw [va_up_self] at hi ⊢
        unfold czE
        rw [if_pos (by omega)]
    · rw [va_up_ne _ _ he, va_up_ne _ _ he, va_up_ne _ _ he, va_up_ne _ _ he, va_up_ne _ _ he]
      rcases h4 j hj with g | g | ⟨g1, g2, r, g3, g4, g5, g6⟩
      · exact Or.inl g
      · exact Or.inr (Or.inl g)
      · have hr := h2 j r g3
        have hne : r ≠ q := fun z => hq (z ▸ hr)
        refine Or.inr (Or.inr ⟨g1, g2, r, g3, ?_, ?_, fun i hi => ?_⟩)
        · rw [va_up_ne _ _ hne]; exact g4
        · rw [va_up_ne _ _ hne]; exact g5
        · rw [va_up_ne _ _ hne] at hi ⊢
          have := hrz r hr
          unfold czE
          rw [if_neg (by omega)]
          exact g6 i hi
/-- a row's elements written: on both sides -/
theorem sh_w {y r : Nat} {g : Nat → Int32} {el2 : Nat → Int32} (h : SH DL kd fg RL rs rz rf dm rm ke so zz el qk qf) (hrz : ∀ r ∈ RL, rz r ≤ 100) (hy : rm y = some r) (hw : ∀ i, i < rz r → el2 (100 * y + i) = g i) (hn : ∀ j i, j ≠ y → i < 100 → el2 (100 * j + i) = el (100 * j + i)) : SH DL kd fg RL rs rz (va_up rf r g) dm rm ke so zz el2 qk qf := by
  obtain ⟨h1, h2, h3, h4⟩ := h
  refine ⟨h1, h2, h3, fun j hj => ?_⟩
  rcases h4 j hj with q | q | ⟨g1, g2, r2, g3, g4, g5, g6⟩
  · exact Or.inl q
  · exact Or.inr (Or.inl q)
  · refine Or.inr (Or.inr ⟨g1, g2, r2, g3, g4, g5, fun i hi => ?_⟩)
    have := hrz r2 (h2 j r2 g3)
    by_cases he : r2 = r
    · subst he
      have hjy := h3 j y r2 g3 hy
      subst hjy
      rw [va_up_self]
      exact hw i hi
    · rw [va_up_ne _ _ he]
      have hjy : j ≠ y := fun z => by subst z; rw [hy] at g3; cases g3; exact he rfl
      rw [hn j i hjy (by omega)]
      exact g6 i hi
theorem po_den {q : Nat} (h : PO ad s0 DL RL rc) (h1 : ∀ j, j < 41 → q ≠ ad j) (h2 : ∀ r ∈ RL, q ≠ r ∧ q ≠ rc r) : PO ad s0 (q :: DL) RL rc := by
  obtain ⟨a1, a2, a3, a4, a5⟩ := h
  refine ⟨fun a ha => ?_, a2, a3, a4, fun a ha => ?_⟩
  · rcases List.mem_cons.mp ha with rfl | ha
    · exact h1
    · exact a1 a ha
  · rcases List.mem_cons.mp ha with rfl | ha
    · exact h2
    · exact a5 a ha
theorem po_dl {DL2 : List Nat} {sz : Nat} (h : PO ad s0 DL RL rc) (hd : ∀ a ∈ DL2, a ∈ DL ∨ sz ≤ a) (h1 : ∀ j, j < 41 → ad j < sz) (h2 : ∀ r ∈ RL, r < sz ∧ rc r < sz) : PO ad s0 DL2 RL rc := by
  obtain ⟨a1, a2, a3, a4, a5⟩ := h
  refine ⟨fun a ha j hj => ?_, a2, a3, a4, fun a ha r hr => ?_⟩
  · rcases hd a ha with q | q
    · exact a1 a q j hj
    · have := h1 j hj; omega
  · rcases hd a ha with q | q
    · exact a5 a q r hr
    · have := h2 r hr; omega
theorem po_row {q z sz : Nat} (h : PO ad s0 DL RL rc) (h1 : ∀ j, j < 41 → ad j < sz) (h2 : ∀ r ∈ RL, r < sz ∧ rc r < sz) (h3 : ∀ a ∈ DL, a < sz) (hq : sz ≤ q) (hz : sz ≤ z) (hne : q ≠ z) (h0 : s0 ≤ sz) : PO ad s0 DL (q :: RL) (va_up rc q z) := by
  obtain ⟨a1, a2, a3, a4, a5⟩ := h
  have hc : ∀ r ∈ RL, va_up rc q z r = rc r := fun r hr => va_up_ne _ _ (fun e => by have := h2 r hr; omega)
  refine ⟨a1, fun r hr => ?_, fun r1 hr1 r2 hr2 he => ?_, fun r1 hr1 r2 hr2 => ?_, fun a ha r hr => ?_⟩
  · rcases List.mem_cons.mp hr with rfl | hr
    · rw [va_up_self]
      exact ⟨fun j hj => by have := h1 j hj; omega, by omega, by omega⟩
    · rw [hc r hr]; exact a2 r hr
  · rcases List.mem_cons.mp hr1 with rfl | g1 <;> rcases List.mem_cons.mp hr2 with rfl | g2
    · rfl
    · rw [va_up_self, hc r2 g2] at he; have := h2 r2 g2; omega
    · rw [va_up_self, hc r1 g1] at he; have := h2 r1 g1; omega
    · rw [hc r1 g1, hc r2 g2] at he; exact a3 r1 g1 r2 g2 he
  · rcases List.mem_cons.mp hr1 with rfl | g1 <;> rcases List.mem_cons.mp hr2 with rfl | g2
    · rw [va_up_self]; exact hne
    · rw [hc r2 g2]; have := h2 r2 g2; omega
    · rw [va_up_self]; have := h2 r1 g1; omega
    · rw [hc r2 g2]; exact a4 r1 g1 r2 g2
  · have h9 := h3 a ha
    rcases List.mem_cons.mp hr with rfl | hr
    · rw [va_up_self]; omega
    · rw [hc r hr]; exact a5 a ha r hr
theorem rp_more {q z v k : Nat} {g : Nat → Int32} (h : RP dC dI cI RL rc rs rz rf H) (hq : q ∉ RL) (hP : va_P (dC, dI) vwCl [(q, .inr (8, [.int (nI v), .ref z])), (z, .inl (cI, k, .inl g))] H) (hv : v < 3) (hk : k ≤ 100) : RP dC dI cI (q :: RL) (va_up rc q z) (va_up rs q v) (va_up rz q k) (va_up rf q g) H := fun r hr => by
  rcases List.mem_cons.mp hr with rfl | hr
  · rw [va_up_self, va_up_self, va_up_self, va_up_self]
    exact ⟨hP, hv, hk⟩
  · have hne : r ≠ q := fun e => hq (e ▸ hr)
    rw [va_up_ne _ _ hne, va_up_ne _ _ hne, va_up_ne _ _ hne, va_up_ne _ _ hne]
    exact h r hr
/-- one row written -/
theorem rp_w {r : Nat} {g : Nat → Int32} {H1 : Heap} (h : RP dC dI cI RL rc rs rz rf H) (hO : PO ad s0 DL RL rc) (hr : r ∈ RL) (hP : va_P (dC, dI) vwCl [(r, .inr (8, [.int (nI (rs r)), .ref (rc r)])), (rc r, .inl (cI, rz r, .inl g))] H1) (hfr : ∀ q : Nat, q < H.size → (∀ j, j < 41 → q ≠ ad j) → q ≠ r → q ≠ rc r → H1[q]? = H[q]?) : RP dC dI cI RL rc rs rz (va_up rf r g) H1 := fun x hx => by
  by_cases he : x = r
  · subst he
    rw [va_up_self]
    exact ⟨hP, (h x hx).2⟩
  · rw [va_up_ne _ _ he]
    refine ⟨(h x hx).1.kept (fun i q hq => ?_), (h x hx).2⟩
    have hz : i < 2 := (List.getElem?_eq_some_iff.mp hq).1
    rcases (show i = 0 ∨ i = 1 by omega) with rfl | rfl
    · cases hq
      exact hfr x (h.lt1 hx) (fun j hj => ((hO.2.1 x hx).1 j hj).1) he (hO.2.2.2.1 x hx r hr)
    · cases hq
      exact hfr (rc x) (h.lt2 hx) (fun j hj => ((hO.2.1 x hx).1 j hj).2) (fun e => hO.2.2.2.1 r hr x hx e.symm) (fun e => he (hO.2.2.1 x hx r hr e))
theorem DP.go2 {r : Nat} {H1 : Heap} (h : DP dC dI DL kd fg H) (hO : PO ad s0 DL RL rc) (hr : r ∈ RL) (hfr : ∀ q : Nat, q < H.size → (∀ j, j < 41 → q ≠ ad j) → q ≠ r → q ≠ rc r → H1[q]? = H[q]?) : DP dC dI DL kd fg H1 := fun a ha => ⟨(h a ha).1.kept (fun i q hq => by
  have hz : i < 1 := (List.getElem?_eq_some_iff.mp hq).1
  have h0 : i = 0 := by omega
  subst h0
  cases hq
  exact hfr a (h.lt ha) (hO.1 a ha) (hO.2.2.2.2 a ha r hr).1 (hO.2.2.2.2 a ha r hr).2), (h a ha).2⟩
/-- a world, and what lies apart from it -/
theorem D_app {ws rw9 : va_W} {b k : Nat} (hA : AdD ad s0) (e : ws.map Prod.fst = adL ad b k) (hb : b + k ≤ 41) (hr : va_D (fun _ => True) rw9) (hno : ∀ x ∈ rw9, ∀ j, j < 41 → x.1 ≠ ad j) : va_D (fun _ => True) (ws ++ rw9) := va_D.app (ws_D hA e hb) hr (fun i j p q hp hq hpq => by
  obtain ⟨a1, a2⟩ := ws_at e hp
  exact hno q (List.mem_of_getElem? hq) (b + i) (by omega) (by rw [← hpq]; exact a2))
theorem fr_row {ws wc rw9 : va_W} {b k : Nat} {s t : State} (e : ws.map Prod.fst = adL ad b k) (isC : List Nat) (hC : isC.map (fun i => (ws ++ rw9)[i]?) = wc.map some) (hF : va_F (va_A wc s.heap.size) s t) : ∀ q : Nat, q < s.heap.size → (∀ j, b ≤ j → j < b + k → q ≠ ad j) → (∀ x ∈ rw9, q ≠ x.1) → t.heap[q]? = s.heap[q]? := fun q hq hno hr => hF.2 q hq (by
  rintro (⟨i, z, hi⟩ | hz)
  · obtain ⟨j, hj⟩ := ws_in isC hC hi
    rcases List.mem_append.mp (List.mem_of_getElem? hj) with h | h
    · obtain ⟨j2, hj2⟩ := List.getElem?_of_mem h
      obtain ⟨a1, a2⟩ := ws_at e hj2
      exact hno (b + j2) (by omega) (by omega) a2
    · exact hr _ h rfl
  · omega)
theorem free_row {ws wc rw9 : va_W} {b k : Nat} (hA : AdD ad s0) (hb : b + k ≤ 41) (e : ws.map Prod.fst = adL ad b k) (isC : List Nat) (hC : isC.map (fun i => (ws ++ rw9)[i]?) = wc.map some) {sz : Nat} (hz : s0 ≤ sz) (hr : ∀ x ∈ rw9, s0 ≤ x.1) : ∀ q, va_A wc sz q → s0 ≤ q := by
  rintro q (⟨i, z, hi⟩ | h)
  · obtain ⟨j, hj⟩ := ws_in isC hC hi
    rcases List.mem_append.mp (List.mem_of_getElem? hj) with h | h
    · obtain ⟨j2, hj2⟩ := List.getElem?_of_mem h
      obtain ⟨a1, a2⟩ := ws_at e hj2
      have h3 : q = ad (b + j2) := a2
      rw [h3]
      exact hA.2 _ (by omega)
    · exact hr _ h
  · omega
theorem row_D {r z : Nat} {e1 e2 : va_E} (h : r ≠ z) : va_D (fun _ => True) [(r, e1), (z, e2)] := ⟨fun i j p q hp hq hpq => by
  have hi : i < 2 := (List.getElem?_eq_some_iff.mp hp).1
  have hj : j < 2 := (List.getElem?_eq_some_iff.mp hq).1
  rcases (show i = 0 ∨ i = 1 by omega) with rfl | rfl <;> rcases (show j = 0 ∨ j = 1 by omega) with rfl | rfl
  · rfl
  · cases hp; cases hq; exact absurd hpq h
  · cases hp; cases hq; exact absurd hpq.symm h
  · rfl, fun _ _ _ => trivial⟩
end GROW
theorem up_le2 {ke : Nat → Nat} {y v : Nat} (h : ∀ j, ke j ≤ 2) (hv : v ≤ 2) : ∀ j, va_up ke y v j ≤ 2 := fun j => by
  by_cases he : j = y
  · subst he; rw [va_up_self]; exact hv
  · rw [va_up_ne _ _ he]; exact h j
theorem up_lt {g : Nat → Nat} {y v b : Nat} (h : ∀ j, g j < b) (hv : v < b) : ∀ j, va_up g y v j < b := fun j => by
  by_cases he : j = y
  · subst he; rw [va_up_self]; exact hv
  · rw [va_up_ne _ _ he]; exact h j
theorem up_le {g : Nat → Nat} {y v b : Nat} (h : ∀ j, g j ≤ b) (hv : v ≤ b) : ∀ j, va_up g y v j ≤ b := fun j => by
  by_cases he : j = y
  · subst he; rw [va_up_self]; exact hv
  · rw [va_up_ne _ _ he]; exact h j
theorem up_kk {ke : Nat → Nat} {qk qf : Nat → Int32} {y v : Nat} {k f : Int32} (h : ∀ j, ke j = 1 → okI (qk j) 8 = true ∧ okI (qf j) 10 = true) (hv : v = 1 → okI k 8 = true ∧ okI f 10 = true) : ∀ j, va_up ke y v j = 1 → okI (upd qk y k j) 8 = true ∧ okI (upd qf y f j) 10 = true := fun j hj => by
  by_cases he : j = y
  · subst he; rw [va_up_self] at hj; rw [up_e, up_e]; exact hv hj
  · rw [va_up_ne _ _ he] at hj; rw [up_n he, up_n he]; exact h j hj
theorem up_k2 {ke : Nat → Nat} {qk qf : Nat → Int32} {y v : Nat} (h : ∀ j, ke j = 1 → okI (qk j) 8 = true ∧ okI (qf j) 10 = true) (hv : v ≠ 1) : ∀ j, va_up ke y v j = 1 → okI (qk j) 8 = true ∧ okI (qf j) 10 = true := fun j hj => by
  by_cases he : j = y
  · subst he; rw [va_up_self] at hj; exact absurd hj hv
  · rw [va_up_ne _ _ he] at hj; exact h j hj
