/-! more of the numbers' form, fresh arrays, rows -/
theorem okI_or (x : Int32) {n : Nat} (hn : n < 2 ^ 31) : okI x n = false ∨ ∃ j, j < n ∧ x = nI j := by
  cases h : okI x n
  · exact Or.inl rfl
  · exact Or.inr (okI_ex hn h)
/-- x as a number below n, or none -/
def oN (x : Int32) (n : Nat) : Option Nat := bif okI x n then some x.toNatClampNeg else none
theorem oN_f {x : Int32} {n : Nat} (h : okI x n = false) : oN x n = none := by simp [oN, h]
theorem oN_t {j n : Nat} (h : j < n) (hn : n < 2 ^ 31 := by omega) : oN (nI j) n = some j := by
  have h1 : okI (nI j) n = true := by rw [okI_nI (by omega) hn]; exact decide_eq_true h
  simp [oN, h1, nI_clamp (Nat.lt_trans h hn)]
theorem sw_ne {x k : Int32} {i : Int} (h : ¬ x = k) (e : k.toInt = i) : ¬ x.toInt = i := fun q => h (Int32.toInt_inj.mp (q.trans e.symm))
theorem sw_nf {x k : Int32} {i : Int} (h : ¬ x = k) (e : k.toInt = i) : ¬ i = x.toInt := fun q => h (Int32.toInt_inj.mp (q.symm.trans e.symm))
section HOD
variable {dC : Nat → ClassId} {dI : Nat → Nat → Nat} {cI cD cR : ClassId} {s : State}
theorem ho_cAi {c9 : ClassId} (hK : va_K (dC, dI) vwCl (tyl cI cD cR) s) (hK9 : va_K (dC, dI) vwCl (tyl cI cD cR ++ [(c9, .int)]) s) : c9 = cI := Option.some.inj ((va_nm_int (hK9.2 3 _ rfl).2).symm.trans (va_nm_int (hK.2 0 _ rfl).2))
theorem ho_cAd {c9 : ClassId} (hK : va_K (dC, dI) vwCl (tyl cI cD cR) s) (hK9 : va_K (dC, dI) vwCl (tyl cI cD cR ++ [(c9, .object RX2)]) s) : c9 = cD := Option.some.inj ((va_nmO (hK9.2 3 _ rfl).2 rfl).symm.trans (va_nmO (hK.2 1 _ rfl).2 rfl))
theorem ho_cAr {c9 : ClassId} (hK : va_K (dC, dI) vwCl (tyl cI cD cR) s) (hK9 : va_K (dC, dI) vwCl (tyl cI cD cR ++ [(c9, .object RX8)]) s) : c9 = cR := Option.some.inj ((va_nmO (hK9.2 3 _ rfl).2 rfl).symm.trans (va_nmO (hK.2 2 _ rfl).2 rfl))
/-- a start that knows the arrays of deniers and of rows, too -/
def pcO (dC : Nat → ClassId) (dI : Nat → Nat → Nat) (cI cD cR : ClassId) (av : List Value) (P : Heap → Prop) : Array Value → State → Prop := fun v U => v = av.toArray ∧ P U.heap ∧ CX dC dI cI cD cR U ∧ va_AO RX2 U ∧ va_AO RX8 U
theorem preO_R {H : Heap} {As : List Value} {P : Heap → Prop} (hC : CX dC dI cI cD cR s) (h2 : va_AO RX2 s) (h8 : va_AO RX8 s) (hP : P H) : PreS s H (pcO dC dI cI cD cR As P) As := ⟨fun _ U _ _ q => ⟨q.1, q.2.1, q.2.2.1.calling, va_AO.moved (Vm.Alike.refl U.vm) q.2.2.2.1, va_AO.moved (Vm.Alike.refl U.vm) q.2.2.2.2⟩, fun _ hU hW => ⟨rfl, by rw [hU]; exact hP, hC.warm hW, va_AO.moved hW.alike h2, va_AO.moved hW.alike h8⟩⟩
end HOD
section HOE
variable {p : Program} {l : Launch} {e : Env} {R : Room} {s : State} {m : MethodId} {args : Array Value} {below : List Frame} {meth : Method} {c : Code} {H : Heap} {locs : List Loc} {cells slots : Nat} {Q : State → Prop} {cc : ByteArray} {pc : Nat} {ls : Array Slot} {rest : List Value} {D : va_G} {cl : List vw_C} {tys : List (ClassId × FieldType)} {ws : va_W} {a : Nat} {A : Nat → Prop} {H0 : Heap}
theorem ho_aastN (hexec : p.tables.exec = Jvm.exec) (hb : c.code = cc) (hK : va_K D cl tys s) (hP : va_P D cl ws H) (hD : va_D A ws) (hS : va_S A H0 H locs) (q0 t0 : Nat) {E : String} {cA : ClassId} {n k : Nat} {f : Nat → Option Nat} (ha : ws[q0]? = some (a, .inl (cA, n, .inr (.inr (.inr (.inr f)))))) (ht : tys[t0]? = some (cA, .object E)) (hin : k < n) (hn : n < 2 ^ 31) (hdg : decode cc pc = .ok (.aastore, 1))
    (kk : ∀ (H1 : Heap) (locs1 : List Loc), va_P D cl (ws.set q0 (a, .inl (cA, n, .inr (.inr (.inr (.inr (va_up f k none))))))) H1 → va_D A (ws.set q0 (a, .inl (cA, n, .inr (.inr (.inr (.inr (va_up f k none))))))) → va_S A H0 H1 locs1 → W p l e R s m args below meth c H1 locs1 cells slots Q (F0 m (pc + 1) ls rest)) : W p l e R s m args below meth c H locs cells slots Q (F0 m pc ls (.null :: .int (nI k) :: .ref a :: rest)) := va_astqN hexec hb hK hP hD hS q0 t0 ha ht (vp_in_nI hin hn) hdg (by rw [nI_clamp (Nat.lt_trans hin hn)]; exact kk)
end HOE
/-- the rows that live: where RL says, of a sort, a size, with their elements -/
def RP (dC : Nat → ClassId) (dI : Nat → Nat → Nat) (cI : ClassId) (RL : List Nat) (rc rs rz : Nat → Nat) (rf : Nat → Nat → Int32) (H : Heap) : Prop := ∀ r ∈ RL, va_P (dC, dI) vwCl [(r, .inr (8, [.int (nI (rs r)), .ref (rc r)])), (rc r, .inl (cI, rz r, .inl (rf r)))] H ∧ rs r < 3 ∧ rz r ≤ 100
theorem RP.keep {dC : Nat → ClassId} {dI : Nat → Nat → Nat} {cI : ClassId} {RL : List Nat} {rc rs rz : Nat → Nat} {rf : Nat → Nat → Int32} {H0 H : Heap} {A : Nat → Prop} {locs : List Loc} (h : RP dC dI cI RL rc rs rz rf H0) (hA : ∀ r ∈ RL, ¬ A r ∧ ¬ A (rc r)) (hS : va_S A H0 H locs) : RP dC dI cI RL rc rs rz rf H := fun r hr => ⟨(h r hr).1.kept (fun k q hq => by
  have hz : k < 2 := (List.getElem?_eq_some_iff.mp hq).1
  rcases (show k = 0 ∨ k = 1 by omega) with rfl | rfl
  · cases hq
    exact hS.2.1 r ((h r hr).1 0 _ rfl).lt (hA r hr).1
  · cases hq
    exact hS.2.1 (rc r) ((h r hr).1 1 _ rfl).lt (hA r hr).2), (h r hr).2⟩
theorem rw_any {dC : Nat → ClassId} {dI : Nat → Nat → Nat} {cI cD cR : ClassId} {s : State} {H : Heap} {r c9 so z : Nat} {f : Nat → Int32} (hC : CX dC dI cI cD cR s) (hP : va_P (dC, dI) vwCl [(r, .inr (8, [.int (nI so), .ref c9])), (c9, .inl (cI, z, .inl f))] H) : va_Any "HoldsOnceDenied$Row" s H r := va_rAny hC.1 hP (q0 := 0) (ci := 8) rfl rfl (fun comp c0 h1 h2 => by
  have h3 : s.vm.findClass "HoldsOnceDenied$Row" = some c0 := h2
  cases h1.symm.trans h3
  exact va_asg _ _)
/-- what a row holds at a place; 0 outside -/
def atR (z : Nat) (f : Nat → Int32) (i : Nat) : Int32 := if i < z then f i else 0
/-- a number cut to a sort -/
def cutI (so : Nat) (v : Int32) : Int32 := if so = 0 then v.toInt8.toInt32 else if so = 1 then v.toInt16.toInt32 else v
/-- from a place on, so many -/
def stB (z : Nat) (i n : Int32) : Bool := !decide (n < 0) && (!decide (i < 0) && (decide (i ≤ nI z) && decide (n ≤ nI z - i)))
/-- a digit's value -/
def dgO (x : Int32) : Option Nat := if 48 ≤ x ∧ x ≤ 57 then some (x - 48).toNatClampNeg else none
theorem dgO_lt {x : Int32} {v : Nat} (h : dgO x = some v) : v < 10 := by
  unfold dgO at h
  split at h
  · rename_i hx
    cases h
    obtain ⟨h1, h2⟩ := hx
    have h3 : (48 : Int32).toInt ≤ x.toInt := Int32.le_iff_toInt_le.mp h1
    have h4 : x.toInt ≤ (57 : Int32).toInt := Int32.le_iff_toInt_le.mp h2
    have h5 : (48 : Int32).toInt = 48 := by decide
    have h6 : (57 : Int32).toInt = 57 := by decide
    obtain ⟨j, hj, rfl⟩ := nI_of (x := x) (fun q => by have := Int32.lt_iff_toInt_lt.mp q; have h0 : (0 : Int32).toInt = 0 := by decide
                                                       omega)
    rw [nI_toInt hj] at h3 h4
    have h7 : nI j - 48 = nI (j - 48) := nI_sub (a := j) (b := 48) (by omega)
    rw [h7, nI_clamp (by omega)]
    omega
  · cases h
/-- how many digits a letter wants -/
def dbO (x : Int32) : Option Nat := if x = 115 then some 0 else if x = 116 then some 1 else if x = 110 ∨ x = 100 ∨ x = 107 ∨ x = 120 then some 2 else none
theorem dbO_le {x : Int32} {v : Nat} (h : dbO x = some v) : v ≤ 2 := by
  unfold dbO at h
  repeat' split at h
  all_goals first | (cases h; omega) | cases h
