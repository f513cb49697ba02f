/-- a number of a Bool, as the machine holds it -/
def bI (b : Bool) : Int32 := cond b 1 0
/-- none is -4 -/
def oI (o : Option Nat) : Int32 := match o with
  | none => -4
  | some k => nI k
/-- what is in a and not in b -/
def sdf (a b : Nat) : Nat := a ^^^ (a &&& b)
def nF (g : Nat → Nat) : Nat → Int32 := fun i => nI (g i)
theorem nF_up (g : Nat → Nat) (k v : Nat) : upd (nF g) k (nI v) = nF (va_up g k v) := by
  funext j
  by_cases h : j = k
  · subst h; simp [nF, upd, va_up]
  · simp [nF, upd, va_up, h]
theorem nI_inj {a b : Nat} (ha : a < 2 ^ 31) (hb : b < 2 ^ 31) : nI a = nI b ↔ a = b := nI_eq ha hb
theorem bI_t {b : Bool} (h : b = true) : nI 1 = bI b := by subst h; rfl
theorem bI_f {b : Bool} (h : b = false) : nI 0 = bI b := by subst h; rfl
theorem bI_z {b : Bool} : bI b = 0 ↔ b = false := by cases b <;> decide
theorem bI_n (b : Bool) : bI b = nI b.toNat := by cases b <;> rfl
theorem bI_nar (b : Bool) : narrow .boolean (.int (bI b)) = .int (bI b) := by cases b <;> rfl
theorem no_nar1 : narrow .boolean (.int (nI 1)) = .int (nI 1) := rfl
theorem no_nar0 : narrow .boolean (.int (nI 0)) = .int (nI 0) := rfl
theorem nI_or (a b : Nat) : nI a ||| nI b = nI (a ||| b) := by
  apply Int32.toBitVec_inj.mp
  simp [nI, Int32.toBitVec_ofNat', BitVec.ofNat_or]
theorem nI_and (a b : Nat) : nI a &&& nI b = nI (a &&& b) := by
  apply Int32.toBitVec_inj.mp
  simp [nI, Int32.toBitVec_ofNat', BitVec.ofNat_and]
theorem nI_xor (a b : Nat) : nI a ^^^ nI b = nI (a ^^^ b) := by
  apply Int32.toBitVec_inj.mp
  simp [nI, Int32.toBitVec_ofNat', BitVec.ofNat_xor]
theorem ho_ones : ∀ i : Fin 32, (4294967295#32 : BitVec 32)[i.val] = true := by decide
theorem nI_not_and (a b : Nat) : nI a &&& (nI b ^^^ (-1)) = nI (sdf a b) := by
  apply Int32.toBitVec_inj.mp
  rw [show sdf a b = a ^^^ (a &&& b) from rfl, ← nI_xor, ← nI_and]
  simp only [Int32.toBitVec_and, Int32.toBitVec_xor]
  ext i hi
  have hm : (4294967295#32 : BitVec 32)[i] = true := ho_ones ⟨i, hi⟩
  simp
  rw [hm]
  cases (nI a).toBitVec[i] <;> cases (nI b).toBitVec[i] <;> rfl
theorem nI_bit : ∀ i, i < 31 → nI 1 <<< (nI i &&& 31) = nI (2 ^ i) := by decide +kernel
theorem nI_sh31 : ∀ i, i < 32 → ((nI i &&& 31).toBitVec.smod 32).toNat = i := by decide +kernel
theorem nI_shr {t i : Nat} (ht : t < 2 ^ 31) (hi : i < 32) : nI t >>> (nI i &&& 31) = nI (t / 2 ^ i) := pk_shrN ht _ i (nI_sh31 i hi)
theorem nI_sub {a b : Nat} (h : b ≤ a) : nI a - nI b = nI (a - b) := pk_sub h
theorem nI_lt0 {a : Nat} (h : a < 2 ^ 31) : ¬ nI a < 0 := nI_pos h
theorem tb_shr (t i : Nat) : (t / 2 ^ i) &&& 1 = (t.testBit i).toNat := by
  rw [Nat.testBit_eq_decide_div_mod_eq, Nat.and_one_is_mod]
  rcases Nat.mod_two_eq_zero_or_one (t / 2 ^ i) with h | h <;> simp [h]
section HOB
variable {p : Program} {l : Launch} {e : Env} {R : Room} {s : State} {m : MethodId} {args : Array Value} {below : List Frame} {meth : Method} {c : Code} {H : Heap} {locs : List Loc} {cells slots : Nat} {Q : State → Prop} {cc : ByteArray} {pc : Nat} {ls : Array Slot} {rest : List Value}
theorem ho_iadd (hexec : p.tables.exec = Jvm.exec) (hb : c.code = cc) {a b : Nat} (hdg : decode cc pc = .ok (.iadd, 1))  (k : W p l e R s m args below meth c H locs cells slots Q (F0 m (pc + 1) ls (.int (nI (a + b)) :: rest))) : W p l e R s m args below meth c H locs cells slots Q (F0 m pc ls (.int (nI b) :: .int (nI a) :: rest)) := lv_iadd hexec hb hdg (by rw [nI_add]; exact k)
theorem ho_isub (hexec : p.tables.exec = Jvm.exec) (hb : c.code = cc) {a b : Nat} (hdg : decode cc pc = .ok (.isub, 1)) (h : b ≤ a) (k : W p l e R s m args below meth c H locs cells slots Q (F0 m (pc + 1) ls (.int (nI (a - b)) :: rest))) : W p l e R s m args below meth c H locs cells slots Q (F0 m pc ls (.int (nI b) :: .int (nI a) :: rest)) := lv_isub hexec hb hdg (by rw [nI_sub h]; exact k)
theorem ho_imul (hexec : p.tables.exec = Jvm.exec) (hb : c.code = cc) {a b : Nat} (hdg : decode cc pc = .ok (.imul, 1))  (k : W p l e R s m args below meth c H locs cells slots Q (F0 m (pc + 1) ls (.int (nI (a * b)) :: rest))) : W p l e R s m args below meth c H locs cells slots Q (F0 m pc ls (.int (nI b) :: .int (nI a) :: rest)) := lv_imul hexec hb hdg (by rw [pk_mul]; exact k)
theorem ho_iand (hexec : p.tables.exec = Jvm.exec) (hb : c.code = cc) {a b : Nat} (hdg : decode cc pc = .ok (.iand, 1))  (k : W p l e R s m args below meth c H locs cells slots Q (F0 m (pc + 1) ls (.int (nI (a &&& b)) :: rest))) : W p l e R s m args below meth c H locs cells slots Q (F0 m pc ls (.int (nI b) :: .int (nI a) :: rest)) := lv_iand hexec hb hdg (by rw [nI_and]; exact k)
theorem ho_ior (hexec : p.tables.exec = Jvm.exec) (hb : c.code = cc) {a b : Nat} (hdg : decode cc pc = .ok (.ior, 1))  (k : W p l e R s m args below meth c H locs cells slots Q (F0 m (pc + 1) ls (.int (nI (a ||| b)) :: rest))) : W p l e R s m args below meth c H locs cells slots Q (F0 m pc ls (.int (nI b) :: .int (nI a) :: rest)) := lv_ior hexec hb hdg (by rw [nI_or]; exact k)
theorem ho_iandC (hexec : p.tables.exec = Jvm.exec) (hb : c.code = cc) {a b : Nat} (hdg : decode cc pc = .ok (.iand, 1)) (k : W p l e R s m args below meth c H locs cells slots Q (F0 m (pc + 1) ls (.int (nI (sdf a b)) :: rest))) : W p l e R s m args below meth c H locs cells slots Q (F0 m pc ls (.int (nI b ^^^ (-1)) :: .int (nI a) :: rest)) := lv_iand hexec hb hdg (by rw [nI_not_and]; exact k)
theorem ho_shl1 (hexec : p.tables.exec = Jvm.exec) (hb : c.code = cc) {a : Nat} (hdg : decode cc pc = .ok (.ishl, 1)) (h : a < 31) (k : W p l e R s m args below meth c H locs cells slots Q (F0 m (pc + 1) ls (.int (nI (2 ^ a)) :: rest))) : W p l e R s m args below meth c H locs cells slots Q (F0 m pc ls (.int (nI a) :: .int (nI 1) :: rest)) := lv_ishl hexec hb hdg (by rw [nI_bit a h]; exact k)
theorem ho_shr (hexec : p.tables.exec = Jvm.exec) (hb : c.code = cc) {t a : Nat} (hdg : decode cc pc = .ok (.ishr, 1)) (h1 : t < 2 ^ 31) (h : a < 32) (k : W p l e R s m args below meth c H locs cells slots Q (F0 m (pc + 1) ls (.int (nI (t / 2 ^ a)) :: rest))) : W p l e R s m args below meth c H locs cells slots Q (F0 m pc ls (.int (nI a) :: .int (nI t) :: rest)) := lv_ishr hexec hb hdg (by rw [nI_shr h1 h]; exact k)
theorem ho_irem (hexec : p.tables.exec = Jvm.exec) (hb : c.code = cc) {a b : Nat} (hdg : decode cc pc = .ok (.irem, 1)) (ha : a < 2 ^ 31) (h0 : 0 < b) (h1 : b < 2 ^ 31) (k : W p l e R s m args below meth c H locs cells slots Q (F0 m (pc + 1) ls (.int (nI (a % b)) :: rest))) : W p l e R s m args below meth c H locs cells slots Q (F0 m pc ls (.int (nI b) :: .int (nI a) :: rest)) := lv_irem hexec hb hdg (nI_ne0 h0 h1) (by rw [pk_rem ha h0 h1]; exact k)
theorem ho_idiv (hexec : p.tables.exec = Jvm.exec) (hb : c.code = cc) {a b : Nat} (hdg : decode cc pc = .ok (.idiv, 1)) (ha : a < 2 ^ 31) (h0 : 0 < b) (h1 : b < 2 ^ 31) (k : W p l e R s m args below meth c H locs cells slots Q (F0 m (pc + 1) ls (.int (nI (a / b)) :: rest))) : W p l e R s m args below meth c H locs cells slots Q (F0 m pc ls (.int (nI b) :: .int (nI a) :: rest)) := lv_idiv hexec hb hdg (nI_ne0 h0 h1) (by rw [pk_div ha h0 h1]; exact k)
theorem ho_icmp_eq (hexec : p.tables.exec = Jvm.exec) (hb : c.code = cc) {a b : Nat} {off : Int} {tgt : Nat} (hdg : decode cc pc = .ok (.if_icmp .eq off, 3)) (ht : (pc : Int) + off = (tgt : Int)) (h1 : a < 2 ^ 31) (h2 : b < 2 ^ 31) (kt : a = b → W p l e R s m args below meth c H locs cells slots Q (F0 m tgt ls rest)) (kf : a ≠ b → W p l e R s m args below meth c H locs cells slots Q (F0 m (pc + 3) ls rest)) : W p l e R s m args below meth c H locs cells slots Q (F0 m pc ls (.int (nI b) :: .int (nI a) :: rest)) := lv_icmp_eq hexec hb hdg ht (fun z => kt ((nI_inj h1 h2).mp z)) (fun z => kf (fun q => z ((nI_inj h1 h2).mpr q)))
theorem ho_icmp_ne (hexec : p.tables.exec = Jvm.exec) (hb : c.code = cc) {a b : Nat} {off : Int} {tgt : Nat} (hdg : decode cc pc = .ok (.if_icmp .ne off, 3)) (ht : (pc : Int) + off = (tgt : Int)) (h1 : a < 2 ^ 31) (h2 : b < 2 ^ 31) (kt : a ≠ b → W p l e R s m args below meth c H locs cells slots Q (F0 m tgt ls rest)) (kf : a = b → W p l e R s m args below meth c H locs cells slots Q (F0 m (pc + 3) ls rest)) : W p l e R s m args below meth c H locs cells slots Q (F0 m pc ls (.int (nI b) :: .int (nI a) :: rest)) := lv_icmp_ne hexec hb hdg ht (fun z => kt (fun q => z ((nI_inj h1 h2).mpr q))) (fun z => kf ((nI_inj h1 h2).mp z))
theorem ho_icmp_lt (hexec : p.tables.exec = Jvm.exec) (hb : c.code = cc) {a b : Nat} {off : Int} {tgt : Nat} (hdg : decode cc pc = .ok (.if_icmp .lt off, 3)) (ht : (pc : Int) + off = (tgt : Int)) (h1 : a < 2 ^ 31) (h2 : b < 2 ^ 31) (kt : a < b → W p l e R s m args below meth c H locs cells slots Q (F0 m tgt ls rest)) (kf : b ≤ a → W p l e R s m args below meth c H locs cells slots Q (F0 m (pc + 3) ls rest)) : W p l e R s m args below meth c H locs cells slots Q (F0 m pc ls (.int (nI b) :: .int (nI a) :: rest)) := lv_icmp_lt hexec hb hdg ht (fun z => kt ((nI_ltI h1 h2).mp z)) (fun z => kf (Nat.not_lt.mp (fun q => z ((nI_ltI h1 h2).mpr q))))
theorem ho_icmp_ge (hexec : p.tables.exec = Jvm.exec) (hb : c.code = cc) {a b : Nat} {off : Int} {tgt : Nat} (hdg : decode cc pc = .ok (.if_icmp .ge off, 3)) (ht : (pc : Int) + off = (tgt : Int)) (h1 : a < 2 ^ 31) (h2 : b < 2 ^ 31) (kt : b ≤ a → W p l e R s m args below meth c H locs cells slots Q (F0 m tgt ls rest)) (kf : a < b → W p l e R s m args below meth c H locs cells slots Q (F0 m (pc + 3) ls rest)) : W p l e R s m args below meth c H locs cells slots Q (F0 m pc ls (.int (nI b) :: .int (nI a) :: rest)) := lv_icmp_ge hexec hb hdg ht (fun z => kt ((nI_leI h2 h1).mp z)) (fun z => kf (Nat.not_le.mp (fun q => z ((nI_leI h2 h1).mpr q))))
theorem ho_icmp_gt (hexec : p.tables.exec = Jvm.exec) (hb : c.code = cc) {a b : Nat} {off : Int} {tgt : Nat} (hdg : decode cc pc = .ok (.if_icmp .gt off, 3)) (ht : (pc : Int) + off = (tgt : Int)) (h1 : a < 2 ^ 31) (h2 : b < 2 ^ 31) (kt : b < a → W p l e R s m args below meth c H locs cells slots Q (F0 m tgt ls rest)) (kf : a ≤ b → W p l e R s m args below meth c H locs cells slots Q (F0 m (pc + 3) ls rest)) : W p l e R s m args below meth c H locs cells slots Q (F0 m pc ls (.int (nI b) :: .int (nI a) :: rest)) := lv_icmp_gt hexec hb hdg ht (fun z => kt ((nI_ltI h2 h1).mp z)) (fun z => kf (Nat.not_lt.mp (fun q => z ((nI_ltI h2 h1).mpr q))))
theorem ho_icmp_le (hexec : p.tables.exec = Jvm.exec) (hb : c.code = cc) {a b : Nat} {off : Int} {tgt : Nat} (hdg : decode cc pc = .ok (.if_icmp .le off, 3)) (ht : (pc : Int) + off = (tgt : Int)) (h1 : a < 2 ^ 31) (h2 : b < 2 ^ 31) (kt : a ≤ b → W p l e R s m args below meth c H locs cells slots Q (F0 m tgt ls rest)) (kf : b < a → W p l e R s m args below meth c H locs cells slots Q (F0 m (pc + 3) ls rest)) : W p l e R s m args below meth c H locs cells slots Q (F0 m pc ls (.int (nI b) :: .int (nI a) :: rest)) := lv_icmp_le hexec hb hdg ht (fun z => kt ((nI_leI h1 h2).mp z)) (fun z => kf (Nat.not_le.mp (fun q => z ((nI_leI h1 h2).mpr q))))
theorem ho_if_eq (hexec : p.tables.exec = Jvm.exec) (hb : c.code = cc) {a : Nat} {off : Int} {tgt : Nat} (hdg : decode cc pc = .ok (.ifCond .eq off, 3)) (ht : (pc : Int) + off = (tgt : Int)) (h1 : a < 2 ^ 31) (kt : a = 0 → W p l e R s m args below meth c H locs cells slots Q (F0 m tgt ls rest)) (kf : a ≠ 0 → W p l e R s m args below meth c H locs cells slots Q (F0 m (pc + 3) ls rest)) : W p l e R s m args below meth c H locs cells slots Q (F0 m pc ls (.int (nI a) :: rest)) := lv_if_eq hexec hb hdg ht (fun z => kt ((nI_inj h1 (by decide)).mp z)) (fun z => kf (fun q => z (by rw [q]; rfl)))
theorem ho_if_ne (hexec : p.tables.exec = Jvm.exec) (hb : c.code = cc) {a : Nat} {off : Int} {tgt : Nat} (hdg : decode cc pc = .ok (.ifCond .ne off, 3)) (ht : (pc : Int) + off = (tgt : Int)) (h1 : a < 2 ^ 31) (kt : a ≠ 0 → W p l e R s m args below meth c H locs cells slots Q (F0 m tgt ls rest)) (kf : a = 0 → W p l e R s m args below meth c H locs cells slots Q (F0 m (pc + 3) ls rest)) : W p l e R s m args below meth c H locs cells slots Q (F0 m pc ls (.int (nI a) :: rest)) := lv_if_ne hexec hb hdg ht (fun z => kt (fun q => z (by rw [q]; rfl))) (fun z => kf ((nI_inj h1 (by decide)).mp z))
theorem ho_if_le (hexec : p.tables.exec = Jvm.exec) (hb : c.code = cc) {a : Nat} {off : Int} {tgt : Nat} (hdg : decode cc pc = .ok (.ifCond .le off, 3)) (ht : (pc : Int) + off = (tgt : Int)) (h1 : a < 2 ^ 31) (kt : a = 0 → W p l e R s m args below meth c H locs cells slots Q (F0 m tgt ls rest)) (kf : a ≠ 0 → W p l e R s m args below meth c H locs cells slots Q (F0 m (pc + 3) ls rest)) : W p l e R s m args below meth c H locs cells slots Q (F0 m pc ls (.int (nI a) :: rest)) := lv_if_le hexec hb hdg ht (fun z => kt (Nat.eq_zero_of_le_zero ((nI_leI h1 (by decide)).mp z))) (fun z => kf (fun q => z (by rw [q]; decide)))
theorem ho_if_gt (hexec : p.tables.exec = Jvm.exec) (hb : c.code = cc) {a : Nat} {off : Int} {tgt : Nat} (hdg : decode cc pc = .ok (.ifCond .gt off, 3)) (ht : (pc : Int) + off = (tgt : Int)) (h1 : a < 2 ^ 31) (kt : a ≠ 0 → W p l e R s m args below meth c H locs cells slots Q (F0 m tgt ls rest)) (kf : a = 0 → W p l e R s m args below meth c H locs cells slots Q (F0 m (pc + 3) ls rest)) : W p l e R s m args below meth c H locs cells slots Q (F0 m pc ls (.int (nI a) :: rest)) := lv_if_gt hexec hb hdg ht (fun z => kt (fun q => absurd (show nI 0 < nI a from z) (by rw [q]; decide))) (fun z => kf (Nat.eq_zero_of_not_pos (fun q => z (show nI 0 < nI a from (nI_ltI (by decide) h1).mpr q))))
theorem ho_if_lt0 (hexec : p.tables.exec = Jvm.exec) (hb : c.code = cc) {a : Nat} {off : Int} {tgt : Nat} (hdg : decode cc pc = .ok (.ifCond .lt off, 3)) (ht : (pc : Int) + off = (tgt : Int)) (h1 : a < 2 ^ 31) (k : W p l e R s m args below meth c H locs cells slots Q (F0 m (pc + 3) ls rest)) : W p l e R s m args below meth c H locs cells slots Q (F0 m pc ls (.int (nI a) :: rest)) := lv_if_lt hexec hb hdg ht (fun z => absurd z (nI_pos h1)) (fun _ => k)
theorem ho_if_ge0 (hexec : p.tables.exec = Jvm.exec) (hb : c.code = cc) {a : Nat} {off : Int} {tgt : Nat} (hdg : decode cc pc = .ok (.ifCond .ge off, 3)) (ht : (pc : Int) + off = (tgt : Int)) (h1 : a < 2 ^ 31) (k : W p l e R s m args below meth c H locs cells slots Q (F0 m tgt ls rest)) : W p l e R s m args below meth c H locs cells slots Q (F0 m pc ls (.int (nI a) :: rest)) := lv_if_ge hexec hb hdg ht (fun _ => k) (fun z => absurd (nI_pos' h1) z)
theorem ho_beq (hexec : p.tables.exec = Jvm.exec) (hb : c.code = cc) {b : Bool} {off : Int} {tgt : Nat} (hdg : decode cc pc = .ok (.ifCond .eq off, 3)) (ht : (pc : Int) + off = (tgt : Int)) (kt : b = false → W p l e R s m args below meth c H locs cells slots Q (F0 m tgt ls rest)) (kf : b = true → W p l e R s m args below meth c H locs cells slots Q (F0 m (pc + 3) ls rest)) : W p l e R s m args below meth c H locs cells slots Q (F0 m pc ls (.int (bI b) :: rest)) := lv_if_eq hexec hb hdg ht (fun z => kt (bI_z.mp z)) (fun z => kf (by cases b with | true => rfl | false => exact absurd rfl z))
theorem ho_bne (hexec : p.tables.exec = Jvm.exec) (hb : c.code = cc) {b : Bool} {off : Int} {tgt : Nat} (hdg : decode cc pc = .ok (.ifCond .ne off, 3)) (ht : (pc : Int) + off = (tgt : Int)) (kt : b = true → W p l e R s m args below meth c H locs cells slots Q (F0 m tgt ls rest)) (kf : b = false → W p l e R s m args below meth c H locs cells slots Q (F0 m (pc + 3) ls rest)) : W p l e R s m args below meth c H locs cells slots Q (F0 m pc ls (.int (bI b) :: rest)) := lv_if_ne hexec hb hdg ht (fun z => kt (by cases b with | true => rfl | false => exact absurd rfl z)) (fun z => kf (bI_z.mp z))
theorem ho_iinc (hexec : p.tables.exec = Jvm.exec) (hb : c.code = cc) {i nL k : Nat} {n : Int} {a b : Nat} {lv lv' : List (Nat × Value)} (hdg : decode cc pc = .ok (.iinc i n, 3)) (h : lv_has ls nL lv) (hk : lv[k]? = some (i, .int (nI a))) (hn2 : n = (b : Int)) (hn : i < nL) (hl : (i, Value.int (nI (a + b))) :: lv.filter (fun q => !(q.1 == i) && !(q.1 + 1 == i && q.2.category == 2)) = lv') (kk : ∀ ls' : Array Slot, lv_has ls' nL lv' → W p l e R s m args below meth c H locs cells slots Q (F0 m (pc + 3) ls' rest)) : W p l e R s m args below meth c H locs cells slots Q (F0 m pc ls rest) := lv_iinc hexec hb hdg h hk (by rw [hn2, ← nI_add]; rfl) hn hl kk
theorem ho_idec (hexec : p.tables.exec = Jvm.exec) (hb : c.code = cc) {i nL k : Nat} {a : Nat} {lv lv' : List (Nat × Value)} (hdg : decode cc pc = .ok (.iinc i (-1), 3)) (h : lv_has ls nL lv) (hk : lv[k]? = some (i, .int (nI (a + 1)))) (hn : i < nL) (hl : (i, Value.int (nI a)) :: lv.filter (fun q => !(q.1 == i) && !(q.1 + 1 == i && q.2.category == 2)) = lv') (kk : ∀ ls' : Array Slot, lv_has ls' nL lv' → W p l e R s m args below meth c H locs cells slots Q (F0 m (pc + 3) ls' rest)) : W p l e R s m args below meth c H locs cells slots Q (F0 m pc ls rest) := lv_iinc hexec hb hdg h hk (pk_m1 a) hn hl kk
variable {D : va_G} {cl : List vw_C} {tys : List (ClassId × FieldType)} {ws : va_W} {a : Nat} {A : Nat → Prop} {H0 : Heap}
theorem ho_iald (hexec : p.tables.exec = Jvm.exec) (hb : c.code = cc) (hK : va_K D cl tys s) (hP : va_P D cl ws H) (q0 t0 : Nat) {cA : ClassId} {n k : Nat} {f : Nat → Int32} {v : Int32} (ha : ws[q0]? = some (a, .inl (cA, n, .inl f))) (ht : tys[t0]? = some (cA, .int)) (hin : k < n) (hn : n < 2 ^ 31) (hv : f k = v) (hdg : decode cc pc = .ok (.iaload, 1)) (kk : W p l e R s m args below meth c H locs cells slots Q (F0 m (pc + 1) ls (.int v :: rest))) : W p l e R s m args below meth c H locs cells slots Q (F0 m pc ls (.int (nI k) :: .ref a :: rest)) := va_iald hexec hb hK hP q0 t0 ha ht (vp_in_nI hin hn) hdg (by rw [nI_clamp (Nat.lt_trans hin hn), hv]; exact kk)
theorem ho_iast (hexec : p.tables.exec = Jvm.exec) (hb : c.code = cc) (hK : va_K D cl tys s) (hP : va_P D cl ws H) (hD : va_D A ws) (hS : va_S A H0 H locs) (q0 t0 : Nat) {cA : ClassId} {n k : Nat} {f g : Nat → Int32} (ha : ws[q0]? = some (a, .inl (cA, n, .inl f))) (ht : tys[t0]? = some (cA, .int)) {x : Int32} (hin : k < n) (hn : n < 2 ^ 31) (hg : upd f k x = g) (hdg : decode cc pc = .ok (.iastore, 1)) (kk : ∀ (H1 : Heap) (locs1 : List Loc), va_P D cl (ws.set q0 (a, .inl (cA, n, .inl g))) H1 → va_D A (ws.set q0 (a, .inl (cA, n, .inl g))) → va_S A H0 H1 locs1 → W p l e R s m args below meth c H1 locs1 cells slots Q (F0 m (pc + 1) ls rest)) : W p l e R s m args below meth c H locs cells slots Q (F0 m pc ls (.int x :: .int (nI k) :: .ref a :: rest)) := va_iast hexec hb hK hP hD hS q0 t0 ha ht (vp_in_nI hin hn) hdg (by rw [nI_clamp (Nat.lt_trans hin hn), hg]; exact kk)
theorem ho_aald (hexec : p.tables.exec = Jvm.exec) (hb : c.code = cc) (hK : va_K D cl tys s) (hP : va_P D cl ws H) (q0 t0 : Nat) {cA : ClassId} {C : String} {n k : Nat} {f : Nat → Option Nat} (ha : ws[q0]? = some (a, .inl (cA, n, .inr (.inr (.inr (.inr f)))))) (ht : tys[t0]? = some (cA, .object C)) (hin : k < n) (hn : n < 2 ^ 31) (hdg : decode cc pc = .ok (.aaload, 1)) (kk : W p l e R s m args below meth c H locs cells slots Q (F0 m (pc + 1) ls (va_rf (f k) :: rest))) : W p l e R s m args below meth c H locs cells slots Q (F0 m pc ls (.int (nI k) :: .ref a :: rest)) := va_aldq hexec hb hK hP q0 t0 ha ht (vp_in_nI hin hn) hdg (by rw [nI_clamp (Nat.lt_trans hin hn)]; exact kk)
end HOB
theorem bI_fit (b : Bool) : fits .boolean (.int (bI b)) = true := by cases b <;> rfl
def oF (g : Nat → Option Nat) : Nat → Int32 := fun i => oI (g i)
theorem oF_up (g : Nat → Option Nat) (k : Nat) (v : Option Nat) : upd (oF g) k (oI v) = oF (va_up g k v) := by
  funext j
  by_cases h : j = k
  · subst h; simp [oF, upd, va_up]
  · simp [oF, upd, va_up, h]
/-- x is one of the first n numbers -/
def okI (x : Int32) (n : Nat) : Bool := !decide (x < 0) && decide (x < nI n)
theorem okI_nI {j n : Nat} (hj : j < 2 ^ 31) (hn : n < 2 ^ 31) : okI (nI j) n = decide (j < n) := by
  have h1 : ¬ nI j < 0 := nI_pos hj
  by_cases h : j < n
  · simp [okI, h1, (nI_ltI hj hn).mpr h, h]
  · simp [okI, h1, mt (nI_ltI hj hn).mp h, h]
theorem okI_ex {x : Int32} {n : Nat} (hn : n < 2 ^ 31) (h : okI x n = true) : ∃ j, j < n ∧ x = nI j := by
  simp only [okI, Bool.and_eq_true, Bool.not_eq_true', decide_eq_false_iff_not, decide_eq_true_eq] at h
  obtain ⟨j, hj, rfl⟩ := nI_of h.1
  exact ⟨j, (nI_ltI hj hn).mp h.2, rfl⟩
theorem okI_of {x : Int32} {n : Nat} (h1 : ¬ x < 0) (h2 : x < nI n) : okI x n = true := by simp [okI, h1, h2]
theorem okI_n0 {x : Int32} {n : Nat} (h1 : x < 0) : okI x n = false := by simp [okI, h1]
theorem okI_n1 {x : Int32} {n : Nat} (h1 : nI n ≤ x) : okI x n = false := by simp [okI, Int32.not_lt.mpr h1]
theorem nI_of1 {x : Int32} {n : Nat} (hn : n < 2 ^ 31) (h1 : ¬ x < 0) (h2 : x < nI n) : ∃ j, j < n ∧ x = nI j := okI_ex hn (okI_of h1 h2)
abbrev tyl (cI cD cR : ClassId) : List (ClassId × FieldType) := [(cI, .int), (cD, .object "HoldsOnceDenied$Denier"), (cR, .object "HoldsOnceDenied$Row")]
def nnM : List (String × Nat × MethodName × String) := [("HoldsOnceDenied", 9, ⟨"HoldsOnceDenied$School", "<init>", "()V"⟩, "HoldsOnceDenied"), ("HoldsOnceDenied", 24, ⟨"HoldsOnceDenied$Foresight", "<init>", "()V"⟩, "HoldsOnceDenied"), ("HoldsOnceDenied$School", 66, ⟨"HoldsOnceDenied", "bit", "(I)I"⟩, "HoldsOnceDenied"), ("HoldsOnceDenied$School", 52, ⟨"HoldsOnceDenied", "has", "(II)Z"⟩, "HoldsOnceDenied"), ("HoldsOnceDenied$Fool", 7, ⟨"HoldsOnceDenied", "has", "(II)Z"⟩, "HoldsOnceDenied"), ("HoldsOnceDenied$Wise", 11, ⟨"HoldsOnceDenied", "within", "(II)Z"⟩, "HoldsOnceDenied"), ("HoldsOnceDenied$Old", 17, ⟨"HoldsOnceDenied", "has", "(II)Z"⟩, "HoldsOnceDenied"), ("HoldsOnceDenied$Denier", 16, ⟨"HoldsOnceDenied", "has", "(II)Z"⟩, "HoldsOnceDenied"), ("HoldsOnceDenied$Denier", 22, ⟨"HoldsOnceDenied", "within", "(II)Z"⟩, "HoldsOnceDenied"), ("HoldsOnceDenied$Foresight", 77, ⟨"HoldsOnceDenied", "has", "(II)Z"⟩, "HoldsOnceDenied"), ("HoldsOnceDenied$Foresight", 81, ⟨"HoldsOnceDenied", "within", "(II)Z"⟩, "HoldsOnceDenied"), ("HoldsOnceDenied$Foresight", 88, ⟨"HoldsOnceDenied", "bit", "(I)I"⟩, "HoldsOnceDenied")]
def nnF : List (String × Nat × String × String × String × String) := [("HoldsOnceDenied$Foresight", 21, "HoldsOnceDenied$School", "truth", "I", "HoldsOnceDenied"), ("HoldsOnceDenied", 254, "HoldsOnceDenied$Row", "sort", "I", "HoldsOnceDenied"), ("HoldsOnceDenied", 260, "HoldsOnceDenied$Row", "cells", "[I", "HoldsOnceDenied")]
def cxX : MethodName := ⟨"HoldsOnceDenied$Friend", "isSilenced", "(IIIZ)Z"⟩
/-- words of a call that the printed lists pass over: a boy's super.isSilenced, that his superclass inherits -/
def cxW : List Cond := [.methodLink RX0 11 cxX, .sameMethod "HoldsOnceDenied$Friend" "HoldsOnceDenied$Denier" "isSilenced" "(IIIZ)Z", .superclass RX0 "HoldsOnceDenied$Friend", .superclass "HoldsOnceDenied$Friend" "HoldsOnceDenied$Denier", .instanceMethod yX2_isSilenced, .initialized RX2] ++ wsX2_isSilenced
theorem cxW_good : GoodIn cxW cxW := goodIn_sub (fun w h => h) (by decide +kernel)
theorem cxW_tab : ∀ w ∈ cxW, w.onTables = true := by decide +kernel
theorem cxW_pay {s : State} (h : ∀ w ∈ cxW, va_Nw w s) : ∀ w ∈ cxW, ∀ (a' : Array Value) (U : State), s.WarmedH U.vm → w.before a' U = true := pay_in (args := #[]) (fun w hw => h w hw) cxW_good
def nnC : List String := ["HoldsOnceDenied$Boy", "HoldsOnceDenied$Deaf", "HoldsOnceDenied$Fool", "HoldsOnceDenied$Friend", "HoldsOnceDenied$Hired", "HoldsOnceDenied$Old", "HoldsOnceDenied$Wise"]
/-- the classes, the arrays' classes, and what the tables say of nest mates: the same at every call -/
def CX (dC : Nat → ClassId) (dI : Nat → Nat → Nat) (cI cD cR : ClassId) (U : State) : Prop := va_K (dC, dI) vwCl (tyl cI cD cR) U ∧ (∀ q ∈ nnM, va_Nw (.methodLinkNest q.1 q.2.1 q.2.2.1 q.2.2.2) U) ∧ (∀ q ∈ nnF, va_Nw (.fieldLinkNest q.1 q.2.1 q.2.2.1 q.2.2.2.1 q.2.2.2.2.1 q.2.2.2.2.2) U) ∧ (∀ w ∈ cxW, va_Nw w U) ∧ ∀ q ∈ nnC, va_Nw (.castable q "HoldsOnceDenied$Denier") U
theorem ng_lt {a : Nat} {z : Int32} (h : a < 2 ^ 31) (hz : z < 0) : z < nI a := by
  have h1 := Int32.lt_iff_toInt_lt.mp hz
  apply Int32.lt_iff_toInt_lt.mpr
  rw [nI_toInt h]
  have h2 : (0 : Int32).toInt = 0 := by decide
  omega
theorem ng_ne {a : Nat} {z : Int32} (h : a < 2 ^ 31) (hz : z < 0) : ¬ nI a = z := fun q => nI_pos h (q ▸ hz)
theorem ng_en {a : Nat} {z : Int32} (h : a < 2 ^ 31) (hz : z < 0) : ¬ z = nI a := fun q => nI_pos h (q ▸ hz)
theorem ng_nle {a : Nat} {z : Int32} (h : a < 2 ^ 31) (hz : z < 0) : ¬ nI a ≤ z := Int32.not_le.mpr (ng_lt h hz)
theorem ng_le {a : Nat} {z : Int32} (h : a < 2 ^ 31) (hz : z < 0) : z ≤ nI a := Int32.le_of_lt (ng_lt h hz)
theorem ng_nlt {a : Nat} {z : Int32} (h : a < 2 ^ 31) (hz : z < 0) : ¬ nI a < z := Int32.not_lt.mpr (ng_le h hz)
/-- none is -1 -/
def oM (o : Option Nat) : Int32 := match o with
  | none => -1
  | some k => nI k
def oMF (g : Nat → Option Nat) : Nat → Int32 := fun i => oM (g i)
theorem oMF_up (g : Nat → Option Nat) (k : Nat) (v : Option Nat) : upd (oMF g) k (oM v) = oMF (va_up g k v) := by
  funext j
  by_cases h : j = k
  · subst h; simp [oMF, upd, va_up]
  · simp [oMF, upd, va_up, h]
abbrev forW (cI : ClassId) (fo l1 l2 l3 sa : Nat) (lk : Nat → Option Nat) (ef : Nat → Nat) (le : Nat → Option Nat) : va_W := [(fo, .inr (4, [.int (nI sa), .ref l1, .ref l2, .ref l3])), (l1, .inl (cI, 63, .inl (oMF lk))), (l2, .inl (cI, 63, .inl (nF ef))), (l3, .inl (cI, 512, .inl (oF le)))]
section HOC
variable {dC : Nat → ClassId} {dI : Nat → Nat → Nat} {cI cD cR : ClassId} {s U : State}
theorem CX.nm (h : CX dC dI cI cD cR s) {a : String} {i : Nat} {y : MethodName} {b : String} (k : Nat) (hk : nnM[k]? = some (a, i, y, b)) : va_Nw (.methodLinkNest a i y b) s := h.2.1 _ (List.mem_of_getElem? hk)
theorem CX.nf (h : CX dC dI cI cD cR s) {a : String} {i : Nat} {b n d z : String} (k : Nat) {a9 : Array Value} (hk : nnF[k]? = some (a, i, b, n, d, z)) : (Cond.fieldLinkNest a i b n d z).before a9 s = true := va_Nw.use rfl (h.2.2.1 _ (List.mem_of_getElem? hk))
theorem CX.warm (h : CX dC dI cI cD cR s) (hW : s.WarmedH U.vm) : CX dC dI cI cD cR U := ⟨va_K.moved hW.alike h.1, fun q hq => va_Nw.warmM hW (h.2.1 q hq), fun q hq => va_Nw.warmF hW (h.2.2.1 q hq), fun w hw => cxW_pay h.2.2.2.1 w hw _ _ hW, fun q hq => va_Nw.warmC hW (h.2.2.2.2 q hq)⟩
theorem CX.calling {g : JFrame} {mk : MethodId} {a : Array Value} (h : CX dC dI cI cD cR U) : CX dC dI cI cD cR (U.calling g mk a) := ⟨va_K.moved (u := U) (U := U.calling g mk a) (Vm.Alike.refl U.vm) h.1, fun q hq => va_Nw.same rfl rfl (h.2.1 q hq), fun q hq => va_Nw.same rfl rfl (h.2.2.1 q hq), fun w hw => va_Nw.same (u := U) (U := U.calling g mk a) (cxW_tab w hw) rfl (h.2.2.2.1 w hw), fun q hq => va_Nw.same (u := U) (U := U.calling g mk a) rfl rfl (h.2.2.2.2 q hq)⟩
/-- a contract's start: the arguments, a fact of the heap, and the tables' -/
def pcR (dC : Nat → ClassId) (dI : Nat → Nat → Nat) (cI cD cR : ClassId) (av : List Value) (P : Heap → Prop) : Array Value → State → Prop := fun v U => v = av.toArray ∧ P U.heap ∧ CX dC dI cI cD cR U
theorem pcR_fb {av : List Value} {P : Heap → Prop} : FrameBlind (pcR dC dI cI cD cR av P) := fun a U g mk q => ⟨q.1, q.2.1, q.2.2.calling⟩
theorem preS_R {H : Heap} {As : List Value} {P : Heap → Prop} (hC : CX dC dI cI cD cR s) (hP : P H) : PreS s H (pcR dC dI cI cD cR As P) As := ⟨pcR_fb, fun U hU hW => ⟨rfl, by rw [hU]; exact hP, hC.warm hW⟩⟩
theorem preV_R {H : Heap} {C : String} {b : Addr} {As : List Value} {P : Heap → Prop} (hC : CX dC dI cI cD cR s) (hr : ∃ cellB : Cell, H[b]? = some cellB ∧ cellB.vm.isStatics = false ∧ s.vm.findClass C = some cellB.cls) (hP : P H) : PreV s H C b (pcR dC dI cI cD cR (.ref b :: As) P) As := ⟨pcR_fb, hr, fun U hU hW => ⟨rfl, by rw [hU]; exact hP, hC.warm hW⟩⟩
end HOC
section HOL
variable {p : Program} {l : Launch} {e : Env} {R : Room} {s : State} {m : MethodId} {args : Array Value} {below : List Frame} {meth : Method} {c : Code} {H : Heap} {locs : List Loc} {cells slots : Nat} {Q : State → Prop} {pc : Nat} {ls : Array Slot} {rest : List Value}
theorem ho_tope {x y : Int32} (h : x = y) (k : W p l e R s m args below meth c H locs cells slots Q (F0 m pc ls (.int y :: rest))) : W p l e R s m args below meth c H locs cells slots Q (F0 m pc ls (.int x :: rest)) := by rw [h]; exact k
theorem ho_via {g g2 : JFrame} (h1 : W p l e R s m args below meth c H locs cells slots Q g2 → W p l e R s m args below meth c H locs cells slots Q g) (h2 : W p l e R s m args below meth c H locs cells slots Q g2) : W p l e R s m args below meth c H locs cells slots Q g := h1 h2
theorem ho_topr {x y : Value} (h : x = y) (k : W p l e R s m args below meth c H locs cells slots Q (F0 m pc ls (y :: rest))) : W p l e R s m args below meth c H locs cells slots Q (F0 m pc ls (x :: rest)) := by rw [h]; exact k
/-- a loop that writes nothing -/
theorem ho_lp {T : Type} (nL : Nat) (lv : T → List (Nat × Value)) (stk : T → List Value) (I : T → Prop) (μ : T → Nat) (x0 : T) (h0 : I x0) (hl : lv_has ls nL (lv x0))
    (step : ∀ (n : Nat) (x : T) (ls : Array Slot), I x → μ x < n + 1 → lv_has ls nL (lv x) → (∀ (x' : T) (ls' : Array Slot), I x' → μ x' < n → lv_has ls' nL (lv x') → W p l e R s m args below meth c H locs cells slots Q (F0 m pc ls' (stk x'))) → W p l e R s m args below meth c H locs cells slots Q (F0 m pc ls (stk x))) : W p l e R s m args below meth c H locs cells slots Q (F0 m pc ls (stk x0)) := by
  have key : ∀ (n : Nat) (x : T) (ls : Array Slot), I x → μ x < n → lv_has ls nL (lv x) → W p l e R s m args below meth c H locs cells slots Q (F0 m pc ls (stk x)) := by
    intro n
    induction n with
    | zero => intro x ls _ h; exact absurd h (Nat.not_lt_zero _)
    | succ n ih => intro x ls hI hm hl; exact step n x ls hI hm hl (fun x' ls' a b c => ih x' ls' a b c)
  exact key (μ x0 + 1) x0 ls h0 (Nat.lt_succ_self _) hl
/-- a loop over a world -/
theorem ho_lpW {D : va_G} {cl : List vw_C} {A : Nat → Prop} {H0 : Heap} {T : Type} (nL : Nat) (w : T → va_W) (lv : T → List (Nat × Value)) (stk : T → List Value) (I : T → Prop) (μ : T → Nat) (x0 : T) (h0 : I x0) (hl : lv_has ls nL (lv x0)) (hP : va_P D cl (w x0) H) (hD : va_D A (w x0)) (hS : va_S A H0 H locs)
    (step : ∀ (n : Nat) (x : T) (H : Heap) (locs : List Loc) (ls : Array Slot), I x → μ x < n + 1 → va_P D cl (w x) H → va_D A (w x) → va_S A H0 H locs → lv_has ls nL (lv x) → (∀ (x' : T) (H' : Heap) (locs' : List Loc) (ls' : Array Slot), I x' → μ x' < n → va_P D cl (w x') H' → va_D A (w x') → va_S A H0 H' locs' → lv_has ls' nL (lv x') → W p l e R s m args below meth c H' locs' cells slots Q (F0 m pc ls' (stk x'))) → W p l e R s m args below meth c H locs cells slots Q (F0 m pc ls (stk x))) : W p l e R s m args below meth c H locs cells slots Q (F0 m pc ls (stk x0)) := by
  have key : ∀ (n : Nat) (x : T) (H : Heap) (locs : List Loc) (ls : Array Slot), I x → μ x < n → va_P D cl (w x) H → va_D A (w x) → va_S A H0 H locs → lv_has ls nL (lv x) → W p l e R s m args below meth c H locs cells slots Q (F0 m pc ls (stk x)) := by
    intro n
    induction n with
    | zero => intro x H locs ls _ h; exact absurd h (Nat.not_lt_zero _)
    | succ n ih => intro x H locs ls hI hm hP hD hS hl; exact step n x H locs ls hI hm hP hD hS hl (fun x' H' locs' ls' a b c d e f => ih x' H' locs' ls' a b c d e f)
  exact key (μ x0 + 1) x0 H locs ls h0 (Nat.lt_succ_self _) hP hD hS hl
end HOL
/-- a denier's class, by kind -/
def ciK (k : Nat) : Nat := match k with
  | 0 => 2
  | 1 => 3
  | 2 => 10
  | 3 => 1
  | 4 => 5
  | 5 => 6
  | 6 => 7
  | _ => 0
abbrev dnE (k f : Nat) : va_E := .inr (ciK k, [.int (nI k), .int (nI f)])
/-- the deniers that live: each is where DL says, of its kind and figure -/
def DP (dC : Nat → ClassId) (dI : Nat → Nat → Nat) (DL : List Nat) (kd fg : Nat → Nat) (H : Heap) : Prop := ∀ a ∈ DL, va_P (dC, dI) vwCl [(a, dnE (kd a) (fg a))] H ∧ kd a < 8 ∧ fg a < 10
theorem DP.keep {dC : Nat → ClassId} {dI : Nat → Nat → Nat} {DL : List Nat} {kd fg : Nat → Nat} {H0 H : Heap} {A : Nat → Prop} {locs : List Loc} (h : DP dC dI DL kd fg H0) (hA : ∀ a ∈ DL, ¬ A a) (hS : va_S A H0 H locs) : DP dC dI DL kd fg H := fun a ha => ⟨(h a ha).1.kept (fun k q hq => by
  have hz : k < 1 := (List.getElem?_eq_some_iff.mp hq).1
  have h0 : k = 0 := by omega
  subst h0
  cases hq
  exact hS.2.1 a ((h a ha).1 0 _ rfl).lt (hA a ha)), (h a ha).2⟩
theorem dn_any {dC : Nat → ClassId} {dI : Nat → Nat → Nat} {cI cD cR : ClassId} {DL : List Nat} {kd fg : Nat → Nat} {s : State} {H : Heap} (hC : CX dC dI cI cD cR s) (h : DP dC dI DL kd fg H) {a : Nat} (ha : a ∈ DL) : va_Any "HoldsOnceDenied$Denier" s H a := by
  obtain ⟨hP, hk, -⟩ := h a ha
  generalize hkk : kd a = kk at hP hk
  have hc : ∀ q ∈ nnC, ∀ comp c0 : ClassId, s.vm.findClass "HoldsOnceDenied$Denier" = some comp → s.vm.findClass q = some c0 → s.vm.assignable c0 comp = true := by
    intro q hq comp c0 h1 h2
    obtain ⟨c3, t3, w1, w2, w3⟩ := Cond.castable_spec (hC.2.2.2.2 q hq)
    cases h1.symm.trans w2
    cases h2.symm.trans w1
    exact w3
  rcases (show kk = 0 ∨ kk = 1 ∨ kk = 2 ∨ kk = 3 ∨ kk = 4 ∨ kk = 5 ∨ kk = 6 ∨ kk = 7 by omega) with rfl | rfl | rfl | rfl | rfl | rfl | rfl | rfl
  · exact va_rAny hC.1 hP (q0 := 0) (ci := 2) rfl rfl (fun comp c0 h1 h2 => by
      have h3 : s.vm.findClass "HoldsOnceDenied$Denier" = some c0 := h2
      cases h1.symm.trans h3
      exact va_asg _ _)
  · exact va_rAny hC.1 hP (q0 := 0) (ci := 3) rfl rfl (hc RX3 (by decide +kernel))
  · exact va_rAny hC.1 hP (q0 := 0) (ci := 10) rfl rfl (hc RX10 (by decide +kernel))
  · exact va_rAny hC.1 hP (q0 := 0) (ci := 1) rfl rfl (hc RX1 (by decide +kernel))
  · exact va_rAny hC.1 hP (q0 := 0) (ci := 5) rfl rfl (hc RX5 (by decide +kernel))
  · exact va_rAny hC.1 hP (q0 := 0) (ci := 6) rfl rfl (hc RX6 (by decide +kernel))
  · exact va_rAny hC.1 hP (q0 := 0) (ci := 7) rfl rfl (hc RX7 (by decide +kernel))
  · exact va_rAny hC.1 hP (q0 := 0) (ci := 0) rfl rfl (hc RX0 (by decide +kernel))
theorem up_or {kn : Nat → Nat} {x y : Nat} (h : (kn x).testBit y = true) : va_up kn x (kn x ||| 2 ^ y) = kn := by
  funext j
  by_cases hj : j = x
  · subst hj
    rw [va_up_self]
    apply Nat.eq_of_testBit_eq
    intro i
    rw [Nat.testBit_or, Nat.testBit_two_pow]
    by_cases hi : y = i
    · subst hi; simp [h]
    · simp [hi]
  · rw [va_up_ne _ _ hj]
abbrev schW (cI cD : ClassId) (h a1 a2 a3 a4 a5 n d t al day : Nat) (nd : Nat → Nat) (mk si : Nat → Int32) (kn : Nat → Nat) (mb : Nat → Option Nat) : va_W := [(h, .inr (9, [.int (nI n), .int (nI d), .int (nI t), .int (nI al), .int (nI day), .ref a1, .ref a2, .ref a3, .ref a4, .ref a5])), (a1, .inl (cI, 9, .inl (nF nd))), (a2, .inl (cI, 9, .inl mk)), (a3, .inl (cI, 9, .inl si)), (a4, .inl (cI, 6, .inl (nF kn))), (a5, .inl (cD, 6, .inr (.inr (.inr (.inr mb)))))]
theorem ho_arrV {cA : ClassId} {n : Nat} {f g : Nat → Value} (h : ∀ j, j < n → f j = g j) : arrV cA n f = arrV cA n g := by
  unfold arrV
  congr 1
  exact congrArg Array.ofFn (funext fun j => h j.val j.isLt)
theorem ho_setP {D : va_G} {cl : List vw_C} {ws : va_W} {q a : Nat} {e e2 : va_E} {H : Heap} (hP : va_P D cl (ws.set q (a, e)) H) (hl : q < ws.length) (he : va_at D cl (a, e) H → va_at D cl (a, e2) H) : va_P D cl (ws.set q (a, e2)) H := by
  intro k x hk
  by_cases h : k = q
  · subst h
    rw [List.getElem?_set_self hl] at hk
    cases hk
    exact he (hP k (a, e) (List.getElem?_set_self hl))
  · rw [List.getElem?_set_ne (Ne.symm h)] at hk
    exact hP k x (by rw [List.getElem?_set_ne (Ne.symm h)]; exact hk)
section HOA
variable {p : Program} {l : Launch} {e : Env} {R : Room} {s : State} {m : MethodId} {args : Array Value} {below : List Frame} {meth : Method} {c : Code} {H : Heap} {locs : List Loc} {cells slots : Nat} {Q : State → Prop} {cc : ByteArray} {pc : Nat} {ls : Array Slot} {rest : List Value} {D : va_G} {cl : List vw_C} {tys : List (ClassId × FieldType)} {ws : va_W} {a : Nat} {A : Nat → Prop} {H0 : Heap}
theorem ho_copyi (hexec : p.tables.exec = Jvm.exec) (hb : c.code = cc) (hml : c.maxLocals = ls.size) {own : String} {index : Nat} (hown : s.vm.findClass own = some m.cls) (hlink : (Cond.methodLink own index arraycopyName).before args s = true) (hnat : (Cond.native arraycopyName).before args s = true) (hstat : (Cond.static arraycopyName).before args s = true) (hini : (Cond.initialized "java/lang/System").before args s = true)
    (hK : va_K D cl tys s) (hP : va_P D cl ws H) (hD : va_D A ws) (hS : va_S A H0 H locs) (q0 q1 t0 : Nat) {a0 k : Nat} {c0 : ClassId} {f g : Nat → Int32} (ha0 : ws[q0]? = some (a0, .inl (c0, k, .inl f))) (ha1 : ws[q1]? = some (a, .inl (c0, k, .inl g))) (ht0 : tys[t0]? = some (c0, .int)) (hk : k < 2 ^ 31)
    (hframes : 1 ≤ R.frames) (hlocals : (rest.map fun v => v.category).sum + (nativeFrameWords "java/lang/System" "arraycopy" 5 + 11) ≤ R.locals) (hdg : decode cc pc = .ok (.invokestatic index, 3))
    (kk : ∀ (H1 : Heap) (locs1 : List Loc), va_P D cl (ws.set q1 (a, .inl (c0, k, .inl f))) H1 → va_D A (ws.set q1 (a, .inl (c0, k, .inl f))) → va_S A H0 H1 locs1 → W p l e R s m args below meth c H1 locs1 cells slots Q (F0 m (pc + 3) ls rest)) : W p l e R s m args below meth c H locs cells slots Q (F0 m pc ls (.int (nI k) :: .int (nI 0) :: .ref a :: .int (nI 0) :: .ref a0 :: rest)) := by
  have e0 : (nI 0).toNatClampNeg = 0 := by decide
  have ek : (nI k).toNatClampNeg = k := nI_clamp hk
  refine va_copyi hexec hb hml hown hlink hnat hstat hini hK hP hD hS q0 q1 t0 t0 ha0 ha1 ht0 ht0 rfl (by decide) (by decide) (nI_pos hk) (by rw [e0, ek]; omega) (by rw [e0, ek]; omega) (fun _ _ => rfl) hframes hlocals hdg (fun H1 locs1 hP1 hD1 hS1 => ?_)
  refine kk H1 locs1 (ho_setP hP1 (List.getElem?_eq_some_iff.mp ha1).1 (fun h => ?_)) (hD.set ha1) hS1
  refine Eq.trans h (congrArg some ?_)
  rw [vp_cell_i, vp_cell_i]
  refine ho_arrV (fun j hj => ?_)
  rw [e0, ek]
  simp [va_cpy, hj]
theorem ho_copyq (hexec : p.tables.exec = Jvm.exec) (hb : c.code = cc) (hml : c.maxLocals = ls.size) {own : String} {index : Nat} (hown : s.vm.findClass own = some m.cls) (hlink : (Cond.methodLink own index arraycopyName).before args s = true) (hnat : (Cond.native arraycopyName).before args s = true) (hstat : (Cond.static arraycopyName).before args s = true) (hini : (Cond.initialized "java/lang/System").before args s = true)
    (hK : va_K D cl tys s) (hP : va_P D cl ws H) (hD : va_D A ws) (hS : va_S A H0 H locs) (q0 q1 t0 : Nat) {a0 k : Nat} {c0 : ClassId} {f g : Nat → Option Nat} {E0 : String} (ha0 : ws[q0]? = some (a0, .inl (c0, k, .inr (.inr (.inr (.inr f)))))) (ha1 : ws[q1]? = some (a, .inl (c0, k, .inr (.inr (.inr (.inr g)))))) (ht0 : tys[t0]? = some (c0, .object E0)) (hk : k < 2 ^ 31) (hel : ∀ i : Nat, ∀ y : Nat, f i = some y → va_Any E0 s H y)
    (hframes : 1 ≤ R.frames) (hlocals : (rest.map fun v => v.category).sum + (nativeFrameWords "java/lang/System" "arraycopy" 5 + 11) ≤ R.locals) (hdg : decode cc pc = .ok (.invokestatic index, 3))
    (kk : ∀ (H1 : Heap) (locs1 : List Loc), va_P D cl (ws.set q1 (a, .inl (c0, k, .inr (.inr (.inr (.inr f)))))) H1 → va_D A (ws.set q1 (a, .inl (c0, k, .inr (.inr (.inr (.inr f)))))) → va_S A H0 H1 locs1 → W p l e R s m args below meth c H1 locs1 cells slots Q (F0 m (pc + 3) ls rest)) : W p l e R s m args below meth c H locs cells slots Q (F0 m pc ls (.int (nI k) :: .int (nI 0) :: .ref a :: .int (nI 0) :: .ref a0 :: rest)) := by
  have e0 : (nI 0).toNatClampNeg = 0 := by decide
  have ek : (nI k).toNatClampNeg = k := nI_clamp hk
  refine va_copyM hexec hb hml hown hlink hnat hstat hini hK hP hD hS q0 q1 t0 t0 ha0 ha1 ht0 ht0 (by decide) (by decide) (nI_pos hk) (by rw [e0, ek]; omega) (by rw [e0, ek]; omega) (fun i _ y hy => hel _ y hy) hframes hlocals hdg (fun H1 locs1 hP1 hD1 hS1 => ?_)
  refine kk H1 locs1 (ho_setP hP1 (List.getElem?_eq_some_iff.mp ha1).1 (fun h => ?_)) (hD.set ha1) hS1
  refine Eq.trans h (congrArg some ?_)
  rw [vp_cell_q, vp_cell_q]
  refine ho_arrV (fun j hj => ?_)
  rw [e0, ek]
  simp [va_cpy, hj]
theorem ho_aastM (hexec : p.tables.exec = Jvm.exec) (hb : c.code = cc) (hK : va_K D cl tys s) (hP : va_P D cl ws H) (hD : va_D A ws) (hS : va_S A H0 H locs) (q0 t0 : Nat) {E : String} {cA : ClassId} {n v k : Nat} {f : Nat → Option Nat} (ha : ws[q0]? = some (a, .inl (cA, n, .inr (.inr (.inr (.inr f)))))) (ht : tys[t0]? = some (cA, .object E)) (hr : va_Any E s H v) (hin : k < n) (hn : n < 2 ^ 31) (hdg : decode cc pc = .ok (.aastore, 1))
    (kk : ∀ (H1 : Heap) (locs1 : List Loc), va_P D cl (ws.set q0 (a, .inl (cA, n, .inr (.inr (.inr (.inr (va_up f k (some v)))))))) H1 → va_D A (ws.set q0 (a, .inl (cA, n, .inr (.inr (.inr (.inr (va_up f k (some v)))))))) → va_S A H0 H1 locs1 → W p l e R s m args below meth c H1 locs1 cells slots Q (F0 m (pc + 1) ls rest)) : W p l e R s m args below meth c H locs cells slots Q (F0 m pc ls (.ref v :: .int (nI k) :: .ref a :: rest)) := va_astqM hexec hb hK hP hD hS q0 t0 ha ht hr (vp_in_nI hin hn) hdg (by rw [nI_clamp (Nat.lt_trans hin hn)]; exact kk)
end HOA
section HOS
variable {p : Program} {l : Launch} {e : Env} {R : Room} {s : State} {m : MethodId} {args : Array Value} {below : List Frame} {meth : Method} {c : Code} {H : Heap} {locs : List Loc} {cells slots : Nat}
theorem ho_callSU2 {T : State} (X : Stand p l e R s m args below meth c T locs cells slots) (hexec : p.tables.exec = Jvm.exec) {own owner : String} {index : Nat} {x y : MethodName} {bytes : ByteArray} {maxL : Nat} {ret : Option FieldType}
    (hown : s.vm.findClass own = some m.cls) (hlink : (Cond.methodLink own index x).before args s = true) (hsame : (Cond.sameMethod x.cls owner x.name x.desc).before args s = true) (hyx : y = ⟨owner, x.name, x.desc⟩) (hsup : (Cond.superclass own x.cls).before args s = true) (hsup2 : (Cond.superclass x.cls owner).before args s = true)
    (hinst : (Cond.instanceMethod y).before args s = true) (hcode : (Cond.code y bytes maxL ret).before args s = true) (hno : x.name ≠ "<init>")
    {W : Nat} {Pre : Pt → Array Value → Prop} {Post : Pt → Array Value → Option Value → Pt → Prop} (hK : Back l R p e below s args y 3 W Pre Post)
    {b : Addr} {cellB : Cell} {kB : Class} (hcell : T.heap[b]? = some cellB) (hobj : cellB.vm.isStatics = false) (hkB : s.vm.classes[cellB.cls]? = some kB)
    {g : JFrame} (hg : g.method = m) (hsize : g.locals.size = c.maxLocals) {argsL rest : List Value} (hlen : ∀ sig, parseMethodDescriptor y.desc = some sig → argsL.length = sig.parameters.length)
    (hstack : g.stack = argsL.reverse ++ .ref b :: rest) (hW : 2 * g.monitorRoom + (rest.map fun v => v.category).sum ≤ W) (hdg : decode c.code g.pc = .ok (.invokespecial index, 3))
    (hpre : ∀ vm₁, s.WarmedH vm₁ → Pre ⟨T.setVm vm₁, locs, cells, slots⟩ (Value.ref b :: argsL).toArray) :
    ∃ (v : Option Value) (vm₁ : Vm) (B : Pt), s.WarmedH vm₁ ∧ Stand p l e R s m args below meth c B.U B.locs B.cells B.slots ∧ Post ⟨T.setVm vm₁, locs, cells, slots⟩ (Value.ref b :: argsL).toArray v B ∧
      ∀ target, Steps p.tables e below (B.U.setTop { g with pc := g.pc + 3, stack := v.toList ++ rest }) target → Steps p.tables e below (T.setTop g) target := by
  subst hyx
  obtain ⟨mk, methM, hnamed, hmethM, hstM, habM⟩ := Cond.instanceMethod_spec hinst
  obtain ⟨methM', cM, hmethM', -, -, -, -, -, -, hsigM⟩ := Cond.code_spec hnamed hcode
  cases hmethM.symm.trans hmethM'
  obtain ⟨ps, dk, kp, hps, hdk, hkp, hsuper, -, -, hnid⟩ := Cond.superclass_spec hown hsup
  obtain ⟨ps2, dk2, kp2, hps2, hdk2, hkp2, hsuper2, -, -, -⟩ := Cond.superclass_spec hps hsup2
  have hpm : ps2 = mk.cls := Option.some.inj (hps2.symm.trans (findClass_of_methodNamed hnamed))
  have hsub : s.vm.isSubclass ps mk.cls = true := by
    rw [← hpm]
    have hz : 0 < s.vm.classes.size := Nat.lt_of_le_of_lt (Nat.zero_le _) (Array.getElem?_eq_some_iff.mp hdk2).1
    obtain ⟨z, hz2⟩ : ∃ z, s.vm.classes.size = z + 1 := ⟨s.vm.classes.size - 1, by omega⟩
    simp [Vm.isSubclass, Vm.isSubclassAux, hz2, hdk2, hsuper2]
  obtain ⟨vm₁, X₁, hstep₁⟩ := X.invokespecialUp hexec hown hlink hsame hnamed hmethM hstM habM hno hdk hnid hps hsuper hsub (a := b) (cell := cellB) hcell
    (fun z h => by rw [h] at hobj; cases hobj) hkB (g := g) hg (argsL := argsL) (rest := rest) (hlen _ hsigM) hstack hdg
  obtain ⟨v, B, X', hpost, hsteps⟩ := hK m meth c ⟨T.setVm vm₁, locs, cells, slots⟩ { g with stack := rest } (.invokespecial index) mk (Value.ref b :: argsL).toArray X₁ hg hsize hdg hW (X₁.named hnamed) (hpre vm₁ X₁.warmed)
  exact ⟨v, vm₁, B, X₁.warmed, X', hpost, fun target h => hstep₁ _ (by rw [doInvoke_state]; exact hsteps.trans h)⟩
theorem ho_boySU {cc : ByteArray} {nL mc ms : Nat} {rm : Room} {Pc : Array Value → State → Prop} {Qc : Array Value → State → Outcome → State → Prop} {free : Addr → Prop} {Ts : List Cond} {C : String} {cC : ClassId} {b : Addr} {As rest : List Value} {g : JFrame}
    (hat : ClassAt s C cC) (S : CallFix p m c cc nL s args Ts RX0) (hM : Met l yX2_isSilenced wsX2_isSilenced rm Pc Qc mc ms free) (hcx : ∀ w ∈ cxW, va_Nw w s) (hrc : rm.cells = mc) (hrs : rm.slots = ms) (hfr : rm.frames + 1 ≤ R.frames) (hlo : 8 + (5 + 11) + rm.locals ≤ R.locals) (hp : PreV s H C b Pc As)
    (hg : g.method = m) (hn : As.length = 4) (hsize : g.locals.size = nL) (hstack : g.stack = As.reverse ++ .ref b :: rest) (hW : 2 * g.monitorRoom + (rest.map fun v => v.category).sum ≤ 8) (hdg : decode cc g.pc = .ok (.invokespecial 11, 3)) (hf : cells + mc ≤ R.cells ∧ slots + ms ≤ R.slots) :
    va_Run p l e R s m args below meth c H locs cells slots mc ms g rest (Qc (Value.ref b :: As).toArray) (free) := by
  have hb4 : ∀ w ∈ cxW, w.before args s = true := fun w hw => va_Nw.use (cxW_tab w hw) (hcx w hw)
  have hin : ∀ w ∈ wsX2_isSilenced, w ∈ cxW := fun w hw => List.mem_append_right _ hw
  have hcw : Cond.code yX2_isSilenced cX2_isSilenced 5 (some .boolean) ∈ wsX2_isSilenced := List.mem_cons_self
  have hini : (Cond.initialized yX2_isSilenced.cls).before args s = true := hb4 _ (List.mem_of_getElem? (i := 5) rfl)
  have hK : Back l R p e below s args yX2_isSilenced 3 8 (PreOf R mc ms Pc) (PostOf Qc mc ms free) := back_of (bytes := cX2_isSilenced) (maxL := 5) (ret := some .boolean) hM hp.1 hrc hrs hfr hlo (fun w hw => cxW_pay hcx w (hin w hw)) hcw (fun a' U hW => cxW_pay hcx _ (List.mem_of_getElem? (i := 5) rfl) a' U hW)
  obtain ⟨hx, hb, hml, ho, -⟩ := S
  obtain ⟨-, ⟨cellB, hcB, hoB, hclB⟩, hPc⟩ := hp
  obtain ⟨hfc, kB, hkB, -⟩ := hat
  cases hfc.symm.trans hclB
  intro T hT X
  obtain ⟨v, vm₁, ⟨U', l2, c2, s2⟩, hW₁, X', ⟨g', mk, t, L, e1, e2, hq, h1, hL, h2, h3⟩, st⟩ := ho_callSU2 X hx (bytes := cX2_isSilenced) (maxL := 5) (ret := some .boolean) (x := cxX) (owner := "HoldsOnceDenied$Denier") ho (hb4 _ (List.mem_of_getElem? (i := 0) rfl)) (hb4 _ (List.mem_of_getElem? (i := 1) rfl)) rfl (hb4 _ (List.mem_of_getElem? (i := 2) rfl)) (hb4 _ (List.mem_of_getElem? (i := 3) rfl)) (hb4 _ (List.mem_of_getElem? (i := 4) rfl)) (hb4 _ (hin _ hcw)) (by decide +kernel) hK (by rw [hT]; exact hcB) hoB hkB hg (hsize.trans hml.symm) (argsL := As) (rest := rest) (fun sig h => hn.trans (by
      have h2 : (parseMethodDescriptor cxX.desc).map (fun d => d.parameters.length) = some 4 := by decide +kernel
      have h3 : parseMethodDescriptor cxX.desc = some sig := h
      rw [h3] at h2
      exact (Option.some.inj h2).symm)) hstack hW (by rw [hb]; exact hdg)
    (fun vm₁ hW₁ => ⟨hf.1, hf.2, hPc (T.setVm vm₁) hT hW₁⟩)
  dsimp only [Pt.U, Pt.locs, Pt.cells, Pt.slots] at X' e1 e2 h1 h2 h3 st
  subst h1; subst h2; subst h3
  exact ⟨v, (T.setVm vm₁).calling g' mk (Value.ref b :: As).toArray, t, U', L, hT, X', hL, e1, e2, hq, st⟩
end HOS
