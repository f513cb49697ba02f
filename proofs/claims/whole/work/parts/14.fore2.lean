set_option maxHeartbeats 4000000 in
set_option maxRecDepth 100000 in
theorem c_J7_fill_53178 (l : Launch) (dC : Nat → ClassId) (dI : Nat → Nat → Nat) (cI cD cR : ClassId) (a n : Nat) (g : Nat → Int32) (v : Int32) (sz : Nat) (hnn : n < 2 ^ 31) : Met l yJ7_fill_53178 wsJ7_fill_53178 ({ frames := 0, cells := 0, slots := 0, locals := 0 }) (pcR dC dI cI cD cR [.ref a, .int v] (fun H => H.size = sz ∧ va_P (dC, dI) vwCl ([(a, .inl (cI, n, .inl g))]) H ∧ va_D (fun _ => True) ([(a, .inl (cI, n, .inl g))]))) (va_Qv (fun (_ : Unit) => True) (fun (_ : Unit) T9 => va_P (dC, dI) vwCl ([(a, .inl (cI, n, .inl (fun _ => v)))]) T9.heap ∧ va_D (va_A ([(a, .inl (cI, n, .inl g))]) sz) ([(a, .inl (cI, n, .inl (fun _ => v)))])) (va_A ([(a, .inl (cI, n, .inl g))]) sz)) 0 0 (va_A ([(a, .inl (cI, n, .inl g))]) sz) := by
  refine Met.ofW (cc := cJ7_fill_53178) (maxL := 4) (ret := none) (by decide) rfl ?_
  intro p e s m args below meth c s₁ B hml hv
  obtain ⟨rfl, hH0, hCX⟩ := hv
  have hx := B.exec
  have hb := B.bytes
  have hr := B.returns
  have hts := atoms_spec (ws := wsJ7_fill_53178) B.pre
  have hown : s.vm.findClass RJ7 = some m.cls := findClass_of_methodNamed B.named
  have hlocks := B.notSynchronized
  have hK := hCX.1
  obtain ⟨hsz, hP, hD0⟩ := hH0
  subst hsz
  have hD := hD0.self (sz := s.heap.size)
  generalize hAe : va_A ([(a, .inl (cI, n, .inl g))]) s.heap.size = A at hD ⊢
  have hA : ∀ q : Nat, s.heap.size ≤ q → A q := fun q h => by rw [← hAe]; exact Or.inr h
  have hS : va_S A s.heap s.heap [] := va_S.rf
  have hP : va_P (dC, dI) vwCl ([(a, .inl (cI, n, .inl g))]) s.heap := hP
  have hl := lv_entry ([.ref a, .int v]) (n := 4) (Nat.le_of_ble_eq_true rfl)
  rw [lg_entry_eq]
  generalize (lg_sl ([.ref a, .int v]) ++ List.replicate (4 - (lg_sl ([.ref a, .int v])).length) Slot.unset).toArray = ls at hl ⊢
  have hl : lv_has ls 4 [(0, .ref a), (1, .int v)] := hl
  refine lv_iconst (v := nI 0) hx hb dJ7_fill_53178_0 (by decide +kernel) ?_
  refine lv_istore_n (lv' := [(2, .int (nI 0)), (0, .ref a), (1, .int v)]) hx hb dJ7_fill_53178_1 rfl hl (by decide) rfl (fun ls hl => ?_)
  refine lv_aload_n hx hb dJ7_fill_53178_2 rfl (lv_at hl 1 rfl) ?_
  refine va_alen (v := nI n) hx hb hK hP 0 0 rfl rfl rfl dJ7_fill_53178_3 ?_
  refine lv_istore_n (lv' := [(3, .int (nI n)), (2, .int (nI 0)), (0, .ref a), (1, .int v)]) hx hb dJ7_fill_53178_4 rfl hl (by decide) rfl (fun ls hl => ?_)
  rw [flU_0 g v] at hP hD
  refine ho_lpW (T := Nat) 4 (fun x9 => ([(a, .inl (cI, n, .inl (flU g v x9)))] : va_W)) (fun x9 => [(3, .int (nI n)), (2, .int (nI x9)), (0, .ref a), (1, .int v)]) (fun x9 => []) (fun x9 => (x9 ≤ n)) (fun x9 => n - x9) 0 (by omega) (lv_sub hl [0, 1, 2, 3] rfl) hP hD hS ?_
  intro fu5 i H locs ls hI hm5 hP hD hS hl ih
  have hin := hI
  have hl : lv_has ls 4 [(3, .int (nI n)), (2, .int (nI i)), (0, .ref a), (1, .int v)] := hl
  have hin : i ≤ n := hin
  have hm5 : n - i < fu5 + 1 := hm5
  have hP : va_P (dC, dI) vwCl ([(a, .inl (cI, n, .inl (flU g v i)))]) H := hP
  have hD : va_D A ([(a, .inl (cI, n, .inl (flU g v i)))]) := hD
  refine W.eq (g2 := F0 m 5 ls []) rfl ?_
  have ih5 := ih
  refine lv_iload_n hx hb dJ7_fill_53178_5 rfl (lv_at hl 1 rfl) ?_
  refine lv_iload_n hx hb dJ7_fill_53178_6 rfl (lv_at hl 0 rfl) ?_
  refine ho_icmp_ge (tgt := 20) hx hb dJ7_fill_53178_7 (by decide) (by omega) (by omega) (fun c_7 => ?_) (fun c_7 => ?_)
  · have hP := ho_relab (g := (fun _ => v)) (fun j hj => by simp [flU, show j < i by omega]) hP
    have hD : va_D A [(a, .inl (cI, n, .inl (fun _ => v)))] := ho_relabD hD
    exact W.vret hx hb hr (fun T9 hT9 hW9 => ⟨⟨(), rfl, trivial, by rw [hT9]; exact hP, hD⟩, hS.F hT9⟩) hS.2.2 dJ7_fill_53178_20
  refine lv_aload_n hx hb dJ7_fill_53178_10 rfl (lv_at hl 2 rfl) ?_
  refine lv_iload_n hx hb dJ7_fill_53178_11 rfl (lv_at hl 1 rfl) ?_
  refine lv_iload_n hx hb dJ7_fill_53178_12 rfl (lv_at hl 3 rfl) ?_
  refine ho_iast (g := upd (flU g v i) i v) hx hb hK hP hD hS 0 0 rfl rfl (by omega) (by first | decide | omega) rfl dJ7_fill_53178_13 (fun H locs hP hD hS => ?_)
  have hP : va_P (dC, dI) vwCl ([(a, .inl (cI, n, .inl (upd (flU g v i) i v)))]) H := hP
  have hD : va_D A ([(a, .inl (cI, n, .inl (upd (flU g v i) i v)))]) := hD
  refine ho_iinc (lv' := [(2, .int (nI (i + 1))), (3, .int (nI n)), (0, .ref a), (1, .int v)]) (a := i) (b := 1) hx hb dJ7_fill_53178_14 hl (k := 1) rfl rfl (by decide) rfl (fun ls hl => ?_)
  refine lv_goto (tgt := 5) hx hb dJ7_fill_53178_17 (by decide) ?_
  have hW9 : ([(a, .inl (cI, n, .inl (upd (flU g v i) i v)))] : va_W) = [(a, .inl (cI, n, .inl (flU g v (i + 1))))] := by rw [flU_up]
  rw [hW9] at hP hD
  exact ih5 (i + 1) _ _ _ (by omega) (show n - (i + 1) < fu5 from (by omega)) hP hD hS (lv_sub hl [1, 0, 2, 3] rfl)
set_option maxHeartbeats 4000000 in
set_option maxRecDepth 100000 in
theorem c_X4_plan (l : Launch) (dC : Nat → ClassId) (dI : Nat → Nat → Nat) (cI cD cR : ClassId) (fo l1 l2 l3 sa : Nat) (lk : Nat → Option Nat) (ef : Nat → Nat) (le : Nat → Option Nat) (goal : Nat) (b : Bool) (sz : Nat) (hsa : sa < 512) (glk : ∀ i v, lk i = some v → v < 512) (gef : ∀ i, ef i < 1000) (hgo : goal < 512) : Met l yX4_plan wsX4_plan ({ frames := 3, cells := 0, slots := 0, locals := 72 }) (pcR dC dI cI cD cR [.ref fo, .int (nI goal), .int (bI b)] (fun H => H.size = sz ∧ va_P (dC, dI) vwCl ((forW cI fo l1 l2 l3 sa lk ef le)) H ∧ va_D (fun _ => True) ((forW cI fo l1 l2 l3 sa lk ef le)))) (va_Qv (fun (_ : Unit) => True) (fun (_ : Unit) T9 => va_P (dC, dI) vwCl ((forW cI fo l1 l2 l3 sa lk ef (plD lk ef sa goal b le 512))) T9.heap ∧ va_D (va_A ((forW cI fo l1 l2 l3 sa lk ef le)) sz) ((forW cI fo l1 l2 l3 sa lk ef (plD lk ef sa goal b le 512)))) (va_A ((forW cI fo l1 l2 l3 sa lk ef le)) sz)) 0 0 (va_A ((forW cI fo l1 l2 l3 sa lk ef le)) sz) := by
  refine Met.ofW (cc := cX4_plan) (maxL := 4) (ret := none) (by decide) rfl ?_
  intro p e s m args below meth c s₁ B hml hv
  obtain ⟨rfl, hH0, hCX⟩ := hv
  have hx := B.exec
  have hb := B.bytes
  have hr := B.returns
  have hts := atoms_spec (ws := wsX4_plan) B.pre
  have hown : s.vm.findClass RX4 = some m.cls := findClass_of_methodNamed B.named
  have hlocks := B.notSynchronized
  have hK := hCX.1
  obtain ⟨hsz, hP, hD0⟩ := hH0
  subst hsz
  have hD := hD0.self (sz := s.heap.size)
  generalize hAe : va_A ((forW cI fo l1 l2 l3 sa lk ef le)) s.heap.size = A at hD ⊢
  have hA : ∀ q : Nat, s.heap.size ≤ q → A q := fun q h => by rw [← hAe]; exact Or.inr h
  have hS : va_S A s.heap s.heap [] := va_S.rf
  have hP : va_P (dC, dI) vwCl ((forW cI fo l1 l2 l3 sa lk ef le)) s.heap := hP
  have hl := lv_entry ([.ref fo, .int (nI goal), .int (bI b)]) (n := 4) (Nat.le_of_ble_eq_true rfl)
  rw [lg_entry_eq]
  generalize (lg_sl ([.ref fo, .int (nI goal), .int (bI b)]) ++ List.replicate (4 - (lg_sl ([.ref fo, .int (nI goal), .int (bI b)])).length) Slot.unset).toArray = ls at hl ⊢
  have hl : lv_has ls 4 [(0, .ref fo), (1, .int (nI goal)), (2, .int (bI b))] := hl
  refine lv_aload_n hx hb dX4_plan_0 rfl (lv_at hl 0 rfl) ?_
  refine va_get (D := (dC, dI)) (ci := 4) (v := .ref l3) (C := RX4) (T := TX4) (N := 4) hx hb hts (fun _ h => List.mem_cons_of_mem _ (List.mem_append_right _ h)) hown hK hP 0 rfl rfl 3 (by decide) (hts (.fieldLink RX4 18 "HoldsOnceDenied$Foresight" "least" "[I") (by decide +kernel)) (fun _ h9 => h9) rfl dX4_plan_1 ?_
  refine va_alen (v := nI 512) hx hb hK hP 3 0 rfl rfl rfl dX4_plan_4 ?_
  refine lv_iconst (v := nI 1) hx hb dX4_plan_5 (by decide +kernel) ?_
  refine ho_isub hx hb dX4_plan_6 (by omega) ?_
  refine lv_istore_n (lv' := [(3, .int (nI (512 - 1))), (0, .ref fo), (1, .int (nI goal)), (2, .int (bI b))]) hx hb dX4_plan_7 rfl hl (by decide) rfl (fun ls hl => ?_)
  have e9_3 : (nI (512 - 1) : Int32) = (nI (512 - 0) + (-1)) := by rfl
  rw [e9_3] at hl
  refine ho_lpW (T := Nat) 4 (fun x9 => ((forW cI fo l1 l2 l3 sa lk ef (plD lk ef sa goal b le x9)) : va_W)) (fun x9 => [(3, .int (nI (512 - x9) + (-1))), (0, .ref fo), (1, .int (nI goal)), (2, .int (bI b))]) (fun x9 => []) (fun x9 => (x9 ≤ 512)) (fun x9 => 512 - x9) 0 (by omega) (lv_sub hl [0, 1, 2, 3] rfl) hP hD hS ?_
  intro fu8 j H locs ls hI hm8 hP hD hS hl ih
  have hj := hI
  have hl : lv_has ls 4 [(3, .int (nI (512 - j) + (-1))), (0, .ref fo), (1, .int (nI goal)), (2, .int (bI b))] := hl
  have hj : j ≤ 512 := hj
  have hm8 : 512 - j < fu8 + 1 := hm8
  have hP : va_P (dC, dI) vwCl ((forW cI fo l1 l2 l3 sa lk ef (plD lk ef sa goal b le j))) H := hP
  have hD : va_D A ((forW cI fo l1 l2 l3 sa lk ef (plD lk ef sa goal b le j))) := hD
  refine W.eq (g2 := F0 m 8 ls []) rfl ?_
  have ih8 := ih
  rcases Nat.lt_or_ge j 512 with hjl | hjl; rotate_left
  · have e8 : nI (512 - j) + (-1) = (-1) := by rw [show 512 - j = 0 by omega]; decide
    rw [e8] at hl
    refine lv_iload_n hx hb dX4_plan_8 rfl (lv_at hl 0 rfl) ?_
    refine lv_if_lt (tgt := 53) hx hb dX4_plan_9 (by decide) (fun _ => ?_) (fun z => absurd z (by decide +kernel))
    have hW9 : ((forW cI fo l1 l2 l3 sa lk ef (plD lk ef sa goal b le j)) : va_W) = (forW cI fo l1 l2 l3 sa lk ef (plD lk ef sa goal b le 512)) := by rw [show j = 512 by omega]
    rw [hW9] at hP hD
    exact W.vret hx hb hr (fun T9 hT9 hW9 => ⟨⟨(), rfl, trivial, by rw [hT9]; exact hP, hD⟩, hS.F hT9⟩) hS.2.2 dX4_plan_53
  have e8 : nI (512 - j) + (-1) = nI (511 - j) := by rw [show 512 - j = (511 - j) + 1 by omega]; exact pk_m1 _
  rw [e8] at hl
  refine lv_iload_n hx hb dX4_plan_8 rfl (lv_at hl 0 rfl) ?_
  refine ho_if_lt0 hx hb dX4_plan_9 (tgt := 53) (by decide) (by omega) ?_
  refine lv_aload_n hx hb dX4_plan_12 rfl (lv_at hl 1 rfl) ?_
  refine va_get (D := (dC, dI)) (ci := 4) (v := .int (nI sa)) (C := RX4) (T := TX4) (N := 4) hx hb hts (fun _ h => List.mem_cons_of_mem _ (List.mem_append_right _ h)) hown hK hP 0 rfl rfl 0 (by decide) (hts (.fieldLink RX4 27 "HoldsOnceDenied$Foresight" "start" "I") (by decide +kernel)) (fun _ h9 => h9) rfl dX4_plan_13 ?_
  refine lv_iload_n hx hb dX4_plan_16 rfl (lv_at hl 0 rfl) ?_
  refine vp_callSi ((va_runSN (As := [.int (nI sa), .int (nI (511 - j))]) (rest := []) ⟨hx, hb, hml, hown, hts⟩ (c_X11_within l dC dI cI cD cR sa (511 - j) (by first | omega | assumption | exact gnd _ | exact gkn _ | exact Nat.lt_trans (gkn _) (by decide) | exact Nat.lt_trans (gnd _) (by decide) | exact Nat.lt_of_le_of_lt (pcN_le _) (by decide))) ⟨va_cnB (host := "HoldsOnceDenied") 2 hts gX4_plan_X11_within_n81 rfl rfl rfl (CX.nm hCX 10 rfl) (hts (.initialized RX11) (by decide +kernel)) (by decide +kernel) ⟨Nat.le_of_ble_eq_true rfl, Nat.le_of_ble_eq_true rfl⟩, (hts (.static yX11_within) (by decide +kernel)), trivial⟩ (preS_R hCX (trivial)) rfl rfl hl.1 rfl (lv_room (Nat.le_of_ble_eq_true rfl)) dX4_plan_17 ⟨Nat.le_of_ble_eq_true (by first | rfl | decide), Nat.le_of_ble_eq_true (by first | rfl | decide)⟩).run) (fun r_17 hr_17 => ?_)
  subst hr_17
  refine ho_beq (tgt := 47) hx hb dX4_plan_20 (by decide) (fun c_20 => ?_) (fun c_20 => ?_)
  · refine lv_iinc (v := nI (511 - j) + (-1)) (lv' := [(3, .int (nI (511 - j) + (-1))), (0, .ref fo), (1, .int (nI goal)), (2, .int (bI b))]) hx hb dX4_plan_47 hl (k := 0) rfl rfl (by decide) rfl (fun ls hl => ?_)
    refine lv_goto (tgt := 8) hx hb dX4_plan_50 (by decide) ?_
    have e9_3 : ((nI (511 - j) + (-1)) : Int32) = (nI (512 - (j + 1)) + (-1)) := by rw [show 512 - (j + 1) = 511 - j by omega]
    rw [e9_3] at hl
    have hW9 : ((forW cI fo l1 l2 l3 sa lk ef (plD lk ef sa goal b le j)) : va_W) = (forW cI fo l1 l2 l3 sa lk ef (plD lk ef sa goal b le (j + 1))) := by rw [show plD lk ef sa goal b le (j + 1) = _ from rfl]; simp only [plD, c_20, cond_true, cond_false, *]
    rw [hW9] at hP hD
    exact ih8 (j + 1) _ _ _ (by omega) (show 512 - (j + 1) < fu8 from (by omega)) hP hD hS (lv_sub hl [0, 1, 2, 3] rfl)
  refine lv_aload_n hx hb dX4_plan_23 rfl (lv_at hl 1 rfl) ?_
  refine va_get (D := (dC, dI)) (ci := 4) (v := .ref l3) (C := RX4) (T := TX4) (N := 4) hx hb hts (fun _ h => List.mem_cons_of_mem _ (List.mem_append_right _ h)) hown hK hP 0 rfl rfl 3 (by decide) (hts (.fieldLink RX4 18 "HoldsOnceDenied$Foresight" "least" "[I") (by decide +kernel)) (fun _ h9 => h9) rfl dX4_plan_24 ?_
  refine lv_iload_n hx hb dX4_plan_27 rfl (lv_at hl 0 rfl) ?_
  refine lv_iload_n hx hb dX4_plan_28 rfl (lv_at hl 2 rfl) ?_
  refine lv_iload_n hx hb dX4_plan_29 rfl (lv_at hl 0 rfl) ?_
  refine vp_callSi ((va_runSN (As := [.int (nI goal), .int (nI (511 - j))]) (rest := [.int (nI (511 - j)), .ref l3]) ⟨hx, hb, hml, hown, hts⟩ (c_X11_within l dC dI cI cD cR goal (511 - j) (by first | omega | assumption | exact gnd _ | exact gkn _ | exact Nat.lt_trans (gkn _) (by decide) | exact Nat.lt_trans (gnd _) (by decide) | exact Nat.lt_of_le_of_lt (pcN_le _) (by decide))) ⟨va_cnB (host := "HoldsOnceDenied") 2 hts gX4_plan_X11_within_n81 rfl rfl rfl (CX.nm hCX 10 rfl) (hts (.initialized RX11) (by decide +kernel)) (by decide +kernel) ⟨Nat.le_of_ble_eq_true rfl, Nat.le_of_ble_eq_true rfl⟩, (hts (.static yX11_within) (by decide +kernel)), trivial⟩ (preS_R hCX (trivial)) rfl rfl hl.1 rfl (lv_room (Nat.le_of_ble_eq_true rfl)) dX4_plan_30 ⟨Nat.le_of_ble_eq_true (by first | rfl | decide), Nat.le_of_ble_eq_true (by first | rfl | decide)⟩).run) (fun r_30 hr_30 => ?_)
  subst hr_30
  refine ho_beq (tgt := 40) hx hb dX4_plan_33 (by decide) (fun c_33 => ?_) (fun c_33 => ?_)
  · refine lv_aload_n hx hb dX4_plan_40 rfl (lv_at hl 1 rfl) ?_
    refine lv_iload_n hx hb dX4_plan_41 rfl (lv_at hl 0 rfl) ?_
    refine lv_iload_n hx hb dX4_plan_42 rfl (lv_at hl 3 rfl) ?_
    refine vp_callSi ((va_runV (As := [.int (nI (511 - j)), .int (bI b)]) (rest := [.int (nI (511 - j)), .ref l3]) ⟨hx, hb, hml, hown, hts⟩ (c_X4_leastFrom l dC dI cI cD cR fo l1 l2 l3 sa lk ef (plD lk ef sa goal b le j) (511 - j) b (by first | omega | assumption | exact gnd _ | exact gkn _ | exact Nat.lt_trans (gkn _) (by decide) | exact Nat.lt_trans (gnd _) (by decide) | exact Nat.lt_of_le_of_lt (pcN_le _) (by decide)) glk gef (by first | omega | assumption | exact gnd _ | exact gkn _ | exact Nat.lt_trans (gkn _) (by decide) | exact Nat.lt_trans (gnd _) (by decide) | exact Nat.lt_of_le_of_lt (pcN_le _) (by decide)) (fun s e v hs he hv => Nat.lt_of_le_of_lt (plD_lt gef j (by omega) _ v (by have h9 := or_ge (511 - j) s (chE_t he); omega) (or_512 (by omega) (bit_512 hs)) (sdf_or (by simpa using c_20)) hv) (by omega))) (cwV 2 hts gX4_plan_X4_leastFrom rfl rfl rfl (by decide +kernel) ⟨Nat.le_of_ble_eq_true rfl, Nat.le_of_ble_eq_true rfl⟩) (preV_R hCX (va_recv hK hP (ci := 4) (q0 := 0) rfl rfl) (hP)) rfl rfl hl.1 rfl (lv_room (Nat.le_of_ble_eq_true rfl)) dX4_plan_43 ⟨Nat.le_of_ble_eq_true (by first | rfl | decide), Nat.le_of_ble_eq_true (by first | rfl | decide)⟩).run) (fun r_43 hr_43 => ?_)
    subst hr_43
    refine ho_iast (g := oF (va_up (plD lk ef sa goal b le j) (511 - j) (lfF lk ef (plD lk ef sa goal b le j) b (511 - j) 9))) hx hb hK hP hD hS 3 0 rfl rfl (by omega) (by first | decide | omega) (oF_up _ _ (lfF lk ef (plD lk ef sa goal b le j) b (511 - j) 9)) dX4_plan_46 (fun H locs hP hD hS => ?_)
    have hP : va_P (dC, dI) vwCl ((forW cI fo l1 l2 l3 sa lk ef (va_up (plD lk ef sa goal b le j) (511 - j) (lfF lk ef (plD lk ef sa goal b le j) b (511 - j) 9)))) H := hP
    have hD : va_D A ((forW cI fo l1 l2 l3 sa lk ef (va_up (plD lk ef sa goal b le j) (511 - j) (lfF lk ef (plD lk ef sa goal b le j) b (511 - j) 9)))) := hD
    refine lv_iinc (v := nI (511 - j) + (-1)) (lv' := [(3, .int (nI (511 - j) + (-1))), (0, .ref fo), (1, .int (nI goal)), (2, .int (bI b))]) hx hb dX4_plan_47 hl (k := 0) rfl rfl (by decide) rfl (fun ls hl => ?_)
    refine lv_goto (tgt := 8) hx hb dX4_plan_50 (by decide) ?_
    have e9_3 : ((nI (511 - j) + (-1)) : Int32) = (nI (512 - (j + 1)) + (-1)) := by rw [show 512 - (j + 1) = 511 - j by omega]
    rw [e9_3] at hl
    have hW9 : ((forW cI fo l1 l2 l3 sa lk ef (va_up (plD lk ef sa goal b le j) (511 - j) (lfF lk ef (plD lk ef sa goal b le j) b (511 - j) 9))) : va_W) = (forW cI fo l1 l2 l3 sa lk ef (plD lk ef sa goal b le (j + 1))) := by rw [show plD lk ef sa goal b le (j + 1) = _ from rfl]; simp only [plD, c_20, cond_true, cond_false, *]
    rw [hW9] at hP hD
    exact ih8 (j + 1) _ _ _ (by omega) (show 512 - (j + 1) < fu8 from (by omega)) hP hD hS (lv_sub hl [0, 1, 2, 3] rfl)
  refine lv_iconst (v := nI 0) hx hb dX4_plan_36 (by decide +kernel) ?_
  refine lv_goto (tgt := 46) hx hb dX4_plan_37 (by decide) ?_
  refine ho_iast (g := oF (va_up (plD lk ef sa goal b le j) (511 - j) (some 0))) hx hb hK hP hD hS 3 0 rfl rfl (by omega) (by first | decide | omega) (oF_up _ _ (some 0)) dX4_plan_46 (fun H locs hP hD hS => ?_)
  have hP : va_P (dC, dI) vwCl ((forW cI fo l1 l2 l3 sa lk ef (va_up (plD lk ef sa goal b le j) (511 - j) (some 0)))) H := hP
  have hD : va_D A ((forW cI fo l1 l2 l3 sa lk ef (va_up (plD lk ef sa goal b le j) (511 - j) (some 0)))) := hD
  refine lv_iinc (v := nI (511 - j) + (-1)) (lv' := [(3, .int (nI (511 - j) + (-1))), (0, .ref fo), (1, .int (nI goal)), (2, .int (bI b))]) hx hb dX4_plan_47 hl (k := 0) rfl rfl (by decide) rfl (fun ls hl => ?_)
  refine lv_goto (tgt := 8) hx hb dX4_plan_50 (by decide) ?_
  have e9_3 : ((nI (511 - j) + (-1)) : Int32) = (nI (512 - (j + 1)) + (-1)) := by rw [show 512 - (j + 1) = 511 - j by omega]
  rw [e9_3] at hl
  have hW9 : ((forW cI fo l1 l2 l3 sa lk ef (va_up (plD lk ef sa goal b le j) (511 - j) (some 0))) : va_W) = (forW cI fo l1 l2 l3 sa lk ef (plD lk ef sa goal b le (j + 1))) := by rw [show plD lk ef sa goal b le (j + 1) = _ from rfl]; simp only [plD, c_20, cond_true, cond_false, *]
  rw [hW9] at hP hD
  exact ih8 (j + 1) _ _ _ (by omega) (show 512 - (j + 1) < fu8 from (by omega)) hP hD hS (lv_sub hl [0, 1, 2, 3] rfl)
set_option maxHeartbeats 4000000 in
set_option maxRecDepth 100000 in
theorem c_X4_consider (l : Launch) (dC : Nat → ClassId) (dI : Nat → Nat → Nat) (cI cD cR : ClassId) (fo l1 l2 l3 sa : Nat) (lk : Nat → Option Nat) (ef : Nat → Nat) (le : Nat → Option Nat) (h a1 a2 a3 a4 a5 n d t al day : Nat) (nd : Nat → Nat) (mk si : Nat → Int32) (kn : Nat → Nat) (mb : Nat → Option Nat) (DL : List Nat) (kd fg : Nat → Nat) (q a kq : Nat) (sz : Nat) (hn : n ≤ 9) (hd : d ≤ 6) (ht : t < 512) (hal : al < 64) (hday : day < 2 ^ 30) (gnd : ∀ i, nd i < 512) (gkn : ∀ j, kn j < 512) (gmb : ∀ j a, mb j = some a → a ∈ DL) (hq : q < 7) (hkq : kq < 512) (ga : a ∈ DL) (gro : ∀ a ∈ DL, ¬ va_A ((forW cI fo l1 l2 l3 sa lk ef le) ++ (schW cI cD h a1 a2 a3 a4 a5 n d t al day nd mk si kn mb)) sz a) : Met l yX4_consider wsX4_consider ({ frames := 4, cells := 0, slots := 0, locals := 93 }) (pcR dC dI cI cD cR [.ref fo, .int (nI q), .ref a, .int (nI kq), .ref h] (fun H => H.size = sz ∧ va_P (dC, dI) vwCl ((forW cI fo l1 l2 l3 sa lk ef le) ++ (schW cI cD h a1 a2 a3 a4 a5 n d t al day nd mk si kn mb)) H ∧ va_D (fun _ => True) ((forW cI fo l1 l2 l3 sa lk ef le) ++ (schW cI cD h a1 a2 a3 a4 a5 n d t al day nd mk si kn mb)) ∧ DP dC dI DL kd fg H)) (va_Qv (fun (_ : Unit) => True) (fun (_ : Unit) T9 => va_P (dC, dI) vwCl ((forW cI fo l1 l2 l3 sa (cnL (kd a) (fg a) kq q nd n lk) (cnE (kd a) (fg a) kq q nd n ef) le) ++ (schW cI cD h a1 a2 a3 a4 a5 n d t al day nd mk si kn mb)) T9.heap ∧ va_D (va_A ((forW cI fo l1 l2 l3 sa lk ef le) ++ (schW cI cD h a1 a2 a3 a4 a5 n d t al day nd mk si kn mb)) sz) ((forW cI fo l1 l2 l3 sa (cnL (kd a) (fg a) kq q nd n lk) (cnE (kd a) (fg a) kq q nd n ef) le) ++ (schW cI cD h a1 a2 a3 a4 a5 n d t al day nd mk si kn mb))) (va_A ((forW cI fo l1 l2 l3 sa lk ef le) ++ (schW cI cD h a1 a2 a3 a4 a5 n d t al day nd mk si kn mb)) sz)) 0 0 (va_A ((forW cI fo l1 l2 l3 sa lk ef le) ++ (schW cI cD h a1 a2 a3 a4 a5 n d t al day nd mk si kn mb)) sz) := by
  refine Met.ofW (cc := cX4_consider) (maxL := 8) (ret := none) (by decide) rfl ?_
  intro p e s m args below meth c s₁ B hml hv
  obtain ⟨rfl, hH0, hCX⟩ := hv
  have hx := B.exec
  have hb := B.bytes
  have hr := B.returns
  have hts := atoms_spec (ws := wsX4_consider) B.pre
  have hown : s.vm.findClass RX4 = some m.cls := findClass_of_methodNamed B.named
  have hlocks := B.notSynchronized
  have hK := hCX.1
  obtain ⟨hsz, hP, hD0, hDP0⟩ := hH0
  subst hsz
  have hD := hD0.self (sz := s.heap.size)
  generalize hAe : va_A ((forW cI fo l1 l2 l3 sa lk ef le) ++ (schW cI cD h a1 a2 a3 a4 a5 n d t al day nd mk si kn mb)) s.heap.size = A at hD ⊢
  have hA : ∀ q : Nat, s.heap.size ≤ q → A q := fun q h => by rw [← hAe]; exact Or.inr h
  have hS : va_S A s.heap s.heap [] := va_S.rf
  have hP : va_P (dC, dI) vwCl ((forW cI fo l1 l2 l3 sa lk ef le) ++ (schW cI cD h a1 a2 a3 a4 a5 n d t al day nd mk si kn mb)) s.heap := hP
  have hro : ∀ a ∈ DL, ¬ A a := by rw [← hAe]; exact gro
  have hDP := hDP0
  have hl := lv_entry ([.ref fo, .int (nI q), .ref a, .int (nI kq), .ref h]) (n := 8) (Nat.le_of_ble_eq_true rfl)
  rw [lg_entry_eq]
  generalize (lg_sl ([.ref fo, .int (nI q), .ref a, .int (nI kq), .ref h]) ++ List.replicate (8 - (lg_sl ([.ref fo, .int (nI q), .ref a, .int (nI kq), .ref h])).length) Slot.unset).toArray = ls at hl ⊢
  have hl : lv_has ls 8 [(0, .ref fo), (1, .int (nI q)), (2, .ref a), (3, .int (nI kq)), (4, .ref h)] := hl
  refine lv_aload_n hx hb dX4_consider_0 rfl (lv_at hl 2 rfl) ?_
  refine lv_ifnonnull (tgt := 5) hx hb dX4_consider_1 (by decide) ?_
  refine lv_iconst (v := nI 0) hx hb dX4_consider_5 (by decide +kernel) ?_
  refine lv_istore (lv' := [(5, .int (nI 0)), (0, .ref fo), (1, .int (nI q)), (2, .ref a), (3, .int (nI kq)), (4, .ref h)]) hx hb dX4_consider_6 hl (by decide) rfl (fun ls hl => ?_)
  refine ho_lpW (T := Nat) 8 (fun x9 => ((forW cI fo l1 l2 l3 sa (cnL (kd a) (fg a) kq q nd x9 lk) (cnE (kd a) (fg a) kq q nd x9 ef) le) ++ (schW cI cD h a1 a2 a3 a4 a5 n d t al day nd mk si kn mb) : va_W)) (fun x9 => [(5, .int (nI x9)), (0, .ref fo), (1, .int (nI q)), (2, .ref a), (3, .int (nI kq)), (4, .ref h)]) (fun x9 => []) (fun x9 => (x9 ≤ n)) (fun x9 => n - x9) 0 (by omega) (lv_sub hl [0, 1, 2, 3, 4, 5] rfl) hP hD hS ?_
  intro fu8 s9 H locs ls hI hm8 hP hD hS hl ih
  have hs9 := hI
  have hl : lv_has ls 8 [(5, .int (nI s9)), (0, .ref fo), (1, .int (nI q)), (2, .ref a), (3, .int (nI kq)), (4, .ref h)] := hl
  have hs9 : s9 ≤ n := hs9
  have hm8 : n - s9 < fu8 + 1 := hm8
  have hP : va_P (dC, dI) vwCl ((forW cI fo l1 l2 l3 sa (cnL (kd a) (fg a) kq q nd s9 lk) (cnE (kd a) (fg a) kq q nd s9 ef) le) ++ (schW cI cD h a1 a2 a3 a4 a5 n d t al day nd mk si kn mb)) H := hP
  have hD : va_D A ((forW cI fo l1 l2 l3 sa (cnL (kd a) (fg a) kq q nd s9 lk) (cnE (kd a) (fg a) kq q nd s9 ef) le) ++ (schW cI cD h a1 a2 a3 a4 a5 n d t al day nd mk si kn mb)) := hD
  refine W.eq (g2 := F0 m 8 ls []) rfl ?_
  have ih8 := ih
  refine lv_iload hx hb dX4_consider_8 (lv_at hl 0 rfl) ?_
  refine lv_aload hx hb dX4_consider_10 (lv_at hl 5 rfl) ?_
  refine vp_callSi ((va_runV (As := []) (rest := [.int (nI s9)]) ⟨hx, hb, hml, hown, hts⟩ (c_X9_countSentences l dC dI cI cD cR h a1 a2 a3 a4 a5 n d t al day nd mk si kn mb (by first | omega | assumption | exact gnd _ | exact gkn _ | exact Nat.lt_trans (gkn _) (by decide) | exact Nat.lt_trans (gnd _) (by decide) | exact Nat.lt_of_le_of_lt (pcN_le _) (by decide)) (by first | omega | assumption | exact gnd _ | exact gkn _ | exact Nat.lt_trans (gkn _) (by decide) | exact Nat.lt_trans (gnd _) (by decide) | exact Nat.lt_of_le_of_lt (pcN_le _) (by decide)) (by first | omega | assumption | exact gnd _ | exact gkn _ | exact Nat.lt_trans (gkn _) (by decide) | exact Nat.lt_trans (gnd _) (by decide) | exact Nat.lt_of_le_of_lt (pcN_le _) (by decide)) (by first | omega | assumption | exact gnd _ | exact gkn _ | exact Nat.lt_trans (gkn _) (by decide) | exact Nat.lt_trans (gnd _) (by decide) | exact Nat.lt_of_le_of_lt (pcN_le _) (by decide)) (by first | omega | assumption | exact gnd _ | exact gkn _ | exact Nat.lt_trans (gkn _) (by decide) | exact Nat.lt_trans (gnd _) (by decide) | exact Nat.lt_of_le_of_lt (pcN_le _) (by decide)) gnd gkn) (cwV 0 hts gX4_consider_X9_countSentences rfl rfl rfl (by decide +kernel) ⟨Nat.le_of_ble_eq_true rfl, Nat.le_of_ble_eq_true rfl⟩) (preV_R hCX (va_recv hK hP (ci := 9) (q0 := 4) rfl rfl) ((hP.sub (ws' := (schW cI cD h a1 a2 a3 a4 a5 n d t al day nd mk si kn mb)) [4, 5, 6, 7, 8, 9] rfl))) rfl rfl hl.1 rfl (lv_room (Nat.le_of_ble_eq_true rfl)) dX4_consider_12 ⟨Nat.le_of_ble_eq_true (by first | rfl | decide), Nat.le_of_ble_eq_true (by first | rfl | decide)⟩).run) (fun r_12 hr_12 => ?_)
  subst hr_12
  try dsimp only
  refine ho_icmp_ge (tgt := 130) hx hb dX4_consider_15 (by decide) (by omega) (by omega) (fun c_15 => ?_) (fun c_15 => ?_)
  · have hW9 : ((forW cI fo l1 l2 l3 sa (cnL (kd a) (fg a) kq q nd s9 lk) (cnE (kd a) (fg a) kq q nd s9 ef) le) ++ (schW cI cD h a1 a2 a3 a4 a5 n d t al day nd mk si kn mb) : va_W) = (forW cI fo l1 l2 l3 sa (cnL (kd a) (fg a) kq q nd n lk) (cnE (kd a) (fg a) kq q nd n ef) le) ++ (schW cI cD h a1 a2 a3 a4 a5 n d t al day nd mk si kn mb) := by rw [show s9 = n by omega]
    rw [hW9] at hP hD
    exact W.vret hx hb hr (fun T9 hT9 hW9 => ⟨⟨(), rfl, trivial, by rw [hT9]; exact hP, hD⟩, hS.F hT9⟩) hS.2.2 dX4_consider_130
  refine lv_iload hx hb dX4_consider_18 (lv_at hl 0 rfl) ?_
  refine lv_bipush (v := nI 9) hx hb dX4_consider_20 (by decide +kernel) ?_
  refine ho_icmp_ge (tgt := 130) hx hb dX4_consider_22 (by decide) (by omega) (by omega) (fun c_22 => ?_) (fun c_22 => ?_)
  · exfalso; omega
  refine lv_aload hx hb dX4_consider_25 (lv_at hl 5 rfl) ?_
  refine lv_iload hx hb dX4_consider_27 (lv_at hl 0 rfl) ?_
  refine vp_callSi ((va_runV (As := [.int (nI s9)]) (rest := []) ⟨hx, hb, hml, hown, hts⟩ (c_X9_needsOf l dC dI cI cD cR h a1 a2 a3 a4 a5 n d t al day nd mk si kn mb s9 (by first | omega | assumption | exact gnd _ | exact gkn _ | exact Nat.lt_trans (gkn _) (by decide) | exact Nat.lt_trans (gnd _) (by decide) | exact Nat.lt_of_le_of_lt (pcN_le _) (by decide)) (by first | omega | assumption | exact gnd _ | exact gkn _ | exact Nat.lt_trans (gkn _) (by decide) | exact Nat.lt_trans (gnd _) (by decide) | exact Nat.lt_of_le_of_lt (pcN_le _) (by decide)) (by first | omega | assumption | exact gnd _ | exact gkn _ | exact Nat.lt_trans (gkn _) (by decide) | exact Nat.lt_trans (gnd _) (by decide) | exact Nat.lt_of_le_of_lt (pcN_le _) (by decide)) (by first | omega | assumption | exact gnd _ | exact gkn _ | exact Nat.lt_trans (gkn _) (by decide) | exact Nat.lt_trans (gnd _) (by decide) | exact Nat.lt_of_le_of_lt (pcN_le _) (by decide)) (by first | omega | assumption | exact gnd _ | exact gkn _ | exact Nat.lt_trans (gkn _) (by decide) | exact Nat.lt_trans (gnd _) (by decide) | exact Nat.lt_of_le_of_lt (pcN_le _) (by decide)) gnd gkn (by first | omega | assumption | exact gnd _ | exact gkn _ | exact Nat.lt_trans (gkn _) (by decide) | exact Nat.lt_trans (gnd _) (by decide) | exact Nat.lt_of_le_of_lt (pcN_le _) (by decide))) (cwV 1 hts gX4_consider_X9_needsOf rfl rfl rfl (by decide +kernel) ⟨Nat.le_of_ble_eq_true rfl, Nat.le_of_ble_eq_true rfl⟩) (preV_R hCX (va_recv hK hP (ci := 9) (q0 := 4) rfl rfl) ((hP.sub (ws' := (schW cI cD h a1 a2 a3 a4 a5 n d t al day nd mk si kn mb)) [4, 5, 6, 7, 8, 9] rfl))) rfl rfl hl.1 rfl (lv_room (Nat.le_of_ble_eq_true rfl)) dX4_consider_29 ⟨Nat.le_of_ble_eq_true (by first | rfl | decide), Nat.le_of_ble_eq_true (by first | rfl | decide)⟩).run) (fun r_29 hr_29 => ?_)
  subst hr_29
  refine lv_istore (lv' := [(6, .int (nI (nd s9))), (5, .int (nI s9)), (0, .ref fo), (1, .int (nI q)), (2, .ref a), (3, .int (nI kq)), (4, .ref h)]) hx hb dX4_consider_32 hl (by decide) rfl (fun ls hl => ?_)
  refine lv_iload_n hx hb dX4_consider_34 rfl (lv_at hl 3 rfl) ?_
  refine lv_bipush (v := nI 9) hx hb dX4_consider_35 (by decide +kernel) ?_
  refine ho_imul hx hb dX4_consider_37 ?_
  refine lv_iload hx hb dX4_consider_38 (lv_at hl 1 rfl) ?_
  refine ho_iadd hx hb dX4_consider_40 ?_
  refine lv_istore (lv' := [(7, .int (nI ((q * 9) + s9))), (6, .int (nI (nd s9))), (5, .int (nI s9)), (0, .ref fo), (1, .int (nI q)), (2, .ref a), (3, .int (nI kq)), (4, .ref h)]) hx hb dX4_consider_41 hl (by decide) rfl (fun ls hl => ?_)
  refine lv_iload hx hb dX4_consider_43 (lv_at hl 0 rfl) ?_
  refine ho_if_lt0 hx hb dX4_consider_45 (tgt := 124) (by decide) (by omega) ?_
  refine lv_iload hx hb dX4_consider_48 (lv_at hl 0 rfl) ?_
  refine lv_aload_n hx hb dX4_consider_50 rfl (lv_at hl 3 rfl) ?_
  refine va_get (D := (dC, dI)) (ci := 4) (v := .ref l1) (C := RX4) (T := TX4) (N := 4) hx hb hts (fun _ h => List.mem_cons_of_mem _ (List.mem_append_left _ (List.mem_append_left _ (List.mem_append_left _ (List.mem_append_left _ (List.mem_append_left _ (List.mem_append_left _ (List.mem_append_left _ (List.mem_append_left _ (List.mem_append_left _ (List.mem_append_right _ h))))))))))) hown hK hP 0 rfl rfl 1 (by decide) (hts (.fieldLink RX4 11 "HoldsOnceDenied$Foresight" "lacks" "[I") (by decide +kernel)) (fun _ h9 => h9) rfl dX4_consider_51 ?_
  refine va_alen (v := nI 63) hx hb hK hP 1 0 rfl rfl rfl dX4_consider_54 ?_
  refine ho_icmp_ge (tgt := 124) hx hb dX4_consider_55 (by decide) (by omega) (by omega) (fun c_55 => ?_) (fun c_55 => ?_)
  · exfalso; omega
  refine lv_iload hx hb dX4_consider_58 (lv_at hl 0 rfl) ?_
  refine lv_aload_n hx hb dX4_consider_60 rfl (lv_at hl 3 rfl) ?_
  refine va_get (D := (dC, dI)) (ci := 4) (v := .ref l2) (C := RX4) (T := TX4) (N := 4) hx hb hts (fun _ h => List.mem_cons_of_mem _ (List.mem_append_left _ (List.mem_append_left _ (List.mem_append_left _ (List.mem_append_left _ (List.mem_append_left _ (List.mem_append_left _ (List.mem_append_left _ (List.mem_append_left _ (List.mem_append_left _ (List.mem_append_right _ h))))))))))) hown hK hP 0 rfl rfl 2 (by decide) (hts (.fieldLink RX4 15 "HoldsOnceDenied$Foresight" "efforts" "[I") (by decide +kernel)) (fun _ h9 => h9) rfl dX4_consider_61 ?_
  refine va_alen (v := nI 63) hx hb hK hP 2 0 rfl rfl rfl dX4_consider_64 ?_
  refine ho_icmp_ge (tgt := 124) hx hb dX4_consider_65 (by decide) (by omega) (by omega) (fun c_65 => ?_) (fun c_65 => ?_)
  · exfalso; omega
  refine lv_aload_n hx hb dX4_consider_68 rfl (lv_at hl 5 rfl) ?_
  refine lv_iload hx hb dX4_consider_69 (lv_at hl 2 rfl) ?_
  refine lv_iload hx hb dX4_consider_71 (lv_at hl 1 rfl) ?_
  refine lv_iload_n hx hb dX4_consider_73 rfl (lv_at hl 6 rfl) ?_
  refine lv_iload hx hb dX4_consider_74 (lv_at hl 1 rfl) ?_
  refine ho_via (g2 := F0 m 79 ls [.int (bI (maB (kd a) (fg a) (nd s9) kq (nd s9) s9))]) (fun K9 => ?_) ?_
  · obtain ⟨hPa, hka, hfa⟩ := (DP.keep hDP0 hro hS) _ ga
    generalize hkk : kd a = kk at hPa hka K9
    generalize hff : fg a = ff at hPa hfa K9
    rcases (show kk = 0 ∨ kk = 1 ∨ kk = 2 ∨ kk = 3 ∨ kk = 4 ∨ kk = 5 ∨ kk = 6 ∨ kk = 7 by omega) with rfl | rfl | rfl | rfl | rfl | rfl | rfl | rfl
    · refine vp_callSi ((va_runV (As := [.int (nI s9), .int (nI (nd s9)), .int (nI kq), .int (nI (nd s9))]) (rest := []) ⟨hx, hb, hml, hown, hts⟩ (c_X2_mayDispute l dC dI cI cD cR a s9 (nd s9) kq (nd s9) (by first | omega | assumption | exact gnd _ | exact gkn _ | exact Nat.lt_trans (gkn _) (by decide) | exact Nat.lt_trans (gnd _) (by decide) | exact Nat.lt_of_le_of_lt (pcN_le _) (by decide)) (by first | omega | assumption | exact gnd _ | exact gkn _ | exact Nat.lt_trans (gkn _) (by decide) | exact Nat.lt_trans (gnd _) (by decide) | exact Nat.lt_of_le_of_lt (pcN_le _) (by decide)) (by first | omega | assumption | exact gnd _ | exact gkn _ | exact Nat.lt_trans (gkn _) (by decide) | exact Nat.lt_trans (gnd _) (by decide) | exact Nat.lt_of_le_of_lt (pcN_le _) (by decide)) (by first | omega | assumption | exact gnd _ | exact gkn _ | exact Nat.lt_trans (gkn _) (by decide) | exact Nat.lt_trans (gnd _) (by decide) | exact Nat.lt_of_le_of_lt (pcN_le _) (by decide))) (cwV 4 hts gX4_consider_X2_mayDispute rfl rfl rfl (by decide +kernel) ⟨Nat.le_of_ble_eq_true rfl, Nat.le_of_ble_eq_true rfl⟩) (preV_R hCX (va_recv hK hPa (ci := 2) (q0 := 0) rfl rfl) (trivial)) rfl rfl hl.1 rfl (lv_room (Nat.le_of_ble_eq_true rfl)) dX4_consider_76 ⟨Nat.le_of_ble_eq_true (by first | rfl | decide), Nat.le_of_ble_eq_true (by first | rfl | decide)⟩).run) (fun r9 hr9 => ?_)
      subst hr9
      exact K9
    · refine vp_callSi ((va_runU (As := [.int (nI s9), .int (nI (nd s9)), .int (nI kq), .int (nI (nd s9))]) (rest := []) ⟨hx, hb, hml, hown, hts⟩ (c_X3_mayDispute l dC dI cI cD cR a s9 (nd s9) kq (nd s9) (by first | omega | assumption | exact gnd _ | exact gkn _ | exact Nat.lt_trans (gkn _) (by decide) | exact Nat.lt_trans (gnd _) (by decide) | exact Nat.lt_of_le_of_lt (pcN_le _) (by decide)) (by first | omega | assumption | exact gnd _ | exact gkn _ | exact Nat.lt_trans (gkn _) (by decide) | exact Nat.lt_trans (gnd _) (by decide) | exact Nat.lt_of_le_of_lt (pcN_le _) (by decide)) (by first | omega | assumption | exact gnd _ | exact gkn _ | exact Nat.lt_trans (gkn _) (by decide) | exact Nat.lt_trans (gnd _) (by decide) | exact Nat.lt_of_le_of_lt (pcN_le _) (by decide)) (by first | omega | assumption | exact gnd _ | exact gkn _ | exact Nat.lt_trans (gkn _) (by decide) | exact Nat.lt_trans (gnd _) (by decide) | exact Nat.lt_of_le_of_lt (pcN_le _) (by decide))) (va_cwO 4 hts gX4_consider_X3_mayDispute_u59X3 rfl rfl rfl (b0 := cX2_mayDispute) (m0 := 5) (r0 := (some .boolean)) (by decide +kernel) (by decide +kernel) ⟨Nat.le_of_ble_eq_true rfl, Nat.le_of_ble_eq_true rfl⟩) (preV_R hCX (va_recv hK hPa (ci := 3) (q0 := 0) rfl rfl) (trivial)) rfl rfl hl.1 rfl (lv_room (Nat.le_of_ble_eq_true rfl)) dX4_consider_76 ⟨Nat.le_of_ble_eq_true (by first | rfl | decide), Nat.le_of_ble_eq_true (by first | rfl | decide)⟩).run) (fun r9 hr9 => ?_)
      subst hr9
      exact K9
    · refine vp_callSi ((va_runU (As := [.int (nI s9), .int (nI (nd s9)), .int (nI kq), .int (nI (nd s9))]) (rest := []) ⟨hx, hb, hml, hown, hts⟩ (c_X10_mayDispute_k2 l dC dI cI cD cR a ff s9 (nd s9) kq (nd s9) (by first | omega | assumption | exact gnd _ | exact gkn _ | exact Nat.lt_trans (gkn _) (by decide) | exact Nat.lt_trans (gnd _) (by decide) | exact Nat.lt_of_le_of_lt (pcN_le _) (by decide)) (by first | omega | assumption | exact gnd _ | exact gkn _ | exact Nat.lt_trans (gkn _) (by decide) | exact Nat.lt_trans (gnd _) (by decide) | exact Nat.lt_of_le_of_lt (pcN_le _) (by decide)) (by first | omega | assumption | exact gnd _ | exact gkn _ | exact Nat.lt_trans (gkn _) (by decide) | exact Nat.lt_trans (gnd _) (by decide) | exact Nat.lt_of_le_of_lt (pcN_le _) (by decide)) (by first | omega | assumption | exact gnd _ | exact gkn _ | exact Nat.lt_trans (gkn _) (by decide) | exact Nat.lt_trans (gnd _) (by decide) | exact Nat.lt_of_le_of_lt (pcN_le _) (by decide))) (va_cwO 4 hts gX4_consider_X10_mayDispute_u59X10 rfl rfl rfl (b0 := cX2_mayDispute) (m0 := 5) (r0 := (some .boolean)) (by decide +kernel) (by decide +kernel) ⟨Nat.le_of_ble_eq_true rfl, Nat.le_of_ble_eq_true rfl⟩) (preV_R hCX (va_recv hK hPa (ci := 10) (q0 := 0) rfl rfl) (hPa)) rfl rfl hl.1 rfl (lv_room (Nat.le_of_ble_eq_true rfl)) dX4_consider_76 ⟨Nat.le_of_ble_eq_true (by first | rfl | decide), Nat.le_of_ble_eq_true (by first | rfl | decide)⟩).run) (fun r9 hr9 => ?_)
      subst hr9
      exact K9
    · refine vp_callSi ((va_runU (As := [.int (nI s9), .int (nI (nd s9)), .int (nI kq), .int (nI (nd s9))]) (rest := []) ⟨hx, hb, hml, hown, hts⟩ (c_X1_mayDispute l dC dI cI cD cR a s9 (nd s9) kq (nd s9)) (va_cwO 4 hts gX4_consider_X1_mayDispute_u59X1 rfl rfl rfl (b0 := cX2_mayDispute) (m0 := 5) (r0 := (some .boolean)) (by decide +kernel) (by decide +kernel) ⟨Nat.le_of_ble_eq_true rfl, Nat.le_of_ble_eq_true rfl⟩) (preV_R hCX (va_recv hK hPa (ci := 1) (q0 := 0) rfl rfl) (trivial)) rfl rfl hl.1 rfl (lv_room (Nat.le_of_ble_eq_true rfl)) dX4_consider_76 ⟨Nat.le_of_ble_eq_true (by first | rfl | decide), Nat.le_of_ble_eq_true (by first | rfl | decide)⟩).run) (fun r9 hr9 => ?_)
      subst hr9
      exact K9
    · refine vp_callSi ((va_runU (As := [.int (nI s9), .int (nI (nd s9)), .int (nI kq), .int (nI (nd s9))]) (rest := []) ⟨hx, hb, hml, hown, hts⟩ (c_X5_mayDispute_k4 l dC dI cI cD cR a ff s9 (nd s9) kq (nd s9) (by first | omega | assumption | exact gnd _ | exact gkn _ | exact Nat.lt_trans (gkn _) (by decide) | exact Nat.lt_trans (gnd _) (by decide) | exact Nat.lt_of_le_of_lt (pcN_le _) (by decide)) (by first | omega | assumption | exact gnd _ | exact gkn _ | exact Nat.lt_trans (gkn _) (by decide) | exact Nat.lt_trans (gnd _) (by decide) | exact Nat.lt_of_le_of_lt (pcN_le _) (by decide)) (by first | omega | assumption | exact gnd _ | exact gkn _ | exact Nat.lt_trans (gkn _) (by decide) | exact Nat.lt_trans (gnd _) (by decide) | exact Nat.lt_of_le_of_lt (pcN_le _) (by decide)) (by first | omega | assumption | exact gnd _ | exact gkn _ | exact Nat.lt_trans (gkn _) (by decide) | exact Nat.lt_trans (gnd _) (by decide) | exact Nat.lt_of_le_of_lt (pcN_le _) (by decide)) (by omega)) (va_cwO 4 hts gX4_consider_X5_mayDispute_u59X5 rfl rfl rfl (b0 := cX2_mayDispute) (m0 := 5) (r0 := (some .boolean)) (by decide +kernel) (by decide +kernel) ⟨Nat.le_of_ble_eq_true rfl, Nat.le_of_ble_eq_true rfl⟩) (preV_R hCX (va_recv hK hPa (ci := 5) (q0 := 0) rfl rfl) (hPa)) rfl rfl hl.1 rfl (lv_room (Nat.le_of_ble_eq_true rfl)) dX4_consider_76 ⟨Nat.le_of_ble_eq_true (by first | rfl | decide), Nat.le_of_ble_eq_true (by first | rfl | decide)⟩).run) (fun r9 hr9 => ?_)
      subst hr9
      exact K9
    · refine vp_callSi ((va_runU (As := [.int (nI s9), .int (nI (nd s9)), .int (nI kq), .int (nI (nd s9))]) (rest := []) ⟨hx, hb, hml, hown, hts⟩ (c_X6_mayDispute l dC dI cI cD cR a ff s9 (nd s9) kq (nd s9) (by first | omega | assumption | exact gnd _ | exact gkn _ | exact Nat.lt_trans (gkn _) (by decide) | exact Nat.lt_trans (gnd _) (by decide) | exact Nat.lt_of_le_of_lt (pcN_le _) (by decide)) (by first | omega | assumption | exact gnd _ | exact gkn _ | exact Nat.lt_trans (gkn _) (by decide) | exact Nat.lt_trans (gnd _) (by decide) | exact Nat.lt_of_le_of_lt (pcN_le _) (by decide)) (by first | omega | assumption | exact gnd _ | exact gkn _ | exact Nat.lt_trans (gkn _) (by decide) | exact Nat.lt_trans (gnd _) (by decide) | exact Nat.lt_of_le_of_lt (pcN_le _) (by decide)) (by first | omega | assumption | exact gnd _ | exact gkn _ | exact Nat.lt_trans (gkn _) (by decide) | exact Nat.lt_trans (gnd _) (by decide) | exact Nat.lt_of_le_of_lt (pcN_le _) (by decide)) (by omega)) (va_cwO 4 hts gX4_consider_X6_mayDispute_u59X6 rfl rfl rfl (b0 := cX2_mayDispute) (m0 := 5) (r0 := (some .boolean)) (by decide +kernel) (by decide +kernel) ⟨Nat.le_of_ble_eq_true rfl, Nat.le_of_ble_eq_true rfl⟩) (preV_R hCX (va_recv hK hPa (ci := 6) (q0 := 0) rfl rfl) (hPa)) rfl rfl hl.1 rfl (lv_room (Nat.le_of_ble_eq_true rfl)) dX4_consider_76 ⟨Nat.le_of_ble_eq_true (by first | rfl | decide), Nat.le_of_ble_eq_true (by first | rfl | decide)⟩).run) (fun r9 hr9 => ?_)
      subst hr9
      exact K9
    · refine vp_callSi ((va_runU (As := [.int (nI s9), .int (nI (nd s9)), .int (nI kq), .int (nI (nd s9))]) (rest := []) ⟨hx, hb, hml, hown, hts⟩ (c_X7_mayDispute l dC dI cI cD cR a ff s9 (nd s9) kq (nd s9) (by first | omega | assumption | exact gnd _ | exact gkn _ | exact Nat.lt_trans (gkn _) (by decide) | exact Nat.lt_trans (gnd _) (by decide) | exact Nat.lt_of_le_of_lt (pcN_le _) (by decide)) (by first | omega | assumption | exact gnd _ | exact gkn _ | exact Nat.lt_trans (gkn _) (by decide) | exact Nat.lt_trans (gnd _) (by decide) | exact Nat.lt_of_le_of_lt (pcN_le _) (by decide)) (by first | omega | assumption | exact gnd _ | exact gkn _ | exact Nat.lt_trans (gkn _) (by decide) | exact Nat.lt_trans (gnd _) (by decide) | exact Nat.lt_of_le_of_lt (pcN_le _) (by decide)) (by first | omega | assumption | exact gnd _ | exact gkn _ | exact Nat.lt_trans (gkn _) (by decide) | exact Nat.lt_trans (gnd _) (by decide) | exact Nat.lt_of_le_of_lt (pcN_le _) (by decide)) (by omega)) (va_cwO 4 hts gX4_consider_X7_mayDispute_u59X7 rfl rfl rfl (b0 := cX2_mayDispute) (m0 := 5) (r0 := (some .boolean)) (by decide +kernel) (by decide +kernel) ⟨Nat.le_of_ble_eq_true rfl, Nat.le_of_ble_eq_true rfl⟩) (preV_R hCX (va_recv hK hPa (ci := 7) (q0 := 0) rfl rfl) (hPa)) rfl rfl hl.1 rfl (lv_room (Nat.le_of_ble_eq_true rfl)) dX4_consider_76 ⟨Nat.le_of_ble_eq_true (by first | rfl | decide), Nat.le_of_ble_eq_true (by first | rfl | decide)⟩).run) (fun r9 hr9 => ?_)
      subst hr9
      exact K9
    · refine vp_callSi ((va_runU (As := [.int (nI s9), .int (nI (nd s9)), .int (nI kq), .int (nI (nd s9))]) (rest := []) ⟨hx, hb, hml, hown, hts⟩ (c_X0_mayDispute l dC dI cI cD cR a ff s9 (nd s9) kq (nd s9) (by first | omega | assumption | exact gnd _ | exact gkn _ | exact Nat.lt_trans (gkn _) (by decide) | exact Nat.lt_trans (gnd _) (by decide) | exact Nat.lt_of_le_of_lt (pcN_le _) (by decide)) (by first | omega | assumption | exact gnd _ | exact gkn _ | exact Nat.lt_trans (gkn _) (by decide) | exact Nat.lt_trans (gnd _) (by decide) | exact Nat.lt_of_le_of_lt (pcN_le _) (by decide)) (by first | omega | assumption | exact gnd _ | exact gkn _ | exact Nat.lt_trans (gkn _) (by decide) | exact Nat.lt_trans (gnd _) (by decide) | exact Nat.lt_of_le_of_lt (pcN_le _) (by decide)) (by first | omega | assumption | exact gnd _ | exact gkn _ | exact Nat.lt_trans (gkn _) (by decide) | exact Nat.lt_trans (gnd _) (by decide) | exact Nat.lt_of_le_of_lt (pcN_le _) (by decide)) (by omega)) (va_cwO 4 hts gX4_consider_X0_mayDispute_u59X0 rfl rfl rfl (b0 := cX2_mayDispute) (m0 := 5) (r0 := (some .boolean)) (by decide +kernel) (by decide +kernel) ⟨Nat.le_of_ble_eq_true rfl, Nat.le_of_ble_eq_true rfl⟩) (preV_R hCX (va_recv hK hPa (ci := 0) (q0 := 0) rfl rfl) (hPa)) rfl rfl hl.1 rfl (lv_room (Nat.le_of_ble_eq_true rfl)) dX4_consider_76 ⟨Nat.le_of_ble_eq_true (by first | rfl | decide), Nat.le_of_ble_eq_true (by first | rfl | decide)⟩).run) (fun r9 hr9 => ?_)
      subst hr9
      exact K9
  refine ho_beq (tgt := 124) hx hb dX4_consider_79 (by decide) (fun c_79 => ?_) (fun c_79 => ?_)
  · refine ho_iinc (lv' := [(5, .int (nI (s9 + 1))), (7, .int (nI ((q * 9) + s9))), (6, .int (nI (nd s9))), (0, .ref fo), (1, .int (nI q)), (2, .ref a), (3, .int (nI kq)), (4, .ref h)]) (a := s9) (b := 1) hx hb dX4_consider_124 hl (k := 2) rfl rfl (by decide) rfl (fun ls hl => ?_)
    refine lv_goto (tgt := 8) hx hb dX4_consider_127 (by decide) ?_
    have hW9 : ((forW cI fo l1 l2 l3 sa (cnL (kd a) (fg a) kq q nd s9 lk) (cnE (kd a) (fg a) kq q nd s9 ef) le) ++ (schW cI cD h a1 a2 a3 a4 a5 n d t al day nd mk si kn mb) : va_W) = (forW cI fo l1 l2 l3 sa (cnL (kd a) (fg a) kq q nd (s9 + 1) lk) (cnE (kd a) (fg a) kq q nd (s9 + 1) ef) le) ++ (schW cI cD h a1 a2 a3 a4 a5 n d t al day nd mk si kn mb) := by first | rw [cnL_t c_79 c_92, cnE_t c_79 c_92] | rw [← cnL_f1 c_79, ← cnE_f1 c_79] | rw [← cnL_f2 c_92, ← cnE_f2 c_92]
    rw [hW9] at hP hD
    exact ih8 (s9 + 1) _ _ _ (by omega) (show n - (s9 + 1) < fu8 from (by omega)) hP hD hS (lv_sub hl [0, 3, 4, 5, 6, 7] rfl)
  refine lv_aload_n hx hb dX4_consider_82 rfl (lv_at hl 5 rfl) ?_
  refine lv_iload hx hb dX4_consider_83 (lv_at hl 1 rfl) ?_
  refine lv_iload_n hx hb dX4_consider_85 rfl (lv_at hl 6 rfl) ?_
  refine lv_iload hx hb dX4_consider_86 (lv_at hl 1 rfl) ?_
  refine lv_iconst (v := nI 0) hx hb dX4_consider_88 (by decide +kernel) ?_
  refine ho_via (g2 := F0 m 92 ls [.int (bI (siB (kd a) (nd s9) kq (nd s9) false))]) (fun K9 => ?_) ?_
  · obtain ⟨hPa, hka, hfa⟩ := (DP.keep hDP0 hro hS) _ ga
    generalize hkk : kd a = kk at hPa hka K9
    generalize hff : fg a = ff at hPa hfa K9
    rcases (show kk = 0 ∨ kk = 1 ∨ kk = 2 ∨ kk = 3 ∨ kk = 4 ∨ kk = 5 ∨ kk = 6 ∨ kk = 7 by omega) with rfl | rfl | rfl | rfl | rfl | rfl | rfl | rfl
    · refine vp_callSi ((va_runV (As := [.int (nI (nd s9)), .int (nI kq), .int (nI (nd s9)), .int (bI false)]) (rest := []) ⟨hx, hb, hml, hown, hts⟩ (c_X2_isSilenced l dC dI cI cD cR a (nd s9) kq (nd s9) false (by first | omega | assumption | exact gnd _ | exact gkn _ | exact Nat.lt_trans (gkn _) (by decide) | exact Nat.lt_trans (gnd _) (by decide) | exact Nat.lt_of_le_of_lt (pcN_le _) (by decide)) (by first | omega | assumption | exact gnd _ | exact gkn _ | exact Nat.lt_trans (gkn _) (by decide) | exact Nat.lt_trans (gnd _) (by decide) | exact Nat.lt_of_le_of_lt (pcN_le _) (by decide)) (by first | omega | assumption | exact gnd _ | exact gkn _ | exact Nat.lt_trans (gkn _) (by decide) | exact Nat.lt_trans (gnd _) (by decide) | exact Nat.lt_of_le_of_lt (pcN_le _) (by decide))) (cwV 4 hts gX4_consider_X2_isSilenced rfl rfl rfl (by decide +kernel) ⟨Nat.le_of_ble_eq_true rfl, Nat.le_of_ble_eq_true rfl⟩) (preV_R hCX (va_recv hK hPa (ci := 2) (q0 := 0) rfl rfl) (trivial)) rfl rfl hl.1 rfl (lv_room (Nat.le_of_ble_eq_true rfl)) dX4_consider_89 ⟨Nat.le_of_ble_eq_true (by first | rfl | decide), Nat.le_of_ble_eq_true (by first | rfl | decide)⟩).run) (fun r9 hr9 => ?_)
      subst hr9
      exact K9
    · refine vp_callSi ((va_runU (As := [.int (nI (nd s9)), .int (nI kq), .int (nI (nd s9)), .int (bI false)]) (rest := []) ⟨hx, hb, hml, hown, hts⟩ (c_X2_isSilenced l dC dI cI cD cR a (nd s9) kq (nd s9) false (by first | omega | assumption | exact gnd _ | exact gkn _ | exact Nat.lt_trans (gkn _) (by decide) | exact Nat.lt_trans (gnd _) (by decide) | exact Nat.lt_of_le_of_lt (pcN_le _) (by decide)) (by first | omega | assumption | exact gnd _ | exact gkn _ | exact Nat.lt_trans (gkn _) (by decide) | exact Nat.lt_trans (gnd _) (by decide) | exact Nat.lt_of_le_of_lt (pcN_le _) (by decide)) (by first | omega | assumption | exact gnd _ | exact gkn _ | exact Nat.lt_trans (gkn _) (by decide) | exact Nat.lt_trans (gnd _) (by decide) | exact Nat.lt_of_le_of_lt (pcN_le _) (by decide))) (va_cwU 4 hts gX4_consider_X2_isSilenced_u65X3 rfl rfl rfl rfl (by decide +kernel) ⟨Nat.le_of_ble_eq_true rfl, Nat.le_of_ble_eq_true rfl⟩) (preV_R hCX (va_recv hK hPa (ci := 3) (q0 := 0) rfl rfl) (trivial)) rfl rfl hl.1 rfl (lv_room (Nat.le_of_ble_eq_true rfl)) dX4_consider_89 ⟨Nat.le_of_ble_eq_true (by first | rfl | decide), Nat.le_of_ble_eq_true (by first | rfl | decide)⟩).run) (fun r9 hr9 => ?_)
      subst hr9
      exact K9
    · refine vp_callSi ((va_runU (As := [.int (nI (nd s9)), .int (nI kq), .int (nI (nd s9)), .int (bI false)]) (rest := []) ⟨hx, hb, hml, hown, hts⟩ (c_X2_isSilenced l dC dI cI cD cR a (nd s9) kq (nd s9) false (by first | omega | assumption | exact gnd _ | exact gkn _ | exact Nat.lt_trans (gkn _) (by decide) | exact Nat.lt_trans (gnd _) (by decide) | exact Nat.lt_of_le_of_lt (pcN_le _) (by decide)) (by first | omega | assumption | exact gnd _ | exact gkn _ | exact Nat.lt_trans (gkn _) (by decide) | exact Nat.lt_trans (gnd _) (by decide) | exact Nat.lt_of_le_of_lt (pcN_le _) (by decide)) (by first | omega | assumption | exact gnd _ | exact gkn _ | exact Nat.lt_trans (gkn _) (by decide) | exact Nat.lt_trans (gnd _) (by decide) | exact Nat.lt_of_le_of_lt (pcN_le _) (by decide))) (va_cwU 4 hts gX4_consider_X2_isSilenced_u65X10 rfl rfl rfl rfl (by decide +kernel) ⟨Nat.le_of_ble_eq_true rfl, Nat.le_of_ble_eq_true rfl⟩) (preV_R hCX (va_recv hK hPa (ci := 10) (q0 := 0) rfl rfl) (trivial)) rfl rfl hl.1 rfl (lv_room (Nat.le_of_ble_eq_true rfl)) dX4_consider_89 ⟨Nat.le_of_ble_eq_true (by first | rfl | decide), Nat.le_of_ble_eq_true (by first | rfl | decide)⟩).run) (fun r9 hr9 => ?_)
      subst hr9
      exact K9
    · refine vp_callSi ((va_runU (As := [.int (nI (nd s9)), .int (nI kq), .int (nI (nd s9)), .int (bI false)]) (rest := []) ⟨hx, hb, hml, hown, hts⟩ (c_X1_isSilenced l dC dI cI cD cR a (nd s9) kq (nd s9) false) (va_cwO 4 hts gX4_consider_X1_isSilenced_u65X1 rfl rfl rfl (b0 := cX2_isSilenced) (m0 := 5) (r0 := (some .boolean)) (by decide +kernel) (by decide +kernel) ⟨Nat.le_of_ble_eq_true rfl, Nat.le_of_ble_eq_true rfl⟩) (preV_R hCX (va_recv hK hPa (ci := 1) (q0 := 0) rfl rfl) (trivial)) rfl rfl hl.1 rfl (lv_room (Nat.le_of_ble_eq_true rfl)) dX4_consider_89 ⟨Nat.le_of_ble_eq_true (by first | rfl | decide), Nat.le_of_ble_eq_true (by first | rfl | decide)⟩).run) (fun r9 hr9 => ?_)
      subst hr9
      exact K9
    · refine vp_callSi ((va_runU (As := [.int (nI (nd s9)), .int (nI kq), .int (nI (nd s9)), .int (bI false)]) (rest := []) ⟨hx, hb, hml, hown, hts⟩ (c_X2_isSilenced l dC dI cI cD cR a (nd s9) kq (nd s9) false (by first | omega | assumption | exact gnd _ | exact gkn _ | exact Nat.lt_trans (gkn _) (by decide) | exact Nat.lt_trans (gnd _) (by decide) | exact Nat.lt_of_le_of_lt (pcN_le _) (by decide)) (by first | omega | assumption | exact gnd _ | exact gkn _ | exact Nat.lt_trans (gkn _) (by decide) | exact Nat.lt_trans (gnd _) (by decide) | exact Nat.lt_of_le_of_lt (pcN_le _) (by decide)) (by first | omega | assumption | exact gnd _ | exact gkn _ | exact Nat.lt_trans (gkn _) (by decide) | exact Nat.lt_trans (gnd _) (by decide) | exact Nat.lt_of_le_of_lt (pcN_le _) (by decide))) (va_cwU 4 hts gX4_consider_X2_isSilenced_u65X5 rfl rfl rfl rfl (by decide +kernel) ⟨Nat.le_of_ble_eq_true rfl, Nat.le_of_ble_eq_true rfl⟩) (preV_R hCX (va_recv hK hPa (ci := 5) (q0 := 0) rfl rfl) (trivial)) rfl rfl hl.1 rfl (lv_room (Nat.le_of_ble_eq_true rfl)) dX4_consider_89 ⟨Nat.le_of_ble_eq_true (by first | rfl | decide), Nat.le_of_ble_eq_true (by first | rfl | decide)⟩).run) (fun r9 hr9 => ?_)
      subst hr9
      exact K9
    · refine vp_callSi ((va_runU (As := [.int (nI (nd s9)), .int (nI kq), .int (nI (nd s9)), .int (bI false)]) (rest := []) ⟨hx, hb, hml, hown, hts⟩ (c_X2_isSilenced l dC dI cI cD cR a (nd s9) kq (nd s9) false (by first | omega | assumption | exact gnd _ | exact gkn _ | exact Nat.lt_trans (gkn _) (by decide) | exact Nat.lt_trans (gnd _) (by decide) | exact Nat.lt_of_le_of_lt (pcN_le _) (by decide)) (by first | omega | assumption | exact gnd _ | exact gkn _ | exact Nat.lt_trans (gkn _) (by decide) | exact Nat.lt_trans (gnd _) (by decide) | exact Nat.lt_of_le_of_lt (pcN_le _) (by decide)) (by first | omega | assumption | exact gnd _ | exact gkn _ | exact Nat.lt_trans (gkn _) (by decide) | exact Nat.lt_trans (gnd _) (by decide) | exact Nat.lt_of_le_of_lt (pcN_le _) (by decide))) (va_cwU 4 hts gX4_consider_X2_isSilenced_u65X6 rfl rfl rfl rfl (by decide +kernel) ⟨Nat.le_of_ble_eq_true rfl, Nat.le_of_ble_eq_true rfl⟩) (preV_R hCX (va_recv hK hPa (ci := 6) (q0 := 0) rfl rfl) (trivial)) rfl rfl hl.1 rfl (lv_room (Nat.le_of_ble_eq_true rfl)) dX4_consider_89 ⟨Nat.le_of_ble_eq_true (by first | rfl | decide), Nat.le_of_ble_eq_true (by first | rfl | decide)⟩).run) (fun r9 hr9 => ?_)
      subst hr9
      exact K9
    · refine vp_callSi ((va_runU (As := [.int (nI (nd s9)), .int (nI kq), .int (nI (nd s9)), .int (bI false)]) (rest := []) ⟨hx, hb, hml, hown, hts⟩ (c_X2_isSilenced l dC dI cI cD cR a (nd s9) kq (nd s9) false (by first | omega | assumption | exact gnd _ | exact gkn _ | exact Nat.lt_trans (gkn _) (by decide) | exact Nat.lt_trans (gnd _) (by decide) | exact Nat.lt_of_le_of_lt (pcN_le _) (by decide)) (by first | omega | assumption | exact gnd _ | exact gkn _ | exact Nat.lt_trans (gkn _) (by decide) | exact Nat.lt_trans (gnd _) (by decide) | exact Nat.lt_of_le_of_lt (pcN_le _) (by decide)) (by first | omega | assumption | exact gnd _ | exact gkn _ | exact Nat.lt_trans (gkn _) (by decide) | exact Nat.lt_trans (gnd _) (by decide) | exact Nat.lt_of_le_of_lt (pcN_le _) (by decide))) (va_cwU 4 hts gX4_consider_X2_isSilenced_u65X7 rfl rfl rfl rfl (by decide +kernel) ⟨Nat.le_of_ble_eq_true rfl, Nat.le_of_ble_eq_true rfl⟩) (preV_R hCX (va_recv hK hPa (ci := 7) (q0 := 0) rfl rfl) (trivial)) rfl rfl hl.1 rfl (lv_room (Nat.le_of_ble_eq_true rfl)) dX4_consider_89 ⟨Nat.le_of_ble_eq_true (by first | rfl | decide), Nat.le_of_ble_eq_true (by first | rfl | decide)⟩).run) (fun r9 hr9 => ?_)
      subst hr9
      exact K9
    · refine vp_callSi ((va_runU (As := [.int (nI (nd s9)), .int (nI kq), .int (nI (nd s9)), .int (bI false)]) (rest := []) ⟨hx, hb, hml, hown, hts⟩ (c_X0_isSilenced l dC dI cI cD cR a ff (nd s9) kq (nd s9) false (by first | omega | assumption | exact gnd _ | exact gkn _ | exact Nat.lt_trans (gkn _) (by decide) | exact Nat.lt_trans (gnd _) (by decide) | exact Nat.lt_of_le_of_lt (pcN_le _) (by decide)) (by first | omega | assumption | exact gnd _ | exact gkn _ | exact Nat.lt_trans (gkn _) (by decide) | exact Nat.lt_trans (gnd _) (by decide) | exact Nat.lt_of_le_of_lt (pcN_le _) (by decide)) (by first | omega | assumption | exact gnd _ | exact gkn _ | exact Nat.lt_trans (gkn _) (by decide) | exact Nat.lt_trans (gnd _) (by decide) | exact Nat.lt_of_le_of_lt (pcN_le _) (by decide))) (va_cwO 4 hts gX4_consider_X0_isSilenced_u65X0 rfl rfl rfl (b0 := cX2_isSilenced) (m0 := 5) (r0 := (some .boolean)) (by decide +kernel) (by decide +kernel) ⟨Nat.le_of_ble_eq_true rfl, Nat.le_of_ble_eq_true rfl⟩) (preV_R hCX (va_recv hK hPa (ci := 0) (q0 := 0) rfl rfl) (hPa)) rfl rfl hl.1 rfl (lv_room (Nat.le_of_ble_eq_true rfl)) dX4_consider_89 ⟨Nat.le_of_ble_eq_true (by first | rfl | decide), Nat.le_of_ble_eq_true (by first | rfl | decide)⟩).run) (fun r9 hr9 => ?_)
      subst hr9
      exact K9
  refine ho_beq (tgt := 124) hx hb dX4_consider_92 (by decide) (fun c_92 => ?_) (fun c_92 => ?_)
  · refine ho_iinc (lv' := [(5, .int (nI (s9 + 1))), (7, .int (nI ((q * 9) + s9))), (6, .int (nI (nd s9))), (0, .ref fo), (1, .int (nI q)), (2, .ref a), (3, .int (nI kq)), (4, .ref h)]) (a := s9) (b := 1) hx hb dX4_consider_124 hl (k := 2) rfl rfl (by decide) rfl (fun ls hl => ?_)
    refine lv_goto (tgt := 8) hx hb dX4_consider_127 (by decide) ?_
    have hW9 : ((forW cI fo l1 l2 l3 sa (cnL (kd a) (fg a) kq q nd s9 lk) (cnE (kd a) (fg a) kq q nd s9 ef) le) ++ (schW cI cD h a1 a2 a3 a4 a5 n d t al day nd mk si kn mb) : va_W) = (forW cI fo l1 l2 l3 sa (cnL (kd a) (fg a) kq q nd (s9 + 1) lk) (cnE (kd a) (fg a) kq q nd (s9 + 1) ef) le) ++ (schW cI cD h a1 a2 a3 a4 a5 n d t al day nd mk si kn mb) := by first | rw [cnL_t c_79 c_92, cnE_t c_79 c_92] | rw [← cnL_f1 c_79, ← cnE_f1 c_79] | rw [← cnL_f2 c_92, ← cnE_f2 c_92]
    rw [hW9] at hP hD
    exact ih8 (s9 + 1) _ _ _ (by omega) (show n - (s9 + 1) < fu8 from (by omega)) hP hD hS (lv_sub hl [0, 3, 4, 5, 6, 7] rfl)
  refine lv_aload_n hx hb dX4_consider_95 rfl (lv_at hl 3 rfl) ?_
  refine va_get (D := (dC, dI)) (ci := 4) (v := .ref l1) (C := RX4) (T := TX4) (N := 4) hx hb hts (fun _ h => List.mem_cons_of_mem _ (List.mem_append_left _ (List.mem_append_left _ (List.mem_append_left _ (List.mem_append_left _ (List.mem_append_left _ (List.mem_append_left _ (List.mem_append_left _ (List.mem_append_left _ (List.mem_append_left _ (List.mem_append_right _ h))))))))))) hown hK hP 0 rfl rfl 1 (by decide) (hts (.fieldLink RX4 11 "HoldsOnceDenied$Foresight" "lacks" "[I") (by decide +kernel)) (fun _ h9 => h9) rfl dX4_consider_96 ?_
  refine lv_iload hx hb dX4_consider_99 (lv_at hl 0 rfl) ?_
  refine lv_iload hx hb dX4_consider_101 (lv_at hl 1 rfl) ?_
  refine lv_iload_n hx hb dX4_consider_103 rfl (lv_at hl 6 rfl) ?_
  refine lv_iconst (v := (-1)) hx hb dX4_consider_104 (by decide +kernel) ?_
  refine lv_ixor hx hb dX4_consider_105 ?_
  refine ho_iandC hx hb dX4_consider_106 ?_
  refine ho_iast (g := oMF (va_up (cnL (kd a) (fg a) kq q nd s9 lk) ((q * 9) + s9) (some (sdf (nd s9) kq)))) hx hb hK hP hD hS 1 0 rfl rfl (by omega) (by first | decide | omega) (oMF_up _ _ (some (sdf (nd s9) kq))) dX4_consider_107 (fun H locs hP hD hS => ?_)
  have hP : va_P (dC, dI) vwCl ((forW cI fo l1 l2 l3 sa (va_up (cnL (kd a) (fg a) kq q nd s9 lk) ((q * 9) + s9) (some (sdf (nd s9) kq))) (cnE (kd a) (fg a) kq q nd s9 ef) le) ++ (schW cI cD h a1 a2 a3 a4 a5 n d t al day nd mk si kn mb)) H := hP
  have hD : va_D A ((forW cI fo l1 l2 l3 sa (va_up (cnL (kd a) (fg a) kq q nd s9 lk) ((q * 9) + s9) (some (sdf (nd s9) kq))) (cnE (kd a) (fg a) kq q nd s9 ef) le) ++ (schW cI cD h a1 a2 a3 a4 a5 n d t al day nd mk si kn mb)) := hD
  refine lv_aload_n hx hb dX4_consider_108 rfl (lv_at hl 3 rfl) ?_
  refine va_get (D := (dC, dI)) (ci := 4) (v := .ref l2) (C := RX4) (T := TX4) (N := 4) hx hb hts (fun _ h => List.mem_cons_of_mem _ (List.mem_append_left _ (List.mem_append_left _ (List.mem_append_left _ (List.mem_append_left _ (List.mem_append_left _ (List.mem_append_left _ (List.mem_append_left _ (List.mem_append_left _ (List.mem_append_left _ (List.mem_append_right _ h))))))))))) hown hK hP 0 rfl rfl 2 (by decide) (hts (.fieldLink RX4 15 "HoldsOnceDenied$Foresight" "efforts" "[I") (by decide +kernel)) (fun _ h9 => h9) rfl dX4_consider_109 ?_
  refine lv_iload hx hb dX4_consider_112 (lv_at hl 0 rfl) ?_
  refine lv_aload_n hx hb dX4_consider_114 rfl (lv_at hl 5 rfl) ?_
  refine lv_iload hx hb dX4_consider_115 (lv_at hl 1 rfl) ?_
  refine vp_callSi ((va_runS (As := [.int (nI (nd s9))]) (rest := [.ref a, .int (nI ((q * 9) + s9)), .ref l2]) ⟨hx, hb, hml, hown, hts⟩ (c_J6_bitCount_0f7a4 l dC dI cI cD cR (nd s9) (by first | omega | assumption | exact gnd _ | exact gkn _ | exact Nat.lt_trans (gkn _) (by decide) | exact Nat.lt_trans (gnd _) (by decide) | exact Nat.lt_of_le_of_lt (pcN_le _) (by decide))) (va_cwS 1 hts gX4_consider_J6_bitCount_0f7a4 rfl rfl rfl (by decide +kernel) ⟨Nat.le_of_ble_eq_true rfl, Nat.le_of_ble_eq_true rfl⟩) (preS_R hCX (trivial)) rfl rfl hl.1 rfl (lv_room (Nat.le_of_ble_eq_true rfl)) dX4_consider_117 ⟨Nat.le_of_ble_eq_true (by first | rfl | decide), Nat.le_of_ble_eq_true (by first | rfl | decide)⟩).run) (fun r_117 hr_117 => ?_)
  subst hr_117
  refine ho_via (g2 := F0 m 123 ls [.int (nI (efN (kd a) (fg a) (pcN (nd s9)))), .int (nI ((q * 9) + s9)), .ref l2]) (fun K9 => ?_) ?_
  · obtain ⟨hPa, hka, hfa⟩ := (DP.keep hDP0 hro hS) _ ga
    generalize hkk : kd a = kk at hPa hka K9
    generalize hff : fg a = ff at hPa hfa K9
    rcases (show kk = 0 ∨ kk = 1 ∨ kk = 2 ∨ kk = 3 ∨ kk = 4 ∨ kk = 5 ∨ kk = 6 ∨ kk = 7 by omega) with rfl | rfl | rfl | rfl | rfl | rfl | rfl | rfl
    · refine vp_callSi ((va_runV (As := [.int (nI (pcN (nd s9)))]) (rest := [.int (nI ((q * 9) + s9)), .ref l2]) ⟨hx, hb, hml, hown, hts⟩ (c_X2_effort l dC dI cI cD cR a (pcN (nd s9)) (by first | omega | assumption | exact gnd _ | exact gkn _ | exact Nat.lt_trans (gkn _) (by decide) | exact Nat.lt_trans (gnd _) (by decide) | exact Nat.lt_of_le_of_lt (pcN_le _) (by decide))) (cwV 1 hts gX4_consider_X2_effort rfl rfl rfl (by decide +kernel) ⟨Nat.le_of_ble_eq_true rfl, Nat.le_of_ble_eq_true rfl⟩) (preV_R hCX (va_recv hK hPa (ci := 2) (q0 := 0) rfl rfl) (trivial)) rfl rfl hl.1 rfl (lv_room (Nat.le_of_ble_eq_true rfl)) dX4_consider_120 ⟨Nat.le_of_ble_eq_true (by first | rfl | decide), Nat.le_of_ble_eq_true (by first | rfl | decide)⟩).run) (fun r9 hr9 => ?_)
      subst hr9
      exact K9
    · refine vp_callSi ((va_runU (As := [.int (nI (pcN (nd s9)))]) (rest := [.int (nI ((q * 9) + s9)), .ref l2]) ⟨hx, hb, hml, hown, hts⟩ (c_X3_effort_k1 l dC dI cI cD cR a ff (pcN (nd s9)) (by first | omega | assumption | exact gnd _ | exact gkn _ | exact Nat.lt_trans (gkn _) (by decide) | exact Nat.lt_trans (gnd _) (by decide) | exact Nat.lt_of_le_of_lt (pcN_le _) (by decide))) (va_cwO 1 hts gX4_consider_X3_effort_u74X3 rfl rfl rfl (b0 := cX2_effort) (m0 := 2) (r0 := (some .int)) (by decide +kernel) (by decide +kernel) ⟨Nat.le_of_ble_eq_true rfl, Nat.le_of_ble_eq_true rfl⟩) (preV_R hCX (va_recv hK hPa (ci := 3) (q0 := 0) rfl rfl) (hPa)) rfl rfl hl.1 rfl (lv_room (Nat.le_of_ble_eq_true rfl)) dX4_consider_120 ⟨Nat.le_of_ble_eq_true (by first | rfl | decide), Nat.le_of_ble_eq_true (by first | rfl | decide)⟩).run) (fun r9 hr9 => ?_)
      subst hr9
      exact K9
    · refine vp_callSi ((va_runU (As := [.int (nI (pcN (nd s9)))]) (rest := [.int (nI ((q * 9) + s9)), .ref l2]) ⟨hx, hb, hml, hown, hts⟩ (c_X10_effort l dC dI cI cD cR a (pcN (nd s9))) (va_cwO 1 hts gX4_consider_X10_effort_u74X10 rfl rfl rfl (b0 := cX2_effort) (m0 := 2) (r0 := (some .int)) (by decide +kernel) (by decide +kernel) ⟨Nat.le_of_ble_eq_true rfl, Nat.le_of_ble_eq_true rfl⟩) (preV_R hCX (va_recv hK hPa (ci := 10) (q0 := 0) rfl rfl) (trivial)) rfl rfl hl.1 rfl (lv_room (Nat.le_of_ble_eq_true rfl)) dX4_consider_120 ⟨Nat.le_of_ble_eq_true (by first | rfl | decide), Nat.le_of_ble_eq_true (by first | rfl | decide)⟩).run) (fun r9 hr9 => ?_)
      subst hr9
      exact K9
    · refine vp_callSi ((va_runU (As := [.int (nI (pcN (nd s9)))]) (rest := [.int (nI ((q * 9) + s9)), .ref l2]) ⟨hx, hb, hml, hown, hts⟩ (c_X3_effort_k3 l dC dI cI cD cR a ff (pcN (nd s9)) (by first | omega | assumption | exact gnd _ | exact gkn _ | exact Nat.lt_trans (gkn _) (by decide) | exact Nat.lt_trans (gnd _) (by decide) | exact Nat.lt_of_le_of_lt (pcN_le _) (by decide))) (va_cwO 1 hts gX4_consider_X3_effort_u74X1 rfl rfl rfl (b0 := cX2_effort) (m0 := 2) (r0 := (some .int)) (by decide +kernel) (by decide +kernel) ⟨Nat.le_of_ble_eq_true rfl, Nat.le_of_ble_eq_true rfl⟩) (preV_R hCX (va_recv hK hPa (ci := 1) (q0 := 0) rfl rfl) (hPa)) rfl rfl hl.1 rfl (lv_room (Nat.le_of_ble_eq_true rfl)) dX4_consider_120 ⟨Nat.le_of_ble_eq_true (by first | rfl | decide), Nat.le_of_ble_eq_true (by first | rfl | decide)⟩).run) (fun r9 hr9 => ?_)
      subst hr9
      exact K9
    · refine vp_callSi ((va_runU (As := [.int (nI (pcN (nd s9)))]) (rest := [.int (nI ((q * 9) + s9)), .ref l2]) ⟨hx, hb, hml, hown, hts⟩ (c_X5_effort_k4 l dC dI cI cD cR a ff (pcN (nd s9)) (by first | omega | assumption | exact gnd _ | exact gkn _ | exact Nat.lt_trans (gkn _) (by decide) | exact Nat.lt_trans (gnd _) (by decide) | exact Nat.lt_of_le_of_lt (pcN_le _) (by decide))) (va_cwO 1 hts gX4_consider_X5_effort_u74X5 rfl rfl rfl (b0 := cX2_effort) (m0 := 2) (r0 := (some .int)) (by decide +kernel) (by decide +kernel) ⟨Nat.le_of_ble_eq_true rfl, Nat.le_of_ble_eq_true rfl⟩) (preV_R hCX (va_recv hK hPa (ci := 5) (q0 := 0) rfl rfl) (hPa)) rfl rfl hl.1 rfl (lv_room (Nat.le_of_ble_eq_true rfl)) dX4_consider_120 ⟨Nat.le_of_ble_eq_true (by first | rfl | decide), Nat.le_of_ble_eq_true (by first | rfl | decide)⟩).run) (fun r9 hr9 => ?_)
      subst hr9
      exact K9
    · refine vp_callSi ((va_runU (As := [.int (nI (pcN (nd s9)))]) (rest := [.int (nI ((q * 9) + s9)), .ref l2]) ⟨hx, hb, hml, hown, hts⟩ (c_X6_effort l dC dI cI cD cR a ff (pcN (nd s9)) (by first | omega | assumption | exact gnd _ | exact gkn _ | exact Nat.lt_trans (gkn _) (by decide) | exact Nat.lt_trans (gnd _) (by decide) | exact Nat.lt_of_le_of_lt (pcN_le _) (by decide))) (va_cwO 1 hts gX4_consider_X6_effort_u74X6 rfl rfl rfl (b0 := cX2_effort) (m0 := 2) (r0 := (some .int)) (by decide +kernel) (by decide +kernel) ⟨Nat.le_of_ble_eq_true rfl, Nat.le_of_ble_eq_true rfl⟩) (preV_R hCX (va_recv hK hPa (ci := 6) (q0 := 0) rfl rfl) (hPa)) rfl rfl hl.1 rfl (lv_room (Nat.le_of_ble_eq_true rfl)) dX4_consider_120 ⟨Nat.le_of_ble_eq_true (by first | rfl | decide), Nat.le_of_ble_eq_true (by first | rfl | decide)⟩).run) (fun r9 hr9 => ?_)
      subst hr9
      exact K9
    · refine vp_callSi ((va_runU (As := [.int (nI (pcN (nd s9)))]) (rest := [.int (nI ((q * 9) + s9)), .ref l2]) ⟨hx, hb, hml, hown, hts⟩ (c_X7_effort l dC dI cI cD cR a ff (pcN (nd s9))) (va_cwO 1 hts gX4_consider_X7_effort_u74X7 rfl rfl rfl (b0 := cX2_effort) (m0 := 2) (r0 := (some .int)) (by decide +kernel) (by decide +kernel) ⟨Nat.le_of_ble_eq_true rfl, Nat.le_of_ble_eq_true rfl⟩) (preV_R hCX (va_recv hK hPa (ci := 7) (q0 := 0) rfl rfl) (hPa)) rfl rfl hl.1 rfl (lv_room (Nat.le_of_ble_eq_true rfl)) dX4_consider_120 ⟨Nat.le_of_ble_eq_true (by first | rfl | decide), Nat.le_of_ble_eq_true (by first | rfl | decide)⟩).run) (fun r9 hr9 => ?_)
      subst hr9
      exact K9
    · refine vp_callSi ((va_runU (As := [.int (nI (pcN (nd s9)))]) (rest := [.int (nI ((q * 9) + s9)), .ref l2]) ⟨hx, hb, hml, hown, hts⟩ (c_X0_effort l dC dI cI cD cR a ff (pcN (nd s9)) (by first | omega | assumption | exact gnd _ | exact gkn _ | exact Nat.lt_trans (gkn _) (by decide) | exact Nat.lt_trans (gnd _) (by decide) | exact Nat.lt_of_le_of_lt (pcN_le _) (by decide))) (va_cwO 1 hts gX4_consider_X0_effort_u74X0 rfl rfl rfl (b0 := cX2_effort) (m0 := 2) (r0 := (some .int)) (by decide +kernel) (by decide +kernel) ⟨Nat.le_of_ble_eq_true rfl, Nat.le_of_ble_eq_true rfl⟩) (preV_R hCX (va_recv hK hPa (ci := 0) (q0 := 0) rfl rfl) (hPa)) rfl rfl hl.1 rfl (lv_room (Nat.le_of_ble_eq_true rfl)) dX4_consider_120 ⟨Nat.le_of_ble_eq_true (by first | rfl | decide), Nat.le_of_ble_eq_true (by first | rfl | decide)⟩).run) (fun r9 hr9 => ?_)
      subst hr9
      exact K9
  refine ho_iast (g := nF (va_up (cnE (kd a) (fg a) kq q nd s9 ef) ((q * 9) + s9) (efN (kd a) (fg a) (pcN (nd s9))))) hx hb hK hP hD hS 2 0 rfl rfl (by omega) (by first | decide | omega) (nF_up _ _ _) dX4_consider_123 (fun H locs hP hD hS => ?_)
  have hP : va_P (dC, dI) vwCl ((forW cI fo l1 l2 l3 sa (va_up (cnL (kd a) (fg a) kq q nd s9 lk) ((q * 9) + s9) (some (sdf (nd s9) kq))) (va_up (cnE (kd a) (fg a) kq q nd s9 ef) ((q * 9) + s9) (efN (kd a) (fg a) (pcN (nd s9)))) le) ++ (schW cI cD h a1 a2 a3 a4 a5 n d t al day nd mk si kn mb)) H := hP
  have hD : va_D A ((forW cI fo l1 l2 l3 sa (va_up (cnL (kd a) (fg a) kq q nd s9 lk) ((q * 9) + s9) (some (sdf (nd s9) kq))) (va_up (cnE (kd a) (fg a) kq q nd s9 ef) ((q * 9) + s9) (efN (kd a) (fg a) (pcN (nd s9)))) le) ++ (schW cI cD h a1 a2 a3 a4 a5 n d t al day nd mk si kn mb)) := hD
  refine ho_iinc (lv' := [(5, .int (nI (s9 + 1))), (7, .int (nI ((q * 9) + s9))), (6, .int (nI (nd s9))), (0, .ref fo), (1, .int (nI q)), (2, .ref a), (3, .int (nI kq)), (4, .ref h)]) (a := s9) (b := 1) hx hb dX4_consider_124 hl (k := 2) rfl rfl (by decide) rfl (fun ls hl => ?_)
  refine lv_goto (tgt := 8) hx hb dX4_consider_127 (by decide) ?_
  have hW9 : ((forW cI fo l1 l2 l3 sa (va_up (cnL (kd a) (fg a) kq q nd s9 lk) ((q * 9) + s9) (some (sdf (nd s9) kq))) (va_up (cnE (kd a) (fg a) kq q nd s9 ef) ((q * 9) + s9) (efN (kd a) (fg a) (pcN (nd s9)))) le) ++ (schW cI cD h a1 a2 a3 a4 a5 n d t al day nd mk si kn mb) : va_W) = (forW cI fo l1 l2 l3 sa (cnL (kd a) (fg a) kq q nd (s9 + 1) lk) (cnE (kd a) (fg a) kq q nd (s9 + 1) ef) le) ++ (schW cI cD h a1 a2 a3 a4 a5 n d t al day nd mk si kn mb) := by first | rw [cnL_t c_79 c_92, cnE_t c_79 c_92] | rw [← cnL_f1 c_79, ← cnE_f1 c_79] | rw [← cnL_f2 c_92, ← cnE_f2 c_92]
  rw [hW9] at hP hD
  exact ih8 (s9 + 1) _ _ _ (by omega) (show n - (s9 + 1) < fu8 from (by omega)) hP hD hS (lv_sub hl [0, 3, 4, 5, 6, 7] rfl)
set_option maxHeartbeats 4000000 in
set_option maxRecDepth 100000 in
theorem c_X4_consider_0 (l : Launch) (dC : Nat → ClassId) (dI : Nat → Nat → Nat) (cI cD cR : ClassId) (fo l1 l2 l3 sa : Nat) (lk : Nat → Option Nat) (ef : Nat → Nat) (le : Nat → Option Nat) (h a1 a2 a3 a4 a5 n d t al day : Nat) (nd : Nat → Nat) (mk si : Nat → Int32) (kn : Nat → Nat) (mb : Nat → Option Nat) (DL : List Nat) (kd fg : Nat → Nat) (q kq : Nat) (sz : Nat) (hn : n ≤ 9) (hd : d ≤ 6) (ht : t < 512) (hal : al < 64) (hday : day < 2 ^ 30) (gnd : ∀ i, nd i < 512) (gkn : ∀ j, kn j < 512) (gmb : ∀ j a, mb j = some a → a ∈ DL) (gro : ∀ a ∈ DL, ¬ va_A ((forW cI fo l1 l2 l3 sa lk ef le) ++ (schW cI cD h a1 a2 a3 a4 a5 n d t al day nd mk si kn mb)) sz a) : Met l yX4_consider wsX4_consider ({ frames := 0, cells := 0, slots := 0, locals := 0 }) (pcR dC dI cI cD cR [.ref fo, .int (nI q), .null, .int (nI kq), .ref h] (fun H => H.size = sz ∧ va_P (dC, dI) vwCl ((forW cI fo l1 l2 l3 sa lk ef le) ++ (schW cI cD h a1 a2 a3 a4 a5 n d t al day nd mk si kn mb)) H ∧ va_D (fun _ => True) ((forW cI fo l1 l2 l3 sa lk ef le) ++ (schW cI cD h a1 a2 a3 a4 a5 n d t al day nd mk si kn mb)) ∧ DP dC dI DL kd fg H)) (va_Qv (fun (_ : Unit) => True) (fun (_ : Unit) T9 => va_P (dC, dI) vwCl ((forW cI fo l1 l2 l3 sa lk ef le) ++ (schW cI cD h a1 a2 a3 a4 a5 n d t al day nd mk si kn mb)) T9.heap ∧ va_D (va_A ((forW cI fo l1 l2 l3 sa lk ef le) ++ (schW cI cD h a1 a2 a3 a4 a5 n d t al day nd mk si kn mb)) sz) ((forW cI fo l1 l2 l3 sa lk ef le) ++ (schW cI cD h a1 a2 a3 a4 a5 n d t al day nd mk si kn mb))) (va_A ((forW cI fo l1 l2 l3 sa lk ef le) ++ (schW cI cD h a1 a2 a3 a4 a5 n d t al day nd mk si kn mb)) sz)) 0 0 (va_A ((forW cI fo l1 l2 l3 sa lk ef le) ++ (schW cI cD h a1 a2 a3 a4 a5 n d t al day nd mk si kn mb)) sz) := by
  refine Met.ofW (cc := cX4_consider) (maxL := 8) (ret := none) (by decide) rfl ?_
  intro p e s m args below meth c s₁ B hml hv
  obtain ⟨rfl, hH0, hCX⟩ := hv
  have hx := B.exec
  have hb := B.bytes
  have hr := B.returns
  have hts := atoms_spec (ws := wsX4_consider) B.pre
  have hown : s.vm.findClass RX4 = some m.cls := findClass_of_methodNamed B.named
  have hlocks := B.notSynchronized
  have hK := hCX.1
  obtain ⟨hsz, hP, hD0, hDP0⟩ := hH0
  subst hsz
  have hD := hD0.self (sz := s.heap.size)
  generalize hAe : va_A ((forW cI fo l1 l2 l3 sa lk ef le) ++ (schW cI cD h a1 a2 a3 a4 a5 n d t al day nd mk si kn mb)) s.heap.size = A at hD ⊢
  have hA : ∀ q : Nat, s.heap.size ≤ q → A q := fun q h => by rw [← hAe]; exact Or.inr h
  have hS : va_S A s.heap s.heap [] := va_S.rf
  have hP : va_P (dC, dI) vwCl ((forW cI fo l1 l2 l3 sa lk ef le) ++ (schW cI cD h a1 a2 a3 a4 a5 n d t al day nd mk si kn mb)) s.heap := hP
  have hro : ∀ a ∈ DL, ¬ A a := by rw [← hAe]; exact gro
  have hDP := hDP0
  have hl := lv_entry ([.ref fo, .int (nI q), .null, .int (nI kq), .ref h]) (n := 8) (Nat.le_of_ble_eq_true rfl)
  rw [lg_entry_eq]
  generalize (lg_sl ([.ref fo, .int (nI q), .null, .int (nI kq), .ref h]) ++ List.replicate (8 - (lg_sl ([.ref fo, .int (nI q), .null, .int (nI kq), .ref h])).length) Slot.unset).toArray = ls at hl ⊢
  have hl : lv_has ls 8 [(0, .ref fo), (1, .int (nI q)), (2, .null), (3, .int (nI kq)), (4, .ref h)] := hl
  refine lv_aload_nN hx hb dX4_consider_0 rfl (lv_at hl 2 rfl) ?_
  refine lv_ifnonnullN hx hb dX4_consider_1 ?_
  exact W.vret hx hb hr (fun T9 hT9 hW9 => ⟨⟨(), rfl, trivial, by rw [hT9]; exact hP, hD⟩, hS.F hT9⟩) hS.2.2 dX4_consider_4
set_option maxHeartbeats 4000000 in
set_option maxRecDepth 100000 in
theorem c_X4_look_0 (l : Launch) (dC : Nat → ClassId) (dI : Nat → Nat → Nat) (cI cD cR : ClassId) (fo l1 l2 l3 sa : Nat) (lk : Nat → Option Nat) (ef : Nat → Nat) (le : Nat → Option Nat) (h a1 a2 a3 a4 a5 n d t al day : Nat) (nd : Nat → Nat) (mk si : Nat → Int32) (kn : Nat → Nat) (mb : Nat → Option Nat) (DL : List Nat) (kd fg : Nat → Nat) (sz : Nat) (hn : n ≤ 9) (hd : d ≤ 6) (ht : t < 512) (hal : al < 64) (hday : day < 2 ^ 30) (gnd : ∀ i, nd i < 512) (gkn : ∀ j, kn j < 512) (gmb : ∀ j a, mb j = some a → a ∈ DL) (gro : ∀ a ∈ DL, ¬ va_A ((forW cI fo l1 l2 l3 sa lk ef le) ++ (schW cI cD h a1 a2 a3 a4 a5 n d t al day nd mk si kn mb)) sz a) : Met l yX4_look wsX4_look ({ frames := 5, cells := 0, slots := 0, locals := 120 }) (pcR dC dI cI cD cR [.ref fo, .ref h, .null] (fun H => H.size = sz ∧ va_P (dC, dI) vwCl ((forW cI fo l1 l2 l3 sa lk ef le) ++ (schW cI cD h a1 a2 a3 a4 a5 n d t al day nd mk si kn mb)) H ∧ va_D (fun _ => True) ((forW cI fo l1 l2 l3 sa lk ef le) ++ (schW cI cD h a1 a2 a3 a4 a5 n d t al day nd mk si kn mb)) ∧ DP dC dI DL kd fg H)) (va_Qv (fun (_ : Unit) => True) (fun (_ : Unit) T9 => va_P (dC, dI) vwCl ((forW cI fo l1 l2 l3 t (lkI n al nd kn mb kd fg 6) (efI n al nd kn mb kd fg ef 6) le) ++ (schW cI cD h a1 a2 a3 a4 a5 n d t al day nd mk si kn mb)) T9.heap ∧ va_D (va_A ((forW cI fo l1 l2 l3 sa lk ef le) ++ (schW cI cD h a1 a2 a3 a4 a5 n d t al day nd mk si kn mb)) sz) ((forW cI fo l1 l2 l3 t (lkI n al nd kn mb kd fg 6) (efI n al nd kn mb kd fg ef 6) le) ++ (schW cI cD h a1 a2 a3 a4 a5 n d t al day nd mk si kn mb))) (va_A ((forW cI fo l1 l2 l3 sa lk ef le) ++ (schW cI cD h a1 a2 a3 a4 a5 n d t al day nd mk si kn mb)) sz)) 0 0 (va_A ((forW cI fo l1 l2 l3 sa lk ef le) ++ (schW cI cD h a1 a2 a3 a4 a5 n d t al day nd mk si kn mb)) sz) := by
  refine Met.ofW (cc := cX4_look) (maxL := 4) (ret := none) (by decide) rfl ?_
  intro p e s m args below meth c s₁ B hml hv
  obtain ⟨rfl, hH0, hCX⟩ := hv
  have hx := B.exec
  have hb := B.bytes
  have hr := B.returns
  have hts := atoms_spec (ws := wsX4_look) B.pre
  have hown : s.vm.findClass RX4 = some m.cls := findClass_of_methodNamed B.named
  have hlocks := B.notSynchronized
  have hK := hCX.1
  obtain ⟨hsz, hP, hD0, hDP0⟩ := hH0
  subst hsz
  have hD := hD0.self (sz := s.heap.size)
  generalize hAe : va_A ((forW cI fo l1 l2 l3 sa lk ef le) ++ (schW cI cD h a1 a2 a3 a4 a5 n d t al day nd mk si kn mb)) s.heap.size = A at hD ⊢
  have hA : ∀ q : Nat, s.heap.size ≤ q → A q := fun q h => by rw [← hAe]; exact Or.inr h
  have hS : va_S A s.heap s.heap [] := va_S.rf
  have hP : va_P (dC, dI) vwCl ((forW cI fo l1 l2 l3 sa lk ef le) ++ (schW cI cD h a1 a2 a3 a4 a5 n d t al day nd mk si kn mb)) s.heap := hP
  have hro : ∀ a ∈ DL, ¬ A a := by rw [← hAe]; exact gro
  have hDP := hDP0
  have hl := lv_entry ([.ref fo, .ref h, .null]) (n := 4) (Nat.le_of_ble_eq_true rfl)
  rw [lg_entry_eq]
  generalize (lg_sl ([.ref fo, .ref h, .null]) ++ List.replicate (4 - (lg_sl ([.ref fo, .ref h, .null])).length) Slot.unset).toArray = ls at hl ⊢
  have hl : lv_has ls 4 [(0, .ref fo), (1, .ref h), (2, .null)] := hl
  refine lv_aload_n hx hb dX4_look_0 rfl (lv_at hl 0 rfl) ?_
  refine lv_aload_n hx hb dX4_look_1 rfl (lv_at hl 1 rfl) ?_
  refine va_getN (D := (dC, dI)) (ci := 9) (v := .int (nI t)) (C := RX9) (T := TX9) (N := 10) hx hb hts (fun _ h => List.mem_cons_of_mem _ (List.mem_append_left _ (List.mem_append_left _ (List.mem_append_left _ (List.mem_append_left _ (List.mem_append_left _ (List.mem_append_left _ (List.mem_append_left _ (List.mem_append_left _ (List.mem_append_left _ (List.mem_append_right _ h))))))))))) hown hK hP 4 rfl rfl 2 (by decide) (CX.nf hCX 0 rfl) (fun _ h9 => h9) rfl dX4_look_2 ?_
  refine va_put (D := (dC, dI)) (ci := 4) (v := .int (nI t)) (ty := .int) (C := RX4) (T := TX4) (N := 4) hx hb hts (fun _ h => List.mem_cons_of_mem _ (List.mem_append_left _ (List.mem_append_left _ (List.mem_append_left _ (List.mem_append_left _ (List.mem_append_left _ (List.mem_append_left _ (List.mem_append_left _ (List.mem_append_left _ (List.mem_append_right _ h)))))))))) tyX4 tyX4_ok nmX4 hown hK hP hD hS 0 rfl rfl 0 (by decide) (hts (.fieldLink RX4 27 "HoldsOnceDenied$Foresight" "start" "I") (by decide +kernel)) (fun _ h9 => h9) rfl (by decide +kernel) rfl rfl (Nat.le_of_ble_eq_true rfl) dX4_look_5 (fun H locs hP hD hS => ?_)
  have hP : va_P (dC, dI) vwCl ((forW cI fo l1 l2 l3 t lk ef le) ++ (schW cI cD h a1 a2 a3 a4 a5 n d t al day nd mk si kn mb)) H := hP
  have hD : va_D A ((forW cI fo l1 l2 l3 t lk ef le) ++ (schW cI cD h a1 a2 a3 a4 a5 n d t al day nd mk si kn mb)) := hD
  refine lv_aload_n hx hb dX4_look_8 rfl (lv_at hl 0 rfl) ?_
  refine va_get (D := (dC, dI)) (ci := 4) (v := .ref l1) (C := RX4) (T := TX4) (N := 4) hx hb hts (fun _ h => List.mem_cons_of_mem _ (List.mem_append_left _ (List.mem_append_left _ (List.mem_append_left _ (List.mem_append_left _ (List.mem_append_left _ (List.mem_append_left _ (List.mem_append_left _ (List.mem_append_left _ (List.mem_append_right _ h)))))))))) hown hK hP 0 rfl rfl 1 (by decide) (hts (.fieldLink RX4 11 "HoldsOnceDenied$Foresight" "lacks" "[I") (by decide +kernel)) (fun _ h9 => h9) rfl dX4_look_9 ?_
  refine lv_iconst (v := (-1)) hx hb dX4_look_12 (by decide +kernel) ?_
  have hPc := hP.sub (ws' := [(l1, .inl (cI, 63, .inl (oMF lk)))]) [1] rfl
  have hDc := hD.sub (ws' := [(l1, .inl (cI, 63, .inl (oMF lk)))]) [1] (by decide) rfl
  have hFc := va_free (wc := [(l1, .inl (cI, 63, .inl (oMF lk)))]) hD hS hA [1] rfl
  refine va_callv (va_runS (As := [.ref l1, .int (-1)]) (rest := []) ⟨hx, hb, hml, hown, hts⟩ (c_J7_fill_53178 l dC dI cI cD cR l1 63 (oMF lk) (-1) H.size (by first | omega | assumption | exact gnd _ | exact gkn _ | exact Nat.lt_trans (gkn _) (by decide) | exact Nat.lt_trans (gnd _) (by decide) | exact Nat.lt_of_le_of_lt (pcN_le _) (by decide))) (va_cwS 2 hts gX4_look_J7_fill_53178 rfl rfl rfl (by decide +kernel) ⟨Nat.le_of_ble_eq_true rfl, Nat.le_of_ble_eq_true rfl⟩) (preS_R hCX ⟨rfl, hPc, hDc.weaken (fun _ _ _ _ => trivial)⟩) rfl rfl hl.1 rfl (lv_room (Nat.le_of_ble_eq_true rfl)) dX4_look_13 ⟨Nat.le_of_ble_eq_true (by first | rfl | decide), Nat.le_of_ble_eq_true (by first | rfl | decide)⟩) hS (fun q _ h => hFc q h) hFc (fun u T8 H1 locs hT8 hvm hw hB hz1 hk1 hS => ?_)
  obtain ⟨hP1, hD1⟩ := hB
  rw [hT8] at hP1
  obtain ⟨hP, hD⟩ := va_join (wr := [(fo, .inr (4, [.int (nI t), .ref l1, .ref l2, .ref l3])), (l2, .inl (cI, 63, .inl (nF ef))), (l3, .inl (cI, 512, .inl (oF le))), (h, .inr (9, [.int (nI n), .int (nI d), .int (nI t), .int (nI al), .int (nI day), .ref a1, .ref a2, .ref a3, .ref a4, .ref a5])), (a1, .inl (cI, 9, .inl (nF nd))), (a2, .inl (cI, 9, .inl mk)), (a3, .inl (cI, 9, .inl si)), (a4, .inl (cI, 6, .inl (nF kn))), (a5, .inl (cD, 6, .inr (.inr (.inr (.inr mb)))))]) (w1 := [(l1, .inl (cI, 63, .inl (oMF (fun _ => none))))]) hP hD [1] [0, 2, 3, 4, 5, 6, 7, 8, 9] rfl rfl (by decide) (by decide) hk1 hFc hP1 hD1
  generalize H1 = H at hP hS ⊢
  have hP := hP.sub (ws' := (forW cI fo l1 l2 l3 t (fun _ => none) ef le) ++ (schW cI cD h a1 a2 a3 a4 a5 n d t al day nd mk si kn mb)) [0, 9, 1, 2, 3, 4, 5, 6, 7, 8] rfl
  have hD := hD.sub (ws' := (forW cI fo l1 l2 l3 t (fun _ => none) ef le) ++ (schW cI cD h a1 a2 a3 a4 a5 n d t al day nd mk si kn mb)) [0, 9, 1, 2, 3, 4, 5, 6, 7, 8] (by decide) rfl
  refine lv_iconst (v := nI 0) hx hb dX4_look_16 (by decide +kernel) ?_
  refine lv_istore_n (lv' := [(3, .int (nI 0)), (0, .ref fo), (1, .ref h), (2, .null)]) hx hb dX4_look_17 rfl hl (by decide) rfl (fun ls hl => ?_)
  refine ho_lpW (T := Nat) 4 (fun x9 => ((forW cI fo l1 l2 l3 t (lkI n al nd kn mb kd fg x9) (efI n al nd kn mb kd fg ef x9) le) ++ (schW cI cD h a1 a2 a3 a4 a5 n d t al day nd mk si kn mb) : va_W)) (fun x9 => [(3, .int (nI x9)), (0, .ref fo), (1, .ref h), (2, .null)]) (fun x9 => []) (fun x9 => (x9 ≤ 6)) (fun x9 => 6 - x9) 0 (by omega) (lv_sub hl [0, 1, 2, 3] rfl) hP hD hS ?_
  intro fu18 i H locs ls hI hm18 hP hD hS hl ih
  have hi6 := hI
  have hl : lv_has ls 4 [(3, .int (nI i)), (0, .ref fo), (1, .ref h), (2, .null)] := hl
  have hi6 : i ≤ 6 := hi6
  have hm18 : 6 - i < fu18 + 1 := hm18
  have hP : va_P (dC, dI) vwCl ((forW cI fo l1 l2 l3 t (lkI n al nd kn mb kd fg i) (efI n al nd kn mb kd fg ef i) le) ++ (schW cI cD h a1 a2 a3 a4 a5 n d t al day nd mk si kn mb)) H := hP
  have hD : va_D A ((forW cI fo l1 l2 l3 t (lkI n al nd kn mb kd fg i) (efI n al nd kn mb kd fg ef i) le) ++ (schW cI cD h a1 a2 a3 a4 a5 n d t al day nd mk si kn mb)) := hD
  refine W.eq (g2 := F0 m 18 ls []) rfl ?_
  have ih18 := ih
  refine lv_iload_n hx hb dX4_look_18 rfl (lv_at hl 0 rfl) ?_
  refine lv_bipush (v := nI 6) hx hb dX4_look_19 (by decide +kernel) ?_
  refine ho_icmp_ge (tgt := 54) hx hb dX4_look_21 (by decide) (by omega) (by omega) (fun c_21 => ?_) (fun c_21 => ?_)
  · refine lv_aload_n hx hb dX4_look_54 rfl (lv_at hl 1 rfl) ?_
    refine lv_bipush (v := nI 6) hx hb dX4_look_55 (by decide +kernel) ?_
    refine lv_aload_nN hx hb dX4_look_57 rfl (lv_at hl 3 rfl) ?_
    refine lv_iconst (v := nI 0) hx hb dX4_look_58 (by decide +kernel) ?_
    refine lv_aload_n hx hb dX4_look_59 rfl (lv_at hl 2 rfl) ?_
    have hPc := hP
    have hDc := hD
    have hFc := va_free (wc := (forW cI fo l1 l2 l3 t (lkI n al nd kn mb kd fg i) (efI n al nd kn mb kd fg ef i) le) ++ (schW cI cD h a1 a2 a3 a4 a5 n d t al day nd mk si kn mb)) hD hS hA [0, 1, 2, 3, 4, 5, 6, 7, 8, 9] rfl
    refine va_callv (va_runV (As := [.int (nI 6), .null, .int (nI 0), .ref h]) (rest := []) ⟨hx, hb, hml, hown, hts⟩ (c_X4_consider_0 l dC dI cI cD cR fo l1 l2 l3 t (lkI n al nd kn mb kd fg i) (efI n al nd kn mb kd fg ef i) le h a1 a2 a3 a4 a5 n d t al day nd mk si kn mb DL kd fg 6 0 H.size (by first | omega | assumption | exact gnd _ | exact gkn _ | exact Nat.lt_trans (gkn _) (by decide) | exact Nat.lt_trans (gnd _) (by decide) | exact Nat.lt_of_le_of_lt (pcN_le _) (by decide)) (by first | omega | assumption | exact gnd _ | exact gkn _ | exact Nat.lt_trans (gkn _) (by decide) | exact Nat.lt_trans (gnd _) (by decide) | exact Nat.lt_of_le_of_lt (pcN_le _) (by decide)) (by first | omega | assumption | exact gnd _ | exact gkn _ | exact Nat.lt_trans (gkn _) (by decide) | exact Nat.lt_trans (gnd _) (by decide) | exact Nat.lt_of_le_of_lt (pcN_le _) (by decide)) (by first | omega | assumption | exact gnd _ | exact gkn _ | exact Nat.lt_trans (gkn _) (by decide) | exact Nat.lt_trans (gnd _) (by decide) | exact Nat.lt_of_le_of_lt (pcN_le _) (by decide)) (by first | omega | assumption | exact gnd _ | exact gkn _ | exact Nat.lt_trans (gkn _) (by decide) | exact Nat.lt_trans (gnd _) (by decide) | exact Nat.lt_of_le_of_lt (pcN_le _) (by decide)) gnd gkn gmb (fun a9 ha9 h9 => hro a9 ha9 (hFc a9 h9))) (cwV 4 hts gX4_look_X4_consider rfl rfl rfl (by decide +kernel) ⟨Nat.le_of_ble_eq_true rfl, Nat.le_of_ble_eq_true rfl⟩) (preV_R hCX (va_recv hK hP (ci := 4) (q0 := 0) rfl rfl) ⟨rfl, hPc, hDc.weaken (fun _ _ _ _ => trivial), (DP.keep hDP0 hro hS)⟩) rfl rfl hl.1 rfl (lv_room (Nat.le_of_ble_eq_true rfl)) dX4_look_60 ⟨Nat.le_of_ble_eq_true (by first | rfl | decide), Nat.le_of_ble_eq_true (by first | rfl | decide)⟩) hS (fun q _ h => hFc q h) hFc (fun u T8 H1 locs hT8 hvm hw hB hz1 hk1 hS => ?_)
    obtain ⟨hP1, hD1⟩ := hB
    rw [hT8] at hP1
    obtain ⟨hP, hD⟩ := va_join (wr := []) (w1 := (forW cI fo l1 l2 l3 t (lkI n al nd kn mb kd fg i) (efI n al nd kn mb kd fg ef i) le) ++ (schW cI cD h a1 a2 a3 a4 a5 n d t al day nd mk si kn mb)) hP hD [0, 1, 2, 3, 4, 5, 6, 7, 8, 9] [] rfl rfl (by decide) (by decide) hk1 hFc hP1 hD1
    generalize H1 = H at hP hS ⊢
    have hP : va_P (dC, dI) vwCl ((forW cI fo l1 l2 l3 t (lkI n al nd kn mb kd fg i) (efI n al nd kn mb kd fg ef i) le) ++ (schW cI cD h a1 a2 a3 a4 a5 n d t al day nd mk si kn mb)) H := hP
    have hD : va_D A ((forW cI fo l1 l2 l3 t (lkI n al nd kn mb kd fg i) (efI n al nd kn mb kd fg ef i) le) ++ (schW cI cD h a1 a2 a3 a4 a5 n d t al day nd mk si kn mb)) := hD
    have hW9 : ((forW cI fo l1 l2 l3 t (lkI n al nd kn mb kd fg i) (efI n al nd kn mb kd fg ef i) le) ++ (schW cI cD h a1 a2 a3 a4 a5 n d t al day nd mk si kn mb) : va_W) = (forW cI fo l1 l2 l3 t (lkI n al nd kn mb kd fg 6) (efI n al nd kn mb kd fg ef 6) le) ++ (schW cI cD h a1 a2 a3 a4 a5 n d t al day nd mk si kn mb) := by rw [show i = 6 by omega]
    rw [hW9] at hP hD
    exact W.vret hx hb hr (fun T9 hT9 hW9 => ⟨⟨(), rfl, trivial, by rw [hT9]; exact hP, hD⟩, hS.F hT9⟩) hS.2.2 dX4_look_63
  refine lv_aload_n hx hb dX4_look_24 rfl (lv_at hl 2 rfl) ?_
  refine lv_iload_n hx hb dX4_look_25 rfl (lv_at hl 0 rfl) ?_
  refine vp_callSi ((va_runV (As := [.int (nI i)]) (rest := []) ⟨hx, hb, hml, hown, hts⟩ (c_X9_isAlive l dC dI cI cD cR h a1 a2 a3 a4 a5 n d t al day nd mk si kn mb i (by first | omega | assumption | exact gnd _ | exact gkn _ | exact Nat.lt_trans (gkn _) (by decide) | exact Nat.lt_trans (gnd _) (by decide) | exact Nat.lt_of_le_of_lt (pcN_le _) (by decide)) (by first | omega | assumption | exact gnd _ | exact gkn _ | exact Nat.lt_trans (gkn _) (by decide) | exact Nat.lt_trans (gnd _) (by decide) | exact Nat.lt_of_le_of_lt (pcN_le _) (by decide)) (by first | omega | assumption | exact gnd _ | exact gkn _ | exact Nat.lt_trans (gkn _) (by decide) | exact Nat.lt_trans (gnd _) (by decide) | exact Nat.lt_of_le_of_lt (pcN_le _) (by decide)) (by first | omega | assumption | exact gnd _ | exact gkn _ | exact Nat.lt_trans (gkn _) (by decide) | exact Nat.lt_trans (gnd _) (by decide) | exact Nat.lt_of_le_of_lt (pcN_le _) (by decide)) (by first | omega | assumption | exact gnd _ | exact gkn _ | exact Nat.lt_trans (gkn _) (by decide) | exact Nat.lt_trans (gnd _) (by decide) | exact Nat.lt_of_le_of_lt (pcN_le _) (by decide)) gnd gkn (by first | omega | assumption | exact gnd _ | exact gkn _ | exact Nat.lt_trans (gkn _) (by decide) | exact Nat.lt_trans (gnd _) (by decide) | exact Nat.lt_of_le_of_lt (pcN_le _) (by decide))) (cwV 1 hts gX4_look_X9_isAlive rfl rfl rfl (by decide +kernel) ⟨Nat.le_of_ble_eq_true rfl, Nat.le_of_ble_eq_true rfl⟩) (preV_R hCX (va_recv hK hP (ci := 9) (q0 := 4) rfl rfl) ((hP.sub (ws' := (schW cI cD h a1 a2 a3 a4 a5 n d t al day nd mk si kn mb)) [4, 5, 6, 7, 8, 9] rfl))) rfl rfl hl.1 rfl (lv_room (Nat.le_of_ble_eq_true rfl)) dX4_look_26 ⟨Nat.le_of_ble_eq_true (by first | rfl | decide), Nat.le_of_ble_eq_true (by first | rfl | decide)⟩).run) (fun r_26 hr_26 => ?_)
  subst hr_26
  refine ho_beq (tgt := 48) hx hb dX4_look_29 (by decide) (fun c_29 => ?_) (fun c_29 => ?_)
  · refine ho_iinc (lv' := [(3, .int (nI (i + 1))), (0, .ref fo), (1, .ref h), (2, .null)]) (a := i) (b := 1) hx hb dX4_look_48 hl (k := 0) rfl rfl (by decide) rfl (fun ls hl => ?_)
    refine lv_goto (tgt := 18) hx hb dX4_look_51 (by decide) ?_
    have hW9 : ((forW cI fo l1 l2 l3 t (lkI n al nd kn mb kd fg i) (efI n al nd kn mb kd fg ef i) le) ++ (schW cI cD h a1 a2 a3 a4 a5 n d t al day nd mk si kn mb) : va_W) = (forW cI fo l1 l2 l3 t (lkI n al nd kn mb kd fg (i + 1)) (efI n al nd kn mb kd fg ef (i + 1)) le) ++ (schW cI cD h a1 a2 a3 a4 a5 n d t al day nd mk si kn mb) := by first | rw [lkI_s c_29 hv_36, efI_s c_29 hv_36] | rw [← lkI_n c_29 hv_36, ← efI_n c_29 hv_36] | rw [← lkI_f c_29, ← efI_f c_29]
    rw [hW9] at hP hD
    exact ih18 (i + 1) _ _ _ (by omega) (show 6 - (i + 1) < fu18 from (by omega)) hP hD hS (lv_sub hl [0, 1, 2, 3] rfl)
  refine lv_aload_n hx hb dX4_look_32 rfl (lv_at hl 1 rfl) ?_
  refine lv_iload_n hx hb dX4_look_33 rfl (lv_at hl 0 rfl) ?_
  refine lv_aload_n hx hb dX4_look_34 rfl (lv_at hl 2 rfl) ?_
  refine lv_iload_n hx hb dX4_look_35 rfl (lv_at hl 0 rfl) ?_
  refine va_csq ((va_runV (As := [.int (nI i)]) (rest := [.int (nI i), .ref fo]) ⟨hx, hb, hml, hown, hts⟩ (c_X9_memberAt l dC dI cI cD cR h a1 a2 a3 a4 a5 n d t al day nd mk si kn mb i (by first | omega | assumption | exact gnd _ | exact gkn _ | exact Nat.lt_trans (gkn _) (by decide) | exact Nat.lt_trans (gnd _) (by decide) | exact Nat.lt_of_le_of_lt (pcN_le _) (by decide)) (by first | omega | assumption | exact gnd _ | exact gkn _ | exact Nat.lt_trans (gkn _) (by decide) | exact Nat.lt_trans (gnd _) (by decide) | exact Nat.lt_of_le_of_lt (pcN_le _) (by decide)) (by first | omega | assumption | exact gnd _ | exact gkn _ | exact Nat.lt_trans (gkn _) (by decide) | exact Nat.lt_trans (gnd _) (by decide) | exact Nat.lt_of_le_of_lt (pcN_le _) (by decide)) (by first | omega | assumption | exact gnd _ | exact gkn _ | exact Nat.lt_trans (gkn _) (by decide) | exact Nat.lt_trans (gnd _) (by decide) | exact Nat.lt_of_le_of_lt (pcN_le _) (by decide)) (by first | omega | assumption | exact gnd _ | exact gkn _ | exact Nat.lt_trans (gkn _) (by decide) | exact Nat.lt_trans (gnd _) (by decide) | exact Nat.lt_of_le_of_lt (pcN_le _) (by decide)) gnd gkn (by first | omega | assumption | exact gnd _ | exact gkn _ | exact Nat.lt_trans (gkn _) (by decide) | exact Nat.lt_trans (gnd _) (by decide) | exact Nat.lt_of_le_of_lt (pcN_le _) (by decide))) (cwV 1 hts gX4_look_X9_memberAt rfl rfl rfl (by decide +kernel) ⟨Nat.le_of_ble_eq_true rfl, Nat.le_of_ble_eq_true rfl⟩) (preV_R hCX (va_recv hK hP (ci := 9) (q0 := 4) rfl rfl) ((hP.sub (ws' := (schW cI cD h a1 a2 a3 a4 a5 n d t al day nd mk si kn mb)) [4, 5, 6, 7, 8, 9] rfl))) rfl rfl hl.1 rfl (lv_room (Nat.le_of_ble_eq_true rfl)) dX4_look_36 ⟨Nat.le_of_ble_eq_true (by first | rfl | decide), Nat.le_of_ble_eq_true (by first | rfl | decide)⟩).run) (fun r_36 hr_36 => ?_)
  subst hr_36
  cases hv_36 : mb i with
  | none =>
    refine ho_topr (y := .null) rfl ?_
    refine lv_aload_n hx hb dX4_look_39 rfl (lv_at hl 2 rfl) ?_
    refine lv_iload_n hx hb dX4_look_40 rfl (lv_at hl 0 rfl) ?_
    refine vp_callSi ((va_runV (As := [.int (nI i)]) (rest := [.null, .int (nI i), .ref fo]) ⟨hx, hb, hml, hown, hts⟩ (c_X9_knownTo l dC dI cI cD cR h a1 a2 a3 a4 a5 n d t al day nd mk si kn mb i (by first | omega | assumption | exact gnd _ | exact gkn _ | exact Nat.lt_trans (gkn _) (by decide) | exact Nat.lt_trans (gnd _) (by decide) | exact Nat.lt_of_le_of_lt (pcN_le _) (by decide)) (by first | omega | assumption | exact gnd _ | exact gkn _ | exact Nat.lt_trans (gkn _) (by decide) | exact Nat.lt_trans (gnd _) (by decide) | exact Nat.lt_of_le_of_lt (pcN_le _) (by decide)) (by first | omega | assumption | exact gnd _ | exact gkn _ | exact Nat.lt_trans (gkn _) (by decide) | exact Nat.lt_trans (gnd _) (by decide) | exact Nat.lt_of_le_of_lt (pcN_le _) (by decide)) (by first | omega | assumption | exact gnd _ | exact gkn _ | exact Nat.lt_trans (gkn _) (by decide) | exact Nat.lt_trans (gnd _) (by decide) | exact Nat.lt_of_le_of_lt (pcN_le _) (by decide)) (by first | omega | assumption | exact gnd _ | exact gkn _ | exact Nat.lt_trans (gkn _) (by decide) | exact Nat.lt_trans (gnd _) (by decide) | exact Nat.lt_of_le_of_lt (pcN_le _) (by decide)) gnd gkn (by first | omega | assumption | exact gnd _ | exact gkn _ | exact Nat.lt_trans (gkn _) (by decide) | exact Nat.lt_trans (gnd _) (by decide) | exact Nat.lt_of_le_of_lt (pcN_le _) (by decide))) (cwV 1 hts gX4_look_X9_knownTo rfl rfl rfl (by decide +kernel) ⟨Nat.le_of_ble_eq_true rfl, Nat.le_of_ble_eq_true rfl⟩) (preV_R hCX (va_recv hK hP (ci := 9) (q0 := 4) rfl rfl) ((hP.sub (ws' := (schW cI cD h a1 a2 a3 a4 a5 n d t al day nd mk si kn mb)) [4, 5, 6, 7, 8, 9] rfl))) rfl rfl hl.1 rfl (lv_room (Nat.le_of_ble_eq_true rfl)) dX4_look_41 ⟨Nat.le_of_ble_eq_true (by first | rfl | decide), Nat.le_of_ble_eq_true (by first | rfl | decide)⟩).run) (fun r_41 hr_41 => ?_)
    subst hr_41
    refine lv_aload_n hx hb dX4_look_44 rfl (lv_at hl 2 rfl) ?_
    have hPc := hP
    have hDc := hD
    have hFc := va_free (wc := (forW cI fo l1 l2 l3 t (lkI n al nd kn mb kd fg i) (efI n al nd kn mb kd fg ef i) le) ++ (schW cI cD h a1 a2 a3 a4 a5 n d t al day nd mk si kn mb)) hD hS hA [0, 1, 2, 3, 4, 5, 6, 7, 8, 9] rfl
    refine va_callv (va_runV (As := [.int (nI i), .null, .int (nI (kn i)), .ref h]) (rest := []) ⟨hx, hb, hml, hown, hts⟩ (c_X4_consider_0 l dC dI cI cD cR fo l1 l2 l3 t (lkI n al nd kn mb kd fg i) (efI n al nd kn mb kd fg ef i) le h a1 a2 a3 a4 a5 n d t al day nd mk si kn mb DL kd fg i (kn i) H.size (by first | omega | assumption | exact gnd _ | exact gkn _ | exact Nat.lt_trans (gkn _) (by decide) | exact Nat.lt_trans (gnd _) (by decide) | exact Nat.lt_of_le_of_lt (pcN_le _) (by decide)) (by first | omega | assumption | exact gnd _ | exact gkn _ | exact Nat.lt_trans (gkn _) (by decide) | exact Nat.lt_trans (gnd _) (by decide) | exact Nat.lt_of_le_of_lt (pcN_le _) (by decide)) (by first | omega | assumption | exact gnd _ | exact gkn _ | exact Nat.lt_trans (gkn _) (by decide) | exact Nat.lt_trans (gnd _) (by decide) | exact Nat.lt_of_le_of_lt (pcN_le _) (by decide)) (by first | omega | assumption | exact gnd _ | exact gkn _ | exact Nat.lt_trans (gkn _) (by decide) | exact Nat.lt_trans (gnd _) (by decide) | exact Nat.lt_of_le_of_lt (pcN_le _) (by decide)) (by first | omega | assumption | exact gnd _ | exact gkn _ | exact Nat.lt_trans (gkn _) (by decide) | exact Nat.lt_trans (gnd _) (by decide) | exact Nat.lt_of_le_of_lt (pcN_le _) (by decide)) gnd gkn gmb (fun a9 ha9 h9 => hro a9 ha9 (hFc a9 h9))) (cwV 4 hts gX4_look_X4_consider rfl rfl rfl (by decide +kernel) ⟨Nat.le_of_ble_eq_true rfl, Nat.le_of_ble_eq_true rfl⟩) (preV_R hCX (va_recv hK hP (ci := 4) (q0 := 0) rfl rfl) ⟨rfl, hPc, hDc.weaken (fun _ _ _ _ => trivial), (DP.keep hDP0 hro hS)⟩) rfl rfl hl.1 rfl (lv_room (Nat.le_of_ble_eq_true rfl)) dX4_look_45 ⟨Nat.le_of_ble_eq_true (by first | rfl | decide), Nat.le_of_ble_eq_true (by first | rfl | decide)⟩) hS (fun q _ h => hFc q h) hFc (fun u T8 H1 locs hT8 hvm hw hB hz1 hk1 hS => ?_)
    obtain ⟨hP1, hD1⟩ := hB
    rw [hT8] at hP1
    obtain ⟨hP, hD⟩ := va_join (wr := []) (w1 := (forW cI fo l1 l2 l3 t (lkI n al nd kn mb kd fg i) (efI n al nd kn mb kd fg ef i) le) ++ (schW cI cD h a1 a2 a3 a4 a5 n d t al day nd mk si kn mb)) hP hD [0, 1, 2, 3, 4, 5, 6, 7, 8, 9] [] rfl rfl (by decide) (by decide) hk1 hFc hP1 hD1
    generalize H1 = H at hP hS ⊢
    have hP : va_P (dC, dI) vwCl ((forW cI fo l1 l2 l3 t (lkI n al nd kn mb kd fg i) (efI n al nd kn mb kd fg ef i) le) ++ (schW cI cD h a1 a2 a3 a4 a5 n d t al day nd mk si kn mb)) H := hP
    have hD : va_D A ((forW cI fo l1 l2 l3 t (lkI n al nd kn mb kd fg i) (efI n al nd kn mb kd fg ef i) le) ++ (schW cI cD h a1 a2 a3 a4 a5 n d t al day nd mk si kn mb)) := hD
    refine ho_iinc (lv' := [(3, .int (nI (i + 1))), (0, .ref fo), (1, .ref h), (2, .null)]) (a := i) (b := 1) hx hb dX4_look_48 hl (k := 0) rfl rfl (by decide) rfl (fun ls hl => ?_)
    refine lv_goto (tgt := 18) hx hb dX4_look_51 (by decide) ?_
    have hW9 : ((forW cI fo l1 l2 l3 t (lkI n al nd kn mb kd fg i) (efI n al nd kn mb kd fg ef i) le) ++ (schW cI cD h a1 a2 a3 a4 a5 n d t al day nd mk si kn mb) : va_W) = (forW cI fo l1 l2 l3 t (lkI n al nd kn mb kd fg (i + 1)) (efI n al nd kn mb kd fg ef (i + 1)) le) ++ (schW cI cD h a1 a2 a3 a4 a5 n d t al day nd mk si kn mb) := by first | rw [lkI_s c_29 hv_36, efI_s c_29 hv_36] | rw [← lkI_n c_29 hv_36, ← efI_n c_29 hv_36] | rw [← lkI_f c_29, ← efI_f c_29]
    rw [hW9] at hP hD
    exact ih18 (i + 1) _ _ _ (by omega) (show 6 - (i + 1) < fu18 from (by omega)) hP hD hS (lv_sub hl [0, 1, 2, 3] rfl)
  | some a_36 =>
    refine ho_topr (y := .ref a_36) rfl ?_
    have hda_36 : a_36 ∈ DL := gmb _ _ hv_36
    refine lv_aload_n hx hb dX4_look_39 rfl (lv_at hl 2 rfl) ?_
    refine lv_iload_n hx hb dX4_look_40 rfl (lv_at hl 0 rfl) ?_
    refine vp_callSi ((va_runV (As := [.int (nI i)]) (rest := [.ref a_36, .int (nI i), .ref fo]) ⟨hx, hb, hml, hown, hts⟩ (c_X9_knownTo l dC dI cI cD cR h a1 a2 a3 a4 a5 n d t al day nd mk si kn mb i (by first | omega | assumption | exact gnd _ | exact gkn _ | exact Nat.lt_trans (gkn _) (by decide) | exact Nat.lt_trans (gnd _) (by decide) | exact Nat.lt_of_le_of_lt (pcN_le _) (by decide)) (by first | omega | assumption | exact gnd _ | exact gkn _ | exact Nat.lt_trans (gkn _) (by decide) | exact Nat.lt_trans (gnd _) (by decide) | exact Nat.lt_of_le_of_lt (pcN_le _) (by decide)) (by first | omega | assumption | exact gnd _ | exact gkn _ | exact Nat.lt_trans (gkn _) (by decide) | exact Nat.lt_trans (gnd _) (by decide) | exact Nat.lt_of_le_of_lt (pcN_le _) (by decide)) (by first | omega | assumption | exact gnd _ | exact gkn _ | exact Nat.lt_trans (gkn _) (by decide) | exact Nat.lt_trans (gnd _) (by decide) | exact Nat.lt_of_le_of_lt (pcN_le _) (by decide)) (by first | omega | assumption | exact gnd _ | exact gkn _ | exact Nat.lt_trans (gkn _) (by decide) | exact Nat.lt_trans (gnd _) (by decide) | exact Nat.lt_of_le_of_lt (pcN_le _) (by decide)) gnd gkn (by first | omega | assumption | exact gnd _ | exact gkn _ | exact Nat.lt_trans (gkn _) (by decide) | exact Nat.lt_trans (gnd _) (by decide) | exact Nat.lt_of_le_of_lt (pcN_le _) (by decide))) (cwV 1 hts gX4_look_X9_knownTo rfl rfl rfl (by decide +kernel) ⟨Nat.le_of_ble_eq_true rfl, Nat.le_of_ble_eq_true rfl⟩) (preV_R hCX (va_recv hK hP (ci := 9) (q0 := 4) rfl rfl) ((hP.sub (ws' := (schW cI cD h a1 a2 a3 a4 a5 n d t al day nd mk si kn mb)) [4, 5, 6, 7, 8, 9] rfl))) rfl rfl hl.1 rfl (lv_room (Nat.le_of_ble_eq_true rfl)) dX4_look_41 ⟨Nat.le_of_ble_eq_true (by first | rfl | decide), Nat.le_of_ble_eq_true (by first | rfl | decide)⟩).run) (fun r_41 hr_41 => ?_)
    subst hr_41
    refine lv_aload_n hx hb dX4_look_44 rfl (lv_at hl 2 rfl) ?_
    have hPc := hP
    have hDc := hD
    have hFc := va_free (wc := (forW cI fo l1 l2 l3 t (lkI n al nd kn mb kd fg i) (efI n al nd kn mb kd fg ef i) le) ++ (schW cI cD h a1 a2 a3 a4 a5 n d t al day nd mk si kn mb)) hD hS hA [0, 1, 2, 3, 4, 5, 6, 7, 8, 9] rfl
    refine va_callv (va_runV (As := [.int (nI i), .ref a_36, .int (nI (kn i)), .ref h]) (rest := []) ⟨hx, hb, hml, hown, hts⟩ (c_X4_consider l dC dI cI cD cR fo l1 l2 l3 t (lkI n al nd kn mb kd fg i) (efI n al nd kn mb kd fg ef i) le h a1 a2 a3 a4 a5 n d t al day nd mk si kn mb DL kd fg i a_36 (kn i) H.size (by first | omega | assumption | exact gnd _ | exact gkn _ | exact Nat.lt_trans (gkn _) (by decide) | exact Nat.lt_trans (gnd _) (by decide) | exact Nat.lt_of_le_of_lt (pcN_le _) (by decide)) (by first | omega | assumption | exact gnd _ | exact gkn _ | exact Nat.lt_trans (gkn _) (by decide) | exact Nat.lt_trans (gnd _) (by decide) | exact Nat.lt_of_le_of_lt (pcN_le _) (by decide)) (by first | omega | assumption | exact gnd _ | exact gkn _ | exact Nat.lt_trans (gkn _) (by decide) | exact Nat.lt_trans (gnd _) (by decide) | exact Nat.lt_of_le_of_lt (pcN_le _) (by decide)) (by first | omega | assumption | exact gnd _ | exact gkn _ | exact Nat.lt_trans (gkn _) (by decide) | exact Nat.lt_trans (gnd _) (by decide) | exact Nat.lt_of_le_of_lt (pcN_le _) (by decide)) (by first | omega | assumption | exact gnd _ | exact gkn _ | exact Nat.lt_trans (gkn _) (by decide) | exact Nat.lt_trans (gnd _) (by decide) | exact Nat.lt_of_le_of_lt (pcN_le _) (by decide)) gnd gkn gmb (by first | omega | assumption | exact gnd _ | exact gkn _ | exact Nat.lt_trans (gkn _) (by decide) | exact Nat.lt_trans (gnd _) (by decide) | exact Nat.lt_of_le_of_lt (pcN_le _) (by decide)) (by first | omega | assumption | exact gnd _ | exact gkn _ | exact Nat.lt_trans (gkn _) (by decide) | exact Nat.lt_trans (gnd _) (by decide) | exact Nat.lt_of_le_of_lt (pcN_le _) (by decide)) hda_36 (fun a9 ha9 h9 => hro a9 ha9 (hFc a9 h9))) (cwV 4 hts gX4_look_X4_consider rfl rfl rfl (by decide +kernel) ⟨Nat.le_of_ble_eq_true rfl, Nat.le_of_ble_eq_true rfl⟩) (preV_R hCX (va_recv hK hP (ci := 4) (q0 := 0) rfl rfl) ⟨rfl, hPc, hDc.weaken (fun _ _ _ _ => trivial), (DP.keep hDP0 hro hS)⟩) rfl rfl hl.1 rfl (lv_room (Nat.le_of_ble_eq_true rfl)) dX4_look_45 ⟨Nat.le_of_ble_eq_true (by first | rfl | decide), Nat.le_of_ble_eq_true (by first | rfl | decide)⟩) hS (fun q _ h => hFc q h) hFc (fun u T8 H1 locs hT8 hvm hw hB hz1 hk1 hS => ?_)
    obtain ⟨hP1, hD1⟩ := hB
    rw [hT8] at hP1
    obtain ⟨hP, hD⟩ := va_join (wr := []) (w1 := (forW cI fo l1 l2 l3 t (cnL (kd a_36) (fg a_36) (kn i) i nd n (lkI n al nd kn mb kd fg i)) (cnE (kd a_36) (fg a_36) (kn i) i nd n (efI n al nd kn mb kd fg ef i)) le) ++ (schW cI cD h a1 a2 a3 a4 a5 n d t al day nd mk si kn mb)) hP hD [0, 1, 2, 3, 4, 5, 6, 7, 8, 9] [] rfl rfl (by decide) (by decide) hk1 hFc hP1 hD1
    generalize H1 = H at hP hS ⊢
    have hP : va_P (dC, dI) vwCl ((forW cI fo l1 l2 l3 t (cnL (kd a_36) (fg a_36) (kn i) i nd n (lkI n al nd kn mb kd fg i)) (cnE (kd a_36) (fg a_36) (kn i) i nd n (efI n al nd kn mb kd fg ef i)) le) ++ (schW cI cD h a1 a2 a3 a4 a5 n d t al day nd mk si kn mb)) H := hP
    have hD : va_D A ((forW cI fo l1 l2 l3 t (cnL (kd a_36) (fg a_36) (kn i) i nd n (lkI n al nd kn mb kd fg i)) (cnE (kd a_36) (fg a_36) (kn i) i nd n (efI n al nd kn mb kd fg ef i)) le) ++ (schW cI cD h a1 a2 a3 a4 a5 n d t al day nd mk si kn mb)) := hD
    refine ho_iinc (lv' := [(3, .int (nI (i + 1))), (0, .ref fo), (1, .ref h), (2, .null)]) (a := i) (b := 1) hx hb dX4_look_48 hl (k := 0) rfl rfl (by decide) rfl (fun ls hl => ?_)
    refine lv_goto (tgt := 18) hx hb dX4_look_51 (by decide) ?_
    have hW9 : ((forW cI fo l1 l2 l3 t (cnL (kd a_36) (fg a_36) (kn i) i nd n (lkI n al nd kn mb kd fg i)) (cnE (kd a_36) (fg a_36) (kn i) i nd n (efI n al nd kn mb kd fg ef i)) le) ++ (schW cI cD h a1 a2 a3 a4 a5 n d t al day nd mk si kn mb) : va_W) = (forW cI fo l1 l2 l3 t (lkI n al nd kn mb kd fg (i + 1)) (efI n al nd kn mb kd fg ef (i + 1)) le) ++ (schW cI cD h a1 a2 a3 a4 a5 n d t al day nd mk si kn mb) := by first | rw [lkI_s c_29 hv_36, efI_s c_29 hv_36] | rw [← lkI_n c_29 hv_36, ← efI_n c_29 hv_36] | rw [← lkI_f c_29, ← efI_f c_29]
    rw [hW9] at hP hD
    exact ih18 (i + 1) _ _ _ (by omega) (show 6 - (i + 1) < fu18 from (by omega)) hP hD hS (lv_sub hl [0, 1, 2, 3] rfl)
set_option maxHeartbeats 4000000 in
set_option maxRecDepth 100000 in
theorem c_X4_look (l : Launch) (dC : Nat → ClassId) (dI : Nat → Nat → Nat) (cI cD cR : ClassId) (fo l1 l2 l3 sa : Nat) (lk : Nat → Option Nat) (ef : Nat → Nat) (le : Nat → Option Nat) (h a1 a2 a3 a4 a5 n d t al day : Nat) (nd : Nat → Nat) (mk si : Nat → Int32) (kn : Nat → Nat) (mb : Nat → Option Nat) (DL : List Nat) (kd fg : Nat → Nat) (a : Nat) (sz : Nat) (hn : n ≤ 9) (hd : d ≤ 6) (ht : t < 512) (hal : al < 64) (hday : day < 2 ^ 30) (gnd : ∀ i, nd i < 512) (gkn : ∀ j, kn j < 512) (gmb : ∀ j a, mb j = some a → a ∈ DL) (ga : a ∈ DL) (gro : ∀ a ∈ DL, ¬ va_A ((forW cI fo l1 l2 l3 sa lk ef le) ++ (schW cI cD h a1 a2 a3 a4 a5 n d t al day nd mk si kn mb)) sz a) : Met l yX4_look wsX4_look ({ frames := 5, cells := 0, slots := 0, locals := 120 }) (pcR dC dI cI cD cR [.ref fo, .ref h, .ref a] (fun H => H.size = sz ∧ va_P (dC, dI) vwCl ((forW cI fo l1 l2 l3 sa lk ef le) ++ (schW cI cD h a1 a2 a3 a4 a5 n d t al day nd mk si kn mb)) H ∧ va_D (fun _ => True) ((forW cI fo l1 l2 l3 sa lk ef le) ++ (schW cI cD h a1 a2 a3 a4 a5 n d t al day nd mk si kn mb)) ∧ DP dC dI DL kd fg H)) (va_Qv (fun (_ : Unit) => True) (fun (_ : Unit) T9 => va_P (dC, dI) vwCl ((forW cI fo l1 l2 l3 t (cnL (kd a) (fg a) 0 6 nd n (lkI n al nd kn mb kd fg 6)) (cnE (kd a) (fg a) 0 6 nd n (efI n al nd kn mb kd fg ef 6)) le) ++ (schW cI cD h a1 a2 a3 a4 a5 n d t al day nd mk si kn mb)) T9.heap ∧ va_D (va_A ((forW cI fo l1 l2 l3 sa lk ef le) ++ (schW cI cD h a1 a2 a3 a4 a5 n d t al day nd mk si kn mb)) sz) ((forW cI fo l1 l2 l3 t (cnL (kd a) (fg a) 0 6 nd n (lkI n al nd kn mb kd fg 6)) (cnE (kd a) (fg a) 0 6 nd n (efI n al nd kn mb kd fg ef 6)) le) ++ (schW cI cD h a1 a2 a3 a4 a5 n d t al day nd mk si kn mb))) (va_A ((forW cI fo l1 l2 l3 sa lk ef le) ++ (schW cI cD h a1 a2 a3 a4 a5 n d t al day nd mk si kn mb)) sz)) 0 0 (va_A ((forW cI fo l1 l2 l3 sa lk ef le) ++ (schW cI cD h a1 a2 a3 a4 a5 n d t al day nd mk si kn mb)) sz) := by
  refine Met.ofW (cc := cX4_look) (maxL := 4) (ret := none) (by decide) rfl ?_
  intro p e s m args below meth c s₁ B hml hv
  obtain ⟨rfl, hH0, hCX⟩ := hv
  have hx := B.exec
  have hb := B.bytes
  have hr := B.returns
  have hts := atoms_spec (ws := wsX4_look) B.pre
  have hown : s.vm.findClass RX4 = some m.cls := findClass_of_methodNamed B.named
  have hlocks := B.notSynchronized
  have hK := hCX.1
  obtain ⟨hsz, hP, hD0, hDP0⟩ := hH0
  subst hsz
  have hD := hD0.self (sz := s.heap.size)
  generalize hAe : va_A ((forW cI fo l1 l2 l3 sa lk ef le) ++ (schW cI cD h a1 a2 a3 a4 a5 n d t al day nd mk si kn mb)) s.heap.size = A at hD ⊢
  have hA : ∀ q : Nat, s.heap.size ≤ q → A q := fun q h => by rw [← hAe]; exact Or.inr h
  have hS : va_S A s.heap s.heap [] := va_S.rf
  have hP : va_P (dC, dI) vwCl ((forW cI fo l1 l2 l3 sa lk ef le) ++ (schW cI cD h a1 a2 a3 a4 a5 n d t al day nd mk si kn mb)) s.heap := hP
  have hro : ∀ a ∈ DL, ¬ A a := by rw [← hAe]; exact gro
  have hDP := hDP0
  have hl := lv_entry ([.ref fo, .ref h, .ref a]) (n := 4) (Nat.le_of_ble_eq_true rfl)
  rw [lg_entry_eq]
  generalize (lg_sl ([.ref fo, .ref h, .ref a]) ++ List.replicate (4 - (lg_sl ([.ref fo, .ref h, .ref a])).length) Slot.unset).toArray = ls at hl ⊢
  have hl : lv_has ls 4 [(0, .ref fo), (1, .ref h), (2, .ref a)] := hl
  refine lv_aload_n hx hb dX4_look_0 rfl (lv_at hl 0 rfl) ?_
  refine lv_aload_n hx hb dX4_look_1 rfl (lv_at hl 1 rfl) ?_
  refine va_getN (D := (dC, dI)) (ci := 9) (v := .int (nI t)) (C := RX9) (T := TX9) (N := 10) hx hb hts (fun _ h => List.mem_cons_of_mem _ (List.mem_append_left _ (List.mem_append_left _ (List.mem_append_left _ (List.mem_append_left _ (List.mem_append_left _ (List.mem_append_left _ (List.mem_append_left _ (List.mem_append_left _ (List.mem_append_left _ (List.mem_append_right _ h))))))))))) hown hK hP 4 rfl rfl 2 (by decide) (CX.nf hCX 0 rfl) (fun _ h9 => h9) rfl dX4_look_2 ?_
  refine va_put (D := (dC, dI)) (ci := 4) (v := .int (nI t)) (ty := .int) (C := RX4) (T := TX4) (N := 4) hx hb hts (fun _ h => List.mem_cons_of_mem _ (List.mem_append_left _ (List.mem_append_left _ (List.mem_append_left _ (List.mem_append_left _ (List.mem_append_left _ (List.mem_append_left _ (List.mem_append_left _ (List.mem_append_left _ (List.mem_append_right _ h)))))))))) tyX4 tyX4_ok nmX4 hown hK hP hD hS 0 rfl rfl 0 (by decide) (hts (.fieldLink RX4 27 "HoldsOnceDenied$Foresight" "start" "I") (by decide +kernel)) (fun _ h9 => h9) rfl (by decide +kernel) rfl rfl (Nat.le_of_ble_eq_true rfl) dX4_look_5 (fun H locs hP hD hS => ?_)
  have hP : va_P (dC, dI) vwCl ((forW cI fo l1 l2 l3 t lk ef le) ++ (schW cI cD h a1 a2 a3 a4 a5 n d t al day nd mk si kn mb)) H := hP
  have hD : va_D A ((forW cI fo l1 l2 l3 t lk ef le) ++ (schW cI cD h a1 a2 a3 a4 a5 n d t al day nd mk si kn mb)) := hD
  refine lv_aload_n hx hb dX4_look_8 rfl (lv_at hl 0 rfl) ?_
  refine va_get (D := (dC, dI)) (ci := 4) (v := .ref l1) (C := RX4) (T := TX4) (N := 4) hx hb hts (fun _ h => List.mem_cons_of_mem _ (List.mem_append_left _ (List.mem_append_left _ (List.mem_append_left _ (List.mem_append_left _ (List.mem_append_left _ (List.mem_append_left _ (List.mem_append_left _ (List.mem_append_left _ (List.mem_append_right _ h)))))))))) hown hK hP 0 rfl rfl 1 (by decide) (hts (.fieldLink RX4 11 "HoldsOnceDenied$Foresight" "lacks" "[I") (by decide +kernel)) (fun _ h9 => h9) rfl dX4_look_9 ?_
  refine lv_iconst (v := (-1)) hx hb dX4_look_12 (by decide +kernel) ?_
  have hPc := hP.sub (ws' := [(l1, .inl (cI, 63, .inl (oMF lk)))]) [1] rfl
  have hDc := hD.sub (ws' := [(l1, .inl (cI, 63, .inl (oMF lk)))]) [1] (by decide) rfl
  have hFc := va_free (wc := [(l1, .inl (cI, 63, .inl (oMF lk)))]) hD hS hA [1] rfl
  refine va_callv (va_runS (As := [.ref l1, .int (-1)]) (rest := []) ⟨hx, hb, hml, hown, hts⟩ (c_J7_fill_53178 l dC dI cI cD cR l1 63 (oMF lk) (-1) H.size (by first | omega | assumption | exact gnd _ | exact gkn _ | exact Nat.lt_trans (gkn _) (by decide) | exact Nat.lt_trans (gnd _) (by decide) | exact Nat.lt_of_le_of_lt (pcN_le _) (by decide))) (va_cwS 2 hts gX4_look_J7_fill_53178 rfl rfl rfl (by decide +kernel) ⟨Nat.le_of_ble_eq_true rfl, Nat.le_of_ble_eq_true rfl⟩) (preS_R hCX ⟨rfl, hPc, hDc.weaken (fun _ _ _ _ => trivial)⟩) rfl rfl hl.1 rfl (lv_room (Nat.le_of_ble_eq_true rfl)) dX4_look_13 ⟨Nat.le_of_ble_eq_true (by first | rfl | decide), Nat.le_of_ble_eq_true (by first | rfl | decide)⟩) hS (fun q _ h => hFc q h) hFc (fun u T8 H1 locs hT8 hvm hw hB hz1 hk1 hS => ?_)
  obtain ⟨hP1, hD1⟩ := hB
  rw [hT8] at hP1
  obtain ⟨hP, hD⟩ := va_join (wr := [(fo, .inr (4, [.int (nI t), .ref l1, .ref l2, .ref l3])), (l2, .inl (cI, 63, .inl (nF ef))), (l3, .inl (cI, 512, .inl (oF le))), (h, .inr (9, [.int (nI n), .int (nI d), .int (nI t), .int (nI al), .int (nI day), .ref a1, .ref a2, .ref a3, .ref a4, .ref a5])), (a1, .inl (cI, 9, .inl (nF nd))), (a2, .inl (cI, 9, .inl mk)), (a3, .inl (cI, 9, .inl si)), (a4, .inl (cI, 6, .inl (nF kn))), (a5, .inl (cD, 6, .inr (.inr (.inr (.inr mb)))))]) (w1 := [(l1, .inl (cI, 63, .inl (oMF (fun _ => none))))]) hP hD [1] [0, 2, 3, 4, 5, 6, 7, 8, 9] rfl rfl (by decide) (by decide) hk1 hFc hP1 hD1
  generalize H1 = H at hP hS ⊢
  have hP := hP.sub (ws' := (forW cI fo l1 l2 l3 t (fun _ => none) ef le) ++ (schW cI cD h a1 a2 a3 a4 a5 n d t al day nd mk si kn mb)) [0, 9, 1, 2, 3, 4, 5, 6, 7, 8] rfl
  have hD := hD.sub (ws' := (forW cI fo l1 l2 l3 t (fun _ => none) ef le) ++ (schW cI cD h a1 a2 a3 a4 a5 n d t al day nd mk si kn mb)) [0, 9, 1, 2, 3, 4, 5, 6, 7, 8] (by decide) rfl
  refine lv_iconst (v := nI 0) hx hb dX4_look_16 (by decide +kernel) ?_
  refine lv_istore_n (lv' := [(3, .int (nI 0)), (0, .ref fo), (1, .ref h), (2, .ref a)]) hx hb dX4_look_17 rfl hl (by decide) rfl (fun ls hl => ?_)
  refine ho_lpW (T := Nat) 4 (fun x9 => ((forW cI fo l1 l2 l3 t (lkI n al nd kn mb kd fg x9) (efI n al nd kn mb kd fg ef x9) le) ++ (schW cI cD h a1 a2 a3 a4 a5 n d t al day nd mk si kn mb) : va_W)) (fun x9 => [(3, .int (nI x9)), (0, .ref fo), (1, .ref h), (2, .ref a)]) (fun x9 => []) (fun x9 => (x9 ≤ 6)) (fun x9 => 6 - x9) 0 (by omega) (lv_sub hl [0, 1, 2, 3] rfl) hP hD hS ?_
  intro fu18 i H locs ls hI hm18 hP hD hS hl ih
  have hi6 := hI
  have hl : lv_has ls 4 [(3, .int (nI i)), (0, .ref fo), (1, .ref h), (2, .ref a)] := hl
  have hi6 : i ≤ 6 := hi6
  have hm18 : 6 - i < fu18 + 1 := hm18
  have hP : va_P (dC, dI) vwCl ((forW cI fo l1 l2 l3 t (lkI n al nd kn mb kd fg i) (efI n al nd kn mb kd fg ef i) le) ++ (schW cI cD h a1 a2 a3 a4 a5 n d t al day nd mk si kn mb)) H := hP
  have hD : va_D A ((forW cI fo l1 l2 l3 t (lkI n al nd kn mb kd fg i) (efI n al nd kn mb kd fg ef i) le) ++ (schW cI cD h a1 a2 a3 a4 a5 n d t al day nd mk si kn mb)) := hD
  refine W.eq (g2 := F0 m 18 ls []) rfl ?_
  have ih18 := ih
  refine lv_iload_n hx hb dX4_look_18 rfl (lv_at hl 0 rfl) ?_
  refine lv_bipush (v := nI 6) hx hb dX4_look_19 (by decide +kernel) ?_
  refine ho_icmp_ge (tgt := 54) hx hb dX4_look_21 (by decide) (by omega) (by omega) (fun c_21 => ?_) (fun c_21 => ?_)
  · refine lv_aload_n hx hb dX4_look_54 rfl (lv_at hl 1 rfl) ?_
    refine lv_bipush (v := nI 6) hx hb dX4_look_55 (by decide +kernel) ?_
    refine lv_aload_n hx hb dX4_look_57 rfl (lv_at hl 3 rfl) ?_
    refine lv_iconst (v := nI 0) hx hb dX4_look_58 (by decide +kernel) ?_
    refine lv_aload_n hx hb dX4_look_59 rfl (lv_at hl 2 rfl) ?_
    have hPc := hP
    have hDc := hD
    have hFc := va_free (wc := (forW cI fo l1 l2 l3 t (lkI n al nd kn mb kd fg i) (efI n al nd kn mb kd fg ef i) le) ++ (schW cI cD h a1 a2 a3 a4 a5 n d t al day nd mk si kn mb)) hD hS hA [0, 1, 2, 3, 4, 5, 6, 7, 8, 9] rfl
    refine va_callv (va_runV (As := [.int (nI 6), .ref a, .int (nI 0), .ref h]) (rest := []) ⟨hx, hb, hml, hown, hts⟩ (c_X4_consider l dC dI cI cD cR fo l1 l2 l3 t (lkI n al nd kn mb kd fg i) (efI n al nd kn mb kd fg ef i) le h a1 a2 a3 a4 a5 n d t al day nd mk si kn mb DL kd fg 6 a 0 H.size (by first | omega | assumption | exact gnd _ | exact gkn _ | exact Nat.lt_trans (gkn _) (by decide) | exact Nat.lt_trans (gnd _) (by decide) | exact Nat.lt_of_le_of_lt (pcN_le _) (by decide)) (by first | omega | assumption | exact gnd _ | exact gkn _ | exact Nat.lt_trans (gkn _) (by decide) | exact Nat.lt_trans (gnd _) (by decide) | exact Nat.lt_of_le_of_lt (pcN_le _) (by decide)) (by first | omega | assumption | exact gnd _ | exact gkn _ | exact Nat.lt_trans (gkn _) (by decide) | exact Nat.lt_trans (gnd _) (by decide) | exact Nat.lt_of_le_of_lt (pcN_le _) (by decide)) (by first | omega | assumption | exact gnd _ | exact gkn _ | exact Nat.lt_trans (gkn _) (by decide) | exact Nat.lt_trans (gnd _) (by decide) | exact Nat.lt_of_le_of_lt (pcN_le _) (by decide)) (by first | omega | assumption | exact gnd _ | exact gkn _ | exact Nat.lt_trans (gkn _) (by decide) | exact Nat.lt_trans (gnd _) (by decide) | exact Nat.lt_of_le_of_lt (pcN_le _) (by decide)) gnd gkn gmb (by first | omega | assumption | exact gnd _ | exact gkn _ | exact Nat.lt_trans (gkn _) (by decide) | exact Nat.lt_trans (gnd _) (by decide) | exact Nat.lt_of_le_of_lt (pcN_le _) (by decide)) (by first | omega | assumption | exact gnd _ | exact gkn _ | exact Nat.lt_trans (gkn _) (by decide) | exact Nat.lt_trans (gnd _) (by decide) | exact Nat.lt_of_le_of_lt (pcN_le _) (by decide)) ga (fun a9 ha9 h9 => hro a9 ha9 (hFc a9 h9))) (cwV 4 hts gX4_look_X4_consider rfl rfl rfl (by decide +kernel) ⟨Nat.le_of_ble_eq_true rfl, Nat.le_of_ble_eq_true rfl⟩) (preV_R hCX (va_recv hK hP (ci := 4) (q0 := 0) rfl rfl) ⟨rfl, hPc, hDc.weaken (fun _ _ _ _ => trivial), (DP.keep hDP0 hro hS)⟩) rfl rfl hl.1 rfl (lv_room (Nat.le_of_ble_eq_true rfl)) dX4_look_60 ⟨Nat.le_of_ble_eq_true (by first | rfl | decide), Nat.le_of_ble_eq_true (by first | rfl | decide)⟩) hS (fun q _ h => hFc q h) hFc (fun u T8 H1 locs hT8 hvm hw hB hz1 hk1 hS => ?_)
    obtain ⟨hP1, hD1⟩ := hB
    rw [hT8] at hP1
    obtain ⟨hP, hD⟩ := va_join (wr := []) (w1 := (forW cI fo l1 l2 l3 t (cnL (kd a) (fg a) 0 6 nd n (lkI n al nd kn mb kd fg i)) (cnE (kd a) (fg a) 0 6 nd n (efI n al nd kn mb kd fg ef i)) le) ++ (schW cI cD h a1 a2 a3 a4 a5 n d t al day nd mk si kn mb)) hP hD [0, 1, 2, 3, 4, 5, 6, 7, 8, 9] [] rfl rfl (by decide) (by decide) hk1 hFc hP1 hD1
    generalize H1 = H at hP hS ⊢
    have hP : va_P (dC, dI) vwCl ((forW cI fo l1 l2 l3 t (cnL (kd a) (fg a) 0 6 nd n (lkI n al nd kn mb kd fg i)) (cnE (kd a) (fg a) 0 6 nd n (efI n al nd kn mb kd fg ef i)) le) ++ (schW cI cD h a1 a2 a3 a4 a5 n d t al day nd mk si kn mb)) H := hP
    have hD : va_D A ((forW cI fo l1 l2 l3 t (cnL (kd a) (fg a) 0 6 nd n (lkI n al nd kn mb kd fg i)) (cnE (kd a) (fg a) 0 6 nd n (efI n al nd kn mb kd fg ef i)) le) ++ (schW cI cD h a1 a2 a3 a4 a5 n d t al day nd mk si kn mb)) := hD
    have hW9 : ((forW cI fo l1 l2 l3 t (cnL (kd a) (fg a) 0 6 nd n (lkI n al nd kn mb kd fg i)) (cnE (kd a) (fg a) 0 6 nd n (efI n al nd kn mb kd fg ef i)) le) ++ (schW cI cD h a1 a2 a3 a4 a5 n d t al day nd mk si kn mb) : va_W) = (forW cI fo l1 l2 l3 t (cnL (kd a) (fg a) 0 6 nd n (lkI n al nd kn mb kd fg 6)) (cnE (kd a) (fg a) 0 6 nd n (efI n al nd kn mb kd fg ef 6)) le) ++ (schW cI cD h a1 a2 a3 a4 a5 n d t al day nd mk si kn mb) := by rw [show i = 6 by omega]
    rw [hW9] at hP hD
    exact W.vret hx hb hr (fun T9 hT9 hW9 => ⟨⟨(), rfl, trivial, by rw [hT9]; exact hP, hD⟩, hS.F hT9⟩) hS.2.2 dX4_look_63
  refine lv_aload_n hx hb dX4_look_24 rfl (lv_at hl 2 rfl) ?_
  refine lv_iload_n hx hb dX4_look_25 rfl (lv_at hl 0 rfl) ?_
  refine vp_callSi ((va_runV (As := [.int (nI i)]) (rest := []) ⟨hx, hb, hml, hown, hts⟩ (c_X9_isAlive l dC dI cI cD cR h a1 a2 a3 a4 a5 n d t al day nd mk si kn mb i (by first | omega | assumption | exact gnd _ | exact gkn _ | exact Nat.lt_trans (gkn _) (by decide) | exact Nat.lt_trans (gnd _) (by decide) | exact Nat.lt_of_le_of_lt (pcN_le _) (by decide)) (by first | omega | assumption | exact gnd _ | exact gkn _ | exact Nat.lt_trans (gkn _) (by decide) | exact Nat.lt_trans (gnd _) (by decide) | exact Nat.lt_of_le_of_lt (pcN_le _) (by decide)) (by first | omega | assumption | exact gnd _ | exact gkn _ | exact Nat.lt_trans (gkn _) (by decide) | exact Nat.lt_trans (gnd _) (by decide) | exact Nat.lt_of_le_of_lt (pcN_le _) (by decide)) (by first | omega | assumption | exact gnd _ | exact gkn _ | exact Nat.lt_trans (gkn _) (by decide) | exact Nat.lt_trans (gnd _) (by decide) | exact Nat.lt_of_le_of_lt (pcN_le _) (by decide)) (by first | omega | assumption | exact gnd _ | exact gkn _ | exact Nat.lt_trans (gkn _) (by decide) | exact Nat.lt_trans (gnd _) (by decide) | exact Nat.lt_of_le_of_lt (pcN_le _) (by decide)) gnd gkn (by first | omega | assumption | exact gnd _ | exact gkn _ | exact Nat.lt_trans (gkn _) (by decide) | exact Nat.lt_trans (gnd _) (by decide) | exact Nat.lt_of_le_of_lt (pcN_le _) (by decide))) (cwV 1 hts gX4_look_X9_isAlive rfl rfl rfl (by decide +kernel) ⟨Nat.le_of_ble_eq_true rfl, Nat.le_of_ble_eq_true rfl⟩) (preV_R hCX (va_recv hK hP (ci := 9) (q0 := 4) rfl rfl) ((hP.sub (ws' := (schW cI cD h a1 a2 a3 a4 a5 n d t al day nd mk si kn mb)) [4, 5, 6, 7, 8, 9] rfl))) rfl rfl hl.1 rfl (lv_room (Nat.le_of_ble_eq_true rfl)) dX4_look_26 ⟨Nat.le_of_ble_eq_true (by first | rfl | decide), Nat.le_of_ble_eq_true (by first | rfl | decide)⟩).run) (fun r_26 hr_26 => ?_)
  subst hr_26
  refine ho_beq (tgt := 48) hx hb dX4_look_29 (by decide) (fun c_29 => ?_) (fun c_29 => ?_)
  · refine ho_iinc (lv' := [(3, .int (nI (i + 1))), (0, .ref fo), (1, .ref h), (2, .ref a)]) (a := i) (b := 1) hx hb dX4_look_48 hl (k := 0) rfl rfl (by decide) rfl (fun ls hl => ?_)
    refine lv_goto (tgt := 18) hx hb dX4_look_51 (by decide) ?_
    have hW9 : ((forW cI fo l1 l2 l3 t (lkI n al nd kn mb kd fg i) (efI n al nd kn mb kd fg ef i) le) ++ (schW cI cD h a1 a2 a3 a4 a5 n d t al day nd mk si kn mb) : va_W) = (forW cI fo l1 l2 l3 t (lkI n al nd kn mb kd fg (i + 1)) (efI n al nd kn mb kd fg ef (i + 1)) le) ++ (schW cI cD h a1 a2 a3 a4 a5 n d t al day nd mk si kn mb) := by first | rw [lkI_s c_29 hv_36, efI_s c_29 hv_36] | rw [← lkI_n c_29 hv_36, ← efI_n c_29 hv_36] | rw [← lkI_f c_29, ← efI_f c_29]
    rw [hW9] at hP hD
    exact ih18 (i + 1) _ _ _ (by omega) (show 6 - (i + 1) < fu18 from (by omega)) hP hD hS (lv_sub hl [0, 1, 2, 3] rfl)
  refine lv_aload_n hx hb dX4_look_32 rfl (lv_at hl 1 rfl) ?_
  refine lv_iload_n hx hb dX4_look_33 rfl (lv_at hl 0 rfl) ?_
  refine lv_aload_n hx hb dX4_look_34 rfl (lv_at hl 2 rfl) ?_
  refine lv_iload_n hx hb dX4_look_35 rfl (lv_at hl 0 rfl) ?_
  refine va_csq ((va_runV (As := [.int (nI i)]) (rest := [.int (nI i), .ref fo]) ⟨hx, hb, hml, hown, hts⟩ (c_X9_memberAt l dC dI cI cD cR h a1 a2 a3 a4 a5 n d t al day nd mk si kn mb i (by first | omega | assumption | exact gnd _ | exact gkn _ | exact Nat.lt_trans (gkn _) (by decide) | exact Nat.lt_trans (gnd _) (by decide) | exact Nat.lt_of_le_of_lt (pcN_le _) (by decide)) (by first | omega | assumption | exact gnd _ | exact gkn _ | exact Nat.lt_trans (gkn _) (by decide) | exact Nat.lt_trans (gnd _) (by decide) | exact Nat.lt_of_le_of_lt (pcN_le _) (by decide)) (by first | omega | assumption | exact gnd _ | exact gkn _ | exact Nat.lt_trans (gkn _) (by decide) | exact Nat.lt_trans (gnd _) (by decide) | exact Nat.lt_of_le_of_lt (pcN_le _) (by decide)) (by first | omega | assumption | exact gnd _ | exact gkn _ | exact Nat.lt_trans (gkn _) (by decide) | exact Nat.lt_trans (gnd _) (by decide) | exact Nat.lt_of_le_of_lt (pcN_le _) (by decide)) (by first | omega | assumption | exact gnd _ | exact gkn _ | exact Nat.lt_trans (gkn _) (by decide) | exact Nat.lt_trans (gnd _) (by decide) | exact Nat.lt_of_le_of_lt (pcN_le _) (by decide)) gnd gkn (by first | omega | assumption | exact gnd _ | exact gkn _ | exact Nat.lt_trans (gkn _) (by decide) | exact Nat.lt_trans (gnd _) (by decide) | exact Nat.lt_of_le_of_lt (pcN_le _) (by decide))) (cwV 1 hts gX4_look_X9_memberAt rfl rfl rfl (by decide +kernel) ⟨Nat.le_of_ble_eq_true rfl, Nat.le_of_ble_eq_true rfl⟩) (preV_R hCX (va_recv hK hP (ci := 9) (q0 := 4) rfl rfl) ((hP.sub (ws' := (schW cI cD h a1 a2 a3 a4 a5 n d t al day nd mk si kn mb)) [4, 5, 6, 7, 8, 9] rfl))) rfl rfl hl.1 rfl (lv_room (Nat.le_of_ble_eq_true rfl)) dX4_look_36 ⟨Nat.le_of_ble_eq_true (by first | rfl | decide), Nat.le_of_ble_eq_true (by first | rfl | decide)⟩).run) (fun r_36 hr_36 => ?_)
  subst hr_36
  cases hv_36 : mb i with
  | none =>
    refine ho_topr (y := .null) rfl ?_
    refine lv_aload_n hx hb dX4_look_39 rfl (lv_at hl 2 rfl) ?_
    refine lv_iload_n hx hb dX4_look_40 rfl (lv_at hl 0 rfl) ?_
    refine vp_callSi ((va_runV (As := [.int (nI i)]) (rest := [.null, .int (nI i), .ref fo]) ⟨hx, hb, hml, hown, hts⟩ (c_X9_knownTo l dC dI cI cD cR h a1 a2 a3 a4 a5 n d t al day nd mk si kn mb i (by first | omega | assumption | exact gnd _ | exact gkn _ | exact Nat.lt_trans (gkn _) (by decide) | exact Nat.lt_trans (gnd _) (by decide) | exact Nat.lt_of_le_of_lt (pcN_le _) (by decide)) (by first | omega | assumption | exact gnd _ | exact gkn _ | exact Nat.lt_trans (gkn _) (by decide) | exact Nat.lt_trans (gnd _) (by decide) | exact Nat.lt_of_le_of_lt (pcN_le _) (by decide)) (by first | omega | assumption | exact gnd _ | exact gkn _ | exact Nat.lt_trans (gkn _) (by decide) | exact Nat.lt_trans (gnd _) (by decide) | exact Nat.lt_of_le_of_lt (pcN_le _) (by decide)) (by first | omega | assumption | exact gnd _ | exact gkn _ | exact Nat.lt_trans (gkn _) (by decide) | exact Nat.lt_trans (gnd _) (by decide) | exact Nat.lt_of_le_of_lt (pcN_le _) (by decide)) (by first | omega | assumption | exact gnd _ | exact gkn _ | exact Nat.lt_trans (gkn _) (by decide) | exact Nat.lt_trans (gnd _) (by decide) | exact Nat.lt_of_le_of_lt (pcN_le _) (by decide)) gnd gkn (by first | omega | assumption | exact gnd _ | exact gkn _ | exact Nat.lt_trans (gkn _) (by decide) | exact Nat.lt_trans (gnd _) (by decide) | exact Nat.lt_of_le_of_lt (pcN_le _) (by decide))) (cwV 1 hts gX4_look_X9_knownTo rfl rfl rfl (by decide +kernel) ⟨Nat.le_of_ble_eq_true rfl, Nat.le_of_ble_eq_true rfl⟩) (preV_R hCX (va_recv hK hP (ci := 9) (q0 := 4) rfl rfl) ((hP.sub (ws' := (schW cI cD h a1 a2 a3 a4 a5 n d t al day nd mk si kn mb)) [4, 5, 6, 7, 8, 9] rfl))) rfl rfl hl.1 rfl (lv_room (Nat.le_of_ble_eq_true rfl)) dX4_look_41 ⟨Nat.le_of_ble_eq_true (by first | rfl | decide), Nat.le_of_ble_eq_true (by first | rfl | decide)⟩).run) (fun r_41 hr_41 => ?_)
    subst hr_41
    refine lv_aload_n hx hb dX4_look_44 rfl (lv_at hl 2 rfl) ?_
    have hPc := hP
    have hDc := hD
    have hFc := va_free (wc := (forW cI fo l1 l2 l3 t (lkI n al nd kn mb kd fg i) (efI n al nd kn mb kd fg ef i) le) ++ (schW cI cD h a1 a2 a3 a4 a5 n d t al day nd mk si kn mb)) hD hS hA [0, 1, 2, 3, 4, 5, 6, 7, 8, 9] rfl
    refine va_callv (va_runV (As := [.int (nI i), .null, .int (nI (kn i)), .ref h]) (rest := []) ⟨hx, hb, hml, hown, hts⟩ (c_X4_consider_0 l dC dI cI cD cR fo l1 l2 l3 t (lkI n al nd kn mb kd fg i) (efI n al nd kn mb kd fg ef i) le h a1 a2 a3 a4 a5 n d t al day nd mk si kn mb DL kd fg i (kn i) H.size (by first | omega | assumption | exact gnd _ | exact gkn _ | exact Nat.lt_trans (gkn _) (by decide) | exact Nat.lt_trans (gnd _) (by decide) | exact Nat.lt_of_le_of_lt (pcN_le _) (by decide)) (by first | omega | assumption | exact gnd _ | exact gkn _ | exact Nat.lt_trans (gkn _) (by decide) | exact Nat.lt_trans (gnd _) (by decide) | exact Nat.lt_of_le_of_lt (pcN_le _) (by decide)) (by first | omega | assumption | exact gnd _ | exact gkn _ | exact Nat.lt_trans (gkn _) (by decide) | exact Nat.lt_trans (gnd _) (by decide) | exact Nat.lt_of_le_of_lt (pcN_le _) (by decide)) (by first | omega | assumption | exact gnd _ | exact gkn _ | exact Nat.lt_trans (gkn _) (by decide) | exact Nat.lt_trans (gnd _) (by decide) | exact Nat.lt_of_le_of_lt (pcN_le _) (by decide)) (by first | omega | assumption | exact gnd _ | exact gkn _ | exact Nat.lt_trans (gkn _) (by decide) | exact Nat.lt_trans (gnd _) (by decide) | exact Nat.lt_of_le_of_lt (pcN_le _) (by decide)) gnd gkn gmb (fun a9 ha9 h9 => hro a9 ha9 (hFc a9 h9))) (cwV 4 hts gX4_look_X4_consider rfl rfl rfl (by decide +kernel) ⟨Nat.le_of_ble_eq_true rfl, Nat.le_of_ble_eq_true rfl⟩) (preV_R hCX (va_recv hK hP (ci := 4) (q0 := 0) rfl rfl) ⟨rfl, hPc, hDc.weaken (fun _ _ _ _ => trivial), (DP.keep hDP0 hro hS)⟩) rfl rfl hl.1 rfl (lv_room (Nat.le_of_ble_eq_true rfl)) dX4_look_45 ⟨Nat.le_of_ble_eq_true (by first | rfl | decide), Nat.le_of_ble_eq_true (by first | rfl | decide)⟩) hS (fun q _ h => hFc q h) hFc (fun u T8 H1 locs hT8 hvm hw hB hz1 hk1 hS => ?_)
    obtain ⟨hP1, hD1⟩ := hB
    rw [hT8] at hP1
    obtain ⟨hP, hD⟩ := va_join (wr := []) (w1 := (forW cI fo l1 l2 l3 t (lkI n al nd kn mb kd fg i) (efI n al nd kn mb kd fg ef i) le) ++ (schW cI cD h a1 a2 a3 a4 a5 n d t al day nd mk si kn mb)) hP hD [0, 1, 2, 3, 4, 5, 6, 7, 8, 9] [] rfl rfl (by decide) (by decide) hk1 hFc hP1 hD1
    generalize H1 = H at hP hS ⊢
    have hP : va_P (dC, dI) vwCl ((forW cI fo l1 l2 l3 t (lkI n al nd kn mb kd fg i) (efI n al nd kn mb kd fg ef i) le) ++ (schW cI cD h a1 a2 a3 a4 a5 n d t al day nd mk si kn mb)) H := hP
    have hD : va_D A ((forW cI fo l1 l2 l3 t (lkI n al nd kn mb kd fg i) (efI n al nd kn mb kd fg ef i) le) ++ (schW cI cD h a1 a2 a3 a4 a5 n d t al day nd mk si kn mb)) := hD
    refine ho_iinc (lv' := [(3, .int (nI (i + 1))), (0, .ref fo), (1, .ref h), (2, .ref a)]) (a := i) (b := 1) hx hb dX4_look_48 hl (k := 0) rfl rfl (by decide) rfl (fun ls hl => ?_)
    refine lv_goto (tgt := 18) hx hb dX4_look_51 (by decide) ?_
    have hW9 : ((forW cI fo l1 l2 l3 t (lkI n al nd kn mb kd fg i) (efI n al nd kn mb kd fg ef i) le) ++ (schW cI cD h a1 a2 a3 a4 a5 n d t al day nd mk si kn mb) : va_W) = (forW cI fo l1 l2 l3 t (lkI n al nd kn mb kd fg (i + 1)) (efI n al nd kn mb kd fg ef (i + 1)) le) ++ (schW cI cD h a1 a2 a3 a4 a5 n d t al day nd mk si kn mb) := by first | rw [lkI_s c_29 hv_36, efI_s c_29 hv_36] | rw [← lkI_n c_29 hv_36, ← efI_n c_29 hv_36] | rw [← lkI_f c_29, ← efI_f c_29]
    rw [hW9] at hP hD
    exact ih18 (i + 1) _ _ _ (by omega) (show 6 - (i + 1) < fu18 from (by omega)) hP hD hS (lv_sub hl [0, 1, 2, 3] rfl)
  | some a_36 =>
    refine ho_topr (y := .ref a_36) rfl ?_
    have hda_36 : a_36 ∈ DL := gmb _ _ hv_36
    refine lv_aload_n hx hb dX4_look_39 rfl (lv_at hl 2 rfl) ?_
    refine lv_iload_n hx hb dX4_look_40 rfl (lv_at hl 0 rfl) ?_
    refine vp_callSi ((va_runV (As := [.int (nI i)]) (rest := [.ref a_36, .int (nI i), .ref fo]) ⟨hx, hb, hml, hown, hts⟩ (c_X9_knownTo l dC dI cI cD cR h a1 a2 a3 a4 a5 n d t al day nd mk si kn mb i (by first | omega | assumption | exact gnd _ | exact gkn _ | exact Nat.lt_trans (gkn _) (by decide) | exact Nat.lt_trans (gnd _) (by decide) | exact Nat.lt_of_le_of_lt (pcN_le _) (by decide)) (by first | omega | assumption | exact gnd _ | exact gkn _ | exact Nat.lt_trans (gkn _) (by decide) | exact Nat.lt_trans (gnd _) (by decide) | exact Nat.lt_of_le_of_lt (pcN_le _) (by decide)) (by first | omega | assumption | exact gnd _ | exact gkn _ | exact Nat.lt_trans (gkn _) (by decide) | exact Nat.lt_trans (gnd _) (by decide) | exact Nat.lt_of_le_of_lt (pcN_le _) (by decide)) (by first | omega | assumption | exact gnd _ | exact gkn _ | exact Nat.lt_trans (gkn _) (by decide) | exact Nat.lt_trans (gnd _) (by decide) | exact Nat.lt_of_le_of_lt (pcN_le _) (by decide)) (by first | omega | assumption | exact gnd _ | exact gkn _ | exact Nat.lt_trans (gkn _) (by decide) | exact Nat.lt_trans (gnd _) (by decide) | exact Nat.lt_of_le_of_lt (pcN_le _) (by decide)) gnd gkn (by first | omega | assumption | exact gnd _ | exact gkn _ | exact Nat.lt_trans (gkn _) (by decide) | exact Nat.lt_trans (gnd _) (by decide) | exact Nat.lt_of_le_of_lt (pcN_le _) (by decide))) (cwV 1 hts gX4_look_X9_knownTo rfl rfl rfl (by decide +kernel) ⟨Nat.le_of_ble_eq_true rfl, Nat.le_of_ble_eq_true rfl⟩) (preV_R hCX (va_recv hK hP (ci := 9) (q0 := 4) rfl rfl) ((hP.sub (ws' := (schW cI cD h a1 a2 a3 a4 a5 n d t al day nd mk si kn mb)) [4, 5, 6, 7, 8, 9] rfl))) rfl rfl hl.1 rfl (lv_room (Nat.le_of_ble_eq_true rfl)) dX4_look_41 ⟨Nat.le_of_ble_eq_true (by first | rfl | decide), Nat.le_of_ble_eq_true (by first | rfl | decide)⟩).run) (fun r_41 hr_41 => ?_)
    subst hr_41
    refine lv_aload_n hx hb dX4_look_44 rfl (lv_at hl 2 rfl) ?_
    have hPc := hP
    have hDc := hD
    have hFc := va_free (wc := (forW cI fo l1 l2 l3 t (lkI n al nd kn mb kd fg i) (efI n al nd kn mb kd fg ef i) le) ++ (schW cI cD h a1 a2 a3 a4 a5 n d t al day nd mk si kn mb)) hD hS hA [0, 1, 2, 3, 4, 5, 6, 7, 8, 9] rfl
    refine va_callv (va_runV (As := [.int (nI i), .ref a_36, .int (nI (kn i)), .ref h]) (rest := []) ⟨hx, hb, hml, hown, hts⟩ (c_X4_consider l dC dI cI cD cR fo l1 l2 l3 t (lkI n al nd kn mb kd fg i) (efI n al nd kn mb kd fg ef i) le h a1 a2 a3 a4 a5 n d t al day nd mk si kn mb DL kd fg i a_36 (kn i) H.size (by first | omega | assumption | exact gnd _ | exact gkn _ | exact Nat.lt_trans (gkn _) (by decide) | exact Nat.lt_trans (gnd _) (by decide) | exact Nat.lt_of_le_of_lt (pcN_le _) (by decide)) (by first | omega | assumption | exact gnd _ | exact gkn _ | exact Nat.lt_trans (gkn _) (by decide) | exact Nat.lt_trans (gnd _) (by decide) | exact Nat.lt_of_le_of_lt (pcN_le _) (by decide)) (by first | omega | assumption | exact gnd _ | exact gkn _ | exact Nat.lt_trans (gkn _) (by decide) | exact Nat.lt_trans (gnd _) (by decide) | exact Nat.lt_of_le_of_lt (pcN_le _) (by decide)) (by first | omega | assumption | exact gnd _ | exact gkn _ | exact Nat.lt_trans (gkn _) (by decide) | exact Nat.lt_trans (gnd _) (by decide) | exact Nat.lt_of_le_of_lt (pcN_le _) (by decide)) (by first | omega | assumption | exact gnd _ | exact gkn _ | exact Nat.lt_trans (gkn _) (by decide) | exact Nat.lt_trans (gnd _) (by decide) | exact Nat.lt_of_le_of_lt (pcN_le _) (by decide)) gnd gkn gmb (by first | omega | assumption | exact gnd _ | exact gkn _ | exact Nat.lt_trans (gkn _) (by decide) | exact Nat.lt_trans (gnd _) (by decide) | exact Nat.lt_of_le_of_lt (pcN_le _) (by decide)) (by first | omega | assumption | exact gnd _ | exact gkn _ | exact Nat.lt_trans (gkn _) (by decide) | exact Nat.lt_trans (gnd _) (by decide) | exact Nat.lt_of_le_of_lt (pcN_le _) (by decide)) hda_36 (fun a9 ha9 h9 => hro a9 ha9 (hFc a9 h9))) (cwV 4 hts gX4_look_X4_consider rfl rfl rfl (by decide +kernel) ⟨Nat.le_of_ble_eq_true rfl, Nat.le_of_ble_eq_true rfl⟩) (preV_R hCX (va_recv hK hP (ci := 4) (q0 := 0) rfl rfl) ⟨rfl, hPc, hDc.weaken (fun _ _ _ _ => trivial), (DP.keep hDP0 hro hS)⟩) rfl rfl hl.1 rfl (lv_room (Nat.le_of_ble_eq_true rfl)) dX4_look_45 ⟨Nat.le_of_ble_eq_true (by first | rfl | decide), Nat.le_of_ble_eq_true (by first | rfl | decide)⟩) hS (fun q _ h => hFc q h) hFc (fun u T8 H1 locs hT8 hvm hw hB hz1 hk1 hS => ?_)
    obtain ⟨hP1, hD1⟩ := hB
    rw [hT8] at hP1
    obtain ⟨hP, hD⟩ := va_join (wr := []) (w1 := (forW cI fo l1 l2 l3 t (cnL (kd a_36) (fg a_36) (kn i) i nd n (lkI n al nd kn mb kd fg i)) (cnE (kd a_36) (fg a_36) (kn i) i nd n (efI n al nd kn mb kd fg ef i)) le) ++ (schW cI cD h a1 a2 a3 a4 a5 n d t al day nd mk si kn mb)) hP hD [0, 1, 2, 3, 4, 5, 6, 7, 8, 9] [] rfl rfl (by decide) (by decide) hk1 hFc hP1 hD1
    generalize H1 = H at hP hS ⊢
    have hP : va_P (dC, dI) vwCl ((forW cI fo l1 l2 l3 t (cnL (kd a_36) (fg a_36) (kn i) i nd n (lkI n al nd kn mb kd fg i)) (cnE (kd a_36) (fg a_36) (kn i) i nd n (efI n al nd kn mb kd fg ef i)) le) ++ (schW cI cD h a1 a2 a3 a4 a5 n d t al day nd mk si kn mb)) H := hP
    have hD : va_D A ((forW cI fo l1 l2 l3 t (cnL (kd a_36) (fg a_36) (kn i) i nd n (lkI n al nd kn mb kd fg i)) (cnE (kd a_36) (fg a_36) (kn i) i nd n (efI n al nd kn mb kd fg ef i)) le) ++ (schW cI cD h a1 a2 a3 a4 a5 n d t al day nd mk si kn mb)) := hD
    refine ho_iinc (lv' := [(3, .int (nI (i + 1))), (0, .ref fo), (1, .ref h), (2, .ref a)]) (a := i) (b := 1) hx hb dX4_look_48 hl (k := 0) rfl rfl (by decide) rfl (fun ls hl => ?_)
    refine lv_goto (tgt := 18) hx hb dX4_look_51 (by decide) ?_
    have hW9 : ((forW cI fo l1 l2 l3 t (cnL (kd a_36) (fg a_36) (kn i) i nd n (lkI n al nd kn mb kd fg i)) (cnE (kd a_36) (fg a_36) (kn i) i nd n (efI n al nd kn mb kd fg ef i)) le) ++ (schW cI cD h a1 a2 a3 a4 a5 n d t al day nd mk si kn mb) : va_W) = (forW cI fo l1 l2 l3 t (lkI n al nd kn mb kd fg (i + 1)) (efI n al nd kn mb kd fg ef (i + 1)) le) ++ (schW cI cD h a1 a2 a3 a4 a5 n d t al day nd mk si kn mb) := by first | rw [lkI_s c_29 hv_36, efI_s c_29 hv_36] | rw [← lkI_n c_29 hv_36, ← efI_n c_29 hv_36] | rw [← lkI_f c_29, ← efI_f c_29]
    rw [hW9] at hP hD
    exact ih18 (i + 1) _ _ _ (by omega) (show 6 - (i + 1) < fu18 from (by omega)) hP hD hS (lv_sub hl [0, 1, 2, 3] rfl)
set_option maxHeartbeats 4000000 in
set_option maxRecDepth 100000 in
theorem c_X4_fewestDenials (l : Launch) (dC : Nat → ClassId) (dI : Nat → Nat → Nat) (cI cD cR : ClassId) (fo l1 l2 l3 sa : Nat) (lk : Nat → Option Nat) (ef : Nat → Nat) (le : Nat → Option Nat) (goal : Nat) (sz : Nat) (hsa : sa < 512) (glk : ∀ i v, lk i = some v → v < 512) (gef : ∀ i, ef i < 1000) (hgo : goal < 512) : Met l yX4_fewestDenials wsX4_fewestDenials ({ frames := 4, cells := 0, slots := 0, locals := 95 }) (pcR dC dI cI cD cR [.ref fo, .int (nI goal)] (fun H => H.size = sz ∧ va_P (dC, dI) vwCl ((forW cI fo l1 l2 l3 sa lk ef le)) H ∧ va_D (fun _ => True) ((forW cI fo l1 l2 l3 sa lk ef le)))) (va_Qi (fun r (_ : Unit) => r = oI (plD lk ef sa goal false le 512 sa)) (fun (_ : Unit) T9 => va_P (dC, dI) vwCl ((forW cI fo l1 l2 l3 sa lk ef (plD lk ef sa goal false le 512))) T9.heap ∧ va_D (va_A ((forW cI fo l1 l2 l3 sa lk ef le)) sz) ((forW cI fo l1 l2 l3 sa lk ef (plD lk ef sa goal false le 512)))) (va_A ((forW cI fo l1 l2 l3 sa lk ef le)) sz)) 0 0 (va_A ((forW cI fo l1 l2 l3 sa lk ef le)) sz) := by
  refine Met.ofW (cc := cX4_fewestDenials) (maxL := 2) (ret := (some .int)) (by decide) rfl ?_
  intro p e s m args below meth c s₁ B hml hv
  obtain ⟨rfl, hH0, hCX⟩ := hv
  have hx := B.exec
  have hb := B.bytes
  have hr := B.returns
  have hts := atoms_spec (ws := wsX4_fewestDenials) B.pre
  have hown : s.vm.findClass RX4 = some m.cls := findClass_of_methodNamed B.named
  have hlocks := B.notSynchronized
  have hK := hCX.1
  obtain ⟨hsz, hP, hD0⟩ := hH0
  subst hsz
  have hD := hD0.self (sz := s.heap.size)
  generalize hAe : va_A ((forW cI fo l1 l2 l3 sa lk ef le)) s.heap.size = A at hD ⊢
  have hA : ∀ q : Nat, s.heap.size ≤ q → A q := fun q h => by rw [← hAe]; exact Or.inr h
  have hS : va_S A s.heap s.heap [] := va_S.rf
  have hP : va_P (dC, dI) vwCl ((forW cI fo l1 l2 l3 sa lk ef le)) s.heap := hP
  have hl := lv_entry ([.ref fo, .int (nI goal)]) (n := 2) (Nat.le_of_ble_eq_true rfl)
  rw [lg_entry_eq]
  generalize (lg_sl ([.ref fo, .int (nI goal)]) ++ List.replicate (2 - (lg_sl ([.ref fo, .int (nI goal)])).length) Slot.unset).toArray = ls at hl ⊢
  have hl : lv_has ls 2 [(0, .ref fo), (1, .int (nI goal))] := hl
  refine lv_aload_n hx hb dX4_fewestDenials_0 rfl (lv_at hl 0 rfl) ?_
  refine lv_iload_n hx hb dX4_fewestDenials_1 rfl (lv_at hl 1 rfl) ?_
  refine lv_iconst (v := nI 0) hx hb dX4_fewestDenials_2 (by decide +kernel) ?_
  have hPc := hP
  have hDc := hD
  have hFc := va_free (wc := (forW cI fo l1 l2 l3 sa lk ef le)) hD hS hA [0, 1, 2, 3] rfl
  refine va_callv (va_runV (As := [.int (nI goal), .int (nI 0)]) (rest := []) ⟨hx, hb, hml, hown, hts⟩ (c_X4_plan l dC dI cI cD cR fo l1 l2 l3 sa lk ef le goal false s.heap.size (by first | omega | assumption | exact gnd _ | exact gkn _ | exact Nat.lt_trans (gkn _) (by decide) | exact Nat.lt_trans (gnd _) (by decide) | exact Nat.lt_of_le_of_lt (pcN_le _) (by decide)) glk gef (by first | omega | assumption | exact gnd _ | exact gkn _ | exact Nat.lt_trans (gkn _) (by decide) | exact Nat.lt_trans (gnd _) (by decide) | exact Nat.lt_of_le_of_lt (pcN_le _) (by decide))) (cwV 2 hts gX4_fewestDenials_X4_plan rfl rfl rfl (by decide +kernel) ⟨Nat.le_of_ble_eq_true rfl, Nat.le_of_ble_eq_true rfl⟩) (preV_R hCX (va_recv hK hP (ci := 4) (q0 := 0) rfl rfl) ⟨rfl, hPc, hDc.weaken (fun _ _ _ _ => trivial)⟩) rfl rfl hl.1 rfl (lv_room (Nat.le_of_ble_eq_true rfl)) dX4_fewestDenials_3 ⟨Nat.le_of_ble_eq_true (by first | rfl | decide), Nat.le_of_ble_eq_true (by first | rfl | decide)⟩) hS (fun q _ h => hFc q h) hFc (fun u T8 H1 locs hT8 hvm hw hB hz1 hk1 hS => ?_)
  obtain ⟨hP1, hD1⟩ := hB
  rw [hT8] at hP1
  obtain ⟨hP, hD⟩ := va_join (wr := []) (w1 := (forW cI fo l1 l2 l3 sa lk ef (plD lk ef sa goal false le 512))) hP hD [0, 1, 2, 3] [] rfl rfl (by decide) (by decide) hk1 hFc hP1 hD1
  generalize H1 = H at hP hS ⊢
  have hP : va_P (dC, dI) vwCl ((forW cI fo l1 l2 l3 sa lk ef (plD lk ef sa goal false le 512))) H := hP
  have hD : va_D A ((forW cI fo l1 l2 l3 sa lk ef (plD lk ef sa goal false le 512))) := hD
  refine lv_aload_n hx hb dX4_fewestDenials_6 rfl (lv_at hl 0 rfl) ?_
  refine lv_aload_n hx hb dX4_fewestDenials_7 rfl (lv_at hl 0 rfl) ?_
  refine va_get (D := (dC, dI)) (ci := 4) (v := .int (nI sa)) (C := RX4) (T := TX4) (N := 4) hx hb hts (fun _ h => List.mem_cons_of_mem _ (List.mem_append_right _ h)) hown hK hP 0 rfl rfl 0 (by decide) (hts (.fieldLink RX4 27 "HoldsOnceDenied$Foresight" "start" "I") (by decide +kernel)) (fun _ h9 => h9) rfl dX4_fewestDenials_8 ?_
  refine vp_callSi ((va_runV (As := [.int (nI sa)]) (rest := []) ⟨hx, hb, hml, hown, hts⟩ (c_X4_leastOf l dC dI cI cD cR fo l1 l2 l3 sa lk ef (plD lk ef sa goal false le 512) sa (by first | omega | assumption | exact gnd _ | exact gkn _ | exact Nat.lt_trans (gkn _) (by decide) | exact Nat.lt_trans (gnd _) (by decide) | exact Nat.lt_of_le_of_lt (pcN_le _) (by decide)) glk gef (by first | omega | assumption | exact gnd _ | exact gkn _ | exact Nat.lt_trans (gkn _) (by decide) | exact Nat.lt_trans (gnd _) (by decide) | exact Nat.lt_of_le_of_lt (pcN_le _) (by decide))) (cwV 1 hts gX4_fewestDenials_X4_leastOf rfl rfl rfl (by decide +kernel) ⟨Nat.le_of_ble_eq_true rfl, Nat.le_of_ble_eq_true rfl⟩) (preV_R hCX (va_recv hK hP (ci := 4) (q0 := 0) rfl rfl) (hP)) rfl rfl hl.1 rfl (lv_room (Nat.le_of_ble_eq_true rfl)) dX4_fewestDenials_11 ⟨Nat.le_of_ble_eq_true (by first | rfl | decide), Nat.le_of_ble_eq_true (by first | rfl | decide)⟩).run) (fun r_11 hr_11 => ?_)
  subst hr_11
  exact W.iret (v := oI ((plD lk ef sa goal false le 512) sa)) hx hb hr (fun T9 hT9 hW9 => ⟨⟨_, (), rfl, (by simp [*]), by rw [hT9]; exact hP, hD⟩, hS.F hT9⟩) hS.2.2 dX4_fewestDenials_14
set_option maxHeartbeats 4000000 in
set_option maxRecDepth 100000 in
theorem c_X4_fewestSteps (l : Launch) (dC : Nat → ClassId) (dI : Nat → Nat → Nat) (cI cD cR : ClassId) (fo l1 l2 l3 sa : Nat) (lk : Nat → Option Nat) (ef : Nat → Nat) (le : Nat → Option Nat) (goal : Nat) (sz : Nat) (hsa : sa < 512) (glk : ∀ i v, lk i = some v → v < 512) (gef : ∀ i, ef i < 1000) (hgo : goal < 512) : Met l yX4_fewestSteps wsX4_fewestSteps ({ frames := 4, cells := 0, slots := 0, locals := 95 }) (pcR dC dI cI cD cR [.ref fo, .int (nI goal)] (fun H => H.size = sz ∧ va_P (dC, dI) vwCl ((forW cI fo l1 l2 l3 sa lk ef le)) H ∧ va_D (fun _ => True) ((forW cI fo l1 l2 l3 sa lk ef le)))) (va_Qi (fun r (_ : Unit) => r = oI (plD lk ef sa goal true le 512 sa)) (fun (_ : Unit) T9 => va_P (dC, dI) vwCl ((forW cI fo l1 l2 l3 sa lk ef (plD lk ef sa goal true le 512))) T9.heap ∧ va_D (va_A ((forW cI fo l1 l2 l3 sa lk ef le)) sz) ((forW cI fo l1 l2 l3 sa lk ef (plD lk ef sa goal true le 512)))) (va_A ((forW cI fo l1 l2 l3 sa lk ef le)) sz)) 0 0 (va_A ((forW cI fo l1 l2 l3 sa lk ef le)) sz) := by
  refine Met.ofW (cc := cX4_fewestSteps) (maxL := 2) (ret := (some .int)) (by decide) rfl ?_
  intro p e s m args below meth c s₁ B hml hv
  obtain ⟨rfl, hH0, hCX⟩ := hv
  have hx := B.exec
  have hb := B.bytes
  have hr := B.returns
  have hts := atoms_spec (ws := wsX4_fewestSteps) B.pre
  have hown : s.vm.findClass RX4 = some m.cls := findClass_of_methodNamed B.named
  have hlocks := B.notSynchronized
  have hK := hCX.1
  obtain ⟨hsz, hP, hD0⟩ := hH0
  subst hsz
  have hD := hD0.self (sz := s.heap.size)
  generalize hAe : va_A ((forW cI fo l1 l2 l3 sa lk ef le)) s.heap.size = A at hD ⊢
  have hA : ∀ q : Nat, s.heap.size ≤ q → A q := fun q h => by rw [← hAe]; exact Or.inr h
  have hS : va_S A s.heap s.heap [] := va_S.rf
  have hP : va_P (dC, dI) vwCl ((forW cI fo l1 l2 l3 sa lk ef le)) s.heap := hP
  have hl := lv_entry ([.ref fo, .int (nI goal)]) (n := 2) (Nat.le_of_ble_eq_true rfl)
  rw [lg_entry_eq]
  generalize (lg_sl ([.ref fo, .int (nI goal)]) ++ List.replicate (2 - (lg_sl ([.ref fo, .int (nI goal)])).length) Slot.unset).toArray = ls at hl ⊢
  have hl : lv_has ls 2 [(0, .ref fo), (1, .int (nI goal))] := hl
  refine lv_aload_n hx hb dX4_fewestSteps_0 rfl (lv_at hl 0 rfl) ?_
  refine lv_iload_n hx hb dX4_fewestSteps_1 rfl (lv_at hl 1 rfl) ?_
  refine lv_iconst (v := nI 1) hx hb dX4_fewestSteps_2 (by decide +kernel) ?_
  have hPc := hP
  have hDc := hD
  have hFc := va_free (wc := (forW cI fo l1 l2 l3 sa lk ef le)) hD hS hA [0, 1, 2, 3] rfl
  refine va_callv (va_runV (As := [.int (nI goal), .int (nI 1)]) (rest := []) ⟨hx, hb, hml, hown, hts⟩ (c_X4_plan l dC dI cI cD cR fo l1 l2 l3 sa lk ef le goal true s.heap.size (by first | omega | assumption | exact gnd _ | exact gkn _ | exact Nat.lt_trans (gkn _) (by decide) | exact Nat.lt_trans (gnd _) (by decide) | exact Nat.lt_of_le_of_lt (pcN_le _) (by decide)) glk gef (by first | omega | assumption | exact gnd _ | exact gkn _ | exact Nat.lt_trans (gkn _) (by decide) | exact Nat.lt_trans (gnd _) (by decide) | exact Nat.lt_of_le_of_lt (pcN_le _) (by decide))) (cwV 2 hts gX4_fewestSteps_X4_plan rfl rfl rfl (by decide +kernel) ⟨Nat.le_of_ble_eq_true rfl, Nat.le_of_ble_eq_true rfl⟩) (preV_R hCX (va_recv hK hP (ci := 4) (q0 := 0) rfl rfl) ⟨rfl, hPc, hDc.weaken (fun _ _ _ _ => trivial)⟩) rfl rfl hl.1 rfl (lv_room (Nat.le_of_ble_eq_true rfl)) dX4_fewestSteps_3 ⟨Nat.le_of_ble_eq_true (by first | rfl | decide), Nat.le_of_ble_eq_true (by first | rfl | decide)⟩) hS (fun q _ h => hFc q h) hFc (fun u T8 H1 locs hT8 hvm hw hB hz1 hk1 hS => ?_)
  obtain ⟨hP1, hD1⟩ := hB
  rw [hT8] at hP1
  obtain ⟨hP, hD⟩ := va_join (wr := []) (w1 := (forW cI fo l1 l2 l3 sa lk ef (plD lk ef sa goal true le 512))) hP hD [0, 1, 2, 3] [] rfl rfl (by decide) (by decide) hk1 hFc hP1 hD1
  generalize H1 = H at hP hS ⊢
  have hP : va_P (dC, dI) vwCl ((forW cI fo l1 l2 l3 sa lk ef (plD lk ef sa goal true le 512))) H := hP
  have hD : va_D A ((forW cI fo l1 l2 l3 sa lk ef (plD lk ef sa goal true le 512))) := hD
  refine lv_aload_n hx hb dX4_fewestSteps_6 rfl (lv_at hl 0 rfl) ?_
  refine lv_aload_n hx hb dX4_fewestSteps_7 rfl (lv_at hl 0 rfl) ?_
  refine va_get (D := (dC, dI)) (ci := 4) (v := .int (nI sa)) (C := RX4) (T := TX4) (N := 4) hx hb hts (fun _ h => List.mem_cons_of_mem _ (List.mem_append_right _ h)) hown hK hP 0 rfl rfl 0 (by decide) (hts (.fieldLink RX4 27 "HoldsOnceDenied$Foresight" "start" "I") (by decide +kernel)) (fun _ h9 => h9) rfl dX4_fewestSteps_8 ?_
  refine vp_callSi ((va_runV (As := [.int (nI sa)]) (rest := []) ⟨hx, hb, hml, hown, hts⟩ (c_X4_leastOf l dC dI cI cD cR fo l1 l2 l3 sa lk ef (plD lk ef sa goal true le 512) sa (by first | omega | assumption | exact gnd _ | exact gkn _ | exact Nat.lt_trans (gkn _) (by decide) | exact Nat.lt_trans (gnd _) (by decide) | exact Nat.lt_of_le_of_lt (pcN_le _) (by decide)) glk gef (by first | omega | assumption | exact gnd _ | exact gkn _ | exact Nat.lt_trans (gkn _) (by decide) | exact Nat.lt_trans (gnd _) (by decide) | exact Nat.lt_of_le_of_lt (pcN_le _) (by decide))) (cwV 1 hts gX4_fewestSteps_X4_leastOf rfl rfl rfl (by decide +kernel) ⟨Nat.le_of_ble_eq_true rfl, Nat.le_of_ble_eq_true rfl⟩) (preV_R hCX (va_recv hK hP (ci := 4) (q0 := 0) rfl rfl) (hP)) rfl rfl hl.1 rfl (lv_room (Nat.le_of_ble_eq_true rfl)) dX4_fewestSteps_11 ⟨Nat.le_of_ble_eq_true (by first | rfl | decide), Nat.le_of_ble_eq_true (by first | rfl | decide)⟩).run) (fun r_11 hr_11 => ?_)
  subst hr_11
  exact W.iret (v := oI ((plD lk ef sa goal true le 512) sa)) hx hb hr (fun T9 hT9 hW9 => ⟨⟨_, (), rfl, (by simp [*]), by rw [hT9]; exact hP, hD⟩, hS.F hT9⟩) hS.2.2 dX4_fewestSteps_14
set_option maxHeartbeats 4000000 in
set_option maxRecDepth 100000 in
theorem c_X4_beginning (l : Launch) (dC : Nat → ClassId) (dI : Nat → Nat → Nat) (cI cD cR : ClassId) (fo l1 l2 l3 sa : Nat) (lk : Nat → Option Nat) (ef : Nat → Nat) (le : Nat → Option Nat) (goal : Nat) (sz : Nat) (hsa : sa < 512) (glk : ∀ i v, lk i = some v → v < 512) (gef : ∀ i, ef i < 1000) (hgo : goal < 512) : Met l yX4_beginning wsX4_beginning ({ frames := 5, cells := 0, slots := 0, locals := 116 }) (pcR dC dI cI cD cR [.ref fo, .int (nI goal)] (fun H => H.size = sz ∧ va_P (dC, dI) vwCl ((forW cI fo l1 l2 l3 sa lk ef le)) H ∧ va_D (fun _ => True) ((forW cI fo l1 l2 l3 sa lk ef le)))) (va_Qi (fun r (_ : Unit) => r = oI (bgN lk ef sa (plD lk ef sa goal false le 512))) (fun (_ : Unit) T9 => va_P (dC, dI) vwCl ((forW cI fo l1 l2 l3 sa lk ef (plD lk ef sa goal false le 512))) T9.heap ∧ va_D (va_A ((forW cI fo l1 l2 l3 sa lk ef le)) sz) ((forW cI fo l1 l2 l3 sa lk ef (plD lk ef sa goal false le 512)))) (va_A ((forW cI fo l1 l2 l3 sa lk ef le)) sz)) 0 0 (va_A ((forW cI fo l1 l2 l3 sa lk ef le)) sz) := by
  refine Met.ofW (cc := cX4_beginning) (maxL := 4) (ret := (some .int)) (by decide) rfl ?_
  intro p e s m args below meth c s₁ B hml hv
  obtain ⟨rfl, hH0, hCX⟩ := hv
  have hx := B.exec
  have hb := B.bytes
  have hr := B.returns
  have hts := atoms_spec (ws := wsX4_beginning) B.pre
  have hown : s.vm.findClass RX4 = some m.cls := findClass_of_methodNamed B.named
  have hlocks := B.notSynchronized
  have hK := hCX.1
  obtain ⟨hsz, hP, hD0⟩ := hH0
  subst hsz
  have hD := hD0.self (sz := s.heap.size)
  generalize hAe : va_A ((forW cI fo l1 l2 l3 sa lk ef le)) s.heap.size = A at hD ⊢
  have hA : ∀ q : Nat, s.heap.size ≤ q → A q := fun q h => by rw [← hAe]; exact Or.inr h
  have hS : va_S A s.heap s.heap [] := va_S.rf
  have hP : va_P (dC, dI) vwCl ((forW cI fo l1 l2 l3 sa lk ef le)) s.heap := hP
  have hl := lv_entry ([.ref fo, .int (nI goal)]) (n := 4) (Nat.le_of_ble_eq_true rfl)
  rw [lg_entry_eq]
  generalize (lg_sl ([.ref fo, .int (nI goal)]) ++ List.replicate (4 - (lg_sl ([.ref fo, .int (nI goal)])).length) Slot.unset).toArray = ls at hl ⊢
  have hl : lv_has ls 4 [(0, .ref fo), (1, .int (nI goal))] := hl
  refine lv_aload_n hx hb dX4_beginning_0 rfl (lv_at hl 0 rfl) ?_
  refine lv_iload_n hx hb dX4_beginning_1 rfl (lv_at hl 1 rfl) ?_
  have hPc := hP
  have hDc := hD
  have hFc := va_free (wc := (forW cI fo l1 l2 l3 sa lk ef le)) hD hS hA [0, 1, 2, 3] rfl
  refine va_calli (va_runV (As := [.int (nI goal)]) (rest := []) ⟨hx, hb, hml, hown, hts⟩ (c_X4_fewestDenials l dC dI cI cD cR fo l1 l2 l3 sa lk ef le goal s.heap.size (by first | omega | assumption | exact gnd _ | exact gkn _ | exact Nat.lt_trans (gkn _) (by decide) | exact Nat.lt_trans (gnd _) (by decide) | exact Nat.lt_of_le_of_lt (pcN_le _) (by decide)) glk gef (by first | omega | assumption | exact gnd _ | exact gkn _ | exact Nat.lt_trans (gkn _) (by decide) | exact Nat.lt_trans (gnd _) (by decide) | exact Nat.lt_of_le_of_lt (pcN_le _) (by decide))) (cwV 1 hts gX4_beginning_X4_fewestDenials rfl rfl rfl (by decide +kernel) ⟨Nat.le_of_ble_eq_true rfl, Nat.le_of_ble_eq_true rfl⟩) (preV_R hCX (va_recv hK hP (ci := 4) (q0 := 0) rfl rfl) ⟨rfl, hPc, hDc.weaken (fun _ _ _ _ => trivial)⟩) rfl rfl hl.1 rfl (lv_room (Nat.le_of_ble_eq_true rfl)) dX4_beginning_2 ⟨Nat.le_of_ble_eq_true (by first | rfl | decide), Nat.le_of_ble_eq_true (by first | rfl | decide)⟩) hS (fun q _ h => hFc q h) hFc (fun r_2 u T8 H1 locs hT8 hvm hw hB hz1 hk1 hS => ?_)
  obtain ⟨hP1, hD1⟩ := hB
  rw [hT8] at hP1
  obtain ⟨hP, hD⟩ := va_join (wr := []) (w1 := (forW cI fo l1 l2 l3 sa lk ef (plD lk ef sa goal false le 512))) hP hD [0, 1, 2, 3] [] rfl rfl (by decide) (by decide) hk1 hFc hP1 hD1
  generalize H1 = H at hP hS ⊢
  have hP : va_P (dC, dI) vwCl ((forW cI fo l1 l2 l3 sa lk ef (plD lk ef sa goal false le 512))) H := hP
  have hD : va_D A ((forW cI fo l1 l2 l3 sa lk ef (plD lk ef sa goal false le 512))) := hD
  subst hw
  cases hv_2 : plD lk ef sa goal false le 512 sa with
  | none =>
    refine ho_tope (y := (-4)) rfl ?_
    have hq2 : bgN lk ef sa (plD lk ef sa goal false le 512) = none := bgN_n hv_2
    refine lv_istore_n (lv' := [(2, .int (-4)), (0, .ref fo), (1, .int (nI goal))]) hx hb dX4_beginning_5 rfl hl (by decide) rfl (fun ls hl => ?_)
    refine lv_iload_n hx hb dX4_beginning_6 rfl (lv_at hl 0 rfl) ?_
    refine lv_iconst (v := nI 1) hx hb dX4_beginning_7 (by decide +kernel) ?_
    refine lv_icmp_ge (tgt := 14) hx hb dX4_beginning_8 (by decide) (fun z => absurd z (ng_nle (by omega) (by decide +kernel))) (fun _ => ?_)
    refine lv_bipush (v := (-4)) hx hb dX4_beginning_11 (by decide +kernel) ?_
    exact W.iret (v := (-4)) hx hb hr (fun T9 hT9 hW9 => ⟨⟨_, (), rfl, (by first | rw [hq2]; rfl | rw [bgN_0 hv_2 (by omega)]; rfl), by rw [hT9]; exact hP, hD⟩, hS.F hT9⟩) hS.2.2 dX4_beginning_13
  | some v_2 =>
    refine ho_tope (y := nI v_2) rfl ?_
    have hv2b : v_2 ≤ 1000 * 512 := plD_lt gef 512 (Nat.le_refl _) sa v_2 (by omega) hsa (sdf_self _) hv_2
    refine lv_istore_n (lv' := [(2, .int (nI v_2)), (0, .ref fo), (1, .int (nI goal))]) hx hb dX4_beginning_5 rfl hl (by decide) rfl (fun ls hl => ?_)
    refine lv_iload_n hx hb dX4_beginning_6 rfl (lv_at hl 0 rfl) ?_
    refine lv_iconst (v := nI 1) hx hb dX4_beginning_7 (by decide +kernel) ?_
    refine ho_icmp_ge (tgt := 14) hx hb dX4_beginning_8 (by decide) (by omega) (by omega) (fun c_8 => ?_) (fun c_8 => ?_)
    · refine lv_iconst (v := nI 0) hx hb dX4_beginning_14 (by decide +kernel) ?_
      refine lv_istore_n (lv' := [(3, .int (nI 0)), (2, .int (nI v_2)), (0, .ref fo), (1, .int (nI goal))]) hx hb dX4_beginning_15 rfl hl (by decide) rfl (fun ls hl => ?_)
      refine ho_lpW (T := Nat) 4 (fun x9 => ((forW cI fo l1 l2 l3 sa lk ef (plD lk ef sa goal false le 512)) : va_W)) (fun x9 => [(3, .int (nI x9)), (2, .int (nI v_2)), (0, .ref fo), (1, .int (nI goal))]) (fun x9 => []) (fun x9 => (x9 ≤ 9) ∧ (bgF lk ef sa (plD lk ef sa goal false le 512) (v_2 - 1) x9 = bgF lk ef sa (plD lk ef sa goal false le 512) (v_2 - 1) 0)) (fun x9 => 9 - x9) 0 ⟨by omega, rfl⟩ (lv_sub hl [0, 1, 2, 3] rfl) hP hD hS ?_
      intro fu16 k H locs ls hI hm16 hP hD hS hl ih
      obtain ⟨hk9, hbg⟩ := hI
      have hl : lv_has ls 4 [(3, .int (nI k)), (2, .int (nI v_2)), (0, .ref fo), (1, .int (nI goal))] := hl
      have hk9 : k ≤ 9 := hk9
      have hbg : bgF lk ef sa (plD lk ef sa goal false le 512) (v_2 - 1) k = bgF lk ef sa (plD lk ef sa goal false le 512) (v_2 - 1) 0 := hbg
      have hm16 : 9 - k < fu16 + 1 := hm16
      have hP : va_P (dC, dI) vwCl ((forW cI fo l1 l2 l3 sa lk ef (plD lk ef sa goal false le 512))) H := hP
      have hD : va_D A ((forW cI fo l1 l2 l3 sa lk ef (plD lk ef sa goal false le 512))) := hD
      refine W.eq (g2 := F0 m 16 ls []) rfl ?_
      have ih16 := ih
      refine lv_iload_n hx hb dX4_beginning_16 rfl (lv_at hl 0 rfl) ?_
      refine lv_bipush (v := nI 9) hx hb dX4_beginning_17 (by decide +kernel) ?_
      refine ho_icmp_ge (tgt := 62) hx hb dX4_beginning_19 (by decide) (by omega) (by omega) (fun c_19 => ?_) (fun c_19 => ?_)
      · refine lv_bipush (v := (-4)) hx hb dX4_beginning_62 (by decide +kernel) ?_
        exact W.iret (v := (-4)) hx hb hr (fun T9 hT9 hW9 => ⟨⟨_, (), rfl, (by rw [bgN_s (o := none) hv_2 (by omega) (hbg.symm.trans (by rw [show k = 9 by omega]; exact bgF_9))]; rfl), by rw [hT9]; exact hP, hD⟩, hS.F hT9⟩) hS.2.2 dX4_beginning_64
      refine lv_aload_n hx hb dX4_beginning_22 rfl (lv_at hl 2 rfl) ?_
      refine lv_aload_n hx hb dX4_beginning_23 rfl (lv_at hl 2 rfl) ?_
      refine va_get (D := (dC, dI)) (ci := 4) (v := .int (nI sa)) (C := RX4) (T := TX4) (N := 4) hx hb hts (fun _ h => List.mem_cons_of_mem _ (List.mem_append_right _ h)) hown hK hP 0 rfl rfl 0 (by decide) (hts (.fieldLink RX4 27 "HoldsOnceDenied$Foresight" "start" "I") (by decide +kernel)) (fun _ h9 => h9) rfl dX4_beginning_24 ?_
      refine lv_iload_n hx hb dX4_beginning_27 rfl (lv_at hl 0 rfl) ?_
      refine vp_callSi ((va_runV (As := [.int (nI sa), .int (nI k)]) (rest := []) ⟨hx, hb, hml, hown, hts⟩ (c_X4_cheapest l dC dI cI cD cR fo l1 l2 l3 sa lk ef (plD lk ef sa goal false le 512) sa k (by first | omega | assumption | exact gnd _ | exact gkn _ | exact Nat.lt_trans (gkn _) (by decide) | exact Nat.lt_trans (gnd _) (by decide) | exact Nat.lt_of_le_of_lt (pcN_le _) (by decide)) glk gef (by first | omega | assumption | exact gnd _ | exact gkn _ | exact Nat.lt_trans (gkn _) (by decide) | exact Nat.lt_trans (gnd _) (by decide) | exact Nat.lt_of_le_of_lt (pcN_le _) (by decide)) (by first | omega | assumption | exact gnd _ | exact gkn _ | exact Nat.lt_trans (gkn _) (by decide) | exact Nat.lt_trans (gnd _) (by decide) | exact Nat.lt_of_le_of_lt (pcN_le _) (by decide))) (cwV 2 hts gX4_beginning_X4_cheapest rfl rfl rfl (by decide +kernel) ⟨Nat.le_of_ble_eq_true rfl, Nat.le_of_ble_eq_true rfl⟩) (preV_R hCX (va_recv hK hP (ci := 4) (q0 := 0) rfl rfl) (hP)) rfl rfl hl.1 rfl (lv_room (Nat.le_of_ble_eq_true rfl)) dX4_beginning_28 ⟨Nat.le_of_ble_eq_true (by first | rfl | decide), Nat.le_of_ble_eq_true (by first | rfl | decide)⟩).run) (fun r_28 hr_28 => ?_)
      subst hr_28
      cases hv_28 : chE lk ef sa k with
      | none =>
        refine ho_tope (y := (-1)) rfl ?_
        refine lv_iconst (v := (-1)) hx hb dX4_beginning_31 (by decide +kernel) ?_
        refine lv_icmp_eq (tgt := 56) hx hb dX4_beginning_32 (by decide) (fun _ => ?_) (fun z => absurd (by decide +kernel) z)
        refine ho_iinc (lv' := [(3, .int (nI (k + 1))), (2, .int (nI v_2)), (0, .ref fo), (1, .int (nI goal))]) (a := k) (b := 1) hx hb dX4_beginning_56 hl (k := 0) rfl rfl (by decide) rfl (fun ls hl => ?_)
        refine lv_goto (tgt := 16) hx hb dX4_beginning_59 (by decide) ?_
        exact ih16 (k + 1) _ _ _ ⟨by omega, by first | exact (bgF_n (by omega) hv_28).trans hbg | exact (bgF_m (by omega) hv_45).trans hbg | exact (bgF_d (by omega) hv_45 c_51).trans hbg⟩ (show 9 - (k + 1) < fu16 from (by omega)) hP hD hS (lv_sub hl [0, 1, 2, 3] rfl)
      | some v_28 =>
        refine ho_tope (y := nI v_28) rfl ?_
        have hv28b := chE_lt gef hv_28
        refine lv_iconst (v := (-1)) hx hb dX4_beginning_31 (by decide +kernel) ?_
        refine lv_icmp_eq (tgt := 56) hx hb dX4_beginning_32 (by decide) (fun z => absurd z (ng_ne (by omega) (by decide +kernel))) (fun _ => ?_)
        refine lv_aload_n hx hb dX4_beginning_35 rfl (lv_at hl 2 rfl) ?_
        refine lv_aload_n hx hb dX4_beginning_36 rfl (lv_at hl 2 rfl) ?_
        refine va_get (D := (dC, dI)) (ci := 4) (v := .int (nI sa)) (C := RX4) (T := TX4) (N := 4) hx hb hts (fun _ h => List.mem_cons_of_mem _ (List.mem_append_right _ h)) hown hK hP 0 rfl rfl 0 (by decide) (hts (.fieldLink RX4 27 "HoldsOnceDenied$Foresight" "start" "I") (by decide +kernel)) (fun _ h9 => h9) rfl dX4_beginning_37 ?_
        refine lv_iload_n hx hb dX4_beginning_40 rfl (lv_at hl 0 rfl) ?_
        refine vp_callSi ((va_runSN (As := [.int (nI k)]) (rest := [.int (nI sa), .ref fo]) ⟨hx, hb, hml, hown, hts⟩ (c_X11_bit l dC dI cI cD cR k (by first | omega | assumption | exact gnd _ | exact gkn _ | exact Nat.lt_trans (gkn _) (by decide) | exact Nat.lt_trans (gnd _) (by decide) | exact Nat.lt_of_le_of_lt (pcN_le _) (by decide))) ⟨va_cnB (host := "HoldsOnceDenied") 1 hts gX4_beginning_X11_bit_n88 rfl rfl rfl (CX.nm hCX 11 rfl) (hts (.initialized RX11) (by decide +kernel)) (by decide +kernel) ⟨Nat.le_of_ble_eq_true rfl, Nat.le_of_ble_eq_true rfl⟩, (hts (.static yX11_bit) (by decide +kernel)), trivial⟩ (preS_R hCX (trivial)) rfl rfl hl.1 rfl (lv_room (Nat.le_of_ble_eq_true rfl)) dX4_beginning_41 ⟨Nat.le_of_ble_eq_true (by first | rfl | decide), Nat.le_of_ble_eq_true (by first | rfl | decide)⟩).run) (fun r_41 hr_41 => ?_)
        subst hr_41
        refine ho_ior hx hb dX4_beginning_44 ?_
        refine vp_callSi ((va_runV (As := [.int (nI (sa ||| (2 ^ k)))]) (rest := []) ⟨hx, hb, hml, hown, hts⟩ (c_X4_leastOf l dC dI cI cD cR fo l1 l2 l3 sa lk ef (plD lk ef sa goal false le 512) (sa ||| (2 ^ k)) (by first | omega | assumption | exact gnd _ | exact gkn _ | exact Nat.lt_trans (gkn _) (by decide) | exact Nat.lt_trans (gnd _) (by decide) | exact Nat.lt_of_le_of_lt (pcN_le _) (by decide)) glk gef (or_512 hsa (bit_512 (by omega)))) (cwV 1 hts gX4_beginning_X4_leastOf rfl rfl rfl (by decide +kernel) ⟨Nat.le_of_ble_eq_true rfl, Nat.le_of_ble_eq_true rfl⟩) (preV_R hCX (va_recv hK hP (ci := 4) (q0 := 0) rfl rfl) (hP)) rfl rfl hl.1 rfl (lv_room (Nat.le_of_ble_eq_true rfl)) dX4_beginning_45 ⟨Nat.le_of_ble_eq_true (by first | rfl | decide), Nat.le_of_ble_eq_true (by first | rfl | decide)⟩).run) (fun r_45 hr_45 => ?_)
        subst hr_45
        cases hv_45 : (plD lk ef sa goal false le 512) (sa ||| (2 ^ k)) with
        | none =>
          refine ho_tope (y := (-4)) rfl ?_
          refine lv_iload_n hx hb dX4_beginning_48 rfl (lv_at hl 1 rfl) ?_
          refine lv_iconst (v := nI 1) hx hb dX4_beginning_49 (by decide +kernel) ?_
          refine ho_isub hx hb dX4_beginning_50 (by omega) ?_
          refine lv_icmp_ne (tgt := 56) hx hb dX4_beginning_51 (by decide) (fun _ => ?_) (fun z => absurd z (ng_en (by omega) (by decide +kernel)))
          refine ho_iinc (lv' := [(3, .int (nI (k + 1))), (2, .int (nI v_2)), (0, .ref fo), (1, .int (nI goal))]) (a := k) (b := 1) hx hb dX4_beginning_56 hl (k := 0) rfl rfl (by decide) rfl (fun ls hl => ?_)
          refine lv_goto (tgt := 16) hx hb dX4_beginning_59 (by decide) ?_
          exact ih16 (k + 1) _ _ _ ⟨by omega, by first | exact (bgF_n (by omega) hv_28).trans hbg | exact (bgF_m (by omega) hv_45).trans hbg | exact (bgF_d (by omega) hv_45 c_51).trans hbg⟩ (show 9 - (k + 1) < fu16 from (by omega)) hP hD hS (lv_sub hl [0, 1, 2, 3] rfl)
        | some v_45 =>
          refine ho_tope (y := nI v_45) rfl ?_
          have hv45b : v_45 ≤ 1000 * 512 := plD_lt gef 512 (Nat.le_refl _) _ v_45 (by omega) (or_512 hsa (bit_512 (by omega))) (sdf_or (sdf_self _)) hv_45
          refine lv_iload_n hx hb dX4_beginning_48 rfl (lv_at hl 1 rfl) ?_
          refine lv_iconst (v := nI 1) hx hb dX4_beginning_49 (by decide +kernel) ?_
          refine ho_isub hx hb dX4_beginning_50 (by omega) ?_
          refine ho_icmp_ne (tgt := 56) hx hb dX4_beginning_51 (by decide) (by omega) (by omega) (fun c_51 => ?_) (fun c_51 => ?_)
          · refine ho_iinc (lv' := [(3, .int (nI (k + 1))), (2, .int (nI v_2)), (0, .ref fo), (1, .int (nI goal))]) (a := k) (b := 1) hx hb dX4_beginning_56 hl (k := 0) rfl rfl (by decide) rfl (fun ls hl => ?_)
            refine lv_goto (tgt := 16) hx hb dX4_beginning_59 (by decide) ?_
            exact ih16 (k + 1) _ _ _ ⟨by omega, by first | exact (bgF_n (by omega) hv_28).trans hbg | exact (bgF_m (by omega) hv_45).trans hbg | exact (bgF_d (by omega) hv_45 c_51).trans hbg⟩ (show 9 - (k + 1) < fu16 from (by omega)) hP hD hS (lv_sub hl [0, 1, 2, 3] rfl)
          refine lv_iload_n hx hb dX4_beginning_54 rfl (lv_at hl 0 rfl) ?_
          exact W.iret (v := nI k) hx hb hr (fun T9 hT9 hW9 => ⟨⟨_, (), rfl, (by rw [bgN_s hv_2 (by omega) (hbg.symm.trans (bgF_e (by omega) hv_28 (by rw [hv_45, c_51])))]; rfl), by rw [hT9]; exact hP, hD⟩, hS.F hT9⟩) hS.2.2 dX4_beginning_55
    refine lv_bipush (v := (-4)) hx hb dX4_beginning_11 (by decide +kernel) ?_
    exact W.iret (v := (-4)) hx hb hr (fun T9 hT9 hW9 => ⟨⟨_, (), rfl, (by first | rw [hq2]; rfl | rw [bgN_0 hv_2 (by omega)]; rfl), by rw [hT9]; exact hP, hD⟩, hS.F hT9⟩) hS.2.2 dX4_beginning_13
set_option maxHeartbeats 4000000 in
set_option maxRecDepth 100000 in
theorem c_X4_letOneJoin (l : Launch) (dC : Nat → ClassId) (dI : Nat → Nat → Nat) (cI cD cR : ClassId) (fo l1 l2 l3 sa : Nat) (lk : Nat → Option Nat) (ef : Nat → Nat) (le : Nat → Option Nat) (sil ak : Nat) (sz : Nat) (hsil : sil < 512) (hak : ak ≤ 30) (gle : ∀ i v, le i = some v → v < 1000000) : Met l yX4_letOneJoin wsX4_letOneJoin ({ frames := 1, cells := 0, slots := 0, locals := 21 }) (pcR dC dI cI cD cR [.ref fo, .int (nI sil), .int (nI ak)] (fun H => H.size = sz ∧ va_P (dC, dI) vwCl ((forW cI fo l1 l2 l3 sa lk ef le)) H ∧ va_D (fun _ => True) ((forW cI fo l1 l2 l3 sa lk ef le)))) (va_Qv (fun (_ : Unit) => True) (fun (_ : Unit) T9 => va_P (dC, dI) vwCl ((forW cI fo l1 l2 l3 sa lk ef (ljD sil ak le 512))) T9.heap ∧ va_D (va_A ((forW cI fo l1 l2 l3 sa lk ef le)) sz) ((forW cI fo l1 l2 l3 sa lk ef (ljD sil ak le 512)))) (va_A ((forW cI fo l1 l2 l3 sa lk ef le)) sz)) 0 0 (va_A ((forW cI fo l1 l2 l3 sa lk ef le)) sz) := by
  refine Met.ofW (cc := cX4_letOneJoin) (maxL := 6) (ret := none) (by decide) rfl ?_
  intro p e s m args below meth c s₁ B hml hv
  obtain ⟨rfl, hH0, hCX⟩ := hv
  have hx := B.exec
  have hb := B.bytes
  have hr := B.returns
  have hts := atoms_spec (ws := wsX4_letOneJoin) B.pre
  have hown : s.vm.findClass RX4 = some m.cls := findClass_of_methodNamed B.named
  have hlocks := B.notSynchronized
  have hK := hCX.1
  obtain ⟨hsz, hP, hD0⟩ := hH0
  subst hsz
  have hD := hD0.self (sz := s.heap.size)
  generalize hAe : va_A ((forW cI fo l1 l2 l3 sa lk ef le)) s.heap.size = A at hD ⊢
  have hA : ∀ q : Nat, s.heap.size ≤ q → A q := fun q h => by rw [← hAe]; exact Or.inr h
  have hS : va_S A s.heap s.heap [] := va_S.rf
  have hP : va_P (dC, dI) vwCl ((forW cI fo l1 l2 l3 sa lk ef le)) s.heap := hP
  have hl := lv_entry ([.ref fo, .int (nI sil), .int (nI ak)]) (n := 6) (Nat.le_of_ble_eq_true rfl)
  rw [lg_entry_eq]
  generalize (lg_sl ([.ref fo, .int (nI sil), .int (nI ak)]) ++ List.replicate (6 - (lg_sl ([.ref fo, .int (nI sil), .int (nI ak)])).length) Slot.unset).toArray = ls at hl ⊢
  have hl : lv_has ls 6 [(0, .ref fo), (1, .int (nI sil)), (2, .int (nI ak))] := hl
  refine lv_aload_n hx hb dX4_letOneJoin_0 rfl (lv_at hl 0 rfl) ?_
  refine va_get (D := (dC, dI)) (ci := 4) (v := .ref l3) (C := RX4) (T := TX4) (N := 4) hx hb hts (fun _ h => List.mem_cons_of_mem _ (List.mem_append_right _ h)) hown hK hP 0 rfl rfl 3 (by decide) (hts (.fieldLink RX4 18 "HoldsOnceDenied$Foresight" "least" "[I") (by decide +kernel)) (fun _ h9 => h9) rfl dX4_letOneJoin_1 ?_
  refine va_alen (v := nI 512) hx hb hK hP 3 0 rfl rfl rfl dX4_letOneJoin_4 ?_
  refine lv_iconst (v := nI 1) hx hb dX4_letOneJoin_5 (by decide +kernel) ?_
  refine ho_isub hx hb dX4_letOneJoin_6 (by omega) ?_
  refine lv_istore_n (lv' := [(3, .int (nI (512 - 1))), (0, .ref fo), (1, .int (nI sil)), (2, .int (nI ak))]) hx hb dX4_letOneJoin_7 rfl hl (by decide) rfl (fun ls hl => ?_)
  have e9_3 : (nI (512 - 1) : Int32) = (nI (512 - 0) + (-1)) := by rfl
  rw [e9_3] at hl
  refine ho_lpW (T := Nat) 6 (fun x9 => ((forW cI fo l1 l2 l3 sa lk ef (ljD sil ak le x9)) : va_W)) (fun x9 => [(3, .int (nI (512 - x9) + (-1))), (0, .ref fo), (1, .int (nI sil)), (2, .int (nI ak))]) (fun x9 => []) (fun x9 => (x9 ≤ 512)) (fun x9 => 512 - x9) 0 (by omega) (lv_sub hl [0, 1, 2, 3] rfl) hP hD hS ?_
  intro fu8 j H locs ls hI hm8 hP hD hS hl ih
  have hj := hI
  have hl : lv_has ls 6 [(3, .int (nI (512 - j) + (-1))), (0, .ref fo), (1, .int (nI sil)), (2, .int (nI ak))] := hl
  have hj : j ≤ 512 := hj
  have hm8 : 512 - j < fu8 + 1 := hm8
  have hP : va_P (dC, dI) vwCl ((forW cI fo l1 l2 l3 sa lk ef (ljD sil ak le j))) H := hP
  have hD : va_D A ((forW cI fo l1 l2 l3 sa lk ef (ljD sil ak le j))) := hD
  refine W.eq (g2 := F0 m 8 ls []) rfl ?_
  have ih8 := ih
  rcases Nat.lt_or_ge j 512 with hjl | hjl; rotate_left
  · have e8 : nI (512 - j) + (-1) = (-1) := by rw [show 512 - j = 0 by omega]; decide
    rw [e8] at hl
    refine lv_iload_n hx hb dX4_letOneJoin_8 rfl (lv_at hl 0 rfl) ?_
    refine lv_if_lt (tgt := 127) hx hb dX4_letOneJoin_9 (by decide) (fun _ => ?_) (fun z => absurd z (by decide +kernel))
    have hW9 : ((forW cI fo l1 l2 l3 sa lk ef (ljD sil ak le j)) : va_W) = (forW cI fo l1 l2 l3 sa lk ef (ljD sil ak le 512)) := by rw [show j = 512 by omega]
    rw [hW9] at hP hD
    exact W.vret hx hb hr (fun T9 hT9 hW9 => ⟨⟨(), rfl, trivial, by rw [hT9]; exact hP, hD⟩, hS.F hT9⟩) hS.2.2 dX4_letOneJoin_127
  have e8 : nI (512 - j) + (-1) = nI (511 - j) := by rw [show 512 - j = (511 - j) + 1 by omega]; exact pk_m1 _
  rw [e8] at hl
  refine lv_iload_n hx hb dX4_letOneJoin_8 rfl (lv_at hl 0 rfl) ?_
  refine ho_if_lt0 hx hb dX4_letOneJoin_9 (tgt := 127) (by decide) (by omega) ?_
  refine lv_iconst (v := nI 0) hx hb dX4_letOneJoin_12 (by decide +kernel) ?_
  refine lv_istore (lv' := [(4, .int (nI 0)), (3, .int (nI (511 - j))), (0, .ref fo), (1, .int (nI sil)), (2, .int (nI ak))]) hx hb dX4_letOneJoin_13 hl (by decide) rfl (fun ls hl => ?_)
  refine ho_lpW (T := Nat) 6 (fun x9 => ((forW cI fo l1 l2 l3 sa lk ef (ljI sil ak (511 - j) x9 (ljD sil ak le j))) : va_W)) (fun x9 => [(4, .int (nI x9)), (3, .int (nI (511 - j))), (0, .ref fo), (1, .int (nI sil)), (2, .int (nI ak))]) (fun x9 => []) (fun x9 => (x9 ≤ 9)) (fun x9 => 9 - x9) 0 (by omega) (lv_sub hl [0, 1, 2, 3, 4] rfl) hP hD hS ?_
  intro fu15 s9 H locs ls hI hm15 hP hD hS hl ih
  have hs9 := hI
  have hl : lv_has ls 6 [(4, .int (nI s9)), (3, .int (nI (511 - j))), (0, .ref fo), (1, .int (nI sil)), (2, .int (nI ak))] := hl
  have hs9 : s9 ≤ 9 := hs9
  have hm15 : 9 - s9 < fu15 + 1 := hm15
  have hP : va_P (dC, dI) vwCl ((forW cI fo l1 l2 l3 sa lk ef (ljI sil ak (511 - j) s9 (ljD sil ak le j)))) H := hP
  have hD : va_D A ((forW cI fo l1 l2 l3 sa lk ef (ljI sil ak (511 - j) s9 (ljD sil ak le j)))) := hD
  refine W.eq (g2 := F0 m 15 ls []) rfl ?_
  have ih15 := ih
  refine lv_iload hx hb dX4_letOneJoin_15 (lv_at hl 0 rfl) ?_
  refine lv_bipush (v := nI 9) hx hb dX4_letOneJoin_17 (by decide +kernel) ?_
  refine ho_icmp_ge (tgt := 121) hx hb dX4_letOneJoin_19 (by decide) (by omega) (by omega) (fun c_19 => ?_) (fun c_19 => ?_)
  · refine lv_iinc (v := nI (511 - j) + (-1)) (lv' := [(3, .int (nI (511 - j) + (-1))), (4, .int (nI s9)), (0, .ref fo), (1, .int (nI sil)), (2, .int (nI ak))]) hx hb dX4_letOneJoin_121 hl (k := 1) rfl rfl (by decide) rfl (fun ls hl => ?_)
    refine lv_goto (tgt := 8) hx hb dX4_letOneJoin_124 (by decide) ?_
    have e9_3 : ((nI (511 - j) + (-1)) : Int32) = (nI (512 - (j + 1)) + (-1)) := by rw [show 512 - (j + 1) = 511 - j by omega]
    rw [e9_3] at hl
    have hW9 : ((forW cI fo l1 l2 l3 sa lk ef (ljI sil ak (511 - j) s9 (ljD sil ak le j))) : va_W) = (forW cI fo l1 l2 l3 sa lk ef (ljD sil ak le (j + 1))) := by first | (rw [ljI_end hv_27 (by omega)]; rfl) | (rw [show s9 = 9 by omega]; rfl)
    rw [hW9] at hP hD
    exact ih8 (j + 1) _ _ _ (by omega) (show 512 - (j + 1) < fu8 from (by omega)) hP hD hS (lv_sub hl [0, 2, 3, 4] rfl)
  refine lv_aload_n hx hb dX4_letOneJoin_22 rfl (lv_at hl 2 rfl) ?_
  refine va_get (D := (dC, dI)) (ci := 4) (v := .ref l3) (C := RX4) (T := TX4) (N := 4) hx hb hts (fun _ h => List.mem_cons_of_mem _ (List.mem_append_right _ h)) hown hK hP 0 rfl rfl 3 (by decide) (hts (.fieldLink RX4 18 "HoldsOnceDenied$Foresight" "least" "[I") (by decide +kernel)) (fun _ h9 => h9) rfl dX4_letOneJoin_23 ?_
  refine lv_iload_n hx hb dX4_letOneJoin_26 rfl (lv_at hl 1 rfl) ?_
  refine ho_iald (v := oI ((ljI sil ak (511 - j) s9 (ljD sil ak le j)) (511 - j))) hx hb hK hP 3 0 rfl rfl (by omega) (by decide) rfl dX4_letOneJoin_27 ?_
  cases hv_27 : (ljI sil ak (511 - j) s9 (ljD sil ak le j)) (511 - j) with
  | none =>
    refine ho_tope (y := (-4)) rfl ?_
    refine lv_bipush (v := (-4)) hx hb dX4_letOneJoin_28 (by decide +kernel) ?_
    refine lv_icmp_eq (tgt := 121) hx hb dX4_letOneJoin_30 (by decide) (fun _ => ?_) (fun z => absurd (by decide +kernel) z)
    refine lv_iinc (v := nI (511 - j) + (-1)) (lv' := [(3, .int (nI (511 - j) + (-1))), (4, .int (nI s9)), (0, .ref fo), (1, .int (nI sil)), (2, .int (nI ak))]) hx hb dX4_letOneJoin_121 hl (k := 1) rfl rfl (by decide) rfl (fun ls hl => ?_)
    refine lv_goto (tgt := 8) hx hb dX4_letOneJoin_124 (by decide) ?_
    have e9_3 : ((nI (511 - j) + (-1)) : Int32) = (nI (512 - (j + 1)) + (-1)) := by rw [show 512 - (j + 1) = 511 - j by omega]
    rw [e9_3] at hl
    have hW9 : ((forW cI fo l1 l2 l3 sa lk ef (ljI sil ak (511 - j) s9 (ljD sil ak le j))) : va_W) = (forW cI fo l1 l2 l3 sa lk ef (ljD sil ak le (j + 1))) := by first | (rw [ljI_end hv_27 (by omega)]; rfl) | (rw [show s9 = 9 by omega]; rfl)
    rw [hW9] at hP hD
    exact ih8 (j + 1) _ _ _ (by omega) (show 512 - (j + 1) < fu8 from (by omega)) hP hD hS (lv_sub hl [0, 2, 3, 4] rfl)
  | some v_27 =>
    refine ho_tope (y := nI v_27) rfl ?_
    have hv27b := ljI_lt hak (ljD_lt hak gle j) s9 _ _ hv_27
    refine lv_bipush (v := (-4)) hx hb dX4_letOneJoin_28 (by decide +kernel) ?_
    refine lv_icmp_eq (tgt := 121) hx hb dX4_letOneJoin_30 (by decide) (fun z => absurd z (ng_ne (by omega) (by decide +kernel))) (fun _ => ?_)
    refine lv_iload_n hx hb dX4_letOneJoin_33 rfl (lv_at hl 1 rfl) ?_
    refine lv_iload hx hb dX4_letOneJoin_34 (lv_at hl 0 rfl) ?_
    refine vp_callSi ((va_runSN (As := [.int (nI s9)]) (rest := [.int (nI (511 - j))]) ⟨hx, hb, hml, hown, hts⟩ (c_X11_bit l dC dI cI cD cR s9 (by first | omega | assumption | exact gnd _ | exact gkn _ | exact Nat.lt_trans (gkn _) (by decide) | exact Nat.lt_trans (gnd _) (by decide) | exact Nat.lt_of_le_of_lt (pcN_le _) (by decide))) ⟨va_cnB (host := "HoldsOnceDenied") 1 hts gX4_letOneJoin_X11_bit_n88 rfl rfl rfl (CX.nm hCX 11 rfl) (hts (.initialized RX11) (by decide +kernel)) (by decide +kernel) ⟨Nat.le_of_ble_eq_true rfl, Nat.le_of_ble_eq_true rfl⟩, (hts (.static yX11_bit) (by decide +kernel)), trivial⟩ (preS_R hCX (trivial)) rfl rfl hl.1 rfl (lv_room (Nat.le_of_ble_eq_true rfl)) dX4_letOneJoin_36 ⟨Nat.le_of_ble_eq_true (by first | rfl | decide), Nat.le_of_ble_eq_true (by first | rfl | decide)⟩).run) (fun r_36 hr_36 => ?_)
    subst hr_36
    refine ho_ior hx hb dX4_letOneJoin_39 ?_
    refine lv_istore (lv' := [(5, .int (nI ((511 - j) ||| (2 ^ s9)))), (4, .int (nI s9)), (3, .int (nI (511 - j))), (0, .ref fo), (1, .int (nI sil)), (2, .int (nI ak))]) hx hb dX4_letOneJoin_40 hl (by decide) rfl (fun ls hl => ?_)
    refine lv_iload_n hx hb dX4_letOneJoin_42 rfl (lv_at hl 4 rfl) ?_
    refine lv_iload hx hb dX4_letOneJoin_43 (lv_at hl 1 rfl) ?_
    refine vp_callSi ((va_runSN (As := [.int (nI sil), .int (nI s9)]) (rest := []) ⟨hx, hb, hml, hown, hts⟩ (c_X11_has l dC dI cI cD cR sil s9 (by first | omega | assumption | exact gnd _ | exact gkn _ | exact Nat.lt_trans (gkn _) (by decide) | exact Nat.lt_trans (gnd _) (by decide) | exact Nat.lt_of_le_of_lt (pcN_le _) (by decide)) (by first | omega | assumption | exact gnd _ | exact gkn _ | exact Nat.lt_trans (gkn _) (by decide) | exact Nat.lt_trans (gnd _) (by decide) | exact Nat.lt_of_le_of_lt (pcN_le _) (by decide))) ⟨va_cnB (host := "HoldsOnceDenied") 2 hts gX4_letOneJoin_X11_has_n77 rfl rfl rfl (CX.nm hCX 9 rfl) (hts (.initialized RX11) (by decide +kernel)) (by decide +kernel) ⟨Nat.le_of_ble_eq_true rfl, Nat.le_of_ble_eq_true rfl⟩, (hts (.static yX11_has) (by decide +kernel)), trivial⟩ (preS_R hCX (trivial)) rfl rfl hl.1 rfl (lv_room (Nat.le_of_ble_eq_true rfl)) dX4_letOneJoin_45 ⟨Nat.le_of_ble_eq_true (by first | rfl | decide), Nat.le_of_ble_eq_true (by first | rfl | decide)⟩).run) (fun r_45 hr_45 => ?_)
    subst hr_45
    refine ho_beq (tgt := 115) hx hb dX4_letOneJoin_48 (by decide) (fun c_48 => ?_) (fun c_48 => ?_)
    · refine ho_iinc (lv' := [(4, .int (nI (s9 + 1))), (5, .int (nI ((511 - j) ||| (2 ^ s9)))), (3, .int (nI (511 - j))), (0, .ref fo), (1, .int (nI sil)), (2, .int (nI ak))]) (a := s9) (b := 1) hx hb dX4_letOneJoin_115 hl (k := 1) rfl rfl (by decide) rfl (fun ls hl => ?_)
      refine lv_goto (tgt := 15) hx hb dX4_letOneJoin_118 (by decide) ?_
      have hW9 : ((forW cI fo l1 l2 l3 sa lk ef (ljI sil ak (511 - j) s9 (ljD sil ak le j))) : va_W) = (forW cI fo l1 l2 l3 sa lk ef (ljI sil ak (511 - j) (s9 + 1) (ljD sil ak le j))) := by first | rw [← ljI_f hv_27 c_48] | rw [← ljI_e hv_27 c_54] | rw [ljI_0 hv_27 c_48 c_54 hv_76] | rw [ljI_l hv_27 c_48 c_54 hv_76 c_97] | rw [← ljI_g hv_27 c_48 c_54 hv_76 c_97]
      rw [hW9] at hP hD
      exact ih15 (s9 + 1) _ _ _ (by omega) (show 9 - (s9 + 1) < fu15 from (by omega)) hP hD hS (lv_sub hl [0, 2, 3, 4, 5] rfl)
    refine lv_iload hx hb dX4_letOneJoin_51 (lv_at hl 0 rfl) ?_
    refine lv_iload_n hx hb dX4_letOneJoin_53 rfl (lv_at hl 2 rfl) ?_
    refine ho_icmp_eq (tgt := 115) hx hb dX4_letOneJoin_54 (by decide) (Nat.lt_trans (or_512 (by omega) (bit_512 (by omega))) (by decide)) (by omega) (fun c_54 => ?_) (fun c_54 => ?_)
    · refine ho_iinc (lv' := [(4, .int (nI (s9 + 1))), (5, .int (nI ((511 - j) ||| (2 ^ s9)))), (3, .int (nI (511 - j))), (0, .ref fo), (1, .int (nI sil)), (2, .int (nI ak))]) (a := s9) (b := 1) hx hb dX4_letOneJoin_115 hl (k := 1) rfl rfl (by decide) rfl (fun ls hl => ?_)
      refine lv_goto (tgt := 15) hx hb dX4_letOneJoin_118 (by decide) ?_
      have hW9 : ((forW cI fo l1 l2 l3 sa lk ef (ljI sil ak (511 - j) s9 (ljD sil ak le j))) : va_W) = (forW cI fo l1 l2 l3 sa lk ef (ljI sil ak (511 - j) (s9 + 1) (ljD sil ak le j))) := by first | rw [← ljI_f hv_27 c_48] | rw [← ljI_e hv_27 c_54] | rw [ljI_0 hv_27 c_48 c_54 hv_76] | rw [ljI_l hv_27 c_48 c_54 hv_76 c_97] | rw [← ljI_g hv_27 c_48 c_54 hv_76 c_97]
      rw [hW9] at hP hD
      exact ih15 (s9 + 1) _ _ _ (by omega) (show 9 - (s9 + 1) < fu15 from (by omega)) hP hD hS (lv_sub hl [0, 2, 3, 4, 5] rfl)
    refine lv_iload hx hb dX4_letOneJoin_57 (lv_at hl 0 rfl) ?_
    refine lv_aload_n hx hb dX4_letOneJoin_59 rfl (lv_at hl 3 rfl) ?_
    refine va_get (D := (dC, dI)) (ci := 4) (v := .ref l3) (C := RX4) (T := TX4) (N := 4) hx hb hts (fun _ h => List.mem_cons_of_mem _ (List.mem_append_right _ h)) hown hK hP 0 rfl rfl 3 (by decide) (hts (.fieldLink RX4 18 "HoldsOnceDenied$Foresight" "least" "[I") (by decide +kernel)) (fun _ h9 => h9) rfl dX4_letOneJoin_60 ?_
    refine va_alen (v := nI 512) hx hb hK hP 3 0 rfl rfl rfl dX4_letOneJoin_63 ?_
    refine ho_icmp_lt (tgt := 70) hx hb dX4_letOneJoin_64 (by decide) (Nat.lt_trans (or_512 (by omega) (bit_512 (by omega))) (by decide)) (by omega) (fun c_64 => ?_) (fun c_64 => ?_)
    · refine lv_aload_n hx hb dX4_letOneJoin_70 rfl (lv_at hl 3 rfl) ?_
      refine va_get (D := (dC, dI)) (ci := 4) (v := .ref l3) (C := RX4) (T := TX4) (N := 4) hx hb hts (fun _ h => List.mem_cons_of_mem _ (List.mem_append_right _ h)) hown hK hP 0 rfl rfl 3 (by decide) (hts (.fieldLink RX4 18 "HoldsOnceDenied$Foresight" "least" "[I") (by decide +kernel)) (fun _ h9 => h9) rfl dX4_letOneJoin_71 ?_
      refine lv_iload hx hb dX4_letOneJoin_74 (lv_at hl 0 rfl) ?_
      refine ho_iald (v := oI ((ljI sil ak (511 - j) s9 (ljD sil ak le j)) ((511 - j) ||| (2 ^ s9)))) hx hb hK hP 3 0 rfl rfl c_64 (by decide) rfl dX4_letOneJoin_76 ?_
      cases hv_76 : (ljI sil ak (511 - j) s9 (ljD sil ak le j)) ((511 - j) ||| (2 ^ s9)) with
      | none =>
        refine ho_tope (y := (-4)) rfl ?_
        refine lv_bipush (v := (-4)) hx hb dX4_letOneJoin_77 (by decide +kernel) ?_
        refine lv_icmp_eq (tgt := 100) hx hb dX4_letOneJoin_79 (by decide) (fun _ => ?_) (fun z => absurd (by decide +kernel) z)
        refine lv_aload_n hx hb dX4_letOneJoin_100 rfl (lv_at hl 3 rfl) ?_
        refine va_get (D := (dC, dI)) (ci := 4) (v := .ref l3) (C := RX4) (T := TX4) (N := 4) hx hb hts (fun _ h => List.mem_cons_of_mem _ (List.mem_append_right _ h)) hown hK hP 0 rfl rfl 3 (by decide) (hts (.fieldLink RX4 18 "HoldsOnceDenied$Foresight" "least" "[I") (by decide +kernel)) (fun _ h9 => h9) rfl dX4_letOneJoin_101 ?_
        refine lv_iload hx hb dX4_letOneJoin_104 (lv_at hl 0 rfl) ?_
        refine lv_aload_n hx hb dX4_letOneJoin_106 rfl (lv_at hl 3 rfl) ?_
        refine va_get (D := (dC, dI)) (ci := 4) (v := .ref l3) (C := RX4) (T := TX4) (N := 4) hx hb hts (fun _ h => List.mem_cons_of_mem _ (List.mem_append_right _ h)) hown hK hP 0 rfl rfl 3 (by decide) (hts (.fieldLink RX4 18 "HoldsOnceDenied$Foresight" "least" "[I") (by decide +kernel)) (fun _ h9 => h9) rfl dX4_letOneJoin_107 ?_
        refine lv_iload_n hx hb dX4_letOneJoin_110 rfl (lv_at hl 2 rfl) ?_
        refine ho_iald (v := nI v_27) hx hb hK hP 3 0 rfl rfl (by omega) (by decide) (show oI ((ljI sil ak (511 - j) s9 (ljD sil ak le j)) (511 - j)) = _ by rw [hv_27]; rfl) dX4_letOneJoin_111 ?_
        refine lv_iload_n hx hb dX4_letOneJoin_112 rfl (lv_at hl 5 rfl) ?_
        refine ho_iadd hx hb dX4_letOneJoin_113 ?_
        refine ho_iast (g := oF (va_up (ljI sil ak (511 - j) s9 (ljD sil ak le j)) ((511 - j) ||| (2 ^ s9)) (some (v_27 + ak)))) hx hb hK hP hD hS 3 0 rfl rfl c_64 (by first | decide | omega) (oF_up _ _ (some (v_27 + ak))) dX4_letOneJoin_114 (fun H locs hP hD hS => ?_)
        have hP : va_P (dC, dI) vwCl ((forW cI fo l1 l2 l3 sa lk ef (va_up (ljI sil ak (511 - j) s9 (ljD sil ak le j)) ((511 - j) ||| (2 ^ s9)) (some (v_27 + ak))))) H := hP
        have hD : va_D A ((forW cI fo l1 l2 l3 sa lk ef (va_up (ljI sil ak (511 - j) s9 (ljD sil ak le j)) ((511 - j) ||| (2 ^ s9)) (some (v_27 + ak))))) := hD
        refine ho_iinc (lv' := [(4, .int (nI (s9 + 1))), (5, .int (nI ((511 - j) ||| (2 ^ s9)))), (3, .int (nI (511 - j))), (0, .ref fo), (1, .int (nI sil)), (2, .int (nI ak))]) (a := s9) (b := 1) hx hb dX4_letOneJoin_115 hl (k := 1) rfl rfl (by decide) rfl (fun ls hl => ?_)
        refine lv_goto (tgt := 15) hx hb dX4_letOneJoin_118 (by decide) ?_
        have hW9 : ((forW cI fo l1 l2 l3 sa lk ef (va_up (ljI sil ak (511 - j) s9 (ljD sil ak le j)) ((511 - j) ||| (2 ^ s9)) (some (v_27 + ak)))) : va_W) = (forW cI fo l1 l2 l3 sa lk ef (ljI sil ak (511 - j) (s9 + 1) (ljD sil ak le j))) := by first | rw [← ljI_f hv_27 c_48] | rw [← ljI_e hv_27 c_54] | rw [ljI_0 hv_27 c_48 c_54 hv_76] | rw [ljI_l hv_27 c_48 c_54 hv_76 c_97] | rw [← ljI_g hv_27 c_48 c_54 hv_76 c_97]
        rw [hW9] at hP hD
        exact ih15 (s9 + 1) _ _ _ (by omega) (show 9 - (s9 + 1) < fu15 from (by omega)) hP hD hS (lv_sub hl [0, 2, 3, 4, 5] rfl)
      | some v_76 =>
        refine ho_tope (y := nI v_76) rfl ?_
        have hv76b := ljI_lt hak (ljD_lt hak gle j) s9 _ _ hv_76
        refine lv_bipush (v := (-4)) hx hb dX4_letOneJoin_77 (by decide +kernel) ?_
        refine lv_icmp_eq (tgt := 100) hx hb dX4_letOneJoin_79 (by decide) (fun z => absurd z (ng_ne (by omega) (by decide +kernel))) (fun _ => ?_)
        refine lv_aload_n hx hb dX4_letOneJoin_82 rfl (lv_at hl 3 rfl) ?_
        refine va_get (D := (dC, dI)) (ci := 4) (v := .ref l3) (C := RX4) (T := TX4) (N := 4) hx hb hts (fun _ h => List.mem_cons_of_mem _ (List.mem_append_right _ h)) hown hK hP 0 rfl rfl 3 (by decide) (hts (.fieldLink RX4 18 "HoldsOnceDenied$Foresight" "least" "[I") (by decide +kernel)) (fun _ h9 => h9) rfl dX4_letOneJoin_83 ?_
        refine lv_iload_n hx hb dX4_letOneJoin_86 rfl (lv_at hl 2 rfl) ?_
        refine ho_iald (v := nI v_27) hx hb hK hP 3 0 rfl rfl (by omega) (by decide) (show oI ((ljI sil ak (511 - j) s9 (ljD sil ak le j)) (511 - j)) = _ by rw [hv_27]; rfl) dX4_letOneJoin_87 ?_
        refine lv_iload_n hx hb dX4_letOneJoin_88 rfl (lv_at hl 5 rfl) ?_
        refine ho_iadd hx hb dX4_letOneJoin_89 ?_
        refine lv_aload_n hx hb dX4_letOneJoin_90 rfl (lv_at hl 3 rfl) ?_
        refine va_get (D := (dC, dI)) (ci := 4) (v := .ref l3) (C := RX4) (T := TX4) (N := 4) hx hb hts (fun _ h => List.mem_cons_of_mem _ (List.mem_append_right _ h)) hown hK hP 0 rfl rfl 3 (by decide) (hts (.fieldLink RX4 18 "HoldsOnceDenied$Foresight" "least" "[I") (by decide +kernel)) (fun _ h9 => h9) rfl dX4_letOneJoin_91 ?_
        refine lv_iload hx hb dX4_letOneJoin_94 (lv_at hl 0 rfl) ?_
        refine ho_iald (v := nI v_76) hx hb hK hP 3 0 rfl rfl c_64 (by decide) (show oI ((ljI sil ak (511 - j) s9 (ljD sil ak le j)) ((511 - j) ||| (2 ^ s9))) = _ by rw [hv_76]; rfl) dX4_letOneJoin_96 ?_
        refine ho_icmp_ge (tgt := 115) hx hb dX4_letOneJoin_97 (by decide) (by omega) (by omega) (fun c_97 => ?_) (fun c_97 => ?_)
        · refine ho_iinc (lv' := [(4, .int (nI (s9 + 1))), (5, .int (nI ((511 - j) ||| (2 ^ s9)))), (3, .int (nI (511 - j))), (0, .ref fo), (1, .int (nI sil)), (2, .int (nI ak))]) (a := s9) (b := 1) hx hb dX4_letOneJoin_115 hl (k := 1) rfl rfl (by decide) rfl (fun ls hl => ?_)
          refine lv_goto (tgt := 15) hx hb dX4_letOneJoin_118 (by decide) ?_
          have hW9 : ((forW cI fo l1 l2 l3 sa lk ef (ljI sil ak (511 - j) s9 (ljD sil ak le j))) : va_W) = (forW cI fo l1 l2 l3 sa lk ef (ljI sil ak (511 - j) (s9 + 1) (ljD sil ak le j))) := by first | rw [← ljI_f hv_27 c_48] | rw [← ljI_e hv_27 c_54] | rw [ljI_0 hv_27 c_48 c_54 hv_76] | rw [ljI_l hv_27 c_48 c_54 hv_76 c_97] | rw [← ljI_g hv_27 c_48 c_54 hv_76 c_97]
          rw [hW9] at hP hD
          exact ih15 (s9 + 1) _ _ _ (by omega) (show 9 - (s9 + 1) < fu15 from (by omega)) hP hD hS (lv_sub hl [0, 2, 3, 4, 5] rfl)
        refine lv_aload_n hx hb dX4_letOneJoin_100 rfl (lv_at hl 3 rfl) ?_
        refine va_get (D := (dC, dI)) (ci := 4) (v := .ref l3) (C := RX4) (T := TX4) (N := 4) hx hb hts (fun _ h => List.mem_cons_of_mem _ (List.mem_append_right _ h)) hown hK hP 0 rfl rfl 3 (by decide) (hts (.fieldLink RX4 18 "HoldsOnceDenied$Foresight" "least" "[I") (by decide +kernel)) (fun _ h9 => h9) rfl dX4_letOneJoin_101 ?_
        refine lv_iload hx hb dX4_letOneJoin_104 (lv_at hl 0 rfl) ?_
        refine lv_aload_n hx hb dX4_letOneJoin_106 rfl (lv_at hl 3 rfl) ?_
        refine va_get (D := (dC, dI)) (ci := 4) (v := .ref l3) (C := RX4) (T := TX4) (N := 4) hx hb hts (fun _ h => List.mem_cons_of_mem _ (List.mem_append_right _ h)) hown hK hP 0 rfl rfl 3 (by decide) (hts (.fieldLink RX4 18 "HoldsOnceDenied$Foresight" "least" "[I") (by decide +kernel)) (fun _ h9 => h9) rfl dX4_letOneJoin_107 ?_
        refine lv_iload_n hx hb dX4_letOneJoin_110 rfl (lv_at hl 2 rfl) ?_
        refine ho_iald (v := nI v_27) hx hb hK hP 3 0 rfl rfl (by omega) (by decide) (show oI ((ljI sil ak (511 - j) s9 (ljD sil ak le j)) (511 - j)) = _ by rw [hv_27]; rfl) dX4_letOneJoin_111 ?_
        refine lv_iload_n hx hb dX4_letOneJoin_112 rfl (lv_at hl 5 rfl) ?_
        refine ho_iadd hx hb dX4_letOneJoin_113 ?_
        refine ho_iast (g := oF (va_up (ljI sil ak (511 - j) s9 (ljD sil ak le j)) ((511 - j) ||| (2 ^ s9)) (some (v_27 + ak)))) hx hb hK hP hD hS 3 0 rfl rfl c_64 (by first | decide | omega) (oF_up _ _ (some (v_27 + ak))) dX4_letOneJoin_114 (fun H locs hP hD hS => ?_)
        have hP : va_P (dC, dI) vwCl ((forW cI fo l1 l2 l3 sa lk ef (va_up (ljI sil ak (511 - j) s9 (ljD sil ak le j)) ((511 - j) ||| (2 ^ s9)) (some (v_27 + ak))))) H := hP
        have hD : va_D A ((forW cI fo l1 l2 l3 sa lk ef (va_up (ljI sil ak (511 - j) s9 (ljD sil ak le j)) ((511 - j) ||| (2 ^ s9)) (some (v_27 + ak))))) := hD
        refine ho_iinc (lv' := [(4, .int (nI (s9 + 1))), (5, .int (nI ((511 - j) ||| (2 ^ s9)))), (3, .int (nI (511 - j))), (0, .ref fo), (1, .int (nI sil)), (2, .int (nI ak))]) (a := s9) (b := 1) hx hb dX4_letOneJoin_115 hl (k := 1) rfl rfl (by decide) rfl (fun ls hl => ?_)
        refine lv_goto (tgt := 15) hx hb dX4_letOneJoin_118 (by decide) ?_
        have hW9 : ((forW cI fo l1 l2 l3 sa lk ef (va_up (ljI sil ak (511 - j) s9 (ljD sil ak le j)) ((511 - j) ||| (2 ^ s9)) (some (v_27 + ak)))) : va_W) = (forW cI fo l1 l2 l3 sa lk ef (ljI sil ak (511 - j) (s9 + 1) (ljD sil ak le j))) := by first | rw [← ljI_f hv_27 c_48] | rw [← ljI_e hv_27 c_54] | rw [ljI_0 hv_27 c_48 c_54 hv_76] | rw [ljI_l hv_27 c_48 c_54 hv_76 c_97] | rw [← ljI_g hv_27 c_48 c_54 hv_76 c_97]
        rw [hW9] at hP hD
        exact ih15 (s9 + 1) _ _ _ (by omega) (show 9 - (s9 + 1) < fu15 from (by omega)) hP hD hS (lv_sub hl [0, 2, 3, 4, 5] rfl)
    exact absurd (or_512 (by omega) (bit_512 (by omega))) (Nat.not_lt.mpr c_64)
set_option maxHeartbeats 4000000 in
set_option maxRecDepth 100000 in
theorem c_X4_together (l : Launch) (dC : Nat → ClassId) (dI : Nat → Nat → Nat) (cI cD cR : ClassId) (fo l1 l2 l3 sa : Nat) (lk : Nat → Option Nat) (ef : Nat → Nat) (le : Nat → Option Nat) (h a1 a2 a3 a4 a5 n d t al day : Nat) (nd : Nat → Nat) (mk si : Nat → Int32) (kn : Nat → Nat) (mb : Nat → Option Nat) (DL : List Nat) (kd fg : Nat → Nat) (pr : Bool) (sz : Nat) (hn : n ≤ 9) (hd : d ≤ 6) (ht : t < 512) (hal : al < 64) (hday : day < 2 ^ 30) (gnd : ∀ i, nd i < 512) (gkn : ∀ j, kn j < 512) (gmb : ∀ j a, mb j = some a → a ∈ DL) (gro : ∀ a ∈ DL, ¬ va_A ((forW cI fo l1 l2 l3 sa lk ef le) ++ (schW cI cD h a1 a2 a3 a4 a5 n d t al day nd mk si kn mb)) sz a) : Met l yX4_together wsX4_together ({ frames := 5, cells := 0, slots := 0, locals := 119 }) (pcR dC dI cI cD cR [.ref fo, .ref h, .int (bI pr)] (fun H => H.size = sz ∧ va_P (dC, dI) vwCl ((forW cI fo l1 l2 l3 sa lk ef le) ++ (schW cI cD h a1 a2 a3 a4 a5 n d t al day nd mk si kn mb)) H ∧ va_D (fun _ => True) ((forW cI fo l1 l2 l3 sa lk ef le) ++ (schW cI cD h a1 a2 a3 a4 a5 n d t al day nd mk si kn mb)) ∧ DP dC dI DL kd fg H)) (va_Qi (fun r (_ : Unit) => r = nI (bif pr then (tgM (tgL n al t day kn nd mb kd fg 6) 512).2 else (tgM (tgL n al t day kn nd mb kd fg 6) 512).1)) (fun (_ : Unit) T9 => va_P (dC, dI) vwCl ((forW cI fo l1 l2 l3 sa lk ef (tgL n al t day kn nd mb kd fg 6)) ++ (schW cI cD h a1 a2 a3 a4 a5 n d t al day nd mk si kn mb)) T9.heap ∧ va_D (va_A ((forW cI fo l1 l2 l3 sa lk ef le) ++ (schW cI cD h a1 a2 a3 a4 a5 n d t al day nd mk si kn mb)) sz) ((forW cI fo l1 l2 l3 sa lk ef (tgL n al t day kn nd mb kd fg 6)) ++ (schW cI cD h a1 a2 a3 a4 a5 n d t al day nd mk si kn mb))) (va_A ((forW cI fo l1 l2 l3 sa lk ef le) ++ (schW cI cD h a1 a2 a3 a4 a5 n d t al day nd mk si kn mb)) sz)) 0 0 (va_A ((forW cI fo l1 l2 l3 sa lk ef le) ++ (schW cI cD h a1 a2 a3 a4 a5 n d t al day nd mk si kn mb)) sz) := by
  refine Met.ofW (cc := cX4_together) (maxL := 7) (ret := (some .int)) (by decide) rfl ?_
  intro p e s m args below meth c s₁ B hml hv
  obtain ⟨rfl, hH0, hCX⟩ := hv
  have hx := B.exec
  have hb := B.bytes
  have hr := B.returns
  have hts := atoms_spec (ws := wsX4_together) B.pre
  have hown : s.vm.findClass RX4 = some m.cls := findClass_of_methodNamed B.named
  have hlocks := B.notSynchronized
  have hK := hCX.1
  obtain ⟨hsz, hP, hD0, hDP0⟩ := hH0
  subst hsz
  have hD := hD0.self (sz := s.heap.size)
  generalize hAe : va_A ((forW cI fo l1 l2 l3 sa lk ef le) ++ (schW cI cD h a1 a2 a3 a4 a5 n d t al day nd mk si kn mb)) s.heap.size = A at hD ⊢
  have hA : ∀ q : Nat, s.heap.size ≤ q → A q := fun q h => by rw [← hAe]; exact Or.inr h
  have hS : va_S A s.heap s.heap [] := va_S.rf
  have hP : va_P (dC, dI) vwCl ((forW cI fo l1 l2 l3 sa lk ef le) ++ (schW cI cD h a1 a2 a3 a4 a5 n d t al day nd mk si kn mb)) s.heap := hP
  have hro : ∀ a ∈ DL, ¬ A a := by rw [← hAe]; exact gro
  have hDP := hDP0
  have hl := lv_entry ([.ref fo, .ref h, .int (bI pr)]) (n := 7) (Nat.le_of_ble_eq_true rfl)
  rw [lg_entry_eq]
  generalize (lg_sl ([.ref fo, .ref h, .int (bI pr)]) ++ List.replicate (7 - (lg_sl ([.ref fo, .ref h, .int (bI pr)])).length) Slot.unset).toArray = ls at hl ⊢
  have hl : lv_has ls 7 [(0, .ref fo), (1, .ref h), (2, .int (bI pr))] := hl
  refine lv_aload_n hx hb dX4_together_0 rfl (lv_at hl 0 rfl) ?_
  refine va_get (D := (dC, dI)) (ci := 4) (v := .ref l3) (C := RX4) (T := TX4) (N := 4) hx hb hts (fun _ h => List.mem_cons_of_mem _ (List.mem_append_left _ (List.mem_append_left _ (List.mem_append_left _ (List.mem_append_left _ (List.mem_append_left _ (List.mem_append_left _ (List.mem_append_left _ (List.mem_append_left _ (List.mem_append_left _ (List.mem_append_right _ h))))))))))) hown hK hP 0 rfl rfl 3 (by decide) (hts (.fieldLink RX4 18 "HoldsOnceDenied$Foresight" "least" "[I") (by decide +kernel)) (fun _ h9 => h9) rfl dX4_together_1 ?_
  refine lv_bipush (v := (-4)) hx hb dX4_together_4 (by decide +kernel) ?_
  have hPc := hP.sub (ws' := [(l3, .inl (cI, 512, .inl (oF le)))]) [3] rfl
  have hDc := hD.sub (ws' := [(l3, .inl (cI, 512, .inl (oF le)))]) [3] (by decide) rfl
  have hFc := va_free (wc := [(l3, .inl (cI, 512, .inl (oF le)))]) hD hS hA [3] rfl
  refine va_callv (va_runS (As := [.ref l3, .int (-4)]) (rest := []) ⟨hx, hb, hml, hown, hts⟩ (c_J7_fill_53178 l dC dI cI cD cR l3 512 (oF le) (-4) s.heap.size (by first | omega | assumption | exact gnd _ | exact gkn _ | exact Nat.lt_trans (gkn _) (by decide) | exact Nat.lt_trans (gnd _) (by decide) | exact Nat.lt_of_le_of_lt (pcN_le _) (by decide))) (va_cwS 2 hts gX4_together_J7_fill_53178 rfl rfl rfl (by decide +kernel) ⟨Nat.le_of_ble_eq_true rfl, Nat.le_of_ble_eq_true rfl⟩) (preS_R hCX ⟨rfl, hPc, hDc.weaken (fun _ _ _ _ => trivial)⟩) rfl rfl hl.1 rfl (lv_room (Nat.le_of_ble_eq_true rfl)) dX4_together_6 ⟨Nat.le_of_ble_eq_true (by first | rfl | decide), Nat.le_of_ble_eq_true (by first | rfl | decide)⟩) hS (fun q _ h => hFc q h) hFc (fun u T8 H1 locs hT8 hvm hw hB hz1 hk1 hS => ?_)
  obtain ⟨hP1, hD1⟩ := hB
  rw [hT8] at hP1
  obtain ⟨hP, hD⟩ := va_join (wr := [(fo, .inr (4, [.int (nI sa), .ref l1, .ref l2, .ref l3])), (l1, .inl (cI, 63, .inl (oMF lk))), (l2, .inl (cI, 63, .inl (nF ef))), (h, .inr (9, [.int (nI n), .int (nI d), .int (nI t), .int (nI al), .int (nI day), .ref a1, .ref a2, .ref a3, .ref a4, .ref a5])), (a1, .inl (cI, 9, .inl (nF nd))), (a2, .inl (cI, 9, .inl mk)), (a3, .inl (cI, 9, .inl si)), (a4, .inl (cI, 6, .inl (nF kn))), (a5, .inl (cD, 6, .inr (.inr (.inr (.inr mb)))))]) (w1 := [(l3, .inl (cI, 512, .inl (oF (fun _ => none))))]) hP hD [3] [0, 1, 2, 4, 5, 6, 7, 8, 9] rfl rfl (by decide) (by decide) hk1 hFc hP1 hD1
  generalize H1 = H at hP hS ⊢
  have hP := hP.sub (ws' := (forW cI fo l1 l2 l3 sa lk ef (fun _ => none)) ++ (schW cI cD h a1 a2 a3 a4 a5 n d t al day nd mk si kn mb)) [0, 1, 2, 9, 3, 4, 5, 6, 7, 8] rfl
  have hD := hD.sub (ws' := (forW cI fo l1 l2 l3 sa lk ef (fun _ => none)) ++ (schW cI cD h a1 a2 a3 a4 a5 n d t al day nd mk si kn mb)) [0, 1, 2, 9, 3, 4, 5, 6, 7, 8] (by decide) rfl
  refine lv_aload_n hx hb dX4_together_9 rfl (lv_at hl 0 rfl) ?_
  refine va_get (D := (dC, dI)) (ci := 4) (v := .ref l3) (C := RX4) (T := TX4) (N := 4) hx hb hts (fun _ h => List.mem_cons_of_mem _ (List.mem_append_left _ (List.mem_append_left _ (List.mem_append_left _ (List.mem_append_left _ (List.mem_append_left _ (List.mem_append_left _ (List.mem_append_left _ (List.mem_append_left _ (List.mem_append_left _ (List.mem_append_right _ h))))))))))) hown hK hP 0 rfl rfl 3 (by decide) (hts (.fieldLink RX4 18 "HoldsOnceDenied$Foresight" "least" "[I") (by decide +kernel)) (fun _ h9 => h9) rfl dX4_together_10 ?_
  refine lv_iconst (v := nI 0) hx hb dX4_together_13 (by decide +kernel) ?_
  refine lv_iconst (v := nI 0) hx hb dX4_together_14 (by decide +kernel) ?_
  refine ho_iast (g := oF (va_up (fun _ => none) 0 (some 0))) hx hb hK hP hD hS 3 0 rfl rfl (by omega) (by first | decide | omega) (oF_up _ _ (some 0)) dX4_together_15 (fun H locs hP hD hS => ?_)
  have hP : va_P (dC, dI) vwCl ((forW cI fo l1 l2 l3 sa lk ef (va_up (fun _ => none) 0 (some 0))) ++ (schW cI cD h a1 a2 a3 a4 a5 n d t al day nd mk si kn mb)) H := hP
  have hD : va_D A ((forW cI fo l1 l2 l3 sa lk ef (va_up (fun _ => none) 0 (some 0))) ++ (schW cI cD h a1 a2 a3 a4 a5 n d t al day nd mk si kn mb)) := hD
  have hfg : ∀ j a, mb j = some a → fg a < 10 := fun j a h => (hDP0 a (gmb j a h)).2.2
  refine lv_iconst (v := nI 0) hx hb dX4_together_16 (by decide +kernel) ?_
  refine lv_istore_n (lv' := [(3, .int (nI 0)), (0, .ref fo), (1, .ref h), (2, .int (bI pr))]) hx hb dX4_together_17 rfl hl (by decide) rfl (fun ls hl => ?_)
  refine ho_lpW (T := Nat) 7 (fun x9 => ((forW cI fo l1 l2 l3 sa lk ef (tgL n al t day kn nd mb kd fg x9)) ++ (schW cI cD h a1 a2 a3 a4 a5 n d t al day nd mk si kn mb) : va_W)) (fun x9 => [(3, .int (nI x9)), (0, .ref fo), (1, .ref h), (2, .int (bI pr))]) (fun x9 => []) (fun x9 => (x9 ≤ 6)) (fun x9 => 6 - x9) 0 (by omega) (lv_sub hl [0, 1, 2, 3] rfl) hP hD hS ?_
  intro fu18 i H locs ls hI hm18 hP hD hS hl ih
  have hi6 := hI
  have hl : lv_has ls 7 [(3, .int (nI i)), (0, .ref fo), (1, .ref h), (2, .int (bI pr))] := hl
  have hi6 : i ≤ 6 := hi6
  have hm18 : 6 - i < fu18 + 1 := hm18
  have hP : va_P (dC, dI) vwCl ((forW cI fo l1 l2 l3 sa lk ef (tgL n al t day kn nd mb kd fg i)) ++ (schW cI cD h a1 a2 a3 a4 a5 n d t al day nd mk si kn mb)) H := hP
  have hD : va_D A ((forW cI fo l1 l2 l3 sa lk ef (tgL n al t day kn nd mb kd fg i)) ++ (schW cI cD h a1 a2 a3 a4 a5 n d t al day nd mk si kn mb)) := hD
  refine W.eq (g2 := F0 m 18 ls []) rfl ?_
  have ih18 := ih
  refine lv_iload_n hx hb dX4_together_18 rfl (lv_at hl 0 rfl) ?_
  refine lv_bipush (v := nI 6) hx hb dX4_together_19 (by decide +kernel) ?_
  refine ho_icmp_ge (tgt := 56) hx hb dX4_together_21 (by decide) (by omega) (by omega) (fun c_21 => ?_) (fun c_21 => ?_)
  · refine lv_iconst (v := nI 0) hx hb dX4_together_56 (by decide +kernel) ?_
    refine lv_istore_n (lv' := [(3, .int (nI 0)), (0, .ref fo), (1, .ref h), (2, .int (bI pr))]) hx hb dX4_together_57 rfl hl (by decide) rfl (fun ls hl => ?_)
    refine lv_iconst (v := nI 0) hx hb dX4_together_58 (by decide +kernel) ?_
    refine lv_istore (lv' := [(4, .int (nI 0)), (3, .int (nI 0)), (0, .ref fo), (1, .ref h), (2, .int (bI pr))]) hx hb dX4_together_59 hl (by decide) rfl (fun ls hl => ?_)
    refine lv_iconst (v := nI 0) hx hb dX4_together_61 (by decide +kernel) ?_
    refine lv_istore (lv' := [(5, .int (nI 0)), (4, .int (nI 0)), (3, .int (nI 0)), (0, .ref fo), (1, .ref h), (2, .int (bI pr))]) hx hb dX4_together_62 hl (by decide) rfl (fun ls hl => ?_)
    refine ho_lpW (T := Nat) 7 (fun x9 => ((forW cI fo l1 l2 l3 sa lk ef (tgL n al t day kn nd mb kd fg 6)) ++ (schW cI cD h a1 a2 a3 a4 a5 n d t al day nd mk si kn mb) : va_W)) (fun x9 => [(5, .int (nI x9)), (4, .int (nI ((tgM (tgL n al t day kn nd mb kd fg 6) x9).2))), (3, .int (nI ((tgM (tgL n al t day kn nd mb kd fg 6) x9).1))), (0, .ref fo), (1, .ref h), (2, .int (bI pr))]) (fun x9 => []) (fun x9 => (x9 ≤ 512)) (fun x9 => 512 - x9) 0 (by omega) (lv_sub hl [0, 1, 2, 3, 4, 5] rfl) (by rw [show (6 : Nat) = i by omega]; exact hP) (by rw [show (6 : Nat) = i by omega]; exact hD) hS ?_
    intro fu64 k H locs ls hI hm64 hP hD hS hl ih
    have hk := hI
    have hl : lv_has ls 7 [(5, .int (nI k)), (4, .int (nI ((tgM (tgL n al t day kn nd mb kd fg 6) k).2))), (3, .int (nI ((tgM (tgL n al t day kn nd mb kd fg 6) k).1))), (0, .ref fo), (1, .ref h), (2, .int (bI pr))] := hl
    have hk : k ≤ 512 := hk
    have hm64 : 512 - k < fu64 + 1 := hm64
    have hP : va_P (dC, dI) vwCl ((forW cI fo l1 l2 l3 sa lk ef (tgL n al t day kn nd mb kd fg 6)) ++ (schW cI cD h a1 a2 a3 a4 a5 n d t al day nd mk si kn mb)) H := hP
    have hD : va_D A ((forW cI fo l1 l2 l3 sa lk ef (tgL n al t day kn nd mb kd fg 6)) ++ (schW cI cD h a1 a2 a3 a4 a5 n d t al day nd mk si kn mb)) := hD
    refine W.eq (g2 := F0 m 64 ls []) rfl ?_
    have ih64 := ih
    have hL9 : ∀ i9 v9, tgL n al t day kn nd mb kd fg 6 i9 = some v9 → v9 < 1000000 := fun i9 v9 h9 => Nat.lt_of_lt_of_le (tgL_lt hfg 6 i9 v9 h9) (by decide)
    have hpc := pcN_le k
    have htm := tgM_lt (B := 1000000) (by decide) hL9 k
    refine lv_iload hx hb dX4_together_64 (lv_at hl 0 rfl) ?_
    refine lv_aload_n hx hb dX4_together_66 rfl (lv_at hl 3 rfl) ?_
    refine va_get (D := (dC, dI)) (ci := 4) (v := .ref l3) (C := RX4) (T := TX4) (N := 4) hx hb hts (fun _ h => List.mem_cons_of_mem _ (List.mem_append_left _ (List.mem_append_left _ (List.mem_append_left _ (List.mem_append_left _ (List.mem_append_left _ (List.mem_append_left _ (List.mem_append_left _ (List.mem_append_left _ (List.mem_append_left _ (List.mem_append_right _ h))))))))))) hown hK hP 0 rfl rfl 3 (by decide) (hts (.fieldLink RX4 18 "HoldsOnceDenied$Foresight" "least" "[I") (by decide +kernel)) (fun _ h9 => h9) rfl dX4_together_67 ?_
    refine va_alen (v := nI 512) hx hb hK hP 3 0 rfl rfl rfl dX4_together_70 ?_
    refine ho_icmp_ge (tgt := 135) hx hb dX4_together_71 (by decide) (by omega) (by omega) (fun c_71 => ?_) (fun c_71 => ?_)
    · refine lv_iload_n hx hb dX4_together_135 rfl (lv_at hl 5 rfl) ?_
      refine ho_beq (tgt := 144) hx hb dX4_together_136 (by decide) (fun c_136 => ?_) (fun c_136 => ?_)
      · refine lv_iload_n hx hb dX4_together_144 rfl (lv_at hl 2 rfl) ?_
        exact W.iret (v := nI ((tgM (tgL n al t day kn nd mb kd fg 6) k).1)) hx hb hr (fun T9 hT9 hW9 => ⟨⟨_, (), rfl, (congrArg nI (by simp only [c_136, show k = 512 by omega, cond_true, cond_false])), by rw [hT9]; exact hP, hD⟩, hS.F hT9⟩) hS.2.2 dX4_together_145
      refine lv_iload hx hb dX4_together_139 (lv_at hl 1 rfl) ?_
      refine lv_goto (tgt := 145) hx hb dX4_together_141 (by decide) ?_
      exact W.iret (v := nI ((tgM (tgL n al t day kn nd mb kd fg 6) k).2)) hx hb hr (fun T9 hT9 hW9 => ⟨⟨_, (), rfl, (congrArg nI (by simp only [c_136, show k = 512 by omega, cond_true, cond_false])), by rw [hT9]; exact hP, hD⟩, hS.F hT9⟩) hS.2.2 dX4_together_145
    refine lv_iload hx hb dX4_together_74 (lv_at hl 0 rfl) ?_
    refine vp_callSi ((va_runS (As := [.int (nI k)]) (rest := []) ⟨hx, hb, hml, hown, hts⟩ (c_J6_bitCount_0f7a4 l dC dI cI cD cR k (by first | omega | assumption | exact gnd _ | exact gkn _ | exact Nat.lt_trans (gkn _) (by decide) | exact Nat.lt_trans (gnd _) (by decide) | exact Nat.lt_of_le_of_lt (pcN_le _) (by decide))) (va_cwS 1 hts gX4_together_J6_bitCount_0f7a4 rfl rfl rfl (by decide +kernel) ⟨Nat.le_of_ble_eq_true rfl, Nat.le_of_ble_eq_true rfl⟩) (preS_R hCX (trivial)) rfl rfl hl.1 rfl (lv_room (Nat.le_of_ble_eq_true rfl)) dX4_together_76 ⟨Nat.le_of_ble_eq_true (by first | rfl | decide), Nat.le_of_ble_eq_true (by first | rfl | decide)⟩).run) (fun r_76 hr_76 => ?_)
    subst hr_76
    refine lv_istore (lv' := [(6, .int (nI (pcN k))), (5, .int (nI k)), (4, .int (nI ((tgM (tgL n al t day kn nd mb kd fg 6) k).2))), (3, .int (nI ((tgM (tgL n al t day kn nd mb kd fg 6) k).1))), (0, .ref fo), (1, .ref h), (2, .int (bI pr))]) hx hb dX4_together_79 hl (by decide) rfl (fun ls hl => ?_)
    refine lv_aload_n hx hb dX4_together_81 rfl (lv_at hl 4 rfl) ?_
    refine va_get (D := (dC, dI)) (ci := 4) (v := .ref l3) (C := RX4) (T := TX4) (N := 4) hx hb hts (fun _ h => List.mem_cons_of_mem _ (List.mem_append_left _ (List.mem_append_left _ (List.mem_append_left _ (List.mem_append_left _ (List.mem_append_left _ (List.mem_append_left _ (List.mem_append_left _ (List.mem_append_left _ (List.mem_append_left _ (List.mem_append_right _ h))))))))))) hown hK hP 0 rfl rfl 3 (by decide) (hts (.fieldLink RX4 18 "HoldsOnceDenied$Foresight" "least" "[I") (by decide +kernel)) (fun _ h9 => h9) rfl dX4_together_82 ?_
    refine lv_iload hx hb dX4_together_85 (lv_at hl 1 rfl) ?_
    refine ho_iald (v := oI ((tgL n al t day kn nd mb kd fg 6) k)) hx hb hK hP 3 0 rfl rfl (by omega) (by decide) rfl dX4_together_87 ?_
    cases hv_87 : (tgL n al t day kn nd mb kd fg 6) k with
    | none =>
      refine ho_tope (y := (-4)) rfl ?_
      refine lv_bipush (v := (-4)) hx hb dX4_together_88 (by decide +kernel) ?_
      refine lv_icmp_eq (tgt := 129) hx hb dX4_together_90 (by decide) (fun _ => ?_) (fun z => absurd (by decide +kernel) z)
      refine ho_iinc (lv' := [(5, .int (nI (k + 1))), (6, .int (nI (pcN k))), (4, .int (nI ((tgM (tgL n al t day kn nd mb kd fg 6) k).2))), (3, .int (nI ((tgM (tgL n al t day kn nd mb kd fg 6) k).1))), (0, .ref fo), (1, .ref h), (2, .int (bI pr))]) (a := k) (b := 1) hx hb dX4_together_129 hl (k := 1) rfl rfl (by decide) rfl (fun ls hl => ?_)
      refine lv_goto (tgt := 64) hx hb dX4_together_132 (by decide) ?_
      have e9_3 : (tgM (tgL n al t day kn nd mb kd fg 6) k).1 = (tgM (tgL n al t day kn nd mb kd fg 6) (k + 1)).1 := by first | exact congrArg Prod.fst (tgM_n hv_87) | exact congrArg Prod.fst (tgM_t hv_87 (Or.inl c_96)) | exact congrArg Prod.fst (tgM_t hv_87 (Or.inr ⟨c_102, c_114⟩)) | exact congrArg Prod.fst (tgM_f hv_87 (fun h9 => by rcases h9 with h9 | h9 <;> omega))
      rw [e9_3] at hl
      have e9_4 : (tgM (tgL n al t day kn nd mb kd fg 6) k).2 = (tgM (tgL n al t day kn nd mb kd fg 6) (k + 1)).2 := by first | exact congrArg Prod.snd (tgM_n hv_87) | exact congrArg Prod.snd (tgM_t hv_87 (Or.inl c_96)) | exact congrArg Prod.snd (tgM_t hv_87 (Or.inr ⟨c_102, c_114⟩)) | exact congrArg Prod.snd (tgM_f hv_87 (fun h9 => by rcases h9 with h9 | h9 <;> omega))
      rw [e9_4] at hl
      exact ih64 (k + 1) _ _ _ (by omega) (show 512 - (k + 1) < fu64 from (by omega)) hP hD hS (lv_sub hl [0, 2, 3, 4, 5, 6] rfl)
    | some v_87 =>
      refine ho_tope (y := nI v_87) rfl ?_
      have hv87b := hL9 _ _ hv_87
      refine lv_bipush (v := (-4)) hx hb dX4_together_88 (by decide +kernel) ?_
      refine lv_icmp_eq (tgt := 129) hx hb dX4_together_90 (by decide) (fun z => absurd z (ng_ne (by omega) (by decide +kernel))) (fun _ => ?_)
      refine lv_iload hx hb dX4_together_93 (lv_at hl 0 rfl) ?_
      refine lv_iload_n hx hb dX4_together_95 rfl (lv_at hl 3 rfl) ?_
      refine ho_icmp_gt (tgt := 117) hx hb dX4_together_96 (by decide) (by omega) (by omega) (fun c_96 => ?_) (fun c_96 => ?_)
      · refine lv_iload hx hb dX4_together_117 (lv_at hl 0 rfl) ?_
        refine lv_istore_n (lv' := [(3, .int (nI (pcN k))), (6, .int (nI (pcN k))), (5, .int (nI k)), (4, .int (nI ((tgM (tgL n al t day kn nd mb kd fg 6) k).2))), (0, .ref fo), (1, .ref h), (2, .int (bI pr))]) hx hb dX4_together_119 rfl hl (by decide) rfl (fun ls hl => ?_)
        refine lv_aload_n hx hb dX4_together_120 rfl (lv_at hl 4 rfl) ?_
        refine va_get (D := (dC, dI)) (ci := 4) (v := .ref l3) (C := RX4) (T := TX4) (N := 4) hx hb hts (fun _ h => List.mem_cons_of_mem _ (List.mem_append_left _ (List.mem_append_left _ (List.mem_append_left _ (List.mem_append_left _ (List.mem_append_left _ (List.mem_append_left _ (List.mem_append_left _ (List.mem_append_left _ (List.mem_append_left _ (List.mem_append_right _ h))))))))))) hown hK hP 0 rfl rfl 3 (by decide) (hts (.fieldLink RX4 18 "HoldsOnceDenied$Foresight" "least" "[I") (by decide +kernel)) (fun _ h9 => h9) rfl dX4_together_121 ?_
        refine lv_iload hx hb dX4_together_124 (lv_at hl 2 rfl) ?_
        refine ho_iald (v := nI v_87) hx hb hK hP 3 0 rfl rfl (by omega) (by decide) (show oI ((tgL n al t day kn nd mb kd fg 6) k) = _ by rw [hv_87]; rfl) dX4_together_126 ?_
        refine lv_istore (lv' := [(4, .int (nI v_87)), (3, .int (nI (pcN k))), (6, .int (nI (pcN k))), (5, .int (nI k)), (0, .ref fo), (1, .ref h), (2, .int (bI pr))]) hx hb dX4_together_127 hl (by decide) rfl (fun ls hl => ?_)
        refine ho_iinc (lv' := [(5, .int (nI (k + 1))), (4, .int (nI v_87)), (3, .int (nI (pcN k))), (6, .int (nI (pcN k))), (0, .ref fo), (1, .ref h), (2, .int (bI pr))]) (a := k) (b := 1) hx hb dX4_together_129 hl (k := 3) rfl rfl (by decide) rfl (fun ls hl => ?_)
        refine lv_goto (tgt := 64) hx hb dX4_together_132 (by decide) ?_
        have e9_3 : pcN k = (tgM (tgL n al t day kn nd mb kd fg 6) (k + 1)).1 := by first | exact congrArg Prod.fst (tgM_n hv_87) | exact congrArg Prod.fst (tgM_t hv_87 (Or.inl c_96)) | exact congrArg Prod.fst (tgM_t hv_87 (Or.inr ⟨c_102, c_114⟩)) | exact congrArg Prod.fst (tgM_f hv_87 (fun h9 => by rcases h9 with h9 | h9 <;> omega))
        rw [e9_3] at hl
        have e9_4 : v_87 = (tgM (tgL n al t day kn nd mb kd fg 6) (k + 1)).2 := by first | exact congrArg Prod.snd (tgM_n hv_87) | exact congrArg Prod.snd (tgM_t hv_87 (Or.inl c_96)) | exact congrArg Prod.snd (tgM_t hv_87 (Or.inr ⟨c_102, c_114⟩)) | exact congrArg Prod.snd (tgM_f hv_87 (fun h9 => by rcases h9 with h9 | h9 <;> omega))
        rw [e9_4] at hl
        exact ih64 (k + 1) _ _ _ (by omega) (show 512 - (k + 1) < fu64 from (by omega)) hP hD hS (lv_sub hl [0, 1, 2, 4, 5, 6] rfl)
      refine lv_iload hx hb dX4_together_99 (lv_at hl 0 rfl) ?_
      refine lv_iload_n hx hb dX4_together_101 rfl (lv_at hl 3 rfl) ?_
      refine ho_icmp_ne (tgt := 129) hx hb dX4_together_102 (by decide) (by omega) (by omega) (fun c_102 => ?_) (fun c_102 => ?_)
      · refine ho_iinc (lv' := [(5, .int (nI (k + 1))), (6, .int (nI (pcN k))), (4, .int (nI ((tgM (tgL n al t day kn nd mb kd fg 6) k).2))), (3, .int (nI ((tgM (tgL n al t day kn nd mb kd fg 6) k).1))), (0, .ref fo), (1, .ref h), (2, .int (bI pr))]) (a := k) (b := 1) hx hb dX4_together_129 hl (k := 1) rfl rfl (by decide) rfl (fun ls hl => ?_)
        refine lv_goto (tgt := 64) hx hb dX4_together_132 (by decide) ?_
        have e9_3 : (tgM (tgL n al t day kn nd mb kd fg 6) k).1 = (tgM (tgL n al t day kn nd mb kd fg 6) (k + 1)).1 := by first | exact congrArg Prod.fst (tgM_n hv_87) | exact congrArg Prod.fst (tgM_t hv_87 (Or.inl c_96)) | exact congrArg Prod.fst (tgM_t hv_87 (Or.inr ⟨c_102, c_114⟩)) | exact congrArg Prod.fst (tgM_f hv_87 (fun h9 => by rcases h9 with h9 | h9 <;> omega))
        rw [e9_3] at hl
        have e9_4 : (tgM (tgL n al t day kn nd mb kd fg 6) k).2 = (tgM (tgL n al t day kn nd mb kd fg 6) (k + 1)).2 := by first | exact congrArg Prod.snd (tgM_n hv_87) | exact congrArg Prod.snd (tgM_t hv_87 (Or.inl c_96)) | exact congrArg Prod.snd (tgM_t hv_87 (Or.inr ⟨c_102, c_114⟩)) | exact congrArg Prod.snd (tgM_f hv_87 (fun h9 => by rcases h9 with h9 | h9 <;> omega))
        rw [e9_4] at hl
        exact ih64 (k + 1) _ _ _ (by omega) (show 512 - (k + 1) < fu64 from (by omega)) hP hD hS (lv_sub hl [0, 2, 3, 4, 5, 6] rfl)
      refine lv_aload_n hx hb dX4_together_105 rfl (lv_at hl 4 rfl) ?_
      refine va_get (D := (dC, dI)) (ci := 4) (v := .ref l3) (C := RX4) (T := TX4) (N := 4) hx hb hts (fun _ h => List.mem_cons_of_mem _ (List.mem_append_left _ (List.mem_append_left _ (List.mem_append_left _ (List.mem_append_left _ (List.mem_append_left _ (List.mem_append_left _ (List.mem_append_left _ (List.mem_append_left _ (List.mem_append_left _ (List.mem_append_right _ h))))))))))) hown hK hP 0 rfl rfl 3 (by decide) (hts (.fieldLink RX4 18 "HoldsOnceDenied$Foresight" "least" "[I") (by decide +kernel)) (fun _ h9 => h9) rfl dX4_together_106 ?_
      refine lv_iload hx hb dX4_together_109 (lv_at hl 1 rfl) ?_
      refine ho_iald (v := nI v_87) hx hb hK hP 3 0 rfl rfl (by omega) (by decide) (show oI ((tgL n al t day kn nd mb kd fg 6) k) = _ by rw [hv_87]; rfl) dX4_together_111 ?_
      refine lv_iload hx hb dX4_together_112 (lv_at hl 2 rfl) ?_
      refine ho_icmp_ge (tgt := 129) hx hb dX4_together_114 (by decide) (by omega) (by omega) (fun c_114 => ?_) (fun c_114 => ?_)
      · refine ho_iinc (lv' := [(5, .int (nI (k + 1))), (6, .int (nI (pcN k))), (4, .int (nI ((tgM (tgL n al t day kn nd mb kd fg 6) k).2))), (3, .int (nI ((tgM (tgL n al t day kn nd mb kd fg 6) k).1))), (0, .ref fo), (1, .ref h), (2, .int (bI pr))]) (a := k) (b := 1) hx hb dX4_together_129 hl (k := 1) rfl rfl (by decide) rfl (fun ls hl => ?_)
        refine lv_goto (tgt := 64) hx hb dX4_together_132 (by decide) ?_
        have e9_3 : (tgM (tgL n al t day kn nd mb kd fg 6) k).1 = (tgM (tgL n al t day kn nd mb kd fg 6) (k + 1)).1 := by first | exact congrArg Prod.fst (tgM_n hv_87) | exact congrArg Prod.fst (tgM_t hv_87 (Or.inl c_96)) | exact congrArg Prod.fst (tgM_t hv_87 (Or.inr ⟨c_102, c_114⟩)) | exact congrArg Prod.fst (tgM_f hv_87 (fun h9 => by rcases h9 with h9 | h9 <;> omega))
        rw [e9_3] at hl
        have e9_4 : (tgM (tgL n al t day kn nd mb kd fg 6) k).2 = (tgM (tgL n al t day kn nd mb kd fg 6) (k + 1)).2 := by first | exact congrArg Prod.snd (tgM_n hv_87) | exact congrArg Prod.snd (tgM_t hv_87 (Or.inl c_96)) | exact congrArg Prod.snd (tgM_t hv_87 (Or.inr ⟨c_102, c_114⟩)) | exact congrArg Prod.snd (tgM_f hv_87 (fun h9 => by rcases h9 with h9 | h9 <;> omega))
        rw [e9_4] at hl
        exact ih64 (k + 1) _ _ _ (by omega) (show 512 - (k + 1) < fu64 from (by omega)) hP hD hS (lv_sub hl [0, 2, 3, 4, 5, 6] rfl)
      refine lv_iload hx hb dX4_together_117 (lv_at hl 0 rfl) ?_
      refine lv_istore_n (lv' := [(3, .int (nI (pcN k))), (6, .int (nI (pcN k))), (5, .int (nI k)), (4, .int (nI ((tgM (tgL n al t day kn nd mb kd fg 6) k).2))), (0, .ref fo), (1, .ref h), (2, .int (bI pr))]) hx hb dX4_together_119 rfl hl (by decide) rfl (fun ls hl => ?_)
      refine lv_aload_n hx hb dX4_together_120 rfl (lv_at hl 4 rfl) ?_
      refine va_get (D := (dC, dI)) (ci := 4) (v := .ref l3) (C := RX4) (T := TX4) (N := 4) hx hb hts (fun _ h => List.mem_cons_of_mem _ (List.mem_append_left _ (List.mem_append_left _ (List.mem_append_left _ (List.mem_append_left _ (List.mem_append_left _ (List.mem_append_left _ (List.mem_append_left _ (List.mem_append_left _ (List.mem_append_left _ (List.mem_append_right _ h))))))))))) hown hK hP 0 rfl rfl 3 (by decide) (hts (.fieldLink RX4 18 "HoldsOnceDenied$Foresight" "least" "[I") (by decide +kernel)) (fun _ h9 => h9) rfl dX4_together_121 ?_
      refine lv_iload hx hb dX4_together_124 (lv_at hl 2 rfl) ?_
      refine ho_iald (v := nI v_87) hx hb hK hP 3 0 rfl rfl (by omega) (by decide) (show oI ((tgL n al t day kn nd mb kd fg 6) k) = _ by rw [hv_87]; rfl) dX4_together_126 ?_
      refine lv_istore (lv' := [(4, .int (nI v_87)), (3, .int (nI (pcN k))), (6, .int (nI (pcN k))), (5, .int (nI k)), (0, .ref fo), (1, .ref h), (2, .int (bI pr))]) hx hb dX4_together_127 hl (by decide) rfl (fun ls hl => ?_)
      refine ho_iinc (lv' := [(5, .int (nI (k + 1))), (4, .int (nI v_87)), (3, .int (nI (pcN k))), (6, .int (nI (pcN k))), (0, .ref fo), (1, .ref h), (2, .int (bI pr))]) (a := k) (b := 1) hx hb dX4_together_129 hl (k := 3) rfl rfl (by decide) rfl (fun ls hl => ?_)
      refine lv_goto (tgt := 64) hx hb dX4_together_132 (by decide) ?_
      have e9_3 : pcN k = (tgM (tgL n al t day kn nd mb kd fg 6) (k + 1)).1 := by first | exact congrArg Prod.fst (tgM_n hv_87) | exact congrArg Prod.fst (tgM_t hv_87 (Or.inl c_96)) | exact congrArg Prod.fst (tgM_t hv_87 (Or.inr ⟨c_102, c_114⟩)) | exact congrArg Prod.fst (tgM_f hv_87 (fun h9 => by rcases h9 with h9 | h9 <;> omega))
      rw [e9_3] at hl
      have e9_4 : v_87 = (tgM (tgL n al t day kn nd mb kd fg 6) (k + 1)).2 := by first | exact congrArg Prod.snd (tgM_n hv_87) | exact congrArg Prod.snd (tgM_t hv_87 (Or.inl c_96)) | exact congrArg Prod.snd (tgM_t hv_87 (Or.inr ⟨c_102, c_114⟩)) | exact congrArg Prod.snd (tgM_f hv_87 (fun h9 => by rcases h9 with h9 | h9 <;> omega))
      rw [e9_4] at hl
      exact ih64 (k + 1) _ _ _ (by omega) (show 512 - (k + 1) < fu64 from (by omega)) hP hD hS (lv_sub hl [0, 1, 2, 4, 5, 6] rfl)
  refine lv_aload_n hx hb dX4_together_24 rfl (lv_at hl 2 rfl) ?_
  refine lv_iload_n hx hb dX4_together_25 rfl (lv_at hl 0 rfl) ?_
  refine va_csq ((va_runV (As := [.int (nI i)]) (rest := []) ⟨hx, hb, hml, hown, hts⟩ (c_X9_memberAt l dC dI cI cD cR h a1 a2 a3 a4 a5 n d t al day nd mk si kn mb i (by first | omega | assumption | exact gnd _ | exact gkn _ | exact Nat.lt_trans (gkn _) (by decide) | exact Nat.lt_trans (gnd _) (by decide) | exact Nat.lt_of_le_of_lt (pcN_le _) (by decide)) (by first | omega | assumption | exact gnd _ | exact gkn _ | exact Nat.lt_trans (gkn _) (by decide) | exact Nat.lt_trans (gnd _) (by decide) | exact Nat.lt_of_le_of_lt (pcN_le _) (by decide)) (by first | omega | assumption | exact gnd _ | exact gkn _ | exact Nat.lt_trans (gkn _) (by decide) | exact Nat.lt_trans (gnd _) (by decide) | exact Nat.lt_of_le_of_lt (pcN_le _) (by decide)) (by first | omega | assumption | exact gnd _ | exact gkn _ | exact Nat.lt_trans (gkn _) (by decide) | exact Nat.lt_trans (gnd _) (by decide) | exact Nat.lt_of_le_of_lt (pcN_le _) (by decide)) (by first | omega | assumption | exact gnd _ | exact gkn _ | exact Nat.lt_trans (gkn _) (by decide) | exact Nat.lt_trans (gnd _) (by decide) | exact Nat.lt_of_le_of_lt (pcN_le _) (by decide)) gnd gkn (by first | omega | assumption | exact gnd _ | exact gkn _ | exact Nat.lt_trans (gkn _) (by decide) | exact Nat.lt_trans (gnd _) (by decide) | exact Nat.lt_of_le_of_lt (pcN_le _) (by decide))) (cwV 1 hts gX4_together_X9_memberAt rfl rfl rfl (by decide +kernel) ⟨Nat.le_of_ble_eq_true rfl, Nat.le_of_ble_eq_true rfl⟩) (preV_R hCX (va_recv hK hP (ci := 9) (q0 := 4) rfl rfl) ((hP.sub (ws' := (schW cI cD h a1 a2 a3 a4 a5 n d t al day nd mk si kn mb)) [4, 5, 6, 7, 8, 9] rfl))) rfl rfl hl.1 rfl (lv_room (Nat.le_of_ble_eq_true rfl)) dX4_together_26 ⟨Nat.le_of_ble_eq_true (by first | rfl | decide), Nat.le_of_ble_eq_true (by first | rfl | decide)⟩).run) (fun r_26 hr_26 => ?_)
  subst hr_26
  cases hv_26 : mb i with
  | none =>
    refine ho_topr (y := .null) rfl ?_
    refine lv_astoreN (lv' := [(4, .null), (3, .int (nI i)), (0, .ref fo), (1, .ref h), (2, .int (bI pr))]) hx hb dX4_together_29 hl (by decide) rfl (fun ls hl => ?_)
    refine lv_aloadN hx hb dX4_together_31 (lv_at hl 0 rfl) ?_
    refine lv_ifnullN (tgt := 50) hx hb dX4_together_33 (by decide) ?_
    refine ho_iinc (lv' := [(3, .int (nI (i + 1))), (4, .null), (0, .ref fo), (1, .ref h), (2, .int (bI pr))]) (a := i) (b := 1) hx hb dX4_together_50 hl (k := 1) rfl rfl (by decide) rfl (fun ls hl => ?_)
    refine lv_goto (tgt := 18) hx hb dX4_together_53 (by decide) ?_
    have hW9 : ((forW cI fo l1 l2 l3 sa lk ef (tgL n al t day kn nd mb kd fg i)) ++ (schW cI cD h a1 a2 a3 a4 a5 n d t al day nd mk si kn mb) : va_W) = (forW cI fo l1 l2 l3 sa lk ef (tgL n al t day kn nd mb kd fg (i + 1))) ++ (schW cI cD h a1 a2 a3 a4 a5 n d t al day nd mk si kn mb) := by first | rw [tgL_s hv_26] | rw [← tgL_n hv_26]
    rw [hW9] at hP hD
    exact ih18 (i + 1) _ _ _ (by omega) (show 6 - (i + 1) < fu18 from (by omega)) hP hD hS (lv_sub hl [0, 2, 3, 4] rfl)
  | some a_26 =>
    refine ho_topr (y := .ref a_26) rfl ?_
    have hda_26 : a_26 ∈ DL := gmb _ _ hv_26
    refine lv_astore (lv' := [(4, .ref a_26), (3, .int (nI i)), (0, .ref fo), (1, .ref h), (2, .int (bI pr))]) hx hb dX4_together_29 hl (by decide) rfl (fun ls hl => ?_)
    refine lv_aload hx hb dX4_together_31 (lv_at hl 0 rfl) ?_
    refine lv_ifnull hx hb dX4_together_33 ?_
    refine lv_aload_n hx hb dX4_together_36 rfl (lv_at hl 2 rfl) ?_
    refine lv_aload_n hx hb dX4_together_37 rfl (lv_at hl 3 rfl) ?_
    refine lv_iload_n hx hb dX4_together_38 rfl (lv_at hl 1 rfl) ?_
    refine vp_callSi ((va_runV (As := [.int (nI i)]) (rest := [.ref fo]) ⟨hx, hb, hml, hown, hts⟩ (c_X9_silencingFor l dC dI cI cD cR h a1 a2 a3 a4 a5 n d t al day nd mk si kn mb i DL kd fg (by first | omega | assumption | exact gnd _ | exact gkn _ | exact Nat.lt_trans (gkn _) (by decide) | exact Nat.lt_trans (gnd _) (by decide) | exact Nat.lt_of_le_of_lt (pcN_le _) (by decide)) (by first | omega | assumption | exact gnd _ | exact gkn _ | exact Nat.lt_trans (gkn _) (by decide) | exact Nat.lt_trans (gnd _) (by decide) | exact Nat.lt_of_le_of_lt (pcN_le _) (by decide)) (by first | omega | assumption | exact gnd _ | exact gkn _ | exact Nat.lt_trans (gkn _) (by decide) | exact Nat.lt_trans (gnd _) (by decide) | exact Nat.lt_of_le_of_lt (pcN_le _) (by decide)) (by first | omega | assumption | exact gnd _ | exact gkn _ | exact Nat.lt_trans (gkn _) (by decide) | exact Nat.lt_trans (gnd _) (by decide) | exact Nat.lt_of_le_of_lt (pcN_le _) (by decide)) (by first | omega | assumption | exact gnd _ | exact gkn _ | exact Nat.lt_trans (gkn _) (by decide) | exact Nat.lt_trans (gnd _) (by decide) | exact Nat.lt_of_le_of_lt (pcN_le _) (by decide)) gnd gkn (by first | omega | assumption | exact gnd _ | exact gkn _ | exact Nat.lt_trans (gkn _) (by decide) | exact Nat.lt_trans (gnd _) (by decide) | exact Nat.lt_of_le_of_lt (pcN_le _) (by decide)) gmb) (cwV 1 hts gX4_together_X9_silencingFor rfl rfl rfl (by decide +kernel) ⟨Nat.le_of_ble_eq_true rfl, Nat.le_of_ble_eq_true rfl⟩) (preV_R hCX (va_recv hK hP (ci := 9) (q0 := 4) rfl rfl) (⟨(hP.sub (ws' := (schW cI cD h a1 a2 a3 a4 a5 n d t al day nd mk si kn mb)) [4, 5, 6, 7, 8, 9] rfl), (DP.keep hDP0 hro hS)⟩)) rfl rfl hl.1 rfl (lv_room (Nat.le_of_ble_eq_true rfl)) dX4_together_39 ⟨Nat.le_of_ble_eq_true (by first | rfl | decide), Nat.le_of_ble_eq_true (by first | rfl | decide)⟩).run) (fun r_39 hr_39 => ?_)
    subst hr_39
    refine lv_aload hx hb dX4_together_42 (lv_at hl 0 rfl) ?_
    refine ho_via (g2 := F0 m 47 ls [.int (nI (asN (kd a_26) (fg a_26))), .int (nI (slN n al t day kn nd mb kd fg i)), .ref fo]) (fun K9 => ?_) ?_
    · obtain ⟨hPa, hka, hfa⟩ := (DP.keep hDP0 hro hS) _ hda_26
      generalize hkk : kd a_26 = kk at hPa hka K9
      generalize hff : fg a_26 = ff at hPa hfa K9
      rcases (show kk = 0 ∨ kk = 1 ∨ kk = 2 ∨ kk = 3 ∨ kk = 4 ∨ kk = 5 ∨ kk = 6 ∨ kk = 7 by omega) with rfl | rfl | rfl | rfl | rfl | rfl | rfl | rfl
      · refine vp_callSi ((va_runV (As := []) (rest := [.int (nI (slN n al t day kn nd mb kd fg i)), .ref fo]) ⟨hx, hb, hml, hown, hts⟩ (c_X2_asks l dC dI cI cD cR a_26) (cwV 0 hts gX4_together_X2_asks rfl rfl rfl (by decide +kernel) ⟨Nat.le_of_ble_eq_true rfl, Nat.le_of_ble_eq_true rfl⟩) (preV_R hCX (va_recv hK hPa (ci := 2) (q0 := 0) rfl rfl) (trivial)) rfl rfl hl.1 rfl (lv_room (Nat.le_of_ble_eq_true rfl)) dX4_together_44 ⟨Nat.le_of_ble_eq_true (by first | rfl | decide), Nat.le_of_ble_eq_true (by first | rfl | decide)⟩).run) (fun r9 hr9 => ?_)
        subst hr9
        exact K9
      · refine vp_callSi ((va_runU (As := []) (rest := [.int (nI (slN n al t day kn nd mb kd fg i)), .ref fo]) ⟨hx, hb, hml, hown, hts⟩ (c_X3_asks_k1 l dC dI cI cD cR a_26 ff) (va_cwO 0 hts gX4_together_X3_asks_u108X3 rfl rfl rfl (b0 := cX2_asks) (m0 := 1) (r0 := (some .int)) (by decide +kernel) (by decide +kernel) ⟨Nat.le_of_ble_eq_true rfl, Nat.le_of_ble_eq_true rfl⟩) (preV_R hCX (va_recv hK hPa (ci := 3) (q0 := 0) rfl rfl) (hPa)) rfl rfl hl.1 rfl (lv_room (Nat.le_of_ble_eq_true rfl)) dX4_together_44 ⟨Nat.le_of_ble_eq_true (by first | rfl | decide), Nat.le_of_ble_eq_true (by first | rfl | decide)⟩).run) (fun r9 hr9 => ?_)
        subst hr9
        exact K9
      · refine vp_callSi ((va_runU (As := []) (rest := [.int (nI (slN n al t day kn nd mb kd fg i)), .ref fo]) ⟨hx, hb, hml, hown, hts⟩ (c_X10_asks_k2 l dC dI cI cD cR a_26 ff) (va_cwO 0 hts gX4_together_X10_asks_u108X10 rfl rfl rfl (b0 := cX2_asks) (m0 := 1) (r0 := (some .int)) (by decide +kernel) (by decide +kernel) ⟨Nat.le_of_ble_eq_true rfl, Nat.le_of_ble_eq_true rfl⟩) (preV_R hCX (va_recv hK hPa (ci := 10) (q0 := 0) rfl rfl) (hPa)) rfl rfl hl.1 rfl (lv_room (Nat.le_of_ble_eq_true rfl)) dX4_together_44 ⟨Nat.le_of_ble_eq_true (by first | rfl | decide), Nat.le_of_ble_eq_true (by first | rfl | decide)⟩).run) (fun r9 hr9 => ?_)
        subst hr9
        exact K9
      · refine vp_callSi ((va_runU (As := []) (rest := [.int (nI (slN n al t day kn nd mb kd fg i)), .ref fo]) ⟨hx, hb, hml, hown, hts⟩ (c_X1_asks l dC dI cI cD cR a_26 ff) (va_cwO 0 hts gX4_together_X1_asks_u108X1 rfl rfl rfl (b0 := cX2_asks) (m0 := 1) (r0 := (some .int)) (by decide +kernel) (by decide +kernel) ⟨Nat.le_of_ble_eq_true rfl, Nat.le_of_ble_eq_true rfl⟩) (preV_R hCX (va_recv hK hPa (ci := 1) (q0 := 0) rfl rfl) (hPa)) rfl rfl hl.1 rfl (lv_room (Nat.le_of_ble_eq_true rfl)) dX4_together_44 ⟨Nat.le_of_ble_eq_true (by first | rfl | decide), Nat.le_of_ble_eq_true (by first | rfl | decide)⟩).run) (fun r9 hr9 => ?_)
        subst hr9
        exact K9
      · refine vp_callSi ((va_runU (As := []) (rest := [.int (nI (slN n al t day kn nd mb kd fg i)), .ref fo]) ⟨hx, hb, hml, hown, hts⟩ (c_X5_asks_k4 l dC dI cI cD cR a_26 ff) (va_cwO 0 hts gX4_together_X5_asks_u108X5 rfl rfl rfl (b0 := cX2_asks) (m0 := 1) (r0 := (some .int)) (by decide +kernel) (by decide +kernel) ⟨Nat.le_of_ble_eq_true rfl, Nat.le_of_ble_eq_true rfl⟩) (preV_R hCX (va_recv hK hPa (ci := 5) (q0 := 0) rfl rfl) (hPa)) rfl rfl hl.1 rfl (lv_room (Nat.le_of_ble_eq_true rfl)) dX4_together_44 ⟨Nat.le_of_ble_eq_true (by first | rfl | decide), Nat.le_of_ble_eq_true (by first | rfl | decide)⟩).run) (fun r9 hr9 => ?_)
        subst hr9
        exact K9
      · refine vp_callSi ((va_runU (As := []) (rest := [.int (nI (slN n al t day kn nd mb kd fg i)), .ref fo]) ⟨hx, hb, hml, hown, hts⟩ (c_X6_asks l dC dI cI cD cR a_26 ff) (va_cwO 0 hts gX4_together_X6_asks_u108X6 rfl rfl rfl (b0 := cX2_asks) (m0 := 1) (r0 := (some .int)) (by decide +kernel) (by decide +kernel) ⟨Nat.le_of_ble_eq_true rfl, Nat.le_of_ble_eq_true rfl⟩) (preV_R hCX (va_recv hK hPa (ci := 6) (q0 := 0) rfl rfl) (hPa)) rfl rfl hl.1 rfl (lv_room (Nat.le_of_ble_eq_true rfl)) dX4_together_44 ⟨Nat.le_of_ble_eq_true (by first | rfl | decide), Nat.le_of_ble_eq_true (by first | rfl | decide)⟩).run) (fun r9 hr9 => ?_)
        subst hr9
        exact K9
      · refine vp_callSi ((va_runU (As := []) (rest := [.int (nI (slN n al t day kn nd mb kd fg i)), .ref fo]) ⟨hx, hb, hml, hown, hts⟩ (c_X7_asks l dC dI cI cD cR a_26 ff) (va_cwO 0 hts gX4_together_X7_asks_u108X7 rfl rfl rfl (b0 := cX2_asks) (m0 := 1) (r0 := (some .int)) (by decide +kernel) (by decide +kernel) ⟨Nat.le_of_ble_eq_true rfl, Nat.le_of_ble_eq_true rfl⟩) (preV_R hCX (va_recv hK hPa (ci := 7) (q0 := 0) rfl rfl) (hPa)) rfl rfl hl.1 rfl (lv_room (Nat.le_of_ble_eq_true rfl)) dX4_together_44 ⟨Nat.le_of_ble_eq_true (by first | rfl | decide), Nat.le_of_ble_eq_true (by first | rfl | decide)⟩).run) (fun r9 hr9 => ?_)
        subst hr9
        exact K9
      · refine vp_callSi ((va_runU (As := []) (rest := [.int (nI (slN n al t day kn nd mb kd fg i)), .ref fo]) ⟨hx, hb, hml, hown, hts⟩ (c_X0_asks l dC dI cI cD cR a_26 ff (by first | omega | assumption | exact gnd _ | exact gkn _ | exact Nat.lt_trans (gkn _) (by decide) | exact Nat.lt_trans (gnd _) (by decide) | exact Nat.lt_of_le_of_lt (pcN_le _) (by decide))) (va_cwO 0 hts gX4_together_X0_asks_u108X0 rfl rfl rfl (b0 := cX2_asks) (m0 := 1) (r0 := (some .int)) (by decide +kernel) (by decide +kernel) ⟨Nat.le_of_ble_eq_true rfl, Nat.le_of_ble_eq_true rfl⟩) (preV_R hCX (va_recv hK hPa (ci := 0) (q0 := 0) rfl rfl) (hPa)) rfl rfl hl.1 rfl (lv_room (Nat.le_of_ble_eq_true rfl)) dX4_together_44 ⟨Nat.le_of_ble_eq_true (by first | rfl | decide), Nat.le_of_ble_eq_true (by first | rfl | decide)⟩).run) (fun r9 hr9 => ?_)
        subst hr9
        exact K9
    have hPc := hP.sub (ws' := (forW cI fo l1 l2 l3 sa lk ef (tgL n al t day kn nd mb kd fg i))) [0, 1, 2, 3] rfl
    have hDc := hD.sub (ws' := (forW cI fo l1 l2 l3 sa lk ef (tgL n al t day kn nd mb kd fg i))) [0, 1, 2, 3] (by decide) rfl
    have hFc := va_free (wc := (forW cI fo l1 l2 l3 sa lk ef (tgL n al t day kn nd mb kd fg i))) hD hS hA [0, 1, 2, 3] rfl
    refine va_callv (va_runV (As := [.int (nI (slN n al t day kn nd mb kd fg i)), .int (nI (asN (kd a_26) (fg a_26)))]) (rest := []) ⟨hx, hb, hml, hown, hts⟩ (c_X4_letOneJoin l dC dI cI cD cR fo l1 l2 l3 sa lk ef (tgL n al t day kn nd mb kd fg i) (slN n al t day kn nd mb kd fg i) (asN (kd a_26) (fg a_26)) H.size (slN_lt hn) (asN_le (hfg _ _ hv_26)) (fun i9 v9 h9 => Nat.lt_of_lt_of_le (tgL_lt hfg i i9 v9 h9) (by omega))) (cwV 2 hts gX4_together_X4_letOneJoin rfl rfl rfl (by decide +kernel) ⟨Nat.le_of_ble_eq_true rfl, Nat.le_of_ble_eq_true rfl⟩) (preV_R hCX (va_recv hK hP (ci := 4) (q0 := 0) rfl rfl) ⟨rfl, hPc, hDc.weaken (fun _ _ _ _ => trivial)⟩) rfl rfl hl.1 rfl (lv_room (Nat.le_of_ble_eq_true rfl)) dX4_together_47 ⟨Nat.le_of_ble_eq_true (by first | rfl | decide), Nat.le_of_ble_eq_true (by first | rfl | decide)⟩) hS (fun q _ h => hFc q h) hFc (fun u T8 H1 locs hT8 hvm hw hB hz1 hk1 hS => ?_)
    obtain ⟨hP1, hD1⟩ := hB
    rw [hT8] at hP1
    obtain ⟨hP, hD⟩ := va_join (wr := (schW cI cD h a1 a2 a3 a4 a5 n d t al day nd mk si kn mb)) (w1 := (forW cI fo l1 l2 l3 sa lk ef (ljD (slN n al t day kn nd mb kd fg i) (asN (kd a_26) (fg a_26)) (tgL n al t day kn nd mb kd fg i) 512))) hP hD [0, 1, 2, 3] [4, 5, 6, 7, 8, 9] rfl rfl (by decide) (by decide) hk1 hFc hP1 hD1
    generalize H1 = H at hP hS ⊢
    have hP := hP.sub (ws' := (forW cI fo l1 l2 l3 sa lk ef (ljD (slN n al t day kn nd mb kd fg i) (asN (kd a_26) (fg a_26)) (tgL n al t day kn nd mb kd fg i) 512)) ++ (schW cI cD h a1 a2 a3 a4 a5 n d t al day nd mk si kn mb)) [6, 7, 8, 9, 0, 1, 2, 3, 4, 5] rfl
    have hD := hD.sub (ws' := (forW cI fo l1 l2 l3 sa lk ef (ljD (slN n al t day kn nd mb kd fg i) (asN (kd a_26) (fg a_26)) (tgL n al t day kn nd mb kd fg i) 512)) ++ (schW cI cD h a1 a2 a3 a4 a5 n d t al day nd mk si kn mb)) [6, 7, 8, 9, 0, 1, 2, 3, 4, 5] (by decide) rfl
    refine ho_iinc (lv' := [(3, .int (nI (i + 1))), (4, .ref a_26), (0, .ref fo), (1, .ref h), (2, .int (bI pr))]) (a := i) (b := 1) hx hb dX4_together_50 hl (k := 1) rfl rfl (by decide) rfl (fun ls hl => ?_)
    refine lv_goto (tgt := 18) hx hb dX4_together_53 (by decide) ?_
    have hW9 : ((forW cI fo l1 l2 l3 sa lk ef (ljD (slN n al t day kn nd mb kd fg i) (asN (kd a_26) (fg a_26)) (tgL n al t day kn nd mb kd fg i) 512)) ++ (schW cI cD h a1 a2 a3 a4 a5 n d t al day nd mk si kn mb) : va_W) = (forW cI fo l1 l2 l3 sa lk ef (tgL n al t day kn nd mb kd fg (i + 1))) ++ (schW cI cD h a1 a2 a3 a4 a5 n d t al day nd mk si kn mb) := by first | rw [tgL_s hv_26] | rw [← tgL_n hv_26]
    rw [hW9] at hP hD
    exact ih18 (i + 1) _ _ _ (by omega) (show 6 - (i + 1) < fu18 from (by omega)) hP hD hS (lv_sub hl [0, 2, 3, 4] rfl)
