set_option maxHeartbeats 4000000 in
set_option maxRecDepth 100000 in
theorem c_X12_begins (l : Launch) (dC : Nat → ClassId) (dI : Nat → Nat → Nat) (cI cD cR : ClassId) (y as ai ar am ak ao az ae aq af : Nat) (hi : Bool) (th : Int32) (po ba en an aw ax ap : Nat) (se : Int32) (n d t day al : Nat) (nd : Nat → Nat) (bb oo : Nat → Int32) (K F kn : Nat → Nat) (nM dM tM dayM alM : Nat) (ndM : Nat → Nat) (bbM ooM : Nat → Int32) (KM FM knM : Nat → Nat) (sz : Nat)  : Met l yX12_begins wsX12_begins ({ frames := 1, cells := 0, slots := 0, locals := 22 }) (pcR dC dI cI cD cR [.ref y] (fun H => H.size = sz ∧ va_P (dC, dI) vwCl ([(y, .inr (12, [.ref as, .ref ai, .ref ar, .ref am, .ref ak, .ref ao, .ref az, .ref ae, .ref aq, .ref af, .int (bI hi), .int th, .int (nI po), .int (nI ba), .int (nI en), .ref an, .ref aw, .ref ax, .ref ap, .int se]))] ++ [(as, .inl (cI, 53, .inl (sF n d t day al nd bb oo K F kn)))] ++ [(am, .inl (cI, 53, .inl (sF nM dM tM dayM alM ndM bbM ooM KM FM knM)))]) H ∧ va_D (fun _ => True) ([(y, .inr (12, [.ref as, .ref ai, .ref ar, .ref am, .ref ak, .ref ao, .ref az, .ref ae, .ref aq, .ref af, .int (bI hi), .int th, .int (nI po), .int (nI ba), .int (nI en), .ref an, .ref aw, .ref ax, .ref ap, .int se]))] ++ [(as, .inl (cI, 53, .inl (sF n d t day al nd bb oo K F kn)))] ++ [(am, .inl (cI, 53, .inl (sF nM dM tM dayM alM ndM bbM ooM KM FM knM)))]))) (va_Qv (fun (_ : Unit) => True) (fun (_ : Unit) T9 => va_P (dC, dI) vwCl ([(y, .inr (12, [.ref as, .ref ai, .ref ar, .ref am, .ref ak, .ref ao, .ref az, .ref ae, .ref aq, .ref af, .int (bI hi), .int th, .int (nI po), .int (nI ba), .int (nI en), .ref an, .ref aw, .ref ax, .ref ap, .int se]))] ++ [(as, .inl (cI, 53, .inl (sF n d t day al nd bb oo K F kn)))] ++ [(am, .inl (cI, 53, .inl (sF n d t day al nd bb oo K F kn)))]) T9.heap ∧ va_D (va_A ([(y, .inr (12, [.ref as, .ref ai, .ref ar, .ref am, .ref ak, .ref ao, .ref az, .ref ae, .ref aq, .ref af, .int (bI hi), .int th, .int (nI po), .int (nI ba), .int (nI en), .ref an, .ref aw, .ref ax, .ref ap, .int se]))] ++ [(as, .inl (cI, 53, .inl (sF n d t day al nd bb oo K F kn)))] ++ [(am, .inl (cI, 53, .inl (sF nM dM tM dayM alM ndM bbM ooM KM FM knM)))]) sz) ([(y, .inr (12, [.ref as, .ref ai, .ref ar, .ref am, .ref ak, .ref ao, .ref az, .ref ae, .ref aq, .ref af, .int (bI hi), .int th, .int (nI po), .int (nI ba), .int (nI en), .ref an, .ref aw, .ref ax, .ref ap, .int se]))] ++ [(as, .inl (cI, 53, .inl (sF n d t day al nd bb oo K F kn)))] ++ [(am, .inl (cI, 53, .inl (sF n d t day al nd bb oo K F kn)))])) (va_A ([(y, .inr (12, [.ref as, .ref ai, .ref ar, .ref am, .ref ak, .ref ao, .ref az, .ref ae, .ref aq, .ref af, .int (bI hi), .int th, .int (nI po), .int (nI ba), .int (nI en), .ref an, .ref aw, .ref ax, .ref ap, .int se]))] ++ [(as, .inl (cI, 53, .inl (sF n d t day al nd bb oo K F kn)))] ++ [(am, .inl (cI, 53, .inl (sF nM dM tM dayM alM ndM bbM ooM KM FM knM)))]) sz)) 0 0 (va_A ([(y, .inr (12, [.ref as, .ref ai, .ref ar, .ref am, .ref ak, .ref ao, .ref az, .ref ae, .ref aq, .ref af, .int (bI hi), .int th, .int (nI po), .int (nI ba), .int (nI en), .ref an, .ref aw, .ref ax, .ref ap, .int se]))] ++ [(as, .inl (cI, 53, .inl (sF n d t day al nd bb oo K F kn)))] ++ [(am, .inl (cI, 53, .inl (sF nM dM tM dayM alM ndM bbM ooM KM FM knM)))]) sz) := by
  refine Met.ofW (cc := cX12_begins) (maxL := 1) (ret := none) (by decide) rfl ?_
  intro p e s m args below meth c s₁ B hml hv
  obtain ⟨rfl, hH0, hCX⟩ := hv
  have hx := B.exec
  have hb := B.bytes
  have hr := B.returns
  have hts := atoms_spec (ws := wsX12_begins) B.pre
  have hown : s.vm.findClass RX12 = some m.cls := findClass_of_methodNamed B.named
  have hlocks := B.notSynchronized
  have hK := hCX.1
  obtain ⟨hsz, hP, hD0⟩ := hH0
  subst hsz
  have hD := hD0.self (sz := s.heap.size)
  generalize hAe : va_A ([(y, .inr (12, [.ref as, .ref ai, .ref ar, .ref am, .ref ak, .ref ao, .ref az, .ref ae, .ref aq, .ref af, .int (bI hi), .int th, .int (nI po), .int (nI ba), .int (nI en), .ref an, .ref aw, .ref ax, .ref ap, .int se]))] ++ [(as, .inl (cI, 53, .inl (sF n d t day al nd bb oo K F kn)))] ++ [(am, .inl (cI, 53, .inl (sF nM dM tM dayM alM ndM bbM ooM KM FM knM)))]) s.heap.size = A at hD ⊢
  have hA : ∀ q : Nat, s.heap.size ≤ q → A q := fun q h => by rw [← hAe]; exact Or.inr h
  have hS : va_S A s.heap s.heap [] := va_S.rf
  have hP : va_P (dC, dI) vwCl ([(y, .inr (12, [.ref as, .ref ai, .ref ar, .ref am, .ref ak, .ref ao, .ref az, .ref ae, .ref aq, .ref af, .int (bI hi), .int th, .int (nI po), .int (nI ba), .int (nI en), .ref an, .ref aw, .ref ax, .ref ap, .int se]))] ++ [(as, .inl (cI, 53, .inl (sF n d t day al nd bb oo K F kn)))] ++ [(am, .inl (cI, 53, .inl (sF nM dM tM dayM alM ndM bbM ooM KM FM knM)))]) s.heap := hP
  have hl := lv_entry ([.ref y]) (n := 1) (Nat.le_of_ble_eq_true rfl)
  rw [lg_entry_eq]
  generalize (lg_sl ([.ref y]) ++ List.replicate (1 - (lg_sl ([.ref y])).length) Slot.unset).toArray = ls at hl ⊢
  have hl : lv_has ls 1 [(0, .ref y)] := hl
  refine lv_aload_n hx hb dX12_begins_0 rfl (lv_at hl 0 rfl) ?_
  refine va_get (D := (dC, dI)) (ci := 12) (v := .ref as) (C := RX12) (T := TX12) (N := 20) hx hb hts (fun _ h => List.mem_cons_of_mem _ (List.mem_append_right _ h)) hown hK hP 0 rfl rfl 0 (by decide) (hts (.fieldLink RX12 9 "HoldsOnceDeniedModel" "s" "[I") (by decide +kernel)) (fun _ h9 => h9) rfl dX12_begins_1 ?_
  refine lv_aload_n hx hb dX12_begins_4 rfl (lv_at hl 0 rfl) ?_
  refine va_get (D := (dC, dI)) (ci := 12) (v := .ref am) (C := RX12) (T := TX12) (N := 20) hx hb hts (fun _ h => List.mem_cons_of_mem _ (List.mem_append_right _ h)) hown hK hP 0 rfl rfl 3 (by decide) (hts (.fieldLink RX12 19 "HoldsOnceDeniedModel" "mind" "[I") (by decide +kernel)) (fun _ h9 => h9) rfl dX12_begins_5 ?_
  have hPc := hP.sub (ws' := [(as, .inl (cI, 53, .inl (sF n d t day al nd bb oo K F kn)))] ++ [(am, .inl (cI, 53, .inl (sF nM dM tM dayM alM ndM bbM ooM KM FM knM)))]) [1, 2] rfl
  have hDc := hD.sub (ws' := [(as, .inl (cI, 53, .inl (sF n d t day al nd bb oo K F kn)))] ++ [(am, .inl (cI, 53, .inl (sF nM dM tM dayM alM ndM bbM ooM KM FM knM)))]) [1, 2] (by decide) rfl
  have hFc := va_free (wc := [(as, .inl (cI, 53, .inl (sF n d t day al nd bb oo K F kn)))] ++ [(am, .inl (cI, 53, .inl (sF nM dM tM dayM alM ndM bbM ooM KM FM knM)))]) hD hS hA [1, 2] rfl
  refine va_callv (va_runS (As := [.ref as, .ref am]) (rest := []) ⟨hx, hb, hml, hown, hts⟩ (c_X12_lays l dC dI cI cD cR as am n d t day al nd bb oo K F kn nM dM tM dayM alM ndM bbM ooM KM FM knM s.heap.size) (va_cwS 2 hts gX12_begins_X12_lays rfl rfl rfl (by decide +kernel) ⟨Nat.le_of_ble_eq_true rfl, Nat.le_of_ble_eq_true rfl⟩) (preS_R hCX ⟨rfl, hPc, hDc.weaken (fun _ _ _ _ => trivial)⟩) rfl rfl hl.1 rfl (lv_room (Nat.le_of_ble_eq_true rfl)) dX12_begins_8 ⟨Nat.le_of_ble_eq_true (by first | rfl | decide), Nat.le_of_ble_eq_true (by first | rfl | decide)⟩) hS (fun q _ h => hFc q h) hFc (fun u T8 H1 locs hT8 hvm hw hB hz1 hk1 hS => ?_)
  obtain ⟨hP1, hD1⟩ := hB
  rw [hT8] at hP1
  obtain ⟨hP, hD⟩ := va_join (wr := [(y, .inr (12, [.ref as, .ref ai, .ref ar, .ref am, .ref ak, .ref ao, .ref az, .ref ae, .ref aq, .ref af, .int (bI hi), .int th, .int (nI po), .int (nI ba), .int (nI en), .ref an, .ref aw, .ref ax, .ref ap, .int se]))]) (w1 := [(as, .inl (cI, 53, .inl (sF n d t day al nd bb oo K F kn)))] ++ [(am, .inl (cI, 53, .inl (sF n d t day al nd bb oo K F kn)))]) hP hD [1, 2] [0] rfl rfl (by decide) (by decide) hk1 hFc hP1 hD1
  generalize H1 = H at hP hS ⊢
  have hP : va_P (dC, dI) vwCl ([(y, .inr (12, [.ref as, .ref ai, .ref ar, .ref am, .ref ak, .ref ao, .ref az, .ref ae, .ref aq, .ref af, .int (bI hi), .int th, .int (nI po), .int (nI ba), .int (nI en), .ref an, .ref aw, .ref ax, .ref ap, .int se]))] ++ [(as, .inl (cI, 53, .inl (sF n d t day al nd bb oo K F kn)))] ++ [(am, .inl (cI, 53, .inl (sF n d t day al nd bb oo K F kn)))]) H := hP
  have hD : va_D A ([(y, .inr (12, [.ref as, .ref ai, .ref ar, .ref am, .ref ak, .ref ao, .ref az, .ref ae, .ref aq, .ref af, .int (bI hi), .int th, .int (nI po), .int (nI ba), .int (nI en), .ref an, .ref aw, .ref ax, .ref ap, .int se]))] ++ [(as, .inl (cI, 53, .inl (sF n d t day al nd bb oo K F kn)))] ++ [(am, .inl (cI, 53, .inl (sF n d t day al nd bb oo K F kn)))]) := hD
  exact W.vret hx hb hr (fun T9 hT9 hW9 => ⟨⟨(), rfl, trivial, by rw [hT9]; exact hP, hD⟩, hS.F hT9⟩) hS.2.2 dX12_begins_11
set_option maxHeartbeats 4000000 in
set_option maxRecDepth 100000 in
theorem c_X12_ends (l : Launch) (dC : Nat → ClassId) (dI : Nat → Nat → Nat) (cI cD cR : ClassId) (y as ai ar am ak ao az ae aq af : Nat) (hi : Bool) (th : Int32) (po ba en an aw ax ap : Nat) (se : Int32) (n d t day al : Nat) (nd : Nat → Nat) (bb oo : Nat → Int32) (K F kn : Nat → Nat) (nM dM tM dayM alM : Nat) (ndM : Nat → Nat) (bbM ooM : Nat → Int32) (KM FM knM : Nat → Nat) (sz : Nat)  : Met l yX12_ends wsX12_ends ({ frames := 1, cells := 0, slots := 0, locals := 22 }) (pcR dC dI cI cD cR [.ref y] (fun H => H.size = sz ∧ va_P (dC, dI) vwCl ([(y, .inr (12, [.ref as, .ref ai, .ref ar, .ref am, .ref ak, .ref ao, .ref az, .ref ae, .ref aq, .ref af, .int (bI hi), .int th, .int (nI po), .int (nI ba), .int (nI en), .ref an, .ref aw, .ref ax, .ref ap, .int se]))] ++ [(as, .inl (cI, 53, .inl (sF n d t day al nd bb oo K F kn)))] ++ [(am, .inl (cI, 53, .inl (sF nM dM tM dayM alM ndM bbM ooM KM FM knM)))]) H ∧ va_D (fun _ => True) ([(y, .inr (12, [.ref as, .ref ai, .ref ar, .ref am, .ref ak, .ref ao, .ref az, .ref ae, .ref aq, .ref af, .int (bI hi), .int th, .int (nI po), .int (nI ba), .int (nI en), .ref an, .ref aw, .ref ax, .ref ap, .int se]))] ++ [(as, .inl (cI, 53, .inl (sF n d t day al nd bb oo K F kn)))] ++ [(am, .inl (cI, 53, .inl (sF nM dM tM dayM alM ndM bbM ooM KM FM knM)))]))) (va_Qv (fun (_ : Unit) => True) (fun (_ : Unit) T9 => va_P (dC, dI) vwCl ([(y, .inr (12, [.ref as, .ref ai, .ref ar, .ref am, .ref ak, .ref ao, .ref az, .ref ae, .ref aq, .ref af, .int (bI hi), .int th, .int (nI po), .int (nI ba), .int (nI en), .ref an, .ref aw, .ref ax, .ref ap, .int se]))] ++ [(as, .inl (cI, 53, .inl (sF nM dM tM dayM alM ndM bbM ooM KM FM knM)))] ++ [(am, .inl (cI, 53, .inl (sF nM dM tM dayM alM ndM bbM ooM KM FM knM)))]) T9.heap ∧ va_D (va_A ([(y, .inr (12, [.ref as, .ref ai, .ref ar, .ref am, .ref ak, .ref ao, .ref az, .ref ae, .ref aq, .ref af, .int (bI hi), .int th, .int (nI po), .int (nI ba), .int (nI en), .ref an, .ref aw, .ref ax, .ref ap, .int se]))] ++ [(as, .inl (cI, 53, .inl (sF n d t day al nd bb oo K F kn)))] ++ [(am, .inl (cI, 53, .inl (sF nM dM tM dayM alM ndM bbM ooM KM FM knM)))]) sz) ([(y, .inr (12, [.ref as, .ref ai, .ref ar, .ref am, .ref ak, .ref ao, .ref az, .ref ae, .ref aq, .ref af, .int (bI hi), .int th, .int (nI po), .int (nI ba), .int (nI en), .ref an, .ref aw, .ref ax, .ref ap, .int se]))] ++ [(as, .inl (cI, 53, .inl (sF nM dM tM dayM alM ndM bbM ooM KM FM knM)))] ++ [(am, .inl (cI, 53, .inl (sF nM dM tM dayM alM ndM bbM ooM KM FM knM)))])) (va_A ([(y, .inr (12, [.ref as, .ref ai, .ref ar, .ref am, .ref ak, .ref ao, .ref az, .ref ae, .ref aq, .ref af, .int (bI hi), .int th, .int (nI po), .int (nI ba), .int (nI en), .ref an, .ref aw, .ref ax, .ref ap, .int se]))] ++ [(as, .inl (cI, 53, .inl (sF n d t day al nd bb oo K F kn)))] ++ [(am, .inl (cI, 53, .inl (sF nM dM tM dayM alM ndM bbM ooM KM FM knM)))]) sz)) 0 0 (va_A ([(y, .inr (12, [.ref as, .ref ai, .ref ar, .ref am, .ref ak, .ref ao, .ref az, .ref ae, .ref aq, .ref af, .int (bI hi), .int th, .int (nI po), .int (nI ba), .int (nI en), .ref an, .ref aw, .ref ax, .ref ap, .int se]))] ++ [(as, .inl (cI, 53, .inl (sF n d t day al nd bb oo K F kn)))] ++ [(am, .inl (cI, 53, .inl (sF nM dM tM dayM alM ndM bbM ooM KM FM knM)))]) sz) := by
  refine Met.ofW (cc := cX12_ends) (maxL := 1) (ret := none) (by decide) rfl ?_
  intro p e s m args below meth c s₁ B hml hv
  obtain ⟨rfl, hH0, hCX⟩ := hv
  have hx := B.exec
  have hb := B.bytes
  have hr := B.returns
  have hts := atoms_spec (ws := wsX12_ends) B.pre
  have hown : s.vm.findClass RX12 = some m.cls := findClass_of_methodNamed B.named
  have hlocks := B.notSynchronized
  have hK := hCX.1
  obtain ⟨hsz, hP, hD0⟩ := hH0
  subst hsz
  have hD := hD0.self (sz := s.heap.size)
  generalize hAe : va_A ([(y, .inr (12, [.ref as, .ref ai, .ref ar, .ref am, .ref ak, .ref ao, .ref az, .ref ae, .ref aq, .ref af, .int (bI hi), .int th, .int (nI po), .int (nI ba), .int (nI en), .ref an, .ref aw, .ref ax, .ref ap, .int se]))] ++ [(as, .inl (cI, 53, .inl (sF n d t day al nd bb oo K F kn)))] ++ [(am, .inl (cI, 53, .inl (sF nM dM tM dayM alM ndM bbM ooM KM FM knM)))]) s.heap.size = A at hD ⊢
  have hA : ∀ q : Nat, s.heap.size ≤ q → A q := fun q h => by rw [← hAe]; exact Or.inr h
  have hS : va_S A s.heap s.heap [] := va_S.rf
  have hP : va_P (dC, dI) vwCl ([(y, .inr (12, [.ref as, .ref ai, .ref ar, .ref am, .ref ak, .ref ao, .ref az, .ref ae, .ref aq, .ref af, .int (bI hi), .int th, .int (nI po), .int (nI ba), .int (nI en), .ref an, .ref aw, .ref ax, .ref ap, .int se]))] ++ [(as, .inl (cI, 53, .inl (sF n d t day al nd bb oo K F kn)))] ++ [(am, .inl (cI, 53, .inl (sF nM dM tM dayM alM ndM bbM ooM KM FM knM)))]) s.heap := hP
  have hl := lv_entry ([.ref y]) (n := 1) (Nat.le_of_ble_eq_true rfl)
  rw [lg_entry_eq]
  generalize (lg_sl ([.ref y]) ++ List.replicate (1 - (lg_sl ([.ref y])).length) Slot.unset).toArray = ls at hl ⊢
  have hl : lv_has ls 1 [(0, .ref y)] := hl
  refine lv_aload_n hx hb dX12_ends_0 rfl (lv_at hl 0 rfl) ?_
  refine va_get (D := (dC, dI)) (ci := 12) (v := .ref am) (C := RX12) (T := TX12) (N := 20) hx hb hts (fun _ h => List.mem_cons_of_mem _ (List.mem_append_right _ h)) hown hK hP 0 rfl rfl 3 (by decide) (hts (.fieldLink RX12 19 "HoldsOnceDeniedModel" "mind" "[I") (by decide +kernel)) (fun _ h9 => h9) rfl dX12_ends_1 ?_
  refine lv_aload_n hx hb dX12_ends_4 rfl (lv_at hl 0 rfl) ?_
  refine va_get (D := (dC, dI)) (ci := 12) (v := .ref as) (C := RX12) (T := TX12) (N := 20) hx hb hts (fun _ h => List.mem_cons_of_mem _ (List.mem_append_right _ h)) hown hK hP 0 rfl rfl 0 (by decide) (hts (.fieldLink RX12 9 "HoldsOnceDeniedModel" "s" "[I") (by decide +kernel)) (fun _ h9 => h9) rfl dX12_ends_5 ?_
  have hPc := hP.sub (ws' := [(am, .inl (cI, 53, .inl (sF nM dM tM dayM alM ndM bbM ooM KM FM knM)))] ++ [(as, .inl (cI, 53, .inl (sF n d t day al nd bb oo K F kn)))]) [2, 1] rfl
  have hDc := hD.sub (ws' := [(am, .inl (cI, 53, .inl (sF nM dM tM dayM alM ndM bbM ooM KM FM knM)))] ++ [(as, .inl (cI, 53, .inl (sF n d t day al nd bb oo K F kn)))]) [2, 1] (by decide) rfl
  have hFc := va_free (wc := [(am, .inl (cI, 53, .inl (sF nM dM tM dayM alM ndM bbM ooM KM FM knM)))] ++ [(as, .inl (cI, 53, .inl (sF n d t day al nd bb oo K F kn)))]) hD hS hA [2, 1] rfl
  refine va_callv (va_runS (As := [.ref am, .ref as]) (rest := []) ⟨hx, hb, hml, hown, hts⟩ (c_X12_lays l dC dI cI cD cR am as nM dM tM dayM alM ndM bbM ooM KM FM knM n d t day al nd bb oo K F kn s.heap.size) (va_cwS 2 hts gX12_ends_X12_lays rfl rfl rfl (by decide +kernel) ⟨Nat.le_of_ble_eq_true rfl, Nat.le_of_ble_eq_true rfl⟩) (preS_R hCX ⟨rfl, hPc, hDc.weaken (fun _ _ _ _ => trivial)⟩) rfl rfl hl.1 rfl (lv_room (Nat.le_of_ble_eq_true rfl)) dX12_ends_8 ⟨Nat.le_of_ble_eq_true (by first | rfl | decide), Nat.le_of_ble_eq_true (by first | rfl | decide)⟩) hS (fun q _ h => hFc q h) hFc (fun u T8 H1 locs hT8 hvm hw hB hz1 hk1 hS => ?_)
  obtain ⟨hP1, hD1⟩ := hB
  rw [hT8] at hP1
  obtain ⟨hP, hD⟩ := va_join (wr := [(y, .inr (12, [.ref as, .ref ai, .ref ar, .ref am, .ref ak, .ref ao, .ref az, .ref ae, .ref aq, .ref af, .int (bI hi), .int th, .int (nI po), .int (nI ba), .int (nI en), .ref an, .ref aw, .ref ax, .ref ap, .int se]))]) (w1 := [(am, .inl (cI, 53, .inl (sF nM dM tM dayM alM ndM bbM ooM KM FM knM)))] ++ [(as, .inl (cI, 53, .inl (sF nM dM tM dayM alM ndM bbM ooM KM FM knM)))]) hP hD [2, 1] [0] rfl rfl (by decide) (by decide) hk1 hFc hP1 hD1
  generalize H1 = H at hP hS ⊢
  have hP := hP.sub (ws' := [(y, .inr (12, [.ref as, .ref ai, .ref ar, .ref am, .ref ak, .ref ao, .ref az, .ref ae, .ref aq, .ref af, .int (bI hi), .int th, .int (nI po), .int (nI ba), .int (nI en), .ref an, .ref aw, .ref ax, .ref ap, .int se]))] ++ [(as, .inl (cI, 53, .inl (sF nM dM tM dayM alM ndM bbM ooM KM FM knM)))] ++ [(am, .inl (cI, 53, .inl (sF nM dM tM dayM alM ndM bbM ooM KM FM knM)))]) [0, 2, 1] rfl
  have hD := hD.sub (ws' := [(y, .inr (12, [.ref as, .ref ai, .ref ar, .ref am, .ref ak, .ref ao, .ref az, .ref ae, .ref aq, .ref af, .int (bI hi), .int th, .int (nI po), .int (nI ba), .int (nI en), .ref an, .ref aw, .ref ax, .ref ap, .int se]))] ++ [(as, .inl (cI, 53, .inl (sF nM dM tM dayM alM ndM bbM ooM KM FM knM)))] ++ [(am, .inl (cI, 53, .inl (sF nM dM tM dayM alM ndM bbM ooM KM FM knM)))]) [0, 2, 1] (by decide) rfl
  exact W.vret hx hb hr (fun T9 hT9 hW9 => ⟨⟨(), rfl, trivial, by rw [hT9]; exact hP, hD⟩, hS.F hT9⟩) hS.2.2 dX12_ends_11
set_option maxHeartbeats 4000000 in
set_option maxRecDepth 100000 in
theorem c_X12_everything (l : Launch) (dC : Nat → ClassId) (dI : Nat → Nat → Nat) (cI cD cR : ClassId) (y as ai ar am ak ao az ae aq af : Nat) (hi : Bool) (th : Int32) (po ba en an aw ax ap : Nat) (se : Int32) (n d t day al : Nat) (nd : Nat → Nat) (bb oo : Nat → Int32) (K F kn : Nat → Nat) (hn : n ≤ 9) (hd : d ≤ 7) (ht : t < 512) (hal : al < 128) (hday : day < 2 ^ 30) (gnd : ∀ i, nd i < 512) (gkn : ∀ j, kn j < 512) (gK : ∀ j, K j < 8) (gF : ∀ j, F j < 10) : Met l yX12_everything wsX12_everything ({ frames := 0, cells := 0, slots := 0, locals := 0 }) (pcR dC dI cI cD cR [.ref y] (fun H => va_P (dC, dI) vwCl ([(y, .inr (12, [.ref as, .ref ai, .ref ar, .ref am, .ref ak, .ref ao, .ref az, .ref ae, .ref aq, .ref af, .int (bI hi), .int th, .int (nI po), .int (nI ba), .int (nI en), .ref an, .ref aw, .ref ax, .ref ap, .int se]))] ++ [(as, .inl (cI, 53, .inl (sF n d t day al nd bb oo K F kn)))]) H)) (vp_Si (fun r => r = nI (2 ^ n - 1))) 0 0 (fun _ => False) := by
  refine Met.ofW (cc := cX12_everything) (maxL := 1) (ret := (some .int)) (by decide) rfl ?_
  intro p e s m args below meth c s₁ B hml hv
  obtain ⟨rfl, hH0, hCX⟩ := hv
  have hx := B.exec
  have hb := B.bytes
  have hr := B.returns
  have hts := atoms_spec (ws := wsX12_everything) B.pre
  have hown : s.vm.findClass RX12 = some m.cls := findClass_of_methodNamed B.named
  have hlocks := B.notSynchronized
  have hK := hCX.1
  have hP := hH0
  have hl := lv_entry ([.ref y]) (n := 1) (Nat.le_of_ble_eq_true rfl)
  rw [lg_entry_eq]
  generalize (lg_sl ([.ref y]) ++ List.replicate (1 - (lg_sl ([.ref y])).length) Slot.unset).toArray = ls at hl ⊢
  have hl : lv_has ls 1 [(0, .ref y)] := hl
  refine lv_iconst (v := nI 1) hx hb dX12_everything_0 (by decide +kernel) ?_
  refine lv_aload_n hx hb dX12_everything_1 rfl (lv_at hl 0 rfl) ?_
  refine va_get (D := (dC, dI)) (ci := 12) (v := .ref as) (C := RX12) (T := TX12) (N := 20) hx hb hts (fun _ h => List.mem_cons_of_mem _ (List.mem_append_right _ h)) hown hK hP 0 rfl rfl 0 (by decide) (hts (.fieldLink RX12 9 "HoldsOnceDeniedModel" "s" "[I") (by decide +kernel)) (fun _ h9 => h9) rfl dX12_everything_2 ?_
  refine lv_iconst (v := nI 0) hx hb dX12_everything_5 (by decide +kernel) ?_
  refine ho_iald (v := nI n) hx hb hK hP 1 0 rfl rfl (by omega) (by first | decide | omega) rfl dX12_everything_6 ?_
  refine ho_shl1 hx hb dX12_everything_7 (by omega) ?_
  refine lv_iconst (v := nI 1) hx hb dX12_everything_8 (by decide +kernel) ?_
  refine ho_isub hx hb dX12_everything_9 Nat.one_le_two_pow ?_
  exact W.iret (v := nI ((2 ^ n) - 1)) hx hb hr (fun T9 hT9 hW9 => ⟨_, rfl, (congrArg nI (by simp [*])), hT9⟩) (fun q h => by cases h) dX12_everything_10
set_option maxHeartbeats 4000000 in
set_option maxRecDepth 100000 in
theorem c_X12_isTrue (l : Launch) (dC : Nat → ClassId) (dI : Nat → Nat → Nat) (cI cD cR : ClassId) (y as ai ar am ak ao az ae aq af : Nat) (hi : Bool) (th : Int32) (po ba en an aw ax ap : Nat) (se : Int32) (n d t day al : Nat) (nd : Nat → Nat) (bb oo : Nat → Int32) (K F kn : Nat → Nat) (i : Nat) (hn : n ≤ 9) (hd : d ≤ 7) (ht : t < 512) (hal : al < 128) (hday : day < 2 ^ 30) (gnd : ∀ i, nd i < 512) (gkn : ∀ j, kn j < 512) (gK : ∀ j, K j < 8) (gF : ∀ j, F j < 10) (hi9 : i < 31) : Met l yX12_isTrue wsX12_isTrue ({ frames := 1, cells := 0, slots := 0, locals := 21 }) (pcR dC dI cI cD cR [.ref y, .int (nI i)] (fun H => va_P (dC, dI) vwCl ([(y, .inr (12, [.ref as, .ref ai, .ref ar, .ref am, .ref ak, .ref ao, .ref az, .ref ae, .ref aq, .ref af, .int (bI hi), .int th, .int (nI po), .int (nI ba), .int (nI en), .ref an, .ref aw, .ref ax, .ref ap, .int se]))] ++ [(as, .inl (cI, 53, .inl (sF n d t day al nd bb oo K F kn)))]) H)) (vp_Si (fun r => r = bI (t.testBit i))) 0 0 (fun _ => False) := by
  refine Met.ofW (cc := cX12_isTrue) (maxL := 2) (ret := (some .boolean)) (by decide) rfl ?_
  intro p e s m args below meth c s₁ B hml hv
  obtain ⟨rfl, hH0, hCX⟩ := hv
  have hx := B.exec
  have hb := B.bytes
  have hr := B.returns
  have hts := atoms_spec (ws := wsX12_isTrue) B.pre
  have hown : s.vm.findClass RX12 = some m.cls := findClass_of_methodNamed B.named
  have hlocks := B.notSynchronized
  have hK := hCX.1
  have hP := hH0
  have hl := lv_entry ([.ref y, .int (nI i)]) (n := 2) (Nat.le_of_ble_eq_true rfl)
  rw [lg_entry_eq]
  generalize (lg_sl ([.ref y, .int (nI i)]) ++ List.replicate (2 - (lg_sl ([.ref y, .int (nI i)])).length) Slot.unset).toArray = ls at hl ⊢
  have hl : lv_has ls 2 [(0, .ref y), (1, .int (nI i))] := hl
  refine lv_aload_n hx hb dX12_isTrue_0 rfl (lv_at hl 0 rfl) ?_
  refine va_get (D := (dC, dI)) (ci := 12) (v := .ref as) (C := RX12) (T := TX12) (N := 20) hx hb hts (fun _ h => List.mem_cons_of_mem _ (List.mem_append_right _ h)) hown hK hP 0 rfl rfl 0 (by decide) (hts (.fieldLink RX12 9 "HoldsOnceDeniedModel" "s" "[I") (by decide +kernel)) (fun _ h9 => h9) rfl dX12_isTrue_1 ?_
  refine lv_iconst (v := nI 2) hx hb dX12_isTrue_4 (by decide +kernel) ?_
  refine ho_iald (v := nI t) hx hb hK hP 1 0 rfl rfl (by omega) (by first | decide | omega) rfl dX12_isTrue_5 ?_
  refine lv_iload_n hx hb dX12_isTrue_6 rfl (lv_at hl 1 rfl) ?_
  refine vp_callSi ((va_runS (As := [.int (nI t), .int (nI i)]) (rest := []) ⟨hx, hb, hml, hown, hts⟩ (c_X12_has l dC dI cI cD cR t i (by first | omega | assumption | exact gnd _ | exact gkn _ | exact Nat.lt_trans (gkn _) (by decide) | exact Nat.lt_trans (gnd _) (by decide) | exact Nat.lt_of_le_of_lt (pcN_le _) (by decide)) (by first | omega | assumption | exact gnd _ | exact gkn _ | exact Nat.lt_trans (gkn _) (by decide) | exact Nat.lt_trans (gnd _) (by decide) | exact Nat.lt_of_le_of_lt (pcN_le _) (by decide))) (va_cwS 2 hts gX12_isTrue_X12_has rfl rfl rfl (by decide +kernel) ⟨Nat.le_of_ble_eq_true rfl, Nat.le_of_ble_eq_true rfl⟩) (preS_R hCX (trivial)) rfl rfl hl.1 rfl (lv_room (Nat.le_of_ble_eq_true rfl)) dX12_isTrue_7 ⟨Nat.le_of_ble_eq_true (by first | rfl | decide), Nat.le_of_ble_eq_true (by first | rfl | decide)⟩).run) (fun r_7 hr_7 => ?_)
  subst hr_7
  exact W.zret (v := bI (t.testBit i)) hx hb hr (bI_nar _) (fun T9 hT9 hW9 => ⟨_, rfl, rfl, hT9⟩) (fun q h => by cases h) dX12_isTrue_10
set_option maxHeartbeats 4000000 in
set_option maxRecDepth 100000 in
theorem c_X12_isAlive (l : Launch) (dC : Nat → ClassId) (dI : Nat → Nat → Nat) (cI cD cR : ClassId) (y as ai ar am ak ao az ae aq af : Nat) (hi : Bool) (th : Int32) (po ba en an aw ax ap : Nat) (se : Int32) (n d t day al : Nat) (nd : Nat → Nat) (bb oo : Nat → Int32) (K F kn : Nat → Nat) (j : Nat) (hn : n ≤ 9) (hd : d ≤ 7) (ht : t < 512) (hal : al < 128) (hday : day < 2 ^ 30) (gnd : ∀ i, nd i < 512) (gkn : ∀ j, kn j < 512) (gK : ∀ j, K j < 8) (gF : ∀ j, F j < 10) (hj9 : j < 31) : Met l yX12_isAlive wsX12_isAlive ({ frames := 1, cells := 0, slots := 0, locals := 21 }) (pcR dC dI cI cD cR [.ref y, .int (nI j)] (fun H => va_P (dC, dI) vwCl ([(y, .inr (12, [.ref as, .ref ai, .ref ar, .ref am, .ref ak, .ref ao, .ref az, .ref ae, .ref aq, .ref af, .int (bI hi), .int th, .int (nI po), .int (nI ba), .int (nI en), .ref an, .ref aw, .ref ax, .ref ap, .int se]))] ++ [(as, .inl (cI, 53, .inl (sF n d t day al nd bb oo K F kn)))]) H)) (vp_Si (fun r => r = bI (al.testBit j))) 0 0 (fun _ => False) := by
  refine Met.ofW (cc := cX12_isAlive) (maxL := 2) (ret := (some .boolean)) (by decide) rfl ?_
  intro p e s m args below meth c s₁ B hml hv
  obtain ⟨rfl, hH0, hCX⟩ := hv
  have hx := B.exec
  have hb := B.bytes
  have hr := B.returns
  have hts := atoms_spec (ws := wsX12_isAlive) B.pre
  have hown : s.vm.findClass RX12 = some m.cls := findClass_of_methodNamed B.named
  have hlocks := B.notSynchronized
  have hK := hCX.1
  have hP := hH0
  have hl := lv_entry ([.ref y, .int (nI j)]) (n := 2) (Nat.le_of_ble_eq_true rfl)
  rw [lg_entry_eq]
  generalize (lg_sl ([.ref y, .int (nI j)]) ++ List.replicate (2 - (lg_sl ([.ref y, .int (nI j)])).length) Slot.unset).toArray = ls at hl ⊢
  have hl : lv_has ls 2 [(0, .ref y), (1, .int (nI j))] := hl
  refine lv_aload_n hx hb dX12_isAlive_0 rfl (lv_at hl 0 rfl) ?_
  refine va_get (D := (dC, dI)) (ci := 12) (v := .ref as) (C := RX12) (T := TX12) (N := 20) hx hb hts (fun _ h => List.mem_cons_of_mem _ (List.mem_append_right _ h)) hown hK hP 0 rfl rfl 0 (by decide) (hts (.fieldLink RX12 9 "HoldsOnceDeniedModel" "s" "[I") (by decide +kernel)) (fun _ h9 => h9) rfl dX12_isAlive_1 ?_
  refine lv_iconst (v := nI 4) hx hb dX12_isAlive_4 (by decide +kernel) ?_
  refine ho_iald (v := nI al) hx hb hK hP 1 0 rfl rfl (by omega) (by first | decide | omega) rfl dX12_isAlive_5 ?_
  refine lv_iload_n hx hb dX12_isAlive_6 rfl (lv_at hl 1 rfl) ?_
  refine vp_callSi ((va_runS (As := [.int (nI al), .int (nI j)]) (rest := []) ⟨hx, hb, hml, hown, hts⟩ (c_X12_has l dC dI cI cD cR al j (by first | omega | assumption | exact gnd _ | exact gkn _ | exact Nat.lt_trans (gkn _) (by decide) | exact Nat.lt_trans (gnd _) (by decide) | exact Nat.lt_of_le_of_lt (pcN_le _) (by decide)) (by first | omega | assumption | exact gnd _ | exact gkn _ | exact Nat.lt_trans (gkn _) (by decide) | exact Nat.lt_trans (gnd _) (by decide) | exact Nat.lt_of_le_of_lt (pcN_le _) (by decide))) (va_cwS 2 hts gX12_isAlive_X12_has rfl rfl rfl (by decide +kernel) ⟨Nat.le_of_ble_eq_true rfl, Nat.le_of_ble_eq_true rfl⟩) (preS_R hCX (trivial)) rfl rfl hl.1 rfl (lv_room (Nat.le_of_ble_eq_true rfl)) dX12_isAlive_7 ⟨Nat.le_of_ble_eq_true (by first | rfl | decide), Nat.le_of_ble_eq_true (by first | rfl | decide)⟩).run) (fun r_7 hr_7 => ?_)
  subst hr_7
  exact W.zret (v := bI (al.testBit j)) hx hb hr (bI_nar _) (fun T9 hT9 hW9 => ⟨_, rfl, rfl, hT9⟩) (fun q h => by cases h) dX12_isAlive_10
set_option maxHeartbeats 4000000 in
set_option maxRecDepth 100000 in
theorem c_X12_knows (l : Launch) (dC : Nat → ClassId) (dI : Nat → Nat → Nat) (cI cD cR : ClassId) (y as ai ar am ak ao az ae aq af : Nat) (hi : Bool) (th : Int32) (po ba en an aw ax ap : Nat) (se : Int32) (n d t day al : Nat) (nd : Nat → Nat) (bb oo : Nat → Int32) (K F kn : Nat → Nat) (j i : Nat) (hn : n ≤ 9) (hd : d ≤ 7) (ht : t < 512) (hal : al < 128) (hday : day < 2 ^ 30) (gnd : ∀ i, nd i < 512) (gkn : ∀ j, kn j < 512) (gK : ∀ j, K j < 8) (gF : ∀ j, F j < 10) (hj9 : j < 7) (hi9 : i < 31) : Met l yX12_knows wsX12_knows ({ frames := 1, cells := 0, slots := 0, locals := 22 }) (pcR dC dI cI cD cR [.ref y, .int (nI j), .int (nI i)] (fun H => va_P (dC, dI) vwCl ([(y, .inr (12, [.ref as, .ref ai, .ref ar, .ref am, .ref ak, .ref ao, .ref az, .ref ae, .ref aq, .ref af, .int (bI hi), .int th, .int (nI po), .int (nI ba), .int (nI en), .ref an, .ref aw, .ref ax, .ref ap, .int se]))] ++ [(as, .inl (cI, 53, .inl (sF n d t day al nd bb oo K F kn)))]) H)) (vp_Si (fun r => r = bI ((kn j).testBit i))) 0 0 (fun _ => False) := by
  refine Met.ofW (cc := cX12_knows) (maxL := 3) (ret := (some .boolean)) (by decide) rfl ?_
  intro p e s m args below meth c s₁ B hml hv
  obtain ⟨rfl, hH0, hCX⟩ := hv
  have hx := B.exec
  have hb := B.bytes
  have hr := B.returns
  have hts := atoms_spec (ws := wsX12_knows) B.pre
  have hown : s.vm.findClass RX12 = some m.cls := findClass_of_methodNamed B.named
  have hlocks := B.notSynchronized
  have hK := hCX.1
  have hP := hH0
  have hl := lv_entry ([.ref y, .int (nI j), .int (nI i)]) (n := 3) (Nat.le_of_ble_eq_true rfl)
  rw [lg_entry_eq]
  generalize (lg_sl ([.ref y, .int (nI j), .int (nI i)]) ++ List.replicate (3 - (lg_sl ([.ref y, .int (nI j), .int (nI i)])).length) Slot.unset).toArray = ls at hl ⊢
  have hl : lv_has ls 3 [(0, .ref y), (1, .int (nI j)), (2, .int (nI i))] := hl
  refine lv_aload_n hx hb dX12_knows_0 rfl (lv_at hl 0 rfl) ?_
  refine lv_iload_n hx hb dX12_knows_1 rfl (lv_at hl 1 rfl) ?_
  refine lv_iconst (v := nI 2) hx hb dX12_knows_2 (by decide +kernel) ?_
  refine vp_callSi ((va_runV (As := [.int (nI j), .int (nI 2)]) (rest := []) ⟨hx, hb, hml, hown, hts⟩ (c_X12_get_2 l dC dI cI cD cR y as ai ar am ak ao az ae aq af hi th po ba en an aw ax ap se n d t day al nd bb oo K F kn j (by first | omega | assumption | exact gnd _ | exact gkn _ | exact Nat.lt_trans (gkn _) (by decide) | exact Nat.lt_trans (gnd _) (by decide) | exact Nat.lt_of_le_of_lt (pcN_le _) (by decide)) (by first | omega | assumption | exact gnd _ | exact gkn _ | exact Nat.lt_trans (gkn _) (by decide) | exact Nat.lt_trans (gnd _) (by decide) | exact Nat.lt_of_le_of_lt (pcN_le _) (by decide)) (by first | omega | assumption | exact gnd _ | exact gkn _ | exact Nat.lt_trans (gkn _) (by decide) | exact Nat.lt_trans (gnd _) (by decide) | exact Nat.lt_of_le_of_lt (pcN_le _) (by decide)) (by first | omega | assumption | exact gnd _ | exact gkn _ | exact Nat.lt_trans (gkn _) (by decide) | exact Nat.lt_trans (gnd _) (by decide) | exact Nat.lt_of_le_of_lt (pcN_le _) (by decide)) (by first | omega | assumption | exact gnd _ | exact gkn _ | exact Nat.lt_trans (gkn _) (by decide) | exact Nat.lt_trans (gnd _) (by decide) | exact Nat.lt_of_le_of_lt (pcN_le _) (by decide)) gnd gkn gK gF (by first | omega | assumption | exact gnd _ | exact gkn _ | exact Nat.lt_trans (gkn _) (by decide) | exact Nat.lt_trans (gnd _) (by decide) | exact Nat.lt_of_le_of_lt (pcN_le _) (by decide))) (cwV 2 hts gX12_knows_X12_get rfl rfl rfl (by decide +kernel) ⟨Nat.le_of_ble_eq_true rfl, Nat.le_of_ble_eq_true rfl⟩) (preV_R hCX (va_recv hK hP (ci := 12) (q0 := 0) rfl rfl) (hP)) rfl rfl hl.1 rfl (lv_room (Nat.le_of_ble_eq_true rfl)) dX12_knows_3 ⟨Nat.le_of_ble_eq_true (by first | rfl | decide), Nat.le_of_ble_eq_true (by first | rfl | decide)⟩).run) (fun r_3 hr_3 => ?_)
  subst hr_3
  refine lv_iload_n hx hb dX12_knows_6 rfl (lv_at hl 2 rfl) ?_
  refine vp_callSi ((va_runS (As := [.int (nI (kn j)), .int (nI i)]) (rest := []) ⟨hx, hb, hml, hown, hts⟩ (c_X12_has l dC dI cI cD cR (kn j) i (Nat.lt_trans (gkn j) (by decide)) (by first | omega | assumption | exact gnd _ | exact gkn _ | exact Nat.lt_trans (gkn _) (by decide) | exact Nat.lt_trans (gnd _) (by decide) | exact Nat.lt_of_le_of_lt (pcN_le _) (by decide))) (va_cwS 2 hts gX12_knows_X12_has rfl rfl rfl (by decide +kernel) ⟨Nat.le_of_ble_eq_true rfl, Nat.le_of_ble_eq_true rfl⟩) (preS_R hCX (trivial)) rfl rfl hl.1 rfl (lv_room (Nat.le_of_ble_eq_true rfl)) dX12_knows_7 ⟨Nat.le_of_ble_eq_true (by first | rfl | decide), Nat.le_of_ble_eq_true (by first | rfl | decide)⟩).run) (fun r_7 hr_7 => ?_)
  subst hr_7
  exact W.zret (v := bI ((kn j).testBit i)) hx hb hr (bI_nar _) (fun T9 hT9 hW9 => ⟨_, rfl, rfl, hT9⟩) (fun q h => by cases h) dX12_knows_10
set_option maxHeartbeats 4000000 in
set_option maxRecDepth 100000 in
theorem c_X12_isMet (l : Launch) (dC : Nat → ClassId) (dI : Nat → Nat → Nat) (cI cD cR : ClassId) (y as ai ar am ak ao az ae aq af : Nat) (hi : Bool) (th : Int32) (po ba en an aw ax ap : Nat) (se : Int32) (n d t day al : Nat) (nd : Nat → Nat) (bb oo : Nat → Int32) (K F kn : Nat → Nat) (j i : Nat) (hn : n ≤ 9) (hd : d ≤ 7) (ht : t < 512) (hal : al < 128) (hday : day < 2 ^ 30) (gnd : ∀ i, nd i < 512) (gkn : ∀ j, kn j < 512) (gK : ∀ j, K j < 8) (gF : ∀ j, F j < 10) (hj9 : j < 7) (hi9 : i < 9) : Met l yX12_isMet wsX12_isMet ({ frames := 1, cells := 0, slots := 0, locals := 22 }) (pcR dC dI cI cD cR [.ref y, .int (nI j), .int (nI i)] (fun H => va_P (dC, dI) vwCl ([(y, .inr (12, [.ref as, .ref ai, .ref ar, .ref am, .ref ak, .ref ao, .ref az, .ref ae, .ref aq, .ref af, .int (bI hi), .int th, .int (nI po), .int (nI ba), .int (nI en), .ref an, .ref aw, .ref ax, .ref ap, .int se]))] ++ [(as, .inl (cI, 53, .inl (sF n d t day al nd bb oo K F kn)))]) H)) (vp_Si (fun r => r = bI (meB t (kn j) (nd i)))) 0 0 (fun _ => False) := by
  refine Met.ofW (cc := cX12_isMet) (maxL := 3) (ret := (some .boolean)) (by decide) rfl ?_
  intro p e s m args below meth c s₁ B hml hv
  obtain ⟨rfl, hH0, hCX⟩ := hv
  have hx := B.exec
  have hb := B.bytes
  have hr := B.returns
  have hts := atoms_spec (ws := wsX12_isMet) B.pre
  have hown : s.vm.findClass RX12 = some m.cls := findClass_of_methodNamed B.named
  have hlocks := B.notSynchronized
  have hK := hCX.1
  have hP := hH0
  have hl := lv_entry ([.ref y, .int (nI j), .int (nI i)]) (n := 3) (Nat.le_of_ble_eq_true rfl)
  rw [lg_entry_eq]
  generalize (lg_sl ([.ref y, .int (nI j), .int (nI i)]) ++ List.replicate (3 - (lg_sl ([.ref y, .int (nI j), .int (nI i)])).length) Slot.unset).toArray = ls at hl ⊢
  have hl : lv_has ls 3 [(0, .ref y), (1, .int (nI j)), (2, .int (nI i))] := hl
  refine lv_aload_n hx hb dX12_isMet_0 rfl (lv_at hl 0 rfl) ?_
  refine lv_iload_n hx hb dX12_isMet_1 rfl (lv_at hl 2 rfl) ?_
  refine lv_iconst (v := nI 0) hx hb dX12_isMet_2 (by decide +kernel) ?_
  refine vp_callSi ((va_runV (As := [.int (nI i), .int (nI 0)]) (rest := []) ⟨hx, hb, hml, hown, hts⟩ (c_X12_of_0 l dC dI cI cD cR y as ai ar am ak ao az ae aq af hi th po ba en an aw ax ap se n d t day al nd bb oo K F kn i (by first | omega | assumption | exact gnd _ | exact gkn _ | exact Nat.lt_trans (gkn _) (by decide) | exact Nat.lt_trans (gnd _) (by decide) | exact Nat.lt_of_le_of_lt (pcN_le _) (by decide)) (by first | omega | assumption | exact gnd _ | exact gkn _ | exact Nat.lt_trans (gkn _) (by decide) | exact Nat.lt_trans (gnd _) (by decide) | exact Nat.lt_of_le_of_lt (pcN_le _) (by decide)) (by first | omega | assumption | exact gnd _ | exact gkn _ | exact Nat.lt_trans (gkn _) (by decide) | exact Nat.lt_trans (gnd _) (by decide) | exact Nat.lt_of_le_of_lt (pcN_le _) (by decide)) (by first | omega | assumption | exact gnd _ | exact gkn _ | exact Nat.lt_trans (gkn _) (by decide) | exact Nat.lt_trans (gnd _) (by decide) | exact Nat.lt_of_le_of_lt (pcN_le _) (by decide)) (by first | omega | assumption | exact gnd _ | exact gkn _ | exact Nat.lt_trans (gkn _) (by decide) | exact Nat.lt_trans (gnd _) (by decide) | exact Nat.lt_of_le_of_lt (pcN_le _) (by decide)) gnd gkn gK gF (by first | omega | assumption | exact gnd _ | exact gkn _ | exact Nat.lt_trans (gkn _) (by decide) | exact Nat.lt_trans (gnd _) (by decide) | exact Nat.lt_of_le_of_lt (pcN_le _) (by decide))) (cwV 2 hts gX12_isMet_X12_of rfl rfl rfl (by decide +kernel) ⟨Nat.le_of_ble_eq_true rfl, Nat.le_of_ble_eq_true rfl⟩) (preV_R hCX (va_recv hK hP (ci := 12) (q0 := 0) rfl rfl) (hP)) rfl rfl hl.1 rfl (lv_room (Nat.le_of_ble_eq_true rfl)) dX12_isMet_3 ⟨Nat.le_of_ble_eq_true (by first | rfl | decide), Nat.le_of_ble_eq_true (by first | rfl | decide)⟩).run) (fun r_3 hr_3 => ?_)
  subst hr_3
  refine lv_aload_n hx hb dX12_isMet_6 rfl (lv_at hl 0 rfl) ?_
  refine va_get (D := (dC, dI)) (ci := 12) (v := .ref as) (C := RX12) (T := TX12) (N := 20) hx hb hts (fun _ h => List.mem_cons_of_mem _ (List.mem_append_right _ h)) hown hK hP 0 rfl rfl 0 (by decide) (hts (.fieldLink RX12 9 "HoldsOnceDeniedModel" "s" "[I") (by decide +kernel)) (fun _ h9 => h9) rfl dX12_isMet_7 ?_
  refine lv_iconst (v := nI 2) hx hb dX12_isMet_10 (by decide +kernel) ?_
  refine ho_iald (v := nI t) hx hb hK hP 1 0 rfl rfl (by omega) (by first | decide | omega) rfl dX12_isMet_11 ?_
  refine lv_aload_n hx hb dX12_isMet_12 rfl (lv_at hl 0 rfl) ?_
  refine lv_iload_n hx hb dX12_isMet_13 rfl (lv_at hl 1 rfl) ?_
  refine lv_iconst (v := nI 2) hx hb dX12_isMet_14 (by decide +kernel) ?_
  refine vp_callSi ((va_runV (As := [.int (nI j), .int (nI 2)]) (rest := [.int (nI t), .int (nI (nd i))]) ⟨hx, hb, hml, hown, hts⟩ (c_X12_get_2 l dC dI cI cD cR y as ai ar am ak ao az ae aq af hi th po ba en an aw ax ap se n d t day al nd bb oo K F kn j (by first | omega | assumption | exact gnd _ | exact gkn _ | exact Nat.lt_trans (gkn _) (by decide) | exact Nat.lt_trans (gnd _) (by decide) | exact Nat.lt_of_le_of_lt (pcN_le _) (by decide)) (by first | omega | assumption | exact gnd _ | exact gkn _ | exact Nat.lt_trans (gkn _) (by decide) | exact Nat.lt_trans (gnd _) (by decide) | exact Nat.lt_of_le_of_lt (pcN_le _) (by decide)) (by first | omega | assumption | exact gnd _ | exact gkn _ | exact Nat.lt_trans (gkn _) (by decide) | exact Nat.lt_trans (gnd _) (by decide) | exact Nat.lt_of_le_of_lt (pcN_le _) (by decide)) (by first | omega | assumption | exact gnd _ | exact gkn _ | exact Nat.lt_trans (gkn _) (by decide) | exact Nat.lt_trans (gnd _) (by decide) | exact Nat.lt_of_le_of_lt (pcN_le _) (by decide)) (by first | omega | assumption | exact gnd _ | exact gkn _ | exact Nat.lt_trans (gkn _) (by decide) | exact Nat.lt_trans (gnd _) (by decide) | exact Nat.lt_of_le_of_lt (pcN_le _) (by decide)) gnd gkn gK gF (by first | omega | assumption | exact gnd _ | exact gkn _ | exact Nat.lt_trans (gkn _) (by decide) | exact Nat.lt_trans (gnd _) (by decide) | exact Nat.lt_of_le_of_lt (pcN_le _) (by decide))) (cwV 2 hts gX12_isMet_X12_get rfl rfl rfl (by decide +kernel) ⟨Nat.le_of_ble_eq_true rfl, Nat.le_of_ble_eq_true rfl⟩) (preV_R hCX (va_recv hK hP (ci := 12) (q0 := 0) rfl rfl) (hP)) rfl rfl hl.1 rfl (lv_room (Nat.le_of_ble_eq_true rfl)) dX12_isMet_15 ⟨Nat.le_of_ble_eq_true (by first | rfl | decide), Nat.le_of_ble_eq_true (by first | rfl | decide)⟩).run) (fun r_15 hr_15 => ?_)
  subst hr_15
  refine ho_ior hx hb dX12_isMet_18 ?_
  refine lv_iconst (v := (-1)) hx hb dX12_isMet_19 (by decide +kernel) ?_
  refine lv_ixor hx hb dX12_isMet_20 ?_
  refine ho_iandC hx hb dX12_isMet_21 ?_
  refine ho_if_ne (tgt := 29) hx hb dX12_isMet_22 (by decide) (Nat.lt_trans (sdf_lt (gnd i)) (by decide)) (fun c_22 => ?_) (fun c_22 => ?_)
  · refine lv_iconst (v := nI 0) hx hb dX12_isMet_29 (by decide +kernel) ?_
    exact W.zret (v := nI 0) hx hb hr rfl (fun T9 hT9 hW9 => ⟨_, rfl, (bI_f (by simp [meB, c_22])), hT9⟩) (fun q h => by cases h) dX12_isMet_30
  refine lv_iconst (v := nI 1) hx hb dX12_isMet_25 (by decide +kernel) ?_
  refine lv_goto (tgt := 30) hx hb dX12_isMet_26 (by decide) ?_
  exact W.zret (v := nI 1) hx hb hr rfl (fun T9 hT9 hW9 => ⟨_, rfl, (bI_t (by simp [meB, c_22])), hT9⟩) (fun q h => by cases h) dX12_isMet_30
