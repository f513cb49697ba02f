set_option maxHeartbeats 4000000 in
set_option maxRecDepth 100000 in
theorem c_X12_image (l : Launch) (dC : Nat → ClassId) (dI : Nat → Nat → Nat) (cI cD cR : ClassId) (y as ai ar am ak ao az ae aq af : Nat) (hi : Bool) (th : Int32) (po ba en an aw ax ap : Nat) (se : Int32) (n d t day al : Nat) (nd : Nat → Nat) (bb oo : Nat → Int32) (K F kn : Nat → Nat) (nZ dZ tZ dayZ alZ : Nat) (ndZ : Nat → Nat) (bbZ ooZ : Nat → Int32) (KZ FZ knZ : Nat → Nat) (sz : Nat) (hn : n ≤ 9) (hd : d ≤ 7) (ht : t < 512) (hal : al < 128) (hday : day < 2 ^ 30) (gnd : ∀ i, nd i < 512) (gkn : ∀ j, kn j < 512) (gK : ∀ j, K j < 8) (gF : ∀ j, F j < 10) : Met l yX12_image wsX12_image ({ frames := 1, cells := 0, slots := 0, locals := 22 }) (pcR dC dI cI cD cR [.ref y] (fun H => H.size = sz ∧ va_P (dC, dI) vwCl ([(y, .inr (12, [.ref as, .ref ai, .ref ar, .ref am, .ref ak, .ref ao, .ref az, .ref ae, .ref aq, .ref af, .int (bI hi), .int th, .int (nI po), .int (nI ba), .int (nI en), .ref an, .ref aw, .ref ax, .ref ap, .int se]))] ++ [(as, .inl (cI, 53, .inl (sF n d t day al nd bb oo K F kn)))] ++ [(ai, .inl (cI, 53, .inl (sF nZ dZ tZ dayZ alZ ndZ bbZ ooZ KZ FZ knZ)))]) H ∧ va_D (fun _ => True) ([(y, .inr (12, [.ref as, .ref ai, .ref ar, .ref am, .ref ak, .ref ao, .ref az, .ref ae, .ref aq, .ref af, .int (bI hi), .int th, .int (nI po), .int (nI ba), .int (nI en), .ref an, .ref aw, .ref ax, .ref ap, .int se]))] ++ [(as, .inl (cI, 53, .inl (sF n d t day al nd bb oo K F kn)))] ++ [(ai, .inl (cI, 53, .inl (sF nZ dZ tZ dayZ alZ ndZ bbZ ooZ KZ FZ knZ)))]))) (va_Qi (fun r (_ : Unit) => r = nI (pcN t)) (fun (_ : Unit) T9 => va_P (dC, dI) vwCl ([(y, .inr (12, [.ref as, .ref ai, .ref ar, .ref am, .ref ak, .ref ao, .ref az, .ref ae, .ref aq, .ref af, .int (bI true), .int th, .int (nI po), .int (nI ba), .int (nI en), .ref an, .ref aw, .ref ax, .ref ap, .int se]))] ++ [(as, .inl (cI, 53, .inl (sF n d t day al nd bb oo K F kn)))] ++ [(ai, .inl (cI, 53, .inl (sF n d t day al nd bb oo K F kn)))]) T9.heap ∧ va_D (va_A ([(y, .inr (12, [.ref as, .ref ai, .ref ar, .ref am, .ref ak, .ref ao, .ref az, .ref ae, .ref aq, .ref af, .int (bI hi), .int th, .int (nI po), .int (nI ba), .int (nI en), .ref an, .ref aw, .ref ax, .ref ap, .int se]))] ++ [(as, .inl (cI, 53, .inl (sF n d t day al nd bb oo K F kn)))] ++ [(ai, .inl (cI, 53, .inl (sF nZ dZ tZ dayZ alZ ndZ bbZ ooZ KZ FZ knZ)))]) sz) ([(y, .inr (12, [.ref as, .ref ai, .ref ar, .ref am, .ref ak, .ref ao, .ref az, .ref ae, .ref aq, .ref af, .int (bI true), .int th, .int (nI po), .int (nI ba), .int (nI en), .ref an, .ref aw, .ref ax, .ref ap, .int se]))] ++ [(as, .inl (cI, 53, .inl (sF n d t day al nd bb oo K F kn)))] ++ [(ai, .inl (cI, 53, .inl (sF n d t day al nd bb oo K F kn)))])) (va_A ([(y, .inr (12, [.ref as, .ref ai, .ref ar, .ref am, .ref ak, .ref ao, .ref az, .ref ae, .ref aq, .ref af, .int (bI hi), .int th, .int (nI po), .int (nI ba), .int (nI en), .ref an, .ref aw, .ref ax, .ref ap, .int se]))] ++ [(as, .inl (cI, 53, .inl (sF n d t day al nd bb oo K F kn)))] ++ [(ai, .inl (cI, 53, .inl (sF nZ dZ tZ dayZ alZ ndZ bbZ ooZ KZ FZ knZ)))]) sz)) 0 0 (va_A ([(y, .inr (12, [.ref as, .ref ai, .ref ar, .ref am, .ref ak, .ref ao, .ref az, .ref ae, .ref aq, .ref af, .int (bI hi), .int th, .int (nI po), .int (nI ba), .int (nI en), .ref an, .ref aw, .ref ax, .ref ap, .int se]))] ++ [(as, .inl (cI, 53, .inl (sF n d t day al nd bb oo K F kn)))] ++ [(ai, .inl (cI, 53, .inl (sF nZ dZ tZ dayZ alZ ndZ bbZ ooZ KZ FZ knZ)))]) sz) := by
  refine Met.ofW (cc := cX12_image) (maxL := 1) (ret := (some .int)) (by decide) rfl ?_
  intro p e s m args below meth c s₁ B hml hv
  obtain ⟨rfl, hH0, hCX⟩ := hv
  have hx := B.exec
  have hb := B.bytes
  have hr := B.returns
  have hts := atoms_spec (ws := wsX12_image) B.pre
  have hown : s.vm.findClass RX12 = some m.cls := findClass_of_methodNamed B.named
  have hlocks := B.notSynchronized
  have hK := hCX.1
  obtain ⟨hsz, hP, hD0⟩ := hH0
  subst hsz
  have hD := hD0.self (sz := s.heap.size)
  generalize hAe : va_A ([(y, .inr (12, [.ref as, .ref ai, .ref ar, .ref am, .ref ak, .ref ao, .ref az, .ref ae, .ref aq, .ref af, .int (bI hi), .int th, .int (nI po), .int (nI ba), .int (nI en), .ref an, .ref aw, .ref ax, .ref ap, .int se]))] ++ [(as, .inl (cI, 53, .inl (sF n d t day al nd bb oo K F kn)))] ++ [(ai, .inl (cI, 53, .inl (sF nZ dZ tZ dayZ alZ ndZ bbZ ooZ KZ FZ knZ)))]) s.heap.size = A at hD ⊢
  have hA : ∀ q : Nat, s.heap.size ≤ q → A q := fun q h => by rw [← hAe]; exact Or.inr h
  have hS : va_S A s.heap s.heap [] := va_S.rf
  have hP : va_P (dC, dI) vwCl ([(y, .inr (12, [.ref as, .ref ai, .ref ar, .ref am, .ref ak, .ref ao, .ref az, .ref ae, .ref aq, .ref af, .int (bI hi), .int th, .int (nI po), .int (nI ba), .int (nI en), .ref an, .ref aw, .ref ax, .ref ap, .int se]))] ++ [(as, .inl (cI, 53, .inl (sF n d t day al nd bb oo K F kn)))] ++ [(ai, .inl (cI, 53, .inl (sF nZ dZ tZ dayZ alZ ndZ bbZ ooZ KZ FZ knZ)))]) s.heap := hP
  have hl := lv_entry ([.ref y]) (n := 1) (Nat.le_of_ble_eq_true rfl)
  rw [lg_entry_eq]
  generalize (lg_sl ([.ref y]) ++ List.replicate (1 - (lg_sl ([.ref y])).length) Slot.unset).toArray = ls at hl ⊢
  have hl : lv_has ls 1 [(0, .ref y)] := hl
  refine lv_aload_n hx hb dX12_image_0 rfl (lv_at hl 0 rfl) ?_
  refine va_get (D := (dC, dI)) (ci := 12) (v := .ref as) (C := RX12) (T := TX12) (N := 20) hx hb hts (fun _ h => List.mem_cons_of_mem _ (List.mem_append_right _ h)) hown hK hP 0 rfl rfl 0 (by decide) (hts (.fieldLink RX12 9 "HoldsOnceDeniedModel" "s" "[I") (by decide +kernel)) (fun _ h9 => h9) rfl dX12_image_1 ?_
  refine lv_aload_n hx hb dX12_image_4 rfl (lv_at hl 0 rfl) ?_
  refine va_get (D := (dC, dI)) (ci := 12) (v := .ref ai) (C := RX12) (T := TX12) (N := 20) hx hb hts (fun _ h => List.mem_cons_of_mem _ (List.mem_append_right _ h)) hown hK hP 0 rfl rfl 1 (by decide) (hts (.fieldLink RX12 13 "HoldsOnceDeniedModel" "image" "[I") (by decide +kernel)) (fun _ h9 => h9) rfl dX12_image_5 ?_
  have hPc := hP.sub (ws' := [(as, .inl (cI, 53, .inl (sF n d t day al nd bb oo K F kn)))] ++ [(ai, .inl (cI, 53, .inl (sF nZ dZ tZ dayZ alZ ndZ bbZ ooZ KZ FZ knZ)))]) [1, 2] rfl
  have hDc := hD.sub (ws' := [(as, .inl (cI, 53, .inl (sF n d t day al nd bb oo K F kn)))] ++ [(ai, .inl (cI, 53, .inl (sF nZ dZ tZ dayZ alZ ndZ bbZ ooZ KZ FZ knZ)))]) [1, 2] (by decide) rfl
  have hFc := va_free (wc := [(as, .inl (cI, 53, .inl (sF n d t day al nd bb oo K F kn)))] ++ [(ai, .inl (cI, 53, .inl (sF nZ dZ tZ dayZ alZ ndZ bbZ ooZ KZ FZ knZ)))]) hD hS hA [1, 2] rfl
  refine va_callv (va_runS (As := [.ref as, .ref ai]) (rest := []) ⟨hx, hb, hml, hown, hts⟩ (c_X12_lays l dC dI cI cD cR as ai n d t day al nd bb oo K F kn nZ dZ tZ dayZ alZ ndZ bbZ ooZ KZ FZ knZ s.heap.size) (va_cwS 2 hts gX12_image_X12_lays rfl rfl rfl (by decide +kernel) ⟨Nat.le_of_ble_eq_true rfl, Nat.le_of_ble_eq_true rfl⟩) (preS_R hCX ⟨rfl, hPc, hDc.weaken (fun _ _ _ _ => trivial)⟩) rfl rfl hl.1 rfl (lv_room (Nat.le_of_ble_eq_true rfl)) dX12_image_8 ⟨Nat.le_of_ble_eq_true (by first | rfl | decide), Nat.le_of_ble_eq_true (by first | rfl | decide)⟩) hS (fun q _ h => hFc q h) hFc (fun u T8 H1 locs hT8 hvm hw hB hz1 hk1 hS => ?_)
  obtain ⟨hP1, hD1⟩ := hB
  rw [hT8] at hP1
  obtain ⟨hP, hD⟩ := va_join (wr := [(y, .inr (12, [.ref as, .ref ai, .ref ar, .ref am, .ref ak, .ref ao, .ref az, .ref ae, .ref aq, .ref af, .int (bI hi), .int th, .int (nI po), .int (nI ba), .int (nI en), .ref an, .ref aw, .ref ax, .ref ap, .int se]))]) (w1 := [(as, .inl (cI, 53, .inl (sF n d t day al nd bb oo K F kn)))] ++ [(ai, .inl (cI, 53, .inl (sF n d t day al nd bb oo K F kn)))]) hP hD [1, 2] [0] rfl rfl (by decide) (by decide) hk1 hFc hP1 hD1
  generalize H1 = H at hP hS ⊢
  have hP : va_P (dC, dI) vwCl ([(y, .inr (12, [.ref as, .ref ai, .ref ar, .ref am, .ref ak, .ref ao, .ref az, .ref ae, .ref aq, .ref af, .int (bI hi), .int th, .int (nI po), .int (nI ba), .int (nI en), .ref an, .ref aw, .ref ax, .ref ap, .int se]))] ++ [(as, .inl (cI, 53, .inl (sF n d t day al nd bb oo K F kn)))] ++ [(ai, .inl (cI, 53, .inl (sF n d t day al nd bb oo K F kn)))]) H := hP
  have hD : va_D A ([(y, .inr (12, [.ref as, .ref ai, .ref ar, .ref am, .ref ak, .ref ao, .ref az, .ref ae, .ref aq, .ref af, .int (bI hi), .int th, .int (nI po), .int (nI ba), .int (nI en), .ref an, .ref aw, .ref ax, .ref ap, .int se]))] ++ [(as, .inl (cI, 53, .inl (sF n d t day al nd bb oo K F kn)))] ++ [(ai, .inl (cI, 53, .inl (sF n d t day al nd bb oo K F kn)))]) := hD
  refine lv_aload_n hx hb dX12_image_11 rfl (lv_at hl 0 rfl) ?_
  refine lv_iconst (v := nI 1) hx hb dX12_image_12 (by decide +kernel) ?_
  refine va_put (D := (dC, dI)) (ci := 12) (v := .int (nI 1)) (ty := .boolean) (C := RX12) (T := TX12) (N := 20) hx hb hts (fun _ h => List.mem_cons_of_mem _ (List.mem_append_right _ h)) tyX12 tyX12_ok nmX12 hown hK hP hD hS 0 rfl rfl 10 (by decide) (hts (.fieldLink RX12 229 "HoldsOnceDeniedModel" "hasImage" "Z") (by decide +kernel)) (fun _ h9 => h9) rfl (by decide +kernel) rfl rfl (Nat.le_of_ble_eq_true rfl) dX12_image_13 (fun H locs hP hD hS => ?_)
  have hP : va_P (dC, dI) vwCl ([(y, .inr (12, [.ref as, .ref ai, .ref ar, .ref am, .ref ak, .ref ao, .ref az, .ref ae, .ref aq, .ref af, .int (bI true), .int th, .int (nI po), .int (nI ba), .int (nI en), .ref an, .ref aw, .ref ax, .ref ap, .int se]))] ++ [(as, .inl (cI, 53, .inl (sF n d t day al nd bb oo K F kn)))] ++ [(ai, .inl (cI, 53, .inl (sF n d t day al nd bb oo K F kn)))]) H := hP
  have hD : va_D A ([(y, .inr (12, [.ref as, .ref ai, .ref ar, .ref am, .ref ak, .ref ao, .ref az, .ref ae, .ref aq, .ref af, .int (bI true), .int th, .int (nI po), .int (nI ba), .int (nI en), .ref an, .ref aw, .ref ax, .ref ap, .int se]))] ++ [(as, .inl (cI, 53, .inl (sF n d t day al nd bb oo K F kn)))] ++ [(ai, .inl (cI, 53, .inl (sF n d t day al nd bb oo K F kn)))]) := hD
  refine lv_aload_n hx hb dX12_image_16 rfl (lv_at hl 0 rfl) ?_
  refine va_get (D := (dC, dI)) (ci := 12) (v := .ref as) (C := RX12) (T := TX12) (N := 20) hx hb hts (fun _ h => List.mem_cons_of_mem _ (List.mem_append_right _ h)) hown hK hP 0 rfl rfl 0 (by decide) (hts (.fieldLink RX12 9 "HoldsOnceDeniedModel" "s" "[I") (by decide +kernel)) (fun _ h9 => h9) rfl dX12_image_17 ?_
  refine lv_iconst (v := nI 2) hx hb dX12_image_20 (by decide +kernel) ?_
  refine ho_iald (v := nI t) hx hb hK hP 1 0 rfl rfl (by omega) (by first | decide | omega) rfl dX12_image_21 ?_
  refine vp_callSi ((va_runS (As := [.int (nI t)]) (rest := []) ⟨hx, hb, hml, hown, hts⟩ (c_X12_bits l dC dI cI cD cR t (by first | omega | assumption | exact gnd _ | exact gkn _ | exact Nat.lt_trans (gkn _) (by decide) | exact Nat.lt_trans (gnd _) (by decide) | exact Nat.lt_of_le_of_lt (pcN_le _) (by decide))) (va_cwS 1 hts gX12_image_X12_bits rfl rfl rfl (by decide +kernel) ⟨Nat.le_of_ble_eq_true rfl, Nat.le_of_ble_eq_true rfl⟩) (preS_R hCX (trivial)) rfl rfl hl.1 rfl (lv_room (Nat.le_of_ble_eq_true rfl)) dX12_image_22 ⟨Nat.le_of_ble_eq_true (by first | rfl | decide), Nat.le_of_ble_eq_true (by first | rfl | decide)⟩).run) (fun r_22 hr_22 => ?_)
  subst hr_22
  exact W.iret (v := nI (pcN t)) hx hb hr (fun T9 hT9 hW9 => ⟨⟨_, (), rfl, rfl, by rw [hT9]; exact hP, hD⟩, hS.F hT9⟩) hS.2.2 dX12_image_25
set_option maxHeartbeats 4000000 in
set_option maxRecDepth 100000 in
theorem c_X12_restore (l : Launch) (dC : Nat → ClassId) (dI : Nat → Nat → Nat) (cI cD cR : ClassId) (y as ai ar am ak ao az ae aq af : Nat) (hi : Bool) (th : Int32) (po ba en an aw ax ap : Nat) (se : Int32) (n d t day al : Nat) (nd : Nat → Nat) (bb oo : Nat → Int32) (K F kn : Nat → Nat) (nZ dZ tZ dayZ alZ : Nat) (ndZ : Nat → Nat) (bbZ ooZ : Nat → Int32) (KZ FZ knZ : Nat → Nat) (sz : Nat) (hn : n ≤ 9) (hd : d ≤ 7) (ht : t < 512) (hal : al < 128) (hday : day < 2 ^ 30) (gnd : ∀ i, nd i < 512) (gkn : ∀ j, kn j < 512) (gK : ∀ j, K j < 8) (gF : ∀ j, F j < 10) (htZ : tZ < 512) : Met l yX12_restore wsX12_restore ({ frames := 1, cells := 0, slots := 0, locals := 22 }) (pcR dC dI cI cD cR [.ref y] (fun H => H.size = sz ∧ va_P (dC, dI) vwCl ([(y, .inr (12, [.ref as, .ref ai, .ref ar, .ref am, .ref ak, .ref ao, .ref az, .ref ae, .ref aq, .ref af, .int (bI hi), .int th, .int (nI po), .int (nI ba), .int (nI en), .ref an, .ref aw, .ref ax, .ref ap, .int se]))] ++ [(as, .inl (cI, 53, .inl (sF n d t day al nd bb oo K F kn)))] ++ [(ai, .inl (cI, 53, .inl (sF nZ dZ tZ dayZ alZ ndZ bbZ ooZ KZ FZ knZ)))]) H ∧ va_D (fun _ => True) ([(y, .inr (12, [.ref as, .ref ai, .ref ar, .ref am, .ref ak, .ref ao, .ref az, .ref ae, .ref aq, .ref af, .int (bI hi), .int th, .int (nI po), .int (nI ba), .int (nI en), .ref an, .ref aw, .ref ax, .ref ap, .int se]))] ++ [(as, .inl (cI, 53, .inl (sF n d t day al nd bb oo K F kn)))] ++ [(ai, .inl (cI, 53, .inl (sF nZ dZ tZ dayZ alZ ndZ bbZ ooZ KZ FZ knZ)))]))) (va_Qi (fun r (_ : Unit) => r = (bif hi then nI (pcN tZ) else -3)) (fun (_ : Unit) T9 => va_P (dC, dI) vwCl ([(y, .inr (12, [.ref as, .ref ai, .ref ar, .ref am, .ref ak, .ref ao, .ref az, .ref ae, .ref aq, .ref af, .int (bI hi), .int th, .int (nI po), .int (nI ba), .int (nI en), .ref an, .ref aw, .ref ax, .ref ap, .int se]))] ++ [(as, .inl (cI, 53, .inl (sF (bif hi then nZ else n) (bif hi then dZ else d) (bif hi then tZ else t) (bif hi then dayZ else day) (bif hi then alZ else al) (bif hi then ndZ else nd) (bif hi then bbZ else bb) (bif hi then ooZ else oo) (bif hi then KZ else K) (bif hi then FZ else F) (bif hi then knZ else kn))))] ++ [(ai, .inl (cI, 53, .inl (sF nZ dZ tZ dayZ alZ ndZ bbZ ooZ KZ FZ knZ)))]) T9.heap ∧ va_D (va_A ([(y, .inr (12, [.ref as, .ref ai, .ref ar, .ref am, .ref ak, .ref ao, .ref az, .ref ae, .ref aq, .ref af, .int (bI hi), .int th, .int (nI po), .int (nI ba), .int (nI en), .ref an, .ref aw, .ref ax, .ref ap, .int se]))] ++ [(as, .inl (cI, 53, .inl (sF n d t day al nd bb oo K F kn)))] ++ [(ai, .inl (cI, 53, .inl (sF nZ dZ tZ dayZ alZ ndZ bbZ ooZ KZ FZ knZ)))]) sz) ([(y, .inr (12, [.ref as, .ref ai, .ref ar, .ref am, .ref ak, .ref ao, .ref az, .ref ae, .ref aq, .ref af, .int (bI hi), .int th, .int (nI po), .int (nI ba), .int (nI en), .ref an, .ref aw, .ref ax, .ref ap, .int se]))] ++ [(as, .inl (cI, 53, .inl (sF (bif hi then nZ else n) (bif hi then dZ else d) (bif hi then tZ else t) (bif hi then dayZ else day) (bif hi then alZ else al) (bif hi then ndZ else nd) (bif hi then bbZ else bb) (bif hi then ooZ else oo) (bif hi then KZ else K) (bif hi then FZ else F) (bif hi then knZ else kn))))] ++ [(ai, .inl (cI, 53, .inl (sF nZ dZ tZ dayZ alZ ndZ bbZ ooZ KZ FZ knZ)))])) (va_A ([(y, .inr (12, [.ref as, .ref ai, .ref ar, .ref am, .ref ak, .ref ao, .ref az, .ref ae, .ref aq, .ref af, .int (bI hi), .int th, .int (nI po), .int (nI ba), .int (nI en), .ref an, .ref aw, .ref ax, .ref ap, .int se]))] ++ [(as, .inl (cI, 53, .inl (sF n d t day al nd bb oo K F kn)))] ++ [(ai, .inl (cI, 53, .inl (sF nZ dZ tZ dayZ alZ ndZ bbZ ooZ KZ FZ knZ)))]) sz)) 0 0 (va_A ([(y, .inr (12, [.ref as, .ref ai, .ref ar, .ref am, .ref ak, .ref ao, .ref az, .ref ae, .ref aq, .ref af, .int (bI hi), .int th, .int (nI po), .int (nI ba), .int (nI en), .ref an, .ref aw, .ref ax, .ref ap, .int se]))] ++ [(as, .inl (cI, 53, .inl (sF n d t day al nd bb oo K F kn)))] ++ [(ai, .inl (cI, 53, .inl (sF nZ dZ tZ dayZ alZ ndZ bbZ ooZ KZ FZ knZ)))]) sz) := by
  refine Met.ofW (cc := cX12_restore) (maxL := 1) (ret := (some .int)) (by decide) rfl ?_
  intro p e s m args below meth c s₁ B hml hv
  obtain ⟨rfl, hH0, hCX⟩ := hv
  have hx := B.exec
  have hb := B.bytes
  have hr := B.returns
  have hts := atoms_spec (ws := wsX12_restore) B.pre
  have hown : s.vm.findClass RX12 = some m.cls := findClass_of_methodNamed B.named
  have hlocks := B.notSynchronized
  have hK := hCX.1
  obtain ⟨hsz, hP, hD0⟩ := hH0
  subst hsz
  have hD := hD0.self (sz := s.heap.size)
  generalize hAe : va_A ([(y, .inr (12, [.ref as, .ref ai, .ref ar, .ref am, .ref ak, .ref ao, .ref az, .ref ae, .ref aq, .ref af, .int (bI hi), .int th, .int (nI po), .int (nI ba), .int (nI en), .ref an, .ref aw, .ref ax, .ref ap, .int se]))] ++ [(as, .inl (cI, 53, .inl (sF n d t day al nd bb oo K F kn)))] ++ [(ai, .inl (cI, 53, .inl (sF nZ dZ tZ dayZ alZ ndZ bbZ ooZ KZ FZ knZ)))]) s.heap.size = A at hD ⊢
  have hA : ∀ q : Nat, s.heap.size ≤ q → A q := fun q h => by rw [← hAe]; exact Or.inr h
  have hS : va_S A s.heap s.heap [] := va_S.rf
  have hP : va_P (dC, dI) vwCl ([(y, .inr (12, [.ref as, .ref ai, .ref ar, .ref am, .ref ak, .ref ao, .ref az, .ref ae, .ref aq, .ref af, .int (bI hi), .int th, .int (nI po), .int (nI ba), .int (nI en), .ref an, .ref aw, .ref ax, .ref ap, .int se]))] ++ [(as, .inl (cI, 53, .inl (sF n d t day al nd bb oo K F kn)))] ++ [(ai, .inl (cI, 53, .inl (sF nZ dZ tZ dayZ alZ ndZ bbZ ooZ KZ FZ knZ)))]) s.heap := hP
  have hl := lv_entry ([.ref y]) (n := 1) (Nat.le_of_ble_eq_true rfl)
  rw [lg_entry_eq]
  generalize (lg_sl ([.ref y]) ++ List.replicate (1 - (lg_sl ([.ref y])).length) Slot.unset).toArray = ls at hl ⊢
  have hl : lv_has ls 1 [(0, .ref y)] := hl
  refine lv_aload_n hx hb dX12_restore_0 rfl (lv_at hl 0 rfl) ?_
  refine va_get (D := (dC, dI)) (ci := 12) (v := .int (bI hi)) (C := RX12) (T := TX12) (N := 20) hx hb hts (fun _ h => List.mem_cons_of_mem _ (List.mem_append_right _ h)) hown hK hP 0 rfl rfl 10 (by decide) (hts (.fieldLink RX12 229 "HoldsOnceDeniedModel" "hasImage" "Z") (by decide +kernel)) (fun _ h9 => h9) rfl dX12_restore_1 ?_
  refine ho_bne (tgt := 10) hx hb dX12_restore_4 (by decide) (fun c_4 => ?_) (fun c_4 => ?_)
  · refine lv_aload_n hx hb dX12_restore_10 rfl (lv_at hl 0 rfl) ?_
    refine va_get (D := (dC, dI)) (ci := 12) (v := .ref ai) (C := RX12) (T := TX12) (N := 20) hx hb hts (fun _ h => List.mem_cons_of_mem _ (List.mem_append_right _ h)) hown hK hP 0 rfl rfl 1 (by decide) (hts (.fieldLink RX12 13 "HoldsOnceDeniedModel" "image" "[I") (by decide +kernel)) (fun _ h9 => h9) rfl dX12_restore_11 ?_
    refine lv_aload_n hx hb dX12_restore_14 rfl (lv_at hl 0 rfl) ?_
    refine va_get (D := (dC, dI)) (ci := 12) (v := .ref as) (C := RX12) (T := TX12) (N := 20) hx hb hts (fun _ h => List.mem_cons_of_mem _ (List.mem_append_right _ h)) hown hK hP 0 rfl rfl 0 (by decide) (hts (.fieldLink RX12 9 "HoldsOnceDeniedModel" "s" "[I") (by decide +kernel)) (fun _ h9 => h9) rfl dX12_restore_15 ?_
    have hPc := hP.sub (ws' := [(ai, .inl (cI, 53, .inl (sF nZ dZ tZ dayZ alZ ndZ bbZ ooZ KZ FZ knZ)))] ++ [(as, .inl (cI, 53, .inl (sF n d t day al nd bb oo K F kn)))]) [2, 1] rfl
    have hDc := hD.sub (ws' := [(ai, .inl (cI, 53, .inl (sF nZ dZ tZ dayZ alZ ndZ bbZ ooZ KZ FZ knZ)))] ++ [(as, .inl (cI, 53, .inl (sF n d t day al nd bb oo K F kn)))]) [2, 1] (by decide) rfl
    have hFc := va_free (wc := [(ai, .inl (cI, 53, .inl (sF nZ dZ tZ dayZ alZ ndZ bbZ ooZ KZ FZ knZ)))] ++ [(as, .inl (cI, 53, .inl (sF n d t day al nd bb oo K F kn)))]) hD hS hA [2, 1] rfl
    refine va_callv (va_runS (As := [.ref ai, .ref as]) (rest := []) ⟨hx, hb, hml, hown, hts⟩ (c_X12_lays l dC dI cI cD cR ai as nZ dZ tZ dayZ alZ ndZ bbZ ooZ KZ FZ knZ n d t day al nd bb oo K F kn s.heap.size) (va_cwS 2 hts gX12_restore_X12_lays rfl rfl rfl (by decide +kernel) ⟨Nat.le_of_ble_eq_true rfl, Nat.le_of_ble_eq_true rfl⟩) (preS_R hCX ⟨rfl, hPc, hDc.weaken (fun _ _ _ _ => trivial)⟩) rfl rfl hl.1 rfl (lv_room (Nat.le_of_ble_eq_true rfl)) dX12_restore_18 ⟨Nat.le_of_ble_eq_true (by first | rfl | decide), Nat.le_of_ble_eq_true (by first | rfl | decide)⟩) hS (fun q _ h => hFc q h) hFc (fun u T8 H1 locs hT8 hvm hw hB hz1 hk1 hS => ?_)
    obtain ⟨hP1, hD1⟩ := hB
    rw [hT8] at hP1
    obtain ⟨hP, hD⟩ := va_join (wr := [(y, .inr (12, [.ref as, .ref ai, .ref ar, .ref am, .ref ak, .ref ao, .ref az, .ref ae, .ref aq, .ref af, .int (bI hi), .int th, .int (nI po), .int (nI ba), .int (nI en), .ref an, .ref aw, .ref ax, .ref ap, .int se]))]) (w1 := [(ai, .inl (cI, 53, .inl (sF nZ dZ tZ dayZ alZ ndZ bbZ ooZ KZ FZ knZ)))] ++ [(as, .inl (cI, 53, .inl (sF nZ dZ tZ dayZ alZ ndZ bbZ ooZ KZ FZ knZ)))]) hP hD [2, 1] [0] rfl rfl (by decide) (by decide) hk1 hFc hP1 hD1
    generalize H1 = H at hP hS ⊢
    have hP := hP.sub (ws' := [(y, .inr (12, [.ref as, .ref ai, .ref ar, .ref am, .ref ak, .ref ao, .ref az, .ref ae, .ref aq, .ref af, .int (bI hi), .int th, .int (nI po), .int (nI ba), .int (nI en), .ref an, .ref aw, .ref ax, .ref ap, .int se]))] ++ [(as, .inl (cI, 53, .inl (sF nZ dZ tZ dayZ alZ ndZ bbZ ooZ KZ FZ knZ)))] ++ [(ai, .inl (cI, 53, .inl (sF nZ dZ tZ dayZ alZ ndZ bbZ ooZ KZ FZ knZ)))]) [0, 2, 1] rfl
    have hD := hD.sub (ws' := [(y, .inr (12, [.ref as, .ref ai, .ref ar, .ref am, .ref ak, .ref ao, .ref az, .ref ae, .ref aq, .ref af, .int (bI hi), .int th, .int (nI po), .int (nI ba), .int (nI en), .ref an, .ref aw, .ref ax, .ref ap, .int se]))] ++ [(as, .inl (cI, 53, .inl (sF nZ dZ tZ dayZ alZ ndZ bbZ ooZ KZ FZ knZ)))] ++ [(ai, .inl (cI, 53, .inl (sF nZ dZ tZ dayZ alZ ndZ bbZ ooZ KZ FZ knZ)))]) [0, 2, 1] (by decide) rfl
    refine lv_aload_n hx hb dX12_restore_21 rfl (lv_at hl 0 rfl) ?_
    refine va_get (D := (dC, dI)) (ci := 12) (v := .ref as) (C := RX12) (T := TX12) (N := 20) hx hb hts (fun _ h => List.mem_cons_of_mem _ (List.mem_append_right _ h)) hown hK hP 0 rfl rfl 0 (by decide) (hts (.fieldLink RX12 9 "HoldsOnceDeniedModel" "s" "[I") (by decide +kernel)) (fun _ h9 => h9) rfl dX12_restore_22 ?_
    refine lv_iconst (v := nI 2) hx hb dX12_restore_25 (by decide +kernel) ?_
    refine ho_iald (v := nI tZ) hx hb hK hP 1 0 rfl rfl (by omega) (by first | decide | omega) rfl dX12_restore_26 ?_
    refine vp_callSi ((va_runS (As := [.int (nI tZ)]) (rest := []) ⟨hx, hb, hml, hown, hts⟩ (c_X12_bits l dC dI cI cD cR tZ (Nat.lt_trans htZ (by decide))) (va_cwS 1 hts gX12_restore_X12_bits rfl rfl rfl (by decide +kernel) ⟨Nat.le_of_ble_eq_true rfl, Nat.le_of_ble_eq_true rfl⟩) (preS_R hCX (trivial)) rfl rfl hl.1 rfl (lv_room (Nat.le_of_ble_eq_true rfl)) dX12_restore_27 ⟨Nat.le_of_ble_eq_true (by first | rfl | decide), Nat.le_of_ble_eq_true (by first | rfl | decide)⟩).run) (fun r_27 hr_27 => ?_)
    subst hr_27
    have hW9 : ([(y, .inr (12, [.ref as, .ref ai, .ref ar, .ref am, .ref ak, .ref ao, .ref az, .ref ae, .ref aq, .ref af, .int (bI hi), .int th, .int (nI po), .int (nI ba), .int (nI en), .ref an, .ref aw, .ref ax, .ref ap, .int se]))] ++ [(as, .inl (cI, 53, .inl (sF nZ dZ tZ dayZ alZ ndZ bbZ ooZ KZ FZ knZ)))] ++ [(ai, .inl (cI, 53, .inl (sF nZ dZ tZ dayZ alZ ndZ bbZ ooZ KZ FZ knZ)))] : va_W) = [(y, .inr (12, [.ref as, .ref ai, .ref ar, .ref am, .ref ak, .ref ao, .ref az, .ref ae, .ref aq, .ref af, .int (bI hi), .int th, .int (nI po), .int (nI ba), .int (nI en), .ref an, .ref aw, .ref ax, .ref ap, .int se]))] ++ [(as, .inl (cI, 53, .inl (sF (bif hi then nZ else n) (bif hi then dZ else d) (bif hi then tZ else t) (bif hi then dayZ else day) (bif hi then alZ else al) (bif hi then ndZ else nd) (bif hi then bbZ else bb) (bif hi then ooZ else oo) (bif hi then KZ else K) (bif hi then FZ else F) (bif hi then knZ else kn))))] ++ [(ai, .inl (cI, 53, .inl (sF nZ dZ tZ dayZ alZ ndZ bbZ ooZ KZ FZ knZ)))] := by simp only [c_4, cond_true, cond_false]
    rw [hW9] at hP hD
    exact W.iret (v := nI (pcN tZ)) hx hb hr (fun T9 hT9 hW9 => ⟨⟨_, (), rfl, (by simp [c_4]), by rw [hT9]; exact hP, hD⟩, hS.F hT9⟩) hS.2.2 dX12_restore_30
  refine lv_bipush (v := (-3)) hx hb dX12_restore_7 (by decide +kernel) ?_
  have hW9 : ([(y, .inr (12, [.ref as, .ref ai, .ref ar, .ref am, .ref ak, .ref ao, .ref az, .ref ae, .ref aq, .ref af, .int (bI hi), .int th, .int (nI po), .int (nI ba), .int (nI en), .ref an, .ref aw, .ref ax, .ref ap, .int se]))] ++ [(as, .inl (cI, 53, .inl (sF n d t day al nd bb oo K F kn)))] ++ [(ai, .inl (cI, 53, .inl (sF nZ dZ tZ dayZ alZ ndZ bbZ ooZ KZ FZ knZ)))] : va_W) = [(y, .inr (12, [.ref as, .ref ai, .ref ar, .ref am, .ref ak, .ref ao, .ref az, .ref ae, .ref aq, .ref af, .int (bI hi), .int th, .int (nI po), .int (nI ba), .int (nI en), .ref an, .ref aw, .ref ax, .ref ap, .int se]))] ++ [(as, .inl (cI, 53, .inl (sF (bif hi then nZ else n) (bif hi then dZ else d) (bif hi then tZ else t) (bif hi then dayZ else day) (bif hi then alZ else al) (bif hi then ndZ else nd) (bif hi then bbZ else bb) (bif hi then ooZ else oo) (bif hi then KZ else K) (bif hi then FZ else F) (bif hi then knZ else kn))))] ++ [(ai, .inl (cI, 53, .inl (sF nZ dZ tZ dayZ alZ ndZ bbZ ooZ KZ FZ knZ)))] := by simp only [c_4, cond_true, cond_false]
  rw [hW9] at hP hD
  exact W.iret (v := (-3)) hx hb hr (fun T9 hT9 hW9 => ⟨⟨_, (), rfl, (by simp [c_4]), by rw [hT9]; exact hP, hD⟩, hS.F hT9⟩) hS.2.2 dX12_restore_9
set_option maxHeartbeats 4000000 in
set_option maxRecDepth 100000 in
theorem c_X12_count (l : Launch) (dC : Nat → ClassId) (dI : Nat → Nat → Nat) (cI cD cR : ClassId) (y as ai ar am ak ao az ae aq af : Nat) (hi : Bool) (th : Int32) (po ba en an aw ax ap : Nat) (se : Int32) (n d t day al : Nat) (nd : Nat → Nat) (bb oo : Nat → Int32) (K F kn : Nat → Nat) (w : Int32) (hn : n ≤ 9) (hd : d ≤ 7) (ht : t < 512) (hal : al < 128) (hday : day < 2 ^ 30) (gnd : ∀ i, nd i < 512) (gkn : ∀ j, kn j < 512) (gK : ∀ j, K j < 8) (gF : ∀ j, F j < 10) : Met l yX12_count wsX12_count ({ frames := 1, cells := 0, slots := 0, locals := 22 }) (pcR dC dI cI cD cR [.ref y, .int w] (fun H => va_P (dC, dI) vwCl ([(y, .inr (12, [.ref as, .ref ai, .ref ar, .ref am, .ref ak, .ref ao, .ref az, .ref ae, .ref aq, .ref af, .int (bI hi), .int th, .int (nI po), .int (nI ba), .int (nI en), .ref an, .ref aw, .ref ax, .ref ap, .int se]))] ++ [(as, .inl (cI, 53, .inl (sF n d t day al nd bb oo K F kn)))]) H)) (vp_Si (fun r => r = (if w = 0 then nI n else if w = 1 then nI d else if w = 2 then nI day else if w = 3 then nI (pcN t) else if w = 4 then nI (pcN al) else -1))) 0 0 (fun _ => False) := by
  refine Met.ofW (cc := cX12_count) (maxL := 2) (ret := (some .int)) (by decide) rfl ?_
  intro p e s m args below meth c s₁ B hml hv
  obtain ⟨rfl, hH0, hCX⟩ := hv
  have hx := B.exec
  have hb := B.bytes
  have hr := B.returns
  have hts := atoms_spec (ws := wsX12_count) B.pre
  have hown : s.vm.findClass RX12 = some m.cls := findClass_of_methodNamed B.named
  have hlocks := B.notSynchronized
  have hK := hCX.1
  have hP := hH0
  have hl := lv_entry ([.ref y, .int w]) (n := 2) (Nat.le_of_ble_eq_true rfl)
  rw [lg_entry_eq]
  generalize (lg_sl ([.ref y, .int w]) ++ List.replicate (2 - (lg_sl ([.ref y, .int w])).length) Slot.unset).toArray = ls at hl ⊢
  have hl : lv_has ls 2 [(0, .ref y), (1, .int w)] := hl
  refine lv_iload_n hx hb dX12_count_0 rfl (lv_at hl 1 rfl) ?_
  by_cases k_1_0 : w = 0
  · refine ho_tope (y := 0) k_1_0 ?_
    refine lv_tableIn (tgt := 36) hx hb dX12_count_1 (by decide +kernel) (by decide +kernel) (off := 35) (by decide +kernel) (by decide) ?_
    refine lv_aload_n hx hb dX12_count_36 rfl (lv_at hl 0 rfl) ?_
    refine va_get (D := (dC, dI)) (ci := 12) (v := .ref as) (C := RX12) (T := TX12) (N := 20) hx hb hts (fun _ h => List.mem_cons_of_mem _ (List.mem_append_right _ h)) hown hK hP 0 rfl rfl 0 (by decide) (hts (.fieldLink RX12 9 "HoldsOnceDeniedModel" "s" "[I") (by decide +kernel)) (fun _ h9 => h9) rfl dX12_count_37 ?_
    refine lv_iconst (v := nI 0) hx hb dX12_count_40 (by decide +kernel) ?_
    refine ho_iald (v := nI n) hx hb hK hP 1 0 rfl rfl (by omega) (by first | decide | omega) rfl dX12_count_41 ?_
    exact W.iret (v := nI n) hx hb hr (fun T9 hT9 hW9 => ⟨_, rfl, (by (simp [k_1_0]) <;> first | rfl | omega), hT9⟩) (fun q h => by cases h) dX12_count_42
  by_cases k_1_1 : w = 1
  · refine ho_tope (y := 1) k_1_1 ?_
    refine lv_tableIn (tgt := 43) hx hb dX12_count_1 (by decide +kernel) (by decide +kernel) (off := 42) (by decide +kernel) (by decide) ?_
    refine lv_aload_n hx hb dX12_count_43 rfl (lv_at hl 0 rfl) ?_
    refine va_get (D := (dC, dI)) (ci := 12) (v := .ref as) (C := RX12) (T := TX12) (N := 20) hx hb hts (fun _ h => List.mem_cons_of_mem _ (List.mem_append_right _ h)) hown hK hP 0 rfl rfl 0 (by decide) (hts (.fieldLink RX12 9 "HoldsOnceDeniedModel" "s" "[I") (by decide +kernel)) (fun _ h9 => h9) rfl dX12_count_44 ?_
    refine lv_iconst (v := nI 1) hx hb dX12_count_47 (by decide +kernel) ?_
    refine ho_iald (v := nI d) hx hb hK hP 1 0 rfl rfl (by omega) (by first | decide | omega) rfl dX12_count_48 ?_
    exact W.iret (v := nI d) hx hb hr (fun T9 hT9 hW9 => ⟨_, rfl, (by (simp [k_1_1]) <;> first | rfl | omega), hT9⟩) (fun q h => by cases h) dX12_count_49
  by_cases k_1_2 : w = 2
  · refine ho_tope (y := 2) k_1_2 ?_
    refine lv_tableIn (tgt := 50) hx hb dX12_count_1 (by decide +kernel) (by decide +kernel) (off := 49) (by decide +kernel) (by decide) ?_
    refine lv_aload_n hx hb dX12_count_50 rfl (lv_at hl 0 rfl) ?_
    refine va_get (D := (dC, dI)) (ci := 12) (v := .ref as) (C := RX12) (T := TX12) (N := 20) hx hb hts (fun _ h => List.mem_cons_of_mem _ (List.mem_append_right _ h)) hown hK hP 0 rfl rfl 0 (by decide) (hts (.fieldLink RX12 9 "HoldsOnceDeniedModel" "s" "[I") (by decide +kernel)) (fun _ h9 => h9) rfl dX12_count_51 ?_
    refine lv_iconst (v := nI 3) hx hb dX12_count_54 (by decide +kernel) ?_
    refine ho_iald (v := nI day) hx hb hK hP 1 0 rfl rfl (by omega) (by first | decide | omega) rfl dX12_count_55 ?_
    exact W.iret (v := nI day) hx hb hr (fun T9 hT9 hW9 => ⟨_, rfl, (by (simp [k_1_2]) <;> first | rfl | omega), hT9⟩) (fun q h => by cases h) dX12_count_56
  by_cases k_1_3 : w = 3
  · refine ho_tope (y := 3) k_1_3 ?_
    refine lv_tableIn (tgt := 57) hx hb dX12_count_1 (by decide +kernel) (by decide +kernel) (off := 56) (by decide +kernel) (by decide) ?_
    refine lv_aload_n hx hb dX12_count_57 rfl (lv_at hl 0 rfl) ?_
    refine va_get (D := (dC, dI)) (ci := 12) (v := .ref as) (C := RX12) (T := TX12) (N := 20) hx hb hts (fun _ h => List.mem_cons_of_mem _ (List.mem_append_right _ h)) hown hK hP 0 rfl rfl 0 (by decide) (hts (.fieldLink RX12 9 "HoldsOnceDeniedModel" "s" "[I") (by decide +kernel)) (fun _ h9 => h9) rfl dX12_count_58 ?_
    refine lv_iconst (v := nI 2) hx hb dX12_count_61 (by decide +kernel) ?_
    refine ho_iald (v := nI t) hx hb hK hP 1 0 rfl rfl (by omega) (by first | decide | omega) rfl dX12_count_62 ?_
    refine vp_callSi ((va_runS (As := [.int (nI t)]) (rest := []) ⟨hx, hb, hml, hown, hts⟩ (c_X12_bits l dC dI cI cD cR t (by first | omega | assumption | exact gnd _ | exact gkn _ | exact Nat.lt_trans (gkn _) (by decide) | exact Nat.lt_trans (gnd _) (by decide) | exact Nat.lt_of_le_of_lt (pcN_le _) (by decide))) (va_cwS 1 hts gX12_count_X12_bits rfl rfl rfl (by decide +kernel) ⟨Nat.le_of_ble_eq_true rfl, Nat.le_of_ble_eq_true rfl⟩) (preS_R hCX (trivial)) rfl rfl hl.1 rfl (lv_room (Nat.le_of_ble_eq_true rfl)) dX12_count_63 ⟨Nat.le_of_ble_eq_true (by first | rfl | decide), Nat.le_of_ble_eq_true (by first | rfl | decide)⟩).run) (fun r_63 hr_63 => ?_)
    subst hr_63
    exact W.iret (v := nI (pcN t)) hx hb hr (fun T9 hT9 hW9 => ⟨_, rfl, (by (simp [k_1_3]) <;> first | rfl | omega), hT9⟩) (fun q h => by cases h) dX12_count_66
  by_cases k_1_4 : w = 4
  · refine ho_tope (y := 4) k_1_4 ?_
    refine lv_tableIn (tgt := 67) hx hb dX12_count_1 (by decide +kernel) (by decide +kernel) (off := 66) (by decide +kernel) (by decide) ?_
    refine lv_aload_n hx hb dX12_count_67 rfl (lv_at hl 0 rfl) ?_
    refine va_get (D := (dC, dI)) (ci := 12) (v := .ref as) (C := RX12) (T := TX12) (N := 20) hx hb hts (fun _ h => List.mem_cons_of_mem _ (List.mem_append_right _ h)) hown hK hP 0 rfl rfl 0 (by decide) (hts (.fieldLink RX12 9 "HoldsOnceDeniedModel" "s" "[I") (by decide +kernel)) (fun _ h9 => h9) rfl dX12_count_68 ?_
    refine lv_iconst (v := nI 4) hx hb dX12_count_71 (by decide +kernel) ?_
    refine ho_iald (v := nI al) hx hb hK hP 1 0 rfl rfl (by omega) (by first | decide | omega) rfl dX12_count_72 ?_
    refine vp_callSi ((va_runS (As := [.int (nI al)]) (rest := []) ⟨hx, hb, hml, hown, hts⟩ (c_X12_bits l dC dI cI cD cR al (by first | omega | assumption | exact gnd _ | exact gkn _ | exact Nat.lt_trans (gkn _) (by decide) | exact Nat.lt_trans (gnd _) (by decide) | exact Nat.lt_of_le_of_lt (pcN_le _) (by decide))) (va_cwS 1 hts gX12_count_X12_bits rfl rfl rfl (by decide +kernel) ⟨Nat.le_of_ble_eq_true rfl, Nat.le_of_ble_eq_true rfl⟩) (preS_R hCX (trivial)) rfl rfl hl.1 rfl (lv_room (Nat.le_of_ble_eq_true rfl)) dX12_count_73 ⟨Nat.le_of_ble_eq_true (by first | rfl | decide), Nat.le_of_ble_eq_true (by first | rfl | decide)⟩).run) (fun r_73 hr_73 => ?_)
    subst hr_73
    exact W.iret (v := nI (pcN al)) hx hb hr (fun T9 hT9 hW9 => ⟨_, rfl, (by (simp [k_1_4]) <;> first | rfl | omega), hT9⟩) (fun q h => by cases h) dX12_count_76
  refine lv_tableOut (tgt := 77) hx hb dX12_count_1 (by have z0 := sw_ne k_1_0 (i := 0) rfl; have z1 := sw_ne k_1_1 (i := 1) rfl; have z2 := sw_ne k_1_2 (i := 2) rfl; have z3 := sw_ne k_1_3 (i := 3) rfl; have z4 := sw_ne k_1_4 (i := 4) rfl; show _ ∨ _; omega) (by decide) ?_
  refine lv_iconst (v := (-1)) hx hb dX12_count_77 (by decide +kernel) ?_
  exact W.iret (v := (-1)) hx hb hr (fun T9 hT9 hW9 => ⟨_, rfl, (by (simp [k_1_0, k_1_1, k_1_2, k_1_3, k_1_4]) <;> first | rfl | omega), hT9⟩) (fun q h => by cases h) dX12_count_78
set_option maxHeartbeats 4000000 in
set_option maxRecDepth 100000 in
theorem c_X12_price (l : Launch) (dC : Nat → ClassId) (dI : Nat → Nat → Nat) (cI cD cR : ClassId) (y as ai ar am ak ao az ae aq af : Nat) (hi : Bool) (th : Int32) (po ba en an aw ax ap : Nat) (se : Int32) (ke : Nat → Nat) (qk : Nat → Int32) (qf : Nat → Int32) (x9 : Int32) (gkk : ∀ j, ke j = 1 → okI (qk j) 8 = true ∧ okI (qf j) 10 = true) (gke2 : ∀ j, ke j ≤ 2) : Met l yX12_price wsX12_price ({ frames := 3, cells := 0, slots := 0, locals := 66 }) (pcR dC dI cI cD cR [.ref y, .int x9] (fun H => va_P (dC, dI) vwCl ([(y, .inr (12, [.ref as, .ref ai, .ref ar, .ref am, .ref ak, .ref ao, .ref az, .ref ae, .ref aq, .ref af, .int (bI hi), .int th, .int (nI po), .int (nI ba), .int (nI en), .ref an, .ref aw, .ref ax, .ref ap, .int se]))] ++ [(ak, .inl (cI, 8, .inl (nF ke)))] ++ [(aq, .inl (cI, 8, .inl qk))] ++ [(af, .inl (cI, 8, .inl qf))]) H)) (vp_Si (fun r => r = (on1 (oN x9 8) (fun y9 => if wkR ke y9 = 0 then nI (asN (nT (qk y9)) (nT (qf y9))) else wkR ke y9) (-1)))) 0 0 (fun _ => False) := by
  refine Met.ofW (cc := cX12_price) (maxL := 3) (ret := (some .int)) (by decide) rfl ?_
  intro p e s m args below meth c s₁ B hml hv
  obtain ⟨rfl, hH0, hCX⟩ := hv
  have hx := B.exec
  have hb := B.bytes
  have hr := B.returns
  have hts := atoms_spec (ws := wsX12_price) B.pre
  have hown : s.vm.findClass RX12 = some m.cls := findClass_of_methodNamed B.named
  have hlocks := B.notSynchronized
  have hK := hCX.1
  have hP := hH0
  have hl := lv_entry ([.ref y, .int x9]) (n := 3) (Nat.le_of_ble_eq_true rfl)
  rw [lg_entry_eq]
  generalize (lg_sl ([.ref y, .int x9]) ++ List.replicate (3 - (lg_sl ([.ref y, .int x9])).length) Slot.unset).toArray = ls at hl ⊢
  have hl : lv_has ls 3 [(0, .ref y), (1, .int x9)] := hl
  rcases okI_or x9 (n := 8) (by omega) with hb_x9 | ⟨y1, h_y1, rfl⟩
  · refine lv_aload_n hx hb dX12_price_0 rfl (lv_at hl 0 rfl) ?_
    refine lv_iload_n hx hb dX12_price_1 rfl (lv_at hl 1 rfl) ?_
    refine vp_callSi ((va_runV (As := [.int x9]) (rest := []) ⟨hx, hb, hml, hown, hts⟩ (c_X12_wrongKept_f l dC dI cI cD cR y as ai ar am ak ao az ae aq af hi th po ba en an aw ax ap se ke x9 (by first | omega | assumption | exact gnd _ | exact gkn _ | exact Nat.lt_trans (gkn _) (by decide) | exact Nat.lt_trans (gnd _) (by decide) | exact Nat.lt_of_le_of_lt (pcN_le _) (by decide))) (cwV 1 hts gX12_price_X12_wrongKept rfl rfl rfl (by decide +kernel) ⟨Nat.le_of_ble_eq_true rfl, Nat.le_of_ble_eq_true rfl⟩) (preV_R hCX (va_recv hK hP (ci := 12) (q0 := 0) rfl rfl) ((hP.sub (ws' := [(y, .inr (12, [.ref as, .ref ai, .ref ar, .ref am, .ref ak, .ref ao, .ref az, .ref ae, .ref aq, .ref af, .int (bI hi), .int th, .int (nI po), .int (nI ba), .int (nI en), .ref an, .ref aw, .ref ax, .ref ap, .int se]))] ++ [(ak, .inl (cI, 8, .inl (nF ke)))]) [0, 1] rfl))) rfl rfl hl.1 rfl (lv_room (Nat.le_of_ble_eq_true rfl)) dX12_price_2 ⟨Nat.le_of_ble_eq_true (by first | rfl | decide), Nat.le_of_ble_eq_true (by first | rfl | decide)⟩).run) (fun r_2 hr_2 => ?_)
    subst hr_2
    refine lv_istore_n (lv' := [(2, .int (-1)), (0, .ref y), (1, .int x9)]) hx hb dX12_price_5 rfl hl (by decide) rfl (fun ls hl => ?_)
    refine lv_iload_n hx hb dX12_price_6 rfl (lv_at hl 0 rfl) ?_
    refine lv_if_eq (tgt := 14) hx hb dX12_price_7 (by decide) (fun z => absurd z (by decide +kernel)) (fun _ => ?_)
    refine lv_iload_n hx hb dX12_price_10 rfl (lv_at hl 0 rfl) ?_
    refine lv_goto (tgt := 29) hx hb dX12_price_11 (by decide) ?_
    exact W.iret (v := (-1)) hx hb hr (fun T9 hT9 hW9 => ⟨_, rfl, (by (simp [on1, oN_f hb_x9]) <;> first | rfl | omega), hT9⟩) (fun q h => by cases h) dX12_price_29
  refine lv_aload_n hx hb dX12_price_0 rfl (lv_at hl 0 rfl) ?_
  refine lv_iload_n hx hb dX12_price_1 rfl (lv_at hl 1 rfl) ?_
  refine vp_callSi ((va_runV (As := [.int (nI y1)]) (rest := []) ⟨hx, hb, hml, hown, hts⟩ (c_X12_wrongKept_n l dC dI cI cD cR y as ai ar am ak ao az ae aq af hi th po ba en an aw ax ap se ke y1 (by first | omega | assumption | exact gnd _ | exact gkn _ | exact Nat.lt_trans (gkn _) (by decide) | exact Nat.lt_trans (gnd _) (by decide) | exact Nat.lt_of_le_of_lt (pcN_le _) (by decide)) gke2) (cwV 1 hts gX12_price_X12_wrongKept rfl rfl rfl (by decide +kernel) ⟨Nat.le_of_ble_eq_true rfl, Nat.le_of_ble_eq_true rfl⟩) (preV_R hCX (va_recv hK hP (ci := 12) (q0 := 0) rfl rfl) ((hP.sub (ws' := [(y, .inr (12, [.ref as, .ref ai, .ref ar, .ref am, .ref ak, .ref ao, .ref az, .ref ae, .ref aq, .ref af, .int (bI hi), .int th, .int (nI po), .int (nI ba), .int (nI en), .ref an, .ref aw, .ref ax, .ref ap, .int se]))] ++ [(ak, .inl (cI, 8, .inl (nF ke)))]) [0, 1] rfl))) rfl rfl hl.1 rfl (lv_room (Nat.le_of_ble_eq_true rfl)) dX12_price_2 ⟨Nat.le_of_ble_eq_true (by first | rfl | decide), Nat.le_of_ble_eq_true (by first | rfl | decide)⟩).run) (fun r_2 hr_2 => ?_)
  subst hr_2
  refine lv_istore_n (lv' := [(2, .int (wkR ke y1)), (0, .ref y), (1, .int (nI y1))]) hx hb dX12_price_5 rfl hl (by decide) rfl (fun ls hl => ?_)
  refine lv_iload_n hx hb dX12_price_6 rfl (lv_at hl 0 rfl) ?_
  refine lv_if_eq (tgt := 14) hx hb dX12_price_7 (by decide) (fun c_7 => ?_) (fun c_7 => ?_)
  · obtain ⟨gk1, gk2⟩ := gkk y1 (wk_0 c_7)
    have ek := (nT_ok (by decide) gk1).1
    have ef := (nT_ok (by decide) gk2).1
    refine lv_aload_n hx hb dX12_price_14 rfl (lv_at hl 1 rfl) ?_
    refine va_get (D := (dC, dI)) (ci := 12) (v := .ref aq) (C := RX12) (T := TX12) (N := 20) hx hb hts (fun _ h => List.mem_cons_of_mem _ (List.mem_append_right _ h)) hown hK hP 0 rfl rfl 8 (by decide) (hts (.fieldLink RX12 34 "HoldsOnceDeniedModel" "keptKind" "[I") (by decide +kernel)) (fun _ h9 => h9) rfl dX12_price_15 ?_
    refine lv_iload_n hx hb dX12_price_18 rfl (lv_at hl 2 rfl) ?_
    refine ho_iald (v := (qk y1)) hx hb hK hP 2 0 rfl rfl (by omega) (by first | decide | omega) rfl dX12_price_19 ?_
    refine ho_tope (y := nI (nT (qk y1))) ek ?_
    refine lv_aload_n hx hb dX12_price_20 rfl (lv_at hl 1 rfl) ?_
    refine va_get (D := (dC, dI)) (ci := 12) (v := .ref af) (C := RX12) (T := TX12) (N := 20) hx hb hts (fun _ h => List.mem_cons_of_mem _ (List.mem_append_right _ h)) hown hK hP 0 rfl rfl 9 (by decide) (hts (.fieldLink RX12 37 "HoldsOnceDeniedModel" "keptFigure" "[I") (by decide +kernel)) (fun _ h9 => h9) rfl dX12_price_21 ?_
    refine lv_iload_n hx hb dX12_price_24 rfl (lv_at hl 2 rfl) ?_
    refine ho_iald (v := (qf y1)) hx hb hK hP 3 0 rfl rfl (by omega) (by first | decide | omega) rfl dX12_price_25 ?_
    refine ho_tope (y := nI (nT (qf y1))) ef ?_
    refine vp_callSi ((va_runS (As := [.int (nI (nT (qk y1))), .int (nI (nT (qf y1)))]) (rest := []) ⟨hx, hb, hml, hown, hts⟩ (c_X12_priceBy l dC dI cI cD cR (nT (qk y1)) (nT (qf y1)) (nT_ok (by decide) gk1).2 (nT_ok (by decide) gk2).2) (va_cwS 2 hts gX12_price_X12_priceBy rfl rfl rfl (by decide +kernel) ⟨Nat.le_of_ble_eq_true rfl, Nat.le_of_ble_eq_true rfl⟩) (preS_R hCX (trivial)) rfl rfl hl.1 rfl (lv_room (Nat.le_of_ble_eq_true rfl)) dX12_price_26 ⟨Nat.le_of_ble_eq_true (by first | rfl | decide), Nat.le_of_ble_eq_true (by first | rfl | decide)⟩).run) (fun r_26 hr_26 => ?_)
    subst hr_26
    exact W.iret (v := nI (asN (nT (qk y1)) (nT (qf y1)))) hx hb hr (fun T9 hT9 hW9 => ⟨_, rfl, (by (simp [on1, c_7, oN_t h_y1]) <;> first | rfl | omega), hT9⟩) (fun q h => by cases h) dX12_price_29
  refine lv_iload_n hx hb dX12_price_10 rfl (lv_at hl 0 rfl) ?_
  refine lv_goto (tgt := 29) hx hb dX12_price_11 (by decide) ?_
  exact W.iret (v := (wkR ke y1)) hx hb hr (fun T9 hT9 hW9 => ⟨_, rfl, (by (simp [on1, c_7, oN_t h_y1]) <;> first | rfl | omega), hT9⟩) (fun q h => by cases h) dX12_price_29
