set_option maxHeartbeats 4000000 in
set_option maxRecDepth 100000 in
theorem c_X12_everNow (l : Launch) (dC : Nat → ClassId) (dI : Nat → Nat → Nat) (cI cD cR : ClassId) (y as ai ar am ak ao az ae aq af : Nat) (hi : Bool) (th : Int32) (po ba en an aw ax ap : Nat) (se : Int32) (n d t day al : Nat) (nd : Nat → Nat) (bb oo : Nat → Int32) (K F kn : Nat → Nat) (sz : Nat) (hn : n ≤ 9) (hd : d ≤ 7) (ht : t < 512) (hal : al < 128) (hday : day < 2 ^ 30) (gnd : ∀ i, nd i < 512) (gkn : ∀ j, kn j < 512) (gK : ∀ j, K j < 8) (gF : ∀ j, F j < 10) : Met l yX12_everNow wsX12_everNow ({ frames := 5, cells := 0, slots := 0, locals := 115 }) (pcR dC dI cI cD cR [.ref y] (fun H => H.size = sz ∧ va_P (dC, dI) vwCl ([(y, .inr (12, [.ref as, .ref ai, .ref ar, .ref am, .ref ak, .ref ao, .ref az, .ref ae, .ref aq, .ref af, .int (bI hi), .int th, .int (nI po), .int (nI ba), .int (nI en), .ref an, .ref aw, .ref ax, .ref ap, .int se]))] ++ [(as, .inl (cI, 53, .inl (sF n d t day al nd bb oo K F kn)))]) H ∧ va_D (fun _ => True) ([(y, .inr (12, [.ref as, .ref ai, .ref ar, .ref am, .ref ak, .ref ao, .ref az, .ref ae, .ref aq, .ref af, .int (bI hi), .int th, .int (nI po), .int (nI ba), .int (nI en), .ref an, .ref aw, .ref ax, .ref ap, .int se]))] ++ [(as, .inl (cI, 53, .inl (sF n d t day al nd bb oo K F kn)))]))) (va_Qi (fun r (_ : Unit) => r = nI (evN n al d nd K F kn 512 t)) (fun (_ : Unit) T9 => va_P (dC, dI) vwCl ([(y, .inr (12, [.ref as, .ref ai, .ref ar, .ref am, .ref ak, .ref ao, .ref az, .ref ae, .ref aq, .ref af, .int (bI hi), .int th, .int (nI po), .int (nI ba), .int (nI en), .ref an, .ref aw, .ref ax, .ref ap, .int se]))] ++ [(as, .inl (cI, 53, .inl (sF n d t day al nd bb oo K F kn)))]) T9.heap ∧ va_D (va_A ([(y, .inr (12, [.ref as, .ref ai, .ref ar, .ref am, .ref ak, .ref ao, .ref az, .ref ae, .ref aq, .ref af, .int (bI hi), .int th, .int (nI po), .int (nI ba), .int (nI en), .ref an, .ref aw, .ref ax, .ref ap, .int se]))] ++ [(as, .inl (cI, 53, .inl (sF n d t day al nd bb oo K F kn)))]) sz) ([(y, .inr (12, [.ref as, .ref ai, .ref ar, .ref am, .ref ak, .ref ao, .ref az, .ref ae, .ref aq, .ref af, .int (bI hi), .int th, .int (nI po), .int (nI ba), .int (nI en), .ref an, .ref aw, .ref ax, .ref ap, .int se]))] ++ [(as, .inl (cI, 53, .inl (sF n d t day al nd bb oo K F kn)))])) (va_A ([(y, .inr (12, [.ref as, .ref ai, .ref ar, .ref am, .ref ak, .ref ao, .ref az, .ref ae, .ref aq, .ref af, .int (bI hi), .int th, .int (nI po), .int (nI ba), .int (nI en), .ref an, .ref aw, .ref ax, .ref ap, .int se]))] ++ [(as, .inl (cI, 53, .inl (sF n d t day al nd bb oo K F kn)))]) sz)) 0 0 (va_A ([(y, .inr (12, [.ref as, .ref ai, .ref ar, .ref am, .ref ak, .ref ao, .ref az, .ref ae, .ref aq, .ref af, .int (bI hi), .int th, .int (nI po), .int (nI ba), .int (nI en), .ref an, .ref aw, .ref ax, .ref ap, .int se]))] ++ [(as, .inl (cI, 53, .inl (sF n d t day al nd bb oo K F kn)))]) sz) := by
  refine Met.ofW (cc := cX12_everNow) (maxL := 5) (ret := (some .int)) (by decide) rfl ?_
  intro p e s m args below meth c s₁ B hml hv
  obtain ⟨rfl, hH0, hCX⟩ := hv
  have hx := B.exec
  have hb := B.bytes
  have hr := B.returns
  have hts := atoms_spec (ws := wsX12_everNow) B.pre
  have hown : s.vm.findClass RX12 = some m.cls := findClass_of_methodNamed B.named
  have hlocks := B.notSynchronized
  have hK := hCX.1
  obtain ⟨hsz, hP, hD0⟩ := hH0
  subst hsz
  have hD := hD0.self (sz := s.heap.size)
  generalize hAe : va_A ([(y, .inr (12, [.ref as, .ref ai, .ref ar, .ref am, .ref ak, .ref ao, .ref az, .ref ae, .ref aq, .ref af, .int (bI hi), .int th, .int (nI po), .int (nI ba), .int (nI en), .ref an, .ref aw, .ref ax, .ref ap, .int se]))] ++ [(as, .inl (cI, 53, .inl (sF n d t day al nd bb oo K F kn)))]) s.heap.size = A at hD ⊢
  have hA : ∀ q : Nat, s.heap.size ≤ q → A q := fun q h => by rw [← hAe]; exact Or.inr h
  have hS : va_S A s.heap s.heap [] := va_S.rf
  have hP : va_P (dC, dI) vwCl ([(y, .inr (12, [.ref as, .ref ai, .ref ar, .ref am, .ref ak, .ref ao, .ref az, .ref ae, .ref aq, .ref af, .int (bI hi), .int th, .int (nI po), .int (nI ba), .int (nI en), .ref an, .ref aw, .ref ax, .ref ap, .int se]))] ++ [(as, .inl (cI, 53, .inl (sF n d t day al nd bb oo K F kn)))]) s.heap := hP
  have hl := lv_entry ([.ref y]) (n := 5) (Nat.le_of_ble_eq_true rfl)
  rw [lg_entry_eq]
  generalize (lg_sl ([.ref y]) ++ List.replicate (5 - (lg_sl ([.ref y])).length) Slot.unset).toArray = ls at hl ⊢
  have hl : lv_has ls 5 [(0, .ref y)] := hl
  refine lv_aload_n hx hb dX12_everNow_0 rfl (lv_at hl 0 rfl) ?_
  refine va_get (D := (dC, dI)) (ci := 12) (v := .ref as) (C := RX12) (T := TX12) (N := 20) hx hb hts (fun _ h => List.mem_cons_of_mem _ (List.mem_append_right _ h)) hown hK hP 0 rfl rfl 0 (by decide) (hts (.fieldLink RX12 9 "HoldsOnceDeniedModel" "s" "[I") (by decide +kernel)) (fun _ h9 => h9) rfl dX12_everNow_1 ?_
  refine lv_iconst (v := nI 2) hx hb dX12_everNow_4 (by decide +kernel) ?_
  refine ho_iald (v := nI t) hx hb hK hP 1 0 rfl rfl (by omega) (by first | decide | omega) rfl dX12_everNow_5 ?_
  refine lv_istore_n (lv' := [(1, .int (nI t)), (0, .ref y)]) hx hb dX12_everNow_6 rfl hl (by decide) rfl (fun ls hl => ?_)
  refine lv_iconst (v := nI 1) hx hb dX12_everNow_7 (by decide +kernel) ?_
  refine lv_istore_n (lv' := [(2, .int (nI 1)), (1, .int (nI t)), (0, .ref y)]) hx hb dX12_everNow_8 rfl hl (by decide) rfl (fun ls hl => ?_)
  have e9_2 : (nI 1 : Int32) = bI true := by rfl
  rw [e9_2] at hl
  refine ho_lpW (T := Nat × Bool) 5 (fun x9 => ([(y, .inr (12, [.ref as, .ref ai, .ref ar, .ref am, .ref ak, .ref ao, .ref az, .ref ae, .ref aq, .ref af, .int (bI hi), .int th, .int (nI po), .int (nI ba), .int (nI en), .ref an, .ref aw, .ref ax, .ref ap, .int se]))] ++ [(as, .inl (cI, 53, .inl (sF n d (evN n al d nd K F kn x9.1 t) day al nd bb oo K F kn)))] : va_W)) (fun x9 => [(2, .int (bI x9.2)), (1, .int (nI t)), (0, .ref y)]) (fun x9 => []) (fun x9 => (x9.1 ≤ 512) ∧ (x9.2 = true → x9.1 ≤ evN n al d nd K F kn x9.1 t) ∧ (x9.2 = false → evN n al d nd K F kn x9.1 t = evN n al d nd K F kn 512 t)) (fun x9 => (bif x9.2 then 1 else 0) + (513 - x9.1)) (0, true) ⟨by omega, fun _ => Nat.zero_le _, fun q => by cases q⟩ (lv_sub hl [0, 1, 2] rfl) hP hD hS ?_
  intro fu9 x9 H locs ls hI hm9 hP hD hS hl ih
  obtain ⟨k, more⟩ := x9
  obtain ⟨hk, hgk, hmo⟩ := hI
  have hl : lv_has ls 5 [(2, .int (bI more)), (1, .int (nI t)), (0, .ref y)] := hl
  have hk : k ≤ 512 := hk
  have hgk : more = true → k ≤ evN n al d nd K F kn k t := hgk
  have hmo : more = false → evN n al d nd K F kn k t = evN n al d nd K F kn 512 t := hmo
  have hm9 : (bif more then 1 else 0) + (513 - k) < fu9 + 1 := hm9
  have hP : va_P (dC, dI) vwCl ([(y, .inr (12, [.ref as, .ref ai, .ref ar, .ref am, .ref ak, .ref ao, .ref az, .ref ae, .ref aq, .ref af, .int (bI hi), .int th, .int (nI po), .int (nI ba), .int (nI en), .ref an, .ref aw, .ref ax, .ref ap, .int se]))] ++ [(as, .inl (cI, 53, .inl (sF n d (evN n al d nd K F kn k t) day al nd bb oo K F kn)))]) H := hP
  have hD : va_D A ([(y, .inr (12, [.ref as, .ref ai, .ref ar, .ref am, .ref ak, .ref ao, .ref az, .ref ae, .ref aq, .ref af, .int (bI hi), .int th, .int (nI po), .int (nI ba), .int (nI en), .ref an, .ref aw, .ref ax, .ref ap, .int se]))] ++ [(as, .inl (cI, 53, .inl (sF n d (evN n al d nd K F kn k t) day al nd bb oo K F kn)))]) := hD
  refine W.eq (g2 := F0 m 9 ls []) rfl ?_
  have ih9 := ih
  refine lv_iload_n hx hb dX12_everNow_9 rfl (lv_at hl 0 rfl) ?_
  refine ho_beq (tgt := 76) hx hb dX12_everNow_10 (by decide) (fun c_10 => ?_) (fun c_10 => ?_)
  · refine lv_aload_n hx hb dX12_everNow_76 rfl (lv_at hl 2 rfl) ?_
    refine va_get (D := (dC, dI)) (ci := 12) (v := .ref as) (C := RX12) (T := TX12) (N := 20) hx hb hts (fun _ h => List.mem_cons_of_mem _ (List.mem_append_right _ h)) hown hK hP 0 rfl rfl 0 (by decide) (hts (.fieldLink RX12 9 "HoldsOnceDeniedModel" "s" "[I") (by decide +kernel)) (fun _ h9 => h9) rfl dX12_everNow_77 ?_
    refine lv_iconst (v := nI 2) hx hb dX12_everNow_80 (by decide +kernel) ?_
    refine ho_iald (v := nI (evN n al d nd K F kn k t)) hx hb hK hP 1 0 rfl rfl (by omega) (by first | decide | omega) rfl dX12_everNow_81 ?_
    refine lv_istore_n (lv' := [(3, .int (nI (evN n al d nd K F kn k t))), (2, .int (bI more)), (1, .int (nI t)), (0, .ref y)]) hx hb dX12_everNow_82 rfl hl (by decide) rfl (fun ls hl => ?_)
    refine lv_aload_n hx hb dX12_everNow_83 rfl (lv_at hl 3 rfl) ?_
    refine va_get (D := (dC, dI)) (ci := 12) (v := .ref as) (C := RX12) (T := TX12) (N := 20) hx hb hts (fun _ h => List.mem_cons_of_mem _ (List.mem_append_right _ h)) hown hK hP 0 rfl rfl 0 (by decide) (hts (.fieldLink RX12 9 "HoldsOnceDeniedModel" "s" "[I") (by decide +kernel)) (fun _ h9 => h9) rfl dX12_everNow_84 ?_
    refine lv_iconst (v := nI 2) hx hb dX12_everNow_87 (by decide +kernel) ?_
    refine lv_iload_n hx hb dX12_everNow_88 rfl (lv_at hl 2 rfl) ?_
    refine ho_iast (g := sF n d t day al nd bb oo K F kn) hx hb hK hP hD hS 1 0 rfl rfl (by omega) (by first | decide | omega) sF_u2 dX12_everNow_89 (fun H locs hP hD hS => ?_)
    have hP : va_P (dC, dI) vwCl ([(y, .inr (12, [.ref as, .ref ai, .ref ar, .ref am, .ref ak, .ref ao, .ref az, .ref ae, .ref aq, .ref af, .int (bI hi), .int th, .int (nI po), .int (nI ba), .int (nI en), .ref an, .ref aw, .ref ax, .ref ap, .int se]))] ++ [(as, .inl (cI, 53, .inl (sF n d t day al nd bb oo K F kn)))]) H := hP
    have hD : va_D A ([(y, .inr (12, [.ref as, .ref ai, .ref ar, .ref am, .ref ak, .ref ao, .ref az, .ref ae, .ref aq, .ref af, .int (bI hi), .int th, .int (nI po), .int (nI ba), .int (nI en), .ref an, .ref aw, .ref ax, .ref ap, .int se]))] ++ [(as, .inl (cI, 53, .inl (sF n d t day al nd bb oo K F kn)))]) := hD
    refine lv_iload_n hx hb dX12_everNow_90 rfl (lv_at hl 0 rfl) ?_
    exact W.iret (v := nI (evN n al d nd K F kn k t)) hx hb hr (fun T9 hT9 hW9 => ⟨⟨_, (), rfl, (congrArg nI (by exact (hmo c_10))), by rw [hT9]; exact hP, hD⟩, hS.F hT9⟩) hS.2.2 dX12_everNow_91
  refine lv_aload_n hx hb dX12_everNow_13 rfl (lv_at hl 2 rfl) ?_
  refine va_get (D := (dC, dI)) (ci := 12) (v := .ref as) (C := RX12) (T := TX12) (N := 20) hx hb hts (fun _ h => List.mem_cons_of_mem _ (List.mem_append_right _ h)) hown hK hP 0 rfl rfl 0 (by decide) (hts (.fieldLink RX12 9 "HoldsOnceDeniedModel" "s" "[I") (by decide +kernel)) (fun _ h9 => h9) rfl dX12_everNow_14 ?_
  refine lv_iconst (v := nI 2) hx hb dX12_everNow_17 (by decide +kernel) ?_
  refine ho_iald (v := nI (evN n al d nd K F kn k t)) hx hb hK hP 1 0 rfl rfl (by omega) (by first | decide | omega) rfl dX12_everNow_18 ?_
  refine lv_istore_n (lv' := [(3, .int (nI (evN n al d nd K F kn k t))), (2, .int (bI more)), (1, .int (nI t)), (0, .ref y)]) hx hb dX12_everNow_19 rfl hl (by decide) rfl (fun ls hl => ?_)
  refine lv_iconst (v := nI 0) hx hb dX12_everNow_20 (by decide +kernel) ?_
  refine lv_istore (lv' := [(4, .int (nI 0)), (3, .int (nI (evN n al d nd K F kn k t))), (2, .int (bI more)), (1, .int (nI t)), (0, .ref y)]) hx hb dX12_everNow_21 hl (by decide) rfl (fun ls hl => ?_)
  have e9_3 : evN n al d nd K F kn k t = smA n (evN n al d nd K F kn k t) al nd K F kn 0 (evN n al d nd K F kn k t) := by rfl
  rw [e9_3] at hl
  refine ho_lp (T := Nat) 5 (fun x9 => [(4, .int (nI x9)), (3, .int (nI (smA n (evN n al d nd K F kn k t) al nd K F kn x9 (evN n al d nd K F kn k t)))), (2, .int (bI more)), (1, .int (nI t)), (0, .ref y)]) (fun x9 => []) (fun x9 => (x9 ≤ d)) (fun x9 => d - x9) 0 (by omega) (lv_sub hl [0, 1, 2, 3, 4] rfl) ?_
  intro fu23 j ls hI hm23 hl ih
  have hjd := hI
  have hl : lv_has ls 5 [(4, .int (nI j)), (3, .int (nI (smA n (evN n al d nd K F kn k t) al nd K F kn j (evN n al d nd K F kn k t)))), (2, .int (bI more)), (1, .int (nI t)), (0, .ref y)] := hl
  have hjd : j ≤ d := hjd
  have hm23 : d - j < fu23 + 1 := hm23
  refine W.eq (g2 := F0 m 23 ls []) rfl ?_
  have ih23 := ih
  refine lv_iload hx hb dX12_everNow_23 (lv_at hl 0 rfl) ?_
  refine lv_aload_n hx hb dX12_everNow_25 rfl (lv_at hl 4 rfl) ?_
  refine va_get (D := (dC, dI)) (ci := 12) (v := .ref as) (C := RX12) (T := TX12) (N := 20) hx hb hts (fun _ h => List.mem_cons_of_mem _ (List.mem_append_right _ h)) hown hK hP 0 rfl rfl 0 (by decide) (hts (.fieldLink RX12 9 "HoldsOnceDeniedModel" "s" "[I") (by decide +kernel)) (fun _ h9 => h9) rfl dX12_everNow_26 ?_
  refine lv_iconst (v := nI 1) hx hb dX12_everNow_29 (by decide +kernel) ?_
  refine ho_iald (v := nI d) hx hb hK hP 1 0 rfl rfl (by omega) (by first | decide | omega) rfl dX12_everNow_30 ?_
  refine ho_icmp_ge (tgt := 50) hx hb dX12_everNow_31 (by decide) (by omega) (by omega) (fun c_31 => ?_) (fun c_31 => ?_)
  · have e50 : smA n (evN n al d nd K F kn k t) al nd K F kn j (evN n al d nd K F kn k t) = evN n al d nd K F kn (k + 1) t := by rw [show j = d by omega]; rfl
    rw [e50] at hl
    refine lv_iload_n hx hb dX12_everNow_50 rfl (lv_at hl 1 rfl) ?_
    refine lv_aload_n hx hb dX12_everNow_51 rfl (lv_at hl 4 rfl) ?_
    refine va_get (D := (dC, dI)) (ci := 12) (v := .ref as) (C := RX12) (T := TX12) (N := 20) hx hb hts (fun _ h => List.mem_cons_of_mem _ (List.mem_append_right _ h)) hown hK hP 0 rfl rfl 0 (by decide) (hts (.fieldLink RX12 9 "HoldsOnceDeniedModel" "s" "[I") (by decide +kernel)) (fun _ h9 => h9) rfl dX12_everNow_52 ?_
    refine lv_iconst (v := nI 2) hx hb dX12_everNow_55 (by decide +kernel) ?_
    refine ho_iald (v := nI (evN n al d nd K F kn k t)) hx hb hK hP 1 0 rfl rfl (by omega) (by first | decide | omega) rfl dX12_everNow_56 ?_
    refine ho_icmp_eq (tgt := 64) hx hb dX12_everNow_57 (by decide) (Nat.lt_trans (evN_lt hn (k + 1) t ht) (by decide)) (Nat.lt_trans (evN_lt hn k t ht) (by decide)) (fun c_57 => ?_) (fun c_57 => ?_)
    · refine lv_iconst (v := nI 0) hx hb dX12_everNow_64 (by decide +kernel) ?_
      refine lv_istore_n (lv' := [(2, .int (nI 0)), (4, .int (nI j)), (3, .int (nI (evN n al d nd K F kn (k + 1) t))), (1, .int (nI t)), (0, .ref y)]) hx hb dX12_everNow_65 rfl hl (by decide) rfl (fun ls hl => ?_)
      refine lv_aload_n hx hb dX12_everNow_66 rfl (lv_at hl 4 rfl) ?_
      refine va_get (D := (dC, dI)) (ci := 12) (v := .ref as) (C := RX12) (T := TX12) (N := 20) hx hb hts (fun _ h => List.mem_cons_of_mem _ (List.mem_append_right _ h)) hown hK hP 0 rfl rfl 0 (by decide) (hts (.fieldLink RX12 9 "HoldsOnceDeniedModel" "s" "[I") (by decide +kernel)) (fun _ h9 => h9) rfl dX12_everNow_67 ?_
      refine lv_iconst (v := nI 2) hx hb dX12_everNow_70 (by decide +kernel) ?_
      refine lv_iload_n hx hb dX12_everNow_71 rfl (lv_at hl 2 rfl) ?_
      refine ho_iast (g := sF n d (evN n al d nd K F kn (k + 1) t) day al nd bb oo K F kn) hx hb hK hP hD hS 1 0 rfl rfl (by omega) (by first | decide | omega) sF_u2 dX12_everNow_72 (fun H locs hP hD hS => ?_)
      have hP : va_P (dC, dI) vwCl ([(y, .inr (12, [.ref as, .ref ai, .ref ar, .ref am, .ref ak, .ref ao, .ref az, .ref ae, .ref aq, .ref af, .int (bI hi), .int th, .int (nI po), .int (nI ba), .int (nI en), .ref an, .ref aw, .ref ax, .ref ap, .int se]))] ++ [(as, .inl (cI, 53, .inl (sF n d (evN n al d nd K F kn (k + 1) t) day al nd bb oo K F kn)))]) H := hP
      have hD : va_D A ([(y, .inr (12, [.ref as, .ref ai, .ref ar, .ref am, .ref ak, .ref ao, .ref az, .ref ae, .ref aq, .ref af, .int (bI hi), .int th, .int (nI po), .int (nI ba), .int (nI en), .ref an, .ref aw, .ref ax, .ref ap, .int se]))] ++ [(as, .inl (cI, 53, .inl (sF n d (evN n al d nd K F kn (k + 1) t) day al nd bb oo K F kn)))]) := hD
      refine lv_goto (tgt := 9) hx hb dX12_everNow_73 (by decide) ?_
      have e9_2 : (nI 0 : Int32) = bI false := by rfl
      rw [e9_2] at hl
      have hW9 : ([(y, .inr (12, [.ref as, .ref ai, .ref ar, .ref am, .ref ak, .ref ao, .ref az, .ref ae, .ref aq, .ref af, .int (bI hi), .int th, .int (nI po), .int (nI ba), .int (nI en), .ref an, .ref aw, .ref ax, .ref ap, .int se]))] ++ [(as, .inl (cI, 53, .inl (sF n d (evN n al d nd K F kn (k + 1) t) day al nd bb oo K F kn)))] : va_W) = [(y, .inr (12, [.ref as, .ref ai, .ref ar, .ref am, .ref ak, .ref ao, .ref az, .ref ae, .ref aq, .ref af, .int (bI hi), .int th, .int (nI po), .int (nI ba), .int (nI en), .ref an, .ref aw, .ref ax, .ref ap, .int se]))] ++ [(as, .inl (cI, 53, .inl (sF n d (evN n al d nd K F kn k t) day al nd bb oo K F kn)))] := by rw [c_57]
      rw [hW9] at hP hD
      exact ih9 ((k, false)) _ _ _ ⟨hk, fun q => (by cases q), fun _ => evN_512 c_57 hk⟩ (show (bif false then 1 else 0) + (513 - k) < fu9 from (by rw [c_10] at hm9; simp only [cond_true, cond_false] at hm9 ⊢; omega)) hP hD hS (lv_sub hl [0, 3, 4] rfl)
    refine lv_iconst (v := nI 1) hx hb dX12_everNow_60 (by decide +kernel) ?_
    refine lv_goto (tgt := 65) hx hb dX12_everNow_61 (by decide) ?_
    refine lv_istore_n (lv' := [(2, .int (nI 1)), (4, .int (nI j)), (3, .int (nI (evN n al d nd K F kn (k + 1) t))), (1, .int (nI t)), (0, .ref y)]) hx hb dX12_everNow_65 rfl hl (by decide) rfl (fun ls hl => ?_)
    refine lv_aload_n hx hb dX12_everNow_66 rfl (lv_at hl 4 rfl) ?_
    refine va_get (D := (dC, dI)) (ci := 12) (v := .ref as) (C := RX12) (T := TX12) (N := 20) hx hb hts (fun _ h => List.mem_cons_of_mem _ (List.mem_append_right _ h)) hown hK hP 0 rfl rfl 0 (by decide) (hts (.fieldLink RX12 9 "HoldsOnceDeniedModel" "s" "[I") (by decide +kernel)) (fun _ h9 => h9) rfl dX12_everNow_67 ?_
    refine lv_iconst (v := nI 2) hx hb dX12_everNow_70 (by decide +kernel) ?_
    refine lv_iload_n hx hb dX12_everNow_71 rfl (lv_at hl 2 rfl) ?_
    refine ho_iast (g := sF n d (evN n al d nd K F kn (k + 1) t) day al nd bb oo K F kn) hx hb hK hP hD hS 1 0 rfl rfl (by omega) (by first | decide | omega) sF_u2 dX12_everNow_72 (fun H locs hP hD hS => ?_)
    have hP : va_P (dC, dI) vwCl ([(y, .inr (12, [.ref as, .ref ai, .ref ar, .ref am, .ref ak, .ref ao, .ref az, .ref ae, .ref aq, .ref af, .int (bI hi), .int th, .int (nI po), .int (nI ba), .int (nI en), .ref an, .ref aw, .ref ax, .ref ap, .int se]))] ++ [(as, .inl (cI, 53, .inl (sF n d (evN n al d nd K F kn (k + 1) t) day al nd bb oo K F kn)))]) H := hP
    have hD : va_D A ([(y, .inr (12, [.ref as, .ref ai, .ref ar, .ref am, .ref ak, .ref ao, .ref az, .ref ae, .ref aq, .ref af, .int (bI hi), .int th, .int (nI po), .int (nI ba), .int (nI en), .ref an, .ref aw, .ref ax, .ref ap, .int se]))] ++ [(as, .inl (cI, 53, .inl (sF n d (evN n al d nd K F kn (k + 1) t) day al nd bb oo K F kn)))]) := hD
    refine lv_goto (tgt := 9) hx hb dX12_everNow_73 (by decide) ?_
    have e9_2 : (nI 1 : Int32) = bI true := by rfl
    rw [e9_2] at hl
    exact ih9 ((k + 1, true)) _ _ _ (ev_more hk c_57 (hgk c_10) (evN_lt hn (k + 1) t ht)) (show (bif true then 1 else 0) + (513 - (k + 1)) < fu9 from (by rw [c_10] at hm9; simp only [cond_true, cond_false] at hm9 ⊢; omega)) hP hD hS (lv_sub hl [0, 3, 4] rfl)
  refine lv_iload_n hx hb dX12_everNow_34 rfl (lv_at hl 1 rfl) ?_
  refine lv_aload_n hx hb dX12_everNow_35 rfl (lv_at hl 4 rfl) ?_
  refine lv_iload hx hb dX12_everNow_36 (lv_at hl 0 rfl) ?_
  refine lv_iconst (v := nI 0) hx hb dX12_everNow_38 (by decide +kernel) ?_
  refine vp_callSi ((va_runV (As := [.int (nI j), .int (nI 0)]) (rest := [.int (nI (smA n (evN n al d nd K F kn k t) al nd K F kn j (evN n al d nd K F kn k t)))]) ⟨hx, hb, hml, hown, hts⟩ (c_X12_silencesOf l dC dI cI cD cR y as ai ar am ak ao az ae aq af hi th po ba en an aw ax ap se n d (evN n al d nd K F kn k t) day al nd bb oo K F kn j 0 (by first | omega | assumption | exact gnd _ | exact gkn _ | exact Nat.lt_trans (gkn _) (by decide) | exact Nat.lt_trans (gnd _) (by decide) | exact Nat.lt_of_le_of_lt (pcN_le _) (by decide)) (by first | omega | assumption | exact gnd _ | exact gkn _ | exact Nat.lt_trans (gkn _) (by decide) | exact Nat.lt_trans (gnd _) (by decide) | exact Nat.lt_of_le_of_lt (pcN_le _) (by decide)) (evN_lt hn k t ht) (by first | omega | assumption | exact gnd _ | exact gkn _ | exact Nat.lt_trans (gkn _) (by decide) | exact Nat.lt_trans (gnd _) (by decide) | exact Nat.lt_of_le_of_lt (pcN_le _) (by decide)) (by first | omega | assumption | exact gnd _ | exact gkn _ | exact Nat.lt_trans (gkn _) (by decide) | exact Nat.lt_trans (gnd _) (by decide) | exact Nat.lt_of_le_of_lt (pcN_le _) (by decide)) gnd gkn gK gF (by first | omega | assumption | exact gnd _ | exact gkn _ | exact Nat.lt_trans (gkn _) (by decide) | exact Nat.lt_trans (gnd _) (by decide) | exact Nat.lt_of_le_of_lt (pcN_le _) (by decide)) (by first | omega | assumption | exact gnd _ | exact gkn _ | exact Nat.lt_trans (gkn _) (by decide) | exact Nat.lt_trans (gnd _) (by decide) | exact Nat.lt_of_le_of_lt (pcN_le _) (by decide))) (cwV 2 hts gX12_everNow_X12_silencesOf rfl rfl rfl (by decide +kernel) ⟨Nat.le_of_ble_eq_true rfl, Nat.le_of_ble_eq_true rfl⟩) (preV_R hCX (va_recv hK hP (ci := 12) (q0 := 0) rfl rfl) (hP)) rfl rfl hl.1 rfl (lv_room (Nat.le_of_ble_eq_true rfl)) dX12_everNow_39 ⟨Nat.le_of_ble_eq_true (by first | rfl | decide), Nat.le_of_ble_eq_true (by first | rfl | decide)⟩).run) (fun r_39 hr_39 => ?_)
  subst hr_39
  refine ho_ior hx hb dX12_everNow_42 ?_
  refine lv_istore_n (lv' := [(3, .int (nI ((smA n (evN n al d nd K F kn k t) al nd K F kn j (evN n al d nd K F kn k t)) ||| (smN n (evN n al d nd K F kn k t) al nd K F kn (0 % 2 != 0) j)))), (4, .int (nI j)), (2, .int (bI more)), (1, .int (nI t)), (0, .ref y)]) hx hb dX12_everNow_43 rfl hl (by decide) rfl (fun ls hl => ?_)
  refine ho_iinc (lv' := [(4, .int (nI (j + 1))), (3, .int (nI ((smA n (evN n al d nd K F kn k t) al nd K F kn j (evN n al d nd K F kn k t)) ||| (smN n (evN n al d nd K F kn k t) al nd K F kn (0 % 2 != 0) j)))), (2, .int (bI more)), (1, .int (nI t)), (0, .ref y)]) (a := j) (b := 1) hx hb dX12_everNow_44 hl (k := 1) rfl rfl (by decide) rfl (fun ls hl => ?_)
  refine lv_goto (tgt := 23) hx hb dX12_everNow_47 (by decide) ?_
  have e9_3 : (smA n (evN n al d nd K F kn k t) al nd K F kn j (evN n al d nd K F kn k t)) ||| (smN n (evN n al d nd K F kn k t) al nd K F kn (0 % 2 != 0) j) = smA n (evN n al d nd K F kn k t) al nd K F kn (j + 1) (evN n al d nd K F kn k t) := by rfl
  rw [e9_3] at hl
  exact ih23 (j + 1) _ (by omega) (show d - (j + 1) < fu23 from (by omega)) (lv_sub hl [0, 1, 2, 3, 4] rfl)
set_option maxHeartbeats 4000000 in
set_option maxRecDepth 100000 in
theorem c_X12_ever (l : Launch) (dC : Nat → ClassId) (dI : Nat → Nat → Nat) (cI cD cR : ClassId) (y as ai ar am ak ao az ae aq af : Nat) (hi : Bool) (th : Int32) (po ba en an aw ax ap : Nat) (se : Int32) (n d t day al : Nat) (nd : Nat → Nat) (bb oo : Nat → Int32) (K F kn : Nat → Nat) (sz : Nat) (hn : n ≤ 9) (hd : d ≤ 7) (ht : t < 512) (hal : al < 128) (hday : day < 2 ^ 30) (gnd : ∀ i, nd i < 512) (gkn : ∀ j, kn j < 512) (gK : ∀ j, K j < 8) (gF : ∀ j, F j < 10) : Met l yX12_ever wsX12_ever ({ frames := 6, cells := 0, slots := 0, locals := 139 }) (pcR dC dI cI cD cR [.ref y] (fun H => H.size = sz ∧ va_P (dC, dI) vwCl ([(y, .inr (12, [.ref as, .ref ai, .ref ar, .ref am, .ref ak, .ref ao, .ref az, .ref ae, .ref aq, .ref af, .int (bI hi), .int th, .int (nI po), .int (nI ba), .int (nI en), .ref an, .ref aw, .ref ax, .ref ap, .int se]))] ++ [(as, .inl (cI, 53, .inl (sF n d t day al nd bb oo K F kn)))]) H ∧ va_D (fun _ => True) ([(y, .inr (12, [.ref as, .ref ai, .ref ar, .ref am, .ref ak, .ref ao, .ref az, .ref ae, .ref aq, .ref af, .int (bI hi), .int th, .int (nI po), .int (nI ba), .int (nI en), .ref an, .ref aw, .ref ax, .ref ap, .int se]))] ++ [(as, .inl (cI, 53, .inl (sF n d t day al nd bb oo K F kn)))]))) (va_Qi (fun r (_ : Unit) => r = nI (evN n al d nd K F kn 512 t)) (fun (_ : Unit) T9 => va_P (dC, dI) vwCl ([(y, .inr (12, [.ref as, .ref ai, .ref ar, .ref am, .ref ak, .ref ao, .ref az, .ref ae, .ref aq, .ref af, .int (bI hi), .int th, .int (nI po), .int (nI ba), .int (nI en), .ref an, .ref aw, .ref ax, .ref ap, .int se]))] ++ [(as, .inl (cI, 53, .inl (sF n d t day al nd bb oo K F kn)))]) T9.heap ∧ va_D (va_A ([(y, .inr (12, [.ref as, .ref ai, .ref ar, .ref am, .ref ak, .ref ao, .ref az, .ref ae, .ref aq, .ref af, .int (bI hi), .int th, .int (nI po), .int (nI ba), .int (nI en), .ref an, .ref aw, .ref ax, .ref ap, .int se]))] ++ [(as, .inl (cI, 53, .inl (sF n d t day al nd bb oo K F kn)))]) sz) ([(y, .inr (12, [.ref as, .ref ai, .ref ar, .ref am, .ref ak, .ref ao, .ref az, .ref ae, .ref aq, .ref af, .int (bI hi), .int th, .int (nI po), .int (nI ba), .int (nI en), .ref an, .ref aw, .ref ax, .ref ap, .int se]))] ++ [(as, .inl (cI, 53, .inl (sF n d t day al nd bb oo K F kn)))])) (va_A ([(y, .inr (12, [.ref as, .ref ai, .ref ar, .ref am, .ref ak, .ref ao, .ref az, .ref ae, .ref aq, .ref af, .int (bI hi), .int th, .int (nI po), .int (nI ba), .int (nI en), .ref an, .ref aw, .ref ax, .ref ap, .int se]))] ++ [(as, .inl (cI, 53, .inl (sF n d t day al nd bb oo K F kn)))]) sz)) 0 0 (va_A ([(y, .inr (12, [.ref as, .ref ai, .ref ar, .ref am, .ref ak, .ref ao, .ref az, .ref ae, .ref aq, .ref af, .int (bI hi), .int th, .int (nI po), .int (nI ba), .int (nI en), .ref an, .ref aw, .ref ax, .ref ap, .int se]))] ++ [(as, .inl (cI, 53, .inl (sF n d t day al nd bb oo K F kn)))]) sz) := by
  refine Met.ofW (cc := cX12_ever) (maxL := 1) (ret := (some .int)) (by decide) rfl ?_
  intro p e s m args below meth c s₁ B hml hv
  obtain ⟨rfl, hH0, hCX⟩ := hv
  have hx := B.exec
  have hb := B.bytes
  have hr := B.returns
  have hts := atoms_spec (ws := wsX12_ever) B.pre
  have hown : s.vm.findClass RX12 = some m.cls := findClass_of_methodNamed B.named
  have hlocks := B.notSynchronized
  have hK := hCX.1
  obtain ⟨hsz, hP, hD0⟩ := hH0
  subst hsz
  have hD := hD0.self (sz := s.heap.size)
  generalize hAe : va_A ([(y, .inr (12, [.ref as, .ref ai, .ref ar, .ref am, .ref ak, .ref ao, .ref az, .ref ae, .ref aq, .ref af, .int (bI hi), .int th, .int (nI po), .int (nI ba), .int (nI en), .ref an, .ref aw, .ref ax, .ref ap, .int se]))] ++ [(as, .inl (cI, 53, .inl (sF n d t day al nd bb oo K F kn)))]) s.heap.size = A at hD ⊢
  have hA : ∀ q : Nat, s.heap.size ≤ q → A q := fun q h => by rw [← hAe]; exact Or.inr h
  have hS : va_S A s.heap s.heap [] := va_S.rf
  have hP : va_P (dC, dI) vwCl ([(y, .inr (12, [.ref as, .ref ai, .ref ar, .ref am, .ref ak, .ref ao, .ref az, .ref ae, .ref aq, .ref af, .int (bI hi), .int th, .int (nI po), .int (nI ba), .int (nI en), .ref an, .ref aw, .ref ax, .ref ap, .int se]))] ++ [(as, .inl (cI, 53, .inl (sF n d t day al nd bb oo K F kn)))]) s.heap := hP
  have hl := lv_entry ([.ref y]) (n := 1) (Nat.le_of_ble_eq_true rfl)
  rw [lg_entry_eq]
  generalize (lg_sl ([.ref y]) ++ List.replicate (1 - (lg_sl ([.ref y])).length) Slot.unset).toArray = ls at hl ⊢
  have hl : lv_has ls 1 [(0, .ref y)] := hl
  refine lv_aload_n hx hb dX12_ever_0 rfl (lv_at hl 0 rfl) ?_
  have hPc := hP
  have hDc := hD
  have hFc := va_free (wc := [(y, .inr (12, [.ref as, .ref ai, .ref ar, .ref am, .ref ak, .ref ao, .ref az, .ref ae, .ref aq, .ref af, .int (bI hi), .int th, .int (nI po), .int (nI ba), .int (nI en), .ref an, .ref aw, .ref ax, .ref ap, .int se]))] ++ [(as, .inl (cI, 53, .inl (sF n d t day al nd bb oo K F kn)))]) hD hS hA [0, 1] rfl
  refine va_calli (va_runV (As := []) (rest := []) ⟨hx, hb, hml, hown, hts⟩ (c_X12_everNow l dC dI cI cD cR y as ai ar am ak ao az ae aq af hi th po ba en an aw ax ap se n d t day al nd bb oo K F kn s.heap.size (by first | omega | assumption | exact gnd _ | exact gkn _ | exact Nat.lt_trans (gkn _) (by decide) | exact Nat.lt_trans (gnd _) (by decide) | exact Nat.lt_of_le_of_lt (pcN_le _) (by decide)) (by first | omega | assumption | exact gnd _ | exact gkn _ | exact Nat.lt_trans (gkn _) (by decide) | exact Nat.lt_trans (gnd _) (by decide) | exact Nat.lt_of_le_of_lt (pcN_le _) (by decide)) (by first | omega | assumption | exact gnd _ | exact gkn _ | exact Nat.lt_trans (gkn _) (by decide) | exact Nat.lt_trans (gnd _) (by decide) | exact Nat.lt_of_le_of_lt (pcN_le _) (by decide)) (by first | omega | assumption | exact gnd _ | exact gkn _ | exact Nat.lt_trans (gkn _) (by decide) | exact Nat.lt_trans (gnd _) (by decide) | exact Nat.lt_of_le_of_lt (pcN_le _) (by decide)) (by first | omega | assumption | exact gnd _ | exact gkn _ | exact Nat.lt_trans (gkn _) (by decide) | exact Nat.lt_trans (gnd _) (by decide) | exact Nat.lt_of_le_of_lt (pcN_le _) (by decide)) gnd gkn gK gF) (cwV 0 hts gX12_ever_X12_everNow rfl rfl rfl (by decide +kernel) ⟨Nat.le_of_ble_eq_true rfl, Nat.le_of_ble_eq_true rfl⟩) (preV_R hCX (va_recv hK hP (ci := 12) (q0 := 0) rfl rfl) ⟨rfl, hPc, hDc.weaken (fun _ _ _ _ => trivial)⟩) rfl rfl hl.1 rfl (lv_room (Nat.le_of_ble_eq_true rfl)) dX12_ever_1 ⟨Nat.le_of_ble_eq_true (by first | rfl | decide), Nat.le_of_ble_eq_true (by first | rfl | decide)⟩) hS (fun q _ h => hFc q h) hFc (fun r_1 u T8 H1 locs hT8 hvm hw hB hz1 hk1 hS => ?_)
  obtain ⟨hP1, hD1⟩ := hB
  rw [hT8] at hP1
  obtain ⟨hP, hD⟩ := va_join (wr := []) (w1 := [(y, .inr (12, [.ref as, .ref ai, .ref ar, .ref am, .ref ak, .ref ao, .ref az, .ref ae, .ref aq, .ref af, .int (bI hi), .int th, .int (nI po), .int (nI ba), .int (nI en), .ref an, .ref aw, .ref ax, .ref ap, .int se]))] ++ [(as, .inl (cI, 53, .inl (sF n d t day al nd bb oo K F kn)))]) hP hD [0, 1] [] rfl rfl (by decide) (by decide) hk1 hFc hP1 hD1
  generalize H1 = H at hP hS ⊢
  have hP : va_P (dC, dI) vwCl ([(y, .inr (12, [.ref as, .ref ai, .ref ar, .ref am, .ref ak, .ref ao, .ref az, .ref ae, .ref aq, .ref af, .int (bI hi), .int th, .int (nI po), .int (nI ba), .int (nI en), .ref an, .ref aw, .ref ax, .ref ap, .int se]))] ++ [(as, .inl (cI, 53, .inl (sF n d t day al nd bb oo K F kn)))]) H := hP
  have hD : va_D A ([(y, .inr (12, [.ref as, .ref ai, .ref ar, .ref am, .ref ak, .ref ao, .ref az, .ref ae, .ref aq, .ref af, .int (bI hi), .int th, .int (nI po), .int (nI ba), .int (nI en), .ref an, .ref aw, .ref ax, .ref ap, .int se]))] ++ [(as, .inl (cI, 53, .inl (sF n d t day al nd bb oo K F kn)))]) := hD
  subst hw
  exact W.iret (v := nI (evN n al d nd K F kn 512 t)) hx hb hr (fun T9 hT9 hW9 => ⟨⟨_, (), rfl, rfl, by rw [hT9]; exact hP, hD⟩, hS.F hT9⟩) hS.2.2 dX12_ever_4
