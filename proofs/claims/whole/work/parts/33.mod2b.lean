set_option maxHeartbeats 4000000 in
set_option maxRecDepth 100000 in
theorem c_X12_growsBy (l : Launch) (dC : Nat → ClassId) (dI : Nat → Nat → Nat) (cI cD cR : ClassId) (y as ai ar am ak ao az ae aq af : Nat) (hi : Bool) (th : Int32) (po ba en an aw ax ap : Nat) (se : Int32) (n d t day al : Nat) (nd : Nat → Nat) (bb oo : Nat → Int32) (K F kn : Nat → Nat) (fe : Nat → Option Nat) (ea : Nat → Option Nat) (i v w : Nat) (sz : Nat) (hn : n ≤ 9) (hd : d ≤ 7) (ht : t < 512) (hal : al < 128) (hday : day < 2 ^ 30) (gnd : ∀ i, nd i < 512) (gkn : ∀ j, kn j < 512) (gK : ∀ j, K j < 8) (gF : ∀ j, F j < 10) (hi9 : i < n) (hfv : fe t = some v) (hew : ea t = some w) (gfe : ∀ k v, fe k = some v → v ≤ 1 * k) (gea : ∀ k v, ea k = some v → v ≤ 1000 * k) : Met l yX12_growsBy wsX12_growsBy ({ frames := 5, cells := 0, slots := 0, locals := 115 }) (pcR dC dI cI cD cR [.ref y, .int (nI t), .int (nI i)] (fun H => H.size = sz ∧ va_P (dC, dI) vwCl ([(y, .inr (12, [.ref as, .ref ai, .ref ar, .ref am, .ref ak, .ref ao, .ref az, .ref ae, .ref aq, .ref af, .int (bI hi), .int th, .int (nI po), .int (nI ba), .int (nI en), .ref an, .ref aw, .ref ax, .ref ap, .int se]))] ++ [(as, .inl (cI, 53, .inl (sF n d t day al nd bb oo K F kn)))] ++ [(aw, .inl (cI, 512, .inl (oF fe)))] ++ [(ax, .inl (cI, 512, .inl (oF ea)))]) H ∧ va_D (fun _ => True) ([(y, .inr (12, [.ref as, .ref ai, .ref ar, .ref am, .ref ak, .ref ao, .ref az, .ref ae, .ref aq, .ref af, .int (bI hi), .int th, .int (nI po), .int (nI ba), .int (nI en), .ref an, .ref aw, .ref ax, .ref ap, .int se]))] ++ [(as, .inl (cI, 53, .inl (sF n d t day al nd bb oo K F kn)))] ++ [(aw, .inl (cI, 512, .inl (oF fe)))] ++ [(ax, .inl (cI, 512, .inl (oF ea)))]))) (va_Qv (fun (_ : Unit) => True) (fun (_ : Unit) T9 => va_P (dC, dI) vwCl ([(y, .inr (12, [.ref as, .ref ai, .ref ar, .ref am, .ref ak, .ref ao, .ref az, .ref ae, .ref aq, .ref af, .int (bI hi), .int th, .int (nI po), .int (nI ba), .int (nI en), .ref an, .ref aw, .ref ax, .ref ap, .int se]))] ++ [(as, .inl (cI, 53, .inl (sF n d t day al nd bb oo K F kn)))] ++ [(aw, .inl (cI, 512, .inl (oF (gbF fe t i (leS n t al nd K F kn i d)))))] ++ [(ax, .inl (cI, 512, .inl (oF (gbE ea t i (leS n t al nd K F kn i d)))))]) T9.heap ∧ va_D (va_A ([(y, .inr (12, [.ref as, .ref ai, .ref ar, .ref am, .ref ak, .ref ao, .ref az, .ref ae, .ref aq, .ref af, .int (bI hi), .int th, .int (nI po), .int (nI ba), .int (nI en), .ref an, .ref aw, .ref ax, .ref ap, .int se]))] ++ [(as, .inl (cI, 53, .inl (sF n d t day al nd bb oo K F kn)))] ++ [(aw, .inl (cI, 512, .inl (oF fe)))] ++ [(ax, .inl (cI, 512, .inl (oF ea)))]) sz) ([(y, .inr (12, [.ref as, .ref ai, .ref ar, .ref am, .ref ak, .ref ao, .ref az, .ref ae, .ref aq, .ref af, .int (bI hi), .int th, .int (nI po), .int (nI ba), .int (nI en), .ref an, .ref aw, .ref ax, .ref ap, .int se]))] ++ [(as, .inl (cI, 53, .inl (sF n d t day al nd bb oo K F kn)))] ++ [(aw, .inl (cI, 512, .inl (oF (gbF fe t i (leS n t al nd K F kn i d)))))] ++ [(ax, .inl (cI, 512, .inl (oF (gbE ea t i (leS n t al nd K F kn i d)))))])) (va_A ([(y, .inr (12, [.ref as, .ref ai, .ref ar, .ref am, .ref ak, .ref ao, .ref az, .ref ae, .ref aq, .ref af, .int (bI hi), .int th, .int (nI po), .int (nI ba), .int (nI en), .ref an, .ref aw, .ref ax, .ref ap, .int se]))] ++ [(as, .inl (cI, 53, .inl (sF n d t day al nd bb oo K F kn)))] ++ [(aw, .inl (cI, 512, .inl (oF fe)))] ++ [(ax, .inl (cI, 512, .inl (oF ea)))]) sz)) 0 0 (va_A ([(y, .inr (12, [.ref as, .ref ai, .ref ar, .ref am, .ref ak, .ref ao, .ref az, .ref ae, .ref aq, .ref af, .int (bI hi), .int th, .int (nI po), .int (nI ba), .int (nI en), .ref an, .ref aw, .ref ax, .ref ap, .int se]))] ++ [(as, .inl (cI, 53, .inl (sF n d t day al nd bb oo K F kn)))] ++ [(aw, .inl (cI, 512, .inl (oF fe)))] ++ [(ax, .inl (cI, 512, .inl (oF ea)))]) sz) := by
  refine Met.ofW (cc := cX12_growsBy) (maxL := 5) (ret := none) (by decide) rfl ?_
  intro p e s m args below meth c s₁ B hml hv
  obtain ⟨rfl, hH0, hCX⟩ := hv
  have hx := B.exec
  have hb := B.bytes
  have hr := B.returns
  have hts := atoms_spec (ws := wsX12_growsBy) B.pre
  have hown : s.vm.findClass RX12 = some m.cls := findClass_of_methodNamed B.named
  have hlocks := B.notSynchronized
  have hK := hCX.1
  obtain ⟨hsz, hP, hD0⟩ := hH0
  subst hsz
  have hD := hD0.self (sz := s.heap.size)
  generalize hAe : va_A ([(y, .inr (12, [.ref as, .ref ai, .ref ar, .ref am, .ref ak, .ref ao, .ref az, .ref ae, .ref aq, .ref af, .int (bI hi), .int th, .int (nI po), .int (nI ba), .int (nI en), .ref an, .ref aw, .ref ax, .ref ap, .int se]))] ++ [(as, .inl (cI, 53, .inl (sF n d t day al nd bb oo K F kn)))] ++ [(aw, .inl (cI, 512, .inl (oF fe)))] ++ [(ax, .inl (cI, 512, .inl (oF ea)))]) s.heap.size = A at hD ⊢
  have hA : ∀ q : Nat, s.heap.size ≤ q → A q := fun q h => by rw [← hAe]; exact Or.inr h
  have hS : va_S A s.heap s.heap [] := va_S.rf
  have hP : va_P (dC, dI) vwCl ([(y, .inr (12, [.ref as, .ref ai, .ref ar, .ref am, .ref ak, .ref ao, .ref az, .ref ae, .ref aq, .ref af, .int (bI hi), .int th, .int (nI po), .int (nI ba), .int (nI en), .ref an, .ref aw, .ref ax, .ref ap, .int se]))] ++ [(as, .inl (cI, 53, .inl (sF n d t day al nd bb oo K F kn)))] ++ [(aw, .inl (cI, 512, .inl (oF fe)))] ++ [(ax, .inl (cI, 512, .inl (oF ea)))]) s.heap := hP
  have gv9 := gfe _ _ hfv
  have gw9 := gea _ _ hew
  have hto : t ||| (2 ^ i) < 512 := or_512 ht (bit_512 (by omega))
  have hl := lv_entry ([.ref y, .int (nI t), .int (nI i)]) (n := 5) (Nat.le_of_ble_eq_true rfl)
  rw [lg_entry_eq]
  generalize (lg_sl ([.ref y, .int (nI t), .int (nI i)]) ++ List.replicate (5 - (lg_sl ([.ref y, .int (nI t), .int (nI i)])).length) Slot.unset).toArray = ls at hl ⊢
  have hl : lv_has ls 5 [(0, .ref y), (1, .int (nI t)), (2, .int (nI i))] := hl
  refine lv_bipush (v := (-4)) hx hb dX12_growsBy_0 (by decide +kernel) ?_
  refine lv_istore_n (lv' := [(3, .int (-4)), (0, .ref y), (1, .int (nI t)), (2, .int (nI i))]) hx hb dX12_growsBy_2 rfl hl (by decide) rfl (fun ls hl => ?_)
  refine lv_iconst (v := nI 0) hx hb dX12_growsBy_3 (by decide +kernel) ?_
  refine lv_istore (lv' := [(4, .int (nI 0)), (3, .int (-4)), (0, .ref y), (1, .int (nI t)), (2, .int (nI i))]) hx hb dX12_growsBy_4 hl (by decide) rfl (fun ls hl => ?_)
  have e9_3 : ((-4) : Int32) = oI (leS n t al nd K F kn i 0) := by rfl
  rw [e9_3] at hl
  refine ho_lp (T := Nat) 5 (fun x9 => [(4, .int (nI x9)), (3, .int (oI (leS n t al nd K F kn i x9))), (0, .ref y), (1, .int (nI t)), (2, .int (nI i))]) (fun x9 => []) (fun x9 => (x9 ≤ d)) (fun x9 => d - x9) 0 (by omega) (lv_sub hl [0, 1, 2, 3, 4] rfl) ?_
  intro fu6 j ls hI hm6 hl ih
  have hjd := hI
  have hl : lv_has ls 5 [(4, .int (nI j)), (3, .int (oI (leS n t al nd K F kn i j))), (0, .ref y), (1, .int (nI t)), (2, .int (nI i))] := hl
  have hjd : j ≤ d := hjd
  have hm6 : d - j < fu6 + 1 := hm6
  refine W.eq (g2 := F0 m 6 ls []) rfl ?_
  have ih6 := ih
  refine lv_iload hx hb dX12_growsBy_6 (lv_at hl 0 rfl) ?_
  refine lv_aload_n hx hb dX12_growsBy_8 rfl (lv_at hl 2 rfl) ?_
  refine va_get (D := (dC, dI)) (ci := 12) (v := .ref as) (C := RX12) (T := TX12) (N := 20) hx hb hts (fun _ h => List.mem_cons_of_mem _ (List.mem_append_right _ h)) hown hK hP 0 rfl rfl 0 (by decide) (hts (.fieldLink RX12 9 "HoldsOnceDeniedModel" "s" "[I") (by decide +kernel)) (fun _ h9 => h9) rfl dX12_growsBy_9 ?_
  refine lv_iconst (v := nI 1) hx hb dX12_growsBy_12 (by decide +kernel) ?_
  refine ho_iald (v := nI d) hx hb hK hP 1 0 rfl rfl (by omega) (by first | decide | omega) rfl dX12_growsBy_13 ?_
  refine ho_icmp_ge (tgt := 60) hx hb dX12_growsBy_14 (by decide) (by omega) (by omega) (fun c_14 => ?_) (fun c_14 => ?_)
  · have e60 : leS n t al nd K F kn i j = leS n t al nd K F kn i d := by rw [show j = d by omega]
    rw [e60] at hl
    obtain ⟨q_60, hq_60⟩ : ∃ y, y = leS n t al nd K F kn i d := ⟨_, rfl⟩
    rw [← hq_60] at hl
    cases q_60 with
    | none =>
      have hl : lv_has ls 5 [(4, .int (nI j)), (3, .int (-4)), (0, .ref y), (1, .int (nI t)), (2, .int (nI i))] := hl
      have hq_60 := hq_60.symm
      refine lv_iload_n hx hb dX12_growsBy_60 rfl (lv_at hl 1 rfl) ?_
      refine lv_if_ge (tgt := 65) hx hb dX12_growsBy_61 (by decide) (fun z => absurd z (by decide +kernel)) (fun _ => ?_)
      have hW9 : ([(y, .inr (12, [.ref as, .ref ai, .ref ar, .ref am, .ref ak, .ref ao, .ref az, .ref ae, .ref aq, .ref af, .int (bI hi), .int th, .int (nI po), .int (nI ba), .int (nI en), .ref an, .ref aw, .ref ax, .ref ap, .int se]))] ++ [(as, .inl (cI, 53, .inl (sF n d t day al nd bb oo K F kn)))] ++ [(aw, .inl (cI, 512, .inl (oF fe)))] ++ [(ax, .inl (cI, 512, .inl (oF ea)))] : va_W) = [(y, .inr (12, [.ref as, .ref ai, .ref ar, .ref am, .ref ak, .ref ao, .ref az, .ref ae, .ref aq, .ref af, .int (bI hi), .int th, .int (nI po), .int (nI ba), .int (nI en), .ref an, .ref aw, .ref ax, .ref ap, .int se]))] ++ [(as, .inl (cI, 53, .inl (sF n d t day al nd bb oo K F kn)))] ++ [(aw, .inl (cI, 512, .inl (oF (gbF fe t i (leS n t al nd K F kn i d)))))] ++ [(ax, .inl (cI, 512, .inl (oF (gbE ea t i (leS n t al nd K F kn i d)))))] := by simp only [gbF, gbE, hq_60]
      rw [hW9] at hP hD
      exact W.vret hx hb hr (fun T9 hT9 hW9 => ⟨⟨(), rfl, trivial, by rw [hT9]; exact hP, hD⟩, hS.F hT9⟩) hS.2.2 dX12_growsBy_64
    | some vq_60 =>
      have hl : lv_has ls 5 [(4, .int (nI j)), (3, .int (nI vq_60)), (0, .ref y), (1, .int (nI t)), (2, .int (nI i))] := hl
      have hq_60 := hq_60.symm
      have hv60 := leS_lt gF d _ hq_60
      refine lv_iload_n hx hb dX12_growsBy_60 rfl (lv_at hl 1 rfl) ?_
      refine ho_if_ge0 (tgt := 65) hx hb dX12_growsBy_61 (by decide) (by omega) ?_
      refine lv_iload_n hx hb dX12_growsBy_65 rfl (lv_at hl 3 rfl) ?_
      refine lv_iconst (v := nI 1) hx hb dX12_growsBy_66 (by decide +kernel) ?_
      refine lv_iload_n hx hb dX12_growsBy_67 rfl (lv_at hl 4 rfl) ?_
      refine ho_shl1 hx hb dX12_growsBy_68 (by omega) ?_
      refine ho_ior hx hb dX12_growsBy_69 ?_
      refine lv_istore (lv' := [(4, .int (nI (t ||| (2 ^ i)))), (3, .int (nI vq_60)), (0, .ref y), (1, .int (nI t)), (2, .int (nI i))]) hx hb dX12_growsBy_70 hl (by decide) rfl (fun ls hl => ?_)
      refine lv_aload_n hx hb dX12_growsBy_72 rfl (lv_at hl 2 rfl) ?_
      refine va_get (D := (dC, dI)) (ci := 12) (v := .ref aw) (C := RX12) (T := TX12) (N := 20) hx hb hts (fun _ h => List.mem_cons_of_mem _ (List.mem_append_right _ h)) hown hK hP 0 rfl rfl 16 (by decide) (hts (.fieldLink RX12 43 "HoldsOnceDeniedModel" "fewest" "[I") (by decide +kernel)) (fun _ h9 => h9) rfl dX12_growsBy_73 ?_
      refine lv_iload hx hb dX12_growsBy_76 (lv_at hl 0 rfl) ?_
      refine ho_iald (v := oI (fe (t ||| (2 ^ i)))) hx hb hK hP 2 0 rfl rfl hto (by first | decide | omega) rfl dX12_growsBy_78 ?_
      cases hv_78 : fe (t ||| (2 ^ i)) with
      | none =>
        refine ho_tope (y := (-4)) rfl ?_
        refine lv_if_lt (tgt := 100) hx hb dX12_growsBy_79 (by decide) (fun _ => ?_) (fun z => absurd z (by decide +kernel))
        refine lv_aload_n hx hb dX12_growsBy_100 rfl (lv_at hl 2 rfl) ?_
        refine va_get (D := (dC, dI)) (ci := 12) (v := .ref aw) (C := RX12) (T := TX12) (N := 20) hx hb hts (fun _ h => List.mem_cons_of_mem _ (List.mem_append_right _ h)) hown hK hP 0 rfl rfl 16 (by decide) (hts (.fieldLink RX12 43 "HoldsOnceDeniedModel" "fewest" "[I") (by decide +kernel)) (fun _ h9 => h9) rfl dX12_growsBy_101 ?_
        refine lv_iload hx hb dX12_growsBy_104 (lv_at hl 0 rfl) ?_
        refine lv_aload_n hx hb dX12_growsBy_106 rfl (lv_at hl 2 rfl) ?_
        refine va_get (D := (dC, dI)) (ci := 12) (v := .ref aw) (C := RX12) (T := TX12) (N := 20) hx hb hts (fun _ h => List.mem_cons_of_mem _ (List.mem_append_right _ h)) hown hK hP 0 rfl rfl 16 (by decide) (hts (.fieldLink RX12 43 "HoldsOnceDeniedModel" "fewest" "[I") (by decide +kernel)) (fun _ h9 => h9) rfl dX12_growsBy_107 ?_
        refine lv_iload_n hx hb dX12_growsBy_110 rfl (lv_at hl 3 rfl) ?_
        refine ho_iald (v := nI v) hx hb hK hP 2 0 rfl rfl (by omega) (by first | decide | omega) (show oI (fe t) = _ by rw [hfv]; rfl) dX12_growsBy_111 ?_
        refine lv_iconst (v := nI 1) hx hb dX12_growsBy_112 (by decide +kernel) ?_
        refine ho_iadd hx hb dX12_growsBy_113 ?_
        refine ho_iast (g := oF (va_up fe (t ||| (2 ^ i)) (some (v + 1)))) hx hb hK hP hD hS 2 0 rfl rfl hto (by first | decide | omega) (oF_up _ _ (some (v + 1))) dX12_growsBy_114 (fun H locs hP hD hS => ?_)
        have hP : va_P (dC, dI) vwCl ([(y, .inr (12, [.ref as, .ref ai, .ref ar, .ref am, .ref ak, .ref ao, .ref az, .ref ae, .ref aq, .ref af, .int (bI hi), .int th, .int (nI po), .int (nI ba), .int (nI en), .ref an, .ref aw, .ref ax, .ref ap, .int se]))] ++ [(as, .inl (cI, 53, .inl (sF n d t day al nd bb oo K F kn)))] ++ [(aw, .inl (cI, 512, .inl (oF (va_up fe (t ||| (2 ^ i)) (some (v + 1))))))] ++ [(ax, .inl (cI, 512, .inl (oF ea)))]) H := hP
        have hD : va_D A ([(y, .inr (12, [.ref as, .ref ai, .ref ar, .ref am, .ref ak, .ref ao, .ref az, .ref ae, .ref aq, .ref af, .int (bI hi), .int th, .int (nI po), .int (nI ba), .int (nI en), .ref an, .ref aw, .ref ax, .ref ap, .int se]))] ++ [(as, .inl (cI, 53, .inl (sF n d t day al nd bb oo K F kn)))] ++ [(aw, .inl (cI, 512, .inl (oF (va_up fe (t ||| (2 ^ i)) (some (v + 1))))))] ++ [(ax, .inl (cI, 512, .inl (oF ea)))]) := hD
        refine lv_aload_n hx hb dX12_growsBy_115 rfl (lv_at hl 2 rfl) ?_
        refine va_get (D := (dC, dI)) (ci := 12) (v := .ref ax) (C := RX12) (T := TX12) (N := 20) hx hb hts (fun _ h => List.mem_cons_of_mem _ (List.mem_append_right _ h)) hown hK hP 0 rfl rfl 17 (by decide) (hts (.fieldLink RX12 46 "HoldsOnceDeniedModel" "easiest" "[I") (by decide +kernel)) (fun _ h9 => h9) rfl dX12_growsBy_116 ?_
        refine lv_iload hx hb dX12_growsBy_119 (lv_at hl 0 rfl) ?_
        refine ho_iald (v := oI (ea (t ||| (2 ^ i)))) hx hb hK hP 3 0 rfl rfl hto (by first | decide | omega) rfl dX12_growsBy_121 ?_
        cases hv_121 : ea (t ||| (2 ^ i)) with
        | none =>
          refine ho_tope (y := (-4)) rfl ?_
          refine lv_if_lt (tgt := 143) hx hb dX12_growsBy_122 (by decide) (fun _ => ?_) (fun z => absurd z (by decide +kernel))
          refine lv_aload_n hx hb dX12_growsBy_143 rfl (lv_at hl 2 rfl) ?_
          refine va_get (D := (dC, dI)) (ci := 12) (v := .ref ax) (C := RX12) (T := TX12) (N := 20) hx hb hts (fun _ h => List.mem_cons_of_mem _ (List.mem_append_right _ h)) hown hK hP 0 rfl rfl 17 (by decide) (hts (.fieldLink RX12 46 "HoldsOnceDeniedModel" "easiest" "[I") (by decide +kernel)) (fun _ h9 => h9) rfl dX12_growsBy_144 ?_
          refine lv_iload hx hb dX12_growsBy_147 (lv_at hl 0 rfl) ?_
          refine lv_aload_n hx hb dX12_growsBy_149 rfl (lv_at hl 2 rfl) ?_
          refine va_get (D := (dC, dI)) (ci := 12) (v := .ref ax) (C := RX12) (T := TX12) (N := 20) hx hb hts (fun _ h => List.mem_cons_of_mem _ (List.mem_append_right _ h)) hown hK hP 0 rfl rfl 17 (by decide) (hts (.fieldLink RX12 46 "HoldsOnceDeniedModel" "easiest" "[I") (by decide +kernel)) (fun _ h9 => h9) rfl dX12_growsBy_150 ?_
          refine lv_iload_n hx hb dX12_growsBy_153 rfl (lv_at hl 3 rfl) ?_
          refine ho_iald (v := nI w) hx hb hK hP 3 0 rfl rfl (by omega) (by first | decide | omega) (show oI (ea t) = _ by rw [hew]; rfl) dX12_growsBy_154 ?_
          refine lv_iload_n hx hb dX12_growsBy_155 rfl (lv_at hl 1 rfl) ?_
          refine ho_iadd hx hb dX12_growsBy_156 ?_
          refine ho_iast (g := oF (va_up ea (t ||| (2 ^ i)) (some (w + vq_60)))) hx hb hK hP hD hS 3 0 rfl rfl hto (by first | decide | omega) (oF_up _ _ (some (w + vq_60))) dX12_growsBy_157 (fun H locs hP hD hS => ?_)
          have hP : va_P (dC, dI) vwCl ([(y, .inr (12, [.ref as, .ref ai, .ref ar, .ref am, .ref ak, .ref ao, .ref az, .ref ae, .ref aq, .ref af, .int (bI hi), .int th, .int (nI po), .int (nI ba), .int (nI en), .ref an, .ref aw, .ref ax, .ref ap, .int se]))] ++ [(as, .inl (cI, 53, .inl (sF n d t day al nd bb oo K F kn)))] ++ [(aw, .inl (cI, 512, .inl (oF (va_up fe (t ||| (2 ^ i)) (some (v + 1))))))] ++ [(ax, .inl (cI, 512, .inl (oF (va_up ea (t ||| (2 ^ i)) (some (w + vq_60))))))]) H := hP
          have hD : va_D A ([(y, .inr (12, [.ref as, .ref ai, .ref ar, .ref am, .ref ak, .ref ao, .ref az, .ref ae, .ref aq, .ref af, .int (bI hi), .int th, .int (nI po), .int (nI ba), .int (nI en), .ref an, .ref aw, .ref ax, .ref ap, .int se]))] ++ [(as, .inl (cI, 53, .inl (sF n d t day al nd bb oo K F kn)))] ++ [(aw, .inl (cI, 512, .inl (oF (va_up fe (t ||| (2 ^ i)) (some (v + 1))))))] ++ [(ax, .inl (cI, 512, .inl (oF (va_up ea (t ||| (2 ^ i)) (some (w + vq_60))))))]) := hD
          have hW9 : ([(y, .inr (12, [.ref as, .ref ai, .ref ar, .ref am, .ref ak, .ref ao, .ref az, .ref ae, .ref aq, .ref af, .int (bI hi), .int th, .int (nI po), .int (nI ba), .int (nI en), .ref an, .ref aw, .ref ax, .ref ap, .int se]))] ++ [(as, .inl (cI, 53, .inl (sF n d t day al nd bb oo K F kn)))] ++ [(aw, .inl (cI, 512, .inl (oF (va_up fe (t ||| (2 ^ i)) (some (v + 1))))))] ++ [(ax, .inl (cI, 512, .inl (oF (va_up ea (t ||| (2 ^ i)) (some (w + vq_60))))))] : va_W) = [(y, .inr (12, [.ref as, .ref ai, .ref ar, .ref am, .ref ak, .ref ao, .ref az, .ref ae, .ref aq, .ref af, .int (bI hi), .int th, .int (nI po), .int (nI ba), .int (nI en), .ref an, .ref aw, .ref ax, .ref ap, .int se]))] ++ [(as, .inl (cI, 53, .inl (sF n d t day al nd bb oo K F kn)))] ++ [(aw, .inl (cI, 512, .inl (oF (gbF fe t i (leS n t al nd K F kn i d)))))] ++ [(ax, .inl (cI, 512, .inl (oF (gbE ea t i (leS n t al nd K F kn i d)))))] := by (simp only [gbF, gbE, hq_60, hfv, hew, Option.getD_some]); (first | rw [upO_0 hv_78] | rw [upO_l hv_78 c_97] | rw [← upO_g hv_78 c_97]); (first | rw [upO_0 hv_121] | rw [upO_l hv_121 c_140] | rw [← upO_g hv_121 c_140])
          rw [hW9] at hP hD
          exact W.vret hx hb hr (fun T9 hT9 hW9 => ⟨⟨(), rfl, trivial, by rw [hT9]; exact hP, hD⟩, hS.F hT9⟩) hS.2.2 dX12_growsBy_158
        | some v_121 =>
          refine ho_tope (y := nI v_121) rfl ?_
          have b121 := gea _ _ hv_121
          refine ho_if_lt0 hx hb dX12_growsBy_122 (tgt := 143) (by decide) (by omega) ?_
          refine lv_aload_n hx hb dX12_growsBy_125 rfl (lv_at hl 2 rfl) ?_
          refine va_get (D := (dC, dI)) (ci := 12) (v := .ref ax) (C := RX12) (T := TX12) (N := 20) hx hb hts (fun _ h => List.mem_cons_of_mem _ (List.mem_append_right _ h)) hown hK hP 0 rfl rfl 17 (by decide) (hts (.fieldLink RX12 46 "HoldsOnceDeniedModel" "easiest" "[I") (by decide +kernel)) (fun _ h9 => h9) rfl dX12_growsBy_126 ?_
          refine lv_iload_n hx hb dX12_growsBy_129 rfl (lv_at hl 3 rfl) ?_
          refine ho_iald (v := nI w) hx hb hK hP 3 0 rfl rfl (by omega) (by first | decide | omega) (show oI (ea t) = _ by rw [hew]; rfl) dX12_growsBy_130 ?_
          refine lv_iload_n hx hb dX12_growsBy_131 rfl (lv_at hl 1 rfl) ?_
          refine ho_iadd hx hb dX12_growsBy_132 ?_
          refine lv_aload_n hx hb dX12_growsBy_133 rfl (lv_at hl 2 rfl) ?_
          refine va_get (D := (dC, dI)) (ci := 12) (v := .ref ax) (C := RX12) (T := TX12) (N := 20) hx hb hts (fun _ h => List.mem_cons_of_mem _ (List.mem_append_right _ h)) hown hK hP 0 rfl rfl 17 (by decide) (hts (.fieldLink RX12 46 "HoldsOnceDeniedModel" "easiest" "[I") (by decide +kernel)) (fun _ h9 => h9) rfl dX12_growsBy_134 ?_
          refine lv_iload hx hb dX12_growsBy_137 (lv_at hl 0 rfl) ?_
          refine ho_iald (v := nI v_121) hx hb hK hP 3 0 rfl rfl hto (by first | decide | omega) (show oI (ea (t ||| (2 ^ i))) = _ by rw [hv_121]; rfl) dX12_growsBy_139 ?_
          refine ho_icmp_ge (tgt := 158) hx hb dX12_growsBy_140 (by decide) (by omega) (by omega) (fun c_140 => ?_) (fun c_140 => ?_)
          · have hW9 : ([(y, .inr (12, [.ref as, .ref ai, .ref ar, .ref am, .ref ak, .ref ao, .ref az, .ref ae, .ref aq, .ref af, .int (bI hi), .int th, .int (nI po), .int (nI ba), .int (nI en), .ref an, .ref aw, .ref ax, .ref ap, .int se]))] ++ [(as, .inl (cI, 53, .inl (sF n d t day al nd bb oo K F kn)))] ++ [(aw, .inl (cI, 512, .inl (oF (va_up fe (t ||| (2 ^ i)) (some (v + 1))))))] ++ [(ax, .inl (cI, 512, .inl (oF ea)))] : va_W) = [(y, .inr (12, [.ref as, .ref ai, .ref ar, .ref am, .ref ak, .ref ao, .ref az, .ref ae, .ref aq, .ref af, .int (bI hi), .int th, .int (nI po), .int (nI ba), .int (nI en), .ref an, .ref aw, .ref ax, .ref ap, .int se]))] ++ [(as, .inl (cI, 53, .inl (sF n d t day al nd bb oo K F kn)))] ++ [(aw, .inl (cI, 512, .inl (oF (gbF fe t i (leS n t al nd K F kn i d)))))] ++ [(ax, .inl (cI, 512, .inl (oF (gbE ea t i (leS n t al nd K F kn i d)))))] := by (simp only [gbF, gbE, hq_60, hfv, hew, Option.getD_some]); (first | rw [upO_0 hv_78] | rw [upO_l hv_78 c_97] | rw [← upO_g hv_78 c_97]); (first | rw [upO_0 hv_121] | rw [upO_l hv_121 c_140] | rw [← upO_g hv_121 c_140])
            rw [hW9] at hP hD
            exact W.vret hx hb hr (fun T9 hT9 hW9 => ⟨⟨(), rfl, trivial, by rw [hT9]; exact hP, hD⟩, hS.F hT9⟩) hS.2.2 dX12_growsBy_158
          refine lv_aload_n hx hb dX12_growsBy_143 rfl (lv_at hl 2 rfl) ?_
          refine va_get (D := (dC, dI)) (ci := 12) (v := .ref ax) (C := RX12) (T := TX12) (N := 20) hx hb hts (fun _ h => List.mem_cons_of_mem _ (List.mem_append_right _ h)) hown hK hP 0 rfl rfl 17 (by decide) (hts (.fieldLink RX12 46 "HoldsOnceDeniedModel" "easiest" "[I") (by decide +kernel)) (fun _ h9 => h9) rfl dX12_growsBy_144 ?_
          refine lv_iload hx hb dX12_growsBy_147 (lv_at hl 0 rfl) ?_
          refine lv_aload_n hx hb dX12_growsBy_149 rfl (lv_at hl 2 rfl) ?_
          refine va_get (D := (dC, dI)) (ci := 12) (v := .ref ax) (C := RX12) (T := TX12) (N := 20) hx hb hts (fun _ h => List.mem_cons_of_mem _ (List.mem_append_right _ h)) hown hK hP 0 rfl rfl 17 (by decide) (hts (.fieldLink RX12 46 "HoldsOnceDeniedModel" "easiest" "[I") (by decide +kernel)) (fun _ h9 => h9) rfl dX12_growsBy_150 ?_
          refine lv_iload_n hx hb dX12_growsBy_153 rfl (lv_at hl 3 rfl) ?_
          refine ho_iald (v := nI w) hx hb hK hP 3 0 rfl rfl (by omega) (by first | decide | omega) (show oI (ea t) = _ by rw [hew]; rfl) dX12_growsBy_154 ?_
          refine lv_iload_n hx hb dX12_growsBy_155 rfl (lv_at hl 1 rfl) ?_
          refine ho_iadd hx hb dX12_growsBy_156 ?_
          refine ho_iast (g := oF (va_up ea (t ||| (2 ^ i)) (some (w + vq_60)))) hx hb hK hP hD hS 3 0 rfl rfl hto (by first | decide | omega) (oF_up _ _ (some (w + vq_60))) dX12_growsBy_157 (fun H locs hP hD hS => ?_)
          have hP : va_P (dC, dI) vwCl ([(y, .inr (12, [.ref as, .ref ai, .ref ar, .ref am, .ref ak, .ref ao, .ref az, .ref ae, .ref aq, .ref af, .int (bI hi), .int th, .int (nI po), .int (nI ba), .int (nI en), .ref an, .ref aw, .ref ax, .ref ap, .int se]))] ++ [(as, .inl (cI, 53, .inl (sF n d t day al nd bb oo K F kn)))] ++ [(aw, .inl (cI, 512, .inl (oF (va_up fe (t ||| (2 ^ i)) (some (v + 1))))))] ++ [(ax, .inl (cI, 512, .inl (oF (va_up ea (t ||| (2 ^ i)) (some (w + vq_60))))))]) H := hP
          have hD : va_D A ([(y, .inr (12, [.ref as, .ref ai, .ref ar, .ref am, .ref ak, .ref ao, .ref az, .ref ae, .ref aq, .ref af, .int (bI hi), .int th, .int (nI po), .int (nI ba), .int (nI en), .ref an, .ref aw, .ref ax, .ref ap, .int se]))] ++ [(as, .inl (cI, 53, .inl (sF n d t day al nd bb oo K F kn)))] ++ [(aw, .inl (cI, 512, .inl (oF (va_up fe (t ||| (2 ^ i)) (some (v + 1))))))] ++ [(ax, .inl (cI, 512, .inl (oF (va_up ea (t ||| (2 ^ i)) (some (w + vq_60))))))]) := hD
          have hW9 : ([(y, .inr (12, [.ref as, .ref ai, .ref ar, .ref am, .ref ak, .ref ao, .ref az, .ref ae, .ref aq, .ref af, .int (bI hi), .int th, .int (nI po), .int (nI ba), .int (nI en), .ref an, .ref aw, .ref ax, .ref ap, .int se]))] ++ [(as, .inl (cI, 53, .inl (sF n d t day al nd bb oo K F kn)))] ++ [(aw, .inl (cI, 512, .inl (oF (va_up fe (t ||| (2 ^ i)) (some (v + 1))))))] ++ [(ax, .inl (cI, 512, .inl (oF (va_up ea (t ||| (2 ^ i)) (some (w + vq_60))))))] : va_W) = [(y, .inr (12, [.ref as, .ref ai, .ref ar, .ref am, .ref ak, .ref ao, .ref az, .ref ae, .ref aq, .ref af, .int (bI hi), .int th, .int (nI po), .int (nI ba), .int (nI en), .ref an, .ref aw, .ref ax, .ref ap, .int se]))] ++ [(as, .inl (cI, 53, .inl (sF n d t day al nd bb oo K F kn)))] ++ [(aw, .inl (cI, 512, .inl (oF (gbF fe t i (leS n t al nd K F kn i d)))))] ++ [(ax, .inl (cI, 512, .inl (oF (gbE ea t i (leS n t al nd K F kn i d)))))] := by (simp only [gbF, gbE, hq_60, hfv, hew, Option.getD_some]); (first | rw [upO_0 hv_78] | rw [upO_l hv_78 c_97] | rw [← upO_g hv_78 c_97]); (first | rw [upO_0 hv_121] | rw [upO_l hv_121 c_140] | rw [← upO_g hv_121 c_140])
          rw [hW9] at hP hD
          exact W.vret hx hb hr (fun T9 hT9 hW9 => ⟨⟨(), rfl, trivial, by rw [hT9]; exact hP, hD⟩, hS.F hT9⟩) hS.2.2 dX12_growsBy_158
      | some v_78 =>
        refine ho_tope (y := nI v_78) rfl ?_
        have b78 := gfe _ _ hv_78
        refine ho_if_lt0 hx hb dX12_growsBy_79 (tgt := 100) (by decide) (by omega) ?_
        refine lv_aload_n hx hb dX12_growsBy_82 rfl (lv_at hl 2 rfl) ?_
        refine va_get (D := (dC, dI)) (ci := 12) (v := .ref aw) (C := RX12) (T := TX12) (N := 20) hx hb hts (fun _ h => List.mem_cons_of_mem _ (List.mem_append_right _ h)) hown hK hP 0 rfl rfl 16 (by decide) (hts (.fieldLink RX12 43 "HoldsOnceDeniedModel" "fewest" "[I") (by decide +kernel)) (fun _ h9 => h9) rfl dX12_growsBy_83 ?_
        refine lv_iload_n hx hb dX12_growsBy_86 rfl (lv_at hl 3 rfl) ?_
        refine ho_iald (v := nI v) hx hb hK hP 2 0 rfl rfl (by omega) (by first | decide | omega) (show oI (fe t) = _ by rw [hfv]; rfl) dX12_growsBy_87 ?_
        refine lv_iconst (v := nI 1) hx hb dX12_growsBy_88 (by decide +kernel) ?_
        refine ho_iadd hx hb dX12_growsBy_89 ?_
        refine lv_aload_n hx hb dX12_growsBy_90 rfl (lv_at hl 2 rfl) ?_
        refine va_get (D := (dC, dI)) (ci := 12) (v := .ref aw) (C := RX12) (T := TX12) (N := 20) hx hb hts (fun _ h => List.mem_cons_of_mem _ (List.mem_append_right _ h)) hown hK hP 0 rfl rfl 16 (by decide) (hts (.fieldLink RX12 43 "HoldsOnceDeniedModel" "fewest" "[I") (by decide +kernel)) (fun _ h9 => h9) rfl dX12_growsBy_91 ?_
        refine lv_iload hx hb dX12_growsBy_94 (lv_at hl 0 rfl) ?_
        refine ho_iald (v := nI v_78) hx hb hK hP 2 0 rfl rfl hto (by first | decide | omega) (show oI (fe (t ||| (2 ^ i))) = _ by rw [hv_78]; rfl) dX12_growsBy_96 ?_
        refine ho_icmp_ge (tgt := 115) hx hb dX12_growsBy_97 (by decide) (by omega) (by omega) (fun c_97 => ?_) (fun c_97 => ?_)
        · refine lv_aload_n hx hb dX12_growsBy_115 rfl (lv_at hl 2 rfl) ?_
          refine va_get (D := (dC, dI)) (ci := 12) (v := .ref ax) (C := RX12) (T := TX12) (N := 20) hx hb hts (fun _ h => List.mem_cons_of_mem _ (List.mem_append_right _ h)) hown hK hP 0 rfl rfl 17 (by decide) (hts (.fieldLink RX12 46 "HoldsOnceDeniedModel" "easiest" "[I") (by decide +kernel)) (fun _ h9 => h9) rfl dX12_growsBy_116 ?_
          refine lv_iload hx hb dX12_growsBy_119 (lv_at hl 0 rfl) ?_
          refine ho_iald (v := oI (ea (t ||| (2 ^ i)))) hx hb hK hP 3 0 rfl rfl hto (by first | decide | omega) rfl dX12_growsBy_121 ?_
          cases hv_121 : ea (t ||| (2 ^ i)) with
          | none =>
            refine ho_tope (y := (-4)) rfl ?_
            refine lv_if_lt (tgt := 143) hx hb dX12_growsBy_122 (by decide) (fun _ => ?_) (fun z => absurd z (by decide +kernel))
            refine lv_aload_n hx hb dX12_growsBy_143 rfl (lv_at hl 2 rfl) ?_
            refine va_get (D := (dC, dI)) (ci := 12) (v := .ref ax) (C := RX12) (T := TX12) (N := 20) hx hb hts (fun _ h => List.mem_cons_of_mem _ (List.mem_append_right _ h)) hown hK hP 0 rfl rfl 17 (by decide) (hts (.fieldLink RX12 46 "HoldsOnceDeniedModel" "easiest" "[I") (by decide +kernel)) (fun _ h9 => h9) rfl dX12_growsBy_144 ?_
            refine lv_iload hx hb dX12_growsBy_147 (lv_at hl 0 rfl) ?_
            refine lv_aload_n hx hb dX12_growsBy_149 rfl (lv_at hl 2 rfl) ?_
            refine va_get (D := (dC, dI)) (ci := 12) (v := .ref ax) (C := RX12) (T := TX12) (N := 20) hx hb hts (fun _ h => List.mem_cons_of_mem _ (List.mem_append_right _ h)) hown hK hP 0 rfl rfl 17 (by decide) (hts (.fieldLink RX12 46 "HoldsOnceDeniedModel" "easiest" "[I") (by decide +kernel)) (fun _ h9 => h9) rfl dX12_growsBy_150 ?_
            refine lv_iload_n hx hb dX12_growsBy_153 rfl (lv_at hl 3 rfl) ?_
            refine ho_iald (v := nI w) hx hb hK hP 3 0 rfl rfl (by omega) (by first | decide | omega) (show oI (ea t) = _ by rw [hew]; rfl) dX12_growsBy_154 ?_
            refine lv_iload_n hx hb dX12_growsBy_155 rfl (lv_at hl 1 rfl) ?_
            refine ho_iadd hx hb dX12_growsBy_156 ?_
            refine ho_iast (g := oF (va_up ea (t ||| (2 ^ i)) (some (w + vq_60)))) hx hb hK hP hD hS 3 0 rfl rfl hto (by first | decide | omega) (oF_up _ _ (some (w + vq_60))) dX12_growsBy_157 (fun H locs hP hD hS => ?_)
            have hP : va_P (dC, dI) vwCl ([(y, .inr (12, [.ref as, .ref ai, .ref ar, .ref am, .ref ak, .ref ao, .ref az, .ref ae, .ref aq, .ref af, .int (bI hi), .int th, .int (nI po), .int (nI ba), .int (nI en), .ref an, .ref aw, .ref ax, .ref ap, .int se]))] ++ [(as, .inl (cI, 53, .inl (sF n d t day al nd bb oo K F kn)))] ++ [(aw, .inl (cI, 512, .inl (oF fe)))] ++ [(ax, .inl (cI, 512, .inl (oF (va_up ea (t ||| (2 ^ i)) (some (w + vq_60))))))]) H := hP
            have hD : va_D A ([(y, .inr (12, [.ref as, .ref ai, .ref ar, .ref am, .ref ak, .ref ao, .ref az, .ref ae, .ref aq, .ref af, .int (bI hi), .int th, .int (nI po), .int (nI ba), .int (nI en), .ref an, .ref aw, .ref ax, .ref ap, .int se]))] ++ [(as, .inl (cI, 53, .inl (sF n d t day al nd bb oo K F kn)))] ++ [(aw, .inl (cI, 512, .inl (oF fe)))] ++ [(ax, .inl (cI, 512, .inl (oF (va_up ea (t ||| (2 ^ i)) (some (w + vq_60))))))]) := hD
            have hW9 : ([(y, .inr (12, [.ref as, .ref ai, .ref ar, .ref am, .ref ak, .ref ao, .ref az, .ref ae, .ref aq, .ref af, .int (bI hi), .int th, .int (nI po), .int (nI ba), .int (nI en), .ref an, .ref aw, .ref ax, .ref ap, .int se]))] ++ [(as, .inl (cI, 53, .inl (sF n d t day al nd bb oo K F kn)))] ++ [(aw, .inl (cI, 512, .inl (oF fe)))] ++ [(ax, .inl (cI, 512, .inl (oF (va_up ea (t ||| (2 ^ i)) (some (w + vq_60))))))] : va_W) = [(y, .inr (12, [.ref as, .ref ai, .ref ar, .ref am, .ref ak, .ref ao, .ref az, .ref ae, .ref aq, .ref af, .int (bI hi), .int th, .int (nI po), .int (nI ba), .int (nI en), .ref an, .ref aw, .ref ax, .ref ap, .int se]))] ++ [(as, .inl (cI, 53, .inl (sF n d t day al nd bb oo K F kn)))] ++ [(aw, .inl (cI, 512, .inl (oF (gbF fe t i (leS n t al nd K F kn i d)))))] ++ [(ax, .inl (cI, 512, .inl (oF (gbE ea t i (leS n t al nd K F kn i d)))))] := by (simp only [gbF, gbE, hq_60, hfv, hew, Option.getD_some]); (first | rw [upO_0 hv_78] | rw [upO_l hv_78 c_97] | rw [← upO_g hv_78 c_97]); (first | rw [upO_0 hv_121] | rw [upO_l hv_121 c_140] | rw [← upO_g hv_121 c_140])
            rw [hW9] at hP hD
            exact W.vret hx hb hr (fun T9 hT9 hW9 => ⟨⟨(), rfl, trivial, by rw [hT9]; exact hP, hD⟩, hS.F hT9⟩) hS.2.2 dX12_growsBy_158
          | some v_121 =>
            refine ho_tope (y := nI v_121) rfl ?_
            have b121 := gea _ _ hv_121
            refine ho_if_lt0 hx hb dX12_growsBy_122 (tgt := 143) (by decide) (by omega) ?_
            refine lv_aload_n hx hb dX12_growsBy_125 rfl (lv_at hl 2 rfl) ?_
            refine va_get (D := (dC, dI)) (ci := 12) (v := .ref ax) (C := RX12) (T := TX12) (N := 20) hx hb hts (fun _ h => List.mem_cons_of_mem _ (List.mem_append_right _ h)) hown hK hP 0 rfl rfl 17 (by decide) (hts (.fieldLink RX12 46 "HoldsOnceDeniedModel" "easiest" "[I") (by decide +kernel)) (fun _ h9 => h9) rfl dX12_growsBy_126 ?_
            refine lv_iload_n hx hb dX12_growsBy_129 rfl (lv_at hl 3 rfl) ?_
            refine ho_iald (v := nI w) hx hb hK hP 3 0 rfl rfl (by omega) (by first | decide | omega) (show oI (ea t) = _ by rw [hew]; rfl) dX12_growsBy_130 ?_
            refine lv_iload_n hx hb dX12_growsBy_131 rfl (lv_at hl 1 rfl) ?_
            refine ho_iadd hx hb dX12_growsBy_132 ?_
            refine lv_aload_n hx hb dX12_growsBy_133 rfl (lv_at hl 2 rfl) ?_
            refine va_get (D := (dC, dI)) (ci := 12) (v := .ref ax) (C := RX12) (T := TX12) (N := 20) hx hb hts (fun _ h => List.mem_cons_of_mem _ (List.mem_append_right _ h)) hown hK hP 0 rfl rfl 17 (by decide) (hts (.fieldLink RX12 46 "HoldsOnceDeniedModel" "easiest" "[I") (by decide +kernel)) (fun _ h9 => h9) rfl dX12_growsBy_134 ?_
            refine lv_iload hx hb dX12_growsBy_137 (lv_at hl 0 rfl) ?_
            refine ho_iald (v := nI v_121) hx hb hK hP 3 0 rfl rfl hto (by first | decide | omega) (show oI (ea (t ||| (2 ^ i))) = _ by rw [hv_121]; rfl) dX12_growsBy_139 ?_
            refine ho_icmp_ge (tgt := 158) hx hb dX12_growsBy_140 (by decide) (by omega) (by omega) (fun c_140 => ?_) (fun c_140 => ?_)
            · have hW9 : ([(y, .inr (12, [.ref as, .ref ai, .ref ar, .ref am, .ref ak, .ref ao, .ref az, .ref ae, .ref aq, .ref af, .int (bI hi), .int th, .int (nI po), .int (nI ba), .int (nI en), .ref an, .ref aw, .ref ax, .ref ap, .int se]))] ++ [(as, .inl (cI, 53, .inl (sF n d t day al nd bb oo K F kn)))] ++ [(aw, .inl (cI, 512, .inl (oF fe)))] ++ [(ax, .inl (cI, 512, .inl (oF ea)))] : va_W) = [(y, .inr (12, [.ref as, .ref ai, .ref ar, .ref am, .ref ak, .ref ao, .ref az, .ref ae, .ref aq, .ref af, .int (bI hi), .int th, .int (nI po), .int (nI ba), .int (nI en), .ref an, .ref aw, .ref ax, .ref ap, .int se]))] ++ [(as, .inl (cI, 53, .inl (sF n d t day al nd bb oo K F kn)))] ++ [(aw, .inl (cI, 512, .inl (oF (gbF fe t i (leS n t al nd K F kn i d)))))] ++ [(ax, .inl (cI, 512, .inl (oF (gbE ea t i (leS n t al nd K F kn i d)))))] := by (simp only [gbF, gbE, hq_60, hfv, hew, Option.getD_some]); (first | rw [upO_0 hv_78] | rw [upO_l hv_78 c_97] | rw [← upO_g hv_78 c_97]); (first | rw [upO_0 hv_121] | rw [upO_l hv_121 c_140] | rw [← upO_g hv_121 c_140])
              rw [hW9] at hP hD
              exact W.vret hx hb hr (fun T9 hT9 hW9 => ⟨⟨(), rfl, trivial, by rw [hT9]; exact hP, hD⟩, hS.F hT9⟩) hS.2.2 dX12_growsBy_158
            refine lv_aload_n hx hb dX12_growsBy_143 rfl (lv_at hl 2 rfl) ?_
            refine va_get (D := (dC, dI)) (ci := 12) (v := .ref ax) (C := RX12) (T := TX12) (N := 20) hx hb hts (fun _ h => List.mem_cons_of_mem _ (List.mem_append_right _ h)) hown hK hP 0 rfl rfl 17 (by decide) (hts (.fieldLink RX12 46 "HoldsOnceDeniedModel" "easiest" "[I") (by decide +kernel)) (fun _ h9 => h9) rfl dX12_growsBy_144 ?_
            refine lv_iload hx hb dX12_growsBy_147 (lv_at hl 0 rfl) ?_
            refine lv_aload_n hx hb dX12_growsBy_149 rfl (lv_at hl 2 rfl) ?_
            refine va_get (D := (dC, dI)) (ci := 12) (v := .ref ax) (C := RX12) (T := TX12) (N := 20) hx hb hts (fun _ h => List.mem_cons_of_mem _ (List.mem_append_right _ h)) hown hK hP 0 rfl rfl 17 (by decide) (hts (.fieldLink RX12 46 "HoldsOnceDeniedModel" "easiest" "[I") (by decide +kernel)) (fun _ h9 => h9) rfl dX12_growsBy_150 ?_
            refine lv_iload_n hx hb dX12_growsBy_153 rfl (lv_at hl 3 rfl) ?_
            refine ho_iald (v := nI w) hx hb hK hP 3 0 rfl rfl (by omega) (by first | decide | omega) (show oI (ea t) = _ by rw [hew]; rfl) dX12_growsBy_154 ?_
            refine lv_iload_n hx hb dX12_growsBy_155 rfl (lv_at hl 1 rfl) ?_
            refine ho_iadd hx hb dX12_growsBy_156 ?_
            refine ho_iast (g := oF (va_up ea (t ||| (2 ^ i)) (some (w + vq_60)))) hx hb hK hP hD hS 3 0 rfl rfl hto (by first | decide | omega) (oF_up _ _ (some (w + vq_60))) dX12_growsBy_157 (fun H locs hP hD hS => ?_)
            have hP : va_P (dC, dI) vwCl ([(y, .inr (12, [.ref as, .ref ai, .ref ar, .ref am, .ref ak, .ref ao, .ref az, .ref ae, .ref aq, .ref af, .int (bI hi), .int th, .int (nI po), .int (nI ba), .int (nI en), .ref an, .ref aw, .ref ax, .ref ap, .int se]))] ++ [(as, .inl (cI, 53, .inl (sF n d t day al nd bb oo K F kn)))] ++ [(aw, .inl (cI, 512, .inl (oF fe)))] ++ [(ax, .inl (cI, 512, .inl (oF (va_up ea (t ||| (2 ^ i)) (some (w + vq_60))))))]) H := hP
            have hD : va_D A ([(y, .inr (12, [.ref as, .ref ai, .ref ar, .ref am, .ref ak, .ref ao, .ref az, .ref ae, .ref aq, .ref af, .int (bI hi), .int th, .int (nI po), .int (nI ba), .int (nI en), .ref an, .ref aw, .ref ax, .ref ap, .int se]))] ++ [(as, .inl (cI, 53, .inl (sF n d t day al nd bb oo K F kn)))] ++ [(aw, .inl (cI, 512, .inl (oF fe)))] ++ [(ax, .inl (cI, 512, .inl (oF (va_up ea (t ||| (2 ^ i)) (some (w + vq_60))))))]) := hD
            have hW9 : ([(y, .inr (12, [.ref as, .ref ai, .ref ar, .ref am, .ref ak, .ref ao, .ref az, .ref ae, .ref aq, .ref af, .int (bI hi), .int th, .int (nI po), .int (nI ba), .int (nI en), .ref an, .ref aw, .ref ax, .ref ap, .int se]))] ++ [(as, .inl (cI, 53, .inl (sF n d t day al nd bb oo K F kn)))] ++ [(aw, .inl (cI, 512, .inl (oF fe)))] ++ [(ax, .inl (cI, 512, .inl (oF (va_up ea (t ||| (2 ^ i)) (some (w + vq_60))))))] : va_W) = [(y, .inr (12, [.ref as, .ref ai, .ref ar, .ref am, .ref ak, .ref ao, .ref az, .ref ae, .ref aq, .ref af, .int (bI hi), .int th, .int (nI po), .int (nI ba), .int (nI en), .ref an, .ref aw, .ref ax, .ref ap, .int se]))] ++ [(as, .inl (cI, 53, .inl (sF n d t day al nd bb oo K F kn)))] ++ [(aw, .inl (cI, 512, .inl (oF (gbF fe t i (leS n t al nd K F kn i d)))))] ++ [(ax, .inl (cI, 512, .inl (oF (gbE ea t i (leS n t al nd K F kn i d)))))] := by (simp only [gbF, gbE, hq_60, hfv, hew, Option.getD_some]); (first | rw [upO_0 hv_78] | rw [upO_l hv_78 c_97] | rw [← upO_g hv_78 c_97]); (first | rw [upO_0 hv_121] | rw [upO_l hv_121 c_140] | rw [← upO_g hv_121 c_140])
            rw [hW9] at hP hD
            exact W.vret hx hb hr (fun T9 hT9 hW9 => ⟨⟨(), rfl, trivial, by rw [hT9]; exact hP, hD⟩, hS.F hT9⟩) hS.2.2 dX12_growsBy_158
        refine lv_aload_n hx hb dX12_growsBy_100 rfl (lv_at hl 2 rfl) ?_
        refine va_get (D := (dC, dI)) (ci := 12) (v := .ref aw) (C := RX12) (T := TX12) (N := 20) hx hb hts (fun _ h => List.mem_cons_of_mem _ (List.mem_append_right _ h)) hown hK hP 0 rfl rfl 16 (by decide) (hts (.fieldLink RX12 43 "HoldsOnceDeniedModel" "fewest" "[I") (by decide +kernel)) (fun _ h9 => h9) rfl dX12_growsBy_101 ?_
        refine lv_iload hx hb dX12_growsBy_104 (lv_at hl 0 rfl) ?_
        refine lv_aload_n hx hb dX12_growsBy_106 rfl (lv_at hl 2 rfl) ?_
        refine va_get (D := (dC, dI)) (ci := 12) (v := .ref aw) (C := RX12) (T := TX12) (N := 20) hx hb hts (fun _ h => List.mem_cons_of_mem _ (List.mem_append_right _ h)) hown hK hP 0 rfl rfl 16 (by decide) (hts (.fieldLink RX12 43 "HoldsOnceDeniedModel" "fewest" "[I") (by decide +kernel)) (fun _ h9 => h9) rfl dX12_growsBy_107 ?_
        refine lv_iload_n hx hb dX12_growsBy_110 rfl (lv_at hl 3 rfl) ?_
        refine ho_iald (v := nI v) hx hb hK hP 2 0 rfl rfl (by omega) (by first | decide | omega) (show oI (fe t) = _ by rw [hfv]; rfl) dX12_growsBy_111 ?_
        refine lv_iconst (v := nI 1) hx hb dX12_growsBy_112 (by decide +kernel) ?_
        refine ho_iadd hx hb dX12_growsBy_113 ?_
        refine ho_iast (g := oF (va_up fe (t ||| (2 ^ i)) (some (v + 1)))) hx hb hK hP hD hS 2 0 rfl rfl hto (by first | decide | omega) (oF_up _ _ (some (v + 1))) dX12_growsBy_114 (fun H locs hP hD hS => ?_)
        have hP : va_P (dC, dI) vwCl ([(y, .inr (12, [.ref as, .ref ai, .ref ar, .ref am, .ref ak, .ref ao, .ref az, .ref ae, .ref aq, .ref af, .int (bI hi), .int th, .int (nI po), .int (nI ba), .int (nI en), .ref an, .ref aw, .ref ax, .ref ap, .int se]))] ++ [(as, .inl (cI, 53, .inl (sF n d t day al nd bb oo K F kn)))] ++ [(aw, .inl (cI, 512, .inl (oF (va_up fe (t ||| (2 ^ i)) (some (v + 1))))))] ++ [(ax, .inl (cI, 512, .inl (oF ea)))]) H := hP
        have hD : va_D A ([(y, .inr (12, [.ref as, .ref ai, .ref ar, .ref am, .ref ak, .ref ao, .ref az, .ref ae, .ref aq, .ref af, .int (bI hi), .int th, .int (nI po), .int (nI ba), .int (nI en), .ref an, .ref aw, .ref ax, .ref ap, .int se]))] ++ [(as, .inl (cI, 53, .inl (sF n d t day al nd bb oo K F kn)))] ++ [(aw, .inl (cI, 512, .inl (oF (va_up fe (t ||| (2 ^ i)) (some (v + 1))))))] ++ [(ax, .inl (cI, 512, .inl (oF ea)))]) := hD
        refine lv_aload_n hx hb dX12_growsBy_115 rfl (lv_at hl 2 rfl) ?_
        refine va_get (D := (dC, dI)) (ci := 12) (v := .ref ax) (C := RX12) (T := TX12) (N := 20) hx hb hts (fun _ h => List.mem_cons_of_mem _ (List.mem_append_right _ h)) hown hK hP 0 rfl rfl 17 (by decide) (hts (.fieldLink RX12 46 "HoldsOnceDeniedModel" "easiest" "[I") (by decide +kernel)) (fun _ h9 => h9) rfl dX12_growsBy_116 ?_
        refine lv_iload hx hb dX12_growsBy_119 (lv_at hl 0 rfl) ?_
        refine ho_iald (v := oI (ea (t ||| (2 ^ i)))) hx hb hK hP 3 0 rfl rfl hto (by first | decide | omega) rfl dX12_growsBy_121 ?_
        cases hv_121 : ea (t ||| (2 ^ i)) with
        | none =>
          refine ho_tope (y := (-4)) rfl ?_
          refine lv_if_lt (tgt := 143) hx hb dX12_growsBy_122 (by decide) (fun _ => ?_) (fun z => absurd z (by decide +kernel))
          refine lv_aload_n hx hb dX12_growsBy_143 rfl (lv_at hl 2 rfl) ?_
          refine va_get (D := (dC, dI)) (ci := 12) (v := .ref ax) (C := RX12) (T := TX12) (N := 20) hx hb hts (fun _ h => List.mem_cons_of_mem _ (List.mem_append_right _ h)) hown hK hP 0 rfl rfl 17 (by decide) (hts (.fieldLink RX12 46 "HoldsOnceDeniedModel" "easiest" "[I") (by decide +kernel)) (fun _ h9 => h9) rfl dX12_growsBy_144 ?_
          refine lv_iload hx hb dX12_growsBy_147 (lv_at hl 0 rfl) ?_
          refine lv_aload_n hx hb dX12_growsBy_149 rfl (lv_at hl 2 rfl) ?_
          refine va_get (D := (dC, dI)) (ci := 12) (v := .ref ax) (C := RX12) (T := TX12) (N := 20) hx hb hts (fun _ h => List.mem_cons_of_mem _ (List.mem_append_right _ h)) hown hK hP 0 rfl rfl 17 (by decide) (hts (.fieldLink RX12 46 "HoldsOnceDeniedModel" "easiest" "[I") (by decide +kernel)) (fun _ h9 => h9) rfl dX12_growsBy_150 ?_
          refine lv_iload_n hx hb dX12_growsBy_153 rfl (lv_at hl 3 rfl) ?_
          refine ho_iald (v := nI w) hx hb hK hP 3 0 rfl rfl (by omega) (by first | decide | omega) (show oI (ea t) = _ by rw [hew]; rfl) dX12_growsBy_154 ?_
          refine lv_iload_n hx hb dX12_growsBy_155 rfl (lv_at hl 1 rfl) ?_
          refine ho_iadd hx hb dX12_growsBy_156 ?_
          refine ho_iast (g := oF (va_up ea (t ||| (2 ^ i)) (some (w + vq_60)))) hx hb hK hP hD hS 3 0 rfl rfl hto (by first | decide | omega) (oF_up _ _ (some (w + vq_60))) dX12_growsBy_157 (fun H locs hP hD hS => ?_)
          have hP : va_P (dC, dI) vwCl ([(y, .inr (12, [.ref as, .ref ai, .ref ar, .ref am, .ref ak, .ref ao, .ref az, .ref ae, .ref aq, .ref af, .int (bI hi), .int th, .int (nI po), .int (nI ba), .int (nI en), .ref an, .ref aw, .ref ax, .ref ap, .int se]))] ++ [(as, .inl (cI, 53, .inl (sF n d t day al nd bb oo K F kn)))] ++ [(aw, .inl (cI, 512, .inl (oF (va_up fe (t ||| (2 ^ i)) (some (v + 1))))))] ++ [(ax, .inl (cI, 512, .inl (oF (va_up ea (t ||| (2 ^ i)) (some (w + vq_60))))))]) H := hP
          have hD : va_D A ([(y, .inr (12, [.ref as, .ref ai, .ref ar, .ref am, .ref ak, .ref ao, .ref az, .ref ae, .ref aq, .ref af, .int (bI hi), .int th, .int (nI po), .int (nI ba), .int (nI en), .ref an, .ref aw, .ref ax, .ref ap, .int se]))] ++ [(as, .inl (cI, 53, .inl (sF n d t day al nd bb oo K F kn)))] ++ [(aw, .inl (cI, 512, .inl (oF (va_up fe (t ||| (2 ^ i)) (some (v + 1))))))] ++ [(ax, .inl (cI, 512, .inl (oF (va_up ea (t ||| (2 ^ i)) (some (w + vq_60))))))]) := hD
          have hW9 : ([(y, .inr (12, [.ref as, .ref ai, .ref ar, .ref am, .ref ak, .ref ao, .ref az, .ref ae, .ref aq, .ref af, .int (bI hi), .int th, .int (nI po), .int (nI ba), .int (nI en), .ref an, .ref aw, .ref ax, .ref ap, .int se]))] ++ [(as, .inl (cI, 53, .inl (sF n d t day al nd bb oo K F kn)))] ++ [(aw, .inl (cI, 512, .inl (oF (va_up fe (t ||| (2 ^ i)) (some (v + 1))))))] ++ [(ax, .inl (cI, 512, .inl (oF (va_up ea (t ||| (2 ^ i)) (some (w + vq_60))))))] : va_W) = [(y, .inr (12, [.ref as, .ref ai, .ref ar, .ref am, .ref ak, .ref ao, .ref az, .ref ae, .ref aq, .ref af, .int (bI hi), .int th, .int (nI po), .int (nI ba), .int (nI en), .ref an, .ref aw, .ref ax, .ref ap, .int se]))] ++ [(as, .inl (cI, 53, .inl (sF n d t day al nd bb oo K F kn)))] ++ [(aw, .inl (cI, 512, .inl (oF (gbF fe t i (leS n t al nd K F kn i d)))))] ++ [(ax, .inl (cI, 512, .inl (oF (gbE ea t i (leS n t al nd K F kn i d)))))] := by (simp only [gbF, gbE, hq_60, hfv, hew, Option.getD_some]); (first | rw [upO_0 hv_78] | rw [upO_l hv_78 c_97] | rw [← upO_g hv_78 c_97]); (first | rw [upO_0 hv_121] | rw [upO_l hv_121 c_140] | rw [← upO_g hv_121 c_140])
          rw [hW9] at hP hD
          exact W.vret hx hb hr (fun T9 hT9 hW9 => ⟨⟨(), rfl, trivial, by rw [hT9]; exact hP, hD⟩, hS.F hT9⟩) hS.2.2 dX12_growsBy_158
        | some v_121 =>
          refine ho_tope (y := nI v_121) rfl ?_
          have b121 := gea _ _ hv_121
          refine ho_if_lt0 hx hb dX12_growsBy_122 (tgt := 143) (by decide) (by omega) ?_
          refine lv_aload_n hx hb dX12_growsBy_125 rfl (lv_at hl 2 rfl) ?_
          refine va_get (D := (dC, dI)) (ci := 12) (v := .ref ax) (C := RX12) (T := TX12) (N := 20) hx hb hts (fun _ h => List.mem_cons_of_mem _ (List.mem_append_right _ h)) hown hK hP 0 rfl rfl 17 (by decide) (hts (.fieldLink RX12 46 "HoldsOnceDeniedModel" "easiest" "[I") (by decide +kernel)) (fun _ h9 => h9) rfl dX12_growsBy_126 ?_
          refine lv_iload_n hx hb dX12_growsBy_129 rfl (lv_at hl 3 rfl) ?_
          refine ho_iald (v := nI w) hx hb hK hP 3 0 rfl rfl (by omega) (by first | decide | omega) (show oI (ea t) = _ by rw [hew]; rfl) dX12_growsBy_130 ?_
          refine lv_iload_n hx hb dX12_growsBy_131 rfl (lv_at hl 1 rfl) ?_
          refine ho_iadd hx hb dX12_growsBy_132 ?_
          refine lv_aload_n hx hb dX12_growsBy_133 rfl (lv_at hl 2 rfl) ?_
          refine va_get (D := (dC, dI)) (ci := 12) (v := .ref ax) (C := RX12) (T := TX12) (N := 20) hx hb hts (fun _ h => List.mem_cons_of_mem _ (List.mem_append_right _ h)) hown hK hP 0 rfl rfl 17 (by decide) (hts (.fieldLink RX12 46 "HoldsOnceDeniedModel" "easiest" "[I") (by decide +kernel)) (fun _ h9 => h9) rfl dX12_growsBy_134 ?_
          refine lv_iload hx hb dX12_growsBy_137 (lv_at hl 0 rfl) ?_
          refine ho_iald (v := nI v_121) hx hb hK hP 3 0 rfl rfl hto (by first | decide | omega) (show oI (ea (t ||| (2 ^ i))) = _ by rw [hv_121]; rfl) dX12_growsBy_139 ?_
          refine ho_icmp_ge (tgt := 158) hx hb dX12_growsBy_140 (by decide) (by omega) (by omega) (fun c_140 => ?_) (fun c_140 => ?_)
          · have hW9 : ([(y, .inr (12, [.ref as, .ref ai, .ref ar, .ref am, .ref ak, .ref ao, .ref az, .ref ae, .ref aq, .ref af, .int (bI hi), .int th, .int (nI po), .int (nI ba), .int (nI en), .ref an, .ref aw, .ref ax, .ref ap, .int se]))] ++ [(as, .inl (cI, 53, .inl (sF n d t day al nd bb oo K F kn)))] ++ [(aw, .inl (cI, 512, .inl (oF (va_up fe (t ||| (2 ^ i)) (some (v + 1))))))] ++ [(ax, .inl (cI, 512, .inl (oF ea)))] : va_W) = [(y, .inr (12, [.ref as, .ref ai, .ref ar, .ref am, .ref ak, .ref ao, .ref az, .ref ae, .ref aq, .ref af, .int (bI hi), .int th, .int (nI po), .int (nI ba), .int (nI en), .ref an, .ref aw, .ref ax, .ref ap, .int se]))] ++ [(as, .inl (cI, 53, .inl (sF n d t day al nd bb oo K F kn)))] ++ [(aw, .inl (cI, 512, .inl (oF (gbF fe t i (leS n t al nd K F kn i d)))))] ++ [(ax, .inl (cI, 512, .inl (oF (gbE ea t i (leS n t al nd K F kn i d)))))] := by (simp only [gbF, gbE, hq_60, hfv, hew, Option.getD_some]); (first | rw [upO_0 hv_78] | rw [upO_l hv_78 c_97] | rw [← upO_g hv_78 c_97]); (first | rw [upO_0 hv_121] | rw [upO_l hv_121 c_140] | rw [← upO_g hv_121 c_140])
            rw [hW9] at hP hD
            exact W.vret hx hb hr (fun T9 hT9 hW9 => ⟨⟨(), rfl, trivial, by rw [hT9]; exact hP, hD⟩, hS.F hT9⟩) hS.2.2 dX12_growsBy_158
          refine lv_aload_n hx hb dX12_growsBy_143 rfl (lv_at hl 2 rfl) ?_
          refine va_get (D := (dC, dI)) (ci := 12) (v := .ref ax) (C := RX12) (T := TX12) (N := 20) hx hb hts (fun _ h => List.mem_cons_of_mem _ (List.mem_append_right _ h)) hown hK hP 0 rfl rfl 17 (by decide) (hts (.fieldLink RX12 46 "HoldsOnceDeniedModel" "easiest" "[I") (by decide +kernel)) (fun _ h9 => h9) rfl dX12_growsBy_144 ?_
          refine lv_iload hx hb dX12_growsBy_147 (lv_at hl 0 rfl) ?_
          refine lv_aload_n hx hb dX12_growsBy_149 rfl (lv_at hl 2 rfl) ?_
          refine va_get (D := (dC, dI)) (ci := 12) (v := .ref ax) (C := RX12) (T := TX12) (N := 20) hx hb hts (fun _ h => List.mem_cons_of_mem _ (List.mem_append_right _ h)) hown hK hP 0 rfl rfl 17 (by decide) (hts (.fieldLink RX12 46 "HoldsOnceDeniedModel" "easiest" "[I") (by decide +kernel)) (fun _ h9 => h9) rfl dX12_growsBy_150 ?_
          refine lv_iload_n hx hb dX12_growsBy_153 rfl (lv_at hl 3 rfl) ?_
          refine ho_iald (v := nI w) hx hb hK hP 3 0 rfl rfl (by omega) (by first | decide | omega) (show oI (ea t) = _ by rw [hew]; rfl) dX12_growsBy_154 ?_
          refine lv_iload_n hx hb dX12_growsBy_155 rfl (lv_at hl 1 rfl) ?_
          refine ho_iadd hx hb dX12_growsBy_156 ?_
          refine ho_iast (g := oF (va_up ea (t ||| (2 ^ i)) (some (w + vq_60)))) hx hb hK hP hD hS 3 0 rfl rfl hto (by first | decide | omega) (oF_up _ _ (some (w + vq_60))) dX12_growsBy_157 (fun H locs hP hD hS => ?_)
          have hP : va_P (dC, dI) vwCl ([(y, .inr (12, [.ref as, .ref ai, .ref ar, .ref am, .ref ak, .ref ao, .ref az, .ref ae, .ref aq, .ref af, .int (bI hi), .int th, .int (nI po), .int (nI ba), .int (nI en), .ref an, .ref aw, .ref ax, .ref ap, .int se]))] ++ [(as, .inl (cI, 53, .inl (sF n d t day al nd bb oo K F kn)))] ++ [(aw, .inl (cI, 512, .inl (oF (va_up fe (t ||| (2 ^ i)) (some (v + 1))))))] ++ [(ax, .inl (cI, 512, .inl (oF (va_up ea (t ||| (2 ^ i)) (some (w + vq_60))))))]) H := hP
          have hD : va_D A ([(y, .inr (12, [.ref as, .ref ai, .ref ar, .ref am, .ref ak, .ref ao, .ref az, .ref ae, .ref aq, .ref af, .int (bI hi), .int th, .int (nI po), .int (nI ba), .int (nI en), .ref an, .ref aw, .ref ax, .ref ap, .int se]))] ++ [(as, .inl (cI, 53, .inl (sF n d t day al nd bb oo K F kn)))] ++ [(aw, .inl (cI, 512, .inl (oF (va_up fe (t ||| (2 ^ i)) (some (v + 1))))))] ++ [(ax, .inl (cI, 512, .inl (oF (va_up ea (t ||| (2 ^ i)) (some (w + vq_60))))))]) := hD
          have hW9 : ([(y, .inr (12, [.ref as, .ref ai, .ref ar, .ref am, .ref ak, .ref ao, .ref az, .ref ae, .ref aq, .ref af, .int (bI hi), .int th, .int (nI po), .int (nI ba), .int (nI en), .ref an, .ref aw, .ref ax, .ref ap, .int se]))] ++ [(as, .inl (cI, 53, .inl (sF n d t day al nd bb oo K F kn)))] ++ [(aw, .inl (cI, 512, .inl (oF (va_up fe (t ||| (2 ^ i)) (some (v + 1))))))] ++ [(ax, .inl (cI, 512, .inl (oF (va_up ea (t ||| (2 ^ i)) (some (w + vq_60))))))] : va_W) = [(y, .inr (12, [.ref as, .ref ai, .ref ar, .ref am, .ref ak, .ref ao, .ref az, .ref ae, .ref aq, .ref af, .int (bI hi), .int th, .int (nI po), .int (nI ba), .int (nI en), .ref an, .ref aw, .ref ax, .ref ap, .int se]))] ++ [(as, .inl (cI, 53, .inl (sF n d t day al nd bb oo K F kn)))] ++ [(aw, .inl (cI, 512, .inl (oF (gbF fe t i (leS n t al nd K F kn i d)))))] ++ [(ax, .inl (cI, 512, .inl (oF (gbE ea t i (leS n t al nd K F kn i d)))))] := by (simp only [gbF, gbE, hq_60, hfv, hew, Option.getD_some]); (first | rw [upO_0 hv_78] | rw [upO_l hv_78 c_97] | rw [← upO_g hv_78 c_97]); (first | rw [upO_0 hv_121] | rw [upO_l hv_121 c_140] | rw [← upO_g hv_121 c_140])
          rw [hW9] at hP hD
          exact W.vret hx hb hr (fun T9 hT9 hW9 => ⟨⟨(), rfl, trivial, by rw [hT9]; exact hP, hD⟩, hS.F hT9⟩) hS.2.2 dX12_growsBy_158
  refine lv_aload_n hx hb dX12_growsBy_17 rfl (lv_at hl 2 rfl) ?_
  refine lv_iload hx hb dX12_growsBy_18 (lv_at hl 0 rfl) ?_
  refine lv_iconst (v := nI 0) hx hb dX12_growsBy_20 (by decide +kernel) ?_
  refine vp_callSi ((va_runV (As := [.int (nI j), .int (nI 0)]) (rest := []) ⟨hx, hb, hml, hown, hts⟩ (c_X12_silencesOf l dC dI cI cD cR y as ai ar am ak ao az ae aq af hi th po ba en an aw ax ap se n d t day al nd bb oo K F kn j 0 (by first | omega | assumption | exact gnd _ | exact gkn _ | exact Nat.lt_trans (gkn _) (by decide) | exact Nat.lt_trans (gnd _) (by decide) | exact Nat.lt_of_le_of_lt (pcN_le _) (by decide)) (by first | omega | assumption | exact gnd _ | exact gkn _ | exact Nat.lt_trans (gkn _) (by decide) | exact Nat.lt_trans (gnd _) (by decide) | exact Nat.lt_of_le_of_lt (pcN_le _) (by decide)) (by first | omega | assumption | exact gnd _ | exact gkn _ | exact Nat.lt_trans (gkn _) (by decide) | exact Nat.lt_trans (gnd _) (by decide) | exact Nat.lt_of_le_of_lt (pcN_le _) (by decide)) (by first | omega | assumption | exact gnd _ | exact gkn _ | exact Nat.lt_trans (gkn _) (by decide) | exact Nat.lt_trans (gnd _) (by decide) | exact Nat.lt_of_le_of_lt (pcN_le _) (by decide)) (by first | omega | assumption | exact gnd _ | exact gkn _ | exact Nat.lt_trans (gkn _) (by decide) | exact Nat.lt_trans (gnd _) (by decide) | exact Nat.lt_of_le_of_lt (pcN_le _) (by decide)) gnd gkn gK gF (by first | omega | assumption | exact gnd _ | exact gkn _ | exact Nat.lt_trans (gkn _) (by decide) | exact Nat.lt_trans (gnd _) (by decide) | exact Nat.lt_of_le_of_lt (pcN_le _) (by decide)) (by first | omega | assumption | exact gnd _ | exact gkn _ | exact Nat.lt_trans (gkn _) (by decide) | exact Nat.lt_trans (gnd _) (by decide) | exact Nat.lt_of_le_of_lt (pcN_le _) (by decide))) (cwV 2 hts gX12_growsBy_X12_silencesOf rfl rfl rfl (by decide +kernel) ⟨Nat.le_of_ble_eq_true rfl, Nat.le_of_ble_eq_true rfl⟩) (preV_R hCX (va_recv hK hP (ci := 12) (q0 := 0) rfl rfl) ((hP.sub (ws' := [(y, .inr (12, [.ref as, .ref ai, .ref ar, .ref am, .ref ak, .ref ao, .ref az, .ref ae, .ref aq, .ref af, .int (bI hi), .int th, .int (nI po), .int (nI ba), .int (nI en), .ref an, .ref aw, .ref ax, .ref ap, .int se]))] ++ [(as, .inl (cI, 53, .inl (sF n d t day al nd bb oo K F kn)))]) [0, 1] rfl))) rfl rfl hl.1 rfl (lv_room (Nat.le_of_ble_eq_true rfl)) dX12_growsBy_21 ⟨Nat.le_of_ble_eq_true (by first | rfl | decide), Nat.le_of_ble_eq_true (by first | rfl | decide)⟩).run) (fun r_21 hr_21 => ?_)
  subst hr_21
  refine lv_iload_n hx hb dX12_growsBy_24 rfl (lv_at hl 4 rfl) ?_
  refine vp_callSi ((va_runS (As := [.int (nI (smN n t al nd K F kn (0 % 2 != 0) j)), .int (nI i)]) (rest := []) ⟨hx, hb, hml, hown, hts⟩ (c_X12_has l dC dI cI cD cR (smN n t al nd K F kn (0 % 2 != 0) j) i (Nat.lt_trans (smN_lt hn) (by decide)) (by first | omega | assumption | exact gnd _ | exact gkn _ | exact Nat.lt_trans (gkn _) (by decide) | exact Nat.lt_trans (gnd _) (by decide) | exact Nat.lt_of_le_of_lt (pcN_le _) (by decide))) (va_cwS 2 hts gX12_growsBy_X12_has rfl rfl rfl (by decide +kernel) ⟨Nat.le_of_ble_eq_true rfl, Nat.le_of_ble_eq_true rfl⟩) (preS_R hCX (trivial)) rfl rfl hl.1 rfl (lv_room (Nat.le_of_ble_eq_true rfl)) dX12_growsBy_25 ⟨Nat.le_of_ble_eq_true (by first | rfl | decide), Nat.le_of_ble_eq_true (by first | rfl | decide)⟩).run) (fun r_25 hr_25 => ?_)
  subst hr_25
  refine ho_beq (tgt := 54) hx hb dX12_growsBy_28 (by decide) (fun c_28 => ?_) (fun c_28 => ?_)
  · refine ho_iinc (lv' := [(4, .int (nI (j + 1))), (3, .int (oI (leS n t al nd K F kn i j))), (0, .ref y), (1, .int (nI t)), (2, .int (nI i))]) (a := j) (b := 1) hx hb dX12_growsBy_54 hl (k := 0) rfl rfl (by decide) rfl (fun ls hl => ?_)
    refine lv_goto (tgt := 6) hx hb dX12_growsBy_57 (by decide) ?_
    have e9_3 : (oI (leS n t al nd K F kn i j) : Int32) = oI (leS n t al nd K F kn i (j + 1)) := by first | exact congrArg oI (leS_f c_28) | exact congrArg oI (leS_0 c_28 hq_31) | exact congrArg oI (leS_l c_28 hq_31 c_43) | exact congrArg oI (leS_g c_28 hq_31 c_43)
    rw [e9_3] at hl
    exact ih6 (j + 1) _ (by omega) (show d - (j + 1) < fu6 from (by omega)) (lv_sub hl [0, 1, 2, 3, 4] rfl)
  obtain ⟨q_31, hq_31⟩ : ∃ y, y = leS n t al nd K F kn i j := ⟨_, rfl⟩
  rw [← hq_31] at hl
  cases q_31 with
  | none =>
    have hl : lv_has ls 5 [(4, .int (nI j)), (3, .int (-4)), (0, .ref y), (1, .int (nI t)), (2, .int (nI i))] := hl
    have hq_31 := hq_31.symm
    refine lv_iload_n hx hb dX12_growsBy_31 rfl (lv_at hl 1 rfl) ?_
    refine lv_if_lt (tgt := 46) hx hb dX12_growsBy_32 (by decide) (fun _ => ?_) (fun z => absurd z (by decide +kernel))
    refine lv_aload_n hx hb dX12_growsBy_46 rfl (lv_at hl 2 rfl) ?_
    refine lv_iload hx hb dX12_growsBy_47 (lv_at hl 0 rfl) ?_
    refine lv_iload_n hx hb dX12_growsBy_49 rfl (lv_at hl 4 rfl) ?_
    refine vp_callSi ((va_runV (As := [.int (nI j), .int (nI i)]) (rest := []) ⟨hx, hb, hml, hown, hts⟩ (c_X12_stepsOf l dC dI cI cD cR y as ai ar am ak ao az ae aq af hi th po ba en an aw ax ap se n d t day al nd bb oo K F kn j i (by first | omega | assumption | exact gnd _ | exact gkn _ | exact Nat.lt_trans (gkn _) (by decide) | exact Nat.lt_trans (gnd _) (by decide) | exact Nat.lt_of_le_of_lt (pcN_le _) (by decide)) (by first | omega | assumption | exact gnd _ | exact gkn _ | exact Nat.lt_trans (gkn _) (by decide) | exact Nat.lt_trans (gnd _) (by decide) | exact Nat.lt_of_le_of_lt (pcN_le _) (by decide)) (by first | omega | assumption | exact gnd _ | exact gkn _ | exact Nat.lt_trans (gkn _) (by decide) | exact Nat.lt_trans (gnd _) (by decide) | exact Nat.lt_of_le_of_lt (pcN_le _) (by decide)) (by first | omega | assumption | exact gnd _ | exact gkn _ | exact Nat.lt_trans (gkn _) (by decide) | exact Nat.lt_trans (gnd _) (by decide) | exact Nat.lt_of_le_of_lt (pcN_le _) (by decide)) (by first | omega | assumption | exact gnd _ | exact gkn _ | exact Nat.lt_trans (gkn _) (by decide) | exact Nat.lt_trans (gnd _) (by decide) | exact Nat.lt_of_le_of_lt (pcN_le _) (by decide)) gnd gkn gK gF (by first | omega | assumption | exact gnd _ | exact gkn _ | exact Nat.lt_trans (gkn _) (by decide) | exact Nat.lt_trans (gnd _) (by decide) | exact Nat.lt_of_le_of_lt (pcN_le _) (by decide)) (by first | omega | assumption | exact gnd _ | exact gkn _ | exact Nat.lt_trans (gkn _) (by decide) | exact Nat.lt_trans (gnd _) (by decide) | exact Nat.lt_of_le_of_lt (pcN_le _) (by decide))) (cwV 2 hts gX12_growsBy_X12_stepsOf rfl rfl rfl (by decide +kernel) ⟨Nat.le_of_ble_eq_true rfl, Nat.le_of_ble_eq_true rfl⟩) (preV_R hCX (va_recv hK hP (ci := 12) (q0 := 0) rfl rfl) ((hP.sub (ws' := [(y, .inr (12, [.ref as, .ref ai, .ref ar, .ref am, .ref ak, .ref ao, .ref az, .ref ae, .ref aq, .ref af, .int (bI hi), .int th, .int (nI po), .int (nI ba), .int (nI en), .ref an, .ref aw, .ref ax, .ref ap, .int se]))] ++ [(as, .inl (cI, 53, .inl (sF n d t day al nd bb oo K F kn)))]) [0, 1] rfl))) rfl rfl hl.1 rfl (lv_room (Nat.le_of_ble_eq_true rfl)) dX12_growsBy_50 ⟨Nat.le_of_ble_eq_true (by first | rfl | decide), Nat.le_of_ble_eq_true (by first | rfl | decide)⟩).run) (fun r_50 hr_50 => ?_)
    subst hr_50
    refine lv_istore_n (lv' := [(3, .int (nI (efN (K j) (F j) (pcN (nd i))))), (4, .int (nI j)), (0, .ref y), (1, .int (nI t)), (2, .int (nI i))]) hx hb dX12_growsBy_53 rfl hl (by decide) rfl (fun ls hl => ?_)
    refine ho_iinc (lv' := [(4, .int (nI (j + 1))), (3, .int (nI (efN (K j) (F j) (pcN (nd i))))), (0, .ref y), (1, .int (nI t)), (2, .int (nI i))]) (a := j) (b := 1) hx hb dX12_growsBy_54 hl (k := 1) rfl rfl (by decide) rfl (fun ls hl => ?_)
    refine lv_goto (tgt := 6) hx hb dX12_growsBy_57 (by decide) ?_
    have e9_3 : (nI (efN (K j) (F j) (pcN (nd i))) : Int32) = oI (leS n t al nd K F kn i (j + 1)) := by first | exact congrArg oI (leS_f c_28) | exact congrArg oI (leS_0 c_28 hq_31) | exact congrArg oI (leS_l c_28 hq_31 c_43) | exact congrArg oI (leS_g c_28 hq_31 c_43)
    rw [e9_3] at hl
    exact ih6 (j + 1) _ (by omega) (show d - (j + 1) < fu6 from (by omega)) (lv_sub hl [0, 1, 2, 3, 4] rfl)
  | some vq_31 =>
    have hl : lv_has ls 5 [(4, .int (nI j)), (3, .int (nI vq_31)), (0, .ref y), (1, .int (nI t)), (2, .int (nI i))] := hl
    have hq_31 := hq_31.symm
    have hv31 := leS_lt gF j _ hq_31
    refine lv_iload_n hx hb dX12_growsBy_31 rfl (lv_at hl 1 rfl) ?_
    refine ho_if_lt0 hx hb dX12_growsBy_32 (tgt := 46) (by decide) (by omega) ?_
    refine lv_aload_n hx hb dX12_growsBy_35 rfl (lv_at hl 2 rfl) ?_
    refine lv_iload hx hb dX12_growsBy_36 (lv_at hl 0 rfl) ?_
    refine lv_iload_n hx hb dX12_growsBy_38 rfl (lv_at hl 4 rfl) ?_
    refine vp_callSi ((va_runV (As := [.int (nI j), .int (nI i)]) (rest := []) ⟨hx, hb, hml, hown, hts⟩ (c_X12_stepsOf l dC dI cI cD cR y as ai ar am ak ao az ae aq af hi th po ba en an aw ax ap se n d t day al nd bb oo K F kn j i (by first | omega | assumption | exact gnd _ | exact gkn _ | exact Nat.lt_trans (gkn _) (by decide) | exact Nat.lt_trans (gnd _) (by decide) | exact Nat.lt_of_le_of_lt (pcN_le _) (by decide)) (by first | omega | assumption | exact gnd _ | exact gkn _ | exact Nat.lt_trans (gkn _) (by decide) | exact Nat.lt_trans (gnd _) (by decide) | exact Nat.lt_of_le_of_lt (pcN_le _) (by decide)) (by first | omega | assumption | exact gnd _ | exact gkn _ | exact Nat.lt_trans (gkn _) (by decide) | exact Nat.lt_trans (gnd _) (by decide) | exact Nat.lt_of_le_of_lt (pcN_le _) (by decide)) (by first | omega | assumption | exact gnd _ | exact gkn _ | exact Nat.lt_trans (gkn _) (by decide) | exact Nat.lt_trans (gnd _) (by decide) | exact Nat.lt_of_le_of_lt (pcN_le _) (by decide)) (by first | omega | assumption | exact gnd _ | exact gkn _ | exact Nat.lt_trans (gkn _) (by decide) | exact Nat.lt_trans (gnd _) (by decide) | exact Nat.lt_of_le_of_lt (pcN_le _) (by decide)) gnd gkn gK gF (by first | omega | assumption | exact gnd _ | exact gkn _ | exact Nat.lt_trans (gkn _) (by decide) | exact Nat.lt_trans (gnd _) (by decide) | exact Nat.lt_of_le_of_lt (pcN_le _) (by decide)) (by first | omega | assumption | exact gnd _ | exact gkn _ | exact Nat.lt_trans (gkn _) (by decide) | exact Nat.lt_trans (gnd _) (by decide) | exact Nat.lt_of_le_of_lt (pcN_le _) (by decide))) (cwV 2 hts gX12_growsBy_X12_stepsOf rfl rfl rfl (by decide +kernel) ⟨Nat.le_of_ble_eq_true rfl, Nat.le_of_ble_eq_true rfl⟩) (preV_R hCX (va_recv hK hP (ci := 12) (q0 := 0) rfl rfl) ((hP.sub (ws' := [(y, .inr (12, [.ref as, .ref ai, .ref ar, .ref am, .ref ak, .ref ao, .ref az, .ref ae, .ref aq, .ref af, .int (bI hi), .int th, .int (nI po), .int (nI ba), .int (nI en), .ref an, .ref aw, .ref ax, .ref ap, .int se]))] ++ [(as, .inl (cI, 53, .inl (sF n d t day al nd bb oo K F kn)))]) [0, 1] rfl))) rfl rfl hl.1 rfl (lv_room (Nat.le_of_ble_eq_true rfl)) dX12_growsBy_39 ⟨Nat.le_of_ble_eq_true (by first | rfl | decide), Nat.le_of_ble_eq_true (by first | rfl | decide)⟩).run) (fun r_39 hr_39 => ?_)
    subst hr_39
    refine lv_iload_n hx hb dX12_growsBy_42 rfl (lv_at hl 1 rfl) ?_
    refine ho_icmp_ge (tgt := 54) hx hb dX12_growsBy_43 (by decide) (Nat.lt_trans (efN_lt (gF j) (pcN_le _)) (by decide)) (by omega) (fun c_43 => ?_) (fun c_43 => ?_)
    · refine ho_iinc (lv' := [(4, .int (nI (j + 1))), (3, .int (nI vq_31)), (0, .ref y), (1, .int (nI t)), (2, .int (nI i))]) (a := j) (b := 1) hx hb dX12_growsBy_54 hl (k := 0) rfl rfl (by decide) rfl (fun ls hl => ?_)
      refine lv_goto (tgt := 6) hx hb dX12_growsBy_57 (by decide) ?_
      have e9_3 : (nI vq_31 : Int32) = oI (leS n t al nd K F kn i (j + 1)) := by first | exact congrArg oI (leS_f c_28) | exact congrArg oI (leS_0 c_28 hq_31) | exact congrArg oI (leS_l c_28 hq_31 c_43) | exact congrArg oI (leS_g c_28 hq_31 c_43)
      rw [e9_3] at hl
      exact ih6 (j + 1) _ (by omega) (show d - (j + 1) < fu6 from (by omega)) (lv_sub hl [0, 1, 2, 3, 4] rfl)
    refine lv_aload_n hx hb dX12_growsBy_46 rfl (lv_at hl 2 rfl) ?_
    refine lv_iload hx hb dX12_growsBy_47 (lv_at hl 0 rfl) ?_
    refine lv_iload_n hx hb dX12_growsBy_49 rfl (lv_at hl 4 rfl) ?_
    refine vp_callSi ((va_runV (As := [.int (nI j), .int (nI i)]) (rest := []) ⟨hx, hb, hml, hown, hts⟩ (c_X12_stepsOf l dC dI cI cD cR y as ai ar am ak ao az ae aq af hi th po ba en an aw ax ap se n d t day al nd bb oo K F kn j i (by first | omega | assumption | exact gnd _ | exact gkn _ | exact Nat.lt_trans (gkn _) (by decide) | exact Nat.lt_trans (gnd _) (by decide) | exact Nat.lt_of_le_of_lt (pcN_le _) (by decide)) (by first | omega | assumption | exact gnd _ | exact gkn _ | exact Nat.lt_trans (gkn _) (by decide) | exact Nat.lt_trans (gnd _) (by decide) | exact Nat.lt_of_le_of_lt (pcN_le _) (by decide)) (by first | omega | assumption | exact gnd _ | exact gkn _ | exact Nat.lt_trans (gkn _) (by decide) | exact Nat.lt_trans (gnd _) (by decide) | exact Nat.lt_of_le_of_lt (pcN_le _) (by decide)) (by first | omega | assumption | exact gnd _ | exact gkn _ | exact Nat.lt_trans (gkn _) (by decide) | exact Nat.lt_trans (gnd _) (by decide) | exact Nat.lt_of_le_of_lt (pcN_le _) (by decide)) (by first | omega | assumption | exact gnd _ | exact gkn _ | exact Nat.lt_trans (gkn _) (by decide) | exact Nat.lt_trans (gnd _) (by decide) | exact Nat.lt_of_le_of_lt (pcN_le _) (by decide)) gnd gkn gK gF (by first | omega | assumption | exact gnd _ | exact gkn _ | exact Nat.lt_trans (gkn _) (by decide) | exact Nat.lt_trans (gnd _) (by decide) | exact Nat.lt_of_le_of_lt (pcN_le _) (by decide)) (by first | omega | assumption | exact gnd _ | exact gkn _ | exact Nat.lt_trans (gkn _) (by decide) | exact Nat.lt_trans (gnd _) (by decide) | exact Nat.lt_of_le_of_lt (pcN_le _) (by decide))) (cwV 2 hts gX12_growsBy_X12_stepsOf rfl rfl rfl (by decide +kernel) ⟨Nat.le_of_ble_eq_true rfl, Nat.le_of_ble_eq_true rfl⟩) (preV_R hCX (va_recv hK hP (ci := 12) (q0 := 0) rfl rfl) ((hP.sub (ws' := [(y, .inr (12, [.ref as, .ref ai, .ref ar, .ref am, .ref ak, .ref ao, .ref az, .ref ae, .ref aq, .ref af, .int (bI hi), .int th, .int (nI po), .int (nI ba), .int (nI en), .ref an, .ref aw, .ref ax, .ref ap, .int se]))] ++ [(as, .inl (cI, 53, .inl (sF n d t day al nd bb oo K F kn)))]) [0, 1] rfl))) rfl rfl hl.1 rfl (lv_room (Nat.le_of_ble_eq_true rfl)) dX12_growsBy_50 ⟨Nat.le_of_ble_eq_true (by first | rfl | decide), Nat.le_of_ble_eq_true (by first | rfl | decide)⟩).run) (fun r_50 hr_50 => ?_)
    subst hr_50
    refine lv_istore_n (lv' := [(3, .int (nI (efN (K j) (F j) (pcN (nd i))))), (4, .int (nI j)), (0, .ref y), (1, .int (nI t)), (2, .int (nI i))]) hx hb dX12_growsBy_53 rfl hl (by decide) rfl (fun ls hl => ?_)
    refine ho_iinc (lv' := [(4, .int (nI (j + 1))), (3, .int (nI (efN (K j) (F j) (pcN (nd i))))), (0, .ref y), (1, .int (nI t)), (2, .int (nI i))]) (a := j) (b := 1) hx hb dX12_growsBy_54 hl (k := 1) rfl rfl (by decide) rfl (fun ls hl => ?_)
    refine lv_goto (tgt := 6) hx hb dX12_growsBy_57 (by decide) ?_
    have e9_3 : (nI (efN (K j) (F j) (pcN (nd i))) : Int32) = oI (leS n t al nd K F kn i (j + 1)) := by first | exact congrArg oI (leS_f c_28) | exact congrArg oI (leS_0 c_28 hq_31) | exact congrArg oI (leS_l c_28 hq_31 c_43) | exact congrArg oI (leS_g c_28 hq_31 c_43)
    rw [e9_3] at hl
    exact ih6 (j + 1) _ (by omega) (show d - (j + 1) < fu6 from (by omega)) (lv_sub hl [0, 1, 2, 3, 4] rfl)
