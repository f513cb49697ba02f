set_option maxHeartbeats 4000000 in
set_option maxRecDepth 100000 in
theorem c_X12_may_n (l : Launch) (dC : Nat → ClassId) (dI : Nat → Nat → Nat) (cI cD cR : ClassId) (y as ai ar am ak ao az ae aq af : Nat) (hi : Bool) (th : Int32) (po ba en an aw ax ap : Nat) (se : Int32) (n d t day al : Nat) (nd : Nat → Nat) (bb oo : Nat → Int32) (K F kn : Nat → Nat) (j : Nat) (hn : n ≤ 9) (hd : d ≤ 7) (ht : t < 512) (hal : al < 128) (hday : day < 2 ^ 30) (gnd : ∀ i, nd i < 512) (gkn : ∀ j, kn j < 512) (gK : ∀ j, K j < 8) (gF : ∀ j, F j < 10) (hj9 : j < d) (hd6 : d ≤ 6) : Met l yX12_may wsX12_may ({ frames := 4, cells := 0, slots := 0, locals := 91 }) (pcR dC dI cI cD cR [.ref y, .int (nI j)] (fun H => va_P (dC, dI) vwCl ([(y, .inr (12, [.ref as, .ref ai, .ref ar, .ref am, .ref ak, .ref ao, .ref az, .ref ae, .ref aq, .ref af, .int (bI hi), .int th, .int (nI po), .int (nI ba), .int (nI en), .ref an, .ref aw, .ref ax, .ref ap, .int se]))] ++ [(as, .inl (cI, 53, .inl (sF n d t day al nd bb oo K F kn)))]) H)) (vp_Si (fun r => r = nI (orF (fun s9 => mnB t al nd K F kn j s9) n))) 0 0 (fun _ => False) := by
  refine Met.ofW (cc := cX12_may) (maxL := 4) (ret := (some .int)) (by decide) rfl ?_
  intro p e s m args below meth c s₁ B hml hv
  obtain ⟨rfl, hH0, hCX⟩ := hv
  have hx := B.exec
  have hb := B.bytes
  have hr := B.returns
  have hts := atoms_spec (ws := wsX12_may) B.pre
  have hown : s.vm.findClass RX12 = some m.cls := findClass_of_methodNamed B.named
  have hlocks := B.notSynchronized
  have hK := hCX.1
  have hP := hH0
  have hl := lv_entry ([.ref y, .int (nI j)]) (n := 4) (Nat.le_of_ble_eq_true rfl)
  rw [lg_entry_eq]
  generalize (lg_sl ([.ref y, .int (nI j)]) ++ List.replicate (4 - (lg_sl ([.ref y, .int (nI j)])).length) Slot.unset).toArray = ls at hl ⊢
  have hl : lv_has ls 4 [(0, .ref y), (1, .int (nI j))] := hl
  refine lv_aload_n hx hb dX12_may_0 rfl (lv_at hl 0 rfl) ?_
  refine lv_iload_n hx hb dX12_may_1 rfl (lv_at hl 1 rfl) ?_
  refine vp_callSi ((va_runV (As := [.int (nI j)]) (rest := []) ⟨hx, hb, hml, hown, hts⟩ (c_X12_isDenier_t l dC dI cI cD cR y as ai ar am ak ao az ae aq af hi th po ba en an aw ax ap se n d t day al nd bb oo K F kn j (by first | omega | assumption | exact gnd _ | exact gkn _ | exact Nat.lt_trans (gkn _) (by decide) | exact Nat.lt_trans (gnd _) (by decide) | exact Nat.lt_of_le_of_lt (pcN_le _) (by decide)) (by first | omega | assumption | exact gnd _ | exact gkn _ | exact Nat.lt_trans (gkn _) (by decide) | exact Nat.lt_trans (gnd _) (by decide) | exact Nat.lt_of_le_of_lt (pcN_le _) (by decide)) (by first | omega | assumption | exact gnd _ | exact gkn _ | exact Nat.lt_trans (gkn _) (by decide) | exact Nat.lt_trans (gnd _) (by decide) | exact Nat.lt_of_le_of_lt (pcN_le _) (by decide)) (by first | omega | assumption | exact gnd _ | exact gkn _ | exact Nat.lt_trans (gkn _) (by decide) | exact Nat.lt_trans (gnd _) (by decide) | exact Nat.lt_of_le_of_lt (pcN_le _) (by decide)) (by first | omega | assumption | exact gnd _ | exact gkn _ | exact Nat.lt_trans (gkn _) (by decide) | exact Nat.lt_trans (gnd _) (by decide) | exact Nat.lt_of_le_of_lt (pcN_le _) (by decide)) gnd gkn gK gF (by first | omega | assumption | exact gnd _ | exact gkn _ | exact Nat.lt_trans (gkn _) (by decide) | exact Nat.lt_trans (gnd _) (by decide) | exact Nat.lt_of_le_of_lt (pcN_le _) (by decide))) (cwV 1 hts gX12_may_X12_isDenier rfl rfl rfl (by decide +kernel) ⟨Nat.le_of_ble_eq_true rfl, Nat.le_of_ble_eq_true rfl⟩) (preV_R hCX (va_recv hK hP (ci := 12) (q0 := 0) rfl rfl) (hP)) rfl rfl hl.1 rfl (lv_room (Nat.le_of_ble_eq_true rfl)) dX12_may_2 ⟨Nat.le_of_ble_eq_true (by first | rfl | decide), Nat.le_of_ble_eq_true (by first | rfl | decide)⟩).run) (fun r_2 hr_2 => ?_)
  subst hr_2
  refine lv_if_ne (tgt := 10) hx hb dX12_may_5 (by decide) (fun _ => ?_) (fun z => absurd z (by decide +kernel))
  refine lv_iconst (v := nI 0) hx hb dX12_may_10 (by decide +kernel) ?_
  refine lv_istore_n (lv' := [(2, .int (nI 0)), (0, .ref y), (1, .int (nI j))]) hx hb dX12_may_11 rfl hl (by decide) rfl (fun ls hl => ?_)
  refine lv_iconst (v := nI 0) hx hb dX12_may_12 (by decide +kernel) ?_
  refine lv_istore_n (lv' := [(3, .int (nI 0)), (2, .int (nI 0)), (0, .ref y), (1, .int (nI j))]) hx hb dX12_may_13 rfl hl (by decide) rfl (fun ls hl => ?_)
  refine ho_lp (T := Nat) 4 (fun x9 => [(3, .int (nI x9)), (2, .int (nI (orF (fun s9 => mnB t al nd K F kn j s9) x9))), (0, .ref y), (1, .int (nI j))]) (fun x9 => []) (fun x9 => (x9 ≤ n)) (fun x9 => n - x9) 0 (by omega) (lv_sub hl [0, 1, 2, 3] rfl) ?_
  intro fu14 i ls hI hm14 hl ih
  have hin := hI
  have hl : lv_has ls 4 [(3, .int (nI i)), (2, .int (nI (orF (fun s9 => mnB t al nd K F kn j s9) i))), (0, .ref y), (1, .int (nI j))] := hl
  have hin : i ≤ n := hin
  have hm14 : n - i < fu14 + 1 := hm14
  refine W.eq (g2 := F0 m 14 ls []) rfl ?_
  have ih14 := ih
  refine lv_iload_n hx hb dX12_may_14 rfl (lv_at hl 0 rfl) ?_
  refine lv_aload_n hx hb dX12_may_15 rfl (lv_at hl 2 rfl) ?_
  refine va_get (D := (dC, dI)) (ci := 12) (v := .ref as) (C := RX12) (T := TX12) (N := 20) hx hb hts (fun _ h => List.mem_cons_of_mem _ (List.mem_append_right _ h)) hown hK hP 0 rfl rfl 0 (by decide) (hts (.fieldLink RX12 9 "HoldsOnceDeniedModel" "s" "[I") (by decide +kernel)) (fun _ h9 => h9) rfl dX12_may_16 ?_
  refine lv_iconst (v := nI 0) hx hb dX12_may_19 (by decide +kernel) ?_
  refine ho_iald (v := nI n) hx hb hK hP 1 0 rfl rfl (by omega) (by first | decide | omega) rfl dX12_may_20 ?_
  refine ho_icmp_ge (tgt := 49) hx hb dX12_may_21 (by decide) (by omega) (by omega) (fun c_21 => ?_) (fun c_21 => ?_)
  · refine lv_iload_n hx hb dX12_may_49 rfl (lv_at hl 1 rfl) ?_
    exact W.iret (v := nI (orF (fun s9 => mnB t al nd K F kn j s9) i)) hx hb hr (fun T9 hT9 hW9 => ⟨_, rfl, (congrArg nI (by rw [show i = n by omega])), hT9⟩) (fun q h => by cases h) dX12_may_50
  refine lv_iload_n hx hb dX12_may_24 rfl (lv_at hl 1 rfl) ?_
  refine lv_aload_n hx hb dX12_may_25 rfl (lv_at hl 2 rfl) ?_
  refine lv_iload_n hx hb dX12_may_26 rfl (lv_at hl 3 rfl) ?_
  refine lv_iload_n hx hb dX12_may_27 rfl (lv_at hl 0 rfl) ?_
  refine vp_callSi ((va_runV (As := [.int (nI j), .int (nI i)]) (rest := [.int (nI (orF (fun s9 => mnB t al nd K F kn j s9) i))]) ⟨hx, hb, hml, hown, hts⟩ (c_X12_mayNow l dC dI cI cD cR y as ai ar am ak ao az ae aq af hi th po ba en an aw ax ap se n d t day al nd bb oo K F kn j i (by first | omega | assumption | exact gnd _ | exact gkn _ | exact Nat.lt_trans (gkn _) (by decide) | exact Nat.lt_trans (gnd _) (by decide) | exact Nat.lt_of_le_of_lt (pcN_le _) (by decide)) (by first | omega | assumption | exact gnd _ | exact gkn _ | exact Nat.lt_trans (gkn _) (by decide) | exact Nat.lt_trans (gnd _) (by decide) | exact Nat.lt_of_le_of_lt (pcN_le _) (by decide)) (by first | omega | assumption | exact gnd _ | exact gkn _ | exact Nat.lt_trans (gkn _) (by decide) | exact Nat.lt_trans (gnd _) (by decide) | exact Nat.lt_of_le_of_lt (pcN_le _) (by decide)) (by first | omega | assumption | exact gnd _ | exact gkn _ | exact Nat.lt_trans (gkn _) (by decide) | exact Nat.lt_trans (gnd _) (by decide) | exact Nat.lt_of_le_of_lt (pcN_le _) (by decide)) (by first | omega | assumption | exact gnd _ | exact gkn _ | exact Nat.lt_trans (gkn _) (by decide) | exact Nat.lt_trans (gnd _) (by decide) | exact Nat.lt_of_le_of_lt (pcN_le _) (by decide)) gnd gkn gK gF (by first | omega | assumption | exact gnd _ | exact gkn _ | exact Nat.lt_trans (gkn _) (by decide) | exact Nat.lt_trans (gnd _) (by decide) | exact Nat.lt_of_le_of_lt (pcN_le _) (by decide)) (by first | omega | assumption | exact gnd _ | exact gkn _ | exact Nat.lt_trans (gkn _) (by decide) | exact Nat.lt_trans (gnd _) (by decide) | exact Nat.lt_of_le_of_lt (pcN_le _) (by decide))) (cwV 2 hts gX12_may_X12_mayNow rfl rfl rfl (by decide +kernel) ⟨Nat.le_of_ble_eq_true rfl, Nat.le_of_ble_eq_true rfl⟩) (preV_R hCX (va_recv hK hP (ci := 12) (q0 := 0) rfl rfl) (hP)) rfl rfl hl.1 rfl (lv_room (Nat.le_of_ble_eq_true rfl)) dX12_may_28 ⟨Nat.le_of_ble_eq_true (by first | rfl | decide), Nat.le_of_ble_eq_true (by first | rfl | decide)⟩).run) (fun r_28 hr_28 => ?_)
  subst hr_28
  refine ho_beq (tgt := 40) hx hb dX12_may_31 (by decide) (fun c_31 => ?_) (fun c_31 => ?_)
  · refine lv_iconst (v := nI 0) hx hb dX12_may_40 (by decide +kernel) ?_
    refine ho_ior hx hb dX12_may_41 ?_
    refine lv_istore_n (lv' := [(2, .int (nI ((orF (fun s9 => mnB t al nd K F kn j s9) i) ||| 0))), (3, .int (nI i)), (0, .ref y), (1, .int (nI j))]) hx hb dX12_may_42 rfl hl (by decide) rfl (fun ls hl => ?_)
    refine ho_iinc (lv' := [(3, .int (nI (i + 1))), (2, .int (nI ((orF (fun s9 => mnB t al nd K F kn j s9) i) ||| 0))), (0, .ref y), (1, .int (nI j))]) (a := i) (b := 1) hx hb dX12_may_43 hl (k := 1) rfl rfl (by decide) rfl (fun ls hl => ?_)
    refine lv_goto (tgt := 14) hx hb dX12_may_46 (by decide) ?_
    have e9_2 : (orF (fun s9 => mnB t al nd K F kn j s9) i) ||| 0 = orF (fun s9 => mnB t al nd K F kn j s9) (i + 1) := by first | (refine orF_t ?_; simp [c_31]; done) | (refine orF_u ?_; simp [c_31]; done)
    rw [e9_2] at hl
    exact ih14 (i + 1) _ (by omega) (show n - (i + 1) < fu14 from (by omega)) (lv_sub hl [0, 1, 2, 3] rfl)
  refine lv_iconst (v := nI 1) hx hb dX12_may_34 (by decide +kernel) ?_
  refine lv_iload_n hx hb dX12_may_35 rfl (lv_at hl 0 rfl) ?_
  refine ho_shl1 hx hb dX12_may_36 (by omega) ?_
  refine lv_goto (tgt := 41) hx hb dX12_may_37 (by decide) ?_
  refine ho_ior hx hb dX12_may_41 ?_
  refine lv_istore_n (lv' := [(2, .int (nI ((orF (fun s9 => mnB t al nd K F kn j s9) i) ||| (2 ^ i)))), (3, .int (nI i)), (0, .ref y), (1, .int (nI j))]) hx hb dX12_may_42 rfl hl (by decide) rfl (fun ls hl => ?_)
  refine ho_iinc (lv' := [(3, .int (nI (i + 1))), (2, .int (nI ((orF (fun s9 => mnB t al nd K F kn j s9) i) ||| (2 ^ i)))), (0, .ref y), (1, .int (nI j))]) (a := i) (b := 1) hx hb dX12_may_43 hl (k := 1) rfl rfl (by decide) rfl (fun ls hl => ?_)
  refine lv_goto (tgt := 14) hx hb dX12_may_46 (by decide) ?_
  have e9_2 : (orF (fun s9 => mnB t al nd K F kn j s9) i) ||| (2 ^ i) = orF (fun s9 => mnB t al nd K F kn j s9) (i + 1) := by first | (refine orF_t ?_; simp [c_31]; done) | (refine orF_u ?_; simp [c_31]; done)
  rw [e9_2] at hl
  exact ih14 (i + 1) _ (by omega) (show n - (i + 1) < fu14 from (by omega)) (lv_sub hl [0, 1, 2, 3] rfl)
set_option maxHeartbeats 4000000 in
set_option maxRecDepth 100000 in
theorem c_X12_silences (l : Launch) (dC : Nat → ClassId) (dI : Nat → Nat → Nat) (cI cD cR : ClassId) (y as ai ar am ak ao az ae aq af : Nat) (hi : Bool) (th : Int32) (po ba en an aw ax ap : Nat) (se : Int32) (n d t day al : Nat) (nd : Nat → Nat) (bb oo : Nat → Int32) (K F kn : Nat → Nat) (x : Int32) (hn : n ≤ 9) (hd : d ≤ 7) (ht : t < 512) (hal : al < 128) (hday : day < 2 ^ 30) (gnd : ∀ i, nd i < 512) (gkn : ∀ j, kn j < 512) (gK : ∀ j, K j < 8) (gF : ∀ j, F j < 10) : Met l yX12_silences wsX12_silences ({ frames := 5, cells := 0, slots := 0, locals := 115 }) (pcR dC dI cI cD cR [.ref y, .int x] (fun H => va_P (dC, dI) vwCl ([(y, .inr (12, [.ref as, .ref ai, .ref ar, .ref am, .ref ak, .ref ao, .ref az, .ref ae, .ref aq, .ref af, .int (bI hi), .int th, .int (nI po), .int (nI ba), .int (nI en), .ref an, .ref aw, .ref ax, .ref ap, .int se]))] ++ [(as, .inl (cI, 53, .inl (sF n d t day al nd bb oo K F kn)))]) H)) (vp_Si (fun r => r = (on1 (oN x d) (fun j => nI (smN n t al nd K F kn (day % 2 != 0) j)) (-1)))) 0 0 (fun _ => False) := by
  refine Met.ofW (cc := cX12_silences) (maxL := 2) (ret := (some .int)) (by decide) rfl ?_
  intro p e s m args below meth c s₁ B hml hv
  obtain ⟨rfl, hH0, hCX⟩ := hv
  have hx := B.exec
  have hb := B.bytes
  have hr := B.returns
  have hts := atoms_spec (ws := wsX12_silences) B.pre
  have hown : s.vm.findClass RX12 = some m.cls := findClass_of_methodNamed B.named
  have hlocks := B.notSynchronized
  have hK := hCX.1
  have hP := hH0
  have hl := lv_entry ([.ref y, .int x]) (n := 2) (Nat.le_of_ble_eq_true rfl)
  rw [lg_entry_eq]
  generalize (lg_sl ([.ref y, .int x]) ++ List.replicate (2 - (lg_sl ([.ref y, .int x])).length) Slot.unset).toArray = ls at hl ⊢
  have hl : lv_has ls 2 [(0, .ref y), (1, .int x)] := hl
  rcases okI_or x (n := d) (by omega) with hb_x | ⟨v, h_v, rfl⟩
  · refine lv_aload_n hx hb dX12_silences_0 rfl (lv_at hl 0 rfl) ?_
    refine lv_iload_n hx hb dX12_silences_1 rfl (lv_at hl 1 rfl) ?_
    refine vp_callSi ((va_runV (As := [.int x]) (rest := []) ⟨hx, hb, hml, hown, hts⟩ (c_X12_isDenier_f l dC dI cI cD cR y as ai ar am ak ao az ae aq af hi th po ba en an aw ax ap se n d t day al nd bb oo K F kn x (by first | omega | assumption | exact gnd _ | exact gkn _ | exact Nat.lt_trans (gkn _) (by decide) | exact Nat.lt_trans (gnd _) (by decide) | exact Nat.lt_of_le_of_lt (pcN_le _) (by decide)) (by first | omega | assumption | exact gnd _ | exact gkn _ | exact Nat.lt_trans (gkn _) (by decide) | exact Nat.lt_trans (gnd _) (by decide) | exact Nat.lt_of_le_of_lt (pcN_le _) (by decide)) (by first | omega | assumption | exact gnd _ | exact gkn _ | exact Nat.lt_trans (gkn _) (by decide) | exact Nat.lt_trans (gnd _) (by decide) | exact Nat.lt_of_le_of_lt (pcN_le _) (by decide)) (by first | omega | assumption | exact gnd _ | exact gkn _ | exact Nat.lt_trans (gkn _) (by decide) | exact Nat.lt_trans (gnd _) (by decide) | exact Nat.lt_of_le_of_lt (pcN_le _) (by decide)) (by first | omega | assumption | exact gnd _ | exact gkn _ | exact Nat.lt_trans (gkn _) (by decide) | exact Nat.lt_trans (gnd _) (by decide) | exact Nat.lt_of_le_of_lt (pcN_le _) (by decide)) gnd gkn gK gF (by first | omega | assumption | exact gnd _ | exact gkn _ | exact Nat.lt_trans (gkn _) (by decide) | exact Nat.lt_trans (gnd _) (by decide) | exact Nat.lt_of_le_of_lt (pcN_le _) (by decide))) (cwV 1 hts gX12_silences_X12_isDenier rfl rfl rfl (by decide +kernel) ⟨Nat.le_of_ble_eq_true rfl, Nat.le_of_ble_eq_true rfl⟩) (preV_R hCX (va_recv hK hP (ci := 12) (q0 := 0) rfl rfl) (hP)) rfl rfl hl.1 rfl (lv_room (Nat.le_of_ble_eq_true rfl)) dX12_silences_2 ⟨Nat.le_of_ble_eq_true (by first | rfl | decide), Nat.le_of_ble_eq_true (by first | rfl | decide)⟩).run) (fun r_2 hr_2 => ?_)
    subst hr_2
    refine lv_if_eq (tgt := 22) hx hb dX12_silences_5 (by decide) (fun _ => ?_) (fun z => absurd z (by decide +kernel))
    refine lv_iconst (v := (-1)) hx hb dX12_silences_22 (by decide +kernel) ?_
    exact W.iret (v := (-1)) hx hb hr (fun T9 hT9 hW9 => ⟨_, rfl, (by (simp [on1, oN_f hb_x]) <;> first | rfl | omega), hT9⟩) (fun q h => by cases h) dX12_silences_23
  refine lv_aload_n hx hb dX12_silences_0 rfl (lv_at hl 0 rfl) ?_
  refine lv_iload_n hx hb dX12_silences_1 rfl (lv_at hl 1 rfl) ?_
  refine vp_callSi ((va_runV (As := [.int (nI v)]) (rest := []) ⟨hx, hb, hml, hown, hts⟩ (c_X12_isDenier_t l dC dI cI cD cR y as ai ar am ak ao az ae aq af hi th po ba en an aw ax ap se n d t day al nd bb oo K F kn v (by first | omega | assumption | exact gnd _ | exact gkn _ | exact Nat.lt_trans (gkn _) (by decide) | exact Nat.lt_trans (gnd _) (by decide) | exact Nat.lt_of_le_of_lt (pcN_le _) (by decide)) (by first | omega | assumption | exact gnd _ | exact gkn _ | exact Nat.lt_trans (gkn _) (by decide) | exact Nat.lt_trans (gnd _) (by decide) | exact Nat.lt_of_le_of_lt (pcN_le _) (by decide)) (by first | omega | assumption | exact gnd _ | exact gkn _ | exact Nat.lt_trans (gkn _) (by decide) | exact Nat.lt_trans (gnd _) (by decide) | exact Nat.lt_of_le_of_lt (pcN_le _) (by decide)) (by first | omega | assumption | exact gnd _ | exact gkn _ | exact Nat.lt_trans (gkn _) (by decide) | exact Nat.lt_trans (gnd _) (by decide) | exact Nat.lt_of_le_of_lt (pcN_le _) (by decide)) (by first | omega | assumption | exact gnd _ | exact gkn _ | exact Nat.lt_trans (gkn _) (by decide) | exact Nat.lt_trans (gnd _) (by decide) | exact Nat.lt_of_le_of_lt (pcN_le _) (by decide)) gnd gkn gK gF (by first | omega | assumption | exact gnd _ | exact gkn _ | exact Nat.lt_trans (gkn _) (by decide) | exact Nat.lt_trans (gnd _) (by decide) | exact Nat.lt_of_le_of_lt (pcN_le _) (by decide))) (cwV 1 hts gX12_silences_X12_isDenier rfl rfl rfl (by decide +kernel) ⟨Nat.le_of_ble_eq_true rfl, Nat.le_of_ble_eq_true rfl⟩) (preV_R hCX (va_recv hK hP (ci := 12) (q0 := 0) rfl rfl) (hP)) rfl rfl hl.1 rfl (lv_room (Nat.le_of_ble_eq_true rfl)) dX12_silences_2 ⟨Nat.le_of_ble_eq_true (by first | rfl | decide), Nat.le_of_ble_eq_true (by first | rfl | decide)⟩).run) (fun r_2 hr_2 => ?_)
  subst hr_2
  refine lv_if_eq (tgt := 22) hx hb dX12_silences_5 (by decide) (fun z => absurd z (by decide +kernel)) (fun _ => ?_)
  refine lv_aload_n hx hb dX12_silences_8 rfl (lv_at hl 0 rfl) ?_
  refine lv_iload_n hx hb dX12_silences_9 rfl (lv_at hl 1 rfl) ?_
  refine lv_aload_n hx hb dX12_silences_10 rfl (lv_at hl 0 rfl) ?_
  refine va_get (D := (dC, dI)) (ci := 12) (v := .ref as) (C := RX12) (T := TX12) (N := 20) hx hb hts (fun _ h => List.mem_cons_of_mem _ (List.mem_append_right _ h)) hown hK hP 0 rfl rfl 0 (by decide) (hts (.fieldLink RX12 9 "HoldsOnceDeniedModel" "s" "[I") (by decide +kernel)) (fun _ h9 => h9) rfl dX12_silences_11 ?_
  refine lv_iconst (v := nI 3) hx hb dX12_silences_14 (by decide +kernel) ?_
  refine ho_iald (v := nI day) hx hb hK hP 1 0 rfl rfl (by omega) (by first | decide | omega) rfl dX12_silences_15 ?_
  refine vp_callSi ((va_runV (As := [.int (nI v), .int (nI day)]) (rest := []) ⟨hx, hb, hml, hown, hts⟩ (c_X12_silencesOf l dC dI cI cD cR y as ai ar am ak ao az ae aq af hi th po ba en an aw ax ap se n d t day al nd bb oo K F kn v day (by first | omega | assumption | exact gnd _ | exact gkn _ | exact Nat.lt_trans (gkn _) (by decide) | exact Nat.lt_trans (gnd _) (by decide) | exact Nat.lt_of_le_of_lt (pcN_le _) (by decide)) (by first | omega | assumption | exact gnd _ | exact gkn _ | exact Nat.lt_trans (gkn _) (by decide) | exact Nat.lt_trans (gnd _) (by decide) | exact Nat.lt_of_le_of_lt (pcN_le _) (by decide)) (by first | omega | assumption | exact gnd _ | exact gkn _ | exact Nat.lt_trans (gkn _) (by decide) | exact Nat.lt_trans (gnd _) (by decide) | exact Nat.lt_of_le_of_lt (pcN_le _) (by decide)) (by first | omega | assumption | exact gnd _ | exact gkn _ | exact Nat.lt_trans (gkn _) (by decide) | exact Nat.lt_trans (gnd _) (by decide) | exact Nat.lt_of_le_of_lt (pcN_le _) (by decide)) (by first | omega | assumption | exact gnd _ | exact gkn _ | exact Nat.lt_trans (gkn _) (by decide) | exact Nat.lt_trans (gnd _) (by decide) | exact Nat.lt_of_le_of_lt (pcN_le _) (by decide)) gnd gkn gK gF (by first | omega | assumption | exact gnd _ | exact gkn _ | exact Nat.lt_trans (gkn _) (by decide) | exact Nat.lt_trans (gnd _) (by decide) | exact Nat.lt_of_le_of_lt (pcN_le _) (by decide)) (by first | omega | assumption | exact gnd _ | exact gkn _ | exact Nat.lt_trans (gkn _) (by decide) | exact Nat.lt_trans (gnd _) (by decide) | exact Nat.lt_of_le_of_lt (pcN_le _) (by decide))) (cwV 2 hts gX12_silences_X12_silencesOf rfl rfl rfl (by decide +kernel) ⟨Nat.le_of_ble_eq_true rfl, Nat.le_of_ble_eq_true rfl⟩) (preV_R hCX (va_recv hK hP (ci := 12) (q0 := 0) rfl rfl) (hP)) rfl rfl hl.1 rfl (lv_room (Nat.le_of_ble_eq_true rfl)) dX12_silences_16 ⟨Nat.le_of_ble_eq_true (by first | rfl | decide), Nat.le_of_ble_eq_true (by first | rfl | decide)⟩).run) (fun r_16 hr_16 => ?_)
  subst hr_16
  refine lv_goto (tgt := 23) hx hb dX12_silences_19 (by decide) ?_
  exact W.iret (v := nI (smN n t al nd K F kn (day % 2 != 0) v)) hx hb hr (fun T9 hT9 hW9 => ⟨_, rfl, (by (simp [on1, oN_t h_v]) <;> first | rfl | omega), hT9⟩) (fun q h => by cases h) dX12_silences_23
set_option maxHeartbeats 4000000 in
set_option maxRecDepth 100000 in
theorem c_X12_steps (l : Launch) (dC : Nat → ClassId) (dI : Nat → Nat → Nat) (cI cD cR : ClassId) (y as ai ar am ak ao az ae aq af : Nat) (hi : Bool) (th : Int32) (po ba en an aw ax ap : Nat) (se : Int32) (n d t day al : Nat) (nd : Nat → Nat) (bb oo : Nat → Int32) (K F kn : Nat → Nat) (x z : Int32) (hn : n ≤ 9) (hd : d ≤ 7) (ht : t < 512) (hal : al < 128) (hday : day < 2 ^ 30) (gnd : ∀ i, nd i < 512) (gkn : ∀ j, kn j < 512) (gK : ∀ j, K j < 8) (gF : ∀ j, F j < 10) : Met l yX12_steps wsX12_steps ({ frames := 2, cells := 0, slots := 0, locals := 46 }) (pcR dC dI cI cD cR [.ref y, .int x, .int z] (fun H => va_P (dC, dI) vwCl ([(y, .inr (12, [.ref as, .ref ai, .ref ar, .ref am, .ref ak, .ref ao, .ref az, .ref ae, .ref aq, .ref af, .int (bI hi), .int th, .int (nI po), .int (nI ba), .int (nI en), .ref an, .ref aw, .ref ax, .ref ap, .int se]))] ++ [(as, .inl (cI, 53, .inl (sF n d t day al nd bb oo K F kn)))]) H)) (vp_Si (fun r => r = (on2 (oN x d) (oN z n) (fun j i => nI (efN (K j) (F j) (pcN (nd i)))) (-1)))) 0 0 (fun _ => False) := by
  refine Met.ofW (cc := cX12_steps) (maxL := 3) (ret := (some .int)) (by decide) rfl ?_
  intro p e s m args below meth c s₁ B hml hv
  obtain ⟨rfl, hH0, hCX⟩ := hv
  have hx := B.exec
  have hb := B.bytes
  have hr := B.returns
  have hts := atoms_spec (ws := wsX12_steps) B.pre
  have hown : s.vm.findClass RX12 = some m.cls := findClass_of_methodNamed B.named
  have hlocks := B.notSynchronized
  have hK := hCX.1
  have hP := hH0
  have hl := lv_entry ([.ref y, .int x, .int z]) (n := 3) (Nat.le_of_ble_eq_true rfl)
  rw [lg_entry_eq]
  generalize (lg_sl ([.ref y, .int x, .int z]) ++ List.replicate (3 - (lg_sl ([.ref y, .int x, .int z])).length) Slot.unset).toArray = ls at hl ⊢
  have hl : lv_has ls 3 [(0, .ref y), (1, .int x), (2, .int z)] := hl
  rcases okI_or x (n := d) (by omega) with hb_x | ⟨j, h_j, rfl⟩
  · refine lv_aload_n hx hb dX12_steps_0 rfl (lv_at hl 0 rfl) ?_
    refine lv_iload_n hx hb dX12_steps_1 rfl (lv_at hl 1 rfl) ?_
    refine vp_callSi ((va_runV (As := [.int x]) (rest := []) ⟨hx, hb, hml, hown, hts⟩ (c_X12_isDenier_f l dC dI cI cD cR y as ai ar am ak ao az ae aq af hi th po ba en an aw ax ap se n d t day al nd bb oo K F kn x (by first | omega | assumption | exact gnd _ | exact gkn _ | exact Nat.lt_trans (gkn _) (by decide) | exact Nat.lt_trans (gnd _) (by decide) | exact Nat.lt_of_le_of_lt (pcN_le _) (by decide)) (by first | omega | assumption | exact gnd _ | exact gkn _ | exact Nat.lt_trans (gkn _) (by decide) | exact Nat.lt_trans (gnd _) (by decide) | exact Nat.lt_of_le_of_lt (pcN_le _) (by decide)) (by first | omega | assumption | exact gnd _ | exact gkn _ | exact Nat.lt_trans (gkn _) (by decide) | exact Nat.lt_trans (gnd _) (by decide) | exact Nat.lt_of_le_of_lt (pcN_le _) (by decide)) (by first | omega | assumption | exact gnd _ | exact gkn _ | exact Nat.lt_trans (gkn _) (by decide) | exact Nat.lt_trans (gnd _) (by decide) | exact Nat.lt_of_le_of_lt (pcN_le _) (by decide)) (by first | omega | assumption | exact gnd _ | exact gkn _ | exact Nat.lt_trans (gkn _) (by decide) | exact Nat.lt_trans (gnd _) (by decide) | exact Nat.lt_of_le_of_lt (pcN_le _) (by decide)) gnd gkn gK gF (by first | omega | assumption | exact gnd _ | exact gkn _ | exact Nat.lt_trans (gkn _) (by decide) | exact Nat.lt_trans (gnd _) (by decide) | exact Nat.lt_of_le_of_lt (pcN_le _) (by decide))) (cwV 1 hts gX12_steps_X12_isDenier rfl rfl rfl (by decide +kernel) ⟨Nat.le_of_ble_eq_true rfl, Nat.le_of_ble_eq_true rfl⟩) (preV_R hCX (va_recv hK hP (ci := 12) (q0 := 0) rfl rfl) (hP)) rfl rfl hl.1 rfl (lv_room (Nat.le_of_ble_eq_true rfl)) dX12_steps_2 ⟨Nat.le_of_ble_eq_true (by first | rfl | decide), Nat.le_of_ble_eq_true (by first | rfl | decide)⟩).run) (fun r_2 hr_2 => ?_)
    subst hr_2
    refine lv_if_eq (tgt := 25) hx hb dX12_steps_5 (by decide) (fun _ => ?_) (fun z => absurd z (by decide +kernel))
    refine lv_iconst (v := (-1)) hx hb dX12_steps_25 (by decide +kernel) ?_
    exact W.iret (v := (-1)) hx hb hr (fun T9 hT9 hW9 => ⟨_, rfl, (by (simp [on2, on1, oN_f hb_x]) <;> first | rfl | omega), hT9⟩) (fun q h => by cases h) dX12_steps_26
  rcases okI_or z (n := n) (by omega) with hb_z | ⟨i, h_i, rfl⟩
  · refine lv_aload_n hx hb dX12_steps_0 rfl (lv_at hl 0 rfl) ?_
    refine lv_iload_n hx hb dX12_steps_1 rfl (lv_at hl 1 rfl) ?_
    refine vp_callSi ((va_runV (As := [.int (nI j)]) (rest := []) ⟨hx, hb, hml, hown, hts⟩ (c_X12_isDenier_t l dC dI cI cD cR y as ai ar am ak ao az ae aq af hi th po ba en an aw ax ap se n d t day al nd bb oo K F kn j (by first | omega | assumption | exact gnd _ | exact gkn _ | exact Nat.lt_trans (gkn _) (by decide) | exact Nat.lt_trans (gnd _) (by decide) | exact Nat.lt_of_le_of_lt (pcN_le _) (by decide)) (by first | omega | assumption | exact gnd _ | exact gkn _ | exact Nat.lt_trans (gkn _) (by decide) | exact Nat.lt_trans (gnd _) (by decide) | exact Nat.lt_of_le_of_lt (pcN_le _) (by decide)) (by first | omega | assumption | exact gnd _ | exact gkn _ | exact Nat.lt_trans (gkn _) (by decide) | exact Nat.lt_trans (gnd _) (by decide) | exact Nat.lt_of_le_of_lt (pcN_le _) (by decide)) (by first | omega | assumption | exact gnd _ | exact gkn _ | exact Nat.lt_trans (gkn _) (by decide) | exact Nat.lt_trans (gnd _) (by decide) | exact Nat.lt_of_le_of_lt (pcN_le _) (by decide)) (by first | omega | assumption | exact gnd _ | exact gkn _ | exact Nat.lt_trans (gkn _) (by decide) | exact Nat.lt_trans (gnd _) (by decide) | exact Nat.lt_of_le_of_lt (pcN_le _) (by decide)) gnd gkn gK gF (by first | omega | assumption | exact gnd _ | exact gkn _ | exact Nat.lt_trans (gkn _) (by decide) | exact Nat.lt_trans (gnd _) (by decide) | exact Nat.lt_of_le_of_lt (pcN_le _) (by decide))) (cwV 1 hts gX12_steps_X12_isDenier rfl rfl rfl (by decide +kernel) ⟨Nat.le_of_ble_eq_true rfl, Nat.le_of_ble_eq_true rfl⟩) (preV_R hCX (va_recv hK hP (ci := 12) (q0 := 0) rfl rfl) (hP)) rfl rfl hl.1 rfl (lv_room (Nat.le_of_ble_eq_true rfl)) dX12_steps_2 ⟨Nat.le_of_ble_eq_true (by first | rfl | decide), Nat.le_of_ble_eq_true (by first | rfl | decide)⟩).run) (fun r_2 hr_2 => ?_)
    subst hr_2
    refine lv_if_eq (tgt := 25) hx hb dX12_steps_5 (by decide) (fun z => absurd z (by decide +kernel)) (fun _ => ?_)
    refine lv_aload_n hx hb dX12_steps_8 rfl (lv_at hl 0 rfl) ?_
    refine lv_iload_n hx hb dX12_steps_9 rfl (lv_at hl 2 rfl) ?_
    refine vp_callSi ((va_runV (As := [.int z]) (rest := []) ⟨hx, hb, hml, hown, hts⟩ (c_X12_isSentence_f l dC dI cI cD cR y as ai ar am ak ao az ae aq af hi th po ba en an aw ax ap se n d t day al nd bb oo K F kn z (by first | omega | assumption | exact gnd _ | exact gkn _ | exact Nat.lt_trans (gkn _) (by decide) | exact Nat.lt_trans (gnd _) (by decide) | exact Nat.lt_of_le_of_lt (pcN_le _) (by decide)) (by first | omega | assumption | exact gnd _ | exact gkn _ | exact Nat.lt_trans (gkn _) (by decide) | exact Nat.lt_trans (gnd _) (by decide) | exact Nat.lt_of_le_of_lt (pcN_le _) (by decide)) (by first | omega | assumption | exact gnd _ | exact gkn _ | exact Nat.lt_trans (gkn _) (by decide) | exact Nat.lt_trans (gnd _) (by decide) | exact Nat.lt_of_le_of_lt (pcN_le _) (by decide)) (by first | omega | assumption | exact gnd _ | exact gkn _ | exact Nat.lt_trans (gkn _) (by decide) | exact Nat.lt_trans (gnd _) (by decide) | exact Nat.lt_of_le_of_lt (pcN_le _) (by decide)) (by first | omega | assumption | exact gnd _ | exact gkn _ | exact Nat.lt_trans (gkn _) (by decide) | exact Nat.lt_trans (gnd _) (by decide) | exact Nat.lt_of_le_of_lt (pcN_le _) (by decide)) gnd gkn gK gF (by first | omega | assumption | exact gnd _ | exact gkn _ | exact Nat.lt_trans (gkn _) (by decide) | exact Nat.lt_trans (gnd _) (by decide) | exact Nat.lt_of_le_of_lt (pcN_le _) (by decide))) (cwV 1 hts gX12_steps_X12_isSentence rfl rfl rfl (by decide +kernel) ⟨Nat.le_of_ble_eq_true rfl, Nat.le_of_ble_eq_true rfl⟩) (preV_R hCX (va_recv hK hP (ci := 12) (q0 := 0) rfl rfl) (hP)) rfl rfl hl.1 rfl (lv_room (Nat.le_of_ble_eq_true rfl)) dX12_steps_10 ⟨Nat.le_of_ble_eq_true (by first | rfl | decide), Nat.le_of_ble_eq_true (by first | rfl | decide)⟩).run) (fun r_10 hr_10 => ?_)
    subst hr_10
    refine lv_if_eq (tgt := 25) hx hb dX12_steps_13 (by decide) (fun _ => ?_) (fun z => absurd z (by decide +kernel))
    refine lv_iconst (v := (-1)) hx hb dX12_steps_25 (by decide +kernel) ?_
    exact W.iret (v := (-1)) hx hb hr (fun T9 hT9 hW9 => ⟨_, rfl, (by (simp [on2, on1, oN_t h_j, oN_f hb_z]) <;> first | rfl | omega), hT9⟩) (fun q h => by cases h) dX12_steps_26
  refine lv_aload_n hx hb dX12_steps_0 rfl (lv_at hl 0 rfl) ?_
  refine lv_iload_n hx hb dX12_steps_1 rfl (lv_at hl 1 rfl) ?_
  refine vp_callSi ((va_runV (As := [.int (nI j)]) (rest := []) ⟨hx, hb, hml, hown, hts⟩ (c_X12_isDenier_t l dC dI cI cD cR y as ai ar am ak ao az ae aq af hi th po ba en an aw ax ap se n d t day al nd bb oo K F kn j (by first | omega | assumption | exact gnd _ | exact gkn _ | exact Nat.lt_trans (gkn _) (by decide) | exact Nat.lt_trans (gnd _) (by decide) | exact Nat.lt_of_le_of_lt (pcN_le _) (by decide)) (by first | omega | assumption | exact gnd _ | exact gkn _ | exact Nat.lt_trans (gkn _) (by decide) | exact Nat.lt_trans (gnd _) (by decide) | exact Nat.lt_of_le_of_lt (pcN_le _) (by decide)) (by first | omega | assumption | exact gnd _ | exact gkn _ | exact Nat.lt_trans (gkn _) (by decide) | exact Nat.lt_trans (gnd _) (by decide) | exact Nat.lt_of_le_of_lt (pcN_le _) (by decide)) (by first | omega | assumption | exact gnd _ | exact gkn _ | exact Nat.lt_trans (gkn _) (by decide) | exact Nat.lt_trans (gnd _) (by decide) | exact Nat.lt_of_le_of_lt (pcN_le _) (by decide)) (by first | omega | assumption | exact gnd _ | exact gkn _ | exact Nat.lt_trans (gkn _) (by decide) | exact Nat.lt_trans (gnd _) (by decide) | exact Nat.lt_of_le_of_lt (pcN_le _) (by decide)) gnd gkn gK gF (by first | omega | assumption | exact gnd _ | exact gkn _ | exact Nat.lt_trans (gkn _) (by decide) | exact Nat.lt_trans (gnd _) (by decide) | exact Nat.lt_of_le_of_lt (pcN_le _) (by decide))) (cwV 1 hts gX12_steps_X12_isDenier rfl rfl rfl (by decide +kernel) ⟨Nat.le_of_ble_eq_true rfl, Nat.le_of_ble_eq_true rfl⟩) (preV_R hCX (va_recv hK hP (ci := 12) (q0 := 0) rfl rfl) (hP)) rfl rfl hl.1 rfl (lv_room (Nat.le_of_ble_eq_true rfl)) dX12_steps_2 ⟨Nat.le_of_ble_eq_true (by first | rfl | decide), Nat.le_of_ble_eq_true (by first | rfl | decide)⟩).run) (fun r_2 hr_2 => ?_)
  subst hr_2
  refine lv_if_eq (tgt := 25) hx hb dX12_steps_5 (by decide) (fun z => absurd z (by decide +kernel)) (fun _ => ?_)
  refine lv_aload_n hx hb dX12_steps_8 rfl (lv_at hl 0 rfl) ?_
  refine lv_iload_n hx hb dX12_steps_9 rfl (lv_at hl 2 rfl) ?_
  refine vp_callSi ((va_runV (As := [.int (nI i)]) (rest := []) ⟨hx, hb, hml, hown, hts⟩ (c_X12_isSentence_t l dC dI cI cD cR y as ai ar am ak ao az ae aq af hi th po ba en an aw ax ap se n d t day al nd bb oo K F kn i (by first | omega | assumption | exact gnd _ | exact gkn _ | exact Nat.lt_trans (gkn _) (by decide) | exact Nat.lt_trans (gnd _) (by decide) | exact Nat.lt_of_le_of_lt (pcN_le _) (by decide)) (by first | omega | assumption | exact gnd _ | exact gkn _ | exact Nat.lt_trans (gkn _) (by decide) | exact Nat.lt_trans (gnd _) (by decide) | exact Nat.lt_of_le_of_lt (pcN_le _) (by decide)) (by first | omega | assumption | exact gnd _ | exact gkn _ | exact Nat.lt_trans (gkn _) (by decide) | exact Nat.lt_trans (gnd _) (by decide) | exact Nat.lt_of_le_of_lt (pcN_le _) (by decide)) (by first | omega | assumption | exact gnd _ | exact gkn _ | exact Nat.lt_trans (gkn _) (by decide) | exact Nat.lt_trans (gnd _) (by decide) | exact Nat.lt_of_le_of_lt (pcN_le _) (by decide)) (by first | omega | assumption | exact gnd _ | exact gkn _ | exact Nat.lt_trans (gkn _) (by decide) | exact Nat.lt_trans (gnd _) (by decide) | exact Nat.lt_of_le_of_lt (pcN_le _) (by decide)) gnd gkn gK gF (by first | omega | assumption | exact gnd _ | exact gkn _ | exact Nat.lt_trans (gkn _) (by decide) | exact Nat.lt_trans (gnd _) (by decide) | exact Nat.lt_of_le_of_lt (pcN_le _) (by decide))) (cwV 1 hts gX12_steps_X12_isSentence rfl rfl rfl (by decide +kernel) ⟨Nat.le_of_ble_eq_true rfl, Nat.le_of_ble_eq_true rfl⟩) (preV_R hCX (va_recv hK hP (ci := 12) (q0 := 0) rfl rfl) (hP)) rfl rfl hl.1 rfl (lv_room (Nat.le_of_ble_eq_true rfl)) dX12_steps_10 ⟨Nat.le_of_ble_eq_true (by first | rfl | decide), Nat.le_of_ble_eq_true (by first | rfl | decide)⟩).run) (fun r_10 hr_10 => ?_)
  subst hr_10
  refine lv_if_eq (tgt := 25) hx hb dX12_steps_13 (by decide) (fun z => absurd z (by decide +kernel)) (fun _ => ?_)
  refine lv_aload_n hx hb dX12_steps_16 rfl (lv_at hl 0 rfl) ?_
  refine lv_iload_n hx hb dX12_steps_17 rfl (lv_at hl 1 rfl) ?_
  refine lv_iload_n hx hb dX12_steps_18 rfl (lv_at hl 2 rfl) ?_
  refine vp_callSi ((va_runV (As := [.int (nI j), .int (nI i)]) (rest := []) ⟨hx, hb, hml, hown, hts⟩ (c_X12_stepsOf l dC dI cI cD cR y as ai ar am ak ao az ae aq af hi th po ba en an aw ax ap se n d t day al nd bb oo K F kn j i (by first | omega | assumption | exact gnd _ | exact gkn _ | exact Nat.lt_trans (gkn _) (by decide) | exact Nat.lt_trans (gnd _) (by decide) | exact Nat.lt_of_le_of_lt (pcN_le _) (by decide)) (by first | omega | assumption | exact gnd _ | exact gkn _ | exact Nat.lt_trans (gkn _) (by decide) | exact Nat.lt_trans (gnd _) (by decide) | exact Nat.lt_of_le_of_lt (pcN_le _) (by decide)) (by first | omega | assumption | exact gnd _ | exact gkn _ | exact Nat.lt_trans (gkn _) (by decide) | exact Nat.lt_trans (gnd _) (by decide) | exact Nat.lt_of_le_of_lt (pcN_le _) (by decide)) (by first | omega | assumption | exact gnd _ | exact gkn _ | exact Nat.lt_trans (gkn _) (by decide) | exact Nat.lt_trans (gnd _) (by decide) | exact Nat.lt_of_le_of_lt (pcN_le _) (by decide)) (by first | omega | assumption | exact gnd _ | exact gkn _ | exact Nat.lt_trans (gkn _) (by decide) | exact Nat.lt_trans (gnd _) (by decide) | exact Nat.lt_of_le_of_lt (pcN_le _) (by decide)) gnd gkn gK gF (by first | omega | assumption | exact gnd _ | exact gkn _ | exact Nat.lt_trans (gkn _) (by decide) | exact Nat.lt_trans (gnd _) (by decide) | exact Nat.lt_of_le_of_lt (pcN_le _) (by decide)) (by first | omega | assumption | exact gnd _ | exact gkn _ | exact Nat.lt_trans (gkn _) (by decide) | exact Nat.lt_trans (gnd _) (by decide) | exact Nat.lt_of_le_of_lt (pcN_le _) (by decide))) (cwV 2 hts gX12_steps_X12_stepsOf rfl rfl rfl (by decide +kernel) ⟨Nat.le_of_ble_eq_true rfl, Nat.le_of_ble_eq_true rfl⟩) (preV_R hCX (va_recv hK hP (ci := 12) (q0 := 0) rfl rfl) (hP)) rfl rfl hl.1 rfl (lv_room (Nat.le_of_ble_eq_true rfl)) dX12_steps_19 ⟨Nat.le_of_ble_eq_true (by first | rfl | decide), Nat.le_of_ble_eq_true (by first | rfl | decide)⟩).run) (fun r_19 hr_19 => ?_)
  subst hr_19
  refine lv_goto (tgt := 26) hx hb dX12_steps_22 (by decide) ?_
  exact W.iret (v := nI (efN (K j) (F j) (pcN (nd i)))) hx hb hr (fun T9 hT9 hW9 => ⟨_, rfl, (by (simp [on2, on1, oN_t h_j, oN_t h_i]) <;> first | rfl | omega), hT9⟩) (fun q h => by cases h) dX12_steps_26
set_option maxHeartbeats 4000000 in
set_option maxRecDepth 100000 in
theorem c_X12_falls (l : Launch) (dC : Nat → ClassId) (dI : Nat → Nat → Nat) (cI cD cR : ClassId) (y as ai ar am ak ao az ae aq af : Nat) (hi : Bool) (th : Int32) (po ba en an aw ax ap : Nat) (se : Int32) (n d t day al : Nat) (nd : Nat → Nat) (bb oo : Nat → Int32) (K F kn : Nat → Nat) (x : Int32) (hn : n ≤ 9) (hd : d ≤ 7) (ht : t < 512) (hal : al < 128) (hday : day < 2 ^ 30) (gnd : ∀ i, nd i < 512) (gkn : ∀ j, kn j < 512) (gK : ∀ j, K j < 8) (gF : ∀ j, F j < 10) : Met l yX12_falls wsX12_falls ({ frames := 3, cells := 0, slots := 0, locals := 66 }) (pcR dC dI cI cD cR [.ref y, .int x] (fun H => va_P (dC, dI) vwCl ([(y, .inr (12, [.ref as, .ref ai, .ref ar, .ref am, .ref ak, .ref ao, .ref az, .ref ae, .ref aq, .ref af, .int (bI hi), .int th, .int (nI po), .int (nI ba), .int (nI en), .ref an, .ref aw, .ref ax, .ref ap, .int se]))] ++ [(as, .inl (cI, 53, .inl (sF n d t day al nd bb oo K F kn)))]) H)) (vp_Si (fun r => r = (on1 (oN x d) (fun j => nI (bif al.testBit j then ruR t nd n 9 (orF (fun s9 => t.testBit s9 && decide (bb s9 = nI j)) n) else 0)) (-1)))) 0 0 (fun _ => False) := by
  refine Met.ofW (cc := cX12_falls) (maxL := 2) (ret := (some .int)) (by decide) rfl ?_
  intro p e s m args below meth c s₁ B hml hv
  obtain ⟨rfl, hH0, hCX⟩ := hv
  have hx := B.exec
  have hb := B.bytes
  have hr := B.returns
  have hts := atoms_spec (ws := wsX12_falls) B.pre
  have hown : s.vm.findClass RX12 = some m.cls := findClass_of_methodNamed B.named
  have hlocks := B.notSynchronized
  have hK := hCX.1
  have hP := hH0
  have hl := lv_entry ([.ref y, .int x]) (n := 2) (Nat.le_of_ble_eq_true rfl)
  rw [lg_entry_eq]
  generalize (lg_sl ([.ref y, .int x]) ++ List.replicate (2 - (lg_sl ([.ref y, .int x])).length) Slot.unset).toArray = ls at hl ⊢
  have hl : lv_has ls 2 [(0, .ref y), (1, .int x)] := hl
  rcases okI_or x (n := d) (by omega) with hb_x | ⟨v, h_v, rfl⟩
  · refine lv_aload_n hx hb dX12_falls_0 rfl (lv_at hl 0 rfl) ?_
    refine lv_iload_n hx hb dX12_falls_1 rfl (lv_at hl 1 rfl) ?_
    refine vp_callSi ((va_runV (As := [.int x]) (rest := []) ⟨hx, hb, hml, hown, hts⟩ (c_X12_isDenier_f l dC dI cI cD cR y as ai ar am ak ao az ae aq af hi th po ba en an aw ax ap se n d t day al nd bb oo K F kn x (by first | omega | assumption | exact gnd _ | exact gkn _ | exact Nat.lt_trans (gkn _) (by decide) | exact Nat.lt_trans (gnd _) (by decide) | exact Nat.lt_of_le_of_lt (pcN_le _) (by decide)) (by first | omega | assumption | exact gnd _ | exact gkn _ | exact Nat.lt_trans (gkn _) (by decide) | exact Nat.lt_trans (gnd _) (by decide) | exact Nat.lt_of_le_of_lt (pcN_le _) (by decide)) (by first | omega | assumption | exact gnd _ | exact gkn _ | exact Nat.lt_trans (gkn _) (by decide) | exact Nat.lt_trans (gnd _) (by decide) | exact Nat.lt_of_le_of_lt (pcN_le _) (by decide)) (by first | omega | assumption | exact gnd _ | exact gkn _ | exact Nat.lt_trans (gkn _) (by decide) | exact Nat.lt_trans (gnd _) (by decide) | exact Nat.lt_of_le_of_lt (pcN_le _) (by decide)) (by first | omega | assumption | exact gnd _ | exact gkn _ | exact Nat.lt_trans (gkn _) (by decide) | exact Nat.lt_trans (gnd _) (by decide) | exact Nat.lt_of_le_of_lt (pcN_le _) (by decide)) gnd gkn gK gF (by first | omega | assumption | exact gnd _ | exact gkn _ | exact Nat.lt_trans (gkn _) (by decide) | exact Nat.lt_trans (gnd _) (by decide) | exact Nat.lt_of_le_of_lt (pcN_le _) (by decide))) (cwV 1 hts gX12_falls_X12_isDenier rfl rfl rfl (by decide +kernel) ⟨Nat.le_of_ble_eq_true rfl, Nat.le_of_ble_eq_true rfl⟩) (preV_R hCX (va_recv hK hP (ci := 12) (q0 := 0) rfl rfl) (hP)) rfl rfl hl.1 rfl (lv_room (Nat.le_of_ble_eq_true rfl)) dX12_falls_2 ⟨Nat.le_of_ble_eq_true (by first | rfl | decide), Nat.le_of_ble_eq_true (by first | rfl | decide)⟩).run) (fun r_2 hr_2 => ?_)
    subst hr_2
    refine lv_if_eq (tgt := 16) hx hb dX12_falls_5 (by decide) (fun _ => ?_) (fun z => absurd z (by decide +kernel))
    refine lv_iconst (v := (-1)) hx hb dX12_falls_16 (by decide +kernel) ?_
    exact W.iret (v := (-1)) hx hb hr (fun T9 hT9 hW9 => ⟨_, rfl, (by (simp [on1, oN_f hb_x]) <;> first | rfl | omega), hT9⟩) (fun q h => by cases h) dX12_falls_17
  refine lv_aload_n hx hb dX12_falls_0 rfl (lv_at hl 0 rfl) ?_
  refine lv_iload_n hx hb dX12_falls_1 rfl (lv_at hl 1 rfl) ?_
  refine vp_callSi ((va_runV (As := [.int (nI v)]) (rest := []) ⟨hx, hb, hml, hown, hts⟩ (c_X12_isDenier_t l dC dI cI cD cR y as ai ar am ak ao az ae aq af hi th po ba en an aw ax ap se n d t day al nd bb oo K F kn v (by first | omega | assumption | exact gnd _ | exact gkn _ | exact Nat.lt_trans (gkn _) (by decide) | exact Nat.lt_trans (gnd _) (by decide) | exact Nat.lt_of_le_of_lt (pcN_le _) (by decide)) (by first | omega | assumption | exact gnd _ | exact gkn _ | exact Nat.lt_trans (gkn _) (by decide) | exact Nat.lt_trans (gnd _) (by decide) | exact Nat.lt_of_le_of_lt (pcN_le _) (by decide)) (by first | omega | assumption | exact gnd _ | exact gkn _ | exact Nat.lt_trans (gkn _) (by decide) | exact Nat.lt_trans (gnd _) (by decide) | exact Nat.lt_of_le_of_lt (pcN_le _) (by decide)) (by first | omega | assumption | exact gnd _ | exact gkn _ | exact Nat.lt_trans (gkn _) (by decide) | exact Nat.lt_trans (gnd _) (by decide) | exact Nat.lt_of_le_of_lt (pcN_le _) (by decide)) (by first | omega | assumption | exact gnd _ | exact gkn _ | exact Nat.lt_trans (gkn _) (by decide) | exact Nat.lt_trans (gnd _) (by decide) | exact Nat.lt_of_le_of_lt (pcN_le _) (by decide)) gnd gkn gK gF (by first | omega | assumption | exact gnd _ | exact gkn _ | exact Nat.lt_trans (gkn _) (by decide) | exact Nat.lt_trans (gnd _) (by decide) | exact Nat.lt_of_le_of_lt (pcN_le _) (by decide))) (cwV 1 hts gX12_falls_X12_isDenier rfl rfl rfl (by decide +kernel) ⟨Nat.le_of_ble_eq_true rfl, Nat.le_of_ble_eq_true rfl⟩) (preV_R hCX (va_recv hK hP (ci := 12) (q0 := 0) rfl rfl) (hP)) rfl rfl hl.1 rfl (lv_room (Nat.le_of_ble_eq_true rfl)) dX12_falls_2 ⟨Nat.le_of_ble_eq_true (by first | rfl | decide), Nat.le_of_ble_eq_true (by first | rfl | decide)⟩).run) (fun r_2 hr_2 => ?_)
  subst hr_2
  refine lv_if_eq (tgt := 16) hx hb dX12_falls_5 (by decide) (fun z => absurd z (by decide +kernel)) (fun _ => ?_)
  refine lv_aload_n hx hb dX12_falls_8 rfl (lv_at hl 0 rfl) ?_
  refine lv_iload_n hx hb dX12_falls_9 rfl (lv_at hl 1 rfl) ?_
  refine vp_callSi ((va_runV (As := [.int (nI v)]) (rest := []) ⟨hx, hb, hml, hown, hts⟩ (c_X12_fallsBy l dC dI cI cD cR y as ai ar am ak ao az ae aq af hi th po ba en an aw ax ap se n d t day al nd bb oo K F kn v (by first | omega | assumption | exact gnd _ | exact gkn _ | exact Nat.lt_trans (gkn _) (by decide) | exact Nat.lt_trans (gnd _) (by decide) | exact Nat.lt_of_le_of_lt (pcN_le _) (by decide)) (by first | omega | assumption | exact gnd _ | exact gkn _ | exact Nat.lt_trans (gkn _) (by decide) | exact Nat.lt_trans (gnd _) (by decide) | exact Nat.lt_of_le_of_lt (pcN_le _) (by decide)) (by first | omega | assumption | exact gnd _ | exact gkn _ | exact Nat.lt_trans (gkn _) (by decide) | exact Nat.lt_trans (gnd _) (by decide) | exact Nat.lt_of_le_of_lt (pcN_le _) (by decide)) (by first | omega | assumption | exact gnd _ | exact gkn _ | exact Nat.lt_trans (gkn _) (by decide) | exact Nat.lt_trans (gnd _) (by decide) | exact Nat.lt_of_le_of_lt (pcN_le _) (by decide)) (by first | omega | assumption | exact gnd _ | exact gkn _ | exact Nat.lt_trans (gkn _) (by decide) | exact Nat.lt_trans (gnd _) (by decide) | exact Nat.lt_of_le_of_lt (pcN_le _) (by decide)) gnd gkn gK gF (by first | omega | assumption | exact gnd _ | exact gkn _ | exact Nat.lt_trans (gkn _) (by decide) | exact Nat.lt_trans (gnd _) (by decide) | exact Nat.lt_of_le_of_lt (pcN_le _) (by decide))) (cwV 1 hts gX12_falls_X12_fallsBy rfl rfl rfl (by decide +kernel) ⟨Nat.le_of_ble_eq_true rfl, Nat.le_of_ble_eq_true rfl⟩) (preV_R hCX (va_recv hK hP (ci := 12) (q0 := 0) rfl rfl) (hP)) rfl rfl hl.1 rfl (lv_room (Nat.le_of_ble_eq_true rfl)) dX12_falls_10 ⟨Nat.le_of_ble_eq_true (by first | rfl | decide), Nat.le_of_ble_eq_true (by first | rfl | decide)⟩).run) (fun r_10 hr_10 => ?_)
  subst hr_10
  refine lv_goto (tgt := 17) hx hb dX12_falls_13 (by decide) ?_
  exact W.iret (v := nI (bif al.testBit v then ruR t nd n 9 (orF (fun s9 => t.testBit s9 && decide (bb s9 = nI v)) n) else 0)) hx hb hr (fun T9 hT9 hW9 => ⟨_, rfl, (by (simp [on1, oN_t h_v]) <;> first | rfl | omega), hT9⟩) (fun q h => by cases h) dX12_falls_17
set_option maxHeartbeats 4000000 in
set_option maxRecDepth 100000 in
theorem c_X12_lonely (l : Launch) (dC : Nat → ClassId) (dI : Nat → Nat → Nat) (cI cD cR : ClassId) (y as ai ar am ak ao az ae aq af : Nat) (hi : Bool) (th : Int32) (po ba en an aw ax ap : Nat) (se : Int32) (n d t day al : Nat) (nd : Nat → Nat) (bb oo : Nat → Int32) (K F kn : Nat → Nat) (hn : n ≤ 9) (hd : d ≤ 7) (ht : t < 512) (hal : al < 128) (hday : day < 2 ^ 30) (gnd : ∀ i, nd i < 512) (gkn : ∀ j, kn j < 512) (gK : ∀ j, K j < 8) (gF : ∀ j, F j < 10) (hd6 : d ≤ 6) : Met l yX12_lonely wsX12_lonely ({ frames := 5, cells := 0, slots := 0, locals := 114 }) (pcR dC dI cI cD cR [.ref y] (fun H => va_P (dC, dI) vwCl ([(y, .inr (12, [.ref as, .ref ai, .ref ar, .ref am, .ref ak, .ref ao, .ref az, .ref ae, .ref aq, .ref af, .int (bI hi), .int th, .int (nI po), .int (nI ba), .int (nI en), .ref an, .ref aw, .ref ax, .ref ap, .int se]))] ++ [(as, .inl (cI, 53, .inl (sF n d t day al nd bb oo K F kn)))]) H)) (vp_Si (fun r => r = nI (lmF (fun j => orF (fun s9 => mnB t al nd K F kn j s9) n) d (sdf (2 ^ n - 1) t)))) 0 0 (fun _ => False) := by
  refine Met.ofW (cc := cX12_lonely) (maxL := 3) (ret := (some .int)) (by decide) rfl ?_
  intro p e s m args below meth c s₁ B hml hv
  obtain ⟨rfl, hH0, hCX⟩ := hv
  have hx := B.exec
  have hb := B.bytes
  have hr := B.returns
  have hts := atoms_spec (ws := wsX12_lonely) B.pre
  have hown : s.vm.findClass RX12 = some m.cls := findClass_of_methodNamed B.named
  have hlocks := B.notSynchronized
  have hK := hCX.1
  have hP := hH0
  have hl := lv_entry ([.ref y]) (n := 3) (Nat.le_of_ble_eq_true rfl)
  rw [lg_entry_eq]
  generalize (lg_sl ([.ref y]) ++ List.replicate (3 - (lg_sl ([.ref y])).length) Slot.unset).toArray = ls at hl ⊢
  have hl : lv_has ls 3 [(0, .ref y)] := hl
  refine lv_aload_n hx hb dX12_lonely_0 rfl (lv_at hl 0 rfl) ?_
  refine vp_callSi ((va_runV (As := []) (rest := []) ⟨hx, hb, hml, hown, hts⟩ (c_X12_everything l dC dI cI cD cR y as ai ar am ak ao az ae aq af hi th po ba en an aw ax ap se n d t day al nd bb oo K F kn (by first | omega | assumption | exact gnd _ | exact gkn _ | exact Nat.lt_trans (gkn _) (by decide) | exact Nat.lt_trans (gnd _) (by decide) | exact Nat.lt_of_le_of_lt (pcN_le _) (by decide)) (by first | omega | assumption | exact gnd _ | exact gkn _ | exact Nat.lt_trans (gkn _) (by decide) | exact Nat.lt_trans (gnd _) (by decide) | exact Nat.lt_of_le_of_lt (pcN_le _) (by decide)) (by first | omega | assumption | exact gnd _ | exact gkn _ | exact Nat.lt_trans (gkn _) (by decide) | exact Nat.lt_trans (gnd _) (by decide) | exact Nat.lt_of_le_of_lt (pcN_le _) (by decide)) (by first | omega | assumption | exact gnd _ | exact gkn _ | exact Nat.lt_trans (gkn _) (by decide) | exact Nat.lt_trans (gnd _) (by decide) | exact Nat.lt_of_le_of_lt (pcN_le _) (by decide)) (by first | omega | assumption | exact gnd _ | exact gkn _ | exact Nat.lt_trans (gkn _) (by decide) | exact Nat.lt_trans (gnd _) (by decide) | exact Nat.lt_of_le_of_lt (pcN_le _) (by decide)) gnd gkn gK gF) (cwV 0 hts gX12_lonely_X12_everything rfl rfl rfl (by decide +kernel) ⟨Nat.le_of_ble_eq_true rfl, Nat.le_of_ble_eq_true rfl⟩) (preV_R hCX (va_recv hK hP (ci := 12) (q0 := 0) rfl rfl) (hP)) rfl rfl hl.1 rfl (lv_room (Nat.le_of_ble_eq_true rfl)) dX12_lonely_1 ⟨Nat.le_of_ble_eq_true (by first | rfl | decide), Nat.le_of_ble_eq_true (by first | rfl | decide)⟩).run) (fun r_1 hr_1 => ?_)
  subst hr_1
  refine lv_aload_n hx hb dX12_lonely_4 rfl (lv_at hl 0 rfl) ?_
  refine va_get (D := (dC, dI)) (ci := 12) (v := .ref as) (C := RX12) (T := TX12) (N := 20) hx hb hts (fun _ h => List.mem_cons_of_mem _ (List.mem_append_right _ h)) hown hK hP 0 rfl rfl 0 (by decide) (hts (.fieldLink RX12 9 "HoldsOnceDeniedModel" "s" "[I") (by decide +kernel)) (fun _ h9 => h9) rfl dX12_lonely_5 ?_
  refine lv_iconst (v := nI 2) hx hb dX12_lonely_8 (by decide +kernel) ?_
  refine ho_iald (v := nI t) hx hb hK hP 1 0 rfl rfl (by omega) (by first | decide | omega) rfl dX12_lonely_9 ?_
  refine lv_iconst (v := (-1)) hx hb dX12_lonely_10 (by decide +kernel) ?_
  refine lv_ixor hx hb dX12_lonely_11 ?_
  refine ho_iandC hx hb dX12_lonely_12 ?_
  refine lv_istore_n (lv' := [(1, .int (nI (sdf (2 ^ n - 1) t))), (0, .ref y)]) hx hb dX12_lonely_13 rfl hl (by decide) rfl (fun ls hl => ?_)
  refine lv_iconst (v := nI 0) hx hb dX12_lonely_14 (by decide +kernel) ?_
  refine lv_istore_n (lv' := [(2, .int (nI 0)), (1, .int (nI (sdf (2 ^ n - 1) t))), (0, .ref y)]) hx hb dX12_lonely_15 rfl hl (by decide) rfl (fun ls hl => ?_)
  have e9_1 : sdf (2 ^ n - 1) t = lmF (fun 0 => orF (fun s9 => mnB t al nd K F kn 0 s9) n) 0 (sdf (2 ^ n - 1) t) := by rfl
  rw [e9_1] at hl
  refine ho_lp (T := Nat) 3 (fun x9 => [(2, .int (nI x9)), (1, .int (nI (lmF (fun x9 => orF (fun s9 => mnB t al nd K F kn x9 s9) n) x9 (sdf (2 ^ n - 1) t)))), (0, .ref y)]) (fun x9 => []) (fun x9 => (x9 ≤ d)) (fun x9 => d - x9) 0 (by omega) (lv_sub hl [0, 1, 2] rfl) ?_
  intro fu16 j ls hI hm16 hl ih
  have hjd := hI
  have hl : lv_has ls 3 [(2, .int (nI j)), (1, .int (nI (lmF (fun j => orF (fun s9 => mnB t al nd K F kn j s9) n) j (sdf (2 ^ n - 1) t)))), (0, .ref y)] := hl
  have hjd : j ≤ d := hjd
  have hm16 : d - j < fu16 + 1 := hm16
  refine W.eq (g2 := F0 m 16 ls []) rfl ?_
  have ih16 := ih
  refine lv_iload_n hx hb dX12_lonely_16 rfl (lv_at hl 0 rfl) ?_
  refine lv_aload_n hx hb dX12_lonely_17 rfl (lv_at hl 2 rfl) ?_
  refine va_get (D := (dC, dI)) (ci := 12) (v := .ref as) (C := RX12) (T := TX12) (N := 20) hx hb hts (fun _ h => List.mem_cons_of_mem _ (List.mem_append_right _ h)) hown hK hP 0 rfl rfl 0 (by decide) (hts (.fieldLink RX12 9 "HoldsOnceDeniedModel" "s" "[I") (by decide +kernel)) (fun _ h9 => h9) rfl dX12_lonely_18 ?_
  refine lv_iconst (v := nI 1) hx hb dX12_lonely_21 (by decide +kernel) ?_
  refine ho_iald (v := nI d) hx hb hK hP 1 0 rfl rfl (by omega) (by first | decide | omega) rfl dX12_lonely_22 ?_
  refine ho_icmp_ge (tgt := 42) hx hb dX12_lonely_23 (by decide) (by omega) (by omega) (fun c_23 => ?_) (fun c_23 => ?_)
  · refine lv_iload_n hx hb dX12_lonely_42 rfl (lv_at hl 1 rfl) ?_
    exact W.iret (v := nI (lmF (fun j => orF (fun s9 => mnB t al nd K F kn j s9) n) j (sdf (2 ^ n - 1) t))) hx hb hr (fun T9 hT9 hW9 => ⟨_, rfl, (congrArg nI (by rw [show j = d by omega])), hT9⟩) (fun q h => by cases h) dX12_lonely_43
  refine lv_iload_n hx hb dX12_lonely_26 rfl (lv_at hl 1 rfl) ?_
  refine lv_aload_n hx hb dX12_lonely_27 rfl (lv_at hl 2 rfl) ?_
  refine lv_iload_n hx hb dX12_lonely_28 rfl (lv_at hl 0 rfl) ?_
  refine vp_callSi ((va_runV (As := [.int (nI j)]) (rest := [.int (nI (lmF (fun j => orF (fun s9 => mnB t al nd K F kn j s9) n) j (sdf (2 ^ n - 1) t)))]) ⟨hx, hb, hml, hown, hts⟩ (c_X12_may_n l dC dI cI cD cR y as ai ar am ak ao az ae aq af hi th po ba en an aw ax ap se n d t day al nd bb oo K F kn j (by first | omega | assumption | exact gnd _ | exact gkn _ | exact Nat.lt_trans (gkn _) (by decide) | exact Nat.lt_trans (gnd _) (by decide) | exact Nat.lt_of_le_of_lt (pcN_le _) (by decide)) (by first | omega | assumption | exact gnd _ | exact gkn _ | exact Nat.lt_trans (gkn _) (by decide) | exact Nat.lt_trans (gnd _) (by decide) | exact Nat.lt_of_le_of_lt (pcN_le _) (by decide)) (by first | omega | assumption | exact gnd _ | exact gkn _ | exact Nat.lt_trans (gkn _) (by decide) | exact Nat.lt_trans (gnd _) (by decide) | exact Nat.lt_of_le_of_lt (pcN_le _) (by decide)) (by first | omega | assumption | exact gnd _ | exact gkn _ | exact Nat.lt_trans (gkn _) (by decide) | exact Nat.lt_trans (gnd _) (by decide) | exact Nat.lt_of_le_of_lt (pcN_le _) (by decide)) (by first | omega | assumption | exact gnd _ | exact gkn _ | exact Nat.lt_trans (gkn _) (by decide) | exact Nat.lt_trans (gnd _) (by decide) | exact Nat.lt_of_le_of_lt (pcN_le _) (by decide)) gnd gkn gK gF (by first | omega | assumption | exact gnd _ | exact gkn _ | exact Nat.lt_trans (gkn _) (by decide) | exact Nat.lt_trans (gnd _) (by decide) | exact Nat.lt_of_le_of_lt (pcN_le _) (by decide)) (by first | omega | assumption | exact gnd _ | exact gkn _ | exact Nat.lt_trans (gkn _) (by decide) | exact Nat.lt_trans (gnd _) (by decide) | exact Nat.lt_of_le_of_lt (pcN_le _) (by decide))) (cwV 1 hts gX12_lonely_X12_may rfl rfl rfl (by decide +kernel) ⟨Nat.le_of_ble_eq_true rfl, Nat.le_of_ble_eq_true rfl⟩) (preV_R hCX (va_recv hK hP (ci := 12) (q0 := 0) rfl rfl) (hP)) rfl rfl hl.1 rfl (lv_room (Nat.le_of_ble_eq_true rfl)) dX12_lonely_29 ⟨Nat.le_of_ble_eq_true (by first | rfl | decide), Nat.le_of_ble_eq_true (by first | rfl | decide)⟩).run) (fun r_29 hr_29 => ?_)
  subst hr_29
  refine lv_iconst (v := (-1)) hx hb dX12_lonely_32 (by decide +kernel) ?_
  refine lv_ixor hx hb dX12_lonely_33 ?_
  refine ho_iandC hx hb dX12_lonely_34 ?_
  refine lv_istore_n (lv' := [(1, .int (nI (sdf (lmF (fun j => orF (fun s9 => mnB t al nd K F kn j s9) n) j (sdf (2 ^ n - 1) t)) (orF (fun s9 => mnB t al nd K F kn j s9) n)))), (2, .int (nI j)), (0, .ref y)]) hx hb dX12_lonely_35 rfl hl (by decide) rfl (fun ls hl => ?_)
  refine ho_iinc (lv' := [(2, .int (nI (j + 1))), (1, .int (nI (sdf (lmF (fun j => orF (fun s9 => mnB t al nd K F kn j s9) n) j (sdf (2 ^ n - 1) t)) (orF (fun s9 => mnB t al nd K F kn j s9) n)))), (0, .ref y)]) (a := j) (b := 1) hx hb dX12_lonely_36 hl (k := 1) rfl rfl (by decide) rfl (fun ls hl => ?_)
  refine lv_goto (tgt := 16) hx hb dX12_lonely_39 (by decide) ?_
  have e9_1 : sdf (lmF (fun j => orF (fun s9 => mnB t al nd K F kn j s9) n) j (sdf (2 ^ n - 1) t)) (orF (fun s9 => mnB t al nd K F kn j s9) n) = lmF (fun (j + 1) => orF (fun s9 => mnB t al nd K F kn (j + 1) s9) n) (j + 1) (sdf (2 ^ n - 1) t) := by rfl
  rw [e9_1] at hl
  exact ih16 (j + 1) _ (by omega) (show d - (j + 1) < fu16 from (by omega)) (lv_sub hl [0, 1, 2] rfl)
