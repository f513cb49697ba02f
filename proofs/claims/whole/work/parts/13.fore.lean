set_option maxHeartbeats 4000000 in
set_option maxRecDepth 100000 in
theorem c_X4_cheapest (l : Launch) (dC : Nat → ClassId) (dI : Nat → Nat → Nat) (cI cD cR : ClassId) (fo l1 l2 l3 sa : Nat) (lk : Nat → Option Nat) (ef : Nat → Nat) (le : Nat → Option Nat) (t x : Nat) (hsa : sa < 512) (glk : ∀ i v, lk i = some v → v < 512) (gef : ∀ i, ef i < 1000) (ht : t < 512) (hxx : x < 9) : Met l yX4_cheapest wsX4_cheapest ({ frames := 1, cells := 0, slots := 0, locals := 21 }) (pcR dC dI cI cD cR [.ref fo, .int (nI t), .int (nI x)] (fun H => va_P (dC, dI) vwCl ((forW cI fo l1 l2 l3 sa lk ef le)) H)) (vp_Si (fun r => r = oM (chE lk ef t x))) 0 0 (fun _ => False) := by
  refine Met.ofW (cc := cX4_cheapest) (maxL := 5) (ret := (some .int)) (by decide) rfl ?_
  intro p e s m args below meth c s₁ B hml hv
  obtain ⟨rfl, hH0, hCX⟩ := hv
  have hx := B.exec
  have hb := B.bytes
  have hr := B.returns
  have hts := atoms_spec (ws := wsX4_cheapest) B.pre
  have hown : s.vm.findClass RX4 = some m.cls := findClass_of_methodNamed B.named
  have hlocks := B.notSynchronized
  have hK := hCX.1
  have hP := hH0
  have hl := lv_entry ([.ref fo, .int (nI t), .int (nI x)]) (n := 5) (Nat.le_of_ble_eq_true rfl)
  rw [lg_entry_eq]
  generalize (lg_sl ([.ref fo, .int (nI t), .int (nI x)]) ++ List.replicate (5 - (lg_sl ([.ref fo, .int (nI t), .int (nI x)])).length) Slot.unset).toArray = ls at hl ⊢
  have hl : lv_has ls 5 [(0, .ref fo), (1, .int (nI t)), (2, .int (nI x))] := hl
  refine lv_iconst (v := (-1)) hx hb dX4_cheapest_0 (by decide +kernel) ?_
  refine lv_istore_n (lv' := [(3, .int (-1)), (0, .ref fo), (1, .int (nI t)), (2, .int (nI x))]) hx hb dX4_cheapest_1 rfl hl (by decide) rfl (fun ls hl => ?_)
  refine lv_iload_n hx hb dX4_cheapest_2 rfl (lv_at hl 3 rfl) ?_
  refine ho_if_lt0 hx hb dX4_cheapest_3 (tgt := 14) (by decide) (by omega) ?_
  refine lv_iload_n hx hb dX4_cheapest_6 rfl (lv_at hl 2 rfl) ?_
  refine lv_iload_n hx hb dX4_cheapest_7 rfl (lv_at hl 3 rfl) ?_
  refine vp_callSi ((va_runSN (As := [.int (nI t), .int (nI x)]) (rest := []) ⟨hx, hb, hml, hown, hts⟩ (c_X11_has l dC dI cI cD cR t x (by first | omega | assumption | exact gnd _ | exact gkn _ | exact Nat.lt_trans (gkn _) (by decide) | exact Nat.lt_trans (gnd _) (by decide) | exact Nat.lt_of_le_of_lt (pcN_le _) (by decide)) (by first | omega | assumption | exact gnd _ | exact gkn _ | exact Nat.lt_trans (gkn _) (by decide) | exact Nat.lt_trans (gnd _) (by decide) | exact Nat.lt_of_le_of_lt (pcN_le _) (by decide))) ⟨va_cnB (host := "HoldsOnceDenied") 2 hts gX4_cheapest_X11_has_n77 rfl rfl rfl (CX.nm hCX 9 rfl) (hts (.initialized RX11) (by decide +kernel)) (by decide +kernel) ⟨Nat.le_of_ble_eq_true rfl, Nat.le_of_ble_eq_true rfl⟩, (hts (.static yX11_has) (by decide +kernel)), trivial⟩ (preS_R hCX (trivial)) rfl rfl hl.1 rfl (lv_room (Nat.le_of_ble_eq_true rfl)) dX4_cheapest_8 ⟨Nat.le_of_ble_eq_true (by first | rfl | decide), Nat.le_of_ble_eq_true (by first | rfl | decide)⟩).run) (fun r_8 hr_8 => ?_)
  subst hr_8
  refine ho_beq (tgt := 16) hx hb dX4_cheapest_11 (by decide) (fun c_11 => ?_) (fun c_11 => ?_)
  · refine lv_iload_n hx hb dX4_cheapest_16 rfl (lv_at hl 3 rfl) ?_
    refine lv_istore (lv' := [(4, .int (nI x)), (3, .int (-1)), (0, .ref fo), (1, .int (nI t)), (2, .int (nI x))]) hx hb dX4_cheapest_17 hl (by decide) rfl (fun ls hl => ?_)
    have e9_3 : ((-1) : Int32) = oM (chF lk ef t x 0) := by rfl
    rw [e9_3] at hl
    have e9_4 : x = x + 9 * 0 := by rfl
    rw [e9_4] at hl
    refine ho_lp (T := Nat) 5 (fun x9 => [(4, .int (nI (x + 9 * x9))), (3, .int (oM (chF lk ef t x x9))), (0, .ref fo), (1, .int (nI t)), (2, .int (nI x))]) (fun x9 => []) (fun x9 => (x9 ≤ 7)) (fun x9 => 7 - x9) 0 (by omega) (lv_sub hl [0, 1, 2, 3, 4] rfl) ?_
    intro fu19 k ls hI hm19 hl ih
    have hk := hI
    have hl : lv_has ls 5 [(4, .int (nI (x + 9 * k))), (3, .int (oM (chF lk ef t x k))), (0, .ref fo), (1, .int (nI t)), (2, .int (nI x))] := hl
    have hk : k ≤ 7 := hk
    have hm19 : 7 - k < fu19 + 1 := hm19
    refine W.eq (g2 := F0 m 19 ls []) rfl ?_
    have ih19 := ih
    refine lv_iload hx hb dX4_cheapest_19 (lv_at hl 0 rfl) ?_
    refine lv_aload_n hx hb dX4_cheapest_21 rfl (lv_at hl 2 rfl) ?_
    refine va_get (D := (dC, dI)) (ci := 4) (v := .ref l1) (C := RX4) (T := TX4) (N := 4) hx hb hts (fun _ h => List.mem_cons_of_mem _ (List.mem_append_right _ h)) hown hK hP 0 rfl rfl 1 (by decide) (hts (.fieldLink RX4 11 "HoldsOnceDenied$Foresight" "lacks" "[I") (by decide +kernel)) (fun _ h9 => h9) rfl dX4_cheapest_22 ?_
    refine va_alen (v := nI 63) hx hb hK hP 1 0 rfl rfl rfl dX4_cheapest_25 ?_
    refine ho_icmp_ge (tgt := 94) hx hb dX4_cheapest_26 (by decide) (by omega) (by omega) (fun c_26 => ?_) (fun c_26 => ?_)
    · refine lv_iload_n hx hb dX4_cheapest_94 rfl (lv_at hl 1 rfl) ?_
      exact W.iret (v := oM (chF lk ef t x k)) hx hb hr (fun T9 hT9 hW9 => ⟨_, rfl, (by rw [show k = 7 by omega]; exact congrArg oM (chE_of c_11)), hT9⟩) (fun q h => by cases h) dX4_cheapest_95
    refine lv_iload hx hb dX4_cheapest_29 (lv_at hl 0 rfl) ?_
    refine lv_aload_n hx hb dX4_cheapest_31 rfl (lv_at hl 2 rfl) ?_
    refine va_get (D := (dC, dI)) (ci := 4) (v := .ref l2) (C := RX4) (T := TX4) (N := 4) hx hb hts (fun _ h => List.mem_cons_of_mem _ (List.mem_append_right _ h)) hown hK hP 0 rfl rfl 2 (by decide) (hts (.fieldLink RX4 15 "HoldsOnceDenied$Foresight" "efforts" "[I") (by decide +kernel)) (fun _ h9 => h9) rfl dX4_cheapest_32 ?_
    refine va_alen (v := nI 63) hx hb hK hP 2 0 rfl rfl rfl dX4_cheapest_35 ?_
    refine ho_icmp_ge (tgt := 94) hx hb dX4_cheapest_36 (by decide) (by omega) (by omega) (fun c_36 => ?_) (fun c_36 => ?_)
    · exfalso; omega
    refine lv_aload_n hx hb dX4_cheapest_39 rfl (lv_at hl 2 rfl) ?_
    refine va_get (D := (dC, dI)) (ci := 4) (v := .ref l1) (C := RX4) (T := TX4) (N := 4) hx hb hts (fun _ h => List.mem_cons_of_mem _ (List.mem_append_right _ h)) hown hK hP 0 rfl rfl 1 (by decide) (hts (.fieldLink RX4 11 "HoldsOnceDenied$Foresight" "lacks" "[I") (by decide +kernel)) (fun _ h9 => h9) rfl dX4_cheapest_40 ?_
    refine lv_iload hx hb dX4_cheapest_43 (lv_at hl 0 rfl) ?_
    refine ho_iald (v := oM (lk (x + 9 * k))) hx hb hK hP 1 0 rfl rfl (by omega) (by decide) rfl dX4_cheapest_45 ?_
    cases hv_45 : lk (x + 9 * k) with
    | none =>
      refine ho_tope (y := (-1)) rfl ?_
      refine lv_iconst (v := (-1)) hx hb dX4_cheapest_46 (by decide +kernel) ?_
      refine lv_icmp_eq (tgt := 88) hx hb dX4_cheapest_47 (by decide) (fun _ => ?_) (fun z => absurd (by decide +kernel) z)
      refine ho_iinc (lv' := [(4, .int (nI (x + 9 * k + 9))), (3, .int (oM (chF lk ef t x k))), (0, .ref fo), (1, .int (nI t)), (2, .int (nI x))]) (a := (x + 9 * k)) (b := 9) hx hb dX4_cheapest_88 hl (k := 0) rfl rfl (by decide) rfl (fun ls hl => ?_)
      refine lv_goto (tgt := 19) hx hb dX4_cheapest_91 (by decide) ?_
      have e9_3 : (oM (chF lk ef t x k) : Int32) = oM (chF lk ef t x (k + 1)) := by first | exact congrArg oM (chF_n hv_45) | exact congrArg oM (chF_f hv_45 c_61) | exact congrArg oM (chF_0 hv_45 c_61 hq_64) | exact congrArg oM (chF_l hv_45 c_61 hq_64 c_77) | exact congrArg oM (chF_g hv_45 c_61 hq_64 c_77)
      rw [e9_3] at hl
      have e9_4 : x + 9 * k + 9 = x + 9 * (k + 1) := by omega
      rw [e9_4] at hl
      exact ih19 (k + 1) _ (by omega) (show 7 - (k + 1) < fu19 from (by omega)) (lv_sub hl [0, 1, 2, 3, 4] rfl)
    | some v_45 =>
      refine ho_tope (y := nI v_45) rfl ?_
      have hv9 := glk _ _ hv_45
      refine lv_iconst (v := (-1)) hx hb dX4_cheapest_46 (by decide +kernel) ?_
      refine lv_icmp_eq (tgt := 88) hx hb dX4_cheapest_47 (by decide) (fun z => absurd z (ng_ne (by omega) (by decide +kernel))) (fun _ => ?_)
      refine lv_aload_n hx hb dX4_cheapest_50 rfl (lv_at hl 2 rfl) ?_
      refine va_get (D := (dC, dI)) (ci := 4) (v := .ref l1) (C := RX4) (T := TX4) (N := 4) hx hb hts (fun _ h => List.mem_cons_of_mem _ (List.mem_append_right _ h)) hown hK hP 0 rfl rfl 1 (by decide) (hts (.fieldLink RX4 11 "HoldsOnceDenied$Foresight" "lacks" "[I") (by decide +kernel)) (fun _ h9 => h9) rfl dX4_cheapest_51 ?_
      refine lv_iload hx hb dX4_cheapest_54 (lv_at hl 0 rfl) ?_
      refine ho_iald (v := nI v_45) hx hb hK hP 1 0 rfl rfl (by omega) (by decide) (show oM (lk (x + 9 * k)) = _ by rw [hv_45]; rfl) dX4_cheapest_56 ?_
      refine lv_iload_n hx hb dX4_cheapest_57 rfl (lv_at hl 3 rfl) ?_
      refine vp_callSi ((va_runSN (As := [.int (nI v_45), .int (nI t)]) (rest := []) ⟨hx, hb, hml, hown, hts⟩ (c_X11_within l dC dI cI cD cR v_45 t (Nat.lt_trans hv9 (by decide))) ⟨va_cnB (host := "HoldsOnceDenied") 2 hts gX4_cheapest_X11_within_n81 rfl rfl rfl (CX.nm hCX 10 rfl) (hts (.initialized RX11) (by decide +kernel)) (by decide +kernel) ⟨Nat.le_of_ble_eq_true rfl, Nat.le_of_ble_eq_true rfl⟩, (hts (.static yX11_within) (by decide +kernel)), trivial⟩ (preS_R hCX (trivial)) rfl rfl hl.1 rfl (lv_room (Nat.le_of_ble_eq_true rfl)) dX4_cheapest_58 ⟨Nat.le_of_ble_eq_true (by first | rfl | decide), Nat.le_of_ble_eq_true (by first | rfl | decide)⟩).run) (fun r_58 hr_58 => ?_)
      subst hr_58
      refine ho_beq (tgt := 88) hx hb dX4_cheapest_61 (by decide) (fun c_61 => ?_) (fun c_61 => ?_)
      · refine ho_iinc (lv' := [(4, .int (nI (x + 9 * k + 9))), (3, .int (oM (chF lk ef t x k))), (0, .ref fo), (1, .int (nI t)), (2, .int (nI x))]) (a := (x + 9 * k)) (b := 9) hx hb dX4_cheapest_88 hl (k := 0) rfl rfl (by decide) rfl (fun ls hl => ?_)
        refine lv_goto (tgt := 19) hx hb dX4_cheapest_91 (by decide) ?_
        have e9_3 : (oM (chF lk ef t x k) : Int32) = oM (chF lk ef t x (k + 1)) := by first | exact congrArg oM (chF_n hv_45) | exact congrArg oM (chF_f hv_45 c_61) | exact congrArg oM (chF_0 hv_45 c_61 hq_64) | exact congrArg oM (chF_l hv_45 c_61 hq_64 c_77) | exact congrArg oM (chF_g hv_45 c_61 hq_64 c_77)
        rw [e9_3] at hl
        have e9_4 : x + 9 * k + 9 = x + 9 * (k + 1) := by omega
        rw [e9_4] at hl
        exact ih19 (k + 1) _ (by omega) (show 7 - (k + 1) < fu19 from (by omega)) (lv_sub hl [0, 1, 2, 3, 4] rfl)
      obtain ⟨q_64, hq_64⟩ : ∃ y, y = chF lk ef t x k := ⟨_, rfl⟩
      rw [← hq_64] at hl
      cases q_64 with
      | none =>
        have hl : lv_has ls 5 [(4, .int (nI (x + 9 * k))), (3, .int (-1)), (0, .ref fo), (1, .int (nI t)), (2, .int (nI x))] := hl
        have hq_64 := hq_64.symm
        refine lv_iload_n hx hb dX4_cheapest_64 rfl (lv_at hl 1 rfl) ?_
        refine lv_iconst (v := (-1)) hx hb dX4_cheapest_65 (by decide +kernel) ?_
        refine lv_icmp_eq (tgt := 80) hx hb dX4_cheapest_66 (by decide) (fun _ => ?_) (fun z => absurd (by decide +kernel) z)
        refine lv_aload_n hx hb dX4_cheapest_80 rfl (lv_at hl 2 rfl) ?_
        refine va_get (D := (dC, dI)) (ci := 4) (v := .ref l2) (C := RX4) (T := TX4) (N := 4) hx hb hts (fun _ h => List.mem_cons_of_mem _ (List.mem_append_right _ h)) hown hK hP 0 rfl rfl 2 (by decide) (hts (.fieldLink RX4 15 "HoldsOnceDenied$Foresight" "efforts" "[I") (by decide +kernel)) (fun _ h9 => h9) rfl dX4_cheapest_81 ?_
        refine lv_iload hx hb dX4_cheapest_84 (lv_at hl 0 rfl) ?_
        refine ho_iald (v := nI (ef (x + 9 * k))) hx hb hK hP 2 0 rfl rfl (by omega) (by decide) rfl dX4_cheapest_86 ?_
        refine lv_istore_n (lv' := [(3, .int (nI (ef (x + 9 * k)))), (4, .int (nI (x + 9 * k))), (0, .ref fo), (1, .int (nI t)), (2, .int (nI x))]) hx hb dX4_cheapest_87 rfl hl (by decide) rfl (fun ls hl => ?_)
        refine ho_iinc (lv' := [(4, .int (nI (x + 9 * k + 9))), (3, .int (nI (ef (x + 9 * k)))), (0, .ref fo), (1, .int (nI t)), (2, .int (nI x))]) (a := (x + 9 * k)) (b := 9) hx hb dX4_cheapest_88 hl (k := 1) rfl rfl (by decide) rfl (fun ls hl => ?_)
        refine lv_goto (tgt := 19) hx hb dX4_cheapest_91 (by decide) ?_
        have e9_3 : (nI (ef (x + 9 * k)) : Int32) = oM (chF lk ef t x (k + 1)) := by first | exact congrArg oM (chF_n hv_45) | exact congrArg oM (chF_f hv_45 c_61) | exact congrArg oM (chF_0 hv_45 c_61 hq_64) | exact congrArg oM (chF_l hv_45 c_61 hq_64 c_77) | exact congrArg oM (chF_g hv_45 c_61 hq_64 c_77)
        rw [e9_3] at hl
        have e9_4 : x + 9 * k + 9 = x + 9 * (k + 1) := by omega
        rw [e9_4] at hl
        exact ih19 (k + 1) _ (by omega) (show 7 - (k + 1) < fu19 from (by omega)) (lv_sub hl [0, 1, 2, 3, 4] rfl)
      | some vq_64 =>
        have hl : lv_has ls 5 [(4, .int (nI (x + 9 * k))), (3, .int (nI vq_64)), (0, .ref fo), (1, .int (nI t)), (2, .int (nI x))] := hl
        have hq_64 := hq_64.symm
        have hvb := chF_lt gef k _ hq_64
        refine lv_iload_n hx hb dX4_cheapest_64 rfl (lv_at hl 1 rfl) ?_
        refine lv_iconst (v := (-1)) hx hb dX4_cheapest_65 (by decide +kernel) ?_
        refine lv_icmp_eq (tgt := 80) hx hb dX4_cheapest_66 (by decide) (fun z => absurd z (ng_ne (by omega) (by decide +kernel))) (fun _ => ?_)
        refine lv_aload_n hx hb dX4_cheapest_69 rfl (lv_at hl 2 rfl) ?_
        refine va_get (D := (dC, dI)) (ci := 4) (v := .ref l2) (C := RX4) (T := TX4) (N := 4) hx hb hts (fun _ h => List.mem_cons_of_mem _ (List.mem_append_right _ h)) hown hK hP 0 rfl rfl 2 (by decide) (hts (.fieldLink RX4 15 "HoldsOnceDenied$Foresight" "efforts" "[I") (by decide +kernel)) (fun _ h9 => h9) rfl dX4_cheapest_70 ?_
        refine lv_iload hx hb dX4_cheapest_73 (lv_at hl 0 rfl) ?_
        refine ho_iald (v := nI (ef (x + 9 * k))) hx hb hK hP 2 0 rfl rfl (by omega) (by decide) rfl dX4_cheapest_75 ?_
        refine lv_iload_n hx hb dX4_cheapest_76 rfl (lv_at hl 1 rfl) ?_
        refine ho_icmp_ge (tgt := 88) hx hb dX4_cheapest_77 (by decide) (Nat.lt_trans (gef _) (by decide)) (by omega) (fun c_77 => ?_) (fun c_77 => ?_)
        · refine ho_iinc (lv' := [(4, .int (nI (x + 9 * k + 9))), (3, .int (nI vq_64)), (0, .ref fo), (1, .int (nI t)), (2, .int (nI x))]) (a := (x + 9 * k)) (b := 9) hx hb dX4_cheapest_88 hl (k := 0) rfl rfl (by decide) rfl (fun ls hl => ?_)
          refine lv_goto (tgt := 19) hx hb dX4_cheapest_91 (by decide) ?_
          have e9_3 : (nI vq_64 : Int32) = oM (chF lk ef t x (k + 1)) := by first | exact congrArg oM (chF_n hv_45) | exact congrArg oM (chF_f hv_45 c_61) | exact congrArg oM (chF_0 hv_45 c_61 hq_64) | exact congrArg oM (chF_l hv_45 c_61 hq_64 c_77) | exact congrArg oM (chF_g hv_45 c_61 hq_64 c_77)
          rw [e9_3] at hl
          have e9_4 : x + 9 * k + 9 = x + 9 * (k + 1) := by omega
          rw [e9_4] at hl
          exact ih19 (k + 1) _ (by omega) (show 7 - (k + 1) < fu19 from (by omega)) (lv_sub hl [0, 1, 2, 3, 4] rfl)
        refine lv_aload_n hx hb dX4_cheapest_80 rfl (lv_at hl 2 rfl) ?_
        refine va_get (D := (dC, dI)) (ci := 4) (v := .ref l2) (C := RX4) (T := TX4) (N := 4) hx hb hts (fun _ h => List.mem_cons_of_mem _ (List.mem_append_right _ h)) hown hK hP 0 rfl rfl 2 (by decide) (hts (.fieldLink RX4 15 "HoldsOnceDenied$Foresight" "efforts" "[I") (by decide +kernel)) (fun _ h9 => h9) rfl dX4_cheapest_81 ?_
        refine lv_iload hx hb dX4_cheapest_84 (lv_at hl 0 rfl) ?_
        refine ho_iald (v := nI (ef (x + 9 * k))) hx hb hK hP 2 0 rfl rfl (by omega) (by decide) rfl dX4_cheapest_86 ?_
        refine lv_istore_n (lv' := [(3, .int (nI (ef (x + 9 * k)))), (4, .int (nI (x + 9 * k))), (0, .ref fo), (1, .int (nI t)), (2, .int (nI x))]) hx hb dX4_cheapest_87 rfl hl (by decide) rfl (fun ls hl => ?_)
        refine ho_iinc (lv' := [(4, .int (nI (x + 9 * k + 9))), (3, .int (nI (ef (x + 9 * k)))), (0, .ref fo), (1, .int (nI t)), (2, .int (nI x))]) (a := (x + 9 * k)) (b := 9) hx hb dX4_cheapest_88 hl (k := 1) rfl rfl (by decide) rfl (fun ls hl => ?_)
        refine lv_goto (tgt := 19) hx hb dX4_cheapest_91 (by decide) ?_
        have e9_3 : (nI (ef (x + 9 * k)) : Int32) = oM (chF lk ef t x (k + 1)) := by first | exact congrArg oM (chF_n hv_45) | exact congrArg oM (chF_f hv_45 c_61) | exact congrArg oM (chF_0 hv_45 c_61 hq_64) | exact congrArg oM (chF_l hv_45 c_61 hq_64 c_77) | exact congrArg oM (chF_g hv_45 c_61 hq_64 c_77)
        rw [e9_3] at hl
        have e9_4 : x + 9 * k + 9 = x + 9 * (k + 1) := by omega
        rw [e9_4] at hl
        exact ih19 (k + 1) _ (by omega) (show 7 - (k + 1) < fu19 from (by omega)) (lv_sub hl [0, 1, 2, 3, 4] rfl)
  refine lv_iload_n hx hb dX4_cheapest_14 rfl (lv_at hl 0 rfl) ?_
  exact W.iret (v := (-1)) hx hb hr (fun T9 hT9 hW9 => ⟨_, rfl, (by exact congrArg oM (chE_tt c_11)), hT9⟩) (fun q h => by cases h) dX4_cheapest_15
set_option maxHeartbeats 4000000 in
set_option maxRecDepth 100000 in
theorem c_X4_leastOf (l : Launch) (dC : Nat → ClassId) (dI : Nat → Nat → Nat) (cI cD cR : ClassId) (fo l1 l2 l3 sa : Nat) (lk : Nat → Option Nat) (ef : Nat → Nat) (le : Nat → Option Nat) (t : Nat) (hsa : sa < 512) (glk : ∀ i v, lk i = some v → v < 512) (gef : ∀ i, ef i < 1000) (ht : t < 512) : Met l yX4_leastOf wsX4_leastOf ({ frames := 0, cells := 0, slots := 0, locals := 0 }) (pcR dC dI cI cD cR [.ref fo, .int (nI t)] (fun H => va_P (dC, dI) vwCl ((forW cI fo l1 l2 l3 sa lk ef le)) H)) (vp_Si (fun r => r = oI (le t))) 0 0 (fun _ => False) := by
  refine Met.ofW (cc := cX4_leastOf) (maxL := 2) (ret := (some .int)) (by decide) rfl ?_
  intro p e s m args below meth c s₁ B hml hv
  obtain ⟨rfl, hH0, hCX⟩ := hv
  have hx := B.exec
  have hb := B.bytes
  have hr := B.returns
  have hts := atoms_spec (ws := wsX4_leastOf) B.pre
  have hown : s.vm.findClass RX4 = some m.cls := findClass_of_methodNamed B.named
  have hlocks := B.notSynchronized
  have hK := hCX.1
  have hP := hH0
  have hl := lv_entry ([.ref fo, .int (nI t)]) (n := 2) (Nat.le_of_ble_eq_true rfl)
  rw [lg_entry_eq]
  generalize (lg_sl ([.ref fo, .int (nI t)]) ++ List.replicate (2 - (lg_sl ([.ref fo, .int (nI t)])).length) Slot.unset).toArray = ls at hl ⊢
  have hl : lv_has ls 2 [(0, .ref fo), (1, .int (nI t))] := hl
  refine lv_iload_n hx hb dX4_leastOf_0 rfl (lv_at hl 1 rfl) ?_
  refine ho_if_lt0 hx hb dX4_leastOf_1 (tgt := 22) (by decide) (by omega) ?_
  refine lv_iload_n hx hb dX4_leastOf_4 rfl (lv_at hl 1 rfl) ?_
  refine lv_aload_n hx hb dX4_leastOf_5 rfl (lv_at hl 0 rfl) ?_
  refine va_get (D := (dC, dI)) (ci := 4) (v := .ref l3) (C := RX4) (T := TX4) (N := 4) hx hb hts (fun _ h => List.mem_cons_of_mem _ (List.mem_append_right _ h)) hown hK hP 0 rfl rfl 3 (by decide) (hts (.fieldLink RX4 18 "HoldsOnceDenied$Foresight" "least" "[I") (by decide +kernel)) (fun _ h9 => h9) rfl dX4_leastOf_6 ?_
  refine va_alen (v := nI 512) hx hb hK hP 3 0 rfl rfl rfl dX4_leastOf_9 ?_
  refine ho_icmp_ge (tgt := 22) hx hb dX4_leastOf_10 (by decide) (by omega) (by omega) (fun c_10 => ?_) (fun c_10 => ?_)
  · exfalso; omega
  refine lv_aload_n hx hb dX4_leastOf_13 rfl (lv_at hl 0 rfl) ?_
  refine va_get (D := (dC, dI)) (ci := 4) (v := .ref l3) (C := RX4) (T := TX4) (N := 4) hx hb hts (fun _ h => List.mem_cons_of_mem _ (List.mem_append_right _ h)) hown hK hP 0 rfl rfl 3 (by decide) (hts (.fieldLink RX4 18 "HoldsOnceDenied$Foresight" "least" "[I") (by decide +kernel)) (fun _ h9 => h9) rfl dX4_leastOf_14 ?_
  refine lv_iload_n hx hb dX4_leastOf_17 rfl (lv_at hl 1 rfl) ?_
  refine ho_iald (v := oI (le t)) hx hb hK hP 3 0 rfl rfl (by omega) (by decide) rfl dX4_leastOf_18 ?_
  refine lv_goto (tgt := 24) hx hb dX4_leastOf_19 (by decide) ?_
  exact W.iret (v := oI (le t)) hx hb hr (fun T9 hT9 hW9 => ⟨_, rfl, rfl, hT9⟩) (fun q h => by cases h) dX4_leastOf_24
set_option maxHeartbeats 4000000 in
set_option maxRecDepth 100000 in
theorem c_X4_reachable (l : Launch) (dC : Nat → ClassId) (dI : Nat → Nat → Nat) (cI cD cR : ClassId) (fo l1 l2 l3 sa : Nat) (lk : Nat → Option Nat) (ef : Nat → Nat) (le : Nat → Option Nat) (hsa : sa < 512) (glk : ∀ i v, lk i = some v → v < 512) (gef : ∀ i, ef i < 1000) : Met l yX4_reachable wsX4_reachable ({ frames := 2, cells := 0, slots := 0, locals := 45 }) (pcR dC dI cI cD cR [.ref fo] (fun H => va_P (dC, dI) vwCl ((forW cI fo l1 l2 l3 sa lk ef le)) H)) (vp_Si (fun r => r = nI (raR lk ef 9 sa))) 0 0 (fun _ => False) := by
  refine Met.ofW (cc := cX4_reachable) (maxL := 4) (ret := (some .int)) (by decide) rfl ?_
  intro p e s m args below meth c s₁ B hml hv
  obtain ⟨rfl, hH0, hCX⟩ := hv
  have hx := B.exec
  have hb := B.bytes
  have hr := B.returns
  have hts := atoms_spec (ws := wsX4_reachable) B.pre
  have hown : s.vm.findClass RX4 = some m.cls := findClass_of_methodNamed B.named
  have hlocks := B.notSynchronized
  have hK := hCX.1
  have hP := hH0
  have hl := lv_entry ([.ref fo]) (n := 4) (Nat.le_of_ble_eq_true rfl)
  rw [lg_entry_eq]
  generalize (lg_sl ([.ref fo]) ++ List.replicate (4 - (lg_sl ([.ref fo])).length) Slot.unset).toArray = ls at hl ⊢
  have hl : lv_has ls 4 [(0, .ref fo)] := hl
  refine lv_aload_n hx hb dX4_reachable_0 rfl (lv_at hl 0 rfl) ?_
  refine va_get (D := (dC, dI)) (ci := 4) (v := .int (nI sa)) (C := RX4) (T := TX4) (N := 4) hx hb hts (fun _ h => List.mem_cons_of_mem _ (List.mem_append_right _ h)) hown hK hP 0 rfl rfl 0 (by decide) (hts (.fieldLink RX4 27 "HoldsOnceDenied$Foresight" "start" "I") (by decide +kernel)) (fun _ h9 => h9) rfl dX4_reachable_1 ?_
  refine lv_istore_n (lv' := [(1, .int (nI sa)), (0, .ref fo)]) hx hb dX4_reachable_4 rfl hl (by decide) rfl (fun ls hl => ?_)
  refine lv_iconst (v := nI 0) hx hb dX4_reachable_5 (by decide +kernel) ?_
  refine lv_istore_n (lv' := [(2, .int (nI 0)), (1, .int (nI sa)), (0, .ref fo)]) hx hb dX4_reachable_6 rfl hl (by decide) rfl (fun ls hl => ?_)
  have e9_1 : sa = raR lk ef 0 sa := by rfl
  rw [e9_1] at hl
  refine ho_lp (T := Nat) 4 (fun x9 => [(2, .int (nI x9)), (1, .int (nI (raR lk ef x9 sa))), (0, .ref fo)]) (fun x9 => []) (fun x9 => (x9 ≤ 9)) (fun x9 => 9 - x9) 0 (by omega) (lv_sub hl [0, 1, 2] rfl) ?_
  intro fu7 r ls hI hm7 hl ih
  have hr9 := hI
  have hl : lv_has ls 4 [(2, .int (nI r)), (1, .int (nI (raR lk ef r sa))), (0, .ref fo)] := hl
  have hr9 : r ≤ 9 := hr9
  have hm7 : 9 - r < fu7 + 1 := hm7
  refine W.eq (g2 := F0 m 7 ls []) rfl ?_
  have ih7 := ih
  refine lv_iload_n hx hb dX4_reachable_7 rfl (lv_at hl 0 rfl) ?_
  refine lv_bipush (v := nI 9) hx hb dX4_reachable_8 (by decide +kernel) ?_
  refine ho_icmp_ge (tgt := 50) hx hb dX4_reachable_10 (by decide) (by omega) (by omega) (fun c_10 => ?_) (fun c_10 => ?_)
  · refine lv_iload_n hx hb dX4_reachable_50 rfl (lv_at hl 1 rfl) ?_
    exact W.iret (v := nI (raR lk ef r sa)) hx hb hr (fun T9 hT9 hW9 => ⟨_, rfl, (congrArg nI (by rw [show r = 9 by omega])), hT9⟩) (fun q h => by cases h) dX4_reachable_51
  refine lv_iconst (v := nI 0) hx hb dX4_reachable_13 (by decide +kernel) ?_
  refine lv_istore_n (lv' := [(3, .int (nI 0)), (2, .int (nI r)), (1, .int (nI (raR lk ef r sa))), (0, .ref fo)]) hx hb dX4_reachable_14 rfl hl (by decide) rfl (fun ls hl => ?_)
  have e9_1 : raR lk ef r sa = raI lk ef 0 (raR lk ef r sa) := by rfl
  rw [e9_1] at hl
  refine ho_lp (T := Nat) 4 (fun x9 => [(3, .int (nI x9)), (2, .int (nI r)), (1, .int (nI (raI lk ef x9 (raR lk ef r sa)))), (0, .ref fo)]) (fun x9 => []) (fun x9 => (x9 ≤ 9)) (fun x9 => 9 - x9) 0 (by omega) (lv_sub hl [0, 1, 2, 3] rfl) ?_
  intro fu15 j ls hI hm15 hl ih
  have hj9 := hI
  have hl : lv_has ls 4 [(3, .int (nI j)), (2, .int (nI r)), (1, .int (nI (raI lk ef j (raR lk ef r sa)))), (0, .ref fo)] := hl
  have hj9 : j ≤ 9 := hj9
  have hm15 : 9 - j < fu15 + 1 := hm15
  refine W.eq (g2 := F0 m 15 ls []) rfl ?_
  have ih15 := ih
  refine lv_iload_n hx hb dX4_reachable_15 rfl (lv_at hl 0 rfl) ?_
  refine lv_bipush (v := nI 9) hx hb dX4_reachable_16 (by decide +kernel) ?_
  refine ho_icmp_ge (tgt := 44) hx hb dX4_reachable_18 (by decide) (by omega) (by omega) (fun c_18 => ?_) (fun c_18 => ?_)
  · refine ho_iinc (lv' := [(2, .int (nI (r + 1))), (3, .int (nI j)), (1, .int (nI (raI lk ef j (raR lk ef r sa)))), (0, .ref fo)]) (a := r) (b := 1) hx hb dX4_reachable_44 hl (k := 1) rfl rfl (by decide) rfl (fun ls hl => ?_)
    refine lv_goto (tgt := 7) hx hb dX4_reachable_47 (by decide) ?_
    have e9_1 : raI lk ef j (raR lk ef r sa) = raR lk ef (r + 1) sa := by rw [show j = 9 by omega]; rfl
    rw [e9_1] at hl
    exact ih7 (r + 1) _ (by omega) (show 9 - (r + 1) < fu7 from (by omega)) (lv_sub hl [0, 2, 3] rfl)
  refine lv_aload_n hx hb dX4_reachable_21 rfl (lv_at hl 3 rfl) ?_
  refine lv_iload_n hx hb dX4_reachable_22 rfl (lv_at hl 2 rfl) ?_
  refine lv_iload_n hx hb dX4_reachable_23 rfl (lv_at hl 0 rfl) ?_
  refine vp_callSi ((va_runV (As := [.int (nI (raI lk ef j (raR lk ef r sa))), .int (nI j)]) (rest := []) ⟨hx, hb, hml, hown, hts⟩ (c_X4_cheapest l dC dI cI cD cR fo l1 l2 l3 sa lk ef le (raI lk ef j (raR lk ef r sa)) j (by first | omega | assumption | exact gnd _ | exact gkn _ | exact Nat.lt_trans (gkn _) (by decide) | exact Nat.lt_trans (gnd _) (by decide) | exact Nat.lt_of_le_of_lt (pcN_le _) (by decide)) glk gef (raI_lt lk ef (raR_lt lk ef hsa r) j (by omega)) (by first | omega | assumption | exact gnd _ | exact gkn _ | exact Nat.lt_trans (gkn _) (by decide) | exact Nat.lt_trans (gnd _) (by decide) | exact Nat.lt_of_le_of_lt (pcN_le _) (by decide))) (cwV 2 hts gX4_reachable_X4_cheapest rfl rfl rfl (by decide +kernel) ⟨Nat.le_of_ble_eq_true rfl, Nat.le_of_ble_eq_true rfl⟩) (preV_R hCX (va_recv hK hP (ci := 4) (q0 := 0) rfl rfl) (hP)) rfl rfl hl.1 rfl (lv_room (Nat.le_of_ble_eq_true rfl)) dX4_reachable_24 ⟨Nat.le_of_ble_eq_true (by first | rfl | decide), Nat.le_of_ble_eq_true (by first | rfl | decide)⟩).run) (fun r_24 hr_24 => ?_)
  subst hr_24
  cases hv_24 : chE lk ef (raI lk ef j (raR lk ef r sa)) j with
  | none =>
    refine ho_tope (y := (-1)) rfl ?_
    refine lv_iconst (v := (-1)) hx hb dX4_reachable_27 (by decide +kernel) ?_
    refine lv_icmp_eq (tgt := 38) hx hb dX4_reachable_28 (by decide) (fun _ => ?_) (fun z => absurd (by decide +kernel) z)
    refine ho_iinc (lv' := [(3, .int (nI (j + 1))), (2, .int (nI r)), (1, .int (nI (raI lk ef j (raR lk ef r sa)))), (0, .ref fo)]) (a := j) (b := 1) hx hb dX4_reachable_38 hl (k := 0) rfl rfl (by decide) rfl (fun ls hl => ?_)
    refine lv_goto (tgt := 15) hx hb dX4_reachable_41 (by decide) ?_
    have e9_1 : raI lk ef j (raR lk ef r sa) = raI lk ef (j + 1) (raR lk ef r sa) := by first | exact raI_n hv_24 | exact raI_s hv_24
    rw [e9_1] at hl
    exact ih15 (j + 1) _ (by omega) (show 9 - (j + 1) < fu15 from (by omega)) (lv_sub hl [0, 1, 2, 3] rfl)
  | some v_24 =>
    refine ho_tope (y := nI v_24) rfl ?_
    have hvb := chE_lt gef hv_24
    refine lv_iconst (v := (-1)) hx hb dX4_reachable_27 (by decide +kernel) ?_
    refine lv_icmp_eq (tgt := 38) hx hb dX4_reachable_28 (by decide) (fun z => absurd z (ng_ne (by omega) (by decide +kernel))) (fun _ => ?_)
    refine lv_iload_n hx hb dX4_reachable_31 rfl (lv_at hl 2 rfl) ?_
    refine lv_iload_n hx hb dX4_reachable_32 rfl (lv_at hl 0 rfl) ?_
    refine vp_callSi ((va_runSN (As := [.int (nI j)]) (rest := [.int (nI (raI lk ef j (raR lk ef r sa)))]) ⟨hx, hb, hml, hown, hts⟩ (c_X11_bit l dC dI cI cD cR j (by first | omega | assumption | exact gnd _ | exact gkn _ | exact Nat.lt_trans (gkn _) (by decide) | exact Nat.lt_trans (gnd _) (by decide) | exact Nat.lt_of_le_of_lt (pcN_le _) (by decide))) ⟨va_cnB (host := "HoldsOnceDenied") 1 hts gX4_reachable_X11_bit_n88 rfl rfl rfl (CX.nm hCX 11 rfl) (hts (.initialized RX11) (by decide +kernel)) (by decide +kernel) ⟨Nat.le_of_ble_eq_true rfl, Nat.le_of_ble_eq_true rfl⟩, (hts (.static yX11_bit) (by decide +kernel)), trivial⟩ (preS_R hCX (trivial)) rfl rfl hl.1 rfl (lv_room (Nat.le_of_ble_eq_true rfl)) dX4_reachable_33 ⟨Nat.le_of_ble_eq_true (by first | rfl | decide), Nat.le_of_ble_eq_true (by first | rfl | decide)⟩).run) (fun r_33 hr_33 => ?_)
    subst hr_33
    refine ho_ior hx hb dX4_reachable_36 ?_
    refine lv_istore_n (lv' := [(1, .int (nI ((raI lk ef j (raR lk ef r sa)) ||| (2 ^ j)))), (3, .int (nI j)), (2, .int (nI r)), (0, .ref fo)]) hx hb dX4_reachable_37 rfl hl (by decide) rfl (fun ls hl => ?_)
    refine ho_iinc (lv' := [(3, .int (nI (j + 1))), (1, .int (nI ((raI lk ef j (raR lk ef r sa)) ||| (2 ^ j)))), (2, .int (nI r)), (0, .ref fo)]) (a := j) (b := 1) hx hb dX4_reachable_38 hl (k := 1) rfl rfl (by decide) rfl (fun ls hl => ?_)
    refine lv_goto (tgt := 15) hx hb dX4_reachable_41 (by decide) ?_
    have e9_1 : (raI lk ef j (raR lk ef r sa)) ||| (2 ^ j) = raI lk ef (j + 1) (raR lk ef r sa) := by first | exact raI_n hv_24 | exact raI_s hv_24
    rw [e9_1] at hl
    exact ih15 (j + 1) _ (by omega) (show 9 - (j + 1) < fu15 from (by omega)) (lv_sub hl [0, 2, 1, 3] rfl)
set_option maxHeartbeats 4000000 in
set_option maxRecDepth 100000 in
theorem c_X4_leastFrom (l : Launch) (dC : Nat → ClassId) (dI : Nat → Nat → Nat) (cI cD cR : ClassId) (fo l1 l2 l3 sa : Nat) (lk : Nat → Option Nat) (ef : Nat → Nat) (le : Nat → Option Nat) (t : Nat) (b : Bool) (hsa : sa < 512) (glk : ∀ i v, lk i = some v → v < 512) (gef : ∀ i, ef i < 1000) (ht : t < 512) (gle : ∀ s e v, s < 9 → chE lk ef t s = some e → le (t ||| 2 ^ s) = some v → v < 1000000) : Met l yX4_leastFrom wsX4_leastFrom ({ frames := 2, cells := 0, slots := 0, locals := 45 }) (pcR dC dI cI cD cR [.ref fo, .int (nI t), .int (bI b)] (fun H => va_P (dC, dI) vwCl ((forW cI fo l1 l2 l3 sa lk ef le)) H)) (vp_Si (fun r => r = oI (lfF lk ef le b t 9))) 0 0 (fun _ => False) := by
  refine Met.ofW (cc := cX4_leastFrom) (maxL := 8) (ret := (some .int)) (by decide) rfl ?_
  intro p e s m args below meth c s₁ B hml hv
  obtain ⟨rfl, hH0, hCX⟩ := hv
  have hx := B.exec
  have hb := B.bytes
  have hr := B.returns
  have hts := atoms_spec (ws := wsX4_leastFrom) B.pre
  have hown : s.vm.findClass RX4 = some m.cls := findClass_of_methodNamed B.named
  have hlocks := B.notSynchronized
  have hK := hCX.1
  have hP := hH0
  have hl := lv_entry ([.ref fo, .int (nI t), .int (bI b)]) (n := 8) (Nat.le_of_ble_eq_true rfl)
  rw [lg_entry_eq]
  generalize (lg_sl ([.ref fo, .int (nI t), .int (bI b)]) ++ List.replicate (8 - (lg_sl ([.ref fo, .int (nI t), .int (bI b)])).length) Slot.unset).toArray = ls at hl ⊢
  have hl : lv_has ls 8 [(0, .ref fo), (1, .int (nI t)), (2, .int (bI b))] := hl
  refine lv_bipush (v := (-4)) hx hb dX4_leastFrom_0 (by decide +kernel) ?_
  refine lv_istore_n (lv' := [(3, .int (-4)), (0, .ref fo), (1, .int (nI t)), (2, .int (bI b))]) hx hb dX4_leastFrom_2 rfl hl (by decide) rfl (fun ls hl => ?_)
  refine lv_iconst (v := nI 0) hx hb dX4_leastFrom_3 (by decide +kernel) ?_
  refine lv_istore (lv' := [(4, .int (nI 0)), (3, .int (-4)), (0, .ref fo), (1, .int (nI t)), (2, .int (bI b))]) hx hb dX4_leastFrom_4 hl (by decide) rfl (fun ls hl => ?_)
  have e9_3 : ((-4) : Int32) = oI (lfF lk ef le b t 0) := by rfl
  rw [e9_3] at hl
  refine ho_lp (T := Nat) 8 (fun x9 => [(4, .int (nI x9)), (3, .int (oI (lfF lk ef le b t x9))), (0, .ref fo), (1, .int (nI t)), (2, .int (bI b))]) (fun x9 => []) (fun x9 => (x9 ≤ 9)) (fun x9 => 9 - x9) 0 (by omega) (lv_sub hl [0, 1, 2, 3, 4] rfl) ?_
  intro fu6 k ls hI hm6 hl ih
  have hk := hI
  have hl : lv_has ls 8 [(4, .int (nI k)), (3, .int (oI (lfF lk ef le b t k))), (0, .ref fo), (1, .int (nI t)), (2, .int (bI b))] := hl
  have hk : k ≤ 9 := hk
  have hm6 : 9 - k < fu6 + 1 := hm6
  refine W.eq (g2 := F0 m 6 ls []) rfl ?_
  have ih6 := ih
  refine lv_iload hx hb dX4_leastFrom_6 (lv_at hl 0 rfl) ?_
  refine lv_bipush (v := nI 9) hx hb dX4_leastFrom_8 (by decide +kernel) ?_
  refine ho_icmp_ge (tgt := 87) hx hb dX4_leastFrom_10 (by decide) (by omega) (by omega) (fun c_10 => ?_) (fun c_10 => ?_)
  · refine lv_iload_n hx hb dX4_leastFrom_87 rfl (lv_at hl 1 rfl) ?_
    exact W.iret (v := oI (lfF lk ef le b t k)) hx hb hr (fun T9 hT9 hW9 => ⟨_, rfl, (by rw [show k = 9 by omega]), hT9⟩) (fun q h => by cases h) dX4_leastFrom_88
  refine lv_aload_n hx hb dX4_leastFrom_13 rfl (lv_at hl 2 rfl) ?_
  refine lv_iload_n hx hb dX4_leastFrom_14 rfl (lv_at hl 3 rfl) ?_
  refine lv_iload hx hb dX4_leastFrom_15 (lv_at hl 0 rfl) ?_
  refine vp_callSi ((va_runV (As := [.int (nI t), .int (nI k)]) (rest := []) ⟨hx, hb, hml, hown, hts⟩ (c_X4_cheapest l dC dI cI cD cR fo l1 l2 l3 sa lk ef le t k (by first | omega | assumption | exact gnd _ | exact gkn _ | exact Nat.lt_trans (gkn _) (by decide) | exact Nat.lt_trans (gnd _) (by decide) | exact Nat.lt_of_le_of_lt (pcN_le _) (by decide)) glk gef (by first | omega | assumption | exact gnd _ | exact gkn _ | exact Nat.lt_trans (gkn _) (by decide) | exact Nat.lt_trans (gnd _) (by decide) | exact Nat.lt_of_le_of_lt (pcN_le _) (by decide)) (by first | omega | assumption | exact gnd _ | exact gkn _ | exact Nat.lt_trans (gkn _) (by decide) | exact Nat.lt_trans (gnd _) (by decide) | exact Nat.lt_of_le_of_lt (pcN_le _) (by decide))) (cwV 2 hts gX4_leastFrom_X4_cheapest rfl rfl rfl (by decide +kernel) ⟨Nat.le_of_ble_eq_true rfl, Nat.le_of_ble_eq_true rfl⟩) (preV_R hCX (va_recv hK hP (ci := 4) (q0 := 0) rfl rfl) (hP)) rfl rfl hl.1 rfl (lv_room (Nat.le_of_ble_eq_true rfl)) dX4_leastFrom_17 ⟨Nat.le_of_ble_eq_true (by first | rfl | decide), Nat.le_of_ble_eq_true (by first | rfl | decide)⟩).run) (fun r_17 hr_17 => ?_)
  subst hr_17
  cases hv_17 : chE lk ef t k with
  | none =>
    refine ho_tope (y := (-1)) rfl ?_
    refine lv_istore (lv' := [(5, .int (-1)), (4, .int (nI k)), (3, .int (oI (lfF lk ef le b t k))), (0, .ref fo), (1, .int (nI t)), (2, .int (bI b))]) hx hb dX4_leastFrom_20 hl (by decide) rfl (fun ls hl => ?_)
    refine lv_aload_n hx hb dX4_leastFrom_22 rfl (lv_at hl 3 rfl) ?_
    refine lv_iload_n hx hb dX4_leastFrom_23 rfl (lv_at hl 4 rfl) ?_
    refine lv_iload hx hb dX4_leastFrom_24 (lv_at hl 1 rfl) ?_
    refine vp_callSi ((va_runSN (As := [.int (nI k)]) (rest := [.int (nI t), .ref fo]) ⟨hx, hb, hml, hown, hts⟩ (c_X11_bit l dC dI cI cD cR k (by first | omega | assumption | exact gnd _ | exact gkn _ | exact Nat.lt_trans (gkn _) (by decide) | exact Nat.lt_trans (gnd _) (by decide) | exact Nat.lt_of_le_of_lt (pcN_le _) (by decide))) ⟨va_cnB (host := "HoldsOnceDenied") 1 hts gX4_leastFrom_X11_bit_n88 rfl rfl rfl (CX.nm hCX 11 rfl) (hts (.initialized RX11) (by decide +kernel)) (by decide +kernel) ⟨Nat.le_of_ble_eq_true rfl, Nat.le_of_ble_eq_true rfl⟩, (hts (.static yX11_bit) (by decide +kernel)), trivial⟩ (preS_R hCX (trivial)) rfl rfl hl.1 rfl (lv_room (Nat.le_of_ble_eq_true rfl)) dX4_leastFrom_26 ⟨Nat.le_of_ble_eq_true (by first | rfl | decide), Nat.le_of_ble_eq_true (by first | rfl | decide)⟩).run) (fun r_26 hr_26 => ?_)
    subst hr_26
    refine ho_ior hx hb dX4_leastFrom_29 ?_
    refine vp_callSi ((va_runV (As := [.int (nI (t ||| (2 ^ k)))]) (rest := []) ⟨hx, hb, hml, hown, hts⟩ (c_X4_leastOf l dC dI cI cD cR fo l1 l2 l3 sa lk ef le (t ||| (2 ^ k)) (by first | omega | assumption | exact gnd _ | exact gkn _ | exact Nat.lt_trans (gkn _) (by decide) | exact Nat.lt_trans (gnd _) (by decide) | exact Nat.lt_of_le_of_lt (pcN_le _) (by decide)) glk gef (or_512 ht (bit_512 (by omega)))) (cwV 1 hts gX4_leastFrom_X4_leastOf rfl rfl rfl (by decide +kernel) ⟨Nat.le_of_ble_eq_true rfl, Nat.le_of_ble_eq_true rfl⟩) (preV_R hCX (va_recv hK hP (ci := 4) (q0 := 0) rfl rfl) (hP)) rfl rfl hl.1 rfl (lv_room (Nat.le_of_ble_eq_true rfl)) dX4_leastFrom_30 ⟨Nat.le_of_ble_eq_true (by first | rfl | decide), Nat.le_of_ble_eq_true (by first | rfl | decide)⟩).run) (fun r_30 hr_30 => ?_)
    subst hr_30
    cases hv_30 : le (t ||| (2 ^ k)) with
    | none =>
      refine ho_tope (y := (-4)) rfl ?_
      refine lv_istore (lv' := [(6, .int (-4)), (5, .int (-1)), (4, .int (nI k)), (3, .int (oI (lfF lk ef le b t k))), (0, .ref fo), (1, .int (nI t)), (2, .int (bI b))]) hx hb dX4_leastFrom_33 hl (by decide) rfl (fun ls hl => ?_)
      refine lv_iload hx hb dX4_leastFrom_35 (lv_at hl 1 rfl) ?_
      refine lv_iconst (v := (-1)) hx hb dX4_leastFrom_37 (by decide +kernel) ?_
      refine lv_icmp_eq (tgt := 81) hx hb dX4_leastFrom_38 (by decide) (fun _ => ?_) (fun z => absurd (by decide +kernel) z)
      refine ho_iinc (lv' := [(4, .int (nI (k + 1))), (6, .int (-4)), (5, .int (-1)), (3, .int (oI (lfF lk ef le b t k))), (0, .ref fo), (1, .int (nI t)), (2, .int (bI b))]) (a := k) (b := 1) hx hb dX4_leastFrom_81 hl (k := 2) rfl rfl (by decide) rfl (fun ls hl => ?_)
      refine lv_goto (tgt := 6) hx hb dX4_leastFrom_84 (by decide) ?_
      have e9_3 : (oI (lfF lk ef le b t k) : Int32) = oI (lfF lk ef le b t (k + 1)) := by first | exact congrArg oI (lfF_n hv_17) | exact congrArg oI (lfF_m hv_17 hv_30) | exact congrArg oI (lfF_0 hv_17 hv_30 (by rw [c_54]; rfl) hq_66) | exact congrArg oI (lfF_l hv_17 hv_30 (by rw [c_54]; rfl) hq_66 c_75) | exact congrArg oI (lfF_g hv_17 hv_30 (by rw [c_54]; rfl) hq_66 c_75)
      rw [e9_3] at hl
      exact ih6 (k + 1) _ (by omega) (show 9 - (k + 1) < fu6 from (by omega)) (lv_sub hl [0, 3, 4, 5, 6] rfl)
    | some v_30 =>
      refine ho_tope (y := nI v_30) rfl ?_
      try have hvc := gle _ _ _ (by omega) hv_17 hv_30
      refine lv_istore (lv' := [(6, .int (nI v_30)), (5, .int (-1)), (4, .int (nI k)), (3, .int (oI (lfF lk ef le b t k))), (0, .ref fo), (1, .int (nI t)), (2, .int (bI b))]) hx hb dX4_leastFrom_33 hl (by decide) rfl (fun ls hl => ?_)
      refine lv_iload hx hb dX4_leastFrom_35 (lv_at hl 1 rfl) ?_
      refine lv_iconst (v := (-1)) hx hb dX4_leastFrom_37 (by decide +kernel) ?_
      refine lv_icmp_eq (tgt := 81) hx hb dX4_leastFrom_38 (by decide) (fun _ => ?_) (fun z => absurd (by decide +kernel) z)
      refine ho_iinc (lv' := [(4, .int (nI (k + 1))), (6, .int (nI v_30)), (5, .int (-1)), (3, .int (oI (lfF lk ef le b t k))), (0, .ref fo), (1, .int (nI t)), (2, .int (bI b))]) (a := k) (b := 1) hx hb dX4_leastFrom_81 hl (k := 2) rfl rfl (by decide) rfl (fun ls hl => ?_)
      refine lv_goto (tgt := 6) hx hb dX4_leastFrom_84 (by decide) ?_
      have e9_3 : (oI (lfF lk ef le b t k) : Int32) = oI (lfF lk ef le b t (k + 1)) := by first | exact congrArg oI (lfF_n hv_17) | exact congrArg oI (lfF_m hv_17 hv_30) | exact congrArg oI (lfF_0 hv_17 hv_30 (by rw [c_54]; rfl) hq_66) | exact congrArg oI (lfF_l hv_17 hv_30 (by rw [c_54]; rfl) hq_66 c_75) | exact congrArg oI (lfF_g hv_17 hv_30 (by rw [c_54]; rfl) hq_66 c_75)
      rw [e9_3] at hl
      exact ih6 (k + 1) _ (by omega) (show 9 - (k + 1) < fu6 from (by omega)) (lv_sub hl [0, 3, 4, 5, 6] rfl)
  | some v_17 =>
    refine ho_tope (y := nI v_17) rfl ?_
    have hvb := chE_lt gef hv_17
    refine lv_istore (lv' := [(5, .int (nI v_17)), (4, .int (nI k)), (3, .int (oI (lfF lk ef le b t k))), (0, .ref fo), (1, .int (nI t)), (2, .int (bI b))]) hx hb dX4_leastFrom_20 hl (by decide) rfl (fun ls hl => ?_)
    refine lv_aload_n hx hb dX4_leastFrom_22 rfl (lv_at hl 3 rfl) ?_
    refine lv_iload_n hx hb dX4_leastFrom_23 rfl (lv_at hl 4 rfl) ?_
    refine lv_iload hx hb dX4_leastFrom_24 (lv_at hl 1 rfl) ?_
    refine vp_callSi ((va_runSN (As := [.int (nI k)]) (rest := [.int (nI t), .ref fo]) ⟨hx, hb, hml, hown, hts⟩ (c_X11_bit l dC dI cI cD cR k (by first | omega | assumption | exact gnd _ | exact gkn _ | exact Nat.lt_trans (gkn _) (by decide) | exact Nat.lt_trans (gnd _) (by decide) | exact Nat.lt_of_le_of_lt (pcN_le _) (by decide))) ⟨va_cnB (host := "HoldsOnceDenied") 1 hts gX4_leastFrom_X11_bit_n88 rfl rfl rfl (CX.nm hCX 11 rfl) (hts (.initialized RX11) (by decide +kernel)) (by decide +kernel) ⟨Nat.le_of_ble_eq_true rfl, Nat.le_of_ble_eq_true rfl⟩, (hts (.static yX11_bit) (by decide +kernel)), trivial⟩ (preS_R hCX (trivial)) rfl rfl hl.1 rfl (lv_room (Nat.le_of_ble_eq_true rfl)) dX4_leastFrom_26 ⟨Nat.le_of_ble_eq_true (by first | rfl | decide), Nat.le_of_ble_eq_true (by first | rfl | decide)⟩).run) (fun r_26 hr_26 => ?_)
    subst hr_26
    refine ho_ior hx hb dX4_leastFrom_29 ?_
    refine vp_callSi ((va_runV (As := [.int (nI (t ||| (2 ^ k)))]) (rest := []) ⟨hx, hb, hml, hown, hts⟩ (c_X4_leastOf l dC dI cI cD cR fo l1 l2 l3 sa lk ef le (t ||| (2 ^ k)) (by first | omega | assumption | exact gnd _ | exact gkn _ | exact Nat.lt_trans (gkn _) (by decide) | exact Nat.lt_trans (gnd _) (by decide) | exact Nat.lt_of_le_of_lt (pcN_le _) (by decide)) glk gef (or_512 ht (bit_512 (by omega)))) (cwV 1 hts gX4_leastFrom_X4_leastOf rfl rfl rfl (by decide +kernel) ⟨Nat.le_of_ble_eq_true rfl, Nat.le_of_ble_eq_true rfl⟩) (preV_R hCX (va_recv hK hP (ci := 4) (q0 := 0) rfl rfl) (hP)) rfl rfl hl.1 rfl (lv_room (Nat.le_of_ble_eq_true rfl)) dX4_leastFrom_30 ⟨Nat.le_of_ble_eq_true (by first | rfl | decide), Nat.le_of_ble_eq_true (by first | rfl | decide)⟩).run) (fun r_30 hr_30 => ?_)
    subst hr_30
    cases hv_30 : le (t ||| (2 ^ k)) with
    | none =>
      refine ho_tope (y := (-4)) rfl ?_
      refine lv_istore (lv' := [(6, .int (-4)), (5, .int (nI v_17)), (4, .int (nI k)), (3, .int (oI (lfF lk ef le b t k))), (0, .ref fo), (1, .int (nI t)), (2, .int (bI b))]) hx hb dX4_leastFrom_33 hl (by decide) rfl (fun ls hl => ?_)
      refine lv_iload hx hb dX4_leastFrom_35 (lv_at hl 1 rfl) ?_
      refine lv_iconst (v := (-1)) hx hb dX4_leastFrom_37 (by decide +kernel) ?_
      refine lv_icmp_eq (tgt := 81) hx hb dX4_leastFrom_38 (by decide) (fun z => absurd z (ng_ne (by omega) (by decide +kernel))) (fun _ => ?_)
      refine lv_iload hx hb dX4_leastFrom_41 (lv_at hl 0 rfl) ?_
      refine lv_bipush (v := (-4)) hx hb dX4_leastFrom_43 (by decide +kernel) ?_
      refine lv_icmp_ne (tgt := 51) hx hb dX4_leastFrom_45 (by decide) (fun z => absurd z (by decide +kernel)) (fun _ => ?_)
      refine lv_goto (tgt := 81) hx hb dX4_leastFrom_48 (by decide) ?_
      refine ho_iinc (lv' := [(4, .int (nI (k + 1))), (6, .int (-4)), (5, .int (nI v_17)), (3, .int (oI (lfF lk ef le b t k))), (0, .ref fo), (1, .int (nI t)), (2, .int (bI b))]) (a := k) (b := 1) hx hb dX4_leastFrom_81 hl (k := 2) rfl rfl (by decide) rfl (fun ls hl => ?_)
      refine lv_goto (tgt := 6) hx hb dX4_leastFrom_84 (by decide) ?_
      have e9_3 : (oI (lfF lk ef le b t k) : Int32) = oI (lfF lk ef le b t (k + 1)) := by first | exact congrArg oI (lfF_n hv_17) | exact congrArg oI (lfF_m hv_17 hv_30) | exact congrArg oI (lfF_0 hv_17 hv_30 (by rw [c_54]; rfl) hq_66) | exact congrArg oI (lfF_l hv_17 hv_30 (by rw [c_54]; rfl) hq_66 c_75) | exact congrArg oI (lfF_g hv_17 hv_30 (by rw [c_54]; rfl) hq_66 c_75)
      rw [e9_3] at hl
      exact ih6 (k + 1) _ (by omega) (show 9 - (k + 1) < fu6 from (by omega)) (lv_sub hl [0, 3, 4, 5, 6] rfl)
    | some v_30 =>
      refine ho_tope (y := nI v_30) rfl ?_
      try have hvc := gle _ _ _ (by omega) hv_17 hv_30
      refine lv_istore (lv' := [(6, .int (nI v_30)), (5, .int (nI v_17)), (4, .int (nI k)), (3, .int (oI (lfF lk ef le b t k))), (0, .ref fo), (1, .int (nI t)), (2, .int (bI b))]) hx hb dX4_leastFrom_33 hl (by decide) rfl (fun ls hl => ?_)
      refine lv_iload hx hb dX4_leastFrom_35 (lv_at hl 1 rfl) ?_
      refine lv_iconst (v := (-1)) hx hb dX4_leastFrom_37 (by decide +kernel) ?_
      refine lv_icmp_eq (tgt := 81) hx hb dX4_leastFrom_38 (by decide) (fun z => absurd z (ng_ne (by omega) (by decide +kernel))) (fun _ => ?_)
      refine lv_iload hx hb dX4_leastFrom_41 (lv_at hl 0 rfl) ?_
      refine lv_bipush (v := (-4)) hx hb dX4_leastFrom_43 (by decide +kernel) ?_
      refine lv_icmp_ne (tgt := 51) hx hb dX4_leastFrom_45 (by decide) (fun _ => ?_) (fun z => absurd z (ng_ne (by omega) (by decide +kernel)))
      refine lv_iload hx hb dX4_leastFrom_51 (lv_at hl 0 rfl) ?_
      refine lv_iload_n hx hb dX4_leastFrom_53 rfl (lv_at hl 6 rfl) ?_
      refine ho_beq (tgt := 62) hx hb dX4_leastFrom_54 (by decide) (fun c_54 => ?_) (fun c_54 => ?_)
      · refine lv_iconst (v := nI 1) hx hb dX4_leastFrom_62 (by decide +kernel) ?_
        refine ho_iadd hx hb dX4_leastFrom_63 ?_
        refine lv_istore (lv' := [(7, .int (nI (v_30 + 1))), (6, .int (nI v_30)), (5, .int (nI v_17)), (4, .int (nI k)), (3, .int (oI (lfF lk ef le b t k))), (0, .ref fo), (1, .int (nI t)), (2, .int (bI b))]) hx hb dX4_leastFrom_64 hl (by decide) rfl (fun ls hl => ?_)
        obtain ⟨q_66, hq_66⟩ : ∃ y, y = lfF lk ef le b t k := ⟨_, rfl⟩
        rw [← hq_66] at hl
        cases q_66 with
        | none =>
          have hl : lv_has ls 8 [(7, .int (nI (v_30 + 1))), (6, .int (nI v_30)), (5, .int (nI v_17)), (4, .int (nI k)), (3, .int (-4)), (0, .ref fo), (1, .int (nI t)), (2, .int (bI b))] := hl
          have hq_66 := hq_66.symm
          refine lv_iload_n hx hb dX4_leastFrom_66 rfl (lv_at hl 4 rfl) ?_
          refine lv_bipush (v := (-4)) hx hb dX4_leastFrom_67 (by decide +kernel) ?_
          refine lv_icmp_eq (tgt := 78) hx hb dX4_leastFrom_69 (by decide) (fun _ => ?_) (fun z => absurd (by decide +kernel) z)
          refine lv_iload hx hb dX4_leastFrom_78 (lv_at hl 0 rfl) ?_
          refine lv_istore_n (lv' := [(3, .int (nI (v_30 + 1))), (7, .int (nI (v_30 + 1))), (6, .int (nI v_30)), (5, .int (nI v_17)), (4, .int (nI k)), (0, .ref fo), (1, .int (nI t)), (2, .int (bI b))]) hx hb dX4_leastFrom_80 rfl hl (by decide) rfl (fun ls hl => ?_)
          refine ho_iinc (lv' := [(4, .int (nI (k + 1))), (3, .int (nI (v_30 + 1))), (7, .int (nI (v_30 + 1))), (6, .int (nI v_30)), (5, .int (nI v_17)), (0, .ref fo), (1, .int (nI t)), (2, .int (bI b))]) (a := k) (b := 1) hx hb dX4_leastFrom_81 hl (k := 4) rfl rfl (by decide) rfl (fun ls hl => ?_)
          refine lv_goto (tgt := 6) hx hb dX4_leastFrom_84 (by decide) ?_
          have e9_3 : (nI (v_30 + 1) : Int32) = oI (lfF lk ef le b t (k + 1)) := by first | exact congrArg oI (lfF_n hv_17) | exact congrArg oI (lfF_m hv_17 hv_30) | exact congrArg oI (lfF_0 hv_17 hv_30 (by rw [c_54]; rfl) hq_66) | exact congrArg oI (lfF_l hv_17 hv_30 (by rw [c_54]; rfl) hq_66 c_75) | exact congrArg oI (lfF_g hv_17 hv_30 (by rw [c_54]; rfl) hq_66 c_75)
          rw [e9_3] at hl
          exact ih6 (k + 1) _ (by omega) (show 9 - (k + 1) < fu6 from (by omega)) (lv_sub hl [0, 1, 5, 6, 7] rfl)
        | some vq_66 =>
          have hl : lv_has ls 8 [(7, .int (nI (v_30 + 1))), (6, .int (nI v_30)), (5, .int (nI v_17)), (4, .int (nI k)), (3, .int (nI vq_66)), (0, .ref fo), (1, .int (nI t)), (2, .int (bI b))] := hl
          have hq_66 := hq_66.symm
          have hbb := lfF_ltB gef k (by omega) gle _ hq_66
          refine lv_iload_n hx hb dX4_leastFrom_66 rfl (lv_at hl 4 rfl) ?_
          refine lv_bipush (v := (-4)) hx hb dX4_leastFrom_67 (by decide +kernel) ?_
          refine lv_icmp_eq (tgt := 78) hx hb dX4_leastFrom_69 (by decide) (fun z => absurd z (ng_ne (by omega) (by decide +kernel))) (fun _ => ?_)
          refine lv_iload hx hb dX4_leastFrom_72 (lv_at hl 0 rfl) ?_
          refine lv_iload_n hx hb dX4_leastFrom_74 rfl (lv_at hl 4 rfl) ?_
          refine ho_icmp_ge (tgt := 81) hx hb dX4_leastFrom_75 (by decide) (by omega) (by omega) (fun c_75 => ?_) (fun c_75 => ?_)
          · refine ho_iinc (lv' := [(4, .int (nI (k + 1))), (7, .int (nI (v_30 + 1))), (6, .int (nI v_30)), (5, .int (nI v_17)), (3, .int (nI vq_66)), (0, .ref fo), (1, .int (nI t)), (2, .int (bI b))]) (a := k) (b := 1) hx hb dX4_leastFrom_81 hl (k := 3) rfl rfl (by decide) rfl (fun ls hl => ?_)
            refine lv_goto (tgt := 6) hx hb dX4_leastFrom_84 (by decide) ?_
            have e9_3 : (nI vq_66 : Int32) = oI (lfF lk ef le b t (k + 1)) := by first | exact congrArg oI (lfF_n hv_17) | exact congrArg oI (lfF_m hv_17 hv_30) | exact congrArg oI (lfF_0 hv_17 hv_30 (by rw [c_54]; rfl) hq_66) | exact congrArg oI (lfF_l hv_17 hv_30 (by rw [c_54]; rfl) hq_66 c_75) | exact congrArg oI (lfF_g hv_17 hv_30 (by rw [c_54]; rfl) hq_66 c_75)
            rw [e9_3] at hl
            exact ih6 (k + 1) _ (by omega) (show 9 - (k + 1) < fu6 from (by omega)) (lv_sub hl [0, 4, 5, 6, 7] rfl)
          refine lv_iload hx hb dX4_leastFrom_78 (lv_at hl 0 rfl) ?_
          refine lv_istore_n (lv' := [(3, .int (nI (v_30 + 1))), (7, .int (nI (v_30 + 1))), (6, .int (nI v_30)), (5, .int (nI v_17)), (4, .int (nI k)), (0, .ref fo), (1, .int (nI t)), (2, .int (bI b))]) hx hb dX4_leastFrom_80 rfl hl (by decide) rfl (fun ls hl => ?_)
          refine ho_iinc (lv' := [(4, .int (nI (k + 1))), (3, .int (nI (v_30 + 1))), (7, .int (nI (v_30 + 1))), (6, .int (nI v_30)), (5, .int (nI v_17)), (0, .ref fo), (1, .int (nI t)), (2, .int (bI b))]) (a := k) (b := 1) hx hb dX4_leastFrom_81 hl (k := 4) rfl rfl (by decide) rfl (fun ls hl => ?_)
          refine lv_goto (tgt := 6) hx hb dX4_leastFrom_84 (by decide) ?_
          have e9_3 : (nI (v_30 + 1) : Int32) = oI (lfF lk ef le b t (k + 1)) := by first | exact congrArg oI (lfF_n hv_17) | exact congrArg oI (lfF_m hv_17 hv_30) | exact congrArg oI (lfF_0 hv_17 hv_30 (by rw [c_54]; rfl) hq_66) | exact congrArg oI (lfF_l hv_17 hv_30 (by rw [c_54]; rfl) hq_66 c_75) | exact congrArg oI (lfF_g hv_17 hv_30 (by rw [c_54]; rfl) hq_66 c_75)
          rw [e9_3] at hl
          exact ih6 (k + 1) _ (by omega) (show 9 - (k + 1) < fu6 from (by omega)) (lv_sub hl [0, 1, 5, 6, 7] rfl)
      refine lv_iload hx hb dX4_leastFrom_57 (lv_at hl 1 rfl) ?_
      refine lv_goto (tgt := 63) hx hb dX4_leastFrom_59 (by decide) ?_
      refine ho_iadd hx hb dX4_leastFrom_63 ?_
      refine lv_istore (lv' := [(7, .int (nI (v_30 + v_17))), (6, .int (nI v_30)), (5, .int (nI v_17)), (4, .int (nI k)), (3, .int (oI (lfF lk ef le b t k))), (0, .ref fo), (1, .int (nI t)), (2, .int (bI b))]) hx hb dX4_leastFrom_64 hl (by decide) rfl (fun ls hl => ?_)
      obtain ⟨q_66, hq_66⟩ : ∃ y, y = lfF lk ef le b t k := ⟨_, rfl⟩
      rw [← hq_66] at hl
      cases q_66 with
      | none =>
        have hl : lv_has ls 8 [(7, .int (nI (v_30 + v_17))), (6, .int (nI v_30)), (5, .int (nI v_17)), (4, .int (nI k)), (3, .int (-4)), (0, .ref fo), (1, .int (nI t)), (2, .int (bI b))] := hl
        have hq_66 := hq_66.symm
        refine lv_iload_n hx hb dX4_leastFrom_66 rfl (lv_at hl 4 rfl) ?_
        refine lv_bipush (v := (-4)) hx hb dX4_leastFrom_67 (by decide +kernel) ?_
        refine lv_icmp_eq (tgt := 78) hx hb dX4_leastFrom_69 (by decide) (fun _ => ?_) (fun z => absurd (by decide +kernel) z)
        refine lv_iload hx hb dX4_leastFrom_78 (lv_at hl 0 rfl) ?_
        refine lv_istore_n (lv' := [(3, .int (nI (v_30 + v_17))), (7, .int (nI (v_30 + v_17))), (6, .int (nI v_30)), (5, .int (nI v_17)), (4, .int (nI k)), (0, .ref fo), (1, .int (nI t)), (2, .int (bI b))]) hx hb dX4_leastFrom_80 rfl hl (by decide) rfl (fun ls hl => ?_)
        refine ho_iinc (lv' := [(4, .int (nI (k + 1))), (3, .int (nI (v_30 + v_17))), (7, .int (nI (v_30 + v_17))), (6, .int (nI v_30)), (5, .int (nI v_17)), (0, .ref fo), (1, .int (nI t)), (2, .int (bI b))]) (a := k) (b := 1) hx hb dX4_leastFrom_81 hl (k := 4) rfl rfl (by decide) rfl (fun ls hl => ?_)
        refine lv_goto (tgt := 6) hx hb dX4_leastFrom_84 (by decide) ?_
        have e9_3 : (nI (v_30 + v_17) : Int32) = oI (lfF lk ef le b t (k + 1)) := by first | exact congrArg oI (lfF_n hv_17) | exact congrArg oI (lfF_m hv_17 hv_30) | exact congrArg oI (lfF_0 hv_17 hv_30 (by rw [c_54]; rfl) hq_66) | exact congrArg oI (lfF_l hv_17 hv_30 (by rw [c_54]; rfl) hq_66 c_75) | exact congrArg oI (lfF_g hv_17 hv_30 (by rw [c_54]; rfl) hq_66 c_75)
        rw [e9_3] at hl
        exact ih6 (k + 1) _ (by omega) (show 9 - (k + 1) < fu6 from (by omega)) (lv_sub hl [0, 1, 5, 6, 7] rfl)
      | some vq_66 =>
        have hl : lv_has ls 8 [(7, .int (nI (v_30 + v_17))), (6, .int (nI v_30)), (5, .int (nI v_17)), (4, .int (nI k)), (3, .int (nI vq_66)), (0, .ref fo), (1, .int (nI t)), (2, .int (bI b))] := hl
        have hq_66 := hq_66.symm
        have hbb := lfF_ltB gef k (by omega) gle _ hq_66
        refine lv_iload_n hx hb dX4_leastFrom_66 rfl (lv_at hl 4 rfl) ?_
        refine lv_bipush (v := (-4)) hx hb dX4_leastFrom_67 (by decide +kernel) ?_
        refine lv_icmp_eq (tgt := 78) hx hb dX4_leastFrom_69 (by decide) (fun z => absurd z (ng_ne (by omega) (by decide +kernel))) (fun _ => ?_)
        refine lv_iload hx hb dX4_leastFrom_72 (lv_at hl 0 rfl) ?_
        refine lv_iload_n hx hb dX4_leastFrom_74 rfl (lv_at hl 4 rfl) ?_
        refine ho_icmp_ge (tgt := 81) hx hb dX4_leastFrom_75 (by decide) (by omega) (by omega) (fun c_75 => ?_) (fun c_75 => ?_)
        · refine ho_iinc (lv' := [(4, .int (nI (k + 1))), (7, .int (nI (v_30 + v_17))), (6, .int (nI v_30)), (5, .int (nI v_17)), (3, .int (nI vq_66)), (0, .ref fo), (1, .int (nI t)), (2, .int (bI b))]) (a := k) (b := 1) hx hb dX4_leastFrom_81 hl (k := 3) rfl rfl (by decide) rfl (fun ls hl => ?_)
          refine lv_goto (tgt := 6) hx hb dX4_leastFrom_84 (by decide) ?_
          have e9_3 : (nI vq_66 : Int32) = oI (lfF lk ef le b t (k + 1)) := by first | exact congrArg oI (lfF_n hv_17) | exact congrArg oI (lfF_m hv_17 hv_30) | exact congrArg oI (lfF_0 hv_17 hv_30 (by rw [c_54]; rfl) hq_66) | exact congrArg oI (lfF_l hv_17 hv_30 (by rw [c_54]; rfl) hq_66 c_75) | exact congrArg oI (lfF_g hv_17 hv_30 (by rw [c_54]; rfl) hq_66 c_75)
          rw [e9_3] at hl
          exact ih6 (k + 1) _ (by omega) (show 9 - (k + 1) < fu6 from (by omega)) (lv_sub hl [0, 4, 5, 6, 7] rfl)
        refine lv_iload hx hb dX4_leastFrom_78 (lv_at hl 0 rfl) ?_
        refine lv_istore_n (lv' := [(3, .int (nI (v_30 + v_17))), (7, .int (nI (v_30 + v_17))), (6, .int (nI v_30)), (5, .int (nI v_17)), (4, .int (nI k)), (0, .ref fo), (1, .int (nI t)), (2, .int (bI b))]) hx hb dX4_leastFrom_80 rfl hl (by decide) rfl (fun ls hl => ?_)
        refine ho_iinc (lv' := [(4, .int (nI (k + 1))), (3, .int (nI (v_30 + v_17))), (7, .int (nI (v_30 + v_17))), (6, .int (nI v_30)), (5, .int (nI v_17)), (0, .ref fo), (1, .int (nI t)), (2, .int (bI b))]) (a := k) (b := 1) hx hb dX4_leastFrom_81 hl (k := 4) rfl rfl (by decide) rfl (fun ls hl => ?_)
        refine lv_goto (tgt := 6) hx hb dX4_leastFrom_84 (by decide) ?_
        have e9_3 : (nI (v_30 + v_17) : Int32) = oI (lfF lk ef le b t (k + 1)) := by first | exact congrArg oI (lfF_n hv_17) | exact congrArg oI (lfF_m hv_17 hv_30) | exact congrArg oI (lfF_0 hv_17 hv_30 (by rw [c_54]; rfl) hq_66) | exact congrArg oI (lfF_l hv_17 hv_30 (by rw [c_54]; rfl) hq_66 c_75) | exact congrArg oI (lfF_g hv_17 hv_30 (by rw [c_54]; rfl) hq_66 c_75)
        rw [e9_3] at hl
        exact ih6 (k + 1) _ (by omega) (show 9 - (k + 1) < fu6 from (by omega)) (lv_sub hl [0, 1, 5, 6, 7] rfl)
