set_option maxHeartbeats 4000000 in
set_option maxRecDepth 100000 in
theorem c_X11_tell_x0 (l : Launch) (dC : Nat → ClassId) (dI : Nat → Nat → Nat) (cI cD cR : ClassId) (h a1 a2 a3 a4 a5 n d t al day : Nat) (nd : Nat → Nat) (mk si : Nat → Int32) (kn : Nat → Nat) (mb : Nat → Option Nat) (r rq so z : Nat) (f : Nat → Int32) (p9 : Nat) (a : Nat) (b : Nat) (DL : List Nat) (kd fg : Nat → Nat) (sz : Nat) (hn : n ≤ 9) (hd : d ≤ 6) (ht : t < 512) (hal : al < 64) (gnd : ∀ i, nd i < 512) (gkn : ∀ j, kn j < 512) (hday : day + 1 < 2 ^ 30) (hso : so < 3) (hz : z ≤ 100) (hc : atR z f p9 = nI 120) (hp9 : p9 < 1000) (h1 : dgO (atR z f (p9 + 1)) = some a) (ha : a < 10) (h2 : dgO (atR z f (p9 + 2)) = some b) (hb9 : b < 10) (hc9 : alB n al t kn nd mb kd fg a b = false) (gmb : ∀ j a, mb j = some a → a ∈ DL) (gro : ∀ a ∈ DL, ¬ va_A ((schW cI cD h a1 a2 a3 a4 a5 n d t al day nd mk si kn mb) ++ [(r, .inr (8, [.int (nI so), .ref rq])), (rq, .inl (cI, z, .inl f))]) sz a) : Met l yX11_tell wsX11_tell ({ frames := 5, cells := 0, slots := 0, locals := 116 }) (pcR dC dI cI cD cR [.ref h, .ref r, .int (nI p9)] (fun H => H.size = sz ∧ va_P (dC, dI) vwCl ((schW cI cD h a1 a2 a3 a4 a5 n d t al day nd mk si kn mb) ++ [(r, .inr (8, [.int (nI so), .ref rq])), (rq, .inl (cI, z, .inl f))]) H ∧ va_D (fun _ => True) ((schW cI cD h a1 a2 a3 a4 a5 n d t al day nd mk si kn mb) ++ [(r, .inr (8, [.int (nI so), .ref rq])), (rq, .inl (cI, z, .inl f))]) ∧ DP dC dI DL kd fg H)) (va_Qi (fun r (_ : Unit) => r = bI false) (fun (_ : Unit) T9 => va_P (dC, dI) vwCl ((schW cI cD h a1 a2 a3 a4 a5 n d t al day nd mk si kn mb) ++ [(r, .inr (8, [.int (nI so), .ref rq])), (rq, .inl (cI, z, .inl f))]) T9.heap ∧ va_D (va_A ((schW cI cD h a1 a2 a3 a4 a5 n d t al day nd mk si kn mb) ++ [(r, .inr (8, [.int (nI so), .ref rq])), (rq, .inl (cI, z, .inl f))]) sz) ((schW cI cD h a1 a2 a3 a4 a5 n d t al day nd mk si kn mb) ++ [(r, .inr (8, [.int (nI so), .ref rq])), (rq, .inl (cI, z, .inl f))])) (va_A ((schW cI cD h a1 a2 a3 a4 a5 n d t al day nd mk si kn mb) ++ [(r, .inr (8, [.int (nI so), .ref rq])), (rq, .inl (cI, z, .inl f))]) sz)) 0 0 (va_A ((schW cI cD h a1 a2 a3 a4 a5 n d t al day nd mk si kn mb) ++ [(r, .inr (8, [.int (nI so), .ref rq])), (rq, .inl (cI, z, .inl f))]) sz) := by
  refine Met.ofW (cc := cX11_tell) (maxL := 5) (ret := (some .boolean)) (by decide) rfl ?_
  intro p e s m args below meth c s₁ B hml hv
  obtain ⟨rfl, hH0, hCX⟩ := hv
  have hx := B.exec
  have hb := B.bytes
  have hr := B.returns
  have hts := atoms_spec (ws := wsX11_tell) B.pre
  have hown : s.vm.findClass RX11 = some m.cls := findClass_of_methodNamed B.named
  have hlocks := B.notSynchronized
  have hK := hCX.1
  obtain ⟨hsz, hP, hD0, hDP0⟩ := hH0
  subst hsz
  have hD := hD0.self (sz := s.heap.size)
  generalize hAe : va_A ((schW cI cD h a1 a2 a3 a4 a5 n d t al day nd mk si kn mb) ++ [(r, .inr (8, [.int (nI so), .ref rq])), (rq, .inl (cI, z, .inl f))]) s.heap.size = A at hD ⊢
  have hA : ∀ q : Nat, s.heap.size ≤ q → A q := fun q h => by rw [← hAe]; exact Or.inr h
  have hS : va_S A s.heap s.heap [] := va_S.rf
  have hP : va_P (dC, dI) vwCl ((schW cI cD h a1 a2 a3 a4 a5 n d t al day nd mk si kn mb) ++ [(r, .inr (8, [.int (nI so), .ref rq])), (rq, .inl (cI, z, .inl f))]) s.heap := hP
  have hro : ∀ a ∈ DL, ¬ A a := by rw [← hAe]; exact gro
  have hDP := hDP0
  have hl := lv_entry ([.ref h, .ref r, .int (nI p9)]) (n := 5) (Nat.le_of_ble_eq_true rfl)
  rw [lg_entry_eq]
  generalize (lg_sl ([.ref h, .ref r, .int (nI p9)]) ++ List.replicate (5 - (lg_sl ([.ref h, .ref r, .int (nI p9)])).length) Slot.unset).toArray = ls at hl ⊢
  have hl : lv_has ls 5 [(0, .ref h), (1, .ref r), (2, .int (nI p9))] := hl
  refine lv_aload_n hx hb dX11_tell_0 rfl (lv_at hl 1 rfl) ?_
  refine lv_iload_n hx hb dX11_tell_1 rfl (lv_at hl 2 rfl) ?_
  refine lv_iconst (v := nI 1) hx hb dX11_tell_2 (by decide +kernel) ?_
  refine ho_iadd hx hb dX11_tell_3 ?_
  refine vp_callSi ((va_runV (As := [.int (nI (p9 + 1))]) (rest := []) ⟨hx, hb, hml, hown, hts⟩ (c_X8_at l dC dI cI cD cR r rq so z f (p9 + 1) (by first | omega | assumption | exact gnd _ | exact gkn _ | exact Nat.lt_trans (gkn _) (by decide) | exact Nat.lt_trans (gnd _) (by decide) | exact Nat.lt_of_le_of_lt (pcN_le _) (by decide)) (by first | omega | assumption | exact gnd _ | exact gkn _ | exact Nat.lt_trans (gkn _) (by decide) | exact Nat.lt_trans (gnd _) (by decide) | exact Nat.lt_of_le_of_lt (pcN_le _) (by decide)) (by first | omega | assumption | exact gnd _ | exact gkn _ | exact Nat.lt_trans (gkn _) (by decide) | exact Nat.lt_trans (gnd _) (by decide) | exact Nat.lt_of_le_of_lt (pcN_le _) (by decide))) (cwV 1 hts gX11_tell_X8_at rfl rfl rfl (by decide +kernel) ⟨Nat.le_of_ble_eq_true rfl, Nat.le_of_ble_eq_true rfl⟩) (preV_R hCX (va_recv hK hP (ci := 8) (q0 := 6) rfl rfl) ((hP.sub (ws' := [(r, .inr (8, [.int (nI so), .ref rq])), (rq, .inl (cI, z, .inl f))]) [6, 7] rfl))) rfl rfl hl.1 rfl (lv_room (Nat.le_of_ble_eq_true rfl)) dX11_tell_4 ⟨Nat.le_of_ble_eq_true (by first | rfl | decide), Nat.le_of_ble_eq_true (by first | rfl | decide)⟩).run) (fun r_4 hr_4 => ?_)
  subst hr_4
  refine vp_callSi ((va_runS (As := [.int (atR z f (p9 + 1))]) (rest := []) ⟨hx, hb, hml, hown, hts⟩ (c_X11_digit l dC dI cI cD cR (atR z f (p9 + 1))) (va_cwS 1 hts gX11_tell_X11_digit rfl rfl rfl (by decide +kernel) ⟨Nat.le_of_ble_eq_true rfl, Nat.le_of_ble_eq_true rfl⟩) (preS_R hCX (trivial)) rfl rfl hl.1 rfl (lv_room (Nat.le_of_ble_eq_true rfl)) dX11_tell_7 ⟨Nat.le_of_ble_eq_true (by first | rfl | decide), Nat.le_of_ble_eq_true (by first | rfl | decide)⟩).run) (fun r_7 hr_7 => ?_)
  subst hr_7
  refine ho_tope (y := nI a) (by rw [h1]; rfl) ?_
  refine lv_istore_n (lv' := [(3, .int (nI a)), (0, .ref h), (1, .ref r), (2, .int (nI p9))]) hx hb dX11_tell_10 rfl hl (by decide) rfl (fun ls hl => ?_)
  refine lv_aload_n hx hb dX11_tell_11 rfl (lv_at hl 2 rfl) ?_
  refine lv_iload_n hx hb dX11_tell_12 rfl (lv_at hl 3 rfl) ?_
  refine lv_iconst (v := nI 2) hx hb dX11_tell_13 (by decide +kernel) ?_
  refine ho_iadd hx hb dX11_tell_14 ?_
  refine vp_callSi ((va_runV (As := [.int (nI (p9 + 2))]) (rest := []) ⟨hx, hb, hml, hown, hts⟩ (c_X8_at l dC dI cI cD cR r rq so z f (p9 + 2) (by first | omega | assumption | exact gnd _ | exact gkn _ | exact Nat.lt_trans (gkn _) (by decide) | exact Nat.lt_trans (gnd _) (by decide) | exact Nat.lt_of_le_of_lt (pcN_le _) (by decide)) (by first | omega | assumption | exact gnd _ | exact gkn _ | exact Nat.lt_trans (gkn _) (by decide) | exact Nat.lt_trans (gnd _) (by decide) | exact Nat.lt_of_le_of_lt (pcN_le _) (by decide)) (by first | omega | assumption | exact gnd _ | exact gkn _ | exact Nat.lt_trans (gkn _) (by decide) | exact Nat.lt_trans (gnd _) (by decide) | exact Nat.lt_of_le_of_lt (pcN_le _) (by decide))) (cwV 1 hts gX11_tell_X8_at rfl rfl rfl (by decide +kernel) ⟨Nat.le_of_ble_eq_true rfl, Nat.le_of_ble_eq_true rfl⟩) (preV_R hCX (va_recv hK hP (ci := 8) (q0 := 6) rfl rfl) ((hP.sub (ws' := [(r, .inr (8, [.int (nI so), .ref rq])), (rq, .inl (cI, z, .inl f))]) [6, 7] rfl))) rfl rfl hl.1 rfl (lv_room (Nat.le_of_ble_eq_true rfl)) dX11_tell_15 ⟨Nat.le_of_ble_eq_true (by first | rfl | decide), Nat.le_of_ble_eq_true (by first | rfl | decide)⟩).run) (fun r_15 hr_15 => ?_)
  subst hr_15
  refine vp_callSi ((va_runS (As := [.int (atR z f (p9 + 2))]) (rest := []) ⟨hx, hb, hml, hown, hts⟩ (c_X11_digit l dC dI cI cD cR (atR z f (p9 + 2))) (va_cwS 1 hts gX11_tell_X11_digit rfl rfl rfl (by decide +kernel) ⟨Nat.le_of_ble_eq_true rfl, Nat.le_of_ble_eq_true rfl⟩) (preS_R hCX (trivial)) rfl rfl hl.1 rfl (lv_room (Nat.le_of_ble_eq_true rfl)) dX11_tell_18 ⟨Nat.le_of_ble_eq_true (by first | rfl | decide), Nat.le_of_ble_eq_true (by first | rfl | decide)⟩).run) (fun r_18 hr_18 => ?_)
  subst hr_18
  refine ho_tope (y := nI b) (by rw [h2]; rfl) ?_
  refine lv_istore (lv' := [(4, .int (nI b)), (3, .int (nI a)), (0, .ref h), (1, .ref r), (2, .int (nI p9))]) hx hb dX11_tell_21 hl (by decide) rfl (fun ls hl => ?_)
  refine lv_aload_n hx hb dX11_tell_23 rfl (lv_at hl 3 rfl) ?_
  refine lv_iload_n hx hb dX11_tell_24 rfl (lv_at hl 4 rfl) ?_
  refine vp_callSi ((va_runV (As := [.int (nI p9)]) (rest := []) ⟨hx, hb, hml, hown, hts⟩ (c_X8_at l dC dI cI cD cR r rq so z f p9 (by first | omega | assumption | exact gnd _ | exact gkn _ | exact Nat.lt_trans (gkn _) (by decide) | exact Nat.lt_trans (gnd _) (by decide) | exact Nat.lt_of_le_of_lt (pcN_le _) (by decide)) (by first | omega | assumption | exact gnd _ | exact gkn _ | exact Nat.lt_trans (gkn _) (by decide) | exact Nat.lt_trans (gnd _) (by decide) | exact Nat.lt_of_le_of_lt (pcN_le _) (by decide)) (by first | omega | assumption | exact gnd _ | exact gkn _ | exact Nat.lt_trans (gkn _) (by decide) | exact Nat.lt_trans (gnd _) (by decide) | exact Nat.lt_of_le_of_lt (pcN_le _) (by decide))) (cwV 1 hts gX11_tell_X8_at rfl rfl rfl (by decide +kernel) ⟨Nat.le_of_ble_eq_true rfl, Nat.le_of_ble_eq_true rfl⟩) (preV_R hCX (va_recv hK hP (ci := 8) (q0 := 6) rfl rfl) ((hP.sub (ws' := [(r, .inr (8, [.int (nI so), .ref rq])), (rq, .inl (cI, z, .inl f))]) [6, 7] rfl))) rfl rfl hl.1 rfl (lv_room (Nat.le_of_ble_eq_true rfl)) dX11_tell_25 ⟨Nat.le_of_ble_eq_true (by first | rfl | decide), Nat.le_of_ble_eq_true (by first | rfl | decide)⟩).run) (fun r_25 hr_25 => ?_)
  subst hr_25
  refine ho_tope (y := nI 120) hc ?_
  refine lv_lookup (tgt := 155) (off := 127) hx hb dX11_tell_28 (by decide +kernel) (by decide +kernel) (by decide) ?_
  refine lv_aload_n hx hb dX11_tell_155 rfl (lv_at hl 2 rfl) ?_
  refine lv_iload_n hx hb dX11_tell_156 rfl (lv_at hl 1 rfl) ?_
  refine lv_iload hx hb dX11_tell_157 (lv_at hl 0 rfl) ?_
  refine vp_callSi ((va_runV (As := [.int (nI a), .int (nI b)]) (rest := []) ⟨hx, hb, hml, hown, hts⟩ (c_X9_isAllowed l dC dI cI cD cR h a1 a2 a3 a4 a5 n d t al day nd mk si kn mb a b DL kd fg (by first | omega | assumption | exact gnd _ | exact gkn _ | exact Nat.lt_trans (gkn _) (by decide) | exact Nat.lt_trans (gnd _) (by decide) | exact Nat.lt_of_le_of_lt (pcN_le _) (by decide)) (by first | omega | assumption | exact gnd _ | exact gkn _ | exact Nat.lt_trans (gkn _) (by decide) | exact Nat.lt_trans (gnd _) (by decide) | exact Nat.lt_of_le_of_lt (pcN_le _) (by decide)) (by first | omega | assumption | exact gnd _ | exact gkn _ | exact Nat.lt_trans (gkn _) (by decide) | exact Nat.lt_trans (gnd _) (by decide) | exact Nat.lt_of_le_of_lt (pcN_le _) (by decide)) (by first | omega | assumption | exact gnd _ | exact gkn _ | exact Nat.lt_trans (gkn _) (by decide) | exact Nat.lt_trans (gnd _) (by decide) | exact Nat.lt_of_le_of_lt (pcN_le _) (by decide)) (by first | omega | assumption | exact gnd _ | exact gkn _ | exact Nat.lt_trans (gkn _) (by decide) | exact Nat.lt_trans (gnd _) (by decide) | exact Nat.lt_of_le_of_lt (pcN_le _) (by decide)) gnd gkn (by first | omega | assumption | exact gnd _ | exact gkn _ | exact Nat.lt_trans (gkn _) (by decide) | exact Nat.lt_trans (gnd _) (by decide) | exact Nat.lt_of_le_of_lt (pcN_le _) (by decide)) (by first | omega | assumption | exact gnd _ | exact gkn _ | exact Nat.lt_trans (gkn _) (by decide) | exact Nat.lt_trans (gnd _) (by decide) | exact Nat.lt_of_le_of_lt (pcN_le _) (by decide)) gmb) (cwV 2 hts gX11_tell_X9_isAllowed rfl rfl rfl (by decide +kernel) ⟨Nat.le_of_ble_eq_true rfl, Nat.le_of_ble_eq_true rfl⟩) (preV_R hCX (va_recv hK hP (ci := 9) (q0 := 0) rfl rfl) (⟨(hP.sub (ws' := (schW cI cD h a1 a2 a3 a4 a5 n d t al day nd mk si kn mb)) [0, 1, 2, 3, 4, 5] rfl), (DP.keep hDP0 hro hS)⟩)) rfl rfl hl.1 rfl (lv_room (Nat.le_of_ble_eq_true rfl)) dX11_tell_159 ⟨Nat.le_of_ble_eq_true (by first | rfl | decide), Nat.le_of_ble_eq_true (by first | rfl | decide)⟩).run) (fun r_159 hr_159 => ?_)
  subst hr_159
  refine ho_bne (tgt := 167) hx hb dX11_tell_162 (by decide) (fun c_162 => ?_) (fun c_162 => ?_)
  · rw [hc9] at c_162; cases c_162
  refine lv_iconst (v := nI 0) hx hb dX11_tell_165 (by decide +kernel) ?_
  exact W.zret (v := nI 0) hx hb hr rfl (fun T9 hT9 hW9 => ⟨⟨_, (), rfl, (bI_f (by simp [*])), by rw [hT9]; exact hP, hD⟩, hS.F hT9⟩) hS.2.2 dX11_tell_166
