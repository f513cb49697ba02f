/-! THE LAW'S WORLD: the class' cells and the model's, at addresses that stay -/
theorem room_le {s : State} {pl : Platform} {r r' : Room} (hf : r.frames ≤ r'.frames) (hl : r.locals ≤ r'.locals) (hc : r.cells ≤ r'.cells) (hs : r.slots ≤ r'.slots) (h : s.hasRoom pl r' = true) : s.hasRoom pl r = true := by
  simp only [State.hasRoom, Bool.and_eq_true, decide_eq_true_eq] at h ⊢
  obtain ⟨⟨⟨⟨h0, h1, h2, h3, h4, h5⟩, h6⟩, h7⟩, h8⟩ := h
  exact ⟨⟨⟨⟨by omega, by omega, by omega, by omega, by omega, h5⟩, by omega⟩, by omega⟩, h8⟩
theorem app_le {y : MethodName} {ws : List Cond} {r r' : Room} {pl : Platform} {s : State} {m : MethodId} {args : Array Value} {below : List Frame} (hfr : s.frames = .invoking m args :: below) (hf : r.frames ≤ r'.frames) (hl : r.locals ≤ r'.locals) (hc : r.cells ≤ r'.cells) (hs : r.slots ≤ r'.slots) (h : (headSpec ws r').appliesLoose y pl s = true) : (headSpec ws r).appliesLoose y pl s = true := by
  have h1 := (Spec.appliesLoose_iff hfr).mp h
  exact (Spec.appliesLoose_iff hfr).mpr ⟨h1.1, h1.2.1, h1.2.2.1, h1.2.2.2.1, h1.2.2.2.2.1, h1.2.2.2.2.2.1, room_le hf hl hc hs h1.2.2.2.2.2.2.1, h1.2.2.2.2.2.2.2⟩
/-- a contract out of another, chosen at the start -/
theorem met_cs {l : Launch} {y : MethodName} {ws : List Cond} {rm : Room} {Pc : Array Value → State → Prop} {Qc : Array Value → State → Outcome → State → Prop} {mc ms : Nat} {free : Addr → Prop}
    (h : ∀ a s, Pc a s → ∃ (rm0 : Room) (Pc0 : Array Value → State → Prop) (Qc0 : Array Value → State → Outcome → State → Prop) (mc0 ms0 : Nat) (free0 : Addr → Prop), Met l y ws rm0 Pc0 Qc0 mc0 ms0 free0 ∧ (rm0.frames ≤ rm.frames ∧ rm0.locals ≤ rm.locals ∧ rm0.cells ≤ rm.cells ∧ rm0.slots ≤ rm.slots) ∧ (mc0 ≤ mc ∧ ms0 ≤ ms) ∧ Pc0 a s ∧ (∀ o t, Qc0 a s o t → Qc a s o t) ∧ ∀ q, free0 q → free q) : Met l y ws rm Pc Qc mc ms free := by
  intro p e hadm hf1 hf2 s m args below hfr happ hP _
  obtain ⟨rm0, Pc0, Qc0, mc0, ms0, free0, hM, ⟨r1, r2, r3, r4⟩, ⟨hc, hs⟩, hp0, hq, hfree⟩ := h args s hP
  obtain ⟨n, o, h1, h2, h3, hQ, L, hFE, hL⟩ := hM p e hadm hf1 hf2 s m args below hfr (app_le hfr r1 r2 r3 r4 happ) hp0 trivial
  have hsb := hFE.2.2
  exact ⟨n, o, h1, h2, h3, hq _ _ hQ, L, ⟨hFE.1, hFE.2.1, ⟨hsb.1, hsb.2.1, Nat.le_trans hsb.2.2.1 (Nat.add_le_add_left hc _), hsb.2.2.2.1, Nat.le_trans hsb.2.2.2.2.1 hs, hsb.2.2.2.2.2⟩⟩, fun q hq9 => hfree _ (hL q hq9)⟩
/-- .. of one that may throw, and doesn't here -/
theorem vx_cs {l : Launch} {y : MethodName} {ws : List Cond} {rm : Room} {Pc : Array Value → State → Prop} {Qc : Array Value → State → Outcome → State → Prop} {XC : String → State → State → Prop} {mc ms : Nat} {free : Addr → Prop}
    (h : ∀ a s, Pc a s → ∃ (rm0 : Room) (Pc0 : Array Value → State → Prop) (Qc0 : Array Value → State → Outcome → State → Prop) (XC0 : String → State → State → Prop) (mc0 ms0 : Nat) (free0 : Addr → Prop), vx_Met l y ws rm0 Pc0 Qc0 XC0 mc0 ms0 free0 ∧ (rm0.frames ≤ rm.frames ∧ rm0.locals ≤ rm.locals ∧ rm0.cells ≤ rm.cells ∧ rm0.slots ≤ rm.slots) ∧ (mc0 ≤ mc ∧ ms0 ≤ ms) ∧ Pc0 a s ∧ (∀ o t, Qc0 a s o t → Qc a s o t) ∧ (∀ E t, ¬ XC0 E s t) ∧ ∀ q, free0 q → free q) : vx_Met l y ws rm Pc Qc XC mc ms free := by
  intro p e hadm hf1 hf2 s m args below hfr happ hP _
  obtain ⟨rm0, Pc0, Qc0, XC0, mc0, ms0, free0, hM, ⟨r1, r2, r3, r4⟩, ⟨hc, hs⟩, hp0, hq, hx0, hfree⟩ := h args s hP
  obtain ⟨n, o, h1, h2, h3, hQ⟩ := hM p e hadm hf1 hf2 s m args below hfr (app_le hfr r1 r2 r3 r4 happ) hp0 trivial
  rcases hQ with ⟨hQ, L, hFE, hL⟩ | ⟨q, -, E, ce, L, hX, -⟩
  · have hsb := hFE.2.2
    exact ⟨n, o, h1, h2, h3, Or.inl ⟨hq _ _ hQ, L, ⟨hFE.1, hFE.2.1, ⟨hsb.1, hsb.2.1, Nat.le_trans hsb.2.2.1 (Nat.add_le_add_left hc _), hsb.2.2.2.1, Nat.le_trans hsb.2.2.2.2.1 hs, hsb.2.2.2.2.2⟩⟩, fun q hq9 => hfree _ (hL q hq9)⟩⟩
  · exact absurd hX (hx0 E _)
/-- the addresses: 41, apart, all of them made here -/
def AdD (ad : Nat → Nat) (s0 : Nat) : Prop := (∀ i j, i < 41 → j < 41 → ad i = ad j → i = j) ∧ ∀ i, i < 41 → s0 ≤ ad i
def adL (ad : Nat → Nat) (b : Nat) : Nat → List Nat
  | 0 => []
  | k + 1 => ad b :: adL ad (b + 1) k
theorem adL_at (ad : Nat → Nat) : ∀ (k b i v : Nat), (adL ad b k)[i]? = some v → i < k ∧ v = ad (b + i)
  | 0, b, i, v, h => by simp [adL] at h
  | k + 1, b, 0, v, h => by
    have h1 : some (ad b) = some v := h
    cases h1
    exact ⟨Nat.succ_pos k, rfl⟩
  | k + 1, b, i + 1, v, h => by
    obtain ⟨h1, h2⟩ := adL_at ad k (b + 1) i v h
    exact ⟨by omega, by rw [h2, show b + 1 + i = b + (i + 1) by omega]⟩
section ADS
variable {ad : Nat → Nat} {s0 b k : Nat} {ws wc : va_W} {D : va_G} {H H1 : Heap} {s t : State}
theorem ws_at (e : ws.map Prod.fst = adL ad b k) {i : Nat} {q : Nat × va_E} (h : ws[i]? = some q) : i < k ∧ q.1 = ad (b + i) := adL_at ad k b i q.1 (by rw [← e, List.getElem?_map, h]; rfl)
theorem ws_D (hA : AdD ad s0) (e : ws.map Prod.fst = adL ad b k) (hb : b + k ≤ 41) : va_D (fun _ => True) ws := ⟨fun i j p q hp hq hpq => by
  obtain ⟨a1, a2⟩ := ws_at e hp
  obtain ⟨b1, b2⟩ := ws_at e hq
  have := hA.1 (b + i) (b + j) (by omega) (by omega) (by rw [← a2, ← b2]; exact hpq)
  omega, fun _ _ _ => trivial⟩
theorem ws_in (isC : List Nat) (hC : isC.map (fun i => ws[i]?) = wc.map some) {i : Nat} {q : Nat × va_E} (h : wc[i]? = some q) : ∃ j : Nat, ws[j]? = some q := by
  have h1 : (isC.map (fun i => ws[i]?))[i]? = some (some q) := by rw [hC, List.getElem?_map, h]; rfl
  rw [List.getElem?_map] at h1
  cases hi : isC[i]? with
  | none => rw [hi] at h1; cases h1
  | some j => rw [hi] at h1; exact ⟨j, Option.some.inj h1⟩
/-- what a call leaves as it is -/
theorem fr_of (e : ws.map Prod.fst = adL ad b k) (isC : List Nat) (hC : isC.map (fun i => ws[i]?) = wc.map some) (hF : va_F (va_A wc s.heap.size) s t) : ∀ q : Nat, q < s.heap.size → (∀ j, b ≤ j → j < b + k → q ≠ ad j) → t.heap[q]? = s.heap[q]? := fun q hq hno => hF.2 q hq (by
  rintro (⟨i, z, hi⟩ | hz)
  · obtain ⟨j, hj⟩ := ws_in isC hC hi
    obtain ⟨a1, a2⟩ := ws_at e hj
    exact hno (b + j) (by omega) (by omega) a2
  · omega)
theorem free_of (hA : AdD ad s0) (hb : b + k ≤ 41) (e : ws.map Prod.fst = adL ad b k) (isC : List Nat) (hC : isC.map (fun i => ws[i]?) = wc.map some) {sz : Nat} (hz : s0 ≤ sz) : ∀ q, va_A wc sz q → s0 ≤ q := by
  rintro q (⟨i, z, hi⟩ | h)
  · obtain ⟨j, hj⟩ := ws_in isC hC hi
    obtain ⟨a1, a2⟩ := ws_at e hj
    have h3 : q = ad (b + j) := a2
    rw [h3]
    exact hA.2 _ (by omega)
  · omega
theorem not_in (hA : AdD ad s0) (e : ws.map Prod.fst = adL ad b k) (hb : b + k ≤ 41) (isC : List Nat) (hC : isC.map (fun i => ws[i]?) = wc.map some) {a sz : Nat} (ha : a < sz) (hno : ∀ j, j < 41 → a ≠ ad j) : ¬ va_A wc sz a := by
  rintro (⟨i, z, hi⟩ | hz)
  · obtain ⟨j, hj⟩ := ws_in isC hC hi
    obtain ⟨a1, a2⟩ := ws_at e hj
    exact hno (b + j) (by omega) a2
  · omega
theorem s0_le (hA : AdD ad s0) (hP : va_P D vwCl ws H) (e : ws.map Prod.fst = adL ad b k) (hb : b + k ≤ 41) (hk : 0 < k) : s0 ≤ H.size := by
  cases hw : ws[0]? with
  | none =>
    have h1 : (ws.map Prod.fst)[0]? = none := by rw [List.getElem?_map, hw]; rfl
    rw [e] at h1
    cases k with
    | zero => omega
    | succ k => simp [adL] at h1
  | some q =>
    obtain ⟨a1, a2⟩ := ws_at e hw
    have h2 := (hP 0 q hw).lt
    have h3 := hA.2 (b + 0) (by omega)
    rw [a2] at h2
    omega
theorem keep_of (hA : AdD ad s0) (hP : va_P D vwCl ws H) (e : ws.map Prod.fst = adL ad b k) (hb : b + k ≤ 41) (hfr : ∀ q : Nat, q < H.size → (∀ j, j < b ∨ b + k ≤ j → j < 41 → q ≠ ad j) → H1[q]? = H[q]?) : va_P D vwCl ws H1 := hP.kept (fun i q hq => by
  obtain ⟨a1, a2⟩ := ws_at e hq
  refine hfr q.1 ((hP i q hq).lt) (fun j hj hj9 z => ?_)
  have := hA.1 (b + i) j (by omega) hj9 (by rw [← a2]; exact z)
  omega)
end ADS
abbrev XW (cI cD cR : ClassId) (ad : Nat → Nat) (hi : Bool) (n d t day al : Nat) (nd : Nat → Nat) (mk si : Nat → Int32) (kn : Nat → Nat) (mb : Nat → Option Nat) (nM dM tM dayM alM : Nat) (ndM : Nat → Nat) (mkM siM : Nat → Int32) (knM : Nat → Nat) (mbM : Nat → Option Nat) (nZ dZ tZ dayZ alZ : Nat) (ndZ : Nat → Nat) (mkP siP : Nat → Int32) (knZ : Nat → Nat) (mbP : Nat → Option Nat) (sa : Nat) (lk : Nat → Option Nat) (ef : Nat → Nat) (le dm rm : Nat → Option Nat) : va_W := [(ad 0, .inr (11, [.ref (ad 1), .ref (ad 7), .ref (ad 13), .int (bI hi), .ref (ad 19), .ref (ad 23), .ref (ad 24)]))] ++ schW cI cD (ad 1) (ad 2) (ad 3) (ad 4) (ad 5) (ad 6) n d t al day nd mk si kn mb ++ schW cI cD (ad 7) (ad 8) (ad 9) (ad 10) (ad 11) (ad 12) nM dM tM alM dayM ndM mkM siM knM mbM ++ schW cI cD (ad 13) (ad 14) (ad 15) (ad 16) (ad 17) (ad 18) nZ dZ tZ alZ dayZ ndZ mkP siP knZ mbP ++ forW cI (ad 19) (ad 20) (ad 21) (ad 22) sa lk ef le ++ [(ad 23, .inl (cD, 8, .inr (.inr (.inr (.inr dm)))))] ++ [(ad 24, .inl (cR, 8, .inr (.inr (.inr (.inr rm)))))]
abbrev MW (cI cL : ClassId) (ad : Nat → Nat) (hi : Bool) (th : Int32) (po ba en : Nat) (se : Int32) (n d t day al : Nat) (nd : Nat → Nat) (bb oo : Nat → Int32) (K F kn : Nat → Nat) (nZ dZ tZ dayZ alZ : Nat) (ndZ : Nat → Nat) (bbZ ooZ : Nat → Int32) (KZ FZ knZ : Nat → Nat) (nR dR tR dayR alR : Nat) (ndR : Nat → Nat) (bbR ooR : Nat → Int32) (KR FR knR : Nat → Nat) (nM dM tM dayM alM : Nat) (ndM : Nat → Nat) (bbM ooM : Nat → Int32) (KM FM knM : Nat → Nat) (ke so zz : Nat → Nat) (el qk qf : Nat → Int32) (nu : Nat → Int32) (fe ea pr : Nat → Option Nat) (ov : Nat → Int64) : va_W := [(ad 25, .inr (12, [.ref (ad 26), .ref (ad 27), .ref (ad 28), .ref (ad 29), .ref (ad 30), .ref (ad 31), .ref (ad 32), .ref (ad 33), .ref (ad 34), .ref (ad 35), .int (bI hi), .int th, .int (nI po), .int (nI ba), .int (nI en), .ref (ad 36), .ref (ad 37), .ref (ad 38), .ref (ad 39), .int se])), (ad 26, .inl (cI, 53, .inl (sF n d t day al nd bb oo K F kn))), (ad 27, .inl (cI, 53, .inl (sF nZ dZ tZ dayZ alZ ndZ bbZ ooZ KZ FZ knZ))), (ad 28, .inl (cI, 53, .inl (sF nR dR tR dayR alR ndR bbR ooR KR FR knR))), (ad 29, .inl (cI, 53, .inl (sF nM dM tM dayM alM ndM bbM ooM KM FM knM))), (ad 30, .inl (cI, 8, .inl (nF ke))), (ad 31, .inl (cI, 8, .inl (nF so))), (ad 32, .inl (cI, 8, .inl (nF zz))), (ad 33, .inl (cI, 800, .inl el)), (ad 34, .inl (cI, 8, .inl qk)), (ad 35, .inl (cI, 8, .inl qf)), (ad 36, .inl (cI, 2, .inl nu)), (ad 37, .inl (cI, 512, .inl (oF fe))), (ad 38, .inl (cI, 512, .inl (oF ea))), (ad 39, .inl (cI, 512, .inl (oF pr))), (ad 40, .inl (cL, 1, .inr (.inl ov)))]
/-- deniers and rows lie apart from all that -/
def PO (ad : Nat → Nat) (s0 : Nat) (DL RL : List Nat) (rc : Nat → Nat) : Prop := (∀ a ∈ DL, ∀ j, j < 41 → a ≠ ad j) ∧ (∀ r ∈ RL, (∀ j, j < 41 → r ≠ ad j ∧ rc r ≠ ad j) ∧ s0 ≤ r ∧ s0 ≤ rc r) ∧ (∀ r1 ∈ RL, ∀ r2 ∈ RL, rc r1 = rc r2 → r1 = r2) ∧ (∀ r1 ∈ RL, ∀ r2 ∈ RL, r1 ≠ rc r2) ∧ ∀ a ∈ DL, ∀ r ∈ RL, a ≠ r ∧ a ≠ rc r
/-- what holds of the numbers -/
def CiI (B : Nat) (n d t day al : Nat) (nd : Nat → Nat) (bb oo : Nat → Int32) (K F kn : Nat → Nat) (nZ dZ tZ dayZ alZ : Nat) (ndZ : Nat → Nat) (bbZ ooZ : Nat → Int32) (KZ FZ knZ : Nat → Nat) (ke so zz : Nat → Nat) (qk qf : Nat → Int32) : Prop := WS n d t al nd bb K F kn ∧ WS nZ dZ tZ alZ ndZ bbZ KZ FZ knZ ∧ day ≤ B ∧ dayZ ≤ B ∧ (∀ j, zz j ≤ 100) ∧ (∀ j, so j < 3) ∧ (∀ j, ke j ≤ 2) ∧ ∀ j, ke j = 1 → okI (qk j) 8 = true ∧ okI (qf j) 10 = true
/-- the class' side -/
def XS (dC : Nat → ClassId) (dI : Nat → Nat → Nat) (cI cD cR : ClassId) (ad : Nat → Nat) (s0 B : Nat) (hi : Bool) (n d t day al : Nat) (nd : Nat → Nat) (bb oo : Nat → Int32) (K F kn : Nat → Nat) (nZ dZ tZ dayZ alZ : Nat) (ndZ : Nat → Nat) (bbZ ooZ : Nat → Int32) (KZ FZ knZ : Nat → Nat) (ke so zz : Nat → Nat) (el qk qf : Nat → Int32) (H : Heap) : Prop := CiI B n d t day al nd bb oo K F kn nZ dZ tZ dayZ alZ ndZ bbZ ooZ KZ FZ knZ ke so zz qk qf ∧ ∃ (mk si : Nat → Int32) (mb : Nat → Option Nat) (nM dM tM dayM alM : Nat) (ndM : Nat → Nat) (mkM siM : Nat → Int32) (knM : Nat → Nat) (mbM : Nat → Option Nat) (mkP siP : Nat → Int32) (mbP : Nat → Option Nat) (sa : Nat) (lk : Nat → Option Nat) (ef : Nat → Nat) (le dm rm : Nat → Option Nat) (DL : List Nat) (kd fg : Nat → Nat) (RL : List Nat) (rc rs rz : Nat → Nat) (rf : Nat → Nat → Int32), va_P (dC, dI) vwCl (XW cI cD cR ad hi n d t day al nd mk si kn mb nM dM tM dayM alM ndM mkM siM knM mbM nZ dZ tZ dayZ alZ ndZ mkP siP knZ mbP sa lk ef le dm rm) H ∧ DP dC dI DL kd fg H ∧ RP dC dI cI RL rc rs rz rf H ∧ PO ad s0 DL RL rc ∧ RS DL kd fg n d t mk si mb bb oo K F ∧ RS DL kd fg nZ dZ tZ mkP siP mbP bbZ ooZ KZ FZ ∧ SH DL kd fg RL rs rz rf dm rm ke so zz el qk qf ∧ (∀ i, ef i < 1000) ∧ ∀ j, j < 41 → ad j < H.size
/-- the model's side -/
def MU (dC : Nat → ClassId) (dI : Nat → Nat → Nat) (cI cL : ClassId) (ad : Nat → Nat) (hi : Bool) (n d t day al : Nat) (nd : Nat → Nat) (bb oo : Nat → Int32) (K F kn : Nat → Nat) (nZ dZ tZ dayZ alZ : Nat) (ndZ : Nat → Nat) (bbZ ooZ : Nat → Int32) (KZ FZ knZ : Nat → Nat) (ke so zz : Nat → Nat) (el qk qf : Nat → Int32) (th : Int32) (ov : Nat → Int64) (H : Heap) : Prop := ∃ (po ba en : Nat) (se : Int32) (nR dR tR dayR alR : Nat) (ndR : Nat → Nat) (bbR ooR : Nat → Int32) (KR FR knR : Nat → Nat) (nM dM tM dayM alM : Nat) (ndM : Nat → Nat) (bbM ooM : Nat → Int32) (KM FM knM : Nat → Nat) (nu : Nat → Int32) (fe ea pr : Nat → Option Nat), va_P (dC, dI) vwCl (MW cI cL ad hi th po ba en se n d t day al nd bb oo K F kn nZ dZ tZ dayZ alZ ndZ bbZ ooZ KZ FZ knZ nR dR tR dayR alR ndR bbR ooR KR FR knR nM dM tM dayM alM ndM bbM ooM KM FM knM ke so zz el qk qf nu fe ea pr ov) H
/-- .. whatever its latest throw, and what out holds -/
def MT (dC : Nat → ClassId) (dI : Nat → Nat → Nat) (cI cL : ClassId) (ad : Nat → Nat) (hi : Bool) (n d t day al : Nat) (nd : Nat → Nat) (bb oo : Nat → Int32) (K F kn : Nat → Nat) (nZ dZ tZ dayZ alZ : Nat) (ndZ : Nat → Nat) (bbZ ooZ : Nat → Int32) (KZ FZ knZ : Nat → Nat) (ke so zz : Nat → Nat) (el qk qf : Nat → Int32) (H : Heap) : Prop := ∃ (th : Int32) (ov : Nat → Int64), MU dC dI cI cL ad hi n d t day al nd bb oo K F kn nZ dZ tZ dayZ alZ ndZ bbZ ooZ KZ FZ knZ ke so zz el qk qf th ov H
section LAWW
variable {dC : Nat → ClassId} {dI : Nat → Nat → Nat} {cI cD cR cL : ClassId} {ad : Nat → Nat} {s0 B : Nat} {hi : Bool} {n d t day al : Nat} {nd : Nat → Nat} {bb oo : Nat → Int32} {K F kn : Nat → Nat} {nZ dZ tZ dayZ alZ : Nat} {ndZ : Nat → Nat} {bbZ ooZ : Nat → Int32} {KZ FZ knZ : Nat → Nat} {ke so zz : Nat → Nat} {el qk qf : Nat → Int32} {H H1 : Heap} {DL RL : List Nat} {kd fg rc rs rz : Nat → Nat} {rf : Nat → Nat → Int32}
theorem DP.go (h : DP dC dI DL kd fg H) (hO : PO ad s0 DL RL rc) (hfr : ∀ q : Nat, q < H.size → (∀ j, j < 41 → q ≠ ad j) → H1[q]? = H[q]?) : DP dC dI DL kd fg H1 := fun a ha => ⟨(h a ha).1.kept (fun i q hq => by
  have hz : i < 1 := (List.getElem?_eq_some_iff.mp hq).1
  have h0 : i = 0 := by omega
  subst h0
  cases hq
  exact hfr a (h.lt ha) (hO.1 a ha)), (h a ha).2⟩
theorem RP.go (h : RP dC dI cI RL rc rs rz rf H) (hO : PO ad s0 DL RL rc) (hfr : ∀ q : Nat, q < H.size → (∀ j, j < 41 → q ≠ ad j) → H1[q]? = H[q]?) : RP dC dI cI RL rc rs rz rf H1 := fun r hr => ⟨(h r hr).1.kept (fun i q hq => by
  have hz : i < 2 := (List.getElem?_eq_some_iff.mp hq).1
  rcases (show i = 0 ∨ i = 1 by omega) with rfl | rfl
  · cases hq
    exact hfr r (((h r hr).1 0 _ rfl).lt) (fun j hj => ((hO.2.1 r hr).1 j hj).1)
  · cases hq
    exact hfr (rc r) (((h r hr).1 1 _ rfl).lt) (fun j hj => ((hO.2.1 r hr).1 j hj).2)), (h r hr).2⟩
theorem RP.lt1 (h : RP dC dI cI RL rc rs rz rf H) {r : Nat} (hr : r ∈ RL) : r < H.size := ((h r hr).1 0 _ rfl).lt
theorem RP.lt2 (h : RP dC dI cI RL rc rs rz rf H) {r : Nat} (hr : r ∈ RL) : rc r < H.size := ((h r hr).1 1 _ rfl).lt
/-- the class' side stays where only the model's cells change -/
theorem XS.go (hA : AdD ad s0) (hz : H.size ≤ H1.size) (h : XS dC dI cI cD cR ad s0 B hi n d t day al nd bb oo K F kn nZ dZ tZ dayZ alZ ndZ bbZ ooZ KZ FZ knZ ke so zz el qk qf H) (hfr : ∀ q : Nat, q < H.size → (∀ j, 25 ≤ j → j < 41 → q ≠ ad j) → H1[q]? = H[q]?) : XS dC dI cI cD cR ad s0 B hi n d t day al nd bb oo K F kn nZ dZ tZ dayZ alZ ndZ bbZ ooZ KZ FZ knZ ke so zz el qk qf H1 := by
  obtain ⟨hC, mk, si, mb, nM, dM, tM, dayM, alM, ndM, mkM, siM, knM, mbM, mkP, siP, mbP, sa, lk, ef, le, dm, rm, DL, kd, fg, RL, rc, rs, rz, rf, hP, hDP, hRP, hO, hRS, hRZ, hSH, hef, hlt⟩ := h
  exact ⟨hC, mk, si, mb, nM, dM, tM, dayM, alM, ndM, mkM, siM, knM, mbM, mkP, siP, mbP, sa, lk, ef, le, dm, rm, DL, kd, fg, RL, rc, rs, rz, rf, keep_of (b := 0) (k := 25) hA hP rfl (by omega) (fun q hq hno => hfr q hq (fun j h1 h2 => hno j (Or.inr (by omega)) h2)), hDP.go hO (fun q hq hno => hfr q hq (fun j h1 h2 => hno j h2)), hRP.go hO (fun q hq hno => hfr q hq (fun j h1 h2 => hno j h2)), hO, hRS, hRZ, hSH, hef, fun j hj => Nat.lt_of_lt_of_le (hlt j hj) hz⟩
theorem MT.keep (h : MT dC dI cI cL ad hi n d t day al nd bb oo K F kn nZ dZ tZ dayZ alZ ndZ bbZ ooZ KZ FZ knZ ke so zz el qk qf H) (hfr : ∀ q : Nat, q < H.size → (∃ j, 25 ≤ j ∧ j < 41 ∧ q = ad j) → H1[q]? = H[q]?) : MT dC dI cI cL ad hi n d t day al nd bb oo K F kn nZ dZ tZ dayZ alZ ndZ bbZ ooZ KZ FZ knZ ke so zz el qk qf H1 := by
  obtain ⟨th, ov, po, ba, en, se, nR, dR, tR, dayR, alR, ndR, bbR, ooR, KR, FR, knR, nM, dM, tM, dayM, alM, ndM, bbM, ooM, KM, FM, knM, nu, fe, ea, pr, hP⟩ := h
  exact ⟨th, ov, po, ba, en, se, nR, dR, tR, dayR, alR, ndR, bbR, ooR, KR, FR, knR, nM, dM, tM, dayM, alM, ndM, bbM, ooM, KM, FM, knM, nu, fe, ea, pr, hP.kept (fun i q hq => by
    obtain ⟨a1, a2⟩ := ws_at (ad := ad) (b := 25) (k := 16) (show (MW cI cL ad hi th po ba en se n d t day al nd bb oo K F kn nZ dZ tZ dayZ alZ ndZ bbZ ooZ KZ FZ knZ nR dR tR dayR alR ndR bbR ooR KR FR knR nM dM tM dayM alM ndM bbM ooM KM FM knM ke so zz el qk qf nu fe ea pr ov).map Prod.fst = adL ad 25 16 from rfl) hq
    exact hfr q.1 ((hP i q hq).lt) ⟨25 + i, by omega, by omega, a2⟩)⟩
theorem MU.keep {th : Int32} {ov : Nat → Int64} (h : MU dC dI cI cL ad hi n d t day al nd bb oo K F kn nZ dZ tZ dayZ alZ ndZ bbZ ooZ KZ FZ knZ ke so zz el qk qf th ov H) (hfr : ∀ q : Nat, q < H.size → (∃ j, 25 ≤ j ∧ j < 41 ∧ q = ad j) → H1[q]? = H[q]?) : MU dC dI cI cL ad hi n d t day al nd bb oo K F kn nZ dZ tZ dayZ alZ ndZ bbZ ooZ KZ FZ knZ ke so zz el qk qf th ov H1 := by
  obtain ⟨po, ba, en, se, nR, dR, tR, dayR, alR, ndR, bbR, ooR, KR, FR, knR, nM, dM, tM, dayM, alM, ndM, bbM, ooM, KM, FM, knM, nu, fe, ea, pr, hP⟩ := h
  exact ⟨po, ba, en, se, nR, dR, tR, dayR, alR, ndR, bbR, ooR, KR, FR, knR, nM, dM, tM, dayM, alM, ndM, bbM, ooM, KM, FM, knM, nu, fe, ea, pr, hP.kept (fun i q hq => by
    obtain ⟨a1, a2⟩ := ws_at (ad := ad) (b := 25) (k := 16) (show (MW cI cL ad hi th po ba en se n d t day al nd bb oo K F kn nZ dZ tZ dayZ alZ ndZ bbZ ooZ KZ FZ knZ nR dR tR dayR alR ndR bbR ooR KR FR knR nM dM tM dayM alM ndM bbM ooM KM FM knM ke so zz el qk qf nu fe ea pr ov).map Prod.fst = adL ad 25 16 from rfl) hq
    exact hfr q.1 ((hP i q hq).lt) ⟨25 + i, by omega, by omega, a2⟩)⟩
theorem CiI.mono {B2 : Nat} (h : CiI B n d t day al nd bb oo K F kn nZ dZ tZ dayZ alZ ndZ bbZ ooZ KZ FZ knZ ke so zz qk qf) (hb : B ≤ B2) : CiI B2 n d t day al nd bb oo K F kn nZ dZ tZ dayZ alZ ndZ bbZ ooZ KZ FZ knZ ke so zz qk qf := ⟨h.1, h.2.1, Nat.le_trans h.2.2.1 hb, Nat.le_trans h.2.2.2.1 hb, h.2.2.2.2⟩
theorem XS.mono {B2 : Nat} (h : XS dC dI cI cD cR ad s0 B hi n d t day al nd bb oo K F kn nZ dZ tZ dayZ alZ ndZ bbZ ooZ KZ FZ knZ ke so zz el qk qf H) (hb : B ≤ B2) : XS dC dI cI cD cR ad s0 B2 hi n d t day al nd bb oo K F kn nZ dZ tZ dayZ alZ ndZ bbZ ooZ KZ FZ knZ ke so zz el qk qf H := ⟨h.1.mono hb, h.2⟩
end LAWW
/-- an end: the answer v, both sides so, nothing older changed -/
abbrev LQ (s0 : Nat) (v : Int32) (P : Heap → Prop) : Array Value → State → Outcome → State → Prop := va_Qi (fun r (_ : Unit) => r = v) (fun _ T9 => P T9.heap) (fun q => s0 ≤ q)
/-- a call that changes nothing -/
theorem met_ro {l : Launch} {y : MethodName} {ws : List Cond} {rm rm0 : Room} {dC : Nat → ClassId} {dI : Nat → Nat → Nat} {cI cD cR : ClassId} {av : List Value} {P : Heap → Prop} {P0 : Heap → Prop} {v w : Int32} {s0 : Nat} (hM : Met l y ws rm0 (pcR dC dI cI cD cR av P0) (vp_Si (fun r => r = w)) 0 0 (fun _ => False)) (hr : rm0.frames ≤ rm.frames ∧ rm0.locals ≤ rm.locals ∧ rm0.cells ≤ rm.cells ∧ rm0.slots ≤ rm.slots) (h : ∀ H, P H → P0 H) (hv : w = v) : Met l y ws rm (pcR dC dI cI cD cR av P) (LQ s0 v P) 0 0 (fun q => s0 ≤ q) := by
  refine met_cs (fun a s hs => ⟨rm0, _, _, 0, 0, _, hM, hr, ⟨Nat.le_refl 0, Nat.le_refl 0⟩, ⟨hs.1, h _ hs.2.1, hs.2.2⟩, ?_, fun q hq => hq.elim⟩)
  rintro o t ⟨r, ho, hr9, hh⟩
  exact ⟨⟨r, (), ho, hr9.trans hv, by show P t.heap; rw [hh]; exact hs.2.1⟩, by rw [hh]; exact Nat.le_refl _, fun q _ _ => by rw [hh]⟩
