/-! told disputes: by the kinds that there are -/
section D3C
variable {al n d : Nat} {nd K F K' F' : Nat → Nat} {g : Nat → Int32} {x s : Nat} {u : D3}
theorem d3B_c (h1 : K x = K' x) (h2 : F x = F' x) : d3B al nd K F x s u = d3B al nd K' F' x s u := by simp only [d3B, mnB, h1, h2]
theorem d3Z_c (h1 : K x = K' x) : d3Z nd K x s u = d3Z nd K' x s u := by simp only [d3Z, h1]
theorem d3D_c (h1 : K x = K' x) : d3D nd K x s u = d3D nd K' x s u := by simp only [d3D, d3Z_c h1]
theorem d3T_c (h1 : K x = K' x) (h2 : F x = F' x) : d3T al nd K F x s u = d3T al nd K' F' x s u := by simp only [d3T, d3B_c h1 h2, d3D_c h1]
theorem rn_c (hK : ∀ j, j < d → K j = K' j) (hF : ∀ j, j < d → F j = F' j) (hd : d < 2 ^ 31) : ∀ m, adF g d n m = true → rnF al nd K F g u m = rnF al nd K' F' g u m ∧ rnM al nd K F g u m = rnM al nd K' F' g u m
  | 0, _ => ⟨rfl, rfl⟩
  | m + 1, h => by
    have hx := (nT_ok hd (adF_at h m (Nat.lt_succ_self m)).1).2
    simp only [adF, Bool.and_eq_true] at h
    obtain ⟨i1, i2⟩ := rn_c hK hF hd m h.1
    unfold rnF rnM
    rw [i1, i2, d3T_c (hK _ hx) (hF _ hx), d3B_c (hK _ hx) (hF _ hx)]
    exact ⟨rfl, rfl⟩
theorem sd_c (hK : ∀ j, j < d → K j = K' j) (hF : ∀ j, j < d → F j = F' j) (hd : 0 < d) {z : Int32} (m : Nat) : sdF_ al d n nd K F z u m = sdF_ al d n nd K' F' z u m := by
  induction m with
  | zero => rfl
  | succ m ih =>
    have hx : dwN (nsI (sdZ d n z m)) d < d := dwN_lt hd
    rw [sdF_s, sdF_s, ih]
    generalize dwN (nsI (sdZ d n z m)) d = a at hx ⊢
    generalize dwN (nsI (nsI (sdZ d n z m))) n = b
    exact d3T_c (hK a hx) (hF a hx)
theorem jd_c (hK : ∀ j, j < d → K j = K' j) (hF : ∀ j, j < d → F j = F' j) (hd : d < 2 ^ 31) {z : Nat} : ∀ m p (u : D3), jdF al n d nd K F g z m p u = jdF al n d nd K' F' g z m p u
  | 0, _, _ => rfl
  | m + 1, p, u => by
    unfold jdF
    by_cases h1 : p < z
    · rw [if_pos h1, if_pos h1]
      by_cases h2 : z < p + 3
      · rw [if_pos h2, if_pos h2]
      · rw [if_neg h2, if_neg h2]
        cases hx : okI (g p) d
        · rfl
        · have hxd := (nT_ok hd hx).2
          rw [d3B_c (hK _ hxd) (hF _ hxd), d3Z_c (hK _ hxd), d3D_c (hK _ hxd), jd_c hK hF hd m]
    · rw [if_neg h1, if_neg h1]
/-- by what a row holds, as far as it goes -/
theorem ad_c {g' : Nat → Int32} : ∀ m, (∀ i, i < 2 * m → g i = g' i) → adF g d n m = adF g' d n m
  | 0, _ => rfl
  | m + 1, h => by
    unfold adF
    rw [ad_c m (fun i hi => h i (by omega)), h (2 * m) (by omega), h (2 * m + 1) (by omega)]
theorem rn_g {g' : Nat → Int32} : ∀ m, (∀ i, i < 2 * m → g i = g' i) → rnF al nd K F g u m = rnF al nd K F g' u m ∧ rnM al nd K F g u m = rnM al nd K F g' u m
  | 0, _ => ⟨rfl, rfl⟩
  | m + 1, h => by
    obtain ⟨i1, i2⟩ := rn_g m (fun i hi => h i (by omega))
    unfold rnF rnM
    rw [i1, i2, h (2 * m) (by omega), h (2 * m + 1) (by omega)]
    exact ⟨rfl, rfl⟩
theorem jd_g {g' : Nat → Int32} {z : Nat} (h : ∀ i, i < z → g i = g' i) : ∀ m p (u : D3), jdF al n d nd K F g z m p u = jdF al n d nd K F g' z m p u
  | 0, _, _ => rfl
  | m + 1, p, u => by
    unfold jdF
    by_cases h1 : p < z
    · rw [if_pos h1, if_pos h1]
      by_cases h2 : z < p + 3
      · rw [if_pos h2, if_pos h2]
      · rw [if_neg h2, if_neg h2, h p (by omega), h (p + 1) (by omega), h (p + 2) (by omega), jd_g h m]
    · rw [if_neg h1, if_neg h1]
end D3C
/-! a text, by its places -/
def TX (g g' : Nat → Int32) (z : Nat) : Prop := (∀ p, p < z → g p = g' p) ∧ ∀ p, dbO (g p) = dbO (g' p) ∧ dgO (g p) = dgO (g' p) ∧ (g p = 59 ↔ g' p = 59)
section TXT
variable {g g' : Nat → Int32} {z : Nat}
theorem tx_dg (h : TX g g' z) (p : Nat) : ∀ k, dgC g p k = dgC g' p k
  | 0 => rfl
  | k + 1 => by
    have ih := tx_dg h p k
    unfold dgC
    rw [ih, (h.2 (p + k)).2.1]
theorem tx_sk (h : TX g g' z) (p : Nat) : stK g p = stK g' p := by unfold stK; rw [(h.2 p).1]
theorem tx_ok (h : TX g g' z) (p : Nat) : stOk g p = stOk g' p := by
  unfold stOk
  rw [(h.2 p).1, tx_sk h, tx_dg h, decide_eq_decide.mpr (h.2 (p + 1 + stK g' p)).2.2]
theorem tx_bad (h : TX g g' z) (p : Nat) : stBad g p = stBad g' p := by
  unfold stBad
  rw [(h.2 p).1, tx_sk h, tx_dg h]
theorem tx_fb (h : TX g g' z) : ∀ m p, fbE g z m p = fbE g' z m p
  | 0, _ => rfl
  | m + 1, p => by
    unfold fbE
    rw [tx_ok h, tx_sk h, tx_bad h, tx_fb h m]
theorem tx_cn (h : TX g g' z) : ∀ m p, cnF g z m p = cnF g' z m p
  | 0, _ => rfl
  | m + 1, p => by
    unfold cnF
    rw [tx_sk h, tx_cn h m]
theorem tx_ts (h : TX g g' z) : ∀ m p (u : SC), tsE g z m p u = tsE g' z m p u
  | 0, _, _ => rfl
  | m + 1, p, u => by
    unfold tsE
    by_cases hp : p < z
    · have e1 : dgN (g (p + 1)) = dgN (g' (p + 1)) := by unfold dgN; rw [(h.2 (p + 1)).2.1]
      have e2 : dgN (g (p + 2)) = dgN (g' (p + 2)) := by unfold dgN; rw [(h.2 (p + 2)).2.1]
      rw [if_pos hp, if_pos hp, h.1 p hp, e1, e2, tx_sk h]
      cases tlF (g' p) (dgN (g' (p + 1))) (dgN (g' (p + 2))) u with
      | none => rfl
      | some v => exact tx_ts h m _ v
    · rw [if_neg hp, if_neg hp]
theorem tx_R (h : TX g g' z) (u : SC) : scR g z u = scR g' z u := by
  unfold scR
  rw [tx_ts h, tx_cn h]
theorem tx_U (h : TX g g' z) (u : SC) : scU g z u = scU g' z u := by
  unfold scU
  rw [tx_ts h]
end TXT
