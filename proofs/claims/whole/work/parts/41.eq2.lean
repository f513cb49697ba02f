theorem tx_of {rf el : Nat → Int32} {y z : Nat} (h : ∀ i, i < z → el (100 * y + i) = rf i) : TX (atR z rf) (hrG el (100 * y) z) z := by
  have hin : ∀ p, p < z → atR z rf p = hrG el (100 * y) z p := fun p hp => by
    rw [← hr_t hp, h p hp]
    simp [atR, hp]
  refine ⟨hin, fun p => ?_⟩
  by_cases hp : p < z
  · rw [hin p hp]; exact ⟨rfl, rfl, Iff.rfl⟩
  · rw [← hr_f (el := el) (ba := 100 * y) hp, show atR z rf p = 0 by simp [atR, hp]]
    decide
