theorem cho_is {c r st l : Nat} {w : Int64} (hC : Cr c r) (h : choM c r st w = some l) : l < al c r ∧ tb w l = false := by
  by_cases hu : und c r w = 0
  · rw [cho_none hu] at h
    cases h
  · obtain ⟨b, e, h1, h2⟩ := cho_ex (st := st) hC hu
    rw [h] at e
    cases e
    exact ⟨h1, h2⟩
theorem cho_no {c r st : Nat} {w : Int64} (hC : Cr c r) (h : choM c r st w = none) : und c r w = 0 := by
  by_cases hu : und c r w = 0
  · exact hu
  · obtain ⟨b, e, -, -⟩ := cho_ex (st := st) hC hu
    rw [h] at e
    cases e
