theorem mn12 {n : Nat} (h : n ≤ 12) : mnI (nI n) (nI 12) = nI n := by
  unfold mnI
  rw [if_neg]
  intro q
  have := (nI_ltI (by decide) (by omega)).mp q
  omega
theorem gw_s {c r i s : Nat} {S : Int64} {z : Int} (hb : s.testBit i = true) (hw : -18 ≤ wor c r (pS c r S s) (mem S i) ∧ wor c r (pS c r S s) (mem S i) ≤ 18) (h : z = -1000 ∧ (∀ k, k < i → s.testBit k = false) ∨ ∃ k, k < i ∧ s.testBit k = true ∧ z = wor c r (pS c r S s) (mem S k)) : max z (wor c r (pS c r S s) (mem S i)) = -1000 ∧ (∀ k, k < i + 1 → s.testBit k = false) ∨ ∃ k, k < i + 1 ∧ s.testBit k = true ∧ max z (wor c r (pS c r S s) (mem S i)) = wor c r (pS c r S s) (mem S k) := by
  right
  rcases Int.le_total z (wor c r (pS c r S s) (mem S i)) with q | q
  · exact ⟨i, by omega, hb, by omega⟩
  · rcases h with ⟨h, -⟩ | ⟨k, k1, k2, k3⟩
    · exact ⟨i, by omega, hb, by omega⟩
    · exact ⟨k, by omega, k2, by omega⟩
theorem bl_at {c r i : Nat} {S w : Int64} (hC : Cr c r) (hsub : ∀ j, tb (opl c r w) j = true → tb S j = true) (hi : i < pop S) (ht : tb w (mem S i) = false) (he : wor c r w (mem S i) = out c r w) (hno : ∀ k, k < i → tb w (mem S k) = false → ¬ wor c r w (mem S k) = out c r w) (hS : ∀ j, tb S j = true → j < al c r := by assumption) : blM c r w = some (mem S i) := by
  have hl := hS _ (mem_is hi).2.2.1
  refine fst1_some (fun l hl2 => ?_) (by rw [ht, he]; simp) hl
  cases q : tb w l with
  | true => rfl
  | false =>
    have hla : l < al c r := by omega
    have h64 := lt_al hC hla
    obtain ⟨m1, m2⟩ := mem_ct h64 (hsub l (by rw [tb_opl hC, q, decide_eq_true hla]; rfl))
    have lt : fb_ct (tb S) l < i := by
      rcases Nat.lt_or_ge (fb_ct (tb S) l) i with z | z
      · exact z
      · rcases Nat.eq_or_lt_of_le z with z | z
        · rw [z, m2] at hl2
          omega
        · have := mem_lt m1 z
          omega
    rw [Bool.not_false, Bool.true_and, decide_eq_false_iff_not, ← m2]
    exact hno _ lt (by rw [m2]; exact q)
theorem bl_no {c r : Nat} {S w : Int64} (hC : Cr c r) (hsub : ∀ j, tb (opl c r w) j = true → tb S j = true) (hno : ∀ k, k < pop S → tb w (mem S k) = false → ¬ wor c r w (mem S k) = out c r w) : blM c r w = none := by
  refine fst1_none (fun l hl => ?_)
  cases q : tb w l with
  | true => rfl
  | false =>
    obtain ⟨m1, m2⟩ := mem_ct (lt_al hC hl) (hsub l (by rw [tb_opl hC, q, decide_eq_true hl]; rfl))
    rw [Bool.not_false, Bool.true_and, decide_eq_false_iff_not, ← m2]
    exact hno _ m1 (by rw [m2]; exact q)
