/-! the solver's rows hold the values -/
def BeOK (c r : Nat) (S : Int64) (be : Nat → Int32) (n : Nat) : Prop := ∀ s, s < n → be s = iI (out c r (pS c r S s))
def SlOK (c r : Nat) (S : Int64) (ln : Nat → Int32) (n : Nat) : Prop := ∀ i, i < n → ln i = nI (mem S i)
def FxOK (c r : Nat) (S : Int64) (f1 f2 : Nat → Int32) (n : Nat) : Prop := ∀ i, i < n → f1 i = nI (ixF S (sdO c r (fbM c r (mem S i))) (pop S)) ∧ f2 i = nI (ixF S (sdO c r (gbM c r (mem S i))) (pop S))
def SoOK (c r : Nat) (S : Int64) (am : Int32) (ln f1 f2 be : Nat → Int32) : Prop := (∀ j, tb S j = true → j < al c r) ∧ pop S ≤ 12 ∧ am = nI (pop S) ∧ SlOK c r S ln (pop S) ∧ FxOK c r S f1 f2 (pop S) ∧ BeOK c r S be (2 ^ pop S)
theorem und_pS {c r s : Nat} {S : Int64} (hC : Cr c r) (hS : ∀ j, tb S j = true → j < al c r) (h0 : s ≠ 0) (hs : s < 2 ^ pop S) : und c r (pS c r S s) ≠ 0 := by
  obtain ⟨i, hi⟩ := Nat.exists_testBit_of_ne_zero h0
  have hlt : i < pop S := by
    rcases Nat.lt_or_ge i (pop S) with q | q
    · exact q
    · rw [Nat.testBit_lt_two_pow (Nat.lt_of_lt_of_le hs (Nat.pow_le_pow_right (by decide) q))] at hi
      cases hi
  have := und_pos (hS _ (mem_is hlt).2.2.1) (w := pS c r S s) (by rw [pS_mem hC hS hlt, hi]; rfl)
  omega
theorem gw_end {c r s : Nat} {S : Int64} {z : Int} (hC : Cr c r) (hS : ∀ j, tb S j = true → j < al c r) (h0 : s ≠ 0) (hs : s < 2 ^ pop S) (h1 : ∀ i, i < pop S → s.testBit i = true → wor c r (pS c r S s) (mem S i) ≤ z) (h2 : z = -1000 ∧ (∀ i, i < pop S → s.testBit i = false) ∨ ∃ i, i < pop S ∧ s.testBit i = true ∧ z = wor c r (pS c r S s) (mem S i)) : z = out c r (pS c r S s) := by
  rw [out_eq hC (und_pS hC hS h0 hs)]
  rcases h2 with ⟨-, h2⟩ | ⟨i, hi, hb, e⟩
  · have : s = 0 := by
      apply Nat.eq_of_testBit_eq
      intro j
      rw [Nat.zero_testBit]
      rcases Nat.lt_or_ge j (pop S) with q | q
      · exact h2 j q
      · exact Nat.testBit_lt_two_pow (Nat.lt_of_lt_of_le hs (Nat.pow_le_pow_right (by decide) q))
    exact absurd this h0
  · refine (mxZ_is (fun l hl hp => ?_) ⟨mem S i, hS _ (mem_is hi).2.2.1, by rw [pS_mem hC hS hi, hb]; rfl, e.symm⟩ ?_).symm
    · obtain ⟨k, k1, k2, k3⟩ := pS_open hC hl (by simpa using hp)
      rw [k3]
      exact h1 k k1 k2
    · have := wor_b (l := mem S i) hC (pS c r S s)
      omega
/-- a position whose open lines are among those of S -/
theorem pS_of {c r : Nat} {S w : Int64} (hC : Cr c r) (hw : Onb c r w) (h : ∀ j, tb (opl c r w) j = true → tb S j = true) : pS c r S (ixF S (opl c r w) (pop S)) = w := by
  apply tb_ext
  intro j hj
  rw [tb_pS hC]
  by_cases q : j < al c r
  · rw [decide_eq_true q, Bool.true_and]
    cases e : tb w j with
    | true =>
      rw [Bool.not_eq_true', Bool.eq_false_iff]
      intro z
      obtain ⟨i, i1, i2, i3⟩ := tb_oS.mp z
      rw [ixF_bit, decide_eq_true i1, Bool.true_and, ← i3, tb_opl hC, e] at i2
      simp at i2
    | false =>
      have o : tb (opl c r w) j = true := by rw [tb_opl hC, e, decide_eq_true q]; rfl
      obtain ⟨m1, m2⟩ := mem_ct hj (h j o)
      rw [Bool.not_eq_false']
      exact tb_oS.mpr ⟨_, m1, by rw [ixF_bit, decide_eq_true m1, m2, o]; rfl, m2.symm⟩
  · rw [decide_eq_false q, Bool.false_and]
    cases e : tb w j with
    | false => rfl
    | true => exact absurd (hw j e) q
/-- the lowest line with the greatest worth -/
def blM (c r : Nat) (w : Int64) : Option Nat := fst1 (fun l => !tb w l && decide (wor c r w l = out c r w)) (al c r)
theorem opl_pop {c r : Nat} (hC : Cr c r) (w : Int64) : pop (opl c r w) = und c r w := pop_of hC (fun j => tb_opl hC w j)
theorem opl_lt {c r : Nat} (hC : Cr c r) (w : Int64) : ∀ j, tb (opl c r w) j = true → j < al c r := by
  intro j h
  rw [tb_opl hC, Bool.and_eq_true, decide_eq_true_eq] at h
  exact h.1
theorem be_0 {c r : Nat} {S : Int64} (hC : Cr c r) : out c r (pS c r S 0) = 0 := by
  apply out_0
  rcases Nat.eq_zero_or_pos (und c r (pS c r S 0)) with q | q
  · exact q
  · obtain ⟨l, hl, h⟩ := und_ex (Nat.ne_of_gt q)
    obtain ⟨i, -, h2, -⟩ := pS_open hC hl h
    rw [Nat.zero_testBit] at h2
    cases h2
theorem pow12 {n s : Nat} (hn : n ≤ 12) (hs : s < 2 ^ n) : s < 4096 := Nat.lt_of_lt_of_le hs (Nat.pow_le_pow_right (by decide) hn)
theorem sub0 {x y : Int64} (h : x &&& (y ^^^ (-1 : Int64)) = 0) : ∀ j, tb x j = true → tb y j = true := by
  intro j q
  rcases Nat.lt_or_ge j 64 with z | z
  · have := tb_zero.mp h j z
    rw [tb_and, tb_not z, q] at this
    simpa using this
  · rw [tb_big z] at q
    cases q
