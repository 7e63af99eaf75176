/-! exact results as the model lays them -/
theorem mem_op {c r k i : Nat} {u : Int64} (hC : Cr c r) (hi : i < al c r) (ht : tb u i = false) (hk : k = fb_ct (fun l => !tb u l) i) : k < und c r u ∧ mem (opl c r u) k = i := by
  have h1 : tb (opl c r u) i = true := by rw [tb_opl hC, decide_eq_true hi, ht]; rfl
  have h2 : fb_ct (tb (opl c r u)) i = k := by
    rw [hk]
    exact fb_ct_cong (fun j hj => by rw [tb_opl hC, decide_eq_true (by omega), Bool.true_and])
  have h3 := mem_ct (lt_al hC hi) h1
  rw [h2, opl_pop hC] at h3
  exact h3
theorem mem_und {c r k : Nat} {u : Int64} (hC : Cr c r) (hk : k < und c r u) : mem (opl c r u) k < al c r ∧ tb u (mem (opl c r u) k) = false := by
  have h := (mem_is (S := opl c r u) (i := k) (by rw [opl_pop hC]; exact hk)).2.2.1
  rw [tb_opl hC, Bool.and_eq_true, decide_eq_true_eq] at h
  exact ⟨h.1, by simpa using h.2⟩
def wiF (c r : Nat) (u : Int64) (s : Nat) : Nat → Int64
  | 0 => u
  | n + 1 => if s.testBit n then wiF c r u s n else wiF c r u s n ||| b1 (mem (opl c r u) n)
theorem tb_wiF {c r s : Nat} {u : Int64} (hC : Cr c r) (j : Nat) : ∀ n, n ≤ und c r u → tb (wiF c r u s n) j = (tb u j || orb (fun k => !s.testBit k && decide (j = mem (opl c r u) k)) n)
  | 0, _ => by rw [wiF, orb, Bool.or_false]
  | n + 1, h => by
    have ih := tb_wiF (u := u) hC (s := s) j n (by omega)
    rw [wiF, orb]
    have hm := (mem_und hC h).1
    by_cases q : s.testBit n = true
    · rw [if_pos q, ih, q]; simp
    · have q2 : s.testBit n = false := by simpa using q
      rw [if_neg q, tb_or, ih, tb_b1 (lt_al hC hm), q2, Bool.or_assoc]; rfl
theorem wiF_end {c r s : Nat} {u : Int64} (hC : Cr c r) (hu : Onb c r u) : wiF c r u s (und c r u) = pS c r (opl c r u) s := by
  apply tb_ext
  intro j hj
  rw [tb_wiF hC j _ (Nat.le_refl _), tb_pS hC]
  cases e : tb u j with
  | true =>
    have h1 := hu j e
    have h2 : tb (oS (opl c r u) s) j = false := by
      rw [Bool.eq_false_iff]
      intro z
      obtain ⟨i, hi, _, hm⟩ := tb_oS.mp z
      rw [opl_pop hC] at hi
      have := (mem_und hC hi).2
      rw [← hm, e] at this
      cases this
    rw [h2, decide_eq_true h1]; rfl
  | false =>
    rw [Bool.false_or]
    by_cases h1 : j < al c r
    · obtain ⟨h2, h3⟩ := mem_op hC h1 e rfl
      have h4 := tb_oS_mem (S := opl c r u) (s := s) (by rw [opl_pop hC]; exact h2)
      rw [h3] at h4
      rw [h4, decide_eq_true h1, Bool.true_and, Bool.eq_iff_iff, orb_iff]
      constructor
      · rintro ⟨k, hk, q⟩
        rw [Bool.and_eq_true, decide_eq_true_eq] at q
        have := mem_inj (S := opl c r u) (by rw [opl_pop hC]; exact hk) (by rw [opl_pop hC]; exact h2) (by rw [h3]; exact q.2.symm)
        rw [← this]; exact q.1
      · intro q
        exact ⟨_, h2, by rw [q, decide_eq_true h3.symm]; rfl⟩
    · rw [decide_eq_false h1, Bool.false_and, Bool.eq_false_iff]
      intro z
      obtain ⟨k, hk, q⟩ := orb_iff.mp z
      rw [Bool.and_eq_true, decide_eq_true_eq] at q
      have := (mem_und hC hk).1
      omega
theorem ixF_full (S : Int64) : ∀ n, n ≤ pop S → ixF S S n = 2 ^ n - 1
  | 0, _ => rfl
  | n + 1, h => by
    rw [ixF, if_pos (mem_is (by omega)).2.2.1, ixF_full S n (by omega)]
    have := Nat.two_pow_pos n
    rw [Nat.pow_succ]
    omega
theorem pS_full {c r : Nat} {w : Int64} (hC : Cr c r) (hw : Onb c r w) : pS c r (opl c r w) (2 ^ und c r w - 1) = w := by
  have h := pS_of (S := opl c r w) hC hw (fun _ q => q)
  rw [ixF_full _ _ (Nat.le_refl _), opl_pop hC] at h
  exact h
theorem gw_end2 {c r s : Nat} {S : Int64} {z : Int} (hC : Cr c r) (hS : ∀ j, tb S j = true → j < al c r) (h0 : s ≠ 0) (hs : s < 2 ^ pop S) (h1 : ∀ i, i < pop S → s.testBit i = true → wor c r (pS c r S s) (mem S i) ≤ z) (h2 : z = -100 ∧ (∀ i, i < pop S → s.testBit i = false) ∨ ∃ i, i < pop S ∧ s.testBit i = true ∧ z = wor c r (pS c r S s) (mem S i)) : z = out c r (pS c r S s) := by
  rcases h2 with ⟨-, q⟩ | q
  · have h := gw_end (z := -1000) hC hS h0 hs (fun i hi hb => by rw [q i hi] at hb; cases hb) (Or.inl ⟨rfl, q⟩)
    have := out_b hC (pS c r S s)
    omega
  · exact gw_end hC hS h0 hs h1 (Or.inr q)
theorem full_bit {n i : Nat} (h : i < n) : (2 ^ n - 1).testBit i = true := by
  rw [Nat.testBit_two_pow_sub_one, decide_eq_true h]
theorem und_siz {c r : Nat} {w : Int64} (hC : Cr c r) (hw : Onb c r w) : siz w + und c r w = al c r := by
  have hq := hC.q
  have h1 := fb_ct_not (tb w) (al c r)
  unfold siz und
  rw [show 40 = al c r + (40 - al c r) by omega, fb_ct_split]
  have : fb_ct (fun k => tb w (al c r + k)) (40 - al c r) = 0 := fb_ct_zero.mpr (fun k _ => by
    cases e : tb w (al c r + k) with
    | false => rfl
    | true => have := hw _ e; omega)
  rw [this]
  omega
/-- the best so far, the first of them -/
def BsX (c r : Nat) (u : Int64) (i : Nat) (x : Int32) (z : Int) : Prop := (i = 0 ∧ x = -1) ∨ ∃ b, b < i ∧ x = nI (mem (opl c r u) b) ∧ z = wor c r u (mem (opl c r u) b) ∧ (∀ k, k < i → wor c r u (mem (opl c r u) k) ≤ z) ∧ ∀ k, k < b → wor c r u (mem (opl c r u) k) < z
theorem BsX.new {c r i : Nat} {u : Int64} {x : Int32} {z : Int} (h : BsX c r u i x z) (hl : i = 0 ∨ z < wor c r u (mem (opl c r u) i)) : BsX c r u (i + 1) (nI (mem (opl c r u) i)) (wor c r u (mem (opl c r u) i)) := by
  refine Or.inr ⟨i, by omega, rfl, rfl, ?_, ?_⟩
  · rcases h with ⟨h1, _⟩ | ⟨b, _, _, _, h4, _⟩
    · intro k hk
      have : k = i := by omega
      rw [this]; exact Int.le_refl _
    · refine lt_s (fun k hk => ?_) (Int.le_refl _)
      have := h4 k hk
      omega
  · rcases h with ⟨h1, _⟩ | ⟨b, _, _, _, h4, _⟩
    · intro k hk; omega
    · intro k hk
      have := h4 k hk
      omega
theorem BsX.old {c r i : Nat} {u : Int64} {x : Int32} {z : Int} (h : BsX c r u i x z) (hi : i ≠ 0) (hl : wor c r u (mem (opl c r u) i) ≤ z) : BsX c r u (i + 1) x z := by
  rcases h with ⟨h1, _⟩ | ⟨b, h1, h2, h3, h4, h5⟩
  · exact absurd h1 hi
  · exact Or.inr ⟨b, by omega, h2, h3, lt_s h4 hl, h5⟩
theorem BsX.none {c r i : Nat} {u : Int64} {x : Int32} {z : Int} (hC : Cr c r) (h : BsX c r u i x z) (hi : i ≤ und c r u) (hx : x = -1) : i = 0 := by
  rcases h with ⟨h1, _⟩ | ⟨b, h1, h2, _⟩
  · exact h1
  · have := (mem_und (u := u) hC (k := b) (by omega)).1
    have := hC.q
    exact absurd (h2.symm.trans hx) (nI_nm1 (by omega))
theorem BsX.pos {c r i : Nat} {u : Int64} {x : Int32} {z : Int} (h : BsX c r u i x z) (hx : ¬ x = -1) : i ≠ 0 := by
  rcases h with ⟨_, h2⟩ | ⟨b, h1, _⟩
  · exact absurd h2 hx
  · omega
theorem BsX.zb {c r i : Nat} {u : Int64} {x : Int32} {z : Int} (hC : Cr c r) (h : BsX c r u i x z) (hx : ¬ x = -1) : -18 ≤ z ∧ z ≤ 18 := by
  rcases h with ⟨_, h2⟩ | ⟨b, _, _, h3, _⟩
  · exact absurd h2 hx
  · rw [h3]; exact wor_b hC u
theorem BsX.all {c r : Nat} {u : Int64} {x : Int32} {z : Int} (hC : Cr c r) (hu : Onb c r u) (h : BsX c r u (und c r u) x z) : x = oI (blM c r u) := by
  rcases h with ⟨h1, h2⟩ | ⟨b, h1, h2, h3, h4, h5⟩
  · rw [bl_no (S := opl c r u) hC (fun _ q => q) (fun k hk => by rw [opl_pop hC] at hk; omega), h2]
    rfl
  · have hb := mem_und hC h1
    have e : z = out c r u := by
      have p2 := Nat.two_pow_pos (und c r u)
      have g : z = out c r (pS c r (opl c r u) (2 ^ und c r u - 1)) := gw_end2 hC (opl_lt hC u) (by have := Nat.pow_lt_pow_right (a := 2) (by decide) (show 0 < und c r u by omega); omega) (by rw [opl_pop hC]; omega) (fun i hi _ => by rw [pS_full hC hu]; exact h4 i (by rw [opl_pop hC] at hi; exact hi)) (Or.inr ⟨b, by rw [opl_pop hC]; exact h1, full_bit h1, by rw [pS_full hC hu]; exact h3⟩)
      rw [pS_full hC hu] at g
      exact g
    rw [bl_at (S := opl c r u) hC (fun _ q => q) (by rw [opl_pop hC]; exact h1) hb.2 (by rw [← h3, e]) (fun k hk _ q => by have := h5 k hk; omega) (opl_lt hC u), h2]
    rfl
theorem or_0 (x : Int64) : x ||| 0 = x := by
  apply tb_ext
  intro k _
  rw [tb_or, tb_0, Bool.or_false]
theorem onb_or {c r l : Nat} {w : Int64} (hC : Cr c r) (h : Onb c r w) (hl : l < al c r) : Onb c r (w ||| b1 l) := by
  intro j hj
  rw [tb_or, tb_b1 (lt_al hC hl), Bool.or_eq_true, decide_eq_true_eq] at hj
  rcases hj with q | q
  · exact h j q
  · omega
