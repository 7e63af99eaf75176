/-! p33: the strings' check -/
theorem thk_wth {c r : Nat} {w : Int64} : wth c r w 3 + wth c r w 4 = thk c r w := by
  unfold wth thk
  rw [← fb_ct_or (p := fun b => decide (opn c r w b = 3)) (q := fun b => decide (opn c r w b = 4)) (fun k _ => by
    intro ⟨h1, h2⟩
    rw [decide_eq_true_eq] at h1 h2
    omega)]
  refine fb_ct_cong (fun k _ => ?_)
  have h := opn_le c r w k
  rw [Bool.eq_iff_iff, Bool.or_eq_true, decide_eq_true_eq, decide_eq_true_eq, decide_eq_true_eq]
  omega
theorem na_neg {c r b : Nat} {w : Int64} {f : Nat → Int32} (hC : Cr c r) (h : NaR c r w f) (hb : b < c * r) (hf : f b < 0) : labO c r w b = none := by
  have h16 := hC.q
  have e := h b (by omega)
  rw [decide_eq_true hb, Bool.true_and] at e
  unfold labO
  cases q : thn c r w b with
  | false => rfl
  | true =>
    rw [q] at e
    have e2 : f b = nI (rep c r w b) := e
    rw [e2] at hf
    have := rep_le (c := c) (r := r) (w := w) q
    exact absurd hf (nI_pos (by omega))
theorem na_pos {c r b : Nat} {w : Int64} {f : Nat → Int32} (hC : Cr c r) (h : NaR c r w f) (hb : b < c * r) (hf : ¬ f b < 0) : f b = nI (rep c r w b) ∧ rep c r w b ≤ b ∧ labO c r w b = some (fb_ct (isr c r w) (rep c r w b)) := by
  have h16 := hC.q
  have e := h b (by omega)
  rw [decide_eq_true hb, Bool.true_and] at e
  unfold labO
  cases q : thn c r w b with
  | false =>
    rw [q] at e
    have e2 : f b = -1 := e
    rw [e2] at hf
    exact absurd (by decide) hf
  | true =>
    rw [q] at e
    exact ⟨e, rep_le q, rfl⟩
theorem na_isr {c r b : Nat} {w : Int64} {f : Nat → Int32} (hC : Cr c r) (h : NaR c r w f) (hb : b < c * r) : (f b = nI b → isr c r w b = true) ∧ (¬ f b = nI b → isr c r w b = false) := by
  have e := na_self h (by have := hC.q; omega : b < 16)
  rw [decide_eq_true hb, Bool.true_and] at e
  exact ⟨fun q => by rw [← e, decide_eq_true q], fun q => by rw [← e, decide_eq_false q]⟩
theorem iI_cv8 {c r k : Nat} {w : Int64} (h : slop c r w k = true) : iI ((ssz c r w k : Int) - 8) = iI (cvF c r w k) := by
  unfold cvF
  rw [sdis_y h, if_neg (by decide)]; rfl
theorem iI_cv4 {c r k : Nat} {w : Int64} (h : slop c r w k = false) (h3 : 2 < ssz c r w k) : iI ((ssz c r w k : Int) - 4) = iI (cvF c r w k) := by
  unfold cvF
  rw [sd4 h h3, if_neg (by decide)]; rfl
theorem iI_cv0 {c r k : Nat} {w : Int64} (h : slop c r w k = false) (h3 : ssz c r w k ≤ 2) : iI 0 = iI (cvF c r w k) := by
  unfold cvF
  rw [sd0 h (by omega), if_pos rfl]
