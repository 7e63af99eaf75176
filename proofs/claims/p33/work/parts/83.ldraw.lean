/-! p33: a line drawn; the law's rows of owners, moves, movers -/
theorem mkO_iff {c r li b : Nat} {w : Int64} {wo : Nat → Int32} {v : Int32} (hC : Cr c r) (hl : li < al c r) (ht : tb w li = false) (hb : b < c * r) : mkO c r (w ||| b1 li) li wo v b = if opn c r w b = 1 ∧ opn c r (w ||| b1 li) b = 0 then v else wo b := by
  rw [mkO_at]
  have e := new_iff (w := w) hC hl ht hb
  have d := opn_draw hC hb hl w
  have k : ((bes c r li 0 = some b ∨ bes c r li 1 = some b) ∧ opn c r (w ||| b1 li) b = 0) ↔ (opn c r w b = 1 ∧ opn c r (w ||| b1 li) b = 0) := by
    rw [e, Bool.and_eq_true, decide_eq_true_eq]
    constructor
    · intro ⟨h1, h2⟩
      rw [h1, ht] at d
      have d2 : opn c r (w ||| b1 li) b + 1 = opn c r w b := d
      exact ⟨h2, by omega⟩
    · intro ⟨h1, h2⟩
      refine ⟨?_, h1⟩
      cases q : isd c r b li with
      | true => rfl
      | false =>
        rw [q, Bool.false_and] at d
        have d2 : opn c r (w ||| b1 li) b + 0 = opn c r w b := d
        omega
  by_cases z : opn c r w b = 1 ∧ opn c r (w ||| b1 li) b = 0
  · rw [if_pos z, if_pos (k.mpr z)]
  · rw [if_neg z, if_neg (fun q => z (k.mp q))]
theorem dr_yes {c r li i : Nat} {w : Int64} {wo f : Nat → Int32} {v : Int32} (hC : Cr c r) (hl : li < al c r) (ht : tb w li = false) (hi : i < c * r) (h : ∀ b, b < 16 → f b = if b < i then mkO c r (w ||| b1 li) li wo v b else wo b) (h1 : opn c r w i = 1) (h2 : opn c r (w ||| b1 li) i = 0) : ∀ b, b < 16 → upd f i v b = if b < i + 1 then mkO c r (w ||| b1 li) li wo v b else wo b := fun b hb => by
  by_cases e : b = i
  · rw [e, pk_us, if_pos (by omega), mkO_iff hC hl ht hi, if_pos ⟨h1, h2⟩]
  · rw [pk_un e, h b hb]
    by_cases q : b < i
    · rw [if_pos q, if_pos (by omega)]
    · rw [if_neg q, if_neg (by omega)]
theorem dr_no {c r li i : Nat} {w : Int64} {wo f : Nat → Int32} {v : Int32} (hC : Cr c r) (hl : li < al c r) (ht : tb w li = false) (hi : i < c * r) (h : ∀ b, b < 16 → f b = if b < i then mkO c r (w ||| b1 li) li wo v b else wo b) (h1 : ¬ opn c r w i = 1 ∨ ¬ opn c r (w ||| b1 li) i = 0) : ∀ b, b < 16 → f b = if b < i + 1 then mkO c r (w ||| b1 li) li wo v b else wo b := fun b hb => by
  rw [h b hb]
  by_cases e : b = i
  · rw [e, if_neg (Nat.lt_irrefl _), if_pos (by omega), mkO_iff hC hl ht hi, if_neg (fun q => h1.elim (fun z => z q.1) (fun z => z q.2))]
  · by_cases q : b < i
    · rw [if_pos q, if_pos (by omega)]
    · rw [if_neg q, if_neg (by omega)]
theorem dr_end {c r li i b : Nat} {u : Int64} {wo : Nat → Int32} {v : Int32} (hC : Cr c r) (hl : li < al c r) (hi : c * r ≤ i) : (if b < i then mkO c r u li wo v b else wo b) = mkO c r u li wo v b := by
  by_cases q : b < i
  · rw [if_pos q]
  · rw [if_neg q, mkO_at, if_neg]
    intro ⟨h, _⟩
    rcases h with z | z
    · have := bes_lt hC hl z; omega
    · have := bes_lt hC hl z; omega
