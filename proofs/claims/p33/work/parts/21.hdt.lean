theorem hdt_v {c r i : Nat} {w u : Int64} (hu : ∀ j, tb u j = (orb (fun b => decide (opn c r w b = 1) && isd c r b j) i && !tb w j)) (h : ¬ opn c r w i = 1) : ∀ j, tb u j = (orb (fun b => decide (opn c r w b = 1) && isd c r b j) (i + 1) && !tb w j) := by
  intro j
  rw [hu j, orb, decide_eq_false h, Bool.false_and, Bool.or_false]
theorem hdt_u {c r i : Nat} {w u : Int64} (hC : Cr c r) (hi : i < c * r) (hu : ∀ j, tb u j = (orb (fun b => decide (opn c r w b = 1) && isd c r b j) i && !tb w j)) (h : opn c r w i = 1) : ∀ j, tb (u ||| iOA c r w i) j = (orb (fun b => decide (opn c r w b = 1) && isd c r b j) (i + 1) && !tb w j) := by
  intro j
  rw [tb_or, hu j, orb, decide_eq_true h, Bool.true_and, tb_iOA hC hi]
  cases tb w j <;> simp
theorem hdt_n {c r i : Nat} {w : Int64} (hno : ∀ b a j, a < b → b < i → opn c r w b = 1 → opn c r w a = 1 → isd c r b j = true → isd c r a j = true → tb w j = true) (h : ¬ opn c r w i = 1) : ∀ b a j, a < b → b < i + 1 → opn c r w b = 1 → opn c r w a = 1 → isd c r b j = true → isd c r a j = true → tb w j = true := by
  intro b a j hab hb q
  rcases Nat.lt_or_ge b i with z | z
  · exact hno b a j hab z q
  · have : b = i := by omega
    subst this
    exact absurd q h
theorem hdt_s {c r i : Nat} {w u : Int64} (hC : Cr c r) (hi : i < c * r) (hu : ∀ j, tb u j = (orb (fun b => decide (opn c r w b = 1) && isd c r b j) i && !tb w j)) (hno : ∀ b a j, a < b → b < i → opn c r w b = 1 → opn c r w a = 1 → isd c r b j = true → isd c r a j = true → tb w j = true) (h : u &&& iOA c r w i = 0) : ∀ b a j, a < b → b < i + 1 → opn c r w b = 1 → opn c r w a = 1 → isd c r b j = true → isd c r a j = true → tb w j = true := by
  intro b a j hab hb q1 q2 q3 q4
  rcases Nat.lt_or_ge b i with z | z
  · exact hno b a j hab z q1 q2 q3 q4
  · have : b = i := by omega
    subst this
    have hj := lt_al hC (isd_al hC hi q3)
    have e := tb_zero.mp h j hj
    rw [tb_and, hu j, tb_iOA hC hi, q3, orb_iff.mpr ⟨a, hab, by rw [q2, q4]; rfl⟩] at e
    simpa using e
theorem hdt_yes {c r i : Nat} {w u : Int64} (hC : Cr c r) (hi : i < c * r) (hu : ∀ j, tb u j = (orb (fun b => decide (opn c r w b = 1) && isd c r b j) i && !tb w j)) (h1 : opn c r w i = 1) (h : ¬ u &&& iOA c r w i = 0) : hdt c r w = true := by
  have hp : 0 < pop (u &&& iOA c r w i) := Nat.pos_of_ne_zero (fun z => h (pop_zero.mp z))
  unfold pop at hp
  obtain ⟨j, hj, q⟩ := fb_ct_pos.mp hp
  rw [tb_and, hu j, tb_iOA hC hi, Bool.and_eq_true, Bool.and_eq_true, Bool.and_eq_true] at q
  obtain ⟨⟨q1, q2⟩, q3, -⟩ := q
  obtain ⟨a, ha, q4⟩ := orb_iff.mp q1
  rw [Bool.and_eq_true, decide_eq_true_eq] at q4
  have hl := isd_al hC hi q3
  have hne : a ≠ i := by omega
  have ha2 : a < c * r := by omega
  refine orb_iff.mpr ⟨j, hl, ?_⟩
  rw [q2, Bool.true_and, decide_eq_true_eq, gai_sum]
  have e1 := (isd_bes hC ha2 hl).mp q4.2
  have e2 := (isd_bes hC hi hl).mp q3
  rcases e1 with e1 | e1
  · rcases e2 with e2 | e2
    · rw [e1] at e2; cases e2; exact absurd rfl hne
    · rw [e1, e2]; simp [q4.1, h1]
  · rcases e2 with e2 | e2
    · rw [e1, e2]; simp [q4.1, h1]
    · rw [e1] at e2; cases e2; exact absurd rfl hne
theorem hdt_not {c r : Nat} {w : Int64} (hC : Cr c r) (hno : ∀ b a j, a < b → b < c * r → opn c r w b = 1 → opn c r w a = 1 → isd c r b j = true → isd c r a j = true → tb w j = true) : hdt c r w = false := by
  cases q : hdt c r w with
  | false => rfl
  | true =>
    obtain ⟨l, hl, h⟩ := orb_iff.mp q
    rw [Bool.and_eq_true, decide_eq_true_eq, gai_sum] at h
    obtain ⟨h0, h⟩ := h
    have hw : tb w l = false := by simpa using h0
    cases e0 : bes c r l 0 with
    | none =>
      rw [e0] at h
      cases e1 : bes c r l 1 with
      | none => rw [e1] at h; simp at h
      | some b => rw [e1] at h; simp only [Nat.zero_add] at h; split at h <;> cases h
    | some a =>
      rw [e0] at h
      cases e1 : bes c r l 1 with
      | none => rw [e1] at h; simp only [Nat.add_zero] at h; split at h <;> cases h
      | some b =>
        rw [e1] at h
        have ha := bes_lt hC hl e0
        have hb := bes_lt hC hl e1
        have ia := (isd_bes hC ha hl).mpr (Or.inl e0)
        have ib := (isd_bes hC hb hl).mpr (Or.inr e1)
        have o : opn c r w a = 1 ∧ opn c r w b = 1 := by
          simp only [decide_eq_true_eq] at h
          split at h <;> split at h <;> first | (constructor <;> assumption) | omega
        rcases Nat.lt_trichotomy a b with z | z | z
        · rw [hno b a l z hb o.2 o.1 ib ia] at hw; cases hw
        · subst z; exact absurd ⟨e0, e1⟩ (bes_ne hC hl)
        · rw [hno a b l z ha o.1 o.2 ia ib] at hw; cases hw
