/-! p33: the properties of a string by its lines -/
noncomputable def hrL (c r : Nat) (w : Int64) (k l : Nat) : Nat := fb_ct (fun b => inS c r w k b && osd c r w b l) (c * r)
noncomputable def thL (c r : Nat) (w : Int64) (k l : Nat) : Nat := fb_ct (fun b => !inS c r w k b && osd c r w b l) (c * r)
noncomputable def loN (c r : Nat) (w : Int64) (k : Nat) : Nat := fb_ct (fun b => inS c r w k b && decide (opn c r w b = 1)) (c * r)
theorem hrL_eq {c r l k : Nat} {w : Int64} (hC : Cr c r) (hl : l < al c r) : hrL c r w k l = (if !tb w l && bsP (inS c r w k) c r l 0 then 1 else 0) + (if !tb w l && bsP (inS c r w k) c r l 1 then 1 else 0) := ct_osd hC hl (inS c r w k)
theorem thL_eq {c r l k : Nat} {w : Int64} (hC : Cr c r) (hl : l < al c r) : thL c r w k l = (if !tb w l && bsP (fun b => !inS c r w k b) c r l 0 then 1 else 0) + (if !tb w l && bsP (fun b => !inS c r w k b) c r l 1 then 1 else 0) := ct_osd hC hl (fun b => !inS c r w k b)
theorem hr_lin {c r l k : Nat} {w : Int64} (hC : Cr c r) (hl : l < al c r) : decide (0 < hrL c r w k l) = (!tb w l && orb (bsP (inS c r w k) c r l) 2) := by
  rw [hrL_eq hC hl, orb_two]
  cases tb w l <;> cases bsP (inS c r w k) c r l 0 <;> cases bsP (inS c r w k) c r l 1 <;> simp
theorem th_lin {c r l k : Nat} {w : Int64} (hC : Cr c r) (hl : l < al c r) : decide (0 < thL c r w k l) = (!tb w l && orb (bsP (fun b => !inS c r w k b) c r l) 2) := by
  rw [thL_eq hC hl, orb_two]
  cases tb w l <;> cases bsP (fun b => !inS c r w k b) c r l 0 <;> cases bsP (fun b => !inS c r w k b) c r l 1 <;> simp
theorem bsP_isd {q : Nat → Bool} {c r l m b : Nat} (hC : Cr c r) (hl : l < al c r) (hm : m < 2) (h : bes c r l m = some b) : b < c * r ∧ isd c r b l = true := by
  have hb := bes_lt hC hl h
  refine ⟨hb, (isd_bes hC hb hl).mpr ?_⟩
  rcases (show m = 0 ∨ m = 1 by omega) with e | e
  · rw [e] at h; exact Or.inl h
  · rw [e] at h; exact Or.inr h
theorem orb_bsP {q : Nat → Bool} {c r l : Nat} : orb (bsP q c r l) 2 = true ↔ ∃ m b, m < 2 ∧ bes c r l m = some b ∧ q b = true := by
  rw [orb_iff]
  constructor
  · intro ⟨m, hm, h⟩
    obtain ⟨b, h1, h2⟩ := bsP_t h
    exact ⟨m, b, hm, h1, h2⟩
  · intro ⟨m, b, hm, h1, h2⟩
    exact ⟨m, hm, by rw [bsP_s h1]; exact h2⟩
theorem in_beside {c r lo l m y b : Nat} {w : Int64} (hC : Cr c r) (hlo : lo < c * r) (hr : isr c r w lo = true) (hb : b < c * r) (hin : inS c r w (fb_ct (isr c r w) lo) b = true) (hl : isd c r b l = true) (hw : tb w l = false) (hm : m < 2) (hy : bes c r l m = some y) (hty : thn c r w y = true) : inS c r w (fb_ct (isr c r w) lo) y = true := by
  rw [inS_rep hlo hr hb, Bool.and_eq_true, decide_eq_true_eq] at hin
  obtain ⟨h1, h2⟩ := beside_in hC hb hin.1 hin.2 hl hw hm hy hty
  rw [inS_rep hlo hr h1, hty, decide_eq_true h2]; rfl
theorem in_thn {c r k b : Nat} {w : Int64} (h : inS c r w k b = true) : thn c r w b = true := by
  unfold inS at h
  rw [Bool.and_eq_true] at h
  exact h.1
theorem hr_mix {c r lo l : Nat} {w : Int64} (hC : Cr c r) (hlo : lo < c * r) (hr : isr c r w lo = true) (hl : l < al c r) :
    (decide (0 < hrL c r w (fb_ct (isr c r w) lo) l) && decide (0 < thL c r w (fb_ct (isr c r w) lo) l)) = (!tb w l && orb (bsP (inS c r w (fb_ct (isr c r w) lo)) c r l) 2 && orb (bsP (fun b => !thn c r w b) c r l) 2) := by
  rw [hr_lin hC hl, th_lin hC hl]
  cases ht : tb w l with
  | true => rfl
  | false =>
    cases ho : orb (bsP (inS c r w (fb_ct (isr c r w) lo)) c r l) 2 with
    | false => rfl
    | true =>
      have e : orb (bsP (fun b => !inS c r w (fb_ct (isr c r w) lo) b) c r l) 2 = orb (bsP (fun b => !thn c r w b) c r l) 2 := by
        rw [Bool.eq_iff_iff, orb_bsP, orb_bsP]
        obtain ⟨m0, b0, hm0, g1, g2⟩ := orb_bsP.mp ho
        obtain ⟨hb0, hi0⟩ := bsP_isd (q := fun _ => true) hC hl hm0 g1
        constructor
        · intro ⟨m, b, hm, h1, h2⟩
          refine ⟨m, b, hm, h1, ?_⟩
          cases q : thn c r w b with
          | false => rfl
          | true =>
            rw [in_beside hC hlo hr hb0 g2 hi0 ht hm h1 q] at h2
            cases h2
        · intro ⟨m, b, hm, h1, h2⟩
          refine ⟨m, b, hm, h1, ?_⟩
          cases q : inS c r w (fb_ct (isr c r w) lo) b with
          | false => rfl
          | true => rw [in_thn q] at h2; cases h2
      rw [e]; rfl
theorem hr_slop {c r lo : Nat} {w : Int64} (hC : Cr c r) (hlo : lo < c * r) (hr : isr c r w lo = true) :
    (andb (fun l => !decide (hrL c r w (fb_ct (isr c r w) lo) l = 1)) (al c r) && decide (loN c r w (fb_ct (isr c r w) lo) = 0)) = slop c r w (fb_ct (isr c r w) lo) := by
  rw [Bool.eq_iff_iff, Bool.and_eq_true, decide_eq_true_eq]
  unfold slop
  rw [andb_iff, andb_iff]
  constructor
  · intro ⟨h1, h2⟩ b hb
    cases hin : inS c r w (fb_ct (isr c r w) lo) b with
    | false => rfl
    | true =>
      show gor c r w b = true
      have ho1 := (fb_ct_zero.mp h2) b hb
      rw [hin, Bool.true_and, decide_eq_false_iff_not] at ho1
      have hth := in_thn hin
      unfold thn at hth
      rw [Bool.and_eq_true, decide_eq_true_eq, decide_eq_true_eq] at hth
      show (decide (opn c r w b = 2) && andb (gorP c r w b) 4) = true
      rw [decide_eq_true (by omega), Bool.true_and, andb_iff]
      intro i hi
      unfold gorP
      cases ht : tb w (sid c r b i) with
      | true => rfl
      | false =>
        rw [Bool.false_or, andb_iff]
        have hl := sid_lt hC hb hi
        have hq := h1 _ hl
        rw [Bool.not_eq_true', decide_eq_false_iff_not, hrL_eq hC hl, ht] at hq
        have hpos : bsP (inS c r w (fb_ct (isr c r w) lo)) c r (sid c r b i) 0 = true ∨ bsP (inS c r w (fb_ct (isr c r w) lo)) c r (sid c r b i) 1 = true := by
          rcases (isd_bes hC hb hl).mp (sid_isd hi) with z | z
          · exact Or.inl (by rw [bsP_s z]; exact hin)
          · exact Or.inr (by rw [bsP_s z]; exact hin)
        have hboth : ∀ m, m < 2 → bsP (inS c r w (fb_ct (isr c r w) lo)) c r (sid c r b i) m = true := by
          have h0 : bsP (inS c r w (fb_ct (isr c r w) lo)) c r (sid c r b i) 0 = true ∧ bsP (inS c r w (fb_ct (isr c r w) lo)) c r (sid c r b i) 1 = true := by
            rcases hpos with z | z
            · refine ⟨z, ?_⟩
              cases z1 : bsP (inS c r w (fb_ct (isr c r w) lo)) c r (sid c r b i) 1 with
              | true => rfl
              | false => rw [z, z1] at hq; exact absurd rfl hq
            · refine ⟨?_, z⟩
              cases z1 : bsP (inS c r w (fb_ct (isr c r w) lo)) c r (sid c r b i) 0 with
              | true => rfl
              | false => rw [z, z1] at hq; exact absurd rfl hq
          intro m hm
          rcases (show m = 0 ∨ m = 1 by omega) with e | e
          · rw [e]; exact h0.1
          · rw [e]; exact h0.2
        intro m hm
        obtain ⟨y, y1, y2⟩ := bsP_t (hboth m hm)
        rw [bsP_s y1]
        exact in_thn y2
  · intro h
    refine ⟨fun l hl => ?_, fb_ct_zero.mpr (fun b hb => ?_)⟩
    · rw [Bool.not_eq_true', decide_eq_false_iff_not]
      intro hq
      have hp : decide (0 < hrL c r w (fb_ct (isr c r w) lo) l) = true := decide_eq_true (by omega)
      rw [hr_lin hC hl, Bool.and_eq_true] at hp
      have ht : tb w l = false := by simpa using hp.1
      obtain ⟨m0, b, hm0, g1, g2⟩ := orb_bsP.mp hp.2
      obtain ⟨hb, hib⟩ := bsP_isd (q := fun _ => true) hC hl hm0 g1
      have hg := h b hb
      rw [g2] at hg
      have hg2 : (decide (opn c r w b = 2) && andb (gorP c r w b) 4) = true := hg
      rw [Bool.and_eq_true, andb_iff] at hg2
      obtain ⟨i, hi, e⟩ := isd_sid hib
      have hg3 := hg2.2 i hi
      unfold gorP at hg3
      rw [← e, ht, Bool.false_or, andb_iff] at hg3
      have hall : ∀ m, m < 2 → bsP (inS c r w (fb_ct (isr c r w) lo)) c r l m = true := fun m hm => by
        obtain ⟨y, y1, y2⟩ := bsP_t (hg3 m hm)
        rw [bsP_s y1]
        exact in_beside hC hlo hr hb g2 hib ht hm y1 y2
      rw [hrL_eq hC hl, ht, hall 0 (by decide), hall 1 (by decide)] at hq
      exact absurd hq (by decide)
    · cases hin : inS c r w (fb_ct (isr c r w) lo) b with
      | false => rfl
      | true =>
        have hg := h b hb
        rw [hin] at hg
        have hg2 : (decide (opn c r w b = 2) && andb (gorP c r w b) 4) = true := hg
        rw [Bool.and_eq_true, decide_eq_true_eq] at hg2
        rw [Bool.true_and]
        exact decide_eq_false (by omega)
theorem hr_slin {c r k : Nat} {w : Int64} (hC : Cr c r) : fb_ct (fun l => decide (0 < hrL c r w k l)) (al c r) = slin c r w k := fb_ct_cong (fun l hl => hr_lin hC hl)
theorem hr_smix {c r lo : Nat} {w : Int64} (hC : Cr c r) (hlo : lo < c * r) (hr : isr c r w lo = true) : fb_ct (fun l => decide (0 < hrL c r w (fb_ct (isr c r w) lo) l) && decide (0 < thL c r w (fb_ct (isr c r w) lo) l)) (al c r) = smix c r w (fb_ct (isr c r w) lo) := fb_ct_cong (fun l hl => hr_mix hC hlo hr hl)
theorem sopn_lo {c r k : Nat} {w : Int64} : sopn c r w k = decide (0 < loN c r w k) := orb_pos
theorem hrL_le {c r k l : Nat} {w : Int64} : hrL c r w k l ≤ c * r := fb_ct_le _ _
theorem thL_le {c r k l : Nat} {w : Int64} : thL c r w k l ≤ c * r := fb_ct_le _ _
theorem loN_le {c r k : Nat} {w : Int64} : loN c r w k ≤ c * r := fb_ct_le _ _
