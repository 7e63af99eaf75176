/-! strings of thin boxes -/
def thn (c r : Nat) (w : Int64) (b : Nat) : Bool := decide (1 ≤ opn c r w b) && decide (opn c r w b ≤ 2)
def osd (c r : Nat) (w : Int64) (b l : Nat) : Bool := isd c r b l && !tb w l
def Adj (c r : Nat) (w : Int64) (a b : Nat) : Prop := b < c * r ∧ thn c r w b = true ∧ ∃ l, osd c r w a l = true ∧ osd c r w b l = true
def Cnn (c r : Nat) (w : Int64) (a b : Nat) : Prop := ∀ P : Nat → Prop, P a → (∀ x y, P x → Adj c r w x y → P y) → P b
theorem Cnn.rf {c r : Nat} {w : Int64} {a : Nat} : Cnn c r w a a := fun _ h _ => h
theorem Cnn.st {c r : Nat} {w : Int64} {a b x : Nat} (h : Cnn c r w a b) (q : Adj c r w b x) : Cnn c r w a x := fun P h0 hs => hs b x (h P h0 hs) q
theorem Cnn.tr {c r : Nat} {w : Int64} {a b x : Nat} (h : Cnn c r w a b) (k : Cnn c r w b x) : Cnn c r w a x := fun P h0 hs => k P (h P h0 hs) hs
theorem Cnn.sy {c r : Nat} {w : Int64} {a b : Nat} (ha : a < c * r) (ht : thn c r w a = true) (h : Cnn c r w a b) : (b < c * r ∧ thn c r w b = true) ∧ Cnn c r w b a :=
  h (fun b => (b < c * r ∧ thn c r w b = true) ∧ Cnn c r w b a) ⟨⟨ha, ht⟩, Cnn.rf⟩ (fun x y p q => ⟨⟨q.1, q.2.1⟩, by
    obtain ⟨l, h1, h2⟩ := q.2.2
    exact (Cnn.rf.st ⟨p.1.1, p.1.2, l, h2, h1⟩ : Cnn c r w y x).tr p.2⟩)
noncomputable def cnb (c r : Nat) (w : Int64) (a b : Nat) : Bool := @decide (Cnn c r w a b) (Classical.propDecidable _)
theorem cnb_iff {c r : Nat} {w : Int64} {a b : Nat} : cnb c r w a b = true ↔ Cnn c r w a b := by unfold cnb; exact @decide_eq_true_iff _ (Classical.propDecidable _)
noncomputable def rep (c r : Nat) (w : Int64) (b : Nat) : Nat := fa_first (fun a => thn c r w a && cnb c r w a b) (c * r)
theorem fa_first_at {p : Nat → Bool} {n i : Nat} (h : p i = true) : fa_first p n ≤ i := by
  rcases Nat.lt_or_ge i (fa_first p n) with q | q
  · rw [fa_first_no p n i q] at h; cases h
  · exact q
theorem rep_le {c r : Nat} {w : Int64} {b : Nat} (ht : thn c r w b = true) : rep c r w b ≤ b := fa_first_at (by
  show (thn c r w b && cnb c r w b b) = true
  rw [ht, cnb_iff.mpr Cnn.rf]; rfl)
theorem rep_is {c r : Nat} {w : Int64} {b : Nat} (hb : b < c * r) (ht : thn c r w b = true) : rep c r w b < c * r ∧ thn c r w (rep c r w b) = true ∧ Cnn c r w (rep c r w b) b := by
  have h1 : rep c r w b < c * r := Nat.lt_of_le_of_lt (rep_le ht) hb
  have h2 := fa_first_yes (fun a => thn c r w a && cnb c r w a b) (c * r) h1
  rw [Bool.and_eq_true] at h2
  exact ⟨h1, h2.1, cnb_iff.mp h2.2⟩
theorem rep_min {c r : Nat} {w : Int64} {a b : Nat} (ht : thn c r w a = true) (h : Cnn c r w a b) : rep c r w b ≤ a := fa_first_at (by
  show (thn c r w a && cnb c r w a b) = true
  rw [ht, cnb_iff.mpr h]; rfl)
theorem rep_eq {c r : Nat} {w : Int64} {a b : Nat} (ha : a < c * r) (hta : thn c r w a = true) (h : Cnn c r w a b) : rep c r w a = rep c r w b := by
  obtain ⟨⟨hb, htb⟩, k⟩ := h.sy ha hta
  obtain ⟨a1, a2, a3⟩ := rep_is ha hta
  obtain ⟨b1, b2, b3⟩ := rep_is hb htb
  exact Nat.le_antisymm (rep_min b2 (b3.tr k)) (rep_min a2 (a3.tr h))
theorem rep_rep {c r : Nat} {w : Int64} {b : Nat} (hb : b < c * r) (ht : thn c r w b = true) : rep c r w (rep c r w b) = rep c r w b := by
  obtain ⟨b1, b2, b3⟩ := rep_is hb ht
  exact rep_eq b1 b2 b3
theorem rep_cnn {c r : Nat} {w : Int64} {a b : Nat} (ha : a < c * r) (hta : thn c r w a = true) (hb : b < c * r) (htb : thn c r w b = true) (h : rep c r w a = rep c r w b) : Cnn c r w a b := by
  obtain ⟨a1, a2, a3⟩ := rep_is ha hta
  obtain ⟨b1, b2, b3⟩ := rep_is hb htb
  rw [← h] at b3
  exact (a3.sy a1 a2).2.tr b3
noncomputable def isr (c r : Nat) (w : Int64) (b : Nat) : Bool := thn c r w b && decide (rep c r w b = b)
/-- the number of a thin box's string -/
noncomputable def lab (c r : Nat) (w : Int64) (b : Nat) : Nat := fb_ct (isr c r w) (rep c r w b)
noncomputable def nst (c r : Nat) (w : Int64) : Nat := fb_ct (isr c r w) (c * r)
noncomputable def inS (c r : Nat) (w : Int64) (k b : Nat) : Bool := thn c r w b && decide (lab c r w b = k)
noncomputable def labO (c r : Nat) (w : Int64) (b : Nat) : Option Nat := if thn c r w b then some (lab c r w b) else none
theorem isr_rep {c r : Nat} {w : Int64} {b : Nat} (hb : b < c * r) (ht : thn c r w b = true) : isr c r w (rep c r w b) = true := by
  unfold isr
  rw [(rep_is hb ht).2.1, decide_eq_true (rep_rep hb ht)]
  rfl
theorem lab_rep {c r : Nat} {w : Int64} {a b : Nat} (ha : a < c * r) (hta : thn c r w a = true) (hb : b < c * r) (htb : thn c r w b = true) (h : lab c r w a = lab c r w b) : rep c r w a = rep c r w b := fb_ct_kth_one (isr_rep ha hta) (isr_rep hb htb) h
theorem lab_lt {c r : Nat} {w : Int64} {b : Nat} (hb : b < c * r) (ht : thn c r w b = true) : lab c r w b < nst c r w := by
  have h1 := (rep_is hb ht).1
  have h2 := fb_ct_mono (isr c r w) (m := rep c r w b + 1) (n := c * r) (by omega)
  rw [fb_ct_succ, isr_rep hb ht] at h2
  simp only [if_true] at h2
  unfold lab nst
  omega
theorem nst_le (c r : Nat) (w : Int64) : nst c r w ≤ c * r := fb_ct_le _ _
theorem lab_of {c r : Nat} {w : Int64} {n b : Nat} (h : rep c r w b = n) : lab c r w b = fb_ct (isr c r w) n := by unfold lab; rw [h]
theorem isr_is {c r : Nat} {w : Int64} {n : Nat} (h : isr c r w n = true) : thn c r w n = true ∧ rep c r w n = n := by
  unfold isr at h
  rw [Bool.and_eq_true, decide_eq_true_eq] at h
  exact h
theorem inS_rep {c r : Nat} {w : Int64} {n b : Nat} (hn : n < c * r) (h : isr c r w n = true) (hb : b < c * r) : inS c r w (fb_ct (isr c r w) n) b = (thn c r w b && decide (rep c r w b = n)) := by
  obtain ⟨h1, h2⟩ := isr_is h
  unfold inS
  cases q : thn c r w b with
  | false => rfl
  | true =>
    rw [Bool.true_and, Bool.true_and]
    refine decide_eq_decide.mpr ⟨fun e => ?_, fun e => lab_of e⟩
    have := lab_rep hb q hn h1 (by rw [e, lab_of h2])
    rw [this, h2]
/-- a closed set of boxes that are all in the string is the string -/
theorem cl_full {c r : Nat} {w : Int64} {n : Nat} {X : Nat → Bool} (hn : n < c * r) (h : isr c r w n = true) (hX : ∀ b, b < c * r → X b = true → thn c r w b = true ∧ rep c r w b = n) (hXn : X n = true) (hcl : ∀ x y, x < c * r → X x = true → Adj c r w x y → X y = true) : ∀ b, b < c * r → X b = inS c r w (fb_ct (isr c r w) n) b := by
  intro b hb
  rw [inS_rep hn h hb, Bool.eq_iff_iff, Bool.and_eq_true, decide_eq_true_eq]
  refine ⟨hX b hb, fun q => ?_⟩
  have hc := rep_cnn hn (isr_is h).1 hb q.1 (by rw [(isr_is h).2, q.2])
  exact (hc (fun y => y < c * r ∧ X y = true) ⟨hn, hXn⟩ (fun x y p q => ⟨q.1, hcl x y p.1 p.2 q⟩)).2
/-! numbers that are laid so far -/
def NuX (c r : Nat) (w : Int64) (n : Nat) (X : Nat → Bool) (k : Nat) (nu : Nat → Int32) : Prop := ∀ b, b < c * r → nu b = oI (if X b then some k else if thn c r w b && decide (rep c r w b < n) then some (lab c r w b) else none)
def NuOK (c r : Nat) (w : Int64) (n : Nat) (nu : Nat → Int32) : Prop := ∀ b, b < c * r → nu b = oI (if thn c r w b && decide (rep c r w b < n) then some (lab c r w b) else none)
theorem oI_m1 {o : Option Nat} (h : ∀ b, o = some b → b < 2 ^ 31) : oI o = -1 ↔ o = none := ⟨fun e => oI_none rfl e h, fun e => by rw [e]; rfl⟩
theorem NuOK.x {c r : Nat} {w : Int64} {n k : Nat} {nu : Nat → Int32} (h : NuOK c r w n nu) : NuX c r w n (fun _ => false) k nu := fun b hb => by rw [h b hb]; rfl
theorem NuX.free {c r : Nat} {w : Int64} {n k b : Nat} {X : Nat → Bool} {nu : Nat → Int32} (hC : Cr c r) (h : NuX c r w n X k nu) (hk : k ≤ 16) (hb : b < c * r) : nu b = -1 ↔ X b = false ∧ ¬ (thn c r w b = true ∧ rep c r w b < n) := by
  have hq := hC.q
  rw [h b hb, oI_m1]
  · cases X b with
    | true => simp
    | false =>
      by_cases q : thn c r w b = true ∧ rep c r w b < n
      · simp [q]
      · have : (thn c r w b && decide (rep c r w b < n)) = false := by
          rw [Bool.eq_false_iff]
          intro z
          rw [Bool.and_eq_true, decide_eq_true_eq] at z
          exact q z
        simp [this, q]
  · intro j hj
    split at hj
    · cases hj; omega
    · split at hj
      · rename_i z
        rw [Bool.and_eq_true] at z
        cases hj
        have := lab_lt hb z.1
        have := nst_le c r w
        omega
      · cases hj
theorem NuOK.free {c r : Nat} {w : Int64} {n : Nat} {nu : Nat → Int32} (hC : Cr c r) (h : NuOK c r w n nu) (hn : n < c * r) : (thn c r w n && decide (nu n = -1)) = isr c r w n := by
  rw [Bool.eq_iff_iff, Bool.and_eq_true, decide_eq_true_eq, (h.x (k := 0)).free hC (by omega) hn]
  unfold isr
  rw [Bool.and_eq_true, decide_eq_true_eq]
  constructor
  · intro q
    have := rep_le q.1
    refine ⟨q.1, ?_⟩
    have := q.2.2
    rcases Nat.lt_or_ge (rep c r w n) n with z | z
    · exact absurd ⟨q.1, z⟩ this
    · omega
  · intro q
    exact ⟨q.1, rfl, fun z => by omega⟩
theorem NuOK.skip {c r : Nat} {w : Int64} {n : Nat} {nu : Nat → Int32} (h : NuOK c r w n nu) (hn : isr c r w n = false) : NuOK c r w (n + 1) nu := by
  intro b hb
  rw [h b hb]
  cases q : thn c r w b with
  | false => rfl
  | true =>
    have : decide (rep c r w b < n) = decide (rep c r w b < n + 1) := by
      refine decide_eq_decide.mpr ⟨fun z => by omega, fun z => ?_⟩
      rcases Nat.lt_or_ge (rep c r w b) n with y | y
      · exact y
      · have e : rep c r w b = n := by omega
        have := isr_rep hb q
        rw [e, hn] at this
        cases this
    rw [this]
theorem NuX.ok {c r : Nat} {w : Int64} {n : Nat} {X : Nat → Bool} {nu : Nat → Int32} (h : NuX c r w n X (fb_ct (isr c r w) n) nu) (hn : n < c * r) (hr : isr c r w n = true) (hX : ∀ b, b < c * r → X b = inS c r w (fb_ct (isr c r w) n) b) : NuOK c r w (n + 1) nu := by
  intro b hb
  rw [h b hb, hX b hb, inS_rep hn hr hb]
  cases q : thn c r w b with
  | false => rfl
  | true =>
    rw [Bool.true_and, Bool.true_and, Bool.true_and]
    by_cases e : rep c r w b = n
    · rw [decide_eq_true e, decide_eq_true (by omega : rep c r w b < n + 1), lab_of e]; rfl
    · rw [decide_eq_false e]
      have : decide (rep c r w b < n) = decide (rep c r w b < n + 1) := decide_eq_decide.mpr ⟨fun z => by omega, fun z => by omega⟩
      rw [this]; rfl
def addX (X : Nat → Bool) (i : Nat) : Nat → Bool := fun b => if b = i then true else X b
theorem NuX.add {c r : Nat} {w : Int64} {n k i : Nat} {X : Nat → Bool} {nu : Nat → Int32} (h : NuX c r w n X k nu) : NuX c r w n (addX X i) k (upd nu i (nI k)) := by
  intro b hb
  by_cases e : b = i
  · subst e
    rw [pk_us, addX, if_pos rfl]; rfl
  · rw [pk_un e, addX, if_neg e]
    exact h b hb
/-! what is noted of a string -/
noncomputable def ssz (c r : Nat) (w : Int64) (k : Nat) : Nat := fb_ct (inS c r w k) (c * r)
noncomputable def sopn (c r : Nat) (w : Int64) (k : Nat) : Bool := orb (fun b => inS c r w k b && decide (opn c r w b = 1)) (c * r)
/-- all open sides of a box, two of them, have thin boxes behind them -/
def gor (c r : Nat) (w : Int64) (b : Nat) : Bool := decide (opn c r w b = 2) && andb (fun k => tb w (sid c r b k) || andb (fun m => match bes c r (sid c r b k) m with | none => false | some o => thn c r w o) 2) 4
noncomputable def slop (c r : Nat) (w : Int64) (k : Nat) : Bool := andb (fun b => !inS c r w k b || gor c r w b) (c * r)
noncomputable def sdis (c r : Nat) (w : Int64) (k : Nat) : Nat := if slop c r w k then 8 else if 3 ≤ ssz c r w k then 4 else 0
def zn (b : Bool) : Nat := if b then 1 else 0
def FlX (c r : Nat) (w : Int64) (X : Nat → Bool) (sz op : Int32) (li sh : Int64) : Prop := sz = nI (fb_ct X (c * r)) ∧ op = nI (zn (orb (fun b => X b && decide (opn c r w b = 1)) (c * r))) ∧ (∀ l, tb li l = orb (fun b => X b && osd c r w b l) (c * r)) ∧ (∀ l, tb sh l = decide (2 ≤ fb_ct (fun b => X b && osd c r w b l) (c * r)))
theorem orb_pos {p : Nat → Bool} {n : Nat} : orb p n = decide (0 < fb_ct p n) := by
  rw [Bool.eq_iff_iff, orb_iff, decide_eq_true_eq, fb_ct_pos]
theorem ct_addX {X q : Nat → Bool} {i n : Nat} (hi : i < n) (hX : X i = false) : fb_ct (fun b => addX X i b && q b) n = fb_ct (fun b => X b && q b) n + (if q i then 1 else 0) := by
  have h := fb_ct_upd (fun b => X b && q b) (q i) hi
  rw [hX, Bool.false_and] at h
  simp only [Bool.false_eq_true, if_false, Nat.add_zero] at h
  rw [← h]
  refine fb_ct_cong (fun k _ => ?_)
  unfold addX
  by_cases e : k = i
  · subst e; simp
  · simp [e]
theorem ct_addX1 {X : Nat → Bool} {i n : Nat} (hi : i < n) (hX : X i = false) : fb_ct (addX X i) n = fb_ct X n + 1 := by
  have h := fb_ct_upd X true hi
  rw [hX] at h
  simp only [Bool.false_eq_true, if_false, if_true, Nat.add_zero] at h
  exact h
theorem FlX.e {c r : Nat} {w : Int64} : FlX c r w (fun _ => false) (nI 0) (nI 0) 0 0 := by
  have z : ∀ (q : Nat → Bool) n, fb_ct (fun b => false && q b) n = 0 := fun q n => fb_ct_zero.mpr (fun _ _ => rfl)
  refine ⟨?_, ?_, fun l => ?_, fun l => ?_⟩
  · rw [fb_ct_zero.mpr (fun _ _ => rfl)]
  · rw [orb_pos, z]; rfl
  · rw [tb_0, orb_pos, z]; rfl
  · rw [tb_0, z]; rfl
theorem FlX.add {c r : Nat} {w : Int64} {X : Nat → Bool} {sz op : Int32} {li sh : Int64} {i : Nat} (hC : Cr c r) (hi : i < c * r) (hX : X i = false) (h : FlX c r w X sz op li sh) : FlX c r w (addX X i) (sz + nI 1) (if opn c r w i = 1 then nI 1 else op) (li ||| iOA c r w i) (sh ||| (iOA c r w i &&& li)) := by
  obtain ⟨h1, h2, h3, h4⟩ := h
  refine ⟨?_, ?_, fun l => ?_, fun l => ?_⟩
  · rw [h1, ct_addX1 hi hX, nI_add]
  · rw [orb_pos, ct_addX hi hX, h2, orb_pos]
    by_cases q : opn c r w i = 1
    · rw [if_pos q, decide_eq_true q, if_pos rfl, decide_eq_true (by omega)]; rfl
    · rw [if_neg q, decide_eq_false q]
      simp only [Bool.false_eq_true, if_false, Nat.add_zero]
  · rw [tb_or, tb_iOA hC hi, h3 l, orb_pos, orb_pos, ct_addX hi hX]
    show (_ || osd c r w i l) = _
    cases osd c r w i l
    · simp
    · simp
  · rw [tb_or, tb_and, tb_iOA hC hi, h3 l, h4 l, ct_addX hi hX, orb_pos]
    show (_ || (osd c r w i l && _)) = _
    cases osd c r w i l
    · simp
    · simp only [if_true, Bool.true_and]
      rw [Bool.eq_iff_iff, Bool.or_eq_true, decide_eq_true_eq, decide_eq_true_eq, decide_eq_true_eq]
      omega
theorem FlX.cong {c r : Nat} {w : Int64} {X Z : Nat → Bool} {sz op : Int32} {li sh : Int64} (h : FlX c r w X sz op li sh) (e : ∀ b, b < c * r → X b = Z b) : FlX c r w Z sz op li sh := by
  obtain ⟨h1, h2, h3, h4⟩ := h
  refine ⟨?_, ?_, fun l => ?_, fun l => ?_⟩
  · rw [h1, fb_ct_cong e]
  · rw [h2, orb_cong (fun b hb => by rw [e b hb])]
  · rw [h3, orb_cong (fun b hb => by rw [e b hb])]
  · rw [h4, fb_ct_cong (fun b hb => by rw [e b hb])]
