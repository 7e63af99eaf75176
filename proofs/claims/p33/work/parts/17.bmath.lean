/-! the boxes' sides as sets of lines, as the class holds them -/
def sdM (c r b : Nat) : Int64 := b1 (sid c r b 0) ||| b1 (sid c r b 1) ||| b1 (sid c r b 2) ||| b1 (sid c r b 3)
def fbM (c r l : Nat) : Option Nat := match bes c r l 0 with
  | some b => some b
  | none => bes c r l 1
def gbM (c r l : Nat) : Option Nat := match bes c r l 0 with
  | some _ => bes c r l 1
  | none => none
def BdOK (c r : Nat) (sd : Nat → Int64) (fb gb : Nat → Int32) : Prop := (∀ b, b < c * r → sd b = sdM c r b) ∧ (∀ l, l < al c r → fb l = oI (fbM c r l)) ∧ (∀ l, l < al c r → gb l = oI (gbM c r l))
def iOA (c r : Nat) (w : Int64) (b : Nat) : Int64 := sdM c r b &&& (w ^^^ (-1 : Int64))
/-- a line is a side of a box -/
def isd (c r b l : Nat) : Bool := decide (l = sid c r b 0) || decide (l = sid c r b 1) || decide (l = sid c r b 2) || decide (l = sid c r b 3)
theorem brd2 (P : Nat → Nat → Nat → Bool) (h : (List.range 4).all (fun c => (List.range 4).all (fun r => (List.range 16).all (fun b => !decide (b < (c + 1) * (r + 1)) || P (c + 1) (r + 1) b))) = true) {c r b : Nat} (hC : Cr c r) (hb : b < c * r) : P c r b = true := by
  have z := Cr_dec (fun c r => (List.range 16).all (fun b => !decide (b < c * r) || P c r b)) h hC
  have z2 := List.all_eq_true.mp z b (List.mem_range.mpr (by have := hC.q; omega))
  rw [decide_eq_true hb] at z2
  simpa using z2
theorem brl2 (P : Nat → Nat → Nat → Bool) (h : (List.range 4).all (fun c => (List.range 4).all (fun r => (List.range 40).all (fun b => !decide (b < al (c + 1) (r + 1)) || P (c + 1) (r + 1) b))) = true) {c r b : Nat} (hC : Cr c r) (hb : b < al c r) : P c r b = true := by
  have z := Cr_dec (fun c r => (List.range 40).all (fun b => !decide (b < al c r) || P c r b)) h hC
  have z2 := List.all_eq_true.mp z b (List.mem_range.mpr (by have := hC.q; omega))
  rw [decide_eq_true hb] at z2
  simpa using z2
theorem sid_ne {c r b : Nat} (hC : Cr c r) (hb : b < c * r) : sid c r b 0 ≠ sid c r b 1 ∧ sid c r b 0 ≠ sid c r b 2 ∧ sid c r b 0 ≠ sid c r b 3 ∧ sid c r b 1 ≠ sid c r b 2 ∧ sid c r b 1 ≠ sid c r b 3 ∧ sid c r b 2 ≠ sid c r b 3 := by
  have z := brd2 (fun c r b => decide (sid c r b 0 ≠ sid c r b 1) && decide (sid c r b 0 ≠ sid c r b 2) && decide (sid c r b 0 ≠ sid c r b 3) && decide (sid c r b 1 ≠ sid c r b 2) && decide (sid c r b 1 ≠ sid c r b 3) && decide (sid c r b 2 ≠ sid c r b 3)) (by decide +kernel) hC hb
  simp only [Bool.and_eq_true, decide_eq_true_eq] at z
  exact ⟨z.1.1.1.1.1, z.1.1.1.1.2, z.1.1.1.2, z.1.1.2, z.1.2, z.2⟩
/-- the boxes beside a line are those that it is a side of -/
theorem isd_bes {c r b l : Nat} (hC : Cr c r) (hb : b < c * r) (hl : l < al c r) : isd c r b l = true ↔ bes c r l 0 = some b ∨ bes c r l 1 = some b := by
  have z := brd2 (fun c r b => (List.range 40).all (fun l => !decide (l < al c r) || (isd c r b l == (decide (bes c r l 0 = some b) || decide (bes c r l 1 = some b))))) (by decide +kernel) hC hb
  have z2 := List.all_eq_true.mp z l (List.mem_range.mpr (by have := hC.q; omega))
  rw [decide_eq_true hl] at z2
  simp only [Bool.not_true, Bool.false_or, beq_iff_eq] at z2
  rw [z2]
  simp
theorem bes_ne {c r b l : Nat} (hC : Cr c r) (hl : l < al c r) : ¬ (bes c r l 0 = some b ∧ bes c r l 1 = some b) := by
  have z := brl2 (fun c r l => !decide (bes c r l 0 = bes c r l 1) || decide (bes c r l 0 = none)) (by decide +kernel) hC hl
  intro ⟨h1, h2⟩
  rw [h1, h2] at z
  simp at z
theorem tb_sdM {c r b : Nat} (hC : Cr c r) (hb : b < c * r) (j : Nat) : tb (sdM c r b) j = isd c r b j := by
  have h0 := lt_al hC (sid_lt hC hb (k := 0) (by decide))
  have h1 := lt_al hC (sid_lt hC hb (k := 1) (by decide))
  have h2 := lt_al hC (sid_lt hC hb (k := 2) (by decide))
  have h3 := lt_al hC (sid_lt hC hb (k := 3) (by decide))
  unfold sdM isd
  rw [tb_or, tb_or, tb_or, tb_b1 h0, tb_b1 h1, tb_b1 h2, tb_b1 h3]
theorem isd_al {c r b j : Nat} (hC : Cr c r) (hb : b < c * r) (h : isd c r b j = true) : j < al c r := by
  have h0 := sid_lt hC hb (k := 0) (by decide)
  have h1 := sid_lt hC hb (k := 1) (by decide)
  have h2 := sid_lt hC hb (k := 2) (by decide)
  have h3 := sid_lt hC hb (k := 3) (by decide)
  unfold isd at h
  simp only [Bool.or_eq_true, decide_eq_true_eq] at h
  rcases h with ((h | h) | h) | h <;> (rw [h]; assumption)
theorem tb_iOA {c r b : Nat} (hC : Cr c r) (hb : b < c * r) (w : Int64) (j : Nat) : tb (iOA c r w b) j = (isd c r b j && !tb w j) := by
  unfold iOA
  rw [tb_and, tb_sdM hC hb]
  rcases Nat.lt_or_ge j 64 with h | h
  · rw [tb_not h]
  · have : isd c r b j = false := by
      cases q : isd c r b j with
      | false => rfl
      | true => have := lt_al hC (isd_al hC hb q); omega
    rw [this, Bool.false_and, Bool.false_and]
theorem ct_one (q : Nat → Bool) {s n : Nat} (h : s < n) : fb_ct (fun j => decide (j = s) && q j) n = if q s then 1 else 0 := by
  have a := fb_ct_upd (fun _ => false) (q s) h
  have z : fb_ct (fun _ => false) n = 0 := fb_ct_zero.mpr (fun _ _ => rfl)
  rw [z] at a
  rw [show (fun j => decide (j = s) && q j) = (fun k => if k = s then q s else false) from ?_]
  · simpa using a
  · funext j
    by_cases e : j = s
    · subst e; simp
    · simp [e]
theorem ct_four (q : Nat → Bool) {s0 s1 s2 s3 n : Nat} (h0 : s0 < n) (h1 : s1 < n) (h2 : s2 < n) (h3 : s3 < n) (d01 : s0 ≠ s1) (d02 : s0 ≠ s2) (d03 : s0 ≠ s3) (d12 : s1 ≠ s2) (d13 : s1 ≠ s3) (d23 : s2 ≠ s3) :
    fb_ct (fun j => (decide (j = s0) || decide (j = s1) || decide (j = s2) || decide (j = s3)) && q j) n = (if q s0 then 1 else 0) + (if q s1 then 1 else 0) + (if q s2 then 1 else 0) + (if q s3 then 1 else 0) := by
  have e : (fun j => (decide (j = s0) || decide (j = s1) || decide (j = s2) || decide (j = s3)) && q j) = (fun j => ((decide (j = s0) && q j) || (decide (j = s1) && q j) || (decide (j = s2) && q j)) || (decide (j = s3) && q j)) := by
    funext j
    cases q j <;> simp
  rw [e, fb_ct_or, fb_ct_or, fb_ct_or, ct_one q h0, ct_one q h1, ct_one q h2, ct_one q h3]
  · intro k _ ⟨a, b⟩
    simp only [Bool.and_eq_true, decide_eq_true_eq] at a b
    exact d01 (a.1.symm.trans b.1)
  · intro k _ ⟨a, b⟩
    simp only [Bool.or_eq_true, Bool.and_eq_true, decide_eq_true_eq] at a b
    rcases a with a | a
    · exact d02 (a.1.symm.trans b.1)
    · exact d12 (a.1.symm.trans b.1)
  · intro k _ ⟨a, b⟩
    simp only [Bool.or_eq_true, Bool.and_eq_true, decide_eq_true_eq] at a b
    rcases a with (a | a) | a
    · exact d03 (a.1.symm.trans b.1)
    · exact d13 (a.1.symm.trans b.1)
    · exact d23 (a.1.symm.trans b.1)
theorem opn_four (c r : Nat) (w : Int64) (b : Nat) : opn c r w b = (if !tb w (sid c r b 0) then 1 else 0) + (if !tb w (sid c r b 1) then 1 else 0) + (if !tb w (sid c r b 2) then 1 else 0) + (if !tb w (sid c r b 3) then 1 else 0) := by
  unfold opn
  simp only [fb_ct, Nat.zero_add]
theorem pop_iOA {c r b : Nat} (hC : Cr c r) (hb : b < c * r) (w : Int64) : pop (iOA c r w b) = opn c r w b := by
  have h0 := lt_al hC (sid_lt hC hb (k := 0) (by decide))
  have h1 := lt_al hC (sid_lt hC hb (k := 1) (by decide))
  have h2 := lt_al hC (sid_lt hC hb (k := 2) (by decide))
  have h3 := lt_al hC (sid_lt hC hb (k := 3) (by decide))
  obtain ⟨d1, d2, d3, d4, d5, d6⟩ := sid_ne hC hb
  unfold pop
  rw [fb_ct_cong (fun k _ => tb_iOA hC hb w k), opn_four]
  exact ct_four (fun j => !tb w j) h0 h1 h2 h3 d1 d2 d3 d4 d5 d6
theorem pop_zero {w : Int64} : pop w = 0 ↔ w = 0 := by
  unfold pop
  rw [fb_ct_zero, tb_zero]
theorem iOA_zero {c r b : Nat} (hC : Cr c r) (hb : b < c * r) (w : Int64) : iOA c r w b = 0 ↔ opn c r w b = 0 := by rw [← pop_zero, pop_iOA hC hb]
/-- the open lines around all boxes that have just so many open sides -/
def oabF (c r : Nat) (w : Int64) (n : Nat) : Nat → Int64
  | 0 => 0
  | i + 1 => if opn c r w i = n then oabF c r w n i ||| iOA c r w i else oabF c r w n i
def oab (c r : Nat) (w : Int64) (n : Nat) : Int64 := oabF c r w n (c * r)
def opl (c r : Nat) (w : Int64) : Int64 := (b1 (al c r) - 1) &&& (w ^^^ (-1 : Int64))
def tkl (c r : Nat) (w : Int64) : Int64 := oab c r w 1
def sfl (c r : Nat) (w : Int64) : Int64 := opl c r w &&& ((oab c r w 1 ||| oab c r w 2) ^^^ (-1 : Int64))
def gvl (c r : Nat) (w : Int64) : Int64 := oab c r w 2 &&& (oab c r w 1 ^^^ (-1 : Int64))
def cpo (c r : Nat) (w : Int64) (o : Option Nat) : Bool := match o with
  | none => false
  | some b => decide (opn c r w b = 0)
def numI (c r : Nat) (v : Bool) (x y : Int32) : Int32 := if exM c r v x y then nI (numM c r v x.toNatClampNeg y.toNatClampNeg) else -1
theorem fbM_lt {c r l b : Nat} (hC : Cr c r) (hl : l < al c r) (h : fbM c r l = some b) : b < c * r := by
  unfold fbM at h
  split at h
  · cases h
    rename_i q
    exact bes_lt hC hl q
  · exact bes_lt hC hl h
theorem gbM_lt {c r l b : Nat} (hC : Cr c r) (hl : l < al c r) (h : gbM c r l = some b) : b < c * r := by
  unfold gbM at h
  split at h
  · exact bes_lt hC hl h
  · cases h
theorem wi_lt {x : Int32} {n : Nat} (h0 : 0 < n) (hn : n < 2 ^ 31) (h1 : ¬ x < 0) (h2 : ¬ nI n ≤ x) : wi x (nI 0) (nI (n - 1)) = true := by
  obtain ⟨j, hj, rfl⟩ := nI_of h1
  have : j < n := Nat.lt_of_not_le fun q => h2 (nI_le q hj)
  rw [wi_n (by omega) (by omega)]
  exact decide_eq_true (by omega)
theorem wi_ge {x : Int32} {n : Nat} (h0 : 0 < n) (hn : n < 2 ^ 31) (h : x < 0 ∨ nI n ≤ x) : wi x (nI 0) (nI (n - 1)) = false := by
  rcases h with h | h
  · exact wi_a h
  · apply wi_b
    have : nI (n - 1) < nI n := nI_lt (by omega) hn
    exact Int32.lt_of_lt_of_le this h
