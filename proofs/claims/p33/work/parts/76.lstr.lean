/-! p33: strings by names that spread -/
def jnB (f : Nat → Int32) (b : Nat) (o : Option Nat) : Bool := match o with
  | none => false
  | some a => decide (¬ f b < 0) && (decide (¬ f a < 0) && decide (¬ f b = f a))
def jnV (f : Nat → Int32) (b a : Nat) : Int32 := if f b < f a then f b else f a
def jnF (f : Nat → Int32) (b : Nat) (o : Option Nat) : Nat → Int32 := match o with
  | none => f
  | some a => if jnB f b (some a) = true then upd (upd f b (jnV f b a)) a (jnV f b a) else f
theorem jnF_n {f : Nat → Int32} {b : Nat} {o : Option Nat} (h : jnB f b o = false) : jnF f b o = f := by
  cases o with
  | none => rfl
  | some a =>
    show (if jnB f b (some a) = true then _ else f) = f
    rw [if_neg (by rw [h]; decide)]
theorem jnB_t {f : Nat → Int32} {a b : Nat} (h : jnB f b (some a) = true) : ¬ f b < 0 ∧ ¬ f a < 0 ∧ ¬ f b = f a := by
  have h' : (decide (¬ f b < 0) && (decide (¬ f a < 0) && decide (¬ f b = f a))) = true := h
  rw [Bool.and_eq_true, Bool.and_eq_true, decide_eq_true_eq, decide_eq_true_eq, decide_eq_true_eq] at h'
  exact h'
theorem jnB_mk {f : Nat → Int32} {a b : Nat} (h1 : ¬ f b < 0) (h2 : ¬ f a < 0) (h3 : ¬ f b = f a) : jnB f b (some a) = true := by
  show (decide (¬ f b < 0) && (decide (¬ f a < 0) && decide (¬ f b = f a))) = true
  rw [decide_eq_true h1, decide_eq_true h2, decide_eq_true h3]; rfl
theorem jnB_no {f : Nat → Int32} {a b : Nat} (h : ¬ (¬ f b < 0 ∧ ¬ f a < 0 ∧ ¬ f b = f a)) : jnB f b (some a) = false := bfn (fun q => h (jnB_t q))
theorem jnF_t {f : Nat → Int32} {a b : Nat} (h : jnB f b (some a) = true) : jnF f b (some a) = upd (upd f b (jnV f b a)) a (jnV f b a) := by
  show (if jnB f b (some a) = true then _ else f) = _
  rw [if_pos h]
def NmR (c r : Nat) (w : Int64) (f : Nat → Int32) : Prop := (∀ b, b < c * r → thn c r w b = true → ∃ a, a ≤ b ∧ thn c r w a = true ∧ Cnn c r w a b ∧ f b = nI a) ∧ ∀ b, b < 16 → ¬ (b < c * r ∧ thn c r w b = true) → f b = -1
def Lnk (c r : Nat) (w : Int64) (b : Nat) (o : Option Nat) : Prop := ∀ a, o = some a → a < c * r ∧ ∃ l, osd c r w b l = true ∧ osd c r w a l = true
theorem NmR.thin {c r b : Nat} {w : Int64} {f : Nat → Int32} (h : NmR c r w f) (hb : b < 16) (hf : ¬ f b < 0) : b < c * r ∧ thn c r w b = true := Classical.byContradiction (fun q => by
  rw [h.2 b hb q] at hf
  exact hf (by decide))
theorem NmR.val {c r a b : Nat} {w : Int64} {f : Nat → Int32} (hC : Cr c r) (h : NmR c r w f) (hb : b < c * r) (ha : a < c * r) (hl : ∃ l, osd c r w b l = true ∧ osd c r w a l = true) (q : jnB f b (some a) = true) :
    ∃ xb xa m, thn c r w b = true ∧ thn c r w a = true ∧ f b = nI xb ∧ f a = nI xa ∧ xb < 16 ∧ xa < 16 ∧ jnV f b a = nI m ∧ m ≤ xb ∧ m ≤ xa ∧ xb ≠ xa ∧ m ≤ b ∧ m ≤ a ∧ thn c r w m = true ∧ Cnn c r w m b ∧ Cnn c r w m a := by
  have h16 := hC.q
  obtain ⟨h1, h2, h3⟩ := jnB_t q
  obtain ⟨-, tb1⟩ := h.thin (by omega : b < 16) h1
  obtain ⟨-, ta1⟩ := h.thin (by omega : a < 16) h2
  obtain ⟨xb, b1', b2, b3, b4⟩ := h.1 b hb tb1
  obtain ⟨xa, a1, a2, a3, a4⟩ := h.1 a ha ta1
  obtain ⟨l, l1, l2⟩ := hl
  have ab : Adj c r w b a := ⟨ha, ta1, l, l1, l2⟩
  have ba : Adj c r w a b := ⟨hb, tb1, l, l2, l1⟩
  have hne : xb ≠ xa := fun e => h3 (by rw [b4, a4, e])
  by_cases z : f b < f a
  · refine ⟨xb, xa, xb, tb1, ta1, b4, a4, by omega, by omega, by unfold jnV; rw [if_pos z]; exact b4, Nat.le_refl _, ?_, hne, b1', ?_, b2, b3, b3.st ab⟩
    · rw [b4, a4, nI_ltI (by omega) (by omega)] at z; omega
    · rw [b4, a4, nI_ltI (by omega) (by omega)] at z; omega
  · refine ⟨xb, xa, xa, tb1, ta1, b4, a4, by omega, by omega, by unfold jnV; rw [if_neg z]; exact a4, ?_, Nat.le_refl _, hne, ?_, a1, a2, a3.st ba, a3⟩
    · rw [b4, a4, nI_ltI (by omega) (by omega)] at z; omega
    · rw [b4, a4, nI_ltI (by omega) (by omega)] at z; omega
theorem NmR.join {c r b : Nat} {w : Int64} {f : Nat → Int32} {o : Option Nat} (hC : Cr c r) (h : NmR c r w f) (hb : b < c * r) (hl : Lnk c r w b o) : NmR c r w (jnF f b o) := by
  cases o with
  | none => exact h
  | some a =>
    by_cases q : jnB f b (some a) = true
    · obtain ⟨ha, hll⟩ := hl a rfl
      obtain ⟨xb, xa, m, tb1, ta1, e1, e2, -, -, e3, -, -, -, m1, m2, m3, m4, m5⟩ := h.val hC hb ha hll q
      rw [jnF_t q]
      refine ⟨fun e he ht => ?_, fun e he ht => ?_⟩
      · by_cases q1 : e = a
        · subst q1; exact ⟨m, m2, m3, m5, by rw [pk_us, e3]⟩
        · by_cases q2 : e = b
          · subst q2; exact ⟨m, m1, m3, m4, by rw [pk_un q1, pk_us, e3]⟩
          · rw [pk_un q1, pk_un q2]; exact h.1 e he ht
      · by_cases q1 : e = a
        · subst q1; exact absurd ⟨ha, ta1⟩ ht
        · by_cases q2 : e = b
          · subst q2; exact absurd ⟨hb, tb1⟩ ht
          · rw [pk_un q1, pk_un q2]; exact h.2 e he ht
    · rw [jnF_n (bfn q)]; exact h
def smM (c r : Nat) (f : Nat → Int32) : Nat := fb_sm (fun b => (f b).toNatClampNeg) (c * r)
theorem jn_sum {c r b : Nat} {w : Int64} {f : Nat → Int32} {o : Option Nat} (hC : Cr c r) (h : NmR c r w f) (hb : b < c * r) (hl : Lnk c r w b o) (q : jnB f b o = true) : smM c r (jnF f b o) + 1 ≤ smM c r f := by
  cases o with
  | none => cases q
  | some a =>
    obtain ⟨ha, hll⟩ := hl a rfl
    obtain ⟨xb, xa, m, tb1, ta1, e1, e2, x1, x2, e3, m1, m2, hne, -, -, -, -, -⟩ := h.val hC hb ha hll q
    rw [jnF_t q]
    have hab : a ≠ b := fun e => hne (by rw [e, e1] at e2; have := congrArg Int32.toNatClampNeg e2; rw [nI_clamp (by omega), nI_clamp (by omega)] at this; exact this)
    have k1 : ∀ e, (upd f b (jnV f b a) e).toNatClampNeg = if e = b then m else (f e).toNatClampNeg := fun e => by
      by_cases z : e = b
      · rw [if_pos z, z, pk_us, e3, nI_clamp (by omega)]
      · rw [if_neg z, pk_un z]
    have k2 : ∀ e, (upd (upd f b (jnV f b a)) a (jnV f b a) e).toNatClampNeg = if e = a then m else (if e = b then m else (f e).toNatClampNeg) := fun e => by
      by_cases z : e = a
      · rw [if_pos z, z, pk_us, e3, nI_clamp (by omega)]
      · rw [if_neg z, pk_un z, k1]
    have s1 := fb_sm_upd (fun e => if e = b then m else (f e).toNatClampNeg) m (i := a) (n := c * r) ha
    have s2 := fb_sm_upd (fun e => (f e).toNatClampNeg) m (i := b) (n := c * r) hb
    have s3 : smM c r (upd (upd f b (jnV f b a)) a (jnV f b a)) = fb_sm (fun e => if e = a then m else (if e = b then m else (f e).toNatClampNeg)) (c * r) := fb_sm_cong (fun e _ => k2 e)
    have g1 : (f b).toNatClampNeg = xb := by rw [e1, nI_clamp (by omega)]
    have g2 : (f a).toNatClampNeg = xa := by rw [e2, nI_clamp (by omega)]
    rw [s3]
    simp only [if_neg hab, g1, g2] at s1 s2
    unfold smM
    omega
theorem jn_sum0 {c r b : Nat} {w : Int64} {f : Nat → Int32} {o : Option Nat} (hC : Cr c r) (h : NmR c r w f) (hb : b < c * r) (hl : Lnk c r w b o) : smM c r (jnF f b o) ≤ smM c r f := by
  by_cases q : jnB f b o = true
  · have := jn_sum hC h hb hl q; omega
  · rw [jnF_n (bfn q)]; exact Nat.le_refl _
theorem jn_2 {c r b : Nat} {w : Int64} {f : Nat → Int32} {o o2 : Option Nat} (hC : Cr c r) (h : NmR c r w f) (hb : b < c * r) (hl : Lnk c r w b o) (hl2 : Lnk c r w b o2) (q : (jnB f b o || jnB (jnF f b o) b o2) = true) : smM c r (jnF (jnF f b o) b o2) + 1 ≤ smM c r f := by
  have h2 := h.join hC hb hl
  have s1 := jn_sum0 hC h hb hl
  have s2 := jn_sum0 hC h2 hb hl2
  rw [Bool.or_eq_true] at q
  rcases q with q | q
  · have := jn_sum hC h hb hl q; omega
  · have := jn_sum hC h2 hb hl2 q; omega
/-! neighbours -/
def rgt (c r : Nat) (w : Int64) (b : Nat) : Option Nat := if b % c < c - 1 ∧ tb w (sid c r b 3) = false then some (b + 1) else none
def blw (c r : Nat) (w : Int64) (b : Nat) : Option Nat := if b / c < r - 1 ∧ tb w (sid c r b 1) = false then some (b + c) else none
theorem nb_r {c r b : Nat} (hC : Cr c r) (hb : b < c * r) (h : b % c < c - 1) : b + 1 < c * r ∧ isd c r (b + 1) (sid c r b 3) = true := by
  have z := brd2 (fun c r b => !decide (b % c < c - 1) || (decide (b + 1 < c * r) && isd c r (b + 1) (sid c r b 3))) (by decide +kernel) hC hb
  rw [decide_eq_true h] at z
  simpa using z
theorem nb_b {c r b : Nat} (hC : Cr c r) (hb : b < c * r) (h : b / c < r - 1) : b + c < c * r ∧ isd c r (b + c) (sid c r b 1) = true := by
  have z := brd2 (fun c r b => !decide (b / c < r - 1) || (decide (b + c < c * r) && isd c r (b + c) (sid c r b 1))) (by decide +kernel) hC hb
  rw [decide_eq_true h] at z
  simpa using z
def nbP (c r b a k : Nat) : Bool := !decide (a < c * r) || (decide (a = b) || (!isd c r a (sid c r b k) || ((decide (b % c < c - 1) && (decide (a = b + 1) && decide (sid c r b k = sid c r b 3))) || ((decide (b / c < r - 1) && (decide (a = b + c) && decide (sid c r b k = sid c r b 1))) || ((decide (a % c < c - 1) && (decide (b = a + 1) && decide (sid c r b k = sid c r a 3))) || (decide (a / c < r - 1) && (decide (b = a + c) && decide (sid c r b k = sid c r a 1))))))))
set_option maxRecDepth 100000 in
theorem nb_2 {c r b a k : Nat} (hC : Cr c r) (hb : b < c * r) (ha : a < c * r) (hne : a ≠ b) (hk : k < 4) (h : isd c r a (sid c r b k) = true) :
    (b % c < c - 1 ∧ a = b + 1 ∧ sid c r b k = sid c r b 3) ∨ (b / c < r - 1 ∧ a = b + c ∧ sid c r b k = sid c r b 1) ∨ (a % c < c - 1 ∧ b = a + 1 ∧ sid c r b k = sid c r a 3) ∨ (a / c < r - 1 ∧ b = a + c ∧ sid c r b k = sid c r a 1) := by
  have z := brd2 (fun c r b => (List.range 16).all (fun a => (List.range 4).all (fun k => nbP c r b a k))) (by decide +kernel) hC hb
  have z2 := List.all_eq_true.mp z a (List.mem_range.mpr (by have := hC.q; omega))
  have z3 := List.all_eq_true.mp z2 k (List.mem_range.mpr hk)
  unfold nbP at z3
  rw [decide_eq_true ha, decide_eq_false hne, h] at z3
  simpa using z3
theorem isd_sidL {c r b l : Nat} (h : isd c r b l = true) : ∃ k, k < 4 ∧ l = sid c r b k := by
  unfold isd at h
  simp only [Bool.or_eq_true, decide_eq_true_eq] at h
  rcases h with ((h | h) | h) | h
  · exact ⟨0, by decide, h⟩
  · exact ⟨1, by decide, h⟩
  · exact ⟨2, by decide, h⟩
  · exact ⟨3, by decide, h⟩
theorem osd_mk {c r b l : Nat} {w : Int64} (h1 : isd c r b l = true) (h2 : tb w l = false) : osd c r w b l = true := by unfold osd; rw [h1, h2]; rfl
theorem osd_is {c r b l : Nat} {w : Int64} (h : osd c r w b l = true) : isd c r b l = true ∧ tb w l = false := by
  unfold osd at h
  rw [Bool.and_eq_true] at h
  exact ⟨h.1, by simpa using h.2⟩
theorem Lnk_r {c r b : Nat} {w : Int64} (hC : Cr c r) (hb : b < c * r) : Lnk c r w b (rgt c r w b) := fun a e => by
  unfold rgt at e
  by_cases q : b % c < c - 1 ∧ tb w (sid c r b 3) = false
  · rw [if_pos q] at e
    obtain ⟨h1, h2⟩ := nb_r hC hb q.1
    have ea : b + 1 = a := Option.some.inj e
    subst ea
    exact ⟨h1, _, osd_mk (sid_isd (by decide)) q.2, osd_mk h2 q.2⟩
  · rw [if_neg q] at e; cases e
theorem Lnk_b {c r b : Nat} {w : Int64} (hC : Cr c r) (hb : b < c * r) : Lnk c r w b (blw c r w b) := fun a e => by
  unfold blw at e
  by_cases q : b / c < r - 1 ∧ tb w (sid c r b 1) = false
  · rw [if_pos q] at e
    obtain ⟨h1, h2⟩ := nb_b hC hb q.1
    have ea : b + c = a := Option.some.inj e
    subst ea
    exact ⟨h1, _, osd_mk (sid_isd (by decide)) q.2, osd_mk h2 q.2⟩
  · rw [if_neg q] at e; cases e
def Stn (c r : Nat) (w : Int64) (f : Nat → Int32) : Prop := ∀ b, b < c * r → jnB f b (rgt c r w b) = false ∧ jnB f b (blw c r w b) = false
theorem NmR.pos {c r b : Nat} {w : Int64} {f : Nat → Int32} (hC : Cr c r) (h : NmR c r w f) (hb : b < c * r) (ht : thn c r w b = true) : ¬ f b < 0 := by
  obtain ⟨a, h1, -, -, h4⟩ := h.1 b hb ht
  rw [h4]
  exact nI_pos (by have := hC.q; omega)
theorem Stn.adj {c r a b : Nat} {w : Int64} {f : Nat → Int32} (hC : Cr c r) (h : NmR c r w f) (hs : Stn c r w f) (ha : a < c * r) (hta : thn c r w a = true) (q : Adj c r w a b) : f a = f b := by
  obtain ⟨hb, htb, l, l1, l2⟩ := q
  by_cases e : b = a
  · rw [e]
  · obtain ⟨i1, w1⟩ := osd_is l1
    obtain ⟨i2, -⟩ := osd_is l2
    obtain ⟨k, hk, rfl⟩ := isd_sidL i1
    have pa := h.pos hC ha hta
    have pb := h.pos hC hb htb
    have key : ∀ x y, ¬ f x < 0 → ¬ f y < 0 → jnB f x (some y) = false → f x = f y := fun x y p1 p2 p3 => Classical.byContradiction (fun z => by rw [jnB_mk p1 p2 z] at p3; cases p3)
    rcases nb_2 hC ha hb e hk i2 with ⟨g1, g2, g3⟩ | ⟨g1, g2, g3⟩ | ⟨g1, g2, g3⟩ | ⟨g1, g2, g3⟩
    · have s := (hs a ha).1
      unfold rgt at s
      rw [if_pos ⟨g1, by rw [← g3]; exact w1⟩, ← g2] at s
      exact key _ _ pa pb s
    · have s := (hs a ha).2
      unfold blw at s
      rw [if_pos ⟨g1, by rw [← g3]; exact w1⟩, ← g2] at s
      exact key _ _ pa pb s
    · have s := (hs b hb).1
      unfold rgt at s
      rw [if_pos ⟨g1, by rw [← g3]; exact w1⟩, ← g2] at s
      exact (key _ _ pb pa s).symm
    · have s := (hs b hb).2
      unfold blw at s
      rw [if_pos ⟨g1, by rw [← g3]; exact w1⟩, ← g2] at s
      exact (key _ _ pb pa s).symm
theorem Stn.repE {c r b : Nat} {w : Int64} {f : Nat → Int32} (hC : Cr c r) (h : NmR c r w f) (hs : Stn c r w f) (hb : b < c * r) (ht : thn c r w b = true) : f b = nI (rep c r w b) := by
  obtain ⟨r1, r2, r3⟩ := rep_is hb ht
  have e : (b < c * r ∧ thn c r w b = true) ∧ f (rep c r w b) = f b := r3 (fun x => (x < c * r ∧ thn c r w x = true) ∧ f (rep c r w b) = f x) ⟨⟨r1, r2⟩, rfl⟩ (fun x y p q => ⟨⟨q.1, q.2.1⟩, p.2.trans (Stn.adj hC h hs p.1.1 p.1.2 q)⟩)
  obtain ⟨a, h1, h2, h3, h4⟩ := h.1 _ r1 r2
  have k := rep_min h2 h3
  rw [rep_rep hb ht] at k
  rw [← e.2, h4, show a = rep c r w b by omega]
def NaR (c r : Nat) (w : Int64) (f : Nat → Int32) : Prop := ∀ b, b < 16 → f b = oI (if decide (b < c * r) && thn c r w b then some (rep c r w b) else none)
theorem Stn.na {c r : Nat} {w : Int64} {f : Nat → Int32} (hC : Cr c r) (h : NmR c r w f) (hs : Stn c r w f) : NaR c r w f := fun b hb => by
  by_cases q : b < c * r ∧ thn c r w b = true
  · rw [decide_eq_true q.1, q.2, Stn.repE hC h hs q.1 q.2]; rfl
  · rw [h.2 b hb q]
    have e : (decide (b < c * r) && thn c r w b) = false := bfn (fun z => q (by rw [Bool.and_eq_true, decide_eq_true_eq] at z; exact z))
    rw [e]; rfl
theorem NmR.init {c r : Nat} {w : Int64} {f : Nat → Int32} (hC : Cr c r) (h : ∀ b, b < 16 → f b = oI (if decide (b < c * r) && thn c r w b then some b else none)) : NmR c r w f := by
  have h16 := hC.q
  refine ⟨fun b hb ht => ⟨b, Nat.le_refl _, ht, Cnn.rf, ?_⟩, fun b hb q => ?_⟩
  · rw [h b (by omega), decide_eq_true hb, ht]; rfl
  · have e : (decide (b < c * r) && thn c r w b) = false := bfn (fun z => q (by rw [Bool.and_eq_true, decide_eq_true_eq] at z; exact z))
    rw [h b hb, e]; rfl
theorem na_self {c r b : Nat} {w : Int64} {f : Nat → Int32} (h : NaR c r w f) (hb : b < 16) : decide (f b = nI b) = (decide (b < c * r) && isr c r w b) := by
  rw [h b hb]
  by_cases q : (decide (b < c * r) && thn c r w b) = true
  · rw [if_pos q]
    rw [Bool.and_eq_true, decide_eq_true_eq] at q
    have hr := rep_le (c := c) (r := r) (w := w) q.2
    unfold isr
    rw [decide_eq_true q.1, q.2, Bool.true_and, Bool.true_and]
    show decide (nI (rep c r w b) = nI b) = _
    exact decide_eq_decide.mpr (nI_eq (by omega) (by omega))
  · rw [if_neg q]
    have e : decide (oI none = nI b) = false := decide_eq_false (fun z => nI_nm1 (by omega) z.symm)
    rw [e]
    unfold isr
    have q2 := bfn q
    cases h1 : decide (b < c * r) with
    | false => rfl
    | true => rw [h1, Bool.true_and] at q2; rw [q2]; rfl
theorem na_ct {c r : Nat} {w : Int64} {f : Nat → Int32} (hC : Cr c r) (h : NaR c r w f) : fb_ct (fun b => decide (f b = nI b)) 16 = nst c r w := by
  have h16 := hC.q
  have e := fb_ct_split (fun b => decide (f b = nI b)) (c * r) (16 - c * r)
  rw [show c * r + (16 - c * r) = 16 by omega] at e
  have z : fb_ct (fun k => decide (f (c * r + k) = nI (c * r + k))) (16 - c * r) = 0 := fb_ct_zero.mpr (fun k hk => by rw [na_self h (by omega), decide_eq_false (by omega)]; rfl)
  rw [e, z, Nat.add_zero]
  exact fb_ct_cong (fun k hk => by rw [na_self h (by omega), decide_eq_true hk]; rfl)
theorem na_k {c r lo b : Nat} {w : Int64} {f : Nat → Int32} (hC : Cr c r) (h : NaR c r w f) (hlo : lo < c * r) (hr : isr c r w lo = true) (hb : b < c * r) : f b = nI lo ↔ inS c r w (fb_ct (isr c r w) lo) b = true := by
  have h16 := hC.q
  rw [h b (by omega), inS_rep hlo hr hb, decide_eq_true hb, Bool.true_and]
  cases q : thn c r w b with
  | false =>
    rw [Bool.false_and]
    exact ⟨fun z => absurd z.symm (nI_nm1 (by omega)), fun z => by cases z⟩
  | true =>
    have hr2 := rep_le (c := c) (r := r) (w := w) q
    rw [Bool.true_and, decide_eq_true_eq]
    exact nI_eq (by omega) (by omega)
theorem zb_or (a b : Bool) : zb a ||| zb b = zb (a || b) := by cases a <;> cases b <;> decide
