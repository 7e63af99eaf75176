/-! filling a string -/
theorem cl_end {c r n i : Nat} {w : Int64} {X : Nat → Bool} (hX : ∀ b, b < c * r → X b = true → thn c r w b = true ∧ rep c r w b = n) (h : ∀ b, b < i → thn c r w b = true → X b = false → ¬ rep c r w b < n → ∀ x, x < c * r → X x = true → ¬ Adj c r w x b) (hi : c * r ≤ i) : ∀ x y, x < c * r → X x = true → Adj c r w x y → X y = true := by
  intro x y hx hxx ha
  cases q : X y with
  | true => rfl
  | false =>
    obtain ⟨k1, k2⟩ := hX x hx hxx
    have e := rep_eq hx k1 (Cnn.rf.st ha)
    exact absurd ha (h y (by have := ha.1; omega) ha.2.1 q (by omega) x hx hxx)
theorem adj_y {c r i : Nat} {w li : Int64} {X : Nat → Bool} (hC : Cr c r) (hi : i < c * r) (ht : thn c r w i = true) (h3 : ∀ l, tb li l = orb (fun b => X b && osd c r w b l) (c * r)) (h : ¬ (iOA c r w i &&& li) = 0) : ∃ x, x < c * r ∧ X x = true ∧ Adj c r w x i := by
  have : ∃ l, l < 64 ∧ tb (iOA c r w i &&& li) l = true := by
    refine Classical.byContradiction (fun q => h (tb_zero.mpr (fun l hl => ?_)))
    cases e : tb (iOA c r w i &&& li) l with
    | false => rfl
    | true => exact absurd ⟨l, hl, e⟩ q
  obtain ⟨l, _, e⟩ := this
  rw [tb_and, tb_iOA hC hi, h3, Bool.and_eq_true, orb_iff] at e
  obtain ⟨e1, x, hx, e2⟩ := e
  rw [Bool.and_eq_true] at e2
  exact ⟨x, hx, e2.1, hi, ht, l, e2.2, e1⟩
theorem adj_n {c r i : Nat} {w li : Int64} {X : Nat → Bool} (hC : Cr c r) (hi : i < c * r) (h3 : ∀ l, tb li l = orb (fun b => X b && osd c r w b l) (c * r)) (h : (iOA c r w i &&& li) = 0) : ∀ x, x < c * r → X x = true → ¬ Adj c r w x i := by
  rintro x hx hxx ⟨_, _, l, h1, h2⟩
  have hl := (osd_al hC hi h2).1
  have := tb_zero.mp h l (lt_al hC hl)
  rw [tb_and, tb_iOA hC hi, h3, orb_iff.mpr ⟨x, hx, by rw [hxx, h1]; rfl⟩] at this
  unfold osd at h2
  rw [h2] at this
  cases this
theorem add_in {c r n i : Nat} {w : Int64} {X : Nat → Bool} (hX : ∀ b, b < c * r → X b = true → thn c r w b = true ∧ rep c r w b = n) (h : ∃ x, x < c * r ∧ X x = true ∧ Adj c r w x i) : ∀ b, b < c * r → addX X i b = true → thn c r w b = true ∧ rep c r w b = n := by
  intro b hb q
  unfold addX at q
  by_cases e : b = i
  · subst e
    obtain ⟨x, hx, hxx, ha⟩ := h
    obtain ⟨k1, k2⟩ := hX x hx hxx
    have e := rep_eq hx k1 (Cnn.rf.st ha)
    exact ⟨ha.2.1, by omega⟩
  · rw [if_neg e] at q
    exact hX b hb q
theorem addX_t {X : Nat → Bool} {i j : Nat} (h : X j = true) : addX X i j = true := by unfold addX; rw [h]; simp
theorem addX_i {X : Nat → Bool} {i : Nat} : addX X i i = true := by unfold addX; rw [if_pos rfl]
theorem flx_join {c r i k : Nat} {w : Int64} {X : Nat → Bool} {us uo : Nat → Int32} {ul uh : Nat → Int64} (hC : Cr c r) (hi : i < c * r) (hX : X i = false) (h : FlX c r w X (us k) (uo k) (ul k) (uh k)) : FlX c r w (addX X i) ((upd us k (us k + nI 1)) k) ((if opn c r w i = 1 then upd uo k (nI 1) else uo) k) ((vp_updL ul k (ul k ||| iOA c r w i)) k) ((vp_updL uh k (uh k ||| (iOA c r w i &&& ul k))) k) := by
  have := h.add hC hi hX
  rw [pk_us, pk_uLs, pk_uLs]
  by_cases q : opn c r w i = 1
  · rw [if_pos q] at this ⊢; rw [pk_us]; exact this
  · rw [if_neg q] at this ⊢; exact this
theorem flx_e {c r k : Nat} {w : Int64} {us uo : Nat → Int32} {ul uh : Nat → Int64} : FlX c r w (fun _ => false) ((upd us k (nI 0)) k) ((upd uo k (nI 0)) k) ((vp_updL ul k 0) k) ((vp_updL uh k 0) k) := by
  rw [pk_us, pk_us, pk_uLs, pk_uLs]
  exact FlX.e
theorem fin_join {c r i k : Nat} {w : Int64} {us uo di : Nat → Int32} {ul : Nat → Int64} {x y : Int32} {z : Int64} (h : FinOK c r w k us uo di ul) : FinOK c r w k (upd us k x) (if opn c r w i = 1 then upd uo k y else uo) di (vp_updL ul k z) := by
  intro j hj
  have e : j ≠ k := by omega
  rw [pk_un e, pk_uLn e]
  split
  · rw [pk_un e]; exact h j hj
  · exact h j hj
theorem fin_e {c r k : Nat} {w : Int64} {us uo di : Nat → Int32} {ul : Nat → Int64} {x y : Int32} {z : Int64} (h : FinOK c r w k us uo di ul) : FinOK c r w k (upd us k x) (upd uo k y) di (vp_updL ul k z) := by
  intro j hj
  have e : j ≠ k := by omega
  rw [pk_un e, pk_un e, pk_uLn e]
  exact h j hj
theorem fin_s {c r k : Nat} {w : Int64} {us uo di : Nat → Int32} {ul uh : Nat → Int64} (h : FinOK c r w k us uo di ul) (f : FlX c r w (inS c r w k) (us k) (uo k) (ul k) (uh k)) : FinOK c r w (k + 1) us uo (upd di k (nI (sdis c r w k))) ul := by
  intro j hj
  by_cases e : j = k
  · subst e
    rw [pk_us]
    exact ⟨f.1, f.2.1, rfl, f.2.2.1⟩
  · rw [pk_un e]
    exact h j (by omega)
theorem sdis_y {c r k : Nat} {w : Int64} (h : slop c r w k = true) : sdis c r w k = 8 := by unfold sdis; rw [if_pos h]
theorem sdis_l {c r k : Nat} {w : Int64} (h : ¬ slop c r w k = true) (h3 : 3 ≤ ssz c r w k) : sdis c r w k = 4 := by unfold sdis; rw [if_neg h, if_pos h3]
theorem sdis_s {c r k : Nat} {w : Int64} (h : ¬ slop c r w k = true) (h3 : ¬ 3 ≤ ssz c r w k) : sdis c r w k = 0 := by unfold sdis; rw [if_neg h, if_neg h3]
theorem zn_0 {b : Bool} : zn b = 0 ↔ b = false := by cases b <;> simp [zn]
theorem zn_1 {b : Bool} : zn b = 1 ↔ b = true := by cases b <;> simp [zn]
theorem zn_le (b : Bool) : zn b ≤ 1 := by cases b <;> decide
theorem nI_zn (b : Bool) : nI (zn b) = zb b := by cases b <;> rfl
def LyOK (c r : Nat) (w : Int64) (nu sz op di : Nat → Int32) (li : Nat → Int64) : Prop := NuOK c r w (c * r) nu ∧ FinOK c r w (nst c r w) sz op di li
def StOK (c r : Nat) (w : Int64) (am tx : Int32) (tl : Int64) (nu sz op di : Nat → Int32) (li : Nat → Int64) : Prop := am = nI (nst c r w) ∧ tx = nI (thk c r w) ∧ tl = thl c r w ∧ LyOK c r w nu sz op di li
def PrOK (c r : Nat) (w : Int64) (pr : Bool) (pq : Int32) : Prop := pr = true → nst c r w ≤ 10 → pq = iI (prd c r w)
theorem Nu0 {c r : Nat} {w : Int64} {nu : Nat → Int32} (h : ∀ b, b < c * r → nu b = -1) : NuOK c r w 0 nu := by
  intro b hb
  rw [h b hb, decide_eq_false (Nat.not_lt_zero _), Bool.and_false]
  rfl
theorem Fin0 {c r : Nat} {w : Int64} {sz op di : Nat → Int32} {li : Nat → Int64} : FinOK c r w 0 sz op di li := fun j hj => absurd hj (Nat.not_lt_zero _)
theorem NuOK.lab {c r : Nat} {w : Int64} {nu : Nat → Int32} (h : NuOK c r w (c * r) nu) {b : Nat} (hb : b < c * r) : nu b = oI (labO c r w b) := by
  rw [h b hb]
  unfold labO
  cases q : thn c r w b with
  | false => rfl
  | true =>
    rw [decide_eq_true (rep_is hb q).1]
    rfl
theorem isr_lt {c r n : Nat} {w : Int64} (hn : n < c * r) (h : isr c r w n = true) : fb_ct (isr c r w) n < nst c r w := by
  have h2 := fb_ct_mono (isr c r w) (m := n + 1) (n := c * r) (by omega)
  rw [fb_ct_succ, h] at h2
  simp only [if_true] at h2
  unfold nst
  omega
theorem mn10 {n : Nat} (h : n ≤ 10) : mnI (nI n) (nI 10) = nI n := by
  unfold mnI
  rw [if_neg]
  intro q
  have := (nI_ltI (by decide) (by omega)).mp q
  omega
theorem pow10 {n s : Nat} (hn : n ≤ 10) (hs : s < 2 ^ n) : s < 1024 := Nat.lt_of_lt_of_le hs (Nat.pow_le_pow_right (by decide) hn)
theorem wv_c {n d : Nat} {v : Int} (h : d = 0) : wv n d v = (n : Int) - v := by unfold wv; rw [if_pos h]
theorem wv_k {n d : Nat} {v : Int} (h : ¬ d = 0) : wv n d v = max ((n : Int) - v) ((n : Int) - d + v) := by unfold wv; rw [if_neg h]
/-- what is told of a string: boxes, loop, open, lines, lines to others -/
noncomputable def propM (c r : Nat) (w : Int64) (k : Nat) : Nat → Nat
  | 0 => ssz c r w k
  | 1 => zn (slop c r w k)
  | 2 => zn (sopn c r w k)
  | 3 => slin c r w k
  | _ => smix c r w k
/-- the control numbers -/
noncomputable def ctrM (c r : Nat) (w : Int64) : Nat → Int
  | 0 => (cwd c r w 4 : Int)
  | 1 => (cwd c r w 8 : Int)
  | 2 => (thk c r w : Int)
  | 3 => (zn (decide (thk c r w = 0) && !aop c r w) : Int)
  | 4 => cval c r w
  | _ => ((((c + 1) * (r + 1) + cwd c r w 4) % 2 : Nat) : Int)
theorem cwd_le (c r : Nat) (w : Int64) (d : Nat) : cwd c r w d ≤ nst c r w := fb_ct_le _ _
theorem thk_le (c r : Nat) (w : Int64) : thk c r w ≤ c * r := fb_ct_le _ _
theorem aop_t {c r k : Nat} {w : Int64} (hk : k < nst c r w) (h : sopn c r w k = true) : aop c r w = true := orb_iff.mpr ⟨k, hk, h⟩
theorem aop_f {c r : Nat} {w : Int64} (h : ∀ k, k < nst c r w → sopn c r w k = false) : aop c r w = false := by
  rw [Bool.eq_false_iff]
  intro z
  obtain ⟨k, hk, q⟩ := orb_iff.mp z
  rw [h k hk] at q
  cases q
theorem corner_le {c r : Nat} (hC : Cr c r) : (c + 1) * (r + 1) ≤ 25 := by
  have := Cr_dec (fun c r => decide ((c + 1) * (r + 1) ≤ 25)) (by decide +kernel) hC
  simpa using this
