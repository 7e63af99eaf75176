/-! strings as the model spreads them -/
def SpX (c r : Nat) (w : Int64) (n k : Nat) (X V : Nat → Bool) (sa : Nat → Int32) (z : Bool) : Prop := NuX c r w n V k sa ∧ (∀ b, b < c * r → V b = true → thn c r w b = true ∧ rep c r w b = n) ∧ (∀ a, X a = true → V a = true) ∧ (z = true → fb_ct X (c * r) + 1 ≤ fb_ct V (c * r)) ∧ (z = false → ∀ a, a < c * r → V a = X a)
theorem SpX.rf {c r n k : Nat} {w : Int64} {X : Nat → Bool} {sa : Nat → Int32} (h : NuX c r w n X k sa) (hX : ∀ b, b < c * r → X b = true → thn c r w b = true ∧ rep c r w b = n) : SpX c r w n k X X sa false := ⟨h, hX, fun _ q => q, fun q => by (cases q), fun _ _ _ => rfl⟩
theorem SpX.join {c r n k y : Nat} {w : Int64} {X V : Nat → Bool} {sa : Nat → Int32} {z : Bool} (h : SpX c r w n k X V sa z) (hy : y < c * r) (hV : V y = false) (ht : thn c r w y = true ∧ rep c r w y = n) : SpX c r w n k X (addX V y) (upd sa y (nI k)) true := by
  obtain ⟨h1, h2, h3, h4, h5⟩ := h
  refine ⟨h1.add, fun b hb q => ?_, fun a q => addX_t (h3 a q), fun _ => ?_, fun q => by cases q⟩
  · unfold addX at q
    by_cases e : b = y
    · subst e; exact ht
    · rw [if_neg e] at q; exact h2 b hb q
  · rw [ct_addX1 hy hV]
    have := fb_ct_sub (n := c * r) (fun k _ q => h3 k q)
    omega
theorem SpX.tr {c r n k : Nat} {w : Int64} {X U V : Nat → Bool} {sa sb : Nat → Int32} {y z : Bool} (h : SpX c r w n k X U sa y) (g : SpX c r w n k U V sb z) : SpX c r w n k X V sb (z || y) := by
  obtain ⟨h1, h2, h3, h4, h5⟩ := h
  obtain ⟨g1, g2, g3, g4, g5⟩ := g
  have a := fb_ct_sub (n := c * r) (fun k _ q => h3 k q)
  have b := fb_ct_sub (n := c * r) (fun k _ q => g3 k q)
  refine ⟨g1, g2, fun a q => g3 a (h3 a q), fun q => ?_, fun q a ha => ?_⟩
  · cases z with
    | true => have := g4 rfl; omega
    | false =>
      have := h4 q
      omega
  · cases z with
    | true => cases q
    | false => rw [g5 rfl a ha, h5 q a ha]
theorem NuX.at {c r n k b : Nat} {w : Int64} {X : Nat → Bool} {sa : Nat → Int32} (h : NuX c r w n X k sa) (hb : b < c * r) (hX : X b = true) : sa b = nI k := by rw [h b hb, hX]; rfl
theorem NuX.nf {c r n k y : Nat} {w : Int64} {X : Nat → Bool} {sa : Nat → Int32} (hC : Cr c r) (h : NuX c r w n X k sa) (hk : k ≤ 16) (hy : y < c * r) (hr : rep c r w y = n) (q : ¬ sa y = -1) : X y = true := by
  rw [h.free hC hk hy] at q
  cases e : X y with
  | true => rfl
  | false => exact absurd ⟨e, fun z => by omega⟩ q
theorem NuX.isk {c r n k b : Nat} {w : Int64} {X : Nat → Bool} {sa : Nat → Int32} (hC : Cr c r) (h : NuX c r w n X k sa) (hk : k = fb_ct (isr c r w) n) (hk16 : k ≤ 16) (hb : b < c * r) : sa b = nI k ↔ X b = true := by
  constructor
  · intro e
    rw [h b hb] at e
    cases q : X b with
    | true => rfl
    | false =>
      rw [q] at e
      simp only [Bool.false_eq_true, if_false] at e
      split at e
      · rename_i z
        rw [Bool.and_eq_true, decide_eq_true_eq] at z
        have h2 := fb_ct_mono (isr c r w) (m := rep c r w b + 1) (n := n) (by omega)
        rw [fb_ct_succ, isr_rep hb z.1] at h2
        simp only [if_true] at h2
        have e2 : nI (lab c r w b) = nI k := e
        have e3 := (nI_eq (by unfold lab; omega) (by omega)).mp e2
        unfold lab at e3
        omega
      · exact absurd e.symm (nI_nm1 (by omega))
  · exact h.at hb
/-- what a box beside an open side of a string's box is -/
theorem beside_in {c r n b y l : Nat} {w : Int64} {j : Nat} (hC : Cr c r) (hb : b < c * r) (ht : thn c r w b = true) (hr : rep c r w b = n) (hl : isd c r b l = true) (hw : tb w l = false) (hj : j < 2) (hy : bes c r l j = some y) (hty : thn c r w y = true) : y < c * r ∧ rep c r w y = n := by
  have hla := isd_al hC hb hl
  have hyb := bes_lt hC hla hy
  have hi : isd c r y l = true := (isd_bes hC hyb hla).mpr (by
    have : j = 0 ∨ j = 1 := by omega
    rcases this with e | e
    · subst e; exact Or.inl hy
    · subst e; exact Or.inr hy)
  have ha : Adj c r w b y := ⟨hyb, hty, l, by unfold osd; rw [hl, hw]; rfl, by unfold osd; rw [hi, hw]; rfl⟩
  have := rep_eq hb ht (Cnn.rf.st ha)
  exact ⟨hyb, by omega⟩
def CvX (c r : Nat) (w : Int64) (b : Nat) (V : Nat → Bool) (i : Nat) : Prop := ∀ m, m < i → ∀ y, y < c * r → thn c r w y = true → tb w (sid c r b m) = false → isd c r y (sid c r b m) = true → V y = true
def CvT (c r : Nat) (w : Int64) (l : Nat) (V : Nat → Bool) (j : Nat) : Prop := ∀ t, t < j → ∀ y, bes c r l t = some y → thn c r w y = true → V y = true
theorem CvX.add {c r b i y : Nat} {w : Int64} {V : Nat → Bool} (h : CvX c r w b V i) : CvX c r w b (addX V y) i := fun m hm x h1 h2 h3 h4 => addX_t (h m hm x h1 h2 h3 h4)
theorem CvT.add {c r l j y : Nat} {w : Int64} {V : Nat → Bool} (h : CvT c r w l V j) : CvT c r w l (addX V y) j := fun m hm x h1 h2 => addX_t (h m hm x h1 h2)
theorem CvX.s1 {c r b i : Nat} {w : Int64} {V : Nat → Bool} (hC : Cr c r) (hb : b < c * r) (hi : i < 4) (h : CvX c r w b V i) (t : CvT c r w (sid c r b i) V 2) : CvX c r w b V (i + 1) := by
  refine lt_s h (fun y hy ht _ hd => ?_)
  rcases (isd_bes hC hy (sid_lt hC hb hi)).mp hd with q | q
  · exact t 0 (by omega) y q ht
  · exact t 1 (by omega) y q ht
theorem CvX.s2 {c r b i : Nat} {w : Int64} {V : Nat → Bool} (h : CvX c r w b V i) (t : tb w (sid c r b i) = true) : CvX c r w b V (i + 1) := lt_s h (fun y _ _ z _ => by rw [t] at z; cases z)
theorem CvX.all {c r b : Nat} {w : Int64} {V : Nat → Bool} (h : CvX c r w b V 4) : ∀ y, Adj c r w b y → V y = true := by
  rintro y ⟨h1, h2, l, h3, h4⟩
  unfold osd at h3 h4
  rw [Bool.and_eq_true] at h3 h4
  obtain ⟨m, hm, rfl⟩ := isd_sid h3.1
  exact h m hm y h1 h2 (by simpa using h3.2) h4.1
def SaOK (c r : Nat) (w : Int64) (sa sz lp op : Nat → Int32) : Prop := NuOK c r w (c * r) sa ∧ ∀ k, k < nst c r w → sz k = nI (ssz c r w k) ∧ lp k = zb (slop c r w k) ∧ op k = zb (sopn c r w k)
theorem sa_k {c r k b : Nat} {w : Int64} {sa : Nat → Int32} (hC : Cr c r) (h : NuOK c r w (c * r) sa) (hb : b < c * r) (hk : k < 2 ^ 31) : sa b = nI k ↔ inS c r w k b = true := by
  rw [h.lab hb]
  unfold labO inS
  cases q : thn c r w b with
  | false =>
    simp only [Bool.false_eq_true, if_false, Bool.false_and, iff_false]
    exact fun e => nI_nm1 hk e.symm
  | true =>
    have := lab_lt hb q
    have := nst_le c r w
    have := hC.q
    simp only [if_true, Bool.true_and, decide_eq_true_eq]
    exact nI_eq (by omega) hk
noncomputable def slq (c r : Nat) (w : Int64) (k : Nat) (v : Bool) (l : Nat) : Bool := !tb w l && orb (bsP (inS c r w k) c r l) 2 && (orb (bsP (fun b => !thn c r w b) c r l) 2 || !v)
theorem slq_lin {c r k : Nat} {w : Int64} : fb_ct (slq c r w k false) (al c r) = slin c r w k := fb_ct_cong (fun l _ => by unfold slq; simp)
theorem slq_mix {c r k : Nat} {w : Int64} : fb_ct (slq c r w k true) (al c r) = smix c r w k := fb_ct_cong (fun l _ => by unfold slq; simp)
def gorP (c r : Nat) (w : Int64) (b k : Nat) : Bool := tb w (sid c r b k) || andb (bsP (thn c r w) c r (sid c r b k)) 2
theorem gor_s1 {c r b i : Nat} {w : Int64} {p : Bool} (h : tb w (sid c r b i) = false) : (p && andb (gorP c r w b) (i + 1)) = ((p && andb (gorP c r w b) i) && andb (bsP (thn c r w) c r (sid c r b i)) 2) := by
  rw [andb, ← Bool.and_assoc, gorP, h, Bool.false_or]
theorem gor_s2 {c r b i : Nat} {w : Int64} {p : Bool} (h : tb w (sid c r b i) = true) : (p && andb (gorP c r w b) (i + 1)) = (p && andb (gorP c r w b) i) := by
  rw [andb, gorP, h, Bool.true_or, Bool.and_true]
def DnK (c r : Nat) (w : Int64) (vs vl vo : Nat → Int32) (k : Nat) : Prop := ∀ j, j < k → vs j = nI (ssz c r w j) ∧ vl j = zb (slop c r w j) ∧ vo j = zb (sopn c r w j)
theorem DnK.u {c r k : Nat} {w : Int64} {vs vl vo : Nat → Int32} {x y z : Int32} (h : DnK c r w vs vl vo k) : DnK c r w (upd vs k x) (upd vl k y) (upd vo k z) k := fun j hj => by
  rw [pk_un (by omega), pk_un (by omega), pk_un (by omega)]
  exact h j hj
theorem Dn_s {c r k : Nat} {w : Int64} {vs vl vo : Nat → Int32} (h : DnK c r w vs vl vo k) (h1 : vs k = nI (ssz c r w k)) (h2 : vl k = zb (slop c r w k)) (h3 : vo k = zb (sopn c r w k)) : DnK c r w vs vl vo (k + 1) := lt_s h ⟨h1, h2, h3⟩
theorem iI_le {a b : Int} (h1 : -100000 ≤ a) (h2 : a ≤ 100000) (h3 : -100000 ≤ b) (h4 : b ≤ 100000) : iI a ≤ iI b ↔ a ≤ b := by
  rw [← Int32.not_lt, iI_lt h3 h4 h1 h2]
  omega
theorem sdis8 {c r k : Nat} {w : Int64} : decide (sdis c r w k = 8) = slop c r w k := by
  rcases sdis_or c r w k with q | ⟨q0, q | q⟩
  · rw [q.1, q.2]; rfl
  · rw [q.1, q0]; rfl
  · rw [q.1, q0]; rfl
theorem isl_y {c r k : Nat} {w : Int64} (h : slop c r w k = true) : decide (sdis c r w k = 4) = false := by rw [sdis_y h]; rfl
theorem isl_l {c r k : Nat} {w : Int64} (h : slop c r w k = false) (h3 : 3 ≤ ssz c r w k) : decide (sdis c r w k = 4) = true := by rw [sdis_l (by rw [h]; decide) h3]; rfl
theorem isl_s {c r k : Nat} {w : Int64} (h : slop c r w k = false) (h3 : ¬ 3 ≤ ssz c r w k) : decide (sdis c r w k = 4) = false := by rw [sdis_s (by rw [h]; decide) h3]; rfl
theorem sd_0 {c r k : Nat} {w : Int64} (h : slop c r w k = false) (h4 : decide (sdis c r w k = 4) = false) : sdis c r w k = 0 := by
  rcases sdis_or c r w k with q | ⟨_, q | q⟩
  · rw [q.2] at h; cases h
  · rw [q.1] at h4; cases h4
  · exact q.1
theorem pmn_s0 {n d : Nat → Nat} {T : Nat → Int} {s k : Nat} (h : s.testBit k = false) : pmn n d T s (k + 1) = pmn n d T s k := by rw [pmn, if_neg (by rw [h]; decide)]
theorem pmn_s1 {n d : Nat → Nat} {T : Nat → Int} {s k : Nat} (h : s.testBit k = true) (e : pmn n d T s k = none) : pmn n d T s (k + 1) = some (wv (n k) (d k) (T (clr s k))) := by rw [pmn, if_pos h, e]
theorem pmn_s2 {n d : Nat → Nat} {T : Nat → Int} {s k : Nat} {q : Int} (h : s.testBit k = true) (e : pmn n d T s k = some q) : pmn n d T s (k + 1) = some (min q (wv (n k) (d k) (T (clr s k)))) := by rw [pmn, if_pos h, e]
theorem pmn_end {n d : Nat → Nat} {m s : Nat} {z : Bool} {q : Int} {x : Int32} (h0 : s ≠ 0) (hs : s < 2 ^ m) (h1 : z = true → pmn n d (pv n d m) s m = none) (h2 : z = false → pmn n d (pv n d m) s m = some q ∧ x = iI q) : x = iI (pv n d m s) := by
  rw [pv_eq]
  cases z with
  | false => rw [(h2 rfl).1, (h2 rfl).2]; rfl
  | true =>
    have this := pmn_no (h1 rfl)
    exact absurd (Nat.eq_of_testBit_eq (fun j => by
      rw [Nat.zero_testBit]
      rcases Nat.lt_or_ge j m with q | q
      · exact this j q
      · exact Nat.testBit_lt_two_pow (Nat.lt_of_lt_of_le hs (Nat.pow_le_pow_right (by decide) q)))) h0
