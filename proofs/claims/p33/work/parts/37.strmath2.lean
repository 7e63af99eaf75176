/-! loops, lines and control of strings -/
theorem thn_1 {c r b : Nat} {w : Int64} (h : opn c r w b = 1) : thn c r w b = true := by unfold thn; rw [h]; rfl
theorem thn_2 {c r b : Nat} {w : Int64} (h : opn c r w b = 2) : thn c r w b = true := by unfold thn; rw [h]; rfl
theorem thn_no {c r b : Nat} {w : Int64} (h1 : ¬ opn c r w b = 1) (h2 : ¬ opn c r w b = 2) : thn c r w b = false := by
  unfold thn
  rw [Bool.eq_false_iff]
  intro z
  rw [Bool.and_eq_true, decide_eq_true_eq, decide_eq_true_eq] at z
  omega
theorem thn_is {c r b : Nat} {w : Int64} (h : thn c r w b = true) : opn c r w b = 1 ∨ opn c r w b = 2 := by
  unfold thn at h
  rw [Bool.and_eq_true, decide_eq_true_eq, decide_eq_true_eq] at h
  omega
theorem inS_is {c r k b : Nat} {w : Int64} (h : inS c r w k b = true) : thn c r w b = true ∧ lab c r w b = k := by
  unfold inS at h
  rw [Bool.and_eq_true, decide_eq_true_eq] at h
  exact h
theorem inS_adj {c r k b x : Nat} {w : Int64} (hb : b < c * r) (h : inS c r w k b = true) (q : Adj c r w b x) : inS c r w k x = true := by
  obtain ⟨h1, h2⟩ := inS_is h
  have e := rep_eq hb h1 (Cnn.rf.st q)
  unfold inS
  rw [q.2.1, decide_eq_true (by unfold lab; rw [← e]; exact h2)]
  rfl
def bsP (q : Nat → Bool) (c r l m : Nat) : Bool := match bes c r l m with
  | none => false
  | some b => q b
theorem bsP_n {q : Nat → Bool} {c r l m : Nat} (h : bes c r l m = none) : bsP q c r l m = false := by unfold bsP; rw [h]
theorem bsP_s {q : Nat → Bool} {c r l m b : Nat} (h : bes c r l m = some b) : bsP q c r l m = q b := by unfold bsP; rw [h]
theorem bsP_t {q : Nat → Bool} {c r l m : Nat} (h : bsP q c r l m = true) : ∃ b, bes c r l m = some b ∧ q b = true := by
  cases e : bes c r l m with
  | none => rw [bsP_n e] at h; cases h
  | some b => rw [bsP_s e] at h; exact ⟨b, rfl, h⟩
theorem ct_osd {c r l : Nat} {w : Int64} (hC : Cr c r) (hl : l < al c r) (X : Nat → Bool) : fb_ct (fun b => X b && osd c r w b l) (c * r) = (if !tb w l && bsP X c r l 0 then 1 else 0) + (if !tb w l && bsP X c r l 1 then 1 else 0) := by
  rw [fb_ct_cong (q := fun b => isd c r b l && (X b && !tb w l)) (fun b _ => by unfold osd; cases X b <;> cases isd c r b l <;> rfl), ct_bes hC hl]
  congr 1
  · unfold bsP
    cases bes c r l 0 with
    | none => simp
    | some b =>
      show (if (X b && !tb w l) = true then 1 else 0) = (if (!tb w l && X b) = true then 1 else 0)
      rw [Bool.and_comm]
  · unfold bsP
    cases bes c r l 1 with
    | none => simp
    | some b =>
      show (if (X b && !tb w l) = true then 1 else 0) = (if (!tb w l && X b) = true then 1 else 0)
      rw [Bool.and_comm]
theorem osd_al {c r b l : Nat} {w : Int64} (hC : Cr c r) (hb : b < c * r) (h : osd c r w b l = true) : l < al c r ∧ isd c r b l = true ∧ tb w l = false := by
  unfold osd at h
  rw [Bool.and_eq_true] at h
  exact ⟨isd_al hC hb h.1, h.1, by simpa using h.2⟩
theorem isd_sid {c r b l : Nat} (h : isd c r b l = true) : ∃ k, k < 4 ∧ l = sid c r b k := by
  unfold isd at h
  rw [Bool.or_eq_true, Bool.or_eq_true, Bool.or_eq_true, decide_eq_true_eq, decide_eq_true_eq, decide_eq_true_eq, decide_eq_true_eq] at h
  rcases h with ((h | h) | h) | h
  · exact ⟨0, by omega, h⟩
  · exact ⟨1, by omega, h⟩
  · exact ⟨2, by omega, h⟩
  · exact ⟨3, by omega, h⟩
theorem sid_isd {c r b k : Nat} (h : k < 4) : isd c r b (sid c r b k) = true := by
  unfold isd
  have : k = 0 ∨ k = 1 ∨ k = 2 ∨ k = 3 := by omega
  rcases this with e | e | e | e <;> subst e <;> simp
theorem gor_eq (c r : Nat) (w : Int64) (b : Nat) : gor c r w b = (decide (opn c r w b = 2) && andb (fun k => tb w (sid c r b k) || andb (bsP (thn c r w) c r (sid c r b k)) 2) 4) := rfl
theorem slop_iff {c r k : Nat} {w : Int64} {sz op : Int32} {li sh : Int64} (hC : Cr c r) (h : FlX c r w (inS c r w k) sz op li sh) : slop c r w k = true ↔ sopn c r w k = false ∧ li = sh := by
  obtain ⟨h1, h2, h3, h4⟩ := h
  unfold slop
  rw [andb_iff]
  constructor
  · intro q
    constructor
    · rw [Bool.eq_false_iff]
      intro z
      unfold sopn at z
      rw [orb_iff] at z
      obtain ⟨b, hb, z⟩ := z
      rw [Bool.and_eq_true, decide_eq_true_eq] at z
      have y := q b hb
      rw [z.1, Bool.not_true, Bool.false_or, gor_eq, Bool.and_eq_true, decide_eq_true_eq] at y
      omega
    · apply tb_ext
      intro l hl
      rw [h3, h4, orb_pos]
      refine decide_eq_decide.mpr ⟨fun z => ?_, fun z => by omega⟩
      obtain ⟨b, hb, z⟩ := fb_ct_pos.mp z
      rw [Bool.and_eq_true] at z
      obtain ⟨o1, o2, o3⟩ := osd_al hC hb z.2
      have y := q b hb
      rw [z.1, Bool.not_true, Bool.false_or, gor_eq, Bool.and_eq_true, andb_iff] at y
      obtain ⟨m, hm, rfl⟩ := isd_sid o2
      have y2 := y.2 m hm
      rw [o3, Bool.false_or, andb_iff] at y2
      obtain ⟨x0, e0, t0⟩ := bsP_t (y2 0 (by omega))
      obtain ⟨x1, e1, t1⟩ := bsP_t (y2 1 (by omega))
      have b0 := bes_lt hC o1 e0
      have b1 := bes_lt hC o1 e1
      have i0 : isd c r x0 (sid c r b m) = true := (isd_bes hC b0 o1).mpr (Or.inl e0)
      have i1 : isd c r x1 (sid c r b m) = true := (isd_bes hC b1 o1).mpr (Or.inr e1)
      have s0 : inS c r w k x0 = true := inS_adj hb z.1 ⟨b0, t0, _, z.2, by unfold osd; rw [i0, o3]; rfl⟩
      have s1 : inS c r w k x1 = true := inS_adj hb z.1 ⟨b1, t1, _, z.2, by unfold osd; rw [i1, o3]; rfl⟩
      rw [ct_osd hC o1, bsP_s e0, bsP_s e1, s0, s1, o3]
      simp
  · rintro ⟨q1, q2⟩ b hb
    cases z : inS c r w k b with
    | false => rfl
    | true =>
      rw [Bool.not_true, Bool.false_or, gor_eq]
      have ho : opn c r w b = 2 := by
        rcases thn_is (inS_is z).1 with y | y
        · unfold sopn at q1
          have := (orb_iff (p := fun b => inS c r w k b && decide (opn c r w b = 1))).mpr ⟨b, hb, by show (inS c r w k b && decide (opn c r w b = 1)) = true; rw [z, decide_eq_true y]; rfl⟩
          rw [q1] at this
          cases this
        · exact y
      rw [decide_eq_true ho, Bool.true_and, andb_iff]
      intro m hm
      cases y : tb w (sid c r b m) with
      | true => rfl
      | false =>
        rw [Bool.false_or, andb_iff]
        have hs := sid_lt hC hb hm
        have hos : osd c r w b (sid c r b m) = true := by unfold osd; rw [sid_isd hm, y]; rfl
        have t := congrArg (fun v => tb v (sid c r b m)) q2
        simp only [h3, h4] at t
        rw [orb_iff.mpr ⟨b, hb, by rw [z, hos]; rfl⟩] at t
        have t2 := of_decide_eq_true t.symm
        rw [ct_osd hC hs, y] at t2
        simp only [Bool.not_false, Bool.true_and] at t2
        have k0 : bsP (inS c r w k) c r (sid c r b m) 0 = true := by
          cases e : bsP (inS c r w k) c r (sid c r b m) 0 with
          | true => rfl
          | false => rw [e] at t2; simp only [Bool.false_eq_true, if_false] at t2; split at t2 <;> omega
        have k1 : bsP (inS c r w k) c r (sid c r b m) 1 = true := by
          cases e : bsP (inS c r w k) c r (sid c r b m) 1 with
          | true => rfl
          | false => rw [e] at t2; simp only [Bool.false_eq_true, if_false] at t2; split at t2 <;> omega
        intro j hj
        have : j = 0 ∨ j = 1 := by omega
        rcases this with e | e
        · subst e
          obtain ⟨x, e, t⟩ := bsP_t k0
          rw [bsP_s e]; exact (inS_is t).1
        · subst e
          obtain ⟨x, e, t⟩ := bsP_t k1
          rw [bsP_s e]; exact (inS_is t).1
def FinOK (c r : Nat) (w : Int64) (m : Nat) (sz op di : Nat → Int32) (li : Nat → Int64) : Prop := ∀ j, j < m → sz j = nI (ssz c r w j) ∧ op j = nI (zn (sopn c r w j)) ∧ di j = nI (sdis c r w j) ∧ ∀ l, tb (li j) l = orb (fun b => inS c r w j b && osd c r w b l) (c * r)
/-- open lines at a string; with a box beside that is not thin -/
noncomputable def slin (c r : Nat) (w : Int64) (k : Nat) : Nat := fb_ct (fun l => !tb w l && orb (bsP (inS c r w k) c r l) 2) (al c r)
noncomputable def smix (c r : Nat) (w : Int64) (k : Nat) : Nat := fb_ct (fun l => !tb w l && orb (bsP (inS c r w k) c r l) 2 && orb (bsP (fun b => !thn c r w b) c r l) 2) (al c r)
def thk (c r : Nat) (w : Int64) : Nat := fb_ct (fun b => decide (2 < opn c r w b)) (c * r)
def thlF (c r : Nat) (w : Int64) : Nat → Int64
  | 0 => 0
  | n + 1 => if 2 < opn c r w n then thlF c r w n ||| iOA c r w n else thlF c r w n
def thl (c r : Nat) (w : Int64) : Int64 := thlF c r w (c * r)
theorem tb_thlF {c r : Nat} (hC : Cr c r) (w : Int64) (l : Nat) : ∀ n, n ≤ c * r → tb (thlF c r w n) l = orb (fun b => decide (2 < opn c r w b) && osd c r w b l) n
  | 0, _ => tb_0 l
  | n + 1, h => by
    have ih := tb_thlF hC w l n (by omega)
    rw [thlF, orb, ← ih]
    by_cases q : 2 < opn c r w n
    · rw [if_pos q, tb_or, tb_iOA hC h, decide_eq_true q, Bool.true_and]; rfl
    · rw [if_neg q, decide_eq_false q, Bool.false_and, Bool.or_false]
theorem orb_osd {c r l : Nat} {w : Int64} (hC : Cr c r) (X : Nat → Bool) : orb (fun b => X b && osd c r w b l) (c * r) = (decide (l < al c r) && (!tb w l && orb (bsP X c r l) 2)) := by
  by_cases hl : l < al c r
  · rw [orb_pos, ct_osd hC hl, decide_eq_true hl, Bool.true_and, orb_two]
    cases tb w l <;> cases bsP X c r l 0 <;> cases bsP X c r l 1 <;> simp
  · rw [decide_eq_false hl, Bool.false_and, Bool.eq_false_iff]
    intro z
    obtain ⟨b, hb, z⟩ := orb_iff.mp z
    rw [Bool.and_eq_true] at z
    exact hl (osd_al hC hb z.2).1
theorem slin_pop {c r k : Nat} {w li : Int64} (hC : Cr c r) (h : ∀ l, tb li l = orb (fun b => inS c r w k b && osd c r w b l) (c * r)) : pop li = slin c r w k := pop_of hC (fun l => by rw [h, orb_osd hC])
theorem smix_pop {c r k : Nat} {w li : Int64} (hC : Cr c r) (h : ∀ l, tb li l = orb (fun b => inS c r w k b && osd c r w b l) (c * r)) : pop (li &&& thl c r w) = smix c r w k := by
  refine pop_of hC (fun l => ?_)
  unfold thl
  rw [tb_and, h, tb_thlF hC w l _ (Nat.le_refl _), orb_osd hC, orb_osd hC]
  by_cases hl : l < al c r
  · rw [decide_eq_true hl, Bool.true_and, Bool.true_and, Bool.true_and]
    cases ht : tb w l with
    | true => rfl
    | false =>
      simp only [Bool.not_false, Bool.true_and]
      congr 1
      refine orb_cong (fun m hm => ?_)
      cases e : bes c r l m with
      | none => rw [bsP_n e, bsP_n e]
      | some b =>
        rw [bsP_s e, bsP_s e]
        have hb := bes_lt hC hl e
        have hi : isd c r b l = true := (isd_bes hC hb hl).mpr (by
          have : m = 0 ∨ m = 1 := by omega
          rcases this with q | q
          · subst q; exact Or.inl e
          · subst q; exact Or.inr e)
        have := opn_pos hC hb hi ht
        unfold thn
        rw [Bool.eq_iff_iff, decide_eq_true_eq, Bool.not_eq_true', Bool.eq_false_iff]
        rw [ne_eq, Bool.and_eq_true, decide_eq_true_eq, decide_eq_true_eq]
        omega
  · rw [decide_eq_false hl]; rfl
theorem ssz_le (c r : Nat) (w : Int64) (k : Nat) : ssz c r w k ≤ c * r := fb_ct_le _ _
theorem sdis_or (c r : Nat) (w : Int64) (k : Nat) : sdis c r w k = 8 ∧ slop c r w k = true ∨ slop c r w k = false ∧ (sdis c r w k = 4 ∧ 3 ≤ ssz c r w k ∨ sdis c r w k = 0 ∧ ssz c r w k < 3) := by
  unfold sdis
  cases slop c r w k with
  | true => exact Or.inl ⟨rfl, rfl⟩
  | false =>
    refine Or.inr ⟨rfl, ?_⟩
    by_cases q : 3 ≤ ssz c r w k
    · simp [q]
    · simp [q]; omega
noncomputable def cwd (c r : Nat) (w : Int64) (d : Nat) : Nat := fb_ct (fun k => decide (sdis c r w k = d)) (nst c r w)
noncomputable def cvF (c r : Nat) (w : Int64) (k : Nat) : Int := if sdis c r w k = 0 then 0 else (ssz c r w k : Int) - sdis c r w k
noncomputable def cval (c r : Nat) (w : Int64) : Int := fb_si (cvF c r w) (nst c r w)
noncomputable def aop (c r : Nat) (w : Int64) : Bool := orb (sopn c r w) (nst c r w)
theorem cvF_b {c r : Nat} (hC : Cr c r) (w : Int64) (k : Nat) : -16 ≤ cvF c r w k ∧ cvF c r w k ≤ 16 := by
  have := ssz_le c r w k
  have := hC.q
  unfold cvF
  rcases sdis_or c r w k with q | ⟨_, q | q⟩
  · rw [q.1, if_neg (by decide)]; omega
  · rw [q.1, if_neg (by decide)]; omega
  · rw [q.1, if_pos rfl]; omega
theorem cv_b {c r : Nat} (hC : Cr c r) (w : Int64) {n : Nat} (h : n ≤ nst c r w) : -256 ≤ fb_si (cvF c r w) n ∧ fb_si (cvF c r w) n ≤ 256 := by
  have h1 := fb_si_bound (f := cvF c r w) (c := 16) (by decide) (n := n) (fun k _ => cvF_b hC w k)
  have := nst_le c r w
  have := hC.q
  omega
/-! the prediction -/
def wv (n d : Nat) (v : Int) : Int := if d = 0 then (n : Int) - v else max ((n : Int) - v) ((n : Int) - d + v)
def pmn (n d : Nat → Nat) (T : Nat → Int) (s : Nat) : Nat → Option Int
  | 0 => none
  | k + 1 => if s.testBit k then some (match pmn n d T s k with
      | none => wv (n k) (d k) (T (clr s k))
      | some x => min x (wv (n k) (d k) (T (clr s k)))) else pmn n d T s k
def pT (n d : Nat → Nat) (m : Nat) : Nat → Nat → Int
  | 0 => fun _ => 0
  | q + 1 => fun s => if s = q then (pmn n d (pT n d m q) q m).getD 0 else pT n d m q s
def pv (n d : Nat → Nat) (m s : Nat) : Int := pT n d m (s + 1) s
theorem pT_st {n d : Nat → Nat} {m s : Nat} : ∀ {q : Nat}, s < q → pT n d m q s = pv n d m s
  | 0, h => absurd h (Nat.not_lt_zero _)
  | q + 1, h => by
    by_cases e : s = q
    · subst e; rfl
    · rw [pT]
      show (if s = q then _ else _) = _
      rw [if_neg e, pT_st (by omega)]
theorem pmn_cong {n d : Nat → Nat} {T U : Nat → Int} {s : Nat} (h : ∀ t, t < s → T t = U t) : ∀ k, pmn n d T s k = pmn n d U s k
  | 0 => rfl
  | k + 1 => by
    rw [pmn, pmn, pmn_cong h k]
    by_cases q : s.testBit k = true
    · rw [if_pos q, if_pos q, h _ (clr_less q)]
    · rw [if_neg q, if_neg q]
theorem pv_eq (n d : Nat → Nat) (m s : Nat) : pv n d m s = (pmn n d (pv n d m) s m).getD 0 := by
  unfold pv
  rw [pT]
  show (if s = s then _ else _) = _
  rw [if_pos rfl, pmn_cong (T := pT n d m s) (U := pv n d m) (fun t ht => pT_st ht)]
  rfl
theorem pmn_is {n d : Nat → Nat} {T : Nat → Int} {s : Nat} {x : Int} : ∀ {k : Nat}, pmn n d T s k = some x → ∃ i, i < k ∧ s.testBit i = true ∧ x = wv (n i) (d i) (T (clr s i))
  | 0, h => by cases h
  | k + 1, h => by
    rw [pmn] at h
    by_cases q : s.testBit k = true
    · rw [if_pos q] at h
      cases e : pmn n d T s k with
      | none => rw [e] at h; cases h; exact ⟨k, by omega, q, rfl⟩
      | some y =>
        rw [e] at h
        cases h
        obtain ⟨i, h1, h2, h3⟩ := pmn_is e
        rcases Int.min_def y (wv (n k) (d k) (T (clr s k))) ▸ (by split <;> simp : (if y ≤ wv (n k) (d k) (T (clr s k)) then y else wv (n k) (d k) (T (clr s k))) = y ∨ (if y ≤ wv (n k) (d k) (T (clr s k)) then y else wv (n k) (d k) (T (clr s k))) = wv (n k) (d k) (T (clr s k))) with z | z
        · exact ⟨i, by omega, h2, z.trans h3⟩
        · exact ⟨k, by omega, q, z⟩
    · rw [if_neg q] at h
      obtain ⟨i, h1, h2, h3⟩ := pmn_is h
      exact ⟨i, by omega, h2, h3⟩
theorem pmn_no {n d : Nat → Nat} {T : Nat → Int} {s : Nat} : ∀ {k : Nat}, pmn n d T s k = none → ∀ i, i < k → s.testBit i = false
  | 0, _, i, hi => absurd hi (Nat.not_lt_zero _)
  | k + 1, h, i, hi => by
    rw [pmn] at h
    by_cases q : s.testBit k = true
    · rw [if_pos q] at h; cases h
    · rw [if_neg q] at h
      by_cases e : i = k
      · subst e; simpa using q
      · exact pmn_no h i (by omega)
theorem wv_b {n d : Nat} {v B : Int} (hn : n ≤ 16) (hd : d ≤ 8) (h : -B ≤ v ∧ v ≤ B) : -(B + 24) ≤ wv n d v ∧ wv n d v ≤ B + 24 := by
  unfold wv
  split
  · omega
  · rw [Int.max_def]; split <;> omega
theorem ct_clr {s i m : Nat} (hi : i < m) (h : s.testBit i = true) : fb_ct (fun k => (clr s i).testBit k) m + 1 = fb_ct (fun k => s.testBit k) m := by
  have q := fb_ct_upd (fun k => s.testBit k) false hi
  simp only [h, Bool.false_eq_true, if_false, if_true, Nat.add_zero] at q
  rw [← q]
  congr 1
  refine fb_ct_cong (fun k _ => ?_)
  rw [clr_bit]
  by_cases e : k = i
  · subst e; simp
  · simp [e]
theorem pv_bd {n d : Nat → Nat} {m : Nat} (hn : ∀ k, k < m → n k ≤ 16 ∧ d k ≤ 8) : ∀ (f s : Nat), fb_ct (fun k => s.testBit k) m = f → -(24 * f : Int) ≤ pv n d m s ∧ pv n d m s ≤ 24 * f
  | f, s, h => by
    rw [pv_eq]
    cases e : pmn n d (pv n d m) s m with
    | none => simp only [Option.getD]; omega
    | some x =>
      obtain ⟨i, h1, h2, h3⟩ := pmn_is e
      have hc := ct_clr h1 h2
      have ih := pv_bd hn (f - 1) (clr s i) (by omega)
      have := wv_b (hn i h1).1 (hn i h1).2 ih
      show _ ≤ x ∧ x ≤ _
      rw [h3]
      omega
termination_by f => f
decreasing_by omega
theorem pv_b {n d : Nat → Nat} {m : Nat} (hm : m ≤ 10) (hn : ∀ k, k < m → n k ≤ 16 ∧ d k ≤ 8) (s : Nat) : -240 ≤ pv n d m s ∧ pv n d m s ≤ 240 := by
  have h := pv_bd hn _ s rfl
  have := fb_ct_le (fun k => s.testBit k) m
  omega
theorem pmn_b {n d : Nat → Nat} {m s k : Nat} {x : Int} (hm : m ≤ 10) (hn : ∀ k, k < m → n k ≤ 16 ∧ d k ≤ 8) (hk : k ≤ m) (h : pmn n d (pv n d m) s k = some x) : -264 ≤ x ∧ x ≤ 264 := by
  obtain ⟨i, h1, h2, h3⟩ := pmn_is h
  have := wv_b (hn i (by omega)).1 (hn i (by omega)).2 (pv_b hm hn (clr s i))
  omega
/-- the least of what is seen so far, 1000 before -/
def pm1 (n d : Nat → Nat) (m s k : Nat) : Int := (pmn n d (pv n d m) s k).getD 1000
theorem pm1_s {n d : Nat → Nat} {m s k : Nat} (hm : m ≤ 10) (hn : ∀ k, k < m → n k ≤ 16 ∧ d k ≤ 8) (hk : k < m) (h : s.testBit k = true) : pm1 n d m s (k + 1) = min (pm1 n d m s k) (wv (n k) (d k) (pv n d m (clr s k))) := by
  have hb := wv_b (hn k hk).1 (hn k hk).2 (pv_b hm hn (clr s k))
  unfold pm1
  rw [pmn, if_pos h]
  cases pmn n d (pv n d m) s k with
  | none =>
    show wv _ _ _ = min 1000 _
    rw [Int.min_eq_right (by omega)]
  | some x => rfl
theorem pm1_n {n d : Nat → Nat} {m s k : Nat} (h : s.testBit k = false) : pm1 n d m s (k + 1) = pm1 n d m s k := by
  unfold pm1
  rw [pmn, if_neg (by rw [h]; decide)]
theorem pm1_b {n d : Nat → Nat} {m s k : Nat} (hm : m ≤ 10) (hn : ∀ k, k < m → n k ≤ 16 ∧ d k ≤ 8) (hk : k ≤ m) : -264 ≤ pm1 n d m s k ∧ pm1 n d m s k ≤ 1000 := by
  unfold pm1
  cases e : pmn n d (pv n d m) s k with
  | none => show -264 ≤ (1000 : Int) ∧ (1000 : Int) ≤ 1000; omega
  | some x =>
    have := pmn_b hm hn hk e
    show -264 ≤ x ∧ x ≤ 1000
    omega
theorem pm1_e {n d : Nat → Nat} {m s : Nat} (h0 : s ≠ 0) (hs : s < 2 ^ m) : pm1 n d m s m = pv n d m s := by
  rw [pv_eq]
  unfold pm1
  cases e : pmn n d (pv n d m) s m with
  | some x => rfl
  | none =>
    have := pmn_no e
    exact absurd (Nat.eq_of_testBit_eq (fun j => by
      rw [Nat.zero_testBit]
      rcases Nat.lt_or_ge j m with q | q
      · exact this j q
      · exact Nat.testBit_lt_two_pow (Nat.lt_of_lt_of_le hs (Nat.pow_le_pow_right (by decide) q)))) h0
theorem pv_0 (n d : Nat → Nat) (m : Nat) : pv n d m 0 = 0 := by
  rw [pv_eq]
  cases e : pmn n d (pv n d m) 0 m with
  | none => rfl
  | some x =>
    obtain ⟨i, h1, h2, h3⟩ := pmn_is e
    rw [Nat.zero_testBit] at h2
    cases h2
noncomputable def spv (c r : Nat) (w : Int64) (s : Nat) : Int := pv (ssz c r w) (sdis c r w) (nst c r w) s
noncomputable def prd (c r : Nat) (w : Int64) : Int := spv c r w (2 ^ nst c r w - 1)
theorem sn_b {c r : Nat} (hC : Cr c r) (w : Int64) : ∀ k, k < nst c r w → ssz c r w k ≤ 16 ∧ sdis c r w k ≤ 8 := by
  intro k _
  have := ssz_le c r w k
  have := hC.q
  rcases sdis_or c r w k with q | ⟨_, q | q⟩ <;> omega
theorem iI_min {a b : Int} (h1 : -100000 ≤ a) (h2 : a ≤ 100000) (h3 : -100000 ≤ b) (h4 : b ≤ 100000) : mnI (iI a) (iI b) = iI (min a b) := by
  unfold mnI
  by_cases h : b < a
  · rw [if_pos ((iI_lt h3 h4 h1 h2).mpr h), Int.min_eq_right (by omega)]
  · rw [if_neg (fun q => h ((iI_lt h3 h4 h1 h2).mp q)), Int.min_eq_left (by omega)]
theorem iI_sub (a b : Int) : iI a - iI b = iI (a - b) := (Int32.ofInt_sub a b).symm
