/-! the board in numbers; sets of lines as bits -/
def tb (w : Int64) (k : Nat) : Bool := w.toBitVec.getLsbD k
theorem tb_ext {x y : Int64} (h : ∀ k, k < 64 → tb x k = tb y k) : x = y := Int64.toBitVec_inj.mp (BitVec.eq_of_getLsbD_eq (fun i hi => h i hi))
theorem tb_or (x y : Int64) (k : Nat) : tb (x ||| y) k = (tb x k || tb y k) := by unfold tb; rw [Int64.toBitVec_or, BitVec.getLsbD_or]
theorem tb_and (x y : Int64) (k : Nat) : tb (x &&& y) k = (tb x k && tb y k) := by unfold tb; rw [Int64.toBitVec_and, BitVec.getLsbD_and]
theorem tb_xor (x y : Int64) (k : Nat) : tb (x ^^^ y) k = (tb x k ^^ tb y k) := by unfold tb; rw [Int64.toBitVec_xor, BitVec.getLsbD_xor]
theorem tb_big {x : Int64} {k : Nat} (h : 64 ≤ k) : tb x k = false := BitVec.getLsbD_of_ge _ _ h
theorem tb_m1 {k : Nat} (h : k < 64) : tb (-1) k = true := (by decide +kernel : ∀ k, k < 64 → tb (-1) k = true) k h
theorem tb_0 (k : Nat) : tb 0 k = false := by
  rcases Nat.lt_or_ge k 64 with h | h
  · exact (by decide +kernel : ∀ k, k < 64 → tb 0 k = false) k h
  · exact tb_big h
theorem tb_not {x : Int64} {k : Nat} (h : k < 64) : tb (x ^^^ (-1)) k = !tb x k := by rw [tb_xor, tb_m1 h, Bool.xor_true]
def b1 (k : Nat) : Int64 := Int64.ofBitVec (BitVec.twoPow 64 k)
theorem tb_b1 {k : Nat} (hk : k < 64) (j : Nat) : tb (b1 k) j = decide (j = k) := by
  show (BitVec.twoPow 64 k).getLsbD j = _
  rw [BitVec.getLsbD_twoPow]
  by_cases h : j = k
  · subst h; simp [hk]
  · have : ¬ k = j := fun e => h e.symm
    simp [h, this]
theorem b1_shl : ∀ k, k < 64 → (1 : Int64) <<< ((nI k).toInt64 &&& 63) = b1 k := by decide +kernel
def bitI (x : Int32) : Int64 := (1 : Int64) <<< (x.toInt64 &&& 63)
theorem bitI_nI {k : Nat} (h : k < 64) : bitI (nI k) = b1 k := b1_shl k h
theorem sshr_amt : ∀ k, k < 64 → (((nI k).toInt64 &&& 63).toBitVec.smod 64).toNat = k := by decide +kernel
theorem tb_sshr {w : Int64} {k : Nat} (hk : k < 64) : tb (w >>> ((nI k).toInt64 &&& 63)) 0 = tb w k := by
  unfold tb
  rw [Int64.toBitVec_shiftRight]
  show (w.toBitVec.sshiftRight (((nI k).toInt64 &&& 63).toBitVec.smod 64).toNat).getLsbD 0 = _
  rw [sshr_amt k hk, BitVec.getLsbD_sshiftRight]
  simp [hk]
theorem tb_one (k : Nat) : tb 1 k = decide (k = 0) := by
  rcases Nat.lt_or_ge k 64 with h | h
  · exact (by decide +kernel : ∀ k, k < 64 → tb 1 k = decide (k = 0)) k h
  · rw [tb_big h, decide_eq_false (by omega)]
theorem and1_iff {w : Int64} : (w &&& 1) = 1 ↔ tb w 0 = true := by
  constructor
  · intro h
    have t := congrArg (fun x => tb x 0) h
    simp only [tb_and, tb_one] at t
    simpa using t
  · intro h
    apply tb_ext
    intro k hk
    rw [tb_and, tb_one]
    by_cases q : k = 0
    · subst q; simp [h]
    · simp [q]
theorem has_iff {w : Int64} {k : Nat} (hk : k < 64) : ((w >>> ((nI k).toInt64 &&& 63)) &&& 1) = 1 ↔ tb w k = true := by rw [and1_iff, tb_sshr hk]
/-- a set is empty -/
theorem tb_zero {w : Int64} : w = 0 ↔ ∀ k, k < 64 → tb w k = false := by
  constructor
  · intro h k _
    rw [h, tb_0]
  · intro h
    apply tb_ext
    intro k hk
    rw [h k hk, tb_0]
theorem and_b1_ne {w : Int64} {k : Nat} (hk : k < 64) : ¬ (w &&& b1 k) = 0 ↔ tb w k = true := by
  rw [tb_zero]
  constructor
  · intro h
    cases q : tb w k with
    | true => rfl
    | false =>
      refine absurd (fun j hj => ?_) h
      rw [tb_and, tb_b1 hk]
      by_cases e : j = k
      · subst e; simp [q]
      · simp [e]
  · intro h q
    have := q k hk
    rw [tb_and, tb_b1 hk, h] at this
    simp at this
def pop (w : Int64) : Nat := fb_ct (tb w) 64
/-! truth of a range -/
def wi (x lo hi : Int32) : Bool := decide (lo ≤ x) && decide (x ≤ hi)
theorem wi_nI {x lo hi : Nat} (h1 : x < 2 ^ 31) (h2 : lo < 2 ^ 31) (h3 : hi < 2 ^ 31) : wi (nI x) (nI lo) (nI hi) = (decide (lo ≤ x) && decide (x ≤ hi)) := by
  unfold wi
  rw [decide_eq_decide.mpr (nI_leI h2 h1), decide_eq_decide.mpr (nI_leI h1 h3)]
theorem wi_of {x : Int32} {hi : Nat} (h3 : hi < 2 ^ 31) (h : wi x (nI 0) (nI hi) = true) : ∃ k, k ≤ hi ∧ x = nI k := by
  unfold wi at h
  rw [Bool.and_eq_true, decide_eq_true_eq, decide_eq_true_eq] at h
  have a : ¬ x < 0 := fun q => absurd (Int32.lt_of_lt_of_le q h.1) Int32.lt_irrefl
  obtain ⟨j, hj, rfl⟩ := nI_of a
  exact ⟨j, (nI_leI hj h3).mp h.2, rfl⟩
/-! the board -/
def Cr (c r : Nat) : Prop := 1 ≤ c ∧ c ≤ 4 ∧ 1 ≤ r ∧ r ≤ 4
def lvl (c r : Nat) : Nat := (r + 1) * c
def al (c r : Nat) : Nat := lvl c r + r * (c + 1)
theorem Cr_dec (P : Nat → Nat → Bool) (h : (List.range 4).all (fun c => (List.range 4).all (fun r => P (c + 1) (r + 1))) = true) {c r : Nat} (q : Cr c r) : P c r = true := by
  obtain ⟨h1, h2, h3, h4⟩ := q
  have a := List.all_eq_true.mp h (c - 1) (List.mem_range.mpr (by omega))
  have b := List.all_eq_true.mp a (r - 1) (List.mem_range.mpr (by omega))
  rw [show c - 1 + 1 = c by omega, show r - 1 + 1 = r by omega] at b
  exact b
theorem Cr.q {c r : Nat} (h : Cr c r) : 1 ≤ c ∧ c ≤ 4 ∧ 1 ≤ r ∧ r ≤ 4 ∧ 1 ≤ c * r ∧ c * r ≤ 16 ∧ 2 ≤ lvl c r ∧ lvl c r ≤ 20 ∧ lvl c r < al c r ∧ al c r ≤ 40 ∧ 4 ≤ al c r := by
  have z := Cr_dec (fun c r => decide (1 ≤ c * r) && decide (c * r ≤ 16) && decide (2 ≤ lvl c r) && decide (lvl c r ≤ 20) && decide (lvl c r < al c r) && decide (al c r ≤ 40) && decide (4 ≤ al c r)) (by decide +kernel) h
  simp only [Bool.and_eq_true, decide_eq_true_eq] at z
  obtain ⟨h1, h2, h3, h4⟩ := h
  exact ⟨h1, h2, h3, h4, z.1.1.1.1.1.1, z.1.1.1.1.1.2, z.1.1.1.1.2, z.1.1.1.2, z.1.1.2, z.1.2, z.2⟩
def colM (c r l : Nat) : Nat := if lvl c r ≤ l then (l - lvl c r) % (c + 1) else l % c
def rowM (c r l : Nat) : Nat := if lvl c r ≤ l then (l - lvl c r) / (c + 1) else l / c
/-- the box above or to the left of a line (0), below or to the right (1) -/
def bes (c r l k : Nat) : Option Nat :=
  if lvl c r ≤ l then
    if k = 0 then (if colM c r l = 0 then none else some (rowM c r l * c + (colM c r l - 1)))
    else (if colM c r l < c then some (rowM c r l * c + colM c r l) else none)
  else
    if k = 0 then (if rowM c r l = 0 then none else some ((rowM c r l - 1) * c + colM c r l))
    else (if rowM c r l < r then some (rowM c r l * c + colM c r l) else none)
def sid (c r b k : Nat) : Nat := if k < 2 then (b / c + k) * c + b % c else lvl c r + b / c * (c + 1) + (b % c + k - 2)
def oI (o : Option Nat) : Int32 := match o with
  | none => -1
  | some b => nI b
theorem oI_some {o : Option Nat} {x : Int32} (e : x = oI o) (h : ¬ x = -1) : ∃ b, o = some b ∧ x = nI b := by
  cases o with
  | none => exact absurd e h
  | some b => exact ⟨b, rfl, e⟩
theorem nI_nm1 {b : Nat} (h : b < 2 ^ 31) : ¬ nI b = -1 := by
  intro e
  have := congrArg Int32.toInt e
  rw [nI_toInt h] at this
  have h2 : (-1 : Int32).toInt = -1 := by decide
  omega
theorem oI_none {o : Option Nat} {x : Int32} (e : x = oI o) (h : x = -1) (hb : ∀ b, o = some b → b < 2 ^ 31) : o = none := by
  cases o with
  | none => rfl
  | some b => exact absurd (e.symm.trans h) (nI_nm1 (hb b rfl))
/-- how many sides of a box are open -/
def opn (c r : Nat) (w : Int64) (b : Nat) : Nat := fb_ct (fun k => !tb w (sid c r b k)) 4
/-- the box at one side of a line has just v open sides -/
def bq (v c r : Nat) (w : Int64) (l k : Nat) : Bool := match bes c r l k with
  | none => false
  | some b => decide (opn c r w b = v)
def orb (p : Nat → Bool) : Nat → Bool
  | 0 => false
  | n + 1 => orb p n || p n
def andb (p : Nat → Bool) : Nat → Bool
  | 0 => true
  | n + 1 => andb p n && p n
def gai (c r : Nat) (w : Int64) (l : Nat) : Nat := fb_ct (bq 1 c r w l) 2
def lvo (c r : Nat) (w : Int64) (l : Nat) : Bool := orb (bq 2 c r w l) 2
def knd (c r : Nat) (w : Int64) (l : Nat) : Nat := if tb w l then 0 else if 0 < gai c r w l then 1 else if lvo c r w l then 3 else 2
def kp (c r : Nat) (w : Int64) (K l : Nat) : Bool := decide (knd c r w l = K)
/-- the first place below n where p holds -/
def fst1 (p : Nat → Bool) (n : Nat) : Option Nat := if fa_first p n < n then some (fa_first p n) else none
def fstk (c r : Nat) (w : Int64) (K : Nat) : Option Nat := fst1 (kp c r w K) (al c r)
def cmpl (c r : Nat) (w : Int64) : Nat := fb_ct (fun b => decide (opn c r w b = 0)) (c * r)
def numM (c r : Nat) (v : Bool) (x y : Nat) : Nat := if v then lvl c r + y * (c + 1) + x else y * c + x
def exM (c r : Nat) (v : Bool) (x y : Int32) : Bool := wi x (nI 0) (nI (if v then c else c - 1)) && wi y (nI 0) (nI (if v then r - 1 else r))
def siz (w : Int64) : Nat := fb_ct (tb w) 40
/-- the run of a position, the lowest taking line each time -/
def rnF (c r : Nat) : Nat → Int64 → Nat
  | 0, _ => 0
  | f + 1, w => match fstk c r w 1 with
    | none => 0
    | some l => gai c r w l + rnF c r f (w ||| b1 l)
def run (c r : Nat) (w : Int64) : Nat := rnF c r 41 w
def und (c r : Nat) (w : Int64) : Nat := fb_ct (fun l => !tb w l) (al c r)
def MF (c r : Nat) (fs : List Value) : Prop := fs[1]? = some (.int (nI c)) ∧ fs[2]? = some (.int (nI r))
theorem zb_fit (b : Bool) : fits .boolean (.int (zb b)) = true := by cases b <;> rfl
theorem zb_vp (b : Bool) : vp_nar .boolean (zb b) = zb b := by cases b <;> rfl
/-! reading a row behind a test -/
def atI (n : Nat) (f : Nat → Int32) (x : Int32) : Int32 := if 0 ≤ x ∧ x < nI n then f x.toNatClampNeg else -1
def atL (n : Nat) (f : Nat → Int64) (x : Int32) : Int64 := if 0 ≤ x ∧ x < nI n then f x.toNatClampNeg else 0
def putI (n : Nat) (f : Nat → Int32) (x v : Int32) : Nat → Int32 := if 0 ≤ x ∧ x < nI n then upd f x.toNatClampNeg v else f
def putL (n : Nat) (f : Nat → Int64) (x : Int32) (v : Int64) : Nat → Int64 := if 0 ≤ x ∧ x < nI n then vp_updL f x.toNatClampNeg v else f
theorem atI_in {n : Nat} {f : Nat → Int32} {i : Nat} (h : i < n) (hn : n < 2 ^ 31) : atI n f (nI i) = f i := by
  unfold atI
  rw [if_pos ⟨nI_pos' (by omega), nI_lt h hn⟩, nI_clamp (by omega)]
theorem atL_in {n : Nat} {f : Nat → Int64} {i : Nat} (h : i < n) (hn : n < 2 ^ 31) : atL n f (nI i) = f i := by
  unfold atL
  rw [if_pos ⟨nI_pos' (by omega), nI_lt h hn⟩, nI_clamp (by omega)]
theorem putI_in {n : Nat} {f : Nat → Int32} {i : Nat} {v : Int32} (h : i < n) (hn : n < 2 ^ 31) : putI n f (nI i) v = upd f i v := by
  unfold putI
  rw [if_pos ⟨nI_pos' (by omega), nI_lt h hn⟩, nI_clamp (by omega)]
theorem putL_in {n : Nat} {f : Nat → Int64} {i : Nat} {v : Int64} (h : i < n) (hn : n < 2 ^ 31) : putL n f (nI i) v = vp_updL f i v := by
  unfold putL
  rw [if_pos ⟨nI_pos' (by omega), nI_lt h hn⟩, nI_clamp (by omega)]
theorem vp_in_c {x : Int32} {n : Nat} (hn : n < 2 ^ 31) (h1 : ¬ x < 0) (h2 : ¬ nI n ≤ x) : vp_in x n := by
  obtain ⟨j, hj, rfl⟩ := nI_of h1
  exact vp_in_nI (Nat.lt_of_not_le fun q => h2 (nI_le q hj)) hn
theorem atI_c {x : Int32} {n : Nat} {f : Nat → Int32} (h1 : ¬ x < 0) (h2 : ¬ nI n ≤ x) : f x.toNatClampNeg = atI n f x := by
  unfold atI
  rw [if_pos ⟨Int32.not_lt.mp h1, Int32.not_le.mp h2⟩]
theorem atL_c {x : Int32} {n : Nat} {f : Nat → Int64} (h1 : ¬ x < 0) (h2 : ¬ nI n ≤ x) : f x.toNatClampNeg = atL n f x := by
  unfold atL
  rw [if_pos ⟨Int32.not_lt.mp h1, Int32.not_le.mp h2⟩]
theorem atI_o {x : Int32} {n : Nat} {f : Nat → Int32} (h : x < 0 ∨ nI n ≤ x) : -1 = atI n f x := by
  unfold atI
  rw [if_neg (fun q => h.elim (fun z => Int32.not_lt.mpr q.1 z) (fun z => Int32.not_le.mpr q.2 z))]
theorem atL_o {x : Int32} {n : Nat} {f : Nat → Int64} (h : x < 0 ∨ nI n ≤ x) : 0 = atL n f x := by
  unfold atL
  rw [if_neg (fun q => h.elim (fun z => Int32.not_lt.mpr q.1 z) (fun z => Int32.not_le.mpr q.2 z))]
theorem putI_c {x v : Int32} {n : Nat} {f : Nat → Int32} (h1 : ¬ x < 0) (h2 : ¬ nI n ≤ x) : upd f x.toNatClampNeg v = putI n f x v := by
  unfold putI
  rw [if_pos ⟨Int32.not_lt.mp h1, Int32.not_le.mp h2⟩]
theorem putL_c {x : Int32} {v : Int64} {n : Nat} {f : Nat → Int64} (h1 : ¬ x < 0) (h2 : ¬ nI n ≤ x) : vp_updL f x.toNatClampNeg v = putL n f x v := by
  unfold putL
  rw [if_pos ⟨Int32.not_lt.mp h1, Int32.not_le.mp h2⟩]
theorem putI_o {x v : Int32} {n : Nat} {f : Nat → Int32} (h : x < 0 ∨ nI n ≤ x) : f = putI n f x v := by
  unfold putI
  rw [if_neg (fun q => h.elim (fun z => Int32.not_lt.mpr q.1 z) (fun z => Int32.not_le.mpr q.2 z))]
theorem putL_o {x : Int32} {v : Int64} {n : Nat} {f : Nat → Int64} (h : x < 0 ∨ nI n ≤ x) : f = putL n f x v := by
  unfold putL
  rw [if_neg (fun q => h.elim (fun z => Int32.not_lt.mpr q.1 z) (fun z => Int32.not_le.mpr q.2 z))]
theorem wi_t {v lo hi : Int32} (h1 : ¬ v < lo) (h2 : ¬ hi < v) : wi v lo hi = true := by
  unfold wi
  rw [decide_eq_true (Int32.not_lt.mp h1), decide_eq_true (Int32.not_lt.mp h2)]
  rfl
theorem wi_a {v lo hi : Int32} (h1 : v < lo) : wi v lo hi = false := by
  unfold wi
  rw [decide_eq_false (fun q => Int32.not_le.mpr h1 q), Bool.false_and]
theorem wi_b {v lo hi : Int32} (h2 : hi < v) : wi v lo hi = false := by
  unfold wi
  rw [decide_eq_false (p := v ≤ hi) (fun q => Int32.not_le.mpr h2 q), Bool.and_false]
theorem wi_neg {hi : Int32} : wi (-1) (nI 0) hi = false := wi_a (by decide)
theorem wi_n {x hi : Nat} (h1 : x < 2 ^ 31) (h3 : hi < 2 ^ 31) : wi (nI x) (nI 0) (nI hi) = decide (x ≤ hi) := by
  rw [wi_nI h1 (by decide) h3]
  simp
theorem bes_lt {c r l k b : Nat} (hC : Cr c r) (hl : l < al c r) (h : bes c r l k = some b) : b < c * r := by
  have z := Cr_dec (fun c r => (List.range 40).all (fun l => !decide (l < al c r) || ((bes c r l 0).all (fun b => decide (b < c * r)) && (bes c r l 1).all (fun b => decide (b < c * r))))) (by decide +kernel) hC
  have z2 := List.all_eq_true.mp z l (List.mem_range.mpr (by have := hC.q; omega))
  rw [decide_eq_true hl] at z2
  simp only [Bool.not_true, Bool.false_or, Bool.and_eq_true] at z2
  rcases Nat.eq_zero_or_pos k with q | q
  · subst q
    rw [h] at z2
    simpa using z2.1
  · have e : bes c r l k = bes c r l 1 := by
      unfold bes
      have : k ≠ 0 := by omega
      simp [this]
    rw [← e, h] at z2
    simpa using z2.2
theorem sid_lt {c r b k : Nat} (hC : Cr c r) (hb : b < c * r) (hk : k < 4) : sid c r b k < al c r := by
  have z := Cr_dec (fun c r => (List.range 16).all (fun b => !decide (b < c * r) || (List.range 4).all (fun k => decide (sid c r b k < al c r)))) (by decide +kernel) hC
  have z2 := List.all_eq_true.mp z b (List.mem_range.mpr (by have := hC.q; omega))
  rw [decide_eq_true hb] at z2
  simp only [Bool.not_true, Bool.false_or] at z2
  simpa using List.all_eq_true.mp z2 k (List.mem_range.mpr hk)
theorem knd_le (c r : Nat) (w : Int64) (l : Nat) : knd c r w l ≤ 3 := by
  unfold knd
  split
  · omega
  · split
    · omega
    · split <;> omega
theorem opn_le (c r : Nat) (w : Int64) (b : Nat) : opn c r w b ≤ 4 := fb_ct_le _ 4
theorem gai_le (c r : Nat) (w : Int64) (l : Nat) : gai c r w l ≤ 2 := fb_ct_le _ 2
theorem bq_none {v c r : Nat} {w : Int64} {l k : Nat} (h : bes c r l k = none) : bq v c r w l k = false := by unfold bq; rw [h]
theorem bq_some {v c r : Nat} {w : Int64} {l k b : Nat} (h : bes c r l k = some b) : bq v c r w l k = decide (opn c r w b = v) := by unfold bq; rw [h]
theorem fst1_some {p : Nat → Bool} {n i : Nat} (h : ∀ j, j < i → p j = false) (hi : p i = true) (hn : i < n) : fst1 p n = some i := by
  unfold fst1
  have e : fa_first p n = i := by
    rcases Nat.lt_trichotomy (fa_first p n) i with q | q | q
    · have := fa_first_yes p n (by omega)
      rw [h _ q] at this
      cases this
    · exact q
    · have := fa_first_no p n i q
      rw [hi] at this
      cases this
  rw [e, if_pos hn]
theorem fst1_none {p : Nat → Bool} {n : Nat} (h : ∀ j, j < n → p j = false) : fst1 p n = none := by
  unfold fst1
  rw [if_neg]
  intro q
  have := fa_first_yes p n q
  rw [h _ q] at this
  cases this
theorem fst1_is {p : Nat → Bool} {n i : Nat} (h : fst1 p n = some i) : i < n ∧ p i = true ∧ ∀ j, j < i → p j = false := by
  unfold fst1 at h
  split at h
  · cases h
    rename_i q
    exact ⟨q, fa_first_yes p n q, fun j hj => fa_first_no p n j hj⟩
  · cases h
theorem fst1_no {p : Nat → Bool} {n : Nat} (h : fst1 p n = none) : ∀ j, j < n → p j = false := by
  intro j hj
  unfold fst1 at h
  split at h
  · cases h
  · rename_i q
    have := fa_first_le p n
    exact fa_first_no p n j (by omega)
theorem lt_al {c r l : Nat} (hC : Cr c r) (h : l < al c r) : l < 64 := by have := hC.q; omega
theorem knd_1 {c r : Nat} {w : Int64} {l : Nat} (h : knd c r w l ≠ 0) : tb w l = false := by
  cases q : tb w l with
  | false => rfl
  | true => exact absurd (by unfold knd; rw [q]; rfl) h
theorem und_step {c r : Nat} {w : Int64} {l : Nat} (hC : Cr c r) (hl : l < al c r) (h : tb w l = false) : und c r (w ||| b1 l) + 1 = und c r w := by
  unfold und
  have a := fb_ct_upd (fun l => !tb w l) false hl
  rw [show (fun k => !tb (w ||| b1 l) k) = (fun k => if k = l then false else !tb w k) from ?_]
  · simp only [h, Bool.not_false, if_true] at a
    simpa using a
  · funext k
    rw [tb_or, tb_b1 (lt_al hC hl)]
    by_cases e : k = l
    · simp [e]
    · simp [e]
theorem und_le (c r : Nat) (w : Int64) : und c r w ≤ al c r := fb_ct_le _ _
theorem rn_none {c r f : Nat} {w : Int64} (h : fstk c r w 1 = none) : rnF c r f w = 0 := by
  cases f with
  | zero => rfl
  | succ f => unfold rnF; rw [h]
theorem rn_some {c r f l : Nat} {w : Int64} (hf : 0 < f) (h : fstk c r w 1 = some l) : rnF c r f w = gai c r w l + rnF c r (f - 1) (w ||| b1 l) := by
  cases f with
  | zero => omega
  | succ f => 
    show rnF c r (f + 1) w = _
    rw [rnF, h]
    rfl
theorem col_row {c r l : Nat} (hC : Cr c r) (hl : l < al c r) : (lvl c r ≤ l → colM c r l < c + 1 ∧ rowM c r l < r) ∧ (¬ lvl c r ≤ l → colM c r l < c ∧ rowM c r l < r + 1) := by
  have z := Cr_dec (fun c r => (List.range 40).all (fun l => !decide (l < al c r) || (if lvl c r ≤ l then decide (colM c r l < c + 1) && decide (rowM c r l < r) else decide (colM c r l < c) && decide (rowM c r l < r + 1)))) (by decide +kernel) hC
  have z2 := List.all_eq_true.mp z l (List.mem_range.mpr (by have := hC.q; omega))
  rw [decide_eq_true hl] at z2
  simp only [Bool.not_true, Bool.false_or] at z2
  constructor
  · intro h
    rw [if_pos h] at z2
    simpa using z2
  · intro h
    rw [if_neg h] at z2
    simpa using z2
theorem kp_t {c r : Nat} {w : Int64} {K l : Nat} (h : kp c r w K l = true) : knd c r w l = K := of_decide_eq_true h
theorem kp_f {c r : Nat} {w : Int64} {K l : Nat} (h : kp c r w K l = false) : knd c r w l ≠ K := of_decide_eq_false h
