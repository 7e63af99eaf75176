/-! the board in numbers; sets of lines as bits -/
def tb (w : Int64) (k : Nat) : Bool := w.toBitVec.getLsbD k
theorem tb_ext {x y : Int64} (h : ∀ k, k < 64 → tb x k = tb y k) : x = y := Int64.toBitVec_inj.mp (BitVec.eq_of_getLsbD_eq (fun i hi => h i hi))
theorem tb_or (x y : Int64) (k : Nat) : tb (x ||| y) k = (tb x k || tb y k) := by unfold tb; rw [Int64.toBitVec_or, BitVec.getLsbD_or]
theorem tb_and (x y : Int64) (k : Nat) : tb (x &&& y) k = (tb x k && tb y k) := by unfold tb; rw [Int64.toBitVec_and, BitVec.getLsbD_and]
theorem tb_xor (x y : Int64) (k : Nat) : tb (x ^^^ y) k = (tb x k ^^ tb y k) := by unfold tb; rw [Int64.toBitVec_xor, BitVec.getLsbD_xor]
theorem tb_big {x : Int64} {k : Nat} (h : 64 ≤ k) : tb x k = false := BitVec.getLsbD_of_ge _ _ h
theorem tb_m1 {k : Nat} (h : k < 64) : tb (-1) k = true := (by decide +kernel : ∀ k, k < 64 → tb (-1) k = true) k h
theorem tb_0 (k : Nat) : tb 0 k = false := by
  rcases Nat.lt_or_ge k 64 with h | h
  · exact (by decide +kernel : ∀ k, k < 64 → tb 0 k = false) k h
  · exact tb_big h
theorem tb_not {x : Int64} {k : Nat} (h : k < 64) : tb (x ^^^ (-1)) k = !tb x k := by rw [tb_xor, tb_m1 h, Bool.xor_true]
def b1 (k : Nat) : Int64 := Int64.ofBitVec (BitVec.twoPow 64 k)
theorem tb_b1 {k : Nat} (hk : k < 64) (j : Nat) : tb (b1 k) j = decide (j = k) := by
  show (BitVec.twoPow 64 k).getLsbD j = _
  rw [BitVec.getLsbD_twoPow]
  by_cases h : j = k
  · subst h; simp [hk]
  · have : ¬ k = j := fun e => h e.symm
    simp [h, this]
theorem b1_shl : ∀ k, k < 64 → (1 : Int64) <<< ((nI k).toInt64 &&& 63) = b1 k := by decide +kernel
def bitI (x : Int32) : Int64 := (1 : Int64) <<< (x.toInt64 &&& 63)
theorem bitI_nI {k : Nat} (h : k < 64) : bitI (nI k) = b1 k := b1_shl k h
theorem sshr_amt : ∀ k, k < 64 → (((nI k).toInt64 &&& 63).toBitVec.smod 64).toNat = k := by decide +kernel
theorem tb_sshr {w : Int64} {k : Nat} (hk : k < 64) : tb (w >>> ((nI k).toInt64 &&& 63)) 0 = tb w k := by
  unfold tb
  rw [Int64.toBitVec_shiftRight]
  show (w.toBitVec.sshiftRight (((nI k).toInt64 &&& 63).toBitVec.smod 64).toNat).getLsbD 0 = _
  rw [sshr_amt k hk, BitVec.getLsbD_sshiftRight]
  simp [hk]
theorem tb_one (k : Nat) : tb 1 k = decide (k = 0) := by
  rcases Nat.lt_or_ge k 64 with h | h
  · exact (by decide +kernel : ∀ k, k < 64 → tb 1 k = decide (k = 0)) k h
  · rw [tb_big h, decide_eq_false (by omega)]
theorem and1_iff {w : Int64} : (w &&& 1) = 1 ↔ tb w 0 = true := by
  constructor
  · intro h
    have t := congrArg (fun x => tb x 0) h
    simp only [tb_and, tb_one] at t
    simpa using t
  · intro h
    apply tb_ext
    intro k hk
    rw [tb_and, tb_one]
    by_cases q : k = 0
    · subst q; simp [h]
    · simp [q]
theorem has_iff {w : Int64} {k : Nat} (hk : k < 64) : ((w >>> ((nI k).toInt64 &&& 63)) &&& 1) = 1 ↔ tb w k = true := by rw [and1_iff, tb_sshr hk]
/-- a set is empty -/
theorem tb_zero {w : Int64} : w = 0 ↔ ∀ k, k < 64 → tb w k = false := by
  constructor
  · intro h k _
    rw [h, tb_0]
  · intro h
    apply tb_ext
    intro k hk
    rw [h k hk, tb_0]
theorem and_b1_ne {w : Int64} {k : Nat} (hk : k < 64) : ¬ (w &&& b1 k) = 0 ↔ tb w k = true := by
  rw [tb_zero]
  constructor
  · intro h
    cases q : tb w k with
    | true => rfl
    | false =>
      refine absurd (fun j hj => ?_) h
      rw [tb_and, tb_b1 hk]
      by_cases e : j = k
      · subst e; simp [q]
      · simp [e]
  · intro h q
    have := q k hk
    rw [tb_and, tb_b1 hk, h] at this
    simp at this
def pop (w : Int64) : Nat := fb_ct (tb w) 64
/-! truth of a range -/
def wi (x lo hi : Int32) : Bool := decide (lo ≤ x) && decide (x ≤ hi)
theorem wi_nI {x lo hi : Nat} (h1 : x < 2 ^ 31) (h2 : lo < 2 ^ 31) (h3 : hi < 2 ^ 31) : wi (nI x) (nI lo) (nI hi) = (decide (lo ≤ x) && decide (x ≤ hi)) := by
  unfold wi
  rw [decide_eq_decide.mpr (nI_leI h2 h1), decide_eq_decide.mpr (nI_leI h1 h3)]
theorem wi_of {x : Int32} {hi : Nat} (h3 : hi < 2 ^ 31) (h : wi x (nI 0) (nI hi) = true) : ∃ k, k ≤ hi ∧ x = nI k := by
  unfold wi at h
  rw [Bool.and_eq_true, decide_eq_true_eq, decide_eq_true_eq] at h
  have a : ¬ x < 0 := fun q => absurd (Int32.lt_of_lt_of_le q h.1) (by decide)
  obtain ⟨j, hj, rfl⟩ := nI_of a
  exact ⟨j, (nI_leI hj h3).mp h.2, rfl⟩
/-! the board -/
def Cr (c r : Nat) : Prop := 1 ≤ c ∧ c ≤ 4 ∧ 1 ≤ r ∧ r ≤ 4
def lvl (c r : Nat) : Nat := (r + 1) * c
def al (c r : Nat) : Nat := lvl c r + r * (c + 1)
theorem Cr_dec (P : Nat → Nat → Prop) [∀ c r, Decidable (P c r)] (h : ∀ c, c < 5 → ∀ r, r < 5 → 1 ≤ c → 1 ≤ r → P c r) {c r : Nat} (q : Cr c r) : P c r := h c (by have := q.2.1; omega) r (by have := q.2.2.2; omega) q.1 q.2.2.1
theorem Cr.q {c r : Nat} (h : Cr c r) : 1 ≤ c ∧ c ≤ 4 ∧ 1 ≤ r ∧ r ≤ 4 ∧ 1 ≤ c * r ∧ c * r ≤ 16 ∧ 2 ≤ lvl c r ∧ lvl c r ≤ 20 ∧ lvl c r < al c r ∧ al c r ≤ 40 ∧ 4 ≤ al c r :=
  Cr_dec (fun c r => 1 ≤ c ∧ c ≤ 4 ∧ 1 ≤ r ∧ r ≤ 4 ∧ 1 ≤ c * r ∧ c * r ≤ 16 ∧ 2 ≤ lvl c r ∧ lvl c r ≤ 20 ∧ lvl c r < al c r ∧ al c r ≤ 40 ∧ 4 ≤ al c r) (by decide +kernel) h
def colM (c r l : Nat) : Nat := if lvl c r ≤ l then (l - lvl c r) % (c + 1) else l % c
def rowM (c r l : Nat) : Nat := if lvl c r ≤ l then (l - lvl c r) / (c + 1) else l / c
/-- the box above or to the left of a line (0), below or to the right (1) -/
def bes (c r l k : Nat) : Option Nat :=
  if lvl c r ≤ l then
    if k = 0 then (if colM c r l = 0 then none else some (rowM c r l * c + (colM c r l - 1)))
    else (if colM c r l < c then some (rowM c r l * c + colM c r l) else none)
  else
    if k = 0 then (if rowM c r l = 0 then none else some ((rowM c r l - 1) * c + colM c r l))
    else (if rowM c r l < r then some (rowM c r l * c + colM c r l) else none)
def sid (c r b k : Nat) : Nat := if k < 2 then (b / c + k) * c + b % c else lvl c r + b / c * (c + 1) + (b % c + k - 2)
def oI (o : Option Nat) : Int32 := match o with
  | none => -1
  | some b => nI b
theorem oI_some {o : Option Nat} {x : Int32} (e : x = oI o) (h : ¬ x = -1) : ∃ b, o = some b ∧ x = nI b := by
  cases o with
  | none => exact absurd e h
  | some b => exact ⟨b, rfl, e⟩
theorem nI_nm1 {b : Nat} (h : b < 2 ^ 31) : ¬ nI b = -1 := by
  intro e
  have := congrArg Int32.toInt e
  rw [nI_toInt h] at this
  have h2 : (-1 : Int32).toInt = -1 := by decide
  omega
theorem oI_none {o : Option Nat} {x : Int32} (e : x = oI o) (h : x = -1) (hb : ∀ b, o = some b → b < 2 ^ 31) : o = none := by
  cases o with
  | none => rfl
  | some b => exact absurd (e.symm.trans h) (nI_nm1 (hb b rfl))
/-- how many sides of a box are open -/
def opn (c r : Nat) (w : Int64) (b : Nat) : Nat := fb_ct (fun k => !tb w (sid c r b k)) 4
def gai (c r : Nat) (w : Int64) (l : Nat) : Nat := fb_ct (fun k => match bes c r l k with | none => false | some b => decide (opn c r w b = 1)) 2
def lvo (c r : Nat) (w : Int64) (l : Nat) : Bool := (match bes c r l 0 with | none => false | some b => decide (opn c r w b = 2)) || (match bes c r l 1 with | none => false | some b => decide (opn c r w b = 2))
def knd (c r : Nat) (w : Int64) (l : Nat) : Nat := if tb w l then 0 else if 0 < gai c r w l then 1 else if lvo c r w l then 3 else 2
/-- the first place below n where p holds -/
def fst1 (p : Nat → Bool) (n : Nat) : Option Nat := if fa_first p n < n then some (fa_first p n) else none
def cmpl (c r : Nat) (w : Int64) : Nat := fb_ct (fun b => decide (opn c r w b = 0)) (c * r)
theorem zb_fit (b : Bool) : fits .boolean (.int (zb b)) = true := by cases b <;> rfl
theorem zb_vp (b : Bool) : vp_nar .boolean (zb b) = zb b := by cases b <;> rfl
/-! reading a row behind a test -/
def atI (n : Nat) (f : Nat → Int32) (x : Int32) : Int32 := if 0 ≤ x ∧ x < nI n then f x.toNatClampNeg else -1
def atL (n : Nat) (f : Nat → Int64) (x : Int32) : Int64 := if 0 ≤ x ∧ x < nI n then f x.toNatClampNeg else 0
def putI (n : Nat) (f : Nat → Int32) (x v : Int32) : Nat → Int32 := if 0 ≤ x ∧ x < nI n then upd f x.toNatClampNeg v else f
def putL (n : Nat) (f : Nat → Int64) (x : Int32) (v : Int64) : Nat → Int64 := if 0 ≤ x ∧ x < nI n then vp_updL f x.toNatClampNeg v else f
theorem atI_in {n : Nat} {f : Nat → Int32} {i : Nat} (h : i < n) (hn : n < 2 ^ 31) : atI n f (nI i) = f i := by
  unfold atI
  rw [if_pos ⟨nI_pos' (by omega), nI_lt h hn⟩, nI_clamp (by omega)]
theorem atL_in {n : Nat} {f : Nat → Int64} {i : Nat} (h : i < n) (hn : n < 2 ^ 31) : atL n f (nI i) = f i := by
  unfold atL
  rw [if_pos ⟨nI_pos' (by omega), nI_lt h hn⟩, nI_clamp (by omega)]
theorem putI_in {n : Nat} {f : Nat → Int32} {i : Nat} {v : Int32} (h : i < n) (hn : n < 2 ^ 31) : putI n f (nI i) v = upd f i v := by
  unfold putI
  rw [if_pos ⟨nI_pos' (by omega), nI_lt h hn⟩, nI_clamp (by omega)]
theorem putL_in {n : Nat} {f : Nat → Int64} {i : Nat} {v : Int64} (h : i < n) (hn : n < 2 ^ 31) : putL n f (nI i) v = vp_updL f i v := by
  unfold putL
  rw [if_pos ⟨nI_pos' (by omega), nI_lt h hn⟩, nI_clamp (by omega)]
theorem vp_in_c {x : Int32} {n : Nat} (hn : n < 2 ^ 31) (h1 : ¬ x < 0) (h2 : ¬ nI n ≤ x) : vp_in x n := by
  obtain ⟨j, hj, rfl⟩ := nI_of h1
  exact vp_in_nI (Nat.lt_of_not_le fun q => h2 (nI_le q hj)) hn
theorem atI_c {x : Int32} {n : Nat} {f : Nat → Int32} (h1 : ¬ x < 0) (h2 : ¬ nI n ≤ x) : f x.toNatClampNeg = atI n f x := by
  unfold atI
  rw [if_pos ⟨Int32.not_lt.mp h1, Int32.not_le.mp h2⟩]
theorem atL_c {x : Int32} {n : Nat} {f : Nat → Int64} (h1 : ¬ x < 0) (h2 : ¬ nI n ≤ x) : f x.toNatClampNeg = atL n f x := by
  unfold atL
  rw [if_pos ⟨Int32.not_lt.mp h1, Int32.not_le.mp h2⟩]
theorem atI_o {x : Int32} {n : Nat} {f : Nat → Int32} (h : x < 0 ∨ nI n ≤ x) : -1 = atI n f x := by
  unfold atI
  rw [if_neg (fun q => h.elim (fun z => Int32.not_lt.mpr q.1 z) (fun z => Int32.not_le.mpr q.2 z))]
theorem atL_o {x : Int32} {n : Nat} {f : Nat → Int64} (h : x < 0 ∨ nI n ≤ x) : 0 = atL n f x := by
  unfold atL
  rw [if_neg (fun q => h.elim (fun z => Int32.not_lt.mpr q.1 z) (fun z => Int32.not_le.mpr q.2 z))]
theorem putI_c {x v : Int32} {n : Nat} {f : Nat → Int32} (h1 : ¬ x < 0) (h2 : ¬ nI n ≤ x) : upd f x.toNatClampNeg v = putI n f x v := by
  unfold putI
  rw [if_pos ⟨Int32.not_lt.mp h1, Int32.not_le.mp h2⟩]
theorem putL_c {x : Int32} {v : Int64} {n : Nat} {f : Nat → Int64} (h1 : ¬ x < 0) (h2 : ¬ nI n ≤ x) : vp_updL f x.toNatClampNeg v = putL n f x v := by
  unfold putL
  rw [if_pos ⟨Int32.not_lt.mp h1, Int32.not_le.mp h2⟩]
theorem putI_o {x v : Int32} {n : Nat} {f : Nat → Int32} (h : x < 0 ∨ nI n ≤ x) : f = putI n f x v := by
  unfold putI
  rw [if_neg (fun q => h.elim (fun z => Int32.not_lt.mpr q.1 z) (fun z => Int32.not_le.mpr q.2 z))]
theorem putL_o {x : Int32} {v : Int64} {n : Nat} {f : Nat → Int64} (h : x < 0 ∨ nI n ≤ x) : f = putL n f x v := by
  unfold putL
  rw [if_neg (fun q => h.elim (fun z => Int32.not_lt.mpr q.1 z) (fun z => Int32.not_le.mpr q.2 z))]
