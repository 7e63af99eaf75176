/-! the lowest member of a set -/
theorem sub1_nat {n k : Nat} (hk : n.testBit k = true) (hl : ∀ j, j < k → n.testBit j = false) (j : Nat) : (n - 1).testBit j = if j < k then true else if j = k then false else n.testBit j := by
  have e : n % 2 ^ (k + 1) = 2 ^ k := by
    apply Nat.eq_of_testBit_eq
    intro i
    rw [Nat.testBit_mod_two_pow, Nat.testBit_two_pow]
    rcases Nat.lt_trichotomy i k with h | h | h
    · rw [hl i h]
      have : ¬ k = i := by omega
      simp [this]
    · subst h
      simp [hk]
    · have a : ¬ i < k + 1 := by omega
      have b : ¬ k = i := by omega
      simp [a, b]
  have d := Nat.div_add_mod n (2 ^ (k + 1))
  rw [e] at d
  have p := Nat.two_pow_pos k
  have hn : n - 1 = 2 ^ (k + 1) * (n / 2 ^ (k + 1)) + (2 ^ k - 1) := by omega
  have lt : 2 ^ k - 1 < 2 ^ (k + 1) := by rw [Nat.pow_succ]; omega
  rw [hn, Nat.testBit_two_pow_mul_add _ lt, Nat.testBit_two_pow_sub_one]
  rcases Nat.lt_trichotomy j k with h | h | h
  · have : j < k + 1 := by omega
    simp [h, this]
  · subst h
    simp
  · have a : ¬ j < k := by omega
    have b : ¬ j = k := by omega
    have c : ¬ j < k + 1 := by omega
    simp only [a, b, c, if_false]
    rw [Nat.testBit_div_two_pow]
    congr 1
    omega
theorem low_of {w : Int64} (h : ¬ w = 0) : ∃ k, k < 64 ∧ tb w k = true ∧ (∀ j, j < k → tb w j = false) ∧ fst1 (tb w) 64 = some k := by
  cases e : fst1 (tb w) 64 with
  | none => exact absurd (tb_zero.mpr (fst1_no e)) h
  | some k => exact ⟨k, (fst1_is e).1, (fst1_is e).2.1, (fst1_is e).2.2, rfl⟩
theorem tb_sub1 {w : Int64} {k : Nat} (hk : tb w k = true) (hl : ∀ j, j < k → tb w j = false) {j : Nat} : tb (w - 1) j = if j < k then true else if j = k then false else tb w j := by
  obtain ⟨n, hn, rfl⟩ := wb_of w
  have h0 : 1 ≤ n := by
    rcases Nat.eq_zero_or_pos n with q | q
    · subst q
      rw [tb_lN (by decide)] at hk
      simp at hk
    · exact q
  rw [show (1 : Int64) = lN 1 from rfl, lN_sub h0, tb_lN (by omega), tb_lN hn]
  rw [tb_lN hn] at hk
  exact sub1_nat hk (fun j hj => by rw [← tb_lN hn]; exact hl j hj) j
theorem tb_neg {w : Int64} (h : ¬ w = 0) {j : Nat} (hj : j < 64) : tb (-w) j = !tb (w - 1) j := by
  obtain ⟨n, hn, rfl⟩ := wb_of w
  have h0 : 1 ≤ n := by
    rcases Nat.eq_zero_or_pos n with q | q
    · subst q; exact absurd rfl h
    · exact q
  have e : -(lN n) = lN (2 ^ 64 - n) := by
    apply wb_inj
    rw [Int64.toBitVec_neg]
    apply BitVec.eq_of_toNat_eq
    rw [BitVec.toNat_neg, wb_tn hn, wb_tn (by omega), Nat.mod_eq_of_lt (by omega)]
  rw [e, tb_lN (by omega), show (1 : Int64) = lN 1 from rfl, lN_sub h0, tb_lN (by omega), show 2 ^ 64 - n = 2 ^ 64 - ((n - 1) + 1) by omega, Nat.testBit_two_pow_sub_succ (by omega)]
  simp [hj]
theorem and_neg {w : Int64} {k : Nat} (hk6 : k < 64) (hk : tb w k = true) (hl : ∀ j, j < k → tb w j = false) : w &&& (-w) = b1 k := by
  have h : ¬ w = 0 := by
    intro q
    rw [q, tb_0] at hk
    cases hk
  apply tb_ext
  intro j hj
  rw [tb_and, tb_neg h hj, tb_sub1 hk hl, tb_b1 hk6]
  rcases Nat.lt_trichotomy j k with q | q | q
  · have a : ¬ j = k := by omega
    simp [q, a]
  · subst q
    simp [hk]
  · have a : ¬ j < k := by omega
    have b : ¬ j = k := by omega
    simp [a, b]
theorem tb_b1_sub {k : Nat} (hk : k < 64) (j : Nat) : tb (b1 k - 1) j = decide (j < k) := by
  rw [tb_sub1 (k := k) (by rw [tb_b1 hk]; simp) (fun i hi => by rw [tb_b1 hk]; simp; omega), tb_b1 hk]
  rcases Nat.lt_trichotomy j k with q | q | q
  · simp [q]
  · subst q; simp
  · have a : ¬ j < k := by omega
    have b : ¬ j = k := by omega
    simp [a, b]
theorem ct_lt : ∀ (n k : Nat), k ≤ n → fb_ct (fun j => decide (j < k)) n = k
  | 0, k, h => by
    have : k = 0 := by omega
    subst this
    rfl
  | n + 1, k, h => by
    rw [fb_ct_succ]
    by_cases q : k ≤ n
    · rw [ct_lt n k q, decide_eq_false (by omega)]
      rfl
    · have : k = n + 1 := by omega
      subst this
      rw [decide_eq_true (by omega), fb_ct_cong (q := fun j => decide (j < n)) (fun j hj => by rw [decide_eq_true (by omega), decide_eq_true hj]), ct_lt n n (Nat.le_refl _)]
      rfl
theorem low_pop {w : Int64} (h : ¬ w = 0) : nI (pop ((w &&& (-w)) - (1 : Int64))) = oI (fst1 (tb w) 64) := by
  obtain ⟨k, hk6, hk, hl, e⟩ := low_of h
  rw [e, and_neg hk6 hk hl]
  unfold pop
  rw [fb_ct_cong (fun j _ => tb_b1_sub hk6 j), ct_lt 64 k (by omega)]
  rfl
theorem low_zero {w : Int64} (h : w = 0) : (-1 : Int32) = oI (fst1 (tb w) 64) := by
  rw [fst1_none (fun j _ => by rw [h, tb_0])]
  rfl
/-- a set without its lowest members -/
def rst (w : Int64) : Nat → Int64
  | 0 => w
  | i + 1 => rst w i &&& (rst w i - (1 : Int64))
theorem tb_rst1 {w : Int64} (j : Nat) : tb (w &&& (w - (1 : Int64))) j = (tb w j && !decide (fst1 (tb w) 64 = some j)) := by
  by_cases h : w = 0
  · rw [h, tb_and, tb_0, Bool.false_and, Bool.false_and]
  · obtain ⟨k, hk6, hk, hl, e⟩ := low_of h
    rw [tb_and, tb_sub1 hk hl, e]
    rcases Nat.lt_trichotomy j k with q | q | q
    · rw [hl j q]; rfl
    · subst q; simp
    · have a : ¬ j < k := by omega
      have b : ¬ j = k := by omega
      have b2 : ¬ k = j := by omega
      simp [a, b, b2]
/-- the open lines -/
theorem tb_opl {c r : Nat} (hC : Cr c r) (w : Int64) (j : Nat) : tb (opl c r w) j = (decide (j < al c r) && !tb w j) := by
  unfold opl
  have h40 := hC.q
  rw [tb_and, tb_b1_sub (by omega)]
  rcases Nat.lt_or_ge j 64 with h | h
  · rw [tb_not h]
  · have : ¬ j < al c r := by omega
    simp [this]
def sdO (c r : Nat) (o : Option Nat) : Int64 := match o with
  | none => 0
  | some b => sdM c r b
theorem sdO_at {c r : Nat} {sd : Nat → Int64} {fb gb : Nat → Int32} {o : Option Nat} (hC : Cr c r) (hB : BdOK c r sd fb gb) (hob : ∀ b, o = some b → b < c * r) : atL 16 sd (oI o) = sdO c r o := by
  cases o with
  | none =>
    show atL 16 sd (-1) = 0
    exact (atL_o (Or.inl (by decide))).symm
  | some b =>
    have := hC.q
    have h := hob b rfl
    show atL 16 sd (nI b) = sdM c r b
    rw [atL_in (by omega) (by decide), hB.1 b h]
theorem exM_f0 {c r : Nat} {x y : Int32} (hC : Cr c r) (h : (x < 0 ∨ nI c ≤ x) ∨ (y < 0 ∨ nI (r + 1) ≤ y)) : exM c r false x y = false := by
  have := hC.q
  unfold exM
  simp only [Bool.false_eq_true, if_false]
  rcases h with h | h
  · rw [wi_ge (by omega) (by omega) h, Bool.false_and]
  · rw [show r = r + 1 - 1 from rfl, wi_ge (n := r + 1) (by omega) (by omega) h, Bool.and_false]
theorem exM_t0 {c r : Nat} {x y : Int32} (hC : Cr c r) (h : (x < 0 ∨ nI (c + 1) ≤ x) ∨ (y < 0 ∨ nI r ≤ y)) : exM c r true x y = false := by
  have := hC.q
  unfold exM
  simp only [if_true]
  rcases h with h | h
  · rw [show c = c + 1 - 1 from rfl, wi_ge (n := c + 1) (by omega) (by omega) h, Bool.false_and]
  · rw [wi_ge (by omega) (by omega) h, Bool.and_false]
theorem numI_no {c r : Nat} {v : Bool} {x y : Int32} (h : exM c r v x y = false) : -1 = numI c r v x y := by
  unfold numI
  rw [h]
  rfl
theorem exM_nat {c r : Nat} {v : Bool} {x y : Nat} (hC : Cr c r) (hx : x < 2 ^ 31) (hy : y < 2 ^ 31) : exM c r v (nI x) (nI y) = (decide (x < if v then c + 1 else c) && decide (y < if v then r else r + 1)) := by
  have := hC.q
  unfold exM
  rw [wi_n hx (by split <;> omega), wi_n hy (by split <;> omega)]
  cases v
  · simp only [Bool.false_eq_true, if_false]
    congr 1
    · exact decide_eq_decide.mpr (by omega)
    · exact decide_eq_decide.mpr (by omega)
  · simp only [if_true]
    congr 1
    · exact decide_eq_decide.mpr (by omega)
    · exact decide_eq_decide.mpr (by omega)
theorem numI_nat {c r : Nat} {v : Bool} {x y : Nat} (hC : Cr c r) (hx : x < if v then c + 1 else c) (hy : y < if v then r else r + 1) : numI c r v (nI x) (nI y) = nI (numM c r v x y) := by
  have h := hC.q
  have hx2 : x < 2 ^ 31 := by split at hx <;> omega
  have hy2 : y < 2 ^ 31 := by split at hy <;> omega
  unfold numI
  rw [exM_nat hC hx2 hy2, decide_eq_true hx, decide_eq_true hy, nI_clamp hx2, nI_clamp hy2]
  rfl
