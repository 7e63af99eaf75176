/-! least and greatest as the JDK has them -/
def mxI (x y : Int32) : Int32 := if x < y then y else x
def mnI (x y : Int32) : Int32 := if y < x then y else x
def mnL (x y : Int64) : Int64 := if y < x then y else x
theorem mxI_a {x y : Int32} (h : x < y) : y = mxI x y := by unfold mxI; rw [if_pos h]
theorem mxI_b {x y : Int32} (h : ¬ x < y) : x = mxI x y := by unfold mxI; rw [if_neg h]
theorem mnI_a {x y : Int32} (h : y < x) : y = mnI x y := by unfold mnI; rw [if_pos h]
theorem mnI_b {x y : Int32} (h : ¬ y < x) : x = mnI x y := by unfold mnI; rw [if_neg h]
theorem mnL_a {x y : Int64} (h : y < x) : y = mnL x y := by unfold mnL; rw [if_pos h]
theorem mnL_b {x y : Int64} (h : ¬ y < x) : x = mnL x y := by unfold mnL; rw [if_neg h]
theorem tb_lN {n : Nat} (h : n < 2 ^ 64) (k : Nat) : tb (lN n) k = n.testBit k := by
  unfold tb
  rw [← BitVec.testBit_toNat, wb_tn h]
/-! the JDK's count of bits, byte by byte -/
def sw1 (M n : Nat) : Nat := n - (n / 2 &&& M)
def sw2 (M n : Nat) : Nat := (n &&& M) + (n / 4 &&& M)
def sw3 (M n : Nat) : Nat := (n + n / 16) &&& M
def swM (b : Nat) : Nat → Nat
  | 0 => 0
  | k + 1 => 256 * swM b k + b
theorem sw_and (q r M b : Nat) (hr : r < 256) (hb : b < 256) : (256 * q + r) &&& (256 * M + b) = 256 * (q &&& M) + (r &&& b) := by
  apply Nat.eq_of_testBit_eq
  intro i
  have hrb : r &&& b < 256 := Nat.and_lt_two_pow (n := 8) r hb
  rw [Nat.testBit_and, show (256 : Nat) = 2 ^ 8 from rfl, Nat.testBit_two_pow_mul_add q hr, Nat.testBit_two_pow_mul_add M hb, Nat.testBit_two_pow_mul_add (q &&& M) hrb]
  by_cases h : i < 8
  · simp [h, Nat.testBit_and]
  · simp [h, Nat.testBit_and]
def pc8 (r : Nat) : Nat := fb_ct (fun k => r.testBit k) 8
def sb1 (r : Nat) : Nat := r - (r / 2 &&& 85)
def sb2 (r : Nat) : Nat := (r &&& 51) + (r / 4 &&& 51)
theorem sb1_a : ∀ r, r < 256 → ∀ q, q < 2 → (128 * q + r / 2) &&& 85 = r / 2 &&& 85 := by decide +kernel
theorem sb2_a : ∀ r, r < 256 → ∀ q, q < 4 → (64 * q + r / 4) &&& 51 = r / 4 &&& 51 := by decide +kernel
theorem sb1_lt : ∀ r, r < 256 → sb1 r < 256 ∧ r / 2 &&& 85 ≤ r := by decide +kernel
theorem sb2_lt : ∀ r, r < 256 → sb2 (sb1 r) < 256 ∧ sb2 (sb1 r) % 16 ≤ 4 ∧ sb2 (sb1 r) / 16 ≤ 4 ∧ (sb2 (sb1 r) + sb2 (sb1 r) / 16) % 16 = pc8 r := by decide +kernel
def by1 : Nat → Nat → Nat
  | 0, _ => 0
  | k + 1, n => 256 * by1 k (n / 256) + sb1 (n % 256)
def by2 : Nat → Nat → Nat
  | 0, _ => 0
  | k + 1, n => 256 * by2 k (n / 256) + sb2 (sb1 (n % 256))
def by3 : Nat → Nat → Nat
  | 0, _ => 0
  | k + 1, n => 256 * by3 k (n / 256) + pc8 (n % 256)
theorem sw1_by : ∀ (k n : Nat), n < 256 ^ k → sw1 (swM 85 k) n = by1 k n ∧ (n / 2 &&& swM 85 k) ≤ n
  | 0, n, h => by
    have : n = 0 := by simpa using h
    subst this
    exact ⟨rfl, by simp⟩
  | k + 1, n, h => by
    have hq : n / 256 < 256 ^ k := by rw [Nat.pow_succ] at h; omega
    obtain ⟨i1, i2⟩ := sw1_by k (n / 256) hq
    have hr : n % 256 < 256 := Nat.mod_lt _ (by decide)
    have e : n / 2 = 256 * (n / 256 / 2) + (128 * (n / 256 % 2) + n % 256 / 2) := by omega
    have ea : (n / 2 &&& swM 85 (k + 1)) = 256 * (n / 256 / 2 &&& swM 85 k) + (n % 256 / 2 &&& 85) := by
      rw [show swM 85 (k + 1) = 256 * swM 85 k + 85 from rfl, e, sw_and _ _ _ _ (by omega) (by decide), sb1_a _ hr _ (by omega)]
    obtain ⟨h1, h2⟩ := sb1_lt _ hr
    refine ⟨?_, by rw [ea]; omega⟩
    show n - (n / 2 &&& swM 85 (k + 1)) = 256 * by1 k (n / 256) + sb1 (n % 256)
    rw [ea, ← i1]
    unfold sw1 sb1
    omega
theorem by1_div (k n : Nat) : by1 (k + 1) n / 256 = by1 k (n / 256) ∧ by1 (k + 1) n % 256 = sb1 (n % 256) := by
  have := (sb1_lt (n % 256) (Nat.mod_lt _ (by decide))).1
  show (256 * by1 k (n / 256) + sb1 (n % 256)) / 256 = _ ∧ (256 * by1 k (n / 256) + sb1 (n % 256)) % 256 = _
  omega
theorem sw2_by : ∀ (k n : Nat), n < 256 ^ k → sw2 (swM 51 k) (by1 k n) = by2 k n
  | 0, n, h => rfl
  | k + 1, n, h => by
    have hq : n / 256 < 256 ^ k := by rw [Nat.pow_succ] at h; omega
    have i1 := sw2_by k (n / 256) hq
    obtain ⟨d1, d2⟩ := by1_div k n
    have hr : n % 256 < 256 := Nat.mod_lt _ (by decide)
    have hs := (sb1_lt _ hr).1
    have e0 : by1 (k + 1) n = 256 * by1 k (n / 256) + sb1 (n % 256) := rfl
    have e : by1 (k + 1) n / 4 = 256 * (by1 k (n / 256) / 4) + (64 * (by1 k (n / 256) % 4) + sb1 (n % 256) / 4) := by omega
    show (by1 (k + 1) n &&& (256 * swM 51 k + 51)) + (by1 (k + 1) n / 4 &&& (256 * swM 51 k + 51)) = 256 * by2 k (n / 256) + sb2 (sb1 (n % 256))
    rw [e, e0, sw_and _ _ _ _ hs (by decide), sw_and _ _ _ _ (by omega) (by decide), sb2_a _ hs _ (by omega), ← i1]
    unfold sw2 sb2
    omega
theorem by2_lo : ∀ (k n : Nat), by2 k n % 16 ≤ 4
  | 0, n => by decide
  | k + 1, n => by
    have := sb2_lt (n % 256) (Nat.mod_lt _ (by decide))
    show (256 * by2 k (n / 256) + sb2 (sb1 (n % 256))) % 16 ≤ 4
    omega
theorem sw3_by : ∀ (k n : Nat), n < 256 ^ k → sw3 (swM 15 k) (by2 k n) = by3 k n
  | 0, n, h => rfl
  | k + 1, n, h => by
    have hq : n / 256 < 256 ^ k := by rw [Nat.pow_succ] at h; omega
    have i1 := sw3_by k (n / 256) hq
    have hr : n % 256 < 256 := Nat.mod_lt _ (by decide)
    obtain ⟨s1, s2, s3, s4⟩ := sb2_lt _ hr
    have lo := by2_lo k (n / 256)
    have e0 : by2 (k + 1) n = 256 * by2 k (n / 256) + sb2 (sb1 (n % 256)) := rfl
    have e : by2 (k + 1) n + by2 (k + 1) n / 16 = 256 * (by2 k (n / 256) + by2 k (n / 256) / 16) + (sb2 (sb1 (n % 256)) + 16 * (by2 k (n / 256) % 16) + sb2 (sb1 (n % 256)) / 16) := by omega
    show (by2 (k + 1) n + by2 (k + 1) n / 16) &&& (256 * swM 15 k + 15) = 256 * by3 k (n / 256) + pc8 (n % 256)
    rw [e, sw_and _ _ _ _ (by omega) (by decide), ← i1, ← s4]
    have e2 : (sb2 (sb1 (n % 256)) + 16 * (by2 k (n / 256) % 16) + sb2 (sb1 (n % 256)) / 16) &&& 15 = (sb2 (sb1 (n % 256)) + sb2 (sb1 (n % 256)) / 16) % 16 := by
      rw [show (15 : Nat) = 2 ^ 4 - 1 from rfl, Nat.and_two_pow_sub_one_eq_mod]
      omega
    rw [e2]
    rfl
theorem by3_ct : ∀ (k n : Nat), fb_ct (fun j => n.testBit j) (8 * k) = match k with | 0 => 0 | k + 1 => fb_ct (fun j => (n / 256).testBit j) (8 * k) + pc8 (n % 256)
  | 0, n => rfl
  | k + 1, n => by
    rw [show 8 * (k + 1) = 8 + 8 * k by omega, fb_ct_split]
    have a : fb_ct (fun j => n.testBit j) 8 = pc8 (n % 256) := by
      unfold pc8
      apply fb_ct_cong
      intro j hj
      show n.testBit j = (n % 2 ^ 8).testBit j
      rw [Nat.testBit_mod_two_pow]
      simp [hj]
    have b : fb_ct (fun j => n.testBit (8 + j)) (8 * k) = fb_ct (fun j => (n / 256).testBit j) (8 * k) := by
      apply fb_ct_cong
      intro j hj
      show n.testBit (8 + j) = (n / 2 ^ 8).testBit j
      rw [Nat.testBit_div_two_pow]
      congr 1
    rw [a, b]
    show _ = fb_ct (fun j => (n / 256).testBit j) (8 * k) + pc8 (n % 256)
    omega
theorem pc8_le (r : Nat) : pc8 r ≤ 8 := fb_ct_le _ 8
