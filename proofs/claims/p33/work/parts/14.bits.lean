/-! least and greatest as the JDK has them -/
def mxI (x y : Int32) : Int32 := if x < y then y else x
def mnI (x y : Int32) : Int32 := if y < x then y else x
def mnL (x y : Int64) : Int64 := if y < x then y else x
theorem mxI_a {x y : Int32} (h : x < y) : y = mxI x y := by unfold mxI; rw [if_pos h]
theorem mxI_b {x y : Int32} (h : ¬ x < y) : x = mxI x y := by unfold mxI; rw [if_neg h]
theorem mnI_a {x y : Int32} (h : y < x) : y = mnI x y := by unfold mnI; rw [if_pos h]
theorem mnI_b {x y : Int32} (h : ¬ y < x) : x = mnI x y := by unfold mnI; rw [if_neg h]
theorem mnL_a {x y : Int64} (h : y < x) : y = mnL x y := by unfold mnL; rw [if_pos h]
theorem mnL_b {x y : Int64} (h : ¬ y < x) : x = mnL x y := by unfold mnL; rw [if_neg h]
theorem tb_lN {n : Nat} (h : n < 2 ^ 64) (k : Nat) : tb (lN n) k = n.testBit k := by
  unfold tb
  rw [← BitVec.testBit_toNat, wb_tn h]
/-! the JDK's count of bits, byte by byte -/
def sw1 (M n : Nat) : Nat := n - (n / 2 &&& M)
def sw2 (M n : Nat) : Nat := (n &&& M) + (n / 4 &&& M)
def sw3 (M n : Nat) : Nat := (n + n / 16) &&& M
def swM (b : Nat) : Nat → Nat
  | 0 => 0
  | k + 1 => 256 * swM b k + b
theorem sw_and (q r M b : Nat) (hr : r < 256) (hb : b < 256) : (256 * q + r) &&& (256 * M + b) = 256 * (q &&& M) + (r &&& b) := by
  apply Nat.eq_of_testBit_eq
  intro i
  have hrb : r &&& b < 256 := Nat.and_lt_two_pow (n := 8) r hb
  rw [Nat.testBit_and, show (256 : Nat) = 2 ^ 8 from rfl, Nat.testBit_two_pow_mul_add q hr, Nat.testBit_two_pow_mul_add M hb, Nat.testBit_two_pow_mul_add (q &&& M) hrb]
  by_cases h : i < 8
  · simp [h, Nat.testBit_and]
  · simp [h, Nat.testBit_and]
def pc8 (r : Nat) : Nat := fb_ct (fun k => r.testBit k) 8
def sb1 (r : Nat) : Nat := r - (r / 2 &&& 85)
def sb2 (r : Nat) : Nat := (r &&& 51) + (r / 4 &&& 51)
theorem sb1_a : ∀ r, r < 256 → ∀ q, q < 2 → (128 * q + r / 2) &&& 85 = r / 2 &&& 85 := by decide +kernel
theorem sb2_a : ∀ r, r < 256 → ∀ q, q < 4 → (64 * q + r / 4) &&& 51 = r / 4 &&& 51 := by decide +kernel
theorem sb1_lt : ∀ r, r < 256 → sb1 r < 256 ∧ r / 2 &&& 85 ≤ r := by decide +kernel
theorem sb2_lt : ∀ r, r < 256 → sb2 (sb1 r) < 256 ∧ sb2 (sb1 r) % 16 ≤ 4 ∧ sb2 (sb1 r) / 16 ≤ 4 ∧ (sb2 (sb1 r) + sb2 (sb1 r) / 16) % 16 = pc8 r := by decide +kernel
def by1 : Nat → Nat → Nat
  | 0, _ => 0
  | k + 1, n => 256 * by1 k (n / 256) + sb1 (n % 256)
def by2 : Nat → Nat → Nat
  | 0, _ => 0
  | k + 1, n => 256 * by2 k (n / 256) + sb2 (sb1 (n % 256))
def by3 : Nat → Nat → Nat
  | 0, _ => 0
  | k + 1, n => 256 * by3 k (n / 256) + pc8 (n % 256)
theorem sw1_by : ∀ (k n : Nat), n < 256 ^ k → sw1 (swM 85 k) n = by1 k n ∧ (n / 2 &&& swM 85 k) ≤ n
  | 0, n, h => by
    have : n = 0 := by simpa using h
    subst this
    exact ⟨rfl, by simp⟩
  | k + 1, n, h => by
    have hq : n / 256 < 256 ^ k := by rw [Nat.pow_succ] at h; omega
    obtain ⟨i1, i2⟩ := sw1_by k (n / 256) hq
    have hr : n % 256 < 256 := Nat.mod_lt _ (by decide)
    have e : n / 2 = 256 * (n / 256 / 2) + (128 * (n / 256 % 2) + n % 256 / 2) := by omega
    have ea : (n / 2 &&& swM 85 (k + 1)) = 256 * (n / 256 / 2 &&& swM 85 k) + (n % 256 / 2 &&& 85) := by
      rw [show swM 85 (k + 1) = 256 * swM 85 k + 85 from rfl, e, sw_and _ _ _ _ (by omega) (by decide), sb1_a _ hr _ (by omega)]
    obtain ⟨h1, h2⟩ := sb1_lt _ hr
    refine ⟨?_, by rw [ea]; omega⟩
    show n - (n / 2 &&& swM 85 (k + 1)) = 256 * by1 k (n / 256) + sb1 (n % 256)
    rw [ea, ← i1]
    unfold sw1 sb1
    omega
theorem by1_div (k n : Nat) : by1 (k + 1) n / 256 = by1 k (n / 256) ∧ by1 (k + 1) n % 256 = sb1 (n % 256) := by
  have := (sb1_lt (n % 256) (Nat.mod_lt _ (by decide))).1
  show (256 * by1 k (n / 256) + sb1 (n % 256)) / 256 = _ ∧ (256 * by1 k (n / 256) + sb1 (n % 256)) % 256 = _
  omega
theorem sw2_by : ∀ (k n : Nat), n < 256 ^ k → sw2 (swM 51 k) (by1 k n) = by2 k n
  | 0, n, h => by simp [sw2, swM, by1, by2]
  | k + 1, n, h => by
    have hq : n / 256 < 256 ^ k := by rw [Nat.pow_succ] at h; omega
    have i1 := sw2_by k (n / 256) hq
    obtain ⟨d1, d2⟩ := by1_div k n
    have hr : n % 256 < 256 := Nat.mod_lt _ (by decide)
    have hs := (sb1_lt _ hr).1
    have e0 : by1 (k + 1) n = 256 * by1 k (n / 256) + sb1 (n % 256) := rfl
    have e : by1 (k + 1) n / 4 = 256 * (by1 k (n / 256) / 4) + (64 * (by1 k (n / 256) % 4) + sb1 (n % 256) / 4) := by omega
    show (by1 (k + 1) n &&& (256 * swM 51 k + 51)) + (by1 (k + 1) n / 4 &&& (256 * swM 51 k + 51)) = 256 * by2 k (n / 256) + sb2 (sb1 (n % 256))
    rw [e, e0, sw_and _ _ _ _ hs (by decide), sw_and _ _ _ _ (by omega) (by decide), sb2_a _ hs _ (by omega), ← i1]
    unfold sw2 sb2
    omega
theorem by2_lo : ∀ (k n : Nat), by2 k n % 16 ≤ 4
  | 0, n => by simp [by2]
  | k + 1, n => by
    have := sb2_lt (n % 256) (Nat.mod_lt _ (by decide))
    show (256 * by2 k (n / 256) + sb2 (sb1 (n % 256))) % 16 ≤ 4
    omega
theorem sw3_by : ∀ (k n : Nat), n < 256 ^ k → sw3 (swM 15 k) (by2 k n) = by3 k n
  | 0, n, h => by simp [sw3, swM, by2, by3]
  | k + 1, n, h => by
    have hq : n / 256 < 256 ^ k := by rw [Nat.pow_succ] at h; omega
    have i1 := sw3_by k (n / 256) hq
    have hr : n % 256 < 256 := Nat.mod_lt _ (by decide)
    obtain ⟨s1, s2, s3, s4⟩ := sb2_lt _ hr
    have lo := by2_lo k (n / 256)
    have e0 : by2 (k + 1) n = 256 * by2 k (n / 256) + sb2 (sb1 (n % 256)) := rfl
    have e : by2 (k + 1) n + by2 (k + 1) n / 16 = 256 * (by2 k (n / 256) + by2 k (n / 256) / 16) + (sb2 (sb1 (n % 256)) + 16 * (by2 k (n / 256) % 16) + sb2 (sb1 (n % 256)) / 16) := by omega
    show (by2 (k + 1) n + by2 (k + 1) n / 16) &&& (256 * swM 15 k + 15) = 256 * by3 k (n / 256) + pc8 (n % 256)
    rw [e, sw_and _ _ _ _ (by omega) (by decide), ← i1, ← s4]
    have e2 : (sb2 (sb1 (n % 256)) + 16 * (by2 k (n / 256) % 16) + sb2 (sb1 (n % 256)) / 16) &&& 15 = (sb2 (sb1 (n % 256)) + sb2 (sb1 (n % 256)) / 16) % 16 := by
      rw [show (15 : Nat) = 2 ^ 4 - 1 from rfl, Nat.and_two_pow_sub_one_eq_mod]
      omega
    rw [e2]
    rfl
theorem by3_ct : ∀ (k n : Nat), fb_ct (fun j => n.testBit j) (8 * k) = match k with | 0 => 0 | k + 1 => fb_ct (fun j => (n / 256).testBit j) (8 * k) + pc8 (n % 256)
  | 0, n => rfl
  | k + 1, n => by
    rw [show 8 * (k + 1) = 8 + 8 * k by omega, fb_ct_split]
    have a : fb_ct (fun j => n.testBit j) 8 = pc8 (n % 256) := by
      unfold pc8
      apply fb_ct_cong
      intro j hj
      show n.testBit j = (n % 2 ^ 8).testBit j
      rw [Nat.testBit_mod_two_pow]
      simp [hj]
    have b : fb_ct (fun j => n.testBit (8 + j)) (8 * k) = fb_ct (fun j => (n / 256).testBit j) (8 * k) := by
      apply fb_ct_cong
      intro j hj
      show n.testBit (8 + j) = (n / 2 ^ 8).testBit j
      rw [Nat.testBit_div_two_pow]
      congr 1
      omega
    rw [a, b]
    show _ = fb_ct (fun j => (n / 256).testBit j) (8 * k) + pc8 (n % 256)
    omega
theorem by3_s (k n : Nat) : fb_ct (fun j => n.testBit j) (8 * (k + 1)) = fb_ct (fun j => (n / 256).testBit j) (8 * k) + pc8 (n % 256) := by3_ct (k + 1) n
theorem pc8_le (r : Nat) : pc8 r ≤ 8 := fb_ct_le _ 8
theorem by3_sum (n : Nat) : ∃ p0 p1 p2 p3 p4 p5 p6 p7 v1 v2 v3 v4 v5 v6 v7 : Nat, (p0 ≤ 8 ∧ p1 ≤ 8 ∧ p2 ≤ 8 ∧ p3 ≤ 8 ∧ p4 ≤ 8 ∧ p5 ≤ 8 ∧ p6 ≤ 8 ∧ p7 ≤ 8) ∧ by3 8 n = 256 * v1 + p0 ∧ v1 = 256 * v2 + p1 ∧ v2 = 256 * v3 + p2 ∧ v3 = 256 * v4 + p3 ∧ v4 = 256 * v5 + p4 ∧ v5 = 256 * v6 + p5 ∧ v6 = 256 * v7 + p6 ∧ v7 = p7 ∧ fb_ct (fun j => n.testBit j) 64 = p0 + p1 + p2 + p3 + p4 + p5 + p6 + p7 := by
  refine ⟨pc8 (n % 256), pc8 (n / 256 % 256), pc8 (n / 256 / 256 % 256), pc8 (n / 256 / 256 / 256 % 256), pc8 (n / 256 / 256 / 256 / 256 % 256), pc8 (n / 256 / 256 / 256 / 256 / 256 % 256), pc8 (n / 256 / 256 / 256 / 256 / 256 / 256 % 256), pc8 (n / 256 / 256 / 256 / 256 / 256 / 256 / 256 % 256), by3 7 (n / 256), by3 6 (n / 256 / 256), by3 5 (n / 256 / 256 / 256), by3 4 (n / 256 / 256 / 256 / 256), by3 3 (n / 256 / 256 / 256 / 256 / 256), by3 2 (n / 256 / 256 / 256 / 256 / 256 / 256), by3 1 (n / 256 / 256 / 256 / 256 / 256 / 256 / 256), ⟨pc8_le _, pc8_le _, pc8_le _, pc8_le _, pc8_le _, pc8_le _, pc8_le _, pc8_le _⟩, rfl, rfl, rfl, rfl, rfl, rfl, rfl, ?_, ?_⟩
  · show 256 * 0 + _ = _
    rw [Nat.mul_zero, Nat.zero_add]
  · rw [show 64 = 8 * (7 + 1) from rfl, by3_s 7 n, show 7 = 6 + 1 from rfl, by3_s 6, show 6 = 5 + 1 from rfl, by3_s 5, show 5 = 4 + 1 from rfl, by3_s 4, show 4 = 3 + 1 from rfl, by3_s 3, show 3 = 2 + 1 from rfl, by3_s 2, show 2 = 1 + 1 from rfl, by3_s 1, show 1 = 0 + 1 from rfl, by3_s 0, Nat.mul_zero, show fb_ct (fun j => (n / 256 / 256 / 256 / 256 / 256 / 256 / 256 / 256).testBit j) 0 = 0 from rfl]
    generalize pc8 (n % 256) = a0
    generalize pc8 (n / 256 % 256) = a1
    generalize pc8 (n / 256 / 256 % 256) = a2
    generalize pc8 (n / 256 / 256 / 256 % 256) = a3
    generalize pc8 (n / 256 / 256 / 256 / 256 % 256) = a4
    generalize pc8 (n / 256 / 256 / 256 / 256 / 256 % 256) = a5
    generalize pc8 (n / 256 / 256 / 256 / 256 / 256 / 256 % 256) = a6
    generalize pc8 (n / 256 / 256 / 256 / 256 / 256 / 256 / 256 % 256) = a7
    omega
theorem sw_end {b p0 p1 p2 p3 p4 p5 p6 p7 v1 v2 v3 v4 v5 v6 v7 : Nat} (hp : p0 ≤ 8 ∧ p1 ≤ 8 ∧ p2 ≤ 8 ∧ p3 ≤ 8 ∧ p4 ≤ 8 ∧ p5 ≤ 8 ∧ p6 ≤ 8 ∧ p7 ≤ 8) (h0 : b = 256 * v1 + p0) (h1 : v1 = 256 * v2 + p1) (h2 : v2 = 256 * v3 + p2) (h3 : v3 = 256 * v4 + p3) (h4 : v4 = 256 * v5 + p4) (h5 : v5 = 256 * v6 + p5) (h6 : v6 = 256 * v7 + p6) (h7 : v7 = p7) :
    b < 2 ^ 60 ∧ b + b / 2 ^ 8 < 2 ^ 61 ∧ (b + b / 2 ^ 8) + (b + b / 2 ^ 8) / 2 ^ 16 < 2 ^ 62 ∧ (((b + b / 2 ^ 8) + (b + b / 2 ^ 8) / 2 ^ 16) + ((b + b / 2 ^ 8) + (b + b / 2 ^ 8) / 2 ^ 16) / 2 ^ 32) % 2 ^ 7 = p0 + p1 + p2 + p3 + p4 + p5 + p6 + p7 := by
  obtain ⟨g0, g1, g2, g3, g4, g5, g6, g7⟩ := hp
  have b7 : v7 ≤ 8 := by omega
  have b6 : v6 ≤ 256 * 8 + 8 := by omega
  have b5 : v5 ≤ 256 * (256 * 8 + 8) + 8 := by omega
  have b4 : v4 ≤ 256 * (256 * (256 * 8 + 8) + 8) + 8 := by omega
  have b3 : v3 ≤ 256 * (256 * (256 * (256 * 8 + 8) + 8) + 8) + 8 := by omega
  have b2 : v2 ≤ 256 * (256 * (256 * (256 * (256 * 8 + 8) + 8) + 8) + 8) + 8 := by omega
  have b1 : v1 ≤ 256 * (256 * (256 * (256 * (256 * (256 * 8 + 8) + 8) + 8) + 8) + 8) + 8 := by omega
  have bb : b < 2 ^ 60 := by omega
  have d1 : b / 2 ^ 8 = v1 := by omega
  rw [d1]
  obtain ⟨t0, e0⟩ : ∃ t, t = b + v1 := ⟨_, rfl⟩
  obtain ⟨t1, e1⟩ : ∃ t, t = v1 + v2 := ⟨_, rfl⟩
  obtain ⟨t2, e2⟩ : ∃ t, t = v2 + v3 := ⟨_, rfl⟩
  obtain ⟨t3, e3⟩ : ∃ t, t = v3 + v4 := ⟨_, rfl⟩
  obtain ⟨t4, e4⟩ : ∃ t, t = v4 + v5 := ⟨_, rfl⟩
  obtain ⟨t5, e5⟩ : ∃ t, t = v5 + v6 := ⟨_, rfl⟩
  obtain ⟨t6, e6⟩ : ∃ t, t = v6 + v7 := ⟨_, rfl⟩
  have f0 : t0 = 256 * t1 + (p0 + p1) := by omega
  have f1 : t1 = 256 * t2 + (p1 + p2) := by omega
  have f2 : t2 = 256 * t3 + (p2 + p3) := by omega
  have f3 : t3 = 256 * t4 + (p3 + p4) := by omega
  have f4 : t4 = 256 * t5 + (p4 + p5) := by omega
  have f5 : t5 = 256 * t6 + (p5 + p6) := by omega
  have f6 : t6 = 256 * v7 + (p6 + p7) := by omega
  have tt : t0 < 2 ^ 61 := by omega
  rw [← e0]
  have d2 : t0 / 2 ^ 16 = t2 := by
    clear e0 e1 e2 e3 e4 e5 e6 h0 h1 h2 h3 h4 h5 h6 f2 f3 f4 f5 f6 d1
    omega
  have t2b : t2 ≤ t0 := by rw [← d2]; exact Nat.div_le_self _ _
  rw [d2]
  have ub : t0 + t2 < 2 ^ 62 := by omega
  have a0 : t0 + t2 = 256 * (t1 + t3) + (p0 + p1 + p2 + p3) := by
    clear e0 e1 e2 e3 e4 e5 e6 h0 h1 h2 h3 h4 h5 h6 d1 d2
    omega
  have a1 : t1 + t3 = 256 * (t2 + t4) + (p1 + p2 + p3 + p4) := by
    clear e0 e1 e2 e3 e4 e5 e6 h0 h1 h2 h3 h4 h5 h6 d1 d2
    omega
  have a2 : t2 + t4 = 256 * (t3 + t5) + (p2 + p3 + p4 + p5) := by
    clear e0 e1 e2 e3 e4 e5 e6 h0 h1 h2 h3 h4 h5 h6 d1 d2
    omega
  have a3 : t3 + t5 = 256 * (t4 + t6) + (p3 + p4 + p5 + p6) := by
    clear e0 e1 e2 e3 e4 e5 e6 h0 h1 h2 h3 h4 h5 h6 d1 d2
    omega
  have a4 : t4 + t6 = 256 * (t5 + v7) + (p4 + p5 + p6 + p7) := by
    clear e0 e1 e2 e3 e4 e5 e6 h0 h1 h2 h3 h4 h5 h6 d1 d2
    omega
  clear e0 e1 e2 e3 e4 e5 e6 h0 h1 h2 h3 h4 h5 h6 h7 d1 d2 f0 f1 f2 f3 f4 f5 f6 b1 b2 b3 b4 b5 b6 b7
  generalize t0 + t2 = u0 at *
  generalize t1 + t3 = u1 at *
  generalize t2 + t4 = u2 at *
  generalize t3 + t5 = u3 at *
  generalize t4 + t6 = u4 at *
  generalize t5 + v7 = u5 at *
  have d3 : u0 / 2 ^ 32 = u4 := by
    clear a4
    omega
  rw [d3]
  clear d3 a1 a2 a3
  omega
theorem pop_lN {n : Nat} (h : n < 2 ^ 64) : pop (lN n) = fb_ct (fun j => n.testBit j) 64 := fb_ct_cong (fun k _ => tb_lN h k)
theorem pop_swar {w a1 a2 a3 a4 a5 a6 : Int64}
    (e1 : a1 = w - ((w.toUInt64 >>> ((nI 1).toInt64.toUInt64 &&& Int64.toUInt64 63)).toInt64 &&& (6148914691236517205 : Int64)))
    (e2 : a2 = (a1 &&& (3689348814741910323 : Int64)) + ((a1.toUInt64 >>> ((nI 2).toInt64.toUInt64 &&& Int64.toUInt64 63)).toInt64 &&& (3689348814741910323 : Int64)))
    (e3 : a3 = (a2 + (a2.toUInt64 >>> ((nI 4).toInt64.toUInt64 &&& Int64.toUInt64 63)).toInt64) &&& (1085102592571150095 : Int64))
    (e4 : a4 = a3 + (a3.toUInt64 >>> ((nI 8).toInt64.toUInt64 &&& Int64.toUInt64 63)).toInt64)
    (e5 : a5 = a4 + (a4.toUInt64 >>> ((nI 16).toInt64.toUInt64 &&& Int64.toUInt64 63)).toInt64)
    (e6 : a6 = a5 + (a5.toUInt64 >>> ((nI 32).toInt64.toUInt64 &&& Int64.toUInt64 63)).toInt64) :
    a6.toInt32 &&& nI 127 = nI (pop w) := by
  obtain ⟨n, hn, rfl⟩ := wb_of w
  have k1 : (6148914691236517205 : Int64) = lN (swM 85 8) := by decide
  have k2 : (3689348814741910323 : Int64) = lN (swM 51 8) := by decide
  have k3 : (1085102592571150095 : Int64) = lN (swM 15 8) := by decide
  have b1 : swM 85 8 < 2 ^ 64 := by decide
  have b2 : swM 51 8 < 2 ^ 64 := by decide
  have b3 : swM 15 8 < 2 ^ 64 := by decide
  have hn' : n < 256 ^ 8 := by rw [show (256 : Nat) ^ 8 = 2 ^ 64 from rfl]; exact hn
  obtain ⟨s1, s1'⟩ := sw1_by 8 n hn'
  have s2 := sw2_by 8 n hn'
  have s3 := sw3_by 8 n hn'
  have l1 : by1 8 n < 2 ^ 64 := by rw [← s1]; unfold sw1; omega
  rw [wb_shr hn (by decide), k1, wb_and (by omega) b1, lN_sub (by simpa using s1'), show n - (n / 2 ^ 1 &&& swM 85 8) = by1 8 n from s1] at e1
  subst e1
  have l2a : (by1 8 n &&& swM 51 8) ≤ swM 51 8 := Nat.and_le_right
  have l2b : (by1 8 n / 2 ^ 2 &&& swM 51 8) ≤ swM 51 8 := Nat.and_le_right
  have v2 : swM 51 8 = 3689348814741910323 := by decide
  rw [wb_shr l1 (by decide), k2, wb_and l1 b2, wb_and (by omega) b2, lN_add, show (by1 8 n &&& swM 51 8) + (by1 8 n / 2 ^ 2 &&& swM 51 8) = by2 8 n from s2] at e2
  have l2 : by2 8 n < 2 ^ 63 := by
    have : by2 8 n = (by1 8 n &&& swM 51 8) + (by1 8 n / 2 ^ 2 &&& swM 51 8) := s2.symm
    omega
  subst e2
  rw [wb_shr (by omega) (by decide), k3, lN_add, wb_and (by omega) b3, show ((by2 8 n + by2 8 n / 2 ^ 4) &&& swM 15 8) = by3 8 n from s3] at e3
  subst e3
  obtain ⟨p0, p1, p2, p3, p4, p5, p6, p7, v1, v2, v3, v4, v5, v6, v7, hp, h0, h1, h2, h3, h4, h5, h6, h7, ec⟩ := by3_sum n
  rw [pop_lN hn, ec]
  obtain ⟨z1, z2, z3, z4⟩ := sw_end hp h0 h1 h2 h3 h4 h5 h6 h7
  rw [wb_shr (Nat.lt_trans z1 (by decide)) (by decide), lN_add] at e4
  subst e4
  rw [wb_shr (Nat.lt_trans z2 (by decide)) (by decide), lN_add] at e5
  subst e5
  rw [wb_shr (Nat.lt_trans z3 (by decide)) (by decide), lN_add] at e6
  subst e6
  rw [lN_i, show nI 127 = nI (2 ^ 7 - 1) from rfl, fa_mask, z4]
