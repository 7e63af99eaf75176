/-! p33: the law's own numbers, tied to the class's -/
theorem al_L {c r : Nat} : c * (r + 1) + (c + 1) * r = al c r := by unfold al lvl; rw [Nat.mul_comm c, Nat.mul_comm (c + 1)]
theorem lvl_L {c r : Nat} : c * (r + 1) = lvl c r := Nat.mul_comm _ _
theorem sidL0 {c r b : Nat} : c * (b / c) + b % c = sid c r b 0 := by unfold sid; rw [if_pos (by decide), Nat.add_zero, Nat.mul_comm]
theorem sidL1 {c r b : Nat} : c * (b / c + 1) + b % c = sid c r b 1 := by unfold sid; rw [if_pos (by decide), Nat.mul_comm]
theorem sidL2 {c r b : Nat} : c * (r + 1) + (c + 1) * (b / c) + b % c = sid c r b 2 := by unfold sid; rw [if_neg (by decide), lvl_L, Nat.mul_comm (c + 1)]; rfl
theorem sidL3 {c r b : Nat} : c * (r + 1) + (c + 1) * (b / c) + (b % c + 1) = sid c r b 3 := by unfold sid; rw [if_neg (by decide), lvl_L, Nat.mul_comm (c + 1)]; rfl
theorem ush_amt : ∀ k, k < 64 → ((nI k).toInt64.toUInt64 &&& Int64.toUInt64 63).toNat % 64 = k := by decide +kernel
theorem tb_ushr {w : Int64} {k : Nat} (hk : k < 64) : tb (w.toUInt64 >>> ((nI k).toInt64.toUInt64 &&& Int64.toUInt64 63)).toInt64 0 = tb w k := by
  unfold tb
  rw [← BitVec.testBit_toNat, ← BitVec.testBit_toNat]
  show (UInt64.toNat (w.toUInt64 >>> ((nI k).toInt64.toUInt64 &&& Int64.toUInt64 63))).testBit 0 = _
  rw [UInt64.toNat_shiftRight, ush_amt k hk, Nat.testBit_shiftRight, Nat.add_zero]
  rfl
theorem has_u {w : Int64} {k : Nat} (hk : k < 64) : ((w.toUInt64 >>> ((nI k).toInt64.toUInt64 &&& Int64.toUInt64 63)).toInt64 &&& 1) = 1 ↔ tb w k = true := by rw [and1_iff, tb_ushr hk]
theorem iush1 (x : Int32) : (x.toUInt32 >>> ((nI 1).toUInt32 &&& Int32.toUInt32 31)).toInt32 = nI (x.toBitVec.toNat / 2) := by
  apply Int32.toBitVec_inj.1
  apply BitVec.eq_of_toNat_eq
  show (x.toUInt32 >>> ((nI 1).toUInt32 &&& Int32.toUInt32 31)).toNat = (BitVec.ofNat 32 (x.toBitVec.toNat / 2)).toNat
  rw [UInt32.toNat_shiftRight, show ((nI 1).toUInt32 &&& Int32.toUInt32 31).toNat % 32 = 1 by decide, Nat.shiftRight_eq_div_pow, BitVec.toNat_ofNat, Nat.mod_eq_of_lt (by have := x.toBitVec.isLt; omega)]
  rfl
def atV (x : Int32) (n : Nat) : Nat := x.toBitVec.toNat / 2 % n
theorem atV_lt {x : Int32} {n : Nat} (h : 0 < n) : atV x n < n := Nat.mod_lt _ h
theorem u32_lt (x : Int32) : x.toBitVec.toNat / 2 < 2 ^ 31 := by have := x.toBitVec.isLt; omega
def besL (c r l k : Nat) : Option Nat :=
  if l < lvl c r then (if l / c + k = 0 ∨ r ≤ l / c + k - 1 then none else some (c * (l / c + k - 1) + l % c))
  else (if (l - lvl c r) % (c + 1) + k = 0 ∨ c ≤ (l - lvl c r) % (c + 1) + k - 1 then none else some (c * ((l - lvl c r) / (c + 1)) + ((l - lvl c r) % (c + 1) + k - 1)))
theorem bes_L {c r l k : Nat} (hC : Cr c r) (hl : l < al c r) (hk : k < 2) : bes c r l k = besL c r l k := by
  have z := brl2 (fun c r l => decide (bes c r l 0 = besL c r l 0) && decide (bes c r l 1 = besL c r l 1)) (by decide +kernel) hC hl
  simp only [Bool.and_eq_true, decide_eq_true_eq] at z
  rcases (show k = 0 ∨ k = 1 by omega) with rfl | rfl
  · exact z.1
  · exact z.2
theorem yB_0 {a k : Nat} (h : a + k = 0) : nI a - nI 1 + nI k = -1 := by
  have h1 : a = 0 := by omega
  have h2 : k = 0 := by omega
  subst h1 h2
  decide
theorem yB_s {a k : Nat} (h : 0 < a + k) : nI a - nI 1 + nI k = nI (a + k - 1) := by
  rw [← pk_sub (by omega : 1 ≤ a + k), ← nI_add, Int32.sub_eq_add_neg, Int32.sub_eq_add_neg, Int32.add_assoc, Int32.add_comm (-nI 1), Int32.add_assoc]
theorem oI_neg {o : Option Nat} {x : Int32} (e : x = oI o) (h : x < 0) (hb : ∀ b, o = some b → b < 2 ^ 31) : o = none := by
  cases o with
  | none => rfl
  | some b => rw [e] at h; exact absurd h (nI_pos (hb b rfl))
theorem oI_pos {o : Option Nat} {x : Int32} (e : x = oI o) (h : ¬ x < 0) : ∃ b, o = some b ∧ x = nI b := by
  cases o with
  | none => exact absurd (by rw [e]; decide) h
  | some b => exact ⟨b, rfl, e⟩
/-- the law's gain: none for a drawn line -/
def gaL (c r : Nat) (w : Int64) (l : Nat) : Nat := fb_ct (fun k => !tb w l && bq 1 c r w l k) 2
theorem gaL_f {c r l : Nat} {w : Int64} (h : tb w l = false) : gaL c r w l = gai c r w l := fb_ct_cong (fun k _ => by rw [h]; rfl)
theorem gaL_t {c r l : Nat} {w : Int64} (h : tb w l = true) : gaL c r w l = 0 := fb_ct_zero.mpr (fun k _ => by rw [h]; rfl)
theorem gaL_le (c r : Nat) (w : Int64) (l : Nat) : gaL c r w l ≤ 2 := fb_ct_le _ 2
def wth (c r : Nat) (w : Int64) (s : Nat) : Nat := fb_ct (fun b => decide (opn c r w b = s)) (c * r)
theorem wth_0 {c r : Nat} {w : Int64} : wth c r w 0 = cmpl c r w := rfl
theorem wth_le (c r : Nat) (w : Int64) (s : Nat) : wth c r w s ≤ c * r := fb_ct_le _ _
theorem fstk_lt2 {c r K l : Nat} {w : Int64} (h : fstk c r w K = some l) : l < al c r := (fst1_is h).1
theorem b1_lshl {k : Nat} (hk : k < 64) : (1 : Int64) <<< ((nI k).toInt64 &&& 63) = b1 k := b1_shl k hk
