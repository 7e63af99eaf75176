/-! p33: what is told of a position -/
theorem kf_step {c r i : Nat} {w : Int64} {kf : Nat → Int32} (h : ∀ K, K ≤ 3 → kf K = nI (fb_ct (kp c r w K) i)) : ∀ K, K ≤ 3 → upd kf (knd c r w i) (nI (fb_ct (kp c r w (knd c r w i)) i + 1)) K = nI (fb_ct (kp c r w K) (i + 1)) := fun K hK => by
  rw [fb_ct_succ]
  by_cases e : K = knd c r w i
  · rw [← e, pk_us]
    unfold kp
    rw [decide_eq_true e.symm]; rfl
  · rw [pk_un e, h K hK]
    unfold kp
    rw [decide_eq_false (fun z => e z.symm)]; rfl
theorem oH_own {c r : Nat} {ms : Nat → Nat} (hC : Cr c r) : ∀ {n : Nat}, HiOK c r ms n → (∀ k, k ≤ n → qS c r ms k ≤ 1) → ∀ b, b < c * r → opn c r (wS ms n) b = 0 → oH c r ms n b = nI 0 ∨ oH c r ms n b = nI 1
  | 0, _, _, b, hb, h => by
    have e : opn c r (wS ms 0) b = 4 := by
      rw [opn_four]
      show (if !tb 0 _ then 1 else 0) + (if !tb 0 _ then 1 else 0) + (if !tb 0 _ then 1 else 0) + (if !tb 0 _ then 1 else 0) = 4
      rw [tb_0, tb_0, tb_0, tb_0]; rfl
    omega
  | n + 1, hk, hq, b, hb, h => by
    have h1 := hk n (by omega)
    show mkO c r (wS ms (n + 1)) (ms n) (oH c r ms n) (nI (qS c r ms n)) b = nI 0 ∨ mkO c r (wS ms (n + 1)) (ms n) (oH c r ms n) (nI (qS c r ms n)) b = nI 1
    have e : wS ms (n + 1) = wS ms n ||| b1 (ms n) := rfl
    rw [e] at h ⊢
    rw [mkO_iff hC h1.1 h1.2 hb]
    by_cases z : opn c r (wS ms n) b = 1 ∧ opn c r (wS ms n ||| b1 (ms n)) b = 0
    · rw [if_pos z]
      have := hq n (by omega)
      rcases (show qS c r ms n = 0 ∨ qS c r ms n = 1 by omega) with q | q
      · rw [q]; exact Or.inl rfl
      · rw [q]; exact Or.inr rfl
    · rw [if_neg z]
      have d := opn_draw hC hb h1.1 (wS ms n)
      refine oH_own hC (fun k hk2 => hk k (by omega)) (fun k hk2 => hq k (by omega)) b hb ?_
      have le : (if isd c r b (ms n) && !tb (wS ms n) (ms n) then 1 else 0) ≤ 1 := by split <;> omega
      omega
theorem own_cmpl {c r n pl : Nat} {ms : Nat → Nat} {w : Int64} {mv ow : Nat → Int32} (hC : Cr c r) (h : PsR c r ms n w pl mv ow) : cmpl c r w = sco (oH c r ms n) 0 (c * r) + sco (oH c r ms n) 1 (c * r) := by
  unfold cmpl sco
  rw [← fb_ct_or (p := fun b => decide (oH c r ms n b = nI 0)) (q := fun b => decide (oH c r ms n b = nI 1)) (fun k _ => by
    intro ⟨h1, h2⟩
    rw [decide_eq_true_eq] at h1 h2
    rw [h1] at h2
    exact absurd h2 (by decide))]
  refine fb_ct_cong (fun b hb => ?_)
  rw [Bool.eq_iff_iff, Bool.or_eq_true, decide_eq_true_eq, decide_eq_true_eq, decide_eq_true_eq]
  constructor
  · intro h0
    exact oH_own hC h.1 (fun k _ => qS_le _ _ _ k) b hb (by rw [← h.2.1]; exact h0)
  · intro h0
    refine Classical.byContradiction (fun z => ?_)
    have := oH_free hC h.1 b (by rw [← h.2.1]; exact z)
    rw [this] at h0
    rcases h0 with q | q
    · exact absurd q (by decide)
    · exact absurd q (by decide)
def m31 (x : Int32) : Nat := x.toBitVec.toNat % 2147483648
theorem m31_lt (x : Int32) : m31 x < 2 ^ 31 := Nat.mod_lt _ (by decide)
theorem and_m31 (x : Int32) : x &&& (2147483647 : Int32) = nI (m31 x) := by
  apply Int32.toBitVec_inj.1
  apply BitVec.eq_of_toNat_eq
  rw [Int32.toBitVec_and, BitVec.toNat_and]
  show x.toBitVec.toNat &&& 2147483647 = (BitVec.ofNat 32 (x.toBitVec.toNat % 2147483648)).toNat
  rw [BitVec.toNat_ofNat, show (2147483647 : Nat) = 2 ^ 31 - 1 from rfl, Nat.and_two_pow_sub_one_eq_mod, Nat.mod_eq_of_lt (a := x.toBitVec.toNat % 2147483648) (by have := Nat.mod_lt x.toBitVec.toNat (show 0 < 2147483648 by decide); omega)]
theorem bl_is {c r b : Nat} {w : Int64} (h : blM c r w = some b) : wor c r w b = out c r w := by
  have q := (fst1_is h).2.1
  rw [Bool.and_eq_true, decide_eq_true_eq] at q
  exact q.2
theorem bl_min {c r i : Nat} {w : Int64} (hi : i < al c r) (ht : tb w i = false) (h : wor c r w i = out c r w) : ∃ b, blM c r w = some b ∧ b ≤ i := by
  cases e : blM c r w with
  | none =>
    have z := fst1_no e i hi
    rw [ht, decide_eq_true h] at z
    cases z
  | some b =>
    refine ⟨b, rfl, Nat.le_of_not_lt (fun q => ?_)⟩
    have z := (fst1_is e).2.2 i q
    rw [ht, decide_eq_true h] at z
    cases z
def dmB (s : Int) : Bool := decide (FP.dmul FP.dconst1 (FP.i2d (iI s)) = FP.i2d (iI s)) && decide (FP.i2d (iI s) &&& 0x7fffffffffffffff ≤ 0x7ff0000000000000)
set_option maxRecDepth 100000 in
theorem dm_all : ∀ k : Nat, k < 641 → dmB ((k : Int) - 320) = true := by decide +kernel
theorem dm_at {s : Int} (hs : -320 ≤ s ∧ s ≤ 320) : FP.dmul FP.dconst1 (FP.i2d (iI s)) = FP.i2d (iI s) ∧ vf_n64 (FP.dmul FP.dconst1 (FP.i2d (iI s))) := by
  have h := dm_all (s + 320).toNat (by omega)
  rw [show (((s + 320).toNat : Nat) : Int) - 320 = s by omega] at h
  unfold dmB at h
  rw [Bool.and_eq_true, decide_eq_true_eq, decide_eq_true_eq] at h
  exact ⟨h.1, by rw [h.1]; exact h.2⟩
