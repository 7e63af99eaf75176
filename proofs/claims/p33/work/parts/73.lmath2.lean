/-! p33: turning, styles, playing on -/
theorem tbit0 : ∀ s, s < 8 → ((nI s &&& nI 1) = nI 1 ↔ s.testBit 0 = true) := by decide +kernel
theorem tbit1 : ∀ s, s < 8 → ((nI s &&& nI 2) = nI 2 ↔ s.testBit 1 = true) := by decide +kernel
theorem tbit2 : ∀ s, s < 8 → ((nI s &&& nI 4) = nI 4 ↔ s.testBit 2 = true) := by decide +kernel
theorem bfn {b : Bool} (h : ¬ b = true) : b = false := by cases b; rfl; exact absurd rfl h
theorem nmF {c r x y : Nat} : c * y + x = numM c r false x y := by unfold numM; rw [if_neg (by decide), Nat.mul_comm]
theorem nmT {c r x y : Nat} : c * (r + 1) + (c + 1) * y + x = numM c r true x y := by unfold numM; rw [if_pos rfl, lvl_L, Nat.mul_comm (c + 1)]
theorem inc_m1 {x : Int32} : x + Int32.ofInt (-1) = x - nI 1 := by rw [Int32.sub_eq_add_neg]; rfl
theorem n_dec {k : Nat} (h : 1 ≤ k) : nI k + Int32.ofInt (-1) = nI (k - 1) := by rw [inc_m1, pk_sub h]
theorem chB_spec {c r : Nat} {w : Int64} {b : Nat} : ∀ {n : Nat}, chB c r w n = some b → b < n ∧ tb w b = false ∧ ∀ l, l < n → tb w l = false → run c r (w ||| b1 b) ≤ run c r (w ||| b1 l) ∧ (l < b → run c r (w ||| b1 b) < run c r (w ||| b1 l))
  | 0, h => by rw [chB] at h; cases h
  | n + 1, h => by
    rw [chB] at h
    by_cases hn : tb w n = true
    · rw [if_pos hn] at h
      obtain ⟨h1, h2, h3⟩ := chB_spec h
      refine ⟨by omega, h2, fun l hl ht => ?_⟩
      by_cases e : l = n
      · subst e; rw [hn] at ht; cases ht
      · exact h3 l (by omega) ht
    · rw [if_neg hn] at h
      cases e : chB c r w n with
      | none =>
        rw [e] at h
        have hb : n = b := Option.some.inj h
        subst hb
        refine ⟨by omega, bfn hn, fun l hl ht => ?_⟩
        by_cases e2 : l = n
        · subst e2; exact ⟨Nat.le_refl _, fun q => absurd q (Nat.lt_irrefl _)⟩
        · have := chB_none e l (by omega)
          rw [this] at ht; cases ht
      | some a =>
        rw [e] at h
        obtain ⟨h1, h2, h3⟩ := chB_spec e
        by_cases q : run c r (w ||| b1 n) < run c r (w ||| b1 a)
        · have h' : (if run c r (w ||| b1 n) < run c r (w ||| b1 a) then some n else some a) = some b := h
          rw [if_pos q] at h'
          have hb : n = b := Option.some.inj h'
          subst hb
          refine ⟨by omega, bfn hn, fun l hl ht => ?_⟩
          by_cases e2 : l = n
          · subst e2; exact ⟨Nat.le_refl _, fun q => absurd q (Nat.lt_irrefl _)⟩
          · have := (h3 l (by omega) ht).1
            exact ⟨by omega, fun _ => by omega⟩
        · have h' : (if run c r (w ||| b1 n) < run c r (w ||| b1 a) then some n else some a) = some b := h
          rw [if_neg q] at h'
          have hb : a = b := Option.some.inj h'
          subst hb
          refine ⟨by omega, h2, fun l hl ht => ?_⟩
          by_cases e2 : l = n
          · subst e2; exact ⟨by omega, fun q => by omega⟩
          · exact h3 l (by omega) ht
/-- the cheapest line, from the last line down -/
def GrI (c r : Nat) (w : Int64) (i : Nat) (x : Int32) (p : Nat) : Prop := (x = -1 ∧ p = 99 ∧ ∀ l, i ≤ l → l < al c r → tb w l = true) ∨ ∃ b, i ≤ b ∧ b < al c r ∧ tb w b = false ∧ x = nI b ∧ p = run c r (w ||| b1 b) ∧ ∀ l, i ≤ l → l < al c r → tb w l = false → run c r (w ||| b1 b) ≤ run c r (w ||| b1 l) ∧ (l < b → run c r (w ||| b1 b) < run c r (w ||| b1 l))
theorem GrI.z {c r : Nat} {w : Int64} : GrI c r w (al c r) (-1) 99 := Or.inl ⟨rfl, rfl, fun l h1 h2 => absurd h2 (by omega)⟩
theorem GrI.dn {c r i : Nat} {w : Int64} {x : Int32} {p : Nat} (h : GrI c r w i x p) (hi : 0 < i) (ht : tb w (i - 1) = true) : GrI c r w (i - 1) x p := by
  rcases h with ⟨h1, h2, h3⟩ | ⟨b, h1, h2, h3, h4, h5, h6⟩
  · refine Or.inl ⟨h1, h2, fun l hl hl2 => ?_⟩
    by_cases e : l = i - 1
    · rw [e]; exact ht
    · exact h3 l (by omega) hl2
  · refine Or.inr ⟨b, by omega, h2, h3, h4, h5, fun l hl hl2 hlt => ?_⟩
    by_cases e : l = i - 1
    · rw [e, ht] at hlt; cases hlt
    · exact h6 l (by omega) hl2 hlt
theorem GrI.no {c r i : Nat} {w : Int64} {x : Int32} {p : Nat} (hC : Cr c r) (h : GrI c r w i x p) (hi : 0 < i) (hp : p < run c r (w ||| b1 (i - 1))) : GrI c r w (i - 1) x p := by
  rcases h with ⟨h1, h2, h3⟩ | ⟨b, h1, h2, h3, h4, h5, h6⟩
  · have := run_le hC (w ||| b1 (i - 1))
    have := hC.q
    omega
  · refine Or.inr ⟨b, by omega, h2, h3, h4, h5, fun l hl hl2 hlt => ?_⟩
    by_cases e : l = i - 1
    · rw [e]; exact ⟨by omega, fun _ => by omega⟩
    · exact h6 l (by omega) hl2 hlt
theorem GrI.new {c r i : Nat} {w : Int64} {x : Int32} {p : Nat} (h : GrI c r w i x p) (hi : 0 < i) (hia : i ≤ al c r) (ht : tb w (i - 1) = false) (hp : run c r (w ||| b1 (i - 1)) ≤ p) : GrI c r w (i - 1) (nI (i - 1)) (run c r (w ||| b1 (i - 1))) := by
  refine Or.inr ⟨i - 1, by omega, by omega, ht, rfl, rfl, fun l hl hl2 hlt => ?_⟩
  by_cases e : l = i - 1
  · rw [e]; exact ⟨Nat.le_refl _, fun q => absurd q (Nat.lt_irrefl _)⟩
  · refine ⟨?_, fun q => absurd q (by omega)⟩
    rcases h with ⟨h1, h2, h3⟩ | ⟨b, h1, h2, h3, h4, h5, h6⟩
    · have := h3 l (by omega) hl2
      rw [this] at hlt; cases hlt
    · have := (h6 l (by omega) hl2 hlt).1
      omega
theorem GrI.all {c r : Nat} {w : Int64} {x : Int32} {p : Nat} (h : GrI c r w 0 x p) : x = oI (chM c r w) := by
  rcases h with ⟨h1, h2, h3⟩ | ⟨b, h1, h2, h3, h4, h5, h6⟩
  · unfold chM
    rw [chB_0 (fun l hl => h3 l (by omega) hl), h1]
    rfl
  · cases e : chM c r w with
    | none =>
      have := chB_none e b h2
      rw [this] at h3; cases h3
    | some a =>
      obtain ⟨a1, a2, a3⟩ := chB_spec e
      have q1 := h6 a (by omega) a1 a2
      have q2 := a3 b h2 h3
      rw [h4]
      show nI b = nI a
      rcases Nat.lt_trichotomy a b with q | q | q
      · have := q1.2 q; omega
      · rw [q]
      · have := q2.2 q; omega
theorem full_iff {c r : Nat} {u : Int64} (hC : Cr c r) (h : Onb c r u) : u = b1 (al c r) - 1 ↔ und c r u = 0 := by
  have h40 := hC.q
  constructor
  · intro e
    unfold und
    rw [fb_ct_zero]
    intro k hk
    rw [e, tb_b1_sub (by omega), decide_eq_true hk]; rfl
  · intro e
    apply tb_ext
    intro j hj
    rw [tb_b1_sub (by omega)]
    by_cases q : j < al c r
    · rw [und_0 e j q, decide_eq_true q]
    · rw [decide_eq_false q]
      exact bfn (fun z => q (h j z))
theorem lshr16 {x : Nat} (h : x < 2 ^ 31) : lN x >>> ((nI 16).toInt64 &&& 63) = lN (x / 65536) := by
  apply tb_ext
  intro j hj
  rw [tb_lN (by omega)]
  unfold tb
  rw [Int64.toBitVec_shiftRight]
  show ((lN x).toBitVec.sshiftRight (((nI 16).toInt64 &&& 63).toBitVec.smod 64).toNat).getLsbD j = _
  rw [sshr_amt 16 (by decide), BitVec.getLsbD_sshiftRight]
  have hm : (lN x).toBitVec.msb = false := by
    rw [BitVec.msb_eq_getLsbD_last]
    show tb (lN x) 63 = false
    rw [tb_lN (by omega)]
    exact Nat.testBit_lt_two_pow (Nat.lt_of_lt_of_le h (Nat.pow_le_pow_right (by decide) (by decide)))
  have e : (x / 65536).testBit j = x.testBit (16 + j) := by rw [show (65536 : Nat) = 2 ^ 16 from rfl, Nat.testBit_div_two_pow, Nat.add_comm]
  rw [e, hm, decide_eq_false (by omega), Bool.not_false, Bool.true_and]
  by_cases q : 16 + j < 64
  · rw [if_pos q]
    exact tb_lN (by omega) (16 + j)
  · rw [if_neg q]
    exact (Nat.testBit_lt_two_pow (Nat.lt_of_lt_of_le h (Nat.pow_le_pow_right (by decide) (by omega)))).symm
theorem cho_01 {c r st : Nat} {w : Int64} (h : st ≤ 1) : choM c r st w = if st = 0 then grM c r w else kpM c r w := by
  unfold choM
  by_cases e : st = 0
  · rw [if_pos e, if_pos e]
  · rw [if_neg e, if_neg e, if_pos (Or.inl (by omega))]
theorem dst_0 {p g : Nat} {d : Int} (h : p = 0) : iI d + nI g = iI (d + dst p g) := by unfold dst; rw [if_pos h, iI_nI, iI_add]
theorem dst_1 {p g : Nat} {d : Int} (h : 0 < p) : iI d + -(nI g) = iI (d + dst p g) := by unfold dst; rw [if_neg (by omega), iI_nI, iI_neg, iI_add]
