/-! members of a set in their order; sets of them by their places -/
theorem rst_tb (S : Int64) : ∀ (i j : Nat), j < 64 → tb (rst S i) j = (tb S j && decide (i ≤ fb_ct (tb S) j))
  | 0, j, _ => by simp [rst]
  | i + 1, j, hj => by
    have ih := rst_tb S i
    show tb (rst S i &&& (rst S i - (1 : Int64))) j = _
    rw [tb_rst1, ih j hj]
    cases q : tb S j with
    | false => simp
    | true =>
      rw [Bool.true_and, Bool.true_and]
      have key : fst1 (tb (rst S i)) 64 = some j ↔ fb_ct (tb S) j = i := by
        constructor
        · intro h
          obtain ⟨h1, h2, h3⟩ := fst1_is h
          rw [ih j hj, q, Bool.true_and, decide_eq_true_eq] at h2
          rcases Nat.lt_or_ge i (fb_ct (tb S) j) with z | z
          · obtain ⟨a, ha, pa, ea⟩ := fb_ct_kth z
            have := h3 a ha
            rw [ih a (by omega), pa, Bool.true_and, decide_eq_false_iff_not] at this
            omega
          · omega
        · intro h
          refine fst1_some (fun a ha => ?_) ?_ hj
          · rw [ih a (by omega)]
            cases qa : tb S a with
            | false => rfl
            | true =>
              rw [Bool.true_and, decide_eq_false_iff_not]
              have m := fb_ct_mono (tb S) (m := a + 1) (n := j) (by omega)
              rw [fb_ct_succ, qa] at m
              simp only [if_true] at m
              omega
          · rw [ih j hj, q, Bool.true_and, decide_eq_true_eq]
            omega
      by_cases e : fb_ct (tb S) j = i
      · rw [decide_eq_true (key.mpr e), e]
        simp
      · rw [decide_eq_false (fun z => e (key.mp z)), Bool.not_false, Bool.and_true]
        exact decide_eq_decide.mpr (by omega)
def mem (S : Int64) (i : Nat) : Nat := (fst1 (tb (rst S i)) 64).getD 0
theorem mem_is {S : Int64} {i : Nat} (h : i < pop S) : fst1 (tb (rst S i)) 64 = some (mem S i) ∧ mem S i < 64 ∧ tb S (mem S i) = true ∧ fb_ct (tb S) (mem S i) = i := by
  unfold pop at h
  obtain ⟨l, hl, pl, el⟩ := fb_ct_kth h
  have e : fst1 (tb (rst S i)) 64 = some l := by
    refine fst1_some (fun a ha => ?_) ?_ hl
    · rw [rst_tb S i a (by omega)]
      cases qa : tb S a with
      | false => rfl
      | true =>
        rw [Bool.true_and, decide_eq_false_iff_not]
        have m := fb_ct_mono (tb S) (m := a + 1) (n := l) (by omega)
        rw [fb_ct_succ, qa] at m
        simp only [if_true] at m
        omega
    · rw [rst_tb S i l hl, pl, el]
      simp
  unfold mem
  rw [e]
  exact ⟨rfl, hl, pl, el⟩
theorem mem_ct {S : Int64} {l : Nat} (hl : l < 64) (h : tb S l = true) : fb_ct (tb S) l < pop S ∧ mem S (fb_ct (tb S) l) = l := by
  have a : fb_ct (tb S) l < pop S := by
    unfold pop
    have m := fb_ct_mono (tb S) (m := l + 1) (n := 64) (by omega)
    rw [fb_ct_succ, h] at m
    simp only [if_true] at m
    omega
  obtain ⟨-, h2, h3, h4⟩ := mem_is a
  exact ⟨a, fb_ct_kth_one h3 h h4⟩
theorem mem_inj {S : Int64} {i j : Nat} (hi : i < pop S) (hj : j < pop S) (h : mem S i = mem S j) : i = j := by
  rw [← (mem_is hi).2.2.2, ← (mem_is hj).2.2.2, h]
theorem mem_lt {S : Int64} {i j : Nat} (hj : j < pop S) (h : i < j) : mem S i < mem S j := by
  have hi : i < pop S := by omega
  rcases Nat.lt_or_ge (mem S i) (mem S j) with q | q
  · exact q
  · have m := fb_ct_mono (tb S) q
    rw [(mem_is hi).2.2.2, (mem_is hj).2.2.2] at m
    omega
/-- the places (below n) of a set's members among those of S -/
def ixF (S u : Int64) : Nat → Nat
  | 0 => 0
  | n + 1 => if tb u (mem S n) then ixF S u n + 2 ^ n else ixF S u n
theorem ixF_lt (S u : Int64) : ∀ n, ixF S u n < 2 ^ n
  | 0 => by rw [ixF]; decide
  | n + 1 => by
    have := ixF_lt S u n
    rw [ixF, Nat.pow_succ]
    split <;> omega
theorem ixF_bit (S u : Int64) (i : Nat) : ∀ n, (ixF S u n).testBit i = (decide (i < n) && tb u (mem S i))
  | 0 => by simp [ixF]
  | n + 1 => by
    have ih := ixF_bit S u i n
    have lt := ixF_lt S u n
    rw [ixF]
    by_cases q : tb u (mem S n) = true
    · rw [if_pos q, Nat.add_comm, show 2 ^ n + ixF S u n = 2 ^ n * 1 + ixF S u n by omega, Nat.testBit_two_pow_mul_add 1 lt]
      rcases Nat.lt_trichotomy i n with h | h | h
      · rw [if_pos h, ih, decide_eq_true h, decide_eq_true (by omega)]
      · subst h
        rw [if_neg (Nat.lt_irrefl _), q]
        simp
      · rw [if_neg (by omega), decide_eq_false (by omega), Bool.false_and]
        have : i - n ≠ 0 := by omega
        have e : (1 : Nat) = 2 ^ 0 := rfl
        rw [e, Nat.testBit_two_pow]
        simp
        omega
    · rw [if_neg q, ih]
      rcases Nat.lt_trichotomy i n with h | h | h
      · rw [decide_eq_true h, decide_eq_true (by omega)]
      · subst h
        have : tb u (mem S i) = false := by simpa using q
        rw [this, Bool.and_false, Bool.and_false]
      · rw [decide_eq_false (by omega), decide_eq_false (by omega)]
/-- the lines at the places of a set of places -/
def oSF (S : Int64) (s : Nat) : Nat → Int64
  | 0 => 0
  | n + 1 => if s.testBit n then oSF S s n ||| b1 (mem S n) else oSF S s n
def oS (S : Int64) (s : Nat) : Int64 := oSF S s (pop S)
theorem tb_oSF {S : Int64} {s : Nat} (j : Nat) : ∀ n, n ≤ pop S → tb (oSF S s n) j = orb (fun i => s.testBit i && decide (j = mem S i)) n
  | 0, _ => tb_0 j
  | n + 1, h => by
    have ih := tb_oSF (S := S) (s := s) j n (by omega)
    rw [oSF, orb, ← ih]
    by_cases q : s.testBit n = true
    · rw [if_pos q, tb_or, tb_b1 (mem_is h).2.1, q, Bool.true_and]
    · rw [if_neg q]
      have : s.testBit n = false := by simpa using q
      rw [this, Bool.false_and, Bool.or_false]
theorem tb_oS {S : Int64} {s j : Nat} : tb (oS S s) j = true ↔ ∃ i, i < pop S ∧ s.testBit i = true ∧ j = mem S i := by
  unfold oS
  rw [tb_oSF j _ (Nat.le_refl _), orb_iff]
  constructor
  · rintro ⟨i, h1, h2⟩
    rw [Bool.and_eq_true, decide_eq_true_eq] at h2
    exact ⟨i, h1, h2⟩
  · rintro ⟨i, h1, h2⟩
    exact ⟨i, h1, by rw [Bool.and_eq_true, decide_eq_true_eq]; exact h2⟩
theorem tb_oS_mem {S : Int64} {s i : Nat} (hi : i < pop S) : tb (oS S s) (mem S i) = s.testBit i := by
  rw [Bool.eq_iff_iff, tb_oS]
  constructor
  · rintro ⟨j, h1, h2, h3⟩
    rw [mem_inj hi h1 h3]; exact h2
  · intro h
    exact ⟨i, hi, h, rfl⟩
/-- the position in which just the lines at these places are open -/
def pS (c r : Nat) (S : Int64) (s : Nat) : Int64 := opl c r (oS S s)
def clr (s i : Nat) : Nat := s ^^^ (s &&& 2 ^ i)
theorem clr_bit (s i j : Nat) : (clr s i).testBit j = (s.testBit j && !decide (j = i)) := by
  unfold clr
  rw [Nat.testBit_xor, Nat.testBit_and, Nat.testBit_two_pow]
  by_cases h : i = j
  · subst h; simp
  · have : ¬ j = i := fun e => h e.symm
    simp [h, this]
theorem clr_lt {s i n : Nat} (h : s < 2 ^ n) : clr s i < 2 ^ n := Nat.xor_lt_two_pow h (Nat.lt_of_le_of_lt Nat.and_le_left h)
theorem clr_less {s i : Nat} (h : s.testBit i = true) : clr s i < s := by
  have e : clr s i &&& s = clr s i := by
    apply Nat.eq_of_testBit_eq
    intro j
    rw [Nat.testBit_and, clr_bit]
    cases s.testBit j <;> simp
  have le : clr s i ≤ s := by rw [← e]; exact Nat.and_le_right
  rcases Nat.lt_or_ge (clr s i) s with q | q
  · exact q
  · have eq : clr s i = s := by omega
    have b := clr_bit s i i
    rw [eq, h] at b
    simp at b
theorem nI_clr {s i : Nat} (hs : s < 2 ^ 31) (hi : i < 31) : nI s &&& (nI (2 ^ i) ^^^ (-1)) = nI (clr s i) := by
  have e : (nI (2 ^ i) ^^^ (-1) : Int32) = nI (2 ^ i ^^^ 4294967295) := by
    rw [show (-1 : Int32) = nI 4294967295 from by decide, fb_xorI]
  rw [e, fa_and]
  congr 1
  apply Nat.eq_of_testBit_eq
  intro j
  rw [Nat.testBit_and, Nat.testBit_xor, clr_bit, Nat.testBit_two_pow, show (4294967295 : Nat) = 2 ^ 32 - 1 from rfl, Nat.testBit_two_pow_sub_one]
  rcases Nat.lt_or_ge j 31 with q | q
  · have : j < 32 := by omega
    by_cases z : i = j
    · subst z; simp [this]
    · have z2 : ¬ j = i := fun e => z e.symm
      simp [this, z, z2]
  · have : s.testBit j = false := Nat.testBit_lt_two_pow (Nat.lt_of_lt_of_le hs (Nat.pow_le_pow_right (by decide) q))
    rw [this, Bool.false_and, Bool.false_and]
theorem shl1 : ∀ i, i < 31 → nI 1 <<< (nI i &&& 31) = nI (2 ^ i) := by decide +kernel
theorem bit_and {s i : Nat} (hs : s < 2 ^ 31) (hi : i < 31) : (nI s &&& nI (2 ^ i)) = 0 ↔ s.testBit i = false := by rw [fa_bit hi]
theorem ix_or {a n : Nat} (h : a < 2 ^ n) : nI a ||| nI (2 ^ n) = nI (a + 2 ^ n) := by
  rw [fa_or]
  congr 1
  rw [Nat.or_comm, show 2 ^ n = 2 ^ n * 1 by omega, Nat.two_pow_mul_add_eq_or h 1]
  omega
where Nat.two_pow_mul_add_eq_or {a n : Nat} (h : a < 2 ^ n) (b : Nat) : 2 ^ n * b ||| a = 2 ^ n * b + a := (Nat.two_pow_add_eq_or_of_lt h b).symm
theorem tb_pS {c r : Nat} (hC : Cr c r) (S : Int64) (s j : Nat) : tb (pS c r S s) j = (decide (j < al c r) && !tb (oS S s) j) := tb_opl hC _ j
theorem pS_clr {c r i s : Nat} {S : Int64} (hC : Cr c r) (hS : ∀ j, tb S j = true → j < al c r) (hi : i < pop S) : pS c r S (clr s i) = pS c r S s ||| b1 (mem S i) := by
  apply tb_ext
  intro j hj
  have hm := mem_is hi
  rw [tb_or, tb_pS hC, tb_pS hC, tb_b1 hm.2.1]
  by_cases e : j = mem S i
  · rw [e, tb_oS_mem hi, clr_bit, decide_eq_true (hS _ hm.2.2.1)]
    simp
  · rw [decide_eq_false e, Bool.or_false]
    congr 2
    rw [Bool.eq_iff_iff, tb_oS, tb_oS]
    constructor
    · rintro ⟨k, h1, h2, h3⟩
      rw [clr_bit, Bool.and_eq_true] at h2
      exact ⟨k, h1, h2.1, h3⟩
    · rintro ⟨k, h1, h2, h3⟩
      refine ⟨k, h1, ?_, h3⟩
      rw [clr_bit, h2, Bool.true_and]
      have : k ≠ i := fun z => e (by rw [h3, z])
      simp [this]
theorem pS_mem {c r i s : Nat} {S : Int64} (hC : Cr c r) (hS : ∀ j, tb S j = true → j < al c r) (hi : i < pop S) : tb (pS c r S s) (mem S i) = !s.testBit i := by
  rw [tb_pS hC, tb_oS_mem hi, decide_eq_true (hS _ (mem_is hi).2.2.1), Bool.true_and]
theorem pS_open {c r s l : Nat} {S : Int64} (hC : Cr c r) (hl : l < al c r) (h : tb (pS c r S s) l = false) : ∃ i, i < pop S ∧ s.testBit i = true ∧ l = mem S i := by
  rw [tb_pS hC, decide_eq_true hl, Bool.true_and] at h
  exact tb_oS.mp (by simpa using h)
/-- a box's sides at the places: one of them, just if the box has one open side there -/
theorem ix_one {c r i s b : Nat} {S : Int64} (hC : Cr c r) (hS : ∀ j, tb S j = true → j < al c r) (hi : i < pop S) (hs : s.testBit i = true) (hb : b < c * r) (hd : isd c r b (mem S i) = true) : (ixF S (sdM c r b) (pop S) &&& s = 2 ^ i) ↔ opn c r (pS c r S s) b = 1 := by
  have hopen : tb (pS c r S s) (mem S i) = false := by rw [pS_mem hC hS hi, hs]; rfl
  constructor
  · intro h
    have e : iOA c r (pS c r S s) b = b1 (mem S i) := by
      apply tb_ext
      intro j hj
      rw [tb_iOA hC hb, tb_b1 (mem_is hi).2.1]
      by_cases q : j = mem S i
      · rw [q, hd, hopen]; simp
      · rw [decide_eq_false q]
        cases z : isd c r b j with
        | false => rfl
        | true =>
          cases y : tb (pS c r S s) j with
          | true => rfl
          | false =>
            obtain ⟨k, k1, k2, k3⟩ := pS_open hC (isd_al hC hb z) y
            have t := congrArg (fun n => n.testBit k) h
            simp only [Nat.testBit_and, ixF_bit, Nat.testBit_two_pow] at t
            rw [decide_eq_true k1, tb_sdM hC hb, ← k3, z, k2] at t
            have : i = k := by simpa using t
            subst this
            exact absurd k3 q
    rw [← pop_iOA hC hb, e]
    unfold pop
    rw [fb_ct_cong (q := fun j => decide (j = mem S i) && true) (fun k _ => by rw [tb_b1 (mem_is hi).2.1, Bool.and_true]), ct_one (fun _ => true) (mem_is hi).2.1]
    rfl
  · intro h
    obtain ⟨l, l1, l2, -, -⟩ := one_open hC hb h
    have hl : mem S i = l := by
      have t := congrArg (fun x => tb x (mem S i)) l2
      simp only [tb_iOA hC hb, tb_b1 (lt_al hC l1), hd, hopen] at t
      simpa using t
    apply Nat.eq_of_testBit_eq
    intro k
    rw [Nat.testBit_and, ixF_bit, Nat.testBit_two_pow]
    by_cases q : i = k
    · subst q
      rw [decide_eq_true hi, tb_sdM hC hb, hd, hs]; simp
    · rw [decide_eq_false q]
      cases hk : decide (k < pop S) with
      | false => rfl
      | true =>
        have hk := of_decide_eq_true hk
        rw [tb_sdM hC hb, Bool.true_and]
        cases z : isd c r b (mem S k) with
        | false => rfl
        | true =>
          cases y : s.testBit k with
          | false => rfl
          | true =>
            have t := congrArg (fun x => tb x (mem S k)) l2
            simp only [tb_iOA hC hb, tb_b1 (lt_al hC l1), z, pS_mem hC hS hk, y] at t
            have e2 : mem S k = l := by simpa using t
            exact absurd (mem_inj hi hk (hl.trans e2.symm)) q
theorem gai_ix {c r i s : Nat} {S : Int64} (hC : Cr c r) (hS : ∀ j, tb S j = true → j < al c r) (hi : i < pop S) (hs : s.testBit i = true) : bN (decide (ixF S (sdO c r (fbM c r (mem S i))) (pop S) &&& s = 2 ^ i)) + bN (decide (ixF S (sdO c r (gbM c r (mem S i))) (pop S) &&& s = 2 ^ i)) = gai c r (pS c r S s) (mem S i) := by
  have hl := hS _ (mem_is hi).2.2.1
  rw [gai_sum]
  refine bN_two (w := pS c r S s) (fun b => if decide (opn c r (pS c r S s) b = 1) = true then 1 else 0) (fun o => bN (decide (ixF S (sdO c r o) (pop S) &&& s = 2 ^ i))) ?_ ?_
  · show bN (decide (ixF S 0 (pop S) &&& s = 2 ^ i)) = 0
    have : ixF S 0 (pop S) = 0 := by
      apply Nat.eq_of_testBit_eq
      intro k
      rw [ixF_bit, tb_0, Bool.and_false, Nat.zero_testBit]
    rw [this, Nat.zero_and, decide_eq_false (by have := Nat.two_pow_pos i; omega)]
    rfl
  · intro b hb
    have hbb : b < c * r := hb.elim (fun h => bes_lt hC hl h) (fun h => bes_lt hC hl h)
    have hd := (isd_bes hC hbb hl).mpr hb
    show bN (decide (ixF S (sdM c r b) (pop S) &&& s = 2 ^ i)) = _
    rw [decide_eq_decide.mpr (ix_one hC hS hi hs hbb hd)]
    rfl
