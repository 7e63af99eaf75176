/-! the text in the buffer -/
def vAt (bu : Nat → Int32) (i : Nat) : Bool := decide (bu i = nI 118)
def okAt (c r : Nat) (bu : Nat → Int32) (i : Nat) : Bool := if i % 4 = 0 then decide (bu i = nI 104) || decide (bu i = nI 118) else if i % 4 = 1 then exM c r (vAt bu (i - 1)) (bu i - nI 48) (nI 0) else if i % 4 = 2 then exM c r (vAt bu (i - 2)) (bu (i - 1) - nI 48) (bu i - nI 48) else decide (bu i = nI 44)
def ferr (c r : Nat) (bu : Nat → Int32) (len : Nat) : Nat := fa_first (fun i => !okAt c r bu i) len
def cmpT (c r : Nat) (bu : Nat → Int32) (len : Nat) : Bool := decide (len % 4 = 3) && decide (ferr c r bu len = len)
def tlN (c r : Nat) (bu : Nat → Int32) (i : Nat) : Nat := numM c r (vAt bu i) (bu (i + 1) - nI 48).toNatClampNeg (bu (i + 2) - nI 48).toNatClampNeg
def txS (c r : Nat) (bu : Nat → Int32) (w : Int64) : Nat → Int64
  | 0 => w
  | n + 1 => txS c r bu w n ||| b1 (tlN c r bu (4 * n))
def canT (c r : Nat) (bu : Nat → Int32) (w : Int64) (n : Nat) : Bool := andb (fun j => !tb (txS c r bu w j) (tlN c r bu (4 * j))) n
def TxOK (c r : Nat) (bu : Nat → Int32) (len : Nat) : Prop := len % 4 = 3 ∧ ∀ i, i < len → okAt c r bu i = true
theorem okAt_0 {c r i : Nat} {bu : Nat → Int32} (h : i % 4 = 0) : okAt c r bu i = (decide (bu i = nI 104) || decide (bu i = nI 118)) := by unfold okAt; rw [if_pos h]
theorem okAt_1 {c r i : Nat} {bu : Nat → Int32} (h : i % 4 = 1) : okAt c r bu i = exM c r (vAt bu (i - 1)) (bu i - nI 48) (nI 0) := by unfold okAt; rw [if_neg (by omega), if_pos h]
theorem okAt_2 {c r i : Nat} {bu : Nat → Int32} (h : i % 4 = 2) : okAt c r bu i = exM c r (vAt bu (i - 2)) (bu (i - 1) - nI 48) (bu i - nI 48) := by unfold okAt; rw [if_neg (by omega), if_neg (by omega), if_pos h]
theorem okAt_3 {c r i : Nat} {bu : Nat → Int32} (h0 : ¬ i % 4 = 0) (h1 : ¬ i % 4 = 1) (h2 : ¬ i % 4 = 2) : okAt c r bu i = decide (bu i = nI 44) := by unfold okAt; rw [if_neg h0, if_neg h1, if_neg h2]
theorem exM_is {c r : Nat} {v : Bool} {x y : Int32} (hC : Cr c r) (h : exM c r v x y = true) : ∃ a b, x = nI a ∧ y = nI b ∧ a < (if v then c + 1 else c) ∧ b < (if v then r else r + 1) := by
  have hq := hC.q
  have h2 := h
  unfold exM at h2
  rw [Bool.and_eq_true] at h2
  obtain ⟨a, ha, rfl⟩ := wi_of (by split <;> omega) h2.1
  obtain ⟨b, hb, rfl⟩ := wi_of (by split <;> omega) h2.2
  have ha2 : a < 2 ^ 31 := by split at ha <;> omega
  have hb2 : b < 2 ^ 31 := by split at hb <;> omega
  rw [exM_nat hC ha2 hb2, Bool.and_eq_true, decide_eq_true_eq, decide_eq_true_eq] at h
  exact ⟨a, b, rfl, rfl, h.1, h.2⟩
theorem numI_ne {c r : Nat} {v : Bool} {x y : Int32} (hC : Cr c r) : (¬ numI c r v x y = -1) ↔ exM c r v x y = true := by
  have hq := hC.q
  constructor
  · intro h
    cases q : exM c r v x y with
    | true => rfl
    | false => exact absurd (numI_no q).symm h
  · intro h
    obtain ⟨a, b, rfl, rfl, ha, hb⟩ := exM_is hC h
    rw [numI_nat hC ha hb]
    have := (numM_inv hC ha hb).1
    exact nI_nm1 (by omega)
theorem tx_line {c r len i : Nat} {bu : Nat → Int32} (hC : Cr c r) (h : TxOK c r bu len) (hi : i < len) (h4 : i % 4 = 0) : i + 2 < len ∧ numI c r (vAt bu i) (bu (i + 1) - nI 48) (bu (i + 2) - nI 48) = nI (tlN c r bu i) ∧ tlN c r bu i < al c r := by
  have hl : i + 2 < len := by have := h.1; omega
  have q := h.2 (i + 2) hl
  rw [okAt_2 (by omega), show i + 2 - 2 = i by omega, show i + 2 - 1 = i + 1 by omega] at q
  obtain ⟨a, b, e1, e2, ha, hb⟩ := exM_is hC q
  have hq := hC.q
  refine ⟨hl, ?_, ?_⟩
  · unfold tlN
    rw [e1, e2, numI_nat hC ha hb, nI_clamp (by split at ha <;> omega), nI_clamp (by split at hb <;> omega)]
  · unfold tlN
    rw [e1, e2, nI_clamp (by split at ha <;> omega), nI_clamp (by split at hb <;> omega)]
    exact (numM_inv hC ha hb).1
theorem first_at {p : Nat → Bool} {n i : Nat} (h : ∀ j, j < i → p j = false) (hi : p i = true) (hn : i < n) : fa_first p n = i := by
  have := fst1_some h hi hn
  unfold fst1 at this
  split at this
  · exact Option.some.inj this
  · cases this
theorem first_end {p : Nat → Bool} {n : Nat} (h : ∀ j, j < n → p j = false) : fa_first p n = n := by
  have a := fa_first_le p n
  rcases Nat.lt_or_ge (fa_first p n) n with q | q
  · have := fa_first_yes p n q
    rw [h _ q] at this
    cases this
  · omega
theorem cmpT_ok {c r len : Nat} {bu : Nat → Int32} (h : cmpT c r bu len = true) : TxOK c r bu len := by
  unfold cmpT at h
  rw [Bool.and_eq_true, decide_eq_true_eq, decide_eq_true_eq] at h
  refine ⟨h.1, fun i hi => ?_⟩
  have := fa_first_no (fun i => !okAt c r bu i) len i (by have := h.2; unfold ferr at this; omega)
  simpa using this
