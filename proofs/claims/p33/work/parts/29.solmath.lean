/-! exact results: the value of a position, as an integer, and as the machine holds it -/
def iI (z : Int) : Int32 := Int32.ofInt z
def mxZ (p : Nat → Bool) (g : Nat → Int) : Nat → Int
  | 0 => -100
  | n + 1 => if p n then max (mxZ p g n) (g n) else mxZ p g n
def wrF (rest : Int64 → Int) (c r : Nat) (w : Int64) (l : Nat) : Int := if 0 < gai c r w l then (gai c r w l : Int) + rest (w ||| b1 l) else - rest (w ||| b1 l)
def outF (c r : Nat) : Nat → Int64 → Int
  | 0, _ => 0
  | f + 1, w => if und c r w = 0 then 0 else mxZ (fun l => !tb w l) (wrF (outF c r f) c r w) (al c r)
def out (c r : Nat) (w : Int64) : Int := outF c r (und c r w) w
def wor (c r : Nat) (w : Int64) (l : Nat) : Int := wrF (out c r) c r w l
theorem mxZ_cong {p : Nat → Bool} {g h : Nat → Int} : ∀ {n : Nat}, (∀ k, k < n → p k = true → g k = h k) → mxZ p g n = mxZ p h n
  | 0, _ => rfl
  | n + 1, q => by
    rw [mxZ, mxZ, mxZ_cong (fun k hk => q k (by omega))]
    by_cases e : p n = true
    · rw [if_pos e, if_pos e, q n (by omega) e]
    · rw [if_neg e, if_neg e]
theorem mxZ_ge {p : Nat → Bool} {g : Nat → Int} : ∀ {n k : Nat}, k < n → p k = true → g k ≤ mxZ p g n
  | 0, _, h, _ => absurd h (Nat.not_lt_zero _)
  | n + 1, k, h, hp => by
    rw [mxZ]
    rcases Nat.lt_or_ge k n with q | q
    · have := mxZ_ge q hp (g := g)
      split <;> omega
    · have : k = n := by omega
      subst this
      rw [if_pos hp]
      omega
theorem mxZ_at {p : Nat → Bool} {g : Nat → Int} : ∀ {n : Nat}, mxZ p g n = -100 ∨ ∃ k, k < n ∧ p k = true ∧ mxZ p g n = g k
  | 0 => Or.inl rfl
  | n + 1 => by
    rw [mxZ]
    have ih := mxZ_at (p := p) (g := g) (n := n)
    by_cases e : p n = true
    · rw [if_pos e]
      rcases Int.le_total (mxZ p g n) (g n) with q | q
      · right
        exact ⟨n, by omega, e, by omega⟩
      · rw [Int.max_eq_left q]
        rcases ih with h | ⟨k, h1, h2, h3⟩
        · exact Or.inl h
        · exact Or.inr ⟨k, by omega, h2, h3⟩
    · rw [if_neg e]
      rcases ih with h | ⟨k, h1, h2, h3⟩
      · exact Or.inl h
      · exact Or.inr ⟨k, by omega, h2, h3⟩
theorem mxZ_is {p : Nat → Bool} {g : Nat → Int} {n : Nat} {z : Int} (h1 : ∀ k, k < n → p k = true → g k ≤ z) (h2 : ∃ k, k < n ∧ p k = true ∧ g k = z) (h3 : -100 ≤ z) : mxZ p g n = z := by
  obtain ⟨k, hk, hp, e⟩ := h2
  have a := mxZ_ge hk hp (g := g)
  rcases mxZ_at (p := p) (g := g) (n := n) with b | ⟨j, hj, hpj, b⟩
  · omega
  · have := h1 j hj hpj
    omega
theorem out_0 {c r : Nat} {w : Int64} (h : und c r w = 0) : out c r w = 0 := by unfold out; rw [h]; rfl
theorem out_eq {c r : Nat} {w : Int64} (hC : Cr c r) (h : und c r w ≠ 0) : out c r w = mxZ (fun l => !tb w l) (wor c r w) (al c r) := by
  obtain ⟨f, hf⟩ : ∃ f, und c r w = f + 1 := ⟨und c r w - 1, by omega⟩
  unfold out
  rw [hf, outF, if_neg h]
  refine mxZ_cong (fun l hl hp => ?_)
  have ht : tb w l = false := by simpa using hp
  have := und_step hC hl ht
  unfold wor wrF out
  rw [show und c r (w ||| b1 l) = f by omega]
theorem und_pos {c r l : Nat} {w : Int64} (hl : l < al c r) (h : tb w l = false) : 0 < und c r w := by
  unfold und
  rw [fb_ct_pos]
  exact ⟨l, hl, by rw [h]; rfl⟩
theorem und_ex {c r : Nat} {w : Int64} (h : und c r w ≠ 0) : ∃ l, l < al c r ∧ tb w l = false := by
  unfold und at h
  obtain ⟨l, hl, q⟩ := fb_ct_pos.mp (Nat.pos_of_ne_zero h)
  exact ⟨l, hl, by simpa using q⟩
theorem out_bd {c r : Nat} (hC : Cr c r) : ∀ (f : Nat) (w : Int64), und c r w = f → -((c * r : Nat) : Int) + cmpl c r w ≤ out c r w ∧ out c r w ≤ ((c * r : Nat) : Int) - cmpl c r w
  | 0, w, h => by
    rw [out_0 h]
    have := cmpl_le c r w
    omega
  | f + 1, w, h => by
    have hne : und c r w ≠ 0 := by omega
    rw [out_eq hC hne]
    have key : ∀ l, l < al c r → tb w l = false → -((c * r : Nat) : Int) + cmpl c r w ≤ wor c r w l ∧ wor c r w l ≤ ((c * r : Nat) : Int) - cmpl c r w := by
      intro l hl ht
      have hu := und_step hC hl ht
      obtain ⟨b1', b2'⟩ := out_bd hC f (w ||| b1 l) (by omega)
      have hc := cmpl_draw hC hl ht
      have hle := cmpl_le c r (w ||| b1 l)
      unfold wor wrF
      split <;> omega
    obtain ⟨l, hl, ht⟩ := und_ex hne
    have g := mxZ_ge (p := fun l => !tb w l) (g := wor c r w) hl (by rw [ht]; rfl)
    have hk := key l hl ht
    refine ⟨by omega, ?_⟩
    rcases mxZ_at (p := fun l => !tb w l) (g := wor c r w) (n := al c r) with a | ⟨j, hj, hp, a⟩
    · rw [a]
      have := cmpl_le c r w
      omega
    · rw [a]
      exact (key j hj (by simpa using hp)).2
theorem out_b {c r : Nat} (hC : Cr c r) (w : Int64) : -16 ≤ out c r w ∧ out c r w ≤ 16 := by
  have := out_bd hC _ w rfl
  have := hC.q
  omega
theorem wor_b {c r l : Nat} (hC : Cr c r) (w : Int64) : -18 ≤ wor c r w l ∧ wor c r w l ≤ 18 := by
  have := out_b hC (w ||| b1 l)
  have := gai_le c r w l
  unfold wor wrF
  split <;> omega
theorem iI_toInt {z : Int} (h1 : -100000 ≤ z) (h2 : z ≤ 100000) : (iI z).toInt = z := fb_ofI (by omega) (by omega)
theorem iI_add (a b : Int) : iI a + iI b = iI (a + b) := (Int32.ofInt_add a b).symm
theorem iI_neg (a : Int) : -(iI a) = iI (-a) := (Int32.ofInt_neg a).symm
theorem iI_nI (n : Nat) : nI n = iI (n : Int) := Int32.ofInt_eq_ofNat.symm
theorem iI_lt {a b : Int} (h1 : -100000 ≤ a) (h2 : a ≤ 100000) (h3 : -100000 ≤ b) (h4 : b ≤ 100000) : iI a < iI b ↔ a < b := by
  rw [fa_lt, iI_toInt h1 h2, iI_toInt h3 h4]
theorem iI_eq {a b : Int} (h1 : -100000 ≤ a) (h2 : a ≤ 100000) (h3 : -100000 ≤ b) (h4 : b ≤ 100000) : iI a = iI b ↔ a = b := by
  rw [fa_eq, iI_toInt h1 h2, iI_toInt h3 h4]
theorem iI_max {a b : Int} (h1 : -100000 ≤ a) (h2 : a ≤ 100000) (h3 : -100000 ≤ b) (h4 : b ≤ 100000) : mxI (iI a) (iI b) = iI (max a b) := by
  unfold mxI
  by_cases h : a < b
  · rw [if_pos ((iI_lt h1 h2 h3 h4).mpr h), Int.max_eq_right (by omega)]
  · rw [if_neg (fun q => h ((iI_lt h1 h2 h3 h4).mp q)), Int.max_eq_left (by omega)]
