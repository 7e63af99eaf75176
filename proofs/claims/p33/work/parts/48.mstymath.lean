/-! styles as the model chooses -/
theorem cnt_fst {c r K : Nat} {w : Int64} : fb_ct (kp c r w K) (al c r) = 0 ↔ fstk c r w K = none := by
  unfold fstk
  rw [fb_ct_zero]
  exact ⟨fun h => fst1_none h, fun h k hk => fst1_no h k hk⟩
theorem chB_z {c r i : Nat} {w : Int64} (hC : Cr c r) (h : tb w i = false) (e : chB c r w i = none) : chB c r w (i + 1) = some i := chB_n hC h (by
  rw [e]
  show run c r (w ||| b1 i) < 1000
  have := run_le hC (w ||| b1 i)
  have := hC.q
  omega)
theorem ke_at {c r i : Nat} {w : Int64} (h5 : ¬ c * r - cmpl c r w < 5) (h2 : run c r w = 2) (hn : ∀ j, j < i → (decide (1 < knd c r w j) && hdt c r (w ||| b1 j)) = false) (hi : i < al c r) (h : (decide (1 < knd c r w i) && hdt c r (w ||| b1 i)) = true) : keM c r w = some i := by
  unfold keM
  rw [if_neg (by omega)]
  exact fst1_some hn h hi
theorem ke_nn {c r i : Nat} {w : Int64} (h5 : ¬ c * r - cmpl c r w < 5) (h2 : run c r w = 2) (hn : ∀ j, j < i → (decide (1 < knd c r w j) && hdt c r (w ||| b1 j)) = false) (hi : al c r ≤ i) : keM c r w = none := by
  unfold keM
  rw [if_neg (by omega)]
  exact fst1_none (fun j hj => hn j (by omega))
theorem fstk_lt {c r K b : Nat} {w : Int64} (hC : Cr c r) (h : fstk c r w K = some b) : b < 2 ^ 31 := by
  have := (fst1_is h).1
  have := hC.q
  omega
