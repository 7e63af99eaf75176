/-! words of the throws; small facts of the faces -/
theorem xn_I : ∀ w ∈ (vx_atS RX8 85 "java/lang/IllegalArgumentException" ["java/lang/RuntimeException", "java/lang/Exception"]).filter (fun w => !goodWord w), w ∈ xnW := by decide +kernel
theorem xn_B : ∀ w ∈ (vx_atS RX8 100 "java/lang/IndexOutOfBoundsException" ["java/lang/RuntimeException", "java/lang/Exception"]).filter (fun w => !goodWord w), w ∈ xnW := by decide +kernel
theorem xn_S : ∀ w ∈ (vx_atS RX8 108 "java/lang/IllegalStateException" ["java/lang/RuntimeException", "java/lang/Exception"]).filter (fun w => !goodWord w), w ∈ xnW := by decide +kernel
theorem xo_I : ∀ w ∈ Cond.classLink RX8 81 "java/lang/IllegalArgumentException" :: Cond.initialized "java/lang/IllegalArgumentException" :: vx_atS RX8 85 "java/lang/IllegalArgumentException" ["java/lang/RuntimeException", "java/lang/Exception"], vx_ot w = true := by decide +kernel
theorem xo_B : ∀ w ∈ Cond.classLink RX8 96 "java/lang/IndexOutOfBoundsException" :: Cond.initialized "java/lang/IndexOutOfBoundsException" :: vx_atS RX8 100 "java/lang/IndexOutOfBoundsException" ["java/lang/RuntimeException", "java/lang/Exception"], vx_ot w = true := by decide +kernel
theorem xo_S : ∀ w ∈ Cond.classLink RX8 104 "java/lang/IllegalStateException" :: Cond.initialized "java/lang/IllegalStateException" :: vx_atS RX8 108 "java/lang/IllegalStateException" ["java/lang/RuntimeException", "java/lang/Exception"], vx_ot w = true := by decide +kernel
theorem knd_t {c r l : Nat} {w : Int64} (h : tb w l = true) : knd c r w l = 0 := by unfold knd; rw [if_pos h]
theorem knd_f {c r l : Nat} {w : Int64} (h : tb w l = false) : knd c r w l ≠ 0 := by
  unfold knd
  rw [if_neg (by rw [h]; decide)]
  split
  · decide
  · split <;> decide
theorem in_tkl {c r l : Nat} {w : Int64} (hC : Cr c r) (h : tb (tkl c r w) l = true) : knd c r w l = 1 := by
  rw [tb_tkl hC, Bool.and_eq_true] at h
  exact kp_t h.2
theorem out_tkl {c r l : Nat} {w : Int64} (hC : Cr c r) (hl : l < al c r) (h : tb (tkl c r w) l = false) : knd c r w l ≠ 1 := by
  rw [tb_tkl hC, decide_eq_true hl, Bool.true_and] at h
  exact kp_f h
theorem in_sfl {c r l : Nat} {w : Int64} (hC : Cr c r) (h : tb (sfl c r w) l = true) : knd c r w l = 2 := by
  rw [tb_sfl hC, Bool.and_eq_true] at h
  exact kp_t h.2
theorem out_sfl {c r l : Nat} {w : Int64} (hC : Cr c r) (hl : l < al c r) (h : tb (sfl c r w) l = false) : knd c r w l ≠ 2 := by
  rw [tb_sfl hC, decide_eq_true hl, Bool.true_and] at h
  exact kp_f h
theorem wi_01 {x : Int32} (h0 : ¬ x = 0) (h1 : ¬ x = nI 1) : wi x (nI 0) (nI 1) = false := by
  refine Bool.eq_false_iff.mpr (fun q => ?_)
  obtain ⟨k, hk, rfl⟩ := wi_of (by decide) q
  rcases Nat.eq_zero_or_pos k with e | e
  · exact h0 (by rw [e]; rfl)
  · exact h1 (by rw [show k = 1 by omega])
theorem wi_out {x : Int32} {n : Nat} (hn : n < 2 ^ 31) (h : wi x (nI 0) (nI n) = false) : x.toInt < 0 ∨ (n : Int) < x.toInt := by
  rcases Int.lt_or_le x.toInt 0 with q | q
  · exact Or.inl q
  · rcases Int.lt_or_le (n : Int) x.toInt with q2 | q2
    · exact Or.inr q2
    · exfalso
      have : wi x (nI 0) (nI n) = true := by
        unfold wi
        rw [Bool.and_eq_true, decide_eq_true_eq, decide_eq_true_eq]
        exact ⟨Int32.le_iff_toInt_le.mpr (by rw [nI_toInt (by decide)]; exact q), Int32.le_iff_toInt_le.mpr (by rw [nI_toInt hn]; exact q2)⟩
      rw [this] at h
      cases h
theorem wi_in {x n : Nat} (hx : x ≤ n) (hn : n < 2 ^ 31) : wi (nI x) (nI 0) (nI n) = true := by rw [wi_n (by omega) hn]; exact decide_eq_true hx
theorem fol_sf {c r : Nat} {u : Int64} (hC : Cr c r) : fst1 (tb (sfl c r u)) 64 = fstk c r u 2 := fst_of hC (tb_sfl hC u)
theorem StOK.of {c r : Nat} {w : Int64} {nu sz op di : Nat → Int32} {li : Nat → Int64} {pr : Bool} {pq : Int32} (h : LyOK c r w nu sz op di li ∧ PrOK c r w pr pq) : true = true → StOK c r w (nI (nst c r w)) (nI (thk c r w)) (thl c r w) nu sz op di li ∧ PrOK c r w pr pq := fun _ => ⟨⟨rfl, rfl, rfl, h.1⟩, h.2⟩
theorem exM_no {c r : Nat} {v : Bool} {x y : Int32} (hC : Cr c r) (h : numI c r v x y = -1) : exM c r v x y = false := Bool.eq_false_iff.mpr (fun q => (numI_ne hC).mpr q h)
theorem exM_num {c r : Nat} {v : Bool} {x y : Int32} (hC : Cr c r) (h : exM c r v x y = true) : numI c r v x y = nI (numM c r v x.toNatClampNeg y.toNatClampNeg) := by
  have hq := hC.q
  obtain ⟨a, b, rfl, rfl, ha, hb⟩ := exM_is hC h
  rw [numI_nat hC ha hb, nI_clamp (by split at ha <;> omega), nI_clamp (by split at hb <;> omega)]
