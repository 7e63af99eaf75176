theorem PsR.copy {c r n pl : Nat} {ms : Nat → Nat} {w : Int64} {mv ow a b : Nat → Int32} (h : PsR c r ms n w pl mv ow) : PsR c r ms n w pl (fa_fill mv a n) (fa_fill ow b 16) :=
  ⟨h.1, h.2.1, h.2.2.1, fun k hk => by rw [fa_fill_in hk]; exact h.2.2.2.1 k hk, fun q hq => by rw [fa_fill_in hq]; exact h.2.2.2.2 q hq⟩
theorem PsR.df {c r n pl : Nat} {ms : Nat → Nat} {w : Int64} {mv ow : Nat → Int32} (hC : Cr c r) (h : PsR c r ms n w pl mv ow) : dfO c r ow = dfO c r (oH c r ms n) := by unfold dfO; rw [h.hsco hC, h.hsco hC]
theorem iI_l {z : Int} (h1 : -100000 ≤ z) (h2 : z ≤ 100000) : (iI z).toInt64 = Int64.ofInt z := by
  rw [← Int64.ofInt_toInt (iI z).toInt64, Int32.toInt_toInt64, iI_toInt h1 h2]
theorem iIl_add {a b : Int} (ha : -1000 ≤ a ∧ a ≤ 1000) (hb : -1000 ≤ b ∧ b ≤ 1000) : (iI a).toInt64 + (iI b).toInt64 = (iI (a + b)).toInt64 := by
  rw [iI_l (by omega) (by omega), iI_l (by omega) (by omega), iI_l (by omega) (by omega), Int64.ofInt_add]
theorem rpL_mem {c r y : Nat} {u : Int64} (hC : Cr c r) (h : 0 < und c r u) : oI (fst1 (tb (rst (opl c r u) (lcg y / 65536 % und c r u))) 64) = nI (rpL c r y u) := by
  rw [(mem_is (by rw [opl_pop hC]; exact Nat.mod_lt _ h)).1]
  rfl
