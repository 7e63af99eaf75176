/-! p33: the law's turns -/
theorem code_law : code = cL_law := by first | rfl | decide +kernel
theorem MoR.cong {c r n pl : Nat} {ms : Nat → Nat} {w : Int64} {ml mp o1 o2 : Nat → Int32} (h : MoR c r ms n w pl ml mp o1) (e : ∀ b, b < 16 → o2 b = o1 b) : MoR c r ms n w pl ml mp o2 := ⟨⟨h.1.1, h.1.2.1, h.1.2.2.1, h.1.2.2.2.1, fun b hb => by rw [e b hb]; exact h.1.2.2.2.2 b hb⟩, h.2⟩
def cyc (A o l : Nat) : Nat := if l ≤ o then o - l else o + A - l
theorem cyc_dec {A o l : Nat} (ho : o < A) (hl : l < A) (hne : l ≠ o) : cyc A o ((l + 1) % A) + 1 ≤ cyc A o l := by
  by_cases e : l + 1 = A
  · rw [e, Nat.mod_self]
    unfold cyc
    rw [if_pos (Nat.zero_le _), if_neg (by omega)]
    omega
  · rw [Nat.mod_eq_of_lt (by omega)]
    unfold cyc
    by_cases q : l + 1 ≤ o
    · rw [if_pos q, if_pos (by omega)]; omega
    · rw [if_neg q]
      by_cases q2 : l ≤ o
      · omega
      · rw [if_neg q2]; omega
theorem un_end {c r n pl i b : Nat} {ms : Nat → Nat} {w : Int64} {ml mp wo f : Nat → Int32} (hC : Cr c r) (h : MoR c r ms n w pl ml mp wo) (hn : 0 < n) (hi : c * r ≤ i) (hf : ∀ b, b < 16 → f b = if b < i ∧ opn c r (wS ms (n - 1)) b ≠ 0 ∧ b < c * r then -1 else wo b) (hb : b < 16) : f b = oH c r ms (n - 1) b := by
  obtain ⟨k, rfl⟩ : ∃ k, n = k + 1 := ⟨n - 1, by omega⟩
  rw [Nat.add_sub_cancel] at hf ⊢
  have hk := h.1.1 k (by omega)
  have e1 : oH c r ms (k + 1) b = mkO c r (wS ms k ||| b1 (ms k)) (ms k) (oH c r ms k) (nI (qS c r ms k)) b := rfl
  rw [hf b hb]
  by_cases q : b < i ∧ opn c r (wS ms k) b ≠ 0 ∧ b < c * r
  · rw [if_pos q]
    exact (oH_free hC (fun j hj => h.1.1 j (by omega)) b q.2.1).symm
  · rw [if_neg q, h.1.2.2.2.2 b hb, e1]
    by_cases q2 : b < c * r
    · rw [mkO_iff hC hk.1 hk.2 q2, if_neg]
      intro ⟨z1, z2⟩
      exact q ⟨by omega, by omega, q2⟩
    · rw [mkO_at, if_neg]
      intro ⟨z, _⟩
      rcases z with z | z
      · have := bes_lt hC hk.1 z; omega
      · have := bes_lt hC hk.1 z; omega
theorem un_MoR {c r n pl i : Nat} {ms : Nat → Nat} {w : Int64} {ml mp wo f : Nat → Int32} (hC : Cr c r) (h : MoR c r ms n w pl ml mp wo) (hn : 0 < n) (hi : c * r ≤ i) (hf : ∀ b, b < 16 → f b = if b < i ∧ opn c r (wS ms (n - 1)) b ≠ 0 ∧ b < c * r then -1 else wo b) : MoR c r ms (n - 1) (wS ms (n - 1)) (qS c r ms (n - 1)) ml mp f :=
  ⟨⟨fun k hk => h.1.1 k (by omega), rfl, rfl, fun k hk => h.1.2.2.2.1 k (by omega), fun b hb => un_end hC h hn hi hf hb⟩, fun k hk => h.2 k (by omega)⟩
theorem un_w {c r n pl : Nat} {ms : Nat → Nat} {w : Int64} {ml mp wo : Nat → Int32} (hC : Cr c r) (h : MoR c r ms n w pl ml mp wo) (hn : 0 < n) : w &&& (b1 (ms (n - 1)) ^^^ (-1 : Int64)) = wS ms (n - 1) := by
  obtain ⟨h1, h2, -, h4⟩ := h.1.last hn
  rw [h4]
  exact w_back hC h1 h2
theorem un_yes {c r i : Nat} {u : Int64} {wo f : Nat → Int32} (hi : i < c * r) (hf : ∀ b, b < 16 → f b = if b < i ∧ opn c r u b ≠ 0 ∧ b < c * r then -1 else wo b) (h : 0 < opn c r u i) : ∀ b, b < 16 → upd f i (-1) b = if b < i + 1 ∧ opn c r u b ≠ 0 ∧ b < c * r then -1 else wo b := fun b hb => by
  by_cases e : b = i
  · rw [e, pk_us, if_pos ⟨by omega, by omega, hi⟩]
  · rw [pk_un e, hf b hb]
    by_cases q : b < i ∧ opn c r u b ≠ 0 ∧ b < c * r
    · rw [if_pos q, if_pos ⟨by omega, q.2⟩]
    · rw [if_neg q, if_neg (fun z => q ⟨by omega, z.2⟩)]
theorem un_no {c r i : Nat} {u : Int64} {wo f : Nat → Int32} (hf : ∀ b, b < 16 → f b = if b < i ∧ opn c r u b ≠ 0 ∧ b < c * r then -1 else wo b) (h : opn c r u i = 0) : ∀ b, b < 16 → f b = if b < i + 1 ∧ opn c r u b ≠ 0 ∧ b < c * r then -1 else wo b := fun b hb => by
  rw [hf b hb]
  by_cases e : b = i
  · rw [e, if_neg (fun z => absurd z.1 (Nat.lt_irrefl _)), if_neg (fun z => z.2.1 h)]
  · by_cases q : b < i ∧ opn c r u b ≠ 0 ∧ b < c * r
    · rw [if_pos q, if_pos ⟨by omega, q.2⟩]
    · rw [if_neg q, if_neg (fun z => q ⟨by omega, z.2⟩)]
theorem begin_0 {c r pl : Nat} {ms : Nat → Nat} {w : Int64} {mv ow : Nat → Int32} (h : PsR c r ms 0 w pl mv ow) : w = 0 ∧ pl = 0 := ⟨h.2.1, h.2.2.1⟩
theorem mo_w2 {c r n pl pl2 : Nat} {w w2 : Int64} {ms : Nat → Nat} {mv ow ml mr ow9 : Nat → Int32} (hG : PsR c r ms n w pl mv ow) (hM : MoR c r ms n w2 pl2 ml mr ow9) : w = w2 ∧ pl = pl2 := ⟨hG.2.1.trans hM.1.2.1.symm, hG.2.2.1.trans hM.1.2.2.1.symm⟩
