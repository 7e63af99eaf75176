/-! p33: sets of strings, sets of open lines -/
theorem ishr_amt : ∀ k, k < 31 → ((nI k &&& 31).toBitVec.smod 32).toNat = k := by decide +kernel
theorem ishr_bit {s k : Nat} (hs : s < 2 ^ 31) (hk : k < 31) : (nI s >>> (nI k &&& 31)) &&& nI 1 = zb (s.testBit k) := by
  rw [pk_shrN hs _ k (ishr_amt k hk), fa_and, Nat.and_one_is_mod, Nat.testBit_eq_decide_div_mod_eq]
  rcases Nat.mod_two_eq_zero_or_one (s / 2 ^ k) with h | h
  · rw [h]; rfl
  · rw [h]; rfl
theorem zb_is1 {b : Bool} : zb b = nI 1 ↔ b = true := by cases b <;> decide
theorem pm_no {n d : Nat → Nat} {T : Nat → Int} {s k : Nat} {q W : Int} (hb : s.testBit k = true) (hw : W = wv (n k) (d k) (T (clr s k))) (hlt : W ≤ 264) (h : (pmn n d T s k = none ∧ q = 999) ∨ pmn n d T s k = some q) (hq : q ≤ W) : (pmn n d T s (k + 1) = none ∧ q = 999) ∨ pmn n d T s (k + 1) = some q := by
  rcases h with ⟨_, h2⟩ | h
  · omega
  · exact Or.inr (by rw [pmn_s2 hb h, ← hw, Int.min_eq_left hq])
theorem pm_yes {n d : Nat → Nat} {T : Nat → Int} {s k : Nat} {q W : Int} (hb : s.testBit k = true) (hw : W = wv (n k) (d k) (T (clr s k))) (h : (pmn n d T s k = none ∧ q = 999) ∨ pmn n d T s k = some q) (hq : W < q) : (pmn n d T s (k + 1) = none ∧ W = 999) ∨ pmn n d T s (k + 1) = some W := by
  rcases h with ⟨h1, _⟩ | h
  · exact Or.inr (by rw [pmn_s1 hb h1, ← hw])
  · exact Or.inr (by rw [pmn_s2 hb h, ← hw, Int.min_eq_right (by omega)])
def nwF (S w : Int64) (s : Nat) : Nat → Int64
  | 0 => w
  | n + 1 => if s.testBit n then nwF S w s n ||| b1 (mem S n) else nwF S w s n
theorem nw_0 (S w : Int64) : ∀ n, nwF S w 0 n = w
  | 0 => rfl
  | n + 1 => by rw [nwF, Nat.zero_testBit, if_neg (by decide), nw_0 S w n]
theorem tb_nw {c r s : Nat} {w : Int64} (hC : Cr c r) (j : Nat) : ∀ n, n ≤ und c r w → tb (nwF (opl c r w) w s n) j = (tb w j || orb (fun i => s.testBit i && decide (j = mem (opl c r w) i)) n)
  | 0, _ => by rw [nwF, orb, Bool.or_false]
  | n + 1, h => by
    have ih := tb_nw hC (w := w) (s := s) j n (by omega)
    have hm := (mem_und (u := w) hC (show n < und c r w by omega)).1
    rw [nwF, orb, ← Bool.or_assoc, ← ih]
    cases q : s.testBit n with
    | false => rw [if_neg (by decide), Bool.false_and, Bool.or_false]
    | true => rw [if_pos rfl, tb_or, tb_b1 (lt_al hC hm), Bool.true_and]
theorem nw_mem {c r s q : Nat} {w : Int64} (hC : Cr c r) (hq : q < und c r w) : tb (nwF (opl c r w) w s (und c r w)) (mem (opl c r w) q) = s.testBit q := by
  rw [tb_nw hC _ _ (Nat.le_refl _), (mem_und hC hq).2, Bool.false_or]
  cases e : s.testBit q with
  | true => exact orb_iff.mpr ⟨q, hq, by rw [e, decide_eq_true rfl]; rfl⟩
  | false => exact bfn (fun z => by
      obtain ⟨i, hi, h⟩ := orb_iff.mp z
      rw [Bool.and_eq_true, decide_eq_true_eq] at h
      have := mem_inj (by rw [opl_pop hC]; exact hq) (by rw [opl_pop hC]; exact hi) h.2
      rw [this, h.1] at e
      cases e)
theorem nw_open {c r s l : Nat} {w : Int64} (hC : Cr c r) (hl : l < al c r) (h : tb (nwF (opl c r w) w s (und c r w)) l = false) : ∃ q, q < und c r w ∧ s.testBit q = false ∧ l = mem (opl c r w) q := by
  have hw : tb w l = false := by
    rw [tb_nw hC _ _ (Nat.le_refl _), Bool.or_eq_false_iff] at h
    exact h.1
  obtain ⟨h1, h2⟩ := mem_op hC hl hw rfl
  refine ⟨_, h1, ?_, h2.symm⟩
  rw [← nw_mem hC h1 (s := s), h2, h]
theorem nw_or {c r s q : Nat} {w : Int64} (hC : Cr c r) (hq : q < und c r w) : nwF (opl c r w) w s (und c r w) ||| b1 (mem (opl c r w) q) = nwF (opl c r w) w (s ||| 2 ^ q) (und c r w) := by
  apply tb_ext
  intro j _
  have hm := (mem_und (u := w) hC hq).1
  rw [tb_or, tb_b1 (lt_al hC hm), tb_nw hC _ _ (Nat.le_refl _), tb_nw hC _ _ (Nat.le_refl _), Bool.or_assoc]
  congr 1
  rw [Bool.eq_iff_iff, Bool.or_eq_true, decide_eq_true_eq, orb_iff, orb_iff]
  constructor
  · rintro (⟨i, hi, h⟩ | h)
    · rw [Bool.and_eq_true, decide_eq_true_eq] at h
      exact ⟨i, hi, by rw [fb_bit_set, h.1, decide_eq_true h.2]; rfl⟩
    · exact ⟨q, hq, by rw [fb_bit_set, decide_eq_true rfl, Bool.or_true, decide_eq_true h]; rfl⟩
  · intro ⟨i, hi, h⟩
    rw [fb_bit_set, Bool.and_eq_true, Bool.or_eq_true, decide_eq_true_eq, decide_eq_true_eq] at h
    rcases h.1 with z | z
    · exact Or.inl ⟨i, hi, by rw [z, decide_eq_true h.2]; rfl⟩
    · exact Or.inr (by rw [h.2, z])
theorem or_lt {s q m : Nat} (hs : s < 2 ^ m) (hq : q < m) : s ||| 2 ^ q < 2 ^ m := Nat.or_lt_two_pow hs (Nat.pow_lt_pow_right (by decide) hq)
theorem or_gt {s q : Nat} (h : s.testBit q = false) : s < s ||| 2 ^ q := by
  have h1 : s ≤ s ||| 2 ^ q := Nat.left_le_or
  rcases Nat.lt_or_eq_of_le h1 with z | z
  · exact z
  · have : (s ||| 2 ^ q).testBit q = true := by rw [fb_bit_set, decide_eq_true rfl, Bool.or_true]
    rw [← z, h] at this
    cases this
theorem all_full {s m : Nat} (hs : s < 2 ^ m) (h : ∀ q, q < m → s.testBit q = true) : s = 2 ^ m - 1 := by
  apply Nat.eq_of_testBit_eq
  intro i
  rw [Nat.testBit_two_pow_sub_one]
  by_cases z : i < m
  · rw [h i z, decide_eq_true z]
  · rw [decide_eq_false z]
    exact Nat.testBit_lt_two_pow (Nat.lt_of_lt_of_le hs (Nat.pow_le_pow_right (by decide) (by omega)))
def SvH (c r : Nat) (w : Int64) (s k : Nat) (z : Int) : Prop := (∀ q, q < k → s.testBit q = false → wor c r (nwF (opl c r w) w s (und c r w)) (mem (opl c r w) q) ≤ z) ∧ ((z = (if s = 2 ^ und c r w - 1 then 0 else -99) ∧ ∀ q, q < k → s.testBit q = true) ∨ ∃ q, q < k ∧ s.testBit q = false ∧ z = wor c r (nwF (opl c r w) w s (und c r w)) (mem (opl c r w) q))
theorem SvH.skip {c r s k : Nat} {w : Int64} {z : Int} (h : SvH c r w s k z) (hb : s.testBit k = true) : SvH c r w s (k + 1) z := by
  refine ⟨lt_s h.1 (fun q => by rw [hb] at q; cases q), ?_⟩
  rcases h.2 with ⟨h1, h2⟩ | ⟨q, h1, h2⟩
  · exact Or.inl ⟨h1, lt_s h2 hb⟩
  · exact Or.inr ⟨q, by omega, h2⟩
theorem full_bit2 {m q : Nat} (hq : q < m) : (2 ^ m - 1).testBit q = true := by rw [Nat.testBit_two_pow_sub_one, decide_eq_true hq]
theorem SvH.no {c r s k : Nat} {w : Int64} {z : Int} (hC : Cr c r) (hk : k < und c r w) (h : SvH c r w s k z) (hb : s.testBit k = false) (hle : wor c r (nwF (opl c r w) w s (und c r w)) (mem (opl c r w) k) ≤ z) : SvH c r w s (k + 1) z := by
  refine ⟨lt_s h.1 (fun _ => hle), ?_⟩
  rcases h.2 with ⟨h1, h2⟩ | ⟨q, h1, h2⟩
  · have hne : ¬ s = 2 ^ und c r w - 1 := fun e => by rw [e, full_bit2 hk] at hb; cases hb
    rw [if_neg hne] at h1
    have := wor_b (l := mem (opl c r w) k) hC (nwF (opl c r w) w s (und c r w))
    omega
  · exact Or.inr ⟨q, by omega, h2⟩
theorem SvH.yes {c r s k : Nat} {w : Int64} {z : Int} (h : SvH c r w s k z) (hb : s.testBit k = false) (hlt : z < wor c r (nwF (opl c r w) w s (und c r w)) (mem (opl c r w) k)) : SvH c r w s (k + 1) (wor c r (nwF (opl c r w) w s (und c r w)) (mem (opl c r w) k)) :=
  ⟨lt_s (fun q h1 h2 => by have := h.1 q h1 h2; omega) (fun _ => Int.le_refl _), Or.inr ⟨k, by omega, hb, rfl⟩⟩
theorem SvH.fin {c r s : Nat} {w : Int64} {z : Int} (hC : Cr c r) (hs : s < 2 ^ und c r w) (h : SvH c r w s (und c r w) z) : z = out c r (nwF (opl c r w) w s (und c r w)) := by
  rcases h.2 with ⟨h1, h2⟩ | ⟨q, h1, h2, h3⟩
  · rw [if_pos (all_full hs h2)] at h1
    rw [h1]
    refine (out_0 (fb_ct_zero.mpr (fun l hl => ?_))).symm
    cases e : tb (nwF (opl c r w) w s (und c r w)) l with
    | true => rfl
    | false =>
      obtain ⟨q, q1, q2, -⟩ := nw_open hC hl e
      rw [h2 q q1] at q2
      cases q2
  · have hm := (mem_und (u := w) hC h1).1
    have hop : tb (nwF (opl c r w) w s (und c r w)) (mem (opl c r w) q) = false := by rw [nw_mem hC h1, h2]
    rw [out_eq hC (Nat.ne_of_gt (und_pos hm hop))]
    refine (mxZ_is (fun l hl ht => ?_) ⟨_, hm, by rw [hop]; rfl, h3.symm⟩ ?_).symm
    · obtain ⟨q2, a1, a2, a3⟩ := nw_open hC hl (by simpa using ht)
      rw [a3]
      exact h.1 q2 a1 a2
    · have := wor_b (l := mem (opl c r w) q) hC (nwF (opl c r w) w s (und c r w))
      omega
noncomputable def slvV (c r : Nat) (w : Int64) (o : Option Nat) : Int := match o with
  | none => out c r w
  | some l => wor c r w l
theorem sd0 {c r k : Nat} {w : Int64} (h : slop c r w k = false) (h3 : ssz c r w k < 3) : sdis c r w k = 0 := by
  rcases sdis_or c r w k with q | ⟨_, q | q⟩
  · rw [h] at q; cases q.2
  · omega
  · exact q.1
theorem sd4 {c r k : Nat} {w : Int64} (h : slop c r w k = false) (h3 : 3 ≤ ssz c r w k) : sdis c r w k = 4 := by
  rcases sdis_or c r w k with q | ⟨_, q | q⟩
  · rw [h] at q; cases q.2
  · exact q.1
  · omega
theorem zn_le1 (b : Bool) : zn b ≤ 1 := by cases b <;> decide
theorem oI_is {o : Option Nat} {a : Nat} (h : nI a = oI o) (ha : a < 2 ^ 31) (hb : ∀ l, o = some l → l < 2 ^ 31) : o = some a := by
  cases o with
  | none => exact absurd h (nI_nm1 ha)
  | some l => rw [(nI_eq ha (hb l rfl)).mp h]
theorem SvH.z {c r s : Nat} {w : Int64} {z : Int} (h : z = if s = 2 ^ und c r w - 1 then 0 else -99) : SvH c r w s 0 z := ⟨fun q h => absurd h (Nat.not_lt_zero _), Or.inl ⟨h, fun q h => absurd h (Nat.not_lt_zero _)⟩⟩
