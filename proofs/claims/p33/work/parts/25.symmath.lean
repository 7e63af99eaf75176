/-! symmetries: where they take lines and sets of lines -/
def manyM (c r : Nat) : Nat := if c = r then 8 else 4
def imX (c : Nat) (v : Bool) (x s : Nat) : Nat := if s.testBit 0 then (if v then c else c - 1) - x else x
def imY (r : Nat) (v : Bool) (y s : Nat) : Nat := if s.testBit 1 then (if v then r - 1 else r) - y else y
def imL (c r : Nat) (v : Bool) (x y s : Nat) : Nat := if s.testBit 2 then numM c r (!v) (imY r v y s) (imX c v x s) else numM c r v (imX c v x s) (imY r v y s)
def mapM (c r l s : Nat) : Nat := imL c r (decide (lvl c r ≤ l)) (colM c r l) (rowM c r l) s
def mapSF (c r : Nat) (w : Int64) (s : Nat) : Nat → Int64
  | 0 => 0
  | l + 1 => if tb w l then mapSF c r w s l ||| b1 (mapM c r l s) else mapSF c r w s l
def mapS (c r : Nat) (w : Int64) (s : Nat) : Int64 := mapSF c r w s (al c r)
def minF (f : Nat → Int64) : Nat → Int64
  | 0 => f 0
  | n + 1 => mnL (minF f n) (f (n + 1))
def lsc (c r : Nat) (w : Int64) : Int64 := minF (mapS c r w) (manyM c r - 1)
def fixn (c r : Nat) (w : Int64) : Nat := fb_ct (fun s => decide (mapS c r w s = w)) (manyM c r)
/-- how many different codes the open lines lead to -/
def folF (c r : Nat) (w : Int64) (n : Nat) : Nat := fb_ct (fun l => !tb w l && !orb (fun a => !tb w a && decide (lsc c r (w ||| b1 a) = lsc c r (w ||| b1 l))) l) n
def SyOK (c r : Nat) (im : Nat → Int32) : Prop := ∀ s, s < manyM c r → ∀ l, l < al c r → im (s * 40 + l) = nI (mapM c r l s)
theorem many_le (c r : Nat) : manyM c r ≤ 8 ∧ 4 ≤ manyM c r := by unfold manyM; split <;> omega
theorem many_sq {c r s : Nat} (h : s < manyM c r) (h4 : 4 ≤ s) : c = r := by
  unfold manyM at h
  split at h
  · assumption
  · omega
theorem mapM_lt {c r l s : Nat} (hC : Cr c r) (hl : l < al c r) (hs : s < manyM c r) : mapM c r l s < al c r := by
  have z := brl2 (fun c r l => (List.range 8).all (fun s => !decide (s < manyM c r) || decide (mapM c r l s < al c r))) (by decide +kernel) hC hl
  have z2 := List.all_eq_true.mp z s (List.mem_range.mpr (by have := many_le c r; omega))
  rw [decide_eq_true hs] at z2
  simpa using z2
theorem mapM_0 {c r l : Nat} (hC : Cr c r) (hl : l < al c r) : mapM c r l 0 = l := by
  have z := brl2 (fun c r l => decide (mapM c r l 0 = l)) (by decide +kernel) hC hl
  simpa using z
theorem tb_mapSF {c r s : Nat} (hC : Cr c r) (hs : s < manyM c r) (w : Int64) (j : Nat) : ∀ n, n ≤ al c r → tb (mapSF c r w s n) j = orb (fun l => tb w l && decide (j = mapM c r l s)) n
  | 0, _ => tb_0 j
  | n + 1, h => by
    have ih := tb_mapSF hC hs w j n (by omega)
    rw [mapSF, orb, ← ih]
    by_cases q : tb w n = true
    · rw [if_pos q, tb_or, tb_b1 (lt_al hC (mapM_lt hC h hs)), q, Bool.true_and]
    · rw [if_neg q]
      have : tb w n = false := by simpa using q
      rw [this, Bool.false_and, Bool.or_false]
theorem mapS_draw {c r l s : Nat} (hC : Cr c r) (hl : l < al c r) (hs : s < manyM c r) (w : Int64) : mapS c r (w ||| b1 l) s = mapS c r w s ||| b1 (mapM c r l s) := by
  apply tb_ext
  intro j hj
  unfold mapS
  rw [tb_or, tb_mapSF hC hs _ _ _ (Nat.le_refl _), tb_mapSF hC hs _ _ _ (Nat.le_refl _), tb_b1 (lt_al hC (mapM_lt hC hl hs)), Bool.eq_iff_iff, Bool.or_eq_true, orb_iff, orb_iff, decide_eq_true_eq]
  constructor
  · rintro ⟨k, hk, q⟩
    rw [Bool.and_eq_true, tb_or, Bool.or_eq_true, tb_b1 (lt_al hC hl), decide_eq_true_eq, decide_eq_true_eq] at q
    rcases q.1 with e | e
    · exact Or.inl ⟨k, hk, by rw [e, decide_eq_true q.2]; rfl⟩
    · subst e; exact Or.inr q.2
  · rintro (⟨k, hk, q⟩ | q)
    · rw [Bool.and_eq_true] at q
      exact ⟨k, hk, by rw [tb_or, q.1, q.2]; rfl⟩
    · exact ⟨l, hl, by rw [tb_or, tb_b1 (lt_al hC hl), decide_eq_true q]; simp⟩
/-- only lines of the board are drawn -/
def Onb (c r : Nat) (w : Int64) : Prop := ∀ j, tb w j = true → j < al c r
theorem mapS_0 {c r : Nat} {w : Int64} (hC : Cr c r) (h : Onb c r w) : mapS c r w 0 = w := by
  apply tb_ext
  intro j hj
  unfold mapS
  rw [tb_mapSF hC (by have := many_le c r; omega) _ _ _ (Nat.le_refl _), Bool.eq_iff_iff, orb_iff]
  constructor
  · rintro ⟨k, hk, q⟩
    rw [Bool.and_eq_true, decide_eq_true_eq, mapM_0 hC hk] at q
    rw [q.2]; exact q.1
  · intro q
    exact ⟨j, h j q, by rw [q, mapM_0 hC (h j q)]; simp⟩
theorem minF_cong {f g : Nat → Int64} : ∀ {n : Nat}, (∀ k, k ≤ n → f k = g k) → minF f n = minF g n
  | 0, h => h 0 (Nat.le_refl _)
  | n + 1, h => by rw [minF, minF, minF_cong (fun k hk => h k (by omega)), h (n + 1) (Nat.le_refl _)]
theorem lsc_draw {c r l : Nat} (hC : Cr c r) (hl : l < al c r) (w : Int64) : minF (fun s => mapS c r w s ||| b1 (mapM c r l s)) (manyM c r - 1) = lsc c r (w ||| b1 l) := by
  unfold lsc
  refine minF_cong (fun k hk => ?_)
  rw [mapS_draw hC hl (by have := many_le c r; omega)]
theorem numM_inv {c r x y : Nat} {v : Bool} (hC : Cr c r) (hx : x < if v then c + 1 else c) (hy : y < if v then r else r + 1) : numM c r v x y < al c r ∧ decide (lvl c r ≤ numM c r v x y) = v ∧ colM c r (numM c r v x y) = x ∧ rowM c r (numM c r v x y) = y := by
  have z := Cr_dec (fun c r => [true, false].all (fun v => (List.range 5).all (fun x => (List.range 5).all (fun y => !decide (x < if v then c + 1 else c) || !decide (y < if v then r else r + 1) || (decide (numM c r v x y < al c r) && (decide (lvl c r ≤ numM c r v x y) == v) && decide (colM c r (numM c r v x y) = x) && decide (rowM c r (numM c r v x y) = y)))))) (by decide +kernel) hC
  have hq := hC.q
  have z1 := List.all_eq_true.mp z v (by cases v <;> simp)
  have z2 := List.all_eq_true.mp z1 x (List.mem_range.mpr (by split at hx <;> omega))
  have z3 := List.all_eq_true.mp z2 y (List.mem_range.mpr (by split at hy <;> omega))
  rw [decide_eq_true hx, decide_eq_true hy] at z3
  simp only [Bool.not_true, Bool.false_or, Bool.and_eq_true, decide_eq_true_eq, beq_iff_eq] at z3
  exact ⟨z3.1.1.1, z3.1.1.2, z3.1.2, z3.2⟩
theorem numM_of {c r l : Nat} (hC : Cr c r) (hl : l < al c r) : numM c r (decide (lvl c r ≤ l)) (colM c r l) (rowM c r l) = l := by
  have z := brl2 (fun c r l => decide (numM c r (decide (lvl c r ≤ l)) (colM c r l) (rowM c r l) = l)) (by decide +kernel) hC hl
  simpa using z
theorem mapM_num {c r x y s : Nat} {v : Bool} (hC : Cr c r) (hx : x < if v then c + 1 else c) (hy : y < if v then r else r + 1) : mapM c r (numM c r v x y) s = imL c r v x y s := by
  obtain ⟨-, h1, h2, h3⟩ := numM_inv hC hx hy
  unfold mapM
  rw [h1, h2, h3]
theorem bit0 : ∀ s, s < 8 → ((nI s &&& nI 1) = 0 ↔ s.testBit 0 = false) := by decide +kernel
theorem bit1 : ∀ s, s < 8 → ((nI s &&& nI 2) = 0 ↔ s.testBit 1 = false) := by decide +kernel
theorem bit2 : ∀ s, s < 8 → ((nI s &&& nI 4) = 0 ↔ s.testBit 2 = false) := by decide +kernel
theorem bit2_4 : ∀ s, s < 8 → (s.testBit 2 = true ↔ 4 ≤ s) := by decide +kernel
theorem upL_fill (f g : Nat → Int64) (i : Nat) : vp_updL (fa_fill f g i) i (f i) = fa_fill f g (i + 1) := by
  funext k
  unfold vp_updL fa_fill
  by_cases h : k = i
  · subst h; simp
  · rcases Nat.lt_or_ge k i with q | q
    · have : k < i + 1 := by omega
      simp [h, q, this]
    · have a : ¬ k < i := by omega
      have b : ¬ k < i + 1 := by omega
      simp [h, a, b]
theorem imX_lt {c : Nat} {v : Bool} {x s : Nat} (hx : x < if v then c + 1 else c) : imX c v x s < if v then c + 1 else c := by
  unfold imX
  cases v <;> cases s.testBit 0 <;> simp only [Bool.false_eq_true, if_false, if_true] at * <;> omega
theorem imY_lt {r : Nat} {v : Bool} {y s : Nat} (hr : 1 ≤ r) (hy : y < if v then r else r + 1) : imY r v y s < if v then r else r + 1 := by
  unfold imY
  cases v <;> cases s.testBit 1 <;> simp only [Bool.false_eq_true, if_false, if_true] at * <;> omega
/-- an image's number as the class computes it -/
theorem im_num {c r x y s : Nat} {v : Bool} (hC : Cr c r) (hs : s < manyM c r) (hx : x < if v then c + 1 else c) (hy : y < if v then r else r + 1) : (if s.testBit 2 then numI c r (!v) (nI (imY r v y s)) (nI (imX c v x s)) else numI c r v (nI (imX c v x s)) (nI (imY r v y s))) = nI (imL c r v x y s) := by
  have hq := hC.q
  have a := imX_lt (s := s) hx
  have b := imY_lt (s := s) hq.2.2.1 hy
  unfold imL
  cases e : s.testBit 2
  · simp only [Bool.false_eq_true, if_false]
    exact numI_nat hC a b
  · simp only [if_true]
    have hsq := many_sq hs ((bit2_4 s (by have := many_le c r; omega)).mp e)
    subst hsq
    exact numI_nat hC (by cases v <;> simp only [Bool.not_true, Bool.not_false, Bool.false_eq_true, if_true, if_false] at * <;> omega) (by cases v <;> simp only [Bool.not_true, Bool.not_false, Bool.false_eq_true, if_true, if_false] at * <;> omega)
theorem Onb_draw {c r l : Nat} {w : Int64} (hC : Cr c r) (hl : l < al c r) (h : Onb c r w) : Onb c r (w ||| b1 l) := by
  intro j q
  rw [tb_or, Bool.or_eq_true] at q
  rcases q with q | q
  · exact h j q
  · rw [tb_b1 (lt_al hC hl), decide_eq_true_eq] at q
    rw [q]; exact hl
theorem numI_neg {c r x y : Nat} {v : Bool} (hC : Cr c r) (hx : x ≤ c) (hy : y ≤ r) (h : numI c r v (nI x) (nI y) = -1) : ¬ (x < (if v then c + 1 else c) ∧ y < (if v then r else r + 1)) := by
  intro ⟨a, b⟩
  have hq := hC.q
  rw [numI_nat hC a b] at h
  have := (numM_inv hC a b).1
  exact nI_nm1 (by omega) h
theorem numI_pos {c r x y : Nat} {v : Bool} (hC : Cr c r) (hx : x ≤ c) (hy : y ≤ r) (h : ¬ numI c r v (nI x) (nI y) = -1) : x < (if v then c + 1 else c) ∧ y < (if v then r else r + 1) := by
  have hq := hC.q
  have e := exM_nat (v := v) hC (x := x) (y := y) (by omega) (by omega)
  cases q : exM c r v (nI x) (nI y) with
  | false => exact absurd (numI_no q).symm h
  | true =>
    rw [q] at e
    have e2 := e.symm
    rw [Bool.and_eq_true, decide_eq_true_eq, decide_eq_true_eq] at e2
    exact e2
theorem fol_d {c r i : Nat} {w : Int64} (h : tb w i = true) : folF c r w (i + 1) = folF c r w i := by
  unfold folF
  rw [fb_ct_succ, h]
  rfl
theorem fol_o {c r i : Nat} {w : Int64} (h : tb w i = false) (ho : orb (fun a => !tb w a && decide (lsc c r (w ||| b1 a) = lsc c r (w ||| b1 i))) i = true) : folF c r w (i + 1) = folF c r w i := by
  unfold folF
  rw [fb_ct_succ, h, ho]
  rfl
theorem fol_n {c r i : Nat} {w : Int64} (h : tb w i = false) (ho : orb (fun a => !tb w a && decide (lsc c r (w ||| b1 a) = lsc c r (w ||| b1 i))) i = false) : folF c r w (i + 1) = folF c r w i + 1 := by
  unfold folF
  rw [fb_ct_succ, h, ho]
  rfl
theorem fol_s1 {c r i n : Nat} {w : Int64} {g : Nat → Int64} (h : tb w i = false) (hs : ∀ x : Int64, (orb (fun a => decide (g a = x)) n = orb (fun a => !tb w a && decide (lsc c r (w ||| b1 a) = x)) i)) (ho : orb (fun a => decide (g a = lsc c r (w ||| b1 i))) n = true) (x : Int64) : orb (fun a => decide (g a = x)) n = orb (fun a => !tb w a && decide (lsc c r (w ||| b1 a) = x)) (i + 1) := by
  rw [orb, h, hs x, Bool.not_false, Bool.true_and]
  by_cases e : lsc c r (w ||| b1 i) = x
  · rw [← e, ← hs, ho]; rfl
  · rw [decide_eq_false e, Bool.or_false]
theorem fol_s2 {c r i n : Nat} {w : Int64} {g : Nat → Int64} (h : tb w i = false) (hs : ∀ x : Int64, (orb (fun a => decide (g a = x)) n = orb (fun a => !tb w a && decide (lsc c r (w ||| b1 a) = x)) i)) (x : Int64) : orb (fun a => decide (vp_updL g n (lsc c r (w ||| b1 i)) a = x)) (n + 1) = orb (fun a => !tb w a && decide (lsc c r (w ||| b1 a) = x)) (i + 1) := by
  rw [orb, orb, h, ← hs x, Bool.not_false, Bool.true_and, pk_uLs]
  congr 1
  exact orb_cong (fun k hk => by rw [pk_uLn (by omega)])
