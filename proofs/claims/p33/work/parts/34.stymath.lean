/-! what the styles choose -/
def chB (c r : Nat) (w : Int64) : Nat → Option Nat
  | 0 => none
  | n + 1 => if tb w n then chB c r w n else match chB c r w n with
    | none => some n
    | some b => if run c r (w ||| b1 n) < run c r (w ||| b1 b) then some n else some b
def chM (c r : Nat) (w : Int64) : Option Nat := chB c r w (al c r)
def chP (c r : Nat) (w : Int64) (o : Option Nat) : Nat := match o with
  | none => 1000
  | some b => run c r (w ||| b1 b)
def keM (c r : Nat) (w : Int64) : Option Nat := if c * r - cmpl c r w < 5 ∨ run c r w ≠ 2 then none else fst1 (fun l => decide (1 < knd c r w l) && hdt c r (w ||| b1 l)) (al c r)
def grM (c r : Nat) (w : Int64) : Option Nat := match fstk c r w 1 with
  | some l => some l
  | none => match fstk c r w 2 with
    | some l => some l
    | none => chM c r w
def kpM (c r : Nat) (w : Int64) : Option Nat := if fstk c r w 1 ≠ none ∧ fstk c r w 2 = none then (match keM c r w with | some l => some l | none => grM c r w) else grM c r w
def choM (c r st : Nat) (w : Int64) : Option Nat := if st = 0 then grM c r w else if st = 1 ∨ 12 < und c r w then kpM c r w else blM c r w
theorem chB_d {c r i : Nat} {w : Int64} (h : tb w i = true) : chB c r w (i + 1) = chB c r w i := by rw [chB, if_pos h]
theorem chB_n {c r i : Nat} {w : Int64} (hC : Cr c r) (h : tb w i = false) (hlt : run c r (w ||| b1 i) < chP c r w (chB c r w i)) : chB c r w (i + 1) = some i := by
  rw [chB, h]
  cases e : chB c r w i with
  | none => rfl
  | some b =>
    rw [e] at hlt
    have hlt2 : run c r (w ||| b1 i) < run c r (w ||| b1 b) := hlt
    show (if _ then some i else some b) = some i
    rw [if_pos hlt2]
theorem chB_o {c r i : Nat} {w : Int64} (hC : Cr c r) (h : tb w i = false) (hge : chP c r w (chB c r w i) ≤ run c r (w ||| b1 i)) : chB c r w (i + 1) = chB c r w i := by
  rw [chB, h]
  cases e : chB c r w i with
  | none =>
    rw [e] at hge
    have := run_le hC (w ||| b1 i)
    have := hC.q
    have : (1000 : Nat) ≤ run c r (w ||| b1 i) := hge
    omega
  | some b =>
    rw [e] at hge
    have hge2 : ¬ run c r (w ||| b1 i) < run c r (w ||| b1 b) := Nat.not_lt.mpr hge
    show (if _ then some i else some b) = some b
    rw [if_neg hge2]
theorem chB_lt {c r : Nat} {w : Int64} {b : Nat} : ∀ {n : Nat}, chB c r w n = some b → b < n ∧ tb w b = false
  | 0, h => by cases h
  | n + 1, h => by
    rw [chB] at h
    by_cases q : tb w n = true
    · rw [if_pos q] at h
      have := chB_lt h
      exact ⟨by omega, this.2⟩
    · rw [if_neg q] at h
      have qf : tb w n = false := by simpa using q
      split at h
      · cases h; exact ⟨by omega, qf⟩
      · rename_i b2 e
        split at h
        · cases h; exact ⟨by omega, qf⟩
        · cases h
          have := chB_lt e
          exact ⟨by omega, this.2⟩
theorem set0 {c r K : Nat} {u w : Int64} (hC : Cr c r) (h : ∀ l, tb u l = (decide (l < al c r) && kp c r w K l)) : u = 0 ↔ fstk c r w K = none := by
  unfold fstk
  rw [← fst_of hC h]
  constructor
  · intro e
    refine fst1_none (fun j _ => by rw [e, tb_0])
  · intro e
    exact tb_zero.mpr (fst1_no e)
theorem grM_1 {c r l : Nat} {w : Int64} (h : fstk c r w 1 = some l) : grM c r w = some l := by unfold grM; rw [h]
theorem grM_2 {c r l : Nat} {w : Int64} (h : fstk c r w 1 = none) (h2 : fstk c r w 2 = some l) : grM c r w = some l := by unfold grM; rw [h, h2]
theorem grM_3 {c r : Nat} {w : Int64} (h : fstk c r w 1 = none) (h2 : fstk c r w 2 = none) : grM c r w = chM c r w := by unfold grM; rw [h, h2]
theorem kp_a {c r l : Nat} {w : Int64} (h : fstk c r w 1 ≠ none) (h2 : fstk c r w 2 = none) (h3 : keM c r w = some l) : kpM c r w = some l := by unfold kpM; rw [if_pos ⟨h, h2⟩, h3]
theorem kp_b {c r : Nat} {w : Int64} (h : keM c r w = none) : kpM c r w = grM c r w := by
  unfold kpM
  split
  · rw [h]
  · rfl
theorem kp_c {c r : Nat} {w : Int64} (h : fstk c r w 1 = none ∨ fstk c r w 2 ≠ none) : kpM c r w = grM c r w := by
  unfold kpM
  rw [if_neg]
  rintro ⟨a, b⟩
  exact h.elim a (fun z => z b)
theorem cho_0 {c r st : Nat} {w : Int64} (h : st = 0) : choM c r st w = grM c r w := by unfold choM; rw [if_pos h]
theorem cho_2 {c r st : Nat} {w : Int64} (h : st = 2) (h2 : und c r w ≤ 12) : choM c r st w = blM c r w := by unfold choM; rw [if_neg (by omega), if_neg (by omega)]
theorem cho_1 {c r st : Nat} {w : Int64} (h : st ≤ 2) (h0 : 0 < st) (h2 : st = 2 → 12 < und c r w) : choM c r st w = kpM c r w := by unfold choM; rw [if_neg (by omega), if_pos (by omega)]
theorem tb_gv {c r : Nat} (hC : Cr c r) (w : Int64) (l : Nat) : tb (opl c r w &&& (tkl c r w ^^^ (-1 : Int64))) l = (decide (l < al c r) && decide (1 < knd c r w l)) := by
  rw [tb_and, tb_opl hC]
  by_cases h : l < al c r
  · rw [tb_not (lt_al hC h), tb_tkl hC, decide_eq_true h, Bool.true_and, Bool.true_and, Bool.true_and]
    unfold kp knd
    cases tb w l
    · by_cases q : 0 < gai c r w l
      · simp [q]
      · cases lvo c r w l <;> simp [q]
    · simp
  · rw [decide_eq_false h, Bool.false_and, Bool.false_and, Bool.false_and]
theorem ke_fst {c r : Nat} (hC : Cr c r) (w : Int64) (h1 : ¬ c * r - cmpl c r w < 5) (h2 : run c r w = 2) {i : Nat} (hn : ∀ j, j < i → (tb (opl c r w &&& (tkl c r w ^^^ (-1 : Int64))) j && hdt c r (w ||| b1 j)) = false) : (∀ h : i < al c r, tb (opl c r w &&& (tkl c r w ^^^ (-1 : Int64))) i = true → hdt c r (w ||| b1 i) = true → keM c r w = some i) ∧ (al c r ≤ i → keM c r w = none) := by
  unfold keM
  rw [if_neg (by omega)]
  have key : ∀ j, j < i → j < al c r → (decide (1 < knd c r w j) && hdt c r (w ||| b1 j)) = false := by
    intro j hj hl
    have := hn j hj
    rw [tb_gv hC, decide_eq_true hl, Bool.true_and] at this
    exact this
  constructor
  · intro h a b
    rw [tb_gv hC, decide_eq_true h, Bool.true_and] at a
    exact fst1_some (fun j hj => key j hj (by omega)) (by rw [a, b]; rfl) h
  · intro h
    exact fst1_none (fun j hj => key j (by omega) hj)
theorem ke_no {c r : Nat} {w : Int64} (h : c * r - cmpl c r w < 5 ∨ run c r w ≠ 2) : keM c r w = none := by unfold keM; rw [if_pos h]
theorem ke_lt {c r l : Nat} {w : Int64} (hC : Cr c r) (h : keM c r w = some l) : l < 40 := by
  unfold keM at h
  split at h
  · cases h
  · have := (fst1_is h).1
    have := hC.q
    omega
