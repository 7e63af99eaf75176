/-! a move as the model makes it -/
def mkP (c r : Nat) (u : Int64) (li : Nat) (ow : Nat → Int32) (v : Int32) : Nat → Nat → Int32
  | 0 => ow
  | k + 1 => clm c r u (bes c r li k) (mkP c r u li ow v k) v
theorem clm_none {c r : Nat} {u : Int64} {ow : Nat → Int32} {v : Int32} : clm c r u none ow v = ow := rfl
theorem mkP_2 (c r : Nat) (u : Int64) (li : Nat) (ow : Nat → Int32) (v : Int32) : mkP c r u li ow v 2 = mkO c r u li ow v := by
  unfold mkO fbM gbM
  rw [mkP, mkP, mkP]
  cases e0 : bes c r li 0 with
  | none => rfl
  | some b => rfl
theorem cpo_y {c r b : Nat} {u : Int64} (h : opn c r u b = 0) : cpo c r u (some b) = true := decide_eq_true h
theorem cpo_n {c r b : Nat} {u : Int64} (h : opn c r u b ≠ 0) : cpo c r u (some b) = false := decide_eq_false h
/-- taking owners back -/
def bkP (c r li : Nat) (ow : Nat → Int32) : Nat → Nat → Int32
  | 0 => ow
  | k + 1 => match bes c r li k with
    | none => bkP c r li ow k
    | some b => upd (bkP c r li ow k) b (-1)
/-! the game so far: which lines, who is to move, whose boxes -/
def wS (ms : Nat → Nat) : Nat → Int64
  | 0 => 0
  | n + 1 => wS ms n ||| b1 (ms n)
def qS (c r : Nat) (ms : Nat → Nat) : Nat → Nat
  | 0 => 0
  | n + 1 => nxp (gai c r (wS ms n) (ms n)) (qS c r ms n)
def oH (c r : Nat) (ms : Nat → Nat) : Nat → Nat → Int32
  | 0 => fun _ => -1
  | n + 1 => mkO c r (wS ms (n + 1)) (ms n) (oH c r ms n) (nI (qS c r ms n))
def HiOK (c r : Nat) (ms : Nat → Nat) (n : Nat) : Prop := ∀ k, k < n → ms k < al c r ∧ tb (wS ms k) (ms k) = false
def uM (ms : Nat → Nat) (n li : Nat) : Nat → Nat := fun k => if k = n then li else ms k
theorem wS_cong {ms mt : Nat → Nat} : ∀ {n : Nat}, (∀ k, k < n → ms k = mt k) → wS ms n = wS mt n
  | 0, _ => rfl
  | n + 1, h => by rw [wS, wS, wS_cong (fun k hk => h k (by omega)), h n (by omega)]
theorem qS_cong {c r : Nat} {ms mt : Nat → Nat} : ∀ {n : Nat}, (∀ k, k < n → ms k = mt k) → qS c r ms n = qS c r mt n
  | 0, _ => rfl
  | n + 1, h => by rw [qS, qS, qS_cong (fun k hk => h k (by omega)), h n (by omega), wS_cong (fun k hk => h k (by omega))]
theorem oH_cong {c r : Nat} {ms mt : Nat → Nat} : ∀ {n : Nat}, (∀ k, k < n → ms k = mt k) → oH c r ms n = oH c r mt n
  | 0, _ => rfl
  | n + 1, h => by rw [oH, oH, oH_cong (fun k hk => h k (by omega)), h n (by omega), qS_cong (fun k hk => h k (by omega)), wS_cong h]
theorem uM_lt {ms : Nat → Nat} {n li k : Nat} (h : k < n) : uM ms n li k = ms k := by unfold uM; rw [if_neg (by omega)]
theorem uM_at {ms : Nat → Nat} {n li : Nat} : uM ms n li n = li := by unfold uM; rw [if_pos rfl]
theorem wS_u {ms : Nat → Nat} {n li : Nat} : wS (uM ms n li) n = wS ms n := wS_cong (fun k hk => uM_lt hk)
theorem qS_u {c r : Nat} {ms : Nat → Nat} {n li : Nat} : qS c r (uM ms n li) n = qS c r ms n := qS_cong (fun k hk => uM_lt hk)
theorem oH_u {c r : Nat} {ms : Nat → Nat} {n li : Nat} : oH c r (uM ms n li) n = oH c r ms n := oH_cong (fun k hk => uM_lt hk)
theorem HiOK.make {c r n li : Nat} {ms : Nat → Nat} (h : HiOK c r ms n) (hl : li < al c r) (ht : tb (wS ms n) li = false) : HiOK c r (uM ms n li) (n + 1) := by
  refine lt_s (fun k hk => ?_) ?_
  · rw [uM_lt hk, wS_cong (mt := ms) (fun j hj => uM_lt (by omega))]
    exact h k hk
  · rw [uM_at, wS_u]
    exact ⟨hl, ht⟩
theorem hi_und {c r n : Nat} {ms : Nat → Nat} (hC : Cr c r) (h : HiOK c r ms n) : und c r (wS ms n) + n = al c r := by
  induction n with
  | zero =>
    have : und c r (wS ms 0) = al c r := by
      unfold und
      exact fb_ct_all.mpr (fun k _ => by rw [show wS ms 0 = 0 from rfl, tb_0]; rfl)
    omega
  | succ n ih =>
    have h1 := ih (fun k hk => h k (by omega))
    obtain ⟨h2, h3⟩ := h n (by omega)
    have h4 := und_step hC h2 h3
    rw [wS]
    omega
theorem hi_onb {c r n : Nat} {ms : Nat → Nat} (hC : Cr c r) (h : HiOK c r ms n) : Onb c r (wS ms n) := by
  induction n with
  | zero => intro j hj; rw [show wS ms 0 = 0 from rfl, tb_0] at hj; cases hj
  | succ n ih => exact onb_or hC (ih (fun k hk => h k (by omega))) (h n (by omega)).1
theorem qS_le (c r : Nat) (ms : Nat → Nat) : ∀ n, qS c r ms n ≤ 1
  | 0 => Nat.zero_le _
  | n + 1 => by
    have := qS_le c r ms n
    rw [qS]
    unfold nxp
    split <;> omega
theorem clm_cong {c r : Nat} {u : Int64} {o : Option Nat} {f g : Nat → Int32} {v : Int32} (h : ∀ b, b < 16 → f b = g b) : ∀ b, b < 16 → clm c r u o f v b = clm c r u o g v b := by
  intro b hb
  unfold clm
  split
  · by_cases e : b = o.getD 0
    · rw [e, pk_us, pk_us]
    · rw [pk_un e, pk_un e]; exact h b hb
  · exact h b hb
theorem mkO_cong {c r : Nat} {u : Int64} {li : Nat} {f g : Nat → Int32} {v : Int32} (h : ∀ b, b < 16 → f b = g b) : ∀ b, b < 16 → mkO c r u li f v b = mkO c r u li g v b := clm_cong (clm_cong h)
/-- the heap holds this game: lines, moves, the mover, owners -/
def PsR (c r : Nat) (ms : Nat → Nat) (n : Nat) (w : Int64) (pl : Nat) (mv ow : Nat → Int32) : Prop := HiOK c r ms n ∧ w = wS ms n ∧ pl = qS c r ms n ∧ (∀ k, k < n → mv k = nI (ms k)) ∧ ∀ b, b < 16 → ow b = oH c r ms n b
theorem PsR.make {c r n pl li : Nat} {ms : Nat → Nat} {w : Int64} {mv ow : Nat → Int32} (h : PsR c r ms n w pl mv ow) (hl : li < al c r) (ht : tb w li = false) : PsR c r (uM ms n li) (n + 1) (w ||| b1 li) (nxp (gai c r w li) pl) (upd mv n (nI li)) (mkO c r (w ||| b1 li) li ow (nI pl)) := by
  obtain ⟨h1, h2, h3, h4, h5⟩ := h
  subst h2 h3
  have e : wS (uM ms n li) (n + 1) = wS ms n ||| b1 li := by rw [wS, wS_u, uM_at]
  refine ⟨h1.make hl ht, e.symm, ?_, ?_, ?_⟩
  · rw [qS, wS_u, qS_u, uM_at]
  · exact lt_s (fun k hk => by rw [pk_un (by omega), uM_lt hk]; exact h4 k hk) (by rw [pk_us, uM_at])
  · intro b hb
    rw [oH, e, uM_at, oH_u, qS_u]
    exact mkO_cong h5 b hb
