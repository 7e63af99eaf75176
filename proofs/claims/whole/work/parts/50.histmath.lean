/-! a move as the model makes it -/
def mkP (c r : Nat) (u : Int64) (li : Nat) (ow : Nat → Int32) (v : Int32) : Nat → Nat → Int32
  | 0 => ow
  | k + 1 => clm c r u (bes c r li k) (mkP c r u li ow v k) v
theorem clm_none {c r : Nat} {u : Int64} {ow : Nat → Int32} {v : Int32} : clm c r u none ow v = ow := rfl
theorem mkP_2 (c r : Nat) (u : Int64) (li : Nat) (ow : Nat → Int32) (v : Int32) : mkP c r u li ow v 2 = mkO c r u li ow v := by
  unfold mkO fbM gbM
  rw [mkP, mkP, mkP]
  cases e0 : bes c r li 0 with
  | none => rfl
  | some b => rfl
theorem cpo_y {c r b : Nat} {u : Int64} (h : opn c r u b = 0) : cpo c r u (some b) = true := decide_eq_true h
theorem cpo_n {c r b : Nat} {u : Int64} (h : opn c r u b ≠ 0) : cpo c r u (some b) = false := decide_eq_false h
/-- taking owners back -/
def bkP (c r li : Nat) (ow : Nat → Int32) : Nat → Nat → Int32
  | 0 => ow
  | k + 1 => match bes c r li k with
    | none => bkP c r li ow k
    | some b => upd (bkP c r li ow k) b (-1)
