/-! a move's effect on owners, gains and the player -/
def bN (b : Bool) : Nat := if b then 1 else 0
def clm (c r : Nat) (w : Int64) (o : Option Nat) (ow : Nat → Int32) (v : Int32) : Nat → Int32 := if cpo c r w o then upd ow (o.getD 0) v else ow
def mkO (c r : Nat) (u : Int64) (li : Nat) (ow : Nat → Int32) (v : Int32) : Nat → Int32 := clm c r u (gbM c r li) (clm c r u (fbM c r li) ow v) v
def nxp (g pl : Nat) : Nat := if g = 0 then 1 - pl else pl
def rel (c r : Nat) (w : Int64) (li : Nat) : Nat := bN (cpo c r w (fbM c r li)) + bN (cpo c r w (gbM c r li))
def sco (ow : Nat → Int32) (p n : Nat) : Nat := fb_ct (fun b => decide (ow b = nI p)) n
theorem cpo_some {c r : Nat} {w : Int64} {o : Option Nat} (h : cpo c r w o = true) : ∃ b, o = some b := by
  cases o with
  | none => cases h
  | some b => exact ⟨b, rfl⟩
theorem bN_two {c r : Nat} {w : Int64} {l : Nat} (f : Nat → Nat) (g : Option Nat → Nat) (h0 : g none = 0) (h : ∀ b, (bes c r l 0 = some b ∨ bes c r l 1 = some b) → g (some b) = f b) : g (fbM c r l) + g (gbM c r l) = (match bes c r l 0 with | none => 0 | some b => f b) + (match bes c r l 1 with | none => 0 | some b => f b) := by
  unfold fbM gbM
  cases e0 : bes c r l 0 with
  | none =>
    cases e1 : bes c r l 1 with
    | none => simp [h0]
    | some b => simp [h0, h b (Or.inr e1)]
  | some a =>
    cases e1 : bes c r l 1 with
    | none => simp [h0, h a (Or.inl e0)]
    | some b => simp [h a (Or.inl e0), h b (Or.inr e1)]
theorem gai_cpo {c r l : Nat} {w : Int64} (hC : Cr c r) (hl : l < al c r) (hw : tb w l = false) : bN (cpo c r (w ||| b1 l) (fbM c r l)) + bN (cpo c r (w ||| b1 l) (gbM c r l)) = gai c r w l := by
  rw [gai_sum]
  refine bN_two (w := w) (fun b => if decide (opn c r w b = 1) = true then 1 else 0) (fun o => bN (cpo c r (w ||| b1 l) o)) rfl ?_
  intro b hb
  have hbb : b < c * r := hb.elim (fun h => bes_lt hC hl h) (fun h => bes_lt hC hl h)
  have hi := (isd_bes hC hbb hl).mpr hb
  have d := opn_draw hC hbb hl w
  rw [hi, hw] at d
  simp only [Bool.not_false, Bool.and_true, if_true] at d
  show bN (decide (opn c r (w ||| b1 l) b = 0)) = _
  unfold bN
  congr 1
  rw [eq_iff_iff, decide_eq_true_eq, decide_eq_true_eq]
  omega
theorem clm_t {c r : Nat} {w : Int64} {o : Option Nat} {b : Nat} {ow : Nat → Int32} {v : Int32} (h : cpo c r w o = true) (ho : o = some b) : upd ow b v = clm c r w o ow v := by
  unfold clm
  rw [if_pos h, ho]
  rfl
theorem clm_f {c r : Nat} {w : Int64} {o : Option Nat} {ow : Nat → Int32} {v : Int32} (h : cpo c r w o = false) : ow = clm c r w o ow v := by
  unfold clm
  rw [h]
  rfl
