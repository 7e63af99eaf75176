/-! what a call answers: 0 or which throw; and its value -/
def kD1 (b : Bool) : Nat := if b then 0 else 1
def kD2 (a b : Bool) : Nat := if a then (if b then 0 else 2) else 1
theorem kD1_le (b : Bool) : kD1 b ≤ 1 := by cases b <;> decide
theorem kD2_le (a b : Bool) : kD2 a b ≤ 2 := by cases a <;> cases b <;> decide
theorem kD1_t {b : Bool} (h : b = true) : kD1 b = 0 := by rw [h]; rfl
theorem kD1_f {b : Bool} (h : b = false) : kD1 b = 1 := by rw [h]; rfl
theorem kD2_0 {a b : Bool} (h : a = true) (h2 : b = true) : kD2 a b = 0 := by rw [h, h2]; rfl
theorem kD2_1 {a b : Bool} (h : a = false) : kD2 a b = 1 := by rw [h]; rfl
theorem kD2_2 {a b : Bool} (h : a = true) (h2 : b = false) : kD2 a b = 2 := by rw [h, h2]; rfl
theorem kD1_is {b : Bool} (h : kD1 b = 0) : b = true := by cases b; exact absurd h (by decide); rfl
theorem kD2_is {a b : Bool} (h : kD2 a b = 0) : a = true ∧ b = true := by
  cases a
  · cases b <;> exact absurd h (by decide)
  · cases b
    · exact absurd h (by decide)
    · exact ⟨rfl, rfl⟩
def RvP (kd : Nat) (th rv v : Int32) : Prop := th = nI kd ∧ (kd = 0 → rv = v)
theorem RvP.ok {kd : Nat} {v : Int32} (h : kd = 0) : RvP kd (nI 0) v v := ⟨by rw [h], fun _ => rfl⟩
theorem RvP.no {kd k : Nat} {rv v : Int32} (h : kd = k) (hk : k ≠ 0) : RvP kd (nI k) rv v := ⟨by rw [h], fun q => absurd (h.symm.trans q) hk⟩
theorem kd_no {kd k : Nat} (h : kd = k) (hk : k ≠ 0) : ¬ kd = 0 := fun q => hk (h.symm.trans q)
theorem wi_lo {x : Int32} {lo hi : Nat} (h1 : lo < 2 ^ 31) (h3 : hi < 2 ^ 31) (h : wi x (nI lo) (nI hi) = true) : ∃ k, lo ≤ k ∧ k ≤ hi ∧ x = nI k := by
  have h0 : wi x (nI 0) (nI hi) = true := by
    unfold wi at h ⊢
    rw [Bool.and_eq_true, decide_eq_true_eq, decide_eq_true_eq] at h ⊢
    exact ⟨Int32.le_trans ((nI_leI (by decide) h1).mpr (Nat.zero_le _)) h.1, h.2⟩
  obtain ⟨k, hk, rfl⟩ := wi_of h3 h0
  unfold wi at h
  rw [Bool.and_eq_true, decide_eq_true_eq, decide_eq_true_eq] at h
  exact ⟨k, (nI_leI h1 (by omega)).mp h.1, hk, rfl⟩
/-! an owner's place; what is free is nobody's -/
theorem clm_at {c r : Nat} {u : Int64} {o : Option Nat} {ow : Nat → Int32} {v : Int32} {b : Nat} : clm c r u o ow v b = if o = some b ∧ opn c r u b = 0 then v else ow b := by
  unfold clm
  cases o with
  | none => rw [if_neg (by intro h; cases h), if_neg (by intro h; cases h.1)]
  | some a =>
    by_cases ha : opn c r u a = 0
    · rw [if_pos (cpo_y ha)]
      by_cases e : b = a
      · subst e
        rw [if_pos ⟨rfl, ha⟩]
        exact pk_us
      · rw [if_neg (fun q => e (Option.some.inj q.1).symm)]
        exact pk_un e
    · rw [cpo_n ha, if_neg (by decide)]
      by_cases e : b = a
      · subst e
        rw [if_neg (fun q => ha q.2)]
      · rw [if_neg (fun q => e (Option.some.inj q.1).symm)]
theorem mkO_at {c r : Nat} {u : Int64} {li : Nat} {ow : Nat → Int32} {v : Int32} {b : Nat} : mkO c r u li ow v b = if (bes c r li 0 = some b ∨ bes c r li 1 = some b) ∧ opn c r u b = 0 then v else ow b := by
  rw [← mkP_2]
  unfold mkP mkP mkP
  rw [clm_at, clm_at]
  by_cases h : opn c r u b = 0
  · by_cases h0 : bes c r li 0 = some b
    · by_cases h1 : bes c r li 1 = some b
      · rw [if_pos ⟨h1, h⟩, if_pos ⟨Or.inl h0, h⟩]
      · rw [if_neg (fun q => h1 q.1), if_pos ⟨h0, h⟩, if_pos ⟨Or.inl h0, h⟩]
    · by_cases h1 : bes c r li 1 = some b
      · rw [if_pos ⟨h1, h⟩, if_pos ⟨Or.inr h1, h⟩]
      · rw [if_neg (fun q => h1 q.1), if_neg (fun q => h0 q.1), if_neg (fun q => q.1.elim h0 h1)]
  · rw [if_neg (fun q => h q.2), if_neg (fun q => h q.2), if_neg (fun q => h q.2)]
theorem bkP_n {c r li k : Nat} {ow : Nat → Int32} (h : bes c r li k = none) : bkP c r li ow (k + 1) = bkP c r li ow k := by rw [bkP, h]
theorem bkP_s {c r li k b : Nat} {ow : Nat → Int32} (h : bes c r li k = some b) : bkP c r li ow (k + 1) = upd (bkP c r li ow k) b (-1) := by rw [bkP, h]
theorem bkP_at {c r li b : Nat} {ow : Nat → Int32} : bkP c r li ow 2 b = if bes c r li 0 = some b ∨ bes c r li 1 = some b then -1 else ow b := by
  have one : ∀ k : Nat, bkP c r li ow (k + 1) b = if bes c r li k = some b then -1 else bkP c r li ow k b := by
    intro k
    cases e : bes c r li k with
    | none => rw [bkP_n e, if_neg (by intro h; cases h)]
    | some a =>
      rw [bkP_s e]
      by_cases q : b = a
      · subst q
        rw [if_pos rfl]
        exact pk_us
      · rw [if_neg (fun z => q (Option.some.inj z).symm)]
        exact pk_un q
  rw [one, one, bkP]
  by_cases h0 : bes c r li 0 = some b
  · rw [if_pos h0, if_pos (Or.inl h0)]
    split <;> rfl
  · rw [if_neg h0]
    by_cases h1 : bes c r li 1 = some b
    · rw [if_pos h1, if_pos (Or.inr h1)]
    · rw [if_neg h1, if_neg (fun q => q.elim h0 h1)]
theorem wS_sub {ms : Nat → Nat} {c r n : Nat} (hC : Cr c r) (h : HiOK c r ms (n + 1)) : ∀ j, tb (wS ms n) j = true → tb (wS ms (n + 1)) j = true := by
  intro j hj
  rw [wS, tb_or, hj]
  rfl
theorem oH_free {c r : Nat} {ms : Nat → Nat} (hC : Cr c r) : ∀ {n : Nat}, HiOK c r ms n → ∀ b, opn c r (wS ms n) b ≠ 0 → oH c r ms n b = -1
  | 0, _, b, _ => rfl
  | n + 1, h, b, hb => by
    rw [oH, mkO_at, if_neg (fun q => hb q.2)]
    exact oH_free hC (fun k hk => h k (by omega)) b (by have := opn_mono (c := c) (r := r) (b := b) (wS_sub hC h); omega)
theorem bes_open {c r li b : Nat} {w : Int64} (hC : Cr c r) (hl : li < al c r) (ht : tb w li = false) (h : bes c r li 0 = some b ∨ bes c r li 1 = some b) : opn c r w b ≠ 0 := by
  have hb : b < c * r := h.elim (fun q => bes_lt hC hl q) (fun q => bes_lt hC hl q)
  have := opn_pos hC hb ((isd_bes hC hb hl).mpr h) ht
  omega
theorem nxp_2 {g p : Nat} (h : p ≤ 1) : nxp g (nxp g p) = p := by
  unfold nxp
  split <;> omega
theorem w_back {c r li : Nat} {w : Int64} (hC : Cr c r) (hl : li < al c r) (ht : tb w li = false) : (w ||| b1 li) &&& (b1 li ^^^ (-1 : Int64)) = w := by
  have h64 := lt_al hC hl
  refine tb_ext (fun k hk => ?_)
  rw [tb_and, tb_or, tb_not hk, tb_b1 h64]
  by_cases e : k = li
  · subst e
    rw [ht]
    simp
  · simp [e]
theorem PsR.hund {c r n pl : Nat} {ms : Nat → Nat} {w : Int64} {mv ow : Nat → Int32} (hC : Cr c r) (h : PsR c r ms n w pl mv ow) : und c r w + n = al c r := by
  rw [h.2.1]
  exact hi_und hC h.1
theorem PsR.onb {c r n pl : Nat} {ms : Nat → Nat} {w : Int64} {mv ow : Nat → Int32} (hC : Cr c r) (h : PsR c r ms n w pl mv ow) : Onb c r w := by
  rw [h.2.1]
  exact hi_onb hC h.1
theorem PsR.pl1 {c r n pl : Nat} {ms : Nat → Nat} {w : Int64} {mv ow : Nat → Int32} (h : PsR c r ms n w pl mv ow) : pl ≤ 1 := by
  rw [h.2.2.1]
  exact qS_le c r ms n
theorem PsR.n40 {c r n pl : Nat} {ms : Nat → Nat} {w : Int64} {mv ow : Nat → Int32} (hC : Cr c r) (h : PsR c r ms n w pl mv ow) : n ≤ 40 := by
  have h1 := h.hund hC
  have h2 := hC.q
  omega
theorem PsR.lt {c r n pl li : Nat} {ms : Nat → Nat} {w : Int64} {mv ow : Nat → Int32} (hC : Cr c r) (h : PsR c r ms n w pl mv ow) (hl : li < al c r) (ht : tb w li = false) : n < 40 := by
  have h1 := h.hund hC
  have h2 := hC.q
  have h3 := und_pos hl ht
  omega
theorem PsR.zero {c r : Nat} {ms : Nat → Nat} {mv ow : Nat → Int32} (h : ∀ b, b < 16 → ow b = -1) : PsR c r ms 0 0 0 mv ow :=
  ⟨fun k hk => absurd hk (Nat.not_lt_zero _), rfl, rfl, fun k hk => absurd hk (Nat.not_lt_zero _), h⟩
/-- taking the last move back -/
theorem PsR.last {c r n pl : Nat} {ms : Nat → Nat} {w : Int64} {mv ow : Nat → Int32} (h : PsR c r ms n w pl mv ow) (hn : 0 < n) : ms (n - 1) < al c r ∧ tb (wS ms (n - 1)) (ms (n - 1)) = false ∧ mv (n - 1) = nI (ms (n - 1)) ∧ w = wS ms (n - 1) ||| b1 (ms (n - 1)) := by
  obtain ⟨h1, h2, -, h4, -⟩ := h
  refine ⟨(h1 _ (by omega)).1, (h1 _ (by omega)).2, h4 _ (by omega), ?_⟩
  rw [h2]
  obtain ⟨k, rfl⟩ : ∃ k, n = k + 1 := ⟨n - 1, by omega⟩
  rfl
theorem PsR.back {c r n pl : Nat} {ms : Nat → Nat} {w : Int64} {mv ow o2 : Nat → Int32} (hC : Cr c r) (h : PsR c r ms n w pl mv ow) (hn : 0 < n)
    (ho : ∀ b, b < 16 → o2 b = if (bes c r (ms (n - 1)) 0 = some b ∨ bes c r (ms (n - 1)) 1 = some b) ∧ opn c r w b = 0 then -1 else if (bes c r (ms (n - 1)) 0 = some b ∨ bes c r (ms (n - 1)) 1 = some b) then -1 else ow b) :
    PsR c r ms (n - 1) (w &&& (b1 (ms (n - 1)) ^^^ (-1 : Int64))) (qS c r ms (n - 1)) mv o2 := by
  obtain ⟨l1, l2, l3, l4⟩ := h.last hn
  obtain ⟨h1, h2, h3, h4, h5⟩ := h
  obtain ⟨k, rfl⟩ : ∃ k, n = k + 1 := ⟨n - 1, by omega⟩
  rw [show k + 1 - 1 = k by omega] at *
  refine ⟨fun j hj => h1 j (by omega), ?_, rfl, fun j hj => h4 j (by omega), fun b hb => ?_⟩
  · rw [l4]
    exact w_back hC l1 l2
  · rw [ho b hb]
    by_cases hbs : bes c r (ms k) 0 = some b ∨ bes c r (ms k) 1 = some b
    · rw [oH_free hC (fun j hj => h1 j (by omega)) b (bes_open hC l1 l2 hbs)]
      split
      · rfl
      · rfl
    · rw [if_neg (fun q => hbs q.1), if_neg hbs, h5 b hb, oH, mkO_at, if_neg (fun q => hbs q.1)]
theorem PsR.backC {c r n pl : Nat} {ms : Nat → Nat} {w : Int64} {mv ow : Nat → Int32} (hC : Cr c r) (h : PsR c r ms n w pl mv ow) (hn : 0 < n) :
    PsR c r ms (n - 1) (w &&& (b1 (ms (n - 1)) ^^^ (-1 : Int64))) (nxp (rel c r w (ms (n - 1))) pl) mv (mkO c r w (ms (n - 1)) ow (-1)) := by
  obtain ⟨l1, l2, l3, l4⟩ := h.last hn
  have e : nxp (rel c r w (ms (n - 1))) pl = qS c r ms (n - 1) := by
    have h3 := h.2.2.1
    obtain ⟨k, rfl⟩ : ∃ k, n = k + 1 := ⟨n - 1, by omega⟩
    rw [show k + 1 - 1 = k by omega] at *
    rw [h3, qS, l4]
    unfold rel
    rw [gai_cpo hC l1 l2]
    exact nxp_2 (qS_le c r ms k)
  rw [e]
  refine h.back hC hn (fun b hb => ?_)
  rw [mkO_at]
  by_cases hc : (bes c r (ms (n - 1)) 0 = some b ∨ bes c r (ms (n - 1)) 1 = some b) ∧ opn c r w b = 0
  · rw [if_pos hc, if_pos hc]
  · rw [if_neg hc, if_neg hc]
    by_cases hbs : bes c r (ms (n - 1)) 0 = some b ∨ bes c r (ms (n - 1)) 1 = some b
    · rw [if_pos hbs, h.2.2.2.2 b hb]
      exact oH_free hC h.1 b (by rw [← h.2.1]; exact fun z => hc ⟨hbs, z⟩)
    · rw [if_neg hbs]
theorem PsR.backM {c r n pl : Nat} {ms : Nat → Nat} {w : Int64} {mv ow : Nat → Int32} (hC : Cr c r) (h : PsR c r ms n w pl mv ow) (hn : 0 < n) :
    PsR c r ms (n - 1) (w &&& (b1 (ms (n - 1)) ^^^ (-1 : Int64))) (qS c r ms (n - 1)) mv (bkP c r (ms (n - 1)) ow 2) := by
  refine h.back hC hn (fun b hb => ?_)
  rw [bkP_at]
  by_cases hbs : bes c r (ms (n - 1)) 0 = some b ∨ bes c r (ms (n - 1)) 1 = some b
  · rw [if_pos hbs]
    split <;> rfl
  · rw [if_neg hbs, if_neg (fun q => hbs q.1)]
/-- the same, with the movers, as the model keeps it -/
def MoR (c r : Nat) (ms : Nat → Nat) (n : Nat) (w : Int64) (pl : Nat) (ml mr ow : Nat → Int32) : Prop := PsR c r ms n w pl ml ow ∧ ∀ k, k < n → mr k = nI (qS c r ms k)
theorem MoR.zero {c r : Nat} {ms : Nat → Nat} {ml mr ow : Nat → Int32} (h : ∀ b, b < 16 → ow b = -1) : MoR c r ms 0 0 0 ml mr ow := ⟨PsR.zero h, fun k hk => absurd hk (Nat.not_lt_zero _)⟩
theorem MoR.make {c r n pl li : Nat} {ms : Nat → Nat} {w : Int64} {ml mr ow : Nat → Int32} (h : MoR c r ms n w pl ml mr ow) (hl : li < al c r) (ht : tb w li = false) : MoR c r (uM ms n li) (n + 1) (w ||| b1 li) (nxp (gai c r w li) pl) (upd ml n (nI li)) (upd mr n (nI pl)) (mkO c r (w ||| b1 li) li ow (nI pl)) := by
  refine ⟨h.1.make hl ht, lt_s (fun k hk => ?_) ?_⟩
  · rw [pk_un (by omega), qS_cong (mt := ms) (fun j hj => uM_lt (by omega))]
    exact h.2 k hk
  · rw [pk_us, qS_u, h.1.2.2.1]
theorem MoR.back {c r n pl : Nat} {ms : Nat → Nat} {w : Int64} {ml mr ow : Nat → Int32} (hC : Cr c r) (h : MoR c r ms n w pl ml mr ow) (hn : 0 < n) :
    MoR c r ms (n - 1) (w &&& (b1 (ms (n - 1)) ^^^ (-1 : Int64))) (qS c r ms (n - 1)) ml mr (bkP c r (ms (n - 1)) ow 2) := ⟨h.1.backM hC hn, fun k hk => h.2 k (by omega)⟩
/-! scores -/
def NoF (c r : Nat) (w : Int64) (ow : Nat → Int32) : Prop := ∀ b, b < c * r → opn c r w b ≠ 0 → ow b = -1
theorem PsR.noF {c r n pl : Nat} {ms : Nat → Nat} {w : Int64} {mv ow : Nat → Int32} (hC : Cr c r) (h : PsR c r ms n w pl mv ow) : NoF c r w ow := by
  intro b hb ho
  have := hC.q
  rw [h.2.2.2.2 b (by omega)]
  exact oH_free hC h.1 b (by rw [← h.2.1]; exact ho)
theorem PsR.hsco {c r n pl : Nat} {ms : Nat → Nat} {w : Int64} {mv ow : Nat → Int32} (hC : Cr c r) (h : PsR c r ms n w pl mv ow) (p : Nat) : sco ow p (c * r) = sco (oH c r ms n) p (c * r) := by
  have := hC.q
  unfold sco
  exact fb_ct_cong (fun b hb => by rw [h.2.2.2.2 b (by omega)])
theorem NoF.make {c r li : Nat} {w : Int64} {ow : Nat → Int32} {v : Int32} (hC : Cr c r) (h : NoF c r w ow) : NoF c r (w ||| b1 li) (mkO c r (w ||| b1 li) li ow v) := by
  intro b hb ho
  rw [mkO_at, if_neg (fun q => ho q.2)]
  refine h b hb ?_
  have := opn_mono (c := c) (r := r) (b := b) (w := w) (u := w ||| b1 li) (fun j hj => by rw [tb_or, hj]; rfl)
  omega
theorem new_iff {c r li b : Nat} {w : Int64} (hC : Cr c r) (hl : li < al c r) (ht : tb w li = false) (hb : b < c * r) : ((bes c r li 0 = some b ∨ bes c r li 1 = some b) ∧ opn c r (w ||| b1 li) b = 0) ↔ (isd c r b li && decide (opn c r w b = 1)) = true := by
  rw [Bool.and_eq_true, decide_eq_true_eq, isd_bes hC hb hl]
  constructor
  · intro ⟨h1, h2⟩
    refine ⟨h1, ?_⟩
    have d := opn_draw hC hb hl w
    rw [(isd_bes hC hb hl).mpr h1, ht] at d
    simp at d
    omega
  · intro ⟨h1, h2⟩
    refine ⟨h1, ?_⟩
    have d := opn_draw hC hb hl w
    rw [(isd_bes hC hb hl).mpr h1, ht] at d
    simp at d
    omega
theorem sco_make {c r li pl p : Nat} {w : Int64} {ow : Nat → Int32} (hC : Cr c r) (hl : li < al c r) (ht : tb w li = false) (h : NoF c r w ow) (hp : p ≤ 1) (hpl : pl ≤ 1) : sco (mkO c r (w ||| b1 li) li ow (nI pl)) p (c * r) = sco ow p (c * r) + if p = pl then gai c r w li else 0 := by
  rw [gai_ct hC hl]
  have key : ∀ n, n ≤ c * r → fb_ct (fun b => decide (mkO c r (w ||| b1 li) li ow (nI pl) b = nI p)) n = fb_ct (fun b => decide (ow b = nI p)) n + if p = pl then fb_ct (fun b => isd c r b li && decide (opn c r w b = 1)) n else 0 := by
    intro n
    induction n with
    | zero => intro _; show 0 = 0 + _; split <;> rfl
    | succ n ih =>
      intro hn
      have ih := ih (by omega)
      rw [fb_ct_succ, fb_ct_succ, fb_ct_succ, ih, mkO_at]
      by_cases q : (bes c r li 0 = some n ∨ bes c r li 1 = some n) ∧ opn c r (w ||| b1 li) n = 0
      · have q2 := (new_iff hC hl ht (by omega)).mp q
        have hne : opn c r w n ≠ 0 := bes_open hC hl ht q.1
        rw [if_pos q, q2, h n (by omega) hne]
        have e1 : (-1 : Int32) ≠ nI p := fun z => nI_nm1 (by omega) z.symm
        by_cases e : p = pl
        · subst e
          simp [e1]
          omega
        · have e2 : nI pl ≠ nI p := fun z => e ((nI_eq (by omega) (by omega)).mp z).symm
          simp [e1, e2, e]
      · have q2 : (isd c r n li && decide (opn c r w n = 1)) = false := Bool.eq_false_iff.mpr (fun z => q ((new_iff hC hl ht (by omega)).mpr z))
        rw [if_neg q, q2]
        simp
        split <;> omega
  exact key _ (Nat.le_refl _)
/-- the difference of the scores -/
def dfO (c r : Nat) (ow : Nat → Int32) : Int := (sco ow 0 (c * r) : Int) - (sco ow 1 (c * r) : Int)
def dst (p g : Nat) : Int := if p = 0 then (g : Int) else -(g : Int)
theorem dfO_make {c r li pl : Nat} {w : Int64} {ow : Nat → Int32} (hC : Cr c r) (hl : li < al c r) (ht : tb w li = false) (h : NoF c r w ow) (hpl : pl ≤ 1) : dfO c r (mkO c r (w ||| b1 li) li ow (nI pl)) = dfO c r ow + dst pl (gai c r w li) := by
  unfold dfO dst
  rw [sco_make hC hl ht h (by omega) hpl, sco_make hC hl ht h (by omega) hpl]
  by_cases e : pl = 0
  · subst e
    rw [if_pos rfl, if_neg (by omega), if_pos rfl]
    omega
  · rw [if_neg (by omega), if_pos (by omega), if_neg e]
    omega
/-! a style's choice -/
theorem chB_none {c r : Nat} {w : Int64} : ∀ {n : Nat}, chB c r w n = none → ∀ l, l < n → tb w l = true
  | 0, _, l, h => absurd h (Nat.not_lt_zero _)
  | n + 1, h, l, hl => by
    rw [chB] at h
    cases ht : tb w n with
    | true =>
      rw [ht, if_pos rfl] at h
      rcases Nat.lt_or_ge l n with q | q
      · exact chB_none h l q
      · rw [show l = n by omega]; exact ht
    | false =>
      rw [ht, if_neg (by decide)] at h
      cases e : chB c r w n with
      | none => rw [e] at h; cases h
      | some b => rw [e] at h; dsimp only at h; split at h <;> cases h
theorem fstk_is {c r K l : Nat} {w : Int64} (h : fstk c r w K = some l) (hK : K ≠ 0) : l < al c r ∧ tb w l = false := by
  have q := fst1_is h
  exact ⟨q.1, knd_1 (by rw [kp_t q.2.1]; exact hK)⟩
theorem grM_ex {c r : Nat} {w : Int64} (hu : und c r w ≠ 0) : ∃ l, grM c r w = some l ∧ l < al c r ∧ tb w l = false := by
  cases h1 : fstk c r w 1 with
  | some l => exact ⟨l, grM_1 h1, fstk_is h1 (by decide)⟩
  | none =>
    cases h2 : fstk c r w 2 with
    | some l => exact ⟨l, grM_2 h1 h2, fstk_is h2 (by decide)⟩
    | none =>
      rw [grM_3 h1 h2]
      cases h3 : chM c r w with
      | some l => exact ⟨l, rfl, chB_lt h3⟩
      | none =>
        obtain ⟨l, hl, ht⟩ := und_ex hu
        rw [chB_none h3 l hl] at ht
        cases ht
theorem kpM_ex {c r : Nat} {w : Int64} (hu : und c r w ≠ 0) : ∃ l, kpM c r w = some l ∧ l < al c r ∧ tb w l = false := by
  unfold kpM
  split
  · cases h : keM c r w with
    | none => exact grM_ex hu
    | some l =>
      refine ⟨l, rfl, ?_⟩
      unfold keM at h
      split at h
      · cases h
      · have q := fst1_is h
        have q2 := q.2.1
        rw [Bool.and_eq_true, decide_eq_true_eq] at q2
        exact ⟨q.1, knd_1 (c := c) (r := r) (by omega)⟩
  · exact grM_ex hu
theorem blM_ex {c r : Nat} {w : Int64} (hC : Cr c r) (hu : und c r w ≠ 0) : ∃ l, blM c r w = some l ∧ l < al c r ∧ tb w l = false := by
  cases h : blM c r w with
  | some l =>
    have q := fst1_is h
    have q2 := q.2.1
    rw [Bool.and_eq_true] at q2
    exact ⟨l, rfl, q.1, by simpa using q2.1⟩
  | none =>
    exfalso
    have hno := fst1_no h
    have e := out_eq hC hu
    obtain ⟨l0, hl0, ht0⟩ := und_ex hu
    rcases mxZ_at (p := fun l => !tb w l) (g := wor c r w) (n := al c r) with q | ⟨k, hk, hp, hq⟩
    · have h1 := mxZ_ge (p := fun l => !tb w l) (g := wor c r w) hl0 (by rw [ht0]; rfl)
      have h2 := wor_b (l := l0) hC w
      omega
    · have h3 := hno k hk
      rw [hp, Bool.true_and, decide_eq_false_iff_not] at h3
      exact h3 (by rw [e, hq])
theorem cho_ex {c r st : Nat} {w : Int64} (hC : Cr c r) (hu : und c r w ≠ 0) : ∃ l, choM c r st w = some l ∧ l < al c r ∧ tb w l = false := by
  unfold choM
  split
  · exact grM_ex hu
  · split
    · exact kpM_ex hu
    · exact blM_ex hC hu
theorem und_0 {c r : Nat} {w : Int64} (h : und c r w = 0) : ∀ l, l < al c r → tb w l = true := by
  intro l hl
  cases q : tb w l with
  | true => rfl
  | false => have := und_pos hl q; omega
theorem chB_0 {c r : Nat} {w : Int64} : ∀ {n : Nat}, (∀ l, l < n → tb w l = true) → chB c r w n = none
  | 0, _ => rfl
  | n + 1, h => by
    rw [chB_d (h n (by omega))]
    exact chB_0 (fun l hl => h l (by omega))
theorem fstk_0 {c r K : Nat} {w : Int64} (h : und c r w = 0) (hK : K ≠ 0) : fstk c r w K = none := by
  refine fst1_none (fun l hl => decide_eq_false ?_)
  unfold knd
  rw [if_pos (und_0 h l hl)]
  exact fun q => hK q.symm
theorem grM_0 {c r : Nat} {w : Int64} (h : und c r w = 0) : grM c r w = none := by
  rw [grM_3 (fstk_0 h (by decide)) (fstk_0 h (by decide))]
  exact chB_0 (und_0 h)
theorem cho_none {c r st : Nat} {w : Int64} (h : und c r w = 0) : choM c r st w = none := by
  unfold choM
  split
  · exact grM_0 h
  · split
    · rw [kp_c (Or.inl (fstk_0 h (by decide)))]
      exact grM_0 h
    · exact fst1_none (fun l hl => by rw [und_0 h l hl]; rfl)
/-- the moves behind some more by a style -/
def flM (c r st : Nat) (ms : Nat → Nat) (n : Nat) : Nat → Nat → Nat
  | 0 => ms
  | j + 1 => match choM c r st (wS (flM c r st ms n j) (n + j)) with
    | none => flM c r st ms n j
    | some l => uM (flM c r st ms n j) (n + j) l
theorem flM_s {c r st n j l : Nat} {ms : Nat → Nat} (h : choM c r st (wS (flM c r st ms n j) (n + j)) = some l) : flM c r st ms n (j + 1) = uM (flM c r st ms n j) (n + j) l := by rw [flM, h]
/-! a text's lines, one by one -/
def ldM (c r : Nat) (bu : Nat → Int32) (ms : Nat → Nat) (n : Nat) : Nat → Nat → Nat
  | 0 => ms
  | j + 1 => uM (ldM c r bu ms n j) (n + j) (tlN c r bu (4 * j))
def ldG (c r : Nat) (bu : Nat → Int32) (w : Int64) : Nat → Nat
  | 0 => 0
  | j + 1 => ldG c r bu w j + gai c r (txS c r bu w j) (tlN c r bu (4 * j))
theorem tx_xy {c r len i : Nat} {bu : Nat → Int32} (hC : Cr c r) (h : TxOK c r bu len) (hi : i < len) (h4 : i % 4 = 0) : ∃ a b, bu (i + 1) - nI 48 = nI a ∧ bu (i + 2) - nI 48 = nI b ∧ tlN c r bu i = numM c r (vAt bu i) a b := by
  have hl : i + 2 < len := by have := h.1; omega
  have q := h.2 (i + 2) hl
  rw [okAt_2 (by omega), show i + 2 - 2 = i by omega, show i + 2 - 1 = i + 1 by omega] at q
  obtain ⟨a, b, e1, e2, ha, hb⟩ := exM_is hC q
  have hq := hC.q
  refine ⟨a, b, e1, e2, ?_⟩
  unfold tlN
  rw [e1, e2, nI_clamp (by split at ha <;> omega), nI_clamp (by split at hb <;> omega)]
theorem canT_at {c r n k : Nat} {bu : Nat → Int32} {w : Int64} (h : canT c r bu w n = true) (hk : k < n) : tb (txS c r bu w k) (tlN c r bu (4 * k)) = false := by
  have := andb_iff.mp h k hk
  simpa using this
/-! what the reading calls answer -/
theorem vN_is {x : Int32} {n : Nat} (hn : n < 2 ^ 31) (h : wi x (nI 0) (nI n - nI 1) = true) : ∃ k, k < n ∧ x = nI k := by
  cases n with
  | zero =>
    unfold wi at h
    rw [Bool.and_eq_true, decide_eq_true_eq, decide_eq_true_eq] at h
    have h3 := Int32.le_trans h.1 h.2
    exact absurd h3 (by decide)
  | succ m =>
    rw [pk_sub (by omega), show m + 1 - 1 = m by omega] at h
    obtain ⟨k, hk, e⟩ := wi_of (by omega) h
    exact ⟨k, by omega, e⟩
theorem vN_nI {n k : Nat} (hk : k < n) (hn : n < 2 ^ 31) : wi (nI k) (nI 0) (nI n - nI 1) = true := by
  rw [pk_sub (by omega), wi_n (by omega) (by omega)]
  exact decide_eq_true (by omega)
theorem vN_no {n : Nat} {x : Int32} (hn : n < 2 ^ 31) (h : x < 0 ∨ nI n ≤ x) : wi x (nI 0) (nI n - nI 1) = false := by
  refine Bool.eq_false_iff.mpr (fun q => ?_)
  obtain ⟨k, hk, rfl⟩ := vN_is hn q
  rcases h with h | h
  · exact nI_pos (by omega) h
  · have := (nI_leI hn (by omega)).mp h
    omega
noncomputable def cntV (c r n pl : Nat) (w : Int64) (a : Nat) : Nat := match a with
  | 0 => c
  | 1 => r
  | 2 => al c r
  | 3 => n
  | 4 => cmpl c r w
  | 5 => pl
  | 6 => fb_ct (kp c r w 1) (al c r)
  | 7 => fb_ct (kp c r w 2) (al c r)
  | 8 => fb_ct (kp c r w 3) (al c r)
  | 9 => run c r w
  | _ => nst c r w
theorem cntV_10 {c r n pl a : Nat} {w : Int64} (h : a ≠ 0 ∧ a ≠ 1 ∧ a ≠ 2 ∧ a ≠ 3 ∧ a ≠ 4 ∧ a ≠ 5 ∧ a ≠ 6 ∧ a ≠ 7 ∧ a ≠ 8 ∧ a ≠ 9) : cntV c r n pl w a = nst c r w := by
  obtain ⟨k, rfl⟩ : ∃ k, a = k + 10 := ⟨a - 10, by omega⟩
  rfl
def smF (c r : Nat) : Nat → Int64 → Nat
  | 0, _ => 0
  | f + 1, w => match fstk c r w 2 with
    | none => 0
    | some l => 1 + smF c r f (w ||| b1 l)
def smv (c r : Nat) (w : Int64) : Nat := smF c r 41 w
theorem sm_none {c r f : Nat} {w : Int64} (h : fstk c r w 2 = none) : smF c r f w = 0 := by
  cases f with
  | zero => rfl
  | succ f => rw [smF, h]
theorem sm_some {c r f l : Nat} {w : Int64} (hf : 0 < f) (h : fstk c r w 2 = some l) : smF c r f w = 1 + smF c r (f - 1) (w ||| b1 l) := by
  obtain ⟨k, rfl⟩ : ∃ k, f = k + 1 := ⟨f - 1, by omega⟩
  rw [smF, h]
  rfl
