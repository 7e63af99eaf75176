/-! kinds of lines and the sets of lines of the class; the run in whatever order -/
theorem orb_iff {p : Nat → Bool} : ∀ {n : Nat}, orb p n = true ↔ ∃ k, k < n ∧ p k = true
  | 0 => by simp [orb]
  | n + 1 => by
    rw [orb, Bool.or_eq_true, orb_iff]
    constructor
    · rintro (⟨k, h1, h2⟩ | h)
      · exact ⟨k, by omega, h2⟩
      · exact ⟨n, by omega, h⟩
    · rintro ⟨k, h1, h2⟩
      rcases Nat.lt_or_ge k n with q | q
      · exact Or.inl ⟨k, q, h2⟩
      · have : k = n := by omega
        subst this
        exact Or.inr h2
theorem orb_cong {p q : Nat → Bool} : ∀ {n : Nat}, (∀ k, k < n → p k = q k) → orb p n = orb q n
  | 0, _ => rfl
  | n + 1, h => by rw [orb, orb, orb_cong (fun k hk => h k (by omega)), h n (by omega)]
theorem andb_iff {p : Nat → Bool} : ∀ {n : Nat}, andb p n = true ↔ ∀ k, k < n → p k = true
  | 0 => by simp [andb]
  | n + 1 => by
    rw [andb, Bool.and_eq_true, andb_iff]
    constructor
    · rintro ⟨h1, h2⟩ k hk
      rcases Nat.lt_or_ge k n with q | q
      · exact h1 k q
      · have : k = n := by omega
        subst this
        exact h2
    · intro h
      exact ⟨fun k hk => h k (by omega), h n (by omega)⟩
theorem tb_oabF {c r : Nat} (hC : Cr c r) (w : Int64) (n j : Nat) : ∀ i, i ≤ c * r → tb (oabF c r w n i) j = (orb (fun b => decide (opn c r w b = n) && isd c r b j) i && !tb w j)
  | 0, _ => by rw [oabF, tb_0]; rfl
  | i + 1, h => by
    have ih := tb_oabF hC w n j i (by omega)
    rw [oabF, orb]
    by_cases q : opn c r w i = n
    · rw [if_pos q, tb_or, ih, tb_iOA hC (by omega), decide_eq_true q, Bool.true_and]
      cases tb w j <;> simp
    · rw [if_neg q, ih, decide_eq_false q, Bool.false_and, Bool.or_false]
theorem orb_two (p : Nat → Bool) : orb p 2 = (p 0 || p 1) := by simp [orb]
theorem oab_iff {c r l : Nat} (hC : Cr c r) (hl : l < al c r) (w : Int64) (n : Nat) : tb (oab c r w n) l = (!tb w l && orb (bq n c r w l) 2) := by
  unfold oab
  rw [tb_oabF hC w n l _ (Nat.le_refl _), Bool.and_comm]
  congr 1
  rw [Bool.eq_iff_iff, orb_iff, orb_two, Bool.or_eq_true]
  constructor
  · rintro ⟨b, hb, h⟩
    rw [Bool.and_eq_true, decide_eq_true_eq] at h
    rcases (isd_bes hC hb hl).mp h.2 with e | e
    · left; rw [bq_some e]; exact decide_eq_true h.1
    · right; rw [bq_some e]; exact decide_eq_true h.1
  · have key : ∀ k, bq n c r w l k = true → (k = 0 ∨ k = 1) → ∃ b, b < c * r ∧ (decide (opn c r w b = n) && isd c r b l) = true := by
      intro k h hk
      cases e : bes c r l k with
      | none => rw [bq_none e] at h; cases h
      | some b =>
        rw [bq_some e] at h
        have hb := bes_lt hC hl e
        refine ⟨b, hb, ?_⟩
        rw [h, Bool.true_and]
        apply (isd_bes hC hb hl).mpr
        rcases hk with rfl | rfl
        · exact Or.inl e
        · exact Or.inr e
    rintro (h | h)
    · exact key 0 h (Or.inl rfl)
    · exact key 1 h (Or.inr rfl)
theorem gai_pos {c r : Nat} {w : Int64} {l : Nat} : 0 < gai c r w l ↔ orb (bq 1 c r w l) 2 = true := by
  unfold gai
  rw [fb_ct_pos, orb_iff]
theorem tb_oab_big {c r l : Nat} (hC : Cr c r) (hl : ¬ l < al c r) (w : Int64) (n : Nat) : tb (oab c r w n) l = false := by
  unfold oab
  rw [tb_oabF hC w n l _ (Nat.le_refl _)]
  cases q : orb (fun b => decide (opn c r w b = n) && isd c r b l) (c * r) with
  | false => rfl
  | true =>
    obtain ⟨b, hb, h⟩ := orb_iff.mp q
    rw [Bool.and_eq_true] at h
    exact absurd (isd_al hC hb h.2) hl
theorem tb_tkl {c r : Nat} (hC : Cr c r) (w : Int64) (l : Nat) : tb (tkl c r w) l = (decide (l < al c r) && kp c r w 1 l) := by
  unfold tkl
  by_cases hl : l < al c r
  · rw [oab_iff hC hl, decide_eq_true hl, Bool.true_and]
    unfold kp knd
    cases tb w l
    · cases q : orb (bq 1 c r w l) 2
      · have : ¬ 0 < gai c r w l := fun z => by rw [gai_pos, q] at z; cases z
        simp only [Bool.false_eq_true, if_false, if_neg this, Bool.not_false, Bool.true_and]
        split <;> decide
      · have : 0 < gai c r w l := gai_pos.mpr q
        simp [this]
    · simp
  · rw [tb_oab_big hC hl, decide_eq_false hl, Bool.false_and]
theorem tb_gvl {c r : Nat} (hC : Cr c r) (w : Int64) (l : Nat) : tb (gvl c r w) l = (decide (l < al c r) && kp c r w 3 l) := by
  unfold gvl
  by_cases hl : l < al c r
  · have h64 := lt_al hC hl
    rw [tb_and, tb_not h64, oab_iff hC hl, oab_iff hC hl, decide_eq_true hl, Bool.true_and]
    unfold kp knd lvo
    cases tb w l
    · cases q : orb (bq 1 c r w l) 2
      · have : ¬ 0 < gai c r w l := fun z => by rw [gai_pos, q] at z; cases z
        simp only [Bool.false_eq_true, if_false, if_neg this, Bool.not_false, Bool.true_and, Bool.and_true]
        cases orb (bq 2 c r w l) 2 <;> rfl
      · have : 0 < gai c r w l := gai_pos.mpr q
        simp [this]
    · simp
  · rw [tb_and, tb_oab_big hC hl, decide_eq_false hl, Bool.false_and, Bool.false_and]
theorem tb_sfl {c r : Nat} (hC : Cr c r) (w : Int64) (l : Nat) : tb (sfl c r w) l = (decide (l < al c r) && kp c r w 2 l) := by
  unfold sfl
  rw [tb_and, tb_opl hC]
  by_cases hl : l < al c r
  · have h64 := lt_al hC hl
    rw [tb_not h64, tb_or, oab_iff hC hl, oab_iff hC hl, decide_eq_true hl, Bool.true_and]
    unfold kp knd lvo
    cases tb w l
    · cases q : orb (bq 1 c r w l) 2
      · have : ¬ 0 < gai c r w l := fun z => by rw [gai_pos, q] at z; cases z
        simp only [Bool.false_eq_true, if_false, if_neg this, Bool.not_false, Bool.true_and, Bool.false_or]
        cases orb (bq 2 c r w l) 2 <;> rfl
      · have : 0 < gai c r w l := gai_pos.mpr q
        simp [this]
    · simp
  · rw [decide_eq_false hl, Bool.false_and, Bool.false_and, Bool.false_and]
/-- how many members a set of lines has -/
theorem pop_of {c r : Nat} (hC : Cr c r) {u : Int64} {p : Nat → Bool} (h : ∀ j, tb u j = (decide (j < al c r) && p j)) : pop u = fb_ct p (al c r) := by
  have h40 := hC.q
  unfold pop
  rw [show 64 = al c r + (64 - al c r) by omega, fb_ct_split]
  have a : fb_ct (tb u) (al c r) = fb_ct p (al c r) := fb_ct_cong (fun k hk => by rw [h k, decide_eq_true hk, Bool.true_and])
  have b : fb_ct (fun k => tb u (al c r + k)) (64 - al c r) = 0 := fb_ct_zero.mpr (fun k _ => by
    show tb u (al c r + k) = false
    rw [h, decide_eq_false (by omega), Bool.false_and])
  rw [a, b]
  rfl
theorem fst_of {c r : Nat} (hC : Cr c r) {u : Int64} {p : Nat → Bool} (h : ∀ j, tb u j = (decide (j < al c r) && p j)) : fst1 (tb u) 64 = fst1 p (al c r) := by
  have h40 := hC.q
  cases e : fst1 p (al c r) with
  | none =>
    refine fst1_none (fun j _ => ?_)
    rw [h j]
    by_cases q : j < al c r
    · rw [fst1_no e j q, Bool.and_false]
    · rw [decide_eq_false q, Bool.false_and]
  | some i =>
    obtain ⟨h1, h2, h3⟩ := fst1_is e
    refine fst1_some (fun j hj => ?_) ?_ (by omega)
    · rw [h j, h3 j hj, Bool.and_false]
    · rw [h i, h2, decide_eq_true h1, Bool.true_and]
/-! drawing a line -/
theorem opn_draw {c r b l : Nat} (hC : Cr c r) (hb : b < c * r) (hl : l < al c r) (w : Int64) : opn c r (w ||| b1 l) b + (if isd c r b l && !tb w l then 1 else 0) = opn c r w b := by
  have h64 := lt_al hC hl
  obtain ⟨d1, d2, d3, d4, d5, d6⟩ := sid_ne hC hb
  rw [opn_four, opn_four]
  simp only [tb_or, tb_b1 h64]
  unfold isd
  by_cases e0 : l = sid c r b 0
  · subst e0
    have f1 : ¬ sid c r b 1 = sid c r b 0 := fun q => d1 q.symm
    have f2 : ¬ sid c r b 2 = sid c r b 0 := fun q => d2 q.symm
    have f3 : ¬ sid c r b 3 = sid c r b 0 := fun q => d3 q.symm
    simp only [f1, f2, f3, decide_true, decide_false, Bool.or_true, Bool.or_false, Bool.true_or, Bool.true_and, Bool.not_true, Bool.false_eq_true, if_false]
    omega
  · by_cases e1 : l = sid c r b 1
    · subst e1
      have f2 : ¬ sid c r b 2 = sid c r b 1 := fun q => d4 q.symm
      have f3 : ¬ sid c r b 3 = sid c r b 1 := fun q => d5 q.symm
      simp only [d1, f2, f3, e0, decide_true, decide_false, Bool.or_true, Bool.or_false, Bool.true_or, Bool.true_and, Bool.not_true, Bool.false_eq_true, if_false]
      omega
    · by_cases e2 : l = sid c r b 2
      · subst e2
        have f3 : ¬ sid c r b 3 = sid c r b 2 := fun q => d6 q.symm
        simp only [d2, d4, f3, e0, e1, decide_true, decide_false, Bool.or_true, Bool.or_false, Bool.true_or, Bool.true_and, Bool.not_true, Bool.false_eq_true, if_false]
        omega
      · by_cases e3 : l = sid c r b 3
        · subst e3
          simp only [d3, d5, d6, e0, e1, e2, decide_true, decide_false, Bool.or_true, Bool.or_false, Bool.true_or, Bool.true_and, Bool.not_true, Bool.false_eq_true, if_false]
          omega
        · have g0 : ¬ sid c r b 0 = l := fun q => e0 q.symm
          have g1 : ¬ sid c r b 1 = l := fun q => e1 q.symm
          have g2 : ¬ sid c r b 2 = l := fun q => e2 q.symm
          have g3 : ¬ sid c r b 3 = l := fun q => e3 q.symm
          simp only [g0, g1, g2, g3, e0, e1, e2, e3, decide_false, Bool.or_false, Bool.false_and, Bool.false_eq_true, if_false, Nat.add_zero]
theorem opn_pos {c r b l : Nat} (hC : Cr c r) (hb : b < c * r) {w : Int64} (h : isd c r b l = true) (hw : tb w l = false) : 0 < opn c r w b := by
  have hl := isd_al hC hb h
  have := opn_draw hC hb hl w
  rw [h, hw] at this
  simp at this
  omega
theorem opn_mono {c r b : Nat} {w u : Int64} (h : ∀ j, tb w j = true → tb u j = true) : opn c r u b ≤ opn c r w b := by
  unfold opn
  refine fb_ct_sub (fun k _ q => ?_)
  cases e : tb w (sid c r b k) with
  | false => rfl
  | true => rw [h _ e] at q; cases q
theorem ct_two (q : Nat → Bool) {s t n : Nat} (h0 : s < n) (h1 : t < n) (d : s ≠ t) : fb_ct (fun j => (decide (j = s) || decide (j = t)) && q j) n = (if q s then 1 else 0) + (if q t then 1 else 0) := by
  have e : (fun j => (decide (j = s) || decide (j = t)) && q j) = (fun j => (decide (j = s) && q j) || (decide (j = t) && q j)) := by
    funext j
    cases q j <;> simp
  rw [e, fb_ct_or, ct_one q h0, ct_one q h1]
  intro k _ ⟨a, b⟩
  simp only [Bool.and_eq_true, decide_eq_true_eq] at a b
  exact d (a.1.symm.trans b.1)
/-- a count over the boxes that a line is a side of -/
theorem ct_bes {c r l : Nat} (hC : Cr c r) (hl : l < al c r) (q : Nat → Bool) : fb_ct (fun b => isd c r b l && q b) (c * r) = (match bes c r l 0 with | none => 0 | some b => if q b then 1 else 0) + (match bes c r l 1 with | none => 0 | some b => if q b then 1 else 0) := by
  have e : ∀ b, b < c * r → (isd c r b l && q b) = ((decide (bes c r l 0 = some b) || decide (bes c r l 1 = some b)) && q b) := by
    intro b hb
    congr 1
    rw [Bool.eq_iff_iff, isd_bes hC hb hl, Bool.or_eq_true, decide_eq_true_eq, decide_eq_true_eq]
  rw [fb_ct_cong e]
  cases e0 : bes c r l 0 with
  | none =>
    cases e1 : bes c r l 1 with
    | none => simp only [reduceCtorEq, decide_false, Bool.or_false, Bool.false_and, Nat.add_zero]; exact fb_ct_zero.mpr (fun _ _ => rfl)
    | some b1 =>
      simp only [reduceCtorEq, decide_false, Bool.false_or, Option.some.injEq, Nat.zero_add]
      rw [fb_ct_cong (q := fun j => decide (j = b1) && q j) (fun k _ => by congr 1; exact decide_eq_decide.mpr ⟨fun z => z.symm, fun z => z.symm⟩)]
      exact ct_one q (bes_lt hC hl e1)
  | some b0 =>
    cases e1 : bes c r l 1 with
    | none =>
      simp only [reduceCtorEq, decide_false, Bool.or_false, Option.some.injEq, Nat.add_zero]
      rw [fb_ct_cong (q := fun j => decide (j = b0) && q j) (fun k _ => by congr 1; exact decide_eq_decide.mpr ⟨fun z => z.symm, fun z => z.symm⟩)]
      exact ct_one q (bes_lt hC hl e0)
    | some b1 =>
      simp only [Option.some.injEq]
      rw [fb_ct_cong (q := fun j => (decide (j = b0) || decide (j = b1)) && q j) (fun k _ => by congr 2 <;> exact decide_eq_decide.mpr ⟨fun z => z.symm, fun z => z.symm⟩)]
      exact ct_two q (bes_lt hC hl e0) (bes_lt hC hl e1) (fun z => bes_ne hC hl ⟨e0, by rw [e1, z]⟩)
theorem gai_sum (c r : Nat) (w : Int64) (l : Nat) : gai c r w l = (match bes c r l 0 with | none => 0 | some b => if decide (opn c r w b = 1) then 1 else 0) + (match bes c r l 1 with | none => 0 | some b => if decide (opn c r w b = 1) then 1 else 0) := by
  unfold gai
  simp only [fb_ct, Nat.zero_add]
  congr 1
  · unfold bq
    cases bes c r l 0 <;> simp
  · unfold bq
    cases bes c r l 1 <;> simp
theorem gai_ct {c r l : Nat} (hC : Cr c r) (hl : l < al c r) (w : Int64) : gai c r w l = fb_ct (fun b => isd c r b l && decide (opn c r w b = 1)) (c * r) := by
  rw [ct_bes hC hl, gai_sum]
theorem cmpl_draw {c r l : Nat} (hC : Cr c r) (hl : l < al c r) {w : Int64} (hw : tb w l = false) : cmpl c r (w ||| b1 l) = cmpl c r w + gai c r w l := by
  unfold cmpl
  rw [gai_ct hC hl, ← fb_ct_or]
  · refine fb_ct_cong (fun b hb => ?_)
    have := opn_draw hC hb hl w
    rw [hw, Bool.not_false, Bool.and_true] at this
    by_cases q : isd c r b l = true
    · have p := opn_pos hC hb q hw
      rw [q] at this ⊢
      rw [Bool.true_and, Bool.eq_iff_iff, Bool.or_eq_true, decide_eq_true_eq, decide_eq_true_eq, decide_eq_true_eq]
      simp only [if_true] at this
      omega
    · have q' : isd c r b l = false := by simpa using q
      rw [q'] at this ⊢
      simp only [Bool.false_eq_true, if_false, Nat.add_zero] at this
      rw [this, Bool.false_and, Bool.or_false]
  · intro b _ ⟨x, y⟩
    rw [decide_eq_true_eq] at x
    rw [Bool.and_eq_true, decide_eq_true_eq] at y
    omega
/-! positions that are reached by taking -/
def Rch (c r : Nat) (w u : Int64) : Prop := ∀ P : Int64 → Prop, P w → (∀ v l, P v → l < al c r → knd c r v l = 1 → P (v ||| b1 l)) → P u
def Stb (c r : Nat) (u : Int64) : Prop := ∀ l, l < al c r → knd c r u l ≠ 1
theorem Rch.rf {c r : Nat} {w : Int64} : Rch c r w w := fun _ h _ => h
theorem Rch.st {c r l : Nat} {w u : Int64} (h : Rch c r w u) (hl : l < al c r) (hk : knd c r u l = 1) : Rch c r w (u ||| b1 l) := fun P h0 hs => hs u l (h P h0 hs) hl hk
theorem knd_is1 {c r l : Nat} {w : Int64} : knd c r w l = 1 ↔ tb w l = false ∧ 0 < gai c r w l := by
  unfold knd
  cases tb w l
  · simp only [Bool.false_eq_true, if_false, true_and]
    by_cases q : 0 < gai c r w l
    · simp [q]
    · rw [if_neg q]
      cases lvo c r w l <;> simp [q]
  · simp
theorem tk_stays {c r l : Nat} {v u : Int64} (hC : Cr c r) (hl : l < al c r) (h : knd c r v l = 1) (hs : ∀ j, tb v j = true → tb u j = true) (hu : tb u l = false) : knd c r u l = 1 := by
  obtain ⟨h1, h2⟩ := knd_is1.mp h
  refine knd_is1.mpr ⟨hu, ?_⟩
  rw [gai_ct hC hl, fb_ct_pos] at h2 ⊢
  obtain ⟨b, hb, q⟩ := h2
  rw [Bool.and_eq_true, decide_eq_true_eq] at q
  refine ⟨b, hb, ?_⟩
  have p := opn_pos hC hb q.1 hu
  have m := opn_mono (c := c) (r := r) (b := b) hs
  rw [q.1, Bool.true_and, decide_eq_true_eq]
  omega
theorem Rch.sub {c r : Nat} {w u : Int64} (hC : Cr c r) (h : Rch c r w u) : ∀ j, tb w j = true → tb u j = true :=
  h (fun v => ∀ j, tb w j = true → tb v j = true) (fun _ q => q) (fun v l hv _ _ j q => by rw [tb_or, hv j q]; rfl)
theorem Rch.in {c r : Nat} {w u z : Int64} (hC : Cr c r) (h : Rch c r w u) (hz : ∀ j, tb w j = true → tb z j = true) (hst : Stb c r z) : ∀ j, tb u j = true → tb z j = true :=
  h (fun v => ∀ j, tb v j = true → tb z j = true) hz (fun v l hv hl hk j q => by
    rw [tb_or, Bool.or_eq_true] at q
    rcases q with q | q
    · exact hv j q
    · rw [tb_b1 (lt_al hC hl), decide_eq_true_eq] at q
      subst q
      cases e : tb z j with
      | true => rfl
      | false => exact absurd (tk_stays hC hl hk hv e) (hst j hl))
theorem Rch.one {c r : Nat} {w u z : Int64} (hC : Cr c r) (h : Rch c r w u) (hz : Rch c r w z) (hu : Stb c r u) (hs : Stb c r z) : u = z := by
  apply tb_ext
  intro j _
  rw [Bool.eq_iff_iff]
  exact ⟨h.in hC (hz.sub hC) hs j, hz.in hC (h.sub hC) hu j⟩
theorem rn_end {c r : Nat} (hC : Cr c r) : ∀ (f : Nat) (w : Int64), und c r w < f → ∃ u, Rch c r w u ∧ Stb c r u ∧ cmpl c r u = cmpl c r w + rnF c r f w
  | 0, w, h => absurd h (Nat.not_lt_zero _)
  | f + 1, w, h => by
    cases e : fstk c r w 1 with
    | none =>
      refine ⟨w, Rch.rf, fun l hl hk => ?_, by rw [rn_none e]; rfl⟩
      have := kp_f (fst1_no e l hl)
      exact this hk
    | some l =>
      obtain ⟨h1, h2, h3⟩ := fst1_is e
      have hk := kp_t h2
      have ht := (knd_is1.mp hk).1
      have hd := und_step hC h1 ht
      obtain ⟨u, u1, u2, u3⟩ := rn_end hC f (w ||| b1 l) (by omega)
      refine ⟨u, fun P h0 hs => u1 P (hs w l h0 h1 hk) hs, u2, ?_⟩
      rw [u3, cmpl_draw hC h1 ht, rn_some (by omega) e]
      show _ = cmpl c r w + (gai c r w l + rnF c r f (w ||| b1 l))
      omega
theorem run_end {c r : Nat} {w u : Int64} (hC : Cr c r) (h : Rch c r w u) (hs : Stb c r u) : cmpl c r u = cmpl c r w + run c r w := by
  obtain ⟨z, z1, z2, z3⟩ := rn_end hC 41 w (by have := und_le c r w; have := hC.q; omega)
  rw [h.one hC z1 hs z2]
  exact z3
theorem cmpl_le (c r : Nat) (w : Int64) : cmpl c r w ≤ c * r := fb_ct_le _ _
theorem run_le {c r : Nat} (hC : Cr c r) (w : Int64) : run c r w ≤ c * r := by
  obtain ⟨z, z1, z2, z3⟩ := rn_end hC 41 w (by have := und_le c r w; have := hC.q; omega)
  have := cmpl_le c r z
  unfold run
  omega
/-- stable: no box has just one open side -/
theorem Stb_of {c r : Nat} (hC : Cr c r) {u : Int64} (h : ∀ b, b < c * r → opn c r u b ≠ 1) : Stb c r u := by
  intro l hl hk
  have q := (knd_is1.mp hk).2
  rw [gai_ct hC hl, fb_ct_pos] at q
  obtain ⟨b, hb, z⟩ := q
  rw [Bool.and_eq_true, decide_eq_true_eq] at z
  exact h b hb z.2
/-- the one open side of a box -/
theorem one_open {c r b : Nat} (hC : Cr c r) (hb : b < c * r) {u : Int64} (h : opn c r u b = 1) : ∃ l, l < al c r ∧ iOA c r u b = b1 l ∧ knd c r u l = 1 ∧ isd c r b l = true := by
  have hp : 0 < pop (iOA c r u b) := by rw [pop_iOA hC hb]; omega
  unfold pop at hp
  obtain ⟨l, h64, hl⟩ := fb_ct_pos.mp hp
  have hl2 := hl
  rw [tb_iOA hC hb, Bool.and_eq_true] at hl2
  have hal := isd_al hC hb hl2.1
  have hu : tb u l = false := by simpa using hl2.2
  refine ⟨l, hal, ?_, knd_is1.mpr ⟨hu, ?_⟩, hl2.1⟩
  · apply tb_ext
    intro j hj
    rw [tb_b1 h64]
    by_cases e : j = l
    · subst e; simp [hl]
    · rw [decide_eq_false e]
      cases q : tb (iOA c r u b) j with
      | false => rfl
      | true =>
        have hc : pop (iOA c r u b) = 1 := by rw [pop_iOA hC hb]; exact h
        unfold pop at hc
        have a1 := fb_ct_le (tb (iOA c r u b)) 64
        have k1 : fb_ct (tb (iOA c r u b)) j = fb_ct (tb (iOA c r u b)) l := by
          have m1 := fb_ct_mono (tb (iOA c r u b)) (m := j + 1) (n := 64) (by omega)
          have m2 := fb_ct_mono (tb (iOA c r u b)) (m := l + 1) (n := 64) (by omega)
          rw [fb_ct_succ, q] at m1
          rw [fb_ct_succ, hl] at m2
          simp only [if_true] at m1 m2
          omega
        exact absurd (fb_ct_kth_one q hl k1) e
  · rw [gai_ct hC hal, fb_ct_pos]
    exact ⟨b, hb, by rw [hl2.1, h]; rfl⟩
theorem all_done {c r : Nat} {u : Int64} (h : c * r ≤ cmpl c r u) : ∀ b, b < c * r → opn c r u b ≠ 1 := by
  have e : cmpl c r u = c * r := Nat.le_antisymm (cmpl_le c r u) h
  unfold cmpl at e
  intro b hb q
  have := fb_ct_all.mp e b hb
  rw [decide_eq_true_eq] at this
  omega
/-- some line would complete two boxes at once -/
def hdt (c r : Nat) (w : Int64) : Bool := orb (fun l => !tb w l && decide (gai c r w l = 2)) (al c r)
