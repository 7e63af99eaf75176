/-! the board laid out, box by box; the symmetries' images, place by place -/
def fl (k : Nat) (o : Option Nat) : Int32 := match o with
  | some b => if b < k then nI b else -1
  | none => -1
theorem fl_some {k b : Nat} : fl k (some b) = if b < k then nI b else -1 := rfl
theorem fl_s {k : Nat} {o : Option Nat} : fl (k + 1) o = if o = some k then nI k else fl k o := by
  cases o with
  | none => rw [if_neg (by intro h; cases h)]; rfl
  | some b =>
    rw [fl_some, fl_some]
    by_cases e : b = k
    · subst e
      rw [if_pos rfl, if_pos (by omega)]
    · rw [if_neg (fun h => e (Option.some.inj h))]
      by_cases h : b < k
      · rw [if_pos h, if_pos (by omega)]
      · rw [if_neg h, if_neg (by omega)]
theorem fl_0 (o : Option Nat) : fl 0 o = -1 := by
  cases o with
  | none => rfl
  | some b => rw [fl_some, if_neg (Nat.not_lt_zero _)]
theorem fl_end {k : Nat} {o : Option Nat} (h : ∀ b, o = some b → b < k) : fl k o = oI o := by
  cases o with
  | none => rfl
  | some b => rw [fl_some, if_pos (h b rfl)]; rfl
def isdj (c r b j l : Nat) : Bool := orb (fun i => decide (l = sid c r b i)) j
def BdJ (c r k j : Nat) (f g : Nat → Int32) : Prop := ∀ l, l < al c r → f l = fl (if isdj c r k j l then k + 1 else k) (fbM c r l) ∧ g l = fl (if isdj c r k j l then k + 1 else k) (gbM c r l)
theorem bes_ord {c r l a b : Nat} (hC : Cr c r) (hl : l < al c r) (h0 : bes c r l 0 = some a) (h1 : bes c r l 1 = some b) : a < b := by
  have h := brl2 (fun c r l => match bes c r l 0, bes c r l 1 with | some a, some b => decide (a < b) | _, _ => true) (by decide +kernel) hC hl
  rw [h0, h1] at h
  exact of_decide_eq_true h
theorem isdj_4 {c r b l : Nat} : isdj c r b 4 l = isd c r b l := by
  unfold isdj isd
  simp [orb]
theorem isdj_no {c r b j : Nat} (hC : Cr c r) (hb : b < c * r) (hj : j < 4) : isdj c r b j (sid c r b j) = false := by
  obtain ⟨n01, n02, n03, n12, n13, n23⟩ := sid_ne hC hb
  refine Bool.eq_false_iff.mpr (fun q => ?_)
  obtain ⟨i, hi, e⟩ := orb_iff.mp q
  have e := of_decide_eq_true e
  rcases (show j = 0 ∨ j = 1 ∨ j = 2 ∨ j = 3 by omega) with rfl | rfl | rfl | rfl
  · omega
  · rw [show i = 0 by omega] at e; exact n01 e.symm
  · rcases (show i = 0 ∨ i = 1 by omega) with rfl | rfl
    · exact n02 e.symm
    · exact n12 e.symm
  · rcases (show i = 0 ∨ i = 1 ∨ i = 2 by omega) with rfl | rfl | rfl
    · exact n03 e.symm
    · exact n13 e.symm
    · exact n23 e.symm
theorem isd_sdj {c r b j : Nat} (hj : j < 4) : isd c r b (sid c r b j) = true := by
  unfold isd
  rcases (show j = 0 ∨ j = 1 ∨ j = 2 ∨ j = 3 by omega) with rfl | rfl | rfl | rfl <;> simp
def AdP (f g f2 g2 : Nat → Int32) (li b : Nat) : Prop := (f li = -1 ∧ f2 = upd f li (nI b) ∧ g2 = g) ∨ (¬ f li = -1 ∧ f2 = f ∧ g2 = upd g li (nI b))
theorem BdJ.step {c r k j : Nat} {f g f2 g2 : Nat → Int32} (hC : Cr c r) (hk : k < c * r) (hj : j < 4) (h : BdJ c r k j f g) (hp : AdP f g f2 g2 (sid c r k j) k) : BdJ c r k (j + 1) f2 g2 := by
  have hq := hC.q
  have hs : sid c r k j < al c r := sid_lt hC hk hj
  intro l hl
  by_cases e : l = sid c r k j
  · have e1 : isdj c r k (j + 1) l = true := by
      unfold isdj
      rw [orb, decide_eq_true e, Bool.or_true]
    have e0 : isdj c r k j l = false := by rw [e]; exact isdj_no hC hk hj
    obtain ⟨h1, h2⟩ := h l hl
    rw [e0, if_neg (by decide)] at h1 h2
    rw [e1, if_pos rfl, fl_s, fl_s]
    have hb := (isd_bes hC hk hl).mp (by rw [e]; exact isd_sdj hj)
    cases b0 : bes c r l 0 with
    | none =>
      have b1 : bes c r l 1 = some k := by
        rcases hb with hb | hb
        · rw [b0] at hb; cases hb
        · exact hb
      have ef : fbM c r l = some k := by unfold fbM; rw [b0, b1]
      have eg : gbM c r l = none := by unfold gbM; rw [b0]
      rw [ef] at h1 ⊢
      rw [eg] at h2 ⊢
      have hm : f l = -1 := by rw [h1]; rw [fl_some, if_neg (by omega)]
      rcases hp with ⟨q1, q2, q3⟩ | ⟨q1, q2, q3⟩
      · rw [q2, q3, ← e, pk_us, if_pos rfl, if_neg (by intro z; cases z)]
        exact ⟨rfl, h2⟩
      · exact absurd (by rw [← e]; exact hm) q1
    | some a =>
      have ef : fbM c r l = some a := by unfold fbM; rw [b0]
      have eg : gbM c r l = bes c r l 1 := by unfold gbM; rw [b0]
      rw [ef] at h1 ⊢
      rw [eg] at h2 ⊢
      by_cases ea : a = k
      · subst ea
        have hm : f l = -1 := by rw [h1]; rw [fl_some, if_neg (by omega)]
        have hn : ¬ bes c r l 1 = some a := fun z => bes_ne hC hl ⟨b0, z⟩
        rcases hp with ⟨q1, q2, q3⟩ | ⟨q1, q2, q3⟩
        · rw [q2, q3, ← e, pk_us, if_pos rfl, if_neg hn]
          exact ⟨rfl, h2⟩
        · exact absurd (by rw [← e]; exact hm) q1
      · have hb1 : bes c r l 1 = some k := by
          rcases hb with hb | hb
          · rw [b0] at hb; exact absurd (Option.some.inj hb) ea
          · exact hb
        have hlt := bes_ord hC hl b0 hb1
        have hal : a < c * r := bes_lt hC hl b0
        have hm : ¬ f l = -1 := by rw [h1]; rw [fl_some, if_pos hlt]; exact nI_nm1 (by omega)
        rcases hp with ⟨q1, q2, q3⟩ | ⟨q1, q2, q3⟩
        · exact absurd (by rw [e]; exact q1) hm
        · rw [q2, q3, ← e, pk_us, if_neg (fun z => ea (Option.some.inj z)), if_pos hb1]
          exact ⟨h1, rfl⟩
  · have e1 : isdj c r k (j + 1) l = isdj c r k j l := by
      unfold isdj
      rw [orb, decide_eq_false e, Bool.or_false]
    rw [e1]
    obtain ⟨h1, h2⟩ := h l hl
    rcases hp with ⟨q1, q2, q3⟩ | ⟨q1, q2, q3⟩
    · rw [q2, q3, pk_un e]; exact ⟨h1, h2⟩
    · rw [q2, q3, pk_un e]; exact ⟨h1, h2⟩
theorem BdJ.next {c r k : Nat} {f g : Nat → Int32} (hC : Cr c r) (hk : k < c * r) (h : BdJ c r k 4 f g) : BdJ c r (k + 1) 0 f g := by
  intro l hl
  obtain ⟨h1, h2⟩ := h l hl
  rw [isdj_4] at h1 h2
  rw [show isdj c r (k + 1) 0 l = false from rfl, if_neg (by decide)]
  cases e : isd c r k l with
  | true => rw [e, if_pos rfl] at h1 h2; exact ⟨h1, h2⟩
  | false =>
    rw [e, if_neg (by decide)] at h1 h2
    have hb : ¬ (bes c r l 0 = some k ∨ bes c r l 1 = some k) := fun z => by rw [(isd_bes hC hk hl).mpr z] at e; cases e
    have ef : ¬ fbM c r l = some k := by
      unfold fbM
      cases b0 : bes c r l 0 with
      | none => exact fun z => hb (Or.inr z)
      | some a => exact fun z => hb (Or.inl (by rw [b0]; exact z))
    have eg : ¬ gbM c r l = some k := by
      unfold gbM
      cases b0 : bes c r l 0 with
      | none => intro z; cases z
      | some a => exact fun z => hb (Or.inr z)
    rw [fl_s, fl_s, if_neg ef, if_neg eg]
    exact ⟨h1, h2⟩
def sdp (c r k : Nat) : Nat → Int64
  | 0 => 0
  | j + 1 => sdp c r k j ||| b1 (sid c r k j)
def SdJ (c r k j : Nat) (s0 s : Nat → Int64) : Prop := (∀ b, b ≠ k → s b = s0 b) ∧ s k = sdp c r k j
theorem SdJ.z {c r k : Nat} {s0 : Nat → Int64} : SdJ c r k 0 s0 (vp_updL s0 k 0) := ⟨fun b hb => by rw [pk_uLn hb], by rw [pk_uLs]; rfl⟩
theorem SdJ.step {c r k j : Nat} {s0 s s2 : Nat → Int64} (h : SdJ c r k j s0 s) (e : s2 = vp_updL s k (s k ||| b1 (sid c r k j))) : SdJ c r k (j + 1) s0 s2 := by
  subst e
  exact ⟨fun b hb => by rw [pk_uLn hb]; exact h.1 b hb, by rw [pk_uLs, h.2]; rfl⟩
theorem or_z (x : Int64) : 0 ||| x = x := by
  refine tb_ext (fun k _ => ?_)
  rw [tb_or, tb_0, Bool.false_or]
theorem sdp_4 {c r k : Nat} : sdp c r k 4 = sdM c r k := by
  rw [sdp, sdp, sdp, sdp, sdp, or_z]
  rfl
def BdP (c r k : Nat) (sd : Nat → Int64) (f g : Nat → Int32) : Prop := (∀ b, b < k → sd b = sdM c r b) ∧ BdJ c r k 0 f g
theorem BdP.z {c r : Nat} {sd : Nat → Int64} {f g : Nat → Int32} (hC : Cr c r) (h : ∀ k, k < 40 → f k = -1 ∧ g k = -1) : BdP c r 0 sd f g := by
  have hq := hC.q
  exact ⟨fun b hb => absurd hb (Nat.not_lt_zero _), fun l hl => by rw [show isdj c r 0 0 l = false from rfl, if_neg (by decide), fl_0, fl_0]; exact h l (by omega)⟩
theorem BdP.next {c r k : Nat} {sd s4 : Nat → Int64} {f g f4 g4 : Nat → Int32} (hC : Cr c r) (hk : k < c * r) (h : BdP c r k sd f g) (hs : SdJ c r k 4 sd s4) (hj : BdJ c r k 4 f4 g4) : BdP c r (k + 1) s4 f4 g4 :=
  ⟨lt_s (fun b hb => by rw [hs.1 b (by omega)]; exact h.1 b hb) (by rw [hs.2, sdp_4]), hj.next hC hk⟩
theorem BdP.end {c r : Nat} {sd : Nat → Int64} {f g : Nat → Int32} (hC : Cr c r) (h : BdP c r (c * r) sd f g) : BdOK c r sd f g := by
  refine ⟨h.1, fun l hl => ?_, fun l hl => ?_⟩
  · rw [(h.2 l hl).1, show isdj c r (c * r) 0 l = false from rfl, if_neg (by decide)]
    exact fl_end (fun b hb => fbM_lt hC hl hb)
  · rw [(h.2 l hl).2, show isdj c r (c * r) 0 l = false from rfl, if_neg (by decide)]
    exact fl_end (fun b hb => gbM_lt hC hl hb)
theorem box_lt {c r x y : Nat} (hx : x < c) (hy : y < r) : y * c + x < c * r := by
  have h1 : (y + 1) * c ≤ r * c := Nat.mul_le_mul_right c hy
  rw [Nat.add_mul, Nat.one_mul] at h1
  rw [Nat.mul_comm c r]
  omega
theorem box_dm {c x y : Nat} (hx : x < c) : (y * c + x) / c = y ∧ (y * c + x) % c = x := by
  have hc : 0 < c := by omega
  constructor
  · rw [Nat.add_comm, Nat.add_mul_div_right x y hc, Nat.div_eq_of_lt hx, Nat.zero_add]
  · rw [Nat.add_comm, Nat.add_mul_mod_self_right, Nat.mod_eq_of_lt hx]
theorem sid_n0 {c r x y : Nat} (hx : x < c) : sid c r (y * c + x) 0 = numM c r false x y := by
  unfold sid numM
  rw [(box_dm hx).1, (box_dm hx).2, if_pos (by decide)]
  rfl
theorem sid_n1 {c r x y : Nat} (hx : x < c) : sid c r (y * c + x) 1 = numM c r false x (y + 1) := by
  unfold sid numM
  rw [(box_dm hx).1, (box_dm hx).2, if_pos (by decide)]
  rfl
theorem sid_n2 {c r x y : Nat} (hx : x < c) : sid c r (y * c + x) 2 = numM c r true x y := by
  unfold sid numM
  rw [(box_dm hx).1, (box_dm hx).2, if_neg (by decide)]
  rfl
theorem sid_n3 {c r x y : Nat} (hx : x < c) : sid c r (y * c + x) 3 = numM c r true (x + 1) y := by
  unfold sid numM
  rw [(box_dm hx).1, (box_dm hx).2, if_neg (by decide)]
  show lvl c r + y * (c + 1) + (x + 3 - 2) = lvl c r + y * (c + 1) + (x + 1)
  omega
/-! symmetries -/
def imS (c r s : Nat) (v : Bool) (x y : Nat) (im : Nat → Int32) : Nat → Int32 := if x < (if v then c + 1 else c) ∧ y < (if v then r else r + 1) then upd im (s * 40 + numM c r v x y) (nI (imL c r v x y s)) else im
def SyP (c r s y x : Nat) (im : Nat → Int32) : Prop := (∀ t, t < s → ∀ l, l < al c r → im (t * 40 + l) = nI (mapM c r l t)) ∧ ∀ l, l < al c r → (rowM c r l < y ∨ rowM c r l = y ∧ colM c r l < x) → im (s * 40 + l) = nI (mapM c r l s)
theorem imS_low {c r s x y t l : Nat} {v : Bool} {im : Nat → Int32} (hC : Cr c r) (ht : t < s) (hl : l < al c r) : imS c r s v x y im (t * 40 + l) = im (t * 40 + l) := by
  have hq := hC.q
  unfold imS
  by_cases hc : x < (if v then c + 1 else c) ∧ y < (if v then r else r + 1)
  · rw [if_pos hc, pk_un (by omega)]
  · rw [if_neg hc]
theorem imS_ne {c r s x y l : Nat} {v : Bool} {im : Nat → Int32} (hC : Cr c r) (hl : l < al c r) (h : ¬ (decide (lvl c r ≤ l) = v ∧ colM c r l = x ∧ rowM c r l = y)) : imS c r s v x y im (s * 40 + l) = im (s * 40 + l) := by
  unfold imS
  by_cases hc : x < (if v then c + 1 else c) ∧ y < (if v then r else r + 1)
  · obtain ⟨-, i2, i3, i4⟩ := numM_inv hC hc.1 hc.2
    rw [if_pos hc]
    refine pk_un (fun e => h ?_)
    have e : l = numM c r v x y := by omega
    rw [e]
    exact ⟨i2, i3, i4⟩
  · rw [if_neg hc]
theorem imS_at {c r s l : Nat} {im : Nat → Int32} (hC : Cr c r) (hl : l < al c r) : imS c r s (decide (lvl c r ≤ l)) (colM c r l) (rowM c r l) im (s * 40 + l) = nI (mapM c r l s) := by
  obtain ⟨h1, h2⟩ := col_row hC hl
  unfold imS
  rw [if_pos (by
    by_cases q : lvl c r ≤ l
    · rw [decide_eq_true q]; exact h1 q
    · rw [decide_eq_false q]; exact h2 q), numM_of hC hl, pk_us]
  rfl
theorem SyP.step {c r s y x : Nat} {im : Nat → Int32} (hC : Cr c r) (h : SyP c r s y x im) : SyP c r s y (x + 1) (imS c r s true x y (imS c r s false x y im)) := by
  refine ⟨fun t ht l hl => by rw [imS_low hC ht hl, imS_low hC ht hl]; exact h.1 t ht l hl, fun l hl hd => ?_⟩
  by_cases e : colM c r l = x ∧ rowM c r l = y
  · obtain ⟨e1, e2⟩ := e
    cases q : decide (lvl c r ≤ l) with
    | true =>
      have h9 := imS_at (s := s) (im := imS c r s false x y im) hC hl
      rw [q, e1, e2] at h9
      exact h9
    | false =>
      rw [imS_ne hC hl (fun z => by rw [q] at z; cases z.1)]
      have h9 := imS_at (s := s) (im := im) hC hl
      rw [q, e1, e2] at h9
      exact h9
  · rw [imS_ne hC hl (fun z => e z.2), imS_ne hC hl (fun z => e z.2)]
    refine h.2 l hl ?_
    rcases hd with hd | hd
    · exact Or.inl hd
    · refine Or.inr ⟨hd.1, ?_⟩
      have : ¬ colM c r l = x := fun z => e ⟨z, hd.1⟩
      omega
theorem col_le {c r l : Nat} (hC : Cr c r) (hl : l < al c r) : colM c r l < c + 1 ∧ rowM c r l < r + 1 := by
  obtain ⟨h1, h2⟩ := col_row hC hl
  by_cases q : lvl c r ≤ l
  · have := h1 q; omega
  · have := h2 q; omega
theorem SyP.row {c r s y : Nat} {im : Nat → Int32} (hC : Cr c r) (h : SyP c r s y (c + 1) im) : SyP c r s (y + 1) 0 im :=
  ⟨h.1, fun l hl hd => h.2 l hl (by have := col_le hC hl; omega)⟩
theorem SyP.sym {c r s : Nat} {im : Nat → Int32} (hC : Cr c r) (h : SyP c r s (r + 1) 0 im) : SyP c r (s + 1) 0 0 im :=
  ⟨lt_s h.1 (fun l hl => h.2 l hl (by have := col_le hC hl; omega)), fun l hl hd => by omega⟩
theorem SyP.z {c r : Nat} {im : Nat → Int32} : SyP c r 0 0 0 im := ⟨fun t ht => absurd ht (Nat.not_lt_zero _), fun l hl hd => by omega⟩
