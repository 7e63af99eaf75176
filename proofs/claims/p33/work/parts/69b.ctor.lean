/-! constructors: they write a known world and lay new cells behind it -/
def CtP (D : va_G) (Y : vY) (Wd : va_W) (sz : Nat) : State → Prop := fun U => U.heap.size = sz ∧ va_P D vwCl Wd U.heap ∧ KK D Y U ∧ va_D (fun _ => True) Wd
def CtQ {S : Type} (D : va_G) (Wd : va_W) (sz : Nat) (W1 nw : S → va_W) (post : S → Prop) : Array Value → State → Outcome → State → Prop := fun _ st o t => (∃ u : S, o = .returned none ∧ post u ∧ va_P D vwCl (W1 u ++ nw u) t.heap ∧ va_D (va_A Wd sz) (W1 u ++ nw u)) ∧ va_F (va_A Wd sz) st t
def Ct {S : Type} (l : Launch) (y : MethodName) (ws : List Cond) (rm : Room) (av : List Value) (D : va_G) (Y : vY) (Wd : va_W) (sz : Nat) (W1 nw : S → va_W) (post : S → Prop) (mc ms : Nat) : Prop := Met l y ws rm (va_Pc av (CtP D Y Wd sz)) (CtQ D Wd sz W1 nw post) mc ms (va_A Wd sz)
theorem CtP_blind {av : List Value} {D : va_G} {Y : vY} {Wd : va_W} {sz : Nat} : FrameBlind (va_Pc av (CtP D Y Wd sz)) := fun a U g mk q => ⟨q.1, q.2.1, q.2.2.1, KK.same (s := U) (U := U.calling g mk a) rfl q.2.2.2.1, q.2.2.2.2⟩
theorem new_ge {Wd W1 nw : va_W} {sz : Nat} (hD : va_D (va_A Wd sz) (W1 ++ nw)) (hf : W1.map Prod.fst = Wd.map Prod.fst) : ∀ (j : Nat) (q : Nat × va_E), nw[j]? = some q → sz ≤ q.1 := by
  intro j q hq
  have h1 : (W1 ++ nw)[W1.length + j]? = some q := by rw [List.getElem?_append_right (by omega), show W1.length + j - W1.length = j by omega]; exact hq
  rcases hD.2 _ q h1 with ⟨k, e, hk⟩ | h
  · have h2 : (W1.map Prod.fst)[k]? = some q.1 := by rw [hf, List.getElem?_map, hk]; rfl
    rw [List.getElem?_map] at h2
    cases h3 : W1[k]? with
    | none => rw [h3] at h2; cases h2
    | some x =>
      rw [h3] at h2
      have hk1 : k < W1.length := (List.getElem?_eq_some_iff.mp h3).1
      have h4 : (W1 ++ nw)[k]? = some x := by rw [List.getElem?_append_left hk1]; exact h3
      have h5 := hD.1 k (W1.length + j) x q h4 h1 (Option.some.inj h2)
      omega
  · exact h
section CTOR
variable {p : Program} {l : Launch} {e : Env} {R : Room} {s : State} {m : MethodId} {args : Array Value} {below : List Frame} {meth : Method} {c : Code} {H : Heap} {locs : List Loc} {cells slots : Nat} {Q : State → Prop}
variable {cc : ByteArray} {pc : Nat} {ls : Array Slot} {rest st0 : List Value} {D : va_G} {Y : vY} {Wd ws : va_W} {A H0A : Nat → Prop} {H0 : Heap}
theorem ct_pS {As : List Value} (hK : KK D Y s) (hP : va_P D vwCl Wd H) (hD : va_D A Wd) : PreS s H (va_Pc As (CtP D Y Wd H.size)) As :=
  ⟨CtP_blind, fun U hU hW => ⟨rfl, by rw [hU], by rw [hU]; exact hP, KK.warm hW hK, hD.weaken (fun _ _ _ _ => trivial)⟩⟩
theorem ct_go {S : Type} {W1 nw : S → va_W} {post : S → Prop} {a : Array Value} {mc ms : Nat} (hr : va_Run p l e R s m args below meth c H locs cells slots mc ms (F0 m pc ls st0) rest (CtQ D Wd H.size W1 nw post a) (va_A Wd H.size))
    (hP : va_P D vwCl ws H) (hD : va_D A ws) (hS : va_S A H0 H locs) (hA : ∀ q, H0.size ≤ q → A q) (isC : List Nat) (hC : isC.map (fun i => ws[i]?) = Wd.map some) (hn : va_nd isC = true) (ws1 : S → va_W) (h1 : ∀ u, putAt ws isC (W1 u) ++ nw u = ws1 u) (hf : ∀ u, (W1 u).map Prod.fst = Wd.map Prod.fst)
    (kk : ∀ (u : S) (H1 : Heap) (locs1 : List Loc), post u → va_P D vwCl (ws1 u) H1 → va_D A (ws1 u) → va_S A H0 H1 locs1 → W p l e R s m args below meth c H1 locs1 (cells + mc) (slots + ms) Q (F0 m (pc + 3) ls rest)) : W p l e R s m args below meth c H locs cells slots Q (F0 m pc ls st0) := by
  intro T hT X
  obtain ⟨v1, st₀, t, T', L, h0, X', hL, e1, e2, ⟨⟨u, hv, hp, hb, hd⟩, hz, hk⟩, st⟩ := hr T hT X
  cases hv
  rw [h0] at hz hk
  rw [← e1] at hb hz hk
  have hb1 : va_P D vwCl (W1 u) T'.heap := fun k q hq => hb k q (by rw [List.getElem?_append_left (List.getElem?_eq_some_iff.mp hq).1]; exact hq)
  have hb2 : va_P D vwCl (nw u) T'.heap := fun k q hq => hb ((W1 u).length + k) q (by rw [List.getElem?_append_right (by omega), show (W1 u).length + k - (W1 u).length = k by omega]; exact hq)
  obtain ⟨k1, k2, k3⟩ := wput hP hD hS hA isC hC hn (rfl : putAt ws isC (W1 u) = putAt ws isC (W1 u)) (hf u) hb1 hz hk hL
  have hfree : ∀ q, va_A Wd H.size q → A q := va_free hD hS hA isC hC
  have hge := new_ge hd (hf u)
  have hd2 : va_D A (nw u) := ⟨fun i j x y hx hy hxy => by
      have := hd.1 ((W1 u).length + i) ((W1 u).length + j) x y (by rw [List.getElem?_append_right (by omega), show (W1 u).length + i - (W1 u).length = i by omega]; exact hx) (by rw [List.getElem?_append_right (by omega), show (W1 u).length + j - (W1 u).length = j by omega]; exact hy) hxy
      omega, fun k q hq => hfree _ (Or.inr (hge k q hq))⟩
  have hold : ∀ (i : Nat) (x : Nat × va_E), (putAt ws isC (W1 u))[i]? = some x → x.1 < H.size := by
    intro i x hx
    have hlen : isC.length = (W1 u).length := by
      have a1 := congrArg List.length hC
      have a2 := congrArg List.length (hf u)
      simp only [List.length_map] at a1 a2
      omega
    rcases putAt_get isC (W1 u) ws i x hn hlen hx with ⟨j, hj, hw⟩ | ⟨hni, hw⟩
    · have a3 : ((W1 u).map Prod.fst)[j]? = (Wd.map Prod.fst)[j]? := by rw [hf u]
      rw [List.getElem?_map, List.getElem?_map, hw] at a3
      cases h5 : Wd[j]? with
      | none => rw [h5] at a3; cases a3
      | some y =>
        rw [h5] at a3
        have h6 : (isC.map (fun i => ws[i]?))[j]? = some (some y) := by rw [hC, List.getElem?_map, h5]; rfl
        rw [List.getElem?_map, hj] at h6
        have h7 : ws[i]? = some y := Option.some.inj h6
        have h8 : x.1 = y.1 := Option.some.inj a3
        rw [h8]
        exact (hP i y h7).lt
    · exact (hP i x hw).lt
  obtain ⟨t2, a1, b1⟩ := kk u T'.heap (locs ++ L) hp (by rw [← h1 u]; exact k1.app hb2) (by rw [← h1 u]; exact k2.app hd2 (fun i j x y hx hy => by have := hold i x hx; have := hge j y hy; omega)) k3 T' rfl X'
  exact ⟨t2, st t2 a1, b1⟩
theorem ct_intro {S : Type} {y : MethodName} {wl wl' : List Cond} {rm : Room} {av : List Value} {sz mc ms : Nat} {W1 nw : S → va_W} {post : S → Prop} {maxL : Nat} (hy : plainName y.cls = true) (hini : y.name = "<init>") (hw : wl = Cond.code y cc maxL none :: wl') (hn : (lg_sl av).length ≤ maxL) (lv : List (Nat × Value)) (hlv : lv_args 0 av = lv)
    (body : ∀ (p : Program) (e : Env) (s : State) (m : MethodId) (args : Array Value) (below : List Frame) (meth : Method) (c : Code) (ls : Array Slot), p.tables.exec = Jvm.exec → c.code = cc → meth.sig.returnType = none → c.maxLocals = maxL → (∀ w ∈ wl, w.before args s = true) → s.vm.findClass y.cls = some m.cls → meth.locks = false → meth.name = "<init>" → KK D Y s → va_P D vwCl Wd s.heap → va_D (va_A Wd s.heap.size) Wd → va_S (va_A Wd s.heap.size) s.heap s.heap [] → lv_has ls maxL lv →
      W p l e rm s m args below meth c s.heap [] 0 0 (MQ below (CtQ D Wd s.heap.size W1 nw post) args s mc ms (va_A Wd s.heap.size)) (F0 m 0 ls [])) : Ct l y wl rm av D Y Wd sz W1 nw post mc ms := by
  refine Met.ofW (cc := cc) (maxL := maxL) (ret := none) hy hw ?_
  intro p e s m args below meth c s₁ B hml hv
  obtain ⟨rfl, rfl, hP, hK, hD⟩ := hv
  rw [lg_entry_eq]
  have hl := lv_entry av (n := maxL) hn
  rw [hlv] at hl
  exact body p e s m _ below meth c _ B.exec B.bytes B.returns hml (atoms_spec (ws := wl) B.pre) (findClass_of_methodNamed B.named) B.notSynchronized ((name_of_methodNamed B.named B.method).1.trans hini) hK hP hD.self va_S.rf hl
theorem ct_vret {S : Type} {W1 nw : S → va_W} {post : S → Prop} {mc ms : Nat} (h1 : cells ≤ mc) (h2 : slots ≤ ms) (hx : p.tables.exec = Jvm.exec) (hb : c.code = cc) (hr : meth.sig.returnType = none) (hlocks : meth.locks = false) (hP : va_P D vwCl ws H) (hD : va_D (va_A Wd s.heap.size) ws) (hS : va_S (va_A Wd s.heap.size) s.heap H locs) (u : S) (hp : post u) (hw : W1 u ++ nw u = ws) (hdg : decode cc pc = .ok (.return_, 1)) : W p l e R s m args below meth c H locs cells slots (MQ below (CtQ D Wd s.heap.size W1 nw post) args s mc ms (va_A Wd s.heap.size)) (F0 m pc ls []) :=
  W.widen (k := mc) (n := ms) h1 h2 (W.vret hx hb hr (fun t ht _ => ⟨⟨u, rfl, hp, by rw [ht, hw]; exact hP, by rw [hw]; exact hD⟩, hS.F ht⟩) hS.2.2 hdg hlocks)
theorem arr_cls {k : Nat} {q : ClassId × FieldType} {cA : ClassId} {ty : FieldType} (hK : KK D Y s) (hK1 : va_K D vwCl (tyY Y ++ [(cA, ty)]) s) (hk : (tyY Y)[k]? = some q) (ht : q.2 = ty) (hno : ∀ C, ty ≠ .object C) : cA = q.1 := by
  have h1 := (hK.1.2 k q hk).2
  have h2 := (hK1.2 2 (cA, ty) rfl).2
  rw [ht] at h1
  cases ty with
  | object C => exact absurd rfl (hno C)
  | _ => exact Option.some.inj (h2.symm.trans h1)
theorem n_newaI (hx : p.tables.exec = Jvm.exec) (hb : c.code = cc) (harr : (Cond.arrayClass .int).before args s = true) (hK : KK D Y s) (hP : va_P D vwCl ws H) (hD : va_D A ws) (hS : va_S A H0 H locs) (hA : ∀ q, H0.size ≤ q → A q) {N : Nat} (hN : N ≤ 5000) (hcells : cells + 1 ≤ R.cells) (hslots : slots + N ≤ R.slots) (hdg : decode cc pc = .ok (.newarray .int, 2))
    (kk : ∀ (q : Nat) (H1 : Heap), va_P D vwCl (ws ++ [(q, .inl (Y.1, N, .inl (fun _ => 0)))]) H1 → va_D A (ws ++ [(q, .inl (Y.1, N, .inl (fun _ => 0)))]) → va_S A H0 H1 locs → W p l e R s m args below meth c H1 locs (cells + 1) (slots + N) Q (F0 m (pc + 2) ls (.ref q :: rest))) : W p l e R s m args below meth c H locs cells slots Q (F0 m pc ls (.int (nI N) :: rest)) := by
  refine va_newa hx hb (atype := .int) harr rfl hK.1 hP hD hS hA (N' := N) (a0 := (N, .inl (fun _ => 0))) (fun cA => rfl) (nI_pos (by omega)) (nI_clamp (by omega)) (by show N * 4 ≤ 536870912; omega) hcells hslots hdg (fun q cA H1 hK1 hP1 hD1 hS1 => ?_)
  have ec := arr_cls (k := 0) hK hK1 rfl rfl (fun C h => by cases h)
  subst ec
  exact kk q H1 hP1 hD1 hS1
theorem n_newaJ (hx : p.tables.exec = Jvm.exec) (hb : c.code = cc) (harr : (Cond.arrayClass .long).before args s = true) (hK : KK D Y s) (hP : va_P D vwCl ws H) (hD : va_D A ws) (hS : va_S A H0 H locs) (hA : ∀ q, H0.size ≤ q → A q) {N : Nat} (hN : N ≤ 5000) (hcells : cells + 1 ≤ R.cells) (hslots : slots + N ≤ R.slots) (hdg : decode cc pc = .ok (.newarray .long, 2))
    (kk : ∀ (q : Nat) (H1 : Heap), va_P D vwCl (ws ++ [(q, .inl (Y.2.1, N, .inr (.inl (fun _ => 0))))]) H1 → va_D A (ws ++ [(q, .inl (Y.2.1, N, .inr (.inl (fun _ => 0))))]) → va_S A H0 H1 locs → W p l e R s m args below meth c H1 locs (cells + 1) (slots + N) Q (F0 m (pc + 2) ls (.ref q :: rest))) : W p l e R s m args below meth c H locs cells slots Q (F0 m pc ls (.int (nI N) :: rest)) := by
  refine va_newa hx hb (atype := .long) harr rfl hK.1 hP hD hS hA (N' := N) (a0 := (N, .inr (.inl (fun _ => 0)))) (fun cA => rfl) (nI_pos (by omega)) (nI_clamp (by omega)) (by show N * 8 ≤ 536870912; omega) hcells hslots hdg (fun q cA H1 hK1 hP1 hD1 hS1 => ?_)
  have ec := arr_cls (k := 1) hK hK1 rfl rfl (fun C h => by cases h)
  subst ec
  exact kk q H1 hP1 hD1 hS1
end CTOR
