/-! rules of my own: contracts that only read (Ro), contracts that write a known world (Mu), their calls and ends; rows over numbers that are naturals (nI), truth values (zb) -/
abbrev vY : Type := ClassId × ClassId × ClassId × ClassId
abbrev tyY (Y : vY) : List (ClassId × FieldType) := [(Y.1, .int), (Y.2.1, .long)]
def nestW : List Cond := [.methodLinkNest RX8 9 yX0_init RX8, .methodLinkNest RX0 56 yX8_bit RX8, .methodLinkNest RX0 56 yX8_bit RX8, .methodLinkNest RX0 56 yX8_bit RX8, .methodLinkNest RX2 46 yX8_bit RX8, .methodLinkNest RX4 74 yX8_memberOf RX8, .methodLinkNest RX4 97 yX8_contains RX8, .methodLinkNest RX6 48 yX8_lowestOf RX8, .methodLinkNest RX6 58 yX8_contains RX8, .methodLinkNest RX6 62 yX8_bit RX8, .methodLinkNest RX7 62 yX8_contains RX8, .methodLinkNest RX7 70 yX8_bit RX8]
theorem nestW_form : ∀ w ∈ nestW, ∃ (a : String) (i : Nat) (x : MethodName) (h : String), w = .methodLinkNest a i x h := by
  intro w hw
  simp only [nestW, List.mem_cons, List.not_mem_nil, or_false] at hw
  rcases hw with rfl | rfl | rfl | rfl | rfl | rfl | rfl | rfl | rfl | rfl | rfl | rfl <;> exact ⟨_, _, _, _, rfl⟩
def KK (D : va_G) (Y : vY) (U : State) : Prop := va_K D vwCl (tyY Y) U ∧ ∀ w ∈ nestW, va_Nw w U
theorem KK.warm {D : va_G} {Y : vY} {s U : State} (hW : s.WarmedH U.vm) (h : KK D Y s) : KK D Y U := by
  refine ⟨va_K.moved hW.alike h.1, fun w hw => ?_⟩
  obtain ⟨a, i, x, n, rfl⟩ := nestW_form w hw
  exact va_Nw.warmM hW (h.2 _ hw)
theorem KK.same {D : va_G} {Y : vY} {s U : State} (hv : s.vm = U.vm) (h : KK D Y s) : KK D Y U := by
  refine ⟨va_K.moved (by rw [hv]; exact Vm.Alike.refl _) h.1, fun w hw => ?_⟩
  obtain ⟨a, i, x, n, rfl⟩ := nestW_form w hw
  exact va_Nw.same rfl hv (h.2 _ hw)
theorem KK.nest {D : va_G} {Y : vY} {s : State} {w : Cond} (h : KK D Y s) (k : Nat) (hk : nestW[k]? = some w) : va_Nw w s := h.2 w (List.mem_of_getElem? hk)
/-- the addresses of a world -/
def adA (Wd : va_W) : Nat → Prop := fun q => ∃ (k : Nat) (e : va_E), Wd[k]? = some (q, e)
def RoP (D : va_G) (Y : vY) (Wd : va_W) : State → Prop := fun U => va_P D vwCl Wd U.heap ∧ KK D Y U
def RoQ (v : Option Value) : Array Value → State → Outcome → State → Prop := fun _ st o t => o = .returned v ∧ t.heap = st.heap
def Ro (l : Launch) (y : MethodName) (ws : List Cond) (rm : Room) (av : List Value) (D : va_G) (Y : vY) (Wd : va_W) (v : Option Value) : Prop := Met l y ws rm (va_Pc av (RoP D Y Wd)) (RoQ v) 0 0 (fun _ => False)
def MuP (D : va_G) (Y : vY) (Wd : va_W) : State → Prop := fun U => va_P D vwCl Wd U.heap ∧ KK D Y U ∧ va_D (fun _ => True) Wd
def MuQ {S : Type} (D : va_G) (Wd : va_W) (v : S → Option Value) (W' : S → va_W) (post : S → Prop) : Array Value → State → Outcome → State → Prop := fun _ st o t => (∃ u : S, o = .returned (v u) ∧ post u ∧ va_P D vwCl (W' u) t.heap) ∧ va_F (adA Wd) st t
def Mu {S : Type} (l : Launch) (y : MethodName) (ws : List Cond) (rm : Room) (av : List Value) (D : va_G) (Y : vY) (Wd : va_W) (v : S → Option Value) (W' : S → va_W) (post : S → Prop) : Prop := Met l y ws rm (va_Pc av (MuP D Y Wd)) (MuQ D Wd v W' post) 0 0 (adA Wd)
theorem RoP_blind {av : List Value} {D : va_G} {Y : vY} {Wd : va_W} : FrameBlind (va_Pc av (RoP D Y Wd)) := fun a U g mk q => ⟨q.1, q.2.1, KK.same (s := U) (U := U.calling g mk a) rfl q.2.2⟩
theorem MuP_blind {av : List Value} {D : va_G} {Y : vY} {Wd : va_W} : FrameBlind (va_Pc av (MuP D Y Wd)) := fun a U g mk q => ⟨q.1, q.2.1, KK.same (s := U) (U := U.calling g mk a) rfl q.2.2.1, q.2.2.2⟩
theorem adA_self {Wd : va_W} (h : va_D (fun _ => True) Wd) : va_D (adA Wd) Wd := ⟨h.1, fun k q hk => ⟨k, q.2, hk⟩⟩
section RULES
variable {p : Program} {l : Launch} {e : Env} {R : Room} {s : State} {m : MethodId} {args : Array Value} {below : List Frame} {meth : Method} {c : Code} {H : Heap} {locs : List Loc} {cells slots : Nat} {Q : State → Prop}
variable {cc : ByteArray} {pc : Nat} {ls : Array Slot} {rest st0 : List Value} {D : va_G} {Y : vY} {Wd ws : va_W} {A H0A : Nat → Prop} {H0 : Heap}
/-- the pre of a reading callee, over the present world -/
theorem ro_pS {As : List Value} (hK : KK D Y s) (hP : va_P D vwCl Wd H) : PreS s H (va_Pc As (RoP D Y Wd)) As :=
  ⟨RoP_blind, fun U hU hW => ⟨rfl, by rw [hU]; exact hP, KK.warm hW hK⟩⟩
theorem ro_pV {b : Nat} {C : String} {As : List Value} (hK : KK D Y s) (hP : va_P D vwCl Wd H) (hR : ∃ cell : Cell, H[b]? = some cell ∧ cell.vm.isStatics = false ∧ s.vm.findClass C = some cell.cls) : PreV s H C b (va_Pc (.ref b :: As) (RoP D Y Wd)) As :=
  ⟨RoP_blind, hR, fun U hU hW => ⟨rfl, by rw [hU]; exact hP, KK.warm hW hK⟩⟩
theorem mu_pS {As : List Value} (hK : KK D Y s) (hP : va_P D vwCl Wd H) (hD : va_D A Wd) : PreS s H (va_Pc As (MuP D Y Wd)) As :=
  ⟨MuP_blind, fun U hU hW => ⟨rfl, by rw [hU]; exact hP, KK.warm hW hK, hD.weaken (fun _ _ _ _ => trivial)⟩⟩
theorem mu_pV {b : Nat} {C : String} {As : List Value} (hK : KK D Y s) (hP : va_P D vwCl Wd H) (hD : va_D A Wd) (hR : ∃ cell : Cell, H[b]? = some cell ∧ cell.vm.isStatics = false ∧ s.vm.findClass C = some cell.cls) : PreV s H C b (va_Pc (.ref b :: As) (MuP D Y Wd)) As :=
  ⟨MuP_blind, hR, fun U hU hW => ⟨rfl, by rw [hU]; exact hP, KK.warm hW hK, hD.weaken (fun _ _ _ _ => trivial)⟩⟩
theorem ro_recv {a q0 ci : Nat} {q : vw_C} {fs : List Value} (hK : KK D Y s) (hP : va_P D vwCl ws H) (hc : vwCl[ci]? = some q) (he : ws[q0]? = some (a, .inr (ci, fs))) : ∃ cell : Cell, H[a]? = some cell ∧ cell.vm.isStatics = false ∧ s.vm.findClass q.1 = some cell.cls := va_recv hK.1 hP hc he
/-- a reading call: nothing but the stack changes -/
theorem ro_go {v : Option Value} {a : Array Value} (hr : va_Run p l e R s m args below meth c H locs cells slots 0 0 (F0 m pc ls st0) rest (RoQ v a) (fun _ => False)) (k : W p l e R s m args below meth c H locs cells slots Q (F0 m (pc + 3) ls (v.toList ++ rest))) : W p l e R s m args below meth c H locs cells slots Q (F0 m pc ls st0) := by
  intro T hT X
  obtain ⟨v1, st₀, t, T', L, h0, X', hL, e1, e2, ⟨hv, hh⟩, st⟩ := hr T hT X
  cases hv
  have hL0 : L = [] := List.eq_nil_iff_forall_not_mem.mpr (fun q hq => hL q hq)
  subst hL0
  rw [List.append_nil] at X'
  obtain ⟨t2, a1, b1⟩ := k T' (by rw [e1, hh, h0]) X'
  exact ⟨t2, st t2 a1, b1⟩
def putAt (ws : va_W) (isC : List Nat) (Wc : va_W) : va_W := (isC.zip Wc).foldl (fun w p => w.set p.1 p.2) ws
theorem putAt_get : ∀ (isC : List Nat) (Wc ws : va_W) (k : Nat) (q : Nat × va_E), va_nd isC = true → isC.length = Wc.length → (putAt ws isC Wc)[k]? = some q → (∃ j : Nat, isC[j]? = some k ∧ Wc[j]? = some q) ∨ (k ∉ isC ∧ ws[k]? = some q)
  | [], Wc, ws, k, q, _, _, h => Or.inr ⟨List.not_mem_nil, by simpa [putAt] using h⟩
  | i :: is, [], ws, k, q, _, hl, _ => by simp at hl
  | i :: is, w :: Wc, ws, k, q, hn, hl, h => by
    have hn' : i ∉ is ∧ va_nd is = true := by simpa [va_nd] using hn
    have h' : (putAt (ws.set i w) is Wc)[k]? = some q := h
    rcases putAt_get is Wc (ws.set i w) k q hn'.2 (by simpa using hl) h' with ⟨j, h1, h2⟩ | ⟨h1, h2⟩
    · exact Or.inl ⟨j + 1, h1, h2⟩
    · by_cases hk : k = i
      · subst hk
        left
        refine ⟨0, rfl, ?_⟩
        rw [List.getElem?_set_self'] at h2
        cases hw : ws[k]? with
        | none => rw [hw] at h2; cases h2
        | some z => rw [hw] at h2; exact h2
      · right
        refine ⟨fun hm => (List.mem_cons.mp hm).elim hk h1, ?_⟩
        rwa [List.getElem?_set_ne (Ne.symm hk)] at h2
/-- a writing call over a part of the world -/
theorem mu_go {S : Type} {v : S → Option Value} {W' : S → va_W} {post : S → Prop} {a : Array Value} (hr : va_Run p l e R s m args below meth c H locs cells slots 0 0 (F0 m pc ls st0) rest (MuQ D Wd v W' post a) (adA Wd))
    (hP : va_P D vwCl ws H) (hD : va_D A ws) (hS : va_S A H0 H locs) (isC : List Nat) (hC : isC.map (fun i => ws[i]?) = Wd.map some) (hn : va_nd isC = true) (ws1 : S → va_W) (h1 : ∀ u, putAt ws isC (W' u) = ws1 u) (hf : ∀ u, (W' u).map Prod.fst = Wd.map Prod.fst)
    (k : ∀ (u : S) (H1 : Heap) (locs1 : List Loc), post u → va_P D vwCl (ws1 u) H1 → va_D A (ws1 u) → va_S A H0 H1 locs1 → W p l e R s m args below meth c H1 locs1 cells slots Q (F0 m (pc + 3) ls ((v u).toList ++ rest))) : W p l e R s m args below meth c H locs cells slots Q (F0 m pc ls st0) := by
  have at' : ∀ (k : Nat) (q : Nat × va_E), Wd[k]? = some q → ∃ i, isC[k]? = some i ∧ ws[i]? = some q := by
    intro k q hq
    have h1 : (isC.map (fun i => ws[i]?))[k]? = some (some q) := by rw [hC, List.getElem?_map, hq]; rfl
    rw [List.getElem?_map] at h1
    cases hi : isC[k]? with
    | none => rw [hi] at h1; cases h1
    | some i => rw [hi] at h1; exact ⟨i, rfl, Option.some.inj h1⟩
  have hfree : ∀ q, adA Wd q → A q := by
    intro q ⟨j, e1, h⟩
    obtain ⟨i, -, hi⟩ := at' j _ h
    exact hD.2 i _ hi
  intro T hT X
  obtain ⟨v1, st₀, t, T', L, h0, X', hL, e1, e2, ⟨⟨u, hv, hp, hb⟩, hz, hk⟩, st⟩ := hr T hT X
  cases hv
  rw [h0] at hz hk
  have hlen : isC.length = (W' u).length := by
    have a1 := congrArg List.length hC
    have a2 := congrArg List.length (hf u)
    simp only [List.length_map] at a1 a2
    omega
  have hkeep : ∀ q : Nat, q < H.size → ¬ adA Wd q → T'.heap[q]? = H[q]? := fun q h1 h2 => by rw [e1]; exact hk q h1 h2
  have key : ∀ (k : Nat) (q : Nat × va_E), (ws1 u)[k]? = some q → ∃ q0, ws[k]? = some q0 ∧ q0.1 = q.1 ∧ va_at D vwCl q T'.heap := by
    intro k q hq
    rw [← h1 u] at hq
    rcases putAt_get isC (W' u) ws k q hn hlen hq with ⟨j, hj, hw⟩ | ⟨hni, hw⟩
    · have hjl : j < Wd.length := by
        have a2 := congrArg List.length (hf u)
        simp only [List.length_map] at a2
        have := (List.getElem?_eq_some_iff.mp hw).1
        omega
      obtain ⟨i, hi, hi2⟩ := at' j Wd[j] (List.getElem?_eq_getElem hjl)
      rw [hj] at hi
      cases hi
      refine ⟨_, hi2, ?_, by rw [e1]; exact hb j q hw⟩
      have a3 : ((W' u).map Prod.fst)[j]? = (Wd.map Prod.fst)[j]? := by rw [hf u]
      rw [List.getElem?_map, List.getElem?_map, hw, List.getElem?_eq_getElem hjl] at a3
      exact (Option.some.inj a3).symm
    · refine ⟨q, hw, rfl, (hP k q hw).kept (hkeep q.1 (hP k q hw).lt ?_)⟩
      intro ⟨j, e2, h⟩
      obtain ⟨i, hi, hi2⟩ := at' j _ h
      have := hD.1 k i q _ hw hi2 rfl
      subst this
      exact hni (List.mem_of_getElem? hi)
  obtain ⟨t2, a1, b1⟩ := k u T'.heap (locs ++ L) hp (fun k q hq => (key k q hq).choose_spec.2.2)
    ⟨fun i j x y hx hy hxy => by
      obtain ⟨x0, h3, h4, -⟩ := key i x hx
      obtain ⟨y0, h5, h6, -⟩ := key j y hy
      exact hD.1 i j x0 y0 h3 h5 (by rw [h4, h6, hxy]), fun k q hq => by
      obtain ⟨x0, h3, h4, -⟩ := key k q hq
      rw [← h4]
      exact hD.2 k x0 h3⟩
    ⟨Nat.le_trans hS.1 (by rw [e1]; exact hz), fun q h1 h2 => by rw [hkeep q (Nat.lt_of_lt_of_le h1 hS.1) (fun z => h2 (hfree q z))]; exact hS.2.1 q h1 h2, fun q hq => by
      rcases List.mem_append.mp hq with h | h
      · exact hS.2.2 q h
      · exact hfree _ (hL q h)⟩ T' rfl X'
  exact ⟨t2, st t2 a1, b1⟩
/-! ends -/
theorem ro_iret {v v' : Int32} (hx : p.tables.exec = Jvm.exec) (hb : c.code = cc) (hr : meth.sig.returnType = some .int) (hlocks : meth.locks = false) (hv : v = v') (hdg : decode cc pc = .ok (.ireturn, 1)) : W p l e R s m args below meth c s.heap [] 0 0 (MQ below (RoQ (some (.int v'))) args s 0 0 (fun _ => False)) (F0 m pc ls [.int v]) :=
  W.iret hx hb hr (fun t ht _ => ⟨by rw [hv], ht⟩) (fun q h => nomatch h) hdg hlocks
theorem ro_lret {v v' : Int64} (hx : p.tables.exec = Jvm.exec) (hb : c.code = cc) (hr : meth.sig.returnType = some .long) (hlocks : meth.locks = false) (hv : v = v') (hdg : decode cc pc = .ok (.lreturn, 1)) : W p l e R s m args below meth c s.heap [] 0 0 (MQ below (RoQ (some (.long v'))) args s 0 0 (fun _ => False)) (F0 m pc ls [.long v]) :=
  W.lret hx hb hr (fun t ht _ => ⟨by rw [hv], ht⟩) (fun q h => nomatch h) hdg hlocks
/-- a truth value as the machine holds it -/
def zb (b : Bool) : Int32 := if b then 1 else 0
theorem zb_nar (b : Bool) : narrow .boolean (.int (zb b)) = .int (zb b) := by cases b <;> rfl
theorem zb_t {b : Bool} (h : b = true) : (1 : Int32) = zb b := by rw [h]; rfl
theorem zb_f {b : Bool} (h : b = false) : (0 : Int32) = zb b := by rw [h]; rfl
theorem ro_zret {v : Int32} {b : Bool} (hx : p.tables.exec = Jvm.exec) (hb : c.code = cc) (hr : meth.sig.returnType = some .boolean) (hlocks : meth.locks = false) (hv : v = zb b) (hdg : decode cc pc = .ok (.ireturn, 1)) : W p l e R s m args below meth c s.heap [] 0 0 (MQ below (RoQ (some (.int (zb b)))) args s 0 0 (fun _ => False)) (F0 m pc ls [.int v]) := by
  subst hv
  exact W.zret hx hb hr (zb_nar b) (fun t ht _ => ⟨rfl, ht⟩) (fun q h => nomatch h) hdg hlocks
theorem mu_iret {S : Type} {v : S → Option Value} {W' : S → va_W} {post : S → Prop} {x : Int32} (hx : p.tables.exec = Jvm.exec) (hb : c.code = cc) (hr : meth.sig.returnType = some .int) (hlocks : meth.locks = false) (hP : va_P D vwCl ws H) (hS : va_S (adA Wd) s.heap H locs) (u : S) (hv : v u = some (.int x)) (hp : post u) (hw : W' u = ws) (hdg : decode cc pc = .ok (.ireturn, 1)) : W p l e R s m args below meth c H locs 0 0 (MQ below (MuQ D Wd v W' post) args s 0 0 (adA Wd)) (F0 m pc ls [.int x]) :=
  W.iret hx hb hr (fun t ht _ => ⟨⟨u, by rw [hv], hp, by rw [ht, hw]; exact hP⟩, hS.F ht⟩) hS.2.2 hdg hlocks
theorem mu_zret {S : Type} {v : S → Option Value} {W' : S → va_W} {post : S → Prop} {x : Int32} {b : Bool} (hx : p.tables.exec = Jvm.exec) (hb : c.code = cc) (hr : meth.sig.returnType = some .boolean) (hlocks : meth.locks = false) (hP : va_P D vwCl ws H) (hS : va_S (adA Wd) s.heap H locs) (u : S) (hz : x = zb b) (hv : v u = some (.int (zb b))) (hp : post u) (hw : W' u = ws) (hdg : decode cc pc = .ok (.ireturn, 1)) : W p l e R s m args below meth c H locs 0 0 (MQ below (MuQ D Wd v W' post) args s 0 0 (adA Wd)) (F0 m pc ls [.int x]) := by
  subst hz
  exact W.zret hx hb hr (zb_nar b) (fun t ht _ => ⟨⟨u, by rw [hv], hp, by rw [ht, hw]; exact hP⟩, hS.F ht⟩) hS.2.2 hdg hlocks
theorem mu_lret {S : Type} {v : S → Option Value} {W' : S → va_W} {post : S → Prop} {x : Int64} (hx : p.tables.exec = Jvm.exec) (hb : c.code = cc) (hr : meth.sig.returnType = some .long) (hlocks : meth.locks = false) (hP : va_P D vwCl ws H) (hS : va_S (adA Wd) s.heap H locs) (u : S) (hv : v u = some (.long x)) (hp : post u) (hw : W' u = ws) (hdg : decode cc pc = .ok (.lreturn, 1)) : W p l e R s m args below meth c H locs 0 0 (MQ below (MuQ D Wd v W' post) args s 0 0 (adA Wd)) (F0 m pc ls [.long x]) :=
  W.lret hx hb hr (fun t ht _ => ⟨⟨u, by rw [hv], hp, by rw [ht, hw]; exact hP⟩, hS.F ht⟩) hS.2.2 hdg hlocks
theorem mu_vret {S : Type} {v : S → Option Value} {W' : S → va_W} {post : S → Prop} (hx : p.tables.exec = Jvm.exec) (hb : c.code = cc) (hr : meth.sig.returnType = none) (hlocks : meth.locks = false) (hP : va_P D vwCl ws H) (hS : va_S (adA Wd) s.heap H locs) (u : S) (hv : v u = none) (hp : post u) (hw : W' u = ws) (hdg : decode cc pc = .ok (.return_, 1)) : W p l e R s m args below meth c H locs 0 0 (MQ below (MuQ D Wd v W' post) args s 0 0 (adA Wd)) (F0 m pc ls []) :=
  W.vret hx hb hr (fun t ht _ => ⟨⟨u, by rw [hv], hp, by rw [ht, hw]; exact hP⟩, hS.F ht⟩) hS.2.2 hdg hlocks
/-! beginnings -/
theorem ro_intro {y : MethodName} {wl wl' : List Cond} {rm : Room} {av : List Value} {v : Option Value} {maxL : Nat} {ret : Option FieldType} (hy : plainName y.cls = true) (hw : wl = Cond.code y cc maxL ret :: wl') (hn : (lg_sl av).length ≤ maxL) (lv : List (Nat × Value)) (hlv : lv_args 0 av = lv)
    (body : ∀ (p : Program) (e : Env) (s : State) (m : MethodId) (args : Array Value) (below : List Frame) (meth : Method) (c : Code) (ls : Array Slot), p.tables.exec = Jvm.exec → c.code = cc → meth.sig.returnType = ret → c.maxLocals = maxL → (∀ w ∈ wl, w.before args s = true) → s.vm.findClass y.cls = some m.cls → meth.locks = false → KK D Y s → va_P D vwCl Wd s.heap → lv_has ls maxL lv →
      W p l e rm s m args below meth c s.heap [] 0 0 (MQ below (RoQ v) args s 0 0 (fun _ => False)) (F0 m 0 ls [])) : Ro l y wl rm av D Y Wd v := by
  refine Met.ofW (cc := cc) (maxL := maxL) (ret := ret) hy hw ?_
  intro p e s m args below meth c s₁ B hml hv
  obtain ⟨rfl, hP, hK⟩ := hv
  rw [lg_entry_eq]
  have hl := lv_entry av (n := maxL) hn
  rw [hlv] at hl
  exact body p e s m _ below meth c _ B.exec B.bytes B.returns hml (atoms_spec (ws := wl) B.pre) (findClass_of_methodNamed B.named) B.notSynchronized hK hP hl
theorem mu_intro {S : Type} {y : MethodName} {wl wl' : List Cond} {rm : Room} {av : List Value} {v : S → Option Value} {W' : S → va_W} {post : S → Prop} {maxL : Nat} {ret : Option FieldType} (hy : plainName y.cls = true) (hw : wl = Cond.code y cc maxL ret :: wl') (hn : (lg_sl av).length ≤ maxL) (lv : List (Nat × Value)) (hlv : lv_args 0 av = lv)
    (body : ∀ (p : Program) (e : Env) (s : State) (m : MethodId) (args : Array Value) (below : List Frame) (meth : Method) (c : Code) (ls : Array Slot), p.tables.exec = Jvm.exec → c.code = cc → meth.sig.returnType = ret → c.maxLocals = maxL → (∀ w ∈ wl, w.before args s = true) → s.vm.findClass y.cls = some m.cls → meth.locks = false → KK D Y s → va_P D vwCl Wd s.heap → va_D (adA Wd) Wd → va_S (adA Wd) s.heap s.heap [] → lv_has ls maxL lv →
      W p l e rm s m args below meth c s.heap [] 0 0 (MQ below (MuQ D Wd v W' post) args s 0 0 (adA Wd)) (F0 m 0 ls [])) : Mu l y wl rm av D Y Wd v W' post := by
  refine Met.ofW (cc := cc) (maxL := maxL) (ret := ret) hy hw ?_
  intro p e s m args below meth c s₁ B hml hv
  obtain ⟨rfl, hP, hK, hD⟩ := hv
  rw [lg_entry_eq]
  have hl := lv_entry av (n := maxL) hn
  rw [hlv] at hl
  exact body p e s m _ below meth c _ B.exec B.bytes B.returns hml (atoms_spec (ws := wl) B.pre) (findClass_of_methodNamed B.named) B.notSynchronized hK hP (adA_self hD) va_S.rf hl
/-! rows over naturals -/
theorem top_i {x y : Int32} (h : x = y) (k : W p l e R s m args below meth c H locs cells slots Q (F0 m pc ls (.int y :: rest))) : W p l e R s m args below meth c H locs cells slots Q (F0 m pc ls (.int x :: rest)) := h ▸ k
theorem top_l {x y : Int64} (h : x = y) (k : W p l e R s m args below meth c H locs cells slots Q (F0 m pc ls (.long y :: rest))) : W p l e R s m args below meth c H locs cells slots Q (F0 m pc ls (.long x :: rest)) := h ▸ k
theorem n_iadd {x y : Nat} (hx : p.tables.exec = Jvm.exec) (hb : c.code = cc) (hdg : decode cc pc = .ok (.iadd, 1)) (k : W p l e R s m args below meth c H locs cells slots Q (F0 m (pc + 1) ls (.int (nI (x + y)) :: rest))) : W p l e R s m args below meth c H locs cells slots Q (F0 m pc ls (.int (nI y) :: .int (nI x) :: rest)) := lv_iadd hx hb hdg (by rw [nI_add]; exact k)
theorem n_isub {x y : Nat} (hx : p.tables.exec = Jvm.exec) (hb : c.code = cc) (h : y ≤ x) (hdg : decode cc pc = .ok (.isub, 1)) (k : W p l e R s m args below meth c H locs cells slots Q (F0 m (pc + 1) ls (.int (nI (x - y)) :: rest))) : W p l e R s m args below meth c H locs cells slots Q (F0 m pc ls (.int (nI y) :: .int (nI x) :: rest)) := lv_isub hx hb hdg (by rw [pk_sub h]; exact k)
theorem n_imul {x y : Nat} (hx : p.tables.exec = Jvm.exec) (hb : c.code = cc) (hdg : decode cc pc = .ok (.imul, 1)) (k : W p l e R s m args below meth c H locs cells slots Q (F0 m (pc + 1) ls (.int (nI (x * y)) :: rest))) : W p l e R s m args below meth c H locs cells slots Q (F0 m pc ls (.int (nI y) :: .int (nI x) :: rest)) := lv_imul hx hb hdg (by rw [pk_mul]; exact k)
theorem n_idiv {x y : Nat} (hx : p.tables.exec = Jvm.exec) (hb : c.code = cc) (h1 : x < 2 ^ 31) (h2 : 0 < y) (h3 : y < 2 ^ 31) (hdg : decode cc pc = .ok (.idiv, 1)) (k : W p l e R s m args below meth c H locs cells slots Q (F0 m (pc + 1) ls (.int (nI (x / y)) :: rest))) : W p l e R s m args below meth c H locs cells slots Q (F0 m pc ls (.int (nI y) :: .int (nI x) :: rest)) := lv_idiv hx hb hdg (nI_ne0 h2 h3) (by rw [pk_div h1 h2 h3]; exact k)
theorem n_irem {x y : Nat} (hx : p.tables.exec = Jvm.exec) (hb : c.code = cc) (h1 : x < 2 ^ 31) (h2 : 0 < y) (h3 : y < 2 ^ 31) (hdg : decode cc pc = .ok (.irem, 1)) (k : W p l e R s m args below meth c H locs cells slots Q (F0 m (pc + 1) ls (.int (nI (x % y)) :: rest))) : W p l e R s m args below meth c H locs cells slots Q (F0 m pc ls (.int (nI y) :: .int (nI x) :: rest)) := lv_irem hx hb hdg (nI_ne0 h2 h3) (by rw [pk_rem h1 h2 h3]; exact k)
theorem n_icmp_eq {x y : Nat} {off : Int} {tgt : Nat} (hx : p.tables.exec = Jvm.exec) (hb : c.code = cc) (h1 : x < 2 ^ 31) (h2 : y < 2 ^ 31) (hdg : decode cc pc = .ok (.if_icmp .eq off, 3)) (ht : (pc : Int) + off = (tgt : Int)) (kt : x = y → W p l e R s m args below meth c H locs cells slots Q (F0 m tgt ls rest)) (kf : x ≠ y → W p l e R s m args below meth c H locs cells slots Q (F0 m (pc + 3) ls rest)) : W p l e R s m args below meth c H locs cells slots Q (F0 m pc ls (.int (nI y) :: .int (nI x) :: rest)) :=
  lv_icmp_eq hx hb hdg ht (fun q => kt ((nI_eq h1 h2).mp q)) (fun q => kf (fun z => q ((nI_eq h1 h2).mpr z)))
theorem n_icmp_ne {x y : Nat} {off : Int} {tgt : Nat} (hx : p.tables.exec = Jvm.exec) (hb : c.code = cc) (h1 : x < 2 ^ 31) (h2 : y < 2 ^ 31) (hdg : decode cc pc = .ok (.if_icmp .ne off, 3)) (ht : (pc : Int) + off = (tgt : Int)) (kt : x ≠ y → W p l e R s m args below meth c H locs cells slots Q (F0 m tgt ls rest)) (kf : x = y → W p l e R s m args below meth c H locs cells slots Q (F0 m (pc + 3) ls rest)) : W p l e R s m args below meth c H locs cells slots Q (F0 m pc ls (.int (nI y) :: .int (nI x) :: rest)) :=
  lv_icmp_ne hx hb hdg ht (fun q => kt (fun z => q ((nI_eq h1 h2).mpr z))) (fun q => kf ((nI_eq h1 h2).mp q))
theorem n_icmp_lt {x y : Nat} {off : Int} {tgt : Nat} (hx : p.tables.exec = Jvm.exec) (hb : c.code = cc) (h1 : x < 2 ^ 31) (h2 : y < 2 ^ 31) (hdg : decode cc pc = .ok (.if_icmp .lt off, 3)) (ht : (pc : Int) + off = (tgt : Int)) (kt : x < y → W p l e R s m args below meth c H locs cells slots Q (F0 m tgt ls rest)) (kf : y ≤ x → W p l e R s m args below meth c H locs cells slots Q (F0 m (pc + 3) ls rest)) : W p l e R s m args below meth c H locs cells slots Q (F0 m pc ls (.int (nI y) :: .int (nI x) :: rest)) :=
  lv_icmp_lt hx hb hdg ht (fun q => kt ((nI_ltI h1 h2).mp q)) (fun q => kf (Nat.le_of_not_lt fun z => q ((nI_ltI h1 h2).mpr z)))
theorem n_icmp_ge {x y : Nat} {off : Int} {tgt : Nat} (hx : p.tables.exec = Jvm.exec) (hb : c.code = cc) (h1 : x < 2 ^ 31) (h2 : y < 2 ^ 31) (hdg : decode cc pc = .ok (.if_icmp .ge off, 3)) (ht : (pc : Int) + off = (tgt : Int)) (kt : y ≤ x → W p l e R s m args below meth c H locs cells slots Q (F0 m tgt ls rest)) (kf : x < y → W p l e R s m args below meth c H locs cells slots Q (F0 m (pc + 3) ls rest)) : W p l e R s m args below meth c H locs cells slots Q (F0 m pc ls (.int (nI y) :: .int (nI x) :: rest)) :=
  lv_icmp_ge hx hb hdg ht (fun q => kt ((nI_leI h2 h1).mp q)) (fun q => kf (Nat.lt_of_not_le fun z => q ((nI_leI h2 h1).mpr z)))
theorem n_icmp_gt {x y : Nat} {off : Int} {tgt : Nat} (hx : p.tables.exec = Jvm.exec) (hb : c.code = cc) (h1 : x < 2 ^ 31) (h2 : y < 2 ^ 31) (hdg : decode cc pc = .ok (.if_icmp .gt off, 3)) (ht : (pc : Int) + off = (tgt : Int)) (kt : y < x → W p l e R s m args below meth c H locs cells slots Q (F0 m tgt ls rest)) (kf : x ≤ y → W p l e R s m args below meth c H locs cells slots Q (F0 m (pc + 3) ls rest)) : W p l e R s m args below meth c H locs cells slots Q (F0 m pc ls (.int (nI y) :: .int (nI x) :: rest)) :=
  lv_icmp_gt hx hb hdg ht (fun q => kt ((nI_ltI h2 h1).mp q)) (fun q => kf (Nat.le_of_not_lt fun z => q ((nI_ltI h2 h1).mpr z)))
theorem n_icmp_le {x y : Nat} {off : Int} {tgt : Nat} (hx : p.tables.exec = Jvm.exec) (hb : c.code = cc) (h1 : x < 2 ^ 31) (h2 : y < 2 ^ 31) (hdg : decode cc pc = .ok (.if_icmp .le off, 3)) (ht : (pc : Int) + off = (tgt : Int)) (kt : x ≤ y → W p l e R s m args below meth c H locs cells slots Q (F0 m tgt ls rest)) (kf : y < x → W p l e R s m args below meth c H locs cells slots Q (F0 m (pc + 3) ls rest)) : W p l e R s m args below meth c H locs cells slots Q (F0 m pc ls (.int (nI y) :: .int (nI x) :: rest)) :=
  lv_icmp_le hx hb hdg ht (fun q => kt ((nI_leI h1 h2).mp q)) (fun q => kf (Nat.lt_of_not_le fun z => q ((nI_leI h1 h2).mpr z)))
theorem n_if_eq {x : Nat} {off : Int} {tgt : Nat} (hx : p.tables.exec = Jvm.exec) (hb : c.code = cc) (h1 : x < 2 ^ 31) (hdg : decode cc pc = .ok (.ifCond .eq off, 3)) (ht : (pc : Int) + off = (tgt : Int)) (kt : x = 0 → W p l e R s m args below meth c H locs cells slots Q (F0 m tgt ls rest)) (kf : 0 < x → W p l e R s m args below meth c H locs cells slots Q (F0 m (pc + 3) ls rest)) : W p l e R s m args below meth c H locs cells slots Q (F0 m pc ls (.int (nI x) :: rest)) :=
  lv_if_eq hx hb hdg ht (fun q => kt (Nat.eq_zero_of_not_pos fun z => nI_ne0 z h1 q)) (fun q => kf (Nat.pos_of_ne_zero fun z => q (by rw [z]; rfl)))
theorem n_if_ne {x : Nat} {off : Int} {tgt : Nat} (hx : p.tables.exec = Jvm.exec) (hb : c.code = cc) (h1 : x < 2 ^ 31) (hdg : decode cc pc = .ok (.ifCond .ne off, 3)) (ht : (pc : Int) + off = (tgt : Int)) (kt : 0 < x → W p l e R s m args below meth c H locs cells slots Q (F0 m tgt ls rest)) (kf : x = 0 → W p l e R s m args below meth c H locs cells slots Q (F0 m (pc + 3) ls rest)) : W p l e R s m args below meth c H locs cells slots Q (F0 m pc ls (.int (nI x) :: rest)) :=
  lv_if_ne hx hb hdg ht (fun q => kt (Nat.pos_of_ne_zero fun z => q (by rw [z]; rfl))) (fun q => kf (Nat.eq_zero_of_not_pos fun z => nI_ne0 z h1 q))
theorem n_if_le {x : Nat} {off : Int} {tgt : Nat} (hx : p.tables.exec = Jvm.exec) (hb : c.code = cc) (h1 : x < 2 ^ 31) (hdg : decode cc pc = .ok (.ifCond .le off, 3)) (ht : (pc : Int) + off = (tgt : Int)) (kt : x = 0 → W p l e R s m args below meth c H locs cells slots Q (F0 m tgt ls rest)) (kf : 0 < x → W p l e R s m args below meth c H locs cells slots Q (F0 m (pc + 3) ls rest)) : W p l e R s m args below meth c H locs cells slots Q (F0 m pc ls (.int (nI x) :: rest)) :=
  lv_if_le hx hb hdg ht (fun q => kt (Nat.eq_zero_of_not_pos fun z => nI_nle z h1 q)) (fun q => kf (Nat.pos_of_ne_zero fun z => q (by rw [z]; decide)))
theorem n_if_gt {x : Nat} {off : Int} {tgt : Nat} (hx : p.tables.exec = Jvm.exec) (hb : c.code = cc) (h1 : x < 2 ^ 31) (hdg : decode cc pc = .ok (.ifCond .gt off, 3)) (ht : (pc : Int) + off = (tgt : Int)) (kt : 0 < x → W p l e R s m args below meth c H locs cells slots Q (F0 m tgt ls rest)) (kf : x = 0 → W p l e R s m args below meth c H locs cells slots Q (F0 m (pc + 3) ls rest)) : W p l e R s m args below meth c H locs cells slots Q (F0 m pc ls (.int (nI x) :: rest)) :=
  lv_if_gt hx hb hdg ht (fun q => kt (Nat.pos_of_ne_zero fun z => by rw [z] at q; exact absurd q (by decide))) (fun q => kf (Nat.eq_zero_of_not_pos fun z => q (nI_lt z h1)))
theorem n_if_ge {x : Nat} {off : Int} {tgt : Nat} (hx : p.tables.exec = Jvm.exec) (hb : c.code = cc) (h1 : x < 2 ^ 31) (hdg : decode cc pc = .ok (.ifCond .ge off, 3)) (ht : (pc : Int) + off = (tgt : Int)) (kt : W p l e R s m args below meth c H locs cells slots Q (F0 m tgt ls rest)) : W p l e R s m args below meth c H locs cells slots Q (F0 m pc ls (.int (nI x) :: rest)) :=
  lv_if_ge hx hb hdg ht (fun _ => kt) (fun q => absurd (nI_pos' h1) q)
theorem n_if_lt {x : Nat} {off : Int} {tgt : Nat} (hx : p.tables.exec = Jvm.exec) (hb : c.code = cc) (h1 : x < 2 ^ 31) (hdg : decode cc pc = .ok (.ifCond .lt off, 3)) (ht : (pc : Int) + off = (tgt : Int)) (kf : W p l e R s m args below meth c H locs cells slots Q (F0 m (pc + 3) ls rest)) : W p l e R s m args below meth c H locs cells slots Q (F0 m pc ls (.int (nI x) :: rest)) :=
  lv_if_lt hx hb hdg ht (fun q => absurd q (nI_pos h1)) (fun _ => kf)
theorem z_if_eq {b : Bool} {off : Int} {tgt : Nat} (hx : p.tables.exec = Jvm.exec) (hb : c.code = cc) (hdg : decode cc pc = .ok (.ifCond .eq off, 3)) (ht : (pc : Int) + off = (tgt : Int)) (kt : b = false → W p l e R s m args below meth c H locs cells slots Q (F0 m tgt ls rest)) (kf : b = true → W p l e R s m args below meth c H locs cells slots Q (F0 m (pc + 3) ls rest)) : W p l e R s m args below meth c H locs cells slots Q (F0 m pc ls (.int (zb b) :: rest)) :=
  lv_if_eq hx hb hdg ht (fun q => kt (by cases b; rfl; exact absurd q (by decide))) (fun q => kf (by cases b; exact absurd rfl q; rfl))
theorem z_if_ne {b : Bool} {off : Int} {tgt : Nat} (hx : p.tables.exec = Jvm.exec) (hb : c.code = cc) (hdg : decode cc pc = .ok (.ifCond .ne off, 3)) (ht : (pc : Int) + off = (tgt : Int)) (kt : b = true → W p l e R s m args below meth c H locs cells slots Q (F0 m tgt ls rest)) (kf : b = false → W p l e R s m args below meth c H locs cells slots Q (F0 m (pc + 3) ls rest)) : W p l e R s m args below meth c H locs cells slots Q (F0 m pc ls (.int (zb b) :: rest)) :=
  lv_if_ne hx hb hdg ht (fun q => kt (by cases b; exact absurd rfl q; rfl)) (fun q => kf (by cases b; rfl; exact absurd q (by decide)))
theorem lc_if_eq {x y : Int64} {off : Int} {tgt : Nat} (hx : p.tables.exec = Jvm.exec) (hb : c.code = cc) (hdg : decode cc pc = .ok (.ifCond .eq off, 3)) (ht : (pc : Int) + off = (tgt : Int)) (kt : x = y → W p l e R s m args below meth c H locs cells slots Q (F0 m tgt ls rest)) (kf : ¬ x = y → W p l e R s m args below meth c H locs cells slots Q (F0 m (pc + 3) ls rest)) : W p l e R s m args below meth c H locs cells slots Q (F0 m pc ls (.int (lg_cmp x y) :: rest)) :=
  lv_if_eq hx hb hdg ht (fun q => kt ((lg_cmp_eq x y).mp q)) (fun q => kf (fun z => q ((lg_cmp_eq x y).mpr z)))
theorem lc_if_lt {x y : Int64} {off : Int} {tgt : Nat} (hx : p.tables.exec = Jvm.exec) (hb : c.code = cc) (hdg : decode cc pc = .ok (.ifCond .lt off, 3)) (ht : (pc : Int) + off = (tgt : Int)) (kt : x < y → W p l e R s m args below meth c H locs cells slots Q (F0 m tgt ls rest)) (kf : ¬ x < y → W p l e R s m args below meth c H locs cells slots Q (F0 m (pc + 3) ls rest)) : W p l e R s m args below meth c H locs cells slots Q (F0 m pc ls (.int (lg_cmp x y) :: rest)) :=
  lv_if_lt hx hb hdg ht (fun q => kt ((lg_cmp_lt x y).mp q)) (fun q => kf (fun z => q ((lg_cmp_lt x y).mpr z)))
theorem lc_if_ge {x y : Int64} {off : Int} {tgt : Nat} (hx : p.tables.exec = Jvm.exec) (hb : c.code = cc) (hdg : decode cc pc = .ok (.ifCond .ge off, 3)) (ht : (pc : Int) + off = (tgt : Int)) (kt : y ≤ x → W p l e R s m args below meth c H locs cells slots Q (F0 m tgt ls rest)) (kf : ¬ y ≤ x → W p l e R s m args below meth c H locs cells slots Q (F0 m (pc + 3) ls rest)) : W p l e R s m args below meth c H locs cells slots Q (F0 m pc ls (.int (lg_cmp x y) :: rest)) :=
  lv_if_ge hx hb hdg ht (fun q => kt ((lg_cmp_ge x y).mp q)) (fun q => kf (fun z => q ((lg_cmp_ge x y).mpr z)))
theorem lc_if_gt {x y : Int64} {off : Int} {tgt : Nat} (hx : p.tables.exec = Jvm.exec) (hb : c.code = cc) (hdg : decode cc pc = .ok (.ifCond .gt off, 3)) (ht : (pc : Int) + off = (tgt : Int)) (kt : y < x → W p l e R s m args below meth c H locs cells slots Q (F0 m tgt ls rest)) (kf : ¬ y < x → W p l e R s m args below meth c H locs cells slots Q (F0 m (pc + 3) ls rest)) : W p l e R s m args below meth c H locs cells slots Q (F0 m pc ls (.int (lg_cmp x y) :: rest)) :=
  lv_if_gt hx hb hdg ht (fun q => kt ((lg_cmp_gt x y).mp q)) (fun q => kf (fun z => q ((lg_cmp_gt x y).mpr z)))
theorem lc_if_le {x y : Int64} {off : Int} {tgt : Nat} (hx : p.tables.exec = Jvm.exec) (hb : c.code = cc) (hdg : decode cc pc = .ok (.ifCond .le off, 3)) (ht : (pc : Int) + off = (tgt : Int)) (kt : x ≤ y → W p l e R s m args below meth c H locs cells slots Q (F0 m tgt ls rest)) (kf : ¬ x ≤ y → W p l e R s m args below meth c H locs cells slots Q (F0 m (pc + 3) ls rest)) : W p l e R s m args below meth c H locs cells slots Q (F0 m pc ls (.int (lg_cmp x y) :: rest)) :=
  lv_if_le hx hb hdg ht (fun q => kt ((lg_cmp_le x y).mp q)) (fun q => kf (fun z => q ((lg_cmp_le x y).mpr z)))
theorem lc_if_ne {x y : Int64} {off : Int} {tgt : Nat} (hx : p.tables.exec = Jvm.exec) (hb : c.code = cc) (hdg : decode cc pc = .ok (.ifCond .ne off, 3)) (ht : (pc : Int) + off = (tgt : Int)) (kt : ¬ x = y → W p l e R s m args below meth c H locs cells slots Q (F0 m tgt ls rest)) (kf : x = y → W p l e R s m args below meth c H locs cells slots Q (F0 m (pc + 3) ls rest)) : W p l e R s m args below meth c H locs cells slots Q (F0 m pc ls (.int (lg_cmp x y) :: rest)) :=
  lv_if_ne hx hb hdg ht (fun q => kt (fun z => q ((lg_cmp_eq x y).mpr z))) (fun q => kf ((lg_cmp_eq x y).mp q))
theorem n_inc (x k : Nat) : nI x + Int32.ofInt (k : Int) = nI (x + k) := by rw [show Int32.ofInt (k : Int) = nI k from Int32.ofInt_eq_ofNat.symm]; exact nI_add x k
theorem zb_1 {b : Bool} (h : b = true) : nI 1 = zb b := by rw [h]; rfl
theorem zb_0 {b : Bool} (h : b = false) : nI 0 = zb b := by rw [h]; rfl
end RULES
