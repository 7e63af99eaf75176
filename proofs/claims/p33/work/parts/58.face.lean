/-! faces: methods that return, or throw one exception; what a launch's tables give for it -/
def strW : List (Nat × String) := [(83, "columns or rows is out of range"), (98, "no such line"), (106, "the line is drawn already"), (116, "no line is drawn"), (125, "style or moves is out of range"), (202, "what is not 0 to 10"), (204, "player is not 0 or 1"), (213, "the line is drawn"), (219, "no such move"), (227, "no such box"), (246, "no such string"), (248, "what is not 0 to 4"), (254, "what is not 0 to 5"), (259, "more than 10 strings"), (270, "more than 12 open lines"), (278, "the line is drawn, or more than 12 lines are open"), (293, "style is out of range"), (295, "zero, one or what is out of range"), (304, "games or seed is out of range")]
def xnW : List Cond := [.castable "java/lang/IllegalArgumentException" "java/lang/IllegalArgumentException", .castable "java/lang/IndexOutOfBoundsException" "java/lang/IndexOutOfBoundsException", .castable "java/lang/IllegalStateException" "java/lang/IllegalStateException", .declares ⟨"java/lang/RuntimeException", "<init>", "(Ljava/lang/String;)V"⟩, .declares ⟨"java/lang/Exception", "<init>", "(Ljava/lang/String;)V"⟩, .declares ⟨"java/lang/Throwable", "<init>", "(Ljava/lang/String;)V"⟩]
def XV (U : State) : Prop := (∀ q ∈ strW, ∃ a, vk_R RX8 q.1 q.2 a U) ∧ (∀ w ∈ xnW, va_Nw w U)
theorem XV.warm {s U : State} (hW : s.WarmedH U.vm) (h : XV s) : XV U := by
  obtain ⟨h1, h2⟩ := h
  refine ⟨fun q hq => ?_, fun w hw => ?_⟩
  · obtain ⟨a, ha⟩ := h1 q hq
    exact ⟨a, vk_R.warm hW ha⟩
  · have h := h2 w hw
    simp only [xnW, List.mem_cons, List.not_mem_nil, or_false] at hw
    rcases hw with rfl | rfl | rfl | rfl | rfl | rfl
    · exact va_Nw.warmC hW h
    · exact va_Nw.warmC hW h
    · exact va_Nw.warmC hW h
    · exact va_Nw.warmD hW h
    · exact va_Nw.warmD hW h
    · exact va_Nw.warmD hW h
theorem XV.same {s U : State} (hv : s.vm = U.vm) (h : XV s) : XV U := by
  obtain ⟨h1, h2⟩ := h
  refine ⟨fun q hq => ?_, fun w hw => ?_⟩
  · obtain ⟨a, ha⟩ := h1 q hq
    exact ⟨a, vk_R.same hv.symm ha⟩
  · have h := h2 w hw
    simp only [xnW, List.mem_cons, List.not_mem_nil, or_false] at hw
    rcases hw with rfl | rfl | rfl | rfl | rfl | rfl <;> exact va_Nw.same rfl hv h
def XZ (A : Nat → Prop) (U : State) (H : Heap) : Prop := vx_Zq Bundle.tN "UNASSIGNED_STACK" Bundle.steD A U H ∧ vx_Zq Bundle.tN "SUPPRESSED_SENTINEL" Bundle.listD A U H
theorem XZ.moved {A : Nat → Prop} {u U : State} {H : Heap} (hvm : u.vm.Alike U.vm) (h : XZ A u H) : XZ A U H := ⟨vx_Zq.moved hvm h.1, vx_Zq.moved hvm h.2⟩
theorem XZ.narrow {A B : Nat → Prop} {U : State} {H : Heap} (h : XZ A U H) (hAB : ∀ q, B q → A q) : XZ B U H := ⟨h.1.narrow hAB, h.2.narrow hAB⟩
theorem XZ.kept {A : Nat → Prop} {U : State} {H0 H : Heap} {locs : List Loc} (h : XZ A U H0) (hS : va_S A H0 H locs) : XZ A U H := ⟨h.1.kept hS.2.1, h.2.kept hS.2.1⟩
def FaP (D : va_G) (Y : vY) (Wd : va_W) (sz : Nat) : State → Prop := fun U => U.heap.size = sz ∧ va_P D vwCl Wd U.heap ∧ KK D Y U ∧ va_D (fun _ => True) Wd ∧ XV U ∧ XZ (va_A Wd sz) U U.heap
theorem FaP_blind {av : List Value} {D : va_G} {Y : vY} {Wd : va_W} {sz : Nat} : FrameBlind (va_Pc av (FaP D Y Wd sz)) := fun a U g mk q => ⟨q.1, q.2.1, q.2.2.1, KK.same (s := U) (U := U.calling g mk a) rfl q.2.2.2.1, q.2.2.2.2.1, XV.same (s := U) (U := U.calling g mk a) rfl q.2.2.2.2.2.1, XZ.moved (u := U) (U := U.calling g mk a) (Vm.Alike.refl _) q.2.2.2.2.2.2⟩
def FaQ {S : Type} (D : va_G) (Wd : va_W) (sz kd : Nat) (v : S → Option Value) (W' : S → va_W) (post : S → Prop) : Array Value → State → Outcome → State → Prop := fun _ st o t => (kd = 0 ∧ ∃ u : S, o = .returned (v u) ∧ post u ∧ va_P D vwCl (W' u) t.heap) ∧ va_F (va_A Wd sz) st t
def FaX {S : Type} (D : va_G) (Wd : va_W) (sz kd : Nat) (E1 E2 : String) (W' : S → va_W) (post : S → Prop) : String → State → State → Prop := fun E st t => (kd ≠ 0 ∧ E = (if kd = 1 then E1 else E2) ∧ ∃ u : S, post u ∧ va_P D vwCl (W' u) t.heap) ∧ va_F (va_A Wd sz) st t
def Fa {S : Type} (l : Launch) (y : MethodName) (ws : List Cond) (rm : Room) (av : List Value) (D : va_G) (Y : vY) (Wd : va_W) (sz kd : Nat) (E1 E2 : String) (v : S → Option Value) (W' : S → va_W) (post : S → Prop) : Prop := vx_Met l y ws rm (va_Pc av (FaP D Y Wd sz)) (FaQ D Wd sz kd v W' post) (FaX D Wd sz kd E1 E2 W' post) 1 6 (va_A Wd sz)
def WrQ {S : Type} (D : va_G) (Wd : va_W) (sz : Nat) (v : S → Option Value) (W' : S → va_W) (post : S → Prop) : Array Value → State → Outcome → State → Prop := fun _ st o t => (∃ u : S, o = .returned (v u) ∧ post u ∧ va_P D vwCl (W' u) t.heap) ∧ va_F (va_A Wd sz) st t
def Wr {S : Type} (l : Launch) (y : MethodName) (ws : List Cond) (rm : Room) (av : List Value) (D : va_G) (Y : vY) (Wd : va_W) (sz : Nat) (v : S → Option Value) (W' : S → va_W) (post : S → Prop) : Prop := Met l y ws rm (va_Pc av (FaP D Y Wd sz)) (WrQ D Wd sz v W' post) 1 6 (va_A Wd sz)
section FACE
variable {p : Program} {l : Launch} {e : Env} {R : Room} {s : State} {m : MethodId} {args : Array Value} {below : List Frame} {meth : Method} {c : Code} {H : Heap} {locs : List Loc} {cells slots : Nat} {Q : State → Prop}
variable {cc : ByteArray} {pc : Nat} {ls : Array Slot} {rest st0 : List Value} {D : va_G} {Y : vY} {Wd ws : va_W} {A H0A : Nat → Prop} {H0 : Heap}
theorem fa_pS {As : List Value} (hK : KK D Y s) (hP : va_P D vwCl Wd H) (hD : va_D A Wd) (hXV : XV s) (hXZ : XZ A s H) (hfr : ∀ q, va_A Wd H.size q → A q) : PreS s H (va_Pc As (FaP D Y Wd H.size)) As :=
  ⟨FaP_blind, fun U hU hW => ⟨rfl, by rw [hU], by rw [hU]; exact hP, KK.warm hW hK, hD.weaken (fun _ _ _ _ => trivial), XV.warm hW hXV, by rw [hU]; exact (hXZ.narrow hfr).moved hW.alike⟩⟩
theorem fa_pV {b : Nat} {C : String} {As : List Value} (hK : KK D Y s) (hP : va_P D vwCl Wd H) (hD : va_D A Wd) (hXV : XV s) (hXZ : XZ A s H) (hfr : ∀ q, va_A Wd H.size q → A q) (hR : ∃ cell : Cell, H[b]? = some cell ∧ cell.vm.isStatics = false ∧ s.vm.findClass C = some cell.cls) : PreV s H C b (va_Pc (.ref b :: As) (FaP D Y Wd H.size)) As :=
  ⟨FaP_blind, hR, fun U hU hW => ⟨rfl, by rw [hU], by rw [hU]; exact hP, KK.warm hW hK, hD.weaken (fun _ _ _ _ => trivial), XV.warm hW hXV, by rw [hU]; exact (hXZ.narrow hfr).moved hW.alike⟩⟩
/-- the whole world behind a call over a part of it, new cells or not -/
theorem wput {K : Heap} {L : List Loc} {W1 ws1 : va_W} (hP : va_P D vwCl ws H) (hD : va_D A ws) (hS : va_S A H0 H locs) (hA : ∀ q, H0.size ≤ q → A q) (isC : List Nat) (hC : isC.map (fun i => ws[i]?) = Wd.map some) (hn : va_nd isC = true) (h1 : putAt ws isC W1 = ws1) (hf : W1.map Prod.fst = Wd.map Prod.fst)
    (hb : va_P D vwCl W1 K) (hz : H.size ≤ K.size) (hk : ∀ q : Nat, q < H.size → ¬ va_A Wd H.size q → K[q]? = H[q]?) (hL : ∀ q ∈ L, va_A Wd H.size q.base) : va_P D vwCl ws1 K ∧ va_D A ws1 ∧ va_S A H0 K (locs ++ L) := by
  have at' : ∀ (k : Nat) (q : Nat × va_E), Wd[k]? = some q → ∃ i, isC[k]? = some i ∧ ws[i]? = some q := by
    intro k q hq
    have h1 : (isC.map (fun i => ws[i]?))[k]? = some (some q) := by rw [hC, List.getElem?_map, hq]; rfl
    rw [List.getElem?_map] at h1
    cases hi : isC[k]? with
    | none => rw [hi] at h1; cases h1
    | some i => rw [hi] at h1; exact ⟨i, rfl, Option.some.inj h1⟩
  have hfree : ∀ q, va_A Wd H.size q → A q := va_free hD hS hA isC hC
  have hlen : isC.length = W1.length := by
    have a1 := congrArg List.length hC
    have a2 := congrArg List.length hf
    simp only [List.length_map] at a1 a2
    omega
  have key : ∀ (k : Nat) (q : Nat × va_E), ws1[k]? = some q → ∃ q0, ws[k]? = some q0 ∧ q0.1 = q.1 ∧ va_at D vwCl q K := by
    intro k q hq
    rw [← h1] at hq
    rcases putAt_get isC W1 ws k q hn hlen hq with ⟨j, hj, hw⟩ | ⟨hni, hw⟩
    · have hjl : j < Wd.length := by
        have a2 := congrArg List.length hf
        simp only [List.length_map] at a2
        have := (List.getElem?_eq_some_iff.mp hw).1
        omega
      obtain ⟨i, hi, hi2⟩ := at' j Wd[j] (List.getElem?_eq_getElem hjl)
      rw [hj] at hi
      cases hi
      refine ⟨_, hi2, ?_, hb j q hw⟩
      have a3 : (W1.map Prod.fst)[j]? = (Wd.map Prod.fst)[j]? := by rw [hf]
      rw [List.getElem?_map, List.getElem?_map, hw, List.getElem?_eq_getElem hjl] at a3
      exact (Option.some.inj a3).symm
    · refine ⟨q, hw, rfl, (hP k q hw).kept (hk q.1 (hP k q hw).lt ?_)⟩
      intro hin
      rcases hin with ⟨j, e2, h⟩ | hge
      · obtain ⟨i, hi, hi2⟩ := at' j _ h
        have := hD.1 k i q _ hw hi2 rfl
        subst this
        exact hni (List.mem_of_getElem? hi)
      · have := (hP k q hw).lt
        omega
  exact ⟨fun k q hq => (key k q hq).choose_spec.2.2, ⟨fun i j x y hx hy hxy => by
      obtain ⟨x0, h3, h4, -⟩ := key i x hx
      obtain ⟨y0, h5, h6, -⟩ := key j y hy
      exact hD.1 i j x0 y0 h3 h5 (by rw [h4, h6, hxy]), fun k q hq => by
      obtain ⟨x0, h3, h4, -⟩ := key k q hq
      rw [← h4]
      exact hD.2 k x0 h3⟩, Nat.le_trans hS.1 hz, fun q h1 h2 => by rw [hk q (Nat.lt_of_lt_of_le h1 hS.1) (fun z => h2 (hfree q z))]; exact hS.2.1 q h1 h2, fun q hq => by
      rcases List.mem_append.mp hq with h | h
      · exact hS.2.2 q h
      · exact hfree _ (hL q h)⟩
/-- a call of a face -/
theorem fa_go {S : Type} {kd : Nat} {E1 E2 : String} {v : S → Option Value} {W' : S → va_W} {post : S → Prop} {a : Array Value} (hr : vx_Run p l e R s m args below meth c H locs cells slots 1 6 (F0 m pc ls st0) rest (FaQ D Wd H.size kd v W' post a) (FaX D Wd H.size kd E1 E2 W' post) (va_A Wd H.size))
    (hP : va_P D vwCl ws H) (hD : va_D A ws) (hS : va_S A H0 H locs) (hA : ∀ q, H0.size ≤ q → A q) (isC : List Nat) (hC : isC.map (fun i => ws[i]?) = Wd.map some) (hn : va_nd isC = true) (ws1 : S → va_W) (h1 : ∀ u, putAt ws isC (W' u) = ws1 u) (hf : ∀ u, (W' u).map Prod.fst = Wd.map Prod.fst)
    (kx : kd ≠ 0 → ∀ (u : S) (q9 : Addr) (ce : Cell) (H1 : Heap) (locs1 : List Loc), post u → va_P D vwCl (ws1 u) H1 → va_D A (ws1 u) → va_S A H0 H1 locs1 → H1[q9]? = some ce → ce.vm = .none → s.vm.findClass (if kd = 1 then E1 else E2) = some ce.cls → vx_W p l e R s m args below meth c H1 locs1 (cells + 1) (slots + 6) Q (F0 m pc ls rest) q9)
    (kk : kd = 0 → ∀ (u : S) (H1 : Heap) (locs1 : List Loc), post u → va_P D vwCl (ws1 u) H1 → va_D A (ws1 u) → va_S A H0 H1 locs1 → W p l e R s m args below meth c H1 locs1 (cells + 1) (slots + 6) Q (F0 m (pc + 3) ls ((v u).toList ++ rest))) : W p l e R s m args below meth c H locs cells slots Q (F0 m pc ls st0) := by
  intro T hT X
  rcases hr T hT X with ⟨v1, st₀, t, T', L, h0, X', hL, e1, e2, ⟨⟨hk0, u, hv, hp, hb⟩, hz, hk⟩, st⟩ | ⟨q, st₀, t, T', L, E, ce, h0, X', hL, e1, e2, ⟨⟨hk0, rfl, u, hp, hb⟩, hz, hk⟩, hce, hcv, hcl, st⟩
  · cases hv
    rw [h0] at hz hk
    rw [← e1] at hb hz hk
    obtain ⟨k1, k2, k3⟩ := wput hP hD hS hA isC hC hn (h1 u) (hf u) hb hz hk hL
    obtain ⟨t2, a1, b1⟩ := kk hk0 u T'.heap (locs ++ L) hp k1 k2 k3 T' rfl X'
    exact ⟨t2, st t2 a1, b1⟩
  · rw [h0] at hz hk
    rw [← e1] at hb hz hk hce
    obtain ⟨k1, k2, k3⟩ := wput hP hD hS hA isC hC hn (h1 u) (hf u) hb hz hk hL
    obtain ⟨t2, a1, b1⟩ := kx hk0 u q ce T'.heap (locs ++ L) hp k1 k2 k3 hce hcv hcl T' rfl X'
    exact ⟨t2, st.trans a1, b1⟩
/-- a call of a wrapper -/
theorem wr_go {S : Type} {v : S → Option Value} {W' : S → va_W} {post : S → Prop} {a : Array Value} (hr : va_Run p l e R s m args below meth c H locs cells slots 1 6 (F0 m pc ls st0) rest (WrQ D Wd H.size v W' post a) (va_A Wd H.size))
    (hP : va_P D vwCl ws H) (hD : va_D A ws) (hS : va_S A H0 H locs) (hA : ∀ q, H0.size ≤ q → A q) (isC : List Nat) (hC : isC.map (fun i => ws[i]?) = Wd.map some) (hn : va_nd isC = true) (ws1 : S → va_W) (h1 : ∀ u, putAt ws isC (W' u) = ws1 u) (hf : ∀ u, (W' u).map Prod.fst = Wd.map Prod.fst)
    (kk : ∀ (u : S) (H1 : Heap) (locs1 : List Loc), post u → va_P D vwCl (ws1 u) H1 → va_D A (ws1 u) → va_S A H0 H1 locs1 → W p l e R s m args below meth c H1 locs1 (cells + 1) (slots + 6) Q (F0 m (pc + 3) ls ((v u).toList ++ rest))) : W p l e R s m args below meth c H locs cells slots Q (F0 m pc ls st0) := by
  intro T hT X
  obtain ⟨v1, st₀, t, T', L, h0, X', hL, e1, e2, ⟨⟨u, hv, hp, hb⟩, hz, hk⟩, st⟩ := hr T hT X
  cases hv
  rw [h0] at hz hk
  rw [← e1] at hb hz hk
  obtain ⟨k1, k2, k3⟩ := wput hP hD hS hA isC hC hn (h1 u) (hf u) hb hz hk hL
  obtain ⟨t2, a1, b1⟩ := kk u T'.heap (locs ++ L) hp k1 k2 k3 T' rfl X'
  exact ⟨t2, st t2 a1, b1⟩
theorem fa_intro {S : Type} {y : MethodName} {wl wl' : List Cond} {rm : Room} {av : List Value} {kd sz : Nat} {E1 E2 : String} {v : S → Option Value} {W' : S → va_W} {post : S → Prop} {maxL : Nat} {ret : Option FieldType} (hy : plainName y.cls = true) (hw : wl = Cond.code y cc maxL ret :: wl') (hn : (lg_sl av).length ≤ maxL) (lv : List (Nat × Value)) (hlv : lv_args 0 av = lv)
    (body : ∀ (p : Program) (e : Env) (s : State) (m : MethodId) (args : Array Value) (below : List Frame) (meth : Method) (c : Code) (ls : Array Slot), p.tables.exec = Jvm.exec → c.code = cc → meth.sig.returnType = ret → c.maxLocals = maxL → (∀ w ∈ wl, w.before args s = true) → s.vm.findClass y.cls = some m.cls → meth.locks = false → KK D Y s → XV s → XZ (va_A Wd s.heap.size) s s.heap → (∀ x ∈ c.exceptionTable.toList, False) → va_P D vwCl Wd s.heap → va_D (va_A Wd s.heap.size) Wd → va_S (va_A Wd s.heap.size) s.heap s.heap [] → lv_has ls maxL lv →
      W p l e rm s m args below meth c s.heap [] 0 0 (vx_MQ below (FaQ D Wd s.heap.size kd v W' post) (FaX D Wd s.heap.size kd E1 E2 W' post) args s 1 6 (va_A Wd s.heap.size)) (F0 m 0 ls [])) : Fa l y wl rm av D Y Wd sz kd E1 E2 v W' post := by
  refine vx_ofW (cc := cc) (maxL := maxL) (ret := ret) hy hw ?_
  intro p e s m args below meth c s₁ B hml hx hv
  obtain ⟨rfl, rfl, hP, hK, hD, hXV, hXZ⟩ := hv
  rw [lg_entry_eq]
  have hl := lv_entry av (n := maxL) hn
  rw [hlv] at hl
  exact body p e s m _ below meth c _ B.exec B.bytes B.returns hml (atoms_spec (ws := wl) B.pre) (findClass_of_methodNamed B.named) B.notSynchronized hK hXV hXZ hx hP hD.self va_S.rf hl
theorem wr_intro {S : Type} {y : MethodName} {wl wl' : List Cond} {rm : Room} {av : List Value} {sz : Nat} {v : S → Option Value} {W' : S → va_W} {post : S → Prop} {maxL : Nat} {ret : Option FieldType} {hh : List (Nat × Nat × Nat × Nat)} (hy : plainName y.cls = true) (hw : wl = Cond.codeWith y cc maxL ret hh :: wl') (hn : (lg_sl av).length ≤ maxL) (lv : List (Nat × Value)) (hlv : lv_args 0 av = lv)
    (body : ∀ (p : Program) (e : Env) (s : State) (m : MethodId) (args : Array Value) (below : List Frame) (meth : Method) (c : Code) (ls : Array Slot), p.tables.exec = Jvm.exec → c.code = cc → meth.sig.returnType = ret → c.maxLocals = maxL → (∀ w ∈ wl, w.before args s = true) → s.vm.findClass y.cls = some m.cls → meth.locks = false → KK D Y s → XV s → XZ (va_A Wd s.heap.size) s s.heap → c.exceptionTable.toList = tableOf hh → va_P D vwCl Wd s.heap → va_D (va_A Wd s.heap.size) Wd → va_S (va_A Wd s.heap.size) s.heap s.heap [] → lv_has ls maxL lv →
      W p l e rm s m args below meth c s.heap [] 0 0 (MQ below (WrQ D Wd s.heap.size v W' post) args s 1 6 (va_A Wd s.heap.size)) (F0 m 0 ls [])) : Wr l y wl rm av D Y Wd sz v W' post := by
  refine va_MetW (cc := cc) (maxL := maxL) (ret := ret) (hh := hh) hy hw ?_
  intro p e s m args below meth c s₁ B hml hv
  obtain ⟨rfl, rfl, hP, hK, hD, hXV, hXZ⟩ := hv
  rw [lg_entry_eq]
  have hl := lv_entry av (n := maxL) hn
  rw [hlv] at hl
  have hts := atoms_spec (ws := wl) B.pre
  exact body p e s m _ below meth c _ B.exec B.bytes B.returns hml hts (findClass_of_methodNamed B.named) B.notSynchronized hK hXV hXZ (vx_table (x := y) B (hts _ (by rw [hw]; exact List.mem_cons_self))) hP hD.self va_S.rf hl
theorem fa_iret {S : Type} {kd : Nat} {v : S → Option Value} {W' : S → va_W} {post : S → Prop} {XC : String → State → State → Prop} {x : Int32} (hx : p.tables.exec = Jvm.exec) (hb : c.code = cc) (hr : meth.sig.returnType = some .int) (hlocks : meth.locks = false) (hP : va_P D vwCl ws H) (hS : va_S (va_A Wd s.heap.size) s.heap H locs) (hk : kd = 0) (u : S) (hv : v u = some (.int x)) (hp : post u) (hw : W' u = ws) (hdg : decode cc pc = .ok (.ireturn, 1)) : W p l e R s m args below meth c H locs 0 0 (vx_MQ below (FaQ D Wd s.heap.size kd v W' post) XC args s 1 6 (va_A Wd s.heap.size)) (F0 m pc ls [.int x]) :=
  W.widen (k := 1) (n := 6) (by omega) (by omega) (vx_ret (W.iret hx hb hr (fun t ht _ => ⟨⟨hk, u, by rw [hv], hp, by rw [ht, hw]; exact hP⟩, hS.F ht⟩) hS.2.2 hdg hlocks))
theorem fa_dret {S : Type} {kd : Nat} {v : S → Option Value} {W' : S → va_W} {post : S → Prop} {XC : String → State → State → Prop} {x : UInt64} (hx : p.tables.exec = Jvm.exec) (hb : c.code = cc) (hr : meth.sig.returnType = some .double) (hlocks : meth.locks = false) (hP : va_P D vwCl ws H) (hS : va_S (va_A Wd s.heap.size) s.heap H locs) (hk : kd = 0) (u : S) (hv : v u = some (.double x)) (hp : post u) (hw : W' u = ws) (hdg : decode cc pc = .ok (.dreturn, 1)) : W p l e R s m args below meth c H locs 0 0 (vx_MQ below (FaQ D Wd s.heap.size kd v W' post) XC args s 1 6 (va_A Wd s.heap.size)) (F0 m pc ls [.double x]) :=
  W.widen (k := 1) (n := 6) (by omega) (by omega) (vx_ret (W.dret hx hb hr (fun t ht _ => ⟨⟨hk, u, by rw [hv], hp, by rw [ht, hw]; exact hP⟩, hS.F ht⟩) hS.2.2 hdg hlocks))
theorem wr_iret {S : Type} {v : S → Option Value} {W' : S → va_W} {post : S → Prop} {x : Int32} (hx : p.tables.exec = Jvm.exec) (hb : c.code = cc) (hr : meth.sig.returnType = some .int) (hlocks : meth.locks = false) (hP : va_P D vwCl ws H) (hS : va_S (va_A Wd s.heap.size) s.heap H locs) (u : S) (hv : v u = some (.int x)) (hp : post u) (hw : W' u = ws) (hdg : decode cc pc = .ok (.ireturn, 1)) : W p l e R s m args below meth c H locs (0 + 1) (0 + 6) (MQ below (WrQ D Wd s.heap.size v W' post) args s 1 6 (va_A Wd s.heap.size)) (F0 m pc ls [.int x]) :=
  W.iret hx hb hr (fun t ht _ => ⟨⟨u, by rw [hv], hp, by rw [ht, hw]; exact hP⟩, hS.F ht⟩) hS.2.2 hdg hlocks
/-- the words of a throw -/
theorem fa_hat {cls : String} {ic : Nat} (hXV : XV s) (hg : ∀ w ∈ (vx_atS RX8 ic cls ["java/lang/RuntimeException", "java/lang/Exception"]).filter goodWord, w.before args s = true) (hn : ∀ w ∈ (vx_atS RX8 ic cls ["java/lang/RuntimeException", "java/lang/Exception"]).filter (fun w => !goodWord w), w ∈ xnW) : ∀ w ∈ vx_atS RX8 ic cls ["java/lang/RuntimeException", "java/lang/Exception"], w.before args s = true :=
  vx_hat (B := xnW) hg hn (fun w hw => by
    have h := hXV.2 w hw
    simp only [xnW, List.mem_cons, List.not_mem_nil, or_false] at hw
    rcases hw with rfl | rfl | rfl | rfl | rfl | rfl <;> exact va_Nw.use rfl h)
theorem fa_throw {S : Type} {kd : Nat} {E1 E2 : String} {Qc : Array Value → State → Outcome → State → Prop} {W' : S → va_W} {post : S → Prop} (hx : p.tables.exec = Jvm.exec) (hb : c.code = cc) (hl9 : l.stackTraces = false) {cls text : String} {ik is ic : Nat} (hown : s.vm.findClass RX8 = some m.cls) (hcls : Bundle.fit cls = true) (hk : (Cond.classLink RX8 ik cls).before args s = true) (hini : (Cond.initialized cls).before args s = true) (hstr : (is, text) ∈ strW)
    (hg : ∀ w ∈ (vx_atS RX8 ic cls ["java/lang/RuntimeException", "java/lang/Exception"]).filter goodWord, w.before args s = true) (hn : ∀ w ∈ (vx_atS RX8 ic cls ["java/lang/RuntimeException", "java/lang/Exception"]).filter (fun w => !goodWord w), w ∈ xnW) (hgood : ∀ w ∈ Cond.classLink RX8 ik cls :: Cond.initialized cls :: vx_atS RX8 ic cls ["java/lang/RuntimeException", "java/lang/Exception"], vx_ot w = true)
    (hXV : XV s) (hXZ : XZ (va_A Wd s.heap.size) s s.heap) (hS : va_S (va_A Wd s.heap.size) s.heap H locs) (hsize : ls.size = c.maxLocals)
    (d0 : decode cc pc = .ok (.new ik, 3)) (d3 : decode cc (pc + 3) = .ok (.dup, 1)) (d4 : decode cc (pc + 4) = .ok (.ldc is, 2)) (d6 : decode cc (pc + 6) = .ok (.invokespecial ic, 3)) (d9 : decode cc (pc + 9) = .ok (.athrow, 1)) (hout : ∀ x ∈ c.exceptionTable.toList, False)
    (hRf : 5 < R.frames) (hRl : (rest.map fun v => v.category).sum + 82 ≤ R.locals) (hRc : 1 ≤ R.cells) (hRs : 6 ≤ R.slots) (hlocks : meth.locks = false) (hkd : kd ≠ 0) (hE : cls = (if kd = 1 then E1 else E2)) (u : S) (hp : post u) (hw : W' u = ws) (hP : va_P D vwCl ws H) :
    W p l e R s m args below meth c H locs 0 0 (vx_MQ below Qc (FaX D Wd s.heap.size kd E1 E2 W' post) args s 1 6 (va_A Wd s.heap.size)) (F0 m pc ls rest) := by
  obtain ⟨sa, hsa⟩ := hXV.1 _ hstr
  exact vx_throwS (own := RX8) (cls := cls) (names := ["java/lang/RuntimeException", "java/lang/Exception"]) hx hb hl9 hown hcls (by decide +kernel) hk hini hsa (fa_hat hXV hg hn) hgood hXZ.1 hXZ.2 hS hsize d0 d3 d4 d6 d9 (fun x h => (hout x h).elim) hRf hRl (by omega) (by omega) hlocks
    (fun t ha hsz hk9 => ⟨⟨hkd, hE, u, hp, by rw [hw]; exact hP.kept (fun k q hq => hk9 q.1 (hP k q hq).lt)⟩, Nat.le_trans hS.1 hsz, fun q h1 h2 => (hk9 q (Nat.lt_of_lt_of_le h1 hS.1)).trans (hS.2.1 q h1 h2)⟩) hS.2.2 (by omega) (by omega)
theorem fa_throwW {S : Type} {kd : Nat} {E1 E2 : String} {Qc : Array Value → State → Outcome → State → Prop} {W' : S → va_W} {post : S → Prop} (hx : p.tables.exec = Jvm.exec) (hb : c.code = cc) (hl9 : l.stackTraces = false) {cls text : String} {ik is ic : Nat} (hown : s.vm.findClass RX8 = some m.cls) (hcls : Bundle.fit cls = true) (hk : (Cond.classLink RX8 ik cls).before args s = true) (hini : (Cond.initialized cls).before args s = true) (hstr : (is, text) ∈ strW)
    (hg : ∀ w ∈ (vx_atS RX8 ic cls ["java/lang/RuntimeException", "java/lang/Exception"]).filter goodWord, w.before args s = true) (hn : ∀ w ∈ (vx_atS RX8 ic cls ["java/lang/RuntimeException", "java/lang/Exception"]).filter (fun w => !goodWord w), w ∈ xnW) (hgood : ∀ w ∈ Cond.classLink RX8 ik cls :: Cond.initialized cls :: vx_atS RX8 ic cls ["java/lang/RuntimeException", "java/lang/Exception"], vx_ot w = true)
    (hXV : XV s) (hXZ : XZ (va_A Wd s.heap.size) s s.heap) (hS : va_S (va_A Wd s.heap.size) s.heap H locs) (hsize : ls.size = c.maxLocals)
    (d0 : decode cc pc = .ok (.new ik, 3)) (d3 : decode cc (pc + 3) = .ok (.dup, 1)) (d4 : decode cc (pc + 4) = .ok (.ldc_w is, 3)) (d6 : decode cc (pc + 7) = .ok (.invokespecial ic, 3)) (d9 : decode cc (pc + 10) = .ok (.athrow, 1)) (hout : ∀ x ∈ c.exceptionTable.toList, False)
    (hRf : 5 < R.frames) (hRl : (rest.map fun v => v.category).sum + 82 ≤ R.locals) (hRc : 1 ≤ R.cells) (hRs : 6 ≤ R.slots) (hlocks : meth.locks = false) (hkd : kd ≠ 0) (hE : cls = (if kd = 1 then E1 else E2)) (u : S) (hp : post u) (hw : W' u = ws) (hP : va_P D vwCl ws H) :
    W p l e R s m args below meth c H locs 0 0 (vx_MQ below Qc (FaX D Wd s.heap.size kd E1 E2 W' post) args s 1 6 (va_A Wd s.heap.size)) (F0 m pc ls rest) := by
  obtain ⟨sa, hsa⟩ := hXV.1 _ hstr
  exact vx_throwSW (own := RX8) (cls := cls) (names := ["java/lang/RuntimeException", "java/lang/Exception"]) hx hb hl9 hown hcls (by decide +kernel) hk hini hsa (fa_hat hXV hg hn) hgood hXZ.1 hXZ.2 hS hsize d0 d3 d4 d6 d9 (fun x h => (hout x h).elim) hRf hRl (by omega) (by omega) hlocks
    (fun t ha hsz hk9 => ⟨⟨hkd, hE, u, hp, by rw [hw]; exact hP.kept (fun k q hq => hk9 q.1 (hP k q hq).lt)⟩, Nat.le_trans hS.1 hsz, fun q h1 h2 => (hk9 q (Nat.lt_of_lt_of_le h1 hS.1)).trans (hS.2.1 q h1 h2)⟩) hS.2.2 (by omega) (by omega)
end FACE
