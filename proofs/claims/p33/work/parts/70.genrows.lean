/-! p33: contracts that make arrays and call the class's faces (Wg); the law's row of four numbers (dF); reading its script in a callee -/
def Wg {S : Type} (l : Launch) (y : MethodName) (ws : List Cond) (rm : Room) (av : List Value) (D : va_G) (Y : vY) (Wd : va_W) (sz mc ms : Nat) (v : S → Option Value) (W' : S → va_W) (post : S → Prop) : Prop := Met l y ws rm (va_Pc av (FaP D Y Wd sz)) (WrQ D Wd sz v W' post) mc ms (va_A Wd sz)
section GENR
variable {p : Program} {l : Launch} {e : Env} {R : Room} {s : State} {m : MethodId} {args : Array Value} {below : List Frame} {meth : Method} {c : Code} {H : Heap} {locs : List Loc} {cells slots : Nat} {Q : State → Prop}
variable {cc : ByteArray} {pc : Nat} {ls : Array Slot} {rest st0 : List Value} {D : va_G} {Y : vY} {Wd ws : va_W} {A H0A : Nat → Prop} {H0 : Heap}
theorem wg_go {S : Type} {v : S → Option Value} {W' : S → va_W} {post : S → Prop} {a : Array Value} {mc ms : Nat} (hr : va_Run p l e R s m args below meth c H locs cells slots mc ms (F0 m pc ls st0) rest (WrQ D Wd H.size v W' post a) (va_A Wd H.size))
    (hP : va_P D vwCl ws H) (hD : va_D A ws) (hS : va_S A H0 H locs) (hA : ∀ q, H0.size ≤ q → A q) (isC : List Nat) (hC : isC.map (fun i => ws[i]?) = Wd.map some) (hn : va_nd isC = true) (ws1 : S → va_W) (h1 : ∀ u, putAt ws isC (W' u) = ws1 u) (hf : ∀ u, (W' u).map Prod.fst = Wd.map Prod.fst)
    (kk : ∀ (u : S) (H1 : Heap) (locs1 : List Loc), post u → va_P D vwCl (ws1 u) H1 → va_D A (ws1 u) → va_S A H0 H1 locs1 → W p l e R s m args below meth c H1 locs1 (cells + mc) (slots + ms) Q (F0 m (pc + 3) ls ((v u).toList ++ rest))) : W p l e R s m args below meth c H locs cells slots Q (F0 m pc ls st0) := by
  intro T hT X
  obtain ⟨v1, st₀, t, T', L, h0, X', hL, e1, e2, ⟨⟨u, hv, hp, hb⟩, hz, hk⟩, st⟩ := hr T hT X
  cases hv
  rw [h0] at hz hk
  rw [← e1] at hb hz hk
  obtain ⟨k1, k2, k3⟩ := wput hP hD hS hA isC hC hn (h1 u) (hf u) hb hz hk hL
  obtain ⟨t2, a1, b1⟩ := kk u T'.heap (locs ++ L) hp k1 k2 k3 T' rfl X'
  exact ⟨t2, st t2 a1, b1⟩
theorem wg_intro {S : Type} {y : MethodName} {wl wl' : List Cond} {rm : Room} {av : List Value} {sz mc ms : Nat} {v : S → Option Value} {W' : S → va_W} {post : S → Prop} {maxL : Nat} {ret : Option FieldType} (hy : plainName y.cls = true) (hw : wl = Cond.code y cc maxL ret :: wl') (hn : (lg_sl av).length ≤ maxL) (lv : List (Nat × Value)) (hlv : lv_args 0 av = lv)
    (body : ∀ (p : Program) (e : Env) (s : State) (m : MethodId) (args : Array Value) (below : List Frame) (meth : Method) (c : Code) (ls : Array Slot), p.tables.exec = Jvm.exec → c.code = cc → meth.sig.returnType = ret → c.maxLocals = maxL → (∀ w ∈ wl, w.before args s = true) → s.vm.findClass y.cls = some m.cls → meth.locks = false → KK D Y s → XV s → XZ (va_A Wd s.heap.size) s s.heap → va_P D vwCl Wd s.heap → va_D (va_A Wd s.heap.size) Wd → va_S (va_A Wd s.heap.size) s.heap s.heap [] → lv_has ls maxL lv →
      W p l e rm s m args below meth c s.heap [] 0 0 (MQ below (WrQ D Wd s.heap.size v W' post) args s mc ms (va_A Wd s.heap.size)) (F0 m 0 ls [])) : Wg l y wl rm av D Y Wd sz mc ms v W' post := by
  refine Met.ofW (cc := cc) (maxL := maxL) (ret := ret) hy hw ?_
  intro p e s m args below meth c s₁ B hml hv
  obtain ⟨rfl, rfl, hP, hK, hD, hXV, hXZ⟩ := hv
  rw [lg_entry_eq]
  have hl := lv_entry av (n := maxL) hn
  rw [hlv] at hl
  exact body p e s m _ below meth c _ B.exec B.bytes B.returns hml (atoms_spec (ws := wl) B.pre) (findClass_of_methodNamed B.named) B.notSynchronized hK hXV hXZ hP hD.self va_S.rf hl
theorem wg_iret {S : Type} {v : S → Option Value} {W' : S → va_W} {post : S → Prop} {x : Int32} {mc ms : Nat} (h1 : cells ≤ mc) (h2 : slots ≤ ms) (hx : p.tables.exec = Jvm.exec) (hb : c.code = cc) (hr : meth.sig.returnType = some .int) (hlocks : meth.locks = false) (hP : va_P D vwCl ws H) (hS : va_S (va_A Wd s.heap.size) s.heap H locs) (u : S) (hv : v u = some (.int x)) (hp : post u) (hw : W' u = ws) (hdg : decode cc pc = .ok (.ireturn, 1)) : W p l e R s m args below meth c H locs cells slots (MQ below (WrQ D Wd s.heap.size v W' post) args s mc ms (va_A Wd s.heap.size)) (F0 m pc ls [.int x]) :=
  W.widen (k := mc) (n := ms) h1 h2 (W.iret hx hb hr (fun t ht _ => ⟨⟨u, by rw [hv], hp, by rw [ht, hw]; exact hP⟩, hS.F ht⟩) hS.2.2 hdg hlocks)
theorem wg_zret {S : Type} {v : S → Option Value} {W' : S → va_W} {post : S → Prop} {x : Int32} {b : Bool} {mc ms : Nat} (h1 : cells ≤ mc) (h2 : slots ≤ ms) (hx : p.tables.exec = Jvm.exec) (hb : c.code = cc) (hr : meth.sig.returnType = some .boolean) (hlocks : meth.locks = false) (hP : va_P D vwCl ws H) (hS : va_S (va_A Wd s.heap.size) s.heap H locs) (u : S) (hz : x = zb b) (hv : v u = some (.int (zb b))) (hp : post u) (hw : W' u = ws) (hdg : decode cc pc = .ok (.ireturn, 1)) : W p l e R s m args below meth c H locs cells slots (MQ below (WrQ D Wd s.heap.size v W' post) args s mc ms (va_A Wd s.heap.size)) (F0 m pc ls [.int x]) := by
  subst hz
  exact W.widen (k := mc) (n := ms) h1 h2 (W.zret hx hb hr (zb_nar b) (fun t ht _ => ⟨⟨u, by rw [hv], hp, by rw [ht, hw]; exact hP⟩, hS.F ht⟩) hS.2.2 hdg hlocks)
end GENR
def dF (a b x y : Int32) : Nat → Int32
  | 0 => a
  | 1 => b
  | 2 => x
  | 3 => y
  | _ => 0
theorem dF_u0 {a b x y v : Int32} : upd (dF a b x y) 0 v = dF v b x y := by
  funext k
  match k with
  | 0 => exact pk_us
  | 1 => exact pk_un (by decide)
  | 2 => exact pk_un (by decide)
  | 3 => exact pk_un (by decide)
  | k + 4 => exact pk_un (by omega)
theorem dF_u1 {a b x y v : Int32} : upd (dF a b x y) 1 v = dF a v x y := by
  funext k
  match k with
  | 0 => exact pk_un (by decide)
  | 1 => exact pk_us
  | 2 => exact pk_un (by decide)
  | 3 => exact pk_un (by decide)
  | k + 4 => exact pk_un (by omega)
theorem dF_u2 {a b x y v : Int32} : upd (dF a b x y) 2 v = dF a b v y := by
  funext k
  match k with
  | 0 => exact pk_un (by decide)
  | 1 => exact pk_un (by decide)
  | 2 => exact pk_us
  | 3 => exact pk_un (by decide)
  | k + 4 => exact pk_un (by omega)
theorem dF_u3 {a b x y v : Int32} : upd (dF a b x y) 3 v = dF a b x v := by
  funext k
  match k with
  | 0 => exact pk_un (by decide)
  | 1 => exact pk_un (by decide)
  | 2 => exact pk_un (by decide)
  | 3 => exact pk_us
  | k + 4 => exact pk_un (by omega)
theorem dF_0 : (fun _ => 0 : Nat → Int32) = dF 0 0 0 0 := by
  funext k
  match k with
  | 0 => rfl
  | 1 => rfl
  | 2 => rfl
  | 3 => rfl
  | k + 4 => rfl
/-! the law's cell -/
def celV (L : Nat) (xs : Nat → Int32) (k : Nat) : Int32 := if k < L then xs k else 789269575 * (nI k + 1)
def CeP (D : va_G) (Y : vY) (b L : Nat) (xs : Nat → Int32) : State → Prop := fun U => va_X b L xs U U.heap ∧ KK D Y U
theorem CeP_blind {av : List Value} {D : va_G} {Y : vY} {b L : Nat} {xs : Nat → Int32} : FrameBlind (va_Pc av (CeP D Y b L xs)) := fun a U g mk q => ⟨q.1, va_X.moved (u := U) (U := U.calling g mk a) (Vm.Alike.refl _) q.2.1, KK.same (s := U) (U := U.calling g mk a) rfl q.2.2⟩
theorem ce_pS {D : va_G} {Y : vY} {A : Nat → Prop} {s : State} {H : Heap} {locs : List Loc} {As : List Value} {b L : Nat} {xs : Nat → Int32} (hK : KK D Y s) (hX : va_X b L xs s s.heap) (hbl : b < s.heap.size) (hbA : ¬ A b) (hS : va_S A s.heap H locs) : PreS s H (va_Pc As (CeP D Y b L xs)) As :=
  ⟨CeP_blind, fun U hU hW => ⟨rfl, by rw [hU]; exact va_X.moved hW.alike (hX.kept (hS.2.1 b hbl hbA)), KK.warm hW hK⟩⟩
theorem c_L_cell (l : Launch) (D : va_G) (Y : vY) (b L k : Nat) (xs : Nat → Int32) (hL : L ≤ 260) (hk : k < 2 ^ 31) : Met l yL_cell wsL_cell ({ frames := 0, cells := 0, slots := 0, locals := 0 } : Room) (va_Pc [.ref b, .int (nI k)] (CeP D Y b L xs)) (RoQ (some (.int (celV L xs k)))) 0 0 (fun _ => False) := by
  refine Met.ofW (cc := cL_cell) (maxL := 2) (ret := some .int) (by decide +kernel) rfl ?_
  intro p e s m args below meth c s₁ B hml hv
  obtain ⟨rfl, hX, hK⟩ := hv
  rw [lg_entry_eq]
  have hl := lv_entry ([.ref b, .int (nI k)]) (n := 2) (Nat.le_of_ble_eq_true rfl)
  generalize (lg_sl ([.ref b, .int (nI k)]) ++ List.replicate (2 - (lg_sl ([.ref b, .int (nI k)])).length) Slot.unset).toArray = ls at hl ⊢
  have hl : lv_has ls 2 [(0, .ref b), (1, .int (nI k))] := hl
  have hx := B.exec
  have hb := B.bytes
  have hr := B.returns
  have hts := atoms_spec (ws := wsL_cell) B.pre
  have hown : s.vm.findClass RL = some m.cls := findClass_of_methodNamed B.named
  have hlocks := B.notSynchronized
  have hbl : b < s.heap.size := by
    obtain ⟨scr, h1, -⟩ := hX
    exact (Array.getElem?_eq_some_iff.mp h1).1
  have hS : va_S (fun _ => False) s.heap s.heap [] := va_S.rf
  refine lv_iload_n (pc := 0) hx hb dL_cell_0 rfl (lv_at hl 1 rfl) ?_
  refine lv_aload_n (pc := 1) hx hb dL_cell_1 rfl (lv_at hl 0 rfl) ?_
  refine va_slen (pc := 2) hx hb hX hbl (fun h => h) hS dL_cell_2 ?_
  refine top_i (show Int32.ofNat L = nI L from rfl) ?_
  refine n_icmp_ge (pc := 3) (tgt := 12) hx hb hk (by omega) dL_cell_3 (by decide) (fun c3 => ?_) (fun c3 => ?_)
  · refine lv_ldc (pc := 12) hx hb hown (hts (.constant RL 7 (789269575)) (List.mem_of_getElem? (i := 1) rfl)) dL_cell_12 ?_
    refine lv_iload_n (pc := 14) hx hb dL_cell_14 rfl (lv_at hl 1 rfl) ?_
    refine lv_iconst (pc := 15) (v := 1) hx hb dL_cell_15 (by decide) ?_
    refine lv_iadd (pc := 16) hx hb dL_cell_16 ?_
    refine lv_imul (pc := 17) hx hb dL_cell_17 ?_
    exact ro_iret hx hb hr hlocks (by unfold celV; rw [if_neg (by omega)]) dL_cell_18
  · refine lv_aload_n (pc := 6) hx hb dL_cell_6 rfl (lv_at hl 0 rfl) ?_
    refine lv_iload_n (pc := 7) hx hb dL_cell_7 rfl (lv_at hl 1 rfl) ?_
    refine va_sld (pc := 8) hx hb hX hbl (fun h => h) hS (vp_in_nI c3 (by omega)) dL_cell_8 ?_
    refine lv_goto (pc := 9) (tgt := 18) hx hb dL_cell_9 (by decide) ?_
    exact ro_iret hx hb hr hlocks (by unfold celV; rw [if_pos c3, nI_clamp hk]) dL_cell_18
