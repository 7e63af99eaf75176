section RULES2
variable {p : Program} {l : Launch} {e : Env} {R : Room} {s : State} {m : MethodId} {args : Array Value} {below : List Frame} {meth : Method} {c : Code} {H : Heap} {locs : List Loc} {cells slots : Nat} {Q : State → Prop}
variable {cc : ByteArray} {pc : Nat} {ls : Array Slot} {rest st0 : List Value} {D : va_G} {Y : vY} {Wd ws : va_W} {A H0A : Nat → Prop} {H0 : Heap}
theorem mu_dret {S : Type} {v : S → Option Value} {W' : S → va_W} {post : S → Prop} {x : UInt64} (hx : p.tables.exec = Jvm.exec) (hb : c.code = cc) (hr : meth.sig.returnType = some .double) (hlocks : meth.locks = false) (hP : va_P D vwCl ws H) (hS : va_S (adA Wd) s.heap H locs) (u : S) (hv : v u = some (.double x)) (hp : post u) (hw : W' u = ws) (hdg : decode cc pc = .ok (.dreturn, 1)) : W p l e R s m args below meth c H locs 0 0 (MQ below (MuQ D Wd v W' post) args s 0 0 (adA Wd)) (F0 m pc ls [.double x]) :=
  W.dret hx hb hr (fun t ht _ => ⟨⟨u, by rw [hv], hp, by rw [ht, hw]; exact hP⟩, hS.F ht⟩) hS.2.2 hdg hlocks
theorem top_d {x y : UInt64} (h : x = y) (k : W p l e R s m args below meth c H locs cells slots Q (F0 m pc ls (.double y :: rest))) : W p l e R s m args below meth c H locs cells slots Q (F0 m pc ls (.double x :: rest)) := h ▸ k
end RULES2
/-! games played on: by styles, at random; the digest's sums -/
theorem RvP.eq {kd : Nat} {rv v : Int32} (h : kd = 0) (e : rv = v) : RvP kd (nI 0) rv v := ⟨by rw [h], fun _ => e⟩
def plF (c r z o : Nat) : Nat → Int64 → Nat → Int → Nat → Int32 → Int × Nat × Int32
  | 0, _, _, d, ch, la => (d, ch, la)
  | f + 1, u, p, d, ch, la => match choM c r (if p = 0 then z else o) u with
    | none => (d, ch, la)
    | some l => plF c r z o f (u ||| b1 l) (nxp (gai c r u l) p) (d + dst p (gai c r u l)) (ch + if gai c r u l = 0 then 1 else 0) (nI l)
def plV (c r z o : Nat) (w : Int64) (p : Nat) (d : Int) (a : Nat) : Int32 :=
  if a = 0 then iI (plF c r z o (und c r w) w p d 0 (-1)).1 else if a = 1 then nI (plF c r z o (und c r w) w p d 0 (-1)).2.1 else (plF c r z o (und c r w) w p d 0 (-1)).2.2
theorem pl_0 {c r z o p ch : Nat} {u : Int64} {d : Int} {la : Int32} (h : und c r u = 0) : plF c r z o (und c r u) u p d ch la = (d, ch, la) := by rw [h, plF]
theorem pl_s {c r z o p ch ch2 l : Nat} {u : Int64} {d : Int} {la : Int32} (hC : Cr c r) (hl : l < al c r) (ht : tb u l = false) (h : choM c r (if p = 0 then z else o) u = some l) (he : ch2 = ch + if gai c r u l = 0 then 1 else 0) :
    plF c r z o (und c r (u ||| b1 l)) (u ||| b1 l) (nxp (gai c r u l) p) (d + dst p (gai c r u l)) ch2 (nI l) = plF c r z o (und c r u) u p d ch la := by
  rw [← und_step hC hl ht, plF, h, he]
theorem pl_end {c r z o p ch p0 : Nat} {u w : Int64} {d d0 : Int} {la : Int32} (h : und c r u = 0) (hF : plF c r z o (und c r u) u p d ch la = plF c r z o (und c r w) w p0 d0 0 (-1)) : plF c r z o (und c r w) w p0 d0 0 (-1) = (d, ch, la) := by
  rw [← hF, pl_0 h]
def lcg (x : Nat) : Nat := (1103515245 * x + 12345) % 2147483648
theorem lcg_lt (x : Nat) : lcg x < 2 ^ 31 := Nat.mod_lt _ (by decide)
theorem lcg_m {x : Nat} (h : x < 2 ^ 31) : ((1103515245 : Int64) * lN x + (12345 : Int64)) - ((1103515245 : Int64) * lN x + (12345 : Int64)) / (2147483648 : Int64) * (2147483648 : Int64) = lN (lcg x) := by
  rw [show (1103515245 : Int64) = lN 1103515245 from rfl, show (12345 : Int64) = lN 12345 from rfl, show (2147483648 : Int64) = lN 2147483648 from rfl, lN_mul, lN_add, pk_lRem (by omega) (by decide) (by decide)]
  rfl
theorem lcg_c {x : Nat} : ((1103515245 : Int64) * lN x + (12345 : Int64)) &&& (2147483647 : Int64) = lN (lcg x) := by
  rw [show (1103515245 : Int64) = lN 1103515245 from rfl, show (12345 : Int64) = lN 12345 from rfl, show (2147483647 : Int64) = lN (2 ^ 31 - 1) from rfl, lN_mul, lN_add, fb_maskL]
  rfl
theorem lc_div {x : Nat} (h : x < 2 ^ 31) : lN x / (65536 : Int64) = lN (x / 65536) := by
  rw [show (65536 : Int64) = lN 65536 from rfl, pk_lDiv (by omega) (by decide) (by decide)]
theorem lc_rem {x n : Nat} (h : x < 2 ^ 31) (h0 : 0 < n) (hn : n < 2 ^ 31) : lN x - lN x / lN n * lN n = lN (x % n) := pk_lRem (by omega) h0 (by omega)
def rpL (c r x : Nat) (u : Int64) : Nat := mem (opl c r u) (lcg x / 65536 % und c r u)
def rpF (c r : Nat) : Nat → Nat → Int64 → Nat → Int → Nat × Int
  | 0, x, _, _, d => (x, d)
  | f + 1, x, u, p, d => rpF c r f (lcg x) (u ||| b1 (rpL c r x u)) (nxp (gai c r u (rpL c r x u)) p) (d + dst p (gai c r u (rpL c r x u)))
theorem rpL_is {c r x : Nat} {u : Int64} (hC : Cr c r) (h : und c r u ≠ 0) : rpL c r x u < al c r ∧ tb u (rpL c r x u) = false := mem_und hC (Nat.mod_lt _ (by omega))
theorem rp_0 {c r x p : Nat} {u : Int64} {d : Int} (h : und c r u = 0) : rpF c r (und c r u) x u p d = (x, d) := by rw [h, rpF]
theorem rp_s {c r x p l : Nat} {u : Int64} {d : Int} (hC : Cr c r) (h : und c r u ≠ 0) (hl : l = rpL c r x u) : rpF c r (und c r (u ||| b1 l)) (lcg x) (u ||| b1 l) (nxp (gai c r u l) p) (d + dst p (gai c r u l)) = rpF c r (und c r u) x u p d := by
  rw [hl]
  obtain ⟨h1, h2⟩ := rpL_is (x := x) hC h
  rw [← und_step hC h1 h2, rpF]
theorem rp_x {c r : Nat} : ∀ {f x p : Nat} {u : Int64} {d : Int}, x < 2 ^ 31 → (rpF c r f x u p d).1 < 2 ^ 31
  | 0, _, _, _, _, h => h
  | f + 1, x, _, _, _, _ => by rw [rpF]; exact rp_x (lcg_lt x)
theorem sco_le (ow : Nat → Int32) (p n : Nat) : sco ow p n ≤ n := fb_ct_le _ _
theorem nxp_le {g p : Nat} (h : p ≤ 1) : nxp g p ≤ 1 := by
  unfold nxp
  split <;> omega
theorem rp_b {c r : Nat} (hC : Cr c r) : ∀ {f x p : Nat} {u : Int64} {ow : Nat → Int32}, und c r u = f → NoF c r u ow → p ≤ 1 → ∃ o2, (rpF c r f x u p (dfO c r ow)).2 = dfO c r o2
  | 0, _, _, _, ow, _, _, _ => ⟨ow, rfl⟩
  | f + 1, x, p, u, ow, hu, hno, hp => by
    obtain ⟨h1, h2⟩ := rpL_is (x := x) hC (by omega : und c r u ≠ 0)
    rw [rpF, ← dfO_make hC h1 h2 hno hp]
    exact rp_b hC (by have := und_step hC h1 h2; omega) (hno.make hC) (nxp_le hp)
theorem dfO_b {c r : Nat} (hC : Cr c r) (ow : Nat → Int32) : -16 ≤ dfO c r ow ∧ dfO c r ow ≤ 16 := by
  have h := hC.q
  have h1 := sco_le ow 0 (c * r)
  have h2 := sco_le ow 1 (c * r)
  unfold dfO
  omega
/-- k games from x on: the random number behind them, the sum -/
def gmF (c r : Nat) (w : Int64) (p : Nat) (d : Int) : Nat → Nat → Nat × Int
  | 0, x => (x, 0)
  | k + 1, x => ((rpF c r (und c r w) (gmF c r w p d k x).1 w p d).1, (gmF c r w p d k x).2 + (rpF c r (und c r w) (gmF c r w p d k x).1 w p d).2)
theorem gm_x {c r p : Nat} {w : Int64} {d : Int} : ∀ {k x : Nat}, x < 2 ^ 31 → (gmF c r w p d k x).1 < 2 ^ 31
  | 0, _, h => h
  | k + 1, x, h => by rw [gmF]; exact rp_x (gm_x h)
theorem gm_b {c r p : Nat} {w : Int64} {ow : Nat → Int32} (hC : Cr c r) (hno : NoF c r w ow) (hp : p ≤ 1) : ∀ (k x : Nat), -16 * (k : Int) ≤ (gmF c r w p (dfO c r ow) k x).2 ∧ (gmF c r w p (dfO c r ow) k x).2 ≤ 16 * (k : Int)
  | 0, _ => by rw [gmF]; omega
  | k + 1, x => by
    have ih := gm_b hC hno hp k x
    rw [gmF]
    obtain ⟨o2, e⟩ := rp_b (x := (gmF c r w p (dfO c r ow) k x).1) hC rfl hno hp
    have hb := dfO_b hC o2
    dsimp only
    rw [e]
    omega
def mdV (c r : Nat) (w : Int64) (p : Nat) (d : Int) (g x : Nat) : UInt64 := FP.ddiv (FP.i2d (iI (gmF c r w p d g x).2)) (FP.i2d (nI g))
def dvB (s : Int) (g : Nat) : Bool := decide (FP.ddiv (FP.i2d (iI s)) (FP.i2d (nI g)) &&& 0x7fffffffffffffff ≤ 0x7ff0000000000000) && decide (FP.dcmp (FP.ddiv (FP.i2d (iI s)) (FP.i2d (nI g))) (FP.ddiv (FP.i2d (iI s)) (FP.i2d (nI g))) = some .eq) && decide (FP.l2d (iI s).toInt64 = FP.i2d (iI s))
set_option maxRecDepth 100000 in
theorem dv_all : ∀ g : Nat, g < 20 → ∀ k : Nat, k < 641 → dvB ((k : Int) - 320) (g + 1) = true := by decide +kernel
theorem dv_at {s : Int} {g : Nat} (h1 : 1 ≤ g) (h2 : g ≤ 20) (hs : -320 ≤ s ∧ s ≤ 320) : dvB s g = true := by
  have h := dv_all (g - 1) (by omega) (s + 320).toNat (by omega)
  rw [show (((s + 320).toNat : Nat) : Int) - 320 = s by omega, show g - 1 + 1 = g by omega] at h
  exact h
theorem dv_n {s : Int} {g : Nat} (h : dvB s g = true) : vf_n64 (FP.ddiv (FP.i2d (iI s)) (FP.i2d (nI g))) ∧ FP.dcmp (FP.ddiv (FP.i2d (iI s)) (FP.i2d (nI g))) (FP.ddiv (FP.i2d (iI s)) (FP.i2d (nI g))) = some .eq ∧ FP.l2d (iI s).toInt64 = FP.i2d (iI s) := by
  unfold dvB at h
  rw [Bool.and_eq_true, Bool.and_eq_true, decide_eq_true_eq, decide_eq_true_eq, decide_eq_true_eq] at h
  exact ⟨h.1.1, h.1.2, h.2⟩
/-! the digest -/
def mx (h v : Int64) : Int64 := 31 * h + v
def mxF (h : Int64) (f : Nat → Int64) : Nat → Int64
  | 0 => h
  | n + 1 => mx (mxF h f n) (f n)
theorem mxF_cong {h : Int64} {f g : Nat → Int64} : ∀ {n : Nat}, (∀ k, k < n → f k = g k) → mxF h f n = mxF h g n
  | 0, _ => rfl
  | n + 1, e => by rw [mxF, mxF, mxF_cong (fun k hk => e k (by omega)), e n (by omega)]
noncomputable def dgStr (c r : Nat) (w : Int64) (h : Int64) : Int64 :=
  if nst c r w ≤ 10 then mx (mxF (mxF h (fun k => (nI (propM c r w (k / 5) (k % 5))).toInt64) (5 * nst c r w)) (fun a => (iI (ctrM c r w a)).toInt64) 6) (iI (prd c r w)).toInt64
  else mxF (mxF h (fun k => (nI (propM c r w (k / 5) (k % 5))).toInt64) (5 * nst c r w)) (fun a => (iI (ctrM c r w a)).toInt64) 6
def bxF (f g : Nat → Int64) (h : Int64) : Nat → Int64
  | 0 => h
  | n + 1 => mx (mx (bxF f g h n) (f n)) (g n)
noncomputable def dgBrd (c r : Nat) (ms : Nat → Nat) (n : Nat) (w : Int64) (h : Int64) : Int64 :=
  bxF (fun b => (oH c r ms n b).toInt64) (fun b => (oI (labO c r w b)).toInt64) (mxF (mxF h (fun l => (nI (knd c r w l)).toInt64) (al c r)) (fun k => (nI (ms k)).toInt64) n) (c * r)
noncomputable def dg1 (c r n pl : Nat) (ms : Nat → Nat) (w : Int64) : Int64 :=
  dgStr c r w (dgBrd c r ms n w (mx (mx (mxF 1913 (fun a => (nI (cntV c r n pl w a)).toInt64) 11) (nI (sco (oH c r ms n) 0 (c * r))).toInt64) (nI (sco (oH c r ms n) 1 (c * r))).toInt64))
noncomputable def dg2 (c r n pl : Nat) (ms : Nat → Nat) (w : Int64) : Int64 :=
  mx (mx (mx (mx (dg1 c r n pl ms w) (lsc c r w)) (nI (fixn c r w)).toInt64) (oI (choM c r 0 w)).toInt64) (oI (choM c r 1 w)).toInt64
noncomputable def dg3 (c r n pl : Nat) (ms : Nat → Nat) (w : Int64) : Int64 := if und c r w ≤ 8 then mx (dg2 c r n pl ms w) (iI (out c r w)).toInt64 else dg2 c r n pl ms w
noncomputable def digV (c r n pl : Nat) (ms : Nat → Nat) (w : Int64) (len : Nat) (bu : Nat → Int32) : Int64 := mxF (mx (dg3 c r n pl ms w) (nI len).toInt64) (fun k => (bu k).toInt64) len
