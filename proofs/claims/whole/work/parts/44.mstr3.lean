set_option maxHeartbeats 1200000 in
set_option maxRecDepth 100000 in
theorem c_X9_isLong (l : Launch) (D : va_G) (Y : vY) (mo : Nat) (c : Nat) (r : Nat) (fs : List Value) (aSZ : Nat) (aLP : Nat) (w : Int64) (k : Nat) (sz : Nat → Int32) (lp : Nat → Int32) (hf : MF c r fs) (hC : Cr c r) (hf13 : fs[13]? = some (.ref aSZ)) (hf14 : fs[14]? = some (.ref aLP)) (hk16 : k < 16) (hs3 : sz k = nI (ssz c r w k)) (hl3 : lp k = zb (slop c r w k)) : Ro l yX9_isLong wsX9_isLong ({ frames := 0, cells := 0, slots := 0, locals := 0 } : Room) [.ref mo, .int (nI k)] D Y [(mo, .inr (8, fs)), (aSZ, .inl (Y.1, 16, .inl sz)), (aLP, .inl (Y.2.2.1, 16, .inl lp))] (some (.int (zb (decide (sdis c r w k = 4))))) := by
  refine ro_intro (by decide +kernel) rfl (Nat.le_of_ble_eq_true rfl) [(0, .ref mo), (1, .int (nI k))] rfl ?_
  intro pG eG sG mG aG bG tG cG ls hx hb hr hml hts hown hlocks hK hP hl
  have hP : va_P D vwCl [(mo, .inr (8, fs)), (aSZ, .inl (Y.1, 16, .inl sz)), (aLP, .inl (Y.2.2.1, 16, .inl lp))] sG.heap := hP
  have hown : sG.vm.findClass RX9 = some mG.cls := hown
  have hl : lv_has ls 2 [(0, .ref mo), (1, .int (nI k))] := hl
  have hinX9 : ∀ w ∈ u_ws RX9 TX9 25, w ∈ wsX9_isLong := by decide +kernel
  obtain ⟨hq1, hq2, hq3, hq4, hq5, hq6, hq7, hq8, hq9, hq10, hq11⟩ := hC.q
  have hssz := ssz_le c r w k
  refine lv_aload_n (pc := 0) hx hb dX9_isLong_0 rfl (lv_at hl 0 rfl) ?_
  refine va_get (pc := 1) (D := D) (ci := 8) (v := .ref aLP) (C := RX9) (T := TX9) (N := 25) hx hb hts hinX9 hown hK.1 hP 0 rfl rfl 14 (by decide) (hts (.fieldLink RX9 35 "BoxesGameModel" "loops" "[Z") (List.mem_of_getElem? (i := 1) rfl)) (fun _ h9 => h9) hf14 dX9_isLong_1 ?_
  refine lv_iload_n (pc := 4) hx hb dX9_isLong_4 rfl (lv_at hl 1 rfl) ?_
  refine va_zald (pc := 5) hx hb hK.1 hP 2 2 rfl rfl (vp_in_nI (by omega) (by decide)) dX9_isLong_5 ?_
  refine top_i (show lp (nI k).toNatClampNeg = lp k from by rw [nI_clamp (by omega)]) ?_
  refine top_i (show lp k = zb (slop c r w k) from hl3) ?_
  refine z_if_ne (pc := 6) (tgt := 23) hx hb dX9_isLong_6 (by decide) (fun c6 => ?_) (fun c6 => ?_)
  · refine lv_iconst (pc := 23) (v := nI 0) hx hb dX9_isLong_23 rfl ?_
    exact ro_zret hx hb hr hlocks (zb_0 (isl_y c6)) dX9_isLong_24
  refine lv_aload_n (pc := 9) hx hb dX9_isLong_9 rfl (lv_at hl 0 rfl) ?_
  refine va_get (pc := 10) (D := D) (ci := 8) (v := .ref aSZ) (C := RX9) (T := TX9) (N := 25) hx hb hts hinX9 hown hK.1 hP 0 rfl rfl 13 (by decide) (hts (.fieldLink RX9 32 "BoxesGameModel" "sizes" "[I") (List.mem_of_getElem? (i := 2) rfl)) (fun _ h9 => h9) hf13 dX9_isLong_10 ?_
  refine lv_iload_n (pc := 13) hx hb dX9_isLong_13 rfl (lv_at hl 1 rfl) ?_
  refine va_iald (pc := 14) hx hb hK.1 hP 1 0 rfl rfl (vp_in_nI (by omega) (by decide)) dX9_isLong_14 ?_
  refine top_i (show sz (nI k).toNatClampNeg = sz k from by rw [nI_clamp (by omega)]) ?_
  refine top_i (show sz k = nI (ssz c r w k) from hs3) ?_
  refine lv_iconst (pc := 15) (v := nI 3) hx hb dX9_isLong_15 rfl ?_
  refine n_icmp_lt (pc := 16) (tgt := 23) hx hb (by omega) (by omega) dX9_isLong_16 (by decide) (fun c16 => ?_) (fun c16 => ?_)
  · refine lv_iconst (pc := 23) (v := nI 0) hx hb dX9_isLong_23 rfl ?_
    exact ro_zret hx hb hr hlocks (zb_0 (isl_s c6 (by omega))) dX9_isLong_24
  refine lv_iconst (pc := 19) (v := nI 1) hx hb dX9_isLong_19 rfl ?_
  refine lv_goto (pc := 20) (tgt := 24) hx hb dX9_isLong_20 (by decide) ?_
  exact ro_zret hx hb hr hlocks (zb_1 (isl_l c6 (by omega))) dX9_isLong_24

set_option maxHeartbeats 1200000 in
set_option maxRecDepth 100000 in
theorem c_X9_thick (l : Launch) (D : va_G) (Y : vY) (mo : Nat) (c : Nat) (r : Nat) (fs : List Value) (w : Int64) (hf : MF c r fs) (hC : Cr c r) (hf3 : fs[3]? = some (.long w)) : Ro l yX9_thick wsX9_thick ({ frames := 4, cells := 0, slots := 0, locals := 92 } : Room) [.ref mo] D Y [(mo, .inr (8, fs))] (some (.int (nI (thk c r w)))) := by
  refine ro_intro (by decide +kernel) rfl (Nat.le_of_ble_eq_true rfl) [(0, .ref mo)] rfl ?_
  intro pG eG sG mG aG bG tG cG ls hx hb hr hml hts hown hlocks hK hP hl
  have hP : va_P D vwCl [(mo, .inr (8, fs))] sG.heap := hP
  have hown : sG.vm.findClass RX9 = some mG.cls := hown
  have hl : lv_has ls 3 [(0, .ref mo)] := hl
  have hinX9 : ∀ w ∈ u_ws RX9 TX9 25, w ∈ wsX9_thick := by decide +kernel
  obtain ⟨hq1, hq2, hq3, hq4, hq5, hq6, hq7, hq8, hq9, hq10, hq11⟩ := hC.q
  refine lv_iconst (pc := 0) (v := nI 0) hx hb dX9_thick_0 rfl ?_
  refine lv_istore_n (pc := 1) (lv' := [(1, .int (nI 0)), (0, .ref mo)]) hx hb dX9_thick_1 rfl hl (by decide) rfl (fun ls hl => ?_)
  refine lv_iconst (pc := 2) (v := nI 0) hx hb dX9_thick_2 rfl ?_
  refine lv_istore_n (pc := 3) (lv' := [(2, .int (nI 0)), (1, .int (nI 0)), (0, .ref mo)]) hx hb dX9_thick_3 rfl hl (by decide) rfl (fun ls hl => ?_)
  have L4 : ∀ (n4 : Nat), ∀ (i : Nat) (k : Nat), (i ≤ c * r) → (k = fb_ct (fun b => decide (2 < opn c r w b)) i) → c * r - i < n4 → ∀ (ls : Array Slot), lv_has ls 3 [(0, .ref mo), (1, .int (nI k)), (2, .int (nI i))] → W pG l eG ({ frames := 4, cells := 0, slots := 0, locals := 92 } : Room) sG mG aG bG tG cG sG.heap [] 0 0 (MQ bG (RoQ (some (.int (nI (thk c r w))))) aG sG 0 0 (fun _ => False)) (F0 mG 4 ls []) := by
    intro n4
    induction n4 with
    | zero =>
      intro i k hi hk hmeas4  ls hl
      exact absurd hmeas4 (Nat.not_lt_zero _)
    | succ n4 ih4 =>
      intro i k hi hk hmeas4  ls hl
      refine lv_iload_n (pc := 4) hx hb dX9_thick_4 rfl (lv_at hl 2 rfl) ?_
      refine lv_aload_n (pc := 5) hx hb dX9_thick_5 rfl (lv_at hl 0 rfl) ?_
      refine ro_go (pc := 6) (va_runV (As := []) (rest := [.int (nI i)]) ⟨hx, hb, hml, hown, hts⟩ (c_X9_boxes l D Y mo c r fs (hf) (hC)) (cwV 0 hts gX9_thick_X9_boxes rfl rfl rfl ⟨rfl, hdX9_boxes⟩ ⟨Nat.le_of_ble_eq_true rfl, Nat.le_of_ble_eq_true rfl⟩) (ro_pV hK hP (ro_recv hK hP (ci := 8) (q0 := 0) rfl rfl)) rfl rfl hl.1 rfl (lv_room (Nat.le_of_ble_eq_true rfl)) dX9_thick_6 ⟨Nat.le_of_ble_eq_true rfl, Nat.le_of_ble_eq_true rfl⟩) ?_
      refine n_icmp_ge (pc := 9) (tgt := 39) hx hb (by omega) (by omega) dX9_thick_9 (by decide) (fun c9 => ?_) (fun c9 => ?_)
      · refine lv_iload_n (pc := 39) hx hb dX9_thick_39 rfl (lv_at hl 1 rfl) ?_
        exact ro_iret (v := nI k) hx hb hr hlocks (by rw [hk, show i = c * r by omega]; rfl) dX9_thick_40
      refine lv_iload_n (pc := 12) hx hb dX9_thick_12 rfl (lv_at hl 1 rfl) ?_
      refine lv_aload_n (pc := 13) hx hb dX9_thick_13 rfl (lv_at hl 0 rfl) ?_
      refine lv_iload_n (pc := 14) hx hb dX9_thick_14 rfl (lv_at hl 2 rfl) ?_
      refine lv_aload_n (pc := 15) hx hb dX9_thick_15 rfl (lv_at hl 0 rfl) ?_
      refine va_get (pc := 16) (D := D) (ci := 8) (v := .long w) (C := RX9) (T := TX9) (N := 25) hx hb hts hinX9 hown hK.1 hP 0 rfl rfl 3 (by decide) (hts (.fieldLink RX9 119 "BoxesGameModel" "now" "J") (List.mem_of_getElem? (i := 1) rfl)) (fun _ h9 => h9) hf3 dX9_thick_16 ?_
      refine ro_go (pc := 19) (va_runV (As := [.int (nI i), .long w]) (rest := [.int (nI k)]) ⟨hx, hb, hml, hown, hts⟩ (c_X9_openOf l D Y mo c r fs i w (hf) (hC) (by first | assumption | omega)) (cwV 2 hts gX9_thick_X9_openOf rfl rfl rfl ⟨rfl, hdX9_openOf⟩ ⟨Nat.le_of_ble_eq_true rfl, Nat.le_of_ble_eq_true rfl⟩) (ro_pV hK hP (ro_recv hK hP (ci := 8) (q0 := 0) rfl rfl)) rfl rfl hl.1 rfl (lv_room (Nat.le_of_ble_eq_true rfl)) dX9_thick_19 ⟨Nat.le_of_ble_eq_true rfl, Nat.le_of_ble_eq_true rfl⟩) ?_
      refine lv_iconst (pc := 22) (v := nI 2) hx hb dX9_thick_22 rfl ?_
      refine n_icmp_le (pc := 23) (tgt := 30) hx hb (by have := opn_le c r w i; omega) (by decide) dX9_thick_23 (by decide) (fun c23 => ?_) (fun c23 => ?_)
      · refine lv_iconst (pc := 30) (v := nI 0) hx hb dX9_thick_30 rfl ?_
        refine n_iadd (pc := 31) hx hb dX9_thick_31 ?_
        refine lv_istore_n (pc := 32) (lv' := [(1, .int (nI (k + 0))), (0, .ref mo), (2, .int (nI i))]) hx hb dX9_thick_32 rfl hl (by decide) rfl (fun ls hl => ?_)
        refine lv_iinc (pc := 33) (v := nI (i + 1)) (lv' := [(2, .int (nI (i + 1))), (1, .int (nI (k + 0))), (0, .ref mo)]) hx hb dX9_thick_33 hl (k := 2) rfl (n_inc i 1) (by decide) rfl (fun ls hl => ?_)
        refine lv_goto (pc := 36) (tgt := 4) hx hb dX9_thick_36 (by decide) ?_
        exact ih4 (i + 1) (k + 0) (by first | assumption | omega) (by rw [fb_ct_succ, decide_eq_false (by omega), ← hk]; rfl) (by omega) _ (lv_sub hl [2, 1, 0] rfl)
      refine lv_iconst (pc := 26) (v := nI 1) hx hb dX9_thick_26 rfl ?_
      refine lv_goto (pc := 27) (tgt := 31) hx hb dX9_thick_27 (by decide) ?_
      refine n_iadd (pc := 31) hx hb dX9_thick_31 ?_
      refine lv_istore_n (pc := 32) (lv' := [(1, .int (nI (k + 1))), (0, .ref mo), (2, .int (nI i))]) hx hb dX9_thick_32 rfl hl (by decide) rfl (fun ls hl => ?_)
      refine lv_iinc (pc := 33) (v := nI (i + 1)) (lv' := [(2, .int (nI (i + 1))), (1, .int (nI (k + 1))), (0, .ref mo)]) hx hb dX9_thick_33 hl (k := 2) rfl (n_inc i 1) (by decide) rfl (fun ls hl => ?_)
      refine lv_goto (pc := 36) (tgt := 4) hx hb dX9_thick_36 (by decide) ?_
      exact ih4 (i + 1) (k + 1) (by first | assumption | omega) (by rw [fb_ct_succ, decide_eq_true (by omega), ← hk]; rfl) (by omega) _ (lv_sub hl [2, 1, 0] rfl)
  exact L4 ((c * r - 0) + 1) 0 0 (by first | assumption | omega) (rfl) (Nat.lt_succ_self _) _ (lv_sub hl [2, 1, 0] rfl)

set_option maxHeartbeats 1200000 in
set_option maxRecDepth 100000 in
theorem c_X9_linesAt (l : Launch) (D : va_G) (Y : vY) (mo : Nat) (c : Nat) (r : Nat) (fs : List Value) (w : Int64) (aSA : Nat) (k : Nat) (v : Bool) (sa : Nat → Int32) (hf : MF c r fs) (hC : Cr c r) (hf3 : fs[3]? = some (.long w)) (hf12 : fs[12]? = some (.ref aSA)) (hk31 : k < 2 ^ 31) (hnu : NuOK c r w (c * r) sa) : Ro l yX9_linesAt wsX9_linesAt ({ frames := 5, cells := 0, slots := 0, locals := 113 } : Room) [.ref mo, .int (nI k), .int (zb v)] D Y [(mo, .inr (8, fs)), (aSA, .inl (Y.1, 16, .inl sa))] (some (.int (nI (fb_ct (slq c r w k v) (al c r))))) := by
  refine ro_intro (by decide +kernel) rfl (Nat.le_of_ble_eq_true rfl) [(0, .ref mo), (1, .int (nI k)), (2, .int (zb v))] rfl ?_
  intro pG eG sG mG aG bG tG cG ls hx hb hr hml hts hown hlocks hK hP hl
  have hP : va_P D vwCl [(mo, .inr (8, fs)), (aSA, .inl (Y.1, 16, .inl sa))] sG.heap := hP
  have hown : sG.vm.findClass RX9 = some mG.cls := hown
  have hl : lv_has ls 9 [(0, .ref mo), (1, .int (nI k)), (2, .int (zb v))] := hl
  have hinX9 : ∀ w ∈ u_ws RX9 TX9 25, w ∈ wsX9_linesAt := by decide +kernel
  obtain ⟨hq1, hq2, hq3, hq4, hq5, hq6, hq7, hq8, hq9, hq10, hq11⟩ := hC.q
  refine lv_iconst (pc := 0) (v := nI 0) hx hb dX9_linesAt_0 rfl ?_
  refine lv_istore_n (pc := 1) (lv' := [(3, .int (nI 0)), (0, .ref mo), (1, .int (nI k)), (2, .int (zb v))]) hx hb dX9_linesAt_1 rfl hl (by decide) rfl (fun ls hl => ?_)
  refine lv_iconst (pc := 2) (v := nI 0) hx hb dX9_linesAt_2 rfl ?_
  refine lv_istore (pc := 3) (lv' := [(4, .int (nI 0)), (3, .int (nI 0)), (0, .ref mo), (1, .int (nI k)), (2, .int (zb v))]) hx hb dX9_linesAt_3 hl (by decide) rfl (fun ls hl => ?_)
  have L5 : ∀ (n5 : Nat), ∀ (i : Nat) (x : Nat), (i ≤ al c r) → (x = fb_ct (slq c r w k v) i) → al c r - i < n5 → ∀ (ls : Array Slot), lv_has ls 9 [(0, .ref mo), (1, .int (nI k)), (2, .int (zb v)), (3, .int (nI x)), (4, .int (nI i))] → W pG l eG ({ frames := 5, cells := 0, slots := 0, locals := 113 } : Room) sG mG aG bG tG cG sG.heap [] 0 0 (MQ bG (RoQ (some (.int (nI (fb_ct (slq c r w k v) (al c r)))))) aG sG 0 0 (fun _ => False)) (F0 mG 5 ls []) := by
    intro n5
    induction n5 with
    | zero =>
      intro i x hi hxc hmeas5  ls hl
      exact absurd hmeas5 (Nat.not_lt_zero _)
    | succ n5 ih5 =>
      intro i x hi hxc hmeas5  ls hl
      refine lv_iload (pc := 5) hx hb dX9_linesAt_5 (lv_at hl 4 rfl) ?_
      refine lv_aload_n (pc := 7) hx hb dX9_linesAt_7 rfl (lv_at hl 0 rfl) ?_
      refine ro_go (pc := 8) (va_runV (As := []) (rest := [.int (nI i)]) ⟨hx, hb, hml, hown, hts⟩ (c_X9_all l D Y mo c r fs (hf) (hC)) (cwV 0 hts gX9_linesAt_X9_all rfl rfl rfl ⟨rfl, hdX9_all⟩ ⟨Nat.le_of_ble_eq_true rfl, Nat.le_of_ble_eq_true rfl⟩) (ro_pV hK (hP.sub [0] rfl) (ro_recv hK hP (ci := 8) (q0 := 0) rfl rfl)) rfl rfl hl.1 rfl (lv_room (Nat.le_of_ble_eq_true rfl)) dX9_linesAt_8 ⟨Nat.le_of_ble_eq_true rfl, Nat.le_of_ble_eq_true rfl⟩) ?_
      refine n_icmp_ge (pc := 11) (tgt := 141) hx hb (by omega) (by omega) dX9_linesAt_11 (by decide) (fun c11 => ?_) (fun c11 => ?_)
      · refine lv_iload_n (pc := 141) hx hb dX9_linesAt_141 rfl (lv_at hl 3 rfl) ?_
        exact ro_iret (v := nI x) hx hb hr hlocks (by rw [hxc, show i = al c r by omega]) dX9_linesAt_142
      refine lv_iconst (pc := 14) (v := zb false) hx hb dX9_linesAt_14 rfl ?_
      refine lv_istore (pc := 15) (lv' := [(5, .int (zb false)), (0, .ref mo), (1, .int (nI k)), (2, .int (zb v)), (3, .int (nI x)), (4, .int (nI i))]) hx hb dX9_linesAt_15 hl (by decide) rfl (fun ls hl => ?_)
      refine lv_iconst (pc := 17) (v := zb false) hx hb dX9_linesAt_17 rfl ?_
      refine lv_istore (pc := 18) (lv' := [(6, .int (zb false)), (5, .int (zb false)), (0, .ref mo), (1, .int (nI k)), (2, .int (zb v)), (3, .int (nI x)), (4, .int (nI i))]) hx hb dX9_linesAt_18 hl (by decide) rfl (fun ls hl => ?_)
      refine lv_iconst (pc := 20) (v := nI 0) hx hb dX9_linesAt_20 rfl ?_
      refine lv_istore (pc := 21) (lv' := [(7, .int (nI 0)), (6, .int (zb false)), (5, .int (zb false)), (0, .ref mo), (1, .int (nI k)), (2, .int (zb v)), (3, .int (nI x)), (4, .int (nI i))]) hx hb dX9_linesAt_21 hl (by decide) rfl (fun ls hl => ?_)
      have L23 : ∀ (n23 : Nat), ∀ (j : Nat) (p : Bool) (q : Bool), (j ≤ 2) → (p = orb (bsP (inS c r w k) c r i) j) → (q = orb (bsP (fun b => !thn c r w b) c r i) j) → 2 - j < n23 → ∀ (ls : Array Slot), lv_has ls 9 [(0, .ref mo), (1, .int (nI k)), (2, .int (zb v)), (3, .int (nI x)), (4, .int (nI i)), (5, .int (zb p)), (6, .int (zb q)), (7, .int (nI j))] → W pG l eG ({ frames := 5, cells := 0, slots := 0, locals := 113 } : Room) sG mG aG bG tG cG sG.heap [] 0 0 (MQ bG (RoQ (some (.int (nI (fb_ct (slq c r w k v) (al c r)))))) aG sG 0 0 (fun _ => False)) (F0 mG 23 ls []) := by
        intro n23
        induction n23 with
        | zero =>
          intro j p q hj hp9 hq9 hmeas23  ls hl
          exact absurd hmeas23 (Nat.not_lt_zero _)
        | succ n23 ih23 =>
          intro j p q hj hp9 hq9 hmeas23  ls hl
          refine lv_iload (pc := 23) hx hb dX9_linesAt_23 (lv_at hl 7 rfl) ?_
          refine lv_iconst (pc := 25) (v := nI 2) hx hb dX9_linesAt_25 rfl ?_
          refine n_icmp_ge (pc := 26) (tgt := 101) hx hb (by omega) (by omega) dX9_linesAt_26 (by decide) (fun c26 => ?_) (fun c26 => ?_)
          · have hpj : p = orb (bsP (inS c r w k) c r i) 2 := by rw [hp9, show j = 2 by omega]
            have hqj : q = orb (bsP (fun b => !thn c r w b) c r i) 2 := by rw [hq9, show j = 2 by omega]
            refine lv_iload_n (pc := 101) hx hb dX9_linesAt_101 rfl (lv_at hl 3 rfl) ?_
            refine lv_aload_n (pc := 102) hx hb dX9_linesAt_102 rfl (lv_at hl 0 rfl) ?_
            refine va_get (pc := 103) (D := D) (ci := 8) (v := .long w) (C := RX9) (T := TX9) (N := 25) hx hb hts hinX9 hown hK.1 hP 0 rfl rfl 3 (by decide) (hts (.fieldLink RX9 119 "BoxesGameModel" "now" "J") (List.mem_of_getElem? (i := 2) rfl)) (fun _ h9 => h9) hf3 dX9_linesAt_103 ?_
            refine lv_iload (pc := 106) hx hb dX9_linesAt_106 (lv_at hl 4 rfl) ?_
            refine ro_go (pc := 108) (va_runS (As := [.long w, .int (nI i)]) (rest := [.int (nI x)]) ⟨hx, hb, hml, hown, hts⟩ (c_X9_has l D Y w i (by omega)) (va_cwS 2 hts gX9_linesAt_X9_has rfl rfl rfl hdX9_has ⟨Nat.le_of_ble_eq_true rfl, Nat.le_of_ble_eq_true rfl⟩) (ro_pS hK (hP.sub [] rfl)) rfl rfl hl.1 rfl (lv_room (Nat.le_of_ble_eq_true rfl)) dX9_linesAt_108 ⟨Nat.le_of_ble_eq_true rfl, Nat.le_of_ble_eq_true rfl⟩) ?_
            refine z_if_ne (pc := 111) (tgt := 132) hx hb dX9_linesAt_111 (by decide) (fun c111 => ?_) (fun c111 => ?_)
            · refine lv_iconst (pc := 132) (v := nI 0) hx hb dX9_linesAt_132 rfl ?_
              refine n_iadd (pc := 133) hx hb dX9_linesAt_133 ?_
              refine lv_istore_n (pc := 134) (lv' := [(3, .int (nI (x + 0))), (0, .ref mo), (1, .int (nI k)), (2, .int (zb v)), (4, .int (nI i)), (5, .int (zb p)), (6, .int (zb q)), (7, .int (nI j))]) hx hb dX9_linesAt_134 rfl hl (by decide) rfl (fun ls hl => ?_)
              refine lv_iinc (pc := 135) (v := nI (i + 1)) (lv' := [(4, .int (nI (i + 1))), (3, .int (nI (x + 0))), (0, .ref mo), (1, .int (nI k)), (2, .int (zb v)), (5, .int (zb p)), (6, .int (zb q)), (7, .int (nI j))]) hx hb dX9_linesAt_135 hl (k := 4) rfl (n_inc i 1) (by decide) rfl (fun ls hl => ?_)
              refine lv_goto (pc := 138) (tgt := 5) hx hb dX9_linesAt_138 (by decide) ?_
              exact ih5 (i + 1) (x + 0) (by first | assumption | omega) (by rw [fb_ct_succ, ← hxc]; unfold slq; rw [c111]; rfl) (by omega) _ (lv_sub hl [2, 3, 4, 1, 0] rfl)
            refine lv_iload (pc := 114) hx hb dX9_linesAt_114 (lv_at hl 5 rfl) ?_
            refine z_if_eq (pc := 116) (tgt := 132) hx hb dX9_linesAt_116 (by decide) (fun c116 => ?_) (fun c116 => ?_)
            · refine lv_iconst (pc := 132) (v := nI 0) hx hb dX9_linesAt_132 rfl ?_
              refine n_iadd (pc := 133) hx hb dX9_linesAt_133 ?_
              refine lv_istore_n (pc := 134) (lv' := [(3, .int (nI (x + 0))), (0, .ref mo), (1, .int (nI k)), (2, .int (zb v)), (4, .int (nI i)), (5, .int (zb p)), (6, .int (zb q)), (7, .int (nI j))]) hx hb dX9_linesAt_134 rfl hl (by decide) rfl (fun ls hl => ?_)
              refine lv_iinc (pc := 135) (v := nI (i + 1)) (lv' := [(4, .int (nI (i + 1))), (3, .int (nI (x + 0))), (0, .ref mo), (1, .int (nI k)), (2, .int (zb v)), (5, .int (zb p)), (6, .int (zb q)), (7, .int (nI j))]) hx hb dX9_linesAt_135 hl (k := 4) rfl (n_inc i 1) (by decide) rfl (fun ls hl => ?_)
              refine lv_goto (pc := 138) (tgt := 5) hx hb dX9_linesAt_138 (by decide) ?_
              exact ih5 (i + 1) (x + 0) (by first | assumption | omega) (by rw [fb_ct_succ, ← hxc]; unfold slq; rw [c111, ← hpj, c116]; rfl) (by omega) _ (lv_sub hl [2, 3, 4, 1, 0] rfl)
            refine lv_iload (pc := 119) hx hb dX9_linesAt_119 (lv_at hl 6 rfl) ?_
            refine z_if_ne (pc := 121) (tgt := 128) hx hb dX9_linesAt_121 (by decide) (fun c121 => ?_) (fun c121 => ?_)
            · refine lv_iconst (pc := 128) (v := nI 1) hx hb dX9_linesAt_128 rfl ?_
              refine lv_goto (pc := 129) (tgt := 133) hx hb dX9_linesAt_129 (by decide) ?_
              refine n_iadd (pc := 133) hx hb dX9_linesAt_133 ?_
              refine lv_istore_n (pc := 134) (lv' := [(3, .int (nI (x + 1))), (0, .ref mo), (1, .int (nI k)), (2, .int (zb v)), (4, .int (nI i)), (5, .int (zb p)), (6, .int (zb q)), (7, .int (nI j))]) hx hb dX9_linesAt_134 rfl hl (by decide) rfl (fun ls hl => ?_)
              refine lv_iinc (pc := 135) (v := nI (i + 1)) (lv' := [(4, .int (nI (i + 1))), (3, .int (nI (x + 1))), (0, .ref mo), (1, .int (nI k)), (2, .int (zb v)), (5, .int (zb p)), (6, .int (zb q)), (7, .int (nI j))]) hx hb dX9_linesAt_135 hl (k := 4) rfl (n_inc i 1) (by decide) rfl (fun ls hl => ?_)
              refine lv_goto (pc := 138) (tgt := 5) hx hb dX9_linesAt_138 (by decide) ?_
              exact ih5 (i + 1) (x + 1) (by first | assumption | omega) (by rw [fb_ct_succ, ← hxc]; unfold slq; rw [c111, ← hpj, c116, ← hqj, c121]; rfl) (by omega) _ (lv_sub hl [2, 3, 4, 1, 0] rfl)
            refine lv_iload_n (pc := 124) hx hb dX9_linesAt_124 rfl (lv_at hl 2 rfl) ?_
            refine z_if_ne (pc := 125) (tgt := 132) hx hb dX9_linesAt_125 (by decide) (fun c125 => ?_) (fun c125 => ?_)
            · refine lv_iconst (pc := 132) (v := nI 0) hx hb dX9_linesAt_132 rfl ?_
              refine n_iadd (pc := 133) hx hb dX9_linesAt_133 ?_
              refine lv_istore_n (pc := 134) (lv' := [(3, .int (nI (x + 0))), (0, .ref mo), (1, .int (nI k)), (2, .int (zb v)), (4, .int (nI i)), (5, .int (zb p)), (6, .int (zb q)), (7, .int (nI j))]) hx hb dX9_linesAt_134 rfl hl (by decide) rfl (fun ls hl => ?_)
              refine lv_iinc (pc := 135) (v := nI (i + 1)) (lv' := [(4, .int (nI (i + 1))), (3, .int (nI (x + 0))), (0, .ref mo), (1, .int (nI k)), (2, .int (zb v)), (5, .int (zb p)), (6, .int (zb q)), (7, .int (nI j))]) hx hb dX9_linesAt_135 hl (k := 4) rfl (n_inc i 1) (by decide) rfl (fun ls hl => ?_)
              refine lv_goto (pc := 138) (tgt := 5) hx hb dX9_linesAt_138 (by decide) ?_
              exact ih5 (i + 1) (x + 0) (by first | assumption | omega) (by rw [fb_ct_succ, ← hxc]; unfold slq; rw [c111, ← hpj, c116, ← hqj, c121, c125]; rfl) (by omega) _ (lv_sub hl [2, 3, 4, 1, 0] rfl)
            refine lv_iconst (pc := 128) (v := nI 1) hx hb dX9_linesAt_128 rfl ?_
            refine lv_goto (pc := 129) (tgt := 133) hx hb dX9_linesAt_129 (by decide) ?_
            refine n_iadd (pc := 133) hx hb dX9_linesAt_133 ?_
            refine lv_istore_n (pc := 134) (lv' := [(3, .int (nI (x + 1))), (0, .ref mo), (1, .int (nI k)), (2, .int (zb v)), (4, .int (nI i)), (5, .int (zb p)), (6, .int (zb q)), (7, .int (nI j))]) hx hb dX9_linesAt_134 rfl hl (by decide) rfl (fun ls hl => ?_)
            refine lv_iinc (pc := 135) (v := nI (i + 1)) (lv' := [(4, .int (nI (i + 1))), (3, .int (nI (x + 1))), (0, .ref mo), (1, .int (nI k)), (2, .int (zb v)), (5, .int (zb p)), (6, .int (zb q)), (7, .int (nI j))]) hx hb dX9_linesAt_135 hl (k := 4) rfl (n_inc i 1) (by decide) rfl (fun ls hl => ?_)
            refine lv_goto (pc := 138) (tgt := 5) hx hb dX9_linesAt_138 (by decide) ?_
            exact ih5 (i + 1) (x + 1) (by first | assumption | omega) (by rw [fb_ct_succ, ← hxc]; unfold slq; rw [c111, ← hpj, c116, ← hqj, c121, c125]; rfl) (by omega) _ (lv_sub hl [2, 3, 4, 1, 0] rfl)
          refine lv_aload_n (pc := 29) hx hb dX9_linesAt_29 rfl (lv_at hl 0 rfl) ?_
          refine lv_iload (pc := 30) hx hb dX9_linesAt_30 (lv_at hl 4 rfl) ?_
          refine lv_iload (pc := 32) hx hb dX9_linesAt_32 (lv_at hl 7 rfl) ?_
          refine ro_go (pc := 34) (va_runV (As := [.int (nI i), .int (nI j)]) (rest := []) ⟨hx, hb, hml, hown, hts⟩ (c_X9_beside l D Y mo c r fs i j (hf) (hC) (by first | assumption | omega) (by first | assumption | omega)) (cwV 2 hts gX9_linesAt_X9_beside rfl rfl rfl ⟨rfl, hdX9_beside⟩ ⟨Nat.le_of_ble_eq_true rfl, Nat.le_of_ble_eq_true rfl⟩) (ro_pV hK (hP.sub [0] rfl) (ro_recv hK hP (ci := 8) (q0 := 0) rfl rfl)) rfl rfl hl.1 rfl (lv_room (Nat.le_of_ble_eq_true rfl)) dX9_linesAt_34 ⟨Nat.le_of_ble_eq_true rfl, Nat.le_of_ble_eq_true rfl⟩) ?_
          refine lv_topi (fun x34 ex34 => ?_)
          refine lv_istore (pc := 37) (lv' := [(8, .int x34), (0, .ref mo), (1, .int (nI k)), (2, .int (zb v)), (3, .int (nI x)), (4, .int (nI i)), (5, .int (zb p)), (6, .int (zb q)), (7, .int (nI j))]) hx hb dX9_linesAt_37 hl (by decide) rfl (fun ls hl => ?_)
          refine lv_iload (pc := 39) hx hb dX9_linesAt_39 (lv_at hl 6 rfl) ?_
          refine z_if_ne (pc := 41) (tgt := 61) hx hb dX9_linesAt_41 (by decide) (fun c41 => ?_) (fun c41 => ?_)
          · refine lv_iconst (pc := 61) (v := zb true) hx hb dX9_linesAt_61 rfl ?_
            refine lv_goto (pc := 62) (tgt := 66) hx hb dX9_linesAt_62 (by decide) ?_
            refine lv_istore (pc := 66) (lv' := [(5, .int (zb true)), (8, .int x34), (0, .ref mo), (1, .int (nI k)), (2, .int (zb v)), (3, .int (nI x)), (4, .int (nI i)), (6, .int (zb q)), (7, .int (nI j))]) hx hb dX9_linesAt_66 hl (by decide) rfl (fun ls hl => ?_)
            refine lv_iload (pc := 68) hx hb dX9_linesAt_68 (lv_at hl 7 rfl) ?_
            refine z_if_ne (pc := 70) (tgt := 88) hx hb dX9_linesAt_70 (by decide) (fun c70 => ?_) (fun c70 => ?_)
            · refine lv_iconst (pc := 88) (v := zb true) hx hb dX9_linesAt_88 rfl ?_
              refine lv_goto (pc := 89) (tgt := 93) hx hb dX9_linesAt_89 (by decide) ?_
              refine lv_istore (pc := 93) (lv' := [(6, .int (zb true)), (5, .int (zb true)), (8, .int x34), (0, .ref mo), (1, .int (nI k)), (2, .int (zb v)), (3, .int (nI x)), (4, .int (nI i)), (7, .int (nI j))]) hx hb dX9_linesAt_93 hl (by decide) rfl (fun ls hl => ?_)
              refine lv_iinc (pc := 95) (v := nI (j + 1)) (lv' := [(7, .int (nI (j + 1))), (6, .int (zb true)), (5, .int (zb true)), (8, .int x34), (0, .ref mo), (1, .int (nI k)), (2, .int (zb v)), (3, .int (nI x)), (4, .int (nI i))]) hx hb dX9_linesAt_95 hl (k := 8) rfl (n_inc j 1) (by decide) rfl (fun ls hl => ?_)
              refine lv_goto (pc := 98) (tgt := 23) hx hb dX9_linesAt_98 (by decide) ?_
              exact ih23 (j + 1) true true (by first | assumption | omega) (by rw [orb, ← hp9, c41]; rfl) (by rw [orb, ← hq9, c70]; rfl) (by omega) _ (lv_sub hl [4, 5, 6, 7, 8, 2, 1, 0] rfl)
            refine lv_iload (pc := 73) hx hb dX9_linesAt_73 (lv_at hl 1 rfl) ?_
            refine lv_iconst (pc := 75) (v := (-1)) hx hb dX9_linesAt_75 (by decide) ?_
            refine lv_icmp_eq (pc := 76) (tgt := 92) hx hb dX9_linesAt_76 (by decide) (fun c76 => ?_) (fun c76 => ?_)
            · have hbm := oI_none ex34 c76 (fun b h => by have := bes_lt hC c11 h; omega)
              refine lv_iconst (pc := 92) (v := zb false) hx hb dX9_linesAt_92 rfl ?_
              refine lv_istore (pc := 93) (lv' := [(6, .int (zb false)), (5, .int (zb true)), (8, .int x34), (0, .ref mo), (1, .int (nI k)), (2, .int (zb v)), (3, .int (nI x)), (4, .int (nI i)), (7, .int (nI j))]) hx hb dX9_linesAt_93 hl (by decide) rfl (fun ls hl => ?_)
              refine lv_iinc (pc := 95) (v := nI (j + 1)) (lv' := [(7, .int (nI (j + 1))), (6, .int (zb false)), (5, .int (zb true)), (8, .int x34), (0, .ref mo), (1, .int (nI k)), (2, .int (zb v)), (3, .int (nI x)), (4, .int (nI i))]) hx hb dX9_linesAt_95 hl (k := 8) rfl (n_inc j 1) (by decide) rfl (fun ls hl => ?_)
              refine lv_goto (pc := 98) (tgt := 23) hx hb dX9_linesAt_98 (by decide) ?_
              exact ih23 (j + 1) true false (by first | assumption | omega) (by rw [orb, ← hp9, c41]; rfl) (by rw [orb, ← hq9, c70, bsP_n hbm]; rfl) (by omega) _ (lv_sub hl [4, 5, 6, 7, 8, 2, 1, 0] rfl)
            obtain ⟨bc, hbc, hxb2⟩ := oI_some ex34 c76
            have hbcl := bes_lt hC c11 hbc
            subst hxb2
            have hl : lv_has ls 9 [(5, .int (zb true)), (8, .int (nI bc)), (0, .ref mo), (1, .int (nI k)), (2, .int (zb v)), (3, .int (nI x)), (4, .int (nI i)), (6, .int (zb q)), (7, .int (nI j))] := hl
            refine lv_aload_n (pc := 79) hx hb dX9_linesAt_79 rfl (lv_at hl 2 rfl) ?_
            refine lv_iload (pc := 80) hx hb dX9_linesAt_80 (lv_at hl 1 rfl) ?_
            refine ro_go (pc := 82) (va_runV (As := [.int (nI bc)]) (rest := []) ⟨hx, hb, hml, hown, hts⟩ (c_X9_isThin l D Y mo c r fs w bc (hf) (hC) (hf3) (hbcl)) (cwV 1 hts gX9_linesAt_X9_isThin rfl rfl rfl ⟨rfl, hdX9_isThin⟩ ⟨Nat.le_of_ble_eq_true rfl, Nat.le_of_ble_eq_true rfl⟩) (ro_pV hK (hP.sub [0] rfl) (ro_recv hK hP (ci := 8) (q0 := 0) rfl rfl)) rfl rfl hl.1 rfl (lv_room (Nat.le_of_ble_eq_true rfl)) dX9_linesAt_82 ⟨Nat.le_of_ble_eq_true rfl, Nat.le_of_ble_eq_true rfl⟩) ?_
            refine z_if_ne (pc := 85) (tgt := 92) hx hb dX9_linesAt_85 (by decide) (fun c85 => ?_) (fun c85 => ?_)
            · refine lv_iconst (pc := 92) (v := zb false) hx hb dX9_linesAt_92 rfl ?_
              refine lv_istore (pc := 93) (lv' := [(6, .int (zb false)), (5, .int (zb true)), (8, .int (nI bc)), (0, .ref mo), (1, .int (nI k)), (2, .int (zb v)), (3, .int (nI x)), (4, .int (nI i)), (7, .int (nI j))]) hx hb dX9_linesAt_93 hl (by decide) rfl (fun ls hl => ?_)
              refine lv_iinc (pc := 95) (v := nI (j + 1)) (lv' := [(7, .int (nI (j + 1))), (6, .int (zb false)), (5, .int (zb true)), (8, .int (nI bc)), (0, .ref mo), (1, .int (nI k)), (2, .int (zb v)), (3, .int (nI x)), (4, .int (nI i))]) hx hb dX9_linesAt_95 hl (k := 8) rfl (n_inc j 1) (by decide) rfl (fun ls hl => ?_)
              refine lv_goto (pc := 98) (tgt := 23) hx hb dX9_linesAt_98 (by decide) ?_
              exact ih23 (j + 1) true false (by first | assumption | omega) (by rw [orb, ← hp9, c41]; rfl) (by rw [orb, ← hq9, c70, bsP_s hbc, c85]; rfl) (by omega) _ (lv_sub hl [4, 5, 6, 7, 8, 2, 1, 0] rfl)
            refine lv_iconst (pc := 88) (v := zb true) hx hb dX9_linesAt_88 rfl ?_
            refine lv_goto (pc := 89) (tgt := 93) hx hb dX9_linesAt_89 (by decide) ?_
            refine lv_istore (pc := 93) (lv' := [(6, .int (zb true)), (5, .int (zb true)), (8, .int (nI bc)), (0, .ref mo), (1, .int (nI k)), (2, .int (zb v)), (3, .int (nI x)), (4, .int (nI i)), (7, .int (nI j))]) hx hb dX9_linesAt_93 hl (by decide) rfl (fun ls hl => ?_)
            refine lv_iinc (pc := 95) (v := nI (j + 1)) (lv' := [(7, .int (nI (j + 1))), (6, .int (zb true)), (5, .int (zb true)), (8, .int (nI bc)), (0, .ref mo), (1, .int (nI k)), (2, .int (zb v)), (3, .int (nI x)), (4, .int (nI i))]) hx hb dX9_linesAt_95 hl (k := 8) rfl (n_inc j 1) (by decide) rfl (fun ls hl => ?_)
            refine lv_goto (pc := 98) (tgt := 23) hx hb dX9_linesAt_98 (by decide) ?_
            exact ih23 (j + 1) true true (by first | assumption | omega) (by rw [orb, ← hp9, c41]; rfl) (by rw [orb, ← hq9, c70, bsP_s hbc, c85]; rfl) (by omega) _ (lv_sub hl [4, 5, 6, 7, 8, 2, 1, 0] rfl)
          refine lv_iload (pc := 44) hx hb dX9_linesAt_44 (lv_at hl 0 rfl) ?_
          refine lv_iconst (pc := 46) (v := (-1)) hx hb dX9_linesAt_46 (by decide) ?_
          refine lv_icmp_eq (pc := 47) (tgt := 65) hx hb dX9_linesAt_47 (by decide) (fun c47 => ?_) (fun c47 => ?_)
          · have hbn := oI_none ex34 c47 (fun b h => by have := bes_lt hC c11 h; omega)
            refine lv_iconst (pc := 65) (v := zb false) hx hb dX9_linesAt_65 rfl ?_
            refine lv_istore (pc := 66) (lv' := [(5, .int (zb false)), (8, .int x34), (0, .ref mo), (1, .int (nI k)), (2, .int (zb v)), (3, .int (nI x)), (4, .int (nI i)), (6, .int (zb q)), (7, .int (nI j))]) hx hb dX9_linesAt_66 hl (by decide) rfl (fun ls hl => ?_)
            refine lv_iload (pc := 68) hx hb dX9_linesAt_68 (lv_at hl 7 rfl) ?_
            refine z_if_ne (pc := 70) (tgt := 88) hx hb dX9_linesAt_70 (by decide) (fun c70 => ?_) (fun c70 => ?_)
            · refine lv_iconst (pc := 88) (v := zb true) hx hb dX9_linesAt_88 rfl ?_
              refine lv_goto (pc := 89) (tgt := 93) hx hb dX9_linesAt_89 (by decide) ?_
              refine lv_istore (pc := 93) (lv' := [(6, .int (zb true)), (5, .int (zb false)), (8, .int x34), (0, .ref mo), (1, .int (nI k)), (2, .int (zb v)), (3, .int (nI x)), (4, .int (nI i)), (7, .int (nI j))]) hx hb dX9_linesAt_93 hl (by decide) rfl (fun ls hl => ?_)
              refine lv_iinc (pc := 95) (v := nI (j + 1)) (lv' := [(7, .int (nI (j + 1))), (6, .int (zb true)), (5, .int (zb false)), (8, .int x34), (0, .ref mo), (1, .int (nI k)), (2, .int (zb v)), (3, .int (nI x)), (4, .int (nI i))]) hx hb dX9_linesAt_95 hl (k := 8) rfl (n_inc j 1) (by decide) rfl (fun ls hl => ?_)
              refine lv_goto (pc := 98) (tgt := 23) hx hb dX9_linesAt_98 (by decide) ?_
              exact ih23 (j + 1) false true (by first | assumption | omega) (by rw [orb, ← hp9, c41, bsP_n hbn]; rfl) (by rw [orb, ← hq9, c70]; rfl) (by omega) _ (lv_sub hl [4, 5, 6, 7, 8, 2, 1, 0] rfl)
            refine lv_iload (pc := 73) hx hb dX9_linesAt_73 (lv_at hl 1 rfl) ?_
            refine lv_iconst (pc := 75) (v := (-1)) hx hb dX9_linesAt_75 (by decide) ?_
            refine lv_icmp_eq (pc := 76) (tgt := 92) hx hb dX9_linesAt_76 (by decide) (fun c76 => ?_) (fun c76 => ?_)
            · have hbm := oI_none ex34 c76 (fun b h => by have := bes_lt hC c11 h; omega)
              refine lv_iconst (pc := 92) (v := zb false) hx hb dX9_linesAt_92 rfl ?_
              refine lv_istore (pc := 93) (lv' := [(6, .int (zb false)), (5, .int (zb false)), (8, .int x34), (0, .ref mo), (1, .int (nI k)), (2, .int (zb v)), (3, .int (nI x)), (4, .int (nI i)), (7, .int (nI j))]) hx hb dX9_linesAt_93 hl (by decide) rfl (fun ls hl => ?_)
              refine lv_iinc (pc := 95) (v := nI (j + 1)) (lv' := [(7, .int (nI (j + 1))), (6, .int (zb false)), (5, .int (zb false)), (8, .int x34), (0, .ref mo), (1, .int (nI k)), (2, .int (zb v)), (3, .int (nI x)), (4, .int (nI i))]) hx hb dX9_linesAt_95 hl (k := 8) rfl (n_inc j 1) (by decide) rfl (fun ls hl => ?_)
              refine lv_goto (pc := 98) (tgt := 23) hx hb dX9_linesAt_98 (by decide) ?_
              exact ih23 (j + 1) false false (by first | assumption | omega) (by rw [orb, ← hp9, c41, bsP_n hbn]; rfl) (by rw [orb, ← hq9, c70, bsP_n hbm]; rfl) (by omega) _ (lv_sub hl [4, 5, 6, 7, 8, 2, 1, 0] rfl)
            · exact absurd c47 c76
          obtain ⟨bb, hbb, hxb⟩ := oI_some ex34 c47
          have hbbl := bes_lt hC c11 hbb
          subst hxb
          have hl : lv_has ls 9 [(8, .int (nI bb)), (0, .ref mo), (1, .int (nI k)), (2, .int (zb v)), (3, .int (nI x)), (4, .int (nI i)), (5, .int (zb p)), (6, .int (zb q)), (7, .int (nI j))] := hl
          refine lv_aload_n (pc := 50) hx hb dX9_linesAt_50 rfl (lv_at hl 1 rfl) ?_
          refine va_get (pc := 51) (D := D) (ci := 8) (v := .ref aSA) (C := RX9) (T := TX9) (N := 25) hx hb hts hinX9 hown hK.1 hP 0 rfl rfl 12 (by decide) (hts (.fieldLink RX9 29 "BoxesGameModel" "stringAt" "[I") (List.mem_of_getElem? (i := 1) rfl)) (fun _ h9 => h9) hf12 dX9_linesAt_51 ?_
          refine lv_iload (pc := 54) hx hb dX9_linesAt_54 (lv_at hl 0 rfl) ?_
          refine va_iald (pc := 56) hx hb hK.1 hP 1 0 rfl rfl (vp_in_nI (by omega) (by decide)) dX9_linesAt_56 ?_
          refine top_i (show sa (nI bb).toNatClampNeg = sa bb from by rw [nI_clamp (by omega)]) ?_
          refine lv_iload_n (pc := 57) hx hb dX9_linesAt_57 rfl (lv_at hl 2 rfl) ?_
          refine lv_icmp_ne (pc := 58) (tgt := 65) hx hb dX9_linesAt_58 (by decide) (fun c58 => ?_) (fun c58 => ?_)
          · have hin : inS c r w k bb = false := Bool.eq_false_iff.mpr (fun q => c58 ((sa_k hC hnu hbbl hk31).mpr q))
            refine lv_iconst (pc := 65) (v := zb false) hx hb dX9_linesAt_65 rfl ?_
            refine lv_istore (pc := 66) (lv' := [(5, .int (zb false)), (8, .int (nI bb)), (0, .ref mo), (1, .int (nI k)), (2, .int (zb v)), (3, .int (nI x)), (4, .int (nI i)), (6, .int (zb q)), (7, .int (nI j))]) hx hb dX9_linesAt_66 hl (by decide) rfl (fun ls hl => ?_)
            refine lv_iload (pc := 68) hx hb dX9_linesAt_68 (lv_at hl 7 rfl) ?_
            refine z_if_ne (pc := 70) (tgt := 88) hx hb dX9_linesAt_70 (by decide) (fun c70 => ?_) (fun c70 => ?_)
            · refine lv_iconst (pc := 88) (v := zb true) hx hb dX9_linesAt_88 rfl ?_
              refine lv_goto (pc := 89) (tgt := 93) hx hb dX9_linesAt_89 (by decide) ?_
              refine lv_istore (pc := 93) (lv' := [(6, .int (zb true)), (5, .int (zb false)), (8, .int (nI bb)), (0, .ref mo), (1, .int (nI k)), (2, .int (zb v)), (3, .int (nI x)), (4, .int (nI i)), (7, .int (nI j))]) hx hb dX9_linesAt_93 hl (by decide) rfl (fun ls hl => ?_)
              refine lv_iinc (pc := 95) (v := nI (j + 1)) (lv' := [(7, .int (nI (j + 1))), (6, .int (zb true)), (5, .int (zb false)), (8, .int (nI bb)), (0, .ref mo), (1, .int (nI k)), (2, .int (zb v)), (3, .int (nI x)), (4, .int (nI i))]) hx hb dX9_linesAt_95 hl (k := 8) rfl (n_inc j 1) (by decide) rfl (fun ls hl => ?_)
              refine lv_goto (pc := 98) (tgt := 23) hx hb dX9_linesAt_98 (by decide) ?_
              exact ih23 (j + 1) false true (by first | assumption | omega) (by rw [orb, ← hp9, c41, bsP_s hbb, hin]; rfl) (by rw [orb, ← hq9, c70]; rfl) (by omega) _ (lv_sub hl [4, 5, 6, 7, 8, 2, 1, 0] rfl)
            refine lv_iload (pc := 73) hx hb dX9_linesAt_73 (lv_at hl 1 rfl) ?_
            refine lv_iconst (pc := 75) (v := (-1)) hx hb dX9_linesAt_75 (by decide) ?_
            refine lv_icmp_eq (pc := 76) (tgt := 92) hx hb dX9_linesAt_76 (by decide) (fun c76 => ?_) (fun c76 => ?_)
            · exact absurd c76 (nI_nm1 (by omega))
            have hbc := hbb
            have hbcl := hbbl
            refine lv_aload_n (pc := 79) hx hb dX9_linesAt_79 rfl (lv_at hl 2 rfl) ?_
            refine lv_iload (pc := 80) hx hb dX9_linesAt_80 (lv_at hl 1 rfl) ?_
            refine ro_go (pc := 82) (va_runV (As := [.int (nI bb)]) (rest := []) ⟨hx, hb, hml, hown, hts⟩ (c_X9_isThin l D Y mo c r fs w bb (hf) (hC) (hf3) (hbcl)) (cwV 1 hts gX9_linesAt_X9_isThin rfl rfl rfl ⟨rfl, hdX9_isThin⟩ ⟨Nat.le_of_ble_eq_true rfl, Nat.le_of_ble_eq_true rfl⟩) (ro_pV hK (hP.sub [0] rfl) (ro_recv hK hP (ci := 8) (q0 := 0) rfl rfl)) rfl rfl hl.1 rfl (lv_room (Nat.le_of_ble_eq_true rfl)) dX9_linesAt_82 ⟨Nat.le_of_ble_eq_true rfl, Nat.le_of_ble_eq_true rfl⟩) ?_
            refine z_if_ne (pc := 85) (tgt := 92) hx hb dX9_linesAt_85 (by decide) (fun c85 => ?_) (fun c85 => ?_)
            · refine lv_iconst (pc := 92) (v := zb false) hx hb dX9_linesAt_92 rfl ?_
              refine lv_istore (pc := 93) (lv' := [(6, .int (zb false)), (5, .int (zb false)), (8, .int (nI bb)), (0, .ref mo), (1, .int (nI k)), (2, .int (zb v)), (3, .int (nI x)), (4, .int (nI i)), (7, .int (nI j))]) hx hb dX9_linesAt_93 hl (by decide) rfl (fun ls hl => ?_)
              refine lv_iinc (pc := 95) (v := nI (j + 1)) (lv' := [(7, .int (nI (j + 1))), (6, .int (zb false)), (5, .int (zb false)), (8, .int (nI bb)), (0, .ref mo), (1, .int (nI k)), (2, .int (zb v)), (3, .int (nI x)), (4, .int (nI i))]) hx hb dX9_linesAt_95 hl (k := 8) rfl (n_inc j 1) (by decide) rfl (fun ls hl => ?_)
              refine lv_goto (pc := 98) (tgt := 23) hx hb dX9_linesAt_98 (by decide) ?_
              exact ih23 (j + 1) false false (by first | assumption | omega) (by rw [orb, ← hp9, c41, bsP_s hbb, hin]; rfl) (by rw [orb, ← hq9, c70, bsP_s hbc, c85]; rfl) (by omega) _ (lv_sub hl [4, 5, 6, 7, 8, 2, 1, 0] rfl)
            refine lv_iconst (pc := 88) (v := zb true) hx hb dX9_linesAt_88 rfl ?_
            refine lv_goto (pc := 89) (tgt := 93) hx hb dX9_linesAt_89 (by decide) ?_
            refine lv_istore (pc := 93) (lv' := [(6, .int (zb true)), (5, .int (zb false)), (8, .int (nI bb)), (0, .ref mo), (1, .int (nI k)), (2, .int (zb v)), (3, .int (nI x)), (4, .int (nI i)), (7, .int (nI j))]) hx hb dX9_linesAt_93 hl (by decide) rfl (fun ls hl => ?_)
            refine lv_iinc (pc := 95) (v := nI (j + 1)) (lv' := [(7, .int (nI (j + 1))), (6, .int (zb true)), (5, .int (zb false)), (8, .int (nI bb)), (0, .ref mo), (1, .int (nI k)), (2, .int (zb v)), (3, .int (nI x)), (4, .int (nI i))]) hx hb dX9_linesAt_95 hl (k := 8) rfl (n_inc j 1) (by decide) rfl (fun ls hl => ?_)
            refine lv_goto (pc := 98) (tgt := 23) hx hb dX9_linesAt_98 (by decide) ?_
            exact ih23 (j + 1) false true (by first | assumption | omega) (by rw [orb, ← hp9, c41, bsP_s hbb, hin]; rfl) (by rw [orb, ← hq9, c70, bsP_s hbc, c85]; rfl) (by omega) _ (lv_sub hl [4, 5, 6, 7, 8, 2, 1, 0] rfl)
          have hin : inS c r w k bb = true := (sa_k hC hnu hbbl hk31).mp c58
          refine lv_iconst (pc := 61) (v := zb true) hx hb dX9_linesAt_61 rfl ?_
          refine lv_goto (pc := 62) (tgt := 66) hx hb dX9_linesAt_62 (by decide) ?_
          refine lv_istore (pc := 66) (lv' := [(5, .int (zb true)), (8, .int (nI bb)), (0, .ref mo), (1, .int (nI k)), (2, .int (zb v)), (3, .int (nI x)), (4, .int (nI i)), (6, .int (zb q)), (7, .int (nI j))]) hx hb dX9_linesAt_66 hl (by decide) rfl (fun ls hl => ?_)
          refine lv_iload (pc := 68) hx hb dX9_linesAt_68 (lv_at hl 7 rfl) ?_
          refine z_if_ne (pc := 70) (tgt := 88) hx hb dX9_linesAt_70 (by decide) (fun c70 => ?_) (fun c70 => ?_)
          · refine lv_iconst (pc := 88) (v := zb true) hx hb dX9_linesAt_88 rfl ?_
            refine lv_goto (pc := 89) (tgt := 93) hx hb dX9_linesAt_89 (by decide) ?_
            refine lv_istore (pc := 93) (lv' := [(6, .int (zb true)), (5, .int (zb true)), (8, .int (nI bb)), (0, .ref mo), (1, .int (nI k)), (2, .int (zb v)), (3, .int (nI x)), (4, .int (nI i)), (7, .int (nI j))]) hx hb dX9_linesAt_93 hl (by decide) rfl (fun ls hl => ?_)
            refine lv_iinc (pc := 95) (v := nI (j + 1)) (lv' := [(7, .int (nI (j + 1))), (6, .int (zb true)), (5, .int (zb true)), (8, .int (nI bb)), (0, .ref mo), (1, .int (nI k)), (2, .int (zb v)), (3, .int (nI x)), (4, .int (nI i))]) hx hb dX9_linesAt_95 hl (k := 8) rfl (n_inc j 1) (by decide) rfl (fun ls hl => ?_)
            refine lv_goto (pc := 98) (tgt := 23) hx hb dX9_linesAt_98 (by decide) ?_
            exact ih23 (j + 1) true true (by first | assumption | omega) (by rw [orb, ← hp9, c41, bsP_s hbb, hin]; rfl) (by rw [orb, ← hq9, c70]; rfl) (by omega) _ (lv_sub hl [4, 5, 6, 7, 8, 2, 1, 0] rfl)
          refine lv_iload (pc := 73) hx hb dX9_linesAt_73 (lv_at hl 1 rfl) ?_
          refine lv_iconst (pc := 75) (v := (-1)) hx hb dX9_linesAt_75 (by decide) ?_
          refine lv_icmp_eq (pc := 76) (tgt := 92) hx hb dX9_linesAt_76 (by decide) (fun c76 => ?_) (fun c76 => ?_)
          · exact absurd c76 (nI_nm1 (by omega))
          have hbc := hbb
          have hbcl := hbbl
          refine lv_aload_n (pc := 79) hx hb dX9_linesAt_79 rfl (lv_at hl 2 rfl) ?_
          refine lv_iload (pc := 80) hx hb dX9_linesAt_80 (lv_at hl 1 rfl) ?_
          refine ro_go (pc := 82) (va_runV (As := [.int (nI bb)]) (rest := []) ⟨hx, hb, hml, hown, hts⟩ (c_X9_isThin l D Y mo c r fs w bb (hf) (hC) (hf3) (hbcl)) (cwV 1 hts gX9_linesAt_X9_isThin rfl rfl rfl ⟨rfl, hdX9_isThin⟩ ⟨Nat.le_of_ble_eq_true rfl, Nat.le_of_ble_eq_true rfl⟩) (ro_pV hK (hP.sub [0] rfl) (ro_recv hK hP (ci := 8) (q0 := 0) rfl rfl)) rfl rfl hl.1 rfl (lv_room (Nat.le_of_ble_eq_true rfl)) dX9_linesAt_82 ⟨Nat.le_of_ble_eq_true rfl, Nat.le_of_ble_eq_true rfl⟩) ?_
          refine z_if_ne (pc := 85) (tgt := 92) hx hb dX9_linesAt_85 (by decide) (fun c85 => ?_) (fun c85 => ?_)
          · refine lv_iconst (pc := 92) (v := zb false) hx hb dX9_linesAt_92 rfl ?_
            refine lv_istore (pc := 93) (lv' := [(6, .int (zb false)), (5, .int (zb true)), (8, .int (nI bb)), (0, .ref mo), (1, .int (nI k)), (2, .int (zb v)), (3, .int (nI x)), (4, .int (nI i)), (7, .int (nI j))]) hx hb dX9_linesAt_93 hl (by decide) rfl (fun ls hl => ?_)
            refine lv_iinc (pc := 95) (v := nI (j + 1)) (lv' := [(7, .int (nI (j + 1))), (6, .int (zb false)), (5, .int (zb true)), (8, .int (nI bb)), (0, .ref mo), (1, .int (nI k)), (2, .int (zb v)), (3, .int (nI x)), (4, .int (nI i))]) hx hb dX9_linesAt_95 hl (k := 8) rfl (n_inc j 1) (by decide) rfl (fun ls hl => ?_)
            refine lv_goto (pc := 98) (tgt := 23) hx hb dX9_linesAt_98 (by decide) ?_
            exact ih23 (j + 1) true false (by first | assumption | omega) (by rw [orb, ← hp9, c41, bsP_s hbb, hin]; rfl) (by rw [orb, ← hq9, c70, bsP_s hbc, c85]; rfl) (by omega) _ (lv_sub hl [4, 5, 6, 7, 8, 2, 1, 0] rfl)
          refine lv_iconst (pc := 88) (v := zb true) hx hb dX9_linesAt_88 rfl ?_
          refine lv_goto (pc := 89) (tgt := 93) hx hb dX9_linesAt_89 (by decide) ?_
          refine lv_istore (pc := 93) (lv' := [(6, .int (zb true)), (5, .int (zb true)), (8, .int (nI bb)), (0, .ref mo), (1, .int (nI k)), (2, .int (zb v)), (3, .int (nI x)), (4, .int (nI i)), (7, .int (nI j))]) hx hb dX9_linesAt_93 hl (by decide) rfl (fun ls hl => ?_)
          refine lv_iinc (pc := 95) (v := nI (j + 1)) (lv' := [(7, .int (nI (j + 1))), (6, .int (zb true)), (5, .int (zb true)), (8, .int (nI bb)), (0, .ref mo), (1, .int (nI k)), (2, .int (zb v)), (3, .int (nI x)), (4, .int (nI i))]) hx hb dX9_linesAt_95 hl (k := 8) rfl (n_inc j 1) (by decide) rfl (fun ls hl => ?_)
          refine lv_goto (pc := 98) (tgt := 23) hx hb dX9_linesAt_98 (by decide) ?_
          exact ih23 (j + 1) true true (by first | assumption | omega) (by rw [orb, ← hp9, c41, bsP_s hbb, hin]; rfl) (by rw [orb, ← hq9, c70, bsP_s hbc, c85]; rfl) (by omega) _ (lv_sub hl [4, 5, 6, 7, 8, 2, 1, 0] rfl)
      exact L23 ((2 - 0) + 1) 0 false false (by first | assumption | omega) (rfl) (rfl) (Nat.lt_succ_self _) _ (lv_sub hl [3, 4, 5, 6, 7, 2, 1, 0] rfl)
  exact L5 ((al c r - 0) + 1) 0 0 (by first | assumption | omega) (rfl) (Nat.lt_succ_self _) _ (lv_sub hl [2, 3, 4, 1, 0] rfl)

set_option maxHeartbeats 1200000 in
set_option maxRecDepth 100000 in
theorem c_X9_stringNow (l : Launch) (D : va_G) (Y : vY) (mo : Nat) (c : Nat) (r : Nat) (fs : List Value) (w : Int64) (aSA : Nat) (aSZ : Nat) (aLP : Nat) (aOP : Nat) (k : Nat) (a : Nat) (sa : Nat → Int32) (sz : Nat → Int32) (lp : Nat → Int32) (op : Nat → Int32) (hf : MF c r fs) (hC : Cr c r) (hf3 : fs[3]? = some (.long w)) (hf12 : fs[12]? = some (.ref aSA)) (hf13 : fs[13]? = some (.ref aSZ)) (hf14 : fs[14]? = some (.ref aLP)) (hf15 : fs[15]? = some (.ref aOP)) (hk0 : k < nst c r w) (ha4 : a ≤ 4) (hsa : SaOK c r w sa sz lp op) : Ro l yX9_stringNow wsX9_stringNow ({ frames := 6, cells := 0, slots := 0, locals := 141 } : Room) [.ref mo, .int (nI k), .int (nI a)] D Y [(mo, .inr (8, fs)), (aSA, .inl (Y.1, 16, .inl sa)), (aSZ, .inl (Y.1, 16, .inl sz)), (aLP, .inl (Y.2.2.1, 16, .inl lp)), (aOP, .inl (Y.2.2.1, 16, .inl op))] (some (.int (nI (propM c r w k a)))) := by
  refine ro_intro (by decide +kernel) rfl (Nat.le_of_ble_eq_true rfl) [(0, .ref mo), (1, .int (nI k)), (2, .int (nI a))] rfl ?_
  intro pG eG sG mG aG bG tG cG ls hx hb hr hml hts hown hlocks hK hP hl
  have hP : va_P D vwCl [(mo, .inr (8, fs)), (aSA, .inl (Y.1, 16, .inl sa)), (aSZ, .inl (Y.1, 16, .inl sz)), (aLP, .inl (Y.2.2.1, 16, .inl lp)), (aOP, .inl (Y.2.2.1, 16, .inl op))] sG.heap := hP
  have hown : sG.vm.findClass RX9 = some mG.cls := hown
  have hl : lv_has ls 3 [(0, .ref mo), (1, .int (nI k)), (2, .int (nI a))] := hl
  have hinX9 : ∀ w ∈ u_ws RX9 TX9 25, w ∈ wsX9_stringNow := by decide +kernel
  obtain ⟨hq1, hq2, hq3, hq4, hq5, hq6, hq7, hq8, hq9, hq10, hq11⟩ := hC.q
  have hns := nst_le c r w
  obtain ⟨f1, f2, f3⟩ := hsa.2 k hk0
  refine lv_iload_n (pc := 0) hx hb dX9_stringNow_0 rfl (lv_at hl 2 rfl) ?_
  by_cases c1_0 : a = 0
  · refine lv_tableIn (pc := 1) (off := 27) (tgt := 28) hx hb dX9_stringNow_1 (by rw [c1_0]; decide) (by rw [c1_0]; decide) (by rw [c1_0]; first | rfl | decide) (by decide) ?_
    refine lv_aload_n (pc := 28) hx hb dX9_stringNow_28 rfl (lv_at hl 0 rfl) ?_
    refine va_get (pc := 29) (D := D) (ci := 8) (v := .ref aSZ) (C := RX9) (T := TX9) (N := 25) hx hb hts hinX9 hown hK.1 hP 0 rfl rfl 13 (by decide) (hts (.fieldLink RX9 32 "BoxesGameModel" "sizes" "[I") (List.mem_of_getElem? (i := 1) rfl)) (fun _ h9 => h9) hf13 dX9_stringNow_29 ?_
    refine lv_iload_n (pc := 32) hx hb dX9_stringNow_32 rfl (lv_at hl 1 rfl) ?_
    refine va_iald (pc := 33) hx hb hK.1 hP 2 0 rfl rfl (vp_in_nI (by omega) (by decide)) dX9_stringNow_33 ?_
    refine top_i (show sz (nI k).toNatClampNeg = sz k from by rw [nI_clamp (by omega)]) ?_
    refine top_i (show sz k = nI (ssz c r w k) from f1) ?_
    exact ro_iret (v := nI (ssz c r w k)) hx hb hr hlocks (by rw [c1_0]; rfl) dX9_stringNow_34
  by_cases c1_1 : a = 1
  · refine lv_tableIn (pc := 1) (off := 34) (tgt := 35) hx hb dX9_stringNow_1 (by rw [c1_1]; decide) (by rw [c1_1]; decide) (by rw [c1_1]; first | rfl | decide) (by decide) ?_
    refine lv_aload_n (pc := 35) hx hb dX9_stringNow_35 rfl (lv_at hl 0 rfl) ?_
    refine va_get (pc := 36) (D := D) (ci := 8) (v := .ref aLP) (C := RX9) (T := TX9) (N := 25) hx hb hts hinX9 hown hK.1 hP 0 rfl rfl 14 (by decide) (hts (.fieldLink RX9 35 "BoxesGameModel" "loops" "[Z") (List.mem_of_getElem? (i := 2) rfl)) (fun _ h9 => h9) hf14 dX9_stringNow_36 ?_
    refine lv_iload_n (pc := 39) hx hb dX9_stringNow_39 rfl (lv_at hl 1 rfl) ?_
    refine va_zald (pc := 40) hx hb hK.1 hP 3 2 rfl rfl (vp_in_nI (by omega) (by decide)) dX9_stringNow_40 ?_
    refine top_i (show lp (nI k).toNatClampNeg = lp k from by rw [nI_clamp (by omega)]) ?_
    refine top_i (show lp k = zb (slop c r w k) from f2) ?_
    refine z_if_eq (pc := 41) (tgt := 48) hx hb dX9_stringNow_41 (by decide) (fun c41 => ?_) (fun c41 => ?_)
    · refine lv_iconst (pc := 48) (v := nI 0) hx hb dX9_stringNow_48 rfl ?_
      exact ro_iret (v := nI 0) hx hb hr hlocks (by rw [c1_1]; show _ = nI (zn (slop c r w k)); rw [c41]; rfl) dX9_stringNow_49
    refine lv_iconst (pc := 44) (v := nI 1) hx hb dX9_stringNow_44 rfl ?_
    refine lv_goto (pc := 45) (tgt := 49) hx hb dX9_stringNow_45 (by decide) ?_
    exact ro_iret (v := nI 1) hx hb hr hlocks (by rw [c1_1]; show _ = nI (zn (slop c r w k)); rw [c41]; rfl) dX9_stringNow_49
  by_cases c1_2 : a = 2
  · refine lv_tableIn (pc := 1) (off := 49) (tgt := 50) hx hb dX9_stringNow_1 (by rw [c1_2]; decide) (by rw [c1_2]; decide) (by rw [c1_2]; first | rfl | decide) (by decide) ?_
    refine lv_aload_n (pc := 50) hx hb dX9_stringNow_50 rfl (lv_at hl 0 rfl) ?_
    refine va_get (pc := 51) (D := D) (ci := 8) (v := .ref aOP) (C := RX9) (T := TX9) (N := 25) hx hb hts hinX9 hown hK.1 hP 0 rfl rfl 15 (by decide) (hts (.fieldLink RX9 39 "BoxesGameModel" "opens" "[Z") (List.mem_of_getElem? (i := 3) rfl)) (fun _ h9 => h9) hf15 dX9_stringNow_51 ?_
    refine lv_iload_n (pc := 54) hx hb dX9_stringNow_54 rfl (lv_at hl 1 rfl) ?_
    refine va_zald (pc := 55) hx hb hK.1 hP 4 2 rfl rfl (vp_in_nI (by omega) (by decide)) dX9_stringNow_55 ?_
    refine top_i (show op (nI k).toNatClampNeg = op k from by rw [nI_clamp (by omega)]) ?_
    refine top_i (show op k = zb (sopn c r w k) from f3) ?_
    refine z_if_eq (pc := 56) (tgt := 63) hx hb dX9_stringNow_56 (by decide) (fun c56 => ?_) (fun c56 => ?_)
    · refine lv_iconst (pc := 63) (v := nI 0) hx hb dX9_stringNow_63 rfl ?_
      exact ro_iret (v := nI 0) hx hb hr hlocks (by rw [c1_2]; show _ = nI (zn (sopn c r w k)); rw [c56]; rfl) dX9_stringNow_64
    refine lv_iconst (pc := 59) (v := nI 1) hx hb dX9_stringNow_59 rfl ?_
    refine lv_goto (pc := 60) (tgt := 64) hx hb dX9_stringNow_60 (by decide) ?_
    exact ro_iret (v := nI 1) hx hb hr hlocks (by rw [c1_2]; show _ = nI (zn (sopn c r w k)); rw [c56]; rfl) dX9_stringNow_64
  refine lv_tableOut (pc := 1) (tgt := 65) hx hb dX9_stringNow_1 (by rw [nI_toInt (by omega)]; omega) (by decide) ?_
  refine lv_aload_n (pc := 65) hx hb dX9_stringNow_65 rfl (lv_at hl 0 rfl) ?_
  refine lv_iload_n (pc := 66) hx hb dX9_stringNow_66 rfl (lv_at hl 1 rfl) ?_
  refine lv_iload_n (pc := 67) hx hb dX9_stringNow_67 rfl (lv_at hl 2 rfl) ?_
  refine lv_iconst (pc := 68) (v := nI 4) hx hb dX9_stringNow_68 rfl ?_
  refine n_icmp_ne (pc := 69) (tgt := 76) hx hb (by omega) (by omega) dX9_stringNow_69 (by decide) (fun c69 => ?_) (fun c69 => ?_)
  · refine lv_iconst (pc := 76) (v := nI 0) hx hb dX9_stringNow_76 rfl ?_
    refine ro_go (pc := 77) (va_runV (As := [.int (nI k), .int (nI 0)]) (rest := []) ⟨hx, hb, hml, hown, hts⟩ (c_X9_linesAt l D Y mo c r fs w aSA k false sa (hf) (hC) (hf3) (hf12) (by omega) (hsa.1)) (cwV 2 hts gX9_stringNow_X9_linesAt rfl rfl rfl ⟨rfl, hdX9_linesAt⟩ ⟨Nat.le_of_ble_eq_true rfl, Nat.le_of_ble_eq_true rfl⟩) (ro_pV hK (hP.sub [0, 1] rfl) (ro_recv hK hP (ci := 8) (q0 := 0) rfl rfl)) rfl rfl hl.1 rfl (lv_room (Nat.le_of_ble_eq_true rfl)) dX9_stringNow_77 ⟨Nat.le_of_ble_eq_true rfl, Nat.le_of_ble_eq_true rfl⟩) ?_
    exact ro_iret (v := nI (fb_ct (slq c r w k false) (al c r))) hx hb hr hlocks (by rw [show a = 3 by omega]; exact congrArg nI slq_lin) dX9_stringNow_80
  refine lv_iconst (pc := 72) (v := nI 1) hx hb dX9_stringNow_72 rfl ?_
  refine lv_goto (pc := 73) (tgt := 77) hx hb dX9_stringNow_73 (by decide) ?_
  refine ro_go (pc := 77) (va_runV (As := [.int (nI k), .int (nI 1)]) (rest := []) ⟨hx, hb, hml, hown, hts⟩ (c_X9_linesAt l D Y mo c r fs w aSA k true sa (hf) (hC) (hf3) (hf12) (by omega) (hsa.1)) (cwV 2 hts gX9_stringNow_X9_linesAt rfl rfl rfl ⟨rfl, hdX9_linesAt⟩ ⟨Nat.le_of_ble_eq_true rfl, Nat.le_of_ble_eq_true rfl⟩) (ro_pV hK (hP.sub [0, 1] rfl) (ro_recv hK hP (ci := 8) (q0 := 0) rfl rfl)) rfl rfl hl.1 rfl (lv_room (Nat.le_of_ble_eq_true rfl)) dX9_stringNow_77 ⟨Nat.le_of_ble_eq_true rfl, Nat.le_of_ble_eq_true rfl⟩) ?_
  exact ro_iret (v := nI (fb_ct (slq c r w k true) (al c r))) hx hb hr hlocks (by rw [c69]; exact congrArg nI slq_mix) dX9_stringNow_80

set_option maxHeartbeats 1200000 in
set_option maxRecDepth 100000 in
theorem c_X9_valueOf (l : Launch) (D : va_G) (Y : vY) (mo : Nat) (c : Nat) (r : Nat) (fs : List Value) (aSZ : Nat) (aLP : Nat) (w : Int64) (k : Nat) (v : Int) (sz : Nat → Int32) (lp : Nat → Int32) (hf : MF c r fs) (hC : Cr c r) (hf13 : fs[13]? = some (.ref aSZ)) (hf14 : fs[14]? = some (.ref aLP)) (hk16 : k < 16) (hs3 : sz k = nI (ssz c r w k)) (hl3 : lp k = zb (slop c r w k)) (hv : -300 ≤ v ∧ v ≤ 300) : Ro l yX9_valueOf wsX9_valueOf ({ frames := 1, cells := 0, slots := 0, locals := 21 } : Room) [.ref mo, .int (nI k), .int (iI v)] D Y [(mo, .inr (8, fs)), (aSZ, .inl (Y.1, 16, .inl sz)), (aLP, .inl (Y.2.2.1, 16, .inl lp))] (some (.int (iI (wv (ssz c r w k) (sdis c r w k) v)))) := by
  refine ro_intro (by decide +kernel) rfl (Nat.le_of_ble_eq_true rfl) [(0, .ref mo), (1, .int (nI k)), (2, .int (iI v))] rfl ?_
  intro pG eG sG mG aG bG tG cG ls hx hb hr hml hts hown hlocks hK hP hl
  have hP : va_P D vwCl [(mo, .inr (8, fs)), (aSZ, .inl (Y.1, 16, .inl sz)), (aLP, .inl (Y.2.2.1, 16, .inl lp))] sG.heap := hP
  have hown : sG.vm.findClass RX9 = some mG.cls := hown
  have hl : lv_has ls 5 [(0, .ref mo), (1, .int (nI k)), (2, .int (iI v))] := hl
  have hinX9 : ∀ w ∈ u_ws RX9 TX9 25, w ∈ wsX9_valueOf := by decide +kernel
  obtain ⟨hq1, hq2, hq3, hq4, hq5, hq6, hq7, hq8, hq9, hq10, hq11⟩ := hC.q
  have hssz := ssz_le c r w k
  refine lv_aload_n (pc := 0) hx hb dX9_valueOf_0 rfl (lv_at hl 0 rfl) ?_
  refine va_get (pc := 1) (D := D) (ci := 8) (v := .ref aSZ) (C := RX9) (T := TX9) (N := 25) hx hb hts hinX9 hown hK.1 hP 0 rfl rfl 13 (by decide) (hts (.fieldLink RX9 32 "BoxesGameModel" "sizes" "[I") (List.mem_of_getElem? (i := 1) rfl)) (fun _ h9 => h9) hf13 dX9_valueOf_1 ?_
  refine lv_iload_n (pc := 4) hx hb dX9_valueOf_4 rfl (lv_at hl 1 rfl) ?_
  refine va_iald (pc := 5) hx hb hK.1 hP 1 0 rfl rfl (vp_in_nI (by omega) (by decide)) dX9_valueOf_5 ?_
  refine top_i (show sz (nI k).toNatClampNeg = sz k from by rw [nI_clamp (by omega)]) ?_
  refine top_i (show sz k = nI (ssz c r w k) from hs3) ?_
  refine lv_istore_n (pc := 6) (lv' := [(3, .int (nI (ssz c r w k))), (0, .ref mo), (1, .int (nI k)), (2, .int (iI v))]) hx hb dX9_valueOf_6 rfl hl (by decide) rfl (fun ls hl => ?_)
  refine lv_aload_n (pc := 7) hx hb dX9_valueOf_7 rfl (lv_at hl 1 rfl) ?_
  refine va_get (pc := 8) (D := D) (ci := 8) (v := .ref aLP) (C := RX9) (T := TX9) (N := 25) hx hb hts hinX9 hown hK.1 hP 0 rfl rfl 14 (by decide) (hts (.fieldLink RX9 35 "BoxesGameModel" "loops" "[Z") (List.mem_of_getElem? (i := 2) rfl)) (fun _ h9 => h9) hf14 dX9_valueOf_8 ?_
  refine lv_iload_n (pc := 11) hx hb dX9_valueOf_11 rfl (lv_at hl 2 rfl) ?_
  refine va_zald (pc := 12) hx hb hK.1 hP 2 2 rfl rfl (vp_in_nI (by omega) (by decide)) dX9_valueOf_12 ?_
  refine top_i (show lp (nI k).toNatClampNeg = lp k from by rw [nI_clamp (by omega)]) ?_
  refine top_i (show lp k = zb (slop c r w k) from hl3) ?_
  refine z_if_eq (pc := 13) (tgt := 25) hx hb dX9_valueOf_13 (by decide) (fun c13 => ?_) (fun c13 => ?_)
  · refine lv_aload_n (pc := 25) hx hb dX9_valueOf_25 rfl (lv_at hl 1 rfl) ?_
    refine lv_iload_n (pc := 26) hx hb dX9_valueOf_26 rfl (lv_at hl 2 rfl) ?_
    refine ro_go (pc := 27) (va_runV (As := [.int (nI k)]) (rest := []) ⟨hx, hb, hml, hown, hts⟩ (c_X9_isLong l D Y mo c r fs aSZ aLP w k sz lp (hf) (hC) (hf13) (hf14) (hk16) (hs3) (hl3)) (cwV 1 hts gX9_valueOf_X9_isLong rfl rfl rfl ⟨rfl, hdX9_isLong⟩ ⟨Nat.le_of_ble_eq_true rfl, Nat.le_of_ble_eq_true rfl⟩) (ro_pV hK hP (ro_recv hK hP (ci := 8) (q0 := 0) rfl rfl)) rfl rfl hl.1 rfl (lv_room (Nat.le_of_ble_eq_true rfl)) dX9_valueOf_27 ⟨Nat.le_of_ble_eq_true rfl, Nat.le_of_ble_eq_true rfl⟩) ?_
    refine z_if_eq (pc := 30) (tgt := 41) hx hb dX9_valueOf_30 (by decide) (fun c30 => ?_) (fun c30 => ?_)
    · refine lv_iload_n (pc := 41) hx hb dX9_valueOf_41 rfl (lv_at hl 0 rfl) ?_
      refine lv_iload_n (pc := 42) hx hb dX9_valueOf_42 rfl (lv_at hl 3 rfl) ?_
      refine lv_isub (pc := 43) hx hb dX9_valueOf_43 ?_
      refine top_i (show (nI (ssz c r w k)) - (iI v) = iI ((ssz c r w k : Int) - v) from by rw [iI_nI, iI_sub]) ?_
      refine lv_istore (pc := 44) (lv' := [(4, .int (iI ((ssz c r w k : Int) - v))), (3, .int (nI (ssz c r w k))), (0, .ref mo), (1, .int (nI k)), (2, .int (iI v))]) hx hb dX9_valueOf_44 hl (by decide) rfl (fun ls hl => ?_)
      refine lv_iload_n (pc := 46) hx hb dX9_valueOf_46 rfl (lv_at hl 1 rfl) ?_
      refine lv_iload_n (pc := 47) hx hb dX9_valueOf_47 rfl (lv_at hl 4 rfl) ?_
      refine lv_isub (pc := 48) hx hb dX9_valueOf_48 ?_
      refine top_i (show (nI (ssz c r w k)) - (iI v) = iI ((ssz c r w k : Int) - v) from by rw [iI_nI, iI_sub]) ?_
      refine lv_iload (pc := 49) hx hb dX9_valueOf_49 (lv_at hl 0 rfl) ?_
      refine lv_icmp_le (pc := 51) (tgt := 60) hx hb dX9_valueOf_51 (by decide) (fun c51 => ?_) (fun c51 => ?_)
      · have c51z := (iI_le (by omega) (by omega) (by omega) (by omega)).mp c51
        refine lv_iload (pc := 60) hx hb dX9_valueOf_60 (lv_at hl 0 rfl) ?_
        exact ro_iret (v := iI ((ssz c r w k : Int) - v)) hx hb hr hlocks (by rw [sd_0 c13 c30, wv_c rfl]) dX9_valueOf_62
      have c51z : ¬ _ := fun q => c51 ((iI_le (by omega) (by omega) (by omega) (by omega)).mpr q)
      refine lv_iload_n (pc := 54) hx hb dX9_valueOf_54 rfl (lv_at hl 1 rfl) ?_
      refine lv_iload_n (pc := 55) hx hb dX9_valueOf_55 rfl (lv_at hl 4 rfl) ?_
      refine lv_isub (pc := 56) hx hb dX9_valueOf_56 ?_
      refine top_i (show (nI (ssz c r w k)) - (iI v) = iI ((ssz c r w k : Int) - v) from by rw [iI_nI, iI_sub]) ?_
      refine lv_goto (pc := 57) (tgt := 62) hx hb dX9_valueOf_57 (by decide) ?_
      exact ro_iret (v := iI ((ssz c r w k : Int) - v)) hx hb hr hlocks (by rw [sd_0 c13 c30, wv_c rfl]) dX9_valueOf_62
    refine lv_iload_n (pc := 33) hx hb dX9_valueOf_33 rfl (lv_at hl 0 rfl) ?_
    refine lv_iconst (pc := 34) (v := nI 4) hx hb dX9_valueOf_34 rfl ?_
    refine lv_isub (pc := 35) hx hb dX9_valueOf_35 ?_
    refine lv_iload_n (pc := 36) hx hb dX9_valueOf_36 rfl (lv_at hl 3 rfl) ?_
    refine lv_iadd (pc := 37) hx hb dX9_valueOf_37 ?_
    refine top_i (show ((nI (ssz c r w k)) - (nI 4)) + (iI v) = iI ((ssz c r w k : Int) - 4 + v) from by rw [iI_nI, iI_nI, iI_sub, iI_add]; rfl) ?_
    refine lv_goto (pc := 38) (tgt := 44) hx hb dX9_valueOf_38 (by decide) ?_
    refine lv_istore (pc := 44) (lv' := [(4, .int (iI ((ssz c r w k : Int) - 4 + v))), (3, .int (nI (ssz c r w k))), (0, .ref mo), (1, .int (nI k)), (2, .int (iI v))]) hx hb dX9_valueOf_44 hl (by decide) rfl (fun ls hl => ?_)
    refine lv_iload_n (pc := 46) hx hb dX9_valueOf_46 rfl (lv_at hl 1 rfl) ?_
    refine lv_iload_n (pc := 47) hx hb dX9_valueOf_47 rfl (lv_at hl 4 rfl) ?_
    refine lv_isub (pc := 48) hx hb dX9_valueOf_48 ?_
    refine top_i (show (nI (ssz c r w k)) - (iI v) = iI ((ssz c r w k : Int) - v) from by rw [iI_nI, iI_sub]) ?_
    refine lv_iload (pc := 49) hx hb dX9_valueOf_49 (lv_at hl 0 rfl) ?_
    refine lv_icmp_le (pc := 51) (tgt := 60) hx hb dX9_valueOf_51 (by decide) (fun c51 => ?_) (fun c51 => ?_)
    · have c51z := (iI_le (by omega) (by omega) (by omega) (by omega)).mp c51
      refine lv_iload (pc := 60) hx hb dX9_valueOf_60 (lv_at hl 0 rfl) ?_
      exact ro_iret (v := iI ((ssz c r w k : Int) - 4 + v)) hx hb hr hlocks (by rw [of_decide_eq_true c30, wv_k (by decide)]; congr 1; rw [Int.max_def]; split <;> omega) dX9_valueOf_62
    have c51z : ¬ _ := fun q => c51 ((iI_le (by omega) (by omega) (by omega) (by omega)).mpr q)
    refine lv_iload_n (pc := 54) hx hb dX9_valueOf_54 rfl (lv_at hl 1 rfl) ?_
    refine lv_iload_n (pc := 55) hx hb dX9_valueOf_55 rfl (lv_at hl 4 rfl) ?_
    refine lv_isub (pc := 56) hx hb dX9_valueOf_56 ?_
    refine top_i (show (nI (ssz c r w k)) - (iI v) = iI ((ssz c r w k : Int) - v) from by rw [iI_nI, iI_sub]) ?_
    refine lv_goto (pc := 57) (tgt := 62) hx hb dX9_valueOf_57 (by decide) ?_
    exact ro_iret (v := iI ((ssz c r w k : Int) - v)) hx hb hr hlocks (by rw [of_decide_eq_true c30, wv_k (by decide)]; congr 1; rw [Int.max_def]; split <;> omega) dX9_valueOf_62
  refine lv_iload_n (pc := 16) hx hb dX9_valueOf_16 rfl (lv_at hl 0 rfl) ?_
  refine lv_bipush (pc := 17) (v := nI 8) hx hb dX9_valueOf_17 rfl ?_
  refine lv_isub (pc := 19) hx hb dX9_valueOf_19 ?_
  refine lv_iload_n (pc := 20) hx hb dX9_valueOf_20 rfl (lv_at hl 3 rfl) ?_
  refine lv_iadd (pc := 21) hx hb dX9_valueOf_21 ?_
  refine top_i (show ((nI (ssz c r w k)) - (nI 8)) + (iI v) = iI ((ssz c r w k : Int) - 8 + v) from by rw [iI_nI, iI_nI, iI_sub, iI_add]; rfl) ?_
  refine lv_goto (pc := 22) (tgt := 44) hx hb dX9_valueOf_22 (by decide) ?_
  refine lv_istore (pc := 44) (lv' := [(4, .int (iI ((ssz c r w k : Int) - 8 + v))), (3, .int (nI (ssz c r w k))), (0, .ref mo), (1, .int (nI k)), (2, .int (iI v))]) hx hb dX9_valueOf_44 hl (by decide) rfl (fun ls hl => ?_)
  refine lv_iload_n (pc := 46) hx hb dX9_valueOf_46 rfl (lv_at hl 1 rfl) ?_
  refine lv_iload_n (pc := 47) hx hb dX9_valueOf_47 rfl (lv_at hl 4 rfl) ?_
  refine lv_isub (pc := 48) hx hb dX9_valueOf_48 ?_
  refine top_i (show (nI (ssz c r w k)) - (iI v) = iI ((ssz c r w k : Int) - v) from by rw [iI_nI, iI_sub]) ?_
  refine lv_iload (pc := 49) hx hb dX9_valueOf_49 (lv_at hl 0 rfl) ?_
  refine lv_icmp_le (pc := 51) (tgt := 60) hx hb dX9_valueOf_51 (by decide) (fun c51 => ?_) (fun c51 => ?_)
  · have c51z := (iI_le (by omega) (by omega) (by omega) (by omega)).mp c51
    refine lv_iload (pc := 60) hx hb dX9_valueOf_60 (lv_at hl 0 rfl) ?_
    exact ro_iret (v := iI ((ssz c r w k : Int) - 8 + v)) hx hb hr hlocks (by rw [sdis_y c13, wv_k (by decide)]; congr 1; rw [Int.max_def]; split <;> omega) dX9_valueOf_62
  have c51z : ¬ _ := fun q => c51 ((iI_le (by omega) (by omega) (by omega) (by omega)).mpr q)
  refine lv_iload_n (pc := 54) hx hb dX9_valueOf_54 rfl (lv_at hl 1 rfl) ?_
  refine lv_iload_n (pc := 55) hx hb dX9_valueOf_55 rfl (lv_at hl 4 rfl) ?_
  refine lv_isub (pc := 56) hx hb dX9_valueOf_56 ?_
  refine top_i (show (nI (ssz c r w k)) - (iI v) = iI ((ssz c r w k : Int) - v) from by rw [iI_nI, iI_sub]) ?_
  refine lv_goto (pc := 57) (tgt := 62) hx hb dX9_valueOf_57 (by decide) ?_
  exact ro_iret (v := iI ((ssz c r w k : Int) - v)) hx hb hr hlocks (by rw [sdis_y c13, wv_k (by decide)]; congr 1; rw [Int.max_def]; split <;> omega) dX9_valueOf_62

set_option maxHeartbeats 1200000 in
set_option maxRecDepth 100000 in
theorem c_X9_controlNow (l : Launch) (D : va_G) (Y : vY) (mo : Nat) (th : Int32) (c : Nat) (r : Nat) (w : Int64) (pl : Nat) (n : Nat) (aML : Nat) (aMR : Nat) (aOW : Nat) (len : Nat) (aBU : Nat) (aSA : Nat) (aSZ : Nat) (aLP : Nat) (aOP : Nat) (aFT : Nat) (od : Int32) (aOL : Nat) (aRS : Nat) (aCD : Nat) (pw : Int64) (pb : Int32) (ah : Int32) (hs : Int64) (sn : Int32) (sa : Nat → Int32) (sz : Nat → Int32) (lp : Nat → Int32) (op : Nat → Int32) (a : Nat) (hC : Cr c r) (ha5 : a ≤ 5) : Mu l yX9_controlNow wsX9_controlNow ({ frames := 8, cells := 0, slots := 0, locals := 185 } : Room) [.ref mo, .int (nI a)] D Y [(mo, .inr (8, [.int th, .int (nI c), .int (nI r), .long w, .int (nI pl), .int (nI n), .ref aML, .ref aMR, .ref aOW, .int (nI len), .ref aBU, .int sn, .ref aSA, .ref aSZ, .ref aLP, .ref aOP, .ref aFT, .int od, .ref aOL, .ref aRS, .ref aCD, .long pw, .int pb, .int ah, .long hs])), (aSA, .inl (Y.1, 16, .inl sa)), (aSZ, .inl (Y.1, 16, .inl sz)), (aLP, .inl (Y.2.2.1, 16, .inl lp)), (aOP, .inl (Y.2.2.1, 16, .inl op))] (fun uS : (Nat → Int32) × (Nat → Int32) × (Nat → Int32) × (Nat → Int32) => some (.int (iI (ctrM c r w a)))) (fun uS : (Nat → Int32) × (Nat → Int32) × (Nat → Int32) × (Nat → Int32) => [(mo, .inr (8, [.int th, .int (nI c), .int (nI r), .long w, .int (nI pl), .int (nI n), .ref aML, .ref aMR, .ref aOW, .int (nI len), .ref aBU, .int (nI (nst c r w)), .ref aSA, .ref aSZ, .ref aLP, .ref aOP, .ref aFT, .int od, .ref aOL, .ref aRS, .ref aCD, .long pw, .int pb, .int ah, .long hs])), (aSA, .inl (Y.1, 16, .inl uS.1)), (aSZ, .inl (Y.1, 16, .inl uS.2.1)), (aLP, .inl (Y.2.2.1, 16, .inl uS.2.2.1)), (aOP, .inl (Y.2.2.1, 16, .inl uS.2.2.2))]) (fun uS : (Nat → Int32) × (Nat → Int32) × (Nat → Int32) × (Nat → Int32) => SaOK c r w uS.1 uS.2.1 uS.2.2.1 uS.2.2.2) := by
  refine mu_intro (by decide +kernel) rfl (Nat.le_of_ble_eq_true rfl) [(0, .ref mo), (1, .int (nI a))] rfl ?_
  intro pG eG sG mG aG bG tG cG ls hx hb hr hml hts hown hlocks hK hP hD hS hl
  generalize hAA : adA [(mo, .inr (8, [.int th, .int (nI c), .int (nI r), .long w, .int (nI pl), .int (nI n), .ref aML, .ref aMR, .ref aOW, .int (nI len), .ref aBU, .int sn, .ref aSA, .ref aSZ, .ref aLP, .ref aOP, .ref aFT, .int od, .ref aOL, .ref aRS, .ref aCD, .long pw, .int pb, .int ah, .long hs])), (aSA, .inl (Y.1, 16, .inl sa)), (aSZ, .inl (Y.1, 16, .inl sz)), (aLP, .inl (Y.2.2.1, 16, .inl lp)), (aOP, .inl (Y.2.2.1, 16, .inl op))] = AA at hD hS ⊢
  have hP : va_P D vwCl [(mo, .inr (8, [.int th, .int (nI c), .int (nI r), .long w, .int (nI pl), .int (nI n), .ref aML, .ref aMR, .ref aOW, .int (nI len), .ref aBU, .int sn, .ref aSA, .ref aSZ, .ref aLP, .ref aOP, .ref aFT, .int od, .ref aOL, .ref aRS, .ref aCD, .long pw, .int pb, .int ah, .long hs])), (aSA, .inl (Y.1, 16, .inl sa)), (aSZ, .inl (Y.1, 16, .inl sz)), (aLP, .inl (Y.2.2.1, 16, .inl lp)), (aOP, .inl (Y.2.2.1, 16, .inl op))] sG.heap := hP
  have hD : va_D AA [(mo, .inr (8, [.int th, .int (nI c), .int (nI r), .long w, .int (nI pl), .int (nI n), .ref aML, .ref aMR, .ref aOW, .int (nI len), .ref aBU, .int sn, .ref aSA, .ref aSZ, .ref aLP, .ref aOP, .ref aFT, .int od, .ref aOL, .ref aRS, .ref aCD, .long pw, .int pb, .int ah, .long hs])), (aSA, .inl (Y.1, 16, .inl sa)), (aSZ, .inl (Y.1, 16, .inl sz)), (aLP, .inl (Y.2.2.1, 16, .inl lp)), (aOP, .inl (Y.2.2.1, 16, .inl op))] := hD
  have hown : sG.vm.findClass RX9 = some mG.cls := hown
  have hl : lv_has ls 7 [(0, .ref mo), (1, .int (nI a))] := hl
  have hinX9 : ∀ w ∈ u_ws RX9 TX9 25, w ∈ wsX9_controlNow := by decide +kernel
  have hS : va_S AA sG.heap sG.heap [] := hS
  obtain ⟨hq1, hq2, hq3, hq4, hq5, hq6, hq7, hq8, hq9, hq10, hq11⟩ := hC.q
  have hns := nst_le c r w
  have hco := corner_le hC
  have hcw := cwd_le c r w 4
  have htk := thk_le c r w
  refine lv_aload_n (pc := 0) hx hb dX9_controlNow_0 rfl (lv_at hl 0 rfl) ?_
  refine mu_go (pc := 1) (va_runV (As := []) (rest := []) ⟨hx, hb, hml, hown, hts⟩ (c_X9_layStrings l D Y mo th c r w pl n aML aMR aOW len aBU aSA aSZ aLP aOP aFT od aOL aRS aCD pw pb ah hs sn sa sz lp op (hC)) (cwV 0 hts gX9_controlNow_X9_layStrings rfl rfl rfl ⟨rfl, hdX9_layStrings⟩ ⟨Nat.le_of_ble_eq_true rfl, Nat.le_of_ble_eq_true rfl⟩) (mu_pV hK hP hD (ro_recv hK hP (ci := 8) (q0 := 0) rfl rfl)) rfl rfl hl.1 rfl (lv_room (Nat.le_of_ble_eq_true rfl)) dX9_controlNow_1 ⟨Nat.le_of_ble_eq_true rfl, Nat.le_of_ble_eq_true rfl⟩) hP hD hS [0, 1, 2, 3, 4] rfl (by decide) (fun uS => [(mo, .inr (8, [.int th, .int (nI c), .int (nI r), .long w, .int (nI pl), .int (nI n), .ref aML, .ref aMR, .ref aOW, .int (nI len), .ref aBU, .int (nI (nst c r w)), .ref aSA, .ref aSZ, .ref aLP, .ref aOP, .ref aFT, .int od, .ref aOL, .ref aRS, .ref aCD, .long pw, .int pb, .int ah, .long hs])), (aSA, .inl (Y.1, 16, .inl uS.1)), (aSZ, .inl (Y.1, 16, .inl uS.2.1)), (aLP, .inl (Y.2.2.1, 16, .inl uS.2.2.1)), (aOP, .inl (Y.2.2.1, 16, .inl uS.2.2.2))]) (fun _ => rfl) (fun _ => rfl) (fun uS H locs hpost hP hD hS => ?_)
  obtain ⟨sa2_1, sz2_1, lp2_1, op2_1⟩ := uS
  try dsimp only at hpost
  refine top_i (show _ = nI (nst c r w) from rfl) ?_
  have hP : va_P D vwCl [(mo, .inr (8, [.int th, .int (nI c), .int (nI r), .long w, .int (nI pl), .int (nI n), .ref aML, .ref aMR, .ref aOW, .int (nI len), .ref aBU, .int (nI (nst c r w)), .ref aSA, .ref aSZ, .ref aLP, .ref aOP, .ref aFT, .int od, .ref aOL, .ref aRS, .ref aCD, .long pw, .int pb, .int ah, .long hs])), (aSA, .inl (Y.1, 16, .inl sa2_1)), (aSZ, .inl (Y.1, 16, .inl sz2_1)), (aLP, .inl (Y.2.2.1, 16, .inl lp2_1)), (aOP, .inl (Y.2.2.1, 16, .inl op2_1))] H := hP
  have hD : va_D AA [(mo, .inr (8, [.int th, .int (nI c), .int (nI r), .long w, .int (nI pl), .int (nI n), .ref aML, .ref aMR, .ref aOW, .int (nI len), .ref aBU, .int (nI (nst c r w)), .ref aSA, .ref aSZ, .ref aLP, .ref aOP, .ref aFT, .int od, .ref aOL, .ref aRS, .ref aCD, .long pw, .int pb, .int ah, .long hs])), (aSA, .inl (Y.1, 16, .inl sa2_1)), (aSZ, .inl (Y.1, 16, .inl sz2_1)), (aLP, .inl (Y.2.2.1, 16, .inl lp2_1)), (aOP, .inl (Y.2.2.1, 16, .inl op2_1))] := hD
  refine lv_pop (pc := 4) hx hb dX9_controlNow_4 rfl ?_
  refine lv_iconst (pc := 5) (v := nI 0) hx hb dX9_controlNow_5 rfl ?_
  refine lv_istore_n (pc := 6) (lv' := [(2, .int (nI 0)), (0, .ref mo), (1, .int (nI a))]) hx hb dX9_controlNow_6 rfl hl (by decide) rfl (fun ls hl => ?_)
  refine lv_iconst (pc := 7) (v := nI 0) hx hb dX9_controlNow_7 rfl ?_
  refine lv_istore_n (pc := 8) (lv' := [(3, .int (nI 0)), (2, .int (nI 0)), (0, .ref mo), (1, .int (nI a))]) hx hb dX9_controlNow_8 rfl hl (by decide) rfl (fun ls hl => ?_)
  refine lv_iconst (pc := 9) (v := nI 0) hx hb dX9_controlNow_9 rfl ?_
  refine top_i (show nI 0 = iI 0 from by decide) ?_
  refine lv_istore (pc := 10) (lv' := [(4, .int (iI 0)), (3, .int (nI 0)), (2, .int (nI 0)), (0, .ref mo), (1, .int (nI a))]) hx hb dX9_controlNow_10 hl (by decide) rfl (fun ls hl => ?_)
  refine lv_iconst (pc := 12) (v := zb false) hx hb dX9_controlNow_12 rfl ?_
  refine lv_istore (pc := 13) (lv' := [(5, .int (zb false)), (4, .int (iI 0)), (3, .int (nI 0)), (2, .int (nI 0)), (0, .ref mo), (1, .int (nI a))]) hx hb dX9_controlNow_13 hl (by decide) rfl (fun ls hl => ?_)
  refine lv_iconst (pc := 15) (v := nI 0) hx hb dX9_controlNow_15 rfl ?_
  refine lv_istore (pc := 16) (lv' := [(6, .int (nI 0)), (5, .int (zb false)), (4, .int (iI 0)), (3, .int (nI 0)), (2, .int (nI 0)), (0, .ref mo), (1, .int (nI a))]) hx hb dX9_controlNow_16 hl (by decide) rfl (fun ls hl => ?_)
  have L18 : ∀ (n18 : Nat), ∀ (i : Nat) (x : Nat) (y : Nat) (z : Int) (o : Bool), (i ≤ nst c r w) → (x = fb_ct (fun k => decide (sdis c r w k = 4)) i) → (y = fb_ct (fun k => decide (sdis c r w k = 8)) i) → (z = fb_si (cvF c r w) i) → (o = orb (sopn c r w) i) → nst c r w - i < n18 → ∀ (H : Heap) (locs : List Loc), va_P D vwCl [(mo, .inr (8, [.int th, .int (nI c), .int (nI r), .long w, .int (nI pl), .int (nI n), .ref aML, .ref aMR, .ref aOW, .int (nI len), .ref aBU, .int (nI (nst c r w)), .ref aSA, .ref aSZ, .ref aLP, .ref aOP, .ref aFT, .int od, .ref aOL, .ref aRS, .ref aCD, .long pw, .int pb, .int ah, .long hs])), (aSA, .inl (Y.1, 16, .inl sa2_1)), (aSZ, .inl (Y.1, 16, .inl sz2_1)), (aLP, .inl (Y.2.2.1, 16, .inl lp2_1)), (aOP, .inl (Y.2.2.1, 16, .inl op2_1))] H → va_D AA [(mo, .inr (8, [.int th, .int (nI c), .int (nI r), .long w, .int (nI pl), .int (nI n), .ref aML, .ref aMR, .ref aOW, .int (nI len), .ref aBU, .int (nI (nst c r w)), .ref aSA, .ref aSZ, .ref aLP, .ref aOP, .ref aFT, .int od, .ref aOL, .ref aRS, .ref aCD, .long pw, .int pb, .int ah, .long hs])), (aSA, .inl (Y.1, 16, .inl sa2_1)), (aSZ, .inl (Y.1, 16, .inl sz2_1)), (aLP, .inl (Y.2.2.1, 16, .inl lp2_1)), (aOP, .inl (Y.2.2.1, 16, .inl op2_1))] → va_S AA sG.heap H locs → ∀ (ls : Array Slot), lv_has ls 7 [(0, .ref mo), (1, .int (nI a)), (2, .int (nI x)), (3, .int (nI y)), (4, .int (iI z)), (5, .int (zb o)), (6, .int (nI i))] → W pG l eG ({ frames := 8, cells := 0, slots := 0, locals := 185 } : Room) sG mG aG bG tG cG H locs 0 0 (MQ bG (MuQ D [(mo, .inr (8, [.int th, .int (nI c), .int (nI r), .long w, .int (nI pl), .int (nI n), .ref aML, .ref aMR, .ref aOW, .int (nI len), .ref aBU, .int sn, .ref aSA, .ref aSZ, .ref aLP, .ref aOP, .ref aFT, .int od, .ref aOL, .ref aRS, .ref aCD, .long pw, .int pb, .int ah, .long hs])), (aSA, .inl (Y.1, 16, .inl sa)), (aSZ, .inl (Y.1, 16, .inl sz)), (aLP, .inl (Y.2.2.1, 16, .inl lp)), (aOP, .inl (Y.2.2.1, 16, .inl op))] (fun uS : (Nat → Int32) × (Nat → Int32) × (Nat → Int32) × (Nat → Int32) => some (.int (iI (ctrM c r w a)))) (fun uS : (Nat → Int32) × (Nat → Int32) × (Nat → Int32) × (Nat → Int32) => [(mo, .inr (8, [.int th, .int (nI c), .int (nI r), .long w, .int (nI pl), .int (nI n), .ref aML, .ref aMR, .ref aOW, .int (nI len), .ref aBU, .int (nI (nst c r w)), .ref aSA, .ref aSZ, .ref aLP, .ref aOP, .ref aFT, .int od, .ref aOL, .ref aRS, .ref aCD, .long pw, .int pb, .int ah, .long hs])), (aSA, .inl (Y.1, 16, .inl uS.1)), (aSZ, .inl (Y.1, 16, .inl uS.2.1)), (aLP, .inl (Y.2.2.1, 16, .inl uS.2.2.1)), (aOP, .inl (Y.2.2.1, 16, .inl uS.2.2.2))]) (fun uS : (Nat → Int32) × (Nat → Int32) × (Nat → Int32) × (Nat → Int32) => SaOK c r w uS.1 uS.2.1 uS.2.2.1 uS.2.2.2)) aG sG 0 0 AA) (F0 mG 18 ls []) := by
    intro n18
    induction n18 with
    | zero =>
      intro i x y z o hi hxc hyc hzc hoc hmeas18 H locs hP hD hS ls hl
      exact absurd hmeas18 (Nat.not_lt_zero _)
    | succ n18 ih18 =>
      intro i x y z o hi hxc hyc hzc hoc hmeas18 H locs hP hD hS ls hl
      refine lv_iload (pc := 18) hx hb dX9_controlNow_18 (lv_at hl 6 rfl) ?_
      refine lv_aload_n (pc := 20) hx hb dX9_controlNow_20 rfl (lv_at hl 0 rfl) ?_
      refine va_get (pc := 21) (D := D) (ci := 8) (v := .int (nI (nst c r w))) (C := RX9) (T := TX9) (N := 25) hx hb hts hinX9 hown hK.1 hP 0 rfl rfl 11 (by decide) (hts (.fieldLink RX9 194 "BoxesGameModel" "strings" "I") (List.mem_of_getElem? (i := 1) rfl)) (fun _ h9 => h9) rfl dX9_controlNow_21 ?_
      refine n_icmp_ge (pc := 24) (tgt := 140) hx hb (by omega) (by omega) dX9_controlNow_24 (by decide) (fun c24 => ?_) (fun c24 => ?_)
      · have hxc9 : x = cwd c r w 4 := by rw [hxc, show i = nst c r w by omega]; rfl
        have hyc9 : y = cwd c r w 8 := by rw [hyc, show i = nst c r w by omega]; rfl
        have hzc9 : z = cval c r w := by rw [hzc, show i = nst c r w by omega]; rfl
        have hoc9 : o = aop c r w := by rw [hoc, show i = nst c r w by omega]; rfl
        refine lv_iload_n (pc := 140) hx hb dX9_controlNow_140 rfl (lv_at hl 1 rfl) ?_
        by_cases c141_0 : a = 0
        · refine lv_tableIn (pc := 141) (off := 35) (tgt := 176) hx hb dX9_controlNow_141 (by rw [c141_0]; decide) (by rw [c141_0]; decide) (by rw [c141_0]; first | rfl | decide) (by decide) ?_
          refine lv_iload_n (pc := 176) hx hb dX9_controlNow_176 rfl (lv_at hl 2 rfl) ?_
          subst hAA
          exact mu_iret hx hb hr hlocks hP hS (⟨sa2_1, sz2_1, lp2_1, op2_1⟩) (by rw [c141_0, hxc9, iI_nI]; rfl) (hpost) (rfl) dX9_controlNow_177
        by_cases c141_1 : a = 1
        · refine lv_tableIn (pc := 141) (off := 37) (tgt := 178) hx hb dX9_controlNow_141 (by rw [c141_1]; decide) (by rw [c141_1]; decide) (by rw [c141_1]; first | rfl | decide) (by decide) ?_
          refine lv_iload_n (pc := 178) hx hb dX9_controlNow_178 rfl (lv_at hl 3 rfl) ?_
          subst hAA
          exact mu_iret hx hb hr hlocks hP hS (⟨sa2_1, sz2_1, lp2_1, op2_1⟩) (by rw [c141_1, hyc9, iI_nI]; rfl) (hpost) (rfl) dX9_controlNow_179
        by_cases c141_2 : a = 2
        · refine lv_tableIn (pc := 141) (off := 39) (tgt := 180) hx hb dX9_controlNow_141 (by rw [c141_2]; decide) (by rw [c141_2]; decide) (by rw [c141_2]; first | rfl | decide) (by decide) ?_
          refine lv_aload_n (pc := 180) hx hb dX9_controlNow_180 rfl (lv_at hl 0 rfl) ?_
          refine ro_go (pc := 181) (va_runV (As := []) (rest := []) ⟨hx, hb, hml, hown, hts⟩ (c_X9_thick l D Y mo c r ([.int th, .int (nI c), .int (nI r), .long w, .int (nI pl), .int (nI n), .ref aML, .ref aMR, .ref aOW, .int (nI len), .ref aBU, .int (nI (nst c r w)), .ref aSA, .ref aSZ, .ref aLP, .ref aOP, .ref aFT, .int od, .ref aOL, .ref aRS, .ref aCD, .long pw, .int pb, .int ah, .long hs]) w (by first | assumption | exact ⟨rfl, rfl⟩) (hC) (by first | assumption | rfl)) (cwV 0 hts gX9_controlNow_X9_thick rfl rfl rfl ⟨rfl, hdX9_thick⟩ ⟨Nat.le_of_ble_eq_true rfl, Nat.le_of_ble_eq_true rfl⟩) (ro_pV hK (hP.sub [0] rfl) (ro_recv hK hP (ci := 8) (q0 := 0) rfl rfl)) rfl rfl hl.1 rfl (lv_room (Nat.le_of_ble_eq_true rfl)) dX9_controlNow_181 ⟨Nat.le_of_ble_eq_true rfl, Nat.le_of_ble_eq_true rfl⟩) ?_
          subst hAA
          exact mu_iret hx hb hr hlocks hP hS (⟨sa2_1, sz2_1, lp2_1, op2_1⟩) (by rw [c141_2, iI_nI]; rfl) (hpost) (rfl) dX9_controlNow_184
        by_cases c141_3 : a = 3
        · refine lv_tableIn (pc := 141) (off := 44) (tgt := 185) hx hb dX9_controlNow_141 (by rw [c141_3]; decide) (by rw [c141_3]; decide) (by rw [c141_3]; first | rfl | decide) (by decide) ?_
          refine lv_aload_n (pc := 185) hx hb dX9_controlNow_185 rfl (lv_at hl 0 rfl) ?_
          refine ro_go (pc := 186) (va_runV (As := []) (rest := []) ⟨hx, hb, hml, hown, hts⟩ (c_X9_thick l D Y mo c r ([.int th, .int (nI c), .int (nI r), .long w, .int (nI pl), .int (nI n), .ref aML, .ref aMR, .ref aOW, .int (nI len), .ref aBU, .int (nI (nst c r w)), .ref aSA, .ref aSZ, .ref aLP, .ref aOP, .ref aFT, .int od, .ref aOL, .ref aRS, .ref aCD, .long pw, .int pb, .int ah, .long hs]) w (by first | assumption | exact ⟨rfl, rfl⟩) (hC) (by first | assumption | rfl)) (cwV 0 hts gX9_controlNow_X9_thick rfl rfl rfl ⟨rfl, hdX9_thick⟩ ⟨Nat.le_of_ble_eq_true rfl, Nat.le_of_ble_eq_true rfl⟩) (ro_pV hK (hP.sub [0] rfl) (ro_recv hK hP (ci := 8) (q0 := 0) rfl rfl)) rfl rfl hl.1 rfl (lv_room (Nat.le_of_ble_eq_true rfl)) dX9_controlNow_186 ⟨Nat.le_of_ble_eq_true rfl, Nat.le_of_ble_eq_true rfl⟩) ?_
          refine n_if_ne (pc := 189) (tgt := 201) hx hb (by omega) dX9_controlNow_189 (by decide) (fun c189 => ?_) (fun c189 => ?_)
          · refine lv_iconst (pc := 201) (v := nI 0) hx hb dX9_controlNow_201 rfl ?_
            subst hAA
            exact mu_iret hx hb hr hlocks hP hS (⟨sa2_1, sz2_1, lp2_1, op2_1⟩) (by rw [c141_3]; show some (Value.int (iI (zn (decide (thk c r w = 0) && !aop c r w) : Int))) = _; rw [decide_eq_false (by omega)]; rfl) (hpost) (rfl) dX9_controlNow_202
          refine lv_iload (pc := 192) hx hb dX9_controlNow_192 (lv_at hl 5 rfl) ?_
          refine z_if_ne (pc := 194) (tgt := 201) hx hb dX9_controlNow_194 (by decide) (fun c194 => ?_) (fun c194 => ?_)
          · refine lv_iconst (pc := 201) (v := nI 0) hx hb dX9_controlNow_201 rfl ?_
            subst hAA
            exact mu_iret hx hb hr hlocks hP hS (⟨sa2_1, sz2_1, lp2_1, op2_1⟩) (by rw [c141_3]; show some (Value.int (iI (zn (decide (thk c r w = 0) && !aop c r w) : Int))) = _; rw [decide_eq_true c189, ← hoc9, c194]; rfl) (hpost) (rfl) dX9_controlNow_202
          refine lv_iconst (pc := 197) (v := nI 1) hx hb dX9_controlNow_197 rfl ?_
          refine lv_goto (pc := 198) (tgt := 202) hx hb dX9_controlNow_198 (by decide) ?_
          subst hAA
          exact mu_iret hx hb hr hlocks hP hS (⟨sa2_1, sz2_1, lp2_1, op2_1⟩) (by rw [c141_3]; show some (Value.int (iI (zn (decide (thk c r w = 0) && !aop c r w) : Int))) = _; rw [decide_eq_true c189, ← hoc9, c194]; rfl) (hpost) (rfl) dX9_controlNow_202
        by_cases c141_4 : a = 4
        · refine lv_tableIn (pc := 141) (off := 62) (tgt := 203) hx hb dX9_controlNow_141 (by rw [c141_4]; decide) (by rw [c141_4]; decide) (by rw [c141_4]; first | rfl | decide) (by decide) ?_
          refine lv_iload (pc := 203) hx hb dX9_controlNow_203 (lv_at hl 4 rfl) ?_
          subst hAA
          exact mu_iret hx hb hr hlocks hP hS (⟨sa2_1, sz2_1, lp2_1, op2_1⟩) (by rw [c141_4, hzc9]; rfl) (hpost) (rfl) dX9_controlNow_205
        refine lv_tableOut (pc := 141) (tgt := 206) hx hb dX9_controlNow_141 (by rw [nI_toInt (by omega)]; omega) (by decide) ?_
        refine lv_aload_n (pc := 206) hx hb dX9_controlNow_206 rfl (lv_at hl 0 rfl) ?_
        refine va_get (pc := 207) (D := D) (ci := 8) (v := .int (nI c)) (C := RX9) (T := TX9) (N := 25) hx hb hts hinX9 hown hK.1 hP 0 rfl rfl 1 (by decide) (hts (.fieldLink RX9 7 "BoxesGameModel" "columns" "I") (List.mem_of_getElem? (i := 5) rfl)) (fun _ h9 => h9) rfl dX9_controlNow_207 ?_
        refine lv_iconst (pc := 210) (v := nI 1) hx hb dX9_controlNow_210 rfl ?_
        refine n_iadd (pc := 211) hx hb dX9_controlNow_211 ?_
        refine lv_aload_n (pc := 212) hx hb dX9_controlNow_212 rfl (lv_at hl 0 rfl) ?_
        refine va_get (pc := 213) (D := D) (ci := 8) (v := .int (nI r)) (C := RX9) (T := TX9) (N := 25) hx hb hts hinX9 hown hK.1 hP 0 rfl rfl 2 (by decide) (hts (.fieldLink RX9 13 "BoxesGameModel" "rows" "I") (List.mem_of_getElem? (i := 6) rfl)) (fun _ h9 => h9) rfl dX9_controlNow_213 ?_
        refine lv_iconst (pc := 216) (v := nI 1) hx hb dX9_controlNow_216 rfl ?_
        refine n_iadd (pc := 217) hx hb dX9_controlNow_217 ?_
        refine n_imul (pc := 218) hx hb dX9_controlNow_218 ?_
        refine lv_iload_n (pc := 219) hx hb dX9_controlNow_219 rfl (lv_at hl 2 rfl) ?_
        refine n_iadd (pc := 220) hx hb dX9_controlNow_220 ?_
        refine lv_iconst (pc := 221) (v := nI 2) hx hb dX9_controlNow_221 rfl ?_
        refine n_irem (pc := 222) hx hb (by omega) (by omega) (by omega) dX9_controlNow_222 ?_
        subst hAA
        exact mu_iret hx hb hr hlocks hP hS (⟨sa2_1, sz2_1, lp2_1, op2_1⟩) (by rw [show a = 5 by omega, hxc9, iI_nI]; rfl) (hpost) (rfl) dX9_controlNow_223
      obtain ⟨f1, f2, f3⟩ := hpost.2 i c24
      refine lv_iload_n (pc := 27) hx hb dX9_controlNow_27 rfl (lv_at hl 2 rfl) ?_
      refine lv_aload_n (pc := 28) hx hb dX9_controlNow_28 rfl (lv_at hl 0 rfl) ?_
      refine lv_iload (pc := 29) hx hb dX9_controlNow_29 (lv_at hl 6 rfl) ?_
      refine ro_go (pc := 31) (va_runV (As := [.int (nI i)]) (rest := [.int (nI x)]) ⟨hx, hb, hml, hown, hts⟩ (c_X9_isLong l D Y mo c r ([.int th, .int (nI c), .int (nI r), .long w, .int (nI pl), .int (nI n), .ref aML, .ref aMR, .ref aOW, .int (nI len), .ref aBU, .int (nI (nst c r w)), .ref aSA, .ref aSZ, .ref aLP, .ref aOP, .ref aFT, .int od, .ref aOL, .ref aRS, .ref aCD, .long pw, .int pb, .int ah, .long hs]) aSZ aLP w i sz2_1 lp2_1 (by first | assumption | exact ⟨rfl, rfl⟩) (hC) (by first | assumption | rfl) (by first | assumption | rfl) (by omega) (f1) (f2)) (cwV 1 hts gX9_controlNow_X9_isLong rfl rfl rfl ⟨rfl, hdX9_isLong⟩ ⟨Nat.le_of_ble_eq_true rfl, Nat.le_of_ble_eq_true rfl⟩) (ro_pV hK (hP.sub [0, 2, 3] rfl) (ro_recv hK hP (ci := 8) (q0 := 0) rfl rfl)) rfl rfl hl.1 rfl (lv_room (Nat.le_of_ble_eq_true rfl)) dX9_controlNow_31 ⟨Nat.le_of_ble_eq_true rfl, Nat.le_of_ble_eq_true rfl⟩) ?_
      refine z_if_eq (pc := 34) (tgt := 41) hx hb dX9_controlNow_34 (by decide) (fun c34 => ?_) (fun c34 => ?_)
      · refine lv_iconst (pc := 41) (v := nI 0) hx hb dX9_controlNow_41 rfl ?_
        refine n_iadd (pc := 42) hx hb dX9_controlNow_42 ?_
        refine lv_istore_n (pc := 43) (lv' := [(2, .int (nI (x + 0))), (0, .ref mo), (1, .int (nI a)), (3, .int (nI y)), (4, .int (iI z)), (5, .int (zb o)), (6, .int (nI i))]) hx hb dX9_controlNow_43 rfl hl (by decide) rfl (fun ls hl => ?_)
        refine lv_iload_n (pc := 44) hx hb dX9_controlNow_44 rfl (lv_at hl 3 rfl) ?_
        refine lv_aload_n (pc := 45) hx hb dX9_controlNow_45 rfl (lv_at hl 1 rfl) ?_
        refine va_get (pc := 46) (D := D) (ci := 8) (v := .ref aLP) (C := RX9) (T := TX9) (N := 25) hx hb hts hinX9 hown hK.1 hP 0 rfl rfl 14 (by decide) (hts (.fieldLink RX9 35 "BoxesGameModel" "loops" "[Z") (List.mem_of_getElem? (i := 2) rfl)) (fun _ h9 => h9) rfl dX9_controlNow_46 ?_
        refine lv_iload (pc := 49) hx hb dX9_controlNow_49 (lv_at hl 6 rfl) ?_
        refine va_zald (pc := 51) hx hb hK.1 hP 3 2 rfl rfl (vp_in_nI (by omega) (by decide)) dX9_controlNow_51 ?_
        refine top_i (show lp2_1 (nI i).toNatClampNeg = lp2_1 i from by rw [nI_clamp (by omega)]) ?_
        refine top_i (show lp2_1 i = zb (slop c r w i) from f2) ?_
        refine z_if_eq (pc := 52) (tgt := 59) hx hb dX9_controlNow_52 (by decide) (fun c52 => ?_) (fun c52 => ?_)
        · refine lv_iconst (pc := 59) (v := nI 0) hx hb dX9_controlNow_59 rfl ?_
          refine n_iadd (pc := 60) hx hb dX9_controlNow_60 ?_
          refine lv_istore_n (pc := 61) (lv' := [(3, .int (nI (y + 0))), (2, .int (nI (x + 0))), (0, .ref mo), (1, .int (nI a)), (4, .int (iI z)), (5, .int (zb o)), (6, .int (nI i))]) hx hb dX9_controlNow_61 rfl hl (by decide) rfl (fun ls hl => ?_)
          refine lv_iload (pc := 62) hx hb dX9_controlNow_62 (lv_at hl 4 rfl) ?_
          refine lv_aload_n (pc := 64) hx hb dX9_controlNow_64 rfl (lv_at hl 2 rfl) ?_
          refine lv_iload (pc := 65) hx hb dX9_controlNow_65 (lv_at hl 6 rfl) ?_
          refine ro_go (pc := 67) (va_runV (As := [.int (nI i)]) (rest := [.int (iI z)]) ⟨hx, hb, hml, hown, hts⟩ (c_X9_isLong l D Y mo c r ([.int th, .int (nI c), .int (nI r), .long w, .int (nI pl), .int (nI n), .ref aML, .ref aMR, .ref aOW, .int (nI len), .ref aBU, .int (nI (nst c r w)), .ref aSA, .ref aSZ, .ref aLP, .ref aOP, .ref aFT, .int od, .ref aOL, .ref aRS, .ref aCD, .long pw, .int pb, .int ah, .long hs]) aSZ aLP w i sz2_1 lp2_1 (by first | assumption | exact ⟨rfl, rfl⟩) (hC) (by first | assumption | rfl) (by first | assumption | rfl) (by omega) (f1) (f2)) (cwV 1 hts gX9_controlNow_X9_isLong rfl rfl rfl ⟨rfl, hdX9_isLong⟩ ⟨Nat.le_of_ble_eq_true rfl, Nat.le_of_ble_eq_true rfl⟩) (ro_pV hK (hP.sub [0, 2, 3] rfl) (ro_recv hK hP (ci := 8) (q0 := 0) rfl rfl)) rfl rfl hl.1 rfl (lv_room (Nat.le_of_ble_eq_true rfl)) dX9_controlNow_67 ⟨Nat.le_of_ble_eq_true rfl, Nat.le_of_ble_eq_true rfl⟩) ?_
          refine z_if_eq (pc := 70) (tgt := 85) hx hb dX9_controlNow_70 (by decide) (fun c70 => ?_) (fun c70 => ?_)
          · refine lv_aload_n (pc := 85) hx hb dX9_controlNow_85 rfl (lv_at hl 2 rfl) ?_
            refine va_get (pc := 86) (D := D) (ci := 8) (v := .ref aLP) (C := RX9) (T := TX9) (N := 25) hx hb hts hinX9 hown hK.1 hP 0 rfl rfl 14 (by decide) (hts (.fieldLink RX9 35 "BoxesGameModel" "loops" "[Z") (List.mem_of_getElem? (i := 2) rfl)) (fun _ h9 => h9) rfl dX9_controlNow_86 ?_
            refine lv_iload (pc := 89) hx hb dX9_controlNow_89 (lv_at hl 6 rfl) ?_
            refine va_zald (pc := 91) hx hb hK.1 hP 3 2 rfl rfl (vp_in_nI (by omega) (by decide)) dX9_controlNow_91 ?_
            refine top_i (show lp2_1 (nI i).toNatClampNeg = lp2_1 i from by rw [nI_clamp (by omega)]) ?_
            refine top_i (show lp2_1 i = zb (slop c r w i) from f2) ?_
            refine z_if_eq (pc := 92) (tgt := 108) hx hb dX9_controlNow_92 (by decide) (fun c92 => ?_) (fun c92 => ?_)
            · refine lv_iconst (pc := 108) (v := nI 0) hx hb dX9_controlNow_108 rfl ?_
              refine top_i (show nI 0 = iI 0 from by decide) ?_
              refine lv_iadd (pc := 109) hx hb dX9_controlNow_109 ?_
              refine top_i (show (iI z) + (iI 0) = iI (z + 0) from by rw [iI_add]) ?_
              refine lv_istore (pc := 110) (lv' := [(4, .int (iI (z + 0))), (3, .int (nI (y + 0))), (2, .int (nI (x + 0))), (0, .ref mo), (1, .int (nI a)), (5, .int (zb o)), (6, .int (nI i))]) hx hb dX9_controlNow_110 hl (by decide) rfl (fun ls hl => ?_)
              refine lv_iload (pc := 112) hx hb dX9_controlNow_112 (lv_at hl 5 rfl) ?_
              refine z_if_ne (pc := 114) (tgt := 127) hx hb dX9_controlNow_114 (by decide) (fun c114 => ?_) (fun c114 => ?_)
              · refine lv_iconst (pc := 127) (v := zb true) hx hb dX9_controlNow_127 rfl ?_
                refine lv_goto (pc := 128) (tgt := 132) hx hb dX9_controlNow_128 (by decide) ?_
                refine lv_istore (pc := 132) (lv' := [(5, .int (zb true)), (4, .int (iI (z + 0))), (3, .int (nI (y + 0))), (2, .int (nI (x + 0))), (0, .ref mo), (1, .int (nI a)), (6, .int (nI i))]) hx hb dX9_controlNow_132 hl (by decide) rfl (fun ls hl => ?_)
                refine lv_iinc (pc := 134) (v := nI (i + 1)) (lv' := [(6, .int (nI (i + 1))), (5, .int (zb true)), (4, .int (iI (z + 0))), (3, .int (nI (y + 0))), (2, .int (nI (x + 0))), (0, .ref mo), (1, .int (nI a))]) hx hb dX9_controlNow_134 hl (k := 6) rfl (n_inc i 1) (by decide) rfl (fun ls hl => ?_)
                refine lv_goto (pc := 137) (tgt := 18) hx hb dX9_controlNow_137 (by decide) ?_
                exact ih18 (i + 1) (x + 0) (y + 0) (z + 0) true (by first | assumption | omega) (by rw [fb_ct_succ, c34, ← hxc]; rfl) (by rw [fb_ct_succ, sdis8, c52, ← hyc]; rfl) (by rw [fb_si_succ, ← hzc]; unfold cvF; rw [if_pos (sd_0 c52 c34)]) (by rw [orb, ← hoc, c114]; rfl) (by omega) _ _ hP hD hS _ (lv_sub hl [5, 6, 4, 3, 2, 1, 0] rfl)
              refine lv_aload_n (pc := 117) hx hb dX9_controlNow_117 rfl (lv_at hl 3 rfl) ?_
              refine va_get (pc := 118) (D := D) (ci := 8) (v := .ref aOP) (C := RX9) (T := TX9) (N := 25) hx hb hts hinX9 hown hK.1 hP 0 rfl rfl 15 (by decide) (hts (.fieldLink RX9 39 "BoxesGameModel" "opens" "[Z") (List.mem_of_getElem? (i := 4) rfl)) (fun _ h9 => h9) rfl dX9_controlNow_118 ?_
              refine lv_iload (pc := 121) hx hb dX9_controlNow_121 (lv_at hl 6 rfl) ?_
              refine va_zald (pc := 123) hx hb hK.1 hP 4 2 rfl rfl (vp_in_nI (by omega) (by decide)) dX9_controlNow_123 ?_
              refine top_i (show op2_1 (nI i).toNatClampNeg = op2_1 i from by rw [nI_clamp (by omega)]) ?_
              refine top_i (show op2_1 i = zb (sopn c r w i) from f3) ?_
              refine z_if_eq (pc := 124) (tgt := 131) hx hb dX9_controlNow_124 (by decide) (fun c124 => ?_) (fun c124 => ?_)
              · refine lv_iconst (pc := 131) (v := zb false) hx hb dX9_controlNow_131 rfl ?_
                refine lv_istore (pc := 132) (lv' := [(5, .int (zb false)), (4, .int (iI (z + 0))), (3, .int (nI (y + 0))), (2, .int (nI (x + 0))), (0, .ref mo), (1, .int (nI a)), (6, .int (nI i))]) hx hb dX9_controlNow_132 hl (by decide) rfl (fun ls hl => ?_)
                refine lv_iinc (pc := 134) (v := nI (i + 1)) (lv' := [(6, .int (nI (i + 1))), (5, .int (zb false)), (4, .int (iI (z + 0))), (3, .int (nI (y + 0))), (2, .int (nI (x + 0))), (0, .ref mo), (1, .int (nI a))]) hx hb dX9_controlNow_134 hl (k := 6) rfl (n_inc i 1) (by decide) rfl (fun ls hl => ?_)
                refine lv_goto (pc := 137) (tgt := 18) hx hb dX9_controlNow_137 (by decide) ?_
                exact ih18 (i + 1) (x + 0) (y + 0) (z + 0) false (by first | assumption | omega) (by rw [fb_ct_succ, c34, ← hxc]; rfl) (by rw [fb_ct_succ, sdis8, c52, ← hyc]; rfl) (by rw [fb_si_succ, ← hzc]; unfold cvF; rw [if_pos (sd_0 c52 c34)]) (by rw [orb, ← hoc, c114, c124]; rfl) (by omega) _ _ hP hD hS _ (lv_sub hl [5, 6, 4, 3, 2, 1, 0] rfl)
              refine lv_iconst (pc := 127) (v := zb true) hx hb dX9_controlNow_127 rfl ?_
              refine lv_goto (pc := 128) (tgt := 132) hx hb dX9_controlNow_128 (by decide) ?_
              refine lv_istore (pc := 132) (lv' := [(5, .int (zb true)), (4, .int (iI (z + 0))), (3, .int (nI (y + 0))), (2, .int (nI (x + 0))), (0, .ref mo), (1, .int (nI a)), (6, .int (nI i))]) hx hb dX9_controlNow_132 hl (by decide) rfl (fun ls hl => ?_)
              refine lv_iinc (pc := 134) (v := nI (i + 1)) (lv' := [(6, .int (nI (i + 1))), (5, .int (zb true)), (4, .int (iI (z + 0))), (3, .int (nI (y + 0))), (2, .int (nI (x + 0))), (0, .ref mo), (1, .int (nI a))]) hx hb dX9_controlNow_134 hl (k := 6) rfl (n_inc i 1) (by decide) rfl (fun ls hl => ?_)
              refine lv_goto (pc := 137) (tgt := 18) hx hb dX9_controlNow_137 (by decide) ?_
              exact ih18 (i + 1) (x + 0) (y + 0) (z + 0) true (by first | assumption | omega) (by rw [fb_ct_succ, c34, ← hxc]; rfl) (by rw [fb_ct_succ, sdis8, c52, ← hyc]; rfl) (by rw [fb_si_succ, ← hzc]; unfold cvF; rw [if_pos (sd_0 c52 c34)]) (by rw [orb, ← hoc, c114, c124]; rfl) (by omega) _ _ hP hD hS _ (lv_sub hl [5, 6, 4, 3, 2, 1, 0] rfl)
            · exact absurd (c52.symm.trans c92) (by decide)
          · exact absurd (c34.symm.trans c70) (by decide)
        refine lv_iconst (pc := 55) (v := nI 1) hx hb dX9_controlNow_55 rfl ?_
        refine lv_goto (pc := 56) (tgt := 60) hx hb dX9_controlNow_56 (by decide) ?_
        refine n_iadd (pc := 60) hx hb dX9_controlNow_60 ?_
        refine lv_istore_n (pc := 61) (lv' := [(3, .int (nI (y + 1))), (2, .int (nI (x + 0))), (0, .ref mo), (1, .int (nI a)), (4, .int (iI z)), (5, .int (zb o)), (6, .int (nI i))]) hx hb dX9_controlNow_61 rfl hl (by decide) rfl (fun ls hl => ?_)
        refine lv_iload (pc := 62) hx hb dX9_controlNow_62 (lv_at hl 4 rfl) ?_
        refine lv_aload_n (pc := 64) hx hb dX9_controlNow_64 rfl (lv_at hl 2 rfl) ?_
        refine lv_iload (pc := 65) hx hb dX9_controlNow_65 (lv_at hl 6 rfl) ?_
        refine ro_go (pc := 67) (va_runV (As := [.int (nI i)]) (rest := [.int (iI z)]) ⟨hx, hb, hml, hown, hts⟩ (c_X9_isLong l D Y mo c r ([.int th, .int (nI c), .int (nI r), .long w, .int (nI pl), .int (nI n), .ref aML, .ref aMR, .ref aOW, .int (nI len), .ref aBU, .int (nI (nst c r w)), .ref aSA, .ref aSZ, .ref aLP, .ref aOP, .ref aFT, .int od, .ref aOL, .ref aRS, .ref aCD, .long pw, .int pb, .int ah, .long hs]) aSZ aLP w i sz2_1 lp2_1 (by first | assumption | exact ⟨rfl, rfl⟩) (hC) (by first | assumption | rfl) (by first | assumption | rfl) (by omega) (f1) (f2)) (cwV 1 hts gX9_controlNow_X9_isLong rfl rfl rfl ⟨rfl, hdX9_isLong⟩ ⟨Nat.le_of_ble_eq_true rfl, Nat.le_of_ble_eq_true rfl⟩) (ro_pV hK (hP.sub [0, 2, 3] rfl) (ro_recv hK hP (ci := 8) (q0 := 0) rfl rfl)) rfl rfl hl.1 rfl (lv_room (Nat.le_of_ble_eq_true rfl)) dX9_controlNow_67 ⟨Nat.le_of_ble_eq_true rfl, Nat.le_of_ble_eq_true rfl⟩) ?_
        refine z_if_eq (pc := 70) (tgt := 85) hx hb dX9_controlNow_70 (by decide) (fun c70 => ?_) (fun c70 => ?_)
        · refine lv_aload_n (pc := 85) hx hb dX9_controlNow_85 rfl (lv_at hl 2 rfl) ?_
          refine va_get (pc := 86) (D := D) (ci := 8) (v := .ref aLP) (C := RX9) (T := TX9) (N := 25) hx hb hts hinX9 hown hK.1 hP 0 rfl rfl 14 (by decide) (hts (.fieldLink RX9 35 "BoxesGameModel" "loops" "[Z") (List.mem_of_getElem? (i := 2) rfl)) (fun _ h9 => h9) rfl dX9_controlNow_86 ?_
          refine lv_iload (pc := 89) hx hb dX9_controlNow_89 (lv_at hl 6 rfl) ?_
          refine va_zald (pc := 91) hx hb hK.1 hP 3 2 rfl rfl (vp_in_nI (by omega) (by decide)) dX9_controlNow_91 ?_
          refine top_i (show lp2_1 (nI i).toNatClampNeg = lp2_1 i from by rw [nI_clamp (by omega)]) ?_
          refine top_i (show lp2_1 i = zb (slop c r w i) from f2) ?_
          refine z_if_eq (pc := 92) (tgt := 108) hx hb dX9_controlNow_92 (by decide) (fun c92 => ?_) (fun c92 => ?_)
          · exact absurd (c52.symm.trans c92) (by decide)
          refine lv_aload_n (pc := 95) hx hb dX9_controlNow_95 rfl (lv_at hl 2 rfl) ?_
          refine va_get (pc := 96) (D := D) (ci := 8) (v := .ref aSZ) (C := RX9) (T := TX9) (N := 25) hx hb hts hinX9 hown hK.1 hP 0 rfl rfl 13 (by decide) (hts (.fieldLink RX9 32 "BoxesGameModel" "sizes" "[I") (List.mem_of_getElem? (i := 3) rfl)) (fun _ h9 => h9) rfl dX9_controlNow_96 ?_
          refine lv_iload (pc := 99) hx hb dX9_controlNow_99 (lv_at hl 6 rfl) ?_
          refine va_iald (pc := 101) hx hb hK.1 hP 2 0 rfl rfl (vp_in_nI (by omega) (by decide)) dX9_controlNow_101 ?_
          refine top_i (show sz2_1 (nI i).toNatClampNeg = sz2_1 i from by rw [nI_clamp (by omega)]) ?_
          refine top_i (show sz2_1 i = nI (ssz c r w i) from f1) ?_
          refine lv_bipush (pc := 102) (v := nI 8) hx hb dX9_controlNow_102 rfl ?_
          refine lv_isub (pc := 104) hx hb dX9_controlNow_104 ?_
          refine top_i (show (nI (ssz c r w i)) - (nI 8) = iI ((ssz c r w i : Int) - 8) from by rw [iI_nI, iI_nI, iI_sub]; rfl) ?_
          refine lv_goto (pc := 105) (tgt := 109) hx hb dX9_controlNow_105 (by decide) ?_
          refine lv_iadd (pc := 109) hx hb dX9_controlNow_109 ?_
          refine top_i (show (iI z) + (iI ((ssz c r w i : Int) - 8)) = iI (z + ((ssz c r w i : Int) - 8)) from by rw [iI_add]) ?_
          refine lv_istore (pc := 110) (lv' := [(4, .int (iI (z + ((ssz c r w i : Int) - 8)))), (3, .int (nI (y + 1))), (2, .int (nI (x + 0))), (0, .ref mo), (1, .int (nI a)), (5, .int (zb o)), (6, .int (nI i))]) hx hb dX9_controlNow_110 hl (by decide) rfl (fun ls hl => ?_)
          refine lv_iload (pc := 112) hx hb dX9_controlNow_112 (lv_at hl 5 rfl) ?_
          refine z_if_ne (pc := 114) (tgt := 127) hx hb dX9_controlNow_114 (by decide) (fun c114 => ?_) (fun c114 => ?_)
          · refine lv_iconst (pc := 127) (v := zb true) hx hb dX9_controlNow_127 rfl ?_
            refine lv_goto (pc := 128) (tgt := 132) hx hb dX9_controlNow_128 (by decide) ?_
            refine lv_istore (pc := 132) (lv' := [(5, .int (zb true)), (4, .int (iI (z + ((ssz c r w i : Int) - 8)))), (3, .int (nI (y + 1))), (2, .int (nI (x + 0))), (0, .ref mo), (1, .int (nI a)), (6, .int (nI i))]) hx hb dX9_controlNow_132 hl (by decide) rfl (fun ls hl => ?_)
            refine lv_iinc (pc := 134) (v := nI (i + 1)) (lv' := [(6, .int (nI (i + 1))), (5, .int (zb true)), (4, .int (iI (z + ((ssz c r w i : Int) - 8)))), (3, .int (nI (y + 1))), (2, .int (nI (x + 0))), (0, .ref mo), (1, .int (nI a))]) hx hb dX9_controlNow_134 hl (k := 6) rfl (n_inc i 1) (by decide) rfl (fun ls hl => ?_)
            refine lv_goto (pc := 137) (tgt := 18) hx hb dX9_controlNow_137 (by decide) ?_
            exact ih18 (i + 1) (x + 0) (y + 1) (z + ((ssz c r w i : Int) - 8)) true (by first | assumption | omega) (by rw [fb_ct_succ, c34, ← hxc]; rfl) (by rw [fb_ct_succ, sdis8, c52, ← hyc]; rfl) (by rw [fb_si_succ, ← hzc]; unfold cvF; rw [sdis_y c52, if_neg (by decide)]; rfl) (by rw [orb, ← hoc, c114]; rfl) (by omega) _ _ hP hD hS _ (lv_sub hl [5, 6, 4, 3, 2, 1, 0] rfl)
          refine lv_aload_n (pc := 117) hx hb dX9_controlNow_117 rfl (lv_at hl 3 rfl) ?_
          refine va_get (pc := 118) (D := D) (ci := 8) (v := .ref aOP) (C := RX9) (T := TX9) (N := 25) hx hb hts hinX9 hown hK.1 hP 0 rfl rfl 15 (by decide) (hts (.fieldLink RX9 39 "BoxesGameModel" "opens" "[Z") (List.mem_of_getElem? (i := 4) rfl)) (fun _ h9 => h9) rfl dX9_controlNow_118 ?_
          refine lv_iload (pc := 121) hx hb dX9_controlNow_121 (lv_at hl 6 rfl) ?_
          refine va_zald (pc := 123) hx hb hK.1 hP 4 2 rfl rfl (vp_in_nI (by omega) (by decide)) dX9_controlNow_123 ?_
          refine top_i (show op2_1 (nI i).toNatClampNeg = op2_1 i from by rw [nI_clamp (by omega)]) ?_
          refine top_i (show op2_1 i = zb (sopn c r w i) from f3) ?_
          refine z_if_eq (pc := 124) (tgt := 131) hx hb dX9_controlNow_124 (by decide) (fun c124 => ?_) (fun c124 => ?_)
          · refine lv_iconst (pc := 131) (v := zb false) hx hb dX9_controlNow_131 rfl ?_
            refine lv_istore (pc := 132) (lv' := [(5, .int (zb false)), (4, .int (iI (z + ((ssz c r w i : Int) - 8)))), (3, .int (nI (y + 1))), (2, .int (nI (x + 0))), (0, .ref mo), (1, .int (nI a)), (6, .int (nI i))]) hx hb dX9_controlNow_132 hl (by decide) rfl (fun ls hl => ?_)
            refine lv_iinc (pc := 134) (v := nI (i + 1)) (lv' := [(6, .int (nI (i + 1))), (5, .int (zb false)), (4, .int (iI (z + ((ssz c r w i : Int) - 8)))), (3, .int (nI (y + 1))), (2, .int (nI (x + 0))), (0, .ref mo), (1, .int (nI a))]) hx hb dX9_controlNow_134 hl (k := 6) rfl (n_inc i 1) (by decide) rfl (fun ls hl => ?_)
            refine lv_goto (pc := 137) (tgt := 18) hx hb dX9_controlNow_137 (by decide) ?_
            exact ih18 (i + 1) (x + 0) (y + 1) (z + ((ssz c r w i : Int) - 8)) false (by first | assumption | omega) (by rw [fb_ct_succ, c34, ← hxc]; rfl) (by rw [fb_ct_succ, sdis8, c52, ← hyc]; rfl) (by rw [fb_si_succ, ← hzc]; unfold cvF; rw [sdis_y c52, if_neg (by decide)]; rfl) (by rw [orb, ← hoc, c114, c124]; rfl) (by omega) _ _ hP hD hS _ (lv_sub hl [5, 6, 4, 3, 2, 1, 0] rfl)
          refine lv_iconst (pc := 127) (v := zb true) hx hb dX9_controlNow_127 rfl ?_
          refine lv_goto (pc := 128) (tgt := 132) hx hb dX9_controlNow_128 (by decide) ?_
          refine lv_istore (pc := 132) (lv' := [(5, .int (zb true)), (4, .int (iI (z + ((ssz c r w i : Int) - 8)))), (3, .int (nI (y + 1))), (2, .int (nI (x + 0))), (0, .ref mo), (1, .int (nI a)), (6, .int (nI i))]) hx hb dX9_controlNow_132 hl (by decide) rfl (fun ls hl => ?_)
          refine lv_iinc (pc := 134) (v := nI (i + 1)) (lv' := [(6, .int (nI (i + 1))), (5, .int (zb true)), (4, .int (iI (z + ((ssz c r w i : Int) - 8)))), (3, .int (nI (y + 1))), (2, .int (nI (x + 0))), (0, .ref mo), (1, .int (nI a))]) hx hb dX9_controlNow_134 hl (k := 6) rfl (n_inc i 1) (by decide) rfl (fun ls hl => ?_)
          refine lv_goto (pc := 137) (tgt := 18) hx hb dX9_controlNow_137 (by decide) ?_
          exact ih18 (i + 1) (x + 0) (y + 1) (z + ((ssz c r w i : Int) - 8)) true (by first | assumption | omega) (by rw [fb_ct_succ, c34, ← hxc]; rfl) (by rw [fb_ct_succ, sdis8, c52, ← hyc]; rfl) (by rw [fb_si_succ, ← hzc]; unfold cvF; rw [sdis_y c52, if_neg (by decide)]; rfl) (by rw [orb, ← hoc, c114, c124]; rfl) (by omega) _ _ hP hD hS _ (lv_sub hl [5, 6, 4, 3, 2, 1, 0] rfl)
        · exact absurd (c34.symm.trans c70) (by decide)
      refine lv_iconst (pc := 37) (v := nI 1) hx hb dX9_controlNow_37 rfl ?_
      refine lv_goto (pc := 38) (tgt := 42) hx hb dX9_controlNow_38 (by decide) ?_
      refine n_iadd (pc := 42) hx hb dX9_controlNow_42 ?_
      refine lv_istore_n (pc := 43) (lv' := [(2, .int (nI (x + 1))), (0, .ref mo), (1, .int (nI a)), (3, .int (nI y)), (4, .int (iI z)), (5, .int (zb o)), (6, .int (nI i))]) hx hb dX9_controlNow_43 rfl hl (by decide) rfl (fun ls hl => ?_)
      refine lv_iload_n (pc := 44) hx hb dX9_controlNow_44 rfl (lv_at hl 3 rfl) ?_
      refine lv_aload_n (pc := 45) hx hb dX9_controlNow_45 rfl (lv_at hl 1 rfl) ?_
      refine va_get (pc := 46) (D := D) (ci := 8) (v := .ref aLP) (C := RX9) (T := TX9) (N := 25) hx hb hts hinX9 hown hK.1 hP 0 rfl rfl 14 (by decide) (hts (.fieldLink RX9 35 "BoxesGameModel" "loops" "[Z") (List.mem_of_getElem? (i := 2) rfl)) (fun _ h9 => h9) rfl dX9_controlNow_46 ?_
      refine lv_iload (pc := 49) hx hb dX9_controlNow_49 (lv_at hl 6 rfl) ?_
      refine va_zald (pc := 51) hx hb hK.1 hP 3 2 rfl rfl (vp_in_nI (by omega) (by decide)) dX9_controlNow_51 ?_
      refine top_i (show lp2_1 (nI i).toNatClampNeg = lp2_1 i from by rw [nI_clamp (by omega)]) ?_
      refine top_i (show lp2_1 i = zb (slop c r w i) from f2) ?_
      refine z_if_eq (pc := 52) (tgt := 59) hx hb dX9_controlNow_52 (by decide) (fun c52 => ?_) (fun c52 => ?_)
      · refine lv_iconst (pc := 59) (v := nI 0) hx hb dX9_controlNow_59 rfl ?_
        refine n_iadd (pc := 60) hx hb dX9_controlNow_60 ?_
        refine lv_istore_n (pc := 61) (lv' := [(3, .int (nI (y + 0))), (2, .int (nI (x + 1))), (0, .ref mo), (1, .int (nI a)), (4, .int (iI z)), (5, .int (zb o)), (6, .int (nI i))]) hx hb dX9_controlNow_61 rfl hl (by decide) rfl (fun ls hl => ?_)
        refine lv_iload (pc := 62) hx hb dX9_controlNow_62 (lv_at hl 4 rfl) ?_
        refine lv_aload_n (pc := 64) hx hb dX9_controlNow_64 rfl (lv_at hl 2 rfl) ?_
        refine lv_iload (pc := 65) hx hb dX9_controlNow_65 (lv_at hl 6 rfl) ?_
        refine ro_go (pc := 67) (va_runV (As := [.int (nI i)]) (rest := [.int (iI z)]) ⟨hx, hb, hml, hown, hts⟩ (c_X9_isLong l D Y mo c r ([.int th, .int (nI c), .int (nI r), .long w, .int (nI pl), .int (nI n), .ref aML, .ref aMR, .ref aOW, .int (nI len), .ref aBU, .int (nI (nst c r w)), .ref aSA, .ref aSZ, .ref aLP, .ref aOP, .ref aFT, .int od, .ref aOL, .ref aRS, .ref aCD, .long pw, .int pb, .int ah, .long hs]) aSZ aLP w i sz2_1 lp2_1 (by first | assumption | exact ⟨rfl, rfl⟩) (hC) (by first | assumption | rfl) (by first | assumption | rfl) (by omega) (f1) (f2)) (cwV 1 hts gX9_controlNow_X9_isLong rfl rfl rfl ⟨rfl, hdX9_isLong⟩ ⟨Nat.le_of_ble_eq_true rfl, Nat.le_of_ble_eq_true rfl⟩) (ro_pV hK (hP.sub [0, 2, 3] rfl) (ro_recv hK hP (ci := 8) (q0 := 0) rfl rfl)) rfl rfl hl.1 rfl (lv_room (Nat.le_of_ble_eq_true rfl)) dX9_controlNow_67 ⟨Nat.le_of_ble_eq_true rfl, Nat.le_of_ble_eq_true rfl⟩) ?_
        refine z_if_eq (pc := 70) (tgt := 85) hx hb dX9_controlNow_70 (by decide) (fun c70 => ?_) (fun c70 => ?_)
        · exact absurd (c34.symm.trans c70) (by decide)
        refine lv_aload_n (pc := 73) hx hb dX9_controlNow_73 rfl (lv_at hl 2 rfl) ?_
        refine va_get (pc := 74) (D := D) (ci := 8) (v := .ref aSZ) (C := RX9) (T := TX9) (N := 25) hx hb hts hinX9 hown hK.1 hP 0 rfl rfl 13 (by decide) (hts (.fieldLink RX9 32 "BoxesGameModel" "sizes" "[I") (List.mem_of_getElem? (i := 3) rfl)) (fun _ h9 => h9) rfl dX9_controlNow_74 ?_
        refine lv_iload (pc := 77) hx hb dX9_controlNow_77 (lv_at hl 6 rfl) ?_
        refine va_iald (pc := 79) hx hb hK.1 hP 2 0 rfl rfl (vp_in_nI (by omega) (by decide)) dX9_controlNow_79 ?_
        refine top_i (show sz2_1 (nI i).toNatClampNeg = sz2_1 i from by rw [nI_clamp (by omega)]) ?_
        refine top_i (show sz2_1 i = nI (ssz c r w i) from f1) ?_
        refine lv_iconst (pc := 80) (v := nI 4) hx hb dX9_controlNow_80 rfl ?_
        refine lv_isub (pc := 81) hx hb dX9_controlNow_81 ?_
        refine top_i (show (nI (ssz c r w i)) - (nI 4) = iI ((ssz c r w i : Int) - 4) from by rw [iI_nI, iI_nI, iI_sub]; rfl) ?_
        refine lv_goto (pc := 82) (tgt := 109) hx hb dX9_controlNow_82 (by decide) ?_
        refine lv_iadd (pc := 109) hx hb dX9_controlNow_109 ?_
        refine top_i (show (iI z) + (iI ((ssz c r w i : Int) - 4)) = iI (z + ((ssz c r w i : Int) - 4)) from by rw [iI_add]) ?_
        refine lv_istore (pc := 110) (lv' := [(4, .int (iI (z + ((ssz c r w i : Int) - 4)))), (3, .int (nI (y + 0))), (2, .int (nI (x + 1))), (0, .ref mo), (1, .int (nI a)), (5, .int (zb o)), (6, .int (nI i))]) hx hb dX9_controlNow_110 hl (by decide) rfl (fun ls hl => ?_)
        refine lv_iload (pc := 112) hx hb dX9_controlNow_112 (lv_at hl 5 rfl) ?_
        refine z_if_ne (pc := 114) (tgt := 127) hx hb dX9_controlNow_114 (by decide) (fun c114 => ?_) (fun c114 => ?_)
        · refine lv_iconst (pc := 127) (v := zb true) hx hb dX9_controlNow_127 rfl ?_
          refine lv_goto (pc := 128) (tgt := 132) hx hb dX9_controlNow_128 (by decide) ?_
          refine lv_istore (pc := 132) (lv' := [(5, .int (zb true)), (4, .int (iI (z + ((ssz c r w i : Int) - 4)))), (3, .int (nI (y + 0))), (2, .int (nI (x + 1))), (0, .ref mo), (1, .int (nI a)), (6, .int (nI i))]) hx hb dX9_controlNow_132 hl (by decide) rfl (fun ls hl => ?_)
          refine lv_iinc (pc := 134) (v := nI (i + 1)) (lv' := [(6, .int (nI (i + 1))), (5, .int (zb true)), (4, .int (iI (z + ((ssz c r w i : Int) - 4)))), (3, .int (nI (y + 0))), (2, .int (nI (x + 1))), (0, .ref mo), (1, .int (nI a))]) hx hb dX9_controlNow_134 hl (k := 6) rfl (n_inc i 1) (by decide) rfl (fun ls hl => ?_)
          refine lv_goto (pc := 137) (tgt := 18) hx hb dX9_controlNow_137 (by decide) ?_
          exact ih18 (i + 1) (x + 1) (y + 0) (z + ((ssz c r w i : Int) - 4)) true (by first | assumption | omega) (by rw [fb_ct_succ, c34, ← hxc]; rfl) (by rw [fb_ct_succ, sdis8, c52, ← hyc]; rfl) (by rw [fb_si_succ, ← hzc]; unfold cvF; rw [of_decide_eq_true c34, if_neg (by decide)]; rfl) (by rw [orb, ← hoc, c114]; rfl) (by omega) _ _ hP hD hS _ (lv_sub hl [5, 6, 4, 3, 2, 1, 0] rfl)
        refine lv_aload_n (pc := 117) hx hb dX9_controlNow_117 rfl (lv_at hl 3 rfl) ?_
        refine va_get (pc := 118) (D := D) (ci := 8) (v := .ref aOP) (C := RX9) (T := TX9) (N := 25) hx hb hts hinX9 hown hK.1 hP 0 rfl rfl 15 (by decide) (hts (.fieldLink RX9 39 "BoxesGameModel" "opens" "[Z") (List.mem_of_getElem? (i := 4) rfl)) (fun _ h9 => h9) rfl dX9_controlNow_118 ?_
        refine lv_iload (pc := 121) hx hb dX9_controlNow_121 (lv_at hl 6 rfl) ?_
        refine va_zald (pc := 123) hx hb hK.1 hP 4 2 rfl rfl (vp_in_nI (by omega) (by decide)) dX9_controlNow_123 ?_
        refine top_i (show op2_1 (nI i).toNatClampNeg = op2_1 i from by rw [nI_clamp (by omega)]) ?_
        refine top_i (show op2_1 i = zb (sopn c r w i) from f3) ?_
        refine z_if_eq (pc := 124) (tgt := 131) hx hb dX9_controlNow_124 (by decide) (fun c124 => ?_) (fun c124 => ?_)
        · refine lv_iconst (pc := 131) (v := zb false) hx hb dX9_controlNow_131 rfl ?_
          refine lv_istore (pc := 132) (lv' := [(5, .int (zb false)), (4, .int (iI (z + ((ssz c r w i : Int) - 4)))), (3, .int (nI (y + 0))), (2, .int (nI (x + 1))), (0, .ref mo), (1, .int (nI a)), (6, .int (nI i))]) hx hb dX9_controlNow_132 hl (by decide) rfl (fun ls hl => ?_)
          refine lv_iinc (pc := 134) (v := nI (i + 1)) (lv' := [(6, .int (nI (i + 1))), (5, .int (zb false)), (4, .int (iI (z + ((ssz c r w i : Int) - 4)))), (3, .int (nI (y + 0))), (2, .int (nI (x + 1))), (0, .ref mo), (1, .int (nI a))]) hx hb dX9_controlNow_134 hl (k := 6) rfl (n_inc i 1) (by decide) rfl (fun ls hl => ?_)
          refine lv_goto (pc := 137) (tgt := 18) hx hb dX9_controlNow_137 (by decide) ?_
          exact ih18 (i + 1) (x + 1) (y + 0) (z + ((ssz c r w i : Int) - 4)) false (by first | assumption | omega) (by rw [fb_ct_succ, c34, ← hxc]; rfl) (by rw [fb_ct_succ, sdis8, c52, ← hyc]; rfl) (by rw [fb_si_succ, ← hzc]; unfold cvF; rw [of_decide_eq_true c34, if_neg (by decide)]; rfl) (by rw [orb, ← hoc, c114, c124]; rfl) (by omega) _ _ hP hD hS _ (lv_sub hl [5, 6, 4, 3, 2, 1, 0] rfl)
        refine lv_iconst (pc := 127) (v := zb true) hx hb dX9_controlNow_127 rfl ?_
        refine lv_goto (pc := 128) (tgt := 132) hx hb dX9_controlNow_128 (by decide) ?_
        refine lv_istore (pc := 132) (lv' := [(5, .int (zb true)), (4, .int (iI (z + ((ssz c r w i : Int) - 4)))), (3, .int (nI (y + 0))), (2, .int (nI (x + 1))), (0, .ref mo), (1, .int (nI a)), (6, .int (nI i))]) hx hb dX9_controlNow_132 hl (by decide) rfl (fun ls hl => ?_)
        refine lv_iinc (pc := 134) (v := nI (i + 1)) (lv' := [(6, .int (nI (i + 1))), (5, .int (zb true)), (4, .int (iI (z + ((ssz c r w i : Int) - 4)))), (3, .int (nI (y + 0))), (2, .int (nI (x + 1))), (0, .ref mo), (1, .int (nI a))]) hx hb dX9_controlNow_134 hl (k := 6) rfl (n_inc i 1) (by decide) rfl (fun ls hl => ?_)
        refine lv_goto (pc := 137) (tgt := 18) hx hb dX9_controlNow_137 (by decide) ?_
        exact ih18 (i + 1) (x + 1) (y + 0) (z + ((ssz c r w i : Int) - 4)) true (by first | assumption | omega) (by rw [fb_ct_succ, c34, ← hxc]; rfl) (by rw [fb_ct_succ, sdis8, c52, ← hyc]; rfl) (by rw [fb_si_succ, ← hzc]; unfold cvF; rw [of_decide_eq_true c34, if_neg (by decide)]; rfl) (by rw [orb, ← hoc, c114, c124]; rfl) (by omega) _ _ hP hD hS _ (lv_sub hl [5, 6, 4, 3, 2, 1, 0] rfl)
      · exact absurd ((sdis_y c52).symm.trans (of_decide_eq_true c34)) (by decide)
  exact L18 ((nst c r w - 0) + 1) 0 0 0 0 false (by first | assumption | omega) (rfl) (rfl) (rfl) (rfl) (Nat.lt_succ_self _) _ _ hP hD hS _ (lv_sub hl [5, 6, 4, 3, 2, 1, 0] rfl)

set_option maxHeartbeats 1200000 in
set_option maxRecDepth 100000 in
theorem c_X9_predictionNow (l : Launch) (D : va_G) (Y : vY) (mo : Nat) (c : Nat) (r : Nat) (fs : List Value) (aSZ : Nat) (aLP : Nat) (aFT : Nat) (w : Int64) (sz : Nat → Int32) (lp : Nat → Int32) (sa : Nat → Int32) (op : Nat → Int32) (ft : Nat → Int32) (hf : MF c r fs) (hC : Cr c r) (hf11 : fs[11]? = some (.int (nI (nst c r w)))) (hf13 : fs[13]? = some (.ref aSZ)) (hf14 : fs[14]? = some (.ref aLP)) (hf16 : fs[16]? = some (.ref aFT)) (h10 : nst c r w ≤ 10) (hsa : SaOK c r w sa sz lp op) : Mu l yX9_predictionNow wsX9_predictionNow ({ frames := 2, cells := 0, slots := 0, locals := 45 } : Room) [.ref mo] D Y [(mo, .inr (8, fs)), (aSZ, .inl (Y.1, 16, .inl sz)), (aLP, .inl (Y.2.2.1, 16, .inl lp)), (aFT, .inl (Y.1, 1024, .inl ft))] (fun uS : Nat → Int32 => some (.int (iI (prd c r w)))) (fun uS : Nat → Int32 => [(mo, .inr (8, fs)), (aSZ, .inl (Y.1, 16, .inl sz)), (aLP, .inl (Y.2.2.1, 16, .inl lp)), (aFT, .inl (Y.1, 1024, .inl uS))]) (fun uS : Nat → Int32 => True) := by
  refine mu_intro (by decide +kernel) rfl (Nat.le_of_ble_eq_true rfl) [(0, .ref mo)] rfl ?_
  intro pG eG sG mG aG bG tG cG ls hx hb hr hml hts hown hlocks hK hP hD hS hl
  generalize hAA : adA [(mo, .inr (8, fs)), (aSZ, .inl (Y.1, 16, .inl sz)), (aLP, .inl (Y.2.2.1, 16, .inl lp)), (aFT, .inl (Y.1, 1024, .inl ft))] = AA at hD hS ⊢
  have hP : va_P D vwCl [(mo, .inr (8, fs)), (aSZ, .inl (Y.1, 16, .inl sz)), (aLP, .inl (Y.2.2.1, 16, .inl lp)), (aFT, .inl (Y.1, 1024, .inl ft))] sG.heap := hP
  have hD : va_D AA [(mo, .inr (8, fs)), (aSZ, .inl (Y.1, 16, .inl sz)), (aLP, .inl (Y.2.2.1, 16, .inl lp)), (aFT, .inl (Y.1, 1024, .inl ft))] := hD
  have hown : sG.vm.findClass RX9 = some mG.cls := hown
  have hl : lv_has ls 5 [(0, .ref mo)] := hl
  have hinX9 : ∀ w ∈ u_ws RX9 TX9 25, w ∈ wsX9_predictionNow := by decide +kernel
  have hS : va_S AA sG.heap sG.heap [] := hS
  obtain ⟨hq1, hq2, hq3, hq4, hq5, hq6, hq7, hq8, hq9, hq10, hq11⟩ := hC.q
  have h2p := Nat.two_pow_pos (nst c r w)
  have h2q : 2 ^ nst c r w ≤ 1024 := Nat.pow_le_pow_right (by decide) h10
  have hsn := sn_b hC w
  refine lv_aload_n (pc := 0) hx hb dX9_predictionNow_0 rfl (lv_at hl 0 rfl) ?_
  refine va_get (pc := 1) (D := D) (ci := 8) (v := .ref aFT) (C := RX9) (T := TX9) (N := 25) hx hb hts hinX9 hown hK.1 hP 0 rfl rfl 16 (by decide) (hts (.fieldLink RX9 42 "BoxesGameModel" "foretold" "[I") (List.mem_of_getElem? (i := 1) rfl)) (fun _ h9 => h9) hf16 dX9_predictionNow_1 ?_
  refine lv_iconst (pc := 4) (v := nI 0) hx hb dX9_predictionNow_4 rfl ?_
  refine lv_iconst (pc := 5) (v := nI 0) hx hb dX9_predictionNow_5 rfl ?_
  refine va_iast (pc := 6) hx hb hK.1 hP hD hS 3 0 rfl rfl (vp_in_nI (by omega) (by decide)) dX9_predictionNow_6 (fun H locs hP hD hS => ?_)
  rw [nI_clamp (by omega)] at hP hD
  have hP : va_P D vwCl [(mo, .inr (8, fs)), (aSZ, .inl (Y.1, 16, .inl sz)), (aLP, .inl (Y.2.2.1, 16, .inl lp)), (aFT, .inl (Y.1, 1024, .inl (upd ft 0 (nI 0))))] H := hP
  have hD : va_D AA [(mo, .inr (8, fs)), (aSZ, .inl (Y.1, 16, .inl sz)), (aLP, .inl (Y.2.2.1, 16, .inl lp)), (aFT, .inl (Y.1, 1024, .inl (upd ft 0 (nI 0))))] := hD
  refine lv_iconst (pc := 7) (v := nI 1) hx hb dX9_predictionNow_7 rfl ?_
  refine lv_istore_n (pc := 8) (lv' := [(1, .int (nI 1)), (0, .ref mo)]) hx hb dX9_predictionNow_8 rfl hl (by decide) rfl (fun ls hl => ?_)
  have L9 : ∀ (n9 : Nat), ∀ (s : Nat) (fv : Nat → Int32), (1 ≤ s) → (s ≤ 2 ^ nst c r w) → (∀ t, t < s → fv t = iI (spv c r w t)) → 2 ^ nst c r w - s < n9 → ∀ (H : Heap) (locs : List Loc), va_P D vwCl [(mo, .inr (8, fs)), (aSZ, .inl (Y.1, 16, .inl sz)), (aLP, .inl (Y.2.2.1, 16, .inl lp)), (aFT, .inl (Y.1, 1024, .inl fv))] H → va_D AA [(mo, .inr (8, fs)), (aSZ, .inl (Y.1, 16, .inl sz)), (aLP, .inl (Y.2.2.1, 16, .inl lp)), (aFT, .inl (Y.1, 1024, .inl fv))] → va_S AA sG.heap H locs → ∀ (ls : Array Slot), lv_has ls 5 [(0, .ref mo), (1, .int (nI s))] → W pG l eG ({ frames := 2, cells := 0, slots := 0, locals := 45 } : Room) sG mG aG bG tG cG H locs 0 0 (MQ bG (MuQ D [(mo, .inr (8, fs)), (aSZ, .inl (Y.1, 16, .inl sz)), (aLP, .inl (Y.2.2.1, 16, .inl lp)), (aFT, .inl (Y.1, 1024, .inl ft))] (fun uS : Nat → Int32 => some (.int (iI (prd c r w)))) (fun uS : Nat → Int32 => [(mo, .inr (8, fs)), (aSZ, .inl (Y.1, 16, .inl sz)), (aLP, .inl (Y.2.2.1, 16, .inl lp)), (aFT, .inl (Y.1, 1024, .inl uS))]) (fun uS : Nat → Int32 => True)) aG sG 0 0 AA) (F0 mG 9 ls []) := by
    intro n9
    induction n9 with
    | zero =>
      intro s fv h1s hs htb hmeas9 H locs hP hD hS ls hl
      exact absurd hmeas9 (Nat.not_lt_zero _)
    | succ n9 ih9 =>
      intro s fv h1s hs htb hmeas9 H locs hP hD hS ls hl
      refine lv_iload_n (pc := 9) hx hb dX9_predictionNow_9 rfl (lv_at hl 1 rfl) ?_
      refine lv_iconst (pc := 10) (v := nI 1) hx hb dX9_predictionNow_10 rfl ?_
      refine lv_aload_n (pc := 11) hx hb dX9_predictionNow_11 rfl (lv_at hl 0 rfl) ?_
      refine va_get (pc := 12) (D := D) (ci := 8) (v := .int (nI (nst c r w))) (C := RX9) (T := TX9) (N := 25) hx hb hts hinX9 hown hK.1 hP 0 rfl rfl 11 (by decide) (hts (.fieldLink RX9 194 "BoxesGameModel" "strings" "I") (List.mem_of_getElem? (i := 2) rfl)) (fun _ h9 => h9) hf11 dX9_predictionNow_12 ?_
      refine lv_ishl (pc := 15) hx hb dX9_predictionNow_15 ?_
      refine top_i (show (nI 1) <<< ((nI (nst c r w)) &&& 31) = nI (2 ^ nst c r w) from shl1 _ (by omega)) ?_
      refine n_icmp_ge (pc := 16) (tgt := 105) hx hb (by omega) (by omega) dX9_predictionNow_16 (by decide) (fun c16 => ?_) (fun c16 => ?_)
      · refine lv_aload_n (pc := 105) hx hb dX9_predictionNow_105 rfl (lv_at hl 0 rfl) ?_
        refine va_get (pc := 106) (D := D) (ci := 8) (v := .ref aFT) (C := RX9) (T := TX9) (N := 25) hx hb hts hinX9 hown hK.1 hP 0 rfl rfl 16 (by decide) (hts (.fieldLink RX9 42 "BoxesGameModel" "foretold" "[I") (List.mem_of_getElem? (i := 1) rfl)) (fun _ h9 => h9) hf16 dX9_predictionNow_106 ?_
        refine lv_iconst (pc := 109) (v := nI 1) hx hb dX9_predictionNow_109 rfl ?_
        refine lv_aload_n (pc := 110) hx hb dX9_predictionNow_110 rfl (lv_at hl 0 rfl) ?_
        refine va_get (pc := 111) (D := D) (ci := 8) (v := .int (nI (nst c r w))) (C := RX9) (T := TX9) (N := 25) hx hb hts hinX9 hown hK.1 hP 0 rfl rfl 11 (by decide) (hts (.fieldLink RX9 194 "BoxesGameModel" "strings" "I") (List.mem_of_getElem? (i := 2) rfl)) (fun _ h9 => h9) hf11 dX9_predictionNow_111 ?_
        refine lv_ishl (pc := 114) hx hb dX9_predictionNow_114 ?_
        refine top_i (show (nI 1) <<< ((nI (nst c r w)) &&& 31) = nI (2 ^ nst c r w) from shl1 _ (by omega)) ?_
        refine lv_iconst (pc := 115) (v := nI 1) hx hb dX9_predictionNow_115 rfl ?_
        refine n_isub (pc := 116) hx hb (by omega) dX9_predictionNow_116 ?_
        refine va_iald (pc := 117) hx hb hK.1 hP 3 0 rfl rfl (vp_in_nI (by omega) (by decide)) dX9_predictionNow_117 ?_
        refine top_i (show fv (nI ((2 ^ nst c r w) - 1)).toNatClampNeg = fv ((2 ^ nst c r w) - 1) from by rw [nI_clamp (by omega)]) ?_
        refine top_i (show fv ((2 ^ nst c r w) - 1) = iI (prd c r w) from htb _ (by omega)) ?_
        subst hAA
        exact mu_iret hx hb hr hlocks hP hS (fv) (rfl) (trivial) (rfl) dX9_predictionNow_118
      refine lv_iconst (pc := 19) (v := zb true) hx hb dX9_predictionNow_19 rfl ?_
      refine lv_istore_n (pc := 20) (lv' := [(2, .int (zb true)), (0, .ref mo), (1, .int (nI s))]) hx hb dX9_predictionNow_20 rfl hl (by decide) rfl (fun ls hl => ?_)
      refine lv_iconst (pc := 21) (v := nI 0) hx hb dX9_predictionNow_21 rfl ?_
      refine lv_istore_n (pc := 22) (lv' := [(3, .int (nI 0)), (2, .int (zb true)), (0, .ref mo), (1, .int (nI s))]) hx hb dX9_predictionNow_22 rfl hl (by decide) rfl (fun ls hl => ?_)
      have L23 : ∀ (n23 : Nat), ∀ (i : Nat) (z : Bool) (q : Int) (fu : Nat → Int32), (i ≤ nst c r w) → (∀ t, t < s → fu t = iI (spv c r w t)) → (z = true → pmn (ssz c r w) (sdis c r w) (spv c r w) s i = none) → (z = false → pmn (ssz c r w) (sdis c r w) (spv c r w) s i = some q ∧ fu s = iI q) → nst c r w - i < n23 → ∀ (H : Heap) (locs : List Loc), va_P D vwCl [(mo, .inr (8, fs)), (aSZ, .inl (Y.1, 16, .inl sz)), (aLP, .inl (Y.2.2.1, 16, .inl lp)), (aFT, .inl (Y.1, 1024, .inl fu))] H → va_D AA [(mo, .inr (8, fs)), (aSZ, .inl (Y.1, 16, .inl sz)), (aLP, .inl (Y.2.2.1, 16, .inl lp)), (aFT, .inl (Y.1, 1024, .inl fu))] → va_S AA sG.heap H locs → ∀ (ls : Array Slot), lv_has ls 5 [(0, .ref mo), (1, .int (nI s)), (2, .int (zb z)), (3, .int (nI i))] → W pG l eG ({ frames := 2, cells := 0, slots := 0, locals := 45 } : Room) sG mG aG bG tG cG H locs 0 0 (MQ bG (MuQ D [(mo, .inr (8, fs)), (aSZ, .inl (Y.1, 16, .inl sz)), (aLP, .inl (Y.2.2.1, 16, .inl lp)), (aFT, .inl (Y.1, 1024, .inl ft))] (fun uS : Nat → Int32 => some (.int (iI (prd c r w)))) (fun uS : Nat → Int32 => [(mo, .inr (8, fs)), (aSZ, .inl (Y.1, 16, .inl sz)), (aLP, .inl (Y.2.2.1, 16, .inl lp)), (aFT, .inl (Y.1, 1024, .inl uS))]) (fun uS : Nat → Int32 => True)) aG sG 0 0 AA) (F0 mG 23 ls []) := by
        intro n23
        induction n23 with
        | zero =>
          intro i z q fu hi hfu hz1 hz2 hmeas23 H locs hP hD hS ls hl
          exact absurd hmeas23 (Nat.not_lt_zero _)
        | succ n23 ih23 =>
          intro i z q fu hi hfu hz1 hz2 hmeas23 H locs hP hD hS ls hl
          refine lv_iload_n (pc := 23) hx hb dX9_predictionNow_23 rfl (lv_at hl 3 rfl) ?_
          refine lv_aload_n (pc := 24) hx hb dX9_predictionNow_24 rfl (lv_at hl 0 rfl) ?_
          refine va_get (pc := 25) (D := D) (ci := 8) (v := .int (nI (nst c r w))) (C := RX9) (T := TX9) (N := 25) hx hb hts hinX9 hown hK.1 hP 0 rfl rfl 11 (by decide) (hts (.fieldLink RX9 194 "BoxesGameModel" "strings" "I") (List.mem_of_getElem? (i := 2) rfl)) (fun _ h9 => h9) hf11 dX9_predictionNow_25 ?_
          refine n_icmp_ge (pc := 28) (tgt := 99) hx hb (by omega) (by omega) dX9_predictionNow_28 (by decide) (fun c28 => ?_) (fun c28 => ?_)
          · refine lv_iinc (pc := 99) (v := nI (s + 1)) (lv' := [(1, .int (nI (s + 1))), (0, .ref mo), (2, .int (zb z)), (3, .int (nI i))]) hx hb dX9_predictionNow_99 hl (k := 1) rfl (n_inc s 1) (by decide) rfl (fun ls hl => ?_)
            refine lv_goto (pc := 102) (tgt := 9) hx hb dX9_predictionNow_102 (by decide) ?_
            exact ih9 (s + 1) fu (by first | assumption | omega) (by first | assumption | omega) (lt_s hfu (pmn_end (by omega) c16 (fun h => by have := hz1 h; rw [show i = nst c r w by omega] at this; exact this) (fun h => by have := hz2 h; rw [show i = nst c r w by omega] at this; exact this))) (by omega) _ _ hP hD hS _ (lv_sub hl [1, 0] rfl)
          refine lv_iload_n (pc := 31) hx hb dX9_predictionNow_31 rfl (lv_at hl 1 rfl) ?_
          refine lv_i2l (pc := 32) (v := lN s) hx hb dX9_predictionNow_32 (nI_l (by omega)) ?_
          refine lv_iload_n (pc := 33) hx hb dX9_predictionNow_33 rfl (lv_at hl 3 rfl) ?_
          refine ro_go (pc := 34) (va_runS (As := [.long (lN s), .int (nI i)]) (rest := []) ⟨hx, hb, hml, hown, hts⟩ (c_X9_has l D Y (lN s) i (by omega)) (va_cwS 2 hts gX9_predictionNow_X9_has rfl rfl rfl hdX9_has ⟨Nat.le_of_ble_eq_true rfl, Nat.le_of_ble_eq_true rfl⟩) (ro_pS hK (hP.sub [] rfl)) rfl rfl hl.1 rfl (lv_room (Nat.le_of_ble_eq_true rfl)) dX9_predictionNow_34 ⟨Nat.le_of_ble_eq_true rfl, Nat.le_of_ble_eq_true rfl⟩) ?_
          refine z_if_eq (pc := 37) (tgt := 93) hx hb dX9_predictionNow_37 (by decide) (fun c37 => ?_) (fun c37 => ?_)
          · refine lv_iinc (pc := 93) (v := nI (i + 1)) (lv' := [(3, .int (nI (i + 1))), (0, .ref mo), (1, .int (nI s)), (2, .int (zb z))]) hx hb dX9_predictionNow_93 hl (k := 3) rfl (n_inc i 1) (by decide) rfl (fun ls hl => ?_)
            refine lv_goto (pc := 96) (tgt := 23) hx hb dX9_predictionNow_96 (by decide) ?_
            exact ih23 (i + 1) z q fu (by first | assumption | omega) (hfu) (fun h => by rw [pmn_s0 (by rw [← tb_lN (by omega)]; exact c37)]; exact hz1 h) (fun h => by rw [pmn_s0 (by rw [← tb_lN (by omega)]; exact c37)]; exact hz2 h) (by omega) _ _ hP hD hS _ (lv_sub hl [1, 2, 3, 0] rfl)
          have hbt : s.testBit i = true := by rw [← tb_lN (by omega)]; exact c37
          have hcl := clr_less hbt
          have hsv := pv_b h10 hsn (clr s i)
          have hwv := wv_b (hsn i c28).1 (hsn i c28).2 hsv
          refine lv_aload_n (pc := 40) hx hb dX9_predictionNow_40 rfl (lv_at hl 0 rfl) ?_
          refine lv_iload_n (pc := 41) hx hb dX9_predictionNow_41 rfl (lv_at hl 3 rfl) ?_
          refine lv_aload_n (pc := 42) hx hb dX9_predictionNow_42 rfl (lv_at hl 0 rfl) ?_
          refine va_get (pc := 43) (D := D) (ci := 8) (v := .ref aFT) (C := RX9) (T := TX9) (N := 25) hx hb hts hinX9 hown hK.1 hP 0 rfl rfl 16 (by decide) (hts (.fieldLink RX9 42 "BoxesGameModel" "foretold" "[I") (List.mem_of_getElem? (i := 1) rfl)) (fun _ h9 => h9) hf16 dX9_predictionNow_43 ?_
          refine lv_iload_n (pc := 46) hx hb dX9_predictionNow_46 rfl (lv_at hl 1 rfl) ?_
          refine lv_iconst (pc := 47) (v := nI 1) hx hb dX9_predictionNow_47 rfl ?_
          refine lv_iload_n (pc := 48) hx hb dX9_predictionNow_48 rfl (lv_at hl 3 rfl) ?_
          refine lv_ishl (pc := 49) hx hb dX9_predictionNow_49 ?_
          refine top_i (show (nI 1) <<< ((nI i) &&& 31) = nI (2 ^ i) from shl1 i (by omega)) ?_
          refine lv_iconst (pc := 50) (v := (-1)) hx hb dX9_predictionNow_50 (by decide) ?_
          refine lv_ixor (pc := 51) hx hb dX9_predictionNow_51 ?_
          refine lv_iand (pc := 52) hx hb dX9_predictionNow_52 ?_
          refine top_i (show (nI s) &&& ((nI (2 ^ i)) ^^^ (-1)) = nI (clr s i) from nI_clr (by omega) (by omega)) ?_
          refine va_iald (pc := 53) hx hb hK.1 hP 3 0 rfl rfl (vp_in_nI (by omega) (by decide)) dX9_predictionNow_53 ?_
          refine top_i (show fu (nI (clr s i)).toNatClampNeg = fu (clr s i) from by rw [nI_clamp (by omega)]) ?_
          refine top_i (show fu (clr s i) = iI (spv c r w (clr s i)) from hfu _ hcl) ?_
          refine ro_go (pc := 54) (va_runV (As := [.int (nI i), .int (iI (spv c r w (clr s i)))]) (rest := []) ⟨hx, hb, hml, hown, hts⟩ (c_X9_valueOf l D Y mo c r fs aSZ aLP w i (spv c r w (clr s i)) sz lp (hf) (hC) (hf13) (hf14) (by omega) ((hsa.2 i c28).1) ((hsa.2 i c28).2.1) (by unfold spv; omega)) (cwV 2 hts gX9_predictionNow_X9_valueOf rfl rfl rfl ⟨rfl, hdX9_valueOf⟩ ⟨Nat.le_of_ble_eq_true rfl, Nat.le_of_ble_eq_true rfl⟩) (ro_pV hK (hP.sub [0, 1, 2] rfl) (ro_recv hK hP (ci := 8) (q0 := 0) rfl rfl)) rfl rfl hl.1 rfl (lv_room (Nat.le_of_ble_eq_true rfl)) dX9_predictionNow_54 ⟨Nat.le_of_ble_eq_true rfl, Nat.le_of_ble_eq_true rfl⟩) ?_
          refine lv_istore (pc := 57) (lv' := [(4, .int (iI (wv (ssz c r w i) (sdis c r w i) (spv c r w (clr s i))))), (0, .ref mo), (1, .int (nI s)), (2, .int (zb z)), (3, .int (nI i))]) hx hb dX9_predictionNow_57 hl (by decide) rfl (fun ls hl => ?_)
          refine lv_aload_n (pc := 59) hx hb dX9_predictionNow_59 rfl (lv_at hl 1 rfl) ?_
          refine va_get (pc := 60) (D := D) (ci := 8) (v := .ref aFT) (C := RX9) (T := TX9) (N := 25) hx hb hts hinX9 hown hK.1 hP 0 rfl rfl 16 (by decide) (hts (.fieldLink RX9 42 "BoxesGameModel" "foretold" "[I") (List.mem_of_getElem? (i := 1) rfl)) (fun _ h9 => h9) hf16 dX9_predictionNow_60 ?_
          refine lv_iload_n (pc := 63) hx hb dX9_predictionNow_63 rfl (lv_at hl 2 rfl) ?_
          refine lv_iload_n (pc := 64) hx hb dX9_predictionNow_64 rfl (lv_at hl 3 rfl) ?_
          refine z_if_ne (pc := 65) (tgt := 79) hx hb dX9_predictionNow_65 (by decide) (fun c65 => ?_) (fun c65 => ?_)
          · refine lv_iload (pc := 79) hx hb dX9_predictionNow_79 (lv_at hl 0 rfl) ?_
            refine lv_goto (pc := 81) (tgt := 90) hx hb dX9_predictionNow_81 (by decide) ?_
            refine va_iast (pc := 90) hx hb hK.1 hP hD hS 3 0 rfl rfl (vp_in_nI (by omega) (by decide)) dX9_predictionNow_90 (fun H locs hP hD hS => ?_)
            rw [nI_clamp (by omega)] at hP hD
            have hP : va_P D vwCl [(mo, .inr (8, fs)), (aSZ, .inl (Y.1, 16, .inl sz)), (aLP, .inl (Y.2.2.1, 16, .inl lp)), (aFT, .inl (Y.1, 1024, .inl (upd fu s (iI (wv (ssz c r w i) (sdis c r w i) (spv c r w (clr s i)))))))] H := hP
            have hD : va_D AA [(mo, .inr (8, fs)), (aSZ, .inl (Y.1, 16, .inl sz)), (aLP, .inl (Y.2.2.1, 16, .inl lp)), (aFT, .inl (Y.1, 1024, .inl (upd fu s (iI (wv (ssz c r w i) (sdis c r w i) (spv c r w (clr s i)))))))] := hD
            refine lv_iconst (pc := 91) (v := zb false) hx hb dX9_predictionNow_91 rfl ?_
            refine lv_istore_n (pc := 92) (lv' := [(2, .int (zb false)), (4, .int (iI (wv (ssz c r w i) (sdis c r w i) (spv c r w (clr s i))))), (0, .ref mo), (1, .int (nI s)), (3, .int (nI i))]) hx hb dX9_predictionNow_92 rfl hl (by decide) rfl (fun ls hl => ?_)
            refine lv_iinc (pc := 93) (v := nI (i + 1)) (lv' := [(3, .int (nI (i + 1))), (2, .int (zb false)), (4, .int (iI (wv (ssz c r w i) (sdis c r w i) (spv c r w (clr s i))))), (0, .ref mo), (1, .int (nI s))]) hx hb dX9_predictionNow_93 hl (k := 4) rfl (n_inc i 1) (by decide) rfl (fun ls hl => ?_)
            refine lv_goto (pc := 96) (tgt := 23) hx hb dX9_predictionNow_96 (by decide) ?_
            exact ih23 (i + 1) false (wv (ssz c r w i) (sdis c r w i) (spv c r w (clr s i))) (upd fu s (iI (wv (ssz c r w i) (sdis c r w i) (spv c r w (clr s i))))) (by first | assumption | omega) (fun t ht => by rw [pk_un (by omega)]; exact hfu t ht) (fun h => by cases h) (fun _ => ⟨pmn_s1 hbt (hz1 c65), pk_us⟩) (by omega) _ _ hP hD hS _ (lv_sub hl [3, 4, 1, 0] rfl)
          refine lv_iload (pc := 68) hx hb dX9_predictionNow_68 (lv_at hl 0 rfl) ?_
          refine lv_aload_n (pc := 70) hx hb dX9_predictionNow_70 rfl (lv_at hl 1 rfl) ?_
          refine va_get (pc := 71) (D := D) (ci := 8) (v := .ref aFT) (C := RX9) (T := TX9) (N := 25) hx hb hts hinX9 hown hK.1 hP 0 rfl rfl 16 (by decide) (hts (.fieldLink RX9 42 "BoxesGameModel" "foretold" "[I") (List.mem_of_getElem? (i := 1) rfl)) (fun _ h9 => h9) hf16 dX9_predictionNow_71 ?_
          refine lv_iload_n (pc := 74) hx hb dX9_predictionNow_74 rfl (lv_at hl 2 rfl) ?_
          refine va_iald (pc := 75) hx hb hK.1 hP 3 0 rfl rfl (vp_in_nI (by omega) (by decide)) dX9_predictionNow_75 ?_
          refine top_i (show fu (nI s).toNatClampNeg = fu s from by rw [nI_clamp (by omega)]) ?_
          refine top_i (show fu s = iI q from (hz2 c65).2) ?_
          have hqb := pmn_b h10 hsn (Nat.le_of_lt c28) (hz2 c65).1
          refine lv_icmp_ge (pc := 76) (tgt := 84) hx hb dX9_predictionNow_76 (by decide) (fun c76 => ?_) (fun c76 => ?_)
          · have c76z := (iI_le (by omega) (by omega) (by unfold spv; omega) (by unfold spv; omega)).mp c76
            refine lv_aload_n (pc := 84) hx hb dX9_predictionNow_84 rfl (lv_at hl 1 rfl) ?_
            refine va_get (pc := 85) (D := D) (ci := 8) (v := .ref aFT) (C := RX9) (T := TX9) (N := 25) hx hb hts hinX9 hown hK.1 hP 0 rfl rfl 16 (by decide) (hts (.fieldLink RX9 42 "BoxesGameModel" "foretold" "[I") (List.mem_of_getElem? (i := 1) rfl)) (fun _ h9 => h9) hf16 dX9_predictionNow_85 ?_
            refine lv_iload_n (pc := 88) hx hb dX9_predictionNow_88 rfl (lv_at hl 2 rfl) ?_
            refine va_iald (pc := 89) hx hb hK.1 hP 3 0 rfl rfl (vp_in_nI (by omega) (by decide)) dX9_predictionNow_89 ?_
            refine top_i (show fu (nI s).toNatClampNeg = fu s from by rw [nI_clamp (by omega)]) ?_
            refine va_iast (pc := 90) hx hb hK.1 hP hD hS 3 0 rfl rfl (vp_in_nI (by omega) (by decide)) dX9_predictionNow_90 (fun H locs hP hD hS => ?_)
            rw [nI_clamp (by omega)] at hP hD
            have hP : va_P D vwCl [(mo, .inr (8, fs)), (aSZ, .inl (Y.1, 16, .inl sz)), (aLP, .inl (Y.2.2.1, 16, .inl lp)), (aFT, .inl (Y.1, 1024, .inl (upd fu s (fu s))))] H := hP
            have hD : va_D AA [(mo, .inr (8, fs)), (aSZ, .inl (Y.1, 16, .inl sz)), (aLP, .inl (Y.2.2.1, 16, .inl lp)), (aFT, .inl (Y.1, 1024, .inl (upd fu s (fu s))))] := hD
            refine lv_iconst (pc := 91) (v := zb false) hx hb dX9_predictionNow_91 rfl ?_
            refine lv_istore_n (pc := 92) (lv' := [(2, .int (zb false)), (4, .int (iI (wv (ssz c r w i) (sdis c r w i) (spv c r w (clr s i))))), (0, .ref mo), (1, .int (nI s)), (3, .int (nI i))]) hx hb dX9_predictionNow_92 rfl hl (by decide) rfl (fun ls hl => ?_)
            refine lv_iinc (pc := 93) (v := nI (i + 1)) (lv' := [(3, .int (nI (i + 1))), (2, .int (zb false)), (4, .int (iI (wv (ssz c r w i) (sdis c r w i) (spv c r w (clr s i))))), (0, .ref mo), (1, .int (nI s))]) hx hb dX9_predictionNow_93 hl (k := 4) rfl (n_inc i 1) (by decide) rfl (fun ls hl => ?_)
            refine lv_goto (pc := 96) (tgt := 23) hx hb dX9_predictionNow_96 (by decide) ?_
            exact ih23 (i + 1) false q (upd fu s (fu s)) (by first | assumption | omega) (fun t ht => by rw [pk_un (by omega)]; exact hfu t ht) (fun h => by cases h) (fun _ => ⟨by rw [pmn_s2 hbt (hz2 c65).1, Int.min_eq_left c76z], by rw [pk_us]; exact (hz2 c65).2⟩) (by omega) _ _ hP hD hS _ (lv_sub hl [3, 4, 1, 0] rfl)
          have c76z : ¬ _ := fun h => c76 ((iI_le (by omega) (by omega) (by unfold spv; omega) (by unfold spv; omega)).mpr h)
          refine lv_iload (pc := 79) hx hb dX9_predictionNow_79 (lv_at hl 0 rfl) ?_
          refine lv_goto (pc := 81) (tgt := 90) hx hb dX9_predictionNow_81 (by decide) ?_
          refine va_iast (pc := 90) hx hb hK.1 hP hD hS 3 0 rfl rfl (vp_in_nI (by omega) (by decide)) dX9_predictionNow_90 (fun H locs hP hD hS => ?_)
          rw [nI_clamp (by omega)] at hP hD
          have hP : va_P D vwCl [(mo, .inr (8, fs)), (aSZ, .inl (Y.1, 16, .inl sz)), (aLP, .inl (Y.2.2.1, 16, .inl lp)), (aFT, .inl (Y.1, 1024, .inl (upd fu s (iI (wv (ssz c r w i) (sdis c r w i) (spv c r w (clr s i)))))))] H := hP
          have hD : va_D AA [(mo, .inr (8, fs)), (aSZ, .inl (Y.1, 16, .inl sz)), (aLP, .inl (Y.2.2.1, 16, .inl lp)), (aFT, .inl (Y.1, 1024, .inl (upd fu s (iI (wv (ssz c r w i) (sdis c r w i) (spv c r w (clr s i)))))))] := hD
          refine lv_iconst (pc := 91) (v := zb false) hx hb dX9_predictionNow_91 rfl ?_
          refine lv_istore_n (pc := 92) (lv' := [(2, .int (zb false)), (4, .int (iI (wv (ssz c r w i) (sdis c r w i) (spv c r w (clr s i))))), (0, .ref mo), (1, .int (nI s)), (3, .int (nI i))]) hx hb dX9_predictionNow_92 rfl hl (by decide) rfl (fun ls hl => ?_)
          refine lv_iinc (pc := 93) (v := nI (i + 1)) (lv' := [(3, .int (nI (i + 1))), (2, .int (zb false)), (4, .int (iI (wv (ssz c r w i) (sdis c r w i) (spv c r w (clr s i))))), (0, .ref mo), (1, .int (nI s))]) hx hb dX9_predictionNow_93 hl (k := 4) rfl (n_inc i 1) (by decide) rfl (fun ls hl => ?_)
          refine lv_goto (pc := 96) (tgt := 23) hx hb dX9_predictionNow_96 (by decide) ?_
          exact ih23 (i + 1) false (wv (ssz c r w i) (sdis c r w i) (spv c r w (clr s i))) (upd fu s (iI (wv (ssz c r w i) (sdis c r w i) (spv c r w (clr s i))))) (by first | assumption | omega) (fun t ht => by rw [pk_un (by omega)]; exact hfu t ht) (fun h => by cases h) (fun _ => ⟨by rw [pmn_s2 hbt (hz2 c65).1, Int.min_eq_right (by omega)], pk_us⟩) (by omega) _ _ hP hD hS _ (lv_sub hl [3, 4, 1, 0] rfl)
      exact L23 ((nst c r w - 0) + 1) 0 true 0 fv (by first | assumption | omega) (htb) (fun _ => rfl) (fun h => by cases h) (Nat.lt_succ_self _) _ _ hP hD hS _ (lv_sub hl [2, 3, 1, 0] rfl)
  exact L9 ((2 ^ nst c r w - 1) + 1) 1 (upd ft 0 (nI 0)) (by first | assumption | omega) (by first | assumption | omega) (fun t ht => by rw [show t = 0 by omega, pk_us]; unfold spv; rw [pv_0]; rfl) (Nat.lt_succ_self _) _ _ hP hD hS _ (lv_sub hl [1, 0] rfl)
