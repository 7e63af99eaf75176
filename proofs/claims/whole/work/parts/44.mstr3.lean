set_option maxHeartbeats 1200000 in
set_option maxRecDepth 100000 in
theorem c_X9_isLong (l : Launch) (D : va_G) (Y : vY) (mo : Nat) (c : Nat) (r : Nat) (fs : List Value) (aSZ : Nat) (aLP : Nat) (w : Int64) (k : Nat) (sz : Nat → Int32) (lp : Nat → Int32) (hf : MF c r fs) (hC : Cr c r) (hf13 : fs[13]? = some (.ref aSZ)) (hf14 : fs[14]? = some (.ref aLP)) (hk16 : k < 16) (hs3 : sz k = nI (ssz c r w k)) (hl3 : lp k = zb (slop c r w k)) : Ro l yX9_isLong wsX9_isLong ({ frames := 0, cells := 0, slots := 0, locals := 0 } : Room) [.ref mo, .int (nI k)] D Y [(mo, .inr (8, fs)), (aSZ, .inl (Y.1, 16, .inl sz)), (aLP, .inl (Y.2.2.1, 16, .inl lp))] (some (.int (zb (decide (sdis c r w k = 4))))) := by
  refine ro_intro (by decide +kernel) rfl (Nat.le_of_ble_eq_true rfl) [(0, .ref mo), (1, .int (nI k))] rfl ?_
  intro pG eG sG mG aG bG tG cG ls hx hb hr hml hts hown hlocks hK hP hl
  have hP : va_P D vwCl [(mo, .inr (8, fs)), (aSZ, .inl (Y.1, 16, .inl sz)), (aLP, .inl (Y.2.2.1, 16, .inl lp))] sG.heap := hP
  have hown : sG.vm.findClass RX9 = some mG.cls := hown
  have hl : lv_has ls 2 [(0, .ref mo), (1, .int (nI k))] := hl
  have hinX9 : ∀ w ∈ u_ws RX9 TX9 25, w ∈ wsX9_isLong := by decide +kernel
  obtain ⟨hq1, hq2, hq3, hq4, hq5, hq6, hq7, hq8, hq9, hq10, hq11⟩ := hC.q
  have hssz := ssz_le c r w k
  refine lv_aload_n (pc := 0) hx hb dX9_isLong_0 rfl (lv_at hl 0 rfl) ?_
  refine va_get (pc := 1) (D := D) (ci := 8) (v := .ref aLP) (C := RX9) (T := TX9) (N := 25) hx hb hts hinX9 hown hK.1 hP 0 rfl rfl 14 (by decide) (hts (.fieldLink RX9 35 "BoxesGameModel" "loops" "[Z") (List.mem_of_getElem? (i := 1) rfl)) (fun _ h9 => h9) hf14 dX9_isLong_1 ?_
  refine lv_iload_n (pc := 4) hx hb dX9_isLong_4 rfl (lv_at hl 1 rfl) ?_
  refine va_zald (pc := 5) hx hb hK.1 hP 2 2 rfl rfl (vp_in_nI (by omega) (by decide)) dX9_isLong_5 ?_
  refine top_i (show lp (nI k).toNatClampNeg = lp k from by rw [nI_clamp (by omega)]) ?_
  refine top_i (show lp k = zb (slop c r w k) from hl3) ?_
  refine z_if_ne (pc := 6) (tgt := 23) hx hb dX9_isLong_6 (by decide) (fun c6 => ?_) (fun c6 => ?_)
  · refine lv_iconst (pc := 23) (v := nI 0) hx hb dX9_isLong_23 rfl ?_
    exact ro_zret hx hb hr hlocks (zb_0 (isl_y c6)) dX9_isLong_24
  refine lv_aload_n (pc := 9) hx hb dX9_isLong_9 rfl (lv_at hl 0 rfl) ?_
  refine va_get (pc := 10) (D := D) (ci := 8) (v := .ref aSZ) (C := RX9) (T := TX9) (N := 25) hx hb hts hinX9 hown hK.1 hP 0 rfl rfl 13 (by decide) (hts (.fieldLink RX9 32 "BoxesGameModel" "sizes" "[I") (List.mem_of_getElem? (i := 2) rfl)) (fun _ h9 => h9) hf13 dX9_isLong_10 ?_
  refine lv_iload_n (pc := 13) hx hb dX9_isLong_13 rfl (lv_at hl 1 rfl) ?_
  refine va_iald (pc := 14) hx hb hK.1 hP 1 0 rfl rfl (vp_in_nI (by omega) (by decide)) dX9_isLong_14 ?_
  refine top_i (show sz (nI k).toNatClampNeg = sz k from by rw [nI_clamp (by omega)]) ?_
  refine top_i (show sz k = nI (ssz c r w k) from hs3) ?_
  refine lv_iconst (pc := 15) (v := nI 3) hx hb dX9_isLong_15 rfl ?_
  refine n_icmp_lt (pc := 16) (tgt := 23) hx hb (by omega) (by omega) dX9_isLong_16 (by decide) (fun c16 => ?_) (fun c16 => ?_)
  · refine lv_iconst (pc := 23) (v := nI 0) hx hb dX9_isLong_23 rfl ?_
    exact ro_zret hx hb hr hlocks (zb_0 (isl_s c6 (by omega))) dX9_isLong_24
  refine lv_iconst (pc := 19) (v := nI 1) hx hb dX9_isLong_19 rfl ?_
  refine lv_goto (pc := 20) (tgt := 24) hx hb dX9_isLong_20 (by decide) ?_
  exact ro_zret hx hb hr hlocks (zb_1 (isl_l c6 (by omega))) dX9_isLong_24

set_option maxHeartbeats 1200000 in
set_option maxRecDepth 100000 in
theorem c_X9_thick (l : Launch) (D : va_G) (Y : vY) (mo : Nat) (c : Nat) (r : Nat) (fs : List Value) (w : Int64) (hf : MF c r fs) (hC : Cr c r) (hf3 : fs[3]? = some (.long w)) : Ro l yX9_thick wsX9_thick ({ frames := 4, cells := 0, slots := 0, locals := 92 } : Room) [.ref mo] D Y [(mo, .inr (8, fs))] (some (.int (nI (thk c r w)))) := by
  refine ro_intro (by decide +kernel) rfl (Nat.le_of_ble_eq_true rfl) [(0, .ref mo)] rfl ?_
  intro pG eG sG mG aG bG tG cG ls hx hb hr hml hts hown hlocks hK hP hl
  have hP : va_P D vwCl [(mo, .inr (8, fs))] sG.heap := hP
  have hown : sG.vm.findClass RX9 = some mG.cls := hown
  have hl : lv_has ls 3 [(0, .ref mo)] := hl
  have hinX9 : ∀ w ∈ u_ws RX9 TX9 25, w ∈ wsX9_thick := by decide +kernel
  obtain ⟨hq1, hq2, hq3, hq4, hq5, hq6, hq7, hq8, hq9, hq10, hq11⟩ := hC.q
  refine lv_iconst (pc := 0) (v := nI 0) hx hb dX9_thick_0 rfl ?_
  refine lv_istore_n (pc := 1) (lv' := [(1, .int (nI 0)), (0, .ref mo)]) hx hb dX9_thick_1 rfl hl (by decide) rfl (fun ls hl => ?_)
  refine lv_iconst (pc := 2) (v := nI 0) hx hb dX9_thick_2 rfl ?_
  refine lv_istore_n (pc := 3) (lv' := [(2, .int (nI 0)), (1, .int (nI 0)), (0, .ref mo)]) hx hb dX9_thick_3 rfl hl (by decide) rfl (fun ls hl => ?_)
  have L4 : ∀ (n4 : Nat), ∀ (i : Nat) (k : Nat), (i ≤ c * r) → (k = fb_ct (fun b => decide (2 < opn c r w b)) i) → c * r - i < n4 → ∀ (ls : Array Slot), lv_has ls 3 [(0, .ref mo), (1, .int (nI k)), (2, .int (nI i))] → W pG l eG ({ frames := 4, cells := 0, slots := 0, locals := 92 } : Room) sG mG aG bG tG cG sG.heap [] 0 0 (MQ bG (RoQ (some (.int (nI (thk c r w))))) aG sG 0 0 (fun _ => False)) (F0 mG 4 ls []) := by
    intro n4
    induction n4 with
    | zero =>
      intro i k hi hk hmeas4  ls hl
      exact absurd hmeas4 (Nat.not_lt_zero _)
    | succ n4 ih4 =>
      intro i k hi hk hmeas4  ls hl
      refine lv_iload_n (pc := 4) hx hb dX9_thick_4 rfl (lv_at hl 2 rfl) ?_
      refine lv_aload_n (pc := 5) hx hb dX9_thick_5 rfl (lv_at hl 0 rfl) ?_
      refine ro_go (pc := 6) (va_runV (As := []) (rest := [.int (nI i)]) ⟨hx, hb, hml, hown, hts⟩ (c_X9_boxes l D Y mo c r fs (hf) (hC)) (cwV 0 hts gX9_thick_X9_boxes rfl rfl rfl ⟨rfl, hdX9_boxes⟩ ⟨Nat.le_of_ble_eq_true rfl, Nat.le_of_ble_eq_true rfl⟩) (ro_pV hK hP (ro_recv hK hP (ci := 8) (q0 := 0) rfl rfl)) rfl rfl hl.1 rfl (lv_room (Nat.le_of_ble_eq_true rfl)) dX9_thick_6 ⟨Nat.le_of_ble_eq_true rfl, Nat.le_of_ble_eq_true rfl⟩) ?_
      refine n_icmp_ge (pc := 9) (tgt := 39) hx hb (by omega) (by omega) dX9_thick_9 (by decide) (fun c9 => ?_) (fun c9 => ?_)
      · refine lv_iload_n (pc := 39) hx hb dX9_thick_39 rfl (lv_at hl 1 rfl) ?_
        exact ro_iret (v := nI k) hx hb hr hlocks (by rw [hk, show i = c * r by omega]; rfl) dX9_thick_40
      refine lv_iload_n (pc := 12) hx hb dX9_thick_12 rfl (lv_at hl 1 rfl) ?_
      refine lv_aload_n (pc := 13) hx hb dX9_thick_13 rfl (lv_at hl 0 rfl) ?_
      refine lv_iload_n (pc := 14) hx hb dX9_thick_14 rfl (lv_at hl 2 rfl) ?_
      refine lv_aload_n (pc := 15) hx hb dX9_thick_15 rfl (lv_at hl 0 rfl) ?_
      refine va_get (pc := 16) (D := D) (ci := 8) (v := .long w) (C := RX9) (T := TX9) (N := 25) hx hb hts hinX9 hown hK.1 hP 0 rfl rfl 3 (by decide) (hts (.fieldLink RX9 119 "BoxesGameModel" "now" "J") (List.mem_of_getElem? (i := 1) rfl)) (fun _ h9 => h9) hf3 dX9_thick_16 ?_
      refine ro_go (pc := 19) (va_runV (As := [.int (nI i), .long w]) (rest := [.int (nI k)]) ⟨hx, hb, hml, hown, hts⟩ (c_X9_openOf l D Y mo c r fs i w (hf) (hC) (by first | assumption | omega)) (cwV 2 hts gX9_thick_X9_openOf rfl rfl rfl ⟨rfl, hdX9_openOf⟩ ⟨Nat.le_of_ble_eq_true rfl, Nat.le_of_ble_eq_true rfl⟩) (ro_pV hK hP (ro_recv hK hP (ci := 8) (q0 := 0) rfl rfl)) rfl rfl hl.1 rfl (lv_room (Nat.le_of_ble_eq_true rfl)) dX9_thick_19 ⟨Nat.le_of_ble_eq_true rfl, Nat.le_of_ble_eq_true rfl⟩) ?_
      refine lv_iconst (pc := 22) (v := nI 2) hx hb dX9_thick_22 rfl ?_
      refine n_icmp_le (pc := 23) (tgt := 30) hx hb (by have := opn_le c r w i; omega) (by decide) dX9_thick_23 (by decide) (fun c23 => ?_) (fun c23 => ?_)
      · refine lv_iconst (pc := 30) (v := nI 0) hx hb dX9_thick_30 rfl ?_
        refine n_iadd (pc := 31) hx hb dX9_thick_31 ?_
        refine lv_istore_n (pc := 32) (lv' := [(1, .int (nI (k + 0))), (0, .ref mo), (2, .int (nI i))]) hx hb dX9_thick_32 rfl hl (by decide) rfl (fun ls hl => ?_)
        refine lv_iinc (pc := 33) (v := nI (i + 1)) (lv' := [(2, .int (nI (i + 1))), (1, .int (nI (k + 0))), (0, .ref mo)]) hx hb dX9_thick_33 hl (k := 2) rfl (n_inc i 1) (by decide) rfl (fun ls hl => ?_)
        refine lv_goto (pc := 36) (tgt := 4) hx hb dX9_thick_36 (by decide) ?_
        exact ih4 (i + 1) (k + 0) (by first | assumption | omega) (by rw [fb_ct_succ, decide_eq_false (by omega), ← hk]; rfl) (by omega) _ (lv_sub hl [2, 1, 0] rfl)
      refine lv_iconst (pc := 26) (v := nI 1) hx hb dX9_thick_26 rfl ?_
      refine lv_goto (pc := 27) (tgt := 31) hx hb dX9_thick_27 (by decide) ?_
      refine n_iadd (pc := 31) hx hb dX9_thick_31 ?_
      refine lv_istore_n (pc := 32) (lv' := [(1, .int (nI (k + 1))), (0, .ref mo), (2, .int (nI i))]) hx hb dX9_thick_32 rfl hl (by decide) rfl (fun ls hl => ?_)
      refine lv_iinc (pc := 33) (v := nI (i + 1)) (lv' := [(2, .int (nI (i + 1))), (1, .int (nI (k + 1))), (0, .ref mo)]) hx hb dX9_thick_33 hl (k := 2) rfl (n_inc i 1) (by decide) rfl (fun ls hl => ?_)
      refine lv_goto (pc := 36) (tgt := 4) hx hb dX9_thick_36 (by decide) ?_
      exact ih4 (i + 1) (k + 1) (by first | assumption | omega) (by rw [fb_ct_succ, decide_eq_true (by omega), ← hk]; rfl) (by omega) _ (lv_sub hl [2, 1, 0] rfl)
  exact L4 ((c * r - 0) + 1) 0 0 (by first | assumption | omega) (rfl) (Nat.lt_succ_self _) _ (lv_sub hl [2, 1, 0] rfl)

set_option maxHeartbeats 1200000 in
set_option maxRecDepth 100000 in
theorem c_X9_linesAt (l : Launch) (D : va_G) (Y : vY) (mo : Nat) (c : Nat) (r : Nat) (fs : List Value) (w : Int64) (aSA : Nat) (k : Nat) (v : Bool) (sa : Nat → Int32) (hf : MF c r fs) (hC : Cr c r) (hf3 : fs[3]? = some (.long w)) (hf12 : fs[12]? = some (.ref aSA)) (hk31 : k < 2 ^ 31) (hnu : NuOK c r w (c * r) sa) : Ro l yX9_linesAt wsX9_linesAt ({ frames := 5, cells := 0, slots := 0, locals := 113 } : Room) [.ref mo, .int (nI k), .int (zb v)] D Y [(mo, .inr (8, fs)), (aSA, .inl (Y.1, 16, .inl sa))] (some (.int (nI (fb_ct (slq c r w k v) (al c r))))) := by
  refine ro_intro (by decide +kernel) rfl (Nat.le_of_ble_eq_true rfl) [(0, .ref mo), (1, .int (nI k)), (2, .int (zb v))] rfl ?_
  intro pG eG sG mG aG bG tG cG ls hx hb hr hml hts hown hlocks hK hP hl
  have hP : va_P D vwCl [(mo, .inr (8, fs)), (aSA, .inl (Y.1, 16, .inl sa))] sG.heap := hP
  have hown : sG.vm.findClass RX9 = some mG.cls := hown
  have hl : lv_has ls 9 [(0, .ref mo), (1, .int (nI k)), (2, .int (zb v))] := hl
  have hinX9 : ∀ w ∈ u_ws RX9 TX9 25, w ∈ wsX9_linesAt := by decide +kernel
  obtain ⟨hq1, hq2, hq3, hq4, hq5, hq6, hq7, hq8, hq9, hq10, hq11⟩ := hC.q
  refine lv_iconst (pc := 0) (v := nI 0) hx hb dX9_linesAt_0 rfl ?_
  refine lv_istore_n (pc := 1) (lv' := [(3, .int (nI 0)), (0, .ref mo), (1, .int (nI k)), (2, .int (zb v))]) hx hb dX9_linesAt_1 rfl hl (by decide) rfl (fun ls hl => ?_)
  refine lv_iconst (pc := 2) (v := nI 0) hx hb dX9_linesAt_2 rfl ?_
  refine lv_istore (pc := 3) (lv' := [(4, .int (nI 0)), (3, .int (nI 0)), (0, .ref mo), (1, .int (nI k)), (2, .int (zb v))]) hx hb dX9_linesAt_3 hl (by decide) rfl (fun ls hl => ?_)
  have L5 : ∀ (n5 : Nat), ∀ (i : Nat) (x : Nat), (i ≤ al c r) → (x = fb_ct (slq c r w k v) i) → al c r - i < n5 → ∀ (ls : Array Slot), lv_has ls 9 [(0, .ref mo), (1, .int (nI k)), (2, .int (zb v)), (3, .int (nI x)), (4, .int (nI i))] → W pG l eG ({ frames := 5, cells := 0, slots := 0, locals := 113 } : Room) sG mG aG bG tG cG sG.heap [] 0 0 (MQ bG (RoQ (some (.int (nI (fb_ct (slq c r w k v) (al c r)))))) aG sG 0 0 (fun _ => False)) (F0 mG 5 ls []) := by
    intro n5
    induction n5 with
    | zero =>
      intro i x hi hxc hmeas5  ls hl
      exact absurd hmeas5 (Nat.not_lt_zero _)
    | succ n5 ih5 =>
      intro i x hi hxc hmeas5  ls hl
      refine lv_iload (pc := 5) hx hb dX9_linesAt_5 (lv_at hl 4 rfl) ?_
      refine lv_aload_n (pc := 7) hx hb dX9_linesAt_7 rfl (lv_at hl 0 rfl) ?_
      refine ro_go (pc := 8) (va_runV (As := []) (rest := [.int (nI i)]) ⟨hx, hb, hml, hown, hts⟩ (c_X9_all l D Y mo c r fs (hf) (hC)) (cwV 0 hts gX9_linesAt_X9_all rfl rfl rfl ⟨rfl, hdX9_all⟩ ⟨Nat.le_of_ble_eq_true rfl, Nat.le_of_ble_eq_true rfl⟩) (ro_pV hK (hP.sub [0] rfl) (ro_recv hK hP (ci := 8) (q0 := 0) rfl rfl)) rfl rfl hl.1 rfl (lv_room (Nat.le_of_ble_eq_true rfl)) dX9_linesAt_8 ⟨Nat.le_of_ble_eq_true rfl, Nat.le_of_ble_eq_true rfl⟩) ?_
      refine n_icmp_ge (pc := 11) (tgt := 141) hx hb (by omega) (by omega) dX9_linesAt_11 (by decide) (fun c11 => ?_) (fun c11 => ?_)
      · refine lv_iload_n (pc := 141) hx hb dX9_linesAt_141 rfl (lv_at hl 3 rfl) ?_
        exact ro_iret (v := nI x) hx hb hr hlocks (by rw [hxc, show i = al c r by omega]) dX9_linesAt_142
      refine lv_iconst (pc := 14) (v := zb false) hx hb dX9_linesAt_14 rfl ?_
      refine lv_istore (pc := 15) (lv' := [(5, .int (zb false)), (0, .ref mo), (1, .int (nI k)), (2, .int (zb v)), (3, .int (nI x)), (4, .int (nI i))]) hx hb dX9_linesAt_15 hl (by decide) rfl (fun ls hl => ?_)
      refine lv_iconst (pc := 17) (v := zb false) hx hb dX9_linesAt_17 rfl ?_
      refine lv_istore (pc := 18) (lv' := [(6, .int (zb false)), (5, .int (zb false)), (0, .ref mo), (1, .int (nI k)), (2, .int (zb v)), (3, .int (nI x)), (4, .int (nI i))]) hx hb dX9_linesAt_18 hl (by decide) rfl (fun ls hl => ?_)
      refine lv_iconst (pc := 20) (v := nI 0) hx hb dX9_linesAt_20 rfl ?_
      refine lv_istore (pc := 21) (lv' := [(7, .int (nI 0)), (6, .int (zb false)), (5, .int (zb false)), (0, .ref mo), (1, .int (nI k)), (2, .int (zb v)), (3, .int (nI x)), (4, .int (nI i))]) hx hb dX9_linesAt_21 hl (by decide) rfl (fun ls hl => ?_)
      have L23 : ∀ (n23 : Nat), ∀ (j : Nat) (p : Bool) (q : Bool), (j ≤ 2) → (p = orb (bsP (inS c r w k) c r i) j) → (q = orb (bsP (fun b => !thn c r w b) c r i) j) → 2 - j < n23 → ∀ (ls : Array Slot), lv_has ls 9 [(0, .ref mo), (1, .int (nI k)), (2, .int (zb v)), (3, .int (nI x)), (4, .int (nI i)), (5, .int (zb p)), (6, .int (zb q)), (7, .int (nI j))] → W pG l eG ({ frames := 5, cells := 0, slots := 0, locals := 113 } : Room) sG mG aG bG tG cG sG.heap [] 0 0 (MQ bG (RoQ (some (.int (nI (fb_ct (slq c r w k v) (al c r)))))) aG sG 0 0 (fun _ => False)) (F0 mG 23 ls []) := by
        intro n23
        induction n23 with
        | zero =>
          intro j p q hj hp9 hq9 hmeas23  ls hl
          exact absurd hmeas23 (Nat.not_lt_zero _)
        | succ n23 ih23 =>
          intro j p q hj hp9 hq9 hmeas23  ls hl
          refine lv_iload (pc := 23) hx hb dX9_linesAt_23 (lv_at hl 7 rfl) ?_
          refine lv_iconst (pc := 25) (v := nI 2) hx hb dX9_linesAt_25 rfl ?_
          refine n_icmp_ge (pc := 26) (tgt := 101) hx hb (by omega) (by omega) dX9_linesAt_26 (by decide) (fun c26 => ?_) (fun c26 => ?_)
          · have hpj : p = orb (bsP (inS c r w k) c r i) 2 := by rw [hp9, show j = 2 by omega]
            have hqj : q = orb (bsP (fun b => !thn c r w b) c r i) 2 := by rw [hq9, show j = 2 by omega]
            refine lv_iload_n (pc := 101) hx hb dX9_linesAt_101 rfl (lv_at hl 3 rfl) ?_
            refine lv_aload_n (pc := 102) hx hb dX9_linesAt_102 rfl (lv_at hl 0 rfl) ?_
            refine va_get (pc := 103) (D := D) (ci := 8) (v := .long w) (C := RX9) (T := TX9) (N := 25) hx hb hts hinX9 hown hK.1 hP 0 rfl rfl 3 (by decide) (hts (.fieldLink RX9 119 "BoxesGameModel" "now" "J") (List.mem_of_getElem? (i := 2) rfl)) (fun _ h9 => h9) hf3 dX9_linesAt_103 ?_
            refine lv_iload (pc := 106) hx hb dX9_linesAt_106 (lv_at hl 4 rfl) ?_
            refine ro_go (pc := 108) (va_runS (As := [.long w, .int (nI i)]) (rest := [.int (nI x)]) ⟨hx, hb, hml, hown, hts⟩ (c_X9_has l D Y w i (by omega)) (va_cwS 2 hts gX9_linesAt_X9_has rfl rfl rfl hdX9_has ⟨Nat.le_of_ble_eq_true rfl, Nat.le_of_ble_eq_true rfl⟩) (ro_pS hK (hP.sub [] rfl)) rfl rfl hl.1 rfl (lv_room (Nat.le_of_ble_eq_true rfl)) dX9_linesAt_108 ⟨Nat.le_of_ble_eq_true rfl, Nat.le_of_ble_eq_true rfl⟩) ?_
            refine z_if_ne (pc := 111) (tgt := 132) hx hb dX9_linesAt_111 (by decide) (fun c111 => ?_) (fun c111 => ?_)
            · refine lv_iconst (pc := 132) (v := nI 0) hx hb dX9_linesAt_132 rfl ?_
              refine n_iadd (pc := 133) hx hb dX9_linesAt_133 ?_
              refine lv_istore_n (pc := 134) (lv' := [(3, .int (nI (x + 0))), (0, .ref mo), (1, .int (nI k)), (2, .int (zb v)), (4, .int (nI i)), (5, .int (zb p)), (6, .int (zb q)), (7, .int (nI j))]) hx hb dX9_linesAt_134 rfl hl (by decide) rfl (fun ls hl => ?_)
              refine lv_iinc (pc := 135) (v := nI (i + 1)) (lv' := [(4, .int (nI (i + 1))), (3, .int (nI (x + 0))), (0, .ref mo), (1, .int (nI k)), (2, .int (zb v)), (5, .int (zb p)), (6, .int (zb q)), (7, .int (nI j))]) hx hb dX9_linesAt_135 hl (k := 4) rfl (n_inc i 1) (by decide) rfl (fun ls hl => ?_)
              refine lv_goto (pc := 138) (tgt := 5) hx hb dX9_linesAt_138 (by decide) ?_
              exact ih5 (i + 1) (x + 0) (by first | assumption | omega) (by rw [fb_ct_succ, ← hxc]; unfold slq; rw [c111]; rfl) (by omega) _ (lv_sub hl [2, 3, 4, 1, 0] rfl)
            refine lv_iload (pc := 114) hx hb dX9_linesAt_114 (lv_at hl 5 rfl) ?_
            refine z_if_eq (pc := 116) (tgt := 132) hx hb dX9_linesAt_116 (by decide) (fun c116 => ?_) (fun c116 => ?_)
            · refine lv_iconst (pc := 132) (v := nI 0) hx hb dX9_linesAt_132 rfl ?_
              refine n_iadd (pc := 133) hx hb dX9_linesAt_133 ?_
              refine lv_istore_n (pc := 134) (lv' := [(3, .int (nI (x + 0))), (0, .ref mo), (1, .int (nI k)), (2, .int (zb v)), (4, .int (nI i)), (5, .int (zb p)), (6, .int (zb q)), (7, .int (nI j))]) hx hb dX9_linesAt_134 rfl hl (by decide) rfl (fun ls hl => ?_)
              refine lv_iinc (pc := 135) (v := nI (i + 1)) (lv' := [(4, .int (nI (i + 1))), (3, .int (nI (x + 0))), (0, .ref mo), (1, .int (nI k)), (2, .int (zb v)), (5, .int (zb p)), (6, .int (zb q)), (7, .int (nI j))]) hx hb dX9_linesAt_135 hl (k := 4) rfl (n_inc i 1) (by decide) rfl (fun ls hl => ?_)
              refine lv_goto (pc := 138) (tgt := 5) hx hb dX9_linesAt_138 (by decide) ?_
              exact ih5 (i + 1) (x + 0) (by first | assumption | omega) (by rw [fb_ct_succ, ← hxc]; unfold slq; rw [c111, ← hpj, c116]; rfl) (by omega) _ (lv_sub hl [2, 3, 4, 1, 0] rfl)
            refine lv_iload (pc := 119) hx hb dX9_linesAt_119 (lv_at hl 6 rfl) ?_
            refine z_if_ne (pc := 121) (tgt := 128) hx hb dX9_linesAt_121 (by decide) (fun c121 => ?_) (fun c121 => ?_)
            · refine lv_iconst (pc := 128) (v := nI 1) hx hb dX9_linesAt_128 rfl ?_
              refine lv_goto (pc := 129) (tgt := 133) hx hb dX9_linesAt_129 (by decide) ?_
              refine n_iadd (pc := 133) hx hb dX9_linesAt_133 ?_
              refine lv_istore_n (pc := 134) (lv' := [(3, .int (nI (x + 1))), (0, .ref mo), (1, .int (nI k)), (2, .int (zb v)), (4, .int (nI i)), (5, .int (zb p)), (6, .int (zb q)), (7, .int (nI j))]) hx hb dX9_linesAt_134 rfl hl (by decide) rfl (fun ls hl => ?_)
              refine lv_iinc (pc := 135) (v := nI (i + 1)) (lv' := [(4, .int (nI (i + 1))), (3, .int (nI (x + 1))), (0, .ref mo), (1, .int (nI k)), (2, .int (zb v)), (5, .int (zb p)), (6, .int (zb q)), (7, .int (nI j))]) hx hb dX9_linesAt_135 hl (k := 4) rfl (n_inc i 1) (by decide) rfl (fun ls hl => ?_)
              refine lv_goto (pc := 138) (tgt := 5) hx hb dX9_linesAt_138 (by decide) ?_
              exact ih5 (i + 1) (x + 1) (by first | assumption | omega) (by rw [fb_ct_succ, ← hxc]; unfold slq; rw [c111, ← hpj, c116, ← hqj, c121]; rfl) (by omega) _ (lv_sub hl [2, 3, 4, 1, 0] rfl)
            refine lv_iload_n (pc := 124) hx hb dX9_linesAt_124 rfl (lv_at hl 2 rfl) ?_
            refine z_if_ne (pc := 125) (tgt := 132) hx hb dX9_linesAt_125 (by decide) (fun c125 => ?_) (fun c125 => ?_)
            · refine lv_iconst (pc := 132) (v := nI 0) hx hb dX9_linesAt_132 rfl ?_
              refine n_iadd (pc := 133) hx hb dX9_linesAt_133 ?_
              refine lv_istore_n (pc := 134) (lv' := [(3, .int (nI (x + 0))), (0, .ref mo), (1, .int (nI k)), (2, .int (zb v)), (4, .int (nI i)), (5, .int (zb p)), (6, .int (zb q)), (7, .int (nI j))]) hx hb dX9_linesAt_134 rfl hl (by decide) rfl (fun ls hl => ?_)
              refine lv_iinc (pc := 135) (v := nI (i + 1)) (lv' := [(4, .int (nI (i + 1))), (3, .int (nI (x + 0))), (0, .ref mo), (1, .int (nI k)), (2, .int (zb v)), (5, .int (zb p)), (6, .int (zb q)), (7, .int (nI j))]) hx hb dX9_linesAt_135 hl (k := 4) rfl (n_inc i 1) (by decide) rfl (fun ls hl => ?_)
              refine lv_goto (pc := 138) (tgt := 5) hx hb dX9_linesAt_138 (by decide) ?_
              exact ih5 (i + 1) (x + 0) (by first | assumption | omega) (by rw [fb_ct_succ, ← hxc]; unfold slq; rw [c111, ← hpj, c116, ← hqj, c121, c125]; rfl) (by omega) _ (lv_sub hl [2, 3, 4, 1, 0] rfl)
            refine lv_iconst (pc := 128) (v := nI 1) hx hb dX9_linesAt_128 rfl ?_
            refine lv_goto (pc := 129) (tgt := 133) hx hb dX9_linesAt_129 (by decide) ?_
            refine n_iadd (pc := 133) hx hb dX9_linesAt_133 ?_
            refine lv_istore_n (pc := 134) (lv' := [(3, .int (nI (x + 1))), (0, .ref mo), (1, .int (nI k)), (2, .int (zb v)), (4, .int (nI i)), (5, .int (zb p)), (6, .int (zb q)), (7, .int (nI j))]) hx hb dX9_linesAt_134 rfl hl (by decide) rfl (fun ls hl => ?_)
            refine lv_iinc (pc := 135) (v := nI (i + 1)) (lv' := [(4, .int (nI (i + 1))), (3, .int (nI (x + 1))), (0, .ref mo), (1, .int (nI k)), (2, .int (zb v)), (5, .int (zb p)), (6, .int (zb q)), (7, .int (nI j))]) hx hb dX9_linesAt_135 hl (k := 4) rfl (n_inc i 1) (by decide) rfl (fun ls hl => ?_)
            refine lv_goto (pc := 138) (tgt := 5) hx hb dX9_linesAt_138 (by decide) ?_
            exact ih5 (i + 1) (x + 1) (by first | assumption | omega) (by rw [fb_ct_succ, ← hxc]; unfold slq; rw [c111, ← hpj, c116, ← hqj, c121, c125]; rfl) (by omega) _ (lv_sub hl [2, 3, 4, 1, 0] rfl)
          refine lv_aload_n (pc := 29) hx hb dX9_linesAt_29 rfl (lv_at hl 0 rfl) ?_
          refine lv_iload (pc := 30) hx hb dX9_linesAt_30 (lv_at hl 4 rfl) ?_
          refine lv_iload (pc := 32) hx hb dX9_linesAt_32 (lv_at hl 7 rfl) ?_
          refine ro_go (pc := 34) (va_runV (As := [.int (nI i), .int (nI j)]) (rest := []) ⟨hx, hb, hml, hown, hts⟩ (c_X9_beside l D Y mo c r fs i j (hf) (hC) (by first | assumption | omega) (by first | assumption | omega)) (cwV 2 hts gX9_linesAt_X9_beside rfl rfl rfl ⟨rfl, hdX9_beside⟩ ⟨Nat.le_of_ble_eq_true rfl, Nat.le_of_ble_eq_true rfl⟩) (ro_pV hK (hP.sub [0] rfl) (ro_recv hK hP (ci := 8) (q0 := 0) rfl rfl)) rfl rfl hl.1 rfl (lv_room (Nat.le_of_ble_eq_true rfl)) dX9_linesAt_34 ⟨Nat.le_of_ble_eq_true rfl, Nat.le_of_ble_eq_true rfl⟩) ?_
          refine lv_topi (fun x34 ex34 => ?_)
          refine lv_istore (pc := 37) (lv' := [(8, .int x34), (0, .ref mo), (1, .int (nI k)), (2, .int (zb v)), (3, .int (nI x)), (4, .int (nI i)), (5, .int (zb p)), (6, .int (zb q)), (7, .int (nI j))]) hx hb dX9_linesAt_37 hl (by decide) rfl (fun ls hl => ?_)
          refine lv_iload (pc := 39) hx hb dX9_linesAt_39 (lv_at hl 6 rfl) ?_
          refine z_if_ne (pc := 41) (tgt := 61) hx hb dX9_linesAt_41 (by decide) (fun c41 => ?_) (fun c41 => ?_)
          · refine lv_iconst (pc := 61) (v := zb true) hx hb dX9_linesAt_61 rfl ?_
            refine lv_goto (pc := 62) (tgt := 66) hx hb dX9_linesAt_62 (by decide) ?_
            refine lv_istore (pc := 66) (lv' := [(5, .int (zb true)), (8, .int x34), (0, .ref mo), (1, .int (nI k)), (2, .int (zb v)), (3, .int (nI x)), (4, .int (nI i)), (6, .int (zb q)), (7, .int (nI j))]) hx hb dX9_linesAt_66 hl (by decide) rfl (fun ls hl => ?_)
            refine lv_iload (pc := 68) hx hb dX9_linesAt_68 (lv_at hl 7 rfl) ?_
            refine z_if_ne (pc := 70) (tgt := 88) hx hb dX9_linesAt_70 (by decide) (fun c70 => ?_) (fun c70 => ?_)
            · refine lv_iconst (pc := 88) (v := zb true) hx hb dX9_linesAt_88 rfl ?_
              refine lv_goto (pc := 89) (tgt := 93) hx hb dX9_linesAt_89 (by decide) ?_
              refine lv_istore (pc := 93) (lv' := [(6, .int (zb true)), (5, .int (zb true)), (8, .int x34), (0, .ref mo), (1, .int (nI k)), (2, .int (zb v)), (3, .int (nI x)), (4, .int (nI i)), (7, .int (nI j))]) hx hb dX9_linesAt_93 hl (by decide) rfl (fun ls hl => ?_)
              refine lv_iinc (pc := 95) (v := nI (j + 1)) (lv' := [(7, .int (nI (j + 1))), (6, .int (zb true)), (5, .int (zb true)), (8, .int x34), (0, .ref mo), (1, .int (nI k)), (2, .int (zb v)), (3, .int (nI x)), (4, .int (nI i))]) hx hb dX9_linesAt_95 hl (k := 8) rfl (n_inc j 1) (by decide) rfl (fun ls hl => ?_)
              refine lv_goto (pc := 98) (tgt := 23) hx hb dX9_linesAt_98 (by decide) ?_
              exact ih23 (j + 1) true true (by first | assumption | omega) (by rw [orb, ← hp9, c41]; rfl) (by rw [orb, ← hq9, c70]; rfl) (by omega) _ (lv_sub hl [4, 5, 6, 7, 8, 2, 1, 0] rfl)
            refine lv_iload (pc := 73) hx hb dX9_linesAt_73 (lv_at hl 1 rfl) ?_
            refine lv_iconst (pc := 75) (v := (-1)) hx hb dX9_linesAt_75 (by decide) ?_
            refine lv_icmp_eq (pc := 76) (tgt := 92) hx hb dX9_linesAt_76 (by decide) (fun c76 => ?_) (fun c76 => ?_)
            · have hbm := oI_none ex34 c76 (fun b h => by have := bes_lt hC c11 h; omega)
              refine lv_iconst (pc := 92) (v := zb false) hx hb dX9_linesAt_92 rfl ?_
              refine lv_istore (pc := 93) (lv' := [(6, .int (zb false)), (5, .int (zb true)), (8, .int x34), (0, .ref mo), (1, .int (nI k)), (2, .int (zb v)), (3, .int (nI x)), (4, .int (nI i)), (7, .int (nI j))]) hx hb dX9_linesAt_93 hl (by decide) rfl (fun ls hl => ?_)
              refine lv_iinc (pc := 95) (v := nI (j + 1)) (lv' := [(7, .int (nI (j + 1))), (6, .int (zb false)), (5, .int (zb true)), (8, .int x34), (0, .ref mo), (1, .int (nI k)), (2, .int (zb v)), (3, .int (nI x)), (4, .int (nI i))]) hx hb dX9_linesAt_95 hl (k := 8) rfl (n_inc j 1) (by decide) rfl (fun ls hl => ?_)
              refine lv_goto (pc := 98) (tgt := 23) hx hb dX9_linesAt_98 (by decide) ?_
              exact ih23 (j + 1) true false (by first | assumption | omega) (by rw [orb, ← hp9, c41]; rfl) (by rw [orb, ← hq9, c70, bsP_n hbm]; rfl) (by omega) _ (lv_sub hl [4, 5, 6, 7, 8, 2, 1, 0] rfl)
            obtain ⟨bc, hbc, hxb2⟩ := oI_some ex34 c76
            have hbcl := bes_lt hC c11 hbc
            subst hxb2
            have hl : lv_has ls 9 [(5, .int (zb true)), (8, .int (nI bc)), (0, .ref mo), (1, .int (nI k)), (2, .int (zb v)), (3, .int (nI x)), (4, .int (nI i)), (6, .int (zb q)), (7, .int (nI j))] := hl
            refine lv_aload_n (pc := 79) hx hb dX9_linesAt_79 rfl (lv_at hl 2 rfl) ?_
            refine lv_iload (pc := 80) hx hb dX9_linesAt_80 (lv_at hl 1 rfl) ?_
            refine ro_go (pc := 82) (va_runV (As := [.int (nI bc)]) (rest := []) ⟨hx, hb, hml, hown, hts⟩ (c_X9_isThin l D Y mo c r fs w bc (hf) (hC) (hf3) (hbcl)) (cwV 1 hts gX9_linesAt_X9_isThin rfl rfl rfl ⟨rfl, hdX9_isThin⟩ ⟨Nat.le_of_ble_eq_true rfl, Nat.le_of_ble_eq_true rfl⟩) (ro_pV hK (hP.sub [0] rfl) (ro_recv hK hP (ci := 8) (q0 := 0) rfl rfl)) rfl rfl hl.1 rfl (lv_room (Nat.le_of_ble_eq_true rfl)) dX9_linesAt_82 ⟨Nat.le_of_ble_eq_true rfl, Nat.le_of_ble_eq_true rfl⟩) ?_
            refine z_if_ne (pc := 85) (tgt := 92) hx hb dX9_linesAt_85 (by decide) (fun c85 => ?_) (fun c85 => ?_)
            · refine lv_iconst (pc := 92) (v := zb false) hx hb dX9_linesAt_92 rfl ?_
              refine lv_istore (pc := 93) (lv' := [(6, .int (zb false)), (5, .int (zb true)), (8, .int (nI bc)), (0, .ref mo), (1, .int (nI k)), (2, .int (zb v)), (3, .int (nI x)), (4, .int (nI i)), (7, .int (nI j))]) hx hb dX9_linesAt_93 hl (by decide) rfl (fun ls hl => ?_)
              refine lv_iinc (pc := 95) (v := nI (j + 1)) (lv' := [(7, .int (nI (j + 1))), (6, .int (zb false)), (5, .int (zb true)), (8, .int (nI bc)), (0, .ref mo), (1, .int (nI k)), (2, .int (zb v)), (3, .int (nI x)), (4, .int (nI i))]) hx hb dX9_linesAt_95 hl (k := 8) rfl (n_inc j 1) (by decide) rfl (fun ls hl => ?_)
              refine lv_goto (pc := 98) (tgt := 23) hx hb dX9_linesAt_98 (by decide) ?_
              exact ih23 (j + 1) true false (by first | assumption | omega) (by rw [orb, ← hp9, c41]; rfl) (by rw [orb, ← hq9, c70, bsP_s hbc, c85]; rfl) (by omega) _ (lv_sub hl [4, 5, 6, 7, 8, 2, 1, 0] rfl)
            refine lv_iconst (pc := 88) (v := zb true) hx hb dX9_linesAt_88 rfl ?_
            refine lv_goto (pc := 89) (tgt := 93) hx hb dX9_linesAt_89 (by decide) ?_
            refine lv_istore (pc := 93) (lv' := [(6, .int (zb true)), (5, .int (zb true)), (8, .int (nI bc)), (0, .ref mo), (1, .int (nI k)), (2, .int (zb v)), (3, .int (nI x)), (4, .int (nI i)), (7, .int (nI j))]) hx hb dX9_linesAt_93 hl (by decide) rfl (fun ls hl => ?_)
            refine lv_iinc (pc := 95) (v := nI (j + 1)) (lv' := [(7, .int (nI (j + 1))), (6, .int (zb true)), (5, .int (zb true)), (8, .int (nI bc)), (0, .ref mo), (1, .int (nI k)), (2, .int (zb v)), (3, .int (nI x)), (4, .int (nI i))]) hx hb dX9_linesAt_95 hl (k := 8) rfl (n_inc j 1) (by decide) rfl (fun ls hl => ?_)
            refine lv_goto (pc := 98) (tgt := 23) hx hb dX9_linesAt_98 (by decide) ?_
            exact ih23 (j + 1) true true (by first | assumption | omega) (by rw [orb, ← hp9, c41]; rfl) (by rw [orb, ← hq9, c70, bsP_s hbc, c85]; rfl) (by omega) _ (lv_sub hl [4, 5, 6, 7, 8, 2, 1, 0] rfl)
          refine lv_iload (pc := 44) hx hb dX9_linesAt_44 (lv_at hl 0 rfl) ?_
          refine lv_iconst (pc := 46) (v := (-1)) hx hb dX9_linesAt_46 (by decide) ?_
          refine lv_icmp_eq (pc := 47) (tgt := 65) hx hb dX9_linesAt_47 (by decide) (fun c47 => ?_) (fun c47 => ?_)
          · have hbn := oI_none ex34 c47 (fun b h => by have := bes_lt hC c11 h; omega)
            refine lv_iconst (pc := 65) (v := zb false) hx hb dX9_linesAt_65 rfl ?_
            refine lv_istore (pc := 66) (lv' := [(5, .int (zb false)), (8, .int x34), (0, .ref mo), (1, .int (nI k)), (2, .int (zb v)), (3, .int (nI x)), (4, .int (nI i)), (6, .int (zb q)), (7, .int (nI j))]) hx hb dX9_linesAt_66 hl (by decide) rfl (fun ls hl => ?_)
            refine lv_iload (pc := 68) hx hb dX9_linesAt_68 (lv_at hl 7 rfl) ?_
            refine z_if_ne (pc := 70) (tgt := 88) hx hb dX9_linesAt_70 (by decide) (fun c70 => ?_) (fun c70 => ?_)
            · refine lv_iconst (pc := 88) (v := zb true) hx hb dX9_linesAt_88 rfl ?_
              refine lv_goto (pc := 89) (tgt := 93) hx hb dX9_linesAt_89 (by decide) ?_
              refine lv_istore (pc := 93) (lv' := [(6, .int (zb true)), (5, .int (zb false)), (8, .int x34), (0, .ref mo), (1, .int (nI k)), (2, .int (zb v)), (3, .int (nI x)), (4, .int (nI i)), (7, .int (nI j))]) hx hb dX9_linesAt_93 hl (by decide) rfl (fun ls hl => ?_)
              refine lv_iinc (pc := 95) (v := nI (j + 1)) (lv' := [(7, .int (nI (j + 1))), (6, .int (zb true)), (5, .int (zb false)), (8, .int x34), (0, .ref mo), (1, .int (nI k)), (2, .int (zb v)), (3, .int (nI x)), (4, .int (nI i))]) hx hb dX9_linesAt_95 hl (k := 8) rfl (n_inc j 1) (by decide) rfl (fun ls hl => ?_)
              refine lv_goto (pc := 98) (tgt := 23) hx hb dX9_linesAt_98 (by decide) ?_
              exact ih23 (j + 1) false true (by first | assumption | omega) (by rw [orb, ← hp9, c41, bsP_n hbn]; rfl) (by rw [orb, ← hq9, c70]; rfl) (by omega) _ (lv_sub hl [4, 5, 6, 7, 8, 2, 1, 0] rfl)
            refine lv_iload (pc := 73) hx hb dX9_linesAt_73 (lv_at hl 1 rfl) ?_
            refine lv_iconst (pc := 75) (v := (-1)) hx hb dX9_linesAt_75 (by decide) ?_
            refine lv_icmp_eq (pc := 76) (tgt := 92) hx hb dX9_linesAt_76 (by decide) (fun c76 => ?_) (fun c76 => ?_)
            · have hbm := oI_none ex34 c76 (fun b h => by have := bes_lt hC c11 h; omega)
              refine lv_iconst (pc := 92) (v := zb false) hx hb dX9_linesAt_92 rfl ?_
              refine lv_istore (pc := 93) (lv' := [(6, .int (zb false)), (5, .int (zb false)), (8, .int x34), (0, .ref mo), (1, .int (nI k)), (2, .int (zb v)), (3, .int (nI x)), (4, .int (nI i)), (7, .int (nI j))]) hx hb dX9_linesAt_93 hl (by decide) rfl (fun ls hl => ?_)
              refine lv_iinc (pc := 95) (v := nI (j + 1)) (lv' := [(7, .int (nI (j + 1))), (6, .int (zb false)), (5, .int (zb false)), (8, .int x34), (0, .ref mo), (1, .int (nI k)), (2, .int (zb v)), (3, .int (nI x)), (4, .int (nI i))]) hx hb dX9_linesAt_95 hl (k := 8) rfl (n_inc j 1) (by decide) rfl (fun ls hl => ?_)
              refine lv_goto (pc := 98) (tgt := 23) hx hb dX9_linesAt_98 (by decide) ?_
              exact ih23 (j + 1) false false (by first | assumption | omega) (by rw [orb, ← hp9, c41, bsP_n hbn]; rfl) (by rw [orb, ← hq9, c70, bsP_n hbm]; rfl) (by omega) _ (lv_sub hl [4, 5, 6, 7, 8, 2, 1, 0] rfl)
            · exact absurd c47 c76
          obtain ⟨bb, hbb, hxb⟩ := oI_some ex34 c47
          have hbbl := bes_lt hC c11 hbb
          subst hxb
          have hl : lv_has ls 9 [(8, .int (nI bb)), (0, .ref mo), (1, .int (nI k)), (2, .int (zb v)), (3, .int (nI x)), (4, .int (nI i)), (5, .int (zb p)), (6, .int (zb q)), (7, .int (nI j))] := hl
          refine lv_aload_n (pc := 50) hx hb dX9_linesAt_50 rfl (lv_at hl 1 rfl) ?_
          refine va_get (pc := 51) (D := D) (ci := 8) (v := .ref aSA) (C := RX9) (T := TX9) (N := 25) hx hb hts hinX9 hown hK.1 hP 0 rfl rfl 12 (by decide) (hts (.fieldLink RX9 29 "BoxesGameModel" "stringAt" "[I") (List.mem_of_getElem? (i := 1) rfl)) (fun _ h9 => h9) hf12 dX9_linesAt_51 ?_
          refine lv_iload (pc := 54) hx hb dX9_linesAt_54 (lv_at hl 0 rfl) ?_
          refine va_iald (pc := 56) hx hb hK.1 hP 1 0 rfl rfl (vp_in_nI (by omega) (by decide)) dX9_linesAt_56 ?_
          refine top_i (show sa (nI bb).toNatClampNeg = sa bb from by rw [nI_clamp (by omega)]) ?_
          refine lv_iload_n (pc := 57) hx hb dX9_linesAt_57 rfl (lv_at hl 2 rfl) ?_
          refine lv_icmp_ne (pc := 58) (tgt := 65) hx hb dX9_linesAt_58 (by decide) (fun c58 => ?_) (fun c58 => ?_)
          · have hin : inS c r w k bb = false := Bool.eq_false_iff.mpr (fun q => c58 ((sa_k hC hnu hbbl hk31).mpr q))
            refine lv_iconst (pc := 65) (v := zb false) hx hb dX9_linesAt_65 rfl ?_
            refine lv_istore (pc := 66) (lv' := [(5, .int (zb false)), (8, .int (nI bb)), (0, .ref mo), (1, .int (nI k)), (2, .int (zb v)), (3, .int (nI x)), (4, .int (nI i)), (6, .int (zb q)), (7, .int (nI j))]) hx hb dX9_linesAt_66 hl (by decide) rfl (fun ls hl => ?_)
            refine lv_iload (pc := 68) hx hb dX9_linesAt_68 (lv_at hl 7 rfl) ?_
            refine z_if_ne (pc := 70) (tgt := 88) hx hb dX9_linesAt_70 (by decide) (fun c70 => ?_) (fun c70 => ?_)
            · refine lv_iconst (pc := 88) (v := zb true) hx hb dX9_linesAt_88 rfl ?_
              refine lv_goto (pc := 89) (tgt := 93) hx hb dX9_linesAt_89 (by decide) ?_
              refine lv_istore (pc := 93) (lv' := [(6, .int (zb true)), (5, .int (zb false)), (8, .int (nI bb)), (0, .ref mo), (1, .int (nI k)), (2, .int (zb v)), (3, .int (nI x)), (4, .int (nI i)), (7, .int (nI j))]) hx hb dX9_linesAt_93 hl (by decide) rfl (fun ls hl => ?_)
              refine lv_iinc (pc := 95) (v := nI (j + 1)) (lv' := [(7, .int (nI (j + 1))), (6, .int (zb true)), (5, .int (zb false)), (8, .int (nI bb)), (0, .ref mo), (1, .int (nI k)), (2, .int (zb v)), (3, .int (nI x)), (4, .int (nI i))]) hx hb dX9_linesAt_95 hl (k := 8) rfl (n_inc j 1) (by decide) rfl (fun ls hl => ?_)
              refine lv_goto (pc := 98) (tgt := 23) hx hb dX9_linesAt_98 (by decide) ?_
              exact ih23 (j + 1) false true (by first | assumption | omega) (by rw [orb, ← hp9, c41, bsP_s hbb, hin]; rfl) (by rw [orb, ← hq9, c70]; rfl) (by omega) _ (lv_sub hl [4, 5, 6, 7, 8, 2, 1, 0] rfl)
            refine lv_iload (pc := 73) hx hb dX9_linesAt_73 (lv_at hl 1 rfl) ?_
            refine lv_iconst (pc := 75) (v := (-1)) hx hb dX9_linesAt_75 (by decide) ?_
            refine lv_icmp_eq (pc := 76) (tgt := 92) hx hb dX9_linesAt_76 (by decide) (fun c76 => ?_) (fun c76 => ?_)
            · exact absurd c76 (nI_nm1 (by omega))
            have hbc := hbb
            have hbcl := hbbl
            refine lv_aload_n (pc := 79) hx hb dX9_linesAt_79 rfl (lv_at hl 2 rfl) ?_
            refine lv_iload (pc := 80) hx hb dX9_linesAt_80 (lv_at hl 1 rfl) ?_
            refine ro_go (pc := 82) (va_runV (As := [.int (nI bb)]) (rest := []) ⟨hx, hb, hml, hown, hts⟩ (c_X9_isThin l D Y mo c r fs w bb (hf) (hC) (hf3) (hbcl)) (cwV 1 hts gX9_linesAt_X9_isThin rfl rfl rfl ⟨rfl, hdX9_isThin⟩ ⟨Nat.le_of_ble_eq_true rfl, Nat.le_of_ble_eq_true rfl⟩) (ro_pV hK (hP.sub [0] rfl) (ro_recv hK hP (ci := 8) (q0 := 0) rfl rfl)) rfl rfl hl.1 rfl (lv_room (Nat.le_of_ble_eq_true rfl)) dX9_linesAt_82 ⟨Nat.le_of_ble_eq_true rfl, Nat.le_of_ble_eq_true rfl⟩) ?_
            refine z_if_ne (pc := 85) (tgt := 92) hx hb dX9_linesAt_85 (by decide) (fun c85 => ?_) (fun c85 => ?_)
            · refine lv_iconst (pc := 92) (v := zb false) hx hb dX9_linesAt_92 rfl ?_
              refine lv_istore (pc := 93) (lv' := [(6, .int (zb false)), (5, .int (zb false)), (8, .int (nI bb)), (0, .ref mo), (1, .int (nI k)), (2, .int (zb v)), (3, .int (nI x)), (4, .int (nI i)), (7, .int (nI j))]) hx hb dX9_linesAt_93 hl (by decide) rfl (fun ls hl => ?_)
              refine lv_iinc (pc := 95) (v := nI (j + 1)) (lv' := [(7, .int (nI (j + 1))), (6, .int (zb false)), (5, .int (zb false)), (8, .int (nI bb)), (0, .ref mo), (1, .int (nI k)), (2, .int (zb v)), (3, .int (nI x)), (4, .int (nI i))]) hx hb dX9_linesAt_95 hl (k := 8) rfl (n_inc j 1) (by decide) rfl (fun ls hl => ?_)
              refine lv_goto (pc := 98) (tgt := 23) hx hb dX9_linesAt_98 (by decide) ?_
              exact ih23 (j + 1) false false (by first | assumption | omega) (by rw [orb, ← hp9, c41, bsP_s hbb, hin]; rfl) (by rw [orb, ← hq9, c70, bsP_s hbc, c85]; rfl) (by omega) _ (lv_sub hl [4, 5, 6, 7, 8, 2, 1, 0] rfl)
            refine lv_iconst (pc := 88) (v := zb true) hx hb dX9_linesAt_88 rfl ?_
            refine lv_goto (pc := 89) (tgt := 93) hx hb dX9_linesAt_89 (by decide) ?_
            refine lv_istore (pc := 93) (lv' := [(6, .int (zb true)), (5, .int (zb false)), (8, .int (nI bb)), (0, .ref mo), (1, .int (nI k)), (2, .int (zb v)), (3, .int (nI x)), (4, .int (nI i)), (7, .int (nI j))]) hx hb dX9_linesAt_93 hl (by decide) rfl (fun ls hl => ?_)
            refine lv_iinc (pc := 95) (v := nI (j + 1)) (lv' := [(7, .int (nI (j + 1))), (6, .int (zb true)), (5, .int (zb false)), (8, .int (nI bb)), (0, .ref mo), (1, .int (nI k)), (2, .int (zb v)), (3, .int (nI x)), (4, .int (nI i))]) hx hb dX9_linesAt_95 hl (k := 8) rfl (n_inc j 1) (by decide) rfl (fun ls hl => ?_)
            refine lv_goto (pc := 98) (tgt := 23) hx hb dX9_linesAt_98 (by decide) ?_
            exact ih23 (j + 1) false true (by first | assumption | omega) (by rw [orb, ← hp9, c41, bsP_s hbb, hin]; rfl) (by rw [orb, ← hq9, c70, bsP_s hbc, c85]; rfl) (by omega) _ (lv_sub hl [4, 5, 6, 7, 8, 2, 1, 0] rfl)
          have hin : inS c r w k bb = true := (sa_k hC hnu hbbl hk31).mp c58
          refine lv_iconst (pc := 61) (v := zb true) hx hb dX9_linesAt_61 rfl ?_
          refine lv_goto (pc := 62) (tgt := 66) hx hb dX9_linesAt_62 (by decide) ?_
          refine lv_istore (pc := 66) (lv' := [(5, .int (zb true)), (8, .int (nI bb)), (0, .ref mo), (1, .int (nI k)), (2, .int (zb v)), (3, .int (nI x)), (4, .int (nI i)), (6, .int (zb q)), (7, .int (nI j))]) hx hb dX9_linesAt_66 hl (by decide) rfl (fun ls hl => ?_)
          refine lv_iload (pc := 68) hx hb dX9_linesAt_68 (lv_at hl 7 rfl) ?_
          refine z_if_ne (pc := 70) (tgt := 88) hx hb dX9_linesAt_70 (by decide) (fun c70 => ?_) (fun c70 => ?_)
          · refine lv_iconst (pc := 88) (v := zb true) hx hb dX9_linesAt_88 rfl ?_
            refine lv_goto (pc := 89) (tgt := 93) hx hb dX9_linesAt_89 (by decide) ?_
            refine lv_istore (pc := 93) (lv' := [(6, .int (zb true)), (5, .int (zb true)), (8, .int (nI bb)), (0, .ref mo), (1, .int (nI k)), (2, .int (zb v)), (3, .int (nI x)), (4, .int (nI i)), (7, .int (nI j))]) hx hb dX9_linesAt_93 hl (by decide) rfl (fun ls hl => ?_)
            refine lv_iinc (pc := 95) (v := nI (j + 1)) (lv' := [(7, .int (nI (j + 1))), (6, .int (zb true)), (5, .int (zb true)), (8, .int (nI bb)), (0, .ref mo), (1, .int (nI k)), (2, .int (zb v)), (3, .int (nI x)), (4, .int (nI i))]) hx hb dX9_linesAt_95 hl (k := 8) rfl (n_inc j 1) (by decide) rfl (fun ls hl => ?_)
            refine lv_goto (pc := 98) (tgt := 23) hx hb dX9_linesAt_98 (by decide) ?_
            exact ih23 (j + 1) true true (by first | assumption | omega) (by rw [orb, ← hp9, c41, bsP_s hbb, hin]; rfl) (by rw [orb, ← hq9, c70]; rfl) (by omega) _ (lv_sub hl [4, 5, 6, 7, 8, 2, 1, 0] rfl)
          refine lv_iload (pc := 73) hx hb dX9_linesAt_73 (lv_at hl 1 rfl) ?_
          refine lv_iconst (pc := 75) (v := (-1)) hx hb dX9_linesAt_75 (by decide) ?_
          refine lv_icmp_eq (pc := 76) (tgt := 92) hx hb dX9_linesAt_76 (by decide) (fun c76 => ?_) (fun c76 => ?_)
          · exact absurd c76 (nI_nm1 (by omega))
          have hbc := hbb
          have hbcl := hbbl
          refine lv_aload_n (pc := 79) hx hb dX9_linesAt_79 rfl (lv_at hl 2 rfl) ?_
          refine lv_iload (pc := 80) hx hb dX9_linesAt_80 (lv_at hl 1 rfl) ?_
          refine ro_go (pc := 82) (va_runV (As := [.int (nI bb)]) (rest := []) ⟨hx, hb, hml, hown, hts⟩ (c_X9_isThin l D Y mo c r fs w bb (hf) (hC) (hf3) (hbcl)) (cwV 1 hts gX9_linesAt_X9_isThin rfl rfl rfl ⟨rfl, hdX9_isThin⟩ ⟨Nat.le_of_ble_eq_true rfl, Nat.le_of_ble_eq_true rfl⟩) (ro_pV hK (hP.sub [0] rfl) (ro_recv hK hP (ci := 8) (q0 := 0) rfl rfl)) rfl rfl hl.1 rfl (lv_room (Nat.le_of_ble_eq_true rfl)) dX9_linesAt_82 ⟨Nat.le_of_ble_eq_true rfl, Nat.le_of_ble_eq_true rfl⟩) ?_
          refine z_if_ne (pc := 85) (tgt := 92) hx hb dX9_linesAt_85 (by decide) (fun c85 => ?_) (fun c85 => ?_)
          · refine lv_iconst (pc := 92) (v := zb false) hx hb dX9_linesAt_92 rfl ?_
            refine lv_istore (pc := 93) (lv' := [(6, .int (zb false)), (5, .int (zb true)), (8, .int (nI bb)), (0, .ref mo), (1, .int (nI k)), (2, .int (zb v)), (3, .int (nI x)), (4, .int (nI i)), (7, .int (nI j))]) hx hb dX9_linesAt_93 hl (by decide) rfl (fun ls hl => ?_)
            refine lv_iinc (pc := 95) (v := nI (j + 1)) (lv' := [(7, .int (nI (j + 1))), (6, .int (zb false)), (5, .int (zb true)), (8, .int (nI bb)), (0, .ref mo), (1, .int (nI k)), (2, .int (zb v)), (3, .int (nI x)), (4, .int (nI i))]) hx hb dX9_linesAt_95 hl (k := 8) rfl (n_inc j 1) (by decide) rfl (fun ls hl => ?_)
            refine lv_goto (pc := 98) (tgt := 23) hx hb dX9_linesAt_98 (by decide) ?_
            exact ih23 (j + 1) true false (by first | assumption | omega) (by rw [orb, ← hp9, c41, bsP_s hbb, hin]; rfl) (by rw [orb, ← hq9, c70, bsP_s hbc, c85]; rfl) (by omega) _ (lv_sub hl [4, 5, 6, 7, 8, 2, 1, 0] rfl)
          refine lv_iconst (pc := 88) (v := zb true) hx hb dX9_linesAt_88 rfl ?_
          refine lv_goto (pc := 89) (tgt := 93) hx hb dX9_linesAt_89 (by decide) ?_
          refine lv_istore (pc := 93) (lv' := [(6, .int (zb true)), (5, .int (zb true)), (8, .int (nI bb)), (0, .ref mo), (1, .int (nI k)), (2, .int (zb v)), (3, .int (nI x)), (4, .int (nI i)), (7, .int (nI j))]) hx hb dX9_linesAt_93 hl (by decide) rfl (fun ls hl => ?_)
          refine lv_iinc (pc := 95) (v := nI (j + 1)) (lv' := [(7, .int (nI (j + 1))), (6, .int (zb true)), (5, .int (zb true)), (8, .int (nI bb)), (0, .ref mo), (1, .int (nI k)), (2, .int (zb v)), (3, .int (nI x)), (4, .int (nI i))]) hx hb dX9_linesAt_95 hl (k := 8) rfl (n_inc j 1) (by decide) rfl (fun ls hl => ?_)
          refine lv_goto (pc := 98) (tgt := 23) hx hb dX9_linesAt_98 (by decide) ?_
          exact ih23 (j + 1) true true (by first | assumption | omega) (by rw [orb, ← hp9, c41, bsP_s hbb, hin]; rfl) (by rw [orb, ← hq9, c70, bsP_s hbc, c85]; rfl) (by omega) _ (lv_sub hl [4, 5, 6, 7, 8, 2, 1, 0] rfl)
      exact L23 ((2 - 0) + 1) 0 false false (by first | assumption | omega) (rfl) (rfl) (Nat.lt_succ_self _) _ (lv_sub hl [3, 4, 5, 6, 7, 2, 1, 0] rfl)
  exact L5 ((al c r - 0) + 1) 0 0 (by first | assumption | omega) (rfl) (Nat.lt_succ_self _) _ (lv_sub hl [2, 3, 4, 1, 0] rfl)
