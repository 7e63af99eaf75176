set_option maxHeartbeats 1200000 in
set_option maxRecDepth 100000 in
theorem c_L_at (l : Launch) (D : va_G) (Y : vY) (x : Int32) (n : Nat) (hn0 : 0 < n) (hn1 : n < 2 ^ 31) : Ro l yL_at wsL_at ({ frames := 0, cells := 0, slots := 0, locals := 0 } : Room) [.int x, .int (nI n)] D Y [] (some (.int (nI (atV x n)))) := by
  refine ro_intro (by decide +kernel) rfl (Nat.le_of_ble_eq_true rfl) [(0, .int x), (1, .int (nI n))] rfl ?_
  intro pG eG sG mG aG bG tG cG ls hx hb hr hml hts hown hlocks hK hP hl
  have hP : va_P D vwCl [] sG.heap := hP
  have hown : sG.vm.findClass RL = some mG.cls := hown
  have hl : lv_has ls 2 [(0, .int x), (1, .int (nI n))] := hl
  refine lv_iload_n (pc := 0) hx hb dL_at_0 rfl (lv_at hl 0 rfl) ?_
  refine lv_iconst (pc := 1) (v := nI 1) hx hb dL_at_1 rfl ?_
  refine lv_iushr (pc := 2) (v := nI (x.toBitVec.toNat / 2)) hx hb dL_at_2 (iush1 x) ?_
  refine lv_iload_n (pc := 3) hx hb dL_at_3 rfl (lv_at hl 1 rfl) ?_
  refine n_irem (pc := 4) hx hb (u32_lt x) (hn0) (hn1) dL_at_4 ?_
  exact ro_iret (v := nI ((x.toBitVec.toNat / 2) % n)) hx hb hr hlocks (rfl) dL_at_5

set_option maxHeartbeats 1200000 in
set_option maxRecDepth 100000 in
theorem c_L_has (l : Launch) (D : va_G) (Y : vY) (w : Int64) (k : Nat) (hk : k < 64) : Ro l yL_has wsL_has ({ frames := 0, cells := 0, slots := 0, locals := 0 } : Room) [.long w, .int (nI k)] D Y [] (some (.int (zb (tb w k)))) := by
  refine ro_intro (by decide +kernel) rfl (Nat.le_of_ble_eq_true rfl) [(0, .long w), (2, .int (nI k))] rfl ?_
  intro pG eG sG mG aG bG tG cG ls hx hb hr hml hts hown hlocks hK hP hl
  have hP : va_P D vwCl [] sG.heap := hP
  have hown : sG.vm.findClass RL = some mG.cls := hown
  have hl : lv_has ls 3 [(0, .long w), (2, .int (nI k))] := hl
  refine lv_lload_n (pc := 0) hx hb dL_has_0 rfl (lv_at hl 0 rfl) ?_
  refine lv_iload_n (pc := 1) hx hb dL_has_1 rfl (lv_at hl 1 rfl) ?_
  refine lv_lushr (pc := 2) hx hb dL_has_2 rfl ?_
  refine lv_lconst (pc := 3) (v := 1) hx hb dL_has_3 (by decide) ?_
  refine lv_land (pc := 4) hx hb dL_has_4 ?_
  refine lv_lconst (pc := 5) (v := 1) hx hb dL_has_5 (by decide) ?_
  refine W.lcmp (pc := 6) hx hb dL_has_6 ?_
  refine lc_if_ne (pc := 7) (tgt := 14) hx hb dL_has_7 (by decide) (fun c7 => ?_) (fun c7 => ?_)
  · refine lv_iconst (pc := 14) (v := nI 0) hx hb dL_has_14 rfl ?_
    exact ro_zret hx hb hr hlocks (zb_0 (by first | exact (has_u hk).mp c7 | exact Bool.eq_false_iff.mpr (fun q => c7 ((has_u hk).mpr q)))) dL_has_15
  refine lv_iconst (pc := 10) (v := nI 1) hx hb dL_has_10 rfl ?_
  refine lv_goto (pc := 11) (tgt := 15) hx hb dL_has_11 (by decide) ?_
  exact ro_zret hx hb hr hlocks (zb_1 (by first | exact (has_u hk).mp c7 | exact Bool.eq_false_iff.mpr (fun q => c7 ((has_u hk).mpr q)))) dL_has_15

set_option maxHeartbeats 1200000 in
set_option maxRecDepth 100000 in
theorem c_L_lines (l : Launch) (D : va_G) (Y : vY) (dd : Nat) (c : Nat) (r : Nat) (dx : Int32) (dy : Int32) (hC : Cr c r) : Ro l yL_lines wsL_lines ({ frames := 0, cells := 0, slots := 0, locals := 0 } : Room) [.ref dd] D Y [(dd, .inl (Y.1, 4, .inl (dF (nI c) (nI r) dx dy)))] (some (.int (nI (al c r)))) := by
  refine ro_intro (by decide +kernel) rfl (Nat.le_of_ble_eq_true rfl) [(0, .ref dd)] rfl ?_
  intro pG eG sG mG aG bG tG cG ls hx hb hr hml hts hown hlocks hK hP hl
  have hP : va_P D vwCl [(dd, .inl (Y.1, 4, .inl (dF (nI c) (nI r) dx dy)))] sG.heap := hP
  have hown : sG.vm.findClass RL = some mG.cls := hown
  have hl : lv_has ls 1 [(0, .ref dd)] := hl
  obtain ⟨hq1, hq2, hq3, hq4, hq5, hq6, hq7, hq8, hq9, hq10, hq11⟩ := hC.q
  refine lv_aload_n (pc := 0) hx hb dL_lines_0 rfl (lv_at hl 0 rfl) ?_
  refine lv_iconst (pc := 1) (v := nI 0) hx hb dL_lines_1 rfl ?_
  refine va_iald (pc := 2) hx hb hK.1 hP 0 0 rfl rfl (vp_in_nI (by omega) (by decide)) dL_lines_2 ?_
  refine top_i (show (dF (nI c) (nI r) dx dy) (nI 0).toNatClampNeg = nI c from by rw [nI_clamp (by decide)]; rfl) ?_
  refine lv_aload_n (pc := 3) hx hb dL_lines_3 rfl (lv_at hl 0 rfl) ?_
  refine lv_iconst (pc := 4) (v := nI 1) hx hb dL_lines_4 rfl ?_
  refine va_iald (pc := 5) hx hb hK.1 hP 0 0 rfl rfl (vp_in_nI (by omega) (by decide)) dL_lines_5 ?_
  refine top_i (show (dF (nI c) (nI r) dx dy) (nI 1).toNatClampNeg = nI r from by rw [nI_clamp (by decide)]; rfl) ?_
  refine lv_iconst (pc := 6) (v := nI 1) hx hb dL_lines_6 rfl ?_
  refine n_iadd (pc := 7) hx hb dL_lines_7 ?_
  refine n_imul (pc := 8) hx hb dL_lines_8 ?_
  refine lv_aload_n (pc := 9) hx hb dL_lines_9 rfl (lv_at hl 0 rfl) ?_
  refine lv_iconst (pc := 10) (v := nI 0) hx hb dL_lines_10 rfl ?_
  refine va_iald (pc := 11) hx hb hK.1 hP 0 0 rfl rfl (vp_in_nI (by omega) (by decide)) dL_lines_11 ?_
  refine top_i (show (dF (nI c) (nI r) dx dy) (nI 0).toNatClampNeg = nI c from by rw [nI_clamp (by decide)]; rfl) ?_
  refine lv_iconst (pc := 12) (v := nI 1) hx hb dL_lines_12 rfl ?_
  refine n_iadd (pc := 13) hx hb dL_lines_13 ?_
  refine lv_aload_n (pc := 14) hx hb dL_lines_14 rfl (lv_at hl 0 rfl) ?_
  refine lv_iconst (pc := 15) (v := nI 1) hx hb dL_lines_15 rfl ?_
  refine va_iald (pc := 16) hx hb hK.1 hP 0 0 rfl rfl (vp_in_nI (by omega) (by decide)) dL_lines_16 ?_
  refine top_i (show (dF (nI c) (nI r) dx dy) (nI 1).toNatClampNeg = nI r from by rw [nI_clamp (by decide)]; rfl) ?_
  refine n_imul (pc := 17) hx hb dL_lines_17 ?_
  refine n_iadd (pc := 18) hx hb dL_lines_18 ?_
  exact ro_iret (v := nI ((c * (r + 1)) + ((c + 1) * r))) hx hb hr hlocks (by rw [al_L]) dL_lines_19

set_option maxHeartbeats 1200000 in
set_option maxRecDepth 100000 in
theorem c_L_flat (l : Launch) (D : va_G) (Y : vY) (dd : Nat) (c : Nat) (r : Nat) (dx : Int32) (dy : Int32) (x : Nat) (y : Nat) (hC : Cr c r) : Ro l yL_flat wsL_flat ({ frames := 0, cells := 0, slots := 0, locals := 0 } : Room) [.ref dd, .int (nI x), .int (nI y)] D Y [(dd, .inl (Y.1, 4, .inl (dF (nI c) (nI r) dx dy)))] (some (.int (nI (c * y + x)))) := by
  refine ro_intro (by decide +kernel) rfl (Nat.le_of_ble_eq_true rfl) [(0, .ref dd), (1, .int (nI x)), (2, .int (nI y))] rfl ?_
  intro pG eG sG mG aG bG tG cG ls hx hb hr hml hts hown hlocks hK hP hl
  have hP : va_P D vwCl [(dd, .inl (Y.1, 4, .inl (dF (nI c) (nI r) dx dy)))] sG.heap := hP
  have hown : sG.vm.findClass RL = some mG.cls := hown
  have hl : lv_has ls 3 [(0, .ref dd), (1, .int (nI x)), (2, .int (nI y))] := hl
  obtain ⟨hq1, hq2, hq3, hq4, hq5, hq6, hq7, hq8, hq9, hq10, hq11⟩ := hC.q
  refine lv_aload_n (pc := 0) hx hb dL_flat_0 rfl (lv_at hl 0 rfl) ?_
  refine lv_iconst (pc := 1) (v := nI 0) hx hb dL_flat_1 rfl ?_
  refine va_iald (pc := 2) hx hb hK.1 hP 0 0 rfl rfl (vp_in_nI (by omega) (by decide)) dL_flat_2 ?_
  refine top_i (show (dF (nI c) (nI r) dx dy) (nI 0).toNatClampNeg = nI c from by rw [nI_clamp (by decide)]; rfl) ?_
  refine lv_iload_n (pc := 3) hx hb dL_flat_3 rfl (lv_at hl 2 rfl) ?_
  refine n_imul (pc := 4) hx hb dL_flat_4 ?_
  refine lv_iload_n (pc := 5) hx hb dL_flat_5 rfl (lv_at hl 1 rfl) ?_
  refine n_iadd (pc := 6) hx hb dL_flat_6 ?_
  exact ro_iret (v := nI ((c * y) + x)) hx hb hr hlocks (rfl) dL_flat_7

set_option maxHeartbeats 1200000 in
set_option maxRecDepth 100000 in
theorem c_L_upright (l : Launch) (D : va_G) (Y : vY) (dd : Nat) (c : Nat) (r : Nat) (dx : Int32) (dy : Int32) (x : Nat) (y : Nat) (hC : Cr c r) : Ro l yL_upright wsL_upright ({ frames := 0, cells := 0, slots := 0, locals := 0 } : Room) [.ref dd, .int (nI x), .int (nI y)] D Y [(dd, .inl (Y.1, 4, .inl (dF (nI c) (nI r) dx dy)))] (some (.int (nI (c * (r + 1) + (c + 1) * y + x)))) := by
  refine ro_intro (by decide +kernel) rfl (Nat.le_of_ble_eq_true rfl) [(0, .ref dd), (1, .int (nI x)), (2, .int (nI y))] rfl ?_
  intro pG eG sG mG aG bG tG cG ls hx hb hr hml hts hown hlocks hK hP hl
  have hP : va_P D vwCl [(dd, .inl (Y.1, 4, .inl (dF (nI c) (nI r) dx dy)))] sG.heap := hP
  have hown : sG.vm.findClass RL = some mG.cls := hown
  have hl : lv_has ls 3 [(0, .ref dd), (1, .int (nI x)), (2, .int (nI y))] := hl
  obtain ⟨hq1, hq2, hq3, hq4, hq5, hq6, hq7, hq8, hq9, hq10, hq11⟩ := hC.q
  refine lv_aload_n (pc := 0) hx hb dL_upright_0 rfl (lv_at hl 0 rfl) ?_
  refine lv_iconst (pc := 1) (v := nI 0) hx hb dL_upright_1 rfl ?_
  refine va_iald (pc := 2) hx hb hK.1 hP 0 0 rfl rfl (vp_in_nI (by omega) (by decide)) dL_upright_2 ?_
  refine top_i (show (dF (nI c) (nI r) dx dy) (nI 0).toNatClampNeg = nI c from by rw [nI_clamp (by decide)]; rfl) ?_
  refine lv_aload_n (pc := 3) hx hb dL_upright_3 rfl (lv_at hl 0 rfl) ?_
  refine lv_iconst (pc := 4) (v := nI 1) hx hb dL_upright_4 rfl ?_
  refine va_iald (pc := 5) hx hb hK.1 hP 0 0 rfl rfl (vp_in_nI (by omega) (by decide)) dL_upright_5 ?_
  refine top_i (show (dF (nI c) (nI r) dx dy) (nI 1).toNatClampNeg = nI r from by rw [nI_clamp (by decide)]; rfl) ?_
  refine lv_iconst (pc := 6) (v := nI 1) hx hb dL_upright_6 rfl ?_
  refine n_iadd (pc := 7) hx hb dL_upright_7 ?_
  refine n_imul (pc := 8) hx hb dL_upright_8 ?_
  refine lv_aload_n (pc := 9) hx hb dL_upright_9 rfl (lv_at hl 0 rfl) ?_
  refine lv_iconst (pc := 10) (v := nI 0) hx hb dL_upright_10 rfl ?_
  refine va_iald (pc := 11) hx hb hK.1 hP 0 0 rfl rfl (vp_in_nI (by omega) (by decide)) dL_upright_11 ?_
  refine top_i (show (dF (nI c) (nI r) dx dy) (nI 0).toNatClampNeg = nI c from by rw [nI_clamp (by decide)]; rfl) ?_
  refine lv_iconst (pc := 12) (v := nI 1) hx hb dL_upright_12 rfl ?_
  refine n_iadd (pc := 13) hx hb dL_upright_13 ?_
  refine lv_iload_n (pc := 14) hx hb dL_upright_14 rfl (lv_at hl 2 rfl) ?_
  refine n_imul (pc := 15) hx hb dL_upright_15 ?_
  refine n_iadd (pc := 16) hx hb dL_upright_16 ?_
  refine lv_iload_n (pc := 17) hx hb dL_upright_17 rfl (lv_at hl 1 rfl) ?_
  refine n_iadd (pc := 18) hx hb dL_upright_18 ?_
  exact ro_iret (v := nI (((c * (r + 1)) + ((c + 1) * y)) + x)) hx hb hr hlocks (rfl) dL_upright_19

set_option maxHeartbeats 1200000 in
set_option maxRecDepth 100000 in
theorem c_L_open (l : Launch) (D : va_G) (Y : vY) (dd : Nat) (c : Nat) (r : Nat) (dx : Int32) (dy : Int32) (b : Nat) (w : Int64) (hC : Cr c r) (hb0 : b < c * r) : Ro l yL_open wsL_open ({ frames := 1, cells := 0, slots := 0, locals := 22 } : Room) [.ref dd, .int (nI b), .long w] D Y [(dd, .inl (Y.1, 4, .inl (dF (nI c) (nI r) dx dy)))] (some (.int (nI (opn c r w b)))) := by
  refine ro_intro (by decide +kernel) rfl (Nat.le_of_ble_eq_true rfl) [(0, .ref dd), (1, .int (nI b)), (2, .long w)] rfl ?_
  intro pG eG sG mG aG bG tG cG ls hx hb hr hml hts hown hlocks hK hP hl
  have hP : va_P D vwCl [(dd, .inl (Y.1, 4, .inl (dF (nI c) (nI r) dx dy)))] sG.heap := hP
  have hown : sG.vm.findClass RL = some mG.cls := hown
  have hl : lv_has ls 7 [(0, .ref dd), (1, .int (nI b)), (2, .long w)] := hl
  obtain ⟨hq1, hq2, hq3, hq4, hq5, hq6, hq7, hq8, hq9, hq10, hq11⟩ := hC.q
  refine lv_iload_n (pc := 0) hx hb dL_open_0 rfl (lv_at hl 1 rfl) ?_
  refine lv_aload_n (pc := 1) hx hb dL_open_1 rfl (lv_at hl 0 rfl) ?_
  refine lv_iconst (pc := 2) (v := nI 0) hx hb dL_open_2 rfl ?_
  refine va_iald (pc := 3) hx hb hK.1 hP 0 0 rfl rfl (vp_in_nI (by omega) (by decide)) dL_open_3 ?_
  refine top_i (show (dF (nI c) (nI r) dx dy) (nI 0).toNatClampNeg = nI c from by rw [nI_clamp (by decide)]; rfl) ?_
  refine n_irem (pc := 4) hx hb (by omega) (by omega) (by omega) dL_open_4 ?_
  refine lv_istore (pc := 5) (lv' := [(4, .int (nI (b % c))), (0, .ref dd), (1, .int (nI b)), (2, .long w)]) hx hb dL_open_5 hl (by decide) rfl (fun ls hl => ?_)
  refine lv_iload_n (pc := 7) hx hb dL_open_7 rfl (lv_at hl 2 rfl) ?_
  refine lv_aload_n (pc := 8) hx hb dL_open_8 rfl (lv_at hl 1 rfl) ?_
  refine lv_iconst (pc := 9) (v := nI 0) hx hb dL_open_9 rfl ?_
  refine va_iald (pc := 10) hx hb hK.1 hP 0 0 rfl rfl (vp_in_nI (by omega) (by decide)) dL_open_10 ?_
  refine top_i (show (dF (nI c) (nI r) dx dy) (nI 0).toNatClampNeg = nI c from by rw [nI_clamp (by decide)]; rfl) ?_
  refine n_idiv (pc := 11) hx hb (by omega) (by omega) (by omega) dL_open_11 ?_
  refine lv_istore (pc := 12) (lv' := [(5, .int (nI (b / c))), (4, .int (nI (b % c))), (0, .ref dd), (1, .int (nI b)), (2, .long w)]) hx hb dL_open_12 hl (by decide) rfl (fun ls hl => ?_)
  refine lv_iconst (pc := 14) (v := nI 0) hx hb dL_open_14 rfl ?_
  refine lv_istore (pc := 15) (lv' := [(6, .int (nI 0)), (5, .int (nI (b / c))), (4, .int (nI (b % c))), (0, .ref dd), (1, .int (nI b)), (2, .long w)]) hx hb dL_open_15 hl (by decide) rfl (fun ls hl => ?_)
  refine lv_lload_n (pc := 17) hx hb dL_open_17 rfl (lv_at hl 5 rfl) ?_
  refine lv_aload_n (pc := 18) hx hb dL_open_18 rfl (lv_at hl 3 rfl) ?_
  refine lv_iload (pc := 19) hx hb dL_open_19 (lv_at hl 2 rfl) ?_
  refine lv_iload (pc := 21) hx hb dL_open_21 (lv_at hl 1 rfl) ?_
  refine ro_go (pc := 23) (va_runS (As := [.ref dd, .int (nI (b % c)), .int (nI (b / c))]) (rest := [.long w]) ⟨hx, hb, hml, hown, hts⟩ (c_L_flat l D Y dd c r dx dy (b % c) (b / c) (hC)) (va_cwS 3 hts gL_open_L_flat rfl rfl rfl hdL_flat ⟨Nat.le_of_ble_eq_true rfl, Nat.le_of_ble_eq_true rfl⟩) (ro_pS hK hP) rfl rfl hl.1 rfl (lv_room (Nat.le_of_ble_eq_true rfl)) dL_open_23 ⟨Nat.le_of_ble_eq_true rfl, Nat.le_of_ble_eq_true rfl⟩) ?_
  refine top_i (show nI (c * (b / c) + (b % c)) = nI (sid c r b 0) from by rw [sidL0 (r := r)]) ?_
  refine ro_go (pc := 26) (va_runS (As := [.long w, .int (nI (sid c r b 0))]) (rest := []) ⟨hx, hb, hml, hown, hts⟩ (c_L_has l D Y w (sid c r b 0) (by have := sid_lt hC hb0 (k := 0) (by decide); omega)) (va_cwS 2 hts gL_open_L_has rfl rfl rfl hdL_has ⟨Nat.le_of_ble_eq_true rfl, Nat.le_of_ble_eq_true rfl⟩) (ro_pS hK (hP.sub [] rfl)) rfl rfl hl.1 rfl (lv_room (Nat.le_of_ble_eq_true rfl)) dL_open_26 ⟨Nat.le_of_ble_eq_true rfl, Nat.le_of_ble_eq_true rfl⟩) ?_
  have L35 : ∀ (n0 : Nat), (n0 = (if !tb w (sid c r b 0) then 1 else 0)) → ∀ (ls : Array Slot), lv_has ls 7 [(0, .ref dd), (1, .int (nI b)), (2, .long w), (4, .int (nI (b % c))), (5, .int (nI (b / c))), (6, .int (nI n0))] → W pG l eG ({ frames := 1, cells := 0, slots := 0, locals := 22 } : Room) sG mG aG bG tG cG sG.heap [] 0 0 (MQ bG (RoQ (some (.int (nI (opn c r w b))))) aG sG 0 0 (fun _ => False)) (F0 mG 35 ls []) := by
    intro n0 hn0  ls hl
    refine lv_lload_n (pc := 35) hx hb dL_open_35 rfl (lv_at hl 2 rfl) ?_
    refine lv_aload_n (pc := 36) hx hb dL_open_36 rfl (lv_at hl 0 rfl) ?_
    refine lv_iload (pc := 37) hx hb dL_open_37 (lv_at hl 3 rfl) ?_
    refine lv_iload (pc := 39) hx hb dL_open_39 (lv_at hl 4 rfl) ?_
    refine lv_iconst (pc := 41) (v := nI 1) hx hb dL_open_41 rfl ?_
    refine n_iadd (pc := 42) hx hb dL_open_42 ?_
    refine ro_go (pc := 43) (va_runS (As := [.ref dd, .int (nI (b % c)), .int (nI ((b / c) + 1))]) (rest := [.long w]) ⟨hx, hb, hml, hown, hts⟩ (c_L_flat l D Y dd c r dx dy (b % c) ((b / c) + 1) (hC)) (va_cwS 3 hts gL_open_L_flat rfl rfl rfl hdL_flat ⟨Nat.le_of_ble_eq_true rfl, Nat.le_of_ble_eq_true rfl⟩) (ro_pS hK hP) rfl rfl hl.1 rfl (lv_room (Nat.le_of_ble_eq_true rfl)) dL_open_43 ⟨Nat.le_of_ble_eq_true rfl, Nat.le_of_ble_eq_true rfl⟩) ?_
    refine top_i (show nI (c * ((b / c) + 1) + (b % c)) = nI (sid c r b 1) from by rw [sidL1 (r := r)]) ?_
    refine ro_go (pc := 46) (va_runS (As := [.long w, .int (nI (sid c r b 1))]) (rest := []) ⟨hx, hb, hml, hown, hts⟩ (c_L_has l D Y w (sid c r b 1) (by have := sid_lt hC hb0 (k := 1) (by decide); omega)) (va_cwS 2 hts gL_open_L_has rfl rfl rfl hdL_has ⟨Nat.le_of_ble_eq_true rfl, Nat.le_of_ble_eq_true rfl⟩) (ro_pS hK (hP.sub [] rfl)) rfl rfl hl.1 rfl (lv_room (Nat.le_of_ble_eq_true rfl)) dL_open_46 ⟨Nat.le_of_ble_eq_true rfl, Nat.le_of_ble_eq_true rfl⟩) ?_
    have L55 : ∀ (n1 : Nat), (n1 = (if !tb w (sid c r b 0) then 1 else 0) + (if !tb w (sid c r b 1) then 1 else 0)) → ∀ (ls : Array Slot), lv_has ls 7 [(0, .ref dd), (1, .int (nI b)), (2, .long w), (4, .int (nI (b % c))), (5, .int (nI (b / c))), (6, .int (nI n1))] → W pG l eG ({ frames := 1, cells := 0, slots := 0, locals := 22 } : Room) sG mG aG bG tG cG sG.heap [] 0 0 (MQ bG (RoQ (some (.int (nI (opn c r w b))))) aG sG 0 0 (fun _ => False)) (F0 mG 55 ls []) := by
      intro n1 hn1  ls hl
      refine lv_lload_n (pc := 55) hx hb dL_open_55 rfl (lv_at hl 2 rfl) ?_
      refine lv_aload_n (pc := 56) hx hb dL_open_56 rfl (lv_at hl 0 rfl) ?_
      refine lv_iload (pc := 57) hx hb dL_open_57 (lv_at hl 3 rfl) ?_
      refine lv_iload (pc := 59) hx hb dL_open_59 (lv_at hl 4 rfl) ?_
      refine ro_go (pc := 61) (va_runS (As := [.ref dd, .int (nI (b % c)), .int (nI (b / c))]) (rest := [.long w]) ⟨hx, hb, hml, hown, hts⟩ (c_L_upright l D Y dd c r dx dy (b % c) (b / c) (hC)) (va_cwS 3 hts gL_open_L_upright rfl rfl rfl hdL_upright ⟨Nat.le_of_ble_eq_true rfl, Nat.le_of_ble_eq_true rfl⟩) (ro_pS hK hP) rfl rfl hl.1 rfl (lv_room (Nat.le_of_ble_eq_true rfl)) dL_open_61 ⟨Nat.le_of_ble_eq_true rfl, Nat.le_of_ble_eq_true rfl⟩) ?_
      refine top_i (show nI (c * (r + 1) + (c + 1) * (b / c) + (b % c)) = nI (sid c r b 2) from by rw [sidL2 (r := r)]) ?_
      refine ro_go (pc := 64) (va_runS (As := [.long w, .int (nI (sid c r b 2))]) (rest := []) ⟨hx, hb, hml, hown, hts⟩ (c_L_has l D Y w (sid c r b 2) (by have := sid_lt hC hb0 (k := 2) (by decide); omega)) (va_cwS 2 hts gL_open_L_has rfl rfl rfl hdL_has ⟨Nat.le_of_ble_eq_true rfl, Nat.le_of_ble_eq_true rfl⟩) (ro_pS hK (hP.sub [] rfl)) rfl rfl hl.1 rfl (lv_room (Nat.le_of_ble_eq_true rfl)) dL_open_64 ⟨Nat.le_of_ble_eq_true rfl, Nat.le_of_ble_eq_true rfl⟩) ?_
      have L73 : ∀ (n2 : Nat), (n2 = (if !tb w (sid c r b 0) then 1 else 0) + (if !tb w (sid c r b 1) then 1 else 0) + (if !tb w (sid c r b 2) then 1 else 0)) → ∀ (ls : Array Slot), lv_has ls 7 [(0, .ref dd), (1, .int (nI b)), (2, .long w), (4, .int (nI (b % c))), (5, .int (nI (b / c))), (6, .int (nI n2))] → W pG l eG ({ frames := 1, cells := 0, slots := 0, locals := 22 } : Room) sG mG aG bG tG cG sG.heap [] 0 0 (MQ bG (RoQ (some (.int (nI (opn c r w b))))) aG sG 0 0 (fun _ => False)) (F0 mG 73 ls []) := by
        intro n2 hn2  ls hl
        refine lv_lload_n (pc := 73) hx hb dL_open_73 rfl (lv_at hl 2 rfl) ?_
        refine lv_aload_n (pc := 74) hx hb dL_open_74 rfl (lv_at hl 0 rfl) ?_
        refine lv_iload (pc := 75) hx hb dL_open_75 (lv_at hl 3 rfl) ?_
        refine lv_iconst (pc := 77) (v := nI 1) hx hb dL_open_77 rfl ?_
        refine n_iadd (pc := 78) hx hb dL_open_78 ?_
        refine lv_iload (pc := 79) hx hb dL_open_79 (lv_at hl 4 rfl) ?_
        refine ro_go (pc := 81) (va_runS (As := [.ref dd, .int (nI ((b % c) + 1)), .int (nI (b / c))]) (rest := [.long w]) ⟨hx, hb, hml, hown, hts⟩ (c_L_upright l D Y dd c r dx dy ((b % c) + 1) (b / c) (hC)) (va_cwS 3 hts gL_open_L_upright rfl rfl rfl hdL_upright ⟨Nat.le_of_ble_eq_true rfl, Nat.le_of_ble_eq_true rfl⟩) (ro_pS hK hP) rfl rfl hl.1 rfl (lv_room (Nat.le_of_ble_eq_true rfl)) dL_open_81 ⟨Nat.le_of_ble_eq_true rfl, Nat.le_of_ble_eq_true rfl⟩) ?_
        refine top_i (show nI (c * (r + 1) + (c + 1) * (b / c) + ((b % c) + 1)) = nI (sid c r b 3) from by rw [sidL3 (r := r)]) ?_
        refine ro_go (pc := 84) (va_runS (As := [.long w, .int (nI (sid c r b 3))]) (rest := []) ⟨hx, hb, hml, hown, hts⟩ (c_L_has l D Y w (sid c r b 3) (by have := sid_lt hC hb0 (k := 3) (by decide); omega)) (va_cwS 2 hts gL_open_L_has rfl rfl rfl hdL_has ⟨Nat.le_of_ble_eq_true rfl, Nat.le_of_ble_eq_true rfl⟩) (ro_pS hK (hP.sub [] rfl)) rfl rfl hl.1 rfl (lv_room (Nat.le_of_ble_eq_true rfl)) dL_open_84 ⟨Nat.le_of_ble_eq_true rfl, Nat.le_of_ble_eq_true rfl⟩) ?_
        have L93 : ∀ (n3 : Nat), (n3 = (if !tb w (sid c r b 0) then 1 else 0) + (if !tb w (sid c r b 1) then 1 else 0) + (if !tb w (sid c r b 2) then 1 else 0) + (if !tb w (sid c r b 3) then 1 else 0)) → ∀ (ls : Array Slot), lv_has ls 7 [(0, .ref dd), (1, .int (nI b)), (2, .long w), (4, .int (nI (b % c))), (5, .int (nI (b / c))), (6, .int (nI n3))] → W pG l eG ({ frames := 1, cells := 0, slots := 0, locals := 22 } : Room) sG mG aG bG tG cG sG.heap [] 0 0 (MQ bG (RoQ (some (.int (nI (opn c r w b))))) aG sG 0 0 (fun _ => False)) (F0 mG 93 ls []) := by
          intro n3 hn3  ls hl
          refine lv_iload (pc := 93) hx hb dL_open_93 (lv_at hl 5 rfl) ?_
          exact ro_iret (v := nI n3) hx hb hr hlocks (by rw [hn3, opn_four]) dL_open_95
        refine z_if_ne (pc := 87) (tgt := 93) hx hb dL_open_87 (by decide) (fun c87 => ?_) (fun c87 => ?_)
        · exact L93 n2 (by rw [← hn2, c87]; rfl)  _ (lv_sub hl [0, 1, 2, 3, 4, 5] rfl)
        refine lv_iinc (pc := 90) (v := nI (n2 + 1)) (lv' := [(6, .int (nI (n2 + 1))), (0, .ref dd), (1, .int (nI b)), (2, .long w), (4, .int (nI (b % c))), (5, .int (nI (b / c)))]) hx hb dL_open_90 hl (k := 5) rfl (n_inc n2 1) (by decide) rfl (fun ls hl => ?_)
        exact L93 (n2 + 1) (by rw [← hn2, c87]; rfl)  _ (lv_sub hl [1, 2, 3, 4, 5, 0] rfl)
      refine z_if_ne (pc := 67) (tgt := 73) hx hb dL_open_67 (by decide) (fun c67 => ?_) (fun c67 => ?_)
      · exact L73 n1 (by rw [← hn1, c67]; rfl)  _ (lv_sub hl [0, 1, 2, 3, 4, 5] rfl)
      refine lv_iinc (pc := 70) (v := nI (n1 + 1)) (lv' := [(6, .int (nI (n1 + 1))), (0, .ref dd), (1, .int (nI b)), (2, .long w), (4, .int (nI (b % c))), (5, .int (nI (b / c)))]) hx hb dL_open_70 hl (k := 5) rfl (n_inc n1 1) (by decide) rfl (fun ls hl => ?_)
      exact L73 (n1 + 1) (by rw [← hn1, c67]; rfl)  _ (lv_sub hl [1, 2, 3, 4, 5, 0] rfl)
    refine z_if_ne (pc := 49) (tgt := 55) hx hb dL_open_49 (by decide) (fun c49 => ?_) (fun c49 => ?_)
    · exact L55 n0 (by rw [← hn0, c49]; rfl)  _ (lv_sub hl [0, 1, 2, 3, 4, 5] rfl)
    refine lv_iinc (pc := 52) (v := nI (n0 + 1)) (lv' := [(6, .int (nI (n0 + 1))), (0, .ref dd), (1, .int (nI b)), (2, .long w), (4, .int (nI (b % c))), (5, .int (nI (b / c)))]) hx hb dL_open_52 hl (k := 5) rfl (n_inc n0 1) (by decide) rfl (fun ls hl => ?_)
    exact L55 (n0 + 1) (by rw [← hn0, c49]; rfl)  _ (lv_sub hl [1, 2, 3, 4, 5, 0] rfl)
  refine z_if_ne (pc := 29) (tgt := 35) hx hb dL_open_29 (by decide) (fun c29 => ?_) (fun c29 => ?_)
  · exact L35 0 (by rw [c29]; rfl)  _ (lv_sub hl [3, 4, 5, 2, 1, 0] rfl)
  refine lv_iinc (pc := 32) (v := nI 1) (lv' := [(6, .int (nI 1)), (5, .int (nI (b / c))), (4, .int (nI (b % c))), (0, .ref dd), (1, .int (nI b)), (2, .long w)]) hx hb dL_open_32 hl (k := 0) rfl (by decide) (by decide) rfl (fun ls hl => ?_)
  exact L35 1 (by rw [c29]; rfl)  _ (lv_sub hl [3, 4, 5, 2, 1, 0] rfl)

set_option maxHeartbeats 1200000 in
set_option maxRecDepth 100000 in
theorem c_L_isSide (l : Launch) (D : va_G) (Y : vY) (dd : Nat) (c : Nat) (r : Nat) (dx : Int32) (dy : Int32) (li : Nat) (b : Nat) (hC : Cr c r) (hl0 : li < al c r) (hb0 : b < c * r) : Ro l yL_isSide wsL_isSide ({ frames := 1, cells := 0, slots := 0, locals := 22 } : Room) [.ref dd, .int (nI li), .int (nI b)] D Y [(dd, .inl (Y.1, 4, .inl (dF (nI c) (nI r) dx dy)))] (some (.int (zb (isd c r b li)))) := by
  refine ro_intro (by decide +kernel) rfl (Nat.le_of_ble_eq_true rfl) [(0, .ref dd), (1, .int (nI li)), (2, .int (nI b))] rfl ?_
  intro pG eG sG mG aG bG tG cG ls hx hb hr hml hts hown hlocks hK hP hl
  have hP : va_P D vwCl [(dd, .inl (Y.1, 4, .inl (dF (nI c) (nI r) dx dy)))] sG.heap := hP
  have hown : sG.vm.findClass RL = some mG.cls := hown
  have hl : lv_has ls 5 [(0, .ref dd), (1, .int (nI li)), (2, .int (nI b))] := hl
  obtain ⟨hq1, hq2, hq3, hq4, hq5, hq6, hq7, hq8, hq9, hq10, hq11⟩ := hC.q
  refine lv_iload_n (pc := 0) hx hb dL_isSide_0 rfl (lv_at hl 2 rfl) ?_
  refine lv_aload_n (pc := 1) hx hb dL_isSide_1 rfl (lv_at hl 0 rfl) ?_
  refine lv_iconst (pc := 2) (v := nI 0) hx hb dL_isSide_2 rfl ?_
  refine va_iald (pc := 3) hx hb hK.1 hP 0 0 rfl rfl (vp_in_nI (by omega) (by decide)) dL_isSide_3 ?_
  refine top_i (show (dF (nI c) (nI r) dx dy) (nI 0).toNatClampNeg = nI c from by rw [nI_clamp (by decide)]; rfl) ?_
  refine n_irem (pc := 4) hx hb (by omega) (by omega) (by omega) dL_isSide_4 ?_
  refine lv_istore_n (pc := 5) (lv' := [(3, .int (nI (b % c))), (0, .ref dd), (1, .int (nI li)), (2, .int (nI b))]) hx hb dL_isSide_5 rfl hl (by decide) rfl (fun ls hl => ?_)
  refine lv_iload_n (pc := 6) hx hb dL_isSide_6 rfl (lv_at hl 3 rfl) ?_
  refine lv_aload_n (pc := 7) hx hb dL_isSide_7 rfl (lv_at hl 1 rfl) ?_
  refine lv_iconst (pc := 8) (v := nI 0) hx hb dL_isSide_8 rfl ?_
  refine va_iald (pc := 9) hx hb hK.1 hP 0 0 rfl rfl (vp_in_nI (by omega) (by decide)) dL_isSide_9 ?_
  refine top_i (show (dF (nI c) (nI r) dx dy) (nI 0).toNatClampNeg = nI c from by rw [nI_clamp (by decide)]; rfl) ?_
  refine n_idiv (pc := 10) hx hb (by omega) (by omega) (by omega) dL_isSide_10 ?_
  refine lv_istore (pc := 11) (lv' := [(4, .int (nI (b / c))), (3, .int (nI (b % c))), (0, .ref dd), (1, .int (nI li)), (2, .int (nI b))]) hx hb dL_isSide_11 hl (by decide) rfl (fun ls hl => ?_)
  refine lv_iload_n (pc := 13) hx hb dL_isSide_13 rfl (lv_at hl 3 rfl) ?_
  refine lv_aload_n (pc := 14) hx hb dL_isSide_14 rfl (lv_at hl 2 rfl) ?_
  refine lv_iload_n (pc := 15) hx hb dL_isSide_15 rfl (lv_at hl 1 rfl) ?_
  refine lv_iload (pc := 16) hx hb dL_isSide_16 (lv_at hl 0 rfl) ?_
  refine ro_go (pc := 18) (va_runS (As := [.ref dd, .int (nI (b % c)), .int (nI (b / c))]) (rest := [.int (nI li)]) ⟨hx, hb, hml, hown, hts⟩ (c_L_flat l D Y dd c r dx dy (b % c) (b / c) (hC)) (va_cwS 3 hts gL_isSide_L_flat rfl rfl rfl hdL_flat ⟨Nat.le_of_ble_eq_true rfl, Nat.le_of_ble_eq_true rfl⟩) (ro_pS hK hP) rfl rfl hl.1 rfl (lv_room (Nat.le_of_ble_eq_true rfl)) dL_isSide_18 ⟨Nat.le_of_ble_eq_true rfl, Nat.le_of_ble_eq_true rfl⟩) ?_
  refine top_i (show nI (c * (b / c) + (b % c)) = nI (sid c r b 0) from by rw [sidL0 (r := r)]) ?_
  refine n_icmp_eq (pc := 21) (tgt := 61) hx hb (by omega) (by have := sid_lt hC hb0 (k := 0) (by decide); omega) dL_isSide_21 (by decide) (fun c21 => ?_) (fun c21 => ?_)
  · refine lv_iconst (pc := 61) (v := nI 1) hx hb dL_isSide_61 rfl ?_
    refine lv_goto (pc := 62) (tgt := 66) hx hb dL_isSide_62 (by decide) ?_
    exact ro_zret hx hb hr hlocks (zb_1 (by unfold isd; rw [decide_eq_true c21]; simp)) dL_isSide_66
  refine lv_iload_n (pc := 24) hx hb dL_isSide_24 rfl (lv_at hl 3 rfl) ?_
  refine lv_aload_n (pc := 25) hx hb dL_isSide_25 rfl (lv_at hl 2 rfl) ?_
  refine lv_iload_n (pc := 26) hx hb dL_isSide_26 rfl (lv_at hl 1 rfl) ?_
  refine lv_iload (pc := 27) hx hb dL_isSide_27 (lv_at hl 0 rfl) ?_
  refine lv_iconst (pc := 29) (v := nI 1) hx hb dL_isSide_29 rfl ?_
  refine n_iadd (pc := 30) hx hb dL_isSide_30 ?_
  refine ro_go (pc := 31) (va_runS (As := [.ref dd, .int (nI (b % c)), .int (nI ((b / c) + 1))]) (rest := [.int (nI li)]) ⟨hx, hb, hml, hown, hts⟩ (c_L_flat l D Y dd c r dx dy (b % c) ((b / c) + 1) (hC)) (va_cwS 3 hts gL_isSide_L_flat rfl rfl rfl hdL_flat ⟨Nat.le_of_ble_eq_true rfl, Nat.le_of_ble_eq_true rfl⟩) (ro_pS hK hP) rfl rfl hl.1 rfl (lv_room (Nat.le_of_ble_eq_true rfl)) dL_isSide_31 ⟨Nat.le_of_ble_eq_true rfl, Nat.le_of_ble_eq_true rfl⟩) ?_
  refine top_i (show nI (c * ((b / c) + 1) + (b % c)) = nI (sid c r b 1) from by rw [sidL1 (r := r)]) ?_
  refine n_icmp_eq (pc := 34) (tgt := 61) hx hb (by omega) (by have := sid_lt hC hb0 (k := 1) (by decide); omega) dL_isSide_34 (by decide) (fun c34 => ?_) (fun c34 => ?_)
  · refine lv_iconst (pc := 61) (v := nI 1) hx hb dL_isSide_61 rfl ?_
    refine lv_goto (pc := 62) (tgt := 66) hx hb dL_isSide_62 (by decide) ?_
    exact ro_zret hx hb hr hlocks (zb_1 (by unfold isd; rw [decide_eq_false c21, decide_eq_true c34]; simp)) dL_isSide_66
  refine lv_iload_n (pc := 37) hx hb dL_isSide_37 rfl (lv_at hl 3 rfl) ?_
  refine lv_aload_n (pc := 38) hx hb dL_isSide_38 rfl (lv_at hl 2 rfl) ?_
  refine lv_iload_n (pc := 39) hx hb dL_isSide_39 rfl (lv_at hl 1 rfl) ?_
  refine lv_iload (pc := 40) hx hb dL_isSide_40 (lv_at hl 0 rfl) ?_
  refine ro_go (pc := 42) (va_runS (As := [.ref dd, .int (nI (b % c)), .int (nI (b / c))]) (rest := [.int (nI li)]) ⟨hx, hb, hml, hown, hts⟩ (c_L_upright l D Y dd c r dx dy (b % c) (b / c) (hC)) (va_cwS 3 hts gL_isSide_L_upright rfl rfl rfl hdL_upright ⟨Nat.le_of_ble_eq_true rfl, Nat.le_of_ble_eq_true rfl⟩) (ro_pS hK hP) rfl rfl hl.1 rfl (lv_room (Nat.le_of_ble_eq_true rfl)) dL_isSide_42 ⟨Nat.le_of_ble_eq_true rfl, Nat.le_of_ble_eq_true rfl⟩) ?_
  refine top_i (show nI (c * (r + 1) + (c + 1) * (b / c) + (b % c)) = nI (sid c r b 2) from by rw [sidL2 (r := r)]) ?_
  refine n_icmp_eq (pc := 45) (tgt := 61) hx hb (by omega) (by have := sid_lt hC hb0 (k := 2) (by decide); omega) dL_isSide_45 (by decide) (fun c45 => ?_) (fun c45 => ?_)
  · refine lv_iconst (pc := 61) (v := nI 1) hx hb dL_isSide_61 rfl ?_
    refine lv_goto (pc := 62) (tgt := 66) hx hb dL_isSide_62 (by decide) ?_
    exact ro_zret hx hb hr hlocks (zb_1 (by unfold isd; rw [decide_eq_false c21, decide_eq_false c34, decide_eq_true c45]; simp)) dL_isSide_66
  refine lv_iload_n (pc := 48) hx hb dL_isSide_48 rfl (lv_at hl 3 rfl) ?_
  refine lv_aload_n (pc := 49) hx hb dL_isSide_49 rfl (lv_at hl 2 rfl) ?_
  refine lv_iload_n (pc := 50) hx hb dL_isSide_50 rfl (lv_at hl 1 rfl) ?_
  refine lv_iconst (pc := 51) (v := nI 1) hx hb dL_isSide_51 rfl ?_
  refine n_iadd (pc := 52) hx hb dL_isSide_52 ?_
  refine lv_iload (pc := 53) hx hb dL_isSide_53 (lv_at hl 0 rfl) ?_
  refine ro_go (pc := 55) (va_runS (As := [.ref dd, .int (nI ((b % c) + 1)), .int (nI (b / c))]) (rest := [.int (nI li)]) ⟨hx, hb, hml, hown, hts⟩ (c_L_upright l D Y dd c r dx dy ((b % c) + 1) (b / c) (hC)) (va_cwS 3 hts gL_isSide_L_upright rfl rfl rfl hdL_upright ⟨Nat.le_of_ble_eq_true rfl, Nat.le_of_ble_eq_true rfl⟩) (ro_pS hK hP) rfl rfl hl.1 rfl (lv_room (Nat.le_of_ble_eq_true rfl)) dL_isSide_55 ⟨Nat.le_of_ble_eq_true rfl, Nat.le_of_ble_eq_true rfl⟩) ?_
  refine top_i (show nI (c * (r + 1) + (c + 1) * (b / c) + ((b % c) + 1)) = nI (sid c r b 3) from by rw [sidL3 (r := r)]) ?_
  refine n_icmp_ne (pc := 58) (tgt := 65) hx hb (by omega) (by have := sid_lt hC hb0 (k := 3) (by decide); omega) dL_isSide_58 (by decide) (fun c58 => ?_) (fun c58 => ?_)
  · refine lv_iconst (pc := 65) (v := nI 0) hx hb dL_isSide_65 rfl ?_
    exact ro_zret hx hb hr hlocks (zb_0 (by unfold isd; rw [decide_eq_false c21, decide_eq_false c34, decide_eq_false c45, decide_eq_false c58]; simp)) dL_isSide_66
  refine lv_iconst (pc := 61) (v := nI 1) hx hb dL_isSide_61 rfl ?_
  refine lv_goto (pc := 62) (tgt := 66) hx hb dL_isSide_62 (by decide) ?_
  exact ro_zret hx hb hr hlocks (zb_1 (by unfold isd; rw [decide_eq_false c21, decide_eq_false c34, decide_eq_false c45, decide_eq_true c58]; simp)) dL_isSide_66

set_option maxHeartbeats 1200000 in
set_option maxRecDepth 100000 in
theorem c_L_with (l : Launch) (D : va_G) (Y : vY) (dd : Nat) (c : Nat) (r : Nat) (dx : Int32) (dy : Int32) (sd : Nat) (w : Int64) (hC : Cr c r) (hsd : sd ≤ 4) : Ro l yL_with wsL_with ({ frames := 2, cells := 0, slots := 0, locals := 48 } : Room) [.ref dd, .int (nI sd), .long w] D Y [(dd, .inl (Y.1, 4, .inl (dF (nI c) (nI r) dx dy)))] (some (.int (nI (wth c r w sd)))) := by
  refine ro_intro (by decide +kernel) rfl (Nat.le_of_ble_eq_true rfl) [(0, .ref dd), (1, .int (nI sd)), (2, .long w)] rfl ?_
  intro pG eG sG mG aG bG tG cG ls hx hb hr hml hts hown hlocks hK hP hl
  have hP : va_P D vwCl [(dd, .inl (Y.1, 4, .inl (dF (nI c) (nI r) dx dy)))] sG.heap := hP
  have hown : sG.vm.findClass RL = some mG.cls := hown
  have hl : lv_has ls 6 [(0, .ref dd), (1, .int (nI sd)), (2, .long w)] := hl
  obtain ⟨hq1, hq2, hq3, hq4, hq5, hq6, hq7, hq8, hq9, hq10, hq11⟩ := hC.q
  refine lv_iconst (pc := 0) (v := nI 0) hx hb dL_with_0 rfl ?_
  refine lv_istore (pc := 1) (lv' := [(4, .int (nI 0)), (0, .ref dd), (1, .int (nI sd)), (2, .long w)]) hx hb dL_with_1 hl (by decide) rfl (fun ls hl => ?_)
  refine lv_iconst (pc := 3) (v := nI 0) hx hb dL_with_3 rfl ?_
  refine lv_istore (pc := 4) (lv' := [(5, .int (nI 0)), (4, .int (nI 0)), (0, .ref dd), (1, .int (nI sd)), (2, .long w)]) hx hb dL_with_4 hl (by decide) rfl (fun ls hl => ?_)
  have L6 : ∀ (n6 : Nat), ∀ (i : Nat) (n : Nat), (i ≤ c * r) → (n = fb_ct (fun b => decide (opn c r w b = sd)) i) → c * r - i < n6 → ∀ (ls : Array Slot), lv_has ls 6 [(0, .ref dd), (1, .int (nI sd)), (2, .long w), (4, .int (nI n)), (5, .int (nI i))] → W pG l eG ({ frames := 2, cells := 0, slots := 0, locals := 48 } : Room) sG mG aG bG tG cG sG.heap [] 0 0 (MQ bG (RoQ (some (.int (nI (wth c r w sd))))) aG sG 0 0 (fun _ => False)) (F0 mG 6 ls []) := by
    intro n6
    induction n6 with
    | zero =>
      intro i n hi hn hmeas6  ls hl
      exact absurd hmeas6 (Nat.not_lt_zero _)
    | succ n6 ih6 =>
      intro i n hi hn hmeas6  ls hl
      refine lv_iload (pc := 6) hx hb dL_with_6 (lv_at hl 4 rfl) ?_
      refine lv_aload_n (pc := 8) hx hb dL_with_8 rfl (lv_at hl 0 rfl) ?_
      refine lv_iconst (pc := 9) (v := nI 0) hx hb dL_with_9 rfl ?_
      refine va_iald (pc := 10) hx hb hK.1 hP 0 0 rfl rfl (vp_in_nI (by omega) (by decide)) dL_with_10 ?_
      refine top_i (show (dF (nI c) (nI r) dx dy) (nI 0).toNatClampNeg = nI c from by rw [nI_clamp (by decide)]; rfl) ?_
      refine lv_aload_n (pc := 11) hx hb dL_with_11 rfl (lv_at hl 0 rfl) ?_
      refine lv_iconst (pc := 12) (v := nI 1) hx hb dL_with_12 rfl ?_
      refine va_iald (pc := 13) hx hb hK.1 hP 0 0 rfl rfl (vp_in_nI (by omega) (by decide)) dL_with_13 ?_
      refine top_i (show (dF (nI c) (nI r) dx dy) (nI 1).toNatClampNeg = nI r from by rw [nI_clamp (by decide)]; rfl) ?_
      refine n_imul (pc := 14) hx hb dL_with_14 ?_
      refine n_icmp_ge (pc := 15) (tgt := 38) hx hb (by omega) (by omega) dL_with_15 (by decide) (fun c15 => ?_) (fun c15 => ?_)
      · refine lv_iload (pc := 38) hx hb dL_with_38 (lv_at hl 3 rfl) ?_
        exact ro_iret (v := nI n) hx hb hr hlocks (by rw [hn, show i = c * r by omega]; rfl) dL_with_40
      refine lv_aload_n (pc := 18) hx hb dL_with_18 rfl (lv_at hl 0 rfl) ?_
      refine lv_iload (pc := 19) hx hb dL_with_19 (lv_at hl 4 rfl) ?_
      refine lv_lload_n (pc := 21) hx hb dL_with_21 rfl (lv_at hl 2 rfl) ?_
      refine ro_go (pc := 22) (va_runS (As := [.ref dd, .int (nI i), .long w]) (rest := []) ⟨hx, hb, hml, hown, hts⟩ (c_L_open l D Y dd c r dx dy i w (hC) (by first | assumption | omega)) (va_cwS 3 hts gL_with_L_open rfl rfl rfl hdL_open ⟨Nat.le_of_ble_eq_true rfl, Nat.le_of_ble_eq_true rfl⟩) (ro_pS hK hP) rfl rfl hl.1 rfl (lv_room (Nat.le_of_ble_eq_true rfl)) dL_with_22 ⟨Nat.le_of_ble_eq_true rfl, Nat.le_of_ble_eq_true rfl⟩) ?_
      refine lv_iload_n (pc := 25) hx hb dL_with_25 rfl (lv_at hl 1 rfl) ?_
      refine n_icmp_ne (pc := 26) (tgt := 32) hx hb (by have := opn_le c r w i; omega) (by omega) dL_with_26 (by decide) (fun c26 => ?_) (fun c26 => ?_)
      · refine lv_iinc (pc := 32) (v := nI (i + 1)) (lv' := [(5, .int (nI (i + 1))), (0, .ref dd), (1, .int (nI sd)), (2, .long w), (4, .int (nI n))]) hx hb dL_with_32 hl (k := 4) rfl (n_inc i 1) (by decide) rfl (fun ls hl => ?_)
        refine lv_goto (pc := 35) (tgt := 6) hx hb dL_with_35 (by decide) ?_
        exact ih6 (i + 1) n (by omega) (by rw [fb_ct_succ, hn, decide_eq_false c26]; rfl) (by omega) _ (lv_sub hl [1, 2, 3, 4, 0] rfl)
      refine lv_iinc (pc := 29) (v := nI (n + 1)) (lv' := [(4, .int (nI (n + 1))), (0, .ref dd), (1, .int (nI sd)), (2, .long w), (5, .int (nI i))]) hx hb dL_with_29 hl (k := 3) rfl (n_inc n 1) (by decide) rfl (fun ls hl => ?_)
      refine lv_iinc (pc := 32) (v := nI (i + 1)) (lv' := [(5, .int (nI (i + 1))), (4, .int (nI (n + 1))), (0, .ref dd), (1, .int (nI sd)), (2, .long w)]) hx hb dL_with_32 hl (k := 4) rfl (n_inc i 1) (by decide) rfl (fun ls hl => ?_)
      refine lv_goto (pc := 35) (tgt := 6) hx hb dL_with_35 (by decide) ?_
      exact ih6 (i + 1) (n + 1) (by omega) (by rw [fb_ct_succ, hn, decide_eq_true c26]; rfl) (by omega) _ (lv_sub hl [2, 3, 4, 1, 0] rfl)
  exact L6 ((c * r - 0) + 1) 0 0 (by omega) (rfl) (Nat.lt_succ_self _) _ (lv_sub hl [2, 3, 4, 1, 0] rfl)

set_option maxHeartbeats 1200000 in
set_option maxRecDepth 100000 in
theorem c_L_beside (l : Launch) (D : va_G) (Y : vY) (dd : Nat) (c : Nat) (r : Nat) (dx : Int32) (dy : Int32) (li : Nat) (k : Nat) (hC : Cr c r) (hl0 : li < al c r) (hk2 : k < 2) : Ro l yL_beside wsL_beside ({ frames := 0, cells := 0, slots := 0, locals := 0 } : Room) [.ref dd, .int (nI li), .int (nI k)] D Y [(dd, .inl (Y.1, 4, .inl (dF (nI c) (nI r) dx dy)))] (some (.int (oI (bes c r li k)))) := by
  refine ro_intro (by decide +kernel) rfl (Nat.le_of_ble_eq_true rfl) [(0, .ref dd), (1, .int (nI li)), (2, .int (nI k))] rfl ?_
  intro pG eG sG mG aG bG tG cG ls hx hb hr hml hts hown hlocks hK hP hl
  have hP : va_P D vwCl [(dd, .inl (Y.1, 4, .inl (dF (nI c) (nI r) dx dy)))] sG.heap := hP
  have hown : sG.vm.findClass RL = some mG.cls := hown
  have hl : lv_has ls 5 [(0, .ref dd), (1, .int (nI li)), (2, .int (nI k))] := hl
  obtain ⟨hq1, hq2, hq3, hq4, hq5, hq6, hq7, hq8, hq9, hq10, hq11⟩ := hC.q
  refine lv_aload_n (pc := 0) hx hb dL_beside_0 rfl (lv_at hl 0 rfl) ?_
  refine lv_iconst (pc := 1) (v := nI 0) hx hb dL_beside_1 rfl ?_
  refine va_iald (pc := 2) hx hb hK.1 hP 0 0 rfl rfl (vp_in_nI (by omega) (by decide)) dL_beside_2 ?_
  refine top_i (show (dF (nI c) (nI r) dx dy) (nI 0).toNatClampNeg = nI c from by rw [nI_clamp (by decide)]; rfl) ?_
  refine lv_aload_n (pc := 3) hx hb dL_beside_3 rfl (lv_at hl 0 rfl) ?_
  refine lv_iconst (pc := 4) (v := nI 1) hx hb dL_beside_4 rfl ?_
  refine va_iald (pc := 5) hx hb hK.1 hP 0 0 rfl rfl (vp_in_nI (by omega) (by decide)) dL_beside_5 ?_
  refine top_i (show (dF (nI c) (nI r) dx dy) (nI 1).toNatClampNeg = nI r from by rw [nI_clamp (by decide)]; rfl) ?_
  refine lv_iconst (pc := 6) (v := nI 1) hx hb dL_beside_6 rfl ?_
  refine n_iadd (pc := 7) hx hb dL_beside_7 ?_
  refine n_imul (pc := 8) hx hb dL_beside_8 ?_
  refine top_i (show nI (c * (r + 1)) = nI (lvl c r) from by rw [lvl_L]) ?_
  refine lv_istore_n (pc := 9) (lv' := [(3, .int (nI (lvl c r))), (0, .ref dd), (1, .int (nI li)), (2, .int (nI k))]) hx hb dL_beside_9 rfl hl (by decide) rfl (fun ls hl => ?_)
  refine lv_iload_n (pc := 10) hx hb dL_beside_10 rfl (lv_at hl 2 rfl) ?_
  refine lv_iload_n (pc := 11) hx hb dL_beside_11 rfl (lv_at hl 0 rfl) ?_
  refine n_icmp_ge (pc := 12) (tgt := 56) hx hb (by omega) (by omega) dL_beside_12 (by decide) (fun c12 => ?_) (fun c12 => ?_)
  · refine lv_iload_n (pc := 56) hx hb dL_beside_56 rfl (lv_at hl 2 rfl) ?_
    refine lv_iload_n (pc := 57) hx hb dL_beside_57 rfl (lv_at hl 0 rfl) ?_
    refine n_isub (pc := 58) hx hb (by omega) dL_beside_58 ?_
    refine lv_aload_n (pc := 59) hx hb dL_beside_59 rfl (lv_at hl 1 rfl) ?_
    refine lv_iconst (pc := 60) (v := nI 0) hx hb dL_beside_60 rfl ?_
    refine va_iald (pc := 61) hx hb hK.1 hP 0 0 rfl rfl (vp_in_nI (by omega) (by decide)) dL_beside_61 ?_
    refine top_i (show (dF (nI c) (nI r) dx dy) (nI 0).toNatClampNeg = nI c from by rw [nI_clamp (by decide)]; rfl) ?_
    refine lv_iconst (pc := 62) (v := nI 1) hx hb dL_beside_62 rfl ?_
    refine n_iadd (pc := 63) hx hb dL_beside_63 ?_
    refine n_irem (pc := 64) hx hb (by omega) (by omega) (by omega) dL_beside_64 ?_
    refine lv_iconst (pc := 65) (v := nI 1) hx hb dL_beside_65 rfl ?_
    refine lv_isub (pc := 66) hx hb dL_beside_66 ?_
    refine lv_iload_n (pc := 67) hx hb dL_beside_67 rfl (lv_at hl 3 rfl) ?_
    rcases Nat.eq_zero_or_pos ((li - lvl c r) % (c + 1) + k) with h24 | h24
    · skip
      refine lv_iadd (pc := 68) hx hb dL_beside_68 ?_
      refine top_i (show ((nI ((li - (lvl c r)) % (c + 1))) - (nI 1)) + (nI k) = (-1) from yB_0 h24) ?_
      refine lv_istore (pc := 69) (lv' := [(4, .int (-1)), (3, .int (nI (lvl c r))), (0, .ref dd), (1, .int (nI li)), (2, .int (nI k))]) hx hb dL_beside_69 hl (by decide) rfl (fun ls hl => ?_)
      refine lv_iload (pc := 71) hx hb dL_beside_71 (lv_at hl 0 rfl) ?_
      refine lv_if_lt (pc := 73) (tgt := 84) hx hb dL_beside_73 (by decide) (fun c73 => ?_) (fun c73 => ?_)
      · refine lv_iconst (pc := 84) (v := (-1)) hx hb dL_beside_84 (by decide) ?_
        refine lv_goto (pc := 85) (tgt := 104) hx hb dL_beside_85 (by decide) ?_
        exact ro_iret (v := (-1)) hx hb hr hlocks (by rw [bes_L hC hl0 hk2]; unfold besL; rw [if_neg (by omega), if_pos (Or.inl h24)]; rfl) dL_beside_104
      · exact absurd (by decide) c73
    · skip
      refine lv_iadd (pc := 68) hx hb dL_beside_68 ?_
      refine top_i (show ((nI ((li - (lvl c r)) % (c + 1))) - (nI 1)) + (nI k) = nI ((li - lvl c r) % (c + 1) + k - 1) from yB_s h24) ?_
      refine lv_istore (pc := 69) (lv' := [(4, .int (nI ((li - lvl c r) % (c + 1) + k - 1))), (3, .int (nI (lvl c r))), (0, .ref dd), (1, .int (nI li)), (2, .int (nI k))]) hx hb dL_beside_69 hl (by decide) rfl (fun ls hl => ?_)
      refine lv_iload (pc := 71) hx hb dL_beside_71 (lv_at hl 0 rfl) ?_
      refine n_if_lt (pc := 73) (tgt := 84) hx hb (by have := Nat.mod_lt (li - lvl c r) (show 0 < c + 1 by omega); omega) dL_beside_73 (by decide) ?_
      refine lv_iload (pc := 76) hx hb dL_beside_76 (lv_at hl 0 rfl) ?_
      refine lv_aload_n (pc := 78) hx hb dL_beside_78 rfl (lv_at hl 2 rfl) ?_
      refine lv_iconst (pc := 79) (v := nI 0) hx hb dL_beside_79 rfl ?_
      refine va_iald (pc := 80) hx hb hK.1 hP 0 0 rfl rfl (vp_in_nI (by omega) (by decide)) dL_beside_80 ?_
      refine top_i (show (dF (nI c) (nI r) dx dy) (nI 0).toNatClampNeg = nI c from by rw [nI_clamp (by decide)]; rfl) ?_
      refine n_icmp_lt (pc := 81) (tgt := 88) hx hb (by have := Nat.mod_lt (li - lvl c r) (show 0 < c + 1 by omega); omega) (by omega) dL_beside_81 (by decide) (fun c81 => ?_) (fun c81 => ?_)
      · refine lv_aload_n (pc := 88) hx hb dL_beside_88 rfl (lv_at hl 2 rfl) ?_
        refine lv_iconst (pc := 89) (v := nI 0) hx hb dL_beside_89 rfl ?_
        refine va_iald (pc := 90) hx hb hK.1 hP 0 0 rfl rfl (vp_in_nI (by omega) (by decide)) dL_beside_90 ?_
        refine top_i (show (dF (nI c) (nI r) dx dy) (nI 0).toNatClampNeg = nI c from by rw [nI_clamp (by decide)]; rfl) ?_
        refine lv_iload_n (pc := 91) hx hb dL_beside_91 rfl (lv_at hl 3 rfl) ?_
        refine lv_iload_n (pc := 92) hx hb dL_beside_92 rfl (lv_at hl 1 rfl) ?_
        refine n_isub (pc := 93) hx hb (by omega) dL_beside_93 ?_
        refine lv_aload_n (pc := 94) hx hb dL_beside_94 rfl (lv_at hl 2 rfl) ?_
        refine lv_iconst (pc := 95) (v := nI 0) hx hb dL_beside_95 rfl ?_
        refine va_iald (pc := 96) hx hb hK.1 hP 0 0 rfl rfl (vp_in_nI (by omega) (by decide)) dL_beside_96 ?_
        refine top_i (show (dF (nI c) (nI r) dx dy) (nI 0).toNatClampNeg = nI c from by rw [nI_clamp (by decide)]; rfl) ?_
        refine lv_iconst (pc := 97) (v := nI 1) hx hb dL_beside_97 rfl ?_
        refine n_iadd (pc := 98) hx hb dL_beside_98 ?_
        refine n_idiv (pc := 99) hx hb (by omega) (by omega) (by omega) dL_beside_99 ?_
        refine n_imul (pc := 100) hx hb dL_beside_100 ?_
        refine lv_iload (pc := 101) hx hb dL_beside_101 (lv_at hl 0 rfl) ?_
        refine n_iadd (pc := 103) hx hb dL_beside_103 ?_
        exact ro_iret (v := nI ((c * ((li - (lvl c r)) / (c + 1))) + ((li - lvl c r) % (c + 1) + k - 1))) hx hb hr hlocks (by rw [bes_L hC hl0 hk2]; unfold besL; rw [if_neg (by omega), if_neg (by omega)]; rfl) dL_beside_104
      refine lv_iconst (pc := 84) (v := (-1)) hx hb dL_beside_84 (by decide) ?_
      refine lv_goto (pc := 85) (tgt := 104) hx hb dL_beside_85 (by decide) ?_
      exact ro_iret (v := (-1)) hx hb hr hlocks (by rw [bes_L hC hl0 hk2]; unfold besL; rw [if_neg (by omega), if_pos (Or.inr (by omega))]; rfl) dL_beside_104
  refine lv_iload_n (pc := 15) hx hb dL_beside_15 rfl (lv_at hl 2 rfl) ?_
  refine lv_aload_n (pc := 16) hx hb dL_beside_16 rfl (lv_at hl 1 rfl) ?_
  refine lv_iconst (pc := 17) (v := nI 0) hx hb dL_beside_17 rfl ?_
  refine va_iald (pc := 18) hx hb hK.1 hP 0 0 rfl rfl (vp_in_nI (by omega) (by decide)) dL_beside_18 ?_
  refine top_i (show (dF (nI c) (nI r) dx dy) (nI 0).toNatClampNeg = nI c from by rw [nI_clamp (by decide)]; rfl) ?_
  refine n_idiv (pc := 19) hx hb (by omega) (by omega) (by omega) dL_beside_19 ?_
  refine lv_iconst (pc := 20) (v := nI 1) hx hb dL_beside_20 rfl ?_
  refine lv_isub (pc := 21) hx hb dL_beside_21 ?_
  refine lv_iload_n (pc := 22) hx hb dL_beside_22 rfl (lv_at hl 3 rfl) ?_
  rcases Nat.eq_zero_or_pos (li / c + k) with h24 | h24
  · skip
    refine lv_iadd (pc := 23) hx hb dL_beside_23 ?_
    refine top_i (show ((nI (li / c)) - (nI 1)) + (nI k) = (-1) from yB_0 h24) ?_
    refine lv_istore (pc := 24) (lv' := [(4, .int (-1)), (3, .int (nI (lvl c r))), (0, .ref dd), (1, .int (nI li)), (2, .int (nI k))]) hx hb dL_beside_24 hl (by decide) rfl (fun ls hl => ?_)
    refine lv_iload (pc := 26) hx hb dL_beside_26 (lv_at hl 0 rfl) ?_
    refine lv_if_lt (pc := 28) (tgt := 39) hx hb dL_beside_28 (by decide) (fun c28 => ?_) (fun c28 => ?_)
    · refine lv_iconst (pc := 39) (v := (-1)) hx hb dL_beside_39 (by decide) ?_
      refine lv_goto (pc := 40) (tgt := 55) hx hb dL_beside_40 (by decide) ?_
      exact ro_iret (v := (-1)) hx hb hr hlocks (by rw [bes_L hC hl0 hk2]; unfold besL; rw [if_pos (by omega), if_pos (Or.inl h24)]; rfl) dL_beside_55
    · exact absurd (by decide) c28
  · skip
    refine lv_iadd (pc := 23) hx hb dL_beside_23 ?_
    refine top_i (show ((nI (li / c)) - (nI 1)) + (nI k) = nI (li / c + k - 1) from yB_s h24) ?_
    refine lv_istore (pc := 24) (lv' := [(4, .int (nI (li / c + k - 1))), (3, .int (nI (lvl c r))), (0, .ref dd), (1, .int (nI li)), (2, .int (nI k))]) hx hb dL_beside_24 hl (by decide) rfl (fun ls hl => ?_)
    refine lv_iload (pc := 26) hx hb dL_beside_26 (lv_at hl 0 rfl) ?_
    refine n_if_lt (pc := 28) (tgt := 39) hx hb (by have := Nat.div_le_self li c; omega) dL_beside_28 (by decide) ?_
    refine lv_iload (pc := 31) hx hb dL_beside_31 (lv_at hl 0 rfl) ?_
    refine lv_aload_n (pc := 33) hx hb dL_beside_33 rfl (lv_at hl 2 rfl) ?_
    refine lv_iconst (pc := 34) (v := nI 1) hx hb dL_beside_34 rfl ?_
    refine va_iald (pc := 35) hx hb hK.1 hP 0 0 rfl rfl (vp_in_nI (by omega) (by decide)) dL_beside_35 ?_
    refine top_i (show (dF (nI c) (nI r) dx dy) (nI 1).toNatClampNeg = nI r from by rw [nI_clamp (by decide)]; rfl) ?_
    refine n_icmp_lt (pc := 36) (tgt := 43) hx hb (by have := Nat.div_le_self li c; omega) (by omega) dL_beside_36 (by decide) (fun c36 => ?_) (fun c36 => ?_)
    · refine lv_aload_n (pc := 43) hx hb dL_beside_43 rfl (lv_at hl 2 rfl) ?_
      refine lv_iconst (pc := 44) (v := nI 0) hx hb dL_beside_44 rfl ?_
      refine va_iald (pc := 45) hx hb hK.1 hP 0 0 rfl rfl (vp_in_nI (by omega) (by decide)) dL_beside_45 ?_
      refine top_i (show (dF (nI c) (nI r) dx dy) (nI 0).toNatClampNeg = nI c from by rw [nI_clamp (by decide)]; rfl) ?_
      refine lv_iload (pc := 46) hx hb dL_beside_46 (lv_at hl 0 rfl) ?_
      refine n_imul (pc := 48) hx hb dL_beside_48 ?_
      refine lv_iload_n (pc := 49) hx hb dL_beside_49 rfl (lv_at hl 3 rfl) ?_
      refine lv_aload_n (pc := 50) hx hb dL_beside_50 rfl (lv_at hl 2 rfl) ?_
      refine lv_iconst (pc := 51) (v := nI 0) hx hb dL_beside_51 rfl ?_
      refine va_iald (pc := 52) hx hb hK.1 hP 0 0 rfl rfl (vp_in_nI (by omega) (by decide)) dL_beside_52 ?_
      refine top_i (show (dF (nI c) (nI r) dx dy) (nI 0).toNatClampNeg = nI c from by rw [nI_clamp (by decide)]; rfl) ?_
      refine n_irem (pc := 53) hx hb (by omega) (by omega) (by omega) dL_beside_53 ?_
      refine n_iadd (pc := 54) hx hb dL_beside_54 ?_
      exact ro_iret (v := nI ((c * (li / c + k - 1)) + (li % c))) hx hb hr hlocks (by rw [bes_L hC hl0 hk2]; unfold besL; rw [if_pos (by omega), if_neg (by omega)]; rfl) dL_beside_55
    refine lv_iconst (pc := 39) (v := (-1)) hx hb dL_beside_39 (by decide) ?_
    refine lv_goto (pc := 40) (tgt := 55) hx hb dL_beside_40 (by decide) ?_
    exact ro_iret (v := (-1)) hx hb hr hlocks (by rw [bes_L hC hl0 hk2]; unfold besL; rw [if_pos (by omega), if_pos (Or.inr (by omega))]; rfl) dL_beside_55

set_option maxHeartbeats 1200000 in
set_option maxRecDepth 100000 in
theorem c_L_gain (l : Launch) (D : va_G) (Y : vY) (dd : Nat) (c : Nat) (r : Nat) (dx : Int32) (dy : Int32) (li : Nat) (w : Int64) (hC : Cr c r) (hl0 : li < al c r) : Ro l yL_gain wsL_gain ({ frames := 2, cells := 0, slots := 0, locals := 48 } : Room) [.ref dd, .int (nI li), .long w] D Y [(dd, .inl (Y.1, 4, .inl (dF (nI c) (nI r) dx dy)))] (some (.int (nI (gaL c r w li)))) := by
  refine ro_intro (by decide +kernel) rfl (Nat.le_of_ble_eq_true rfl) [(0, .ref dd), (1, .int (nI li)), (2, .long w)] rfl ?_
  intro pG eG sG mG aG bG tG cG ls hx hb hr hml hts hown hlocks hK hP hl
  have hP : va_P D vwCl [(dd, .inl (Y.1, 4, .inl (dF (nI c) (nI r) dx dy)))] sG.heap := hP
  have hown : sG.vm.findClass RL = some mG.cls := hown
  have hl : lv_has ls 6 [(0, .ref dd), (1, .int (nI li)), (2, .long w)] := hl
  obtain ⟨hq1, hq2, hq3, hq4, hq5, hq6, hq7, hq8, hq9, hq10, hq11⟩ := hC.q
  refine lv_iconst (pc := 0) (v := nI 0) hx hb dL_gain_0 rfl ?_
  refine lv_istore (pc := 1) (lv' := [(4, .int (nI 0)), (0, .ref dd), (1, .int (nI li)), (2, .long w)]) hx hb dL_gain_1 hl (by decide) rfl (fun ls hl => ?_)
  refine lv_iconst (pc := 3) (v := nI 0) hx hb dL_gain_3 rfl ?_
  refine lv_istore (pc := 4) (lv' := [(5, .int (nI 0)), (4, .int (nI 0)), (0, .ref dd), (1, .int (nI li)), (2, .long w)]) hx hb dL_gain_4 hl (by decide) rfl (fun ls hl => ?_)
  have L6 : ∀ (n6 : Nat), ∀ (i : Nat) (n : Nat), (i ≤ 2) → (n = fb_ct (fun k => !tb w li && bq 1 c r w li k) i) → 2 - i < n6 → ∀ (ls : Array Slot), lv_has ls 6 [(0, .ref dd), (1, .int (nI li)), (2, .long w), (4, .int (nI n)), (5, .int (nI i))] → W pG l eG ({ frames := 2, cells := 0, slots := 0, locals := 48 } : Room) sG mG aG bG tG cG sG.heap [] 0 0 (MQ bG (RoQ (some (.int (nI (gaL c r w li))))) aG sG 0 0 (fun _ => False)) (F0 mG 6 ls []) := by
    intro n6
    induction n6 with
    | zero =>
      intro i n hi hn hmeas6  ls hl
      exact absurd hmeas6 (Nat.not_lt_zero _)
    | succ n6 ih6 =>
      intro i n hi hn hmeas6  ls hl
      refine lv_iload (pc := 6) hx hb dL_gain_6 (lv_at hl 4 rfl) ?_
      refine lv_iconst (pc := 8) (v := nI 2) hx hb dL_gain_8 rfl ?_
      refine n_icmp_ge (pc := 9) (tgt := 55) hx hb (by omega) (by omega) dL_gain_9 (by decide) (fun c9 => ?_) (fun c9 => ?_)
      · refine lv_iload (pc := 55) hx hb dL_gain_55 (lv_at hl 3 rfl) ?_
        exact ro_iret (v := nI n) hx hb hr hlocks (by rw [hn, show i = 2 by omega]; rfl) dL_gain_57
      refine lv_aload_n (pc := 12) hx hb dL_gain_12 rfl (lv_at hl 0 rfl) ?_
      refine lv_iload_n (pc := 13) hx hb dL_gain_13 rfl (lv_at hl 1 rfl) ?_
      refine lv_iload (pc := 14) hx hb dL_gain_14 (lv_at hl 4 rfl) ?_
      refine ro_go (pc := 16) (va_runS (As := [.ref dd, .int (nI li), .int (nI i)]) (rest := []) ⟨hx, hb, hml, hown, hts⟩ (c_L_beside l D Y dd c r dx dy li i (hC) (hl0) (by first | assumption | omega)) (va_cwS 3 hts gL_gain_L_beside rfl rfl rfl hdL_beside ⟨Nat.le_of_ble_eq_true rfl, Nat.le_of_ble_eq_true rfl⟩) (ro_pS hK hP) rfl rfl hl.1 rfl (lv_room (Nat.le_of_ble_eq_true rfl)) dL_gain_16 ⟨Nat.le_of_ble_eq_true rfl, Nat.le_of_ble_eq_true rfl⟩) ?_
      refine lv_topi (fun x16 ex16 => ?_)
      refine lv_if_lt (pc := 19) (tgt := 49) hx hb dL_gain_19 (by decide) (fun c19 => ?_) (fun c19 => ?_)
      · have hbn := oI_neg ex16 c19 (fun b h => by have := bes_lt hC hl0 h; omega)
        refine lv_iinc (pc := 49) (v := nI (i + 1)) (lv' := [(5, .int (nI (i + 1))), (0, .ref dd), (1, .int (nI li)), (2, .long w), (4, .int (nI n))]) hx hb dL_gain_49 hl (k := 4) rfl (n_inc i 1) (by decide) rfl (fun ls hl => ?_)
        refine lv_goto (pc := 52) (tgt := 6) hx hb dL_gain_52 (by decide) ?_
        exact ih6 (i + 1) n (by omega) (by rw [fb_ct_succ, hn, bq_none hbn, Bool.and_false]; rfl) (by omega) _ (lv_sub hl [1, 2, 3, 4, 0] rfl)
      obtain ⟨bb, hbb, hxb⟩ := oI_pos ex16 c19
      have hbbl := bes_lt hC hl0 hbb
      refine lv_lload_n (pc := 22) hx hb dL_gain_22 rfl (lv_at hl 2 rfl) ?_
      refine lv_iload_n (pc := 23) hx hb dL_gain_23 rfl (lv_at hl 1 rfl) ?_
      refine ro_go (pc := 24) (va_runS (As := [.long w, .int (nI li)]) (rest := []) ⟨hx, hb, hml, hown, hts⟩ (c_L_has l D Y w li (by first | assumption | omega)) (va_cwS 2 hts gL_gain_L_has rfl rfl rfl hdL_has ⟨Nat.le_of_ble_eq_true rfl, Nat.le_of_ble_eq_true rfl⟩) (ro_pS hK (hP.sub [] rfl)) rfl rfl hl.1 rfl (lv_room (Nat.le_of_ble_eq_true rfl)) dL_gain_24 ⟨Nat.le_of_ble_eq_true rfl, Nat.le_of_ble_eq_true rfl⟩) ?_
      refine z_if_ne (pc := 27) (tgt := 49) hx hb dL_gain_27 (by decide) (fun c27 => ?_) (fun c27 => ?_)
      · refine lv_iinc (pc := 49) (v := nI (i + 1)) (lv' := [(5, .int (nI (i + 1))), (0, .ref dd), (1, .int (nI li)), (2, .long w), (4, .int (nI n))]) hx hb dL_gain_49 hl (k := 4) rfl (n_inc i 1) (by decide) rfl (fun ls hl => ?_)
        refine lv_goto (pc := 52) (tgt := 6) hx hb dL_gain_52 (by decide) ?_
        exact ih6 (i + 1) n (by omega) (by rw [fb_ct_succ, hn, c27]; rfl) (by omega) _ (lv_sub hl [1, 2, 3, 4, 0] rfl)
      refine lv_aload_n (pc := 30) hx hb dL_gain_30 rfl (lv_at hl 0 rfl) ?_
      refine lv_aload_n (pc := 31) hx hb dL_gain_31 rfl (lv_at hl 0 rfl) ?_
      refine lv_iload_n (pc := 32) hx hb dL_gain_32 rfl (lv_at hl 1 rfl) ?_
      refine lv_iload (pc := 33) hx hb dL_gain_33 (lv_at hl 4 rfl) ?_
      refine ro_go (pc := 35) (va_runS (As := [.ref dd, .int (nI li), .int (nI i)]) (rest := [.ref dd]) ⟨hx, hb, hml, hown, hts⟩ (c_L_beside l D Y dd c r dx dy li i (hC) (hl0) (by first | assumption | omega)) (va_cwS 3 hts gL_gain_L_beside rfl rfl rfl hdL_beside ⟨Nat.le_of_ble_eq_true rfl, Nat.le_of_ble_eq_true rfl⟩) (ro_pS hK hP) rfl rfl hl.1 rfl (lv_room (Nat.le_of_ble_eq_true rfl)) dL_gain_35 ⟨Nat.le_of_ble_eq_true rfl, Nat.le_of_ble_eq_true rfl⟩) ?_
      refine lv_topi (fun x35 ex35 => ?_)
      have hxq : x35 = nI bb := by rw [ex35, hbb]; rfl
      subst hxq
      refine lv_lload_n (pc := 38) hx hb dL_gain_38 rfl (lv_at hl 2 rfl) ?_
      refine ro_go (pc := 39) (va_runS (As := [.ref dd, .int (nI bb), .long w]) (rest := []) ⟨hx, hb, hml, hown, hts⟩ (c_L_open l D Y dd c r dx dy bb w (hC) (hbbl)) (va_cwS 3 hts gL_gain_L_open rfl rfl rfl hdL_open ⟨Nat.le_of_ble_eq_true rfl, Nat.le_of_ble_eq_true rfl⟩) (ro_pS hK hP) rfl rfl hl.1 rfl (lv_room (Nat.le_of_ble_eq_true rfl)) dL_gain_39 ⟨Nat.le_of_ble_eq_true rfl, Nat.le_of_ble_eq_true rfl⟩) ?_
      refine lv_iconst (pc := 42) (v := nI 1) hx hb dL_gain_42 rfl ?_
      refine n_icmp_ne (pc := 43) (tgt := 49) hx hb (by have := opn_le c r w bb; omega) (by decide) dL_gain_43 (by decide) (fun c43 => ?_) (fun c43 => ?_)
      · refine lv_iinc (pc := 49) (v := nI (i + 1)) (lv' := [(5, .int (nI (i + 1))), (0, .ref dd), (1, .int (nI li)), (2, .long w), (4, .int (nI n))]) hx hb dL_gain_49 hl (k := 4) rfl (n_inc i 1) (by decide) rfl (fun ls hl => ?_)
        refine lv_goto (pc := 52) (tgt := 6) hx hb dL_gain_52 (by decide) ?_
        exact ih6 (i + 1) n (by omega) (by rw [fb_ct_succ, hn, c27, bq_some hbb, decide_eq_false c43]; rfl) (by omega) _ (lv_sub hl [1, 2, 3, 4, 0] rfl)
      refine lv_iinc (pc := 46) (v := nI (n + 1)) (lv' := [(4, .int (nI (n + 1))), (0, .ref dd), (1, .int (nI li)), (2, .long w), (5, .int (nI i))]) hx hb dL_gain_46 hl (k := 3) rfl (n_inc n 1) (by decide) rfl (fun ls hl => ?_)
      refine lv_iinc (pc := 49) (v := nI (i + 1)) (lv' := [(5, .int (nI (i + 1))), (4, .int (nI (n + 1))), (0, .ref dd), (1, .int (nI li)), (2, .long w)]) hx hb dL_gain_49 hl (k := 4) rfl (n_inc i 1) (by decide) rfl (fun ls hl => ?_)
      refine lv_goto (pc := 52) (tgt := 6) hx hb dL_gain_52 (by decide) ?_
      exact ih6 (i + 1) (n + 1) (by omega) (by rw [fb_ct_succ, hn, c27, bq_some hbb, decide_eq_true c43]; rfl) (by omega) _ (lv_sub hl [2, 3, 4, 1, 0] rfl)
  exact L6 ((2 - 0) + 1) 0 0 (by omega) (rfl) (Nat.lt_succ_self _) _ (lv_sub hl [2, 3, 4, 1, 0] rfl)

set_option maxHeartbeats 1200000 in
set_option maxRecDepth 100000 in
theorem c_L_kind (l : Launch) (D : va_G) (Y : vY) (dd : Nat) (c : Nat) (r : Nat) (dx : Int32) (dy : Int32) (li : Nat) (w : Int64) (hC : Cr c r) (hl0 : li < al c r) : Ro l yL_kind wsL_kind ({ frames := 3, cells := 0, slots := 0, locals := 73 } : Room) [.ref dd, .int (nI li), .long w] D Y [(dd, .inl (Y.1, 4, .inl (dF (nI c) (nI r) dx dy)))] (some (.int (nI (knd c r w li)))) := by
  refine ro_intro (by decide +kernel) rfl (Nat.le_of_ble_eq_true rfl) [(0, .ref dd), (1, .int (nI li)), (2, .long w)] rfl ?_
  intro pG eG sG mG aG bG tG cG ls hx hb hr hml hts hown hlocks hK hP hl
  have hP : va_P D vwCl [(dd, .inl (Y.1, 4, .inl (dF (nI c) (nI r) dx dy)))] sG.heap := hP
  have hown : sG.vm.findClass RL = some mG.cls := hown
  have hl : lv_has ls 5 [(0, .ref dd), (1, .int (nI li)), (2, .long w)] := hl
  obtain ⟨hq1, hq2, hq3, hq4, hq5, hq6, hq7, hq8, hq9, hq10, hq11⟩ := hC.q
  refine lv_lload_n (pc := 0) hx hb dL_kind_0 rfl (lv_at hl 2 rfl) ?_
  refine lv_iload_n (pc := 1) hx hb dL_kind_1 rfl (lv_at hl 1 rfl) ?_
  refine ro_go (pc := 2) (va_runS (As := [.long w, .int (nI li)]) (rest := []) ⟨hx, hb, hml, hown, hts⟩ (c_L_has l D Y w li (by first | assumption | omega)) (va_cwS 2 hts gL_kind_L_has rfl rfl rfl hdL_has ⟨Nat.le_of_ble_eq_true rfl, Nat.le_of_ble_eq_true rfl⟩) (ro_pS hK (hP.sub [] rfl)) rfl rfl hl.1 rfl (lv_room (Nat.le_of_ble_eq_true rfl)) dL_kind_2 ⟨Nat.le_of_ble_eq_true rfl, Nat.le_of_ble_eq_true rfl⟩) ?_
  refine z_if_eq (pc := 5) (tgt := 10) hx hb dL_kind_5 (by decide) (fun c5 => ?_) (fun c5 => ?_)
  · refine lv_aload_n (pc := 10) hx hb dL_kind_10 rfl (lv_at hl 0 rfl) ?_
    refine lv_iload_n (pc := 11) hx hb dL_kind_11 rfl (lv_at hl 1 rfl) ?_
    refine lv_lload_n (pc := 12) hx hb dL_kind_12 rfl (lv_at hl 2 rfl) ?_
    refine ro_go (pc := 13) (va_runS (As := [.ref dd, .int (nI li), .long w]) (rest := []) ⟨hx, hb, hml, hown, hts⟩ (c_L_gain l D Y dd c r dx dy li w (hC) (hl0)) (va_cwS 3 hts gL_kind_L_gain rfl rfl rfl hdL_gain ⟨Nat.le_of_ble_eq_true rfl, Nat.le_of_ble_eq_true rfl⟩) (ro_pS hK hP) rfl rfl hl.1 rfl (lv_room (Nat.le_of_ble_eq_true rfl)) dL_kind_13 ⟨Nat.le_of_ble_eq_true rfl, Nat.le_of_ble_eq_true rfl⟩) ?_
    refine n_if_le (pc := 16) (tgt := 21) hx hb (by have := gaL_le c r w li; omega) dL_kind_16 (by decide) (fun c16 => ?_) (fun c16 => ?_)
    · refine lv_iconst (pc := 21) (v := nI 0) hx hb dL_kind_21 rfl ?_
      refine lv_istore (pc := 22) (lv' := [(4, .int (nI 0)), (0, .ref dd), (1, .int (nI li)), (2, .long w)]) hx hb dL_kind_22 hl (by decide) rfl (fun ls hl => ?_)
      have L24 : ∀ (n24 : Nat), ∀ (i : Nat), (i ≤ 2) → (∀ j, j < i → bq 2 c r w li j = false) → 2 - i < n24 → ∀ (ls : Array Slot), lv_has ls 5 [(0, .ref dd), (1, .int (nI li)), (2, .long w), (4, .int (nI i))] → W pG l eG ({ frames := 3, cells := 0, slots := 0, locals := 73 } : Room) sG mG aG bG tG cG sG.heap [] 0 0 (MQ bG (RoQ (some (.int (nI (knd c r w li))))) aG sG 0 0 (fun _ => False)) (F0 mG 24 ls []) := by
        intro n24
        induction n24 with
        | zero =>
          intro i hi hno hmeas24  ls hl
          exact absurd hmeas24 (Nat.not_lt_zero _)
        | succ n24 ih24 =>
          intro i hi hno hmeas24  ls hl
          refine lv_iload (pc := 24) hx hb dL_kind_24 (lv_at hl 3 rfl) ?_
          refine lv_iconst (pc := 26) (v := nI 2) hx hb dL_kind_26 rfl ?_
          refine n_icmp_ge (pc := 27) (tgt := 64) hx hb (by omega) (by omega) dL_kind_27 (by decide) (fun c27 => ?_) (fun c27 => ?_)
          · refine lv_iconst (pc := 64) (v := nI 2) hx hb dL_kind_64 rfl ?_
            exact ro_iret (v := nI 2) hx hb hr hlocks (by have hob2 : orb (bq 2 c r w li) 2 = false := Bool.eq_false_iff.mpr (fun q => by obtain ⟨j, hj, hq⟩ := orb_iff.mp q; rw [hno j (by omega)] at hq; cases hq); have hgn : ¬ 0 < gai c r w li := (by rw [← gaL_f c5, c16]; decide); unfold knd lvo; rw [c5, if_neg hgn, hob2]; rfl) dL_kind_65
          refine lv_aload_n (pc := 30) hx hb dL_kind_30 rfl (lv_at hl 0 rfl) ?_
          refine lv_iload_n (pc := 31) hx hb dL_kind_31 rfl (lv_at hl 1 rfl) ?_
          refine lv_iload (pc := 32) hx hb dL_kind_32 (lv_at hl 3 rfl) ?_
          refine ro_go (pc := 34) (va_runS (As := [.ref dd, .int (nI li), .int (nI i)]) (rest := []) ⟨hx, hb, hml, hown, hts⟩ (c_L_beside l D Y dd c r dx dy li i (hC) (hl0) (by first | assumption | omega)) (va_cwS 3 hts gL_kind_L_beside rfl rfl rfl hdL_beside ⟨Nat.le_of_ble_eq_true rfl, Nat.le_of_ble_eq_true rfl⟩) (ro_pS hK hP) rfl rfl hl.1 rfl (lv_room (Nat.le_of_ble_eq_true rfl)) dL_kind_34 ⟨Nat.le_of_ble_eq_true rfl, Nat.le_of_ble_eq_true rfl⟩) ?_
          refine lv_topi (fun x34 ex34 => ?_)
          refine lv_if_lt (pc := 37) (tgt := 58) hx hb dL_kind_37 (by decide) (fun c37 => ?_) (fun c37 => ?_)
          · have hbn := oI_neg ex34 c37 (fun b h => by have := bes_lt hC hl0 h; omega)
            refine lv_iinc (pc := 58) (v := nI (i + 1)) (lv' := [(4, .int (nI (i + 1))), (0, .ref dd), (1, .int (nI li)), (2, .long w)]) hx hb dL_kind_58 hl (k := 3) rfl (n_inc i 1) (by decide) rfl (fun ls hl => ?_)
            refine lv_goto (pc := 61) (tgt := 24) hx hb dL_kind_61 (by decide) ?_
            exact ih24 (i + 1) (by omega) (lt_s hno (bq_none hbn)) (by omega) _ (lv_sub hl [1, 2, 3, 0] rfl)
          obtain ⟨bb, hbb, hxb⟩ := oI_pos ex34 c37
          have hbbl := bes_lt hC hl0 hbb
          refine lv_aload_n (pc := 40) hx hb dL_kind_40 rfl (lv_at hl 0 rfl) ?_
          refine lv_aload_n (pc := 41) hx hb dL_kind_41 rfl (lv_at hl 0 rfl) ?_
          refine lv_iload_n (pc := 42) hx hb dL_kind_42 rfl (lv_at hl 1 rfl) ?_
          refine lv_iload (pc := 43) hx hb dL_kind_43 (lv_at hl 3 rfl) ?_
          refine ro_go (pc := 45) (va_runS (As := [.ref dd, .int (nI li), .int (nI i)]) (rest := [.ref dd]) ⟨hx, hb, hml, hown, hts⟩ (c_L_beside l D Y dd c r dx dy li i (hC) (hl0) (by first | assumption | omega)) (va_cwS 3 hts gL_kind_L_beside rfl rfl rfl hdL_beside ⟨Nat.le_of_ble_eq_true rfl, Nat.le_of_ble_eq_true rfl⟩) (ro_pS hK hP) rfl rfl hl.1 rfl (lv_room (Nat.le_of_ble_eq_true rfl)) dL_kind_45 ⟨Nat.le_of_ble_eq_true rfl, Nat.le_of_ble_eq_true rfl⟩) ?_
          refine lv_topi (fun x45 ex45 => ?_)
          have hxq : x45 = nI bb := by rw [ex45, hbb]; rfl
          subst hxq
          refine lv_lload_n (pc := 48) hx hb dL_kind_48 rfl (lv_at hl 2 rfl) ?_
          refine ro_go (pc := 49) (va_runS (As := [.ref dd, .int (nI bb), .long w]) (rest := []) ⟨hx, hb, hml, hown, hts⟩ (c_L_open l D Y dd c r dx dy bb w (hC) (hbbl)) (va_cwS 3 hts gL_kind_L_open rfl rfl rfl hdL_open ⟨Nat.le_of_ble_eq_true rfl, Nat.le_of_ble_eq_true rfl⟩) (ro_pS hK hP) rfl rfl hl.1 rfl (lv_room (Nat.le_of_ble_eq_true rfl)) dL_kind_49 ⟨Nat.le_of_ble_eq_true rfl, Nat.le_of_ble_eq_true rfl⟩) ?_
          refine lv_iconst (pc := 52) (v := nI 2) hx hb dL_kind_52 rfl ?_
          refine n_icmp_ne (pc := 53) (tgt := 58) hx hb (by have := opn_le c r w bb; omega) (by decide) dL_kind_53 (by decide) (fun c53 => ?_) (fun c53 => ?_)
          · refine lv_iinc (pc := 58) (v := nI (i + 1)) (lv' := [(4, .int (nI (i + 1))), (0, .ref dd), (1, .int (nI li)), (2, .long w)]) hx hb dL_kind_58 hl (k := 3) rfl (n_inc i 1) (by decide) rfl (fun ls hl => ?_)
            refine lv_goto (pc := 61) (tgt := 24) hx hb dL_kind_61 (by decide) ?_
            exact ih24 (i + 1) (by omega) (lt_s hno (by rw [bq_some hbb]; exact decide_eq_false c53)) (by omega) _ (lv_sub hl [1, 2, 3, 0] rfl)
          refine lv_iconst (pc := 56) (v := nI 3) hx hb dL_kind_56 rfl ?_
          exact ro_iret (v := nI 3) hx hb hr hlocks (by have hob2 : orb (bq 2 c r w li) 2 = true := orb_iff.mpr ⟨i, by omega, by rw [bq_some hbb]; exact decide_eq_true c53⟩; have hgn : ¬ 0 < gai c r w li := (by rw [← gaL_f c5, c16]; decide); unfold knd lvo; rw [c5, if_neg hgn, hob2]; rfl) dL_kind_57
      exact L24 ((2 - 0) + 1) 0 (by omega) (fun j h => absurd h (Nat.not_lt_zero _)) (Nat.lt_succ_self _) _ (lv_sub hl [1, 2, 3, 0] rfl)
    refine lv_iconst (pc := 19) (v := nI 1) hx hb dL_kind_19 rfl ?_
    exact ro_iret (v := nI 1) hx hb hr hlocks (by have hgp : 0 < gai c r w li := (by rw [← gaL_f c5]; exact c16); unfold knd; rw [c5, if_pos hgp]; rfl) dL_kind_20
  refine lv_iconst (pc := 8) (v := nI 0) hx hb dL_kind_8 rfl ?_
  exact ro_iret (v := nI 0) hx hb hr hlocks (by unfold knd; rw [c5]; rfl) dL_kind_9

set_option maxHeartbeats 1200000 in
set_option maxRecDepth 100000 in
theorem c_L_first (l : Launch) (D : va_G) (Y : vY) (dd : Nat) (c : Nat) (r : Nat) (dx : Int32) (dy : Int32) (K : Nat) (w : Int64) (hC : Cr c r) (hK3 : K ≤ 3) : Ro l yL_first wsL_first ({ frames := 4, cells := 0, slots := 0, locals := 97 } : Room) [.ref dd, .int (nI K), .long w] D Y [(dd, .inl (Y.1, 4, .inl (dF (nI c) (nI r) dx dy)))] (some (.int (oI (fstk c r w K)))) := by
  refine ro_intro (by decide +kernel) rfl (Nat.le_of_ble_eq_true rfl) [(0, .ref dd), (1, .int (nI K)), (2, .long w)] rfl ?_
  intro pG eG sG mG aG bG tG cG ls hx hb hr hml hts hown hlocks hK hP hl
  have hP : va_P D vwCl [(dd, .inl (Y.1, 4, .inl (dF (nI c) (nI r) dx dy)))] sG.heap := hP
  have hown : sG.vm.findClass RL = some mG.cls := hown
  have hl : lv_has ls 5 [(0, .ref dd), (1, .int (nI K)), (2, .long w)] := hl
  obtain ⟨hq1, hq2, hq3, hq4, hq5, hq6, hq7, hq8, hq9, hq10, hq11⟩ := hC.q
  refine lv_iconst (pc := 0) (v := nI 0) hx hb dL_first_0 rfl ?_
  refine lv_istore (pc := 1) (lv' := [(4, .int (nI 0)), (0, .ref dd), (1, .int (nI K)), (2, .long w)]) hx hb dL_first_1 hl (by decide) rfl (fun ls hl => ?_)
  have L3 : ∀ (n3 : Nat), ∀ (i : Nat), (i ≤ al c r) → (∀ j, j < i → kp c r w K j = false) → al c r - i < n3 → ∀ (ls : Array Slot), lv_has ls 5 [(0, .ref dd), (1, .int (nI K)), (2, .long w), (4, .int (nI i))] → W pG l eG ({ frames := 4, cells := 0, slots := 0, locals := 97 } : Room) sG mG aG bG tG cG sG.heap [] 0 0 (MQ bG (RoQ (some (.int (oI (fstk c r w K))))) aG sG 0 0 (fun _ => False)) (F0 mG 3 ls []) := by
    intro n3
    induction n3 with
    | zero =>
      intro i hi hno hmeas3  ls hl
      exact absurd hmeas3 (Nat.not_lt_zero _)
    | succ n3 ih3 =>
      intro i hi hno hmeas3  ls hl
      refine lv_iload (pc := 3) hx hb dL_first_3 (lv_at hl 3 rfl) ?_
      refine lv_aload_n (pc := 5) hx hb dL_first_5 rfl (lv_at hl 0 rfl) ?_
      refine ro_go (pc := 6) (va_runS (As := [.ref dd]) (rest := [.int (nI i)]) ⟨hx, hb, hml, hown, hts⟩ (c_L_lines l D Y dd c r dx dy (hC)) (va_cwS 1 hts gL_first_L_lines rfl rfl rfl hdL_lines ⟨Nat.le_of_ble_eq_true rfl, Nat.le_of_ble_eq_true rfl⟩) (ro_pS hK hP) rfl rfl hl.1 rfl (lv_room (Nat.le_of_ble_eq_true rfl)) dL_first_6 ⟨Nat.le_of_ble_eq_true rfl, Nat.le_of_ble_eq_true rfl⟩) ?_
      refine n_icmp_ge (pc := 9) (tgt := 32) hx hb (by omega) (by omega) dL_first_9 (by decide) (fun c9 => ?_) (fun c9 => ?_)
      · refine lv_iconst (pc := 32) (v := (-1)) hx hb dL_first_32 (by decide) ?_
        exact ro_iret (v := (-1)) hx hb hr hlocks (by unfold fstk; rw [fst1_none (fun j h => hno j (by omega))]; rfl) dL_first_33
      refine lv_aload_n (pc := 12) hx hb dL_first_12 rfl (lv_at hl 0 rfl) ?_
      refine lv_iload (pc := 13) hx hb dL_first_13 (lv_at hl 3 rfl) ?_
      refine lv_lload_n (pc := 15) hx hb dL_first_15 rfl (lv_at hl 2 rfl) ?_
      refine ro_go (pc := 16) (va_runS (As := [.ref dd, .int (nI i), .long w]) (rest := []) ⟨hx, hb, hml, hown, hts⟩ (c_L_kind l D Y dd c r dx dy i w (hC) (by first | assumption | omega)) (va_cwS 3 hts gL_first_L_kind rfl rfl rfl hdL_kind ⟨Nat.le_of_ble_eq_true rfl, Nat.le_of_ble_eq_true rfl⟩) (ro_pS hK hP) rfl rfl hl.1 rfl (lv_room (Nat.le_of_ble_eq_true rfl)) dL_first_16 ⟨Nat.le_of_ble_eq_true rfl, Nat.le_of_ble_eq_true rfl⟩) ?_
      refine lv_iload_n (pc := 19) hx hb dL_first_19 rfl (lv_at hl 1 rfl) ?_
      refine n_icmp_ne (pc := 20) (tgt := 26) hx hb (by have := knd_le c r w i; omega) (by omega) dL_first_20 (by decide) (fun c20 => ?_) (fun c20 => ?_)
      · refine lv_iinc (pc := 26) (v := nI (i + 1)) (lv' := [(4, .int (nI (i + 1))), (0, .ref dd), (1, .int (nI K)), (2, .long w)]) hx hb dL_first_26 hl (k := 3) rfl (n_inc i 1) (by decide) rfl (fun ls hl => ?_)
        refine lv_goto (pc := 29) (tgt := 3) hx hb dL_first_29 (by decide) ?_
        exact ih3 (i + 1) (by omega) (lt_s hno (decide_eq_false c20)) (by omega) _ (lv_sub hl [1, 2, 3, 0] rfl)
      refine lv_iload (pc := 23) hx hb dL_first_23 (lv_at hl 3 rfl) ?_
      exact ro_iret (v := nI i) hx hb hr hlocks (by unfold fstk; rw [fst1_some hno (decide_eq_true c20) c9]; rfl) dL_first_25
  exact L3 ((al c r - 0) + 1) 0 (by omega) (fun j h => absurd h (Nat.not_lt_zero _)) (Nat.lt_succ_self _) _ (lv_sub hl [1, 2, 3, 0] rfl)

set_option maxHeartbeats 1200000 in
set_option maxRecDepth 100000 in
theorem c_L_run (l : Launch) (D : va_G) (Y : vY) (dd : Nat) (c : Nat) (r : Nat) (dx : Int32) (dy : Int32) (w : Int64) (hC : Cr c r) : Ro l yL_run wsL_run ({ frames := 5, cells := 0, slots := 0, locals := 121 } : Room) [.ref dd, .long w] D Y [(dd, .inl (Y.1, 4, .inl (dF (nI c) (nI r) dx dy)))] (some (.int (nI (run c r w)))) := by
  refine ro_intro (by decide +kernel) rfl (Nat.le_of_ble_eq_true rfl) [(0, .ref dd), (1, .long w)] rfl ?_
  intro pG eG sG mG aG bG tG cG ls hx hb hr hml hts hown hlocks hK hP hl
  have hP : va_P D vwCl [(dd, .inl (Y.1, 4, .inl (dF (nI c) (nI r) dx dy)))] sG.heap := hP
  have hown : sG.vm.findClass RL = some mG.cls := hown
  have hl : lv_has ls 6 [(0, .ref dd), (1, .long w)] := hl
  obtain ⟨hq1, hq2, hq3, hq4, hq5, hq6, hq7, hq8, hq9, hq10, hq11⟩ := hC.q
  refine lv_lload_n (pc := 0) hx hb dL_run_0 rfl (lv_at hl 1 rfl) ?_
  refine lv_lstore_n (pc := 1) (lv' := [(3, .long w), (0, .ref dd), (1, .long w)]) hx hb dL_run_1 rfl hl (by decide) rfl (fun ls hl => ?_)
  refine lv_aload_n (pc := 2) hx hb dL_run_2 rfl (lv_at hl 1 rfl) ?_
  refine lv_iconst (pc := 3) (v := nI 1) hx hb dL_run_3 rfl ?_
  refine lv_lload_n (pc := 4) hx hb dL_run_4 rfl (lv_at hl 0 rfl) ?_
  refine ro_go (pc := 5) (va_runS (As := [.ref dd, .int (nI 1), .long w]) (rest := []) ⟨hx, hb, hml, hown, hts⟩ (c_L_first l D Y dd c r dx dy 1 w (hC) (by first | decide | omega)) (va_cwS 3 hts gL_run_L_first rfl rfl rfl hdL_first ⟨Nat.le_of_ble_eq_true rfl, Nat.le_of_ble_eq_true rfl⟩) (ro_pS hK hP) rfl rfl hl.1 rfl (lv_room (Nat.le_of_ble_eq_true rfl)) dL_run_5 ⟨Nat.le_of_ble_eq_true rfl, Nat.le_of_ble_eq_true rfl⟩) ?_
  refine lv_topi (fun x5 ex5 => ?_)
  refine lv_istore (pc := 8) (lv' := [(5, .int x5), (3, .long w), (0, .ref dd), (1, .long w)]) hx hb dL_run_8 hl (by decide) rfl (fun ls hl => ?_)
  have L10 : ∀ (n10 : Nat), ∀ (f : Nat) (u : Int64) (x : Int32), (x = oI (fstk c r u 1)) → (und c r u < f) → (cmpl c r u + rnF c r f u = cmpl c r w + run c r w) → f < n10 → ∀ (ls : Array Slot), lv_has ls 6 [(0, .ref dd), (1, .long w), (3, .long u), (5, .int x)] → W pG l eG ({ frames := 5, cells := 0, slots := 0, locals := 121 } : Room) sG mG aG bG tG cG sG.heap [] 0 0 (MQ bG (RoQ (some (.int (nI (run c r w))))) aG sG 0 0 (fun _ => False)) (F0 mG 10 ls []) := by
    intro n10
    induction n10 with
    | zero =>
      intro f u x hxx hu hs hmeas10  ls hl
      exact absurd hmeas10 (Nat.not_lt_zero _)
    | succ n10 ih10 =>
      intro f u x hxx hu hs hmeas10  ls hl
      refine lv_iload (pc := 10) hx hb dL_run_10 (lv_at hl 3 rfl) ?_
      refine lv_if_lt (pc := 12) (tgt := 33) hx hb dL_run_12 (by decide) (fun c12 => ?_) (fun c12 => ?_)
      · have hbn := oI_neg hxx c12 (fun b h => by have := (fst1_is h).1; omega)
        refine lv_aload_n (pc := 33) hx hb dL_run_33 rfl (lv_at hl 0 rfl) ?_
        refine lv_iconst (pc := 34) (v := nI 0) hx hb dL_run_34 rfl ?_
        refine lv_lload_n (pc := 35) hx hb dL_run_35 rfl (lv_at hl 2 rfl) ?_
        refine ro_go (pc := 36) (va_runS (As := [.ref dd, .int (nI 0), .long u]) (rest := []) ⟨hx, hb, hml, hown, hts⟩ (c_L_with l D Y dd c r dx dy 0 u (hC) (by first | decide | omega)) (va_cwS 3 hts gL_run_L_with rfl rfl rfl hdL_with ⟨Nat.le_of_ble_eq_true rfl, Nat.le_of_ble_eq_true rfl⟩) (ro_pS hK hP) rfl rfl hl.1 rfl (lv_room (Nat.le_of_ble_eq_true rfl)) dL_run_36 ⟨Nat.le_of_ble_eq_true rfl, Nat.le_of_ble_eq_true rfl⟩) ?_
        refine lv_aload_n (pc := 39) hx hb dL_run_39 rfl (lv_at hl 0 rfl) ?_
        refine lv_iconst (pc := 40) (v := nI 0) hx hb dL_run_40 rfl ?_
        refine lv_lload_n (pc := 41) hx hb dL_run_41 rfl (lv_at hl 1 rfl) ?_
        refine ro_go (pc := 42) (va_runS (As := [.ref dd, .int (nI 0), .long w]) (rest := [.int (nI (wth c r u 0))]) ⟨hx, hb, hml, hown, hts⟩ (c_L_with l D Y dd c r dx dy 0 w (hC) (by first | decide | omega)) (va_cwS 3 hts gL_run_L_with rfl rfl rfl hdL_with ⟨Nat.le_of_ble_eq_true rfl, Nat.le_of_ble_eq_true rfl⟩) (ro_pS hK hP) rfl rfl hl.1 rfl (lv_room (Nat.le_of_ble_eq_true rfl)) dL_run_42 ⟨Nat.le_of_ble_eq_true rfl, Nat.le_of_ble_eq_true rfl⟩) ?_
        refine n_isub (pc := 45) hx hb (by rw [wth_0, wth_0]; rw [rn_none hbn] at hs; omega) dL_run_45 ?_
        exact ro_iret (v := nI ((wth c r u 0) - (wth c r w 0))) hx hb hr hlocks (by rw [wth_0, wth_0]; rw [rn_none hbn] at hs; congr 1; omega) dL_run_46
      obtain ⟨bb, hbb, rfl⟩ := oI_pos hxx c12
      have hbi := fst1_is hbb
      have hbl : bb < al c r := hbi.1
      have htb : tb u bb = false := knd_1 (c := c) (r := r) (by have := kp_t hbi.2.1; omega)
      have hl : lv_has ls 6 [(0, .ref dd), (1, .long w), (3, .long u), (5, .int (nI bb))] := hl
      refine lv_lload_n (pc := 15) hx hb dL_run_15 rfl (lv_at hl 2 rfl) ?_
      refine lv_lconst (pc := 16) (v := 1) hx hb dL_run_16 (by decide) ?_
      refine lv_iload (pc := 17) hx hb dL_run_17 (lv_at hl 3 rfl) ?_
      refine lv_lshl (pc := 19) (v := b1 bb) hx hb dL_run_19 (b1_shl bb (by omega)) ?_
      refine lv_lor (pc := 20) hx hb dL_run_20 ?_
      refine lv_lstore_n (pc := 21) (lv' := [(3, .long (u ||| (b1 bb))), (0, .ref dd), (1, .long w), (5, .int (nI bb))]) hx hb dL_run_21 rfl hl (by decide) rfl (fun ls hl => ?_)
      refine lv_aload_n (pc := 22) hx hb dL_run_22 rfl (lv_at hl 1 rfl) ?_
      refine lv_iconst (pc := 23) (v := nI 1) hx hb dL_run_23 rfl ?_
      refine lv_lload_n (pc := 24) hx hb dL_run_24 rfl (lv_at hl 0 rfl) ?_
      refine ro_go (pc := 25) (va_runS (As := [.ref dd, .int (nI 1), .long (u ||| (b1 bb))]) (rest := []) ⟨hx, hb, hml, hown, hts⟩ (c_L_first l D Y dd c r dx dy 1 (u ||| (b1 bb)) (hC) (by first | decide | omega)) (va_cwS 3 hts gL_run_L_first rfl rfl rfl hdL_first ⟨Nat.le_of_ble_eq_true rfl, Nat.le_of_ble_eq_true rfl⟩) (ro_pS hK hP) rfl rfl hl.1 rfl (lv_room (Nat.le_of_ble_eq_true rfl)) dL_run_25 ⟨Nat.le_of_ble_eq_true rfl, Nat.le_of_ble_eq_true rfl⟩) ?_
      refine lv_topi (fun x25 ex25 => ?_)
      refine lv_istore (pc := 28) (lv' := [(5, .int x25), (3, .long (u ||| (b1 bb))), (0, .ref dd), (1, .long w)]) hx hb dL_run_28 hl (by decide) rfl (fun ls hl => ?_)
      refine lv_goto (pc := 30) (tgt := 10) hx hb dL_run_30 (by decide) ?_
      exact ih10 (f - 1) (u ||| (b1 bb)) x25 (ex25) (by have := und_step hC hbl htb; omega) (by rw [← hs, cmpl_draw hC hbl htb, rn_some (by omega) hbb, Nat.add_assoc]) (by omega) _ (lv_sub hl [2, 3, 1, 0] rfl)
  exact L10 (41 + 1) 41 w x5 (ex5) (by have := und_le c r w; omega) (rfl) (Nat.lt_succ_self _) _ (lv_sub hl [2, 3, 1, 0] rfl)
