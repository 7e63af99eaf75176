set_option maxHeartbeats 1200000 in
set_option maxRecDepth 100000 in
theorem c_X1_add (l : Launch) (D : va_G) (Y : vY) (ip : Nat) (bd : Nat) (bc : Nat) (len : Nat) (bu : Nat → Int32) (x : Int32) (hlen : len < 60) : Mu l yX1_add wsX1_add ({ frames := 1, cells := 0, slots := 0, locals := 22 } : Room) [.ref ip, .int x] D Y [(ip, .inr (1, [.int (nI len), .ref bd, .ref bc])), (bc, .inl (Y.1, 60, .inl bu))] (fun _ : Unit => none) (fun _ : Unit => [(ip, .inr (1, [.int (nI (len + 1)), .ref bd, .ref bc])), (bc, .inl (Y.1, 60, .inl (upd bu len x)))]) (fun _ : Unit => True) := by
  refine mu_intro (by decide +kernel) rfl (Nat.le_of_ble_eq_true rfl) [(0, .ref ip), (1, .int x)] rfl ?_
  intro pG eG sG mG aG bG tG cG ls hx hb hr hml hts hown hlocks hK hP hD hS hl
  generalize hAA : adA [(ip, .inr (1, [.int (nI len), .ref bd, .ref bc])), (bc, .inl (Y.1, 60, .inl bu))] = AA at hD hS ⊢
  have hP : va_P D vwCl [(ip, .inr (1, [.int (nI len), .ref bd, .ref bc])), (bc, .inl (Y.1, 60, .inl bu))] sG.heap := hP
  have hD : va_D AA [(ip, .inr (1, [.int (nI len), .ref bd, .ref bc])), (bc, .inl (Y.1, 60, .inl bu))] := hD
  have hown : sG.vm.findClass RX1 = some mG.cls := hown
  have hl : lv_has ls 2 [(0, .ref ip), (1, .int x)] := hl
  have hinX1 : ∀ w ∈ u_ws RX1 TX1 3, w ∈ wsX1_add := by decide +kernel
  have hS : va_S AA sG.heap sG.heap [] := hS
  refine lv_aload_n (pc := 0) hx hb dX1_add_0 rfl (lv_at hl 0 rfl) ?_
  refine va_get (pc := 1) (D := D) (ci := 1) (v := .ref bc) (C := RX1) (T := TX1) (N := 3) hx hb hts hinX1 hown hK.1 hP 0 rfl rfl 2 (by decide) (hts (.fieldLink RX1 9 "BoxesGame$Input" "codes" "[I") (List.mem_of_getElem? (i := 1) rfl)) (fun _ h9 => h9) rfl dX1_add_1 ?_
  refine lv_aload_n (pc := 4) hx hb dX1_add_4 rfl (lv_at hl 0 rfl) ?_
  refine va_get (pc := 5) (D := D) (ci := 1) (v := .int (nI len)) (C := RX1) (T := TX1) (N := 3) hx hb hts hinX1 hown hK.1 hP 0 rfl rfl 0 (by decide) (hts (.fieldLink RX1 19 "BoxesGame$Input" "length" "I") (List.mem_of_getElem? (i := 2) rfl)) (fun _ h9 => h9) rfl dX1_add_5 ?_
  refine lv_iload_n (pc := 8) hx hb dX1_add_8 rfl (lv_at hl 1 rfl) ?_
  refine mu_go (pc := 9) (va_runS (As := [.ref bc, .int (nI len), .int x]) (rest := []) ⟨hx, hb, hml, hown, hts⟩ (c_X3_put_in l D Y 60 bu bc len x (by decide) (hlen)) (va_cwS 3 hts gX1_add_X3_put rfl rfl rfl hdX3_put ⟨Nat.le_of_ble_eq_true rfl, Nat.le_of_ble_eq_true rfl⟩) (mu_pS hK (hP.sub [1] rfl) (hD.sub [1] (by decide) rfl)) rfl rfl hl.1 rfl (lv_room (Nat.le_of_ble_eq_true rfl)) dX1_add_9 ⟨Nat.le_of_ble_eq_true rfl, Nat.le_of_ble_eq_true rfl⟩) hP hD hS [1] rfl (by decide) (fun _ => [(ip, .inr (1, [.int (nI len), .ref bd, .ref bc])), (bc, .inl (Y.1, 60, .inl (upd bu len x)))]) (fun _ => rfl) (fun _ => rfl) (fun uS H locs hpost hP hD hS => ?_)
  have hP : va_P D vwCl [(ip, .inr (1, [.int (nI len), .ref bd, .ref bc])), (bc, .inl (Y.1, 60, .inl (upd bu len x)))] H := hP
  have hD : va_D AA [(ip, .inr (1, [.int (nI len), .ref bd, .ref bc])), (bc, .inl (Y.1, 60, .inl (upd bu len x)))] := hD
  refine lv_aload_n (pc := 12) hx hb dX1_add_12 rfl (lv_at hl 0 rfl) ?_
  refine lv_dup (pc := 13) hx hb dX1_add_13 rfl ?_
  refine va_get (pc := 14) (D := D) (ci := 1) (v := .int (nI len)) (C := RX1) (T := TX1) (N := 3) hx hb hts hinX1 hown hK.1 hP 0 rfl rfl 0 (by decide) (hts (.fieldLink RX1 19 "BoxesGame$Input" "length" "I") (List.mem_of_getElem? (i := 2) rfl)) (fun _ h9 => h9) rfl dX1_add_14 ?_
  refine lv_iconst (pc := 17) (v := nI 1) hx hb dX1_add_17 rfl ?_
  refine n_iadd (pc := 18) hx hb dX1_add_18 ?_
  refine va_put (pc := 19) (D := D) (ci := 1) (v := .int (nI (len + 1))) (ty := .int) (C := RX1) (T := TX1) (N := 3) hx hb hts hinX1 tyX1 tyX1_ok nmX1 hown hK.1 hP hD hS 0 rfl rfl 0 (by decide) (hts (.fieldLink RX1 19 "BoxesGame$Input" "length" "I") (List.mem_of_getElem? (i := 2) rfl)) (fun _ h9 => h9) rfl (by decide +kernel) (rfl) (rfl) (Nat.le_of_ble_eq_true rfl) dX1_add_19 (fun H locs hP hD hS => ?_)
  have hP : va_P D vwCl [(ip, .inr (1, [.int (nI (len + 1)), .ref bd, .ref bc])), (bc, .inl (Y.1, 60, .inl (upd bu len x)))] H := hP
  have hD : va_D AA [(ip, .inr (1, [.int (nI (len + 1)), .ref bd, .ref bc])), (bc, .inl (Y.1, 60, .inl (upd bu len x)))] := hD
  subst hAA
  exact mu_vret hx hb hr hlocks hP hS (()) (rfl) (trivial) (rfl) dX1_add_22

set_option maxHeartbeats 1200000 in
set_option maxRecDepth 100000 in
theorem c_X1_codeAt (l : Launch) (D : va_G) (Y : vY) (ip : Nat) (bd : Nat) (bc : Nat) (len : Nat) (bu : Nat → Int32) (i : Nat) (hi60 : i < 60) : Ro l yX1_codeAt wsX1_codeAt ({ frames := 1, cells := 0, slots := 0, locals := 21 } : Room) [.ref ip, .int (nI i)] D Y [(ip, .inr (1, [.int (nI len), .ref bd, .ref bc])), (bc, .inl (Y.1, 60, .inl bu))] (some (.int (bu i))) := by
  refine ro_intro (by decide +kernel) rfl (Nat.le_of_ble_eq_true rfl) [(0, .ref ip), (1, .int (nI i))] rfl ?_
  intro pG eG sG mG aG bG tG cG ls hx hb hr hml hts hown hlocks hK hP hl
  have hP : va_P D vwCl [(ip, .inr (1, [.int (nI len), .ref bd, .ref bc])), (bc, .inl (Y.1, 60, .inl bu))] sG.heap := hP
  have hown : sG.vm.findClass RX1 = some mG.cls := hown
  have hl : lv_has ls 2 [(0, .ref ip), (1, .int (nI i))] := hl
  have hinX1 : ∀ w ∈ u_ws RX1 TX1 3, w ∈ wsX1_codeAt := by decide +kernel
  refine lv_aload_n (pc := 0) hx hb dX1_codeAt_0 rfl (lv_at hl 0 rfl) ?_
  refine va_get (pc := 1) (D := D) (ci := 1) (v := .ref bc) (C := RX1) (T := TX1) (N := 3) hx hb hts hinX1 hown hK.1 hP 0 rfl rfl 2 (by decide) (hts (.fieldLink RX1 9 "BoxesGame$Input" "codes" "[I") (List.mem_of_getElem? (i := 1) rfl)) (fun _ h9 => h9) rfl dX1_codeAt_1 ?_
  refine lv_iload_n (pc := 4) hx hb dX1_codeAt_4 rfl (lv_at hl 1 rfl) ?_
  refine ro_go (pc := 5) (va_runS (As := [.ref bc, .int (nI i)]) (rest := []) ⟨hx, hb, hml, hown, hts⟩ (c_X3_at_in l D Y 60 bu bc i (by decide) (hi60)) (va_cwS 2 hts gX1_codeAt_X3_at rfl rfl rfl hdX3_at ⟨Nat.le_of_ble_eq_true rfl, Nat.le_of_ble_eq_true rfl⟩) (ro_pS hK (hP.sub [1] rfl)) rfl rfl hl.1 rfl (lv_room (Nat.le_of_ble_eq_true rfl)) dX1_codeAt_5 ⟨Nat.le_of_ble_eq_true rfl, Nat.le_of_ble_eq_true rfl⟩) ?_
  exact ro_iret (v := bu i) hx hb hr hlocks (rfl) dX1_codeAt_8

set_option maxHeartbeats 1200000 in
set_option maxRecDepth 100000 in
theorem c_X1_isVerticalAt (l : Launch) (D : va_G) (Y : vY) (ip : Nat) (bd : Nat) (bc : Nat) (len : Nat) (bu : Nat → Int32) (i : Nat) (hi60 : i < 60) : Ro l yX1_isVerticalAt wsX1_isVerticalAt ({ frames := 1, cells := 0, slots := 0, locals := 21 } : Room) [.ref ip, .int (nI i)] D Y [(ip, .inr (1, [.int (nI len), .ref bd, .ref bc])), (bc, .inl (Y.1, 60, .inl bu))] (some (.int (zb (vAt bu i)))) := by
  refine ro_intro (by decide +kernel) rfl (Nat.le_of_ble_eq_true rfl) [(0, .ref ip), (1, .int (nI i))] rfl ?_
  intro pG eG sG mG aG bG tG cG ls hx hb hr hml hts hown hlocks hK hP hl
  have hP : va_P D vwCl [(ip, .inr (1, [.int (nI len), .ref bd, .ref bc])), (bc, .inl (Y.1, 60, .inl bu))] sG.heap := hP
  have hown : sG.vm.findClass RX1 = some mG.cls := hown
  have hl : lv_has ls 2 [(0, .ref ip), (1, .int (nI i))] := hl
  have hinX1 : ∀ w ∈ u_ws RX1 TX1 3, w ∈ wsX1_isVerticalAt := by decide +kernel
  refine lv_aload_n (pc := 0) hx hb dX1_isVerticalAt_0 rfl (lv_at hl 0 rfl) ?_
  refine va_get (pc := 1) (D := D) (ci := 1) (v := .ref bc) (C := RX1) (T := TX1) (N := 3) hx hb hts hinX1 hown hK.1 hP 0 rfl rfl 2 (by decide) (hts (.fieldLink RX1 9 "BoxesGame$Input" "codes" "[I") (List.mem_of_getElem? (i := 1) rfl)) (fun _ h9 => h9) rfl dX1_isVerticalAt_1 ?_
  refine lv_iload_n (pc := 4) hx hb dX1_isVerticalAt_4 rfl (lv_at hl 1 rfl) ?_
  refine ro_go (pc := 5) (va_runS (As := [.ref bc, .int (nI i)]) (rest := []) ⟨hx, hb, hml, hown, hts⟩ (c_X3_at_in l D Y 60 bu bc i (by decide) (hi60)) (va_cwS 2 hts gX1_isVerticalAt_X3_at rfl rfl rfl hdX3_at ⟨Nat.le_of_ble_eq_true rfl, Nat.le_of_ble_eq_true rfl⟩) (ro_pS hK (hP.sub [1] rfl)) rfl rfl hl.1 rfl (lv_room (Nat.le_of_ble_eq_true rfl)) dX1_isVerticalAt_5 ⟨Nat.le_of_ble_eq_true rfl, Nat.le_of_ble_eq_true rfl⟩) ?_
  refine lv_bipush (pc := 8) (v := nI 118) hx hb dX1_isVerticalAt_8 rfl ?_
  refine lv_icmp_ne (pc := 10) (tgt := 17) hx hb dX1_isVerticalAt_10 (by decide) (fun c10 => ?_) (fun c10 => ?_)
  · refine lv_iconst (pc := 17) (v := nI 0) hx hb dX1_isVerticalAt_17 rfl ?_
    exact ro_zret hx hb hr hlocks (zb_0 (decide_eq_false c10)) dX1_isVerticalAt_18
  refine lv_iconst (pc := 13) (v := nI 1) hx hb dX1_isVerticalAt_13 rfl ?_
  refine lv_goto (pc := 14) (tgt := 18) hx hb dX1_isVerticalAt_14 (by decide) ?_
  exact ro_zret hx hb hr hlocks (zb_1 (decide_eq_true c10)) dX1_isVerticalAt_18

set_option maxHeartbeats 1200000 in
set_option maxRecDepth 100000 in
theorem c_X1_digitAt (l : Launch) (D : va_G) (Y : vY) (ip : Nat) (bd : Nat) (bc : Nat) (len : Nat) (bu : Nat → Int32) (i : Nat) (hi60 : i < 60) : Ro l yX1_digitAt wsX1_digitAt ({ frames := 1, cells := 0, slots := 0, locals := 21 } : Room) [.ref ip, .int (nI i)] D Y [(ip, .inr (1, [.int (nI len), .ref bd, .ref bc])), (bc, .inl (Y.1, 60, .inl bu))] (some (.int (bu i - nI 48))) := by
  refine ro_intro (by decide +kernel) rfl (Nat.le_of_ble_eq_true rfl) [(0, .ref ip), (1, .int (nI i))] rfl ?_
  intro pG eG sG mG aG bG tG cG ls hx hb hr hml hts hown hlocks hK hP hl
  have hP : va_P D vwCl [(ip, .inr (1, [.int (nI len), .ref bd, .ref bc])), (bc, .inl (Y.1, 60, .inl bu))] sG.heap := hP
  have hown : sG.vm.findClass RX1 = some mG.cls := hown
  have hl : lv_has ls 2 [(0, .ref ip), (1, .int (nI i))] := hl
  have hinX1 : ∀ w ∈ u_ws RX1 TX1 3, w ∈ wsX1_digitAt := by decide +kernel
  refine lv_aload_n (pc := 0) hx hb dX1_digitAt_0 rfl (lv_at hl 0 rfl) ?_
  refine va_get (pc := 1) (D := D) (ci := 1) (v := .ref bc) (C := RX1) (T := TX1) (N := 3) hx hb hts hinX1 hown hK.1 hP 0 rfl rfl 2 (by decide) (hts (.fieldLink RX1 9 "BoxesGame$Input" "codes" "[I") (List.mem_of_getElem? (i := 1) rfl)) (fun _ h9 => h9) rfl dX1_digitAt_1 ?_
  refine lv_iload_n (pc := 4) hx hb dX1_digitAt_4 rfl (lv_at hl 1 rfl) ?_
  refine ro_go (pc := 5) (va_runS (As := [.ref bc, .int (nI i)]) (rest := []) ⟨hx, hb, hml, hown, hts⟩ (c_X3_at_in l D Y 60 bu bc i (by decide) (hi60)) (va_cwS 2 hts gX1_digitAt_X3_at rfl rfl rfl hdX3_at ⟨Nat.le_of_ble_eq_true rfl, Nat.le_of_ble_eq_true rfl⟩) (ro_pS hK (hP.sub [1] rfl)) rfl rfl hl.1 rfl (lv_room (Nat.le_of_ble_eq_true rfl)) dX1_digitAt_5 ⟨Nat.le_of_ble_eq_true rfl, Nat.le_of_ble_eq_true rfl⟩) ?_
  refine lv_bipush (pc := 8) (v := nI 48) hx hb dX1_digitAt_8 rfl ?_
  refine lv_isub (pc := 10) hx hb dX1_digitAt_10 ?_
  exact ro_iret (v := (bu i) - (nI 48)) hx hb hr hlocks (rfl) dX1_digitAt_11

set_option maxHeartbeats 1200000 in
set_option maxRecDepth 100000 in
theorem c_X1_lineAt (l : Launch) (D : va_G) (Y : vY) (ip : Nat) (bd : Nat) (bc : Nat) (len : Nat) (bu : Nat → Int32) (bs : Nat) (bf : Nat) (bg : Nat) (c : Nat) (r : Nat) (sd : Nat → Int64) (fb : Nat → Int32) (gb : Nat → Int32) (i : Nat) (hC : Cr c r) (hB : BdOK c r sd fb gb) (hi60 : i + 2 < 60) : Ro l yX1_lineAt wsX1_lineAt ({ frames := 2, cells := 0, slots := 0, locals := 42 } : Room) [.ref ip, .int (nI i)] D Y [(ip, .inr (1, [.int (nI len), .ref bd, .ref bc])), (bc, .inl (Y.1, 60, .inl bu)), (bd, .inr (0, [.int (nI c), .int (nI r), .int (nI (al c r)), .int (nI (c * r)), .ref bs, .ref bf, .ref bg])), (bs, .inl (Y.2.1, 16, .inr (.inl sd))), (bf, .inl (Y.1, 40, .inl fb)), (bg, .inl (Y.1, 40, .inl gb))] (some (.int (numI c r (vAt bu i) (bu (i + 1) - nI 48) (bu (i + 2) - nI 48)))) := by
  refine ro_intro (by decide +kernel) rfl (Nat.le_of_ble_eq_true rfl) [(0, .ref ip), (1, .int (nI i))] rfl ?_
  intro pG eG sG mG aG bG tG cG ls hx hb hr hml hts hown hlocks hK hP hl
  have hP : va_P D vwCl [(ip, .inr (1, [.int (nI len), .ref bd, .ref bc])), (bc, .inl (Y.1, 60, .inl bu)), (bd, .inr (0, [.int (nI c), .int (nI r), .int (nI (al c r)), .int (nI (c * r)), .ref bs, .ref bf, .ref bg])), (bs, .inl (Y.2.1, 16, .inr (.inl sd))), (bf, .inl (Y.1, 40, .inl fb)), (bg, .inl (Y.1, 40, .inl gb))] sG.heap := hP
  have hown : sG.vm.findClass RX1 = some mG.cls := hown
  have hl : lv_has ls 2 [(0, .ref ip), (1, .int (nI i))] := hl
  have hinX1 : ∀ w ∈ u_ws RX1 TX1 3, w ∈ wsX1_lineAt := by decide +kernel
  obtain ⟨hq1, hq2, hq3, hq4, hq5, hq6, hq7, hq8, hq9, hq10, hq11⟩ := hC.q
  refine lv_aload_n (pc := 0) hx hb dX1_lineAt_0 rfl (lv_at hl 0 rfl) ?_
  refine va_get (pc := 1) (D := D) (ci := 1) (v := .ref bd) (C := RX1) (T := TX1) (N := 3) hx hb hts hinX1 hown hK.1 hP 0 rfl rfl 1 (by decide) (hts (.fieldLink RX1 15 "BoxesGame$Input" "board" "LBoxesGame$Board;") (List.mem_of_getElem? (i := 1) rfl)) (fun _ h9 => h9) rfl dX1_lineAt_1 ?_
  refine lv_aload_n (pc := 4) hx hb dX1_lineAt_4 rfl (lv_at hl 0 rfl) ?_
  refine lv_iload_n (pc := 5) hx hb dX1_lineAt_5 rfl (lv_at hl 1 rfl) ?_
  refine ro_go (pc := 6) (va_runV (As := [.int (nI i)]) (rest := [.ref bd]) ⟨hx, hb, hml, hown, hts⟩ (c_X1_isVerticalAt l D Y ip bd bc len bu i (by first | assumption | omega)) (cwV 1 hts gX1_lineAt_X1_isVerticalAt rfl rfl rfl ⟨rfl, hdX1_isVerticalAt⟩ ⟨Nat.le_of_ble_eq_true rfl, Nat.le_of_ble_eq_true rfl⟩) (ro_pV hK (hP.sub [0, 1] rfl) (ro_recv hK hP (ci := 1) (q0 := 0) rfl rfl)) rfl rfl hl.1 rfl (lv_room (Nat.le_of_ble_eq_true rfl)) dX1_lineAt_6 ⟨Nat.le_of_ble_eq_true rfl, Nat.le_of_ble_eq_true rfl⟩) ?_
  refine lv_aload_n (pc := 9) hx hb dX1_lineAt_9 rfl (lv_at hl 0 rfl) ?_
  refine lv_iload_n (pc := 10) hx hb dX1_lineAt_10 rfl (lv_at hl 1 rfl) ?_
  refine lv_iconst (pc := 11) (v := nI 1) hx hb dX1_lineAt_11 rfl ?_
  refine n_iadd (pc := 12) hx hb dX1_lineAt_12 ?_
  refine ro_go (pc := 13) (va_runV (As := [.int (nI (i + 1))]) (rest := [.int (zb (vAt bu i)), .ref bd]) ⟨hx, hb, hml, hown, hts⟩ (c_X1_digitAt l D Y ip bd bc len bu (i + 1) (by first | assumption | omega)) (cwV 1 hts gX1_lineAt_X1_digitAt rfl rfl rfl ⟨rfl, hdX1_digitAt⟩ ⟨Nat.le_of_ble_eq_true rfl, Nat.le_of_ble_eq_true rfl⟩) (ro_pV hK (hP.sub [0, 1] rfl) (ro_recv hK hP (ci := 1) (q0 := 0) rfl rfl)) rfl rfl hl.1 rfl (lv_room (Nat.le_of_ble_eq_true rfl)) dX1_lineAt_13 ⟨Nat.le_of_ble_eq_true rfl, Nat.le_of_ble_eq_true rfl⟩) ?_
  refine lv_aload_n (pc := 16) hx hb dX1_lineAt_16 rfl (lv_at hl 0 rfl) ?_
  refine lv_iload_n (pc := 17) hx hb dX1_lineAt_17 rfl (lv_at hl 1 rfl) ?_
  refine lv_iconst (pc := 18) (v := nI 2) hx hb dX1_lineAt_18 rfl ?_
  refine n_iadd (pc := 19) hx hb dX1_lineAt_19 ?_
  refine ro_go (pc := 20) (va_runV (As := [.int (nI (i + 2))]) (rest := [.int (bu (i + 1) - nI 48), .int (zb (vAt bu i)), .ref bd]) ⟨hx, hb, hml, hown, hts⟩ (c_X1_digitAt l D Y ip bd bc len bu (i + 2) (hi60)) (cwV 1 hts gX1_lineAt_X1_digitAt rfl rfl rfl ⟨rfl, hdX1_digitAt⟩ ⟨Nat.le_of_ble_eq_true rfl, Nat.le_of_ble_eq_true rfl⟩) (ro_pV hK (hP.sub [0, 1] rfl) (ro_recv hK hP (ci := 1) (q0 := 0) rfl rfl)) rfl rfl hl.1 rfl (lv_room (Nat.le_of_ble_eq_true rfl)) dX1_lineAt_20 ⟨Nat.le_of_ble_eq_true rfl, Nat.le_of_ble_eq_true rfl⟩) ?_
  refine ro_go (pc := 23) (va_runV (As := [.int (zb (vAt bu i)), .int (bu (i + 1) - nI 48), .int (bu (i + 2) - nI 48)]) (rest := []) ⟨hx, hb, hml, hown, hts⟩ (c_X0_numberOf l D Y bd bs bf bg c r sd fb gb (vAt bu i) (bu (i + 1) - nI 48) (bu (i + 2) - nI 48) (hC) (hB)) (cwV 3 hts gX1_lineAt_X0_numberOf rfl rfl rfl ⟨rfl, hdX0_numberOf⟩ ⟨Nat.le_of_ble_eq_true rfl, Nat.le_of_ble_eq_true rfl⟩) (ro_pV hK (hP.sub [2, 3, 4, 5] rfl) (ro_recv hK hP (ci := 0) (q0 := 2) rfl rfl)) rfl rfl hl.1 rfl (lv_room (Nat.le_of_ble_eq_true rfl)) dX1_lineAt_23 ⟨Nat.le_of_ble_eq_true rfl, Nat.le_of_ble_eq_true rfl⟩) ?_
  refine lv_topi (fun x23 ex23 => ?_)
  exact ro_iret (v := x23) hx hb hr hlocks (ex23) dX1_lineAt_26

set_option maxHeartbeats 1200000 in
set_option maxRecDepth 100000 in
theorem c_X1_isAllowed (l : Launch) (D : va_G) (Y : vY) (ip : Nat) (bd : Nat) (bc : Nat) (len : Nat) (bu : Nat → Int32) (bs : Nat) (bf : Nat) (bg : Nat) (c : Nat) (r : Nat) (sd : Nat → Int64) (fb : Nat → Int32) (gb : Nat → Int32) (i : Nat) (hC : Cr c r) (hB : BdOK c r sd fb gb) (hi60 : i < 60) : Ro l yX1_isAllowed wsX1_isAllowed ({ frames := 3, cells := 0, slots := 0, locals := 63 } : Room) [.ref ip, .int (nI i)] D Y [(ip, .inr (1, [.int (nI len), .ref bd, .ref bc])), (bc, .inl (Y.1, 60, .inl bu)), (bd, .inr (0, [.int (nI c), .int (nI r), .int (nI (al c r)), .int (nI (c * r)), .ref bs, .ref bf, .ref bg])), (bs, .inl (Y.2.1, 16, .inr (.inl sd))), (bf, .inl (Y.1, 40, .inl fb)), (bg, .inl (Y.1, 40, .inl gb))] (some (.int (zb (okAt c r bu i)))) := by
  refine ro_intro (by decide +kernel) rfl (Nat.le_of_ble_eq_true rfl) [(0, .ref ip), (1, .int (nI i))] rfl ?_
  intro pG eG sG mG aG bG tG cG ls hx hb hr hml hts hown hlocks hK hP hl
  have hP : va_P D vwCl [(ip, .inr (1, [.int (nI len), .ref bd, .ref bc])), (bc, .inl (Y.1, 60, .inl bu)), (bd, .inr (0, [.int (nI c), .int (nI r), .int (nI (al c r)), .int (nI (c * r)), .ref bs, .ref bf, .ref bg])), (bs, .inl (Y.2.1, 16, .inr (.inl sd))), (bf, .inl (Y.1, 40, .inl fb)), (bg, .inl (Y.1, 40, .inl gb))] sG.heap := hP
  have hown : sG.vm.findClass RX1 = some mG.cls := hown
  have hl : lv_has ls 3 [(0, .ref ip), (1, .int (nI i))] := hl
  have hinX1 : ∀ w ∈ u_ws RX1 TX1 3, w ∈ wsX1_isAllowed := by decide +kernel
  obtain ⟨hq1, hq2, hq3, hq4, hq5, hq6, hq7, hq8, hq9, hq10, hq11⟩ := hC.q
  refine lv_aload_n (pc := 0) hx hb dX1_isAllowed_0 rfl (lv_at hl 0 rfl) ?_
  refine lv_iload_n (pc := 1) hx hb dX1_isAllowed_1 rfl (lv_at hl 1 rfl) ?_
  refine ro_go (pc := 2) (va_runV (As := [.int (nI i)]) (rest := []) ⟨hx, hb, hml, hown, hts⟩ (c_X1_codeAt l D Y ip bd bc len bu i (hi60)) (cwV 1 hts gX1_isAllowed_X1_codeAt rfl rfl rfl ⟨rfl, hdX1_codeAt⟩ ⟨Nat.le_of_ble_eq_true rfl, Nat.le_of_ble_eq_true rfl⟩) (ro_pV hK (hP.sub [0, 1] rfl) (ro_recv hK hP (ci := 1) (q0 := 0) rfl rfl)) rfl rfl hl.1 rfl (lv_room (Nat.le_of_ble_eq_true rfl)) dX1_isAllowed_2 ⟨Nat.le_of_ble_eq_true rfl, Nat.le_of_ble_eq_true rfl⟩) ?_
  refine lv_istore_n (pc := 5) (lv' := [(2, .int (bu i)), (0, .ref ip), (1, .int (nI i))]) hx hb dX1_isAllowed_5 rfl hl (by decide) rfl (fun ls hl => ?_)
  refine lv_iload_n (pc := 6) hx hb dX1_isAllowed_6 rfl (lv_at hl 2 rfl) ?_
  refine lv_iconst (pc := 7) (v := nI 4) hx hb dX1_isAllowed_7 rfl ?_
  refine n_irem (pc := 8) hx hb (by omega) (by omega) (by omega) dX1_isAllowed_8 ?_
  by_cases c9_0 : i % 4 = 0
  · refine lv_tableIn (pc := 9) (off := 27) (tgt := 36) hx hb dX1_isAllowed_9 (by rw [c9_0]; decide) (by rw [c9_0]; decide) (by rw [c9_0]; first | rfl | decide) (by decide) ?_
    refine lv_iload_n (pc := 36) hx hb dX1_isAllowed_36 rfl (lv_at hl 0 rfl) ?_
    refine lv_bipush (pc := 37) (v := nI 104) hx hb dX1_isAllowed_37 rfl ?_
    refine lv_icmp_eq (pc := 39) (tgt := 48) hx hb dX1_isAllowed_39 (by decide) (fun c39 => ?_) (fun c39 => ?_)
    · refine lv_iconst (pc := 48) (v := nI 1) hx hb dX1_isAllowed_48 rfl ?_
      refine lv_goto (pc := 49) (tgt := 53) hx hb dX1_isAllowed_49 (by decide) ?_
      exact ro_zret hx hb hr hlocks (zb_1 (by rw [okAt_0 c9_0, decide_eq_true c39]; rfl)) dX1_isAllowed_53
    refine lv_iload_n (pc := 42) hx hb dX1_isAllowed_42 rfl (lv_at hl 0 rfl) ?_
    refine lv_bipush (pc := 43) (v := nI 118) hx hb dX1_isAllowed_43 rfl ?_
    refine lv_icmp_ne (pc := 45) (tgt := 52) hx hb dX1_isAllowed_45 (by decide) (fun c45 => ?_) (fun c45 => ?_)
    · refine lv_iconst (pc := 52) (v := nI 0) hx hb dX1_isAllowed_52 rfl ?_
      exact ro_zret hx hb hr hlocks (zb_0 (by rw [okAt_0 c9_0, decide_eq_false c39, decide_eq_false c45]; rfl)) dX1_isAllowed_53
    refine lv_iconst (pc := 48) (v := nI 1) hx hb dX1_isAllowed_48 rfl ?_
    refine lv_goto (pc := 49) (tgt := 53) hx hb dX1_isAllowed_49 (by decide) ?_
    exact ro_zret hx hb hr hlocks (zb_1 (by rw [okAt_0 c9_0, decide_eq_false c39, decide_eq_true c45]; rfl)) dX1_isAllowed_53
  by_cases c9_1 : i % 4 = 1
  · refine lv_tableIn (pc := 9) (off := 45) (tgt := 54) hx hb dX1_isAllowed_9 (by rw [c9_1]; decide) (by rw [c9_1]; decide) (by rw [c9_1]; first | rfl | decide) (by decide) ?_
    refine lv_aload_n (pc := 54) hx hb dX1_isAllowed_54 rfl (lv_at hl 1 rfl) ?_
    refine va_get (pc := 55) (D := D) (ci := 1) (v := .ref bd) (C := RX1) (T := TX1) (N := 3) hx hb hts hinX1 hown hK.1 hP 0 rfl rfl 1 (by decide) (hts (.fieldLink RX1 15 "BoxesGame$Input" "board" "LBoxesGame$Board;") (List.mem_of_getElem? (i := 1) rfl)) (fun _ h9 => h9) rfl dX1_isAllowed_55 ?_
    refine lv_aload_n (pc := 58) hx hb dX1_isAllowed_58 rfl (lv_at hl 1 rfl) ?_
    refine lv_iload_n (pc := 59) hx hb dX1_isAllowed_59 rfl (lv_at hl 2 rfl) ?_
    refine lv_iconst (pc := 60) (v := nI 1) hx hb dX1_isAllowed_60 rfl ?_
    refine n_isub (pc := 61) hx hb (by omega) dX1_isAllowed_61 ?_
    refine ro_go (pc := 62) (va_runV (As := [.int (nI (i - 1))]) (rest := [.ref bd]) ⟨hx, hb, hml, hown, hts⟩ (c_X1_isVerticalAt l D Y ip bd bc len bu (i - 1) (by first | assumption | omega)) (cwV 1 hts gX1_isAllowed_X1_isVerticalAt rfl rfl rfl ⟨rfl, hdX1_isVerticalAt⟩ ⟨Nat.le_of_ble_eq_true rfl, Nat.le_of_ble_eq_true rfl⟩) (ro_pV hK (hP.sub [0, 1] rfl) (ro_recv hK hP (ci := 1) (q0 := 0) rfl rfl)) rfl rfl hl.1 rfl (lv_room (Nat.le_of_ble_eq_true rfl)) dX1_isAllowed_62 ⟨Nat.le_of_ble_eq_true rfl, Nat.le_of_ble_eq_true rfl⟩) ?_
    refine lv_aload_n (pc := 65) hx hb dX1_isAllowed_65 rfl (lv_at hl 1 rfl) ?_
    refine lv_iload_n (pc := 66) hx hb dX1_isAllowed_66 rfl (lv_at hl 2 rfl) ?_
    refine ro_go (pc := 67) (va_runV (As := [.int (nI i)]) (rest := [.int (zb (vAt bu (i - 1))), .ref bd]) ⟨hx, hb, hml, hown, hts⟩ (c_X1_digitAt l D Y ip bd bc len bu i (hi60)) (cwV 1 hts gX1_isAllowed_X1_digitAt rfl rfl rfl ⟨rfl, hdX1_digitAt⟩ ⟨Nat.le_of_ble_eq_true rfl, Nat.le_of_ble_eq_true rfl⟩) (ro_pV hK (hP.sub [0, 1] rfl) (ro_recv hK hP (ci := 1) (q0 := 0) rfl rfl)) rfl rfl hl.1 rfl (lv_room (Nat.le_of_ble_eq_true rfl)) dX1_isAllowed_67 ⟨Nat.le_of_ble_eq_true rfl, Nat.le_of_ble_eq_true rfl⟩) ?_
    refine lv_iconst (pc := 70) (v := nI 0) hx hb dX1_isAllowed_70 rfl ?_
    refine ro_go (pc := 71) (va_runV (As := [.int (zb (vAt bu (i - 1))), .int (bu i - nI 48), .int (nI 0)]) (rest := []) ⟨hx, hb, hml, hown, hts⟩ (c_X0_numberOf l D Y bd bs bf bg c r sd fb gb (vAt bu (i - 1)) (bu i - nI 48) (nI 0) (hC) (hB)) (cwV 3 hts gX1_isAllowed_X0_numberOf rfl rfl rfl ⟨rfl, hdX0_numberOf⟩ ⟨Nat.le_of_ble_eq_true rfl, Nat.le_of_ble_eq_true rfl⟩) (ro_pV hK (hP.sub [2, 3, 4, 5] rfl) (ro_recv hK hP (ci := 0) (q0 := 2) rfl rfl)) rfl rfl hl.1 rfl (lv_room (Nat.le_of_ble_eq_true rfl)) dX1_isAllowed_71 ⟨Nat.le_of_ble_eq_true rfl, Nat.le_of_ble_eq_true rfl⟩) ?_
    refine lv_topi (fun x71 ex71 => ?_)
    refine lv_iconst (pc := 74) (v := (-1)) hx hb dX1_isAllowed_74 (by decide) ?_
    refine lv_icmp_eq (pc := 75) (tgt := 82) hx hb dX1_isAllowed_75 (by decide) (fun c75 => ?_) (fun c75 => ?_)
    · refine lv_iconst (pc := 82) (v := nI 0) hx hb dX1_isAllowed_82 rfl ?_
      exact ro_zret hx hb hr hlocks (zb_0 (by rw [okAt_1 c9_1]; rw [ex71] at c75; exact Bool.eq_false_iff.mpr (fun q => (numI_ne hC).mpr q c75))) dX1_isAllowed_83
    refine lv_iconst (pc := 78) (v := nI 1) hx hb dX1_isAllowed_78 rfl ?_
    refine lv_goto (pc := 79) (tgt := 83) hx hb dX1_isAllowed_79 (by decide) ?_
    exact ro_zret hx hb hr hlocks (zb_1 (by rw [okAt_1 c9_1]; rw [ex71] at c75; exact (numI_ne hC).mp c75)) dX1_isAllowed_83
  by_cases c9_2 : i % 4 = 2
  · refine lv_tableIn (pc := 9) (off := 75) (tgt := 84) hx hb dX1_isAllowed_9 (by rw [c9_2]; decide) (by rw [c9_2]; decide) (by rw [c9_2]; first | rfl | decide) (by decide) ?_
    refine lv_aload_n (pc := 84) hx hb dX1_isAllowed_84 rfl (lv_at hl 1 rfl) ?_
    refine lv_iload_n (pc := 85) hx hb dX1_isAllowed_85 rfl (lv_at hl 2 rfl) ?_
    refine lv_iconst (pc := 86) (v := nI 2) hx hb dX1_isAllowed_86 rfl ?_
    refine n_isub (pc := 87) hx hb (by omega) dX1_isAllowed_87 ?_
    refine ro_go (pc := 88) (va_runV (As := [.int (nI (i - 2))]) (rest := []) ⟨hx, hb, hml, hown, hts⟩ (c_X1_lineAt l D Y ip bd bc len bu bs bf bg c r sd fb gb (i - 2) (hC) (hB) (by first | assumption | omega)) (cwV 1 hts gX1_isAllowed_X1_lineAt rfl rfl rfl ⟨rfl, hdX1_lineAt⟩ ⟨Nat.le_of_ble_eq_true rfl, Nat.le_of_ble_eq_true rfl⟩) (ro_pV hK hP (ro_recv hK hP (ci := 1) (q0 := 0) rfl rfl)) rfl rfl hl.1 rfl (lv_room (Nat.le_of_ble_eq_true rfl)) dX1_isAllowed_88 ⟨Nat.le_of_ble_eq_true rfl, Nat.le_of_ble_eq_true rfl⟩) ?_
    refine lv_topi (fun x88 ex88 => ?_)
    refine lv_iconst (pc := 91) (v := (-1)) hx hb dX1_isAllowed_91 (by decide) ?_
    refine lv_icmp_eq (pc := 92) (tgt := 99) hx hb dX1_isAllowed_92 (by decide) (fun c92 => ?_) (fun c92 => ?_)
    · refine lv_iconst (pc := 99) (v := nI 0) hx hb dX1_isAllowed_99 rfl ?_
      exact ro_zret hx hb hr hlocks (zb_0 (by rw [okAt_2 c9_2]; rw [ex88, show i - 2 + 1 = i - 1 by omega, show i - 2 + 2 = i by omega] at c92; exact Bool.eq_false_iff.mpr (fun q => (numI_ne hC).mpr q c92))) dX1_isAllowed_100
    refine lv_iconst (pc := 95) (v := nI 1) hx hb dX1_isAllowed_95 rfl ?_
    refine lv_goto (pc := 96) (tgt := 100) hx hb dX1_isAllowed_96 (by decide) ?_
    exact ro_zret hx hb hr hlocks (zb_1 (by rw [okAt_2 c9_2]; rw [ex88, show i - 2 + 1 = i - 1 by omega, show i - 2 + 2 = i by omega] at c92; exact (numI_ne hC).mp c92)) dX1_isAllowed_100
  refine lv_tableOut (pc := 9) (tgt := 101) hx hb dX1_isAllowed_9 (by rw [nI_toInt (by omega)]; omega) (by decide) ?_
  refine lv_iload_n (pc := 101) hx hb dX1_isAllowed_101 rfl (lv_at hl 0 rfl) ?_
  refine lv_bipush (pc := 102) (v := nI 44) hx hb dX1_isAllowed_102 rfl ?_
  refine lv_icmp_ne (pc := 104) (tgt := 111) hx hb dX1_isAllowed_104 (by decide) (fun c104 => ?_) (fun c104 => ?_)
  · refine lv_iconst (pc := 111) (v := nI 0) hx hb dX1_isAllowed_111 rfl ?_
    exact ro_zret hx hb hr hlocks (zb_0 (by rw [okAt_3 c9_0 c9_1 c9_2]; exact decide_eq_false c104)) dX1_isAllowed_112
  refine lv_iconst (pc := 107) (v := nI 1) hx hb dX1_isAllowed_107 rfl ?_
  refine lv_goto (pc := 108) (tgt := 112) hx hb dX1_isAllowed_108 (by decide) ?_
  exact ro_zret hx hb hr hlocks (zb_1 (by rw [okAt_3 c9_0 c9_1 c9_2]; exact decide_eq_true c104)) dX1_isAllowed_112

set_option maxHeartbeats 1200000 in
set_option maxRecDepth 100000 in
theorem c_X1_firstWrong (l : Launch) (D : va_G) (Y : vY) (ip : Nat) (bd : Nat) (bc : Nat) (len : Nat) (bu : Nat → Int32) (bs : Nat) (bf : Nat) (bg : Nat) (c : Nat) (r : Nat) (sd : Nat → Int64) (fb : Nat → Int32) (gb : Nat → Int32) (hC : Cr c r) (hB : BdOK c r sd fb gb) (hlen : len ≤ 60) : Ro l yX1_firstWrong wsX1_firstWrong ({ frames := 4, cells := 0, slots := 0, locals := 85 } : Room) [.ref ip] D Y [(ip, .inr (1, [.int (nI len), .ref bd, .ref bc])), (bc, .inl (Y.1, 60, .inl bu)), (bd, .inr (0, [.int (nI c), .int (nI r), .int (nI (al c r)), .int (nI (c * r)), .ref bs, .ref bf, .ref bg])), (bs, .inl (Y.2.1, 16, .inr (.inl sd))), (bf, .inl (Y.1, 40, .inl fb)), (bg, .inl (Y.1, 40, .inl gb))] (some (.int (nI (ferr c r bu len)))) := by
  refine ro_intro (by decide +kernel) rfl (Nat.le_of_ble_eq_true rfl) [(0, .ref ip)] rfl ?_
  intro pG eG sG mG aG bG tG cG ls hx hb hr hml hts hown hlocks hK hP hl
  have hP : va_P D vwCl [(ip, .inr (1, [.int (nI len), .ref bd, .ref bc])), (bc, .inl (Y.1, 60, .inl bu)), (bd, .inr (0, [.int (nI c), .int (nI r), .int (nI (al c r)), .int (nI (c * r)), .ref bs, .ref bf, .ref bg])), (bs, .inl (Y.2.1, 16, .inr (.inl sd))), (bf, .inl (Y.1, 40, .inl fb)), (bg, .inl (Y.1, 40, .inl gb))] sG.heap := hP
  have hown : sG.vm.findClass RX1 = some mG.cls := hown
  have hl : lv_has ls 2 [(0, .ref ip)] := hl
  have hinX1 : ∀ w ∈ u_ws RX1 TX1 3, w ∈ wsX1_firstWrong := by decide +kernel
  obtain ⟨hq1, hq2, hq3, hq4, hq5, hq6, hq7, hq8, hq9, hq10, hq11⟩ := hC.q
  refine lv_iconst (pc := 0) (v := nI 0) hx hb dX1_firstWrong_0 rfl ?_
  refine lv_istore_n (pc := 1) (lv' := [(1, .int (nI 0)), (0, .ref ip)]) hx hb dX1_firstWrong_1 rfl hl (by decide) rfl (fun ls hl => ?_)
  have L2 : ∀ (n2 : Nat), ∀ (i : Nat), (i ≤ len) → (∀ j, j < i → (!okAt c r bu j) = false) → len - i < n2 → ∀ (ls : Array Slot), lv_has ls 2 [(0, .ref ip), (1, .int (nI i))] → W pG l eG ({ frames := 4, cells := 0, slots := 0, locals := 85 } : Room) sG mG aG bG tG cG sG.heap [] 0 0 (MQ bG (RoQ (some (.int (nI (ferr c r bu len))))) aG sG 0 0 (fun _ => False)) (F0 mG 2 ls []) := by
    intro n2
    induction n2 with
    | zero =>
      intro i hi hno hmeas2  ls hl
      exact absurd hmeas2 (Nat.not_lt_zero _)
    | succ n2 ih2 =>
      intro i hi hno hmeas2  ls hl
      refine lv_iload_n (pc := 2) hx hb dX1_firstWrong_2 rfl (lv_at hl 1 rfl) ?_
      refine lv_aload_n (pc := 3) hx hb dX1_firstWrong_3 rfl (lv_at hl 0 rfl) ?_
      refine va_get (pc := 4) (D := D) (ci := 1) (v := .int (nI len)) (C := RX1) (T := TX1) (N := 3) hx hb hts hinX1 hown hK.1 hP 0 rfl rfl 0 (by decide) (hts (.fieldLink RX1 19 "BoxesGame$Input" "length" "I") (List.mem_of_getElem? (i := 1) rfl)) (fun _ h9 => h9) rfl dX1_firstWrong_4 ?_
      refine n_icmp_ge (pc := 7) (tgt := 26) hx hb (by omega) (by omega) dX1_firstWrong_7 (by decide) (fun c7 => ?_) (fun c7 => ?_)
      · refine lv_aload_n (pc := 26) hx hb dX1_firstWrong_26 rfl (lv_at hl 0 rfl) ?_
        refine va_get (pc := 27) (D := D) (ci := 1) (v := .int (nI len)) (C := RX1) (T := TX1) (N := 3) hx hb hts hinX1 hown hK.1 hP 0 rfl rfl 0 (by decide) (hts (.fieldLink RX1 19 "BoxesGame$Input" "length" "I") (List.mem_of_getElem? (i := 1) rfl)) (fun _ h9 => h9) rfl dX1_firstWrong_27 ?_
        exact ro_iret (v := nI len) hx hb hr hlocks (by unfold ferr; rw [first_end (fun j h => hno j (by omega))]) dX1_firstWrong_30
      refine lv_aload_n (pc := 10) hx hb dX1_firstWrong_10 rfl (lv_at hl 0 rfl) ?_
      refine lv_iload_n (pc := 11) hx hb dX1_firstWrong_11 rfl (lv_at hl 1 rfl) ?_
      refine ro_go (pc := 12) (va_runV (As := [.int (nI i)]) (rest := []) ⟨hx, hb, hml, hown, hts⟩ (c_X1_isAllowed l D Y ip bd bc len bu bs bf bg c r sd fb gb i (hC) (hB) (by first | assumption | omega)) (cwV 1 hts gX1_firstWrong_X1_isAllowed rfl rfl rfl ⟨rfl, hdX1_isAllowed⟩ ⟨Nat.le_of_ble_eq_true rfl, Nat.le_of_ble_eq_true rfl⟩) (ro_pV hK hP (ro_recv hK hP (ci := 1) (q0 := 0) rfl rfl)) rfl rfl hl.1 rfl (lv_room (Nat.le_of_ble_eq_true rfl)) dX1_firstWrong_12 ⟨Nat.le_of_ble_eq_true rfl, Nat.le_of_ble_eq_true rfl⟩) ?_
      refine z_if_ne (pc := 15) (tgt := 20) hx hb dX1_firstWrong_15 (by decide) (fun c15 => ?_) (fun c15 => ?_)
      · refine lv_iinc (pc := 20) (v := nI (i + 1)) (lv' := [(1, .int (nI (i + 1))), (0, .ref ip)]) hx hb dX1_firstWrong_20 hl (k := 1) rfl (n_inc i 1) (by decide) rfl (fun ls hl => ?_)
        refine lv_goto (pc := 23) (tgt := 2) hx hb dX1_firstWrong_23 (by decide) ?_
        exact ih2 (i + 1) (by first | assumption | omega) (lt_s hno (by rw [c15]; rfl)) (by omega) _ (lv_sub hl [1, 0] rfl)
      refine lv_iload_n (pc := 18) hx hb dX1_firstWrong_18 rfl (lv_at hl 1 rfl) ?_
      exact ro_iret (v := nI i) hx hb hr hlocks (by unfold ferr; rw [first_at hno (by rw [c15]; rfl) c7]) dX1_firstWrong_19
  exact L2 ((len - 0) + 1) 0 (by first | assumption | omega) (fun j h => absurd h (Nat.not_lt_zero _)) (Nat.lt_succ_self _) _ (lv_sub hl [1, 0] rfl)

set_option maxHeartbeats 1200000 in
set_option maxRecDepth 100000 in
theorem c_X1_isComplete (l : Launch) (D : va_G) (Y : vY) (ip : Nat) (bd : Nat) (bc : Nat) (len : Nat) (bu : Nat → Int32) (bs : Nat) (bf : Nat) (bg : Nat) (c : Nat) (r : Nat) (sd : Nat → Int64) (fb : Nat → Int32) (gb : Nat → Int32) (hC : Cr c r) (hB : BdOK c r sd fb gb) (hlen : len ≤ 60) : Ro l yX1_isComplete wsX1_isComplete ({ frames := 5, cells := 0, slots := 0, locals := 106 } : Room) [.ref ip] D Y [(ip, .inr (1, [.int (nI len), .ref bd, .ref bc])), (bc, .inl (Y.1, 60, .inl bu)), (bd, .inr (0, [.int (nI c), .int (nI r), .int (nI (al c r)), .int (nI (c * r)), .ref bs, .ref bf, .ref bg])), (bs, .inl (Y.2.1, 16, .inr (.inl sd))), (bf, .inl (Y.1, 40, .inl fb)), (bg, .inl (Y.1, 40, .inl gb))] (some (.int (zb (cmpT c r bu len)))) := by
  refine ro_intro (by decide +kernel) rfl (Nat.le_of_ble_eq_true rfl) [(0, .ref ip)] rfl ?_
  intro pG eG sG mG aG bG tG cG ls hx hb hr hml hts hown hlocks hK hP hl
  have hP : va_P D vwCl [(ip, .inr (1, [.int (nI len), .ref bd, .ref bc])), (bc, .inl (Y.1, 60, .inl bu)), (bd, .inr (0, [.int (nI c), .int (nI r), .int (nI (al c r)), .int (nI (c * r)), .ref bs, .ref bf, .ref bg])), (bs, .inl (Y.2.1, 16, .inr (.inl sd))), (bf, .inl (Y.1, 40, .inl fb)), (bg, .inl (Y.1, 40, .inl gb))] sG.heap := hP
  have hown : sG.vm.findClass RX1 = some mG.cls := hown
  have hl : lv_has ls 1 [(0, .ref ip)] := hl
  have hinX1 : ∀ w ∈ u_ws RX1 TX1 3, w ∈ wsX1_isComplete := by decide +kernel
  obtain ⟨hq1, hq2, hq3, hq4, hq5, hq6, hq7, hq8, hq9, hq10, hq11⟩ := hC.q
  refine lv_aload_n (pc := 0) hx hb dX1_isComplete_0 rfl (lv_at hl 0 rfl) ?_
  refine va_get (pc := 1) (D := D) (ci := 1) (v := .int (nI len)) (C := RX1) (T := TX1) (N := 3) hx hb hts hinX1 hown hK.1 hP 0 rfl rfl 0 (by decide) (hts (.fieldLink RX1 19 "BoxesGame$Input" "length" "I") (List.mem_of_getElem? (i := 1) rfl)) (fun _ h9 => h9) rfl dX1_isComplete_1 ?_
  refine lv_iconst (pc := 4) (v := nI 4) hx hb dX1_isComplete_4 rfl ?_
  refine n_irem (pc := 5) hx hb (by omega) (by omega) (by omega) dX1_isComplete_5 ?_
  refine lv_iconst (pc := 6) (v := nI 3) hx hb dX1_isComplete_6 rfl ?_
  refine n_icmp_ne (pc := 7) (tgt := 25) hx hb (by omega) (by omega) dX1_isComplete_7 (by decide) (fun c7 => ?_) (fun c7 => ?_)
  · refine lv_iconst (pc := 25) (v := nI 0) hx hb dX1_isComplete_25 rfl ?_
    exact ro_zret hx hb hr hlocks (zb_0 (by unfold cmpT; rw [decide_eq_false c7]; rfl)) dX1_isComplete_26
  refine lv_aload_n (pc := 10) hx hb dX1_isComplete_10 rfl (lv_at hl 0 rfl) ?_
  refine ro_go (pc := 11) (va_runV (As := []) (rest := []) ⟨hx, hb, hml, hown, hts⟩ (c_X1_firstWrong l D Y ip bd bc len bu bs bf bg c r sd fb gb (hC) (hB) (hlen)) (cwV 0 hts gX1_isComplete_X1_firstWrong rfl rfl rfl ⟨rfl, hdX1_firstWrong⟩ ⟨Nat.le_of_ble_eq_true rfl, Nat.le_of_ble_eq_true rfl⟩) (ro_pV hK hP (ro_recv hK hP (ci := 1) (q0 := 0) rfl rfl)) rfl rfl hl.1 rfl (lv_room (Nat.le_of_ble_eq_true rfl)) dX1_isComplete_11 ⟨Nat.le_of_ble_eq_true rfl, Nat.le_of_ble_eq_true rfl⟩) ?_
  refine lv_aload_n (pc := 14) hx hb dX1_isComplete_14 rfl (lv_at hl 0 rfl) ?_
  refine va_get (pc := 15) (D := D) (ci := 1) (v := .int (nI len)) (C := RX1) (T := TX1) (N := 3) hx hb hts hinX1 hown hK.1 hP 0 rfl rfl 0 (by decide) (hts (.fieldLink RX1 19 "BoxesGame$Input" "length" "I") (List.mem_of_getElem? (i := 1) rfl)) (fun _ h9 => h9) rfl dX1_isComplete_15 ?_
  refine n_icmp_ne (pc := 18) (tgt := 25) hx hb (by have := fa_first_le (fun i => !okAt c r bu i) len; unfold ferr; omega) (by omega) dX1_isComplete_18 (by decide) (fun c18 => ?_) (fun c18 => ?_)
  · refine lv_iconst (pc := 25) (v := nI 0) hx hb dX1_isComplete_25 rfl ?_
    exact ro_zret hx hb hr hlocks (zb_0 (by unfold cmpT; rw [decide_eq_true c7, decide_eq_false c18]; rfl)) dX1_isComplete_26
  refine lv_iconst (pc := 21) (v := nI 1) hx hb dX1_isComplete_21 rfl ?_
  refine lv_goto (pc := 22) (tgt := 26) hx hb dX1_isComplete_22 (by decide) ?_
  exact ro_zret hx hb hr hlocks (zb_1 (by unfold cmpT; rw [decide_eq_true c7, decide_eq_true c18]; rfl)) dX1_isComplete_26

set_option maxHeartbeats 1200000 in
set_option maxRecDepth 100000 in
theorem c_X1_canBeDrawn (l : Launch) (D : va_G) (Y : vY) (ip : Nat) (bd : Nat) (bc : Nat) (len : Nat) (bu : Nat → Int32) (bs : Nat) (bf : Nat) (bg : Nat) (c : Nat) (r : Nat) (sd : Nat → Int64) (fb : Nat → Int32) (gb : Nat → Int32) (w : Int64) (hC : Cr c r) (hB : BdOK c r sd fb gb) (hlen : len ≤ 60) (hT : TxOK c r bu len) : Ro l yX1_canBeDrawn wsX1_canBeDrawn ({ frames := 3, cells := 0, slots := 0, locals := 63 } : Room) [.ref ip, .long w] D Y [(ip, .inr (1, [.int (nI len), .ref bd, .ref bc])), (bc, .inl (Y.1, 60, .inl bu)), (bd, .inr (0, [.int (nI c), .int (nI r), .int (nI (al c r)), .int (nI (c * r)), .ref bs, .ref bf, .ref bg])), (bs, .inl (Y.2.1, 16, .inr (.inl sd))), (bf, .inl (Y.1, 40, .inl fb)), (bg, .inl (Y.1, 40, .inl gb))] (some (.int (zb (canT c r bu w ((len + 1) / 4))))) := by
  refine ro_intro (by decide +kernel) rfl (Nat.le_of_ble_eq_true rfl) [(0, .ref ip), (1, .long w)] rfl ?_
  intro pG eG sG mG aG bG tG cG ls hx hb hr hml hts hown hlocks hK hP hl
  have hP : va_P D vwCl [(ip, .inr (1, [.int (nI len), .ref bd, .ref bc])), (bc, .inl (Y.1, 60, .inl bu)), (bd, .inr (0, [.int (nI c), .int (nI r), .int (nI (al c r)), .int (nI (c * r)), .ref bs, .ref bf, .ref bg])), (bs, .inl (Y.2.1, 16, .inr (.inl sd))), (bf, .inl (Y.1, 40, .inl fb)), (bg, .inl (Y.1, 40, .inl gb))] sG.heap := hP
  have hown : sG.vm.findClass RX1 = some mG.cls := hown
  have hl : lv_has ls 7 [(0, .ref ip), (1, .long w)] := hl
  have hinX1 : ∀ w ∈ u_ws RX1 TX1 3, w ∈ wsX1_canBeDrawn := by decide +kernel
  obtain ⟨hq1, hq2, hq3, hq4, hq5, hq6, hq7, hq8, hq9, hq10, hq11⟩ := hC.q
  have hl3 := hT.1
  refine lv_lload_n (pc := 0) hx hb dX1_canBeDrawn_0 rfl (lv_at hl 1 rfl) ?_
  refine lv_lstore_n (pc := 1) (lv' := [(3, .long w), (0, .ref ip), (1, .long w)]) hx hb dX1_canBeDrawn_1 rfl hl (by decide) rfl (fun ls hl => ?_)
  refine lv_iconst (pc := 2) (v := nI 0) hx hb dX1_canBeDrawn_2 rfl ?_
  refine lv_istore (pc := 3) (lv' := [(5, .int (nI 0)), (3, .long w), (0, .ref ip), (1, .long w)]) hx hb dX1_canBeDrawn_3 hl (by decide) rfl (fun ls hl => ?_)
  have L5 : ∀ (n5 : Nat), ∀ (k : Nat) (i : Nat) (u : Int64), (i = 4 * k) → (i ≤ len + 1) → (u = txS c r bu w k) → (∀ j, j < k → (!tb (txS c r bu w j) (tlN c r bu (4 * j))) = true) → len + 2 - i < n5 → ∀ (ls : Array Slot), lv_has ls 7 [(0, .ref ip), (1, .long w), (3, .long u), (5, .int (nI i))] → W pG l eG ({ frames := 3, cells := 0, slots := 0, locals := 63 } : Room) sG mG aG bG tG cG sG.heap [] 0 0 (MQ bG (RoQ (some (.int (zb (canT c r bu w ((len + 1) / 4)))))) aG sG 0 0 (fun _ => False)) (F0 mG 5 ls []) := by
    intro n5
    induction n5 with
    | zero =>
      intro k i u hik hi hu hno hmeas5  ls hl
      exact absurd hmeas5 (Nat.not_lt_zero _)
    | succ n5 ih5 =>
      intro k i u hik hi hu hno hmeas5  ls hl
      refine lv_iload (pc := 5) hx hb dX1_canBeDrawn_5 (lv_at hl 3 rfl) ?_
      refine lv_aload_n (pc := 7) hx hb dX1_canBeDrawn_7 rfl (lv_at hl 0 rfl) ?_
      refine va_get (pc := 8) (D := D) (ci := 1) (v := .int (nI len)) (C := RX1) (T := TX1) (N := 3) hx hb hts hinX1 hown hK.1 hP 0 rfl rfl 0 (by decide) (hts (.fieldLink RX1 19 "BoxesGame$Input" "length" "I") (List.mem_of_getElem? (i := 1) rfl)) (fun _ h9 => h9) rfl dX1_canBeDrawn_8 ?_
      refine n_icmp_ge (pc := 11) (tgt := 47) hx hb (by omega) (by omega) dX1_canBeDrawn_11 (by decide) (fun c11 => ?_) (fun c11 => ?_)
      · refine lv_iconst (pc := 47) (v := nI 1) hx hb dX1_canBeDrawn_47 rfl ?_
        exact ro_zret hx hb hr hlocks (zb_1 (andb_iff.mpr (fun j h => hno j (by omega)))) dX1_canBeDrawn_48
      refine lv_aload_n (pc := 14) hx hb dX1_canBeDrawn_14 rfl (lv_at hl 0 rfl) ?_
      refine lv_iload (pc := 15) hx hb dX1_canBeDrawn_15 (lv_at hl 3 rfl) ?_
      refine ro_go (pc := 17) (va_runV (As := [.int (nI i)]) (rest := []) ⟨hx, hb, hml, hown, hts⟩ (c_X1_lineAt l D Y ip bd bc len bu bs bf bg c r sd fb gb i (hC) (hB) (by have := tx_line hC hT c11 (by omega); omega)) (cwV 1 hts gX1_canBeDrawn_X1_lineAt rfl rfl rfl ⟨rfl, hdX1_lineAt⟩ ⟨Nat.le_of_ble_eq_true rfl, Nat.le_of_ble_eq_true rfl⟩) (ro_pV hK hP (ro_recv hK hP (ci := 1) (q0 := 0) rfl rfl)) rfl rfl hl.1 rfl (lv_room (Nat.le_of_ble_eq_true rfl)) dX1_canBeDrawn_17 ⟨Nat.le_of_ble_eq_true rfl, Nat.le_of_ble_eq_true rfl⟩) ?_
      refine lv_topi (fun x17 ex17 => ?_)
      obtain ⟨ht1, ht2, ht3⟩ := tx_line hC hT c11 (by omega)
      have hnl : x17 = nI (tlN c r bu i) := ex17.trans ht2
      subst hnl
      refine lv_istore (pc := 20) (lv' := [(6, .int (nI (tlN c r bu i))), (0, .ref ip), (1, .long w), (3, .long u), (5, .int (nI i))]) hx hb dX1_canBeDrawn_20 hl (by decide) rfl (fun ls hl => ?_)
      refine lv_lload_n (pc := 22) hx hb dX1_canBeDrawn_22 rfl (lv_at hl 3 rfl) ?_
      refine lv_iload (pc := 23) hx hb dX1_canBeDrawn_23 (lv_at hl 0 rfl) ?_
      refine ro_go (pc := 25) (va_runSN (As := [.long u, .int (nI (tlN c r bu i))]) (rest := []) ⟨hx, hb, hml, hown, hts⟩ (c_X8_contains l D Y u (tlN c r bu i) (by first | assumption | omega)) (⟨va_cnB 2 hts ggX1_canBeDrawn_X8_contains rfl rfl rfl (hK.nest 2 rfl) (hts (.initialized RX8) (List.mem_of_getElem? (i := 29) rfl)) hdX8_contains ⟨Nat.le_of_ble_eq_true rfl, Nat.le_of_ble_eq_true rfl⟩, hts (.static yX8_contains) (List.mem_of_getElem? (i := 28) rfl), trivial⟩) (ro_pS hK (hP.sub [] rfl)) rfl rfl hl.1 rfl (lv_room (Nat.le_of_ble_eq_true rfl)) dX1_canBeDrawn_25 ⟨Nat.le_of_ble_eq_true rfl, Nat.le_of_ble_eq_true rfl⟩) ?_
      refine z_if_eq (pc := 28) (tgt := 33) hx hb dX1_canBeDrawn_28 (by decide) (fun c28 => ?_) (fun c28 => ?_)
      · refine lv_lload_n (pc := 33) hx hb dX1_canBeDrawn_33 rfl (lv_at hl 3 rfl) ?_
        refine lv_iload (pc := 34) hx hb dX1_canBeDrawn_34 (lv_at hl 0 rfl) ?_
        refine ro_go (pc := 36) (va_runSN (As := [.int (nI (tlN c r bu i))]) (rest := [.long u]) ⟨hx, hb, hml, hown, hts⟩ (c_X8_bit_in l D Y (tlN c r bu i) (by first | assumption | omega)) (⟨va_cnB 1 hts ggX1_canBeDrawn_X8_bit rfl rfl rfl (hK.nest 3 rfl) (hts (.initialized RX8) (List.mem_of_getElem? (i := 29) rfl)) hdX8_bit ⟨Nat.le_of_ble_eq_true rfl, Nat.le_of_ble_eq_true rfl⟩, hts (.static yX8_bit) (List.mem_of_getElem? (i := 32) rfl), trivial⟩) (ro_pS hK (hP.sub [] rfl)) rfl rfl hl.1 rfl (lv_room (Nat.le_of_ble_eq_true rfl)) dX1_canBeDrawn_36 ⟨Nat.le_of_ble_eq_true rfl, Nat.le_of_ble_eq_true rfl⟩) ?_
        refine lv_lor (pc := 39) hx hb dX1_canBeDrawn_39 ?_
        refine lv_lstore_n (pc := 40) (lv' := [(3, .long (u ||| (b1 (tlN c r bu i)))), (6, .int (nI (tlN c r bu i))), (0, .ref ip), (1, .long w), (5, .int (nI i))]) hx hb dX1_canBeDrawn_40 rfl hl (by decide) rfl (fun ls hl => ?_)
        refine lv_iinc (pc := 41) (v := nI (i + 4)) (lv' := [(5, .int (nI (i + 4))), (3, .long (u ||| (b1 (tlN c r bu i)))), (6, .int (nI (tlN c r bu i))), (0, .ref ip), (1, .long w)]) hx hb dX1_canBeDrawn_41 hl (k := 4) rfl (n_inc i 4) (by decide) rfl (fun ls hl => ?_)
        refine lv_goto (pc := 44) (tgt := 5) hx hb dX1_canBeDrawn_44 (by decide) ?_
        exact ih5 (k + 1) (i + 4) (u ||| (b1 (tlN c r bu i))) (by first | assumption | omega) (by first | assumption | omega) (by rw [hu, hik]; rfl) (lt_s hno (by rw [← hu, ← hik, c28]; rfl)) (by omega) _ (lv_sub hl [3, 4, 1, 0] rfl)
      refine lv_iconst (pc := 31) (v := nI 0) hx hb dX1_canBeDrawn_31 rfl ?_
      exact ro_zret hx hb hr hlocks (zb_0 (Bool.eq_false_iff.mpr (fun q => by have := andb_iff.mp q k (by omega); rw [← hu, ← hik, c28] at this; cases this))) dX1_canBeDrawn_32
  exact L5 ((len + 2 - 0) + 1) 0 0 w (by first | assumption | omega) (by first | assumption | omega) (rfl) (fun j h => absurd h (Nat.not_lt_zero _)) (Nat.lt_succ_self _) _ (lv_sub hl [2, 3, 1, 0] rfl)
