set_option maxHeartbeats 1200000 in
set_option maxRecDepth 100000 in
theorem c_X9_many (l : Launch) (D : va_G) (Y : vY) (mo : Nat) (c : Nat) (r : Nat) (fs : List Value) (hf : MF c r fs) (hC : Cr c r) : Ro l yX9_many wsX9_many ({ frames := 0, cells := 0, slots := 0, locals := 0 } : Room) [.ref mo] D Y [(mo, .inr (8, fs))] (some (.int (nI (manyM c r)))) := by
  refine ro_intro (by decide +kernel) rfl (Nat.le_of_ble_eq_true rfl) [(0, .ref mo)] rfl ?_
  intro pG eG sG mG aG bG tG cG ls hx hb hr hml hts hown hlocks hK hP hl
  have hP : va_P D vwCl [(mo, .inr (8, fs))] sG.heap := hP
  have hown : sG.vm.findClass RX9 = some mG.cls := hown
  have hl : lv_has ls 1 [(0, .ref mo)] := hl
  have hinX9 : ∀ w ∈ u_ws RX9 TX9 25, w ∈ wsX9_many := by decide +kernel
  obtain ⟨hq1, hq2, hq3, hq4, hq5, hq6, hq7, hq8, hq9, hq10, hq11⟩ := hC.q
  refine lv_aload_n (pc := 0) hx hb dX9_many_0 rfl (lv_at hl 0 rfl) ?_
  refine va_get (pc := 1) (D := D) (ci := 8) (v := .int (nI c)) (C := RX9) (T := TX9) (N := 25) hx hb hts hinX9 hown hK.1 hP 0 rfl rfl 1 (by decide) (hts (.fieldLink RX9 7 "BoxesGameModel" "columns" "I") (List.mem_of_getElem? (i := 1) rfl)) (fun _ h9 => h9) hf.1 dX9_many_1 ?_
  refine lv_aload_n (pc := 4) hx hb dX9_many_4 rfl (lv_at hl 0 rfl) ?_
  refine va_get (pc := 5) (D := D) (ci := 8) (v := .int (nI r)) (C := RX9) (T := TX9) (N := 25) hx hb hts hinX9 hown hK.1 hP 0 rfl rfl 2 (by decide) (hts (.fieldLink RX9 13 "BoxesGameModel" "rows" "I") (List.mem_of_getElem? (i := 2) rfl)) (fun _ h9 => h9) hf.2 dX9_many_5 ?_
  refine n_icmp_ne (pc := 8) (tgt := 16) hx hb (by omega) (by omega) dX9_many_8 (by decide) (fun c8 => ?_) (fun c8 => ?_)
  · refine lv_iconst (pc := 16) (v := nI 4) hx hb dX9_many_16 rfl ?_
    exact ro_iret (v := nI 4) hx hb hr hlocks (by unfold manyM; rw [if_neg c8]) dX9_many_17
  refine lv_bipush (pc := 11) (v := nI 8) hx hb dX9_many_11 rfl ?_
  refine lv_goto (pc := 13) (tgt := 17) hx hb dX9_many_13 (by decide) ?_
  exact ro_iret (v := nI 8) hx hb hr hlocks (by unfold manyM; rw [if_pos c8]) dX9_many_17

set_option maxHeartbeats 1200000 in
set_option maxRecDepth 100000 in
theorem c_X9_mapped (l : Launch) (D : va_G) (Y : vY) (mo : Nat) (c : Nat) (r : Nat) (fs : List Value) (li : Nat) (s : Nat) (hf : MF c r fs) (hC : Cr c r) (hl0 : li < al c r) (hs8 : s < 8) : Ro l yX9_mapped wsX9_mapped ({ frames := 3, cells := 0, slots := 0, locals := 62 } : Room) [.ref mo, .int (nI li), .int (nI s)] D Y [(mo, .inr (8, fs))] (some (.int (nI (mapM c r li s)))) := by
  refine ro_intro (by decide +kernel) rfl (Nat.le_of_ble_eq_true rfl) [(0, .ref mo), (1, .int (nI li)), (2, .int (nI s))] rfl ?_
  intro pG eG sG mG aG bG tG cG ls hx hb hr hml hts hown hlocks hK hP hl
  have hP : va_P D vwCl [(mo, .inr (8, fs))] sG.heap := hP
  have hown : sG.vm.findClass RX9 = some mG.cls := hown
  have hl : lv_has ls 6 [(0, .ref mo), (1, .int (nI li)), (2, .int (nI s))] := hl
  have hinX9 : ∀ w ∈ u_ws RX9 TX9 25, w ∈ wsX9_mapped := by decide +kernel
  obtain ⟨hq1, hq2, hq3, hq4, hq5, hq6, hq7, hq8, hq9, hq10, hq11⟩ := hC.q
  obtain ⟨hcr1, hcr2⟩ := col_row hC hl0
  refine lv_aload_n (pc := 0) hx hb dX9_mapped_0 rfl (lv_at hl 0 rfl) ?_
  refine lv_iload_n (pc := 1) hx hb dX9_mapped_1 rfl (lv_at hl 1 rfl) ?_
  refine ro_go (pc := 2) (va_runV (As := [.int (nI li)]) (rest := []) ⟨hx, hb, hml, hown, hts⟩ (c_X9_isUpright l D Y mo c r fs li (hf) (hC) (hl0)) (cwV 1 hts gX9_mapped_X9_isUpright rfl rfl rfl ⟨rfl, hdX9_isUpright⟩ ⟨Nat.le_of_ble_eq_true rfl, Nat.le_of_ble_eq_true rfl⟩) (ro_pV hK hP (ro_recv hK hP (ci := 8) (q0 := 0) rfl rfl)) rfl rfl hl.1 rfl (lv_room (Nat.le_of_ble_eq_true rfl)) dX9_mapped_2 ⟨Nat.le_of_ble_eq_true rfl, Nat.le_of_ble_eq_true rfl⟩) ?_
  refine lv_istore_n (pc := 5) (lv' := [(3, .int (zb (decide (lvl c r ≤ li)))), (0, .ref mo), (1, .int (nI li)), (2, .int (nI s))]) hx hb dX9_mapped_5 rfl hl (by decide) rfl (fun ls hl => ?_)
  refine lv_aload_n (pc := 6) hx hb dX9_mapped_6 rfl (lv_at hl 1 rfl) ?_
  refine lv_iload_n (pc := 7) hx hb dX9_mapped_7 rfl (lv_at hl 2 rfl) ?_
  refine ro_go (pc := 8) (va_runV (As := [.int (nI li)]) (rest := []) ⟨hx, hb, hml, hown, hts⟩ (c_X9_columnOf l D Y mo c r fs li (hf) (hC) (hl0)) (cwV 1 hts gX9_mapped_X9_columnOf rfl rfl rfl ⟨rfl, hdX9_columnOf⟩ ⟨Nat.le_of_ble_eq_true rfl, Nat.le_of_ble_eq_true rfl⟩) (ro_pV hK hP (ro_recv hK hP (ci := 8) (q0 := 0) rfl rfl)) rfl rfl hl.1 rfl (lv_room (Nat.le_of_ble_eq_true rfl)) dX9_mapped_8 ⟨Nat.le_of_ble_eq_true rfl, Nat.le_of_ble_eq_true rfl⟩) ?_
  refine lv_istore (pc := 11) (lv' := [(4, .int (nI (colM c r li))), (3, .int (zb (decide (lvl c r ≤ li)))), (0, .ref mo), (1, .int (nI li)), (2, .int (nI s))]) hx hb dX9_mapped_11 hl (by decide) rfl (fun ls hl => ?_)
  refine lv_aload_n (pc := 13) hx hb dX9_mapped_13 rfl (lv_at hl 2 rfl) ?_
  refine lv_iload_n (pc := 14) hx hb dX9_mapped_14 rfl (lv_at hl 3 rfl) ?_
  refine ro_go (pc := 15) (va_runV (As := [.int (nI li)]) (rest := []) ⟨hx, hb, hml, hown, hts⟩ (c_X9_rowOf l D Y mo c r fs li (hf) (hC) (hl0)) (cwV 1 hts gX9_mapped_X9_rowOf rfl rfl rfl ⟨rfl, hdX9_rowOf⟩ ⟨Nat.le_of_ble_eq_true rfl, Nat.le_of_ble_eq_true rfl⟩) (ro_pV hK hP (ro_recv hK hP (ci := 8) (q0 := 0) rfl rfl)) rfl rfl hl.1 rfl (lv_room (Nat.le_of_ble_eq_true rfl)) dX9_mapped_15 ⟨Nat.le_of_ble_eq_true rfl, Nat.le_of_ble_eq_true rfl⟩) ?_
  refine lv_istore (pc := 18) (lv' := [(5, .int (nI (rowM c r li))), (4, .int (nI (colM c r li))), (3, .int (zb (decide (lvl c r ≤ li)))), (0, .ref mo), (1, .int (nI li)), (2, .int (nI s))]) hx hb dX9_mapped_18 hl (by decide) rfl (fun ls hl => ?_)
  refine lv_iload_n (pc := 20) hx hb dX9_mapped_20 rfl (lv_at hl 5 rfl) ?_
  refine lv_i2l (pc := 21) (v := lN s) hx hb dX9_mapped_21 (nI_l (by omega)) ?_
  refine lv_iconst (pc := 22) (v := nI 0) hx hb dX9_mapped_22 rfl ?_
  refine ro_go (pc := 23) (va_runS (As := [.long (lN s), .int (nI 0)]) (rest := []) ⟨hx, hb, hml, hown, hts⟩ (c_X9_has l D Y (lN s) 0 (by first | assumption | omega)) (va_cwS 2 hts gX9_mapped_X9_has rfl rfl rfl hdX9_has ⟨Nat.le_of_ble_eq_true rfl, Nat.le_of_ble_eq_true rfl⟩) (ro_pS hK (hP.sub [] rfl)) rfl rfl hl.1 rfl (lv_room (Nat.le_of_ble_eq_true rfl)) dX9_mapped_23 ⟨Nat.le_of_ble_eq_true rfl, Nat.le_of_ble_eq_true rfl⟩) ?_
  refine z_if_eq (pc := 26) (tgt := 52) hx hb dX9_mapped_26 (by decide) (fun c26 => ?_) (fun c26 => ?_)
  · refine lv_iload (pc := 52) hx hb dX9_mapped_52 (lv_at hl 1 rfl) ?_
    refine lv_istore (pc := 54) (lv' := [(4, .int (nI (colM c r li))), (5, .int (nI (rowM c r li))), (3, .int (zb (decide (lvl c r ≤ li)))), (0, .ref mo), (1, .int (nI li)), (2, .int (nI s))]) hx hb dX9_mapped_54 hl (by decide) rfl (fun ls hl => ?_)
    refine lv_iload_n (pc := 56) hx hb dX9_mapped_56 rfl (lv_at hl 5 rfl) ?_
    refine lv_i2l (pc := 57) (v := lN s) hx hb dX9_mapped_57 (nI_l (by omega)) ?_
    refine lv_iconst (pc := 58) (v := nI 1) hx hb dX9_mapped_58 rfl ?_
    refine ro_go (pc := 59) (va_runS (As := [.long (lN s), .int (nI 1)]) (rest := []) ⟨hx, hb, hml, hown, hts⟩ (c_X9_has l D Y (lN s) 1 (by first | assumption | omega)) (va_cwS 2 hts gX9_mapped_X9_has rfl rfl rfl hdX9_has ⟨Nat.le_of_ble_eq_true rfl, Nat.le_of_ble_eq_true rfl⟩) (ro_pS hK (hP.sub [] rfl)) rfl rfl hl.1 rfl (lv_room (Nat.le_of_ble_eq_true rfl)) dX9_mapped_59 ⟨Nat.le_of_ble_eq_true rfl, Nat.le_of_ble_eq_true rfl⟩) ?_
    refine z_if_eq (pc := 62) (tgt := 88) hx hb dX9_mapped_62 (by decide) (fun c62 => ?_) (fun c62 => ?_)
    · refine lv_iload (pc := 88) hx hb dX9_mapped_88 (lv_at hl 1 rfl) ?_
      refine lv_istore (pc := 90) (lv' := [(5, .int (nI (rowM c r li))), (4, .int (nI (colM c r li))), (3, .int (zb (decide (lvl c r ≤ li)))), (0, .ref mo), (1, .int (nI li)), (2, .int (nI s))]) hx hb dX9_mapped_90 hl (by decide) rfl (fun ls hl => ?_)
      refine lv_iload_n (pc := 92) hx hb dX9_mapped_92 rfl (lv_at hl 5 rfl) ?_
      refine lv_i2l (pc := 93) (v := lN s) hx hb dX9_mapped_93 (nI_l (by omega)) ?_
      refine lv_iconst (pc := 94) (v := nI 2) hx hb dX9_mapped_94 rfl ?_
      refine ro_go (pc := 95) (va_runS (As := [.long (lN s), .int (nI 2)]) (rest := []) ⟨hx, hb, hml, hown, hts⟩ (c_X9_has l D Y (lN s) 2 (by first | assumption | omega)) (va_cwS 2 hts gX9_mapped_X9_has rfl rfl rfl hdX9_has ⟨Nat.le_of_ble_eq_true rfl, Nat.le_of_ble_eq_true rfl⟩) (ro_pS hK (hP.sub [] rfl)) rfl rfl hl.1 rfl (lv_room (Nat.le_of_ble_eq_true rfl)) dX9_mapped_95 ⟨Nat.le_of_ble_eq_true rfl, Nat.le_of_ble_eq_true rfl⟩) ?_
      refine z_if_eq (pc := 98) (tgt := 121) hx hb dX9_mapped_98 (by decide) (fun c98 => ?_) (fun c98 => ?_)
      · refine lv_aload_n (pc := 121) hx hb dX9_mapped_121 rfl (lv_at hl 3 rfl) ?_
        refine lv_iload_n (pc := 122) hx hb dX9_mapped_122 rfl (lv_at hl 2 rfl) ?_
        refine lv_iload (pc := 123) hx hb dX9_mapped_123 (lv_at hl 1 rfl) ?_
        refine lv_iload (pc := 125) hx hb dX9_mapped_125 (lv_at hl 0 rfl) ?_
        refine ro_go (pc := 127) (va_runV (As := [.int (zb (decide (lvl c r ≤ li))), .int (nI (colM c r li)), .int (nI (rowM c r li))]) (rest := []) ⟨hx, hb, hml, hown, hts⟩ (c_X9_numberOf l D Y mo c r fs (decide (lvl c r ≤ li)) (colM c r li) (rowM c r li) (hf) (hC)) (cwV 3 hts gX9_mapped_X9_numberOf rfl rfl rfl ⟨rfl, hdX9_numberOf⟩ ⟨Nat.le_of_ble_eq_true rfl, Nat.le_of_ble_eq_true rfl⟩) (ro_pV hK hP (ro_recv hK hP (ci := 8) (q0 := 0) rfl rfl)) rfl rfl hl.1 rfl (lv_room (Nat.le_of_ble_eq_true rfl)) dX9_mapped_127 ⟨Nat.le_of_ble_eq_true rfl, Nat.le_of_ble_eq_true rfl⟩) ?_
        exact ro_iret (v := nI (numM c r (decide (lvl c r ≤ li)) (colM c r li) (rowM c r li))) hx hb hr hlocks (by have t0 : s.testBit 0 = false := (by rw [← tb_lN (by omega)]; exact c26); have t1 : s.testBit 1 = false := (by rw [← tb_lN (by omega)]; exact c62); have t2 : s.testBit 2 = false := (by rw [← tb_lN (by omega)]; exact c98); unfold mapM imL imX imY; simp only [t0, t1, t2, Bool.not_true, Bool.not_false, if_true, if_false, Bool.false_eq_true]) dX9_mapped_130
      refine lv_aload_n (pc := 101) hx hb dX9_mapped_101 rfl (lv_at hl 3 rfl) ?_
      refine lv_iload_n (pc := 102) hx hb dX9_mapped_102 rfl (lv_at hl 2 rfl) ?_
      refine z_if_ne (pc := 103) (tgt := 110) hx hb dX9_mapped_103 (by decide) (fun c103 => ?_) (fun c103 => ?_)
      · refine lv_iconst (pc := 110) (v := nI 0) hx hb dX9_mapped_110 rfl ?_
        refine lv_iload (pc := 111) hx hb dX9_mapped_111 (lv_at hl 0 rfl) ?_
        refine lv_iload (pc := 113) hx hb dX9_mapped_113 (lv_at hl 1 rfl) ?_
        refine ro_go (pc := 115) (va_runV (As := [.int (nI 0), .int (nI (rowM c r li)), .int (nI (colM c r li))]) (rest := []) ⟨hx, hb, hml, hown, hts⟩ (c_X9_numberOf l D Y mo c r fs false (rowM c r li) (colM c r li) (hf) (hC)) (cwV 3 hts gX9_mapped_X9_numberOf rfl rfl rfl ⟨rfl, hdX9_numberOf⟩ ⟨Nat.le_of_ble_eq_true rfl, Nat.le_of_ble_eq_true rfl⟩) (ro_pV hK hP (ro_recv hK hP (ci := 8) (q0 := 0) rfl rfl)) rfl rfl hl.1 rfl (lv_room (Nat.le_of_ble_eq_true rfl)) dX9_mapped_115 ⟨Nat.le_of_ble_eq_true rfl, Nat.le_of_ble_eq_true rfl⟩) ?_
        refine lv_goto (pc := 118) (tgt := 130) hx hb dX9_mapped_118 (by decide) ?_
        exact ro_iret (v := nI (numM c r false (rowM c r li) (colM c r li))) hx hb hr hlocks (by have t0 : s.testBit 0 = false := (by rw [← tb_lN (by omega)]; exact c26); have t1 : s.testBit 1 = false := (by rw [← tb_lN (by omega)]; exact c62); have t2 : s.testBit 2 = true := (by rw [← tb_lN (by omega)]; exact c98); unfold mapM imL imX imY; simp only [t0, t1, t2, c103, Bool.not_true, Bool.not_false, if_true, if_false, Bool.false_eq_true]) dX9_mapped_130
      refine lv_iconst (pc := 106) (v := nI 1) hx hb dX9_mapped_106 rfl ?_
      refine lv_goto (pc := 107) (tgt := 111) hx hb dX9_mapped_107 (by decide) ?_
      refine lv_iload (pc := 111) hx hb dX9_mapped_111 (lv_at hl 0 rfl) ?_
      refine lv_iload (pc := 113) hx hb dX9_mapped_113 (lv_at hl 1 rfl) ?_
      refine ro_go (pc := 115) (va_runV (As := [.int (nI 1), .int (nI (rowM c r li)), .int (nI (colM c r li))]) (rest := []) ⟨hx, hb, hml, hown, hts⟩ (c_X9_numberOf l D Y mo c r fs true (rowM c r li) (colM c r li) (hf) (hC)) (cwV 3 hts gX9_mapped_X9_numberOf rfl rfl rfl ⟨rfl, hdX9_numberOf⟩ ⟨Nat.le_of_ble_eq_true rfl, Nat.le_of_ble_eq_true rfl⟩) (ro_pV hK hP (ro_recv hK hP (ci := 8) (q0 := 0) rfl rfl)) rfl rfl hl.1 rfl (lv_room (Nat.le_of_ble_eq_true rfl)) dX9_mapped_115 ⟨Nat.le_of_ble_eq_true rfl, Nat.le_of_ble_eq_true rfl⟩) ?_
      refine lv_goto (pc := 118) (tgt := 130) hx hb dX9_mapped_118 (by decide) ?_
      exact ro_iret (v := nI (numM c r true (rowM c r li) (colM c r li))) hx hb hr hlocks (by have t0 : s.testBit 0 = false := (by rw [← tb_lN (by omega)]; exact c26); have t1 : s.testBit 1 = false := (by rw [← tb_lN (by omega)]; exact c62); have t2 : s.testBit 2 = true := (by rw [← tb_lN (by omega)]; exact c98); unfold mapM imL imX imY; simp only [t0, t1, t2, c103, Bool.not_true, Bool.not_false, if_true, if_false, Bool.false_eq_true]) dX9_mapped_130
    refine lv_iload_n (pc := 65) hx hb dX9_mapped_65 rfl (lv_at hl 2 rfl) ?_
    refine z_if_eq (pc := 66) (tgt := 78) hx hb dX9_mapped_66 (by decide) (fun c66 => ?_) (fun c66 => ?_)
    · have hcv := hcr2 (of_decide_eq_false c66)
      refine lv_aload_n (pc := 78) hx hb dX9_mapped_78 rfl (lv_at hl 3 rfl) ?_
      refine va_get (pc := 79) (D := D) (ci := 8) (v := .int (nI r)) (C := RX9) (T := TX9) (N := 25) hx hb hts hinX9 hown hK.1 hP 0 rfl rfl 2 (by decide) (hts (.fieldLink RX9 13 "BoxesGameModel" "rows" "I") (List.mem_of_getElem? (i := 2) rfl)) (fun _ h9 => h9) hf.2 dX9_mapped_79 ?_
      refine lv_iload (pc := 82) hx hb dX9_mapped_82 (lv_at hl 1 rfl) ?_
      refine n_isub (pc := 84) hx hb (by omega) dX9_mapped_84 ?_
      refine lv_goto (pc := 85) (tgt := 90) hx hb dX9_mapped_85 (by decide) ?_
      refine lv_istore (pc := 90) (lv' := [(5, .int (nI (r - (rowM c r li)))), (4, .int (nI (colM c r li))), (3, .int (zb (decide (lvl c r ≤ li)))), (0, .ref mo), (1, .int (nI li)), (2, .int (nI s))]) hx hb dX9_mapped_90 hl (by decide) rfl (fun ls hl => ?_)
      refine lv_iload_n (pc := 92) hx hb dX9_mapped_92 rfl (lv_at hl 5 rfl) ?_
      refine lv_i2l (pc := 93) (v := lN s) hx hb dX9_mapped_93 (nI_l (by omega)) ?_
      refine lv_iconst (pc := 94) (v := nI 2) hx hb dX9_mapped_94 rfl ?_
      refine ro_go (pc := 95) (va_runS (As := [.long (lN s), .int (nI 2)]) (rest := []) ⟨hx, hb, hml, hown, hts⟩ (c_X9_has l D Y (lN s) 2 (by first | assumption | omega)) (va_cwS 2 hts gX9_mapped_X9_has rfl rfl rfl hdX9_has ⟨Nat.le_of_ble_eq_true rfl, Nat.le_of_ble_eq_true rfl⟩) (ro_pS hK (hP.sub [] rfl)) rfl rfl hl.1 rfl (lv_room (Nat.le_of_ble_eq_true rfl)) dX9_mapped_95 ⟨Nat.le_of_ble_eq_true rfl, Nat.le_of_ble_eq_true rfl⟩) ?_
      refine z_if_eq (pc := 98) (tgt := 121) hx hb dX9_mapped_98 (by decide) (fun c98 => ?_) (fun c98 => ?_)
      · refine lv_aload_n (pc := 121) hx hb dX9_mapped_121 rfl (lv_at hl 3 rfl) ?_
        refine lv_iload_n (pc := 122) hx hb dX9_mapped_122 rfl (lv_at hl 2 rfl) ?_
        refine lv_iload (pc := 123) hx hb dX9_mapped_123 (lv_at hl 1 rfl) ?_
        refine lv_iload (pc := 125) hx hb dX9_mapped_125 (lv_at hl 0 rfl) ?_
        refine ro_go (pc := 127) (va_runV (As := [.int (zb (decide (lvl c r ≤ li))), .int (nI (colM c r li)), .int (nI (r - (rowM c r li)))]) (rest := []) ⟨hx, hb, hml, hown, hts⟩ (c_X9_numberOf l D Y mo c r fs (decide (lvl c r ≤ li)) (colM c r li) (r - (rowM c r li)) (hf) (hC)) (cwV 3 hts gX9_mapped_X9_numberOf rfl rfl rfl ⟨rfl, hdX9_numberOf⟩ ⟨Nat.le_of_ble_eq_true rfl, Nat.le_of_ble_eq_true rfl⟩) (ro_pV hK hP (ro_recv hK hP (ci := 8) (q0 := 0) rfl rfl)) rfl rfl hl.1 rfl (lv_room (Nat.le_of_ble_eq_true rfl)) dX9_mapped_127 ⟨Nat.le_of_ble_eq_true rfl, Nat.le_of_ble_eq_true rfl⟩) ?_
        exact ro_iret (v := nI (numM c r (decide (lvl c r ≤ li)) (colM c r li) (r - (rowM c r li)))) hx hb hr hlocks (by have t0 : s.testBit 0 = false := (by rw [← tb_lN (by omega)]; exact c26); have t1 : s.testBit 1 = true := (by rw [← tb_lN (by omega)]; exact c62); have t2 : s.testBit 2 = false := (by rw [← tb_lN (by omega)]; exact c98); unfold mapM imL imX imY; simp only [t0, t1, t2, c66, Bool.not_true, Bool.not_false, if_true, if_false, Bool.false_eq_true]) dX9_mapped_130
      refine lv_aload_n (pc := 101) hx hb dX9_mapped_101 rfl (lv_at hl 3 rfl) ?_
      refine lv_iload_n (pc := 102) hx hb dX9_mapped_102 rfl (lv_at hl 2 rfl) ?_
      refine z_if_ne (pc := 103) (tgt := 110) hx hb dX9_mapped_103 (by decide) (fun c103 => ?_) (fun c103 => ?_)
      · exact absurd (c66.symm.trans c103) (by decide)
      refine lv_iconst (pc := 106) (v := nI 1) hx hb dX9_mapped_106 rfl ?_
      refine lv_goto (pc := 107) (tgt := 111) hx hb dX9_mapped_107 (by decide) ?_
      refine lv_iload (pc := 111) hx hb dX9_mapped_111 (lv_at hl 0 rfl) ?_
      refine lv_iload (pc := 113) hx hb dX9_mapped_113 (lv_at hl 1 rfl) ?_
      refine ro_go (pc := 115) (va_runV (As := [.int (nI 1), .int (nI (r - (rowM c r li))), .int (nI (colM c r li))]) (rest := []) ⟨hx, hb, hml, hown, hts⟩ (c_X9_numberOf l D Y mo c r fs true (r - (rowM c r li)) (colM c r li) (hf) (hC)) (cwV 3 hts gX9_mapped_X9_numberOf rfl rfl rfl ⟨rfl, hdX9_numberOf⟩ ⟨Nat.le_of_ble_eq_true rfl, Nat.le_of_ble_eq_true rfl⟩) (ro_pV hK hP (ro_recv hK hP (ci := 8) (q0 := 0) rfl rfl)) rfl rfl hl.1 rfl (lv_room (Nat.le_of_ble_eq_true rfl)) dX9_mapped_115 ⟨Nat.le_of_ble_eq_true rfl, Nat.le_of_ble_eq_true rfl⟩) ?_
      refine lv_goto (pc := 118) (tgt := 130) hx hb dX9_mapped_118 (by decide) ?_
      exact ro_iret (v := nI (numM c r true (r - (rowM c r li)) (colM c r li))) hx hb hr hlocks (by have t0 : s.testBit 0 = false := (by rw [← tb_lN (by omega)]; exact c26); have t1 : s.testBit 1 = true := (by rw [← tb_lN (by omega)]; exact c62); have t2 : s.testBit 2 = true := (by rw [← tb_lN (by omega)]; exact c98); unfold mapM imL imX imY; simp only [t0, t1, t2, c66, Bool.not_true, Bool.not_false, if_true, if_false, Bool.false_eq_true]) dX9_mapped_130
    have hcv := hcr1 (of_decide_eq_true c66)
    refine lv_aload_n (pc := 69) hx hb dX9_mapped_69 rfl (lv_at hl 3 rfl) ?_
    refine va_get (pc := 70) (D := D) (ci := 8) (v := .int (nI r)) (C := RX9) (T := TX9) (N := 25) hx hb hts hinX9 hown hK.1 hP 0 rfl rfl 2 (by decide) (hts (.fieldLink RX9 13 "BoxesGameModel" "rows" "I") (List.mem_of_getElem? (i := 2) rfl)) (fun _ h9 => h9) hf.2 dX9_mapped_70 ?_
    refine lv_iconst (pc := 73) (v := nI 1) hx hb dX9_mapped_73 rfl ?_
    refine n_isub (pc := 74) hx hb (by omega) dX9_mapped_74 ?_
    refine lv_goto (pc := 75) (tgt := 82) hx hb dX9_mapped_75 (by decide) ?_
    refine lv_iload (pc := 82) hx hb dX9_mapped_82 (lv_at hl 1 rfl) ?_
    refine n_isub (pc := 84) hx hb (by omega) dX9_mapped_84 ?_
    refine lv_goto (pc := 85) (tgt := 90) hx hb dX9_mapped_85 (by decide) ?_
    refine lv_istore (pc := 90) (lv' := [(5, .int (nI ((r - 1) - (rowM c r li)))), (4, .int (nI (colM c r li))), (3, .int (zb (decide (lvl c r ≤ li)))), (0, .ref mo), (1, .int (nI li)), (2, .int (nI s))]) hx hb dX9_mapped_90 hl (by decide) rfl (fun ls hl => ?_)
    refine lv_iload_n (pc := 92) hx hb dX9_mapped_92 rfl (lv_at hl 5 rfl) ?_
    refine lv_i2l (pc := 93) (v := lN s) hx hb dX9_mapped_93 (nI_l (by omega)) ?_
    refine lv_iconst (pc := 94) (v := nI 2) hx hb dX9_mapped_94 rfl ?_
    refine ro_go (pc := 95) (va_runS (As := [.long (lN s), .int (nI 2)]) (rest := []) ⟨hx, hb, hml, hown, hts⟩ (c_X9_has l D Y (lN s) 2 (by first | assumption | omega)) (va_cwS 2 hts gX9_mapped_X9_has rfl rfl rfl hdX9_has ⟨Nat.le_of_ble_eq_true rfl, Nat.le_of_ble_eq_true rfl⟩) (ro_pS hK (hP.sub [] rfl)) rfl rfl hl.1 rfl (lv_room (Nat.le_of_ble_eq_true rfl)) dX9_mapped_95 ⟨Nat.le_of_ble_eq_true rfl, Nat.le_of_ble_eq_true rfl⟩) ?_
    refine z_if_eq (pc := 98) (tgt := 121) hx hb dX9_mapped_98 (by decide) (fun c98 => ?_) (fun c98 => ?_)
    · refine lv_aload_n (pc := 121) hx hb dX9_mapped_121 rfl (lv_at hl 3 rfl) ?_
      refine lv_iload_n (pc := 122) hx hb dX9_mapped_122 rfl (lv_at hl 2 rfl) ?_
      refine lv_iload (pc := 123) hx hb dX9_mapped_123 (lv_at hl 1 rfl) ?_
      refine lv_iload (pc := 125) hx hb dX9_mapped_125 (lv_at hl 0 rfl) ?_
      refine ro_go (pc := 127) (va_runV (As := [.int (zb (decide (lvl c r ≤ li))), .int (nI (colM c r li)), .int (nI ((r - 1) - (rowM c r li)))]) (rest := []) ⟨hx, hb, hml, hown, hts⟩ (c_X9_numberOf l D Y mo c r fs (decide (lvl c r ≤ li)) (colM c r li) ((r - 1) - (rowM c r li)) (hf) (hC)) (cwV 3 hts gX9_mapped_X9_numberOf rfl rfl rfl ⟨rfl, hdX9_numberOf⟩ ⟨Nat.le_of_ble_eq_true rfl, Nat.le_of_ble_eq_true rfl⟩) (ro_pV hK hP (ro_recv hK hP (ci := 8) (q0 := 0) rfl rfl)) rfl rfl hl.1 rfl (lv_room (Nat.le_of_ble_eq_true rfl)) dX9_mapped_127 ⟨Nat.le_of_ble_eq_true rfl, Nat.le_of_ble_eq_true rfl⟩) ?_
      exact ro_iret (v := nI (numM c r (decide (lvl c r ≤ li)) (colM c r li) ((r - 1) - (rowM c r li)))) hx hb hr hlocks (by have t0 : s.testBit 0 = false := (by rw [← tb_lN (by omega)]; exact c26); have t1 : s.testBit 1 = true := (by rw [← tb_lN (by omega)]; exact c62); have t2 : s.testBit 2 = false := (by rw [← tb_lN (by omega)]; exact c98); unfold mapM imL imX imY; simp only [t0, t1, t2, c66, Bool.not_true, Bool.not_false, if_true, if_false, Bool.false_eq_true]) dX9_mapped_130
    refine lv_aload_n (pc := 101) hx hb dX9_mapped_101 rfl (lv_at hl 3 rfl) ?_
    refine lv_iload_n (pc := 102) hx hb dX9_mapped_102 rfl (lv_at hl 2 rfl) ?_
    refine z_if_ne (pc := 103) (tgt := 110) hx hb dX9_mapped_103 (by decide) (fun c103 => ?_) (fun c103 => ?_)
    · refine lv_iconst (pc := 110) (v := nI 0) hx hb dX9_mapped_110 rfl ?_
      refine lv_iload (pc := 111) hx hb dX9_mapped_111 (lv_at hl 0 rfl) ?_
      refine lv_iload (pc := 113) hx hb dX9_mapped_113 (lv_at hl 1 rfl) ?_
      refine ro_go (pc := 115) (va_runV (As := [.int (nI 0), .int (nI ((r - 1) - (rowM c r li))), .int (nI (colM c r li))]) (rest := []) ⟨hx, hb, hml, hown, hts⟩ (c_X9_numberOf l D Y mo c r fs false ((r - 1) - (rowM c r li)) (colM c r li) (hf) (hC)) (cwV 3 hts gX9_mapped_X9_numberOf rfl rfl rfl ⟨rfl, hdX9_numberOf⟩ ⟨Nat.le_of_ble_eq_true rfl, Nat.le_of_ble_eq_true rfl⟩) (ro_pV hK hP (ro_recv hK hP (ci := 8) (q0 := 0) rfl rfl)) rfl rfl hl.1 rfl (lv_room (Nat.le_of_ble_eq_true rfl)) dX9_mapped_115 ⟨Nat.le_of_ble_eq_true rfl, Nat.le_of_ble_eq_true rfl⟩) ?_
      refine lv_goto (pc := 118) (tgt := 130) hx hb dX9_mapped_118 (by decide) ?_
      exact ro_iret (v := nI (numM c r false ((r - 1) - (rowM c r li)) (colM c r li))) hx hb hr hlocks (by have t0 : s.testBit 0 = false := (by rw [← tb_lN (by omega)]; exact c26); have t1 : s.testBit 1 = true := (by rw [← tb_lN (by omega)]; exact c62); have t2 : s.testBit 2 = true := (by rw [← tb_lN (by omega)]; exact c98); unfold mapM imL imX imY; simp only [t0, t1, t2, c66, Bool.not_true, Bool.not_false, if_true, if_false, Bool.false_eq_true]) dX9_mapped_130
    · exact absurd (c66.symm.trans c103) (by decide)
  refine lv_iload_n (pc := 29) hx hb dX9_mapped_29 rfl (lv_at hl 2 rfl) ?_
  refine z_if_eq (pc := 30) (tgt := 40) hx hb dX9_mapped_30 (by decide) (fun c30 => ?_) (fun c30 => ?_)
  · have hcu := hcr2 (of_decide_eq_false c30)
    refine lv_aload_n (pc := 40) hx hb dX9_mapped_40 rfl (lv_at hl 3 rfl) ?_
    refine va_get (pc := 41) (D := D) (ci := 8) (v := .int (nI c)) (C := RX9) (T := TX9) (N := 25) hx hb hts hinX9 hown hK.1 hP 0 rfl rfl 1 (by decide) (hts (.fieldLink RX9 7 "BoxesGameModel" "columns" "I") (List.mem_of_getElem? (i := 1) rfl)) (fun _ h9 => h9) hf.1 dX9_mapped_41 ?_
    refine lv_iconst (pc := 44) (v := nI 1) hx hb dX9_mapped_44 rfl ?_
    refine n_isub (pc := 45) hx hb (by omega) dX9_mapped_45 ?_
    refine lv_iload (pc := 46) hx hb dX9_mapped_46 (lv_at hl 1 rfl) ?_
    refine n_isub (pc := 48) hx hb (by omega) dX9_mapped_48 ?_
    refine lv_goto (pc := 49) (tgt := 54) hx hb dX9_mapped_49 (by decide) ?_
    refine lv_istore (pc := 54) (lv' := [(4, .int (nI ((c - 1) - (colM c r li)))), (5, .int (nI (rowM c r li))), (3, .int (zb (decide (lvl c r ≤ li)))), (0, .ref mo), (1, .int (nI li)), (2, .int (nI s))]) hx hb dX9_mapped_54 hl (by decide) rfl (fun ls hl => ?_)
    refine lv_iload_n (pc := 56) hx hb dX9_mapped_56 rfl (lv_at hl 5 rfl) ?_
    refine lv_i2l (pc := 57) (v := lN s) hx hb dX9_mapped_57 (nI_l (by omega)) ?_
    refine lv_iconst (pc := 58) (v := nI 1) hx hb dX9_mapped_58 rfl ?_
    refine ro_go (pc := 59) (va_runS (As := [.long (lN s), .int (nI 1)]) (rest := []) ⟨hx, hb, hml, hown, hts⟩ (c_X9_has l D Y (lN s) 1 (by first | assumption | omega)) (va_cwS 2 hts gX9_mapped_X9_has rfl rfl rfl hdX9_has ⟨Nat.le_of_ble_eq_true rfl, Nat.le_of_ble_eq_true rfl⟩) (ro_pS hK (hP.sub [] rfl)) rfl rfl hl.1 rfl (lv_room (Nat.le_of_ble_eq_true rfl)) dX9_mapped_59 ⟨Nat.le_of_ble_eq_true rfl, Nat.le_of_ble_eq_true rfl⟩) ?_
    refine z_if_eq (pc := 62) (tgt := 88) hx hb dX9_mapped_62 (by decide) (fun c62 => ?_) (fun c62 => ?_)
    · refine lv_iload (pc := 88) hx hb dX9_mapped_88 (lv_at hl 1 rfl) ?_
      refine lv_istore (pc := 90) (lv' := [(5, .int (nI (rowM c r li))), (4, .int (nI ((c - 1) - (colM c r li)))), (3, .int (zb (decide (lvl c r ≤ li)))), (0, .ref mo), (1, .int (nI li)), (2, .int (nI s))]) hx hb dX9_mapped_90 hl (by decide) rfl (fun ls hl => ?_)
      refine lv_iload_n (pc := 92) hx hb dX9_mapped_92 rfl (lv_at hl 5 rfl) ?_
      refine lv_i2l (pc := 93) (v := lN s) hx hb dX9_mapped_93 (nI_l (by omega)) ?_
      refine lv_iconst (pc := 94) (v := nI 2) hx hb dX9_mapped_94 rfl ?_
      refine ro_go (pc := 95) (va_runS (As := [.long (lN s), .int (nI 2)]) (rest := []) ⟨hx, hb, hml, hown, hts⟩ (c_X9_has l D Y (lN s) 2 (by first | assumption | omega)) (va_cwS 2 hts gX9_mapped_X9_has rfl rfl rfl hdX9_has ⟨Nat.le_of_ble_eq_true rfl, Nat.le_of_ble_eq_true rfl⟩) (ro_pS hK (hP.sub [] rfl)) rfl rfl hl.1 rfl (lv_room (Nat.le_of_ble_eq_true rfl)) dX9_mapped_95 ⟨Nat.le_of_ble_eq_true rfl, Nat.le_of_ble_eq_true rfl⟩) ?_
      refine z_if_eq (pc := 98) (tgt := 121) hx hb dX9_mapped_98 (by decide) (fun c98 => ?_) (fun c98 => ?_)
      · refine lv_aload_n (pc := 121) hx hb dX9_mapped_121 rfl (lv_at hl 3 rfl) ?_
        refine lv_iload_n (pc := 122) hx hb dX9_mapped_122 rfl (lv_at hl 2 rfl) ?_
        refine lv_iload (pc := 123) hx hb dX9_mapped_123 (lv_at hl 1 rfl) ?_
        refine lv_iload (pc := 125) hx hb dX9_mapped_125 (lv_at hl 0 rfl) ?_
        refine ro_go (pc := 127) (va_runV (As := [.int (zb (decide (lvl c r ≤ li))), .int (nI ((c - 1) - (colM c r li))), .int (nI (rowM c r li))]) (rest := []) ⟨hx, hb, hml, hown, hts⟩ (c_X9_numberOf l D Y mo c r fs (decide (lvl c r ≤ li)) ((c - 1) - (colM c r li)) (rowM c r li) (hf) (hC)) (cwV 3 hts gX9_mapped_X9_numberOf rfl rfl rfl ⟨rfl, hdX9_numberOf⟩ ⟨Nat.le_of_ble_eq_true rfl, Nat.le_of_ble_eq_true rfl⟩) (ro_pV hK hP (ro_recv hK hP (ci := 8) (q0 := 0) rfl rfl)) rfl rfl hl.1 rfl (lv_room (Nat.le_of_ble_eq_true rfl)) dX9_mapped_127 ⟨Nat.le_of_ble_eq_true rfl, Nat.le_of_ble_eq_true rfl⟩) ?_
        exact ro_iret (v := nI (numM c r (decide (lvl c r ≤ li)) ((c - 1) - (colM c r li)) (rowM c r li))) hx hb hr hlocks (by have t0 : s.testBit 0 = true := (by rw [← tb_lN (by omega)]; exact c26); have t1 : s.testBit 1 = false := (by rw [← tb_lN (by omega)]; exact c62); have t2 : s.testBit 2 = false := (by rw [← tb_lN (by omega)]; exact c98); unfold mapM imL imX imY; simp only [t0, t1, t2, c30, Bool.not_true, Bool.not_false, if_true, if_false, Bool.false_eq_true]) dX9_mapped_130
      refine lv_aload_n (pc := 101) hx hb dX9_mapped_101 rfl (lv_at hl 3 rfl) ?_
      refine lv_iload_n (pc := 102) hx hb dX9_mapped_102 rfl (lv_at hl 2 rfl) ?_
      refine z_if_ne (pc := 103) (tgt := 110) hx hb dX9_mapped_103 (by decide) (fun c103 => ?_) (fun c103 => ?_)
      · exact absurd (c30.symm.trans c103) (by decide)
      refine lv_iconst (pc := 106) (v := nI 1) hx hb dX9_mapped_106 rfl ?_
      refine lv_goto (pc := 107) (tgt := 111) hx hb dX9_mapped_107 (by decide) ?_
      refine lv_iload (pc := 111) hx hb dX9_mapped_111 (lv_at hl 0 rfl) ?_
      refine lv_iload (pc := 113) hx hb dX9_mapped_113 (lv_at hl 1 rfl) ?_
      refine ro_go (pc := 115) (va_runV (As := [.int (nI 1), .int (nI (rowM c r li)), .int (nI ((c - 1) - (colM c r li)))]) (rest := []) ⟨hx, hb, hml, hown, hts⟩ (c_X9_numberOf l D Y mo c r fs true (rowM c r li) ((c - 1) - (colM c r li)) (hf) (hC)) (cwV 3 hts gX9_mapped_X9_numberOf rfl rfl rfl ⟨rfl, hdX9_numberOf⟩ ⟨Nat.le_of_ble_eq_true rfl, Nat.le_of_ble_eq_true rfl⟩) (ro_pV hK hP (ro_recv hK hP (ci := 8) (q0 := 0) rfl rfl)) rfl rfl hl.1 rfl (lv_room (Nat.le_of_ble_eq_true rfl)) dX9_mapped_115 ⟨Nat.le_of_ble_eq_true rfl, Nat.le_of_ble_eq_true rfl⟩) ?_
      refine lv_goto (pc := 118) (tgt := 130) hx hb dX9_mapped_118 (by decide) ?_
      exact ro_iret (v := nI (numM c r true (rowM c r li) ((c - 1) - (colM c r li)))) hx hb hr hlocks (by have t0 : s.testBit 0 = true := (by rw [← tb_lN (by omega)]; exact c26); have t1 : s.testBit 1 = false := (by rw [← tb_lN (by omega)]; exact c62); have t2 : s.testBit 2 = true := (by rw [← tb_lN (by omega)]; exact c98); unfold mapM imL imX imY; simp only [t0, t1, t2, c30, Bool.not_true, Bool.not_false, if_true, if_false, Bool.false_eq_true]) dX9_mapped_130
    refine lv_iload_n (pc := 65) hx hb dX9_mapped_65 rfl (lv_at hl 2 rfl) ?_
    refine z_if_eq (pc := 66) (tgt := 78) hx hb dX9_mapped_66 (by decide) (fun c66 => ?_) (fun c66 => ?_)
    · have hcv := hcr2 (of_decide_eq_false c66)
      refine lv_aload_n (pc := 78) hx hb dX9_mapped_78 rfl (lv_at hl 3 rfl) ?_
      refine va_get (pc := 79) (D := D) (ci := 8) (v := .int (nI r)) (C := RX9) (T := TX9) (N := 25) hx hb hts hinX9 hown hK.1 hP 0 rfl rfl 2 (by decide) (hts (.fieldLink RX9 13 "BoxesGameModel" "rows" "I") (List.mem_of_getElem? (i := 2) rfl)) (fun _ h9 => h9) hf.2 dX9_mapped_79 ?_
      refine lv_iload (pc := 82) hx hb dX9_mapped_82 (lv_at hl 1 rfl) ?_
      refine n_isub (pc := 84) hx hb (by omega) dX9_mapped_84 ?_
      refine lv_goto (pc := 85) (tgt := 90) hx hb dX9_mapped_85 (by decide) ?_
      refine lv_istore (pc := 90) (lv' := [(5, .int (nI (r - (rowM c r li)))), (4, .int (nI ((c - 1) - (colM c r li)))), (3, .int (zb (decide (lvl c r ≤ li)))), (0, .ref mo), (1, .int (nI li)), (2, .int (nI s))]) hx hb dX9_mapped_90 hl (by decide) rfl (fun ls hl => ?_)
      refine lv_iload_n (pc := 92) hx hb dX9_mapped_92 rfl (lv_at hl 5 rfl) ?_
      refine lv_i2l (pc := 93) (v := lN s) hx hb dX9_mapped_93 (nI_l (by omega)) ?_
      refine lv_iconst (pc := 94) (v := nI 2) hx hb dX9_mapped_94 rfl ?_
      refine ro_go (pc := 95) (va_runS (As := [.long (lN s), .int (nI 2)]) (rest := []) ⟨hx, hb, hml, hown, hts⟩ (c_X9_has l D Y (lN s) 2 (by first | assumption | omega)) (va_cwS 2 hts gX9_mapped_X9_has rfl rfl rfl hdX9_has ⟨Nat.le_of_ble_eq_true rfl, Nat.le_of_ble_eq_true rfl⟩) (ro_pS hK (hP.sub [] rfl)) rfl rfl hl.1 rfl (lv_room (Nat.le_of_ble_eq_true rfl)) dX9_mapped_95 ⟨Nat.le_of_ble_eq_true rfl, Nat.le_of_ble_eq_true rfl⟩) ?_
      refine z_if_eq (pc := 98) (tgt := 121) hx hb dX9_mapped_98 (by decide) (fun c98 => ?_) (fun c98 => ?_)
      · refine lv_aload_n (pc := 121) hx hb dX9_mapped_121 rfl (lv_at hl 3 rfl) ?_
        refine lv_iload_n (pc := 122) hx hb dX9_mapped_122 rfl (lv_at hl 2 rfl) ?_
        refine lv_iload (pc := 123) hx hb dX9_mapped_123 (lv_at hl 1 rfl) ?_
        refine lv_iload (pc := 125) hx hb dX9_mapped_125 (lv_at hl 0 rfl) ?_
        refine ro_go (pc := 127) (va_runV (As := [.int (zb (decide (lvl c r ≤ li))), .int (nI ((c - 1) - (colM c r li))), .int (nI (r - (rowM c r li)))]) (rest := []) ⟨hx, hb, hml, hown, hts⟩ (c_X9_numberOf l D Y mo c r fs (decide (lvl c r ≤ li)) ((c - 1) - (colM c r li)) (r - (rowM c r li)) (hf) (hC)) (cwV 3 hts gX9_mapped_X9_numberOf rfl rfl rfl ⟨rfl, hdX9_numberOf⟩ ⟨Nat.le_of_ble_eq_true rfl, Nat.le_of_ble_eq_true rfl⟩) (ro_pV hK hP (ro_recv hK hP (ci := 8) (q0 := 0) rfl rfl)) rfl rfl hl.1 rfl (lv_room (Nat.le_of_ble_eq_true rfl)) dX9_mapped_127 ⟨Nat.le_of_ble_eq_true rfl, Nat.le_of_ble_eq_true rfl⟩) ?_
        exact ro_iret (v := nI (numM c r (decide (lvl c r ≤ li)) ((c - 1) - (colM c r li)) (r - (rowM c r li)))) hx hb hr hlocks (by have t0 : s.testBit 0 = true := (by rw [← tb_lN (by omega)]; exact c26); have t1 : s.testBit 1 = true := (by rw [← tb_lN (by omega)]; exact c62); have t2 : s.testBit 2 = false := (by rw [← tb_lN (by omega)]; exact c98); unfold mapM imL imX imY; simp only [t0, t1, t2, c30, Bool.not_true, Bool.not_false, if_true, if_false, Bool.false_eq_true]) dX9_mapped_130
      refine lv_aload_n (pc := 101) hx hb dX9_mapped_101 rfl (lv_at hl 3 rfl) ?_
      refine lv_iload_n (pc := 102) hx hb dX9_mapped_102 rfl (lv_at hl 2 rfl) ?_
      refine z_if_ne (pc := 103) (tgt := 110) hx hb dX9_mapped_103 (by decide) (fun c103 => ?_) (fun c103 => ?_)
      · exact absurd (c30.symm.trans c103) (by decide)
      refine lv_iconst (pc := 106) (v := nI 1) hx hb dX9_mapped_106 rfl ?_
      refine lv_goto (pc := 107) (tgt := 111) hx hb dX9_mapped_107 (by decide) ?_
      refine lv_iload (pc := 111) hx hb dX9_mapped_111 (lv_at hl 0 rfl) ?_
      refine lv_iload (pc := 113) hx hb dX9_mapped_113 (lv_at hl 1 rfl) ?_
      refine ro_go (pc := 115) (va_runV (As := [.int (nI 1), .int (nI (r - (rowM c r li))), .int (nI ((c - 1) - (colM c r li)))]) (rest := []) ⟨hx, hb, hml, hown, hts⟩ (c_X9_numberOf l D Y mo c r fs true (r - (rowM c r li)) ((c - 1) - (colM c r li)) (hf) (hC)) (cwV 3 hts gX9_mapped_X9_numberOf rfl rfl rfl ⟨rfl, hdX9_numberOf⟩ ⟨Nat.le_of_ble_eq_true rfl, Nat.le_of_ble_eq_true rfl⟩) (ro_pV hK hP (ro_recv hK hP (ci := 8) (q0 := 0) rfl rfl)) rfl rfl hl.1 rfl (lv_room (Nat.le_of_ble_eq_true rfl)) dX9_mapped_115 ⟨Nat.le_of_ble_eq_true rfl, Nat.le_of_ble_eq_true rfl⟩) ?_
      refine lv_goto (pc := 118) (tgt := 130) hx hb dX9_mapped_118 (by decide) ?_
      exact ro_iret (v := nI (numM c r true (r - (rowM c r li)) ((c - 1) - (colM c r li)))) hx hb hr hlocks (by have t0 : s.testBit 0 = true := (by rw [← tb_lN (by omega)]; exact c26); have t1 : s.testBit 1 = true := (by rw [← tb_lN (by omega)]; exact c62); have t2 : s.testBit 2 = true := (by rw [← tb_lN (by omega)]; exact c98); unfold mapM imL imX imY; simp only [t0, t1, t2, c30, Bool.not_true, Bool.not_false, if_true, if_false, Bool.false_eq_true]) dX9_mapped_130
    · exact absurd (c30.symm.trans c66) (by decide)
  have hcu := hcr1 (of_decide_eq_true c30)
  refine lv_aload_n (pc := 33) hx hb dX9_mapped_33 rfl (lv_at hl 3 rfl) ?_
  refine va_get (pc := 34) (D := D) (ci := 8) (v := .int (nI c)) (C := RX9) (T := TX9) (N := 25) hx hb hts hinX9 hown hK.1 hP 0 rfl rfl 1 (by decide) (hts (.fieldLink RX9 7 "BoxesGameModel" "columns" "I") (List.mem_of_getElem? (i := 1) rfl)) (fun _ h9 => h9) hf.1 dX9_mapped_34 ?_
  refine lv_goto (pc := 37) (tgt := 46) hx hb dX9_mapped_37 (by decide) ?_
  refine lv_iload (pc := 46) hx hb dX9_mapped_46 (lv_at hl 1 rfl) ?_
  refine n_isub (pc := 48) hx hb (by omega) dX9_mapped_48 ?_
  refine lv_goto (pc := 49) (tgt := 54) hx hb dX9_mapped_49 (by decide) ?_
  refine lv_istore (pc := 54) (lv' := [(4, .int (nI (c - (colM c r li)))), (5, .int (nI (rowM c r li))), (3, .int (zb (decide (lvl c r ≤ li)))), (0, .ref mo), (1, .int (nI li)), (2, .int (nI s))]) hx hb dX9_mapped_54 hl (by decide) rfl (fun ls hl => ?_)
  refine lv_iload_n (pc := 56) hx hb dX9_mapped_56 rfl (lv_at hl 5 rfl) ?_
  refine lv_i2l (pc := 57) (v := lN s) hx hb dX9_mapped_57 (nI_l (by omega)) ?_
  refine lv_iconst (pc := 58) (v := nI 1) hx hb dX9_mapped_58 rfl ?_
  refine ro_go (pc := 59) (va_runS (As := [.long (lN s), .int (nI 1)]) (rest := []) ⟨hx, hb, hml, hown, hts⟩ (c_X9_has l D Y (lN s) 1 (by first | assumption | omega)) (va_cwS 2 hts gX9_mapped_X9_has rfl rfl rfl hdX9_has ⟨Nat.le_of_ble_eq_true rfl, Nat.le_of_ble_eq_true rfl⟩) (ro_pS hK (hP.sub [] rfl)) rfl rfl hl.1 rfl (lv_room (Nat.le_of_ble_eq_true rfl)) dX9_mapped_59 ⟨Nat.le_of_ble_eq_true rfl, Nat.le_of_ble_eq_true rfl⟩) ?_
  refine z_if_eq (pc := 62) (tgt := 88) hx hb dX9_mapped_62 (by decide) (fun c62 => ?_) (fun c62 => ?_)
  · refine lv_iload (pc := 88) hx hb dX9_mapped_88 (lv_at hl 1 rfl) ?_
    refine lv_istore (pc := 90) (lv' := [(5, .int (nI (rowM c r li))), (4, .int (nI (c - (colM c r li)))), (3, .int (zb (decide (lvl c r ≤ li)))), (0, .ref mo), (1, .int (nI li)), (2, .int (nI s))]) hx hb dX9_mapped_90 hl (by decide) rfl (fun ls hl => ?_)
    refine lv_iload_n (pc := 92) hx hb dX9_mapped_92 rfl (lv_at hl 5 rfl) ?_
    refine lv_i2l (pc := 93) (v := lN s) hx hb dX9_mapped_93 (nI_l (by omega)) ?_
    refine lv_iconst (pc := 94) (v := nI 2) hx hb dX9_mapped_94 rfl ?_
    refine ro_go (pc := 95) (va_runS (As := [.long (lN s), .int (nI 2)]) (rest := []) ⟨hx, hb, hml, hown, hts⟩ (c_X9_has l D Y (lN s) 2 (by first | assumption | omega)) (va_cwS 2 hts gX9_mapped_X9_has rfl rfl rfl hdX9_has ⟨Nat.le_of_ble_eq_true rfl, Nat.le_of_ble_eq_true rfl⟩) (ro_pS hK (hP.sub [] rfl)) rfl rfl hl.1 rfl (lv_room (Nat.le_of_ble_eq_true rfl)) dX9_mapped_95 ⟨Nat.le_of_ble_eq_true rfl, Nat.le_of_ble_eq_true rfl⟩) ?_
    refine z_if_eq (pc := 98) (tgt := 121) hx hb dX9_mapped_98 (by decide) (fun c98 => ?_) (fun c98 => ?_)
    · refine lv_aload_n (pc := 121) hx hb dX9_mapped_121 rfl (lv_at hl 3 rfl) ?_
      refine lv_iload_n (pc := 122) hx hb dX9_mapped_122 rfl (lv_at hl 2 rfl) ?_
      refine lv_iload (pc := 123) hx hb dX9_mapped_123 (lv_at hl 1 rfl) ?_
      refine lv_iload (pc := 125) hx hb dX9_mapped_125 (lv_at hl 0 rfl) ?_
      refine ro_go (pc := 127) (va_runV (As := [.int (zb (decide (lvl c r ≤ li))), .int (nI (c - (colM c r li))), .int (nI (rowM c r li))]) (rest := []) ⟨hx, hb, hml, hown, hts⟩ (c_X9_numberOf l D Y mo c r fs (decide (lvl c r ≤ li)) (c - (colM c r li)) (rowM c r li) (hf) (hC)) (cwV 3 hts gX9_mapped_X9_numberOf rfl rfl rfl ⟨rfl, hdX9_numberOf⟩ ⟨Nat.le_of_ble_eq_true rfl, Nat.le_of_ble_eq_true rfl⟩) (ro_pV hK hP (ro_recv hK hP (ci := 8) (q0 := 0) rfl rfl)) rfl rfl hl.1 rfl (lv_room (Nat.le_of_ble_eq_true rfl)) dX9_mapped_127 ⟨Nat.le_of_ble_eq_true rfl, Nat.le_of_ble_eq_true rfl⟩) ?_
      exact ro_iret (v := nI (numM c r (decide (lvl c r ≤ li)) (c - (colM c r li)) (rowM c r li))) hx hb hr hlocks (by have t0 : s.testBit 0 = true := (by rw [← tb_lN (by omega)]; exact c26); have t1 : s.testBit 1 = false := (by rw [← tb_lN (by omega)]; exact c62); have t2 : s.testBit 2 = false := (by rw [← tb_lN (by omega)]; exact c98); unfold mapM imL imX imY; simp only [t0, t1, t2, c30, Bool.not_true, Bool.not_false, if_true, if_false, Bool.false_eq_true]) dX9_mapped_130
    refine lv_aload_n (pc := 101) hx hb dX9_mapped_101 rfl (lv_at hl 3 rfl) ?_
    refine lv_iload_n (pc := 102) hx hb dX9_mapped_102 rfl (lv_at hl 2 rfl) ?_
    refine z_if_ne (pc := 103) (tgt := 110) hx hb dX9_mapped_103 (by decide) (fun c103 => ?_) (fun c103 => ?_)
    · refine lv_iconst (pc := 110) (v := nI 0) hx hb dX9_mapped_110 rfl ?_
      refine lv_iload (pc := 111) hx hb dX9_mapped_111 (lv_at hl 0 rfl) ?_
      refine lv_iload (pc := 113) hx hb dX9_mapped_113 (lv_at hl 1 rfl) ?_
      refine ro_go (pc := 115) (va_runV (As := [.int (nI 0), .int (nI (rowM c r li)), .int (nI (c - (colM c r li)))]) (rest := []) ⟨hx, hb, hml, hown, hts⟩ (c_X9_numberOf l D Y mo c r fs false (rowM c r li) (c - (colM c r li)) (hf) (hC)) (cwV 3 hts gX9_mapped_X9_numberOf rfl rfl rfl ⟨rfl, hdX9_numberOf⟩ ⟨Nat.le_of_ble_eq_true rfl, Nat.le_of_ble_eq_true rfl⟩) (ro_pV hK hP (ro_recv hK hP (ci := 8) (q0 := 0) rfl rfl)) rfl rfl hl.1 rfl (lv_room (Nat.le_of_ble_eq_true rfl)) dX9_mapped_115 ⟨Nat.le_of_ble_eq_true rfl, Nat.le_of_ble_eq_true rfl⟩) ?_
      refine lv_goto (pc := 118) (tgt := 130) hx hb dX9_mapped_118 (by decide) ?_
      exact ro_iret (v := nI (numM c r false (rowM c r li) (c - (colM c r li)))) hx hb hr hlocks (by have t0 : s.testBit 0 = true := (by rw [← tb_lN (by omega)]; exact c26); have t1 : s.testBit 1 = false := (by rw [← tb_lN (by omega)]; exact c62); have t2 : s.testBit 2 = true := (by rw [← tb_lN (by omega)]; exact c98); unfold mapM imL imX imY; simp only [t0, t1, t2, c30, Bool.not_true, Bool.not_false, if_true, if_false, Bool.false_eq_true]) dX9_mapped_130
    · exact absurd (c30.symm.trans c103) (by decide)
  refine lv_iload_n (pc := 65) hx hb dX9_mapped_65 rfl (lv_at hl 2 rfl) ?_
  refine z_if_eq (pc := 66) (tgt := 78) hx hb dX9_mapped_66 (by decide) (fun c66 => ?_) (fun c66 => ?_)
  · exact absurd (c30.symm.trans c66) (by decide)
  have hcv := hcr1 (of_decide_eq_true c66)
  refine lv_aload_n (pc := 69) hx hb dX9_mapped_69 rfl (lv_at hl 3 rfl) ?_
  refine va_get (pc := 70) (D := D) (ci := 8) (v := .int (nI r)) (C := RX9) (T := TX9) (N := 25) hx hb hts hinX9 hown hK.1 hP 0 rfl rfl 2 (by decide) (hts (.fieldLink RX9 13 "BoxesGameModel" "rows" "I") (List.mem_of_getElem? (i := 2) rfl)) (fun _ h9 => h9) hf.2 dX9_mapped_70 ?_
  refine lv_iconst (pc := 73) (v := nI 1) hx hb dX9_mapped_73 rfl ?_
  refine n_isub (pc := 74) hx hb (by omega) dX9_mapped_74 ?_
  refine lv_goto (pc := 75) (tgt := 82) hx hb dX9_mapped_75 (by decide) ?_
  refine lv_iload (pc := 82) hx hb dX9_mapped_82 (lv_at hl 1 rfl) ?_
  refine n_isub (pc := 84) hx hb (by omega) dX9_mapped_84 ?_
  refine lv_goto (pc := 85) (tgt := 90) hx hb dX9_mapped_85 (by decide) ?_
  refine lv_istore (pc := 90) (lv' := [(5, .int (nI ((r - 1) - (rowM c r li)))), (4, .int (nI (c - (colM c r li)))), (3, .int (zb (decide (lvl c r ≤ li)))), (0, .ref mo), (1, .int (nI li)), (2, .int (nI s))]) hx hb dX9_mapped_90 hl (by decide) rfl (fun ls hl => ?_)
  refine lv_iload_n (pc := 92) hx hb dX9_mapped_92 rfl (lv_at hl 5 rfl) ?_
  refine lv_i2l (pc := 93) (v := lN s) hx hb dX9_mapped_93 (nI_l (by omega)) ?_
  refine lv_iconst (pc := 94) (v := nI 2) hx hb dX9_mapped_94 rfl ?_
  refine ro_go (pc := 95) (va_runS (As := [.long (lN s), .int (nI 2)]) (rest := []) ⟨hx, hb, hml, hown, hts⟩ (c_X9_has l D Y (lN s) 2 (by first | assumption | omega)) (va_cwS 2 hts gX9_mapped_X9_has rfl rfl rfl hdX9_has ⟨Nat.le_of_ble_eq_true rfl, Nat.le_of_ble_eq_true rfl⟩) (ro_pS hK (hP.sub [] rfl)) rfl rfl hl.1 rfl (lv_room (Nat.le_of_ble_eq_true rfl)) dX9_mapped_95 ⟨Nat.le_of_ble_eq_true rfl, Nat.le_of_ble_eq_true rfl⟩) ?_
  refine z_if_eq (pc := 98) (tgt := 121) hx hb dX9_mapped_98 (by decide) (fun c98 => ?_) (fun c98 => ?_)
  · refine lv_aload_n (pc := 121) hx hb dX9_mapped_121 rfl (lv_at hl 3 rfl) ?_
    refine lv_iload_n (pc := 122) hx hb dX9_mapped_122 rfl (lv_at hl 2 rfl) ?_
    refine lv_iload (pc := 123) hx hb dX9_mapped_123 (lv_at hl 1 rfl) ?_
    refine lv_iload (pc := 125) hx hb dX9_mapped_125 (lv_at hl 0 rfl) ?_
    refine ro_go (pc := 127) (va_runV (As := [.int (zb (decide (lvl c r ≤ li))), .int (nI (c - (colM c r li))), .int (nI ((r - 1) - (rowM c r li)))]) (rest := []) ⟨hx, hb, hml, hown, hts⟩ (c_X9_numberOf l D Y mo c r fs (decide (lvl c r ≤ li)) (c - (colM c r li)) ((r - 1) - (rowM c r li)) (hf) (hC)) (cwV 3 hts gX9_mapped_X9_numberOf rfl rfl rfl ⟨rfl, hdX9_numberOf⟩ ⟨Nat.le_of_ble_eq_true rfl, Nat.le_of_ble_eq_true rfl⟩) (ro_pV hK hP (ro_recv hK hP (ci := 8) (q0 := 0) rfl rfl)) rfl rfl hl.1 rfl (lv_room (Nat.le_of_ble_eq_true rfl)) dX9_mapped_127 ⟨Nat.le_of_ble_eq_true rfl, Nat.le_of_ble_eq_true rfl⟩) ?_
    exact ro_iret (v := nI (numM c r (decide (lvl c r ≤ li)) (c - (colM c r li)) ((r - 1) - (rowM c r li)))) hx hb hr hlocks (by have t0 : s.testBit 0 = true := (by rw [← tb_lN (by omega)]; exact c26); have t1 : s.testBit 1 = true := (by rw [← tb_lN (by omega)]; exact c62); have t2 : s.testBit 2 = false := (by rw [← tb_lN (by omega)]; exact c98); unfold mapM imL imX imY; simp only [t0, t1, t2, c30, Bool.not_true, Bool.not_false, if_true, if_false, Bool.false_eq_true]) dX9_mapped_130
  refine lv_aload_n (pc := 101) hx hb dX9_mapped_101 rfl (lv_at hl 3 rfl) ?_
  refine lv_iload_n (pc := 102) hx hb dX9_mapped_102 rfl (lv_at hl 2 rfl) ?_
  refine z_if_ne (pc := 103) (tgt := 110) hx hb dX9_mapped_103 (by decide) (fun c103 => ?_) (fun c103 => ?_)
  · refine lv_iconst (pc := 110) (v := nI 0) hx hb dX9_mapped_110 rfl ?_
    refine lv_iload (pc := 111) hx hb dX9_mapped_111 (lv_at hl 0 rfl) ?_
    refine lv_iload (pc := 113) hx hb dX9_mapped_113 (lv_at hl 1 rfl) ?_
    refine ro_go (pc := 115) (va_runV (As := [.int (nI 0), .int (nI ((r - 1) - (rowM c r li))), .int (nI (c - (colM c r li)))]) (rest := []) ⟨hx, hb, hml, hown, hts⟩ (c_X9_numberOf l D Y mo c r fs false ((r - 1) - (rowM c r li)) (c - (colM c r li)) (hf) (hC)) (cwV 3 hts gX9_mapped_X9_numberOf rfl rfl rfl ⟨rfl, hdX9_numberOf⟩ ⟨Nat.le_of_ble_eq_true rfl, Nat.le_of_ble_eq_true rfl⟩) (ro_pV hK hP (ro_recv hK hP (ci := 8) (q0 := 0) rfl rfl)) rfl rfl hl.1 rfl (lv_room (Nat.le_of_ble_eq_true rfl)) dX9_mapped_115 ⟨Nat.le_of_ble_eq_true rfl, Nat.le_of_ble_eq_true rfl⟩) ?_
    refine lv_goto (pc := 118) (tgt := 130) hx hb dX9_mapped_118 (by decide) ?_
    exact ro_iret (v := nI (numM c r false ((r - 1) - (rowM c r li)) (c - (colM c r li)))) hx hb hr hlocks (by have t0 : s.testBit 0 = true := (by rw [← tb_lN (by omega)]; exact c26); have t1 : s.testBit 1 = true := (by rw [← tb_lN (by omega)]; exact c62); have t2 : s.testBit 2 = true := (by rw [← tb_lN (by omega)]; exact c98); unfold mapM imL imX imY; simp only [t0, t1, t2, c30, Bool.not_true, Bool.not_false, if_true, if_false, Bool.false_eq_true]) dX9_mapped_130
  · exact absurd (c30.symm.trans c103) (by decide)
