set_option maxHeartbeats 1200000 in
set_option maxRecDepth 100000 in
theorem c_X9_many (l : Launch) (D : va_G) (Y : vY) (mo : Nat) (c : Nat) (r : Nat) (fs : List Value) (hf : MF c r fs) (hC : Cr c r) : Ro l yX9_many wsX9_many ({ frames := 0, cells := 0, slots := 0, locals := 0 } : Room) [.ref mo] D Y [(mo, .inr (8, fs))] (some (.int (nI (manyM c r)))) := by
  refine ro_intro (by decide +kernel) rfl (Nat.le_of_ble_eq_true rfl) [(0, .ref mo)] rfl ?_
  intro pG eG sG mG aG bG tG cG ls hx hb hr hml hts hown hlocks hK hP hl
  have hP : va_P D vwCl [(mo, .inr (8, fs))] sG.heap := hP
  have hown : sG.vm.findClass RX9 = some mG.cls := hown
  have hl : lv_has ls 1 [(0, .ref mo)] := hl
  have hinX9 : ∀ w ∈ u_ws RX9 TX9 25, w ∈ wsX9_many := by decide +kernel
  obtain ⟨hq1, hq2, hq3, hq4, hq5, hq6, hq7, hq8, hq9, hq10, hq11⟩ := hC.q
  refine lv_aload_n (pc := 0) hx hb dX9_many_0 rfl (lv_at hl 0 rfl) ?_
  refine va_get (pc := 1) (D := D) (ci := 8) (v := .int (nI c)) (C := RX9) (T := TX9) (N := 25) hx hb hts hinX9 hown hK.1 hP 0 rfl rfl 1 (by decide) (hts (.fieldLink RX9 7 "BoxesGameModel" "columns" "I") (List.mem_of_getElem? (i := 1) rfl)) (fun _ h9 => h9) hf.1 dX9_many_1 ?_
  refine lv_aload_n (pc := 4) hx hb dX9_many_4 rfl (lv_at hl 0 rfl) ?_
  refine va_get (pc := 5) (D := D) (ci := 8) (v := .int (nI r)) (C := RX9) (T := TX9) (N := 25) hx hb hts hinX9 hown hK.1 hP 0 rfl rfl 2 (by decide) (hts (.fieldLink RX9 13 "BoxesGameModel" "rows" "I") (List.mem_of_getElem? (i := 2) rfl)) (fun _ h9 => h9) hf.2 dX9_many_5 ?_
  refine n_icmp_ne (pc := 8) (tgt := 16) hx hb (by omega) (by omega) dX9_many_8 (by decide) (fun c8 => ?_) (fun c8 => ?_)
  · refine lv_iconst (pc := 16) (v := nI 4) hx hb dX9_many_16 rfl ?_
    exact ro_iret (v := nI 4) hx hb hr hlocks (by unfold manyM; rw [if_neg c8]) dX9_many_17
  refine lv_bipush (pc := 11) (v := nI 8) hx hb dX9_many_11 rfl ?_
  refine lv_goto (pc := 13) (tgt := 17) hx hb dX9_many_13 (by decide) ?_
  exact ro_iret (v := nI 8) hx hb hr hlocks (by unfold manyM; rw [if_pos c8]) dX9_many_17

set_option maxHeartbeats 1200000 in
set_option maxRecDepth 100000 in
theorem c_X9_mapped (l : Launch) (D : va_G) (Y : vY) (mo : Nat) (c : Nat) (r : Nat) (fs : List Value) (li : Nat) (s : Nat) (hf : MF c r fs) (hC : Cr c r) (hl0 : li < al c r) (hs8 : s < 8) : Ro l yX9_mapped wsX9_mapped ({ frames := 3, cells := 0, slots := 0, locals := 62 } : Room) [.ref mo, .int (nI li), .int (nI s)] D Y [(mo, .inr (8, fs))] (some (.int (nI (mapM c r li s)))) := by
  refine ro_intro (by decide +kernel) rfl (Nat.le_of_ble_eq_true rfl) [(0, .ref mo), (1, .int (nI li)), (2, .int (nI s))] rfl ?_
  intro pG eG sG mG aG bG tG cG ls hx hb hr hml hts hown hlocks hK hP hl
  have hP : va_P D vwCl [(mo, .inr (8, fs))] sG.heap := hP
  have hown : sG.vm.findClass RX9 = some mG.cls := hown
  have hl : lv_has ls 6 [(0, .ref mo), (1, .int (nI li)), (2, .int (nI s))] := hl
  have hinX9 : ∀ w ∈ u_ws RX9 TX9 25, w ∈ wsX9_mapped := by decide +kernel
  obtain ⟨hq1, hq2, hq3, hq4, hq5, hq6, hq7, hq8, hq9, hq10, hq11⟩ := hC.q
  obtain ⟨hcr1, hcr2⟩ := col_row hC hl0
  refine lv_aload_n (pc := 0) hx hb dX9_mapped_0 rfl (lv_at hl 0 rfl) ?_
  refine lv_iload_n (pc := 1) hx hb dX9_mapped_1 rfl (lv_at hl 1 rfl) ?_
  refine ro_go (pc := 2) (va_runV (As := [.int (nI li)]) (rest := []) ⟨hx, hb, hml, hown, hts⟩ (c_X9_isUpright l D Y mo c r fs li (hf) (hC) (hl0)) (cwV 1 hts gX9_mapped_X9_isUpright rfl rfl rfl ⟨rfl, hdX9_isUpright⟩ ⟨Nat.le_of_ble_eq_true rfl, Nat.le_of_ble_eq_true rfl⟩) (ro_pV hK hP (ro_recv hK hP (ci := 8) (q0 := 0) rfl rfl)) rfl rfl hl.1 rfl (lv_room (Nat.le_of_ble_eq_true rfl)) dX9_mapped_2 ⟨Nat.le_of_ble_eq_true rfl, Nat.le_of_ble_eq_true rfl⟩) ?_
  refine lv_istore_n (pc := 5) (lv' := [(3, .int (zb (decide (lvl c r ≤ li)))), (0, .ref mo), (1, .int (nI li)), (2, .int (nI s))]) hx hb dX9_mapped_5 rfl hl (by decide) rfl (fun ls hl => ?_)
  refine lv_aload_n (pc := 6) hx hb dX9_mapped_6 rfl (lv_at hl 1 rfl) ?_
  refine lv_iload_n (pc := 7) hx hb dX9_mapped_7 rfl (lv_at hl 2 rfl) ?_
  refine ro_go (pc := 8) (va_runV (As := [.int (nI li)]) (rest := []) ⟨hx, hb, hml, hown, hts⟩ (c_X9_columnOf l D Y mo c r fs li (hf) (hC) (hl0)) (cwV 1 hts gX9_mapped_X9_columnOf rfl rfl rfl ⟨rfl, hdX9_columnOf⟩ ⟨Nat.le_of_ble_eq_true rfl, Nat.le_of_ble_eq_true rfl⟩) (ro_pV hK hP (ro_recv hK hP (ci := 8) (q0 := 0) rfl rfl)) rfl rfl hl.1 rfl (lv_room (Nat.le_of_ble_eq_true rfl)) dX9_mapped_8 ⟨Nat.le_of_ble_eq_true rfl, Nat.le_of_ble_eq_true rfl⟩) ?_
  refine lv_istore (pc := 11) (lv' := [(4, .int (nI (colM c r li))), (3, .int (zb (decide (lvl c r ≤ li)))), (0, .ref mo), (1, .int (nI li)), (2, .int (nI s))]) hx hb dX9_mapped_11 hl (by decide) rfl (fun ls hl => ?_)
  refine lv_aload_n (pc := 13) hx hb dX9_mapped_13 rfl (lv_at hl 2 rfl) ?_
  refine lv_iload_n (pc := 14) hx hb dX9_mapped_14 rfl (lv_at hl 3 rfl) ?_
  refine ro_go (pc := 15) (va_runV (As := [.int (nI li)]) (rest := []) ⟨hx, hb, hml, hown, hts⟩ (c_X9_rowOf l D Y mo c r fs li (hf) (hC) (hl0)) (cwV 1 hts gX9_mapped_X9_rowOf rfl rfl rfl ⟨rfl, hdX9_rowOf⟩ ⟨Nat.le_of_ble_eq_true rfl, Nat.le_of_ble_eq_true rfl⟩) (ro_pV hK hP (ro_recv hK hP (ci := 8) (q0 := 0) rfl rfl)) rfl rfl hl.1 rfl (lv_room (Nat.le_of_ble_eq_true rfl)) dX9_mapped_15 ⟨Nat.le_of_ble_eq_true rfl, Nat.le_of_ble_eq_true rfl⟩) ?_
  refine lv_istore (pc := 18) (lv' := [(5, .int (nI (rowM c r li))), (4, .int (nI (colM c r li))), (3, .int (zb (decide (lvl c r ≤ li)))), (0, .ref mo), (1, .int (nI li)), (2, .int (nI s))]) hx hb dX9_mapped_18 hl (by decide) rfl (fun ls hl => ?_)
  refine lv_iload_n (pc := 20) hx hb dX9_mapped_20 rfl (lv_at hl 5 rfl) ?_
  refine lv_i2l (pc := 21) (v := lN s) hx hb dX9_mapped_21 (nI_l (by omega)) ?_
  refine lv_iconst (pc := 22) (v := nI 0) hx hb dX9_mapped_22 rfl ?_
  refine ro_go (pc := 23) (va_runS (As := [.long (lN s), .int (nI 0)]) (rest := []) ⟨hx, hb, hml, hown, hts⟩ (c_X9_has l D Y (lN s) 0 (by first | assumption | omega)) (va_cwS 2 hts gX9_mapped_X9_has rfl rfl rfl hdX9_has ⟨Nat.le_of_ble_eq_true rfl, Nat.le_of_ble_eq_true rfl⟩) (ro_pS hK (hP.sub [] rfl)) rfl rfl hl.1 rfl (lv_room (Nat.le_of_ble_eq_true rfl)) dX9_mapped_23 ⟨Nat.le_of_ble_eq_true rfl, Nat.le_of_ble_eq_true rfl⟩) ?_
  refine z_if_eq (pc := 26) (tgt := 52) hx hb dX9_mapped_26 (by decide) (fun c26 => ?_) (fun c26 => ?_)
  · refine lv_iload (pc := 52) hx hb dX9_mapped_52 (lv_at hl 1 rfl) ?_
    refine lv_istore (pc := 54) (lv' := [(4, .int (nI (colM c r li))), (5, .int (nI (rowM c r li))), (3, .int (zb (decide (lvl c r ≤ li)))), (0, .ref mo), (1, .int (nI li)), (2, .int (nI s))]) hx hb dX9_mapped_54 hl (by decide) rfl (fun ls hl => ?_)
    refine lv_iload_n (pc := 56) hx hb dX9_mapped_56 rfl (lv_at hl 5 rfl) ?_
    refine lv_i2l (pc := 57) (v := lN s) hx hb dX9_mapped_57 (nI_l (by omega)) ?_
    refine lv_iconst (pc := 58) (v := nI 1) hx hb dX9_mapped_58 rfl ?_
    refine ro_go (pc := 59) (va_runS (As := [.long (lN s), .int (nI 1)]) (rest := []) ⟨hx, hb, hml, hown, hts⟩ (c_X9_has l D Y (lN s) 1 (by first | assumption | omega)) (va_cwS 2 hts gX9_mapped_X9_has rfl rfl rfl hdX9_has ⟨Nat.le_of_ble_eq_true rfl, Nat.le_of_ble_eq_true rfl⟩) (ro_pS hK (hP.sub [] rfl)) rfl rfl hl.1 rfl (lv_room (Nat.le_of_ble_eq_true rfl)) dX9_mapped_59 ⟨Nat.le_of_ble_eq_true rfl, Nat.le_of_ble_eq_true rfl⟩) ?_
    refine z_if_eq (pc := 62) (tgt := 88) hx hb dX9_mapped_62 (by decide) (fun c62 => ?_) (fun c62 => ?_)
    · refine lv_iload (pc := 88) hx hb dX9_mapped_88 (lv_at hl 1 rfl) ?_
      refine lv_istore (pc := 90) (lv' := [(5, .int (nI (rowM c r li))), (4, .int (nI (colM c r li))), (3, .int (zb (decide (lvl c r ≤ li)))), (0, .ref mo), (1, .int (nI li)), (2, .int (nI s))]) hx hb dX9_mapped_90 hl (by decide) rfl (fun ls hl => ?_)
      refine lv_iload_n (pc := 92) hx hb dX9_mapped_92 rfl (lv_at hl 5 rfl) ?_
      refine lv_i2l (pc := 93) (v := lN s) hx hb dX9_mapped_93 (nI_l (by omega)) ?_
      refine lv_iconst (pc := 94) (v := nI 2) hx hb dX9_mapped_94 rfl ?_
      refine ro_go (pc := 95) (va_runS (As := [.long (lN s), .int (nI 2)]) (rest := []) ⟨hx, hb, hml, hown, hts⟩ (c_X9_has l D Y (lN s) 2 (by first | assumption | omega)) (va_cwS 2 hts gX9_mapped_X9_has rfl rfl rfl hdX9_has ⟨Nat.le_of_ble_eq_true rfl, Nat.le_of_ble_eq_true rfl⟩) (ro_pS hK (hP.sub [] rfl)) rfl rfl hl.1 rfl (lv_room (Nat.le_of_ble_eq_true rfl)) dX9_mapped_95 ⟨Nat.le_of_ble_eq_true rfl, Nat.le_of_ble_eq_true rfl⟩) ?_
      refine z_if_eq (pc := 98) (tgt := 121) hx hb dX9_mapped_98 (by decide) (fun c98 => ?_) (fun c98 => ?_)
      · refine lv_aload_n (pc := 121) hx hb dX9_mapped_121 rfl (lv_at hl 3 rfl) ?_
        refine lv_iload_n (pc := 122) hx hb dX9_mapped_122 rfl (lv_at hl 2 rfl) ?_
        refine lv_iload (pc := 123) hx hb dX9_mapped_123 (lv_at hl 1 rfl) ?_
        refine lv_iload (pc := 125) hx hb dX9_mapped_125 (lv_at hl 0 rfl) ?_
        refine ro_go (pc := 127) (va_runV (As := [.int (zb (decide (lvl c r ≤ li))), .int (nI (colM c r li)), .int (nI (rowM c r li))]) (rest := []) ⟨hx, hb, hml, hown, hts⟩ (c_X9_numberOf l D Y mo c r fs (decide (lvl c r ≤ li)) (colM c r li) (rowM c r li) (hf) (hC)) (cwV 3 hts gX9_mapped_X9_numberOf rfl rfl rfl ⟨rfl, hdX9_numberOf⟩ ⟨Nat.le_of_ble_eq_true rfl, Nat.le_of_ble_eq_true rfl⟩) (ro_pV hK hP (ro_recv hK hP (ci := 8) (q0 := 0) rfl rfl)) rfl rfl hl.1 rfl (lv_room (Nat.le_of_ble_eq_true rfl)) dX9_mapped_127 ⟨Nat.le_of_ble_eq_true rfl, Nat.le_of_ble_eq_true rfl⟩) ?_
        exact ro_iret (v := nI (numM c r (decide (lvl c r ≤ li)) (colM c r li) (rowM c r li))) hx hb hr hlocks (by have t0 : s.testBit 0 = false := (by rw [← tb_lN (by omega)]; exact c26); have t1 : s.testBit 1 = false := (by rw [← tb_lN (by omega)]; exact c62); have t2 : s.testBit 2 = false := (by rw [← tb_lN (by omega)]; exact c98); unfold mapM imL imX imY; simp only [t0, t1, t2, Bool.not_true, Bool.not_false, if_true, if_false, Bool.false_eq_true]) dX9_mapped_130
      refine lv_aload_n (pc := 101) hx hb dX9_mapped_101 rfl (lv_at hl 3 rfl) ?_
      refine lv_iload_n (pc := 102) hx hb dX9_mapped_102 rfl (lv_at hl 2 rfl) ?_
      refine z_if_ne (pc := 103) (tgt := 110) hx hb dX9_mapped_103 (by decide) (fun c103 => ?_) (fun c103 => ?_)
      · refine lv_iconst (pc := 110) (v := nI 0) hx hb dX9_mapped_110 rfl ?_
        refine lv_iload (pc := 111) hx hb dX9_mapped_111 (lv_at hl 0 rfl) ?_
        refine lv_iload (pc := 113) hx hb dX9_mapped_113 (lv_at hl 1 rfl) ?_
        refine ro_go (pc := 115) (va_runV (As := [.int (nI 0), .int (nI (rowM c r li)), .int (nI (colM c r li))]) (rest := []) ⟨hx, hb, hml, hown, hts⟩ (c_X9_numberOf l D Y mo c r fs false (rowM c r li) (colM c r li) (hf) (hC)) (cwV 3 hts gX9_mapped_X9_numberOf rfl rfl rfl ⟨rfl, hdX9_numberOf⟩ ⟨Nat.le_of_ble_eq_true rfl, Nat.le_of_ble_eq_true rfl⟩) (ro_pV hK hP (ro_recv hK hP (ci := 8) (q0 := 0) rfl rfl)) rfl rfl hl.1 rfl (lv_room (Nat.le_of_ble_eq_true rfl)) dX9_mapped_115 ⟨Nat.le_of_ble_eq_true rfl, Nat.le_of_ble_eq_true rfl⟩) ?_
        refine lv_goto (pc := 118) (tgt := 130) hx hb dX9_mapped_118 (by decide) ?_
        exact ro_iret (v := nI (numM c r false (rowM c r li) (colM c r li))) hx hb hr hlocks (by have t0 : s.testBit 0 = false := (by rw [← tb_lN (by omega)]; exact c26); have t1 : s.testBit 1 = false := (by rw [← tb_lN (by omega)]; exact c62); have t2 : s.testBit 2 = true := (by rw [← tb_lN (by omega)]; exact c98); unfold mapM imL imX imY; simp only [t0, t1, t2, c103, Bool.not_true, Bool.not_false, if_true, if_false, Bool.false_eq_true]) dX9_mapped_130
      refine lv_iconst (pc := 106) (v := nI 1) hx hb dX9_mapped_106 rfl ?_
      refine lv_goto (pc := 107) (tgt := 111) hx hb dX9_mapped_107 (by decide) ?_
      refine lv_iload (pc := 111) hx hb dX9_mapped_111 (lv_at hl 0 rfl) ?_
      refine lv_iload (pc := 113) hx hb dX9_mapped_113 (lv_at hl 1 rfl) ?_
      refine ro_go (pc := 115) (va_runV (As := [.int (nI 1), .int (nI (rowM c r li)), .int (nI (colM c r li))]) (rest := []) ⟨hx, hb, hml, hown, hts⟩ (c_X9_numberOf l D Y mo c r fs true (rowM c r li) (colM c r li) (hf) (hC)) (cwV 3 hts gX9_mapped_X9_numberOf rfl rfl rfl ⟨rfl, hdX9_numberOf⟩ ⟨Nat.le_of_ble_eq_true rfl, Nat.le_of_ble_eq_true rfl⟩) (ro_pV hK hP (ro_recv hK hP (ci := 8) (q0 := 0) rfl rfl)) rfl rfl hl.1 rfl (lv_room (Nat.le_of_ble_eq_true rfl)) dX9_mapped_115 ⟨Nat.le_of_ble_eq_true rfl, Nat.le_of_ble_eq_true rfl⟩) ?_
      refine lv_goto (pc := 118) (tgt := 130) hx hb dX9_mapped_118 (by decide) ?_
      exact ro_iret (v := nI (numM c r true (rowM c r li) (colM c r li))) hx hb hr hlocks (by have t0 : s.testBit 0 = false := (by rw [← tb_lN (by omega)]; exact c26); have t1 : s.testBit 1 = false := (by rw [← tb_lN (by omega)]; exact c62); have t2 : s.testBit 2 = true := (by rw [← tb_lN (by omega)]; exact c98); unfold mapM imL imX imY; simp only [t0, t1, t2, c103, Bool.not_true, Bool.not_false, if_true, if_false, Bool.false_eq_true]) dX9_mapped_130
    refine lv_iload_n (pc := 65) hx hb dX9_mapped_65 rfl (lv_at hl 2 rfl) ?_
    refine z_if_eq (pc := 66) (tgt := 78) hx hb dX9_mapped_66 (by decide) (fun c66 => ?_) (fun c66 => ?_)
    · have hcv := hcr2 (of_decide_eq_false c66)
      refine lv_aload_n (pc := 78) hx hb dX9_mapped_78 rfl (lv_at hl 3 rfl) ?_
      refine va_get (pc := 79) (D := D) (ci := 8) (v := .int (nI r)) (C := RX9) (T := TX9) (N := 25) hx hb hts hinX9 hown hK.1 hP 0 rfl rfl 2 (by decide) (hts (.fieldLink RX9 13 "BoxesGameModel" "rows" "I") (List.mem_of_getElem? (i := 2) rfl)) (fun _ h9 => h9) hf.2 dX9_mapped_79 ?_
      refine lv_iload (pc := 82) hx hb dX9_mapped_82 (lv_at hl 1 rfl) ?_
      refine n_isub (pc := 84) hx hb (by omega) dX9_mapped_84 ?_
      refine lv_goto (pc := 85) (tgt := 90) hx hb dX9_mapped_85 (by decide) ?_
      refine lv_istore (pc := 90) (lv' := [(5, .int (nI (r - (rowM c r li)))), (4, .int (nI (colM c r li))), (3, .int (zb (decide (lvl c r ≤ li)))), (0, .ref mo), (1, .int (nI li)), (2, .int (nI s))]) hx hb dX9_mapped_90 hl (by decide) rfl (fun ls hl => ?_)
      refine lv_iload_n (pc := 92) hx hb dX9_mapped_92 rfl (lv_at hl 5 rfl) ?_
      refine lv_i2l (pc := 93) (v := lN s) hx hb dX9_mapped_93 (nI_l (by omega)) ?_
      refine lv_iconst (pc := 94) (v := nI 2) hx hb dX9_mapped_94 rfl ?_
      refine ro_go (pc := 95) (va_runS (As := [.long (lN s), .int (nI 2)]) (rest := []) ⟨hx, hb, hml, hown, hts⟩ (c_X9_has l D Y (lN s) 2 (by first | assumption | omega)) (va_cwS 2 hts gX9_mapped_X9_has rfl rfl rfl hdX9_has ⟨Nat.le_of_ble_eq_true rfl, Nat.le_of_ble_eq_true rfl⟩) (ro_pS hK (hP.sub [] rfl)) rfl rfl hl.1 rfl (lv_room (Nat.le_of_ble_eq_true rfl)) dX9_mapped_95 ⟨Nat.le_of_ble_eq_true rfl, Nat.le_of_ble_eq_true rfl⟩) ?_
      refine z_if_eq (pc := 98) (tgt := 121) hx hb dX9_mapped_98 (by decide) (fun c98 => ?_) (fun c98 => ?_)
      · refine lv_aload_n (pc := 121) hx hb dX9_mapped_121 rfl (lv_at hl 3 rfl) ?_
        refine lv_iload_n (pc := 122) hx hb dX9_mapped_122 rfl (lv_at hl 2 rfl) ?_
        refine lv_iload (pc := 123) hx hb dX9_mapped_123 (lv_at hl 1 rfl) ?_
        refine lv_iload (pc := 125) hx hb dX9_mapped_125 (lv_at hl 0 rfl) ?_
        refine ro_go (pc := 127) (va_runV (As := [.int (zb (decide (lvl c r ≤ li))), .int (nI (colM c r li)), .int (nI (r - (rowM c r li)))]) (rest := []) ⟨hx, hb, hml, hown, hts⟩ (c_X9_numberOf l D Y mo c r fs (decide (lvl c r ≤ li)) (colM c r li) (r - (rowM c r li)) (hf) (hC)) (cwV 3 hts gX9_mapped_X9_numberOf rfl rfl rfl ⟨rfl, hdX9_numberOf⟩ ⟨Nat.le_of_ble_eq_true rfl, Nat.le_of_ble_eq_true rfl⟩) (ro_pV hK hP (ro_recv hK hP (ci := 8) (q0 := 0) rfl rfl)) rfl rfl hl.1 rfl (lv_room (Nat.le_of_ble_eq_true rfl)) dX9_mapped_127 ⟨Nat.le_of_ble_eq_true rfl, Nat.le_of_ble_eq_true rfl⟩) ?_
        exact ro_iret (v := nI (numM c r (decide (lvl c r ≤ li)) (colM c r li) (r - (rowM c r li)))) hx hb hr hlocks (by have t0 : s.testBit 0 = false := (by rw [← tb_lN (by omega)]; exact c26); have t1 : s.testBit 1 = true := (by rw [← tb_lN (by omega)]; exact c62); have t2 : s.testBit 2 = false := (by rw [← tb_lN (by omega)]; exact c98); unfold mapM imL imX imY; simp only [t0, t1, t2, c66, Bool.not_true, Bool.not_false, if_true, if_false, Bool.false_eq_true]) dX9_mapped_130
      refine lv_aload_n (pc := 101) hx hb dX9_mapped_101 rfl (lv_at hl 3 rfl) ?_
      refine lv_iload_n (pc := 102) hx hb dX9_mapped_102 rfl (lv_at hl 2 rfl) ?_
      refine z_if_ne (pc := 103) (tgt := 110) hx hb dX9_mapped_103 (by decide) (fun c103 => ?_) (fun c103 => ?_)
      · exact absurd (c66.symm.trans c103) (by decide)
      refine lv_iconst (pc := 106) (v := nI 1) hx hb dX9_mapped_106 rfl ?_
      refine lv_goto (pc := 107) (tgt := 111) hx hb dX9_mapped_107 (by decide) ?_
      refine lv_iload (pc := 111) hx hb dX9_mapped_111 (lv_at hl 0 rfl) ?_
      refine lv_iload (pc := 113) hx hb dX9_mapped_113 (lv_at hl 1 rfl) ?_
      refine ro_go (pc := 115) (va_runV (As := [.int (nI 1), .int (nI (r - (rowM c r li))), .int (nI (colM c r li))]) (rest := []) ⟨hx, hb, hml, hown, hts⟩ (c_X9_numberOf l D Y mo c r fs true (r - (rowM c r li)) (colM c r li) (hf) (hC)) (cwV 3 hts gX9_mapped_X9_numberOf rfl rfl rfl ⟨rfl, hdX9_numberOf⟩ ⟨Nat.le_of_ble_eq_true rfl, Nat.le_of_ble_eq_true rfl⟩) (ro_pV hK hP (ro_recv hK hP (ci := 8) (q0 := 0) rfl rfl)) rfl rfl hl.1 rfl (lv_room (Nat.le_of_ble_eq_true rfl)) dX9_mapped_115 ⟨Nat.le_of_ble_eq_true rfl, Nat.le_of_ble_eq_true rfl⟩) ?_
      refine lv_goto (pc := 118) (tgt := 130) hx hb dX9_mapped_118 (by decide) ?_
      exact ro_iret (v := nI (numM c r true (r - (rowM c r li)) (colM c r li))) hx hb hr hlocks (by have t0 : s.testBit 0 = false := (by rw [← tb_lN (by omega)]; exact c26); have t1 : s.testBit 1 = true := (by rw [← tb_lN (by omega)]; exact c62); have t2 : s.testBit 2 = true := (by rw [← tb_lN (by omega)]; exact c98); unfold mapM imL imX imY; simp only [t0, t1, t2, c66, Bool.not_true, Bool.not_false, if_true, if_false, Bool.false_eq_true]) dX9_mapped_130
    have hcv := hcr1 (of_decide_eq_true c66)
    refine lv_aload_n (pc := 69) hx hb dX9_mapped_69 rfl (lv_at hl 3 rfl) ?_
    refine va_get (pc := 70) (D := D) (ci := 8) (v := .int (nI r)) (C := RX9) (T := TX9) (N := 25) hx hb hts hinX9 hown hK.1 hP 0 rfl rfl 2 (by decide) (hts (.fieldLink RX9 13 "BoxesGameModel" "rows" "I") (List.mem_of_getElem? (i := 2) rfl)) (fun _ h9 => h9) hf.2 dX9_mapped_70 ?_
    refine lv_iconst (pc := 73) (v := nI 1) hx hb dX9_mapped_73 rfl ?_
    refine n_isub (pc := 74) hx hb (by omega) dX9_mapped_74 ?_
    refine lv_goto (pc := 75) (tgt := 82) hx hb dX9_mapped_75 (by decide) ?_
    refine lv_iload (pc := 82) hx hb dX9_mapped_82 (lv_at hl 1 rfl) ?_
    refine n_isub (pc := 84) hx hb (by omega) dX9_mapped_84 ?_
    refine lv_goto (pc := 85) (tgt := 90) hx hb dX9_mapped_85 (by decide) ?_
    refine lv_istore (pc := 90) (lv' := [(5, .int (nI ((r - 1) - (rowM c r li)))), (4, .int (nI (colM c r li))), (3, .int (zb (decide (lvl c r ≤ li)))), (0, .ref mo), (1, .int (nI li)), (2, .int (nI s))]) hx hb dX9_mapped_90 hl (by decide) rfl (fun ls hl => ?_)
    refine lv_iload_n (pc := 92) hx hb dX9_mapped_92 rfl (lv_at hl 5 rfl) ?_
    refine lv_i2l (pc := 93) (v := lN s) hx hb dX9_mapped_93 (nI_l (by omega)) ?_
    refine lv_iconst (pc := 94) (v := nI 2) hx hb dX9_mapped_94 rfl ?_
    refine ro_go (pc := 95) (va_runS (As := [.long (lN s), .int (nI 2)]) (rest := []) ⟨hx, hb, hml, hown, hts⟩ (c_X9_has l D Y (lN s) 2 (by first | assumption | omega)) (va_cwS 2 hts gX9_mapped_X9_has rfl rfl rfl hdX9_has ⟨Nat.le_of_ble_eq_true rfl, Nat.le_of_ble_eq_true rfl⟩) (ro_pS hK (hP.sub [] rfl)) rfl rfl hl.1 rfl (lv_room (Nat.le_of_ble_eq_true rfl)) dX9_mapped_95 ⟨Nat.le_of_ble_eq_true rfl, Nat.le_of_ble_eq_true rfl⟩) ?_
    refine z_if_eq (pc := 98) (tgt := 121) hx hb dX9_mapped_98 (by decide) (fun c98 => ?_) (fun c98 => ?_)
    · refine lv_aload_n (pc := 121) hx hb dX9_mapped_121 rfl (lv_at hl 3 rfl) ?_
      refine lv_iload_n (pc := 122) hx hb dX9_mapped_122 rfl (lv_at hl 2 rfl) ?_
      refine lv_iload (pc := 123) hx hb dX9_mapped_123 (lv_at hl 1 rfl) ?_
      refine lv_iload (pc := 125) hx hb dX9_mapped_125 (lv_at hl 0 rfl) ?_
      refine ro_go (pc := 127) (va_runV (As := [.int (zb (decide (lvl c r ≤ li))), .int (nI (colM c r li)), .int (nI ((r - 1) - (rowM c r li)))]) (rest := []) ⟨hx, hb, hml, hown, hts⟩ (c_X9_numberOf l D Y mo c r fs (decide (lvl c r ≤ li)) (colM c r li) ((r - 1) - (rowM c r li)) (hf) (hC)) (cwV 3 hts gX9_mapped_X9_numberOf rfl rfl rfl ⟨rfl, hdX9_numberOf⟩ ⟨Nat.le_of_ble_eq_true rfl, Nat.le_of_ble_eq_true rfl⟩) (ro_pV hK hP (ro_recv hK hP (ci := 8) (q0 := 0) rfl rfl)) rfl rfl hl.1 rfl (lv_room (Nat.le_of_ble_eq_true rfl)) dX9_mapped_127 ⟨Nat.le_of_ble_eq_true rfl, Nat.le_of_ble_eq_true rfl⟩) ?_
      exact ro_iret (v := nI (numM c r (decide (lvl c r ≤ li)) (colM c r li) ((r - 1) - (rowM c r li)))) hx hb hr hlocks (by have t0 : s.testBit 0 = false := (by rw [← tb_lN (by omega)]; exact c26); have t1 : s.testBit 1 = true := (by rw [← tb_lN (by omega)]; exact c62); have t2 : s.testBit 2 = false := (by rw [← tb_lN (by omega)]; exact c98); unfold mapM imL imX imY; simp only [t0, t1, t2, c66, Bool.not_true, Bool.not_false, if_true, if_false, Bool.false_eq_true]) dX9_mapped_130
    refine lv_aload_n (pc := 101) hx hb dX9_mapped_101 rfl (lv_at hl 3 rfl) ?_
    refine lv_iload_n (pc := 102) hx hb dX9_mapped_102 rfl (lv_at hl 2 rfl) ?_
    refine z_if_ne (pc := 103) (tgt := 110) hx hb dX9_mapped_103 (by decide) (fun c103 => ?_) (fun c103 => ?_)
    · refine lv_iconst (pc := 110) (v := nI 0) hx hb dX9_mapped_110 rfl ?_
      refine lv_iload (pc := 111) hx hb dX9_mapped_111 (lv_at hl 0 rfl) ?_
      refine lv_iload (pc := 113) hx hb dX9_mapped_113 (lv_at hl 1 rfl) ?_
      refine ro_go (pc := 115) (va_runV (As := [.int (nI 0), .int (nI ((r - 1) - (rowM c r li))), .int (nI (colM c r li))]) (rest := []) ⟨hx, hb, hml, hown, hts⟩ (c_X9_numberOf l D Y mo c r fs false ((r - 1) - (rowM c r li)) (colM c r li) (hf) (hC)) (cwV 3 hts gX9_mapped_X9_numberOf rfl rfl rfl ⟨rfl, hdX9_numberOf⟩ ⟨Nat.le_of_ble_eq_true rfl, Nat.le_of_ble_eq_true rfl⟩) (ro_pV hK hP (ro_recv hK hP (ci := 8) (q0 := 0) rfl rfl)) rfl rfl hl.1 rfl (lv_room (Nat.le_of_ble_eq_true rfl)) dX9_mapped_115 ⟨Nat.le_of_ble_eq_true rfl, Nat.le_of_ble_eq_true rfl⟩) ?_
      refine lv_goto (pc := 118) (tgt := 130) hx hb dX9_mapped_118 (by decide) ?_
      exact ro_iret (v := nI (numM c r false ((r - 1) - (rowM c r li)) (colM c r li))) hx hb hr hlocks (by have t0 : s.testBit 0 = false := (by rw [← tb_lN (by omega)]; exact c26); have t1 : s.testBit 1 = true := (by rw [← tb_lN (by omega)]; exact c62); have t2 : s.testBit 2 = true := (by rw [← tb_lN (by omega)]; exact c98); unfold mapM imL imX imY; simp only [t0, t1, t2, c66, Bool.not_true, Bool.not_false, if_true, if_false, Bool.false_eq_true]) dX9_mapped_130
    · exact absurd (c66.symm.trans c103) (by decide)
  refine lv_iload_n (pc := 29) hx hb dX9_mapped_29 rfl (lv_at hl 2 rfl) ?_
  refine z_if_eq (pc := 30) (tgt := 40) hx hb dX9_mapped_30 (by decide) (fun c30 => ?_) (fun c30 => ?_)
  · have hcu := hcr2 (of_decide_eq_false c30)
    refine lv_aload_n (pc := 40) hx hb dX9_mapped_40 rfl (lv_at hl 3 rfl) ?_
    refine va_get (pc := 41) (D := D) (ci := 8) (v := .int (nI c)) (C := RX9) (T := TX9) (N := 25) hx hb hts hinX9 hown hK.1 hP 0 rfl rfl 1 (by decide) (hts (.fieldLink RX9 7 "BoxesGameModel" "columns" "I") (List.mem_of_getElem? (i := 1) rfl)) (fun _ h9 => h9) hf.1 dX9_mapped_41 ?_
    refine lv_iconst (pc := 44) (v := nI 1) hx hb dX9_mapped_44 rfl ?_
    refine n_isub (pc := 45) hx hb (by omega) dX9_mapped_45 ?_
    refine lv_iload (pc := 46) hx hb dX9_mapped_46 (lv_at hl 1 rfl) ?_
    refine n_isub (pc := 48) hx hb (by omega) dX9_mapped_48 ?_
    refine lv_goto (pc := 49) (tgt := 54) hx hb dX9_mapped_49 (by decide) ?_
    refine lv_istore (pc := 54) (lv' := [(4, .int (nI ((c - 1) - (colM c r li)))), (5, .int (nI (rowM c r li))), (3, .int (zb (decide (lvl c r ≤ li)))), (0, .ref mo), (1, .int (nI li)), (2, .int (nI s))]) hx hb dX9_mapped_54 hl (by decide) rfl (fun ls hl => ?_)
    refine lv_iload_n (pc := 56) hx hb dX9_mapped_56 rfl (lv_at hl 5 rfl) ?_
    refine lv_i2l (pc := 57) (v := lN s) hx hb dX9_mapped_57 (nI_l (by omega)) ?_
    refine lv_iconst (pc := 58) (v := nI 1) hx hb dX9_mapped_58 rfl ?_
    refine ro_go (pc := 59) (va_runS (As := [.long (lN s), .int (nI 1)]) (rest := []) ⟨hx, hb, hml, hown, hts⟩ (c_X9_has l D Y (lN s) 1 (by first | assumption | omega)) (va_cwS 2 hts gX9_mapped_X9_has rfl rfl rfl hdX9_has ⟨Nat.le_of_ble_eq_true rfl, Nat.le_of_ble_eq_true rfl⟩) (ro_pS hK (hP.sub [] rfl)) rfl rfl hl.1 rfl (lv_room (Nat.le_of_ble_eq_true rfl)) dX9_mapped_59 ⟨Nat.le_of_ble_eq_true rfl, Nat.le_of_ble_eq_true rfl⟩) ?_
    refine z_if_eq (pc := 62) (tgt := 88) hx hb dX9_mapped_62 (by decide) (fun c62 => ?_) (fun c62 => ?_)
    · refine lv_iload (pc := 88) hx hb dX9_mapped_88 (lv_at hl 1 rfl) ?_
      refine lv_istore (pc := 90) (lv' := [(5, .int (nI (rowM c r li))), (4, .int (nI ((c - 1) - (colM c r li)))), (3, .int (zb (decide (lvl c r ≤ li)))), (0, .ref mo), (1, .int (nI li)), (2, .int (nI s))]) hx hb dX9_mapped_90 hl (by decide) rfl (fun ls hl => ?_)
      refine lv_iload_n (pc := 92) hx hb dX9_mapped_92 rfl (lv_at hl 5 rfl) ?_
      refine lv_i2l (pc := 93) (v := lN s) hx hb dX9_mapped_93 (nI_l (by omega)) ?_
      refine lv_iconst (pc := 94) (v := nI 2) hx hb dX9_mapped_94 rfl ?_
      refine ro_go (pc := 95) (va_runS (As := [.long (lN s), .int (nI 2)]) (rest := []) ⟨hx, hb, hml, hown, hts⟩ (c_X9_has l D Y (lN s) 2 (by first | assumption | omega)) (va_cwS 2 hts gX9_mapped_X9_has rfl rfl rfl hdX9_has ⟨Nat.le_of_ble_eq_true rfl, Nat.le_of_ble_eq_true rfl⟩) (ro_pS hK (hP.sub [] rfl)) rfl rfl hl.1 rfl (lv_room (Nat.le_of_ble_eq_true rfl)) dX9_mapped_95 ⟨Nat.le_of_ble_eq_true rfl, Nat.le_of_ble_eq_true rfl⟩) ?_
      refine z_if_eq (pc := 98) (tgt := 121) hx hb dX9_mapped_98 (by decide) (fun c98 => ?_) (fun c98 => ?_)
      · refine lv_aload_n (pc := 121) hx hb dX9_mapped_121 rfl (lv_at hl 3 rfl) ?_
        refine lv_iload_n (pc := 122) hx hb dX9_mapped_122 rfl (lv_at hl 2 rfl) ?_
        refine lv_iload (pc := 123) hx hb dX9_mapped_123 (lv_at hl 1 rfl) ?_
        refine lv_iload (pc := 125) hx hb dX9_mapped_125 (lv_at hl 0 rfl) ?_
        refine ro_go (pc := 127) (va_runV (As := [.int (zb (decide (lvl c r ≤ li))), .int (nI ((c - 1) - (colM c r li))), .int (nI (rowM c r li))]) (rest := []) ⟨hx, hb, hml, hown, hts⟩ (c_X9_numberOf l D Y mo c r fs (decide (lvl c r ≤ li)) ((c - 1) - (colM c r li)) (rowM c r li) (hf) (hC)) (cwV 3 hts gX9_mapped_X9_numberOf rfl rfl rfl ⟨rfl, hdX9_numberOf⟩ ⟨Nat.le_of_ble_eq_true rfl, Nat.le_of_ble_eq_true rfl⟩) (ro_pV hK hP (ro_recv hK hP (ci := 8) (q0 := 0) rfl rfl)) rfl rfl hl.1 rfl (lv_room (Nat.le_of_ble_eq_true rfl)) dX9_mapped_127 ⟨Nat.le_of_ble_eq_true rfl, Nat.le_of_ble_eq_true rfl⟩) ?_
        exact ro_iret (v := nI (numM c r (decide (lvl c r ≤ li)) ((c - 1) - (colM c r li)) (rowM c r li))) hx hb hr hlocks (by have t0 : s.testBit 0 = true := (by rw [← tb_lN (by omega)]; exact c26); have t1 : s.testBit 1 = false := (by rw [← tb_lN (by omega)]; exact c62); have t2 : s.testBit 2 = false := (by rw [← tb_lN (by omega)]; exact c98); unfold mapM imL imX imY; simp only [t0, t1, t2, c30, Bool.not_true, Bool.not_false, if_true, if_false, Bool.false_eq_true]) dX9_mapped_130
      refine lv_aload_n (pc := 101) hx hb dX9_mapped_101 rfl (lv_at hl 3 rfl) ?_
      refine lv_iload_n (pc := 102) hx hb dX9_mapped_102 rfl (lv_at hl 2 rfl) ?_
      refine z_if_ne (pc := 103) (tgt := 110) hx hb dX9_mapped_103 (by decide) (fun c103 => ?_) (fun c103 => ?_)
      · exact absurd (c30.symm.trans c103) (by decide)
      refine lv_iconst (pc := 106) (v := nI 1) hx hb dX9_mapped_106 rfl ?_
      refine lv_goto (pc := 107) (tgt := 111) hx hb dX9_mapped_107 (by decide) ?_
      refine lv_iload (pc := 111) hx hb dX9_mapped_111 (lv_at hl 0 rfl) ?_
      refine lv_iload (pc := 113) hx hb dX9_mapped_113 (lv_at hl 1 rfl) ?_
      refine ro_go (pc := 115) (va_runV (As := [.int (nI 1), .int (nI (rowM c r li)), .int (nI ((c - 1) - (colM c r li)))]) (rest := []) ⟨hx, hb, hml, hown, hts⟩ (c_X9_numberOf l D Y mo c r fs true (rowM c r li) ((c - 1) - (colM c r li)) (hf) (hC)) (cwV 3 hts gX9_mapped_X9_numberOf rfl rfl rfl ⟨rfl, hdX9_numberOf⟩ ⟨Nat.le_of_ble_eq_true rfl, Nat.le_of_ble_eq_true rfl⟩) (ro_pV hK hP (ro_recv hK hP (ci := 8) (q0 := 0) rfl rfl)) rfl rfl hl.1 rfl (lv_room (Nat.le_of_ble_eq_true rfl)) dX9_mapped_115 ⟨Nat.le_of_ble_eq_true rfl, Nat.le_of_ble_eq_true rfl⟩) ?_
      refine lv_goto (pc := 118) (tgt := 130) hx hb dX9_mapped_118 (by decide) ?_
      exact ro_iret (v := nI (numM c r true (rowM c r li) ((c - 1) - (colM c r li)))) hx hb hr hlocks (by have t0 : s.testBit 0 = true := (by rw [← tb_lN (by omega)]; exact c26); have t1 : s.testBit 1 = false := (by rw [← tb_lN (by omega)]; exact c62); have t2 : s.testBit 2 = true := (by rw [← tb_lN (by omega)]; exact c98); unfold mapM imL imX imY; simp only [t0, t1, t2, c30, Bool.not_true, Bool.not_false, if_true, if_false, Bool.false_eq_true]) dX9_mapped_130
    refine lv_iload_n (pc := 65) hx hb dX9_mapped_65 rfl (lv_at hl 2 rfl) ?_
    refine z_if_eq (pc := 66) (tgt := 78) hx hb dX9_mapped_66 (by decide) (fun c66 => ?_) (fun c66 => ?_)
    · have hcv := hcr2 (of_decide_eq_false c66)
      refine lv_aload_n (pc := 78) hx hb dX9_mapped_78 rfl (lv_at hl 3 rfl) ?_
      refine va_get (pc := 79) (D := D) (ci := 8) (v := .int (nI r)) (C := RX9) (T := TX9) (N := 25) hx hb hts hinX9 hown hK.1 hP 0 rfl rfl 2 (by decide) (hts (.fieldLink RX9 13 "BoxesGameModel" "rows" "I") (List.mem_of_getElem? (i := 2) rfl)) (fun _ h9 => h9) hf.2 dX9_mapped_79 ?_
      refine lv_iload (pc := 82) hx hb dX9_mapped_82 (lv_at hl 1 rfl) ?_
      refine n_isub (pc := 84) hx hb (by omega) dX9_mapped_84 ?_
      refine lv_goto (pc := 85) (tgt := 90) hx hb dX9_mapped_85 (by decide) ?_
      refine lv_istore (pc := 90) (lv' := [(5, .int (nI (r - (rowM c r li)))), (4, .int (nI ((c - 1) - (colM c r li)))), (3, .int (zb (decide (lvl c r ≤ li)))), (0, .ref mo), (1, .int (nI li)), (2, .int (nI s))]) hx hb dX9_mapped_90 hl (by decide) rfl (fun ls hl => ?_)
      refine lv_iload_n (pc := 92) hx hb dX9_mapped_92 rfl (lv_at hl 5 rfl) ?_
      refine lv_i2l (pc := 93) (v := lN s) hx hb dX9_mapped_93 (nI_l (by omega)) ?_
      refine lv_iconst (pc := 94) (v := nI 2) hx hb dX9_mapped_94 rfl ?_
      refine ro_go (pc := 95) (va_runS (As := [.long (lN s), .int (nI 2)]) (rest := []) ⟨hx, hb, hml, hown, hts⟩ (c_X9_has l D Y (lN s) 2 (by first | assumption | omega)) (va_cwS 2 hts gX9_mapped_X9_has rfl rfl rfl hdX9_has ⟨Nat.le_of_ble_eq_true rfl, Nat.le_of_ble_eq_true rfl⟩) (ro_pS hK (hP.sub [] rfl)) rfl rfl hl.1 rfl (lv_room (Nat.le_of_ble_eq_true rfl)) dX9_mapped_95 ⟨Nat.le_of_ble_eq_true rfl, Nat.le_of_ble_eq_true rfl⟩) ?_
      refine z_if_eq (pc := 98) (tgt := 121) hx hb dX9_mapped_98 (by decide) (fun c98 => ?_) (fun c98 => ?_)
      · refine lv_aload_n (pc := 121) hx hb dX9_mapped_121 rfl (lv_at hl 3 rfl) ?_
        refine lv_iload_n (pc := 122) hx hb dX9_mapped_122 rfl (lv_at hl 2 rfl) ?_
        refine lv_iload (pc := 123) hx hb dX9_mapped_123 (lv_at hl 1 rfl) ?_
        refine lv_iload (pc := 125) hx hb dX9_mapped_125 (lv_at hl 0 rfl) ?_
        refine ro_go (pc := 127) (va_runV (As := [.int (zb (decide (lvl c r ≤ li))), .int (nI ((c - 1) - (colM c r li))), .int (nI (r - (rowM c r li)))]) (rest := []) ⟨hx, hb, hml, hown, hts⟩ (c_X9_numberOf l D Y mo c r fs (decide (lvl c r ≤ li)) ((c - 1) - (colM c r li)) (r - (rowM c r li)) (hf) (hC)) (cwV 3 hts gX9_mapped_X9_numberOf rfl rfl rfl ⟨rfl, hdX9_numberOf⟩ ⟨Nat.le_of_ble_eq_true rfl, Nat.le_of_ble_eq_true rfl⟩) (ro_pV hK hP (ro_recv hK hP (ci := 8) (q0 := 0) rfl rfl)) rfl rfl hl.1 rfl (lv_room (Nat.le_of_ble_eq_true rfl)) dX9_mapped_127 ⟨Nat.le_of_ble_eq_true rfl, Nat.le_of_ble_eq_true rfl⟩) ?_
        exact ro_iret (v := nI (numM c r (decide (lvl c r ≤ li)) ((c - 1) - (colM c r li)) (r - (rowM c r li)))) hx hb hr hlocks (by have t0 : s.testBit 0 = true := (by rw [← tb_lN (by omega)]; exact c26); have t1 : s.testBit 1 = true := (by rw [← tb_lN (by omega)]; exact c62); have t2 : s.testBit 2 = false := (by rw [← tb_lN (by omega)]; exact c98); unfold mapM imL imX imY; simp only [t0, t1, t2, c30, Bool.not_true, Bool.not_false, if_true, if_false, Bool.false_eq_true]) dX9_mapped_130
      refine lv_aload_n (pc := 101) hx hb dX9_mapped_101 rfl (lv_at hl 3 rfl) ?_
      refine lv_iload_n (pc := 102) hx hb dX9_mapped_102 rfl (lv_at hl 2 rfl) ?_
      refine z_if_ne (pc := 103) (tgt := 110) hx hb dX9_mapped_103 (by decide) (fun c103 => ?_) (fun c103 => ?_)
      · exact absurd (c30.symm.trans c103) (by decide)
      refine lv_iconst (pc := 106) (v := nI 1) hx hb dX9_mapped_106 rfl ?_
      refine lv_goto (pc := 107) (tgt := 111) hx hb dX9_mapped_107 (by decide) ?_
      refine lv_iload (pc := 111) hx hb dX9_mapped_111 (lv_at hl 0 rfl) ?_
      refine lv_iload (pc := 113) hx hb dX9_mapped_113 (lv_at hl 1 rfl) ?_
      refine ro_go (pc := 115) (va_runV (As := [.int (nI 1), .int (nI (r - (rowM c r li))), .int (nI ((c - 1) - (colM c r li)))]) (rest := []) ⟨hx, hb, hml, hown, hts⟩ (c_X9_numberOf l D Y mo c r fs true (r - (rowM c r li)) ((c - 1) - (colM c r li)) (hf) (hC)) (cwV 3 hts gX9_mapped_X9_numberOf rfl rfl rfl ⟨rfl, hdX9_numberOf⟩ ⟨Nat.le_of_ble_eq_true rfl, Nat.le_of_ble_eq_true rfl⟩) (ro_pV hK hP (ro_recv hK hP (ci := 8) (q0 := 0) rfl rfl)) rfl rfl hl.1 rfl (lv_room (Nat.le_of_ble_eq_true rfl)) dX9_mapped_115 ⟨Nat.le_of_ble_eq_true rfl, Nat.le_of_ble_eq_true rfl⟩) ?_
      refine lv_goto (pc := 118) (tgt := 130) hx hb dX9_mapped_118 (by decide) ?_
      exact ro_iret (v := nI (numM c r true (r - (rowM c r li)) ((c - 1) - (colM c r li)))) hx hb hr hlocks (by have t0 : s.testBit 0 = true := (by rw [← tb_lN (by omega)]; exact c26); have t1 : s.testBit 1 = true := (by rw [← tb_lN (by omega)]; exact c62); have t2 : s.testBit 2 = true := (by rw [← tb_lN (by omega)]; exact c98); unfold mapM imL imX imY; simp only [t0, t1, t2, c30, Bool.not_true, Bool.not_false, if_true, if_false, Bool.false_eq_true]) dX9_mapped_130
    · exact absurd (c30.symm.trans c66) (by decide)
  have hcu := hcr1 (of_decide_eq_true c30)
  refine lv_aload_n (pc := 33) hx hb dX9_mapped_33 rfl (lv_at hl 3 rfl) ?_
  refine va_get (pc := 34) (D := D) (ci := 8) (v := .int (nI c)) (C := RX9) (T := TX9) (N := 25) hx hb hts hinX9 hown hK.1 hP 0 rfl rfl 1 (by decide) (hts (.fieldLink RX9 7 "BoxesGameModel" "columns" "I") (List.mem_of_getElem? (i := 1) rfl)) (fun _ h9 => h9) hf.1 dX9_mapped_34 ?_
  refine lv_goto (pc := 37) (tgt := 46) hx hb dX9_mapped_37 (by decide) ?_
  refine lv_iload (pc := 46) hx hb dX9_mapped_46 (lv_at hl 1 rfl) ?_
  refine n_isub (pc := 48) hx hb (by omega) dX9_mapped_48 ?_
  refine lv_goto (pc := 49) (tgt := 54) hx hb dX9_mapped_49 (by decide) ?_
  refine lv_istore (pc := 54) (lv' := [(4, .int (nI (c - (colM c r li)))), (5, .int (nI (rowM c r li))), (3, .int (zb (decide (lvl c r ≤ li)))), (0, .ref mo), (1, .int (nI li)), (2, .int (nI s))]) hx hb dX9_mapped_54 hl (by decide) rfl (fun ls hl => ?_)
  refine lv_iload_n (pc := 56) hx hb dX9_mapped_56 rfl (lv_at hl 5 rfl) ?_
  refine lv_i2l (pc := 57) (v := lN s) hx hb dX9_mapped_57 (nI_l (by omega)) ?_
  refine lv_iconst (pc := 58) (v := nI 1) hx hb dX9_mapped_58 rfl ?_
  refine ro_go (pc := 59) (va_runS (As := [.long (lN s), .int (nI 1)]) (rest := []) ⟨hx, hb, hml, hown, hts⟩ (c_X9_has l D Y (lN s) 1 (by first | assumption | omega)) (va_cwS 2 hts gX9_mapped_X9_has rfl rfl rfl hdX9_has ⟨Nat.le_of_ble_eq_true rfl, Nat.le_of_ble_eq_true rfl⟩) (ro_pS hK (hP.sub [] rfl)) rfl rfl hl.1 rfl (lv_room (Nat.le_of_ble_eq_true rfl)) dX9_mapped_59 ⟨Nat.le_of_ble_eq_true rfl, Nat.le_of_ble_eq_true rfl⟩) ?_
  refine z_if_eq (pc := 62) (tgt := 88) hx hb dX9_mapped_62 (by decide) (fun c62 => ?_) (fun c62 => ?_)
  · refine lv_iload (pc := 88) hx hb dX9_mapped_88 (lv_at hl 1 rfl) ?_
    refine lv_istore (pc := 90) (lv' := [(5, .int (nI (rowM c r li))), (4, .int (nI (c - (colM c r li)))), (3, .int (zb (decide (lvl c r ≤ li)))), (0, .ref mo), (1, .int (nI li)), (2, .int (nI s))]) hx hb dX9_mapped_90 hl (by decide) rfl (fun ls hl => ?_)
    refine lv_iload_n (pc := 92) hx hb dX9_mapped_92 rfl (lv_at hl 5 rfl) ?_
    refine lv_i2l (pc := 93) (v := lN s) hx hb dX9_mapped_93 (nI_l (by omega)) ?_
    refine lv_iconst (pc := 94) (v := nI 2) hx hb dX9_mapped_94 rfl ?_
    refine ro_go (pc := 95) (va_runS (As := [.long (lN s), .int (nI 2)]) (rest := []) ⟨hx, hb, hml, hown, hts⟩ (c_X9_has l D Y (lN s) 2 (by first | assumption | omega)) (va_cwS 2 hts gX9_mapped_X9_has rfl rfl rfl hdX9_has ⟨Nat.le_of_ble_eq_true rfl, Nat.le_of_ble_eq_true rfl⟩) (ro_pS hK (hP.sub [] rfl)) rfl rfl hl.1 rfl (lv_room (Nat.le_of_ble_eq_true rfl)) dX9_mapped_95 ⟨Nat.le_of_ble_eq_true rfl, Nat.le_of_ble_eq_true rfl⟩) ?_
    refine z_if_eq (pc := 98) (tgt := 121) hx hb dX9_mapped_98 (by decide) (fun c98 => ?_) (fun c98 => ?_)
    · refine lv_aload_n (pc := 121) hx hb dX9_mapped_121 rfl (lv_at hl 3 rfl) ?_
      refine lv_iload_n (pc := 122) hx hb dX9_mapped_122 rfl (lv_at hl 2 rfl) ?_
      refine lv_iload (pc := 123) hx hb dX9_mapped_123 (lv_at hl 1 rfl) ?_
      refine lv_iload (pc := 125) hx hb dX9_mapped_125 (lv_at hl 0 rfl) ?_
      refine ro_go (pc := 127) (va_runV (As := [.int (zb (decide (lvl c r ≤ li))), .int (nI (c - (colM c r li))), .int (nI (rowM c r li))]) (rest := []) ⟨hx, hb, hml, hown, hts⟩ (c_X9_numberOf l D Y mo c r fs (decide (lvl c r ≤ li)) (c - (colM c r li)) (rowM c r li) (hf) (hC)) (cwV 3 hts gX9_mapped_X9_numberOf rfl rfl rfl ⟨rfl, hdX9_numberOf⟩ ⟨Nat.le_of_ble_eq_true rfl, Nat.le_of_ble_eq_true rfl⟩) (ro_pV hK hP (ro_recv hK hP (ci := 8) (q0 := 0) rfl rfl)) rfl rfl hl.1 rfl (lv_room (Nat.le_of_ble_eq_true rfl)) dX9_mapped_127 ⟨Nat.le_of_ble_eq_true rfl, Nat.le_of_ble_eq_true rfl⟩) ?_
      exact ro_iret (v := nI (numM c r (decide (lvl c r ≤ li)) (c - (colM c r li)) (rowM c r li))) hx hb hr hlocks (by have t0 : s.testBit 0 = true := (by rw [← tb_lN (by omega)]; exact c26); have t1 : s.testBit 1 = false := (by rw [← tb_lN (by omega)]; exact c62); have t2 : s.testBit 2 = false := (by rw [← tb_lN (by omega)]; exact c98); unfold mapM imL imX imY; simp only [t0, t1, t2, c30, Bool.not_true, Bool.not_false, if_true, if_false, Bool.false_eq_true]) dX9_mapped_130
    refine lv_aload_n (pc := 101) hx hb dX9_mapped_101 rfl (lv_at hl 3 rfl) ?_
    refine lv_iload_n (pc := 102) hx hb dX9_mapped_102 rfl (lv_at hl 2 rfl) ?_
    refine z_if_ne (pc := 103) (tgt := 110) hx hb dX9_mapped_103 (by decide) (fun c103 => ?_) (fun c103 => ?_)
    · refine lv_iconst (pc := 110) (v := nI 0) hx hb dX9_mapped_110 rfl ?_
      refine lv_iload (pc := 111) hx hb dX9_mapped_111 (lv_at hl 0 rfl) ?_
      refine lv_iload (pc := 113) hx hb dX9_mapped_113 (lv_at hl 1 rfl) ?_
      refine ro_go (pc := 115) (va_runV (As := [.int (nI 0), .int (nI (rowM c r li)), .int (nI (c - (colM c r li)))]) (rest := []) ⟨hx, hb, hml, hown, hts⟩ (c_X9_numberOf l D Y mo c r fs false (rowM c r li) (c - (colM c r li)) (hf) (hC)) (cwV 3 hts gX9_mapped_X9_numberOf rfl rfl rfl ⟨rfl, hdX9_numberOf⟩ ⟨Nat.le_of_ble_eq_true rfl, Nat.le_of_ble_eq_true rfl⟩) (ro_pV hK hP (ro_recv hK hP (ci := 8) (q0 := 0) rfl rfl)) rfl rfl hl.1 rfl (lv_room (Nat.le_of_ble_eq_true rfl)) dX9_mapped_115 ⟨Nat.le_of_ble_eq_true rfl, Nat.le_of_ble_eq_true rfl⟩) ?_
      refine lv_goto (pc := 118) (tgt := 130) hx hb dX9_mapped_118 (by decide) ?_
      exact ro_iret (v := nI (numM c r false (rowM c r li) (c - (colM c r li)))) hx hb hr hlocks (by have t0 : s.testBit 0 = true := (by rw [← tb_lN (by omega)]; exact c26); have t1 : s.testBit 1 = false := (by rw [← tb_lN (by omega)]; exact c62); have t2 : s.testBit 2 = true := (by rw [← tb_lN (by omega)]; exact c98); unfold mapM imL imX imY; simp only [t0, t1, t2, c30, Bool.not_true, Bool.not_false, if_true, if_false, Bool.false_eq_true]) dX9_mapped_130
    · exact absurd (c30.symm.trans c103) (by decide)
  refine lv_iload_n (pc := 65) hx hb dX9_mapped_65 rfl (lv_at hl 2 rfl) ?_
  refine z_if_eq (pc := 66) (tgt := 78) hx hb dX9_mapped_66 (by decide) (fun c66 => ?_) (fun c66 => ?_)
  · exact absurd (c30.symm.trans c66) (by decide)
  have hcv := hcr1 (of_decide_eq_true c66)
  refine lv_aload_n (pc := 69) hx hb dX9_mapped_69 rfl (lv_at hl 3 rfl) ?_
  refine va_get (pc := 70) (D := D) (ci := 8) (v := .int (nI r)) (C := RX9) (T := TX9) (N := 25) hx hb hts hinX9 hown hK.1 hP 0 rfl rfl 2 (by decide) (hts (.fieldLink RX9 13 "BoxesGameModel" "rows" "I") (List.mem_of_getElem? (i := 2) rfl)) (fun _ h9 => h9) hf.2 dX9_mapped_70 ?_
  refine lv_iconst (pc := 73) (v := nI 1) hx hb dX9_mapped_73 rfl ?_
  refine n_isub (pc := 74) hx hb (by omega) dX9_mapped_74 ?_
  refine lv_goto (pc := 75) (tgt := 82) hx hb dX9_mapped_75 (by decide) ?_
  refine lv_iload (pc := 82) hx hb dX9_mapped_82 (lv_at hl 1 rfl) ?_
  refine n_isub (pc := 84) hx hb (by omega) dX9_mapped_84 ?_
  refine lv_goto (pc := 85) (tgt := 90) hx hb dX9_mapped_85 (by decide) ?_
  refine lv_istore (pc := 90) (lv' := [(5, .int (nI ((r - 1) - (rowM c r li)))), (4, .int (nI (c - (colM c r li)))), (3, .int (zb (decide (lvl c r ≤ li)))), (0, .ref mo), (1, .int (nI li)), (2, .int (nI s))]) hx hb dX9_mapped_90 hl (by decide) rfl (fun ls hl => ?_)
  refine lv_iload_n (pc := 92) hx hb dX9_mapped_92 rfl (lv_at hl 5 rfl) ?_
  refine lv_i2l (pc := 93) (v := lN s) hx hb dX9_mapped_93 (nI_l (by omega)) ?_
  refine lv_iconst (pc := 94) (v := nI 2) hx hb dX9_mapped_94 rfl ?_
  refine ro_go (pc := 95) (va_runS (As := [.long (lN s), .int (nI 2)]) (rest := []) ⟨hx, hb, hml, hown, hts⟩ (c_X9_has l D Y (lN s) 2 (by first | assumption | omega)) (va_cwS 2 hts gX9_mapped_X9_has rfl rfl rfl hdX9_has ⟨Nat.le_of_ble_eq_true rfl, Nat.le_of_ble_eq_true rfl⟩) (ro_pS hK (hP.sub [] rfl)) rfl rfl hl.1 rfl (lv_room (Nat.le_of_ble_eq_true rfl)) dX9_mapped_95 ⟨Nat.le_of_ble_eq_true rfl, Nat.le_of_ble_eq_true rfl⟩) ?_
  refine z_if_eq (pc := 98) (tgt := 121) hx hb dX9_mapped_98 (by decide) (fun c98 => ?_) (fun c98 => ?_)
  · refine lv_aload_n (pc := 121) hx hb dX9_mapped_121 rfl (lv_at hl 3 rfl) ?_
    refine lv_iload_n (pc := 122) hx hb dX9_mapped_122 rfl (lv_at hl 2 rfl) ?_
    refine lv_iload (pc := 123) hx hb dX9_mapped_123 (lv_at hl 1 rfl) ?_
    refine lv_iload (pc := 125) hx hb dX9_mapped_125 (lv_at hl 0 rfl) ?_
    refine ro_go (pc := 127) (va_runV (As := [.int (zb (decide (lvl c r ≤ li))), .int (nI (c - (colM c r li))), .int (nI ((r - 1) - (rowM c r li)))]) (rest := []) ⟨hx, hb, hml, hown, hts⟩ (c_X9_numberOf l D Y mo c r fs (decide (lvl c r ≤ li)) (c - (colM c r li)) ((r - 1) - (rowM c r li)) (hf) (hC)) (cwV 3 hts gX9_mapped_X9_numberOf rfl rfl rfl ⟨rfl, hdX9_numberOf⟩ ⟨Nat.le_of_ble_eq_true rfl, Nat.le_of_ble_eq_true rfl⟩) (ro_pV hK hP (ro_recv hK hP (ci := 8) (q0 := 0) rfl rfl)) rfl rfl hl.1 rfl (lv_room (Nat.le_of_ble_eq_true rfl)) dX9_mapped_127 ⟨Nat.le_of_ble_eq_true rfl, Nat.le_of_ble_eq_true rfl⟩) ?_
    exact ro_iret (v := nI (numM c r (decide (lvl c r ≤ li)) (c - (colM c r li)) ((r - 1) - (rowM c r li)))) hx hb hr hlocks (by have t0 : s.testBit 0 = true := (by rw [← tb_lN (by omega)]; exact c26); have t1 : s.testBit 1 = true := (by rw [← tb_lN (by omega)]; exact c62); have t2 : s.testBit 2 = false := (by rw [← tb_lN (by omega)]; exact c98); unfold mapM imL imX imY; simp only [t0, t1, t2, c30, Bool.not_true, Bool.not_false, if_true, if_false, Bool.false_eq_true]) dX9_mapped_130
  refine lv_aload_n (pc := 101) hx hb dX9_mapped_101 rfl (lv_at hl 3 rfl) ?_
  refine lv_iload_n (pc := 102) hx hb dX9_mapped_102 rfl (lv_at hl 2 rfl) ?_
  refine z_if_ne (pc := 103) (tgt := 110) hx hb dX9_mapped_103 (by decide) (fun c103 => ?_) (fun c103 => ?_)
  · refine lv_iconst (pc := 110) (v := nI 0) hx hb dX9_mapped_110 rfl ?_
    refine lv_iload (pc := 111) hx hb dX9_mapped_111 (lv_at hl 0 rfl) ?_
    refine lv_iload (pc := 113) hx hb dX9_mapped_113 (lv_at hl 1 rfl) ?_
    refine ro_go (pc := 115) (va_runV (As := [.int (nI 0), .int (nI ((r - 1) - (rowM c r li))), .int (nI (c - (colM c r li)))]) (rest := []) ⟨hx, hb, hml, hown, hts⟩ (c_X9_numberOf l D Y mo c r fs false ((r - 1) - (rowM c r li)) (c - (colM c r li)) (hf) (hC)) (cwV 3 hts gX9_mapped_X9_numberOf rfl rfl rfl ⟨rfl, hdX9_numberOf⟩ ⟨Nat.le_of_ble_eq_true rfl, Nat.le_of_ble_eq_true rfl⟩) (ro_pV hK hP (ro_recv hK hP (ci := 8) (q0 := 0) rfl rfl)) rfl rfl hl.1 rfl (lv_room (Nat.le_of_ble_eq_true rfl)) dX9_mapped_115 ⟨Nat.le_of_ble_eq_true rfl, Nat.le_of_ble_eq_true rfl⟩) ?_
    refine lv_goto (pc := 118) (tgt := 130) hx hb dX9_mapped_118 (by decide) ?_
    exact ro_iret (v := nI (numM c r false ((r - 1) - (rowM c r li)) (c - (colM c r li)))) hx hb hr hlocks (by have t0 : s.testBit 0 = true := (by rw [← tb_lN (by omega)]; exact c26); have t1 : s.testBit 1 = true := (by rw [← tb_lN (by omega)]; exact c62); have t2 : s.testBit 2 = true := (by rw [← tb_lN (by omega)]; exact c98); unfold mapM imL imX imY; simp only [t0, t1, t2, c30, Bool.not_true, Bool.not_false, if_true, if_false, Bool.false_eq_true]) dX9_mapped_130
  · exact absurd (c30.symm.trans c103) (by decide)

set_option maxHeartbeats 1200000 in
set_option maxRecDepth 100000 in
theorem c_X9_mappedSet (l : Launch) (D : va_G) (Y : vY) (mo : Nat) (c : Nat) (r : Nat) (fs : List Value) (u : Int64) (s : Nat) (hf : MF c r fs) (hC : Cr c r) (hs9 : s < manyM c r) : Ro l yX9_mappedSet wsX9_mappedSet ({ frames := 4, cells := 0, slots := 0, locals := 87 } : Room) [.ref mo, .long u, .int (nI s)] D Y [(mo, .inr (8, fs))] (some (.long (mapS c r u s))) := by
  refine ro_intro (by decide +kernel) rfl (Nat.le_of_ble_eq_true rfl) [(0, .ref mo), (1, .long u), (3, .int (nI s))] rfl ?_
  intro pG eG sG mG aG bG tG cG ls hx hb hr hml hts hown hlocks hK hP hl
  have hP : va_P D vwCl [(mo, .inr (8, fs))] sG.heap := hP
  have hown : sG.vm.findClass RX9 = some mG.cls := hown
  have hl : lv_has ls 7 [(0, .ref mo), (1, .long u), (3, .int (nI s))] := hl
  obtain ⟨hq1, hq2, hq3, hq4, hq5, hq6, hq7, hq8, hq9, hq10, hq11⟩ := hC.q
  obtain ⟨hm1, hm2⟩ := many_le c r
  refine lv_lconst (pc := 0) (v := 0) hx hb dX9_mappedSet_0 (by decide) ?_
  refine lv_lstore (pc := 1) (lv' := [(4, .long (0 : Int64)), (0, .ref mo), (1, .long u), (3, .int (nI s))]) hx hb dX9_mappedSet_1 hl (by decide) rfl (fun ls hl => ?_)
  refine lv_iconst (pc := 3) (v := nI 0) hx hb dX9_mappedSet_3 rfl ?_
  refine lv_istore (pc := 4) (lv' := [(6, .int (nI 0)), (4, .long (0 : Int64)), (0, .ref mo), (1, .long u), (3, .int (nI s))]) hx hb dX9_mappedSet_4 hl (by decide) rfl (fun ls hl => ?_)
  have L6 : ∀ (n6 : Nat), ∀ (i : Nat) (v : Int64), (i ≤ al c r) → (v = mapSF c r u s i) → al c r - i < n6 → ∀ (ls : Array Slot), lv_has ls 7 [(0, .ref mo), (1, .long u), (3, .int (nI s)), (4, .long v), (6, .int (nI i))] → W pG l eG ({ frames := 4, cells := 0, slots := 0, locals := 87 } : Room) sG mG aG bG tG cG sG.heap [] 0 0 (MQ bG (RoQ (some (.long (mapS c r u s)))) aG sG 0 0 (fun _ => False)) (F0 mG 6 ls []) := by
    intro n6
    induction n6 with
    | zero =>
      intro i v hi hv9 hmeas6  ls hl
      exact absurd hmeas6 (Nat.not_lt_zero _)
    | succ n6 ih6 =>
      intro i v hi hv9 hmeas6  ls hl
      refine lv_iload (pc := 6) hx hb dX9_mappedSet_6 (lv_at hl 4 rfl) ?_
      refine lv_aload_n (pc := 8) hx hb dX9_mappedSet_8 rfl (lv_at hl 0 rfl) ?_
      refine ro_go (pc := 9) (va_runV (As := []) (rest := [.int (nI i)]) ⟨hx, hb, hml, hown, hts⟩ (c_X9_all l D Y mo c r fs (hf) (hC)) (cwV 0 hts gX9_mappedSet_X9_all rfl rfl rfl ⟨rfl, hdX9_all⟩ ⟨Nat.le_of_ble_eq_true rfl, Nat.le_of_ble_eq_true rfl⟩) (ro_pV hK hP (ro_recv hK hP (ci := 8) (q0 := 0) rfl rfl)) rfl rfl hl.1 rfl (lv_room (Nat.le_of_ble_eq_true rfl)) dX9_mappedSet_9 ⟨Nat.le_of_ble_eq_true rfl, Nat.le_of_ble_eq_true rfl⟩) ?_
      refine n_icmp_ge (pc := 12) (tgt := 48) hx hb (by omega) (by omega) dX9_mappedSet_12 (by decide) (fun c12 => ?_) (fun c12 => ?_)
      · refine lv_lload (pc := 48) hx hb dX9_mappedSet_48 (lv_at hl 3 rfl) ?_
        exact ro_lret (v := v) hx hb hr hlocks (by rw [hv9, show i = al c r by omega]; rfl) dX9_mappedSet_50
      refine lv_lload (pc := 15) hx hb dX9_mappedSet_15 (lv_at hl 3 rfl) ?_
      refine lv_lload_n (pc := 17) hx hb dX9_mappedSet_17 rfl (lv_at hl 1 rfl) ?_
      refine lv_iload (pc := 18) hx hb dX9_mappedSet_18 (lv_at hl 4 rfl) ?_
      refine ro_go (pc := 20) (va_runS (As := [.long u, .int (nI i)]) (rest := [.long v]) ⟨hx, hb, hml, hown, hts⟩ (c_X9_has l D Y u i (by omega)) (va_cwS 2 hts gX9_mappedSet_X9_has rfl rfl rfl hdX9_has ⟨Nat.le_of_ble_eq_true rfl, Nat.le_of_ble_eq_true rfl⟩) (ro_pS hK (hP.sub [] rfl)) rfl rfl hl.1 rfl (lv_room (Nat.le_of_ble_eq_true rfl)) dX9_mappedSet_20 ⟨Nat.le_of_ble_eq_true rfl, Nat.le_of_ble_eq_true rfl⟩) ?_
      refine z_if_eq (pc := 23) (tgt := 38) hx hb dX9_mappedSet_23 (by decide) (fun c23 => ?_) (fun c23 => ?_)
      · refine lv_lconst (pc := 38) (v := 0) hx hb dX9_mappedSet_38 (by decide) ?_
        refine lv_lor (pc := 39) hx hb dX9_mappedSet_39 ?_
        refine lv_lstore (pc := 40) (lv' := [(4, .long (v ||| (0 : Int64))), (0, .ref mo), (1, .long u), (3, .int (nI s)), (6, .int (nI i))]) hx hb dX9_mappedSet_40 hl (by decide) rfl (fun ls hl => ?_)
        refine lv_iinc (pc := 42) (v := nI (i + 1)) (lv' := [(6, .int (nI (i + 1))), (4, .long (v ||| (0 : Int64))), (0, .ref mo), (1, .long u), (3, .int (nI s))]) hx hb dX9_mappedSet_42 hl (k := 4) rfl (n_inc i 1) (by decide) rfl (fun ls hl => ?_)
        refine lv_goto (pc := 45) (tgt := 6) hx hb dX9_mappedSet_45 (by decide) ?_
        exact ih6 (i + 1) (v ||| (0 : Int64)) (by first | assumption | omega) (by rw [mapSF, if_neg (by rw [c23]; decide), ← hv9, or_0]) (by omega) _ (lv_sub hl [2, 3, 4, 1, 0] rfl)
      refine lv_lconst (pc := 26) (v := 1) hx hb dX9_mappedSet_26 (by decide) ?_
      refine lv_aload_n (pc := 27) hx hb dX9_mappedSet_27 rfl (lv_at hl 0 rfl) ?_
      refine lv_iload (pc := 28) hx hb dX9_mappedSet_28 (lv_at hl 4 rfl) ?_
      refine lv_iload_n (pc := 30) hx hb dX9_mappedSet_30 rfl (lv_at hl 2 rfl) ?_
      refine ro_go (pc := 31) (va_runV (As := [.int (nI i), .int (nI s)]) (rest := [.long (1 : Int64), .long v]) ⟨hx, hb, hml, hown, hts⟩ (c_X9_mapped l D Y mo c r fs i s (hf) (hC) (by first | assumption | omega) (by omega)) (cwV 2 hts gX9_mappedSet_X9_mapped rfl rfl rfl ⟨rfl, hdX9_mapped⟩ ⟨Nat.le_of_ble_eq_true rfl, Nat.le_of_ble_eq_true rfl⟩) (ro_pV hK hP (ro_recv hK hP (ci := 8) (q0 := 0) rfl rfl)) rfl rfl hl.1 rfl (lv_room (Nat.le_of_ble_eq_true rfl)) dX9_mappedSet_31 ⟨Nat.le_of_ble_eq_true rfl, Nat.le_of_ble_eq_true rfl⟩) ?_
      refine lv_lshl (pc := 34) (v := b1 (mapM c r i s)) hx hb dX9_mappedSet_34 (b1_shl _ (lt_al hC (mapM_lt hC c12 hs9))) ?_
      refine lv_goto (pc := 35) (tgt := 39) hx hb dX9_mappedSet_35 (by decide) ?_
      refine lv_lor (pc := 39) hx hb dX9_mappedSet_39 ?_
      refine lv_lstore (pc := 40) (lv' := [(4, .long (v ||| (b1 (mapM c r i s)))), (0, .ref mo), (1, .long u), (3, .int (nI s)), (6, .int (nI i))]) hx hb dX9_mappedSet_40 hl (by decide) rfl (fun ls hl => ?_)
      refine lv_iinc (pc := 42) (v := nI (i + 1)) (lv' := [(6, .int (nI (i + 1))), (4, .long (v ||| (b1 (mapM c r i s)))), (0, .ref mo), (1, .long u), (3, .int (nI s))]) hx hb dX9_mappedSet_42 hl (k := 4) rfl (n_inc i 1) (by decide) rfl (fun ls hl => ?_)
      refine lv_goto (pc := 45) (tgt := 6) hx hb dX9_mappedSet_45 (by decide) ?_
      exact ih6 (i + 1) (v ||| (b1 (mapM c r i s))) (by first | assumption | omega) (by rw [mapSF, if_pos c23, ← hv9]) (by omega) _ (lv_sub hl [2, 3, 4, 1, 0] rfl)
  exact L6 ((al c r - 0) + 1) 0 (0 : Int64) (by first | assumption | omega) (rfl) (Nat.lt_succ_self _) _ (lv_sub hl [2, 3, 4, 1, 0] rfl)

set_option maxHeartbeats 1200000 in
set_option maxRecDepth 100000 in
theorem c_X9_leastCode (l : Launch) (D : va_G) (Y : vY) (mo : Nat) (c : Nat) (r : Nat) (fs : List Value) (u : Int64) (hf : MF c r fs) (hC : Cr c r) (hu0 : Onb c r u) : Ro l yX9_leastCode wsX9_leastCode ({ frames := 5, cells := 0, slots := 0, locals := 113 } : Room) [.ref mo, .long u] D Y [(mo, .inr (8, fs))] (some (.long (lsc c r u))) := by
  refine ro_intro (by decide +kernel) rfl (Nat.le_of_ble_eq_true rfl) [(0, .ref mo), (1, .long u)] rfl ?_
  intro pG eG sG mG aG bG tG cG ls hx hb hr hml hts hown hlocks hK hP hl
  have hP : va_P D vwCl [(mo, .inr (8, fs))] sG.heap := hP
  have hown : sG.vm.findClass RX9 = some mG.cls := hown
  have hl : lv_has ls 8 [(0, .ref mo), (1, .long u)] := hl
  obtain ⟨hq1, hq2, hq3, hq4, hq5, hq6, hq7, hq8, hq9, hq10, hq11⟩ := hC.q
  obtain ⟨hm1, hm2⟩ := many_le c r
  refine lv_lload_n (pc := 0) hx hb dX9_leastCode_0 rfl (lv_at hl 1 rfl) ?_
  refine lv_lstore_n (pc := 1) (lv' := [(3, .long u), (0, .ref mo), (1, .long u)]) hx hb dX9_leastCode_1 rfl hl (by decide) rfl (fun ls hl => ?_)
  refine lv_iconst (pc := 2) (v := nI 1) hx hb dX9_leastCode_2 rfl ?_
  refine lv_istore (pc := 3) (lv' := [(5, .int (nI 1)), (3, .long u), (0, .ref mo), (1, .long u)]) hx hb dX9_leastCode_3 hl (by decide) rfl (fun ls hl => ?_)
  have L5 : ∀ (n5 : Nat), ∀ (i : Nat) (v : Int64), (1 ≤ i) → (i ≤ manyM c r) → (v = minF (mapS c r u) (i - 1)) → manyM c r - i < n5 → ∀ (ls : Array Slot), lv_has ls 8 [(0, .ref mo), (1, .long u), (3, .long v), (5, .int (nI i))] → W pG l eG ({ frames := 5, cells := 0, slots := 0, locals := 113 } : Room) sG mG aG bG tG cG sG.heap [] 0 0 (MQ bG (RoQ (some (.long (lsc c r u)))) aG sG 0 0 (fun _ => False)) (F0 mG 5 ls []) := by
    intro n5
    induction n5 with
    | zero =>
      intro i v h1 hi hv9 hmeas5  ls hl
      exact absurd hmeas5 (Nat.not_lt_zero _)
    | succ n5 ih5 =>
      intro i v h1 hi hv9 hmeas5  ls hl
      refine lv_iload (pc := 5) hx hb dX9_leastCode_5 (lv_at hl 3 rfl) ?_
      refine lv_aload_n (pc := 7) hx hb dX9_leastCode_7 rfl (lv_at hl 0 rfl) ?_
      refine ro_go (pc := 8) (va_runV (As := []) (rest := [.int (nI i)]) ⟨hx, hb, hml, hown, hts⟩ (c_X9_many l D Y mo c r fs (hf) (hC)) (cwV 0 hts gX9_leastCode_X9_many rfl rfl rfl ⟨rfl, hdX9_many⟩ ⟨Nat.le_of_ble_eq_true rfl, Nat.le_of_ble_eq_true rfl⟩) (ro_pV hK hP (ro_recv hK hP (ci := 8) (q0 := 0) rfl rfl)) rfl rfl hl.1 rfl (lv_room (Nat.le_of_ble_eq_true rfl)) dX9_leastCode_8 ⟨Nat.le_of_ble_eq_true rfl, Nat.le_of_ble_eq_true rfl⟩) ?_
      refine n_icmp_ge (pc := 11) (tgt := 43) hx hb (by omega) (by omega) dX9_leastCode_11 (by decide) (fun c11 => ?_) (fun c11 => ?_)
      · refine lv_lload_n (pc := 43) hx hb dX9_leastCode_43 rfl (lv_at hl 2 rfl) ?_
        exact ro_lret (v := v) hx hb hr hlocks (by rw [hv9, show i = manyM c r by omega]; rfl) dX9_leastCode_44
      refine lv_aload_n (pc := 14) hx hb dX9_leastCode_14 rfl (lv_at hl 0 rfl) ?_
      refine lv_lload_n (pc := 15) hx hb dX9_leastCode_15 rfl (lv_at hl 1 rfl) ?_
      refine lv_iload (pc := 16) hx hb dX9_leastCode_16 (lv_at hl 3 rfl) ?_
      refine ro_go (pc := 18) (va_runV (As := [.long u, .int (nI i)]) (rest := []) ⟨hx, hb, hml, hown, hts⟩ (c_X9_mappedSet l D Y mo c r fs u i (hf) (hC) (c11)) (cwV 2 hts gX9_leastCode_X9_mappedSet rfl rfl rfl ⟨rfl, hdX9_mappedSet⟩ ⟨Nat.le_of_ble_eq_true rfl, Nat.le_of_ble_eq_true rfl⟩) (ro_pV hK hP (ro_recv hK hP (ci := 8) (q0 := 0) rfl rfl)) rfl rfl hl.1 rfl (lv_room (Nat.le_of_ble_eq_true rfl)) dX9_leastCode_18 ⟨Nat.le_of_ble_eq_true rfl, Nat.le_of_ble_eq_true rfl⟩) ?_
      refine lv_lstore (pc := 21) (lv' := [(6, .long (mapS c r u i)), (0, .ref mo), (1, .long u), (3, .long v), (5, .int (nI i))]) hx hb dX9_leastCode_21 hl (by decide) rfl (fun ls hl => ?_)
      refine lv_lload (pc := 23) hx hb dX9_leastCode_23 (lv_at hl 0 rfl) ?_
      refine lv_lload_n (pc := 25) hx hb dX9_leastCode_25 rfl (lv_at hl 3 rfl) ?_
      refine W.lcmp (pc := 26) hx hb dX9_leastCode_26 ?_
      refine lc_if_ge (pc := 27) (tgt := 35) hx hb dX9_leastCode_27 (by decide) (fun c27 => ?_) (fun c27 => ?_)
      · refine lv_lload_n (pc := 35) hx hb dX9_leastCode_35 rfl (lv_at hl 3 rfl) ?_
        refine lv_lstore_n (pc := 36) (lv' := [(3, .long v), (6, .long (mapS c r u i)), (0, .ref mo), (1, .long u), (5, .int (nI i))]) hx hb dX9_leastCode_36 rfl hl (by decide) rfl (fun ls hl => ?_)
        refine lv_iinc (pc := 37) (v := nI (i + 1)) (lv' := [(5, .int (nI (i + 1))), (3, .long v), (6, .long (mapS c r u i)), (0, .ref mo), (1, .long u)]) hx hb dX9_leastCode_37 hl (k := 4) rfl (n_inc i 1) (by decide) rfl (fun ls hl => ?_)
        refine lv_goto (pc := 40) (tgt := 5) hx hb dX9_leastCode_40 (by decide) ?_
        exact ih5 (i + 1) v (by first | assumption | omega) (by first | assumption | omega) (by obtain ⟨j, rfl⟩ : ∃ j, i = j + 1 := ⟨i - 1, by omega⟩; show _ = mnL (minF (mapS c r u) j) (mapS c r u (j + 1)); rw [hv9] at c27 ⊢; exact mnL_b (by simpa using c27)) (by omega) _ (lv_sub hl [3, 4, 1, 0] rfl)
      refine lv_lload (pc := 30) hx hb dX9_leastCode_30 (lv_at hl 0 rfl) ?_
      refine lv_goto (pc := 32) (tgt := 36) hx hb dX9_leastCode_32 (by decide) ?_
      refine lv_lstore_n (pc := 36) (lv' := [(3, .long (mapS c r u i)), (6, .long (mapS c r u i)), (0, .ref mo), (1, .long u), (5, .int (nI i))]) hx hb dX9_leastCode_36 rfl hl (by decide) rfl (fun ls hl => ?_)
      refine lv_iinc (pc := 37) (v := nI (i + 1)) (lv' := [(5, .int (nI (i + 1))), (3, .long (mapS c r u i)), (6, .long (mapS c r u i)), (0, .ref mo), (1, .long u)]) hx hb dX9_leastCode_37 hl (k := 4) rfl (n_inc i 1) (by decide) rfl (fun ls hl => ?_)
      refine lv_goto (pc := 40) (tgt := 5) hx hb dX9_leastCode_40 (by decide) ?_
      exact ih5 (i + 1) (mapS c r u i) (by first | assumption | omega) (by first | assumption | omega) (by obtain ⟨j, rfl⟩ : ∃ j, i = j + 1 := ⟨i - 1, by omega⟩; show _ = mnL (minF (mapS c r u) j) (mapS c r u (j + 1)); rw [hv9] at c27; exact mnL_a (by simpa using c27)) (by omega) _ (lv_sub hl [3, 4, 1, 0] rfl)
  exact L5 ((manyM c r - 1) + 1) 1 u (by first | assumption | omega) (by first | assumption | omega) ((mapS_0 hC hu0).symm) (Nat.lt_succ_self _) _ (lv_sub hl [2, 3, 1, 0] rfl)

set_option maxHeartbeats 1200000 in
set_option maxRecDepth 100000 in
theorem c_X9_fixing (l : Launch) (D : va_G) (Y : vY) (mo : Nat) (c : Nat) (r : Nat) (fs : List Value) (w : Int64) (hf : MF c r fs) (hC : Cr c r) (hf3 : fs[3]? = some (.long w)) : Ro l yX9_fixing wsX9_fixing ({ frames := 5, cells := 0, slots := 0, locals := 113 } : Room) [.ref mo] D Y [(mo, .inr (8, fs))] (some (.int (nI (fixn c r w)))) := by
  refine ro_intro (by decide +kernel) rfl (Nat.le_of_ble_eq_true rfl) [(0, .ref mo)] rfl ?_
  intro pG eG sG mG aG bG tG cG ls hx hb hr hml hts hown hlocks hK hP hl
  have hP : va_P D vwCl [(mo, .inr (8, fs))] sG.heap := hP
  have hown : sG.vm.findClass RX9 = some mG.cls := hown
  have hl : lv_has ls 3 [(0, .ref mo)] := hl
  have hinX9 : ∀ w ∈ u_ws RX9 TX9 25, w ∈ wsX9_fixing := by decide +kernel
  obtain ⟨hq1, hq2, hq3, hq4, hq5, hq6, hq7, hq8, hq9, hq10, hq11⟩ := hC.q
  obtain ⟨hm1, hm2⟩ := many_le c r
  refine lv_iconst (pc := 0) (v := nI 0) hx hb dX9_fixing_0 rfl ?_
  refine lv_istore_n (pc := 1) (lv' := [(1, .int (nI 0)), (0, .ref mo)]) hx hb dX9_fixing_1 rfl hl (by decide) rfl (fun ls hl => ?_)
  refine lv_iconst (pc := 2) (v := nI 0) hx hb dX9_fixing_2 rfl ?_
  refine lv_istore_n (pc := 3) (lv' := [(2, .int (nI 0)), (1, .int (nI 0)), (0, .ref mo)]) hx hb dX9_fixing_3 rfl hl (by decide) rfl (fun ls hl => ?_)
  have L4 : ∀ (n4 : Nat), ∀ (i : Nat) (k : Nat), (i ≤ manyM c r) → (k = fb_ct (fun s => decide (mapS c r w s = w)) i) → manyM c r - i < n4 → ∀ (ls : Array Slot), lv_has ls 3 [(0, .ref mo), (1, .int (nI k)), (2, .int (nI i))] → W pG l eG ({ frames := 5, cells := 0, slots := 0, locals := 113 } : Room) sG mG aG bG tG cG sG.heap [] 0 0 (MQ bG (RoQ (some (.int (nI (fixn c r w))))) aG sG 0 0 (fun _ => False)) (F0 mG 4 ls []) := by
    intro n4
    induction n4 with
    | zero =>
      intro i k hi hk hmeas4  ls hl
      exact absurd hmeas4 (Nat.not_lt_zero _)
    | succ n4 ih4 =>
      intro i k hi hk hmeas4  ls hl
      refine lv_iload_n (pc := 4) hx hb dX9_fixing_4 rfl (lv_at hl 2 rfl) ?_
      refine lv_aload_n (pc := 5) hx hb dX9_fixing_5 rfl (lv_at hl 0 rfl) ?_
      refine ro_go (pc := 6) (va_runV (As := []) (rest := [.int (nI i)]) ⟨hx, hb, hml, hown, hts⟩ (c_X9_many l D Y mo c r fs (hf) (hC)) (cwV 0 hts gX9_fixing_X9_many rfl rfl rfl ⟨rfl, hdX9_many⟩ ⟨Nat.le_of_ble_eq_true rfl, Nat.le_of_ble_eq_true rfl⟩) (ro_pV hK hP (ro_recv hK hP (ci := 8) (q0 := 0) rfl rfl)) rfl rfl hl.1 rfl (lv_room (Nat.le_of_ble_eq_true rfl)) dX9_fixing_6 ⟨Nat.le_of_ble_eq_true rfl, Nat.le_of_ble_eq_true rfl⟩) ?_
      refine n_icmp_ge (pc := 9) (tgt := 43) hx hb (by omega) (by omega) dX9_fixing_9 (by decide) (fun c9 => ?_) (fun c9 => ?_)
      · refine lv_iload_n (pc := 43) hx hb dX9_fixing_43 rfl (lv_at hl 1 rfl) ?_
        exact ro_iret (v := nI k) hx hb hr hlocks (by rw [hk, show i = manyM c r by omega]; rfl) dX9_fixing_44
      refine lv_iload_n (pc := 12) hx hb dX9_fixing_12 rfl (lv_at hl 1 rfl) ?_
      refine lv_aload_n (pc := 13) hx hb dX9_fixing_13 rfl (lv_at hl 0 rfl) ?_
      refine lv_aload_n (pc := 14) hx hb dX9_fixing_14 rfl (lv_at hl 0 rfl) ?_
      refine va_get (pc := 15) (D := D) (ci := 8) (v := .long w) (C := RX9) (T := TX9) (N := 25) hx hb hts hinX9 hown hK.1 hP 0 rfl rfl 3 (by decide) (hts (.fieldLink RX9 119 "BoxesGameModel" "now" "J") (List.mem_of_getElem? (i := 1) rfl)) (fun _ h9 => h9) hf3 dX9_fixing_15 ?_
      refine lv_iload_n (pc := 18) hx hb dX9_fixing_18 rfl (lv_at hl 2 rfl) ?_
      refine ro_go (pc := 19) (va_runV (As := [.long w, .int (nI i)]) (rest := [.int (nI k)]) ⟨hx, hb, hml, hown, hts⟩ (c_X9_mappedSet l D Y mo c r fs w i (hf) (hC) (c9)) (cwV 2 hts gX9_fixing_X9_mappedSet rfl rfl rfl ⟨rfl, hdX9_mappedSet⟩ ⟨Nat.le_of_ble_eq_true rfl, Nat.le_of_ble_eq_true rfl⟩) (ro_pV hK hP (ro_recv hK hP (ci := 8) (q0 := 0) rfl rfl)) rfl rfl hl.1 rfl (lv_room (Nat.le_of_ble_eq_true rfl)) dX9_fixing_19 ⟨Nat.le_of_ble_eq_true rfl, Nat.le_of_ble_eq_true rfl⟩) ?_
      refine lv_aload_n (pc := 22) hx hb dX9_fixing_22 rfl (lv_at hl 0 rfl) ?_
      refine va_get (pc := 23) (D := D) (ci := 8) (v := .long w) (C := RX9) (T := TX9) (N := 25) hx hb hts hinX9 hown hK.1 hP 0 rfl rfl 3 (by decide) (hts (.fieldLink RX9 119 "BoxesGameModel" "now" "J") (List.mem_of_getElem? (i := 1) rfl)) (fun _ h9 => h9) hf3 dX9_fixing_23 ?_
      refine W.lcmp (pc := 26) hx hb dX9_fixing_26 ?_
      refine lc_if_ne (pc := 27) (tgt := 34) hx hb dX9_fixing_27 (by decide) (fun c27 => ?_) (fun c27 => ?_)
      · refine lv_iconst (pc := 34) (v := nI 0) hx hb dX9_fixing_34 rfl ?_
        refine n_iadd (pc := 35) hx hb dX9_fixing_35 ?_
        refine lv_istore_n (pc := 36) (lv' := [(1, .int (nI (k + 0))), (0, .ref mo), (2, .int (nI i))]) hx hb dX9_fixing_36 rfl hl (by decide) rfl (fun ls hl => ?_)
        refine lv_iinc (pc := 37) (v := nI (i + 1)) (lv' := [(2, .int (nI (i + 1))), (1, .int (nI (k + 0))), (0, .ref mo)]) hx hb dX9_fixing_37 hl (k := 2) rfl (n_inc i 1) (by decide) rfl (fun ls hl => ?_)
        refine lv_goto (pc := 40) (tgt := 4) hx hb dX9_fixing_40 (by decide) ?_
        exact ih4 (i + 1) (k + 0) (by first | assumption | omega) (by rw [fb_ct_succ, ← hk]; rw [decide_eq_false c27]; rfl) (by omega) _ (lv_sub hl [2, 1, 0] rfl)
      refine lv_iconst (pc := 30) (v := nI 1) hx hb dX9_fixing_30 rfl ?_
      refine lv_goto (pc := 31) (tgt := 35) hx hb dX9_fixing_31 (by decide) ?_
      refine n_iadd (pc := 35) hx hb dX9_fixing_35 ?_
      refine lv_istore_n (pc := 36) (lv' := [(1, .int (nI (k + 1))), (0, .ref mo), (2, .int (nI i))]) hx hb dX9_fixing_36 rfl hl (by decide) rfl (fun ls hl => ?_)
      refine lv_iinc (pc := 37) (v := nI (i + 1)) (lv' := [(2, .int (nI (i + 1))), (1, .int (nI (k + 1))), (0, .ref mo)]) hx hb dX9_fixing_37 hl (k := 2) rfl (n_inc i 1) (by decide) rfl (fun ls hl => ?_)
      refine lv_goto (pc := 40) (tgt := 4) hx hb dX9_fixing_40 (by decide) ?_
      exact ih4 (i + 1) (k + 1) (by first | assumption | omega) (by rw [fb_ct_succ, ← hk]; rw [decide_eq_true c27]; rfl) (by omega) _ (lv_sub hl [2, 1, 0] rfl)
  exact L4 ((manyM c r - 0) + 1) 0 0 (by first | assumption | omega) (rfl) (Nat.lt_succ_self _) _ (lv_sub hl [2, 1, 0] rfl)

set_option maxHeartbeats 1200000 in
set_option maxRecDepth 100000 in
theorem c_X9_followers (l : Launch) (D : va_G) (Y : vY) (mo : Nat) (th : Int32) (c : Nat) (r : Nat) (w : Int64) (pl : Nat) (n : Nat) (aML : Nat) (aMR : Nat) (aOW : Nat) (len : Nat) (aBU : Nat) (sn : Int32) (aSA : Nat) (aSZ : Nat) (aLP : Nat) (aOP : Nat) (aFT : Nat) (od : Int32) (aOL : Nat) (aRS : Nat) (aCD : Nat) (pw : Int64) (pb : Int32) (ah : Int32) (hs : Int64) (cd : Nat → Int64) (hC : Cr c r) (hw0 : Onb c r w) : Mu l yX9_followers wsX9_followers ({ frames := 6, cells := 0, slots := 0, locals := 140 } : Room) [.ref mo] D Y [(mo, .inr (8, [.int th, .int (nI c), .int (nI r), .long w, .int (nI pl), .int (nI n), .ref aML, .ref aMR, .ref aOW, .int (nI len), .ref aBU, .int sn, .ref aSA, .ref aSZ, .ref aLP, .ref aOP, .ref aFT, .int od, .ref aOL, .ref aRS, .ref aCD, .long pw, .int pb, .int ah, .long hs])), (aCD, .inl (Y.2.1, 40, .inr (.inl cd)))] (fun uS : Nat → Int64 => some (.int (nI (folF c r w (al c r))))) (fun uS : Nat → Int64 => [(mo, .inr (8, [.int (nI 0), .int (nI c), .int (nI r), .long w, .int (nI pl), .int (nI n), .ref aML, .ref aMR, .ref aOW, .int (nI len), .ref aBU, .int sn, .ref aSA, .ref aSZ, .ref aLP, .ref aOP, .ref aFT, .int od, .ref aOL, .ref aRS, .ref aCD, .long pw, .int pb, .int ah, .long hs])), (aCD, .inl (Y.2.1, 40, .inr (.inl uS)))]) (fun uS : Nat → Int64 => True) := by
  refine mu_intro (by decide +kernel) rfl (Nat.le_of_ble_eq_true rfl) [(0, .ref mo)] rfl ?_
  intro pG eG sG mG aG bG tG cG ls hx hb hr hml hts hown hlocks hK hP hD hS hl
  generalize hAA : adA [(mo, .inr (8, [.int th, .int (nI c), .int (nI r), .long w, .int (nI pl), .int (nI n), .ref aML, .ref aMR, .ref aOW, .int (nI len), .ref aBU, .int sn, .ref aSA, .ref aSZ, .ref aLP, .ref aOP, .ref aFT, .int od, .ref aOL, .ref aRS, .ref aCD, .long pw, .int pb, .int ah, .long hs])), (aCD, .inl (Y.2.1, 40, .inr (.inl cd)))] = AA at hD hS ⊢
  have hP : va_P D vwCl [(mo, .inr (8, [.int th, .int (nI c), .int (nI r), .long w, .int (nI pl), .int (nI n), .ref aML, .ref aMR, .ref aOW, .int (nI len), .ref aBU, .int sn, .ref aSA, .ref aSZ, .ref aLP, .ref aOP, .ref aFT, .int od, .ref aOL, .ref aRS, .ref aCD, .long pw, .int pb, .int ah, .long hs])), (aCD, .inl (Y.2.1, 40, .inr (.inl cd)))] sG.heap := hP
  have hD : va_D AA [(mo, .inr (8, [.int th, .int (nI c), .int (nI r), .long w, .int (nI pl), .int (nI n), .ref aML, .ref aMR, .ref aOW, .int (nI len), .ref aBU, .int sn, .ref aSA, .ref aSZ, .ref aLP, .ref aOP, .ref aFT, .int od, .ref aOL, .ref aRS, .ref aCD, .long pw, .int pb, .int ah, .long hs])), (aCD, .inl (Y.2.1, 40, .inr (.inl cd)))] := hD
  have hown : sG.vm.findClass RX9 = some mG.cls := hown
  have hl : lv_has ls 4 [(0, .ref mo)] := hl
  have hinX9 : ∀ w ∈ u_ws RX9 TX9 25, w ∈ wsX9_followers := by decide +kernel
  have hS : va_S AA sG.heap sG.heap [] := hS
  obtain ⟨hq1, hq2, hq3, hq4, hq5, hq6, hq7, hq8, hq9, hq10, hq11⟩ := hC.q
  refine lv_aload_n (pc := 0) hx hb dX9_followers_0 rfl (lv_at hl 0 rfl) ?_
  refine lv_iconst (pc := 1) (v := nI 0) hx hb dX9_followers_1 rfl ?_
  refine va_put (pc := 2) (D := D) (ci := 8) (v := .int (nI 0)) (ty := .int) (C := RX9) (T := TX9) (N := 25) hx hb hts hinX9 tyX9 tyX9_ok nmX9 hown hK.1 hP hD hS 0 rfl rfl 0 (by decide) (hts (.fieldLink RX9 59 "BoxesGameModel" "thrown" "I") (List.mem_of_getElem? (i := 1) rfl)) (fun _ h9 => h9) rfl (by decide +kernel) (rfl) (rfl) (Nat.le_of_ble_eq_true rfl) dX9_followers_2 (fun H locs hP hD hS => ?_)
  have hP : va_P D vwCl [(mo, .inr (8, [.int (nI 0), .int (nI c), .int (nI r), .long w, .int (nI pl), .int (nI n), .ref aML, .ref aMR, .ref aOW, .int (nI len), .ref aBU, .int sn, .ref aSA, .ref aSZ, .ref aLP, .ref aOP, .ref aFT, .int od, .ref aOL, .ref aRS, .ref aCD, .long pw, .int pb, .int ah, .long hs])), (aCD, .inl (Y.2.1, 40, .inr (.inl cd)))] H := hP
  have hD : va_D AA [(mo, .inr (8, [.int (nI 0), .int (nI c), .int (nI r), .long w, .int (nI pl), .int (nI n), .ref aML, .ref aMR, .ref aOW, .int (nI len), .ref aBU, .int sn, .ref aSA, .ref aSZ, .ref aLP, .ref aOP, .ref aFT, .int od, .ref aOL, .ref aRS, .ref aCD, .long pw, .int pb, .int ah, .long hs])), (aCD, .inl (Y.2.1, 40, .inr (.inl cd)))] := hD
  refine lv_iconst (pc := 5) (v := nI 0) hx hb dX9_followers_5 rfl ?_
  refine lv_istore_n (pc := 6) (lv' := [(1, .int (nI 0)), (0, .ref mo)]) hx hb dX9_followers_6 rfl hl (by decide) rfl (fun ls hl => ?_)
  refine lv_iconst (pc := 7) (v := nI 0) hx hb dX9_followers_7 rfl ?_
  refine lv_istore_n (pc := 8) (lv' := [(2, .int (nI 0)), (1, .int (nI 0)), (0, .ref mo)]) hx hb dX9_followers_8 rfl hl (by decide) rfl (fun ls hl => ?_)
  have L9 : ∀ (n9 : Nat), ∀ (i : Nat) (k : Nat) (g : Nat → Int64), (i ≤ al c r) → (k ≤ i) → (k = folF c r w i) → (∀ x : Int64, (orb (fun a => decide (g a = x)) k = orb (fun a => !tb w a && decide (lsc c r (w ||| b1 a) = x)) i)) → al c r - i < n9 → ∀ (H : Heap) (locs : List Loc), va_P D vwCl [(mo, .inr (8, [.int (nI 0), .int (nI c), .int (nI r), .long w, .int (nI pl), .int (nI n), .ref aML, .ref aMR, .ref aOW, .int (nI len), .ref aBU, .int sn, .ref aSA, .ref aSZ, .ref aLP, .ref aOP, .ref aFT, .int od, .ref aOL, .ref aRS, .ref aCD, .long pw, .int pb, .int ah, .long hs])), (aCD, .inl (Y.2.1, 40, .inr (.inl g)))] H → va_D AA [(mo, .inr (8, [.int (nI 0), .int (nI c), .int (nI r), .long w, .int (nI pl), .int (nI n), .ref aML, .ref aMR, .ref aOW, .int (nI len), .ref aBU, .int sn, .ref aSA, .ref aSZ, .ref aLP, .ref aOP, .ref aFT, .int od, .ref aOL, .ref aRS, .ref aCD, .long pw, .int pb, .int ah, .long hs])), (aCD, .inl (Y.2.1, 40, .inr (.inl g)))] → va_S AA sG.heap H locs → ∀ (ls : Array Slot), lv_has ls 4 [(0, .ref mo), (1, .int (nI k)), (2, .int (nI i))] → W pG l eG ({ frames := 6, cells := 0, slots := 0, locals := 140 } : Room) sG mG aG bG tG cG H locs 0 0 (MQ bG (MuQ D [(mo, .inr (8, [.int th, .int (nI c), .int (nI r), .long w, .int (nI pl), .int (nI n), .ref aML, .ref aMR, .ref aOW, .int (nI len), .ref aBU, .int sn, .ref aSA, .ref aSZ, .ref aLP, .ref aOP, .ref aFT, .int od, .ref aOL, .ref aRS, .ref aCD, .long pw, .int pb, .int ah, .long hs])), (aCD, .inl (Y.2.1, 40, .inr (.inl cd)))] (fun uS : Nat → Int64 => some (.int (nI (folF c r w (al c r))))) (fun uS : Nat → Int64 => [(mo, .inr (8, [.int (nI 0), .int (nI c), .int (nI r), .long w, .int (nI pl), .int (nI n), .ref aML, .ref aMR, .ref aOW, .int (nI len), .ref aBU, .int sn, .ref aSA, .ref aSZ, .ref aLP, .ref aOP, .ref aFT, .int od, .ref aOL, .ref aRS, .ref aCD, .long pw, .int pb, .int ah, .long hs])), (aCD, .inl (Y.2.1, 40, .inr (.inl uS)))]) (fun uS : Nat → Int64 => True)) aG sG 0 0 AA) (F0 mG 9 ls []) := by
    intro n9
    induction n9 with
    | zero =>
      intro i k g hi hki hk hset hmeas9 H locs hP hD hS ls hl
      exact absurd hmeas9 (Nat.not_lt_zero _)
    | succ n9 ih9 =>
      intro i k g hi hki hk hset hmeas9 H locs hP hD hS ls hl
      refine lv_iload_n (pc := 9) hx hb dX9_followers_9 rfl (lv_at hl 2 rfl) ?_
      refine lv_aload_n (pc := 10) hx hb dX9_followers_10 rfl (lv_at hl 0 rfl) ?_
      refine ro_go (pc := 11) (va_runV (As := []) (rest := [.int (nI i)]) ⟨hx, hb, hml, hown, hts⟩ (c_X9_all l D Y mo c r ([.int (nI 0), .int (nI c), .int (nI r), .long w, .int (nI pl), .int (nI n), .ref aML, .ref aMR, .ref aOW, .int (nI len), .ref aBU, .int sn, .ref aSA, .ref aSZ, .ref aLP, .ref aOP, .ref aFT, .int od, .ref aOL, .ref aRS, .ref aCD, .long pw, .int pb, .int ah, .long hs]) (by first | assumption | exact ⟨rfl, rfl⟩) (hC)) (cwV 0 hts gX9_followers_X9_all rfl rfl rfl ⟨rfl, hdX9_all⟩ ⟨Nat.le_of_ble_eq_true rfl, Nat.le_of_ble_eq_true rfl⟩) (ro_pV hK (hP.sub [0] rfl) (ro_recv hK hP (ci := 8) (q0 := 0) rfl rfl)) rfl rfl hl.1 rfl (lv_room (Nat.le_of_ble_eq_true rfl)) dX9_followers_11 ⟨Nat.le_of_ble_eq_true rfl, Nat.le_of_ble_eq_true rfl⟩) ?_
      refine n_icmp_ge (pc := 14) (tgt := 89) hx hb (by omega) (by omega) dX9_followers_14 (by decide) (fun c14 => ?_) (fun c14 => ?_)
      · refine lv_iload_n (pc := 89) hx hb dX9_followers_89 rfl (lv_at hl 1 rfl) ?_
        subst hAA
        exact mu_iret hx hb hr hlocks hP hS (g) (by rw [hk, show i = al c r by omega]) (trivial) (rfl) dX9_followers_90
      refine lv_aload_n (pc := 17) hx hb dX9_followers_17 rfl (lv_at hl 0 rfl) ?_
      refine va_get (pc := 18) (D := D) (ci := 8) (v := .long w) (C := RX9) (T := TX9) (N := 25) hx hb hts hinX9 hown hK.1 hP 0 rfl rfl 3 (by decide) (hts (.fieldLink RX9 119 "BoxesGameModel" "now" "J") (List.mem_of_getElem? (i := 2) rfl)) (fun _ h9 => h9) rfl dX9_followers_18 ?_
      refine lv_iload_n (pc := 21) hx hb dX9_followers_21 rfl (lv_at hl 2 rfl) ?_
      refine ro_go (pc := 22) (va_runS (As := [.long w, .int (nI i)]) (rest := []) ⟨hx, hb, hml, hown, hts⟩ (c_X9_has l D Y w i (by omega)) (va_cwS 2 hts gX9_followers_X9_has rfl rfl rfl hdX9_has ⟨Nat.le_of_ble_eq_true rfl, Nat.le_of_ble_eq_true rfl⟩) (ro_pS hK (hP.sub [] rfl)) rfl rfl hl.1 rfl (lv_room (Nat.le_of_ble_eq_true rfl)) dX9_followers_22 ⟨Nat.le_of_ble_eq_true rfl, Nat.le_of_ble_eq_true rfl⟩) ?_
      refine z_if_ne (pc := 25) (tgt := 83) hx hb dX9_followers_25 (by decide) (fun c25 => ?_) (fun c25 => ?_)
      · refine lv_iinc (pc := 83) (v := nI (i + 1)) (lv' := [(2, .int (nI (i + 1))), (0, .ref mo), (1, .int (nI k))]) hx hb dX9_followers_83 hl (k := 2) rfl (n_inc i 1) (by decide) rfl (fun ls hl => ?_)
        refine lv_goto (pc := 86) (tgt := 9) hx hb dX9_followers_86 (by decide) ?_
        exact ih9 (i + 1) k g (by first | assumption | omega) (by first | assumption | omega) (by rw [fol_d c25, ← hk]) (fun x => by rw [orb, c25, hset x]; simp) (by omega) _ _ hP hD hS _ (lv_sub hl [1, 2, 0] rfl)
      refine lv_aload_n (pc := 28) hx hb dX9_followers_28 rfl (lv_at hl 0 rfl) ?_
      refine va_get (pc := 29) (D := D) (ci := 8) (v := .ref aCD) (C := RX9) (T := TX9) (N := 25) hx hb hts hinX9 hown hK.1 hP 0 rfl rfl 20 (by decide) (hts (.fieldLink RX9 51 "BoxesGameModel" "codes" "[J") (List.mem_of_getElem? (i := 3) rfl)) (fun _ h9 => h9) rfl dX9_followers_29 ?_
      refine lv_iload_n (pc := 32) hx hb dX9_followers_32 rfl (lv_at hl 1 rfl) ?_
      refine lv_aload_n (pc := 33) hx hb dX9_followers_33 rfl (lv_at hl 0 rfl) ?_
      refine lv_aload_n (pc := 34) hx hb dX9_followers_34 rfl (lv_at hl 0 rfl) ?_
      refine va_get (pc := 35) (D := D) (ci := 8) (v := .long w) (C := RX9) (T := TX9) (N := 25) hx hb hts hinX9 hown hK.1 hP 0 rfl rfl 3 (by decide) (hts (.fieldLink RX9 119 "BoxesGameModel" "now" "J") (List.mem_of_getElem? (i := 2) rfl)) (fun _ h9 => h9) rfl dX9_followers_35 ?_
      refine lv_lconst (pc := 38) (v := 1) hx hb dX9_followers_38 (by decide) ?_
      refine lv_iload_n (pc := 39) hx hb dX9_followers_39 rfl (lv_at hl 2 rfl) ?_
      refine lv_lshl (pc := 40) (v := b1 i) hx hb dX9_followers_40 (b1_shl i (by omega)) ?_
      refine lv_lor (pc := 41) hx hb dX9_followers_41 ?_
      refine ro_go (pc := 42) (va_runV (As := [.long (w ||| (b1 i))]) (rest := [.int (nI k), .ref aCD]) ⟨hx, hb, hml, hown, hts⟩ (c_X9_leastCode l D Y mo c r ([.int (nI 0), .int (nI c), .int (nI r), .long w, .int (nI pl), .int (nI n), .ref aML, .ref aMR, .ref aOW, .int (nI len), .ref aBU, .int sn, .ref aSA, .ref aSZ, .ref aLP, .ref aOP, .ref aFT, .int od, .ref aOL, .ref aRS, .ref aCD, .long pw, .int pb, .int ah, .long hs]) (w ||| (b1 i)) (by first | assumption | exact ⟨rfl, rfl⟩) (hC) (onb_or hC hw0 c14)) (cwV 1 hts gX9_followers_X9_leastCode rfl rfl rfl ⟨rfl, hdX9_leastCode⟩ ⟨Nat.le_of_ble_eq_true rfl, Nat.le_of_ble_eq_true rfl⟩) (ro_pV hK (hP.sub [0] rfl) (ro_recv hK hP (ci := 8) (q0 := 0) rfl rfl)) rfl rfl hl.1 rfl (lv_room (Nat.le_of_ble_eq_true rfl)) dX9_followers_42 ⟨Nat.le_of_ble_eq_true rfl, Nat.le_of_ble_eq_true rfl⟩) ?_
      refine va_last (pc := 45) hx hb hK.1 hP hD hS 1 1 rfl rfl (vp_in_nI (by omega) (by decide)) dX9_followers_45 (fun H locs hP hD hS => ?_)
      rw [nI_clamp (by omega)] at hP hD
      have hP : va_P D vwCl [(mo, .inr (8, [.int (nI 0), .int (nI c), .int (nI r), .long w, .int (nI pl), .int (nI n), .ref aML, .ref aMR, .ref aOW, .int (nI len), .ref aBU, .int sn, .ref aSA, .ref aSZ, .ref aLP, .ref aOP, .ref aFT, .int od, .ref aOL, .ref aRS, .ref aCD, .long pw, .int pb, .int ah, .long hs])), (aCD, .inl (Y.2.1, 40, .inr (.inl (vp_updL g k (lsc c r (w ||| (b1 i)))))))] H := hP
      have hD : va_D AA [(mo, .inr (8, [.int (nI 0), .int (nI c), .int (nI r), .long w, .int (nI pl), .int (nI n), .ref aML, .ref aMR, .ref aOW, .int (nI len), .ref aBU, .int sn, .ref aSA, .ref aSZ, .ref aLP, .ref aOP, .ref aFT, .int od, .ref aOL, .ref aRS, .ref aCD, .long pw, .int pb, .int ah, .long hs])), (aCD, .inl (Y.2.1, 40, .inr (.inl (vp_updL g k (lsc c r (w ||| (b1 i)))))))] := hD
      refine lv_iconst (pc := 46) (v := nI 0) hx hb dX9_followers_46 rfl ?_
      refine lv_istore_n (pc := 47) (lv' := [(3, .int (nI 0)), (0, .ref mo), (1, .int (nI k)), (2, .int (nI i))]) hx hb dX9_followers_47 rfl hl (by decide) rfl (fun ls hl => ?_)
      have L48 : ∀ (n48 : Nat), ∀ (j : Nat), (j ≤ k) → (∀ a, a < j → ¬ g a = lsc c r (w ||| b1 i)) → k + 1 - j < n48 → ∀ (H : Heap) (locs : List Loc), va_P D vwCl [(mo, .inr (8, [.int (nI 0), .int (nI c), .int (nI r), .long w, .int (nI pl), .int (nI n), .ref aML, .ref aMR, .ref aOW, .int (nI len), .ref aBU, .int sn, .ref aSA, .ref aSZ, .ref aLP, .ref aOP, .ref aFT, .int od, .ref aOL, .ref aRS, .ref aCD, .long pw, .int pb, .int ah, .long hs])), (aCD, .inl (Y.2.1, 40, .inr (.inl (vp_updL g k (lsc c r (w ||| (b1 i)))))))] H → va_D AA [(mo, .inr (8, [.int (nI 0), .int (nI c), .int (nI r), .long w, .int (nI pl), .int (nI n), .ref aML, .ref aMR, .ref aOW, .int (nI len), .ref aBU, .int sn, .ref aSA, .ref aSZ, .ref aLP, .ref aOP, .ref aFT, .int od, .ref aOL, .ref aRS, .ref aCD, .long pw, .int pb, .int ah, .long hs])), (aCD, .inl (Y.2.1, 40, .inr (.inl (vp_updL g k (lsc c r (w ||| (b1 i)))))))] → va_S AA sG.heap H locs → ∀ (ls : Array Slot), lv_has ls 4 [(0, .ref mo), (1, .int (nI k)), (2, .int (nI i)), (3, .int (nI j))] → W pG l eG ({ frames := 6, cells := 0, slots := 0, locals := 140 } : Room) sG mG aG bG tG cG H locs 0 0 (MQ bG (MuQ D [(mo, .inr (8, [.int th, .int (nI c), .int (nI r), .long w, .int (nI pl), .int (nI n), .ref aML, .ref aMR, .ref aOW, .int (nI len), .ref aBU, .int sn, .ref aSA, .ref aSZ, .ref aLP, .ref aOP, .ref aFT, .int od, .ref aOL, .ref aRS, .ref aCD, .long pw, .int pb, .int ah, .long hs])), (aCD, .inl (Y.2.1, 40, .inr (.inl cd)))] (fun uS : Nat → Int64 => some (.int (nI (folF c r w (al c r))))) (fun uS : Nat → Int64 => [(mo, .inr (8, [.int (nI 0), .int (nI c), .int (nI r), .long w, .int (nI pl), .int (nI n), .ref aML, .ref aMR, .ref aOW, .int (nI len), .ref aBU, .int sn, .ref aSA, .ref aSZ, .ref aLP, .ref aOP, .ref aFT, .int od, .ref aOL, .ref aRS, .ref aCD, .long pw, .int pb, .int ah, .long hs])), (aCD, .inl (Y.2.1, 40, .inr (.inl uS)))]) (fun uS : Nat → Int64 => True)) aG sG 0 0 AA) (F0 mG 48 ls []) := by
        intro n48
        induction n48 with
        | zero =>
          intro j hjk hno hmeas48 H locs hP hD hS ls hl
          exact absurd hmeas48 (Nat.not_lt_zero _)
        | succ n48 ih48 =>
          intro j hjk hno hmeas48 H locs hP hD hS ls hl
          refine lv_aload_n (pc := 48) hx hb dX9_followers_48 rfl (lv_at hl 0 rfl) ?_
          refine va_get (pc := 49) (D := D) (ci := 8) (v := .ref aCD) (C := RX9) (T := TX9) (N := 25) hx hb hts hinX9 hown hK.1 hP 0 rfl rfl 20 (by decide) (hts (.fieldLink RX9 51 "BoxesGameModel" "codes" "[J") (List.mem_of_getElem? (i := 3) rfl)) (fun _ h9 => h9) rfl dX9_followers_49 ?_
          refine lv_iload_n (pc := 52) hx hb dX9_followers_52 rfl (lv_at hl 3 rfl) ?_
          refine va_lald (pc := 53) hx hb hK.1 hP 1 1 rfl rfl (vp_in_nI (by omega) (by decide)) dX9_followers_53 ?_
          refine top_l (show (vp_updL g k (lsc c r (w ||| (b1 i)))) (nI j).toNatClampNeg = (vp_updL g k (lsc c r (w ||| (b1 i)))) j from by rw [nI_clamp (by omega)]) ?_
          refine lv_aload_n (pc := 54) hx hb dX9_followers_54 rfl (lv_at hl 0 rfl) ?_
          refine va_get (pc := 55) (D := D) (ci := 8) (v := .ref aCD) (C := RX9) (T := TX9) (N := 25) hx hb hts hinX9 hown hK.1 hP 0 rfl rfl 20 (by decide) (hts (.fieldLink RX9 51 "BoxesGameModel" "codes" "[J") (List.mem_of_getElem? (i := 3) rfl)) (fun _ h9 => h9) rfl dX9_followers_55 ?_
          refine lv_iload_n (pc := 58) hx hb dX9_followers_58 rfl (lv_at hl 1 rfl) ?_
          refine va_lald (pc := 59) hx hb hK.1 hP 1 1 rfl rfl (vp_in_nI (by omega) (by decide)) dX9_followers_59 ?_
          refine top_l (show (vp_updL g k (lsc c r (w ||| (b1 i)))) (nI k).toNatClampNeg = (vp_updL g k (lsc c r (w ||| (b1 i)))) k from by rw [nI_clamp (by omega)]) ?_
          refine top_l (show (vp_updL g k (lsc c r (w ||| (b1 i)))) k = lsc c r (w ||| b1 i) from pk_uLs) ?_
          refine W.lcmp (pc := 60) hx hb dX9_followers_60 ?_
          refine lc_if_eq (pc := 61) (tgt := 70) hx hb dX9_followers_61 (by decide) (fun c61 => ?_) (fun c61 => ?_)
          · refine lv_iload_n (pc := 70) hx hb dX9_followers_70 rfl (lv_at hl 1 rfl) ?_
            refine lv_iload_n (pc := 71) hx hb dX9_followers_71 rfl (lv_at hl 3 rfl) ?_
            refine lv_iload_n (pc := 72) hx hb dX9_followers_72 rfl (lv_at hl 1 rfl) ?_
            refine n_icmp_ne (pc := 73) (tgt := 80) hx hb (by omega) (by omega) dX9_followers_73 (by decide) (fun c73 => ?_) (fun c73 => ?_)
            · have hfo : orb (fun a => decide (g a = lsc c r (w ||| b1 i))) k = true := orb_iff.mpr ⟨j, by omega, decide_eq_true (by rw [pk_uLn c73] at c61; exact c61)⟩
              refine lv_iconst (pc := 80) (v := nI 0) hx hb dX9_followers_80 rfl ?_
              refine n_iadd (pc := 81) hx hb dX9_followers_81 ?_
              refine lv_istore_n (pc := 82) (lv' := [(1, .int (nI (k + 0))), (0, .ref mo), (2, .int (nI i)), (3, .int (nI j))]) hx hb dX9_followers_82 rfl hl (by decide) rfl (fun ls hl => ?_)
              refine lv_iinc (pc := 83) (v := nI (i + 1)) (lv' := [(2, .int (nI (i + 1))), (1, .int (nI (k + 0))), (0, .ref mo), (3, .int (nI j))]) hx hb dX9_followers_83 hl (k := 2) rfl (n_inc i 1) (by decide) rfl (fun ls hl => ?_)
              refine lv_goto (pc := 86) (tgt := 9) hx hb dX9_followers_86 (by decide) ?_
              exact ih9 (i + 1) (k + 0) (vp_updL g k (lsc c r (w ||| (b1 i)))) (by first | assumption | omega) (by first | assumption | omega) (by rw [fol_o c25 (by rw [← hset]; exact hfo), ← hk]; rfl) (fun x => (orb_cong (fun a ha => by rw [pk_uLn (by omega)])).trans (fol_s1 c25 hset hfo x)) (by omega) _ _ hP hD hS _ (lv_sub hl [2, 1, 0] rfl)
            have hfo : orb (fun a => decide (g a = lsc c r (w ||| b1 i))) k = false := Bool.eq_false_iff.mpr (fun q => by obtain ⟨a, ha, qa⟩ := orb_iff.mp q; exact hno a (by omega) (of_decide_eq_true qa))
            refine lv_iconst (pc := 76) (v := nI 1) hx hb dX9_followers_76 rfl ?_
            refine lv_goto (pc := 77) (tgt := 81) hx hb dX9_followers_77 (by decide) ?_
            refine n_iadd (pc := 81) hx hb dX9_followers_81 ?_
            refine lv_istore_n (pc := 82) (lv' := [(1, .int (nI (k + 1))), (0, .ref mo), (2, .int (nI i)), (3, .int (nI j))]) hx hb dX9_followers_82 rfl hl (by decide) rfl (fun ls hl => ?_)
            refine lv_iinc (pc := 83) (v := nI (i + 1)) (lv' := [(2, .int (nI (i + 1))), (1, .int (nI (k + 1))), (0, .ref mo), (3, .int (nI j))]) hx hb dX9_followers_83 hl (k := 2) rfl (n_inc i 1) (by decide) rfl (fun ls hl => ?_)
            refine lv_goto (pc := 86) (tgt := 9) hx hb dX9_followers_86 (by decide) ?_
            exact ih9 (i + 1) (k + 1) (vp_updL g k (lsc c r (w ||| (b1 i)))) (by first | assumption | omega) (by first | assumption | omega) (by rw [fol_n c25 (by rw [← hset]; exact hfo), ← hk]) (fun x => fol_s2 c25 hset x) (by omega) _ _ hP hD hS _ (lv_sub hl [2, 1, 0] rfl)
          refine lv_iinc (pc := 64) (v := nI (j + 1)) (lv' := [(3, .int (nI (j + 1))), (0, .ref mo), (1, .int (nI k)), (2, .int (nI i))]) hx hb dX9_followers_64 hl (k := 3) rfl (n_inc j 1) (by decide) rfl (fun ls hl => ?_)
          refine lv_goto (pc := 67) (tgt := 48) hx hb dX9_followers_67 (by decide) ?_
          exact ih48 (j + 1) (by have : j ≠ k := fun e => c61 (by rw [e, pk_uLs]); omega) (lt_s hno (by rw [pk_uLn (fun e => c61 (by rw [e, pk_uLs]))] at c61; exact c61)) (by omega) _ _ hP hD hS _ (lv_sub hl [1, 2, 3, 0] rfl)
      exact L48 ((k + 1 - 0) + 1) 0 (Nat.zero_le _) (fun a h => absurd h (Nat.not_lt_zero _)) (Nat.lt_succ_self _) _ _ hP hD hS _ (lv_sub hl [1, 2, 3, 0] rfl)
  exact L9 ((al c r - 0) + 1) 0 0 cd (by first | assumption | omega) (by first | assumption | omega) (rfl) (fun x => rfl) (Nat.lt_succ_self _) _ _ hP hD hS _ (lv_sub hl [2, 1, 0] rfl)
