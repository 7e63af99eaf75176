set_option maxHeartbeats 1200000 in
set_option maxRecDepth 100000 in
theorem c_X0_sidesOf_u (l : Launch) (D : va_G) (Y : vY) (bd : Nat) (bs : Nat) (bf : Nat) (bg : Nat) (k0 : Nat) (k1 : Nat) (k2 : Nat) (k3 : Nat) (sd : Nat → Int64) (b : Nat) (hb16 : b < 16) : Ro l yX0_sidesOf wsX0_sidesOf ({ frames := 1, cells := 0, slots := 0, locals := 21 } : Room) [.ref bd, .int (nI b)] D Y [(bd, .inr (0, [.int (nI k0), .int (nI k1), .int (nI k2), .int (nI k3), .ref bs, .ref bf, .ref bg])), (bs, .inl (Y.2.1, 16, .inr (.inl sd)))] (some (.long (sd b))) := by
  refine ro_intro (by decide +kernel) rfl (Nat.le_of_ble_eq_true rfl) [(0, .ref bd), (1, .int (nI b))] rfl ?_
  intro pG eG sG mG aG bG tG cG ls hx hb hr hml hts hown hlocks hK hP hl
  have hP : va_P D vwCl [(bd, .inr (0, [.int (nI k0), .int (nI k1), .int (nI k2), .int (nI k3), .ref bs, .ref bf, .ref bg])), (bs, .inl (Y.2.1, 16, .inr (.inl sd)))] sG.heap := hP
  have hown : sG.vm.findClass RX0 = some mG.cls := hown
  have hl : lv_has ls 2 [(0, .ref bd), (1, .int (nI b))] := hl
  have hinX0 : ∀ w ∈ u_ws RX0 TX0 7, w ∈ wsX0_sidesOf := by decide +kernel
  refine lv_aload_n (pc := 0) hx hb dX0_sidesOf_0 rfl (lv_at hl 0 rfl) ?_
  refine va_get (pc := 1) (D := D) (ci := 0) (v := .ref bs) (C := RX0) (T := TX0) (N := 7) hx hb hts hinX0 hown hK.1 hP 0 rfl rfl 4 (by decide) (hts (.fieldLink RX0 9 "BoxesGame$Board" "sides" "[J") (List.mem_of_getElem? (i := 1) rfl)) (fun _ h9 => h9) rfl dX0_sidesOf_1 ?_
  refine lv_iload_n (pc := 4) hx hb dX0_sidesOf_4 rfl (lv_at hl 1 rfl) ?_
  refine ro_go (pc := 5) (va_runS (As := [.ref bs, .int (nI b)]) (rest := []) ⟨hx, hb, hml, hown, hts⟩ (c_X3_at__in l D Y 16 sd bs b (by decide) (hb16)) (va_cwS 2 hts gX0_sidesOf_X3_at_ rfl rfl rfl hdX3_at_ ⟨Nat.le_of_ble_eq_true rfl, Nat.le_of_ble_eq_true rfl⟩) (ro_pS hK (hP.sub [1] rfl)) rfl rfl hl.1 rfl (lv_room (Nat.le_of_ble_eq_true rfl)) dX0_sidesOf_5 ⟨Nat.le_of_ble_eq_true rfl, Nat.le_of_ble_eq_true rfl⟩) ?_
  exact ro_lret (v := sd b) hx hb hr hlocks (rfl) dX0_sidesOf_8

set_option maxHeartbeats 1200000 in
set_option maxRecDepth 100000 in
theorem c_X0_firstBox_u (l : Launch) (D : va_G) (Y : vY) (bd : Nat) (bs : Nat) (bf : Nat) (bg : Nat) (k0 : Nat) (k1 : Nat) (k2 : Nat) (k3 : Nat) (fb : Nat → Int32) (li : Nat) (hl40 : li < 40) : Ro l yX0_firstBox wsX0_firstBox ({ frames := 1, cells := 0, slots := 0, locals := 21 } : Room) [.ref bd, .int (nI li)] D Y [(bd, .inr (0, [.int (nI k0), .int (nI k1), .int (nI k2), .int (nI k3), .ref bs, .ref bf, .ref bg])), (bf, .inl (Y.1, 40, .inl fb))] (some (.int (fb li))) := by
  refine ro_intro (by decide +kernel) rfl (Nat.le_of_ble_eq_true rfl) [(0, .ref bd), (1, .int (nI li))] rfl ?_
  intro pG eG sG mG aG bG tG cG ls hx hb hr hml hts hown hlocks hK hP hl
  have hP : va_P D vwCl [(bd, .inr (0, [.int (nI k0), .int (nI k1), .int (nI k2), .int (nI k3), .ref bs, .ref bf, .ref bg])), (bf, .inl (Y.1, 40, .inl fb))] sG.heap := hP
  have hown : sG.vm.findClass RX0 = some mG.cls := hown
  have hl : lv_has ls 2 [(0, .ref bd), (1, .int (nI li))] := hl
  have hinX0 : ∀ w ∈ u_ws RX0 TX0 7, w ∈ wsX0_firstBox := by decide +kernel
  refine lv_aload_n (pc := 0) hx hb dX0_firstBox_0 rfl (lv_at hl 0 rfl) ?_
  refine va_get (pc := 1) (D := D) (ci := 0) (v := .ref bf) (C := RX0) (T := TX0) (N := 7) hx hb hts hinX0 hown hK.1 hP 0 rfl rfl 5 (by decide) (hts (.fieldLink RX0 15 "BoxesGame$Board" "firstBoxes" "[I") (List.mem_of_getElem? (i := 1) rfl)) (fun _ h9 => h9) rfl dX0_firstBox_1 ?_
  refine lv_iload_n (pc := 4) hx hb dX0_firstBox_4 rfl (lv_at hl 1 rfl) ?_
  refine ro_go (pc := 5) (va_runS (As := [.ref bf, .int (nI li)]) (rest := []) ⟨hx, hb, hml, hown, hts⟩ (c_X3_at_in l D Y 40 fb bf li (by decide) (hl40)) (va_cwS 2 hts gX0_firstBox_X3_at rfl rfl rfl hdX3_at ⟨Nat.le_of_ble_eq_true rfl, Nat.le_of_ble_eq_true rfl⟩) (ro_pS hK (hP.sub [1] rfl)) rfl rfl hl.1 rfl (lv_room (Nat.le_of_ble_eq_true rfl)) dX0_firstBox_5 ⟨Nat.le_of_ble_eq_true rfl, Nat.le_of_ble_eq_true rfl⟩) ?_
  exact ro_iret (v := fb li) hx hb hr hlocks (rfl) dX0_firstBox_8

set_option maxHeartbeats 1200000 in
set_option maxRecDepth 100000 in
theorem c_X0_numberOf_u (l : Launch) (D : va_G) (Y : vY) (bd : Nat) (bs : Nat) (bf : Nat) (bg : Nat) (k2 : Nat) (k3 : Nat) (c : Nat) (r : Nat) (v : Bool) (x : Int32) (y : Int32) (hC : Cr c r) : Ro l yX0_numberOf wsX0_numberOf ({ frames := 0, cells := 0, slots := 0, locals := 0 } : Room) [.ref bd, .int (zb v), .int x, .int y] D Y [(bd, .inr (0, [.int (nI c), .int (nI r), .int (nI k2), .int (nI k3), .ref bs, .ref bf, .ref bg]))] (some (.int (numI c r v x y))) := by
  refine ro_intro (by decide +kernel) rfl (Nat.le_of_ble_eq_true rfl) [(0, .ref bd), (1, .int (zb v)), (2, .int x), (3, .int y)] rfl ?_
  intro pG eG sG mG aG bG tG cG ls hx hb hr hml hts hown hlocks hK hP hl
  have hP : va_P D vwCl [(bd, .inr (0, [.int (nI c), .int (nI r), .int (nI k2), .int (nI k3), .ref bs, .ref bf, .ref bg]))] sG.heap := hP
  have hown : sG.vm.findClass RX0 = some mG.cls := hown
  have hl : lv_has ls 7 [(0, .ref bd), (1, .int (zb v)), (2, .int x), (3, .int y)] := hl
  have hinX0 : ∀ w ∈ u_ws RX0 TX0 7, w ∈ wsX0_numberOf := by decide +kernel
  obtain ⟨hq1, hq2, hq3, hq4, hq5, hq6, hq7, hq8, hq9, hq10, hq11⟩ := hC.q
  refine lv_iload_n (pc := 0) hx hb dX0_numberOf_0 rfl (lv_at hl 1 rfl) ?_
  refine z_if_eq (pc := 1) (tgt := 13) hx hb dX0_numberOf_1 (by decide) (fun c1 => ?_) (fun c1 => ?_)
  · subst c1
    refine lv_aload_n (pc := 13) hx hb dX0_numberOf_13 rfl (lv_at hl 0 rfl) ?_
    refine va_get (pc := 14) (D := D) (ci := 0) (v := .int (nI c)) (C := RX0) (T := TX0) (N := 7) hx hb hts hinX0 hown hK.1 hP 0 rfl rfl 0 (by decide) (hts (.fieldLink RX0 22 "BoxesGame$Board" "columns" "I") (List.mem_of_getElem? (i := 1) rfl)) (fun _ h9 => h9) rfl dX0_numberOf_14 ?_
    refine lv_istore (pc := 17) (lv' := [(4, .int (nI c)), (0, .ref bd), (1, .int (zb false)), (2, .int x), (3, .int y)]) hx hb dX0_numberOf_17 hl (by decide) rfl (fun ls hl => ?_)
    refine lv_iload_n (pc := 19) hx hb dX0_numberOf_19 rfl (lv_at hl 2 rfl) ?_
    refine z_if_eq (pc := 20) (tgt := 30) hx hb dX0_numberOf_20 (by decide) (fun c20 => ?_) (fun c20 => ?_)
    · refine lv_aload_n (pc := 30) hx hb dX0_numberOf_30 rfl (lv_at hl 1 rfl) ?_
      refine va_get (pc := 31) (D := D) (ci := 0) (v := .int (nI r)) (C := RX0) (T := TX0) (N := 7) hx hb hts hinX0 hown hK.1 hP 0 rfl rfl 1 (by decide) (hts (.fieldLink RX0 26 "BoxesGame$Board" "rows" "I") (List.mem_of_getElem? (i := 2) rfl)) (fun _ h9 => h9) rfl dX0_numberOf_31 ?_
      refine lv_iconst (pc := 34) (v := nI 1) hx hb dX0_numberOf_34 rfl ?_
      refine n_iadd (pc := 35) hx hb dX0_numberOf_35 ?_
      refine lv_istore (pc := 36) (lv' := [(5, .int (nI (r + 1))), (4, .int (nI c)), (0, .ref bd), (1, .int (zb false)), (2, .int x), (3, .int y)]) hx hb dX0_numberOf_36 hl (by decide) rfl (fun ls hl => ?_)
      refine lv_iload_n (pc := 38) hx hb dX0_numberOf_38 rfl (lv_at hl 4 rfl) ?_
      refine lv_if_lt (pc := 39) (tgt := 58) hx hb dX0_numberOf_39 (by decide) (fun c39 => ?_) (fun c39 => ?_)
      · refine lv_iconst (pc := 58) (v := (-1)) hx hb dX0_numberOf_58 (by decide) ?_
        exact ro_iret (v := (-1)) hx hb hr hlocks (numI_no (exM_f0 hC (Or.inl (Or.inl c39)))) dX0_numberOf_59
      refine lv_iload_n (pc := 42) hx hb dX0_numberOf_42 rfl (lv_at hl 4 rfl) ?_
      refine lv_iload (pc := 43) hx hb dX0_numberOf_43 (lv_at hl 1 rfl) ?_
      refine lv_icmp_ge (pc := 45) (tgt := 58) hx hb dX0_numberOf_45 (by decide) (fun c45 => ?_) (fun c45 => ?_)
      · refine lv_iconst (pc := 58) (v := (-1)) hx hb dX0_numberOf_58 (by decide) ?_
        exact ro_iret (v := (-1)) hx hb hr hlocks (numI_no (exM_f0 hC (Or.inl (Or.inr c45)))) dX0_numberOf_59
      refine lv_iload_n (pc := 48) hx hb dX0_numberOf_48 rfl (lv_at hl 5 rfl) ?_
      refine lv_if_lt (pc := 49) (tgt := 58) hx hb dX0_numberOf_49 (by decide) (fun c49 => ?_) (fun c49 => ?_)
      · refine lv_iconst (pc := 58) (v := (-1)) hx hb dX0_numberOf_58 (by decide) ?_
        exact ro_iret (v := (-1)) hx hb hr hlocks (numI_no (exM_f0 hC (Or.inr (Or.inl c49)))) dX0_numberOf_59
      refine lv_iload_n (pc := 52) hx hb dX0_numberOf_52 rfl (lv_at hl 5 rfl) ?_
      refine lv_iload (pc := 53) hx hb dX0_numberOf_53 (lv_at hl 0 rfl) ?_
      refine lv_icmp_lt (pc := 55) (tgt := 60) hx hb dX0_numberOf_55 (by decide) (fun c55 => ?_) (fun c55 => ?_)
      · obtain ⟨jx, hjx, rfl⟩ := nI_of c39
        obtain ⟨jy, hjy, rfl⟩ := nI_of c49
        have hjx2 := Nat.lt_of_not_le (fun q => c45 (nI_le q hjx))
        have hjy2 := (nI_ltI hjy (by omega)).mp c55
        have hl : lv_has ls 7 [(5, .int (nI (r + 1))), (4, .int (nI c)), (0, .ref bd), (1, .int (zb false)), (2, .int (nI jx)), (3, .int (nI jy))] := hl
        refine lv_iload_n (pc := 60) hx hb dX0_numberOf_60 rfl (lv_at hl 3 rfl) ?_
        refine z_if_eq (pc := 61) (tgt := 78) hx hb dX0_numberOf_61 (by decide) (fun c61 => ?_) (fun c61 => ?_)
        · refine lv_iconst (pc := 78) (v := nI 0) hx hb dX0_numberOf_78 rfl ?_
          refine lv_istore (pc := 79) (lv' := [(6, .int (nI 0)), (5, .int (nI (r + 1))), (4, .int (nI c)), (0, .ref bd), (1, .int (zb false)), (2, .int (nI jx)), (3, .int (nI jy))]) hx hb dX0_numberOf_79 hl (by decide) rfl (fun ls hl => ?_)
          refine lv_iload (pc := 81) hx hb dX0_numberOf_81 (lv_at hl 0 rfl) ?_
          refine lv_iload_n (pc := 83) hx hb dX0_numberOf_83 rfl (lv_at hl 6 rfl) ?_
          refine lv_iload (pc := 84) hx hb dX0_numberOf_84 (lv_at hl 2 rfl) ?_
          refine n_imul (pc := 86) hx hb dX0_numberOf_86 ?_
          refine n_iadd (pc := 87) hx hb dX0_numberOf_87 ?_
          refine lv_iload_n (pc := 88) hx hb dX0_numberOf_88 rfl (lv_at hl 5 rfl) ?_
          refine n_iadd (pc := 89) hx hb dX0_numberOf_89 ?_
          exact ro_iret (v := nI ((0 + (jy * c)) + jx)) hx hb hr hlocks (by rw [numI_nat (v := false) hC hjx2 hjy2]; unfold numM; congr 1; simp) dX0_numberOf_90
        · exact absurd c61 (by decide)
      refine lv_iconst (pc := 58) (v := (-1)) hx hb dX0_numberOf_58 (by decide) ?_
      exact ro_iret (v := (-1)) hx hb hr hlocks (numI_no (exM_f0 hC (Or.inr (Or.inr (Int32.not_lt.mp c55))))) dX0_numberOf_59
    · exact absurd c20 (by decide)
  subst c1
  refine lv_aload_n (pc := 4) hx hb dX0_numberOf_4 rfl (lv_at hl 0 rfl) ?_
  refine va_get (pc := 5) (D := D) (ci := 0) (v := .int (nI c)) (C := RX0) (T := TX0) (N := 7) hx hb hts hinX0 hown hK.1 hP 0 rfl rfl 0 (by decide) (hts (.fieldLink RX0 22 "BoxesGame$Board" "columns" "I") (List.mem_of_getElem? (i := 1) rfl)) (fun _ h9 => h9) rfl dX0_numberOf_5 ?_
  refine lv_iconst (pc := 8) (v := nI 1) hx hb dX0_numberOf_8 rfl ?_
  refine n_iadd (pc := 9) hx hb dX0_numberOf_9 ?_
  refine lv_goto (pc := 10) (tgt := 17) hx hb dX0_numberOf_10 (by decide) ?_
  refine lv_istore (pc := 17) (lv' := [(4, .int (nI (c + 1))), (0, .ref bd), (1, .int (zb true)), (2, .int x), (3, .int y)]) hx hb dX0_numberOf_17 hl (by decide) rfl (fun ls hl => ?_)
  refine lv_iload_n (pc := 19) hx hb dX0_numberOf_19 rfl (lv_at hl 2 rfl) ?_
  refine z_if_eq (pc := 20) (tgt := 30) hx hb dX0_numberOf_20 (by decide) (fun c20 => ?_) (fun c20 => ?_)
  · exact absurd c20 (by decide)
  refine lv_aload_n (pc := 23) hx hb dX0_numberOf_23 rfl (lv_at hl 1 rfl) ?_
  refine va_get (pc := 24) (D := D) (ci := 0) (v := .int (nI r)) (C := RX0) (T := TX0) (N := 7) hx hb hts hinX0 hown hK.1 hP 0 rfl rfl 1 (by decide) (hts (.fieldLink RX0 26 "BoxesGame$Board" "rows" "I") (List.mem_of_getElem? (i := 2) rfl)) (fun _ h9 => h9) rfl dX0_numberOf_24 ?_
  refine lv_goto (pc := 27) (tgt := 36) hx hb dX0_numberOf_27 (by decide) ?_
  refine lv_istore (pc := 36) (lv' := [(5, .int (nI r)), (4, .int (nI (c + 1))), (0, .ref bd), (1, .int (zb true)), (2, .int x), (3, .int y)]) hx hb dX0_numberOf_36 hl (by decide) rfl (fun ls hl => ?_)
  refine lv_iload_n (pc := 38) hx hb dX0_numberOf_38 rfl (lv_at hl 4 rfl) ?_
  refine lv_if_lt (pc := 39) (tgt := 58) hx hb dX0_numberOf_39 (by decide) (fun c39 => ?_) (fun c39 => ?_)
  · refine lv_iconst (pc := 58) (v := (-1)) hx hb dX0_numberOf_58 (by decide) ?_
    exact ro_iret (v := (-1)) hx hb hr hlocks (numI_no (exM_t0 hC (Or.inl (Or.inl c39)))) dX0_numberOf_59
  refine lv_iload_n (pc := 42) hx hb dX0_numberOf_42 rfl (lv_at hl 4 rfl) ?_
  refine lv_iload (pc := 43) hx hb dX0_numberOf_43 (lv_at hl 1 rfl) ?_
  refine lv_icmp_ge (pc := 45) (tgt := 58) hx hb dX0_numberOf_45 (by decide) (fun c45 => ?_) (fun c45 => ?_)
  · refine lv_iconst (pc := 58) (v := (-1)) hx hb dX0_numberOf_58 (by decide) ?_
    exact ro_iret (v := (-1)) hx hb hr hlocks (numI_no (exM_t0 hC (Or.inl (Or.inr c45)))) dX0_numberOf_59
  refine lv_iload_n (pc := 48) hx hb dX0_numberOf_48 rfl (lv_at hl 5 rfl) ?_
  refine lv_if_lt (pc := 49) (tgt := 58) hx hb dX0_numberOf_49 (by decide) (fun c49 => ?_) (fun c49 => ?_)
  · refine lv_iconst (pc := 58) (v := (-1)) hx hb dX0_numberOf_58 (by decide) ?_
    exact ro_iret (v := (-1)) hx hb hr hlocks (numI_no (exM_t0 hC (Or.inr (Or.inl c49)))) dX0_numberOf_59
  refine lv_iload_n (pc := 52) hx hb dX0_numberOf_52 rfl (lv_at hl 5 rfl) ?_
  refine lv_iload (pc := 53) hx hb dX0_numberOf_53 (lv_at hl 0 rfl) ?_
  refine lv_icmp_lt (pc := 55) (tgt := 60) hx hb dX0_numberOf_55 (by decide) (fun c55 => ?_) (fun c55 => ?_)
  · obtain ⟨jx, hjx, rfl⟩ := nI_of c39
    obtain ⟨jy, hjy, rfl⟩ := nI_of c49
    have hjx2 := Nat.lt_of_not_le (fun q => c45 (nI_le q hjx))
    have hjy2 := (nI_ltI hjy (by omega)).mp c55
    have hl : lv_has ls 7 [(5, .int (nI r)), (4, .int (nI (c + 1))), (0, .ref bd), (1, .int (zb true)), (2, .int (nI jx)), (3, .int (nI jy))] := hl
    refine lv_iload_n (pc := 60) hx hb dX0_numberOf_60 rfl (lv_at hl 3 rfl) ?_
    refine z_if_eq (pc := 61) (tgt := 78) hx hb dX0_numberOf_61 (by decide) (fun c61 => ?_) (fun c61 => ?_)
    · exact absurd c61 (by decide)
    refine lv_aload_n (pc := 64) hx hb dX0_numberOf_64 rfl (lv_at hl 2 rfl) ?_
    refine va_get (pc := 65) (D := D) (ci := 0) (v := .int (nI c)) (C := RX0) (T := TX0) (N := 7) hx hb hts hinX0 hown hK.1 hP 0 rfl rfl 0 (by decide) (hts (.fieldLink RX0 22 "BoxesGame$Board" "columns" "I") (List.mem_of_getElem? (i := 1) rfl)) (fun _ h9 => h9) rfl dX0_numberOf_65 ?_
    refine lv_aload_n (pc := 68) hx hb dX0_numberOf_68 rfl (lv_at hl 2 rfl) ?_
    refine va_get (pc := 69) (D := D) (ci := 0) (v := .int (nI r)) (C := RX0) (T := TX0) (N := 7) hx hb hts hinX0 hown hK.1 hP 0 rfl rfl 1 (by decide) (hts (.fieldLink RX0 26 "BoxesGame$Board" "rows" "I") (List.mem_of_getElem? (i := 2) rfl)) (fun _ h9 => h9) rfl dX0_numberOf_69 ?_
    refine lv_iconst (pc := 72) (v := nI 1) hx hb dX0_numberOf_72 rfl ?_
    refine n_iadd (pc := 73) hx hb dX0_numberOf_73 ?_
    refine n_imul (pc := 74) hx hb dX0_numberOf_74 ?_
    refine lv_goto (pc := 75) (tgt := 79) hx hb dX0_numberOf_75 (by decide) ?_
    refine lv_istore (pc := 79) (lv' := [(6, .int (nI (c * (r + 1)))), (5, .int (nI r)), (4, .int (nI (c + 1))), (0, .ref bd), (1, .int (zb true)), (2, .int (nI jx)), (3, .int (nI jy))]) hx hb dX0_numberOf_79 hl (by decide) rfl (fun ls hl => ?_)
    refine lv_iload (pc := 81) hx hb dX0_numberOf_81 (lv_at hl 0 rfl) ?_
    refine lv_iload_n (pc := 83) hx hb dX0_numberOf_83 rfl (lv_at hl 6 rfl) ?_
    refine lv_iload (pc := 84) hx hb dX0_numberOf_84 (lv_at hl 2 rfl) ?_
    refine n_imul (pc := 86) hx hb dX0_numberOf_86 ?_
    refine n_iadd (pc := 87) hx hb dX0_numberOf_87 ?_
    refine lv_iload_n (pc := 88) hx hb dX0_numberOf_88 rfl (lv_at hl 5 rfl) ?_
    refine n_iadd (pc := 89) hx hb dX0_numberOf_89 ?_
    exact ro_iret (v := nI (((c * (r + 1)) + (jy * (c + 1))) + jx)) hx hb hr hlocks (by rw [numI_nat (v := true) hC hjx2 hjy2]; unfold numM lvl; congr 1; simp only [if_true]; rw [Nat.mul_comm c (r + 1)]) dX0_numberOf_90
  refine lv_iconst (pc := 58) (v := (-1)) hx hb dX0_numberOf_58 (by decide) ?_
  exact ro_iret (v := (-1)) hx hb hr hlocks (numI_no (exM_t0 hC (Or.inr (Or.inr (Int32.not_lt.mp c55))))) dX0_numberOf_59

set_option maxHeartbeats 1200000 in
set_option maxRecDepth 100000 in
theorem c_X0_addSide (l : Launch) (D : va_G) (Y : vY) (bd : Nat) (bs : Nat) (bf : Nat) (bg : Nat) (k0 : Nat) (k1 : Nat) (k2 : Nat) (k3 : Nat) (sd : Nat → Int64) (fb : Nat → Int32) (gb : Nat → Int32) (b : Nat) (li : Nat) (hb16 : b < 16) (hl40 : li < 40) : Mu l yX0_addSide wsX0_addSide ({ frames := 2, cells := 0, slots := 0, locals := 42 } : Room) [.ref bd, .int (nI b), .int (nI li)] D Y [(bd, .inr (0, [.int (nI k0), .int (nI k1), .int (nI k2), .int (nI k3), .ref bs, .ref bf, .ref bg])), (bs, .inl (Y.2.1, 16, .inr (.inl sd))), (bf, .inl (Y.1, 40, .inl fb)), (bg, .inl (Y.1, 40, .inl gb))] (fun uS : (Nat → Int64) × (Nat → Int32) × (Nat → Int32) => none) (fun uS : (Nat → Int64) × (Nat → Int32) × (Nat → Int32) => [(bd, .inr (0, [.int (nI k0), .int (nI k1), .int (nI k2), .int (nI k3), .ref bs, .ref bf, .ref bg])), (bs, .inl (Y.2.1, 16, .inr (.inl uS.1))), (bf, .inl (Y.1, 40, .inl uS.2.1)), (bg, .inl (Y.1, 40, .inl uS.2.2))]) (fun uS : (Nat → Int64) × (Nat → Int32) × (Nat → Int32) => uS.1 = vp_updL sd b (sd b ||| b1 li) ∧ AdP fb gb uS.2.1 uS.2.2 li b) := by
  refine mu_intro (by decide +kernel) rfl (Nat.le_of_ble_eq_true rfl) [(0, .ref bd), (1, .int (nI b)), (2, .int (nI li))] rfl ?_
  intro pG eG sG mG aG bG tG cG ls hx hb hr hml hts hown hlocks hK hP hD hS hl
  generalize hAA : adA [(bd, .inr (0, [.int (nI k0), .int (nI k1), .int (nI k2), .int (nI k3), .ref bs, .ref bf, .ref bg])), (bs, .inl (Y.2.1, 16, .inr (.inl sd))), (bf, .inl (Y.1, 40, .inl fb)), (bg, .inl (Y.1, 40, .inl gb))] = AA at hD hS ⊢
  have hP : va_P D vwCl [(bd, .inr (0, [.int (nI k0), .int (nI k1), .int (nI k2), .int (nI k3), .ref bs, .ref bf, .ref bg])), (bs, .inl (Y.2.1, 16, .inr (.inl sd))), (bf, .inl (Y.1, 40, .inl fb)), (bg, .inl (Y.1, 40, .inl gb))] sG.heap := hP
  have hD : va_D AA [(bd, .inr (0, [.int (nI k0), .int (nI k1), .int (nI k2), .int (nI k3), .ref bs, .ref bf, .ref bg])), (bs, .inl (Y.2.1, 16, .inr (.inl sd))), (bf, .inl (Y.1, 40, .inl fb)), (bg, .inl (Y.1, 40, .inl gb))] := hD
  have hown : sG.vm.findClass RX0 = some mG.cls := hown
  have hl : lv_has ls 3 [(0, .ref bd), (1, .int (nI b)), (2, .int (nI li))] := hl
  have hinX0 : ∀ w ∈ u_ws RX0 TX0 7, w ∈ wsX0_addSide := by decide +kernel
  have hS : va_S AA sG.heap sG.heap [] := hS
  refine lv_aload_n (pc := 0) hx hb dX0_addSide_0 rfl (lv_at hl 0 rfl) ?_
  refine va_get (pc := 1) (D := D) (ci := 0) (v := .ref bs) (C := RX0) (T := TX0) (N := 7) hx hb hts hinX0 hown hK.1 hP 0 rfl rfl 4 (by decide) (hts (.fieldLink RX0 9 "BoxesGame$Board" "sides" "[J") (List.mem_of_getElem? (i := 1) rfl)) (fun _ h9 => h9) rfl dX0_addSide_1 ?_
  refine lv_iload_n (pc := 4) hx hb dX0_addSide_4 rfl (lv_at hl 1 rfl) ?_
  refine lv_aload_n (pc := 5) hx hb dX0_addSide_5 rfl (lv_at hl 0 rfl) ?_
  refine lv_iload_n (pc := 6) hx hb dX0_addSide_6 rfl (lv_at hl 1 rfl) ?_
  refine ro_go (pc := 7) (va_runV (As := [.int (nI b)]) (rest := [.int (nI b), .ref bs]) ⟨hx, hb, hml, hown, hts⟩ (c_X0_sidesOf_u l D Y bd bs bf bg k0 k1 k2 k3 sd b (hb16)) (cwV 1 hts gX0_addSide_X0_sidesOf rfl rfl rfl ⟨rfl, hdX0_sidesOf⟩ ⟨Nat.le_of_ble_eq_true rfl, Nat.le_of_ble_eq_true rfl⟩) (ro_pV hK (hP.sub [0, 1] rfl) (ro_recv hK hP (ci := 0) (q0 := 0) rfl rfl)) rfl rfl hl.1 rfl (lv_room (Nat.le_of_ble_eq_true rfl)) dX0_addSide_7 ⟨Nat.le_of_ble_eq_true rfl, Nat.le_of_ble_eq_true rfl⟩) ?_
  refine lv_iload_n (pc := 10) hx hb dX0_addSide_10 rfl (lv_at hl 2 rfl) ?_
  refine ro_go (pc := 11) (va_runSN (As := [.int (nI li)]) (rest := [.long (sd b), .int (nI b), .ref bs]) ⟨hx, hb, hml, hown, hts⟩ (c_X8_bit_in l D Y li (by omega)) (⟨va_cnB 1 hts ggX0_addSide_X8_bit rfl rfl rfl (hK.nest 1 rfl) (hts (.initialized RX8) (List.mem_of_getElem? (i := 14) rfl)) hdX8_bit ⟨Nat.le_of_ble_eq_true rfl, Nat.le_of_ble_eq_true rfl⟩, hts (.static yX8_bit) (List.mem_of_getElem? (i := 13) rfl), trivial⟩) (ro_pS hK (hP.sub [] rfl)) rfl rfl hl.1 rfl (lv_room (Nat.le_of_ble_eq_true rfl)) dX0_addSide_11 ⟨Nat.le_of_ble_eq_true rfl, Nat.le_of_ble_eq_true rfl⟩) ?_
  refine lv_lor (pc := 14) hx hb dX0_addSide_14 ?_
  refine mu_go (pc := 15) (va_runS (As := [.ref bs, .int (nI b), .long ((sd b) ||| (b1 li))]) (rest := []) ⟨hx, hb, hml, hown, hts⟩ (c_X3_put__in l D Y 16 sd bs b ((sd b) ||| (b1 li)) (by decide) (hb16)) (va_cwS 3 hts gX0_addSide_X3_put_ rfl rfl rfl hdX3_put_ ⟨Nat.le_of_ble_eq_true rfl, Nat.le_of_ble_eq_true rfl⟩) (mu_pS hK (hP.sub [1] rfl) (hD.sub [1] (by decide) rfl)) rfl rfl hl.1 rfl (lv_room (Nat.le_of_ble_eq_true rfl)) dX0_addSide_15 ⟨Nat.le_of_ble_eq_true rfl, Nat.le_of_ble_eq_true rfl⟩) hP hD hS [1] rfl (by decide) (fun _ => [(bd, .inr (0, [.int (nI k0), .int (nI k1), .int (nI k2), .int (nI k3), .ref bs, .ref bf, .ref bg])), (bs, .inl (Y.2.1, 16, .inr (.inl (vp_updL sd b ((sd b) ||| (b1 li)))))), (bf, .inl (Y.1, 40, .inl fb)), (bg, .inl (Y.1, 40, .inl gb))]) (fun _ => rfl) (fun _ => rfl) (fun uS H locs hpost hP hD hS => ?_)
  have hP : va_P D vwCl [(bd, .inr (0, [.int (nI k0), .int (nI k1), .int (nI k2), .int (nI k3), .ref bs, .ref bf, .ref bg])), (bs, .inl (Y.2.1, 16, .inr (.inl (vp_updL sd b ((sd b) ||| (b1 li)))))), (bf, .inl (Y.1, 40, .inl fb)), (bg, .inl (Y.1, 40, .inl gb))] H := hP
  have hD : va_D AA [(bd, .inr (0, [.int (nI k0), .int (nI k1), .int (nI k2), .int (nI k3), .ref bs, .ref bf, .ref bg])), (bs, .inl (Y.2.1, 16, .inr (.inl (vp_updL sd b ((sd b) ||| (b1 li)))))), (bf, .inl (Y.1, 40, .inl fb)), (bg, .inl (Y.1, 40, .inl gb))] := hD
  refine lv_aload_n (pc := 18) hx hb dX0_addSide_18 rfl (lv_at hl 0 rfl) ?_
  refine lv_iload_n (pc := 19) hx hb dX0_addSide_19 rfl (lv_at hl 2 rfl) ?_
  refine ro_go (pc := 20) (va_runV (As := [.int (nI li)]) (rest := []) ⟨hx, hb, hml, hown, hts⟩ (c_X0_firstBox_u l D Y bd bs bf bg k0 k1 k2 k3 fb li (hl40)) (cwV 1 hts gX0_addSide_X0_firstBox rfl rfl rfl ⟨rfl, hdX0_firstBox⟩ ⟨Nat.le_of_ble_eq_true rfl, Nat.le_of_ble_eq_true rfl⟩) (ro_pV hK (hP.sub [0, 2] rfl) (ro_recv hK hP (ci := 0) (q0 := 0) rfl rfl)) rfl rfl hl.1 rfl (lv_room (Nat.le_of_ble_eq_true rfl)) dX0_addSide_20 ⟨Nat.le_of_ble_eq_true rfl, Nat.le_of_ble_eq_true rfl⟩) ?_
  refine lv_iconst (pc := 23) (v := (-1)) hx hb dX0_addSide_23 (by decide) ?_
  refine lv_icmp_ne (pc := 24) (tgt := 39) hx hb dX0_addSide_24 (by decide) (fun c24 => ?_) (fun c24 => ?_)
  · refine lv_aload_n (pc := 39) hx hb dX0_addSide_39 rfl (lv_at hl 0 rfl) ?_
    refine va_get (pc := 40) (D := D) (ci := 0) (v := .ref bg) (C := RX0) (T := TX0) (N := 7) hx hb hts hinX0 hown hK.1 hP 0 rfl rfl 6 (by decide) (hts (.fieldLink RX0 19 "BoxesGame$Board" "secondBoxes" "[I") (List.mem_of_getElem? (i := 3) rfl)) (fun _ h9 => h9) rfl dX0_addSide_40 ?_
    refine lv_iload_n (pc := 43) hx hb dX0_addSide_43 rfl (lv_at hl 2 rfl) ?_
    refine lv_iload_n (pc := 44) hx hb dX0_addSide_44 rfl (lv_at hl 1 rfl) ?_
    refine mu_go (pc := 45) (va_runS (As := [.ref bg, .int (nI li), .int (nI b)]) (rest := []) ⟨hx, hb, hml, hown, hts⟩ (c_X3_put_in l D Y 40 gb bg li (nI b) (by decide) (hl40)) (va_cwS 3 hts gX0_addSide_X3_put rfl rfl rfl hdX3_put ⟨Nat.le_of_ble_eq_true rfl, Nat.le_of_ble_eq_true rfl⟩) (mu_pS hK (hP.sub [3] rfl) (hD.sub [3] (by decide) rfl)) rfl rfl hl.1 rfl (lv_room (Nat.le_of_ble_eq_true rfl)) dX0_addSide_45 ⟨Nat.le_of_ble_eq_true rfl, Nat.le_of_ble_eq_true rfl⟩) hP hD hS [3] rfl (by decide) (fun _ => [(bd, .inr (0, [.int (nI k0), .int (nI k1), .int (nI k2), .int (nI k3), .ref bs, .ref bf, .ref bg])), (bs, .inl (Y.2.1, 16, .inr (.inl (vp_updL sd b ((sd b) ||| (b1 li)))))), (bf, .inl (Y.1, 40, .inl fb)), (bg, .inl (Y.1, 40, .inl (upd gb li (nI b))))]) (fun _ => rfl) (fun _ => rfl) (fun uS H locs hpost hP hD hS => ?_)
    have hP : va_P D vwCl [(bd, .inr (0, [.int (nI k0), .int (nI k1), .int (nI k2), .int (nI k3), .ref bs, .ref bf, .ref bg])), (bs, .inl (Y.2.1, 16, .inr (.inl (vp_updL sd b ((sd b) ||| (b1 li)))))), (bf, .inl (Y.1, 40, .inl fb)), (bg, .inl (Y.1, 40, .inl (upd gb li (nI b))))] H := hP
    have hD : va_D AA [(bd, .inr (0, [.int (nI k0), .int (nI k1), .int (nI k2), .int (nI k3), .ref bs, .ref bf, .ref bg])), (bs, .inl (Y.2.1, 16, .inr (.inl (vp_updL sd b ((sd b) ||| (b1 li)))))), (bf, .inl (Y.1, 40, .inl fb)), (bg, .inl (Y.1, 40, .inl (upd gb li (nI b))))] := hD
    subst hAA
    exact mu_vret hx hb hr hlocks hP hS (⟨_, _, _⟩) (rfl) (⟨rfl, Or.inr ⟨c24, rfl, rfl⟩⟩) (rfl) dX0_addSide_48
  refine lv_aload_n (pc := 27) hx hb dX0_addSide_27 rfl (lv_at hl 0 rfl) ?_
  refine va_get (pc := 28) (D := D) (ci := 0) (v := .ref bf) (C := RX0) (T := TX0) (N := 7) hx hb hts hinX0 hown hK.1 hP 0 rfl rfl 5 (by decide) (hts (.fieldLink RX0 15 "BoxesGame$Board" "firstBoxes" "[I") (List.mem_of_getElem? (i := 2) rfl)) (fun _ h9 => h9) rfl dX0_addSide_28 ?_
  refine lv_iload_n (pc := 31) hx hb dX0_addSide_31 rfl (lv_at hl 2 rfl) ?_
  refine lv_iload_n (pc := 32) hx hb dX0_addSide_32 rfl (lv_at hl 1 rfl) ?_
  refine mu_go (pc := 33) (va_runS (As := [.ref bf, .int (nI li), .int (nI b)]) (rest := []) ⟨hx, hb, hml, hown, hts⟩ (c_X3_put_in l D Y 40 fb bf li (nI b) (by decide) (hl40)) (va_cwS 3 hts gX0_addSide_X3_put rfl rfl rfl hdX3_put ⟨Nat.le_of_ble_eq_true rfl, Nat.le_of_ble_eq_true rfl⟩) (mu_pS hK (hP.sub [2] rfl) (hD.sub [2] (by decide) rfl)) rfl rfl hl.1 rfl (lv_room (Nat.le_of_ble_eq_true rfl)) dX0_addSide_33 ⟨Nat.le_of_ble_eq_true rfl, Nat.le_of_ble_eq_true rfl⟩) hP hD hS [2] rfl (by decide) (fun _ => [(bd, .inr (0, [.int (nI k0), .int (nI k1), .int (nI k2), .int (nI k3), .ref bs, .ref bf, .ref bg])), (bs, .inl (Y.2.1, 16, .inr (.inl (vp_updL sd b ((sd b) ||| (b1 li)))))), (bf, .inl (Y.1, 40, .inl (upd fb li (nI b)))), (bg, .inl (Y.1, 40, .inl gb))]) (fun _ => rfl) (fun _ => rfl) (fun uS H locs hpost hP hD hS => ?_)
  have hP : va_P D vwCl [(bd, .inr (0, [.int (nI k0), .int (nI k1), .int (nI k2), .int (nI k3), .ref bs, .ref bf, .ref bg])), (bs, .inl (Y.2.1, 16, .inr (.inl (vp_updL sd b ((sd b) ||| (b1 li)))))), (bf, .inl (Y.1, 40, .inl (upd fb li (nI b)))), (bg, .inl (Y.1, 40, .inl gb))] H := hP
  have hD : va_D AA [(bd, .inr (0, [.int (nI k0), .int (nI k1), .int (nI k2), .int (nI k3), .ref bs, .ref bf, .ref bg])), (bs, .inl (Y.2.1, 16, .inr (.inl (vp_updL sd b ((sd b) ||| (b1 li)))))), (bf, .inl (Y.1, 40, .inl (upd fb li (nI b)))), (bg, .inl (Y.1, 40, .inl gb))] := hD
  refine lv_goto (pc := 36) (tgt := 48) hx hb dX0_addSide_36 (by decide) ?_
  subst hAA
  exact mu_vret hx hb hr hlocks hP hS (⟨_, _, _⟩) (rfl) (⟨rfl, Or.inl ⟨c24, rfl, rfl⟩⟩) (rfl) dX0_addSide_48

set_option maxHeartbeats 4000000 in
set_option maxRecDepth 100000 in
theorem c_X0_setUp (l : Launch) (D : va_G) (Y : vY) (bd : Nat) (bs : Nat) (bf : Nat) (bg : Nat) (k0 : Nat) (k1 : Nat) (k2 : Nat) (k3 : Nat) (sd : Nat → Int64) (fb : Nat → Int32) (gb : Nat → Int32) (c : Nat) (r : Nat) (hC : Cr c r) : Mu l yX0_setUp wsX0_setUp ({ frames := 3, cells := 0, slots := 0, locals := 64 } : Room) [.ref bd, .int (nI c), .int (nI r)] D Y [(bd, .inr (0, [.int (nI k0), .int (nI k1), .int (nI k2), .int (nI k3), .ref bs, .ref bf, .ref bg])), (bs, .inl (Y.2.1, 16, .inr (.inl sd))), (bf, .inl (Y.1, 40, .inl fb)), (bg, .inl (Y.1, 40, .inl gb))] (fun uS : (Nat → Int64) × (Nat → Int32) × (Nat → Int32) => none) (fun uS : (Nat → Int64) × (Nat → Int32) × (Nat → Int32) => [(bd, .inr (0, [.int (nI c), .int (nI r), .int (nI (al c r)), .int (nI (c * r)), .ref bs, .ref bf, .ref bg])), (bs, .inl (Y.2.1, 16, .inr (.inl uS.1))), (bf, .inl (Y.1, 40, .inl uS.2.1)), (bg, .inl (Y.1, 40, .inl uS.2.2))]) (fun uS : (Nat → Int64) × (Nat → Int32) × (Nat → Int32) => BdOK c r uS.1 uS.2.1 uS.2.2) := by
  refine mu_intro (by decide +kernel) rfl (Nat.le_of_ble_eq_true rfl) [(0, .ref bd), (1, .int (nI c)), (2, .int (nI r))] rfl ?_
  intro pG eG sG mG aG bG tG cG ls hx hb hr hml hts hown hlocks hK hP hD hS hl
  generalize hAA : adA [(bd, .inr (0, [.int (nI k0), .int (nI k1), .int (nI k2), .int (nI k3), .ref bs, .ref bf, .ref bg])), (bs, .inl (Y.2.1, 16, .inr (.inl sd))), (bf, .inl (Y.1, 40, .inl fb)), (bg, .inl (Y.1, 40, .inl gb))] = AA at hD hS ⊢
  have hP : va_P D vwCl [(bd, .inr (0, [.int (nI k0), .int (nI k1), .int (nI k2), .int (nI k3), .ref bs, .ref bf, .ref bg])), (bs, .inl (Y.2.1, 16, .inr (.inl sd))), (bf, .inl (Y.1, 40, .inl fb)), (bg, .inl (Y.1, 40, .inl gb))] sG.heap := hP
  have hD : va_D AA [(bd, .inr (0, [.int (nI k0), .int (nI k1), .int (nI k2), .int (nI k3), .ref bs, .ref bf, .ref bg])), (bs, .inl (Y.2.1, 16, .inr (.inl sd))), (bf, .inl (Y.1, 40, .inl fb)), (bg, .inl (Y.1, 40, .inl gb))] := hD
  have hown : sG.vm.findClass RX0 = some mG.cls := hown
  have hl : lv_has ls 6 [(0, .ref bd), (1, .int (nI c)), (2, .int (nI r))] := hl
  have hinX0 : ∀ w ∈ u_ws RX0 TX0 7, w ∈ wsX0_setUp := by decide +kernel
  have hS : va_S AA sG.heap sG.heap [] := hS
  obtain ⟨hq1, hq2, hq3, hq4, hq5, hq6, hq7, hq8, hq9, hq10, hq11⟩ := hC.q
  refine lv_aload_n (pc := 0) hx hb dX0_setUp_0 rfl (lv_at hl 0 rfl) ?_
  refine lv_iload_n (pc := 1) hx hb dX0_setUp_1 rfl (lv_at hl 1 rfl) ?_
  refine va_put (pc := 2) (D := D) (ci := 0) (v := .int (nI c)) (ty := .int) (C := RX0) (T := TX0) (N := 7) hx hb hts hinX0 tyX0 tyX0_ok nmX0 hown hK.1 hP hD hS 0 rfl rfl 0 (by decide) (hts (.fieldLink RX0 22 "BoxesGame$Board" "columns" "I") (List.mem_of_getElem? (i := 1) rfl)) (fun _ h9 => h9) rfl (by decide +kernel) (rfl) (rfl) (Nat.le_of_ble_eq_true rfl) dX0_setUp_2 (fun H locs hP hD hS => ?_)
  have hP : va_P D vwCl [(bd, .inr (0, [.int (nI c), .int (nI k1), .int (nI k2), .int (nI k3), .ref bs, .ref bf, .ref bg])), (bs, .inl (Y.2.1, 16, .inr (.inl sd))), (bf, .inl (Y.1, 40, .inl fb)), (bg, .inl (Y.1, 40, .inl gb))] H := hP
  have hD : va_D AA [(bd, .inr (0, [.int (nI c), .int (nI k1), .int (nI k2), .int (nI k3), .ref bs, .ref bf, .ref bg])), (bs, .inl (Y.2.1, 16, .inr (.inl sd))), (bf, .inl (Y.1, 40, .inl fb)), (bg, .inl (Y.1, 40, .inl gb))] := hD
  refine lv_aload_n (pc := 5) hx hb dX0_setUp_5 rfl (lv_at hl 0 rfl) ?_
  refine lv_iload_n (pc := 6) hx hb dX0_setUp_6 rfl (lv_at hl 2 rfl) ?_
  refine va_put (pc := 7) (D := D) (ci := 0) (v := .int (nI r)) (ty := .int) (C := RX0) (T := TX0) (N := 7) hx hb hts hinX0 tyX0 tyX0_ok nmX0 hown hK.1 hP hD hS 0 rfl rfl 1 (by decide) (hts (.fieldLink RX0 26 "BoxesGame$Board" "rows" "I") (List.mem_of_getElem? (i := 2) rfl)) (fun _ h9 => h9) rfl (by decide +kernel) (rfl) (rfl) (Nat.le_of_ble_eq_true rfl) dX0_setUp_7 (fun H locs hP hD hS => ?_)
  have hP : va_P D vwCl [(bd, .inr (0, [.int (nI c), .int (nI r), .int (nI k2), .int (nI k3), .ref bs, .ref bf, .ref bg])), (bs, .inl (Y.2.1, 16, .inr (.inl sd))), (bf, .inl (Y.1, 40, .inl fb)), (bg, .inl (Y.1, 40, .inl gb))] H := hP
  have hD : va_D AA [(bd, .inr (0, [.int (nI c), .int (nI r), .int (nI k2), .int (nI k3), .ref bs, .ref bf, .ref bg])), (bs, .inl (Y.2.1, 16, .inr (.inl sd))), (bf, .inl (Y.1, 40, .inl fb)), (bg, .inl (Y.1, 40, .inl gb))] := hD
  refine lv_aload_n (pc := 10) hx hb dX0_setUp_10 rfl (lv_at hl 0 rfl) ?_
  refine lv_aload_n (pc := 11) hx hb dX0_setUp_11 rfl (lv_at hl 0 rfl) ?_
  refine va_get (pc := 12) (D := D) (ci := 0) (v := .int (nI c)) (C := RX0) (T := TX0) (N := 7) hx hb hts hinX0 hown hK.1 hP 0 rfl rfl 0 (by decide) (hts (.fieldLink RX0 22 "BoxesGame$Board" "columns" "I") (List.mem_of_getElem? (i := 1) rfl)) (fun _ h9 => h9) rfl dX0_setUp_12 ?_
  refine lv_aload_n (pc := 15) hx hb dX0_setUp_15 rfl (lv_at hl 0 rfl) ?_
  refine va_get (pc := 16) (D := D) (ci := 0) (v := .int (nI r)) (C := RX0) (T := TX0) (N := 7) hx hb hts hinX0 hown hK.1 hP 0 rfl rfl 1 (by decide) (hts (.fieldLink RX0 26 "BoxesGame$Board" "rows" "I") (List.mem_of_getElem? (i := 2) rfl)) (fun _ h9 => h9) rfl dX0_setUp_16 ?_
  refine n_imul (pc := 19) hx hb dX0_setUp_19 ?_
  refine va_put (pc := 20) (D := D) (ci := 0) (v := .int (nI (c * r))) (ty := .int) (C := RX0) (T := TX0) (N := 7) hx hb hts hinX0 tyX0 tyX0_ok nmX0 hown hK.1 hP hD hS 0 rfl rfl 3 (by decide) (hts (.fieldLink RX0 29 "BoxesGame$Board" "boxCount" "I") (List.mem_of_getElem? (i := 3) rfl)) (fun _ h9 => h9) rfl (by decide +kernel) (rfl) (rfl) (Nat.le_of_ble_eq_true rfl) dX0_setUp_20 (fun H locs hP hD hS => ?_)
  have hP : va_P D vwCl [(bd, .inr (0, [.int (nI c), .int (nI r), .int (nI k2), .int (nI (c * r)), .ref bs, .ref bf, .ref bg])), (bs, .inl (Y.2.1, 16, .inr (.inl sd))), (bf, .inl (Y.1, 40, .inl fb)), (bg, .inl (Y.1, 40, .inl gb))] H := hP
  have hD : va_D AA [(bd, .inr (0, [.int (nI c), .int (nI r), .int (nI k2), .int (nI (c * r)), .ref bs, .ref bf, .ref bg])), (bs, .inl (Y.2.1, 16, .inr (.inl sd))), (bf, .inl (Y.1, 40, .inl fb)), (bg, .inl (Y.1, 40, .inl gb))] := hD
  refine lv_aload_n (pc := 23) hx hb dX0_setUp_23 rfl (lv_at hl 0 rfl) ?_
  refine lv_aload_n (pc := 24) hx hb dX0_setUp_24 rfl (lv_at hl 0 rfl) ?_
  refine va_get (pc := 25) (D := D) (ci := 0) (v := .int (nI c)) (C := RX0) (T := TX0) (N := 7) hx hb hts hinX0 hown hK.1 hP 0 rfl rfl 0 (by decide) (hts (.fieldLink RX0 22 "BoxesGame$Board" "columns" "I") (List.mem_of_getElem? (i := 1) rfl)) (fun _ h9 => h9) rfl dX0_setUp_25 ?_
  refine lv_aload_n (pc := 28) hx hb dX0_setUp_28 rfl (lv_at hl 0 rfl) ?_
  refine va_get (pc := 29) (D := D) (ci := 0) (v := .int (nI r)) (C := RX0) (T := TX0) (N := 7) hx hb hts hinX0 hown hK.1 hP 0 rfl rfl 1 (by decide) (hts (.fieldLink RX0 26 "BoxesGame$Board" "rows" "I") (List.mem_of_getElem? (i := 2) rfl)) (fun _ h9 => h9) rfl dX0_setUp_29 ?_
  refine lv_iconst (pc := 32) (v := nI 1) hx hb dX0_setUp_32 rfl ?_
  refine n_iadd (pc := 33) hx hb dX0_setUp_33 ?_
  refine n_imul (pc := 34) hx hb dX0_setUp_34 ?_
  refine lv_aload_n (pc := 35) hx hb dX0_setUp_35 rfl (lv_at hl 0 rfl) ?_
  refine va_get (pc := 36) (D := D) (ci := 0) (v := .int (nI c)) (C := RX0) (T := TX0) (N := 7) hx hb hts hinX0 hown hK.1 hP 0 rfl rfl 0 (by decide) (hts (.fieldLink RX0 22 "BoxesGame$Board" "columns" "I") (List.mem_of_getElem? (i := 1) rfl)) (fun _ h9 => h9) rfl dX0_setUp_36 ?_
  refine lv_iconst (pc := 39) (v := nI 1) hx hb dX0_setUp_39 rfl ?_
  refine n_iadd (pc := 40) hx hb dX0_setUp_40 ?_
  refine lv_aload_n (pc := 41) hx hb dX0_setUp_41 rfl (lv_at hl 0 rfl) ?_
  refine va_get (pc := 42) (D := D) (ci := 0) (v := .int (nI r)) (C := RX0) (T := TX0) (N := 7) hx hb hts hinX0 hown hK.1 hP 0 rfl rfl 1 (by decide) (hts (.fieldLink RX0 26 "BoxesGame$Board" "rows" "I") (List.mem_of_getElem? (i := 2) rfl)) (fun _ h9 => h9) rfl dX0_setUp_42 ?_
  refine n_imul (pc := 45) hx hb dX0_setUp_45 ?_
  refine n_iadd (pc := 46) hx hb dX0_setUp_46 ?_
  refine top_i (show nI ((c * (r + 1)) + ((c + 1) * r)) = nI (al c r) from by congr 1; unfold al lvl; rw [Nat.mul_comm c (r + 1), Nat.mul_comm (c + 1) r]) ?_
  refine va_put (pc := 47) (D := D) (ci := 0) (v := .int (nI (al c r))) (ty := .int) (C := RX0) (T := TX0) (N := 7) hx hb hts hinX0 tyX0 tyX0_ok nmX0 hown hK.1 hP hD hS 0 rfl rfl 2 (by decide) (hts (.fieldLink RX0 32 "BoxesGame$Board" "lineCount" "I") (List.mem_of_getElem? (i := 4) rfl)) (fun _ h9 => h9) rfl (by decide +kernel) (rfl) (rfl) (Nat.le_of_ble_eq_true rfl) dX0_setUp_47 (fun H locs hP hD hS => ?_)
  have hP : va_P D vwCl [(bd, .inr (0, [.int (nI c), .int (nI r), .int (nI (al c r)), .int (nI (c * r)), .ref bs, .ref bf, .ref bg])), (bs, .inl (Y.2.1, 16, .inr (.inl sd))), (bf, .inl (Y.1, 40, .inl fb)), (bg, .inl (Y.1, 40, .inl gb))] H := hP
  have hD : va_D AA [(bd, .inr (0, [.int (nI c), .int (nI r), .int (nI (al c r)), .int (nI (c * r)), .ref bs, .ref bf, .ref bg])), (bs, .inl (Y.2.1, 16, .inr (.inl sd))), (bf, .inl (Y.1, 40, .inl fb)), (bg, .inl (Y.1, 40, .inl gb))] := hD
  refine lv_iconst (pc := 50) (v := nI 0) hx hb dX0_setUp_50 rfl ?_
  refine lv_istore_n (pc := 51) (lv' := [(3, .int (nI 0)), (0, .ref bd), (1, .int (nI c)), (2, .int (nI r))]) hx hb dX0_setUp_51 rfl hl (by decide) rfl (fun ls hl => ?_)
  have L52 : ∀ (n52 : Nat), ∀ (i : Nat) (f : Nat → Int32) (g : Nat → Int32), (i ≤ 40) → (∀ k, k < i → f k = -1 ∧ g k = -1) → 40 - i < n52 → ∀ (H : Heap) (locs : List Loc), va_P D vwCl [(bd, .inr (0, [.int (nI c), .int (nI r), .int (nI (al c r)), .int (nI (c * r)), .ref bs, .ref bf, .ref bg])), (bs, .inl (Y.2.1, 16, .inr (.inl sd))), (bf, .inl (Y.1, 40, .inl f)), (bg, .inl (Y.1, 40, .inl g))] H → va_D AA [(bd, .inr (0, [.int (nI c), .int (nI r), .int (nI (al c r)), .int (nI (c * r)), .ref bs, .ref bf, .ref bg])), (bs, .inl (Y.2.1, 16, .inr (.inl sd))), (bf, .inl (Y.1, 40, .inl f)), (bg, .inl (Y.1, 40, .inl g))] → va_S AA sG.heap H locs → ∀ (ls : Array Slot), lv_has ls 6 [(0, .ref bd), (1, .int (nI c)), (2, .int (nI r)), (3, .int (nI i))] → W pG l eG ({ frames := 3, cells := 0, slots := 0, locals := 64 } : Room) sG mG aG bG tG cG H locs 0 0 (MQ bG (MuQ D [(bd, .inr (0, [.int (nI k0), .int (nI k1), .int (nI k2), .int (nI k3), .ref bs, .ref bf, .ref bg])), (bs, .inl (Y.2.1, 16, .inr (.inl sd))), (bf, .inl (Y.1, 40, .inl fb)), (bg, .inl (Y.1, 40, .inl gb))] (fun uS : (Nat → Int64) × (Nat → Int32) × (Nat → Int32) => none) (fun uS : (Nat → Int64) × (Nat → Int32) × (Nat → Int32) => [(bd, .inr (0, [.int (nI c), .int (nI r), .int (nI (al c r)), .int (nI (c * r)), .ref bs, .ref bf, .ref bg])), (bs, .inl (Y.2.1, 16, .inr (.inl uS.1))), (bf, .inl (Y.1, 40, .inl uS.2.1)), (bg, .inl (Y.1, 40, .inl uS.2.2))]) (fun uS : (Nat → Int64) × (Nat → Int32) × (Nat → Int32) => BdOK c r uS.1 uS.2.1 uS.2.2)) aG sG 0 0 AA) (F0 mG 52 ls []) := by
    intro n52
    induction n52 with
    | zero =>
      intro i f g hi hm hmeas52 H locs hP hD hS ls hl
      exact absurd hmeas52 (Nat.not_lt_zero _)
    | succ n52 ih52 =>
      intro i f g hi hm hmeas52 H locs hP hD hS ls hl
      refine lv_iload_n (pc := 52) hx hb dX0_setUp_52 rfl (lv_at hl 3 rfl) ?_
      refine lv_bipush (pc := 53) (v := nI 40) hx hb dX0_setUp_53 rfl ?_
      refine n_icmp_ge (pc := 55) (tgt := 82) hx hb (by omega) (by omega) dX0_setUp_55 (by decide) (fun c55 => ?_) (fun c55 => ?_)
      · refine lv_iconst (pc := 82) (v := nI 0) hx hb dX0_setUp_82 rfl ?_
        refine lv_istore_n (pc := 83) (lv' := [(3, .int (nI 0)), (0, .ref bd), (1, .int (nI c)), (2, .int (nI r))]) hx hb dX0_setUp_83 rfl hl (by decide) rfl (fun ls hl => ?_)
        have L84 : ∀ (n84 : Nat), ∀ (y : Nat) (s : Nat → Int64) (f : Nat → Int32) (g : Nat → Int32), (y ≤ r) → (BdP c r (y * c) s f g) → r - y < n84 → ∀ (H : Heap) (locs : List Loc), va_P D vwCl [(bd, .inr (0, [.int (nI c), .int (nI r), .int (nI (al c r)), .int (nI (c * r)), .ref bs, .ref bf, .ref bg])), (bs, .inl (Y.2.1, 16, .inr (.inl s))), (bf, .inl (Y.1, 40, .inl f)), (bg, .inl (Y.1, 40, .inl g))] H → va_D AA [(bd, .inr (0, [.int (nI c), .int (nI r), .int (nI (al c r)), .int (nI (c * r)), .ref bs, .ref bf, .ref bg])), (bs, .inl (Y.2.1, 16, .inr (.inl s))), (bf, .inl (Y.1, 40, .inl f)), (bg, .inl (Y.1, 40, .inl g))] → va_S AA sG.heap H locs → ∀ (ls : Array Slot), lv_has ls 6 [(0, .ref bd), (1, .int (nI c)), (2, .int (nI r)), (3, .int (nI y))] → W pG l eG ({ frames := 3, cells := 0, slots := 0, locals := 64 } : Room) sG mG aG bG tG cG H locs 0 0 (MQ bG (MuQ D [(bd, .inr (0, [.int (nI k0), .int (nI k1), .int (nI k2), .int (nI k3), .ref bs, .ref bf, .ref bg])), (bs, .inl (Y.2.1, 16, .inr (.inl sd))), (bf, .inl (Y.1, 40, .inl fb)), (bg, .inl (Y.1, 40, .inl gb))] (fun uS : (Nat → Int64) × (Nat → Int32) × (Nat → Int32) => none) (fun uS : (Nat → Int64) × (Nat → Int32) × (Nat → Int32) => [(bd, .inr (0, [.int (nI c), .int (nI r), .int (nI (al c r)), .int (nI (c * r)), .ref bs, .ref bf, .ref bg])), (bs, .inl (Y.2.1, 16, .inr (.inl uS.1))), (bf, .inl (Y.1, 40, .inl uS.2.1)), (bg, .inl (Y.1, 40, .inl uS.2.2))]) (fun uS : (Nat → Int64) × (Nat → Int32) × (Nat → Int32) => BdOK c r uS.1 uS.2.1 uS.2.2)) aG sG 0 0 AA) (F0 mG 84 ls []) := by
          intro n84
          induction n84 with
          | zero =>
            intro y s f g hy hbp hmeas84 H locs hP hD hS ls hl
            exact absurd hmeas84 (Nat.not_lt_zero _)
          | succ n84 ih84 =>
            intro y s f g hy hbp hmeas84 H locs hP hD hS ls hl
            refine lv_iload_n (pc := 84) hx hb dX0_setUp_84 rfl (lv_at hl 3 rfl) ?_
            refine lv_aload_n (pc := 85) hx hb dX0_setUp_85 rfl (lv_at hl 0 rfl) ?_
            refine va_get (pc := 86) (D := D) (ci := 0) (v := .int (nI r)) (C := RX0) (T := TX0) (N := 7) hx hb hts hinX0 hown hK.1 hP 0 rfl rfl 1 (by decide) (hts (.fieldLink RX0 26 "BoxesGame$Board" "rows" "I") (List.mem_of_getElem? (i := 2) rfl)) (fun _ h9 => h9) rfl dX0_setUp_86 ?_
            refine n_icmp_ge (pc := 89) (tgt := 197) hx hb (by omega) (by omega) dX0_setUp_89 (by decide) (fun c89 => ?_) (fun c89 => ?_)
            · subst hAA
              exact mu_vret hx hb hr hlocks hP hS (⟨_, _, _⟩) (rfl) (BdP.end hC (by rw [show c * r = y * c by rw [show y = r by omega, Nat.mul_comm]]; exact hbp)) (rfl) dX0_setUp_197
            refine lv_iconst (pc := 92) (v := nI 0) hx hb dX0_setUp_92 rfl ?_
            refine lv_istore (pc := 93) (lv' := [(4, .int (nI 0)), (0, .ref bd), (1, .int (nI c)), (2, .int (nI r)), (3, .int (nI y))]) hx hb dX0_setUp_93 hl (by decide) rfl (fun ls hl => ?_)
            have L95 : ∀ (n95 : Nat), ∀ (x : Nat) (s : Nat → Int64) (f : Nat → Int32) (g : Nat → Int32), (x ≤ c) → (BdP c r (y * c + x) s f g) → c - x < n95 → ∀ (H : Heap) (locs : List Loc), va_P D vwCl [(bd, .inr (0, [.int (nI c), .int (nI r), .int (nI (al c r)), .int (nI (c * r)), .ref bs, .ref bf, .ref bg])), (bs, .inl (Y.2.1, 16, .inr (.inl s))), (bf, .inl (Y.1, 40, .inl f)), (bg, .inl (Y.1, 40, .inl g))] H → va_D AA [(bd, .inr (0, [.int (nI c), .int (nI r), .int (nI (al c r)), .int (nI (c * r)), .ref bs, .ref bf, .ref bg])), (bs, .inl (Y.2.1, 16, .inr (.inl s))), (bf, .inl (Y.1, 40, .inl f)), (bg, .inl (Y.1, 40, .inl g))] → va_S AA sG.heap H locs → ∀ (ls : Array Slot), lv_has ls 6 [(0, .ref bd), (1, .int (nI c)), (2, .int (nI r)), (3, .int (nI y)), (4, .int (nI x))] → W pG l eG ({ frames := 3, cells := 0, slots := 0, locals := 64 } : Room) sG mG aG bG tG cG H locs 0 0 (MQ bG (MuQ D [(bd, .inr (0, [.int (nI k0), .int (nI k1), .int (nI k2), .int (nI k3), .ref bs, .ref bf, .ref bg])), (bs, .inl (Y.2.1, 16, .inr (.inl sd))), (bf, .inl (Y.1, 40, .inl fb)), (bg, .inl (Y.1, 40, .inl gb))] (fun uS : (Nat → Int64) × (Nat → Int32) × (Nat → Int32) => none) (fun uS : (Nat → Int64) × (Nat → Int32) × (Nat → Int32) => [(bd, .inr (0, [.int (nI c), .int (nI r), .int (nI (al c r)), .int (nI (c * r)), .ref bs, .ref bf, .ref bg])), (bs, .inl (Y.2.1, 16, .inr (.inl uS.1))), (bf, .inl (Y.1, 40, .inl uS.2.1)), (bg, .inl (Y.1, 40, .inl uS.2.2))]) (fun uS : (Nat → Int64) × (Nat → Int32) × (Nat → Int32) => BdOK c r uS.1 uS.2.1 uS.2.2)) aG sG 0 0 AA) (F0 mG 95 ls []) := by
              intro n95
              induction n95 with
              | zero =>
                intro x s f g hx9 hbq hmeas95 H locs hP hD hS ls hl
                exact absurd hmeas95 (Nat.not_lt_zero _)
              | succ n95 ih95 =>
                intro x s f g hx9 hbq hmeas95 H locs hP hD hS ls hl
                refine lv_iload (pc := 95) hx hb dX0_setUp_95 (lv_at hl 4 rfl) ?_
                refine lv_aload_n (pc := 97) hx hb dX0_setUp_97 rfl (lv_at hl 0 rfl) ?_
                refine va_get (pc := 98) (D := D) (ci := 0) (v := .int (nI c)) (C := RX0) (T := TX0) (N := 7) hx hb hts hinX0 hown hK.1 hP 0 rfl rfl 0 (by decide) (hts (.fieldLink RX0 22 "BoxesGame$Board" "columns" "I") (List.mem_of_getElem? (i := 1) rfl)) (fun _ h9 => h9) rfl dX0_setUp_98 ?_
                refine n_icmp_ge (pc := 101) (tgt := 191) hx hb (by omega) (by omega) dX0_setUp_101 (by decide) (fun c101 => ?_) (fun c101 => ?_)
                · refine lv_iinc (pc := 191) (v := nI (y + 1)) (lv' := [(3, .int (nI (y + 1))), (0, .ref bd), (1, .int (nI c)), (2, .int (nI r)), (4, .int (nI x))]) hx hb dX0_setUp_191 hl (k := 3) rfl (n_inc y 1) (by decide) rfl (fun ls hl => ?_)
                  refine lv_goto (pc := 194) (tgt := 84) hx hb dX0_setUp_194 (by decide) ?_
                  exact ih84 (y + 1) s f g (by first | assumption | omega) (by rw [Nat.add_mul, Nat.one_mul, show c = x by omega]; rw [show c = x by omega] at hbq; exact hbq) (by omega) _ _ hP hD hS _ (lv_sub hl [1, 2, 3, 0] rfl)
                have hbx := box_lt c101 c89
                refine lv_iload_n (pc := 104) hx hb dX0_setUp_104 rfl (lv_at hl 3 rfl) ?_
                refine lv_aload_n (pc := 105) hx hb dX0_setUp_105 rfl (lv_at hl 0 rfl) ?_
                refine va_get (pc := 106) (D := D) (ci := 0) (v := .int (nI c)) (C := RX0) (T := TX0) (N := 7) hx hb hts hinX0 hown hK.1 hP 0 rfl rfl 0 (by decide) (hts (.fieldLink RX0 22 "BoxesGame$Board" "columns" "I") (List.mem_of_getElem? (i := 1) rfl)) (fun _ h9 => h9) rfl dX0_setUp_106 ?_
                refine n_imul (pc := 109) hx hb dX0_setUp_109 ?_
                refine lv_iload (pc := 110) hx hb dX0_setUp_110 (lv_at hl 4 rfl) ?_
                refine n_iadd (pc := 112) hx hb dX0_setUp_112 ?_
                refine lv_istore (pc := 113) (lv' := [(5, .int (nI ((y * c) + x))), (0, .ref bd), (1, .int (nI c)), (2, .int (nI r)), (3, .int (nI y)), (4, .int (nI x))]) hx hb dX0_setUp_113 hl (by decide) rfl (fun ls hl => ?_)
                refine lv_aload_n (pc := 115) hx hb dX0_setUp_115 rfl (lv_at hl 1 rfl) ?_
                refine va_get (pc := 116) (D := D) (ci := 0) (v := .ref bs) (C := RX0) (T := TX0) (N := 7) hx hb hts hinX0 hown hK.1 hP 0 rfl rfl 4 (by decide) (hts (.fieldLink RX0 9 "BoxesGame$Board" "sides" "[J") (List.mem_of_getElem? (i := 7) rfl)) (fun _ h9 => h9) rfl dX0_setUp_116 ?_
                refine lv_iload (pc := 119) hx hb dX0_setUp_119 (lv_at hl 0 rfl) ?_
                refine lv_lconst (pc := 121) (v := 0) hx hb dX0_setUp_121 (by decide) ?_
                refine mu_go (pc := 122) (va_runS (As := [.ref bs, .int (nI ((y * c) + x)), .long (0 : Int64)]) (rest := []) ⟨hx, hb, hml, hown, hts⟩ (c_X3_put__in l D Y 16 s bs ((y * c) + x) (0 : Int64) (by decide) (by omega)) (va_cwS 3 hts gX0_setUp_X3_put_ rfl rfl rfl hdX3_put_ ⟨Nat.le_of_ble_eq_true rfl, Nat.le_of_ble_eq_true rfl⟩) (mu_pS hK (hP.sub [1] rfl) (hD.sub [1] (by decide) rfl)) rfl rfl hl.1 rfl (lv_room (Nat.le_of_ble_eq_true rfl)) dX0_setUp_122 ⟨Nat.le_of_ble_eq_true rfl, Nat.le_of_ble_eq_true rfl⟩) hP hD hS [1] rfl (by decide) (fun _ => [(bd, .inr (0, [.int (nI c), .int (nI r), .int (nI (al c r)), .int (nI (c * r)), .ref bs, .ref bf, .ref bg])), (bs, .inl (Y.2.1, 16, .inr (.inl (vp_updL s ((y * c) + x) (0 : Int64))))), (bf, .inl (Y.1, 40, .inl f)), (bg, .inl (Y.1, 40, .inl g))]) (fun _ => rfl) (fun _ => rfl) (fun uS H locs hpost hP hD hS => ?_)
                have hP : va_P D vwCl [(bd, .inr (0, [.int (nI c), .int (nI r), .int (nI (al c r)), .int (nI (c * r)), .ref bs, .ref bf, .ref bg])), (bs, .inl (Y.2.1, 16, .inr (.inl (vp_updL s ((y * c) + x) (0 : Int64))))), (bf, .inl (Y.1, 40, .inl f)), (bg, .inl (Y.1, 40, .inl g))] H := hP
                have hD : va_D AA [(bd, .inr (0, [.int (nI c), .int (nI r), .int (nI (al c r)), .int (nI (c * r)), .ref bs, .ref bf, .ref bg])), (bs, .inl (Y.2.1, 16, .inr (.inl (vp_updL s ((y * c) + x) (0 : Int64))))), (bf, .inl (Y.1, 40, .inl f)), (bg, .inl (Y.1, 40, .inl g))] := hD
                have hs0 : SdJ c r (y * c + x) 0 s (vp_updL s (y * c + x) 0) := SdJ.z
                have hj0 := hbq.2
                refine lv_aload_n (pc := 125) hx hb dX0_setUp_125 rfl (lv_at hl 1 rfl) ?_
                refine lv_iload (pc := 126) hx hb dX0_setUp_126 (lv_at hl 0 rfl) ?_
                refine lv_aload_n (pc := 128) hx hb dX0_setUp_128 rfl (lv_at hl 1 rfl) ?_
                refine lv_iconst (pc := 129) (v := nI 0) hx hb dX0_setUp_129 rfl ?_
                refine lv_iload (pc := 130) hx hb dX0_setUp_130 (lv_at hl 5 rfl) ?_
                refine lv_iload_n (pc := 132) hx hb dX0_setUp_132 rfl (lv_at hl 4 rfl) ?_
                refine ro_go (pc := 133) (va_runV (As := [.int (nI 0), .int (nI x), .int (nI y)]) (rest := [.int (nI ((y * c) + x)), .ref bd]) ⟨hx, hb, hml, hown, hts⟩ (c_X0_numberOf_u l D Y bd bs bf bg (al c r) (c * r) c r false (nI x) (nI y) (hC)) (cwV 3 hts gX0_setUp_X0_numberOf rfl rfl rfl ⟨rfl, hdX0_numberOf⟩ ⟨Nat.le_of_ble_eq_true rfl, Nat.le_of_ble_eq_true rfl⟩) (ro_pV hK (hP.sub [0] rfl) (ro_recv hK hP (ci := 0) (q0 := 0) rfl rfl)) rfl rfl hl.1 rfl (lv_room (Nat.le_of_ble_eq_true rfl)) dX0_setUp_133 ⟨Nat.le_of_ble_eq_true rfl, Nat.le_of_ble_eq_true rfl⟩) ?_
                refine top_i (show numI c r false (nI x) (nI y) = nI (sid c r (y * c + x) 0) from by rw [sid_n0 c101]; exact numI_nat hC (by simpa using c101) (by simp; omega)) ?_
                refine mu_go (pc := 136) (va_runV (As := [.int (nI ((y * c) + x)), .int (nI (sid c r (y * c + x) 0))]) (rest := []) ⟨hx, hb, hml, hown, hts⟩ (c_X0_addSide l D Y bd bs bf bg c r (al c r) (c * r) (vp_updL s ((y * c) + x) (0 : Int64)) f g ((y * c) + x) (sid c r (y * c + x) 0) (by omega) (by have := sid_lt hC hbx (k := 0) (by decide); omega)) (cwV 2 hts gX0_setUp_X0_addSide rfl rfl rfl ⟨rfl, hdX0_addSide⟩ ⟨Nat.le_of_ble_eq_true rfl, Nat.le_of_ble_eq_true rfl⟩) (mu_pV hK hP hD (ro_recv hK hP (ci := 0) (q0 := 0) rfl rfl)) rfl rfl hl.1 rfl (lv_room (Nat.le_of_ble_eq_true rfl)) dX0_setUp_136 ⟨Nat.le_of_ble_eq_true rfl, Nat.le_of_ble_eq_true rfl⟩) hP hD hS [0, 1, 2, 3] rfl (by decide) (fun uS => [(bd, .inr (0, [.int (nI c), .int (nI r), .int (nI (al c r)), .int (nI (c * r)), .ref bs, .ref bf, .ref bg])), (bs, .inl (Y.2.1, 16, .inr (.inl uS.1))), (bf, .inl (Y.1, 40, .inl uS.2.1)), (bg, .inl (Y.1, 40, .inl uS.2.2))]) (fun _ => rfl) (fun _ => rfl) (fun uS H locs hpost hP hD hS => ?_)
                obtain ⟨sd2_136, fb2_136, gb2_136⟩ := uS
                (try dsimp only at hpost); have hs1 := hs0.step hpost.1; have hj1 := hj0.step hC hbx (by decide) hpost.2
                have hP : va_P D vwCl [(bd, .inr (0, [.int (nI c), .int (nI r), .int (nI (al c r)), .int (nI (c * r)), .ref bs, .ref bf, .ref bg])), (bs, .inl (Y.2.1, 16, .inr (.inl sd2_136))), (bf, .inl (Y.1, 40, .inl fb2_136)), (bg, .inl (Y.1, 40, .inl gb2_136))] H := hP
                have hD : va_D AA [(bd, .inr (0, [.int (nI c), .int (nI r), .int (nI (al c r)), .int (nI (c * r)), .ref bs, .ref bf, .ref bg])), (bs, .inl (Y.2.1, 16, .inr (.inl sd2_136))), (bf, .inl (Y.1, 40, .inl fb2_136)), (bg, .inl (Y.1, 40, .inl gb2_136))] := hD
                refine lv_aload_n (pc := 139) hx hb dX0_setUp_139 rfl (lv_at hl 1 rfl) ?_
                refine lv_iload (pc := 140) hx hb dX0_setUp_140 (lv_at hl 0 rfl) ?_
                refine lv_aload_n (pc := 142) hx hb dX0_setUp_142 rfl (lv_at hl 1 rfl) ?_
                refine lv_iconst (pc := 143) (v := nI 0) hx hb dX0_setUp_143 rfl ?_
                refine lv_iload (pc := 144) hx hb dX0_setUp_144 (lv_at hl 5 rfl) ?_
                refine lv_iload_n (pc := 146) hx hb dX0_setUp_146 rfl (lv_at hl 4 rfl) ?_
                refine lv_iconst (pc := 147) (v := nI 1) hx hb dX0_setUp_147 rfl ?_
                refine n_iadd (pc := 148) hx hb dX0_setUp_148 ?_
                refine ro_go (pc := 149) (va_runV (As := [.int (nI 0), .int (nI x), .int (nI (y + 1))]) (rest := [.int (nI ((y * c) + x)), .ref bd]) ⟨hx, hb, hml, hown, hts⟩ (c_X0_numberOf_u l D Y bd bs bf bg (al c r) (c * r) c r false (nI x) (nI (y + 1)) (hC)) (cwV 3 hts gX0_setUp_X0_numberOf rfl rfl rfl ⟨rfl, hdX0_numberOf⟩ ⟨Nat.le_of_ble_eq_true rfl, Nat.le_of_ble_eq_true rfl⟩) (ro_pV hK (hP.sub [0] rfl) (ro_recv hK hP (ci := 0) (q0 := 0) rfl rfl)) rfl rfl hl.1 rfl (lv_room (Nat.le_of_ble_eq_true rfl)) dX0_setUp_149 ⟨Nat.le_of_ble_eq_true rfl, Nat.le_of_ble_eq_true rfl⟩) ?_
                refine top_i (show numI c r false (nI x) (nI (y + 1)) = nI (sid c r (y * c + x) 1) from by rw [sid_n1 c101]; exact numI_nat hC (by simpa using c101) (by simp; omega)) ?_
                refine mu_go (pc := 152) (va_runV (As := [.int (nI ((y * c) + x)), .int (nI (sid c r (y * c + x) 1))]) (rest := []) ⟨hx, hb, hml, hown, hts⟩ (c_X0_addSide l D Y bd bs bf bg c r (al c r) (c * r) sd2_136 fb2_136 gb2_136 ((y * c) + x) (sid c r (y * c + x) 1) (by omega) (by have := sid_lt hC hbx (k := 1) (by decide); omega)) (cwV 2 hts gX0_setUp_X0_addSide rfl rfl rfl ⟨rfl, hdX0_addSide⟩ ⟨Nat.le_of_ble_eq_true rfl, Nat.le_of_ble_eq_true rfl⟩) (mu_pV hK hP hD (ro_recv hK hP (ci := 0) (q0 := 0) rfl rfl)) rfl rfl hl.1 rfl (lv_room (Nat.le_of_ble_eq_true rfl)) dX0_setUp_152 ⟨Nat.le_of_ble_eq_true rfl, Nat.le_of_ble_eq_true rfl⟩) hP hD hS [0, 1, 2, 3] rfl (by decide) (fun uS => [(bd, .inr (0, [.int (nI c), .int (nI r), .int (nI (al c r)), .int (nI (c * r)), .ref bs, .ref bf, .ref bg])), (bs, .inl (Y.2.1, 16, .inr (.inl uS.1))), (bf, .inl (Y.1, 40, .inl uS.2.1)), (bg, .inl (Y.1, 40, .inl uS.2.2))]) (fun _ => rfl) (fun _ => rfl) (fun uS H locs hpost hP hD hS => ?_)
                obtain ⟨sd2_152, fb2_152, gb2_152⟩ := uS
                (try dsimp only at hpost); have hs2 := hs1.step hpost.1; have hj2 := hj1.step hC hbx (by decide) hpost.2
                have hP : va_P D vwCl [(bd, .inr (0, [.int (nI c), .int (nI r), .int (nI (al c r)), .int (nI (c * r)), .ref bs, .ref bf, .ref bg])), (bs, .inl (Y.2.1, 16, .inr (.inl sd2_152))), (bf, .inl (Y.1, 40, .inl fb2_152)), (bg, .inl (Y.1, 40, .inl gb2_152))] H := hP
                have hD : va_D AA [(bd, .inr (0, [.int (nI c), .int (nI r), .int (nI (al c r)), .int (nI (c * r)), .ref bs, .ref bf, .ref bg])), (bs, .inl (Y.2.1, 16, .inr (.inl sd2_152))), (bf, .inl (Y.1, 40, .inl fb2_152)), (bg, .inl (Y.1, 40, .inl gb2_152))] := hD
                refine lv_aload_n (pc := 155) hx hb dX0_setUp_155 rfl (lv_at hl 1 rfl) ?_
                refine lv_iload (pc := 156) hx hb dX0_setUp_156 (lv_at hl 0 rfl) ?_
                refine lv_aload_n (pc := 158) hx hb dX0_setUp_158 rfl (lv_at hl 1 rfl) ?_
                refine lv_iconst (pc := 159) (v := nI 1) hx hb dX0_setUp_159 rfl ?_
                refine lv_iload (pc := 160) hx hb dX0_setUp_160 (lv_at hl 5 rfl) ?_
                refine lv_iload_n (pc := 162) hx hb dX0_setUp_162 rfl (lv_at hl 4 rfl) ?_
                refine ro_go (pc := 163) (va_runV (As := [.int (nI 1), .int (nI x), .int (nI y)]) (rest := [.int (nI ((y * c) + x)), .ref bd]) ⟨hx, hb, hml, hown, hts⟩ (c_X0_numberOf_u l D Y bd bs bf bg (al c r) (c * r) c r true (nI x) (nI y) (hC)) (cwV 3 hts gX0_setUp_X0_numberOf rfl rfl rfl ⟨rfl, hdX0_numberOf⟩ ⟨Nat.le_of_ble_eq_true rfl, Nat.le_of_ble_eq_true rfl⟩) (ro_pV hK (hP.sub [0] rfl) (ro_recv hK hP (ci := 0) (q0 := 0) rfl rfl)) rfl rfl hl.1 rfl (lv_room (Nat.le_of_ble_eq_true rfl)) dX0_setUp_163 ⟨Nat.le_of_ble_eq_true rfl, Nat.le_of_ble_eq_true rfl⟩) ?_
                refine top_i (show numI c r true (nI x) (nI y) = nI (sid c r (y * c + x) 2) from by rw [sid_n2 c101]; exact numI_nat hC (by simp; omega) (by simpa using c89)) ?_
                refine mu_go (pc := 166) (va_runV (As := [.int (nI ((y * c) + x)), .int (nI (sid c r (y * c + x) 2))]) (rest := []) ⟨hx, hb, hml, hown, hts⟩ (c_X0_addSide l D Y bd bs bf bg c r (al c r) (c * r) sd2_152 fb2_152 gb2_152 ((y * c) + x) (sid c r (y * c + x) 2) (by omega) (by have := sid_lt hC hbx (k := 2) (by decide); omega)) (cwV 2 hts gX0_setUp_X0_addSide rfl rfl rfl ⟨rfl, hdX0_addSide⟩ ⟨Nat.le_of_ble_eq_true rfl, Nat.le_of_ble_eq_true rfl⟩) (mu_pV hK hP hD (ro_recv hK hP (ci := 0) (q0 := 0) rfl rfl)) rfl rfl hl.1 rfl (lv_room (Nat.le_of_ble_eq_true rfl)) dX0_setUp_166 ⟨Nat.le_of_ble_eq_true rfl, Nat.le_of_ble_eq_true rfl⟩) hP hD hS [0, 1, 2, 3] rfl (by decide) (fun uS => [(bd, .inr (0, [.int (nI c), .int (nI r), .int (nI (al c r)), .int (nI (c * r)), .ref bs, .ref bf, .ref bg])), (bs, .inl (Y.2.1, 16, .inr (.inl uS.1))), (bf, .inl (Y.1, 40, .inl uS.2.1)), (bg, .inl (Y.1, 40, .inl uS.2.2))]) (fun _ => rfl) (fun _ => rfl) (fun uS H locs hpost hP hD hS => ?_)
                obtain ⟨sd2_166, fb2_166, gb2_166⟩ := uS
                (try dsimp only at hpost); have hs3 := hs2.step hpost.1; have hj3 := hj2.step hC hbx (by decide) hpost.2
                have hP : va_P D vwCl [(bd, .inr (0, [.int (nI c), .int (nI r), .int (nI (al c r)), .int (nI (c * r)), .ref bs, .ref bf, .ref bg])), (bs, .inl (Y.2.1, 16, .inr (.inl sd2_166))), (bf, .inl (Y.1, 40, .inl fb2_166)), (bg, .inl (Y.1, 40, .inl gb2_166))] H := hP
                have hD : va_D AA [(bd, .inr (0, [.int (nI c), .int (nI r), .int (nI (al c r)), .int (nI (c * r)), .ref bs, .ref bf, .ref bg])), (bs, .inl (Y.2.1, 16, .inr (.inl sd2_166))), (bf, .inl (Y.1, 40, .inl fb2_166)), (bg, .inl (Y.1, 40, .inl gb2_166))] := hD
                refine lv_aload_n (pc := 169) hx hb dX0_setUp_169 rfl (lv_at hl 1 rfl) ?_
                refine lv_iload (pc := 170) hx hb dX0_setUp_170 (lv_at hl 0 rfl) ?_
                refine lv_aload_n (pc := 172) hx hb dX0_setUp_172 rfl (lv_at hl 1 rfl) ?_
                refine lv_iconst (pc := 173) (v := nI 1) hx hb dX0_setUp_173 rfl ?_
                refine lv_iload (pc := 174) hx hb dX0_setUp_174 (lv_at hl 5 rfl) ?_
                refine lv_iconst (pc := 176) (v := nI 1) hx hb dX0_setUp_176 rfl ?_
                refine n_iadd (pc := 177) hx hb dX0_setUp_177 ?_
                refine lv_iload_n (pc := 178) hx hb dX0_setUp_178 rfl (lv_at hl 4 rfl) ?_
                refine ro_go (pc := 179) (va_runV (As := [.int (nI 1), .int (nI (x + 1)), .int (nI y)]) (rest := [.int (nI ((y * c) + x)), .ref bd]) ⟨hx, hb, hml, hown, hts⟩ (c_X0_numberOf_u l D Y bd bs bf bg (al c r) (c * r) c r true (nI (x + 1)) (nI y) (hC)) (cwV 3 hts gX0_setUp_X0_numberOf rfl rfl rfl ⟨rfl, hdX0_numberOf⟩ ⟨Nat.le_of_ble_eq_true rfl, Nat.le_of_ble_eq_true rfl⟩) (ro_pV hK (hP.sub [0] rfl) (ro_recv hK hP (ci := 0) (q0 := 0) rfl rfl)) rfl rfl hl.1 rfl (lv_room (Nat.le_of_ble_eq_true rfl)) dX0_setUp_179 ⟨Nat.le_of_ble_eq_true rfl, Nat.le_of_ble_eq_true rfl⟩) ?_
                refine top_i (show numI c r true (nI (x + 1)) (nI y) = nI (sid c r (y * c + x) 3) from by rw [sid_n3 c101]; exact numI_nat hC (by simp; omega) (by simpa using c89)) ?_
                refine mu_go (pc := 182) (va_runV (As := [.int (nI ((y * c) + x)), .int (nI (sid c r (y * c + x) 3))]) (rest := []) ⟨hx, hb, hml, hown, hts⟩ (c_X0_addSide l D Y bd bs bf bg c r (al c r) (c * r) sd2_166 fb2_166 gb2_166 ((y * c) + x) (sid c r (y * c + x) 3) (by omega) (by have := sid_lt hC hbx (k := 3) (by decide); omega)) (cwV 2 hts gX0_setUp_X0_addSide rfl rfl rfl ⟨rfl, hdX0_addSide⟩ ⟨Nat.le_of_ble_eq_true rfl, Nat.le_of_ble_eq_true rfl⟩) (mu_pV hK hP hD (ro_recv hK hP (ci := 0) (q0 := 0) rfl rfl)) rfl rfl hl.1 rfl (lv_room (Nat.le_of_ble_eq_true rfl)) dX0_setUp_182 ⟨Nat.le_of_ble_eq_true rfl, Nat.le_of_ble_eq_true rfl⟩) hP hD hS [0, 1, 2, 3] rfl (by decide) (fun uS => [(bd, .inr (0, [.int (nI c), .int (nI r), .int (nI (al c r)), .int (nI (c * r)), .ref bs, .ref bf, .ref bg])), (bs, .inl (Y.2.1, 16, .inr (.inl uS.1))), (bf, .inl (Y.1, 40, .inl uS.2.1)), (bg, .inl (Y.1, 40, .inl uS.2.2))]) (fun _ => rfl) (fun _ => rfl) (fun uS H locs hpost hP hD hS => ?_)
                obtain ⟨sd2_182, fb2_182, gb2_182⟩ := uS
                (try dsimp only at hpost); have hs4 := hs3.step hpost.1; have hj4 := hj3.step hC hbx (by decide) hpost.2
                have hP : va_P D vwCl [(bd, .inr (0, [.int (nI c), .int (nI r), .int (nI (al c r)), .int (nI (c * r)), .ref bs, .ref bf, .ref bg])), (bs, .inl (Y.2.1, 16, .inr (.inl sd2_182))), (bf, .inl (Y.1, 40, .inl fb2_182)), (bg, .inl (Y.1, 40, .inl gb2_182))] H := hP
                have hD : va_D AA [(bd, .inr (0, [.int (nI c), .int (nI r), .int (nI (al c r)), .int (nI (c * r)), .ref bs, .ref bf, .ref bg])), (bs, .inl (Y.2.1, 16, .inr (.inl sd2_182))), (bf, .inl (Y.1, 40, .inl fb2_182)), (bg, .inl (Y.1, 40, .inl gb2_182))] := hD
                refine lv_iinc (pc := 185) (v := nI (x + 1)) (lv' := [(4, .int (nI (x + 1))), (5, .int (nI ((y * c) + x))), (0, .ref bd), (1, .int (nI c)), (2, .int (nI r)), (3, .int (nI y))]) hx hb dX0_setUp_185 hl (k := 5) rfl (n_inc x 1) (by decide) rfl (fun ls hl => ?_)
                refine lv_goto (pc := 188) (tgt := 95) hx hb dX0_setUp_188 (by decide) ?_
                exact ih95 (x + 1) sd2_182 fb2_182 gb2_182 (by first | assumption | omega) (hbq.next hC hbx hs4 hj4) (by omega) _ _ hP hD hS _ (lv_sub hl [2, 3, 4, 5, 0] rfl)
            exact L95 ((c - 0) + 1) 0 s f g (by first | assumption | omega) (hbp) (Nat.lt_succ_self _) _ _ hP hD hS _ (lv_sub hl [1, 2, 3, 4, 0] rfl)
        exact L84 ((r - 0) + 1) 0 sd f g (by first | assumption | omega) (by rw [Nat.zero_mul]; exact BdP.z hC (fun k hk => hm k (by omega))) (Nat.lt_succ_self _) _ _ hP hD hS _ (lv_sub hl [1, 2, 3, 0] rfl)
      refine lv_aload_n (pc := 58) hx hb dX0_setUp_58 rfl (lv_at hl 0 rfl) ?_
      refine va_get (pc := 59) (D := D) (ci := 0) (v := .ref bf) (C := RX0) (T := TX0) (N := 7) hx hb hts hinX0 hown hK.1 hP 0 rfl rfl 5 (by decide) (hts (.fieldLink RX0 15 "BoxesGame$Board" "firstBoxes" "[I") (List.mem_of_getElem? (i := 5) rfl)) (fun _ h9 => h9) rfl dX0_setUp_59 ?_
      refine lv_iload_n (pc := 62) hx hb dX0_setUp_62 rfl (lv_at hl 3 rfl) ?_
      refine lv_iconst (pc := 63) (v := (-1)) hx hb dX0_setUp_63 (by decide) ?_
      refine mu_go (pc := 64) (va_runS (As := [.ref bf, .int (nI i), .int (-1)]) (rest := []) ⟨hx, hb, hml, hown, hts⟩ (c_X3_put_in l D Y 40 f bf i (-1) (by decide) (c55)) (va_cwS 3 hts gX0_setUp_X3_put rfl rfl rfl hdX3_put ⟨Nat.le_of_ble_eq_true rfl, Nat.le_of_ble_eq_true rfl⟩) (mu_pS hK (hP.sub [2] rfl) (hD.sub [2] (by decide) rfl)) rfl rfl hl.1 rfl (lv_room (Nat.le_of_ble_eq_true rfl)) dX0_setUp_64 ⟨Nat.le_of_ble_eq_true rfl, Nat.le_of_ble_eq_true rfl⟩) hP hD hS [2] rfl (by decide) (fun _ => [(bd, .inr (0, [.int (nI c), .int (nI r), .int (nI (al c r)), .int (nI (c * r)), .ref bs, .ref bf, .ref bg])), (bs, .inl (Y.2.1, 16, .inr (.inl sd))), (bf, .inl (Y.1, 40, .inl (upd f i (-1)))), (bg, .inl (Y.1, 40, .inl g))]) (fun _ => rfl) (fun _ => rfl) (fun uS H locs hpost hP hD hS => ?_)
      have hP : va_P D vwCl [(bd, .inr (0, [.int (nI c), .int (nI r), .int (nI (al c r)), .int (nI (c * r)), .ref bs, .ref bf, .ref bg])), (bs, .inl (Y.2.1, 16, .inr (.inl sd))), (bf, .inl (Y.1, 40, .inl (upd f i (-1)))), (bg, .inl (Y.1, 40, .inl g))] H := hP
      have hD : va_D AA [(bd, .inr (0, [.int (nI c), .int (nI r), .int (nI (al c r)), .int (nI (c * r)), .ref bs, .ref bf, .ref bg])), (bs, .inl (Y.2.1, 16, .inr (.inl sd))), (bf, .inl (Y.1, 40, .inl (upd f i (-1)))), (bg, .inl (Y.1, 40, .inl g))] := hD
      refine lv_aload_n (pc := 67) hx hb dX0_setUp_67 rfl (lv_at hl 0 rfl) ?_
      refine va_get (pc := 68) (D := D) (ci := 0) (v := .ref bg) (C := RX0) (T := TX0) (N := 7) hx hb hts hinX0 hown hK.1 hP 0 rfl rfl 6 (by decide) (hts (.fieldLink RX0 19 "BoxesGame$Board" "secondBoxes" "[I") (List.mem_of_getElem? (i := 6) rfl)) (fun _ h9 => h9) rfl dX0_setUp_68 ?_
      refine lv_iload_n (pc := 71) hx hb dX0_setUp_71 rfl (lv_at hl 3 rfl) ?_
      refine lv_iconst (pc := 72) (v := (-1)) hx hb dX0_setUp_72 (by decide) ?_
      refine mu_go (pc := 73) (va_runS (As := [.ref bg, .int (nI i), .int (-1)]) (rest := []) ⟨hx, hb, hml, hown, hts⟩ (c_X3_put_in l D Y 40 g bg i (-1) (by decide) (c55)) (va_cwS 3 hts gX0_setUp_X3_put rfl rfl rfl hdX3_put ⟨Nat.le_of_ble_eq_true rfl, Nat.le_of_ble_eq_true rfl⟩) (mu_pS hK (hP.sub [3] rfl) (hD.sub [3] (by decide) rfl)) rfl rfl hl.1 rfl (lv_room (Nat.le_of_ble_eq_true rfl)) dX0_setUp_73 ⟨Nat.le_of_ble_eq_true rfl, Nat.le_of_ble_eq_true rfl⟩) hP hD hS [3] rfl (by decide) (fun _ => [(bd, .inr (0, [.int (nI c), .int (nI r), .int (nI (al c r)), .int (nI (c * r)), .ref bs, .ref bf, .ref bg])), (bs, .inl (Y.2.1, 16, .inr (.inl sd))), (bf, .inl (Y.1, 40, .inl (upd f i (-1)))), (bg, .inl (Y.1, 40, .inl (upd g i (-1))))]) (fun _ => rfl) (fun _ => rfl) (fun uS H locs hpost hP hD hS => ?_)
      have hP : va_P D vwCl [(bd, .inr (0, [.int (nI c), .int (nI r), .int (nI (al c r)), .int (nI (c * r)), .ref bs, .ref bf, .ref bg])), (bs, .inl (Y.2.1, 16, .inr (.inl sd))), (bf, .inl (Y.1, 40, .inl (upd f i (-1)))), (bg, .inl (Y.1, 40, .inl (upd g i (-1))))] H := hP
      have hD : va_D AA [(bd, .inr (0, [.int (nI c), .int (nI r), .int (nI (al c r)), .int (nI (c * r)), .ref bs, .ref bf, .ref bg])), (bs, .inl (Y.2.1, 16, .inr (.inl sd))), (bf, .inl (Y.1, 40, .inl (upd f i (-1)))), (bg, .inl (Y.1, 40, .inl (upd g i (-1))))] := hD
      refine lv_iinc (pc := 76) (v := nI (i + 1)) (lv' := [(3, .int (nI (i + 1))), (0, .ref bd), (1, .int (nI c)), (2, .int (nI r))]) hx hb dX0_setUp_76 hl (k := 3) rfl (n_inc i 1) (by decide) rfl (fun ls hl => ?_)
      refine lv_goto (pc := 79) (tgt := 52) hx hb dX0_setUp_79 (by decide) ?_
      exact ih52 (i + 1) (upd f i (-1)) (upd g i (-1)) (by first | assumption | omega) (lt_s (fun k hk => by rw [pk_un (by omega), pk_un (by omega)]; exact hm k hk) ⟨pk_us, pk_us⟩) (by omega) _ _ hP hD hS _ (lv_sub hl [1, 2, 3, 0] rfl)
  exact L52 ((40 - 0) + 1) 0 fb gb (by first | assumption | omega) (fun k h => absurd h (Nat.not_lt_zero _)) (Nat.lt_succ_self _) _ _ hP hD hS _ (lv_sub hl [1, 2, 3, 0] rfl)
