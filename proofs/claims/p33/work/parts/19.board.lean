set_option maxHeartbeats 1200000 in
set_option maxRecDepth 100000 in
theorem c_X8_lowestOf (l : Launch) (D : va_G) (Y : vY) (w : Int64)  : Ro l yX8_lowestOf wsX8_lowestOf ({ frames := 1, cells := 0, slots := 0, locals := 21 } : Room) [.long w] D Y [] (some (.int (oI (fst1 (tb w) 64)))) := by
  refine ro_intro (by decide +kernel) rfl (Nat.le_of_ble_eq_true rfl) [(0, .long w)] rfl ?_
  intro pG eG sG mG aG bG tG cG ls hx hb hr hml hts hown hlocks hK hP hl
  have hP : va_P D vwCl [] sG.heap := hP
  have hown : sG.vm.findClass RX8 = some mG.cls := hown
  have hl : lv_has ls 2 [(0, .long w)] := hl
  refine lv_lload_n (pc := 0) hx hb dX8_lowestOf_0 rfl (lv_at hl 0 rfl) ?_
  refine lv_lconst (pc := 1) (v := 0) hx hb dX8_lowestOf_1 (by decide) ?_
  refine W.lcmp (pc := 2) hx hb dX8_lowestOf_2 ?_
  refine lc_if_ne (pc := 3) (tgt := 10) hx hb dX8_lowestOf_3 (by decide) (fun c3 => ?_) (fun c3 => ?_)
  · refine lv_lload_n (pc := 10) hx hb dX8_lowestOf_10 rfl (lv_at hl 0 rfl) ?_
    refine lv_lload_n (pc := 11) hx hb dX8_lowestOf_11 rfl (lv_at hl 0 rfl) ?_
    refine lv_lneg (pc := 12) hx hb dX8_lowestOf_12 ?_
    refine lv_land (pc := 13) hx hb dX8_lowestOf_13 ?_
    refine lv_lconst (pc := 14) (v := 1) hx hb dX8_lowestOf_14 (by decide) ?_
    refine lv_lsub (pc := 15) hx hb dX8_lowestOf_15 ?_
    refine ro_go (pc := 16) (va_runS (As := [.long ((w &&& (-w)) - (1 : Int64))]) (rest := []) ⟨hx, hb, hml, hown, hts⟩ (c_J13_bitCount_95d88 l D Y ((w &&& (-w)) - (1 : Int64)) ) (va_cwS 1 hts gX8_lowestOf_J13_bitCount_95d88 rfl rfl rfl hdJ13_bitCount_95d88 ⟨Nat.le_of_ble_eq_true rfl, Nat.le_of_ble_eq_true rfl⟩) (ro_pS hK hP) rfl rfl hl.1 rfl (lv_room (Nat.le_of_ble_eq_true rfl)) dX8_lowestOf_16 ⟨Nat.le_of_ble_eq_true rfl, Nat.le_of_ble_eq_true rfl⟩) ?_
    exact ro_iret (v := nI (pop ((w &&& (-w)) - (1 : Int64)))) hx hb hr hlocks (by first | exact low_zero c3 | exact low_pop c3) dX8_lowestOf_19
  refine lv_iconst (pc := 6) (v := (-1)) hx hb dX8_lowestOf_6 (by decide) ?_
  refine lv_goto (pc := 7) (tgt := 19) hx hb dX8_lowestOf_7 (by decide) ?_
  exact ro_iret (v := (-1)) hx hb hr hlocks (by first | exact low_zero c3 | exact low_pop c3) dX8_lowestOf_19

set_option maxHeartbeats 1200000 in
set_option maxRecDepth 100000 in
theorem c_X8_memberOf (l : Launch) (D : va_G) (Y : vY) (w : Int64) (n : Nat) (hn : n < 2 ^ 31) : Ro l yX8_memberOf wsX8_memberOf ({ frames := 2, cells := 0, slots := 0, locals := 42 } : Room) [.long w, .int (nI n)] D Y [] (some (.int (oI (fst1 (tb (rst w n)) 64)))) := by
  refine ro_intro (by decide +kernel) rfl (Nat.le_of_ble_eq_true rfl) [(0, .long w), (2, .int (nI n))] rfl ?_
  intro pG eG sG mG aG bG tG cG ls hx hb hr hml hts hown hlocks hK hP hl
  have hP : va_P D vwCl [] sG.heap := hP
  have hown : sG.vm.findClass RX8 = some mG.cls := hown
  have hl : lv_has ls 6 [(0, .long w), (2, .int (nI n))] := hl
  refine lv_lload_n (pc := 0) hx hb dX8_memberOf_0 rfl (lv_at hl 0 rfl) ?_
  refine lv_lstore_n (pc := 1) (lv' := [(3, .long w), (0, .long w), (2, .int (nI n))]) hx hb dX8_memberOf_1 rfl hl (by decide) rfl (fun ls hl => ?_)
  refine lv_iconst (pc := 2) (v := nI 0) hx hb dX8_memberOf_2 rfl ?_
  refine lv_istore (pc := 3) (lv' := [(5, .int (nI 0)), (3, .long w), (0, .long w), (2, .int (nI n))]) hx hb dX8_memberOf_3 hl (by decide) rfl (fun ls hl => ?_)
  have L5 : ∀ (n5 : Nat), ∀ (i : Nat) (u : Int64), (i ≤ n) → (u = rst w i) → n - i < n5 → ∀ (ls : Array Slot), lv_has ls 6 [(0, .long w), (2, .int (nI n)), (3, .long u), (5, .int (nI i))] → W pG l eG ({ frames := 2, cells := 0, slots := 0, locals := 42 } : Room) sG mG aG bG tG cG sG.heap [] 0 0 (MQ bG (RoQ (some (.int (oI (fst1 (tb (rst w n)) 64))))) aG sG 0 0 (fun _ => False)) (F0 mG 5 ls []) := by
    intro n5
    induction n5 with
    | zero =>
      intro i u hi hu hmeas5  ls hl
      exact absurd hmeas5 (Nat.not_lt_zero _)
    | succ n5 ih5 =>
      intro i u hi hu hmeas5  ls hl
      refine lv_iload (pc := 5) hx hb dX8_memberOf_5 (lv_at hl 3 rfl) ?_
      refine lv_iload_n (pc := 7) hx hb dX8_memberOf_7 rfl (lv_at hl 1 rfl) ?_
      refine n_icmp_ge (pc := 8) (tgt := 23) hx hb (by omega) (by omega) dX8_memberOf_8 (by decide) (fun c8 => ?_) (fun c8 => ?_)
      · refine lv_lload_n (pc := 23) hx hb dX8_memberOf_23 rfl (lv_at hl 2 rfl) ?_
        refine ro_go (pc := 24) (va_runS (As := [.long u]) (rest := []) ⟨hx, hb, hml, hown, hts⟩ (c_X8_lowestOf l D Y u ) (va_cwS 1 hts gX8_memberOf_X8_lowestOf rfl rfl rfl hdX8_lowestOf ⟨Nat.le_of_ble_eq_true rfl, Nat.le_of_ble_eq_true rfl⟩) (ro_pS hK hP) rfl rfl hl.1 rfl (lv_room (Nat.le_of_ble_eq_true rfl)) dX8_memberOf_24 ⟨Nat.le_of_ble_eq_true rfl, Nat.le_of_ble_eq_true rfl⟩) ?_
        refine lv_topi (fun x24 ex24 => ?_)
        exact ro_iret (v := x24) hx hb hr hlocks (by rw [ex24, hu, show i = n by omega]) dX8_memberOf_27
      refine lv_lload_n (pc := 11) hx hb dX8_memberOf_11 rfl (lv_at hl 2 rfl) ?_
      refine lv_lload_n (pc := 12) hx hb dX8_memberOf_12 rfl (lv_at hl 2 rfl) ?_
      refine lv_lconst (pc := 13) (v := 1) hx hb dX8_memberOf_13 (by decide) ?_
      refine lv_lsub (pc := 14) hx hb dX8_memberOf_14 ?_
      refine lv_land (pc := 15) hx hb dX8_memberOf_15 ?_
      refine lv_lstore_n (pc := 16) (lv' := [(3, .long (u &&& (u - (1 : Int64)))), (0, .long w), (2, .int (nI n)), (5, .int (nI i))]) hx hb dX8_memberOf_16 rfl hl (by decide) rfl (fun ls hl => ?_)
      refine lv_iinc (pc := 17) (v := nI (i + 1)) (lv' := [(5, .int (nI (i + 1))), (3, .long (u &&& (u - (1 : Int64)))), (0, .long w), (2, .int (nI n))]) hx hb dX8_memberOf_17 hl (k := 3) rfl (n_inc i 1) (by decide) rfl (fun ls hl => ?_)
      refine lv_goto (pc := 20) (tgt := 5) hx hb dX8_memberOf_20 (by decide) ?_
      exact ih5 (i + 1) (u &&& (u - (1 : Int64))) (by first | assumption | omega) (by rw [hu]; rfl) (by omega) _ (lv_sub hl [2, 3, 1, 0] rfl)
  exact L5 ((n - 0) + 1) 0 w (by first | assumption | omega) (rfl) (Nat.lt_succ_self _) _ (lv_sub hl [2, 3, 1, 0] rfl)

set_option maxHeartbeats 1200000 in
set_option maxRecDepth 100000 in
theorem c_X0_numberOf (l : Launch) (D : va_G) (Y : vY) (bd : Nat) (bs : Nat) (bf : Nat) (bg : Nat) (c : Nat) (r : Nat) (sd : Nat → Int64) (fb : Nat → Int32) (gb : Nat → Int32) (v : Bool) (x : Int32) (y : Int32) (hC : Cr c r) (hB : BdOK c r sd fb gb) : Ro l yX0_numberOf wsX0_numberOf ({ frames := 0, cells := 0, slots := 0, locals := 0 } : Room) [.ref bd, .int (zb v), .int x, .int y] D Y [(bd, .inr (0, [.int (nI c), .int (nI r), .int (nI (al c r)), .int (nI (c * r)), .ref bs, .ref bf, .ref bg])), (bs, .inl (Y.2.1, 16, .inr (.inl sd))), (bf, .inl (Y.1, 40, .inl fb)), (bg, .inl (Y.1, 40, .inl gb))] (some (.int (numI c r v x y))) := by
  refine ro_intro (by decide +kernel) rfl (Nat.le_of_ble_eq_true rfl) [(0, .ref bd), (1, .int (zb v)), (2, .int x), (3, .int y)] rfl ?_
  intro pG eG sG mG aG bG tG cG ls hx hb hr hml hts hown hlocks hK hP hl
  have hP : va_P D vwCl [(bd, .inr (0, [.int (nI c), .int (nI r), .int (nI (al c r)), .int (nI (c * r)), .ref bs, .ref bf, .ref bg])), (bs, .inl (Y.2.1, 16, .inr (.inl sd))), (bf, .inl (Y.1, 40, .inl fb)), (bg, .inl (Y.1, 40, .inl gb))] sG.heap := hP
  have hown : sG.vm.findClass RX0 = some mG.cls := hown
  have hl : lv_has ls 7 [(0, .ref bd), (1, .int (zb v)), (2, .int x), (3, .int y)] := hl
  have hinX0 : ∀ w ∈ u_ws RX0 TX0 7, w ∈ wsX0_numberOf := by decide +kernel
  obtain ⟨hq1, hq2, hq3, hq4, hq5, hq6, hq7, hq8, hq9, hq10, hq11⟩ := hC.q
  refine lv_iload_n (pc := 0) hx hb dX0_numberOf_0 rfl (lv_at hl 1 rfl) ?_
  refine z_if_eq (pc := 1) (tgt := 13) hx hb dX0_numberOf_1 (by decide) (fun c1 => ?_) (fun c1 => ?_)
  · subst c1
    refine lv_aload_n (pc := 13) hx hb dX0_numberOf_13 rfl (lv_at hl 0 rfl) ?_
    refine va_get (pc := 14) (D := D) (ci := 0) (v := .int (nI c)) (C := RX0) (T := TX0) (N := 7) hx hb hts hinX0 hown hK.1 hP 0 rfl rfl 0 (by decide) (hts (.fieldLink RX0 22 "BoxesGame$Board" "columns" "I") (List.mem_of_getElem? (i := 1) rfl)) (fun _ h9 => h9) rfl dX0_numberOf_14 ?_
    refine lv_istore (pc := 17) (lv' := [(4, .int (nI c)), (0, .ref bd), (1, .int (zb false)), (2, .int x), (3, .int y)]) hx hb dX0_numberOf_17 hl (by decide) rfl (fun ls hl => ?_)
    refine lv_iload_n (pc := 19) hx hb dX0_numberOf_19 rfl (lv_at hl 2 rfl) ?_
    refine z_if_eq (pc := 20) (tgt := 30) hx hb dX0_numberOf_20 (by decide) (fun c20 => ?_) (fun c20 => ?_)
    · refine lv_aload_n (pc := 30) hx hb dX0_numberOf_30 rfl (lv_at hl 1 rfl) ?_
      refine va_get (pc := 31) (D := D) (ci := 0) (v := .int (nI r)) (C := RX0) (T := TX0) (N := 7) hx hb hts hinX0 hown hK.1 hP 0 rfl rfl 1 (by decide) (hts (.fieldLink RX0 26 "BoxesGame$Board" "rows" "I") (List.mem_of_getElem? (i := 2) rfl)) (fun _ h9 => h9) rfl dX0_numberOf_31 ?_
      refine lv_iconst (pc := 34) (v := nI 1) hx hb dX0_numberOf_34 rfl ?_
      refine n_iadd (pc := 35) hx hb dX0_numberOf_35 ?_
      refine lv_istore (pc := 36) (lv' := [(5, .int (nI (r + 1))), (4, .int (nI c)), (0, .ref bd), (1, .int (zb false)), (2, .int x), (3, .int y)]) hx hb dX0_numberOf_36 hl (by decide) rfl (fun ls hl => ?_)
      refine lv_iload_n (pc := 38) hx hb dX0_numberOf_38 rfl (lv_at hl 4 rfl) ?_
      refine lv_if_lt (pc := 39) (tgt := 58) hx hb dX0_numberOf_39 (by decide) (fun c39 => ?_) (fun c39 => ?_)
      · refine lv_iconst (pc := 58) (v := (-1)) hx hb dX0_numberOf_58 (by decide) ?_
        exact ro_iret (v := (-1)) hx hb hr hlocks (numI_no (exM_f0 hC (Or.inl (Or.inl c39)))) dX0_numberOf_59
      refine lv_iload_n (pc := 42) hx hb dX0_numberOf_42 rfl (lv_at hl 4 rfl) ?_
      refine lv_iload (pc := 43) hx hb dX0_numberOf_43 (lv_at hl 1 rfl) ?_
      refine lv_icmp_ge (pc := 45) (tgt := 58) hx hb dX0_numberOf_45 (by decide) (fun c45 => ?_) (fun c45 => ?_)
      · refine lv_iconst (pc := 58) (v := (-1)) hx hb dX0_numberOf_58 (by decide) ?_
        exact ro_iret (v := (-1)) hx hb hr hlocks (numI_no (exM_f0 hC (Or.inl (Or.inr c45)))) dX0_numberOf_59
      refine lv_iload_n (pc := 48) hx hb dX0_numberOf_48 rfl (lv_at hl 5 rfl) ?_
      refine lv_if_lt (pc := 49) (tgt := 58) hx hb dX0_numberOf_49 (by decide) (fun c49 => ?_) (fun c49 => ?_)
      · refine lv_iconst (pc := 58) (v := (-1)) hx hb dX0_numberOf_58 (by decide) ?_
        exact ro_iret (v := (-1)) hx hb hr hlocks (numI_no (exM_f0 hC (Or.inr (Or.inl c49)))) dX0_numberOf_59
      refine lv_iload_n (pc := 52) hx hb dX0_numberOf_52 rfl (lv_at hl 5 rfl) ?_
      refine lv_iload (pc := 53) hx hb dX0_numberOf_53 (lv_at hl 0 rfl) ?_
      refine lv_icmp_lt (pc := 55) (tgt := 60) hx hb dX0_numberOf_55 (by decide) (fun c55 => ?_) (fun c55 => ?_)
      · obtain ⟨jx, hjx, rfl⟩ := nI_of c39
        obtain ⟨jy, hjy, rfl⟩ := nI_of c49
        have hjx2 := Nat.lt_of_not_le (fun q => c45 (nI_le q hjx))
        have hjy2 := (nI_ltI hjy (by omega)).mp c55
        have hl : lv_has ls 7 [(5, .int (nI (r + 1))), (4, .int (nI c)), (0, .ref bd), (1, .int (zb false)), (2, .int (nI jx)), (3, .int (nI jy))] := hl
        refine lv_iload_n (pc := 60) hx hb dX0_numberOf_60 rfl (lv_at hl 3 rfl) ?_
        refine z_if_eq (pc := 61) (tgt := 78) hx hb dX0_numberOf_61 (by decide) (fun c61 => ?_) (fun c61 => ?_)
        · refine lv_iconst (pc := 78) (v := nI 0) hx hb dX0_numberOf_78 rfl ?_
          refine lv_istore (pc := 79) (lv' := [(6, .int (nI 0)), (5, .int (nI (r + 1))), (4, .int (nI c)), (0, .ref bd), (1, .int (zb false)), (2, .int (nI jx)), (3, .int (nI jy))]) hx hb dX0_numberOf_79 hl (by decide) rfl (fun ls hl => ?_)
          refine lv_iload (pc := 81) hx hb dX0_numberOf_81 (lv_at hl 0 rfl) ?_
          refine lv_iload_n (pc := 83) hx hb dX0_numberOf_83 rfl (lv_at hl 6 rfl) ?_
          refine lv_iload (pc := 84) hx hb dX0_numberOf_84 (lv_at hl 2 rfl) ?_
          refine n_imul (pc := 86) hx hb dX0_numberOf_86 ?_
          refine n_iadd (pc := 87) hx hb dX0_numberOf_87 ?_
          refine lv_iload_n (pc := 88) hx hb dX0_numberOf_88 rfl (lv_at hl 5 rfl) ?_
          refine n_iadd (pc := 89) hx hb dX0_numberOf_89 ?_
          exact ro_iret (v := nI ((0 + (jy * c)) + jx)) hx hb hr hlocks (by rw [numI_nat (v := false) hC hjx2 hjy2]; unfold numM; congr 1; simp) dX0_numberOf_90
        · exact absurd c61 (by decide)
      refine lv_iconst (pc := 58) (v := (-1)) hx hb dX0_numberOf_58 (by decide) ?_
      exact ro_iret (v := (-1)) hx hb hr hlocks (numI_no (exM_f0 hC (Or.inr (Or.inr (Int32.not_lt.mp c55))))) dX0_numberOf_59
    · exact absurd c20 (by decide)
  subst c1
  refine lv_aload_n (pc := 4) hx hb dX0_numberOf_4 rfl (lv_at hl 0 rfl) ?_
  refine va_get (pc := 5) (D := D) (ci := 0) (v := .int (nI c)) (C := RX0) (T := TX0) (N := 7) hx hb hts hinX0 hown hK.1 hP 0 rfl rfl 0 (by decide) (hts (.fieldLink RX0 22 "BoxesGame$Board" "columns" "I") (List.mem_of_getElem? (i := 1) rfl)) (fun _ h9 => h9) rfl dX0_numberOf_5 ?_
  refine lv_iconst (pc := 8) (v := nI 1) hx hb dX0_numberOf_8 rfl ?_
  refine n_iadd (pc := 9) hx hb dX0_numberOf_9 ?_
  refine lv_goto (pc := 10) (tgt := 17) hx hb dX0_numberOf_10 (by decide) ?_
  refine lv_istore (pc := 17) (lv' := [(4, .int (nI (c + 1))), (0, .ref bd), (1, .int (zb true)), (2, .int x), (3, .int y)]) hx hb dX0_numberOf_17 hl (by decide) rfl (fun ls hl => ?_)
  refine lv_iload_n (pc := 19) hx hb dX0_numberOf_19 rfl (lv_at hl 2 rfl) ?_
  refine z_if_eq (pc := 20) (tgt := 30) hx hb dX0_numberOf_20 (by decide) (fun c20 => ?_) (fun c20 => ?_)
  · exact absurd c20 (by decide)
  refine lv_aload_n (pc := 23) hx hb dX0_numberOf_23 rfl (lv_at hl 1 rfl) ?_
  refine va_get (pc := 24) (D := D) (ci := 0) (v := .int (nI r)) (C := RX0) (T := TX0) (N := 7) hx hb hts hinX0 hown hK.1 hP 0 rfl rfl 1 (by decide) (hts (.fieldLink RX0 26 "BoxesGame$Board" "rows" "I") (List.mem_of_getElem? (i := 2) rfl)) (fun _ h9 => h9) rfl dX0_numberOf_24 ?_
  refine lv_goto (pc := 27) (tgt := 36) hx hb dX0_numberOf_27 (by decide) ?_
  refine lv_istore (pc := 36) (lv' := [(5, .int (nI r)), (4, .int (nI (c + 1))), (0, .ref bd), (1, .int (zb true)), (2, .int x), (3, .int y)]) hx hb dX0_numberOf_36 hl (by decide) rfl (fun ls hl => ?_)
  refine lv_iload_n (pc := 38) hx hb dX0_numberOf_38 rfl (lv_at hl 4 rfl) ?_
  refine lv_if_lt (pc := 39) (tgt := 58) hx hb dX0_numberOf_39 (by decide) (fun c39 => ?_) (fun c39 => ?_)
  · refine lv_iconst (pc := 58) (v := (-1)) hx hb dX0_numberOf_58 (by decide) ?_
    exact ro_iret (v := (-1)) hx hb hr hlocks (numI_no (exM_t0 hC (Or.inl (Or.inl c39)))) dX0_numberOf_59
  refine lv_iload_n (pc := 42) hx hb dX0_numberOf_42 rfl (lv_at hl 4 rfl) ?_
  refine lv_iload (pc := 43) hx hb dX0_numberOf_43 (lv_at hl 1 rfl) ?_
  refine lv_icmp_ge (pc := 45) (tgt := 58) hx hb dX0_numberOf_45 (by decide) (fun c45 => ?_) (fun c45 => ?_)
  · refine lv_iconst (pc := 58) (v := (-1)) hx hb dX0_numberOf_58 (by decide) ?_
    exact ro_iret (v := (-1)) hx hb hr hlocks (numI_no (exM_t0 hC (Or.inl (Or.inr c45)))) dX0_numberOf_59
  refine lv_iload_n (pc := 48) hx hb dX0_numberOf_48 rfl (lv_at hl 5 rfl) ?_
  refine lv_if_lt (pc := 49) (tgt := 58) hx hb dX0_numberOf_49 (by decide) (fun c49 => ?_) (fun c49 => ?_)
  · refine lv_iconst (pc := 58) (v := (-1)) hx hb dX0_numberOf_58 (by decide) ?_
    exact ro_iret (v := (-1)) hx hb hr hlocks (numI_no (exM_t0 hC (Or.inr (Or.inl c49)))) dX0_numberOf_59
  refine lv_iload_n (pc := 52) hx hb dX0_numberOf_52 rfl (lv_at hl 5 rfl) ?_
  refine lv_iload (pc := 53) hx hb dX0_numberOf_53 (lv_at hl 0 rfl) ?_
  refine lv_icmp_lt (pc := 55) (tgt := 60) hx hb dX0_numberOf_55 (by decide) (fun c55 => ?_) (fun c55 => ?_)
  · obtain ⟨jx, hjx, rfl⟩ := nI_of c39
    obtain ⟨jy, hjy, rfl⟩ := nI_of c49
    have hjx2 := Nat.lt_of_not_le (fun q => c45 (nI_le q hjx))
    have hjy2 := (nI_ltI hjy (by omega)).mp c55
    have hl : lv_has ls 7 [(5, .int (nI r)), (4, .int (nI (c + 1))), (0, .ref bd), (1, .int (zb true)), (2, .int (nI jx)), (3, .int (nI jy))] := hl
    refine lv_iload_n (pc := 60) hx hb dX0_numberOf_60 rfl (lv_at hl 3 rfl) ?_
    refine z_if_eq (pc := 61) (tgt := 78) hx hb dX0_numberOf_61 (by decide) (fun c61 => ?_) (fun c61 => ?_)
    · exact absurd c61 (by decide)
    refine lv_aload_n (pc := 64) hx hb dX0_numberOf_64 rfl (lv_at hl 2 rfl) ?_
    refine va_get (pc := 65) (D := D) (ci := 0) (v := .int (nI c)) (C := RX0) (T := TX0) (N := 7) hx hb hts hinX0 hown hK.1 hP 0 rfl rfl 0 (by decide) (hts (.fieldLink RX0 22 "BoxesGame$Board" "columns" "I") (List.mem_of_getElem? (i := 1) rfl)) (fun _ h9 => h9) rfl dX0_numberOf_65 ?_
    refine lv_aload_n (pc := 68) hx hb dX0_numberOf_68 rfl (lv_at hl 2 rfl) ?_
    refine va_get (pc := 69) (D := D) (ci := 0) (v := .int (nI r)) (C := RX0) (T := TX0) (N := 7) hx hb hts hinX0 hown hK.1 hP 0 rfl rfl 1 (by decide) (hts (.fieldLink RX0 26 "BoxesGame$Board" "rows" "I") (List.mem_of_getElem? (i := 2) rfl)) (fun _ h9 => h9) rfl dX0_numberOf_69 ?_
    refine lv_iconst (pc := 72) (v := nI 1) hx hb dX0_numberOf_72 rfl ?_
    refine n_iadd (pc := 73) hx hb dX0_numberOf_73 ?_
    refine n_imul (pc := 74) hx hb dX0_numberOf_74 ?_
    refine lv_goto (pc := 75) (tgt := 79) hx hb dX0_numberOf_75 (by decide) ?_
    refine lv_istore (pc := 79) (lv' := [(6, .int (nI (c * (r + 1)))), (5, .int (nI r)), (4, .int (nI (c + 1))), (0, .ref bd), (1, .int (zb true)), (2, .int (nI jx)), (3, .int (nI jy))]) hx hb dX0_numberOf_79 hl (by decide) rfl (fun ls hl => ?_)
    refine lv_iload (pc := 81) hx hb dX0_numberOf_81 (lv_at hl 0 rfl) ?_
    refine lv_iload_n (pc := 83) hx hb dX0_numberOf_83 rfl (lv_at hl 6 rfl) ?_
    refine lv_iload (pc := 84) hx hb dX0_numberOf_84 (lv_at hl 2 rfl) ?_
    refine n_imul (pc := 86) hx hb dX0_numberOf_86 ?_
    refine n_iadd (pc := 87) hx hb dX0_numberOf_87 ?_
    refine lv_iload_n (pc := 88) hx hb dX0_numberOf_88 rfl (lv_at hl 5 rfl) ?_
    refine n_iadd (pc := 89) hx hb dX0_numberOf_89 ?_
    exact ro_iret (v := nI (((c * (r + 1)) + (jy * (c + 1))) + jx)) hx hb hr hlocks (by rw [numI_nat (v := true) hC hjx2 hjy2]; unfold numM lvl; congr 1; simp only [if_true]; rw [Nat.mul_comm c (r + 1)]) dX0_numberOf_90
  refine lv_iconst (pc := 58) (v := (-1)) hx hb dX0_numberOf_58 (by decide) ?_
  exact ro_iret (v := (-1)) hx hb hr hlocks (numI_no (exM_t0 hC (Or.inr (Or.inr (Int32.not_lt.mp c55))))) dX0_numberOf_59

set_option maxHeartbeats 1200000 in
set_option maxRecDepth 100000 in
theorem c_X0_hasLine (l : Launch) (D : va_G) (Y : vY) (bd : Nat) (bs : Nat) (bf : Nat) (bg : Nat) (c : Nat) (r : Nat) (sd : Nat → Int64) (fb : Nat → Int32) (gb : Nat → Int32) (x : Int32) (hC : Cr c r) (hB : BdOK c r sd fb gb) : Ro l yX0_hasLine wsX0_hasLine ({ frames := 0, cells := 0, slots := 0, locals := 0 } : Room) [.ref bd, .int x] D Y [(bd, .inr (0, [.int (nI c), .int (nI r), .int (nI (al c r)), .int (nI (c * r)), .ref bs, .ref bf, .ref bg])), (bs, .inl (Y.2.1, 16, .inr (.inl sd))), (bf, .inl (Y.1, 40, .inl fb)), (bg, .inl (Y.1, 40, .inl gb))] (some (.int (zb (wi x (nI 0) (nI (al c r - 1)))))) := by
  refine ro_intro (by decide +kernel) rfl (Nat.le_of_ble_eq_true rfl) [(0, .ref bd), (1, .int x)] rfl ?_
  intro pG eG sG mG aG bG tG cG ls hx hb hr hml hts hown hlocks hK hP hl
  have hP : va_P D vwCl [(bd, .inr (0, [.int (nI c), .int (nI r), .int (nI (al c r)), .int (nI (c * r)), .ref bs, .ref bf, .ref bg])), (bs, .inl (Y.2.1, 16, .inr (.inl sd))), (bf, .inl (Y.1, 40, .inl fb)), (bg, .inl (Y.1, 40, .inl gb))] sG.heap := hP
  have hown : sG.vm.findClass RX0 = some mG.cls := hown
  have hl : lv_has ls 2 [(0, .ref bd), (1, .int x)] := hl
  have hinX0 : ∀ w ∈ u_ws RX0 TX0 7, w ∈ wsX0_hasLine := by decide +kernel
  obtain ⟨hq1, hq2, hq3, hq4, hq5, hq6, hq7, hq8, hq9, hq10, hq11⟩ := hC.q
  refine lv_iload_n (pc := 0) hx hb dX0_hasLine_0 rfl (lv_at hl 1 rfl) ?_
  refine lv_if_lt (pc := 1) (tgt := 16) hx hb dX0_hasLine_1 (by decide) (fun c1 => ?_) (fun c1 => ?_)
  · refine lv_iconst (pc := 16) (v := nI 0) hx hb dX0_hasLine_16 rfl ?_
    exact ro_zret hx hb hr hlocks (zb_0 (by first | exact wi_lt (by omega) (by omega) c1 c9 | exact wi_ge (by omega) (by omega) (Or.inl c1) | exact wi_ge (by omega) (by omega) (Or.inr c9))) dX0_hasLine_17
  refine lv_iload_n (pc := 4) hx hb dX0_hasLine_4 rfl (lv_at hl 1 rfl) ?_
  refine lv_aload_n (pc := 5) hx hb dX0_hasLine_5 rfl (lv_at hl 0 rfl) ?_
  refine va_get (pc := 6) (D := D) (ci := 0) (v := .int (nI (al c r))) (C := RX0) (T := TX0) (N := 7) hx hb hts hinX0 hown hK.1 hP 0 rfl rfl 2 (by decide) (hts (.fieldLink RX0 32 "BoxesGame$Board" "lineCount" "I") (List.mem_of_getElem? (i := 1) rfl)) (fun _ h9 => h9) rfl dX0_hasLine_6 ?_
  refine lv_icmp_ge (pc := 9) (tgt := 16) hx hb dX0_hasLine_9 (by decide) (fun c9 => ?_) (fun c9 => ?_)
  · refine lv_iconst (pc := 16) (v := nI 0) hx hb dX0_hasLine_16 rfl ?_
    exact ro_zret hx hb hr hlocks (zb_0 (by first | exact wi_lt (by omega) (by omega) c1 c9 | exact wi_ge (by omega) (by omega) (Or.inl c1) | exact wi_ge (by omega) (by omega) (Or.inr c9))) dX0_hasLine_17
  refine lv_iconst (pc := 12) (v := nI 1) hx hb dX0_hasLine_12 rfl ?_
  refine lv_goto (pc := 13) (tgt := 17) hx hb dX0_hasLine_13 (by decide) ?_
  exact ro_zret hx hb hr hlocks (zb_1 (by first | exact wi_lt (by omega) (by omega) c1 c9 | exact wi_ge (by omega) (by omega) (Or.inl c1) | exact wi_ge (by omega) (by omega) (Or.inr c9))) dX0_hasLine_17

set_option maxHeartbeats 1200000 in
set_option maxRecDepth 100000 in
theorem c_X0_hasBox (l : Launch) (D : va_G) (Y : vY) (bd : Nat) (bs : Nat) (bf : Nat) (bg : Nat) (c : Nat) (r : Nat) (sd : Nat → Int64) (fb : Nat → Int32) (gb : Nat → Int32) (x : Int32) (hC : Cr c r) (hB : BdOK c r sd fb gb) : Ro l yX0_hasBox wsX0_hasBox ({ frames := 0, cells := 0, slots := 0, locals := 0 } : Room) [.ref bd, .int x] D Y [(bd, .inr (0, [.int (nI c), .int (nI r), .int (nI (al c r)), .int (nI (c * r)), .ref bs, .ref bf, .ref bg])), (bs, .inl (Y.2.1, 16, .inr (.inl sd))), (bf, .inl (Y.1, 40, .inl fb)), (bg, .inl (Y.1, 40, .inl gb))] (some (.int (zb (wi x (nI 0) (nI (c * r - 1)))))) := by
  refine ro_intro (by decide +kernel) rfl (Nat.le_of_ble_eq_true rfl) [(0, .ref bd), (1, .int x)] rfl ?_
  intro pG eG sG mG aG bG tG cG ls hx hb hr hml hts hown hlocks hK hP hl
  have hP : va_P D vwCl [(bd, .inr (0, [.int (nI c), .int (nI r), .int (nI (al c r)), .int (nI (c * r)), .ref bs, .ref bf, .ref bg])), (bs, .inl (Y.2.1, 16, .inr (.inl sd))), (bf, .inl (Y.1, 40, .inl fb)), (bg, .inl (Y.1, 40, .inl gb))] sG.heap := hP
  have hown : sG.vm.findClass RX0 = some mG.cls := hown
  have hl : lv_has ls 2 [(0, .ref bd), (1, .int x)] := hl
  have hinX0 : ∀ w ∈ u_ws RX0 TX0 7, w ∈ wsX0_hasBox := by decide +kernel
  obtain ⟨hq1, hq2, hq3, hq4, hq5, hq6, hq7, hq8, hq9, hq10, hq11⟩ := hC.q
  refine lv_iload_n (pc := 0) hx hb dX0_hasBox_0 rfl (lv_at hl 1 rfl) ?_
  refine lv_if_lt (pc := 1) (tgt := 16) hx hb dX0_hasBox_1 (by decide) (fun c1 => ?_) (fun c1 => ?_)
  · refine lv_iconst (pc := 16) (v := nI 0) hx hb dX0_hasBox_16 rfl ?_
    exact ro_zret hx hb hr hlocks (zb_0 (by first | exact wi_lt (by omega) (by omega) c1 c9 | exact wi_ge (by omega) (by omega) (Or.inl c1) | exact wi_ge (by omega) (by omega) (Or.inr c9))) dX0_hasBox_17
  refine lv_iload_n (pc := 4) hx hb dX0_hasBox_4 rfl (lv_at hl 1 rfl) ?_
  refine lv_aload_n (pc := 5) hx hb dX0_hasBox_5 rfl (lv_at hl 0 rfl) ?_
  refine va_get (pc := 6) (D := D) (ci := 0) (v := .int (nI (c * r))) (C := RX0) (T := TX0) (N := 7) hx hb hts hinX0 hown hK.1 hP 0 rfl rfl 3 (by decide) (hts (.fieldLink RX0 29 "BoxesGame$Board" "boxCount" "I") (List.mem_of_getElem? (i := 1) rfl)) (fun _ h9 => h9) rfl dX0_hasBox_6 ?_
  refine lv_icmp_ge (pc := 9) (tgt := 16) hx hb dX0_hasBox_9 (by decide) (fun c9 => ?_) (fun c9 => ?_)
  · refine lv_iconst (pc := 16) (v := nI 0) hx hb dX0_hasBox_16 rfl ?_
    exact ro_zret hx hb hr hlocks (zb_0 (by first | exact wi_lt (by omega) (by omega) c1 c9 | exact wi_ge (by omega) (by omega) (Or.inl c1) | exact wi_ge (by omega) (by omega) (Or.inr c9))) dX0_hasBox_17
  refine lv_iconst (pc := 12) (v := nI 1) hx hb dX0_hasBox_12 rfl ?_
  refine lv_goto (pc := 13) (tgt := 17) hx hb dX0_hasBox_13 (by decide) ?_
  exact ro_zret hx hb hr hlocks (zb_1 (by first | exact wi_lt (by omega) (by omega) c1 c9 | exact wi_ge (by omega) (by omega) (Or.inl c1) | exact wi_ge (by omega) (by omega) (Or.inr c9))) dX0_hasBox_17

set_option maxHeartbeats 1200000 in
set_option maxRecDepth 100000 in
theorem c_X0_cornerCount (l : Launch) (D : va_G) (Y : vY) (bd : Nat) (bs : Nat) (bf : Nat) (bg : Nat) (c : Nat) (r : Nat) (sd : Nat → Int64) (fb : Nat → Int32) (gb : Nat → Int32) (hC : Cr c r) (hB : BdOK c r sd fb gb) : Ro l yX0_cornerCount wsX0_cornerCount ({ frames := 0, cells := 0, slots := 0, locals := 0 } : Room) [.ref bd] D Y [(bd, .inr (0, [.int (nI c), .int (nI r), .int (nI (al c r)), .int (nI (c * r)), .ref bs, .ref bf, .ref bg])), (bs, .inl (Y.2.1, 16, .inr (.inl sd))), (bf, .inl (Y.1, 40, .inl fb)), (bg, .inl (Y.1, 40, .inl gb))] (some (.int (nI ((c + 1) * (r + 1))))) := by
  refine ro_intro (by decide +kernel) rfl (Nat.le_of_ble_eq_true rfl) [(0, .ref bd)] rfl ?_
  intro pG eG sG mG aG bG tG cG ls hx hb hr hml hts hown hlocks hK hP hl
  have hP : va_P D vwCl [(bd, .inr (0, [.int (nI c), .int (nI r), .int (nI (al c r)), .int (nI (c * r)), .ref bs, .ref bf, .ref bg])), (bs, .inl (Y.2.1, 16, .inr (.inl sd))), (bf, .inl (Y.1, 40, .inl fb)), (bg, .inl (Y.1, 40, .inl gb))] sG.heap := hP
  have hown : sG.vm.findClass RX0 = some mG.cls := hown
  have hl : lv_has ls 1 [(0, .ref bd)] := hl
  have hinX0 : ∀ w ∈ u_ws RX0 TX0 7, w ∈ wsX0_cornerCount := by decide +kernel
  obtain ⟨hq1, hq2, hq3, hq4, hq5, hq6, hq7, hq8, hq9, hq10, hq11⟩ := hC.q
  refine lv_aload_n (pc := 0) hx hb dX0_cornerCount_0 rfl (lv_at hl 0 rfl) ?_
  refine va_get (pc := 1) (D := D) (ci := 0) (v := .int (nI c)) (C := RX0) (T := TX0) (N := 7) hx hb hts hinX0 hown hK.1 hP 0 rfl rfl 0 (by decide) (hts (.fieldLink RX0 22 "BoxesGame$Board" "columns" "I") (List.mem_of_getElem? (i := 1) rfl)) (fun _ h9 => h9) rfl dX0_cornerCount_1 ?_
  refine lv_iconst (pc := 4) (v := nI 1) hx hb dX0_cornerCount_4 rfl ?_
  refine n_iadd (pc := 5) hx hb dX0_cornerCount_5 ?_
  refine lv_aload_n (pc := 6) hx hb dX0_cornerCount_6 rfl (lv_at hl 0 rfl) ?_
  refine va_get (pc := 7) (D := D) (ci := 0) (v := .int (nI r)) (C := RX0) (T := TX0) (N := 7) hx hb hts hinX0 hown hK.1 hP 0 rfl rfl 1 (by decide) (hts (.fieldLink RX0 26 "BoxesGame$Board" "rows" "I") (List.mem_of_getElem? (i := 2) rfl)) (fun _ h9 => h9) rfl dX0_cornerCount_7 ?_
  refine lv_iconst (pc := 10) (v := nI 1) hx hb dX0_cornerCount_10 rfl ?_
  refine n_iadd (pc := 11) hx hb dX0_cornerCount_11 ?_
  refine n_imul (pc := 12) hx hb dX0_cornerCount_12 ?_
  exact ro_iret (v := nI ((c + 1) * (r + 1))) hx hb hr hlocks (rfl) dX0_cornerCount_13

set_option maxHeartbeats 1200000 in
set_option maxRecDepth 100000 in
theorem c_X0_firstBox (l : Launch) (D : va_G) (Y : vY) (bd : Nat) (bs : Nat) (bf : Nat) (bg : Nat) (c : Nat) (r : Nat) (sd : Nat → Int64) (fb : Nat → Int32) (gb : Nat → Int32) (li : Nat) (hC : Cr c r) (hB : BdOK c r sd fb gb) (hl0 : li < al c r) : Ro l yX0_firstBox wsX0_firstBox ({ frames := 1, cells := 0, slots := 0, locals := 21 } : Room) [.ref bd, .int (nI li)] D Y [(bd, .inr (0, [.int (nI c), .int (nI r), .int (nI (al c r)), .int (nI (c * r)), .ref bs, .ref bf, .ref bg])), (bs, .inl (Y.2.1, 16, .inr (.inl sd))), (bf, .inl (Y.1, 40, .inl fb)), (bg, .inl (Y.1, 40, .inl gb))] (some (.int (oI (fbM c r li)))) := by
  refine ro_intro (by decide +kernel) rfl (Nat.le_of_ble_eq_true rfl) [(0, .ref bd), (1, .int (nI li))] rfl ?_
  intro pG eG sG mG aG bG tG cG ls hx hb hr hml hts hown hlocks hK hP hl
  have hP : va_P D vwCl [(bd, .inr (0, [.int (nI c), .int (nI r), .int (nI (al c r)), .int (nI (c * r)), .ref bs, .ref bf, .ref bg])), (bs, .inl (Y.2.1, 16, .inr (.inl sd))), (bf, .inl (Y.1, 40, .inl fb)), (bg, .inl (Y.1, 40, .inl gb))] sG.heap := hP
  have hown : sG.vm.findClass RX0 = some mG.cls := hown
  have hl : lv_has ls 2 [(0, .ref bd), (1, .int (nI li))] := hl
  have hinX0 : ∀ w ∈ u_ws RX0 TX0 7, w ∈ wsX0_firstBox := by decide +kernel
  obtain ⟨hq1, hq2, hq3, hq4, hq5, hq6, hq7, hq8, hq9, hq10, hq11⟩ := hC.q
  refine lv_aload_n (pc := 0) hx hb dX0_firstBox_0 rfl (lv_at hl 0 rfl) ?_
  refine va_get (pc := 1) (D := D) (ci := 0) (v := .ref bf) (C := RX0) (T := TX0) (N := 7) hx hb hts hinX0 hown hK.1 hP 0 rfl rfl 5 (by decide) (hts (.fieldLink RX0 15 "BoxesGame$Board" "firstBoxes" "[I") (List.mem_of_getElem? (i := 1) rfl)) (fun _ h9 => h9) rfl dX0_firstBox_1 ?_
  refine lv_iload_n (pc := 4) hx hb dX0_firstBox_4 rfl (lv_at hl 1 rfl) ?_
  refine ro_go (pc := 5) (va_runS (As := [.ref bf, .int (nI li)]) (rest := []) ⟨hx, hb, hml, hown, hts⟩ (c_X3_at_in l D Y 40 fb bf li (by decide) (by first | assumption | omega)) (va_cwS 2 hts gX0_firstBox_X3_at rfl rfl rfl hdX3_at ⟨Nat.le_of_ble_eq_true rfl, Nat.le_of_ble_eq_true rfl⟩) (ro_pS hK (hP.sub [2] rfl)) rfl rfl hl.1 rfl (lv_room (Nat.le_of_ble_eq_true rfl)) dX0_firstBox_5 ⟨Nat.le_of_ble_eq_true rfl, Nat.le_of_ble_eq_true rfl⟩) ?_
  exact ro_iret (v := fb li) hx hb hr hlocks (hB.2.1 li hl0) dX0_firstBox_8

set_option maxHeartbeats 1200000 in
set_option maxRecDepth 100000 in
theorem c_X0_secondBox (l : Launch) (D : va_G) (Y : vY) (bd : Nat) (bs : Nat) (bf : Nat) (bg : Nat) (c : Nat) (r : Nat) (sd : Nat → Int64) (fb : Nat → Int32) (gb : Nat → Int32) (li : Nat) (hC : Cr c r) (hB : BdOK c r sd fb gb) (hl0 : li < al c r) : Ro l yX0_secondBox wsX0_secondBox ({ frames := 1, cells := 0, slots := 0, locals := 21 } : Room) [.ref bd, .int (nI li)] D Y [(bd, .inr (0, [.int (nI c), .int (nI r), .int (nI (al c r)), .int (nI (c * r)), .ref bs, .ref bf, .ref bg])), (bs, .inl (Y.2.1, 16, .inr (.inl sd))), (bf, .inl (Y.1, 40, .inl fb)), (bg, .inl (Y.1, 40, .inl gb))] (some (.int (oI (gbM c r li)))) := by
  refine ro_intro (by decide +kernel) rfl (Nat.le_of_ble_eq_true rfl) [(0, .ref bd), (1, .int (nI li))] rfl ?_
  intro pG eG sG mG aG bG tG cG ls hx hb hr hml hts hown hlocks hK hP hl
  have hP : va_P D vwCl [(bd, .inr (0, [.int (nI c), .int (nI r), .int (nI (al c r)), .int (nI (c * r)), .ref bs, .ref bf, .ref bg])), (bs, .inl (Y.2.1, 16, .inr (.inl sd))), (bf, .inl (Y.1, 40, .inl fb)), (bg, .inl (Y.1, 40, .inl gb))] sG.heap := hP
  have hown : sG.vm.findClass RX0 = some mG.cls := hown
  have hl : lv_has ls 2 [(0, .ref bd), (1, .int (nI li))] := hl
  have hinX0 : ∀ w ∈ u_ws RX0 TX0 7, w ∈ wsX0_secondBox := by decide +kernel
  obtain ⟨hq1, hq2, hq3, hq4, hq5, hq6, hq7, hq8, hq9, hq10, hq11⟩ := hC.q
  refine lv_aload_n (pc := 0) hx hb dX0_secondBox_0 rfl (lv_at hl 0 rfl) ?_
  refine va_get (pc := 1) (D := D) (ci := 0) (v := .ref bg) (C := RX0) (T := TX0) (N := 7) hx hb hts hinX0 hown hK.1 hP 0 rfl rfl 6 (by decide) (hts (.fieldLink RX0 19 "BoxesGame$Board" "secondBoxes" "[I") (List.mem_of_getElem? (i := 1) rfl)) (fun _ h9 => h9) rfl dX0_secondBox_1 ?_
  refine lv_iload_n (pc := 4) hx hb dX0_secondBox_4 rfl (lv_at hl 1 rfl) ?_
  refine ro_go (pc := 5) (va_runS (As := [.ref bg, .int (nI li)]) (rest := []) ⟨hx, hb, hml, hown, hts⟩ (c_X3_at_in l D Y 40 gb bg li (by decide) (by first | assumption | omega)) (va_cwS 2 hts gX0_secondBox_X3_at rfl rfl rfl hdX3_at ⟨Nat.le_of_ble_eq_true rfl, Nat.le_of_ble_eq_true rfl⟩) (ro_pS hK (hP.sub [3] rfl)) rfl rfl hl.1 rfl (lv_room (Nat.le_of_ble_eq_true rfl)) dX0_secondBox_5 ⟨Nat.le_of_ble_eq_true rfl, Nat.le_of_ble_eq_true rfl⟩) ?_
  exact ro_iret (v := gb li) hx hb hr hlocks (hB.2.2 li hl0) dX0_secondBox_8

set_option maxHeartbeats 1200000 in
set_option maxRecDepth 100000 in
theorem c_X0_sidesOf (l : Launch) (D : va_G) (Y : vY) (bd : Nat) (bs : Nat) (bf : Nat) (bg : Nat) (c : Nat) (r : Nat) (sd : Nat → Int64) (fb : Nat → Int32) (gb : Nat → Int32) (o : Option Nat) (x : Int32) (hC : Cr c r) (hB : BdOK c r sd fb gb) (hxo : x = oI o) (hob : ∀ b, o = some b → b < c * r) : Ro l yX0_sidesOf wsX0_sidesOf ({ frames := 1, cells := 0, slots := 0, locals := 21 } : Room) [.ref bd, .int x] D Y [(bd, .inr (0, [.int (nI c), .int (nI r), .int (nI (al c r)), .int (nI (c * r)), .ref bs, .ref bf, .ref bg])), (bs, .inl (Y.2.1, 16, .inr (.inl sd))), (bf, .inl (Y.1, 40, .inl fb)), (bg, .inl (Y.1, 40, .inl gb))] (some (.long (sdO c r o))) := by
  refine ro_intro (by decide +kernel) rfl (Nat.le_of_ble_eq_true rfl) [(0, .ref bd), (1, .int x)] rfl ?_
  intro pG eG sG mG aG bG tG cG ls hx hb hr hml hts hown hlocks hK hP hl
  have hP : va_P D vwCl [(bd, .inr (0, [.int (nI c), .int (nI r), .int (nI (al c r)), .int (nI (c * r)), .ref bs, .ref bf, .ref bg])), (bs, .inl (Y.2.1, 16, .inr (.inl sd))), (bf, .inl (Y.1, 40, .inl fb)), (bg, .inl (Y.1, 40, .inl gb))] sG.heap := hP
  have hown : sG.vm.findClass RX0 = some mG.cls := hown
  have hl : lv_has ls 2 [(0, .ref bd), (1, .int x)] := hl
  have hinX0 : ∀ w ∈ u_ws RX0 TX0 7, w ∈ wsX0_sidesOf := by decide +kernel
  obtain ⟨hq1, hq2, hq3, hq4, hq5, hq6, hq7, hq8, hq9, hq10, hq11⟩ := hC.q
  refine lv_aload_n (pc := 0) hx hb dX0_sidesOf_0 rfl (lv_at hl 0 rfl) ?_
  refine va_get (pc := 1) (D := D) (ci := 0) (v := .ref bs) (C := RX0) (T := TX0) (N := 7) hx hb hts hinX0 hown hK.1 hP 0 rfl rfl 4 (by decide) (hts (.fieldLink RX0 9 "BoxesGame$Board" "sides" "[J") (List.mem_of_getElem? (i := 1) rfl)) (fun _ h9 => h9) rfl dX0_sidesOf_1 ?_
  refine lv_iload_n (pc := 4) hx hb dX0_sidesOf_4 rfl (lv_at hl 1 rfl) ?_
  refine ro_go (pc := 5) (va_runS (As := [.ref bs, .int x]) (rest := []) ⟨hx, hb, hml, hown, hts⟩ (c_X3_at_ l D Y 16 sd bs x (by decide)) (va_cwS 2 hts gX0_sidesOf_X3_at_ rfl rfl rfl hdX3_at_ ⟨Nat.le_of_ble_eq_true rfl, Nat.le_of_ble_eq_true rfl⟩) (ro_pS hK (hP.sub [1] rfl)) rfl rfl hl.1 rfl (lv_room (Nat.le_of_ble_eq_true rfl)) dX0_sidesOf_5 ⟨Nat.le_of_ble_eq_true rfl, Nat.le_of_ble_eq_true rfl⟩) ?_
  exact ro_lret (v := atL 16 sd x) hx hb hr hlocks (by subst hxo; exact sdO_at hC hB hob) dX0_sidesOf_8

set_option maxHeartbeats 1200000 in
set_option maxRecDepth 100000 in
theorem c_X0_openAround (l : Launch) (D : va_G) (Y : vY) (bd : Nat) (bs : Nat) (bf : Nat) (bg : Nat) (c : Nat) (r : Nat) (sd : Nat → Int64) (fb : Nat → Int32) (gb : Nat → Int32) (w : Int64) (b : Nat) (hC : Cr c r) (hB : BdOK c r sd fb gb) (hb0 : b < c * r) : Ro l yX0_openAround wsX0_openAround ({ frames := 1, cells := 0, slots := 0, locals := 21 } : Room) [.ref bd, .long w, .int (nI b)] D Y [(bd, .inr (0, [.int (nI c), .int (nI r), .int (nI (al c r)), .int (nI (c * r)), .ref bs, .ref bf, .ref bg])), (bs, .inl (Y.2.1, 16, .inr (.inl sd))), (bf, .inl (Y.1, 40, .inl fb)), (bg, .inl (Y.1, 40, .inl gb))] (some (.long (iOA c r w b))) := by
  refine ro_intro (by decide +kernel) rfl (Nat.le_of_ble_eq_true rfl) [(0, .ref bd), (1, .long w), (3, .int (nI b))] rfl ?_
  intro pG eG sG mG aG bG tG cG ls hx hb hr hml hts hown hlocks hK hP hl
  have hP : va_P D vwCl [(bd, .inr (0, [.int (nI c), .int (nI r), .int (nI (al c r)), .int (nI (c * r)), .ref bs, .ref bf, .ref bg])), (bs, .inl (Y.2.1, 16, .inr (.inl sd))), (bf, .inl (Y.1, 40, .inl fb)), (bg, .inl (Y.1, 40, .inl gb))] sG.heap := hP
  have hown : sG.vm.findClass RX0 = some mG.cls := hown
  have hl : lv_has ls 4 [(0, .ref bd), (1, .long w), (3, .int (nI b))] := hl
  have hinX0 : ∀ w ∈ u_ws RX0 TX0 7, w ∈ wsX0_openAround := by decide +kernel
  obtain ⟨hq1, hq2, hq3, hq4, hq5, hq6, hq7, hq8, hq9, hq10, hq11⟩ := hC.q
  refine lv_aload_n (pc := 0) hx hb dX0_openAround_0 rfl (lv_at hl 0 rfl) ?_
  refine va_get (pc := 1) (D := D) (ci := 0) (v := .ref bs) (C := RX0) (T := TX0) (N := 7) hx hb hts hinX0 hown hK.1 hP 0 rfl rfl 4 (by decide) (hts (.fieldLink RX0 9 "BoxesGame$Board" "sides" "[J") (List.mem_of_getElem? (i := 1) rfl)) (fun _ h9 => h9) rfl dX0_openAround_1 ?_
  refine lv_iload_n (pc := 4) hx hb dX0_openAround_4 rfl (lv_at hl 2 rfl) ?_
  refine ro_go (pc := 5) (va_runS (As := [.ref bs, .int (nI b)]) (rest := []) ⟨hx, hb, hml, hown, hts⟩ (c_X3_at__in l D Y 16 sd bs b (by decide) (by first | assumption | omega)) (va_cwS 2 hts gX0_openAround_X3_at_ rfl rfl rfl hdX3_at_ ⟨Nat.le_of_ble_eq_true rfl, Nat.le_of_ble_eq_true rfl⟩) (ro_pS hK (hP.sub [1] rfl)) rfl rfl hl.1 rfl (lv_room (Nat.le_of_ble_eq_true rfl)) dX0_openAround_5 ⟨Nat.le_of_ble_eq_true rfl, Nat.le_of_ble_eq_true rfl⟩) ?_
  refine lv_lload_n (pc := 8) hx hb dX0_openAround_8 rfl (lv_at hl 1 rfl) ?_
  refine lv_ldc2 (pc := 9) hx hb hown (hts (.constantLong RX0 70 (-1)) (List.mem_of_getElem? (i := 2) rfl)) dX0_openAround_9 ?_
  refine lv_lxor (pc := 12) hx hb dX0_openAround_12 ?_
  refine lv_land (pc := 13) hx hb dX0_openAround_13 ?_
  exact ro_lret (v := (sd b) &&& (w ^^^ (-1 : Int64))) hx hb hr hlocks (by rw [hB.1 b hb0]; rfl) dX0_openAround_14

set_option maxHeartbeats 1200000 in
set_option maxRecDepth 100000 in
theorem c_X0_isComplete (l : Launch) (D : va_G) (Y : vY) (bd : Nat) (bs : Nat) (bf : Nat) (bg : Nat) (c : Nat) (r : Nat) (sd : Nat → Int64) (fb : Nat → Int32) (gb : Nat → Int32) (w : Int64) (o : Option Nat) (x : Int32) (hC : Cr c r) (hB : BdOK c r sd fb gb) (hxo : x = oI o) (hob : ∀ b, o = some b → b < c * r) : Ro l yX0_isComplete wsX0_isComplete ({ frames := 2, cells := 0, slots := 0, locals := 44 } : Room) [.ref bd, .long w, .int x] D Y [(bd, .inr (0, [.int (nI c), .int (nI r), .int (nI (al c r)), .int (nI (c * r)), .ref bs, .ref bf, .ref bg])), (bs, .inl (Y.2.1, 16, .inr (.inl sd))), (bf, .inl (Y.1, 40, .inl fb)), (bg, .inl (Y.1, 40, .inl gb))] (some (.int (zb (cpo c r w o)))) := by
  refine ro_intro (by decide +kernel) rfl (Nat.le_of_ble_eq_true rfl) [(0, .ref bd), (1, .long w), (3, .int x)] rfl ?_
  intro pG eG sG mG aG bG tG cG ls hx hb hr hml hts hown hlocks hK hP hl
  have hP : va_P D vwCl [(bd, .inr (0, [.int (nI c), .int (nI r), .int (nI (al c r)), .int (nI (c * r)), .ref bs, .ref bf, .ref bg])), (bs, .inl (Y.2.1, 16, .inr (.inl sd))), (bf, .inl (Y.1, 40, .inl fb)), (bg, .inl (Y.1, 40, .inl gb))] sG.heap := hP
  have hown : sG.vm.findClass RX0 = some mG.cls := hown
  have hl : lv_has ls 4 [(0, .ref bd), (1, .long w), (3, .int x)] := hl
  obtain ⟨hq1, hq2, hq3, hq4, hq5, hq6, hq7, hq8, hq9, hq10, hq11⟩ := hC.q
  refine lv_aload_n (pc := 0) hx hb dX0_isComplete_0 rfl (lv_at hl 0 rfl) ?_
  refine lv_iload_n (pc := 1) hx hb dX0_isComplete_1 rfl (lv_at hl 2 rfl) ?_
  refine ro_go (pc := 2) (va_runV (As := [.int x]) (rest := []) ⟨hx, hb, hml, hown, hts⟩ (c_X0_hasBox l D Y bd bs bf bg c r sd fb gb x (hC) (hB)) (cwV 1 hts gX0_isComplete_X0_hasBox rfl rfl rfl ⟨rfl, hdX0_hasBox⟩ ⟨Nat.le_of_ble_eq_true rfl, Nat.le_of_ble_eq_true rfl⟩) (ro_pV hK hP (ro_recv hK hP (ci := 0) (q0 := 0) rfl rfl)) rfl rfl hl.1 rfl (lv_room (Nat.le_of_ble_eq_true rfl)) dX0_isComplete_2 ⟨Nat.le_of_ble_eq_true rfl, Nat.le_of_ble_eq_true rfl⟩) ?_
  refine z_if_eq (pc := 5) (tgt := 23) hx hb dX0_isComplete_5 (by decide) (fun c5 => ?_) (fun c5 => ?_)
  · have hno : o = none := by cases o with | none => rfl | some b => subst hxo; have := hob b rfl; rw [show oI (some b) = nI b from rfl, wi_n (by omega) (by omega)] at c5; exact absurd (of_decide_eq_false c5) (by omega)
    refine lv_iconst (pc := 23) (v := nI 0) hx hb dX0_isComplete_23 rfl ?_
    exact ro_zret hx hb hr hlocks (zb_0 (by first | (rw [hno]; rfl) | (rw [hbb]; exact decide_eq_true ((iOA_zero hC (hob b hbb) w).mp c16)) | (rw [hbb]; exact decide_eq_false (fun q => c16 ((iOA_zero hC (hob b hbb) w).mpr q))))) dX0_isComplete_24
  obtain ⟨b, hbb, hxb⟩ : ∃ b, o = some b ∧ x = nI b := by cases o with | none => subst hxo; rw [show oI none = -1 from rfl, wi_neg] at c5; cases c5 | some b => exact ⟨b, rfl, hxo⟩
  subst hxb
  have hl : lv_has ls 4 [(0, .ref bd), (1, .long w), (3, .int (nI b))] := hl
  refine lv_aload_n (pc := 8) hx hb dX0_isComplete_8 rfl (lv_at hl 0 rfl) ?_
  refine lv_lload_n (pc := 9) hx hb dX0_isComplete_9 rfl (lv_at hl 1 rfl) ?_
  refine lv_iload_n (pc := 10) hx hb dX0_isComplete_10 rfl (lv_at hl 2 rfl) ?_
  refine ro_go (pc := 11) (va_runV (As := [.long w, .int (nI b)]) (rest := []) ⟨hx, hb, hml, hown, hts⟩ (c_X0_openAround l D Y bd bs bf bg c r sd fb gb w b (hC) (hB) (hob b hbb)) (cwV 2 hts gX0_isComplete_X0_openAround rfl rfl rfl ⟨rfl, hdX0_openAround⟩ ⟨Nat.le_of_ble_eq_true rfl, Nat.le_of_ble_eq_true rfl⟩) (ro_pV hK hP (ro_recv hK hP (ci := 0) (q0 := 0) rfl rfl)) rfl rfl hl.1 rfl (lv_room (Nat.le_of_ble_eq_true rfl)) dX0_isComplete_11 ⟨Nat.le_of_ble_eq_true rfl, Nat.le_of_ble_eq_true rfl⟩) ?_
  refine lv_lconst (pc := 14) (v := 0) hx hb dX0_isComplete_14 (by decide) ?_
  refine W.lcmp (pc := 15) hx hb dX0_isComplete_15 ?_
  refine lc_if_ne (pc := 16) (tgt := 23) hx hb dX0_isComplete_16 (by decide) (fun c16 => ?_) (fun c16 => ?_)
  · refine lv_iconst (pc := 23) (v := nI 0) hx hb dX0_isComplete_23 rfl ?_
    exact ro_zret hx hb hr hlocks (zb_0 (by first | (rw [hno]; rfl) | (rw [hbb]; exact decide_eq_true ((iOA_zero hC (hob b hbb) w).mp c16)) | (rw [hbb]; exact decide_eq_false (fun q => c16 ((iOA_zero hC (hob b hbb) w).mpr q))))) dX0_isComplete_24
  refine lv_iconst (pc := 19) (v := nI 1) hx hb dX0_isComplete_19 rfl ?_
  refine lv_goto (pc := 20) (tgt := 24) hx hb dX0_isComplete_20 (by decide) ?_
  exact ro_zret hx hb hr hlocks (zb_1 (by first | (rw [hno]; rfl) | (rw [hbb]; exact decide_eq_true ((iOA_zero hC (hob b hbb) w).mp c16)) | (rw [hbb]; exact decide_eq_false (fun q => c16 ((iOA_zero hC (hob b hbb) w).mpr q))))) dX0_isComplete_24

set_option maxHeartbeats 1200000 in
set_option maxRecDepth 100000 in
theorem c_X0_openLines (l : Launch) (D : va_G) (Y : vY) (bd : Nat) (bs : Nat) (bf : Nat) (bg : Nat) (c : Nat) (r : Nat) (sd : Nat → Int64) (fb : Nat → Int32) (gb : Nat → Int32) (w : Int64) (hC : Cr c r) (hB : BdOK c r sd fb gb) : Ro l yX0_openLines wsX0_openLines ({ frames := 1, cells := 0, slots := 0, locals := 20 } : Room) [.ref bd, .long w] D Y [(bd, .inr (0, [.int (nI c), .int (nI r), .int (nI (al c r)), .int (nI (c * r)), .ref bs, .ref bf, .ref bg])), (bs, .inl (Y.2.1, 16, .inr (.inl sd))), (bf, .inl (Y.1, 40, .inl fb)), (bg, .inl (Y.1, 40, .inl gb))] (some (.long (opl c r w))) := by
  refine ro_intro (by decide +kernel) rfl (Nat.le_of_ble_eq_true rfl) [(0, .ref bd), (1, .long w)] rfl ?_
  intro pG eG sG mG aG bG tG cG ls hx hb hr hml hts hown hlocks hK hP hl
  have hP : va_P D vwCl [(bd, .inr (0, [.int (nI c), .int (nI r), .int (nI (al c r)), .int (nI (c * r)), .ref bs, .ref bf, .ref bg])), (bs, .inl (Y.2.1, 16, .inr (.inl sd))), (bf, .inl (Y.1, 40, .inl fb)), (bg, .inl (Y.1, 40, .inl gb))] sG.heap := hP
  have hown : sG.vm.findClass RX0 = some mG.cls := hown
  have hl : lv_has ls 3 [(0, .ref bd), (1, .long w)] := hl
  have hinX0 : ∀ w ∈ u_ws RX0 TX0 7, w ∈ wsX0_openLines := by decide +kernel
  obtain ⟨hq1, hq2, hq3, hq4, hq5, hq6, hq7, hq8, hq9, hq10, hq11⟩ := hC.q
  refine lv_aload_n (pc := 0) hx hb dX0_openLines_0 rfl (lv_at hl 0 rfl) ?_
  refine va_get (pc := 1) (D := D) (ci := 0) (v := .int (nI (al c r))) (C := RX0) (T := TX0) (N := 7) hx hb hts hinX0 hown hK.1 hP 0 rfl rfl 2 (by decide) (hts (.fieldLink RX0 32 "BoxesGame$Board" "lineCount" "I") (List.mem_of_getElem? (i := 1) rfl)) (fun _ h9 => h9) rfl dX0_openLines_1 ?_
  refine ro_go (pc := 4) (va_runSN (As := [.int (nI (al c r))]) (rest := []) ⟨hx, hb, hml, hown, hts⟩ (c_X8_bit_in l D Y (al c r) (by first | assumption | omega)) (⟨va_cnB 1 hts ggX0_openLines_X8_bit rfl rfl rfl (hK.nest 1 rfl) (hts (.initialized RX8) (List.mem_of_getElem? (i := 4) rfl)) hdX8_bit ⟨Nat.le_of_ble_eq_true rfl, Nat.le_of_ble_eq_true rfl⟩, hts (.static yX8_bit) (List.mem_of_getElem? (i := 3) rfl), trivial⟩) (ro_pS hK (hP.sub [] rfl)) rfl rfl hl.1 rfl (lv_room (Nat.le_of_ble_eq_true rfl)) dX0_openLines_4 ⟨Nat.le_of_ble_eq_true rfl, Nat.le_of_ble_eq_true rfl⟩) ?_
  refine lv_lconst (pc := 7) (v := 1) hx hb dX0_openLines_7 (by decide) ?_
  refine lv_lsub (pc := 8) hx hb dX0_openLines_8 ?_
  refine lv_lload_n (pc := 9) hx hb dX0_openLines_9 rfl (lv_at hl 1 rfl) ?_
  refine lv_ldc2 (pc := 10) hx hb hown (hts (.constantLong RX0 70 (-1)) (List.mem_of_getElem? (i := 2) rfl)) dX0_openLines_10 ?_
  refine lv_lxor (pc := 13) hx hb dX0_openLines_13 ?_
  refine lv_land (pc := 14) hx hb dX0_openLines_14 ?_
  exact ro_lret (v := ((b1 (al c r)) - (1 : Int64)) &&& (w ^^^ (-1 : Int64))) hx hb hr hlocks (rfl) dX0_openLines_15

set_option maxHeartbeats 1200000 in
set_option maxRecDepth 100000 in
theorem c_X0_completeBoxes (l : Launch) (D : va_G) (Y : vY) (bd : Nat) (bs : Nat) (bf : Nat) (bg : Nat) (c : Nat) (r : Nat) (sd : Nat → Int64) (fb : Nat → Int32) (gb : Nat → Int32) (w : Int64) (hC : Cr c r) (hB : BdOK c r sd fb gb) : Ro l yX0_completeBoxes wsX0_completeBoxes ({ frames := 2, cells := 0, slots := 0, locals := 44 } : Room) [.ref bd, .long w] D Y [(bd, .inr (0, [.int (nI c), .int (nI r), .int (nI (al c r)), .int (nI (c * r)), .ref bs, .ref bf, .ref bg])), (bs, .inl (Y.2.1, 16, .inr (.inl sd))), (bf, .inl (Y.1, 40, .inl fb)), (bg, .inl (Y.1, 40, .inl gb))] (some (.int (nI (cmpl c r w)))) := by
  refine ro_intro (by decide +kernel) rfl (Nat.le_of_ble_eq_true rfl) [(0, .ref bd), (1, .long w)] rfl ?_
  intro pG eG sG mG aG bG tG cG ls hx hb hr hml hts hown hlocks hK hP hl
  have hP : va_P D vwCl [(bd, .inr (0, [.int (nI c), .int (nI r), .int (nI (al c r)), .int (nI (c * r)), .ref bs, .ref bf, .ref bg])), (bs, .inl (Y.2.1, 16, .inr (.inl sd))), (bf, .inl (Y.1, 40, .inl fb)), (bg, .inl (Y.1, 40, .inl gb))] sG.heap := hP
  have hown : sG.vm.findClass RX0 = some mG.cls := hown
  have hl : lv_has ls 5 [(0, .ref bd), (1, .long w)] := hl
  have hinX0 : ∀ w ∈ u_ws RX0 TX0 7, w ∈ wsX0_completeBoxes := by decide +kernel
  obtain ⟨hq1, hq2, hq3, hq4, hq5, hq6, hq7, hq8, hq9, hq10, hq11⟩ := hC.q
  refine lv_iconst (pc := 0) (v := nI 0) hx hb dX0_completeBoxes_0 rfl ?_
  refine lv_istore_n (pc := 1) (lv' := [(3, .int (nI 0)), (0, .ref bd), (1, .long w)]) hx hb dX0_completeBoxes_1 rfl hl (by decide) rfl (fun ls hl => ?_)
  refine lv_iconst (pc := 2) (v := nI 0) hx hb dX0_completeBoxes_2 rfl ?_
  refine lv_istore (pc := 3) (lv' := [(4, .int (nI 0)), (3, .int (nI 0)), (0, .ref bd), (1, .long w)]) hx hb dX0_completeBoxes_3 hl (by decide) rfl (fun ls hl => ?_)
  have L5 : ∀ (n5 : Nat), ∀ (i : Nat) (n : Nat), (i ≤ c * r) → (n = fb_ct (fun b => decide (opn c r w b = 0)) i) → c * r - i < n5 → ∀ (ls : Array Slot), lv_has ls 5 [(0, .ref bd), (1, .long w), (3, .int (nI n)), (4, .int (nI i))] → W pG l eG ({ frames := 2, cells := 0, slots := 0, locals := 44 } : Room) sG mG aG bG tG cG sG.heap [] 0 0 (MQ bG (RoQ (some (.int (nI (cmpl c r w))))) aG sG 0 0 (fun _ => False)) (F0 mG 5 ls []) := by
    intro n5
    induction n5 with
    | zero =>
      intro i n hi hn hmeas5  ls hl
      exact absurd hmeas5 (Nat.not_lt_zero _)
    | succ n5 ih5 =>
      intro i n hi hn hmeas5  ls hl
      refine lv_iload (pc := 5) hx hb dX0_completeBoxes_5 (lv_at hl 3 rfl) ?_
      refine lv_aload_n (pc := 7) hx hb dX0_completeBoxes_7 rfl (lv_at hl 0 rfl) ?_
      refine va_get (pc := 8) (D := D) (ci := 0) (v := .int (nI (c * r))) (C := RX0) (T := TX0) (N := 7) hx hb hts hinX0 hown hK.1 hP 0 rfl rfl 3 (by decide) (hts (.fieldLink RX0 29 "BoxesGame$Board" "boxCount" "I") (List.mem_of_getElem? (i := 1) rfl)) (fun _ h9 => h9) rfl dX0_completeBoxes_8 ?_
      refine n_icmp_ge (pc := 11) (tgt := 35) hx hb (by omega) (by omega) dX0_completeBoxes_11 (by decide) (fun c11 => ?_) (fun c11 => ?_)
      · refine lv_iload_n (pc := 35) hx hb dX0_completeBoxes_35 rfl (lv_at hl 2 rfl) ?_
        exact ro_iret (v := nI n) hx hb hr hlocks (by rw [hn, show i = c * r by omega]; rfl) dX0_completeBoxes_36
      refine lv_aload_n (pc := 14) hx hb dX0_completeBoxes_14 rfl (lv_at hl 0 rfl) ?_
      refine lv_lload_n (pc := 15) hx hb dX0_completeBoxes_15 rfl (lv_at hl 1 rfl) ?_
      refine lv_iload (pc := 16) hx hb dX0_completeBoxes_16 (lv_at hl 3 rfl) ?_
      refine ro_go (pc := 18) (va_runV (As := [.long w, .int (nI i)]) (rest := []) ⟨hx, hb, hml, hown, hts⟩ (c_X0_openAround l D Y bd bs bf bg c r sd fb gb w i (hC) (hB) (by first | assumption | omega)) (cwV 2 hts gX0_completeBoxes_X0_openAround rfl rfl rfl ⟨rfl, hdX0_openAround⟩ ⟨Nat.le_of_ble_eq_true rfl, Nat.le_of_ble_eq_true rfl⟩) (ro_pV hK hP (ro_recv hK hP (ci := 0) (q0 := 0) rfl rfl)) rfl rfl hl.1 rfl (lv_room (Nat.le_of_ble_eq_true rfl)) dX0_completeBoxes_18 ⟨Nat.le_of_ble_eq_true rfl, Nat.le_of_ble_eq_true rfl⟩) ?_
      refine lv_lconst (pc := 21) (v := 0) hx hb dX0_completeBoxes_21 (by decide) ?_
      refine W.lcmp (pc := 22) hx hb dX0_completeBoxes_22 ?_
      refine lc_if_ne (pc := 23) (tgt := 29) hx hb dX0_completeBoxes_23 (by decide) (fun c23 => ?_) (fun c23 => ?_)
      · refine lv_iinc (pc := 29) (v := nI (i + 1)) (lv' := [(4, .int (nI (i + 1))), (0, .ref bd), (1, .long w), (3, .int (nI n))]) hx hb dX0_completeBoxes_29 hl (k := 3) rfl (n_inc i 1) (by decide) rfl (fun ls hl => ?_)
        refine lv_goto (pc := 32) (tgt := 5) hx hb dX0_completeBoxes_32 (by decide) ?_
        exact ih5 (i + 1) n (by first | assumption | omega) (by rw [fb_ct_succ, ← hn]; first | rw [decide_eq_true ((iOA_zero hC c11 w).mp c23)]; rfl | rw [decide_eq_false (fun q => c23 ((iOA_zero hC c11 w).mpr q))]; rfl) (by omega) _ (lv_sub hl [1, 2, 3, 0] rfl)
      refine lv_iinc (pc := 26) (v := nI (n + 1)) (lv' := [(3, .int (nI (n + 1))), (0, .ref bd), (1, .long w), (4, .int (nI i))]) hx hb dX0_completeBoxes_26 hl (k := 2) rfl (n_inc n 1) (by decide) rfl (fun ls hl => ?_)
      refine lv_iinc (pc := 29) (v := nI (i + 1)) (lv' := [(4, .int (nI (i + 1))), (3, .int (nI (n + 1))), (0, .ref bd), (1, .long w)]) hx hb dX0_completeBoxes_29 hl (k := 3) rfl (n_inc i 1) (by decide) rfl (fun ls hl => ?_)
      refine lv_goto (pc := 32) (tgt := 5) hx hb dX0_completeBoxes_32 (by decide) ?_
      exact ih5 (i + 1) (n + 1) (by first | assumption | omega) (by rw [fb_ct_succ, ← hn]; first | rw [decide_eq_true ((iOA_zero hC c11 w).mp c23)]; rfl | rw [decide_eq_false (fun q => c23 ((iOA_zero hC c11 w).mpr q))]; rfl) (by omega) _ (lv_sub hl [2, 3, 1, 0] rfl)
  exact L5 ((c * r - 0) + 1) 0 0 (by first | assumption | omega) (rfl) (Nat.lt_succ_self _) _ (lv_sub hl [2, 3, 1, 0] rfl)

set_option maxHeartbeats 1200000 in
set_option maxRecDepth 100000 in
theorem c_X0_openAroundBoxesWith (l : Launch) (D : va_G) (Y : vY) (bd : Nat) (bs : Nat) (bf : Nat) (bg : Nat) (c : Nat) (r : Nat) (sd : Nat → Int64) (fb : Nat → Int32) (gb : Nat → Int32) (w : Int64) (n : Nat) (hC : Cr c r) (hB : BdOK c r sd fb gb) (hn4 : n ≤ 4) : Ro l yX0_openAroundBoxesWith wsX0_openAroundBoxesWith ({ frames := 2, cells := 0, slots := 0, locals := 44 } : Room) [.ref bd, .long w, .int (nI n)] D Y [(bd, .inr (0, [.int (nI c), .int (nI r), .int (nI (al c r)), .int (nI (c * r)), .ref bs, .ref bf, .ref bg])), (bs, .inl (Y.2.1, 16, .inr (.inl sd))), (bf, .inl (Y.1, 40, .inl fb)), (bg, .inl (Y.1, 40, .inl gb))] (some (.long (oab c r w n))) := by
  refine ro_intro (by decide +kernel) rfl (Nat.le_of_ble_eq_true rfl) [(0, .ref bd), (1, .long w), (3, .int (nI n))] rfl ?_
  intro pG eG sG mG aG bG tG cG ls hx hb hr hml hts hown hlocks hK hP hl
  have hP : va_P D vwCl [(bd, .inr (0, [.int (nI c), .int (nI r), .int (nI (al c r)), .int (nI (c * r)), .ref bs, .ref bf, .ref bg])), (bs, .inl (Y.2.1, 16, .inr (.inl sd))), (bf, .inl (Y.1, 40, .inl fb)), (bg, .inl (Y.1, 40, .inl gb))] sG.heap := hP
  have hown : sG.vm.findClass RX0 = some mG.cls := hown
  have hl : lv_has ls 9 [(0, .ref bd), (1, .long w), (3, .int (nI n))] := hl
  have hinX0 : ∀ w ∈ u_ws RX0 TX0 7, w ∈ wsX0_openAroundBoxesWith := by decide +kernel
  obtain ⟨hq1, hq2, hq3, hq4, hq5, hq6, hq7, hq8, hq9, hq10, hq11⟩ := hC.q
  refine lv_lconst (pc := 0) (v := 0) hx hb dX0_openAroundBoxesWith_0 (by decide) ?_
  refine lv_lstore (pc := 1) (lv' := [(4, .long (0 : Int64)), (0, .ref bd), (1, .long w), (3, .int (nI n))]) hx hb dX0_openAroundBoxesWith_1 hl (by decide) rfl (fun ls hl => ?_)
  refine lv_iconst (pc := 3) (v := nI 0) hx hb dX0_openAroundBoxesWith_3 rfl ?_
  refine lv_istore (pc := 4) (lv' := [(6, .int (nI 0)), (4, .long (0 : Int64)), (0, .ref bd), (1, .long w), (3, .int (nI n))]) hx hb dX0_openAroundBoxesWith_4 hl (by decide) rfl (fun ls hl => ?_)
  have L6 : ∀ (n6 : Nat), ∀ (i : Nat) (u : Int64), (i ≤ c * r) → (u = oabF c r w n i) → c * r - i < n6 → ∀ (ls : Array Slot), lv_has ls 9 [(0, .ref bd), (1, .long w), (3, .int (nI n)), (4, .long u), (6, .int (nI i))] → W pG l eG ({ frames := 2, cells := 0, slots := 0, locals := 44 } : Room) sG mG aG bG tG cG sG.heap [] 0 0 (MQ bG (RoQ (some (.long (oab c r w n)))) aG sG 0 0 (fun _ => False)) (F0 mG 6 ls []) := by
    intro n6
    induction n6 with
    | zero =>
      intro i u hi hu hmeas6  ls hl
      exact absurd hmeas6 (Nat.not_lt_zero _)
    | succ n6 ih6 =>
      intro i u hi hu hmeas6  ls hl
      refine lv_iload (pc := 6) hx hb dX0_openAroundBoxesWith_6 (lv_at hl 4 rfl) ?_
      refine lv_aload_n (pc := 8) hx hb dX0_openAroundBoxesWith_8 rfl (lv_at hl 0 rfl) ?_
      refine va_get (pc := 9) (D := D) (ci := 0) (v := .int (nI (c * r))) (C := RX0) (T := TX0) (N := 7) hx hb hts hinX0 hown hK.1 hP 0 rfl rfl 3 (by decide) (hts (.fieldLink RX0 29 "BoxesGame$Board" "boxCount" "I") (List.mem_of_getElem? (i := 1) rfl)) (fun _ h9 => h9) rfl dX0_openAroundBoxesWith_9 ?_
      refine n_icmp_ge (pc := 12) (tgt := 46) hx hb (by omega) (by omega) dX0_openAroundBoxesWith_12 (by decide) (fun c12 => ?_) (fun c12 => ?_)
      · refine lv_lload (pc := 46) hx hb dX0_openAroundBoxesWith_46 (lv_at hl 3 rfl) ?_
        exact ro_lret (v := u) hx hb hr hlocks (by rw [hu, show i = c * r by omega]; rfl) dX0_openAroundBoxesWith_48
      refine lv_aload_n (pc := 15) hx hb dX0_openAroundBoxesWith_15 rfl (lv_at hl 0 rfl) ?_
      refine lv_lload_n (pc := 16) hx hb dX0_openAroundBoxesWith_16 rfl (lv_at hl 1 rfl) ?_
      refine lv_iload (pc := 17) hx hb dX0_openAroundBoxesWith_17 (lv_at hl 4 rfl) ?_
      refine ro_go (pc := 19) (va_runV (As := [.long w, .int (nI i)]) (rest := []) ⟨hx, hb, hml, hown, hts⟩ (c_X0_openAround l D Y bd bs bf bg c r sd fb gb w i (hC) (hB) (by first | assumption | omega)) (cwV 2 hts gX0_openAroundBoxesWith_X0_openAround rfl rfl rfl ⟨rfl, hdX0_openAround⟩ ⟨Nat.le_of_ble_eq_true rfl, Nat.le_of_ble_eq_true rfl⟩) (ro_pV hK hP (ro_recv hK hP (ci := 0) (q0 := 0) rfl rfl)) rfl rfl hl.1 rfl (lv_room (Nat.le_of_ble_eq_true rfl)) dX0_openAroundBoxesWith_19 ⟨Nat.le_of_ble_eq_true rfl, Nat.le_of_ble_eq_true rfl⟩) ?_
      refine lv_lstore (pc := 22) (lv' := [(7, .long (iOA c r w i)), (0, .ref bd), (1, .long w), (3, .int (nI n)), (4, .long u), (6, .int (nI i))]) hx hb dX0_openAroundBoxesWith_22 hl (by decide) rfl (fun ls hl => ?_)
      refine lv_lload (pc := 24) hx hb dX0_openAroundBoxesWith_24 (lv_at hl 0 rfl) ?_
      refine ro_go (pc := 26) (va_runS (As := [.long (iOA c r w i)]) (rest := []) ⟨hx, hb, hml, hown, hts⟩ (c_J13_bitCount_95d88 l D Y (iOA c r w i) ) (va_cwS 1 hts gX0_openAroundBoxesWith_J13_bitCount_95d88 rfl rfl rfl hdJ13_bitCount_95d88 ⟨Nat.le_of_ble_eq_true rfl, Nat.le_of_ble_eq_true rfl⟩) (ro_pS hK (hP.sub [] rfl)) rfl rfl hl.1 rfl (lv_room (Nat.le_of_ble_eq_true rfl)) dX0_openAroundBoxesWith_26 ⟨Nat.le_of_ble_eq_true rfl, Nat.le_of_ble_eq_true rfl⟩) ?_
      refine lv_iload_n (pc := 29) hx hb dX0_openAroundBoxesWith_29 rfl (lv_at hl 3 rfl) ?_
      refine n_icmp_ne (pc := 30) (tgt := 40) hx hb (by have := pop_iOA hC c12 w; have := opn_le c r w i; omega) (by omega) dX0_openAroundBoxesWith_30 (by decide) (fun c30 => ?_) (fun c30 => ?_)
      · refine lv_iinc (pc := 40) (v := nI (i + 1)) (lv' := [(6, .int (nI (i + 1))), (7, .long (iOA c r w i)), (0, .ref bd), (1, .long w), (3, .int (nI n)), (4, .long u)]) hx hb dX0_openAroundBoxesWith_40 hl (k := 5) rfl (n_inc i 1) (by decide) rfl (fun ls hl => ?_)
        refine lv_goto (pc := 43) (tgt := 6) hx hb dX0_openAroundBoxesWith_43 (by decide) ?_
        exact ih6 (i + 1) u (by first | assumption | omega) (by rw [hu, oabF]; first | rw [if_pos (by rw [← pop_iOA hC c12 w]; exact c30)] | rw [if_neg (by rw [← pop_iOA hC c12 w]; exact c30)]) (by omega) _ (lv_sub hl [2, 3, 4, 5, 0] rfl)
      refine lv_lload (pc := 33) hx hb dX0_openAroundBoxesWith_33 (lv_at hl 4 rfl) ?_
      refine lv_lload (pc := 35) hx hb dX0_openAroundBoxesWith_35 (lv_at hl 0 rfl) ?_
      refine lv_lor (pc := 37) hx hb dX0_openAroundBoxesWith_37 ?_
      refine lv_lstore (pc := 38) (lv' := [(4, .long (u ||| (iOA c r w i))), (7, .long (iOA c r w i)), (0, .ref bd), (1, .long w), (3, .int (nI n)), (6, .int (nI i))]) hx hb dX0_openAroundBoxesWith_38 hl (by decide) rfl (fun ls hl => ?_)
      refine lv_iinc (pc := 40) (v := nI (i + 1)) (lv' := [(6, .int (nI (i + 1))), (4, .long (u ||| (iOA c r w i))), (7, .long (iOA c r w i)), (0, .ref bd), (1, .long w), (3, .int (nI n))]) hx hb dX0_openAroundBoxesWith_40 hl (k := 5) rfl (n_inc i 1) (by decide) rfl (fun ls hl => ?_)
      refine lv_goto (pc := 43) (tgt := 6) hx hb dX0_openAroundBoxesWith_43 (by decide) ?_
      exact ih6 (i + 1) (u ||| (iOA c r w i)) (by first | assumption | omega) (by rw [hu, oabF]; first | rw [if_pos (by rw [← pop_iOA hC c12 w]; exact c30)] | rw [if_neg (by rw [← pop_iOA hC c12 w]; exact c30)]) (by omega) _ (lv_sub hl [3, 4, 5, 1, 0] rfl)
  exact L6 ((c * r - 0) + 1) 0 (0 : Int64) (by first | assumption | omega) (rfl) (Nat.lt_succ_self _) _ (lv_sub hl [2, 3, 4, 1, 0] rfl)

set_option maxHeartbeats 1200000 in
set_option maxRecDepth 100000 in
theorem c_X0_takingLines (l : Launch) (D : va_G) (Y : vY) (bd : Nat) (bs : Nat) (bf : Nat) (bg : Nat) (c : Nat) (r : Nat) (sd : Nat → Int64) (fb : Nat → Int32) (gb : Nat → Int32) (w : Int64) (hC : Cr c r) (hB : BdOK c r sd fb gb) : Ro l yX0_takingLines wsX0_takingLines ({ frames := 3, cells := 0, slots := 0, locals := 72 } : Room) [.ref bd, .long w] D Y [(bd, .inr (0, [.int (nI c), .int (nI r), .int (nI (al c r)), .int (nI (c * r)), .ref bs, .ref bf, .ref bg])), (bs, .inl (Y.2.1, 16, .inr (.inl sd))), (bf, .inl (Y.1, 40, .inl fb)), (bg, .inl (Y.1, 40, .inl gb))] (some (.long (tkl c r w))) := by
  refine ro_intro (by decide +kernel) rfl (Nat.le_of_ble_eq_true rfl) [(0, .ref bd), (1, .long w)] rfl ?_
  intro pG eG sG mG aG bG tG cG ls hx hb hr hml hts hown hlocks hK hP hl
  have hP : va_P D vwCl [(bd, .inr (0, [.int (nI c), .int (nI r), .int (nI (al c r)), .int (nI (c * r)), .ref bs, .ref bf, .ref bg])), (bs, .inl (Y.2.1, 16, .inr (.inl sd))), (bf, .inl (Y.1, 40, .inl fb)), (bg, .inl (Y.1, 40, .inl gb))] sG.heap := hP
  have hown : sG.vm.findClass RX0 = some mG.cls := hown
  have hl : lv_has ls 3 [(0, .ref bd), (1, .long w)] := hl
  obtain ⟨hq1, hq2, hq3, hq4, hq5, hq6, hq7, hq8, hq9, hq10, hq11⟩ := hC.q
  refine lv_aload_n (pc := 0) hx hb dX0_takingLines_0 rfl (lv_at hl 0 rfl) ?_
  refine lv_lload_n (pc := 1) hx hb dX0_takingLines_1 rfl (lv_at hl 1 rfl) ?_
  refine lv_iconst (pc := 2) (v := nI 1) hx hb dX0_takingLines_2 rfl ?_
  refine ro_go (pc := 3) (va_runV (As := [.long w, .int (nI 1)]) (rest := []) ⟨hx, hb, hml, hown, hts⟩ (c_X0_openAroundBoxesWith l D Y bd bs bf bg c r sd fb gb w 1 (hC) (hB) (by first | assumption | omega)) (cwV 2 hts gX0_takingLines_X0_openAroundBoxesWith rfl rfl rfl ⟨rfl, hdX0_openAroundBoxesWith⟩ ⟨Nat.le_of_ble_eq_true rfl, Nat.le_of_ble_eq_true rfl⟩) (ro_pV hK hP (ro_recv hK hP (ci := 0) (q0 := 0) rfl rfl)) rfl rfl hl.1 rfl (lv_room (Nat.le_of_ble_eq_true rfl)) dX0_takingLines_3 ⟨Nat.le_of_ble_eq_true rfl, Nat.le_of_ble_eq_true rfl⟩) ?_
  exact ro_lret (v := oab c r w 1) hx hb hr hlocks (rfl) dX0_takingLines_6

set_option maxHeartbeats 1200000 in
set_option maxRecDepth 100000 in
theorem c_X0_safeLines (l : Launch) (D : va_G) (Y : vY) (bd : Nat) (bs : Nat) (bf : Nat) (bg : Nat) (c : Nat) (r : Nat) (sd : Nat → Int64) (fb : Nat → Int32) (gb : Nat → Int32) (w : Int64) (hC : Cr c r) (hB : BdOK c r sd fb gb) : Ro l yX0_safeLines wsX0_safeLines ({ frames := 3, cells := 0, slots := 0, locals := 72 } : Room) [.ref bd, .long w] D Y [(bd, .inr (0, [.int (nI c), .int (nI r), .int (nI (al c r)), .int (nI (c * r)), .ref bs, .ref bf, .ref bg])), (bs, .inl (Y.2.1, 16, .inr (.inl sd))), (bf, .inl (Y.1, 40, .inl fb)), (bg, .inl (Y.1, 40, .inl gb))] (some (.long (sfl c r w))) := by
  refine ro_intro (by decide +kernel) rfl (Nat.le_of_ble_eq_true rfl) [(0, .ref bd), (1, .long w)] rfl ?_
  intro pG eG sG mG aG bG tG cG ls hx hb hr hml hts hown hlocks hK hP hl
  have hP : va_P D vwCl [(bd, .inr (0, [.int (nI c), .int (nI r), .int (nI (al c r)), .int (nI (c * r)), .ref bs, .ref bf, .ref bg])), (bs, .inl (Y.2.1, 16, .inr (.inl sd))), (bf, .inl (Y.1, 40, .inl fb)), (bg, .inl (Y.1, 40, .inl gb))] sG.heap := hP
  have hown : sG.vm.findClass RX0 = some mG.cls := hown
  have hl : lv_has ls 5 [(0, .ref bd), (1, .long w)] := hl
  obtain ⟨hq1, hq2, hq3, hq4, hq5, hq6, hq7, hq8, hq9, hq10, hq11⟩ := hC.q
  refine lv_aload_n (pc := 0) hx hb dX0_safeLines_0 rfl (lv_at hl 0 rfl) ?_
  refine lv_lload_n (pc := 1) hx hb dX0_safeLines_1 rfl (lv_at hl 1 rfl) ?_
  refine lv_iconst (pc := 2) (v := nI 1) hx hb dX0_safeLines_2 rfl ?_
  refine ro_go (pc := 3) (va_runV (As := [.long w, .int (nI 1)]) (rest := []) ⟨hx, hb, hml, hown, hts⟩ (c_X0_openAroundBoxesWith l D Y bd bs bf bg c r sd fb gb w 1 (hC) (hB) (by first | assumption | omega)) (cwV 2 hts gX0_safeLines_X0_openAroundBoxesWith rfl rfl rfl ⟨rfl, hdX0_openAroundBoxesWith⟩ ⟨Nat.le_of_ble_eq_true rfl, Nat.le_of_ble_eq_true rfl⟩) (ro_pV hK hP (ro_recv hK hP (ci := 0) (q0 := 0) rfl rfl)) rfl rfl hl.1 rfl (lv_room (Nat.le_of_ble_eq_true rfl)) dX0_safeLines_3 ⟨Nat.le_of_ble_eq_true rfl, Nat.le_of_ble_eq_true rfl⟩) ?_
  refine lv_aload_n (pc := 6) hx hb dX0_safeLines_6 rfl (lv_at hl 0 rfl) ?_
  refine lv_lload_n (pc := 7) hx hb dX0_safeLines_7 rfl (lv_at hl 1 rfl) ?_
  refine lv_iconst (pc := 8) (v := nI 2) hx hb dX0_safeLines_8 rfl ?_
  refine ro_go (pc := 9) (va_runV (As := [.long w, .int (nI 2)]) (rest := [.long (oab c r w 1)]) ⟨hx, hb, hml, hown, hts⟩ (c_X0_openAroundBoxesWith l D Y bd bs bf bg c r sd fb gb w 2 (hC) (hB) (by first | assumption | omega)) (cwV 2 hts gX0_safeLines_X0_openAroundBoxesWith rfl rfl rfl ⟨rfl, hdX0_openAroundBoxesWith⟩ ⟨Nat.le_of_ble_eq_true rfl, Nat.le_of_ble_eq_true rfl⟩) (ro_pV hK hP (ro_recv hK hP (ci := 0) (q0 := 0) rfl rfl)) rfl rfl hl.1 rfl (lv_room (Nat.le_of_ble_eq_true rfl)) dX0_safeLines_9 ⟨Nat.le_of_ble_eq_true rfl, Nat.le_of_ble_eq_true rfl⟩) ?_
  refine lv_lor (pc := 12) hx hb dX0_safeLines_12 ?_
  refine lv_lstore_n (pc := 13) (lv' := [(3, .long ((oab c r w 1) ||| (oab c r w 2))), (0, .ref bd), (1, .long w)]) hx hb dX0_safeLines_13 rfl hl (by decide) rfl (fun ls hl => ?_)
  refine lv_aload_n (pc := 14) hx hb dX0_safeLines_14 rfl (lv_at hl 1 rfl) ?_
  refine lv_lload_n (pc := 15) hx hb dX0_safeLines_15 rfl (lv_at hl 2 rfl) ?_
  refine ro_go (pc := 16) (va_runV (As := [.long w]) (rest := []) ⟨hx, hb, hml, hown, hts⟩ (c_X0_openLines l D Y bd bs bf bg c r sd fb gb w (hC) (hB)) (cwV 1 hts gX0_safeLines_X0_openLines rfl rfl rfl ⟨rfl, hdX0_openLines⟩ ⟨Nat.le_of_ble_eq_true rfl, Nat.le_of_ble_eq_true rfl⟩) (ro_pV hK hP (ro_recv hK hP (ci := 0) (q0 := 0) rfl rfl)) rfl rfl hl.1 rfl (lv_room (Nat.le_of_ble_eq_true rfl)) dX0_safeLines_16 ⟨Nat.le_of_ble_eq_true rfl, Nat.le_of_ble_eq_true rfl⟩) ?_
  refine lv_lload_n (pc := 19) hx hb dX0_safeLines_19 rfl (lv_at hl 0 rfl) ?_
  refine lv_ldc2 (pc := 20) hx hb hown (hts (.constantLong RX0 70 (-1)) (List.mem_of_getElem? (i := 1) rfl)) dX0_safeLines_20 ?_
  refine lv_lxor (pc := 23) hx hb dX0_safeLines_23 ?_
  refine lv_land (pc := 24) hx hb dX0_safeLines_24 ?_
  exact ro_lret (v := (opl c r w) &&& (((oab c r w 1) ||| (oab c r w 2)) ^^^ (-1 : Int64))) hx hb hr hlocks (rfl) dX0_safeLines_25

set_option maxHeartbeats 1200000 in
set_option maxRecDepth 100000 in
theorem c_X0_givingLines (l : Launch) (D : va_G) (Y : vY) (bd : Nat) (bs : Nat) (bf : Nat) (bg : Nat) (c : Nat) (r : Nat) (sd : Nat → Int64) (fb : Nat → Int32) (gb : Nat → Int32) (w : Int64) (hC : Cr c r) (hB : BdOK c r sd fb gb) : Ro l yX0_givingLines wsX0_givingLines ({ frames := 3, cells := 0, slots := 0, locals := 72 } : Room) [.ref bd, .long w] D Y [(bd, .inr (0, [.int (nI c), .int (nI r), .int (nI (al c r)), .int (nI (c * r)), .ref bs, .ref bf, .ref bg])), (bs, .inl (Y.2.1, 16, .inr (.inl sd))), (bf, .inl (Y.1, 40, .inl fb)), (bg, .inl (Y.1, 40, .inl gb))] (some (.long (gvl c r w))) := by
  refine ro_intro (by decide +kernel) rfl (Nat.le_of_ble_eq_true rfl) [(0, .ref bd), (1, .long w)] rfl ?_
  intro pG eG sG mG aG bG tG cG ls hx hb hr hml hts hown hlocks hK hP hl
  have hP : va_P D vwCl [(bd, .inr (0, [.int (nI c), .int (nI r), .int (nI (al c r)), .int (nI (c * r)), .ref bs, .ref bf, .ref bg])), (bs, .inl (Y.2.1, 16, .inr (.inl sd))), (bf, .inl (Y.1, 40, .inl fb)), (bg, .inl (Y.1, 40, .inl gb))] sG.heap := hP
  have hown : sG.vm.findClass RX0 = some mG.cls := hown
  have hl : lv_has ls 3 [(0, .ref bd), (1, .long w)] := hl
  obtain ⟨hq1, hq2, hq3, hq4, hq5, hq6, hq7, hq8, hq9, hq10, hq11⟩ := hC.q
  refine lv_aload_n (pc := 0) hx hb dX0_givingLines_0 rfl (lv_at hl 0 rfl) ?_
  refine lv_lload_n (pc := 1) hx hb dX0_givingLines_1 rfl (lv_at hl 1 rfl) ?_
  refine lv_iconst (pc := 2) (v := nI 2) hx hb dX0_givingLines_2 rfl ?_
  refine ro_go (pc := 3) (va_runV (As := [.long w, .int (nI 2)]) (rest := []) ⟨hx, hb, hml, hown, hts⟩ (c_X0_openAroundBoxesWith l D Y bd bs bf bg c r sd fb gb w 2 (hC) (hB) (by first | assumption | omega)) (cwV 2 hts gX0_givingLines_X0_openAroundBoxesWith rfl rfl rfl ⟨rfl, hdX0_openAroundBoxesWith⟩ ⟨Nat.le_of_ble_eq_true rfl, Nat.le_of_ble_eq_true rfl⟩) (ro_pV hK hP (ro_recv hK hP (ci := 0) (q0 := 0) rfl rfl)) rfl rfl hl.1 rfl (lv_room (Nat.le_of_ble_eq_true rfl)) dX0_givingLines_3 ⟨Nat.le_of_ble_eq_true rfl, Nat.le_of_ble_eq_true rfl⟩) ?_
  refine lv_aload_n (pc := 6) hx hb dX0_givingLines_6 rfl (lv_at hl 0 rfl) ?_
  refine lv_lload_n (pc := 7) hx hb dX0_givingLines_7 rfl (lv_at hl 1 rfl) ?_
  refine lv_iconst (pc := 8) (v := nI 1) hx hb dX0_givingLines_8 rfl ?_
  refine ro_go (pc := 9) (va_runV (As := [.long w, .int (nI 1)]) (rest := [.long (oab c r w 2)]) ⟨hx, hb, hml, hown, hts⟩ (c_X0_openAroundBoxesWith l D Y bd bs bf bg c r sd fb gb w 1 (hC) (hB) (by first | assumption | omega)) (cwV 2 hts gX0_givingLines_X0_openAroundBoxesWith rfl rfl rfl ⟨rfl, hdX0_openAroundBoxesWith⟩ ⟨Nat.le_of_ble_eq_true rfl, Nat.le_of_ble_eq_true rfl⟩) (ro_pV hK hP (ro_recv hK hP (ci := 0) (q0 := 0) rfl rfl)) rfl rfl hl.1 rfl (lv_room (Nat.le_of_ble_eq_true rfl)) dX0_givingLines_9 ⟨Nat.le_of_ble_eq_true rfl, Nat.le_of_ble_eq_true rfl⟩) ?_
  refine lv_ldc2 (pc := 12) hx hb hown (hts (.constantLong RX0 70 (-1)) (List.mem_of_getElem? (i := 1) rfl)) dX0_givingLines_12 ?_
  refine lv_lxor (pc := 15) hx hb dX0_givingLines_15 ?_
  refine lv_land (pc := 16) hx hb dX0_givingLines_16 ?_
  exact ro_lret (v := (oab c r w 2) &&& ((oab c r w 1) ^^^ (-1 : Int64))) hx hb hr hlocks (rfl) dX0_givingLines_17
