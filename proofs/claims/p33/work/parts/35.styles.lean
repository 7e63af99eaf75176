set_option maxHeartbeats 1200000 in
set_option maxRecDepth 100000 in
theorem c_X6_cheapestLine (l : Launch) (D : va_G) (Y : vY) (sy : Nat) (bd : Nat) (so : Nat) (bs : Nat) (bf : Nat) (bg : Nat) (c : Nat) (r : Nat) (sd : Nat → Int64) (fb : Nat → Int32) (gb : Nat → Int32) (w : Int64) (hC : Cr c r) (hB : BdOK c r sd fb gb) : Ro l yX6_cheapestLine wsX6_cheapestLine ({ frames := 4, cells := 0, slots := 0, locals := 97 } : Room) [.ref sy, .long w] D Y [(sy, .inr (5, [.ref bd, .ref so])), (bd, .inr (0, [.int (nI c), .int (nI r), .int (nI (al c r)), .int (nI (c * r)), .ref bs, .ref bf, .ref bg])), (bs, .inl (Y.2.1, 16, .inr (.inl sd))), (bf, .inl (Y.1, 40, .inl fb)), (bg, .inl (Y.1, 40, .inl gb))] (some (.int (oI (chM c r w)))) := by
  refine ro_intro (by decide +kernel) rfl (Nat.le_of_ble_eq_true rfl) [(0, .ref sy), (1, .long w)] rfl ?_
  intro pG eG sG mG aG bG tG cG ls hx hb hr hml hts hown hlocks hK hP hl
  have hP : va_P D vwCl [(sy, .inr (5, [.ref bd, .ref so])), (bd, .inr (0, [.int (nI c), .int (nI r), .int (nI (al c r)), .int (nI (c * r)), .ref bs, .ref bf, .ref bg])), (bs, .inl (Y.2.1, 16, .inr (.inl sd))), (bf, .inl (Y.1, 40, .inl fb)), (bg, .inl (Y.1, 40, .inl gb))] sG.heap := hP
  have hown : sG.vm.findClass RX6 = some mG.cls := hown
  have hl : lv_has ls 7 [(0, .ref sy), (1, .long w)] := hl
  have hinX0 : ∀ w ∈ u_ws RX0 TX0 7, w ∈ wsX6_cheapestLine := by decide +kernel
  have hinX6 : ∀ w ∈ u_ws RX6 TX6 2, w ∈ wsX6_cheapestLine := by decide +kernel
  obtain ⟨hq1, hq2, hq3, hq4, hq5, hq6, hq7, hq8, hq9, hq10, hq11⟩ := hC.q
  refine lv_iconst (pc := 0) (v := (-1)) hx hb dX6_cheapestLine_0 (by decide) ?_
  refine lv_istore_n (pc := 1) (lv' := [(3, .int (-1)), (0, .ref sy), (1, .long w)]) hx hb dX6_cheapestLine_1 rfl hl (by decide) rfl (fun ls hl => ?_)
  refine lv_sipush (pc := 2) (v := nI 1000) hx hb dX6_cheapestLine_2 rfl ?_
  refine lv_istore (pc := 5) (lv' := [(4, .int (nI 1000)), (3, .int (-1)), (0, .ref sy), (1, .long w)]) hx hb dX6_cheapestLine_5 hl (by decide) rfl (fun ls hl => ?_)
  refine lv_iconst (pc := 7) (v := nI 0) hx hb dX6_cheapestLine_7 rfl ?_
  refine lv_istore (pc := 8) (lv' := [(5, .int (nI 0)), (4, .int (nI 1000)), (3, .int (-1)), (0, .ref sy), (1, .long w)]) hx hb dX6_cheapestLine_8 hl (by decide) rfl (fun ls hl => ?_)
  have L10 : ∀ (n10 : Nat), ∀ (i : Nat) (x : Int32) (p : Nat), (i ≤ al c r) → (x = oI (chB c r w i)) → (p = chP c r w (chB c r w i)) → (p ≤ 1000) → al c r - i < n10 → ∀ (ls : Array Slot), lv_has ls 7 [(0, .ref sy), (1, .long w), (3, .int x), (4, .int (nI p)), (5, .int (nI i))] → W pG l eG ({ frames := 4, cells := 0, slots := 0, locals := 97 } : Room) sG mG aG bG tG cG sG.heap [] 0 0 (MQ bG (RoQ (some (.int (oI (chM c r w))))) aG sG 0 0 (fun _ => False)) (F0 mG 10 ls []) := by
    intro n10
    induction n10 with
    | zero =>
      intro i x p hi hx3 hp3 hp4 hmeas10  ls hl
      exact absurd hmeas10 (Nat.not_lt_zero _)
    | succ n10 ih10 =>
      intro i x p hi hx3 hp3 hp4 hmeas10  ls hl
      refine lv_iload (pc := 10) hx hb dX6_cheapestLine_10 (lv_at hl 4 rfl) ?_
      refine lv_aload_n (pc := 12) hx hb dX6_cheapestLine_12 rfl (lv_at hl 0 rfl) ?_
      refine va_get (pc := 13) (D := D) (ci := 5) (v := .ref bd) (C := RX6) (T := TX6) (N := 2) hx hb hts hinX6 hown hK.1 hP 0 rfl rfl 0 (by decide) (hts (.fieldLink RX6 9 "BoxesGame$Styles" "board" "LBoxesGame$Board;") (List.mem_of_getElem? (i := 1) rfl)) (fun _ h9 => h9) rfl dX6_cheapestLine_13 ?_
      refine va_get (pc := 16) (D := D) (ci := 0) (v := .int (nI (al c r))) (C := RX0) (T := TX0) (N := 7) hx hb hts hinX0 hown hK.1 hP 1 rfl rfl 2 (by decide) (hts (.fieldLink RX6 54 "BoxesGame$Board" "lineCount" "I") (List.mem_of_getElem? (i := 2) rfl)) (fun _ h9 => h9) rfl dX6_cheapestLine_16 ?_
      refine n_icmp_ge (pc := 19) (tgt := 67) hx hb (by omega) (by omega) dX6_cheapestLine_19 (by decide) (fun c19 => ?_) (fun c19 => ?_)
      · refine lv_iload_n (pc := 67) hx hb dX6_cheapestLine_67 rfl (lv_at hl 2 rfl) ?_
        exact ro_iret (v := x) hx hb hr hlocks (by rw [hx3, show i = al c r by omega]; rfl) dX6_cheapestLine_68
      refine lv_lload_n (pc := 22) hx hb dX6_cheapestLine_22 rfl (lv_at hl 1 rfl) ?_
      refine lv_iload (pc := 23) hx hb dX6_cheapestLine_23 (lv_at hl 4 rfl) ?_
      refine ro_go (pc := 25) (va_runSN (As := [.long w, .int (nI i)]) (rest := []) ⟨hx, hb, hml, hown, hts⟩ (c_X8_contains l D Y w i (by first | assumption | omega)) (⟨va_cnB 2 hts ggX6_cheapestLine_X8_contains rfl rfl rfl (hK.nest 8 rfl) (hts (.initialized RX8) (List.mem_of_getElem? (i := 4) rfl)) hdX8_contains ⟨Nat.le_of_ble_eq_true rfl, Nat.le_of_ble_eq_true rfl⟩, hts (.static yX8_contains) (List.mem_of_getElem? (i := 3) rfl), trivial⟩) (ro_pS hK (hP.sub [] rfl)) rfl rfl hl.1 rfl (lv_room (Nat.le_of_ble_eq_true rfl)) dX6_cheapestLine_25 ⟨Nat.le_of_ble_eq_true rfl, Nat.le_of_ble_eq_true rfl⟩) ?_
      refine z_if_ne (pc := 28) (tgt := 61) hx hb dX6_cheapestLine_28 (by decide) (fun c28 => ?_) (fun c28 => ?_)
      · refine lv_iinc (pc := 61) (v := nI (i + 1)) (lv' := [(5, .int (nI (i + 1))), (0, .ref sy), (1, .long w), (3, .int x), (4, .int (nI p))]) hx hb dX6_cheapestLine_61 hl (k := 4) rfl (n_inc i 1) (by decide) rfl (fun ls hl => ?_)
        refine lv_goto (pc := 64) (tgt := 10) hx hb dX6_cheapestLine_64 (by decide) ?_
        exact ih10 (i + 1) x p (by first | assumption | omega) (by rw [chB_d c28]; exact hx3) (by rw [chB_d c28]; exact hp3) (hp4) (by omega) _ (lv_sub hl [1, 2, 3, 4, 0] rfl)
      refine lv_aload_n (pc := 31) hx hb dX6_cheapestLine_31 rfl (lv_at hl 0 rfl) ?_
      refine va_get (pc := 32) (D := D) (ci := 5) (v := .ref bd) (C := RX6) (T := TX6) (N := 2) hx hb hts hinX6 hown hK.1 hP 0 rfl rfl 0 (by decide) (hts (.fieldLink RX6 9 "BoxesGame$Styles" "board" "LBoxesGame$Board;") (List.mem_of_getElem? (i := 1) rfl)) (fun _ h9 => h9) rfl dX6_cheapestLine_32 ?_
      refine lv_lload_n (pc := 35) hx hb dX6_cheapestLine_35 rfl (lv_at hl 1 rfl) ?_
      refine lv_iload (pc := 36) hx hb dX6_cheapestLine_36 (lv_at hl 4 rfl) ?_
      refine ro_go (pc := 38) (va_runSN (As := [.int (nI i)]) (rest := [.long w, .ref bd]) ⟨hx, hb, hml, hown, hts⟩ (c_X8_bit_in l D Y i (by first | assumption | omega)) (⟨va_cnB 1 hts ggX6_cheapestLine_X8_bit rfl rfl rfl (hK.nest 9 rfl) (hts (.initialized RX8) (List.mem_of_getElem? (i := 4) rfl)) hdX8_bit ⟨Nat.le_of_ble_eq_true rfl, Nat.le_of_ble_eq_true rfl⟩, hts (.static yX8_bit) (List.mem_of_getElem? (i := 7) rfl), trivial⟩) (ro_pS hK (hP.sub [] rfl)) rfl rfl hl.1 rfl (lv_room (Nat.le_of_ble_eq_true rfl)) dX6_cheapestLine_38 ⟨Nat.le_of_ble_eq_true rfl, Nat.le_of_ble_eq_true rfl⟩) ?_
      refine lv_lor (pc := 41) hx hb dX6_cheapestLine_41 ?_
      refine ro_go (pc := 42) (va_runV (As := [.long (w ||| (b1 i))]) (rest := []) ⟨hx, hb, hml, hown, hts⟩ (c_X0_runOf l D Y bd bs bf bg c r sd fb gb (w ||| (b1 i)) (hC) (hB)) (cwV 1 hts gX6_cheapestLine_X0_runOf rfl rfl rfl ⟨rfl, hdX0_runOf⟩ ⟨Nat.le_of_ble_eq_true rfl, Nat.le_of_ble_eq_true rfl⟩) (ro_pV hK (hP.sub [1, 2, 3, 4] rfl) (ro_recv hK hP (ci := 0) (q0 := 1) rfl rfl)) rfl rfl hl.1 rfl (lv_room (Nat.le_of_ble_eq_true rfl)) dX6_cheapestLine_42 ⟨Nat.le_of_ble_eq_true rfl, Nat.le_of_ble_eq_true rfl⟩) ?_
      refine lv_istore (pc := 45) (lv' := [(6, .int (nI (run c r (w ||| (b1 i))))), (0, .ref sy), (1, .long w), (3, .int x), (4, .int (nI p)), (5, .int (nI i))]) hx hb dX6_cheapestLine_45 hl (by decide) rfl (fun ls hl => ?_)
      refine lv_iload (pc := 47) hx hb dX6_cheapestLine_47 (lv_at hl 0 rfl) ?_
      refine lv_iload (pc := 49) hx hb dX6_cheapestLine_49 (lv_at hl 4 rfl) ?_
      refine n_icmp_ge (pc := 51) (tgt := 61) hx hb (by have := run_le hC (w ||| b1 i); omega) (by omega) dX6_cheapestLine_51 (by decide) (fun c51 => ?_) (fun c51 => ?_)
      · refine lv_iinc (pc := 61) (v := nI (i + 1)) (lv' := [(5, .int (nI (i + 1))), (6, .int (nI (run c r (w ||| (b1 i))))), (0, .ref sy), (1, .long w), (3, .int x), (4, .int (nI p))]) hx hb dX6_cheapestLine_61 hl (k := 5) rfl (n_inc i 1) (by decide) rfl (fun ls hl => ?_)
        refine lv_goto (pc := 64) (tgt := 10) hx hb dX6_cheapestLine_64 (by decide) ?_
        exact ih10 (i + 1) x p (by first | assumption | omega) (by rw [chB_o hC c28 (by rw [← hp3]; exact c51)]; exact hx3) (by rw [chB_o hC c28 (by rw [← hp3]; exact c51)]; exact hp3) (hp4) (by omega) _ (lv_sub hl [2, 3, 4, 5, 0] rfl)
      refine lv_iload (pc := 54) hx hb dX6_cheapestLine_54 (lv_at hl 0 rfl) ?_
      refine lv_istore (pc := 56) (lv' := [(4, .int (nI (run c r (w ||| (b1 i))))), (6, .int (nI (run c r (w ||| (b1 i))))), (0, .ref sy), (1, .long w), (3, .int x), (5, .int (nI i))]) hx hb dX6_cheapestLine_56 hl (by decide) rfl (fun ls hl => ?_)
      refine lv_iload (pc := 58) hx hb dX6_cheapestLine_58 (lv_at hl 5 rfl) ?_
      refine lv_istore_n (pc := 60) (lv' := [(3, .int (nI i)), (4, .int (nI (run c r (w ||| (b1 i))))), (6, .int (nI (run c r (w ||| (b1 i))))), (0, .ref sy), (1, .long w), (5, .int (nI i))]) hx hb dX6_cheapestLine_60 rfl hl (by decide) rfl (fun ls hl => ?_)
      refine lv_iinc (pc := 61) (v := nI (i + 1)) (lv' := [(5, .int (nI (i + 1))), (3, .int (nI i)), (4, .int (nI (run c r (w ||| (b1 i))))), (6, .int (nI (run c r (w ||| (b1 i))))), (0, .ref sy), (1, .long w)]) hx hb dX6_cheapestLine_61 hl (k := 5) rfl (n_inc i 1) (by decide) rfl (fun ls hl => ?_)
      refine lv_goto (pc := 64) (tgt := 10) hx hb dX6_cheapestLine_64 (by decide) ?_
      exact ih10 (i + 1) (nI i) (run c r (w ||| (b1 i))) (by first | assumption | omega) (by rw [chB_n hC c28 (by rw [← hp3]; exact c51)]; rfl) (by rw [chB_n hC c28 (by rw [← hp3]; exact c51)]; rfl) (by have := run_le hC (w ||| b1 i); omega) (by omega) _ (lv_sub hl [4, 5, 1, 2, 0] rfl)
  exact L10 ((al c r - 0) + 1) 0 (-1) 1000 (by first | assumption | omega) (rfl) (rfl) (by omega) (Nat.lt_succ_self _) _ (lv_sub hl [3, 4, 2, 1, 0] rfl)

set_option maxHeartbeats 1200000 in
set_option maxRecDepth 100000 in
theorem c_X6_keepingLine (l : Launch) (D : va_G) (Y : vY) (sy : Nat) (bd : Nat) (so : Nat) (bs : Nat) (bf : Nat) (bg : Nat) (c : Nat) (r : Nat) (sd : Nat → Int64) (fb : Nat → Int32) (gb : Nat → Int32) (w : Int64) (hC : Cr c r) (hB : BdOK c r sd fb gb) : Ro l yX6_keepingLine wsX6_keepingLine ({ frames := 4, cells := 0, slots := 0, locals := 97 } : Room) [.ref sy, .long w, .long (opl c r w &&& (tkl c r w ^^^ (-1 : Int64)))] D Y [(sy, .inr (5, [.ref bd, .ref so])), (bd, .inr (0, [.int (nI c), .int (nI r), .int (nI (al c r)), .int (nI (c * r)), .ref bs, .ref bf, .ref bg])), (bs, .inl (Y.2.1, 16, .inr (.inl sd))), (bf, .inl (Y.1, 40, .inl fb)), (bg, .inl (Y.1, 40, .inl gb))] (some (.int (oI (keM c r w)))) := by
  refine ro_intro (by decide +kernel) rfl (Nat.le_of_ble_eq_true rfl) [(0, .ref sy), (1, .long w), (3, .long (opl c r w &&& (tkl c r w ^^^ (-1 : Int64))))] rfl ?_
  intro pG eG sG mG aG bG tG cG ls hx hb hr hml hts hown hlocks hK hP hl
  have hP : va_P D vwCl [(sy, .inr (5, [.ref bd, .ref so])), (bd, .inr (0, [.int (nI c), .int (nI r), .int (nI (al c r)), .int (nI (c * r)), .ref bs, .ref bf, .ref bg])), (bs, .inl (Y.2.1, 16, .inr (.inl sd))), (bf, .inl (Y.1, 40, .inl fb)), (bg, .inl (Y.1, 40, .inl gb))] sG.heap := hP
  have hown : sG.vm.findClass RX6 = some mG.cls := hown
  have hl : lv_has ls 6 [(0, .ref sy), (1, .long w), (3, .long (opl c r w &&& (tkl c r w ^^^ (-1 : Int64))))] := hl
  have hinX0 : ∀ w ∈ u_ws RX0 TX0 7, w ∈ wsX6_keepingLine := by decide +kernel
  have hinX6 : ∀ w ∈ u_ws RX6 TX6 2, w ∈ wsX6_keepingLine := by decide +kernel
  obtain ⟨hq1, hq2, hq3, hq4, hq5, hq6, hq7, hq8, hq9, hq10, hq11⟩ := hC.q
  have hcl := cmpl_le c r w
  refine lv_aload_n (pc := 0) hx hb dX6_keepingLine_0 rfl (lv_at hl 0 rfl) ?_
  refine va_get (pc := 1) (D := D) (ci := 5) (v := .ref bd) (C := RX6) (T := TX6) (N := 2) hx hb hts hinX6 hown hK.1 hP 0 rfl rfl 0 (by decide) (hts (.fieldLink RX6 9 "BoxesGame$Styles" "board" "LBoxesGame$Board;") (List.mem_of_getElem? (i := 1) rfl)) (fun _ h9 => h9) rfl dX6_keepingLine_1 ?_
  refine va_get (pc := 4) (D := D) (ci := 0) (v := .int (nI (c * r))) (C := RX0) (T := TX0) (N := 7) hx hb hts hinX0 hown hK.1 hP 1 rfl rfl 3 (by decide) (hts (.fieldLink RX6 69 "BoxesGame$Board" "boxCount" "I") (List.mem_of_getElem? (i := 2) rfl)) (fun _ h9 => h9) rfl dX6_keepingLine_4 ?_
  refine lv_aload_n (pc := 7) hx hb dX6_keepingLine_7 rfl (lv_at hl 0 rfl) ?_
  refine va_get (pc := 8) (D := D) (ci := 5) (v := .ref bd) (C := RX6) (T := TX6) (N := 2) hx hb hts hinX6 hown hK.1 hP 0 rfl rfl 0 (by decide) (hts (.fieldLink RX6 9 "BoxesGame$Styles" "board" "LBoxesGame$Board;") (List.mem_of_getElem? (i := 1) rfl)) (fun _ h9 => h9) rfl dX6_keepingLine_8 ?_
  refine lv_lload_n (pc := 11) hx hb dX6_keepingLine_11 rfl (lv_at hl 1 rfl) ?_
  refine ro_go (pc := 12) (va_runV (As := [.long w]) (rest := [.int (nI (c * r))]) ⟨hx, hb, hml, hown, hts⟩ (c_X0_completeBoxes l D Y bd bs bf bg c r sd fb gb w (hC) (hB)) (cwV 1 hts gX6_keepingLine_X0_completeBoxes rfl rfl rfl ⟨rfl, hdX0_completeBoxes⟩ ⟨Nat.le_of_ble_eq_true rfl, Nat.le_of_ble_eq_true rfl⟩) (ro_pV hK (hP.sub [1, 2, 3, 4] rfl) (ro_recv hK hP (ci := 0) (q0 := 1) rfl rfl)) rfl rfl hl.1 rfl (lv_room (Nat.le_of_ble_eq_true rfl)) dX6_keepingLine_12 ⟨Nat.le_of_ble_eq_true rfl, Nat.le_of_ble_eq_true rfl⟩) ?_
  refine n_isub (pc := 15) hx hb (by omega) dX6_keepingLine_15 ?_
  refine lv_iconst (pc := 16) (v := nI 5) hx hb dX6_keepingLine_16 rfl ?_
  refine n_icmp_lt (pc := 17) (tgt := 32) hx hb (by omega) (by omega) dX6_keepingLine_17 (by decide) (fun c17 => ?_) (fun c17 => ?_)
  · refine lv_iconst (pc := 32) (v := (-1)) hx hb dX6_keepingLine_32 (by decide) ?_
    exact ro_iret (v := (-1)) hx hb hr hlocks (by rw [ke_no (Or.inl c17)]; rfl) dX6_keepingLine_33
  refine lv_aload_n (pc := 20) hx hb dX6_keepingLine_20 rfl (lv_at hl 0 rfl) ?_
  refine va_get (pc := 21) (D := D) (ci := 5) (v := .ref bd) (C := RX6) (T := TX6) (N := 2) hx hb hts hinX6 hown hK.1 hP 0 rfl rfl 0 (by decide) (hts (.fieldLink RX6 9 "BoxesGame$Styles" "board" "LBoxesGame$Board;") (List.mem_of_getElem? (i := 1) rfl)) (fun _ h9 => h9) rfl dX6_keepingLine_21 ?_
  refine lv_lload_n (pc := 24) hx hb dX6_keepingLine_24 rfl (lv_at hl 1 rfl) ?_
  refine ro_go (pc := 25) (va_runV (As := [.long w]) (rest := []) ⟨hx, hb, hml, hown, hts⟩ (c_X0_runOf l D Y bd bs bf bg c r sd fb gb w (hC) (hB)) (cwV 1 hts gX6_keepingLine_X0_runOf rfl rfl rfl ⟨rfl, hdX0_runOf⟩ ⟨Nat.le_of_ble_eq_true rfl, Nat.le_of_ble_eq_true rfl⟩) (ro_pV hK (hP.sub [1, 2, 3, 4] rfl) (ro_recv hK hP (ci := 0) (q0 := 1) rfl rfl)) rfl rfl hl.1 rfl (lv_room (Nat.le_of_ble_eq_true rfl)) dX6_keepingLine_25 ⟨Nat.le_of_ble_eq_true rfl, Nat.le_of_ble_eq_true rfl⟩) ?_
  refine lv_iconst (pc := 28) (v := nI 2) hx hb dX6_keepingLine_28 rfl ?_
  refine n_icmp_eq (pc := 29) (tgt := 34) hx hb (by have := run_le hC w; omega) (by decide) dX6_keepingLine_29 (by decide) (fun c29 => ?_) (fun c29 => ?_)
  · refine lv_iconst (pc := 34) (v := nI 0) hx hb dX6_keepingLine_34 rfl ?_
    refine lv_istore (pc := 35) (lv' := [(5, .int (nI 0)), (0, .ref sy), (1, .long w), (3, .long (opl c r w &&& (tkl c r w ^^^ (-1 : Int64))))]) hx hb dX6_keepingLine_35 hl (by decide) rfl (fun ls hl => ?_)
    have L37 : ∀ (n37 : Nat), ∀ (i : Nat), (i ≤ al c r) → (∀ j, j < i → (tb (opl c r w &&& (tkl c r w ^^^ (-1 : Int64))) j && hdt c r (w ||| b1 j)) = false) → al c r - i < n37 → ∀ (ls : Array Slot), lv_has ls 6 [(0, .ref sy), (1, .long w), (3, .long (opl c r w &&& (tkl c r w ^^^ (-1 : Int64)))), (5, .int (nI i))] → W pG l eG ({ frames := 4, cells := 0, slots := 0, locals := 97 } : Room) sG mG aG bG tG cG sG.heap [] 0 0 (MQ bG (RoQ (some (.int (oI (keM c r w))))) aG sG 0 0 (fun _ => False)) (F0 mG 37 ls []) := by
      intro n37
      induction n37 with
      | zero =>
        intro i hi hno hmeas37  ls hl
        exact absurd hmeas37 (Nat.not_lt_zero _)
      | succ n37 ih37 =>
        intro i hi hno hmeas37  ls hl
        refine lv_iload (pc := 37) hx hb dX6_keepingLine_37 (lv_at hl 3 rfl) ?_
        refine lv_aload_n (pc := 39) hx hb dX6_keepingLine_39 rfl (lv_at hl 0 rfl) ?_
        refine va_get (pc := 40) (D := D) (ci := 5) (v := .ref bd) (C := RX6) (T := TX6) (N := 2) hx hb hts hinX6 hown hK.1 hP 0 rfl rfl 0 (by decide) (hts (.fieldLink RX6 9 "BoxesGame$Styles" "board" "LBoxesGame$Board;") (List.mem_of_getElem? (i := 1) rfl)) (fun _ h9 => h9) rfl dX6_keepingLine_40 ?_
        refine va_get (pc := 43) (D := D) (ci := 0) (v := .int (nI (al c r))) (C := RX0) (T := TX0) (N := 7) hx hb hts hinX0 hown hK.1 hP 1 rfl rfl 2 (by decide) (hts (.fieldLink RX6 54 "BoxesGame$Board" "lineCount" "I") (List.mem_of_getElem? (i := 3) rfl)) (fun _ h9 => h9) rfl dX6_keepingLine_43 ?_
        refine n_icmp_ge (pc := 46) (tgt := 84) hx hb (by omega) (by omega) dX6_keepingLine_46 (by decide) (fun c46 => ?_) (fun c46 => ?_)
        · refine lv_iconst (pc := 84) (v := (-1)) hx hb dX6_keepingLine_84 (by decide) ?_
          exact ro_iret (v := (-1)) hx hb hr hlocks (by rw [(ke_fst hC w (by omega) c29 hno).2 c46]; rfl) dX6_keepingLine_85
        refine lv_lload_n (pc := 49) hx hb dX6_keepingLine_49 rfl (lv_at hl 2 rfl) ?_
        refine lv_iload (pc := 50) hx hb dX6_keepingLine_50 (lv_at hl 3 rfl) ?_
        refine ro_go (pc := 52) (va_runSN (As := [.long (opl c r w &&& (tkl c r w ^^^ (-1 : Int64))), .int (nI i)]) (rest := []) ⟨hx, hb, hml, hown, hts⟩ (c_X8_contains l D Y (opl c r w &&& (tkl c r w ^^^ (-1 : Int64))) i (by first | assumption | omega)) (⟨va_cnB 2 hts ggX6_keepingLine_X8_contains rfl rfl rfl (hK.nest 8 rfl) (hts (.initialized RX8) (List.mem_of_getElem? (i := 33) rfl)) hdX8_contains ⟨Nat.le_of_ble_eq_true rfl, Nat.le_of_ble_eq_true rfl⟩, hts (.static yX8_contains) (List.mem_of_getElem? (i := 32) rfl), trivial⟩) (ro_pS hK (hP.sub [] rfl)) rfl rfl hl.1 rfl (lv_room (Nat.le_of_ble_eq_true rfl)) dX6_keepingLine_52 ⟨Nat.le_of_ble_eq_true rfl, Nat.le_of_ble_eq_true rfl⟩) ?_
        refine z_if_eq (pc := 55) (tgt := 78) hx hb dX6_keepingLine_55 (by decide) (fun c55 => ?_) (fun c55 => ?_)
        · refine lv_iinc (pc := 78) (v := nI (i + 1)) (lv' := [(5, .int (nI (i + 1))), (0, .ref sy), (1, .long w), (3, .long (opl c r w &&& (tkl c r w ^^^ (-1 : Int64))))]) hx hb dX6_keepingLine_78 hl (k := 3) rfl (n_inc i 1) (by decide) rfl (fun ls hl => ?_)
          refine lv_goto (pc := 81) (tgt := 37) hx hb dX6_keepingLine_81 (by decide) ?_
          exact ih37 (i + 1) (by first | assumption | omega) (lt_s hno (by rw [c55]; rfl)) (by omega) _ (lv_sub hl [1, 2, 3, 0] rfl)
        refine lv_aload_n (pc := 58) hx hb dX6_keepingLine_58 rfl (lv_at hl 0 rfl) ?_
        refine va_get (pc := 59) (D := D) (ci := 5) (v := .ref bd) (C := RX6) (T := TX6) (N := 2) hx hb hts hinX6 hown hK.1 hP 0 rfl rfl 0 (by decide) (hts (.fieldLink RX6 9 "BoxesGame$Styles" "board" "LBoxesGame$Board;") (List.mem_of_getElem? (i := 1) rfl)) (fun _ h9 => h9) rfl dX6_keepingLine_59 ?_
        refine lv_lload_n (pc := 62) hx hb dX6_keepingLine_62 rfl (lv_at hl 1 rfl) ?_
        refine lv_iload (pc := 63) hx hb dX6_keepingLine_63 (lv_at hl 3 rfl) ?_
        refine ro_go (pc := 65) (va_runSN (As := [.int (nI i)]) (rest := [.long w, .ref bd]) ⟨hx, hb, hml, hown, hts⟩ (c_X8_bit_in l D Y i (by first | assumption | omega)) (⟨va_cnB 1 hts ggX6_keepingLine_X8_bit rfl rfl rfl (hK.nest 9 rfl) (hts (.initialized RX8) (List.mem_of_getElem? (i := 33) rfl)) hdX8_bit ⟨Nat.le_of_ble_eq_true rfl, Nat.le_of_ble_eq_true rfl⟩, hts (.static yX8_bit) (List.mem_of_getElem? (i := 36) rfl), trivial⟩) (ro_pS hK (hP.sub [] rfl)) rfl rfl hl.1 rfl (lv_room (Nat.le_of_ble_eq_true rfl)) dX6_keepingLine_65 ⟨Nat.le_of_ble_eq_true rfl, Nat.le_of_ble_eq_true rfl⟩) ?_
        refine lv_lor (pc := 68) hx hb dX6_keepingLine_68 ?_
        refine ro_go (pc := 69) (va_runV (As := [.long (w ||| (b1 i))]) (rest := []) ⟨hx, hb, hml, hown, hts⟩ (c_X0_hasDoubleTaking l D Y bd bs bf bg c r sd fb gb (w ||| (b1 i)) (hC) (hB)) (cwV 1 hts gX6_keepingLine_X0_hasDoubleTaking rfl rfl rfl ⟨rfl, hdX0_hasDoubleTaking⟩ ⟨Nat.le_of_ble_eq_true rfl, Nat.le_of_ble_eq_true rfl⟩) (ro_pV hK (hP.sub [1, 2, 3, 4] rfl) (ro_recv hK hP (ci := 0) (q0 := 1) rfl rfl)) rfl rfl hl.1 rfl (lv_room (Nat.le_of_ble_eq_true rfl)) dX6_keepingLine_69 ⟨Nat.le_of_ble_eq_true rfl, Nat.le_of_ble_eq_true rfl⟩) ?_
        refine z_if_eq (pc := 72) (tgt := 78) hx hb dX6_keepingLine_72 (by decide) (fun c72 => ?_) (fun c72 => ?_)
        · refine lv_iinc (pc := 78) (v := nI (i + 1)) (lv' := [(5, .int (nI (i + 1))), (0, .ref sy), (1, .long w), (3, .long (opl c r w &&& (tkl c r w ^^^ (-1 : Int64))))]) hx hb dX6_keepingLine_78 hl (k := 3) rfl (n_inc i 1) (by decide) rfl (fun ls hl => ?_)
          refine lv_goto (pc := 81) (tgt := 37) hx hb dX6_keepingLine_81 (by decide) ?_
          exact ih37 (i + 1) (by first | assumption | omega) (lt_s hno (by rw [c72, Bool.and_false])) (by omega) _ (lv_sub hl [1, 2, 3, 0] rfl)
        refine lv_iload (pc := 75) hx hb dX6_keepingLine_75 (lv_at hl 3 rfl) ?_
        exact ro_iret (v := nI i) hx hb hr hlocks (by rw [(ke_fst hC w (by omega) c29 hno).1 c46 c55 c72]; rfl) dX6_keepingLine_77
    exact L37 ((al c r - 0) + 1) 0 (by first | assumption | omega) (fun j h => absurd h (Nat.not_lt_zero _)) (Nat.lt_succ_self _) _ (lv_sub hl [1, 2, 3, 0] rfl)
  refine lv_iconst (pc := 32) (v := (-1)) hx hb dX6_keepingLine_32 (by decide) ?_
  exact ro_iret (v := (-1)) hx hb hr hlocks (by rw [ke_no (Or.inr c29)]; rfl) dX6_keepingLine_33

set_option maxHeartbeats 1200000 in
set_option maxRecDepth 100000 in
theorem c_X6_choose (l : Launch) (D : va_G) (Y : vY) (sy : Nat) (so : Nat) (bd : Nat) (l1 : Nat) (l2 : Nat) (l3 : Nat) (l4 : Nat) (S : Int64) (ln : Nat → Int32) (f1 : Nat → Int32) (f2 : Nat → Int32) (be : Nat → Int32) (am : Int32) (kn : Bool) (bs : Nat) (bf : Nat) (bg : Nat) (c : Nat) (r : Nat) (sd : Nat → Int64) (fb : Nat → Int32) (gb : Nat → Int32) (st : Nat) (w : Int64) (hC : Cr c r) (hB : BdOK c r sd fb gb) (hkn : kn = true → SoOK c r S am ln f1 f2 be) (hst : st ≤ 2) (hw0 : Onb c r w) : Mu l yX6_choose wsX6_choose ({ frames := 5, cells := 0, slots := 0, locals := 123 } : Room) [.ref sy, .int (nI st), .long w] D Y [(sy, .inr (5, [.ref bd, .ref so])), (so, .inr (3, [.ref bd, .ref l1, .ref l2, .ref l3, .ref l4, .int am, .long S, .int (zb kn)])), (l1, .inl (Y.1, 12, .inl ln)), (l2, .inl (Y.1, 12, .inl f1)), (l3, .inl (Y.1, 12, .inl f2)), (l4, .inl (Y.1, 4096, .inl be)), (bd, .inr (0, [.int (nI c), .int (nI r), .int (nI (al c r)), .int (nI (c * r)), .ref bs, .ref bf, .ref bg])), (bs, .inl (Y.2.1, 16, .inr (.inl sd))), (bf, .inl (Y.1, 40, .inl fb)), (bg, .inl (Y.1, 40, .inl gb))] (fun uS : Int32 × Bool × Int64 × (Nat → Int32) × (Nat → Int32) × (Nat → Int32) × (Nat → Int32) => some (.int (oI (choM c r st w)))) (fun uS : Int32 × Bool × Int64 × (Nat → Int32) × (Nat → Int32) × (Nat → Int32) × (Nat → Int32) => [(sy, .inr (5, [.ref bd, .ref so])), (so, .inr (3, [.ref bd, .ref l1, .ref l2, .ref l3, .ref l4, .int uS.1, .long uS.2.2.1, .int (zb uS.2.1)])), (l1, .inl (Y.1, 12, .inl uS.2.2.2.1)), (l2, .inl (Y.1, 12, .inl uS.2.2.2.2.1)), (l3, .inl (Y.1, 12, .inl uS.2.2.2.2.2.1)), (l4, .inl (Y.1, 4096, .inl uS.2.2.2.2.2.2)), (bd, .inr (0, [.int (nI c), .int (nI r), .int (nI (al c r)), .int (nI (c * r)), .ref bs, .ref bf, .ref bg])), (bs, .inl (Y.2.1, 16, .inr (.inl sd))), (bf, .inl (Y.1, 40, .inl fb)), (bg, .inl (Y.1, 40, .inl gb))]) (fun uS : Int32 × Bool × Int64 × (Nat → Int32) × (Nat → Int32) × (Nat → Int32) × (Nat → Int32) => uS.2.1 = true → SoOK c r uS.2.2.1 uS.1 uS.2.2.2.1 uS.2.2.2.2.1 uS.2.2.2.2.2.1 uS.2.2.2.2.2.2) := by
  refine mu_intro (by decide +kernel) rfl (Nat.le_of_ble_eq_true rfl) [(0, .ref sy), (1, .int (nI st)), (2, .long w)] rfl ?_
  intro pG eG sG mG aG bG tG cG ls hx hb hr hml hts hown hlocks hK hP hD hS hl
  generalize hAA : adA [(sy, .inr (5, [.ref bd, .ref so])), (so, .inr (3, [.ref bd, .ref l1, .ref l2, .ref l3, .ref l4, .int am, .long S, .int (zb kn)])), (l1, .inl (Y.1, 12, .inl ln)), (l2, .inl (Y.1, 12, .inl f1)), (l3, .inl (Y.1, 12, .inl f2)), (l4, .inl (Y.1, 4096, .inl be)), (bd, .inr (0, [.int (nI c), .int (nI r), .int (nI (al c r)), .int (nI (c * r)), .ref bs, .ref bf, .ref bg])), (bs, .inl (Y.2.1, 16, .inr (.inl sd))), (bf, .inl (Y.1, 40, .inl fb)), (bg, .inl (Y.1, 40, .inl gb))] = AA at hD hS ⊢
  have hP : va_P D vwCl [(sy, .inr (5, [.ref bd, .ref so])), (so, .inr (3, [.ref bd, .ref l1, .ref l2, .ref l3, .ref l4, .int am, .long S, .int (zb kn)])), (l1, .inl (Y.1, 12, .inl ln)), (l2, .inl (Y.1, 12, .inl f1)), (l3, .inl (Y.1, 12, .inl f2)), (l4, .inl (Y.1, 4096, .inl be)), (bd, .inr (0, [.int (nI c), .int (nI r), .int (nI (al c r)), .int (nI (c * r)), .ref bs, .ref bf, .ref bg])), (bs, .inl (Y.2.1, 16, .inr (.inl sd))), (bf, .inl (Y.1, 40, .inl fb)), (bg, .inl (Y.1, 40, .inl gb))] sG.heap := hP
  have hD : va_D AA [(sy, .inr (5, [.ref bd, .ref so])), (so, .inr (3, [.ref bd, .ref l1, .ref l2, .ref l3, .ref l4, .int am, .long S, .int (zb kn)])), (l1, .inl (Y.1, 12, .inl ln)), (l2, .inl (Y.1, 12, .inl f1)), (l3, .inl (Y.1, 12, .inl f2)), (l4, .inl (Y.1, 4096, .inl be)), (bd, .inr (0, [.int (nI c), .int (nI r), .int (nI (al c r)), .int (nI (c * r)), .ref bs, .ref bf, .ref bg])), (bs, .inl (Y.2.1, 16, .inr (.inl sd))), (bf, .inl (Y.1, 40, .inl fb)), (bg, .inl (Y.1, 40, .inl gb))] := hD
  have hown : sG.vm.findClass RX6 = some mG.cls := hown
  have hl : lv_has ls 11 [(0, .ref sy), (1, .int (nI st)), (2, .long w)] := hl
  have hinX6 : ∀ w ∈ u_ws RX6 TX6 2, w ∈ wsX6_choose := by decide +kernel
  have hS : va_S AA sG.heap sG.heap [] := hS
  obtain ⟨hq1, hq2, hq3, hq4, hq5, hq6, hq7, hq8, hq9, hq10, hq11⟩ := hC.q
  refine lv_aload_n (pc := 0) hx hb dX6_choose_0 rfl (lv_at hl 0 rfl) ?_
  refine va_get (pc := 1) (D := D) (ci := 5) (v := .ref bd) (C := RX6) (T := TX6) (N := 2) hx hb hts hinX6 hown hK.1 hP 0 rfl rfl 0 (by decide) (hts (.fieldLink RX6 9 "BoxesGame$Styles" "board" "LBoxesGame$Board;") (List.mem_of_getElem? (i := 1) rfl)) (fun _ h9 => h9) rfl dX6_choose_1 ?_
  refine lv_lload_n (pc := 4) hx hb dX6_choose_4 rfl (lv_at hl 2 rfl) ?_
  refine ro_go (pc := 5) (va_runV (As := [.long w]) (rest := []) ⟨hx, hb, hml, hown, hts⟩ (c_X0_openLines l D Y bd bs bf bg c r sd fb gb w (hC) (hB)) (cwV 1 hts gX6_choose_X0_openLines rfl rfl rfl ⟨rfl, hdX0_openLines⟩ ⟨Nat.le_of_ble_eq_true rfl, Nat.le_of_ble_eq_true rfl⟩) (ro_pV hK (hP.sub [6, 7, 8, 9] rfl) (ro_recv hK hP (ci := 0) (q0 := 6) rfl rfl)) rfl rfl hl.1 rfl (lv_room (Nat.le_of_ble_eq_true rfl)) dX6_choose_5 ⟨Nat.le_of_ble_eq_true rfl, Nat.le_of_ble_eq_true rfl⟩) ?_
  refine lv_lstore (pc := 8) (lv' := [(4, .long (opl c r w)), (0, .ref sy), (1, .int (nI st)), (2, .long w)]) hx hb dX6_choose_8 hl (by decide) rfl (fun ls hl => ?_)
  refine lv_iload_n (pc := 10) hx hb dX6_choose_10 rfl (lv_at hl 2 rfl) ?_
  refine lv_iconst (pc := 11) (v := nI 2) hx hb dX6_choose_11 rfl ?_
  refine n_icmp_ne (pc := 12) (tgt := 35) hx hb (by omega) (by omega) dX6_choose_12 (by decide) (fun c12 => ?_) (fun c12 => ?_)
  · refine lv_aload_n (pc := 35) hx hb dX6_choose_35 rfl (lv_at hl 1 rfl) ?_
    refine va_get (pc := 36) (D := D) (ci := 5) (v := .ref bd) (C := RX6) (T := TX6) (N := 2) hx hb hts hinX6 hown hK.1 hP 0 rfl rfl 0 (by decide) (hts (.fieldLink RX6 9 "BoxesGame$Styles" "board" "LBoxesGame$Board;") (List.mem_of_getElem? (i := 1) rfl)) (fun _ h9 => h9) rfl dX6_choose_36 ?_
    refine lv_lload_n (pc := 39) hx hb dX6_choose_39 rfl (lv_at hl 3 rfl) ?_
    refine ro_go (pc := 40) (va_runV (As := [.long w]) (rest := []) ⟨hx, hb, hml, hown, hts⟩ (c_X0_takingLines l D Y bd bs bf bg c r sd fb gb w (hC) (hB)) (cwV 1 hts gX6_choose_X0_takingLines rfl rfl rfl ⟨rfl, hdX0_takingLines⟩ ⟨Nat.le_of_ble_eq_true rfl, Nat.le_of_ble_eq_true rfl⟩) (ro_pV hK (hP.sub [6, 7, 8, 9] rfl) (ro_recv hK hP (ci := 0) (q0 := 6) rfl rfl)) rfl rfl hl.1 rfl (lv_room (Nat.le_of_ble_eq_true rfl)) dX6_choose_40 ⟨Nat.le_of_ble_eq_true rfl, Nat.le_of_ble_eq_true rfl⟩) ?_
    refine lv_lstore (pc := 43) (lv' := [(6, .long (tkl c r w)), (4, .long (opl c r w)), (0, .ref sy), (1, .int (nI st)), (2, .long w)]) hx hb dX6_choose_43 hl (by decide) rfl (fun ls hl => ?_)
    refine lv_aload_n (pc := 45) hx hb dX6_choose_45 rfl (lv_at hl 2 rfl) ?_
    refine va_get (pc := 46) (D := D) (ci := 5) (v := .ref bd) (C := RX6) (T := TX6) (N := 2) hx hb hts hinX6 hown hK.1 hP 0 rfl rfl 0 (by decide) (hts (.fieldLink RX6 9 "BoxesGame$Styles" "board" "LBoxesGame$Board;") (List.mem_of_getElem? (i := 1) rfl)) (fun _ h9 => h9) rfl dX6_choose_46 ?_
    refine lv_lload_n (pc := 49) hx hb dX6_choose_49 rfl (lv_at hl 4 rfl) ?_
    refine ro_go (pc := 50) (va_runV (As := [.long w]) (rest := []) ⟨hx, hb, hml, hown, hts⟩ (c_X0_safeLines l D Y bd bs bf bg c r sd fb gb w (hC) (hB)) (cwV 1 hts gX6_choose_X0_safeLines rfl rfl rfl ⟨rfl, hdX0_safeLines⟩ ⟨Nat.le_of_ble_eq_true rfl, Nat.le_of_ble_eq_true rfl⟩) (ro_pV hK (hP.sub [6, 7, 8, 9] rfl) (ro_recv hK hP (ci := 0) (q0 := 6) rfl rfl)) rfl rfl hl.1 rfl (lv_room (Nat.le_of_ble_eq_true rfl)) dX6_choose_50 ⟨Nat.le_of_ble_eq_true rfl, Nat.le_of_ble_eq_true rfl⟩) ?_
    refine lv_lstore (pc := 53) (lv' := [(8, .long (sfl c r w)), (6, .long (tkl c r w)), (4, .long (opl c r w)), (0, .ref sy), (1, .int (nI st)), (2, .long w)]) hx hb dX6_choose_53 hl (by decide) rfl (fun ls hl => ?_)
    refine lv_iload_n (pc := 55) hx hb dX6_choose_55 rfl (lv_at hl 4 rfl) ?_
    refine n_if_eq (pc := 56) (tgt := 98) hx hb (by omega) dX6_choose_56 (by decide) (fun c56 => ?_) (fun c56 => ?_)
    · refine lv_lload (pc := 98) hx hb dX6_choose_98 (lv_at hl 1 rfl) ?_
      refine lv_lconst (pc := 100) (v := 0) hx hb dX6_choose_100 (by decide) ?_
      refine W.lcmp (pc := 101) hx hb dX6_choose_101 ?_
      refine lc_if_eq (pc := 102) (tgt := 111) hx hb dX6_choose_102 (by decide) (fun c102 => ?_) (fun c102 => ?_)
      · refine lv_lload (pc := 111) hx hb dX6_choose_111 (lv_at hl 0 rfl) ?_
        refine lv_lconst (pc := 113) (v := 0) hx hb dX6_choose_113 (by decide) ?_
        refine W.lcmp (pc := 114) hx hb dX6_choose_114 ?_
        refine lc_if_eq (pc := 115) (tgt := 126) hx hb dX6_choose_115 (by decide) (fun c115 => ?_) (fun c115 => ?_)
        · refine lv_aload_n (pc := 126) hx hb dX6_choose_126 rfl (lv_at hl 3 rfl) ?_
          refine lv_lload_n (pc := 127) hx hb dX6_choose_127 rfl (lv_at hl 5 rfl) ?_
          refine ro_go (pc := 128) (va_runV (As := [.long w]) (rest := []) ⟨hx, hb, hml, hown, hts⟩ (c_X6_cheapestLine l D Y sy bd so bs bf bg c r sd fb gb w (hC) (hB)) (cwV 1 hts gX6_choose_X6_cheapestLine rfl rfl rfl ⟨rfl, hdX6_cheapestLine⟩ ⟨Nat.le_of_ble_eq_true rfl, Nat.le_of_ble_eq_true rfl⟩) (ro_pV hK (hP.sub [0, 6, 7, 8, 9] rfl) (ro_recv hK hP (ci := 5) (q0 := 0) rfl rfl)) rfl rfl hl.1 rfl (lv_room (Nat.le_of_ble_eq_true rfl)) dX6_choose_128 ⟨Nat.le_of_ble_eq_true rfl, Nat.le_of_ble_eq_true rfl⟩) ?_
          refine lv_topi (fun x128 ex128 => ?_)
          subst hAA
          exact mu_iret hx hb hr hlocks hP hS (⟨am, kn, S, ln, f1, f2, be⟩) (by rw [ex128, cho_0 c56, grM_3 ((set0 hC (tb_tkl hC w)).mp c102) ((set0 hC (tb_sfl hC w)).mp c115)]) (hkn) (rfl) dX6_choose_131
        obtain ⟨sk, hsk⟩ : ∃ sk, fstk c r w 2 = some sk := by cases q : fstk c r w 2; exact absurd ((set0 hC (tb_sfl hC w)).mpr q) c115; exact ⟨_, rfl⟩
        refine lv_lload (pc := 118) hx hb dX6_choose_118 (lv_at hl 0 rfl) ?_
        refine ro_go (pc := 120) (va_runSN (As := [.long (sfl c r w)]) (rest := []) ⟨hx, hb, hml, hown, hts⟩ (c_X8_lowestOf l D Y (sfl c r w) ) (⟨va_cnB 1 hts ggX6_choose_X8_lowestOf rfl rfl rfl (hK.nest 7 rfl) (hts (.initialized RX8) (List.mem_of_getElem? (i := 12) rfl)) hdX8_lowestOf ⟨Nat.le_of_ble_eq_true rfl, Nat.le_of_ble_eq_true rfl⟩, hts (.static yX8_lowestOf) (List.mem_of_getElem? (i := 47) rfl), trivial⟩) (ro_pS hK (hP.sub [] rfl)) rfl rfl hl.1 rfl (lv_room (Nat.le_of_ble_eq_true rfl)) dX6_choose_120 ⟨Nat.le_of_ble_eq_true rfl, Nat.le_of_ble_eq_true rfl⟩) ?_
        refine lv_topi (fun x120 ex120 => ?_)
        refine lv_goto (pc := 123) (tgt := 131) hx hb dX6_choose_123 (by decide) ?_
        subst hAA
        exact mu_iret hx hb hr hlocks hP hS (⟨am, kn, S, ln, f1, f2, be⟩) (by rw [ex120, fst_of hC (tb_sfl hC w), cho_0 c56, grM_2 ((set0 hC (tb_tkl hC w)).mp c102) hsk]; exact congrArg (fun q => some (Value.int (oI q))) hsk.symm) (hkn) (rfl) dX6_choose_131
      obtain ⟨tk, htk⟩ : ∃ tk, fstk c r w 1 = some tk := by cases q : fstk c r w 1; exact absurd ((set0 hC (tb_tkl hC w)).mpr q) c102; exact ⟨_, rfl⟩
      refine lv_lload (pc := 105) hx hb dX6_choose_105 (lv_at hl 1 rfl) ?_
      refine ro_go (pc := 107) (va_runSN (As := [.long (tkl c r w)]) (rest := []) ⟨hx, hb, hml, hown, hts⟩ (c_X8_lowestOf l D Y (tkl c r w) ) (⟨va_cnB 1 hts ggX6_choose_X8_lowestOf rfl rfl rfl (hK.nest 7 rfl) (hts (.initialized RX8) (List.mem_of_getElem? (i := 12) rfl)) hdX8_lowestOf ⟨Nat.le_of_ble_eq_true rfl, Nat.le_of_ble_eq_true rfl⟩, hts (.static yX8_lowestOf) (List.mem_of_getElem? (i := 47) rfl), trivial⟩) (ro_pS hK (hP.sub [] rfl)) rfl rfl hl.1 rfl (lv_room (Nat.le_of_ble_eq_true rfl)) dX6_choose_107 ⟨Nat.le_of_ble_eq_true rfl, Nat.le_of_ble_eq_true rfl⟩) ?_
      refine lv_topi (fun x107 ex107 => ?_)
      subst hAA
      exact mu_iret hx hb hr hlocks hP hS (⟨am, kn, S, ln, f1, f2, be⟩) (by rw [ex107, fst_of hC (tb_tkl hC w), cho_0 c56, grM_1 htk]; exact congrArg (fun q => some (Value.int (oI q))) htk.symm) (hkn) (rfl) dX6_choose_110
    refine lv_lload (pc := 59) hx hb dX6_choose_59 (lv_at hl 1 rfl) ?_
    refine lv_lconst (pc := 61) (v := 0) hx hb dX6_choose_61 (by decide) ?_
    refine W.lcmp (pc := 62) hx hb dX6_choose_62 ?_
    refine lc_if_eq (pc := 63) (tgt := 98) hx hb dX6_choose_63 (by decide) (fun c63 => ?_) (fun c63 => ?_)
    · refine lv_lload (pc := 98) hx hb dX6_choose_98 (lv_at hl 1 rfl) ?_
      refine lv_lconst (pc := 100) (v := 0) hx hb dX6_choose_100 (by decide) ?_
      refine W.lcmp (pc := 101) hx hb dX6_choose_101 ?_
      refine lc_if_eq (pc := 102) (tgt := 111) hx hb dX6_choose_102 (by decide) (fun c102 => ?_) (fun c102 => ?_)
      · refine lv_lload (pc := 111) hx hb dX6_choose_111 (lv_at hl 0 rfl) ?_
        refine lv_lconst (pc := 113) (v := 0) hx hb dX6_choose_113 (by decide) ?_
        refine W.lcmp (pc := 114) hx hb dX6_choose_114 ?_
        refine lc_if_eq (pc := 115) (tgt := 126) hx hb dX6_choose_115 (by decide) (fun c115 => ?_) (fun c115 => ?_)
        · refine lv_aload_n (pc := 126) hx hb dX6_choose_126 rfl (lv_at hl 3 rfl) ?_
          refine lv_lload_n (pc := 127) hx hb dX6_choose_127 rfl (lv_at hl 5 rfl) ?_
          refine ro_go (pc := 128) (va_runV (As := [.long w]) (rest := []) ⟨hx, hb, hml, hown, hts⟩ (c_X6_cheapestLine l D Y sy bd so bs bf bg c r sd fb gb w (hC) (hB)) (cwV 1 hts gX6_choose_X6_cheapestLine rfl rfl rfl ⟨rfl, hdX6_cheapestLine⟩ ⟨Nat.le_of_ble_eq_true rfl, Nat.le_of_ble_eq_true rfl⟩) (ro_pV hK (hP.sub [0, 6, 7, 8, 9] rfl) (ro_recv hK hP (ci := 5) (q0 := 0) rfl rfl)) rfl rfl hl.1 rfl (lv_room (Nat.le_of_ble_eq_true rfl)) dX6_choose_128 ⟨Nat.le_of_ble_eq_true rfl, Nat.le_of_ble_eq_true rfl⟩) ?_
          refine lv_topi (fun x128 ex128 => ?_)
          subst hAA
          exact mu_iret hx hb hr hlocks hP hS (⟨am, kn, S, ln, f1, f2, be⟩) (by rw [ex128, (cho_1 hst (by omega) (fun q => absurd q c12)).trans (kp_c (Or.inl ((set0 hC (tb_tkl hC w)).mp c63))), grM_3 ((set0 hC (tb_tkl hC w)).mp c102) ((set0 hC (tb_sfl hC w)).mp c115)]) (hkn) (rfl) dX6_choose_131
        obtain ⟨sk, hsk⟩ : ∃ sk, fstk c r w 2 = some sk := by cases q : fstk c r w 2; exact absurd ((set0 hC (tb_sfl hC w)).mpr q) c115; exact ⟨_, rfl⟩
        refine lv_lload (pc := 118) hx hb dX6_choose_118 (lv_at hl 0 rfl) ?_
        refine ro_go (pc := 120) (va_runSN (As := [.long (sfl c r w)]) (rest := []) ⟨hx, hb, hml, hown, hts⟩ (c_X8_lowestOf l D Y (sfl c r w) ) (⟨va_cnB 1 hts ggX6_choose_X8_lowestOf rfl rfl rfl (hK.nest 7 rfl) (hts (.initialized RX8) (List.mem_of_getElem? (i := 12) rfl)) hdX8_lowestOf ⟨Nat.le_of_ble_eq_true rfl, Nat.le_of_ble_eq_true rfl⟩, hts (.static yX8_lowestOf) (List.mem_of_getElem? (i := 47) rfl), trivial⟩) (ro_pS hK (hP.sub [] rfl)) rfl rfl hl.1 rfl (lv_room (Nat.le_of_ble_eq_true rfl)) dX6_choose_120 ⟨Nat.le_of_ble_eq_true rfl, Nat.le_of_ble_eq_true rfl⟩) ?_
        refine lv_topi (fun x120 ex120 => ?_)
        refine lv_goto (pc := 123) (tgt := 131) hx hb dX6_choose_123 (by decide) ?_
        subst hAA
        exact mu_iret hx hb hr hlocks hP hS (⟨am, kn, S, ln, f1, f2, be⟩) (by rw [ex120, fst_of hC (tb_sfl hC w), (cho_1 hst (by omega) (fun q => absurd q c12)).trans (kp_c (Or.inl ((set0 hC (tb_tkl hC w)).mp c63))), grM_2 ((set0 hC (tb_tkl hC w)).mp c102) hsk]; exact congrArg (fun q => some (Value.int (oI q))) hsk.symm) (hkn) (rfl) dX6_choose_131
      · exact absurd c63 c102
    refine lv_lload (pc := 66) hx hb dX6_choose_66 (lv_at hl 0 rfl) ?_
    refine lv_lconst (pc := 68) (v := 0) hx hb dX6_choose_68 (by decide) ?_
    refine W.lcmp (pc := 69) hx hb dX6_choose_69 ?_
    refine lc_if_ne (pc := 70) (tgt := 98) hx hb dX6_choose_70 (by decide) (fun c70 => ?_) (fun c70 => ?_)
    · refine lv_lload (pc := 98) hx hb dX6_choose_98 (lv_at hl 1 rfl) ?_
      refine lv_lconst (pc := 100) (v := 0) hx hb dX6_choose_100 (by decide) ?_
      refine W.lcmp (pc := 101) hx hb dX6_choose_101 ?_
      refine lc_if_eq (pc := 102) (tgt := 111) hx hb dX6_choose_102 (by decide) (fun c102 => ?_) (fun c102 => ?_)
      · exact absurd c102 c63
      obtain ⟨tk, htk⟩ : ∃ tk, fstk c r w 1 = some tk := by cases q : fstk c r w 1; exact absurd ((set0 hC (tb_tkl hC w)).mpr q) c102; exact ⟨_, rfl⟩
      refine lv_lload (pc := 105) hx hb dX6_choose_105 (lv_at hl 1 rfl) ?_
      refine ro_go (pc := 107) (va_runSN (As := [.long (tkl c r w)]) (rest := []) ⟨hx, hb, hml, hown, hts⟩ (c_X8_lowestOf l D Y (tkl c r w) ) (⟨va_cnB 1 hts ggX6_choose_X8_lowestOf rfl rfl rfl (hK.nest 7 rfl) (hts (.initialized RX8) (List.mem_of_getElem? (i := 12) rfl)) hdX8_lowestOf ⟨Nat.le_of_ble_eq_true rfl, Nat.le_of_ble_eq_true rfl⟩, hts (.static yX8_lowestOf) (List.mem_of_getElem? (i := 47) rfl), trivial⟩) (ro_pS hK (hP.sub [] rfl)) rfl rfl hl.1 rfl (lv_room (Nat.le_of_ble_eq_true rfl)) dX6_choose_107 ⟨Nat.le_of_ble_eq_true rfl, Nat.le_of_ble_eq_true rfl⟩) ?_
      refine lv_topi (fun x107 ex107 => ?_)
      subst hAA
      exact mu_iret hx hb hr hlocks hP hS (⟨am, kn, S, ln, f1, f2, be⟩) (by rw [ex107, fst_of hC (tb_tkl hC w), (cho_1 hst (by omega) (fun q => absurd q c12)).trans (kp_c (Or.inr (fun z => c70 ((set0 hC (tb_sfl hC w)).mpr z)))), grM_1 htk]; exact congrArg (fun q => some (Value.int (oI q))) htk.symm) (hkn) (rfl) dX6_choose_110
    refine lv_aload_n (pc := 73) hx hb dX6_choose_73 rfl (lv_at hl 3 rfl) ?_
    refine lv_lload_n (pc := 74) hx hb dX6_choose_74 rfl (lv_at hl 5 rfl) ?_
    refine lv_lload (pc := 75) hx hb dX6_choose_75 (lv_at hl 2 rfl) ?_
    refine lv_lload (pc := 77) hx hb dX6_choose_77 (lv_at hl 1 rfl) ?_
    refine lv_ldc2 (pc := 79) hx hb hown (hts (.constantLong RX6 42 (-1)) (List.mem_of_getElem? (i := 3) rfl)) dX6_choose_79 ?_
    refine lv_lxor (pc := 82) hx hb dX6_choose_82 ?_
    refine lv_land (pc := 83) hx hb dX6_choose_83 ?_
    refine ro_go (pc := 84) (va_runV (As := [.long w, .long ((opl c r w) &&& ((tkl c r w) ^^^ (-1 : Int64)))]) (rest := []) ⟨hx, hb, hml, hown, hts⟩ (c_X6_keepingLine l D Y sy bd so bs bf bg c r sd fb gb w (hC) (hB)) (cwV 2 hts gX6_choose_X6_keepingLine rfl rfl rfl ⟨rfl, hdX6_keepingLine⟩ ⟨Nat.le_of_ble_eq_true rfl, Nat.le_of_ble_eq_true rfl⟩) (ro_pV hK (hP.sub [0, 6, 7, 8, 9] rfl) (ro_recv hK hP (ci := 5) (q0 := 0) rfl rfl)) rfl rfl hl.1 rfl (lv_room (Nat.le_of_ble_eq_true rfl)) dX6_choose_84 ⟨Nat.le_of_ble_eq_true rfl, Nat.le_of_ble_eq_true rfl⟩) ?_
    refine lv_topi (fun x84 ex84 => ?_)
    refine lv_istore (pc := 87) (lv' := [(10, .int x84), (8, .long (sfl c r w)), (6, .long (tkl c r w)), (4, .long (opl c r w)), (0, .ref sy), (1, .int (nI st)), (2, .long w)]) hx hb dX6_choose_87 hl (by decide) rfl (fun ls hl => ?_)
    refine lv_iload (pc := 89) hx hb dX6_choose_89 (lv_at hl 0 rfl) ?_
    refine lv_iconst (pc := 91) (v := (-1)) hx hb dX6_choose_91 (by decide) ?_
    refine lv_icmp_eq (pc := 92) (tgt := 98) hx hb dX6_choose_92 (by decide) (fun c92 => ?_) (fun c92 => ?_)
    · refine lv_lload (pc := 98) hx hb dX6_choose_98 (lv_at hl 2 rfl) ?_
      refine lv_lconst (pc := 100) (v := 0) hx hb dX6_choose_100 (by decide) ?_
      refine W.lcmp (pc := 101) hx hb dX6_choose_101 ?_
      refine lc_if_eq (pc := 102) (tgt := 111) hx hb dX6_choose_102 (by decide) (fun c102 => ?_) (fun c102 => ?_)
      · exact absurd c102 c63
      obtain ⟨tk, htk⟩ : ∃ tk, fstk c r w 1 = some tk := by cases q : fstk c r w 1; exact absurd ((set0 hC (tb_tkl hC w)).mpr q) c102; exact ⟨_, rfl⟩
      refine lv_lload (pc := 105) hx hb dX6_choose_105 (lv_at hl 2 rfl) ?_
      refine ro_go (pc := 107) (va_runSN (As := [.long (tkl c r w)]) (rest := []) ⟨hx, hb, hml, hown, hts⟩ (c_X8_lowestOf l D Y (tkl c r w) ) (⟨va_cnB 1 hts ggX6_choose_X8_lowestOf rfl rfl rfl (hK.nest 7 rfl) (hts (.initialized RX8) (List.mem_of_getElem? (i := 12) rfl)) hdX8_lowestOf ⟨Nat.le_of_ble_eq_true rfl, Nat.le_of_ble_eq_true rfl⟩, hts (.static yX8_lowestOf) (List.mem_of_getElem? (i := 47) rfl), trivial⟩) (ro_pS hK (hP.sub [] rfl)) rfl rfl hl.1 rfl (lv_room (Nat.le_of_ble_eq_true rfl)) dX6_choose_107 ⟨Nat.le_of_ble_eq_true rfl, Nat.le_of_ble_eq_true rfl⟩) ?_
      refine lv_topi (fun x107 ex107 => ?_)
      subst hAA
      exact mu_iret hx hb hr hlocks hP hS (⟨am, kn, S, ln, f1, f2, be⟩) (by rw [ex107, fst_of hC (tb_tkl hC w), (cho_1 hst (by omega) (fun q => absurd q c12)).trans (kp_b (oI_none ex84 c92 (fun b h => by have := ke_lt hC h; omega))), grM_1 htk]; exact congrArg (fun q => some (Value.int (oI q))) htk.symm) (hkn) (rfl) dX6_choose_110
    obtain ⟨ke, hke, hkx⟩ := oI_some ex84 c92
    refine lv_iload (pc := 95) hx hb dX6_choose_95 (lv_at hl 0 rfl) ?_
    subst hAA
    exact mu_iret hx hb hr hlocks hP hS (⟨am, kn, S, ln, f1, f2, be⟩) (by rw [cho_1 hst (by omega) (fun q => absurd q c12), kp_a (fun z => c63 ((set0 hC (tb_tkl hC w)).mpr z)) ((set0 hC (tb_sfl hC w)).mp c70) hke]; exact congrArg (fun q => some (Value.int q)) hkx.symm) (hkn) (rfl) dX6_choose_97
  refine lv_lload (pc := 15) hx hb dX6_choose_15 (lv_at hl 0 rfl) ?_
  refine ro_go (pc := 17) (va_runS (As := [.long (opl c r w)]) (rest := []) ⟨hx, hb, hml, hown, hts⟩ (c_J13_bitCount_95d88 l D Y (opl c r w) ) (va_cwS 1 hts gX6_choose_J13_bitCount_95d88 rfl rfl rfl hdJ13_bitCount_95d88 ⟨Nat.le_of_ble_eq_true rfl, Nat.le_of_ble_eq_true rfl⟩) (ro_pS hK (hP.sub [] rfl)) rfl rfl hl.1 rfl (lv_room (Nat.le_of_ble_eq_true rfl)) dX6_choose_17 ⟨Nat.le_of_ble_eq_true rfl, Nat.le_of_ble_eq_true rfl⟩) ?_
  refine lv_bipush (pc := 20) (v := nI 12) hx hb dX6_choose_20 rfl ?_
  refine n_icmp_gt (pc := 22) (tgt := 35) hx hb (by rw [opl_pop hC]; have := und_le c r w; omega) (by decide) dX6_choose_22 (by decide) (fun c22 => ?_) (fun c22 => ?_)
  · refine lv_aload_n (pc := 35) hx hb dX6_choose_35 rfl (lv_at hl 1 rfl) ?_
    refine va_get (pc := 36) (D := D) (ci := 5) (v := .ref bd) (C := RX6) (T := TX6) (N := 2) hx hb hts hinX6 hown hK.1 hP 0 rfl rfl 0 (by decide) (hts (.fieldLink RX6 9 "BoxesGame$Styles" "board" "LBoxesGame$Board;") (List.mem_of_getElem? (i := 1) rfl)) (fun _ h9 => h9) rfl dX6_choose_36 ?_
    refine lv_lload_n (pc := 39) hx hb dX6_choose_39 rfl (lv_at hl 3 rfl) ?_
    refine ro_go (pc := 40) (va_runV (As := [.long w]) (rest := []) ⟨hx, hb, hml, hown, hts⟩ (c_X0_takingLines l D Y bd bs bf bg c r sd fb gb w (hC) (hB)) (cwV 1 hts gX6_choose_X0_takingLines rfl rfl rfl ⟨rfl, hdX0_takingLines⟩ ⟨Nat.le_of_ble_eq_true rfl, Nat.le_of_ble_eq_true rfl⟩) (ro_pV hK (hP.sub [6, 7, 8, 9] rfl) (ro_recv hK hP (ci := 0) (q0 := 6) rfl rfl)) rfl rfl hl.1 rfl (lv_room (Nat.le_of_ble_eq_true rfl)) dX6_choose_40 ⟨Nat.le_of_ble_eq_true rfl, Nat.le_of_ble_eq_true rfl⟩) ?_
    refine lv_lstore (pc := 43) (lv' := [(6, .long (tkl c r w)), (4, .long (opl c r w)), (0, .ref sy), (1, .int (nI st)), (2, .long w)]) hx hb dX6_choose_43 hl (by decide) rfl (fun ls hl => ?_)
    refine lv_aload_n (pc := 45) hx hb dX6_choose_45 rfl (lv_at hl 2 rfl) ?_
    refine va_get (pc := 46) (D := D) (ci := 5) (v := .ref bd) (C := RX6) (T := TX6) (N := 2) hx hb hts hinX6 hown hK.1 hP 0 rfl rfl 0 (by decide) (hts (.fieldLink RX6 9 "BoxesGame$Styles" "board" "LBoxesGame$Board;") (List.mem_of_getElem? (i := 1) rfl)) (fun _ h9 => h9) rfl dX6_choose_46 ?_
    refine lv_lload_n (pc := 49) hx hb dX6_choose_49 rfl (lv_at hl 4 rfl) ?_
    refine ro_go (pc := 50) (va_runV (As := [.long w]) (rest := []) ⟨hx, hb, hml, hown, hts⟩ (c_X0_safeLines l D Y bd bs bf bg c r sd fb gb w (hC) (hB)) (cwV 1 hts gX6_choose_X0_safeLines rfl rfl rfl ⟨rfl, hdX0_safeLines⟩ ⟨Nat.le_of_ble_eq_true rfl, Nat.le_of_ble_eq_true rfl⟩) (ro_pV hK (hP.sub [6, 7, 8, 9] rfl) (ro_recv hK hP (ci := 0) (q0 := 6) rfl rfl)) rfl rfl hl.1 rfl (lv_room (Nat.le_of_ble_eq_true rfl)) dX6_choose_50 ⟨Nat.le_of_ble_eq_true rfl, Nat.le_of_ble_eq_true rfl⟩) ?_
    refine lv_lstore (pc := 53) (lv' := [(8, .long (sfl c r w)), (6, .long (tkl c r w)), (4, .long (opl c r w)), (0, .ref sy), (1, .int (nI st)), (2, .long w)]) hx hb dX6_choose_53 hl (by decide) rfl (fun ls hl => ?_)
    refine lv_iload_n (pc := 55) hx hb dX6_choose_55 rfl (lv_at hl 4 rfl) ?_
    refine n_if_eq (pc := 56) (tgt := 98) hx hb (by omega) dX6_choose_56 (by decide) (fun c56 => ?_) (fun c56 => ?_)
    · refine lv_lload (pc := 98) hx hb dX6_choose_98 (lv_at hl 1 rfl) ?_
      refine lv_lconst (pc := 100) (v := 0) hx hb dX6_choose_100 (by decide) ?_
      refine W.lcmp (pc := 101) hx hb dX6_choose_101 ?_
      refine lc_if_eq (pc := 102) (tgt := 111) hx hb dX6_choose_102 (by decide) (fun c102 => ?_) (fun c102 => ?_)
      · refine lv_lload (pc := 111) hx hb dX6_choose_111 (lv_at hl 0 rfl) ?_
        refine lv_lconst (pc := 113) (v := 0) hx hb dX6_choose_113 (by decide) ?_
        refine W.lcmp (pc := 114) hx hb dX6_choose_114 ?_
        refine lc_if_eq (pc := 115) (tgt := 126) hx hb dX6_choose_115 (by decide) (fun c115 => ?_) (fun c115 => ?_)
        · refine lv_aload_n (pc := 126) hx hb dX6_choose_126 rfl (lv_at hl 3 rfl) ?_
          refine lv_lload_n (pc := 127) hx hb dX6_choose_127 rfl (lv_at hl 5 rfl) ?_
          refine ro_go (pc := 128) (va_runV (As := [.long w]) (rest := []) ⟨hx, hb, hml, hown, hts⟩ (c_X6_cheapestLine l D Y sy bd so bs bf bg c r sd fb gb w (hC) (hB)) (cwV 1 hts gX6_choose_X6_cheapestLine rfl rfl rfl ⟨rfl, hdX6_cheapestLine⟩ ⟨Nat.le_of_ble_eq_true rfl, Nat.le_of_ble_eq_true rfl⟩) (ro_pV hK (hP.sub [0, 6, 7, 8, 9] rfl) (ro_recv hK hP (ci := 5) (q0 := 0) rfl rfl)) rfl rfl hl.1 rfl (lv_room (Nat.le_of_ble_eq_true rfl)) dX6_choose_128 ⟨Nat.le_of_ble_eq_true rfl, Nat.le_of_ble_eq_true rfl⟩) ?_
          refine lv_topi (fun x128 ex128 => ?_)
          subst hAA
          exact mu_iret hx hb hr hlocks hP hS (⟨am, kn, S, ln, f1, f2, be⟩) (by rw [ex128, cho_0 c56, grM_3 ((set0 hC (tb_tkl hC w)).mp c102) ((set0 hC (tb_sfl hC w)).mp c115)]) (hkn) (rfl) dX6_choose_131
        obtain ⟨sk, hsk⟩ : ∃ sk, fstk c r w 2 = some sk := by cases q : fstk c r w 2; exact absurd ((set0 hC (tb_sfl hC w)).mpr q) c115; exact ⟨_, rfl⟩
        refine lv_lload (pc := 118) hx hb dX6_choose_118 (lv_at hl 0 rfl) ?_
        refine ro_go (pc := 120) (va_runSN (As := [.long (sfl c r w)]) (rest := []) ⟨hx, hb, hml, hown, hts⟩ (c_X8_lowestOf l D Y (sfl c r w) ) (⟨va_cnB 1 hts ggX6_choose_X8_lowestOf rfl rfl rfl (hK.nest 7 rfl) (hts (.initialized RX8) (List.mem_of_getElem? (i := 12) rfl)) hdX8_lowestOf ⟨Nat.le_of_ble_eq_true rfl, Nat.le_of_ble_eq_true rfl⟩, hts (.static yX8_lowestOf) (List.mem_of_getElem? (i := 47) rfl), trivial⟩) (ro_pS hK (hP.sub [] rfl)) rfl rfl hl.1 rfl (lv_room (Nat.le_of_ble_eq_true rfl)) dX6_choose_120 ⟨Nat.le_of_ble_eq_true rfl, Nat.le_of_ble_eq_true rfl⟩) ?_
        refine lv_topi (fun x120 ex120 => ?_)
        refine lv_goto (pc := 123) (tgt := 131) hx hb dX6_choose_123 (by decide) ?_
        subst hAA
        exact mu_iret hx hb hr hlocks hP hS (⟨am, kn, S, ln, f1, f2, be⟩) (by rw [ex120, fst_of hC (tb_sfl hC w), cho_0 c56, grM_2 ((set0 hC (tb_tkl hC w)).mp c102) hsk]; exact congrArg (fun q => some (Value.int (oI q))) hsk.symm) (hkn) (rfl) dX6_choose_131
      obtain ⟨tk, htk⟩ : ∃ tk, fstk c r w 1 = some tk := by cases q : fstk c r w 1; exact absurd ((set0 hC (tb_tkl hC w)).mpr q) c102; exact ⟨_, rfl⟩
      refine lv_lload (pc := 105) hx hb dX6_choose_105 (lv_at hl 1 rfl) ?_
      refine ro_go (pc := 107) (va_runSN (As := [.long (tkl c r w)]) (rest := []) ⟨hx, hb, hml, hown, hts⟩ (c_X8_lowestOf l D Y (tkl c r w) ) (⟨va_cnB 1 hts ggX6_choose_X8_lowestOf rfl rfl rfl (hK.nest 7 rfl) (hts (.initialized RX8) (List.mem_of_getElem? (i := 12) rfl)) hdX8_lowestOf ⟨Nat.le_of_ble_eq_true rfl, Nat.le_of_ble_eq_true rfl⟩, hts (.static yX8_lowestOf) (List.mem_of_getElem? (i := 47) rfl), trivial⟩) (ro_pS hK (hP.sub [] rfl)) rfl rfl hl.1 rfl (lv_room (Nat.le_of_ble_eq_true rfl)) dX6_choose_107 ⟨Nat.le_of_ble_eq_true rfl, Nat.le_of_ble_eq_true rfl⟩) ?_
      refine lv_topi (fun x107 ex107 => ?_)
      subst hAA
      exact mu_iret hx hb hr hlocks hP hS (⟨am, kn, S, ln, f1, f2, be⟩) (by rw [ex107, fst_of hC (tb_tkl hC w), cho_0 c56, grM_1 htk]; exact congrArg (fun q => some (Value.int (oI q))) htk.symm) (hkn) (rfl) dX6_choose_110
    refine lv_lload (pc := 59) hx hb dX6_choose_59 (lv_at hl 1 rfl) ?_
    refine lv_lconst (pc := 61) (v := 0) hx hb dX6_choose_61 (by decide) ?_
    refine W.lcmp (pc := 62) hx hb dX6_choose_62 ?_
    refine lc_if_eq (pc := 63) (tgt := 98) hx hb dX6_choose_63 (by decide) (fun c63 => ?_) (fun c63 => ?_)
    · refine lv_lload (pc := 98) hx hb dX6_choose_98 (lv_at hl 1 rfl) ?_
      refine lv_lconst (pc := 100) (v := 0) hx hb dX6_choose_100 (by decide) ?_
      refine W.lcmp (pc := 101) hx hb dX6_choose_101 ?_
      refine lc_if_eq (pc := 102) (tgt := 111) hx hb dX6_choose_102 (by decide) (fun c102 => ?_) (fun c102 => ?_)
      · refine lv_lload (pc := 111) hx hb dX6_choose_111 (lv_at hl 0 rfl) ?_
        refine lv_lconst (pc := 113) (v := 0) hx hb dX6_choose_113 (by decide) ?_
        refine W.lcmp (pc := 114) hx hb dX6_choose_114 ?_
        refine lc_if_eq (pc := 115) (tgt := 126) hx hb dX6_choose_115 (by decide) (fun c115 => ?_) (fun c115 => ?_)
        · refine lv_aload_n (pc := 126) hx hb dX6_choose_126 rfl (lv_at hl 3 rfl) ?_
          refine lv_lload_n (pc := 127) hx hb dX6_choose_127 rfl (lv_at hl 5 rfl) ?_
          refine ro_go (pc := 128) (va_runV (As := [.long w]) (rest := []) ⟨hx, hb, hml, hown, hts⟩ (c_X6_cheapestLine l D Y sy bd so bs bf bg c r sd fb gb w (hC) (hB)) (cwV 1 hts gX6_choose_X6_cheapestLine rfl rfl rfl ⟨rfl, hdX6_cheapestLine⟩ ⟨Nat.le_of_ble_eq_true rfl, Nat.le_of_ble_eq_true rfl⟩) (ro_pV hK (hP.sub [0, 6, 7, 8, 9] rfl) (ro_recv hK hP (ci := 5) (q0 := 0) rfl rfl)) rfl rfl hl.1 rfl (lv_room (Nat.le_of_ble_eq_true rfl)) dX6_choose_128 ⟨Nat.le_of_ble_eq_true rfl, Nat.le_of_ble_eq_true rfl⟩) ?_
          refine lv_topi (fun x128 ex128 => ?_)
          subst hAA
          exact mu_iret hx hb hr hlocks hP hS (⟨am, kn, S, ln, f1, f2, be⟩) (by rw [ex128, (cho_1 hst (by omega) (fun q => by rw [← opl_pop hC]; omega)).trans (kp_c (Or.inl ((set0 hC (tb_tkl hC w)).mp c63))), grM_3 ((set0 hC (tb_tkl hC w)).mp c102) ((set0 hC (tb_sfl hC w)).mp c115)]) (hkn) (rfl) dX6_choose_131
        obtain ⟨sk, hsk⟩ : ∃ sk, fstk c r w 2 = some sk := by cases q : fstk c r w 2; exact absurd ((set0 hC (tb_sfl hC w)).mpr q) c115; exact ⟨_, rfl⟩
        refine lv_lload (pc := 118) hx hb dX6_choose_118 (lv_at hl 0 rfl) ?_
        refine ro_go (pc := 120) (va_runSN (As := [.long (sfl c r w)]) (rest := []) ⟨hx, hb, hml, hown, hts⟩ (c_X8_lowestOf l D Y (sfl c r w) ) (⟨va_cnB 1 hts ggX6_choose_X8_lowestOf rfl rfl rfl (hK.nest 7 rfl) (hts (.initialized RX8) (List.mem_of_getElem? (i := 12) rfl)) hdX8_lowestOf ⟨Nat.le_of_ble_eq_true rfl, Nat.le_of_ble_eq_true rfl⟩, hts (.static yX8_lowestOf) (List.mem_of_getElem? (i := 47) rfl), trivial⟩) (ro_pS hK (hP.sub [] rfl)) rfl rfl hl.1 rfl (lv_room (Nat.le_of_ble_eq_true rfl)) dX6_choose_120 ⟨Nat.le_of_ble_eq_true rfl, Nat.le_of_ble_eq_true rfl⟩) ?_
        refine lv_topi (fun x120 ex120 => ?_)
        refine lv_goto (pc := 123) (tgt := 131) hx hb dX6_choose_123 (by decide) ?_
        subst hAA
        exact mu_iret hx hb hr hlocks hP hS (⟨am, kn, S, ln, f1, f2, be⟩) (by rw [ex120, fst_of hC (tb_sfl hC w), (cho_1 hst (by omega) (fun q => by rw [← opl_pop hC]; omega)).trans (kp_c (Or.inl ((set0 hC (tb_tkl hC w)).mp c63))), grM_2 ((set0 hC (tb_tkl hC w)).mp c102) hsk]; exact congrArg (fun q => some (Value.int (oI q))) hsk.symm) (hkn) (rfl) dX6_choose_131
      · exact absurd c63 c102
    refine lv_lload (pc := 66) hx hb dX6_choose_66 (lv_at hl 0 rfl) ?_
    refine lv_lconst (pc := 68) (v := 0) hx hb dX6_choose_68 (by decide) ?_
    refine W.lcmp (pc := 69) hx hb dX6_choose_69 ?_
    refine lc_if_ne (pc := 70) (tgt := 98) hx hb dX6_choose_70 (by decide) (fun c70 => ?_) (fun c70 => ?_)
    · refine lv_lload (pc := 98) hx hb dX6_choose_98 (lv_at hl 1 rfl) ?_
      refine lv_lconst (pc := 100) (v := 0) hx hb dX6_choose_100 (by decide) ?_
      refine W.lcmp (pc := 101) hx hb dX6_choose_101 ?_
      refine lc_if_eq (pc := 102) (tgt := 111) hx hb dX6_choose_102 (by decide) (fun c102 => ?_) (fun c102 => ?_)
      · exact absurd c102 c63
      obtain ⟨tk, htk⟩ : ∃ tk, fstk c r w 1 = some tk := by cases q : fstk c r w 1; exact absurd ((set0 hC (tb_tkl hC w)).mpr q) c102; exact ⟨_, rfl⟩
      refine lv_lload (pc := 105) hx hb dX6_choose_105 (lv_at hl 1 rfl) ?_
      refine ro_go (pc := 107) (va_runSN (As := [.long (tkl c r w)]) (rest := []) ⟨hx, hb, hml, hown, hts⟩ (c_X8_lowestOf l D Y (tkl c r w) ) (⟨va_cnB 1 hts ggX6_choose_X8_lowestOf rfl rfl rfl (hK.nest 7 rfl) (hts (.initialized RX8) (List.mem_of_getElem? (i := 12) rfl)) hdX8_lowestOf ⟨Nat.le_of_ble_eq_true rfl, Nat.le_of_ble_eq_true rfl⟩, hts (.static yX8_lowestOf) (List.mem_of_getElem? (i := 47) rfl), trivial⟩) (ro_pS hK (hP.sub [] rfl)) rfl rfl hl.1 rfl (lv_room (Nat.le_of_ble_eq_true rfl)) dX6_choose_107 ⟨Nat.le_of_ble_eq_true rfl, Nat.le_of_ble_eq_true rfl⟩) ?_
      refine lv_topi (fun x107 ex107 => ?_)
      subst hAA
      exact mu_iret hx hb hr hlocks hP hS (⟨am, kn, S, ln, f1, f2, be⟩) (by rw [ex107, fst_of hC (tb_tkl hC w), (cho_1 hst (by omega) (fun q => by rw [← opl_pop hC]; omega)).trans (kp_c (Or.inr (fun z => c70 ((set0 hC (tb_sfl hC w)).mpr z)))), grM_1 htk]; exact congrArg (fun q => some (Value.int (oI q))) htk.symm) (hkn) (rfl) dX6_choose_110
    refine lv_aload_n (pc := 73) hx hb dX6_choose_73 rfl (lv_at hl 3 rfl) ?_
    refine lv_lload_n (pc := 74) hx hb dX6_choose_74 rfl (lv_at hl 5 rfl) ?_
    refine lv_lload (pc := 75) hx hb dX6_choose_75 (lv_at hl 2 rfl) ?_
    refine lv_lload (pc := 77) hx hb dX6_choose_77 (lv_at hl 1 rfl) ?_
    refine lv_ldc2 (pc := 79) hx hb hown (hts (.constantLong RX6 42 (-1)) (List.mem_of_getElem? (i := 3) rfl)) dX6_choose_79 ?_
    refine lv_lxor (pc := 82) hx hb dX6_choose_82 ?_
    refine lv_land (pc := 83) hx hb dX6_choose_83 ?_
    refine ro_go (pc := 84) (va_runV (As := [.long w, .long ((opl c r w) &&& ((tkl c r w) ^^^ (-1 : Int64)))]) (rest := []) ⟨hx, hb, hml, hown, hts⟩ (c_X6_keepingLine l D Y sy bd so bs bf bg c r sd fb gb w (hC) (hB)) (cwV 2 hts gX6_choose_X6_keepingLine rfl rfl rfl ⟨rfl, hdX6_keepingLine⟩ ⟨Nat.le_of_ble_eq_true rfl, Nat.le_of_ble_eq_true rfl⟩) (ro_pV hK (hP.sub [0, 6, 7, 8, 9] rfl) (ro_recv hK hP (ci := 5) (q0 := 0) rfl rfl)) rfl rfl hl.1 rfl (lv_room (Nat.le_of_ble_eq_true rfl)) dX6_choose_84 ⟨Nat.le_of_ble_eq_true rfl, Nat.le_of_ble_eq_true rfl⟩) ?_
    refine lv_topi (fun x84 ex84 => ?_)
    refine lv_istore (pc := 87) (lv' := [(10, .int x84), (8, .long (sfl c r w)), (6, .long (tkl c r w)), (4, .long (opl c r w)), (0, .ref sy), (1, .int (nI st)), (2, .long w)]) hx hb dX6_choose_87 hl (by decide) rfl (fun ls hl => ?_)
    refine lv_iload (pc := 89) hx hb dX6_choose_89 (lv_at hl 0 rfl) ?_
    refine lv_iconst (pc := 91) (v := (-1)) hx hb dX6_choose_91 (by decide) ?_
    refine lv_icmp_eq (pc := 92) (tgt := 98) hx hb dX6_choose_92 (by decide) (fun c92 => ?_) (fun c92 => ?_)
    · refine lv_lload (pc := 98) hx hb dX6_choose_98 (lv_at hl 2 rfl) ?_
      refine lv_lconst (pc := 100) (v := 0) hx hb dX6_choose_100 (by decide) ?_
      refine W.lcmp (pc := 101) hx hb dX6_choose_101 ?_
      refine lc_if_eq (pc := 102) (tgt := 111) hx hb dX6_choose_102 (by decide) (fun c102 => ?_) (fun c102 => ?_)
      · exact absurd c102 c63
      obtain ⟨tk, htk⟩ : ∃ tk, fstk c r w 1 = some tk := by cases q : fstk c r w 1; exact absurd ((set0 hC (tb_tkl hC w)).mpr q) c102; exact ⟨_, rfl⟩
      refine lv_lload (pc := 105) hx hb dX6_choose_105 (lv_at hl 2 rfl) ?_
      refine ro_go (pc := 107) (va_runSN (As := [.long (tkl c r w)]) (rest := []) ⟨hx, hb, hml, hown, hts⟩ (c_X8_lowestOf l D Y (tkl c r w) ) (⟨va_cnB 1 hts ggX6_choose_X8_lowestOf rfl rfl rfl (hK.nest 7 rfl) (hts (.initialized RX8) (List.mem_of_getElem? (i := 12) rfl)) hdX8_lowestOf ⟨Nat.le_of_ble_eq_true rfl, Nat.le_of_ble_eq_true rfl⟩, hts (.static yX8_lowestOf) (List.mem_of_getElem? (i := 47) rfl), trivial⟩) (ro_pS hK (hP.sub [] rfl)) rfl rfl hl.1 rfl (lv_room (Nat.le_of_ble_eq_true rfl)) dX6_choose_107 ⟨Nat.le_of_ble_eq_true rfl, Nat.le_of_ble_eq_true rfl⟩) ?_
      refine lv_topi (fun x107 ex107 => ?_)
      subst hAA
      exact mu_iret hx hb hr hlocks hP hS (⟨am, kn, S, ln, f1, f2, be⟩) (by rw [ex107, fst_of hC (tb_tkl hC w), (cho_1 hst (by omega) (fun q => by rw [← opl_pop hC]; omega)).trans (kp_b (oI_none ex84 c92 (fun b h => by have := ke_lt hC h; omega))), grM_1 htk]; exact congrArg (fun q => some (Value.int (oI q))) htk.symm) (hkn) (rfl) dX6_choose_110
    obtain ⟨ke, hke, hkx⟩ := oI_some ex84 c92
    refine lv_iload (pc := 95) hx hb dX6_choose_95 (lv_at hl 0 rfl) ?_
    subst hAA
    exact mu_iret hx hb hr hlocks hP hS (⟨am, kn, S, ln, f1, f2, be⟩) (by rw [cho_1 hst (by omega) (fun q => by rw [← opl_pop hC]; omega), kp_a (fun z => c63 ((set0 hC (tb_tkl hC w)).mpr z)) ((set0 hC (tb_sfl hC w)).mp c70) hke]; exact congrArg (fun q => some (Value.int q)) hkx.symm) (hkn) (rfl) dX6_choose_97
  refine lv_aload_n (pc := 25) hx hb dX6_choose_25 rfl (lv_at hl 1 rfl) ?_
  refine va_get (pc := 26) (D := D) (ci := 5) (v := .ref so) (C := RX6) (T := TX6) (N := 2) hx hb hts hinX6 hown hK.1 hP 0 rfl rfl 1 (by decide) (hts (.fieldLink RX6 15 "BoxesGame$Styles" "solver" "LBoxesGame$Solver;") (List.mem_of_getElem? (i := 2) rfl)) (fun _ h9 => h9) rfl dX6_choose_26 ?_
  refine lv_lload (pc := 29) hx hb dX6_choose_29 (lv_at hl 0 rfl) ?_
  refine mu_go (pc := 31) (va_runV (As := [.long (opl c r w)]) (rest := []) ⟨hx, hb, hml, hown, hts⟩ (c_X4_bestLine l D Y so bd l1 l2 l3 l4 S ln f1 f2 be am kn bs bf bg c r sd fb gb w (hC) (hB) (hkn) (hw0) (by rw [← opl_pop hC]; exact c22)) (cwV 1 hts gX6_choose_X4_bestLine rfl rfl rfl ⟨rfl, hdX4_bestLine⟩ ⟨Nat.le_of_ble_eq_true rfl, Nat.le_of_ble_eq_true rfl⟩) (mu_pV hK (hP.sub [1, 2, 3, 4, 5, 6, 7, 8, 9] rfl) (hD.sub [1, 2, 3, 4, 5, 6, 7, 8, 9] (by decide) rfl) (ro_recv hK hP (ci := 3) (q0 := 1) rfl rfl)) rfl rfl hl.1 rfl (lv_room (Nat.le_of_ble_eq_true rfl)) dX6_choose_31 ⟨Nat.le_of_ble_eq_true rfl, Nat.le_of_ble_eq_true rfl⟩) hP hD hS [1, 2, 3, 4, 5, 6, 7, 8, 9] rfl (by decide) (fun uS => [(sy, .inr (5, [.ref bd, .ref so])), (so, .inr (3, [.ref bd, .ref l1, .ref l2, .ref l3, .ref l4, .int (nI (pop uS.1)), .long uS.1, .int (zb true)])), (l1, .inl (Y.1, 12, .inl uS.2.1)), (l2, .inl (Y.1, 12, .inl uS.2.2.1)), (l3, .inl (Y.1, 12, .inl uS.2.2.2.1)), (l4, .inl (Y.1, 4096, .inl uS.2.2.2.2)), (bd, .inr (0, [.int (nI c), .int (nI r), .int (nI (al c r)), .int (nI (c * r)), .ref bs, .ref bf, .ref bg])), (bs, .inl (Y.2.1, 16, .inr (.inl sd))), (bf, .inl (Y.1, 40, .inl fb)), (bg, .inl (Y.1, 40, .inl gb))]) (fun _ => rfl) (fun _ => rfl) (fun uS H locs hpost hP hD hS => ?_)
  obtain ⟨S2_31, ln2_31, f12_31, f22_31, be2_31⟩ := uS
  try dsimp only at hpost
  refine top_i (show _ = oI (blM c r w) from rfl) ?_
  have hP : va_P D vwCl [(sy, .inr (5, [.ref bd, .ref so])), (so, .inr (3, [.ref bd, .ref l1, .ref l2, .ref l3, .ref l4, .int (nI (pop S2_31)), .long S2_31, .int (zb true)])), (l1, .inl (Y.1, 12, .inl ln2_31)), (l2, .inl (Y.1, 12, .inl f12_31)), (l3, .inl (Y.1, 12, .inl f22_31)), (l4, .inl (Y.1, 4096, .inl be2_31)), (bd, .inr (0, [.int (nI c), .int (nI r), .int (nI (al c r)), .int (nI (c * r)), .ref bs, .ref bf, .ref bg])), (bs, .inl (Y.2.1, 16, .inr (.inl sd))), (bf, .inl (Y.1, 40, .inl fb)), (bg, .inl (Y.1, 40, .inl gb))] H := hP
  have hD : va_D AA [(sy, .inr (5, [.ref bd, .ref so])), (so, .inr (3, [.ref bd, .ref l1, .ref l2, .ref l3, .ref l4, .int (nI (pop S2_31)), .long S2_31, .int (zb true)])), (l1, .inl (Y.1, 12, .inl ln2_31)), (l2, .inl (Y.1, 12, .inl f12_31)), (l3, .inl (Y.1, 12, .inl f22_31)), (l4, .inl (Y.1, 4096, .inl be2_31)), (bd, .inr (0, [.int (nI c), .int (nI r), .int (nI (al c r)), .int (nI (c * r)), .ref bs, .ref bf, .ref bg])), (bs, .inl (Y.2.1, 16, .inr (.inl sd))), (bf, .inl (Y.1, 40, .inl fb)), (bg, .inl (Y.1, 40, .inl gb))] := hD
  refine lv_topi (fun x31 ex31 => ?_)
  subst hAA
  exact mu_iret hx hb hr hlocks hP hS (⟨nI (pop S2_31), true, S2_31, ln2_31, f12_31, f22_31, be2_31⟩) (by rw [ex31, cho_2 c12 (by rw [← opl_pop hC]; exact c22)]) (fun _ => hpost.1) (rfl) dX6_choose_34
