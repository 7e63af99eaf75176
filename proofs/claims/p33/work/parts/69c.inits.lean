set_option maxHeartbeats 1200000 in
set_option maxRecDepth 100000 in
theorem c_X0_init (l : Launch) (D : va_G) (Y : vY) (bd : Nat)  (hz0 : Nat) : Ct l yX0_init wsX0_init ({ frames := 1, cells := 3, slots := 96, locals := 24 } : Room) [.ref bd] D Y [(bd, .inr (0, [.int (nI 0), .int (nI 0), .int (nI 0), .int (nI 0), .null, .null, .null]))] hz0 (fun uS : Nat × Nat × Nat => [(bd, .inr (0, [.int (nI 0), .int (nI 0), .int (nI 0), .int (nI 0), .ref uS.1, .ref uS.2.1, .ref uS.2.2]))]) (fun uS : Nat × Nat × Nat => [(uS.1, .inl (Y.2.1, 16, .inr (.inl (fun _ => 0)))), (uS.2.1, .inl (Y.1, 40, .inl (fun _ => 0))), (uS.2.2, .inl (Y.1, 40, .inl (fun _ => 0)))]) (fun uS : Nat × Nat × Nat => True) 3 96 := by
  refine ct_intro (by decide +kernel) rfl rfl (Nat.le_of_ble_eq_true rfl) [(0, .ref bd)] rfl ?_
  intro pG eG sG mG aG bG tG cG ls hx hb hr hml hts hown hlocks hin hK hP hD hS hl
  generalize hAA : va_A [(bd, .inr (0, [.int (nI 0), .int (nI 0), .int (nI 0), .int (nI 0), .null, .null, .null]))] sG.heap.size = AA at hD hS ⊢
  have hA : ∀ q : Nat, sG.heap.size ≤ q → AA q := fun q h => by rw [← hAA]; exact Or.inr h
  have hP : va_P D vwCl [(bd, .inr (0, [.int (nI 0), .int (nI 0), .int (nI 0), .int (nI 0), .null, .null, .null]))] sG.heap := hP
  have hD : va_D AA [(bd, .inr (0, [.int (nI 0), .int (nI 0), .int (nI 0), .int (nI 0), .null, .null, .null]))] := hD
  have hown : sG.vm.findClass RX0 = some mG.cls := hown
  have hl : lv_has ls 1 [(0, .ref bd)] := hl
  have hinX0 : ∀ w ∈ u_ws RX0 TX0 7, w ∈ wsX0_init := by decide +kernel
  have hS : va_S AA sG.heap sG.heap [] := hS
  refine lv_aload_n (pc := 0) hx hb dX0_init_0 rfl (lv_at hl 0 rfl) ?_
  refine W.objInit hx hb hown (hts (.methodLink RX0 3 objectInit) (List.mem_of_getElem? (i := 1) rfl)) (hts (.instanceMethod objectInit) (List.mem_of_getElem? (i := 2) rfl)) (hts (.code objectInit ⟨#[0xb1]⟩ 1 none) (List.mem_of_getElem? (i := 3) rfl)) rfl (by rw [hml]; exact hl.1) rfl dX0_init_1 (Nat.le_of_ble_eq_true rfl) (Nat.le_of_ble_eq_true rfl) ?_
  refine lv_aload_n (pc := 4) hx hb dX0_init_4 rfl (lv_at hl 0 rfl) ?_
  refine lv_bipush (pc := 5) (v := nI 16) hx hb dX0_init_5 rfl ?_
  refine n_newaJ (pc := 7) (N := 16) hx hb (hts (.arrayClass .long) (List.mem_of_getElem? (i := 4) rfl)) hK hP hD hS hA (Nat.le_of_ble_eq_true rfl) (Nat.le_of_ble_eq_true rfl) (Nat.le_of_ble_eq_true rfl) dX0_init_7 (fun q7 H hP hD hS => ?_)
  have hP : va_P D vwCl [(bd, .inr (0, [.int (nI 0), .int (nI 0), .int (nI 0), .int (nI 0), .null, .null, .null])), (q7, .inl (Y.2.1, 16, .inr (.inl (fun _ => 0))))] H := hP
  have hD : va_D AA [(bd, .inr (0, [.int (nI 0), .int (nI 0), .int (nI 0), .int (nI 0), .null, .null, .null])), (q7, .inl (Y.2.1, 16, .inr (.inl (fun _ => 0))))] := hD
  refine va_putF (pc := 9) (D := D) (ci := 0) (v := .ref q7) (ty := (tyX0 4)) (C := RX0) (T := TX0) (N := 7) hx hb hts hinX0 tyX0 tyX0_ok nmX0 hown hK.1 hP hD hS 0 rfl rfl 4 (by decide) (hts (.fieldLink RX0 9 "BoxesGame$Board" "sides" "[J") (List.mem_of_getElem? (i := 5) rfl)) (fun _ h9 => h9) rfl hin rfl (by decide +kernel) (rfl) (rfl) (Nat.le_of_ble_eq_true rfl) dX0_init_9 (fun H locs hP hD hS => ?_)
  have hP : va_P D vwCl [(bd, .inr (0, [.int (nI 0), .int (nI 0), .int (nI 0), .int (nI 0), .ref q7, .null, .null])), (q7, .inl (Y.2.1, 16, .inr (.inl (fun _ => 0))))] H := hP
  have hD : va_D AA [(bd, .inr (0, [.int (nI 0), .int (nI 0), .int (nI 0), .int (nI 0), .ref q7, .null, .null])), (q7, .inl (Y.2.1, 16, .inr (.inl (fun _ => 0))))] := hD
  refine lv_aload_n (pc := 12) hx hb dX0_init_12 rfl (lv_at hl 0 rfl) ?_
  refine lv_bipush (pc := 13) (v := nI 40) hx hb dX0_init_13 rfl ?_
  refine n_newaI (pc := 15) (N := 40) hx hb (hts (.arrayClass .int) (List.mem_of_getElem? (i := 6) rfl)) hK hP hD hS hA (Nat.le_of_ble_eq_true rfl) (Nat.le_of_ble_eq_true rfl) (Nat.le_of_ble_eq_true rfl) dX0_init_15 (fun q15 H hP hD hS => ?_)
  have hP : va_P D vwCl [(bd, .inr (0, [.int (nI 0), .int (nI 0), .int (nI 0), .int (nI 0), .ref q7, .null, .null])), (q7, .inl (Y.2.1, 16, .inr (.inl (fun _ => 0)))), (q15, .inl (Y.1, 40, .inl (fun _ => 0)))] H := hP
  have hD : va_D AA [(bd, .inr (0, [.int (nI 0), .int (nI 0), .int (nI 0), .int (nI 0), .ref q7, .null, .null])), (q7, .inl (Y.2.1, 16, .inr (.inl (fun _ => 0)))), (q15, .inl (Y.1, 40, .inl (fun _ => 0)))] := hD
  refine va_putF (pc := 17) (D := D) (ci := 0) (v := .ref q15) (ty := (tyX0 5)) (C := RX0) (T := TX0) (N := 7) hx hb hts hinX0 tyX0 tyX0_ok nmX0 hown hK.1 hP hD hS 0 rfl rfl 5 (by decide) (hts (.fieldLink RX0 15 "BoxesGame$Board" "firstBoxes" "[I") (List.mem_of_getElem? (i := 7) rfl)) (fun _ h9 => h9) rfl hin rfl (by decide +kernel) (rfl) (rfl) (Nat.le_of_ble_eq_true rfl) dX0_init_17 (fun H locs hP hD hS => ?_)
  have hP : va_P D vwCl [(bd, .inr (0, [.int (nI 0), .int (nI 0), .int (nI 0), .int (nI 0), .ref q7, .ref q15, .null])), (q7, .inl (Y.2.1, 16, .inr (.inl (fun _ => 0)))), (q15, .inl (Y.1, 40, .inl (fun _ => 0)))] H := hP
  have hD : va_D AA [(bd, .inr (0, [.int (nI 0), .int (nI 0), .int (nI 0), .int (nI 0), .ref q7, .ref q15, .null])), (q7, .inl (Y.2.1, 16, .inr (.inl (fun _ => 0)))), (q15, .inl (Y.1, 40, .inl (fun _ => 0)))] := hD
  refine lv_aload_n (pc := 20) hx hb dX0_init_20 rfl (lv_at hl 0 rfl) ?_
  refine lv_bipush (pc := 21) (v := nI 40) hx hb dX0_init_21 rfl ?_
  refine n_newaI (pc := 23) (N := 40) hx hb (hts (.arrayClass .int) (List.mem_of_getElem? (i := 6) rfl)) hK hP hD hS hA (Nat.le_of_ble_eq_true rfl) (Nat.le_of_ble_eq_true rfl) (Nat.le_of_ble_eq_true rfl) dX0_init_23 (fun q23 H hP hD hS => ?_)
  have hP : va_P D vwCl [(bd, .inr (0, [.int (nI 0), .int (nI 0), .int (nI 0), .int (nI 0), .ref q7, .ref q15, .null])), (q7, .inl (Y.2.1, 16, .inr (.inl (fun _ => 0)))), (q15, .inl (Y.1, 40, .inl (fun _ => 0))), (q23, .inl (Y.1, 40, .inl (fun _ => 0)))] H := hP
  have hD : va_D AA [(bd, .inr (0, [.int (nI 0), .int (nI 0), .int (nI 0), .int (nI 0), .ref q7, .ref q15, .null])), (q7, .inl (Y.2.1, 16, .inr (.inl (fun _ => 0)))), (q15, .inl (Y.1, 40, .inl (fun _ => 0))), (q23, .inl (Y.1, 40, .inl (fun _ => 0)))] := hD
  refine va_putF (pc := 25) (D := D) (ci := 0) (v := .ref q23) (ty := (tyX0 6)) (C := RX0) (T := TX0) (N := 7) hx hb hts hinX0 tyX0 tyX0_ok nmX0 hown hK.1 hP hD hS 0 rfl rfl 6 (by decide) (hts (.fieldLink RX0 19 "BoxesGame$Board" "secondBoxes" "[I") (List.mem_of_getElem? (i := 8) rfl)) (fun _ h9 => h9) rfl hin rfl (by decide +kernel) (rfl) (rfl) (Nat.le_of_ble_eq_true rfl) dX0_init_25 (fun H locs hP hD hS => ?_)
  have hP : va_P D vwCl [(bd, .inr (0, [.int (nI 0), .int (nI 0), .int (nI 0), .int (nI 0), .ref q7, .ref q15, .ref q23])), (q7, .inl (Y.2.1, 16, .inr (.inl (fun _ => 0)))), (q15, .inl (Y.1, 40, .inl (fun _ => 0))), (q23, .inl (Y.1, 40, .inl (fun _ => 0)))] H := hP
  have hD : va_D AA [(bd, .inr (0, [.int (nI 0), .int (nI 0), .int (nI 0), .int (nI 0), .ref q7, .ref q15, .ref q23])), (q7, .inl (Y.2.1, 16, .inr (.inl (fun _ => 0)))), (q15, .inl (Y.1, 40, .inl (fun _ => 0))), (q23, .inl (Y.1, 40, .inl (fun _ => 0)))] := hD
  subst hAA
  exact ct_vret (Nat.le_of_ble_eq_true rfl) (Nat.le_of_ble_eq_true rfl) hx hb hr hlocks hP hD hS (⟨_, _, _⟩) (trivial) (rfl) dX0_init_28

set_option maxHeartbeats 1200000 in
set_option maxRecDepth 100000 in
theorem c_X2_init (l : Launch) (D : va_G) (Y : vY) (ps : Nat) (bd : Nat)  (hz0 : Nat) : Ct l yX2_init wsX2_init ({ frames := 1, cells := 2, slots := 56, locals := 24 } : Room) [.ref ps, .ref bd] D Y [(ps, .inr (2, [.long 0, .int (nI 0), .int (nI 0), .null, .null, .null]))] hz0 (fun uS : Nat × Nat => [(ps, .inr (2, [.long 0, .int (nI 0), .int (nI 0), .ref bd, .ref uS.1, .ref uS.2]))]) (fun uS : Nat × Nat => [(uS.1, .inl (Y.1, 40, .inl (fun _ => 0))), (uS.2, .inl (Y.1, 16, .inl (fun _ => 0)))]) (fun uS : Nat × Nat => True) 2 56 := by
  refine ct_intro (by decide +kernel) rfl rfl (Nat.le_of_ble_eq_true rfl) [(0, .ref ps), (1, .ref bd)] rfl ?_
  intro pG eG sG mG aG bG tG cG ls hx hb hr hml hts hown hlocks hin hK hP hD hS hl
  generalize hAA : va_A [(ps, .inr (2, [.long 0, .int (nI 0), .int (nI 0), .null, .null, .null]))] sG.heap.size = AA at hD hS ⊢
  have hA : ∀ q : Nat, sG.heap.size ≤ q → AA q := fun q h => by rw [← hAA]; exact Or.inr h
  have hP : va_P D vwCl [(ps, .inr (2, [.long 0, .int (nI 0), .int (nI 0), .null, .null, .null]))] sG.heap := hP
  have hD : va_D AA [(ps, .inr (2, [.long 0, .int (nI 0), .int (nI 0), .null, .null, .null]))] := hD
  have hown : sG.vm.findClass RX2 = some mG.cls := hown
  have hl : lv_has ls 2 [(0, .ref ps), (1, .ref bd)] := hl
  have hinX2 : ∀ w ∈ u_ws RX2 TX2 6, w ∈ wsX2_init := by decide +kernel
  have hS : va_S AA sG.heap sG.heap [] := hS
  refine lv_aload_n (pc := 0) hx hb dX2_init_0 rfl (lv_at hl 0 rfl) ?_
  refine W.objInit hx hb hown (hts (.methodLink RX2 3 objectInit) (List.mem_of_getElem? (i := 1) rfl)) (hts (.instanceMethod objectInit) (List.mem_of_getElem? (i := 2) rfl)) (hts (.code objectInit ⟨#[0xb1]⟩ 1 none) (List.mem_of_getElem? (i := 3) rfl)) rfl (by rw [hml]; exact hl.1) rfl dX2_init_1 (Nat.le_of_ble_eq_true rfl) (Nat.le_of_ble_eq_true rfl) ?_
  refine lv_aload_n (pc := 4) hx hb dX2_init_4 rfl (lv_at hl 0 rfl) ?_
  refine lv_bipush (pc := 5) (v := nI 40) hx hb dX2_init_5 rfl ?_
  refine n_newaI (pc := 7) (N := 40) hx hb (hts (.arrayClass .int) (List.mem_of_getElem? (i := 4) rfl)) hK hP hD hS hA (Nat.le_of_ble_eq_true rfl) (Nat.le_of_ble_eq_true rfl) (Nat.le_of_ble_eq_true rfl) dX2_init_7 (fun q7 H hP hD hS => ?_)
  have hP : va_P D vwCl [(ps, .inr (2, [.long 0, .int (nI 0), .int (nI 0), .null, .null, .null])), (q7, .inl (Y.1, 40, .inl (fun _ => 0)))] H := hP
  have hD : va_D AA [(ps, .inr (2, [.long 0, .int (nI 0), .int (nI 0), .null, .null, .null])), (q7, .inl (Y.1, 40, .inl (fun _ => 0)))] := hD
  refine va_putF (pc := 9) (D := D) (ci := 2) (v := .ref q7) (ty := (tyX2 4)) (C := RX2) (T := TX2) (N := 6) hx hb hts hinX2 tyX2 tyX2_ok nmX2 hown hK.1 hP hD hS 0 rfl rfl 4 (by decide) (hts (.fieldLink RX2 9 "BoxesGame$Position" "moves" "[I") (List.mem_of_getElem? (i := 5) rfl)) (fun _ h9 => h9) rfl hin rfl (by decide +kernel) (rfl) (rfl) (Nat.le_of_ble_eq_true rfl) dX2_init_9 (fun H locs hP hD hS => ?_)
  have hP : va_P D vwCl [(ps, .inr (2, [.long 0, .int (nI 0), .int (nI 0), .null, .ref q7, .null])), (q7, .inl (Y.1, 40, .inl (fun _ => 0)))] H := hP
  have hD : va_D AA [(ps, .inr (2, [.long 0, .int (nI 0), .int (nI 0), .null, .ref q7, .null])), (q7, .inl (Y.1, 40, .inl (fun _ => 0)))] := hD
  refine lv_aload_n (pc := 12) hx hb dX2_init_12 rfl (lv_at hl 0 rfl) ?_
  refine lv_bipush (pc := 13) (v := nI 16) hx hb dX2_init_13 rfl ?_
  refine n_newaI (pc := 15) (N := 16) hx hb (hts (.arrayClass .int) (List.mem_of_getElem? (i := 4) rfl)) hK hP hD hS hA (Nat.le_of_ble_eq_true rfl) (Nat.le_of_ble_eq_true rfl) (Nat.le_of_ble_eq_true rfl) dX2_init_15 (fun q15 H hP hD hS => ?_)
  have hP : va_P D vwCl [(ps, .inr (2, [.long 0, .int (nI 0), .int (nI 0), .null, .ref q7, .null])), (q7, .inl (Y.1, 40, .inl (fun _ => 0))), (q15, .inl (Y.1, 16, .inl (fun _ => 0)))] H := hP
  have hD : va_D AA [(ps, .inr (2, [.long 0, .int (nI 0), .int (nI 0), .null, .ref q7, .null])), (q7, .inl (Y.1, 40, .inl (fun _ => 0))), (q15, .inl (Y.1, 16, .inl (fun _ => 0)))] := hD
  refine va_putF (pc := 17) (D := D) (ci := 2) (v := .ref q15) (ty := (tyX2 5)) (C := RX2) (T := TX2) (N := 6) hx hb hts hinX2 tyX2 tyX2_ok nmX2 hown hK.1 hP hD hS 0 rfl rfl 5 (by decide) (hts (.fieldLink RX2 15 "BoxesGame$Position" "owners" "[I") (List.mem_of_getElem? (i := 6) rfl)) (fun _ h9 => h9) rfl hin rfl (by decide +kernel) (rfl) (rfl) (Nat.le_of_ble_eq_true rfl) dX2_init_17 (fun H locs hP hD hS => ?_)
  have hP : va_P D vwCl [(ps, .inr (2, [.long 0, .int (nI 0), .int (nI 0), .null, .ref q7, .ref q15])), (q7, .inl (Y.1, 40, .inl (fun _ => 0))), (q15, .inl (Y.1, 16, .inl (fun _ => 0)))] H := hP
  have hD : va_D AA [(ps, .inr (2, [.long 0, .int (nI 0), .int (nI 0), .null, .ref q7, .ref q15])), (q7, .inl (Y.1, 40, .inl (fun _ => 0))), (q15, .inl (Y.1, 16, .inl (fun _ => 0)))] := hD
  refine lv_aload_n (pc := 20) hx hb dX2_init_20 rfl (lv_at hl 0 rfl) ?_
  refine lv_aload_n (pc := 21) hx hb dX2_init_21 rfl (lv_at hl 1 rfl) ?_
  refine va_putF (pc := 22) (D := D) (ci := 2) (v := .ref bd) (ty := (tyX2 3)) (C := RX2) (T := TX2) (N := 6) hx hb hts hinX2 tyX2 tyX2_ok nmX2 hown hK.1 hP hD hS 0 rfl rfl 3 (by decide) (hts (.fieldLink RX2 18 "BoxesGame$Position" "board" "LBoxesGame$Board;") (List.mem_of_getElem? (i := 7) rfl)) (fun _ h9 => h9) rfl hin rfl (by decide +kernel) (rfl) (rfl) (Nat.le_of_ble_eq_true rfl) dX2_init_22 (fun H locs hP hD hS => ?_)
  have hP : va_P D vwCl [(ps, .inr (2, [.long 0, .int (nI 0), .int (nI 0), .ref bd, .ref q7, .ref q15])), (q7, .inl (Y.1, 40, .inl (fun _ => 0))), (q15, .inl (Y.1, 16, .inl (fun _ => 0)))] H := hP
  have hD : va_D AA [(ps, .inr (2, [.long 0, .int (nI 0), .int (nI 0), .ref bd, .ref q7, .ref q15])), (q7, .inl (Y.1, 40, .inl (fun _ => 0))), (q15, .inl (Y.1, 16, .inl (fun _ => 0)))] := hD
  subst hAA
  exact ct_vret (Nat.le_of_ble_eq_true rfl) (Nat.le_of_ble_eq_true rfl) hx hb hr hlocks hP hD hS (⟨_, _⟩) (trivial) (rfl) dX2_init_25

set_option maxHeartbeats 1200000 in
set_option maxRecDepth 100000 in
theorem c_X5_init (l : Launch) (D : va_G) (Y : vY) (sg : Nat) (bd : Nat)  (hz0 : Nat) : Ct l yX5_init wsX5_init ({ frames := 1, cells := 8, slots := 1136, locals := 24 } : Room) [.ref sg, .ref bd] D Y [(sg, .inr (4, [.int (nI 0), .int (nI 0), .long 0, .long 0, .int (zb false), .int (zb false), .int (nI 0), .null, .null, .null, .null, .null, .null, .null, .null, .null]))] hz0 (fun uS : Nat × Nat × Nat × Nat × Nat × Nat × Nat × Nat => [(sg, .inr (4, [.int (nI 0), .int (nI 0), .long 0, .long 0, .int (zb false), .int (zb false), .int (nI 0), .ref bd, .ref uS.1, .ref uS.2.1, .ref uS.2.2.1, .ref uS.2.2.2.1, .ref uS.2.2.2.2.1, .ref uS.2.2.2.2.2.1, .ref uS.2.2.2.2.2.2.1, .ref uS.2.2.2.2.2.2.2]))]) (fun uS : Nat × Nat × Nat × Nat × Nat × Nat × Nat × Nat => [(uS.1, .inl (Y.2.1, 16, .inr (.inl (fun _ => 0)))), (uS.2.1, .inl (Y.1, 16, .inl (fun _ => 0))), (uS.2.2.1, .inl (Y.1, 16, .inl (fun _ => 0))), (uS.2.2.2.1, .inl (Y.1, 16, .inl (fun _ => 0))), (uS.2.2.2.2.1, .inl (Y.1, 16, .inl (fun _ => 0))), (uS.2.2.2.2.2.1, .inl (Y.2.1, 16, .inr (.inl (fun _ => 0)))), (uS.2.2.2.2.2.2.1, .inl (Y.2.1, 16, .inr (.inl (fun _ => 0)))), (uS.2.2.2.2.2.2.2, .inl (Y.1, 1024, .inl (fun _ => 0)))]) (fun uS : Nat × Nat × Nat × Nat × Nat × Nat × Nat × Nat => True) 8 1136 := by
  refine ct_intro (by decide +kernel) rfl rfl (Nat.le_of_ble_eq_true rfl) [(0, .ref sg), (1, .ref bd)] rfl ?_
  intro pG eG sG mG aG bG tG cG ls hx hb hr hml hts hown hlocks hin hK hP hD hS hl
  generalize hAA : va_A [(sg, .inr (4, [.int (nI 0), .int (nI 0), .long 0, .long 0, .int (zb false), .int (zb false), .int (nI 0), .null, .null, .null, .null, .null, .null, .null, .null, .null]))] sG.heap.size = AA at hD hS ⊢
  have hA : ∀ q : Nat, sG.heap.size ≤ q → AA q := fun q h => by rw [← hAA]; exact Or.inr h
  have hP : va_P D vwCl [(sg, .inr (4, [.int (nI 0), .int (nI 0), .long 0, .long 0, .int (zb false), .int (zb false), .int (nI 0), .null, .null, .null, .null, .null, .null, .null, .null, .null]))] sG.heap := hP
  have hD : va_D AA [(sg, .inr (4, [.int (nI 0), .int (nI 0), .long 0, .long 0, .int (zb false), .int (zb false), .int (nI 0), .null, .null, .null, .null, .null, .null, .null, .null, .null]))] := hD
  have hown : sG.vm.findClass RX5 = some mG.cls := hown
  have hl : lv_has ls 2 [(0, .ref sg), (1, .ref bd)] := hl
  have hinX5 : ∀ w ∈ u_ws RX5 TX5 16, w ∈ wsX5_init := by decide +kernel
  have hS : va_S AA sG.heap sG.heap [] := hS
  refine lv_aload_n (pc := 0) hx hb dX5_init_0 rfl (lv_at hl 0 rfl) ?_
  refine W.objInit hx hb hown (hts (.methodLink RX5 3 objectInit) (List.mem_of_getElem? (i := 1) rfl)) (hts (.instanceMethod objectInit) (List.mem_of_getElem? (i := 2) rfl)) (hts (.code objectInit ⟨#[0xb1]⟩ 1 none) (List.mem_of_getElem? (i := 3) rfl)) rfl (by rw [hml]; exact hl.1) rfl dX5_init_1 (Nat.le_of_ble_eq_true rfl) (Nat.le_of_ble_eq_true rfl) ?_
  refine lv_aload_n (pc := 4) hx hb dX5_init_4 rfl (lv_at hl 0 rfl) ?_
  refine lv_bipush (pc := 5) (v := nI 16) hx hb dX5_init_5 rfl ?_
  refine n_newaJ (pc := 7) (N := 16) hx hb (hts (.arrayClass .long) (List.mem_of_getElem? (i := 4) rfl)) hK hP hD hS hA (Nat.le_of_ble_eq_true rfl) (Nat.le_of_ble_eq_true rfl) (Nat.le_of_ble_eq_true rfl) dX5_init_7 (fun q7 H hP hD hS => ?_)
  have hP : va_P D vwCl [(sg, .inr (4, [.int (nI 0), .int (nI 0), .long 0, .long 0, .int (zb false), .int (zb false), .int (nI 0), .null, .null, .null, .null, .null, .null, .null, .null, .null])), (q7, .inl (Y.2.1, 16, .inr (.inl (fun _ => 0))))] H := hP
  have hD : va_D AA [(sg, .inr (4, [.int (nI 0), .int (nI 0), .long 0, .long 0, .int (zb false), .int (zb false), .int (nI 0), .null, .null, .null, .null, .null, .null, .null, .null, .null])), (q7, .inl (Y.2.1, 16, .inr (.inl (fun _ => 0))))] := hD
  refine va_putF (pc := 9) (D := D) (ci := 4) (v := .ref q7) (ty := (tyX5 8)) (C := RX5) (T := TX5) (N := 16) hx hb hts hinX5 tyX5 tyX5_ok nmX5 hown hK.1 hP hD hS 0 rfl rfl 8 (by decide) (hts (.fieldLink RX5 9 "BoxesGame$Strings" "openAround" "[J") (List.mem_of_getElem? (i := 5) rfl)) (fun _ h9 => h9) rfl hin rfl (by decide +kernel) (rfl) (rfl) (Nat.le_of_ble_eq_true rfl) dX5_init_9 (fun H locs hP hD hS => ?_)
  have hP : va_P D vwCl [(sg, .inr (4, [.int (nI 0), .int (nI 0), .long 0, .long 0, .int (zb false), .int (zb false), .int (nI 0), .null, .ref q7, .null, .null, .null, .null, .null, .null, .null])), (q7, .inl (Y.2.1, 16, .inr (.inl (fun _ => 0))))] H := hP
  have hD : va_D AA [(sg, .inr (4, [.int (nI 0), .int (nI 0), .long 0, .long 0, .int (zb false), .int (zb false), .int (nI 0), .null, .ref q7, .null, .null, .null, .null, .null, .null, .null])), (q7, .inl (Y.2.1, 16, .inr (.inl (fun _ => 0))))] := hD
  refine lv_aload_n (pc := 12) hx hb dX5_init_12 rfl (lv_at hl 0 rfl) ?_
  refine lv_bipush (pc := 13) (v := nI 16) hx hb dX5_init_13 rfl ?_
  refine n_newaI (pc := 15) (N := 16) hx hb (hts (.arrayClass .int) (List.mem_of_getElem? (i := 6) rfl)) hK hP hD hS hA (Nat.le_of_ble_eq_true rfl) (Nat.le_of_ble_eq_true rfl) (Nat.le_of_ble_eq_true rfl) dX5_init_15 (fun q15 H hP hD hS => ?_)
  have hP : va_P D vwCl [(sg, .inr (4, [.int (nI 0), .int (nI 0), .long 0, .long 0, .int (zb false), .int (zb false), .int (nI 0), .null, .ref q7, .null, .null, .null, .null, .null, .null, .null])), (q7, .inl (Y.2.1, 16, .inr (.inl (fun _ => 0)))), (q15, .inl (Y.1, 16, .inl (fun _ => 0)))] H := hP
  have hD : va_D AA [(sg, .inr (4, [.int (nI 0), .int (nI 0), .long 0, .long 0, .int (zb false), .int (zb false), .int (nI 0), .null, .ref q7, .null, .null, .null, .null, .null, .null, .null])), (q7, .inl (Y.2.1, 16, .inr (.inl (fun _ => 0)))), (q15, .inl (Y.1, 16, .inl (fun _ => 0)))] := hD
  refine va_putF (pc := 17) (D := D) (ci := 4) (v := .ref q15) (ty := (tyX5 9)) (C := RX5) (T := TX5) (N := 16) hx hb hts hinX5 tyX5 tyX5_ok nmX5 hown hK.1 hP hD hS 0 rfl rfl 9 (by decide) (hts (.fieldLink RX5 15 "BoxesGame$Strings" "numbers" "[I") (List.mem_of_getElem? (i := 7) rfl)) (fun _ h9 => h9) rfl hin rfl (by decide +kernel) (rfl) (rfl) (Nat.le_of_ble_eq_true rfl) dX5_init_17 (fun H locs hP hD hS => ?_)
  have hP : va_P D vwCl [(sg, .inr (4, [.int (nI 0), .int (nI 0), .long 0, .long 0, .int (zb false), .int (zb false), .int (nI 0), .null, .ref q7, .ref q15, .null, .null, .null, .null, .null, .null])), (q7, .inl (Y.2.1, 16, .inr (.inl (fun _ => 0)))), (q15, .inl (Y.1, 16, .inl (fun _ => 0)))] H := hP
  have hD : va_D AA [(sg, .inr (4, [.int (nI 0), .int (nI 0), .long 0, .long 0, .int (zb false), .int (zb false), .int (nI 0), .null, .ref q7, .ref q15, .null, .null, .null, .null, .null, .null])), (q7, .inl (Y.2.1, 16, .inr (.inl (fun _ => 0)))), (q15, .inl (Y.1, 16, .inl (fun _ => 0)))] := hD
  refine lv_aload_n (pc := 20) hx hb dX5_init_20 rfl (lv_at hl 0 rfl) ?_
  refine lv_bipush (pc := 21) (v := nI 16) hx hb dX5_init_21 rfl ?_
  refine n_newaI (pc := 23) (N := 16) hx hb (hts (.arrayClass .int) (List.mem_of_getElem? (i := 6) rfl)) hK hP hD hS hA (Nat.le_of_ble_eq_true rfl) (Nat.le_of_ble_eq_true rfl) (Nat.le_of_ble_eq_true rfl) dX5_init_23 (fun q23 H hP hD hS => ?_)
  have hP : va_P D vwCl [(sg, .inr (4, [.int (nI 0), .int (nI 0), .long 0, .long 0, .int (zb false), .int (zb false), .int (nI 0), .null, .ref q7, .ref q15, .null, .null, .null, .null, .null, .null])), (q7, .inl (Y.2.1, 16, .inr (.inl (fun _ => 0)))), (q15, .inl (Y.1, 16, .inl (fun _ => 0))), (q23, .inl (Y.1, 16, .inl (fun _ => 0)))] H := hP
  have hD : va_D AA [(sg, .inr (4, [.int (nI 0), .int (nI 0), .long 0, .long 0, .int (zb false), .int (zb false), .int (nI 0), .null, .ref q7, .ref q15, .null, .null, .null, .null, .null, .null])), (q7, .inl (Y.2.1, 16, .inr (.inl (fun _ => 0)))), (q15, .inl (Y.1, 16, .inl (fun _ => 0))), (q23, .inl (Y.1, 16, .inl (fun _ => 0)))] := hD
  refine va_putF (pc := 25) (D := D) (ci := 4) (v := .ref q23) (ty := (tyX5 10)) (C := RX5) (T := TX5) (N := 16) hx hb hts hinX5 tyX5 tyX5_ok nmX5 hown hK.1 hP hD hS 0 rfl rfl 10 (by decide) (hts (.fieldLink RX5 19 "BoxesGame$Strings" "sizes" "[I") (List.mem_of_getElem? (i := 8) rfl)) (fun _ h9 => h9) rfl hin rfl (by decide +kernel) (rfl) (rfl) (Nat.le_of_ble_eq_true rfl) dX5_init_25 (fun H locs hP hD hS => ?_)
  have hP : va_P D vwCl [(sg, .inr (4, [.int (nI 0), .int (nI 0), .long 0, .long 0, .int (zb false), .int (zb false), .int (nI 0), .null, .ref q7, .ref q15, .ref q23, .null, .null, .null, .null, .null])), (q7, .inl (Y.2.1, 16, .inr (.inl (fun _ => 0)))), (q15, .inl (Y.1, 16, .inl (fun _ => 0))), (q23, .inl (Y.1, 16, .inl (fun _ => 0)))] H := hP
  have hD : va_D AA [(sg, .inr (4, [.int (nI 0), .int (nI 0), .long 0, .long 0, .int (zb false), .int (zb false), .int (nI 0), .null, .ref q7, .ref q15, .ref q23, .null, .null, .null, .null, .null])), (q7, .inl (Y.2.1, 16, .inr (.inl (fun _ => 0)))), (q15, .inl (Y.1, 16, .inl (fun _ => 0))), (q23, .inl (Y.1, 16, .inl (fun _ => 0)))] := hD
  refine lv_aload_n (pc := 28) hx hb dX5_init_28 rfl (lv_at hl 0 rfl) ?_
  refine lv_bipush (pc := 29) (v := nI 16) hx hb dX5_init_29 rfl ?_
  refine n_newaI (pc := 31) (N := 16) hx hb (hts (.arrayClass .int) (List.mem_of_getElem? (i := 6) rfl)) hK hP hD hS hA (Nat.le_of_ble_eq_true rfl) (Nat.le_of_ble_eq_true rfl) (Nat.le_of_ble_eq_true rfl) dX5_init_31 (fun q31 H hP hD hS => ?_)
  have hP : va_P D vwCl [(sg, .inr (4, [.int (nI 0), .int (nI 0), .long 0, .long 0, .int (zb false), .int (zb false), .int (nI 0), .null, .ref q7, .ref q15, .ref q23, .null, .null, .null, .null, .null])), (q7, .inl (Y.2.1, 16, .inr (.inl (fun _ => 0)))), (q15, .inl (Y.1, 16, .inl (fun _ => 0))), (q23, .inl (Y.1, 16, .inl (fun _ => 0))), (q31, .inl (Y.1, 16, .inl (fun _ => 0)))] H := hP
  have hD : va_D AA [(sg, .inr (4, [.int (nI 0), .int (nI 0), .long 0, .long 0, .int (zb false), .int (zb false), .int (nI 0), .null, .ref q7, .ref q15, .ref q23, .null, .null, .null, .null, .null])), (q7, .inl (Y.2.1, 16, .inr (.inl (fun _ => 0)))), (q15, .inl (Y.1, 16, .inl (fun _ => 0))), (q23, .inl (Y.1, 16, .inl (fun _ => 0))), (q31, .inl (Y.1, 16, .inl (fun _ => 0)))] := hD
  refine va_putF (pc := 33) (D := D) (ci := 4) (v := .ref q31) (ty := (tyX5 11)) (C := RX5) (T := TX5) (N := 16) hx hb hts hinX5 tyX5 tyX5_ok nmX5 hown hK.1 hP hD hS 0 rfl rfl 11 (by decide) (hts (.fieldLink RX5 22 "BoxesGame$Strings" "opens" "[I") (List.mem_of_getElem? (i := 9) rfl)) (fun _ h9 => h9) rfl hin rfl (by decide +kernel) (rfl) (rfl) (Nat.le_of_ble_eq_true rfl) dX5_init_33 (fun H locs hP hD hS => ?_)
  have hP : va_P D vwCl [(sg, .inr (4, [.int (nI 0), .int (nI 0), .long 0, .long 0, .int (zb false), .int (zb false), .int (nI 0), .null, .ref q7, .ref q15, .ref q23, .ref q31, .null, .null, .null, .null])), (q7, .inl (Y.2.1, 16, .inr (.inl (fun _ => 0)))), (q15, .inl (Y.1, 16, .inl (fun _ => 0))), (q23, .inl (Y.1, 16, .inl (fun _ => 0))), (q31, .inl (Y.1, 16, .inl (fun _ => 0)))] H := hP
  have hD : va_D AA [(sg, .inr (4, [.int (nI 0), .int (nI 0), .long 0, .long 0, .int (zb false), .int (zb false), .int (nI 0), .null, .ref q7, .ref q15, .ref q23, .ref q31, .null, .null, .null, .null])), (q7, .inl (Y.2.1, 16, .inr (.inl (fun _ => 0)))), (q15, .inl (Y.1, 16, .inl (fun _ => 0))), (q23, .inl (Y.1, 16, .inl (fun _ => 0))), (q31, .inl (Y.1, 16, .inl (fun _ => 0)))] := hD
  refine lv_aload_n (pc := 36) hx hb dX5_init_36 rfl (lv_at hl 0 rfl) ?_
  refine lv_bipush (pc := 37) (v := nI 16) hx hb dX5_init_37 rfl ?_
  refine n_newaI (pc := 39) (N := 16) hx hb (hts (.arrayClass .int) (List.mem_of_getElem? (i := 6) rfl)) hK hP hD hS hA (Nat.le_of_ble_eq_true rfl) (Nat.le_of_ble_eq_true rfl) (Nat.le_of_ble_eq_true rfl) dX5_init_39 (fun q39 H hP hD hS => ?_)
  have hP : va_P D vwCl [(sg, .inr (4, [.int (nI 0), .int (nI 0), .long 0, .long 0, .int (zb false), .int (zb false), .int (nI 0), .null, .ref q7, .ref q15, .ref q23, .ref q31, .null, .null, .null, .null])), (q7, .inl (Y.2.1, 16, .inr (.inl (fun _ => 0)))), (q15, .inl (Y.1, 16, .inl (fun _ => 0))), (q23, .inl (Y.1, 16, .inl (fun _ => 0))), (q31, .inl (Y.1, 16, .inl (fun _ => 0))), (q39, .inl (Y.1, 16, .inl (fun _ => 0)))] H := hP
  have hD : va_D AA [(sg, .inr (4, [.int (nI 0), .int (nI 0), .long 0, .long 0, .int (zb false), .int (zb false), .int (nI 0), .null, .ref q7, .ref q15, .ref q23, .ref q31, .null, .null, .null, .null])), (q7, .inl (Y.2.1, 16, .inr (.inl (fun _ => 0)))), (q15, .inl (Y.1, 16, .inl (fun _ => 0))), (q23, .inl (Y.1, 16, .inl (fun _ => 0))), (q31, .inl (Y.1, 16, .inl (fun _ => 0))), (q39, .inl (Y.1, 16, .inl (fun _ => 0)))] := hD
  refine va_putF (pc := 41) (D := D) (ci := 4) (v := .ref q39) (ty := (tyX5 12)) (C := RX5) (T := TX5) (N := 16) hx hb hts hinX5 tyX5 tyX5_ok nmX5 hown hK.1 hP hD hS 0 rfl rfl 12 (by decide) (hts (.fieldLink RX5 25 "BoxesGame$Strings" "discounts" "[I") (List.mem_of_getElem? (i := 10) rfl)) (fun _ h9 => h9) rfl hin rfl (by decide +kernel) (rfl) (rfl) (Nat.le_of_ble_eq_true rfl) dX5_init_41 (fun H locs hP hD hS => ?_)
  have hP : va_P D vwCl [(sg, .inr (4, [.int (nI 0), .int (nI 0), .long 0, .long 0, .int (zb false), .int (zb false), .int (nI 0), .null, .ref q7, .ref q15, .ref q23, .ref q31, .ref q39, .null, .null, .null])), (q7, .inl (Y.2.1, 16, .inr (.inl (fun _ => 0)))), (q15, .inl (Y.1, 16, .inl (fun _ => 0))), (q23, .inl (Y.1, 16, .inl (fun _ => 0))), (q31, .inl (Y.1, 16, .inl (fun _ => 0))), (q39, .inl (Y.1, 16, .inl (fun _ => 0)))] H := hP
  have hD : va_D AA [(sg, .inr (4, [.int (nI 0), .int (nI 0), .long 0, .long 0, .int (zb false), .int (zb false), .int (nI 0), .null, .ref q7, .ref q15, .ref q23, .ref q31, .ref q39, .null, .null, .null])), (q7, .inl (Y.2.1, 16, .inr (.inl (fun _ => 0)))), (q15, .inl (Y.1, 16, .inl (fun _ => 0))), (q23, .inl (Y.1, 16, .inl (fun _ => 0))), (q31, .inl (Y.1, 16, .inl (fun _ => 0))), (q39, .inl (Y.1, 16, .inl (fun _ => 0)))] := hD
  refine lv_aload_n (pc := 44) hx hb dX5_init_44 rfl (lv_at hl 0 rfl) ?_
  refine lv_bipush (pc := 45) (v := nI 16) hx hb dX5_init_45 rfl ?_
  refine n_newaJ (pc := 47) (N := 16) hx hb (hts (.arrayClass .long) (List.mem_of_getElem? (i := 4) rfl)) hK hP hD hS hA (Nat.le_of_ble_eq_true rfl) (Nat.le_of_ble_eq_true rfl) (Nat.le_of_ble_eq_true rfl) dX5_init_47 (fun q47 H hP hD hS => ?_)
  have hP : va_P D vwCl [(sg, .inr (4, [.int (nI 0), .int (nI 0), .long 0, .long 0, .int (zb false), .int (zb false), .int (nI 0), .null, .ref q7, .ref q15, .ref q23, .ref q31, .ref q39, .null, .null, .null])), (q7, .inl (Y.2.1, 16, .inr (.inl (fun _ => 0)))), (q15, .inl (Y.1, 16, .inl (fun _ => 0))), (q23, .inl (Y.1, 16, .inl (fun _ => 0))), (q31, .inl (Y.1, 16, .inl (fun _ => 0))), (q39, .inl (Y.1, 16, .inl (fun _ => 0))), (q47, .inl (Y.2.1, 16, .inr (.inl (fun _ => 0))))] H := hP
  have hD : va_D AA [(sg, .inr (4, [.int (nI 0), .int (nI 0), .long 0, .long 0, .int (zb false), .int (zb false), .int (nI 0), .null, .ref q7, .ref q15, .ref q23, .ref q31, .ref q39, .null, .null, .null])), (q7, .inl (Y.2.1, 16, .inr (.inl (fun _ => 0)))), (q15, .inl (Y.1, 16, .inl (fun _ => 0))), (q23, .inl (Y.1, 16, .inl (fun _ => 0))), (q31, .inl (Y.1, 16, .inl (fun _ => 0))), (q39, .inl (Y.1, 16, .inl (fun _ => 0))), (q47, .inl (Y.2.1, 16, .inr (.inl (fun _ => 0))))] := hD
  refine va_putF (pc := 49) (D := D) (ci := 4) (v := .ref q47) (ty := (tyX5 13)) (C := RX5) (T := TX5) (N := 16) hx hb hts hinX5 tyX5 tyX5_ok nmX5 hown hK.1 hP hD hS 0 rfl rfl 13 (by decide) (hts (.fieldLink RX5 28 "BoxesGame$Strings" "lines" "[J") (List.mem_of_getElem? (i := 11) rfl)) (fun _ h9 => h9) rfl hin rfl (by decide +kernel) (rfl) (rfl) (Nat.le_of_ble_eq_true rfl) dX5_init_49 (fun H locs hP hD hS => ?_)
  have hP : va_P D vwCl [(sg, .inr (4, [.int (nI 0), .int (nI 0), .long 0, .long 0, .int (zb false), .int (zb false), .int (nI 0), .null, .ref q7, .ref q15, .ref q23, .ref q31, .ref q39, .ref q47, .null, .null])), (q7, .inl (Y.2.1, 16, .inr (.inl (fun _ => 0)))), (q15, .inl (Y.1, 16, .inl (fun _ => 0))), (q23, .inl (Y.1, 16, .inl (fun _ => 0))), (q31, .inl (Y.1, 16, .inl (fun _ => 0))), (q39, .inl (Y.1, 16, .inl (fun _ => 0))), (q47, .inl (Y.2.1, 16, .inr (.inl (fun _ => 0))))] H := hP
  have hD : va_D AA [(sg, .inr (4, [.int (nI 0), .int (nI 0), .long 0, .long 0, .int (zb false), .int (zb false), .int (nI 0), .null, .ref q7, .ref q15, .ref q23, .ref q31, .ref q39, .ref q47, .null, .null])), (q7, .inl (Y.2.1, 16, .inr (.inl (fun _ => 0)))), (q15, .inl (Y.1, 16, .inl (fun _ => 0))), (q23, .inl (Y.1, 16, .inl (fun _ => 0))), (q31, .inl (Y.1, 16, .inl (fun _ => 0))), (q39, .inl (Y.1, 16, .inl (fun _ => 0))), (q47, .inl (Y.2.1, 16, .inr (.inl (fun _ => 0))))] := hD
  refine lv_aload_n (pc := 52) hx hb dX5_init_52 rfl (lv_at hl 0 rfl) ?_
  refine lv_bipush (pc := 53) (v := nI 16) hx hb dX5_init_53 rfl ?_
  refine n_newaJ (pc := 55) (N := 16) hx hb (hts (.arrayClass .long) (List.mem_of_getElem? (i := 4) rfl)) hK hP hD hS hA (Nat.le_of_ble_eq_true rfl) (Nat.le_of_ble_eq_true rfl) (Nat.le_of_ble_eq_true rfl) dX5_init_55 (fun q55 H hP hD hS => ?_)
  have hP : va_P D vwCl [(sg, .inr (4, [.int (nI 0), .int (nI 0), .long 0, .long 0, .int (zb false), .int (zb false), .int (nI 0), .null, .ref q7, .ref q15, .ref q23, .ref q31, .ref q39, .ref q47, .null, .null])), (q7, .inl (Y.2.1, 16, .inr (.inl (fun _ => 0)))), (q15, .inl (Y.1, 16, .inl (fun _ => 0))), (q23, .inl (Y.1, 16, .inl (fun _ => 0))), (q31, .inl (Y.1, 16, .inl (fun _ => 0))), (q39, .inl (Y.1, 16, .inl (fun _ => 0))), (q47, .inl (Y.2.1, 16, .inr (.inl (fun _ => 0)))), (q55, .inl (Y.2.1, 16, .inr (.inl (fun _ => 0))))] H := hP
  have hD : va_D AA [(sg, .inr (4, [.int (nI 0), .int (nI 0), .long 0, .long 0, .int (zb false), .int (zb false), .int (nI 0), .null, .ref q7, .ref q15, .ref q23, .ref q31, .ref q39, .ref q47, .null, .null])), (q7, .inl (Y.2.1, 16, .inr (.inl (fun _ => 0)))), (q15, .inl (Y.1, 16, .inl (fun _ => 0))), (q23, .inl (Y.1, 16, .inl (fun _ => 0))), (q31, .inl (Y.1, 16, .inl (fun _ => 0))), (q39, .inl (Y.1, 16, .inl (fun _ => 0))), (q47, .inl (Y.2.1, 16, .inr (.inl (fun _ => 0)))), (q55, .inl (Y.2.1, 16, .inr (.inl (fun _ => 0))))] := hD
  refine va_putF (pc := 57) (D := D) (ci := 4) (v := .ref q55) (ty := (tyX5 14)) (C := RX5) (T := TX5) (N := 16) hx hb hts hinX5 tyX5 tyX5_ok nmX5 hown hK.1 hP hD hS 0 rfl rfl 14 (by decide) (hts (.fieldLink RX5 31 "BoxesGame$Strings" "sharedLines" "[J") (List.mem_of_getElem? (i := 12) rfl)) (fun _ h9 => h9) rfl hin rfl (by decide +kernel) (rfl) (rfl) (Nat.le_of_ble_eq_true rfl) dX5_init_57 (fun H locs hP hD hS => ?_)
  have hP : va_P D vwCl [(sg, .inr (4, [.int (nI 0), .int (nI 0), .long 0, .long 0, .int (zb false), .int (zb false), .int (nI 0), .null, .ref q7, .ref q15, .ref q23, .ref q31, .ref q39, .ref q47, .ref q55, .null])), (q7, .inl (Y.2.1, 16, .inr (.inl (fun _ => 0)))), (q15, .inl (Y.1, 16, .inl (fun _ => 0))), (q23, .inl (Y.1, 16, .inl (fun _ => 0))), (q31, .inl (Y.1, 16, .inl (fun _ => 0))), (q39, .inl (Y.1, 16, .inl (fun _ => 0))), (q47, .inl (Y.2.1, 16, .inr (.inl (fun _ => 0)))), (q55, .inl (Y.2.1, 16, .inr (.inl (fun _ => 0))))] H := hP
  have hD : va_D AA [(sg, .inr (4, [.int (nI 0), .int (nI 0), .long 0, .long 0, .int (zb false), .int (zb false), .int (nI 0), .null, .ref q7, .ref q15, .ref q23, .ref q31, .ref q39, .ref q47, .ref q55, .null])), (q7, .inl (Y.2.1, 16, .inr (.inl (fun _ => 0)))), (q15, .inl (Y.1, 16, .inl (fun _ => 0))), (q23, .inl (Y.1, 16, .inl (fun _ => 0))), (q31, .inl (Y.1, 16, .inl (fun _ => 0))), (q39, .inl (Y.1, 16, .inl (fun _ => 0))), (q47, .inl (Y.2.1, 16, .inr (.inl (fun _ => 0)))), (q55, .inl (Y.2.1, 16, .inr (.inl (fun _ => 0))))] := hD
  refine lv_aload_n (pc := 60) hx hb dX5_init_60 rfl (lv_at hl 0 rfl) ?_
  refine lv_sipush (pc := 61) (v := nI 1024) hx hb dX5_init_61 rfl ?_
  refine n_newaI (pc := 64) (N := 1024) hx hb (hts (.arrayClass .int) (List.mem_of_getElem? (i := 6) rfl)) hK hP hD hS hA (Nat.le_of_ble_eq_true rfl) (Nat.le_of_ble_eq_true rfl) (Nat.le_of_ble_eq_true rfl) dX5_init_64 (fun q64 H hP hD hS => ?_)
  have hP : va_P D vwCl [(sg, .inr (4, [.int (nI 0), .int (nI 0), .long 0, .long 0, .int (zb false), .int (zb false), .int (nI 0), .null, .ref q7, .ref q15, .ref q23, .ref q31, .ref q39, .ref q47, .ref q55, .null])), (q7, .inl (Y.2.1, 16, .inr (.inl (fun _ => 0)))), (q15, .inl (Y.1, 16, .inl (fun _ => 0))), (q23, .inl (Y.1, 16, .inl (fun _ => 0))), (q31, .inl (Y.1, 16, .inl (fun _ => 0))), (q39, .inl (Y.1, 16, .inl (fun _ => 0))), (q47, .inl (Y.2.1, 16, .inr (.inl (fun _ => 0)))), (q55, .inl (Y.2.1, 16, .inr (.inl (fun _ => 0)))), (q64, .inl (Y.1, 1024, .inl (fun _ => 0)))] H := hP
  have hD : va_D AA [(sg, .inr (4, [.int (nI 0), .int (nI 0), .long 0, .long 0, .int (zb false), .int (zb false), .int (nI 0), .null, .ref q7, .ref q15, .ref q23, .ref q31, .ref q39, .ref q47, .ref q55, .null])), (q7, .inl (Y.2.1, 16, .inr (.inl (fun _ => 0)))), (q15, .inl (Y.1, 16, .inl (fun _ => 0))), (q23, .inl (Y.1, 16, .inl (fun _ => 0))), (q31, .inl (Y.1, 16, .inl (fun _ => 0))), (q39, .inl (Y.1, 16, .inl (fun _ => 0))), (q47, .inl (Y.2.1, 16, .inr (.inl (fun _ => 0)))), (q55, .inl (Y.2.1, 16, .inr (.inl (fun _ => 0)))), (q64, .inl (Y.1, 1024, .inl (fun _ => 0)))] := hD
  refine va_putF (pc := 66) (D := D) (ci := 4) (v := .ref q64) (ty := (tyX5 15)) (C := RX5) (T := TX5) (N := 16) hx hb hts hinX5 tyX5 tyX5_ok nmX5 hown hK.1 hP hD hS 0 rfl rfl 15 (by decide) (hts (.fieldLink RX5 34 "BoxesGame$Strings" "values" "[I") (List.mem_of_getElem? (i := 13) rfl)) (fun _ h9 => h9) rfl hin rfl (by decide +kernel) (rfl) (rfl) (Nat.le_of_ble_eq_true rfl) dX5_init_66 (fun H locs hP hD hS => ?_)
  have hP : va_P D vwCl [(sg, .inr (4, [.int (nI 0), .int (nI 0), .long 0, .long 0, .int (zb false), .int (zb false), .int (nI 0), .null, .ref q7, .ref q15, .ref q23, .ref q31, .ref q39, .ref q47, .ref q55, .ref q64])), (q7, .inl (Y.2.1, 16, .inr (.inl (fun _ => 0)))), (q15, .inl (Y.1, 16, .inl (fun _ => 0))), (q23, .inl (Y.1, 16, .inl (fun _ => 0))), (q31, .inl (Y.1, 16, .inl (fun _ => 0))), (q39, .inl (Y.1, 16, .inl (fun _ => 0))), (q47, .inl (Y.2.1, 16, .inr (.inl (fun _ => 0)))), (q55, .inl (Y.2.1, 16, .inr (.inl (fun _ => 0)))), (q64, .inl (Y.1, 1024, .inl (fun _ => 0)))] H := hP
  have hD : va_D AA [(sg, .inr (4, [.int (nI 0), .int (nI 0), .long 0, .long 0, .int (zb false), .int (zb false), .int (nI 0), .null, .ref q7, .ref q15, .ref q23, .ref q31, .ref q39, .ref q47, .ref q55, .ref q64])), (q7, .inl (Y.2.1, 16, .inr (.inl (fun _ => 0)))), (q15, .inl (Y.1, 16, .inl (fun _ => 0))), (q23, .inl (Y.1, 16, .inl (fun _ => 0))), (q31, .inl (Y.1, 16, .inl (fun _ => 0))), (q39, .inl (Y.1, 16, .inl (fun _ => 0))), (q47, .inl (Y.2.1, 16, .inr (.inl (fun _ => 0)))), (q55, .inl (Y.2.1, 16, .inr (.inl (fun _ => 0)))), (q64, .inl (Y.1, 1024, .inl (fun _ => 0)))] := hD
  refine lv_aload_n (pc := 69) hx hb dX5_init_69 rfl (lv_at hl 0 rfl) ?_
  refine lv_aload_n (pc := 70) hx hb dX5_init_70 rfl (lv_at hl 1 rfl) ?_
  refine va_putF (pc := 71) (D := D) (ci := 4) (v := .ref bd) (ty := (tyX5 7)) (C := RX5) (T := TX5) (N := 16) hx hb hts hinX5 tyX5 tyX5_ok nmX5 hown hK.1 hP hD hS 0 rfl rfl 7 (by decide) (hts (.fieldLink RX5 37 "BoxesGame$Strings" "board" "LBoxesGame$Board;") (List.mem_of_getElem? (i := 14) rfl)) (fun _ h9 => h9) rfl hin rfl (by decide +kernel) (rfl) (rfl) (Nat.le_of_ble_eq_true rfl) dX5_init_71 (fun H locs hP hD hS => ?_)
  have hP : va_P D vwCl [(sg, .inr (4, [.int (nI 0), .int (nI 0), .long 0, .long 0, .int (zb false), .int (zb false), .int (nI 0), .ref bd, .ref q7, .ref q15, .ref q23, .ref q31, .ref q39, .ref q47, .ref q55, .ref q64])), (q7, .inl (Y.2.1, 16, .inr (.inl (fun _ => 0)))), (q15, .inl (Y.1, 16, .inl (fun _ => 0))), (q23, .inl (Y.1, 16, .inl (fun _ => 0))), (q31, .inl (Y.1, 16, .inl (fun _ => 0))), (q39, .inl (Y.1, 16, .inl (fun _ => 0))), (q47, .inl (Y.2.1, 16, .inr (.inl (fun _ => 0)))), (q55, .inl (Y.2.1, 16, .inr (.inl (fun _ => 0)))), (q64, .inl (Y.1, 1024, .inl (fun _ => 0)))] H := hP
  have hD : va_D AA [(sg, .inr (4, [.int (nI 0), .int (nI 0), .long 0, .long 0, .int (zb false), .int (zb false), .int (nI 0), .ref bd, .ref q7, .ref q15, .ref q23, .ref q31, .ref q39, .ref q47, .ref q55, .ref q64])), (q7, .inl (Y.2.1, 16, .inr (.inl (fun _ => 0)))), (q15, .inl (Y.1, 16, .inl (fun _ => 0))), (q23, .inl (Y.1, 16, .inl (fun _ => 0))), (q31, .inl (Y.1, 16, .inl (fun _ => 0))), (q39, .inl (Y.1, 16, .inl (fun _ => 0))), (q47, .inl (Y.2.1, 16, .inr (.inl (fun _ => 0)))), (q55, .inl (Y.2.1, 16, .inr (.inl (fun _ => 0)))), (q64, .inl (Y.1, 1024, .inl (fun _ => 0)))] := hD
  subst hAA
  exact ct_vret (Nat.le_of_ble_eq_true rfl) (Nat.le_of_ble_eq_true rfl) hx hb hr hlocks hP hD hS (⟨_, _, _, _, _, _, _, _⟩) (trivial) (rfl) dX5_init_74

set_option maxHeartbeats 1200000 in
set_option maxRecDepth 100000 in
theorem c_X4_init (l : Launch) (D : va_G) (Y : vY) (so : Nat) (bd : Nat)  (hz0 : Nat) : Ct l yX4_init wsX4_init ({ frames := 1, cells := 4, slots := 4132, locals := 24 } : Room) [.ref so, .ref bd] D Y [(so, .inr (3, [.null, .null, .null, .null, .null, .int (nI 0), .long 0, .int (zb false)]))] hz0 (fun uS : Nat × Nat × Nat × Nat => [(so, .inr (3, [.ref bd, .ref uS.1, .ref uS.2.1, .ref uS.2.2.1, .ref uS.2.2.2, .int (nI 0), .long 0, .int (zb false)]))]) (fun uS : Nat × Nat × Nat × Nat => [(uS.1, .inl (Y.1, 12, .inl (fun _ => 0))), (uS.2.1, .inl (Y.1, 12, .inl (fun _ => 0))), (uS.2.2.1, .inl (Y.1, 12, .inl (fun _ => 0))), (uS.2.2.2, .inl (Y.1, 4096, .inl (fun _ => 0)))]) (fun uS : Nat × Nat × Nat × Nat => True) 4 4132 := by
  refine ct_intro (by decide +kernel) rfl rfl (Nat.le_of_ble_eq_true rfl) [(0, .ref so), (1, .ref bd)] rfl ?_
  intro pG eG sG mG aG bG tG cG ls hx hb hr hml hts hown hlocks hin hK hP hD hS hl
  generalize hAA : va_A [(so, .inr (3, [.null, .null, .null, .null, .null, .int (nI 0), .long 0, .int (zb false)]))] sG.heap.size = AA at hD hS ⊢
  have hA : ∀ q : Nat, sG.heap.size ≤ q → AA q := fun q h => by rw [← hAA]; exact Or.inr h
  have hP : va_P D vwCl [(so, .inr (3, [.null, .null, .null, .null, .null, .int (nI 0), .long 0, .int (zb false)]))] sG.heap := hP
  have hD : va_D AA [(so, .inr (3, [.null, .null, .null, .null, .null, .int (nI 0), .long 0, .int (zb false)]))] := hD
  have hown : sG.vm.findClass RX4 = some mG.cls := hown
  have hl : lv_has ls 2 [(0, .ref so), (1, .ref bd)] := hl
  have hinX4 : ∀ w ∈ u_ws RX4 TX4 8, w ∈ wsX4_init := by decide +kernel
  have hS : va_S AA sG.heap sG.heap [] := hS
  refine lv_aload_n (pc := 0) hx hb dX4_init_0 rfl (lv_at hl 0 rfl) ?_
  refine W.objInit hx hb hown (hts (.methodLink RX4 3 objectInit) (List.mem_of_getElem? (i := 1) rfl)) (hts (.instanceMethod objectInit) (List.mem_of_getElem? (i := 2) rfl)) (hts (.code objectInit ⟨#[0xb1]⟩ 1 none) (List.mem_of_getElem? (i := 3) rfl)) rfl (by rw [hml]; exact hl.1) rfl dX4_init_1 (Nat.le_of_ble_eq_true rfl) (Nat.le_of_ble_eq_true rfl) ?_
  refine lv_aload_n (pc := 4) hx hb dX4_init_4 rfl (lv_at hl 0 rfl) ?_
  refine lv_bipush (pc := 5) (v := nI 12) hx hb dX4_init_5 rfl ?_
  refine n_newaI (pc := 7) (N := 12) hx hb (hts (.arrayClass .int) (List.mem_of_getElem? (i := 4) rfl)) hK hP hD hS hA (Nat.le_of_ble_eq_true rfl) (Nat.le_of_ble_eq_true rfl) (Nat.le_of_ble_eq_true rfl) dX4_init_7 (fun q7 H hP hD hS => ?_)
  have hP : va_P D vwCl [(so, .inr (3, [.null, .null, .null, .null, .null, .int (nI 0), .long 0, .int (zb false)])), (q7, .inl (Y.1, 12, .inl (fun _ => 0)))] H := hP
  have hD : va_D AA [(so, .inr (3, [.null, .null, .null, .null, .null, .int (nI 0), .long 0, .int (zb false)])), (q7, .inl (Y.1, 12, .inl (fun _ => 0)))] := hD
  refine va_putF (pc := 9) (D := D) (ci := 3) (v := .ref q7) (ty := (tyX4 1)) (C := RX4) (T := TX4) (N := 8) hx hb hts hinX4 tyX4 tyX4_ok nmX4 hown hK.1 hP hD hS 0 rfl rfl 1 (by decide) (hts (.fieldLink RX4 9 "BoxesGame$Solver" "lines" "[I") (List.mem_of_getElem? (i := 5) rfl)) (fun _ h9 => h9) rfl hin rfl (by decide +kernel) (rfl) (rfl) (Nat.le_of_ble_eq_true rfl) dX4_init_9 (fun H locs hP hD hS => ?_)
  have hP : va_P D vwCl [(so, .inr (3, [.null, .ref q7, .null, .null, .null, .int (nI 0), .long 0, .int (zb false)])), (q7, .inl (Y.1, 12, .inl (fun _ => 0)))] H := hP
  have hD : va_D AA [(so, .inr (3, [.null, .ref q7, .null, .null, .null, .int (nI 0), .long 0, .int (zb false)])), (q7, .inl (Y.1, 12, .inl (fun _ => 0)))] := hD
  refine lv_aload_n (pc := 12) hx hb dX4_init_12 rfl (lv_at hl 0 rfl) ?_
  refine lv_bipush (pc := 13) (v := nI 12) hx hb dX4_init_13 rfl ?_
  refine n_newaI (pc := 15) (N := 12) hx hb (hts (.arrayClass .int) (List.mem_of_getElem? (i := 4) rfl)) hK hP hD hS hA (Nat.le_of_ble_eq_true rfl) (Nat.le_of_ble_eq_true rfl) (Nat.le_of_ble_eq_true rfl) dX4_init_15 (fun q15 H hP hD hS => ?_)
  have hP : va_P D vwCl [(so, .inr (3, [.null, .ref q7, .null, .null, .null, .int (nI 0), .long 0, .int (zb false)])), (q7, .inl (Y.1, 12, .inl (fun _ => 0))), (q15, .inl (Y.1, 12, .inl (fun _ => 0)))] H := hP
  have hD : va_D AA [(so, .inr (3, [.null, .ref q7, .null, .null, .null, .int (nI 0), .long 0, .int (zb false)])), (q7, .inl (Y.1, 12, .inl (fun _ => 0))), (q15, .inl (Y.1, 12, .inl (fun _ => 0)))] := hD
  refine va_putF (pc := 17) (D := D) (ci := 3) (v := .ref q15) (ty := (tyX4 2)) (C := RX4) (T := TX4) (N := 8) hx hb hts hinX4 tyX4 tyX4_ok nmX4 hown hK.1 hP hD hS 0 rfl rfl 2 (by decide) (hts (.fieldLink RX4 15 "BoxesGame$Solver" "firstBoxLines" "[I") (List.mem_of_getElem? (i := 6) rfl)) (fun _ h9 => h9) rfl hin rfl (by decide +kernel) (rfl) (rfl) (Nat.le_of_ble_eq_true rfl) dX4_init_17 (fun H locs hP hD hS => ?_)
  have hP : va_P D vwCl [(so, .inr (3, [.null, .ref q7, .ref q15, .null, .null, .int (nI 0), .long 0, .int (zb false)])), (q7, .inl (Y.1, 12, .inl (fun _ => 0))), (q15, .inl (Y.1, 12, .inl (fun _ => 0)))] H := hP
  have hD : va_D AA [(so, .inr (3, [.null, .ref q7, .ref q15, .null, .null, .int (nI 0), .long 0, .int (zb false)])), (q7, .inl (Y.1, 12, .inl (fun _ => 0))), (q15, .inl (Y.1, 12, .inl (fun _ => 0)))] := hD
  refine lv_aload_n (pc := 20) hx hb dX4_init_20 rfl (lv_at hl 0 rfl) ?_
  refine lv_bipush (pc := 21) (v := nI 12) hx hb dX4_init_21 rfl ?_
  refine n_newaI (pc := 23) (N := 12) hx hb (hts (.arrayClass .int) (List.mem_of_getElem? (i := 4) rfl)) hK hP hD hS hA (Nat.le_of_ble_eq_true rfl) (Nat.le_of_ble_eq_true rfl) (Nat.le_of_ble_eq_true rfl) dX4_init_23 (fun q23 H hP hD hS => ?_)
  have hP : va_P D vwCl [(so, .inr (3, [.null, .ref q7, .ref q15, .null, .null, .int (nI 0), .long 0, .int (zb false)])), (q7, .inl (Y.1, 12, .inl (fun _ => 0))), (q15, .inl (Y.1, 12, .inl (fun _ => 0))), (q23, .inl (Y.1, 12, .inl (fun _ => 0)))] H := hP
  have hD : va_D AA [(so, .inr (3, [.null, .ref q7, .ref q15, .null, .null, .int (nI 0), .long 0, .int (zb false)])), (q7, .inl (Y.1, 12, .inl (fun _ => 0))), (q15, .inl (Y.1, 12, .inl (fun _ => 0))), (q23, .inl (Y.1, 12, .inl (fun _ => 0)))] := hD
  refine va_putF (pc := 25) (D := D) (ci := 3) (v := .ref q23) (ty := (tyX4 3)) (C := RX4) (T := TX4) (N := 8) hx hb hts hinX4 tyX4 tyX4_ok nmX4 hown hK.1 hP hD hS 0 rfl rfl 3 (by decide) (hts (.fieldLink RX4 18 "BoxesGame$Solver" "secondBoxLines" "[I") (List.mem_of_getElem? (i := 7) rfl)) (fun _ h9 => h9) rfl hin rfl (by decide +kernel) (rfl) (rfl) (Nat.le_of_ble_eq_true rfl) dX4_init_25 (fun H locs hP hD hS => ?_)
  have hP : va_P D vwCl [(so, .inr (3, [.null, .ref q7, .ref q15, .ref q23, .null, .int (nI 0), .long 0, .int (zb false)])), (q7, .inl (Y.1, 12, .inl (fun _ => 0))), (q15, .inl (Y.1, 12, .inl (fun _ => 0))), (q23, .inl (Y.1, 12, .inl (fun _ => 0)))] H := hP
  have hD : va_D AA [(so, .inr (3, [.null, .ref q7, .ref q15, .ref q23, .null, .int (nI 0), .long 0, .int (zb false)])), (q7, .inl (Y.1, 12, .inl (fun _ => 0))), (q15, .inl (Y.1, 12, .inl (fun _ => 0))), (q23, .inl (Y.1, 12, .inl (fun _ => 0)))] := hD
  refine lv_aload_n (pc := 28) hx hb dX4_init_28 rfl (lv_at hl 0 rfl) ?_
  refine lv_sipush (pc := 29) (v := nI 4096) hx hb dX4_init_29 rfl ?_
  refine n_newaI (pc := 32) (N := 4096) hx hb (hts (.arrayClass .int) (List.mem_of_getElem? (i := 4) rfl)) hK hP hD hS hA (Nat.le_of_ble_eq_true rfl) (Nat.le_of_ble_eq_true rfl) (Nat.le_of_ble_eq_true rfl) dX4_init_32 (fun q32 H hP hD hS => ?_)
  have hP : va_P D vwCl [(so, .inr (3, [.null, .ref q7, .ref q15, .ref q23, .null, .int (nI 0), .long 0, .int (zb false)])), (q7, .inl (Y.1, 12, .inl (fun _ => 0))), (q15, .inl (Y.1, 12, .inl (fun _ => 0))), (q23, .inl (Y.1, 12, .inl (fun _ => 0))), (q32, .inl (Y.1, 4096, .inl (fun _ => 0)))] H := hP
  have hD : va_D AA [(so, .inr (3, [.null, .ref q7, .ref q15, .ref q23, .null, .int (nI 0), .long 0, .int (zb false)])), (q7, .inl (Y.1, 12, .inl (fun _ => 0))), (q15, .inl (Y.1, 12, .inl (fun _ => 0))), (q23, .inl (Y.1, 12, .inl (fun _ => 0))), (q32, .inl (Y.1, 4096, .inl (fun _ => 0)))] := hD
  refine va_putF (pc := 34) (D := D) (ci := 3) (v := .ref q32) (ty := (tyX4 4)) (C := RX4) (T := TX4) (N := 8) hx hb hts hinX4 tyX4 tyX4_ok nmX4 hown hK.1 hP hD hS 0 rfl rfl 4 (by decide) (hts (.fieldLink RX4 21 "BoxesGame$Solver" "best" "[I") (List.mem_of_getElem? (i := 8) rfl)) (fun _ h9 => h9) rfl hin rfl (by decide +kernel) (rfl) (rfl) (Nat.le_of_ble_eq_true rfl) dX4_init_34 (fun H locs hP hD hS => ?_)
  have hP : va_P D vwCl [(so, .inr (3, [.null, .ref q7, .ref q15, .ref q23, .ref q32, .int (nI 0), .long 0, .int (zb false)])), (q7, .inl (Y.1, 12, .inl (fun _ => 0))), (q15, .inl (Y.1, 12, .inl (fun _ => 0))), (q23, .inl (Y.1, 12, .inl (fun _ => 0))), (q32, .inl (Y.1, 4096, .inl (fun _ => 0)))] H := hP
  have hD : va_D AA [(so, .inr (3, [.null, .ref q7, .ref q15, .ref q23, .ref q32, .int (nI 0), .long 0, .int (zb false)])), (q7, .inl (Y.1, 12, .inl (fun _ => 0))), (q15, .inl (Y.1, 12, .inl (fun _ => 0))), (q23, .inl (Y.1, 12, .inl (fun _ => 0))), (q32, .inl (Y.1, 4096, .inl (fun _ => 0)))] := hD
  refine lv_aload_n (pc := 37) hx hb dX4_init_37 rfl (lv_at hl 0 rfl) ?_
  refine lv_aload_n (pc := 38) hx hb dX4_init_38 rfl (lv_at hl 1 rfl) ?_
  refine va_putF (pc := 39) (D := D) (ci := 3) (v := .ref bd) (ty := (tyX4 0)) (C := RX4) (T := TX4) (N := 8) hx hb hts hinX4 tyX4 tyX4_ok nmX4 hown hK.1 hP hD hS 0 rfl rfl 0 (by decide) (hts (.fieldLink RX4 24 "BoxesGame$Solver" "board" "LBoxesGame$Board;") (List.mem_of_getElem? (i := 9) rfl)) (fun _ h9 => h9) rfl hin rfl (by decide +kernel) (rfl) (rfl) (Nat.le_of_ble_eq_true rfl) dX4_init_39 (fun H locs hP hD hS => ?_)
  have hP : va_P D vwCl [(so, .inr (3, [.ref bd, .ref q7, .ref q15, .ref q23, .ref q32, .int (nI 0), .long 0, .int (zb false)])), (q7, .inl (Y.1, 12, .inl (fun _ => 0))), (q15, .inl (Y.1, 12, .inl (fun _ => 0))), (q23, .inl (Y.1, 12, .inl (fun _ => 0))), (q32, .inl (Y.1, 4096, .inl (fun _ => 0)))] H := hP
  have hD : va_D AA [(so, .inr (3, [.ref bd, .ref q7, .ref q15, .ref q23, .ref q32, .int (nI 0), .long 0, .int (zb false)])), (q7, .inl (Y.1, 12, .inl (fun _ => 0))), (q15, .inl (Y.1, 12, .inl (fun _ => 0))), (q23, .inl (Y.1, 12, .inl (fun _ => 0))), (q32, .inl (Y.1, 4096, .inl (fun _ => 0)))] := hD
  subst hAA
  exact ct_vret (Nat.le_of_ble_eq_true rfl) (Nat.le_of_ble_eq_true rfl) hx hb hr hlocks hP hD hS (⟨_, _, _, _⟩) (trivial) (rfl) dX4_init_42

set_option maxHeartbeats 1200000 in
set_option maxRecDepth 100000 in
theorem c_X7_init (l : Launch) (D : va_G) (Y : vY) (sy : Nat) (bd : Nat)  (hz0 : Nat) : Ct l yX7_init wsX7_init ({ frames := 1, cells := 3, slots := 368, locals := 24 } : Room) [.ref sy, .ref bd] D Y [(sy, .inr (6, [.null, .null, .null, .null, .int (nI 0)]))] hz0 (fun uS : Nat × Nat × Nat => [(sy, .inr (6, [.ref bd, .ref uS.1, .ref uS.2.1, .ref uS.2.2, .int (nI 0)]))]) (fun uS : Nat × Nat × Nat => [(uS.1, .inl (Y.1, 320, .inl (fun _ => 0))), (uS.2.1, .inl (Y.2.1, 8, .inr (.inl (fun _ => 0)))), (uS.2.2, .inl (Y.2.1, 40, .inr (.inl (fun _ => 0))))]) (fun uS : Nat × Nat × Nat => True) 3 368 := by
  refine ct_intro (by decide +kernel) rfl rfl (Nat.le_of_ble_eq_true rfl) [(0, .ref sy), (1, .ref bd)] rfl ?_
  intro pG eG sG mG aG bG tG cG ls hx hb hr hml hts hown hlocks hin hK hP hD hS hl
  generalize hAA : va_A [(sy, .inr (6, [.null, .null, .null, .null, .int (nI 0)]))] sG.heap.size = AA at hD hS ⊢
  have hA : ∀ q : Nat, sG.heap.size ≤ q → AA q := fun q h => by rw [← hAA]; exact Or.inr h
  have hP : va_P D vwCl [(sy, .inr (6, [.null, .null, .null, .null, .int (nI 0)]))] sG.heap := hP
  have hD : va_D AA [(sy, .inr (6, [.null, .null, .null, .null, .int (nI 0)]))] := hD
  have hown : sG.vm.findClass RX7 = some mG.cls := hown
  have hl : lv_has ls 2 [(0, .ref sy), (1, .ref bd)] := hl
  have hinX7 : ∀ w ∈ u_ws RX7 TX7 5, w ∈ wsX7_init := by decide +kernel
  have hS : va_S AA sG.heap sG.heap [] := hS
  refine lv_aload_n (pc := 0) hx hb dX7_init_0 rfl (lv_at hl 0 rfl) ?_
  refine W.objInit hx hb hown (hts (.methodLink RX7 3 objectInit) (List.mem_of_getElem? (i := 1) rfl)) (hts (.instanceMethod objectInit) (List.mem_of_getElem? (i := 2) rfl)) (hts (.code objectInit ⟨#[0xb1]⟩ 1 none) (List.mem_of_getElem? (i := 3) rfl)) rfl (by rw [hml]; exact hl.1) rfl dX7_init_1 (Nat.le_of_ble_eq_true rfl) (Nat.le_of_ble_eq_true rfl) ?_
  refine lv_aload_n (pc := 4) hx hb dX7_init_4 rfl (lv_at hl 0 rfl) ?_
  refine lv_sipush (pc := 5) (v := nI 320) hx hb dX7_init_5 rfl ?_
  refine n_newaI (pc := 8) (N := 320) hx hb (hts (.arrayClass .int) (List.mem_of_getElem? (i := 4) rfl)) hK hP hD hS hA (Nat.le_of_ble_eq_true rfl) (Nat.le_of_ble_eq_true rfl) (Nat.le_of_ble_eq_true rfl) dX7_init_8 (fun q8 H hP hD hS => ?_)
  have hP : va_P D vwCl [(sy, .inr (6, [.null, .null, .null, .null, .int (nI 0)])), (q8, .inl (Y.1, 320, .inl (fun _ => 0)))] H := hP
  have hD : va_D AA [(sy, .inr (6, [.null, .null, .null, .null, .int (nI 0)])), (q8, .inl (Y.1, 320, .inl (fun _ => 0)))] := hD
  refine va_putF (pc := 10) (D := D) (ci := 6) (v := .ref q8) (ty := (tyX7 1)) (C := RX7) (T := TX7) (N := 5) hx hb hts hinX7 tyX7 tyX7_ok nmX7 hown hK.1 hP hD hS 0 rfl rfl 1 (by decide) (hts (.fieldLink RX7 9 "BoxesGame$Symmetry" "images" "[I") (List.mem_of_getElem? (i := 5) rfl)) (fun _ h9 => h9) rfl hin rfl (by decide +kernel) (rfl) (rfl) (Nat.le_of_ble_eq_true rfl) dX7_init_10 (fun H locs hP hD hS => ?_)
  have hP : va_P D vwCl [(sy, .inr (6, [.null, .ref q8, .null, .null, .int (nI 0)])), (q8, .inl (Y.1, 320, .inl (fun _ => 0)))] H := hP
  have hD : va_D AA [(sy, .inr (6, [.null, .ref q8, .null, .null, .int (nI 0)])), (q8, .inl (Y.1, 320, .inl (fun _ => 0)))] := hD
  refine lv_aload_n (pc := 13) hx hb dX7_init_13 rfl (lv_at hl 0 rfl) ?_
  refine lv_bipush (pc := 14) (v := nI 8) hx hb dX7_init_14 rfl ?_
  refine n_newaJ (pc := 16) (N := 8) hx hb (hts (.arrayClass .long) (List.mem_of_getElem? (i := 6) rfl)) hK hP hD hS hA (Nat.le_of_ble_eq_true rfl) (Nat.le_of_ble_eq_true rfl) (Nat.le_of_ble_eq_true rfl) dX7_init_16 (fun q16 H hP hD hS => ?_)
  have hP : va_P D vwCl [(sy, .inr (6, [.null, .ref q8, .null, .null, .int (nI 0)])), (q8, .inl (Y.1, 320, .inl (fun _ => 0))), (q16, .inl (Y.2.1, 8, .inr (.inl (fun _ => 0))))] H := hP
  have hD : va_D AA [(sy, .inr (6, [.null, .ref q8, .null, .null, .int (nI 0)])), (q8, .inl (Y.1, 320, .inl (fun _ => 0))), (q16, .inl (Y.2.1, 8, .inr (.inl (fun _ => 0))))] := hD
  refine va_putF (pc := 18) (D := D) (ci := 6) (v := .ref q16) (ty := (tyX7 2)) (C := RX7) (T := TX7) (N := 5) hx hb hts hinX7 tyX7 tyX7_ok nmX7 hown hK.1 hP hD hS 0 rfl rfl 2 (by decide) (hts (.fieldLink RX7 15 "BoxesGame$Symmetry" "codes" "[J") (List.mem_of_getElem? (i := 7) rfl)) (fun _ h9 => h9) rfl hin rfl (by decide +kernel) (rfl) (rfl) (Nat.le_of_ble_eq_true rfl) dX7_init_18 (fun H locs hP hD hS => ?_)
  have hP : va_P D vwCl [(sy, .inr (6, [.null, .ref q8, .ref q16, .null, .int (nI 0)])), (q8, .inl (Y.1, 320, .inl (fun _ => 0))), (q16, .inl (Y.2.1, 8, .inr (.inl (fun _ => 0))))] H := hP
  have hD : va_D AA [(sy, .inr (6, [.null, .ref q8, .ref q16, .null, .int (nI 0)])), (q8, .inl (Y.1, 320, .inl (fun _ => 0))), (q16, .inl (Y.2.1, 8, .inr (.inl (fun _ => 0))))] := hD
  refine lv_aload_n (pc := 21) hx hb dX7_init_21 rfl (lv_at hl 0 rfl) ?_
  refine lv_bipush (pc := 22) (v := nI 40) hx hb dX7_init_22 rfl ?_
  refine n_newaJ (pc := 24) (N := 40) hx hb (hts (.arrayClass .long) (List.mem_of_getElem? (i := 6) rfl)) hK hP hD hS hA (Nat.le_of_ble_eq_true rfl) (Nat.le_of_ble_eq_true rfl) (Nat.le_of_ble_eq_true rfl) dX7_init_24 (fun q24 H hP hD hS => ?_)
  have hP : va_P D vwCl [(sy, .inr (6, [.null, .ref q8, .ref q16, .null, .int (nI 0)])), (q8, .inl (Y.1, 320, .inl (fun _ => 0))), (q16, .inl (Y.2.1, 8, .inr (.inl (fun _ => 0)))), (q24, .inl (Y.2.1, 40, .inr (.inl (fun _ => 0))))] H := hP
  have hD : va_D AA [(sy, .inr (6, [.null, .ref q8, .ref q16, .null, .int (nI 0)])), (q8, .inl (Y.1, 320, .inl (fun _ => 0))), (q16, .inl (Y.2.1, 8, .inr (.inl (fun _ => 0)))), (q24, .inl (Y.2.1, 40, .inr (.inl (fun _ => 0))))] := hD
  refine va_putF (pc := 26) (D := D) (ci := 6) (v := .ref q24) (ty := (tyX7 3)) (C := RX7) (T := TX7) (N := 5) hx hb hts hinX7 tyX7 tyX7_ok nmX7 hown hK.1 hP hD hS 0 rfl rfl 3 (by decide) (hts (.fieldLink RX7 19 "BoxesGame$Symmetry" "found" "[J") (List.mem_of_getElem? (i := 8) rfl)) (fun _ h9 => h9) rfl hin rfl (by decide +kernel) (rfl) (rfl) (Nat.le_of_ble_eq_true rfl) dX7_init_26 (fun H locs hP hD hS => ?_)
  have hP : va_P D vwCl [(sy, .inr (6, [.null, .ref q8, .ref q16, .ref q24, .int (nI 0)])), (q8, .inl (Y.1, 320, .inl (fun _ => 0))), (q16, .inl (Y.2.1, 8, .inr (.inl (fun _ => 0)))), (q24, .inl (Y.2.1, 40, .inr (.inl (fun _ => 0))))] H := hP
  have hD : va_D AA [(sy, .inr (6, [.null, .ref q8, .ref q16, .ref q24, .int (nI 0)])), (q8, .inl (Y.1, 320, .inl (fun _ => 0))), (q16, .inl (Y.2.1, 8, .inr (.inl (fun _ => 0)))), (q24, .inl (Y.2.1, 40, .inr (.inl (fun _ => 0))))] := hD
  refine lv_aload_n (pc := 29) hx hb dX7_init_29 rfl (lv_at hl 0 rfl) ?_
  refine lv_aload_n (pc := 30) hx hb dX7_init_30 rfl (lv_at hl 1 rfl) ?_
  refine va_putF (pc := 31) (D := D) (ci := 6) (v := .ref bd) (ty := (tyX7 0)) (C := RX7) (T := TX7) (N := 5) hx hb hts hinX7 tyX7 tyX7_ok nmX7 hown hK.1 hP hD hS 0 rfl rfl 0 (by decide) (hts (.fieldLink RX7 22 "BoxesGame$Symmetry" "board" "LBoxesGame$Board;") (List.mem_of_getElem? (i := 9) rfl)) (fun _ h9 => h9) rfl hin rfl (by decide +kernel) (rfl) (rfl) (Nat.le_of_ble_eq_true rfl) dX7_init_31 (fun H locs hP hD hS => ?_)
  have hP : va_P D vwCl [(sy, .inr (6, [.ref bd, .ref q8, .ref q16, .ref q24, .int (nI 0)])), (q8, .inl (Y.1, 320, .inl (fun _ => 0))), (q16, .inl (Y.2.1, 8, .inr (.inl (fun _ => 0)))), (q24, .inl (Y.2.1, 40, .inr (.inl (fun _ => 0))))] H := hP
  have hD : va_D AA [(sy, .inr (6, [.ref bd, .ref q8, .ref q16, .ref q24, .int (nI 0)])), (q8, .inl (Y.1, 320, .inl (fun _ => 0))), (q16, .inl (Y.2.1, 8, .inr (.inl (fun _ => 0)))), (q24, .inl (Y.2.1, 40, .inr (.inl (fun _ => 0))))] := hD
  subst hAA
  exact ct_vret (Nat.le_of_ble_eq_true rfl) (Nat.le_of_ble_eq_true rfl) hx hb hr hlocks hP hD hS (⟨_, _, _⟩) (trivial) (rfl) dX7_init_34

set_option maxHeartbeats 1200000 in
set_option maxRecDepth 100000 in
theorem c_X6_init (l : Launch) (D : va_G) (Y : vY) (sq : Nat) (bd : Nat) (so : Nat)  (hz0 : Nat) : Ct l yX6_init wsX6_init ({ frames := 1, cells := 0, slots := 0, locals := 24 } : Room) [.ref sq, .ref bd, .ref so] D Y [(sq, .inr (5, [.null, .null]))] hz0 (fun _ : Unit => [(sq, .inr (5, [.ref bd, .ref so]))]) (fun _ : Unit => []) (fun _ : Unit => True) 0 0 := by
  refine ct_intro (by decide +kernel) rfl rfl (Nat.le_of_ble_eq_true rfl) [(0, .ref sq), (1, .ref bd), (2, .ref so)] rfl ?_
  intro pG eG sG mG aG bG tG cG ls hx hb hr hml hts hown hlocks hin hK hP hD hS hl
  generalize hAA : va_A [(sq, .inr (5, [.null, .null]))] sG.heap.size = AA at hD hS ⊢
  have hA : ∀ q : Nat, sG.heap.size ≤ q → AA q := fun q h => by rw [← hAA]; exact Or.inr h
  have hP : va_P D vwCl [(sq, .inr (5, [.null, .null]))] sG.heap := hP
  have hD : va_D AA [(sq, .inr (5, [.null, .null]))] := hD
  have hown : sG.vm.findClass RX6 = some mG.cls := hown
  have hl : lv_has ls 3 [(0, .ref sq), (1, .ref bd), (2, .ref so)] := hl
  have hinX6 : ∀ w ∈ u_ws RX6 TX6 2, w ∈ wsX6_init := by decide +kernel
  have hS : va_S AA sG.heap sG.heap [] := hS
  refine lv_aload_n (pc := 0) hx hb dX6_init_0 rfl (lv_at hl 0 rfl) ?_
  refine W.objInit hx hb hown (hts (.methodLink RX6 3 objectInit) (List.mem_of_getElem? (i := 1) rfl)) (hts (.instanceMethod objectInit) (List.mem_of_getElem? (i := 2) rfl)) (hts (.code objectInit ⟨#[0xb1]⟩ 1 none) (List.mem_of_getElem? (i := 3) rfl)) rfl (by rw [hml]; exact hl.1) rfl dX6_init_1 (Nat.le_of_ble_eq_true rfl) (Nat.le_of_ble_eq_true rfl) ?_
  refine lv_aload_n (pc := 4) hx hb dX6_init_4 rfl (lv_at hl 0 rfl) ?_
  refine lv_aload_n (pc := 5) hx hb dX6_init_5 rfl (lv_at hl 1 rfl) ?_
  refine va_putF (pc := 6) (D := D) (ci := 5) (v := .ref bd) (ty := (tyX6 0)) (C := RX6) (T := TX6) (N := 2) hx hb hts hinX6 tyX6 tyX6_ok nmX6 hown hK.1 hP hD hS 0 rfl rfl 0 (by decide) (hts (.fieldLink RX6 9 "BoxesGame$Styles" "board" "LBoxesGame$Board;") (List.mem_of_getElem? (i := 4) rfl)) (fun _ h9 => h9) rfl hin rfl (by decide +kernel) (rfl) (rfl) (Nat.le_of_ble_eq_true rfl) dX6_init_6 (fun H locs hP hD hS => ?_)
  have hP : va_P D vwCl [(sq, .inr (5, [.ref bd, .null]))] H := hP
  have hD : va_D AA [(sq, .inr (5, [.ref bd, .null]))] := hD
  refine lv_aload_n (pc := 9) hx hb dX6_init_9 rfl (lv_at hl 0 rfl) ?_
  refine lv_aload_n (pc := 10) hx hb dX6_init_10 rfl (lv_at hl 2 rfl) ?_
  refine va_putF (pc := 11) (D := D) (ci := 5) (v := .ref so) (ty := (tyX6 1)) (C := RX6) (T := TX6) (N := 2) hx hb hts hinX6 tyX6 tyX6_ok nmX6 hown hK.1 hP hD hS 0 rfl rfl 1 (by decide) (hts (.fieldLink RX6 15 "BoxesGame$Styles" "solver" "LBoxesGame$Solver;") (List.mem_of_getElem? (i := 5) rfl)) (fun _ h9 => h9) rfl hin rfl (by decide +kernel) (rfl) (rfl) (Nat.le_of_ble_eq_true rfl) dX6_init_11 (fun H locs hP hD hS => ?_)
  have hP : va_P D vwCl [(sq, .inr (5, [.ref bd, .ref so]))] H := hP
  have hD : va_D AA [(sq, .inr (5, [.ref bd, .ref so]))] := hD
  subst hAA
  exact ct_vret (Nat.le_of_ble_eq_true rfl) (Nat.le_of_ble_eq_true rfl) hx hb hr hlocks hP hD hS (()) (trivial) (rfl) dX6_init_14

set_option maxHeartbeats 1200000 in
set_option maxRecDepth 100000 in
theorem c_X1_init (l : Launch) (D : va_G) (Y : vY) (ip : Nat) (bd : Nat)  (hz0 : Nat) : Ct l yX1_init wsX1_init ({ frames := 1, cells := 1, slots := 60, locals := 24 } : Room) [.ref ip, .ref bd] D Y [(ip, .inr (1, [.int (nI 0), .null, .null]))] hz0 (fun uS : Nat => [(ip, .inr (1, [.int (nI 0), .ref bd, .ref uS]))]) (fun uS : Nat => [(uS, .inl (Y.1, 60, .inl (fun _ => 0)))]) (fun uS : Nat => True) 1 60 := by
  refine ct_intro (by decide +kernel) rfl rfl (Nat.le_of_ble_eq_true rfl) [(0, .ref ip), (1, .ref bd)] rfl ?_
  intro pG eG sG mG aG bG tG cG ls hx hb hr hml hts hown hlocks hin hK hP hD hS hl
  generalize hAA : va_A [(ip, .inr (1, [.int (nI 0), .null, .null]))] sG.heap.size = AA at hD hS ⊢
  have hA : ∀ q : Nat, sG.heap.size ≤ q → AA q := fun q h => by rw [← hAA]; exact Or.inr h
  have hP : va_P D vwCl [(ip, .inr (1, [.int (nI 0), .null, .null]))] sG.heap := hP
  have hD : va_D AA [(ip, .inr (1, [.int (nI 0), .null, .null]))] := hD
  have hown : sG.vm.findClass RX1 = some mG.cls := hown
  have hl : lv_has ls 2 [(0, .ref ip), (1, .ref bd)] := hl
  have hinX1 : ∀ w ∈ u_ws RX1 TX1 3, w ∈ wsX1_init := by decide +kernel
  have hS : va_S AA sG.heap sG.heap [] := hS
  refine lv_aload_n (pc := 0) hx hb dX1_init_0 rfl (lv_at hl 0 rfl) ?_
  refine W.objInit hx hb hown (hts (.methodLink RX1 3 objectInit) (List.mem_of_getElem? (i := 1) rfl)) (hts (.instanceMethod objectInit) (List.mem_of_getElem? (i := 2) rfl)) (hts (.code objectInit ⟨#[0xb1]⟩ 1 none) (List.mem_of_getElem? (i := 3) rfl)) rfl (by rw [hml]; exact hl.1) rfl dX1_init_1 (Nat.le_of_ble_eq_true rfl) (Nat.le_of_ble_eq_true rfl) ?_
  refine lv_aload_n (pc := 4) hx hb dX1_init_4 rfl (lv_at hl 0 rfl) ?_
  refine lv_bipush (pc := 5) (v := nI 60) hx hb dX1_init_5 rfl ?_
  refine n_newaI (pc := 7) (N := 60) hx hb (hts (.arrayClass .int) (List.mem_of_getElem? (i := 4) rfl)) hK hP hD hS hA (Nat.le_of_ble_eq_true rfl) (Nat.le_of_ble_eq_true rfl) (Nat.le_of_ble_eq_true rfl) dX1_init_7 (fun q7 H hP hD hS => ?_)
  have hP : va_P D vwCl [(ip, .inr (1, [.int (nI 0), .null, .null])), (q7, .inl (Y.1, 60, .inl (fun _ => 0)))] H := hP
  have hD : va_D AA [(ip, .inr (1, [.int (nI 0), .null, .null])), (q7, .inl (Y.1, 60, .inl (fun _ => 0)))] := hD
  refine va_putF (pc := 9) (D := D) (ci := 1) (v := .ref q7) (ty := (tyX1 2)) (C := RX1) (T := TX1) (N := 3) hx hb hts hinX1 tyX1 tyX1_ok nmX1 hown hK.1 hP hD hS 0 rfl rfl 2 (by decide) (hts (.fieldLink RX1 9 "BoxesGame$Input" "codes" "[I") (List.mem_of_getElem? (i := 5) rfl)) (fun _ h9 => h9) rfl hin rfl (by decide +kernel) (rfl) (rfl) (Nat.le_of_ble_eq_true rfl) dX1_init_9 (fun H locs hP hD hS => ?_)
  have hP : va_P D vwCl [(ip, .inr (1, [.int (nI 0), .null, .ref q7])), (q7, .inl (Y.1, 60, .inl (fun _ => 0)))] H := hP
  have hD : va_D AA [(ip, .inr (1, [.int (nI 0), .null, .ref q7])), (q7, .inl (Y.1, 60, .inl (fun _ => 0)))] := hD
  refine lv_aload_n (pc := 12) hx hb dX1_init_12 rfl (lv_at hl 0 rfl) ?_
  refine lv_aload_n (pc := 13) hx hb dX1_init_13 rfl (lv_at hl 1 rfl) ?_
  refine va_putF (pc := 14) (D := D) (ci := 1) (v := .ref bd) (ty := (tyX1 1)) (C := RX1) (T := TX1) (N := 3) hx hb hts hinX1 tyX1 tyX1_ok nmX1 hown hK.1 hP hD hS 0 rfl rfl 1 (by decide) (hts (.fieldLink RX1 15 "BoxesGame$Input" "board" "LBoxesGame$Board;") (List.mem_of_getElem? (i := 6) rfl)) (fun _ h9 => h9) rfl hin rfl (by decide +kernel) (rfl) (rfl) (Nat.le_of_ble_eq_true rfl) dX1_init_14 (fun H locs hP hD hS => ?_)
  have hP : va_P D vwCl [(ip, .inr (1, [.int (nI 0), .ref bd, .ref q7])), (q7, .inl (Y.1, 60, .inl (fun _ => 0)))] H := hP
  have hD : va_D AA [(ip, .inr (1, [.int (nI 0), .ref bd, .ref q7])), (q7, .inl (Y.1, 60, .inl (fun _ => 0)))] := hD
  subst hAA
  exact ct_vret (Nat.le_of_ble_eq_true rfl) (Nat.le_of_ble_eq_true rfl) hx hb hr hlocks hP hD hS (_) (trivial) (rfl) dX1_init_17
