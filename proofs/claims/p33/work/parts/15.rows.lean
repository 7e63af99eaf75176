set_option maxHeartbeats 1200000 in
set_option maxRecDepth 100000 in
theorem c_X3_at (l : Launch) (D : va_G) (Y : vY) (n : Nat) (f : Nat → Int32) (q : Nat) (x : Int32) (hn : n < 2 ^ 31) : Ro l yX3_at wsX3_at ({ frames := 0, cells := 0, slots := 0, locals := 0 } : Room) [.ref q, .int x] D Y [(q, .inl (Y.1, n, .inl f))] (some (.int (atI n f x))) := by
  refine ro_intro (by decide +kernel) rfl (Nat.le_of_ble_eq_true rfl) [(0, .ref q), (1, .int x)] rfl ?_
  intro pG eG sG mG aG bG tG cG ls hx hb hr hml hts hown hlocks hK hP hl
  have hP : va_P D vwCl [(q, .inl (Y.1, n, .inl f))] sG.heap := hP
  have hown : sG.vm.findClass RX3 = some mG.cls := hown
  have hl : lv_has ls 2 [(0, .ref q), (1, .int x)] := hl
  refine lv_iload_n (pc := 0) hx hb dX3_at_0 rfl (lv_at hl 1 rfl) ?_
  refine lv_if_lt (pc := 1) (tgt := 16) hx hb dX3_at_1 (by decide) (fun c1 => ?_) (fun c1 => ?_)
  · refine lv_iconst (pc := 16) (v := (-1)) hx hb dX3_at_16 (by decide) ?_
    exact ro_iret (v := (-1)) hx hb hr hlocks (by first | exact atI_c c1 c7 | exact atI_o (Or.inl c1) | exact atI_o (Or.inr c7)) dX3_at_17
  refine lv_iload_n (pc := 4) hx hb dX3_at_4 rfl (lv_at hl 1 rfl) ?_
  refine lv_aload_n (pc := 5) hx hb dX3_at_5 rfl (lv_at hl 0 rfl) ?_
  refine va_alen (pc := 6) (v := nI n) hx hb hK.1 hP 0 0 rfl rfl rfl dX3_at_6 ?_
  refine lv_icmp_ge (pc := 7) (tgt := 16) hx hb dX3_at_7 (by decide) (fun c7 => ?_) (fun c7 => ?_)
  · refine lv_iconst (pc := 16) (v := (-1)) hx hb dX3_at_16 (by decide) ?_
    exact ro_iret (v := (-1)) hx hb hr hlocks (by first | exact atI_c c1 c7 | exact atI_o (Or.inl c1) | exact atI_o (Or.inr c7)) dX3_at_17
  refine lv_aload_n (pc := 10) hx hb dX3_at_10 rfl (lv_at hl 0 rfl) ?_
  refine lv_iload_n (pc := 11) hx hb dX3_at_11 rfl (lv_at hl 1 rfl) ?_
  refine va_iald (pc := 12) hx hb hK.1 hP 0 0 rfl rfl (vp_in_c hn c1 c7) dX3_at_12 ?_
  refine lv_goto (pc := 13) (tgt := 17) hx hb dX3_at_13 (by decide) ?_
  exact ro_iret (v := f (x).toNatClampNeg) hx hb hr hlocks (by first | exact atI_c c1 c7 | exact atI_o (Or.inl c1) | exact atI_o (Or.inr c7)) dX3_at_17

theorem c_X3_at_in (l : Launch) (D : va_G) (Y : vY) (n : Nat) (f : Nat → Int32) (q : Nat) (i : Nat) (hn : n < 2 ^ 31) (hi : i < n) : Ro l yX3_at wsX3_at ({ frames := 0, cells := 0, slots := 0, locals := 0 } : Room) [.ref q, .int (nI i)] D Y [(q, .inl (Y.1, n, .inl f))] (some (.int (f i))) := by
  have h := c_X3_at l D Y n f q (nI i) hn
  rwa [atI_in hi hn] at h

set_option maxHeartbeats 1200000 in
set_option maxRecDepth 100000 in
theorem c_X3_at_ (l : Launch) (D : va_G) (Y : vY) (n : Nat) (f : Nat → Int64) (q : Nat) (x : Int32) (hn : n < 2 ^ 31) : Ro l yX3_at_ wsX3_at_ ({ frames := 0, cells := 0, slots := 0, locals := 0 } : Room) [.ref q, .int x] D Y [(q, .inl (Y.2.1, n, .inr (.inl f)))] (some (.long (atL n f x))) := by
  refine ro_intro (by decide +kernel) rfl (Nat.le_of_ble_eq_true rfl) [(0, .ref q), (1, .int x)] rfl ?_
  intro pG eG sG mG aG bG tG cG ls hx hb hr hml hts hown hlocks hK hP hl
  have hP : va_P D vwCl [(q, .inl (Y.2.1, n, .inr (.inl f)))] sG.heap := hP
  have hown : sG.vm.findClass RX3 = some mG.cls := hown
  have hl : lv_has ls 2 [(0, .ref q), (1, .int x)] := hl
  refine lv_iload_n (pc := 0) hx hb dX3_at__0 rfl (lv_at hl 1 rfl) ?_
  refine lv_if_lt (pc := 1) (tgt := 16) hx hb dX3_at__1 (by decide) (fun c1 => ?_) (fun c1 => ?_)
  · refine lv_lconst (pc := 16) (v := 0) hx hb dX3_at__16 (by decide) ?_
    exact ro_lret (v := (0 : Int64)) hx hb hr hlocks (by first | exact atL_c c1 c7 | exact atL_o (Or.inl c1) | exact atL_o (Or.inr c7)) dX3_at__17
  refine lv_iload_n (pc := 4) hx hb dX3_at__4 rfl (lv_at hl 1 rfl) ?_
  refine lv_aload_n (pc := 5) hx hb dX3_at__5 rfl (lv_at hl 0 rfl) ?_
  refine va_alen (pc := 6) (v := nI n) hx hb hK.1 hP 0 1 rfl rfl rfl dX3_at__6 ?_
  refine lv_icmp_ge (pc := 7) (tgt := 16) hx hb dX3_at__7 (by decide) (fun c7 => ?_) (fun c7 => ?_)
  · refine lv_lconst (pc := 16) (v := 0) hx hb dX3_at__16 (by decide) ?_
    exact ro_lret (v := (0 : Int64)) hx hb hr hlocks (by first | exact atL_c c1 c7 | exact atL_o (Or.inl c1) | exact atL_o (Or.inr c7)) dX3_at__17
  refine lv_aload_n (pc := 10) hx hb dX3_at__10 rfl (lv_at hl 0 rfl) ?_
  refine lv_iload_n (pc := 11) hx hb dX3_at__11 rfl (lv_at hl 1 rfl) ?_
  refine va_lald (pc := 12) hx hb hK.1 hP 0 1 rfl rfl (vp_in_c hn c1 c7) dX3_at__12 ?_
  refine lv_goto (pc := 13) (tgt := 17) hx hb dX3_at__13 (by decide) ?_
  exact ro_lret (v := f (x).toNatClampNeg) hx hb hr hlocks (by first | exact atL_c c1 c7 | exact atL_o (Or.inl c1) | exact atL_o (Or.inr c7)) dX3_at__17

theorem c_X3_at__in (l : Launch) (D : va_G) (Y : vY) (n : Nat) (f : Nat → Int64) (q : Nat) (i : Nat) (hn : n < 2 ^ 31) (hi : i < n) : Ro l yX3_at_ wsX3_at_ ({ frames := 0, cells := 0, slots := 0, locals := 0 } : Room) [.ref q, .int (nI i)] D Y [(q, .inl (Y.2.1, n, .inr (.inl f)))] (some (.long (f i))) := by
  have h := c_X3_at_ l D Y n f q (nI i) hn
  rwa [atL_in hi hn] at h

set_option maxHeartbeats 1200000 in
set_option maxRecDepth 100000 in
theorem c_X3_put (l : Launch) (D : va_G) (Y : vY) (n : Nat) (f : Nat → Int32) (q : Nat) (x : Int32) (v : Int32) (hn : n < 2 ^ 31) : Mu l yX3_put wsX3_put ({ frames := 0, cells := 0, slots := 0, locals := 0 } : Room) [.ref q, .int x, .int v] D Y [(q, .inl (Y.1, n, .inl f))] (fun _ : Unit => none) (fun _ : Unit => [(q, .inl (Y.1, n, .inl (putI n f x v)))]) (fun _ : Unit => True) := by
  refine mu_intro (by decide +kernel) rfl (Nat.le_of_ble_eq_true rfl) [(0, .ref q), (1, .int x), (2, .int v)] rfl ?_
  intro pG eG sG mG aG bG tG cG ls hx hb hr hml hts hown hlocks hK hP hD hS hl
  generalize hAA : adA [(q, .inl (Y.1, n, .inl f))] = AA at hD hS ⊢
  have hP : va_P D vwCl [(q, .inl (Y.1, n, .inl f))] sG.heap := hP
  have hD : va_D AA [(q, .inl (Y.1, n, .inl f))] := hD
  have hown : sG.vm.findClass RX3 = some mG.cls := hown
  have hl : lv_has ls 3 [(0, .ref q), (1, .int x), (2, .int v)] := hl
  have hS : va_S AA sG.heap sG.heap [] := hS
  refine lv_iload_n (pc := 0) hx hb dX3_put_0 rfl (lv_at hl 1 rfl) ?_
  refine lv_if_lt (pc := 1) (tgt := 14) hx hb dX3_put_1 (by decide) (fun c1 => ?_) (fun c1 => ?_)
  · subst hAA
    exact mu_vret hx hb hr hlocks hP hS (()) (rfl) (trivial) (by first | rw [← putI_c c1 c7] | rw [← putI_o (Or.inl c1)] | rw [← putI_o (Or.inr c7)]) dX3_put_14
  refine lv_iload_n (pc := 4) hx hb dX3_put_4 rfl (lv_at hl 1 rfl) ?_
  refine lv_aload_n (pc := 5) hx hb dX3_put_5 rfl (lv_at hl 0 rfl) ?_
  refine va_alen (pc := 6) (v := nI n) hx hb hK.1 hP 0 0 rfl rfl rfl dX3_put_6 ?_
  refine lv_icmp_ge (pc := 7) (tgt := 14) hx hb dX3_put_7 (by decide) (fun c7 => ?_) (fun c7 => ?_)
  · subst hAA
    exact mu_vret hx hb hr hlocks hP hS (()) (rfl) (trivial) (by first | rw [← putI_c c1 c7] | rw [← putI_o (Or.inl c1)] | rw [← putI_o (Or.inr c7)]) dX3_put_14
  refine lv_aload_n (pc := 10) hx hb dX3_put_10 rfl (lv_at hl 0 rfl) ?_
  refine lv_iload_n (pc := 11) hx hb dX3_put_11 rfl (lv_at hl 1 rfl) ?_
  refine lv_iload_n (pc := 12) hx hb dX3_put_12 rfl (lv_at hl 2 rfl) ?_
  refine va_iast (pc := 13) hx hb hK.1 hP hD hS 0 0 rfl rfl (vp_in_c hn c1 c7) dX3_put_13 (fun H locs hP hD hS => ?_)
  have hP : va_P D vwCl [(q, .inl (Y.1, n, .inl (upd f (x).toNatClampNeg v)))] H := hP
  have hD : va_D AA [(q, .inl (Y.1, n, .inl (upd f (x).toNatClampNeg v)))] := hD
  subst hAA
  exact mu_vret hx hb hr hlocks hP hS (()) (rfl) (trivial) (by first | rw [← putI_c c1 c7] | rw [← putI_o (Or.inl c1)] | rw [← putI_o (Or.inr c7)]) dX3_put_14

theorem c_X3_put_in (l : Launch) (D : va_G) (Y : vY) (n : Nat) (f : Nat → Int32) (q : Nat) (i : Nat) (v : Int32) (hn : n < 2 ^ 31) (hi : i < n) : Mu l yX3_put wsX3_put ({ frames := 0, cells := 0, slots := 0, locals := 0 } : Room) [.ref q, .int (nI i), .int v] D Y [(q, .inl (Y.1, n, .inl f))] (fun _ : Unit => none) (fun _ : Unit => [(q, .inl (Y.1, n, .inl (upd f i v)))]) (fun _ : Unit => True) := by
  have h := c_X3_put l D Y n f q (nI i) v hn
  rwa [putI_in hi hn] at h

set_option maxHeartbeats 1200000 in
set_option maxRecDepth 100000 in
theorem c_X3_put_ (l : Launch) (D : va_G) (Y : vY) (n : Nat) (f : Nat → Int64) (q : Nat) (x : Int32) (v : Int64) (hn : n < 2 ^ 31) : Mu l yX3_put_ wsX3_put_ ({ frames := 0, cells := 0, slots := 0, locals := 0 } : Room) [.ref q, .int x, .long v] D Y [(q, .inl (Y.2.1, n, .inr (.inl f)))] (fun _ : Unit => none) (fun _ : Unit => [(q, .inl (Y.2.1, n, .inr (.inl (putL n f x v))))]) (fun _ : Unit => True) := by
  refine mu_intro (by decide +kernel) rfl (Nat.le_of_ble_eq_true rfl) [(0, .ref q), (1, .int x), (2, .long v)] rfl ?_
  intro pG eG sG mG aG bG tG cG ls hx hb hr hml hts hown hlocks hK hP hD hS hl
  generalize hAA : adA [(q, .inl (Y.2.1, n, .inr (.inl f)))] = AA at hD hS ⊢
  have hP : va_P D vwCl [(q, .inl (Y.2.1, n, .inr (.inl f)))] sG.heap := hP
  have hD : va_D AA [(q, .inl (Y.2.1, n, .inr (.inl f)))] := hD
  have hown : sG.vm.findClass RX3 = some mG.cls := hown
  have hl : lv_has ls 4 [(0, .ref q), (1, .int x), (2, .long v)] := hl
  have hS : va_S AA sG.heap sG.heap [] := hS
  refine lv_iload_n (pc := 0) hx hb dX3_put__0 rfl (lv_at hl 1 rfl) ?_
  refine lv_if_lt (pc := 1) (tgt := 14) hx hb dX3_put__1 (by decide) (fun c1 => ?_) (fun c1 => ?_)
  · subst hAA
    exact mu_vret hx hb hr hlocks hP hS (()) (rfl) (trivial) (by first | rw [← putL_c c1 c7] | rw [← putL_o (Or.inl c1)] | rw [← putL_o (Or.inr c7)]) dX3_put__14
  refine lv_iload_n (pc := 4) hx hb dX3_put__4 rfl (lv_at hl 1 rfl) ?_
  refine lv_aload_n (pc := 5) hx hb dX3_put__5 rfl (lv_at hl 0 rfl) ?_
  refine va_alen (pc := 6) (v := nI n) hx hb hK.1 hP 0 1 rfl rfl rfl dX3_put__6 ?_
  refine lv_icmp_ge (pc := 7) (tgt := 14) hx hb dX3_put__7 (by decide) (fun c7 => ?_) (fun c7 => ?_)
  · subst hAA
    exact mu_vret hx hb hr hlocks hP hS (()) (rfl) (trivial) (by first | rw [← putL_c c1 c7] | rw [← putL_o (Or.inl c1)] | rw [← putL_o (Or.inr c7)]) dX3_put__14
  refine lv_aload_n (pc := 10) hx hb dX3_put__10 rfl (lv_at hl 0 rfl) ?_
  refine lv_iload_n (pc := 11) hx hb dX3_put__11 rfl (lv_at hl 1 rfl) ?_
  refine lv_lload_n (pc := 12) hx hb dX3_put__12 rfl (lv_at hl 2 rfl) ?_
  refine va_last (pc := 13) hx hb hK.1 hP hD hS 0 1 rfl rfl (vp_in_c hn c1 c7) dX3_put__13 (fun H locs hP hD hS => ?_)
  have hP : va_P D vwCl [(q, .inl (Y.2.1, n, .inr (.inl (vp_updL f (x).toNatClampNeg v))))] H := hP
  have hD : va_D AA [(q, .inl (Y.2.1, n, .inr (.inl (vp_updL f (x).toNatClampNeg v))))] := hD
  subst hAA
  exact mu_vret hx hb hr hlocks hP hS (()) (rfl) (trivial) (by first | rw [← putL_c c1 c7] | rw [← putL_o (Or.inl c1)] | rw [← putL_o (Or.inr c7)]) dX3_put__14

theorem c_X3_put__in (l : Launch) (D : va_G) (Y : vY) (n : Nat) (f : Nat → Int64) (q : Nat) (i : Nat) (v : Int64) (hn : n < 2 ^ 31) (hi : i < n) : Mu l yX3_put_ wsX3_put_ ({ frames := 0, cells := 0, slots := 0, locals := 0 } : Room) [.ref q, .int (nI i), .long v] D Y [(q, .inl (Y.2.1, n, .inr (.inl f)))] (fun _ : Unit => none) (fun _ : Unit => [(q, .inl (Y.2.1, n, .inr (.inl (vp_updL f i v))))]) (fun _ : Unit => True) := by
  have h := c_X3_put_ l D Y n f q (nI i) v hn
  rwa [putL_in hi hn] at h

set_option maxHeartbeats 1200000 in
set_option maxRecDepth 100000 in
theorem c_J13_bitCount_95d88 (l : Launch) (D : va_G) (Y : vY) (w : Int64)  : Ro l yJ13_bitCount_95d88 wsJ13_bitCount_95d88 ({ frames := 0, cells := 0, slots := 0, locals := 0 } : Room) [.long w] D Y [] (some (.int (nI (pop w)))) := by
  refine ro_intro (by decide +kernel) rfl (Nat.le_of_ble_eq_true rfl) [(0, .long w)] rfl ?_
  intro pG eG sG mG aG bG tG cG ls hx hb hr hml hts hown hlocks hK hP hl
  have hP : va_P D vwCl [] sG.heap := hP
  have hown : sG.vm.findClass RJ13 = some mG.cls := hown
  have hl : lv_has ls 2 [(0, .long w)] := hl
  refine lv_lload_n (pc := 0) hx hb dJ13_bitCount_95d88_0 rfl (lv_at hl 0 rfl) ?_
  refine lv_lload_n (pc := 1) hx hb dJ13_bitCount_95d88_1 rfl (lv_at hl 0 rfl) ?_
  refine lv_iconst (pc := 2) (v := nI 1) hx hb dJ13_bitCount_95d88_2 rfl ?_
  refine lv_lushr (pc := 3) hx hb dJ13_bitCount_95d88_3 rfl ?_
  refine lv_ldc2 (pc := 4) hx hb hown (hts (.constantLong RJ13 314 (6148914691236517205)) (List.mem_of_getElem? (i := 1) rfl)) dJ13_bitCount_95d88_4 ?_
  refine lv_land (pc := 7) hx hb dJ13_bitCount_95d88_7 ?_
  refine lv_lsub (pc := 8) hx hb dJ13_bitCount_95d88_8 ?_
  refine lv_topl (fun a1 ea1 => ?_)
  refine lv_lstore_n (pc := 9) (lv' := [(0, .long a1)]) hx hb dJ13_bitCount_95d88_9 rfl hl (by decide) rfl (fun ls hl => ?_)
  refine lv_lload_n (pc := 10) hx hb dJ13_bitCount_95d88_10 rfl (lv_at hl 0 rfl) ?_
  refine lv_ldc2 (pc := 11) hx hb hown (hts (.constantLong RJ13 316 (3689348814741910323)) (List.mem_of_getElem? (i := 2) rfl)) dJ13_bitCount_95d88_11 ?_
  refine lv_land (pc := 14) hx hb dJ13_bitCount_95d88_14 ?_
  refine lv_lload_n (pc := 15) hx hb dJ13_bitCount_95d88_15 rfl (lv_at hl 0 rfl) ?_
  refine lv_iconst (pc := 16) (v := nI 2) hx hb dJ13_bitCount_95d88_16 rfl ?_
  refine lv_lushr (pc := 17) hx hb dJ13_bitCount_95d88_17 rfl ?_
  refine lv_ldc2 (pc := 18) hx hb hown (hts (.constantLong RJ13 316 (3689348814741910323)) (List.mem_of_getElem? (i := 2) rfl)) dJ13_bitCount_95d88_18 ?_
  refine lv_land (pc := 21) hx hb dJ13_bitCount_95d88_21 ?_
  refine lv_ladd (pc := 22) hx hb dJ13_bitCount_95d88_22 ?_
  refine lv_topl (fun a2 ea2 => ?_)
  refine lv_lstore_n (pc := 23) (lv' := [(0, .long a2)]) hx hb dJ13_bitCount_95d88_23 rfl hl (by decide) rfl (fun ls hl => ?_)
  refine lv_lload_n (pc := 24) hx hb dJ13_bitCount_95d88_24 rfl (lv_at hl 0 rfl) ?_
  refine lv_lload_n (pc := 25) hx hb dJ13_bitCount_95d88_25 rfl (lv_at hl 0 rfl) ?_
  refine lv_iconst (pc := 26) (v := nI 4) hx hb dJ13_bitCount_95d88_26 rfl ?_
  refine lv_lushr (pc := 27) hx hb dJ13_bitCount_95d88_27 rfl ?_
  refine lv_ladd (pc := 28) hx hb dJ13_bitCount_95d88_28 ?_
  refine lv_ldc2 (pc := 29) hx hb hown (hts (.constantLong RJ13 318 (1085102592571150095)) (List.mem_of_getElem? (i := 3) rfl)) dJ13_bitCount_95d88_29 ?_
  refine lv_land (pc := 32) hx hb dJ13_bitCount_95d88_32 ?_
  refine lv_topl (fun a3 ea3 => ?_)
  refine lv_lstore_n (pc := 33) (lv' := [(0, .long a3)]) hx hb dJ13_bitCount_95d88_33 rfl hl (by decide) rfl (fun ls hl => ?_)
  refine lv_lload_n (pc := 34) hx hb dJ13_bitCount_95d88_34 rfl (lv_at hl 0 rfl) ?_
  refine lv_lload_n (pc := 35) hx hb dJ13_bitCount_95d88_35 rfl (lv_at hl 0 rfl) ?_
  refine lv_bipush (pc := 36) (v := nI 8) hx hb dJ13_bitCount_95d88_36 rfl ?_
  refine lv_lushr (pc := 38) hx hb dJ13_bitCount_95d88_38 rfl ?_
  refine lv_ladd (pc := 39) hx hb dJ13_bitCount_95d88_39 ?_
  refine lv_topl (fun a4 ea4 => ?_)
  refine lv_lstore_n (pc := 40) (lv' := [(0, .long a4)]) hx hb dJ13_bitCount_95d88_40 rfl hl (by decide) rfl (fun ls hl => ?_)
  refine lv_lload_n (pc := 41) hx hb dJ13_bitCount_95d88_41 rfl (lv_at hl 0 rfl) ?_
  refine lv_lload_n (pc := 42) hx hb dJ13_bitCount_95d88_42 rfl (lv_at hl 0 rfl) ?_
  refine lv_bipush (pc := 43) (v := nI 16) hx hb dJ13_bitCount_95d88_43 rfl ?_
  refine lv_lushr (pc := 45) hx hb dJ13_bitCount_95d88_45 rfl ?_
  refine lv_ladd (pc := 46) hx hb dJ13_bitCount_95d88_46 ?_
  refine lv_topl (fun a5 ea5 => ?_)
  refine lv_lstore_n (pc := 47) (lv' := [(0, .long a5)]) hx hb dJ13_bitCount_95d88_47 rfl hl (by decide) rfl (fun ls hl => ?_)
  refine lv_lload_n (pc := 48) hx hb dJ13_bitCount_95d88_48 rfl (lv_at hl 0 rfl) ?_
  refine lv_lload_n (pc := 49) hx hb dJ13_bitCount_95d88_49 rfl (lv_at hl 0 rfl) ?_
  refine lv_bipush (pc := 50) (v := nI 32) hx hb dJ13_bitCount_95d88_50 rfl ?_
  refine lv_lushr (pc := 52) hx hb dJ13_bitCount_95d88_52 rfl ?_
  refine lv_ladd (pc := 53) hx hb dJ13_bitCount_95d88_53 ?_
  refine lv_topl (fun a6 ea6 => ?_)
  refine lv_lstore_n (pc := 54) (lv' := [(0, .long a6)]) hx hb dJ13_bitCount_95d88_54 rfl hl (by decide) rfl (fun ls hl => ?_)
  refine lv_lload_n (pc := 55) hx hb dJ13_bitCount_95d88_55 rfl (lv_at hl 0 rfl) ?_
  refine lv_l2i (pc := 56) hx hb dJ13_bitCount_95d88_56 rfl ?_
  refine lv_bipush (pc := 57) (v := nI 127) hx hb dJ13_bitCount_95d88_57 rfl ?_
  refine lv_iand (pc := 59) hx hb dJ13_bitCount_95d88_59 ?_
  exact ro_iret (v := ((a6).toInt32) &&& (nI 127)) hx hb hr hlocks (pop_swar ea1 ea2 ea3 ea4 ea5 ea6) dJ13_bitCount_95d88_60

set_option maxHeartbeats 1200000 in
set_option maxRecDepth 100000 in
theorem c_X8_bit (l : Launch) (D : va_G) (Y : vY) (x : Int32)  : Ro l yX8_bit wsX8_bit ({ frames := 0, cells := 0, slots := 0, locals := 0 } : Room) [.int x] D Y [] (some (.long (bitI x))) := by
  refine ro_intro (by decide +kernel) rfl (Nat.le_of_ble_eq_true rfl) [(0, .int x)] rfl ?_
  intro pG eG sG mG aG bG tG cG ls hx hb hr hml hts hown hlocks hK hP hl
  have hP : va_P D vwCl [] sG.heap := hP
  have hown : sG.vm.findClass RX8 = some mG.cls := hown
  have hl : lv_has ls 1 [(0, .int x)] := hl
  refine lv_lconst (pc := 0) (v := 1) hx hb dX8_bit_0 (by decide) ?_
  refine lv_iload_n (pc := 1) hx hb dX8_bit_1 rfl (lv_at hl 0 rfl) ?_
  refine lv_lshl (pc := 2) hx hb dX8_bit_2 rfl ?_
  exact ro_lret (v := (1 : Int64) <<< ((x).toInt64 &&& 63)) hx hb hr hlocks (rfl) dX8_bit_3

theorem c_X8_bit_in (l : Launch) (D : va_G) (Y : vY) (k : Nat) (hk : k < 64) : Ro l yX8_bit wsX8_bit ({ frames := 0, cells := 0, slots := 0, locals := 0 } : Room) [.int (nI k)] D Y [] (some (.long (b1 k))) := by
  have h := c_X8_bit l D Y (nI k)
  rwa [bitI_nI hk] at h

set_option maxHeartbeats 1200000 in
set_option maxRecDepth 100000 in
theorem c_X8_contains (l : Launch) (D : va_G) (Y : vY) (w : Int64) (k : Nat) (hk : k < 64) : Ro l yX8_contains wsX8_contains ({ frames := 1, cells := 0, slots := 0, locals := 20 } : Room) [.long w, .int (nI k)] D Y [] (some (.int (zb (tb w k)))) := by
  refine ro_intro (by decide +kernel) rfl (Nat.le_of_ble_eq_true rfl) [(0, .long w), (2, .int (nI k))] rfl ?_
  intro pG eG sG mG aG bG tG cG ls hx hb hr hml hts hown hlocks hK hP hl
  have hP : va_P D vwCl [] sG.heap := hP
  have hown : sG.vm.findClass RX8 = some mG.cls := hown
  have hl : lv_has ls 3 [(0, .long w), (2, .int (nI k))] := hl
  refine lv_lload_n (pc := 0) hx hb dX8_contains_0 rfl (lv_at hl 0 rfl) ?_
  refine lv_iload_n (pc := 1) hx hb dX8_contains_1 rfl (lv_at hl 1 rfl) ?_
  refine ro_go (pc := 2) (va_runS (As := [.int (nI k)]) (rest := [.long w]) ⟨hx, hb, hml, hown, hts⟩ (c_X8_bit_in l D Y k (hk)) (va_cwS 1 hts gX8_contains_X8_bit rfl rfl rfl hdX8_bit ⟨Nat.le_of_ble_eq_true rfl, Nat.le_of_ble_eq_true rfl⟩) (ro_pS hK hP) rfl rfl hl.1 rfl (lv_room (Nat.le_of_ble_eq_true rfl)) dX8_contains_2 ⟨Nat.le_of_ble_eq_true rfl, Nat.le_of_ble_eq_true rfl⟩) ?_
  refine lv_land (pc := 5) hx hb dX8_contains_5 ?_
  refine lv_lconst (pc := 6) (v := 0) hx hb dX8_contains_6 (by decide) ?_
  refine W.lcmp (pc := 7) hx hb dX8_contains_7 ?_
  refine lc_if_eq (pc := 8) (tgt := 15) hx hb dX8_contains_8 (by decide) (fun c8 => ?_) (fun c8 => ?_)
  · refine lv_iconst (pc := 15) (v := nI 0) hx hb dX8_contains_15 rfl ?_
    exact ro_zret hx hb hr hlocks (zb_0 (by first | exact (and_b1_ne hk).mp c8 | exact Bool.eq_false_iff.mpr (fun q => (and_b1_ne hk).mpr q c8))) dX8_contains_16
  refine lv_iconst (pc := 11) (v := nI 1) hx hb dX8_contains_11 rfl ?_
  refine lv_goto (pc := 12) (tgt := 16) hx hb dX8_contains_12 (by decide) ?_
  exact ro_zret hx hb hr hlocks (zb_1 (by first | exact (and_b1_ne hk).mp c8 | exact Bool.eq_false_iff.mpr (fun q => (and_b1_ne hk).mpr q c8))) dX8_contains_16
