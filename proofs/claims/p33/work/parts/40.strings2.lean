set_option maxHeartbeats 1200000 in
set_option maxRecDepth 100000 in
theorem c_X5_countWith (l : Launch) (D : va_G) (Y : vY) (sg : Nat) (bd : Nat) (o8 : Nat) (o9 : Nat) (o10 : Nat) (o11 : Nat) (o12 : Nat) (o13 : Nat) (o14 : Nat) (o15 : Nat) (tx : Int32) (tq : Int64) (sn : Int64) (kn : Bool) (pr : Bool) (pq : Int32) (sz : Nat → Int32) (op : Nat → Int32) (di : Nat → Int32) (li : Nat → Int64) (c : Nat) (r : Nat) (w : Int64) (d : Nat) (hC : Cr c r) (hd8 : d ≤ 8) (hfi : FinOK c r w (nst c r w) sz op di li) : Ro l yX5_countWith wsX5_countWith ({ frames := 1, cells := 0, slots := 0, locals := 21 } : Room) [.ref sg, .int (nI d)] D Y [(sg, .inr (4, [.int (nI (nst c r w)), .int tx, .long tq, .long sn, .int (zb kn), .int (zb pr), .int pq, .ref bd, .ref o8, .ref o9, .ref o10, .ref o11, .ref o12, .ref o13, .ref o14, .ref o15])), (o12, .inl (Y.1, 16, .inl di))] (some (.int (nI (cwd c r w d)))) := by
  refine ro_intro (by decide +kernel) rfl (Nat.le_of_ble_eq_true rfl) [(0, .ref sg), (1, .int (nI d))] rfl ?_
  intro pG eG sG mG aG bG tG cG ls hx hb hr hml hts hown hlocks hK hP hl
  have hP : va_P D vwCl [(sg, .inr (4, [.int (nI (nst c r w)), .int tx, .long tq, .long sn, .int (zb kn), .int (zb pr), .int pq, .ref bd, .ref o8, .ref o9, .ref o10, .ref o11, .ref o12, .ref o13, .ref o14, .ref o15])), (o12, .inl (Y.1, 16, .inl di))] sG.heap := hP
  have hown : sG.vm.findClass RX5 = some mG.cls := hown
  have hl : lv_has ls 4 [(0, .ref sg), (1, .int (nI d))] := hl
  have hinX5 : ∀ w ∈ u_ws RX5 TX5 16, w ∈ wsX5_countWith := by decide +kernel
  obtain ⟨hq1, hq2, hq3, hq4, hq5, hq6, hq7, hq8, hq9, hq10, hq11⟩ := hC.q
  have hns := nst_le c r w
  refine lv_iconst (pc := 0) (v := nI 0) hx hb dX5_countWith_0 rfl ?_
  refine lv_istore_n (pc := 1) (lv' := [(2, .int (nI 0)), (0, .ref sg), (1, .int (nI d))]) hx hb dX5_countWith_1 rfl hl (by decide) rfl (fun ls hl => ?_)
  refine lv_iconst (pc := 2) (v := nI 0) hx hb dX5_countWith_2 rfl ?_
  refine lv_istore_n (pc := 3) (lv' := [(3, .int (nI 0)), (2, .int (nI 0)), (0, .ref sg), (1, .int (nI d))]) hx hb dX5_countWith_3 rfl hl (by decide) rfl (fun ls hl => ?_)
  have L4 : ∀ (n4 : Nat), ∀ (i : Nat) (n : Nat), (i ≤ nst c r w) → (n = fb_ct (fun k => decide (sdis c r w k = d)) i) → nst c r w - i < n4 → ∀ (ls : Array Slot), lv_has ls 4 [(0, .ref sg), (1, .int (nI d)), (2, .int (nI n)), (3, .int (nI i))] → W pG l eG ({ frames := 1, cells := 0, slots := 0, locals := 21 } : Room) sG mG aG bG tG cG sG.heap [] 0 0 (MQ bG (RoQ (some (.int (nI (cwd c r w d))))) aG sG 0 0 (fun _ => False)) (F0 mG 4 ls []) := by
    intro n4
    induction n4 with
    | zero =>
      intro i n hi hn hmeas4  ls hl
      exact absurd hmeas4 (Nat.not_lt_zero _)
    | succ n4 ih4 =>
      intro i n hi hn hmeas4  ls hl
      refine lv_iload_n (pc := 4) hx hb dX5_countWith_4 rfl (lv_at hl 3 rfl) ?_
      refine lv_aload_n (pc := 5) hx hb dX5_countWith_5 rfl (lv_at hl 0 rfl) ?_
      refine va_get (pc := 6) (D := D) (ci := 4) (v := .int (nI (nst c r w))) (C := RX5) (T := TX5) (N := 16) hx hb hts hinX5 hown hK.1 hP 0 rfl rfl 0 (by decide) (hts (.fieldLink RX5 56 "BoxesGame$Strings" "amount" "I") (List.mem_of_getElem? (i := 1) rfl)) (fun _ h9 => h9) rfl dX5_countWith_6 ?_
      refine n_icmp_ge (pc := 9) (tgt := 33) hx hb (by omega) (by omega) dX5_countWith_9 (by decide) (fun c9 => ?_) (fun c9 => ?_)
      · refine lv_iload_n (pc := 33) hx hb dX5_countWith_33 rfl (lv_at hl 2 rfl) ?_
        exact ro_iret (v := nI n) hx hb hr hlocks (by rw [hn, show i = nst c r w by omega]; rfl) dX5_countWith_34
      refine lv_aload_n (pc := 12) hx hb dX5_countWith_12 rfl (lv_at hl 0 rfl) ?_
      refine va_get (pc := 13) (D := D) (ci := 4) (v := .ref o12) (C := RX5) (T := TX5) (N := 16) hx hb hts hinX5 hown hK.1 hP 0 rfl rfl 12 (by decide) (hts (.fieldLink RX5 25 "BoxesGame$Strings" "discounts" "[I") (List.mem_of_getElem? (i := 2) rfl)) (fun _ h9 => h9) rfl dX5_countWith_13 ?_
      refine lv_iload_n (pc := 16) hx hb dX5_countWith_16 rfl (lv_at hl 3 rfl) ?_
      refine ro_go (pc := 17) (va_runS (As := [.ref o12, .int (nI i)]) (rest := []) ⟨hx, hb, hml, hown, hts⟩ (c_X3_at_in l D Y 16 di o12 i (by decide) (by first | assumption | omega)) (va_cwS 2 hts gX5_countWith_X3_at rfl rfl rfl hdX3_at ⟨Nat.le_of_ble_eq_true rfl, Nat.le_of_ble_eq_true rfl⟩) (ro_pS hK (hP.sub [1] rfl)) rfl rfl hl.1 rfl (lv_room (Nat.le_of_ble_eq_true rfl)) dX5_countWith_17 ⟨Nat.le_of_ble_eq_true rfl, Nat.le_of_ble_eq_true rfl⟩) ?_
      refine top_i (show di i = nI (sdis c r w i) from (hfi i c9).2.2.1) ?_
      refine lv_iload_n (pc := 20) hx hb dX5_countWith_20 rfl (lv_at hl 1 rfl) ?_
      refine n_icmp_ne (pc := 21) (tgt := 27) hx hb (by have := sdis_or c r w i; omega) (by omega) dX5_countWith_21 (by decide) (fun c21 => ?_) (fun c21 => ?_)
      · refine lv_iinc (pc := 27) (v := nI (i + 1)) (lv' := [(3, .int (nI (i + 1))), (0, .ref sg), (1, .int (nI d)), (2, .int (nI n))]) hx hb dX5_countWith_27 hl (k := 3) rfl (n_inc i 1) (by decide) rfl (fun ls hl => ?_)
        refine lv_goto (pc := 30) (tgt := 4) hx hb dX5_countWith_30 (by decide) ?_
        exact ih4 (i + 1) n (by first | assumption | omega) (by rw [fb_ct_succ, decide_eq_false c21, ← hn]; rfl) (by omega) _ (lv_sub hl [1, 2, 3, 0] rfl)
      refine lv_iinc (pc := 24) (v := nI (n + 1)) (lv' := [(2, .int (nI (n + 1))), (0, .ref sg), (1, .int (nI d)), (3, .int (nI i))]) hx hb dX5_countWith_24 hl (k := 2) rfl (n_inc n 1) (by decide) rfl (fun ls hl => ?_)
      refine lv_iinc (pc := 27) (v := nI (i + 1)) (lv' := [(3, .int (nI (i + 1))), (2, .int (nI (n + 1))), (0, .ref sg), (1, .int (nI d))]) hx hb dX5_countWith_27 hl (k := 3) rfl (n_inc i 1) (by decide) rfl (fun ls hl => ?_)
      refine lv_goto (pc := 30) (tgt := 4) hx hb dX5_countWith_30 (by decide) ?_
      exact ih4 (i + 1) (n + 1) (by first | assumption | omega) (by rw [fb_ct_succ, decide_eq_true c21, ← hn]; rfl) (by omega) _ (lv_sub hl [2, 3, 1, 0] rfl)
  exact L4 ((nst c r w - 0) + 1) 0 0 (by first | assumption | omega) (rfl) (Nat.lt_succ_self _) _ (lv_sub hl [2, 3, 1, 0] rfl)

set_option maxHeartbeats 1200000 in
set_option maxRecDepth 100000 in
theorem c_X5_isAllClosed (l : Launch) (D : va_G) (Y : vY) (sg : Nat) (bd : Nat) (o8 : Nat) (o9 : Nat) (o10 : Nat) (o11 : Nat) (o12 : Nat) (o13 : Nat) (o14 : Nat) (o15 : Nat) (tq : Int64) (sn : Int64) (kn : Bool) (pr : Bool) (pq : Int32) (sz : Nat → Int32) (op : Nat → Int32) (di : Nat → Int32) (li : Nat → Int64) (c : Nat) (r : Nat) (w : Int64) (hC : Cr c r) (hfi : FinOK c r w (nst c r w) sz op di li) : Ro l yX5_isAllClosed wsX5_isAllClosed ({ frames := 2, cells := 0, slots := 0, locals := 42 } : Room) [.ref sg] D Y [(sg, .inr (4, [.int (nI (nst c r w)), .int (nI (thk c r w)), .long tq, .long sn, .int (zb kn), .int (zb pr), .int pq, .ref bd, .ref o8, .ref o9, .ref o10, .ref o11, .ref o12, .ref o13, .ref o14, .ref o15])), (o11, .inl (Y.1, 16, .inl op))] (some (.int (zb (decide (thk c r w = 0) && !aop c r w)))) := by
  refine ro_intro (by decide +kernel) rfl (Nat.le_of_ble_eq_true rfl) [(0, .ref sg)] rfl ?_
  intro pG eG sG mG aG bG tG cG ls hx hb hr hml hts hown hlocks hK hP hl
  have hP : va_P D vwCl [(sg, .inr (4, [.int (nI (nst c r w)), .int (nI (thk c r w)), .long tq, .long sn, .int (zb kn), .int (zb pr), .int pq, .ref bd, .ref o8, .ref o9, .ref o10, .ref o11, .ref o12, .ref o13, .ref o14, .ref o15])), (o11, .inl (Y.1, 16, .inl op))] sG.heap := hP
  have hown : sG.vm.findClass RX5 = some mG.cls := hown
  have hl : lv_has ls 2 [(0, .ref sg)] := hl
  have hinX5 : ∀ w ∈ u_ws RX5 TX5 16, w ∈ wsX5_isAllClosed := by decide +kernel
  obtain ⟨hq1, hq2, hq3, hq4, hq5, hq6, hq7, hq8, hq9, hq10, hq11⟩ := hC.q
  have hns := nst_le c r w
  have htk := thk_le c r w
  refine lv_iconst (pc := 0) (v := nI 0) hx hb dX5_isAllClosed_0 rfl ?_
  refine lv_istore_n (pc := 1) (lv' := [(1, .int (nI 0)), (0, .ref sg)]) hx hb dX5_isAllClosed_1 rfl hl (by decide) rfl (fun ls hl => ?_)
  have L2 : ∀ (n2 : Nat), ∀ (i : Nat), (i ≤ nst c r w) → (∀ k, k < i → sopn c r w k = false) → nst c r w - i < n2 → ∀ (ls : Array Slot), lv_has ls 2 [(0, .ref sg), (1, .int (nI i))] → W pG l eG ({ frames := 2, cells := 0, slots := 0, locals := 42 } : Room) sG mG aG bG tG cG sG.heap [] 0 0 (MQ bG (RoQ (some (.int (zb (decide (thk c r w = 0) && !aop c r w))))) aG sG 0 0 (fun _ => False)) (F0 mG 2 ls []) := by
    intro n2
    induction n2 with
    | zero =>
      intro i hi hno hmeas2  ls hl
      exact absurd hmeas2 (Nat.not_lt_zero _)
    | succ n2 ih2 =>
      intro i hi hno hmeas2  ls hl
      refine lv_iload_n (pc := 2) hx hb dX5_isAllClosed_2 rfl (lv_at hl 1 rfl) ?_
      refine lv_aload_n (pc := 3) hx hb dX5_isAllClosed_3 rfl (lv_at hl 0 rfl) ?_
      refine va_get (pc := 4) (D := D) (ci := 4) (v := .int (nI (nst c r w))) (C := RX5) (T := TX5) (N := 16) hx hb hts hinX5 hown hK.1 hP 0 rfl rfl 0 (by decide) (hts (.fieldLink RX5 56 "BoxesGame$Strings" "amount" "I") (List.mem_of_getElem? (i := 1) rfl)) (fun _ h9 => h9) rfl dX5_isAllClosed_4 ?_
      refine n_icmp_ge (pc := 7) (tgt := 26) hx hb (by omega) (by omega) dX5_isAllClosed_7 (by decide) (fun c7 => ?_) (fun c7 => ?_)
      · refine lv_aload_n (pc := 26) hx hb dX5_isAllClosed_26 rfl (lv_at hl 0 rfl) ?_
        refine va_get (pc := 27) (D := D) (ci := 4) (v := .int (nI (thk c r w))) (C := RX5) (T := TX5) (N := 16) hx hb hts hinX5 hown hK.1 hP 0 rfl rfl 1 (by decide) (hts (.fieldLink RX5 73 "BoxesGame$Strings" "thickBoxes" "I") (List.mem_of_getElem? (i := 2) rfl)) (fun _ h9 => h9) rfl dX5_isAllClosed_27 ?_
        refine n_if_ne (pc := 30) (tgt := 37) hx hb (by omega) dX5_isAllClosed_30 (by decide) (fun c30 => ?_) (fun c30 => ?_)
        · refine lv_iconst (pc := 37) (v := nI 0) hx hb dX5_isAllClosed_37 rfl ?_
          exact ro_zret hx hb hr hlocks (zb_0 (by rw [decide_eq_false (by omega), Bool.false_and])) dX5_isAllClosed_38
        refine lv_iconst (pc := 33) (v := nI 1) hx hb dX5_isAllClosed_33 rfl ?_
        refine lv_goto (pc := 34) (tgt := 38) hx hb dX5_isAllClosed_34 (by decide) ?_
        exact ro_zret hx hb hr hlocks (zb_1 (by rw [decide_eq_true c30, aop_f (fun k h => hno k (by omega))]; rfl)) dX5_isAllClosed_38
      refine lv_aload_n (pc := 10) hx hb dX5_isAllClosed_10 rfl (lv_at hl 0 rfl) ?_
      refine lv_iload_n (pc := 11) hx hb dX5_isAllClosed_11 rfl (lv_at hl 1 rfl) ?_
      refine ro_go (pc := 12) (va_runV (As := [.int (nI i)]) (rest := []) ⟨hx, hb, hml, hown, hts⟩ (c_X5_isOpen l D Y sg bd o8 o9 o10 o11 o12 o13 o14 o15 (nI (nst c r w)) (nI (thk c r w)) tq sn kn pr pq op c r w i (by omega) ((hfi i c7).2.1)) (cwV 1 hts gX5_isAllClosed_X5_isOpen rfl rfl rfl ⟨rfl, hdX5_isOpen⟩ ⟨Nat.le_of_ble_eq_true rfl, Nat.le_of_ble_eq_true rfl⟩) (ro_pV hK hP (ro_recv hK hP (ci := 4) (q0 := 0) rfl rfl)) rfl rfl hl.1 rfl (lv_room (Nat.le_of_ble_eq_true rfl)) dX5_isAllClosed_12 ⟨Nat.le_of_ble_eq_true rfl, Nat.le_of_ble_eq_true rfl⟩) ?_
      refine z_if_eq (pc := 15) (tgt := 20) hx hb dX5_isAllClosed_15 (by decide) (fun c15 => ?_) (fun c15 => ?_)
      · refine lv_iinc (pc := 20) (v := nI (i + 1)) (lv' := [(1, .int (nI (i + 1))), (0, .ref sg)]) hx hb dX5_isAllClosed_20 hl (k := 1) rfl (n_inc i 1) (by decide) rfl (fun ls hl => ?_)
        refine lv_goto (pc := 23) (tgt := 2) hx hb dX5_isAllClosed_23 (by decide) ?_
        exact ih2 (i + 1) (by first | assumption | omega) (lt_s hno c15) (by omega) _ (lv_sub hl [1, 0] rfl)
      refine lv_iconst (pc := 18) (v := nI 0) hx hb dX5_isAllClosed_18 rfl ?_
      exact ro_zret hx hb hr hlocks (zb_0 (by rw [aop_t c7 c15, Bool.not_true, Bool.and_false])) dX5_isAllClosed_19
  exact L2 ((nst c r w - 0) + 1) 0 (by first | assumption | omega) (fun k h => absurd h (Nat.not_lt_zero _)) (Nat.lt_succ_self _) _ (lv_sub hl [1, 0] rfl)

set_option maxHeartbeats 1200000 in
set_option maxRecDepth 100000 in
theorem c_X5_controlledValue (l : Launch) (D : va_G) (Y : vY) (sg : Nat) (bd : Nat) (o8 : Nat) (o9 : Nat) (o10 : Nat) (o11 : Nat) (o12 : Nat) (o13 : Nat) (o14 : Nat) (o15 : Nat) (tx : Int32) (tq : Int64) (sn : Int64) (kn : Bool) (pr : Bool) (pq : Int32) (sz : Nat → Int32) (op : Nat → Int32) (di : Nat → Int32) (li : Nat → Int64) (c : Nat) (r : Nat) (w : Int64) (hC : Cr c r) (hfi : FinOK c r w (nst c r w) sz op di li) : Ro l yX5_controlledValue wsX5_controlledValue ({ frames := 1, cells := 0, slots := 0, locals := 21 } : Room) [.ref sg] D Y [(sg, .inr (4, [.int (nI (nst c r w)), .int tx, .long tq, .long sn, .int (zb kn), .int (zb pr), .int pq, .ref bd, .ref o8, .ref o9, .ref o10, .ref o11, .ref o12, .ref o13, .ref o14, .ref o15])), (o10, .inl (Y.1, 16, .inl sz)), (o12, .inl (Y.1, 16, .inl di))] (some (.int (iI (cval c r w)))) := by
  refine ro_intro (by decide +kernel) rfl (Nat.le_of_ble_eq_true rfl) [(0, .ref sg)] rfl ?_
  intro pG eG sG mG aG bG tG cG ls hx hb hr hml hts hown hlocks hK hP hl
  have hP : va_P D vwCl [(sg, .inr (4, [.int (nI (nst c r w)), .int tx, .long tq, .long sn, .int (zb kn), .int (zb pr), .int pq, .ref bd, .ref o8, .ref o9, .ref o10, .ref o11, .ref o12, .ref o13, .ref o14, .ref o15])), (o10, .inl (Y.1, 16, .inl sz)), (o12, .inl (Y.1, 16, .inl di))] sG.heap := hP
  have hown : sG.vm.findClass RX5 = some mG.cls := hown
  have hl : lv_has ls 4 [(0, .ref sg)] := hl
  have hinX5 : ∀ w ∈ u_ws RX5 TX5 16, w ∈ wsX5_controlledValue := by decide +kernel
  obtain ⟨hq1, hq2, hq3, hq4, hq5, hq6, hq7, hq8, hq9, hq10, hq11⟩ := hC.q
  have hns := nst_le c r w
  refine lv_iconst (pc := 0) (v := nI 0) hx hb dX5_controlledValue_0 rfl ?_
  refine top_i (show nI 0 = iI 0 from by decide) ?_
  refine lv_istore_n (pc := 1) (lv' := [(1, .int (iI 0)), (0, .ref sg)]) hx hb dX5_controlledValue_1 rfl hl (by decide) rfl (fun ls hl => ?_)
  refine lv_iconst (pc := 2) (v := nI 0) hx hb dX5_controlledValue_2 rfl ?_
  refine lv_istore_n (pc := 3) (lv' := [(2, .int (nI 0)), (1, .int (iI 0)), (0, .ref sg)]) hx hb dX5_controlledValue_3 rfl hl (by decide) rfl (fun ls hl => ?_)
  have L4 : ∀ (n4 : Nat), ∀ (i : Nat) (z : Int), (i ≤ nst c r w) → (z = fb_si (cvF c r w) i) → nst c r w - i < n4 → ∀ (ls : Array Slot), lv_has ls 4 [(0, .ref sg), (1, .int (iI z)), (2, .int (nI i))] → W pG l eG ({ frames := 1, cells := 0, slots := 0, locals := 21 } : Room) sG mG aG bG tG cG sG.heap [] 0 0 (MQ bG (RoQ (some (.int (iI (cval c r w))))) aG sG 0 0 (fun _ => False)) (F0 mG 4 ls []) := by
    intro n4
    induction n4 with
    | zero =>
      intro i z hi hz hmeas4  ls hl
      exact absurd hmeas4 (Nat.not_lt_zero _)
    | succ n4 ih4 =>
      intro i z hi hz hmeas4  ls hl
      refine lv_iload_n (pc := 4) hx hb dX5_controlledValue_4 rfl (lv_at hl 2 rfl) ?_
      refine lv_aload_n (pc := 5) hx hb dX5_controlledValue_5 rfl (lv_at hl 0 rfl) ?_
      refine va_get (pc := 6) (D := D) (ci := 4) (v := .int (nI (nst c r w))) (C := RX5) (T := TX5) (N := 16) hx hb hts hinX5 hown hK.1 hP 0 rfl rfl 0 (by decide) (hts (.fieldLink RX5 56 "BoxesGame$Strings" "amount" "I") (List.mem_of_getElem? (i := 1) rfl)) (fun _ h9 => h9) rfl dX5_controlledValue_6 ?_
      refine n_icmp_ge (pc := 9) (tgt := 44) hx hb (by omega) (by omega) dX5_controlledValue_9 (by decide) (fun c9 => ?_) (fun c9 => ?_)
      · refine lv_iload_n (pc := 44) hx hb dX5_controlledValue_44 rfl (lv_at hl 1 rfl) ?_
        exact ro_iret (v := iI z) hx hb hr hlocks (by rw [hz, show i = nst c r w by omega]; rfl) dX5_controlledValue_45
      refine lv_aload_n (pc := 12) hx hb dX5_controlledValue_12 rfl (lv_at hl 0 rfl) ?_
      refine va_get (pc := 13) (D := D) (ci := 4) (v := .ref o12) (C := RX5) (T := TX5) (N := 16) hx hb hts hinX5 hown hK.1 hP 0 rfl rfl 12 (by decide) (hts (.fieldLink RX5 25 "BoxesGame$Strings" "discounts" "[I") (List.mem_of_getElem? (i := 2) rfl)) (fun _ h9 => h9) rfl dX5_controlledValue_13 ?_
      refine lv_iload_n (pc := 16) hx hb dX5_controlledValue_16 rfl (lv_at hl 2 rfl) ?_
      refine ro_go (pc := 17) (va_runS (As := [.ref o12, .int (nI i)]) (rest := []) ⟨hx, hb, hml, hown, hts⟩ (c_X3_at_in l D Y 16 di o12 i (by decide) (by first | assumption | omega)) (va_cwS 2 hts gX5_controlledValue_X3_at rfl rfl rfl hdX3_at ⟨Nat.le_of_ble_eq_true rfl, Nat.le_of_ble_eq_true rfl⟩) (ro_pS hK (hP.sub [2] rfl)) rfl rfl hl.1 rfl (lv_room (Nat.le_of_ble_eq_true rfl)) dX5_controlledValue_17 ⟨Nat.le_of_ble_eq_true rfl, Nat.le_of_ble_eq_true rfl⟩) ?_
      refine top_i (show di i = nI (sdis c r w i) from (hfi i c9).2.2.1) ?_
      refine lv_istore_n (pc := 20) (lv' := [(3, .int (nI (sdis c r w i))), (0, .ref sg), (1, .int (iI z)), (2, .int (nI i))]) hx hb dX5_controlledValue_20 rfl hl (by decide) rfl (fun ls hl => ?_)
      refine lv_iload_n (pc := 21) hx hb dX5_controlledValue_21 rfl (lv_at hl 0 rfl) ?_
      refine n_if_eq (pc := 22) (tgt := 38) hx hb (by have := sdis_or c r w i; omega) dX5_controlledValue_22 (by decide) (fun c22 => ?_) (fun c22 => ?_)
      · refine lv_iinc (pc := 38) (v := nI (i + 1)) (lv' := [(2, .int (nI (i + 1))), (3, .int (nI (sdis c r w i))), (0, .ref sg), (1, .int (iI z))]) hx hb dX5_controlledValue_38 hl (k := 3) rfl (n_inc i 1) (by decide) rfl (fun ls hl => ?_)
        refine lv_goto (pc := 41) (tgt := 4) hx hb dX5_controlledValue_41 (by decide) ?_
        exact ih4 (i + 1) z (by first | assumption | omega) (by rw [fb_si_succ, ← hz]; unfold cvF; rw [if_pos c22, Int.add_zero]) (by omega) _ (lv_sub hl [2, 3, 0] rfl)
      refine lv_iload_n (pc := 25) hx hb dX5_controlledValue_25 rfl (lv_at hl 2 rfl) ?_
      refine lv_aload_n (pc := 26) hx hb dX5_controlledValue_26 rfl (lv_at hl 1 rfl) ?_
      refine va_get (pc := 27) (D := D) (ci := 4) (v := .ref o10) (C := RX5) (T := TX5) (N := 16) hx hb hts hinX5 hown hK.1 hP 0 rfl rfl 10 (by decide) (hts (.fieldLink RX5 19 "BoxesGame$Strings" "sizes" "[I") (List.mem_of_getElem? (i := 3) rfl)) (fun _ h9 => h9) rfl dX5_controlledValue_27 ?_
      refine lv_iload_n (pc := 30) hx hb dX5_controlledValue_30 rfl (lv_at hl 3 rfl) ?_
      refine ro_go (pc := 31) (va_runS (As := [.ref o10, .int (nI i)]) (rest := [.int (iI z)]) ⟨hx, hb, hml, hown, hts⟩ (c_X3_at_in l D Y 16 sz o10 i (by decide) (by first | assumption | omega)) (va_cwS 2 hts gX5_controlledValue_X3_at rfl rfl rfl hdX3_at ⟨Nat.le_of_ble_eq_true rfl, Nat.le_of_ble_eq_true rfl⟩) (ro_pS hK (hP.sub [1] rfl)) rfl rfl hl.1 rfl (lv_room (Nat.le_of_ble_eq_true rfl)) dX5_controlledValue_31 ⟨Nat.le_of_ble_eq_true rfl, Nat.le_of_ble_eq_true rfl⟩) ?_
      refine top_i (show sz i = nI (ssz c r w i) from (hfi i c9).1) ?_
      refine lv_iload_n (pc := 34) hx hb dX5_controlledValue_34 rfl (lv_at hl 0 rfl) ?_
      refine lv_isub (pc := 35) hx hb dX5_controlledValue_35 ?_
      refine lv_iadd (pc := 36) hx hb dX5_controlledValue_36 ?_
      refine top_i (show (iI z) + ((nI (ssz c r w i)) - (nI (sdis c r w i))) = iI (z + ((ssz c r w i : Int) - sdis c r w i)) from by rw [iI_nI, iI_nI, iI_sub, iI_add]) ?_
      refine lv_istore_n (pc := 37) (lv' := [(1, .int (iI (z + ((ssz c r w i : Int) - sdis c r w i)))), (3, .int (nI (sdis c r w i))), (0, .ref sg), (2, .int (nI i))]) hx hb dX5_controlledValue_37 rfl hl (by decide) rfl (fun ls hl => ?_)
      refine lv_iinc (pc := 38) (v := nI (i + 1)) (lv' := [(2, .int (nI (i + 1))), (1, .int (iI (z + ((ssz c r w i : Int) - sdis c r w i)))), (3, .int (nI (sdis c r w i))), (0, .ref sg)]) hx hb dX5_controlledValue_38 hl (k := 3) rfl (n_inc i 1) (by decide) rfl (fun ls hl => ?_)
      refine lv_goto (pc := 41) (tgt := 4) hx hb dX5_controlledValue_41 (by decide) ?_
      exact ih4 (i + 1) (z + ((ssz c r w i : Int) - sdis c r w i)) (by first | assumption | omega) (by rw [fb_si_succ, ← hz]; unfold cvF; rw [if_neg (by omega)]) (by omega) _ (lv_sub hl [3, 1, 0] rfl)
  exact L4 ((nst c r w - 0) + 1) 0 0 (by first | assumption | omega) (rfl) (Nat.lt_succ_self _) _ (lv_sub hl [2, 1, 0] rfl)

set_option maxHeartbeats 1200000 in
set_option maxRecDepth 100000 in
theorem c_X5_summaryOf (l : Launch) (D : va_G) (Y : vY) (sg : Nat) (bd : Nat) (o8 : Nat) (o9 : Nat) (o10 : Nat) (o11 : Nat) (o12 : Nat) (o13 : Nat) (o14 : Nat) (o15 : Nat) (tq : Int64) (sn : Int64) (kn : Bool) (pr : Bool) (pq : Int32) (sz : Nat → Int32) (op : Nat → Int32) (di : Nat → Int32) (li : Nat → Int64) (bs : Nat) (bf : Nat) (bg : Nat) (c : Nat) (r : Nat) (sd : Nat → Int64) (fb : Nat → Int32) (gb : Nat → Int32) (w : Int64) (a : Nat) (hC : Cr c r) (hB : BdOK c r sd fb gb) (ha5 : a ≤ 5) (hfi : FinOK c r w (nst c r w) sz op di li) : Ro l yX5_summaryOf wsX5_summaryOf ({ frames := 3, cells := 0, slots := 0, locals := 63 } : Room) [.ref sg, .int (nI a)] D Y [(sg, .inr (4, [.int (nI (nst c r w)), .int (nI (thk c r w)), .long tq, .long sn, .int (zb kn), .int (zb pr), .int pq, .ref bd, .ref o8, .ref o9, .ref o10, .ref o11, .ref o12, .ref o13, .ref o14, .ref o15])), (o10, .inl (Y.1, 16, .inl sz)), (o11, .inl (Y.1, 16, .inl op)), (o12, .inl (Y.1, 16, .inl di)), (bd, .inr (0, [.int (nI c), .int (nI r), .int (nI (al c r)), .int (nI (c * r)), .ref bs, .ref bf, .ref bg])), (bs, .inl (Y.2.1, 16, .inr (.inl sd))), (bf, .inl (Y.1, 40, .inl fb)), (bg, .inl (Y.1, 40, .inl gb))] (some (.int (iI (ctrM c r w a)))) := by
  refine ro_intro (by decide +kernel) rfl (Nat.le_of_ble_eq_true rfl) [(0, .ref sg), (1, .int (nI a))] rfl ?_
  intro pG eG sG mG aG bG tG cG ls hx hb hr hml hts hown hlocks hK hP hl
  have hP : va_P D vwCl [(sg, .inr (4, [.int (nI (nst c r w)), .int (nI (thk c r w)), .long tq, .long sn, .int (zb kn), .int (zb pr), .int pq, .ref bd, .ref o8, .ref o9, .ref o10, .ref o11, .ref o12, .ref o13, .ref o14, .ref o15])), (o10, .inl (Y.1, 16, .inl sz)), (o11, .inl (Y.1, 16, .inl op)), (o12, .inl (Y.1, 16, .inl di)), (bd, .inr (0, [.int (nI c), .int (nI r), .int (nI (al c r)), .int (nI (c * r)), .ref bs, .ref bf, .ref bg])), (bs, .inl (Y.2.1, 16, .inr (.inl sd))), (bf, .inl (Y.1, 40, .inl fb)), (bg, .inl (Y.1, 40, .inl gb))] sG.heap := hP
  have hown : sG.vm.findClass RX5 = some mG.cls := hown
  have hl : lv_has ls 2 [(0, .ref sg), (1, .int (nI a))] := hl
  have hinX5 : ∀ w ∈ u_ws RX5 TX5 16, w ∈ wsX5_summaryOf := by decide +kernel
  obtain ⟨hq1, hq2, hq3, hq4, hq5, hq6, hq7, hq8, hq9, hq10, hq11⟩ := hC.q
  have hns := nst_le c r w
  have hco := corner_le hC
  have hcw := cwd_le c r w 4
  refine lv_iload_n (pc := 0) hx hb dX5_summaryOf_0 rfl (lv_at hl 1 rfl) ?_
  by_cases c1_0 : a = 0
  · refine lv_tableIn (pc := 1) (off := 35) (tgt := 36) hx hb dX5_summaryOf_1 (by rw [c1_0]; decide) (by rw [c1_0]; decide) (by rw [c1_0]; first | rfl | decide) (by decide) ?_
    refine lv_aload_n (pc := 36) hx hb dX5_summaryOf_36 rfl (lv_at hl 0 rfl) ?_
    refine lv_iconst (pc := 37) (v := nI 4) hx hb dX5_summaryOf_37 rfl ?_
    refine ro_go (pc := 38) (va_runV (As := [.int (nI 4)]) (rest := []) ⟨hx, hb, hml, hown, hts⟩ (c_X5_countWith l D Y sg bd o8 o9 o10 o11 o12 o13 o14 o15 (nI (thk c r w)) tq sn kn pr pq sz op di li c r w 4 (hC) (by decide) (hfi)) (cwV 1 hts gX5_summaryOf_X5_countWith rfl rfl rfl ⟨rfl, hdX5_countWith⟩ ⟨Nat.le_of_ble_eq_true rfl, Nat.le_of_ble_eq_true rfl⟩) (ro_pV hK (hP.sub [0, 3] rfl) (ro_recv hK hP (ci := 4) (q0 := 0) rfl rfl)) rfl rfl hl.1 rfl (lv_room (Nat.le_of_ble_eq_true rfl)) dX5_summaryOf_38 ⟨Nat.le_of_ble_eq_true rfl, Nat.le_of_ble_eq_true rfl⟩) ?_
    exact ro_iret (v := nI (cwd c r w 4)) hx hb hr hlocks (by rw [c1_0, iI_nI]; rfl) dX5_summaryOf_41
  by_cases c1_1 : a = 1
  · refine lv_tableIn (pc := 1) (off := 41) (tgt := 42) hx hb dX5_summaryOf_1 (by rw [c1_1]; decide) (by rw [c1_1]; decide) (by rw [c1_1]; first | rfl | decide) (by decide) ?_
    refine lv_aload_n (pc := 42) hx hb dX5_summaryOf_42 rfl (lv_at hl 0 rfl) ?_
    refine lv_bipush (pc := 43) (v := nI 8) hx hb dX5_summaryOf_43 rfl ?_
    refine ro_go (pc := 45) (va_runV (As := [.int (nI 8)]) (rest := []) ⟨hx, hb, hml, hown, hts⟩ (c_X5_countWith l D Y sg bd o8 o9 o10 o11 o12 o13 o14 o15 (nI (thk c r w)) tq sn kn pr pq sz op di li c r w 8 (hC) (by decide) (hfi)) (cwV 1 hts gX5_summaryOf_X5_countWith rfl rfl rfl ⟨rfl, hdX5_countWith⟩ ⟨Nat.le_of_ble_eq_true rfl, Nat.le_of_ble_eq_true rfl⟩) (ro_pV hK (hP.sub [0, 3] rfl) (ro_recv hK hP (ci := 4) (q0 := 0) rfl rfl)) rfl rfl hl.1 rfl (lv_room (Nat.le_of_ble_eq_true rfl)) dX5_summaryOf_45 ⟨Nat.le_of_ble_eq_true rfl, Nat.le_of_ble_eq_true rfl⟩) ?_
    exact ro_iret (v := nI (cwd c r w 8)) hx hb hr hlocks (by rw [c1_1, iI_nI]; rfl) dX5_summaryOf_48
  by_cases c1_2 : a = 2
  · refine lv_tableIn (pc := 1) (off := 48) (tgt := 49) hx hb dX5_summaryOf_1 (by rw [c1_2]; decide) (by rw [c1_2]; decide) (by rw [c1_2]; first | rfl | decide) (by decide) ?_
    refine lv_aload_n (pc := 49) hx hb dX5_summaryOf_49 rfl (lv_at hl 0 rfl) ?_
    refine va_get (pc := 50) (D := D) (ci := 4) (v := .int (nI (thk c r w))) (C := RX5) (T := TX5) (N := 16) hx hb hts hinX5 hown hK.1 hP 0 rfl rfl 1 (by decide) (hts (.fieldLink RX5 73 "BoxesGame$Strings" "thickBoxes" "I") (List.mem_of_getElem? (i := 1) rfl)) (fun _ h9 => h9) rfl dX5_summaryOf_50 ?_
    exact ro_iret (v := nI (thk c r w)) hx hb hr hlocks (by rw [c1_2, iI_nI]; rfl) dX5_summaryOf_53
  by_cases c1_3 : a = 3
  · refine lv_tableIn (pc := 1) (off := 53) (tgt := 54) hx hb dX5_summaryOf_1 (by rw [c1_3]; decide) (by rw [c1_3]; decide) (by rw [c1_3]; first | rfl | decide) (by decide) ?_
    refine lv_aload_n (pc := 54) hx hb dX5_summaryOf_54 rfl (lv_at hl 0 rfl) ?_
    refine ro_go (pc := 55) (va_runV (As := []) (rest := []) ⟨hx, hb, hml, hown, hts⟩ (c_X5_isAllClosed l D Y sg bd o8 o9 o10 o11 o12 o13 o14 o15 tq sn kn pr pq sz op di li c r w (hC) (hfi)) (cwV 0 hts gX5_summaryOf_X5_isAllClosed rfl rfl rfl ⟨rfl, hdX5_isAllClosed⟩ ⟨Nat.le_of_ble_eq_true rfl, Nat.le_of_ble_eq_true rfl⟩) (ro_pV hK (hP.sub [0, 2] rfl) (ro_recv hK hP (ci := 4) (q0 := 0) rfl rfl)) rfl rfl hl.1 rfl (lv_room (Nat.le_of_ble_eq_true rfl)) dX5_summaryOf_55 ⟨Nat.le_of_ble_eq_true rfl, Nat.le_of_ble_eq_true rfl⟩) ?_
    refine z_if_eq (pc := 58) (tgt := 65) hx hb dX5_summaryOf_58 (by decide) (fun c58 => ?_) (fun c58 => ?_)
    · refine lv_iconst (pc := 65) (v := nI 0) hx hb dX5_summaryOf_65 rfl ?_
      exact ro_iret (v := nI 0) hx hb hr hlocks (by rw [c1_3]; show nI 0 = iI (zn (decide (thk c r w = 0) && !aop c r w) : Int); rw [c58]; rfl) dX5_summaryOf_66
    refine lv_iconst (pc := 61) (v := nI 1) hx hb dX5_summaryOf_61 rfl ?_
    refine lv_goto (pc := 62) (tgt := 66) hx hb dX5_summaryOf_62 (by decide) ?_
    exact ro_iret (v := nI 1) hx hb hr hlocks (by rw [c1_3]; show nI 1 = iI (zn (decide (thk c r w = 0) && !aop c r w) : Int); rw [c58]; rfl) dX5_summaryOf_66
  by_cases c1_4 : a = 4
  · refine lv_tableIn (pc := 1) (off := 66) (tgt := 67) hx hb dX5_summaryOf_1 (by rw [c1_4]; decide) (by rw [c1_4]; decide) (by rw [c1_4]; first | rfl | decide) (by decide) ?_
    refine lv_aload_n (pc := 67) hx hb dX5_summaryOf_67 rfl (lv_at hl 0 rfl) ?_
    refine ro_go (pc := 68) (va_runV (As := []) (rest := []) ⟨hx, hb, hml, hown, hts⟩ (c_X5_controlledValue l D Y sg bd o8 o9 o10 o11 o12 o13 o14 o15 (nI (thk c r w)) tq sn kn pr pq sz op di li c r w (hC) (hfi)) (cwV 0 hts gX5_summaryOf_X5_controlledValue rfl rfl rfl ⟨rfl, hdX5_controlledValue⟩ ⟨Nat.le_of_ble_eq_true rfl, Nat.le_of_ble_eq_true rfl⟩) (ro_pV hK (hP.sub [0, 1, 3] rfl) (ro_recv hK hP (ci := 4) (q0 := 0) rfl rfl)) rfl rfl hl.1 rfl (lv_room (Nat.le_of_ble_eq_true rfl)) dX5_summaryOf_68 ⟨Nat.le_of_ble_eq_true rfl, Nat.le_of_ble_eq_true rfl⟩) ?_
    exact ro_iret (v := iI (cval c r w)) hx hb hr hlocks (by rw [c1_4]; rfl) dX5_summaryOf_71
  refine lv_tableOut (pc := 1) (tgt := 72) hx hb dX5_summaryOf_1 (by rw [nI_toInt (by omega)]; omega) (by decide) ?_
  refine lv_aload_n (pc := 72) hx hb dX5_summaryOf_72 rfl (lv_at hl 0 rfl) ?_
  refine va_get (pc := 73) (D := D) (ci := 4) (v := .ref bd) (C := RX5) (T := TX5) (N := 16) hx hb hts hinX5 hown hK.1 hP 0 rfl rfl 7 (by decide) (hts (.fieldLink RX5 37 "BoxesGame$Strings" "board" "LBoxesGame$Board;") (List.mem_of_getElem? (i := 2) rfl)) (fun _ h9 => h9) rfl dX5_summaryOf_73 ?_
  refine ro_go (pc := 76) (va_runV (As := []) (rest := []) ⟨hx, hb, hml, hown, hts⟩ (c_X0_cornerCount l D Y bd bs bf bg c r sd fb gb (hC) (hB)) (cwV 0 hts gX5_summaryOf_X0_cornerCount rfl rfl rfl ⟨rfl, hdX0_cornerCount⟩ ⟨Nat.le_of_ble_eq_true rfl, Nat.le_of_ble_eq_true rfl⟩) (ro_pV hK (hP.sub [4, 5, 6, 7] rfl) (ro_recv hK hP (ci := 0) (q0 := 4) rfl rfl)) rfl rfl hl.1 rfl (lv_room (Nat.le_of_ble_eq_true rfl)) dX5_summaryOf_76 ⟨Nat.le_of_ble_eq_true rfl, Nat.le_of_ble_eq_true rfl⟩) ?_
  refine lv_aload_n (pc := 79) hx hb dX5_summaryOf_79 rfl (lv_at hl 0 rfl) ?_
  refine lv_iconst (pc := 80) (v := nI 4) hx hb dX5_summaryOf_80 rfl ?_
  refine ro_go (pc := 81) (va_runV (As := [.int (nI 4)]) (rest := [.int (nI ((c + 1) * (r + 1)))]) ⟨hx, hb, hml, hown, hts⟩ (c_X5_countWith l D Y sg bd o8 o9 o10 o11 o12 o13 o14 o15 (nI (thk c r w)) tq sn kn pr pq sz op di li c r w 4 (hC) (by decide) (hfi)) (cwV 1 hts gX5_summaryOf_X5_countWith rfl rfl rfl ⟨rfl, hdX5_countWith⟩ ⟨Nat.le_of_ble_eq_true rfl, Nat.le_of_ble_eq_true rfl⟩) (ro_pV hK (hP.sub [0, 3] rfl) (ro_recv hK hP (ci := 4) (q0 := 0) rfl rfl)) rfl rfl hl.1 rfl (lv_room (Nat.le_of_ble_eq_true rfl)) dX5_summaryOf_81 ⟨Nat.le_of_ble_eq_true rfl, Nat.le_of_ble_eq_true rfl⟩) ?_
  refine n_iadd (pc := 84) hx hb dX5_summaryOf_84 ?_
  refine lv_iconst (pc := 85) (v := nI 2) hx hb dX5_summaryOf_85 rfl ?_
  refine n_irem (pc := 86) hx hb (by omega) (by omega) (by omega) dX5_summaryOf_86 ?_
  exact ro_iret (v := nI ((((c + 1) * (r + 1)) + (cwd c r w 4)) % 2)) hx hb hr hlocks (by rw [show a = 5 by omega, iI_nI]; rfl) dX5_summaryOf_87

set_option maxHeartbeats 1200000 in
set_option maxRecDepth 100000 in
theorem c_X5_valueAfter (l : Launch) (D : va_G) (Y : vY) (sg : Nat) (bd : Nat) (o8 : Nat) (o9 : Nat) (o10 : Nat) (o11 : Nat) (o12 : Nat) (o13 : Nat) (o14 : Nat) (o15 : Nat) (am : Int32) (tx : Int32) (tq : Int64) (sn : Int64) (kn : Bool) (pr : Bool) (pq : Int32) (sz : Nat → Int32) (op : Nat → Int32) (di : Nat → Int32) (li : Nat → Int64) (c : Nat) (r : Nat) (w : Int64) (k : Nat) (v : Int) (hC : Cr c r) (hk0 : k < nst c r w) (hfi : FinOK c r w (nst c r w) sz op di li) (hv : -300 ≤ v ∧ v ≤ 300) : Ro l yX5_valueAfter wsX5_valueAfter ({ frames := 1, cells := 0, slots := 0, locals := 24 } : Room) [.ref sg, .int (nI k), .int (iI v)] D Y [(sg, .inr (4, [.int am, .int tx, .long tq, .long sn, .int (zb kn), .int (zb pr), .int pq, .ref bd, .ref o8, .ref o9, .ref o10, .ref o11, .ref o12, .ref o13, .ref o14, .ref o15])), (o10, .inl (Y.1, 16, .inl sz)), (o12, .inl (Y.1, 16, .inl di))] (some (.int (iI (wv (ssz c r w k) (sdis c r w k) v)))) := by
  refine ro_intro (by decide +kernel) rfl (Nat.le_of_ble_eq_true rfl) [(0, .ref sg), (1, .int (nI k)), (2, .int (iI v))] rfl ?_
  intro pG eG sG mG aG bG tG cG ls hx hb hr hml hts hown hlocks hK hP hl
  have hP : va_P D vwCl [(sg, .inr (4, [.int am, .int tx, .long tq, .long sn, .int (zb kn), .int (zb pr), .int pq, .ref bd, .ref o8, .ref o9, .ref o10, .ref o11, .ref o12, .ref o13, .ref o14, .ref o15])), (o10, .inl (Y.1, 16, .inl sz)), (o12, .inl (Y.1, 16, .inl di))] sG.heap := hP
  have hown : sG.vm.findClass RX5 = some mG.cls := hown
  have hl : lv_has ls 5 [(0, .ref sg), (1, .int (nI k)), (2, .int (iI v))] := hl
  have hinX5 : ∀ w ∈ u_ws RX5 TX5 16, w ∈ wsX5_valueAfter := by decide +kernel
  obtain ⟨hq1, hq2, hq3, hq4, hq5, hq6, hq7, hq8, hq9, hq10, hq11⟩ := hC.q
  have hns := nst_le c r w
  obtain ⟨f1, f2, f3, f4⟩ := hfi k hk0
  have hb16 := sn_b hC w k hk0
  refine lv_aload_n (pc := 0) hx hb dX5_valueAfter_0 rfl (lv_at hl 0 rfl) ?_
  refine va_get (pc := 1) (D := D) (ci := 4) (v := .ref o10) (C := RX5) (T := TX5) (N := 16) hx hb hts hinX5 hown hK.1 hP 0 rfl rfl 10 (by decide) (hts (.fieldLink RX5 19 "BoxesGame$Strings" "sizes" "[I") (List.mem_of_getElem? (i := 1) rfl)) (fun _ h9 => h9) rfl dX5_valueAfter_1 ?_
  refine lv_iload_n (pc := 4) hx hb dX5_valueAfter_4 rfl (lv_at hl 1 rfl) ?_
  refine ro_go (pc := 5) (va_runS (As := [.ref o10, .int (nI k)]) (rest := []) ⟨hx, hb, hml, hown, hts⟩ (c_X3_at_in l D Y 16 sz o10 k (by decide) (by first | assumption | omega)) (va_cwS 2 hts gX5_valueAfter_X3_at rfl rfl rfl hdX3_at ⟨Nat.le_of_ble_eq_true rfl, Nat.le_of_ble_eq_true rfl⟩) (ro_pS hK (hP.sub [1] rfl)) rfl rfl hl.1 rfl (lv_room (Nat.le_of_ble_eq_true rfl)) dX5_valueAfter_5 ⟨Nat.le_of_ble_eq_true rfl, Nat.le_of_ble_eq_true rfl⟩) ?_
  refine top_i (show sz k = nI (ssz c r w k) from f1) ?_
  refine lv_istore_n (pc := 8) (lv' := [(3, .int (nI (ssz c r w k))), (0, .ref sg), (1, .int (nI k)), (2, .int (iI v))]) hx hb dX5_valueAfter_8 rfl hl (by decide) rfl (fun ls hl => ?_)
  refine lv_aload_n (pc := 9) hx hb dX5_valueAfter_9 rfl (lv_at hl 1 rfl) ?_
  refine va_get (pc := 10) (D := D) (ci := 4) (v := .ref o12) (C := RX5) (T := TX5) (N := 16) hx hb hts hinX5 hown hK.1 hP 0 rfl rfl 12 (by decide) (hts (.fieldLink RX5 25 "BoxesGame$Strings" "discounts" "[I") (List.mem_of_getElem? (i := 2) rfl)) (fun _ h9 => h9) rfl dX5_valueAfter_10 ?_
  refine lv_iload_n (pc := 13) hx hb dX5_valueAfter_13 rfl (lv_at hl 2 rfl) ?_
  refine ro_go (pc := 14) (va_runS (As := [.ref o12, .int (nI k)]) (rest := []) ⟨hx, hb, hml, hown, hts⟩ (c_X3_at_in l D Y 16 di o12 k (by decide) (by first | assumption | omega)) (va_cwS 2 hts gX5_valueAfter_X3_at rfl rfl rfl hdX3_at ⟨Nat.le_of_ble_eq_true rfl, Nat.le_of_ble_eq_true rfl⟩) (ro_pS hK (hP.sub [2] rfl)) rfl rfl hl.1 rfl (lv_room (Nat.le_of_ble_eq_true rfl)) dX5_valueAfter_14 ⟨Nat.le_of_ble_eq_true rfl, Nat.le_of_ble_eq_true rfl⟩) ?_
  refine top_i (show di k = nI (sdis c r w k) from f3) ?_
  refine lv_istore (pc := 17) (lv' := [(4, .int (nI (sdis c r w k))), (3, .int (nI (ssz c r w k))), (0, .ref sg), (1, .int (nI k)), (2, .int (iI v))]) hx hb dX5_valueAfter_17 hl (by decide) rfl (fun ls hl => ?_)
  refine lv_iload (pc := 19) hx hb dX5_valueAfter_19 (lv_at hl 0 rfl) ?_
  refine n_if_ne (pc := 21) (tgt := 28) hx hb (by omega) dX5_valueAfter_21 (by decide) (fun c21 => ?_) (fun c21 => ?_)
  · refine lv_iload_n (pc := 28) hx hb dX5_valueAfter_28 rfl (lv_at hl 1 rfl) ?_
    refine lv_iload_n (pc := 29) hx hb dX5_valueAfter_29 rfl (lv_at hl 4 rfl) ?_
    refine lv_isub (pc := 30) hx hb dX5_valueAfter_30 ?_
    refine top_i (show (nI (ssz c r w k)) - (iI v) = iI ((ssz c r w k : Int) - v) from by rw [iI_nI, iI_sub]) ?_
    refine lv_iload_n (pc := 31) hx hb dX5_valueAfter_31 rfl (lv_at hl 1 rfl) ?_
    refine lv_iload (pc := 32) hx hb dX5_valueAfter_32 (lv_at hl 0 rfl) ?_
    refine lv_isub (pc := 34) hx hb dX5_valueAfter_34 ?_
    refine lv_iload_n (pc := 35) hx hb dX5_valueAfter_35 rfl (lv_at hl 4 rfl) ?_
    refine lv_iadd (pc := 36) hx hb dX5_valueAfter_36 ?_
    refine top_i (show ((nI (ssz c r w k)) - (nI (sdis c r w k))) + (iI v) = iI ((ssz c r w k : Int) - sdis c r w k + v) from by rw [iI_nI, iI_nI, iI_sub, iI_add]) ?_
    refine va_mmax (pc := 37) hx hb (hml.trans hl.1.symm) hown (hts (.methodLink RX5 147 Lib.Math.max.name) (List.mem_of_getElem? (i := 3) rfl)) (hts (.static Lib.Math.max.name) (List.mem_of_getElem? (i := 4) rfl)) (hts (.initialized "java/lang/Math") (List.mem_of_getElem? (i := 5) rfl)) (hts (.code Lib.Math.max.name Lib.Math.max.code 2 (some .int)) (List.mem_of_getElem? (i := 6) rfl)) (Nat.le_of_ble_eq_true rfl) (Nat.le_of_ble_eq_true rfl) (Nat.le_of_ble_eq_true rfl) (Nat.le_of_ble_eq_true rfl) dX5_valueAfter_37 ?_
    exact ro_iret (v := mxI (iI ((ssz c r w k : Int) - v)) (iI ((ssz c r w k : Int) - sdis c r w k + v))) hx hb hr hlocks (by rw [iI_max (by omega) (by omega) (by omega) (by omega), wv_k (by omega)]) dX5_valueAfter_40
  refine lv_iload_n (pc := 24) hx hb dX5_valueAfter_24 rfl (lv_at hl 1 rfl) ?_
  refine lv_iload_n (pc := 25) hx hb dX5_valueAfter_25 rfl (lv_at hl 4 rfl) ?_
  refine lv_isub (pc := 26) hx hb dX5_valueAfter_26 ?_
  refine top_i (show (nI (ssz c r w k)) - (iI v) = iI ((ssz c r w k : Int) - v) from by rw [iI_nI, iI_sub]) ?_
  exact ro_iret (v := iI ((ssz c r w k : Int) - v)) hx hb hr hlocks (by rw [wv_c c21]) dX5_valueAfter_27

set_option maxHeartbeats 1200000 in
set_option maxRecDepth 100000 in
theorem c_X5_predictSet (l : Launch) (D : va_G) (Y : vY) (sg : Nat) (bd : Nat) (o8 : Nat) (o9 : Nat) (o10 : Nat) (o11 : Nat) (o12 : Nat) (o13 : Nat) (o14 : Nat) (o15 : Nat) (tx : Int32) (tq : Int64) (sn : Int64) (kn : Bool) (pr : Bool) (pq : Int32) (sz : Nat → Int32) (op : Nat → Int32) (di : Nat → Int32) (li : Nat → Int64) (va : Nat → Int32) (c : Nat) (r : Nat) (w : Int64) (s : Nat) (hC : Cr c r) (hfi : FinOK c r w (nst c r w) sz op di li) (h10 : nst c r w ≤ 10) (h0s : s ≠ 0) (hs0 : s < 2 ^ nst c r w) (htb : ∀ t, t < s → va t = iI (spv c r w t)) : Ro l yX5_predictSet wsX5_predictSet ({ frames := 2, cells := 0, slots := 0, locals := 48 } : Room) [.ref sg, .int (nI s)] D Y [(sg, .inr (4, [.int (nI (nst c r w)), .int tx, .long tq, .long sn, .int (zb kn), .int (zb pr), .int pq, .ref bd, .ref o8, .ref o9, .ref o10, .ref o11, .ref o12, .ref o13, .ref o14, .ref o15])), (o10, .inl (Y.1, 16, .inl sz)), (o12, .inl (Y.1, 16, .inl di)), (o15, .inl (Y.1, 1024, .inl va))] (some (.int (iI (spv c r w s)))) := by
  refine ro_intro (by decide +kernel) rfl (Nat.le_of_ble_eq_true rfl) [(0, .ref sg), (1, .int (nI s))] rfl ?_
  intro pG eG sG mG aG bG tG cG ls hx hb hr hml hts hown hlocks hK hP hl
  have hP : va_P D vwCl [(sg, .inr (4, [.int (nI (nst c r w)), .int tx, .long tq, .long sn, .int (zb kn), .int (zb pr), .int pq, .ref bd, .ref o8, .ref o9, .ref o10, .ref o11, .ref o12, .ref o13, .ref o14, .ref o15])), (o10, .inl (Y.1, 16, .inl sz)), (o12, .inl (Y.1, 16, .inl di)), (o15, .inl (Y.1, 1024, .inl va))] sG.heap := hP
  have hown : sG.vm.findClass RX5 = some mG.cls := hown
  have hl : lv_has ls 5 [(0, .ref sg), (1, .int (nI s))] := hl
  have hinX5 : ∀ w ∈ u_ws RX5 TX5 16, w ∈ wsX5_predictSet := by decide +kernel
  obtain ⟨hq1, hq2, hq3, hq4, hq5, hq6, hq7, hq8, hq9, hq10, hq11⟩ := hC.q
  have hns := nst_le c r w
  have hs4 := pow10 h10 hs0
  have hsn := sn_b hC w
  refine lv_sipush (pc := 0) (v := nI 1000) hx hb dX5_predictSet_0 rfl ?_
  refine top_i (show nI 1000 = iI 1000 from by decide) ?_
  refine lv_istore_n (pc := 3) (lv' := [(2, .int (iI 1000)), (0, .ref sg), (1, .int (nI s))]) hx hb dX5_predictSet_3 rfl hl (by decide) rfl (fun ls hl => ?_)
  refine lv_iconst (pc := 4) (v := nI 0) hx hb dX5_predictSet_4 rfl ?_
  refine lv_istore_n (pc := 5) (lv' := [(3, .int (nI 0)), (2, .int (iI 1000)), (0, .ref sg), (1, .int (nI s))]) hx hb dX5_predictSet_5 rfl hl (by decide) rfl (fun ls hl => ?_)
  have L6 : ∀ (n6 : Nat), ∀ (i : Nat) (z : Int), (i ≤ nst c r w) → (z = pm1 (ssz c r w) (sdis c r w) (nst c r w) s i) → nst c r w - i < n6 → ∀ (ls : Array Slot), lv_has ls 5 [(0, .ref sg), (1, .int (nI s)), (2, .int (iI z)), (3, .int (nI i))] → W pG l eG ({ frames := 2, cells := 0, slots := 0, locals := 48 } : Room) sG mG aG bG tG cG sG.heap [] 0 0 (MQ bG (RoQ (some (.int (iI (spv c r w s))))) aG sG 0 0 (fun _ => False)) (F0 mG 6 ls []) := by
    intro n6
    induction n6 with
    | zero =>
      intro i z hi hz hmeas6  ls hl
      exact absurd hmeas6 (Nat.not_lt_zero _)
    | succ n6 ih6 =>
      intro i z hi hz hmeas6  ls hl
      refine lv_iload_n (pc := 6) hx hb dX5_predictSet_6 rfl (lv_at hl 3 rfl) ?_
      refine lv_aload_n (pc := 7) hx hb dX5_predictSet_7 rfl (lv_at hl 0 rfl) ?_
      refine va_get (pc := 8) (D := D) (ci := 4) (v := .int (nI (nst c r w))) (C := RX5) (T := TX5) (N := 16) hx hb hts hinX5 hown hK.1 hP 0 rfl rfl 0 (by decide) (hts (.fieldLink RX5 56 "BoxesGame$Strings" "amount" "I") (List.mem_of_getElem? (i := 1) rfl)) (fun _ h9 => h9) rfl dX5_predictSet_8 ?_
      refine n_icmp_ge (pc := 11) (tgt := 55) hx hb (by omega) (by omega) dX5_predictSet_11 (by decide) (fun c11 => ?_) (fun c11 => ?_)
      · refine lv_iload_n (pc := 55) hx hb dX5_predictSet_55 rfl (lv_at hl 2 rfl) ?_
        exact ro_iret (v := iI z) hx hb hr hlocks (by rw [hz, show i = nst c r w by omega, pm1_e h0s hs0]; rfl) dX5_predictSet_56
      refine lv_iconst (pc := 14) (v := nI 1) hx hb dX5_predictSet_14 rfl ?_
      refine lv_iload_n (pc := 15) hx hb dX5_predictSet_15 rfl (lv_at hl 3 rfl) ?_
      refine lv_ishl (pc := 16) hx hb dX5_predictSet_16 ?_
      refine top_i (show (nI 1) <<< ((nI i) &&& 31) = nI (2 ^ i) from shl1 i (by omega)) ?_
      refine lv_istore (pc := 17) (lv' := [(4, .int (nI (2 ^ i))), (0, .ref sg), (1, .int (nI s)), (2, .int (iI z)), (3, .int (nI i))]) hx hb dX5_predictSet_17 hl (by decide) rfl (fun ls hl => ?_)
      refine lv_iload_n (pc := 19) hx hb dX5_predictSet_19 rfl (lv_at hl 2 rfl) ?_
      refine lv_iload (pc := 20) hx hb dX5_predictSet_20 (lv_at hl 0 rfl) ?_
      refine lv_iand (pc := 22) hx hb dX5_predictSet_22 ?_
      refine lv_if_eq (pc := 23) (tgt := 49) hx hb dX5_predictSet_23 (by decide) (fun c23 => ?_) (fun c23 => ?_)
      · refine lv_iinc (pc := 49) (v := nI (i + 1)) (lv' := [(3, .int (nI (i + 1))), (4, .int (nI (2 ^ i))), (0, .ref sg), (1, .int (nI s)), (2, .int (iI z))]) hx hb dX5_predictSet_49 hl (k := 4) rfl (n_inc i 1) (by decide) rfl (fun ls hl => ?_)
        refine lv_goto (pc := 52) (tgt := 6) hx hb dX5_predictSet_52 (by decide) ?_
        exact ih6 (i + 1) z (by first | assumption | omega) (by rw [pm1_n ((bit_and (by omega) (by omega)).mp c23), ← hz]) (by omega) _ (lv_sub hl [2, 3, 4, 0] rfl)
      have hbt : s.testBit i = true := by cases q : s.testBit i; exact absurd ((bit_and (by omega) (by omega)).mpr q) c23; rfl
      have hcl := clr_less hbt
      have hsv := pv_b h10 hsn (clr s i)
      have hwv := wv_b (hsn i c11).1 (hsn i c11).2 hsv
      have hzb := pm1_b (s := s) h10 hsn (Nat.le_of_lt c11)
      refine lv_iload_n (pc := 26) hx hb dX5_predictSet_26 rfl (lv_at hl 3 rfl) ?_
      refine lv_aload_n (pc := 27) hx hb dX5_predictSet_27 rfl (lv_at hl 1 rfl) ?_
      refine lv_iload_n (pc := 28) hx hb dX5_predictSet_28 rfl (lv_at hl 4 rfl) ?_
      refine lv_aload_n (pc := 29) hx hb dX5_predictSet_29 rfl (lv_at hl 1 rfl) ?_
      refine va_get (pc := 30) (D := D) (ci := 4) (v := .ref o15) (C := RX5) (T := TX5) (N := 16) hx hb hts hinX5 hown hK.1 hP 0 rfl rfl 15 (by decide) (hts (.fieldLink RX5 34 "BoxesGame$Strings" "values" "[I") (List.mem_of_getElem? (i := 2) rfl)) (fun _ h9 => h9) rfl dX5_predictSet_30 ?_
      refine lv_iload_n (pc := 33) hx hb dX5_predictSet_33 rfl (lv_at hl 2 rfl) ?_
      refine lv_iload (pc := 34) hx hb dX5_predictSet_34 (lv_at hl 0 rfl) ?_
      refine lv_iconst (pc := 36) (v := (-1)) hx hb dX5_predictSet_36 (by decide) ?_
      refine lv_ixor (pc := 37) hx hb dX5_predictSet_37 ?_
      refine lv_iand (pc := 38) hx hb dX5_predictSet_38 ?_
      refine top_i (show (nI s) &&& ((nI (2 ^ i)) ^^^ (-1)) = nI (clr s i) from nI_clr (by omega) (by omega)) ?_
      refine ro_go (pc := 39) (va_runS (As := [.ref o15, .int (nI (clr s i))]) (rest := [.int (nI i), .ref sg, .int (iI z)]) ⟨hx, hb, hml, hown, hts⟩ (c_X3_at_in l D Y 1024 va o15 (clr s i) (by decide) (by first | assumption | omega)) (va_cwS 2 hts gX5_predictSet_X3_at rfl rfl rfl hdX3_at ⟨Nat.le_of_ble_eq_true rfl, Nat.le_of_ble_eq_true rfl⟩) (ro_pS hK (hP.sub [3] rfl)) rfl rfl hl.1 rfl (lv_room (Nat.le_of_ble_eq_true rfl)) dX5_predictSet_39 ⟨Nat.le_of_ble_eq_true rfl, Nat.le_of_ble_eq_true rfl⟩) ?_
      refine top_i (show va (clr s i) = iI (spv c r w (clr s i)) from htb _ hcl) ?_
      refine ro_go (pc := 42) (va_runV (As := [.int (nI i), .int (iI (spv c r w (clr s i)))]) (rest := [.int (iI z)]) ⟨hx, hb, hml, hown, hts⟩ (c_X5_valueAfter l D Y sg bd o8 o9 o10 o11 o12 o13 o14 o15 (nI (nst c r w)) tx tq sn kn pr pq sz op di li c r w i (spv c r w (clr s i)) (hC) (c11) (hfi) (by unfold spv; omega)) (cwV 2 hts gX5_predictSet_X5_valueAfter rfl rfl rfl ⟨rfl, hdX5_valueAfter⟩ ⟨Nat.le_of_ble_eq_true rfl, Nat.le_of_ble_eq_true rfl⟩) (ro_pV hK (hP.sub [0, 1, 2] rfl) (ro_recv hK hP (ci := 4) (q0 := 0) rfl rfl)) rfl rfl hl.1 rfl (lv_room (Nat.le_of_ble_eq_true rfl)) dX5_predictSet_42 ⟨Nat.le_of_ble_eq_true rfl, Nat.le_of_ble_eq_true rfl⟩) ?_
      refine va_mmin (pc := 45) hx hb (hml.trans hl.1.symm) hown (hts (.methodLink RX5 135 Lib.Math.min.name) (List.mem_of_getElem? (i := 3) rfl)) (hts (.static Lib.Math.min.name) (List.mem_of_getElem? (i := 4) rfl)) (hts (.initialized "java/lang/Math") (List.mem_of_getElem? (i := 5) rfl)) (hts (.code Lib.Math.min.name Lib.Math.min.code 2 (some .int)) (List.mem_of_getElem? (i := 6) rfl)) (Nat.le_of_ble_eq_true rfl) (Nat.le_of_ble_eq_true rfl) (Nat.le_of_ble_eq_true rfl) (Nat.le_of_ble_eq_true rfl) dX5_predictSet_45 ?_
      refine top_i (show mnI (iI z) (iI (wv (ssz c r w i) (sdis c r w i) (spv c r w (clr s i)))) = iI (min z (wv (ssz c r w i) (sdis c r w i) (spv c r w (clr s i)))) from iI_min (by omega) (by omega) (by unfold spv; omega) (by unfold spv; omega)) ?_
      refine lv_istore_n (pc := 48) (lv' := [(2, .int (iI (min z (wv (ssz c r w i) (sdis c r w i) (spv c r w (clr s i)))))), (4, .int (nI (2 ^ i))), (0, .ref sg), (1, .int (nI s)), (3, .int (nI i))]) hx hb dX5_predictSet_48 rfl hl (by decide) rfl (fun ls hl => ?_)
      refine lv_iinc (pc := 49) (v := nI (i + 1)) (lv' := [(3, .int (nI (i + 1))), (2, .int (iI (min z (wv (ssz c r w i) (sdis c r w i) (spv c r w (clr s i)))))), (4, .int (nI (2 ^ i))), (0, .ref sg), (1, .int (nI s))]) hx hb dX5_predictSet_49 hl (k := 4) rfl (n_inc i 1) (by decide) rfl (fun ls hl => ?_)
      refine lv_goto (pc := 52) (tgt := 6) hx hb dX5_predictSet_52 (by decide) ?_
      exact ih6 (i + 1) (min z (wv (ssz c r w i) (sdis c r w i) (spv c r w (clr s i)))) (by first | assumption | omega) (by rw [pm1_s h10 hsn c11 hbt, ← hz]; rfl) (by omega) _ (lv_sub hl [3, 4, 1, 0] rfl)
  exact L6 ((nst c r w - 0) + 1) 0 1000 (by first | assumption | omega) (rfl) (Nat.lt_succ_self _) _ (lv_sub hl [2, 3, 1, 0] rfl)

set_option maxHeartbeats 1200000 in
set_option maxRecDepth 100000 in
theorem c_X5_predictAll (l : Launch) (D : va_G) (Y : vY) (sg : Nat) (bd : Nat) (o8 : Nat) (o9 : Nat) (o10 : Nat) (o11 : Nat) (o12 : Nat) (o13 : Nat) (o14 : Nat) (o15 : Nat) (tx : Int32) (tq : Int64) (sn : Int64) (kn : Bool) (pr : Bool) (pq : Int32) (sz : Nat → Int32) (op : Nat → Int32) (di : Nat → Int32) (li : Nat → Int64) (va : Nat → Int32) (c : Nat) (r : Nat) (w : Int64) (hC : Cr c r) (hfi : FinOK c r w (nst c r w) sz op di li) (h10 : nst c r w ≤ 10) : Mu l yX5_predictAll wsX5_predictAll ({ frames := 3, cells := 0, slots := 0, locals := 72 } : Room) [.ref sg] D Y [(sg, .inr (4, [.int (nI (nst c r w)), .int tx, .long tq, .long sn, .int (zb kn), .int (zb pr), .int pq, .ref bd, .ref o8, .ref o9, .ref o10, .ref o11, .ref o12, .ref o13, .ref o14, .ref o15])), (o10, .inl (Y.1, 16, .inl sz)), (o12, .inl (Y.1, 16, .inl di)), (o15, .inl (Y.1, 1024, .inl va))] (fun uS : Nat → Int32 => some (.int (iI (prd c r w)))) (fun uS : Nat → Int32 => [(sg, .inr (4, [.int (nI (nst c r w)), .int tx, .long tq, .long sn, .int (zb kn), .int (zb pr), .int pq, .ref bd, .ref o8, .ref o9, .ref o10, .ref o11, .ref o12, .ref o13, .ref o14, .ref o15])), (o10, .inl (Y.1, 16, .inl sz)), (o12, .inl (Y.1, 16, .inl di)), (o15, .inl (Y.1, 1024, .inl uS))]) (fun uS : Nat → Int32 => True) := by
  refine mu_intro (by decide +kernel) rfl (Nat.le_of_ble_eq_true rfl) [(0, .ref sg)] rfl ?_
  intro pG eG sG mG aG bG tG cG ls hx hb hr hml hts hown hlocks hK hP hD hS hl
  generalize hAA : adA [(sg, .inr (4, [.int (nI (nst c r w)), .int tx, .long tq, .long sn, .int (zb kn), .int (zb pr), .int pq, .ref bd, .ref o8, .ref o9, .ref o10, .ref o11, .ref o12, .ref o13, .ref o14, .ref o15])), (o10, .inl (Y.1, 16, .inl sz)), (o12, .inl (Y.1, 16, .inl di)), (o15, .inl (Y.1, 1024, .inl va))] = AA at hD hS ⊢
  have hP : va_P D vwCl [(sg, .inr (4, [.int (nI (nst c r w)), .int tx, .long tq, .long sn, .int (zb kn), .int (zb pr), .int pq, .ref bd, .ref o8, .ref o9, .ref o10, .ref o11, .ref o12, .ref o13, .ref o14, .ref o15])), (o10, .inl (Y.1, 16, .inl sz)), (o12, .inl (Y.1, 16, .inl di)), (o15, .inl (Y.1, 1024, .inl va))] sG.heap := hP
  have hD : va_D AA [(sg, .inr (4, [.int (nI (nst c r w)), .int tx, .long tq, .long sn, .int (zb kn), .int (zb pr), .int pq, .ref bd, .ref o8, .ref o9, .ref o10, .ref o11, .ref o12, .ref o13, .ref o14, .ref o15])), (o10, .inl (Y.1, 16, .inl sz)), (o12, .inl (Y.1, 16, .inl di)), (o15, .inl (Y.1, 1024, .inl va))] := hD
  have hown : sG.vm.findClass RX5 = some mG.cls := hown
  have hl : lv_has ls 3 [(0, .ref sg)] := hl
  have hinX5 : ∀ w ∈ u_ws RX5 TX5 16, w ∈ wsX5_predictAll := by decide +kernel
  have hS : va_S AA sG.heap sG.heap [] := hS
  obtain ⟨hq1, hq2, hq3, hq4, hq5, hq6, hq7, hq8, hq9, hq10, hq11⟩ := hC.q
  have hns := nst_le c r w
  have h2p := Nat.two_pow_pos (nst c r w)
  have h2q : 2 ^ nst c r w ≤ 1024 := Nat.pow_le_pow_right (by decide) h10
  refine lv_iconst (pc := 0) (v := nI 1) hx hb dX5_predictAll_0 rfl ?_
  refine lv_aload_n (pc := 1) hx hb dX5_predictAll_1 rfl (lv_at hl 0 rfl) ?_
  refine va_get (pc := 2) (D := D) (ci := 4) (v := .int (nI (nst c r w))) (C := RX5) (T := TX5) (N := 16) hx hb hts hinX5 hown hK.1 hP 0 rfl rfl 0 (by decide) (hts (.fieldLink RX5 56 "BoxesGame$Strings" "amount" "I") (List.mem_of_getElem? (i := 1) rfl)) (fun _ h9 => h9) rfl dX5_predictAll_2 ?_
  refine lv_bipush (pc := 5) (v := nI 10) hx hb dX5_predictAll_5 rfl ?_
  refine va_mmin (pc := 7) hx hb (hml.trans hl.1.symm) hown (hts (.methodLink RX5 135 Lib.Math.min.name) (List.mem_of_getElem? (i := 2) rfl)) (hts (.static Lib.Math.min.name) (List.mem_of_getElem? (i := 3) rfl)) (hts (.initialized "java/lang/Math") (List.mem_of_getElem? (i := 4) rfl)) (hts (.code Lib.Math.min.name Lib.Math.min.code 2 (some .int)) (List.mem_of_getElem? (i := 5) rfl)) (Nat.le_of_ble_eq_true rfl) (Nat.le_of_ble_eq_true rfl) (Nat.le_of_ble_eq_true rfl) (Nat.le_of_ble_eq_true rfl) dX5_predictAll_7 ?_
  refine top_i (show mnI (nI (nst c r w)) (nI 10) = nI (nst c r w) from mn10 h10) ?_
  refine lv_ishl (pc := 10) hx hb dX5_predictAll_10 ?_
  refine top_i (show (nI 1) <<< ((nI (nst c r w)) &&& 31) = nI (2 ^ nst c r w) from shl1 _ (by omega)) ?_
  refine lv_istore_n (pc := 11) (lv' := [(1, .int (nI (2 ^ nst c r w))), (0, .ref sg)]) hx hb dX5_predictAll_11 rfl hl (by decide) rfl (fun ls hl => ?_)
  refine lv_aload_n (pc := 12) hx hb dX5_predictAll_12 rfl (lv_at hl 1 rfl) ?_
  refine va_get (pc := 13) (D := D) (ci := 4) (v := .ref o15) (C := RX5) (T := TX5) (N := 16) hx hb hts hinX5 hown hK.1 hP 0 rfl rfl 15 (by decide) (hts (.fieldLink RX5 34 "BoxesGame$Strings" "values" "[I") (List.mem_of_getElem? (i := 6) rfl)) (fun _ h9 => h9) rfl dX5_predictAll_13 ?_
  refine lv_iconst (pc := 16) (v := nI 0) hx hb dX5_predictAll_16 rfl ?_
  refine lv_iconst (pc := 17) (v := nI 0) hx hb dX5_predictAll_17 rfl ?_
  refine mu_go (pc := 18) (va_runS (As := [.ref o15, .int (nI 0), .int (nI 0)]) (rest := []) ⟨hx, hb, hml, hown, hts⟩ (c_X3_put_in l D Y 1024 va o15 0 (nI 0) (by decide) (by first | assumption | omega)) (va_cwS 3 hts gX5_predictAll_X3_put rfl rfl rfl hdX3_put ⟨Nat.le_of_ble_eq_true rfl, Nat.le_of_ble_eq_true rfl⟩) (mu_pS hK (hP.sub [3] rfl) (hD.sub [3] (by decide) rfl)) rfl rfl hl.1 rfl (lv_room (Nat.le_of_ble_eq_true rfl)) dX5_predictAll_18 ⟨Nat.le_of_ble_eq_true rfl, Nat.le_of_ble_eq_true rfl⟩) hP hD hS [3] rfl (by decide) (fun _ => [(sg, .inr (4, [.int (nI (nst c r w)), .int tx, .long tq, .long sn, .int (zb kn), .int (zb pr), .int pq, .ref bd, .ref o8, .ref o9, .ref o10, .ref o11, .ref o12, .ref o13, .ref o14, .ref o15])), (o10, .inl (Y.1, 16, .inl sz)), (o12, .inl (Y.1, 16, .inl di)), (o15, .inl (Y.1, 1024, .inl (upd va 0 (nI 0))))]) (fun _ => rfl) (fun _ => rfl) (fun uS H locs hpost hP hD hS => ?_)
  have hP : va_P D vwCl [(sg, .inr (4, [.int (nI (nst c r w)), .int tx, .long tq, .long sn, .int (zb kn), .int (zb pr), .int pq, .ref bd, .ref o8, .ref o9, .ref o10, .ref o11, .ref o12, .ref o13, .ref o14, .ref o15])), (o10, .inl (Y.1, 16, .inl sz)), (o12, .inl (Y.1, 16, .inl di)), (o15, .inl (Y.1, 1024, .inl (upd va 0 (nI 0))))] H := hP
  have hD : va_D AA [(sg, .inr (4, [.int (nI (nst c r w)), .int tx, .long tq, .long sn, .int (zb kn), .int (zb pr), .int pq, .ref bd, .ref o8, .ref o9, .ref o10, .ref o11, .ref o12, .ref o13, .ref o14, .ref o15])), (o10, .inl (Y.1, 16, .inl sz)), (o12, .inl (Y.1, 16, .inl di)), (o15, .inl (Y.1, 1024, .inl (upd va 0 (nI 0))))] := hD
  refine lv_iconst (pc := 21) (v := nI 1) hx hb dX5_predictAll_21 rfl ?_
  refine lv_istore_n (pc := 22) (lv' := [(2, .int (nI 1)), (1, .int (nI (2 ^ nst c r w))), (0, .ref sg)]) hx hb dX5_predictAll_22 rfl hl (by decide) rfl (fun ls hl => ?_)
  have L23 : ∀ (n23 : Nat), ∀ (s : Nat) (vb : Nat → Int32), (1 ≤ s) → (s ≤ 2 ^ nst c r w) → (∀ t, t < s → vb t = iI (spv c r w t)) → 2 ^ nst c r w - s < n23 → ∀ (H : Heap) (locs : List Loc), va_P D vwCl [(sg, .inr (4, [.int (nI (nst c r w)), .int tx, .long tq, .long sn, .int (zb kn), .int (zb pr), .int pq, .ref bd, .ref o8, .ref o9, .ref o10, .ref o11, .ref o12, .ref o13, .ref o14, .ref o15])), (o10, .inl (Y.1, 16, .inl sz)), (o12, .inl (Y.1, 16, .inl di)), (o15, .inl (Y.1, 1024, .inl vb))] H → va_D AA [(sg, .inr (4, [.int (nI (nst c r w)), .int tx, .long tq, .long sn, .int (zb kn), .int (zb pr), .int pq, .ref bd, .ref o8, .ref o9, .ref o10, .ref o11, .ref o12, .ref o13, .ref o14, .ref o15])), (o10, .inl (Y.1, 16, .inl sz)), (o12, .inl (Y.1, 16, .inl di)), (o15, .inl (Y.1, 1024, .inl vb))] → va_S AA sG.heap H locs → ∀ (ls : Array Slot), lv_has ls 3 [(0, .ref sg), (1, .int (nI (2 ^ nst c r w))), (2, .int (nI s))] → W pG l eG ({ frames := 3, cells := 0, slots := 0, locals := 72 } : Room) sG mG aG bG tG cG H locs 0 0 (MQ bG (MuQ D [(sg, .inr (4, [.int (nI (nst c r w)), .int tx, .long tq, .long sn, .int (zb kn), .int (zb pr), .int pq, .ref bd, .ref o8, .ref o9, .ref o10, .ref o11, .ref o12, .ref o13, .ref o14, .ref o15])), (o10, .inl (Y.1, 16, .inl sz)), (o12, .inl (Y.1, 16, .inl di)), (o15, .inl (Y.1, 1024, .inl va))] (fun uS : Nat → Int32 => some (.int (iI (prd c r w)))) (fun uS : Nat → Int32 => [(sg, .inr (4, [.int (nI (nst c r w)), .int tx, .long tq, .long sn, .int (zb kn), .int (zb pr), .int pq, .ref bd, .ref o8, .ref o9, .ref o10, .ref o11, .ref o12, .ref o13, .ref o14, .ref o15])), (o10, .inl (Y.1, 16, .inl sz)), (o12, .inl (Y.1, 16, .inl di)), (o15, .inl (Y.1, 1024, .inl uS))]) (fun uS : Nat → Int32 => True)) aG sG 0 0 AA) (F0 mG 23 ls []) := by
    intro n23
    induction n23 with
    | zero =>
      intro s vb h1s hs htb hmeas23 H locs hP hD hS ls hl
      exact absurd hmeas23 (Nat.not_lt_zero _)
    | succ n23 ih23 =>
      intro s vb h1s hs htb hmeas23 H locs hP hD hS ls hl
      refine lv_iload_n (pc := 23) hx hb dX5_predictAll_23 rfl (lv_at hl 2 rfl) ?_
      refine lv_iload_n (pc := 24) hx hb dX5_predictAll_24 rfl (lv_at hl 1 rfl) ?_
      refine n_icmp_ge (pc := 25) (tgt := 47) hx hb (by omega) (by omega) dX5_predictAll_25 (by decide) (fun c25 => ?_) (fun c25 => ?_)
      · refine lv_aload_n (pc := 47) hx hb dX5_predictAll_47 rfl (lv_at hl 0 rfl) ?_
        refine va_get (pc := 48) (D := D) (ci := 4) (v := .ref o15) (C := RX5) (T := TX5) (N := 16) hx hb hts hinX5 hown hK.1 hP 0 rfl rfl 15 (by decide) (hts (.fieldLink RX5 34 "BoxesGame$Strings" "values" "[I") (List.mem_of_getElem? (i := 6) rfl)) (fun _ h9 => h9) rfl dX5_predictAll_48 ?_
        refine lv_iload_n (pc := 51) hx hb dX5_predictAll_51 rfl (lv_at hl 1 rfl) ?_
        refine lv_iconst (pc := 52) (v := nI 1) hx hb dX5_predictAll_52 rfl ?_
        refine n_isub (pc := 53) hx hb (by omega) dX5_predictAll_53 ?_
        refine ro_go (pc := 54) (va_runS (As := [.ref o15, .int (nI ((2 ^ nst c r w) - 1))]) (rest := []) ⟨hx, hb, hml, hown, hts⟩ (c_X3_at_in l D Y 1024 vb o15 ((2 ^ nst c r w) - 1) (by decide) (by first | assumption | omega)) (va_cwS 2 hts gX5_predictAll_X3_at rfl rfl rfl hdX3_at ⟨Nat.le_of_ble_eq_true rfl, Nat.le_of_ble_eq_true rfl⟩) (ro_pS hK (hP.sub [3] rfl)) rfl rfl hl.1 rfl (lv_room (Nat.le_of_ble_eq_true rfl)) dX5_predictAll_54 ⟨Nat.le_of_ble_eq_true rfl, Nat.le_of_ble_eq_true rfl⟩) ?_
        refine top_i (show vb ((2 ^ nst c r w) - 1) = iI (prd c r w) from htb _ (by omega)) ?_
        subst hAA
        exact mu_iret hx hb hr hlocks hP hS (vb) (rfl) (trivial) (rfl) dX5_predictAll_57
      refine lv_aload_n (pc := 28) hx hb dX5_predictAll_28 rfl (lv_at hl 0 rfl) ?_
      refine va_get (pc := 29) (D := D) (ci := 4) (v := .ref o15) (C := RX5) (T := TX5) (N := 16) hx hb hts hinX5 hown hK.1 hP 0 rfl rfl 15 (by decide) (hts (.fieldLink RX5 34 "BoxesGame$Strings" "values" "[I") (List.mem_of_getElem? (i := 6) rfl)) (fun _ h9 => h9) rfl dX5_predictAll_29 ?_
      refine lv_iload_n (pc := 32) hx hb dX5_predictAll_32 rfl (lv_at hl 2 rfl) ?_
      refine lv_aload_n (pc := 33) hx hb dX5_predictAll_33 rfl (lv_at hl 0 rfl) ?_
      refine lv_iload_n (pc := 34) hx hb dX5_predictAll_34 rfl (lv_at hl 2 rfl) ?_
      refine ro_go (pc := 35) (va_runV (As := [.int (nI s)]) (rest := [.int (nI s), .ref o15]) ⟨hx, hb, hml, hown, hts⟩ (c_X5_predictSet l D Y sg bd o8 o9 o10 o11 o12 o13 o14 o15 tx tq sn kn pr pq sz op di li vb c r w s (hC) (hfi) (h10) (by omega) (c25) (by first | assumption | omega)) (cwV 1 hts gX5_predictAll_X5_predictSet rfl rfl rfl ⟨rfl, hdX5_predictSet⟩ ⟨Nat.le_of_ble_eq_true rfl, Nat.le_of_ble_eq_true rfl⟩) (ro_pV hK hP (ro_recv hK hP (ci := 4) (q0 := 0) rfl rfl)) rfl rfl hl.1 rfl (lv_room (Nat.le_of_ble_eq_true rfl)) dX5_predictAll_35 ⟨Nat.le_of_ble_eq_true rfl, Nat.le_of_ble_eq_true rfl⟩) ?_
      refine mu_go (pc := 38) (va_runS (As := [.ref o15, .int (nI s), .int (iI (spv c r w s))]) (rest := []) ⟨hx, hb, hml, hown, hts⟩ (c_X3_put_in l D Y 1024 vb o15 s (iI (spv c r w s)) (by decide) (by first | assumption | omega)) (va_cwS 3 hts gX5_predictAll_X3_put rfl rfl rfl hdX3_put ⟨Nat.le_of_ble_eq_true rfl, Nat.le_of_ble_eq_true rfl⟩) (mu_pS hK (hP.sub [3] rfl) (hD.sub [3] (by decide) rfl)) rfl rfl hl.1 rfl (lv_room (Nat.le_of_ble_eq_true rfl)) dX5_predictAll_38 ⟨Nat.le_of_ble_eq_true rfl, Nat.le_of_ble_eq_true rfl⟩) hP hD hS [3] rfl (by decide) (fun _ => [(sg, .inr (4, [.int (nI (nst c r w)), .int tx, .long tq, .long sn, .int (zb kn), .int (zb pr), .int pq, .ref bd, .ref o8, .ref o9, .ref o10, .ref o11, .ref o12, .ref o13, .ref o14, .ref o15])), (o10, .inl (Y.1, 16, .inl sz)), (o12, .inl (Y.1, 16, .inl di)), (o15, .inl (Y.1, 1024, .inl (upd vb s (iI (spv c r w s)))))]) (fun _ => rfl) (fun _ => rfl) (fun uS H locs hpost hP hD hS => ?_)
      have hP : va_P D vwCl [(sg, .inr (4, [.int (nI (nst c r w)), .int tx, .long tq, .long sn, .int (zb kn), .int (zb pr), .int pq, .ref bd, .ref o8, .ref o9, .ref o10, .ref o11, .ref o12, .ref o13, .ref o14, .ref o15])), (o10, .inl (Y.1, 16, .inl sz)), (o12, .inl (Y.1, 16, .inl di)), (o15, .inl (Y.1, 1024, .inl (upd vb s (iI (spv c r w s)))))] H := hP
      have hD : va_D AA [(sg, .inr (4, [.int (nI (nst c r w)), .int tx, .long tq, .long sn, .int (zb kn), .int (zb pr), .int pq, .ref bd, .ref o8, .ref o9, .ref o10, .ref o11, .ref o12, .ref o13, .ref o14, .ref o15])), (o10, .inl (Y.1, 16, .inl sz)), (o12, .inl (Y.1, 16, .inl di)), (o15, .inl (Y.1, 1024, .inl (upd vb s (iI (spv c r w s)))))] := hD
      refine lv_iinc (pc := 41) (v := nI (s + 1)) (lv' := [(2, .int (nI (s + 1))), (0, .ref sg), (1, .int (nI (2 ^ nst c r w)))]) hx hb dX5_predictAll_41 hl (k := 2) rfl (n_inc s 1) (by decide) rfl (fun ls hl => ?_)
      refine lv_goto (pc := 44) (tgt := 23) hx hb dX5_predictAll_44 (by decide) ?_
      exact ih23 (s + 1) (upd vb s (iI (spv c r w s))) (by first | assumption | omega) (by first | assumption | omega) (lt_s (fun t ht => by rw [pk_un (by omega)]; exact htb t ht) pk_us) (by omega) _ _ hP hD hS _ (lv_sub hl [1, 2, 0] rfl)
  exact L23 ((2 ^ nst c r w - 1) + 1) 1 (upd va 0 (nI 0)) (by first | assumption | omega) (by first | assumption | omega) (fun t ht => by rw [show t = 0 by omega, pk_us]; unfold spv; rw [pv_0]; rfl) (Nat.lt_succ_self _) _ _ hP hD hS _ (lv_sub hl [2, 1, 0] rfl)

set_option maxHeartbeats 1200000 in
set_option maxRecDepth 100000 in
theorem c_X5_predict (l : Launch) (D : va_G) (Y : vY) (sg : Nat) (bd : Nat) (o8 : Nat) (o9 : Nat) (o10 : Nat) (o11 : Nat) (o12 : Nat) (o13 : Nat) (o14 : Nat) (o15 : Nat) (tx : Int32) (tq : Int64) (sn : Int64) (kn : Bool) (pr : Bool) (pq : Int32) (sz : Nat → Int32) (op : Nat → Int32) (di : Nat → Int32) (li : Nat → Int64) (va : Nat → Int32) (c : Nat) (r : Nat) (w : Int64) (hC : Cr c r) (hfi : FinOK c r w (nst c r w) sz op di li) (h10 : nst c r w ≤ 10) (hpr : pr = true → pq = iI (prd c r w)) : Mu l yX5_predict wsX5_predict ({ frames := 4, cells := 0, slots := 0, locals := 94 } : Room) [.ref sg] D Y [(sg, .inr (4, [.int (nI (nst c r w)), .int tx, .long tq, .long sn, .int (zb kn), .int (zb pr), .int pq, .ref bd, .ref o8, .ref o9, .ref o10, .ref o11, .ref o12, .ref o13, .ref o14, .ref o15])), (o10, .inl (Y.1, 16, .inl sz)), (o12, .inl (Y.1, 16, .inl di)), (o15, .inl (Y.1, 1024, .inl va))] (fun uS : Nat → Int32 => some (.int (iI (prd c r w)))) (fun uS : Nat → Int32 => [(sg, .inr (4, [.int (nI (nst c r w)), .int tx, .long tq, .long sn, .int (zb kn), .int (zb true), .int (iI (prd c r w)), .ref bd, .ref o8, .ref o9, .ref o10, .ref o11, .ref o12, .ref o13, .ref o14, .ref o15])), (o10, .inl (Y.1, 16, .inl sz)), (o12, .inl (Y.1, 16, .inl di)), (o15, .inl (Y.1, 1024, .inl uS))]) (fun uS : Nat → Int32 => True) := by
  refine mu_intro (by decide +kernel) rfl (Nat.le_of_ble_eq_true rfl) [(0, .ref sg)] rfl ?_
  intro pG eG sG mG aG bG tG cG ls hx hb hr hml hts hown hlocks hK hP hD hS hl
  generalize hAA : adA [(sg, .inr (4, [.int (nI (nst c r w)), .int tx, .long tq, .long sn, .int (zb kn), .int (zb pr), .int pq, .ref bd, .ref o8, .ref o9, .ref o10, .ref o11, .ref o12, .ref o13, .ref o14, .ref o15])), (o10, .inl (Y.1, 16, .inl sz)), (o12, .inl (Y.1, 16, .inl di)), (o15, .inl (Y.1, 1024, .inl va))] = AA at hD hS ⊢
  have hP : va_P D vwCl [(sg, .inr (4, [.int (nI (nst c r w)), .int tx, .long tq, .long sn, .int (zb kn), .int (zb pr), .int pq, .ref bd, .ref o8, .ref o9, .ref o10, .ref o11, .ref o12, .ref o13, .ref o14, .ref o15])), (o10, .inl (Y.1, 16, .inl sz)), (o12, .inl (Y.1, 16, .inl di)), (o15, .inl (Y.1, 1024, .inl va))] sG.heap := hP
  have hD : va_D AA [(sg, .inr (4, [.int (nI (nst c r w)), .int tx, .long tq, .long sn, .int (zb kn), .int (zb pr), .int pq, .ref bd, .ref o8, .ref o9, .ref o10, .ref o11, .ref o12, .ref o13, .ref o14, .ref o15])), (o10, .inl (Y.1, 16, .inl sz)), (o12, .inl (Y.1, 16, .inl di)), (o15, .inl (Y.1, 1024, .inl va))] := hD
  have hown : sG.vm.findClass RX5 = some mG.cls := hown
  have hl : lv_has ls 1 [(0, .ref sg)] := hl
  have hinX5 : ∀ w ∈ u_ws RX5 TX5 16, w ∈ wsX5_predict := by decide +kernel
  have hS : va_S AA sG.heap sG.heap [] := hS
  refine lv_aload_n (pc := 0) hx hb dX5_predict_0 rfl (lv_at hl 0 rfl) ?_
  refine va_get (pc := 1) (D := D) (ci := 4) (v := .int (zb pr)) (C := RX5) (T := TX5) (N := 16) hx hb hts hinX5 hown hK.1 hP 0 rfl rfl 5 (by decide) (hts (.fieldLink RX5 49 "BoxesGame$Strings" "predicted" "Z") (List.mem_of_getElem? (i := 1) rfl)) (fun _ h9 => h9) rfl dX5_predict_1 ?_
  refine z_if_ne (pc := 4) (tgt := 20) hx hb dX5_predict_4 (by decide) (fun c4 => ?_) (fun c4 => ?_)
  · refine lv_aload_n (pc := 20) hx hb dX5_predict_20 rfl (lv_at hl 0 rfl) ?_
    refine va_get (pc := 21) (D := D) (ci := 4) (v := .int pq) (C := RX5) (T := TX5) (N := 16) hx hb hts hinX5 hown hK.1 hP 0 rfl rfl 6 (by decide) (hts (.fieldLink RX5 132 "BoxesGame$Strings" "predictedValue" "I") (List.mem_of_getElem? (i := 2) rfl)) (fun _ h9 => h9) rfl dX5_predict_21 ?_
    subst hAA
    exact mu_iret hx hb hr hlocks hP hS (va) (by rw [hpr c4]) (trivial) (by rw [hpr c4, c4]) dX5_predict_24
  refine lv_aload_n (pc := 7) hx hb dX5_predict_7 rfl (lv_at hl 0 rfl) ?_
  refine lv_aload_n (pc := 8) hx hb dX5_predict_8 rfl (lv_at hl 0 rfl) ?_
  refine mu_go (pc := 9) (va_runV (As := []) (rest := [.ref sg]) ⟨hx, hb, hml, hown, hts⟩ (c_X5_predictAll l D Y sg bd o8 o9 o10 o11 o12 o13 o14 o15 tx tq sn kn pr pq sz op di li va c r w (hC) (hfi) (h10)) (cwV 0 hts gX5_predict_X5_predictAll rfl rfl rfl ⟨rfl, hdX5_predictAll⟩ ⟨Nat.le_of_ble_eq_true rfl, Nat.le_of_ble_eq_true rfl⟩) (mu_pV hK hP hD (ro_recv hK hP (ci := 4) (q0 := 0) rfl rfl)) rfl rfl hl.1 rfl (lv_room (Nat.le_of_ble_eq_true rfl)) dX5_predict_9 ⟨Nat.le_of_ble_eq_true rfl, Nat.le_of_ble_eq_true rfl⟩) hP hD hS [0, 1, 2, 3] rfl (by decide) (fun uS => [(sg, .inr (4, [.int (nI (nst c r w)), .int tx, .long tq, .long sn, .int (zb kn), .int (zb pr), .int pq, .ref bd, .ref o8, .ref o9, .ref o10, .ref o11, .ref o12, .ref o13, .ref o14, .ref o15])), (o10, .inl (Y.1, 16, .inl sz)), (o12, .inl (Y.1, 16, .inl di)), (o15, .inl (Y.1, 1024, .inl uS))]) (fun _ => rfl) (fun _ => rfl) (fun va2_9 H locs hpost hP hD hS => ?_)
  have hP : va_P D vwCl [(sg, .inr (4, [.int (nI (nst c r w)), .int tx, .long tq, .long sn, .int (zb kn), .int (zb pr), .int pq, .ref bd, .ref o8, .ref o9, .ref o10, .ref o11, .ref o12, .ref o13, .ref o14, .ref o15])), (o10, .inl (Y.1, 16, .inl sz)), (o12, .inl (Y.1, 16, .inl di)), (o15, .inl (Y.1, 1024, .inl va2_9))] H := hP
  have hD : va_D AA [(sg, .inr (4, [.int (nI (nst c r w)), .int tx, .long tq, .long sn, .int (zb kn), .int (zb pr), .int pq, .ref bd, .ref o8, .ref o9, .ref o10, .ref o11, .ref o12, .ref o13, .ref o14, .ref o15])), (o10, .inl (Y.1, 16, .inl sz)), (o12, .inl (Y.1, 16, .inl di)), (o15, .inl (Y.1, 1024, .inl va2_9))] := hD
  refine va_put (pc := 12) (D := D) (ci := 4) (v := .int (iI (prd c r w))) (ty := .int) (C := RX5) (T := TX5) (N := 16) hx hb hts hinX5 tyX5 tyX5_ok nmX5 hown hK.1 hP hD hS 0 rfl rfl 6 (by decide) (hts (.fieldLink RX5 132 "BoxesGame$Strings" "predictedValue" "I") (List.mem_of_getElem? (i := 2) rfl)) (fun _ h9 => h9) rfl (by decide +kernel) (rfl) (rfl) (Nat.le_of_ble_eq_true rfl) dX5_predict_12 (fun H locs hP hD hS => ?_)
  have hP : va_P D vwCl [(sg, .inr (4, [.int (nI (nst c r w)), .int tx, .long tq, .long sn, .int (zb kn), .int (zb pr), .int (iI (prd c r w)), .ref bd, .ref o8, .ref o9, .ref o10, .ref o11, .ref o12, .ref o13, .ref o14, .ref o15])), (o10, .inl (Y.1, 16, .inl sz)), (o12, .inl (Y.1, 16, .inl di)), (o15, .inl (Y.1, 1024, .inl va2_9))] H := hP
  have hD : va_D AA [(sg, .inr (4, [.int (nI (nst c r w)), .int tx, .long tq, .long sn, .int (zb kn), .int (zb pr), .int (iI (prd c r w)), .ref bd, .ref o8, .ref o9, .ref o10, .ref o11, .ref o12, .ref o13, .ref o14, .ref o15])), (o10, .inl (Y.1, 16, .inl sz)), (o12, .inl (Y.1, 16, .inl di)), (o15, .inl (Y.1, 1024, .inl va2_9))] := hD
  refine lv_aload_n (pc := 15) hx hb dX5_predict_15 rfl (lv_at hl 0 rfl) ?_
  refine lv_iconst (pc := 16) (v := zb true) hx hb dX5_predict_16 rfl ?_
  refine va_put (pc := 17) (D := D) (ci := 4) (v := .int (zb true)) (ty := .boolean) (C := RX5) (T := TX5) (N := 16) hx hb hts hinX5 tyX5 tyX5_ok nmX5 hown hK.1 hP hD hS 0 rfl rfl 5 (by decide) (hts (.fieldLink RX5 49 "BoxesGame$Strings" "predicted" "Z") (List.mem_of_getElem? (i := 1) rfl)) (fun _ h9 => h9) rfl (by decide +kernel) (zb_nar _) (zb_fit _) (Nat.le_of_ble_eq_true rfl) dX5_predict_17 (fun H locs hP hD hS => ?_)
  have hP : va_P D vwCl [(sg, .inr (4, [.int (nI (nst c r w)), .int tx, .long tq, .long sn, .int (zb kn), .int (zb true), .int (iI (prd c r w)), .ref bd, .ref o8, .ref o9, .ref o10, .ref o11, .ref o12, .ref o13, .ref o14, .ref o15])), (o10, .inl (Y.1, 16, .inl sz)), (o12, .inl (Y.1, 16, .inl di)), (o15, .inl (Y.1, 1024, .inl va2_9))] H := hP
  have hD : va_D AA [(sg, .inr (4, [.int (nI (nst c r w)), .int tx, .long tq, .long sn, .int (zb kn), .int (zb true), .int (iI (prd c r w)), .ref bd, .ref o8, .ref o9, .ref o10, .ref o11, .ref o12, .ref o13, .ref o14, .ref o15])), (o10, .inl (Y.1, 16, .inl sz)), (o12, .inl (Y.1, 16, .inl di)), (o15, .inl (Y.1, 1024, .inl va2_9))] := hD
  refine lv_aload_n (pc := 20) hx hb dX5_predict_20 rfl (lv_at hl 0 rfl) ?_
  refine va_get (pc := 21) (D := D) (ci := 4) (v := .int (iI (prd c r w))) (C := RX5) (T := TX5) (N := 16) hx hb hts hinX5 hown hK.1 hP 0 rfl rfl 6 (by decide) (hts (.fieldLink RX5 132 "BoxesGame$Strings" "predictedValue" "I") (List.mem_of_getElem? (i := 2) rfl)) (fun _ h9 => h9) rfl dX5_predict_21 ?_
  subst hAA
  exact mu_iret hx hb hr hlocks hP hS (va2_9) (rfl) (trivial) (rfl) dX5_predict_24
