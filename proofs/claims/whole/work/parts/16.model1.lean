set_option maxHeartbeats 1200000 in
set_option maxRecDepth 100000 in
theorem c_X9_within (l : Launch) (D : va_G) (Y : vY) (v : Int32) (lo : Int32) (hi : Int32)  : Ro l yX9_within wsX9_within ({ frames := 0, cells := 0, slots := 0, locals := 0 } : Room) [.int v, .int lo, .int hi] D Y [] (some (.int (zb (wi v lo hi)))) := by
  refine ro_intro (by decide +kernel) rfl (Nat.le_of_ble_eq_true rfl) [(0, .int v), (1, .int lo), (2, .int hi)] rfl ?_
  intro pG eG sG mG aG bG tG cG ls hx hb hr hml hts hown hlocks hK hP hl
  have hP : va_P D vwCl [] sG.heap := hP
  have hown : sG.vm.findClass RX9 = some mG.cls := hown
  have hl : lv_has ls 3 [(0, .int v), (1, .int lo), (2, .int hi)] := hl
  refine lv_iload_n (pc := 0) hx hb dX9_within_0 rfl (lv_at hl 0 rfl) ?_
  refine lv_iload_n (pc := 1) hx hb dX9_within_1 rfl (lv_at hl 1 rfl) ?_
  refine lv_icmp_lt (pc := 2) (tgt := 14) hx hb dX9_within_2 (by decide) (fun c2 => ?_) (fun c2 => ?_)
  · refine lv_iconst (pc := 14) (v := nI 0) hx hb dX9_within_14 rfl ?_
    exact ro_zret hx hb hr hlocks (zb_0 (by first | exact wi_t c2 c7 | exact wi_a c2 | exact wi_b c7)) dX9_within_15
  refine lv_iload_n (pc := 5) hx hb dX9_within_5 rfl (lv_at hl 0 rfl) ?_
  refine lv_iload_n (pc := 6) hx hb dX9_within_6 rfl (lv_at hl 2 rfl) ?_
  refine lv_icmp_gt (pc := 7) (tgt := 14) hx hb dX9_within_7 (by decide) (fun c7 => ?_) (fun c7 => ?_)
  · refine lv_iconst (pc := 14) (v := nI 0) hx hb dX9_within_14 rfl ?_
    exact ro_zret hx hb hr hlocks (zb_0 (by first | exact wi_t c2 c7 | exact wi_a c2 | exact wi_b c7)) dX9_within_15
  refine lv_iconst (pc := 10) (v := nI 1) hx hb dX9_within_10 rfl ?_
  refine lv_goto (pc := 11) (tgt := 15) hx hb dX9_within_11 (by decide) ?_
  exact ro_zret hx hb hr hlocks (zb_1 (by first | exact wi_t c2 c7 | exact wi_a c2 | exact wi_b c7)) dX9_within_15

set_option maxHeartbeats 1200000 in
set_option maxRecDepth 100000 in
theorem c_X9_has (l : Launch) (D : va_G) (Y : vY) (w : Int64) (k : Nat) (hk : k < 64) : Ro l yX9_has wsX9_has ({ frames := 0, cells := 0, slots := 0, locals := 0 } : Room) [.long w, .int (nI k)] D Y [] (some (.int (zb (tb w k)))) := by
  refine ro_intro (by decide +kernel) rfl (Nat.le_of_ble_eq_true rfl) [(0, .long w), (2, .int (nI k))] rfl ?_
  intro pG eG sG mG aG bG tG cG ls hx hb hr hml hts hown hlocks hK hP hl
  have hP : va_P D vwCl [] sG.heap := hP
  have hown : sG.vm.findClass RX9 = some mG.cls := hown
  have hl : lv_has ls 3 [(0, .long w), (2, .int (nI k))] := hl
  refine lv_lload_n (pc := 0) hx hb dX9_has_0 rfl (lv_at hl 0 rfl) ?_
  refine lv_iload_n (pc := 1) hx hb dX9_has_1 rfl (lv_at hl 1 rfl) ?_
  refine lv_lshr (pc := 2) hx hb dX9_has_2 rfl ?_
  refine lv_lconst (pc := 3) (v := 1) hx hb dX9_has_3 (by decide) ?_
  refine lv_land (pc := 4) hx hb dX9_has_4 ?_
  refine lv_lconst (pc := 5) (v := 1) hx hb dX9_has_5 (by decide) ?_
  refine W.lcmp (pc := 6) hx hb dX9_has_6 ?_
  refine lc_if_ne (pc := 7) (tgt := 14) hx hb dX9_has_7 (by decide) (fun c7 => ?_) (fun c7 => ?_)
  · refine lv_iconst (pc := 14) (v := nI 0) hx hb dX9_has_14 rfl ?_
    exact ro_zret hx hb hr hlocks (zb_0 (by first | exact (has_iff hk).mp c7 | exact Bool.eq_false_iff.mpr (fun q => c7 ((has_iff hk).mpr q)))) dX9_has_15
  refine lv_iconst (pc := 10) (v := nI 1) hx hb dX9_has_10 rfl ?_
  refine lv_goto (pc := 11) (tgt := 15) hx hb dX9_has_11 (by decide) ?_
  exact ro_zret hx hb hr hlocks (zb_1 (by first | exact (has_iff hk).mp c7 | exact Bool.eq_false_iff.mpr (fun q => c7 ((has_iff hk).mpr q)))) dX9_has_15

set_option maxHeartbeats 1200000 in
set_option maxRecDepth 100000 in
theorem c_X9_size (l : Launch) (D : va_G) (Y : vY) (w : Int64)  : Ro l yX9_size wsX9_size ({ frames := 1, cells := 0, slots := 0, locals := 22 } : Room) [.long w] D Y [] (some (.int (nI (siz w)))) := by
  refine ro_intro (by decide +kernel) rfl (Nat.le_of_ble_eq_true rfl) [(0, .long w)] rfl ?_
  intro pG eG sG mG aG bG tG cG ls hx hb hr hml hts hown hlocks hK hP hl
  have hP : va_P D vwCl [] sG.heap := hP
  have hown : sG.vm.findClass RX9 = some mG.cls := hown
  have hl : lv_has ls 4 [(0, .long w)] := hl
  refine lv_iconst (pc := 0) (v := nI 0) hx hb dX9_size_0 rfl ?_
  refine lv_istore_n (pc := 1) (lv' := [(2, .int (nI 0)), (0, .long w)]) hx hb dX9_size_1 rfl hl (by decide) rfl (fun ls hl => ?_)
  refine lv_iconst (pc := 2) (v := nI 0) hx hb dX9_size_2 rfl ?_
  refine lv_istore_n (pc := 3) (lv' := [(3, .int (nI 0)), (2, .int (nI 0)), (0, .long w)]) hx hb dX9_size_3 rfl hl (by decide) rfl (fun ls hl => ?_)
  have L4 : ∀ (n4 : Nat), ∀ (i : Nat) (n : Nat), (i ≤ 40) → (n = fb_ct (tb w) i) → 40 - i < n4 → ∀ (ls : Array Slot), lv_has ls 4 [(0, .long w), (2, .int (nI n)), (3, .int (nI i))] → W pG l eG ({ frames := 1, cells := 0, slots := 0, locals := 22 } : Room) sG mG aG bG tG cG sG.heap [] 0 0 (MQ bG (RoQ (some (.int (nI (siz w))))) aG sG 0 0 (fun _ => False)) (F0 mG 4 ls []) := by
    intro n4
    induction n4 with
    | zero =>
      intro i n hi hn hmeas4  ls hl
      exact absurd hmeas4 (Nat.not_lt_zero _)
    | succ n4 ih4 =>
      intro i n hi hn hmeas4  ls hl
      refine lv_iload_n (pc := 4) hx hb dX9_size_4 rfl (lv_at hl 2 rfl) ?_
      refine lv_bipush (pc := 5) (v := nI 40) hx hb dX9_size_5 rfl ?_
      refine n_icmp_ge (pc := 7) (tgt := 32) hx hb (by omega) (by omega) dX9_size_7 (by decide) (fun c7 => ?_) (fun c7 => ?_)
      · refine lv_iload_n (pc := 32) hx hb dX9_size_32 rfl (lv_at hl 1 rfl) ?_
        exact ro_iret (v := nI n) hx hb hr hlocks (by rw [hn, show i = 40 by omega]; rfl) dX9_size_33
      refine lv_iload_n (pc := 10) hx hb dX9_size_10 rfl (lv_at hl 1 rfl) ?_
      refine lv_lload_n (pc := 11) hx hb dX9_size_11 rfl (lv_at hl 0 rfl) ?_
      refine lv_iload_n (pc := 12) hx hb dX9_size_12 rfl (lv_at hl 2 rfl) ?_
      refine ro_go (pc := 13) (va_runS (As := [.long w, .int (nI i)]) (rest := [.int (nI n)]) ⟨hx, hb, hml, hown, hts⟩ (c_X9_has l D Y w i (by first | assumption | omega)) (va_cwS 2 hts gX9_size_X9_has rfl rfl rfl hdX9_has ⟨Nat.le_of_ble_eq_true rfl, Nat.le_of_ble_eq_true rfl⟩) (ro_pS hK hP) rfl rfl hl.1 rfl (lv_room (Nat.le_of_ble_eq_true rfl)) dX9_size_13 ⟨Nat.le_of_ble_eq_true rfl, Nat.le_of_ble_eq_true rfl⟩) ?_
      refine z_if_eq (pc := 16) (tgt := 23) hx hb dX9_size_16 (by decide) (fun c16 => ?_) (fun c16 => ?_)
      · refine lv_iconst (pc := 23) (v := nI 0) hx hb dX9_size_23 rfl ?_
        refine n_iadd (pc := 24) hx hb dX9_size_24 ?_
        refine lv_istore_n (pc := 25) (lv' := [(2, .int (nI (n + 0))), (0, .long w), (3, .int (nI i))]) hx hb dX9_size_25 rfl hl (by decide) rfl (fun ls hl => ?_)
        refine lv_iinc (pc := 26) (v := nI (i + 1)) (lv' := [(3, .int (nI (i + 1))), (2, .int (nI (n + 0))), (0, .long w)]) hx hb dX9_size_26 hl (k := 2) rfl (n_inc i 1) (by decide) rfl (fun ls hl => ?_)
        refine lv_goto (pc := 29) (tgt := 4) hx hb dX9_size_29 (by decide) ?_
        exact ih4 (i + 1) (n + 0) (by omega) (by rw [fb_ct_succ, c16, hn]; rfl) (by omega) _ (lv_sub hl [2, 1, 0] rfl)
      refine lv_iconst (pc := 19) (v := nI 1) hx hb dX9_size_19 rfl ?_
      refine lv_goto (pc := 20) (tgt := 24) hx hb dX9_size_20 (by decide) ?_
      refine n_iadd (pc := 24) hx hb dX9_size_24 ?_
      refine lv_istore_n (pc := 25) (lv' := [(2, .int (nI (n + 1))), (0, .long w), (3, .int (nI i))]) hx hb dX9_size_25 rfl hl (by decide) rfl (fun ls hl => ?_)
      refine lv_iinc (pc := 26) (v := nI (i + 1)) (lv' := [(3, .int (nI (i + 1))), (2, .int (nI (n + 1))), (0, .long w)]) hx hb dX9_size_26 hl (k := 2) rfl (n_inc i 1) (by decide) rfl (fun ls hl => ?_)
      refine lv_goto (pc := 29) (tgt := 4) hx hb dX9_size_29 (by decide) ?_
      exact ih4 (i + 1) (n + 1) (by omega) (by rw [fb_ct_succ, c16, hn]; rfl) (by omega) _ (lv_sub hl [2, 1, 0] rfl)
  exact L4 ((40 - 0) + 1) 0 0 (by omega) (rfl) (Nat.lt_succ_self _) _ (lv_sub hl [2, 1, 0] rfl)

set_option maxHeartbeats 1200000 in
set_option maxRecDepth 100000 in
theorem c_X9_boxes (l : Launch) (D : va_G) (Y : vY) (mo : Nat) (c : Nat) (r : Nat) (fs : List Value) (hf : MF c r fs) (hC : Cr c r) : Ro l yX9_boxes wsX9_boxes ({ frames := 0, cells := 0, slots := 0, locals := 0 } : Room) [.ref mo] D Y [(mo, .inr (8, fs))] (some (.int (nI (c * r)))) := by
  refine ro_intro (by decide +kernel) rfl (Nat.le_of_ble_eq_true rfl) [(0, .ref mo)] rfl ?_
  intro pG eG sG mG aG bG tG cG ls hx hb hr hml hts hown hlocks hK hP hl
  have hP : va_P D vwCl [(mo, .inr (8, fs))] sG.heap := hP
  have hown : sG.vm.findClass RX9 = some mG.cls := hown
  have hl : lv_has ls 1 [(0, .ref mo)] := hl
  have hinX9 : ∀ w ∈ u_ws RX9 TX9 25, w ∈ wsX9_boxes := by decide +kernel
  obtain ⟨hq1, hq2, hq3, hq4, hq5, hq6, hq7, hq8, hq9, hq10, hq11⟩ := hC.q
  refine lv_aload_n (pc := 0) hx hb dX9_boxes_0 rfl (lv_at hl 0 rfl) ?_
  refine va_get (pc := 1) (D := D) (ci := 8) (v := .int (nI c)) (C := RX9) (T := TX9) (N := 25) hx hb hts hinX9 hown hK.1 hP 0 rfl rfl 1 (by decide) (hts (.fieldLink RX9 7 "BoxesGameModel" "columns" "I") (List.mem_of_getElem? (i := 1) rfl)) (fun _ h9 => h9) hf.1 dX9_boxes_1 ?_
  refine lv_aload_n (pc := 4) hx hb dX9_boxes_4 rfl (lv_at hl 0 rfl) ?_
  refine va_get (pc := 5) (D := D) (ci := 8) (v := .int (nI r)) (C := RX9) (T := TX9) (N := 25) hx hb hts hinX9 hown hK.1 hP 0 rfl rfl 2 (by decide) (hts (.fieldLink RX9 13 "BoxesGameModel" "rows" "I") (List.mem_of_getElem? (i := 2) rfl)) (fun _ h9 => h9) hf.2 dX9_boxes_5 ?_
  refine n_imul (pc := 8) hx hb dX9_boxes_8 ?_
  exact ro_iret (v := nI (c * r)) hx hb hr hlocks (rfl) dX9_boxes_9

set_option maxHeartbeats 1200000 in
set_option maxRecDepth 100000 in
theorem c_X9_level (l : Launch) (D : va_G) (Y : vY) (mo : Nat) (c : Nat) (r : Nat) (fs : List Value) (hf : MF c r fs) (hC : Cr c r) : Ro l yX9_level wsX9_level ({ frames := 0, cells := 0, slots := 0, locals := 0 } : Room) [.ref mo] D Y [(mo, .inr (8, fs))] (some (.int (nI (lvl c r)))) := by
  refine ro_intro (by decide +kernel) rfl (Nat.le_of_ble_eq_true rfl) [(0, .ref mo)] rfl ?_
  intro pG eG sG mG aG bG tG cG ls hx hb hr hml hts hown hlocks hK hP hl
  have hP : va_P D vwCl [(mo, .inr (8, fs))] sG.heap := hP
  have hown : sG.vm.findClass RX9 = some mG.cls := hown
  have hl : lv_has ls 1 [(0, .ref mo)] := hl
  have hinX9 : ∀ w ∈ u_ws RX9 TX9 25, w ∈ wsX9_level := by decide +kernel
  obtain ⟨hq1, hq2, hq3, hq4, hq5, hq6, hq7, hq8, hq9, hq10, hq11⟩ := hC.q
  refine lv_aload_n (pc := 0) hx hb dX9_level_0 rfl (lv_at hl 0 rfl) ?_
  refine va_get (pc := 1) (D := D) (ci := 8) (v := .int (nI r)) (C := RX9) (T := TX9) (N := 25) hx hb hts hinX9 hown hK.1 hP 0 rfl rfl 2 (by decide) (hts (.fieldLink RX9 13 "BoxesGameModel" "rows" "I") (List.mem_of_getElem? (i := 1) rfl)) (fun _ h9 => h9) hf.2 dX9_level_1 ?_
  refine lv_iconst (pc := 4) (v := nI 1) hx hb dX9_level_4 rfl ?_
  refine n_iadd (pc := 5) hx hb dX9_level_5 ?_
  refine lv_aload_n (pc := 6) hx hb dX9_level_6 rfl (lv_at hl 0 rfl) ?_
  refine va_get (pc := 7) (D := D) (ci := 8) (v := .int (nI c)) (C := RX9) (T := TX9) (N := 25) hx hb hts hinX9 hown hK.1 hP 0 rfl rfl 1 (by decide) (hts (.fieldLink RX9 7 "BoxesGameModel" "columns" "I") (List.mem_of_getElem? (i := 2) rfl)) (fun _ h9 => h9) hf.1 dX9_level_7 ?_
  refine n_imul (pc := 10) hx hb dX9_level_10 ?_
  exact ro_iret (v := nI ((r + 1) * c)) hx hb hr hlocks (rfl) dX9_level_11

set_option maxHeartbeats 1200000 in
set_option maxRecDepth 100000 in
theorem c_X9_all (l : Launch) (D : va_G) (Y : vY) (mo : Nat) (c : Nat) (r : Nat) (fs : List Value) (hf : MF c r fs) (hC : Cr c r) : Ro l yX9_all wsX9_all ({ frames := 1, cells := 0, slots := 0, locals := 20 } : Room) [.ref mo] D Y [(mo, .inr (8, fs))] (some (.int (nI (al c r)))) := by
  refine ro_intro (by decide +kernel) rfl (Nat.le_of_ble_eq_true rfl) [(0, .ref mo)] rfl ?_
  intro pG eG sG mG aG bG tG cG ls hx hb hr hml hts hown hlocks hK hP hl
  have hP : va_P D vwCl [(mo, .inr (8, fs))] sG.heap := hP
  have hown : sG.vm.findClass RX9 = some mG.cls := hown
  have hl : lv_has ls 1 [(0, .ref mo)] := hl
  have hinX9 : ∀ w ∈ u_ws RX9 TX9 25, w ∈ wsX9_all := by decide +kernel
  obtain ⟨hq1, hq2, hq3, hq4, hq5, hq6, hq7, hq8, hq9, hq10, hq11⟩ := hC.q
  refine lv_aload_n (pc := 0) hx hb dX9_all_0 rfl (lv_at hl 0 rfl) ?_
  refine ro_go (pc := 1) (va_runV (As := []) (rest := []) ⟨hx, hb, hml, hown, hts⟩ (c_X9_level l D Y mo c r fs (hf) (hC)) (cwV 0 hts gX9_all_X9_level rfl rfl rfl ⟨rfl, hdX9_level⟩ ⟨Nat.le_of_ble_eq_true rfl, Nat.le_of_ble_eq_true rfl⟩) (ro_pV hK hP (ro_recv hK hP (ci := 8) (q0 := 0) rfl rfl)) rfl rfl hl.1 rfl (lv_room (Nat.le_of_ble_eq_true rfl)) dX9_all_1 ⟨Nat.le_of_ble_eq_true rfl, Nat.le_of_ble_eq_true rfl⟩) ?_
  refine lv_aload_n (pc := 4) hx hb dX9_all_4 rfl (lv_at hl 0 rfl) ?_
  refine va_get (pc := 5) (D := D) (ci := 8) (v := .int (nI r)) (C := RX9) (T := TX9) (N := 25) hx hb hts hinX9 hown hK.1 hP 0 rfl rfl 2 (by decide) (hts (.fieldLink RX9 13 "BoxesGameModel" "rows" "I") (List.mem_of_getElem? (i := 1) rfl)) (fun _ h9 => h9) hf.2 dX9_all_5 ?_
  refine lv_aload_n (pc := 8) hx hb dX9_all_8 rfl (lv_at hl 0 rfl) ?_
  refine va_get (pc := 9) (D := D) (ci := 8) (v := .int (nI c)) (C := RX9) (T := TX9) (N := 25) hx hb hts hinX9 hown hK.1 hP 0 rfl rfl 1 (by decide) (hts (.fieldLink RX9 7 "BoxesGameModel" "columns" "I") (List.mem_of_getElem? (i := 2) rfl)) (fun _ h9 => h9) hf.1 dX9_all_9 ?_
  refine lv_iconst (pc := 12) (v := nI 1) hx hb dX9_all_12 rfl ?_
  refine n_iadd (pc := 13) hx hb dX9_all_13 ?_
  refine n_imul (pc := 14) hx hb dX9_all_14 ?_
  refine n_iadd (pc := 15) hx hb dX9_all_15 ?_
  exact ro_iret (v := nI ((lvl c r) + (r * (c + 1)))) hx hb hr hlocks (rfl) dX9_all_16

set_option maxHeartbeats 1200000 in
set_option maxRecDepth 100000 in
theorem c_X9_isLine (l : Launch) (D : va_G) (Y : vY) (mo : Nat) (c : Nat) (r : Nat) (fs : List Value) (x : Int32) (hf : MF c r fs) (hC : Cr c r) : Ro l yX9_isLine wsX9_isLine ({ frames := 2, cells := 0, slots := 0, locals := 40 } : Room) [.ref mo, .int x] D Y [(mo, .inr (8, fs))] (some (.int (zb (wi x (nI 0) (nI (al c r - 1)))))) := by
  refine ro_intro (by decide +kernel) rfl (Nat.le_of_ble_eq_true rfl) [(0, .ref mo), (1, .int x)] rfl ?_
  intro pG eG sG mG aG bG tG cG ls hx hb hr hml hts hown hlocks hK hP hl
  have hP : va_P D vwCl [(mo, .inr (8, fs))] sG.heap := hP
  have hown : sG.vm.findClass RX9 = some mG.cls := hown
  have hl : lv_has ls 2 [(0, .ref mo), (1, .int x)] := hl
  obtain ⟨hq1, hq2, hq3, hq4, hq5, hq6, hq7, hq8, hq9, hq10, hq11⟩ := hC.q
  refine lv_iload_n (pc := 0) hx hb dX9_isLine_0 rfl (lv_at hl 1 rfl) ?_
  refine lv_iconst (pc := 1) (v := nI 0) hx hb dX9_isLine_1 rfl ?_
  refine lv_aload_n (pc := 2) hx hb dX9_isLine_2 rfl (lv_at hl 0 rfl) ?_
  refine ro_go (pc := 3) (va_runV (As := []) (rest := [.int (nI 0), .int x]) ⟨hx, hb, hml, hown, hts⟩ (c_X9_all l D Y mo c r fs (hf) (hC)) (cwV 0 hts gX9_isLine_X9_all rfl rfl rfl ⟨rfl, hdX9_all⟩ ⟨Nat.le_of_ble_eq_true rfl, Nat.le_of_ble_eq_true rfl⟩) (ro_pV hK hP (ro_recv hK hP (ci := 8) (q0 := 0) rfl rfl)) rfl rfl hl.1 rfl (lv_room (Nat.le_of_ble_eq_true rfl)) dX9_isLine_3 ⟨Nat.le_of_ble_eq_true rfl, Nat.le_of_ble_eq_true rfl⟩) ?_
  refine lv_iconst (pc := 6) (v := nI 1) hx hb dX9_isLine_6 rfl ?_
  refine n_isub (pc := 7) hx hb (by omega) dX9_isLine_7 ?_
  refine ro_go (pc := 8) (va_runS (As := [.int x, .int (nI 0), .int (nI ((al c r) - 1))]) (rest := []) ⟨hx, hb, hml, hown, hts⟩ (c_X9_within l D Y x (nI 0) (nI ((al c r) - 1)) ) (va_cwS 3 hts gX9_isLine_X9_within rfl rfl rfl hdX9_within ⟨Nat.le_of_ble_eq_true rfl, Nat.le_of_ble_eq_true rfl⟩) (ro_pS hK (hP.sub [] rfl)) rfl rfl hl.1 rfl (lv_room (Nat.le_of_ble_eq_true rfl)) dX9_isLine_8 ⟨Nat.le_of_ble_eq_true rfl, Nat.le_of_ble_eq_true rfl⟩) ?_
  exact ro_zret hx hb hr hlocks (rfl) dX9_isLine_11

set_option maxHeartbeats 1200000 in
set_option maxRecDepth 100000 in
theorem c_X9_isBox (l : Launch) (D : va_G) (Y : vY) (mo : Nat) (c : Nat) (r : Nat) (fs : List Value) (x : Int32) (hf : MF c r fs) (hC : Cr c r) : Ro l yX9_isBox wsX9_isBox ({ frames := 1, cells := 0, slots := 0, locals := 22 } : Room) [.ref mo, .int x] D Y [(mo, .inr (8, fs))] (some (.int (zb (wi x (nI 0) (nI (c * r - 1)))))) := by
  refine ro_intro (by decide +kernel) rfl (Nat.le_of_ble_eq_true rfl) [(0, .ref mo), (1, .int x)] rfl ?_
  intro pG eG sG mG aG bG tG cG ls hx hb hr hml hts hown hlocks hK hP hl
  have hP : va_P D vwCl [(mo, .inr (8, fs))] sG.heap := hP
  have hown : sG.vm.findClass RX9 = some mG.cls := hown
  have hl : lv_has ls 2 [(0, .ref mo), (1, .int x)] := hl
  obtain ⟨hq1, hq2, hq3, hq4, hq5, hq6, hq7, hq8, hq9, hq10, hq11⟩ := hC.q
  refine lv_iload_n (pc := 0) hx hb dX9_isBox_0 rfl (lv_at hl 1 rfl) ?_
  refine lv_iconst (pc := 1) (v := nI 0) hx hb dX9_isBox_1 rfl ?_
  refine lv_aload_n (pc := 2) hx hb dX9_isBox_2 rfl (lv_at hl 0 rfl) ?_
  refine ro_go (pc := 3) (va_runV (As := []) (rest := [.int (nI 0), .int x]) ⟨hx, hb, hml, hown, hts⟩ (c_X9_boxes l D Y mo c r fs (hf) (hC)) (cwV 0 hts gX9_isBox_X9_boxes rfl rfl rfl ⟨rfl, hdX9_boxes⟩ ⟨Nat.le_of_ble_eq_true rfl, Nat.le_of_ble_eq_true rfl⟩) (ro_pV hK hP (ro_recv hK hP (ci := 8) (q0 := 0) rfl rfl)) rfl rfl hl.1 rfl (lv_room (Nat.le_of_ble_eq_true rfl)) dX9_isBox_3 ⟨Nat.le_of_ble_eq_true rfl, Nat.le_of_ble_eq_true rfl⟩) ?_
  refine lv_iconst (pc := 6) (v := nI 1) hx hb dX9_isBox_6 rfl ?_
  refine n_isub (pc := 7) hx hb (by omega) dX9_isBox_7 ?_
  refine ro_go (pc := 8) (va_runS (As := [.int x, .int (nI 0), .int (nI ((c * r) - 1))]) (rest := []) ⟨hx, hb, hml, hown, hts⟩ (c_X9_within l D Y x (nI 0) (nI ((c * r) - 1)) ) (va_cwS 3 hts gX9_isBox_X9_within rfl rfl rfl hdX9_within ⟨Nat.le_of_ble_eq_true rfl, Nat.le_of_ble_eq_true rfl⟩) (ro_pS hK (hP.sub [] rfl)) rfl rfl hl.1 rfl (lv_room (Nat.le_of_ble_eq_true rfl)) dX9_isBox_8 ⟨Nat.le_of_ble_eq_true rfl, Nat.le_of_ble_eq_true rfl⟩) ?_
  exact ro_zret hx hb hr hlocks (rfl) dX9_isBox_11

set_option maxHeartbeats 1200000 in
set_option maxRecDepth 100000 in
theorem c_X9_numberOf (l : Launch) (D : va_G) (Y : vY) (mo : Nat) (c : Nat) (r : Nat) (fs : List Value) (v : Bool) (x : Nat) (y : Nat) (hf : MF c r fs) (hC : Cr c r) : Ro l yX9_numberOf wsX9_numberOf ({ frames := 1, cells := 0, slots := 0, locals := 20 } : Room) [.ref mo, .int (zb v), .int (nI x), .int (nI y)] D Y [(mo, .inr (8, fs))] (some (.int (nI (numM c r v x y)))) := by
  refine ro_intro (by decide +kernel) rfl (Nat.le_of_ble_eq_true rfl) [(0, .ref mo), (1, .int (zb v)), (2, .int (nI x)), (3, .int (nI y))] rfl ?_
  intro pG eG sG mG aG bG tG cG ls hx hb hr hml hts hown hlocks hK hP hl
  have hP : va_P D vwCl [(mo, .inr (8, fs))] sG.heap := hP
  have hown : sG.vm.findClass RX9 = some mG.cls := hown
  have hl : lv_has ls 4 [(0, .ref mo), (1, .int (zb v)), (2, .int (nI x)), (3, .int (nI y))] := hl
  have hinX9 : ∀ w ∈ u_ws RX9 TX9 25, w ∈ wsX9_numberOf := by decide +kernel
  obtain ⟨hq1, hq2, hq3, hq4, hq5, hq6, hq7, hq8, hq9, hq10, hq11⟩ := hC.q
  refine lv_iload_n (pc := 0) hx hb dX9_numberOf_0 rfl (lv_at hl 1 rfl) ?_
  refine z_if_eq (pc := 1) (tgt := 22) hx hb dX9_numberOf_1 (by decide) (fun c1 => ?_) (fun c1 => ?_)
  · refine lv_iload_n (pc := 22) hx hb dX9_numberOf_22 rfl (lv_at hl 3 rfl) ?_
    refine lv_aload_n (pc := 23) hx hb dX9_numberOf_23 rfl (lv_at hl 0 rfl) ?_
    refine va_get (pc := 24) (D := D) (ci := 8) (v := .int (nI c)) (C := RX9) (T := TX9) (N := 25) hx hb hts hinX9 hown hK.1 hP 0 rfl rfl 1 (by decide) (hts (.fieldLink RX9 7 "BoxesGameModel" "columns" "I") (List.mem_of_getElem? (i := 1) rfl)) (fun _ h9 => h9) hf.1 dX9_numberOf_24 ?_
    refine n_imul (pc := 27) hx hb dX9_numberOf_27 ?_
    refine lv_iload_n (pc := 28) hx hb dX9_numberOf_28 rfl (lv_at hl 2 rfl) ?_
    refine n_iadd (pc := 29) hx hb dX9_numberOf_29 ?_
    exact ro_iret (v := nI ((y * c) + x)) hx hb hr hlocks (by unfold numM; rw [c1]; rfl) dX9_numberOf_30
  refine lv_aload_n (pc := 4) hx hb dX9_numberOf_4 rfl (lv_at hl 0 rfl) ?_
  refine ro_go (pc := 5) (va_runV (As := []) (rest := []) ⟨hx, hb, hml, hown, hts⟩ (c_X9_level l D Y mo c r fs (hf) (hC)) (cwV 0 hts gX9_numberOf_X9_level rfl rfl rfl ⟨rfl, hdX9_level⟩ ⟨Nat.le_of_ble_eq_true rfl, Nat.le_of_ble_eq_true rfl⟩) (ro_pV hK hP (ro_recv hK hP (ci := 8) (q0 := 0) rfl rfl)) rfl rfl hl.1 rfl (lv_room (Nat.le_of_ble_eq_true rfl)) dX9_numberOf_5 ⟨Nat.le_of_ble_eq_true rfl, Nat.le_of_ble_eq_true rfl⟩) ?_
  refine lv_iload_n (pc := 8) hx hb dX9_numberOf_8 rfl (lv_at hl 3 rfl) ?_
  refine lv_aload_n (pc := 9) hx hb dX9_numberOf_9 rfl (lv_at hl 0 rfl) ?_
  refine va_get (pc := 10) (D := D) (ci := 8) (v := .int (nI c)) (C := RX9) (T := TX9) (N := 25) hx hb hts hinX9 hown hK.1 hP 0 rfl rfl 1 (by decide) (hts (.fieldLink RX9 7 "BoxesGameModel" "columns" "I") (List.mem_of_getElem? (i := 1) rfl)) (fun _ h9 => h9) hf.1 dX9_numberOf_10 ?_
  refine lv_iconst (pc := 13) (v := nI 1) hx hb dX9_numberOf_13 rfl ?_
  refine n_iadd (pc := 14) hx hb dX9_numberOf_14 ?_
  refine n_imul (pc := 15) hx hb dX9_numberOf_15 ?_
  refine n_iadd (pc := 16) hx hb dX9_numberOf_16 ?_
  refine lv_iload_n (pc := 17) hx hb dX9_numberOf_17 rfl (lv_at hl 2 rfl) ?_
  refine n_iadd (pc := 18) hx hb dX9_numberOf_18 ?_
  refine lv_goto (pc := 19) (tgt := 30) hx hb dX9_numberOf_19 (by decide) ?_
  exact ro_iret (v := nI (((lvl c r) + (y * (c + 1))) + x)) hx hb hr hlocks (by unfold numM; rw [c1]; rfl) dX9_numberOf_30

set_option maxHeartbeats 1200000 in
set_option maxRecDepth 100000 in
theorem c_X9_exists (l : Launch) (D : va_G) (Y : vY) (mo : Nat) (c : Nat) (r : Nat) (fs : List Value) (v : Bool) (x : Int32) (y : Int32) (hf : MF c r fs) (hC : Cr c r) : Ro l yX9_exists wsX9_exists ({ frames := 1, cells := 0, slots := 0, locals := 22 } : Room) [.ref mo, .int (zb v), .int x, .int y] D Y [(mo, .inr (8, fs))] (some (.int (zb (exM c r v x y)))) := by
  refine ro_intro (by decide +kernel) rfl (Nat.le_of_ble_eq_true rfl) [(0, .ref mo), (1, .int (zb v)), (2, .int x), (3, .int y)] rfl ?_
  intro pG eG sG mG aG bG tG cG ls hx hb hr hml hts hown hlocks hK hP hl
  have hP : va_P D vwCl [(mo, .inr (8, fs))] sG.heap := hP
  have hown : sG.vm.findClass RX9 = some mG.cls := hown
  have hl : lv_has ls 4 [(0, .ref mo), (1, .int (zb v)), (2, .int x), (3, .int y)] := hl
  have hinX9 : ∀ w ∈ u_ws RX9 TX9 25, w ∈ wsX9_exists := by decide +kernel
  obtain ⟨hq1, hq2, hq3, hq4, hq5, hq6, hq7, hq8, hq9, hq10, hq11⟩ := hC.q
  refine lv_iload_n (pc := 0) hx hb dX9_exists_0 rfl (lv_at hl 2 rfl) ?_
  refine lv_iconst (pc := 1) (v := nI 0) hx hb dX9_exists_1 rfl ?_
  refine lv_iload_n (pc := 2) hx hb dX9_exists_2 rfl (lv_at hl 1 rfl) ?_
  refine z_if_eq (pc := 3) (tgt := 13) hx hb dX9_exists_3 (by decide) (fun c3 => ?_) (fun c3 => ?_)
  · refine lv_aload_n (pc := 13) hx hb dX9_exists_13 rfl (lv_at hl 0 rfl) ?_
    refine va_get (pc := 14) (D := D) (ci := 8) (v := .int (nI c)) (C := RX9) (T := TX9) (N := 25) hx hb hts hinX9 hown hK.1 hP 0 rfl rfl 1 (by decide) (hts (.fieldLink RX9 7 "BoxesGameModel" "columns" "I") (List.mem_of_getElem? (i := 1) rfl)) (fun _ h9 => h9) hf.1 dX9_exists_14 ?_
    refine lv_iconst (pc := 17) (v := nI 1) hx hb dX9_exists_17 rfl ?_
    refine n_isub (pc := 18) hx hb (by omega) dX9_exists_18 ?_
    refine ro_go (pc := 19) (va_runS (As := [.int x, .int (nI 0), .int (nI (c - 1))]) (rest := []) ⟨hx, hb, hml, hown, hts⟩ (c_X9_within l D Y x (nI 0) (nI (c - 1)) ) (va_cwS 3 hts gX9_exists_X9_within rfl rfl rfl hdX9_within ⟨Nat.le_of_ble_eq_true rfl, Nat.le_of_ble_eq_true rfl⟩) (ro_pS hK (hP.sub [] rfl)) rfl rfl hl.1 rfl (lv_room (Nat.le_of_ble_eq_true rfl)) dX9_exists_19 ⟨Nat.le_of_ble_eq_true rfl, Nat.le_of_ble_eq_true rfl⟩) ?_
    refine z_if_eq (pc := 22) (tgt := 54) hx hb dX9_exists_22 (by decide) (fun c22 => ?_) (fun c22 => ?_)
    · refine lv_iconst (pc := 54) (v := nI 0) hx hb dX9_exists_54 rfl ?_
      exact ro_zret hx hb hr hlocks (zb_0 (by first | (simp only [exM, c3, c22, c47]; rfl) | (simp only [exM, c3, c22, c47, if_true]; rfl) | simp [exM, c3, c22, c47] | simp [exM, c3, c22])) dX9_exists_55
    refine lv_iload_n (pc := 25) hx hb dX9_exists_25 rfl (lv_at hl 3 rfl) ?_
    refine lv_iconst (pc := 26) (v := nI 0) hx hb dX9_exists_26 rfl ?_
    refine lv_iload_n (pc := 27) hx hb dX9_exists_27 rfl (lv_at hl 1 rfl) ?_
    refine z_if_eq (pc := 28) (tgt := 40) hx hb dX9_exists_28 (by decide) (fun c28 => ?_) (fun c28 => ?_)
    · refine lv_aload_n (pc := 40) hx hb dX9_exists_40 rfl (lv_at hl 0 rfl) ?_
      refine va_get (pc := 41) (D := D) (ci := 8) (v := .int (nI r)) (C := RX9) (T := TX9) (N := 25) hx hb hts hinX9 hown hK.1 hP 0 rfl rfl 2 (by decide) (hts (.fieldLink RX9 13 "BoxesGameModel" "rows" "I") (List.mem_of_getElem? (i := 2) rfl)) (fun _ h9 => h9) hf.2 dX9_exists_41 ?_
      refine ro_go (pc := 44) (va_runS (As := [.int y, .int (nI 0), .int (nI r)]) (rest := []) ⟨hx, hb, hml, hown, hts⟩ (c_X9_within l D Y y (nI 0) (nI r) ) (va_cwS 3 hts gX9_exists_X9_within rfl rfl rfl hdX9_within ⟨Nat.le_of_ble_eq_true rfl, Nat.le_of_ble_eq_true rfl⟩) (ro_pS hK (hP.sub [] rfl)) rfl rfl hl.1 rfl (lv_room (Nat.le_of_ble_eq_true rfl)) dX9_exists_44 ⟨Nat.le_of_ble_eq_true rfl, Nat.le_of_ble_eq_true rfl⟩) ?_
      refine z_if_eq (pc := 47) (tgt := 54) hx hb dX9_exists_47 (by decide) (fun c47 => ?_) (fun c47 => ?_)
      · refine lv_iconst (pc := 54) (v := nI 0) hx hb dX9_exists_54 rfl ?_
        exact ro_zret hx hb hr hlocks (zb_0 (by first | (simp only [exM, c3, c22, c47]; rfl) | (simp only [exM, c3, c22, c47, if_true]; rfl) | simp [exM, c3, c22, c47] | simp [exM, c3, c22])) dX9_exists_55
      refine lv_iconst (pc := 50) (v := nI 1) hx hb dX9_exists_50 rfl ?_
      refine lv_goto (pc := 51) (tgt := 55) hx hb dX9_exists_51 (by decide) ?_
      exact ro_zret hx hb hr hlocks (zb_1 (by first | (simp only [exM, c3, c22, c47]; rfl) | (simp only [exM, c3, c22, c47, if_true]; rfl) | simp [exM, c3, c22, c47] | simp [exM, c3, c22])) dX9_exists_55
    · exact absurd (c3.symm.trans c28) (by decide)
  refine lv_aload_n (pc := 6) hx hb dX9_exists_6 rfl (lv_at hl 0 rfl) ?_
  refine va_get (pc := 7) (D := D) (ci := 8) (v := .int (nI c)) (C := RX9) (T := TX9) (N := 25) hx hb hts hinX9 hown hK.1 hP 0 rfl rfl 1 (by decide) (hts (.fieldLink RX9 7 "BoxesGameModel" "columns" "I") (List.mem_of_getElem? (i := 1) rfl)) (fun _ h9 => h9) hf.1 dX9_exists_7 ?_
  refine lv_goto (pc := 10) (tgt := 19) hx hb dX9_exists_10 (by decide) ?_
  refine ro_go (pc := 19) (va_runS (As := [.int x, .int (nI 0), .int (nI c)]) (rest := []) ⟨hx, hb, hml, hown, hts⟩ (c_X9_within l D Y x (nI 0) (nI c) ) (va_cwS 3 hts gX9_exists_X9_within rfl rfl rfl hdX9_within ⟨Nat.le_of_ble_eq_true rfl, Nat.le_of_ble_eq_true rfl⟩) (ro_pS hK (hP.sub [] rfl)) rfl rfl hl.1 rfl (lv_room (Nat.le_of_ble_eq_true rfl)) dX9_exists_19 ⟨Nat.le_of_ble_eq_true rfl, Nat.le_of_ble_eq_true rfl⟩) ?_
  refine z_if_eq (pc := 22) (tgt := 54) hx hb dX9_exists_22 (by decide) (fun c22 => ?_) (fun c22 => ?_)
  · refine lv_iconst (pc := 54) (v := nI 0) hx hb dX9_exists_54 rfl ?_
    exact ro_zret hx hb hr hlocks (zb_0 (by first | (simp only [exM, c3, c22, c47]; rfl) | (simp only [exM, c3, c22, c47, if_true]; rfl) | simp [exM, c3, c22, c47] | simp [exM, c3, c22])) dX9_exists_55
  refine lv_iload_n (pc := 25) hx hb dX9_exists_25 rfl (lv_at hl 3 rfl) ?_
  refine lv_iconst (pc := 26) (v := nI 0) hx hb dX9_exists_26 rfl ?_
  refine lv_iload_n (pc := 27) hx hb dX9_exists_27 rfl (lv_at hl 1 rfl) ?_
  refine z_if_eq (pc := 28) (tgt := 40) hx hb dX9_exists_28 (by decide) (fun c28 => ?_) (fun c28 => ?_)
  · exact absurd (c3.symm.trans c28) (by decide)
  refine lv_aload_n (pc := 31) hx hb dX9_exists_31 rfl (lv_at hl 0 rfl) ?_
  refine va_get (pc := 32) (D := D) (ci := 8) (v := .int (nI r)) (C := RX9) (T := TX9) (N := 25) hx hb hts hinX9 hown hK.1 hP 0 rfl rfl 2 (by decide) (hts (.fieldLink RX9 13 "BoxesGameModel" "rows" "I") (List.mem_of_getElem? (i := 2) rfl)) (fun _ h9 => h9) hf.2 dX9_exists_32 ?_
  refine lv_iconst (pc := 35) (v := nI 1) hx hb dX9_exists_35 rfl ?_
  refine n_isub (pc := 36) hx hb (by omega) dX9_exists_36 ?_
  refine lv_goto (pc := 37) (tgt := 44) hx hb dX9_exists_37 (by decide) ?_
  refine ro_go (pc := 44) (va_runS (As := [.int y, .int (nI 0), .int (nI (r - 1))]) (rest := []) ⟨hx, hb, hml, hown, hts⟩ (c_X9_within l D Y y (nI 0) (nI (r - 1)) ) (va_cwS 3 hts gX9_exists_X9_within rfl rfl rfl hdX9_within ⟨Nat.le_of_ble_eq_true rfl, Nat.le_of_ble_eq_true rfl⟩) (ro_pS hK (hP.sub [] rfl)) rfl rfl hl.1 rfl (lv_room (Nat.le_of_ble_eq_true rfl)) dX9_exists_44 ⟨Nat.le_of_ble_eq_true rfl, Nat.le_of_ble_eq_true rfl⟩) ?_
  refine z_if_eq (pc := 47) (tgt := 54) hx hb dX9_exists_47 (by decide) (fun c47 => ?_) (fun c47 => ?_)
  · refine lv_iconst (pc := 54) (v := nI 0) hx hb dX9_exists_54 rfl ?_
    exact ro_zret hx hb hr hlocks (zb_0 (by first | (simp only [exM, c3, c22, c47]; rfl) | (simp only [exM, c3, c22, c47, if_true]; rfl) | simp [exM, c3, c22, c47] | simp [exM, c3, c22])) dX9_exists_55
  refine lv_iconst (pc := 50) (v := nI 1) hx hb dX9_exists_50 rfl ?_
  refine lv_goto (pc := 51) (tgt := 55) hx hb dX9_exists_51 (by decide) ?_
  exact ro_zret hx hb hr hlocks (zb_1 (by first | (simp only [exM, c3, c22, c47]; rfl) | (simp only [exM, c3, c22, c47, if_true]; rfl) | simp [exM, c3, c22, c47] | simp [exM, c3, c22])) dX9_exists_55

set_option maxHeartbeats 1200000 in
set_option maxRecDepth 100000 in
theorem c_X9_isUpright (l : Launch) (D : va_G) (Y : vY) (mo : Nat) (c : Nat) (r : Nat) (fs : List Value) (li : Nat) (hf : MF c r fs) (hC : Cr c r) (hl0 : li < al c r) : Ro l yX9_isUpright wsX9_isUpright ({ frames := 1, cells := 0, slots := 0, locals := 20 } : Room) [.ref mo, .int (nI li)] D Y [(mo, .inr (8, fs))] (some (.int (zb (decide (lvl c r ≤ li))))) := by
  refine ro_intro (by decide +kernel) rfl (Nat.le_of_ble_eq_true rfl) [(0, .ref mo), (1, .int (nI li))] rfl ?_
  intro pG eG sG mG aG bG tG cG ls hx hb hr hml hts hown hlocks hK hP hl
  have hP : va_P D vwCl [(mo, .inr (8, fs))] sG.heap := hP
  have hown : sG.vm.findClass RX9 = some mG.cls := hown
  have hl : lv_has ls 2 [(0, .ref mo), (1, .int (nI li))] := hl
  obtain ⟨hq1, hq2, hq3, hq4, hq5, hq6, hq7, hq8, hq9, hq10, hq11⟩ := hC.q
  refine lv_iload_n (pc := 0) hx hb dX9_isUpright_0 rfl (lv_at hl 1 rfl) ?_
  refine lv_aload_n (pc := 1) hx hb dX9_isUpright_1 rfl (lv_at hl 0 rfl) ?_
  refine ro_go (pc := 2) (va_runV (As := []) (rest := [.int (nI li)]) ⟨hx, hb, hml, hown, hts⟩ (c_X9_level l D Y mo c r fs (hf) (hC)) (cwV 0 hts gX9_isUpright_X9_level rfl rfl rfl ⟨rfl, hdX9_level⟩ ⟨Nat.le_of_ble_eq_true rfl, Nat.le_of_ble_eq_true rfl⟩) (ro_pV hK hP (ro_recv hK hP (ci := 8) (q0 := 0) rfl rfl)) rfl rfl hl.1 rfl (lv_room (Nat.le_of_ble_eq_true rfl)) dX9_isUpright_2 ⟨Nat.le_of_ble_eq_true rfl, Nat.le_of_ble_eq_true rfl⟩) ?_
  refine n_icmp_lt (pc := 5) (tgt := 12) hx hb (by omega) (by omega) dX9_isUpright_5 (by decide) (fun c5 => ?_) (fun c5 => ?_)
  · refine lv_iconst (pc := 12) (v := nI 0) hx hb dX9_isUpright_12 rfl ?_
    exact ro_zret hx hb hr hlocks (zb_0 (by first | exact decide_eq_true c5 | exact decide_eq_false (Nat.not_le.mpr c5))) dX9_isUpright_13
  refine lv_iconst (pc := 8) (v := nI 1) hx hb dX9_isUpright_8 rfl ?_
  refine lv_goto (pc := 9) (tgt := 13) hx hb dX9_isUpright_9 (by decide) ?_
  exact ro_zret hx hb hr hlocks (zb_1 (by first | exact decide_eq_true c5 | exact decide_eq_false (Nat.not_le.mpr c5))) dX9_isUpright_13

set_option maxHeartbeats 1200000 in
set_option maxRecDepth 100000 in
theorem c_X9_columnOf (l : Launch) (D : va_G) (Y : vY) (mo : Nat) (c : Nat) (r : Nat) (fs : List Value) (li : Nat) (hf : MF c r fs) (hC : Cr c r) (hl0 : li < al c r) : Ro l yX9_columnOf wsX9_columnOf ({ frames := 2, cells := 0, slots := 0, locals := 41 } : Room) [.ref mo, .int (nI li)] D Y [(mo, .inr (8, fs))] (some (.int (nI (colM c r li)))) := by
  refine ro_intro (by decide +kernel) rfl (Nat.le_of_ble_eq_true rfl) [(0, .ref mo), (1, .int (nI li))] rfl ?_
  intro pG eG sG mG aG bG tG cG ls hx hb hr hml hts hown hlocks hK hP hl
  have hP : va_P D vwCl [(mo, .inr (8, fs))] sG.heap := hP
  have hown : sG.vm.findClass RX9 = some mG.cls := hown
  have hl : lv_has ls 2 [(0, .ref mo), (1, .int (nI li))] := hl
  have hinX9 : ∀ w ∈ u_ws RX9 TX9 25, w ∈ wsX9_columnOf := by decide +kernel
  obtain ⟨hq1, hq2, hq3, hq4, hq5, hq6, hq7, hq8, hq9, hq10, hq11⟩ := hC.q
  refine lv_aload_n (pc := 0) hx hb dX9_columnOf_0 rfl (lv_at hl 0 rfl) ?_
  refine lv_iload_n (pc := 1) hx hb dX9_columnOf_1 rfl (lv_at hl 1 rfl) ?_
  refine ro_go (pc := 2) (va_runV (As := [.int (nI li)]) (rest := []) ⟨hx, hb, hml, hown, hts⟩ (c_X9_isUpright l D Y mo c r fs li (hf) (hC) (hl0)) (cwV 1 hts gX9_columnOf_X9_isUpright rfl rfl rfl ⟨rfl, hdX9_isUpright⟩ ⟨Nat.le_of_ble_eq_true rfl, Nat.le_of_ble_eq_true rfl⟩) (ro_pV hK hP (ro_recv hK hP (ci := 8) (q0 := 0) rfl rfl)) rfl rfl hl.1 rfl (lv_room (Nat.le_of_ble_eq_true rfl)) dX9_columnOf_2 ⟨Nat.le_of_ble_eq_true rfl, Nat.le_of_ble_eq_true rfl⟩) ?_
  refine z_if_eq (pc := 5) (tgt := 24) hx hb dX9_columnOf_5 (by decide) (fun c5 => ?_) (fun c5 => ?_)
  · refine lv_iload_n (pc := 24) hx hb dX9_columnOf_24 rfl (lv_at hl 1 rfl) ?_
    refine lv_aload_n (pc := 25) hx hb dX9_columnOf_25 rfl (lv_at hl 0 rfl) ?_
    refine va_get (pc := 26) (D := D) (ci := 8) (v := .int (nI c)) (C := RX9) (T := TX9) (N := 25) hx hb hts hinX9 hown hK.1 hP 0 rfl rfl 1 (by decide) (hts (.fieldLink RX9 7 "BoxesGameModel" "columns" "I") (List.mem_of_getElem? (i := 1) rfl)) (fun _ h9 => h9) hf.1 dX9_columnOf_26 ?_
    refine n_irem (pc := 29) hx hb (by omega) (by omega) (by omega) dX9_columnOf_29 ?_
    exact ro_iret (v := nI (li % c)) hx hb hr hlocks (by unfold colM; first | rw [if_pos (of_decide_eq_true c5)] | rw [if_neg (of_decide_eq_false c5)]) dX9_columnOf_30
  refine lv_iload_n (pc := 8) hx hb dX9_columnOf_8 rfl (lv_at hl 1 rfl) ?_
  refine lv_aload_n (pc := 9) hx hb dX9_columnOf_9 rfl (lv_at hl 0 rfl) ?_
  refine ro_go (pc := 10) (va_runV (As := []) (rest := [.int (nI li)]) ⟨hx, hb, hml, hown, hts⟩ (c_X9_level l D Y mo c r fs (hf) (hC)) (cwV 0 hts gX9_columnOf_X9_level rfl rfl rfl ⟨rfl, hdX9_level⟩ ⟨Nat.le_of_ble_eq_true rfl, Nat.le_of_ble_eq_true rfl⟩) (ro_pV hK hP (ro_recv hK hP (ci := 8) (q0 := 0) rfl rfl)) rfl rfl hl.1 rfl (lv_room (Nat.le_of_ble_eq_true rfl)) dX9_columnOf_10 ⟨Nat.le_of_ble_eq_true rfl, Nat.le_of_ble_eq_true rfl⟩) ?_
  refine n_isub (pc := 13) hx hb (of_decide_eq_true c5) dX9_columnOf_13 ?_
  refine lv_aload_n (pc := 14) hx hb dX9_columnOf_14 rfl (lv_at hl 0 rfl) ?_
  refine va_get (pc := 15) (D := D) (ci := 8) (v := .int (nI c)) (C := RX9) (T := TX9) (N := 25) hx hb hts hinX9 hown hK.1 hP 0 rfl rfl 1 (by decide) (hts (.fieldLink RX9 7 "BoxesGameModel" "columns" "I") (List.mem_of_getElem? (i := 1) rfl)) (fun _ h9 => h9) hf.1 dX9_columnOf_15 ?_
  refine lv_iconst (pc := 18) (v := nI 1) hx hb dX9_columnOf_18 rfl ?_
  refine n_iadd (pc := 19) hx hb dX9_columnOf_19 ?_
  refine n_irem (pc := 20) hx hb (by omega) (by omega) (by omega) dX9_columnOf_20 ?_
  refine lv_goto (pc := 21) (tgt := 30) hx hb dX9_columnOf_21 (by decide) ?_
  exact ro_iret (v := nI ((li - (lvl c r)) % (c + 1))) hx hb hr hlocks (by unfold colM; first | rw [if_pos (of_decide_eq_true c5)] | rw [if_neg (of_decide_eq_false c5)]) dX9_columnOf_30

set_option maxHeartbeats 1200000 in
set_option maxRecDepth 100000 in
theorem c_X9_rowOf (l : Launch) (D : va_G) (Y : vY) (mo : Nat) (c : Nat) (r : Nat) (fs : List Value) (li : Nat) (hf : MF c r fs) (hC : Cr c r) (hl0 : li < al c r) : Ro l yX9_rowOf wsX9_rowOf ({ frames := 2, cells := 0, slots := 0, locals := 41 } : Room) [.ref mo, .int (nI li)] D Y [(mo, .inr (8, fs))] (some (.int (nI (rowM c r li)))) := by
  refine ro_intro (by decide +kernel) rfl (Nat.le_of_ble_eq_true rfl) [(0, .ref mo), (1, .int (nI li))] rfl ?_
  intro pG eG sG mG aG bG tG cG ls hx hb hr hml hts hown hlocks hK hP hl
  have hP : va_P D vwCl [(mo, .inr (8, fs))] sG.heap := hP
  have hown : sG.vm.findClass RX9 = some mG.cls := hown
  have hl : lv_has ls 2 [(0, .ref mo), (1, .int (nI li))] := hl
  have hinX9 : ∀ w ∈ u_ws RX9 TX9 25, w ∈ wsX9_rowOf := by decide +kernel
  obtain ⟨hq1, hq2, hq3, hq4, hq5, hq6, hq7, hq8, hq9, hq10, hq11⟩ := hC.q
  refine lv_aload_n (pc := 0) hx hb dX9_rowOf_0 rfl (lv_at hl 0 rfl) ?_
  refine lv_iload_n (pc := 1) hx hb dX9_rowOf_1 rfl (lv_at hl 1 rfl) ?_
  refine ro_go (pc := 2) (va_runV (As := [.int (nI li)]) (rest := []) ⟨hx, hb, hml, hown, hts⟩ (c_X9_isUpright l D Y mo c r fs li (hf) (hC) (hl0)) (cwV 1 hts gX9_rowOf_X9_isUpright rfl rfl rfl ⟨rfl, hdX9_isUpright⟩ ⟨Nat.le_of_ble_eq_true rfl, Nat.le_of_ble_eq_true rfl⟩) (ro_pV hK hP (ro_recv hK hP (ci := 8) (q0 := 0) rfl rfl)) rfl rfl hl.1 rfl (lv_room (Nat.le_of_ble_eq_true rfl)) dX9_rowOf_2 ⟨Nat.le_of_ble_eq_true rfl, Nat.le_of_ble_eq_true rfl⟩) ?_
  refine z_if_eq (pc := 5) (tgt := 24) hx hb dX9_rowOf_5 (by decide) (fun c5 => ?_) (fun c5 => ?_)
  · refine lv_iload_n (pc := 24) hx hb dX9_rowOf_24 rfl (lv_at hl 1 rfl) ?_
    refine lv_aload_n (pc := 25) hx hb dX9_rowOf_25 rfl (lv_at hl 0 rfl) ?_
    refine va_get (pc := 26) (D := D) (ci := 8) (v := .int (nI c)) (C := RX9) (T := TX9) (N := 25) hx hb hts hinX9 hown hK.1 hP 0 rfl rfl 1 (by decide) (hts (.fieldLink RX9 7 "BoxesGameModel" "columns" "I") (List.mem_of_getElem? (i := 1) rfl)) (fun _ h9 => h9) hf.1 dX9_rowOf_26 ?_
    refine n_idiv (pc := 29) hx hb (by omega) (by omega) (by omega) dX9_rowOf_29 ?_
    exact ro_iret (v := nI (li / c)) hx hb hr hlocks (by unfold rowM; first | rw [if_pos (of_decide_eq_true c5)] | rw [if_neg (of_decide_eq_false c5)]) dX9_rowOf_30
  refine lv_iload_n (pc := 8) hx hb dX9_rowOf_8 rfl (lv_at hl 1 rfl) ?_
  refine lv_aload_n (pc := 9) hx hb dX9_rowOf_9 rfl (lv_at hl 0 rfl) ?_
  refine ro_go (pc := 10) (va_runV (As := []) (rest := [.int (nI li)]) ⟨hx, hb, hml, hown, hts⟩ (c_X9_level l D Y mo c r fs (hf) (hC)) (cwV 0 hts gX9_rowOf_X9_level rfl rfl rfl ⟨rfl, hdX9_level⟩ ⟨Nat.le_of_ble_eq_true rfl, Nat.le_of_ble_eq_true rfl⟩) (ro_pV hK hP (ro_recv hK hP (ci := 8) (q0 := 0) rfl rfl)) rfl rfl hl.1 rfl (lv_room (Nat.le_of_ble_eq_true rfl)) dX9_rowOf_10 ⟨Nat.le_of_ble_eq_true rfl, Nat.le_of_ble_eq_true rfl⟩) ?_
  refine n_isub (pc := 13) hx hb (of_decide_eq_true c5) dX9_rowOf_13 ?_
  refine lv_aload_n (pc := 14) hx hb dX9_rowOf_14 rfl (lv_at hl 0 rfl) ?_
  refine va_get (pc := 15) (D := D) (ci := 8) (v := .int (nI c)) (C := RX9) (T := TX9) (N := 25) hx hb hts hinX9 hown hK.1 hP 0 rfl rfl 1 (by decide) (hts (.fieldLink RX9 7 "BoxesGameModel" "columns" "I") (List.mem_of_getElem? (i := 1) rfl)) (fun _ h9 => h9) hf.1 dX9_rowOf_15 ?_
  refine lv_iconst (pc := 18) (v := nI 1) hx hb dX9_rowOf_18 rfl ?_
  refine n_iadd (pc := 19) hx hb dX9_rowOf_19 ?_
  refine n_idiv (pc := 20) hx hb (by omega) (by omega) (by omega) dX9_rowOf_20 ?_
  refine lv_goto (pc := 21) (tgt := 30) hx hb dX9_rowOf_21 (by decide) ?_
  exact ro_iret (v := nI ((li - (lvl c r)) / (c + 1))) hx hb hr hlocks (by unfold rowM; first | rw [if_pos (of_decide_eq_true c5)] | rw [if_neg (of_decide_eq_false c5)]) dX9_rowOf_30

set_option maxHeartbeats 1200000 in
set_option maxRecDepth 100000 in
theorem c_X9_sideOf (l : Launch) (D : va_G) (Y : vY) (mo : Nat) (c : Nat) (r : Nat) (fs : List Value) (b : Nat) (k : Nat) (hf : MF c r fs) (hC : Cr c r) (hb0 : b < c * r) (hk4 : k < 4) : Ro l yX9_sideOf wsX9_sideOf ({ frames := 2, cells := 0, slots := 0, locals := 43 } : Room) [.ref mo, .int (nI b), .int (nI k)] D Y [(mo, .inr (8, fs))] (some (.int (nI (sid c r b k)))) := by
  refine ro_intro (by decide +kernel) rfl (Nat.le_of_ble_eq_true rfl) [(0, .ref mo), (1, .int (nI b)), (2, .int (nI k))] rfl ?_
  intro pG eG sG mG aG bG tG cG ls hx hb hr hml hts hown hlocks hK hP hl
  have hP : va_P D vwCl [(mo, .inr (8, fs))] sG.heap := hP
  have hown : sG.vm.findClass RX9 = some mG.cls := hown
  have hl : lv_has ls 5 [(0, .ref mo), (1, .int (nI b)), (2, .int (nI k))] := hl
  have hinX9 : ∀ w ∈ u_ws RX9 TX9 25, w ∈ wsX9_sideOf := by decide +kernel
  obtain ⟨hq1, hq2, hq3, hq4, hq5, hq6, hq7, hq8, hq9, hq10, hq11⟩ := hC.q
  have hmod : b % c < c := Nat.mod_lt _ (by omega)
  refine lv_iload_n (pc := 0) hx hb dX9_sideOf_0 rfl (lv_at hl 1 rfl) ?_
  refine lv_aload_n (pc := 1) hx hb dX9_sideOf_1 rfl (lv_at hl 0 rfl) ?_
  refine va_get (pc := 2) (D := D) (ci := 8) (v := .int (nI c)) (C := RX9) (T := TX9) (N := 25) hx hb hts hinX9 hown hK.1 hP 0 rfl rfl 1 (by decide) (hts (.fieldLink RX9 7 "BoxesGameModel" "columns" "I") (List.mem_of_getElem? (i := 1) rfl)) (fun _ h9 => h9) hf.1 dX9_sideOf_2 ?_
  refine n_irem (pc := 5) hx hb (by omega) (by omega) (by omega) dX9_sideOf_5 ?_
  refine lv_istore_n (pc := 6) (lv' := [(3, .int (nI (b % c))), (0, .ref mo), (1, .int (nI b)), (2, .int (nI k))]) hx hb dX9_sideOf_6 rfl hl (by decide) rfl (fun ls hl => ?_)
  refine lv_iload_n (pc := 7) hx hb dX9_sideOf_7 rfl (lv_at hl 2 rfl) ?_
  refine lv_aload_n (pc := 8) hx hb dX9_sideOf_8 rfl (lv_at hl 1 rfl) ?_
  refine va_get (pc := 9) (D := D) (ci := 8) (v := .int (nI c)) (C := RX9) (T := TX9) (N := 25) hx hb hts hinX9 hown hK.1 hP 0 rfl rfl 1 (by decide) (hts (.fieldLink RX9 7 "BoxesGameModel" "columns" "I") (List.mem_of_getElem? (i := 1) rfl)) (fun _ h9 => h9) hf.1 dX9_sideOf_9 ?_
  refine n_idiv (pc := 12) hx hb (by omega) (by omega) (by omega) dX9_sideOf_12 ?_
  refine lv_istore (pc := 13) (lv' := [(4, .int (nI (b / c))), (3, .int (nI (b % c))), (0, .ref mo), (1, .int (nI b)), (2, .int (nI k))]) hx hb dX9_sideOf_13 hl (by decide) rfl (fun ls hl => ?_)
  refine lv_iload_n (pc := 15) hx hb dX9_sideOf_15 rfl (lv_at hl 4 rfl) ?_
  refine lv_iconst (pc := 16) (v := nI 2) hx hb dX9_sideOf_16 rfl ?_
  refine n_icmp_ge (pc := 17) (tgt := 33) hx hb (by omega) (by omega) dX9_sideOf_17 (by decide) (fun c17 => ?_) (fun c17 => ?_)
  · refine lv_aload_n (pc := 33) hx hb dX9_sideOf_33 rfl (lv_at hl 2 rfl) ?_
    refine lv_iconst (pc := 34) (v := nI 1) hx hb dX9_sideOf_34 rfl ?_
    refine lv_iload_n (pc := 35) hx hb dX9_sideOf_35 rfl (lv_at hl 1 rfl) ?_
    refine lv_iload_n (pc := 36) hx hb dX9_sideOf_36 rfl (lv_at hl 4 rfl) ?_
    refine n_iadd (pc := 37) hx hb dX9_sideOf_37 ?_
    refine lv_iconst (pc := 38) (v := nI 2) hx hb dX9_sideOf_38 rfl ?_
    refine n_isub (pc := 39) hx hb (by omega) dX9_sideOf_39 ?_
    refine lv_iload (pc := 40) hx hb dX9_sideOf_40 (lv_at hl 0 rfl) ?_
    refine ro_go (pc := 42) (va_runV (As := [.int (nI 1), .int (nI (((b % c) + k) - 2)), .int (nI (b / c))]) (rest := []) ⟨hx, hb, hml, hown, hts⟩ (c_X9_numberOf l D Y mo c r fs true (((b % c) + k) - 2) (b / c) (hf) (hC)) (cwV 3 hts gX9_sideOf_X9_numberOf rfl rfl rfl ⟨rfl, hdX9_numberOf⟩ ⟨Nat.le_of_ble_eq_true rfl, Nat.le_of_ble_eq_true rfl⟩) (ro_pV hK hP (ro_recv hK hP (ci := 8) (q0 := 0) rfl rfl)) rfl rfl hl.1 rfl (lv_room (Nat.le_of_ble_eq_true rfl)) dX9_sideOf_42 ⟨Nat.le_of_ble_eq_true rfl, Nat.le_of_ble_eq_true rfl⟩) ?_
    exact ro_iret (v := nI (numM c r true (((b % c) + k) - 2) (b / c))) hx hb hr hlocks (by unfold sid numM; simp only [Bool.false_eq_true, if_false, if_true]; split <;> first | rfl | (exfalso; omega)) dX9_sideOf_45
  refine lv_aload_n (pc := 20) hx hb dX9_sideOf_20 rfl (lv_at hl 2 rfl) ?_
  refine lv_iconst (pc := 21) (v := nI 0) hx hb dX9_sideOf_21 rfl ?_
  refine lv_iload_n (pc := 22) hx hb dX9_sideOf_22 rfl (lv_at hl 1 rfl) ?_
  refine lv_iload (pc := 23) hx hb dX9_sideOf_23 (lv_at hl 0 rfl) ?_
  refine lv_iload_n (pc := 25) hx hb dX9_sideOf_25 rfl (lv_at hl 4 rfl) ?_
  refine n_iadd (pc := 26) hx hb dX9_sideOf_26 ?_
  refine ro_go (pc := 27) (va_runV (As := [.int (nI 0), .int (nI (b % c)), .int (nI ((b / c) + k))]) (rest := []) ⟨hx, hb, hml, hown, hts⟩ (c_X9_numberOf l D Y mo c r fs false (b % c) ((b / c) + k) (hf) (hC)) (cwV 3 hts gX9_sideOf_X9_numberOf rfl rfl rfl ⟨rfl, hdX9_numberOf⟩ ⟨Nat.le_of_ble_eq_true rfl, Nat.le_of_ble_eq_true rfl⟩) (ro_pV hK hP (ro_recv hK hP (ci := 8) (q0 := 0) rfl rfl)) rfl rfl hl.1 rfl (lv_room (Nat.le_of_ble_eq_true rfl)) dX9_sideOf_27 ⟨Nat.le_of_ble_eq_true rfl, Nat.le_of_ble_eq_true rfl⟩) ?_
  refine lv_goto (pc := 30) (tgt := 45) hx hb dX9_sideOf_30 (by decide) ?_
  exact ro_iret (v := nI (numM c r false (b % c) ((b / c) + k))) hx hb hr hlocks (by unfold sid numM; simp only [Bool.false_eq_true, if_false, if_true]; split <;> first | rfl | (exfalso; omega)) dX9_sideOf_45

set_option maxHeartbeats 1200000 in
set_option maxRecDepth 100000 in
theorem c_X9_beside (l : Launch) (D : va_G) (Y : vY) (mo : Nat) (c : Nat) (r : Nat) (fs : List Value) (li : Nat) (k : Nat) (hf : MF c r fs) (hC : Cr c r) (hl0 : li < al c r) (hk2 : k < 2) : Ro l yX9_beside wsX9_beside ({ frames := 3, cells := 0, slots := 0, locals := 62 } : Room) [.ref mo, .int (nI li), .int (nI k)] D Y [(mo, .inr (8, fs))] (some (.int (oI (bes c r li k)))) := by
  refine ro_intro (by decide +kernel) rfl (Nat.le_of_ble_eq_true rfl) [(0, .ref mo), (1, .int (nI li)), (2, .int (nI k))] rfl ?_
  intro pG eG sG mG aG bG tG cG ls hx hb hr hml hts hown hlocks hK hP hl
  have hP : va_P D vwCl [(mo, .inr (8, fs))] sG.heap := hP
  have hown : sG.vm.findClass RX9 = some mG.cls := hown
  have hl : lv_has ls 5 [(0, .ref mo), (1, .int (nI li)), (2, .int (nI k))] := hl
  have hinX9 : ∀ w ∈ u_ws RX9 TX9 25, w ∈ wsX9_beside := by decide +kernel
  obtain ⟨hq1, hq2, hq3, hq4, hq5, hq6, hq7, hq8, hq9, hq10, hq11⟩ := hC.q
  obtain ⟨hcr1, hcr2⟩ := col_row hC hl0
  have hcol2 : colM c r li < c + 1 := by by_cases q : lvl c r ≤ li; exact (hcr1 q).1; have := hcr2 q; omega
  have hrow : rowM c r li < r + 1 := by by_cases q : lvl c r ≤ li; have := hcr1 q; omega; exact (hcr2 q).2
  refine lv_aload_n (pc := 0) hx hb dX9_beside_0 rfl (lv_at hl 0 rfl) ?_
  refine lv_iload_n (pc := 1) hx hb dX9_beside_1 rfl (lv_at hl 1 rfl) ?_
  refine ro_go (pc := 2) (va_runV (As := [.int (nI li)]) (rest := []) ⟨hx, hb, hml, hown, hts⟩ (c_X9_columnOf l D Y mo c r fs li (hf) (hC) (hl0)) (cwV 1 hts gX9_beside_X9_columnOf rfl rfl rfl ⟨rfl, hdX9_columnOf⟩ ⟨Nat.le_of_ble_eq_true rfl, Nat.le_of_ble_eq_true rfl⟩) (ro_pV hK hP (ro_recv hK hP (ci := 8) (q0 := 0) rfl rfl)) rfl rfl hl.1 rfl (lv_room (Nat.le_of_ble_eq_true rfl)) dX9_beside_2 ⟨Nat.le_of_ble_eq_true rfl, Nat.le_of_ble_eq_true rfl⟩) ?_
  refine lv_aload_n (pc := 5) hx hb dX9_beside_5 rfl (lv_at hl 0 rfl) ?_
  refine lv_iload_n (pc := 6) hx hb dX9_beside_6 rfl (lv_at hl 1 rfl) ?_
  refine ro_go (pc := 7) (va_runV (As := [.int (nI li)]) (rest := [.int (nI (colM c r li))]) ⟨hx, hb, hml, hown, hts⟩ (c_X9_isUpright l D Y mo c r fs li (hf) (hC) (hl0)) (cwV 1 hts gX9_beside_X9_isUpright rfl rfl rfl ⟨rfl, hdX9_isUpright⟩ ⟨Nat.le_of_ble_eq_true rfl, Nat.le_of_ble_eq_true rfl⟩) (ro_pV hK hP (ro_recv hK hP (ci := 8) (q0 := 0) rfl rfl)) rfl rfl hl.1 rfl (lv_room (Nat.le_of_ble_eq_true rfl)) dX9_beside_7 ⟨Nat.le_of_ble_eq_true rfl, Nat.le_of_ble_eq_true rfl⟩) ?_
  refine z_if_eq (pc := 10) (tgt := 21) hx hb dX9_beside_10 (by decide) (fun c10 => ?_) (fun c10 => ?_)
  · refine lv_iconst (pc := 21) (v := nI 0) hx hb dX9_beside_21 rfl ?_
    refine n_isub (pc := 22) hx hb (Nat.zero_le _) dX9_beside_22 ?_
    refine top_i (show nI ((colM c r li) - 0) = nI (colM c r li) from rfl) ?_
    refine lv_istore_n (pc := 23) (lv' := [(3, .int (nI (colM c r li))), (0, .ref mo), (1, .int (nI li)), (2, .int (nI k))]) hx hb dX9_beside_23 rfl hl (by decide) rfl (fun ls hl => ?_)
    refine lv_aload_n (pc := 24) hx hb dX9_beside_24 rfl (lv_at hl 1 rfl) ?_
    refine lv_iload_n (pc := 25) hx hb dX9_beside_25 rfl (lv_at hl 2 rfl) ?_
    refine ro_go (pc := 26) (va_runV (As := [.int (nI li)]) (rest := []) ⟨hx, hb, hml, hown, hts⟩ (c_X9_rowOf l D Y mo c r fs li (hf) (hC) (hl0)) (cwV 1 hts gX9_beside_X9_rowOf rfl rfl rfl ⟨rfl, hdX9_rowOf⟩ ⟨Nat.le_of_ble_eq_true rfl, Nat.le_of_ble_eq_true rfl⟩) (ro_pV hK hP (ro_recv hK hP (ci := 8) (q0 := 0) rfl rfl)) rfl rfl hl.1 rfl (lv_room (Nat.le_of_ble_eq_true rfl)) dX9_beside_26 ⟨Nat.le_of_ble_eq_true rfl, Nat.le_of_ble_eq_true rfl⟩) ?_
    refine lv_aload_n (pc := 29) hx hb dX9_beside_29 rfl (lv_at hl 1 rfl) ?_
    refine lv_iload_n (pc := 30) hx hb dX9_beside_30 rfl (lv_at hl 2 rfl) ?_
    refine ro_go (pc := 31) (va_runV (As := [.int (nI li)]) (rest := [.int (nI (rowM c r li))]) ⟨hx, hb, hml, hown, hts⟩ (c_X9_isUpright l D Y mo c r fs li (hf) (hC) (hl0)) (cwV 1 hts gX9_beside_X9_isUpright rfl rfl rfl ⟨rfl, hdX9_isUpright⟩ ⟨Nat.le_of_ble_eq_true rfl, Nat.le_of_ble_eq_true rfl⟩) (ro_pV hK hP (ro_recv hK hP (ci := 8) (q0 := 0) rfl rfl)) rfl rfl hl.1 rfl (lv_room (Nat.le_of_ble_eq_true rfl)) dX9_beside_31 ⟨Nat.le_of_ble_eq_true rfl, Nat.le_of_ble_eq_true rfl⟩) ?_
    refine z_if_ne (pc := 34) (tgt := 45) hx hb dX9_beside_34 (by decide) (fun c34 => ?_) (fun c34 => ?_)
    · exact absurd (c10.symm.trans c34) (by decide)
    refine lv_iload_n (pc := 37) hx hb dX9_beside_37 rfl (lv_at hl 3 rfl) ?_
    refine n_if_ne (pc := 38) (tgt := 45) hx hb (by omega) dX9_beside_38 (by decide) (fun c38 => ?_) (fun c38 => ?_)
    · refine lv_iconst (pc := 45) (v := nI 0) hx hb dX9_beside_45 rfl ?_
      refine n_isub (pc := 46) hx hb (Nat.zero_le _) dX9_beside_46 ?_
      refine top_i (show nI ((rowM c r li) - 0) = nI (rowM c r li) from rfl) ?_
      refine lv_istore (pc := 47) (lv' := [(4, .int (nI (rowM c r li))), (3, .int (nI (colM c r li))), (0, .ref mo), (1, .int (nI li)), (2, .int (nI k))]) hx hb dX9_beside_47 hl (by decide) rfl (fun ls hl => ?_)
      refine lv_iload_n (pc := 49) hx hb dX9_beside_49 rfl (lv_at hl 1 rfl) ?_
      refine lv_iconst (pc := 50) (v := nI 0) hx hb dX9_beside_50 rfl ?_
      refine lv_aload_n (pc := 51) hx hb dX9_beside_51 rfl (lv_at hl 2 rfl) ?_
      refine va_get (pc := 52) (D := D) (ci := 8) (v := .int (nI c)) (C := RX9) (T := TX9) (N := 25) hx hb hts hinX9 hown hK.1 hP 0 rfl rfl 1 (by decide) (hts (.fieldLink RX9 7 "BoxesGameModel" "columns" "I") (List.mem_of_getElem? (i := 1) rfl)) (fun _ h9 => h9) hf.1 dX9_beside_52 ?_
      refine lv_iconst (pc := 55) (v := nI 1) hx hb dX9_beside_55 rfl ?_
      refine n_isub (pc := 56) hx hb (by omega) dX9_beside_56 ?_
      refine ro_go (pc := 57) (va_runS (As := [.int (nI (colM c r li)), .int (nI 0), .int (nI (c - 1))]) (rest := []) ⟨hx, hb, hml, hown, hts⟩ (c_X9_within l D Y (nI (colM c r li)) (nI 0) (nI (c - 1)) ) (va_cwS 3 hts gX9_beside_X9_within rfl rfl rfl hdX9_within ⟨Nat.le_of_ble_eq_true rfl, Nat.le_of_ble_eq_true rfl⟩) (ro_pS hK (hP.sub [] rfl)) rfl rfl hl.1 rfl (lv_room (Nat.le_of_ble_eq_true rfl)) dX9_beside_57 ⟨Nat.le_of_ble_eq_true rfl, Nat.le_of_ble_eq_true rfl⟩) ?_
      refine z_if_eq (pc := 60) (tgt := 90) hx hb dX9_beside_60 (by decide) (fun c60 => ?_) (fun c60 => ?_)
      · refine lv_iconst (pc := 90) (v := (-1)) hx hb dX9_beside_90 (by decide) ?_
        exact ro_iret (v := (-1)) hx hb hr hlocks (by (simp only [decide_eq_true_eq, decide_eq_false_iff_not, Bool.false_eq_true, reduceCtorEq] at c10) <;> (try rw [wi_n (by omega) (by omega)] at c60) <;> (try rw [wi_n (by omega) (by omega)] at c75) <;> (try rw [wi_neg] at c60) <;> (try rw [wi_neg] at c75) <;> (try simp only [decide_eq_true_eq, decide_eq_false_iff_not, Bool.false_eq_true, reduceCtorEq] at c60) <;> (try simp only [decide_eq_true_eq, decide_eq_false_iff_not, Bool.false_eq_true, reduceCtorEq] at c75) <;> (try have hcr3 := hcr1 c10) <;> (try have hcr3 := hcr2 c10) <;> unfold bes <;> (repeat' split) <;> first | rfl | (exfalso; omega) | contradiction) dX9_beside_91
      refine lv_iload (pc := 63) hx hb dX9_beside_63 (lv_at hl 0 rfl) ?_
      refine lv_iconst (pc := 65) (v := nI 0) hx hb dX9_beside_65 rfl ?_
      refine lv_aload_n (pc := 66) hx hb dX9_beside_66 rfl (lv_at hl 2 rfl) ?_
      refine va_get (pc := 67) (D := D) (ci := 8) (v := .int (nI r)) (C := RX9) (T := TX9) (N := 25) hx hb hts hinX9 hown hK.1 hP 0 rfl rfl 2 (by decide) (hts (.fieldLink RX9 13 "BoxesGameModel" "rows" "I") (List.mem_of_getElem? (i := 2) rfl)) (fun _ h9 => h9) hf.2 dX9_beside_67 ?_
      refine lv_iconst (pc := 70) (v := nI 1) hx hb dX9_beside_70 rfl ?_
      refine n_isub (pc := 71) hx hb (by omega) dX9_beside_71 ?_
      refine ro_go (pc := 72) (va_runS (As := [.int (nI (rowM c r li)), .int (nI 0), .int (nI (r - 1))]) (rest := []) ⟨hx, hb, hml, hown, hts⟩ (c_X9_within l D Y (nI (rowM c r li)) (nI 0) (nI (r - 1)) ) (va_cwS 3 hts gX9_beside_X9_within rfl rfl rfl hdX9_within ⟨Nat.le_of_ble_eq_true rfl, Nat.le_of_ble_eq_true rfl⟩) (ro_pS hK (hP.sub [] rfl)) rfl rfl hl.1 rfl (lv_room (Nat.le_of_ble_eq_true rfl)) dX9_beside_72 ⟨Nat.le_of_ble_eq_true rfl, Nat.le_of_ble_eq_true rfl⟩) ?_
      refine z_if_eq (pc := 75) (tgt := 90) hx hb dX9_beside_75 (by decide) (fun c75 => ?_) (fun c75 => ?_)
      · refine lv_iconst (pc := 90) (v := (-1)) hx hb dX9_beside_90 (by decide) ?_
        exact ro_iret (v := (-1)) hx hb hr hlocks (by (simp only [decide_eq_true_eq, decide_eq_false_iff_not, Bool.false_eq_true, reduceCtorEq] at c10) <;> (try rw [wi_n (by omega) (by omega)] at c60) <;> (try rw [wi_n (by omega) (by omega)] at c75) <;> (try rw [wi_neg] at c60) <;> (try rw [wi_neg] at c75) <;> (try simp only [decide_eq_true_eq, decide_eq_false_iff_not, Bool.false_eq_true, reduceCtorEq] at c60) <;> (try simp only [decide_eq_true_eq, decide_eq_false_iff_not, Bool.false_eq_true, reduceCtorEq] at c75) <;> (try have hcr3 := hcr1 c10) <;> (try have hcr3 := hcr2 c10) <;> unfold bes <;> (repeat' split) <;> first | rfl | (exfalso; omega) | contradiction) dX9_beside_91
      refine lv_iload (pc := 78) hx hb dX9_beside_78 (lv_at hl 0 rfl) ?_
      refine lv_aload_n (pc := 80) hx hb dX9_beside_80 rfl (lv_at hl 2 rfl) ?_
      refine va_get (pc := 81) (D := D) (ci := 8) (v := .int (nI c)) (C := RX9) (T := TX9) (N := 25) hx hb hts hinX9 hown hK.1 hP 0 rfl rfl 1 (by decide) (hts (.fieldLink RX9 7 "BoxesGameModel" "columns" "I") (List.mem_of_getElem? (i := 1) rfl)) (fun _ h9 => h9) hf.1 dX9_beside_81 ?_
      refine n_imul (pc := 84) hx hb dX9_beside_84 ?_
      refine lv_iload_n (pc := 85) hx hb dX9_beside_85 rfl (lv_at hl 1 rfl) ?_
      refine n_iadd (pc := 86) hx hb dX9_beside_86 ?_
      refine lv_goto (pc := 87) (tgt := 91) hx hb dX9_beside_87 (by decide) ?_
      exact ro_iret (v := nI (((rowM c r li) * c) + (colM c r li))) hx hb hr hlocks (by (simp only [decide_eq_true_eq, decide_eq_false_iff_not, Bool.false_eq_true, reduceCtorEq] at c10) <;> (try rw [wi_n (by omega) (by omega)] at c60) <;> (try rw [wi_n (by omega) (by omega)] at c75) <;> (try rw [wi_neg] at c60) <;> (try rw [wi_neg] at c75) <;> (try simp only [decide_eq_true_eq, decide_eq_false_iff_not, Bool.false_eq_true, reduceCtorEq] at c60) <;> (try simp only [decide_eq_true_eq, decide_eq_false_iff_not, Bool.false_eq_true, reduceCtorEq] at c75) <;> (try have hcr3 := hcr1 c10) <;> (try have hcr3 := hcr2 c10) <;> unfold bes <;> (repeat' split) <;> first | rfl | (exfalso; omega) | contradiction) dX9_beside_91
    refine lv_iconst (pc := 41) (v := nI 1) hx hb dX9_beside_41 rfl ?_
    refine lv_goto (pc := 42) (tgt := 46) hx hb dX9_beside_42 (by decide) ?_
    rcases Nat.eq_zero_or_pos (rowM c r li) with h46 | h46
    · skip
      refine lv_isub (pc := 46) hx hb dX9_beside_46 ?_
      refine top_i (show (nI (rowM c r li)) - (nI 1) = (-1) from by rw [h46]; decide) ?_
      refine lv_istore (pc := 47) (lv' := [(4, .int (-1)), (3, .int (nI (colM c r li))), (0, .ref mo), (1, .int (nI li)), (2, .int (nI k))]) hx hb dX9_beside_47 hl (by decide) rfl (fun ls hl => ?_)
      refine lv_iload_n (pc := 49) hx hb dX9_beside_49 rfl (lv_at hl 1 rfl) ?_
      refine lv_iconst (pc := 50) (v := nI 0) hx hb dX9_beside_50 rfl ?_
      refine lv_aload_n (pc := 51) hx hb dX9_beside_51 rfl (lv_at hl 2 rfl) ?_
      refine va_get (pc := 52) (D := D) (ci := 8) (v := .int (nI c)) (C := RX9) (T := TX9) (N := 25) hx hb hts hinX9 hown hK.1 hP 0 rfl rfl 1 (by decide) (hts (.fieldLink RX9 7 "BoxesGameModel" "columns" "I") (List.mem_of_getElem? (i := 1) rfl)) (fun _ h9 => h9) hf.1 dX9_beside_52 ?_
      refine lv_iconst (pc := 55) (v := nI 1) hx hb dX9_beside_55 rfl ?_
      refine n_isub (pc := 56) hx hb (by omega) dX9_beside_56 ?_
      refine ro_go (pc := 57) (va_runS (As := [.int (nI (colM c r li)), .int (nI 0), .int (nI (c - 1))]) (rest := []) ⟨hx, hb, hml, hown, hts⟩ (c_X9_within l D Y (nI (colM c r li)) (nI 0) (nI (c - 1)) ) (va_cwS 3 hts gX9_beside_X9_within rfl rfl rfl hdX9_within ⟨Nat.le_of_ble_eq_true rfl, Nat.le_of_ble_eq_true rfl⟩) (ro_pS hK (hP.sub [] rfl)) rfl rfl hl.1 rfl (lv_room (Nat.le_of_ble_eq_true rfl)) dX9_beside_57 ⟨Nat.le_of_ble_eq_true rfl, Nat.le_of_ble_eq_true rfl⟩) ?_
      refine z_if_eq (pc := 60) (tgt := 90) hx hb dX9_beside_60 (by decide) (fun c60 => ?_) (fun c60 => ?_)
      · refine lv_iconst (pc := 90) (v := (-1)) hx hb dX9_beside_90 (by decide) ?_
        exact ro_iret (v := (-1)) hx hb hr hlocks (by (simp only [decide_eq_true_eq, decide_eq_false_iff_not, Bool.false_eq_true, reduceCtorEq] at c10) <;> (try rw [wi_n (by omega) (by omega)] at c60) <;> (try rw [wi_n (by omega) (by omega)] at c75) <;> (try rw [wi_neg] at c60) <;> (try rw [wi_neg] at c75) <;> (try simp only [decide_eq_true_eq, decide_eq_false_iff_not, Bool.false_eq_true, reduceCtorEq] at c60) <;> (try simp only [decide_eq_true_eq, decide_eq_false_iff_not, Bool.false_eq_true, reduceCtorEq] at c75) <;> (try have hcr3 := hcr1 c10) <;> (try have hcr3 := hcr2 c10) <;> unfold bes <;> (repeat' split) <;> first | rfl | (exfalso; omega) | contradiction) dX9_beside_91
      refine lv_iload (pc := 63) hx hb dX9_beside_63 (lv_at hl 0 rfl) ?_
      refine lv_iconst (pc := 65) (v := nI 0) hx hb dX9_beside_65 rfl ?_
      refine lv_aload_n (pc := 66) hx hb dX9_beside_66 rfl (lv_at hl 2 rfl) ?_
      refine va_get (pc := 67) (D := D) (ci := 8) (v := .int (nI r)) (C := RX9) (T := TX9) (N := 25) hx hb hts hinX9 hown hK.1 hP 0 rfl rfl 2 (by decide) (hts (.fieldLink RX9 13 "BoxesGameModel" "rows" "I") (List.mem_of_getElem? (i := 2) rfl)) (fun _ h9 => h9) hf.2 dX9_beside_67 ?_
      refine lv_iconst (pc := 70) (v := nI 1) hx hb dX9_beside_70 rfl ?_
      refine n_isub (pc := 71) hx hb (by omega) dX9_beside_71 ?_
      refine ro_go (pc := 72) (va_runS (As := [.int (-1), .int (nI 0), .int (nI (r - 1))]) (rest := []) ⟨hx, hb, hml, hown, hts⟩ (c_X9_within l D Y (-1) (nI 0) (nI (r - 1)) ) (va_cwS 3 hts gX9_beside_X9_within rfl rfl rfl hdX9_within ⟨Nat.le_of_ble_eq_true rfl, Nat.le_of_ble_eq_true rfl⟩) (ro_pS hK (hP.sub [] rfl)) rfl rfl hl.1 rfl (lv_room (Nat.le_of_ble_eq_true rfl)) dX9_beside_72 ⟨Nat.le_of_ble_eq_true rfl, Nat.le_of_ble_eq_true rfl⟩) ?_
      refine z_if_eq (pc := 75) (tgt := 90) hx hb dX9_beside_75 (by decide) (fun c75 => ?_) (fun c75 => ?_)
      · refine lv_iconst (pc := 90) (v := (-1)) hx hb dX9_beside_90 (by decide) ?_
        exact ro_iret (v := (-1)) hx hb hr hlocks (by (simp only [decide_eq_true_eq, decide_eq_false_iff_not, Bool.false_eq_true, reduceCtorEq] at c10) <;> (try rw [wi_n (by omega) (by omega)] at c60) <;> (try rw [wi_n (by omega) (by omega)] at c75) <;> (try rw [wi_neg] at c60) <;> (try rw [wi_neg] at c75) <;> (try simp only [decide_eq_true_eq, decide_eq_false_iff_not, Bool.false_eq_true, reduceCtorEq] at c60) <;> (try simp only [decide_eq_true_eq, decide_eq_false_iff_not, Bool.false_eq_true, reduceCtorEq] at c75) <;> (try have hcr3 := hcr1 c10) <;> (try have hcr3 := hcr2 c10) <;> unfold bes <;> (repeat' split) <;> first | rfl | (exfalso; omega) | contradiction) dX9_beside_91
      refine lv_iload (pc := 78) hx hb dX9_beside_78 (lv_at hl 0 rfl) ?_
      refine lv_aload_n (pc := 80) hx hb dX9_beside_80 rfl (lv_at hl 2 rfl) ?_
      refine va_get (pc := 81) (D := D) (ci := 8) (v := .int (nI c)) (C := RX9) (T := TX9) (N := 25) hx hb hts hinX9 hown hK.1 hP 0 rfl rfl 1 (by decide) (hts (.fieldLink RX9 7 "BoxesGameModel" "columns" "I") (List.mem_of_getElem? (i := 1) rfl)) (fun _ h9 => h9) hf.1 dX9_beside_81 ?_
      refine lv_imul (pc := 84) hx hb dX9_beside_84 ?_
      refine lv_iload_n (pc := 85) hx hb dX9_beside_85 rfl (lv_at hl 1 rfl) ?_
      refine lv_iadd (pc := 86) hx hb dX9_beside_86 ?_
      refine lv_goto (pc := 87) (tgt := 91) hx hb dX9_beside_87 (by decide) ?_
      exact ro_iret (v := ((-1) * (nI c)) + (nI (colM c r li))) hx hb hr hlocks (by (simp only [decide_eq_true_eq, decide_eq_false_iff_not, Bool.false_eq_true, reduceCtorEq] at c10) <;> (try rw [wi_n (by omega) (by omega)] at c60) <;> (try rw [wi_n (by omega) (by omega)] at c75) <;> (try rw [wi_neg] at c60) <;> (try rw [wi_neg] at c75) <;> (try simp only [decide_eq_true_eq, decide_eq_false_iff_not, Bool.false_eq_true, reduceCtorEq] at c60) <;> (try simp only [decide_eq_true_eq, decide_eq_false_iff_not, Bool.false_eq_true, reduceCtorEq] at c75) <;> (try have hcr3 := hcr1 c10) <;> (try have hcr3 := hcr2 c10) <;> unfold bes <;> (repeat' split) <;> first | rfl | (exfalso; omega) | contradiction) dX9_beside_91
    · skip
      refine n_isub (pc := 46) hx hb (h46) dX9_beside_46 ?_
      refine lv_istore (pc := 47) (lv' := [(4, .int (nI ((rowM c r li) - 1))), (3, .int (nI (colM c r li))), (0, .ref mo), (1, .int (nI li)), (2, .int (nI k))]) hx hb dX9_beside_47 hl (by decide) rfl (fun ls hl => ?_)
      refine lv_iload_n (pc := 49) hx hb dX9_beside_49 rfl (lv_at hl 1 rfl) ?_
      refine lv_iconst (pc := 50) (v := nI 0) hx hb dX9_beside_50 rfl ?_
      refine lv_aload_n (pc := 51) hx hb dX9_beside_51 rfl (lv_at hl 2 rfl) ?_
      refine va_get (pc := 52) (D := D) (ci := 8) (v := .int (nI c)) (C := RX9) (T := TX9) (N := 25) hx hb hts hinX9 hown hK.1 hP 0 rfl rfl 1 (by decide) (hts (.fieldLink RX9 7 "BoxesGameModel" "columns" "I") (List.mem_of_getElem? (i := 1) rfl)) (fun _ h9 => h9) hf.1 dX9_beside_52 ?_
      refine lv_iconst (pc := 55) (v := nI 1) hx hb dX9_beside_55 rfl ?_
      refine n_isub (pc := 56) hx hb (by omega) dX9_beside_56 ?_
      refine ro_go (pc := 57) (va_runS (As := [.int (nI (colM c r li)), .int (nI 0), .int (nI (c - 1))]) (rest := []) ⟨hx, hb, hml, hown, hts⟩ (c_X9_within l D Y (nI (colM c r li)) (nI 0) (nI (c - 1)) ) (va_cwS 3 hts gX9_beside_X9_within rfl rfl rfl hdX9_within ⟨Nat.le_of_ble_eq_true rfl, Nat.le_of_ble_eq_true rfl⟩) (ro_pS hK (hP.sub [] rfl)) rfl rfl hl.1 rfl (lv_room (Nat.le_of_ble_eq_true rfl)) dX9_beside_57 ⟨Nat.le_of_ble_eq_true rfl, Nat.le_of_ble_eq_true rfl⟩) ?_
      refine z_if_eq (pc := 60) (tgt := 90) hx hb dX9_beside_60 (by decide) (fun c60 => ?_) (fun c60 => ?_)
      · refine lv_iconst (pc := 90) (v := (-1)) hx hb dX9_beside_90 (by decide) ?_
        exact ro_iret (v := (-1)) hx hb hr hlocks (by (simp only [decide_eq_true_eq, decide_eq_false_iff_not, Bool.false_eq_true, reduceCtorEq] at c10) <;> (try rw [wi_n (by omega) (by omega)] at c60) <;> (try rw [wi_n (by omega) (by omega)] at c75) <;> (try rw [wi_neg] at c60) <;> (try rw [wi_neg] at c75) <;> (try simp only [decide_eq_true_eq, decide_eq_false_iff_not, Bool.false_eq_true, reduceCtorEq] at c60) <;> (try simp only [decide_eq_true_eq, decide_eq_false_iff_not, Bool.false_eq_true, reduceCtorEq] at c75) <;> (try have hcr3 := hcr1 c10) <;> (try have hcr3 := hcr2 c10) <;> unfold bes <;> (repeat' split) <;> first | rfl | (exfalso; omega) | contradiction) dX9_beside_91
      refine lv_iload (pc := 63) hx hb dX9_beside_63 (lv_at hl 0 rfl) ?_
      refine lv_iconst (pc := 65) (v := nI 0) hx hb dX9_beside_65 rfl ?_
      refine lv_aload_n (pc := 66) hx hb dX9_beside_66 rfl (lv_at hl 2 rfl) ?_
      refine va_get (pc := 67) (D := D) (ci := 8) (v := .int (nI r)) (C := RX9) (T := TX9) (N := 25) hx hb hts hinX9 hown hK.1 hP 0 rfl rfl 2 (by decide) (hts (.fieldLink RX9 13 "BoxesGameModel" "rows" "I") (List.mem_of_getElem? (i := 2) rfl)) (fun _ h9 => h9) hf.2 dX9_beside_67 ?_
      refine lv_iconst (pc := 70) (v := nI 1) hx hb dX9_beside_70 rfl ?_
      refine n_isub (pc := 71) hx hb (by omega) dX9_beside_71 ?_
      refine ro_go (pc := 72) (va_runS (As := [.int (nI ((rowM c r li) - 1)), .int (nI 0), .int (nI (r - 1))]) (rest := []) ⟨hx, hb, hml, hown, hts⟩ (c_X9_within l D Y (nI ((rowM c r li) - 1)) (nI 0) (nI (r - 1)) ) (va_cwS 3 hts gX9_beside_X9_within rfl rfl rfl hdX9_within ⟨Nat.le_of_ble_eq_true rfl, Nat.le_of_ble_eq_true rfl⟩) (ro_pS hK (hP.sub [] rfl)) rfl rfl hl.1 rfl (lv_room (Nat.le_of_ble_eq_true rfl)) dX9_beside_72 ⟨Nat.le_of_ble_eq_true rfl, Nat.le_of_ble_eq_true rfl⟩) ?_
      refine z_if_eq (pc := 75) (tgt := 90) hx hb dX9_beside_75 (by decide) (fun c75 => ?_) (fun c75 => ?_)
      · refine lv_iconst (pc := 90) (v := (-1)) hx hb dX9_beside_90 (by decide) ?_
        exact ro_iret (v := (-1)) hx hb hr hlocks (by (simp only [decide_eq_true_eq, decide_eq_false_iff_not, Bool.false_eq_true, reduceCtorEq] at c10) <;> (try rw [wi_n (by omega) (by omega)] at c60) <;> (try rw [wi_n (by omega) (by omega)] at c75) <;> (try rw [wi_neg] at c60) <;> (try rw [wi_neg] at c75) <;> (try simp only [decide_eq_true_eq, decide_eq_false_iff_not, Bool.false_eq_true, reduceCtorEq] at c60) <;> (try simp only [decide_eq_true_eq, decide_eq_false_iff_not, Bool.false_eq_true, reduceCtorEq] at c75) <;> (try have hcr3 := hcr1 c10) <;> (try have hcr3 := hcr2 c10) <;> unfold bes <;> (repeat' split) <;> first | rfl | (exfalso; omega) | contradiction) dX9_beside_91
      refine lv_iload (pc := 78) hx hb dX9_beside_78 (lv_at hl 0 rfl) ?_
      refine lv_aload_n (pc := 80) hx hb dX9_beside_80 rfl (lv_at hl 2 rfl) ?_
      refine va_get (pc := 81) (D := D) (ci := 8) (v := .int (nI c)) (C := RX9) (T := TX9) (N := 25) hx hb hts hinX9 hown hK.1 hP 0 rfl rfl 1 (by decide) (hts (.fieldLink RX9 7 "BoxesGameModel" "columns" "I") (List.mem_of_getElem? (i := 1) rfl)) (fun _ h9 => h9) hf.1 dX9_beside_81 ?_
      refine n_imul (pc := 84) hx hb dX9_beside_84 ?_
      refine lv_iload_n (pc := 85) hx hb dX9_beside_85 rfl (lv_at hl 1 rfl) ?_
      refine n_iadd (pc := 86) hx hb dX9_beside_86 ?_
      refine lv_goto (pc := 87) (tgt := 91) hx hb dX9_beside_87 (by decide) ?_
      exact ro_iret (v := nI ((((rowM c r li) - 1) * c) + (colM c r li))) hx hb hr hlocks (by (simp only [decide_eq_true_eq, decide_eq_false_iff_not, Bool.false_eq_true, reduceCtorEq] at c10) <;> (try rw [wi_n (by omega) (by omega)] at c60) <;> (try rw [wi_n (by omega) (by omega)] at c75) <;> (try rw [wi_neg] at c60) <;> (try rw [wi_neg] at c75) <;> (try simp only [decide_eq_true_eq, decide_eq_false_iff_not, Bool.false_eq_true, reduceCtorEq] at c60) <;> (try simp only [decide_eq_true_eq, decide_eq_false_iff_not, Bool.false_eq_true, reduceCtorEq] at c75) <;> (try have hcr3 := hcr1 c10) <;> (try have hcr3 := hcr2 c10) <;> unfold bes <;> (repeat' split) <;> first | rfl | (exfalso; omega) | contradiction) dX9_beside_91
  refine lv_iload_n (pc := 13) hx hb dX9_beside_13 rfl (lv_at hl 2 rfl) ?_
  refine n_if_ne (pc := 14) (tgt := 21) hx hb (by omega) dX9_beside_14 (by decide) (fun c14 => ?_) (fun c14 => ?_)
  · refine lv_iconst (pc := 21) (v := nI 0) hx hb dX9_beside_21 rfl ?_
    refine n_isub (pc := 22) hx hb (Nat.zero_le _) dX9_beside_22 ?_
    refine top_i (show nI ((colM c r li) - 0) = nI (colM c r li) from rfl) ?_
    refine lv_istore_n (pc := 23) (lv' := [(3, .int (nI (colM c r li))), (0, .ref mo), (1, .int (nI li)), (2, .int (nI k))]) hx hb dX9_beside_23 rfl hl (by decide) rfl (fun ls hl => ?_)
    refine lv_aload_n (pc := 24) hx hb dX9_beside_24 rfl (lv_at hl 1 rfl) ?_
    refine lv_iload_n (pc := 25) hx hb dX9_beside_25 rfl (lv_at hl 2 rfl) ?_
    refine ro_go (pc := 26) (va_runV (As := [.int (nI li)]) (rest := []) ⟨hx, hb, hml, hown, hts⟩ (c_X9_rowOf l D Y mo c r fs li (hf) (hC) (hl0)) (cwV 1 hts gX9_beside_X9_rowOf rfl rfl rfl ⟨rfl, hdX9_rowOf⟩ ⟨Nat.le_of_ble_eq_true rfl, Nat.le_of_ble_eq_true rfl⟩) (ro_pV hK hP (ro_recv hK hP (ci := 8) (q0 := 0) rfl rfl)) rfl rfl hl.1 rfl (lv_room (Nat.le_of_ble_eq_true rfl)) dX9_beside_26 ⟨Nat.le_of_ble_eq_true rfl, Nat.le_of_ble_eq_true rfl⟩) ?_
    refine lv_aload_n (pc := 29) hx hb dX9_beside_29 rfl (lv_at hl 1 rfl) ?_
    refine lv_iload_n (pc := 30) hx hb dX9_beside_30 rfl (lv_at hl 2 rfl) ?_
    refine ro_go (pc := 31) (va_runV (As := [.int (nI li)]) (rest := [.int (nI (rowM c r li))]) ⟨hx, hb, hml, hown, hts⟩ (c_X9_isUpright l D Y mo c r fs li (hf) (hC) (hl0)) (cwV 1 hts gX9_beside_X9_isUpright rfl rfl rfl ⟨rfl, hdX9_isUpright⟩ ⟨Nat.le_of_ble_eq_true rfl, Nat.le_of_ble_eq_true rfl⟩) (ro_pV hK hP (ro_recv hK hP (ci := 8) (q0 := 0) rfl rfl)) rfl rfl hl.1 rfl (lv_room (Nat.le_of_ble_eq_true rfl)) dX9_beside_31 ⟨Nat.le_of_ble_eq_true rfl, Nat.le_of_ble_eq_true rfl⟩) ?_
    refine z_if_ne (pc := 34) (tgt := 45) hx hb dX9_beside_34 (by decide) (fun c34 => ?_) (fun c34 => ?_)
    · refine lv_iconst (pc := 45) (v := nI 0) hx hb dX9_beside_45 rfl ?_
      refine n_isub (pc := 46) hx hb (Nat.zero_le _) dX9_beside_46 ?_
      refine top_i (show nI ((rowM c r li) - 0) = nI (rowM c r li) from rfl) ?_
      refine lv_istore (pc := 47) (lv' := [(4, .int (nI (rowM c r li))), (3, .int (nI (colM c r li))), (0, .ref mo), (1, .int (nI li)), (2, .int (nI k))]) hx hb dX9_beside_47 hl (by decide) rfl (fun ls hl => ?_)
      refine lv_iload_n (pc := 49) hx hb dX9_beside_49 rfl (lv_at hl 1 rfl) ?_
      refine lv_iconst (pc := 50) (v := nI 0) hx hb dX9_beside_50 rfl ?_
      refine lv_aload_n (pc := 51) hx hb dX9_beside_51 rfl (lv_at hl 2 rfl) ?_
      refine va_get (pc := 52) (D := D) (ci := 8) (v := .int (nI c)) (C := RX9) (T := TX9) (N := 25) hx hb hts hinX9 hown hK.1 hP 0 rfl rfl 1 (by decide) (hts (.fieldLink RX9 7 "BoxesGameModel" "columns" "I") (List.mem_of_getElem? (i := 1) rfl)) (fun _ h9 => h9) hf.1 dX9_beside_52 ?_
      refine lv_iconst (pc := 55) (v := nI 1) hx hb dX9_beside_55 rfl ?_
      refine n_isub (pc := 56) hx hb (by omega) dX9_beside_56 ?_
      refine ro_go (pc := 57) (va_runS (As := [.int (nI (colM c r li)), .int (nI 0), .int (nI (c - 1))]) (rest := []) ⟨hx, hb, hml, hown, hts⟩ (c_X9_within l D Y (nI (colM c r li)) (nI 0) (nI (c - 1)) ) (va_cwS 3 hts gX9_beside_X9_within rfl rfl rfl hdX9_within ⟨Nat.le_of_ble_eq_true rfl, Nat.le_of_ble_eq_true rfl⟩) (ro_pS hK (hP.sub [] rfl)) rfl rfl hl.1 rfl (lv_room (Nat.le_of_ble_eq_true rfl)) dX9_beside_57 ⟨Nat.le_of_ble_eq_true rfl, Nat.le_of_ble_eq_true rfl⟩) ?_
      refine z_if_eq (pc := 60) (tgt := 90) hx hb dX9_beside_60 (by decide) (fun c60 => ?_) (fun c60 => ?_)
      · refine lv_iconst (pc := 90) (v := (-1)) hx hb dX9_beside_90 (by decide) ?_
        exact ro_iret (v := (-1)) hx hb hr hlocks (by (simp only [decide_eq_true_eq, decide_eq_false_iff_not, Bool.false_eq_true, reduceCtorEq] at c10) <;> (try rw [wi_n (by omega) (by omega)] at c60) <;> (try rw [wi_n (by omega) (by omega)] at c75) <;> (try rw [wi_neg] at c60) <;> (try rw [wi_neg] at c75) <;> (try simp only [decide_eq_true_eq, decide_eq_false_iff_not, Bool.false_eq_true, reduceCtorEq] at c60) <;> (try simp only [decide_eq_true_eq, decide_eq_false_iff_not, Bool.false_eq_true, reduceCtorEq] at c75) <;> (try have hcr3 := hcr1 c10) <;> (try have hcr3 := hcr2 c10) <;> unfold bes <;> (repeat' split) <;> first | rfl | (exfalso; omega) | contradiction) dX9_beside_91
      refine lv_iload (pc := 63) hx hb dX9_beside_63 (lv_at hl 0 rfl) ?_
      refine lv_iconst (pc := 65) (v := nI 0) hx hb dX9_beside_65 rfl ?_
      refine lv_aload_n (pc := 66) hx hb dX9_beside_66 rfl (lv_at hl 2 rfl) ?_
      refine va_get (pc := 67) (D := D) (ci := 8) (v := .int (nI r)) (C := RX9) (T := TX9) (N := 25) hx hb hts hinX9 hown hK.1 hP 0 rfl rfl 2 (by decide) (hts (.fieldLink RX9 13 "BoxesGameModel" "rows" "I") (List.mem_of_getElem? (i := 2) rfl)) (fun _ h9 => h9) hf.2 dX9_beside_67 ?_
      refine lv_iconst (pc := 70) (v := nI 1) hx hb dX9_beside_70 rfl ?_
      refine n_isub (pc := 71) hx hb (by omega) dX9_beside_71 ?_
      refine ro_go (pc := 72) (va_runS (As := [.int (nI (rowM c r li)), .int (nI 0), .int (nI (r - 1))]) (rest := []) ⟨hx, hb, hml, hown, hts⟩ (c_X9_within l D Y (nI (rowM c r li)) (nI 0) (nI (r - 1)) ) (va_cwS 3 hts gX9_beside_X9_within rfl rfl rfl hdX9_within ⟨Nat.le_of_ble_eq_true rfl, Nat.le_of_ble_eq_true rfl⟩) (ro_pS hK (hP.sub [] rfl)) rfl rfl hl.1 rfl (lv_room (Nat.le_of_ble_eq_true rfl)) dX9_beside_72 ⟨Nat.le_of_ble_eq_true rfl, Nat.le_of_ble_eq_true rfl⟩) ?_
      refine z_if_eq (pc := 75) (tgt := 90) hx hb dX9_beside_75 (by decide) (fun c75 => ?_) (fun c75 => ?_)
      · refine lv_iconst (pc := 90) (v := (-1)) hx hb dX9_beside_90 (by decide) ?_
        exact ro_iret (v := (-1)) hx hb hr hlocks (by (simp only [decide_eq_true_eq, decide_eq_false_iff_not, Bool.false_eq_true, reduceCtorEq] at c10) <;> (try rw [wi_n (by omega) (by omega)] at c60) <;> (try rw [wi_n (by omega) (by omega)] at c75) <;> (try rw [wi_neg] at c60) <;> (try rw [wi_neg] at c75) <;> (try simp only [decide_eq_true_eq, decide_eq_false_iff_not, Bool.false_eq_true, reduceCtorEq] at c60) <;> (try simp only [decide_eq_true_eq, decide_eq_false_iff_not, Bool.false_eq_true, reduceCtorEq] at c75) <;> (try have hcr3 := hcr1 c10) <;> (try have hcr3 := hcr2 c10) <;> unfold bes <;> (repeat' split) <;> first | rfl | (exfalso; omega) | contradiction) dX9_beside_91
      refine lv_iload (pc := 78) hx hb dX9_beside_78 (lv_at hl 0 rfl) ?_
      refine lv_aload_n (pc := 80) hx hb dX9_beside_80 rfl (lv_at hl 2 rfl) ?_
      refine va_get (pc := 81) (D := D) (ci := 8) (v := .int (nI c)) (C := RX9) (T := TX9) (N := 25) hx hb hts hinX9 hown hK.1 hP 0 rfl rfl 1 (by decide) (hts (.fieldLink RX9 7 "BoxesGameModel" "columns" "I") (List.mem_of_getElem? (i := 1) rfl)) (fun _ h9 => h9) hf.1 dX9_beside_81 ?_
      refine n_imul (pc := 84) hx hb dX9_beside_84 ?_
      refine lv_iload_n (pc := 85) hx hb dX9_beside_85 rfl (lv_at hl 1 rfl) ?_
      refine n_iadd (pc := 86) hx hb dX9_beside_86 ?_
      refine lv_goto (pc := 87) (tgt := 91) hx hb dX9_beside_87 (by decide) ?_
      exact ro_iret (v := nI (((rowM c r li) * c) + (colM c r li))) hx hb hr hlocks (by (simp only [decide_eq_true_eq, decide_eq_false_iff_not, Bool.false_eq_true, reduceCtorEq] at c10) <;> (try rw [wi_n (by omega) (by omega)] at c60) <;> (try rw [wi_n (by omega) (by omega)] at c75) <;> (try rw [wi_neg] at c60) <;> (try rw [wi_neg] at c75) <;> (try simp only [decide_eq_true_eq, decide_eq_false_iff_not, Bool.false_eq_true, reduceCtorEq] at c60) <;> (try simp only [decide_eq_true_eq, decide_eq_false_iff_not, Bool.false_eq_true, reduceCtorEq] at c75) <;> (try have hcr3 := hcr1 c10) <;> (try have hcr3 := hcr2 c10) <;> unfold bes <;> (repeat' split) <;> first | rfl | (exfalso; omega) | contradiction) dX9_beside_91
    · exact absurd (c10.symm.trans c34) (by decide)
  refine lv_iconst (pc := 17) (v := nI 1) hx hb dX9_beside_17 rfl ?_
  refine lv_goto (pc := 18) (tgt := 22) hx hb dX9_beside_18 (by decide) ?_
  rcases Nat.eq_zero_or_pos (colM c r li) with h22 | h22
  · skip
    refine lv_isub (pc := 22) hx hb dX9_beside_22 ?_
    refine top_i (show (nI (colM c r li)) - (nI 1) = (-1) from by rw [h22]; decide) ?_
    refine lv_istore_n (pc := 23) (lv' := [(3, .int (-1)), (0, .ref mo), (1, .int (nI li)), (2, .int (nI k))]) hx hb dX9_beside_23 rfl hl (by decide) rfl (fun ls hl => ?_)
    refine lv_aload_n (pc := 24) hx hb dX9_beside_24 rfl (lv_at hl 1 rfl) ?_
    refine lv_iload_n (pc := 25) hx hb dX9_beside_25 rfl (lv_at hl 2 rfl) ?_
    refine ro_go (pc := 26) (va_runV (As := [.int (nI li)]) (rest := []) ⟨hx, hb, hml, hown, hts⟩ (c_X9_rowOf l D Y mo c r fs li (hf) (hC) (hl0)) (cwV 1 hts gX9_beside_X9_rowOf rfl rfl rfl ⟨rfl, hdX9_rowOf⟩ ⟨Nat.le_of_ble_eq_true rfl, Nat.le_of_ble_eq_true rfl⟩) (ro_pV hK hP (ro_recv hK hP (ci := 8) (q0 := 0) rfl rfl)) rfl rfl hl.1 rfl (lv_room (Nat.le_of_ble_eq_true rfl)) dX9_beside_26 ⟨Nat.le_of_ble_eq_true rfl, Nat.le_of_ble_eq_true rfl⟩) ?_
    refine lv_aload_n (pc := 29) hx hb dX9_beside_29 rfl (lv_at hl 1 rfl) ?_
    refine lv_iload_n (pc := 30) hx hb dX9_beside_30 rfl (lv_at hl 2 rfl) ?_
    refine ro_go (pc := 31) (va_runV (As := [.int (nI li)]) (rest := [.int (nI (rowM c r li))]) ⟨hx, hb, hml, hown, hts⟩ (c_X9_isUpright l D Y mo c r fs li (hf) (hC) (hl0)) (cwV 1 hts gX9_beside_X9_isUpright rfl rfl rfl ⟨rfl, hdX9_isUpright⟩ ⟨Nat.le_of_ble_eq_true rfl, Nat.le_of_ble_eq_true rfl⟩) (ro_pV hK hP (ro_recv hK hP (ci := 8) (q0 := 0) rfl rfl)) rfl rfl hl.1 rfl (lv_room (Nat.le_of_ble_eq_true rfl)) dX9_beside_31 ⟨Nat.le_of_ble_eq_true rfl, Nat.le_of_ble_eq_true rfl⟩) ?_
    refine z_if_ne (pc := 34) (tgt := 45) hx hb dX9_beside_34 (by decide) (fun c34 => ?_) (fun c34 => ?_)
    · refine lv_iconst (pc := 45) (v := nI 0) hx hb dX9_beside_45 rfl ?_
      refine n_isub (pc := 46) hx hb (Nat.zero_le _) dX9_beside_46 ?_
      refine top_i (show nI ((rowM c r li) - 0) = nI (rowM c r li) from rfl) ?_
      refine lv_istore (pc := 47) (lv' := [(4, .int (nI (rowM c r li))), (3, .int (-1)), (0, .ref mo), (1, .int (nI li)), (2, .int (nI k))]) hx hb dX9_beside_47 hl (by decide) rfl (fun ls hl => ?_)
      refine lv_iload_n (pc := 49) hx hb dX9_beside_49 rfl (lv_at hl 1 rfl) ?_
      refine lv_iconst (pc := 50) (v := nI 0) hx hb dX9_beside_50 rfl ?_
      refine lv_aload_n (pc := 51) hx hb dX9_beside_51 rfl (lv_at hl 2 rfl) ?_
      refine va_get (pc := 52) (D := D) (ci := 8) (v := .int (nI c)) (C := RX9) (T := TX9) (N := 25) hx hb hts hinX9 hown hK.1 hP 0 rfl rfl 1 (by decide) (hts (.fieldLink RX9 7 "BoxesGameModel" "columns" "I") (List.mem_of_getElem? (i := 1) rfl)) (fun _ h9 => h9) hf.1 dX9_beside_52 ?_
      refine lv_iconst (pc := 55) (v := nI 1) hx hb dX9_beside_55 rfl ?_
      refine n_isub (pc := 56) hx hb (by omega) dX9_beside_56 ?_
      refine ro_go (pc := 57) (va_runS (As := [.int (-1), .int (nI 0), .int (nI (c - 1))]) (rest := []) ⟨hx, hb, hml, hown, hts⟩ (c_X9_within l D Y (-1) (nI 0) (nI (c - 1)) ) (va_cwS 3 hts gX9_beside_X9_within rfl rfl rfl hdX9_within ⟨Nat.le_of_ble_eq_true rfl, Nat.le_of_ble_eq_true rfl⟩) (ro_pS hK (hP.sub [] rfl)) rfl rfl hl.1 rfl (lv_room (Nat.le_of_ble_eq_true rfl)) dX9_beside_57 ⟨Nat.le_of_ble_eq_true rfl, Nat.le_of_ble_eq_true rfl⟩) ?_
      refine z_if_eq (pc := 60) (tgt := 90) hx hb dX9_beside_60 (by decide) (fun c60 => ?_) (fun c60 => ?_)
      · refine lv_iconst (pc := 90) (v := (-1)) hx hb dX9_beside_90 (by decide) ?_
        exact ro_iret (v := (-1)) hx hb hr hlocks (by (simp only [decide_eq_true_eq, decide_eq_false_iff_not, Bool.false_eq_true, reduceCtorEq] at c10) <;> (try rw [wi_n (by omega) (by omega)] at c60) <;> (try rw [wi_n (by omega) (by omega)] at c75) <;> (try rw [wi_neg] at c60) <;> (try rw [wi_neg] at c75) <;> (try simp only [decide_eq_true_eq, decide_eq_false_iff_not, Bool.false_eq_true, reduceCtorEq] at c60) <;> (try simp only [decide_eq_true_eq, decide_eq_false_iff_not, Bool.false_eq_true, reduceCtorEq] at c75) <;> (try have hcr3 := hcr1 c10) <;> (try have hcr3 := hcr2 c10) <;> unfold bes <;> (repeat' split) <;> first | rfl | (exfalso; omega) | contradiction) dX9_beside_91
      refine lv_iload (pc := 63) hx hb dX9_beside_63 (lv_at hl 0 rfl) ?_
      refine lv_iconst (pc := 65) (v := nI 0) hx hb dX9_beside_65 rfl ?_
      refine lv_aload_n (pc := 66) hx hb dX9_beside_66 rfl (lv_at hl 2 rfl) ?_
      refine va_get (pc := 67) (D := D) (ci := 8) (v := .int (nI r)) (C := RX9) (T := TX9) (N := 25) hx hb hts hinX9 hown hK.1 hP 0 rfl rfl 2 (by decide) (hts (.fieldLink RX9 13 "BoxesGameModel" "rows" "I") (List.mem_of_getElem? (i := 2) rfl)) (fun _ h9 => h9) hf.2 dX9_beside_67 ?_
      refine lv_iconst (pc := 70) (v := nI 1) hx hb dX9_beside_70 rfl ?_
      refine n_isub (pc := 71) hx hb (by omega) dX9_beside_71 ?_
      refine ro_go (pc := 72) (va_runS (As := [.int (nI (rowM c r li)), .int (nI 0), .int (nI (r - 1))]) (rest := []) ⟨hx, hb, hml, hown, hts⟩ (c_X9_within l D Y (nI (rowM c r li)) (nI 0) (nI (r - 1)) ) (va_cwS 3 hts gX9_beside_X9_within rfl rfl rfl hdX9_within ⟨Nat.le_of_ble_eq_true rfl, Nat.le_of_ble_eq_true rfl⟩) (ro_pS hK (hP.sub [] rfl)) rfl rfl hl.1 rfl (lv_room (Nat.le_of_ble_eq_true rfl)) dX9_beside_72 ⟨Nat.le_of_ble_eq_true rfl, Nat.le_of_ble_eq_true rfl⟩) ?_
      refine z_if_eq (pc := 75) (tgt := 90) hx hb dX9_beside_75 (by decide) (fun c75 => ?_) (fun c75 => ?_)
      · refine lv_iconst (pc := 90) (v := (-1)) hx hb dX9_beside_90 (by decide) ?_
        exact ro_iret (v := (-1)) hx hb hr hlocks (by (simp only [decide_eq_true_eq, decide_eq_false_iff_not, Bool.false_eq_true, reduceCtorEq] at c10) <;> (try rw [wi_n (by omega) (by omega)] at c60) <;> (try rw [wi_n (by omega) (by omega)] at c75) <;> (try rw [wi_neg] at c60) <;> (try rw [wi_neg] at c75) <;> (try simp only [decide_eq_true_eq, decide_eq_false_iff_not, Bool.false_eq_true, reduceCtorEq] at c60) <;> (try simp only [decide_eq_true_eq, decide_eq_false_iff_not, Bool.false_eq_true, reduceCtorEq] at c75) <;> (try have hcr3 := hcr1 c10) <;> (try have hcr3 := hcr2 c10) <;> unfold bes <;> (repeat' split) <;> first | rfl | (exfalso; omega) | contradiction) dX9_beside_91
      refine lv_iload (pc := 78) hx hb dX9_beside_78 (lv_at hl 0 rfl) ?_
      refine lv_aload_n (pc := 80) hx hb dX9_beside_80 rfl (lv_at hl 2 rfl) ?_
      refine va_get (pc := 81) (D := D) (ci := 8) (v := .int (nI c)) (C := RX9) (T := TX9) (N := 25) hx hb hts hinX9 hown hK.1 hP 0 rfl rfl 1 (by decide) (hts (.fieldLink RX9 7 "BoxesGameModel" "columns" "I") (List.mem_of_getElem? (i := 1) rfl)) (fun _ h9 => h9) hf.1 dX9_beside_81 ?_
      refine n_imul (pc := 84) hx hb dX9_beside_84 ?_
      refine lv_iload_n (pc := 85) hx hb dX9_beside_85 rfl (lv_at hl 1 rfl) ?_
      refine lv_iadd (pc := 86) hx hb dX9_beside_86 ?_
      refine lv_goto (pc := 87) (tgt := 91) hx hb dX9_beside_87 (by decide) ?_
      exact ro_iret (v := (nI ((rowM c r li) * c)) + (-1)) hx hb hr hlocks (by (simp only [decide_eq_true_eq, decide_eq_false_iff_not, Bool.false_eq_true, reduceCtorEq] at c10) <;> (try rw [wi_n (by omega) (by omega)] at c60) <;> (try rw [wi_n (by omega) (by omega)] at c75) <;> (try rw [wi_neg] at c60) <;> (try rw [wi_neg] at c75) <;> (try simp only [decide_eq_true_eq, decide_eq_false_iff_not, Bool.false_eq_true, reduceCtorEq] at c60) <;> (try simp only [decide_eq_true_eq, decide_eq_false_iff_not, Bool.false_eq_true, reduceCtorEq] at c75) <;> (try have hcr3 := hcr1 c10) <;> (try have hcr3 := hcr2 c10) <;> unfold bes <;> (repeat' split) <;> first | rfl | (exfalso; omega) | contradiction) dX9_beside_91
    · exact absurd (c10.symm.trans c34) (by decide)
  · skip
    refine n_isub (pc := 22) hx hb (h22) dX9_beside_22 ?_
    refine lv_istore_n (pc := 23) (lv' := [(3, .int (nI ((colM c r li) - 1))), (0, .ref mo), (1, .int (nI li)), (2, .int (nI k))]) hx hb dX9_beside_23 rfl hl (by decide) rfl (fun ls hl => ?_)
    refine lv_aload_n (pc := 24) hx hb dX9_beside_24 rfl (lv_at hl 1 rfl) ?_
    refine lv_iload_n (pc := 25) hx hb dX9_beside_25 rfl (lv_at hl 2 rfl) ?_
    refine ro_go (pc := 26) (va_runV (As := [.int (nI li)]) (rest := []) ⟨hx, hb, hml, hown, hts⟩ (c_X9_rowOf l D Y mo c r fs li (hf) (hC) (hl0)) (cwV 1 hts gX9_beside_X9_rowOf rfl rfl rfl ⟨rfl, hdX9_rowOf⟩ ⟨Nat.le_of_ble_eq_true rfl, Nat.le_of_ble_eq_true rfl⟩) (ro_pV hK hP (ro_recv hK hP (ci := 8) (q0 := 0) rfl rfl)) rfl rfl hl.1 rfl (lv_room (Nat.le_of_ble_eq_true rfl)) dX9_beside_26 ⟨Nat.le_of_ble_eq_true rfl, Nat.le_of_ble_eq_true rfl⟩) ?_
    refine lv_aload_n (pc := 29) hx hb dX9_beside_29 rfl (lv_at hl 1 rfl) ?_
    refine lv_iload_n (pc := 30) hx hb dX9_beside_30 rfl (lv_at hl 2 rfl) ?_
    refine ro_go (pc := 31) (va_runV (As := [.int (nI li)]) (rest := [.int (nI (rowM c r li))]) ⟨hx, hb, hml, hown, hts⟩ (c_X9_isUpright l D Y mo c r fs li (hf) (hC) (hl0)) (cwV 1 hts gX9_beside_X9_isUpright rfl rfl rfl ⟨rfl, hdX9_isUpright⟩ ⟨Nat.le_of_ble_eq_true rfl, Nat.le_of_ble_eq_true rfl⟩) (ro_pV hK hP (ro_recv hK hP (ci := 8) (q0 := 0) rfl rfl)) rfl rfl hl.1 rfl (lv_room (Nat.le_of_ble_eq_true rfl)) dX9_beside_31 ⟨Nat.le_of_ble_eq_true rfl, Nat.le_of_ble_eq_true rfl⟩) ?_
    refine z_if_ne (pc := 34) (tgt := 45) hx hb dX9_beside_34 (by decide) (fun c34 => ?_) (fun c34 => ?_)
    · refine lv_iconst (pc := 45) (v := nI 0) hx hb dX9_beside_45 rfl ?_
      refine n_isub (pc := 46) hx hb (Nat.zero_le _) dX9_beside_46 ?_
      refine top_i (show nI ((rowM c r li) - 0) = nI (rowM c r li) from rfl) ?_
      refine lv_istore (pc := 47) (lv' := [(4, .int (nI (rowM c r li))), (3, .int (nI ((colM c r li) - 1))), (0, .ref mo), (1, .int (nI li)), (2, .int (nI k))]) hx hb dX9_beside_47 hl (by decide) rfl (fun ls hl => ?_)
      refine lv_iload_n (pc := 49) hx hb dX9_beside_49 rfl (lv_at hl 1 rfl) ?_
      refine lv_iconst (pc := 50) (v := nI 0) hx hb dX9_beside_50 rfl ?_
      refine lv_aload_n (pc := 51) hx hb dX9_beside_51 rfl (lv_at hl 2 rfl) ?_
      refine va_get (pc := 52) (D := D) (ci := 8) (v := .int (nI c)) (C := RX9) (T := TX9) (N := 25) hx hb hts hinX9 hown hK.1 hP 0 rfl rfl 1 (by decide) (hts (.fieldLink RX9 7 "BoxesGameModel" "columns" "I") (List.mem_of_getElem? (i := 1) rfl)) (fun _ h9 => h9) hf.1 dX9_beside_52 ?_
      refine lv_iconst (pc := 55) (v := nI 1) hx hb dX9_beside_55 rfl ?_
      refine n_isub (pc := 56) hx hb (by omega) dX9_beside_56 ?_
      refine ro_go (pc := 57) (va_runS (As := [.int (nI ((colM c r li) - 1)), .int (nI 0), .int (nI (c - 1))]) (rest := []) ⟨hx, hb, hml, hown, hts⟩ (c_X9_within l D Y (nI ((colM c r li) - 1)) (nI 0) (nI (c - 1)) ) (va_cwS 3 hts gX9_beside_X9_within rfl rfl rfl hdX9_within ⟨Nat.le_of_ble_eq_true rfl, Nat.le_of_ble_eq_true rfl⟩) (ro_pS hK (hP.sub [] rfl)) rfl rfl hl.1 rfl (lv_room (Nat.le_of_ble_eq_true rfl)) dX9_beside_57 ⟨Nat.le_of_ble_eq_true rfl, Nat.le_of_ble_eq_true rfl⟩) ?_
      refine z_if_eq (pc := 60) (tgt := 90) hx hb dX9_beside_60 (by decide) (fun c60 => ?_) (fun c60 => ?_)
      · refine lv_iconst (pc := 90) (v := (-1)) hx hb dX9_beside_90 (by decide) ?_
        exact ro_iret (v := (-1)) hx hb hr hlocks (by (simp only [decide_eq_true_eq, decide_eq_false_iff_not, Bool.false_eq_true, reduceCtorEq] at c10) <;> (try rw [wi_n (by omega) (by omega)] at c60) <;> (try rw [wi_n (by omega) (by omega)] at c75) <;> (try rw [wi_neg] at c60) <;> (try rw [wi_neg] at c75) <;> (try simp only [decide_eq_true_eq, decide_eq_false_iff_not, Bool.false_eq_true, reduceCtorEq] at c60) <;> (try simp only [decide_eq_true_eq, decide_eq_false_iff_not, Bool.false_eq_true, reduceCtorEq] at c75) <;> (try have hcr3 := hcr1 c10) <;> (try have hcr3 := hcr2 c10) <;> unfold bes <;> (repeat' split) <;> first | rfl | (exfalso; omega) | contradiction) dX9_beside_91
      refine lv_iload (pc := 63) hx hb dX9_beside_63 (lv_at hl 0 rfl) ?_
      refine lv_iconst (pc := 65) (v := nI 0) hx hb dX9_beside_65 rfl ?_
      refine lv_aload_n (pc := 66) hx hb dX9_beside_66 rfl (lv_at hl 2 rfl) ?_
      refine va_get (pc := 67) (D := D) (ci := 8) (v := .int (nI r)) (C := RX9) (T := TX9) (N := 25) hx hb hts hinX9 hown hK.1 hP 0 rfl rfl 2 (by decide) (hts (.fieldLink RX9 13 "BoxesGameModel" "rows" "I") (List.mem_of_getElem? (i := 2) rfl)) (fun _ h9 => h9) hf.2 dX9_beside_67 ?_
      refine lv_iconst (pc := 70) (v := nI 1) hx hb dX9_beside_70 rfl ?_
      refine n_isub (pc := 71) hx hb (by omega) dX9_beside_71 ?_
      refine ro_go (pc := 72) (va_runS (As := [.int (nI (rowM c r li)), .int (nI 0), .int (nI (r - 1))]) (rest := []) ⟨hx, hb, hml, hown, hts⟩ (c_X9_within l D Y (nI (rowM c r li)) (nI 0) (nI (r - 1)) ) (va_cwS 3 hts gX9_beside_X9_within rfl rfl rfl hdX9_within ⟨Nat.le_of_ble_eq_true rfl, Nat.le_of_ble_eq_true rfl⟩) (ro_pS hK (hP.sub [] rfl)) rfl rfl hl.1 rfl (lv_room (Nat.le_of_ble_eq_true rfl)) dX9_beside_72 ⟨Nat.le_of_ble_eq_true rfl, Nat.le_of_ble_eq_true rfl⟩) ?_
      refine z_if_eq (pc := 75) (tgt := 90) hx hb dX9_beside_75 (by decide) (fun c75 => ?_) (fun c75 => ?_)
      · refine lv_iconst (pc := 90) (v := (-1)) hx hb dX9_beside_90 (by decide) ?_
        exact ro_iret (v := (-1)) hx hb hr hlocks (by (simp only [decide_eq_true_eq, decide_eq_false_iff_not, Bool.false_eq_true, reduceCtorEq] at c10) <;> (try rw [wi_n (by omega) (by omega)] at c60) <;> (try rw [wi_n (by omega) (by omega)] at c75) <;> (try rw [wi_neg] at c60) <;> (try rw [wi_neg] at c75) <;> (try simp only [decide_eq_true_eq, decide_eq_false_iff_not, Bool.false_eq_true, reduceCtorEq] at c60) <;> (try simp only [decide_eq_true_eq, decide_eq_false_iff_not, Bool.false_eq_true, reduceCtorEq] at c75) <;> (try have hcr3 := hcr1 c10) <;> (try have hcr3 := hcr2 c10) <;> unfold bes <;> (repeat' split) <;> first | rfl | (exfalso; omega) | contradiction) dX9_beside_91
      refine lv_iload (pc := 78) hx hb dX9_beside_78 (lv_at hl 0 rfl) ?_
      refine lv_aload_n (pc := 80) hx hb dX9_beside_80 rfl (lv_at hl 2 rfl) ?_
      refine va_get (pc := 81) (D := D) (ci := 8) (v := .int (nI c)) (C := RX9) (T := TX9) (N := 25) hx hb hts hinX9 hown hK.1 hP 0 rfl rfl 1 (by decide) (hts (.fieldLink RX9 7 "BoxesGameModel" "columns" "I") (List.mem_of_getElem? (i := 1) rfl)) (fun _ h9 => h9) hf.1 dX9_beside_81 ?_
      refine n_imul (pc := 84) hx hb dX9_beside_84 ?_
      refine lv_iload_n (pc := 85) hx hb dX9_beside_85 rfl (lv_at hl 1 rfl) ?_
      refine n_iadd (pc := 86) hx hb dX9_beside_86 ?_
      refine lv_goto (pc := 87) (tgt := 91) hx hb dX9_beside_87 (by decide) ?_
      exact ro_iret (v := nI (((rowM c r li) * c) + ((colM c r li) - 1))) hx hb hr hlocks (by (simp only [decide_eq_true_eq, decide_eq_false_iff_not, Bool.false_eq_true, reduceCtorEq] at c10) <;> (try rw [wi_n (by omega) (by omega)] at c60) <;> (try rw [wi_n (by omega) (by omega)] at c75) <;> (try rw [wi_neg] at c60) <;> (try rw [wi_neg] at c75) <;> (try simp only [decide_eq_true_eq, decide_eq_false_iff_not, Bool.false_eq_true, reduceCtorEq] at c60) <;> (try simp only [decide_eq_true_eq, decide_eq_false_iff_not, Bool.false_eq_true, reduceCtorEq] at c75) <;> (try have hcr3 := hcr1 c10) <;> (try have hcr3 := hcr2 c10) <;> unfold bes <;> (repeat' split) <;> first | rfl | (exfalso; omega) | contradiction) dX9_beside_91
    · exact absurd (c10.symm.trans c34) (by decide)

set_option maxHeartbeats 1200000 in
set_option maxRecDepth 100000 in
theorem c_X9_openOf (l : Launch) (D : va_G) (Y : vY) (mo : Nat) (c : Nat) (r : Nat) (fs : List Value) (b : Nat) (w : Int64) (hf : MF c r fs) (hC : Cr c r) (hb0 : b < c * r) : Ro l yX9_openOf wsX9_openOf ({ frames := 3, cells := 0, slots := 0, locals := 67 } : Room) [.ref mo, .int (nI b), .long w] D Y [(mo, .inr (8, fs))] (some (.int (nI (opn c r w b)))) := by
  refine ro_intro (by decide +kernel) rfl (Nat.le_of_ble_eq_true rfl) [(0, .ref mo), (1, .int (nI b)), (2, .long w)] rfl ?_
  intro pG eG sG mG aG bG tG cG ls hx hb hr hml hts hown hlocks hK hP hl
  have hP : va_P D vwCl [(mo, .inr (8, fs))] sG.heap := hP
  have hown : sG.vm.findClass RX9 = some mG.cls := hown
  have hl : lv_has ls 6 [(0, .ref mo), (1, .int (nI b)), (2, .long w)] := hl
  obtain ⟨hq1, hq2, hq3, hq4, hq5, hq6, hq7, hq8, hq9, hq10, hq11⟩ := hC.q
  refine lv_iconst (pc := 0) (v := nI 0) hx hb dX9_openOf_0 rfl ?_
  refine lv_istore (pc := 1) (lv' := [(4, .int (nI 0)), (0, .ref mo), (1, .int (nI b)), (2, .long w)]) hx hb dX9_openOf_1 hl (by decide) rfl (fun ls hl => ?_)
  refine lv_iconst (pc := 3) (v := nI 0) hx hb dX9_openOf_3 rfl ?_
  refine lv_istore (pc := 4) (lv' := [(5, .int (nI 0)), (4, .int (nI 0)), (0, .ref mo), (1, .int (nI b)), (2, .long w)]) hx hb dX9_openOf_4 hl (by decide) rfl (fun ls hl => ?_)
  have L6 : ∀ (n6 : Nat), ∀ (i : Nat) (n : Nat), (i ≤ 4) → (n = fb_ct (fun k => !tb w (sid c r b k)) i) → 4 - i < n6 → ∀ (ls : Array Slot), lv_has ls 6 [(0, .ref mo), (1, .int (nI b)), (2, .long w), (4, .int (nI n)), (5, .int (nI i))] → W pG l eG ({ frames := 3, cells := 0, slots := 0, locals := 67 } : Room) sG mG aG bG tG cG sG.heap [] 0 0 (MQ bG (RoQ (some (.int (nI (opn c r w b))))) aG sG 0 0 (fun _ => False)) (F0 mG 6 ls []) := by
    intro n6
    induction n6 with
    | zero =>
      intro i n hi hn hmeas6  ls hl
      exact absurd hmeas6 (Nat.not_lt_zero _)
    | succ n6 ih6 =>
      intro i n hi hn hmeas6  ls hl
      refine lv_iload (pc := 6) hx hb dX9_openOf_6 (lv_at hl 4 rfl) ?_
      refine lv_iconst (pc := 8) (v := nI 4) hx hb dX9_openOf_8 rfl ?_
      refine n_icmp_ge (pc := 9) (tgt := 42) hx hb (by omega) (by omega) dX9_openOf_9 (by decide) (fun c9 => ?_) (fun c9 => ?_)
      · refine lv_iload (pc := 42) hx hb dX9_openOf_42 (lv_at hl 3 rfl) ?_
        exact ro_iret (v := nI n) hx hb hr hlocks (by rw [hn, show i = 4 by omega]; rfl) dX9_openOf_44
      refine lv_iload (pc := 12) hx hb dX9_openOf_12 (lv_at hl 3 rfl) ?_
      refine lv_lload_n (pc := 14) hx hb dX9_openOf_14 rfl (lv_at hl 2 rfl) ?_
      refine lv_aload_n (pc := 15) hx hb dX9_openOf_15 rfl (lv_at hl 0 rfl) ?_
      refine lv_iload_n (pc := 16) hx hb dX9_openOf_16 rfl (lv_at hl 1 rfl) ?_
      refine lv_iload (pc := 17) hx hb dX9_openOf_17 (lv_at hl 4 rfl) ?_
      refine ro_go (pc := 19) (va_runV (As := [.int (nI b), .int (nI i)]) (rest := [.long w, .int (nI n)]) ⟨hx, hb, hml, hown, hts⟩ (c_X9_sideOf l D Y mo c r fs b i (hf) (hC) (hb0) (by first | assumption | omega)) (cwV 2 hts gX9_openOf_X9_sideOf rfl rfl rfl ⟨rfl, hdX9_sideOf⟩ ⟨Nat.le_of_ble_eq_true rfl, Nat.le_of_ble_eq_true rfl⟩) (ro_pV hK hP (ro_recv hK hP (ci := 8) (q0 := 0) rfl rfl)) rfl rfl hl.1 rfl (lv_room (Nat.le_of_ble_eq_true rfl)) dX9_openOf_19 ⟨Nat.le_of_ble_eq_true rfl, Nat.le_of_ble_eq_true rfl⟩) ?_
      refine ro_go (pc := 22) (va_runS (As := [.long w, .int (nI (sid c r b i))]) (rest := [.int (nI n)]) ⟨hx, hb, hml, hown, hts⟩ (c_X9_has l D Y w (sid c r b i) (by have := sid_lt hC hb0 (k := i) (by omega); omega)) (va_cwS 2 hts gX9_openOf_X9_has rfl rfl rfl hdX9_has ⟨Nat.le_of_ble_eq_true rfl, Nat.le_of_ble_eq_true rfl⟩) (ro_pS hK (hP.sub [] rfl)) rfl rfl hl.1 rfl (lv_room (Nat.le_of_ble_eq_true rfl)) dX9_openOf_22 ⟨Nat.le_of_ble_eq_true rfl, Nat.le_of_ble_eq_true rfl⟩) ?_
      refine z_if_eq (pc := 25) (tgt := 32) hx hb dX9_openOf_25 (by decide) (fun c25 => ?_) (fun c25 => ?_)
      · refine lv_iconst (pc := 32) (v := nI 1) hx hb dX9_openOf_32 rfl ?_
        refine n_iadd (pc := 33) hx hb dX9_openOf_33 ?_
        refine lv_istore (pc := 34) (lv' := [(4, .int (nI (n + 1))), (0, .ref mo), (1, .int (nI b)), (2, .long w), (5, .int (nI i))]) hx hb dX9_openOf_34 hl (by decide) rfl (fun ls hl => ?_)
        refine lv_iinc (pc := 36) (v := nI (i + 1)) (lv' := [(5, .int (nI (i + 1))), (4, .int (nI (n + 1))), (0, .ref mo), (1, .int (nI b)), (2, .long w)]) hx hb dX9_openOf_36 hl (k := 4) rfl (n_inc i 1) (by decide) rfl (fun ls hl => ?_)
        refine lv_goto (pc := 39) (tgt := 6) hx hb dX9_openOf_39 (by decide) ?_
        exact ih6 (i + 1) (n + 1) (by omega) (by rw [fb_ct_succ, c25, hn]; rfl) (by omega) _ (lv_sub hl [2, 3, 4, 1, 0] rfl)
      refine lv_iconst (pc := 28) (v := nI 0) hx hb dX9_openOf_28 rfl ?_
      refine lv_goto (pc := 29) (tgt := 33) hx hb dX9_openOf_29 (by decide) ?_
      refine n_iadd (pc := 33) hx hb dX9_openOf_33 ?_
      refine lv_istore (pc := 34) (lv' := [(4, .int (nI (n + 0))), (0, .ref mo), (1, .int (nI b)), (2, .long w), (5, .int (nI i))]) hx hb dX9_openOf_34 hl (by decide) rfl (fun ls hl => ?_)
      refine lv_iinc (pc := 36) (v := nI (i + 1)) (lv' := [(5, .int (nI (i + 1))), (4, .int (nI (n + 0))), (0, .ref mo), (1, .int (nI b)), (2, .long w)]) hx hb dX9_openOf_36 hl (k := 4) rfl (n_inc i 1) (by decide) rfl (fun ls hl => ?_)
      refine lv_goto (pc := 39) (tgt := 6) hx hb dX9_openOf_39 (by decide) ?_
      exact ih6 (i + 1) (n + 0) (by omega) (by rw [fb_ct_succ, c25, hn]; rfl) (by omega) _ (lv_sub hl [2, 3, 4, 1, 0] rfl)
  exact L6 ((4 - 0) + 1) 0 0 (by omega) (rfl) (Nat.lt_succ_self _) _ (lv_sub hl [2, 3, 4, 1, 0] rfl)

set_option maxHeartbeats 1200000 in
set_option maxRecDepth 100000 in
theorem c_X9_gains (l : Launch) (D : va_G) (Y : vY) (mo : Nat) (c : Nat) (r : Nat) (fs : List Value) (li : Nat) (w : Int64) (hf : MF c r fs) (hC : Cr c r) (hl0 : li < al c r) : Ro l yX9_gains wsX9_gains ({ frames := 4, cells := 0, slots := 0, locals := 92 } : Room) [.ref mo, .int (nI li), .long w] D Y [(mo, .inr (8, fs))] (some (.int (nI (gai c r w li)))) := by
  refine ro_intro (by decide +kernel) rfl (Nat.le_of_ble_eq_true rfl) [(0, .ref mo), (1, .int (nI li)), (2, .long w)] rfl ?_
  intro pG eG sG mG aG bG tG cG ls hx hb hr hml hts hown hlocks hK hP hl
  have hP : va_P D vwCl [(mo, .inr (8, fs))] sG.heap := hP
  have hown : sG.vm.findClass RX9 = some mG.cls := hown
  have hl : lv_has ls 7 [(0, .ref mo), (1, .int (nI li)), (2, .long w)] := hl
  obtain ⟨hq1, hq2, hq3, hq4, hq5, hq6, hq7, hq8, hq9, hq10, hq11⟩ := hC.q
  refine lv_iconst (pc := 0) (v := nI 0) hx hb dX9_gains_0 rfl ?_
  refine lv_istore (pc := 1) (lv' := [(4, .int (nI 0)), (0, .ref mo), (1, .int (nI li)), (2, .long w)]) hx hb dX9_gains_1 hl (by decide) rfl (fun ls hl => ?_)
  refine lv_iconst (pc := 3) (v := nI 0) hx hb dX9_gains_3 rfl ?_
  refine lv_istore (pc := 4) (lv' := [(5, .int (nI 0)), (4, .int (nI 0)), (0, .ref mo), (1, .int (nI li)), (2, .long w)]) hx hb dX9_gains_4 hl (by decide) rfl (fun ls hl => ?_)
  have L6 : ∀ (n6 : Nat), ∀ (i : Nat) (n : Nat), (i ≤ 2) → (n = fb_ct (bq 1 c r w li) i) → 2 - i < n6 → ∀ (ls : Array Slot), lv_has ls 7 [(0, .ref mo), (1, .int (nI li)), (2, .long w), (4, .int (nI n)), (5, .int (nI i))] → W pG l eG ({ frames := 4, cells := 0, slots := 0, locals := 92 } : Room) sG mG aG bG tG cG sG.heap [] 0 0 (MQ bG (RoQ (some (.int (nI (gai c r w li))))) aG sG 0 0 (fun _ => False)) (F0 mG 6 ls []) := by
    intro n6
    induction n6 with
    | zero =>
      intro i n hi hn hmeas6  ls hl
      exact absurd hmeas6 (Nat.not_lt_zero _)
    | succ n6 ih6 =>
      intro i n hi hn hmeas6  ls hl
      refine lv_iload (pc := 6) hx hb dX9_gains_6 (lv_at hl 4 rfl) ?_
      refine lv_iconst (pc := 8) (v := nI 2) hx hb dX9_gains_8 rfl ?_
      refine n_icmp_ge (pc := 9) (tgt := 54) hx hb (by omega) (by omega) dX9_gains_9 (by decide) (fun c9 => ?_) (fun c9 => ?_)
      · refine lv_iload (pc := 54) hx hb dX9_gains_54 (lv_at hl 3 rfl) ?_
        exact ro_iret (v := nI n) hx hb hr hlocks (by rw [hn, show i = 2 by omega]; rfl) dX9_gains_56
      refine lv_aload_n (pc := 12) hx hb dX9_gains_12 rfl (lv_at hl 0 rfl) ?_
      refine lv_iload_n (pc := 13) hx hb dX9_gains_13 rfl (lv_at hl 1 rfl) ?_
      refine lv_iload (pc := 14) hx hb dX9_gains_14 (lv_at hl 4 rfl) ?_
      refine ro_go (pc := 16) (va_runV (As := [.int (nI li), .int (nI i)]) (rest := []) ⟨hx, hb, hml, hown, hts⟩ (c_X9_beside l D Y mo c r fs li i (hf) (hC) (hl0) (by first | assumption | omega)) (cwV 2 hts gX9_gains_X9_beside rfl rfl rfl ⟨rfl, hdX9_beside⟩ ⟨Nat.le_of_ble_eq_true rfl, Nat.le_of_ble_eq_true rfl⟩) (ro_pV hK hP (ro_recv hK hP (ci := 8) (q0 := 0) rfl rfl)) rfl rfl hl.1 rfl (lv_room (Nat.le_of_ble_eq_true rfl)) dX9_gains_16 ⟨Nat.le_of_ble_eq_true rfl, Nat.le_of_ble_eq_true rfl⟩) ?_
      refine lv_topi (fun x16 ex16 => ?_)
      refine lv_istore (pc := 19) (lv' := [(6, .int x16), (0, .ref mo), (1, .int (nI li)), (2, .long w), (4, .int (nI n)), (5, .int (nI i))]) hx hb dX9_gains_19 hl (by decide) rfl (fun ls hl => ?_)
      refine lv_iload (pc := 21) hx hb dX9_gains_21 (lv_at hl 4 rfl) ?_
      refine lv_iload (pc := 23) hx hb dX9_gains_23 (lv_at hl 0 rfl) ?_
      refine lv_iconst (pc := 25) (v := (-1)) hx hb dX9_gains_25 (by decide) ?_
      refine lv_icmp_eq (pc := 26) (tgt := 44) hx hb dX9_gains_26 (by decide) (fun c26 => ?_) (fun c26 => ?_)
      · have hbn := oI_none ex16 c26 (fun b h => by have := bes_lt hC hl0 h; omega)
        refine lv_iconst (pc := 44) (v := nI 0) hx hb dX9_gains_44 rfl ?_
        refine n_iadd (pc := 45) hx hb dX9_gains_45 ?_
        refine lv_istore (pc := 46) (lv' := [(4, .int (nI (n + 0))), (6, .int x16), (0, .ref mo), (1, .int (nI li)), (2, .long w), (5, .int (nI i))]) hx hb dX9_gains_46 hl (by decide) rfl (fun ls hl => ?_)
        refine lv_iinc (pc := 48) (v := nI (i + 1)) (lv' := [(5, .int (nI (i + 1))), (4, .int (nI (n + 0))), (6, .int x16), (0, .ref mo), (1, .int (nI li)), (2, .long w)]) hx hb dX9_gains_48 hl (k := 5) rfl (n_inc i 1) (by decide) rfl (fun ls hl => ?_)
        refine lv_goto (pc := 51) (tgt := 6) hx hb dX9_gains_51 (by decide) ?_
        exact ih6 (i + 1) (n + 0) (by omega) (by rw [fb_ct_succ, hn]; first | (rw [bq_none hbn]; rfl) | (rw [bq_some hbb, decide_eq_true c37]; rfl) | (rw [bq_some hbb, decide_eq_false c37]; rfl)) (by omega) _ (lv_sub hl [3, 4, 5, 1, 0] rfl)
      obtain ⟨bb, hbb, rfl⟩ := oI_some ex16 c26
      have hl : lv_has ls 7 [(6, .int (nI bb)), (0, .ref mo), (1, .int (nI li)), (2, .long w), (4, .int (nI n)), (5, .int (nI i))] := hl
      refine lv_aload_n (pc := 29) hx hb dX9_gains_29 rfl (lv_at hl 1 rfl) ?_
      refine lv_iload (pc := 30) hx hb dX9_gains_30 (lv_at hl 0 rfl) ?_
      refine lv_lload_n (pc := 32) hx hb dX9_gains_32 rfl (lv_at hl 3 rfl) ?_
      refine ro_go (pc := 33) (va_runV (As := [.int (nI bb), .long w]) (rest := [.int (nI n)]) ⟨hx, hb, hml, hown, hts⟩ (c_X9_openOf l D Y mo c r fs bb w (hf) (hC) (bes_lt hC hl0 hbb)) (cwV 2 hts gX9_gains_X9_openOf rfl rfl rfl ⟨rfl, hdX9_openOf⟩ ⟨Nat.le_of_ble_eq_true rfl, Nat.le_of_ble_eq_true rfl⟩) (ro_pV hK hP (ro_recv hK hP (ci := 8) (q0 := 0) rfl rfl)) rfl rfl hl.1 rfl (lv_room (Nat.le_of_ble_eq_true rfl)) dX9_gains_33 ⟨Nat.le_of_ble_eq_true rfl, Nat.le_of_ble_eq_true rfl⟩) ?_
      refine lv_iconst (pc := 36) (v := nI 1) hx hb dX9_gains_36 rfl ?_
      refine n_icmp_ne (pc := 37) (tgt := 44) hx hb (by have := opn_le c r w bb; omega) (by decide) dX9_gains_37 (by decide) (fun c37 => ?_) (fun c37 => ?_)
      · refine lv_iconst (pc := 44) (v := nI 0) hx hb dX9_gains_44 rfl ?_
        refine n_iadd (pc := 45) hx hb dX9_gains_45 ?_
        refine lv_istore (pc := 46) (lv' := [(4, .int (nI (n + 0))), (6, .int (nI bb)), (0, .ref mo), (1, .int (nI li)), (2, .long w), (5, .int (nI i))]) hx hb dX9_gains_46 hl (by decide) rfl (fun ls hl => ?_)
        refine lv_iinc (pc := 48) (v := nI (i + 1)) (lv' := [(5, .int (nI (i + 1))), (4, .int (nI (n + 0))), (6, .int (nI bb)), (0, .ref mo), (1, .int (nI li)), (2, .long w)]) hx hb dX9_gains_48 hl (k := 5) rfl (n_inc i 1) (by decide) rfl (fun ls hl => ?_)
        refine lv_goto (pc := 51) (tgt := 6) hx hb dX9_gains_51 (by decide) ?_
        exact ih6 (i + 1) (n + 0) (by omega) (by rw [fb_ct_succ, hn]; first | (rw [bq_none hbn]; rfl) | (rw [bq_some hbb, decide_eq_true c37]; rfl) | (rw [bq_some hbb, decide_eq_false c37]; rfl)) (by omega) _ (lv_sub hl [3, 4, 5, 1, 0] rfl)
      refine lv_iconst (pc := 40) (v := nI 1) hx hb dX9_gains_40 rfl ?_
      refine lv_goto (pc := 41) (tgt := 45) hx hb dX9_gains_41 (by decide) ?_
      refine n_iadd (pc := 45) hx hb dX9_gains_45 ?_
      refine lv_istore (pc := 46) (lv' := [(4, .int (nI (n + 1))), (6, .int (nI bb)), (0, .ref mo), (1, .int (nI li)), (2, .long w), (5, .int (nI i))]) hx hb dX9_gains_46 hl (by decide) rfl (fun ls hl => ?_)
      refine lv_iinc (pc := 48) (v := nI (i + 1)) (lv' := [(5, .int (nI (i + 1))), (4, .int (nI (n + 1))), (6, .int (nI bb)), (0, .ref mo), (1, .int (nI li)), (2, .long w)]) hx hb dX9_gains_48 hl (k := 5) rfl (n_inc i 1) (by decide) rfl (fun ls hl => ?_)
      refine lv_goto (pc := 51) (tgt := 6) hx hb dX9_gains_51 (by decide) ?_
      exact ih6 (i + 1) (n + 1) (by omega) (by rw [fb_ct_succ, hn]; first | (rw [bq_none hbn]; rfl) | (rw [bq_some hbb, decide_eq_true c37]; rfl) | (rw [bq_some hbb, decide_eq_false c37]; rfl)) (by omega) _ (lv_sub hl [3, 4, 5, 1, 0] rfl)
  exact L6 ((2 - 0) + 1) 0 0 (by omega) (rfl) (Nat.lt_succ_self _) _ (lv_sub hl [2, 3, 4, 1, 0] rfl)

set_option maxHeartbeats 1200000 in
set_option maxRecDepth 100000 in
theorem c_X9_leavesOne (l : Launch) (D : va_G) (Y : vY) (mo : Nat) (c : Nat) (r : Nat) (fs : List Value) (li : Nat) (w : Int64) (hf : MF c r fs) (hC : Cr c r) (hl0 : li < al c r) : Ro l yX9_leavesOne wsX9_leavesOne ({ frames := 4, cells := 0, slots := 0, locals := 92 } : Room) [.ref mo, .int (nI li), .long w] D Y [(mo, .inr (8, fs))] (some (.int (zb (lvo c r w li)))) := by
  refine ro_intro (by decide +kernel) rfl (Nat.le_of_ble_eq_true rfl) [(0, .ref mo), (1, .int (nI li)), (2, .long w)] rfl ?_
  intro pG eG sG mG aG bG tG cG ls hx hb hr hml hts hown hlocks hK hP hl
  have hP : va_P D vwCl [(mo, .inr (8, fs))] sG.heap := hP
  have hown : sG.vm.findClass RX9 = some mG.cls := hown
  have hl : lv_has ls 7 [(0, .ref mo), (1, .int (nI li)), (2, .long w)] := hl
  obtain ⟨hq1, hq2, hq3, hq4, hq5, hq6, hq7, hq8, hq9, hq10, hq11⟩ := hC.q
  refine lv_iconst (pc := 0) (v := zb false) hx hb dX9_leavesOne_0 rfl ?_
  refine lv_istore (pc := 1) (lv' := [(4, .int (zb false)), (0, .ref mo), (1, .int (nI li)), (2, .long w)]) hx hb dX9_leavesOne_1 hl (by decide) rfl (fun ls hl => ?_)
  refine lv_iconst (pc := 3) (v := nI 0) hx hb dX9_leavesOne_3 rfl ?_
  refine lv_istore (pc := 4) (lv' := [(5, .int (nI 0)), (4, .int (zb false)), (0, .ref mo), (1, .int (nI li)), (2, .long w)]) hx hb dX9_leavesOne_4 hl (by decide) rfl (fun ls hl => ?_)
  have L6 : ∀ (n6 : Nat), ∀ (i : Nat) (z : Bool), (i ≤ 2) → (z = orb (bq 2 c r w li) i) → 2 - i < n6 → ∀ (ls : Array Slot), lv_has ls 7 [(0, .ref mo), (1, .int (nI li)), (2, .long w), (4, .int (zb z)), (5, .int (nI i))] → W pG l eG ({ frames := 4, cells := 0, slots := 0, locals := 92 } : Room) sG mG aG bG tG cG sG.heap [] 0 0 (MQ bG (RoQ (some (.int (zb (lvo c r w li))))) aG sG 0 0 (fun _ => False)) (F0 mG 6 ls []) := by
    intro n6
    induction n6 with
    | zero =>
      intro i z hi hz hmeas6  ls hl
      exact absurd hmeas6 (Nat.not_lt_zero _)
    | succ n6 ih6 =>
      intro i z hi hz hmeas6  ls hl
      refine lv_iload (pc := 6) hx hb dX9_leavesOne_6 (lv_at hl 4 rfl) ?_
      refine lv_iconst (pc := 8) (v := nI 2) hx hb dX9_leavesOne_8 rfl ?_
      refine n_icmp_ge (pc := 9) (tgt := 56) hx hb (by omega) (by omega) dX9_leavesOne_9 (by decide) (fun c9 => ?_) (fun c9 => ?_)
      · refine lv_iload (pc := 56) hx hb dX9_leavesOne_56 (lv_at hl 3 rfl) ?_
        exact ro_zret hx hb hr hlocks (by rw [hz, show i = 2 by omega]; rfl) dX9_leavesOne_58
      refine lv_aload_n (pc := 12) hx hb dX9_leavesOne_12 rfl (lv_at hl 0 rfl) ?_
      refine lv_iload_n (pc := 13) hx hb dX9_leavesOne_13 rfl (lv_at hl 1 rfl) ?_
      refine lv_iload (pc := 14) hx hb dX9_leavesOne_14 (lv_at hl 4 rfl) ?_
      refine ro_go (pc := 16) (va_runV (As := [.int (nI li), .int (nI i)]) (rest := []) ⟨hx, hb, hml, hown, hts⟩ (c_X9_beside l D Y mo c r fs li i (hf) (hC) (hl0) (by first | assumption | omega)) (cwV 2 hts gX9_leavesOne_X9_beside rfl rfl rfl ⟨rfl, hdX9_beside⟩ ⟨Nat.le_of_ble_eq_true rfl, Nat.le_of_ble_eq_true rfl⟩) (ro_pV hK hP (ro_recv hK hP (ci := 8) (q0 := 0) rfl rfl)) rfl rfl hl.1 rfl (lv_room (Nat.le_of_ble_eq_true rfl)) dX9_leavesOne_16 ⟨Nat.le_of_ble_eq_true rfl, Nat.le_of_ble_eq_true rfl⟩) ?_
      refine lv_topi (fun x16 ex16 => ?_)
      refine lv_istore (pc := 19) (lv' := [(6, .int x16), (0, .ref mo), (1, .int (nI li)), (2, .long w), (4, .int (zb z)), (5, .int (nI i))]) hx hb dX9_leavesOne_19 hl (by decide) rfl (fun ls hl => ?_)
      refine lv_iload (pc := 21) hx hb dX9_leavesOne_21 (lv_at hl 4 rfl) ?_
      refine z_if_ne (pc := 23) (tgt := 43) hx hb dX9_leavesOne_23 (by decide) (fun c23 => ?_) (fun c23 => ?_)
      · refine lv_iconst (pc := 43) (v := zb true) hx hb dX9_leavesOne_43 rfl ?_
        refine lv_goto (pc := 44) (tgt := 48) hx hb dX9_leavesOne_44 (by decide) ?_
        refine lv_istore (pc := 48) (lv' := [(4, .int (zb true)), (6, .int x16), (0, .ref mo), (1, .int (nI li)), (2, .long w), (5, .int (nI i))]) hx hb dX9_leavesOne_48 hl (by decide) rfl (fun ls hl => ?_)
        refine lv_iinc (pc := 50) (v := nI (i + 1)) (lv' := [(5, .int (nI (i + 1))), (4, .int (zb true)), (6, .int x16), (0, .ref mo), (1, .int (nI li)), (2, .long w)]) hx hb dX9_leavesOne_50 hl (k := 5) rfl (n_inc i 1) (by decide) rfl (fun ls hl => ?_)
        refine lv_goto (pc := 53) (tgt := 6) hx hb dX9_leavesOne_53 (by decide) ?_
        exact ih6 (i + 1) true (by omega) (by rw [orb, ← hz]; first | (rw [c23]; rfl) | (rw [bq_none hbn, c23]; rfl) | (rw [bq_some hbb, decide_eq_true c40, c23]; rfl) | (rw [bq_some hbb, decide_eq_false c40, c23]; rfl)) (by omega) _ (lv_sub hl [3, 4, 5, 1, 0] rfl)
      refine lv_iload (pc := 26) hx hb dX9_leavesOne_26 (lv_at hl 0 rfl) ?_
      refine lv_iconst (pc := 28) (v := (-1)) hx hb dX9_leavesOne_28 (by decide) ?_
      refine lv_icmp_eq (pc := 29) (tgt := 47) hx hb dX9_leavesOne_29 (by decide) (fun c29 => ?_) (fun c29 => ?_)
      · have hbn := oI_none ex16 c29 (fun b h => by have := bes_lt hC hl0 h; omega)
        refine lv_iconst (pc := 47) (v := zb false) hx hb dX9_leavesOne_47 rfl ?_
        refine lv_istore (pc := 48) (lv' := [(4, .int (zb false)), (6, .int x16), (0, .ref mo), (1, .int (nI li)), (2, .long w), (5, .int (nI i))]) hx hb dX9_leavesOne_48 hl (by decide) rfl (fun ls hl => ?_)
        refine lv_iinc (pc := 50) (v := nI (i + 1)) (lv' := [(5, .int (nI (i + 1))), (4, .int (zb false)), (6, .int x16), (0, .ref mo), (1, .int (nI li)), (2, .long w)]) hx hb dX9_leavesOne_50 hl (k := 5) rfl (n_inc i 1) (by decide) rfl (fun ls hl => ?_)
        refine lv_goto (pc := 53) (tgt := 6) hx hb dX9_leavesOne_53 (by decide) ?_
        exact ih6 (i + 1) false (by omega) (by rw [orb, ← hz]; first | (rw [c23]; rfl) | (rw [bq_none hbn, c23]; rfl) | (rw [bq_some hbb, decide_eq_true c40, c23]; rfl) | (rw [bq_some hbb, decide_eq_false c40, c23]; rfl)) (by omega) _ (lv_sub hl [3, 4, 5, 1, 0] rfl)
      obtain ⟨bb, hbb, rfl⟩ := oI_some ex16 c29
      have hl : lv_has ls 7 [(6, .int (nI bb)), (0, .ref mo), (1, .int (nI li)), (2, .long w), (4, .int (zb z)), (5, .int (nI i))] := hl
      refine lv_aload_n (pc := 32) hx hb dX9_leavesOne_32 rfl (lv_at hl 1 rfl) ?_
      refine lv_iload (pc := 33) hx hb dX9_leavesOne_33 (lv_at hl 0 rfl) ?_
      refine lv_lload_n (pc := 35) hx hb dX9_leavesOne_35 rfl (lv_at hl 3 rfl) ?_
      refine ro_go (pc := 36) (va_runV (As := [.int (nI bb), .long w]) (rest := []) ⟨hx, hb, hml, hown, hts⟩ (c_X9_openOf l D Y mo c r fs bb w (hf) (hC) (bes_lt hC hl0 hbb)) (cwV 2 hts gX9_leavesOne_X9_openOf rfl rfl rfl ⟨rfl, hdX9_openOf⟩ ⟨Nat.le_of_ble_eq_true rfl, Nat.le_of_ble_eq_true rfl⟩) (ro_pV hK hP (ro_recv hK hP (ci := 8) (q0 := 0) rfl rfl)) rfl rfl hl.1 rfl (lv_room (Nat.le_of_ble_eq_true rfl)) dX9_leavesOne_36 ⟨Nat.le_of_ble_eq_true rfl, Nat.le_of_ble_eq_true rfl⟩) ?_
      refine lv_iconst (pc := 39) (v := nI 2) hx hb dX9_leavesOne_39 rfl ?_
      refine n_icmp_ne (pc := 40) (tgt := 47) hx hb (by have := opn_le c r w bb; omega) (by decide) dX9_leavesOne_40 (by decide) (fun c40 => ?_) (fun c40 => ?_)
      · refine lv_iconst (pc := 47) (v := zb false) hx hb dX9_leavesOne_47 rfl ?_
        refine lv_istore (pc := 48) (lv' := [(4, .int (zb false)), (6, .int (nI bb)), (0, .ref mo), (1, .int (nI li)), (2, .long w), (5, .int (nI i))]) hx hb dX9_leavesOne_48 hl (by decide) rfl (fun ls hl => ?_)
        refine lv_iinc (pc := 50) (v := nI (i + 1)) (lv' := [(5, .int (nI (i + 1))), (4, .int (zb false)), (6, .int (nI bb)), (0, .ref mo), (1, .int (nI li)), (2, .long w)]) hx hb dX9_leavesOne_50 hl (k := 5) rfl (n_inc i 1) (by decide) rfl (fun ls hl => ?_)
        refine lv_goto (pc := 53) (tgt := 6) hx hb dX9_leavesOne_53 (by decide) ?_
        exact ih6 (i + 1) false (by omega) (by rw [orb, ← hz]; first | (rw [c23]; rfl) | (rw [bq_none hbn, c23]; rfl) | (rw [bq_some hbb, decide_eq_true c40, c23]; rfl) | (rw [bq_some hbb, decide_eq_false c40, c23]; rfl)) (by omega) _ (lv_sub hl [3, 4, 5, 1, 0] rfl)
      refine lv_iconst (pc := 43) (v := zb true) hx hb dX9_leavesOne_43 rfl ?_
      refine lv_goto (pc := 44) (tgt := 48) hx hb dX9_leavesOne_44 (by decide) ?_
      refine lv_istore (pc := 48) (lv' := [(4, .int (zb true)), (6, .int (nI bb)), (0, .ref mo), (1, .int (nI li)), (2, .long w), (5, .int (nI i))]) hx hb dX9_leavesOne_48 hl (by decide) rfl (fun ls hl => ?_)
      refine lv_iinc (pc := 50) (v := nI (i + 1)) (lv' := [(5, .int (nI (i + 1))), (4, .int (zb true)), (6, .int (nI bb)), (0, .ref mo), (1, .int (nI li)), (2, .long w)]) hx hb dX9_leavesOne_50 hl (k := 5) rfl (n_inc i 1) (by decide) rfl (fun ls hl => ?_)
      refine lv_goto (pc := 53) (tgt := 6) hx hb dX9_leavesOne_53 (by decide) ?_
      exact ih6 (i + 1) true (by omega) (by rw [orb, ← hz]; first | (rw [c23]; rfl) | (rw [bq_none hbn, c23]; rfl) | (rw [bq_some hbb, decide_eq_true c40, c23]; rfl) | (rw [bq_some hbb, decide_eq_false c40, c23]; rfl)) (by omega) _ (lv_sub hl [3, 4, 5, 1, 0] rfl)
  exact L6 ((2 - 0) + 1) 0 false (by omega) (rfl) (Nat.lt_succ_self _) _ (lv_sub hl [2, 3, 4, 1, 0] rfl)

set_option maxHeartbeats 1200000 in
set_option maxRecDepth 100000 in
theorem c_X9_kindIn (l : Launch) (D : va_G) (Y : vY) (mo : Nat) (c : Nat) (r : Nat) (fs : List Value) (li : Nat) (w : Int64) (hf : MF c r fs) (hC : Cr c r) (hl0 : li < al c r) : Ro l yX9_kindIn wsX9_kindIn ({ frames := 5, cells := 0, slots := 0, locals := 118 } : Room) [.ref mo, .int (nI li), .long w] D Y [(mo, .inr (8, fs))] (some (.int (nI (knd c r w li)))) := by
  refine ro_intro (by decide +kernel) rfl (Nat.le_of_ble_eq_true rfl) [(0, .ref mo), (1, .int (nI li)), (2, .long w)] rfl ?_
  intro pG eG sG mG aG bG tG cG ls hx hb hr hml hts hown hlocks hK hP hl
  have hP : va_P D vwCl [(mo, .inr (8, fs))] sG.heap := hP
  have hown : sG.vm.findClass RX9 = some mG.cls := hown
  have hl : lv_has ls 4 [(0, .ref mo), (1, .int (nI li)), (2, .long w)] := hl
  obtain ⟨hq1, hq2, hq3, hq4, hq5, hq6, hq7, hq8, hq9, hq10, hq11⟩ := hC.q
  refine lv_lload_n (pc := 0) hx hb dX9_kindIn_0 rfl (lv_at hl 2 rfl) ?_
  refine lv_iload_n (pc := 1) hx hb dX9_kindIn_1 rfl (lv_at hl 1 rfl) ?_
  refine ro_go (pc := 2) (va_runS (As := [.long w, .int (nI li)]) (rest := []) ⟨hx, hb, hml, hown, hts⟩ (c_X9_has l D Y w li (by first | assumption | omega)) (va_cwS 2 hts gX9_kindIn_X9_has rfl rfl rfl hdX9_has ⟨Nat.le_of_ble_eq_true rfl, Nat.le_of_ble_eq_true rfl⟩) (ro_pS hK (hP.sub [] rfl)) rfl rfl hl.1 rfl (lv_room (Nat.le_of_ble_eq_true rfl)) dX9_kindIn_2 ⟨Nat.le_of_ble_eq_true rfl, Nat.le_of_ble_eq_true rfl⟩) ?_
  refine z_if_eq (pc := 5) (tgt := 12) hx hb dX9_kindIn_5 (by decide) (fun c5 => ?_) (fun c5 => ?_)
  · refine lv_aload_n (pc := 12) hx hb dX9_kindIn_12 rfl (lv_at hl 0 rfl) ?_
    refine lv_iload_n (pc := 13) hx hb dX9_kindIn_13 rfl (lv_at hl 1 rfl) ?_
    refine lv_lload_n (pc := 14) hx hb dX9_kindIn_14 rfl (lv_at hl 2 rfl) ?_
    refine ro_go (pc := 15) (va_runV (As := [.int (nI li), .long w]) (rest := []) ⟨hx, hb, hml, hown, hts⟩ (c_X9_gains l D Y mo c r fs li w (hf) (hC) (hl0)) (cwV 2 hts gX9_kindIn_X9_gains rfl rfl rfl ⟨rfl, hdX9_gains⟩ ⟨Nat.le_of_ble_eq_true rfl, Nat.le_of_ble_eq_true rfl⟩) (ro_pV hK hP (ro_recv hK hP (ci := 8) (q0 := 0) rfl rfl)) rfl rfl hl.1 rfl (lv_room (Nat.le_of_ble_eq_true rfl)) dX9_kindIn_15 ⟨Nat.le_of_ble_eq_true rfl, Nat.le_of_ble_eq_true rfl⟩) ?_
    refine n_if_le (pc := 18) (tgt := 25) hx hb (by have := gai_le c r w li; omega) dX9_kindIn_18 (by decide) (fun c18 => ?_) (fun c18 => ?_)
    · refine lv_aload_n (pc := 25) hx hb dX9_kindIn_25 rfl (lv_at hl 0 rfl) ?_
      refine lv_iload_n (pc := 26) hx hb dX9_kindIn_26 rfl (lv_at hl 1 rfl) ?_
      refine lv_lload_n (pc := 27) hx hb dX9_kindIn_27 rfl (lv_at hl 2 rfl) ?_
      refine ro_go (pc := 28) (va_runV (As := [.int (nI li), .long w]) (rest := []) ⟨hx, hb, hml, hown, hts⟩ (c_X9_leavesOne l D Y mo c r fs li w (hf) (hC) (hl0)) (cwV 2 hts gX9_kindIn_X9_leavesOne rfl rfl rfl ⟨rfl, hdX9_leavesOne⟩ ⟨Nat.le_of_ble_eq_true rfl, Nat.le_of_ble_eq_true rfl⟩) (ro_pV hK hP (ro_recv hK hP (ci := 8) (q0 := 0) rfl rfl)) rfl rfl hl.1 rfl (lv_room (Nat.le_of_ble_eq_true rfl)) dX9_kindIn_28 ⟨Nat.le_of_ble_eq_true rfl, Nat.le_of_ble_eq_true rfl⟩) ?_
      refine z_if_eq (pc := 31) (tgt := 38) hx hb dX9_kindIn_31 (by decide) (fun c31 => ?_) (fun c31 => ?_)
      · refine lv_iconst (pc := 38) (v := nI 2) hx hb dX9_kindIn_38 rfl ?_
        exact ro_iret (v := nI 2) hx hb hr hlocks (by unfold knd; first | (rw [c5]; rfl) | (rw [c5, if_pos c18]; rfl) | (rw [c5, if_neg (Nat.not_lt.mpr (Nat.le_of_eq c18)), c31]; rfl)) dX9_kindIn_39
      refine lv_iconst (pc := 34) (v := nI 3) hx hb dX9_kindIn_34 rfl ?_
      refine lv_goto (pc := 35) (tgt := 39) hx hb dX9_kindIn_35 (by decide) ?_
      exact ro_iret (v := nI 3) hx hb hr hlocks (by unfold knd; first | (rw [c5]; rfl) | (rw [c5, if_pos c18]; rfl) | (rw [c5, if_neg (Nat.not_lt.mpr (Nat.le_of_eq c18)), c31]; rfl)) dX9_kindIn_39
    refine lv_iconst (pc := 21) (v := nI 1) hx hb dX9_kindIn_21 rfl ?_
    refine lv_goto (pc := 22) (tgt := 39) hx hb dX9_kindIn_22 (by decide) ?_
    exact ro_iret (v := nI 1) hx hb hr hlocks (by unfold knd; first | (rw [c5]; rfl) | (rw [c5, if_pos c18]; rfl) | (rw [c5, if_neg (Nat.not_lt.mpr (Nat.le_of_eq c18)), c31]; rfl)) dX9_kindIn_39
  refine lv_iconst (pc := 8) (v := nI 0) hx hb dX9_kindIn_8 rfl ?_
  refine lv_goto (pc := 9) (tgt := 39) hx hb dX9_kindIn_9 (by decide) ?_
  exact ro_iret (v := nI 0) hx hb hr hlocks (by unfold knd; first | (rw [c5]; rfl) | (rw [c5, if_pos c18]; rfl) | (rw [c5, if_neg (Nat.not_lt.mpr (Nat.le_of_eq c18)), c31]; rfl)) dX9_kindIn_39

set_option maxHeartbeats 1200000 in
set_option maxRecDepth 100000 in
theorem c_X9_firstOf (l : Launch) (D : va_G) (Y : vY) (mo : Nat) (c : Nat) (r : Nat) (fs : List Value) (K : Nat) (w : Int64) (hf : MF c r fs) (hC : Cr c r) (hK3 : K ≤ 3) : Ro l yX9_firstOf wsX9_firstOf ({ frames := 6, cells := 0, slots := 0, locals := 141 } : Room) [.ref mo, .int (nI K), .long w] D Y [(mo, .inr (8, fs))] (some (.int (oI (fstk c r w K)))) := by
  refine ro_intro (by decide +kernel) rfl (Nat.le_of_ble_eq_true rfl) [(0, .ref mo), (1, .int (nI K)), (2, .long w)] rfl ?_
  intro pG eG sG mG aG bG tG cG ls hx hb hr hml hts hown hlocks hK hP hl
  have hP : va_P D vwCl [(mo, .inr (8, fs))] sG.heap := hP
  have hown : sG.vm.findClass RX9 = some mG.cls := hown
  have hl : lv_has ls 5 [(0, .ref mo), (1, .int (nI K)), (2, .long w)] := hl
  obtain ⟨hq1, hq2, hq3, hq4, hq5, hq6, hq7, hq8, hq9, hq10, hq11⟩ := hC.q
  refine lv_iconst (pc := 0) (v := nI 0) hx hb dX9_firstOf_0 rfl ?_
  refine lv_istore (pc := 1) (lv' := [(4, .int (nI 0)), (0, .ref mo), (1, .int (nI K)), (2, .long w)]) hx hb dX9_firstOf_1 hl (by decide) rfl (fun ls hl => ?_)
  have L3 : ∀ (n3 : Nat), ∀ (i : Nat), (i ≤ al c r) → (∀ j, j < i → kp c r w K j = false) → al c r - i < n3 → ∀ (ls : Array Slot), lv_has ls 5 [(0, .ref mo), (1, .int (nI K)), (2, .long w), (4, .int (nI i))] → W pG l eG ({ frames := 6, cells := 0, slots := 0, locals := 141 } : Room) sG mG aG bG tG cG sG.heap [] 0 0 (MQ bG (RoQ (some (.int (oI (fstk c r w K))))) aG sG 0 0 (fun _ => False)) (F0 mG 3 ls []) := by
    intro n3
    induction n3 with
    | zero =>
      intro i hi hno hmeas3  ls hl
      exact absurd hmeas3 (Nat.not_lt_zero _)
    | succ n3 ih3 =>
      intro i hi hno hmeas3  ls hl
      refine lv_iload (pc := 3) hx hb dX9_firstOf_3 (lv_at hl 3 rfl) ?_
      refine lv_aload_n (pc := 5) hx hb dX9_firstOf_5 rfl (lv_at hl 0 rfl) ?_
      refine ro_go (pc := 6) (va_runV (As := []) (rest := [.int (nI i)]) ⟨hx, hb, hml, hown, hts⟩ (c_X9_all l D Y mo c r fs (hf) (hC)) (cwV 0 hts gX9_firstOf_X9_all rfl rfl rfl ⟨rfl, hdX9_all⟩ ⟨Nat.le_of_ble_eq_true rfl, Nat.le_of_ble_eq_true rfl⟩) (ro_pV hK hP (ro_recv hK hP (ci := 8) (q0 := 0) rfl rfl)) rfl rfl hl.1 rfl (lv_room (Nat.le_of_ble_eq_true rfl)) dX9_firstOf_6 ⟨Nat.le_of_ble_eq_true rfl, Nat.le_of_ble_eq_true rfl⟩) ?_
      refine n_icmp_ge (pc := 9) (tgt := 32) hx hb (by omega) (by omega) dX9_firstOf_9 (by decide) (fun c9 => ?_) (fun c9 => ?_)
      · refine lv_iconst (pc := 32) (v := (-1)) hx hb dX9_firstOf_32 (by decide) ?_
        exact ro_iret (v := (-1)) hx hb hr hlocks (by unfold fstk; rw [fst1_none (fun j h => hno j (by omega))]; rfl) dX9_firstOf_33
      refine lv_aload_n (pc := 12) hx hb dX9_firstOf_12 rfl (lv_at hl 0 rfl) ?_
      refine lv_iload (pc := 13) hx hb dX9_firstOf_13 (lv_at hl 3 rfl) ?_
      refine lv_lload_n (pc := 15) hx hb dX9_firstOf_15 rfl (lv_at hl 2 rfl) ?_
      refine ro_go (pc := 16) (va_runV (As := [.int (nI i), .long w]) (rest := []) ⟨hx, hb, hml, hown, hts⟩ (c_X9_kindIn l D Y mo c r fs i w (hf) (hC) (by first | assumption | omega)) (cwV 2 hts gX9_firstOf_X9_kindIn rfl rfl rfl ⟨rfl, hdX9_kindIn⟩ ⟨Nat.le_of_ble_eq_true rfl, Nat.le_of_ble_eq_true rfl⟩) (ro_pV hK hP (ro_recv hK hP (ci := 8) (q0 := 0) rfl rfl)) rfl rfl hl.1 rfl (lv_room (Nat.le_of_ble_eq_true rfl)) dX9_firstOf_16 ⟨Nat.le_of_ble_eq_true rfl, Nat.le_of_ble_eq_true rfl⟩) ?_
      refine lv_iload_n (pc := 19) hx hb dX9_firstOf_19 rfl (lv_at hl 1 rfl) ?_
      refine n_icmp_ne (pc := 20) (tgt := 26) hx hb (by have := knd_le c r w i; omega) (by omega) dX9_firstOf_20 (by decide) (fun c20 => ?_) (fun c20 => ?_)
      · refine lv_iinc (pc := 26) (v := nI (i + 1)) (lv' := [(4, .int (nI (i + 1))), (0, .ref mo), (1, .int (nI K)), (2, .long w)]) hx hb dX9_firstOf_26 hl (k := 3) rfl (n_inc i 1) (by decide) rfl (fun ls hl => ?_)
        refine lv_goto (pc := 29) (tgt := 3) hx hb dX9_firstOf_29 (by decide) ?_
        exact ih3 (i + 1) (by omega) (lt_s hno (decide_eq_false c20)) (by omega) _ (lv_sub hl [1, 2, 3, 0] rfl)
      refine lv_iload (pc := 23) hx hb dX9_firstOf_23 (lv_at hl 3 rfl) ?_
      exact ro_iret (v := nI i) hx hb hr hlocks (by unfold fstk; rw [fst1_some hno (decide_eq_true c20) c9]; rfl) dX9_firstOf_25
  exact L3 ((al c r - 0) + 1) 0 (by omega) (fun j h => absurd h (Nat.not_lt_zero _)) (Nat.lt_succ_self _) _ (lv_sub hl [1, 2, 3, 0] rfl)

set_option maxHeartbeats 1200000 in
set_option maxRecDepth 100000 in
theorem c_X9_howMany (l : Launch) (D : va_G) (Y : vY) (mo : Nat) (c : Nat) (r : Nat) (fs : List Value) (K : Nat) (w : Int64) (hf : MF c r fs) (hC : Cr c r) (hK3 : K ≤ 3) : Ro l yX9_howMany wsX9_howMany ({ frames := 6, cells := 0, slots := 0, locals := 141 } : Room) [.ref mo, .int (nI K), .long w] D Y [(mo, .inr (8, fs))] (some (.int (nI (fb_ct (kp c r w K) (al c r))))) := by
  refine ro_intro (by decide +kernel) rfl (Nat.le_of_ble_eq_true rfl) [(0, .ref mo), (1, .int (nI K)), (2, .long w)] rfl ?_
  intro pG eG sG mG aG bG tG cG ls hx hb hr hml hts hown hlocks hK hP hl
  have hP : va_P D vwCl [(mo, .inr (8, fs))] sG.heap := hP
  have hown : sG.vm.findClass RX9 = some mG.cls := hown
  have hl : lv_has ls 6 [(0, .ref mo), (1, .int (nI K)), (2, .long w)] := hl
  obtain ⟨hq1, hq2, hq3, hq4, hq5, hq6, hq7, hq8, hq9, hq10, hq11⟩ := hC.q
  refine lv_iconst (pc := 0) (v := nI 0) hx hb dX9_howMany_0 rfl ?_
  refine lv_istore (pc := 1) (lv' := [(4, .int (nI 0)), (0, .ref mo), (1, .int (nI K)), (2, .long w)]) hx hb dX9_howMany_1 hl (by decide) rfl (fun ls hl => ?_)
  refine lv_iconst (pc := 3) (v := nI 0) hx hb dX9_howMany_3 rfl ?_
  refine lv_istore (pc := 4) (lv' := [(5, .int (nI 0)), (4, .int (nI 0)), (0, .ref mo), (1, .int (nI K)), (2, .long w)]) hx hb dX9_howMany_4 hl (by decide) rfl (fun ls hl => ?_)
  have L6 : ∀ (n6 : Nat), ∀ (i : Nat) (n : Nat), (i ≤ al c r) → (n = fb_ct (kp c r w K) i) → al c r - i < n6 → ∀ (ls : Array Slot), lv_has ls 6 [(0, .ref mo), (1, .int (nI K)), (2, .long w), (4, .int (nI n)), (5, .int (nI i))] → W pG l eG ({ frames := 6, cells := 0, slots := 0, locals := 141 } : Room) sG mG aG bG tG cG sG.heap [] 0 0 (MQ bG (RoQ (some (.int (nI (fb_ct (kp c r w K) (al c r)))))) aG sG 0 0 (fun _ => False)) (F0 mG 6 ls []) := by
    intro n6
    induction n6 with
    | zero =>
      intro i n hi hn hmeas6  ls hl
      exact absurd hmeas6 (Nat.not_lt_zero _)
    | succ n6 ih6 =>
      intro i n hi hn hmeas6  ls hl
      refine lv_iload (pc := 6) hx hb dX9_howMany_6 (lv_at hl 4 rfl) ?_
      refine lv_aload_n (pc := 8) hx hb dX9_howMany_8 rfl (lv_at hl 0 rfl) ?_
      refine ro_go (pc := 9) (va_runV (As := []) (rest := [.int (nI i)]) ⟨hx, hb, hml, hown, hts⟩ (c_X9_all l D Y mo c r fs (hf) (hC)) (cwV 0 hts gX9_howMany_X9_all rfl rfl rfl ⟨rfl, hdX9_all⟩ ⟨Nat.le_of_ble_eq_true rfl, Nat.le_of_ble_eq_true rfl⟩) (ro_pV hK hP (ro_recv hK hP (ci := 8) (q0 := 0) rfl rfl)) rfl rfl hl.1 rfl (lv_room (Nat.le_of_ble_eq_true rfl)) dX9_howMany_9 ⟨Nat.le_of_ble_eq_true rfl, Nat.le_of_ble_eq_true rfl⟩) ?_
      refine n_icmp_ge (pc := 12) (tgt := 42) hx hb (by omega) (by omega) dX9_howMany_12 (by decide) (fun c12 => ?_) (fun c12 => ?_)
      · refine lv_iload (pc := 42) hx hb dX9_howMany_42 (lv_at hl 3 rfl) ?_
        exact ro_iret (v := nI n) hx hb hr hlocks (by rw [hn, show i = al c r by omega]) dX9_howMany_44
      refine lv_iload (pc := 15) hx hb dX9_howMany_15 (lv_at hl 3 rfl) ?_
      refine lv_aload_n (pc := 17) hx hb dX9_howMany_17 rfl (lv_at hl 0 rfl) ?_
      refine lv_iload (pc := 18) hx hb dX9_howMany_18 (lv_at hl 4 rfl) ?_
      refine lv_lload_n (pc := 20) hx hb dX9_howMany_20 rfl (lv_at hl 2 rfl) ?_
      refine ro_go (pc := 21) (va_runV (As := [.int (nI i), .long w]) (rest := [.int (nI n)]) ⟨hx, hb, hml, hown, hts⟩ (c_X9_kindIn l D Y mo c r fs i w (hf) (hC) (by first | assumption | omega)) (cwV 2 hts gX9_howMany_X9_kindIn rfl rfl rfl ⟨rfl, hdX9_kindIn⟩ ⟨Nat.le_of_ble_eq_true rfl, Nat.le_of_ble_eq_true rfl⟩) (ro_pV hK hP (ro_recv hK hP (ci := 8) (q0 := 0) rfl rfl)) rfl rfl hl.1 rfl (lv_room (Nat.le_of_ble_eq_true rfl)) dX9_howMany_21 ⟨Nat.le_of_ble_eq_true rfl, Nat.le_of_ble_eq_true rfl⟩) ?_
      refine lv_iload_n (pc := 24) hx hb dX9_howMany_24 rfl (lv_at hl 1 rfl) ?_
      refine n_icmp_ne (pc := 25) (tgt := 32) hx hb (by have := knd_le c r w i; omega) (by omega) dX9_howMany_25 (by decide) (fun c25 => ?_) (fun c25 => ?_)
      · refine lv_iconst (pc := 32) (v := nI 0) hx hb dX9_howMany_32 rfl ?_
        refine n_iadd (pc := 33) hx hb dX9_howMany_33 ?_
        refine lv_istore (pc := 34) (lv' := [(4, .int (nI (n + 0))), (0, .ref mo), (1, .int (nI K)), (2, .long w), (5, .int (nI i))]) hx hb dX9_howMany_34 hl (by decide) rfl (fun ls hl => ?_)
        refine lv_iinc (pc := 36) (v := nI (i + 1)) (lv' := [(5, .int (nI (i + 1))), (4, .int (nI (n + 0))), (0, .ref mo), (1, .int (nI K)), (2, .long w)]) hx hb dX9_howMany_36 hl (k := 4) rfl (n_inc i 1) (by decide) rfl (fun ls hl => ?_)
        refine lv_goto (pc := 39) (tgt := 6) hx hb dX9_howMany_39 (by decide) ?_
        exact ih6 (i + 1) (n + 0) (by omega) (by rw [fb_ct_succ, hn]; unfold kp; first | (rw [decide_eq_true c25]; rfl) | (rw [decide_eq_false c25]; rfl)) (by omega) _ (lv_sub hl [2, 3, 4, 1, 0] rfl)
      refine lv_iconst (pc := 28) (v := nI 1) hx hb dX9_howMany_28 rfl ?_
      refine lv_goto (pc := 29) (tgt := 33) hx hb dX9_howMany_29 (by decide) ?_
      refine n_iadd (pc := 33) hx hb dX9_howMany_33 ?_
      refine lv_istore (pc := 34) (lv' := [(4, .int (nI (n + 1))), (0, .ref mo), (1, .int (nI K)), (2, .long w), (5, .int (nI i))]) hx hb dX9_howMany_34 hl (by decide) rfl (fun ls hl => ?_)
      refine lv_iinc (pc := 36) (v := nI (i + 1)) (lv' := [(5, .int (nI (i + 1))), (4, .int (nI (n + 1))), (0, .ref mo), (1, .int (nI K)), (2, .long w)]) hx hb dX9_howMany_36 hl (k := 4) rfl (n_inc i 1) (by decide) rfl (fun ls hl => ?_)
      refine lv_goto (pc := 39) (tgt := 6) hx hb dX9_howMany_39 (by decide) ?_
      exact ih6 (i + 1) (n + 1) (by omega) (by rw [fb_ct_succ, hn]; unfold kp; first | (rw [decide_eq_true c25]; rfl) | (rw [decide_eq_false c25]; rfl)) (by omega) _ (lv_sub hl [2, 3, 4, 1, 0] rfl)
  exact L6 ((al c r - 0) + 1) 0 0 (by omega) (rfl) (Nat.lt_succ_self _) _ (lv_sub hl [2, 3, 4, 1, 0] rfl)

set_option maxHeartbeats 1200000 in
set_option maxRecDepth 100000 in
theorem c_X9_complete (l : Launch) (D : va_G) (Y : vY) (mo : Nat) (c : Nat) (r : Nat) (fs : List Value) (w : Int64) (hf : MF c r fs) (hC : Cr c r) : Ro l yX9_complete wsX9_complete ({ frames := 4, cells := 0, slots := 0, locals := 92 } : Room) [.ref mo, .long w] D Y [(mo, .inr (8, fs))] (some (.int (nI (cmpl c r w)))) := by
  refine ro_intro (by decide +kernel) rfl (Nat.le_of_ble_eq_true rfl) [(0, .ref mo), (1, .long w)] rfl ?_
  intro pG eG sG mG aG bG tG cG ls hx hb hr hml hts hown hlocks hK hP hl
  have hP : va_P D vwCl [(mo, .inr (8, fs))] sG.heap := hP
  have hown : sG.vm.findClass RX9 = some mG.cls := hown
  have hl : lv_has ls 5 [(0, .ref mo), (1, .long w)] := hl
  obtain ⟨hq1, hq2, hq3, hq4, hq5, hq6, hq7, hq8, hq9, hq10, hq11⟩ := hC.q
  refine lv_iconst (pc := 0) (v := nI 0) hx hb dX9_complete_0 rfl ?_
  refine lv_istore_n (pc := 1) (lv' := [(3, .int (nI 0)), (0, .ref mo), (1, .long w)]) hx hb dX9_complete_1 rfl hl (by decide) rfl (fun ls hl => ?_)
  refine lv_iconst (pc := 2) (v := nI 0) hx hb dX9_complete_2 rfl ?_
  refine lv_istore (pc := 3) (lv' := [(4, .int (nI 0)), (3, .int (nI 0)), (0, .ref mo), (1, .long w)]) hx hb dX9_complete_3 hl (by decide) rfl (fun ls hl => ?_)
  have L5 : ∀ (n5 : Nat), ∀ (i : Nat) (n : Nat), (i ≤ c * r) → (n = fb_ct (fun b => decide (opn c r w b = 0)) i) → c * r - i < n5 → ∀ (ls : Array Slot), lv_has ls 5 [(0, .ref mo), (1, .long w), (3, .int (nI n)), (4, .int (nI i))] → W pG l eG ({ frames := 4, cells := 0, slots := 0, locals := 92 } : Room) sG mG aG bG tG cG sG.heap [] 0 0 (MQ bG (RoQ (some (.int (nI (cmpl c r w))))) aG sG 0 0 (fun _ => False)) (F0 mG 5 ls []) := by
    intro n5
    induction n5 with
    | zero =>
      intro i n hi hn hmeas5  ls hl
      exact absurd hmeas5 (Nat.not_lt_zero _)
    | succ n5 ih5 =>
      intro i n hi hn hmeas5  ls hl
      refine lv_iload (pc := 5) hx hb dX9_complete_5 (lv_at hl 3 rfl) ?_
      refine lv_aload_n (pc := 7) hx hb dX9_complete_7 rfl (lv_at hl 0 rfl) ?_
      refine ro_go (pc := 8) (va_runV (As := []) (rest := [.int (nI i)]) ⟨hx, hb, hml, hown, hts⟩ (c_X9_boxes l D Y mo c r fs (hf) (hC)) (cwV 0 hts gX9_complete_X9_boxes rfl rfl rfl ⟨rfl, hdX9_boxes⟩ ⟨Nat.le_of_ble_eq_true rfl, Nat.le_of_ble_eq_true rfl⟩) (ro_pV hK hP (ro_recv hK hP (ci := 8) (q0 := 0) rfl rfl)) rfl rfl hl.1 rfl (lv_room (Nat.le_of_ble_eq_true rfl)) dX9_complete_8 ⟨Nat.le_of_ble_eq_true rfl, Nat.le_of_ble_eq_true rfl⟩) ?_
      refine n_icmp_ge (pc := 11) (tgt := 38) hx hb (by omega) (by omega) dX9_complete_11 (by decide) (fun c11 => ?_) (fun c11 => ?_)
      · refine lv_iload_n (pc := 38) hx hb dX9_complete_38 rfl (lv_at hl 2 rfl) ?_
        exact ro_iret (v := nI n) hx hb hr hlocks (by rw [hn, show i = c * r by omega]; rfl) dX9_complete_39
      refine lv_iload_n (pc := 14) hx hb dX9_complete_14 rfl (lv_at hl 2 rfl) ?_
      refine lv_aload_n (pc := 15) hx hb dX9_complete_15 rfl (lv_at hl 0 rfl) ?_
      refine lv_iload (pc := 16) hx hb dX9_complete_16 (lv_at hl 3 rfl) ?_
      refine lv_lload_n (pc := 18) hx hb dX9_complete_18 rfl (lv_at hl 1 rfl) ?_
      refine ro_go (pc := 19) (va_runV (As := [.int (nI i), .long w]) (rest := [.int (nI n)]) ⟨hx, hb, hml, hown, hts⟩ (c_X9_openOf l D Y mo c r fs i w (hf) (hC) (by first | assumption | omega)) (cwV 2 hts gX9_complete_X9_openOf rfl rfl rfl ⟨rfl, hdX9_openOf⟩ ⟨Nat.le_of_ble_eq_true rfl, Nat.le_of_ble_eq_true rfl⟩) (ro_pV hK hP (ro_recv hK hP (ci := 8) (q0 := 0) rfl rfl)) rfl rfl hl.1 rfl (lv_room (Nat.le_of_ble_eq_true rfl)) dX9_complete_19 ⟨Nat.le_of_ble_eq_true rfl, Nat.le_of_ble_eq_true rfl⟩) ?_
      refine n_if_ne (pc := 22) (tgt := 29) hx hb (by have := opn_le c r w i; omega) dX9_complete_22 (by decide) (fun c22 => ?_) (fun c22 => ?_)
      · refine lv_iconst (pc := 29) (v := nI 0) hx hb dX9_complete_29 rfl ?_
        refine n_iadd (pc := 30) hx hb dX9_complete_30 ?_
        refine lv_istore_n (pc := 31) (lv' := [(3, .int (nI (n + 0))), (0, .ref mo), (1, .long w), (4, .int (nI i))]) hx hb dX9_complete_31 rfl hl (by decide) rfl (fun ls hl => ?_)
        refine lv_iinc (pc := 32) (v := nI (i + 1)) (lv' := [(4, .int (nI (i + 1))), (3, .int (nI (n + 0))), (0, .ref mo), (1, .long w)]) hx hb dX9_complete_32 hl (k := 3) rfl (n_inc i 1) (by decide) rfl (fun ls hl => ?_)
        refine lv_goto (pc := 35) (tgt := 5) hx hb dX9_complete_35 (by decide) ?_
        exact ih5 (i + 1) (n + 0) (by omega) (by rw [fb_ct_succ, hn]; first | (rw [decide_eq_true c22]; rfl) | (rw [decide_eq_false (by omega)]; rfl)) (by omega) _ (lv_sub hl [2, 3, 1, 0] rfl)
      refine lv_iconst (pc := 25) (v := nI 1) hx hb dX9_complete_25 rfl ?_
      refine lv_goto (pc := 26) (tgt := 30) hx hb dX9_complete_26 (by decide) ?_
      refine n_iadd (pc := 30) hx hb dX9_complete_30 ?_
      refine lv_istore_n (pc := 31) (lv' := [(3, .int (nI (n + 1))), (0, .ref mo), (1, .long w), (4, .int (nI i))]) hx hb dX9_complete_31 rfl hl (by decide) rfl (fun ls hl => ?_)
      refine lv_iinc (pc := 32) (v := nI (i + 1)) (lv' := [(4, .int (nI (i + 1))), (3, .int (nI (n + 1))), (0, .ref mo), (1, .long w)]) hx hb dX9_complete_32 hl (k := 3) rfl (n_inc i 1) (by decide) rfl (fun ls hl => ?_)
      refine lv_goto (pc := 35) (tgt := 5) hx hb dX9_complete_35 (by decide) ?_
      exact ih5 (i + 1) (n + 1) (by omega) (by rw [fb_ct_succ, hn]; first | (rw [decide_eq_true c22]; rfl) | (rw [decide_eq_false (by omega)]; rfl)) (by omega) _ (lv_sub hl [2, 3, 1, 0] rfl)
  exact L5 ((c * r - 0) + 1) 0 0 (by omega) (rfl) (Nat.lt_succ_self _) _ (lv_sub hl [2, 3, 1, 0] rfl)

set_option maxHeartbeats 1200000 in
set_option maxRecDepth 100000 in
theorem c_X9_runOf (l : Launch) (D : va_G) (Y : vY) (mo : Nat) (c : Nat) (r : Nat) (fs : List Value) (w : Int64) (hf : MF c r fs) (hC : Cr c r) : Ro l yX9_runOf wsX9_runOf ({ frames := 7, cells := 0, slots := 0, locals := 165 } : Room) [.ref mo, .long w] D Y [(mo, .inr (8, fs))] (some (.int (nI (run c r w)))) := by
  refine ro_intro (by decide +kernel) rfl (Nat.le_of_ble_eq_true rfl) [(0, .ref mo), (1, .long w)] rfl ?_
  intro pG eG sG mG aG bG tG cG ls hx hb hr hml hts hown hlocks hK hP hl
  have hP : va_P D vwCl [(mo, .inr (8, fs))] sG.heap := hP
  have hown : sG.vm.findClass RX9 = some mG.cls := hown
  have hl : lv_has ls 7 [(0, .ref mo), (1, .long w)] := hl
  obtain ⟨hq1, hq2, hq3, hq4, hq5, hq6, hq7, hq8, hq9, hq10, hq11⟩ := hC.q
  refine lv_lload_n (pc := 0) hx hb dX9_runOf_0 rfl (lv_at hl 1 rfl) ?_
  refine lv_lstore_n (pc := 1) (lv' := [(3, .long w), (0, .ref mo), (1, .long w)]) hx hb dX9_runOf_1 rfl hl (by decide) rfl (fun ls hl => ?_)
  refine lv_iconst (pc := 2) (v := nI 0) hx hb dX9_runOf_2 rfl ?_
  refine lv_istore (pc := 3) (lv' := [(5, .int (nI 0)), (3, .long w), (0, .ref mo), (1, .long w)]) hx hb dX9_runOf_3 hl (by decide) rfl (fun ls hl => ?_)
  refine lv_aload_n (pc := 5) hx hb dX9_runOf_5 rfl (lv_at hl 2 rfl) ?_
  refine lv_iconst (pc := 6) (v := nI 1) hx hb dX9_runOf_6 rfl ?_
  refine lv_lload_n (pc := 7) hx hb dX9_runOf_7 rfl (lv_at hl 1 rfl) ?_
  refine ro_go (pc := 8) (va_runV (As := [.int (nI 1), .long w]) (rest := []) ⟨hx, hb, hml, hown, hts⟩ (c_X9_firstOf l D Y mo c r fs 1 w (hf) (hC) (by decide)) (cwV 2 hts gX9_runOf_X9_firstOf rfl rfl rfl ⟨rfl, hdX9_firstOf⟩ ⟨Nat.le_of_ble_eq_true rfl, Nat.le_of_ble_eq_true rfl⟩) (ro_pV hK hP (ro_recv hK hP (ci := 8) (q0 := 0) rfl rfl)) rfl rfl hl.1 rfl (lv_room (Nat.le_of_ble_eq_true rfl)) dX9_runOf_8 ⟨Nat.le_of_ble_eq_true rfl, Nat.le_of_ble_eq_true rfl⟩) ?_
  refine lv_topi (fun x8 ex8 => ?_)
  refine lv_istore (pc := 11) (lv' := [(6, .int x8), (5, .int (nI 0)), (3, .long w), (0, .ref mo), (1, .long w)]) hx hb dX9_runOf_11 hl (by decide) rfl (fun ls hl => ?_)
  have L13 : ∀ (n13 : Nat), ∀ (f : Nat) (u : Int64) (n : Nat) (x : Int32), (x = oI (fstk c r u 1)) → (und c r u < f) → (n + rnF c r f u = run c r w) → f < n13 → ∀ (ls : Array Slot), lv_has ls 7 [(0, .ref mo), (1, .long w), (3, .long u), (5, .int (nI n)), (6, .int x)] → W pG l eG ({ frames := 7, cells := 0, slots := 0, locals := 165 } : Room) sG mG aG bG tG cG sG.heap [] 0 0 (MQ bG (RoQ (some (.int (nI (run c r w))))) aG sG 0 0 (fun _ => False)) (F0 mG 13 ls []) := by
    intro n13
    induction n13 with
    | zero =>
      intro f u n x hxx hu hs hmeas13  ls hl
      exact absurd hmeas13 (Nat.not_lt_zero _)
    | succ n13 ih13 =>
      intro f u n x hxx hu hs hmeas13  ls hl
      refine lv_iload (pc := 13) hx hb dX9_runOf_13 (lv_at hl 4 rfl) ?_
      refine lv_iconst (pc := 15) (v := (-1)) hx hb dX9_runOf_15 (by decide) ?_
      refine lv_icmp_eq (pc := 16) (tgt := 49) hx hb dX9_runOf_16 (by decide) (fun c16 => ?_) (fun c16 => ?_)
      · have hbn := oI_none hxx c16 (fun b h => by have := (fst1_is h).1; omega)
        refine lv_iload (pc := 49) hx hb dX9_runOf_49 (lv_at hl 3 rfl) ?_
        exact ro_iret (v := nI n) hx hb hr hlocks (by rw [← hs, rn_none hbn, Nat.add_zero]) dX9_runOf_51
      obtain ⟨bb, hbb, rfl⟩ := oI_some hxx c16
      have hbi := fst1_is hbb
      have hbl : bb < al c r := hbi.1
      have htb : tb u bb = false := knd_1 (c := c) (r := r) (by have := kp_t hbi.2.1; omega)
      have hl : lv_has ls 7 [(0, .ref mo), (1, .long w), (3, .long u), (5, .int (nI n)), (6, .int (nI bb))] := hl
      refine lv_iload (pc := 19) hx hb dX9_runOf_19 (lv_at hl 3 rfl) ?_
      refine lv_aload_n (pc := 21) hx hb dX9_runOf_21 rfl (lv_at hl 0 rfl) ?_
      refine lv_iload (pc := 22) hx hb dX9_runOf_22 (lv_at hl 4 rfl) ?_
      refine lv_lload_n (pc := 24) hx hb dX9_runOf_24 rfl (lv_at hl 2 rfl) ?_
      refine ro_go (pc := 25) (va_runV (As := [.int (nI bb), .long u]) (rest := [.int (nI n)]) ⟨hx, hb, hml, hown, hts⟩ (c_X9_gains l D Y mo c r fs bb u (hf) (hC) (by first | assumption | omega)) (cwV 2 hts gX9_runOf_X9_gains rfl rfl rfl ⟨rfl, hdX9_gains⟩ ⟨Nat.le_of_ble_eq_true rfl, Nat.le_of_ble_eq_true rfl⟩) (ro_pV hK hP (ro_recv hK hP (ci := 8) (q0 := 0) rfl rfl)) rfl rfl hl.1 rfl (lv_room (Nat.le_of_ble_eq_true rfl)) dX9_runOf_25 ⟨Nat.le_of_ble_eq_true rfl, Nat.le_of_ble_eq_true rfl⟩) ?_
      refine n_iadd (pc := 28) hx hb dX9_runOf_28 ?_
      refine lv_istore (pc := 29) (lv' := [(5, .int (nI (n + (gai c r u bb)))), (0, .ref mo), (1, .long w), (3, .long u), (6, .int (nI bb))]) hx hb dX9_runOf_29 hl (by decide) rfl (fun ls hl => ?_)
      refine lv_lload_n (pc := 31) hx hb dX9_runOf_31 rfl (lv_at hl 3 rfl) ?_
      refine lv_lconst (pc := 32) (v := 1) hx hb dX9_runOf_32 (by decide) ?_
      refine lv_iload (pc := 33) hx hb dX9_runOf_33 (lv_at hl 4 rfl) ?_
      refine lv_lshl (pc := 35) (v := b1 bb) hx hb dX9_runOf_35 (b1_shl bb (by omega)) ?_
      refine lv_lor (pc := 36) hx hb dX9_runOf_36 ?_
      refine lv_lstore_n (pc := 37) (lv' := [(3, .long (u ||| (b1 bb))), (5, .int (nI (n + (gai c r u bb)))), (0, .ref mo), (1, .long w), (6, .int (nI bb))]) hx hb dX9_runOf_37 rfl hl (by decide) rfl (fun ls hl => ?_)
      refine lv_aload_n (pc := 38) hx hb dX9_runOf_38 rfl (lv_at hl 2 rfl) ?_
      refine lv_iconst (pc := 39) (v := nI 1) hx hb dX9_runOf_39 rfl ?_
      refine lv_lload_n (pc := 40) hx hb dX9_runOf_40 rfl (lv_at hl 0 rfl) ?_
      refine ro_go (pc := 41) (va_runV (As := [.int (nI 1), .long (u ||| (b1 bb))]) (rest := []) ⟨hx, hb, hml, hown, hts⟩ (c_X9_firstOf l D Y mo c r fs 1 (u ||| (b1 bb)) (hf) (hC) (by decide)) (cwV 2 hts gX9_runOf_X9_firstOf rfl rfl rfl ⟨rfl, hdX9_firstOf⟩ ⟨Nat.le_of_ble_eq_true rfl, Nat.le_of_ble_eq_true rfl⟩) (ro_pV hK hP (ro_recv hK hP (ci := 8) (q0 := 0) rfl rfl)) rfl rfl hl.1 rfl (lv_room (Nat.le_of_ble_eq_true rfl)) dX9_runOf_41 ⟨Nat.le_of_ble_eq_true rfl, Nat.le_of_ble_eq_true rfl⟩) ?_
      refine lv_topi (fun x41 ex41 => ?_)
      refine lv_istore (pc := 44) (lv' := [(6, .int x41), (3, .long (u ||| (b1 bb))), (5, .int (nI (n + (gai c r u bb)))), (0, .ref mo), (1, .long w)]) hx hb dX9_runOf_44 hl (by decide) rfl (fun ls hl => ?_)
      refine lv_goto (pc := 46) (tgt := 13) hx hb dX9_runOf_46 (by decide) ?_
      exact ih13 (f - 1) (u ||| (b1 bb)) (n + (gai c r u bb)) x41 (ex41) (by have := und_step hC hbl htb; omega) (by rw [← hs, rn_some (by omega) hbb, Nat.add_assoc]) (by omega) _ (lv_sub hl [3, 4, 1, 2, 0] rfl)
  exact L13 (41 + 1) 41 w 0 x8 (ex8) (by have := und_le c r w; omega) (by rw [Nat.zero_add]; rfl) (Nat.lt_succ_self _) _ (lv_sub hl [3, 4, 2, 1, 0] rfl)
