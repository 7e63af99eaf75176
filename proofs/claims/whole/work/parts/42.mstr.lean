set_option maxHeartbeats 1200000 in
set_option maxRecDepth 100000 in
theorem c_X9_isThin (l : Launch) (D : va_G) (Y : vY) (mo : Nat) (c : Nat) (r : Nat) (fs : List Value) (w : Int64) (b : Nat) (hf : MF c r fs) (hC : Cr c r) (hf3 : fs[3]? = some (.long w)) (hb0 : b < c * r) : Ro l yX9_isThin wsX9_isThin ({ frames := 4, cells := 0, slots := 0, locals := 92 } : Room) [.ref mo, .int (nI b)] D Y [(mo, .inr (8, fs))] (some (.int (zb (thn c r w b)))) := by
  refine ro_intro (by decide +kernel) rfl (Nat.le_of_ble_eq_true rfl) [(0, .ref mo), (1, .int (nI b))] rfl ?_
  intro pG eG sG mG aG bG tG cG ls hx hb hr hml hts hown hlocks hK hP hl
  have hP : va_P D vwCl [(mo, .inr (8, fs))] sG.heap := hP
  have hown : sG.vm.findClass RX9 = some mG.cls := hown
  have hl : lv_has ls 2 [(0, .ref mo), (1, .int (nI b))] := hl
  have hinX9 : ∀ w ∈ u_ws RX9 TX9 25, w ∈ wsX9_isThin := by decide +kernel
  obtain ⟨hq1, hq2, hq3, hq4, hq5, hq6, hq7, hq8, hq9, hq10, hq11⟩ := hC.q
  have hop := opn_le c r w b
  refine lv_aload_n (pc := 0) hx hb dX9_isThin_0 rfl (lv_at hl 0 rfl) ?_
  refine lv_iload_n (pc := 1) hx hb dX9_isThin_1 rfl (lv_at hl 1 rfl) ?_
  refine lv_aload_n (pc := 2) hx hb dX9_isThin_2 rfl (lv_at hl 0 rfl) ?_
  refine va_get (pc := 3) (D := D) (ci := 8) (v := .long w) (C := RX9) (T := TX9) (N := 25) hx hb hts hinX9 hown hK.1 hP 0 rfl rfl 3 (by decide) (hts (.fieldLink RX9 119 "BoxesGameModel" "now" "J") (List.mem_of_getElem? (i := 1) rfl)) (fun _ h9 => h9) hf3 dX9_isThin_3 ?_
  refine ro_go (pc := 6) (va_runV (As := [.int (nI b), .long w]) (rest := []) ⟨hx, hb, hml, hown, hts⟩ (c_X9_openOf l D Y mo c r fs b w (hf) (hC) (hb0)) (cwV 2 hts gX9_isThin_X9_openOf rfl rfl rfl ⟨rfl, hdX9_openOf⟩ ⟨Nat.le_of_ble_eq_true rfl, Nat.le_of_ble_eq_true rfl⟩) (ro_pV hK hP (ro_recv hK hP (ci := 8) (q0 := 0) rfl rfl)) rfl rfl hl.1 rfl (lv_room (Nat.le_of_ble_eq_true rfl)) dX9_isThin_6 ⟨Nat.le_of_ble_eq_true rfl, Nat.le_of_ble_eq_true rfl⟩) ?_
  refine lv_iconst (pc := 9) (v := nI 1) hx hb dX9_isThin_9 rfl ?_
  refine lv_iconst (pc := 10) (v := nI 2) hx hb dX9_isThin_10 rfl ?_
  refine ro_go (pc := 11) (va_runS (As := [.int (nI (opn c r w b)), .int (nI 1), .int (nI 2)]) (rest := []) ⟨hx, hb, hml, hown, hts⟩ (c_X9_within l D Y (nI (opn c r w b)) (nI 1) (nI 2) ) (va_cwS 3 hts gX9_isThin_X9_within rfl rfl rfl hdX9_within ⟨Nat.le_of_ble_eq_true rfl, Nat.le_of_ble_eq_true rfl⟩) (ro_pS hK (hP.sub [] rfl)) rfl rfl hl.1 rfl (lv_room (Nat.le_of_ble_eq_true rfl)) dX9_isThin_11 ⟨Nat.le_of_ble_eq_true rfl, Nat.le_of_ble_eq_true rfl⟩) ?_
  exact ro_zret hx hb hr hlocks (by rw [wi_nI (by omega) (by decide) (by decide)]; rfl) dX9_isThin_14

set_option maxHeartbeats 1200000 in
set_option maxRecDepth 100000 in
theorem c_X9_goesRound (l : Launch) (D : va_G) (Y : vY) (mo : Nat) (c : Nat) (r : Nat) (fs : List Value) (w : Int64) (b : Nat) (hf : MF c r fs) (hC : Cr c r) (hf3 : fs[3]? = some (.long w)) (hb0 : b < c * r) : Ro l yX9_goesRound wsX9_goesRound ({ frames := 5, cells := 0, slots := 0, locals := 113 } : Room) [.ref mo, .int (nI b)] D Y [(mo, .inr (8, fs))] (some (.int (zb (gor c r w b)))) := by
  refine ro_intro (by decide +kernel) rfl (Nat.le_of_ble_eq_true rfl) [(0, .ref mo), (1, .int (nI b))] rfl ?_
  intro pG eG sG mG aG bG tG cG ls hx hb hr hml hts hown hlocks hK hP hl
  have hP : va_P D vwCl [(mo, .inr (8, fs))] sG.heap := hP
  have hown : sG.vm.findClass RX9 = some mG.cls := hown
  have hl : lv_has ls 7 [(0, .ref mo), (1, .int (nI b))] := hl
  have hinX9 : ∀ w ∈ u_ws RX9 TX9 25, w ∈ wsX9_goesRound := by decide +kernel
  obtain ⟨hq1, hq2, hq3, hq4, hq5, hq6, hq7, hq8, hq9, hq10, hq11⟩ := hC.q
  have hop := opn_le c r w b
  refine lv_aload_n (pc := 0) hx hb dX9_goesRound_0 rfl (lv_at hl 0 rfl) ?_
  refine lv_iload_n (pc := 1) hx hb dX9_goesRound_1 rfl (lv_at hl 1 rfl) ?_
  refine lv_aload_n (pc := 2) hx hb dX9_goesRound_2 rfl (lv_at hl 0 rfl) ?_
  refine va_get (pc := 3) (D := D) (ci := 8) (v := .long w) (C := RX9) (T := TX9) (N := 25) hx hb hts hinX9 hown hK.1 hP 0 rfl rfl 3 (by decide) (hts (.fieldLink RX9 119 "BoxesGameModel" "now" "J") (List.mem_of_getElem? (i := 1) rfl)) (fun _ h9 => h9) hf3 dX9_goesRound_3 ?_
  refine ro_go (pc := 6) (va_runV (As := [.int (nI b), .long w]) (rest := []) ⟨hx, hb, hml, hown, hts⟩ (c_X9_openOf l D Y mo c r fs b w (hf) (hC) (hb0)) (cwV 2 hts gX9_goesRound_X9_openOf rfl rfl rfl ⟨rfl, hdX9_openOf⟩ ⟨Nat.le_of_ble_eq_true rfl, Nat.le_of_ble_eq_true rfl⟩) (ro_pV hK hP (ro_recv hK hP (ci := 8) (q0 := 0) rfl rfl)) rfl rfl hl.1 rfl (lv_room (Nat.le_of_ble_eq_true rfl)) dX9_goesRound_6 ⟨Nat.le_of_ble_eq_true rfl, Nat.le_of_ble_eq_true rfl⟩) ?_
  refine lv_iconst (pc := 9) (v := nI 2) hx hb dX9_goesRound_9 rfl ?_
  refine n_icmp_ne (pc := 10) (tgt := 17) hx hb (by omega) (by decide) dX9_goesRound_10 (by decide) (fun c10 => ?_) (fun c10 => ?_)
  · refine lv_iconst (pc := 17) (v := nI 0) hx hb dX9_goesRound_17 rfl ?_
    refine lv_istore_n (pc := 18) (lv' := [(2, .int (nI 0)), (0, .ref mo), (1, .int (nI b))]) hx hb dX9_goesRound_18 rfl hl (by decide) rfl (fun ls hl => ?_)
    refine lv_iconst (pc := 19) (v := nI 0) hx hb dX9_goesRound_19 rfl ?_
    refine lv_istore_n (pc := 20) (lv' := [(3, .int (nI 0)), (2, .int (nI 0)), (0, .ref mo), (1, .int (nI b))]) hx hb dX9_goesRound_20 rfl hl (by decide) rfl (fun ls hl => ?_)
    have L21 : ∀ (n21 : Nat), ∀ (i : Nat) (z : Bool), (i ≤ 4) → (z = (decide (opn c r w b = 2) && andb (gorP c r w b) i)) → 4 - i < n21 → ∀ (ls : Array Slot), lv_has ls 7 [(0, .ref mo), (1, .int (nI b)), (2, .int (zb z)), (3, .int (nI i))] → W pG l eG ({ frames := 5, cells := 0, slots := 0, locals := 113 } : Room) sG mG aG bG tG cG sG.heap [] 0 0 (MQ bG (RoQ (some (.int (zb (gor c r w b))))) aG sG 0 0 (fun _ => False)) (F0 mG 21 ls []) := by
      intro n21
      induction n21 with
      | zero =>
        intro i z hi hz hmeas21  ls hl
        exact absurd hmeas21 (Nat.not_lt_zero _)
      | succ n21 ih21 =>
        intro i z hi hz hmeas21  ls hl
        refine lv_iload_n (pc := 21) hx hb dX9_goesRound_21 rfl (lv_at hl 3 rfl) ?_
        refine lv_iconst (pc := 22) (v := nI 4) hx hb dX9_goesRound_22 rfl ?_
        refine n_icmp_ge (pc := 23) (tgt := 102) hx hb (by omega) (by omega) dX9_goesRound_23 (by decide) (fun c23 => ?_) (fun c23 => ?_)
        · refine lv_iload_n (pc := 102) hx hb dX9_goesRound_102 rfl (lv_at hl 2 rfl) ?_
          exact ro_zret hx hb hr hlocks (by rw [hz, show i = 4 by omega]; rfl) dX9_goesRound_103
        refine lv_aload_n (pc := 26) hx hb dX9_goesRound_26 rfl (lv_at hl 0 rfl) ?_
        refine lv_iload_n (pc := 27) hx hb dX9_goesRound_27 rfl (lv_at hl 1 rfl) ?_
        refine lv_iload_n (pc := 28) hx hb dX9_goesRound_28 rfl (lv_at hl 3 rfl) ?_
        refine ro_go (pc := 29) (va_runV (As := [.int (nI b), .int (nI i)]) (rest := []) ⟨hx, hb, hml, hown, hts⟩ (c_X9_sideOf l D Y mo c r fs b i (hf) (hC) (hb0) (by first | assumption | omega)) (cwV 2 hts gX9_goesRound_X9_sideOf rfl rfl rfl ⟨rfl, hdX9_sideOf⟩ ⟨Nat.le_of_ble_eq_true rfl, Nat.le_of_ble_eq_true rfl⟩) (ro_pV hK hP (ro_recv hK hP (ci := 8) (q0 := 0) rfl rfl)) rfl rfl hl.1 rfl (lv_room (Nat.le_of_ble_eq_true rfl)) dX9_goesRound_29 ⟨Nat.le_of_ble_eq_true rfl, Nat.le_of_ble_eq_true rfl⟩) ?_
        refine lv_istore (pc := 32) (lv' := [(4, .int (nI (sid c r b i))), (0, .ref mo), (1, .int (nI b)), (2, .int (zb z)), (3, .int (nI i))]) hx hb dX9_goesRound_32 hl (by decide) rfl (fun ls hl => ?_)
        refine lv_iconst (pc := 34) (v := nI 0) hx hb dX9_goesRound_34 rfl ?_
        refine lv_istore (pc := 35) (lv' := [(5, .int (nI 0)), (4, .int (nI (sid c r b i))), (0, .ref mo), (1, .int (nI b)), (2, .int (zb z)), (3, .int (nI i))]) hx hb dX9_goesRound_35 hl (by decide) rfl (fun ls hl => ?_)
        have L37 : ∀ (n37 : Nat), ∀ (j : Nat) (y : Bool), (j ≤ 2) → (j = 0 ∨ tb w (sid c r b i) = false) → (y = (z && andb (bsP (thn c r w) c r (sid c r b i)) j)) → 2 - j < n37 → ∀ (ls : Array Slot), lv_has ls 7 [(0, .ref mo), (1, .int (nI b)), (2, .int (zb y)), (3, .int (nI i)), (4, .int (nI (sid c r b i))), (5, .int (nI j))] → W pG l eG ({ frames := 5, cells := 0, slots := 0, locals := 113 } : Room) sG mG aG bG tG cG sG.heap [] 0 0 (MQ bG (RoQ (some (.int (zb (gor c r w b))))) aG sG 0 0 (fun _ => False)) (F0 mG 37 ls []) := by
          intro n37
          induction n37 with
          | zero =>
            intro j y hj hjh hy hmeas37  ls hl
            exact absurd hmeas37 (Nat.not_lt_zero _)
          | succ n37 ih37 =>
            intro j y hj hjh hy hmeas37  ls hl
            have hl0 : sid c r b i < al c r := sid_lt hC hb0 (by omega)
            refine lv_iload (pc := 37) hx hb dX9_goesRound_37 (lv_at hl 5 rfl) ?_
            refine lv_iconst (pc := 39) (v := nI 2) hx hb dX9_goesRound_39 rfl ?_
            refine n_icmp_ge (pc := 40) (tgt := 96) hx hb (by omega) (by omega) dX9_goesRound_40 (by decide) (fun c40 => ?_) (fun c40 => ?_)
            · have hht : tb w (sid c r b i) = false := by rcases hjh with q | q; omega; exact q
              refine lv_iinc (pc := 96) (v := nI (i + 1)) (lv' := [(3, .int (nI (i + 1))), (0, .ref mo), (1, .int (nI b)), (2, .int (zb y)), (4, .int (nI (sid c r b i))), (5, .int (nI j))]) hx hb dX9_goesRound_96 hl (k := 3) rfl (n_inc i 1) (by decide) rfl (fun ls hl => ?_)
              refine lv_goto (pc := 99) (tgt := 21) hx hb dX9_goesRound_99 (by decide) ?_
              exact ih21 (i + 1) y (by first | assumption | omega) (by rw [gor_s1 hht, ← hz, hy, show j = 2 by omega]) (by omega) _ (lv_sub hl [1, 2, 3, 0] rfl)
            refine lv_aload_n (pc := 43) hx hb dX9_goesRound_43 rfl (lv_at hl 0 rfl) ?_
            refine va_get (pc := 44) (D := D) (ci := 8) (v := .long w) (C := RX9) (T := TX9) (N := 25) hx hb hts hinX9 hown hK.1 hP 0 rfl rfl 3 (by decide) (hts (.fieldLink RX9 119 "BoxesGameModel" "now" "J") (List.mem_of_getElem? (i := 1) rfl)) (fun _ h9 => h9) hf3 dX9_goesRound_44 ?_
            refine lv_iload (pc := 47) hx hb dX9_goesRound_47 (lv_at hl 4 rfl) ?_
            refine ro_go (pc := 49) (va_runS (As := [.long w, .int (nI (sid c r b i))]) (rest := []) ⟨hx, hb, hml, hown, hts⟩ (c_X9_has l D Y w (sid c r b i) (by omega)) (va_cwS 2 hts gX9_goesRound_X9_has rfl rfl rfl hdX9_has ⟨Nat.le_of_ble_eq_true rfl, Nat.le_of_ble_eq_true rfl⟩) (ro_pS hK (hP.sub [] rfl)) rfl rfl hl.1 rfl (lv_room (Nat.le_of_ble_eq_true rfl)) dX9_goesRound_49 ⟨Nat.le_of_ble_eq_true rfl, Nat.le_of_ble_eq_true rfl⟩) ?_
            refine z_if_ne (pc := 52) (tgt := 96) hx hb dX9_goesRound_52 (by decide) (fun c52 => ?_) (fun c52 => ?_)
            · have hj0 : j = 0 := by rcases hjh with q | q; exact q; rw [q] at c52; cases c52
              have hyz : y = z := by rw [hy, hj0]; show (z && true) = z; rw [Bool.and_true]
              refine lv_iinc (pc := 96) (v := nI (i + 1)) (lv' := [(3, .int (nI (i + 1))), (0, .ref mo), (1, .int (nI b)), (2, .int (zb y)), (4, .int (nI (sid c r b i))), (5, .int (nI j))]) hx hb dX9_goesRound_96 hl (k := 3) rfl (n_inc i 1) (by decide) rfl (fun ls hl => ?_)
              refine lv_goto (pc := 99) (tgt := 21) hx hb dX9_goesRound_99 (by decide) ?_
              exact ih21 (i + 1) y (by first | assumption | omega) (by rw [gor_s2 c52, ← hz]; exact hyz) (by omega) _ (lv_sub hl [1, 2, 3, 0] rfl)
            refine lv_aload_n (pc := 55) hx hb dX9_goesRound_55 rfl (lv_at hl 0 rfl) ?_
            refine lv_iload (pc := 56) hx hb dX9_goesRound_56 (lv_at hl 4 rfl) ?_
            refine lv_iload (pc := 58) hx hb dX9_goesRound_58 (lv_at hl 5 rfl) ?_
            refine ro_go (pc := 60) (va_runV (As := [.int (nI (sid c r b i)), .int (nI j)]) (rest := []) ⟨hx, hb, hml, hown, hts⟩ (c_X9_beside l D Y mo c r fs (sid c r b i) j (hf) (hC) (by first | assumption | omega) (by first | assumption | omega)) (cwV 2 hts gX9_goesRound_X9_beside rfl rfl rfl ⟨rfl, hdX9_beside⟩ ⟨Nat.le_of_ble_eq_true rfl, Nat.le_of_ble_eq_true rfl⟩) (ro_pV hK hP (ro_recv hK hP (ci := 8) (q0 := 0) rfl rfl)) rfl rfl hl.1 rfl (lv_room (Nat.le_of_ble_eq_true rfl)) dX9_goesRound_60 ⟨Nat.le_of_ble_eq_true rfl, Nat.le_of_ble_eq_true rfl⟩) ?_
            refine lv_topi (fun x60 ex60 => ?_)
            refine lv_istore (pc := 63) (lv' := [(6, .int x60), (0, .ref mo), (1, .int (nI b)), (2, .int (zb y)), (3, .int (nI i)), (4, .int (nI (sid c r b i))), (5, .int (nI j))]) hx hb dX9_goesRound_63 hl (by decide) rfl (fun ls hl => ?_)
            refine lv_iload_n (pc := 65) hx hb dX9_goesRound_65 rfl (lv_at hl 3 rfl) ?_
            refine z_if_eq (pc := 66) (tgt := 88) hx hb dX9_goesRound_66 (by decide) (fun c66 => ?_) (fun c66 => ?_)
            · refine lv_iconst (pc := 88) (v := nI 0) hx hb dX9_goesRound_88 rfl ?_
              refine lv_istore_n (pc := 89) (lv' := [(2, .int (nI 0)), (6, .int x60), (0, .ref mo), (1, .int (nI b)), (3, .int (nI i)), (4, .int (nI (sid c r b i))), (5, .int (nI j))]) hx hb dX9_goesRound_89 rfl hl (by decide) rfl (fun ls hl => ?_)
              refine lv_iinc (pc := 90) (v := nI (j + 1)) (lv' := [(5, .int (nI (j + 1))), (2, .int (nI 0)), (6, .int x60), (0, .ref mo), (1, .int (nI b)), (3, .int (nI i)), (4, .int (nI (sid c r b i)))]) hx hb dX9_goesRound_90 hl (k := 6) rfl (n_inc j 1) (by decide) rfl (fun ls hl => ?_)
              refine lv_goto (pc := 93) (tgt := 37) hx hb dX9_goesRound_93 (by decide) ?_
              exact ih37 (j + 1) false (by first | assumption | omega) (Or.inr c52) (by rw [andb, ← Bool.and_assoc, ← hy, c66]; rfl) (by omega) _ (lv_sub hl [3, 4, 1, 5, 6, 0] rfl)
            refine lv_iload (pc := 69) hx hb dX9_goesRound_69 (lv_at hl 0 rfl) ?_
            refine lv_iconst (pc := 71) (v := (-1)) hx hb dX9_goesRound_71 (by decide) ?_
            refine lv_icmp_eq (pc := 72) (tgt := 88) hx hb dX9_goesRound_72 (by decide) (fun c72 => ?_) (fun c72 => ?_)
            · have hbn := oI_none ex60 c72 (fun b h => by have := bes_lt hC hl0 h; omega)
              refine lv_iconst (pc := 88) (v := nI 0) hx hb dX9_goesRound_88 rfl ?_
              refine lv_istore_n (pc := 89) (lv' := [(2, .int (nI 0)), (6, .int x60), (0, .ref mo), (1, .int (nI b)), (3, .int (nI i)), (4, .int (nI (sid c r b i))), (5, .int (nI j))]) hx hb dX9_goesRound_89 rfl hl (by decide) rfl (fun ls hl => ?_)
              refine lv_iinc (pc := 90) (v := nI (j + 1)) (lv' := [(5, .int (nI (j + 1))), (2, .int (nI 0)), (6, .int x60), (0, .ref mo), (1, .int (nI b)), (3, .int (nI i)), (4, .int (nI (sid c r b i)))]) hx hb dX9_goesRound_90 hl (k := 6) rfl (n_inc j 1) (by decide) rfl (fun ls hl => ?_)
              refine lv_goto (pc := 93) (tgt := 37) hx hb dX9_goesRound_93 (by decide) ?_
              exact ih37 (j + 1) false (by first | assumption | omega) (Or.inr c52) (by rw [andb, ← Bool.and_assoc, ← hy, c66, bsP_n hbn]; rfl) (by omega) _ (lv_sub hl [3, 4, 1, 5, 6, 0] rfl)
            obtain ⟨bb, hbb, rfl⟩ := oI_some ex60 c72
            have hl : lv_has ls 7 [(6, .int (nI bb)), (0, .ref mo), (1, .int (nI b)), (2, .int (zb y)), (3, .int (nI i)), (4, .int (nI (sid c r b i))), (5, .int (nI j))] := hl
            refine lv_aload_n (pc := 75) hx hb dX9_goesRound_75 rfl (lv_at hl 1 rfl) ?_
            refine lv_iload (pc := 76) hx hb dX9_goesRound_76 (lv_at hl 0 rfl) ?_
            refine ro_go (pc := 78) (va_runV (As := [.int (nI bb)]) (rest := []) ⟨hx, hb, hml, hown, hts⟩ (c_X9_isThin l D Y mo c r fs w bb (hf) (hC) (hf3) (bes_lt hC hl0 hbb)) (cwV 1 hts gX9_goesRound_X9_isThin rfl rfl rfl ⟨rfl, hdX9_isThin⟩ ⟨Nat.le_of_ble_eq_true rfl, Nat.le_of_ble_eq_true rfl⟩) (ro_pV hK hP (ro_recv hK hP (ci := 8) (q0 := 0) rfl rfl)) rfl rfl hl.1 rfl (lv_room (Nat.le_of_ble_eq_true rfl)) dX9_goesRound_78 ⟨Nat.le_of_ble_eq_true rfl, Nat.le_of_ble_eq_true rfl⟩) ?_
            refine z_if_eq (pc := 81) (tgt := 88) hx hb dX9_goesRound_81 (by decide) (fun c81 => ?_) (fun c81 => ?_)
            · refine lv_iconst (pc := 88) (v := nI 0) hx hb dX9_goesRound_88 rfl ?_
              refine lv_istore_n (pc := 89) (lv' := [(2, .int (nI 0)), (6, .int (nI bb)), (0, .ref mo), (1, .int (nI b)), (3, .int (nI i)), (4, .int (nI (sid c r b i))), (5, .int (nI j))]) hx hb dX9_goesRound_89 rfl hl (by decide) rfl (fun ls hl => ?_)
              refine lv_iinc (pc := 90) (v := nI (j + 1)) (lv' := [(5, .int (nI (j + 1))), (2, .int (nI 0)), (6, .int (nI bb)), (0, .ref mo), (1, .int (nI b)), (3, .int (nI i)), (4, .int (nI (sid c r b i)))]) hx hb dX9_goesRound_90 hl (k := 6) rfl (n_inc j 1) (by decide) rfl (fun ls hl => ?_)
              refine lv_goto (pc := 93) (tgt := 37) hx hb dX9_goesRound_93 (by decide) ?_
              exact ih37 (j + 1) false (by first | assumption | omega) (Or.inr c52) (by rw [andb, ← Bool.and_assoc, ← hy, c66, bsP_s hbb, c81]; rfl) (by omega) _ (lv_sub hl [3, 4, 1, 5, 6, 0] rfl)
            refine lv_iconst (pc := 84) (v := nI 1) hx hb dX9_goesRound_84 rfl ?_
            refine lv_goto (pc := 85) (tgt := 89) hx hb dX9_goesRound_85 (by decide) ?_
            refine lv_istore_n (pc := 89) (lv' := [(2, .int (nI 1)), (6, .int (nI bb)), (0, .ref mo), (1, .int (nI b)), (3, .int (nI i)), (4, .int (nI (sid c r b i))), (5, .int (nI j))]) hx hb dX9_goesRound_89 rfl hl (by decide) rfl (fun ls hl => ?_)
            refine lv_iinc (pc := 90) (v := nI (j + 1)) (lv' := [(5, .int (nI (j + 1))), (2, .int (nI 1)), (6, .int (nI bb)), (0, .ref mo), (1, .int (nI b)), (3, .int (nI i)), (4, .int (nI (sid c r b i)))]) hx hb dX9_goesRound_90 hl (k := 6) rfl (n_inc j 1) (by decide) rfl (fun ls hl => ?_)
            refine lv_goto (pc := 93) (tgt := 37) hx hb dX9_goesRound_93 (by decide) ?_
            exact ih37 (j + 1) true (by first | assumption | omega) (Or.inr c52) (by rw [andb, ← Bool.and_assoc, ← hy, c66, bsP_s hbb, c81]; rfl) (by omega) _ (lv_sub hl [3, 4, 1, 5, 6, 0] rfl)
        exact L37 ((2 - 0) + 1) 0 z (by first | assumption | omega) (Or.inl rfl) (by rw [show andb (bsP (thn c r w) c r (sid c r b i)) 0 = true from rfl, Bool.and_true]) (Nat.lt_succ_self _) _ (lv_sub hl [2, 3, 4, 5, 1, 0] rfl)
    exact L21 ((4 - 0) + 1) 0 false (by first | assumption | omega) (by rw [decide_eq_false c10]; rfl) (Nat.lt_succ_self _) _ (lv_sub hl [2, 3, 1, 0] rfl)
  refine lv_iconst (pc := 13) (v := nI 1) hx hb dX9_goesRound_13 rfl ?_
  refine lv_goto (pc := 14) (tgt := 18) hx hb dX9_goesRound_14 (by decide) ?_
  refine lv_istore_n (pc := 18) (lv' := [(2, .int (nI 1)), (0, .ref mo), (1, .int (nI b))]) hx hb dX9_goesRound_18 rfl hl (by decide) rfl (fun ls hl => ?_)
  refine lv_iconst (pc := 19) (v := nI 0) hx hb dX9_goesRound_19 rfl ?_
  refine lv_istore_n (pc := 20) (lv' := [(3, .int (nI 0)), (2, .int (nI 1)), (0, .ref mo), (1, .int (nI b))]) hx hb dX9_goesRound_20 rfl hl (by decide) rfl (fun ls hl => ?_)
  have L21 : ∀ (n21 : Nat), ∀ (i : Nat) (z : Bool), (i ≤ 4) → (z = (decide (opn c r w b = 2) && andb (gorP c r w b) i)) → 4 - i < n21 → ∀ (ls : Array Slot), lv_has ls 7 [(0, .ref mo), (1, .int (nI b)), (2, .int (zb z)), (3, .int (nI i))] → W pG l eG ({ frames := 5, cells := 0, slots := 0, locals := 113 } : Room) sG mG aG bG tG cG sG.heap [] 0 0 (MQ bG (RoQ (some (.int (zb (gor c r w b))))) aG sG 0 0 (fun _ => False)) (F0 mG 21 ls []) := by
    intro n21
    induction n21 with
    | zero =>
      intro i z hi hz hmeas21  ls hl
      exact absurd hmeas21 (Nat.not_lt_zero _)
    | succ n21 ih21 =>
      intro i z hi hz hmeas21  ls hl
      refine lv_iload_n (pc := 21) hx hb dX9_goesRound_21 rfl (lv_at hl 3 rfl) ?_
      refine lv_iconst (pc := 22) (v := nI 4) hx hb dX9_goesRound_22 rfl ?_
      refine n_icmp_ge (pc := 23) (tgt := 102) hx hb (by omega) (by omega) dX9_goesRound_23 (by decide) (fun c23 => ?_) (fun c23 => ?_)
      · refine lv_iload_n (pc := 102) hx hb dX9_goesRound_102 rfl (lv_at hl 2 rfl) ?_
        exact ro_zret hx hb hr hlocks (by rw [hz, show i = 4 by omega]; rfl) dX9_goesRound_103
      refine lv_aload_n (pc := 26) hx hb dX9_goesRound_26 rfl (lv_at hl 0 rfl) ?_
      refine lv_iload_n (pc := 27) hx hb dX9_goesRound_27 rfl (lv_at hl 1 rfl) ?_
      refine lv_iload_n (pc := 28) hx hb dX9_goesRound_28 rfl (lv_at hl 3 rfl) ?_
      refine ro_go (pc := 29) (va_runV (As := [.int (nI b), .int (nI i)]) (rest := []) ⟨hx, hb, hml, hown, hts⟩ (c_X9_sideOf l D Y mo c r fs b i (hf) (hC) (hb0) (by first | assumption | omega)) (cwV 2 hts gX9_goesRound_X9_sideOf rfl rfl rfl ⟨rfl, hdX9_sideOf⟩ ⟨Nat.le_of_ble_eq_true rfl, Nat.le_of_ble_eq_true rfl⟩) (ro_pV hK hP (ro_recv hK hP (ci := 8) (q0 := 0) rfl rfl)) rfl rfl hl.1 rfl (lv_room (Nat.le_of_ble_eq_true rfl)) dX9_goesRound_29 ⟨Nat.le_of_ble_eq_true rfl, Nat.le_of_ble_eq_true rfl⟩) ?_
      refine lv_istore (pc := 32) (lv' := [(4, .int (nI (sid c r b i))), (0, .ref mo), (1, .int (nI b)), (2, .int (zb z)), (3, .int (nI i))]) hx hb dX9_goesRound_32 hl (by decide) rfl (fun ls hl => ?_)
      refine lv_iconst (pc := 34) (v := nI 0) hx hb dX9_goesRound_34 rfl ?_
      refine lv_istore (pc := 35) (lv' := [(5, .int (nI 0)), (4, .int (nI (sid c r b i))), (0, .ref mo), (1, .int (nI b)), (2, .int (zb z)), (3, .int (nI i))]) hx hb dX9_goesRound_35 hl (by decide) rfl (fun ls hl => ?_)
      have L37 : ∀ (n37 : Nat), ∀ (j : Nat) (y : Bool), (j ≤ 2) → (j = 0 ∨ tb w (sid c r b i) = false) → (y = (z && andb (bsP (thn c r w) c r (sid c r b i)) j)) → 2 - j < n37 → ∀ (ls : Array Slot), lv_has ls 7 [(0, .ref mo), (1, .int (nI b)), (2, .int (zb y)), (3, .int (nI i)), (4, .int (nI (sid c r b i))), (5, .int (nI j))] → W pG l eG ({ frames := 5, cells := 0, slots := 0, locals := 113 } : Room) sG mG aG bG tG cG sG.heap [] 0 0 (MQ bG (RoQ (some (.int (zb (gor c r w b))))) aG sG 0 0 (fun _ => False)) (F0 mG 37 ls []) := by
        intro n37
        induction n37 with
        | zero =>
          intro j y hj hjh hy hmeas37  ls hl
          exact absurd hmeas37 (Nat.not_lt_zero _)
        | succ n37 ih37 =>
          intro j y hj hjh hy hmeas37  ls hl
          have hl0 : sid c r b i < al c r := sid_lt hC hb0 (by omega)
          refine lv_iload (pc := 37) hx hb dX9_goesRound_37 (lv_at hl 5 rfl) ?_
          refine lv_iconst (pc := 39) (v := nI 2) hx hb dX9_goesRound_39 rfl ?_
          refine n_icmp_ge (pc := 40) (tgt := 96) hx hb (by omega) (by omega) dX9_goesRound_40 (by decide) (fun c40 => ?_) (fun c40 => ?_)
          · have hht : tb w (sid c r b i) = false := by rcases hjh with q | q; omega; exact q
            refine lv_iinc (pc := 96) (v := nI (i + 1)) (lv' := [(3, .int (nI (i + 1))), (0, .ref mo), (1, .int (nI b)), (2, .int (zb y)), (4, .int (nI (sid c r b i))), (5, .int (nI j))]) hx hb dX9_goesRound_96 hl (k := 3) rfl (n_inc i 1) (by decide) rfl (fun ls hl => ?_)
            refine lv_goto (pc := 99) (tgt := 21) hx hb dX9_goesRound_99 (by decide) ?_
            exact ih21 (i + 1) y (by first | assumption | omega) (by rw [gor_s1 hht, ← hz, hy, show j = 2 by omega]) (by omega) _ (lv_sub hl [1, 2, 3, 0] rfl)
          refine lv_aload_n (pc := 43) hx hb dX9_goesRound_43 rfl (lv_at hl 0 rfl) ?_
          refine va_get (pc := 44) (D := D) (ci := 8) (v := .long w) (C := RX9) (T := TX9) (N := 25) hx hb hts hinX9 hown hK.1 hP 0 rfl rfl 3 (by decide) (hts (.fieldLink RX9 119 "BoxesGameModel" "now" "J") (List.mem_of_getElem? (i := 1) rfl)) (fun _ h9 => h9) hf3 dX9_goesRound_44 ?_
          refine lv_iload (pc := 47) hx hb dX9_goesRound_47 (lv_at hl 4 rfl) ?_
          refine ro_go (pc := 49) (va_runS (As := [.long w, .int (nI (sid c r b i))]) (rest := []) ⟨hx, hb, hml, hown, hts⟩ (c_X9_has l D Y w (sid c r b i) (by omega)) (va_cwS 2 hts gX9_goesRound_X9_has rfl rfl rfl hdX9_has ⟨Nat.le_of_ble_eq_true rfl, Nat.le_of_ble_eq_true rfl⟩) (ro_pS hK (hP.sub [] rfl)) rfl rfl hl.1 rfl (lv_room (Nat.le_of_ble_eq_true rfl)) dX9_goesRound_49 ⟨Nat.le_of_ble_eq_true rfl, Nat.le_of_ble_eq_true rfl⟩) ?_
          refine z_if_ne (pc := 52) (tgt := 96) hx hb dX9_goesRound_52 (by decide) (fun c52 => ?_) (fun c52 => ?_)
          · have hj0 : j = 0 := by rcases hjh with q | q; exact q; rw [q] at c52; cases c52
            have hyz : y = z := by rw [hy, hj0]; show (z && true) = z; rw [Bool.and_true]
            refine lv_iinc (pc := 96) (v := nI (i + 1)) (lv' := [(3, .int (nI (i + 1))), (0, .ref mo), (1, .int (nI b)), (2, .int (zb y)), (4, .int (nI (sid c r b i))), (5, .int (nI j))]) hx hb dX9_goesRound_96 hl (k := 3) rfl (n_inc i 1) (by decide) rfl (fun ls hl => ?_)
            refine lv_goto (pc := 99) (tgt := 21) hx hb dX9_goesRound_99 (by decide) ?_
            exact ih21 (i + 1) y (by first | assumption | omega) (by rw [gor_s2 c52, ← hz]; exact hyz) (by omega) _ (lv_sub hl [1, 2, 3, 0] rfl)
          refine lv_aload_n (pc := 55) hx hb dX9_goesRound_55 rfl (lv_at hl 0 rfl) ?_
          refine lv_iload (pc := 56) hx hb dX9_goesRound_56 (lv_at hl 4 rfl) ?_
          refine lv_iload (pc := 58) hx hb dX9_goesRound_58 (lv_at hl 5 rfl) ?_
          refine ro_go (pc := 60) (va_runV (As := [.int (nI (sid c r b i)), .int (nI j)]) (rest := []) ⟨hx, hb, hml, hown, hts⟩ (c_X9_beside l D Y mo c r fs (sid c r b i) j (hf) (hC) (by first | assumption | omega) (by first | assumption | omega)) (cwV 2 hts gX9_goesRound_X9_beside rfl rfl rfl ⟨rfl, hdX9_beside⟩ ⟨Nat.le_of_ble_eq_true rfl, Nat.le_of_ble_eq_true rfl⟩) (ro_pV hK hP (ro_recv hK hP (ci := 8) (q0 := 0) rfl rfl)) rfl rfl hl.1 rfl (lv_room (Nat.le_of_ble_eq_true rfl)) dX9_goesRound_60 ⟨Nat.le_of_ble_eq_true rfl, Nat.le_of_ble_eq_true rfl⟩) ?_
          refine lv_topi (fun x60 ex60 => ?_)
          refine lv_istore (pc := 63) (lv' := [(6, .int x60), (0, .ref mo), (1, .int (nI b)), (2, .int (zb y)), (3, .int (nI i)), (4, .int (nI (sid c r b i))), (5, .int (nI j))]) hx hb dX9_goesRound_63 hl (by decide) rfl (fun ls hl => ?_)
          refine lv_iload_n (pc := 65) hx hb dX9_goesRound_65 rfl (lv_at hl 3 rfl) ?_
          refine z_if_eq (pc := 66) (tgt := 88) hx hb dX9_goesRound_66 (by decide) (fun c66 => ?_) (fun c66 => ?_)
          · refine lv_iconst (pc := 88) (v := nI 0) hx hb dX9_goesRound_88 rfl ?_
            refine lv_istore_n (pc := 89) (lv' := [(2, .int (nI 0)), (6, .int x60), (0, .ref mo), (1, .int (nI b)), (3, .int (nI i)), (4, .int (nI (sid c r b i))), (5, .int (nI j))]) hx hb dX9_goesRound_89 rfl hl (by decide) rfl (fun ls hl => ?_)
            refine lv_iinc (pc := 90) (v := nI (j + 1)) (lv' := [(5, .int (nI (j + 1))), (2, .int (nI 0)), (6, .int x60), (0, .ref mo), (1, .int (nI b)), (3, .int (nI i)), (4, .int (nI (sid c r b i)))]) hx hb dX9_goesRound_90 hl (k := 6) rfl (n_inc j 1) (by decide) rfl (fun ls hl => ?_)
            refine lv_goto (pc := 93) (tgt := 37) hx hb dX9_goesRound_93 (by decide) ?_
            exact ih37 (j + 1) false (by first | assumption | omega) (Or.inr c52) (by rw [andb, ← Bool.and_assoc, ← hy, c66]; rfl) (by omega) _ (lv_sub hl [3, 4, 1, 5, 6, 0] rfl)
          refine lv_iload (pc := 69) hx hb dX9_goesRound_69 (lv_at hl 0 rfl) ?_
          refine lv_iconst (pc := 71) (v := (-1)) hx hb dX9_goesRound_71 (by decide) ?_
          refine lv_icmp_eq (pc := 72) (tgt := 88) hx hb dX9_goesRound_72 (by decide) (fun c72 => ?_) (fun c72 => ?_)
          · have hbn := oI_none ex60 c72 (fun b h => by have := bes_lt hC hl0 h; omega)
            refine lv_iconst (pc := 88) (v := nI 0) hx hb dX9_goesRound_88 rfl ?_
            refine lv_istore_n (pc := 89) (lv' := [(2, .int (nI 0)), (6, .int x60), (0, .ref mo), (1, .int (nI b)), (3, .int (nI i)), (4, .int (nI (sid c r b i))), (5, .int (nI j))]) hx hb dX9_goesRound_89 rfl hl (by decide) rfl (fun ls hl => ?_)
            refine lv_iinc (pc := 90) (v := nI (j + 1)) (lv' := [(5, .int (nI (j + 1))), (2, .int (nI 0)), (6, .int x60), (0, .ref mo), (1, .int (nI b)), (3, .int (nI i)), (4, .int (nI (sid c r b i)))]) hx hb dX9_goesRound_90 hl (k := 6) rfl (n_inc j 1) (by decide) rfl (fun ls hl => ?_)
            refine lv_goto (pc := 93) (tgt := 37) hx hb dX9_goesRound_93 (by decide) ?_
            exact ih37 (j + 1) false (by first | assumption | omega) (Or.inr c52) (by rw [andb, ← Bool.and_assoc, ← hy, c66, bsP_n hbn]; rfl) (by omega) _ (lv_sub hl [3, 4, 1, 5, 6, 0] rfl)
          obtain ⟨bb, hbb, rfl⟩ := oI_some ex60 c72
          have hl : lv_has ls 7 [(6, .int (nI bb)), (0, .ref mo), (1, .int (nI b)), (2, .int (zb y)), (3, .int (nI i)), (4, .int (nI (sid c r b i))), (5, .int (nI j))] := hl
          refine lv_aload_n (pc := 75) hx hb dX9_goesRound_75 rfl (lv_at hl 1 rfl) ?_
          refine lv_iload (pc := 76) hx hb dX9_goesRound_76 (lv_at hl 0 rfl) ?_
          refine ro_go (pc := 78) (va_runV (As := [.int (nI bb)]) (rest := []) ⟨hx, hb, hml, hown, hts⟩ (c_X9_isThin l D Y mo c r fs w bb (hf) (hC) (hf3) (bes_lt hC hl0 hbb)) (cwV 1 hts gX9_goesRound_X9_isThin rfl rfl rfl ⟨rfl, hdX9_isThin⟩ ⟨Nat.le_of_ble_eq_true rfl, Nat.le_of_ble_eq_true rfl⟩) (ro_pV hK hP (ro_recv hK hP (ci := 8) (q0 := 0) rfl rfl)) rfl rfl hl.1 rfl (lv_room (Nat.le_of_ble_eq_true rfl)) dX9_goesRound_78 ⟨Nat.le_of_ble_eq_true rfl, Nat.le_of_ble_eq_true rfl⟩) ?_
          refine z_if_eq (pc := 81) (tgt := 88) hx hb dX9_goesRound_81 (by decide) (fun c81 => ?_) (fun c81 => ?_)
          · refine lv_iconst (pc := 88) (v := nI 0) hx hb dX9_goesRound_88 rfl ?_
            refine lv_istore_n (pc := 89) (lv' := [(2, .int (nI 0)), (6, .int (nI bb)), (0, .ref mo), (1, .int (nI b)), (3, .int (nI i)), (4, .int (nI (sid c r b i))), (5, .int (nI j))]) hx hb dX9_goesRound_89 rfl hl (by decide) rfl (fun ls hl => ?_)
            refine lv_iinc (pc := 90) (v := nI (j + 1)) (lv' := [(5, .int (nI (j + 1))), (2, .int (nI 0)), (6, .int (nI bb)), (0, .ref mo), (1, .int (nI b)), (3, .int (nI i)), (4, .int (nI (sid c r b i)))]) hx hb dX9_goesRound_90 hl (k := 6) rfl (n_inc j 1) (by decide) rfl (fun ls hl => ?_)
            refine lv_goto (pc := 93) (tgt := 37) hx hb dX9_goesRound_93 (by decide) ?_
            exact ih37 (j + 1) false (by first | assumption | omega) (Or.inr c52) (by rw [andb, ← Bool.and_assoc, ← hy, c66, bsP_s hbb, c81]; rfl) (by omega) _ (lv_sub hl [3, 4, 1, 5, 6, 0] rfl)
          refine lv_iconst (pc := 84) (v := nI 1) hx hb dX9_goesRound_84 rfl ?_
          refine lv_goto (pc := 85) (tgt := 89) hx hb dX9_goesRound_85 (by decide) ?_
          refine lv_istore_n (pc := 89) (lv' := [(2, .int (nI 1)), (6, .int (nI bb)), (0, .ref mo), (1, .int (nI b)), (3, .int (nI i)), (4, .int (nI (sid c r b i))), (5, .int (nI j))]) hx hb dX9_goesRound_89 rfl hl (by decide) rfl (fun ls hl => ?_)
          refine lv_iinc (pc := 90) (v := nI (j + 1)) (lv' := [(5, .int (nI (j + 1))), (2, .int (nI 1)), (6, .int (nI bb)), (0, .ref mo), (1, .int (nI b)), (3, .int (nI i)), (4, .int (nI (sid c r b i)))]) hx hb dX9_goesRound_90 hl (k := 6) rfl (n_inc j 1) (by decide) rfl (fun ls hl => ?_)
          refine lv_goto (pc := 93) (tgt := 37) hx hb dX9_goesRound_93 (by decide) ?_
          exact ih37 (j + 1) true (by first | assumption | omega) (Or.inr c52) (by rw [andb, ← Bool.and_assoc, ← hy, c66, bsP_s hbb, c81]; rfl) (by omega) _ (lv_sub hl [3, 4, 1, 5, 6, 0] rfl)
      exact L37 ((2 - 0) + 1) 0 z (by first | assumption | omega) (Or.inl rfl) (by rw [show andb (bsP (thn c r w) c r (sid c r b i)) 0 = true from rfl, Bool.and_true]) (Nat.lt_succ_self _) _ (lv_sub hl [2, 3, 4, 5, 1, 0] rfl)
  exact L21 ((4 - 0) + 1) 0 true (by first | assumption | omega) (by rw [decide_eq_true c10]; rfl) (Nat.lt_succ_self _) _ (lv_sub hl [2, 3, 1, 0] rfl)

set_option maxHeartbeats 1200000 in
set_option maxRecDepth 100000 in
theorem c_X9_spreads (l : Launch) (D : va_G) (Y : vY) (mo : Nat) (c : Nat) (r : Nat) (fs : List Value) (w : Int64) (aSA : Nat) (n : Nat) (k : Nat) (X : Nat → Bool) (sa : Nat → Int32) (b : Nat) (hf : MF c r fs) (hC : Cr c r) (hf3 : fs[3]? = some (.long w)) (hf12 : fs[12]? = some (.ref aSA)) (hb0 : b < c * r) (hk16 : k ≤ 16) (hnu : NuX c r w n X k sa) (hXs : ∀ a, a < c * r → X a = true → thn c r w a = true ∧ rep c r w a = n) (hXb : X b = true) : Mu l yX9_spreads wsX9_spreads ({ frames := 5, cells := 0, slots := 0, locals := 113 } : Room) [.ref mo, .int (nI b)] D Y [(mo, .inr (8, fs)), (aSA, .inl (Y.1, 16, .inl sa))] (fun uS : (Nat → Int32) × (Nat → Bool) × Bool => some (.int (zb uS.2.2))) (fun uS : (Nat → Int32) × (Nat → Bool) × Bool => [(mo, .inr (8, fs)), (aSA, .inl (Y.1, 16, .inl uS.1))]) (fun uS : (Nat → Int32) × (Nat → Bool) × Bool => SpX c r w n k X uS.2.1 uS.1 uS.2.2 ∧ ∀ y, Adj c r w b y → uS.2.1 y = true) := by
  refine mu_intro (by decide +kernel) rfl (Nat.le_of_ble_eq_true rfl) [(0, .ref mo), (1, .int (nI b))] rfl ?_
  intro pG eG sG mG aG bG tG cG ls hx hb hr hml hts hown hlocks hK hP hD hS hl
  generalize hAA : adA [(mo, .inr (8, fs)), (aSA, .inl (Y.1, 16, .inl sa))] = AA at hD hS ⊢
  have hP : va_P D vwCl [(mo, .inr (8, fs)), (aSA, .inl (Y.1, 16, .inl sa))] sG.heap := hP
  have hD : va_D AA [(mo, .inr (8, fs)), (aSA, .inl (Y.1, 16, .inl sa))] := hD
  have hown : sG.vm.findClass RX9 = some mG.cls := hown
  have hl : lv_has ls 7 [(0, .ref mo), (1, .int (nI b))] := hl
  have hinX9 : ∀ w ∈ u_ws RX9 TX9 25, w ∈ wsX9_spreads := by decide +kernel
  have hS : va_S AA sG.heap sG.heap [] := hS
  obtain ⟨hq1, hq2, hq3, hq4, hq5, hq6, hq7, hq8, hq9, hq10, hq11⟩ := hC.q
  obtain ⟨htb, hrb⟩ := hXs b hb0 hXb
  refine lv_iconst (pc := 0) (v := zb false) hx hb dX9_spreads_0 rfl ?_
  refine lv_istore_n (pc := 1) (lv' := [(2, .int (zb false)), (0, .ref mo), (1, .int (nI b))]) hx hb dX9_spreads_1 rfl hl (by decide) rfl (fun ls hl => ?_)
  refine lv_iconst (pc := 2) (v := nI 0) hx hb dX9_spreads_2 rfl ?_
  refine lv_istore_n (pc := 3) (lv' := [(3, .int (nI 0)), (2, .int (zb false)), (0, .ref mo), (1, .int (nI b))]) hx hb dX9_spreads_3 rfl hl (by decide) rfl (fun ls hl => ?_)
  have L4 : ∀ (n4 : Nat), ∀ (i : Nat) (z : Bool) (V : Nat → Bool) (sv : Nat → Int32), (i ≤ 4) → (SpX c r w n k X V sv z) → (CvX c r w b V i) → 4 - i < n4 → ∀ (H : Heap) (locs : List Loc), va_P D vwCl [(mo, .inr (8, fs)), (aSA, .inl (Y.1, 16, .inl sv))] H → va_D AA [(mo, .inr (8, fs)), (aSA, .inl (Y.1, 16, .inl sv))] → va_S AA sG.heap H locs → ∀ (ls : Array Slot), lv_has ls 7 [(0, .ref mo), (1, .int (nI b)), (2, .int (zb z)), (3, .int (nI i))] → W pG l eG ({ frames := 5, cells := 0, slots := 0, locals := 113 } : Room) sG mG aG bG tG cG H locs 0 0 (MQ bG (MuQ D [(mo, .inr (8, fs)), (aSA, .inl (Y.1, 16, .inl sa))] (fun uS : (Nat → Int32) × (Nat → Bool) × Bool => some (.int (zb uS.2.2))) (fun uS : (Nat → Int32) × (Nat → Bool) × Bool => [(mo, .inr (8, fs)), (aSA, .inl (Y.1, 16, .inl uS.1))]) (fun uS : (Nat → Int32) × (Nat → Bool) × Bool => SpX c r w n k X uS.2.1 uS.1 uS.2.2 ∧ ∀ y, Adj c r w b y → uS.2.1 y = true)) aG sG 0 0 AA) (F0 mG 4 ls []) := by
    intro n4
    induction n4 with
    | zero =>
      intro i z V sv hi hsp hcv hmeas4 H locs hP hD hS ls hl
      exact absurd hmeas4 (Nat.not_lt_zero _)
    | succ n4 ih4 =>
      intro i z V sv hi hsp hcv hmeas4 H locs hP hD hS ls hl
      refine lv_iload_n (pc := 4) hx hb dX9_spreads_4 rfl (lv_at hl 3 rfl) ?_
      refine lv_iconst (pc := 5) (v := nI 4) hx hb dX9_spreads_5 rfl ?_
      refine n_icmp_ge (pc := 6) (tgt := 101) hx hb (by omega) (by omega) dX9_spreads_6 (by decide) (fun c6 => ?_) (fun c6 => ?_)
      · refine lv_iload_n (pc := 101) hx hb dX9_spreads_101 rfl (lv_at hl 2 rfl) ?_
        subst hAA
        exact mu_zret hx hb hr hlocks hP hS (⟨sv, V, z⟩) (rfl) (rfl) (⟨hsp, CvX.all (by rw [show (4 : Nat) = i by omega]; exact hcv)⟩) (rfl) dX9_spreads_102
      refine lv_aload_n (pc := 9) hx hb dX9_spreads_9 rfl (lv_at hl 0 rfl) ?_
      refine lv_iload_n (pc := 10) hx hb dX9_spreads_10 rfl (lv_at hl 1 rfl) ?_
      refine lv_iload_n (pc := 11) hx hb dX9_spreads_11 rfl (lv_at hl 3 rfl) ?_
      refine ro_go (pc := 12) (va_runV (As := [.int (nI b), .int (nI i)]) (rest := []) ⟨hx, hb, hml, hown, hts⟩ (c_X9_sideOf l D Y mo c r fs b i (hf) (hC) (hb0) (by first | assumption | omega)) (cwV 2 hts gX9_spreads_X9_sideOf rfl rfl rfl ⟨rfl, hdX9_sideOf⟩ ⟨Nat.le_of_ble_eq_true rfl, Nat.le_of_ble_eq_true rfl⟩) (ro_pV hK (hP.sub [0] rfl) (ro_recv hK hP (ci := 8) (q0 := 0) rfl rfl)) rfl rfl hl.1 rfl (lv_room (Nat.le_of_ble_eq_true rfl)) dX9_spreads_12 ⟨Nat.le_of_ble_eq_true rfl, Nat.le_of_ble_eq_true rfl⟩) ?_
      refine lv_istore (pc := 15) (lv' := [(4, .int (nI (sid c r b i))), (0, .ref mo), (1, .int (nI b)), (2, .int (zb z)), (3, .int (nI i))]) hx hb dX9_spreads_15 hl (by decide) rfl (fun ls hl => ?_)
      refine lv_iconst (pc := 17) (v := nI 0) hx hb dX9_spreads_17 rfl ?_
      refine lv_istore (pc := 18) (lv' := [(5, .int (nI 0)), (4, .int (nI (sid c r b i))), (0, .ref mo), (1, .int (nI b)), (2, .int (zb z)), (3, .int (nI i))]) hx hb dX9_spreads_18 hl (by decide) rfl (fun ls hl => ?_)
      have L20 : ∀ (n20 : Nat), ∀ (j : Nat) (y : Bool) (U : Nat → Bool) (su : Nat → Int32), (j ≤ 2) → (SpX c r w n k X U su y) → (CvX c r w b U i) → (CvT c r w (sid c r b i) U j) → 2 - j < n20 → ∀ (H : Heap) (locs : List Loc), va_P D vwCl [(mo, .inr (8, fs)), (aSA, .inl (Y.1, 16, .inl su))] H → va_D AA [(mo, .inr (8, fs)), (aSA, .inl (Y.1, 16, .inl su))] → va_S AA sG.heap H locs → ∀ (ls : Array Slot), lv_has ls 7 [(0, .ref mo), (1, .int (nI b)), (2, .int (zb y)), (3, .int (nI i)), (4, .int (nI (sid c r b i))), (5, .int (nI j))] → W pG l eG ({ frames := 5, cells := 0, slots := 0, locals := 113 } : Room) sG mG aG bG tG cG H locs 0 0 (MQ bG (MuQ D [(mo, .inr (8, fs)), (aSA, .inl (Y.1, 16, .inl sa))] (fun uS : (Nat → Int32) × (Nat → Bool) × Bool => some (.int (zb uS.2.2))) (fun uS : (Nat → Int32) × (Nat → Bool) × Bool => [(mo, .inr (8, fs)), (aSA, .inl (Y.1, 16, .inl uS.1))]) (fun uS : (Nat → Int32) × (Nat → Bool) × Bool => SpX c r w n k X uS.2.1 uS.1 uS.2.2 ∧ ∀ y, Adj c r w b y → uS.2.1 y = true)) aG sG 0 0 AA) (F0 mG 20 ls []) := by
        intro n20
        induction n20 with
        | zero =>
          intro j y U su hj hsq hcw hct hmeas20 H locs hP hD hS ls hl
          exact absurd hmeas20 (Nat.not_lt_zero _)
        | succ n20 ih20 =>
          intro j y U su hj hsq hcw hct hmeas20 H locs hP hD hS ls hl
          have hl0 : sid c r b i < al c r := sid_lt hC hb0 (by omega)
          have hisd : isd c r b (sid c r b i) = true := sid_isd (by omega)
          refine lv_iload (pc := 20) hx hb dX9_spreads_20 (lv_at hl 5 rfl) ?_
          refine lv_iconst (pc := 22) (v := nI 2) hx hb dX9_spreads_22 rfl ?_
          refine n_icmp_ge (pc := 23) (tgt := 95) hx hb (by omega) (by omega) dX9_spreads_23 (by decide) (fun c23 => ?_) (fun c23 => ?_)
          · refine lv_iinc (pc := 95) (v := nI (i + 1)) (lv' := [(3, .int (nI (i + 1))), (0, .ref mo), (1, .int (nI b)), (2, .int (zb y)), (4, .int (nI (sid c r b i))), (5, .int (nI j))]) hx hb dX9_spreads_95 hl (k := 3) rfl (n_inc i 1) (by decide) rfl (fun ls hl => ?_)
            refine lv_goto (pc := 98) (tgt := 4) hx hb dX9_spreads_98 (by decide) ?_
            exact ih4 (i + 1) y U su (by first | assumption | omega) (hsq) (hcw.s1 hC hb0 (by omega) (by rw [show (2 : Nat) = j by omega]; exact hct)) (by omega) _ _ hP hD hS _ (lv_sub hl [1, 2, 3, 0] rfl)
          refine lv_aload_n (pc := 26) hx hb dX9_spreads_26 rfl (lv_at hl 0 rfl) ?_
          refine va_get (pc := 27) (D := D) (ci := 8) (v := .long w) (C := RX9) (T := TX9) (N := 25) hx hb hts hinX9 hown hK.1 hP 0 rfl rfl 3 (by decide) (hts (.fieldLink RX9 119 "BoxesGameModel" "now" "J") (List.mem_of_getElem? (i := 1) rfl)) (fun _ h9 => h9) hf3 dX9_spreads_27 ?_
          refine lv_iload (pc := 30) hx hb dX9_spreads_30 (lv_at hl 4 rfl) ?_
          refine ro_go (pc := 32) (va_runS (As := [.long w, .int (nI (sid c r b i))]) (rest := []) ⟨hx, hb, hml, hown, hts⟩ (c_X9_has l D Y w (sid c r b i) (by omega)) (va_cwS 2 hts gX9_spreads_X9_has rfl rfl rfl hdX9_has ⟨Nat.le_of_ble_eq_true rfl, Nat.le_of_ble_eq_true rfl⟩) (ro_pS hK (hP.sub [] rfl)) rfl rfl hl.1 rfl (lv_room (Nat.le_of_ble_eq_true rfl)) dX9_spreads_32 ⟨Nat.le_of_ble_eq_true rfl, Nat.le_of_ble_eq_true rfl⟩) ?_
          refine z_if_ne (pc := 35) (tgt := 95) hx hb dX9_spreads_35 (by decide) (fun c35 => ?_) (fun c35 => ?_)
          · refine lv_iinc (pc := 95) (v := nI (i + 1)) (lv' := [(3, .int (nI (i + 1))), (0, .ref mo), (1, .int (nI b)), (2, .int (zb y)), (4, .int (nI (sid c r b i))), (5, .int (nI j))]) hx hb dX9_spreads_95 hl (k := 3) rfl (n_inc i 1) (by decide) rfl (fun ls hl => ?_)
            refine lv_goto (pc := 98) (tgt := 4) hx hb dX9_spreads_98 (by decide) ?_
            exact ih4 (i + 1) y U su (by first | assumption | omega) (hsq) (hcw.s2 c35) (by omega) _ _ hP hD hS _ (lv_sub hl [1, 2, 3, 0] rfl)
          refine lv_aload_n (pc := 38) hx hb dX9_spreads_38 rfl (lv_at hl 0 rfl) ?_
          refine lv_iload (pc := 39) hx hb dX9_spreads_39 (lv_at hl 4 rfl) ?_
          refine lv_iload (pc := 41) hx hb dX9_spreads_41 (lv_at hl 5 rfl) ?_
          refine ro_go (pc := 43) (va_runV (As := [.int (nI (sid c r b i)), .int (nI j)]) (rest := []) ⟨hx, hb, hml, hown, hts⟩ (c_X9_beside l D Y mo c r fs (sid c r b i) j (hf) (hC) (by first | assumption | omega) (by first | assumption | omega)) (cwV 2 hts gX9_spreads_X9_beside rfl rfl rfl ⟨rfl, hdX9_beside⟩ ⟨Nat.le_of_ble_eq_true rfl, Nat.le_of_ble_eq_true rfl⟩) (ro_pV hK (hP.sub [0] rfl) (ro_recv hK hP (ci := 8) (q0 := 0) rfl rfl)) rfl rfl hl.1 rfl (lv_room (Nat.le_of_ble_eq_true rfl)) dX9_spreads_43 ⟨Nat.le_of_ble_eq_true rfl, Nat.le_of_ble_eq_true rfl⟩) ?_
          refine lv_topi (fun x43 ex43 => ?_)
          refine lv_istore (pc := 46) (lv' := [(6, .int x43), (0, .ref mo), (1, .int (nI b)), (2, .int (zb y)), (3, .int (nI i)), (4, .int (nI (sid c r b i))), (5, .int (nI j))]) hx hb dX9_spreads_46 hl (by decide) rfl (fun ls hl => ?_)
          refine lv_iload (pc := 48) hx hb dX9_spreads_48 (lv_at hl 0 rfl) ?_
          refine lv_iconst (pc := 50) (v := (-1)) hx hb dX9_spreads_50 (by decide) ?_
          refine lv_icmp_eq (pc := 51) (tgt := 89) hx hb dX9_spreads_51 (by decide) (fun c51 => ?_) (fun c51 => ?_)
          · have hbn := oI_none ex43 c51 (fun b h => by have := bes_lt hC hl0 h; omega)
            refine lv_iinc (pc := 89) (v := nI (j + 1)) (lv' := [(5, .int (nI (j + 1))), (6, .int x43), (0, .ref mo), (1, .int (nI b)), (2, .int (zb y)), (3, .int (nI i)), (4, .int (nI (sid c r b i)))]) hx hb dX9_spreads_89 hl (k := 6) rfl (n_inc j 1) (by decide) rfl (fun ls hl => ?_)
            refine lv_goto (pc := 92) (tgt := 20) hx hb dX9_spreads_92 (by decide) ?_
            exact ih20 (j + 1) y U su (by first | assumption | omega) (hsq) (hcw) (lt_s hct (fun y h => by rw [hbn] at h; cases h)) (by omega) _ _ hP hD hS _ (lv_sub hl [2, 3, 4, 5, 6, 0] rfl)
          obtain ⟨bb, hbb, rfl⟩ := oI_some ex43 c51
          have hbbl := bes_lt hC hl0 hbb
          have hl : lv_has ls 7 [(6, .int (nI bb)), (0, .ref mo), (1, .int (nI b)), (2, .int (zb y)), (3, .int (nI i)), (4, .int (nI (sid c r b i))), (5, .int (nI j))] := hl
          refine lv_aload_n (pc := 54) hx hb dX9_spreads_54 rfl (lv_at hl 1 rfl) ?_
          refine lv_iload (pc := 55) hx hb dX9_spreads_55 (lv_at hl 0 rfl) ?_
          refine ro_go (pc := 57) (va_runV (As := [.int (nI bb)]) (rest := []) ⟨hx, hb, hml, hown, hts⟩ (c_X9_isThin l D Y mo c r fs w bb (hf) (hC) (hf3) (hbbl)) (cwV 1 hts gX9_spreads_X9_isThin rfl rfl rfl ⟨rfl, hdX9_isThin⟩ ⟨Nat.le_of_ble_eq_true rfl, Nat.le_of_ble_eq_true rfl⟩) (ro_pV hK (hP.sub [0] rfl) (ro_recv hK hP (ci := 8) (q0 := 0) rfl rfl)) rfl rfl hl.1 rfl (lv_room (Nat.le_of_ble_eq_true rfl)) dX9_spreads_57 ⟨Nat.le_of_ble_eq_true rfl, Nat.le_of_ble_eq_true rfl⟩) ?_
          refine z_if_eq (pc := 60) (tgt := 89) hx hb dX9_spreads_60 (by decide) (fun c60 => ?_) (fun c60 => ?_)
          · refine lv_iinc (pc := 89) (v := nI (j + 1)) (lv' := [(5, .int (nI (j + 1))), (6, .int (nI bb)), (0, .ref mo), (1, .int (nI b)), (2, .int (zb y)), (3, .int (nI i)), (4, .int (nI (sid c r b i)))]) hx hb dX9_spreads_89 hl (k := 6) rfl (n_inc j 1) (by decide) rfl (fun ls hl => ?_)
            refine lv_goto (pc := 92) (tgt := 20) hx hb dX9_spreads_92 (by decide) ?_
            exact ih20 (j + 1) y U su (by first | assumption | omega) (hsq) (hcw) (lt_s hct (fun y h ht => by rw [hbb] at h; cases h; rw [c60] at ht; cases ht)) (by omega) _ _ hP hD hS _ (lv_sub hl [2, 3, 4, 5, 6, 0] rfl)
          have hbi := beside_in hC hb0 htb hrb hisd c35 (by omega) hbb c60
          refine lv_aload_n (pc := 63) hx hb dX9_spreads_63 rfl (lv_at hl 1 rfl) ?_
          refine va_get (pc := 64) (D := D) (ci := 8) (v := .ref aSA) (C := RX9) (T := TX9) (N := 25) hx hb hts hinX9 hown hK.1 hP 0 rfl rfl 12 (by decide) (hts (.fieldLink RX9 29 "BoxesGameModel" "stringAt" "[I") (List.mem_of_getElem? (i := 2) rfl)) (fun _ h9 => h9) hf12 dX9_spreads_64 ?_
          refine lv_iload (pc := 67) hx hb dX9_spreads_67 (lv_at hl 0 rfl) ?_
          refine va_iald (pc := 69) hx hb hK.1 hP 1 0 rfl rfl (vp_in_nI (by omega) (by decide)) dX9_spreads_69 ?_
          refine top_i (show su (nI bb).toNatClampNeg = su bb from by rw [nI_clamp (by omega)]) ?_
          refine lv_iconst (pc := 70) (v := (-1)) hx hb dX9_spreads_70 (by decide) ?_
          refine lv_icmp_ne (pc := 71) (tgt := 89) hx hb dX9_spreads_71 (by decide) (fun c71 => ?_) (fun c71 => ?_)
          · refine lv_iinc (pc := 89) (v := nI (j + 1)) (lv' := [(5, .int (nI (j + 1))), (6, .int (nI bb)), (0, .ref mo), (1, .int (nI b)), (2, .int (zb y)), (3, .int (nI i)), (4, .int (nI (sid c r b i)))]) hx hb dX9_spreads_89 hl (k := 6) rfl (n_inc j 1) (by decide) rfl (fun ls hl => ?_)
            refine lv_goto (pc := 92) (tgt := 20) hx hb dX9_spreads_92 (by decide) ?_
            exact ih20 (j + 1) y U su (by first | assumption | omega) (hsq) (hcw) (lt_s hct (fun y h _ => by rw [hbb] at h; cases h; exact NuX.nf hC hsq.1 hk16 hbi.1 hbi.2 c71)) (by omega) _ _ hP hD hS _ (lv_sub hl [2, 3, 4, 5, 6, 0] rfl)
          have hub := ((hsq.1.free hC hk16 hbi.1).mp c71).1
          refine lv_aload_n (pc := 74) hx hb dX9_spreads_74 rfl (lv_at hl 1 rfl) ?_
          refine va_get (pc := 75) (D := D) (ci := 8) (v := .ref aSA) (C := RX9) (T := TX9) (N := 25) hx hb hts hinX9 hown hK.1 hP 0 rfl rfl 12 (by decide) (hts (.fieldLink RX9 29 "BoxesGameModel" "stringAt" "[I") (List.mem_of_getElem? (i := 2) rfl)) (fun _ h9 => h9) hf12 dX9_spreads_75 ?_
          refine lv_iload (pc := 78) hx hb dX9_spreads_78 (lv_at hl 0 rfl) ?_
          refine lv_aload_n (pc := 80) hx hb dX9_spreads_80 rfl (lv_at hl 1 rfl) ?_
          refine va_get (pc := 81) (D := D) (ci := 8) (v := .ref aSA) (C := RX9) (T := TX9) (N := 25) hx hb hts hinX9 hown hK.1 hP 0 rfl rfl 12 (by decide) (hts (.fieldLink RX9 29 "BoxesGameModel" "stringAt" "[I") (List.mem_of_getElem? (i := 2) rfl)) (fun _ h9 => h9) hf12 dX9_spreads_81 ?_
          refine lv_iload_n (pc := 84) hx hb dX9_spreads_84 rfl (lv_at hl 2 rfl) ?_
          refine va_iald (pc := 85) hx hb hK.1 hP 1 0 rfl rfl (vp_in_nI (by omega) (by decide)) dX9_spreads_85 ?_
          refine top_i (show su (nI b).toNatClampNeg = su b from by rw [nI_clamp (by omega)]) ?_
          refine top_i (show su b = nI k from hsq.1.at hb0 (hsq.2.2.1 _ hXb)) ?_
          refine va_iast (pc := 86) hx hb hK.1 hP hD hS 1 0 rfl rfl (vp_in_nI (by omega) (by decide)) dX9_spreads_86 (fun H locs hP hD hS => ?_)
          rw [nI_clamp (by omega)] at hP hD
          have hP : va_P D vwCl [(mo, .inr (8, fs)), (aSA, .inl (Y.1, 16, .inl (upd su bb (nI k))))] H := hP
          have hD : va_D AA [(mo, .inr (8, fs)), (aSA, .inl (Y.1, 16, .inl (upd su bb (nI k))))] := hD
          refine lv_iconst (pc := 87) (v := zb true) hx hb dX9_spreads_87 rfl ?_
          refine lv_istore_n (pc := 88) (lv' := [(2, .int (zb true)), (6, .int (nI bb)), (0, .ref mo), (1, .int (nI b)), (3, .int (nI i)), (4, .int (nI (sid c r b i))), (5, .int (nI j))]) hx hb dX9_spreads_88 rfl hl (by decide) rfl (fun ls hl => ?_)
          refine lv_iinc (pc := 89) (v := nI (j + 1)) (lv' := [(5, .int (nI (j + 1))), (2, .int (zb true)), (6, .int (nI bb)), (0, .ref mo), (1, .int (nI b)), (3, .int (nI i)), (4, .int (nI (sid c r b i)))]) hx hb dX9_spreads_89 hl (k := 6) rfl (n_inc j 1) (by decide) rfl (fun ls hl => ?_)
          refine lv_goto (pc := 92) (tgt := 20) hx hb dX9_spreads_92 (by decide) ?_
          exact ih20 (j + 1) true (addX U bb) (upd su bb (nI k)) (by first | assumption | omega) (hsq.join hbi.1 hub ⟨c60, hbi.2⟩) (hcw.add) (lt_s hct.add (fun y h _ => by rw [hbb] at h; cases h; exact addX_i)) (by omega) _ _ hP hD hS _ (lv_sub hl [3, 4, 1, 5, 6, 0] rfl)
      exact L20 ((2 - 0) + 1) 0 z V sv (by first | assumption | omega) (hsp) (hcv) (fun m hm => absurd hm (Nat.not_lt_zero _)) (Nat.lt_succ_self _) _ _ hP hD hS _ (lv_sub hl [2, 3, 4, 5, 1, 0] rfl)
  exact L4 ((4 - 0) + 1) 0 false X sa (by first | assumption | omega) (SpX.rf hnu hXs) (fun m hm => absurd hm (Nat.not_lt_zero _)) (Nat.lt_succ_self _) _ _ hP hD hS _ (lv_sub hl [2, 3, 1, 0] rfl)

set_option maxHeartbeats 1200000 in
set_option maxRecDepth 100000 in
theorem c_X9_fillString (l : Launch) (D : va_G) (Y : vY) (mo : Nat) (c : Nat) (r : Nat) (fs : List Value) (w : Int64) (aSA : Nat) (n : Nat) (k : Nat) (X : Nat → Bool) (sa : Nat → Int32) (hf : MF c r fs) (hC : Cr c r) (hf3 : fs[3]? = some (.long w)) (hf12 : fs[12]? = some (.ref aSA)) (hn : n < c * r) (hir : isr c r w n = true) (hkk : k = fb_ct (isr c r w) n) (hnu : NuX c r w n X k sa) (hXs : ∀ a, a < c * r → X a = true → thn c r w a = true ∧ rep c r w a = n) (hXn : X n = true) : Mu l yX9_fillString wsX9_fillString ({ frames := 6, cells := 0, slots := 0, locals := 139 } : Room) [.ref mo, .int (nI k)] D Y [(mo, .inr (8, fs)), (aSA, .inl (Y.1, 16, .inl sa))] (fun uS : Nat → Int32 => none) (fun uS : Nat → Int32 => [(mo, .inr (8, fs)), (aSA, .inl (Y.1, 16, .inl uS))]) (fun uS : Nat → Int32 => NuOK c r w (n + 1) uS) := by
  refine mu_intro (by decide +kernel) rfl (Nat.le_of_ble_eq_true rfl) [(0, .ref mo), (1, .int (nI k))] rfl ?_
  intro pG eG sG mG aG bG tG cG ls hx hb hr hml hts hown hlocks hK hP hD hS hl
  generalize hAA : adA [(mo, .inr (8, fs)), (aSA, .inl (Y.1, 16, .inl sa))] = AA at hD hS ⊢
  have hP : va_P D vwCl [(mo, .inr (8, fs)), (aSA, .inl (Y.1, 16, .inl sa))] sG.heap := hP
  have hD : va_D AA [(mo, .inr (8, fs)), (aSA, .inl (Y.1, 16, .inl sa))] := hD
  have hown : sG.vm.findClass RX9 = some mG.cls := hown
  have hl : lv_has ls 4 [(0, .ref mo), (1, .int (nI k))] := hl
  have hinX9 : ∀ w ∈ u_ws RX9 TX9 25, w ∈ wsX9_fillString := by decide +kernel
  have hS : va_S AA sG.heap sG.heap [] := hS
  obtain ⟨hq1, hq2, hq3, hq4, hq5, hq6, hq7, hq8, hq9, hq10, hq11⟩ := hC.q
  have hklt := isr_lt hn hir
  have hnst := nst_le c r w
  have hk16 : k ≤ 16 := by omega
  refine lv_iconst (pc := 0) (v := zb true) hx hb dX9_fillString_0 rfl ?_
  refine lv_istore_n (pc := 1) (lv' := [(2, .int (zb true)), (0, .ref mo), (1, .int (nI k))]) hx hb dX9_fillString_1 rfl hl (by decide) rfl (fun ls hl => ?_)
  have L2 : ∀ (n2 : Nat), ∀ (z : Bool) (V : Nat → Bool) (sv : Nat → Int32), (NuX c r w n V k sv) → (∀ a, a < c * r → V a = true → thn c r w a = true ∧ rep c r w a = n) → (V n = true) → (z = false → ∀ a x, a < c * r → V a = true → Adj c r w a x → V x = true) → 19 - fb_ct V (c * r) - 1 + zn z < n2 → ∀ (H : Heap) (locs : List Loc), va_P D vwCl [(mo, .inr (8, fs)), (aSA, .inl (Y.1, 16, .inl sv))] H → va_D AA [(mo, .inr (8, fs)), (aSA, .inl (Y.1, 16, .inl sv))] → va_S AA sG.heap H locs → ∀ (ls : Array Slot), lv_has ls 4 [(0, .ref mo), (1, .int (nI k)), (2, .int (zb z))] → W pG l eG ({ frames := 6, cells := 0, slots := 0, locals := 139 } : Room) sG mG aG bG tG cG H locs 0 0 (MQ bG (MuQ D [(mo, .inr (8, fs)), (aSA, .inl (Y.1, 16, .inl sa))] (fun uS : Nat → Int32 => none) (fun uS : Nat → Int32 => [(mo, .inr (8, fs)), (aSA, .inl (Y.1, 16, .inl uS))]) (fun uS : Nat → Int32 => NuOK c r w (n + 1) uS)) aG sG 0 0 AA) (F0 mG 2 ls []) := by
    intro n2
    induction n2 with
    | zero =>
      intro z V sv hsp hVs hVn hcl hmeas2 H locs hP hD hS ls hl
      exact absurd hmeas2 (Nat.not_lt_zero _)
    | succ n2 ih2 =>
      intro z V sv hsp hVs hVn hcl hmeas2 H locs hP hD hS ls hl
      refine lv_iload_n (pc := 2) hx hb dX9_fillString_2 rfl (lv_at hl 2 rfl) ?_
      refine z_if_eq (pc := 3) (tgt := 55) hx hb dX9_fillString_3 (by decide) (fun c3 => ?_) (fun c3 => ?_)
      · subst hAA
        exact mu_vret hx hb hr hlocks hP hS (sv) (rfl) (NuX.ok (by rw [← hkk]; exact hsp) hn hir (cl_full hn hir hVs hVn (hcl c3))) (rfl) dX9_fillString_55
      refine lv_iconst (pc := 6) (v := zb false) hx hb dX9_fillString_6 rfl ?_
      refine lv_istore_n (pc := 7) (lv' := [(2, .int (zb false)), (0, .ref mo), (1, .int (nI k))]) hx hb dX9_fillString_7 rfl hl (by decide) rfl (fun ls hl => ?_)
      refine lv_iconst (pc := 8) (v := nI 0) hx hb dX9_fillString_8 rfl ?_
      refine lv_istore_n (pc := 9) (lv' := [(3, .int (nI 0)), (2, .int (zb false)), (0, .ref mo), (1, .int (nI k))]) hx hb dX9_fillString_9 rfl hl (by decide) rfl (fun ls hl => ?_)
      have L10 : ∀ (n10 : Nat), ∀ (i : Nat) (y : Bool) (U : Nat → Bool) (su : Nat → Int32), (i ≤ c * r) → (SpX c r w n k V U su y) → (y = false → ∀ a, a < i → a < c * r → U a = true → ∀ x, Adj c r w a x → U x = true) → c * r - i < n10 → ∀ (H : Heap) (locs : List Loc), va_P D vwCl [(mo, .inr (8, fs)), (aSA, .inl (Y.1, 16, .inl su))] H → va_D AA [(mo, .inr (8, fs)), (aSA, .inl (Y.1, 16, .inl su))] → va_S AA sG.heap H locs → ∀ (ls : Array Slot), lv_has ls 4 [(0, .ref mo), (1, .int (nI k)), (2, .int (zb y)), (3, .int (nI i))] → W pG l eG ({ frames := 6, cells := 0, slots := 0, locals := 139 } : Room) sG mG aG bG tG cG H locs 0 0 (MQ bG (MuQ D [(mo, .inr (8, fs)), (aSA, .inl (Y.1, 16, .inl sa))] (fun uS : Nat → Int32 => none) (fun uS : Nat → Int32 => [(mo, .inr (8, fs)), (aSA, .inl (Y.1, 16, .inl uS))]) (fun uS : Nat → Int32 => NuOK c r w (n + 1) uS)) aG sG 0 0 AA) (F0 mG 10 ls []) := by
        intro n10
        induction n10 with
        | zero =>
          intro i y U su hi hsq hcu hmeas10 H locs hP hD hS ls hl
          exact absurd hmeas10 (Nat.not_lt_zero _)
        | succ n10 ih10 =>
          intro i y U su hi hsq hcu hmeas10 H locs hP hD hS ls hl
          refine lv_iload_n (pc := 10) hx hb dX9_fillString_10 rfl (lv_at hl 3 rfl) ?_
          refine lv_aload_n (pc := 11) hx hb dX9_fillString_11 rfl (lv_at hl 0 rfl) ?_
          refine ro_go (pc := 12) (va_runV (As := []) (rest := [.int (nI i)]) ⟨hx, hb, hml, hown, hts⟩ (c_X9_boxes l D Y mo c r fs (hf) (hC)) (cwV 0 hts gX9_fillString_X9_boxes rfl rfl rfl ⟨rfl, hdX9_boxes⟩ ⟨Nat.le_of_ble_eq_true rfl, Nat.le_of_ble_eq_true rfl⟩) (ro_pV hK (hP.sub [0] rfl) (ro_recv hK hP (ci := 8) (q0 := 0) rfl rfl)) rfl rfl hl.1 rfl (lv_room (Nat.le_of_ble_eq_true rfl)) dX9_fillString_12 ⟨Nat.le_of_ble_eq_true rfl, Nat.le_of_ble_eq_true rfl⟩) ?_
          refine n_icmp_ge (pc := 15) (tgt := 52) hx hb (by omega) (by omega) dX9_fillString_15 (by decide) (fun c15 => ?_) (fun c15 => ?_)
          · refine lv_goto (pc := 52) (tgt := 2) hx hb dX9_fillString_52 (by decide) ?_
            exact ih2 y U su (hsq.1) (hsq.2.1) (hsq.2.2.1 n hVn) (fun q a x ha hxx hax => hcu q a (by omega) ha hxx x hax) (by have h1 := fb_ct_sub (n := c * r) (fun k _ q => hsq.2.2.1 k q); have h2 := fb_ct_le U (c * r); rw [c3] at hmeas2; have h4 : zn true = 1 := rfl; cases y with | true => have h3 := hsq.2.2.2.1 rfl; omega | false => have h5 : zn false = 0 := rfl; omega) _ _ hP hD hS _ (lv_sub hl [0, 1, 2] rfl)
          refine lv_aload_n (pc := 18) hx hb dX9_fillString_18 rfl (lv_at hl 0 rfl) ?_
          refine va_get (pc := 19) (D := D) (ci := 8) (v := .ref aSA) (C := RX9) (T := TX9) (N := 25) hx hb hts hinX9 hown hK.1 hP 0 rfl rfl 12 (by decide) (hts (.fieldLink RX9 29 "BoxesGameModel" "stringAt" "[I") (List.mem_of_getElem? (i := 1) rfl)) (fun _ h9 => h9) hf12 dX9_fillString_19 ?_
          refine lv_iload_n (pc := 22) hx hb dX9_fillString_22 rfl (lv_at hl 3 rfl) ?_
          refine va_iald (pc := 23) hx hb hK.1 hP 1 0 rfl rfl (vp_in_nI (by omega) (by decide)) dX9_fillString_23 ?_
          refine top_i (show su (nI i).toNatClampNeg = su i from by rw [nI_clamp (by omega)]) ?_
          refine lv_iload_n (pc := 24) hx hb dX9_fillString_24 rfl (lv_at hl 1 rfl) ?_
          refine lv_icmp_ne (pc := 25) (tgt := 36) hx hb dX9_fillString_25 (by decide) (fun c25 => ?_) (fun c25 => ?_)
          · refine lv_iload_n (pc := 36) hx hb dX9_fillString_36 rfl (lv_at hl 2 rfl) ?_
            refine z_if_eq (pc := 37) (tgt := 44) hx hb dX9_fillString_37 (by decide) (fun c37 => ?_) (fun c37 => ?_)
            · refine lv_iconst (pc := 44) (v := nI 0) hx hb dX9_fillString_44 rfl ?_
              refine lv_istore_n (pc := 45) (lv' := [(2, .int (nI 0)), (0, .ref mo), (1, .int (nI k)), (3, .int (nI i))]) hx hb dX9_fillString_45 rfl hl (by decide) rfl (fun ls hl => ?_)
              refine lv_iinc (pc := 46) (v := nI (i + 1)) (lv' := [(3, .int (nI (i + 1))), (2, .int (nI 0)), (0, .ref mo), (1, .int (nI k))]) hx hb dX9_fillString_46 hl (k := 3) rfl (n_inc i 1) (by decide) rfl (fun ls hl => ?_)
              refine lv_goto (pc := 49) (tgt := 10) hx hb dX9_fillString_49 (by decide) ?_
              exact ih10 (i + 1) false U su (by first | assumption | omega) (by rw [← c37]; exact hsq) (fun q => lt_s (hcu (c37.trans q)) (fun _ hu => absurd ((NuX.isk hC hsq.1 hkk hk16 c15).mpr hu) c25)) (by omega) _ _ hP hD hS _ (lv_sub hl [2, 3, 1, 0] rfl)
            refine lv_iconst (pc := 40) (v := nI 1) hx hb dX9_fillString_40 rfl ?_
            refine lv_goto (pc := 41) (tgt := 45) hx hb dX9_fillString_41 (by decide) ?_
            refine lv_istore_n (pc := 45) (lv' := [(2, .int (nI 1)), (0, .ref mo), (1, .int (nI k)), (3, .int (nI i))]) hx hb dX9_fillString_45 rfl hl (by decide) rfl (fun ls hl => ?_)
            refine lv_iinc (pc := 46) (v := nI (i + 1)) (lv' := [(3, .int (nI (i + 1))), (2, .int (nI 1)), (0, .ref mo), (1, .int (nI k))]) hx hb dX9_fillString_46 hl (k := 3) rfl (n_inc i 1) (by decide) rfl (fun ls hl => ?_)
            refine lv_goto (pc := 49) (tgt := 10) hx hb dX9_fillString_49 (by decide) ?_
            exact ih10 (i + 1) true U su (by first | assumption | omega) (by rw [← c37]; exact hsq) (fun q => lt_s (hcu (c37.trans q)) (fun _ hu => absurd ((NuX.isk hC hsq.1 hkk hk16 c15).mpr hu) c25)) (by omega) _ _ hP hD hS _ (lv_sub hl [2, 3, 1, 0] rfl)
          refine lv_aload_n (pc := 28) hx hb dX9_fillString_28 rfl (lv_at hl 0 rfl) ?_
          refine lv_iload_n (pc := 29) hx hb dX9_fillString_29 rfl (lv_at hl 3 rfl) ?_
          refine mu_go (pc := 30) (va_runV (As := [.int (nI i)]) (rest := []) ⟨hx, hb, hml, hown, hts⟩ (c_X9_spreads l D Y mo c r fs w aSA n k U su i (hf) (hC) (hf3) (hf12) (c15) (by first | assumption | omega) (hsq.1) (hsq.2.1) ((NuX.isk hC hsq.1 hkk hk16 c15).mp c25)) (cwV 1 hts gX9_fillString_X9_spreads rfl rfl rfl ⟨rfl, hdX9_spreads⟩ ⟨Nat.le_of_ble_eq_true rfl, Nat.le_of_ble_eq_true rfl⟩) (mu_pV hK hP hD (ro_recv hK hP (ci := 8) (q0 := 0) rfl rfl)) rfl rfl hl.1 rfl (lv_room (Nat.le_of_ble_eq_true rfl)) dX9_fillString_30 ⟨Nat.le_of_ble_eq_true rfl, Nat.le_of_ble_eq_true rfl⟩) hP hD hS [0, 1] rfl (by decide) (fun uS => [(mo, .inr (8, fs)), (aSA, .inl (Y.1, 16, .inl uS.1))]) (fun _ => rfl) (fun _ => rfl) (fun uS H locs hpost hP hD hS => ?_)
          obtain ⟨sa2_30, X2_30, z2_30⟩ := uS
          try dsimp only at hpost
          refine top_i (show _ = zb z2_30 from rfl) ?_
          have hP : va_P D vwCl [(mo, .inr (8, fs)), (aSA, .inl (Y.1, 16, .inl sa2_30))] H := hP
          have hD : va_D AA [(mo, .inr (8, fs)), (aSA, .inl (Y.1, 16, .inl sa2_30))] := hD
          refine z_if_ne (pc := 33) (tgt := 40) hx hb dX9_fillString_33 (by decide) (fun c33 => ?_) (fun c33 => ?_)
          · refine lv_iconst (pc := 40) (v := nI 1) hx hb dX9_fillString_40 rfl ?_
            refine lv_goto (pc := 41) (tgt := 45) hx hb dX9_fillString_41 (by decide) ?_
            refine lv_istore_n (pc := 45) (lv' := [(2, .int (nI 1)), (0, .ref mo), (1, .int (nI k)), (3, .int (nI i))]) hx hb dX9_fillString_45 rfl hl (by decide) rfl (fun ls hl => ?_)
            refine lv_iinc (pc := 46) (v := nI (i + 1)) (lv' := [(3, .int (nI (i + 1))), (2, .int (nI 1)), (0, .ref mo), (1, .int (nI k))]) hx hb dX9_fillString_46 hl (k := 3) rfl (n_inc i 1) (by decide) rfl (fun ls hl => ?_)
            refine lv_goto (pc := 49) (tgt := 10) hx hb dX9_fillString_49 (by decide) ?_
            exact ih10 (i + 1) true X2_30 sa2_30 (by first | assumption | omega) (by have := hsq.tr hpost.1; rw [c33, Bool.true_or] at this; exact this) (fun q => by cases q) (by omega) _ _ hP hD hS _ (lv_sub hl [2, 3, 1, 0] rfl)
          refine lv_iload_n (pc := 36) hx hb dX9_fillString_36 rfl (lv_at hl 2 rfl) ?_
          refine z_if_eq (pc := 37) (tgt := 44) hx hb dX9_fillString_37 (by decide) (fun c37 => ?_) (fun c37 => ?_)
          · refine lv_iconst (pc := 44) (v := nI 0) hx hb dX9_fillString_44 rfl ?_
            refine lv_istore_n (pc := 45) (lv' := [(2, .int (nI 0)), (0, .ref mo), (1, .int (nI k)), (3, .int (nI i))]) hx hb dX9_fillString_45 rfl hl (by decide) rfl (fun ls hl => ?_)
            refine lv_iinc (pc := 46) (v := nI (i + 1)) (lv' := [(3, .int (nI (i + 1))), (2, .int (nI 0)), (0, .ref mo), (1, .int (nI k))]) hx hb dX9_fillString_46 hl (k := 3) rfl (n_inc i 1) (by decide) rfl (fun ls hl => ?_)
            refine lv_goto (pc := 49) (tgt := 10) hx hb dX9_fillString_49 (by decide) ?_
            exact ih10 (i + 1) false X2_30 sa2_30 (by first | assumption | omega) (by have := hsq.tr hpost.1; rw [c33, c37] at this; exact this) (fun _ => lt_s (fun a ha hc hu x hx => hpost.1.2.2.1 x (hcu c37 a ha hc (by rw [← hpost.1.2.2.2.2 c33 a hc]; exact hu) x hx)) (fun _ _ x hx => hpost.2 x hx)) (by omega) _ _ hP hD hS _ (lv_sub hl [2, 3, 1, 0] rfl)
          refine lv_iconst (pc := 40) (v := nI 1) hx hb dX9_fillString_40 rfl ?_
          refine lv_goto (pc := 41) (tgt := 45) hx hb dX9_fillString_41 (by decide) ?_
          refine lv_istore_n (pc := 45) (lv' := [(2, .int (nI 1)), (0, .ref mo), (1, .int (nI k)), (3, .int (nI i))]) hx hb dX9_fillString_45 rfl hl (by decide) rfl (fun ls hl => ?_)
          refine lv_iinc (pc := 46) (v := nI (i + 1)) (lv' := [(3, .int (nI (i + 1))), (2, .int (nI 1)), (0, .ref mo), (1, .int (nI k))]) hx hb dX9_fillString_46 hl (k := 3) rfl (n_inc i 1) (by decide) rfl (fun ls hl => ?_)
          refine lv_goto (pc := 49) (tgt := 10) hx hb dX9_fillString_49 (by decide) ?_
          exact ih10 (i + 1) true X2_30 sa2_30 (by first | assumption | omega) (by have := hsq.tr hpost.1; rw [c33, c37] at this; exact this) (fun q => by cases q) (by omega) _ _ hP hD hS _ (lv_sub hl [2, 3, 1, 0] rfl)
      exact L10 ((c * r - 0) + 1) 0 false V sv (by first | assumption | omega) (SpX.rf hsp hVs) (fun _ a ha => absurd ha (Nat.not_lt_zero _)) (Nat.lt_succ_self _) _ _ hP hD hS _ (lv_sub hl [2, 3, 1, 0] rfl)
  exact L2 ((19 - fb_ct X (c * r) - 1 + zn true) + 1) true X sa (hnu) (hXs) (hXn) (fun q => by cases q) (Nat.lt_succ_self _) _ _ hP hD hS _ (lv_sub hl [1, 2, 0] rfl)
