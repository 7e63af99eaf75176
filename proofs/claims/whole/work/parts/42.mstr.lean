set_option maxHeartbeats 1200000 in
set_option maxRecDepth 100000 in
theorem c_X9_isThin (l : Launch) (D : va_G) (Y : vY) (mo : Nat) (c : Nat) (r : Nat) (fs : List Value) (w : Int64) (b : Nat) (hf : MF c r fs) (hC : Cr c r) (hf3 : fs[3]? = some (.long w)) (hb0 : b < c * r) : Ro l yX9_isThin wsX9_isThin ({ frames := 4, cells := 0, slots := 0, locals := 92 } : Room) [.ref mo, .int (nI b)] D Y [(mo, .inr (8, fs))] (some (.int (zb (thn c r w b)))) := by
  refine ro_intro (by decide +kernel) rfl (Nat.le_of_ble_eq_true rfl) [(0, .ref mo), (1, .int (nI b))] rfl ?_
  intro pG eG sG mG aG bG tG cG ls hx hb hr hml hts hown hlocks hK hP hl
  have hP : va_P D vwCl [(mo, .inr (8, fs))] sG.heap := hP
  have hown : sG.vm.findClass RX9 = some mG.cls := hown
  have hl : lv_has ls 2 [(0, .ref mo), (1, .int (nI b))] := hl
  have hinX9 : ∀ w ∈ u_ws RX9 TX9 25, w ∈ wsX9_isThin := by decide +kernel
  obtain ⟨hq1, hq2, hq3, hq4, hq5, hq6, hq7, hq8, hq9, hq10, hq11⟩ := hC.q
  have hop := opn_le c r w b
  refine lv_aload_n (pc := 0) hx hb dX9_isThin_0 rfl (lv_at hl 0 rfl) ?_
  refine lv_iload_n (pc := 1) hx hb dX9_isThin_1 rfl (lv_at hl 1 rfl) ?_
  refine lv_aload_n (pc := 2) hx hb dX9_isThin_2 rfl (lv_at hl 0 rfl) ?_
  refine va_get (pc := 3) (D := D) (ci := 8) (v := .long w) (C := RX9) (T := TX9) (N := 25) hx hb hts hinX9 hown hK.1 hP 0 rfl rfl 3 (by decide) (hts (.fieldLink RX9 119 "BoxesGameModel" "now" "J") (List.mem_of_getElem? (i := 1) rfl)) (fun _ h9 => h9) hf3 dX9_isThin_3 ?_
  refine ro_go (pc := 6) (va_runV (As := [.int (nI b), .long w]) (rest := []) ⟨hx, hb, hml, hown, hts⟩ (c_X9_openOf l D Y mo c r fs b w (hf) (hC) (hb0)) (cwV 2 hts gX9_isThin_X9_openOf rfl rfl rfl ⟨rfl, hdX9_openOf⟩ ⟨Nat.le_of_ble_eq_true rfl, Nat.le_of_ble_eq_true rfl⟩) (ro_pV hK hP (ro_recv hK hP (ci := 8) (q0 := 0) rfl rfl)) rfl rfl hl.1 rfl (lv_room (Nat.le_of_ble_eq_true rfl)) dX9_isThin_6 ⟨Nat.le_of_ble_eq_true rfl, Nat.le_of_ble_eq_true rfl⟩) ?_
  refine lv_iconst (pc := 9) (v := nI 1) hx hb dX9_isThin_9 rfl ?_
  refine lv_iconst (pc := 10) (v := nI 2) hx hb dX9_isThin_10 rfl ?_
  refine ro_go (pc := 11) (va_runS (As := [.int (nI (opn c r w b)), .int (nI 1), .int (nI 2)]) (rest := []) ⟨hx, hb, hml, hown, hts⟩ (c_X9_within l D Y (nI (opn c r w b)) (nI 1) (nI 2) ) (va_cwS 3 hts gX9_isThin_X9_within rfl rfl rfl hdX9_within ⟨Nat.le_of_ble_eq_true rfl, Nat.le_of_ble_eq_true rfl⟩) (ro_pS hK (hP.sub [] rfl)) rfl rfl hl.1 rfl (lv_room (Nat.le_of_ble_eq_true rfl)) dX9_isThin_11 ⟨Nat.le_of_ble_eq_true rfl, Nat.le_of_ble_eq_true rfl⟩) ?_
  exact ro_zret hx hb hr hlocks (by rw [wi_nI (by omega) (by decide) (by decide)]; rfl) dX9_isThin_14

set_option maxHeartbeats 1200000 in
set_option maxRecDepth 100000 in
theorem c_X9_goesRound (l : Launch) (D : va_G) (Y : vY) (mo : Nat) (c : Nat) (r : Nat) (fs : List Value) (w : Int64) (b : Nat) (hf : MF c r fs) (hC : Cr c r) (hf3 : fs[3]? = some (.long w)) (hb0 : b < c * r) : Ro l yX9_goesRound wsX9_goesRound ({ frames := 5, cells := 0, slots := 0, locals := 113 } : Room) [.ref mo, .int (nI b)] D Y [(mo, .inr (8, fs))] (some (.int (zb (gor c r w b)))) := by
  refine ro_intro (by decide +kernel) rfl (Nat.le_of_ble_eq_true rfl) [(0, .ref mo), (1, .int (nI b))] rfl ?_
  intro pG eG sG mG aG bG tG cG ls hx hb hr hml hts hown hlocks hK hP hl
  have hP : va_P D vwCl [(mo, .inr (8, fs))] sG.heap := hP
  have hown : sG.vm.findClass RX9 = some mG.cls := hown
  have hl : lv_has ls 7 [(0, .ref mo), (1, .int (nI b))] := hl
  have hinX9 : ∀ w ∈ u_ws RX9 TX9 25, w ∈ wsX9_goesRound := by decide +kernel
  obtain ⟨hq1, hq2, hq3, hq4, hq5, hq6, hq7, hq8, hq9, hq10, hq11⟩ := hC.q
  have hop := opn_le c r w b
  refine lv_aload_n (pc := 0) hx hb dX9_goesRound_0 rfl (lv_at hl 0 rfl) ?_
  refine lv_iload_n (pc := 1) hx hb dX9_goesRound_1 rfl (lv_at hl 1 rfl) ?_
  refine lv_aload_n (pc := 2) hx hb dX9_goesRound_2 rfl (lv_at hl 0 rfl) ?_
  refine va_get (pc := 3) (D := D) (ci := 8) (v := .long w) (C := RX9) (T := TX9) (N := 25) hx hb hts hinX9 hown hK.1 hP 0 rfl rfl 3 (by decide) (hts (.fieldLink RX9 119 "BoxesGameModel" "now" "J") (List.mem_of_getElem? (i := 1) rfl)) (fun _ h9 => h9) hf3 dX9_goesRound_3 ?_
  refine ro_go (pc := 6) (va_runV (As := [.int (nI b), .long w]) (rest := []) ⟨hx, hb, hml, hown, hts⟩ (c_X9_openOf l D Y mo c r fs b w (hf) (hC) (hb0)) (cwV 2 hts gX9_goesRound_X9_openOf rfl rfl rfl ⟨rfl, hdX9_openOf⟩ ⟨Nat.le_of_ble_eq_true rfl, Nat.le_of_ble_eq_true rfl⟩) (ro_pV hK hP (ro_recv hK hP (ci := 8) (q0 := 0) rfl rfl)) rfl rfl hl.1 rfl (lv_room (Nat.le_of_ble_eq_true rfl)) dX9_goesRound_6 ⟨Nat.le_of_ble_eq_true rfl, Nat.le_of_ble_eq_true rfl⟩) ?_
  refine lv_iconst (pc := 9) (v := nI 2) hx hb dX9_goesRound_9 rfl ?_
  refine n_icmp_ne (pc := 10) (tgt := 17) hx hb (by omega) (by decide) dX9_goesRound_10 (by decide) (fun c10 => ?_) (fun c10 => ?_)
  · refine lv_iconst (pc := 17) (v := nI 0) hx hb dX9_goesRound_17 rfl ?_
    refine lv_istore_n (pc := 18) (lv' := [(2, .int (nI 0)), (0, .ref mo), (1, .int (nI b))]) hx hb dX9_goesRound_18 rfl hl (by decide) rfl (fun ls hl => ?_)
    refine lv_iconst (pc := 19) (v := nI 0) hx hb dX9_goesRound_19 rfl ?_
    refine lv_istore_n (pc := 20) (lv' := [(3, .int (nI 0)), (2, .int (nI 0)), (0, .ref mo), (1, .int (nI b))]) hx hb dX9_goesRound_20 rfl hl (by decide) rfl (fun ls hl => ?_)
    have L21 : ∀ (n21 : Nat), ∀ (i : Nat) (z : Bool), (i ≤ 4) → (z = (decide (opn c r w b = 2) && andb (gorP c r w b) i)) → 4 - i < n21 → ∀ (ls : Array Slot), lv_has ls 7 [(0, .ref mo), (1, .int (nI b)), (2, .int (zb z)), (3, .int (nI i))] → W pG l eG ({ frames := 5, cells := 0, slots := 0, locals := 113 } : Room) sG mG aG bG tG cG sG.heap [] 0 0 (MQ bG (RoQ (some (.int (zb (gor c r w b))))) aG sG 0 0 (fun _ => False)) (F0 mG 21 ls []) := by
      intro n21
      induction n21 with
      | zero =>
        intro i z hi hz hmeas21  ls hl
        exact absurd hmeas21 (Nat.not_lt_zero _)
      | succ n21 ih21 =>
        intro i z hi hz hmeas21  ls hl
        refine lv_iload_n (pc := 21) hx hb dX9_goesRound_21 rfl (lv_at hl 3 rfl) ?_
        refine lv_iconst (pc := 22) (v := nI 4) hx hb dX9_goesRound_22 rfl ?_
        refine n_icmp_ge (pc := 23) (tgt := 102) hx hb (by omega) (by omega) dX9_goesRound_23 (by decide) (fun c23 => ?_) (fun c23 => ?_)
        · refine lv_iload_n (pc := 102) hx hb dX9_goesRound_102 rfl (lv_at hl 2 rfl) ?_
          exact ro_zret hx hb hr hlocks (by rw [hz, show i = 4 by omega]; rfl) dX9_goesRound_103
        refine lv_aload_n (pc := 26) hx hb dX9_goesRound_26 rfl (lv_at hl 0 rfl) ?_
        refine lv_iload_n (pc := 27) hx hb dX9_goesRound_27 rfl (lv_at hl 1 rfl) ?_
        refine lv_iload_n (pc := 28) hx hb dX9_goesRound_28 rfl (lv_at hl 3 rfl) ?_
        refine ro_go (pc := 29) (va_runV (As := [.int (nI b), .int (nI i)]) (rest := []) ⟨hx, hb, hml, hown, hts⟩ (c_X9_sideOf l D Y mo c r fs b i (hf) (hC) (hb0) (by first | assumption | omega)) (cwV 2 hts gX9_goesRound_X9_sideOf rfl rfl rfl ⟨rfl, hdX9_sideOf⟩ ⟨Nat.le_of_ble_eq_true rfl, Nat.le_of_ble_eq_true rfl⟩) (ro_pV hK hP (ro_recv hK hP (ci := 8) (q0 := 0) rfl rfl)) rfl rfl hl.1 rfl (lv_room (Nat.le_of_ble_eq_true rfl)) dX9_goesRound_29 ⟨Nat.le_of_ble_eq_true rfl, Nat.le_of_ble_eq_true rfl⟩) ?_
        refine lv_istore (pc := 32) (lv' := [(4, .int (nI (sid c r b i))), (0, .ref mo), (1, .int (nI b)), (2, .int (zb z)), (3, .int (nI i))]) hx hb dX9_goesRound_32 hl (by decide) rfl (fun ls hl => ?_)
        refine lv_iconst (pc := 34) (v := nI 0) hx hb dX9_goesRound_34 rfl ?_
        refine lv_istore (pc := 35) (lv' := [(5, .int (nI 0)), (4, .int (nI (sid c r b i))), (0, .ref mo), (1, .int (nI b)), (2, .int (zb z)), (3, .int (nI i))]) hx hb dX9_goesRound_35 hl (by decide) rfl (fun ls hl => ?_)
        have L37 : ∀ (n37 : Nat), ∀ (j : Nat) (y : Bool), (j ≤ 2) → (j = 0 ∨ tb w (sid c r b i) = false) → (y = (z && andb (bsP (thn c r w) c r (sid c r b i)) j)) → 2 - j < n37 → ∀ (ls : Array Slot), lv_has ls 7 [(0, .ref mo), (1, .int (nI b)), (2, .int (zb y)), (3, .int (nI i)), (4, .int (nI (sid c r b i))), (5, .int (nI j))] → W pG l eG ({ frames := 5, cells := 0, slots := 0, locals := 113 } : Room) sG mG aG bG tG cG sG.heap [] 0 0 (MQ bG (RoQ (some (.int (zb (gor c r w b))))) aG sG 0 0 (fun _ => False)) (F0 mG 37 ls []) := by
          intro n37
          induction n37 with
          | zero =>
            intro j y hj hjh hy hmeas37  ls hl
            exact absurd hmeas37 (Nat.not_lt_zero _)
          | succ n37 ih37 =>
            intro j y hj hjh hy hmeas37  ls hl
            have hl0 : sid c r b i < al c r := sid_lt hC hb0 (by omega)
            refine lv_iload (pc := 37) hx hb dX9_goesRound_37 (lv_at hl 5 rfl) ?_
            refine lv_iconst (pc := 39) (v := nI 2) hx hb dX9_goesRound_39 rfl ?_
            refine n_icmp_ge (pc := 40) (tgt := 96) hx hb (by omega) (by omega) dX9_goesRound_40 (by decide) (fun c40 => ?_) (fun c40 => ?_)
            · have hht : tb w (sid c r b i) = false := by rcases hjh with q | q; omega; exact q
              refine lv_iinc (pc := 96) (v := nI (i + 1)) (lv' := [(3, .int (nI (i + 1))), (0, .ref mo), (1, .int (nI b)), (2, .int (zb y)), (4, .int (nI (sid c r b i))), (5, .int (nI j))]) hx hb dX9_goesRound_96 hl (k := 3) rfl (n_inc i 1) (by decide) rfl (fun ls hl => ?_)
              refine lv_goto (pc := 99) (tgt := 21) hx hb dX9_goesRound_99 (by decide) ?_
              exact ih21 (i + 1) y (by first | assumption | omega) (by rw [gor_s1 hht, ← hz, hy, show j = 2 by omega]) (by omega) _ (lv_sub hl [1, 2, 3, 0] rfl)
            refine lv_aload_n (pc := 43) hx hb dX9_goesRound_43 rfl (lv_at hl 0 rfl) ?_
            refine va_get (pc := 44) (D := D) (ci := 8) (v := .long w) (C := RX9) (T := TX9) (N := 25) hx hb hts hinX9 hown hK.1 hP 0 rfl rfl 3 (by decide) (hts (.fieldLink RX9 119 "BoxesGameModel" "now" "J") (List.mem_of_getElem? (i := 1) rfl)) (fun _ h9 => h9) hf3 dX9_goesRound_44 ?_
            refine lv_iload (pc := 47) hx hb dX9_goesRound_47 (lv_at hl 4 rfl) ?_
            refine ro_go (pc := 49) (va_runS (As := [.long w, .int (nI (sid c r b i))]) (rest := []) ⟨hx, hb, hml, hown, hts⟩ (c_X9_has l D Y w (sid c r b i) (by omega)) (va_cwS 2 hts gX9_goesRound_X9_has rfl rfl rfl hdX9_has ⟨Nat.le_of_ble_eq_true rfl, Nat.le_of_ble_eq_true rfl⟩) (ro_pS hK (hP.sub [] rfl)) rfl rfl hl.1 rfl (lv_room (Nat.le_of_ble_eq_true rfl)) dX9_goesRound_49 ⟨Nat.le_of_ble_eq_true rfl, Nat.le_of_ble_eq_true rfl⟩) ?_
            refine z_if_ne (pc := 52) (tgt := 96) hx hb dX9_goesRound_52 (by decide) (fun c52 => ?_) (fun c52 => ?_)
            · have hj0 : j = 0 := by rcases hjh with q | q; exact q; rw [q] at c52; cases c52
              have hyz : y = z := by rw [hy, hj0]; show (z && true) = z; rw [Bool.and_true]
              refine lv_iinc (pc := 96) (v := nI (i + 1)) (lv' := [(3, .int (nI (i + 1))), (0, .ref mo), (1, .int (nI b)), (2, .int (zb y)), (4, .int (nI (sid c r b i))), (5, .int (nI j))]) hx hb dX9_goesRound_96 hl (k := 3) rfl (n_inc i 1) (by decide) rfl (fun ls hl => ?_)
              refine lv_goto (pc := 99) (tgt := 21) hx hb dX9_goesRound_99 (by decide) ?_
              exact ih21 (i + 1) y (by first | assumption | omega) (by rw [gor_s2 c52, ← hz]; exact hyz) (by omega) _ (lv_sub hl [1, 2, 3, 0] rfl)
            refine lv_aload_n (pc := 55) hx hb dX9_goesRound_55 rfl (lv_at hl 0 rfl) ?_
            refine lv_iload (pc := 56) hx hb dX9_goesRound_56 (lv_at hl 4 rfl) ?_
            refine lv_iload (pc := 58) hx hb dX9_goesRound_58 (lv_at hl 5 rfl) ?_
            refine ro_go (pc := 60) (va_runV (As := [.int (nI (sid c r b i)), .int (nI j)]) (rest := []) ⟨hx, hb, hml, hown, hts⟩ (c_X9_beside l D Y mo c r fs (sid c r b i) j (hf) (hC) (by first | assumption | omega) (by first | assumption | omega)) (cwV 2 hts gX9_goesRound_X9_beside rfl rfl rfl ⟨rfl, hdX9_beside⟩ ⟨Nat.le_of_ble_eq_true rfl, Nat.le_of_ble_eq_true rfl⟩) (ro_pV hK hP (ro_recv hK hP (ci := 8) (q0 := 0) rfl rfl)) rfl rfl hl.1 rfl (lv_room (Nat.le_of_ble_eq_true rfl)) dX9_goesRound_60 ⟨Nat.le_of_ble_eq_true rfl, Nat.le_of_ble_eq_true rfl⟩) ?_
            refine lv_topi (fun x60 ex60 => ?_)
            refine lv_istore (pc := 63) (lv' := [(6, .int x60), (0, .ref mo), (1, .int (nI b)), (2, .int (zb y)), (3, .int (nI i)), (4, .int (nI (sid c r b i))), (5, .int (nI j))]) hx hb dX9_goesRound_63 hl (by decide) rfl (fun ls hl => ?_)
            refine lv_iload_n (pc := 65) hx hb dX9_goesRound_65 rfl (lv_at hl 3 rfl) ?_
            refine z_if_eq (pc := 66) (tgt := 88) hx hb dX9_goesRound_66 (by decide) (fun c66 => ?_) (fun c66 => ?_)
            · refine lv_iconst (pc := 88) (v := nI 0) hx hb dX9_goesRound_88 rfl ?_
              refine lv_istore_n (pc := 89) (lv' := [(2, .int (nI 0)), (6, .int x60), (0, .ref mo), (1, .int (nI b)), (3, .int (nI i)), (4, .int (nI (sid c r b i))), (5, .int (nI j))]) hx hb dX9_goesRound_89 rfl hl (by decide) rfl (fun ls hl => ?_)
              refine lv_iinc (pc := 90) (v := nI (j + 1)) (lv' := [(5, .int (nI (j + 1))), (2, .int (nI 0)), (6, .int x60), (0, .ref mo), (1, .int (nI b)), (3, .int (nI i)), (4, .int (nI (sid c r b i)))]) hx hb dX9_goesRound_90 hl (k := 6) rfl (n_inc j 1) (by decide) rfl (fun ls hl => ?_)
              refine lv_goto (pc := 93) (tgt := 37) hx hb dX9_goesRound_93 (by decide) ?_
              exact ih37 (j + 1) false (by first | assumption | omega) (Or.inr c52) (by rw [andb, ← Bool.and_assoc, ← hy, c66]; rfl) (by omega) _ (lv_sub hl [3, 4, 1, 5, 6, 0] rfl)
            refine lv_iload (pc := 69) hx hb dX9_goesRound_69 (lv_at hl 0 rfl) ?_
            refine lv_iconst (pc := 71) (v := (-1)) hx hb dX9_goesRound_71 (by decide) ?_
            refine lv_icmp_eq (pc := 72) (tgt := 88) hx hb dX9_goesRound_72 (by decide) (fun c72 => ?_) (fun c72 => ?_)
            · have hbn := oI_none ex60 c72 (fun b h => by have := bes_lt hC hl0 h; omega)
              refine lv_iconst (pc := 88) (v := nI 0) hx hb dX9_goesRound_88 rfl ?_
              refine lv_istore_n (pc := 89) (lv' := [(2, .int (nI 0)), (6, .int x60), (0, .ref mo), (1, .int (nI b)), (3, .int (nI i)), (4, .int (nI (sid c r b i))), (5, .int (nI j))]) hx hb dX9_goesRound_89 rfl hl (by decide) rfl (fun ls hl => ?_)
              refine lv_iinc (pc := 90) (v := nI (j + 1)) (lv' := [(5, .int (nI (j + 1))), (2, .int (nI 0)), (6, .int x60), (0, .ref mo), (1, .int (nI b)), (3, .int (nI i)), (4, .int (nI (sid c r b i)))]) hx hb dX9_goesRound_90 hl (k := 6) rfl (n_inc j 1) (by decide) rfl (fun ls hl => ?_)
              refine lv_goto (pc := 93) (tgt := 37) hx hb dX9_goesRound_93 (by decide) ?_
              exact ih37 (j + 1) false (by first | assumption | omega) (Or.inr c52) (by rw [andb, ← Bool.and_assoc, ← hy, c66, bsP_n hbn]; rfl) (by omega) _ (lv_sub hl [3, 4, 1, 5, 6, 0] rfl)
            obtain ⟨bb, hbb, rfl⟩ := oI_some ex60 c72
            have hl : lv_has ls 7 [(6, .int (nI bb)), (0, .ref mo), (1, .int (nI b)), (2, .int (zb y)), (3, .int (nI i)), (4, .int (nI (sid c r b i))), (5, .int (nI j))] := hl
            refine lv_aload_n (pc := 75) hx hb dX9_goesRound_75 rfl (lv_at hl 1 rfl) ?_
            refine lv_iload (pc := 76) hx hb dX9_goesRound_76 (lv_at hl 0 rfl) ?_
            refine ro_go (pc := 78) (va_runV (As := [.int (nI bb)]) (rest := []) ⟨hx, hb, hml, hown, hts⟩ (c_X9_isThin l D Y mo c r fs w bb (hf) (hC) (hf3) (bes_lt hC hl0 hbb)) (cwV 1 hts gX9_goesRound_X9_isThin rfl rfl rfl ⟨rfl, hdX9_isThin⟩ ⟨Nat.le_of_ble_eq_true rfl, Nat.le_of_ble_eq_true rfl⟩) (ro_pV hK hP (ro_recv hK hP (ci := 8) (q0 := 0) rfl rfl)) rfl rfl hl.1 rfl (lv_room (Nat.le_of_ble_eq_true rfl)) dX9_goesRound_78 ⟨Nat.le_of_ble_eq_true rfl, Nat.le_of_ble_eq_true rfl⟩) ?_
            refine z_if_eq (pc := 81) (tgt := 88) hx hb dX9_goesRound_81 (by decide) (fun c81 => ?_) (fun c81 => ?_)
            · refine lv_iconst (pc := 88) (v := nI 0) hx hb dX9_goesRound_88 rfl ?_
              refine lv_istore_n (pc := 89) (lv' := [(2, .int (nI 0)), (6, .int (nI bb)), (0, .ref mo), (1, .int (nI b)), (3, .int (nI i)), (4, .int (nI (sid c r b i))), (5, .int (nI j))]) hx hb dX9_goesRound_89 rfl hl (by decide) rfl (fun ls hl => ?_)
              refine lv_iinc (pc := 90) (v := nI (j + 1)) (lv' := [(5, .int (nI (j + 1))), (2, .int (nI 0)), (6, .int (nI bb)), (0, .ref mo), (1, .int (nI b)), (3, .int (nI i)), (4, .int (nI (sid c r b i)))]) hx hb dX9_goesRound_90 hl (k := 6) rfl (n_inc j 1) (by decide) rfl (fun ls hl => ?_)
              refine lv_goto (pc := 93) (tgt := 37) hx hb dX9_goesRound_93 (by decide) ?_
              exact ih37 (j + 1) false (by first | assumption | omega) (Or.inr c52) (by rw [andb, ← Bool.and_assoc, ← hy, c66, bsP_s hbb, c81]; rfl) (by omega) _ (lv_sub hl [3, 4, 1, 5, 6, 0] rfl)
            refine lv_iconst (pc := 84) (v := nI 1) hx hb dX9_goesRound_84 rfl ?_
            refine lv_goto (pc := 85) (tgt := 89) hx hb dX9_goesRound_85 (by decide) ?_
            refine lv_istore_n (pc := 89) (lv' := [(2, .int (nI 1)), (6, .int (nI bb)), (0, .ref mo), (1, .int (nI b)), (3, .int (nI i)), (4, .int (nI (sid c r b i))), (5, .int (nI j))]) hx hb dX9_goesRound_89 rfl hl (by decide) rfl (fun ls hl => ?_)
            refine lv_iinc (pc := 90) (v := nI (j + 1)) (lv' := [(5, .int (nI (j + 1))), (2, .int (nI 1)), (6, .int (nI bb)), (0, .ref mo), (1, .int (nI b)), (3, .int (nI i)), (4, .int (nI (sid c r b i)))]) hx hb dX9_goesRound_90 hl (k := 6) rfl (n_inc j 1) (by decide) rfl (fun ls hl => ?_)
            refine lv_goto (pc := 93) (tgt := 37) hx hb dX9_goesRound_93 (by decide) ?_
            exact ih37 (j + 1) true (by first | assumption | omega) (Or.inr c52) (by rw [andb, ← Bool.and_assoc, ← hy, c66, bsP_s hbb, c81]; rfl) (by omega) _ (lv_sub hl [3, 4, 1, 5, 6, 0] rfl)
        exact L37 ((2 - 0) + 1) 0 z (by first | assumption | omega) (Or.inl rfl) (by rw [show andb (bsP (thn c r w) c r (sid c r b i)) 0 = true from rfl, Bool.and_true]) (Nat.lt_succ_self _) _ (lv_sub hl [2, 3, 4, 5, 1, 0] rfl)
    exact L21 ((4 - 0) + 1) 0 false (by first | assumption | omega) (by rw [decide_eq_false c10]; rfl) (Nat.lt_succ_self _) _ (lv_sub hl [2, 3, 1, 0] rfl)
  refine lv_iconst (pc := 13) (v := nI 1) hx hb dX9_goesRound_13 rfl ?_
  refine lv_goto (pc := 14) (tgt := 18) hx hb dX9_goesRound_14 (by decide) ?_
  refine lv_istore_n (pc := 18) (lv' := [(2, .int (nI 1)), (0, .ref mo), (1, .int (nI b))]) hx hb dX9_goesRound_18 rfl hl (by decide) rfl (fun ls hl => ?_)
  refine lv_iconst (pc := 19) (v := nI 0) hx hb dX9_goesRound_19 rfl ?_
  refine lv_istore_n (pc := 20) (lv' := [(3, .int (nI 0)), (2, .int (nI 1)), (0, .ref mo), (1, .int (nI b))]) hx hb dX9_goesRound_20 rfl hl (by decide) rfl (fun ls hl => ?_)
  have L21 : ∀ (n21 : Nat), ∀ (i : Nat) (z : Bool), (i ≤ 4) → (z = (decide (opn c r w b = 2) && andb (gorP c r w b) i)) → 4 - i < n21 → ∀ (ls : Array Slot), lv_has ls 7 [(0, .ref mo), (1, .int (nI b)), (2, .int (zb z)), (3, .int (nI i))] → W pG l eG ({ frames := 5, cells := 0, slots := 0, locals := 113 } : Room) sG mG aG bG tG cG sG.heap [] 0 0 (MQ bG (RoQ (some (.int (zb (gor c r w b))))) aG sG 0 0 (fun _ => False)) (F0 mG 21 ls []) := by
    intro n21
    induction n21 with
    | zero =>
      intro i z hi hz hmeas21  ls hl
      exact absurd hmeas21 (Nat.not_lt_zero _)
    | succ n21 ih21 =>
      intro i z hi hz hmeas21  ls hl
      refine lv_iload_n (pc := 21) hx hb dX9_goesRound_21 rfl (lv_at hl 3 rfl) ?_
      refine lv_iconst (pc := 22) (v := nI 4) hx hb dX9_goesRound_22 rfl ?_
      refine n_icmp_ge (pc := 23) (tgt := 102) hx hb (by omega) (by omega) dX9_goesRound_23 (by decide) (fun c23 => ?_) (fun c23 => ?_)
      · refine lv_iload_n (pc := 102) hx hb dX9_goesRound_102 rfl (lv_at hl 2 rfl) ?_
        exact ro_zret hx hb hr hlocks (by rw [hz, show i = 4 by omega]; rfl) dX9_goesRound_103
      refine lv_aload_n (pc := 26) hx hb dX9_goesRound_26 rfl (lv_at hl 0 rfl) ?_
      refine lv_iload_n (pc := 27) hx hb dX9_goesRound_27 rfl (lv_at hl 1 rfl) ?_
      refine lv_iload_n (pc := 28) hx hb dX9_goesRound_28 rfl (lv_at hl 3 rfl) ?_
      refine ro_go (pc := 29) (va_runV (As := [.int (nI b), .int (nI i)]) (rest := []) ⟨hx, hb, hml, hown, hts⟩ (c_X9_sideOf l D Y mo c r fs b i (hf) (hC) (hb0) (by first | assumption | omega)) (cwV 2 hts gX9_goesRound_X9_sideOf rfl rfl rfl ⟨rfl, hdX9_sideOf⟩ ⟨Nat.le_of_ble_eq_true rfl, Nat.le_of_ble_eq_true rfl⟩) (ro_pV hK hP (ro_recv hK hP (ci := 8) (q0 := 0) rfl rfl)) rfl rfl hl.1 rfl (lv_room (Nat.le_of_ble_eq_true rfl)) dX9_goesRound_29 ⟨Nat.le_of_ble_eq_true rfl, Nat.le_of_ble_eq_true rfl⟩) ?_
      refine lv_istore (pc := 32) (lv' := [(4, .int (nI (sid c r b i))), (0, .ref mo), (1, .int (nI b)), (2, .int (zb z)), (3, .int (nI i))]) hx hb dX9_goesRound_32 hl (by decide) rfl (fun ls hl => ?_)
      refine lv_iconst (pc := 34) (v := nI 0) hx hb dX9_goesRound_34 rfl ?_
      refine lv_istore (pc := 35) (lv' := [(5, .int (nI 0)), (4, .int (nI (sid c r b i))), (0, .ref mo), (1, .int (nI b)), (2, .int (zb z)), (3, .int (nI i))]) hx hb dX9_goesRound_35 hl (by decide) rfl (fun ls hl => ?_)
      have L37 : ∀ (n37 : Nat), ∀ (j : Nat) (y : Bool), (j ≤ 2) → (j = 0 ∨ tb w (sid c r b i) = false) → (y = (z && andb (bsP (thn c r w) c r (sid c r b i)) j)) → 2 - j < n37 → ∀ (ls : Array Slot), lv_has ls 7 [(0, .ref mo), (1, .int (nI b)), (2, .int (zb y)), (3, .int (nI i)), (4, .int (nI (sid c r b i))), (5, .int (nI j))] → W pG l eG ({ frames := 5, cells := 0, slots := 0, locals := 113 } : Room) sG mG aG bG tG cG sG.heap [] 0 0 (MQ bG (RoQ (some (.int (zb (gor c r w b))))) aG sG 0 0 (fun _ => False)) (F0 mG 37 ls []) := by
        intro n37
        induction n37 with
        | zero =>
          intro j y hj hjh hy hmeas37  ls hl
          exact absurd hmeas37 (Nat.not_lt_zero _)
        | succ n37 ih37 =>
          intro j y hj hjh hy hmeas37  ls hl
          have hl0 : sid c r b i < al c r := sid_lt hC hb0 (by omega)
          refine lv_iload (pc := 37) hx hb dX9_goesRound_37 (lv_at hl 5 rfl) ?_
          refine lv_iconst (pc := 39) (v := nI 2) hx hb dX9_goesRound_39 rfl ?_
          refine n_icmp_ge (pc := 40) (tgt := 96) hx hb (by omega) (by omega) dX9_goesRound_40 (by decide) (fun c40 => ?_) (fun c40 => ?_)
          · have hht : tb w (sid c r b i) = false := by rcases hjh with q | q; omega; exact q
            refine lv_iinc (pc := 96) (v := nI (i + 1)) (lv' := [(3, .int (nI (i + 1))), (0, .ref mo), (1, .int (nI b)), (2, .int (zb y)), (4, .int (nI (sid c r b i))), (5, .int (nI j))]) hx hb dX9_goesRound_96 hl (k := 3) rfl (n_inc i 1) (by decide) rfl (fun ls hl => ?_)
            refine lv_goto (pc := 99) (tgt := 21) hx hb dX9_goesRound_99 (by decide) ?_
            exact ih21 (i + 1) y (by first | assumption | omega) (by rw [gor_s1 hht, ← hz, hy, show j = 2 by omega]) (by omega) _ (lv_sub hl [1, 2, 3, 0] rfl)
          refine lv_aload_n (pc := 43) hx hb dX9_goesRound_43 rfl (lv_at hl 0 rfl) ?_
          refine va_get (pc := 44) (D := D) (ci := 8) (v := .long w) (C := RX9) (T := TX9) (N := 25) hx hb hts hinX9 hown hK.1 hP 0 rfl rfl 3 (by decide) (hts (.fieldLink RX9 119 "BoxesGameModel" "now" "J") (List.mem_of_getElem? (i := 1) rfl)) (fun _ h9 => h9) hf3 dX9_goesRound_44 ?_
          refine lv_iload (pc := 47) hx hb dX9_goesRound_47 (lv_at hl 4 rfl) ?_
          refine ro_go (pc := 49) (va_runS (As := [.long w, .int (nI (sid c r b i))]) (rest := []) ⟨hx, hb, hml, hown, hts⟩ (c_X9_has l D Y w (sid c r b i) (by omega)) (va_cwS 2 hts gX9_goesRound_X9_has rfl rfl rfl hdX9_has ⟨Nat.le_of_ble_eq_true rfl, Nat.le_of_ble_eq_true rfl⟩) (ro_pS hK (hP.sub [] rfl)) rfl rfl hl.1 rfl (lv_room (Nat.le_of_ble_eq_true rfl)) dX9_goesRound_49 ⟨Nat.le_of_ble_eq_true rfl, Nat.le_of_ble_eq_true rfl⟩) ?_
          refine z_if_ne (pc := 52) (tgt := 96) hx hb dX9_goesRound_52 (by decide) (fun c52 => ?_) (fun c52 => ?_)
          · have hj0 : j = 0 := by rcases hjh with q | q; exact q; rw [q] at c52; cases c52
            have hyz : y = z := by rw [hy, hj0]; show (z && true) = z; rw [Bool.and_true]
            refine lv_iinc (pc := 96) (v := nI (i + 1)) (lv' := [(3, .int (nI (i + 1))), (0, .ref mo), (1, .int (nI b)), (2, .int (zb y)), (4, .int (nI (sid c r b i))), (5, .int (nI j))]) hx hb dX9_goesRound_96 hl (k := 3) rfl (n_inc i 1) (by decide) rfl (fun ls hl => ?_)
            refine lv_goto (pc := 99) (tgt := 21) hx hb dX9_goesRound_99 (by decide) ?_
            exact ih21 (i + 1) y (by first | assumption | omega) (by rw [gor_s2 c52, ← hz]; exact hyz) (by omega) _ (lv_sub hl [1, 2, 3, 0] rfl)
          refine lv_aload_n (pc := 55) hx hb dX9_goesRound_55 rfl (lv_at hl 0 rfl) ?_
          refine lv_iload (pc := 56) hx hb dX9_goesRound_56 (lv_at hl 4 rfl) ?_
          refine lv_iload (pc := 58) hx hb dX9_goesRound_58 (lv_at hl 5 rfl) ?_
          refine ro_go (pc := 60) (va_runV (As := [.int (nI (sid c r b i)), .int (nI j)]) (rest := []) ⟨hx, hb, hml, hown, hts⟩ (c_X9_beside l D Y mo c r fs (sid c r b i) j (hf) (hC) (by first | assumption | omega) (by first | assumption | omega)) (cwV 2 hts gX9_goesRound_X9_beside rfl rfl rfl ⟨rfl, hdX9_beside⟩ ⟨Nat.le_of_ble_eq_true rfl, Nat.le_of_ble_eq_true rfl⟩) (ro_pV hK hP (ro_recv hK hP (ci := 8) (q0 := 0) rfl rfl)) rfl rfl hl.1 rfl (lv_room (Nat.le_of_ble_eq_true rfl)) dX9_goesRound_60 ⟨Nat.le_of_ble_eq_true rfl, Nat.le_of_ble_eq_true rfl⟩) ?_
          refine lv_topi (fun x60 ex60 => ?_)
          refine lv_istore (pc := 63) (lv' := [(6, .int x60), (0, .ref mo), (1, .int (nI b)), (2, .int (zb y)), (3, .int (nI i)), (4, .int (nI (sid c r b i))), (5, .int (nI j))]) hx hb dX9_goesRound_63 hl (by decide) rfl (fun ls hl => ?_)
          refine lv_iload_n (pc := 65) hx hb dX9_goesRound_65 rfl (lv_at hl 3 rfl) ?_
          refine z_if_eq (pc := 66) (tgt := 88) hx hb dX9_goesRound_66 (by decide) (fun c66 => ?_) (fun c66 => ?_)
          · refine lv_iconst (pc := 88) (v := nI 0) hx hb dX9_goesRound_88 rfl ?_
            refine lv_istore_n (pc := 89) (lv' := [(2, .int (nI 0)), (6, .int x60), (0, .ref mo), (1, .int (nI b)), (3, .int (nI i)), (4, .int (nI (sid c r b i))), (5, .int (nI j))]) hx hb dX9_goesRound_89 rfl hl (by decide) rfl (fun ls hl => ?_)
            refine lv_iinc (pc := 90) (v := nI (j + 1)) (lv' := [(5, .int (nI (j + 1))), (2, .int (nI 0)), (6, .int x60), (0, .ref mo), (1, .int (nI b)), (3, .int (nI i)), (4, .int (nI (sid c r b i)))]) hx hb dX9_goesRound_90 hl (k := 6) rfl (n_inc j 1) (by decide) rfl (fun ls hl => ?_)
            refine lv_goto (pc := 93) (tgt := 37) hx hb dX9_goesRound_93 (by decide) ?_
            exact ih37 (j + 1) false (by first | assumption | omega) (Or.inr c52) (by rw [andb, ← Bool.and_assoc, ← hy, c66]; rfl) (by omega) _ (lv_sub hl [3, 4, 1, 5, 6, 0] rfl)
          refine lv_iload (pc := 69) hx hb dX9_goesRound_69 (lv_at hl 0 rfl) ?_
          refine lv_iconst (pc := 71) (v := (-1)) hx hb dX9_goesRound_71 (by decide) ?_
          refine lv_icmp_eq (pc := 72) (tgt := 88) hx hb dX9_goesRound_72 (by decide) (fun c72 => ?_) (fun c72 => ?_)
          · have hbn := oI_none ex60 c72 (fun b h => by have := bes_lt hC hl0 h; omega)
            refine lv_iconst (pc := 88) (v := nI 0) hx hb dX9_goesRound_88 rfl ?_
            refine lv_istore_n (pc := 89) (lv' := [(2, .int (nI 0)), (6, .int x60), (0, .ref mo), (1, .int (nI b)), (3, .int (nI i)), (4, .int (nI (sid c r b i))), (5, .int (nI j))]) hx hb dX9_goesRound_89 rfl hl (by decide) rfl (fun ls hl => ?_)
            refine lv_iinc (pc := 90) (v := nI (j + 1)) (lv' := [(5, .int (nI (j + 1))), (2, .int (nI 0)), (6, .int x60), (0, .ref mo), (1, .int (nI b)), (3, .int (nI i)), (4, .int (nI (sid c r b i)))]) hx hb dX9_goesRound_90 hl (k := 6) rfl (n_inc j 1) (by decide) rfl (fun ls hl => ?_)
            refine lv_goto (pc := 93) (tgt := 37) hx hb dX9_goesRound_93 (by decide) ?_
            exact ih37 (j + 1) false (by first | assumption | omega) (Or.inr c52) (by rw [andb, ← Bool.and_assoc, ← hy, c66, bsP_n hbn]; rfl) (by omega) _ (lv_sub hl [3, 4, 1, 5, 6, 0] rfl)
          obtain ⟨bb, hbb, rfl⟩ := oI_some ex60 c72
          have hl : lv_has ls 7 [(6, .int (nI bb)), (0, .ref mo), (1, .int (nI b)), (2, .int (zb y)), (3, .int (nI i)), (4, .int (nI (sid c r b i))), (5, .int (nI j))] := hl
          refine lv_aload_n (pc := 75) hx hb dX9_goesRound_75 rfl (lv_at hl 1 rfl) ?_
          refine lv_iload (pc := 76) hx hb dX9_goesRound_76 (lv_at hl 0 rfl) ?_
          refine ro_go (pc := 78) (va_runV (As := [.int (nI bb)]) (rest := []) ⟨hx, hb, hml, hown, hts⟩ (c_X9_isThin l D Y mo c r fs w bb (hf) (hC) (hf3) (bes_lt hC hl0 hbb)) (cwV 1 hts gX9_goesRound_X9_isThin rfl rfl rfl ⟨rfl, hdX9_isThin⟩ ⟨Nat.le_of_ble_eq_true rfl, Nat.le_of_ble_eq_true rfl⟩) (ro_pV hK hP (ro_recv hK hP (ci := 8) (q0 := 0) rfl rfl)) rfl rfl hl.1 rfl (lv_room (Nat.le_of_ble_eq_true rfl)) dX9_goesRound_78 ⟨Nat.le_of_ble_eq_true rfl, Nat.le_of_ble_eq_true rfl⟩) ?_
          refine z_if_eq (pc := 81) (tgt := 88) hx hb dX9_goesRound_81 (by decide) (fun c81 => ?_) (fun c81 => ?_)
          · refine lv_iconst (pc := 88) (v := nI 0) hx hb dX9_goesRound_88 rfl ?_
            refine lv_istore_n (pc := 89) (lv' := [(2, .int (nI 0)), (6, .int (nI bb)), (0, .ref mo), (1, .int (nI b)), (3, .int (nI i)), (4, .int (nI (sid c r b i))), (5, .int (nI j))]) hx hb dX9_goesRound_89 rfl hl (by decide) rfl (fun ls hl => ?_)
            refine lv_iinc (pc := 90) (v := nI (j + 1)) (lv' := [(5, .int (nI (j + 1))), (2, .int (nI 0)), (6, .int (nI bb)), (0, .ref mo), (1, .int (nI b)), (3, .int (nI i)), (4, .int (nI (sid c r b i)))]) hx hb dX9_goesRound_90 hl (k := 6) rfl (n_inc j 1) (by decide) rfl (fun ls hl => ?_)
            refine lv_goto (pc := 93) (tgt := 37) hx hb dX9_goesRound_93 (by decide) ?_
            exact ih37 (j + 1) false (by first | assumption | omega) (Or.inr c52) (by rw [andb, ← Bool.and_assoc, ← hy, c66, bsP_s hbb, c81]; rfl) (by omega) _ (lv_sub hl [3, 4, 1, 5, 6, 0] rfl)
          refine lv_iconst (pc := 84) (v := nI 1) hx hb dX9_goesRound_84 rfl ?_
          refine lv_goto (pc := 85) (tgt := 89) hx hb dX9_goesRound_85 (by decide) ?_
          refine lv_istore_n (pc := 89) (lv' := [(2, .int (nI 1)), (6, .int (nI bb)), (0, .ref mo), (1, .int (nI b)), (3, .int (nI i)), (4, .int (nI (sid c r b i))), (5, .int (nI j))]) hx hb dX9_goesRound_89 rfl hl (by decide) rfl (fun ls hl => ?_)
          refine lv_iinc (pc := 90) (v := nI (j + 1)) (lv' := [(5, .int (nI (j + 1))), (2, .int (nI 1)), (6, .int (nI bb)), (0, .ref mo), (1, .int (nI b)), (3, .int (nI i)), (4, .int (nI (sid c r b i)))]) hx hb dX9_goesRound_90 hl (k := 6) rfl (n_inc j 1) (by decide) rfl (fun ls hl => ?_)
          refine lv_goto (pc := 93) (tgt := 37) hx hb dX9_goesRound_93 (by decide) ?_
          exact ih37 (j + 1) true (by first | assumption | omega) (Or.inr c52) (by rw [andb, ← Bool.and_assoc, ← hy, c66, bsP_s hbb, c81]; rfl) (by omega) _ (lv_sub hl [3, 4, 1, 5, 6, 0] rfl)
      exact L37 ((2 - 0) + 1) 0 z (by first | assumption | omega) (Or.inl rfl) (by rw [show andb (bsP (thn c r w) c r (sid c r b i)) 0 = true from rfl, Bool.and_true]) (Nat.lt_succ_self _) _ (lv_sub hl [2, 3, 4, 5, 1, 0] rfl)
  exact L21 ((4 - 0) + 1) 0 true (by first | assumption | omega) (by rw [decide_eq_true c10]; rfl) (Nat.lt_succ_self _) _ (lv_sub hl [2, 3, 1, 0] rfl)
