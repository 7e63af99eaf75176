set_option maxHeartbeats 1200000 in
set_option maxRecDepth 100000 in
theorem c_X9_play (l : Launch) (D : va_G) (Y : vY) (mo : Nat) (th : Int32) (c : Nat) (r : Nat) (w : Int64) (pl : Nat) (n : Nat) (aML : Nat) (aMR : Nat) (aOW : Nat) (len : Nat) (aBU : Nat) (sn : Int32) (aSA : Nat) (aSZ : Nat) (aLP : Nat) (aOP : Nat) (aFT : Nat) (od : Int32) (aOL : Nat) (aRS : Nat) (aCD : Nat) (pw : Int64) (hs : Int64) (p : Nat) (d : Int) (li : Nat) (hC : Cr c r) (hl0 : li < al c r) (hp1 : p ≤ 1) : Mu l yX9_play wsX9_play ({ frames := 5, cells := 0, slots := 0, locals := 118 } : Room) [.ref mo, .int (nI li)] D Y [(mo, .inr (8, [.int th, .int (nI c), .int (nI r), .long w, .int (nI pl), .int (nI n), .ref aML, .ref aMR, .ref aOW, .int (nI len), .ref aBU, .int sn, .ref aSA, .ref aSZ, .ref aLP, .ref aOP, .ref aFT, .int od, .ref aOL, .ref aRS, .ref aCD, .long pw, .int (nI p), .int (iI d), .long hs]))] (fun _ : Unit => some (.int (zb (decide (gai c r pw li = 0))))) (fun _ : Unit => [(mo, .inr (8, [.int th, .int (nI c), .int (nI r), .long w, .int (nI pl), .int (nI n), .ref aML, .ref aMR, .ref aOW, .int (nI len), .ref aBU, .int sn, .ref aSA, .ref aSZ, .ref aLP, .ref aOP, .ref aFT, .int od, .ref aOL, .ref aRS, .ref aCD, .long (pw ||| b1 li), .int (nI (nxp (gai c r pw li) p)), .int (iI (d + dst p (gai c r pw li))), .long hs]))]) (fun _ : Unit => True) := by
  refine mu_intro (by decide +kernel) rfl (Nat.le_of_ble_eq_true rfl) [(0, .ref mo), (1, .int (nI li))] rfl ?_
  intro pG eG sG mG aG bG tG cG ls hx hb hr hml hts hown hlocks hK hP hD hS hl
  generalize hAA : adA [(mo, .inr (8, [.int th, .int (nI c), .int (nI r), .long w, .int (nI pl), .int (nI n), .ref aML, .ref aMR, .ref aOW, .int (nI len), .ref aBU, .int sn, .ref aSA, .ref aSZ, .ref aLP, .ref aOP, .ref aFT, .int od, .ref aOL, .ref aRS, .ref aCD, .long pw, .int (nI p), .int (iI d), .long hs]))] = AA at hD hS ⊢
  have hP : va_P D vwCl [(mo, .inr (8, [.int th, .int (nI c), .int (nI r), .long w, .int (nI pl), .int (nI n), .ref aML, .ref aMR, .ref aOW, .int (nI len), .ref aBU, .int sn, .ref aSA, .ref aSZ, .ref aLP, .ref aOP, .ref aFT, .int od, .ref aOL, .ref aRS, .ref aCD, .long pw, .int (nI p), .int (iI d), .long hs]))] sG.heap := hP
  have hD : va_D AA [(mo, .inr (8, [.int th, .int (nI c), .int (nI r), .long w, .int (nI pl), .int (nI n), .ref aML, .ref aMR, .ref aOW, .int (nI len), .ref aBU, .int sn, .ref aSA, .ref aSZ, .ref aLP, .ref aOP, .ref aFT, .int od, .ref aOL, .ref aRS, .ref aCD, .long pw, .int (nI p), .int (iI d), .long hs]))] := hD
  have hown : sG.vm.findClass RX9 = some mG.cls := hown
  have hl : lv_has ls 3 [(0, .ref mo), (1, .int (nI li))] := hl
  have hinX9 : ∀ w ∈ u_ws RX9 TX9 25, w ∈ wsX9_play := by decide +kernel
  have hS : va_S AA sG.heap sG.heap [] := hS
  obtain ⟨hq1, hq2, hq3, hq4, hq5, hq6, hq7, hq8, hq9, hq10, hq11⟩ := hC.q
  have hgl := gai_le c r pw li
  refine lv_aload_n (pc := 0) hx hb dX9_play_0 rfl (lv_at hl 0 rfl) ?_
  refine lv_iload_n (pc := 1) hx hb dX9_play_1 rfl (lv_at hl 1 rfl) ?_
  refine lv_aload_n (pc := 2) hx hb dX9_play_2 rfl (lv_at hl 0 rfl) ?_
  refine va_get (pc := 3) (D := D) (ci := 8) (v := .long pw) (C := RX9) (T := TX9) (N := 25) hx hb hts hinX9 hown hK.1 hP 0 rfl rfl 21 (by decide) (hts (.fieldLink RX9 288 "BoxesGameModel" "playedLines" "J") (List.mem_of_getElem? (i := 1) rfl)) (fun _ h9 => h9) rfl dX9_play_3 ?_
  refine ro_go (pc := 6) (va_runV (As := [.int (nI li), .long pw]) (rest := []) ⟨hx, hb, hml, hown, hts⟩ (c_X9_gains l D Y mo c r ([.int th, .int (nI c), .int (nI r), .long w, .int (nI pl), .int (nI n), .ref aML, .ref aMR, .ref aOW, .int (nI len), .ref aBU, .int sn, .ref aSA, .ref aSZ, .ref aLP, .ref aOP, .ref aFT, .int od, .ref aOL, .ref aRS, .ref aCD, .long pw, .int (nI p), .int (iI d), .long hs]) li pw (by first | assumption | exact ⟨rfl, rfl⟩) (hC) (hl0)) (cwV 2 hts gX9_play_X9_gains rfl rfl rfl ⟨rfl, hdX9_gains⟩ ⟨Nat.le_of_ble_eq_true rfl, Nat.le_of_ble_eq_true rfl⟩) (ro_pV hK hP (ro_recv hK hP (ci := 8) (q0 := 0) rfl rfl)) rfl rfl hl.1 rfl (lv_room (Nat.le_of_ble_eq_true rfl)) dX9_play_6 ⟨Nat.le_of_ble_eq_true rfl, Nat.le_of_ble_eq_true rfl⟩) ?_
  refine lv_istore_n (pc := 9) (lv' := [(2, .int (nI (gai c r pw li))), (0, .ref mo), (1, .int (nI li))]) hx hb dX9_play_9 rfl hl (by decide) rfl (fun ls hl => ?_)
  refine lv_aload_n (pc := 10) hx hb dX9_play_10 rfl (lv_at hl 1 rfl) ?_
  refine lv_dup (pc := 11) hx hb dX9_play_11 rfl ?_
  refine va_get (pc := 12) (D := D) (ci := 8) (v := .long pw) (C := RX9) (T := TX9) (N := 25) hx hb hts hinX9 hown hK.1 hP 0 rfl rfl 21 (by decide) (hts (.fieldLink RX9 288 "BoxesGameModel" "playedLines" "J") (List.mem_of_getElem? (i := 1) rfl)) (fun _ h9 => h9) rfl dX9_play_12 ?_
  refine lv_lconst (pc := 15) (v := 1) hx hb dX9_play_15 (by decide) ?_
  refine lv_iload_n (pc := 16) hx hb dX9_play_16 rfl (lv_at hl 2 rfl) ?_
  refine lv_lshl (pc := 17) (v := b1 li) hx hb dX9_play_17 (b1_shl li (by omega)) ?_
  refine lv_lor (pc := 18) hx hb dX9_play_18 ?_
  refine va_put (pc := 19) (D := D) (ci := 8) (v := .long (pw ||| (b1 li))) (ty := .long) (C := RX9) (T := TX9) (N := 25) hx hb hts hinX9 tyX9 tyX9_ok nmX9 hown hK.1 hP hD hS 0 rfl rfl 21 (by decide) (hts (.fieldLink RX9 288 "BoxesGameModel" "playedLines" "J") (List.mem_of_getElem? (i := 1) rfl)) (fun _ h9 => h9) rfl (by decide +kernel) (rfl) (rfl) (Nat.le_of_ble_eq_true rfl) dX9_play_19 (fun H locs hP hD hS => ?_)
  have hP : va_P D vwCl [(mo, .inr (8, [.int th, .int (nI c), .int (nI r), .long w, .int (nI pl), .int (nI n), .ref aML, .ref aMR, .ref aOW, .int (nI len), .ref aBU, .int sn, .ref aSA, .ref aSZ, .ref aLP, .ref aOP, .ref aFT, .int od, .ref aOL, .ref aRS, .ref aCD, .long (pw ||| (b1 li)), .int (nI p), .int (iI d), .long hs]))] H := hP
  have hD : va_D AA [(mo, .inr (8, [.int th, .int (nI c), .int (nI r), .long w, .int (nI pl), .int (nI n), .ref aML, .ref aMR, .ref aOW, .int (nI len), .ref aBU, .int sn, .ref aSA, .ref aSZ, .ref aLP, .ref aOP, .ref aFT, .int od, .ref aOL, .ref aRS, .ref aCD, .long (pw ||| (b1 li)), .int (nI p), .int (iI d), .long hs]))] := hD
  refine lv_aload_n (pc := 22) hx hb dX9_play_22 rfl (lv_at hl 1 rfl) ?_
  refine lv_dup (pc := 23) hx hb dX9_play_23 rfl ?_
  refine va_get (pc := 24) (D := D) (ci := 8) (v := .int (iI d)) (C := RX9) (T := TX9) (N := 25) hx hb hts hinX9 hown hK.1 hP 0 rfl rfl 23 (by decide) (hts (.fieldLink RX9 294 "BoxesGameModel" "ahead" "I") (List.mem_of_getElem? (i := 2) rfl)) (fun _ h9 => h9) rfl dX9_play_24 ?_
  refine lv_aload_n (pc := 27) hx hb dX9_play_27 rfl (lv_at hl 1 rfl) ?_
  refine va_get (pc := 28) (D := D) (ci := 8) (v := .int (nI p)) (C := RX9) (T := TX9) (N := 25) hx hb hts hinX9 hown hK.1 hP 0 rfl rfl 22 (by decide) (hts (.fieldLink RX9 291 "BoxesGameModel" "playedBy" "I") (List.mem_of_getElem? (i := 3) rfl)) (fun _ h9 => h9) rfl dX9_play_28 ?_
  refine n_if_ne (pc := 31) (tgt := 38) hx hb (by omega) dX9_play_31 (by decide) (fun c31 => ?_) (fun c31 => ?_)
  · refine lv_iload_n (pc := 38) hx hb dX9_play_38 rfl (lv_at hl 0 rfl) ?_
    refine lv_ineg (pc := 39) hx hb dX9_play_39 ?_
    refine lv_iadd (pc := 40) hx hb dX9_play_40 ?_
    refine top_i (show (iI d) + (-(nI (gai c r pw li))) = iI (d + dst p (gai c r pw li)) from by unfold dst; rw [if_neg (by omega), iI_nI, iI_neg, iI_add]) ?_
    refine va_put (pc := 41) (D := D) (ci := 8) (v := .int (iI (d + dst p (gai c r pw li)))) (ty := .int) (C := RX9) (T := TX9) (N := 25) hx hb hts hinX9 tyX9 tyX9_ok nmX9 hown hK.1 hP hD hS 0 rfl rfl 23 (by decide) (hts (.fieldLink RX9 294 "BoxesGameModel" "ahead" "I") (List.mem_of_getElem? (i := 2) rfl)) (fun _ h9 => h9) rfl (by decide +kernel) (rfl) (rfl) (Nat.le_of_ble_eq_true rfl) dX9_play_41 (fun H locs hP hD hS => ?_)
    have hP : va_P D vwCl [(mo, .inr (8, [.int th, .int (nI c), .int (nI r), .long w, .int (nI pl), .int (nI n), .ref aML, .ref aMR, .ref aOW, .int (nI len), .ref aBU, .int sn, .ref aSA, .ref aSZ, .ref aLP, .ref aOP, .ref aFT, .int od, .ref aOL, .ref aRS, .ref aCD, .long (pw ||| (b1 li)), .int (nI p), .int (iI (d + dst p (gai c r pw li))), .long hs]))] H := hP
    have hD : va_D AA [(mo, .inr (8, [.int th, .int (nI c), .int (nI r), .long w, .int (nI pl), .int (nI n), .ref aML, .ref aMR, .ref aOW, .int (nI len), .ref aBU, .int sn, .ref aSA, .ref aSZ, .ref aLP, .ref aOP, .ref aFT, .int od, .ref aOL, .ref aRS, .ref aCD, .long (pw ||| (b1 li)), .int (nI p), .int (iI (d + dst p (gai c r pw li))), .long hs]))] := hD
    refine lv_aload_n (pc := 44) hx hb dX9_play_44 rfl (lv_at hl 1 rfl) ?_
    refine lv_iload_n (pc := 45) hx hb dX9_play_45 rfl (lv_at hl 0 rfl) ?_
    refine n_if_le (pc := 46) (tgt := 56) hx hb (by omega) dX9_play_46 (by decide) (fun c46 => ?_) (fun c46 => ?_)
    · refine lv_iconst (pc := 56) (v := nI 1) hx hb dX9_play_56 rfl ?_
      refine lv_aload_n (pc := 57) hx hb dX9_play_57 rfl (lv_at hl 1 rfl) ?_
      refine va_get (pc := 58) (D := D) (ci := 8) (v := .int (nI p)) (C := RX9) (T := TX9) (N := 25) hx hb hts hinX9 hown hK.1 hP 0 rfl rfl 22 (by decide) (hts (.fieldLink RX9 291 "BoxesGameModel" "playedBy" "I") (List.mem_of_getElem? (i := 3) rfl)) (fun _ h9 => h9) rfl dX9_play_58 ?_
      refine n_isub (pc := 61) hx hb (hp1) dX9_play_61 ?_
      refine va_put (pc := 62) (D := D) (ci := 8) (v := .int (nI (1 - p))) (ty := .int) (C := RX9) (T := TX9) (N := 25) hx hb hts hinX9 tyX9 tyX9_ok nmX9 hown hK.1 hP hD hS 0 rfl rfl 22 (by decide) (hts (.fieldLink RX9 291 "BoxesGameModel" "playedBy" "I") (List.mem_of_getElem? (i := 3) rfl)) (fun _ h9 => h9) rfl (by decide +kernel) (rfl) (rfl) (Nat.le_of_ble_eq_true rfl) dX9_play_62 (fun H locs hP hD hS => ?_)
      have hP : va_P D vwCl [(mo, .inr (8, [.int th, .int (nI c), .int (nI r), .long w, .int (nI pl), .int (nI n), .ref aML, .ref aMR, .ref aOW, .int (nI len), .ref aBU, .int sn, .ref aSA, .ref aSZ, .ref aLP, .ref aOP, .ref aFT, .int od, .ref aOL, .ref aRS, .ref aCD, .long (pw ||| (b1 li)), .int (nI (1 - p)), .int (iI (d + dst p (gai c r pw li))), .long hs]))] H := hP
      have hD : va_D AA [(mo, .inr (8, [.int th, .int (nI c), .int (nI r), .long w, .int (nI pl), .int (nI n), .ref aML, .ref aMR, .ref aOW, .int (nI len), .ref aBU, .int sn, .ref aSA, .ref aSZ, .ref aLP, .ref aOP, .ref aFT, .int od, .ref aOL, .ref aRS, .ref aCD, .long (pw ||| (b1 li)), .int (nI (1 - p)), .int (iI (d + dst p (gai c r pw li))), .long hs]))] := hD
      refine lv_iload_n (pc := 65) hx hb dX9_play_65 rfl (lv_at hl 0 rfl) ?_
      refine n_if_ne (pc := 66) (tgt := 73) hx hb (by omega) dX9_play_66 (by decide) (fun c66 => ?_) (fun c66 => ?_)
      · exact absurd c66 (by omega)
      refine lv_iconst (pc := 69) (v := nI 1) hx hb dX9_play_69 rfl ?_
      refine lv_goto (pc := 70) (tgt := 74) hx hb dX9_play_70 (by decide) ?_
      subst hAA
      exact mu_zret hx hb hr hlocks hP hS (()) (zb_1 (decide_eq_true c66)) (rfl) (trivial) (by unfold nxp; rw [if_pos c46]) dX9_play_74
    refine lv_aload_n (pc := 49) hx hb dX9_play_49 rfl (lv_at hl 1 rfl) ?_
    refine va_get (pc := 50) (D := D) (ci := 8) (v := .int (nI p)) (C := RX9) (T := TX9) (N := 25) hx hb hts hinX9 hown hK.1 hP 0 rfl rfl 22 (by decide) (hts (.fieldLink RX9 291 "BoxesGameModel" "playedBy" "I") (List.mem_of_getElem? (i := 3) rfl)) (fun _ h9 => h9) rfl dX9_play_50 ?_
    refine lv_goto (pc := 53) (tgt := 62) hx hb dX9_play_53 (by decide) ?_
    refine va_put (pc := 62) (D := D) (ci := 8) (v := .int (nI p)) (ty := .int) (C := RX9) (T := TX9) (N := 25) hx hb hts hinX9 tyX9 tyX9_ok nmX9 hown hK.1 hP hD hS 0 rfl rfl 22 (by decide) (hts (.fieldLink RX9 291 "BoxesGameModel" "playedBy" "I") (List.mem_of_getElem? (i := 3) rfl)) (fun _ h9 => h9) rfl (by decide +kernel) (rfl) (rfl) (Nat.le_of_ble_eq_true rfl) dX9_play_62 (fun H locs hP hD hS => ?_)
    have hP : va_P D vwCl [(mo, .inr (8, [.int th, .int (nI c), .int (nI r), .long w, .int (nI pl), .int (nI n), .ref aML, .ref aMR, .ref aOW, .int (nI len), .ref aBU, .int sn, .ref aSA, .ref aSZ, .ref aLP, .ref aOP, .ref aFT, .int od, .ref aOL, .ref aRS, .ref aCD, .long (pw ||| (b1 li)), .int (nI p), .int (iI (d + dst p (gai c r pw li))), .long hs]))] H := hP
    have hD : va_D AA [(mo, .inr (8, [.int th, .int (nI c), .int (nI r), .long w, .int (nI pl), .int (nI n), .ref aML, .ref aMR, .ref aOW, .int (nI len), .ref aBU, .int sn, .ref aSA, .ref aSZ, .ref aLP, .ref aOP, .ref aFT, .int od, .ref aOL, .ref aRS, .ref aCD, .long (pw ||| (b1 li)), .int (nI p), .int (iI (d + dst p (gai c r pw li))), .long hs]))] := hD
    refine lv_iload_n (pc := 65) hx hb dX9_play_65 rfl (lv_at hl 0 rfl) ?_
    refine n_if_ne (pc := 66) (tgt := 73) hx hb (by omega) dX9_play_66 (by decide) (fun c66 => ?_) (fun c66 => ?_)
    · refine lv_iconst (pc := 73) (v := nI 0) hx hb dX9_play_73 rfl ?_
      subst hAA
      exact mu_zret hx hb hr hlocks hP hS (()) (zb_0 (decide_eq_false (by omega))) (rfl) (trivial) (by unfold nxp; rw [if_neg (by omega)]) dX9_play_74
    · exact absurd c46 (by omega)
  refine lv_iload_n (pc := 34) hx hb dX9_play_34 rfl (lv_at hl 0 rfl) ?_
  refine lv_goto (pc := 35) (tgt := 40) hx hb dX9_play_35 (by decide) ?_
  refine lv_iadd (pc := 40) hx hb dX9_play_40 ?_
  refine top_i (show (iI d) + (nI (gai c r pw li)) = iI (d + dst p (gai c r pw li)) from by unfold dst; rw [if_pos c31, iI_nI, iI_add]) ?_
  refine va_put (pc := 41) (D := D) (ci := 8) (v := .int (iI (d + dst p (gai c r pw li)))) (ty := .int) (C := RX9) (T := TX9) (N := 25) hx hb hts hinX9 tyX9 tyX9_ok nmX9 hown hK.1 hP hD hS 0 rfl rfl 23 (by decide) (hts (.fieldLink RX9 294 "BoxesGameModel" "ahead" "I") (List.mem_of_getElem? (i := 2) rfl)) (fun _ h9 => h9) rfl (by decide +kernel) (rfl) (rfl) (Nat.le_of_ble_eq_true rfl) dX9_play_41 (fun H locs hP hD hS => ?_)
  have hP : va_P D vwCl [(mo, .inr (8, [.int th, .int (nI c), .int (nI r), .long w, .int (nI pl), .int (nI n), .ref aML, .ref aMR, .ref aOW, .int (nI len), .ref aBU, .int sn, .ref aSA, .ref aSZ, .ref aLP, .ref aOP, .ref aFT, .int od, .ref aOL, .ref aRS, .ref aCD, .long (pw ||| (b1 li)), .int (nI p), .int (iI (d + dst p (gai c r pw li))), .long hs]))] H := hP
  have hD : va_D AA [(mo, .inr (8, [.int th, .int (nI c), .int (nI r), .long w, .int (nI pl), .int (nI n), .ref aML, .ref aMR, .ref aOW, .int (nI len), .ref aBU, .int sn, .ref aSA, .ref aSZ, .ref aLP, .ref aOP, .ref aFT, .int od, .ref aOL, .ref aRS, .ref aCD, .long (pw ||| (b1 li)), .int (nI p), .int (iI (d + dst p (gai c r pw li))), .long hs]))] := hD
  refine lv_aload_n (pc := 44) hx hb dX9_play_44 rfl (lv_at hl 1 rfl) ?_
  refine lv_iload_n (pc := 45) hx hb dX9_play_45 rfl (lv_at hl 0 rfl) ?_
  refine n_if_le (pc := 46) (tgt := 56) hx hb (by omega) dX9_play_46 (by decide) (fun c46 => ?_) (fun c46 => ?_)
  · refine lv_iconst (pc := 56) (v := nI 1) hx hb dX9_play_56 rfl ?_
    refine lv_aload_n (pc := 57) hx hb dX9_play_57 rfl (lv_at hl 1 rfl) ?_
    refine va_get (pc := 58) (D := D) (ci := 8) (v := .int (nI p)) (C := RX9) (T := TX9) (N := 25) hx hb hts hinX9 hown hK.1 hP 0 rfl rfl 22 (by decide) (hts (.fieldLink RX9 291 "BoxesGameModel" "playedBy" "I") (List.mem_of_getElem? (i := 3) rfl)) (fun _ h9 => h9) rfl dX9_play_58 ?_
    refine n_isub (pc := 61) hx hb (hp1) dX9_play_61 ?_
    refine va_put (pc := 62) (D := D) (ci := 8) (v := .int (nI (1 - p))) (ty := .int) (C := RX9) (T := TX9) (N := 25) hx hb hts hinX9 tyX9 tyX9_ok nmX9 hown hK.1 hP hD hS 0 rfl rfl 22 (by decide) (hts (.fieldLink RX9 291 "BoxesGameModel" "playedBy" "I") (List.mem_of_getElem? (i := 3) rfl)) (fun _ h9 => h9) rfl (by decide +kernel) (rfl) (rfl) (Nat.le_of_ble_eq_true rfl) dX9_play_62 (fun H locs hP hD hS => ?_)
    have hP : va_P D vwCl [(mo, .inr (8, [.int th, .int (nI c), .int (nI r), .long w, .int (nI pl), .int (nI n), .ref aML, .ref aMR, .ref aOW, .int (nI len), .ref aBU, .int sn, .ref aSA, .ref aSZ, .ref aLP, .ref aOP, .ref aFT, .int od, .ref aOL, .ref aRS, .ref aCD, .long (pw ||| (b1 li)), .int (nI (1 - p)), .int (iI (d + dst p (gai c r pw li))), .long hs]))] H := hP
    have hD : va_D AA [(mo, .inr (8, [.int th, .int (nI c), .int (nI r), .long w, .int (nI pl), .int (nI n), .ref aML, .ref aMR, .ref aOW, .int (nI len), .ref aBU, .int sn, .ref aSA, .ref aSZ, .ref aLP, .ref aOP, .ref aFT, .int od, .ref aOL, .ref aRS, .ref aCD, .long (pw ||| (b1 li)), .int (nI (1 - p)), .int (iI (d + dst p (gai c r pw li))), .long hs]))] := hD
    refine lv_iload_n (pc := 65) hx hb dX9_play_65 rfl (lv_at hl 0 rfl) ?_
    refine n_if_ne (pc := 66) (tgt := 73) hx hb (by omega) dX9_play_66 (by decide) (fun c66 => ?_) (fun c66 => ?_)
    · exact absurd c66 (by omega)
    refine lv_iconst (pc := 69) (v := nI 1) hx hb dX9_play_69 rfl ?_
    refine lv_goto (pc := 70) (tgt := 74) hx hb dX9_play_70 (by decide) ?_
    subst hAA
    exact mu_zret hx hb hr hlocks hP hS (()) (zb_1 (decide_eq_true c66)) (rfl) (trivial) (by unfold nxp; rw [if_pos c46]) dX9_play_74
  refine lv_aload_n (pc := 49) hx hb dX9_play_49 rfl (lv_at hl 1 rfl) ?_
  refine va_get (pc := 50) (D := D) (ci := 8) (v := .int (nI p)) (C := RX9) (T := TX9) (N := 25) hx hb hts hinX9 hown hK.1 hP 0 rfl rfl 22 (by decide) (hts (.fieldLink RX9 291 "BoxesGameModel" "playedBy" "I") (List.mem_of_getElem? (i := 3) rfl)) (fun _ h9 => h9) rfl dX9_play_50 ?_
  refine lv_goto (pc := 53) (tgt := 62) hx hb dX9_play_53 (by decide) ?_
  refine va_put (pc := 62) (D := D) (ci := 8) (v := .int (nI p)) (ty := .int) (C := RX9) (T := TX9) (N := 25) hx hb hts hinX9 tyX9 tyX9_ok nmX9 hown hK.1 hP hD hS 0 rfl rfl 22 (by decide) (hts (.fieldLink RX9 291 "BoxesGameModel" "playedBy" "I") (List.mem_of_getElem? (i := 3) rfl)) (fun _ h9 => h9) rfl (by decide +kernel) (rfl) (rfl) (Nat.le_of_ble_eq_true rfl) dX9_play_62 (fun H locs hP hD hS => ?_)
  have hP : va_P D vwCl [(mo, .inr (8, [.int th, .int (nI c), .int (nI r), .long w, .int (nI pl), .int (nI n), .ref aML, .ref aMR, .ref aOW, .int (nI len), .ref aBU, .int sn, .ref aSA, .ref aSZ, .ref aLP, .ref aOP, .ref aFT, .int od, .ref aOL, .ref aRS, .ref aCD, .long (pw ||| (b1 li)), .int (nI p), .int (iI (d + dst p (gai c r pw li))), .long hs]))] H := hP
  have hD : va_D AA [(mo, .inr (8, [.int th, .int (nI c), .int (nI r), .long w, .int (nI pl), .int (nI n), .ref aML, .ref aMR, .ref aOW, .int (nI len), .ref aBU, .int sn, .ref aSA, .ref aSZ, .ref aLP, .ref aOP, .ref aFT, .int od, .ref aOL, .ref aRS, .ref aCD, .long (pw ||| (b1 li)), .int (nI p), .int (iI (d + dst p (gai c r pw li))), .long hs]))] := hD
  refine lv_iload_n (pc := 65) hx hb dX9_play_65 rfl (lv_at hl 0 rfl) ?_
  refine n_if_ne (pc := 66) (tgt := 73) hx hb (by omega) dX9_play_66 (by decide) (fun c66 => ?_) (fun c66 => ?_)
  · refine lv_iconst (pc := 73) (v := nI 0) hx hb dX9_play_73 rfl ?_
    subst hAA
    exact mu_zret hx hb hr hlocks hP hS (()) (zb_0 (decide_eq_false (by omega))) (rfl) (trivial) (by unfold nxp; rw [if_neg (by omega)]) dX9_play_74
  · exact absurd c46 (by omega)

set_option maxHeartbeats 1200000 in
set_option maxRecDepth 100000 in
theorem c_X9_beginPlay (l : Launch) (D : va_G) (Y : vY) (mo : Nat) (th : Int32) (c : Nat) (r : Nat) (w : Int64) (pl : Nat) (n : Nat) (aML : Nat) (aMR : Nat) (aOW : Nat) (len : Nat) (aBU : Nat) (sn : Int32) (aSA : Nat) (aSZ : Nat) (aLP : Nat) (aOP : Nat) (aFT : Nat) (od : Int32) (aOL : Nat) (aRS : Nat) (aCD : Nat) (pw : Int64) (pb : Int32) (ah : Int32) (hs : Int64) (ow : Nat → Int32) (hC : Cr c r) : Mu l yX9_beginPlay wsX9_beginPlay ({ frames := 2, cells := 0, slots := 0, locals := 43 } : Room) [.ref mo] D Y [(mo, .inr (8, [.int th, .int (nI c), .int (nI r), .long w, .int (nI pl), .int (nI n), .ref aML, .ref aMR, .ref aOW, .int (nI len), .ref aBU, .int sn, .ref aSA, .ref aSZ, .ref aLP, .ref aOP, .ref aFT, .int od, .ref aOL, .ref aRS, .ref aCD, .long pw, .int pb, .int ah, .long hs])), (aOW, .inl (Y.1, 16, .inl ow))] (fun _ : Unit => none) (fun _ : Unit => [(mo, .inr (8, [.int th, .int (nI c), .int (nI r), .long w, .int (nI pl), .int (nI n), .ref aML, .ref aMR, .ref aOW, .int (nI len), .ref aBU, .int sn, .ref aSA, .ref aSZ, .ref aLP, .ref aOP, .ref aFT, .int od, .ref aOL, .ref aRS, .ref aCD, .long w, .int (nI pl), .int (iI (dfO c r ow)), .long hs])), (aOW, .inl (Y.1, 16, .inl ow))]) (fun _ : Unit => True) := by
  refine mu_intro (by decide +kernel) rfl (Nat.le_of_ble_eq_true rfl) [(0, .ref mo)] rfl ?_
  intro pG eG sG mG aG bG tG cG ls hx hb hr hml hts hown hlocks hK hP hD hS hl
  generalize hAA : adA [(mo, .inr (8, [.int th, .int (nI c), .int (nI r), .long w, .int (nI pl), .int (nI n), .ref aML, .ref aMR, .ref aOW, .int (nI len), .ref aBU, .int sn, .ref aSA, .ref aSZ, .ref aLP, .ref aOP, .ref aFT, .int od, .ref aOL, .ref aRS, .ref aCD, .long pw, .int pb, .int ah, .long hs])), (aOW, .inl (Y.1, 16, .inl ow))] = AA at hD hS ⊢
  have hP : va_P D vwCl [(mo, .inr (8, [.int th, .int (nI c), .int (nI r), .long w, .int (nI pl), .int (nI n), .ref aML, .ref aMR, .ref aOW, .int (nI len), .ref aBU, .int sn, .ref aSA, .ref aSZ, .ref aLP, .ref aOP, .ref aFT, .int od, .ref aOL, .ref aRS, .ref aCD, .long pw, .int pb, .int ah, .long hs])), (aOW, .inl (Y.1, 16, .inl ow))] sG.heap := hP
  have hD : va_D AA [(mo, .inr (8, [.int th, .int (nI c), .int (nI r), .long w, .int (nI pl), .int (nI n), .ref aML, .ref aMR, .ref aOW, .int (nI len), .ref aBU, .int sn, .ref aSA, .ref aSZ, .ref aLP, .ref aOP, .ref aFT, .int od, .ref aOL, .ref aRS, .ref aCD, .long pw, .int pb, .int ah, .long hs])), (aOW, .inl (Y.1, 16, .inl ow))] := hD
  have hown : sG.vm.findClass RX9 = some mG.cls := hown
  have hl : lv_has ls 1 [(0, .ref mo)] := hl
  have hinX9 : ∀ w ∈ u_ws RX9 TX9 25, w ∈ wsX9_beginPlay := by decide +kernel
  have hS : va_S AA sG.heap sG.heap [] := hS
  obtain ⟨hq1, hq2, hq3, hq4, hq5, hq6, hq7, hq8, hq9, hq10, hq11⟩ := hC.q
  refine lv_aload_n (pc := 0) hx hb dX9_beginPlay_0 rfl (lv_at hl 0 rfl) ?_
  refine lv_aload_n (pc := 1) hx hb dX9_beginPlay_1 rfl (lv_at hl 0 rfl) ?_
  refine va_get (pc := 2) (D := D) (ci := 8) (v := .long w) (C := RX9) (T := TX9) (N := 25) hx hb hts hinX9 hown hK.1 hP 0 rfl rfl 3 (by decide) (hts (.fieldLink RX9 119 "BoxesGameModel" "now" "J") (List.mem_of_getElem? (i := 1) rfl)) (fun _ h9 => h9) rfl dX9_beginPlay_2 ?_
  refine va_put (pc := 5) (D := D) (ci := 8) (v := .long w) (ty := .long) (C := RX9) (T := TX9) (N := 25) hx hb hts hinX9 tyX9 tyX9_ok nmX9 hown hK.1 hP hD hS 0 rfl rfl 21 (by decide) (hts (.fieldLink RX9 288 "BoxesGameModel" "playedLines" "J") (List.mem_of_getElem? (i := 2) rfl)) (fun _ h9 => h9) rfl (by decide +kernel) (rfl) (rfl) (Nat.le_of_ble_eq_true rfl) dX9_beginPlay_5 (fun H locs hP hD hS => ?_)
  have hP : va_P D vwCl [(mo, .inr (8, [.int th, .int (nI c), .int (nI r), .long w, .int (nI pl), .int (nI n), .ref aML, .ref aMR, .ref aOW, .int (nI len), .ref aBU, .int sn, .ref aSA, .ref aSZ, .ref aLP, .ref aOP, .ref aFT, .int od, .ref aOL, .ref aRS, .ref aCD, .long w, .int pb, .int ah, .long hs])), (aOW, .inl (Y.1, 16, .inl ow))] H := hP
  have hD : va_D AA [(mo, .inr (8, [.int th, .int (nI c), .int (nI r), .long w, .int (nI pl), .int (nI n), .ref aML, .ref aMR, .ref aOW, .int (nI len), .ref aBU, .int sn, .ref aSA, .ref aSZ, .ref aLP, .ref aOP, .ref aFT, .int od, .ref aOL, .ref aRS, .ref aCD, .long w, .int pb, .int ah, .long hs])), (aOW, .inl (Y.1, 16, .inl ow))] := hD
  refine lv_aload_n (pc := 8) hx hb dX9_beginPlay_8 rfl (lv_at hl 0 rfl) ?_
  refine lv_aload_n (pc := 9) hx hb dX9_beginPlay_9 rfl (lv_at hl 0 rfl) ?_
  refine va_get (pc := 10) (D := D) (ci := 8) (v := .int (nI pl)) (C := RX9) (T := TX9) (N := 25) hx hb hts hinX9 hown hK.1 hP 0 rfl rfl 4 (by decide) (hts (.fieldLink RX9 123 "BoxesGameModel" "player" "I") (List.mem_of_getElem? (i := 3) rfl)) (fun _ h9 => h9) rfl dX9_beginPlay_10 ?_
  refine va_put (pc := 13) (D := D) (ci := 8) (v := .int (nI pl)) (ty := .int) (C := RX9) (T := TX9) (N := 25) hx hb hts hinX9 tyX9 tyX9_ok nmX9 hown hK.1 hP hD hS 0 rfl rfl 22 (by decide) (hts (.fieldLink RX9 291 "BoxesGameModel" "playedBy" "I") (List.mem_of_getElem? (i := 4) rfl)) (fun _ h9 => h9) rfl (by decide +kernel) (rfl) (rfl) (Nat.le_of_ble_eq_true rfl) dX9_beginPlay_13 (fun H locs hP hD hS => ?_)
  have hP : va_P D vwCl [(mo, .inr (8, [.int th, .int (nI c), .int (nI r), .long w, .int (nI pl), .int (nI n), .ref aML, .ref aMR, .ref aOW, .int (nI len), .ref aBU, .int sn, .ref aSA, .ref aSZ, .ref aLP, .ref aOP, .ref aFT, .int od, .ref aOL, .ref aRS, .ref aCD, .long w, .int (nI pl), .int ah, .long hs])), (aOW, .inl (Y.1, 16, .inl ow))] H := hP
  have hD : va_D AA [(mo, .inr (8, [.int th, .int (nI c), .int (nI r), .long w, .int (nI pl), .int (nI n), .ref aML, .ref aMR, .ref aOW, .int (nI len), .ref aBU, .int sn, .ref aSA, .ref aSZ, .ref aLP, .ref aOP, .ref aFT, .int od, .ref aOL, .ref aRS, .ref aCD, .long w, .int (nI pl), .int ah, .long hs])), (aOW, .inl (Y.1, 16, .inl ow))] := hD
  refine lv_aload_n (pc := 16) hx hb dX9_beginPlay_16 rfl (lv_at hl 0 rfl) ?_
  refine lv_aload_n (pc := 17) hx hb dX9_beginPlay_17 rfl (lv_at hl 0 rfl) ?_
  refine lv_iconst (pc := 18) (v := nI 0) hx hb dX9_beginPlay_18 rfl ?_
  refine ro_go (pc := 19) (va_runV (As := [.int (nI 0)]) (rest := [.ref mo]) ⟨hx, hb, hml, hown, hts⟩ (c_X9_scoreOf l D Y mo c r ([.int th, .int (nI c), .int (nI r), .long w, .int (nI pl), .int (nI n), .ref aML, .ref aMR, .ref aOW, .int (nI len), .ref aBU, .int sn, .ref aSA, .ref aSZ, .ref aLP, .ref aOP, .ref aFT, .int od, .ref aOL, .ref aRS, .ref aCD, .long w, .int (nI pl), .int ah, .long hs]) aOW 0 ow (by first | assumption | exact ⟨rfl, rfl⟩) (hC) (by first | assumption | rfl)) (cwV 1 hts gX9_beginPlay_X9_scoreOf rfl rfl rfl ⟨rfl, hdX9_scoreOf⟩ ⟨Nat.le_of_ble_eq_true rfl, Nat.le_of_ble_eq_true rfl⟩) (ro_pV hK hP (ro_recv hK hP (ci := 8) (q0 := 0) rfl rfl)) rfl rfl hl.1 rfl (lv_room (Nat.le_of_ble_eq_true rfl)) dX9_beginPlay_19 ⟨Nat.le_of_ble_eq_true rfl, Nat.le_of_ble_eq_true rfl⟩) ?_
  refine lv_aload_n (pc := 22) hx hb dX9_beginPlay_22 rfl (lv_at hl 0 rfl) ?_
  refine lv_iconst (pc := 23) (v := nI 1) hx hb dX9_beginPlay_23 rfl ?_
  refine ro_go (pc := 24) (va_runV (As := [.int (nI 1)]) (rest := [.int (nI (sco ow 0 (c * r))), .ref mo]) ⟨hx, hb, hml, hown, hts⟩ (c_X9_scoreOf l D Y mo c r ([.int th, .int (nI c), .int (nI r), .long w, .int (nI pl), .int (nI n), .ref aML, .ref aMR, .ref aOW, .int (nI len), .ref aBU, .int sn, .ref aSA, .ref aSZ, .ref aLP, .ref aOP, .ref aFT, .int od, .ref aOL, .ref aRS, .ref aCD, .long w, .int (nI pl), .int ah, .long hs]) aOW 1 ow (by first | assumption | exact ⟨rfl, rfl⟩) (hC) (by first | assumption | rfl)) (cwV 1 hts gX9_beginPlay_X9_scoreOf rfl rfl rfl ⟨rfl, hdX9_scoreOf⟩ ⟨Nat.le_of_ble_eq_true rfl, Nat.le_of_ble_eq_true rfl⟩) (ro_pV hK hP (ro_recv hK hP (ci := 8) (q0 := 0) rfl rfl)) rfl rfl hl.1 rfl (lv_room (Nat.le_of_ble_eq_true rfl)) dX9_beginPlay_24 ⟨Nat.le_of_ble_eq_true rfl, Nat.le_of_ble_eq_true rfl⟩) ?_
  refine lv_isub (pc := 27) hx hb dX9_beginPlay_27 ?_
  refine top_i (show (nI (sco ow 0 (c * r))) - (nI (sco ow 1 (c * r))) = iI (dfO c r ow) from by unfold dfO; rw [iI_nI, iI_nI, iI_sub]) ?_
  refine va_put (pc := 28) (D := D) (ci := 8) (v := .int (iI (dfO c r ow))) (ty := .int) (C := RX9) (T := TX9) (N := 25) hx hb hts hinX9 tyX9 tyX9_ok nmX9 hown hK.1 hP hD hS 0 rfl rfl 23 (by decide) (hts (.fieldLink RX9 294 "BoxesGameModel" "ahead" "I") (List.mem_of_getElem? (i := 5) rfl)) (fun _ h9 => h9) rfl (by decide +kernel) (rfl) (rfl) (Nat.le_of_ble_eq_true rfl) dX9_beginPlay_28 (fun H locs hP hD hS => ?_)
  have hP : va_P D vwCl [(mo, .inr (8, [.int th, .int (nI c), .int (nI r), .long w, .int (nI pl), .int (nI n), .ref aML, .ref aMR, .ref aOW, .int (nI len), .ref aBU, .int sn, .ref aSA, .ref aSZ, .ref aLP, .ref aOP, .ref aFT, .int od, .ref aOL, .ref aRS, .ref aCD, .long w, .int (nI pl), .int (iI (dfO c r ow)), .long hs])), (aOW, .inl (Y.1, 16, .inl ow))] H := hP
  have hD : va_D AA [(mo, .inr (8, [.int th, .int (nI c), .int (nI r), .long w, .int (nI pl), .int (nI n), .ref aML, .ref aMR, .ref aOW, .int (nI len), .ref aBU, .int sn, .ref aSA, .ref aSZ, .ref aLP, .ref aOP, .ref aFT, .int od, .ref aOL, .ref aRS, .ref aCD, .long w, .int (nI pl), .int (iI (dfO c r ow)), .long hs])), (aOW, .inl (Y.1, 16, .inl ow))] := hD
  subst hAA
  exact mu_vret hx hb hr hlocks hP hS (()) (rfl) (trivial) (rfl) dX9_beginPlay_31

set_option maxHeartbeats 1200000 in
set_option maxRecDepth 100000 in
theorem c_X9_playout (l : Launch) (D : va_G) (Y : vY) (mo : Nat) (th : Int32) (c : Nat) (r : Nat) (w : Int64) (pl : Nat) (n : Nat) (aML : Nat) (aMR : Nat) (aOW : Nat) (len : Nat) (aBU : Nat) (sn : Int32) (aSA : Nat) (aSZ : Nat) (aLP : Nat) (aOP : Nat) (aFT : Nat) (od : Int32) (aOL : Nat) (aRS : Nat) (aCD : Nat) (pw : Int64) (pb : Int32) (ah : Int32) (hs : Int64) (ms : Nat → Nat) (ml : Nat → Int32) (mr : Nat → Int32) (ow : Nat → Int32) (ol : Nat → Int32) (rs : Nat → Int32) (x : Int32) (y : Int32) (v : Int32) (hC : Cr c r) (hM : MoR c r ms n w pl ml mr ow) : Mu l yX9_playout wsX9_playout ({ frames := 12, cells := 0, slots := 0, locals := 288 } : Room) [.ref mo, .int x, .int y, .int v] D Y [(mo, .inr (8, [.int th, .int (nI c), .int (nI r), .long w, .int (nI pl), .int (nI n), .ref aML, .ref aMR, .ref aOW, .int (nI len), .ref aBU, .int sn, .ref aSA, .ref aSZ, .ref aLP, .ref aOP, .ref aFT, .int od, .ref aOL, .ref aRS, .ref aCD, .long pw, .int pb, .int ah, .long hs])), (aOW, .inl (Y.1, 16, .inl ow)), (aOL, .inl (Y.1, 12, .inl ol)), (aRS, .inl (Y.1, 4096, .inl rs))] (fun uS : Int32 × Int32 × Int32 × Int64 × Int32 × Int32 × (Nat → Int32) × (Nat → Int32) => some (.int uS.2.1)) (fun uS : Int32 × Int32 × Int32 × Int64 × Int32 × Int32 × (Nat → Int32) × (Nat → Int32) => [(mo, .inr (8, [.int uS.1, .int (nI c), .int (nI r), .long w, .int (nI pl), .int (nI n), .ref aML, .ref aMR, .ref aOW, .int (nI len), .ref aBU, .int sn, .ref aSA, .ref aSZ, .ref aLP, .ref aOP, .ref aFT, .int uS.2.2.1, .ref aOL, .ref aRS, .ref aCD, .long uS.2.2.2.1, .int uS.2.2.2.2.1, .int uS.2.2.2.2.2.1, .long hs])), (aOW, .inl (Y.1, 16, .inl ow)), (aOL, .inl (Y.1, 12, .inl uS.2.2.2.2.2.2.1)), (aRS, .inl (Y.1, 4096, .inl uS.2.2.2.2.2.2.2))]) (fun uS : Int32 × Int32 × Int32 × Int64 × Int32 × Int32 × (Nat → Int32) × (Nat → Int32) => RvP (kD1 (wi x (nI 0) (nI 2) && (wi y (nI 0) (nI 2) && wi v (nI 0) (nI 2)))) uS.1 uS.2.1 (plV c r x.toNatClampNeg y.toNatClampNeg w pl (dfO c r (oH c r ms n)) v.toNatClampNeg)) := by
  refine mu_intro (by decide +kernel) rfl (Nat.le_of_ble_eq_true rfl) [(0, .ref mo), (1, .int x), (2, .int y), (3, .int v)] rfl ?_
  intro pG eG sG mG aG bG tG cG ls hx hb hr hml hts hown hlocks hK hP hD hS hl
  generalize hAA : adA [(mo, .inr (8, [.int th, .int (nI c), .int (nI r), .long w, .int (nI pl), .int (nI n), .ref aML, .ref aMR, .ref aOW, .int (nI len), .ref aBU, .int sn, .ref aSA, .ref aSZ, .ref aLP, .ref aOP, .ref aFT, .int od, .ref aOL, .ref aRS, .ref aCD, .long pw, .int pb, .int ah, .long hs])), (aOW, .inl (Y.1, 16, .inl ow)), (aOL, .inl (Y.1, 12, .inl ol)), (aRS, .inl (Y.1, 4096, .inl rs))] = AA at hD hS ⊢
  have hP : va_P D vwCl [(mo, .inr (8, [.int th, .int (nI c), .int (nI r), .long w, .int (nI pl), .int (nI n), .ref aML, .ref aMR, .ref aOW, .int (nI len), .ref aBU, .int sn, .ref aSA, .ref aSZ, .ref aLP, .ref aOP, .ref aFT, .int od, .ref aOL, .ref aRS, .ref aCD, .long pw, .int pb, .int ah, .long hs])), (aOW, .inl (Y.1, 16, .inl ow)), (aOL, .inl (Y.1, 12, .inl ol)), (aRS, .inl (Y.1, 4096, .inl rs))] sG.heap := hP
  have hD : va_D AA [(mo, .inr (8, [.int th, .int (nI c), .int (nI r), .long w, .int (nI pl), .int (nI n), .ref aML, .ref aMR, .ref aOW, .int (nI len), .ref aBU, .int sn, .ref aSA, .ref aSZ, .ref aLP, .ref aOP, .ref aFT, .int od, .ref aOL, .ref aRS, .ref aCD, .long pw, .int pb, .int ah, .long hs])), (aOW, .inl (Y.1, 16, .inl ow)), (aOL, .inl (Y.1, 12, .inl ol)), (aRS, .inl (Y.1, 4096, .inl rs))] := hD
  have hown : sG.vm.findClass RX9 = some mG.cls := hown
  have hl : lv_has ls 6 [(0, .ref mo), (1, .int x), (2, .int y), (3, .int v)] := hl
  have hinX9 : ∀ w ∈ u_ws RX9 TX9 25, w ∈ wsX9_playout := by decide +kernel
  have hS : va_S AA sG.heap sG.heap [] := hS
  obtain ⟨hq1, hq2, hq3, hq4, hq5, hq6, hq7, hq8, hq9, hq10, hq11⟩ := hC.q
  have hhu := hM.1.hund hC
  have hpl1 := hM.1.pl1
  have hn40 := hM.1.n40 hC
  have hob := hM.1.onb hC
  have hdf : dfO c r ow = dfO c r (oH c r ms n) := by unfold dfO; rw [hM.1.hsco hC, hM.1.hsco hC]
  refine lv_aload_n (pc := 0) hx hb dX9_playout_0 rfl (lv_at hl 0 rfl) ?_
  refine lv_iload_n (pc := 1) hx hb dX9_playout_1 rfl (lv_at hl 1 rfl) ?_
  refine ro_go (pc := 2) (va_runS (As := [.int x]) (rest := [.ref mo]) ⟨hx, hb, hml, hown, hts⟩ (c_X9_isStyle l D Y x ) (va_cwS 1 hts gX9_playout_X9_isStyle rfl rfl rfl hdX9_isStyle ⟨Nat.le_of_ble_eq_true rfl, Nat.le_of_ble_eq_true rfl⟩) (ro_pS hK (hP.sub [] rfl)) rfl rfl hl.1 rfl (lv_room (Nat.le_of_ble_eq_true rfl)) dX9_playout_2 ⟨Nat.le_of_ble_eq_true rfl, Nat.le_of_ble_eq_true rfl⟩) ?_
  refine z_if_eq (pc := 5) (tgt := 28) hx hb dX9_playout_5 (by decide) (fun c5 => ?_) (fun c5 => ?_)
  · refine lv_iconst (pc := 28) (v := nI 1) hx hb dX9_playout_28 rfl ?_
    refine va_put (pc := 29) (D := D) (ci := 8) (v := .int (nI 1)) (ty := .int) (C := RX9) (T := TX9) (N := 25) hx hb hts hinX9 tyX9 tyX9_ok nmX9 hown hK.1 hP hD hS 0 rfl rfl 0 (by decide) (hts (.fieldLink RX9 59 "BoxesGameModel" "thrown" "I") (List.mem_of_getElem? (i := 1) rfl)) (fun _ h9 => h9) rfl (by decide +kernel) (rfl) (rfl) (Nat.le_of_ble_eq_true rfl) dX9_playout_29 (fun H locs hP hD hS => ?_)
    have hP : va_P D vwCl [(mo, .inr (8, [.int (nI 1), .int (nI c), .int (nI r), .long w, .int (nI pl), .int (nI n), .ref aML, .ref aMR, .ref aOW, .int (nI len), .ref aBU, .int sn, .ref aSA, .ref aSZ, .ref aLP, .ref aOP, .ref aFT, .int od, .ref aOL, .ref aRS, .ref aCD, .long pw, .int pb, .int ah, .long hs])), (aOW, .inl (Y.1, 16, .inl ow)), (aOL, .inl (Y.1, 12, .inl ol)), (aRS, .inl (Y.1, 4096, .inl rs))] H := hP
    have hD : va_D AA [(mo, .inr (8, [.int (nI 1), .int (nI c), .int (nI r), .long w, .int (nI pl), .int (nI n), .ref aML, .ref aMR, .ref aOW, .int (nI len), .ref aBU, .int sn, .ref aSA, .ref aSZ, .ref aLP, .ref aOP, .ref aFT, .int od, .ref aOL, .ref aRS, .ref aCD, .long pw, .int pb, .int ah, .long hs])), (aOW, .inl (Y.1, 16, .inl ow)), (aOL, .inl (Y.1, 12, .inl ol)), (aRS, .inl (Y.1, 4096, .inl rs))] := hD
    refine lv_aload_n (pc := 32) hx hb dX9_playout_32 rfl (lv_at hl 0 rfl) ?_
    refine va_get (pc := 33) (D := D) (ci := 8) (v := .int (nI 1)) (C := RX9) (T := TX9) (N := 25) hx hb hts hinX9 hown hK.1 hP 0 rfl rfl 0 (by decide) (hts (.fieldLink RX9 59 "BoxesGameModel" "thrown" "I") (List.mem_of_getElem? (i := 1) rfl)) (fun _ h9 => h9) rfl dX9_playout_33 ?_
    refine n_if_le (pc := 36) (tgt := 41) hx hb (by omega) dX9_playout_36 (by decide) (fun c36 => ?_) (fun c36 => ?_)
    · exact absurd c36 (by decide)
    refine lv_iconst (pc := 39) (v := nI 0) hx hb dX9_playout_39 rfl ?_
    subst hAA
    exact mu_iret hx hb hr hlocks hP hS (⟨_, _, _, _, _, _, _, _⟩) (rfl) (RvP.no (kD1_f (by rw [c5]; rfl)) (by decide)) (rfl) dX9_playout_40
  obtain ⟨z9, hz9, rfl⟩ := wi_of (by decide) c5
  have hcz9 : (nI z9).toNatClampNeg = z9 := nI_clamp (by omega)
  have hl : lv_has ls 6 [(0, .ref mo), (1, .int (nI z9)), (2, .int y), (3, .int v)] := hl
  refine lv_iload_n (pc := 8) hx hb dX9_playout_8 rfl (lv_at hl 2 rfl) ?_
  refine ro_go (pc := 9) (va_runS (As := [.int y]) (rest := [.ref mo]) ⟨hx, hb, hml, hown, hts⟩ (c_X9_isStyle l D Y y ) (va_cwS 1 hts gX9_playout_X9_isStyle rfl rfl rfl hdX9_isStyle ⟨Nat.le_of_ble_eq_true rfl, Nat.le_of_ble_eq_true rfl⟩) (ro_pS hK (hP.sub [] rfl)) rfl rfl hl.1 rfl (lv_room (Nat.le_of_ble_eq_true rfl)) dX9_playout_9 ⟨Nat.le_of_ble_eq_true rfl, Nat.le_of_ble_eq_true rfl⟩) ?_
  refine z_if_eq (pc := 12) (tgt := 28) hx hb dX9_playout_12 (by decide) (fun c12 => ?_) (fun c12 => ?_)
  · refine lv_iconst (pc := 28) (v := nI 1) hx hb dX9_playout_28 rfl ?_
    refine va_put (pc := 29) (D := D) (ci := 8) (v := .int (nI 1)) (ty := .int) (C := RX9) (T := TX9) (N := 25) hx hb hts hinX9 tyX9 tyX9_ok nmX9 hown hK.1 hP hD hS 0 rfl rfl 0 (by decide) (hts (.fieldLink RX9 59 "BoxesGameModel" "thrown" "I") (List.mem_of_getElem? (i := 1) rfl)) (fun _ h9 => h9) rfl (by decide +kernel) (rfl) (rfl) (Nat.le_of_ble_eq_true rfl) dX9_playout_29 (fun H locs hP hD hS => ?_)
    have hP : va_P D vwCl [(mo, .inr (8, [.int (nI 1), .int (nI c), .int (nI r), .long w, .int (nI pl), .int (nI n), .ref aML, .ref aMR, .ref aOW, .int (nI len), .ref aBU, .int sn, .ref aSA, .ref aSZ, .ref aLP, .ref aOP, .ref aFT, .int od, .ref aOL, .ref aRS, .ref aCD, .long pw, .int pb, .int ah, .long hs])), (aOW, .inl (Y.1, 16, .inl ow)), (aOL, .inl (Y.1, 12, .inl ol)), (aRS, .inl (Y.1, 4096, .inl rs))] H := hP
    have hD : va_D AA [(mo, .inr (8, [.int (nI 1), .int (nI c), .int (nI r), .long w, .int (nI pl), .int (nI n), .ref aML, .ref aMR, .ref aOW, .int (nI len), .ref aBU, .int sn, .ref aSA, .ref aSZ, .ref aLP, .ref aOP, .ref aFT, .int od, .ref aOL, .ref aRS, .ref aCD, .long pw, .int pb, .int ah, .long hs])), (aOW, .inl (Y.1, 16, .inl ow)), (aOL, .inl (Y.1, 12, .inl ol)), (aRS, .inl (Y.1, 4096, .inl rs))] := hD
    refine lv_aload_n (pc := 32) hx hb dX9_playout_32 rfl (lv_at hl 0 rfl) ?_
    refine va_get (pc := 33) (D := D) (ci := 8) (v := .int (nI 1)) (C := RX9) (T := TX9) (N := 25) hx hb hts hinX9 hown hK.1 hP 0 rfl rfl 0 (by decide) (hts (.fieldLink RX9 59 "BoxesGameModel" "thrown" "I") (List.mem_of_getElem? (i := 1) rfl)) (fun _ h9 => h9) rfl dX9_playout_33 ?_
    refine n_if_le (pc := 36) (tgt := 41) hx hb (by omega) dX9_playout_36 (by decide) (fun c36 => ?_) (fun c36 => ?_)
    · exact absurd c36 (by decide)
    refine lv_iconst (pc := 39) (v := nI 0) hx hb dX9_playout_39 rfl ?_
    subst hAA
    exact mu_iret hx hb hr hlocks hP hS (⟨_, _, _, _, _, _, _, _⟩) (rfl) (RvP.no (kD1_f (by rw [c5, c12]; rfl)) (by decide)) (rfl) dX9_playout_40
  obtain ⟨o9, ho9, rfl⟩ := wi_of (by decide) c12
  have hco9 : (nI o9).toNatClampNeg = o9 := nI_clamp (by omega)
  have hl : lv_has ls 6 [(0, .ref mo), (1, .int (nI z9)), (2, .int (nI o9)), (3, .int v)] := hl
  refine lv_iload_n (pc := 15) hx hb dX9_playout_15 rfl (lv_at hl 3 rfl) ?_
  refine lv_iconst (pc := 16) (v := nI 0) hx hb dX9_playout_16 rfl ?_
  refine lv_iconst (pc := 17) (v := nI 2) hx hb dX9_playout_17 rfl ?_
  refine ro_go (pc := 18) (va_runS (As := [.int v, .int (nI 0), .int (nI 2)]) (rest := [.ref mo]) ⟨hx, hb, hml, hown, hts⟩ (c_X9_within l D Y v (nI 0) (nI 2) ) (va_cwS 3 hts gX9_playout_X9_within rfl rfl rfl hdX9_within ⟨Nat.le_of_ble_eq_true rfl, Nat.le_of_ble_eq_true rfl⟩) (ro_pS hK (hP.sub [] rfl)) rfl rfl hl.1 rfl (lv_room (Nat.le_of_ble_eq_true rfl)) dX9_playout_18 ⟨Nat.le_of_ble_eq_true rfl, Nat.le_of_ble_eq_true rfl⟩) ?_
  refine z_if_eq (pc := 21) (tgt := 28) hx hb dX9_playout_21 (by decide) (fun c21 => ?_) (fun c21 => ?_)
  · refine lv_iconst (pc := 28) (v := nI 1) hx hb dX9_playout_28 rfl ?_
    refine va_put (pc := 29) (D := D) (ci := 8) (v := .int (nI 1)) (ty := .int) (C := RX9) (T := TX9) (N := 25) hx hb hts hinX9 tyX9 tyX9_ok nmX9 hown hK.1 hP hD hS 0 rfl rfl 0 (by decide) (hts (.fieldLink RX9 59 "BoxesGameModel" "thrown" "I") (List.mem_of_getElem? (i := 1) rfl)) (fun _ h9 => h9) rfl (by decide +kernel) (rfl) (rfl) (Nat.le_of_ble_eq_true rfl) dX9_playout_29 (fun H locs hP hD hS => ?_)
    have hP : va_P D vwCl [(mo, .inr (8, [.int (nI 1), .int (nI c), .int (nI r), .long w, .int (nI pl), .int (nI n), .ref aML, .ref aMR, .ref aOW, .int (nI len), .ref aBU, .int sn, .ref aSA, .ref aSZ, .ref aLP, .ref aOP, .ref aFT, .int od, .ref aOL, .ref aRS, .ref aCD, .long pw, .int pb, .int ah, .long hs])), (aOW, .inl (Y.1, 16, .inl ow)), (aOL, .inl (Y.1, 12, .inl ol)), (aRS, .inl (Y.1, 4096, .inl rs))] H := hP
    have hD : va_D AA [(mo, .inr (8, [.int (nI 1), .int (nI c), .int (nI r), .long w, .int (nI pl), .int (nI n), .ref aML, .ref aMR, .ref aOW, .int (nI len), .ref aBU, .int sn, .ref aSA, .ref aSZ, .ref aLP, .ref aOP, .ref aFT, .int od, .ref aOL, .ref aRS, .ref aCD, .long pw, .int pb, .int ah, .long hs])), (aOW, .inl (Y.1, 16, .inl ow)), (aOL, .inl (Y.1, 12, .inl ol)), (aRS, .inl (Y.1, 4096, .inl rs))] := hD
    refine lv_aload_n (pc := 32) hx hb dX9_playout_32 rfl (lv_at hl 0 rfl) ?_
    refine va_get (pc := 33) (D := D) (ci := 8) (v := .int (nI 1)) (C := RX9) (T := TX9) (N := 25) hx hb hts hinX9 hown hK.1 hP 0 rfl rfl 0 (by decide) (hts (.fieldLink RX9 59 "BoxesGameModel" "thrown" "I") (List.mem_of_getElem? (i := 1) rfl)) (fun _ h9 => h9) rfl dX9_playout_33 ?_
    refine n_if_le (pc := 36) (tgt := 41) hx hb (by omega) dX9_playout_36 (by decide) (fun c36 => ?_) (fun c36 => ?_)
    · exact absurd c36 (by decide)
    refine lv_iconst (pc := 39) (v := nI 0) hx hb dX9_playout_39 rfl ?_
    subst hAA
    exact mu_iret hx hb hr hlocks hP hS (⟨_, _, _, _, _, _, _, _⟩) (rfl) (RvP.no (kD1_f (by rw [c5, c12, c21]; rfl)) (by decide)) (rfl) dX9_playout_40
  obtain ⟨ja, hja, rfl⟩ := wi_of (by decide) c21
  have hcja : (nI ja).toNatClampNeg = ja := nI_clamp (by omega)
  have hl : lv_has ls 6 [(0, .ref mo), (1, .int (nI z9)), (2, .int (nI o9)), (3, .int (nI ja))] := hl
  refine lv_iconst (pc := 24) (v := nI 0) hx hb dX9_playout_24 rfl ?_
  refine lv_goto (pc := 25) (tgt := 29) hx hb dX9_playout_25 (by decide) ?_
  refine va_put (pc := 29) (D := D) (ci := 8) (v := .int (nI 0)) (ty := .int) (C := RX9) (T := TX9) (N := 25) hx hb hts hinX9 tyX9 tyX9_ok nmX9 hown hK.1 hP hD hS 0 rfl rfl 0 (by decide) (hts (.fieldLink RX9 59 "BoxesGameModel" "thrown" "I") (List.mem_of_getElem? (i := 1) rfl)) (fun _ h9 => h9) rfl (by decide +kernel) (rfl) (rfl) (Nat.le_of_ble_eq_true rfl) dX9_playout_29 (fun H locs hP hD hS => ?_)
  have hP : va_P D vwCl [(mo, .inr (8, [.int (nI 0), .int (nI c), .int (nI r), .long w, .int (nI pl), .int (nI n), .ref aML, .ref aMR, .ref aOW, .int (nI len), .ref aBU, .int sn, .ref aSA, .ref aSZ, .ref aLP, .ref aOP, .ref aFT, .int od, .ref aOL, .ref aRS, .ref aCD, .long pw, .int pb, .int ah, .long hs])), (aOW, .inl (Y.1, 16, .inl ow)), (aOL, .inl (Y.1, 12, .inl ol)), (aRS, .inl (Y.1, 4096, .inl rs))] H := hP
  have hD : va_D AA [(mo, .inr (8, [.int (nI 0), .int (nI c), .int (nI r), .long w, .int (nI pl), .int (nI n), .ref aML, .ref aMR, .ref aOW, .int (nI len), .ref aBU, .int sn, .ref aSA, .ref aSZ, .ref aLP, .ref aOP, .ref aFT, .int od, .ref aOL, .ref aRS, .ref aCD, .long pw, .int pb, .int ah, .long hs])), (aOW, .inl (Y.1, 16, .inl ow)), (aOL, .inl (Y.1, 12, .inl ol)), (aRS, .inl (Y.1, 4096, .inl rs))] := hD
  refine lv_aload_n (pc := 32) hx hb dX9_playout_32 rfl (lv_at hl 0 rfl) ?_
  refine va_get (pc := 33) (D := D) (ci := 8) (v := .int (nI 0)) (C := RX9) (T := TX9) (N := 25) hx hb hts hinX9 hown hK.1 hP 0 rfl rfl 0 (by decide) (hts (.fieldLink RX9 59 "BoxesGameModel" "thrown" "I") (List.mem_of_getElem? (i := 1) rfl)) (fun _ h9 => h9) rfl dX9_playout_33 ?_
  refine n_if_le (pc := 36) (tgt := 41) hx hb (by omega) dX9_playout_36 (by decide) (fun c36 => ?_) (fun c36 => ?_)
  · refine lv_aload_n (pc := 41) hx hb dX9_playout_41 rfl (lv_at hl 0 rfl) ?_
    refine mu_go (pc := 42) (va_runV (As := []) (rest := []) ⟨hx, hb, hml, hown, hts⟩ (c_X9_beginPlay l D Y mo (nI 0) c r w pl n aML aMR aOW len aBU sn aSA aSZ aLP aOP aFT od aOL aRS aCD pw pb ah hs ow (hC)) (cwV 0 hts gX9_playout_X9_beginPlay rfl rfl rfl ⟨rfl, hdX9_beginPlay⟩ ⟨Nat.le_of_ble_eq_true rfl, Nat.le_of_ble_eq_true rfl⟩) (mu_pV hK (hP.sub [0, 1] rfl) (hD.sub [0, 1] (by decide) rfl) (ro_recv hK hP (ci := 8) (q0 := 0) rfl rfl)) rfl rfl hl.1 rfl (lv_room (Nat.le_of_ble_eq_true rfl)) dX9_playout_42 ⟨Nat.le_of_ble_eq_true rfl, Nat.le_of_ble_eq_true rfl⟩) hP hD hS [0, 1] rfl (by decide) (fun _ => [(mo, .inr (8, [.int (nI 0), .int (nI c), .int (nI r), .long w, .int (nI pl), .int (nI n), .ref aML, .ref aMR, .ref aOW, .int (nI len), .ref aBU, .int sn, .ref aSA, .ref aSZ, .ref aLP, .ref aOP, .ref aFT, .int od, .ref aOL, .ref aRS, .ref aCD, .long w, .int (nI pl), .int (iI (dfO c r ow)), .long hs])), (aOW, .inl (Y.1, 16, .inl ow)), (aOL, .inl (Y.1, 12, .inl ol)), (aRS, .inl (Y.1, 4096, .inl rs))]) (fun _ => rfl) (fun _ => rfl) (fun uS H locs hpost hP hD hS => ?_)
    have hP : va_P D vwCl [(mo, .inr (8, [.int (nI 0), .int (nI c), .int (nI r), .long w, .int (nI pl), .int (nI n), .ref aML, .ref aMR, .ref aOW, .int (nI len), .ref aBU, .int sn, .ref aSA, .ref aSZ, .ref aLP, .ref aOP, .ref aFT, .int od, .ref aOL, .ref aRS, .ref aCD, .long w, .int (nI pl), .int (iI (dfO c r ow)), .long hs])), (aOW, .inl (Y.1, 16, .inl ow)), (aOL, .inl (Y.1, 12, .inl ol)), (aRS, .inl (Y.1, 4096, .inl rs))] H := hP
    have hD : va_D AA [(mo, .inr (8, [.int (nI 0), .int (nI c), .int (nI r), .long w, .int (nI pl), .int (nI n), .ref aML, .ref aMR, .ref aOW, .int (nI len), .ref aBU, .int sn, .ref aSA, .ref aSZ, .ref aLP, .ref aOP, .ref aFT, .int od, .ref aOL, .ref aRS, .ref aCD, .long w, .int (nI pl), .int (iI (dfO c r ow)), .long hs])), (aOW, .inl (Y.1, 16, .inl ow)), (aOL, .inl (Y.1, 12, .inl ol)), (aRS, .inl (Y.1, 4096, .inl rs))] := hD
    refine lv_iconst (pc := 45) (v := nI 0) hx hb dX9_playout_45 rfl ?_
    refine lv_istore (pc := 46) (lv' := [(4, .int (nI 0)), (0, .ref mo), (1, .int (nI z9)), (2, .int (nI o9)), (3, .int (nI ja))]) hx hb dX9_playout_46 hl (by decide) rfl (fun ls hl => ?_)
    refine lv_iconst (pc := 48) (v := (-1)) hx hb dX9_playout_48 (by decide) ?_
    refine lv_istore (pc := 49) (lv' := [(5, .int (-1)), (4, .int (nI 0)), (0, .ref mo), (1, .int (nI z9)), (2, .int (nI o9)), (3, .int (nI ja))]) hx hb dX9_playout_49 hl (by decide) rfl (fun ls hl => ?_)
    have L51 : ∀ (n51 : Nat), ∀ (u : Int64) (p : Nat) (d : Int) (ch : Nat) (la : Int32) (od9 : Int32) (ol9 : Nat → Int32) (rs9 : Nat → Int32), (Onb c r u) → (p ≤ 1) → (plF c r z9 o9 (und c r u) u p d ch la = (plF c r z9 o9 (und c r w) w pl (dfO c r ow) 0 (-1))) → und c r u < n51 → ∀ (H : Heap) (locs : List Loc), va_P D vwCl [(mo, .inr (8, [.int (nI 0), .int (nI c), .int (nI r), .long w, .int (nI pl), .int (nI n), .ref aML, .ref aMR, .ref aOW, .int (nI len), .ref aBU, .int sn, .ref aSA, .ref aSZ, .ref aLP, .ref aOP, .ref aFT, .int od9, .ref aOL, .ref aRS, .ref aCD, .long u, .int (nI p), .int (iI d), .long hs])), (aOW, .inl (Y.1, 16, .inl ow)), (aOL, .inl (Y.1, 12, .inl ol9)), (aRS, .inl (Y.1, 4096, .inl rs9))] H → va_D AA [(mo, .inr (8, [.int (nI 0), .int (nI c), .int (nI r), .long w, .int (nI pl), .int (nI n), .ref aML, .ref aMR, .ref aOW, .int (nI len), .ref aBU, .int sn, .ref aSA, .ref aSZ, .ref aLP, .ref aOP, .ref aFT, .int od9, .ref aOL, .ref aRS, .ref aCD, .long u, .int (nI p), .int (iI d), .long hs])), (aOW, .inl (Y.1, 16, .inl ow)), (aOL, .inl (Y.1, 12, .inl ol9)), (aRS, .inl (Y.1, 4096, .inl rs9))] → va_S AA sG.heap H locs → ∀ (ls : Array Slot), lv_has ls 6 [(0, .ref mo), (1, .int (nI z9)), (2, .int (nI o9)), (3, .int (nI ja)), (4, .int (nI ch)), (5, .int la)] → W pG l eG ({ frames := 12, cells := 0, slots := 0, locals := 288 } : Room) sG mG aG bG tG cG H locs 0 0 (MQ bG (MuQ D [(mo, .inr (8, [.int th, .int (nI c), .int (nI r), .long w, .int (nI pl), .int (nI n), .ref aML, .ref aMR, .ref aOW, .int (nI len), .ref aBU, .int sn, .ref aSA, .ref aSZ, .ref aLP, .ref aOP, .ref aFT, .int od, .ref aOL, .ref aRS, .ref aCD, .long pw, .int pb, .int ah, .long hs])), (aOW, .inl (Y.1, 16, .inl ow)), (aOL, .inl (Y.1, 12, .inl ol)), (aRS, .inl (Y.1, 4096, .inl rs))] (fun uS : Int32 × Int32 × Int32 × Int64 × Int32 × Int32 × (Nat → Int32) × (Nat → Int32) => some (.int uS.2.1)) (fun uS : Int32 × Int32 × Int32 × Int64 × Int32 × Int32 × (Nat → Int32) × (Nat → Int32) => [(mo, .inr (8, [.int uS.1, .int (nI c), .int (nI r), .long w, .int (nI pl), .int (nI n), .ref aML, .ref aMR, .ref aOW, .int (nI len), .ref aBU, .int sn, .ref aSA, .ref aSZ, .ref aLP, .ref aOP, .ref aFT, .int uS.2.2.1, .ref aOL, .ref aRS, .ref aCD, .long uS.2.2.2.1, .int uS.2.2.2.2.1, .int uS.2.2.2.2.2.1, .long hs])), (aOW, .inl (Y.1, 16, .inl ow)), (aOL, .inl (Y.1, 12, .inl uS.2.2.2.2.2.2.1)), (aRS, .inl (Y.1, 4096, .inl uS.2.2.2.2.2.2.2))]) (fun uS : Int32 × Int32 × Int32 × Int64 × Int32 × Int32 × (Nat → Int32) × (Nat → Int32) => RvP (kD1 (wi (nI z9) (nI 0) (nI 2) && (wi (nI o9) (nI 0) (nI 2) && wi (nI ja) (nI 0) (nI 2)))) uS.1 uS.2.1 (plV c r (nI z9).toNatClampNeg (nI o9).toNatClampNeg w pl (dfO c r (oH c r ms n)) (nI ja).toNatClampNeg))) aG sG 0 0 AA) (F0 mG 51 ls []) := by
      intro n51
      induction n51 with
      | zero =>
        intro u p d ch la od9 ol9 rs9 hub hp1 hF hmeas51 H locs hP hD hS ls hl
        exact absurd hmeas51 (Nat.not_lt_zero _)
      | succ n51 ih51 =>
        intro u p d ch la od9 ol9 rs9 hub hp1 hF hmeas51 H locs hP hD hS ls hl
        refine lv_aload_n (pc := 51) hx hb dX9_playout_51 rfl (lv_at hl 0 rfl) ?_
        refine lv_aload_n (pc := 52) hx hb dX9_playout_52 rfl (lv_at hl 0 rfl) ?_
        refine va_get (pc := 53) (D := D) (ci := 8) (v := .long u) (C := RX9) (T := TX9) (N := 25) hx hb hts hinX9 hown hK.1 hP 0 rfl rfl 21 (by decide) (hts (.fieldLink RX9 288 "BoxesGameModel" "playedLines" "J") (List.mem_of_getElem? (i := 2) rfl)) (fun _ h9 => h9) rfl dX9_playout_53 ?_
        refine ro_go (pc := 56) (va_runV (As := [.long u]) (rest := []) ⟨hx, hb, hml, hown, hts⟩ (c_X9_open l D Y mo c r ([.int (nI 0), .int (nI c), .int (nI r), .long w, .int (nI pl), .int (nI n), .ref aML, .ref aMR, .ref aOW, .int (nI len), .ref aBU, .int sn, .ref aSA, .ref aSZ, .ref aLP, .ref aOP, .ref aFT, .int od9, .ref aOL, .ref aRS, .ref aCD, .long u, .int (nI p), .int (iI d), .long hs]) u (by first | assumption | exact ⟨rfl, rfl⟩) (hC) (hub)) (cwV 1 hts gX9_playout_X9_open rfl rfl rfl ⟨rfl, hdX9_open⟩ ⟨Nat.le_of_ble_eq_true rfl, Nat.le_of_ble_eq_true rfl⟩) (ro_pV hK (hP.sub [0] rfl) (ro_recv hK hP (ci := 8) (q0 := 0) rfl rfl)) rfl rfl hl.1 rfl (lv_room (Nat.le_of_ble_eq_true rfl)) dX9_playout_56 ⟨Nat.le_of_ble_eq_true rfl, Nat.le_of_ble_eq_true rfl⟩) ?_
        refine n_if_le (pc := 59) (tgt := 106) hx hb (by have := und_le c r u; omega) dX9_playout_59 (by decide) (fun c59 => ?_) (fun c59 => ?_)
        · have hend := pl_end c59 hF
          refine lv_iload_n (pc := 106) hx hb dX9_playout_106 rfl (lv_at hl 3 rfl) ?_
          refine n_if_ne (pc := 107) (tgt := 117) hx hb (by omega) dX9_playout_107 (by decide) (fun c107 => ?_) (fun c107 => ?_)
          · refine lv_iload_n (pc := 117) hx hb dX9_playout_117 rfl (lv_at hl 3 rfl) ?_
            refine lv_iconst (pc := 118) (v := nI 1) hx hb dX9_playout_118 rfl ?_
            refine n_icmp_ne (pc := 119) (tgt := 127) hx hb (by omega) (by decide) dX9_playout_119 (by decide) (fun c119 => ?_) (fun c119 => ?_)
            · refine lv_iload (pc := 127) hx hb dX9_playout_127 (lv_at hl 5 rfl) ?_
              subst hAA
              exact mu_iret hx hb hr hlocks hP hS (⟨_, _, _, _, _, _, _, _⟩) (rfl) (RvP.eq (kD1_t (by rw [c5, c12, c21]; rfl)) (by rw [hcz9, hco9, hcja]; unfold plV; rw [← hdf, hend]; rw [if_neg (by omega), if_neg c119]; try rfl)) (rfl) dX9_playout_129
            refine lv_iload (pc := 122) hx hb dX9_playout_122 (lv_at hl 4 rfl) ?_
            refine lv_goto (pc := 124) (tgt := 129) hx hb dX9_playout_124 (by decide) ?_
            subst hAA
            exact mu_iret hx hb hr hlocks hP hS (⟨_, _, _, _, _, _, _, _⟩) (rfl) (RvP.eq (kD1_t (by rw [c5, c12, c21]; rfl)) (by rw [hcz9, hco9, hcja]; unfold plV; rw [← hdf, hend]; rw [if_neg (by omega), if_pos c119]; try rfl)) (rfl) dX9_playout_129
          refine lv_aload_n (pc := 110) hx hb dX9_playout_110 rfl (lv_at hl 0 rfl) ?_
          refine va_get (pc := 111) (D := D) (ci := 8) (v := .int (iI d)) (C := RX9) (T := TX9) (N := 25) hx hb hts hinX9 hown hK.1 hP 0 rfl rfl 23 (by decide) (hts (.fieldLink RX9 294 "BoxesGameModel" "ahead" "I") (List.mem_of_getElem? (i := 4) rfl)) (fun _ h9 => h9) rfl dX9_playout_111 ?_
          refine lv_goto (pc := 114) (tgt := 129) hx hb dX9_playout_114 (by decide) ?_
          subst hAA
          exact mu_iret hx hb hr hlocks hP hS (⟨_, _, _, _, _, _, _, _⟩) (rfl) (RvP.eq (kD1_t (by rw [c5, c12, c21]; rfl)) (by rw [hcz9, hco9, hcja]; unfold plV; rw [← hdf, hend]; rw [if_pos c107]; try rfl)) (rfl) dX9_playout_129
        refine lv_aload_n (pc := 62) hx hb dX9_playout_62 rfl (lv_at hl 0 rfl) ?_
        refine lv_aload_n (pc := 63) hx hb dX9_playout_63 rfl (lv_at hl 0 rfl) ?_
        refine va_get (pc := 64) (D := D) (ci := 8) (v := .int (nI p)) (C := RX9) (T := TX9) (N := 25) hx hb hts hinX9 hown hK.1 hP 0 rfl rfl 22 (by decide) (hts (.fieldLink RX9 291 "BoxesGameModel" "playedBy" "I") (List.mem_of_getElem? (i := 3) rfl)) (fun _ h9 => h9) rfl dX9_playout_64 ?_
        refine n_if_ne (pc := 67) (tgt := 74) hx hb (by omega) dX9_playout_67 (by decide) (fun c67 => ?_) (fun c67 => ?_)
        · obtain ⟨bb, hbb, hbl, hbt⟩ := cho_ex (st := o9) hC (by omega : und c r u ≠ 0)
          refine lv_iload_n (pc := 74) hx hb dX9_playout_74 rfl (lv_at hl 2 rfl) ?_
          refine lv_aload_n (pc := 75) hx hb dX9_playout_75 rfl (lv_at hl 0 rfl) ?_
          refine va_get (pc := 76) (D := D) (ci := 8) (v := .long u) (C := RX9) (T := TX9) (N := 25) hx hb hts hinX9 hown hK.1 hP 0 rfl rfl 21 (by decide) (hts (.fieldLink RX9 288 "BoxesGameModel" "playedLines" "J") (List.mem_of_getElem? (i := 2) rfl)) (fun _ h9 => h9) rfl dX9_playout_76 ?_
          refine mu_go (pc := 79) (va_runV (As := [.int (nI o9), .long u]) (rest := []) ⟨hx, hb, hml, hown, hts⟩ (c_X9_choice l D Y mo (nI 0) c r w pl n aML aMR aOW len aBU sn aSA aSZ aLP aOP aFT aOL aRS aCD u (nI p) (iI d) hs od9 o9 u ol9 rs9 (hC) (by omega) (hub)) (cwV 2 hts gX9_playout_X9_choice rfl rfl rfl ⟨rfl, hdX9_choice⟩ ⟨Nat.le_of_ble_eq_true rfl, Nat.le_of_ble_eq_true rfl⟩) (mu_pV hK (hP.sub [0, 2, 3] rfl) (hD.sub [0, 2, 3] (by decide) rfl) (ro_recv hK hP (ci := 8) (q0 := 0) rfl rfl)) rfl rfl hl.1 rfl (lv_room (Nat.le_of_ble_eq_true rfl)) dX9_playout_79 ⟨Nat.le_of_ble_eq_true rfl, Nat.le_of_ble_eq_true rfl⟩) hP hD hS [0, 2, 3] rfl (by decide) (fun uS => [(mo, .inr (8, [.int (nI 0), .int (nI c), .int (nI r), .long w, .int (nI pl), .int (nI n), .ref aML, .ref aMR, .ref aOW, .int (nI len), .ref aBU, .int sn, .ref aSA, .ref aSZ, .ref aLP, .ref aOP, .ref aFT, .int uS.1, .ref aOL, .ref aRS, .ref aCD, .long u, .int (nI p), .int (iI d), .long hs])), (aOW, .inl (Y.1, 16, .inl ow)), (aOL, .inl (Y.1, 12, .inl uS.2.1)), (aRS, .inl (Y.1, 4096, .inl uS.2.2))]) (fun _ => rfl) (fun _ => rfl) (fun uS H locs hpost hP hD hS => ?_)
          obtain ⟨od2_79, ol2_79, rs2_79⟩ := uS
          refine top_i (show _ = oI (choM c r o9 u) from rfl) ?_
          have hP : va_P D vwCl [(mo, .inr (8, [.int (nI 0), .int (nI c), .int (nI r), .long w, .int (nI pl), .int (nI n), .ref aML, .ref aMR, .ref aOW, .int (nI len), .ref aBU, .int sn, .ref aSA, .ref aSZ, .ref aLP, .ref aOP, .ref aFT, .int od2_79, .ref aOL, .ref aRS, .ref aCD, .long u, .int (nI p), .int (iI d), .long hs])), (aOW, .inl (Y.1, 16, .inl ow)), (aOL, .inl (Y.1, 12, .inl ol2_79)), (aRS, .inl (Y.1, 4096, .inl rs2_79))] H := hP
          have hD : va_D AA [(mo, .inr (8, [.int (nI 0), .int (nI c), .int (nI r), .long w, .int (nI pl), .int (nI n), .ref aML, .ref aMR, .ref aOW, .int (nI len), .ref aBU, .int sn, .ref aSA, .ref aSZ, .ref aLP, .ref aOP, .ref aFT, .int od2_79, .ref aOL, .ref aRS, .ref aCD, .long u, .int (nI p), .int (iI d), .long hs])), (aOW, .inl (Y.1, 16, .inl ow)), (aOL, .inl (Y.1, 12, .inl ol2_79)), (aRS, .inl (Y.1, 4096, .inl rs2_79))] := hD
          refine lv_topi (fun x79 ex79 => ?_)
          have hxb : x79 = nI bb := by rw [ex79, hbb]; rfl
          subst hxb
          have hP : va_P D vwCl [(mo, .inr (8, [.int (nI 0), .int (nI c), .int (nI r), .long w, .int (nI pl), .int (nI n), .ref aML, .ref aMR, .ref aOW, .int (nI len), .ref aBU, .int sn, .ref aSA, .ref aSZ, .ref aLP, .ref aOP, .ref aFT, .int od2_79, .ref aOL, .ref aRS, .ref aCD, .long u, .int (nI p), .int (iI d), .long hs])), (aOW, .inl (Y.1, 16, .inl ow)), (aOL, .inl (Y.1, 12, .inl ol2_79)), (aRS, .inl (Y.1, 4096, .inl rs2_79))] H := hP
          have hD : va_D AA [(mo, .inr (8, [.int (nI 0), .int (nI c), .int (nI r), .long w, .int (nI pl), .int (nI n), .ref aML, .ref aMR, .ref aOW, .int (nI len), .ref aBU, .int sn, .ref aSA, .ref aSZ, .ref aLP, .ref aOP, .ref aFT, .int od2_79, .ref aOL, .ref aRS, .ref aCD, .long u, .int (nI p), .int (iI d), .long hs])), (aOW, .inl (Y.1, 16, .inl ow)), (aOL, .inl (Y.1, 12, .inl ol2_79)), (aRS, .inl (Y.1, 4096, .inl rs2_79))] := hD
          refine lv_istore (pc := 82) (lv' := [(5, .int (nI bb)), (0, .ref mo), (1, .int (nI z9)), (2, .int (nI o9)), (3, .int (nI ja)), (4, .int (nI ch))]) hx hb dX9_playout_82 hl (by decide) rfl (fun ls hl => ?_)
          refine lv_iload (pc := 84) hx hb dX9_playout_84 (lv_at hl 5 rfl) ?_
          refine lv_aload_n (pc := 86) hx hb dX9_playout_86 rfl (lv_at hl 1 rfl) ?_
          refine lv_iload (pc := 87) hx hb dX9_playout_87 (lv_at hl 0 rfl) ?_
          refine mu_go (pc := 89) (va_runV (As := [.int (nI bb)]) (rest := [.int (nI ch)]) ⟨hx, hb, hml, hown, hts⟩ (c_X9_play l D Y mo (nI 0) c r w pl n aML aMR aOW len aBU sn aSA aSZ aLP aOP aFT od2_79 aOL aRS aCD u hs p d bb (hC) (hbl) (hp1)) (cwV 1 hts gX9_playout_X9_play rfl rfl rfl ⟨rfl, hdX9_play⟩ ⟨Nat.le_of_ble_eq_true rfl, Nat.le_of_ble_eq_true rfl⟩) (mu_pV hK (hP.sub [0] rfl) (hD.sub [0] (by decide) rfl) (ro_recv hK hP (ci := 8) (q0 := 0) rfl rfl)) rfl rfl hl.1 rfl (lv_room (Nat.le_of_ble_eq_true rfl)) dX9_playout_89 ⟨Nat.le_of_ble_eq_true rfl, Nat.le_of_ble_eq_true rfl⟩) hP hD hS [0] rfl (by decide) (fun _ => [(mo, .inr (8, [.int (nI 0), .int (nI c), .int (nI r), .long w, .int (nI pl), .int (nI n), .ref aML, .ref aMR, .ref aOW, .int (nI len), .ref aBU, .int sn, .ref aSA, .ref aSZ, .ref aLP, .ref aOP, .ref aFT, .int od2_79, .ref aOL, .ref aRS, .ref aCD, .long (u ||| b1 bb), .int (nI (nxp (gai c r u bb) p)), .int (iI (d + dst p (gai c r u bb))), .long hs])), (aOW, .inl (Y.1, 16, .inl ow)), (aOL, .inl (Y.1, 12, .inl ol2_79)), (aRS, .inl (Y.1, 4096, .inl rs2_79))]) (fun _ => rfl) (fun _ => rfl) (fun uS H locs hpost hP hD hS => ?_)
          have hP : va_P D vwCl [(mo, .inr (8, [.int (nI 0), .int (nI c), .int (nI r), .long w, .int (nI pl), .int (nI n), .ref aML, .ref aMR, .ref aOW, .int (nI len), .ref aBU, .int sn, .ref aSA, .ref aSZ, .ref aLP, .ref aOP, .ref aFT, .int od2_79, .ref aOL, .ref aRS, .ref aCD, .long (u ||| b1 bb), .int (nI (nxp (gai c r u bb) p)), .int (iI (d + dst p (gai c r u bb))), .long hs])), (aOW, .inl (Y.1, 16, .inl ow)), (aOL, .inl (Y.1, 12, .inl ol2_79)), (aRS, .inl (Y.1, 4096, .inl rs2_79))] H := hP
          have hD : va_D AA [(mo, .inr (8, [.int (nI 0), .int (nI c), .int (nI r), .long w, .int (nI pl), .int (nI n), .ref aML, .ref aMR, .ref aOW, .int (nI len), .ref aBU, .int sn, .ref aSA, .ref aSZ, .ref aLP, .ref aOP, .ref aFT, .int od2_79, .ref aOL, .ref aRS, .ref aCD, .long (u ||| b1 bb), .int (nI (nxp (gai c r u bb) p)), .int (iI (d + dst p (gai c r u bb))), .long hs])), (aOW, .inl (Y.1, 16, .inl ow)), (aOL, .inl (Y.1, 12, .inl ol2_79)), (aRS, .inl (Y.1, 4096, .inl rs2_79))] := hD
          refine z_if_eq (pc := 92) (tgt := 99) hx hb dX9_playout_92 (by decide) (fun c92 => ?_) (fun c92 => ?_)
          · refine lv_iconst (pc := 99) (v := nI 0) hx hb dX9_playout_99 rfl ?_
            refine n_iadd (pc := 100) hx hb dX9_playout_100 ?_
            refine lv_istore (pc := 101) (lv' := [(4, .int (nI (ch + 0))), (5, .int (nI bb)), (0, .ref mo), (1, .int (nI z9)), (2, .int (nI o9)), (3, .int (nI ja))]) hx hb dX9_playout_101 hl (by decide) rfl (fun ls hl => ?_)
            refine lv_goto (pc := 103) (tgt := 51) hx hb dX9_playout_103 (by decide) ?_
            exact ih51 (u ||| b1 bb) (nxp (gai c r u bb) p) (d + dst p (gai c r u bb)) (ch + 0) (nI bb) od2_79 ol2_79 rs2_79 (onb_or hC hub hbl) (nxp_le hp1) (by rw [← hF]; exact pl_s hC hbl hbt (by rw [if_neg (by omega)]; exact hbb) (by rw [if_neg (of_decide_eq_false c92)])) (by have := und_step hC hbl hbt; omega) _ _ hP hD hS _ (lv_sub hl [2, 3, 4, 5, 0, 1] rfl)
          refine lv_iconst (pc := 95) (v := nI 1) hx hb dX9_playout_95 rfl ?_
          refine lv_goto (pc := 96) (tgt := 100) hx hb dX9_playout_96 (by decide) ?_
          refine n_iadd (pc := 100) hx hb dX9_playout_100 ?_
          refine lv_istore (pc := 101) (lv' := [(4, .int (nI (ch + 1))), (5, .int (nI bb)), (0, .ref mo), (1, .int (nI z9)), (2, .int (nI o9)), (3, .int (nI ja))]) hx hb dX9_playout_101 hl (by decide) rfl (fun ls hl => ?_)
          refine lv_goto (pc := 103) (tgt := 51) hx hb dX9_playout_103 (by decide) ?_
          exact ih51 (u ||| b1 bb) (nxp (gai c r u bb) p) (d + dst p (gai c r u bb)) (ch + 1) (nI bb) od2_79 ol2_79 rs2_79 (onb_or hC hub hbl) (nxp_le hp1) (by rw [← hF]; exact pl_s hC hbl hbt (by rw [if_neg (by omega)]; exact hbb) (by rw [if_pos (of_decide_eq_true c92)])) (by have := und_step hC hbl hbt; omega) _ _ hP hD hS _ (lv_sub hl [2, 3, 4, 5, 0, 1] rfl)
        obtain ⟨bb, hbb, hbl, hbt⟩ := cho_ex (st := z9) hC (by omega : und c r u ≠ 0)
        refine lv_iload_n (pc := 70) hx hb dX9_playout_70 rfl (lv_at hl 1 rfl) ?_
        refine lv_goto (pc := 71) (tgt := 75) hx hb dX9_playout_71 (by decide) ?_
        refine lv_aload_n (pc := 75) hx hb dX9_playout_75 rfl (lv_at hl 0 rfl) ?_
        refine va_get (pc := 76) (D := D) (ci := 8) (v := .long u) (C := RX9) (T := TX9) (N := 25) hx hb hts hinX9 hown hK.1 hP 0 rfl rfl 21 (by decide) (hts (.fieldLink RX9 288 "BoxesGameModel" "playedLines" "J") (List.mem_of_getElem? (i := 2) rfl)) (fun _ h9 => h9) rfl dX9_playout_76 ?_
        refine mu_go (pc := 79) (va_runV (As := [.int (nI z9), .long u]) (rest := []) ⟨hx, hb, hml, hown, hts⟩ (c_X9_choice l D Y mo (nI 0) c r w pl n aML aMR aOW len aBU sn aSA aSZ aLP aOP aFT aOL aRS aCD u (nI p) (iI d) hs od9 z9 u ol9 rs9 (hC) (by omega) (hub)) (cwV 2 hts gX9_playout_X9_choice rfl rfl rfl ⟨rfl, hdX9_choice⟩ ⟨Nat.le_of_ble_eq_true rfl, Nat.le_of_ble_eq_true rfl⟩) (mu_pV hK (hP.sub [0, 2, 3] rfl) (hD.sub [0, 2, 3] (by decide) rfl) (ro_recv hK hP (ci := 8) (q0 := 0) rfl rfl)) rfl rfl hl.1 rfl (lv_room (Nat.le_of_ble_eq_true rfl)) dX9_playout_79 ⟨Nat.le_of_ble_eq_true rfl, Nat.le_of_ble_eq_true rfl⟩) hP hD hS [0, 2, 3] rfl (by decide) (fun uS => [(mo, .inr (8, [.int (nI 0), .int (nI c), .int (nI r), .long w, .int (nI pl), .int (nI n), .ref aML, .ref aMR, .ref aOW, .int (nI len), .ref aBU, .int sn, .ref aSA, .ref aSZ, .ref aLP, .ref aOP, .ref aFT, .int uS.1, .ref aOL, .ref aRS, .ref aCD, .long u, .int (nI p), .int (iI d), .long hs])), (aOW, .inl (Y.1, 16, .inl ow)), (aOL, .inl (Y.1, 12, .inl uS.2.1)), (aRS, .inl (Y.1, 4096, .inl uS.2.2))]) (fun _ => rfl) (fun _ => rfl) (fun uS H locs hpost hP hD hS => ?_)
        obtain ⟨od2_79, ol2_79, rs2_79⟩ := uS
        refine top_i (show _ = oI (choM c r z9 u) from rfl) ?_
        have hP : va_P D vwCl [(mo, .inr (8, [.int (nI 0), .int (nI c), .int (nI r), .long w, .int (nI pl), .int (nI n), .ref aML, .ref aMR, .ref aOW, .int (nI len), .ref aBU, .int sn, .ref aSA, .ref aSZ, .ref aLP, .ref aOP, .ref aFT, .int od2_79, .ref aOL, .ref aRS, .ref aCD, .long u, .int (nI p), .int (iI d), .long hs])), (aOW, .inl (Y.1, 16, .inl ow)), (aOL, .inl (Y.1, 12, .inl ol2_79)), (aRS, .inl (Y.1, 4096, .inl rs2_79))] H := hP
        have hD : va_D AA [(mo, .inr (8, [.int (nI 0), .int (nI c), .int (nI r), .long w, .int (nI pl), .int (nI n), .ref aML, .ref aMR, .ref aOW, .int (nI len), .ref aBU, .int sn, .ref aSA, .ref aSZ, .ref aLP, .ref aOP, .ref aFT, .int od2_79, .ref aOL, .ref aRS, .ref aCD, .long u, .int (nI p), .int (iI d), .long hs])), (aOW, .inl (Y.1, 16, .inl ow)), (aOL, .inl (Y.1, 12, .inl ol2_79)), (aRS, .inl (Y.1, 4096, .inl rs2_79))] := hD
        refine lv_topi (fun x79 ex79 => ?_)
        have hxb : x79 = nI bb := by rw [ex79, hbb]; rfl
        subst hxb
        have hP : va_P D vwCl [(mo, .inr (8, [.int (nI 0), .int (nI c), .int (nI r), .long w, .int (nI pl), .int (nI n), .ref aML, .ref aMR, .ref aOW, .int (nI len), .ref aBU, .int sn, .ref aSA, .ref aSZ, .ref aLP, .ref aOP, .ref aFT, .int od2_79, .ref aOL, .ref aRS, .ref aCD, .long u, .int (nI p), .int (iI d), .long hs])), (aOW, .inl (Y.1, 16, .inl ow)), (aOL, .inl (Y.1, 12, .inl ol2_79)), (aRS, .inl (Y.1, 4096, .inl rs2_79))] H := hP
        have hD : va_D AA [(mo, .inr (8, [.int (nI 0), .int (nI c), .int (nI r), .long w, .int (nI pl), .int (nI n), .ref aML, .ref aMR, .ref aOW, .int (nI len), .ref aBU, .int sn, .ref aSA, .ref aSZ, .ref aLP, .ref aOP, .ref aFT, .int od2_79, .ref aOL, .ref aRS, .ref aCD, .long u, .int (nI p), .int (iI d), .long hs])), (aOW, .inl (Y.1, 16, .inl ow)), (aOL, .inl (Y.1, 12, .inl ol2_79)), (aRS, .inl (Y.1, 4096, .inl rs2_79))] := hD
        refine lv_istore (pc := 82) (lv' := [(5, .int (nI bb)), (0, .ref mo), (1, .int (nI z9)), (2, .int (nI o9)), (3, .int (nI ja)), (4, .int (nI ch))]) hx hb dX9_playout_82 hl (by decide) rfl (fun ls hl => ?_)
        refine lv_iload (pc := 84) hx hb dX9_playout_84 (lv_at hl 5 rfl) ?_
        refine lv_aload_n (pc := 86) hx hb dX9_playout_86 rfl (lv_at hl 1 rfl) ?_
        refine lv_iload (pc := 87) hx hb dX9_playout_87 (lv_at hl 0 rfl) ?_
        refine mu_go (pc := 89) (va_runV (As := [.int (nI bb)]) (rest := [.int (nI ch)]) ⟨hx, hb, hml, hown, hts⟩ (c_X9_play l D Y mo (nI 0) c r w pl n aML aMR aOW len aBU sn aSA aSZ aLP aOP aFT od2_79 aOL aRS aCD u hs p d bb (hC) (hbl) (hp1)) (cwV 1 hts gX9_playout_X9_play rfl rfl rfl ⟨rfl, hdX9_play⟩ ⟨Nat.le_of_ble_eq_true rfl, Nat.le_of_ble_eq_true rfl⟩) (mu_pV hK (hP.sub [0] rfl) (hD.sub [0] (by decide) rfl) (ro_recv hK hP (ci := 8) (q0 := 0) rfl rfl)) rfl rfl hl.1 rfl (lv_room (Nat.le_of_ble_eq_true rfl)) dX9_playout_89 ⟨Nat.le_of_ble_eq_true rfl, Nat.le_of_ble_eq_true rfl⟩) hP hD hS [0] rfl (by decide) (fun _ => [(mo, .inr (8, [.int (nI 0), .int (nI c), .int (nI r), .long w, .int (nI pl), .int (nI n), .ref aML, .ref aMR, .ref aOW, .int (nI len), .ref aBU, .int sn, .ref aSA, .ref aSZ, .ref aLP, .ref aOP, .ref aFT, .int od2_79, .ref aOL, .ref aRS, .ref aCD, .long (u ||| b1 bb), .int (nI (nxp (gai c r u bb) p)), .int (iI (d + dst p (gai c r u bb))), .long hs])), (aOW, .inl (Y.1, 16, .inl ow)), (aOL, .inl (Y.1, 12, .inl ol2_79)), (aRS, .inl (Y.1, 4096, .inl rs2_79))]) (fun _ => rfl) (fun _ => rfl) (fun uS H locs hpost hP hD hS => ?_)
        have hP : va_P D vwCl [(mo, .inr (8, [.int (nI 0), .int (nI c), .int (nI r), .long w, .int (nI pl), .int (nI n), .ref aML, .ref aMR, .ref aOW, .int (nI len), .ref aBU, .int sn, .ref aSA, .ref aSZ, .ref aLP, .ref aOP, .ref aFT, .int od2_79, .ref aOL, .ref aRS, .ref aCD, .long (u ||| b1 bb), .int (nI (nxp (gai c r u bb) p)), .int (iI (d + dst p (gai c r u bb))), .long hs])), (aOW, .inl (Y.1, 16, .inl ow)), (aOL, .inl (Y.1, 12, .inl ol2_79)), (aRS, .inl (Y.1, 4096, .inl rs2_79))] H := hP
        have hD : va_D AA [(mo, .inr (8, [.int (nI 0), .int (nI c), .int (nI r), .long w, .int (nI pl), .int (nI n), .ref aML, .ref aMR, .ref aOW, .int (nI len), .ref aBU, .int sn, .ref aSA, .ref aSZ, .ref aLP, .ref aOP, .ref aFT, .int od2_79, .ref aOL, .ref aRS, .ref aCD, .long (u ||| b1 bb), .int (nI (nxp (gai c r u bb) p)), .int (iI (d + dst p (gai c r u bb))), .long hs])), (aOW, .inl (Y.1, 16, .inl ow)), (aOL, .inl (Y.1, 12, .inl ol2_79)), (aRS, .inl (Y.1, 4096, .inl rs2_79))] := hD
        refine z_if_eq (pc := 92) (tgt := 99) hx hb dX9_playout_92 (by decide) (fun c92 => ?_) (fun c92 => ?_)
        · refine lv_iconst (pc := 99) (v := nI 0) hx hb dX9_playout_99 rfl ?_
          refine n_iadd (pc := 100) hx hb dX9_playout_100 ?_
          refine lv_istore (pc := 101) (lv' := [(4, .int (nI (ch + 0))), (5, .int (nI bb)), (0, .ref mo), (1, .int (nI z9)), (2, .int (nI o9)), (3, .int (nI ja))]) hx hb dX9_playout_101 hl (by decide) rfl (fun ls hl => ?_)
          refine lv_goto (pc := 103) (tgt := 51) hx hb dX9_playout_103 (by decide) ?_
          exact ih51 (u ||| b1 bb) (nxp (gai c r u bb) p) (d + dst p (gai c r u bb)) (ch + 0) (nI bb) od2_79 ol2_79 rs2_79 (onb_or hC hub hbl) (nxp_le hp1) (by rw [← hF]; exact pl_s hC hbl hbt (by rw [if_pos c67]; exact hbb) (by rw [if_neg (of_decide_eq_false c92)])) (by have := und_step hC hbl hbt; omega) _ _ hP hD hS _ (lv_sub hl [2, 3, 4, 5, 0, 1] rfl)
        refine lv_iconst (pc := 95) (v := nI 1) hx hb dX9_playout_95 rfl ?_
        refine lv_goto (pc := 96) (tgt := 100) hx hb dX9_playout_96 (by decide) ?_
        refine n_iadd (pc := 100) hx hb dX9_playout_100 ?_
        refine lv_istore (pc := 101) (lv' := [(4, .int (nI (ch + 1))), (5, .int (nI bb)), (0, .ref mo), (1, .int (nI z9)), (2, .int (nI o9)), (3, .int (nI ja))]) hx hb dX9_playout_101 hl (by decide) rfl (fun ls hl => ?_)
        refine lv_goto (pc := 103) (tgt := 51) hx hb dX9_playout_103 (by decide) ?_
        exact ih51 (u ||| b1 bb) (nxp (gai c r u bb) p) (d + dst p (gai c r u bb)) (ch + 1) (nI bb) od2_79 ol2_79 rs2_79 (onb_or hC hub hbl) (nxp_le hp1) (by rw [← hF]; exact pl_s hC hbl hbt (by rw [if_pos c67]; exact hbb) (by rw [if_pos (of_decide_eq_true c92)])) (by have := und_step hC hbl hbt; omega) _ _ hP hD hS _ (lv_sub hl [2, 3, 4, 5, 0, 1] rfl)
    exact L51 ((und c r w) + 1) w pl (dfO c r ow) 0 (-1) od ol rs (hob) (hpl1) (rfl) (Nat.lt_succ_self _) _ _ hP hD hS _ (lv_sub hl [2, 3, 4, 5, 1, 0] rfl)
  · exact absurd c36 (by decide)

set_option maxHeartbeats 1200000 in
set_option maxRecDepth 100000 in
theorem c_X9_openAt (l : Launch) (D : va_G) (Y : vY) (mo : Nat) (c : Nat) (r : Nat) (fs : List Value) (pw : Int64) (k : Nat) (hf : MF c r fs) (hC : Cr c r) (hf21 : fs[21]? = some (.long pw)) (hk0 : k < und c r pw) : Ro l yX9_openAt wsX9_openAt ({ frames := 1, cells := 0, slots := 0, locals := 22 } : Room) [.ref mo, .int (nI k)] D Y [(mo, .inr (8, fs))] (some (.int (nI (mem (opl c r pw) k)))) := by
  refine ro_intro (by decide +kernel) rfl (Nat.le_of_ble_eq_true rfl) [(0, .ref mo), (1, .int (nI k))] rfl ?_
  intro pG eG sG mG aG bG tG cG ls hx hb hr hml hts hown hlocks hK hP hl
  have hP : va_P D vwCl [(mo, .inr (8, fs))] sG.heap := hP
  have hown : sG.vm.findClass RX9 = some mG.cls := hown
  have hl : lv_has ls 4 [(0, .ref mo), (1, .int (nI k))] := hl
  have hinX9 : ∀ w ∈ u_ws RX9 TX9 25, w ∈ wsX9_openAt := by decide +kernel
  obtain ⟨hq1, hq2, hq3, hq4, hq5, hq6, hq7, hq8, hq9, hq10, hq11⟩ := hC.q
  have hul := und_le c r pw
  refine lv_iconst (pc := 0) (v := nI 0) hx hb dX9_openAt_0 rfl ?_
  refine lv_istore_n (pc := 1) (lv' := [(2, .int (nI 0)), (0, .ref mo), (1, .int (nI k))]) hx hb dX9_openAt_1 rfl hl (by decide) rfl (fun ls hl => ?_)
  refine lv_iload_n (pc := 2) hx hb dX9_openAt_2 rfl (lv_at hl 2 rfl) ?_
  refine lv_istore_n (pc := 3) (lv' := [(3, .int (nI k)), (2, .int (nI 0)), (0, .ref mo), (1, .int (nI k))]) hx hb dX9_openAt_3 rfl hl (by decide) rfl (fun ls hl => ?_)
  have L4 : ∀ (n4 : Nat), ∀ (i : Nat) (e : Nat), (i ≤ al c r) → (e + fb_ct (fun l => !tb pw l) i = k) → al c r - i < n4 → ∀ (ls : Array Slot), lv_has ls 4 [(0, .ref mo), (1, .int (nI k)), (2, .int (nI i)), (3, .int (nI e))] → W pG l eG ({ frames := 1, cells := 0, slots := 0, locals := 22 } : Room) sG mG aG bG tG cG sG.heap [] 0 0 (MQ bG (RoQ (some (.int (nI (mem (opl c r pw) k))))) aG sG 0 0 (fun _ => False)) (F0 mG 4 ls []) := by
    intro n4
    induction n4 with
    | zero =>
      intro i e hi hcnt hmeas4  ls hl
      exact absurd hmeas4 (Nat.not_lt_zero _)
    | succ n4 ih4 =>
      intro i e hi hcnt hmeas4  ls hl
      have hia : i < al c r := Nat.lt_of_le_of_ne hi (fun q => by rw [q] at hcnt; unfold und at hk0; omega)
      refine lv_aload_n (pc := 4) hx hb dX9_openAt_4 rfl (lv_at hl 0 rfl) ?_
      refine va_get (pc := 5) (D := D) (ci := 8) (v := .long pw) (C := RX9) (T := TX9) (N := 25) hx hb hts hinX9 hown hK.1 hP 0 rfl rfl 21 (by decide) (hts (.fieldLink RX9 288 "BoxesGameModel" "playedLines" "J") (List.mem_of_getElem? (i := 1) rfl)) (fun _ h9 => h9) hf21 dX9_openAt_5 ?_
      refine lv_iload_n (pc := 8) hx hb dX9_openAt_8 rfl (lv_at hl 2 rfl) ?_
      refine ro_go (pc := 9) (va_runS (As := [.long pw, .int (nI i)]) (rest := []) ⟨hx, hb, hml, hown, hts⟩ (c_X9_has l D Y pw i (by omega)) (va_cwS 2 hts gX9_openAt_X9_has rfl rfl rfl hdX9_has ⟨Nat.le_of_ble_eq_true rfl, Nat.le_of_ble_eq_true rfl⟩) (ro_pS hK (hP.sub [] rfl)) rfl rfl hl.1 rfl (lv_room (Nat.le_of_ble_eq_true rfl)) dX9_openAt_9 ⟨Nat.le_of_ble_eq_true rfl, Nat.le_of_ble_eq_true rfl⟩) ?_
      refine z_if_ne (pc := 12) (tgt := 19) hx hb dX9_openAt_12 (by decide) (fun c12 => ?_) (fun c12 => ?_)
      · refine lv_iload_n (pc := 19) hx hb dX9_openAt_19 rfl (lv_at hl 3 rfl) ?_
        refine lv_aload_n (pc := 20) hx hb dX9_openAt_20 rfl (lv_at hl 0 rfl) ?_
        refine va_get (pc := 21) (D := D) (ci := 8) (v := .long pw) (C := RX9) (T := TX9) (N := 25) hx hb hts hinX9 hown hK.1 hP 0 rfl rfl 21 (by decide) (hts (.fieldLink RX9 288 "BoxesGameModel" "playedLines" "J") (List.mem_of_getElem? (i := 1) rfl)) (fun _ h9 => h9) hf21 dX9_openAt_21 ?_
        refine lv_iload_n (pc := 24) hx hb dX9_openAt_24 rfl (lv_at hl 2 rfl) ?_
        refine ro_go (pc := 25) (va_runS (As := [.long pw, .int (nI i)]) (rest := [.int (nI e)]) ⟨hx, hb, hml, hown, hts⟩ (c_X9_has l D Y pw i (by omega)) (va_cwS 2 hts gX9_openAt_X9_has rfl rfl rfl hdX9_has ⟨Nat.le_of_ble_eq_true rfl, Nat.le_of_ble_eq_true rfl⟩) (ro_pS hK (hP.sub [] rfl)) rfl rfl hl.1 rfl (lv_room (Nat.le_of_ble_eq_true rfl)) dX9_openAt_25 ⟨Nat.le_of_ble_eq_true rfl, Nat.le_of_ble_eq_true rfl⟩) ?_
        refine z_if_eq (pc := 28) (tgt := 35) hx hb dX9_openAt_28 (by decide) (fun c28 => ?_) (fun c28 => ?_)
        · exact absurd (c12.symm.trans c28) (by decide)
        refine lv_iconst (pc := 31) (v := nI 0) hx hb dX9_openAt_31 rfl ?_
        refine lv_goto (pc := 32) (tgt := 36) hx hb dX9_openAt_32 (by decide) ?_
        refine n_isub (pc := 36) hx hb (Nat.zero_le _) dX9_openAt_36 ?_
        refine top_i (show nI (e - 0) = nI e from rfl) ?_
        refine lv_istore_n (pc := 37) (lv' := [(3, .int (nI e)), (0, .ref mo), (1, .int (nI k)), (2, .int (nI i))]) hx hb dX9_openAt_37 rfl hl (by decide) rfl (fun ls hl => ?_)
        refine lv_iinc (pc := 38) (v := nI (i + 1)) (lv' := [(2, .int (nI (i + 1))), (3, .int (nI e)), (0, .ref mo), (1, .int (nI k))]) hx hb dX9_openAt_38 hl (k := 3) rfl (n_inc i 1) (by decide) rfl (fun ls hl => ?_)
        refine lv_goto (pc := 41) (tgt := 4) hx hb dX9_openAt_41 (by decide) ?_
        exact ih4 (i + 1) e (by first | assumption | omega) (by rw [fb_ct_succ, c12]; simpa using hcnt) (by omega) _ (lv_sub hl [2, 3, 0, 1] rfl)
      refine lv_iload_n (pc := 15) hx hb dX9_openAt_15 rfl (lv_at hl 3 rfl) ?_
      refine n_if_le (pc := 16) (tgt := 44) hx hb (by omega) dX9_openAt_16 (by decide) (fun c16 => ?_) (fun c16 => ?_)
      · refine lv_iload_n (pc := 44) hx hb dX9_openAt_44 rfl (lv_at hl 2 rfl) ?_
        exact ro_iret (v := nI i) hx hb hr hlocks (by rw [(mem_op hC hia c12 (by omega : k = fb_ct (fun l => !tb pw l) i)).2]) dX9_openAt_45
      refine lv_iload_n (pc := 19) hx hb dX9_openAt_19 rfl (lv_at hl 3 rfl) ?_
      refine lv_aload_n (pc := 20) hx hb dX9_openAt_20 rfl (lv_at hl 0 rfl) ?_
      refine va_get (pc := 21) (D := D) (ci := 8) (v := .long pw) (C := RX9) (T := TX9) (N := 25) hx hb hts hinX9 hown hK.1 hP 0 rfl rfl 21 (by decide) (hts (.fieldLink RX9 288 "BoxesGameModel" "playedLines" "J") (List.mem_of_getElem? (i := 1) rfl)) (fun _ h9 => h9) hf21 dX9_openAt_21 ?_
      refine lv_iload_n (pc := 24) hx hb dX9_openAt_24 rfl (lv_at hl 2 rfl) ?_
      refine ro_go (pc := 25) (va_runS (As := [.long pw, .int (nI i)]) (rest := [.int (nI e)]) ⟨hx, hb, hml, hown, hts⟩ (c_X9_has l D Y pw i (by omega)) (va_cwS 2 hts gX9_openAt_X9_has rfl rfl rfl hdX9_has ⟨Nat.le_of_ble_eq_true rfl, Nat.le_of_ble_eq_true rfl⟩) (ro_pS hK (hP.sub [] rfl)) rfl rfl hl.1 rfl (lv_room (Nat.le_of_ble_eq_true rfl)) dX9_openAt_25 ⟨Nat.le_of_ble_eq_true rfl, Nat.le_of_ble_eq_true rfl⟩) ?_
      refine z_if_eq (pc := 28) (tgt := 35) hx hb dX9_openAt_28 (by decide) (fun c28 => ?_) (fun c28 => ?_)
      · refine lv_iconst (pc := 35) (v := nI 1) hx hb dX9_openAt_35 rfl ?_
        refine n_isub (pc := 36) hx hb (c16) dX9_openAt_36 ?_
        refine lv_istore_n (pc := 37) (lv' := [(3, .int (nI (e - 1))), (0, .ref mo), (1, .int (nI k)), (2, .int (nI i))]) hx hb dX9_openAt_37 rfl hl (by decide) rfl (fun ls hl => ?_)
        refine lv_iinc (pc := 38) (v := nI (i + 1)) (lv' := [(2, .int (nI (i + 1))), (3, .int (nI (e - 1))), (0, .ref mo), (1, .int (nI k))]) hx hb dX9_openAt_38 hl (k := 3) rfl (n_inc i 1) (by decide) rfl (fun ls hl => ?_)
        refine lv_goto (pc := 41) (tgt := 4) hx hb dX9_openAt_41 (by decide) ?_
        exact ih4 (i + 1) (e - 1) (by first | assumption | omega) (by rw [fb_ct_succ, c12]; simp; omega) (by omega) _ (lv_sub hl [2, 3, 0, 1] rfl)
      · exact absurd (c12.symm.trans c28) (by decide)
  exact L4 ((al c r - 0) + 1) 0 k (by first | assumption | omega) (rfl) (Nat.lt_succ_self _) _ (lv_sub hl [2, 3, 1, 0] rfl)

set_option maxHeartbeats 1200000 in
set_option maxRecDepth 100000 in
theorem c_X9_meanDifference (l : Launch) (D : va_G) (Y : vY) (mo : Nat) (th : Int32) (c : Nat) (r : Nat) (w : Int64) (pl : Nat) (n : Nat) (aML : Nat) (aMR : Nat) (aOW : Nat) (len : Nat) (aBU : Nat) (sn : Int32) (aSA : Nat) (aSZ : Nat) (aLP : Nat) (aOP : Nat) (aFT : Nat) (od : Int32) (aOL : Nat) (aRS : Nat) (aCD : Nat) (pw : Int64) (pb : Int32) (ah : Int32) (hs : Int64) (ms : Nat → Nat) (ml : Nat → Int32) (mr : Nat → Int32) (ow : Nat → Int32) (x : Int32) (y : Int32) (hC : Cr c r) (hM : MoR c r ms n w pl ml mr ow) : Mu l yX9_meanDifference wsX9_meanDifference ({ frames := 6, cells := 0, slots := 0, locals := 140 } : Room) [.ref mo, .int x, .int y] D Y [(mo, .inr (8, [.int th, .int (nI c), .int (nI r), .long w, .int (nI pl), .int (nI n), .ref aML, .ref aMR, .ref aOW, .int (nI len), .ref aBU, .int sn, .ref aSA, .ref aSZ, .ref aLP, .ref aOP, .ref aFT, .int od, .ref aOL, .ref aRS, .ref aCD, .long pw, .int pb, .int ah, .long hs])), (aOW, .inl (Y.1, 16, .inl ow))] (fun uS : Int32 × UInt64 × Int64 × Int32 × Int32 => some (.double uS.2.1)) (fun uS : Int32 × UInt64 × Int64 × Int32 × Int32 => [(mo, .inr (8, [.int uS.1, .int (nI c), .int (nI r), .long w, .int (nI pl), .int (nI n), .ref aML, .ref aMR, .ref aOW, .int (nI len), .ref aBU, .int sn, .ref aSA, .ref aSZ, .ref aLP, .ref aOP, .ref aFT, .int od, .ref aOL, .ref aRS, .ref aCD, .long uS.2.2.1, .int uS.2.2.2.1, .int uS.2.2.2.2, .long hs])), (aOW, .inl (Y.1, 16, .inl ow))]) (fun uS : Int32 × UInt64 × Int64 × Int32 × Int32 => uS.1 = nI (kD1 (wi x (nI 1) (nI 20) && decide (0 ≤ y))) ∧ ((kD1 (wi x (nI 1) (nI 20) && decide (0 ≤ y))) = 0 → uS.2.1 = mdV c r w pl (dfO c r (oH c r ms n)) x.toNatClampNeg y.toNatClampNeg)) := by
  refine mu_intro (by decide +kernel) rfl (Nat.le_of_ble_eq_true rfl) [(0, .ref mo), (1, .int x), (2, .int y)] rfl ?_
  intro pG eG sG mG aG bG tG cG ls hx hb hr hml hts hown hlocks hK hP hD hS hl
  generalize hAA : adA [(mo, .inr (8, [.int th, .int (nI c), .int (nI r), .long w, .int (nI pl), .int (nI n), .ref aML, .ref aMR, .ref aOW, .int (nI len), .ref aBU, .int sn, .ref aSA, .ref aSZ, .ref aLP, .ref aOP, .ref aFT, .int od, .ref aOL, .ref aRS, .ref aCD, .long pw, .int pb, .int ah, .long hs])), (aOW, .inl (Y.1, 16, .inl ow))] = AA at hD hS ⊢
  have hP : va_P D vwCl [(mo, .inr (8, [.int th, .int (nI c), .int (nI r), .long w, .int (nI pl), .int (nI n), .ref aML, .ref aMR, .ref aOW, .int (nI len), .ref aBU, .int sn, .ref aSA, .ref aSZ, .ref aLP, .ref aOP, .ref aFT, .int od, .ref aOL, .ref aRS, .ref aCD, .long pw, .int pb, .int ah, .long hs])), (aOW, .inl (Y.1, 16, .inl ow))] sG.heap := hP
  have hD : va_D AA [(mo, .inr (8, [.int th, .int (nI c), .int (nI r), .long w, .int (nI pl), .int (nI n), .ref aML, .ref aMR, .ref aOW, .int (nI len), .ref aBU, .int sn, .ref aSA, .ref aSZ, .ref aLP, .ref aOP, .ref aFT, .int od, .ref aOL, .ref aRS, .ref aCD, .long pw, .int pb, .int ah, .long hs])), (aOW, .inl (Y.1, 16, .inl ow))] := hD
  have hown : sG.vm.findClass RX9 = some mG.cls := hown
  have hl : lv_has ls 7 [(0, .ref mo), (1, .int x), (2, .int y)] := hl
  have hinX9 : ∀ w ∈ u_ws RX9 TX9 25, w ∈ wsX9_meanDifference := by decide +kernel
  have hS : va_S AA sG.heap sG.heap [] := hS
  obtain ⟨hq1, hq2, hq3, hq4, hq5, hq6, hq7, hq8, hq9, hq10, hq11⟩ := hC.q
  have hhu := hM.1.hund hC
  have hpl1 := hM.1.pl1
  have hn40 := hM.1.n40 hC
  have hob := hM.1.onb hC
  have hdf : dfO c r ow = dfO c r (oH c r ms n) := by unfold dfO; rw [hM.1.hsco hC, hM.1.hsco hC]
  have hnof := hM.1.noF hC
  refine lv_aload_n (pc := 0) hx hb dX9_meanDifference_0 rfl (lv_at hl 0 rfl) ?_
  refine lv_iload_n (pc := 1) hx hb dX9_meanDifference_1 rfl (lv_at hl 1 rfl) ?_
  refine lv_iconst (pc := 2) (v := nI 1) hx hb dX9_meanDifference_2 rfl ?_
  refine lv_bipush (pc := 3) (v := nI 20) hx hb dX9_meanDifference_3 rfl ?_
  refine ro_go (pc := 5) (va_runS (As := [.int x, .int (nI 1), .int (nI 20)]) (rest := [.ref mo]) ⟨hx, hb, hml, hown, hts⟩ (c_X9_within l D Y x (nI 1) (nI 20) ) (va_cwS 3 hts gX9_meanDifference_X9_within rfl rfl rfl hdX9_within ⟨Nat.le_of_ble_eq_true rfl, Nat.le_of_ble_eq_true rfl⟩) (ro_pS hK (hP.sub [] rfl)) rfl rfl hl.1 rfl (lv_room (Nat.le_of_ble_eq_true rfl)) dX9_meanDifference_5 ⟨Nat.le_of_ble_eq_true rfl, Nat.le_of_ble_eq_true rfl⟩) ?_
  refine z_if_eq (pc := 8) (tgt := 19) hx hb dX9_meanDifference_8 (by decide) (fun c8 => ?_) (fun c8 => ?_)
  · refine lv_iconst (pc := 19) (v := nI 1) hx hb dX9_meanDifference_19 rfl ?_
    refine va_put (pc := 20) (D := D) (ci := 8) (v := .int (nI 1)) (ty := .int) (C := RX9) (T := TX9) (N := 25) hx hb hts hinX9 tyX9 tyX9_ok nmX9 hown hK.1 hP hD hS 0 rfl rfl 0 (by decide) (hts (.fieldLink RX9 59 "BoxesGameModel" "thrown" "I") (List.mem_of_getElem? (i := 1) rfl)) (fun _ h9 => h9) rfl (by decide +kernel) (rfl) (rfl) (Nat.le_of_ble_eq_true rfl) dX9_meanDifference_20 (fun H locs hP hD hS => ?_)
    have hP : va_P D vwCl [(mo, .inr (8, [.int (nI 1), .int (nI c), .int (nI r), .long w, .int (nI pl), .int (nI n), .ref aML, .ref aMR, .ref aOW, .int (nI len), .ref aBU, .int sn, .ref aSA, .ref aSZ, .ref aLP, .ref aOP, .ref aFT, .int od, .ref aOL, .ref aRS, .ref aCD, .long pw, .int pb, .int ah, .long hs])), (aOW, .inl (Y.1, 16, .inl ow))] H := hP
    have hD : va_D AA [(mo, .inr (8, [.int (nI 1), .int (nI c), .int (nI r), .long w, .int (nI pl), .int (nI n), .ref aML, .ref aMR, .ref aOW, .int (nI len), .ref aBU, .int sn, .ref aSA, .ref aSZ, .ref aLP, .ref aOP, .ref aFT, .int od, .ref aOL, .ref aRS, .ref aCD, .long pw, .int pb, .int ah, .long hs])), (aOW, .inl (Y.1, 16, .inl ow))] := hD
    refine lv_aload_n (pc := 23) hx hb dX9_meanDifference_23 rfl (lv_at hl 0 rfl) ?_
    refine va_get (pc := 24) (D := D) (ci := 8) (v := .int (nI 1)) (C := RX9) (T := TX9) (N := 25) hx hb hts hinX9 hown hK.1 hP 0 rfl rfl 0 (by decide) (hts (.fieldLink RX9 59 "BoxesGameModel" "thrown" "I") (List.mem_of_getElem? (i := 1) rfl)) (fun _ h9 => h9) rfl dX9_meanDifference_24 ?_
    refine n_if_le (pc := 27) (tgt := 32) hx hb (by omega) dX9_meanDifference_27 (by decide) (fun c27 => ?_) (fun c27 => ?_)
    · exact absurd c27 (by decide)
    refine lv_dconst0 (pc := 30) hx hb dX9_meanDifference_30 ?_
    subst hAA
    exact mu_dret hx hb hr hlocks hP hS (⟨_, _, _, _, _⟩) (rfl) (⟨by rw [kD1_f (by rw [c8]; rfl)]; try rfl, fun q => absurd q (kd_no (kD1_f (by rw [c8]; rfl)) (by decide))⟩) (rfl) dX9_meanDifference_31
  obtain ⟨jx, hjx1, hjx20, rfl⟩ := wi_lo (by decide) (by decide) c8
  have hcjx : (nI jx).toNatClampNeg = jx := nI_clamp (by omega)
  have hl : lv_has ls 7 [(0, .ref mo), (1, .int (nI jx)), (2, .int y)] := hl
  refine lv_iload_n (pc := 11) hx hb dX9_meanDifference_11 rfl (lv_at hl 2 rfl) ?_
  refine lv_if_lt (pc := 12) (tgt := 19) hx hb dX9_meanDifference_12 (by decide) (fun c12 => ?_) (fun c12 => ?_)
  · refine lv_iconst (pc := 19) (v := nI 1) hx hb dX9_meanDifference_19 rfl ?_
    refine va_put (pc := 20) (D := D) (ci := 8) (v := .int (nI 1)) (ty := .int) (C := RX9) (T := TX9) (N := 25) hx hb hts hinX9 tyX9 tyX9_ok nmX9 hown hK.1 hP hD hS 0 rfl rfl 0 (by decide) (hts (.fieldLink RX9 59 "BoxesGameModel" "thrown" "I") (List.mem_of_getElem? (i := 1) rfl)) (fun _ h9 => h9) rfl (by decide +kernel) (rfl) (rfl) (Nat.le_of_ble_eq_true rfl) dX9_meanDifference_20 (fun H locs hP hD hS => ?_)
    have hP : va_P D vwCl [(mo, .inr (8, [.int (nI 1), .int (nI c), .int (nI r), .long w, .int (nI pl), .int (nI n), .ref aML, .ref aMR, .ref aOW, .int (nI len), .ref aBU, .int sn, .ref aSA, .ref aSZ, .ref aLP, .ref aOP, .ref aFT, .int od, .ref aOL, .ref aRS, .ref aCD, .long pw, .int pb, .int ah, .long hs])), (aOW, .inl (Y.1, 16, .inl ow))] H := hP
    have hD : va_D AA [(mo, .inr (8, [.int (nI 1), .int (nI c), .int (nI r), .long w, .int (nI pl), .int (nI n), .ref aML, .ref aMR, .ref aOW, .int (nI len), .ref aBU, .int sn, .ref aSA, .ref aSZ, .ref aLP, .ref aOP, .ref aFT, .int od, .ref aOL, .ref aRS, .ref aCD, .long pw, .int pb, .int ah, .long hs])), (aOW, .inl (Y.1, 16, .inl ow))] := hD
    refine lv_aload_n (pc := 23) hx hb dX9_meanDifference_23 rfl (lv_at hl 0 rfl) ?_
    refine va_get (pc := 24) (D := D) (ci := 8) (v := .int (nI 1)) (C := RX9) (T := TX9) (N := 25) hx hb hts hinX9 hown hK.1 hP 0 rfl rfl 0 (by decide) (hts (.fieldLink RX9 59 "BoxesGameModel" "thrown" "I") (List.mem_of_getElem? (i := 1) rfl)) (fun _ h9 => h9) rfl dX9_meanDifference_24 ?_
    refine n_if_le (pc := 27) (tgt := 32) hx hb (by omega) dX9_meanDifference_27 (by decide) (fun c27 => ?_) (fun c27 => ?_)
    · exact absurd c27 (by decide)
    refine lv_dconst0 (pc := 30) hx hb dX9_meanDifference_30 ?_
    subst hAA
    exact mu_dret hx hb hr hlocks hP hS (⟨_, _, _, _, _⟩) (rfl) (⟨by rw [kD1_f (by rw [decide_eq_false (Int32.not_le.mpr c12), Bool.and_false])]; try rfl, fun q => absurd q (kd_no (kD1_f (by rw [decide_eq_false (Int32.not_le.mpr c12), Bool.and_false])) (by decide))⟩) (rfl) dX9_meanDifference_31
  obtain ⟨sd, hsd, rfl⟩ := nI_of c12
  have hcsd : (nI sd).toNatClampNeg = sd := nI_clamp hsd
  have hl : lv_has ls 7 [(0, .ref mo), (1, .int (nI jx)), (2, .int (nI sd))] := hl
  refine lv_iconst (pc := 15) (v := nI 0) hx hb dX9_meanDifference_15 rfl ?_
  refine lv_goto (pc := 16) (tgt := 20) hx hb dX9_meanDifference_16 (by decide) ?_
  refine va_put (pc := 20) (D := D) (ci := 8) (v := .int (nI 0)) (ty := .int) (C := RX9) (T := TX9) (N := 25) hx hb hts hinX9 tyX9 tyX9_ok nmX9 hown hK.1 hP hD hS 0 rfl rfl 0 (by decide) (hts (.fieldLink RX9 59 "BoxesGameModel" "thrown" "I") (List.mem_of_getElem? (i := 1) rfl)) (fun _ h9 => h9) rfl (by decide +kernel) (rfl) (rfl) (Nat.le_of_ble_eq_true rfl) dX9_meanDifference_20 (fun H locs hP hD hS => ?_)
  have hP : va_P D vwCl [(mo, .inr (8, [.int (nI 0), .int (nI c), .int (nI r), .long w, .int (nI pl), .int (nI n), .ref aML, .ref aMR, .ref aOW, .int (nI len), .ref aBU, .int sn, .ref aSA, .ref aSZ, .ref aLP, .ref aOP, .ref aFT, .int od, .ref aOL, .ref aRS, .ref aCD, .long pw, .int pb, .int ah, .long hs])), (aOW, .inl (Y.1, 16, .inl ow))] H := hP
  have hD : va_D AA [(mo, .inr (8, [.int (nI 0), .int (nI c), .int (nI r), .long w, .int (nI pl), .int (nI n), .ref aML, .ref aMR, .ref aOW, .int (nI len), .ref aBU, .int sn, .ref aSA, .ref aSZ, .ref aLP, .ref aOP, .ref aFT, .int od, .ref aOL, .ref aRS, .ref aCD, .long pw, .int pb, .int ah, .long hs])), (aOW, .inl (Y.1, 16, .inl ow))] := hD
  refine lv_aload_n (pc := 23) hx hb dX9_meanDifference_23 rfl (lv_at hl 0 rfl) ?_
  refine va_get (pc := 24) (D := D) (ci := 8) (v := .int (nI 0)) (C := RX9) (T := TX9) (N := 25) hx hb hts hinX9 hown hK.1 hP 0 rfl rfl 0 (by decide) (hts (.fieldLink RX9 59 "BoxesGameModel" "thrown" "I") (List.mem_of_getElem? (i := 1) rfl)) (fun _ h9 => h9) rfl dX9_meanDifference_24 ?_
  refine n_if_le (pc := 27) (tgt := 32) hx hb (by omega) dX9_meanDifference_27 (by decide) (fun c27 => ?_) (fun c27 => ?_)
  · refine lv_iload_n (pc := 32) hx hb dX9_meanDifference_32 rfl (lv_at hl 2 rfl) ?_
    refine lv_i2l (pc := 33) (v := lN sd) hx hb dX9_meanDifference_33 (nI_l (hsd)) ?_
    refine lv_lstore_n (pc := 34) (lv' := [(3, .long (lN sd)), (0, .ref mo), (1, .int (nI jx)), (2, .int (nI sd))]) hx hb dX9_meanDifference_34 rfl hl (by decide) rfl (fun ls hl => ?_)
    refine lv_iconst (pc := 35) (v := nI 0) hx hb dX9_meanDifference_35 rfl ?_
    refine top_i (show nI 0 = iI 0 from by decide) ?_
    refine lv_istore (pc := 36) (lv' := [(5, .int (iI 0)), (3, .long (lN sd)), (0, .ref mo), (1, .int (nI jx)), (2, .int (nI sd))]) hx hb dX9_meanDifference_36 hl (by decide) rfl (fun ls hl => ?_)
    refine lv_iconst (pc := 38) (v := nI 0) hx hb dX9_meanDifference_38 rfl ?_
    refine lv_istore (pc := 39) (lv' := [(6, .int (nI 0)), (5, .int (iI 0)), (3, .long (lN sd)), (0, .ref mo), (1, .int (nI jx)), (2, .int (nI sd))]) hx hb dX9_meanDifference_39 hl (by decide) rfl (fun ls hl => ?_)
    have L41 : ∀ (n41 : Nat), ∀ (i : Nat) (xx : Nat) (s9 : Int) (pw9 : Int64) (pb9 : Int32) (ah9 : Int32), (i ≤ jx) → (xx = (gmF c r w pl (dfO c r ow) i sd).1) → (s9 = (gmF c r w pl (dfO c r ow) i sd).2) → jx - i < n41 → ∀ (H : Heap) (locs : List Loc), va_P D vwCl [(mo, .inr (8, [.int (nI 0), .int (nI c), .int (nI r), .long w, .int (nI pl), .int (nI n), .ref aML, .ref aMR, .ref aOW, .int (nI len), .ref aBU, .int sn, .ref aSA, .ref aSZ, .ref aLP, .ref aOP, .ref aFT, .int od, .ref aOL, .ref aRS, .ref aCD, .long pw9, .int pb9, .int ah9, .long hs])), (aOW, .inl (Y.1, 16, .inl ow))] H → va_D AA [(mo, .inr (8, [.int (nI 0), .int (nI c), .int (nI r), .long w, .int (nI pl), .int (nI n), .ref aML, .ref aMR, .ref aOW, .int (nI len), .ref aBU, .int sn, .ref aSA, .ref aSZ, .ref aLP, .ref aOP, .ref aFT, .int od, .ref aOL, .ref aRS, .ref aCD, .long pw9, .int pb9, .int ah9, .long hs])), (aOW, .inl (Y.1, 16, .inl ow))] → va_S AA sG.heap H locs → ∀ (ls : Array Slot), lv_has ls 7 [(0, .ref mo), (1, .int (nI jx)), (2, .int (nI sd)), (3, .long (lN xx)), (5, .int (iI s9)), (6, .int (nI i))] → W pG l eG ({ frames := 6, cells := 0, slots := 0, locals := 140 } : Room) sG mG aG bG tG cG H locs 0 0 (MQ bG (MuQ D [(mo, .inr (8, [.int th, .int (nI c), .int (nI r), .long w, .int (nI pl), .int (nI n), .ref aML, .ref aMR, .ref aOW, .int (nI len), .ref aBU, .int sn, .ref aSA, .ref aSZ, .ref aLP, .ref aOP, .ref aFT, .int od, .ref aOL, .ref aRS, .ref aCD, .long pw, .int pb, .int ah, .long hs])), (aOW, .inl (Y.1, 16, .inl ow))] (fun uS : Int32 × UInt64 × Int64 × Int32 × Int32 => some (.double uS.2.1)) (fun uS : Int32 × UInt64 × Int64 × Int32 × Int32 => [(mo, .inr (8, [.int uS.1, .int (nI c), .int (nI r), .long w, .int (nI pl), .int (nI n), .ref aML, .ref aMR, .ref aOW, .int (nI len), .ref aBU, .int sn, .ref aSA, .ref aSZ, .ref aLP, .ref aOP, .ref aFT, .int od, .ref aOL, .ref aRS, .ref aCD, .long uS.2.2.1, .int uS.2.2.2.1, .int uS.2.2.2.2, .long hs])), (aOW, .inl (Y.1, 16, .inl ow))]) (fun uS : Int32 × UInt64 × Int64 × Int32 × Int32 => uS.1 = nI (kD1 (wi (nI jx) (nI 1) (nI 20) && decide (0 ≤ (nI sd)))) ∧ ((kD1 (wi (nI jx) (nI 1) (nI 20) && decide (0 ≤ (nI sd)))) = 0 → uS.2.1 = mdV c r w pl (dfO c r (oH c r ms n)) (nI jx).toNatClampNeg (nI sd).toNatClampNeg))) aG sG 0 0 AA) (F0 mG 41 ls []) := by
      intro n41
      induction n41 with
      | zero =>
        intro i xx s9 pw9 pb9 ah9 hi hxg hsg hmeas41 H locs hP hD hS ls hl
        exact absurd hmeas41 (Nat.not_lt_zero _)
      | succ n41 ih41 =>
        intro i xx s9 pw9 pb9 ah9 hi hxg hsg hmeas41 H locs hP hD hS ls hl
        have hx31 : xx < 2 ^ 31 := by rw [hxg]; exact gm_x hsd
        refine lv_iload (pc := 41) hx hb dX9_meanDifference_41 (lv_at hl 5 rfl) ?_
        refine lv_iload_n (pc := 43) hx hb dX9_meanDifference_43 rfl (lv_at hl 1 rfl) ?_
        refine n_icmp_ge (pc := 44) (tgt := 119) hx hb (by omega) (by omega) dX9_meanDifference_44 (by decide) (fun c44 => ?_) (fun c44 => ?_)
        · have hgb := gm_b (c := c) (r := r) hC hnof hpl1 i sd
          have hdv := dv_n (dv_at (s := s9) (g := i) (by omega) (by omega) (by rw [hsg]; omega))
          refine lv_iload (pc := 119) hx hb dX9_meanDifference_119 (lv_at hl 4 rfl) ?_
          refine lv_i2d (pc := 121) hx hb dX9_meanDifference_121 ?_
          refine lv_iload_n (pc := 122) hx hb dX9_meanDifference_122 rfl (lv_at hl 1 rfl) ?_
          refine lv_i2d (pc := 123) hx hb dX9_meanDifference_123 ?_
          refine lv_ddiv (pc := 124) hx hb dX9_meanDifference_124 (by rw [show jx = i by omega]; exact hdv.1) ?_
          subst hAA
          exact mu_dret hx hb hr hlocks hP hS (⟨_, _, _, _, _⟩) (rfl) (⟨by rw [kD1_t (by rw [c8, decide_eq_true (Int32.not_lt.mp c12)]; rfl)]; try rfl, fun _ => by rw [hcjx, hcsd, ← hdf, show jx = i by omega]; unfold mdV; rw [← hsg]; try rfl⟩) (rfl) dX9_meanDifference_125
        refine lv_aload_n (pc := 47) hx hb dX9_meanDifference_47 rfl (lv_at hl 0 rfl) ?_
        refine mu_go (pc := 48) (va_runV (As := []) (rest := []) ⟨hx, hb, hml, hown, hts⟩ (c_X9_beginPlay l D Y mo (nI 0) c r w pl n aML aMR aOW len aBU sn aSA aSZ aLP aOP aFT od aOL aRS aCD pw9 pb9 ah9 hs ow (hC)) (cwV 0 hts gX9_meanDifference_X9_beginPlay rfl rfl rfl ⟨rfl, hdX9_beginPlay⟩ ⟨Nat.le_of_ble_eq_true rfl, Nat.le_of_ble_eq_true rfl⟩) (mu_pV hK hP hD (ro_recv hK hP (ci := 8) (q0 := 0) rfl rfl)) rfl rfl hl.1 rfl (lv_room (Nat.le_of_ble_eq_true rfl)) dX9_meanDifference_48 ⟨Nat.le_of_ble_eq_true rfl, Nat.le_of_ble_eq_true rfl⟩) hP hD hS [0, 1] rfl (by decide) (fun _ => [(mo, .inr (8, [.int (nI 0), .int (nI c), .int (nI r), .long w, .int (nI pl), .int (nI n), .ref aML, .ref aMR, .ref aOW, .int (nI len), .ref aBU, .int sn, .ref aSA, .ref aSZ, .ref aLP, .ref aOP, .ref aFT, .int od, .ref aOL, .ref aRS, .ref aCD, .long w, .int (nI pl), .int (iI (dfO c r ow)), .long hs])), (aOW, .inl (Y.1, 16, .inl ow))]) (fun _ => rfl) (fun _ => rfl) (fun uS H locs hpost hP hD hS => ?_)
        have hP : va_P D vwCl [(mo, .inr (8, [.int (nI 0), .int (nI c), .int (nI r), .long w, .int (nI pl), .int (nI n), .ref aML, .ref aMR, .ref aOW, .int (nI len), .ref aBU, .int sn, .ref aSA, .ref aSZ, .ref aLP, .ref aOP, .ref aFT, .int od, .ref aOL, .ref aRS, .ref aCD, .long w, .int (nI pl), .int (iI (dfO c r ow)), .long hs])), (aOW, .inl (Y.1, 16, .inl ow))] H := hP
        have hD : va_D AA [(mo, .inr (8, [.int (nI 0), .int (nI c), .int (nI r), .long w, .int (nI pl), .int (nI n), .ref aML, .ref aMR, .ref aOW, .int (nI len), .ref aBU, .int sn, .ref aSA, .ref aSZ, .ref aLP, .ref aOP, .ref aFT, .int od, .ref aOL, .ref aRS, .ref aCD, .long w, .int (nI pl), .int (iI (dfO c r ow)), .long hs])), (aOW, .inl (Y.1, 16, .inl ow))] := hD
        have L51 : ∀ (n51 : Nat), ∀ (u : Int64) (p : Nat) (d : Int) (y9 : Nat), (Onb c r u) → (p ≤ 1) → (y9 < 2 ^ 31) → (rpF c r (und c r u) y9 u p d = rpF c r (und c r w) xx w pl (dfO c r ow)) → und c r u < n51 → ∀ (H : Heap) (locs : List Loc), va_P D vwCl [(mo, .inr (8, [.int (nI 0), .int (nI c), .int (nI r), .long w, .int (nI pl), .int (nI n), .ref aML, .ref aMR, .ref aOW, .int (nI len), .ref aBU, .int sn, .ref aSA, .ref aSZ, .ref aLP, .ref aOP, .ref aFT, .int od, .ref aOL, .ref aRS, .ref aCD, .long u, .int (nI p), .int (iI d), .long hs])), (aOW, .inl (Y.1, 16, .inl ow))] H → va_D AA [(mo, .inr (8, [.int (nI 0), .int (nI c), .int (nI r), .long w, .int (nI pl), .int (nI n), .ref aML, .ref aMR, .ref aOW, .int (nI len), .ref aBU, .int sn, .ref aSA, .ref aSZ, .ref aLP, .ref aOP, .ref aFT, .int od, .ref aOL, .ref aRS, .ref aCD, .long u, .int (nI p), .int (iI d), .long hs])), (aOW, .inl (Y.1, 16, .inl ow))] → va_S AA sG.heap H locs → ∀ (ls : Array Slot), lv_has ls 7 [(0, .ref mo), (1, .int (nI jx)), (2, .int (nI sd)), (3, .long (lN y9)), (5, .int (iI s9)), (6, .int (nI i))] → W pG l eG ({ frames := 6, cells := 0, slots := 0, locals := 140 } : Room) sG mG aG bG tG cG H locs 0 0 (MQ bG (MuQ D [(mo, .inr (8, [.int th, .int (nI c), .int (nI r), .long w, .int (nI pl), .int (nI n), .ref aML, .ref aMR, .ref aOW, .int (nI len), .ref aBU, .int sn, .ref aSA, .ref aSZ, .ref aLP, .ref aOP, .ref aFT, .int od, .ref aOL, .ref aRS, .ref aCD, .long pw, .int pb, .int ah, .long hs])), (aOW, .inl (Y.1, 16, .inl ow))] (fun uS : Int32 × UInt64 × Int64 × Int32 × Int32 => some (.double uS.2.1)) (fun uS : Int32 × UInt64 × Int64 × Int32 × Int32 => [(mo, .inr (8, [.int uS.1, .int (nI c), .int (nI r), .long w, .int (nI pl), .int (nI n), .ref aML, .ref aMR, .ref aOW, .int (nI len), .ref aBU, .int sn, .ref aSA, .ref aSZ, .ref aLP, .ref aOP, .ref aFT, .int od, .ref aOL, .ref aRS, .ref aCD, .long uS.2.2.1, .int uS.2.2.2.1, .int uS.2.2.2.2, .long hs])), (aOW, .inl (Y.1, 16, .inl ow))]) (fun uS : Int32 × UInt64 × Int64 × Int32 × Int32 => uS.1 = nI (kD1 (wi (nI jx) (nI 1) (nI 20) && decide (0 ≤ (nI sd)))) ∧ ((kD1 (wi (nI jx) (nI 1) (nI 20) && decide (0 ≤ (nI sd)))) = 0 → uS.2.1 = mdV c r w pl (dfO c r (oH c r ms n)) (nI jx).toNatClampNeg (nI sd).toNatClampNeg))) aG sG 0 0 AA) (F0 mG 51 ls []) := by
          intro n51
          induction n51 with
          | zero =>
            intro u p d y9 hub hp1 hy31 hF hmeas51 H locs hP hD hS ls hl
            exact absurd hmeas51 (Nat.not_lt_zero _)
          | succ n51 ih51 =>
            intro u p d y9 hub hp1 hy31 hF hmeas51 H locs hP hD hS ls hl
            refine lv_aload_n (pc := 51) hx hb dX9_meanDifference_51 rfl (lv_at hl 0 rfl) ?_
            refine lv_aload_n (pc := 52) hx hb dX9_meanDifference_52 rfl (lv_at hl 0 rfl) ?_
            refine va_get (pc := 53) (D := D) (ci := 8) (v := .long u) (C := RX9) (T := TX9) (N := 25) hx hb hts hinX9 hown hK.1 hP 0 rfl rfl 21 (by decide) (hts (.fieldLink RX9 288 "BoxesGameModel" "playedLines" "J") (List.mem_of_getElem? (i := 2) rfl)) (fun _ h9 => h9) rfl dX9_meanDifference_53 ?_
            refine ro_go (pc := 56) (va_runV (As := [.long u]) (rest := []) ⟨hx, hb, hml, hown, hts⟩ (c_X9_open l D Y mo c r ([.int (nI 0), .int (nI c), .int (nI r), .long w, .int (nI pl), .int (nI n), .ref aML, .ref aMR, .ref aOW, .int (nI len), .ref aBU, .int sn, .ref aSA, .ref aSZ, .ref aLP, .ref aOP, .ref aFT, .int od, .ref aOL, .ref aRS, .ref aCD, .long u, .int (nI p), .int (iI d), .long hs]) u (by first | assumption | exact ⟨rfl, rfl⟩) (hC) (hub)) (cwV 1 hts gX9_meanDifference_X9_open rfl rfl rfl ⟨rfl, hdX9_open⟩ ⟨Nat.le_of_ble_eq_true rfl, Nat.le_of_ble_eq_true rfl⟩) (ro_pV hK (hP.sub [0] rfl) (ro_recv hK hP (ci := 8) (q0 := 0) rfl rfl)) rfl rfl hl.1 rfl (lv_room (Nat.le_of_ble_eq_true rfl)) dX9_meanDifference_56 ⟨Nat.le_of_ble_eq_true rfl, Nat.le_of_ble_eq_true rfl⟩) ?_
            refine n_if_le (pc := 59) (tgt := 104) hx hb (by have := und_le c r u; omega) dX9_meanDifference_59 (by decide) (fun c59 => ?_) (fun c59 => ?_)
            · have hend : (y9, d) = rpF c r (und c r w) xx w pl (dfO c r ow) := by rw [← hF, rp_0 c59]
              refine lv_iload (pc := 104) hx hb dX9_meanDifference_104 (lv_at hl 4 rfl) ?_
              refine lv_aload_n (pc := 106) hx hb dX9_meanDifference_106 rfl (lv_at hl 0 rfl) ?_
              refine va_get (pc := 107) (D := D) (ci := 8) (v := .int (iI d)) (C := RX9) (T := TX9) (N := 25) hx hb hts hinX9 hown hK.1 hP 0 rfl rfl 23 (by decide) (hts (.fieldLink RX9 294 "BoxesGameModel" "ahead" "I") (List.mem_of_getElem? (i := 7) rfl)) (fun _ h9 => h9) rfl dX9_meanDifference_107 ?_
              refine lv_iadd (pc := 110) hx hb dX9_meanDifference_110 ?_
              refine top_i (show (iI s9) + (iI d) = iI (s9 + d) from by rw [iI_add]) ?_
              refine lv_istore (pc := 111) (lv' := [(5, .int (iI (s9 + d))), (0, .ref mo), (1, .int (nI jx)), (2, .int (nI sd)), (3, .long (lN y9)), (6, .int (nI i))]) hx hb dX9_meanDifference_111 hl (by decide) rfl (fun ls hl => ?_)
              refine lv_iinc (pc := 113) (v := nI (i + 1)) (lv' := [(6, .int (nI (i + 1))), (5, .int (iI (s9 + d))), (0, .ref mo), (1, .int (nI jx)), (2, .int (nI sd)), (3, .long (lN y9))]) hx hb dX9_meanDifference_113 hl (k := 5) rfl (n_inc i 1) (by decide) rfl (fun ls hl => ?_)
              refine lv_goto (pc := 116) (tgt := 41) hx hb dX9_meanDifference_116 (by decide) ?_
              exact ih41 (i + 1) y9 (s9 + d) u (nI p) (iI d) (by first | assumption | omega) (by rw [gmF, ← hxg, ← hend]) (by rw [gmF, ← hxg, ← hend, ← hsg]) (by omega) _ _ hP hD hS _ (lv_sub hl [2, 3, 4, 5, 1, 0] rfl)
            have hrl := rpL_is (x := y9) hC (by omega : und c r u ≠ 0)
            refine lv_ldc2 (pc := 62) hx hb hown (hts (.constantLong RX9 303 (1103515245)) (List.mem_of_getElem? (i := 3) rfl)) dX9_meanDifference_62 ?_
            refine lv_lload_n (pc := 65) hx hb dX9_meanDifference_65 rfl (lv_at hl 3 rfl) ?_
            refine lv_lmul (pc := 66) hx hb dX9_meanDifference_66 ?_
            refine lv_ldc2 (pc := 67) hx hb hown (hts (.constantLong RX9 305 (12345)) (List.mem_of_getElem? (i := 4) rfl)) dX9_meanDifference_67 ?_
            refine lv_ladd (pc := 70) hx hb dX9_meanDifference_70 ?_
            refine lv_ldc2 (pc := 71) hx hb hown (hts (.constantLong RX9 307 (2147483648)) (List.mem_of_getElem? (i := 5) rfl)) dX9_meanDifference_71 ?_
            refine lv_lrem (pc := 74) hx hb dX9_meanDifference_74 (by decide) ?_
            refine top_l (show (((1103515245 : Int64) * (lN y9)) + (12345 : Int64)) - (((1103515245 : Int64) * (lN y9)) + (12345 : Int64)) / (2147483648 : Int64) * (2147483648 : Int64) = lN (lcg y9) from lcg_m hy31) ?_
            refine lv_lstore_n (pc := 75) (lv' := [(3, .long (lN (lcg y9))), (0, .ref mo), (1, .int (nI jx)), (2, .int (nI sd)), (5, .int (iI s9)), (6, .int (nI i))]) hx hb dX9_meanDifference_75 rfl hl (by decide) rfl (fun ls hl => ?_)
            refine lv_aload_n (pc := 76) hx hb dX9_meanDifference_76 rfl (lv_at hl 1 rfl) ?_
            refine lv_aload_n (pc := 77) hx hb dX9_meanDifference_77 rfl (lv_at hl 1 rfl) ?_
            refine lv_lload_n (pc := 78) hx hb dX9_meanDifference_78 rfl (lv_at hl 0 rfl) ?_
            refine lv_ldc2 (pc := 79) hx hb hown (hts (.constantLong RX9 309 (65536)) (List.mem_of_getElem? (i := 6) rfl)) dX9_meanDifference_79 ?_
            refine lv_ldiv (pc := 82) hx hb dX9_meanDifference_82 (by decide) ?_
            refine top_l (show (lN (lcg y9)) / (65536 : Int64) = lN (lcg y9 / 65536) from lc_div (lcg_lt y9)) ?_
            refine lv_aload_n (pc := 83) hx hb dX9_meanDifference_83 rfl (lv_at hl 1 rfl) ?_
            refine lv_aload_n (pc := 84) hx hb dX9_meanDifference_84 rfl (lv_at hl 1 rfl) ?_
            refine va_get (pc := 85) (D := D) (ci := 8) (v := .long u) (C := RX9) (T := TX9) (N := 25) hx hb hts hinX9 hown hK.1 hP 0 rfl rfl 21 (by decide) (hts (.fieldLink RX9 288 "BoxesGameModel" "playedLines" "J") (List.mem_of_getElem? (i := 2) rfl)) (fun _ h9 => h9) rfl dX9_meanDifference_85 ?_
            refine ro_go (pc := 88) (va_runV (As := [.long u]) (rest := [.long (lN (lcg y9 / 65536)), .ref mo, .ref mo]) ⟨hx, hb, hml, hown, hts⟩ (c_X9_open l D Y mo c r ([.int (nI 0), .int (nI c), .int (nI r), .long w, .int (nI pl), .int (nI n), .ref aML, .ref aMR, .ref aOW, .int (nI len), .ref aBU, .int sn, .ref aSA, .ref aSZ, .ref aLP, .ref aOP, .ref aFT, .int od, .ref aOL, .ref aRS, .ref aCD, .long u, .int (nI p), .int (iI d), .long hs]) u (by first | assumption | exact ⟨rfl, rfl⟩) (hC) (hub)) (cwV 1 hts gX9_meanDifference_X9_open rfl rfl rfl ⟨rfl, hdX9_open⟩ ⟨Nat.le_of_ble_eq_true rfl, Nat.le_of_ble_eq_true rfl⟩) (ro_pV hK (hP.sub [0] rfl) (ro_recv hK hP (ci := 8) (q0 := 0) rfl rfl)) rfl rfl hl.1 rfl (lv_room (Nat.le_of_ble_eq_true rfl)) dX9_meanDifference_88 ⟨Nat.le_of_ble_eq_true rfl, Nat.le_of_ble_eq_true rfl⟩) ?_
            refine lv_i2l (pc := 91) (v := lN (und c r u)) hx hb dX9_meanDifference_91 (nI_l (by have := und_le c r u; omega)) ?_
            refine lv_lrem (pc := 92) hx hb dX9_meanDifference_92 (fun q => absurd ((pk_lEQ (by have := und_le c r u; omega) (by decide : 0 < 2 ^ 63)).mp q) (by omega)) ?_
            refine top_l (show (lN (lcg y9 / 65536)) - (lN (lcg y9 / 65536)) / (lN (und c r u)) * (lN (und c r u)) = lN (lcg y9 / 65536 % und c r u) from lc_rem (by have := lcg_lt y9; omega) c59 (by have := und_le c r u; omega)) ?_
            refine lv_l2i (pc := 93) (v := nI (lcg y9 / 65536 % und c r u)) hx hb dX9_meanDifference_93 (lN_i _) ?_
            refine ro_go (pc := 94) (va_runV (As := [.int (nI (lcg y9 / 65536 % und c r u))]) (rest := [.ref mo]) ⟨hx, hb, hml, hown, hts⟩ (c_X9_openAt l D Y mo c r ([.int (nI 0), .int (nI c), .int (nI r), .long w, .int (nI pl), .int (nI n), .ref aML, .ref aMR, .ref aOW, .int (nI len), .ref aBU, .int sn, .ref aSA, .ref aSZ, .ref aLP, .ref aOP, .ref aFT, .int od, .ref aOL, .ref aRS, .ref aCD, .long u, .int (nI p), .int (iI d), .long hs]) u (lcg y9 / 65536 % und c r u) (by first | assumption | exact ⟨rfl, rfl⟩) (hC) (by first | assumption | rfl) (Nat.mod_lt _ (by omega))) (cwV 1 hts gX9_meanDifference_X9_openAt rfl rfl rfl ⟨rfl, hdX9_openAt⟩ ⟨Nat.le_of_ble_eq_true rfl, Nat.le_of_ble_eq_true rfl⟩) (ro_pV hK (hP.sub [0] rfl) (ro_recv hK hP (ci := 8) (q0 := 0) rfl rfl)) rfl rfl hl.1 rfl (lv_room (Nat.le_of_ble_eq_true rfl)) dX9_meanDifference_94 ⟨Nat.le_of_ble_eq_true rfl, Nat.le_of_ble_eq_true rfl⟩) ?_
            refine top_i (show nI (mem (opl c r u) (lcg y9 / 65536 % und c r u)) = nI (rpL c r y9 u) from rfl) ?_
            refine mu_go (pc := 97) (va_runV (As := [.int (nI (rpL c r y9 u))]) (rest := []) ⟨hx, hb, hml, hown, hts⟩ (c_X9_play l D Y mo (nI 0) c r w pl n aML aMR aOW len aBU sn aSA aSZ aLP aOP aFT od aOL aRS aCD u hs p d (rpL c r y9 u) (hC) (hrl.1) (hp1)) (cwV 1 hts gX9_meanDifference_X9_play rfl rfl rfl ⟨rfl, hdX9_play⟩ ⟨Nat.le_of_ble_eq_true rfl, Nat.le_of_ble_eq_true rfl⟩) (mu_pV hK (hP.sub [0] rfl) (hD.sub [0] (by decide) rfl) (ro_recv hK hP (ci := 8) (q0 := 0) rfl rfl)) rfl rfl hl.1 rfl (lv_room (Nat.le_of_ble_eq_true rfl)) dX9_meanDifference_97 ⟨Nat.le_of_ble_eq_true rfl, Nat.le_of_ble_eq_true rfl⟩) hP hD hS [0] rfl (by decide) (fun _ => [(mo, .inr (8, [.int (nI 0), .int (nI c), .int (nI r), .long w, .int (nI pl), .int (nI n), .ref aML, .ref aMR, .ref aOW, .int (nI len), .ref aBU, .int sn, .ref aSA, .ref aSZ, .ref aLP, .ref aOP, .ref aFT, .int od, .ref aOL, .ref aRS, .ref aCD, .long (u ||| b1 (rpL c r y9 u)), .int (nI (nxp (gai c r u (rpL c r y9 u)) p)), .int (iI (d + dst p (gai c r u (rpL c r y9 u)))), .long hs])), (aOW, .inl (Y.1, 16, .inl ow))]) (fun _ => rfl) (fun _ => rfl) (fun uS H locs hpost hP hD hS => ?_)
            have hP : va_P D vwCl [(mo, .inr (8, [.int (nI 0), .int (nI c), .int (nI r), .long w, .int (nI pl), .int (nI n), .ref aML, .ref aMR, .ref aOW, .int (nI len), .ref aBU, .int sn, .ref aSA, .ref aSZ, .ref aLP, .ref aOP, .ref aFT, .int od, .ref aOL, .ref aRS, .ref aCD, .long (u ||| b1 (rpL c r y9 u)), .int (nI (nxp (gai c r u (rpL c r y9 u)) p)), .int (iI (d + dst p (gai c r u (rpL c r y9 u)))), .long hs])), (aOW, .inl (Y.1, 16, .inl ow))] H := hP
            have hD : va_D AA [(mo, .inr (8, [.int (nI 0), .int (nI c), .int (nI r), .long w, .int (nI pl), .int (nI n), .ref aML, .ref aMR, .ref aOW, .int (nI len), .ref aBU, .int sn, .ref aSA, .ref aSZ, .ref aLP, .ref aOP, .ref aFT, .int od, .ref aOL, .ref aRS, .ref aCD, .long (u ||| b1 (rpL c r y9 u)), .int (nI (nxp (gai c r u (rpL c r y9 u)) p)), .int (iI (d + dst p (gai c r u (rpL c r y9 u)))), .long hs])), (aOW, .inl (Y.1, 16, .inl ow))] := hD
            refine lv_pop (pc := 100) hx hb dX9_meanDifference_100 rfl ?_
            refine lv_goto (pc := 101) (tgt := 51) hx hb dX9_meanDifference_101 (by decide) ?_
            exact ih51 (u ||| b1 (rpL c r y9 u)) (nxp (gai c r u (rpL c r y9 u)) p) (d + dst p (gai c r u (rpL c r y9 u))) (lcg y9) (onb_or hC hub hrl.1) (nxp_le hp1) (lcg_lt y9) (by rw [← hF]; exact rp_s hC (by omega) rfl) (by have := und_step hC hrl.1 hrl.2; omega) _ _ hP hD hS _ (lv_sub hl [1, 2, 3, 0, 4, 5] rfl)
        exact L51 ((und c r w) + 1) w pl (dfO c r ow) xx (hob) (hpl1) (hx31) (rfl) (Nat.lt_succ_self _) _ _ hP hD hS _ (lv_sub hl [0, 1, 2, 3, 4, 5] rfl)
    exact L41 ((jx - 0) + 1) 0 sd 0 pw pb ah (by first | assumption | omega) (rfl) (rfl) (Nat.lt_succ_self _) _ _ hP hD hS _ (lv_sub hl [3, 4, 5, 2, 1, 0] rfl)
  · exact absurd c27 (by decide)
