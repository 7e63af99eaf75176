set_option maxHeartbeats 1200000 in
set_option maxRecDepth 100000 in
theorem c_X9_counted (l : Launch) (D : va_G) (Y : vY) (mo : Nat) (th : Int32) (c : Nat) (r : Nat) (w : Int64) (pl : Nat) (n : Nat) (aML : Nat) (aMR : Nat) (aOW : Nat) (len : Nat) (aBU : Nat) (aSA : Nat) (aSZ : Nat) (aLP : Nat) (aOP : Nat) (aFT : Nat) (od : Int32) (aOL : Nat) (aRS : Nat) (aCD : Nat) (pw : Int64) (pb : Int32) (ah : Int32) (hs : Int64) (sn : Int32) (sa : Nat → Int32) (sz : Nat → Int32) (lp : Nat → Int32) (op : Nat → Int32) (ms : Nat → Nat) (ml : Nat → Int32) (mr : Nat → Int32) (ow : Nat → Int32) (a : Nat) (hC : Cr c r) (hM : MoR c r ms n w pl ml mr ow) (ha10 : a ≤ 10) : Mu l yX9_counted wsX9_counted ({ frames := 8, cells := 0, slots := 0, locals := 191 } : Room) [.ref mo, .int (nI a)] D Y [(mo, .inr (8, [.int th, .int (nI c), .int (nI r), .long w, .int (nI pl), .int (nI n), .ref aML, .ref aMR, .ref aOW, .int (nI len), .ref aBU, .int sn, .ref aSA, .ref aSZ, .ref aLP, .ref aOP, .ref aFT, .int od, .ref aOL, .ref aRS, .ref aCD, .long pw, .int pb, .int ah, .long hs])), (aSA, .inl (Y.1, 16, .inl sa)), (aSZ, .inl (Y.1, 16, .inl sz)), (aLP, .inl (Y.2.2.1, 16, .inl lp)), (aOP, .inl (Y.2.2.1, 16, .inl op))] (fun uS : Int32 × (Nat → Int32) × (Nat → Int32) × (Nat → Int32) × (Nat → Int32) => some (.int (nI (cntV c r n pl w a)))) (fun uS : Int32 × (Nat → Int32) × (Nat → Int32) × (Nat → Int32) × (Nat → Int32) => [(mo, .inr (8, [.int th, .int (nI c), .int (nI r), .long w, .int (nI pl), .int (nI n), .ref aML, .ref aMR, .ref aOW, .int (nI len), .ref aBU, .int uS.1, .ref aSA, .ref aSZ, .ref aLP, .ref aOP, .ref aFT, .int od, .ref aOL, .ref aRS, .ref aCD, .long pw, .int pb, .int ah, .long hs])), (aSA, .inl (Y.1, 16, .inl uS.2.1)), (aSZ, .inl (Y.1, 16, .inl uS.2.2.1)), (aLP, .inl (Y.2.2.1, 16, .inl uS.2.2.2.1)), (aOP, .inl (Y.2.2.1, 16, .inl uS.2.2.2.2))]) (fun uS : Int32 × (Nat → Int32) × (Nat → Int32) × (Nat → Int32) × (Nat → Int32) => True) := by
  refine mu_intro (by decide +kernel) rfl (Nat.le_of_ble_eq_true rfl) [(0, .ref mo), (1, .int (nI a))] rfl ?_
  intro pG eG sG mG aG bG tG cG ls hx hb hr hml hts hown hlocks hK hP hD hS hl
  generalize hAA : adA [(mo, .inr (8, [.int th, .int (nI c), .int (nI r), .long w, .int (nI pl), .int (nI n), .ref aML, .ref aMR, .ref aOW, .int (nI len), .ref aBU, .int sn, .ref aSA, .ref aSZ, .ref aLP, .ref aOP, .ref aFT, .int od, .ref aOL, .ref aRS, .ref aCD, .long pw, .int pb, .int ah, .long hs])), (aSA, .inl (Y.1, 16, .inl sa)), (aSZ, .inl (Y.1, 16, .inl sz)), (aLP, .inl (Y.2.2.1, 16, .inl lp)), (aOP, .inl (Y.2.2.1, 16, .inl op))] = AA at hD hS ⊢
  have hP : va_P D vwCl [(mo, .inr (8, [.int th, .int (nI c), .int (nI r), .long w, .int (nI pl), .int (nI n), .ref aML, .ref aMR, .ref aOW, .int (nI len), .ref aBU, .int sn, .ref aSA, .ref aSZ, .ref aLP, .ref aOP, .ref aFT, .int od, .ref aOL, .ref aRS, .ref aCD, .long pw, .int pb, .int ah, .long hs])), (aSA, .inl (Y.1, 16, .inl sa)), (aSZ, .inl (Y.1, 16, .inl sz)), (aLP, .inl (Y.2.2.1, 16, .inl lp)), (aOP, .inl (Y.2.2.1, 16, .inl op))] sG.heap := hP
  have hD : va_D AA [(mo, .inr (8, [.int th, .int (nI c), .int (nI r), .long w, .int (nI pl), .int (nI n), .ref aML, .ref aMR, .ref aOW, .int (nI len), .ref aBU, .int sn, .ref aSA, .ref aSZ, .ref aLP, .ref aOP, .ref aFT, .int od, .ref aOL, .ref aRS, .ref aCD, .long pw, .int pb, .int ah, .long hs])), (aSA, .inl (Y.1, 16, .inl sa)), (aSZ, .inl (Y.1, 16, .inl sz)), (aLP, .inl (Y.2.2.1, 16, .inl lp)), (aOP, .inl (Y.2.2.1, 16, .inl op))] := hD
  have hown : sG.vm.findClass RX9 = some mG.cls := hown
  have hl : lv_has ls 2 [(0, .ref mo), (1, .int (nI a))] := hl
  have hinX9 : ∀ w ∈ u_ws RX9 TX9 25, w ∈ wsX9_counted := by decide +kernel
  have hS : va_S AA sG.heap sG.heap [] := hS
  obtain ⟨hq1, hq2, hq3, hq4, hq5, hq6, hq7, hq8, hq9, hq10, hq11⟩ := hC.q
  have hhu := hM.1.hund hC
  have hpl1 := hM.1.pl1
  have hn40 := hM.1.n40 hC
  have hob := hM.1.onb hC
  refine lv_iload_n (pc := 0) hx hb dX9_counted_0 rfl (lv_at hl 1 rfl) ?_
  by_cases c1_0 : a = 0
  · refine lv_tableIn (pc := 1) (off := 55) (tgt := 56) hx hb dX9_counted_1 (by rw [c1_0]; decide) (by rw [c1_0]; decide) (by rw [c1_0]; first | rfl | decide) (by decide) ?_
    refine lv_aload_n (pc := 56) hx hb dX9_counted_56 rfl (lv_at hl 0 rfl) ?_
    refine va_get (pc := 57) (D := D) (ci := 8) (v := .int (nI c)) (C := RX9) (T := TX9) (N := 25) hx hb hts hinX9 hown hK.1 hP 0 rfl rfl 1 (by decide) (hts (.fieldLink RX9 7 "BoxesGameModel" "columns" "I") (List.mem_of_getElem? (i := 1) rfl)) (fun _ h9 => h9) rfl dX9_counted_57 ?_
    subst hAA
    exact mu_iret hx hb hr hlocks hP hS (⟨_, _, _, _, _⟩) (by rw [c1_0]; rfl) (trivial) (rfl) dX9_counted_60
  by_cases c1_1 : a = 1
  · refine lv_tableIn (pc := 1) (off := 60) (tgt := 61) hx hb dX9_counted_1 (by rw [c1_1]; decide) (by rw [c1_1]; decide) (by rw [c1_1]; first | rfl | decide) (by decide) ?_
    refine lv_aload_n (pc := 61) hx hb dX9_counted_61 rfl (lv_at hl 0 rfl) ?_
    refine va_get (pc := 62) (D := D) (ci := 8) (v := .int (nI r)) (C := RX9) (T := TX9) (N := 25) hx hb hts hinX9 hown hK.1 hP 0 rfl rfl 2 (by decide) (hts (.fieldLink RX9 13 "BoxesGameModel" "rows" "I") (List.mem_of_getElem? (i := 2) rfl)) (fun _ h9 => h9) rfl dX9_counted_62 ?_
    subst hAA
    exact mu_iret hx hb hr hlocks hP hS (⟨_, _, _, _, _⟩) (by rw [c1_1]; rfl) (trivial) (rfl) dX9_counted_65
  by_cases c1_2 : a = 2
  · refine lv_tableIn (pc := 1) (off := 65) (tgt := 66) hx hb dX9_counted_1 (by rw [c1_2]; decide) (by rw [c1_2]; decide) (by rw [c1_2]; first | rfl | decide) (by decide) ?_
    refine lv_aload_n (pc := 66) hx hb dX9_counted_66 rfl (lv_at hl 0 rfl) ?_
    refine ro_go (pc := 67) (va_runV (As := []) (rest := []) ⟨hx, hb, hml, hown, hts⟩ (c_X9_all l D Y mo c r ([.int th, .int (nI c), .int (nI r), .long w, .int (nI pl), .int (nI n), .ref aML, .ref aMR, .ref aOW, .int (nI len), .ref aBU, .int sn, .ref aSA, .ref aSZ, .ref aLP, .ref aOP, .ref aFT, .int od, .ref aOL, .ref aRS, .ref aCD, .long pw, .int pb, .int ah, .long hs]) (by first | assumption | exact ⟨rfl, rfl⟩) (hC)) (cwV 0 hts gX9_counted_X9_all rfl rfl rfl ⟨rfl, hdX9_all⟩ ⟨Nat.le_of_ble_eq_true rfl, Nat.le_of_ble_eq_true rfl⟩) (ro_pV hK (hP.sub [0] rfl) (ro_recv hK hP (ci := 8) (q0 := 0) rfl rfl)) rfl rfl hl.1 rfl (lv_room (Nat.le_of_ble_eq_true rfl)) dX9_counted_67 ⟨Nat.le_of_ble_eq_true rfl, Nat.le_of_ble_eq_true rfl⟩) ?_
    subst hAA
    exact mu_iret hx hb hr hlocks hP hS (⟨_, _, _, _, _⟩) (by rw [c1_2]; rfl) (trivial) (rfl) dX9_counted_70
  by_cases c1_3 : a = 3
  · refine lv_tableIn (pc := 1) (off := 70) (tgt := 71) hx hb dX9_counted_1 (by rw [c1_3]; decide) (by rw [c1_3]; decide) (by rw [c1_3]; first | rfl | decide) (by decide) ?_
    refine lv_aload_n (pc := 71) hx hb dX9_counted_71 rfl (lv_at hl 0 rfl) ?_
    refine va_get (pc := 72) (D := D) (ci := 8) (v := .long w) (C := RX9) (T := TX9) (N := 25) hx hb hts hinX9 hown hK.1 hP 0 rfl rfl 3 (by decide) (hts (.fieldLink RX9 119 "BoxesGameModel" "now" "J") (List.mem_of_getElem? (i := 3) rfl)) (fun _ h9 => h9) rfl dX9_counted_72 ?_
    refine ro_go (pc := 75) (va_runS (As := [.long w]) (rest := []) ⟨hx, hb, hml, hown, hts⟩ (c_X9_size l D Y w ) (va_cwS 1 hts gX9_counted_X9_size rfl rfl rfl hdX9_size ⟨Nat.le_of_ble_eq_true rfl, Nat.le_of_ble_eq_true rfl⟩) (ro_pS hK (hP.sub [] rfl)) rfl rfl hl.1 rfl (lv_room (Nat.le_of_ble_eq_true rfl)) dX9_counted_75 ⟨Nat.le_of_ble_eq_true rfl, Nat.le_of_ble_eq_true rfl⟩) ?_
    subst hAA
    exact mu_iret hx hb hr hlocks hP hS (⟨_, _, _, _, _⟩) (by rw [c1_3, show siz w = n from by have := und_siz hC hob; omega]; rfl) (trivial) (rfl) dX9_counted_78
  by_cases c1_4 : a = 4
  · refine lv_tableIn (pc := 1) (off := 78) (tgt := 79) hx hb dX9_counted_1 (by rw [c1_4]; decide) (by rw [c1_4]; decide) (by rw [c1_4]; first | rfl | decide) (by decide) ?_
    refine lv_aload_n (pc := 79) hx hb dX9_counted_79 rfl (lv_at hl 0 rfl) ?_
    refine lv_aload_n (pc := 80) hx hb dX9_counted_80 rfl (lv_at hl 0 rfl) ?_
    refine va_get (pc := 81) (D := D) (ci := 8) (v := .long w) (C := RX9) (T := TX9) (N := 25) hx hb hts hinX9 hown hK.1 hP 0 rfl rfl 3 (by decide) (hts (.fieldLink RX9 119 "BoxesGameModel" "now" "J") (List.mem_of_getElem? (i := 3) rfl)) (fun _ h9 => h9) rfl dX9_counted_81 ?_
    refine ro_go (pc := 84) (va_runV (As := [.long w]) (rest := []) ⟨hx, hb, hml, hown, hts⟩ (c_X9_complete l D Y mo c r ([.int th, .int (nI c), .int (nI r), .long w, .int (nI pl), .int (nI n), .ref aML, .ref aMR, .ref aOW, .int (nI len), .ref aBU, .int sn, .ref aSA, .ref aSZ, .ref aLP, .ref aOP, .ref aFT, .int od, .ref aOL, .ref aRS, .ref aCD, .long pw, .int pb, .int ah, .long hs]) w (by first | assumption | exact ⟨rfl, rfl⟩) (hC)) (cwV 1 hts gX9_counted_X9_complete rfl rfl rfl ⟨rfl, hdX9_complete⟩ ⟨Nat.le_of_ble_eq_true rfl, Nat.le_of_ble_eq_true rfl⟩) (ro_pV hK (hP.sub [0] rfl) (ro_recv hK hP (ci := 8) (q0 := 0) rfl rfl)) rfl rfl hl.1 rfl (lv_room (Nat.le_of_ble_eq_true rfl)) dX9_counted_84 ⟨Nat.le_of_ble_eq_true rfl, Nat.le_of_ble_eq_true rfl⟩) ?_
    subst hAA
    exact mu_iret hx hb hr hlocks hP hS (⟨_, _, _, _, _⟩) (by rw [c1_4]; rfl) (trivial) (rfl) dX9_counted_87
  by_cases c1_5 : a = 5
  · refine lv_tableIn (pc := 1) (off := 87) (tgt := 88) hx hb dX9_counted_1 (by rw [c1_5]; decide) (by rw [c1_5]; decide) (by rw [c1_5]; first | rfl | decide) (by decide) ?_
    refine lv_aload_n (pc := 88) hx hb dX9_counted_88 rfl (lv_at hl 0 rfl) ?_
    refine va_get (pc := 89) (D := D) (ci := 8) (v := .int (nI pl)) (C := RX9) (T := TX9) (N := 25) hx hb hts hinX9 hown hK.1 hP 0 rfl rfl 4 (by decide) (hts (.fieldLink RX9 123 "BoxesGameModel" "player" "I") (List.mem_of_getElem? (i := 4) rfl)) (fun _ h9 => h9) rfl dX9_counted_89 ?_
    subst hAA
    exact mu_iret hx hb hr hlocks hP hS (⟨_, _, _, _, _⟩) (by rw [c1_5]; rfl) (trivial) (rfl) dX9_counted_92
  by_cases c1_6 : a = 6
  · refine lv_tableIn (pc := 1) (off := 92) (tgt := 93) hx hb dX9_counted_1 (by rw [c1_6]; decide) (by rw [c1_6]; decide) (by rw [c1_6]; first | rfl | decide) (by decide) ?_
    refine lv_aload_n (pc := 93) hx hb dX9_counted_93 rfl (lv_at hl 0 rfl) ?_
    refine lv_iload_n (pc := 94) hx hb dX9_counted_94 rfl (lv_at hl 1 rfl) ?_
    refine lv_iconst (pc := 95) (v := nI 5) hx hb dX9_counted_95 rfl ?_
    refine n_isub (pc := 96) hx hb (by omega) dX9_counted_96 ?_
    refine lv_aload_n (pc := 97) hx hb dX9_counted_97 rfl (lv_at hl 0 rfl) ?_
    refine va_get (pc := 98) (D := D) (ci := 8) (v := .long w) (C := RX9) (T := TX9) (N := 25) hx hb hts hinX9 hown hK.1 hP 0 rfl rfl 3 (by decide) (hts (.fieldLink RX9 119 "BoxesGameModel" "now" "J") (List.mem_of_getElem? (i := 3) rfl)) (fun _ h9 => h9) rfl dX9_counted_98 ?_
    refine ro_go (pc := 101) (va_runV (As := [.int (nI (a - 5)), .long w]) (rest := []) ⟨hx, hb, hml, hown, hts⟩ (c_X9_howMany l D Y mo c r ([.int th, .int (nI c), .int (nI r), .long w, .int (nI pl), .int (nI n), .ref aML, .ref aMR, .ref aOW, .int (nI len), .ref aBU, .int sn, .ref aSA, .ref aSZ, .ref aLP, .ref aOP, .ref aFT, .int od, .ref aOL, .ref aRS, .ref aCD, .long pw, .int pb, .int ah, .long hs]) (a - 5) w (by first | assumption | exact ⟨rfl, rfl⟩) (hC) (by omega)) (cwV 2 hts gX9_counted_X9_howMany rfl rfl rfl ⟨rfl, hdX9_howMany⟩ ⟨Nat.le_of_ble_eq_true rfl, Nat.le_of_ble_eq_true rfl⟩) (ro_pV hK (hP.sub [0] rfl) (ro_recv hK hP (ci := 8) (q0 := 0) rfl rfl)) rfl rfl hl.1 rfl (lv_room (Nat.le_of_ble_eq_true rfl)) dX9_counted_101 ⟨Nat.le_of_ble_eq_true rfl, Nat.le_of_ble_eq_true rfl⟩) ?_
    subst hAA
    exact mu_iret hx hb hr hlocks hP hS (⟨_, _, _, _, _⟩) (by rw [c1_6]; rfl) (trivial) (rfl) dX9_counted_104
  by_cases c1_7 : a = 7
  · refine lv_tableIn (pc := 1) (off := 92) (tgt := 93) hx hb dX9_counted_1 (by rw [c1_7]; decide) (by rw [c1_7]; decide) (by rw [c1_7]; first | rfl | decide) (by decide) ?_
    refine lv_aload_n (pc := 93) hx hb dX9_counted_93 rfl (lv_at hl 0 rfl) ?_
    refine lv_iload_n (pc := 94) hx hb dX9_counted_94 rfl (lv_at hl 1 rfl) ?_
    refine lv_iconst (pc := 95) (v := nI 5) hx hb dX9_counted_95 rfl ?_
    refine n_isub (pc := 96) hx hb (by omega) dX9_counted_96 ?_
    refine lv_aload_n (pc := 97) hx hb dX9_counted_97 rfl (lv_at hl 0 rfl) ?_
    refine va_get (pc := 98) (D := D) (ci := 8) (v := .long w) (C := RX9) (T := TX9) (N := 25) hx hb hts hinX9 hown hK.1 hP 0 rfl rfl 3 (by decide) (hts (.fieldLink RX9 119 "BoxesGameModel" "now" "J") (List.mem_of_getElem? (i := 3) rfl)) (fun _ h9 => h9) rfl dX9_counted_98 ?_
    refine ro_go (pc := 101) (va_runV (As := [.int (nI (a - 5)), .long w]) (rest := []) ⟨hx, hb, hml, hown, hts⟩ (c_X9_howMany l D Y mo c r ([.int th, .int (nI c), .int (nI r), .long w, .int (nI pl), .int (nI n), .ref aML, .ref aMR, .ref aOW, .int (nI len), .ref aBU, .int sn, .ref aSA, .ref aSZ, .ref aLP, .ref aOP, .ref aFT, .int od, .ref aOL, .ref aRS, .ref aCD, .long pw, .int pb, .int ah, .long hs]) (a - 5) w (by first | assumption | exact ⟨rfl, rfl⟩) (hC) (by omega)) (cwV 2 hts gX9_counted_X9_howMany rfl rfl rfl ⟨rfl, hdX9_howMany⟩ ⟨Nat.le_of_ble_eq_true rfl, Nat.le_of_ble_eq_true rfl⟩) (ro_pV hK (hP.sub [0] rfl) (ro_recv hK hP (ci := 8) (q0 := 0) rfl rfl)) rfl rfl hl.1 rfl (lv_room (Nat.le_of_ble_eq_true rfl)) dX9_counted_101 ⟨Nat.le_of_ble_eq_true rfl, Nat.le_of_ble_eq_true rfl⟩) ?_
    subst hAA
    exact mu_iret hx hb hr hlocks hP hS (⟨_, _, _, _, _⟩) (by rw [c1_7]; rfl) (trivial) (rfl) dX9_counted_104
  by_cases c1_8 : a = 8
  · refine lv_tableIn (pc := 1) (off := 92) (tgt := 93) hx hb dX9_counted_1 (by rw [c1_8]; decide) (by rw [c1_8]; decide) (by rw [c1_8]; first | rfl | decide) (by decide) ?_
    refine lv_aload_n (pc := 93) hx hb dX9_counted_93 rfl (lv_at hl 0 rfl) ?_
    refine lv_iload_n (pc := 94) hx hb dX9_counted_94 rfl (lv_at hl 1 rfl) ?_
    refine lv_iconst (pc := 95) (v := nI 5) hx hb dX9_counted_95 rfl ?_
    refine n_isub (pc := 96) hx hb (by omega) dX9_counted_96 ?_
    refine lv_aload_n (pc := 97) hx hb dX9_counted_97 rfl (lv_at hl 0 rfl) ?_
    refine va_get (pc := 98) (D := D) (ci := 8) (v := .long w) (C := RX9) (T := TX9) (N := 25) hx hb hts hinX9 hown hK.1 hP 0 rfl rfl 3 (by decide) (hts (.fieldLink RX9 119 "BoxesGameModel" "now" "J") (List.mem_of_getElem? (i := 3) rfl)) (fun _ h9 => h9) rfl dX9_counted_98 ?_
    refine ro_go (pc := 101) (va_runV (As := [.int (nI (a - 5)), .long w]) (rest := []) ⟨hx, hb, hml, hown, hts⟩ (c_X9_howMany l D Y mo c r ([.int th, .int (nI c), .int (nI r), .long w, .int (nI pl), .int (nI n), .ref aML, .ref aMR, .ref aOW, .int (nI len), .ref aBU, .int sn, .ref aSA, .ref aSZ, .ref aLP, .ref aOP, .ref aFT, .int od, .ref aOL, .ref aRS, .ref aCD, .long pw, .int pb, .int ah, .long hs]) (a - 5) w (by first | assumption | exact ⟨rfl, rfl⟩) (hC) (by omega)) (cwV 2 hts gX9_counted_X9_howMany rfl rfl rfl ⟨rfl, hdX9_howMany⟩ ⟨Nat.le_of_ble_eq_true rfl, Nat.le_of_ble_eq_true rfl⟩) (ro_pV hK (hP.sub [0] rfl) (ro_recv hK hP (ci := 8) (q0 := 0) rfl rfl)) rfl rfl hl.1 rfl (lv_room (Nat.le_of_ble_eq_true rfl)) dX9_counted_101 ⟨Nat.le_of_ble_eq_true rfl, Nat.le_of_ble_eq_true rfl⟩) ?_
    subst hAA
    exact mu_iret hx hb hr hlocks hP hS (⟨_, _, _, _, _⟩) (by rw [c1_8]; rfl) (trivial) (rfl) dX9_counted_104
  by_cases c1_9 : a = 9
  · refine lv_tableIn (pc := 1) (off := 104) (tgt := 105) hx hb dX9_counted_1 (by rw [c1_9]; decide) (by rw [c1_9]; decide) (by rw [c1_9]; first | rfl | decide) (by decide) ?_
    refine lv_aload_n (pc := 105) hx hb dX9_counted_105 rfl (lv_at hl 0 rfl) ?_
    refine lv_aload_n (pc := 106) hx hb dX9_counted_106 rfl (lv_at hl 0 rfl) ?_
    refine va_get (pc := 107) (D := D) (ci := 8) (v := .long w) (C := RX9) (T := TX9) (N := 25) hx hb hts hinX9 hown hK.1 hP 0 rfl rfl 3 (by decide) (hts (.fieldLink RX9 119 "BoxesGameModel" "now" "J") (List.mem_of_getElem? (i := 3) rfl)) (fun _ h9 => h9) rfl dX9_counted_107 ?_
    refine ro_go (pc := 110) (va_runV (As := [.long w]) (rest := []) ⟨hx, hb, hml, hown, hts⟩ (c_X9_runOf l D Y mo c r ([.int th, .int (nI c), .int (nI r), .long w, .int (nI pl), .int (nI n), .ref aML, .ref aMR, .ref aOW, .int (nI len), .ref aBU, .int sn, .ref aSA, .ref aSZ, .ref aLP, .ref aOP, .ref aFT, .int od, .ref aOL, .ref aRS, .ref aCD, .long pw, .int pb, .int ah, .long hs]) w (by first | assumption | exact ⟨rfl, rfl⟩) (hC)) (cwV 1 hts gX9_counted_X9_runOf rfl rfl rfl ⟨rfl, hdX9_runOf⟩ ⟨Nat.le_of_ble_eq_true rfl, Nat.le_of_ble_eq_true rfl⟩) (ro_pV hK (hP.sub [0] rfl) (ro_recv hK hP (ci := 8) (q0 := 0) rfl rfl)) rfl rfl hl.1 rfl (lv_room (Nat.le_of_ble_eq_true rfl)) dX9_counted_110 ⟨Nat.le_of_ble_eq_true rfl, Nat.le_of_ble_eq_true rfl⟩) ?_
    subst hAA
    exact mu_iret hx hb hr hlocks hP hS (⟨_, _, _, _, _⟩) (by rw [c1_9]; rfl) (trivial) (rfl) dX9_counted_113
  refine lv_tableOut (pc := 1) (tgt := 114) hx hb dX9_counted_1 (by rw [nI_toInt (by omega)]; omega) (by decide) ?_
  refine lv_aload_n (pc := 114) hx hb dX9_counted_114 rfl (lv_at hl 0 rfl) ?_
  refine mu_go (pc := 115) (va_runV (As := []) (rest := []) ⟨hx, hb, hml, hown, hts⟩ (c_X9_layStrings l D Y mo th c r w pl n aML aMR aOW len aBU aSA aSZ aLP aOP aFT od aOL aRS aCD pw pb ah hs sn sa sz lp op (hC)) (cwV 0 hts gX9_counted_X9_layStrings rfl rfl rfl ⟨rfl, hdX9_layStrings⟩ ⟨Nat.le_of_ble_eq_true rfl, Nat.le_of_ble_eq_true rfl⟩) (mu_pV hK hP hD (ro_recv hK hP (ci := 8) (q0 := 0) rfl rfl)) rfl rfl hl.1 rfl (lv_room (Nat.le_of_ble_eq_true rfl)) dX9_counted_115 ⟨Nat.le_of_ble_eq_true rfl, Nat.le_of_ble_eq_true rfl⟩) hP hD hS [0, 1, 2, 3, 4] rfl (by decide) (fun uS => [(mo, .inr (8, [.int th, .int (nI c), .int (nI r), .long w, .int (nI pl), .int (nI n), .ref aML, .ref aMR, .ref aOW, .int (nI len), .ref aBU, .int (nI (nst c r w)), .ref aSA, .ref aSZ, .ref aLP, .ref aOP, .ref aFT, .int od, .ref aOL, .ref aRS, .ref aCD, .long pw, .int pb, .int ah, .long hs])), (aSA, .inl (Y.1, 16, .inl uS.1)), (aSZ, .inl (Y.1, 16, .inl uS.2.1)), (aLP, .inl (Y.2.2.1, 16, .inl uS.2.2.1)), (aOP, .inl (Y.2.2.1, 16, .inl uS.2.2.2))]) (fun _ => rfl) (fun _ => rfl) (fun uS H locs hpost hP hD hS => ?_)
  obtain ⟨sa2_115, sz2_115, lp2_115, op2_115⟩ := uS
  try dsimp only at hpost
  refine top_i (show _ = nI (nst c r w) from rfl) ?_
  have hP : va_P D vwCl [(mo, .inr (8, [.int th, .int (nI c), .int (nI r), .long w, .int (nI pl), .int (nI n), .ref aML, .ref aMR, .ref aOW, .int (nI len), .ref aBU, .int (nI (nst c r w)), .ref aSA, .ref aSZ, .ref aLP, .ref aOP, .ref aFT, .int od, .ref aOL, .ref aRS, .ref aCD, .long pw, .int pb, .int ah, .long hs])), (aSA, .inl (Y.1, 16, .inl sa2_115)), (aSZ, .inl (Y.1, 16, .inl sz2_115)), (aLP, .inl (Y.2.2.1, 16, .inl lp2_115)), (aOP, .inl (Y.2.2.1, 16, .inl op2_115))] H := hP
  have hD : va_D AA [(mo, .inr (8, [.int th, .int (nI c), .int (nI r), .long w, .int (nI pl), .int (nI n), .ref aML, .ref aMR, .ref aOW, .int (nI len), .ref aBU, .int (nI (nst c r w)), .ref aSA, .ref aSZ, .ref aLP, .ref aOP, .ref aFT, .int od, .ref aOL, .ref aRS, .ref aCD, .long pw, .int pb, .int ah, .long hs])), (aSA, .inl (Y.1, 16, .inl sa2_115)), (aSZ, .inl (Y.1, 16, .inl sz2_115)), (aLP, .inl (Y.2.2.1, 16, .inl lp2_115)), (aOP, .inl (Y.2.2.1, 16, .inl op2_115))] := hD
  subst hAA
  exact mu_iret hx hb hr hlocks hP hS (⟨_, _, _, _, _⟩) (by rw [cntV_10 ⟨c1_0, c1_1, c1_2, c1_3, c1_4, c1_5, c1_6, c1_7, c1_8, c1_9⟩]) (trivial) (rfl) dX9_counted_118

set_option maxHeartbeats 1200000 in
set_option maxRecDepth 100000 in
theorem c_X9_count (l : Launch) (D : va_G) (Y : vY) (mo : Nat) (th : Int32) (c : Nat) (r : Nat) (w : Int64) (pl : Nat) (n : Nat) (aML : Nat) (aMR : Nat) (aOW : Nat) (len : Nat) (aBU : Nat) (sn : Int32) (aSA : Nat) (aSZ : Nat) (aLP : Nat) (aOP : Nat) (aFT : Nat) (od : Int32) (aOL : Nat) (aRS : Nat) (aCD : Nat) (pw : Int64) (pb : Int32) (ah : Int32) (hs : Int64) (sa : Nat → Int32) (sz : Nat → Int32) (lp : Nat → Int32) (op : Nat → Int32) (ms : Nat → Nat) (ml : Nat → Int32) (mr : Nat → Int32) (ow : Nat → Int32) (x : Int32) (hC : Cr c r) (hM : MoR c r ms n w pl ml mr ow) : Mu l yX9_count wsX9_count ({ frames := 9, cells := 0, slots := 0, locals := 212 } : Room) [.ref mo, .int x] D Y [(mo, .inr (8, [.int th, .int (nI c), .int (nI r), .long w, .int (nI pl), .int (nI n), .ref aML, .ref aMR, .ref aOW, .int (nI len), .ref aBU, .int sn, .ref aSA, .ref aSZ, .ref aLP, .ref aOP, .ref aFT, .int od, .ref aOL, .ref aRS, .ref aCD, .long pw, .int pb, .int ah, .long hs])), (aSA, .inl (Y.1, 16, .inl sa)), (aSZ, .inl (Y.1, 16, .inl sz)), (aLP, .inl (Y.2.2.1, 16, .inl lp)), (aOP, .inl (Y.2.2.1, 16, .inl op))] (fun uS : Int32 × Int32 × Int32 × (Nat → Int32) × (Nat → Int32) × (Nat → Int32) × (Nat → Int32) => some (.int uS.2.1)) (fun uS : Int32 × Int32 × Int32 × (Nat → Int32) × (Nat → Int32) × (Nat → Int32) × (Nat → Int32) => [(mo, .inr (8, [.int uS.1, .int (nI c), .int (nI r), .long w, .int (nI pl), .int (nI n), .ref aML, .ref aMR, .ref aOW, .int (nI len), .ref aBU, .int uS.2.2.1, .ref aSA, .ref aSZ, .ref aLP, .ref aOP, .ref aFT, .int od, .ref aOL, .ref aRS, .ref aCD, .long pw, .int pb, .int ah, .long hs])), (aSA, .inl (Y.1, 16, .inl uS.2.2.2.1)), (aSZ, .inl (Y.1, 16, .inl uS.2.2.2.2.1)), (aLP, .inl (Y.2.2.1, 16, .inl uS.2.2.2.2.2.1)), (aOP, .inl (Y.2.2.1, 16, .inl uS.2.2.2.2.2.2))]) (fun uS : Int32 × Int32 × Int32 × (Nat → Int32) × (Nat → Int32) × (Nat → Int32) × (Nat → Int32) => RvP (kD1 (wi x (nI 0) (nI 10))) uS.1 uS.2.1 (nI (cntV c r n pl w x.toNatClampNeg))) := by
  refine mu_intro (by decide +kernel) rfl (Nat.le_of_ble_eq_true rfl) [(0, .ref mo), (1, .int x)] rfl ?_
  intro pG eG sG mG aG bG tG cG ls hx hb hr hml hts hown hlocks hK hP hD hS hl
  generalize hAA : adA [(mo, .inr (8, [.int th, .int (nI c), .int (nI r), .long w, .int (nI pl), .int (nI n), .ref aML, .ref aMR, .ref aOW, .int (nI len), .ref aBU, .int sn, .ref aSA, .ref aSZ, .ref aLP, .ref aOP, .ref aFT, .int od, .ref aOL, .ref aRS, .ref aCD, .long pw, .int pb, .int ah, .long hs])), (aSA, .inl (Y.1, 16, .inl sa)), (aSZ, .inl (Y.1, 16, .inl sz)), (aLP, .inl (Y.2.2.1, 16, .inl lp)), (aOP, .inl (Y.2.2.1, 16, .inl op))] = AA at hD hS ⊢
  have hP : va_P D vwCl [(mo, .inr (8, [.int th, .int (nI c), .int (nI r), .long w, .int (nI pl), .int (nI n), .ref aML, .ref aMR, .ref aOW, .int (nI len), .ref aBU, .int sn, .ref aSA, .ref aSZ, .ref aLP, .ref aOP, .ref aFT, .int od, .ref aOL, .ref aRS, .ref aCD, .long pw, .int pb, .int ah, .long hs])), (aSA, .inl (Y.1, 16, .inl sa)), (aSZ, .inl (Y.1, 16, .inl sz)), (aLP, .inl (Y.2.2.1, 16, .inl lp)), (aOP, .inl (Y.2.2.1, 16, .inl op))] sG.heap := hP
  have hD : va_D AA [(mo, .inr (8, [.int th, .int (nI c), .int (nI r), .long w, .int (nI pl), .int (nI n), .ref aML, .ref aMR, .ref aOW, .int (nI len), .ref aBU, .int sn, .ref aSA, .ref aSZ, .ref aLP, .ref aOP, .ref aFT, .int od, .ref aOL, .ref aRS, .ref aCD, .long pw, .int pb, .int ah, .long hs])), (aSA, .inl (Y.1, 16, .inl sa)), (aSZ, .inl (Y.1, 16, .inl sz)), (aLP, .inl (Y.2.2.1, 16, .inl lp)), (aOP, .inl (Y.2.2.1, 16, .inl op))] := hD
  have hown : sG.vm.findClass RX9 = some mG.cls := hown
  have hl : lv_has ls 2 [(0, .ref mo), (1, .int x)] := hl
  have hinX9 : ∀ w ∈ u_ws RX9 TX9 25, w ∈ wsX9_count := by decide +kernel
  have hS : va_S AA sG.heap sG.heap [] := hS
  obtain ⟨hq1, hq2, hq3, hq4, hq5, hq6, hq7, hq8, hq9, hq10, hq11⟩ := hC.q
  refine lv_aload_n (pc := 0) hx hb dX9_count_0 rfl (lv_at hl 0 rfl) ?_
  refine lv_iload_n (pc := 1) hx hb dX9_count_1 rfl (lv_at hl 1 rfl) ?_
  refine lv_iconst (pc := 2) (v := nI 0) hx hb dX9_count_2 rfl ?_
  refine lv_bipush (pc := 3) (v := nI 10) hx hb dX9_count_3 rfl ?_
  refine ro_go (pc := 5) (va_runS (As := [.int x, .int (nI 0), .int (nI 10)]) (rest := [.ref mo]) ⟨hx, hb, hml, hown, hts⟩ (c_X9_within l D Y x (nI 0) (nI 10) ) (va_cwS 3 hts gX9_count_X9_within rfl rfl rfl hdX9_within ⟨Nat.le_of_ble_eq_true rfl, Nat.le_of_ble_eq_true rfl⟩) (ro_pS hK (hP.sub [] rfl)) rfl rfl hl.1 rfl (lv_room (Nat.le_of_ble_eq_true rfl)) dX9_count_5 ⟨Nat.le_of_ble_eq_true rfl, Nat.le_of_ble_eq_true rfl⟩) ?_
  refine z_if_eq (pc := 8) (tgt := 15) hx hb dX9_count_8 (by decide) (fun c8 => ?_) (fun c8 => ?_)
  · refine lv_iconst (pc := 15) (v := nI 1) hx hb dX9_count_15 rfl ?_
    refine va_put (pc := 16) (D := D) (ci := 8) (v := .int (nI 1)) (ty := .int) (C := RX9) (T := TX9) (N := 25) hx hb hts hinX9 tyX9 tyX9_ok nmX9 hown hK.1 hP hD hS 0 rfl rfl 0 (by decide) (hts (.fieldLink RX9 59 "BoxesGameModel" "thrown" "I") (List.mem_of_getElem? (i := 1) rfl)) (fun _ h9 => h9) rfl (by decide +kernel) (rfl) (rfl) (Nat.le_of_ble_eq_true rfl) dX9_count_16 (fun H locs hP hD hS => ?_)
    have hP : va_P D vwCl [(mo, .inr (8, [.int (nI 1), .int (nI c), .int (nI r), .long w, .int (nI pl), .int (nI n), .ref aML, .ref aMR, .ref aOW, .int (nI len), .ref aBU, .int sn, .ref aSA, .ref aSZ, .ref aLP, .ref aOP, .ref aFT, .int od, .ref aOL, .ref aRS, .ref aCD, .long pw, .int pb, .int ah, .long hs])), (aSA, .inl (Y.1, 16, .inl sa)), (aSZ, .inl (Y.1, 16, .inl sz)), (aLP, .inl (Y.2.2.1, 16, .inl lp)), (aOP, .inl (Y.2.2.1, 16, .inl op))] H := hP
    have hD : va_D AA [(mo, .inr (8, [.int (nI 1), .int (nI c), .int (nI r), .long w, .int (nI pl), .int (nI n), .ref aML, .ref aMR, .ref aOW, .int (nI len), .ref aBU, .int sn, .ref aSA, .ref aSZ, .ref aLP, .ref aOP, .ref aFT, .int od, .ref aOL, .ref aRS, .ref aCD, .long pw, .int pb, .int ah, .long hs])), (aSA, .inl (Y.1, 16, .inl sa)), (aSZ, .inl (Y.1, 16, .inl sz)), (aLP, .inl (Y.2.2.1, 16, .inl lp)), (aOP, .inl (Y.2.2.1, 16, .inl op))] := hD
    refine lv_aload_n (pc := 19) hx hb dX9_count_19 rfl (lv_at hl 0 rfl) ?_
    refine va_get (pc := 20) (D := D) (ci := 8) (v := .int (nI 1)) (C := RX9) (T := TX9) (N := 25) hx hb hts hinX9 hown hK.1 hP 0 rfl rfl 0 (by decide) (hts (.fieldLink RX9 59 "BoxesGameModel" "thrown" "I") (List.mem_of_getElem? (i := 1) rfl)) (fun _ h9 => h9) rfl dX9_count_20 ?_
    refine n_if_le (pc := 23) (tgt := 30) hx hb (by omega) dX9_count_23 (by decide) (fun c23 => ?_) (fun c23 => ?_)
    · exact absurd c23 (by decide)
    refine lv_iconst (pc := 26) (v := nI 0) hx hb dX9_count_26 rfl ?_
    refine lv_goto (pc := 27) (tgt := 35) hx hb dX9_count_27 (by decide) ?_
    subst hAA
    exact mu_iret hx hb hr hlocks hP hS (⟨_, _, _, _, _, _, _⟩) (rfl) (RvP.no (kD1_f c8) (by decide)) (rfl) dX9_count_35
  obtain ⟨ja, hja, rfl⟩ := wi_of (by decide) c8
  have hcja : (nI ja).toNatClampNeg = ja := nI_clamp (by omega)
  have hl : lv_has ls 2 [(0, .ref mo), (1, .int (nI ja))] := hl
  refine lv_iconst (pc := 11) (v := nI 0) hx hb dX9_count_11 rfl ?_
  refine lv_goto (pc := 12) (tgt := 16) hx hb dX9_count_12 (by decide) ?_
  refine va_put (pc := 16) (D := D) (ci := 8) (v := .int (nI 0)) (ty := .int) (C := RX9) (T := TX9) (N := 25) hx hb hts hinX9 tyX9 tyX9_ok nmX9 hown hK.1 hP hD hS 0 rfl rfl 0 (by decide) (hts (.fieldLink RX9 59 "BoxesGameModel" "thrown" "I") (List.mem_of_getElem? (i := 1) rfl)) (fun _ h9 => h9) rfl (by decide +kernel) (rfl) (rfl) (Nat.le_of_ble_eq_true rfl) dX9_count_16 (fun H locs hP hD hS => ?_)
  have hP : va_P D vwCl [(mo, .inr (8, [.int (nI 0), .int (nI c), .int (nI r), .long w, .int (nI pl), .int (nI n), .ref aML, .ref aMR, .ref aOW, .int (nI len), .ref aBU, .int sn, .ref aSA, .ref aSZ, .ref aLP, .ref aOP, .ref aFT, .int od, .ref aOL, .ref aRS, .ref aCD, .long pw, .int pb, .int ah, .long hs])), (aSA, .inl (Y.1, 16, .inl sa)), (aSZ, .inl (Y.1, 16, .inl sz)), (aLP, .inl (Y.2.2.1, 16, .inl lp)), (aOP, .inl (Y.2.2.1, 16, .inl op))] H := hP
  have hD : va_D AA [(mo, .inr (8, [.int (nI 0), .int (nI c), .int (nI r), .long w, .int (nI pl), .int (nI n), .ref aML, .ref aMR, .ref aOW, .int (nI len), .ref aBU, .int sn, .ref aSA, .ref aSZ, .ref aLP, .ref aOP, .ref aFT, .int od, .ref aOL, .ref aRS, .ref aCD, .long pw, .int pb, .int ah, .long hs])), (aSA, .inl (Y.1, 16, .inl sa)), (aSZ, .inl (Y.1, 16, .inl sz)), (aLP, .inl (Y.2.2.1, 16, .inl lp)), (aOP, .inl (Y.2.2.1, 16, .inl op))] := hD
  refine lv_aload_n (pc := 19) hx hb dX9_count_19 rfl (lv_at hl 0 rfl) ?_
  refine va_get (pc := 20) (D := D) (ci := 8) (v := .int (nI 0)) (C := RX9) (T := TX9) (N := 25) hx hb hts hinX9 hown hK.1 hP 0 rfl rfl 0 (by decide) (hts (.fieldLink RX9 59 "BoxesGameModel" "thrown" "I") (List.mem_of_getElem? (i := 1) rfl)) (fun _ h9 => h9) rfl dX9_count_20 ?_
  refine n_if_le (pc := 23) (tgt := 30) hx hb (by omega) dX9_count_23 (by decide) (fun c23 => ?_) (fun c23 => ?_)
  · refine lv_aload_n (pc := 30) hx hb dX9_count_30 rfl (lv_at hl 0 rfl) ?_
    refine lv_iload_n (pc := 31) hx hb dX9_count_31 rfl (lv_at hl 1 rfl) ?_
    refine mu_go (pc := 32) (va_runV (As := [.int (nI ja)]) (rest := []) ⟨hx, hb, hml, hown, hts⟩ (c_X9_counted l D Y mo (nI 0) c r w pl n aML aMR aOW len aBU aSA aSZ aLP aOP aFT od aOL aRS aCD pw pb ah hs sn sa sz lp op ms ml mr ow ja (hC) (hM) (hja)) (cwV 1 hts gX9_count_X9_counted rfl rfl rfl ⟨rfl, hdX9_counted⟩ ⟨Nat.le_of_ble_eq_true rfl, Nat.le_of_ble_eq_true rfl⟩) (mu_pV hK hP hD (ro_recv hK hP (ci := 8) (q0 := 0) rfl rfl)) rfl rfl hl.1 rfl (lv_room (Nat.le_of_ble_eq_true rfl)) dX9_count_32 ⟨Nat.le_of_ble_eq_true rfl, Nat.le_of_ble_eq_true rfl⟩) hP hD hS [0, 1, 2, 3, 4] rfl (by decide) (fun uS => [(mo, .inr (8, [.int (nI 0), .int (nI c), .int (nI r), .long w, .int (nI pl), .int (nI n), .ref aML, .ref aMR, .ref aOW, .int (nI len), .ref aBU, .int uS.1, .ref aSA, .ref aSZ, .ref aLP, .ref aOP, .ref aFT, .int od, .ref aOL, .ref aRS, .ref aCD, .long pw, .int pb, .int ah, .long hs])), (aSA, .inl (Y.1, 16, .inl uS.2.1)), (aSZ, .inl (Y.1, 16, .inl uS.2.2.1)), (aLP, .inl (Y.2.2.1, 16, .inl uS.2.2.2.1)), (aOP, .inl (Y.2.2.1, 16, .inl uS.2.2.2.2))]) (fun _ => rfl) (fun _ => rfl) (fun uS H locs hpost hP hD hS => ?_)
    obtain ⟨sn2_32, sa2_32, sz2_32, lp2_32, op2_32⟩ := uS
    refine top_i (show _ = nI (cntV c r n pl w ja) from rfl) ?_
    have hP : va_P D vwCl [(mo, .inr (8, [.int (nI 0), .int (nI c), .int (nI r), .long w, .int (nI pl), .int (nI n), .ref aML, .ref aMR, .ref aOW, .int (nI len), .ref aBU, .int sn2_32, .ref aSA, .ref aSZ, .ref aLP, .ref aOP, .ref aFT, .int od, .ref aOL, .ref aRS, .ref aCD, .long pw, .int pb, .int ah, .long hs])), (aSA, .inl (Y.1, 16, .inl sa2_32)), (aSZ, .inl (Y.1, 16, .inl sz2_32)), (aLP, .inl (Y.2.2.1, 16, .inl lp2_32)), (aOP, .inl (Y.2.2.1, 16, .inl op2_32))] H := hP
    have hD : va_D AA [(mo, .inr (8, [.int (nI 0), .int (nI c), .int (nI r), .long w, .int (nI pl), .int (nI n), .ref aML, .ref aMR, .ref aOW, .int (nI len), .ref aBU, .int sn2_32, .ref aSA, .ref aSZ, .ref aLP, .ref aOP, .ref aFT, .int od, .ref aOL, .ref aRS, .ref aCD, .long pw, .int pb, .int ah, .long hs])), (aSA, .inl (Y.1, 16, .inl sa2_32)), (aSZ, .inl (Y.1, 16, .inl sz2_32)), (aLP, .inl (Y.2.2.1, 16, .inl lp2_32)), (aOP, .inl (Y.2.2.1, 16, .inl op2_32))] := hD
    subst hAA
    exact mu_iret hx hb hr hlocks hP hS (⟨_, _, _, _, _, _, _⟩) (rfl) (by rw [hcja]; exact RvP.ok (kD1_t c8)) (rfl) dX9_count_35
  · exact absurd c23 (by decide)

set_option maxHeartbeats 1200000 in
set_option maxRecDepth 100000 in
theorem c_X9_scoreOf (l : Launch) (D : va_G) (Y : vY) (mo : Nat) (c : Nat) (r : Nat) (fs : List Value) (aOW : Nat) (q : Nat) (ow : Nat → Int32) (hf : MF c r fs) (hC : Cr c r) (hf8 : fs[8]? = some (.ref aOW)) : Ro l yX9_scoreOf wsX9_scoreOf ({ frames := 1, cells := 0, slots := 0, locals := 20 } : Room) [.ref mo, .int (nI q)] D Y [(mo, .inr (8, fs)), (aOW, .inl (Y.1, 16, .inl ow))] (some (.int (nI (sco ow q (c * r))))) := by
  refine ro_intro (by decide +kernel) rfl (Nat.le_of_ble_eq_true rfl) [(0, .ref mo), (1, .int (nI q))] rfl ?_
  intro pG eG sG mG aG bG tG cG ls hx hb hr hml hts hown hlocks hK hP hl
  have hP : va_P D vwCl [(mo, .inr (8, fs)), (aOW, .inl (Y.1, 16, .inl ow))] sG.heap := hP
  have hown : sG.vm.findClass RX9 = some mG.cls := hown
  have hl : lv_has ls 4 [(0, .ref mo), (1, .int (nI q))] := hl
  have hinX9 : ∀ w ∈ u_ws RX9 TX9 25, w ∈ wsX9_scoreOf := by decide +kernel
  obtain ⟨hq1, hq2, hq3, hq4, hq5, hq6, hq7, hq8, hq9, hq10, hq11⟩ := hC.q
  refine lv_iconst (pc := 0) (v := nI 0) hx hb dX9_scoreOf_0 rfl ?_
  refine lv_istore_n (pc := 1) (lv' := [(2, .int (nI 0)), (0, .ref mo), (1, .int (nI q))]) hx hb dX9_scoreOf_1 rfl hl (by decide) rfl (fun ls hl => ?_)
  refine lv_iconst (pc := 2) (v := nI 0) hx hb dX9_scoreOf_2 rfl ?_
  refine lv_istore_n (pc := 3) (lv' := [(3, .int (nI 0)), (2, .int (nI 0)), (0, .ref mo), (1, .int (nI q))]) hx hb dX9_scoreOf_3 rfl hl (by decide) rfl (fun ls hl => ?_)
  have L4 : ∀ (n4 : Nat), ∀ (i : Nat) (k : Nat), (i ≤ c * r) → (k = fb_ct (fun b => decide (ow b = nI q)) i) → c * r - i < n4 → ∀ (ls : Array Slot), lv_has ls 4 [(0, .ref mo), (1, .int (nI q)), (2, .int (nI k)), (3, .int (nI i))] → W pG l eG ({ frames := 1, cells := 0, slots := 0, locals := 20 } : Room) sG mG aG bG tG cG sG.heap [] 0 0 (MQ bG (RoQ (some (.int (nI (sco ow q (c * r)))))) aG sG 0 0 (fun _ => False)) (F0 mG 4 ls []) := by
    intro n4
    induction n4 with
    | zero =>
      intro i k hi hk hmeas4  ls hl
      exact absurd hmeas4 (Nat.not_lt_zero _)
    | succ n4 ih4 =>
      intro i k hi hk hmeas4  ls hl
      refine lv_iload_n (pc := 4) hx hb dX9_scoreOf_4 rfl (lv_at hl 3 rfl) ?_
      refine lv_aload_n (pc := 5) hx hb dX9_scoreOf_5 rfl (lv_at hl 0 rfl) ?_
      refine ro_go (pc := 6) (va_runV (As := []) (rest := [.int (nI i)]) ⟨hx, hb, hml, hown, hts⟩ (c_X9_boxes l D Y mo c r fs (hf) (hC)) (cwV 0 hts gX9_scoreOf_X9_boxes rfl rfl rfl ⟨rfl, hdX9_boxes⟩ ⟨Nat.le_of_ble_eq_true rfl, Nat.le_of_ble_eq_true rfl⟩) (ro_pV hK (hP.sub [0] rfl) (ro_recv hK hP (ci := 8) (q0 := 0) rfl rfl)) rfl rfl hl.1 rfl (lv_room (Nat.le_of_ble_eq_true rfl)) dX9_scoreOf_6 ⟨Nat.le_of_ble_eq_true rfl, Nat.le_of_ble_eq_true rfl⟩) ?_
      refine n_icmp_ge (pc := 9) (tgt := 36) hx hb (by omega) (by omega) dX9_scoreOf_9 (by decide) (fun c9 => ?_) (fun c9 => ?_)
      · refine lv_iload_n (pc := 36) hx hb dX9_scoreOf_36 rfl (lv_at hl 2 rfl) ?_
        exact ro_iret (v := nI k) hx hb hr hlocks (by rw [hk, show i = c * r by omega]; rfl) dX9_scoreOf_37
      refine lv_iload_n (pc := 12) hx hb dX9_scoreOf_12 rfl (lv_at hl 2 rfl) ?_
      refine lv_aload_n (pc := 13) hx hb dX9_scoreOf_13 rfl (lv_at hl 0 rfl) ?_
      refine va_get (pc := 14) (D := D) (ci := 8) (v := .ref aOW) (C := RX9) (T := TX9) (N := 25) hx hb hts hinX9 hown hK.1 hP 0 rfl rfl 8 (by decide) (hts (.fieldLink RX9 23 "BoxesGameModel" "owners" "[I") (List.mem_of_getElem? (i := 1) rfl)) (fun _ h9 => h9) hf8 dX9_scoreOf_14 ?_
      refine lv_iload_n (pc := 17) hx hb dX9_scoreOf_17 rfl (lv_at hl 3 rfl) ?_
      refine va_iald (pc := 18) hx hb hK.1 hP 1 0 rfl rfl (vp_in_nI (by omega) (by decide)) dX9_scoreOf_18 ?_
      refine top_i (show ow (nI i).toNatClampNeg = ow i from by rw [nI_clamp (by omega)]) ?_
      refine lv_iload_n (pc := 19) hx hb dX9_scoreOf_19 rfl (lv_at hl 1 rfl) ?_
      refine lv_icmp_ne (pc := 20) (tgt := 27) hx hb dX9_scoreOf_20 (by decide) (fun c20 => ?_) (fun c20 => ?_)
      · refine lv_iconst (pc := 27) (v := nI 0) hx hb dX9_scoreOf_27 rfl ?_
        refine n_iadd (pc := 28) hx hb dX9_scoreOf_28 ?_
        refine lv_istore_n (pc := 29) (lv' := [(2, .int (nI (k + 0))), (0, .ref mo), (1, .int (nI q)), (3, .int (nI i))]) hx hb dX9_scoreOf_29 rfl hl (by decide) rfl (fun ls hl => ?_)
        refine lv_iinc (pc := 30) (v := nI (i + 1)) (lv' := [(3, .int (nI (i + 1))), (2, .int (nI (k + 0))), (0, .ref mo), (1, .int (nI q))]) hx hb dX9_scoreOf_30 hl (k := 3) rfl (n_inc i 1) (by decide) rfl (fun ls hl => ?_)
        refine lv_goto (pc := 33) (tgt := 4) hx hb dX9_scoreOf_33 (by decide) ?_
        exact ih4 (i + 1) (k + 0) (by first | assumption | omega) (by rw [fb_ct_succ, ← hk]; rw [decide_eq_false c20]; rfl) (by omega) _ (lv_sub hl [2, 3, 1, 0] rfl)
      refine lv_iconst (pc := 23) (v := nI 1) hx hb dX9_scoreOf_23 rfl ?_
      refine lv_goto (pc := 24) (tgt := 28) hx hb dX9_scoreOf_24 (by decide) ?_
      refine n_iadd (pc := 28) hx hb dX9_scoreOf_28 ?_
      refine lv_istore_n (pc := 29) (lv' := [(2, .int (nI (k + 1))), (0, .ref mo), (1, .int (nI q)), (3, .int (nI i))]) hx hb dX9_scoreOf_29 rfl hl (by decide) rfl (fun ls hl => ?_)
      refine lv_iinc (pc := 30) (v := nI (i + 1)) (lv' := [(3, .int (nI (i + 1))), (2, .int (nI (k + 1))), (0, .ref mo), (1, .int (nI q))]) hx hb dX9_scoreOf_30 hl (k := 3) rfl (n_inc i 1) (by decide) rfl (fun ls hl => ?_)
      refine lv_goto (pc := 33) (tgt := 4) hx hb dX9_scoreOf_33 (by decide) ?_
      exact ih4 (i + 1) (k + 1) (by first | assumption | omega) (by rw [fb_ct_succ, ← hk]; rw [decide_eq_true c20]; rfl) (by omega) _ (lv_sub hl [2, 3, 1, 0] rfl)
  exact L4 ((c * r - 0) + 1) 0 0 (by first | assumption | omega) (rfl) (Nat.lt_succ_self _) _ (lv_sub hl [2, 3, 1, 0] rfl)

set_option maxHeartbeats 1200000 in
set_option maxRecDepth 100000 in
theorem c_X9_score (l : Launch) (D : va_G) (Y : vY) (mo : Nat) (th : Int32) (c : Nat) (r : Nat) (w : Int64) (pl : Nat) (n : Nat) (aML : Nat) (aMR : Nat) (aOW : Nat) (len : Nat) (aBU : Nat) (sn : Int32) (aSA : Nat) (aSZ : Nat) (aLP : Nat) (aOP : Nat) (aFT : Nat) (od : Int32) (aOL : Nat) (aRS : Nat) (aCD : Nat) (pw : Int64) (pb : Int32) (ah : Int32) (hs : Int64) (ms : Nat → Nat) (ml : Nat → Int32) (mr : Nat → Int32) (ow : Nat → Int32) (x : Int32) (hC : Cr c r) (hM : MoR c r ms n w pl ml mr ow) : Mu l yX9_score wsX9_score ({ frames := 2, cells := 0, slots := 0, locals := 43 } : Room) [.ref mo, .int x] D Y [(mo, .inr (8, [.int th, .int (nI c), .int (nI r), .long w, .int (nI pl), .int (nI n), .ref aML, .ref aMR, .ref aOW, .int (nI len), .ref aBU, .int sn, .ref aSA, .ref aSZ, .ref aLP, .ref aOP, .ref aFT, .int od, .ref aOL, .ref aRS, .ref aCD, .long pw, .int pb, .int ah, .long hs])), (aOW, .inl (Y.1, 16, .inl ow))] (fun uS : Int32 × Int32 => some (.int uS.2)) (fun uS : Int32 × Int32 => [(mo, .inr (8, [.int uS.1, .int (nI c), .int (nI r), .long w, .int (nI pl), .int (nI n), .ref aML, .ref aMR, .ref aOW, .int (nI len), .ref aBU, .int sn, .ref aSA, .ref aSZ, .ref aLP, .ref aOP, .ref aFT, .int od, .ref aOL, .ref aRS, .ref aCD, .long pw, .int pb, .int ah, .long hs])), (aOW, .inl (Y.1, 16, .inl ow))]) (fun uS : Int32 × Int32 => RvP (kD1 (wi x (nI 0) (nI 1))) uS.1 uS.2 (nI (sco (oH c r ms n) x.toNatClampNeg (c * r)))) := by
  refine mu_intro (by decide +kernel) rfl (Nat.le_of_ble_eq_true rfl) [(0, .ref mo), (1, .int x)] rfl ?_
  intro pG eG sG mG aG bG tG cG ls hx hb hr hml hts hown hlocks hK hP hD hS hl
  generalize hAA : adA [(mo, .inr (8, [.int th, .int (nI c), .int (nI r), .long w, .int (nI pl), .int (nI n), .ref aML, .ref aMR, .ref aOW, .int (nI len), .ref aBU, .int sn, .ref aSA, .ref aSZ, .ref aLP, .ref aOP, .ref aFT, .int od, .ref aOL, .ref aRS, .ref aCD, .long pw, .int pb, .int ah, .long hs])), (aOW, .inl (Y.1, 16, .inl ow))] = AA at hD hS ⊢
  have hP : va_P D vwCl [(mo, .inr (8, [.int th, .int (nI c), .int (nI r), .long w, .int (nI pl), .int (nI n), .ref aML, .ref aMR, .ref aOW, .int (nI len), .ref aBU, .int sn, .ref aSA, .ref aSZ, .ref aLP, .ref aOP, .ref aFT, .int od, .ref aOL, .ref aRS, .ref aCD, .long pw, .int pb, .int ah, .long hs])), (aOW, .inl (Y.1, 16, .inl ow))] sG.heap := hP
  have hD : va_D AA [(mo, .inr (8, [.int th, .int (nI c), .int (nI r), .long w, .int (nI pl), .int (nI n), .ref aML, .ref aMR, .ref aOW, .int (nI len), .ref aBU, .int sn, .ref aSA, .ref aSZ, .ref aLP, .ref aOP, .ref aFT, .int od, .ref aOL, .ref aRS, .ref aCD, .long pw, .int pb, .int ah, .long hs])), (aOW, .inl (Y.1, 16, .inl ow))] := hD
  have hown : sG.vm.findClass RX9 = some mG.cls := hown
  have hl : lv_has ls 2 [(0, .ref mo), (1, .int x)] := hl
  have hinX9 : ∀ w ∈ u_ws RX9 TX9 25, w ∈ wsX9_score := by decide +kernel
  have hS : va_S AA sG.heap sG.heap [] := hS
  obtain ⟨hq1, hq2, hq3, hq4, hq5, hq6, hq7, hq8, hq9, hq10, hq11⟩ := hC.q
  refine lv_aload_n (pc := 0) hx hb dX9_score_0 rfl (lv_at hl 0 rfl) ?_
  refine lv_iload_n (pc := 1) hx hb dX9_score_1 rfl (lv_at hl 1 rfl) ?_
  refine lv_iconst (pc := 2) (v := nI 0) hx hb dX9_score_2 rfl ?_
  refine lv_iconst (pc := 3) (v := nI 1) hx hb dX9_score_3 rfl ?_
  refine ro_go (pc := 4) (va_runS (As := [.int x, .int (nI 0), .int (nI 1)]) (rest := [.ref mo]) ⟨hx, hb, hml, hown, hts⟩ (c_X9_within l D Y x (nI 0) (nI 1) ) (va_cwS 3 hts gX9_score_X9_within rfl rfl rfl hdX9_within ⟨Nat.le_of_ble_eq_true rfl, Nat.le_of_ble_eq_true rfl⟩) (ro_pS hK (hP.sub [] rfl)) rfl rfl hl.1 rfl (lv_room (Nat.le_of_ble_eq_true rfl)) dX9_score_4 ⟨Nat.le_of_ble_eq_true rfl, Nat.le_of_ble_eq_true rfl⟩) ?_
  refine z_if_eq (pc := 7) (tgt := 14) hx hb dX9_score_7 (by decide) (fun c7 => ?_) (fun c7 => ?_)
  · refine lv_iconst (pc := 14) (v := nI 1) hx hb dX9_score_14 rfl ?_
    refine va_put (pc := 15) (D := D) (ci := 8) (v := .int (nI 1)) (ty := .int) (C := RX9) (T := TX9) (N := 25) hx hb hts hinX9 tyX9 tyX9_ok nmX9 hown hK.1 hP hD hS 0 rfl rfl 0 (by decide) (hts (.fieldLink RX9 59 "BoxesGameModel" "thrown" "I") (List.mem_of_getElem? (i := 1) rfl)) (fun _ h9 => h9) rfl (by decide +kernel) (rfl) (rfl) (Nat.le_of_ble_eq_true rfl) dX9_score_15 (fun H locs hP hD hS => ?_)
    have hP : va_P D vwCl [(mo, .inr (8, [.int (nI 1), .int (nI c), .int (nI r), .long w, .int (nI pl), .int (nI n), .ref aML, .ref aMR, .ref aOW, .int (nI len), .ref aBU, .int sn, .ref aSA, .ref aSZ, .ref aLP, .ref aOP, .ref aFT, .int od, .ref aOL, .ref aRS, .ref aCD, .long pw, .int pb, .int ah, .long hs])), (aOW, .inl (Y.1, 16, .inl ow))] H := hP
    have hD : va_D AA [(mo, .inr (8, [.int (nI 1), .int (nI c), .int (nI r), .long w, .int (nI pl), .int (nI n), .ref aML, .ref aMR, .ref aOW, .int (nI len), .ref aBU, .int sn, .ref aSA, .ref aSZ, .ref aLP, .ref aOP, .ref aFT, .int od, .ref aOL, .ref aRS, .ref aCD, .long pw, .int pb, .int ah, .long hs])), (aOW, .inl (Y.1, 16, .inl ow))] := hD
    refine lv_aload_n (pc := 18) hx hb dX9_score_18 rfl (lv_at hl 0 rfl) ?_
    refine va_get (pc := 19) (D := D) (ci := 8) (v := .int (nI 1)) (C := RX9) (T := TX9) (N := 25) hx hb hts hinX9 hown hK.1 hP 0 rfl rfl 0 (by decide) (hts (.fieldLink RX9 59 "BoxesGameModel" "thrown" "I") (List.mem_of_getElem? (i := 1) rfl)) (fun _ h9 => h9) rfl dX9_score_19 ?_
    refine n_if_le (pc := 22) (tgt := 29) hx hb (by omega) dX9_score_22 (by decide) (fun c22 => ?_) (fun c22 => ?_)
    · exact absurd c22 (by decide)
    refine lv_iconst (pc := 25) (v := nI 0) hx hb dX9_score_25 rfl ?_
    refine lv_goto (pc := 26) (tgt := 34) hx hb dX9_score_26 (by decide) ?_
    subst hAA
    exact mu_iret hx hb hr hlocks hP hS (⟨_, _⟩) (rfl) (RvP.no (kD1_f c7) (by decide)) (rfl) dX9_score_34
  obtain ⟨ja, hja, rfl⟩ := wi_of (by decide) c7
  have hcja : (nI ja).toNatClampNeg = ja := nI_clamp (by omega)
  have hl : lv_has ls 2 [(0, .ref mo), (1, .int (nI ja))] := hl
  refine lv_iconst (pc := 10) (v := nI 0) hx hb dX9_score_10 rfl ?_
  refine lv_goto (pc := 11) (tgt := 15) hx hb dX9_score_11 (by decide) ?_
  refine va_put (pc := 15) (D := D) (ci := 8) (v := .int (nI 0)) (ty := .int) (C := RX9) (T := TX9) (N := 25) hx hb hts hinX9 tyX9 tyX9_ok nmX9 hown hK.1 hP hD hS 0 rfl rfl 0 (by decide) (hts (.fieldLink RX9 59 "BoxesGameModel" "thrown" "I") (List.mem_of_getElem? (i := 1) rfl)) (fun _ h9 => h9) rfl (by decide +kernel) (rfl) (rfl) (Nat.le_of_ble_eq_true rfl) dX9_score_15 (fun H locs hP hD hS => ?_)
  have hP : va_P D vwCl [(mo, .inr (8, [.int (nI 0), .int (nI c), .int (nI r), .long w, .int (nI pl), .int (nI n), .ref aML, .ref aMR, .ref aOW, .int (nI len), .ref aBU, .int sn, .ref aSA, .ref aSZ, .ref aLP, .ref aOP, .ref aFT, .int od, .ref aOL, .ref aRS, .ref aCD, .long pw, .int pb, .int ah, .long hs])), (aOW, .inl (Y.1, 16, .inl ow))] H := hP
  have hD : va_D AA [(mo, .inr (8, [.int (nI 0), .int (nI c), .int (nI r), .long w, .int (nI pl), .int (nI n), .ref aML, .ref aMR, .ref aOW, .int (nI len), .ref aBU, .int sn, .ref aSA, .ref aSZ, .ref aLP, .ref aOP, .ref aFT, .int od, .ref aOL, .ref aRS, .ref aCD, .long pw, .int pb, .int ah, .long hs])), (aOW, .inl (Y.1, 16, .inl ow))] := hD
  refine lv_aload_n (pc := 18) hx hb dX9_score_18 rfl (lv_at hl 0 rfl) ?_
  refine va_get (pc := 19) (D := D) (ci := 8) (v := .int (nI 0)) (C := RX9) (T := TX9) (N := 25) hx hb hts hinX9 hown hK.1 hP 0 rfl rfl 0 (by decide) (hts (.fieldLink RX9 59 "BoxesGameModel" "thrown" "I") (List.mem_of_getElem? (i := 1) rfl)) (fun _ h9 => h9) rfl dX9_score_19 ?_
  refine n_if_le (pc := 22) (tgt := 29) hx hb (by omega) dX9_score_22 (by decide) (fun c22 => ?_) (fun c22 => ?_)
  · refine lv_aload_n (pc := 29) hx hb dX9_score_29 rfl (lv_at hl 0 rfl) ?_
    refine lv_iload_n (pc := 30) hx hb dX9_score_30 rfl (lv_at hl 1 rfl) ?_
    refine ro_go (pc := 31) (va_runV (As := [.int (nI ja)]) (rest := []) ⟨hx, hb, hml, hown, hts⟩ (c_X9_scoreOf l D Y mo c r ([.int (nI 0), .int (nI c), .int (nI r), .long w, .int (nI pl), .int (nI n), .ref aML, .ref aMR, .ref aOW, .int (nI len), .ref aBU, .int sn, .ref aSA, .ref aSZ, .ref aLP, .ref aOP, .ref aFT, .int od, .ref aOL, .ref aRS, .ref aCD, .long pw, .int pb, .int ah, .long hs]) aOW ja ow (by first | assumption | exact ⟨rfl, rfl⟩) (hC) (by first | assumption | rfl)) (cwV 1 hts gX9_score_X9_scoreOf rfl rfl rfl ⟨rfl, hdX9_scoreOf⟩ ⟨Nat.le_of_ble_eq_true rfl, Nat.le_of_ble_eq_true rfl⟩) (ro_pV hK hP (ro_recv hK hP (ci := 8) (q0 := 0) rfl rfl)) rfl rfl hl.1 rfl (lv_room (Nat.le_of_ble_eq_true rfl)) dX9_score_31 ⟨Nat.le_of_ble_eq_true rfl, Nat.le_of_ble_eq_true rfl⟩) ?_
    subst hAA
    exact mu_iret hx hb hr hlocks hP hS (⟨_, _⟩) (rfl) (by rw [hcja, ← hM.1.hsco hC]; exact RvP.ok (kD1_t c7)) (rfl) dX9_score_34
  · exact absurd c22 (by decide)

set_option maxHeartbeats 1200000 in
set_option maxRecDepth 100000 in
theorem c_X9_line (l : Launch) (D : va_G) (Y : vY) (mo : Nat) (th : Int32) (c : Nat) (r : Nat) (w : Int64) (pl : Nat) (n : Nat) (aML : Nat) (aMR : Nat) (aOW : Nat) (len : Nat) (aBU : Nat) (sn : Int32) (aSA : Nat) (aSZ : Nat) (aLP : Nat) (aOP : Nat) (aFT : Nat) (od : Int32) (aOL : Nat) (aRS : Nat) (aCD : Nat) (pw : Int64) (pb : Int32) (ah : Int32) (hs : Int64) (v : Bool) (x : Int32) (y : Int32) (hC : Cr c r) : Mu l yX9_line wsX9_line ({ frames := 2, cells := 0, slots := 0, locals := 45 } : Room) [.ref mo, .int (zb v), .int x, .int y] D Y [(mo, .inr (8, [.int th, .int (nI c), .int (nI r), .long w, .int (nI pl), .int (nI n), .ref aML, .ref aMR, .ref aOW, .int (nI len), .ref aBU, .int sn, .ref aSA, .ref aSZ, .ref aLP, .ref aOP, .ref aFT, .int od, .ref aOL, .ref aRS, .ref aCD, .long pw, .int pb, .int ah, .long hs]))] (fun uS : Int32 × Int32 => some (.int uS.2)) (fun uS : Int32 × Int32 => [(mo, .inr (8, [.int uS.1, .int (nI c), .int (nI r), .long w, .int (nI pl), .int (nI n), .ref aML, .ref aMR, .ref aOW, .int (nI len), .ref aBU, .int sn, .ref aSA, .ref aSZ, .ref aLP, .ref aOP, .ref aFT, .int od, .ref aOL, .ref aRS, .ref aCD, .long pw, .int pb, .int ah, .long hs]))]) (fun uS : Int32 × Int32 => RvP (kD1 (exM c r v x y)) uS.1 uS.2 (nI (numM c r v x.toNatClampNeg y.toNatClampNeg))) := by
  refine mu_intro (by decide +kernel) rfl (Nat.le_of_ble_eq_true rfl) [(0, .ref mo), (1, .int (zb v)), (2, .int x), (3, .int y)] rfl ?_
  intro pG eG sG mG aG bG tG cG ls hx hb hr hml hts hown hlocks hK hP hD hS hl
  generalize hAA : adA [(mo, .inr (8, [.int th, .int (nI c), .int (nI r), .long w, .int (nI pl), .int (nI n), .ref aML, .ref aMR, .ref aOW, .int (nI len), .ref aBU, .int sn, .ref aSA, .ref aSZ, .ref aLP, .ref aOP, .ref aFT, .int od, .ref aOL, .ref aRS, .ref aCD, .long pw, .int pb, .int ah, .long hs]))] = AA at hD hS ⊢
  have hP : va_P D vwCl [(mo, .inr (8, [.int th, .int (nI c), .int (nI r), .long w, .int (nI pl), .int (nI n), .ref aML, .ref aMR, .ref aOW, .int (nI len), .ref aBU, .int sn, .ref aSA, .ref aSZ, .ref aLP, .ref aOP, .ref aFT, .int od, .ref aOL, .ref aRS, .ref aCD, .long pw, .int pb, .int ah, .long hs]))] sG.heap := hP
  have hD : va_D AA [(mo, .inr (8, [.int th, .int (nI c), .int (nI r), .long w, .int (nI pl), .int (nI n), .ref aML, .ref aMR, .ref aOW, .int (nI len), .ref aBU, .int sn, .ref aSA, .ref aSZ, .ref aLP, .ref aOP, .ref aFT, .int od, .ref aOL, .ref aRS, .ref aCD, .long pw, .int pb, .int ah, .long hs]))] := hD
  have hown : sG.vm.findClass RX9 = some mG.cls := hown
  have hl : lv_has ls 4 [(0, .ref mo), (1, .int (zb v)), (2, .int x), (3, .int y)] := hl
  have hinX9 : ∀ w ∈ u_ws RX9 TX9 25, w ∈ wsX9_line := by decide +kernel
  have hS : va_S AA sG.heap sG.heap [] := hS
  obtain ⟨hq1, hq2, hq3, hq4, hq5, hq6, hq7, hq8, hq9, hq10, hq11⟩ := hC.q
  refine lv_aload_n (pc := 0) hx hb dX9_line_0 rfl (lv_at hl 0 rfl) ?_
  refine lv_aload_n (pc := 1) hx hb dX9_line_1 rfl (lv_at hl 0 rfl) ?_
  refine lv_iload_n (pc := 2) hx hb dX9_line_2 rfl (lv_at hl 1 rfl) ?_
  refine lv_iload_n (pc := 3) hx hb dX9_line_3 rfl (lv_at hl 2 rfl) ?_
  refine lv_iload_n (pc := 4) hx hb dX9_line_4 rfl (lv_at hl 3 rfl) ?_
  refine ro_go (pc := 5) (va_runV (As := [.int (zb v), .int x, .int y]) (rest := [.ref mo]) ⟨hx, hb, hml, hown, hts⟩ (c_X9_exists l D Y mo c r ([.int th, .int (nI c), .int (nI r), .long w, .int (nI pl), .int (nI n), .ref aML, .ref aMR, .ref aOW, .int (nI len), .ref aBU, .int sn, .ref aSA, .ref aSZ, .ref aLP, .ref aOP, .ref aFT, .int od, .ref aOL, .ref aRS, .ref aCD, .long pw, .int pb, .int ah, .long hs]) v x y (by first | assumption | exact ⟨rfl, rfl⟩) (hC)) (cwV 3 hts gX9_line_X9_exists rfl rfl rfl ⟨rfl, hdX9_exists⟩ ⟨Nat.le_of_ble_eq_true rfl, Nat.le_of_ble_eq_true rfl⟩) (ro_pV hK hP (ro_recv hK hP (ci := 8) (q0 := 0) rfl rfl)) rfl rfl hl.1 rfl (lv_room (Nat.le_of_ble_eq_true rfl)) dX9_line_5 ⟨Nat.le_of_ble_eq_true rfl, Nat.le_of_ble_eq_true rfl⟩) ?_
  refine z_if_eq (pc := 8) (tgt := 15) hx hb dX9_line_8 (by decide) (fun c8 => ?_) (fun c8 => ?_)
  · refine lv_iconst (pc := 15) (v := nI 1) hx hb dX9_line_15 rfl ?_
    refine va_put (pc := 16) (D := D) (ci := 8) (v := .int (nI 1)) (ty := .int) (C := RX9) (T := TX9) (N := 25) hx hb hts hinX9 tyX9 tyX9_ok nmX9 hown hK.1 hP hD hS 0 rfl rfl 0 (by decide) (hts (.fieldLink RX9 59 "BoxesGameModel" "thrown" "I") (List.mem_of_getElem? (i := 1) rfl)) (fun _ h9 => h9) rfl (by decide +kernel) (rfl) (rfl) (Nat.le_of_ble_eq_true rfl) dX9_line_16 (fun H locs hP hD hS => ?_)
    have hP : va_P D vwCl [(mo, .inr (8, [.int (nI 1), .int (nI c), .int (nI r), .long w, .int (nI pl), .int (nI n), .ref aML, .ref aMR, .ref aOW, .int (nI len), .ref aBU, .int sn, .ref aSA, .ref aSZ, .ref aLP, .ref aOP, .ref aFT, .int od, .ref aOL, .ref aRS, .ref aCD, .long pw, .int pb, .int ah, .long hs]))] H := hP
    have hD : va_D AA [(mo, .inr (8, [.int (nI 1), .int (nI c), .int (nI r), .long w, .int (nI pl), .int (nI n), .ref aML, .ref aMR, .ref aOW, .int (nI len), .ref aBU, .int sn, .ref aSA, .ref aSZ, .ref aLP, .ref aOP, .ref aFT, .int od, .ref aOL, .ref aRS, .ref aCD, .long pw, .int pb, .int ah, .long hs]))] := hD
    refine lv_aload_n (pc := 19) hx hb dX9_line_19 rfl (lv_at hl 0 rfl) ?_
    refine va_get (pc := 20) (D := D) (ci := 8) (v := .int (nI 1)) (C := RX9) (T := TX9) (N := 25) hx hb hts hinX9 hown hK.1 hP 0 rfl rfl 0 (by decide) (hts (.fieldLink RX9 59 "BoxesGameModel" "thrown" "I") (List.mem_of_getElem? (i := 1) rfl)) (fun _ h9 => h9) rfl dX9_line_20 ?_
    refine n_if_le (pc := 23) (tgt := 30) hx hb (by omega) dX9_line_23 (by decide) (fun c23 => ?_) (fun c23 => ?_)
    · exact absurd c23 (by decide)
    refine lv_iconst (pc := 26) (v := nI 0) hx hb dX9_line_26 rfl ?_
    refine lv_goto (pc := 27) (tgt := 37) hx hb dX9_line_27 (by decide) ?_
    subst hAA
    exact mu_iret hx hb hr hlocks hP hS (⟨_, _⟩) (rfl) (RvP.no (kD1_f c8) (by decide)) (rfl) dX9_line_37
  obtain ⟨ja, jb, rfl, rfl, hja, hjb⟩ := exM_is hC c8
  have hcja : (nI ja).toNatClampNeg = ja := nI_clamp (by split at hja <;> omega)
  have hcjb : (nI jb).toNatClampNeg = jb := nI_clamp (by split at hjb <;> omega)
  have hl : lv_has ls 4 [(0, .ref mo), (1, .int (zb v)), (2, .int (nI ja)), (3, .int (nI jb))] := hl
  refine lv_iconst (pc := 11) (v := nI 0) hx hb dX9_line_11 rfl ?_
  refine lv_goto (pc := 12) (tgt := 16) hx hb dX9_line_12 (by decide) ?_
  refine va_put (pc := 16) (D := D) (ci := 8) (v := .int (nI 0)) (ty := .int) (C := RX9) (T := TX9) (N := 25) hx hb hts hinX9 tyX9 tyX9_ok nmX9 hown hK.1 hP hD hS 0 rfl rfl 0 (by decide) (hts (.fieldLink RX9 59 "BoxesGameModel" "thrown" "I") (List.mem_of_getElem? (i := 1) rfl)) (fun _ h9 => h9) rfl (by decide +kernel) (rfl) (rfl) (Nat.le_of_ble_eq_true rfl) dX9_line_16 (fun H locs hP hD hS => ?_)
  have hP : va_P D vwCl [(mo, .inr (8, [.int (nI 0), .int (nI c), .int (nI r), .long w, .int (nI pl), .int (nI n), .ref aML, .ref aMR, .ref aOW, .int (nI len), .ref aBU, .int sn, .ref aSA, .ref aSZ, .ref aLP, .ref aOP, .ref aFT, .int od, .ref aOL, .ref aRS, .ref aCD, .long pw, .int pb, .int ah, .long hs]))] H := hP
  have hD : va_D AA [(mo, .inr (8, [.int (nI 0), .int (nI c), .int (nI r), .long w, .int (nI pl), .int (nI n), .ref aML, .ref aMR, .ref aOW, .int (nI len), .ref aBU, .int sn, .ref aSA, .ref aSZ, .ref aLP, .ref aOP, .ref aFT, .int od, .ref aOL, .ref aRS, .ref aCD, .long pw, .int pb, .int ah, .long hs]))] := hD
  refine lv_aload_n (pc := 19) hx hb dX9_line_19 rfl (lv_at hl 0 rfl) ?_
  refine va_get (pc := 20) (D := D) (ci := 8) (v := .int (nI 0)) (C := RX9) (T := TX9) (N := 25) hx hb hts hinX9 hown hK.1 hP 0 rfl rfl 0 (by decide) (hts (.fieldLink RX9 59 "BoxesGameModel" "thrown" "I") (List.mem_of_getElem? (i := 1) rfl)) (fun _ h9 => h9) rfl dX9_line_20 ?_
  refine n_if_le (pc := 23) (tgt := 30) hx hb (by omega) dX9_line_23 (by decide) (fun c23 => ?_) (fun c23 => ?_)
  · refine lv_aload_n (pc := 30) hx hb dX9_line_30 rfl (lv_at hl 0 rfl) ?_
    refine lv_iload_n (pc := 31) hx hb dX9_line_31 rfl (lv_at hl 1 rfl) ?_
    refine lv_iload_n (pc := 32) hx hb dX9_line_32 rfl (lv_at hl 2 rfl) ?_
    refine lv_iload_n (pc := 33) hx hb dX9_line_33 rfl (lv_at hl 3 rfl) ?_
    refine ro_go (pc := 34) (va_runV (As := [.int (zb v), .int (nI ja), .int (nI jb)]) (rest := []) ⟨hx, hb, hml, hown, hts⟩ (c_X9_numberOf l D Y mo c r ([.int (nI 0), .int (nI c), .int (nI r), .long w, .int (nI pl), .int (nI n), .ref aML, .ref aMR, .ref aOW, .int (nI len), .ref aBU, .int sn, .ref aSA, .ref aSZ, .ref aLP, .ref aOP, .ref aFT, .int od, .ref aOL, .ref aRS, .ref aCD, .long pw, .int pb, .int ah, .long hs]) v ja jb (by first | assumption | exact ⟨rfl, rfl⟩) (hC)) (cwV 3 hts gX9_line_X9_numberOf rfl rfl rfl ⟨rfl, hdX9_numberOf⟩ ⟨Nat.le_of_ble_eq_true rfl, Nat.le_of_ble_eq_true rfl⟩) (ro_pV hK hP (ro_recv hK hP (ci := 8) (q0 := 0) rfl rfl)) rfl rfl hl.1 rfl (lv_room (Nat.le_of_ble_eq_true rfl)) dX9_line_34 ⟨Nat.le_of_ble_eq_true rfl, Nat.le_of_ble_eq_true rfl⟩) ?_
    subst hAA
    exact mu_iret hx hb hr hlocks hP hS (⟨_, _⟩) (rfl) (by rw [hcja, hcjb]; exact RvP.ok (kD1_t c8)) (rfl) dX9_line_37
  · exact absurd c23 (by decide)

set_option maxHeartbeats 1200000 in
set_option maxRecDepth 100000 in
theorem c_X9_kind (l : Launch) (D : va_G) (Y : vY) (mo : Nat) (th : Int32) (c : Nat) (r : Nat) (w : Int64) (pl : Nat) (n : Nat) (aML : Nat) (aMR : Nat) (aOW : Nat) (len : Nat) (aBU : Nat) (sn : Int32) (aSA : Nat) (aSZ : Nat) (aLP : Nat) (aOP : Nat) (aFT : Nat) (od : Int32) (aOL : Nat) (aRS : Nat) (aCD : Nat) (pw : Int64) (pb : Int32) (ah : Int32) (hs : Int64) (x : Int32) (hC : Cr c r) : Mu l yX9_kind wsX9_kind ({ frames := 6, cells := 0, slots := 0, locals := 141 } : Room) [.ref mo, .int x] D Y [(mo, .inr (8, [.int th, .int (nI c), .int (nI r), .long w, .int (nI pl), .int (nI n), .ref aML, .ref aMR, .ref aOW, .int (nI len), .ref aBU, .int sn, .ref aSA, .ref aSZ, .ref aLP, .ref aOP, .ref aFT, .int od, .ref aOL, .ref aRS, .ref aCD, .long pw, .int pb, .int ah, .long hs]))] (fun uS : Int32 × Int32 => some (.int uS.2)) (fun uS : Int32 × Int32 => [(mo, .inr (8, [.int uS.1, .int (nI c), .int (nI r), .long w, .int (nI pl), .int (nI n), .ref aML, .ref aMR, .ref aOW, .int (nI len), .ref aBU, .int sn, .ref aSA, .ref aSZ, .ref aLP, .ref aOP, .ref aFT, .int od, .ref aOL, .ref aRS, .ref aCD, .long pw, .int pb, .int ah, .long hs]))]) (fun uS : Int32 × Int32 => RvP (kD1 (wi x (nI 0) (nI (al c r - 1)))) uS.1 uS.2 (nI (knd c r w x.toNatClampNeg))) := by
  refine mu_intro (by decide +kernel) rfl (Nat.le_of_ble_eq_true rfl) [(0, .ref mo), (1, .int x)] rfl ?_
  intro pG eG sG mG aG bG tG cG ls hx hb hr hml hts hown hlocks hK hP hD hS hl
  generalize hAA : adA [(mo, .inr (8, [.int th, .int (nI c), .int (nI r), .long w, .int (nI pl), .int (nI n), .ref aML, .ref aMR, .ref aOW, .int (nI len), .ref aBU, .int sn, .ref aSA, .ref aSZ, .ref aLP, .ref aOP, .ref aFT, .int od, .ref aOL, .ref aRS, .ref aCD, .long pw, .int pb, .int ah, .long hs]))] = AA at hD hS ⊢
  have hP : va_P D vwCl [(mo, .inr (8, [.int th, .int (nI c), .int (nI r), .long w, .int (nI pl), .int (nI n), .ref aML, .ref aMR, .ref aOW, .int (nI len), .ref aBU, .int sn, .ref aSA, .ref aSZ, .ref aLP, .ref aOP, .ref aFT, .int od, .ref aOL, .ref aRS, .ref aCD, .long pw, .int pb, .int ah, .long hs]))] sG.heap := hP
  have hD : va_D AA [(mo, .inr (8, [.int th, .int (nI c), .int (nI r), .long w, .int (nI pl), .int (nI n), .ref aML, .ref aMR, .ref aOW, .int (nI len), .ref aBU, .int sn, .ref aSA, .ref aSZ, .ref aLP, .ref aOP, .ref aFT, .int od, .ref aOL, .ref aRS, .ref aCD, .long pw, .int pb, .int ah, .long hs]))] := hD
  have hown : sG.vm.findClass RX9 = some mG.cls := hown
  have hl : lv_has ls 2 [(0, .ref mo), (1, .int x)] := hl
  have hinX9 : ∀ w ∈ u_ws RX9 TX9 25, w ∈ wsX9_kind := by decide +kernel
  have hS : va_S AA sG.heap sG.heap [] := hS
  obtain ⟨hq1, hq2, hq3, hq4, hq5, hq6, hq7, hq8, hq9, hq10, hq11⟩ := hC.q
  refine lv_aload_n (pc := 0) hx hb dX9_kind_0 rfl (lv_at hl 0 rfl) ?_
  refine lv_aload_n (pc := 1) hx hb dX9_kind_1 rfl (lv_at hl 0 rfl) ?_
  refine lv_iload_n (pc := 2) hx hb dX9_kind_2 rfl (lv_at hl 1 rfl) ?_
  refine ro_go (pc := 3) (va_runV (As := [.int x]) (rest := [.ref mo]) ⟨hx, hb, hml, hown, hts⟩ (c_X9_isLine l D Y mo c r ([.int th, .int (nI c), .int (nI r), .long w, .int (nI pl), .int (nI n), .ref aML, .ref aMR, .ref aOW, .int (nI len), .ref aBU, .int sn, .ref aSA, .ref aSZ, .ref aLP, .ref aOP, .ref aFT, .int od, .ref aOL, .ref aRS, .ref aCD, .long pw, .int pb, .int ah, .long hs]) x (by first | assumption | exact ⟨rfl, rfl⟩) (hC)) (cwV 1 hts gX9_kind_X9_isLine rfl rfl rfl ⟨rfl, hdX9_isLine⟩ ⟨Nat.le_of_ble_eq_true rfl, Nat.le_of_ble_eq_true rfl⟩) (ro_pV hK hP (ro_recv hK hP (ci := 8) (q0 := 0) rfl rfl)) rfl rfl hl.1 rfl (lv_room (Nat.le_of_ble_eq_true rfl)) dX9_kind_3 ⟨Nat.le_of_ble_eq_true rfl, Nat.le_of_ble_eq_true rfl⟩) ?_
  refine z_if_eq (pc := 6) (tgt := 13) hx hb dX9_kind_6 (by decide) (fun c6 => ?_) (fun c6 => ?_)
  · refine lv_iconst (pc := 13) (v := nI 1) hx hb dX9_kind_13 rfl ?_
    refine va_put (pc := 14) (D := D) (ci := 8) (v := .int (nI 1)) (ty := .int) (C := RX9) (T := TX9) (N := 25) hx hb hts hinX9 tyX9 tyX9_ok nmX9 hown hK.1 hP hD hS 0 rfl rfl 0 (by decide) (hts (.fieldLink RX9 59 "BoxesGameModel" "thrown" "I") (List.mem_of_getElem? (i := 1) rfl)) (fun _ h9 => h9) rfl (by decide +kernel) (rfl) (rfl) (Nat.le_of_ble_eq_true rfl) dX9_kind_14 (fun H locs hP hD hS => ?_)
    have hP : va_P D vwCl [(mo, .inr (8, [.int (nI 1), .int (nI c), .int (nI r), .long w, .int (nI pl), .int (nI n), .ref aML, .ref aMR, .ref aOW, .int (nI len), .ref aBU, .int sn, .ref aSA, .ref aSZ, .ref aLP, .ref aOP, .ref aFT, .int od, .ref aOL, .ref aRS, .ref aCD, .long pw, .int pb, .int ah, .long hs]))] H := hP
    have hD : va_D AA [(mo, .inr (8, [.int (nI 1), .int (nI c), .int (nI r), .long w, .int (nI pl), .int (nI n), .ref aML, .ref aMR, .ref aOW, .int (nI len), .ref aBU, .int sn, .ref aSA, .ref aSZ, .ref aLP, .ref aOP, .ref aFT, .int od, .ref aOL, .ref aRS, .ref aCD, .long pw, .int pb, .int ah, .long hs]))] := hD
    refine lv_aload_n (pc := 17) hx hb dX9_kind_17 rfl (lv_at hl 0 rfl) ?_
    refine va_get (pc := 18) (D := D) (ci := 8) (v := .int (nI 1)) (C := RX9) (T := TX9) (N := 25) hx hb hts hinX9 hown hK.1 hP 0 rfl rfl 0 (by decide) (hts (.fieldLink RX9 59 "BoxesGameModel" "thrown" "I") (List.mem_of_getElem? (i := 1) rfl)) (fun _ h9 => h9) rfl dX9_kind_18 ?_
    refine n_if_le (pc := 21) (tgt := 28) hx hb (by omega) dX9_kind_21 (by decide) (fun c21 => ?_) (fun c21 => ?_)
    · exact absurd c21 (by decide)
    refine lv_iconst (pc := 24) (v := nI 0) hx hb dX9_kind_24 rfl ?_
    refine lv_goto (pc := 25) (tgt := 37) hx hb dX9_kind_25 (by decide) ?_
    subst hAA
    exact mu_iret hx hb hr hlocks hP hS (⟨_, _⟩) (rfl) (RvP.no (kD1_f c6) (by decide)) (rfl) dX9_kind_37
  obtain ⟨li, hli, rfl⟩ := wi_of (by omega) c6
  have hl0 : li < al c r := by omega
  have hcl : (nI li).toNatClampNeg = li := nI_clamp (by omega)
  have hl : lv_has ls 2 [(0, .ref mo), (1, .int (nI li))] := hl
  refine lv_iconst (pc := 9) (v := nI 0) hx hb dX9_kind_9 rfl ?_
  refine lv_goto (pc := 10) (tgt := 14) hx hb dX9_kind_10 (by decide) ?_
  refine va_put (pc := 14) (D := D) (ci := 8) (v := .int (nI 0)) (ty := .int) (C := RX9) (T := TX9) (N := 25) hx hb hts hinX9 tyX9 tyX9_ok nmX9 hown hK.1 hP hD hS 0 rfl rfl 0 (by decide) (hts (.fieldLink RX9 59 "BoxesGameModel" "thrown" "I") (List.mem_of_getElem? (i := 1) rfl)) (fun _ h9 => h9) rfl (by decide +kernel) (rfl) (rfl) (Nat.le_of_ble_eq_true rfl) dX9_kind_14 (fun H locs hP hD hS => ?_)
  have hP : va_P D vwCl [(mo, .inr (8, [.int (nI 0), .int (nI c), .int (nI r), .long w, .int (nI pl), .int (nI n), .ref aML, .ref aMR, .ref aOW, .int (nI len), .ref aBU, .int sn, .ref aSA, .ref aSZ, .ref aLP, .ref aOP, .ref aFT, .int od, .ref aOL, .ref aRS, .ref aCD, .long pw, .int pb, .int ah, .long hs]))] H := hP
  have hD : va_D AA [(mo, .inr (8, [.int (nI 0), .int (nI c), .int (nI r), .long w, .int (nI pl), .int (nI n), .ref aML, .ref aMR, .ref aOW, .int (nI len), .ref aBU, .int sn, .ref aSA, .ref aSZ, .ref aLP, .ref aOP, .ref aFT, .int od, .ref aOL, .ref aRS, .ref aCD, .long pw, .int pb, .int ah, .long hs]))] := hD
  refine lv_aload_n (pc := 17) hx hb dX9_kind_17 rfl (lv_at hl 0 rfl) ?_
  refine va_get (pc := 18) (D := D) (ci := 8) (v := .int (nI 0)) (C := RX9) (T := TX9) (N := 25) hx hb hts hinX9 hown hK.1 hP 0 rfl rfl 0 (by decide) (hts (.fieldLink RX9 59 "BoxesGameModel" "thrown" "I") (List.mem_of_getElem? (i := 1) rfl)) (fun _ h9 => h9) rfl dX9_kind_18 ?_
  refine n_if_le (pc := 21) (tgt := 28) hx hb (by omega) dX9_kind_21 (by decide) (fun c21 => ?_) (fun c21 => ?_)
  · refine lv_aload_n (pc := 28) hx hb dX9_kind_28 rfl (lv_at hl 0 rfl) ?_
    refine lv_iload_n (pc := 29) hx hb dX9_kind_29 rfl (lv_at hl 1 rfl) ?_
    refine lv_aload_n (pc := 30) hx hb dX9_kind_30 rfl (lv_at hl 0 rfl) ?_
    refine va_get (pc := 31) (D := D) (ci := 8) (v := .long w) (C := RX9) (T := TX9) (N := 25) hx hb hts hinX9 hown hK.1 hP 0 rfl rfl 3 (by decide) (hts (.fieldLink RX9 119 "BoxesGameModel" "now" "J") (List.mem_of_getElem? (i := 2) rfl)) (fun _ h9 => h9) rfl dX9_kind_31 ?_
    refine ro_go (pc := 34) (va_runV (As := [.int (nI li), .long w]) (rest := []) ⟨hx, hb, hml, hown, hts⟩ (c_X9_kindIn l D Y mo c r ([.int (nI 0), .int (nI c), .int (nI r), .long w, .int (nI pl), .int (nI n), .ref aML, .ref aMR, .ref aOW, .int (nI len), .ref aBU, .int sn, .ref aSA, .ref aSZ, .ref aLP, .ref aOP, .ref aFT, .int od, .ref aOL, .ref aRS, .ref aCD, .long pw, .int pb, .int ah, .long hs]) li w (by first | assumption | exact ⟨rfl, rfl⟩) (hC) (hl0)) (cwV 2 hts gX9_kind_X9_kindIn rfl rfl rfl ⟨rfl, hdX9_kindIn⟩ ⟨Nat.le_of_ble_eq_true rfl, Nat.le_of_ble_eq_true rfl⟩) (ro_pV hK hP (ro_recv hK hP (ci := 8) (q0 := 0) rfl rfl)) rfl rfl hl.1 rfl (lv_room (Nat.le_of_ble_eq_true rfl)) dX9_kind_34 ⟨Nat.le_of_ble_eq_true rfl, Nat.le_of_ble_eq_true rfl⟩) ?_
    subst hAA
    exact mu_iret hx hb hr hlocks hP hS (⟨_, _⟩) (rfl) (by rw [hcl]; exact RvP.ok (kD1_t c6)) (rfl) dX9_kind_37
  · exact absurd c21 (by decide)

set_option maxHeartbeats 1200000 in
set_option maxRecDepth 100000 in
theorem c_X9_price (l : Launch) (D : va_G) (Y : vY) (mo : Nat) (th : Int32) (c : Nat) (r : Nat) (w : Int64) (pl : Nat) (n : Nat) (aML : Nat) (aMR : Nat) (aOW : Nat) (len : Nat) (aBU : Nat) (sn : Int32) (aSA : Nat) (aSZ : Nat) (aLP : Nat) (aOP : Nat) (aFT : Nat) (od : Int32) (aOL : Nat) (aRS : Nat) (aCD : Nat) (pw : Int64) (pb : Int32) (ah : Int32) (hs : Int64) (x : Int32) (hC : Cr c r) : Mu l yX9_price wsX9_price ({ frames := 8, cells := 0, slots := 0, locals := 191 } : Room) [.ref mo, .int x] D Y [(mo, .inr (8, [.int th, .int (nI c), .int (nI r), .long w, .int (nI pl), .int (nI n), .ref aML, .ref aMR, .ref aOW, .int (nI len), .ref aBU, .int sn, .ref aSA, .ref aSZ, .ref aLP, .ref aOP, .ref aFT, .int od, .ref aOL, .ref aRS, .ref aCD, .long pw, .int pb, .int ah, .long hs]))] (fun uS : Int32 × Int32 => some (.int uS.2)) (fun uS : Int32 × Int32 => [(mo, .inr (8, [.int uS.1, .int (nI c), .int (nI r), .long w, .int (nI pl), .int (nI n), .ref aML, .ref aMR, .ref aOW, .int (nI len), .ref aBU, .int sn, .ref aSA, .ref aSZ, .ref aLP, .ref aOP, .ref aFT, .int od, .ref aOL, .ref aRS, .ref aCD, .long pw, .int pb, .int ah, .long hs]))]) (fun uS : Int32 × Int32 => RvP (kD2 (wi x (nI 0) (nI (al c r - 1))) (!tb w x.toNatClampNeg)) uS.1 uS.2 (nI (run c r (w ||| b1 x.toNatClampNeg)))) := by
  refine mu_intro (by decide +kernel) rfl (Nat.le_of_ble_eq_true rfl) [(0, .ref mo), (1, .int x)] rfl ?_
  intro pG eG sG mG aG bG tG cG ls hx hb hr hml hts hown hlocks hK hP hD hS hl
  generalize hAA : adA [(mo, .inr (8, [.int th, .int (nI c), .int (nI r), .long w, .int (nI pl), .int (nI n), .ref aML, .ref aMR, .ref aOW, .int (nI len), .ref aBU, .int sn, .ref aSA, .ref aSZ, .ref aLP, .ref aOP, .ref aFT, .int od, .ref aOL, .ref aRS, .ref aCD, .long pw, .int pb, .int ah, .long hs]))] = AA at hD hS ⊢
  have hP : va_P D vwCl [(mo, .inr (8, [.int th, .int (nI c), .int (nI r), .long w, .int (nI pl), .int (nI n), .ref aML, .ref aMR, .ref aOW, .int (nI len), .ref aBU, .int sn, .ref aSA, .ref aSZ, .ref aLP, .ref aOP, .ref aFT, .int od, .ref aOL, .ref aRS, .ref aCD, .long pw, .int pb, .int ah, .long hs]))] sG.heap := hP
  have hD : va_D AA [(mo, .inr (8, [.int th, .int (nI c), .int (nI r), .long w, .int (nI pl), .int (nI n), .ref aML, .ref aMR, .ref aOW, .int (nI len), .ref aBU, .int sn, .ref aSA, .ref aSZ, .ref aLP, .ref aOP, .ref aFT, .int od, .ref aOL, .ref aRS, .ref aCD, .long pw, .int pb, .int ah, .long hs]))] := hD
  have hown : sG.vm.findClass RX9 = some mG.cls := hown
  have hl : lv_has ls 2 [(0, .ref mo), (1, .int x)] := hl
  have hinX9 : ∀ w ∈ u_ws RX9 TX9 25, w ∈ wsX9_price := by decide +kernel
  have hS : va_S AA sG.heap sG.heap [] := hS
  obtain ⟨hq1, hq2, hq3, hq4, hq5, hq6, hq7, hq8, hq9, hq10, hq11⟩ := hC.q
  refine lv_aload_n (pc := 0) hx hb dX9_price_0 rfl (lv_at hl 0 rfl) ?_
  refine lv_aload_n (pc := 1) hx hb dX9_price_1 rfl (lv_at hl 0 rfl) ?_
  refine lv_iload_n (pc := 2) hx hb dX9_price_2 rfl (lv_at hl 1 rfl) ?_
  refine ro_go (pc := 3) (va_runV (As := [.int x]) (rest := [.ref mo]) ⟨hx, hb, hml, hown, hts⟩ (c_X9_isLine l D Y mo c r ([.int th, .int (nI c), .int (nI r), .long w, .int (nI pl), .int (nI n), .ref aML, .ref aMR, .ref aOW, .int (nI len), .ref aBU, .int sn, .ref aSA, .ref aSZ, .ref aLP, .ref aOP, .ref aFT, .int od, .ref aOL, .ref aRS, .ref aCD, .long pw, .int pb, .int ah, .long hs]) x (by first | assumption | exact ⟨rfl, rfl⟩) (hC)) (cwV 1 hts gX9_price_X9_isLine rfl rfl rfl ⟨rfl, hdX9_isLine⟩ ⟨Nat.le_of_ble_eq_true rfl, Nat.le_of_ble_eq_true rfl⟩) (ro_pV hK hP (ro_recv hK hP (ci := 8) (q0 := 0) rfl rfl)) rfl rfl hl.1 rfl (lv_room (Nat.le_of_ble_eq_true rfl)) dX9_price_3 ⟨Nat.le_of_ble_eq_true rfl, Nat.le_of_ble_eq_true rfl⟩) ?_
  refine z_if_ne (pc := 6) (tgt := 13) hx hb dX9_price_6 (by decide) (fun c6 => ?_) (fun c6 => ?_)
  · obtain ⟨li, hli, rfl⟩ := wi_of (by omega) c6
    have hl0 : li < al c r := by omega
    have hcl : (nI li).toNatClampNeg = li := nI_clamp (by omega)
    have hl : lv_has ls 2 [(0, .ref mo), (1, .int (nI li))] := hl
    refine lv_aload_n (pc := 13) hx hb dX9_price_13 rfl (lv_at hl 0 rfl) ?_
    refine va_get (pc := 14) (D := D) (ci := 8) (v := .long w) (C := RX9) (T := TX9) (N := 25) hx hb hts hinX9 hown hK.1 hP 0 rfl rfl 3 (by decide) (hts (.fieldLink RX9 119 "BoxesGameModel" "now" "J") (List.mem_of_getElem? (i := 1) rfl)) (fun _ h9 => h9) rfl dX9_price_14 ?_
    refine lv_iload_n (pc := 17) hx hb dX9_price_17 rfl (lv_at hl 1 rfl) ?_
    refine ro_go (pc := 18) (va_runS (As := [.long w, .int (nI li)]) (rest := [.ref mo]) ⟨hx, hb, hml, hown, hts⟩ (c_X9_has l D Y w li (by omega)) (va_cwS 2 hts gX9_price_X9_has rfl rfl rfl hdX9_has ⟨Nat.le_of_ble_eq_true rfl, Nat.le_of_ble_eq_true rfl⟩) (ro_pS hK (hP.sub [] rfl)) rfl rfl hl.1 rfl (lv_room (Nat.le_of_ble_eq_true rfl)) dX9_price_18 ⟨Nat.le_of_ble_eq_true rfl, Nat.le_of_ble_eq_true rfl⟩) ?_
    refine z_if_eq (pc := 21) (tgt := 28) hx hb dX9_price_21 (by decide) (fun c21 => ?_) (fun c21 => ?_)
    · refine lv_iconst (pc := 28) (v := nI 0) hx hb dX9_price_28 rfl ?_
      refine va_put (pc := 29) (D := D) (ci := 8) (v := .int (nI 0)) (ty := .int) (C := RX9) (T := TX9) (N := 25) hx hb hts hinX9 tyX9 tyX9_ok nmX9 hown hK.1 hP hD hS 0 rfl rfl 0 (by decide) (hts (.fieldLink RX9 59 "BoxesGameModel" "thrown" "I") (List.mem_of_getElem? (i := 2) rfl)) (fun _ h9 => h9) rfl (by decide +kernel) (rfl) (rfl) (Nat.le_of_ble_eq_true rfl) dX9_price_29 (fun H locs hP hD hS => ?_)
      have hP : va_P D vwCl [(mo, .inr (8, [.int (nI 0), .int (nI c), .int (nI r), .long w, .int (nI pl), .int (nI n), .ref aML, .ref aMR, .ref aOW, .int (nI len), .ref aBU, .int sn, .ref aSA, .ref aSZ, .ref aLP, .ref aOP, .ref aFT, .int od, .ref aOL, .ref aRS, .ref aCD, .long pw, .int pb, .int ah, .long hs]))] H := hP
      have hD : va_D AA [(mo, .inr (8, [.int (nI 0), .int (nI c), .int (nI r), .long w, .int (nI pl), .int (nI n), .ref aML, .ref aMR, .ref aOW, .int (nI len), .ref aBU, .int sn, .ref aSA, .ref aSZ, .ref aLP, .ref aOP, .ref aFT, .int od, .ref aOL, .ref aRS, .ref aCD, .long pw, .int pb, .int ah, .long hs]))] := hD
      refine lv_aload_n (pc := 32) hx hb dX9_price_32 rfl (lv_at hl 0 rfl) ?_
      refine va_get (pc := 33) (D := D) (ci := 8) (v := .int (nI 0)) (C := RX9) (T := TX9) (N := 25) hx hb hts hinX9 hown hK.1 hP 0 rfl rfl 0 (by decide) (hts (.fieldLink RX9 59 "BoxesGameModel" "thrown" "I") (List.mem_of_getElem? (i := 2) rfl)) (fun _ h9 => h9) rfl dX9_price_33 ?_
      refine n_if_le (pc := 36) (tgt := 43) hx hb (by omega) dX9_price_36 (by decide) (fun c36 => ?_) (fun c36 => ?_)
      · refine lv_aload_n (pc := 43) hx hb dX9_price_43 rfl (lv_at hl 0 rfl) ?_
        refine lv_aload_n (pc := 44) hx hb dX9_price_44 rfl (lv_at hl 0 rfl) ?_
        refine va_get (pc := 45) (D := D) (ci := 8) (v := .long w) (C := RX9) (T := TX9) (N := 25) hx hb hts hinX9 hown hK.1 hP 0 rfl rfl 3 (by decide) (hts (.fieldLink RX9 119 "BoxesGameModel" "now" "J") (List.mem_of_getElem? (i := 1) rfl)) (fun _ h9 => h9) rfl dX9_price_45 ?_
        refine lv_lconst (pc := 48) (v := 1) hx hb dX9_price_48 (by decide) ?_
        refine lv_iload_n (pc := 49) hx hb dX9_price_49 rfl (lv_at hl 1 rfl) ?_
        refine lv_lshl (pc := 50) (v := b1 li) hx hb dX9_price_50 (b1_shl li (by omega)) ?_
        refine lv_lor (pc := 51) hx hb dX9_price_51 ?_
        refine ro_go (pc := 52) (va_runV (As := [.long (w ||| (b1 li))]) (rest := []) ⟨hx, hb, hml, hown, hts⟩ (c_X9_runOf l D Y mo c r ([.int (nI 0), .int (nI c), .int (nI r), .long w, .int (nI pl), .int (nI n), .ref aML, .ref aMR, .ref aOW, .int (nI len), .ref aBU, .int sn, .ref aSA, .ref aSZ, .ref aLP, .ref aOP, .ref aFT, .int od, .ref aOL, .ref aRS, .ref aCD, .long pw, .int pb, .int ah, .long hs]) (w ||| (b1 li)) (by first | assumption | exact ⟨rfl, rfl⟩) (hC)) (cwV 1 hts gX9_price_X9_runOf rfl rfl rfl ⟨rfl, hdX9_runOf⟩ ⟨Nat.le_of_ble_eq_true rfl, Nat.le_of_ble_eq_true rfl⟩) (ro_pV hK hP (ro_recv hK hP (ci := 8) (q0 := 0) rfl rfl)) rfl rfl hl.1 rfl (lv_room (Nat.le_of_ble_eq_true rfl)) dX9_price_52 ⟨Nat.le_of_ble_eq_true rfl, Nat.le_of_ble_eq_true rfl⟩) ?_
        subst hAA
        exact mu_iret hx hb hr hlocks hP hS (⟨_, _⟩) (rfl) (by rw [hcl]; exact RvP.ok (by rw [c21]; exact kD2_0 c6 rfl)) (rfl) dX9_price_55
      · exact absurd c36 (by decide)
    refine lv_iconst (pc := 24) (v := nI 2) hx hb dX9_price_24 rfl ?_
    refine lv_goto (pc := 25) (tgt := 29) hx hb dX9_price_25 (by decide) ?_
    refine va_put (pc := 29) (D := D) (ci := 8) (v := .int (nI 2)) (ty := .int) (C := RX9) (T := TX9) (N := 25) hx hb hts hinX9 tyX9 tyX9_ok nmX9 hown hK.1 hP hD hS 0 rfl rfl 0 (by decide) (hts (.fieldLink RX9 59 "BoxesGameModel" "thrown" "I") (List.mem_of_getElem? (i := 2) rfl)) (fun _ h9 => h9) rfl (by decide +kernel) (rfl) (rfl) (Nat.le_of_ble_eq_true rfl) dX9_price_29 (fun H locs hP hD hS => ?_)
    have hP : va_P D vwCl [(mo, .inr (8, [.int (nI 2), .int (nI c), .int (nI r), .long w, .int (nI pl), .int (nI n), .ref aML, .ref aMR, .ref aOW, .int (nI len), .ref aBU, .int sn, .ref aSA, .ref aSZ, .ref aLP, .ref aOP, .ref aFT, .int od, .ref aOL, .ref aRS, .ref aCD, .long pw, .int pb, .int ah, .long hs]))] H := hP
    have hD : va_D AA [(mo, .inr (8, [.int (nI 2), .int (nI c), .int (nI r), .long w, .int (nI pl), .int (nI n), .ref aML, .ref aMR, .ref aOW, .int (nI len), .ref aBU, .int sn, .ref aSA, .ref aSZ, .ref aLP, .ref aOP, .ref aFT, .int od, .ref aOL, .ref aRS, .ref aCD, .long pw, .int pb, .int ah, .long hs]))] := hD
    refine lv_aload_n (pc := 32) hx hb dX9_price_32 rfl (lv_at hl 0 rfl) ?_
    refine va_get (pc := 33) (D := D) (ci := 8) (v := .int (nI 2)) (C := RX9) (T := TX9) (N := 25) hx hb hts hinX9 hown hK.1 hP 0 rfl rfl 0 (by decide) (hts (.fieldLink RX9 59 "BoxesGameModel" "thrown" "I") (List.mem_of_getElem? (i := 2) rfl)) (fun _ h9 => h9) rfl dX9_price_33 ?_
    refine n_if_le (pc := 36) (tgt := 43) hx hb (by omega) dX9_price_36 (by decide) (fun c36 => ?_) (fun c36 => ?_)
    · exact absurd c36 (by decide)
    refine lv_iconst (pc := 39) (v := nI 0) hx hb dX9_price_39 rfl ?_
    refine lv_goto (pc := 40) (tgt := 55) hx hb dX9_price_40 (by decide) ?_
    subst hAA
    exact mu_iret hx hb hr hlocks hP hS (⟨_, _⟩) (rfl) (RvP.no (kD2_2 c6 (by rw [hcl, c21]; rfl)) (by decide)) (rfl) dX9_price_55
  refine lv_iconst (pc := 9) (v := nI 1) hx hb dX9_price_9 rfl ?_
  refine lv_goto (pc := 10) (tgt := 29) hx hb dX9_price_10 (by decide) ?_
  refine va_put (pc := 29) (D := D) (ci := 8) (v := .int (nI 1)) (ty := .int) (C := RX9) (T := TX9) (N := 25) hx hb hts hinX9 tyX9 tyX9_ok nmX9 hown hK.1 hP hD hS 0 rfl rfl 0 (by decide) (hts (.fieldLink RX9 59 "BoxesGameModel" "thrown" "I") (List.mem_of_getElem? (i := 2) rfl)) (fun _ h9 => h9) rfl (by decide +kernel) (rfl) (rfl) (Nat.le_of_ble_eq_true rfl) dX9_price_29 (fun H locs hP hD hS => ?_)
  have hP : va_P D vwCl [(mo, .inr (8, [.int (nI 1), .int (nI c), .int (nI r), .long w, .int (nI pl), .int (nI n), .ref aML, .ref aMR, .ref aOW, .int (nI len), .ref aBU, .int sn, .ref aSA, .ref aSZ, .ref aLP, .ref aOP, .ref aFT, .int od, .ref aOL, .ref aRS, .ref aCD, .long pw, .int pb, .int ah, .long hs]))] H := hP
  have hD : va_D AA [(mo, .inr (8, [.int (nI 1), .int (nI c), .int (nI r), .long w, .int (nI pl), .int (nI n), .ref aML, .ref aMR, .ref aOW, .int (nI len), .ref aBU, .int sn, .ref aSA, .ref aSZ, .ref aLP, .ref aOP, .ref aFT, .int od, .ref aOL, .ref aRS, .ref aCD, .long pw, .int pb, .int ah, .long hs]))] := hD
  refine lv_aload_n (pc := 32) hx hb dX9_price_32 rfl (lv_at hl 0 rfl) ?_
  refine va_get (pc := 33) (D := D) (ci := 8) (v := .int (nI 1)) (C := RX9) (T := TX9) (N := 25) hx hb hts hinX9 hown hK.1 hP 0 rfl rfl 0 (by decide) (hts (.fieldLink RX9 59 "BoxesGameModel" "thrown" "I") (List.mem_of_getElem? (i := 2) rfl)) (fun _ h9 => h9) rfl dX9_price_33 ?_
  refine n_if_le (pc := 36) (tgt := 43) hx hb (by omega) dX9_price_36 (by decide) (fun c36 => ?_) (fun c36 => ?_)
  · exact absurd c36 (by decide)
  refine lv_iconst (pc := 39) (v := nI 0) hx hb dX9_price_39 rfl ?_
  refine lv_goto (pc := 40) (tgt := 55) hx hb dX9_price_40 (by decide) ?_
  subst hAA
  exact mu_iret hx hb hr hlocks hP hS (⟨_, _⟩) (rfl) (RvP.no (kD2_1 c6) (by decide)) (rfl) dX9_price_55

set_option maxHeartbeats 1200000 in
set_option maxRecDepth 100000 in
theorem c_X9_drawn (l : Launch) (D : va_G) (Y : vY) (mo : Nat) (th : Int32) (c : Nat) (r : Nat) (w : Int64) (pl : Nat) (n : Nat) (aML : Nat) (aMR : Nat) (aOW : Nat) (len : Nat) (aBU : Nat) (sn : Int32) (aSA : Nat) (aSZ : Nat) (aLP : Nat) (aOP : Nat) (aFT : Nat) (od : Int32) (aOL : Nat) (aRS : Nat) (aCD : Nat) (pw : Int64) (pb : Int32) (ah : Int32) (hs : Int64) (ms : Nat → Nat) (ml : Nat → Int32) (mr : Nat → Int32) (ow : Nat → Int32) (x : Int32) (hC : Cr c r) (hM : MoR c r ms n w pl ml mr ow) : Mu l yX9_drawn wsX9_drawn ({ frames := 1, cells := 0, slots := 0, locals := 22 } : Room) [.ref mo, .int x] D Y [(mo, .inr (8, [.int th, .int (nI c), .int (nI r), .long w, .int (nI pl), .int (nI n), .ref aML, .ref aMR, .ref aOW, .int (nI len), .ref aBU, .int sn, .ref aSA, .ref aSZ, .ref aLP, .ref aOP, .ref aFT, .int od, .ref aOL, .ref aRS, .ref aCD, .long pw, .int pb, .int ah, .long hs])), (aML, .inl (Y.1, 40, .inl ml))] (fun uS : Int32 × Int32 => some (.int uS.2)) (fun uS : Int32 × Int32 => [(mo, .inr (8, [.int uS.1, .int (nI c), .int (nI r), .long w, .int (nI pl), .int (nI n), .ref aML, .ref aMR, .ref aOW, .int (nI len), .ref aBU, .int sn, .ref aSA, .ref aSZ, .ref aLP, .ref aOP, .ref aFT, .int od, .ref aOL, .ref aRS, .ref aCD, .long pw, .int pb, .int ah, .long hs])), (aML, .inl (Y.1, 40, .inl ml))]) (fun uS : Int32 × Int32 => RvP (kD1 (wi x (nI 0) (nI n - nI 1))) uS.1 uS.2 (nI (ms x.toNatClampNeg))) := by
  refine mu_intro (by decide +kernel) rfl (Nat.le_of_ble_eq_true rfl) [(0, .ref mo), (1, .int x)] rfl ?_
  intro pG eG sG mG aG bG tG cG ls hx hb hr hml hts hown hlocks hK hP hD hS hl
  generalize hAA : adA [(mo, .inr (8, [.int th, .int (nI c), .int (nI r), .long w, .int (nI pl), .int (nI n), .ref aML, .ref aMR, .ref aOW, .int (nI len), .ref aBU, .int sn, .ref aSA, .ref aSZ, .ref aLP, .ref aOP, .ref aFT, .int od, .ref aOL, .ref aRS, .ref aCD, .long pw, .int pb, .int ah, .long hs])), (aML, .inl (Y.1, 40, .inl ml))] = AA at hD hS ⊢
  have hP : va_P D vwCl [(mo, .inr (8, [.int th, .int (nI c), .int (nI r), .long w, .int (nI pl), .int (nI n), .ref aML, .ref aMR, .ref aOW, .int (nI len), .ref aBU, .int sn, .ref aSA, .ref aSZ, .ref aLP, .ref aOP, .ref aFT, .int od, .ref aOL, .ref aRS, .ref aCD, .long pw, .int pb, .int ah, .long hs])), (aML, .inl (Y.1, 40, .inl ml))] sG.heap := hP
  have hD : va_D AA [(mo, .inr (8, [.int th, .int (nI c), .int (nI r), .long w, .int (nI pl), .int (nI n), .ref aML, .ref aMR, .ref aOW, .int (nI len), .ref aBU, .int sn, .ref aSA, .ref aSZ, .ref aLP, .ref aOP, .ref aFT, .int od, .ref aOL, .ref aRS, .ref aCD, .long pw, .int pb, .int ah, .long hs])), (aML, .inl (Y.1, 40, .inl ml))] := hD
  have hown : sG.vm.findClass RX9 = some mG.cls := hown
  have hl : lv_has ls 2 [(0, .ref mo), (1, .int x)] := hl
  have hinX9 : ∀ w ∈ u_ws RX9 TX9 25, w ∈ wsX9_drawn := by decide +kernel
  have hS : va_S AA sG.heap sG.heap [] := hS
  obtain ⟨hq1, hq2, hq3, hq4, hq5, hq6, hq7, hq8, hq9, hq10, hq11⟩ := hC.q
  have hhu := hM.1.hund hC
  have hpl1 := hM.1.pl1
  have hn40 := hM.1.n40 hC
  have hob := hM.1.onb hC
  refine lv_aload_n (pc := 0) hx hb dX9_drawn_0 rfl (lv_at hl 0 rfl) ?_
  refine lv_iload_n (pc := 1) hx hb dX9_drawn_1 rfl (lv_at hl 1 rfl) ?_
  refine lv_iconst (pc := 2) (v := nI 0) hx hb dX9_drawn_2 rfl ?_
  refine lv_aload_n (pc := 3) hx hb dX9_drawn_3 rfl (lv_at hl 0 rfl) ?_
  refine va_get (pc := 4) (D := D) (ci := 8) (v := .int (nI n)) (C := RX9) (T := TX9) (N := 25) hx hb hts hinX9 hown hK.1 hP 0 rfl rfl 5 (by decide) (hts (.fieldLink RX9 126 "BoxesGameModel" "moves" "I") (List.mem_of_getElem? (i := 1) rfl)) (fun _ h9 => h9) rfl dX9_drawn_4 ?_
  refine lv_iconst (pc := 7) (v := nI 1) hx hb dX9_drawn_7 rfl ?_
  refine lv_isub (pc := 8) hx hb dX9_drawn_8 ?_
  refine ro_go (pc := 9) (va_runS (As := [.int x, .int (nI 0), .int ((nI n) - (nI 1))]) (rest := [.ref mo]) ⟨hx, hb, hml, hown, hts⟩ (c_X9_within l D Y x (nI 0) ((nI n) - (nI 1)) ) (va_cwS 3 hts gX9_drawn_X9_within rfl rfl rfl hdX9_within ⟨Nat.le_of_ble_eq_true rfl, Nat.le_of_ble_eq_true rfl⟩) (ro_pS hK (hP.sub [] rfl)) rfl rfl hl.1 rfl (lv_room (Nat.le_of_ble_eq_true rfl)) dX9_drawn_9 ⟨Nat.le_of_ble_eq_true rfl, Nat.le_of_ble_eq_true rfl⟩) ?_
  refine z_if_eq (pc := 12) (tgt := 19) hx hb dX9_drawn_12 (by decide) (fun c12 => ?_) (fun c12 => ?_)
  · refine lv_iconst (pc := 19) (v := nI 1) hx hb dX9_drawn_19 rfl ?_
    refine va_put (pc := 20) (D := D) (ci := 8) (v := .int (nI 1)) (ty := .int) (C := RX9) (T := TX9) (N := 25) hx hb hts hinX9 tyX9 tyX9_ok nmX9 hown hK.1 hP hD hS 0 rfl rfl 0 (by decide) (hts (.fieldLink RX9 59 "BoxesGameModel" "thrown" "I") (List.mem_of_getElem? (i := 2) rfl)) (fun _ h9 => h9) rfl (by decide +kernel) (rfl) (rfl) (Nat.le_of_ble_eq_true rfl) dX9_drawn_20 (fun H locs hP hD hS => ?_)
    have hP : va_P D vwCl [(mo, .inr (8, [.int (nI 1), .int (nI c), .int (nI r), .long w, .int (nI pl), .int (nI n), .ref aML, .ref aMR, .ref aOW, .int (nI len), .ref aBU, .int sn, .ref aSA, .ref aSZ, .ref aLP, .ref aOP, .ref aFT, .int od, .ref aOL, .ref aRS, .ref aCD, .long pw, .int pb, .int ah, .long hs])), (aML, .inl (Y.1, 40, .inl ml))] H := hP
    have hD : va_D AA [(mo, .inr (8, [.int (nI 1), .int (nI c), .int (nI r), .long w, .int (nI pl), .int (nI n), .ref aML, .ref aMR, .ref aOW, .int (nI len), .ref aBU, .int sn, .ref aSA, .ref aSZ, .ref aLP, .ref aOP, .ref aFT, .int od, .ref aOL, .ref aRS, .ref aCD, .long pw, .int pb, .int ah, .long hs])), (aML, .inl (Y.1, 40, .inl ml))] := hD
    refine lv_aload_n (pc := 23) hx hb dX9_drawn_23 rfl (lv_at hl 0 rfl) ?_
    refine va_get (pc := 24) (D := D) (ci := 8) (v := .int (nI 1)) (C := RX9) (T := TX9) (N := 25) hx hb hts hinX9 hown hK.1 hP 0 rfl rfl 0 (by decide) (hts (.fieldLink RX9 59 "BoxesGameModel" "thrown" "I") (List.mem_of_getElem? (i := 2) rfl)) (fun _ h9 => h9) rfl dX9_drawn_24 ?_
    refine n_if_le (pc := 27) (tgt := 34) hx hb (by omega) dX9_drawn_27 (by decide) (fun c27 => ?_) (fun c27 => ?_)
    · exact absurd c27 (by decide)
    refine lv_iconst (pc := 30) (v := nI 0) hx hb dX9_drawn_30 rfl ?_
    refine lv_goto (pc := 31) (tgt := 40) hx hb dX9_drawn_31 (by decide) ?_
    subst hAA
    exact mu_iret hx hb hr hlocks hP hS (⟨_, _⟩) (rfl) (RvP.no (kD1_f c12) (by decide)) (rfl) dX9_drawn_40
  obtain ⟨ja, hja, rfl⟩ := vN_is (by omega) c12
  have hcja : (nI ja).toNatClampNeg = ja := nI_clamp (by omega)
  have hl : lv_has ls 2 [(0, .ref mo), (1, .int (nI ja))] := hl
  refine lv_iconst (pc := 15) (v := nI 0) hx hb dX9_drawn_15 rfl ?_
  refine lv_goto (pc := 16) (tgt := 20) hx hb dX9_drawn_16 (by decide) ?_
  refine va_put (pc := 20) (D := D) (ci := 8) (v := .int (nI 0)) (ty := .int) (C := RX9) (T := TX9) (N := 25) hx hb hts hinX9 tyX9 tyX9_ok nmX9 hown hK.1 hP hD hS 0 rfl rfl 0 (by decide) (hts (.fieldLink RX9 59 "BoxesGameModel" "thrown" "I") (List.mem_of_getElem? (i := 2) rfl)) (fun _ h9 => h9) rfl (by decide +kernel) (rfl) (rfl) (Nat.le_of_ble_eq_true rfl) dX9_drawn_20 (fun H locs hP hD hS => ?_)
  have hP : va_P D vwCl [(mo, .inr (8, [.int (nI 0), .int (nI c), .int (nI r), .long w, .int (nI pl), .int (nI n), .ref aML, .ref aMR, .ref aOW, .int (nI len), .ref aBU, .int sn, .ref aSA, .ref aSZ, .ref aLP, .ref aOP, .ref aFT, .int od, .ref aOL, .ref aRS, .ref aCD, .long pw, .int pb, .int ah, .long hs])), (aML, .inl (Y.1, 40, .inl ml))] H := hP
  have hD : va_D AA [(mo, .inr (8, [.int (nI 0), .int (nI c), .int (nI r), .long w, .int (nI pl), .int (nI n), .ref aML, .ref aMR, .ref aOW, .int (nI len), .ref aBU, .int sn, .ref aSA, .ref aSZ, .ref aLP, .ref aOP, .ref aFT, .int od, .ref aOL, .ref aRS, .ref aCD, .long pw, .int pb, .int ah, .long hs])), (aML, .inl (Y.1, 40, .inl ml))] := hD
  refine lv_aload_n (pc := 23) hx hb dX9_drawn_23 rfl (lv_at hl 0 rfl) ?_
  refine va_get (pc := 24) (D := D) (ci := 8) (v := .int (nI 0)) (C := RX9) (T := TX9) (N := 25) hx hb hts hinX9 hown hK.1 hP 0 rfl rfl 0 (by decide) (hts (.fieldLink RX9 59 "BoxesGameModel" "thrown" "I") (List.mem_of_getElem? (i := 2) rfl)) (fun _ h9 => h9) rfl dX9_drawn_24 ?_
  refine n_if_le (pc := 27) (tgt := 34) hx hb (by omega) dX9_drawn_27 (by decide) (fun c27 => ?_) (fun c27 => ?_)
  · refine lv_aload_n (pc := 34) hx hb dX9_drawn_34 rfl (lv_at hl 0 rfl) ?_
    refine va_get (pc := 35) (D := D) (ci := 8) (v := .ref aML) (C := RX9) (T := TX9) (N := 25) hx hb hts hinX9 hown hK.1 hP 0 rfl rfl 6 (by decide) (hts (.fieldLink RX9 16 "BoxesGameModel" "moveLines" "[I") (List.mem_of_getElem? (i := 3) rfl)) (fun _ h9 => h9) rfl dX9_drawn_35 ?_
    refine lv_iload_n (pc := 38) hx hb dX9_drawn_38 rfl (lv_at hl 1 rfl) ?_
    refine va_iald (pc := 39) hx hb hK.1 hP 1 0 rfl rfl (vp_in_nI (by omega) (by decide)) dX9_drawn_39 ?_
    refine top_i (show ml (nI ja).toNatClampNeg = ml ja from by rw [nI_clamp (by omega)]) ?_
    refine top_i (show ml ja = nI (ms ja) from hM.1.2.2.2.1 ja hja) ?_
    subst hAA
    exact mu_iret hx hb hr hlocks hP hS (⟨_, _⟩) (rfl) (by rw [hcja]; exact RvP.ok (kD1_t c12)) (rfl) dX9_drawn_40
  · exact absurd c27 (by decide)

set_option maxHeartbeats 1200000 in
set_option maxRecDepth 100000 in
theorem c_X9_owner (l : Launch) (D : va_G) (Y : vY) (mo : Nat) (th : Int32) (c : Nat) (r : Nat) (w : Int64) (pl : Nat) (n : Nat) (aML : Nat) (aMR : Nat) (aOW : Nat) (len : Nat) (aBU : Nat) (sn : Int32) (aSA : Nat) (aSZ : Nat) (aLP : Nat) (aOP : Nat) (aFT : Nat) (od : Int32) (aOL : Nat) (aRS : Nat) (aCD : Nat) (pw : Int64) (pb : Int32) (ah : Int32) (hs : Int64) (ms : Nat → Nat) (ml : Nat → Int32) (mr : Nat → Int32) (ow : Nat → Int32) (x : Int32) (hC : Cr c r) (hM : MoR c r ms n w pl ml mr ow) : Mu l yX9_owner wsX9_owner ({ frames := 2, cells := 0, slots := 0, locals := 43 } : Room) [.ref mo, .int x] D Y [(mo, .inr (8, [.int th, .int (nI c), .int (nI r), .long w, .int (nI pl), .int (nI n), .ref aML, .ref aMR, .ref aOW, .int (nI len), .ref aBU, .int sn, .ref aSA, .ref aSZ, .ref aLP, .ref aOP, .ref aFT, .int od, .ref aOL, .ref aRS, .ref aCD, .long pw, .int pb, .int ah, .long hs])), (aOW, .inl (Y.1, 16, .inl ow))] (fun uS : Int32 × Int32 => some (.int uS.2)) (fun uS : Int32 × Int32 => [(mo, .inr (8, [.int uS.1, .int (nI c), .int (nI r), .long w, .int (nI pl), .int (nI n), .ref aML, .ref aMR, .ref aOW, .int (nI len), .ref aBU, .int sn, .ref aSA, .ref aSZ, .ref aLP, .ref aOP, .ref aFT, .int od, .ref aOL, .ref aRS, .ref aCD, .long pw, .int pb, .int ah, .long hs])), (aOW, .inl (Y.1, 16, .inl ow))]) (fun uS : Int32 × Int32 => RvP (kD1 (wi x (nI 0) (nI (c * r - 1)))) uS.1 uS.2 (oH c r ms n x.toNatClampNeg)) := by
  refine mu_intro (by decide +kernel) rfl (Nat.le_of_ble_eq_true rfl) [(0, .ref mo), (1, .int x)] rfl ?_
  intro pG eG sG mG aG bG tG cG ls hx hb hr hml hts hown hlocks hK hP hD hS hl
  generalize hAA : adA [(mo, .inr (8, [.int th, .int (nI c), .int (nI r), .long w, .int (nI pl), .int (nI n), .ref aML, .ref aMR, .ref aOW, .int (nI len), .ref aBU, .int sn, .ref aSA, .ref aSZ, .ref aLP, .ref aOP, .ref aFT, .int od, .ref aOL, .ref aRS, .ref aCD, .long pw, .int pb, .int ah, .long hs])), (aOW, .inl (Y.1, 16, .inl ow))] = AA at hD hS ⊢
  have hP : va_P D vwCl [(mo, .inr (8, [.int th, .int (nI c), .int (nI r), .long w, .int (nI pl), .int (nI n), .ref aML, .ref aMR, .ref aOW, .int (nI len), .ref aBU, .int sn, .ref aSA, .ref aSZ, .ref aLP, .ref aOP, .ref aFT, .int od, .ref aOL, .ref aRS, .ref aCD, .long pw, .int pb, .int ah, .long hs])), (aOW, .inl (Y.1, 16, .inl ow))] sG.heap := hP
  have hD : va_D AA [(mo, .inr (8, [.int th, .int (nI c), .int (nI r), .long w, .int (nI pl), .int (nI n), .ref aML, .ref aMR, .ref aOW, .int (nI len), .ref aBU, .int sn, .ref aSA, .ref aSZ, .ref aLP, .ref aOP, .ref aFT, .int od, .ref aOL, .ref aRS, .ref aCD, .long pw, .int pb, .int ah, .long hs])), (aOW, .inl (Y.1, 16, .inl ow))] := hD
  have hown : sG.vm.findClass RX9 = some mG.cls := hown
  have hl : lv_has ls 2 [(0, .ref mo), (1, .int x)] := hl
  have hinX9 : ∀ w ∈ u_ws RX9 TX9 25, w ∈ wsX9_owner := by decide +kernel
  have hS : va_S AA sG.heap sG.heap [] := hS
  obtain ⟨hq1, hq2, hq3, hq4, hq5, hq6, hq7, hq8, hq9, hq10, hq11⟩ := hC.q
  refine lv_aload_n (pc := 0) hx hb dX9_owner_0 rfl (lv_at hl 0 rfl) ?_
  refine lv_aload_n (pc := 1) hx hb dX9_owner_1 rfl (lv_at hl 0 rfl) ?_
  refine lv_iload_n (pc := 2) hx hb dX9_owner_2 rfl (lv_at hl 1 rfl) ?_
  refine ro_go (pc := 3) (va_runV (As := [.int x]) (rest := [.ref mo]) ⟨hx, hb, hml, hown, hts⟩ (c_X9_isBox l D Y mo c r ([.int th, .int (nI c), .int (nI r), .long w, .int (nI pl), .int (nI n), .ref aML, .ref aMR, .ref aOW, .int (nI len), .ref aBU, .int sn, .ref aSA, .ref aSZ, .ref aLP, .ref aOP, .ref aFT, .int od, .ref aOL, .ref aRS, .ref aCD, .long pw, .int pb, .int ah, .long hs]) x (by first | assumption | exact ⟨rfl, rfl⟩) (hC)) (cwV 1 hts gX9_owner_X9_isBox rfl rfl rfl ⟨rfl, hdX9_isBox⟩ ⟨Nat.le_of_ble_eq_true rfl, Nat.le_of_ble_eq_true rfl⟩) (ro_pV hK (hP.sub [0] rfl) (ro_recv hK hP (ci := 8) (q0 := 0) rfl rfl)) rfl rfl hl.1 rfl (lv_room (Nat.le_of_ble_eq_true rfl)) dX9_owner_3 ⟨Nat.le_of_ble_eq_true rfl, Nat.le_of_ble_eq_true rfl⟩) ?_
  refine z_if_eq (pc := 6) (tgt := 13) hx hb dX9_owner_6 (by decide) (fun c6 => ?_) (fun c6 => ?_)
  · refine lv_iconst (pc := 13) (v := nI 1) hx hb dX9_owner_13 rfl ?_
    refine va_put (pc := 14) (D := D) (ci := 8) (v := .int (nI 1)) (ty := .int) (C := RX9) (T := TX9) (N := 25) hx hb hts hinX9 tyX9 tyX9_ok nmX9 hown hK.1 hP hD hS 0 rfl rfl 0 (by decide) (hts (.fieldLink RX9 59 "BoxesGameModel" "thrown" "I") (List.mem_of_getElem? (i := 1) rfl)) (fun _ h9 => h9) rfl (by decide +kernel) (rfl) (rfl) (Nat.le_of_ble_eq_true rfl) dX9_owner_14 (fun H locs hP hD hS => ?_)
    have hP : va_P D vwCl [(mo, .inr (8, [.int (nI 1), .int (nI c), .int (nI r), .long w, .int (nI pl), .int (nI n), .ref aML, .ref aMR, .ref aOW, .int (nI len), .ref aBU, .int sn, .ref aSA, .ref aSZ, .ref aLP, .ref aOP, .ref aFT, .int od, .ref aOL, .ref aRS, .ref aCD, .long pw, .int pb, .int ah, .long hs])), (aOW, .inl (Y.1, 16, .inl ow))] H := hP
    have hD : va_D AA [(mo, .inr (8, [.int (nI 1), .int (nI c), .int (nI r), .long w, .int (nI pl), .int (nI n), .ref aML, .ref aMR, .ref aOW, .int (nI len), .ref aBU, .int sn, .ref aSA, .ref aSZ, .ref aLP, .ref aOP, .ref aFT, .int od, .ref aOL, .ref aRS, .ref aCD, .long pw, .int pb, .int ah, .long hs])), (aOW, .inl (Y.1, 16, .inl ow))] := hD
    refine lv_aload_n (pc := 17) hx hb dX9_owner_17 rfl (lv_at hl 0 rfl) ?_
    refine va_get (pc := 18) (D := D) (ci := 8) (v := .int (nI 1)) (C := RX9) (T := TX9) (N := 25) hx hb hts hinX9 hown hK.1 hP 0 rfl rfl 0 (by decide) (hts (.fieldLink RX9 59 "BoxesGameModel" "thrown" "I") (List.mem_of_getElem? (i := 1) rfl)) (fun _ h9 => h9) rfl dX9_owner_18 ?_
    refine n_if_le (pc := 21) (tgt := 28) hx hb (by omega) dX9_owner_21 (by decide) (fun c21 => ?_) (fun c21 => ?_)
    · exact absurd c21 (by decide)
    refine lv_iconst (pc := 24) (v := nI 0) hx hb dX9_owner_24 rfl ?_
    refine lv_goto (pc := 25) (tgt := 34) hx hb dX9_owner_25 (by decide) ?_
    subst hAA
    exact mu_iret hx hb hr hlocks hP hS (⟨_, _⟩) (rfl) (RvP.no (kD1_f c6) (by decide)) (rfl) dX9_owner_34
  obtain ⟨bi, hbi, rfl⟩ := wi_of (by omega) c6
  have hb0 : bi < c * r := by omega
  have hcl : (nI bi).toNatClampNeg = bi := nI_clamp (by omega)
  have hl : lv_has ls 2 [(0, .ref mo), (1, .int (nI bi))] := hl
  refine lv_iconst (pc := 9) (v := nI 0) hx hb dX9_owner_9 rfl ?_
  refine lv_goto (pc := 10) (tgt := 14) hx hb dX9_owner_10 (by decide) ?_
  refine va_put (pc := 14) (D := D) (ci := 8) (v := .int (nI 0)) (ty := .int) (C := RX9) (T := TX9) (N := 25) hx hb hts hinX9 tyX9 tyX9_ok nmX9 hown hK.1 hP hD hS 0 rfl rfl 0 (by decide) (hts (.fieldLink RX9 59 "BoxesGameModel" "thrown" "I") (List.mem_of_getElem? (i := 1) rfl)) (fun _ h9 => h9) rfl (by decide +kernel) (rfl) (rfl) (Nat.le_of_ble_eq_true rfl) dX9_owner_14 (fun H locs hP hD hS => ?_)
  have hP : va_P D vwCl [(mo, .inr (8, [.int (nI 0), .int (nI c), .int (nI r), .long w, .int (nI pl), .int (nI n), .ref aML, .ref aMR, .ref aOW, .int (nI len), .ref aBU, .int sn, .ref aSA, .ref aSZ, .ref aLP, .ref aOP, .ref aFT, .int od, .ref aOL, .ref aRS, .ref aCD, .long pw, .int pb, .int ah, .long hs])), (aOW, .inl (Y.1, 16, .inl ow))] H := hP
  have hD : va_D AA [(mo, .inr (8, [.int (nI 0), .int (nI c), .int (nI r), .long w, .int (nI pl), .int (nI n), .ref aML, .ref aMR, .ref aOW, .int (nI len), .ref aBU, .int sn, .ref aSA, .ref aSZ, .ref aLP, .ref aOP, .ref aFT, .int od, .ref aOL, .ref aRS, .ref aCD, .long pw, .int pb, .int ah, .long hs])), (aOW, .inl (Y.1, 16, .inl ow))] := hD
  refine lv_aload_n (pc := 17) hx hb dX9_owner_17 rfl (lv_at hl 0 rfl) ?_
  refine va_get (pc := 18) (D := D) (ci := 8) (v := .int (nI 0)) (C := RX9) (T := TX9) (N := 25) hx hb hts hinX9 hown hK.1 hP 0 rfl rfl 0 (by decide) (hts (.fieldLink RX9 59 "BoxesGameModel" "thrown" "I") (List.mem_of_getElem? (i := 1) rfl)) (fun _ h9 => h9) rfl dX9_owner_18 ?_
  refine n_if_le (pc := 21) (tgt := 28) hx hb (by omega) dX9_owner_21 (by decide) (fun c21 => ?_) (fun c21 => ?_)
  · refine lv_aload_n (pc := 28) hx hb dX9_owner_28 rfl (lv_at hl 0 rfl) ?_
    refine va_get (pc := 29) (D := D) (ci := 8) (v := .ref aOW) (C := RX9) (T := TX9) (N := 25) hx hb hts hinX9 hown hK.1 hP 0 rfl rfl 8 (by decide) (hts (.fieldLink RX9 23 "BoxesGameModel" "owners" "[I") (List.mem_of_getElem? (i := 2) rfl)) (fun _ h9 => h9) rfl dX9_owner_29 ?_
    refine lv_iload_n (pc := 32) hx hb dX9_owner_32 rfl (lv_at hl 1 rfl) ?_
    refine va_iald (pc := 33) hx hb hK.1 hP 1 0 rfl rfl (vp_in_nI (by omega) (by decide)) dX9_owner_33 ?_
    refine top_i (show ow (nI bi).toNatClampNeg = ow bi from by rw [nI_clamp (by omega)]) ?_
    refine top_i (show ow bi = oH c r ms n bi from hM.1.2.2.2.2 bi (by omega)) ?_
    subst hAA
    exact mu_iret hx hb hr hlocks hP hS (⟨_, _⟩) (rfl) (by rw [hcl]; exact RvP.ok (kD1_t c6)) (rfl) dX9_owner_34
  · exact absurd c21 (by decide)

set_option maxHeartbeats 1200000 in
set_option maxRecDepth 100000 in
theorem c_X9_openSides (l : Launch) (D : va_G) (Y : vY) (mo : Nat) (th : Int32) (c : Nat) (r : Nat) (w : Int64) (pl : Nat) (n : Nat) (aML : Nat) (aMR : Nat) (aOW : Nat) (len : Nat) (aBU : Nat) (sn : Int32) (aSA : Nat) (aSZ : Nat) (aLP : Nat) (aOP : Nat) (aFT : Nat) (od : Int32) (aOL : Nat) (aRS : Nat) (aCD : Nat) (pw : Int64) (pb : Int32) (ah : Int32) (hs : Int64) (x : Int32) (hC : Cr c r) : Mu l yX9_openSides wsX9_openSides ({ frames := 4, cells := 0, slots := 0, locals := 92 } : Room) [.ref mo, .int x] D Y [(mo, .inr (8, [.int th, .int (nI c), .int (nI r), .long w, .int (nI pl), .int (nI n), .ref aML, .ref aMR, .ref aOW, .int (nI len), .ref aBU, .int sn, .ref aSA, .ref aSZ, .ref aLP, .ref aOP, .ref aFT, .int od, .ref aOL, .ref aRS, .ref aCD, .long pw, .int pb, .int ah, .long hs]))] (fun uS : Int32 × Int32 => some (.int uS.2)) (fun uS : Int32 × Int32 => [(mo, .inr (8, [.int uS.1, .int (nI c), .int (nI r), .long w, .int (nI pl), .int (nI n), .ref aML, .ref aMR, .ref aOW, .int (nI len), .ref aBU, .int sn, .ref aSA, .ref aSZ, .ref aLP, .ref aOP, .ref aFT, .int od, .ref aOL, .ref aRS, .ref aCD, .long pw, .int pb, .int ah, .long hs]))]) (fun uS : Int32 × Int32 => RvP (kD1 (wi x (nI 0) (nI (c * r - 1)))) uS.1 uS.2 (nI (opn c r w x.toNatClampNeg))) := by
  refine mu_intro (by decide +kernel) rfl (Nat.le_of_ble_eq_true rfl) [(0, .ref mo), (1, .int x)] rfl ?_
  intro pG eG sG mG aG bG tG cG ls hx hb hr hml hts hown hlocks hK hP hD hS hl
  generalize hAA : adA [(mo, .inr (8, [.int th, .int (nI c), .int (nI r), .long w, .int (nI pl), .int (nI n), .ref aML, .ref aMR, .ref aOW, .int (nI len), .ref aBU, .int sn, .ref aSA, .ref aSZ, .ref aLP, .ref aOP, .ref aFT, .int od, .ref aOL, .ref aRS, .ref aCD, .long pw, .int pb, .int ah, .long hs]))] = AA at hD hS ⊢
  have hP : va_P D vwCl [(mo, .inr (8, [.int th, .int (nI c), .int (nI r), .long w, .int (nI pl), .int (nI n), .ref aML, .ref aMR, .ref aOW, .int (nI len), .ref aBU, .int sn, .ref aSA, .ref aSZ, .ref aLP, .ref aOP, .ref aFT, .int od, .ref aOL, .ref aRS, .ref aCD, .long pw, .int pb, .int ah, .long hs]))] sG.heap := hP
  have hD : va_D AA [(mo, .inr (8, [.int th, .int (nI c), .int (nI r), .long w, .int (nI pl), .int (nI n), .ref aML, .ref aMR, .ref aOW, .int (nI len), .ref aBU, .int sn, .ref aSA, .ref aSZ, .ref aLP, .ref aOP, .ref aFT, .int od, .ref aOL, .ref aRS, .ref aCD, .long pw, .int pb, .int ah, .long hs]))] := hD
  have hown : sG.vm.findClass RX9 = some mG.cls := hown
  have hl : lv_has ls 2 [(0, .ref mo), (1, .int x)] := hl
  have hinX9 : ∀ w ∈ u_ws RX9 TX9 25, w ∈ wsX9_openSides := by decide +kernel
  have hS : va_S AA sG.heap sG.heap [] := hS
  obtain ⟨hq1, hq2, hq3, hq4, hq5, hq6, hq7, hq8, hq9, hq10, hq11⟩ := hC.q
  refine lv_aload_n (pc := 0) hx hb dX9_openSides_0 rfl (lv_at hl 0 rfl) ?_
  refine lv_aload_n (pc := 1) hx hb dX9_openSides_1 rfl (lv_at hl 0 rfl) ?_
  refine lv_iload_n (pc := 2) hx hb dX9_openSides_2 rfl (lv_at hl 1 rfl) ?_
  refine ro_go (pc := 3) (va_runV (As := [.int x]) (rest := [.ref mo]) ⟨hx, hb, hml, hown, hts⟩ (c_X9_isBox l D Y mo c r ([.int th, .int (nI c), .int (nI r), .long w, .int (nI pl), .int (nI n), .ref aML, .ref aMR, .ref aOW, .int (nI len), .ref aBU, .int sn, .ref aSA, .ref aSZ, .ref aLP, .ref aOP, .ref aFT, .int od, .ref aOL, .ref aRS, .ref aCD, .long pw, .int pb, .int ah, .long hs]) x (by first | assumption | exact ⟨rfl, rfl⟩) (hC)) (cwV 1 hts gX9_openSides_X9_isBox rfl rfl rfl ⟨rfl, hdX9_isBox⟩ ⟨Nat.le_of_ble_eq_true rfl, Nat.le_of_ble_eq_true rfl⟩) (ro_pV hK hP (ro_recv hK hP (ci := 8) (q0 := 0) rfl rfl)) rfl rfl hl.1 rfl (lv_room (Nat.le_of_ble_eq_true rfl)) dX9_openSides_3 ⟨Nat.le_of_ble_eq_true rfl, Nat.le_of_ble_eq_true rfl⟩) ?_
  refine z_if_eq (pc := 6) (tgt := 13) hx hb dX9_openSides_6 (by decide) (fun c6 => ?_) (fun c6 => ?_)
  · refine lv_iconst (pc := 13) (v := nI 1) hx hb dX9_openSides_13 rfl ?_
    refine va_put (pc := 14) (D := D) (ci := 8) (v := .int (nI 1)) (ty := .int) (C := RX9) (T := TX9) (N := 25) hx hb hts hinX9 tyX9 tyX9_ok nmX9 hown hK.1 hP hD hS 0 rfl rfl 0 (by decide) (hts (.fieldLink RX9 59 "BoxesGameModel" "thrown" "I") (List.mem_of_getElem? (i := 1) rfl)) (fun _ h9 => h9) rfl (by decide +kernel) (rfl) (rfl) (Nat.le_of_ble_eq_true rfl) dX9_openSides_14 (fun H locs hP hD hS => ?_)
    have hP : va_P D vwCl [(mo, .inr (8, [.int (nI 1), .int (nI c), .int (nI r), .long w, .int (nI pl), .int (nI n), .ref aML, .ref aMR, .ref aOW, .int (nI len), .ref aBU, .int sn, .ref aSA, .ref aSZ, .ref aLP, .ref aOP, .ref aFT, .int od, .ref aOL, .ref aRS, .ref aCD, .long pw, .int pb, .int ah, .long hs]))] H := hP
    have hD : va_D AA [(mo, .inr (8, [.int (nI 1), .int (nI c), .int (nI r), .long w, .int (nI pl), .int (nI n), .ref aML, .ref aMR, .ref aOW, .int (nI len), .ref aBU, .int sn, .ref aSA, .ref aSZ, .ref aLP, .ref aOP, .ref aFT, .int od, .ref aOL, .ref aRS, .ref aCD, .long pw, .int pb, .int ah, .long hs]))] := hD
    refine lv_aload_n (pc := 17) hx hb dX9_openSides_17 rfl (lv_at hl 0 rfl) ?_
    refine va_get (pc := 18) (D := D) (ci := 8) (v := .int (nI 1)) (C := RX9) (T := TX9) (N := 25) hx hb hts hinX9 hown hK.1 hP 0 rfl rfl 0 (by decide) (hts (.fieldLink RX9 59 "BoxesGameModel" "thrown" "I") (List.mem_of_getElem? (i := 1) rfl)) (fun _ h9 => h9) rfl dX9_openSides_18 ?_
    refine n_if_le (pc := 21) (tgt := 28) hx hb (by omega) dX9_openSides_21 (by decide) (fun c21 => ?_) (fun c21 => ?_)
    · exact absurd c21 (by decide)
    refine lv_iconst (pc := 24) (v := nI 0) hx hb dX9_openSides_24 rfl ?_
    refine lv_goto (pc := 25) (tgt := 37) hx hb dX9_openSides_25 (by decide) ?_
    subst hAA
    exact mu_iret hx hb hr hlocks hP hS (⟨_, _⟩) (rfl) (RvP.no (kD1_f c6) (by decide)) (rfl) dX9_openSides_37
  obtain ⟨bi, hbi, rfl⟩ := wi_of (by omega) c6
  have hb0 : bi < c * r := by omega
  have hcl : (nI bi).toNatClampNeg = bi := nI_clamp (by omega)
  have hl : lv_has ls 2 [(0, .ref mo), (1, .int (nI bi))] := hl
  refine lv_iconst (pc := 9) (v := nI 0) hx hb dX9_openSides_9 rfl ?_
  refine lv_goto (pc := 10) (tgt := 14) hx hb dX9_openSides_10 (by decide) ?_
  refine va_put (pc := 14) (D := D) (ci := 8) (v := .int (nI 0)) (ty := .int) (C := RX9) (T := TX9) (N := 25) hx hb hts hinX9 tyX9 tyX9_ok nmX9 hown hK.1 hP hD hS 0 rfl rfl 0 (by decide) (hts (.fieldLink RX9 59 "BoxesGameModel" "thrown" "I") (List.mem_of_getElem? (i := 1) rfl)) (fun _ h9 => h9) rfl (by decide +kernel) (rfl) (rfl) (Nat.le_of_ble_eq_true rfl) dX9_openSides_14 (fun H locs hP hD hS => ?_)
  have hP : va_P D vwCl [(mo, .inr (8, [.int (nI 0), .int (nI c), .int (nI r), .long w, .int (nI pl), .int (nI n), .ref aML, .ref aMR, .ref aOW, .int (nI len), .ref aBU, .int sn, .ref aSA, .ref aSZ, .ref aLP, .ref aOP, .ref aFT, .int od, .ref aOL, .ref aRS, .ref aCD, .long pw, .int pb, .int ah, .long hs]))] H := hP
  have hD : va_D AA [(mo, .inr (8, [.int (nI 0), .int (nI c), .int (nI r), .long w, .int (nI pl), .int (nI n), .ref aML, .ref aMR, .ref aOW, .int (nI len), .ref aBU, .int sn, .ref aSA, .ref aSZ, .ref aLP, .ref aOP, .ref aFT, .int od, .ref aOL, .ref aRS, .ref aCD, .long pw, .int pb, .int ah, .long hs]))] := hD
  refine lv_aload_n (pc := 17) hx hb dX9_openSides_17 rfl (lv_at hl 0 rfl) ?_
  refine va_get (pc := 18) (D := D) (ci := 8) (v := .int (nI 0)) (C := RX9) (T := TX9) (N := 25) hx hb hts hinX9 hown hK.1 hP 0 rfl rfl 0 (by decide) (hts (.fieldLink RX9 59 "BoxesGameModel" "thrown" "I") (List.mem_of_getElem? (i := 1) rfl)) (fun _ h9 => h9) rfl dX9_openSides_18 ?_
  refine n_if_le (pc := 21) (tgt := 28) hx hb (by omega) dX9_openSides_21 (by decide) (fun c21 => ?_) (fun c21 => ?_)
  · refine lv_aload_n (pc := 28) hx hb dX9_openSides_28 rfl (lv_at hl 0 rfl) ?_
    refine lv_iload_n (pc := 29) hx hb dX9_openSides_29 rfl (lv_at hl 1 rfl) ?_
    refine lv_aload_n (pc := 30) hx hb dX9_openSides_30 rfl (lv_at hl 0 rfl) ?_
    refine va_get (pc := 31) (D := D) (ci := 8) (v := .long w) (C := RX9) (T := TX9) (N := 25) hx hb hts hinX9 hown hK.1 hP 0 rfl rfl 3 (by decide) (hts (.fieldLink RX9 119 "BoxesGameModel" "now" "J") (List.mem_of_getElem? (i := 2) rfl)) (fun _ h9 => h9) rfl dX9_openSides_31 ?_
    refine ro_go (pc := 34) (va_runV (As := [.int (nI bi), .long w]) (rest := []) ⟨hx, hb, hml, hown, hts⟩ (c_X9_openOf l D Y mo c r ([.int (nI 0), .int (nI c), .int (nI r), .long w, .int (nI pl), .int (nI n), .ref aML, .ref aMR, .ref aOW, .int (nI len), .ref aBU, .int sn, .ref aSA, .ref aSZ, .ref aLP, .ref aOP, .ref aFT, .int od, .ref aOL, .ref aRS, .ref aCD, .long pw, .int pb, .int ah, .long hs]) bi w (by first | assumption | exact ⟨rfl, rfl⟩) (hC) (hb0)) (cwV 2 hts gX9_openSides_X9_openOf rfl rfl rfl ⟨rfl, hdX9_openOf⟩ ⟨Nat.le_of_ble_eq_true rfl, Nat.le_of_ble_eq_true rfl⟩) (ro_pV hK hP (ro_recv hK hP (ci := 8) (q0 := 0) rfl rfl)) rfl rfl hl.1 rfl (lv_room (Nat.le_of_ble_eq_true rfl)) dX9_openSides_34 ⟨Nat.le_of_ble_eq_true rfl, Nat.le_of_ble_eq_true rfl⟩) ?_
    subst hAA
    exact mu_iret hx hb hr hlocks hP hS (⟨_, _⟩) (rfl) (by rw [hcl]; exact RvP.ok (kD1_t c6)) (rfl) dX9_openSides_37
  · exact absurd c21 (by decide)

set_option maxHeartbeats 1200000 in
set_option maxRecDepth 100000 in
theorem c_X9_safeMoves (l : Launch) (D : va_G) (Y : vY) (mo : Nat) (th : Int32) (c : Nat) (r : Nat) (w : Int64) (pl : Nat) (n : Nat) (aML : Nat) (aMR : Nat) (aOW : Nat) (len : Nat) (aBU : Nat) (sn : Int32) (aSA : Nat) (aSZ : Nat) (aLP : Nat) (aOP : Nat) (aFT : Nat) (od : Int32) (aOL : Nat) (aRS : Nat) (aCD : Nat) (pw : Int64) (pb : Int32) (ah : Int32) (hs : Int64) (hC : Cr c r) : Mu l yX9_safeMoves wsX9_safeMoves ({ frames := 7, cells := 0, slots := 0, locals := 165 } : Room) [.ref mo] D Y [(mo, .inr (8, [.int th, .int (nI c), .int (nI r), .long w, .int (nI pl), .int (nI n), .ref aML, .ref aMR, .ref aOW, .int (nI len), .ref aBU, .int sn, .ref aSA, .ref aSZ, .ref aLP, .ref aOP, .ref aFT, .int od, .ref aOL, .ref aRS, .ref aCD, .long pw, .int pb, .int ah, .long hs]))] (fun _ : Unit => some (.int (nI (smv c r w)))) (fun _ : Unit => [(mo, .inr (8, [.int (nI 0), .int (nI c), .int (nI r), .long w, .int (nI pl), .int (nI n), .ref aML, .ref aMR, .ref aOW, .int (nI len), .ref aBU, .int sn, .ref aSA, .ref aSZ, .ref aLP, .ref aOP, .ref aFT, .int od, .ref aOL, .ref aRS, .ref aCD, .long pw, .int pb, .int ah, .long hs]))]) (fun _ : Unit => True) := by
  refine mu_intro (by decide +kernel) rfl (Nat.le_of_ble_eq_true rfl) [(0, .ref mo)] rfl ?_
  intro pG eG sG mG aG bG tG cG ls hx hb hr hml hts hown hlocks hK hP hD hS hl
  generalize hAA : adA [(mo, .inr (8, [.int th, .int (nI c), .int (nI r), .long w, .int (nI pl), .int (nI n), .ref aML, .ref aMR, .ref aOW, .int (nI len), .ref aBU, .int sn, .ref aSA, .ref aSZ, .ref aLP, .ref aOP, .ref aFT, .int od, .ref aOL, .ref aRS, .ref aCD, .long pw, .int pb, .int ah, .long hs]))] = AA at hD hS ⊢
  have hP : va_P D vwCl [(mo, .inr (8, [.int th, .int (nI c), .int (nI r), .long w, .int (nI pl), .int (nI n), .ref aML, .ref aMR, .ref aOW, .int (nI len), .ref aBU, .int sn, .ref aSA, .ref aSZ, .ref aLP, .ref aOP, .ref aFT, .int od, .ref aOL, .ref aRS, .ref aCD, .long pw, .int pb, .int ah, .long hs]))] sG.heap := hP
  have hD : va_D AA [(mo, .inr (8, [.int th, .int (nI c), .int (nI r), .long w, .int (nI pl), .int (nI n), .ref aML, .ref aMR, .ref aOW, .int (nI len), .ref aBU, .int sn, .ref aSA, .ref aSZ, .ref aLP, .ref aOP, .ref aFT, .int od, .ref aOL, .ref aRS, .ref aCD, .long pw, .int pb, .int ah, .long hs]))] := hD
  have hown : sG.vm.findClass RX9 = some mG.cls := hown
  have hl : lv_has ls 5 [(0, .ref mo)] := hl
  have hinX9 : ∀ w ∈ u_ws RX9 TX9 25, w ∈ wsX9_safeMoves := by decide +kernel
  have hS : va_S AA sG.heap sG.heap [] := hS
  obtain ⟨hq1, hq2, hq3, hq4, hq5, hq6, hq7, hq8, hq9, hq10, hq11⟩ := hC.q
  refine lv_aload_n (pc := 0) hx hb dX9_safeMoves_0 rfl (lv_at hl 0 rfl) ?_
  refine lv_iconst (pc := 1) (v := nI 0) hx hb dX9_safeMoves_1 rfl ?_
  refine va_put (pc := 2) (D := D) (ci := 8) (v := .int (nI 0)) (ty := .int) (C := RX9) (T := TX9) (N := 25) hx hb hts hinX9 tyX9 tyX9_ok nmX9 hown hK.1 hP hD hS 0 rfl rfl 0 (by decide) (hts (.fieldLink RX9 59 "BoxesGameModel" "thrown" "I") (List.mem_of_getElem? (i := 1) rfl)) (fun _ h9 => h9) rfl (by decide +kernel) (rfl) (rfl) (Nat.le_of_ble_eq_true rfl) dX9_safeMoves_2 (fun H locs hP hD hS => ?_)
  have hP : va_P D vwCl [(mo, .inr (8, [.int (nI 0), .int (nI c), .int (nI r), .long w, .int (nI pl), .int (nI n), .ref aML, .ref aMR, .ref aOW, .int (nI len), .ref aBU, .int sn, .ref aSA, .ref aSZ, .ref aLP, .ref aOP, .ref aFT, .int od, .ref aOL, .ref aRS, .ref aCD, .long pw, .int pb, .int ah, .long hs]))] H := hP
  have hD : va_D AA [(mo, .inr (8, [.int (nI 0), .int (nI c), .int (nI r), .long w, .int (nI pl), .int (nI n), .ref aML, .ref aMR, .ref aOW, .int (nI len), .ref aBU, .int sn, .ref aSA, .ref aSZ, .ref aLP, .ref aOP, .ref aFT, .int od, .ref aOL, .ref aRS, .ref aCD, .long pw, .int pb, .int ah, .long hs]))] := hD
  refine lv_aload_n (pc := 5) hx hb dX9_safeMoves_5 rfl (lv_at hl 0 rfl) ?_
  refine va_get (pc := 6) (D := D) (ci := 8) (v := .long w) (C := RX9) (T := TX9) (N := 25) hx hb hts hinX9 hown hK.1 hP 0 rfl rfl 3 (by decide) (hts (.fieldLink RX9 119 "BoxesGameModel" "now" "J") (List.mem_of_getElem? (i := 2) rfl)) (fun _ h9 => h9) rfl dX9_safeMoves_6 ?_
  refine lv_lstore_n (pc := 9) (lv' := [(1, .long w), (0, .ref mo)]) hx hb dX9_safeMoves_9 rfl hl (by decide) rfl (fun ls hl => ?_)
  refine lv_iconst (pc := 10) (v := nI 0) hx hb dX9_safeMoves_10 rfl ?_
  refine lv_istore_n (pc := 11) (lv' := [(3, .int (nI 0)), (1, .long w), (0, .ref mo)]) hx hb dX9_safeMoves_11 rfl hl (by decide) rfl (fun ls hl => ?_)
  refine lv_aload_n (pc := 12) hx hb dX9_safeMoves_12 rfl (lv_at hl 2 rfl) ?_
  refine lv_iconst (pc := 13) (v := nI 2) hx hb dX9_safeMoves_13 rfl ?_
  refine lv_lload_n (pc := 14) hx hb dX9_safeMoves_14 rfl (lv_at hl 1 rfl) ?_
  refine ro_go (pc := 15) (va_runV (As := [.int (nI 2), .long w]) (rest := []) ⟨hx, hb, hml, hown, hts⟩ (c_X9_firstOf l D Y mo c r ([.int (nI 0), .int (nI c), .int (nI r), .long w, .int (nI pl), .int (nI n), .ref aML, .ref aMR, .ref aOW, .int (nI len), .ref aBU, .int sn, .ref aSA, .ref aSZ, .ref aLP, .ref aOP, .ref aFT, .int od, .ref aOL, .ref aRS, .ref aCD, .long pw, .int pb, .int ah, .long hs]) 2 w (by first | assumption | exact ⟨rfl, rfl⟩) (hC) (by decide)) (cwV 2 hts gX9_safeMoves_X9_firstOf rfl rfl rfl ⟨rfl, hdX9_firstOf⟩ ⟨Nat.le_of_ble_eq_true rfl, Nat.le_of_ble_eq_true rfl⟩) (ro_pV hK hP (ro_recv hK hP (ci := 8) (q0 := 0) rfl rfl)) rfl rfl hl.1 rfl (lv_room (Nat.le_of_ble_eq_true rfl)) dX9_safeMoves_15 ⟨Nat.le_of_ble_eq_true rfl, Nat.le_of_ble_eq_true rfl⟩) ?_
  refine lv_topi (fun x15 ex15 => ?_)
  refine lv_istore (pc := 18) (lv' := [(4, .int x15), (3, .int (nI 0)), (1, .long w), (0, .ref mo)]) hx hb dX9_safeMoves_18 hl (by decide) rfl (fun ls hl => ?_)
  have L20 : ∀ (n20 : Nat), ∀ (f : Nat) (u : Int64) (n9 : Nat) (x : Int32), (x = oI (fstk c r u 2)) → (und c r u < f) → (n9 + smF c r f u = smv c r w) → f < n20 → ∀ (H : Heap) (locs : List Loc), va_P D vwCl [(mo, .inr (8, [.int (nI 0), .int (nI c), .int (nI r), .long w, .int (nI pl), .int (nI n), .ref aML, .ref aMR, .ref aOW, .int (nI len), .ref aBU, .int sn, .ref aSA, .ref aSZ, .ref aLP, .ref aOP, .ref aFT, .int od, .ref aOL, .ref aRS, .ref aCD, .long pw, .int pb, .int ah, .long hs]))] H → va_D AA [(mo, .inr (8, [.int (nI 0), .int (nI c), .int (nI r), .long w, .int (nI pl), .int (nI n), .ref aML, .ref aMR, .ref aOW, .int (nI len), .ref aBU, .int sn, .ref aSA, .ref aSZ, .ref aLP, .ref aOP, .ref aFT, .int od, .ref aOL, .ref aRS, .ref aCD, .long pw, .int pb, .int ah, .long hs]))] → va_S AA sG.heap H locs → ∀ (ls : Array Slot), lv_has ls 5 [(0, .ref mo), (1, .long u), (3, .int (nI n9)), (4, .int x)] → W pG l eG ({ frames := 7, cells := 0, slots := 0, locals := 165 } : Room) sG mG aG bG tG cG H locs 0 0 (MQ bG (MuQ D [(mo, .inr (8, [.int th, .int (nI c), .int (nI r), .long w, .int (nI pl), .int (nI n), .ref aML, .ref aMR, .ref aOW, .int (nI len), .ref aBU, .int sn, .ref aSA, .ref aSZ, .ref aLP, .ref aOP, .ref aFT, .int od, .ref aOL, .ref aRS, .ref aCD, .long pw, .int pb, .int ah, .long hs]))] (fun _ : Unit => some (.int (nI (smv c r w)))) (fun _ : Unit => [(mo, .inr (8, [.int (nI 0), .int (nI c), .int (nI r), .long w, .int (nI pl), .int (nI n), .ref aML, .ref aMR, .ref aOW, .int (nI len), .ref aBU, .int sn, .ref aSA, .ref aSZ, .ref aLP, .ref aOP, .ref aFT, .int od, .ref aOL, .ref aRS, .ref aCD, .long pw, .int pb, .int ah, .long hs]))]) (fun _ : Unit => True)) aG sG 0 0 AA) (F0 mG 20 ls []) := by
    intro n20
    induction n20 with
    | zero =>
      intro f u n9 x hxx hu hsm hmeas20 H locs hP hD hS ls hl
      exact absurd hmeas20 (Nat.not_lt_zero _)
    | succ n20 ih20 =>
      intro f u n9 x hxx hu hsm hmeas20 H locs hP hD hS ls hl
      refine lv_iload (pc := 20) hx hb dX9_safeMoves_20 (lv_at hl 3 rfl) ?_
      refine lv_iconst (pc := 22) (v := (-1)) hx hb dX9_safeMoves_22 (by decide) ?_
      refine lv_icmp_eq (pc := 23) (tgt := 47) hx hb dX9_safeMoves_23 (by decide) (fun c23 => ?_) (fun c23 => ?_)
      · have hbn := oI_none hxx c23 (fun b h => fstk_lt hC h)
        refine lv_iload_n (pc := 47) hx hb dX9_safeMoves_47 rfl (lv_at hl 2 rfl) ?_
        subst hAA
        exact mu_iret hx hb hr hlocks hP hS (()) (by rw [← hsm, sm_none hbn, Nat.add_zero]) (trivial) (rfl) dX9_safeMoves_48
      obtain ⟨bb, hbb, rfl⟩ := oI_some hxx c23
      obtain ⟨hbl, htb⟩ := fstk_is hbb (by decide)
      have hl : lv_has ls 5 [(0, .ref mo), (1, .long u), (3, .int (nI n9)), (4, .int (nI bb))] := hl
      refine lv_lload_n (pc := 26) hx hb dX9_safeMoves_26 rfl (lv_at hl 1 rfl) ?_
      refine lv_lconst (pc := 27) (v := 1) hx hb dX9_safeMoves_27 (by decide) ?_
      refine lv_iload (pc := 28) hx hb dX9_safeMoves_28 (lv_at hl 3 rfl) ?_
      refine lv_lshl (pc := 30) (v := b1 bb) hx hb dX9_safeMoves_30 (b1_shl bb (by omega)) ?_
      refine lv_lor (pc := 31) hx hb dX9_safeMoves_31 ?_
      refine lv_lstore_n (pc := 32) (lv' := [(1, .long (u ||| (b1 bb))), (0, .ref mo), (3, .int (nI n9)), (4, .int (nI bb))]) hx hb dX9_safeMoves_32 rfl hl (by decide) rfl (fun ls hl => ?_)
      refine lv_iinc (pc := 33) (v := nI (n9 + 1)) (lv' := [(3, .int (nI (n9 + 1))), (1, .long (u ||| (b1 bb))), (0, .ref mo), (4, .int (nI bb))]) hx hb dX9_safeMoves_33 hl (k := 2) rfl (n_inc n9 1) (by decide) rfl (fun ls hl => ?_)
      refine lv_aload_n (pc := 36) hx hb dX9_safeMoves_36 rfl (lv_at hl 2 rfl) ?_
      refine lv_iconst (pc := 37) (v := nI 2) hx hb dX9_safeMoves_37 rfl ?_
      refine lv_lload_n (pc := 38) hx hb dX9_safeMoves_38 rfl (lv_at hl 1 rfl) ?_
      refine ro_go (pc := 39) (va_runV (As := [.int (nI 2), .long (u ||| (b1 bb))]) (rest := []) ⟨hx, hb, hml, hown, hts⟩ (c_X9_firstOf l D Y mo c r ([.int (nI 0), .int (nI c), .int (nI r), .long w, .int (nI pl), .int (nI n), .ref aML, .ref aMR, .ref aOW, .int (nI len), .ref aBU, .int sn, .ref aSA, .ref aSZ, .ref aLP, .ref aOP, .ref aFT, .int od, .ref aOL, .ref aRS, .ref aCD, .long pw, .int pb, .int ah, .long hs]) 2 (u ||| (b1 bb)) (by first | assumption | exact ⟨rfl, rfl⟩) (hC) (by decide)) (cwV 2 hts gX9_safeMoves_X9_firstOf rfl rfl rfl ⟨rfl, hdX9_firstOf⟩ ⟨Nat.le_of_ble_eq_true rfl, Nat.le_of_ble_eq_true rfl⟩) (ro_pV hK hP (ro_recv hK hP (ci := 8) (q0 := 0) rfl rfl)) rfl rfl hl.1 rfl (lv_room (Nat.le_of_ble_eq_true rfl)) dX9_safeMoves_39 ⟨Nat.le_of_ble_eq_true rfl, Nat.le_of_ble_eq_true rfl⟩) ?_
      refine lv_topi (fun x39 ex39 => ?_)
      refine lv_istore (pc := 42) (lv' := [(4, .int x39), (3, .int (nI (n9 + 1))), (1, .long (u ||| (b1 bb))), (0, .ref mo)]) hx hb dX9_safeMoves_42 hl (by decide) rfl (fun ls hl => ?_)
      refine lv_goto (pc := 44) (tgt := 20) hx hb dX9_safeMoves_44 (by decide) ?_
      exact ih20 (f - 1) (u ||| (b1 bb)) (n9 + 1) x39 (ex39) (by have := und_step hC hbl htb; omega) (by rw [← hsm, sm_some (by omega) hbb, Nat.add_assoc]) (by omega) _ _ hP hD hS _ (lv_sub hl [3, 2, 1, 0] rfl)
  exact L20 (41 + 1) 41 w 0 x15 (ex15) (by have := und_le c r w; omega) (by rw [Nat.zero_add]; rfl) (Nat.lt_succ_self _) _ _ hP hD hS _ (lv_sub hl [3, 2, 1, 0] rfl)

set_option maxHeartbeats 1200000 in
set_option maxRecDepth 100000 in
theorem c_X9_stringOf (l : Launch) (D : va_G) (Y : vY) (mo : Nat) (th : Int32) (c : Nat) (r : Nat) (w : Int64) (pl : Nat) (n : Nat) (aML : Nat) (aMR : Nat) (aOW : Nat) (len : Nat) (aBU : Nat) (sn : Int32) (aSA : Nat) (aSZ : Nat) (aLP : Nat) (aOP : Nat) (aFT : Nat) (od : Int32) (aOL : Nat) (aRS : Nat) (aCD : Nat) (pw : Int64) (pb : Int32) (ah : Int32) (hs : Int64) (sa : Nat → Int32) (sz : Nat → Int32) (lp : Nat → Int32) (op : Nat → Int32) (x : Int32) (hC : Cr c r) : Mu l yX9_stringOf wsX9_stringOf ({ frames := 8, cells := 0, slots := 0, locals := 185 } : Room) [.ref mo, .int x] D Y [(mo, .inr (8, [.int th, .int (nI c), .int (nI r), .long w, .int (nI pl), .int (nI n), .ref aML, .ref aMR, .ref aOW, .int (nI len), .ref aBU, .int sn, .ref aSA, .ref aSZ, .ref aLP, .ref aOP, .ref aFT, .int od, .ref aOL, .ref aRS, .ref aCD, .long pw, .int pb, .int ah, .long hs])), (aSA, .inl (Y.1, 16, .inl sa)), (aSZ, .inl (Y.1, 16, .inl sz)), (aLP, .inl (Y.2.2.1, 16, .inl lp)), (aOP, .inl (Y.2.2.1, 16, .inl op))] (fun uS : Int32 × Int32 × Int32 × (Nat → Int32) × (Nat → Int32) × (Nat → Int32) × (Nat → Int32) => some (.int uS.2.1)) (fun uS : Int32 × Int32 × Int32 × (Nat → Int32) × (Nat → Int32) × (Nat → Int32) × (Nat → Int32) => [(mo, .inr (8, [.int uS.1, .int (nI c), .int (nI r), .long w, .int (nI pl), .int (nI n), .ref aML, .ref aMR, .ref aOW, .int (nI len), .ref aBU, .int uS.2.2.1, .ref aSA, .ref aSZ, .ref aLP, .ref aOP, .ref aFT, .int od, .ref aOL, .ref aRS, .ref aCD, .long pw, .int pb, .int ah, .long hs])), (aSA, .inl (Y.1, 16, .inl uS.2.2.2.1)), (aSZ, .inl (Y.1, 16, .inl uS.2.2.2.2.1)), (aLP, .inl (Y.2.2.1, 16, .inl uS.2.2.2.2.2.1)), (aOP, .inl (Y.2.2.1, 16, .inl uS.2.2.2.2.2.2))]) (fun uS : Int32 × Int32 × Int32 × (Nat → Int32) × (Nat → Int32) × (Nat → Int32) × (Nat → Int32) => RvP (kD1 (wi x (nI 0) (nI (c * r - 1)))) uS.1 uS.2.1 (oI (labO c r w x.toNatClampNeg))) := by
  refine mu_intro (by decide +kernel) rfl (Nat.le_of_ble_eq_true rfl) [(0, .ref mo), (1, .int x)] rfl ?_
  intro pG eG sG mG aG bG tG cG ls hx hb hr hml hts hown hlocks hK hP hD hS hl
  generalize hAA : adA [(mo, .inr (8, [.int th, .int (nI c), .int (nI r), .long w, .int (nI pl), .int (nI n), .ref aML, .ref aMR, .ref aOW, .int (nI len), .ref aBU, .int sn, .ref aSA, .ref aSZ, .ref aLP, .ref aOP, .ref aFT, .int od, .ref aOL, .ref aRS, .ref aCD, .long pw, .int pb, .int ah, .long hs])), (aSA, .inl (Y.1, 16, .inl sa)), (aSZ, .inl (Y.1, 16, .inl sz)), (aLP, .inl (Y.2.2.1, 16, .inl lp)), (aOP, .inl (Y.2.2.1, 16, .inl op))] = AA at hD hS ⊢
  have hP : va_P D vwCl [(mo, .inr (8, [.int th, .int (nI c), .int (nI r), .long w, .int (nI pl), .int (nI n), .ref aML, .ref aMR, .ref aOW, .int (nI len), .ref aBU, .int sn, .ref aSA, .ref aSZ, .ref aLP, .ref aOP, .ref aFT, .int od, .ref aOL, .ref aRS, .ref aCD, .long pw, .int pb, .int ah, .long hs])), (aSA, .inl (Y.1, 16, .inl sa)), (aSZ, .inl (Y.1, 16, .inl sz)), (aLP, .inl (Y.2.2.1, 16, .inl lp)), (aOP, .inl (Y.2.2.1, 16, .inl op))] sG.heap := hP
  have hD : va_D AA [(mo, .inr (8, [.int th, .int (nI c), .int (nI r), .long w, .int (nI pl), .int (nI n), .ref aML, .ref aMR, .ref aOW, .int (nI len), .ref aBU, .int sn, .ref aSA, .ref aSZ, .ref aLP, .ref aOP, .ref aFT, .int od, .ref aOL, .ref aRS, .ref aCD, .long pw, .int pb, .int ah, .long hs])), (aSA, .inl (Y.1, 16, .inl sa)), (aSZ, .inl (Y.1, 16, .inl sz)), (aLP, .inl (Y.2.2.1, 16, .inl lp)), (aOP, .inl (Y.2.2.1, 16, .inl op))] := hD
  have hown : sG.vm.findClass RX9 = some mG.cls := hown
  have hl : lv_has ls 2 [(0, .ref mo), (1, .int x)] := hl
  have hinX9 : ∀ w ∈ u_ws RX9 TX9 25, w ∈ wsX9_stringOf := by decide +kernel
  have hS : va_S AA sG.heap sG.heap [] := hS
  obtain ⟨hq1, hq2, hq3, hq4, hq5, hq6, hq7, hq8, hq9, hq10, hq11⟩ := hC.q
  refine lv_aload_n (pc := 0) hx hb dX9_stringOf_0 rfl (lv_at hl 0 rfl) ?_
  refine lv_aload_n (pc := 1) hx hb dX9_stringOf_1 rfl (lv_at hl 0 rfl) ?_
  refine lv_iload_n (pc := 2) hx hb dX9_stringOf_2 rfl (lv_at hl 1 rfl) ?_
  refine ro_go (pc := 3) (va_runV (As := [.int x]) (rest := [.ref mo]) ⟨hx, hb, hml, hown, hts⟩ (c_X9_isBox l D Y mo c r ([.int th, .int (nI c), .int (nI r), .long w, .int (nI pl), .int (nI n), .ref aML, .ref aMR, .ref aOW, .int (nI len), .ref aBU, .int sn, .ref aSA, .ref aSZ, .ref aLP, .ref aOP, .ref aFT, .int od, .ref aOL, .ref aRS, .ref aCD, .long pw, .int pb, .int ah, .long hs]) x (by first | assumption | exact ⟨rfl, rfl⟩) (hC)) (cwV 1 hts gX9_stringOf_X9_isBox rfl rfl rfl ⟨rfl, hdX9_isBox⟩ ⟨Nat.le_of_ble_eq_true rfl, Nat.le_of_ble_eq_true rfl⟩) (ro_pV hK (hP.sub [0] rfl) (ro_recv hK hP (ci := 8) (q0 := 0) rfl rfl)) rfl rfl hl.1 rfl (lv_room (Nat.le_of_ble_eq_true rfl)) dX9_stringOf_3 ⟨Nat.le_of_ble_eq_true rfl, Nat.le_of_ble_eq_true rfl⟩) ?_
  refine z_if_eq (pc := 6) (tgt := 13) hx hb dX9_stringOf_6 (by decide) (fun c6 => ?_) (fun c6 => ?_)
  · refine lv_iconst (pc := 13) (v := nI 1) hx hb dX9_stringOf_13 rfl ?_
    refine va_put (pc := 14) (D := D) (ci := 8) (v := .int (nI 1)) (ty := .int) (C := RX9) (T := TX9) (N := 25) hx hb hts hinX9 tyX9 tyX9_ok nmX9 hown hK.1 hP hD hS 0 rfl rfl 0 (by decide) (hts (.fieldLink RX9 59 "BoxesGameModel" "thrown" "I") (List.mem_of_getElem? (i := 1) rfl)) (fun _ h9 => h9) rfl (by decide +kernel) (rfl) (rfl) (Nat.le_of_ble_eq_true rfl) dX9_stringOf_14 (fun H locs hP hD hS => ?_)
    have hP : va_P D vwCl [(mo, .inr (8, [.int (nI 1), .int (nI c), .int (nI r), .long w, .int (nI pl), .int (nI n), .ref aML, .ref aMR, .ref aOW, .int (nI len), .ref aBU, .int sn, .ref aSA, .ref aSZ, .ref aLP, .ref aOP, .ref aFT, .int od, .ref aOL, .ref aRS, .ref aCD, .long pw, .int pb, .int ah, .long hs])), (aSA, .inl (Y.1, 16, .inl sa)), (aSZ, .inl (Y.1, 16, .inl sz)), (aLP, .inl (Y.2.2.1, 16, .inl lp)), (aOP, .inl (Y.2.2.1, 16, .inl op))] H := hP
    have hD : va_D AA [(mo, .inr (8, [.int (nI 1), .int (nI c), .int (nI r), .long w, .int (nI pl), .int (nI n), .ref aML, .ref aMR, .ref aOW, .int (nI len), .ref aBU, .int sn, .ref aSA, .ref aSZ, .ref aLP, .ref aOP, .ref aFT, .int od, .ref aOL, .ref aRS, .ref aCD, .long pw, .int pb, .int ah, .long hs])), (aSA, .inl (Y.1, 16, .inl sa)), (aSZ, .inl (Y.1, 16, .inl sz)), (aLP, .inl (Y.2.2.1, 16, .inl lp)), (aOP, .inl (Y.2.2.1, 16, .inl op))] := hD
    refine lv_aload_n (pc := 17) hx hb dX9_stringOf_17 rfl (lv_at hl 0 rfl) ?_
    refine mu_go (pc := 18) (va_runV (As := []) (rest := []) ⟨hx, hb, hml, hown, hts⟩ (c_X9_layStrings l D Y mo (nI 1) c r w pl n aML aMR aOW len aBU aSA aSZ aLP aOP aFT od aOL aRS aCD pw pb ah hs sn sa sz lp op (hC)) (cwV 0 hts gX9_stringOf_X9_layStrings rfl rfl rfl ⟨rfl, hdX9_layStrings⟩ ⟨Nat.le_of_ble_eq_true rfl, Nat.le_of_ble_eq_true rfl⟩) (mu_pV hK hP hD (ro_recv hK hP (ci := 8) (q0 := 0) rfl rfl)) rfl rfl hl.1 rfl (lv_room (Nat.le_of_ble_eq_true rfl)) dX9_stringOf_18 ⟨Nat.le_of_ble_eq_true rfl, Nat.le_of_ble_eq_true rfl⟩) hP hD hS [0, 1, 2, 3, 4] rfl (by decide) (fun uS => [(mo, .inr (8, [.int (nI 1), .int (nI c), .int (nI r), .long w, .int (nI pl), .int (nI n), .ref aML, .ref aMR, .ref aOW, .int (nI len), .ref aBU, .int (nI (nst c r w)), .ref aSA, .ref aSZ, .ref aLP, .ref aOP, .ref aFT, .int od, .ref aOL, .ref aRS, .ref aCD, .long pw, .int pb, .int ah, .long hs])), (aSA, .inl (Y.1, 16, .inl uS.1)), (aSZ, .inl (Y.1, 16, .inl uS.2.1)), (aLP, .inl (Y.2.2.1, 16, .inl uS.2.2.1)), (aOP, .inl (Y.2.2.1, 16, .inl uS.2.2.2))]) (fun _ => rfl) (fun _ => rfl) (fun uS H locs hpost hP hD hS => ?_)
    obtain ⟨sa2_18, sz2_18, lp2_18, op2_18⟩ := uS
    try dsimp only at hpost
    refine top_i (show _ = nI (nst c r w) from rfl) ?_
    have hP : va_P D vwCl [(mo, .inr (8, [.int (nI 1), .int (nI c), .int (nI r), .long w, .int (nI pl), .int (nI n), .ref aML, .ref aMR, .ref aOW, .int (nI len), .ref aBU, .int (nI (nst c r w)), .ref aSA, .ref aSZ, .ref aLP, .ref aOP, .ref aFT, .int od, .ref aOL, .ref aRS, .ref aCD, .long pw, .int pb, .int ah, .long hs])), (aSA, .inl (Y.1, 16, .inl sa2_18)), (aSZ, .inl (Y.1, 16, .inl sz2_18)), (aLP, .inl (Y.2.2.1, 16, .inl lp2_18)), (aOP, .inl (Y.2.2.1, 16, .inl op2_18))] H := hP
    have hD : va_D AA [(mo, .inr (8, [.int (nI 1), .int (nI c), .int (nI r), .long w, .int (nI pl), .int (nI n), .ref aML, .ref aMR, .ref aOW, .int (nI len), .ref aBU, .int (nI (nst c r w)), .ref aSA, .ref aSZ, .ref aLP, .ref aOP, .ref aFT, .int od, .ref aOL, .ref aRS, .ref aCD, .long pw, .int pb, .int ah, .long hs])), (aSA, .inl (Y.1, 16, .inl sa2_18)), (aSZ, .inl (Y.1, 16, .inl sz2_18)), (aLP, .inl (Y.2.2.1, 16, .inl lp2_18)), (aOP, .inl (Y.2.2.1, 16, .inl op2_18))] := hD
    refine lv_pop (pc := 21) hx hb dX9_stringOf_21 rfl ?_
    refine lv_aload_n (pc := 22) hx hb dX9_stringOf_22 rfl (lv_at hl 0 rfl) ?_
    refine va_get (pc := 23) (D := D) (ci := 8) (v := .int (nI 1)) (C := RX9) (T := TX9) (N := 25) hx hb hts hinX9 hown hK.1 hP 0 rfl rfl 0 (by decide) (hts (.fieldLink RX9 59 "BoxesGameModel" "thrown" "I") (List.mem_of_getElem? (i := 1) rfl)) (fun _ h9 => h9) rfl dX9_stringOf_23 ?_
    refine top_i (show (nI 1) = nI 1 from rfl) ?_
    refine n_if_le (pc := 26) (tgt := 33) hx hb (by omega) dX9_stringOf_26 (by decide) (fun c26 => ?_) (fun c26 => ?_)
    · exact absurd c26 (by decide)
    refine lv_iconst (pc := 29) (v := nI 0) hx hb dX9_stringOf_29 rfl ?_
    refine lv_goto (pc := 30) (tgt := 39) hx hb dX9_stringOf_30 (by decide) ?_
    subst hAA
    exact mu_iret hx hb hr hlocks hP hS (⟨_, _, _, _, _, _, _⟩) (rfl) (RvP.no (kD1_f c6) (by decide)) (rfl) dX9_stringOf_39
  obtain ⟨bi, hbi, rfl⟩ := wi_of (by omega) c6
  have hb0 : bi < c * r := by omega
  have hcl : (nI bi).toNatClampNeg = bi := nI_clamp (by omega)
  have hl : lv_has ls 2 [(0, .ref mo), (1, .int (nI bi))] := hl
  refine lv_iconst (pc := 9) (v := nI 0) hx hb dX9_stringOf_9 rfl ?_
  refine lv_goto (pc := 10) (tgt := 14) hx hb dX9_stringOf_10 (by decide) ?_
  refine va_put (pc := 14) (D := D) (ci := 8) (v := .int (nI 0)) (ty := .int) (C := RX9) (T := TX9) (N := 25) hx hb hts hinX9 tyX9 tyX9_ok nmX9 hown hK.1 hP hD hS 0 rfl rfl 0 (by decide) (hts (.fieldLink RX9 59 "BoxesGameModel" "thrown" "I") (List.mem_of_getElem? (i := 1) rfl)) (fun _ h9 => h9) rfl (by decide +kernel) (rfl) (rfl) (Nat.le_of_ble_eq_true rfl) dX9_stringOf_14 (fun H locs hP hD hS => ?_)
  have hP : va_P D vwCl [(mo, .inr (8, [.int (nI 0), .int (nI c), .int (nI r), .long w, .int (nI pl), .int (nI n), .ref aML, .ref aMR, .ref aOW, .int (nI len), .ref aBU, .int sn, .ref aSA, .ref aSZ, .ref aLP, .ref aOP, .ref aFT, .int od, .ref aOL, .ref aRS, .ref aCD, .long pw, .int pb, .int ah, .long hs])), (aSA, .inl (Y.1, 16, .inl sa)), (aSZ, .inl (Y.1, 16, .inl sz)), (aLP, .inl (Y.2.2.1, 16, .inl lp)), (aOP, .inl (Y.2.2.1, 16, .inl op))] H := hP
  have hD : va_D AA [(mo, .inr (8, [.int (nI 0), .int (nI c), .int (nI r), .long w, .int (nI pl), .int (nI n), .ref aML, .ref aMR, .ref aOW, .int (nI len), .ref aBU, .int sn, .ref aSA, .ref aSZ, .ref aLP, .ref aOP, .ref aFT, .int od, .ref aOL, .ref aRS, .ref aCD, .long pw, .int pb, .int ah, .long hs])), (aSA, .inl (Y.1, 16, .inl sa)), (aSZ, .inl (Y.1, 16, .inl sz)), (aLP, .inl (Y.2.2.1, 16, .inl lp)), (aOP, .inl (Y.2.2.1, 16, .inl op))] := hD
  refine lv_aload_n (pc := 17) hx hb dX9_stringOf_17 rfl (lv_at hl 0 rfl) ?_
  refine mu_go (pc := 18) (va_runV (As := []) (rest := []) ⟨hx, hb, hml, hown, hts⟩ (c_X9_layStrings l D Y mo (nI 0) c r w pl n aML aMR aOW len aBU aSA aSZ aLP aOP aFT od aOL aRS aCD pw pb ah hs sn sa sz lp op (hC)) (cwV 0 hts gX9_stringOf_X9_layStrings rfl rfl rfl ⟨rfl, hdX9_layStrings⟩ ⟨Nat.le_of_ble_eq_true rfl, Nat.le_of_ble_eq_true rfl⟩) (mu_pV hK hP hD (ro_recv hK hP (ci := 8) (q0 := 0) rfl rfl)) rfl rfl hl.1 rfl (lv_room (Nat.le_of_ble_eq_true rfl)) dX9_stringOf_18 ⟨Nat.le_of_ble_eq_true rfl, Nat.le_of_ble_eq_true rfl⟩) hP hD hS [0, 1, 2, 3, 4] rfl (by decide) (fun uS => [(mo, .inr (8, [.int (nI 0), .int (nI c), .int (nI r), .long w, .int (nI pl), .int (nI n), .ref aML, .ref aMR, .ref aOW, .int (nI len), .ref aBU, .int (nI (nst c r w)), .ref aSA, .ref aSZ, .ref aLP, .ref aOP, .ref aFT, .int od, .ref aOL, .ref aRS, .ref aCD, .long pw, .int pb, .int ah, .long hs])), (aSA, .inl (Y.1, 16, .inl uS.1)), (aSZ, .inl (Y.1, 16, .inl uS.2.1)), (aLP, .inl (Y.2.2.1, 16, .inl uS.2.2.1)), (aOP, .inl (Y.2.2.1, 16, .inl uS.2.2.2))]) (fun _ => rfl) (fun _ => rfl) (fun uS H locs hpost hP hD hS => ?_)
  obtain ⟨sa2_18, sz2_18, lp2_18, op2_18⟩ := uS
  try dsimp only at hpost
  refine top_i (show _ = nI (nst c r w) from rfl) ?_
  have hP : va_P D vwCl [(mo, .inr (8, [.int (nI 0), .int (nI c), .int (nI r), .long w, .int (nI pl), .int (nI n), .ref aML, .ref aMR, .ref aOW, .int (nI len), .ref aBU, .int (nI (nst c r w)), .ref aSA, .ref aSZ, .ref aLP, .ref aOP, .ref aFT, .int od, .ref aOL, .ref aRS, .ref aCD, .long pw, .int pb, .int ah, .long hs])), (aSA, .inl (Y.1, 16, .inl sa2_18)), (aSZ, .inl (Y.1, 16, .inl sz2_18)), (aLP, .inl (Y.2.2.1, 16, .inl lp2_18)), (aOP, .inl (Y.2.2.1, 16, .inl op2_18))] H := hP
  have hD : va_D AA [(mo, .inr (8, [.int (nI 0), .int (nI c), .int (nI r), .long w, .int (nI pl), .int (nI n), .ref aML, .ref aMR, .ref aOW, .int (nI len), .ref aBU, .int (nI (nst c r w)), .ref aSA, .ref aSZ, .ref aLP, .ref aOP, .ref aFT, .int od, .ref aOL, .ref aRS, .ref aCD, .long pw, .int pb, .int ah, .long hs])), (aSA, .inl (Y.1, 16, .inl sa2_18)), (aSZ, .inl (Y.1, 16, .inl sz2_18)), (aLP, .inl (Y.2.2.1, 16, .inl lp2_18)), (aOP, .inl (Y.2.2.1, 16, .inl op2_18))] := hD
  refine lv_pop (pc := 21) hx hb dX9_stringOf_21 rfl ?_
  refine lv_aload_n (pc := 22) hx hb dX9_stringOf_22 rfl (lv_at hl 0 rfl) ?_
  refine va_get (pc := 23) (D := D) (ci := 8) (v := .int (nI 0)) (C := RX9) (T := TX9) (N := 25) hx hb hts hinX9 hown hK.1 hP 0 rfl rfl 0 (by decide) (hts (.fieldLink RX9 59 "BoxesGameModel" "thrown" "I") (List.mem_of_getElem? (i := 1) rfl)) (fun _ h9 => h9) rfl dX9_stringOf_23 ?_
  refine top_i (show (nI 0) = nI 0 from rfl) ?_
  refine n_if_le (pc := 26) (tgt := 33) hx hb (by omega) dX9_stringOf_26 (by decide) (fun c26 => ?_) (fun c26 => ?_)
  · refine lv_aload_n (pc := 33) hx hb dX9_stringOf_33 rfl (lv_at hl 0 rfl) ?_
    refine va_get (pc := 34) (D := D) (ci := 8) (v := .ref aSA) (C := RX9) (T := TX9) (N := 25) hx hb hts hinX9 hown hK.1 hP 0 rfl rfl 12 (by decide) (hts (.fieldLink RX9 29 "BoxesGameModel" "stringAt" "[I") (List.mem_of_getElem? (i := 2) rfl)) (fun _ h9 => h9) rfl dX9_stringOf_34 ?_
    refine lv_iload_n (pc := 37) hx hb dX9_stringOf_37 rfl (lv_at hl 1 rfl) ?_
    refine va_iald (pc := 38) hx hb hK.1 hP 1 0 rfl rfl (vp_in_nI (by omega) (by decide)) dX9_stringOf_38 ?_
    refine top_i (show sa2_18 (nI bi).toNatClampNeg = sa2_18 bi from by rw [nI_clamp (by omega)]) ?_
    refine top_i (show sa2_18 bi = oI (labO c r w bi) from hpost.1.lab hb0) ?_
    subst hAA
    exact mu_iret hx hb hr hlocks hP hS (⟨_, _, _, _, _, _, _⟩) (rfl) (by rw [hcl]; exact RvP.ok (kD1_t c6)) (rfl) dX9_stringOf_39
  · exact absurd c26 (by decide)

set_option maxHeartbeats 1200000 in
set_option maxRecDepth 100000 in
theorem c_X9_string (l : Launch) (D : va_G) (Y : vY) (mo : Nat) (th : Int32) (c : Nat) (r : Nat) (w : Int64) (pl : Nat) (n : Nat) (aML : Nat) (aMR : Nat) (aOW : Nat) (len : Nat) (aBU : Nat) (sn : Int32) (aSA : Nat) (aSZ : Nat) (aLP : Nat) (aOP : Nat) (aFT : Nat) (od : Int32) (aOL : Nat) (aRS : Nat) (aCD : Nat) (pw : Int64) (pb : Int32) (ah : Int32) (hs : Int64) (sa : Nat → Int32) (sz : Nat → Int32) (lp : Nat → Int32) (op : Nat → Int32) (x : Int32) (y : Int32) (hC : Cr c r) : Mu l yX9_string wsX9_string ({ frames := 8, cells := 0, slots := 0, locals := 185 } : Room) [.ref mo, .int x, .int y] D Y [(mo, .inr (8, [.int th, .int (nI c), .int (nI r), .long w, .int (nI pl), .int (nI n), .ref aML, .ref aMR, .ref aOW, .int (nI len), .ref aBU, .int sn, .ref aSA, .ref aSZ, .ref aLP, .ref aOP, .ref aFT, .int od, .ref aOL, .ref aRS, .ref aCD, .long pw, .int pb, .int ah, .long hs])), (aSA, .inl (Y.1, 16, .inl sa)), (aSZ, .inl (Y.1, 16, .inl sz)), (aLP, .inl (Y.2.2.1, 16, .inl lp)), (aOP, .inl (Y.2.2.1, 16, .inl op))] (fun uS : Int32 × Int32 × Int32 × (Nat → Int32) × (Nat → Int32) × (Nat → Int32) × (Nat → Int32) => some (.int uS.2.1)) (fun uS : Int32 × Int32 × Int32 × (Nat → Int32) × (Nat → Int32) × (Nat → Int32) × (Nat → Int32) => [(mo, .inr (8, [.int uS.1, .int (nI c), .int (nI r), .long w, .int (nI pl), .int (nI n), .ref aML, .ref aMR, .ref aOW, .int (nI len), .ref aBU, .int uS.2.2.1, .ref aSA, .ref aSZ, .ref aLP, .ref aOP, .ref aFT, .int od, .ref aOL, .ref aRS, .ref aCD, .long pw, .int pb, .int ah, .long hs])), (aSA, .inl (Y.1, 16, .inl uS.2.2.2.1)), (aSZ, .inl (Y.1, 16, .inl uS.2.2.2.2.1)), (aLP, .inl (Y.2.2.1, 16, .inl uS.2.2.2.2.2.1)), (aOP, .inl (Y.2.2.1, 16, .inl uS.2.2.2.2.2.2))]) (fun uS : Int32 × Int32 × Int32 × (Nat → Int32) × (Nat → Int32) × (Nat → Int32) × (Nat → Int32) => RvP (kD2 (wi x (nI 0) (nI (nst c r w) - nI 1)) (wi y (nI 0) (nI 4))) uS.1 uS.2.1 (nI (propM c r w x.toNatClampNeg y.toNatClampNeg))) := by
  refine mu_intro (by decide +kernel) rfl (Nat.le_of_ble_eq_true rfl) [(0, .ref mo), (1, .int x), (2, .int y)] rfl ?_
  intro pG eG sG mG aG bG tG cG ls hx hb hr hml hts hown hlocks hK hP hD hS hl
  generalize hAA : adA [(mo, .inr (8, [.int th, .int (nI c), .int (nI r), .long w, .int (nI pl), .int (nI n), .ref aML, .ref aMR, .ref aOW, .int (nI len), .ref aBU, .int sn, .ref aSA, .ref aSZ, .ref aLP, .ref aOP, .ref aFT, .int od, .ref aOL, .ref aRS, .ref aCD, .long pw, .int pb, .int ah, .long hs])), (aSA, .inl (Y.1, 16, .inl sa)), (aSZ, .inl (Y.1, 16, .inl sz)), (aLP, .inl (Y.2.2.1, 16, .inl lp)), (aOP, .inl (Y.2.2.1, 16, .inl op))] = AA at hD hS ⊢
  have hP : va_P D vwCl [(mo, .inr (8, [.int th, .int (nI c), .int (nI r), .long w, .int (nI pl), .int (nI n), .ref aML, .ref aMR, .ref aOW, .int (nI len), .ref aBU, .int sn, .ref aSA, .ref aSZ, .ref aLP, .ref aOP, .ref aFT, .int od, .ref aOL, .ref aRS, .ref aCD, .long pw, .int pb, .int ah, .long hs])), (aSA, .inl (Y.1, 16, .inl sa)), (aSZ, .inl (Y.1, 16, .inl sz)), (aLP, .inl (Y.2.2.1, 16, .inl lp)), (aOP, .inl (Y.2.2.1, 16, .inl op))] sG.heap := hP
  have hD : va_D AA [(mo, .inr (8, [.int th, .int (nI c), .int (nI r), .long w, .int (nI pl), .int (nI n), .ref aML, .ref aMR, .ref aOW, .int (nI len), .ref aBU, .int sn, .ref aSA, .ref aSZ, .ref aLP, .ref aOP, .ref aFT, .int od, .ref aOL, .ref aRS, .ref aCD, .long pw, .int pb, .int ah, .long hs])), (aSA, .inl (Y.1, 16, .inl sa)), (aSZ, .inl (Y.1, 16, .inl sz)), (aLP, .inl (Y.2.2.1, 16, .inl lp)), (aOP, .inl (Y.2.2.1, 16, .inl op))] := hD
  have hown : sG.vm.findClass RX9 = some mG.cls := hown
  have hl : lv_has ls 3 [(0, .ref mo), (1, .int x), (2, .int y)] := hl
  have hinX9 : ∀ w ∈ u_ws RX9 TX9 25, w ∈ wsX9_string := by decide +kernel
  have hS : va_S AA sG.heap sG.heap [] := hS
  obtain ⟨hq1, hq2, hq3, hq4, hq5, hq6, hq7, hq8, hq9, hq10, hq11⟩ := hC.q
  have hns := nst_le c r w
  refine lv_aload_n (pc := 0) hx hb dX9_string_0 rfl (lv_at hl 0 rfl) ?_
  refine mu_go (pc := 1) (va_runV (As := []) (rest := []) ⟨hx, hb, hml, hown, hts⟩ (c_X9_layStrings l D Y mo th c r w pl n aML aMR aOW len aBU aSA aSZ aLP aOP aFT od aOL aRS aCD pw pb ah hs sn sa sz lp op (hC)) (cwV 0 hts gX9_string_X9_layStrings rfl rfl rfl ⟨rfl, hdX9_layStrings⟩ ⟨Nat.le_of_ble_eq_true rfl, Nat.le_of_ble_eq_true rfl⟩) (mu_pV hK hP hD (ro_recv hK hP (ci := 8) (q0 := 0) rfl rfl)) rfl rfl hl.1 rfl (lv_room (Nat.le_of_ble_eq_true rfl)) dX9_string_1 ⟨Nat.le_of_ble_eq_true rfl, Nat.le_of_ble_eq_true rfl⟩) hP hD hS [0, 1, 2, 3, 4] rfl (by decide) (fun uS => [(mo, .inr (8, [.int th, .int (nI c), .int (nI r), .long w, .int (nI pl), .int (nI n), .ref aML, .ref aMR, .ref aOW, .int (nI len), .ref aBU, .int (nI (nst c r w)), .ref aSA, .ref aSZ, .ref aLP, .ref aOP, .ref aFT, .int od, .ref aOL, .ref aRS, .ref aCD, .long pw, .int pb, .int ah, .long hs])), (aSA, .inl (Y.1, 16, .inl uS.1)), (aSZ, .inl (Y.1, 16, .inl uS.2.1)), (aLP, .inl (Y.2.2.1, 16, .inl uS.2.2.1)), (aOP, .inl (Y.2.2.1, 16, .inl uS.2.2.2))]) (fun _ => rfl) (fun _ => rfl) (fun uS H locs hpost hP hD hS => ?_)
  obtain ⟨sa2_1, sz2_1, lp2_1, op2_1⟩ := uS
  try dsimp only at hpost
  refine top_i (show _ = nI (nst c r w) from rfl) ?_
  have hP : va_P D vwCl [(mo, .inr (8, [.int th, .int (nI c), .int (nI r), .long w, .int (nI pl), .int (nI n), .ref aML, .ref aMR, .ref aOW, .int (nI len), .ref aBU, .int (nI (nst c r w)), .ref aSA, .ref aSZ, .ref aLP, .ref aOP, .ref aFT, .int od, .ref aOL, .ref aRS, .ref aCD, .long pw, .int pb, .int ah, .long hs])), (aSA, .inl (Y.1, 16, .inl sa2_1)), (aSZ, .inl (Y.1, 16, .inl sz2_1)), (aLP, .inl (Y.2.2.1, 16, .inl lp2_1)), (aOP, .inl (Y.2.2.1, 16, .inl op2_1))] H := hP
  have hD : va_D AA [(mo, .inr (8, [.int th, .int (nI c), .int (nI r), .long w, .int (nI pl), .int (nI n), .ref aML, .ref aMR, .ref aOW, .int (nI len), .ref aBU, .int (nI (nst c r w)), .ref aSA, .ref aSZ, .ref aLP, .ref aOP, .ref aFT, .int od, .ref aOL, .ref aRS, .ref aCD, .long pw, .int pb, .int ah, .long hs])), (aSA, .inl (Y.1, 16, .inl sa2_1)), (aSZ, .inl (Y.1, 16, .inl sz2_1)), (aLP, .inl (Y.2.2.1, 16, .inl lp2_1)), (aOP, .inl (Y.2.2.1, 16, .inl op2_1))] := hD
  refine lv_pop (pc := 4) hx hb dX9_string_4 rfl ?_
  refine lv_aload_n (pc := 5) hx hb dX9_string_5 rfl (lv_at hl 0 rfl) ?_
  refine lv_iload_n (pc := 6) hx hb dX9_string_6 rfl (lv_at hl 1 rfl) ?_
  refine lv_iconst (pc := 7) (v := nI 0) hx hb dX9_string_7 rfl ?_
  refine lv_aload_n (pc := 8) hx hb dX9_string_8 rfl (lv_at hl 0 rfl) ?_
  refine va_get (pc := 9) (D := D) (ci := 8) (v := .int (nI (nst c r w))) (C := RX9) (T := TX9) (N := 25) hx hb hts hinX9 hown hK.1 hP 0 rfl rfl 11 (by decide) (hts (.fieldLink RX9 194 "BoxesGameModel" "strings" "I") (List.mem_of_getElem? (i := 1) rfl)) (fun _ h9 => h9) rfl dX9_string_9 ?_
  refine lv_iconst (pc := 12) (v := nI 1) hx hb dX9_string_12 rfl ?_
  refine lv_isub (pc := 13) hx hb dX9_string_13 ?_
  refine ro_go (pc := 14) (va_runS (As := [.int x, .int (nI 0), .int ((nI (nst c r w)) - (nI 1))]) (rest := [.ref mo]) ⟨hx, hb, hml, hown, hts⟩ (c_X9_within l D Y x (nI 0) ((nI (nst c r w)) - (nI 1)) ) (va_cwS 3 hts gX9_string_X9_within rfl rfl rfl hdX9_within ⟨Nat.le_of_ble_eq_true rfl, Nat.le_of_ble_eq_true rfl⟩) (ro_pS hK (hP.sub [] rfl)) rfl rfl hl.1 rfl (lv_room (Nat.le_of_ble_eq_true rfl)) dX9_string_14 ⟨Nat.le_of_ble_eq_true rfl, Nat.le_of_ble_eq_true rfl⟩) ?_
  refine z_if_ne (pc := 17) (tgt := 24) hx hb dX9_string_17 (by decide) (fun c17 => ?_) (fun c17 => ?_)
  · obtain ⟨ja, hja, rfl⟩ := vN_is (by omega) c17
    have hcja : (nI ja).toNatClampNeg = ja := nI_clamp (by omega)
    have hl : lv_has ls 3 [(0, .ref mo), (1, .int (nI ja)), (2, .int y)] := hl
    refine lv_iload_n (pc := 24) hx hb dX9_string_24 rfl (lv_at hl 2 rfl) ?_
    refine lv_iconst (pc := 25) (v := nI 0) hx hb dX9_string_25 rfl ?_
    refine lv_iconst (pc := 26) (v := nI 4) hx hb dX9_string_26 rfl ?_
    refine ro_go (pc := 27) (va_runS (As := [.int y, .int (nI 0), .int (nI 4)]) (rest := [.ref mo]) ⟨hx, hb, hml, hown, hts⟩ (c_X9_within l D Y y (nI 0) (nI 4) ) (va_cwS 3 hts gX9_string_X9_within rfl rfl rfl hdX9_within ⟨Nat.le_of_ble_eq_true rfl, Nat.le_of_ble_eq_true rfl⟩) (ro_pS hK (hP.sub [] rfl)) rfl rfl hl.1 rfl (lv_room (Nat.le_of_ble_eq_true rfl)) dX9_string_27 ⟨Nat.le_of_ble_eq_true rfl, Nat.le_of_ble_eq_true rfl⟩) ?_
    refine z_if_eq (pc := 30) (tgt := 37) hx hb dX9_string_30 (by decide) (fun c30 => ?_) (fun c30 => ?_)
    · refine lv_iconst (pc := 37) (v := nI 2) hx hb dX9_string_37 rfl ?_
      refine va_put (pc := 38) (D := D) (ci := 8) (v := .int (nI 2)) (ty := .int) (C := RX9) (T := TX9) (N := 25) hx hb hts hinX9 tyX9 tyX9_ok nmX9 hown hK.1 hP hD hS 0 rfl rfl 0 (by decide) (hts (.fieldLink RX9 59 "BoxesGameModel" "thrown" "I") (List.mem_of_getElem? (i := 2) rfl)) (fun _ h9 => h9) rfl (by decide +kernel) (rfl) (rfl) (Nat.le_of_ble_eq_true rfl) dX9_string_38 (fun H locs hP hD hS => ?_)
      have hP : va_P D vwCl [(mo, .inr (8, [.int (nI 2), .int (nI c), .int (nI r), .long w, .int (nI pl), .int (nI n), .ref aML, .ref aMR, .ref aOW, .int (nI len), .ref aBU, .int (nI (nst c r w)), .ref aSA, .ref aSZ, .ref aLP, .ref aOP, .ref aFT, .int od, .ref aOL, .ref aRS, .ref aCD, .long pw, .int pb, .int ah, .long hs])), (aSA, .inl (Y.1, 16, .inl sa2_1)), (aSZ, .inl (Y.1, 16, .inl sz2_1)), (aLP, .inl (Y.2.2.1, 16, .inl lp2_1)), (aOP, .inl (Y.2.2.1, 16, .inl op2_1))] H := hP
      have hD : va_D AA [(mo, .inr (8, [.int (nI 2), .int (nI c), .int (nI r), .long w, .int (nI pl), .int (nI n), .ref aML, .ref aMR, .ref aOW, .int (nI len), .ref aBU, .int (nI (nst c r w)), .ref aSA, .ref aSZ, .ref aLP, .ref aOP, .ref aFT, .int od, .ref aOL, .ref aRS, .ref aCD, .long pw, .int pb, .int ah, .long hs])), (aSA, .inl (Y.1, 16, .inl sa2_1)), (aSZ, .inl (Y.1, 16, .inl sz2_1)), (aLP, .inl (Y.2.2.1, 16, .inl lp2_1)), (aOP, .inl (Y.2.2.1, 16, .inl op2_1))] := hD
      refine lv_aload_n (pc := 41) hx hb dX9_string_41 rfl (lv_at hl 0 rfl) ?_
      refine va_get (pc := 42) (D := D) (ci := 8) (v := .int (nI 2)) (C := RX9) (T := TX9) (N := 25) hx hb hts hinX9 hown hK.1 hP 0 rfl rfl 0 (by decide) (hts (.fieldLink RX9 59 "BoxesGameModel" "thrown" "I") (List.mem_of_getElem? (i := 2) rfl)) (fun _ h9 => h9) rfl dX9_string_42 ?_
      refine n_if_le (pc := 45) (tgt := 52) hx hb (by omega) dX9_string_45 (by decide) (fun c45 => ?_) (fun c45 => ?_)
      · exact absurd c45 (by decide)
      refine lv_iconst (pc := 48) (v := nI 0) hx hb dX9_string_48 rfl ?_
      refine lv_goto (pc := 49) (tgt := 58) hx hb dX9_string_49 (by decide) ?_
      subst hAA
      exact mu_iret hx hb hr hlocks hP hS (⟨_, _, _, _, _, _, _⟩) (rfl) (RvP.no (kD2_2 c17 c30) (by decide)) (rfl) dX9_string_58
    obtain ⟨jb, hjb, rfl⟩ := wi_of (by decide) c30
    have hcjb : (nI jb).toNatClampNeg = jb := nI_clamp (by omega)
    have hl : lv_has ls 3 [(0, .ref mo), (1, .int (nI ja)), (2, .int (nI jb))] := hl
    refine lv_iconst (pc := 33) (v := nI 0) hx hb dX9_string_33 rfl ?_
    refine lv_goto (pc := 34) (tgt := 38) hx hb dX9_string_34 (by decide) ?_
    refine va_put (pc := 38) (D := D) (ci := 8) (v := .int (nI 0)) (ty := .int) (C := RX9) (T := TX9) (N := 25) hx hb hts hinX9 tyX9 tyX9_ok nmX9 hown hK.1 hP hD hS 0 rfl rfl 0 (by decide) (hts (.fieldLink RX9 59 "BoxesGameModel" "thrown" "I") (List.mem_of_getElem? (i := 2) rfl)) (fun _ h9 => h9) rfl (by decide +kernel) (rfl) (rfl) (Nat.le_of_ble_eq_true rfl) dX9_string_38 (fun H locs hP hD hS => ?_)
    have hP : va_P D vwCl [(mo, .inr (8, [.int (nI 0), .int (nI c), .int (nI r), .long w, .int (nI pl), .int (nI n), .ref aML, .ref aMR, .ref aOW, .int (nI len), .ref aBU, .int (nI (nst c r w)), .ref aSA, .ref aSZ, .ref aLP, .ref aOP, .ref aFT, .int od, .ref aOL, .ref aRS, .ref aCD, .long pw, .int pb, .int ah, .long hs])), (aSA, .inl (Y.1, 16, .inl sa2_1)), (aSZ, .inl (Y.1, 16, .inl sz2_1)), (aLP, .inl (Y.2.2.1, 16, .inl lp2_1)), (aOP, .inl (Y.2.2.1, 16, .inl op2_1))] H := hP
    have hD : va_D AA [(mo, .inr (8, [.int (nI 0), .int (nI c), .int (nI r), .long w, .int (nI pl), .int (nI n), .ref aML, .ref aMR, .ref aOW, .int (nI len), .ref aBU, .int (nI (nst c r w)), .ref aSA, .ref aSZ, .ref aLP, .ref aOP, .ref aFT, .int od, .ref aOL, .ref aRS, .ref aCD, .long pw, .int pb, .int ah, .long hs])), (aSA, .inl (Y.1, 16, .inl sa2_1)), (aSZ, .inl (Y.1, 16, .inl sz2_1)), (aLP, .inl (Y.2.2.1, 16, .inl lp2_1)), (aOP, .inl (Y.2.2.1, 16, .inl op2_1))] := hD
    refine lv_aload_n (pc := 41) hx hb dX9_string_41 rfl (lv_at hl 0 rfl) ?_
    refine va_get (pc := 42) (D := D) (ci := 8) (v := .int (nI 0)) (C := RX9) (T := TX9) (N := 25) hx hb hts hinX9 hown hK.1 hP 0 rfl rfl 0 (by decide) (hts (.fieldLink RX9 59 "BoxesGameModel" "thrown" "I") (List.mem_of_getElem? (i := 2) rfl)) (fun _ h9 => h9) rfl dX9_string_42 ?_
    refine n_if_le (pc := 45) (tgt := 52) hx hb (by omega) dX9_string_45 (by decide) (fun c45 => ?_) (fun c45 => ?_)
    · refine lv_aload_n (pc := 52) hx hb dX9_string_52 rfl (lv_at hl 0 rfl) ?_
      refine lv_iload_n (pc := 53) hx hb dX9_string_53 rfl (lv_at hl 1 rfl) ?_
      refine lv_iload_n (pc := 54) hx hb dX9_string_54 rfl (lv_at hl 2 rfl) ?_
      refine ro_go (pc := 55) (va_runV (As := [.int (nI ja), .int (nI jb)]) (rest := []) ⟨hx, hb, hml, hown, hts⟩ (c_X9_stringNow l D Y mo c r ([.int (nI 0), .int (nI c), .int (nI r), .long w, .int (nI pl), .int (nI n), .ref aML, .ref aMR, .ref aOW, .int (nI len), .ref aBU, .int (nI (nst c r w)), .ref aSA, .ref aSZ, .ref aLP, .ref aOP, .ref aFT, .int od, .ref aOL, .ref aRS, .ref aCD, .long pw, .int pb, .int ah, .long hs]) w aSA aSZ aLP aOP ja jb sa2_1 sz2_1 lp2_1 op2_1 (by first | assumption | exact ⟨rfl, rfl⟩) (hC) (by first | assumption | rfl) (by first | assumption | rfl) (by first | assumption | rfl) (by first | assumption | rfl) (by first | assumption | rfl) (by first | assumption | omega) (by first | assumption | omega) (hpost)) (cwV 2 hts gX9_string_X9_stringNow rfl rfl rfl ⟨rfl, hdX9_stringNow⟩ ⟨Nat.le_of_ble_eq_true rfl, Nat.le_of_ble_eq_true rfl⟩) (ro_pV hK hP (ro_recv hK hP (ci := 8) (q0 := 0) rfl rfl)) rfl rfl hl.1 rfl (lv_room (Nat.le_of_ble_eq_true rfl)) dX9_string_55 ⟨Nat.le_of_ble_eq_true rfl, Nat.le_of_ble_eq_true rfl⟩) ?_
      subst hAA
      exact mu_iret hx hb hr hlocks hP hS (⟨_, _, _, _, _, _, _⟩) (rfl) (by rw [hcja, hcjb]; exact RvP.ok (kD2_0 c17 c30)) (rfl) dX9_string_58
    · exact absurd c45 (by decide)
  refine lv_iconst (pc := 20) (v := nI 1) hx hb dX9_string_20 rfl ?_
  refine lv_goto (pc := 21) (tgt := 38) hx hb dX9_string_21 (by decide) ?_
  refine va_put (pc := 38) (D := D) (ci := 8) (v := .int (nI 1)) (ty := .int) (C := RX9) (T := TX9) (N := 25) hx hb hts hinX9 tyX9 tyX9_ok nmX9 hown hK.1 hP hD hS 0 rfl rfl 0 (by decide) (hts (.fieldLink RX9 59 "BoxesGameModel" "thrown" "I") (List.mem_of_getElem? (i := 2) rfl)) (fun _ h9 => h9) rfl (by decide +kernel) (rfl) (rfl) (Nat.le_of_ble_eq_true rfl) dX9_string_38 (fun H locs hP hD hS => ?_)
  have hP : va_P D vwCl [(mo, .inr (8, [.int (nI 1), .int (nI c), .int (nI r), .long w, .int (nI pl), .int (nI n), .ref aML, .ref aMR, .ref aOW, .int (nI len), .ref aBU, .int (nI (nst c r w)), .ref aSA, .ref aSZ, .ref aLP, .ref aOP, .ref aFT, .int od, .ref aOL, .ref aRS, .ref aCD, .long pw, .int pb, .int ah, .long hs])), (aSA, .inl (Y.1, 16, .inl sa2_1)), (aSZ, .inl (Y.1, 16, .inl sz2_1)), (aLP, .inl (Y.2.2.1, 16, .inl lp2_1)), (aOP, .inl (Y.2.2.1, 16, .inl op2_1))] H := hP
  have hD : va_D AA [(mo, .inr (8, [.int (nI 1), .int (nI c), .int (nI r), .long w, .int (nI pl), .int (nI n), .ref aML, .ref aMR, .ref aOW, .int (nI len), .ref aBU, .int (nI (nst c r w)), .ref aSA, .ref aSZ, .ref aLP, .ref aOP, .ref aFT, .int od, .ref aOL, .ref aRS, .ref aCD, .long pw, .int pb, .int ah, .long hs])), (aSA, .inl (Y.1, 16, .inl sa2_1)), (aSZ, .inl (Y.1, 16, .inl sz2_1)), (aLP, .inl (Y.2.2.1, 16, .inl lp2_1)), (aOP, .inl (Y.2.2.1, 16, .inl op2_1))] := hD
  refine lv_aload_n (pc := 41) hx hb dX9_string_41 rfl (lv_at hl 0 rfl) ?_
  refine va_get (pc := 42) (D := D) (ci := 8) (v := .int (nI 1)) (C := RX9) (T := TX9) (N := 25) hx hb hts hinX9 hown hK.1 hP 0 rfl rfl 0 (by decide) (hts (.fieldLink RX9 59 "BoxesGameModel" "thrown" "I") (List.mem_of_getElem? (i := 2) rfl)) (fun _ h9 => h9) rfl dX9_string_42 ?_
  refine n_if_le (pc := 45) (tgt := 52) hx hb (by omega) dX9_string_45 (by decide) (fun c45 => ?_) (fun c45 => ?_)
  · exact absurd c45 (by decide)
  refine lv_iconst (pc := 48) (v := nI 0) hx hb dX9_string_48 rfl ?_
  refine lv_goto (pc := 49) (tgt := 58) hx hb dX9_string_49 (by decide) ?_
  subst hAA
  exact mu_iret hx hb hr hlocks hP hS (⟨_, _, _, _, _, _, _⟩) (rfl) (RvP.no (kD2_1 c17) (by decide)) (rfl) dX9_string_58

set_option maxHeartbeats 1200000 in
set_option maxRecDepth 100000 in
theorem c_X9_control (l : Launch) (D : va_G) (Y : vY) (mo : Nat) (th : Int32) (c : Nat) (r : Nat) (w : Int64) (pl : Nat) (n : Nat) (aML : Nat) (aMR : Nat) (aOW : Nat) (len : Nat) (aBU : Nat) (sn : Int32) (aSA : Nat) (aSZ : Nat) (aLP : Nat) (aOP : Nat) (aFT : Nat) (od : Int32) (aOL : Nat) (aRS : Nat) (aCD : Nat) (pw : Int64) (pb : Int32) (ah : Int32) (hs : Int64) (sa : Nat → Int32) (sz : Nat → Int32) (lp : Nat → Int32) (op : Nat → Int32) (x : Int32) (hC : Cr c r) : Mu l yX9_control wsX9_control ({ frames := 9, cells := 0, slots := 0, locals := 211 } : Room) [.ref mo, .int x] D Y [(mo, .inr (8, [.int th, .int (nI c), .int (nI r), .long w, .int (nI pl), .int (nI n), .ref aML, .ref aMR, .ref aOW, .int (nI len), .ref aBU, .int sn, .ref aSA, .ref aSZ, .ref aLP, .ref aOP, .ref aFT, .int od, .ref aOL, .ref aRS, .ref aCD, .long pw, .int pb, .int ah, .long hs])), (aSA, .inl (Y.1, 16, .inl sa)), (aSZ, .inl (Y.1, 16, .inl sz)), (aLP, .inl (Y.2.2.1, 16, .inl lp)), (aOP, .inl (Y.2.2.1, 16, .inl op))] (fun uS : Int32 × Int32 × Int32 × (Nat → Int32) × (Nat → Int32) × (Nat → Int32) × (Nat → Int32) => some (.int uS.2.1)) (fun uS : Int32 × Int32 × Int32 × (Nat → Int32) × (Nat → Int32) × (Nat → Int32) × (Nat → Int32) => [(mo, .inr (8, [.int uS.1, .int (nI c), .int (nI r), .long w, .int (nI pl), .int (nI n), .ref aML, .ref aMR, .ref aOW, .int (nI len), .ref aBU, .int uS.2.2.1, .ref aSA, .ref aSZ, .ref aLP, .ref aOP, .ref aFT, .int od, .ref aOL, .ref aRS, .ref aCD, .long pw, .int pb, .int ah, .long hs])), (aSA, .inl (Y.1, 16, .inl uS.2.2.2.1)), (aSZ, .inl (Y.1, 16, .inl uS.2.2.2.2.1)), (aLP, .inl (Y.2.2.1, 16, .inl uS.2.2.2.2.2.1)), (aOP, .inl (Y.2.2.1, 16, .inl uS.2.2.2.2.2.2))]) (fun uS : Int32 × Int32 × Int32 × (Nat → Int32) × (Nat → Int32) × (Nat → Int32) × (Nat → Int32) => RvP (kD1 (wi x (nI 0) (nI 5))) uS.1 uS.2.1 (iI (ctrM c r w x.toNatClampNeg))) := by
  refine mu_intro (by decide +kernel) rfl (Nat.le_of_ble_eq_true rfl) [(0, .ref mo), (1, .int x)] rfl ?_
  intro pG eG sG mG aG bG tG cG ls hx hb hr hml hts hown hlocks hK hP hD hS hl
  generalize hAA : adA [(mo, .inr (8, [.int th, .int (nI c), .int (nI r), .long w, .int (nI pl), .int (nI n), .ref aML, .ref aMR, .ref aOW, .int (nI len), .ref aBU, .int sn, .ref aSA, .ref aSZ, .ref aLP, .ref aOP, .ref aFT, .int od, .ref aOL, .ref aRS, .ref aCD, .long pw, .int pb, .int ah, .long hs])), (aSA, .inl (Y.1, 16, .inl sa)), (aSZ, .inl (Y.1, 16, .inl sz)), (aLP, .inl (Y.2.2.1, 16, .inl lp)), (aOP, .inl (Y.2.2.1, 16, .inl op))] = AA at hD hS ⊢
  have hP : va_P D vwCl [(mo, .inr (8, [.int th, .int (nI c), .int (nI r), .long w, .int (nI pl), .int (nI n), .ref aML, .ref aMR, .ref aOW, .int (nI len), .ref aBU, .int sn, .ref aSA, .ref aSZ, .ref aLP, .ref aOP, .ref aFT, .int od, .ref aOL, .ref aRS, .ref aCD, .long pw, .int pb, .int ah, .long hs])), (aSA, .inl (Y.1, 16, .inl sa)), (aSZ, .inl (Y.1, 16, .inl sz)), (aLP, .inl (Y.2.2.1, 16, .inl lp)), (aOP, .inl (Y.2.2.1, 16, .inl op))] sG.heap := hP
  have hD : va_D AA [(mo, .inr (8, [.int th, .int (nI c), .int (nI r), .long w, .int (nI pl), .int (nI n), .ref aML, .ref aMR, .ref aOW, .int (nI len), .ref aBU, .int sn, .ref aSA, .ref aSZ, .ref aLP, .ref aOP, .ref aFT, .int od, .ref aOL, .ref aRS, .ref aCD, .long pw, .int pb, .int ah, .long hs])), (aSA, .inl (Y.1, 16, .inl sa)), (aSZ, .inl (Y.1, 16, .inl sz)), (aLP, .inl (Y.2.2.1, 16, .inl lp)), (aOP, .inl (Y.2.2.1, 16, .inl op))] := hD
  have hown : sG.vm.findClass RX9 = some mG.cls := hown
  have hl : lv_has ls 2 [(0, .ref mo), (1, .int x)] := hl
  have hinX9 : ∀ w ∈ u_ws RX9 TX9 25, w ∈ wsX9_control := by decide +kernel
  have hS : va_S AA sG.heap sG.heap [] := hS
  obtain ⟨hq1, hq2, hq3, hq4, hq5, hq6, hq7, hq8, hq9, hq10, hq11⟩ := hC.q
  refine lv_aload_n (pc := 0) hx hb dX9_control_0 rfl (lv_at hl 0 rfl) ?_
  refine lv_iload_n (pc := 1) hx hb dX9_control_1 rfl (lv_at hl 1 rfl) ?_
  refine lv_iconst (pc := 2) (v := nI 0) hx hb dX9_control_2 rfl ?_
  refine lv_iconst (pc := 3) (v := nI 5) hx hb dX9_control_3 rfl ?_
  refine ro_go (pc := 4) (va_runS (As := [.int x, .int (nI 0), .int (nI 5)]) (rest := [.ref mo]) ⟨hx, hb, hml, hown, hts⟩ (c_X9_within l D Y x (nI 0) (nI 5) ) (va_cwS 3 hts gX9_control_X9_within rfl rfl rfl hdX9_within ⟨Nat.le_of_ble_eq_true rfl, Nat.le_of_ble_eq_true rfl⟩) (ro_pS hK (hP.sub [] rfl)) rfl rfl hl.1 rfl (lv_room (Nat.le_of_ble_eq_true rfl)) dX9_control_4 ⟨Nat.le_of_ble_eq_true rfl, Nat.le_of_ble_eq_true rfl⟩) ?_
  refine z_if_eq (pc := 7) (tgt := 14) hx hb dX9_control_7 (by decide) (fun c7 => ?_) (fun c7 => ?_)
  · refine lv_iconst (pc := 14) (v := nI 1) hx hb dX9_control_14 rfl ?_
    refine va_put (pc := 15) (D := D) (ci := 8) (v := .int (nI 1)) (ty := .int) (C := RX9) (T := TX9) (N := 25) hx hb hts hinX9 tyX9 tyX9_ok nmX9 hown hK.1 hP hD hS 0 rfl rfl 0 (by decide) (hts (.fieldLink RX9 59 "BoxesGameModel" "thrown" "I") (List.mem_of_getElem? (i := 1) rfl)) (fun _ h9 => h9) rfl (by decide +kernel) (rfl) (rfl) (Nat.le_of_ble_eq_true rfl) dX9_control_15 (fun H locs hP hD hS => ?_)
    have hP : va_P D vwCl [(mo, .inr (8, [.int (nI 1), .int (nI c), .int (nI r), .long w, .int (nI pl), .int (nI n), .ref aML, .ref aMR, .ref aOW, .int (nI len), .ref aBU, .int sn, .ref aSA, .ref aSZ, .ref aLP, .ref aOP, .ref aFT, .int od, .ref aOL, .ref aRS, .ref aCD, .long pw, .int pb, .int ah, .long hs])), (aSA, .inl (Y.1, 16, .inl sa)), (aSZ, .inl (Y.1, 16, .inl sz)), (aLP, .inl (Y.2.2.1, 16, .inl lp)), (aOP, .inl (Y.2.2.1, 16, .inl op))] H := hP
    have hD : va_D AA [(mo, .inr (8, [.int (nI 1), .int (nI c), .int (nI r), .long w, .int (nI pl), .int (nI n), .ref aML, .ref aMR, .ref aOW, .int (nI len), .ref aBU, .int sn, .ref aSA, .ref aSZ, .ref aLP, .ref aOP, .ref aFT, .int od, .ref aOL, .ref aRS, .ref aCD, .long pw, .int pb, .int ah, .long hs])), (aSA, .inl (Y.1, 16, .inl sa)), (aSZ, .inl (Y.1, 16, .inl sz)), (aLP, .inl (Y.2.2.1, 16, .inl lp)), (aOP, .inl (Y.2.2.1, 16, .inl op))] := hD
    refine lv_aload_n (pc := 18) hx hb dX9_control_18 rfl (lv_at hl 0 rfl) ?_
    refine va_get (pc := 19) (D := D) (ci := 8) (v := .int (nI 1)) (C := RX9) (T := TX9) (N := 25) hx hb hts hinX9 hown hK.1 hP 0 rfl rfl 0 (by decide) (hts (.fieldLink RX9 59 "BoxesGameModel" "thrown" "I") (List.mem_of_getElem? (i := 1) rfl)) (fun _ h9 => h9) rfl dX9_control_19 ?_
    refine n_if_le (pc := 22) (tgt := 29) hx hb (by omega) dX9_control_22 (by decide) (fun c22 => ?_) (fun c22 => ?_)
    · exact absurd c22 (by decide)
    refine lv_iconst (pc := 25) (v := nI 0) hx hb dX9_control_25 rfl ?_
    refine lv_goto (pc := 26) (tgt := 34) hx hb dX9_control_26 (by decide) ?_
    subst hAA
    exact mu_iret hx hb hr hlocks hP hS (⟨_, _, _, _, _, _, _⟩) (rfl) (RvP.no (kD1_f c7) (by decide)) (rfl) dX9_control_34
  obtain ⟨ja, hja, rfl⟩ := wi_of (by decide) c7
  have hcja : (nI ja).toNatClampNeg = ja := nI_clamp (by omega)
  have hl : lv_has ls 2 [(0, .ref mo), (1, .int (nI ja))] := hl
  refine lv_iconst (pc := 10) (v := nI 0) hx hb dX9_control_10 rfl ?_
  refine lv_goto (pc := 11) (tgt := 15) hx hb dX9_control_11 (by decide) ?_
  refine va_put (pc := 15) (D := D) (ci := 8) (v := .int (nI 0)) (ty := .int) (C := RX9) (T := TX9) (N := 25) hx hb hts hinX9 tyX9 tyX9_ok nmX9 hown hK.1 hP hD hS 0 rfl rfl 0 (by decide) (hts (.fieldLink RX9 59 "BoxesGameModel" "thrown" "I") (List.mem_of_getElem? (i := 1) rfl)) (fun _ h9 => h9) rfl (by decide +kernel) (rfl) (rfl) (Nat.le_of_ble_eq_true rfl) dX9_control_15 (fun H locs hP hD hS => ?_)
  have hP : va_P D vwCl [(mo, .inr (8, [.int (nI 0), .int (nI c), .int (nI r), .long w, .int (nI pl), .int (nI n), .ref aML, .ref aMR, .ref aOW, .int (nI len), .ref aBU, .int sn, .ref aSA, .ref aSZ, .ref aLP, .ref aOP, .ref aFT, .int od, .ref aOL, .ref aRS, .ref aCD, .long pw, .int pb, .int ah, .long hs])), (aSA, .inl (Y.1, 16, .inl sa)), (aSZ, .inl (Y.1, 16, .inl sz)), (aLP, .inl (Y.2.2.1, 16, .inl lp)), (aOP, .inl (Y.2.2.1, 16, .inl op))] H := hP
  have hD : va_D AA [(mo, .inr (8, [.int (nI 0), .int (nI c), .int (nI r), .long w, .int (nI pl), .int (nI n), .ref aML, .ref aMR, .ref aOW, .int (nI len), .ref aBU, .int sn, .ref aSA, .ref aSZ, .ref aLP, .ref aOP, .ref aFT, .int od, .ref aOL, .ref aRS, .ref aCD, .long pw, .int pb, .int ah, .long hs])), (aSA, .inl (Y.1, 16, .inl sa)), (aSZ, .inl (Y.1, 16, .inl sz)), (aLP, .inl (Y.2.2.1, 16, .inl lp)), (aOP, .inl (Y.2.2.1, 16, .inl op))] := hD
  refine lv_aload_n (pc := 18) hx hb dX9_control_18 rfl (lv_at hl 0 rfl) ?_
  refine va_get (pc := 19) (D := D) (ci := 8) (v := .int (nI 0)) (C := RX9) (T := TX9) (N := 25) hx hb hts hinX9 hown hK.1 hP 0 rfl rfl 0 (by decide) (hts (.fieldLink RX9 59 "BoxesGameModel" "thrown" "I") (List.mem_of_getElem? (i := 1) rfl)) (fun _ h9 => h9) rfl dX9_control_19 ?_
  refine n_if_le (pc := 22) (tgt := 29) hx hb (by omega) dX9_control_22 (by decide) (fun c22 => ?_) (fun c22 => ?_)
  · refine lv_aload_n (pc := 29) hx hb dX9_control_29 rfl (lv_at hl 0 rfl) ?_
    refine lv_iload_n (pc := 30) hx hb dX9_control_30 rfl (lv_at hl 1 rfl) ?_
    refine mu_go (pc := 31) (va_runV (As := [.int (nI ja)]) (rest := []) ⟨hx, hb, hml, hown, hts⟩ (c_X9_controlNow l D Y mo (nI 0) c r w pl n aML aMR aOW len aBU aSA aSZ aLP aOP aFT od aOL aRS aCD pw pb ah hs sn sa sz lp op ja (hC) (hja)) (cwV 1 hts gX9_control_X9_controlNow rfl rfl rfl ⟨rfl, hdX9_controlNow⟩ ⟨Nat.le_of_ble_eq_true rfl, Nat.le_of_ble_eq_true rfl⟩) (mu_pV hK hP hD (ro_recv hK hP (ci := 8) (q0 := 0) rfl rfl)) rfl rfl hl.1 rfl (lv_room (Nat.le_of_ble_eq_true rfl)) dX9_control_31 ⟨Nat.le_of_ble_eq_true rfl, Nat.le_of_ble_eq_true rfl⟩) hP hD hS [0, 1, 2, 3, 4] rfl (by decide) (fun uS => [(mo, .inr (8, [.int (nI 0), .int (nI c), .int (nI r), .long w, .int (nI pl), .int (nI n), .ref aML, .ref aMR, .ref aOW, .int (nI len), .ref aBU, .int (nI (nst c r w)), .ref aSA, .ref aSZ, .ref aLP, .ref aOP, .ref aFT, .int od, .ref aOL, .ref aRS, .ref aCD, .long pw, .int pb, .int ah, .long hs])), (aSA, .inl (Y.1, 16, .inl uS.1)), (aSZ, .inl (Y.1, 16, .inl uS.2.1)), (aLP, .inl (Y.2.2.1, 16, .inl uS.2.2.1)), (aOP, .inl (Y.2.2.1, 16, .inl uS.2.2.2))]) (fun _ => rfl) (fun _ => rfl) (fun uS H locs hpost hP hD hS => ?_)
    obtain ⟨sa2_31, sz2_31, lp2_31, op2_31⟩ := uS
    try dsimp only at hpost
    refine top_i (show _ = iI (ctrM c r w ja) from rfl) ?_
    have hP : va_P D vwCl [(mo, .inr (8, [.int (nI 0), .int (nI c), .int (nI r), .long w, .int (nI pl), .int (nI n), .ref aML, .ref aMR, .ref aOW, .int (nI len), .ref aBU, .int (nI (nst c r w)), .ref aSA, .ref aSZ, .ref aLP, .ref aOP, .ref aFT, .int od, .ref aOL, .ref aRS, .ref aCD, .long pw, .int pb, .int ah, .long hs])), (aSA, .inl (Y.1, 16, .inl sa2_31)), (aSZ, .inl (Y.1, 16, .inl sz2_31)), (aLP, .inl (Y.2.2.1, 16, .inl lp2_31)), (aOP, .inl (Y.2.2.1, 16, .inl op2_31))] H := hP
    have hD : va_D AA [(mo, .inr (8, [.int (nI 0), .int (nI c), .int (nI r), .long w, .int (nI pl), .int (nI n), .ref aML, .ref aMR, .ref aOW, .int (nI len), .ref aBU, .int (nI (nst c r w)), .ref aSA, .ref aSZ, .ref aLP, .ref aOP, .ref aFT, .int od, .ref aOL, .ref aRS, .ref aCD, .long pw, .int pb, .int ah, .long hs])), (aSA, .inl (Y.1, 16, .inl sa2_31)), (aSZ, .inl (Y.1, 16, .inl sz2_31)), (aLP, .inl (Y.2.2.1, 16, .inl lp2_31)), (aOP, .inl (Y.2.2.1, 16, .inl op2_31))] := hD
    subst hAA
    exact mu_iret hx hb hr hlocks hP hS (⟨_, _, _, _, _, _, _⟩) (rfl) (by rw [hcja]; exact RvP.ok (kD1_t c7)) (rfl) dX9_control_34
  · exact absurd c22 (by decide)

set_option maxHeartbeats 1200000 in
set_option maxRecDepth 100000 in
theorem c_X9_prediction (l : Launch) (D : va_G) (Y : vY) (mo : Nat) (th : Int32) (c : Nat) (r : Nat) (w : Int64) (pl : Nat) (n : Nat) (aML : Nat) (aMR : Nat) (aOW : Nat) (len : Nat) (aBU : Nat) (sn : Int32) (aSA : Nat) (aSZ : Nat) (aLP : Nat) (aOP : Nat) (aFT : Nat) (od : Int32) (aOL : Nat) (aRS : Nat) (aCD : Nat) (pw : Int64) (pb : Int32) (ah : Int32) (hs : Int64) (sa : Nat → Int32) (sz : Nat → Int32) (lp : Nat → Int32) (op : Nat → Int32) (ft : Nat → Int32) (hC : Cr c r) : Mu l yX9_prediction wsX9_prediction ({ frames := 8, cells := 0, slots := 0, locals := 185 } : Room) [.ref mo] D Y [(mo, .inr (8, [.int th, .int (nI c), .int (nI r), .long w, .int (nI pl), .int (nI n), .ref aML, .ref aMR, .ref aOW, .int (nI len), .ref aBU, .int sn, .ref aSA, .ref aSZ, .ref aLP, .ref aOP, .ref aFT, .int od, .ref aOL, .ref aRS, .ref aCD, .long pw, .int pb, .int ah, .long hs])), (aSA, .inl (Y.1, 16, .inl sa)), (aSZ, .inl (Y.1, 16, .inl sz)), (aLP, .inl (Y.2.2.1, 16, .inl lp)), (aOP, .inl (Y.2.2.1, 16, .inl op)), (aFT, .inl (Y.1, 1024, .inl ft))] (fun uS : Int32 × Int32 × Int32 × (Nat → Int32) × (Nat → Int32) × (Nat → Int32) × (Nat → Int32) × (Nat → Int32) => some (.int uS.2.1)) (fun uS : Int32 × Int32 × Int32 × (Nat → Int32) × (Nat → Int32) × (Nat → Int32) × (Nat → Int32) × (Nat → Int32) => [(mo, .inr (8, [.int uS.1, .int (nI c), .int (nI r), .long w, .int (nI pl), .int (nI n), .ref aML, .ref aMR, .ref aOW, .int (nI len), .ref aBU, .int uS.2.2.1, .ref aSA, .ref aSZ, .ref aLP, .ref aOP, .ref aFT, .int od, .ref aOL, .ref aRS, .ref aCD, .long pw, .int pb, .int ah, .long hs])), (aSA, .inl (Y.1, 16, .inl uS.2.2.2.1)), (aSZ, .inl (Y.1, 16, .inl uS.2.2.2.2.1)), (aLP, .inl (Y.2.2.1, 16, .inl uS.2.2.2.2.2.1)), (aOP, .inl (Y.2.2.1, 16, .inl uS.2.2.2.2.2.2.1)), (aFT, .inl (Y.1, 1024, .inl uS.2.2.2.2.2.2.2))]) (fun uS : Int32 × Int32 × Int32 × (Nat → Int32) × (Nat → Int32) × (Nat → Int32) × (Nat → Int32) × (Nat → Int32) => RvP (kD1 (decide (nst c r w ≤ 10))) uS.1 uS.2.1 (iI (prd c r w))) := by
  refine mu_intro (by decide +kernel) rfl (Nat.le_of_ble_eq_true rfl) [(0, .ref mo)] rfl ?_
  intro pG eG sG mG aG bG tG cG ls hx hb hr hml hts hown hlocks hK hP hD hS hl
  generalize hAA : adA [(mo, .inr (8, [.int th, .int (nI c), .int (nI r), .long w, .int (nI pl), .int (nI n), .ref aML, .ref aMR, .ref aOW, .int (nI len), .ref aBU, .int sn, .ref aSA, .ref aSZ, .ref aLP, .ref aOP, .ref aFT, .int od, .ref aOL, .ref aRS, .ref aCD, .long pw, .int pb, .int ah, .long hs])), (aSA, .inl (Y.1, 16, .inl sa)), (aSZ, .inl (Y.1, 16, .inl sz)), (aLP, .inl (Y.2.2.1, 16, .inl lp)), (aOP, .inl (Y.2.2.1, 16, .inl op)), (aFT, .inl (Y.1, 1024, .inl ft))] = AA at hD hS ⊢
  have hP : va_P D vwCl [(mo, .inr (8, [.int th, .int (nI c), .int (nI r), .long w, .int (nI pl), .int (nI n), .ref aML, .ref aMR, .ref aOW, .int (nI len), .ref aBU, .int sn, .ref aSA, .ref aSZ, .ref aLP, .ref aOP, .ref aFT, .int od, .ref aOL, .ref aRS, .ref aCD, .long pw, .int pb, .int ah, .long hs])), (aSA, .inl (Y.1, 16, .inl sa)), (aSZ, .inl (Y.1, 16, .inl sz)), (aLP, .inl (Y.2.2.1, 16, .inl lp)), (aOP, .inl (Y.2.2.1, 16, .inl op)), (aFT, .inl (Y.1, 1024, .inl ft))] sG.heap := hP
  have hD : va_D AA [(mo, .inr (8, [.int th, .int (nI c), .int (nI r), .long w, .int (nI pl), .int (nI n), .ref aML, .ref aMR, .ref aOW, .int (nI len), .ref aBU, .int sn, .ref aSA, .ref aSZ, .ref aLP, .ref aOP, .ref aFT, .int od, .ref aOL, .ref aRS, .ref aCD, .long pw, .int pb, .int ah, .long hs])), (aSA, .inl (Y.1, 16, .inl sa)), (aSZ, .inl (Y.1, 16, .inl sz)), (aLP, .inl (Y.2.2.1, 16, .inl lp)), (aOP, .inl (Y.2.2.1, 16, .inl op)), (aFT, .inl (Y.1, 1024, .inl ft))] := hD
  have hown : sG.vm.findClass RX9 = some mG.cls := hown
  have hl : lv_has ls 1 [(0, .ref mo)] := hl
  have hinX9 : ∀ w ∈ u_ws RX9 TX9 25, w ∈ wsX9_prediction := by decide +kernel
  have hS : va_S AA sG.heap sG.heap [] := hS
  obtain ⟨hq1, hq2, hq3, hq4, hq5, hq6, hq7, hq8, hq9, hq10, hq11⟩ := hC.q
  have hns := nst_le c r w
  refine lv_aload_n (pc := 0) hx hb dX9_prediction_0 rfl (lv_at hl 0 rfl) ?_
  refine lv_aload_n (pc := 1) hx hb dX9_prediction_1 rfl (lv_at hl 0 rfl) ?_
  refine mu_go (pc := 2) (va_runV (As := []) (rest := [.ref mo]) ⟨hx, hb, hml, hown, hts⟩ (c_X9_layStrings l D Y mo th c r w pl n aML aMR aOW len aBU aSA aSZ aLP aOP aFT od aOL aRS aCD pw pb ah hs sn sa sz lp op (hC)) (cwV 0 hts gX9_prediction_X9_layStrings rfl rfl rfl ⟨rfl, hdX9_layStrings⟩ ⟨Nat.le_of_ble_eq_true rfl, Nat.le_of_ble_eq_true rfl⟩) (mu_pV hK (hP.sub [0, 1, 2, 3, 4] rfl) (hD.sub [0, 1, 2, 3, 4] (by decide) rfl) (ro_recv hK hP (ci := 8) (q0 := 0) rfl rfl)) rfl rfl hl.1 rfl (lv_room (Nat.le_of_ble_eq_true rfl)) dX9_prediction_2 ⟨Nat.le_of_ble_eq_true rfl, Nat.le_of_ble_eq_true rfl⟩) hP hD hS [0, 1, 2, 3, 4] rfl (by decide) (fun uS => [(mo, .inr (8, [.int th, .int (nI c), .int (nI r), .long w, .int (nI pl), .int (nI n), .ref aML, .ref aMR, .ref aOW, .int (nI len), .ref aBU, .int (nI (nst c r w)), .ref aSA, .ref aSZ, .ref aLP, .ref aOP, .ref aFT, .int od, .ref aOL, .ref aRS, .ref aCD, .long pw, .int pb, .int ah, .long hs])), (aSA, .inl (Y.1, 16, .inl uS.1)), (aSZ, .inl (Y.1, 16, .inl uS.2.1)), (aLP, .inl (Y.2.2.1, 16, .inl uS.2.2.1)), (aOP, .inl (Y.2.2.1, 16, .inl uS.2.2.2)), (aFT, .inl (Y.1, 1024, .inl ft))]) (fun _ => rfl) (fun _ => rfl) (fun uS H locs hpost hP hD hS => ?_)
  obtain ⟨sa2_2, sz2_2, lp2_2, op2_2⟩ := uS
  try dsimp only at hpost
  refine top_i (show _ = nI (nst c r w) from rfl) ?_
  have hP : va_P D vwCl [(mo, .inr (8, [.int th, .int (nI c), .int (nI r), .long w, .int (nI pl), .int (nI n), .ref aML, .ref aMR, .ref aOW, .int (nI len), .ref aBU, .int (nI (nst c r w)), .ref aSA, .ref aSZ, .ref aLP, .ref aOP, .ref aFT, .int od, .ref aOL, .ref aRS, .ref aCD, .long pw, .int pb, .int ah, .long hs])), (aSA, .inl (Y.1, 16, .inl sa2_2)), (aSZ, .inl (Y.1, 16, .inl sz2_2)), (aLP, .inl (Y.2.2.1, 16, .inl lp2_2)), (aOP, .inl (Y.2.2.1, 16, .inl op2_2)), (aFT, .inl (Y.1, 1024, .inl ft))] H := hP
  have hD : va_D AA [(mo, .inr (8, [.int th, .int (nI c), .int (nI r), .long w, .int (nI pl), .int (nI n), .ref aML, .ref aMR, .ref aOW, .int (nI len), .ref aBU, .int (nI (nst c r w)), .ref aSA, .ref aSZ, .ref aLP, .ref aOP, .ref aFT, .int od, .ref aOL, .ref aRS, .ref aCD, .long pw, .int pb, .int ah, .long hs])), (aSA, .inl (Y.1, 16, .inl sa2_2)), (aSZ, .inl (Y.1, 16, .inl sz2_2)), (aLP, .inl (Y.2.2.1, 16, .inl lp2_2)), (aOP, .inl (Y.2.2.1, 16, .inl op2_2)), (aFT, .inl (Y.1, 1024, .inl ft))] := hD
  refine lv_bipush (pc := 5) (v := nI 10) hx hb dX9_prediction_5 rfl ?_
  refine n_icmp_gt (pc := 7) (tgt := 14) hx hb (by omega) (by omega) dX9_prediction_7 (by decide) (fun c7 => ?_) (fun c7 => ?_)
  · refine lv_iconst (pc := 14) (v := nI 1) hx hb dX9_prediction_14 rfl ?_
    refine va_put (pc := 15) (D := D) (ci := 8) (v := .int (nI 1)) (ty := .int) (C := RX9) (T := TX9) (N := 25) hx hb hts hinX9 tyX9 tyX9_ok nmX9 hown hK.1 hP hD hS 0 rfl rfl 0 (by decide) (hts (.fieldLink RX9 59 "BoxesGameModel" "thrown" "I") (List.mem_of_getElem? (i := 1) rfl)) (fun _ h9 => h9) rfl (by decide +kernel) (rfl) (rfl) (Nat.le_of_ble_eq_true rfl) dX9_prediction_15 (fun H locs hP hD hS => ?_)
    have hP : va_P D vwCl [(mo, .inr (8, [.int (nI 1), .int (nI c), .int (nI r), .long w, .int (nI pl), .int (nI n), .ref aML, .ref aMR, .ref aOW, .int (nI len), .ref aBU, .int (nI (nst c r w)), .ref aSA, .ref aSZ, .ref aLP, .ref aOP, .ref aFT, .int od, .ref aOL, .ref aRS, .ref aCD, .long pw, .int pb, .int ah, .long hs])), (aSA, .inl (Y.1, 16, .inl sa2_2)), (aSZ, .inl (Y.1, 16, .inl sz2_2)), (aLP, .inl (Y.2.2.1, 16, .inl lp2_2)), (aOP, .inl (Y.2.2.1, 16, .inl op2_2)), (aFT, .inl (Y.1, 1024, .inl ft))] H := hP
    have hD : va_D AA [(mo, .inr (8, [.int (nI 1), .int (nI c), .int (nI r), .long w, .int (nI pl), .int (nI n), .ref aML, .ref aMR, .ref aOW, .int (nI len), .ref aBU, .int (nI (nst c r w)), .ref aSA, .ref aSZ, .ref aLP, .ref aOP, .ref aFT, .int od, .ref aOL, .ref aRS, .ref aCD, .long pw, .int pb, .int ah, .long hs])), (aSA, .inl (Y.1, 16, .inl sa2_2)), (aSZ, .inl (Y.1, 16, .inl sz2_2)), (aLP, .inl (Y.2.2.1, 16, .inl lp2_2)), (aOP, .inl (Y.2.2.1, 16, .inl op2_2)), (aFT, .inl (Y.1, 1024, .inl ft))] := hD
    refine lv_aload_n (pc := 18) hx hb dX9_prediction_18 rfl (lv_at hl 0 rfl) ?_
    refine va_get (pc := 19) (D := D) (ci := 8) (v := .int (nI 1)) (C := RX9) (T := TX9) (N := 25) hx hb hts hinX9 hown hK.1 hP 0 rfl rfl 0 (by decide) (hts (.fieldLink RX9 59 "BoxesGameModel" "thrown" "I") (List.mem_of_getElem? (i := 1) rfl)) (fun _ h9 => h9) rfl dX9_prediction_19 ?_
    refine n_if_le (pc := 22) (tgt := 29) hx hb (by omega) dX9_prediction_22 (by decide) (fun c22 => ?_) (fun c22 => ?_)
    · exact absurd c22 (by decide)
    refine lv_iconst (pc := 25) (v := nI 0) hx hb dX9_prediction_25 rfl ?_
    refine lv_goto (pc := 26) (tgt := 33) hx hb dX9_prediction_26 (by decide) ?_
    subst hAA
    exact mu_iret hx hb hr hlocks hP hS (⟨_, _, _, _, _, _, _, _⟩) (rfl) (RvP.no (kD1_f (decide_eq_false (by omega))) (by decide)) (rfl) dX9_prediction_33
  refine lv_iconst (pc := 10) (v := nI 0) hx hb dX9_prediction_10 rfl ?_
  refine lv_goto (pc := 11) (tgt := 15) hx hb dX9_prediction_11 (by decide) ?_
  refine va_put (pc := 15) (D := D) (ci := 8) (v := .int (nI 0)) (ty := .int) (C := RX9) (T := TX9) (N := 25) hx hb hts hinX9 tyX9 tyX9_ok nmX9 hown hK.1 hP hD hS 0 rfl rfl 0 (by decide) (hts (.fieldLink RX9 59 "BoxesGameModel" "thrown" "I") (List.mem_of_getElem? (i := 1) rfl)) (fun _ h9 => h9) rfl (by decide +kernel) (rfl) (rfl) (Nat.le_of_ble_eq_true rfl) dX9_prediction_15 (fun H locs hP hD hS => ?_)
  have hP : va_P D vwCl [(mo, .inr (8, [.int (nI 0), .int (nI c), .int (nI r), .long w, .int (nI pl), .int (nI n), .ref aML, .ref aMR, .ref aOW, .int (nI len), .ref aBU, .int (nI (nst c r w)), .ref aSA, .ref aSZ, .ref aLP, .ref aOP, .ref aFT, .int od, .ref aOL, .ref aRS, .ref aCD, .long pw, .int pb, .int ah, .long hs])), (aSA, .inl (Y.1, 16, .inl sa2_2)), (aSZ, .inl (Y.1, 16, .inl sz2_2)), (aLP, .inl (Y.2.2.1, 16, .inl lp2_2)), (aOP, .inl (Y.2.2.1, 16, .inl op2_2)), (aFT, .inl (Y.1, 1024, .inl ft))] H := hP
  have hD : va_D AA [(mo, .inr (8, [.int (nI 0), .int (nI c), .int (nI r), .long w, .int (nI pl), .int (nI n), .ref aML, .ref aMR, .ref aOW, .int (nI len), .ref aBU, .int (nI (nst c r w)), .ref aSA, .ref aSZ, .ref aLP, .ref aOP, .ref aFT, .int od, .ref aOL, .ref aRS, .ref aCD, .long pw, .int pb, .int ah, .long hs])), (aSA, .inl (Y.1, 16, .inl sa2_2)), (aSZ, .inl (Y.1, 16, .inl sz2_2)), (aLP, .inl (Y.2.2.1, 16, .inl lp2_2)), (aOP, .inl (Y.2.2.1, 16, .inl op2_2)), (aFT, .inl (Y.1, 1024, .inl ft))] := hD
  refine lv_aload_n (pc := 18) hx hb dX9_prediction_18 rfl (lv_at hl 0 rfl) ?_
  refine va_get (pc := 19) (D := D) (ci := 8) (v := .int (nI 0)) (C := RX9) (T := TX9) (N := 25) hx hb hts hinX9 hown hK.1 hP 0 rfl rfl 0 (by decide) (hts (.fieldLink RX9 59 "BoxesGameModel" "thrown" "I") (List.mem_of_getElem? (i := 1) rfl)) (fun _ h9 => h9) rfl dX9_prediction_19 ?_
  refine n_if_le (pc := 22) (tgt := 29) hx hb (by omega) dX9_prediction_22 (by decide) (fun c22 => ?_) (fun c22 => ?_)
  · refine lv_aload_n (pc := 29) hx hb dX9_prediction_29 rfl (lv_at hl 0 rfl) ?_
    refine mu_go (pc := 30) (va_runV (As := []) (rest := []) ⟨hx, hb, hml, hown, hts⟩ (c_X9_predictionNow l D Y mo c r ([.int (nI 0), .int (nI c), .int (nI r), .long w, .int (nI pl), .int (nI n), .ref aML, .ref aMR, .ref aOW, .int (nI len), .ref aBU, .int (nI (nst c r w)), .ref aSA, .ref aSZ, .ref aLP, .ref aOP, .ref aFT, .int od, .ref aOL, .ref aRS, .ref aCD, .long pw, .int pb, .int ah, .long hs]) aSZ aLP aFT w sz2_2 lp2_2 sa2_2 op2_2 ft (by first | assumption | exact ⟨rfl, rfl⟩) (hC) (by first | assumption | rfl) (by first | assumption | rfl) (by first | assumption | rfl) (by first | assumption | rfl) (c7) (hpost)) (cwV 0 hts gX9_prediction_X9_predictionNow rfl rfl rfl ⟨rfl, hdX9_predictionNow⟩ ⟨Nat.le_of_ble_eq_true rfl, Nat.le_of_ble_eq_true rfl⟩) (mu_pV hK (hP.sub [0, 2, 3, 5] rfl) (hD.sub [0, 2, 3, 5] (by decide) rfl) (ro_recv hK hP (ci := 8) (q0 := 0) rfl rfl)) rfl rfl hl.1 rfl (lv_room (Nat.le_of_ble_eq_true rfl)) dX9_prediction_30 ⟨Nat.le_of_ble_eq_true rfl, Nat.le_of_ble_eq_true rfl⟩) hP hD hS [0, 2, 3, 5] rfl (by decide) (fun uS => [(mo, .inr (8, [.int (nI 0), .int (nI c), .int (nI r), .long w, .int (nI pl), .int (nI n), .ref aML, .ref aMR, .ref aOW, .int (nI len), .ref aBU, .int (nI (nst c r w)), .ref aSA, .ref aSZ, .ref aLP, .ref aOP, .ref aFT, .int od, .ref aOL, .ref aRS, .ref aCD, .long pw, .int pb, .int ah, .long hs])), (aSA, .inl (Y.1, 16, .inl sa2_2)), (aSZ, .inl (Y.1, 16, .inl sz2_2)), (aLP, .inl (Y.2.2.1, 16, .inl lp2_2)), (aOP, .inl (Y.2.2.1, 16, .inl op2_2)), (aFT, .inl (Y.1, 1024, .inl uS))]) (fun _ => rfl) (fun _ => rfl) (fun ft2_30 H locs hpost hP hD hS => ?_)
    have hP : va_P D vwCl [(mo, .inr (8, [.int (nI 0), .int (nI c), .int (nI r), .long w, .int (nI pl), .int (nI n), .ref aML, .ref aMR, .ref aOW, .int (nI len), .ref aBU, .int (nI (nst c r w)), .ref aSA, .ref aSZ, .ref aLP, .ref aOP, .ref aFT, .int od, .ref aOL, .ref aRS, .ref aCD, .long pw, .int pb, .int ah, .long hs])), (aSA, .inl (Y.1, 16, .inl sa2_2)), (aSZ, .inl (Y.1, 16, .inl sz2_2)), (aLP, .inl (Y.2.2.1, 16, .inl lp2_2)), (aOP, .inl (Y.2.2.1, 16, .inl op2_2)), (aFT, .inl (Y.1, 1024, .inl ft2_30))] H := hP
    have hD : va_D AA [(mo, .inr (8, [.int (nI 0), .int (nI c), .int (nI r), .long w, .int (nI pl), .int (nI n), .ref aML, .ref aMR, .ref aOW, .int (nI len), .ref aBU, .int (nI (nst c r w)), .ref aSA, .ref aSZ, .ref aLP, .ref aOP, .ref aFT, .int od, .ref aOL, .ref aRS, .ref aCD, .long pw, .int pb, .int ah, .long hs])), (aSA, .inl (Y.1, 16, .inl sa2_2)), (aSZ, .inl (Y.1, 16, .inl sz2_2)), (aLP, .inl (Y.2.2.1, 16, .inl lp2_2)), (aOP, .inl (Y.2.2.1, 16, .inl op2_2)), (aFT, .inl (Y.1, 1024, .inl ft2_30))] := hD
    subst hAA
    exact mu_iret hx hb hr hlocks hP hS (⟨_, _, _, _, _, _, _, _⟩) (rfl) (RvP.ok (kD1_t (decide_eq_true (by omega)))) (rfl) dX9_prediction_33
  · exact absurd c22 (by decide)

set_option maxHeartbeats 1200000 in
set_option maxRecDepth 100000 in
theorem c_X9_outcome (l : Launch) (D : va_G) (Y : vY) (mo : Nat) (th : Int32) (c : Nat) (r : Nat) (w : Int64) (pl : Nat) (n : Nat) (aML : Nat) (aMR : Nat) (aOW : Nat) (len : Nat) (aBU : Nat) (sn : Int32) (aSA : Nat) (aSZ : Nat) (aLP : Nat) (aOP : Nat) (aFT : Nat) (od : Int32) (aOL : Nat) (aRS : Nat) (aCD : Nat) (pw : Int64) (pb : Int32) (ah : Int32) (hs : Int64) (ol : Nat → Int32) (rs : Nat → Int32) (hC : Cr c r) (hw0 : Onb c r w) : Mu l yX9_outcome wsX9_outcome ({ frames := 8, cells := 0, slots := 0, locals := 192 } : Room) [.ref mo] D Y [(mo, .inr (8, [.int th, .int (nI c), .int (nI r), .long w, .int (nI pl), .int (nI n), .ref aML, .ref aMR, .ref aOW, .int (nI len), .ref aBU, .int sn, .ref aSA, .ref aSZ, .ref aLP, .ref aOP, .ref aFT, .int od, .ref aOL, .ref aRS, .ref aCD, .long pw, .int pb, .int ah, .long hs])), (aOL, .inl (Y.1, 12, .inl ol)), (aRS, .inl (Y.1, 4096, .inl rs))] (fun uS : Int32 × Int32 × Int32 × (Nat → Int32) × (Nat → Int32) => some (.int uS.2.1)) (fun uS : Int32 × Int32 × Int32 × (Nat → Int32) × (Nat → Int32) => [(mo, .inr (8, [.int uS.1, .int (nI c), .int (nI r), .long w, .int (nI pl), .int (nI n), .ref aML, .ref aMR, .ref aOW, .int (nI len), .ref aBU, .int sn, .ref aSA, .ref aSZ, .ref aLP, .ref aOP, .ref aFT, .int uS.2.2.1, .ref aOL, .ref aRS, .ref aCD, .long pw, .int pb, .int ah, .long hs])), (aOL, .inl (Y.1, 12, .inl uS.2.2.2.1)), (aRS, .inl (Y.1, 4096, .inl uS.2.2.2.2))]) (fun uS : Int32 × Int32 × Int32 × (Nat → Int32) × (Nat → Int32) => RvP (kD1 (decide (und c r w ≤ 12))) uS.1 uS.2.1 (iI (out c r w))) := by
  refine mu_intro (by decide +kernel) rfl (Nat.le_of_ble_eq_true rfl) [(0, .ref mo)] rfl ?_
  intro pG eG sG mG aG bG tG cG ls hx hb hr hml hts hown hlocks hK hP hD hS hl
  generalize hAA : adA [(mo, .inr (8, [.int th, .int (nI c), .int (nI r), .long w, .int (nI pl), .int (nI n), .ref aML, .ref aMR, .ref aOW, .int (nI len), .ref aBU, .int sn, .ref aSA, .ref aSZ, .ref aLP, .ref aOP, .ref aFT, .int od, .ref aOL, .ref aRS, .ref aCD, .long pw, .int pb, .int ah, .long hs])), (aOL, .inl (Y.1, 12, .inl ol)), (aRS, .inl (Y.1, 4096, .inl rs))] = AA at hD hS ⊢
  have hP : va_P D vwCl [(mo, .inr (8, [.int th, .int (nI c), .int (nI r), .long w, .int (nI pl), .int (nI n), .ref aML, .ref aMR, .ref aOW, .int (nI len), .ref aBU, .int sn, .ref aSA, .ref aSZ, .ref aLP, .ref aOP, .ref aFT, .int od, .ref aOL, .ref aRS, .ref aCD, .long pw, .int pb, .int ah, .long hs])), (aOL, .inl (Y.1, 12, .inl ol)), (aRS, .inl (Y.1, 4096, .inl rs))] sG.heap := hP
  have hD : va_D AA [(mo, .inr (8, [.int th, .int (nI c), .int (nI r), .long w, .int (nI pl), .int (nI n), .ref aML, .ref aMR, .ref aOW, .int (nI len), .ref aBU, .int sn, .ref aSA, .ref aSZ, .ref aLP, .ref aOP, .ref aFT, .int od, .ref aOL, .ref aRS, .ref aCD, .long pw, .int pb, .int ah, .long hs])), (aOL, .inl (Y.1, 12, .inl ol)), (aRS, .inl (Y.1, 4096, .inl rs))] := hD
  have hown : sG.vm.findClass RX9 = some mG.cls := hown
  have hl : lv_has ls 1 [(0, .ref mo)] := hl
  have hinX9 : ∀ w ∈ u_ws RX9 TX9 25, w ∈ wsX9_outcome := by decide +kernel
  have hS : va_S AA sG.heap sG.heap [] := hS
  obtain ⟨hq1, hq2, hq3, hq4, hq5, hq6, hq7, hq8, hq9, hq10, hq11⟩ := hC.q
  have hul := und_le c r w
  refine lv_aload_n (pc := 0) hx hb dX9_outcome_0 rfl (lv_at hl 0 rfl) ?_
  refine lv_aload_n (pc := 1) hx hb dX9_outcome_1 rfl (lv_at hl 0 rfl) ?_
  refine lv_aload_n (pc := 2) hx hb dX9_outcome_2 rfl (lv_at hl 0 rfl) ?_
  refine va_get (pc := 3) (D := D) (ci := 8) (v := .long w) (C := RX9) (T := TX9) (N := 25) hx hb hts hinX9 hown hK.1 hP 0 rfl rfl 3 (by decide) (hts (.fieldLink RX9 119 "BoxesGameModel" "now" "J") (List.mem_of_getElem? (i := 1) rfl)) (fun _ h9 => h9) rfl dX9_outcome_3 ?_
  refine ro_go (pc := 6) (va_runV (As := [.long w]) (rest := [.ref mo]) ⟨hx, hb, hml, hown, hts⟩ (c_X9_open l D Y mo c r ([.int th, .int (nI c), .int (nI r), .long w, .int (nI pl), .int (nI n), .ref aML, .ref aMR, .ref aOW, .int (nI len), .ref aBU, .int sn, .ref aSA, .ref aSZ, .ref aLP, .ref aOP, .ref aFT, .int od, .ref aOL, .ref aRS, .ref aCD, .long pw, .int pb, .int ah, .long hs]) w (by first | assumption | exact ⟨rfl, rfl⟩) (hC) (hw0)) (cwV 1 hts gX9_outcome_X9_open rfl rfl rfl ⟨rfl, hdX9_open⟩ ⟨Nat.le_of_ble_eq_true rfl, Nat.le_of_ble_eq_true rfl⟩) (ro_pV hK (hP.sub [0] rfl) (ro_recv hK hP (ci := 8) (q0 := 0) rfl rfl)) rfl rfl hl.1 rfl (lv_room (Nat.le_of_ble_eq_true rfl)) dX9_outcome_6 ⟨Nat.le_of_ble_eq_true rfl, Nat.le_of_ble_eq_true rfl⟩) ?_
  refine lv_bipush (pc := 9) (v := nI 12) hx hb dX9_outcome_9 rfl ?_
  refine n_icmp_gt (pc := 11) (tgt := 18) hx hb (by omega) (by omega) dX9_outcome_11 (by decide) (fun c11 => ?_) (fun c11 => ?_)
  · refine lv_iconst (pc := 18) (v := nI 1) hx hb dX9_outcome_18 rfl ?_
    refine va_put (pc := 19) (D := D) (ci := 8) (v := .int (nI 1)) (ty := .int) (C := RX9) (T := TX9) (N := 25) hx hb hts hinX9 tyX9 tyX9_ok nmX9 hown hK.1 hP hD hS 0 rfl rfl 0 (by decide) (hts (.fieldLink RX9 59 "BoxesGameModel" "thrown" "I") (List.mem_of_getElem? (i := 2) rfl)) (fun _ h9 => h9) rfl (by decide +kernel) (rfl) (rfl) (Nat.le_of_ble_eq_true rfl) dX9_outcome_19 (fun H locs hP hD hS => ?_)
    have hP : va_P D vwCl [(mo, .inr (8, [.int (nI 1), .int (nI c), .int (nI r), .long w, .int (nI pl), .int (nI n), .ref aML, .ref aMR, .ref aOW, .int (nI len), .ref aBU, .int sn, .ref aSA, .ref aSZ, .ref aLP, .ref aOP, .ref aFT, .int od, .ref aOL, .ref aRS, .ref aCD, .long pw, .int pb, .int ah, .long hs])), (aOL, .inl (Y.1, 12, .inl ol)), (aRS, .inl (Y.1, 4096, .inl rs))] H := hP
    have hD : va_D AA [(mo, .inr (8, [.int (nI 1), .int (nI c), .int (nI r), .long w, .int (nI pl), .int (nI n), .ref aML, .ref aMR, .ref aOW, .int (nI len), .ref aBU, .int sn, .ref aSA, .ref aSZ, .ref aLP, .ref aOP, .ref aFT, .int od, .ref aOL, .ref aRS, .ref aCD, .long pw, .int pb, .int ah, .long hs])), (aOL, .inl (Y.1, 12, .inl ol)), (aRS, .inl (Y.1, 4096, .inl rs))] := hD
    refine lv_aload_n (pc := 22) hx hb dX9_outcome_22 rfl (lv_at hl 0 rfl) ?_
    refine va_get (pc := 23) (D := D) (ci := 8) (v := .int (nI 1)) (C := RX9) (T := TX9) (N := 25) hx hb hts hinX9 hown hK.1 hP 0 rfl rfl 0 (by decide) (hts (.fieldLink RX9 59 "BoxesGameModel" "thrown" "I") (List.mem_of_getElem? (i := 2) rfl)) (fun _ h9 => h9) rfl dX9_outcome_23 ?_
    refine n_if_le (pc := 26) (tgt := 33) hx hb (by omega) dX9_outcome_26 (by decide) (fun c26 => ?_) (fun c26 => ?_)
    · exact absurd c26 (by decide)
    refine lv_iconst (pc := 29) (v := nI 0) hx hb dX9_outcome_29 rfl ?_
    refine lv_goto (pc := 30) (tgt := 37) hx hb dX9_outcome_30 (by decide) ?_
    subst hAA
    exact mu_iret hx hb hr hlocks hP hS (⟨_, _, _, _, _⟩) (rfl) (RvP.no (kD1_f (decide_eq_false (by omega))) (by decide)) (rfl) dX9_outcome_37
  refine lv_iconst (pc := 14) (v := nI 0) hx hb dX9_outcome_14 rfl ?_
  refine lv_goto (pc := 15) (tgt := 19) hx hb dX9_outcome_15 (by decide) ?_
  refine va_put (pc := 19) (D := D) (ci := 8) (v := .int (nI 0)) (ty := .int) (C := RX9) (T := TX9) (N := 25) hx hb hts hinX9 tyX9 tyX9_ok nmX9 hown hK.1 hP hD hS 0 rfl rfl 0 (by decide) (hts (.fieldLink RX9 59 "BoxesGameModel" "thrown" "I") (List.mem_of_getElem? (i := 2) rfl)) (fun _ h9 => h9) rfl (by decide +kernel) (rfl) (rfl) (Nat.le_of_ble_eq_true rfl) dX9_outcome_19 (fun H locs hP hD hS => ?_)
  have hP : va_P D vwCl [(mo, .inr (8, [.int (nI 0), .int (nI c), .int (nI r), .long w, .int (nI pl), .int (nI n), .ref aML, .ref aMR, .ref aOW, .int (nI len), .ref aBU, .int sn, .ref aSA, .ref aSZ, .ref aLP, .ref aOP, .ref aFT, .int od, .ref aOL, .ref aRS, .ref aCD, .long pw, .int pb, .int ah, .long hs])), (aOL, .inl (Y.1, 12, .inl ol)), (aRS, .inl (Y.1, 4096, .inl rs))] H := hP
  have hD : va_D AA [(mo, .inr (8, [.int (nI 0), .int (nI c), .int (nI r), .long w, .int (nI pl), .int (nI n), .ref aML, .ref aMR, .ref aOW, .int (nI len), .ref aBU, .int sn, .ref aSA, .ref aSZ, .ref aLP, .ref aOP, .ref aFT, .int od, .ref aOL, .ref aRS, .ref aCD, .long pw, .int pb, .int ah, .long hs])), (aOL, .inl (Y.1, 12, .inl ol)), (aRS, .inl (Y.1, 4096, .inl rs))] := hD
  refine lv_aload_n (pc := 22) hx hb dX9_outcome_22 rfl (lv_at hl 0 rfl) ?_
  refine va_get (pc := 23) (D := D) (ci := 8) (v := .int (nI 0)) (C := RX9) (T := TX9) (N := 25) hx hb hts hinX9 hown hK.1 hP 0 rfl rfl 0 (by decide) (hts (.fieldLink RX9 59 "BoxesGameModel" "thrown" "I") (List.mem_of_getElem? (i := 2) rfl)) (fun _ h9 => h9) rfl dX9_outcome_23 ?_
  refine n_if_le (pc := 26) (tgt := 33) hx hb (by omega) dX9_outcome_26 (by decide) (fun c26 => ?_) (fun c26 => ?_)
  · refine lv_aload_n (pc := 33) hx hb dX9_outcome_33 rfl (lv_at hl 0 rfl) ?_
    refine mu_go (pc := 34) (va_runV (As := []) (rest := []) ⟨hx, hb, hml, hown, hts⟩ (c_X9_outcomeNow l D Y mo (nI 0) c r w pl n aML aMR aOW len aBU sn aSA aSZ aLP aOP aFT aOL aRS aCD pw pb ah hs od ol rs (hC) (hw0) (c11)) (cwV 0 hts gX9_outcome_X9_outcomeNow rfl rfl rfl ⟨rfl, hdX9_outcomeNow⟩ ⟨Nat.le_of_ble_eq_true rfl, Nat.le_of_ble_eq_true rfl⟩) (mu_pV hK hP hD (ro_recv hK hP (ci := 8) (q0 := 0) rfl rfl)) rfl rfl hl.1 rfl (lv_room (Nat.le_of_ble_eq_true rfl)) dX9_outcome_34 ⟨Nat.le_of_ble_eq_true rfl, Nat.le_of_ble_eq_true rfl⟩) hP hD hS [0, 1, 2] rfl (by decide) (fun uS => [(mo, .inr (8, [.int (nI 0), .int (nI c), .int (nI r), .long w, .int (nI pl), .int (nI n), .ref aML, .ref aMR, .ref aOW, .int (nI len), .ref aBU, .int sn, .ref aSA, .ref aSZ, .ref aLP, .ref aOP, .ref aFT, .int (nI (und c r w)), .ref aOL, .ref aRS, .ref aCD, .long pw, .int pb, .int ah, .long hs])), (aOL, .inl (Y.1, 12, .inl uS.1)), (aRS, .inl (Y.1, 4096, .inl uS.2))]) (fun _ => rfl) (fun _ => rfl) (fun uS H locs hpost hP hD hS => ?_)
    obtain ⟨ol2_34, rs2_34⟩ := uS
    refine top_i (show _ = iI (out c r w) from rfl) ?_
    have hP : va_P D vwCl [(mo, .inr (8, [.int (nI 0), .int (nI c), .int (nI r), .long w, .int (nI pl), .int (nI n), .ref aML, .ref aMR, .ref aOW, .int (nI len), .ref aBU, .int sn, .ref aSA, .ref aSZ, .ref aLP, .ref aOP, .ref aFT, .int (nI (und c r w)), .ref aOL, .ref aRS, .ref aCD, .long pw, .int pb, .int ah, .long hs])), (aOL, .inl (Y.1, 12, .inl ol2_34)), (aRS, .inl (Y.1, 4096, .inl rs2_34))] H := hP
    have hD : va_D AA [(mo, .inr (8, [.int (nI 0), .int (nI c), .int (nI r), .long w, .int (nI pl), .int (nI n), .ref aML, .ref aMR, .ref aOW, .int (nI len), .ref aBU, .int sn, .ref aSA, .ref aSZ, .ref aLP, .ref aOP, .ref aFT, .int (nI (und c r w)), .ref aOL, .ref aRS, .ref aCD, .long pw, .int pb, .int ah, .long hs])), (aOL, .inl (Y.1, 12, .inl ol2_34)), (aRS, .inl (Y.1, 4096, .inl rs2_34))] := hD
    subst hAA
    exact mu_iret hx hb hr hlocks hP hS (⟨_, _, _, _, _⟩) (rfl) (RvP.ok (kD1_t (decide_eq_true (by omega)))) (rfl) dX9_outcome_37
  · exact absurd c26 (by decide)

set_option maxHeartbeats 1200000 in
set_option maxRecDepth 100000 in
theorem c_X9_worth (l : Launch) (D : va_G) (Y : vY) (mo : Nat) (th : Int32) (c : Nat) (r : Nat) (w : Int64) (pl : Nat) (n : Nat) (aML : Nat) (aMR : Nat) (aOW : Nat) (len : Nat) (aBU : Nat) (sn : Int32) (aSA : Nat) (aSZ : Nat) (aLP : Nat) (aOP : Nat) (aFT : Nat) (od : Int32) (aOL : Nat) (aRS : Nat) (aCD : Nat) (pw : Int64) (pb : Int32) (ah : Int32) (hs : Int64) (ol : Nat → Int32) (rs : Nat → Int32) (x : Int32) (hC : Cr c r) (hw0 : Onb c r w) : Mu l yX9_worth wsX9_worth ({ frames := 8, cells := 0, slots := 0, locals := 193 } : Room) [.ref mo, .int x] D Y [(mo, .inr (8, [.int th, .int (nI c), .int (nI r), .long w, .int (nI pl), .int (nI n), .ref aML, .ref aMR, .ref aOW, .int (nI len), .ref aBU, .int sn, .ref aSA, .ref aSZ, .ref aLP, .ref aOP, .ref aFT, .int od, .ref aOL, .ref aRS, .ref aCD, .long pw, .int pb, .int ah, .long hs])), (aOL, .inl (Y.1, 12, .inl ol)), (aRS, .inl (Y.1, 4096, .inl rs))] (fun uS : Int32 × Int32 × Int32 × (Nat → Int32) × (Nat → Int32) => some (.int uS.2.1)) (fun uS : Int32 × Int32 × Int32 × (Nat → Int32) × (Nat → Int32) => [(mo, .inr (8, [.int uS.1, .int (nI c), .int (nI r), .long w, .int (nI pl), .int (nI n), .ref aML, .ref aMR, .ref aOW, .int (nI len), .ref aBU, .int sn, .ref aSA, .ref aSZ, .ref aLP, .ref aOP, .ref aFT, .int uS.2.2.1, .ref aOL, .ref aRS, .ref aCD, .long pw, .int pb, .int ah, .long hs])), (aOL, .inl (Y.1, 12, .inl uS.2.2.2.1)), (aRS, .inl (Y.1, 4096, .inl uS.2.2.2.2))]) (fun uS : Int32 × Int32 × Int32 × (Nat → Int32) × (Nat → Int32) => RvP (kD2 (wi x (nI 0) (nI (al c r - 1))) (!tb w x.toNatClampNeg && decide (und c r w ≤ 12))) uS.1 uS.2.1 (iI (wor c r w x.toNatClampNeg))) := by
  refine mu_intro (by decide +kernel) rfl (Nat.le_of_ble_eq_true rfl) [(0, .ref mo), (1, .int x)] rfl ?_
  intro pG eG sG mG aG bG tG cG ls hx hb hr hml hts hown hlocks hK hP hD hS hl
  generalize hAA : adA [(mo, .inr (8, [.int th, .int (nI c), .int (nI r), .long w, .int (nI pl), .int (nI n), .ref aML, .ref aMR, .ref aOW, .int (nI len), .ref aBU, .int sn, .ref aSA, .ref aSZ, .ref aLP, .ref aOP, .ref aFT, .int od, .ref aOL, .ref aRS, .ref aCD, .long pw, .int pb, .int ah, .long hs])), (aOL, .inl (Y.1, 12, .inl ol)), (aRS, .inl (Y.1, 4096, .inl rs))] = AA at hD hS ⊢
  have hP : va_P D vwCl [(mo, .inr (8, [.int th, .int (nI c), .int (nI r), .long w, .int (nI pl), .int (nI n), .ref aML, .ref aMR, .ref aOW, .int (nI len), .ref aBU, .int sn, .ref aSA, .ref aSZ, .ref aLP, .ref aOP, .ref aFT, .int od, .ref aOL, .ref aRS, .ref aCD, .long pw, .int pb, .int ah, .long hs])), (aOL, .inl (Y.1, 12, .inl ol)), (aRS, .inl (Y.1, 4096, .inl rs))] sG.heap := hP
  have hD : va_D AA [(mo, .inr (8, [.int th, .int (nI c), .int (nI r), .long w, .int (nI pl), .int (nI n), .ref aML, .ref aMR, .ref aOW, .int (nI len), .ref aBU, .int sn, .ref aSA, .ref aSZ, .ref aLP, .ref aOP, .ref aFT, .int od, .ref aOL, .ref aRS, .ref aCD, .long pw, .int pb, .int ah, .long hs])), (aOL, .inl (Y.1, 12, .inl ol)), (aRS, .inl (Y.1, 4096, .inl rs))] := hD
  have hown : sG.vm.findClass RX9 = some mG.cls := hown
  have hl : lv_has ls 2 [(0, .ref mo), (1, .int x)] := hl
  have hinX9 : ∀ w ∈ u_ws RX9 TX9 25, w ∈ wsX9_worth := by decide +kernel
  have hS : va_S AA sG.heap sG.heap [] := hS
  obtain ⟨hq1, hq2, hq3, hq4, hq5, hq6, hq7, hq8, hq9, hq10, hq11⟩ := hC.q
  have hul := und_le c r w
  refine lv_aload_n (pc := 0) hx hb dX9_worth_0 rfl (lv_at hl 0 rfl) ?_
  refine lv_aload_n (pc := 1) hx hb dX9_worth_1 rfl (lv_at hl 0 rfl) ?_
  refine lv_iload_n (pc := 2) hx hb dX9_worth_2 rfl (lv_at hl 1 rfl) ?_
  refine ro_go (pc := 3) (va_runV (As := [.int x]) (rest := [.ref mo]) ⟨hx, hb, hml, hown, hts⟩ (c_X9_isLine l D Y mo c r ([.int th, .int (nI c), .int (nI r), .long w, .int (nI pl), .int (nI n), .ref aML, .ref aMR, .ref aOW, .int (nI len), .ref aBU, .int sn, .ref aSA, .ref aSZ, .ref aLP, .ref aOP, .ref aFT, .int od, .ref aOL, .ref aRS, .ref aCD, .long pw, .int pb, .int ah, .long hs]) x (by first | assumption | exact ⟨rfl, rfl⟩) (hC)) (cwV 1 hts gX9_worth_X9_isLine rfl rfl rfl ⟨rfl, hdX9_isLine⟩ ⟨Nat.le_of_ble_eq_true rfl, Nat.le_of_ble_eq_true rfl⟩) (ro_pV hK (hP.sub [0] rfl) (ro_recv hK hP (ci := 8) (q0 := 0) rfl rfl)) rfl rfl hl.1 rfl (lv_room (Nat.le_of_ble_eq_true rfl)) dX9_worth_3 ⟨Nat.le_of_ble_eq_true rfl, Nat.le_of_ble_eq_true rfl⟩) ?_
  refine z_if_ne (pc := 6) (tgt := 13) hx hb dX9_worth_6 (by decide) (fun c6 => ?_) (fun c6 => ?_)
  · obtain ⟨li, hli, rfl⟩ := wi_of (by omega) c6
    have hl0 : li < al c r := by omega
    have hcl : (nI li).toNatClampNeg = li := nI_clamp (by omega)
    have hl : lv_has ls 2 [(0, .ref mo), (1, .int (nI li))] := hl
    refine lv_aload_n (pc := 13) hx hb dX9_worth_13 rfl (lv_at hl 0 rfl) ?_
    refine va_get (pc := 14) (D := D) (ci := 8) (v := .long w) (C := RX9) (T := TX9) (N := 25) hx hb hts hinX9 hown hK.1 hP 0 rfl rfl 3 (by decide) (hts (.fieldLink RX9 119 "BoxesGameModel" "now" "J") (List.mem_of_getElem? (i := 1) rfl)) (fun _ h9 => h9) rfl dX9_worth_14 ?_
    refine lv_iload_n (pc := 17) hx hb dX9_worth_17 rfl (lv_at hl 1 rfl) ?_
    refine ro_go (pc := 18) (va_runS (As := [.long w, .int (nI li)]) (rest := [.ref mo]) ⟨hx, hb, hml, hown, hts⟩ (c_X9_has l D Y w li (by omega)) (va_cwS 2 hts gX9_worth_X9_has rfl rfl rfl hdX9_has ⟨Nat.le_of_ble_eq_true rfl, Nat.le_of_ble_eq_true rfl⟩) (ro_pS hK (hP.sub [] rfl)) rfl rfl hl.1 rfl (lv_room (Nat.le_of_ble_eq_true rfl)) dX9_worth_18 ⟨Nat.le_of_ble_eq_true rfl, Nat.le_of_ble_eq_true rfl⟩) ?_
    refine z_if_ne (pc := 21) (tgt := 37) hx hb dX9_worth_21 (by decide) (fun c21 => ?_) (fun c21 => ?_)
    · refine lv_iconst (pc := 37) (v := nI 2) hx hb dX9_worth_37 rfl ?_
      refine lv_goto (pc := 38) (tgt := 42) hx hb dX9_worth_38 (by decide) ?_
      refine va_put (pc := 42) (D := D) (ci := 8) (v := .int (nI 2)) (ty := .int) (C := RX9) (T := TX9) (N := 25) hx hb hts hinX9 tyX9 tyX9_ok nmX9 hown hK.1 hP hD hS 0 rfl rfl 0 (by decide) (hts (.fieldLink RX9 59 "BoxesGameModel" "thrown" "I") (List.mem_of_getElem? (i := 2) rfl)) (fun _ h9 => h9) rfl (by decide +kernel) (rfl) (rfl) (Nat.le_of_ble_eq_true rfl) dX9_worth_42 (fun H locs hP hD hS => ?_)
      have hP : va_P D vwCl [(mo, .inr (8, [.int (nI 2), .int (nI c), .int (nI r), .long w, .int (nI pl), .int (nI n), .ref aML, .ref aMR, .ref aOW, .int (nI len), .ref aBU, .int sn, .ref aSA, .ref aSZ, .ref aLP, .ref aOP, .ref aFT, .int od, .ref aOL, .ref aRS, .ref aCD, .long pw, .int pb, .int ah, .long hs])), (aOL, .inl (Y.1, 12, .inl ol)), (aRS, .inl (Y.1, 4096, .inl rs))] H := hP
      have hD : va_D AA [(mo, .inr (8, [.int (nI 2), .int (nI c), .int (nI r), .long w, .int (nI pl), .int (nI n), .ref aML, .ref aMR, .ref aOW, .int (nI len), .ref aBU, .int sn, .ref aSA, .ref aSZ, .ref aLP, .ref aOP, .ref aFT, .int od, .ref aOL, .ref aRS, .ref aCD, .long pw, .int pb, .int ah, .long hs])), (aOL, .inl (Y.1, 12, .inl ol)), (aRS, .inl (Y.1, 4096, .inl rs))] := hD
      refine lv_aload_n (pc := 45) hx hb dX9_worth_45 rfl (lv_at hl 0 rfl) ?_
      refine va_get (pc := 46) (D := D) (ci := 8) (v := .int (nI 2)) (C := RX9) (T := TX9) (N := 25) hx hb hts hinX9 hown hK.1 hP 0 rfl rfl 0 (by decide) (hts (.fieldLink RX9 59 "BoxesGameModel" "thrown" "I") (List.mem_of_getElem? (i := 2) rfl)) (fun _ h9 => h9) rfl dX9_worth_46 ?_
      refine n_if_le (pc := 49) (tgt := 56) hx hb (by omega) dX9_worth_49 (by decide) (fun c49 => ?_) (fun c49 => ?_)
      · exact absurd c49 (by decide)
      refine lv_iconst (pc := 52) (v := nI 0) hx hb dX9_worth_52 rfl ?_
      refine lv_goto (pc := 53) (tgt := 61) hx hb dX9_worth_53 (by decide) ?_
      subst hAA
      exact mu_iret hx hb hr hlocks hP hS (⟨_, _, _, _, _⟩) (rfl) (RvP.no (kD2_2 c6 (by rw [hcl, c21]; rfl)) (by decide)) (rfl) dX9_worth_61
    refine lv_aload_n (pc := 24) hx hb dX9_worth_24 rfl (lv_at hl 0 rfl) ?_
    refine lv_aload_n (pc := 25) hx hb dX9_worth_25 rfl (lv_at hl 0 rfl) ?_
    refine va_get (pc := 26) (D := D) (ci := 8) (v := .long w) (C := RX9) (T := TX9) (N := 25) hx hb hts hinX9 hown hK.1 hP 0 rfl rfl 3 (by decide) (hts (.fieldLink RX9 119 "BoxesGameModel" "now" "J") (List.mem_of_getElem? (i := 1) rfl)) (fun _ h9 => h9) rfl dX9_worth_26 ?_
    refine ro_go (pc := 29) (va_runV (As := [.long w]) (rest := [.ref mo]) ⟨hx, hb, hml, hown, hts⟩ (c_X9_open l D Y mo c r ([.int th, .int (nI c), .int (nI r), .long w, .int (nI pl), .int (nI n), .ref aML, .ref aMR, .ref aOW, .int (nI len), .ref aBU, .int sn, .ref aSA, .ref aSZ, .ref aLP, .ref aOP, .ref aFT, .int od, .ref aOL, .ref aRS, .ref aCD, .long pw, .int pb, .int ah, .long hs]) w (by first | assumption | exact ⟨rfl, rfl⟩) (hC) (hw0)) (cwV 1 hts gX9_worth_X9_open rfl rfl rfl ⟨rfl, hdX9_open⟩ ⟨Nat.le_of_ble_eq_true rfl, Nat.le_of_ble_eq_true rfl⟩) (ro_pV hK (hP.sub [0] rfl) (ro_recv hK hP (ci := 8) (q0 := 0) rfl rfl)) rfl rfl hl.1 rfl (lv_room (Nat.le_of_ble_eq_true rfl)) dX9_worth_29 ⟨Nat.le_of_ble_eq_true rfl, Nat.le_of_ble_eq_true rfl⟩) ?_
    refine lv_bipush (pc := 32) (v := nI 12) hx hb dX9_worth_32 rfl ?_
    refine n_icmp_le (pc := 34) (tgt := 41) hx hb (by omega) (by omega) dX9_worth_34 (by decide) (fun c34 => ?_) (fun c34 => ?_)
    · refine lv_iconst (pc := 41) (v := nI 0) hx hb dX9_worth_41 rfl ?_
      refine va_put (pc := 42) (D := D) (ci := 8) (v := .int (nI 0)) (ty := .int) (C := RX9) (T := TX9) (N := 25) hx hb hts hinX9 tyX9 tyX9_ok nmX9 hown hK.1 hP hD hS 0 rfl rfl 0 (by decide) (hts (.fieldLink RX9 59 "BoxesGameModel" "thrown" "I") (List.mem_of_getElem? (i := 2) rfl)) (fun _ h9 => h9) rfl (by decide +kernel) (rfl) (rfl) (Nat.le_of_ble_eq_true rfl) dX9_worth_42 (fun H locs hP hD hS => ?_)
      have hP : va_P D vwCl [(mo, .inr (8, [.int (nI 0), .int (nI c), .int (nI r), .long w, .int (nI pl), .int (nI n), .ref aML, .ref aMR, .ref aOW, .int (nI len), .ref aBU, .int sn, .ref aSA, .ref aSZ, .ref aLP, .ref aOP, .ref aFT, .int od, .ref aOL, .ref aRS, .ref aCD, .long pw, .int pb, .int ah, .long hs])), (aOL, .inl (Y.1, 12, .inl ol)), (aRS, .inl (Y.1, 4096, .inl rs))] H := hP
      have hD : va_D AA [(mo, .inr (8, [.int (nI 0), .int (nI c), .int (nI r), .long w, .int (nI pl), .int (nI n), .ref aML, .ref aMR, .ref aOW, .int (nI len), .ref aBU, .int sn, .ref aSA, .ref aSZ, .ref aLP, .ref aOP, .ref aFT, .int od, .ref aOL, .ref aRS, .ref aCD, .long pw, .int pb, .int ah, .long hs])), (aOL, .inl (Y.1, 12, .inl ol)), (aRS, .inl (Y.1, 4096, .inl rs))] := hD
      refine lv_aload_n (pc := 45) hx hb dX9_worth_45 rfl (lv_at hl 0 rfl) ?_
      refine va_get (pc := 46) (D := D) (ci := 8) (v := .int (nI 0)) (C := RX9) (T := TX9) (N := 25) hx hb hts hinX9 hown hK.1 hP 0 rfl rfl 0 (by decide) (hts (.fieldLink RX9 59 "BoxesGameModel" "thrown" "I") (List.mem_of_getElem? (i := 2) rfl)) (fun _ h9 => h9) rfl dX9_worth_46 ?_
      refine n_if_le (pc := 49) (tgt := 56) hx hb (by omega) dX9_worth_49 (by decide) (fun c49 => ?_) (fun c49 => ?_)
      · refine lv_aload_n (pc := 56) hx hb dX9_worth_56 rfl (lv_at hl 0 rfl) ?_
        refine lv_iload_n (pc := 57) hx hb dX9_worth_57 rfl (lv_at hl 1 rfl) ?_
        refine mu_go (pc := 58) (va_runV (As := [.int (nI li)]) (rest := []) ⟨hx, hb, hml, hown, hts⟩ (c_X9_worthNow l D Y mo (nI 0) c r w pl n aML aMR aOW len aBU sn aSA aSZ aLP aOP aFT aOL aRS aCD pw pb ah hs od li ol rs (hC) (hw0) (c34) (hl0) (c21)) (cwV 1 hts gX9_worth_X9_worthNow rfl rfl rfl ⟨rfl, hdX9_worthNow⟩ ⟨Nat.le_of_ble_eq_true rfl, Nat.le_of_ble_eq_true rfl⟩) (mu_pV hK hP hD (ro_recv hK hP (ci := 8) (q0 := 0) rfl rfl)) rfl rfl hl.1 rfl (lv_room (Nat.le_of_ble_eq_true rfl)) dX9_worth_58 ⟨Nat.le_of_ble_eq_true rfl, Nat.le_of_ble_eq_true rfl⟩) hP hD hS [0, 1, 2] rfl (by decide) (fun uS => [(mo, .inr (8, [.int (nI 0), .int (nI c), .int (nI r), .long w, .int (nI pl), .int (nI n), .ref aML, .ref aMR, .ref aOW, .int (nI len), .ref aBU, .int sn, .ref aSA, .ref aSZ, .ref aLP, .ref aOP, .ref aFT, .int (nI (und c r w)), .ref aOL, .ref aRS, .ref aCD, .long pw, .int pb, .int ah, .long hs])), (aOL, .inl (Y.1, 12, .inl uS.1)), (aRS, .inl (Y.1, 4096, .inl uS.2))]) (fun _ => rfl) (fun _ => rfl) (fun uS H locs hpost hP hD hS => ?_)
        obtain ⟨ol2_58, rs2_58⟩ := uS
        refine top_i (show _ = iI (wor c r w li) from rfl) ?_
        have hP : va_P D vwCl [(mo, .inr (8, [.int (nI 0), .int (nI c), .int (nI r), .long w, .int (nI pl), .int (nI n), .ref aML, .ref aMR, .ref aOW, .int (nI len), .ref aBU, .int sn, .ref aSA, .ref aSZ, .ref aLP, .ref aOP, .ref aFT, .int (nI (und c r w)), .ref aOL, .ref aRS, .ref aCD, .long pw, .int pb, .int ah, .long hs])), (aOL, .inl (Y.1, 12, .inl ol2_58)), (aRS, .inl (Y.1, 4096, .inl rs2_58))] H := hP
        have hD : va_D AA [(mo, .inr (8, [.int (nI 0), .int (nI c), .int (nI r), .long w, .int (nI pl), .int (nI n), .ref aML, .ref aMR, .ref aOW, .int (nI len), .ref aBU, .int sn, .ref aSA, .ref aSZ, .ref aLP, .ref aOP, .ref aFT, .int (nI (und c r w)), .ref aOL, .ref aRS, .ref aCD, .long pw, .int pb, .int ah, .long hs])), (aOL, .inl (Y.1, 12, .inl ol2_58)), (aRS, .inl (Y.1, 4096, .inl rs2_58))] := hD
        subst hAA
        exact mu_iret hx hb hr hlocks hP hS (⟨_, _, _, _, _⟩) (rfl) (by rw [hcl]; exact RvP.ok (by rw [c21, decide_eq_true (by omega)]; exact kD2_0 c6 rfl)) (rfl) dX9_worth_61
      · exact absurd c49 (by decide)
    refine lv_iconst (pc := 37) (v := nI 2) hx hb dX9_worth_37 rfl ?_
    refine lv_goto (pc := 38) (tgt := 42) hx hb dX9_worth_38 (by decide) ?_
    refine va_put (pc := 42) (D := D) (ci := 8) (v := .int (nI 2)) (ty := .int) (C := RX9) (T := TX9) (N := 25) hx hb hts hinX9 tyX9 tyX9_ok nmX9 hown hK.1 hP hD hS 0 rfl rfl 0 (by decide) (hts (.fieldLink RX9 59 "BoxesGameModel" "thrown" "I") (List.mem_of_getElem? (i := 2) rfl)) (fun _ h9 => h9) rfl (by decide +kernel) (rfl) (rfl) (Nat.le_of_ble_eq_true rfl) dX9_worth_42 (fun H locs hP hD hS => ?_)
    have hP : va_P D vwCl [(mo, .inr (8, [.int (nI 2), .int (nI c), .int (nI r), .long w, .int (nI pl), .int (nI n), .ref aML, .ref aMR, .ref aOW, .int (nI len), .ref aBU, .int sn, .ref aSA, .ref aSZ, .ref aLP, .ref aOP, .ref aFT, .int od, .ref aOL, .ref aRS, .ref aCD, .long pw, .int pb, .int ah, .long hs])), (aOL, .inl (Y.1, 12, .inl ol)), (aRS, .inl (Y.1, 4096, .inl rs))] H := hP
    have hD : va_D AA [(mo, .inr (8, [.int (nI 2), .int (nI c), .int (nI r), .long w, .int (nI pl), .int (nI n), .ref aML, .ref aMR, .ref aOW, .int (nI len), .ref aBU, .int sn, .ref aSA, .ref aSZ, .ref aLP, .ref aOP, .ref aFT, .int od, .ref aOL, .ref aRS, .ref aCD, .long pw, .int pb, .int ah, .long hs])), (aOL, .inl (Y.1, 12, .inl ol)), (aRS, .inl (Y.1, 4096, .inl rs))] := hD
    refine lv_aload_n (pc := 45) hx hb dX9_worth_45 rfl (lv_at hl 0 rfl) ?_
    refine va_get (pc := 46) (D := D) (ci := 8) (v := .int (nI 2)) (C := RX9) (T := TX9) (N := 25) hx hb hts hinX9 hown hK.1 hP 0 rfl rfl 0 (by decide) (hts (.fieldLink RX9 59 "BoxesGameModel" "thrown" "I") (List.mem_of_getElem? (i := 2) rfl)) (fun _ h9 => h9) rfl dX9_worth_46 ?_
    refine n_if_le (pc := 49) (tgt := 56) hx hb (by omega) dX9_worth_49 (by decide) (fun c49 => ?_) (fun c49 => ?_)
    · exact absurd c49 (by decide)
    refine lv_iconst (pc := 52) (v := nI 0) hx hb dX9_worth_52 rfl ?_
    refine lv_goto (pc := 53) (tgt := 61) hx hb dX9_worth_53 (by decide) ?_
    subst hAA
    exact mu_iret hx hb hr hlocks hP hS (⟨_, _, _, _, _⟩) (rfl) (RvP.no (kD2_2 c6 (by rw [decide_eq_false (by omega), Bool.and_false])) (by decide)) (rfl) dX9_worth_61
  refine lv_iconst (pc := 9) (v := nI 1) hx hb dX9_worth_9 rfl ?_
  refine lv_goto (pc := 10) (tgt := 42) hx hb dX9_worth_10 (by decide) ?_
  refine va_put (pc := 42) (D := D) (ci := 8) (v := .int (nI 1)) (ty := .int) (C := RX9) (T := TX9) (N := 25) hx hb hts hinX9 tyX9 tyX9_ok nmX9 hown hK.1 hP hD hS 0 rfl rfl 0 (by decide) (hts (.fieldLink RX9 59 "BoxesGameModel" "thrown" "I") (List.mem_of_getElem? (i := 2) rfl)) (fun _ h9 => h9) rfl (by decide +kernel) (rfl) (rfl) (Nat.le_of_ble_eq_true rfl) dX9_worth_42 (fun H locs hP hD hS => ?_)
  have hP : va_P D vwCl [(mo, .inr (8, [.int (nI 1), .int (nI c), .int (nI r), .long w, .int (nI pl), .int (nI n), .ref aML, .ref aMR, .ref aOW, .int (nI len), .ref aBU, .int sn, .ref aSA, .ref aSZ, .ref aLP, .ref aOP, .ref aFT, .int od, .ref aOL, .ref aRS, .ref aCD, .long pw, .int pb, .int ah, .long hs])), (aOL, .inl (Y.1, 12, .inl ol)), (aRS, .inl (Y.1, 4096, .inl rs))] H := hP
  have hD : va_D AA [(mo, .inr (8, [.int (nI 1), .int (nI c), .int (nI r), .long w, .int (nI pl), .int (nI n), .ref aML, .ref aMR, .ref aOW, .int (nI len), .ref aBU, .int sn, .ref aSA, .ref aSZ, .ref aLP, .ref aOP, .ref aFT, .int od, .ref aOL, .ref aRS, .ref aCD, .long pw, .int pb, .int ah, .long hs])), (aOL, .inl (Y.1, 12, .inl ol)), (aRS, .inl (Y.1, 4096, .inl rs))] := hD
  refine lv_aload_n (pc := 45) hx hb dX9_worth_45 rfl (lv_at hl 0 rfl) ?_
  refine va_get (pc := 46) (D := D) (ci := 8) (v := .int (nI 1)) (C := RX9) (T := TX9) (N := 25) hx hb hts hinX9 hown hK.1 hP 0 rfl rfl 0 (by decide) (hts (.fieldLink RX9 59 "BoxesGameModel" "thrown" "I") (List.mem_of_getElem? (i := 2) rfl)) (fun _ h9 => h9) rfl dX9_worth_46 ?_
  refine n_if_le (pc := 49) (tgt := 56) hx hb (by omega) dX9_worth_49 (by decide) (fun c49 => ?_) (fun c49 => ?_)
  · exact absurd c49 (by decide)
  refine lv_iconst (pc := 52) (v := nI 0) hx hb dX9_worth_52 rfl ?_
  refine lv_goto (pc := 53) (tgt := 61) hx hb dX9_worth_53 (by decide) ?_
  subst hAA
  exact mu_iret hx hb hr hlocks hP hS (⟨_, _, _, _, _⟩) (rfl) (RvP.no (kD2_1 c6) (by decide)) (rfl) dX9_worth_61

set_option maxHeartbeats 1200000 in
set_option maxRecDepth 100000 in
theorem c_X9_canonical (l : Launch) (D : va_G) (Y : vY) (mo : Nat) (th : Int32) (c : Nat) (r : Nat) (w : Int64) (pl : Nat) (n : Nat) (aML : Nat) (aMR : Nat) (aOW : Nat) (len : Nat) (aBU : Nat) (sn : Int32) (aSA : Nat) (aSZ : Nat) (aLP : Nat) (aOP : Nat) (aFT : Nat) (od : Int32) (aOL : Nat) (aRS : Nat) (aCD : Nat) (pw : Int64) (pb : Int32) (ah : Int32) (hs : Int64) (hC : Cr c r) (hw0 : Onb c r w) : Mu l yX9_canonical wsX9_canonical ({ frames := 6, cells := 0, slots := 0, locals := 140 } : Room) [.ref mo] D Y [(mo, .inr (8, [.int th, .int (nI c), .int (nI r), .long w, .int (nI pl), .int (nI n), .ref aML, .ref aMR, .ref aOW, .int (nI len), .ref aBU, .int sn, .ref aSA, .ref aSZ, .ref aLP, .ref aOP, .ref aFT, .int od, .ref aOL, .ref aRS, .ref aCD, .long pw, .int pb, .int ah, .long hs]))] (fun _ : Unit => some (.long (lsc c r w))) (fun _ : Unit => [(mo, .inr (8, [.int (nI 0), .int (nI c), .int (nI r), .long w, .int (nI pl), .int (nI n), .ref aML, .ref aMR, .ref aOW, .int (nI len), .ref aBU, .int sn, .ref aSA, .ref aSZ, .ref aLP, .ref aOP, .ref aFT, .int od, .ref aOL, .ref aRS, .ref aCD, .long pw, .int pb, .int ah, .long hs]))]) (fun _ : Unit => True) := by
  refine mu_intro (by decide +kernel) rfl (Nat.le_of_ble_eq_true rfl) [(0, .ref mo)] rfl ?_
  intro pG eG sG mG aG bG tG cG ls hx hb hr hml hts hown hlocks hK hP hD hS hl
  generalize hAA : adA [(mo, .inr (8, [.int th, .int (nI c), .int (nI r), .long w, .int (nI pl), .int (nI n), .ref aML, .ref aMR, .ref aOW, .int (nI len), .ref aBU, .int sn, .ref aSA, .ref aSZ, .ref aLP, .ref aOP, .ref aFT, .int od, .ref aOL, .ref aRS, .ref aCD, .long pw, .int pb, .int ah, .long hs]))] = AA at hD hS ⊢
  have hP : va_P D vwCl [(mo, .inr (8, [.int th, .int (nI c), .int (nI r), .long w, .int (nI pl), .int (nI n), .ref aML, .ref aMR, .ref aOW, .int (nI len), .ref aBU, .int sn, .ref aSA, .ref aSZ, .ref aLP, .ref aOP, .ref aFT, .int od, .ref aOL, .ref aRS, .ref aCD, .long pw, .int pb, .int ah, .long hs]))] sG.heap := hP
  have hD : va_D AA [(mo, .inr (8, [.int th, .int (nI c), .int (nI r), .long w, .int (nI pl), .int (nI n), .ref aML, .ref aMR, .ref aOW, .int (nI len), .ref aBU, .int sn, .ref aSA, .ref aSZ, .ref aLP, .ref aOP, .ref aFT, .int od, .ref aOL, .ref aRS, .ref aCD, .long pw, .int pb, .int ah, .long hs]))] := hD
  have hown : sG.vm.findClass RX9 = some mG.cls := hown
  have hl : lv_has ls 1 [(0, .ref mo)] := hl
  have hinX9 : ∀ w ∈ u_ws RX9 TX9 25, w ∈ wsX9_canonical := by decide +kernel
  have hS : va_S AA sG.heap sG.heap [] := hS
  obtain ⟨hq1, hq2, hq3, hq4, hq5, hq6, hq7, hq8, hq9, hq10, hq11⟩ := hC.q
  refine lv_aload_n (pc := 0) hx hb dX9_canonical_0 rfl (lv_at hl 0 rfl) ?_
  refine lv_iconst (pc := 1) (v := nI 0) hx hb dX9_canonical_1 rfl ?_
  refine va_put (pc := 2) (D := D) (ci := 8) (v := .int (nI 0)) (ty := .int) (C := RX9) (T := TX9) (N := 25) hx hb hts hinX9 tyX9 tyX9_ok nmX9 hown hK.1 hP hD hS 0 rfl rfl 0 (by decide) (hts (.fieldLink RX9 59 "BoxesGameModel" "thrown" "I") (List.mem_of_getElem? (i := 1) rfl)) (fun _ h9 => h9) rfl (by decide +kernel) (rfl) (rfl) (Nat.le_of_ble_eq_true rfl) dX9_canonical_2 (fun H locs hP hD hS => ?_)
  have hP : va_P D vwCl [(mo, .inr (8, [.int (nI 0), .int (nI c), .int (nI r), .long w, .int (nI pl), .int (nI n), .ref aML, .ref aMR, .ref aOW, .int (nI len), .ref aBU, .int sn, .ref aSA, .ref aSZ, .ref aLP, .ref aOP, .ref aFT, .int od, .ref aOL, .ref aRS, .ref aCD, .long pw, .int pb, .int ah, .long hs]))] H := hP
  have hD : va_D AA [(mo, .inr (8, [.int (nI 0), .int (nI c), .int (nI r), .long w, .int (nI pl), .int (nI n), .ref aML, .ref aMR, .ref aOW, .int (nI len), .ref aBU, .int sn, .ref aSA, .ref aSZ, .ref aLP, .ref aOP, .ref aFT, .int od, .ref aOL, .ref aRS, .ref aCD, .long pw, .int pb, .int ah, .long hs]))] := hD
  refine lv_aload_n (pc := 5) hx hb dX9_canonical_5 rfl (lv_at hl 0 rfl) ?_
  refine lv_aload_n (pc := 6) hx hb dX9_canonical_6 rfl (lv_at hl 0 rfl) ?_
  refine va_get (pc := 7) (D := D) (ci := 8) (v := .long w) (C := RX9) (T := TX9) (N := 25) hx hb hts hinX9 hown hK.1 hP 0 rfl rfl 3 (by decide) (hts (.fieldLink RX9 119 "BoxesGameModel" "now" "J") (List.mem_of_getElem? (i := 2) rfl)) (fun _ h9 => h9) rfl dX9_canonical_7 ?_
  refine ro_go (pc := 10) (va_runV (As := [.long w]) (rest := []) ⟨hx, hb, hml, hown, hts⟩ (c_X9_leastCode l D Y mo c r ([.int (nI 0), .int (nI c), .int (nI r), .long w, .int (nI pl), .int (nI n), .ref aML, .ref aMR, .ref aOW, .int (nI len), .ref aBU, .int sn, .ref aSA, .ref aSZ, .ref aLP, .ref aOP, .ref aFT, .int od, .ref aOL, .ref aRS, .ref aCD, .long pw, .int pb, .int ah, .long hs]) w (by first | assumption | exact ⟨rfl, rfl⟩) (hC) (hw0)) (cwV 1 hts gX9_canonical_X9_leastCode rfl rfl rfl ⟨rfl, hdX9_leastCode⟩ ⟨Nat.le_of_ble_eq_true rfl, Nat.le_of_ble_eq_true rfl⟩) (ro_pV hK hP (ro_recv hK hP (ci := 8) (q0 := 0) rfl rfl)) rfl rfl hl.1 rfl (lv_room (Nat.le_of_ble_eq_true rfl)) dX9_canonical_10 ⟨Nat.le_of_ble_eq_true rfl, Nat.le_of_ble_eq_true rfl⟩) ?_
  subst hAA
  exact mu_lret hx hb hr hlocks hP hS (()) (rfl) (trivial) (rfl) dX9_canonical_13

set_option maxHeartbeats 1200000 in
set_option maxRecDepth 100000 in
theorem c_X9_symmetries (l : Launch) (D : va_G) (Y : vY) (mo : Nat) (th : Int32) (c : Nat) (r : Nat) (w : Int64) (pl : Nat) (n : Nat) (aML : Nat) (aMR : Nat) (aOW : Nat) (len : Nat) (aBU : Nat) (sn : Int32) (aSA : Nat) (aSZ : Nat) (aLP : Nat) (aOP : Nat) (aFT : Nat) (od : Int32) (aOL : Nat) (aRS : Nat) (aCD : Nat) (pw : Int64) (pb : Int32) (ah : Int32) (hs : Int64) (hC : Cr c r) : Mu l yX9_symmetries wsX9_symmetries ({ frames := 6, cells := 0, slots := 0, locals := 135 } : Room) [.ref mo] D Y [(mo, .inr (8, [.int th, .int (nI c), .int (nI r), .long w, .int (nI pl), .int (nI n), .ref aML, .ref aMR, .ref aOW, .int (nI len), .ref aBU, .int sn, .ref aSA, .ref aSZ, .ref aLP, .ref aOP, .ref aFT, .int od, .ref aOL, .ref aRS, .ref aCD, .long pw, .int pb, .int ah, .long hs]))] (fun _ : Unit => some (.int (nI (fixn c r w)))) (fun _ : Unit => [(mo, .inr (8, [.int (nI 0), .int (nI c), .int (nI r), .long w, .int (nI pl), .int (nI n), .ref aML, .ref aMR, .ref aOW, .int (nI len), .ref aBU, .int sn, .ref aSA, .ref aSZ, .ref aLP, .ref aOP, .ref aFT, .int od, .ref aOL, .ref aRS, .ref aCD, .long pw, .int pb, .int ah, .long hs]))]) (fun _ : Unit => True) := by
  refine mu_intro (by decide +kernel) rfl (Nat.le_of_ble_eq_true rfl) [(0, .ref mo)] rfl ?_
  intro pG eG sG mG aG bG tG cG ls hx hb hr hml hts hown hlocks hK hP hD hS hl
  generalize hAA : adA [(mo, .inr (8, [.int th, .int (nI c), .int (nI r), .long w, .int (nI pl), .int (nI n), .ref aML, .ref aMR, .ref aOW, .int (nI len), .ref aBU, .int sn, .ref aSA, .ref aSZ, .ref aLP, .ref aOP, .ref aFT, .int od, .ref aOL, .ref aRS, .ref aCD, .long pw, .int pb, .int ah, .long hs]))] = AA at hD hS ⊢
  have hP : va_P D vwCl [(mo, .inr (8, [.int th, .int (nI c), .int (nI r), .long w, .int (nI pl), .int (nI n), .ref aML, .ref aMR, .ref aOW, .int (nI len), .ref aBU, .int sn, .ref aSA, .ref aSZ, .ref aLP, .ref aOP, .ref aFT, .int od, .ref aOL, .ref aRS, .ref aCD, .long pw, .int pb, .int ah, .long hs]))] sG.heap := hP
  have hD : va_D AA [(mo, .inr (8, [.int th, .int (nI c), .int (nI r), .long w, .int (nI pl), .int (nI n), .ref aML, .ref aMR, .ref aOW, .int (nI len), .ref aBU, .int sn, .ref aSA, .ref aSZ, .ref aLP, .ref aOP, .ref aFT, .int od, .ref aOL, .ref aRS, .ref aCD, .long pw, .int pb, .int ah, .long hs]))] := hD
  have hown : sG.vm.findClass RX9 = some mG.cls := hown
  have hl : lv_has ls 1 [(0, .ref mo)] := hl
  have hinX9 : ∀ w ∈ u_ws RX9 TX9 25, w ∈ wsX9_symmetries := by decide +kernel
  have hS : va_S AA sG.heap sG.heap [] := hS
  obtain ⟨hq1, hq2, hq3, hq4, hq5, hq6, hq7, hq8, hq9, hq10, hq11⟩ := hC.q
  refine lv_aload_n (pc := 0) hx hb dX9_symmetries_0 rfl (lv_at hl 0 rfl) ?_
  refine lv_iconst (pc := 1) (v := nI 0) hx hb dX9_symmetries_1 rfl ?_
  refine va_put (pc := 2) (D := D) (ci := 8) (v := .int (nI 0)) (ty := .int) (C := RX9) (T := TX9) (N := 25) hx hb hts hinX9 tyX9 tyX9_ok nmX9 hown hK.1 hP hD hS 0 rfl rfl 0 (by decide) (hts (.fieldLink RX9 59 "BoxesGameModel" "thrown" "I") (List.mem_of_getElem? (i := 1) rfl)) (fun _ h9 => h9) rfl (by decide +kernel) (rfl) (rfl) (Nat.le_of_ble_eq_true rfl) dX9_symmetries_2 (fun H locs hP hD hS => ?_)
  have hP : va_P D vwCl [(mo, .inr (8, [.int (nI 0), .int (nI c), .int (nI r), .long w, .int (nI pl), .int (nI n), .ref aML, .ref aMR, .ref aOW, .int (nI len), .ref aBU, .int sn, .ref aSA, .ref aSZ, .ref aLP, .ref aOP, .ref aFT, .int od, .ref aOL, .ref aRS, .ref aCD, .long pw, .int pb, .int ah, .long hs]))] H := hP
  have hD : va_D AA [(mo, .inr (8, [.int (nI 0), .int (nI c), .int (nI r), .long w, .int (nI pl), .int (nI n), .ref aML, .ref aMR, .ref aOW, .int (nI len), .ref aBU, .int sn, .ref aSA, .ref aSZ, .ref aLP, .ref aOP, .ref aFT, .int od, .ref aOL, .ref aRS, .ref aCD, .long pw, .int pb, .int ah, .long hs]))] := hD
  refine lv_aload_n (pc := 5) hx hb dX9_symmetries_5 rfl (lv_at hl 0 rfl) ?_
  refine ro_go (pc := 6) (va_runV (As := []) (rest := []) ⟨hx, hb, hml, hown, hts⟩ (c_X9_fixing l D Y mo c r ([.int (nI 0), .int (nI c), .int (nI r), .long w, .int (nI pl), .int (nI n), .ref aML, .ref aMR, .ref aOW, .int (nI len), .ref aBU, .int sn, .ref aSA, .ref aSZ, .ref aLP, .ref aOP, .ref aFT, .int od, .ref aOL, .ref aRS, .ref aCD, .long pw, .int pb, .int ah, .long hs]) w (by first | assumption | exact ⟨rfl, rfl⟩) (hC) (by first | assumption | rfl)) (cwV 0 hts gX9_symmetries_X9_fixing rfl rfl rfl ⟨rfl, hdX9_fixing⟩ ⟨Nat.le_of_ble_eq_true rfl, Nat.le_of_ble_eq_true rfl⟩) (ro_pV hK hP (ro_recv hK hP (ci := 8) (q0 := 0) rfl rfl)) rfl rfl hl.1 rfl (lv_room (Nat.le_of_ble_eq_true rfl)) dX9_symmetries_6 ⟨Nat.le_of_ble_eq_true rfl, Nat.le_of_ble_eq_true rfl⟩) ?_
  subst hAA
  exact mu_iret hx hb hr hlocks hP hS (()) (rfl) (trivial) (rfl) dX9_symmetries_9

set_option maxHeartbeats 1200000 in
set_option maxRecDepth 100000 in
theorem c_X9_advice (l : Launch) (D : va_G) (Y : vY) (mo : Nat) (th : Int32) (c : Nat) (r : Nat) (w : Int64) (pl : Nat) (n : Nat) (aML : Nat) (aMR : Nat) (aOW : Nat) (len : Nat) (aBU : Nat) (sn : Int32) (aSA : Nat) (aSZ : Nat) (aLP : Nat) (aOP : Nat) (aFT : Nat) (od : Int32) (aOL : Nat) (aRS : Nat) (aCD : Nat) (pw : Int64) (pb : Int32) (ah : Int32) (hs : Int64) (ol : Nat → Int32) (rs : Nat → Int32) (x : Int32) (hC : Cr c r) (hw0 : Onb c r w) : Mu l yX9_advice wsX9_advice ({ frames := 12, cells := 0, slots := 0, locals := 288 } : Room) [.ref mo, .int x] D Y [(mo, .inr (8, [.int th, .int (nI c), .int (nI r), .long w, .int (nI pl), .int (nI n), .ref aML, .ref aMR, .ref aOW, .int (nI len), .ref aBU, .int sn, .ref aSA, .ref aSZ, .ref aLP, .ref aOP, .ref aFT, .int od, .ref aOL, .ref aRS, .ref aCD, .long pw, .int pb, .int ah, .long hs])), (aOL, .inl (Y.1, 12, .inl ol)), (aRS, .inl (Y.1, 4096, .inl rs))] (fun uS : Int32 × Int32 × Int32 × (Nat → Int32) × (Nat → Int32) => some (.int uS.2.1)) (fun uS : Int32 × Int32 × Int32 × (Nat → Int32) × (Nat → Int32) => [(mo, .inr (8, [.int uS.1, .int (nI c), .int (nI r), .long w, .int (nI pl), .int (nI n), .ref aML, .ref aMR, .ref aOW, .int (nI len), .ref aBU, .int sn, .ref aSA, .ref aSZ, .ref aLP, .ref aOP, .ref aFT, .int uS.2.2.1, .ref aOL, .ref aRS, .ref aCD, .long pw, .int pb, .int ah, .long hs])), (aOL, .inl (Y.1, 12, .inl uS.2.2.2.1)), (aRS, .inl (Y.1, 4096, .inl uS.2.2.2.2))]) (fun uS : Int32 × Int32 × Int32 × (Nat → Int32) × (Nat → Int32) => RvP (kD1 (wi x (nI 0) (nI 2))) uS.1 uS.2.1 (oI (choM c r x.toNatClampNeg w))) := by
  refine mu_intro (by decide +kernel) rfl (Nat.le_of_ble_eq_true rfl) [(0, .ref mo), (1, .int x)] rfl ?_
  intro pG eG sG mG aG bG tG cG ls hx hb hr hml hts hown hlocks hK hP hD hS hl
  generalize hAA : adA [(mo, .inr (8, [.int th, .int (nI c), .int (nI r), .long w, .int (nI pl), .int (nI n), .ref aML, .ref aMR, .ref aOW, .int (nI len), .ref aBU, .int sn, .ref aSA, .ref aSZ, .ref aLP, .ref aOP, .ref aFT, .int od, .ref aOL, .ref aRS, .ref aCD, .long pw, .int pb, .int ah, .long hs])), (aOL, .inl (Y.1, 12, .inl ol)), (aRS, .inl (Y.1, 4096, .inl rs))] = AA at hD hS ⊢
  have hP : va_P D vwCl [(mo, .inr (8, [.int th, .int (nI c), .int (nI r), .long w, .int (nI pl), .int (nI n), .ref aML, .ref aMR, .ref aOW, .int (nI len), .ref aBU, .int sn, .ref aSA, .ref aSZ, .ref aLP, .ref aOP, .ref aFT, .int od, .ref aOL, .ref aRS, .ref aCD, .long pw, .int pb, .int ah, .long hs])), (aOL, .inl (Y.1, 12, .inl ol)), (aRS, .inl (Y.1, 4096, .inl rs))] sG.heap := hP
  have hD : va_D AA [(mo, .inr (8, [.int th, .int (nI c), .int (nI r), .long w, .int (nI pl), .int (nI n), .ref aML, .ref aMR, .ref aOW, .int (nI len), .ref aBU, .int sn, .ref aSA, .ref aSZ, .ref aLP, .ref aOP, .ref aFT, .int od, .ref aOL, .ref aRS, .ref aCD, .long pw, .int pb, .int ah, .long hs])), (aOL, .inl (Y.1, 12, .inl ol)), (aRS, .inl (Y.1, 4096, .inl rs))] := hD
  have hown : sG.vm.findClass RX9 = some mG.cls := hown
  have hl : lv_has ls 2 [(0, .ref mo), (1, .int x)] := hl
  have hinX9 : ∀ w ∈ u_ws RX9 TX9 25, w ∈ wsX9_advice := by decide +kernel
  have hS : va_S AA sG.heap sG.heap [] := hS
  obtain ⟨hq1, hq2, hq3, hq4, hq5, hq6, hq7, hq8, hq9, hq10, hq11⟩ := hC.q
  refine lv_aload_n (pc := 0) hx hb dX9_advice_0 rfl (lv_at hl 0 rfl) ?_
  refine lv_iload_n (pc := 1) hx hb dX9_advice_1 rfl (lv_at hl 1 rfl) ?_
  refine ro_go (pc := 2) (va_runS (As := [.int x]) (rest := [.ref mo]) ⟨hx, hb, hml, hown, hts⟩ (c_X9_isStyle l D Y x ) (va_cwS 1 hts gX9_advice_X9_isStyle rfl rfl rfl hdX9_isStyle ⟨Nat.le_of_ble_eq_true rfl, Nat.le_of_ble_eq_true rfl⟩) (ro_pS hK (hP.sub [] rfl)) rfl rfl hl.1 rfl (lv_room (Nat.le_of_ble_eq_true rfl)) dX9_advice_2 ⟨Nat.le_of_ble_eq_true rfl, Nat.le_of_ble_eq_true rfl⟩) ?_
  refine z_if_eq (pc := 5) (tgt := 12) hx hb dX9_advice_5 (by decide) (fun c5 => ?_) (fun c5 => ?_)
  · refine lv_iconst (pc := 12) (v := nI 1) hx hb dX9_advice_12 rfl ?_
    refine va_put (pc := 13) (D := D) (ci := 8) (v := .int (nI 1)) (ty := .int) (C := RX9) (T := TX9) (N := 25) hx hb hts hinX9 tyX9 tyX9_ok nmX9 hown hK.1 hP hD hS 0 rfl rfl 0 (by decide) (hts (.fieldLink RX9 59 "BoxesGameModel" "thrown" "I") (List.mem_of_getElem? (i := 1) rfl)) (fun _ h9 => h9) rfl (by decide +kernel) (rfl) (rfl) (Nat.le_of_ble_eq_true rfl) dX9_advice_13 (fun H locs hP hD hS => ?_)
    have hP : va_P D vwCl [(mo, .inr (8, [.int (nI 1), .int (nI c), .int (nI r), .long w, .int (nI pl), .int (nI n), .ref aML, .ref aMR, .ref aOW, .int (nI len), .ref aBU, .int sn, .ref aSA, .ref aSZ, .ref aLP, .ref aOP, .ref aFT, .int od, .ref aOL, .ref aRS, .ref aCD, .long pw, .int pb, .int ah, .long hs])), (aOL, .inl (Y.1, 12, .inl ol)), (aRS, .inl (Y.1, 4096, .inl rs))] H := hP
    have hD : va_D AA [(mo, .inr (8, [.int (nI 1), .int (nI c), .int (nI r), .long w, .int (nI pl), .int (nI n), .ref aML, .ref aMR, .ref aOW, .int (nI len), .ref aBU, .int sn, .ref aSA, .ref aSZ, .ref aLP, .ref aOP, .ref aFT, .int od, .ref aOL, .ref aRS, .ref aCD, .long pw, .int pb, .int ah, .long hs])), (aOL, .inl (Y.1, 12, .inl ol)), (aRS, .inl (Y.1, 4096, .inl rs))] := hD
    refine lv_aload_n (pc := 16) hx hb dX9_advice_16 rfl (lv_at hl 0 rfl) ?_
    refine va_get (pc := 17) (D := D) (ci := 8) (v := .int (nI 1)) (C := RX9) (T := TX9) (N := 25) hx hb hts hinX9 hown hK.1 hP 0 rfl rfl 0 (by decide) (hts (.fieldLink RX9 59 "BoxesGameModel" "thrown" "I") (List.mem_of_getElem? (i := 1) rfl)) (fun _ h9 => h9) rfl dX9_advice_17 ?_
    refine n_if_le (pc := 20) (tgt := 27) hx hb (by omega) dX9_advice_20 (by decide) (fun c20 => ?_) (fun c20 => ?_)
    · exact absurd c20 (by decide)
    refine lv_iconst (pc := 23) (v := nI 0) hx hb dX9_advice_23 rfl ?_
    refine lv_goto (pc := 24) (tgt := 36) hx hb dX9_advice_24 (by decide) ?_
    subst hAA
    exact mu_iret hx hb hr hlocks hP hS (⟨_, _, _, _, _⟩) (rfl) (RvP.no (kD1_f c5) (by decide)) (rfl) dX9_advice_36
  obtain ⟨st, hst, rfl⟩ := wi_of (by decide) c5
  have hcst : (nI st).toNatClampNeg = st := nI_clamp (by omega)
  have hl : lv_has ls 2 [(0, .ref mo), (1, .int (nI st))] := hl
  refine lv_iconst (pc := 8) (v := nI 0) hx hb dX9_advice_8 rfl ?_
  refine lv_goto (pc := 9) (tgt := 13) hx hb dX9_advice_9 (by decide) ?_
  refine va_put (pc := 13) (D := D) (ci := 8) (v := .int (nI 0)) (ty := .int) (C := RX9) (T := TX9) (N := 25) hx hb hts hinX9 tyX9 tyX9_ok nmX9 hown hK.1 hP hD hS 0 rfl rfl 0 (by decide) (hts (.fieldLink RX9 59 "BoxesGameModel" "thrown" "I") (List.mem_of_getElem? (i := 1) rfl)) (fun _ h9 => h9) rfl (by decide +kernel) (rfl) (rfl) (Nat.le_of_ble_eq_true rfl) dX9_advice_13 (fun H locs hP hD hS => ?_)
  have hP : va_P D vwCl [(mo, .inr (8, [.int (nI 0), .int (nI c), .int (nI r), .long w, .int (nI pl), .int (nI n), .ref aML, .ref aMR, .ref aOW, .int (nI len), .ref aBU, .int sn, .ref aSA, .ref aSZ, .ref aLP, .ref aOP, .ref aFT, .int od, .ref aOL, .ref aRS, .ref aCD, .long pw, .int pb, .int ah, .long hs])), (aOL, .inl (Y.1, 12, .inl ol)), (aRS, .inl (Y.1, 4096, .inl rs))] H := hP
  have hD : va_D AA [(mo, .inr (8, [.int (nI 0), .int (nI c), .int (nI r), .long w, .int (nI pl), .int (nI n), .ref aML, .ref aMR, .ref aOW, .int (nI len), .ref aBU, .int sn, .ref aSA, .ref aSZ, .ref aLP, .ref aOP, .ref aFT, .int od, .ref aOL, .ref aRS, .ref aCD, .long pw, .int pb, .int ah, .long hs])), (aOL, .inl (Y.1, 12, .inl ol)), (aRS, .inl (Y.1, 4096, .inl rs))] := hD
  refine lv_aload_n (pc := 16) hx hb dX9_advice_16 rfl (lv_at hl 0 rfl) ?_
  refine va_get (pc := 17) (D := D) (ci := 8) (v := .int (nI 0)) (C := RX9) (T := TX9) (N := 25) hx hb hts hinX9 hown hK.1 hP 0 rfl rfl 0 (by decide) (hts (.fieldLink RX9 59 "BoxesGameModel" "thrown" "I") (List.mem_of_getElem? (i := 1) rfl)) (fun _ h9 => h9) rfl dX9_advice_17 ?_
  refine n_if_le (pc := 20) (tgt := 27) hx hb (by omega) dX9_advice_20 (by decide) (fun c20 => ?_) (fun c20 => ?_)
  · refine lv_aload_n (pc := 27) hx hb dX9_advice_27 rfl (lv_at hl 0 rfl) ?_
    refine lv_iload_n (pc := 28) hx hb dX9_advice_28 rfl (lv_at hl 1 rfl) ?_
    refine lv_aload_n (pc := 29) hx hb dX9_advice_29 rfl (lv_at hl 0 rfl) ?_
    refine va_get (pc := 30) (D := D) (ci := 8) (v := .long w) (C := RX9) (T := TX9) (N := 25) hx hb hts hinX9 hown hK.1 hP 0 rfl rfl 3 (by decide) (hts (.fieldLink RX9 119 "BoxesGameModel" "now" "J") (List.mem_of_getElem? (i := 2) rfl)) (fun _ h9 => h9) rfl dX9_advice_30 ?_
    refine mu_go (pc := 33) (va_runV (As := [.int (nI st), .long w]) (rest := []) ⟨hx, hb, hml, hown, hts⟩ (c_X9_choice l D Y mo (nI 0) c r w pl n aML aMR aOW len aBU sn aSA aSZ aLP aOP aFT aOL aRS aCD pw pb ah hs od st w ol rs (hC) (hst) (hw0)) (cwV 2 hts gX9_advice_X9_choice rfl rfl rfl ⟨rfl, hdX9_choice⟩ ⟨Nat.le_of_ble_eq_true rfl, Nat.le_of_ble_eq_true rfl⟩) (mu_pV hK hP hD (ro_recv hK hP (ci := 8) (q0 := 0) rfl rfl)) rfl rfl hl.1 rfl (lv_room (Nat.le_of_ble_eq_true rfl)) dX9_advice_33 ⟨Nat.le_of_ble_eq_true rfl, Nat.le_of_ble_eq_true rfl⟩) hP hD hS [0, 1, 2] rfl (by decide) (fun uS => [(mo, .inr (8, [.int (nI 0), .int (nI c), .int (nI r), .long w, .int (nI pl), .int (nI n), .ref aML, .ref aMR, .ref aOW, .int (nI len), .ref aBU, .int sn, .ref aSA, .ref aSZ, .ref aLP, .ref aOP, .ref aFT, .int uS.1, .ref aOL, .ref aRS, .ref aCD, .long pw, .int pb, .int ah, .long hs])), (aOL, .inl (Y.1, 12, .inl uS.2.1)), (aRS, .inl (Y.1, 4096, .inl uS.2.2))]) (fun _ => rfl) (fun _ => rfl) (fun uS H locs hpost hP hD hS => ?_)
    obtain ⟨od2_33, ol2_33, rs2_33⟩ := uS
    refine top_i (show _ = oI (choM c r st w) from rfl) ?_
    have hP : va_P D vwCl [(mo, .inr (8, [.int (nI 0), .int (nI c), .int (nI r), .long w, .int (nI pl), .int (nI n), .ref aML, .ref aMR, .ref aOW, .int (nI len), .ref aBU, .int sn, .ref aSA, .ref aSZ, .ref aLP, .ref aOP, .ref aFT, .int od2_33, .ref aOL, .ref aRS, .ref aCD, .long pw, .int pb, .int ah, .long hs])), (aOL, .inl (Y.1, 12, .inl ol2_33)), (aRS, .inl (Y.1, 4096, .inl rs2_33))] H := hP
    have hD : va_D AA [(mo, .inr (8, [.int (nI 0), .int (nI c), .int (nI r), .long w, .int (nI pl), .int (nI n), .ref aML, .ref aMR, .ref aOW, .int (nI len), .ref aBU, .int sn, .ref aSA, .ref aSZ, .ref aLP, .ref aOP, .ref aFT, .int od2_33, .ref aOL, .ref aRS, .ref aCD, .long pw, .int pb, .int ah, .long hs])), (aOL, .inl (Y.1, 12, .inl ol2_33)), (aRS, .inl (Y.1, 4096, .inl rs2_33))] := hD
    refine lv_topi (fun x33 ex33 => ?_)
    subst ex33
    subst hAA
    exact mu_iret hx hb hr hlocks hP hS (⟨_, _, _, _, _⟩) (rfl) (by rw [hcst]; exact RvP.ok (kD1_t c5)) (rfl) dX9_advice_36
  · exact absurd c20 (by decide)

set_option maxHeartbeats 1200000 in
set_option maxRecDepth 100000 in
theorem c_X9_thrown (l : Launch) (D : va_G) (Y : vY) (mo : Nat) (th : Int32) (c : Nat) (r : Nat) (w : Int64) (pl : Nat) (n : Nat) (aML : Nat) (aMR : Nat) (aOW : Nat) (len : Nat) (aBU : Nat) (sn : Int32) (aSA : Nat) (aSZ : Nat) (aLP : Nat) (aOP : Nat) (aFT : Nat) (od : Int32) (aOL : Nat) (aRS : Nat) (aCD : Nat) (pw : Int64) (pb : Int32) (ah : Int32) (hs : Int64)  : Ro l yX9_thrown wsX9_thrown ({ frames := 0, cells := 0, slots := 0, locals := 0 } : Room) [.ref mo] D Y [(mo, .inr (8, [.int th, .int (nI c), .int (nI r), .long w, .int (nI pl), .int (nI n), .ref aML, .ref aMR, .ref aOW, .int (nI len), .ref aBU, .int sn, .ref aSA, .ref aSZ, .ref aLP, .ref aOP, .ref aFT, .int od, .ref aOL, .ref aRS, .ref aCD, .long pw, .int pb, .int ah, .long hs]))] (some (.int th)) := by
  refine ro_intro (by decide +kernel) rfl (Nat.le_of_ble_eq_true rfl) [(0, .ref mo)] rfl ?_
  intro pG eG sG mG aG bG tG cG ls hx hb hr hml hts hown hlocks hK hP hl
  have hP : va_P D vwCl [(mo, .inr (8, [.int th, .int (nI c), .int (nI r), .long w, .int (nI pl), .int (nI n), .ref aML, .ref aMR, .ref aOW, .int (nI len), .ref aBU, .int sn, .ref aSA, .ref aSZ, .ref aLP, .ref aOP, .ref aFT, .int od, .ref aOL, .ref aRS, .ref aCD, .long pw, .int pb, .int ah, .long hs]))] sG.heap := hP
  have hown : sG.vm.findClass RX9 = some mG.cls := hown
  have hl : lv_has ls 1 [(0, .ref mo)] := hl
  have hinX9 : ∀ w ∈ u_ws RX9 TX9 25, w ∈ wsX9_thrown := by decide +kernel
  refine lv_aload_n (pc := 0) hx hb dX9_thrown_0 rfl (lv_at hl 0 rfl) ?_
  refine va_get (pc := 1) (D := D) (ci := 8) (v := .int th) (C := RX9) (T := TX9) (N := 25) hx hb hts hinX9 hown hK.1 hP 0 rfl rfl 0 (by decide) (hts (.fieldLink RX9 59 "BoxesGameModel" "thrown" "I") (List.mem_of_getElem? (i := 1) rfl)) (fun _ h9 => h9) rfl dX9_thrown_1 ?_
  exact ro_iret (v := th) hx hb hr hlocks (rfl) dX9_thrown_4
