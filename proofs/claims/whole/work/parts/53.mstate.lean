set_option maxHeartbeats 1200000 in
set_option maxRecDepth 100000 in
theorem c_X9_clear (l : Launch) (D : va_G) (Y : vY) (mo : Nat) (th : Int32) (c : Nat) (r : Nat) (w : Int64) (pl : Nat) (n : Nat) (aML : Nat) (aMR : Nat) (aOW : Nat) (len : Nat) (aBU : Nat) (sn : Int32) (aSA : Nat) (aSZ : Nat) (aLP : Nat) (aOP : Nat) (aFT : Nat) (od : Int32) (aOL : Nat) (aRS : Nat) (aCD : Nat) (pw : Int64) (pb : Int32) (ah : Int32) (hs : Int64) (a : Nat) (b : Nat) (ow : Nat → Int32)  : Mu l yX9_clear wsX9_clear ({ frames := 0, cells := 0, slots := 0, locals := 0 } : Room) [.ref mo, .int (nI a), .int (nI b)] D Y [(mo, .inr (8, [.int th, .int (nI c), .int (nI r), .long w, .int (nI pl), .int (nI n), .ref aML, .ref aMR, .ref aOW, .int (nI len), .ref aBU, .int sn, .ref aSA, .ref aSZ, .ref aLP, .ref aOP, .ref aFT, .int od, .ref aOL, .ref aRS, .ref aCD, .long pw, .int pb, .int ah, .long hs])), (aOW, .inl (Y.1, 16, .inl ow))] (fun _ : Unit => none) (fun _ : Unit => [(mo, .inr (8, [.int th, .int (nI a), .int (nI b), .long 0, .int (nI 0), .int (nI 0), .ref aML, .ref aMR, .ref aOW, .int (nI len), .ref aBU, .int sn, .ref aSA, .ref aSZ, .ref aLP, .ref aOP, .ref aFT, .int od, .ref aOL, .ref aRS, .ref aCD, .long pw, .int pb, .int ah, .long hs])), (aOW, .inl (Y.1, 16, .inl (fa_fill (fun _ => -1) ow 16)))]) (fun _ : Unit => True) := by
  refine mu_intro (by decide +kernel) rfl (Nat.le_of_ble_eq_true rfl) [(0, .ref mo), (1, .int (nI a)), (2, .int (nI b))] rfl ?_
  intro pG eG sG mG aG bG tG cG ls hx hb hr hml hts hown hlocks hK hP hD hS hl
  generalize hAA : adA [(mo, .inr (8, [.int th, .int (nI c), .int (nI r), .long w, .int (nI pl), .int (nI n), .ref aML, .ref aMR, .ref aOW, .int (nI len), .ref aBU, .int sn, .ref aSA, .ref aSZ, .ref aLP, .ref aOP, .ref aFT, .int od, .ref aOL, .ref aRS, .ref aCD, .long pw, .int pb, .int ah, .long hs])), (aOW, .inl (Y.1, 16, .inl ow))] = AA at hD hS ⊢
  have hP : va_P D vwCl [(mo, .inr (8, [.int th, .int (nI c), .int (nI r), .long w, .int (nI pl), .int (nI n), .ref aML, .ref aMR, .ref aOW, .int (nI len), .ref aBU, .int sn, .ref aSA, .ref aSZ, .ref aLP, .ref aOP, .ref aFT, .int od, .ref aOL, .ref aRS, .ref aCD, .long pw, .int pb, .int ah, .long hs])), (aOW, .inl (Y.1, 16, .inl ow))] sG.heap := hP
  have hD : va_D AA [(mo, .inr (8, [.int th, .int (nI c), .int (nI r), .long w, .int (nI pl), .int (nI n), .ref aML, .ref aMR, .ref aOW, .int (nI len), .ref aBU, .int sn, .ref aSA, .ref aSZ, .ref aLP, .ref aOP, .ref aFT, .int od, .ref aOL, .ref aRS, .ref aCD, .long pw, .int pb, .int ah, .long hs])), (aOW, .inl (Y.1, 16, .inl ow))] := hD
  have hown : sG.vm.findClass RX9 = some mG.cls := hown
  have hl : lv_has ls 4 [(0, .ref mo), (1, .int (nI a)), (2, .int (nI b))] := hl
  have hinX9 : ∀ w ∈ u_ws RX9 TX9 25, w ∈ wsX9_clear := by decide +kernel
  have hS : va_S AA sG.heap sG.heap [] := hS
  refine lv_aload_n (pc := 0) hx hb dX9_clear_0 rfl (lv_at hl 0 rfl) ?_
  refine lv_iload_n (pc := 1) hx hb dX9_clear_1 rfl (lv_at hl 1 rfl) ?_
  refine va_put (pc := 2) (D := D) (ci := 8) (v := .int (nI a)) (ty := .int) (C := RX9) (T := TX9) (N := 25) hx hb hts hinX9 tyX9 tyX9_ok nmX9 hown hK.1 hP hD hS 0 rfl rfl 1 (by decide) (hts (.fieldLink RX9 7 "BoxesGameModel" "columns" "I") (List.mem_of_getElem? (i := 1) rfl)) (fun _ h9 => h9) rfl (by decide +kernel) (rfl) (rfl) (Nat.le_of_ble_eq_true rfl) dX9_clear_2 (fun H locs hP hD hS => ?_)
  have hP : va_P D vwCl [(mo, .inr (8, [.int th, .int (nI a), .int (nI r), .long w, .int (nI pl), .int (nI n), .ref aML, .ref aMR, .ref aOW, .int (nI len), .ref aBU, .int sn, .ref aSA, .ref aSZ, .ref aLP, .ref aOP, .ref aFT, .int od, .ref aOL, .ref aRS, .ref aCD, .long pw, .int pb, .int ah, .long hs])), (aOW, .inl (Y.1, 16, .inl ow))] H := hP
  have hD : va_D AA [(mo, .inr (8, [.int th, .int (nI a), .int (nI r), .long w, .int (nI pl), .int (nI n), .ref aML, .ref aMR, .ref aOW, .int (nI len), .ref aBU, .int sn, .ref aSA, .ref aSZ, .ref aLP, .ref aOP, .ref aFT, .int od, .ref aOL, .ref aRS, .ref aCD, .long pw, .int pb, .int ah, .long hs])), (aOW, .inl (Y.1, 16, .inl ow))] := hD
  refine lv_aload_n (pc := 5) hx hb dX9_clear_5 rfl (lv_at hl 0 rfl) ?_
  refine lv_iload_n (pc := 6) hx hb dX9_clear_6 rfl (lv_at hl 2 rfl) ?_
  refine va_put (pc := 7) (D := D) (ci := 8) (v := .int (nI b)) (ty := .int) (C := RX9) (T := TX9) (N := 25) hx hb hts hinX9 tyX9 tyX9_ok nmX9 hown hK.1 hP hD hS 0 rfl rfl 2 (by decide) (hts (.fieldLink RX9 13 "BoxesGameModel" "rows" "I") (List.mem_of_getElem? (i := 2) rfl)) (fun _ h9 => h9) rfl (by decide +kernel) (rfl) (rfl) (Nat.le_of_ble_eq_true rfl) dX9_clear_7 (fun H locs hP hD hS => ?_)
  have hP : va_P D vwCl [(mo, .inr (8, [.int th, .int (nI a), .int (nI b), .long w, .int (nI pl), .int (nI n), .ref aML, .ref aMR, .ref aOW, .int (nI len), .ref aBU, .int sn, .ref aSA, .ref aSZ, .ref aLP, .ref aOP, .ref aFT, .int od, .ref aOL, .ref aRS, .ref aCD, .long pw, .int pb, .int ah, .long hs])), (aOW, .inl (Y.1, 16, .inl ow))] H := hP
  have hD : va_D AA [(mo, .inr (8, [.int th, .int (nI a), .int (nI b), .long w, .int (nI pl), .int (nI n), .ref aML, .ref aMR, .ref aOW, .int (nI len), .ref aBU, .int sn, .ref aSA, .ref aSZ, .ref aLP, .ref aOP, .ref aFT, .int od, .ref aOL, .ref aRS, .ref aCD, .long pw, .int pb, .int ah, .long hs])), (aOW, .inl (Y.1, 16, .inl ow))] := hD
  refine lv_aload_n (pc := 10) hx hb dX9_clear_10 rfl (lv_at hl 0 rfl) ?_
  refine lv_lconst (pc := 11) (v := 0) hx hb dX9_clear_11 (by decide) ?_
  refine va_put (pc := 12) (D := D) (ci := 8) (v := .long (0 : Int64)) (ty := .long) (C := RX9) (T := TX9) (N := 25) hx hb hts hinX9 tyX9 tyX9_ok nmX9 hown hK.1 hP hD hS 0 rfl rfl 3 (by decide) (hts (.fieldLink RX9 119 "BoxesGameModel" "now" "J") (List.mem_of_getElem? (i := 3) rfl)) (fun _ h9 => h9) rfl (by decide +kernel) (rfl) (rfl) (Nat.le_of_ble_eq_true rfl) dX9_clear_12 (fun H locs hP hD hS => ?_)
  have hP : va_P D vwCl [(mo, .inr (8, [.int th, .int (nI a), .int (nI b), .long (0 : Int64), .int (nI pl), .int (nI n), .ref aML, .ref aMR, .ref aOW, .int (nI len), .ref aBU, .int sn, .ref aSA, .ref aSZ, .ref aLP, .ref aOP, .ref aFT, .int od, .ref aOL, .ref aRS, .ref aCD, .long pw, .int pb, .int ah, .long hs])), (aOW, .inl (Y.1, 16, .inl ow))] H := hP
  have hD : va_D AA [(mo, .inr (8, [.int th, .int (nI a), .int (nI b), .long (0 : Int64), .int (nI pl), .int (nI n), .ref aML, .ref aMR, .ref aOW, .int (nI len), .ref aBU, .int sn, .ref aSA, .ref aSZ, .ref aLP, .ref aOP, .ref aFT, .int od, .ref aOL, .ref aRS, .ref aCD, .long pw, .int pb, .int ah, .long hs])), (aOW, .inl (Y.1, 16, .inl ow))] := hD
  refine lv_aload_n (pc := 15) hx hb dX9_clear_15 rfl (lv_at hl 0 rfl) ?_
  refine lv_iconst (pc := 16) (v := nI 0) hx hb dX9_clear_16 rfl ?_
  refine va_put (pc := 17) (D := D) (ci := 8) (v := .int (nI 0)) (ty := .int) (C := RX9) (T := TX9) (N := 25) hx hb hts hinX9 tyX9 tyX9_ok nmX9 hown hK.1 hP hD hS 0 rfl rfl 4 (by decide) (hts (.fieldLink RX9 123 "BoxesGameModel" "player" "I") (List.mem_of_getElem? (i := 4) rfl)) (fun _ h9 => h9) rfl (by decide +kernel) (rfl) (rfl) (Nat.le_of_ble_eq_true rfl) dX9_clear_17 (fun H locs hP hD hS => ?_)
  have hP : va_P D vwCl [(mo, .inr (8, [.int th, .int (nI a), .int (nI b), .long (0 : Int64), .int (nI 0), .int (nI n), .ref aML, .ref aMR, .ref aOW, .int (nI len), .ref aBU, .int sn, .ref aSA, .ref aSZ, .ref aLP, .ref aOP, .ref aFT, .int od, .ref aOL, .ref aRS, .ref aCD, .long pw, .int pb, .int ah, .long hs])), (aOW, .inl (Y.1, 16, .inl ow))] H := hP
  have hD : va_D AA [(mo, .inr (8, [.int th, .int (nI a), .int (nI b), .long (0 : Int64), .int (nI 0), .int (nI n), .ref aML, .ref aMR, .ref aOW, .int (nI len), .ref aBU, .int sn, .ref aSA, .ref aSZ, .ref aLP, .ref aOP, .ref aFT, .int od, .ref aOL, .ref aRS, .ref aCD, .long pw, .int pb, .int ah, .long hs])), (aOW, .inl (Y.1, 16, .inl ow))] := hD
  refine lv_aload_n (pc := 20) hx hb dX9_clear_20 rfl (lv_at hl 0 rfl) ?_
  refine lv_iconst (pc := 21) (v := nI 0) hx hb dX9_clear_21 rfl ?_
  refine va_put (pc := 22) (D := D) (ci := 8) (v := .int (nI 0)) (ty := .int) (C := RX9) (T := TX9) (N := 25) hx hb hts hinX9 tyX9 tyX9_ok nmX9 hown hK.1 hP hD hS 0 rfl rfl 5 (by decide) (hts (.fieldLink RX9 126 "BoxesGameModel" "moves" "I") (List.mem_of_getElem? (i := 5) rfl)) (fun _ h9 => h9) rfl (by decide +kernel) (rfl) (rfl) (Nat.le_of_ble_eq_true rfl) dX9_clear_22 (fun H locs hP hD hS => ?_)
  have hP : va_P D vwCl [(mo, .inr (8, [.int th, .int (nI a), .int (nI b), .long (0 : Int64), .int (nI 0), .int (nI 0), .ref aML, .ref aMR, .ref aOW, .int (nI len), .ref aBU, .int sn, .ref aSA, .ref aSZ, .ref aLP, .ref aOP, .ref aFT, .int od, .ref aOL, .ref aRS, .ref aCD, .long pw, .int pb, .int ah, .long hs])), (aOW, .inl (Y.1, 16, .inl ow))] H := hP
  have hD : va_D AA [(mo, .inr (8, [.int th, .int (nI a), .int (nI b), .long (0 : Int64), .int (nI 0), .int (nI 0), .ref aML, .ref aMR, .ref aOW, .int (nI len), .ref aBU, .int sn, .ref aSA, .ref aSZ, .ref aLP, .ref aOP, .ref aFT, .int od, .ref aOL, .ref aRS, .ref aCD, .long pw, .int pb, .int ah, .long hs])), (aOW, .inl (Y.1, 16, .inl ow))] := hD
  have e9 : ow = (fa_fill (fun _ => -1) ow 0) := (fa_fill_0 _ _).symm
  have hP : va_P D vwCl [(mo, .inr (8, [.int th, .int (nI a), .int (nI b), .long (0 : Int64), .int (nI 0), .int (nI 0), .ref aML, .ref aMR, .ref aOW, .int (nI len), .ref aBU, .int sn, .ref aSA, .ref aSZ, .ref aLP, .ref aOP, .ref aFT, .int od, .ref aOL, .ref aRS, .ref aCD, .long pw, .int pb, .int ah, .long hs])), (aOW, .inl (Y.1, 16, .inl (fa_fill (fun _ => -1) ow 0)))] H := by rw [← e9]; exact hP
  have hD : va_D AA [(mo, .inr (8, [.int th, .int (nI a), .int (nI b), .long (0 : Int64), .int (nI 0), .int (nI 0), .ref aML, .ref aMR, .ref aOW, .int (nI len), .ref aBU, .int sn, .ref aSA, .ref aSZ, .ref aLP, .ref aOP, .ref aFT, .int od, .ref aOL, .ref aRS, .ref aCD, .long pw, .int pb, .int ah, .long hs])), (aOW, .inl (Y.1, 16, .inl (fa_fill (fun _ => -1) ow 0)))] := by rw [← e9]; exact hD
  refine lv_iconst (pc := 25) (v := nI 0) hx hb dX9_clear_25 rfl ?_
  refine lv_istore_n (pc := 26) (lv' := [(3, .int (nI 0)), (0, .ref mo), (1, .int (nI a)), (2, .int (nI b))]) hx hb dX9_clear_26 rfl hl (by decide) rfl (fun ls hl => ?_)
  have L27 : ∀ (n27 : Nat), ∀ (i : Nat), (i ≤ 16) → 16 - i < n27 → ∀ (H : Heap) (locs : List Loc), va_P D vwCl [(mo, .inr (8, [.int th, .int (nI a), .int (nI b), .long (0 : Int64), .int (nI 0), .int (nI 0), .ref aML, .ref aMR, .ref aOW, .int (nI len), .ref aBU, .int sn, .ref aSA, .ref aSZ, .ref aLP, .ref aOP, .ref aFT, .int od, .ref aOL, .ref aRS, .ref aCD, .long pw, .int pb, .int ah, .long hs])), (aOW, .inl (Y.1, 16, .inl (fa_fill (fun _ => -1) ow i)))] H → va_D AA [(mo, .inr (8, [.int th, .int (nI a), .int (nI b), .long (0 : Int64), .int (nI 0), .int (nI 0), .ref aML, .ref aMR, .ref aOW, .int (nI len), .ref aBU, .int sn, .ref aSA, .ref aSZ, .ref aLP, .ref aOP, .ref aFT, .int od, .ref aOL, .ref aRS, .ref aCD, .long pw, .int pb, .int ah, .long hs])), (aOW, .inl (Y.1, 16, .inl (fa_fill (fun _ => -1) ow i)))] → va_S AA sG.heap H locs → ∀ (ls : Array Slot), lv_has ls 4 [(0, .ref mo), (1, .int (nI a)), (2, .int (nI b)), (3, .int (nI i))] → W pG l eG ({ frames := 0, cells := 0, slots := 0, locals := 0 } : Room) sG mG aG bG tG cG H locs 0 0 (MQ bG (MuQ D [(mo, .inr (8, [.int th, .int (nI c), .int (nI r), .long w, .int (nI pl), .int (nI n), .ref aML, .ref aMR, .ref aOW, .int (nI len), .ref aBU, .int sn, .ref aSA, .ref aSZ, .ref aLP, .ref aOP, .ref aFT, .int od, .ref aOL, .ref aRS, .ref aCD, .long pw, .int pb, .int ah, .long hs])), (aOW, .inl (Y.1, 16, .inl ow))] (fun _ : Unit => none) (fun _ : Unit => [(mo, .inr (8, [.int th, .int (nI a), .int (nI b), .long 0, .int (nI 0), .int (nI 0), .ref aML, .ref aMR, .ref aOW, .int (nI len), .ref aBU, .int sn, .ref aSA, .ref aSZ, .ref aLP, .ref aOP, .ref aFT, .int od, .ref aOL, .ref aRS, .ref aCD, .long pw, .int pb, .int ah, .long hs])), (aOW, .inl (Y.1, 16, .inl (fa_fill (fun _ => -1) ow 16)))]) (fun _ : Unit => True)) aG sG 0 0 AA) (F0 mG 27 ls []) := by
    intro n27
    induction n27 with
    | zero =>
      intro i hi hmeas27 H locs hP hD hS ls hl
      exact absurd hmeas27 (Nat.not_lt_zero _)
    | succ n27 ih27 =>
      intro i hi hmeas27 H locs hP hD hS ls hl
      refine lv_iload_n (pc := 27) hx hb dX9_clear_27 rfl (lv_at hl 3 rfl) ?_
      refine lv_bipush (pc := 28) (v := nI 16) hx hb dX9_clear_28 rfl ?_
      refine n_icmp_ge (pc := 30) (tgt := 46) hx hb (by omega) (by omega) dX9_clear_30 (by decide) (fun c30 => ?_) (fun c30 => ?_)
      · subst hAA
        exact mu_vret hx hb hr hlocks hP hS (()) (rfl) (trivial) (by rw [show i = 16 by omega]) dX9_clear_46
      refine lv_aload_n (pc := 33) hx hb dX9_clear_33 rfl (lv_at hl 0 rfl) ?_
      refine va_get (pc := 34) (D := D) (ci := 8) (v := .ref aOW) (C := RX9) (T := TX9) (N := 25) hx hb hts hinX9 hown hK.1 hP 0 rfl rfl 8 (by decide) (hts (.fieldLink RX9 23 "BoxesGameModel" "owners" "[I") (List.mem_of_getElem? (i := 6) rfl)) (fun _ h9 => h9) rfl dX9_clear_34 ?_
      refine lv_iload_n (pc := 37) hx hb dX9_clear_37 rfl (lv_at hl 3 rfl) ?_
      refine lv_iconst (pc := 38) (v := (-1)) hx hb dX9_clear_38 (by decide) ?_
      refine va_iast (pc := 39) hx hb hK.1 hP hD hS 1 0 rfl rfl (vp_in_nI (by omega) (by decide)) dX9_clear_39 (fun H locs hP hD hS => ?_)
      rw [nI_clamp (by omega)] at hP hD
      have hP : va_P D vwCl [(mo, .inr (8, [.int th, .int (nI a), .int (nI b), .long (0 : Int64), .int (nI 0), .int (nI 0), .ref aML, .ref aMR, .ref aOW, .int (nI len), .ref aBU, .int sn, .ref aSA, .ref aSZ, .ref aLP, .ref aOP, .ref aFT, .int od, .ref aOL, .ref aRS, .ref aCD, .long pw, .int pb, .int ah, .long hs])), (aOW, .inl (Y.1, 16, .inl (upd (fa_fill (fun _ => -1) ow i) i (-1))))] H := hP
      have hD : va_D AA [(mo, .inr (8, [.int th, .int (nI a), .int (nI b), .long (0 : Int64), .int (nI 0), .int (nI 0), .ref aML, .ref aMR, .ref aOW, .int (nI len), .ref aBU, .int sn, .ref aSA, .ref aSZ, .ref aLP, .ref aOP, .ref aFT, .int od, .ref aOL, .ref aRS, .ref aCD, .long pw, .int pb, .int ah, .long hs])), (aOW, .inl (Y.1, 16, .inl (upd (fa_fill (fun _ => -1) ow i) i (-1))))] := hD
      have e9 : (upd (fa_fill (fun _ => -1) ow i) i (-1)) = (fa_fill (fun _ => -1) ow (i + 1)) := fa_fill_succ (fun _ => -1) ow i
      have hP : va_P D vwCl [(mo, .inr (8, [.int th, .int (nI a), .int (nI b), .long (0 : Int64), .int (nI 0), .int (nI 0), .ref aML, .ref aMR, .ref aOW, .int (nI len), .ref aBU, .int sn, .ref aSA, .ref aSZ, .ref aLP, .ref aOP, .ref aFT, .int od, .ref aOL, .ref aRS, .ref aCD, .long pw, .int pb, .int ah, .long hs])), (aOW, .inl (Y.1, 16, .inl (fa_fill (fun _ => -1) ow (i + 1))))] H := by rw [← e9]; exact hP
      have hD : va_D AA [(mo, .inr (8, [.int th, .int (nI a), .int (nI b), .long (0 : Int64), .int (nI 0), .int (nI 0), .ref aML, .ref aMR, .ref aOW, .int (nI len), .ref aBU, .int sn, .ref aSA, .ref aSZ, .ref aLP, .ref aOP, .ref aFT, .int od, .ref aOL, .ref aRS, .ref aCD, .long pw, .int pb, .int ah, .long hs])), (aOW, .inl (Y.1, 16, .inl (fa_fill (fun _ => -1) ow (i + 1))))] := by rw [← e9]; exact hD
      refine lv_iinc (pc := 40) (v := nI (i + 1)) (lv' := [(3, .int (nI (i + 1))), (0, .ref mo), (1, .int (nI a)), (2, .int (nI b))]) hx hb dX9_clear_40 hl (k := 3) rfl (n_inc i 1) (by decide) rfl (fun ls hl => ?_)
      refine lv_goto (pc := 43) (tgt := 27) hx hb dX9_clear_43 (by decide) ?_
      exact ih27 (i + 1) (by first | assumption | omega) (by omega) _ _ hP hD hS _ (lv_sub hl [1, 2, 3, 0] rfl)
  exact L27 ((16 - 0) + 1) 0 (by first | assumption | omega) (Nat.lt_succ_self _) _ _ hP hD hS _ (lv_sub hl [1, 2, 3, 0] rfl)

set_option maxHeartbeats 1200000 in
set_option maxRecDepth 100000 in
theorem c_X9_begin (l : Launch) (D : va_G) (Y : vY) (mo : Nat) (th : Int32) (c : Nat) (r : Nat) (w : Int64) (pl : Nat) (n : Nat) (aML : Nat) (aMR : Nat) (aOW : Nat) (len : Nat) (aBU : Nat) (sn : Int32) (aSA : Nat) (aSZ : Nat) (aLP : Nat) (aOP : Nat) (aFT : Nat) (od : Int32) (aOL : Nat) (aRS : Nat) (aCD : Nat) (pw : Int64) (pb : Int32) (ah : Int32) (hs : Int64) (ms : Nat → Nat) (ml : Nat → Int32) (mr : Nat → Int32) (ow : Nat → Int32) (a : Int32) (b : Int32) (hC : Cr c r) (hM : MoR c r ms n w pl ml mr ow) : Mu l yX9_begin wsX9_begin ({ frames := 2, cells := 0, slots := 0, locals := 40 } : Room) [.ref mo, .int a, .int b] D Y [(mo, .inr (8, [.int th, .int (nI c), .int (nI r), .long w, .int (nI pl), .int (nI n), .ref aML, .ref aMR, .ref aOW, .int (nI len), .ref aBU, .int sn, .ref aSA, .ref aSZ, .ref aLP, .ref aOP, .ref aFT, .int od, .ref aOL, .ref aRS, .ref aCD, .long pw, .int pb, .int ah, .long hs])), (aML, .inl (Y.1, 40, .inl ml)), (aMR, .inl (Y.1, 40, .inl mr)), (aOW, .inl (Y.1, 16, .inl ow))] (fun uS : Int32 × Int32 × Nat × Nat × Int64 × Nat × Nat × (Nat → Int32) × (Nat → Int32) × (Nat → Int32) => some (.int uS.2.1)) (fun uS : Int32 × Int32 × Nat × Nat × Int64 × Nat × Nat × (Nat → Int32) × (Nat → Int32) × (Nat → Int32) => [(mo, .inr (8, [.int uS.1, .int (nI uS.2.2.1), .int (nI uS.2.2.2.1), .long uS.2.2.2.2.1, .int (nI uS.2.2.2.2.2.1), .int (nI uS.2.2.2.2.2.2.1), .ref aML, .ref aMR, .ref aOW, .int (nI len), .ref aBU, .int sn, .ref aSA, .ref aSZ, .ref aLP, .ref aOP, .ref aFT, .int od, .ref aOL, .ref aRS, .ref aCD, .long pw, .int pb, .int ah, .long hs])), (aML, .inl (Y.1, 40, .inl uS.2.2.2.2.2.2.2.1)), (aMR, .inl (Y.1, 40, .inl uS.2.2.2.2.2.2.2.2.1)), (aOW, .inl (Y.1, 16, .inl uS.2.2.2.2.2.2.2.2.2))]) (fun uS : Int32 × Int32 × Nat × Nat × Int64 × Nat × Nat × (Nat → Int32) × (Nat → Int32) × (Nat → Int32) => RvP (kD1 (wi a (nI 1) (nI 4) && wi b (nI 1) (nI 4))) uS.1 uS.2.1 (nI (al uS.2.2.1 uS.2.2.2.1)) ∧ ((kD1 (wi a (nI 1) (nI 4) && wi b (nI 1) (nI 4))) = 0 → uS.2.2.1 = a.toNatClampNeg ∧ uS.2.2.2.1 = b.toNatClampNeg ∧ Cr uS.2.2.1 uS.2.2.2.1 ∧ uS.2.2.2.2.2.2.1 = 0 ∧ MoR uS.2.2.1 uS.2.2.2.1 ms uS.2.2.2.2.2.2.1 uS.2.2.2.2.1 uS.2.2.2.2.2.1 uS.2.2.2.2.2.2.2.1 uS.2.2.2.2.2.2.2.2.1 uS.2.2.2.2.2.2.2.2.2) ∧ (¬ (kD1 (wi a (nI 1) (nI 4) && wi b (nI 1) (nI 4))) = 0 → uS.2.2.1 = c ∧ uS.2.2.2.1 = r ∧ uS.2.2.2.2.2.2.1 = n ∧ MoR c r ms uS.2.2.2.2.2.2.1 uS.2.2.2.2.1 uS.2.2.2.2.2.1 uS.2.2.2.2.2.2.2.1 uS.2.2.2.2.2.2.2.2.1 uS.2.2.2.2.2.2.2.2.2)) := by
  refine mu_intro (by decide +kernel) rfl (Nat.le_of_ble_eq_true rfl) [(0, .ref mo), (1, .int a), (2, .int b)] rfl ?_
  intro pG eG sG mG aG bG tG cG ls hx hb hr hml hts hown hlocks hK hP hD hS hl
  generalize hAA : adA [(mo, .inr (8, [.int th, .int (nI c), .int (nI r), .long w, .int (nI pl), .int (nI n), .ref aML, .ref aMR, .ref aOW, .int (nI len), .ref aBU, .int sn, .ref aSA, .ref aSZ, .ref aLP, .ref aOP, .ref aFT, .int od, .ref aOL, .ref aRS, .ref aCD, .long pw, .int pb, .int ah, .long hs])), (aML, .inl (Y.1, 40, .inl ml)), (aMR, .inl (Y.1, 40, .inl mr)), (aOW, .inl (Y.1, 16, .inl ow))] = AA at hD hS ⊢
  have hP : va_P D vwCl [(mo, .inr (8, [.int th, .int (nI c), .int (nI r), .long w, .int (nI pl), .int (nI n), .ref aML, .ref aMR, .ref aOW, .int (nI len), .ref aBU, .int sn, .ref aSA, .ref aSZ, .ref aLP, .ref aOP, .ref aFT, .int od, .ref aOL, .ref aRS, .ref aCD, .long pw, .int pb, .int ah, .long hs])), (aML, .inl (Y.1, 40, .inl ml)), (aMR, .inl (Y.1, 40, .inl mr)), (aOW, .inl (Y.1, 16, .inl ow))] sG.heap := hP
  have hD : va_D AA [(mo, .inr (8, [.int th, .int (nI c), .int (nI r), .long w, .int (nI pl), .int (nI n), .ref aML, .ref aMR, .ref aOW, .int (nI len), .ref aBU, .int sn, .ref aSA, .ref aSZ, .ref aLP, .ref aOP, .ref aFT, .int od, .ref aOL, .ref aRS, .ref aCD, .long pw, .int pb, .int ah, .long hs])), (aML, .inl (Y.1, 40, .inl ml)), (aMR, .inl (Y.1, 40, .inl mr)), (aOW, .inl (Y.1, 16, .inl ow))] := hD
  have hown : sG.vm.findClass RX9 = some mG.cls := hown
  have hl : lv_has ls 3 [(0, .ref mo), (1, .int a), (2, .int b)] := hl
  have hinX9 : ∀ w ∈ u_ws RX9 TX9 25, w ∈ wsX9_begin := by decide +kernel
  have hS : va_S AA sG.heap sG.heap [] := hS
  obtain ⟨hq1, hq2, hq3, hq4, hq5, hq6, hq7, hq8, hq9, hq10, hq11⟩ := hC.q
  refine lv_aload_n (pc := 0) hx hb dX9_begin_0 rfl (lv_at hl 0 rfl) ?_
  refine lv_iload_n (pc := 1) hx hb dX9_begin_1 rfl (lv_at hl 1 rfl) ?_
  refine lv_iconst (pc := 2) (v := nI 1) hx hb dX9_begin_2 rfl ?_
  refine lv_iconst (pc := 3) (v := nI 4) hx hb dX9_begin_3 rfl ?_
  refine ro_go (pc := 4) (va_runS (As := [.int a, .int (nI 1), .int (nI 4)]) (rest := [.ref mo]) ⟨hx, hb, hml, hown, hts⟩ (c_X9_within l D Y a (nI 1) (nI 4) ) (va_cwS 3 hts gX9_begin_X9_within rfl rfl rfl hdX9_within ⟨Nat.le_of_ble_eq_true rfl, Nat.le_of_ble_eq_true rfl⟩) (ro_pS hK (hP.sub [] rfl)) rfl rfl hl.1 rfl (lv_room (Nat.le_of_ble_eq_true rfl)) dX9_begin_4 ⟨Nat.le_of_ble_eq_true rfl, Nat.le_of_ble_eq_true rfl⟩) ?_
  refine z_if_eq (pc := 7) (tgt := 23) hx hb dX9_begin_7 (by decide) (fun c7 => ?_) (fun c7 => ?_)
  · refine lv_iconst (pc := 23) (v := nI 1) hx hb dX9_begin_23 rfl ?_
    refine va_put (pc := 24) (D := D) (ci := 8) (v := .int (nI 1)) (ty := .int) (C := RX9) (T := TX9) (N := 25) hx hb hts hinX9 tyX9 tyX9_ok nmX9 hown hK.1 hP hD hS 0 rfl rfl 0 (by decide) (hts (.fieldLink RX9 59 "BoxesGameModel" "thrown" "I") (List.mem_of_getElem? (i := 1) rfl)) (fun _ h9 => h9) rfl (by decide +kernel) (rfl) (rfl) (Nat.le_of_ble_eq_true rfl) dX9_begin_24 (fun H locs hP hD hS => ?_)
    have hP : va_P D vwCl [(mo, .inr (8, [.int (nI 1), .int (nI c), .int (nI r), .long w, .int (nI pl), .int (nI n), .ref aML, .ref aMR, .ref aOW, .int (nI len), .ref aBU, .int sn, .ref aSA, .ref aSZ, .ref aLP, .ref aOP, .ref aFT, .int od, .ref aOL, .ref aRS, .ref aCD, .long pw, .int pb, .int ah, .long hs])), (aML, .inl (Y.1, 40, .inl ml)), (aMR, .inl (Y.1, 40, .inl mr)), (aOW, .inl (Y.1, 16, .inl ow))] H := hP
    have hD : va_D AA [(mo, .inr (8, [.int (nI 1), .int (nI c), .int (nI r), .long w, .int (nI pl), .int (nI n), .ref aML, .ref aMR, .ref aOW, .int (nI len), .ref aBU, .int sn, .ref aSA, .ref aSZ, .ref aLP, .ref aOP, .ref aFT, .int od, .ref aOL, .ref aRS, .ref aCD, .long pw, .int pb, .int ah, .long hs])), (aML, .inl (Y.1, 40, .inl ml)), (aMR, .inl (Y.1, 40, .inl mr)), (aOW, .inl (Y.1, 16, .inl ow))] := hD
    refine lv_aload_n (pc := 27) hx hb dX9_begin_27 rfl (lv_at hl 0 rfl) ?_
    refine va_get (pc := 28) (D := D) (ci := 8) (v := .int (nI 1)) (C := RX9) (T := TX9) (N := 25) hx hb hts hinX9 hown hK.1 hP 0 rfl rfl 0 (by decide) (hts (.fieldLink RX9 59 "BoxesGameModel" "thrown" "I") (List.mem_of_getElem? (i := 1) rfl)) (fun _ h9 => h9) rfl dX9_begin_28 ?_
    refine n_if_le (pc := 31) (tgt := 36) hx hb (by omega) dX9_begin_31 (by decide) (fun c31 => ?_) (fun c31 => ?_)
    · exact absurd c31 (by decide)
    refine lv_iconst (pc := 34) (v := nI 0) hx hb dX9_begin_34 rfl ?_
    subst hAA
    exact mu_iret hx hb hr hlocks hP hS (⟨_, _, _, _, _, _, _, _, _, _⟩) (rfl) (⟨RvP.no (kD1_f (by rw [c7]; rfl)) (by decide), fun q => absurd q (kd_no (kD1_f (by rw [c7]; rfl)) (by decide)), fun _ => ⟨rfl, rfl, rfl, hM⟩⟩) (rfl) dX9_begin_35
  obtain ⟨ja, hja1, hja4, rfl⟩ := wi_lo (by decide) (by decide) c7
  have hl : lv_has ls 3 [(0, .ref mo), (1, .int (nI ja)), (2, .int b)] := hl
  refine lv_iload_n (pc := 10) hx hb dX9_begin_10 rfl (lv_at hl 2 rfl) ?_
  refine lv_iconst (pc := 11) (v := nI 1) hx hb dX9_begin_11 rfl ?_
  refine lv_iconst (pc := 12) (v := nI 4) hx hb dX9_begin_12 rfl ?_
  refine ro_go (pc := 13) (va_runS (As := [.int b, .int (nI 1), .int (nI 4)]) (rest := [.ref mo]) ⟨hx, hb, hml, hown, hts⟩ (c_X9_within l D Y b (nI 1) (nI 4) ) (va_cwS 3 hts gX9_begin_X9_within rfl rfl rfl hdX9_within ⟨Nat.le_of_ble_eq_true rfl, Nat.le_of_ble_eq_true rfl⟩) (ro_pS hK (hP.sub [] rfl)) rfl rfl hl.1 rfl (lv_room (Nat.le_of_ble_eq_true rfl)) dX9_begin_13 ⟨Nat.le_of_ble_eq_true rfl, Nat.le_of_ble_eq_true rfl⟩) ?_
  refine z_if_eq (pc := 16) (tgt := 23) hx hb dX9_begin_16 (by decide) (fun c16 => ?_) (fun c16 => ?_)
  · refine lv_iconst (pc := 23) (v := nI 1) hx hb dX9_begin_23 rfl ?_
    refine va_put (pc := 24) (D := D) (ci := 8) (v := .int (nI 1)) (ty := .int) (C := RX9) (T := TX9) (N := 25) hx hb hts hinX9 tyX9 tyX9_ok nmX9 hown hK.1 hP hD hS 0 rfl rfl 0 (by decide) (hts (.fieldLink RX9 59 "BoxesGameModel" "thrown" "I") (List.mem_of_getElem? (i := 1) rfl)) (fun _ h9 => h9) rfl (by decide +kernel) (rfl) (rfl) (Nat.le_of_ble_eq_true rfl) dX9_begin_24 (fun H locs hP hD hS => ?_)
    have hP : va_P D vwCl [(mo, .inr (8, [.int (nI 1), .int (nI c), .int (nI r), .long w, .int (nI pl), .int (nI n), .ref aML, .ref aMR, .ref aOW, .int (nI len), .ref aBU, .int sn, .ref aSA, .ref aSZ, .ref aLP, .ref aOP, .ref aFT, .int od, .ref aOL, .ref aRS, .ref aCD, .long pw, .int pb, .int ah, .long hs])), (aML, .inl (Y.1, 40, .inl ml)), (aMR, .inl (Y.1, 40, .inl mr)), (aOW, .inl (Y.1, 16, .inl ow))] H := hP
    have hD : va_D AA [(mo, .inr (8, [.int (nI 1), .int (nI c), .int (nI r), .long w, .int (nI pl), .int (nI n), .ref aML, .ref aMR, .ref aOW, .int (nI len), .ref aBU, .int sn, .ref aSA, .ref aSZ, .ref aLP, .ref aOP, .ref aFT, .int od, .ref aOL, .ref aRS, .ref aCD, .long pw, .int pb, .int ah, .long hs])), (aML, .inl (Y.1, 40, .inl ml)), (aMR, .inl (Y.1, 40, .inl mr)), (aOW, .inl (Y.1, 16, .inl ow))] := hD
    refine lv_aload_n (pc := 27) hx hb dX9_begin_27 rfl (lv_at hl 0 rfl) ?_
    refine va_get (pc := 28) (D := D) (ci := 8) (v := .int (nI 1)) (C := RX9) (T := TX9) (N := 25) hx hb hts hinX9 hown hK.1 hP 0 rfl rfl 0 (by decide) (hts (.fieldLink RX9 59 "BoxesGameModel" "thrown" "I") (List.mem_of_getElem? (i := 1) rfl)) (fun _ h9 => h9) rfl dX9_begin_28 ?_
    refine n_if_le (pc := 31) (tgt := 36) hx hb (by omega) dX9_begin_31 (by decide) (fun c31 => ?_) (fun c31 => ?_)
    · exact absurd c31 (by decide)
    refine lv_iconst (pc := 34) (v := nI 0) hx hb dX9_begin_34 rfl ?_
    subst hAA
    exact mu_iret hx hb hr hlocks hP hS (⟨_, _, _, _, _, _, _, _, _, _⟩) (rfl) (⟨RvP.no (kD1_f (by rw [c7, c16]; rfl)) (by decide), fun q => absurd q (kd_no (kD1_f (by rw [c7, c16]; rfl)) (by decide)), fun _ => ⟨rfl, rfl, rfl, hM⟩⟩) (rfl) dX9_begin_35
  obtain ⟨jb, hjb1, hjb4, rfl⟩ := wi_lo (by decide) (by decide) c16
  have hC2 : Cr ja jb := ⟨hja1, hja4, hjb1, hjb4⟩
  have hca : (nI ja).toNatClampNeg = ja := nI_clamp (by omega)
  have hcb : (nI jb).toNatClampNeg = jb := nI_clamp (by omega)
  have hz16 : ∀ b, b < 16 → fa_fill (fun _ => (-1 : Int32)) ow 16 b = -1 := fun b hb => fa_fill_in hb
  have hl : lv_has ls 3 [(0, .ref mo), (1, .int (nI ja)), (2, .int (nI jb))] := hl
  refine lv_iconst (pc := 19) (v := nI 0) hx hb dX9_begin_19 rfl ?_
  refine lv_goto (pc := 20) (tgt := 24) hx hb dX9_begin_20 (by decide) ?_
  refine va_put (pc := 24) (D := D) (ci := 8) (v := .int (nI 0)) (ty := .int) (C := RX9) (T := TX9) (N := 25) hx hb hts hinX9 tyX9 tyX9_ok nmX9 hown hK.1 hP hD hS 0 rfl rfl 0 (by decide) (hts (.fieldLink RX9 59 "BoxesGameModel" "thrown" "I") (List.mem_of_getElem? (i := 1) rfl)) (fun _ h9 => h9) rfl (by decide +kernel) (rfl) (rfl) (Nat.le_of_ble_eq_true rfl) dX9_begin_24 (fun H locs hP hD hS => ?_)
  have hP : va_P D vwCl [(mo, .inr (8, [.int (nI 0), .int (nI c), .int (nI r), .long w, .int (nI pl), .int (nI n), .ref aML, .ref aMR, .ref aOW, .int (nI len), .ref aBU, .int sn, .ref aSA, .ref aSZ, .ref aLP, .ref aOP, .ref aFT, .int od, .ref aOL, .ref aRS, .ref aCD, .long pw, .int pb, .int ah, .long hs])), (aML, .inl (Y.1, 40, .inl ml)), (aMR, .inl (Y.1, 40, .inl mr)), (aOW, .inl (Y.1, 16, .inl ow))] H := hP
  have hD : va_D AA [(mo, .inr (8, [.int (nI 0), .int (nI c), .int (nI r), .long w, .int (nI pl), .int (nI n), .ref aML, .ref aMR, .ref aOW, .int (nI len), .ref aBU, .int sn, .ref aSA, .ref aSZ, .ref aLP, .ref aOP, .ref aFT, .int od, .ref aOL, .ref aRS, .ref aCD, .long pw, .int pb, .int ah, .long hs])), (aML, .inl (Y.1, 40, .inl ml)), (aMR, .inl (Y.1, 40, .inl mr)), (aOW, .inl (Y.1, 16, .inl ow))] := hD
  refine lv_aload_n (pc := 27) hx hb dX9_begin_27 rfl (lv_at hl 0 rfl) ?_
  refine va_get (pc := 28) (D := D) (ci := 8) (v := .int (nI 0)) (C := RX9) (T := TX9) (N := 25) hx hb hts hinX9 hown hK.1 hP 0 rfl rfl 0 (by decide) (hts (.fieldLink RX9 59 "BoxesGameModel" "thrown" "I") (List.mem_of_getElem? (i := 1) rfl)) (fun _ h9 => h9) rfl dX9_begin_28 ?_
  refine n_if_le (pc := 31) (tgt := 36) hx hb (by omega) dX9_begin_31 (by decide) (fun c31 => ?_) (fun c31 => ?_)
  · refine lv_aload_n (pc := 36) hx hb dX9_begin_36 rfl (lv_at hl 0 rfl) ?_
    refine lv_iload_n (pc := 37) hx hb dX9_begin_37 rfl (lv_at hl 1 rfl) ?_
    refine lv_iload_n (pc := 38) hx hb dX9_begin_38 rfl (lv_at hl 2 rfl) ?_
    refine mu_go (pc := 39) (va_runV (As := [.int (nI ja), .int (nI jb)]) (rest := []) ⟨hx, hb, hml, hown, hts⟩ (c_X9_clear l D Y mo (nI 0) c r w pl n aML aMR aOW len aBU sn aSA aSZ aLP aOP aFT od aOL aRS aCD pw pb ah hs ja jb ow ) (cwV 2 hts gX9_begin_X9_clear rfl rfl rfl ⟨rfl, hdX9_clear⟩ ⟨Nat.le_of_ble_eq_true rfl, Nat.le_of_ble_eq_true rfl⟩) (mu_pV hK (hP.sub [0, 3] rfl) (hD.sub [0, 3] (by decide) rfl) (ro_recv hK hP (ci := 8) (q0 := 0) rfl rfl)) rfl rfl hl.1 rfl (lv_room (Nat.le_of_ble_eq_true rfl)) dX9_begin_39 ⟨Nat.le_of_ble_eq_true rfl, Nat.le_of_ble_eq_true rfl⟩) hP hD hS [0, 3] rfl (by decide) (fun _ => [(mo, .inr (8, [.int (nI 0), .int (nI ja), .int (nI jb), .long 0, .int (nI 0), .int (nI 0), .ref aML, .ref aMR, .ref aOW, .int (nI len), .ref aBU, .int sn, .ref aSA, .ref aSZ, .ref aLP, .ref aOP, .ref aFT, .int od, .ref aOL, .ref aRS, .ref aCD, .long pw, .int pb, .int ah, .long hs])), (aML, .inl (Y.1, 40, .inl ml)), (aMR, .inl (Y.1, 40, .inl mr)), (aOW, .inl (Y.1, 16, .inl (fa_fill (fun _ => -1) ow 16)))]) (fun _ => rfl) (fun _ => rfl) (fun uS H locs hpost hP hD hS => ?_)
    have hP : va_P D vwCl [(mo, .inr (8, [.int (nI 0), .int (nI ja), .int (nI jb), .long 0, .int (nI 0), .int (nI 0), .ref aML, .ref aMR, .ref aOW, .int (nI len), .ref aBU, .int sn, .ref aSA, .ref aSZ, .ref aLP, .ref aOP, .ref aFT, .int od, .ref aOL, .ref aRS, .ref aCD, .long pw, .int pb, .int ah, .long hs])), (aML, .inl (Y.1, 40, .inl ml)), (aMR, .inl (Y.1, 40, .inl mr)), (aOW, .inl (Y.1, 16, .inl (fa_fill (fun _ => -1) ow 16)))] H := hP
    have hD : va_D AA [(mo, .inr (8, [.int (nI 0), .int (nI ja), .int (nI jb), .long 0, .int (nI 0), .int (nI 0), .ref aML, .ref aMR, .ref aOW, .int (nI len), .ref aBU, .int sn, .ref aSA, .ref aSZ, .ref aLP, .ref aOP, .ref aFT, .int od, .ref aOL, .ref aRS, .ref aCD, .long pw, .int pb, .int ah, .long hs])), (aML, .inl (Y.1, 40, .inl ml)), (aMR, .inl (Y.1, 40, .inl mr)), (aOW, .inl (Y.1, 16, .inl (fa_fill (fun _ => -1) ow 16)))] := hD
    refine lv_aload_n (pc := 42) hx hb dX9_begin_42 rfl (lv_at hl 0 rfl) ?_
    refine ro_go (pc := 43) (va_runV (As := []) (rest := []) ⟨hx, hb, hml, hown, hts⟩ (c_X9_all l D Y mo ja jb ([.int (nI 0), .int (nI ja), .int (nI jb), .long 0, .int (nI 0), .int (nI 0), .ref aML, .ref aMR, .ref aOW, .int (nI len), .ref aBU, .int sn, .ref aSA, .ref aSZ, .ref aLP, .ref aOP, .ref aFT, .int od, .ref aOL, .ref aRS, .ref aCD, .long pw, .int pb, .int ah, .long hs]) (by first | assumption | exact ⟨rfl, rfl⟩) (hC2)) (cwV 0 hts gX9_begin_X9_all rfl rfl rfl ⟨rfl, hdX9_all⟩ ⟨Nat.le_of_ble_eq_true rfl, Nat.le_of_ble_eq_true rfl⟩) (ro_pV hK (hP.sub [0] rfl) (ro_recv hK hP (ci := 8) (q0 := 0) rfl rfl)) rfl rfl hl.1 rfl (lv_room (Nat.le_of_ble_eq_true rfl)) dX9_begin_43 ⟨Nat.le_of_ble_eq_true rfl, Nat.le_of_ble_eq_true rfl⟩) ?_
    subst hAA
    exact mu_iret hx hb hr hlocks hP hS (⟨_, _, _, _, _, _, _, _, _, _⟩) (rfl) (⟨RvP.ok (kD1_t (by rw [c7, c16]; rfl)), fun _ => ⟨hca.symm, hcb.symm, hC2, rfl, MoR.zero hz16⟩, fun q => absurd (kD1_t (by rw [c7, c16]; rfl)) q⟩) (rfl) dX9_begin_46
  · exact absurd c31 (by decide)

set_option maxHeartbeats 1200000 in
set_option maxRecDepth 100000 in
theorem c_X9_draw (l : Launch) (D : va_G) (Y : vY) (mo : Nat) (th : Int32) (c : Nat) (r : Nat) (w : Int64) (pl : Nat) (n : Nat) (aML : Nat) (aMR : Nat) (aOW : Nat) (len : Nat) (aBU : Nat) (sn : Int32) (aSA : Nat) (aSZ : Nat) (aLP : Nat) (aOP : Nat) (aFT : Nat) (od : Int32) (aOL : Nat) (aRS : Nat) (aCD : Nat) (pw : Int64) (pb : Int32) (ah : Int32) (hs : Int64) (ms : Nat → Nat) (ml : Nat → Int32) (mr : Nat → Int32) (ow : Nat → Int32) (x : Int32) (hC : Cr c r) (hM : MoR c r ms n w pl ml mr ow) : Mu l yX9_draw wsX9_draw ({ frames := 6, cells := 0, slots := 0, locals := 142 } : Room) [.ref mo, .int x] D Y [(mo, .inr (8, [.int th, .int (nI c), .int (nI r), .long w, .int (nI pl), .int (nI n), .ref aML, .ref aMR, .ref aOW, .int (nI len), .ref aBU, .int sn, .ref aSA, .ref aSZ, .ref aLP, .ref aOP, .ref aFT, .int od, .ref aOL, .ref aRS, .ref aCD, .long pw, .int pb, .int ah, .long hs])), (aML, .inl (Y.1, 40, .inl ml)), (aMR, .inl (Y.1, 40, .inl mr)), (aOW, .inl (Y.1, 16, .inl ow))] (fun uS : Int32 × Int32 × Int64 × Nat × Nat × (Nat → Int32) × (Nat → Int32) × (Nat → Int32) => some (.int uS.2.1)) (fun uS : Int32 × Int32 × Int64 × Nat × Nat × (Nat → Int32) × (Nat → Int32) × (Nat → Int32) => [(mo, .inr (8, [.int uS.1, .int (nI c), .int (nI r), .long uS.2.2.1, .int (nI uS.2.2.2.1), .int (nI uS.2.2.2.2.1), .ref aML, .ref aMR, .ref aOW, .int (nI len), .ref aBU, .int sn, .ref aSA, .ref aSZ, .ref aLP, .ref aOP, .ref aFT, .int od, .ref aOL, .ref aRS, .ref aCD, .long pw, .int pb, .int ah, .long hs])), (aML, .inl (Y.1, 40, .inl uS.2.2.2.2.2.1)), (aMR, .inl (Y.1, 40, .inl uS.2.2.2.2.2.2.1)), (aOW, .inl (Y.1, 16, .inl uS.2.2.2.2.2.2.2))]) (fun uS : Int32 × Int32 × Int64 × Nat × Nat × (Nat → Int32) × (Nat → Int32) × (Nat → Int32) => RvP (kD2 (wi x (nI 0) (nI (al c r - 1))) (!tb w x.toNatClampNeg)) uS.1 uS.2.1 (nI (gai c r w x.toNatClampNeg)) ∧ ((kD2 (wi x (nI 0) (nI (al c r - 1))) (!tb w x.toNatClampNeg)) = 0 → uS.2.2.2.2.1 = n + 1 ∧ MoR c r (uM ms n x.toNatClampNeg) uS.2.2.2.2.1 uS.2.2.1 uS.2.2.2.1 uS.2.2.2.2.2.1 uS.2.2.2.2.2.2.1 uS.2.2.2.2.2.2.2) ∧ (¬ (kD2 (wi x (nI 0) (nI (al c r - 1))) (!tb w x.toNatClampNeg)) = 0 → uS.2.2.2.2.1 = n ∧ MoR c r ms uS.2.2.2.2.1 uS.2.2.1 uS.2.2.2.1 uS.2.2.2.2.2.1 uS.2.2.2.2.2.2.1 uS.2.2.2.2.2.2.2)) := by
  refine mu_intro (by decide +kernel) rfl (Nat.le_of_ble_eq_true rfl) [(0, .ref mo), (1, .int x)] rfl ?_
  intro pG eG sG mG aG bG tG cG ls hx hb hr hml hts hown hlocks hK hP hD hS hl
  generalize hAA : adA [(mo, .inr (8, [.int th, .int (nI c), .int (nI r), .long w, .int (nI pl), .int (nI n), .ref aML, .ref aMR, .ref aOW, .int (nI len), .ref aBU, .int sn, .ref aSA, .ref aSZ, .ref aLP, .ref aOP, .ref aFT, .int od, .ref aOL, .ref aRS, .ref aCD, .long pw, .int pb, .int ah, .long hs])), (aML, .inl (Y.1, 40, .inl ml)), (aMR, .inl (Y.1, 40, .inl mr)), (aOW, .inl (Y.1, 16, .inl ow))] = AA at hD hS ⊢
  have hP : va_P D vwCl [(mo, .inr (8, [.int th, .int (nI c), .int (nI r), .long w, .int (nI pl), .int (nI n), .ref aML, .ref aMR, .ref aOW, .int (nI len), .ref aBU, .int sn, .ref aSA, .ref aSZ, .ref aLP, .ref aOP, .ref aFT, .int od, .ref aOL, .ref aRS, .ref aCD, .long pw, .int pb, .int ah, .long hs])), (aML, .inl (Y.1, 40, .inl ml)), (aMR, .inl (Y.1, 40, .inl mr)), (aOW, .inl (Y.1, 16, .inl ow))] sG.heap := hP
  have hD : va_D AA [(mo, .inr (8, [.int th, .int (nI c), .int (nI r), .long w, .int (nI pl), .int (nI n), .ref aML, .ref aMR, .ref aOW, .int (nI len), .ref aBU, .int sn, .ref aSA, .ref aSZ, .ref aLP, .ref aOP, .ref aFT, .int od, .ref aOL, .ref aRS, .ref aCD, .long pw, .int pb, .int ah, .long hs])), (aML, .inl (Y.1, 40, .inl ml)), (aMR, .inl (Y.1, 40, .inl mr)), (aOW, .inl (Y.1, 16, .inl ow))] := hD
  have hown : sG.vm.findClass RX9 = some mG.cls := hown
  have hl : lv_has ls 2 [(0, .ref mo), (1, .int x)] := hl
  have hinX9 : ∀ w ∈ u_ws RX9 TX9 25, w ∈ wsX9_draw := by decide +kernel
  have hS : va_S AA sG.heap sG.heap [] := hS
  obtain ⟨hq1, hq2, hq3, hq4, hq5, hq6, hq7, hq8, hq9, hq10, hq11⟩ := hC.q
  have hhu := hM.1.hund hC
  have hpl1 := hM.1.pl1
  have hn40 := hM.1.n40 hC
  have hob := hM.1.onb hC
  refine lv_aload_n (pc := 0) hx hb dX9_draw_0 rfl (lv_at hl 0 rfl) ?_
  refine lv_aload_n (pc := 1) hx hb dX9_draw_1 rfl (lv_at hl 0 rfl) ?_
  refine lv_iload_n (pc := 2) hx hb dX9_draw_2 rfl (lv_at hl 1 rfl) ?_
  refine ro_go (pc := 3) (va_runV (As := [.int x]) (rest := [.ref mo]) ⟨hx, hb, hml, hown, hts⟩ (c_X9_isLine l D Y mo c r ([.int th, .int (nI c), .int (nI r), .long w, .int (nI pl), .int (nI n), .ref aML, .ref aMR, .ref aOW, .int (nI len), .ref aBU, .int sn, .ref aSA, .ref aSZ, .ref aLP, .ref aOP, .ref aFT, .int od, .ref aOL, .ref aRS, .ref aCD, .long pw, .int pb, .int ah, .long hs]) x (by first | assumption | exact ⟨rfl, rfl⟩) (hC)) (cwV 1 hts gX9_draw_X9_isLine rfl rfl rfl ⟨rfl, hdX9_isLine⟩ ⟨Nat.le_of_ble_eq_true rfl, Nat.le_of_ble_eq_true rfl⟩) (ro_pV hK (hP.sub [0] rfl) (ro_recv hK hP (ci := 8) (q0 := 0) rfl rfl)) rfl rfl hl.1 rfl (lv_room (Nat.le_of_ble_eq_true rfl)) dX9_draw_3 ⟨Nat.le_of_ble_eq_true rfl, Nat.le_of_ble_eq_true rfl⟩) ?_
  refine z_if_ne (pc := 6) (tgt := 13) hx hb dX9_draw_6 (by decide) (fun c6 => ?_) (fun c6 => ?_)
  · obtain ⟨li, hli, rfl⟩ := wi_of (by omega) c6
    have hl0 : li < al c r := by omega
    have hcl : (nI li).toNatClampNeg = li := nI_clamp (by omega)
    have hl : lv_has ls 2 [(0, .ref mo), (1, .int (nI li))] := hl
    refine lv_aload_n (pc := 13) hx hb dX9_draw_13 rfl (lv_at hl 0 rfl) ?_
    refine va_get (pc := 14) (D := D) (ci := 8) (v := .long w) (C := RX9) (T := TX9) (N := 25) hx hb hts hinX9 hown hK.1 hP 0 rfl rfl 3 (by decide) (hts (.fieldLink RX9 119 "BoxesGameModel" "now" "J") (List.mem_of_getElem? (i := 1) rfl)) (fun _ h9 => h9) rfl dX9_draw_14 ?_
    refine lv_iload_n (pc := 17) hx hb dX9_draw_17 rfl (lv_at hl 1 rfl) ?_
    refine ro_go (pc := 18) (va_runS (As := [.long w, .int (nI li)]) (rest := [.ref mo]) ⟨hx, hb, hml, hown, hts⟩ (c_X9_has l D Y w li (by omega)) (va_cwS 2 hts gX9_draw_X9_has rfl rfl rfl hdX9_has ⟨Nat.le_of_ble_eq_true rfl, Nat.le_of_ble_eq_true rfl⟩) (ro_pS hK (hP.sub [] rfl)) rfl rfl hl.1 rfl (lv_room (Nat.le_of_ble_eq_true rfl)) dX9_draw_18 ⟨Nat.le_of_ble_eq_true rfl, Nat.le_of_ble_eq_true rfl⟩) ?_
    refine z_if_eq (pc := 21) (tgt := 28) hx hb dX9_draw_21 (by decide) (fun c21 => ?_) (fun c21 => ?_)
    · refine lv_iconst (pc := 28) (v := nI 0) hx hb dX9_draw_28 rfl ?_
      refine va_put (pc := 29) (D := D) (ci := 8) (v := .int (nI 0)) (ty := .int) (C := RX9) (T := TX9) (N := 25) hx hb hts hinX9 tyX9 tyX9_ok nmX9 hown hK.1 hP hD hS 0 rfl rfl 0 (by decide) (hts (.fieldLink RX9 59 "BoxesGameModel" "thrown" "I") (List.mem_of_getElem? (i := 2) rfl)) (fun _ h9 => h9) rfl (by decide +kernel) (rfl) (rfl) (Nat.le_of_ble_eq_true rfl) dX9_draw_29 (fun H locs hP hD hS => ?_)
      have hP : va_P D vwCl [(mo, .inr (8, [.int (nI 0), .int (nI c), .int (nI r), .long w, .int (nI pl), .int (nI n), .ref aML, .ref aMR, .ref aOW, .int (nI len), .ref aBU, .int sn, .ref aSA, .ref aSZ, .ref aLP, .ref aOP, .ref aFT, .int od, .ref aOL, .ref aRS, .ref aCD, .long pw, .int pb, .int ah, .long hs])), (aML, .inl (Y.1, 40, .inl ml)), (aMR, .inl (Y.1, 40, .inl mr)), (aOW, .inl (Y.1, 16, .inl ow))] H := hP
      have hD : va_D AA [(mo, .inr (8, [.int (nI 0), .int (nI c), .int (nI r), .long w, .int (nI pl), .int (nI n), .ref aML, .ref aMR, .ref aOW, .int (nI len), .ref aBU, .int sn, .ref aSA, .ref aSZ, .ref aLP, .ref aOP, .ref aFT, .int od, .ref aOL, .ref aRS, .ref aCD, .long pw, .int pb, .int ah, .long hs])), (aML, .inl (Y.1, 40, .inl ml)), (aMR, .inl (Y.1, 40, .inl mr)), (aOW, .inl (Y.1, 16, .inl ow))] := hD
      refine lv_aload_n (pc := 32) hx hb dX9_draw_32 rfl (lv_at hl 0 rfl) ?_
      refine va_get (pc := 33) (D := D) (ci := 8) (v := .int (nI 0)) (C := RX9) (T := TX9) (N := 25) hx hb hts hinX9 hown hK.1 hP 0 rfl rfl 0 (by decide) (hts (.fieldLink RX9 59 "BoxesGameModel" "thrown" "I") (List.mem_of_getElem? (i := 2) rfl)) (fun _ h9 => h9) rfl dX9_draw_33 ?_
      refine n_if_le (pc := 36) (tgt := 43) hx hb (by omega) dX9_draw_36 (by decide) (fun c36 => ?_) (fun c36 => ?_)
      · refine lv_aload_n (pc := 43) hx hb dX9_draw_43 rfl (lv_at hl 0 rfl) ?_
        refine lv_iload_n (pc := 44) hx hb dX9_draw_44 rfl (lv_at hl 1 rfl) ?_
        refine mu_go (pc := 45) (va_runV (As := [.int (nI li)]) (rest := []) ⟨hx, hb, hml, hown, hts⟩ (c_X9_make l D Y mo (nI 0) c r w pl n aML aMR aOW len aBU sn aSA aSZ aLP aOP aFT od aOL aRS aCD pw pb ah hs li ml mr ow (hC) (hl0) (c21) (hM.1.lt hC hl0 c21) (hpl1)) (cwV 1 hts gX9_draw_X9_make rfl rfl rfl ⟨rfl, hdX9_make⟩ ⟨Nat.le_of_ble_eq_true rfl, Nat.le_of_ble_eq_true rfl⟩) (mu_pV hK hP hD (ro_recv hK hP (ci := 8) (q0 := 0) rfl rfl)) rfl rfl hl.1 rfl (lv_room (Nat.le_of_ble_eq_true rfl)) dX9_draw_45 ⟨Nat.le_of_ble_eq_true rfl, Nat.le_of_ble_eq_true rfl⟩) hP hD hS [0, 1, 2, 3] rfl (by decide) (fun _ => [(mo, .inr (8, [.int (nI 0), .int (nI c), .int (nI r), .long (w ||| b1 li), .int (nI (nxp (gai c r w li) pl)), .int (nI (n + 1)), .ref aML, .ref aMR, .ref aOW, .int (nI len), .ref aBU, .int sn, .ref aSA, .ref aSZ, .ref aLP, .ref aOP, .ref aFT, .int od, .ref aOL, .ref aRS, .ref aCD, .long pw, .int pb, .int ah, .long hs])), (aML, .inl (Y.1, 40, .inl (upd ml n (nI li)))), (aMR, .inl (Y.1, 40, .inl (upd mr n (nI pl)))), (aOW, .inl (Y.1, 16, .inl (mkO c r (w ||| b1 li) li ow (nI pl))))]) (fun _ => rfl) (fun _ => rfl) (fun uS H locs hpost hP hD hS => ?_)
        have hP : va_P D vwCl [(mo, .inr (8, [.int (nI 0), .int (nI c), .int (nI r), .long (w ||| b1 li), .int (nI (nxp (gai c r w li) pl)), .int (nI (n + 1)), .ref aML, .ref aMR, .ref aOW, .int (nI len), .ref aBU, .int sn, .ref aSA, .ref aSZ, .ref aLP, .ref aOP, .ref aFT, .int od, .ref aOL, .ref aRS, .ref aCD, .long pw, .int pb, .int ah, .long hs])), (aML, .inl (Y.1, 40, .inl (upd ml n (nI li)))), (aMR, .inl (Y.1, 40, .inl (upd mr n (nI pl)))), (aOW, .inl (Y.1, 16, .inl (mkO c r (w ||| b1 li) li ow (nI pl))))] H := hP
        have hD : va_D AA [(mo, .inr (8, [.int (nI 0), .int (nI c), .int (nI r), .long (w ||| b1 li), .int (nI (nxp (gai c r w li) pl)), .int (nI (n + 1)), .ref aML, .ref aMR, .ref aOW, .int (nI len), .ref aBU, .int sn, .ref aSA, .ref aSZ, .ref aLP, .ref aOP, .ref aFT, .int od, .ref aOL, .ref aRS, .ref aCD, .long pw, .int pb, .int ah, .long hs])), (aML, .inl (Y.1, 40, .inl (upd ml n (nI li)))), (aMR, .inl (Y.1, 40, .inl (upd mr n (nI pl)))), (aOW, .inl (Y.1, 16, .inl (mkO c r (w ||| b1 li) li ow (nI pl))))] := hD
        subst hAA
        exact mu_iret hx hb hr hlocks hP hS (⟨_, _, _, _, _, _, _, _⟩) (rfl) (⟨by rw [hcl]; exact RvP.ok (by rw [c21]; exact kD2_0 c6 rfl), fun _ => by rw [hcl]; exact ⟨rfl, hM.make hl0 c21⟩, fun z => absurd (kD2_0 c6 (by rw [hcl, c21]; rfl)) z⟩) (rfl) dX9_draw_48
      · exact absurd c36 (by decide)
    refine lv_iconst (pc := 24) (v := nI 2) hx hb dX9_draw_24 rfl ?_
    refine lv_goto (pc := 25) (tgt := 29) hx hb dX9_draw_25 (by decide) ?_
    refine va_put (pc := 29) (D := D) (ci := 8) (v := .int (nI 2)) (ty := .int) (C := RX9) (T := TX9) (N := 25) hx hb hts hinX9 tyX9 tyX9_ok nmX9 hown hK.1 hP hD hS 0 rfl rfl 0 (by decide) (hts (.fieldLink RX9 59 "BoxesGameModel" "thrown" "I") (List.mem_of_getElem? (i := 2) rfl)) (fun _ h9 => h9) rfl (by decide +kernel) (rfl) (rfl) (Nat.le_of_ble_eq_true rfl) dX9_draw_29 (fun H locs hP hD hS => ?_)
    have hP : va_P D vwCl [(mo, .inr (8, [.int (nI 2), .int (nI c), .int (nI r), .long w, .int (nI pl), .int (nI n), .ref aML, .ref aMR, .ref aOW, .int (nI len), .ref aBU, .int sn, .ref aSA, .ref aSZ, .ref aLP, .ref aOP, .ref aFT, .int od, .ref aOL, .ref aRS, .ref aCD, .long pw, .int pb, .int ah, .long hs])), (aML, .inl (Y.1, 40, .inl ml)), (aMR, .inl (Y.1, 40, .inl mr)), (aOW, .inl (Y.1, 16, .inl ow))] H := hP
    have hD : va_D AA [(mo, .inr (8, [.int (nI 2), .int (nI c), .int (nI r), .long w, .int (nI pl), .int (nI n), .ref aML, .ref aMR, .ref aOW, .int (nI len), .ref aBU, .int sn, .ref aSA, .ref aSZ, .ref aLP, .ref aOP, .ref aFT, .int od, .ref aOL, .ref aRS, .ref aCD, .long pw, .int pb, .int ah, .long hs])), (aML, .inl (Y.1, 40, .inl ml)), (aMR, .inl (Y.1, 40, .inl mr)), (aOW, .inl (Y.1, 16, .inl ow))] := hD
    refine lv_aload_n (pc := 32) hx hb dX9_draw_32 rfl (lv_at hl 0 rfl) ?_
    refine va_get (pc := 33) (D := D) (ci := 8) (v := .int (nI 2)) (C := RX9) (T := TX9) (N := 25) hx hb hts hinX9 hown hK.1 hP 0 rfl rfl 0 (by decide) (hts (.fieldLink RX9 59 "BoxesGameModel" "thrown" "I") (List.mem_of_getElem? (i := 2) rfl)) (fun _ h9 => h9) rfl dX9_draw_33 ?_
    refine n_if_le (pc := 36) (tgt := 43) hx hb (by omega) dX9_draw_36 (by decide) (fun c36 => ?_) (fun c36 => ?_)
    · exact absurd c36 (by decide)
    refine lv_iconst (pc := 39) (v := nI 0) hx hb dX9_draw_39 rfl ?_
    refine lv_goto (pc := 40) (tgt := 48) hx hb dX9_draw_40 (by decide) ?_
    subst hAA
    exact mu_iret hx hb hr hlocks hP hS (⟨_, _, _, _, _, _, _, _⟩) (rfl) (⟨RvP.no (kD2_2 c6 (by rw [hcl, c21]; rfl)) (by decide), fun z => absurd z (kd_no (kD2_2 c6 (by rw [hcl, c21]; rfl)) (by decide)), fun _ => ⟨rfl, hM⟩⟩) (rfl) dX9_draw_48
  refine lv_iconst (pc := 9) (v := nI 1) hx hb dX9_draw_9 rfl ?_
  refine lv_goto (pc := 10) (tgt := 29) hx hb dX9_draw_10 (by decide) ?_
  refine va_put (pc := 29) (D := D) (ci := 8) (v := .int (nI 1)) (ty := .int) (C := RX9) (T := TX9) (N := 25) hx hb hts hinX9 tyX9 tyX9_ok nmX9 hown hK.1 hP hD hS 0 rfl rfl 0 (by decide) (hts (.fieldLink RX9 59 "BoxesGameModel" "thrown" "I") (List.mem_of_getElem? (i := 2) rfl)) (fun _ h9 => h9) rfl (by decide +kernel) (rfl) (rfl) (Nat.le_of_ble_eq_true rfl) dX9_draw_29 (fun H locs hP hD hS => ?_)
  have hP : va_P D vwCl [(mo, .inr (8, [.int (nI 1), .int (nI c), .int (nI r), .long w, .int (nI pl), .int (nI n), .ref aML, .ref aMR, .ref aOW, .int (nI len), .ref aBU, .int sn, .ref aSA, .ref aSZ, .ref aLP, .ref aOP, .ref aFT, .int od, .ref aOL, .ref aRS, .ref aCD, .long pw, .int pb, .int ah, .long hs])), (aML, .inl (Y.1, 40, .inl ml)), (aMR, .inl (Y.1, 40, .inl mr)), (aOW, .inl (Y.1, 16, .inl ow))] H := hP
  have hD : va_D AA [(mo, .inr (8, [.int (nI 1), .int (nI c), .int (nI r), .long w, .int (nI pl), .int (nI n), .ref aML, .ref aMR, .ref aOW, .int (nI len), .ref aBU, .int sn, .ref aSA, .ref aSZ, .ref aLP, .ref aOP, .ref aFT, .int od, .ref aOL, .ref aRS, .ref aCD, .long pw, .int pb, .int ah, .long hs])), (aML, .inl (Y.1, 40, .inl ml)), (aMR, .inl (Y.1, 40, .inl mr)), (aOW, .inl (Y.1, 16, .inl ow))] := hD
  refine lv_aload_n (pc := 32) hx hb dX9_draw_32 rfl (lv_at hl 0 rfl) ?_
  refine va_get (pc := 33) (D := D) (ci := 8) (v := .int (nI 1)) (C := RX9) (T := TX9) (N := 25) hx hb hts hinX9 hown hK.1 hP 0 rfl rfl 0 (by decide) (hts (.fieldLink RX9 59 "BoxesGameModel" "thrown" "I") (List.mem_of_getElem? (i := 2) rfl)) (fun _ h9 => h9) rfl dX9_draw_33 ?_
  refine n_if_le (pc := 36) (tgt := 43) hx hb (by omega) dX9_draw_36 (by decide) (fun c36 => ?_) (fun c36 => ?_)
  · exact absurd c36 (by decide)
  refine lv_iconst (pc := 39) (v := nI 0) hx hb dX9_draw_39 rfl ?_
  refine lv_goto (pc := 40) (tgt := 48) hx hb dX9_draw_40 (by decide) ?_
  subst hAA
  exact mu_iret hx hb hr hlocks hP hS (⟨_, _, _, _, _, _, _, _⟩) (rfl) (⟨RvP.no (kD2_1 c6) (by decide), fun z => absurd z (kd_no (kD2_1 c6) (by decide)), fun _ => ⟨rfl, hM⟩⟩) (rfl) dX9_draw_48

set_option maxHeartbeats 1200000 in
set_option maxRecDepth 100000 in
theorem c_X9_undo (l : Launch) (D : va_G) (Y : vY) (mo : Nat) (th : Int32) (c : Nat) (r : Nat) (w : Int64) (pl : Nat) (n : Nat) (aML : Nat) (aMR : Nat) (aOW : Nat) (len : Nat) (aBU : Nat) (sn : Int32) (aSA : Nat) (aSZ : Nat) (aLP : Nat) (aOP : Nat) (aFT : Nat) (od : Int32) (aOL : Nat) (aRS : Nat) (aCD : Nat) (pw : Int64) (pb : Int32) (ah : Int32) (hs : Int64) (ms : Nat → Nat) (ml : Nat → Int32) (mr : Nat → Int32) (ow : Nat → Int32) (hC : Cr c r) (hM : MoR c r ms n w pl ml mr ow) : Mu l yX9_undo wsX9_undo ({ frames := 4, cells := 0, slots := 0, locals := 86 } : Room) [.ref mo] D Y [(mo, .inr (8, [.int th, .int (nI c), .int (nI r), .long w, .int (nI pl), .int (nI n), .ref aML, .ref aMR, .ref aOW, .int (nI len), .ref aBU, .int sn, .ref aSA, .ref aSZ, .ref aLP, .ref aOP, .ref aFT, .int od, .ref aOL, .ref aRS, .ref aCD, .long pw, .int pb, .int ah, .long hs])), (aML, .inl (Y.1, 40, .inl ml)), (aMR, .inl (Y.1, 40, .inl mr)), (aOW, .inl (Y.1, 16, .inl ow))] (fun uS : Int32 × Int32 × Int64 × Nat × Nat × (Nat → Int32) × (Nat → Int32) × (Nat → Int32) => some (.int uS.2.1)) (fun uS : Int32 × Int32 × Int64 × Nat × Nat × (Nat → Int32) × (Nat → Int32) × (Nat → Int32) => [(mo, .inr (8, [.int uS.1, .int (nI c), .int (nI r), .long uS.2.2.1, .int (nI uS.2.2.2.1), .int (nI uS.2.2.2.2.1), .ref aML, .ref aMR, .ref aOW, .int (nI len), .ref aBU, .int sn, .ref aSA, .ref aSZ, .ref aLP, .ref aOP, .ref aFT, .int od, .ref aOL, .ref aRS, .ref aCD, .long pw, .int pb, .int ah, .long hs])), (aML, .inl (Y.1, 40, .inl uS.2.2.2.2.2.1)), (aMR, .inl (Y.1, 40, .inl uS.2.2.2.2.2.2.1)), (aOW, .inl (Y.1, 16, .inl uS.2.2.2.2.2.2.2))]) (fun uS : Int32 × Int32 × Int64 × Nat × Nat × (Nat → Int32) × (Nat → Int32) × (Nat → Int32) => RvP (kD1 (decide (0 < n))) uS.1 uS.2.1 (nI (ms (n - 1))) ∧ ((kD1 (decide (0 < n))) = 0 → uS.2.2.2.2.1 = n - 1 ∧ MoR c r ms uS.2.2.2.2.1 uS.2.2.1 uS.2.2.2.1 uS.2.2.2.2.2.1 uS.2.2.2.2.2.2.1 uS.2.2.2.2.2.2.2) ∧ (¬ (kD1 (decide (0 < n))) = 0 → uS.2.2.2.2.1 = n ∧ MoR c r ms uS.2.2.2.2.1 uS.2.2.1 uS.2.2.2.1 uS.2.2.2.2.2.1 uS.2.2.2.2.2.2.1 uS.2.2.2.2.2.2.2)) := by
  refine mu_intro (by decide +kernel) rfl (Nat.le_of_ble_eq_true rfl) [(0, .ref mo)] rfl ?_
  intro pG eG sG mG aG bG tG cG ls hx hb hr hml hts hown hlocks hK hP hD hS hl
  generalize hAA : adA [(mo, .inr (8, [.int th, .int (nI c), .int (nI r), .long w, .int (nI pl), .int (nI n), .ref aML, .ref aMR, .ref aOW, .int (nI len), .ref aBU, .int sn, .ref aSA, .ref aSZ, .ref aLP, .ref aOP, .ref aFT, .int od, .ref aOL, .ref aRS, .ref aCD, .long pw, .int pb, .int ah, .long hs])), (aML, .inl (Y.1, 40, .inl ml)), (aMR, .inl (Y.1, 40, .inl mr)), (aOW, .inl (Y.1, 16, .inl ow))] = AA at hD hS ⊢
  have hP : va_P D vwCl [(mo, .inr (8, [.int th, .int (nI c), .int (nI r), .long w, .int (nI pl), .int (nI n), .ref aML, .ref aMR, .ref aOW, .int (nI len), .ref aBU, .int sn, .ref aSA, .ref aSZ, .ref aLP, .ref aOP, .ref aFT, .int od, .ref aOL, .ref aRS, .ref aCD, .long pw, .int pb, .int ah, .long hs])), (aML, .inl (Y.1, 40, .inl ml)), (aMR, .inl (Y.1, 40, .inl mr)), (aOW, .inl (Y.1, 16, .inl ow))] sG.heap := hP
  have hD : va_D AA [(mo, .inr (8, [.int th, .int (nI c), .int (nI r), .long w, .int (nI pl), .int (nI n), .ref aML, .ref aMR, .ref aOW, .int (nI len), .ref aBU, .int sn, .ref aSA, .ref aSZ, .ref aLP, .ref aOP, .ref aFT, .int od, .ref aOL, .ref aRS, .ref aCD, .long pw, .int pb, .int ah, .long hs])), (aML, .inl (Y.1, 40, .inl ml)), (aMR, .inl (Y.1, 40, .inl mr)), (aOW, .inl (Y.1, 16, .inl ow))] := hD
  have hown : sG.vm.findClass RX9 = some mG.cls := hown
  have hl : lv_has ls 4 [(0, .ref mo)] := hl
  have hinX9 : ∀ w ∈ u_ws RX9 TX9 25, w ∈ wsX9_undo := by decide +kernel
  have hS : va_S AA sG.heap sG.heap [] := hS
  obtain ⟨hq1, hq2, hq3, hq4, hq5, hq6, hq7, hq8, hq9, hq10, hq11⟩ := hC.q
  have hhu := hM.1.hund hC
  have hpl1 := hM.1.pl1
  have hn40 := hM.1.n40 hC
  have hob := hM.1.onb hC
  refine lv_aload_n (pc := 0) hx hb dX9_undo_0 rfl (lv_at hl 0 rfl) ?_
  refine lv_aload_n (pc := 1) hx hb dX9_undo_1 rfl (lv_at hl 0 rfl) ?_
  refine va_get (pc := 2) (D := D) (ci := 8) (v := .int (nI n)) (C := RX9) (T := TX9) (N := 25) hx hb hts hinX9 hown hK.1 hP 0 rfl rfl 5 (by decide) (hts (.fieldLink RX9 126 "BoxesGameModel" "moves" "I") (List.mem_of_getElem? (i := 1) rfl)) (fun _ h9 => h9) rfl dX9_undo_2 ?_
  refine n_if_le (pc := 5) (tgt := 12) hx hb (by omega) dX9_undo_5 (by decide) (fun c5 => ?_) (fun c5 => ?_)
  · refine lv_iconst (pc := 12) (v := nI 1) hx hb dX9_undo_12 rfl ?_
    refine va_put (pc := 13) (D := D) (ci := 8) (v := .int (nI 1)) (ty := .int) (C := RX9) (T := TX9) (N := 25) hx hb hts hinX9 tyX9 tyX9_ok nmX9 hown hK.1 hP hD hS 0 rfl rfl 0 (by decide) (hts (.fieldLink RX9 59 "BoxesGameModel" "thrown" "I") (List.mem_of_getElem? (i := 2) rfl)) (fun _ h9 => h9) rfl (by decide +kernel) (rfl) (rfl) (Nat.le_of_ble_eq_true rfl) dX9_undo_13 (fun H locs hP hD hS => ?_)
    have hP : va_P D vwCl [(mo, .inr (8, [.int (nI 1), .int (nI c), .int (nI r), .long w, .int (nI pl), .int (nI n), .ref aML, .ref aMR, .ref aOW, .int (nI len), .ref aBU, .int sn, .ref aSA, .ref aSZ, .ref aLP, .ref aOP, .ref aFT, .int od, .ref aOL, .ref aRS, .ref aCD, .long pw, .int pb, .int ah, .long hs])), (aML, .inl (Y.1, 40, .inl ml)), (aMR, .inl (Y.1, 40, .inl mr)), (aOW, .inl (Y.1, 16, .inl ow))] H := hP
    have hD : va_D AA [(mo, .inr (8, [.int (nI 1), .int (nI c), .int (nI r), .long w, .int (nI pl), .int (nI n), .ref aML, .ref aMR, .ref aOW, .int (nI len), .ref aBU, .int sn, .ref aSA, .ref aSZ, .ref aLP, .ref aOP, .ref aFT, .int od, .ref aOL, .ref aRS, .ref aCD, .long pw, .int pb, .int ah, .long hs])), (aML, .inl (Y.1, 40, .inl ml)), (aMR, .inl (Y.1, 40, .inl mr)), (aOW, .inl (Y.1, 16, .inl ow))] := hD
    refine lv_aload_n (pc := 16) hx hb dX9_undo_16 rfl (lv_at hl 0 rfl) ?_
    refine va_get (pc := 17) (D := D) (ci := 8) (v := .int (nI 1)) (C := RX9) (T := TX9) (N := 25) hx hb hts hinX9 hown hK.1 hP 0 rfl rfl 0 (by decide) (hts (.fieldLink RX9 59 "BoxesGameModel" "thrown" "I") (List.mem_of_getElem? (i := 2) rfl)) (fun _ h9 => h9) rfl dX9_undo_17 ?_
    refine n_if_le (pc := 20) (tgt := 25) hx hb (by omega) dX9_undo_20 (by decide) (fun c20 => ?_) (fun c20 => ?_)
    · exact absurd c20 (by decide)
    refine lv_iconst (pc := 23) (v := nI 0) hx hb dX9_undo_23 rfl ?_
    subst hAA
    exact mu_iret hx hb hr hlocks hP hS (⟨_, _, _, _, _, _, _, _⟩) (rfl) (⟨RvP.no (kD1_f (decide_eq_false (by omega))) (by decide), fun z => absurd z (kd_no (kD1_f (decide_eq_false (by omega))) (by decide)), fun _ => ⟨rfl, hM⟩⟩) (rfl) dX9_undo_24
  obtain ⟨hl1, hl2, hl3, hl4⟩ := hM.1.last c5
  refine lv_iconst (pc := 8) (v := nI 0) hx hb dX9_undo_8 rfl ?_
  refine lv_goto (pc := 9) (tgt := 13) hx hb dX9_undo_9 (by decide) ?_
  refine va_put (pc := 13) (D := D) (ci := 8) (v := .int (nI 0)) (ty := .int) (C := RX9) (T := TX9) (N := 25) hx hb hts hinX9 tyX9 tyX9_ok nmX9 hown hK.1 hP hD hS 0 rfl rfl 0 (by decide) (hts (.fieldLink RX9 59 "BoxesGameModel" "thrown" "I") (List.mem_of_getElem? (i := 2) rfl)) (fun _ h9 => h9) rfl (by decide +kernel) (rfl) (rfl) (Nat.le_of_ble_eq_true rfl) dX9_undo_13 (fun H locs hP hD hS => ?_)
  have hP : va_P D vwCl [(mo, .inr (8, [.int (nI 0), .int (nI c), .int (nI r), .long w, .int (nI pl), .int (nI n), .ref aML, .ref aMR, .ref aOW, .int (nI len), .ref aBU, .int sn, .ref aSA, .ref aSZ, .ref aLP, .ref aOP, .ref aFT, .int od, .ref aOL, .ref aRS, .ref aCD, .long pw, .int pb, .int ah, .long hs])), (aML, .inl (Y.1, 40, .inl ml)), (aMR, .inl (Y.1, 40, .inl mr)), (aOW, .inl (Y.1, 16, .inl ow))] H := hP
  have hD : va_D AA [(mo, .inr (8, [.int (nI 0), .int (nI c), .int (nI r), .long w, .int (nI pl), .int (nI n), .ref aML, .ref aMR, .ref aOW, .int (nI len), .ref aBU, .int sn, .ref aSA, .ref aSZ, .ref aLP, .ref aOP, .ref aFT, .int od, .ref aOL, .ref aRS, .ref aCD, .long pw, .int pb, .int ah, .long hs])), (aML, .inl (Y.1, 40, .inl ml)), (aMR, .inl (Y.1, 40, .inl mr)), (aOW, .inl (Y.1, 16, .inl ow))] := hD
  refine lv_aload_n (pc := 16) hx hb dX9_undo_16 rfl (lv_at hl 0 rfl) ?_
  refine va_get (pc := 17) (D := D) (ci := 8) (v := .int (nI 0)) (C := RX9) (T := TX9) (N := 25) hx hb hts hinX9 hown hK.1 hP 0 rfl rfl 0 (by decide) (hts (.fieldLink RX9 59 "BoxesGameModel" "thrown" "I") (List.mem_of_getElem? (i := 2) rfl)) (fun _ h9 => h9) rfl dX9_undo_17 ?_
  refine n_if_le (pc := 20) (tgt := 25) hx hb (by omega) dX9_undo_20 (by decide) (fun c20 => ?_) (fun c20 => ?_)
  · refine lv_aload_n (pc := 25) hx hb dX9_undo_25 rfl (lv_at hl 0 rfl) ?_
    refine lv_dup (pc := 26) hx hb dX9_undo_26 rfl ?_
    refine va_get (pc := 27) (D := D) (ci := 8) (v := .int (nI n)) (C := RX9) (T := TX9) (N := 25) hx hb hts hinX9 hown hK.1 hP 0 rfl rfl 5 (by decide) (hts (.fieldLink RX9 126 "BoxesGameModel" "moves" "I") (List.mem_of_getElem? (i := 1) rfl)) (fun _ h9 => h9) rfl dX9_undo_27 ?_
    refine lv_iconst (pc := 30) (v := nI 1) hx hb dX9_undo_30 rfl ?_
    refine n_isub (pc := 31) hx hb (c5) dX9_undo_31 ?_
    refine va_put (pc := 32) (D := D) (ci := 8) (v := .int (nI (n - 1))) (ty := .int) (C := RX9) (T := TX9) (N := 25) hx hb hts hinX9 tyX9 tyX9_ok nmX9 hown hK.1 hP hD hS 0 rfl rfl 5 (by decide) (hts (.fieldLink RX9 126 "BoxesGameModel" "moves" "I") (List.mem_of_getElem? (i := 1) rfl)) (fun _ h9 => h9) rfl (by decide +kernel) (rfl) (rfl) (Nat.le_of_ble_eq_true rfl) dX9_undo_32 (fun H locs hP hD hS => ?_)
    have hP : va_P D vwCl [(mo, .inr (8, [.int (nI 0), .int (nI c), .int (nI r), .long w, .int (nI pl), .int (nI (n - 1)), .ref aML, .ref aMR, .ref aOW, .int (nI len), .ref aBU, .int sn, .ref aSA, .ref aSZ, .ref aLP, .ref aOP, .ref aFT, .int od, .ref aOL, .ref aRS, .ref aCD, .long pw, .int pb, .int ah, .long hs])), (aML, .inl (Y.1, 40, .inl ml)), (aMR, .inl (Y.1, 40, .inl mr)), (aOW, .inl (Y.1, 16, .inl ow))] H := hP
    have hD : va_D AA [(mo, .inr (8, [.int (nI 0), .int (nI c), .int (nI r), .long w, .int (nI pl), .int (nI (n - 1)), .ref aML, .ref aMR, .ref aOW, .int (nI len), .ref aBU, .int sn, .ref aSA, .ref aSZ, .ref aLP, .ref aOP, .ref aFT, .int od, .ref aOL, .ref aRS, .ref aCD, .long pw, .int pb, .int ah, .long hs])), (aML, .inl (Y.1, 40, .inl ml)), (aMR, .inl (Y.1, 40, .inl mr)), (aOW, .inl (Y.1, 16, .inl ow))] := hD
    refine lv_aload_n (pc := 35) hx hb dX9_undo_35 rfl (lv_at hl 0 rfl) ?_
    refine va_get (pc := 36) (D := D) (ci := 8) (v := .ref aML) (C := RX9) (T := TX9) (N := 25) hx hb hts hinX9 hown hK.1 hP 0 rfl rfl 6 (by decide) (hts (.fieldLink RX9 16 "BoxesGameModel" "moveLines" "[I") (List.mem_of_getElem? (i := 3) rfl)) (fun _ h9 => h9) rfl dX9_undo_36 ?_
    refine lv_aload_n (pc := 39) hx hb dX9_undo_39 rfl (lv_at hl 0 rfl) ?_
    refine va_get (pc := 40) (D := D) (ci := 8) (v := .int (nI (n - 1))) (C := RX9) (T := TX9) (N := 25) hx hb hts hinX9 hown hK.1 hP 0 rfl rfl 5 (by decide) (hts (.fieldLink RX9 126 "BoxesGameModel" "moves" "I") (List.mem_of_getElem? (i := 1) rfl)) (fun _ h9 => h9) rfl dX9_undo_40 ?_
    refine va_iald (pc := 43) hx hb hK.1 hP 1 0 rfl rfl (vp_in_nI (by omega) (by decide)) dX9_undo_43 ?_
    refine top_i (show ml (nI (n - 1)).toNatClampNeg = ml (n - 1) from by rw [nI_clamp (by omega)]) ?_
    refine top_i (show ml (n - 1) = nI (ms (n - 1)) from hl3) ?_
    refine lv_istore_n (pc := 44) (lv' := [(1, .int (nI (ms (n - 1)))), (0, .ref mo)]) hx hb dX9_undo_44 rfl hl (by decide) rfl (fun ls hl => ?_)
    refine lv_aload_n (pc := 45) hx hb dX9_undo_45 rfl (lv_at hl 1 rfl) ?_
    refine lv_aload_n (pc := 46) hx hb dX9_undo_46 rfl (lv_at hl 1 rfl) ?_
    refine va_get (pc := 47) (D := D) (ci := 8) (v := .ref aMR) (C := RX9) (T := TX9) (N := 25) hx hb hts hinX9 hown hK.1 hP 0 rfl rfl 7 (by decide) (hts (.fieldLink RX9 20 "BoxesGameModel" "movers" "[I") (List.mem_of_getElem? (i := 4) rfl)) (fun _ h9 => h9) rfl dX9_undo_47 ?_
    refine lv_aload_n (pc := 50) hx hb dX9_undo_50 rfl (lv_at hl 1 rfl) ?_
    refine va_get (pc := 51) (D := D) (ci := 8) (v := .int (nI (n - 1))) (C := RX9) (T := TX9) (N := 25) hx hb hts hinX9 hown hK.1 hP 0 rfl rfl 5 (by decide) (hts (.fieldLink RX9 126 "BoxesGameModel" "moves" "I") (List.mem_of_getElem? (i := 1) rfl)) (fun _ h9 => h9) rfl dX9_undo_51 ?_
    refine va_iald (pc := 54) hx hb hK.1 hP 2 0 rfl rfl (vp_in_nI (by omega) (by decide)) dX9_undo_54 ?_
    refine top_i (show mr (nI (n - 1)).toNatClampNeg = mr (n - 1) from by rw [nI_clamp (by omega)]) ?_
    refine top_i (show mr (n - 1) = nI (qS c r ms (n - 1)) from hM.2 _ (by omega)) ?_
    refine va_put (pc := 55) (D := D) (ci := 8) (v := .int (nI (qS c r ms (n - 1)))) (ty := .int) (C := RX9) (T := TX9) (N := 25) hx hb hts hinX9 tyX9 tyX9_ok nmX9 hown hK.1 hP hD hS 0 rfl rfl 4 (by decide) (hts (.fieldLink RX9 123 "BoxesGameModel" "player" "I") (List.mem_of_getElem? (i := 5) rfl)) (fun _ h9 => h9) rfl (by decide +kernel) (rfl) (rfl) (Nat.le_of_ble_eq_true rfl) dX9_undo_55 (fun H locs hP hD hS => ?_)
    have hP : va_P D vwCl [(mo, .inr (8, [.int (nI 0), .int (nI c), .int (nI r), .long w, .int (nI (qS c r ms (n - 1))), .int (nI (n - 1)), .ref aML, .ref aMR, .ref aOW, .int (nI len), .ref aBU, .int sn, .ref aSA, .ref aSZ, .ref aLP, .ref aOP, .ref aFT, .int od, .ref aOL, .ref aRS, .ref aCD, .long pw, .int pb, .int ah, .long hs])), (aML, .inl (Y.1, 40, .inl ml)), (aMR, .inl (Y.1, 40, .inl mr)), (aOW, .inl (Y.1, 16, .inl ow))] H := hP
    have hD : va_D AA [(mo, .inr (8, [.int (nI 0), .int (nI c), .int (nI r), .long w, .int (nI (qS c r ms (n - 1))), .int (nI (n - 1)), .ref aML, .ref aMR, .ref aOW, .int (nI len), .ref aBU, .int sn, .ref aSA, .ref aSZ, .ref aLP, .ref aOP, .ref aFT, .int od, .ref aOL, .ref aRS, .ref aCD, .long pw, .int pb, .int ah, .long hs])), (aML, .inl (Y.1, 40, .inl ml)), (aMR, .inl (Y.1, 40, .inl mr)), (aOW, .inl (Y.1, 16, .inl ow))] := hD
    refine lv_aload_n (pc := 58) hx hb dX9_undo_58 rfl (lv_at hl 1 rfl) ?_
    refine lv_dup (pc := 59) hx hb dX9_undo_59 rfl ?_
    refine va_get (pc := 60) (D := D) (ci := 8) (v := .long w) (C := RX9) (T := TX9) (N := 25) hx hb hts hinX9 hown hK.1 hP 0 rfl rfl 3 (by decide) (hts (.fieldLink RX9 119 "BoxesGameModel" "now" "J") (List.mem_of_getElem? (i := 6) rfl)) (fun _ h9 => h9) rfl dX9_undo_60 ?_
    refine lv_lconst (pc := 63) (v := 1) hx hb dX9_undo_63 (by decide) ?_
    refine lv_iload_n (pc := 64) hx hb dX9_undo_64 rfl (lv_at hl 0 rfl) ?_
    refine lv_lshl (pc := 65) (v := b1 (ms (n - 1))) hx hb dX9_undo_65 (b1_shl _ (by omega)) ?_
    refine lv_ldc2 (pc := 66) hx hb hown (hts (.constantLong RX9 135 (-1)) (List.mem_of_getElem? (i := 7) rfl)) dX9_undo_66 ?_
    refine lv_lxor (pc := 69) hx hb dX9_undo_69 ?_
    refine lv_land (pc := 70) hx hb dX9_undo_70 ?_
    refine va_put (pc := 71) (D := D) (ci := 8) (v := .long (w &&& ((b1 (ms (n - 1))) ^^^ (-1 : Int64)))) (ty := .long) (C := RX9) (T := TX9) (N := 25) hx hb hts hinX9 tyX9 tyX9_ok nmX9 hown hK.1 hP hD hS 0 rfl rfl 3 (by decide) (hts (.fieldLink RX9 119 "BoxesGameModel" "now" "J") (List.mem_of_getElem? (i := 6) rfl)) (fun _ h9 => h9) rfl (by decide +kernel) (rfl) (rfl) (Nat.le_of_ble_eq_true rfl) dX9_undo_71 (fun H locs hP hD hS => ?_)
    have hP : va_P D vwCl [(mo, .inr (8, [.int (nI 0), .int (nI c), .int (nI r), .long (w &&& ((b1 (ms (n - 1))) ^^^ (-1 : Int64))), .int (nI (qS c r ms (n - 1))), .int (nI (n - 1)), .ref aML, .ref aMR, .ref aOW, .int (nI len), .ref aBU, .int sn, .ref aSA, .ref aSZ, .ref aLP, .ref aOP, .ref aFT, .int od, .ref aOL, .ref aRS, .ref aCD, .long pw, .int pb, .int ah, .long hs])), (aML, .inl (Y.1, 40, .inl ml)), (aMR, .inl (Y.1, 40, .inl mr)), (aOW, .inl (Y.1, 16, .inl ow))] H := hP
    have hD : va_D AA [(mo, .inr (8, [.int (nI 0), .int (nI c), .int (nI r), .long (w &&& ((b1 (ms (n - 1))) ^^^ (-1 : Int64))), .int (nI (qS c r ms (n - 1))), .int (nI (n - 1)), .ref aML, .ref aMR, .ref aOW, .int (nI len), .ref aBU, .int sn, .ref aSA, .ref aSZ, .ref aLP, .ref aOP, .ref aFT, .int od, .ref aOL, .ref aRS, .ref aCD, .long pw, .int pb, .int ah, .long hs])), (aML, .inl (Y.1, 40, .inl ml)), (aMR, .inl (Y.1, 40, .inl mr)), (aOW, .inl (Y.1, 16, .inl ow))] := hD
    refine lv_iconst (pc := 74) (v := nI 0) hx hb dX9_undo_74 rfl ?_
    refine lv_istore_n (pc := 75) (lv' := [(2, .int (nI 0)), (1, .int (nI (ms (n - 1)))), (0, .ref mo)]) hx hb dX9_undo_75 rfl hl (by decide) rfl (fun ls hl => ?_)
    have L76 : ∀ (n76 : Nat), ∀ (i : Nat) (o : Nat → Int32), (i ≤ 2) → (o = bkP c r (ms (n - 1)) ow i) → 2 - i < n76 → ∀ (H : Heap) (locs : List Loc), va_P D vwCl [(mo, .inr (8, [.int (nI 0), .int (nI c), .int (nI r), .long (w &&& ((b1 (ms (n - 1))) ^^^ (-1 : Int64))), .int (nI (qS c r ms (n - 1))), .int (nI (n - 1)), .ref aML, .ref aMR, .ref aOW, .int (nI len), .ref aBU, .int sn, .ref aSA, .ref aSZ, .ref aLP, .ref aOP, .ref aFT, .int od, .ref aOL, .ref aRS, .ref aCD, .long pw, .int pb, .int ah, .long hs])), (aML, .inl (Y.1, 40, .inl ml)), (aMR, .inl (Y.1, 40, .inl mr)), (aOW, .inl (Y.1, 16, .inl o))] H → va_D AA [(mo, .inr (8, [.int (nI 0), .int (nI c), .int (nI r), .long (w &&& ((b1 (ms (n - 1))) ^^^ (-1 : Int64))), .int (nI (qS c r ms (n - 1))), .int (nI (n - 1)), .ref aML, .ref aMR, .ref aOW, .int (nI len), .ref aBU, .int sn, .ref aSA, .ref aSZ, .ref aLP, .ref aOP, .ref aFT, .int od, .ref aOL, .ref aRS, .ref aCD, .long pw, .int pb, .int ah, .long hs])), (aML, .inl (Y.1, 40, .inl ml)), (aMR, .inl (Y.1, 40, .inl mr)), (aOW, .inl (Y.1, 16, .inl o))] → va_S AA sG.heap H locs → ∀ (ls : Array Slot), lv_has ls 4 [(0, .ref mo), (1, .int (nI (ms (n - 1)))), (2, .int (nI i))] → W pG l eG ({ frames := 4, cells := 0, slots := 0, locals := 86 } : Room) sG mG aG bG tG cG H locs 0 0 (MQ bG (MuQ D [(mo, .inr (8, [.int th, .int (nI c), .int (nI r), .long w, .int (nI pl), .int (nI n), .ref aML, .ref aMR, .ref aOW, .int (nI len), .ref aBU, .int sn, .ref aSA, .ref aSZ, .ref aLP, .ref aOP, .ref aFT, .int od, .ref aOL, .ref aRS, .ref aCD, .long pw, .int pb, .int ah, .long hs])), (aML, .inl (Y.1, 40, .inl ml)), (aMR, .inl (Y.1, 40, .inl mr)), (aOW, .inl (Y.1, 16, .inl ow))] (fun uS : Int32 × Int32 × Int64 × Nat × Nat × (Nat → Int32) × (Nat → Int32) × (Nat → Int32) => some (.int uS.2.1)) (fun uS : Int32 × Int32 × Int64 × Nat × Nat × (Nat → Int32) × (Nat → Int32) × (Nat → Int32) => [(mo, .inr (8, [.int uS.1, .int (nI c), .int (nI r), .long uS.2.2.1, .int (nI uS.2.2.2.1), .int (nI uS.2.2.2.2.1), .ref aML, .ref aMR, .ref aOW, .int (nI len), .ref aBU, .int sn, .ref aSA, .ref aSZ, .ref aLP, .ref aOP, .ref aFT, .int od, .ref aOL, .ref aRS, .ref aCD, .long pw, .int pb, .int ah, .long hs])), (aML, .inl (Y.1, 40, .inl uS.2.2.2.2.2.1)), (aMR, .inl (Y.1, 40, .inl uS.2.2.2.2.2.2.1)), (aOW, .inl (Y.1, 16, .inl uS.2.2.2.2.2.2.2))]) (fun uS : Int32 × Int32 × Int64 × Nat × Nat × (Nat → Int32) × (Nat → Int32) × (Nat → Int32) => RvP (kD1 (decide (0 < n))) uS.1 uS.2.1 (nI (ms (n - 1))) ∧ ((kD1 (decide (0 < n))) = 0 → uS.2.2.2.2.1 = n - 1 ∧ MoR c r ms uS.2.2.2.2.1 uS.2.2.1 uS.2.2.2.1 uS.2.2.2.2.2.1 uS.2.2.2.2.2.2.1 uS.2.2.2.2.2.2.2) ∧ (¬ (kD1 (decide (0 < n))) = 0 → uS.2.2.2.2.1 = n ∧ MoR c r ms uS.2.2.2.2.1 uS.2.2.1 uS.2.2.2.1 uS.2.2.2.2.2.1 uS.2.2.2.2.2.2.1 uS.2.2.2.2.2.2.2))) aG sG 0 0 AA) (F0 mG 76 ls []) := by
      intro n76
      induction n76 with
      | zero =>
        intro i o hi ho9 hmeas76 H locs hP hD hS ls hl
        exact absurd hmeas76 (Nat.not_lt_zero _)
      | succ n76 ih76 =>
        intro i o hi ho9 hmeas76 H locs hP hD hS ls hl
        refine lv_iload_n (pc := 76) hx hb dX9_undo_76 rfl (lv_at hl 2 rfl) ?_
        refine lv_iconst (pc := 77) (v := nI 2) hx hb dX9_undo_77 rfl ?_
        refine n_icmp_ge (pc := 78) (tgt := 106) hx hb (by omega) (by omega) dX9_undo_78 (by decide) (fun c78 => ?_) (fun c78 => ?_)
        · refine lv_iload_n (pc := 106) hx hb dX9_undo_106 rfl (lv_at hl 1 rfl) ?_
          subst hAA
          exact mu_iret hx hb hr hlocks hP hS (⟨_, _, _, _, _, _, _, _⟩) (rfl) (⟨RvP.ok (kD1_t (decide_eq_true c5)), fun _ => ⟨rfl, by rw [ho9, show i = 2 by omega]; exact hM.back hC c5⟩, fun z => absurd (kD1_t (decide_eq_true c5)) z⟩) (rfl) dX9_undo_107
        refine lv_aload_n (pc := 81) hx hb dX9_undo_81 rfl (lv_at hl 0 rfl) ?_
        refine lv_iload_n (pc := 82) hx hb dX9_undo_82 rfl (lv_at hl 1 rfl) ?_
        refine lv_iload_n (pc := 83) hx hb dX9_undo_83 rfl (lv_at hl 2 rfl) ?_
        refine ro_go (pc := 84) (va_runV (As := [.int (nI (ms (n - 1))), .int (nI i)]) (rest := []) ⟨hx, hb, hml, hown, hts⟩ (c_X9_beside l D Y mo c r ([.int (nI 0), .int (nI c), .int (nI r), .long (w &&& ((b1 (ms (n - 1))) ^^^ (-1 : Int64))), .int (nI (qS c r ms (n - 1))), .int (nI (n - 1)), .ref aML, .ref aMR, .ref aOW, .int (nI len), .ref aBU, .int sn, .ref aSA, .ref aSZ, .ref aLP, .ref aOP, .ref aFT, .int od, .ref aOL, .ref aRS, .ref aCD, .long pw, .int pb, .int ah, .long hs]) (ms (n - 1)) i (by first | assumption | exact ⟨rfl, rfl⟩) (hC) (hl1) (by first | assumption | omega)) (cwV 2 hts gX9_undo_X9_beside rfl rfl rfl ⟨rfl, hdX9_beside⟩ ⟨Nat.le_of_ble_eq_true rfl, Nat.le_of_ble_eq_true rfl⟩) (ro_pV hK (hP.sub [0] rfl) (ro_recv hK hP (ci := 8) (q0 := 0) rfl rfl)) rfl rfl hl.1 rfl (lv_room (Nat.le_of_ble_eq_true rfl)) dX9_undo_84 ⟨Nat.le_of_ble_eq_true rfl, Nat.le_of_ble_eq_true rfl⟩) ?_
        refine lv_topi (fun x84 ex84 => ?_)
        refine lv_istore_n (pc := 87) (lv' := [(3, .int x84), (0, .ref mo), (1, .int (nI (ms (n - 1)))), (2, .int (nI i))]) hx hb dX9_undo_87 rfl hl (by decide) rfl (fun ls hl => ?_)
        refine lv_iload_n (pc := 88) hx hb dX9_undo_88 rfl (lv_at hl 0 rfl) ?_
        refine lv_iconst (pc := 89) (v := (-1)) hx hb dX9_undo_89 (by decide) ?_
        refine lv_icmp_eq (pc := 90) (tgt := 100) hx hb dX9_undo_90 (by decide) (fun c90 => ?_) (fun c90 => ?_)
        · have hbn := oI_none ex84 c90 (fun b h => by have := bes_lt hC hl1 h; omega)
          refine lv_iinc (pc := 100) (v := nI (i + 1)) (lv' := [(2, .int (nI (i + 1))), (3, .int x84), (0, .ref mo), (1, .int (nI (ms (n - 1))))]) hx hb dX9_undo_100 hl (k := 3) rfl (n_inc i 1) (by decide) rfl (fun ls hl => ?_)
          refine lv_goto (pc := 103) (tgt := 76) hx hb dX9_undo_103 (by decide) ?_
          exact ih76 (i + 1) o (by first | assumption | omega) (by rw [bkP_n hbn, ← ho9]) (by omega) _ _ hP hD hS _ (lv_sub hl [2, 3, 0] rfl)
        obtain ⟨bb, hbb, hxb⟩ := oI_some ex84 c90
        have hbbl := bes_lt hC hl1 hbb
        subst hxb
        have hl : lv_has ls 4 [(3, .int (nI bb)), (0, .ref mo), (1, .int (nI (ms (n - 1)))), (2, .int (nI i))] := hl
        refine lv_aload_n (pc := 93) hx hb dX9_undo_93 rfl (lv_at hl 1 rfl) ?_
        refine va_get (pc := 94) (D := D) (ci := 8) (v := .ref aOW) (C := RX9) (T := TX9) (N := 25) hx hb hts hinX9 hown hK.1 hP 0 rfl rfl 8 (by decide) (hts (.fieldLink RX9 23 "BoxesGameModel" "owners" "[I") (List.mem_of_getElem? (i := 8) rfl)) (fun _ h9 => h9) rfl dX9_undo_94 ?_
        refine lv_iload_n (pc := 97) hx hb dX9_undo_97 rfl (lv_at hl 0 rfl) ?_
        refine lv_iconst (pc := 98) (v := (-1)) hx hb dX9_undo_98 (by decide) ?_
        refine va_iast (pc := 99) hx hb hK.1 hP hD hS 3 0 rfl rfl (vp_in_nI (by omega) (by decide)) dX9_undo_99 (fun H locs hP hD hS => ?_)
        rw [nI_clamp (by omega)] at hP hD
        have hP : va_P D vwCl [(mo, .inr (8, [.int (nI 0), .int (nI c), .int (nI r), .long (w &&& ((b1 (ms (n - 1))) ^^^ (-1 : Int64))), .int (nI (qS c r ms (n - 1))), .int (nI (n - 1)), .ref aML, .ref aMR, .ref aOW, .int (nI len), .ref aBU, .int sn, .ref aSA, .ref aSZ, .ref aLP, .ref aOP, .ref aFT, .int od, .ref aOL, .ref aRS, .ref aCD, .long pw, .int pb, .int ah, .long hs])), (aML, .inl (Y.1, 40, .inl ml)), (aMR, .inl (Y.1, 40, .inl mr)), (aOW, .inl (Y.1, 16, .inl (upd o bb (-1))))] H := hP
        have hD : va_D AA [(mo, .inr (8, [.int (nI 0), .int (nI c), .int (nI r), .long (w &&& ((b1 (ms (n - 1))) ^^^ (-1 : Int64))), .int (nI (qS c r ms (n - 1))), .int (nI (n - 1)), .ref aML, .ref aMR, .ref aOW, .int (nI len), .ref aBU, .int sn, .ref aSA, .ref aSZ, .ref aLP, .ref aOP, .ref aFT, .int od, .ref aOL, .ref aRS, .ref aCD, .long pw, .int pb, .int ah, .long hs])), (aML, .inl (Y.1, 40, .inl ml)), (aMR, .inl (Y.1, 40, .inl mr)), (aOW, .inl (Y.1, 16, .inl (upd o bb (-1))))] := hD
        refine lv_iinc (pc := 100) (v := nI (i + 1)) (lv' := [(2, .int (nI (i + 1))), (3, .int (nI bb)), (0, .ref mo), (1, .int (nI (ms (n - 1))))]) hx hb dX9_undo_100 hl (k := 3) rfl (n_inc i 1) (by decide) rfl (fun ls hl => ?_)
        refine lv_goto (pc := 103) (tgt := 76) hx hb dX9_undo_103 (by decide) ?_
        exact ih76 (i + 1) (upd o bb (-1)) (by first | assumption | omega) (by rw [bkP_s hbb, ← ho9]) (by omega) _ _ hP hD hS _ (lv_sub hl [2, 3, 0] rfl)
    exact L76 ((2 - 0) + 1) 0 ow (by first | assumption | omega) (rfl) (Nat.lt_succ_self _) _ _ hP hD hS _ (lv_sub hl [2, 1, 0] rfl)
  · exact absurd c20 (by decide)

set_option maxHeartbeats 1200000 in
set_option maxRecDepth 100000 in
theorem c_X9_isStyle (l : Launch) (D : va_G) (Y : vY) (v : Int32)  : Ro l yX9_isStyle wsX9_isStyle ({ frames := 1, cells := 0, slots := 0, locals := 22 } : Room) [.int v] D Y [] (some (.int (zb (wi v (nI 0) (nI 2))))) := by
  refine ro_intro (by decide +kernel) rfl (Nat.le_of_ble_eq_true rfl) [(0, .int v)] rfl ?_
  intro pG eG sG mG aG bG tG cG ls hx hb hr hml hts hown hlocks hK hP hl
  have hP : va_P D vwCl [] sG.heap := hP
  have hown : sG.vm.findClass RX9 = some mG.cls := hown
  have hl : lv_has ls 1 [(0, .int v)] := hl
  refine lv_iload_n (pc := 0) hx hb dX9_isStyle_0 rfl (lv_at hl 0 rfl) ?_
  refine lv_iconst (pc := 1) (v := nI 0) hx hb dX9_isStyle_1 rfl ?_
  refine lv_iconst (pc := 2) (v := nI 2) hx hb dX9_isStyle_2 rfl ?_
  refine ro_go (pc := 3) (va_runS (As := [.int v, .int (nI 0), .int (nI 2)]) (rest := []) ⟨hx, hb, hml, hown, hts⟩ (c_X9_within l D Y v (nI 0) (nI 2) ) (va_cwS 3 hts gX9_isStyle_X9_within rfl rfl rfl hdX9_within ⟨Nat.le_of_ble_eq_true rfl, Nat.le_of_ble_eq_true rfl⟩) (ro_pS hK hP) rfl rfl hl.1 rfl (lv_room (Nat.le_of_ble_eq_true rfl)) dX9_isStyle_3 ⟨Nat.le_of_ble_eq_true rfl, Nat.le_of_ble_eq_true rfl⟩) ?_
  exact ro_zret hx hb hr hlocks (rfl) dX9_isStyle_6

set_option maxHeartbeats 1200000 in
set_option maxRecDepth 100000 in
theorem c_X9_follow (l : Launch) (D : va_G) (Y : vY) (mo : Nat) (th : Int32) (c : Nat) (r : Nat) (w : Int64) (pl : Nat) (n : Nat) (aML : Nat) (aMR : Nat) (aOW : Nat) (len : Nat) (aBU : Nat) (sn : Int32) (aSA : Nat) (aSZ : Nat) (aLP : Nat) (aOP : Nat) (aFT : Nat) (od : Int32) (aOL : Nat) (aRS : Nat) (aCD : Nat) (pw : Int64) (pb : Int32) (ah : Int32) (hs : Int64) (ms : Nat → Nat) (ml : Nat → Int32) (mr : Nat → Int32) (ow : Nat → Int32) (ol : Nat → Int32) (rs : Nat → Int32) (x : Int32) (y : Int32) (hC : Cr c r) (hM : MoR c r ms n w pl ml mr ow) : Mu l yX9_follow wsX9_follow ({ frames := 12, cells := 0, slots := 0, locals := 288 } : Room) [.ref mo, .int x, .int y] D Y [(mo, .inr (8, [.int th, .int (nI c), .int (nI r), .long w, .int (nI pl), .int (nI n), .ref aML, .ref aMR, .ref aOW, .int (nI len), .ref aBU, .int sn, .ref aSA, .ref aSZ, .ref aLP, .ref aOP, .ref aFT, .int od, .ref aOL, .ref aRS, .ref aCD, .long pw, .int pb, .int ah, .long hs])), (aML, .inl (Y.1, 40, .inl ml)), (aMR, .inl (Y.1, 40, .inl mr)), (aOW, .inl (Y.1, 16, .inl ow)), (aOL, .inl (Y.1, 12, .inl ol)), (aRS, .inl (Y.1, 4096, .inl rs))] (fun uS : Int32 × Int32 × Int64 × Nat × Nat × Int32 × (Nat → Int32) × (Nat → Int32) × (Nat → Int32) × (Nat → Int32) × (Nat → Int32) => some (.int uS.2.1)) (fun uS : Int32 × Int32 × Int64 × Nat × Nat × Int32 × (Nat → Int32) × (Nat → Int32) × (Nat → Int32) × (Nat → Int32) × (Nat → Int32) => [(mo, .inr (8, [.int uS.1, .int (nI c), .int (nI r), .long uS.2.2.1, .int (nI uS.2.2.2.1), .int (nI uS.2.2.2.2.1), .ref aML, .ref aMR, .ref aOW, .int (nI len), .ref aBU, .int sn, .ref aSA, .ref aSZ, .ref aLP, .ref aOP, .ref aFT, .int uS.2.2.2.2.2.1, .ref aOL, .ref aRS, .ref aCD, .long pw, .int pb, .int ah, .long hs])), (aML, .inl (Y.1, 40, .inl uS.2.2.2.2.2.2.1)), (aMR, .inl (Y.1, 40, .inl uS.2.2.2.2.2.2.2.1)), (aOW, .inl (Y.1, 16, .inl uS.2.2.2.2.2.2.2.2.1)), (aOL, .inl (Y.1, 12, .inl uS.2.2.2.2.2.2.2.2.2.1)), (aRS, .inl (Y.1, 4096, .inl uS.2.2.2.2.2.2.2.2.2.2))]) (fun uS : Int32 × Int32 × Int64 × Nat × Nat × Int32 × (Nat → Int32) × (Nat → Int32) × (Nat → Int32) × (Nat → Int32) × (Nat → Int32) => RvP (kD1 (wi x (nI 0) (nI 2) && wi y (nI 1) (nI 40))) uS.1 uS.2.1 (nI (min y.toNatClampNeg (al c r - n))) ∧ ((kD1 (wi x (nI 0) (nI 2) && wi y (nI 1) (nI 40))) = 0 → uS.2.2.2.2.1 = n + (min y.toNatClampNeg (al c r - n)) ∧ MoR c r (flM c r x.toNatClampNeg ms n (min y.toNatClampNeg (al c r - n))) uS.2.2.2.2.1 uS.2.2.1 uS.2.2.2.1 uS.2.2.2.2.2.2.1 uS.2.2.2.2.2.2.2.1 uS.2.2.2.2.2.2.2.2.1) ∧ (¬ (kD1 (wi x (nI 0) (nI 2) && wi y (nI 1) (nI 40))) = 0 → uS.2.2.2.2.1 = n ∧ MoR c r ms uS.2.2.2.2.1 uS.2.2.1 uS.2.2.2.1 uS.2.2.2.2.2.2.1 uS.2.2.2.2.2.2.2.1 uS.2.2.2.2.2.2.2.2.1)) := by
  refine mu_intro (by decide +kernel) rfl (Nat.le_of_ble_eq_true rfl) [(0, .ref mo), (1, .int x), (2, .int y)] rfl ?_
  intro pG eG sG mG aG bG tG cG ls hx hb hr hml hts hown hlocks hK hP hD hS hl
  generalize hAA : adA [(mo, .inr (8, [.int th, .int (nI c), .int (nI r), .long w, .int (nI pl), .int (nI n), .ref aML, .ref aMR, .ref aOW, .int (nI len), .ref aBU, .int sn, .ref aSA, .ref aSZ, .ref aLP, .ref aOP, .ref aFT, .int od, .ref aOL, .ref aRS, .ref aCD, .long pw, .int pb, .int ah, .long hs])), (aML, .inl (Y.1, 40, .inl ml)), (aMR, .inl (Y.1, 40, .inl mr)), (aOW, .inl (Y.1, 16, .inl ow)), (aOL, .inl (Y.1, 12, .inl ol)), (aRS, .inl (Y.1, 4096, .inl rs))] = AA at hD hS ⊢
  have hP : va_P D vwCl [(mo, .inr (8, [.int th, .int (nI c), .int (nI r), .long w, .int (nI pl), .int (nI n), .ref aML, .ref aMR, .ref aOW, .int (nI len), .ref aBU, .int sn, .ref aSA, .ref aSZ, .ref aLP, .ref aOP, .ref aFT, .int od, .ref aOL, .ref aRS, .ref aCD, .long pw, .int pb, .int ah, .long hs])), (aML, .inl (Y.1, 40, .inl ml)), (aMR, .inl (Y.1, 40, .inl mr)), (aOW, .inl (Y.1, 16, .inl ow)), (aOL, .inl (Y.1, 12, .inl ol)), (aRS, .inl (Y.1, 4096, .inl rs))] sG.heap := hP
  have hD : va_D AA [(mo, .inr (8, [.int th, .int (nI c), .int (nI r), .long w, .int (nI pl), .int (nI n), .ref aML, .ref aMR, .ref aOW, .int (nI len), .ref aBU, .int sn, .ref aSA, .ref aSZ, .ref aLP, .ref aOP, .ref aFT, .int od, .ref aOL, .ref aRS, .ref aCD, .long pw, .int pb, .int ah, .long hs])), (aML, .inl (Y.1, 40, .inl ml)), (aMR, .inl (Y.1, 40, .inl mr)), (aOW, .inl (Y.1, 16, .inl ow)), (aOL, .inl (Y.1, 12, .inl ol)), (aRS, .inl (Y.1, 4096, .inl rs))] := hD
  have hown : sG.vm.findClass RX9 = some mG.cls := hown
  have hl : lv_has ls 4 [(0, .ref mo), (1, .int x), (2, .int y)] := hl
  have hinX9 : ∀ w ∈ u_ws RX9 TX9 25, w ∈ wsX9_follow := by decide +kernel
  have hS : va_S AA sG.heap sG.heap [] := hS
  obtain ⟨hq1, hq2, hq3, hq4, hq5, hq6, hq7, hq8, hq9, hq10, hq11⟩ := hC.q
  have hhu := hM.1.hund hC
  have hpl1 := hM.1.pl1
  have hn40 := hM.1.n40 hC
  have hob := hM.1.onb hC
  refine lv_aload_n (pc := 0) hx hb dX9_follow_0 rfl (lv_at hl 0 rfl) ?_
  refine lv_iload_n (pc := 1) hx hb dX9_follow_1 rfl (lv_at hl 1 rfl) ?_
  refine ro_go (pc := 2) (va_runS (As := [.int x]) (rest := [.ref mo]) ⟨hx, hb, hml, hown, hts⟩ (c_X9_isStyle l D Y x ) (va_cwS 1 hts gX9_follow_X9_isStyle rfl rfl rfl hdX9_isStyle ⟨Nat.le_of_ble_eq_true rfl, Nat.le_of_ble_eq_true rfl⟩) (ro_pS hK (hP.sub [] rfl)) rfl rfl hl.1 rfl (lv_room (Nat.le_of_ble_eq_true rfl)) dX9_follow_2 ⟨Nat.le_of_ble_eq_true rfl, Nat.le_of_ble_eq_true rfl⟩) ?_
  refine z_if_eq (pc := 5) (tgt := 22) hx hb dX9_follow_5 (by decide) (fun c5 => ?_) (fun c5 => ?_)
  · refine lv_iconst (pc := 22) (v := nI 1) hx hb dX9_follow_22 rfl ?_
    refine va_put (pc := 23) (D := D) (ci := 8) (v := .int (nI 1)) (ty := .int) (C := RX9) (T := TX9) (N := 25) hx hb hts hinX9 tyX9 tyX9_ok nmX9 hown hK.1 hP hD hS 0 rfl rfl 0 (by decide) (hts (.fieldLink RX9 59 "BoxesGameModel" "thrown" "I") (List.mem_of_getElem? (i := 1) rfl)) (fun _ h9 => h9) rfl (by decide +kernel) (rfl) (rfl) (Nat.le_of_ble_eq_true rfl) dX9_follow_23 (fun H locs hP hD hS => ?_)
    have hP : va_P D vwCl [(mo, .inr (8, [.int (nI 1), .int (nI c), .int (nI r), .long w, .int (nI pl), .int (nI n), .ref aML, .ref aMR, .ref aOW, .int (nI len), .ref aBU, .int sn, .ref aSA, .ref aSZ, .ref aLP, .ref aOP, .ref aFT, .int od, .ref aOL, .ref aRS, .ref aCD, .long pw, .int pb, .int ah, .long hs])), (aML, .inl (Y.1, 40, .inl ml)), (aMR, .inl (Y.1, 40, .inl mr)), (aOW, .inl (Y.1, 16, .inl ow)), (aOL, .inl (Y.1, 12, .inl ol)), (aRS, .inl (Y.1, 4096, .inl rs))] H := hP
    have hD : va_D AA [(mo, .inr (8, [.int (nI 1), .int (nI c), .int (nI r), .long w, .int (nI pl), .int (nI n), .ref aML, .ref aMR, .ref aOW, .int (nI len), .ref aBU, .int sn, .ref aSA, .ref aSZ, .ref aLP, .ref aOP, .ref aFT, .int od, .ref aOL, .ref aRS, .ref aCD, .long pw, .int pb, .int ah, .long hs])), (aML, .inl (Y.1, 40, .inl ml)), (aMR, .inl (Y.1, 40, .inl mr)), (aOW, .inl (Y.1, 16, .inl ow)), (aOL, .inl (Y.1, 12, .inl ol)), (aRS, .inl (Y.1, 4096, .inl rs))] := hD
    refine lv_aload_n (pc := 26) hx hb dX9_follow_26 rfl (lv_at hl 0 rfl) ?_
    refine va_get (pc := 27) (D := D) (ci := 8) (v := .int (nI 1)) (C := RX9) (T := TX9) (N := 25) hx hb hts hinX9 hown hK.1 hP 0 rfl rfl 0 (by decide) (hts (.fieldLink RX9 59 "BoxesGameModel" "thrown" "I") (List.mem_of_getElem? (i := 1) rfl)) (fun _ h9 => h9) rfl dX9_follow_27 ?_
    refine n_if_le (pc := 30) (tgt := 35) hx hb (by omega) dX9_follow_30 (by decide) (fun c30 => ?_) (fun c30 => ?_)
    · exact absurd c30 (by decide)
    refine lv_iconst (pc := 33) (v := nI 0) hx hb dX9_follow_33 rfl ?_
    subst hAA
    exact mu_iret hx hb hr hlocks hP hS (⟨_, _, _, _, _, _, _, _, _, _, _⟩) (rfl) (⟨RvP.no (kD1_f (by rw [c5]; rfl)) (by decide), fun q => absurd q (kd_no (kD1_f (by rw [c5]; rfl)) (by decide)), fun _ => ⟨rfl, hM⟩⟩) (rfl) dX9_follow_34
  obtain ⟨st, hst, rfl⟩ := wi_of (by decide) c5
  have hcx : (nI st).toNatClampNeg = st := nI_clamp (by omega)
  have hl : lv_has ls 4 [(0, .ref mo), (1, .int (nI st)), (2, .int y)] := hl
  refine lv_iload_n (pc := 8) hx hb dX9_follow_8 rfl (lv_at hl 2 rfl) ?_
  refine lv_iconst (pc := 9) (v := nI 1) hx hb dX9_follow_9 rfl ?_
  refine lv_bipush (pc := 10) (v := nI 40) hx hb dX9_follow_10 rfl ?_
  refine ro_go (pc := 12) (va_runS (As := [.int y, .int (nI 1), .int (nI 40)]) (rest := [.ref mo]) ⟨hx, hb, hml, hown, hts⟩ (c_X9_within l D Y y (nI 1) (nI 40) ) (va_cwS 3 hts gX9_follow_X9_within rfl rfl rfl hdX9_within ⟨Nat.le_of_ble_eq_true rfl, Nat.le_of_ble_eq_true rfl⟩) (ro_pS hK (hP.sub [] rfl)) rfl rfl hl.1 rfl (lv_room (Nat.le_of_ble_eq_true rfl)) dX9_follow_12 ⟨Nat.le_of_ble_eq_true rfl, Nat.le_of_ble_eq_true rfl⟩) ?_
  refine z_if_eq (pc := 15) (tgt := 22) hx hb dX9_follow_15 (by decide) (fun c15 => ?_) (fun c15 => ?_)
  · refine lv_iconst (pc := 22) (v := nI 1) hx hb dX9_follow_22 rfl ?_
    refine va_put (pc := 23) (D := D) (ci := 8) (v := .int (nI 1)) (ty := .int) (C := RX9) (T := TX9) (N := 25) hx hb hts hinX9 tyX9 tyX9_ok nmX9 hown hK.1 hP hD hS 0 rfl rfl 0 (by decide) (hts (.fieldLink RX9 59 "BoxesGameModel" "thrown" "I") (List.mem_of_getElem? (i := 1) rfl)) (fun _ h9 => h9) rfl (by decide +kernel) (rfl) (rfl) (Nat.le_of_ble_eq_true rfl) dX9_follow_23 (fun H locs hP hD hS => ?_)
    have hP : va_P D vwCl [(mo, .inr (8, [.int (nI 1), .int (nI c), .int (nI r), .long w, .int (nI pl), .int (nI n), .ref aML, .ref aMR, .ref aOW, .int (nI len), .ref aBU, .int sn, .ref aSA, .ref aSZ, .ref aLP, .ref aOP, .ref aFT, .int od, .ref aOL, .ref aRS, .ref aCD, .long pw, .int pb, .int ah, .long hs])), (aML, .inl (Y.1, 40, .inl ml)), (aMR, .inl (Y.1, 40, .inl mr)), (aOW, .inl (Y.1, 16, .inl ow)), (aOL, .inl (Y.1, 12, .inl ol)), (aRS, .inl (Y.1, 4096, .inl rs))] H := hP
    have hD : va_D AA [(mo, .inr (8, [.int (nI 1), .int (nI c), .int (nI r), .long w, .int (nI pl), .int (nI n), .ref aML, .ref aMR, .ref aOW, .int (nI len), .ref aBU, .int sn, .ref aSA, .ref aSZ, .ref aLP, .ref aOP, .ref aFT, .int od, .ref aOL, .ref aRS, .ref aCD, .long pw, .int pb, .int ah, .long hs])), (aML, .inl (Y.1, 40, .inl ml)), (aMR, .inl (Y.1, 40, .inl mr)), (aOW, .inl (Y.1, 16, .inl ow)), (aOL, .inl (Y.1, 12, .inl ol)), (aRS, .inl (Y.1, 4096, .inl rs))] := hD
    refine lv_aload_n (pc := 26) hx hb dX9_follow_26 rfl (lv_at hl 0 rfl) ?_
    refine va_get (pc := 27) (D := D) (ci := 8) (v := .int (nI 1)) (C := RX9) (T := TX9) (N := 25) hx hb hts hinX9 hown hK.1 hP 0 rfl rfl 0 (by decide) (hts (.fieldLink RX9 59 "BoxesGameModel" "thrown" "I") (List.mem_of_getElem? (i := 1) rfl)) (fun _ h9 => h9) rfl dX9_follow_27 ?_
    refine n_if_le (pc := 30) (tgt := 35) hx hb (by omega) dX9_follow_30 (by decide) (fun c30 => ?_) (fun c30 => ?_)
    · exact absurd c30 (by decide)
    refine lv_iconst (pc := 33) (v := nI 0) hx hb dX9_follow_33 rfl ?_
    subst hAA
    exact mu_iret hx hb hr hlocks hP hS (⟨_, _, _, _, _, _, _, _, _, _, _⟩) (rfl) (⟨RvP.no (kD1_f (by rw [c5, c15]; rfl)) (by decide), fun q => absurd q (kd_no (kD1_f (by rw [c5, c15]; rfl)) (by decide)), fun _ => ⟨rfl, hM⟩⟩) (rfl) dX9_follow_34
  obtain ⟨jy, hjy1, hjy40, rfl⟩ := wi_lo (by decide) (by decide) c15
  have hcy : (nI jy).toNatClampNeg = jy := nI_clamp (by omega)
  have hl : lv_has ls 4 [(0, .ref mo), (1, .int (nI st)), (2, .int (nI jy))] := hl
  refine lv_iconst (pc := 18) (v := nI 0) hx hb dX9_follow_18 rfl ?_
  refine lv_goto (pc := 19) (tgt := 23) hx hb dX9_follow_19 (by decide) ?_
  refine va_put (pc := 23) (D := D) (ci := 8) (v := .int (nI 0)) (ty := .int) (C := RX9) (T := TX9) (N := 25) hx hb hts hinX9 tyX9 tyX9_ok nmX9 hown hK.1 hP hD hS 0 rfl rfl 0 (by decide) (hts (.fieldLink RX9 59 "BoxesGameModel" "thrown" "I") (List.mem_of_getElem? (i := 1) rfl)) (fun _ h9 => h9) rfl (by decide +kernel) (rfl) (rfl) (Nat.le_of_ble_eq_true rfl) dX9_follow_23 (fun H locs hP hD hS => ?_)
  have hP : va_P D vwCl [(mo, .inr (8, [.int (nI 0), .int (nI c), .int (nI r), .long w, .int (nI pl), .int (nI n), .ref aML, .ref aMR, .ref aOW, .int (nI len), .ref aBU, .int sn, .ref aSA, .ref aSZ, .ref aLP, .ref aOP, .ref aFT, .int od, .ref aOL, .ref aRS, .ref aCD, .long pw, .int pb, .int ah, .long hs])), (aML, .inl (Y.1, 40, .inl ml)), (aMR, .inl (Y.1, 40, .inl mr)), (aOW, .inl (Y.1, 16, .inl ow)), (aOL, .inl (Y.1, 12, .inl ol)), (aRS, .inl (Y.1, 4096, .inl rs))] H := hP
  have hD : va_D AA [(mo, .inr (8, [.int (nI 0), .int (nI c), .int (nI r), .long w, .int (nI pl), .int (nI n), .ref aML, .ref aMR, .ref aOW, .int (nI len), .ref aBU, .int sn, .ref aSA, .ref aSZ, .ref aLP, .ref aOP, .ref aFT, .int od, .ref aOL, .ref aRS, .ref aCD, .long pw, .int pb, .int ah, .long hs])), (aML, .inl (Y.1, 40, .inl ml)), (aMR, .inl (Y.1, 40, .inl mr)), (aOW, .inl (Y.1, 16, .inl ow)), (aOL, .inl (Y.1, 12, .inl ol)), (aRS, .inl (Y.1, 4096, .inl rs))] := hD
  refine lv_aload_n (pc := 26) hx hb dX9_follow_26 rfl (lv_at hl 0 rfl) ?_
  refine va_get (pc := 27) (D := D) (ci := 8) (v := .int (nI 0)) (C := RX9) (T := TX9) (N := 25) hx hb hts hinX9 hown hK.1 hP 0 rfl rfl 0 (by decide) (hts (.fieldLink RX9 59 "BoxesGameModel" "thrown" "I") (List.mem_of_getElem? (i := 1) rfl)) (fun _ h9 => h9) rfl dX9_follow_27 ?_
  refine n_if_le (pc := 30) (tgt := 35) hx hb (by omega) dX9_follow_30 (by decide) (fun c30 => ?_) (fun c30 => ?_)
  · refine lv_iconst (pc := 35) (v := nI 0) hx hb dX9_follow_35 rfl ?_
    refine lv_istore_n (pc := 36) (lv' := [(3, .int (nI 0)), (0, .ref mo), (1, .int (nI st)), (2, .int (nI jy))]) hx hb dX9_follow_36 rfl hl (by decide) rfl (fun ls hl => ?_)
    have L37 : ∀ (n37 : Nat), ∀ (j : Nat) (u : Int64) (p : Nat) (od9 : Int32) (f : Nat → Int32) (g : Nat → Int32) (o : Nat → Int32) (ol9 : Nat → Int32) (rs9 : Nat → Int32), (j ≤ jy) → (MoR c r (flM c r st ms n j) (n + j) u p f g o) → jy - j < n37 → ∀ (H : Heap) (locs : List Loc), va_P D vwCl [(mo, .inr (8, [.int (nI 0), .int (nI c), .int (nI r), .long u, .int (nI p), .int (nI (n + j)), .ref aML, .ref aMR, .ref aOW, .int (nI len), .ref aBU, .int sn, .ref aSA, .ref aSZ, .ref aLP, .ref aOP, .ref aFT, .int od9, .ref aOL, .ref aRS, .ref aCD, .long pw, .int pb, .int ah, .long hs])), (aML, .inl (Y.1, 40, .inl f)), (aMR, .inl (Y.1, 40, .inl g)), (aOW, .inl (Y.1, 16, .inl o)), (aOL, .inl (Y.1, 12, .inl ol9)), (aRS, .inl (Y.1, 4096, .inl rs9))] H → va_D AA [(mo, .inr (8, [.int (nI 0), .int (nI c), .int (nI r), .long u, .int (nI p), .int (nI (n + j)), .ref aML, .ref aMR, .ref aOW, .int (nI len), .ref aBU, .int sn, .ref aSA, .ref aSZ, .ref aLP, .ref aOP, .ref aFT, .int od9, .ref aOL, .ref aRS, .ref aCD, .long pw, .int pb, .int ah, .long hs])), (aML, .inl (Y.1, 40, .inl f)), (aMR, .inl (Y.1, 40, .inl g)), (aOW, .inl (Y.1, 16, .inl o)), (aOL, .inl (Y.1, 12, .inl ol9)), (aRS, .inl (Y.1, 4096, .inl rs9))] → va_S AA sG.heap H locs → ∀ (ls : Array Slot), lv_has ls 4 [(0, .ref mo), (1, .int (nI st)), (2, .int (nI jy)), (3, .int (nI j))] → W pG l eG ({ frames := 12, cells := 0, slots := 0, locals := 288 } : Room) sG mG aG bG tG cG H locs 0 0 (MQ bG (MuQ D [(mo, .inr (8, [.int th, .int (nI c), .int (nI r), .long w, .int (nI pl), .int (nI n), .ref aML, .ref aMR, .ref aOW, .int (nI len), .ref aBU, .int sn, .ref aSA, .ref aSZ, .ref aLP, .ref aOP, .ref aFT, .int od, .ref aOL, .ref aRS, .ref aCD, .long pw, .int pb, .int ah, .long hs])), (aML, .inl (Y.1, 40, .inl ml)), (aMR, .inl (Y.1, 40, .inl mr)), (aOW, .inl (Y.1, 16, .inl ow)), (aOL, .inl (Y.1, 12, .inl ol)), (aRS, .inl (Y.1, 4096, .inl rs))] (fun uS : Int32 × Int32 × Int64 × Nat × Nat × Int32 × (Nat → Int32) × (Nat → Int32) × (Nat → Int32) × (Nat → Int32) × (Nat → Int32) => some (.int uS.2.1)) (fun uS : Int32 × Int32 × Int64 × Nat × Nat × Int32 × (Nat → Int32) × (Nat → Int32) × (Nat → Int32) × (Nat → Int32) × (Nat → Int32) => [(mo, .inr (8, [.int uS.1, .int (nI c), .int (nI r), .long uS.2.2.1, .int (nI uS.2.2.2.1), .int (nI uS.2.2.2.2.1), .ref aML, .ref aMR, .ref aOW, .int (nI len), .ref aBU, .int sn, .ref aSA, .ref aSZ, .ref aLP, .ref aOP, .ref aFT, .int uS.2.2.2.2.2.1, .ref aOL, .ref aRS, .ref aCD, .long pw, .int pb, .int ah, .long hs])), (aML, .inl (Y.1, 40, .inl uS.2.2.2.2.2.2.1)), (aMR, .inl (Y.1, 40, .inl uS.2.2.2.2.2.2.2.1)), (aOW, .inl (Y.1, 16, .inl uS.2.2.2.2.2.2.2.2.1)), (aOL, .inl (Y.1, 12, .inl uS.2.2.2.2.2.2.2.2.2.1)), (aRS, .inl (Y.1, 4096, .inl uS.2.2.2.2.2.2.2.2.2.2))]) (fun uS : Int32 × Int32 × Int64 × Nat × Nat × Int32 × (Nat → Int32) × (Nat → Int32) × (Nat → Int32) × (Nat → Int32) × (Nat → Int32) => RvP (kD1 (wi (nI st) (nI 0) (nI 2) && wi (nI jy) (nI 1) (nI 40))) uS.1 uS.2.1 (nI (min (nI jy).toNatClampNeg (al c r - n))) ∧ ((kD1 (wi (nI st) (nI 0) (nI 2) && wi (nI jy) (nI 1) (nI 40))) = 0 → uS.2.2.2.2.1 = n + (min (nI jy).toNatClampNeg (al c r - n)) ∧ MoR c r (flM c r (nI st).toNatClampNeg ms n (min (nI jy).toNatClampNeg (al c r - n))) uS.2.2.2.2.1 uS.2.2.1 uS.2.2.2.1 uS.2.2.2.2.2.2.1 uS.2.2.2.2.2.2.2.1 uS.2.2.2.2.2.2.2.2.1) ∧ (¬ (kD1 (wi (nI st) (nI 0) (nI 2) && wi (nI jy) (nI 1) (nI 40))) = 0 → uS.2.2.2.2.1 = n ∧ MoR c r ms uS.2.2.2.2.1 uS.2.2.1 uS.2.2.2.1 uS.2.2.2.2.2.2.1 uS.2.2.2.2.2.2.2.1 uS.2.2.2.2.2.2.2.2.1))) aG sG 0 0 AA) (F0 mG 37 ls []) := by
      intro n37
      induction n37 with
      | zero =>
        intro j u p od9 f g o ol9 rs9 hjy hmj hmeas37 H locs hP hD hS ls hl
        exact absurd hmeas37 (Nat.not_lt_zero _)
      | succ n37 ih37 =>
        intro j u p od9 f g o ol9 rs9 hjy hmj hmeas37 H locs hP hD hS ls hl
        have hju := hmj.1.hund hC
        have hjb := hmj.1.onb hC
        have hjs := und_siz hC hjb
        have hjp := hmj.1.pl1
        refine lv_iload_n (pc := 37) hx hb dX9_follow_37 rfl (lv_at hl 3 rfl) ?_
        refine lv_iload_n (pc := 38) hx hb dX9_follow_38 rfl (lv_at hl 2 rfl) ?_
        refine n_icmp_ge (pc := 39) (tgt := 76) hx hb (by omega) (by omega) dX9_follow_39 (by decide) (fun c39 => ?_) (fun c39 => ?_)
        · have hjm : j = min jy (al c r - n) := by omega
          refine lv_iload_n (pc := 76) hx hb dX9_follow_76 rfl (lv_at hl 3 rfl) ?_
          subst hAA
          exact mu_iret hx hb hr hlocks hP hS (⟨_, _, _, _, _, _, _, _, _, _, _⟩) (rfl) (⟨by rw [hcy, ← hjm]; exact RvP.ok (kD1_t (by rw [c5, c15]; rfl)), fun _ => by rw [hcy, hcx, ← hjm]; exact ⟨rfl, hmj⟩, fun z => absurd (kD1_t (by rw [c5, c15]; rfl)) z⟩) (rfl) dX9_follow_77
        refine lv_aload_n (pc := 42) hx hb dX9_follow_42 rfl (lv_at hl 0 rfl) ?_
        refine va_get (pc := 43) (D := D) (ci := 8) (v := .long u) (C := RX9) (T := TX9) (N := 25) hx hb hts hinX9 hown hK.1 hP 0 rfl rfl 3 (by decide) (hts (.fieldLink RX9 119 "BoxesGameModel" "now" "J") (List.mem_of_getElem? (i := 2) rfl)) (fun _ h9 => h9) rfl dX9_follow_43 ?_
        refine ro_go (pc := 46) (va_runS (As := [.long u]) (rest := []) ⟨hx, hb, hml, hown, hts⟩ (c_X9_size l D Y u ) (va_cwS 1 hts gX9_follow_X9_size rfl rfl rfl hdX9_size ⟨Nat.le_of_ble_eq_true rfl, Nat.le_of_ble_eq_true rfl⟩) (ro_pS hK (hP.sub [] rfl)) rfl rfl hl.1 rfl (lv_room (Nat.le_of_ble_eq_true rfl)) dX9_follow_46 ⟨Nat.le_of_ble_eq_true rfl, Nat.le_of_ble_eq_true rfl⟩) ?_
        refine lv_aload_n (pc := 49) hx hb dX9_follow_49 rfl (lv_at hl 0 rfl) ?_
        refine ro_go (pc := 50) (va_runV (As := []) (rest := [.int (nI (siz u))]) ⟨hx, hb, hml, hown, hts⟩ (c_X9_all l D Y mo c r ([.int (nI 0), .int (nI c), .int (nI r), .long u, .int (nI p), .int (nI (n + j)), .ref aML, .ref aMR, .ref aOW, .int (nI len), .ref aBU, .int sn, .ref aSA, .ref aSZ, .ref aLP, .ref aOP, .ref aFT, .int od9, .ref aOL, .ref aRS, .ref aCD, .long pw, .int pb, .int ah, .long hs]) (by first | assumption | exact ⟨rfl, rfl⟩) (hC)) (cwV 0 hts gX9_follow_X9_all rfl rfl rfl ⟨rfl, hdX9_all⟩ ⟨Nat.le_of_ble_eq_true rfl, Nat.le_of_ble_eq_true rfl⟩) (ro_pV hK (hP.sub [0] rfl) (ro_recv hK hP (ci := 8) (q0 := 0) rfl rfl)) rfl rfl hl.1 rfl (lv_room (Nat.le_of_ble_eq_true rfl)) dX9_follow_50 ⟨Nat.le_of_ble_eq_true rfl, Nat.le_of_ble_eq_true rfl⟩) ?_
        refine n_icmp_ge (pc := 53) (tgt := 76) hx hb (by omega) (by omega) dX9_follow_53 (by decide) (fun c53 => ?_) (fun c53 => ?_)
        · have hjm : j = min jy (al c r - n) := by omega
          refine lv_iload_n (pc := 76) hx hb dX9_follow_76 rfl (lv_at hl 3 rfl) ?_
          subst hAA
          exact mu_iret hx hb hr hlocks hP hS (⟨_, _, _, _, _, _, _, _, _, _, _⟩) (rfl) (⟨by rw [hcy, ← hjm]; exact RvP.ok (kD1_t (by rw [c5, c15]; rfl)), fun _ => by rw [hcy, hcx, ← hjm]; exact ⟨rfl, hmj⟩, fun z => absurd (kD1_t (by rw [c5, c15]; rfl)) z⟩) (rfl) dX9_follow_77
        obtain ⟨bb, hbb, hbl, hbt⟩ := cho_ex (st := st) hC (by omega : und c r u ≠ 0)
        refine lv_aload_n (pc := 56) hx hb dX9_follow_56 rfl (lv_at hl 0 rfl) ?_
        refine lv_aload_n (pc := 57) hx hb dX9_follow_57 rfl (lv_at hl 0 rfl) ?_
        refine lv_iload_n (pc := 58) hx hb dX9_follow_58 rfl (lv_at hl 1 rfl) ?_
        refine lv_aload_n (pc := 59) hx hb dX9_follow_59 rfl (lv_at hl 0 rfl) ?_
        refine va_get (pc := 60) (D := D) (ci := 8) (v := .long u) (C := RX9) (T := TX9) (N := 25) hx hb hts hinX9 hown hK.1 hP 0 rfl rfl 3 (by decide) (hts (.fieldLink RX9 119 "BoxesGameModel" "now" "J") (List.mem_of_getElem? (i := 2) rfl)) (fun _ h9 => h9) rfl dX9_follow_60 ?_
        refine mu_go (pc := 63) (va_runV (As := [.int (nI st), .long u]) (rest := [.ref mo]) ⟨hx, hb, hml, hown, hts⟩ (c_X9_choice l D Y mo (nI 0) c r u p (n + j) aML aMR aOW len aBU sn aSA aSZ aLP aOP aFT aOL aRS aCD pw pb ah hs od9 st u ol9 rs9 (hC) (hst) (hjb)) (cwV 2 hts gX9_follow_X9_choice rfl rfl rfl ⟨rfl, hdX9_choice⟩ ⟨Nat.le_of_ble_eq_true rfl, Nat.le_of_ble_eq_true rfl⟩) (mu_pV hK (hP.sub [0, 4, 5] rfl) (hD.sub [0, 4, 5] (by decide) rfl) (ro_recv hK hP (ci := 8) (q0 := 0) rfl rfl)) rfl rfl hl.1 rfl (lv_room (Nat.le_of_ble_eq_true rfl)) dX9_follow_63 ⟨Nat.le_of_ble_eq_true rfl, Nat.le_of_ble_eq_true rfl⟩) hP hD hS [0, 4, 5] rfl (by decide) (fun uS => [(mo, .inr (8, [.int (nI 0), .int (nI c), .int (nI r), .long u, .int (nI p), .int (nI (n + j)), .ref aML, .ref aMR, .ref aOW, .int (nI len), .ref aBU, .int sn, .ref aSA, .ref aSZ, .ref aLP, .ref aOP, .ref aFT, .int uS.1, .ref aOL, .ref aRS, .ref aCD, .long pw, .int pb, .int ah, .long hs])), (aML, .inl (Y.1, 40, .inl f)), (aMR, .inl (Y.1, 40, .inl g)), (aOW, .inl (Y.1, 16, .inl o)), (aOL, .inl (Y.1, 12, .inl uS.2.1)), (aRS, .inl (Y.1, 4096, .inl uS.2.2))]) (fun _ => rfl) (fun _ => rfl) (fun uS H locs hpost hP hD hS => ?_)
        obtain ⟨od2_63, ol2_63, rs2_63⟩ := uS
        refine top_i (show _ = oI (choM c r st u) from rfl) ?_
        have hP : va_P D vwCl [(mo, .inr (8, [.int (nI 0), .int (nI c), .int (nI r), .long u, .int (nI p), .int (nI (n + j)), .ref aML, .ref aMR, .ref aOW, .int (nI len), .ref aBU, .int sn, .ref aSA, .ref aSZ, .ref aLP, .ref aOP, .ref aFT, .int od2_63, .ref aOL, .ref aRS, .ref aCD, .long pw, .int pb, .int ah, .long hs])), (aML, .inl (Y.1, 40, .inl f)), (aMR, .inl (Y.1, 40, .inl g)), (aOW, .inl (Y.1, 16, .inl o)), (aOL, .inl (Y.1, 12, .inl ol2_63)), (aRS, .inl (Y.1, 4096, .inl rs2_63))] H := hP
        have hD : va_D AA [(mo, .inr (8, [.int (nI 0), .int (nI c), .int (nI r), .long u, .int (nI p), .int (nI (n + j)), .ref aML, .ref aMR, .ref aOW, .int (nI len), .ref aBU, .int sn, .ref aSA, .ref aSZ, .ref aLP, .ref aOP, .ref aFT, .int od2_63, .ref aOL, .ref aRS, .ref aCD, .long pw, .int pb, .int ah, .long hs])), (aML, .inl (Y.1, 40, .inl f)), (aMR, .inl (Y.1, 40, .inl g)), (aOW, .inl (Y.1, 16, .inl o)), (aOL, .inl (Y.1, 12, .inl ol2_63)), (aRS, .inl (Y.1, 4096, .inl rs2_63))] := hD
        refine lv_topi (fun x63 ex63 => ?_)
        have hxb : x63 = nI bb := by rw [ex63, hbb]; rfl
        subst hxb
        refine mu_go (pc := 66) (va_runV (As := [.int (nI bb)]) (rest := []) ⟨hx, hb, hml, hown, hts⟩ (c_X9_make l D Y mo (nI 0) c r u p (n + j) aML aMR aOW len aBU sn aSA aSZ aLP aOP aFT od2_63 aOL aRS aCD pw pb ah hs bb f g o (hC) (hbl) (hbt) (hmj.1.lt hC hbl hbt) (hjp)) (cwV 1 hts gX9_follow_X9_make rfl rfl rfl ⟨rfl, hdX9_make⟩ ⟨Nat.le_of_ble_eq_true rfl, Nat.le_of_ble_eq_true rfl⟩) (mu_pV hK (hP.sub [0, 1, 2, 3] rfl) (hD.sub [0, 1, 2, 3] (by decide) rfl) (ro_recv hK hP (ci := 8) (q0 := 0) rfl rfl)) rfl rfl hl.1 rfl (lv_room (Nat.le_of_ble_eq_true rfl)) dX9_follow_66 ⟨Nat.le_of_ble_eq_true rfl, Nat.le_of_ble_eq_true rfl⟩) hP hD hS [0, 1, 2, 3] rfl (by decide) (fun _ => [(mo, .inr (8, [.int (nI 0), .int (nI c), .int (nI r), .long (u ||| b1 bb), .int (nI (nxp (gai c r u bb) p)), .int (nI ((n + j) + 1)), .ref aML, .ref aMR, .ref aOW, .int (nI len), .ref aBU, .int sn, .ref aSA, .ref aSZ, .ref aLP, .ref aOP, .ref aFT, .int od2_63, .ref aOL, .ref aRS, .ref aCD, .long pw, .int pb, .int ah, .long hs])), (aML, .inl (Y.1, 40, .inl (upd f (n + j) (nI bb)))), (aMR, .inl (Y.1, 40, .inl (upd g (n + j) (nI p)))), (aOW, .inl (Y.1, 16, .inl (mkO c r (u ||| b1 bb) bb o (nI p)))), (aOL, .inl (Y.1, 12, .inl ol2_63)), (aRS, .inl (Y.1, 4096, .inl rs2_63))]) (fun _ => rfl) (fun _ => rfl) (fun uS H locs hpost hP hD hS => ?_)
        have hP : va_P D vwCl [(mo, .inr (8, [.int (nI 0), .int (nI c), .int (nI r), .long (u ||| b1 bb), .int (nI (nxp (gai c r u bb) p)), .int (nI ((n + j) + 1)), .ref aML, .ref aMR, .ref aOW, .int (nI len), .ref aBU, .int sn, .ref aSA, .ref aSZ, .ref aLP, .ref aOP, .ref aFT, .int od2_63, .ref aOL, .ref aRS, .ref aCD, .long pw, .int pb, .int ah, .long hs])), (aML, .inl (Y.1, 40, .inl (upd f (n + j) (nI bb)))), (aMR, .inl (Y.1, 40, .inl (upd g (n + j) (nI p)))), (aOW, .inl (Y.1, 16, .inl (mkO c r (u ||| b1 bb) bb o (nI p)))), (aOL, .inl (Y.1, 12, .inl ol2_63)), (aRS, .inl (Y.1, 4096, .inl rs2_63))] H := hP
        have hD : va_D AA [(mo, .inr (8, [.int (nI 0), .int (nI c), .int (nI r), .long (u ||| b1 bb), .int (nI (nxp (gai c r u bb) p)), .int (nI ((n + j) + 1)), .ref aML, .ref aMR, .ref aOW, .int (nI len), .ref aBU, .int sn, .ref aSA, .ref aSZ, .ref aLP, .ref aOP, .ref aFT, .int od2_63, .ref aOL, .ref aRS, .ref aCD, .long pw, .int pb, .int ah, .long hs])), (aML, .inl (Y.1, 40, .inl (upd f (n + j) (nI bb)))), (aMR, .inl (Y.1, 40, .inl (upd g (n + j) (nI p)))), (aOW, .inl (Y.1, 16, .inl (mkO c r (u ||| b1 bb) bb o (nI p)))), (aOL, .inl (Y.1, 12, .inl ol2_63)), (aRS, .inl (Y.1, 4096, .inl rs2_63))] := hD
        refine lv_pop (pc := 69) hx hb dX9_follow_69 rfl ?_
        refine lv_iinc (pc := 70) (v := nI (j + 1)) (lv' := [(3, .int (nI (j + 1))), (0, .ref mo), (1, .int (nI st)), (2, .int (nI jy))]) hx hb dX9_follow_70 hl (k := 3) rfl (n_inc j 1) (by decide) rfl (fun ls hl => ?_)
        refine lv_goto (pc := 73) (tgt := 37) hx hb dX9_follow_73 (by decide) ?_
        exact ih37 (j + 1) (u ||| b1 bb) (nxp (gai c r u bb) p) od2_63 (upd f (n + j) (nI bb)) (upd g (n + j) (nI p)) (mkO c r (u ||| b1 bb) bb o (nI p)) ol2_63 rs2_63 (by first | assumption | omega) (by rw [flM_s (by rw [← hmj.1.2.1]; exact hbb), show n + (j + 1) = n + j + 1 by omega]; exact hmj.make hbl hbt) (by omega) _ _ hP hD hS _ (lv_sub hl [1, 2, 3, 0] rfl)
    exact L37 ((jy - 0) + 1) 0 w pl od ml mr ow ol rs (by first | assumption | omega) (hM) (Nat.lt_succ_self _) _ _ hP hD hS _ (lv_sub hl [1, 2, 3, 0] rfl)
  · exact absurd c30 (by decide)

set_option maxHeartbeats 1200000 in
set_option maxRecDepth 100000 in
theorem c_X9_append (l : Launch) (D : va_G) (Y : vY) (mo : Nat) (th : Int32) (c : Nat) (r : Nat) (w : Int64) (pl : Nat) (n : Nat) (aML : Nat) (aMR : Nat) (aOW : Nat) (len : Nat) (aBU : Nat) (sn : Int32) (aSA : Nat) (aSZ : Nat) (aLP : Nat) (aOP : Nat) (aFT : Nat) (od : Int32) (aOL : Nat) (aRS : Nat) (aCD : Nat) (pw : Int64) (pb : Int32) (ah : Int32) (hs : Int64) (bu : Nat → Int32) (x : Int32) (hC : Cr c r) (hlen : len ≤ 60) : Mu l yX9_append wsX9_append ({ frames := 1, cells := 0, slots := 0, locals := 22 } : Room) [.ref mo, .int x] D Y [(mo, .inr (8, [.int th, .int (nI c), .int (nI r), .long w, .int (nI pl), .int (nI n), .ref aML, .ref aMR, .ref aOW, .int (nI len), .ref aBU, .int sn, .ref aSA, .ref aSZ, .ref aLP, .ref aOP, .ref aFT, .int od, .ref aOL, .ref aRS, .ref aCD, .long pw, .int pb, .int ah, .long hs])), (aBU, .inl (Y.1, 60, .inl bu))] (fun uS : Int32 × Int32 × Nat × (Nat → Int32) => some (.int uS.2.1)) (fun uS : Int32 × Int32 × Nat × (Nat → Int32) => [(mo, .inr (8, [.int uS.1, .int (nI c), .int (nI r), .long w, .int (nI pl), .int (nI n), .ref aML, .ref aMR, .ref aOW, .int (nI uS.2.2.1), .ref aBU, .int sn, .ref aSA, .ref aSZ, .ref aLP, .ref aOP, .ref aFT, .int od, .ref aOL, .ref aRS, .ref aCD, .long pw, .int pb, .int ah, .long hs])), (aBU, .inl (Y.1, 60, .inl uS.2.2.2))]) (fun uS : Int32 × Int32 × Nat × (Nat → Int32) => RvP (kD2 (wi x (nI 32) (nI 126)) (!decide (len = 60))) uS.1 uS.2.1 (nI (len + 1)) ∧ ((kD2 (wi x (nI 32) (nI 126)) (!decide (len = 60))) = 0 → uS.2.2.1 = len + 1 ∧ uS.2.2.2 = upd bu len x) ∧ (¬ (kD2 (wi x (nI 32) (nI 126)) (!decide (len = 60))) = 0 → uS.2.2.1 = len ∧ uS.2.2.2 = bu)) := by
  refine mu_intro (by decide +kernel) rfl (Nat.le_of_ble_eq_true rfl) [(0, .ref mo), (1, .int x)] rfl ?_
  intro pG eG sG mG aG bG tG cG ls hx hb hr hml hts hown hlocks hK hP hD hS hl
  generalize hAA : adA [(mo, .inr (8, [.int th, .int (nI c), .int (nI r), .long w, .int (nI pl), .int (nI n), .ref aML, .ref aMR, .ref aOW, .int (nI len), .ref aBU, .int sn, .ref aSA, .ref aSZ, .ref aLP, .ref aOP, .ref aFT, .int od, .ref aOL, .ref aRS, .ref aCD, .long pw, .int pb, .int ah, .long hs])), (aBU, .inl (Y.1, 60, .inl bu))] = AA at hD hS ⊢
  have hP : va_P D vwCl [(mo, .inr (8, [.int th, .int (nI c), .int (nI r), .long w, .int (nI pl), .int (nI n), .ref aML, .ref aMR, .ref aOW, .int (nI len), .ref aBU, .int sn, .ref aSA, .ref aSZ, .ref aLP, .ref aOP, .ref aFT, .int od, .ref aOL, .ref aRS, .ref aCD, .long pw, .int pb, .int ah, .long hs])), (aBU, .inl (Y.1, 60, .inl bu))] sG.heap := hP
  have hD : va_D AA [(mo, .inr (8, [.int th, .int (nI c), .int (nI r), .long w, .int (nI pl), .int (nI n), .ref aML, .ref aMR, .ref aOW, .int (nI len), .ref aBU, .int sn, .ref aSA, .ref aSZ, .ref aLP, .ref aOP, .ref aFT, .int od, .ref aOL, .ref aRS, .ref aCD, .long pw, .int pb, .int ah, .long hs])), (aBU, .inl (Y.1, 60, .inl bu))] := hD
  have hown : sG.vm.findClass RX9 = some mG.cls := hown
  have hl : lv_has ls 2 [(0, .ref mo), (1, .int x)] := hl
  have hinX9 : ∀ w ∈ u_ws RX9 TX9 25, w ∈ wsX9_append := by decide +kernel
  have hS : va_S AA sG.heap sG.heap [] := hS
  obtain ⟨hq1, hq2, hq3, hq4, hq5, hq6, hq7, hq8, hq9, hq10, hq11⟩ := hC.q
  refine lv_aload_n (pc := 0) hx hb dX9_append_0 rfl (lv_at hl 0 rfl) ?_
  refine lv_iload_n (pc := 1) hx hb dX9_append_1 rfl (lv_at hl 1 rfl) ?_
  refine lv_bipush (pc := 2) (v := nI 32) hx hb dX9_append_2 rfl ?_
  refine lv_bipush (pc := 4) (v := nI 126) hx hb dX9_append_4 rfl ?_
  refine ro_go (pc := 6) (va_runS (As := [.int x, .int (nI 32), .int (nI 126)]) (rest := [.ref mo]) ⟨hx, hb, hml, hown, hts⟩ (c_X9_within l D Y x (nI 32) (nI 126) ) (va_cwS 3 hts gX9_append_X9_within rfl rfl rfl hdX9_within ⟨Nat.le_of_ble_eq_true rfl, Nat.le_of_ble_eq_true rfl⟩) (ro_pS hK (hP.sub [] rfl)) rfl rfl hl.1 rfl (lv_room (Nat.le_of_ble_eq_true rfl)) dX9_append_6 ⟨Nat.le_of_ble_eq_true rfl, Nat.le_of_ble_eq_true rfl⟩) ?_
  refine z_if_ne (pc := 9) (tgt := 16) hx hb dX9_append_9 (by decide) (fun c9 => ?_) (fun c9 => ?_)
  · refine lv_aload_n (pc := 16) hx hb dX9_append_16 rfl (lv_at hl 0 rfl) ?_
    refine va_get (pc := 17) (D := D) (ci := 8) (v := .int (nI len)) (C := RX9) (T := TX9) (N := 25) hx hb hts hinX9 hown hK.1 hP 0 rfl rfl 9 (by decide) (hts (.fieldLink RX9 147 "BoxesGameModel" "length" "I") (List.mem_of_getElem? (i := 1) rfl)) (fun _ h9 => h9) rfl dX9_append_17 ?_
    refine lv_bipush (pc := 20) (v := nI 60) hx hb dX9_append_20 rfl ?_
    refine n_icmp_ne (pc := 22) (tgt := 29) hx hb (by omega) (by omega) dX9_append_22 (by decide) (fun c22 => ?_) (fun c22 => ?_)
    · have hl60 : len < 60 := by omega
      refine lv_iconst (pc := 29) (v := nI 0) hx hb dX9_append_29 rfl ?_
      refine va_put (pc := 30) (D := D) (ci := 8) (v := .int (nI 0)) (ty := .int) (C := RX9) (T := TX9) (N := 25) hx hb hts hinX9 tyX9 tyX9_ok nmX9 hown hK.1 hP hD hS 0 rfl rfl 0 (by decide) (hts (.fieldLink RX9 59 "BoxesGameModel" "thrown" "I") (List.mem_of_getElem? (i := 2) rfl)) (fun _ h9 => h9) rfl (by decide +kernel) (rfl) (rfl) (Nat.le_of_ble_eq_true rfl) dX9_append_30 (fun H locs hP hD hS => ?_)
      have hP : va_P D vwCl [(mo, .inr (8, [.int (nI 0), .int (nI c), .int (nI r), .long w, .int (nI pl), .int (nI n), .ref aML, .ref aMR, .ref aOW, .int (nI len), .ref aBU, .int sn, .ref aSA, .ref aSZ, .ref aLP, .ref aOP, .ref aFT, .int od, .ref aOL, .ref aRS, .ref aCD, .long pw, .int pb, .int ah, .long hs])), (aBU, .inl (Y.1, 60, .inl bu))] H := hP
      have hD : va_D AA [(mo, .inr (8, [.int (nI 0), .int (nI c), .int (nI r), .long w, .int (nI pl), .int (nI n), .ref aML, .ref aMR, .ref aOW, .int (nI len), .ref aBU, .int sn, .ref aSA, .ref aSZ, .ref aLP, .ref aOP, .ref aFT, .int od, .ref aOL, .ref aRS, .ref aCD, .long pw, .int pb, .int ah, .long hs])), (aBU, .inl (Y.1, 60, .inl bu))] := hD
      refine lv_aload_n (pc := 33) hx hb dX9_append_33 rfl (lv_at hl 0 rfl) ?_
      refine va_get (pc := 34) (D := D) (ci := 8) (v := .int (nI 0)) (C := RX9) (T := TX9) (N := 25) hx hb hts hinX9 hown hK.1 hP 0 rfl rfl 0 (by decide) (hts (.fieldLink RX9 59 "BoxesGameModel" "thrown" "I") (List.mem_of_getElem? (i := 2) rfl)) (fun _ h9 => h9) rfl dX9_append_34 ?_
      refine n_if_le (pc := 37) (tgt := 42) hx hb (by omega) dX9_append_37 (by decide) (fun c37 => ?_) (fun c37 => ?_)
      · refine lv_aload_n (pc := 42) hx hb dX9_append_42 rfl (lv_at hl 0 rfl) ?_
        refine va_get (pc := 43) (D := D) (ci := 8) (v := .ref aBU) (C := RX9) (T := TX9) (N := 25) hx hb hts hinX9 hown hK.1 hP 0 rfl rfl 10 (by decide) (hts (.fieldLink RX9 26 "BoxesGameModel" "buffer" "[I") (List.mem_of_getElem? (i := 3) rfl)) (fun _ h9 => h9) rfl dX9_append_43 ?_
        refine lv_aload_n (pc := 46) hx hb dX9_append_46 rfl (lv_at hl 0 rfl) ?_
        refine va_get (pc := 47) (D := D) (ci := 8) (v := .int (nI len)) (C := RX9) (T := TX9) (N := 25) hx hb hts hinX9 hown hK.1 hP 0 rfl rfl 9 (by decide) (hts (.fieldLink RX9 147 "BoxesGameModel" "length" "I") (List.mem_of_getElem? (i := 1) rfl)) (fun _ h9 => h9) rfl dX9_append_47 ?_
        refine lv_iload_n (pc := 50) hx hb dX9_append_50 rfl (lv_at hl 1 rfl) ?_
        refine va_iast (pc := 51) hx hb hK.1 hP hD hS 1 0 rfl rfl (vp_in_nI (by omega) (by decide)) dX9_append_51 (fun H locs hP hD hS => ?_)
        rw [nI_clamp (by omega)] at hP hD
        have hP : va_P D vwCl [(mo, .inr (8, [.int (nI 0), .int (nI c), .int (nI r), .long w, .int (nI pl), .int (nI n), .ref aML, .ref aMR, .ref aOW, .int (nI len), .ref aBU, .int sn, .ref aSA, .ref aSZ, .ref aLP, .ref aOP, .ref aFT, .int od, .ref aOL, .ref aRS, .ref aCD, .long pw, .int pb, .int ah, .long hs])), (aBU, .inl (Y.1, 60, .inl (upd bu len x)))] H := hP
        have hD : va_D AA [(mo, .inr (8, [.int (nI 0), .int (nI c), .int (nI r), .long w, .int (nI pl), .int (nI n), .ref aML, .ref aMR, .ref aOW, .int (nI len), .ref aBU, .int sn, .ref aSA, .ref aSZ, .ref aLP, .ref aOP, .ref aFT, .int od, .ref aOL, .ref aRS, .ref aCD, .long pw, .int pb, .int ah, .long hs])), (aBU, .inl (Y.1, 60, .inl (upd bu len x)))] := hD
        refine lv_aload_n (pc := 52) hx hb dX9_append_52 rfl (lv_at hl 0 rfl) ?_
        refine lv_dup (pc := 53) hx hb dX9_append_53 rfl ?_
        refine va_get (pc := 54) (D := D) (ci := 8) (v := .int (nI len)) (C := RX9) (T := TX9) (N := 25) hx hb hts hinX9 hown hK.1 hP 0 rfl rfl 9 (by decide) (hts (.fieldLink RX9 147 "BoxesGameModel" "length" "I") (List.mem_of_getElem? (i := 1) rfl)) (fun _ h9 => h9) rfl dX9_append_54 ?_
        refine lv_iconst (pc := 57) (v := nI 1) hx hb dX9_append_57 rfl ?_
        refine n_iadd (pc := 58) hx hb dX9_append_58 ?_
        refine va_put (pc := 59) (D := D) (ci := 8) (v := .int (nI (len + 1))) (ty := .int) (C := RX9) (T := TX9) (N := 25) hx hb hts hinX9 tyX9 tyX9_ok nmX9 hown hK.1 hP hD hS 0 rfl rfl 9 (by decide) (hts (.fieldLink RX9 147 "BoxesGameModel" "length" "I") (List.mem_of_getElem? (i := 1) rfl)) (fun _ h9 => h9) rfl (by decide +kernel) (rfl) (rfl) (Nat.le_of_ble_eq_true rfl) dX9_append_59 (fun H locs hP hD hS => ?_)
        have hP : va_P D vwCl [(mo, .inr (8, [.int (nI 0), .int (nI c), .int (nI r), .long w, .int (nI pl), .int (nI n), .ref aML, .ref aMR, .ref aOW, .int (nI (len + 1)), .ref aBU, .int sn, .ref aSA, .ref aSZ, .ref aLP, .ref aOP, .ref aFT, .int od, .ref aOL, .ref aRS, .ref aCD, .long pw, .int pb, .int ah, .long hs])), (aBU, .inl (Y.1, 60, .inl (upd bu len x)))] H := hP
        have hD : va_D AA [(mo, .inr (8, [.int (nI 0), .int (nI c), .int (nI r), .long w, .int (nI pl), .int (nI n), .ref aML, .ref aMR, .ref aOW, .int (nI (len + 1)), .ref aBU, .int sn, .ref aSA, .ref aSZ, .ref aLP, .ref aOP, .ref aFT, .int od, .ref aOL, .ref aRS, .ref aCD, .long pw, .int pb, .int ah, .long hs])), (aBU, .inl (Y.1, 60, .inl (upd bu len x)))] := hD
        refine lv_aload_n (pc := 62) hx hb dX9_append_62 rfl (lv_at hl 0 rfl) ?_
        refine va_get (pc := 63) (D := D) (ci := 8) (v := .int (nI (len + 1))) (C := RX9) (T := TX9) (N := 25) hx hb hts hinX9 hown hK.1 hP 0 rfl rfl 9 (by decide) (hts (.fieldLink RX9 147 "BoxesGameModel" "length" "I") (List.mem_of_getElem? (i := 1) rfl)) (fun _ h9 => h9) rfl dX9_append_63 ?_
        subst hAA
        exact mu_iret hx hb hr hlocks hP hS (⟨_, _, _, _⟩) (rfl) (⟨RvP.ok (kD2_0 c9 (by rw [decide_eq_false c22]; rfl)), fun _ => ⟨rfl, rfl⟩, fun z => absurd (kD2_0 c9 (by rw [decide_eq_false c22]; rfl)) z⟩) (rfl) dX9_append_66
      · exact absurd c37 (by decide)
    refine lv_iconst (pc := 25) (v := nI 2) hx hb dX9_append_25 rfl ?_
    refine lv_goto (pc := 26) (tgt := 30) hx hb dX9_append_26 (by decide) ?_
    refine va_put (pc := 30) (D := D) (ci := 8) (v := .int (nI 2)) (ty := .int) (C := RX9) (T := TX9) (N := 25) hx hb hts hinX9 tyX9 tyX9_ok nmX9 hown hK.1 hP hD hS 0 rfl rfl 0 (by decide) (hts (.fieldLink RX9 59 "BoxesGameModel" "thrown" "I") (List.mem_of_getElem? (i := 2) rfl)) (fun _ h9 => h9) rfl (by decide +kernel) (rfl) (rfl) (Nat.le_of_ble_eq_true rfl) dX9_append_30 (fun H locs hP hD hS => ?_)
    have hP : va_P D vwCl [(mo, .inr (8, [.int (nI 2), .int (nI c), .int (nI r), .long w, .int (nI pl), .int (nI n), .ref aML, .ref aMR, .ref aOW, .int (nI len), .ref aBU, .int sn, .ref aSA, .ref aSZ, .ref aLP, .ref aOP, .ref aFT, .int od, .ref aOL, .ref aRS, .ref aCD, .long pw, .int pb, .int ah, .long hs])), (aBU, .inl (Y.1, 60, .inl bu))] H := hP
    have hD : va_D AA [(mo, .inr (8, [.int (nI 2), .int (nI c), .int (nI r), .long w, .int (nI pl), .int (nI n), .ref aML, .ref aMR, .ref aOW, .int (nI len), .ref aBU, .int sn, .ref aSA, .ref aSZ, .ref aLP, .ref aOP, .ref aFT, .int od, .ref aOL, .ref aRS, .ref aCD, .long pw, .int pb, .int ah, .long hs])), (aBU, .inl (Y.1, 60, .inl bu))] := hD
    refine lv_aload_n (pc := 33) hx hb dX9_append_33 rfl (lv_at hl 0 rfl) ?_
    refine va_get (pc := 34) (D := D) (ci := 8) (v := .int (nI 2)) (C := RX9) (T := TX9) (N := 25) hx hb hts hinX9 hown hK.1 hP 0 rfl rfl 0 (by decide) (hts (.fieldLink RX9 59 "BoxesGameModel" "thrown" "I") (List.mem_of_getElem? (i := 2) rfl)) (fun _ h9 => h9) rfl dX9_append_34 ?_
    refine n_if_le (pc := 37) (tgt := 42) hx hb (by omega) dX9_append_37 (by decide) (fun c37 => ?_) (fun c37 => ?_)
    · exact absurd c37 (by decide)
    refine lv_iconst (pc := 40) (v := nI 0) hx hb dX9_append_40 rfl ?_
    subst hAA
    exact mu_iret hx hb hr hlocks hP hS (⟨_, _, _, _⟩) (rfl) (⟨RvP.no (kD2_2 c9 (by rw [decide_eq_true c22]; rfl)) (by decide), fun z => absurd z (kd_no (kD2_2 c9 (by rw [decide_eq_true c22]; rfl)) (by decide)), fun _ => ⟨rfl, rfl⟩⟩) (rfl) dX9_append_41
  refine lv_iconst (pc := 12) (v := nI 1) hx hb dX9_append_12 rfl ?_
  refine lv_goto (pc := 13) (tgt := 30) hx hb dX9_append_13 (by decide) ?_
  refine va_put (pc := 30) (D := D) (ci := 8) (v := .int (nI 1)) (ty := .int) (C := RX9) (T := TX9) (N := 25) hx hb hts hinX9 tyX9 tyX9_ok nmX9 hown hK.1 hP hD hS 0 rfl rfl 0 (by decide) (hts (.fieldLink RX9 59 "BoxesGameModel" "thrown" "I") (List.mem_of_getElem? (i := 2) rfl)) (fun _ h9 => h9) rfl (by decide +kernel) (rfl) (rfl) (Nat.le_of_ble_eq_true rfl) dX9_append_30 (fun H locs hP hD hS => ?_)
  have hP : va_P D vwCl [(mo, .inr (8, [.int (nI 1), .int (nI c), .int (nI r), .long w, .int (nI pl), .int (nI n), .ref aML, .ref aMR, .ref aOW, .int (nI len), .ref aBU, .int sn, .ref aSA, .ref aSZ, .ref aLP, .ref aOP, .ref aFT, .int od, .ref aOL, .ref aRS, .ref aCD, .long pw, .int pb, .int ah, .long hs])), (aBU, .inl (Y.1, 60, .inl bu))] H := hP
  have hD : va_D AA [(mo, .inr (8, [.int (nI 1), .int (nI c), .int (nI r), .long w, .int (nI pl), .int (nI n), .ref aML, .ref aMR, .ref aOW, .int (nI len), .ref aBU, .int sn, .ref aSA, .ref aSZ, .ref aLP, .ref aOP, .ref aFT, .int od, .ref aOL, .ref aRS, .ref aCD, .long pw, .int pb, .int ah, .long hs])), (aBU, .inl (Y.1, 60, .inl bu))] := hD
  refine lv_aload_n (pc := 33) hx hb dX9_append_33 rfl (lv_at hl 0 rfl) ?_
  refine va_get (pc := 34) (D := D) (ci := 8) (v := .int (nI 1)) (C := RX9) (T := TX9) (N := 25) hx hb hts hinX9 hown hK.1 hP 0 rfl rfl 0 (by decide) (hts (.fieldLink RX9 59 "BoxesGameModel" "thrown" "I") (List.mem_of_getElem? (i := 2) rfl)) (fun _ h9 => h9) rfl dX9_append_34 ?_
  refine n_if_le (pc := 37) (tgt := 42) hx hb (by omega) dX9_append_37 (by decide) (fun c37 => ?_) (fun c37 => ?_)
  · exact absurd c37 (by decide)
  refine lv_iconst (pc := 40) (v := nI 0) hx hb dX9_append_40 rfl ?_
  subst hAA
  exact mu_iret hx hb hr hlocks hP hS (⟨_, _, _, _⟩) (rfl) (⟨RvP.no (kD2_1 c9) (by decide), fun z => absurd z (kd_no (kD2_1 c9) (by decide)), fun _ => ⟨rfl, rfl⟩⟩) (rfl) dX9_append_41

set_option maxHeartbeats 1200000 in
set_option maxRecDepth 100000 in
theorem c_X9_clearInput (l : Launch) (D : va_G) (Y : vY) (mo : Nat) (th : Int32) (c : Nat) (r : Nat) (w : Int64) (pl : Nat) (n : Nat) (aML : Nat) (aMR : Nat) (aOW : Nat) (len : Nat) (aBU : Nat) (sn : Int32) (aSA : Nat) (aSZ : Nat) (aLP : Nat) (aOP : Nat) (aFT : Nat) (od : Int32) (aOL : Nat) (aRS : Nat) (aCD : Nat) (pw : Int64) (pb : Int32) (ah : Int32) (hs : Int64) (hlen : len ≤ 60) : Mu l yX9_clearInput wsX9_clearInput ({ frames := 0, cells := 0, slots := 0, locals := 0 } : Room) [.ref mo] D Y [(mo, .inr (8, [.int th, .int (nI c), .int (nI r), .long w, .int (nI pl), .int (nI n), .ref aML, .ref aMR, .ref aOW, .int (nI len), .ref aBU, .int sn, .ref aSA, .ref aSZ, .ref aLP, .ref aOP, .ref aFT, .int od, .ref aOL, .ref aRS, .ref aCD, .long pw, .int pb, .int ah, .long hs]))] (fun _ : Unit => some (.int (nI len))) (fun _ : Unit => [(mo, .inr (8, [.int (nI 0), .int (nI c), .int (nI r), .long w, .int (nI pl), .int (nI n), .ref aML, .ref aMR, .ref aOW, .int (nI 0), .ref aBU, .int sn, .ref aSA, .ref aSZ, .ref aLP, .ref aOP, .ref aFT, .int od, .ref aOL, .ref aRS, .ref aCD, .long pw, .int pb, .int ah, .long hs]))]) (fun _ : Unit => True) := by
  refine mu_intro (by decide +kernel) rfl (Nat.le_of_ble_eq_true rfl) [(0, .ref mo)] rfl ?_
  intro pG eG sG mG aG bG tG cG ls hx hb hr hml hts hown hlocks hK hP hD hS hl
  generalize hAA : adA [(mo, .inr (8, [.int th, .int (nI c), .int (nI r), .long w, .int (nI pl), .int (nI n), .ref aML, .ref aMR, .ref aOW, .int (nI len), .ref aBU, .int sn, .ref aSA, .ref aSZ, .ref aLP, .ref aOP, .ref aFT, .int od, .ref aOL, .ref aRS, .ref aCD, .long pw, .int pb, .int ah, .long hs]))] = AA at hD hS ⊢
  have hP : va_P D vwCl [(mo, .inr (8, [.int th, .int (nI c), .int (nI r), .long w, .int (nI pl), .int (nI n), .ref aML, .ref aMR, .ref aOW, .int (nI len), .ref aBU, .int sn, .ref aSA, .ref aSZ, .ref aLP, .ref aOP, .ref aFT, .int od, .ref aOL, .ref aRS, .ref aCD, .long pw, .int pb, .int ah, .long hs]))] sG.heap := hP
  have hD : va_D AA [(mo, .inr (8, [.int th, .int (nI c), .int (nI r), .long w, .int (nI pl), .int (nI n), .ref aML, .ref aMR, .ref aOW, .int (nI len), .ref aBU, .int sn, .ref aSA, .ref aSZ, .ref aLP, .ref aOP, .ref aFT, .int od, .ref aOL, .ref aRS, .ref aCD, .long pw, .int pb, .int ah, .long hs]))] := hD
  have hown : sG.vm.findClass RX9 = some mG.cls := hown
  have hl : lv_has ls 2 [(0, .ref mo)] := hl
  have hinX9 : ∀ w ∈ u_ws RX9 TX9 25, w ∈ wsX9_clearInput := by decide +kernel
  have hS : va_S AA sG.heap sG.heap [] := hS
  refine lv_aload_n (pc := 0) hx hb dX9_clearInput_0 rfl (lv_at hl 0 rfl) ?_
  refine lv_iconst (pc := 1) (v := nI 0) hx hb dX9_clearInput_1 rfl ?_
  refine va_put (pc := 2) (D := D) (ci := 8) (v := .int (nI 0)) (ty := .int) (C := RX9) (T := TX9) (N := 25) hx hb hts hinX9 tyX9 tyX9_ok nmX9 hown hK.1 hP hD hS 0 rfl rfl 0 (by decide) (hts (.fieldLink RX9 59 "BoxesGameModel" "thrown" "I") (List.mem_of_getElem? (i := 1) rfl)) (fun _ h9 => h9) rfl (by decide +kernel) (rfl) (rfl) (Nat.le_of_ble_eq_true rfl) dX9_clearInput_2 (fun H locs hP hD hS => ?_)
  have hP : va_P D vwCl [(mo, .inr (8, [.int (nI 0), .int (nI c), .int (nI r), .long w, .int (nI pl), .int (nI n), .ref aML, .ref aMR, .ref aOW, .int (nI len), .ref aBU, .int sn, .ref aSA, .ref aSZ, .ref aLP, .ref aOP, .ref aFT, .int od, .ref aOL, .ref aRS, .ref aCD, .long pw, .int pb, .int ah, .long hs]))] H := hP
  have hD : va_D AA [(mo, .inr (8, [.int (nI 0), .int (nI c), .int (nI r), .long w, .int (nI pl), .int (nI n), .ref aML, .ref aMR, .ref aOW, .int (nI len), .ref aBU, .int sn, .ref aSA, .ref aSZ, .ref aLP, .ref aOP, .ref aFT, .int od, .ref aOL, .ref aRS, .ref aCD, .long pw, .int pb, .int ah, .long hs]))] := hD
  refine lv_aload_n (pc := 5) hx hb dX9_clearInput_5 rfl (lv_at hl 0 rfl) ?_
  refine va_get (pc := 6) (D := D) (ci := 8) (v := .int (nI len)) (C := RX9) (T := TX9) (N := 25) hx hb hts hinX9 hown hK.1 hP 0 rfl rfl 9 (by decide) (hts (.fieldLink RX9 147 "BoxesGameModel" "length" "I") (List.mem_of_getElem? (i := 2) rfl)) (fun _ h9 => h9) rfl dX9_clearInput_6 ?_
  refine lv_istore_n (pc := 9) (lv' := [(1, .int (nI len)), (0, .ref mo)]) hx hb dX9_clearInput_9 rfl hl (by decide) rfl (fun ls hl => ?_)
  refine lv_aload_n (pc := 10) hx hb dX9_clearInput_10 rfl (lv_at hl 1 rfl) ?_
  refine lv_iconst (pc := 11) (v := nI 0) hx hb dX9_clearInput_11 rfl ?_
  refine va_put (pc := 12) (D := D) (ci := 8) (v := .int (nI 0)) (ty := .int) (C := RX9) (T := TX9) (N := 25) hx hb hts hinX9 tyX9 tyX9_ok nmX9 hown hK.1 hP hD hS 0 rfl rfl 9 (by decide) (hts (.fieldLink RX9 147 "BoxesGameModel" "length" "I") (List.mem_of_getElem? (i := 2) rfl)) (fun _ h9 => h9) rfl (by decide +kernel) (rfl) (rfl) (Nat.le_of_ble_eq_true rfl) dX9_clearInput_12 (fun H locs hP hD hS => ?_)
  have hP : va_P D vwCl [(mo, .inr (8, [.int (nI 0), .int (nI c), .int (nI r), .long w, .int (nI pl), .int (nI n), .ref aML, .ref aMR, .ref aOW, .int (nI 0), .ref aBU, .int sn, .ref aSA, .ref aSZ, .ref aLP, .ref aOP, .ref aFT, .int od, .ref aOL, .ref aRS, .ref aCD, .long pw, .int pb, .int ah, .long hs]))] H := hP
  have hD : va_D AA [(mo, .inr (8, [.int (nI 0), .int (nI c), .int (nI r), .long w, .int (nI pl), .int (nI n), .ref aML, .ref aMR, .ref aOW, .int (nI 0), .ref aBU, .int sn, .ref aSA, .ref aSZ, .ref aLP, .ref aOP, .ref aFT, .int od, .ref aOL, .ref aRS, .ref aCD, .long pw, .int pb, .int ah, .long hs]))] := hD
  refine lv_iload_n (pc := 15) hx hb dX9_clearInput_15 rfl (lv_at hl 0 rfl) ?_
  subst hAA
  exact mu_iret hx hb hr hlocks hP hS (()) (rfl) (trivial) (rfl) dX9_clearInput_16

set_option maxHeartbeats 1200000 in
set_option maxRecDepth 100000 in
theorem c_X9_fits (l : Launch) (D : va_G) (Y : vY) (mo : Nat) (c : Nat) (r : Nat) (fs : List Value) (aBU : Nat) (i : Nat) (bu : Nat → Int32) (hf : MF c r fs) (hC : Cr c r) (hf10 : fs[10]? = some (.ref aBU)) (hi60 : i < 60) : Ro l yX9_fits wsX9_fits ({ frames := 2, cells := 0, slots := 0, locals := 45 } : Room) [.ref mo, .int (nI i)] D Y [(mo, .inr (8, fs)), (aBU, .inl (Y.1, 60, .inl bu))] (some (.int (zb (okAt c r bu i)))) := by
  refine ro_intro (by decide +kernel) rfl (Nat.le_of_ble_eq_true rfl) [(0, .ref mo), (1, .int (nI i))] rfl ?_
  intro pG eG sG mG aG bG tG cG ls hx hb hr hml hts hown hlocks hK hP hl
  have hP : va_P D vwCl [(mo, .inr (8, fs)), (aBU, .inl (Y.1, 60, .inl bu))] sG.heap := hP
  have hown : sG.vm.findClass RX9 = some mG.cls := hown
  have hl : lv_has ls 5 [(0, .ref mo), (1, .int (nI i))] := hl
  have hinX9 : ∀ w ∈ u_ws RX9 TX9 25, w ∈ wsX9_fits := by decide +kernel
  obtain ⟨hq1, hq2, hq3, hq4, hq5, hq6, hq7, hq8, hq9, hq10, hq11⟩ := hC.q
  refine lv_aload_n (pc := 0) hx hb dX9_fits_0 rfl (lv_at hl 0 rfl) ?_
  refine va_get (pc := 1) (D := D) (ci := 8) (v := .ref aBU) (C := RX9) (T := TX9) (N := 25) hx hb hts hinX9 hown hK.1 hP 0 rfl rfl 10 (by decide) (hts (.fieldLink RX9 26 "BoxesGameModel" "buffer" "[I") (List.mem_of_getElem? (i := 1) rfl)) (fun _ h9 => h9) hf10 dX9_fits_1 ?_
  refine lv_iload_n (pc := 4) hx hb dX9_fits_4 rfl (lv_at hl 1 rfl) ?_
  refine va_iald (pc := 5) hx hb hK.1 hP 1 0 rfl rfl (vp_in_nI (by omega) (by decide)) dX9_fits_5 ?_
  refine top_i (show bu (nI i).toNatClampNeg = bu i from by rw [nI_clamp (by omega)]) ?_
  refine lv_istore_n (pc := 6) (lv' := [(2, .int (bu i)), (0, .ref mo), (1, .int (nI i))]) hx hb dX9_fits_6 rfl hl (by decide) rfl (fun ls hl => ?_)
  refine lv_iload_n (pc := 7) hx hb dX9_fits_7 rfl (lv_at hl 0 rfl) ?_
  refine lv_bipush (pc := 8) (v := nI 48) hx hb dX9_fits_8 rfl ?_
  refine lv_isub (pc := 10) hx hb dX9_fits_10 ?_
  refine lv_istore_n (pc := 11) (lv' := [(3, .int ((bu i) - (nI 48))), (2, .int (bu i)), (0, .ref mo), (1, .int (nI i))]) hx hb dX9_fits_11 rfl hl (by decide) rfl (fun ls hl => ?_)
  refine lv_iload_n (pc := 12) hx hb dX9_fits_12 rfl (lv_at hl 3 rfl) ?_
  refine lv_iconst (pc := 13) (v := nI 4) hx hb dX9_fits_13 rfl ?_
  refine n_irem (pc := 14) hx hb (by omega) (by omega) (by omega) dX9_fits_14 ?_
  refine n_if_le (pc := 15) (tgt := 37) hx hb (by omega) dX9_fits_15 (by decide) (fun c15 => ?_) (fun c15 => ?_)
  · refine lv_iconst (pc := 37) (v := zb false) hx hb dX9_fits_37 rfl ?_
    refine lv_istore (pc := 38) (lv' := [(4, .int (zb false)), (3, .int ((bu i) - (nI 48))), (2, .int (bu i)), (0, .ref mo), (1, .int (nI i))]) hx hb dX9_fits_38 hl (by decide) rfl (fun ls hl => ?_)
    refine lv_iload_n (pc := 40) hx hb dX9_fits_40 rfl (lv_at hl 4 rfl) ?_
    refine lv_iconst (pc := 41) (v := nI 4) hx hb dX9_fits_41 rfl ?_
    refine n_irem (pc := 42) hx hb (by omega) (by omega) (by omega) dX9_fits_42 ?_
    by_cases c43_0 : i % 4 = 0
    · refine lv_tableIn (pc := 43) (off := 25) (tgt := 68) hx hb dX9_fits_43 (by rw [c43_0]; decide) (by rw [c43_0]; decide) (by rw [c43_0]; first | rfl | decide) (by decide) ?_
      refine lv_iload_n (pc := 68) hx hb dX9_fits_68 rfl (lv_at hl 2 rfl) ?_
      refine lv_bipush (pc := 69) (v := nI 104) hx hb dX9_fits_69 rfl ?_
      refine lv_icmp_eq (pc := 71) (tgt := 80) hx hb dX9_fits_71 (by decide) (fun c71 => ?_) (fun c71 => ?_)
      · refine lv_iconst (pc := 80) (v := nI 1) hx hb dX9_fits_80 rfl ?_
        refine lv_goto (pc := 81) (tgt := 85) hx hb dX9_fits_81 (by decide) ?_
        exact ro_zret hx hb hr hlocks (zb_1 (by rw [okAt_0 c43_0, decide_eq_true c71]; rfl)) dX9_fits_85
      refine lv_iload_n (pc := 74) hx hb dX9_fits_74 rfl (lv_at hl 2 rfl) ?_
      refine lv_bipush (pc := 75) (v := nI 118) hx hb dX9_fits_75 rfl ?_
      refine lv_icmp_ne (pc := 77) (tgt := 84) hx hb dX9_fits_77 (by decide) (fun c77 => ?_) (fun c77 => ?_)
      · refine lv_iconst (pc := 84) (v := nI 0) hx hb dX9_fits_84 rfl ?_
        exact ro_zret hx hb hr hlocks (zb_0 (by rw [okAt_0 c43_0, decide_eq_false c71, decide_eq_false c77]; rfl)) dX9_fits_85
      refine lv_iconst (pc := 80) (v := nI 1) hx hb dX9_fits_80 rfl ?_
      refine lv_goto (pc := 81) (tgt := 85) hx hb dX9_fits_81 (by decide) ?_
      exact ro_zret hx hb hr hlocks (zb_1 (by rw [okAt_0 c43_0, decide_eq_false c71, decide_eq_true c77]; rfl)) dX9_fits_85
    by_cases c43_1 : i % 4 = 1
    · refine lv_tableIn (pc := 43) (off := 43) (tgt := 86) hx hb dX9_fits_43 (by rw [c43_1]; decide) (by rw [c43_1]; decide) (by rw [c43_1]; first | rfl | decide) (by decide) ?_
      refine lv_aload_n (pc := 86) hx hb dX9_fits_86 rfl (lv_at hl 3 rfl) ?_
      refine lv_iload (pc := 87) hx hb dX9_fits_87 (lv_at hl 0 rfl) ?_
      refine lv_iload_n (pc := 89) hx hb dX9_fits_89 rfl (lv_at hl 1 rfl) ?_
      refine lv_iconst (pc := 90) (v := nI 0) hx hb dX9_fits_90 rfl ?_
      refine ro_go (pc := 91) (va_runV (As := [.int (zb false), .int ((bu i) - (nI 48)), .int (nI 0)]) (rest := []) ⟨hx, hb, hml, hown, hts⟩ (c_X9_exists l D Y mo c r fs false ((bu i) - (nI 48)) (nI 0) (hf) (hC)) (cwV 3 hts gX9_fits_X9_exists rfl rfl rfl ⟨rfl, hdX9_exists⟩ ⟨Nat.le_of_ble_eq_true rfl, Nat.le_of_ble_eq_true rfl⟩) (ro_pV hK (hP.sub [0] rfl) (ro_recv hK hP (ci := 8) (q0 := 0) rfl rfl)) rfl rfl hl.1 rfl (lv_room (Nat.le_of_ble_eq_true rfl)) dX9_fits_91 ⟨Nat.le_of_ble_eq_true rfl, Nat.le_of_ble_eq_true rfl⟩) ?_
      exact ro_zret hx hb hr hlocks (absurd c15 (by omega)) dX9_fits_94
    by_cases c43_2 : i % 4 = 2
    · refine lv_tableIn (pc := 43) (off := 52) (tgt := 95) hx hb dX9_fits_43 (by rw [c43_2]; decide) (by rw [c43_2]; decide) (by rw [c43_2]; first | rfl | decide) (by decide) ?_
      refine lv_aload_n (pc := 95) hx hb dX9_fits_95 rfl (lv_at hl 3 rfl) ?_
      refine lv_iload (pc := 96) hx hb dX9_fits_96 (lv_at hl 0 rfl) ?_
      refine lv_aload_n (pc := 98) hx hb dX9_fits_98 rfl (lv_at hl 3 rfl) ?_
      refine va_get (pc := 99) (D := D) (ci := 8) (v := .ref aBU) (C := RX9) (T := TX9) (N := 25) hx hb hts hinX9 hown hK.1 hP 0 rfl rfl 10 (by decide) (hts (.fieldLink RX9 26 "BoxesGameModel" "buffer" "[I") (List.mem_of_getElem? (i := 1) rfl)) (fun _ h9 => h9) hf10 dX9_fits_99 ?_
      refine lv_iload_n (pc := 102) hx hb dX9_fits_102 rfl (lv_at hl 4 rfl) ?_
      refine lv_iconst (pc := 103) (v := nI 1) hx hb dX9_fits_103 rfl ?_
      refine n_isub (pc := 104) hx hb (by omega) dX9_fits_104 ?_
      refine va_iald (pc := 105) hx hb hK.1 hP 1 0 rfl rfl (vp_in_nI (by omega) (by decide)) dX9_fits_105 ?_
      refine top_i (show bu (nI (i - 1)).toNatClampNeg = bu (i - 1) from by rw [nI_clamp (by omega)]) ?_
      refine lv_bipush (pc := 106) (v := nI 48) hx hb dX9_fits_106 rfl ?_
      refine lv_isub (pc := 108) hx hb dX9_fits_108 ?_
      refine lv_iload_n (pc := 109) hx hb dX9_fits_109 rfl (lv_at hl 1 rfl) ?_
      refine ro_go (pc := 110) (va_runV (As := [.int (zb false), .int ((bu (i - 1)) - (nI 48)), .int ((bu i) - (nI 48))]) (rest := []) ⟨hx, hb, hml, hown, hts⟩ (c_X9_exists l D Y mo c r fs false ((bu (i - 1)) - (nI 48)) ((bu i) - (nI 48)) (hf) (hC)) (cwV 3 hts gX9_fits_X9_exists rfl rfl rfl ⟨rfl, hdX9_exists⟩ ⟨Nat.le_of_ble_eq_true rfl, Nat.le_of_ble_eq_true rfl⟩) (ro_pV hK (hP.sub [0] rfl) (ro_recv hK hP (ci := 8) (q0 := 0) rfl rfl)) rfl rfl hl.1 rfl (lv_room (Nat.le_of_ble_eq_true rfl)) dX9_fits_110 ⟨Nat.le_of_ble_eq_true rfl, Nat.le_of_ble_eq_true rfl⟩) ?_
      exact ro_zret hx hb hr hlocks (absurd c15 (by omega)) dX9_fits_113
    refine lv_tableOut (pc := 43) (tgt := 114) hx hb dX9_fits_43 (by rw [nI_toInt (by omega)]; omega) (by decide) ?_
    refine lv_iload_n (pc := 114) hx hb dX9_fits_114 rfl (lv_at hl 2 rfl) ?_
    refine lv_bipush (pc := 115) (v := nI 44) hx hb dX9_fits_115 rfl ?_
    refine lv_icmp_ne (pc := 117) (tgt := 124) hx hb dX9_fits_117 (by decide) (fun c117 => ?_) (fun c117 => ?_)
    · refine lv_iconst (pc := 124) (v := nI 0) hx hb dX9_fits_124 rfl ?_
      exact ro_zret hx hb hr hlocks (zb_0 (absurd c15 (by omega))) dX9_fits_125
    refine lv_iconst (pc := 120) (v := nI 1) hx hb dX9_fits_120 rfl ?_
    refine lv_goto (pc := 121) (tgt := 125) hx hb dX9_fits_121 (by decide) ?_
    exact ro_zret hx hb hr hlocks (zb_1 (absurd c15 (by omega))) dX9_fits_125
  refine lv_aload_n (pc := 18) hx hb dX9_fits_18 rfl (lv_at hl 2 rfl) ?_
  refine va_get (pc := 19) (D := D) (ci := 8) (v := .ref aBU) (C := RX9) (T := TX9) (N := 25) hx hb hts hinX9 hown hK.1 hP 0 rfl rfl 10 (by decide) (hts (.fieldLink RX9 26 "BoxesGameModel" "buffer" "[I") (List.mem_of_getElem? (i := 1) rfl)) (fun _ h9 => h9) hf10 dX9_fits_19 ?_
  refine lv_iload_n (pc := 22) hx hb dX9_fits_22 rfl (lv_at hl 3 rfl) ?_
  refine lv_iload_n (pc := 23) hx hb dX9_fits_23 rfl (lv_at hl 3 rfl) ?_
  refine lv_iconst (pc := 24) (v := nI 4) hx hb dX9_fits_24 rfl ?_
  refine n_irem (pc := 25) hx hb (by omega) (by omega) (by omega) dX9_fits_25 ?_
  refine n_isub (pc := 26) hx hb (Nat.mod_le _ _) dX9_fits_26 ?_
  refine va_iald (pc := 27) hx hb hK.1 hP 1 0 rfl rfl (vp_in_nI (by omega) (by decide)) dX9_fits_27 ?_
  refine top_i (show bu (nI (i - (i % 4))).toNatClampNeg = bu (i - (i % 4)) from by rw [nI_clamp (by omega)]) ?_
  refine lv_bipush (pc := 28) (v := nI 118) hx hb dX9_fits_28 rfl ?_
  refine lv_icmp_ne (pc := 30) (tgt := 37) hx hb dX9_fits_30 (by decide) (fun c30 => ?_) (fun c30 => ?_)
  · refine lv_iconst (pc := 37) (v := zb false) hx hb dX9_fits_37 rfl ?_
    refine lv_istore (pc := 38) (lv' := [(4, .int (zb false)), (3, .int ((bu i) - (nI 48))), (2, .int (bu i)), (0, .ref mo), (1, .int (nI i))]) hx hb dX9_fits_38 hl (by decide) rfl (fun ls hl => ?_)
    refine lv_iload_n (pc := 40) hx hb dX9_fits_40 rfl (lv_at hl 4 rfl) ?_
    refine lv_iconst (pc := 41) (v := nI 4) hx hb dX9_fits_41 rfl ?_
    refine n_irem (pc := 42) hx hb (by omega) (by omega) (by omega) dX9_fits_42 ?_
    by_cases c43_0 : i % 4 = 0
    · refine lv_tableIn (pc := 43) (off := 25) (tgt := 68) hx hb dX9_fits_43 (by rw [c43_0]; decide) (by rw [c43_0]; decide) (by rw [c43_0]; first | rfl | decide) (by decide) ?_
      refine lv_iload_n (pc := 68) hx hb dX9_fits_68 rfl (lv_at hl 2 rfl) ?_
      refine lv_bipush (pc := 69) (v := nI 104) hx hb dX9_fits_69 rfl ?_
      refine lv_icmp_eq (pc := 71) (tgt := 80) hx hb dX9_fits_71 (by decide) (fun c71 => ?_) (fun c71 => ?_)
      · refine lv_iconst (pc := 80) (v := nI 1) hx hb dX9_fits_80 rfl ?_
        refine lv_goto (pc := 81) (tgt := 85) hx hb dX9_fits_81 (by decide) ?_
        exact ro_zret hx hb hr hlocks (zb_1 (absurd c15 (by omega))) dX9_fits_85
      refine lv_iload_n (pc := 74) hx hb dX9_fits_74 rfl (lv_at hl 2 rfl) ?_
      refine lv_bipush (pc := 75) (v := nI 118) hx hb dX9_fits_75 rfl ?_
      refine lv_icmp_ne (pc := 77) (tgt := 84) hx hb dX9_fits_77 (by decide) (fun c77 => ?_) (fun c77 => ?_)
      · refine lv_iconst (pc := 84) (v := nI 0) hx hb dX9_fits_84 rfl ?_
        exact ro_zret hx hb hr hlocks (zb_0 (absurd c15 (by omega))) dX9_fits_85
      refine lv_iconst (pc := 80) (v := nI 1) hx hb dX9_fits_80 rfl ?_
      refine lv_goto (pc := 81) (tgt := 85) hx hb dX9_fits_81 (by decide) ?_
      exact ro_zret hx hb hr hlocks (zb_1 (absurd c15 (by omega))) dX9_fits_85
    by_cases c43_1 : i % 4 = 1
    · refine lv_tableIn (pc := 43) (off := 43) (tgt := 86) hx hb dX9_fits_43 (by rw [c43_1]; decide) (by rw [c43_1]; decide) (by rw [c43_1]; first | rfl | decide) (by decide) ?_
      refine lv_aload_n (pc := 86) hx hb dX9_fits_86 rfl (lv_at hl 3 rfl) ?_
      refine lv_iload (pc := 87) hx hb dX9_fits_87 (lv_at hl 0 rfl) ?_
      refine lv_iload_n (pc := 89) hx hb dX9_fits_89 rfl (lv_at hl 1 rfl) ?_
      refine lv_iconst (pc := 90) (v := nI 0) hx hb dX9_fits_90 rfl ?_
      refine ro_go (pc := 91) (va_runV (As := [.int (zb false), .int ((bu i) - (nI 48)), .int (nI 0)]) (rest := []) ⟨hx, hb, hml, hown, hts⟩ (c_X9_exists l D Y mo c r fs false ((bu i) - (nI 48)) (nI 0) (hf) (hC)) (cwV 3 hts gX9_fits_X9_exists rfl rfl rfl ⟨rfl, hdX9_exists⟩ ⟨Nat.le_of_ble_eq_true rfl, Nat.le_of_ble_eq_true rfl⟩) (ro_pV hK (hP.sub [0] rfl) (ro_recv hK hP (ci := 8) (q0 := 0) rfl rfl)) rfl rfl hl.1 rfl (lv_room (Nat.le_of_ble_eq_true rfl)) dX9_fits_91 ⟨Nat.le_of_ble_eq_true rfl, Nat.le_of_ble_eq_true rfl⟩) ?_
      exact ro_zret hx hb hr hlocks (by rw [okAt_1 c43_1, show vAt bu (i - 1) = false from by unfold vAt; rw [show i - 1 = i - i % 4 by omega]; exact decide_eq_false c30]) dX9_fits_94
    by_cases c43_2 : i % 4 = 2
    · refine lv_tableIn (pc := 43) (off := 52) (tgt := 95) hx hb dX9_fits_43 (by rw [c43_2]; decide) (by rw [c43_2]; decide) (by rw [c43_2]; first | rfl | decide) (by decide) ?_
      refine lv_aload_n (pc := 95) hx hb dX9_fits_95 rfl (lv_at hl 3 rfl) ?_
      refine lv_iload (pc := 96) hx hb dX9_fits_96 (lv_at hl 0 rfl) ?_
      refine lv_aload_n (pc := 98) hx hb dX9_fits_98 rfl (lv_at hl 3 rfl) ?_
      refine va_get (pc := 99) (D := D) (ci := 8) (v := .ref aBU) (C := RX9) (T := TX9) (N := 25) hx hb hts hinX9 hown hK.1 hP 0 rfl rfl 10 (by decide) (hts (.fieldLink RX9 26 "BoxesGameModel" "buffer" "[I") (List.mem_of_getElem? (i := 1) rfl)) (fun _ h9 => h9) hf10 dX9_fits_99 ?_
      refine lv_iload_n (pc := 102) hx hb dX9_fits_102 rfl (lv_at hl 4 rfl) ?_
      refine lv_iconst (pc := 103) (v := nI 1) hx hb dX9_fits_103 rfl ?_
      refine n_isub (pc := 104) hx hb (by omega) dX9_fits_104 ?_
      refine va_iald (pc := 105) hx hb hK.1 hP 1 0 rfl rfl (vp_in_nI (by omega) (by decide)) dX9_fits_105 ?_
      refine top_i (show bu (nI (i - 1)).toNatClampNeg = bu (i - 1) from by rw [nI_clamp (by omega)]) ?_
      refine lv_bipush (pc := 106) (v := nI 48) hx hb dX9_fits_106 rfl ?_
      refine lv_isub (pc := 108) hx hb dX9_fits_108 ?_
      refine lv_iload_n (pc := 109) hx hb dX9_fits_109 rfl (lv_at hl 1 rfl) ?_
      refine ro_go (pc := 110) (va_runV (As := [.int (zb false), .int ((bu (i - 1)) - (nI 48)), .int ((bu i) - (nI 48))]) (rest := []) ⟨hx, hb, hml, hown, hts⟩ (c_X9_exists l D Y mo c r fs false ((bu (i - 1)) - (nI 48)) ((bu i) - (nI 48)) (hf) (hC)) (cwV 3 hts gX9_fits_X9_exists rfl rfl rfl ⟨rfl, hdX9_exists⟩ ⟨Nat.le_of_ble_eq_true rfl, Nat.le_of_ble_eq_true rfl⟩) (ro_pV hK (hP.sub [0] rfl) (ro_recv hK hP (ci := 8) (q0 := 0) rfl rfl)) rfl rfl hl.1 rfl (lv_room (Nat.le_of_ble_eq_true rfl)) dX9_fits_110 ⟨Nat.le_of_ble_eq_true rfl, Nat.le_of_ble_eq_true rfl⟩) ?_
      exact ro_zret hx hb hr hlocks (by rw [okAt_2 c43_2, show vAt bu (i - 2) = false from by unfold vAt; rw [show i - 2 = i - i % 4 by omega]; exact decide_eq_false c30]) dX9_fits_113
    refine lv_tableOut (pc := 43) (tgt := 114) hx hb dX9_fits_43 (by rw [nI_toInt (by omega)]; omega) (by decide) ?_
    refine lv_iload_n (pc := 114) hx hb dX9_fits_114 rfl (lv_at hl 2 rfl) ?_
    refine lv_bipush (pc := 115) (v := nI 44) hx hb dX9_fits_115 rfl ?_
    refine lv_icmp_ne (pc := 117) (tgt := 124) hx hb dX9_fits_117 (by decide) (fun c117 => ?_) (fun c117 => ?_)
    · refine lv_iconst (pc := 124) (v := nI 0) hx hb dX9_fits_124 rfl ?_
      exact ro_zret hx hb hr hlocks (zb_0 (by rw [okAt_3 c43_0 c43_1 c43_2]; exact decide_eq_false c117)) dX9_fits_125
    refine lv_iconst (pc := 120) (v := nI 1) hx hb dX9_fits_120 rfl ?_
    refine lv_goto (pc := 121) (tgt := 125) hx hb dX9_fits_121 (by decide) ?_
    exact ro_zret hx hb hr hlocks (zb_1 (by rw [okAt_3 c43_0 c43_1 c43_2]; exact decide_eq_true c117)) dX9_fits_125
  refine lv_iconst (pc := 33) (v := zb true) hx hb dX9_fits_33 rfl ?_
  refine lv_goto (pc := 34) (tgt := 38) hx hb dX9_fits_34 (by decide) ?_
  refine lv_istore (pc := 38) (lv' := [(4, .int (zb true)), (3, .int ((bu i) - (nI 48))), (2, .int (bu i)), (0, .ref mo), (1, .int (nI i))]) hx hb dX9_fits_38 hl (by decide) rfl (fun ls hl => ?_)
  refine lv_iload_n (pc := 40) hx hb dX9_fits_40 rfl (lv_at hl 4 rfl) ?_
  refine lv_iconst (pc := 41) (v := nI 4) hx hb dX9_fits_41 rfl ?_
  refine n_irem (pc := 42) hx hb (by omega) (by omega) (by omega) dX9_fits_42 ?_
  by_cases c43_0 : i % 4 = 0
  · refine lv_tableIn (pc := 43) (off := 25) (tgt := 68) hx hb dX9_fits_43 (by rw [c43_0]; decide) (by rw [c43_0]; decide) (by rw [c43_0]; first | rfl | decide) (by decide) ?_
    refine lv_iload_n (pc := 68) hx hb dX9_fits_68 rfl (lv_at hl 2 rfl) ?_
    refine lv_bipush (pc := 69) (v := nI 104) hx hb dX9_fits_69 rfl ?_
    refine lv_icmp_eq (pc := 71) (tgt := 80) hx hb dX9_fits_71 (by decide) (fun c71 => ?_) (fun c71 => ?_)
    · refine lv_iconst (pc := 80) (v := nI 1) hx hb dX9_fits_80 rfl ?_
      refine lv_goto (pc := 81) (tgt := 85) hx hb dX9_fits_81 (by decide) ?_
      exact ro_zret hx hb hr hlocks (zb_1 (absurd c15 (by omega))) dX9_fits_85
    refine lv_iload_n (pc := 74) hx hb dX9_fits_74 rfl (lv_at hl 2 rfl) ?_
    refine lv_bipush (pc := 75) (v := nI 118) hx hb dX9_fits_75 rfl ?_
    refine lv_icmp_ne (pc := 77) (tgt := 84) hx hb dX9_fits_77 (by decide) (fun c77 => ?_) (fun c77 => ?_)
    · refine lv_iconst (pc := 84) (v := nI 0) hx hb dX9_fits_84 rfl ?_
      exact ro_zret hx hb hr hlocks (zb_0 (absurd c15 (by omega))) dX9_fits_85
    refine lv_iconst (pc := 80) (v := nI 1) hx hb dX9_fits_80 rfl ?_
    refine lv_goto (pc := 81) (tgt := 85) hx hb dX9_fits_81 (by decide) ?_
    exact ro_zret hx hb hr hlocks (zb_1 (absurd c15 (by omega))) dX9_fits_85
  by_cases c43_1 : i % 4 = 1
  · refine lv_tableIn (pc := 43) (off := 43) (tgt := 86) hx hb dX9_fits_43 (by rw [c43_1]; decide) (by rw [c43_1]; decide) (by rw [c43_1]; first | rfl | decide) (by decide) ?_
    refine lv_aload_n (pc := 86) hx hb dX9_fits_86 rfl (lv_at hl 3 rfl) ?_
    refine lv_iload (pc := 87) hx hb dX9_fits_87 (lv_at hl 0 rfl) ?_
    refine lv_iload_n (pc := 89) hx hb dX9_fits_89 rfl (lv_at hl 1 rfl) ?_
    refine lv_iconst (pc := 90) (v := nI 0) hx hb dX9_fits_90 rfl ?_
    refine ro_go (pc := 91) (va_runV (As := [.int (zb true), .int ((bu i) - (nI 48)), .int (nI 0)]) (rest := []) ⟨hx, hb, hml, hown, hts⟩ (c_X9_exists l D Y mo c r fs true ((bu i) - (nI 48)) (nI 0) (hf) (hC)) (cwV 3 hts gX9_fits_X9_exists rfl rfl rfl ⟨rfl, hdX9_exists⟩ ⟨Nat.le_of_ble_eq_true rfl, Nat.le_of_ble_eq_true rfl⟩) (ro_pV hK (hP.sub [0] rfl) (ro_recv hK hP (ci := 8) (q0 := 0) rfl rfl)) rfl rfl hl.1 rfl (lv_room (Nat.le_of_ble_eq_true rfl)) dX9_fits_91 ⟨Nat.le_of_ble_eq_true rfl, Nat.le_of_ble_eq_true rfl⟩) ?_
    exact ro_zret hx hb hr hlocks (by rw [okAt_1 c43_1, show vAt bu (i - 1) = true from by unfold vAt; rw [show i - 1 = i - i % 4 by omega]; exact decide_eq_true c30]) dX9_fits_94
  by_cases c43_2 : i % 4 = 2
  · refine lv_tableIn (pc := 43) (off := 52) (tgt := 95) hx hb dX9_fits_43 (by rw [c43_2]; decide) (by rw [c43_2]; decide) (by rw [c43_2]; first | rfl | decide) (by decide) ?_
    refine lv_aload_n (pc := 95) hx hb dX9_fits_95 rfl (lv_at hl 3 rfl) ?_
    refine lv_iload (pc := 96) hx hb dX9_fits_96 (lv_at hl 0 rfl) ?_
    refine lv_aload_n (pc := 98) hx hb dX9_fits_98 rfl (lv_at hl 3 rfl) ?_
    refine va_get (pc := 99) (D := D) (ci := 8) (v := .ref aBU) (C := RX9) (T := TX9) (N := 25) hx hb hts hinX9 hown hK.1 hP 0 rfl rfl 10 (by decide) (hts (.fieldLink RX9 26 "BoxesGameModel" "buffer" "[I") (List.mem_of_getElem? (i := 1) rfl)) (fun _ h9 => h9) hf10 dX9_fits_99 ?_
    refine lv_iload_n (pc := 102) hx hb dX9_fits_102 rfl (lv_at hl 4 rfl) ?_
    refine lv_iconst (pc := 103) (v := nI 1) hx hb dX9_fits_103 rfl ?_
    refine n_isub (pc := 104) hx hb (by omega) dX9_fits_104 ?_
    refine va_iald (pc := 105) hx hb hK.1 hP 1 0 rfl rfl (vp_in_nI (by omega) (by decide)) dX9_fits_105 ?_
    refine top_i (show bu (nI (i - 1)).toNatClampNeg = bu (i - 1) from by rw [nI_clamp (by omega)]) ?_
    refine lv_bipush (pc := 106) (v := nI 48) hx hb dX9_fits_106 rfl ?_
    refine lv_isub (pc := 108) hx hb dX9_fits_108 ?_
    refine lv_iload_n (pc := 109) hx hb dX9_fits_109 rfl (lv_at hl 1 rfl) ?_
    refine ro_go (pc := 110) (va_runV (As := [.int (zb true), .int ((bu (i - 1)) - (nI 48)), .int ((bu i) - (nI 48))]) (rest := []) ⟨hx, hb, hml, hown, hts⟩ (c_X9_exists l D Y mo c r fs true ((bu (i - 1)) - (nI 48)) ((bu i) - (nI 48)) (hf) (hC)) (cwV 3 hts gX9_fits_X9_exists rfl rfl rfl ⟨rfl, hdX9_exists⟩ ⟨Nat.le_of_ble_eq_true rfl, Nat.le_of_ble_eq_true rfl⟩) (ro_pV hK (hP.sub [0] rfl) (ro_recv hK hP (ci := 8) (q0 := 0) rfl rfl)) rfl rfl hl.1 rfl (lv_room (Nat.le_of_ble_eq_true rfl)) dX9_fits_110 ⟨Nat.le_of_ble_eq_true rfl, Nat.le_of_ble_eq_true rfl⟩) ?_
    exact ro_zret hx hb hr hlocks (by rw [okAt_2 c43_2, show vAt bu (i - 2) = true from by unfold vAt; rw [show i - 2 = i - i % 4 by omega]; exact decide_eq_true c30]) dX9_fits_113
  refine lv_tableOut (pc := 43) (tgt := 114) hx hb dX9_fits_43 (by rw [nI_toInt (by omega)]; omega) (by decide) ?_
  refine lv_iload_n (pc := 114) hx hb dX9_fits_114 rfl (lv_at hl 2 rfl) ?_
  refine lv_bipush (pc := 115) (v := nI 44) hx hb dX9_fits_115 rfl ?_
  refine lv_icmp_ne (pc := 117) (tgt := 124) hx hb dX9_fits_117 (by decide) (fun c117 => ?_) (fun c117 => ?_)
  · refine lv_iconst (pc := 124) (v := nI 0) hx hb dX9_fits_124 rfl ?_
    exact ro_zret hx hb hr hlocks (zb_0 (by rw [okAt_3 c43_0 c43_1 c43_2]; exact decide_eq_false c117)) dX9_fits_125
  refine lv_iconst (pc := 120) (v := nI 1) hx hb dX9_fits_120 rfl ?_
  refine lv_goto (pc := 121) (tgt := 125) hx hb dX9_fits_121 (by decide) ?_
  exact ro_zret hx hb hr hlocks (zb_1 (by rw [okAt_3 c43_0 c43_1 c43_2]; exact decide_eq_true c117)) dX9_fits_125

set_option maxHeartbeats 1200000 in
set_option maxRecDepth 100000 in
theorem c_X9_rightLength (l : Launch) (D : va_G) (Y : vY) (mo : Nat) (c : Nat) (r : Nat) (fs : List Value) (len : Nat) (aBU : Nat) (bu : Nat → Int32) (hf : MF c r fs) (hC : Cr c r) (hf9 : fs[9]? = some (.int (nI len))) (hf10 : fs[10]? = some (.ref aBU)) (hlen : len ≤ 60) : Ro l yX9_rightLength wsX9_rightLength ({ frames := 3, cells := 0, slots := 0, locals := 69 } : Room) [.ref mo] D Y [(mo, .inr (8, fs)), (aBU, .inl (Y.1, 60, .inl bu))] (some (.int (nI (ferr c r bu len)))) := by
  refine ro_intro (by decide +kernel) rfl (Nat.le_of_ble_eq_true rfl) [(0, .ref mo)] rfl ?_
  intro pG eG sG mG aG bG tG cG ls hx hb hr hml hts hown hlocks hK hP hl
  have hP : va_P D vwCl [(mo, .inr (8, fs)), (aBU, .inl (Y.1, 60, .inl bu))] sG.heap := hP
  have hown : sG.vm.findClass RX9 = some mG.cls := hown
  have hl : lv_has ls 2 [(0, .ref mo)] := hl
  have hinX9 : ∀ w ∈ u_ws RX9 TX9 25, w ∈ wsX9_rightLength := by decide +kernel
  obtain ⟨hq1, hq2, hq3, hq4, hq5, hq6, hq7, hq8, hq9, hq10, hq11⟩ := hC.q
  refine lv_iconst (pc := 0) (v := nI 0) hx hb dX9_rightLength_0 rfl ?_
  refine lv_istore_n (pc := 1) (lv' := [(1, .int (nI 0)), (0, .ref mo)]) hx hb dX9_rightLength_1 rfl hl (by decide) rfl (fun ls hl => ?_)
  have L2 : ∀ (n2 : Nat), ∀ (i : Nat), (i ≤ len) → (∀ j, j < i → (!okAt c r bu j) = false) → len - i < n2 → ∀ (ls : Array Slot), lv_has ls 2 [(0, .ref mo), (1, .int (nI i))] → W pG l eG ({ frames := 3, cells := 0, slots := 0, locals := 69 } : Room) sG mG aG bG tG cG sG.heap [] 0 0 (MQ bG (RoQ (some (.int (nI (ferr c r bu len))))) aG sG 0 0 (fun _ => False)) (F0 mG 2 ls []) := by
    intro n2
    induction n2 with
    | zero =>
      intro i hi hno hmeas2  ls hl
      exact absurd hmeas2 (Nat.not_lt_zero _)
    | succ n2 ih2 =>
      intro i hi hno hmeas2  ls hl
      refine lv_iload_n (pc := 2) hx hb dX9_rightLength_2 rfl (lv_at hl 1 rfl) ?_
      refine lv_aload_n (pc := 3) hx hb dX9_rightLength_3 rfl (lv_at hl 0 rfl) ?_
      refine va_get (pc := 4) (D := D) (ci := 8) (v := .int (nI len)) (C := RX9) (T := TX9) (N := 25) hx hb hts hinX9 hown hK.1 hP 0 rfl rfl 9 (by decide) (hts (.fieldLink RX9 147 "BoxesGameModel" "length" "I") (List.mem_of_getElem? (i := 1) rfl)) (fun _ h9 => h9) hf9 dX9_rightLength_4 ?_
      refine n_icmp_ge (pc := 7) (tgt := 24) hx hb (by omega) (by omega) dX9_rightLength_7 (by decide) (fun c7 => ?_) (fun c7 => ?_)
      · refine lv_iload_n (pc := 24) hx hb dX9_rightLength_24 rfl (lv_at hl 1 rfl) ?_
        exact ro_iret (v := nI i) hx hb hr hlocks (by unfold ferr; rw [first_end (fun j h => hno j (by omega)), show i = len by omega]) dX9_rightLength_25
      refine lv_aload_n (pc := 10) hx hb dX9_rightLength_10 rfl (lv_at hl 0 rfl) ?_
      refine lv_iload_n (pc := 11) hx hb dX9_rightLength_11 rfl (lv_at hl 1 rfl) ?_
      refine ro_go (pc := 12) (va_runV (As := [.int (nI i)]) (rest := []) ⟨hx, hb, hml, hown, hts⟩ (c_X9_fits l D Y mo c r fs aBU i bu (hf) (hC) (hf10) (by omega)) (cwV 1 hts gX9_rightLength_X9_fits rfl rfl rfl ⟨rfl, hdX9_fits⟩ ⟨Nat.le_of_ble_eq_true rfl, Nat.le_of_ble_eq_true rfl⟩) (ro_pV hK hP (ro_recv hK hP (ci := 8) (q0 := 0) rfl rfl)) rfl rfl hl.1 rfl (lv_room (Nat.le_of_ble_eq_true rfl)) dX9_rightLength_12 ⟨Nat.le_of_ble_eq_true rfl, Nat.le_of_ble_eq_true rfl⟩) ?_
      refine z_if_eq (pc := 15) (tgt := 24) hx hb dX9_rightLength_15 (by decide) (fun c15 => ?_) (fun c15 => ?_)
      · refine lv_iload_n (pc := 24) hx hb dX9_rightLength_24 rfl (lv_at hl 1 rfl) ?_
        exact ro_iret (v := nI i) hx hb hr hlocks (by unfold ferr; rw [first_at hno (by rw [c15]; rfl) c7]) dX9_rightLength_25
      refine lv_iinc (pc := 18) (v := nI (i + 1)) (lv' := [(1, .int (nI (i + 1))), (0, .ref mo)]) hx hb dX9_rightLength_18 hl (k := 1) rfl (n_inc i 1) (by decide) rfl (fun ls hl => ?_)
      refine lv_goto (pc := 21) (tgt := 2) hx hb dX9_rightLength_21 (by decide) ?_
      exact ih2 (i + 1) (by first | assumption | omega) (lt_s hno (by rw [c15]; rfl)) (by omega) _ (lv_sub hl [1, 0] rfl)
  exact L2 ((len - 0) + 1) 0 (by first | assumption | omega) (fun j h => absurd h (Nat.not_lt_zero _)) (Nat.lt_succ_self _) _ (lv_sub hl [1, 0] rfl)

set_option maxHeartbeats 1200000 in
set_option maxRecDepth 100000 in
theorem c_X9_firstError (l : Launch) (D : va_G) (Y : vY) (mo : Nat) (th : Int32) (c : Nat) (r : Nat) (w : Int64) (pl : Nat) (n : Nat) (aML : Nat) (aMR : Nat) (aOW : Nat) (len : Nat) (aBU : Nat) (sn : Int32) (aSA : Nat) (aSZ : Nat) (aLP : Nat) (aOP : Nat) (aFT : Nat) (od : Int32) (aOL : Nat) (aRS : Nat) (aCD : Nat) (pw : Int64) (pb : Int32) (ah : Int32) (hs : Int64) (bu : Nat → Int32) (hC : Cr c r) (hlen : len ≤ 60) : Mu l yX9_firstError wsX9_firstError ({ frames := 4, cells := 0, slots := 0, locals := 90 } : Room) [.ref mo] D Y [(mo, .inr (8, [.int th, .int (nI c), .int (nI r), .long w, .int (nI pl), .int (nI n), .ref aML, .ref aMR, .ref aOW, .int (nI len), .ref aBU, .int sn, .ref aSA, .ref aSZ, .ref aLP, .ref aOP, .ref aFT, .int od, .ref aOL, .ref aRS, .ref aCD, .long pw, .int pb, .int ah, .long hs])), (aBU, .inl (Y.1, 60, .inl bu))] (fun _ : Unit => some (.int (nI (ferr c r bu len)))) (fun _ : Unit => [(mo, .inr (8, [.int (nI 0), .int (nI c), .int (nI r), .long w, .int (nI pl), .int (nI n), .ref aML, .ref aMR, .ref aOW, .int (nI len), .ref aBU, .int sn, .ref aSA, .ref aSZ, .ref aLP, .ref aOP, .ref aFT, .int od, .ref aOL, .ref aRS, .ref aCD, .long pw, .int pb, .int ah, .long hs])), (aBU, .inl (Y.1, 60, .inl bu))]) (fun _ : Unit => True) := by
  refine mu_intro (by decide +kernel) rfl (Nat.le_of_ble_eq_true rfl) [(0, .ref mo)] rfl ?_
  intro pG eG sG mG aG bG tG cG ls hx hb hr hml hts hown hlocks hK hP hD hS hl
  generalize hAA : adA [(mo, .inr (8, [.int th, .int (nI c), .int (nI r), .long w, .int (nI pl), .int (nI n), .ref aML, .ref aMR, .ref aOW, .int (nI len), .ref aBU, .int sn, .ref aSA, .ref aSZ, .ref aLP, .ref aOP, .ref aFT, .int od, .ref aOL, .ref aRS, .ref aCD, .long pw, .int pb, .int ah, .long hs])), (aBU, .inl (Y.1, 60, .inl bu))] = AA at hD hS ⊢
  have hP : va_P D vwCl [(mo, .inr (8, [.int th, .int (nI c), .int (nI r), .long w, .int (nI pl), .int (nI n), .ref aML, .ref aMR, .ref aOW, .int (nI len), .ref aBU, .int sn, .ref aSA, .ref aSZ, .ref aLP, .ref aOP, .ref aFT, .int od, .ref aOL, .ref aRS, .ref aCD, .long pw, .int pb, .int ah, .long hs])), (aBU, .inl (Y.1, 60, .inl bu))] sG.heap := hP
  have hD : va_D AA [(mo, .inr (8, [.int th, .int (nI c), .int (nI r), .long w, .int (nI pl), .int (nI n), .ref aML, .ref aMR, .ref aOW, .int (nI len), .ref aBU, .int sn, .ref aSA, .ref aSZ, .ref aLP, .ref aOP, .ref aFT, .int od, .ref aOL, .ref aRS, .ref aCD, .long pw, .int pb, .int ah, .long hs])), (aBU, .inl (Y.1, 60, .inl bu))] := hD
  have hown : sG.vm.findClass RX9 = some mG.cls := hown
  have hl : lv_has ls 1 [(0, .ref mo)] := hl
  have hinX9 : ∀ w ∈ u_ws RX9 TX9 25, w ∈ wsX9_firstError := by decide +kernel
  have hS : va_S AA sG.heap sG.heap [] := hS
  obtain ⟨hq1, hq2, hq3, hq4, hq5, hq6, hq7, hq8, hq9, hq10, hq11⟩ := hC.q
  refine lv_aload_n (pc := 0) hx hb dX9_firstError_0 rfl (lv_at hl 0 rfl) ?_
  refine lv_iconst (pc := 1) (v := nI 0) hx hb dX9_firstError_1 rfl ?_
  refine va_put (pc := 2) (D := D) (ci := 8) (v := .int (nI 0)) (ty := .int) (C := RX9) (T := TX9) (N := 25) hx hb hts hinX9 tyX9 tyX9_ok nmX9 hown hK.1 hP hD hS 0 rfl rfl 0 (by decide) (hts (.fieldLink RX9 59 "BoxesGameModel" "thrown" "I") (List.mem_of_getElem? (i := 1) rfl)) (fun _ h9 => h9) rfl (by decide +kernel) (rfl) (rfl) (Nat.le_of_ble_eq_true rfl) dX9_firstError_2 (fun H locs hP hD hS => ?_)
  have hP : va_P D vwCl [(mo, .inr (8, [.int (nI 0), .int (nI c), .int (nI r), .long w, .int (nI pl), .int (nI n), .ref aML, .ref aMR, .ref aOW, .int (nI len), .ref aBU, .int sn, .ref aSA, .ref aSZ, .ref aLP, .ref aOP, .ref aFT, .int od, .ref aOL, .ref aRS, .ref aCD, .long pw, .int pb, .int ah, .long hs])), (aBU, .inl (Y.1, 60, .inl bu))] H := hP
  have hD : va_D AA [(mo, .inr (8, [.int (nI 0), .int (nI c), .int (nI r), .long w, .int (nI pl), .int (nI n), .ref aML, .ref aMR, .ref aOW, .int (nI len), .ref aBU, .int sn, .ref aSA, .ref aSZ, .ref aLP, .ref aOP, .ref aFT, .int od, .ref aOL, .ref aRS, .ref aCD, .long pw, .int pb, .int ah, .long hs])), (aBU, .inl (Y.1, 60, .inl bu))] := hD
  refine lv_aload_n (pc := 5) hx hb dX9_firstError_5 rfl (lv_at hl 0 rfl) ?_
  refine ro_go (pc := 6) (va_runV (As := []) (rest := []) ⟨hx, hb, hml, hown, hts⟩ (c_X9_rightLength l D Y mo c r ([.int (nI 0), .int (nI c), .int (nI r), .long w, .int (nI pl), .int (nI n), .ref aML, .ref aMR, .ref aOW, .int (nI len), .ref aBU, .int sn, .ref aSA, .ref aSZ, .ref aLP, .ref aOP, .ref aFT, .int od, .ref aOL, .ref aRS, .ref aCD, .long pw, .int pb, .int ah, .long hs]) len aBU bu (by first | assumption | exact ⟨rfl, rfl⟩) (hC) (by first | assumption | rfl) (by first | assumption | rfl) (hlen)) (cwV 0 hts gX9_firstError_X9_rightLength rfl rfl rfl ⟨rfl, hdX9_rightLength⟩ ⟨Nat.le_of_ble_eq_true rfl, Nat.le_of_ble_eq_true rfl⟩) (ro_pV hK hP (ro_recv hK hP (ci := 8) (q0 := 0) rfl rfl)) rfl rfl hl.1 rfl (lv_room (Nat.le_of_ble_eq_true rfl)) dX9_firstError_6 ⟨Nat.le_of_ble_eq_true rfl, Nat.le_of_ble_eq_true rfl⟩) ?_
  subst hAA
  exact mu_iret hx hb hr hlocks hP hS (()) (rfl) (trivial) (rfl) dX9_firstError_9

set_option maxHeartbeats 1200000 in
set_option maxRecDepth 100000 in
theorem c_X9_lineIn (l : Launch) (D : va_G) (Y : vY) (mo : Nat) (c : Nat) (r : Nat) (fs : List Value) (aBU : Nat) (i : Nat) (bu : Nat → Int32) (len : Nat) (hf : MF c r fs) (hC : Cr c r) (hf10 : fs[10]? = some (.ref aBU)) (hlen : len ≤ 60) (hT : TxOK c r bu len) (hil : i < len) (hi4 : i % 4 = 0) : Ro l yX9_lineIn wsX9_lineIn ({ frames := 2, cells := 0, slots := 0, locals := 43 } : Room) [.ref mo, .int (nI i)] D Y [(mo, .inr (8, fs)), (aBU, .inl (Y.1, 60, .inl bu))] (some (.int (nI (tlN c r bu i)))) := by
  refine ro_intro (by decide +kernel) rfl (Nat.le_of_ble_eq_true rfl) [(0, .ref mo), (1, .int (nI i))] rfl ?_
  intro pG eG sG mG aG bG tG cG ls hx hb hr hml hts hown hlocks hK hP hl
  have hP : va_P D vwCl [(mo, .inr (8, fs)), (aBU, .inl (Y.1, 60, .inl bu))] sG.heap := hP
  have hown : sG.vm.findClass RX9 = some mG.cls := hown
  have hl : lv_has ls 2 [(0, .ref mo), (1, .int (nI i))] := hl
  have hinX9 : ∀ w ∈ u_ws RX9 TX9 25, w ∈ wsX9_lineIn := by decide +kernel
  obtain ⟨hq1, hq2, hq3, hq4, hq5, hq6, hq7, hq8, hq9, hq10, hq11⟩ := hC.q
  obtain ⟨ja, jb, hja, hjb, htl⟩ := tx_xy hC hT hil hi4
  have htx := (tx_line hC hT hil hi4).1
  refine lv_aload_n (pc := 0) hx hb dX9_lineIn_0 rfl (lv_at hl 0 rfl) ?_
  refine lv_aload_n (pc := 1) hx hb dX9_lineIn_1 rfl (lv_at hl 0 rfl) ?_
  refine va_get (pc := 2) (D := D) (ci := 8) (v := .ref aBU) (C := RX9) (T := TX9) (N := 25) hx hb hts hinX9 hown hK.1 hP 0 rfl rfl 10 (by decide) (hts (.fieldLink RX9 26 "BoxesGameModel" "buffer" "[I") (List.mem_of_getElem? (i := 1) rfl)) (fun _ h9 => h9) hf10 dX9_lineIn_2 ?_
  refine lv_iload_n (pc := 5) hx hb dX9_lineIn_5 rfl (lv_at hl 1 rfl) ?_
  refine va_iald (pc := 6) hx hb hK.1 hP 1 0 rfl rfl (vp_in_nI (by omega) (by decide)) dX9_lineIn_6 ?_
  refine top_i (show bu (nI i).toNatClampNeg = bu i from by rw [nI_clamp (by omega)]) ?_
  refine lv_bipush (pc := 7) (v := nI 118) hx hb dX9_lineIn_7 rfl ?_
  refine lv_icmp_ne (pc := 9) (tgt := 16) hx hb dX9_lineIn_9 (by decide) (fun c9 => ?_) (fun c9 => ?_)
  · refine lv_iconst (pc := 16) (v := zb false) hx hb dX9_lineIn_16 rfl ?_
    refine lv_aload_n (pc := 17) hx hb dX9_lineIn_17 rfl (lv_at hl 0 rfl) ?_
    refine va_get (pc := 18) (D := D) (ci := 8) (v := .ref aBU) (C := RX9) (T := TX9) (N := 25) hx hb hts hinX9 hown hK.1 hP 0 rfl rfl 10 (by decide) (hts (.fieldLink RX9 26 "BoxesGameModel" "buffer" "[I") (List.mem_of_getElem? (i := 1) rfl)) (fun _ h9 => h9) hf10 dX9_lineIn_18 ?_
    refine lv_iload_n (pc := 21) hx hb dX9_lineIn_21 rfl (lv_at hl 1 rfl) ?_
    refine lv_iconst (pc := 22) (v := nI 1) hx hb dX9_lineIn_22 rfl ?_
    refine n_iadd (pc := 23) hx hb dX9_lineIn_23 ?_
    refine va_iald (pc := 24) hx hb hK.1 hP 1 0 rfl rfl (vp_in_nI (by omega) (by decide)) dX9_lineIn_24 ?_
    refine top_i (show bu (nI (i + 1)).toNatClampNeg = bu (i + 1) from by rw [nI_clamp (by omega)]) ?_
    refine lv_bipush (pc := 25) (v := nI 48) hx hb dX9_lineIn_25 rfl ?_
    refine lv_isub (pc := 27) hx hb dX9_lineIn_27 ?_
    refine top_i (show (bu (i + 1)) - (nI 48) = nI ja from hja) ?_
    refine lv_aload_n (pc := 28) hx hb dX9_lineIn_28 rfl (lv_at hl 0 rfl) ?_
    refine va_get (pc := 29) (D := D) (ci := 8) (v := .ref aBU) (C := RX9) (T := TX9) (N := 25) hx hb hts hinX9 hown hK.1 hP 0 rfl rfl 10 (by decide) (hts (.fieldLink RX9 26 "BoxesGameModel" "buffer" "[I") (List.mem_of_getElem? (i := 1) rfl)) (fun _ h9 => h9) hf10 dX9_lineIn_29 ?_
    refine lv_iload_n (pc := 32) hx hb dX9_lineIn_32 rfl (lv_at hl 1 rfl) ?_
    refine lv_iconst (pc := 33) (v := nI 2) hx hb dX9_lineIn_33 rfl ?_
    refine n_iadd (pc := 34) hx hb dX9_lineIn_34 ?_
    refine va_iald (pc := 35) hx hb hK.1 hP 1 0 rfl rfl (vp_in_nI (by omega) (by decide)) dX9_lineIn_35 ?_
    refine top_i (show bu (nI (i + 2)).toNatClampNeg = bu (i + 2) from by rw [nI_clamp (by omega)]) ?_
    refine lv_bipush (pc := 36) (v := nI 48) hx hb dX9_lineIn_36 rfl ?_
    refine lv_isub (pc := 38) hx hb dX9_lineIn_38 ?_
    refine top_i (show (bu (i + 2)) - (nI 48) = nI jb from hjb) ?_
    refine ro_go (pc := 39) (va_runV (As := [.int (zb false), .int (nI ja), .int (nI jb)]) (rest := []) ⟨hx, hb, hml, hown, hts⟩ (c_X9_numberOf l D Y mo c r fs false ja jb (hf) (hC)) (cwV 3 hts gX9_lineIn_X9_numberOf rfl rfl rfl ⟨rfl, hdX9_numberOf⟩ ⟨Nat.le_of_ble_eq_true rfl, Nat.le_of_ble_eq_true rfl⟩) (ro_pV hK (hP.sub [0] rfl) (ro_recv hK hP (ci := 8) (q0 := 0) rfl rfl)) rfl rfl hl.1 rfl (lv_room (Nat.le_of_ble_eq_true rfl)) dX9_lineIn_39 ⟨Nat.le_of_ble_eq_true rfl, Nat.le_of_ble_eq_true rfl⟩) ?_
    exact ro_iret (v := nI (numM c r false ja jb)) hx hb hr hlocks (by rw [htl, show vAt bu i = false from decide_eq_false c9]) dX9_lineIn_42
  refine lv_iconst (pc := 12) (v := zb true) hx hb dX9_lineIn_12 rfl ?_
  refine lv_goto (pc := 13) (tgt := 17) hx hb dX9_lineIn_13 (by decide) ?_
  refine lv_aload_n (pc := 17) hx hb dX9_lineIn_17 rfl (lv_at hl 0 rfl) ?_
  refine va_get (pc := 18) (D := D) (ci := 8) (v := .ref aBU) (C := RX9) (T := TX9) (N := 25) hx hb hts hinX9 hown hK.1 hP 0 rfl rfl 10 (by decide) (hts (.fieldLink RX9 26 "BoxesGameModel" "buffer" "[I") (List.mem_of_getElem? (i := 1) rfl)) (fun _ h9 => h9) hf10 dX9_lineIn_18 ?_
  refine lv_iload_n (pc := 21) hx hb dX9_lineIn_21 rfl (lv_at hl 1 rfl) ?_
  refine lv_iconst (pc := 22) (v := nI 1) hx hb dX9_lineIn_22 rfl ?_
  refine n_iadd (pc := 23) hx hb dX9_lineIn_23 ?_
  refine va_iald (pc := 24) hx hb hK.1 hP 1 0 rfl rfl (vp_in_nI (by omega) (by decide)) dX9_lineIn_24 ?_
  refine top_i (show bu (nI (i + 1)).toNatClampNeg = bu (i + 1) from by rw [nI_clamp (by omega)]) ?_
  refine lv_bipush (pc := 25) (v := nI 48) hx hb dX9_lineIn_25 rfl ?_
  refine lv_isub (pc := 27) hx hb dX9_lineIn_27 ?_
  refine top_i (show (bu (i + 1)) - (nI 48) = nI ja from hja) ?_
  refine lv_aload_n (pc := 28) hx hb dX9_lineIn_28 rfl (lv_at hl 0 rfl) ?_
  refine va_get (pc := 29) (D := D) (ci := 8) (v := .ref aBU) (C := RX9) (T := TX9) (N := 25) hx hb hts hinX9 hown hK.1 hP 0 rfl rfl 10 (by decide) (hts (.fieldLink RX9 26 "BoxesGameModel" "buffer" "[I") (List.mem_of_getElem? (i := 1) rfl)) (fun _ h9 => h9) hf10 dX9_lineIn_29 ?_
  refine lv_iload_n (pc := 32) hx hb dX9_lineIn_32 rfl (lv_at hl 1 rfl) ?_
  refine lv_iconst (pc := 33) (v := nI 2) hx hb dX9_lineIn_33 rfl ?_
  refine n_iadd (pc := 34) hx hb dX9_lineIn_34 ?_
  refine va_iald (pc := 35) hx hb hK.1 hP 1 0 rfl rfl (vp_in_nI (by omega) (by decide)) dX9_lineIn_35 ?_
  refine top_i (show bu (nI (i + 2)).toNatClampNeg = bu (i + 2) from by rw [nI_clamp (by omega)]) ?_
  refine lv_bipush (pc := 36) (v := nI 48) hx hb dX9_lineIn_36 rfl ?_
  refine lv_isub (pc := 38) hx hb dX9_lineIn_38 ?_
  refine top_i (show (bu (i + 2)) - (nI 48) = nI jb from hjb) ?_
  refine ro_go (pc := 39) (va_runV (As := [.int (zb true), .int (nI ja), .int (nI jb)]) (rest := []) ⟨hx, hb, hml, hown, hts⟩ (c_X9_numberOf l D Y mo c r fs true ja jb (hf) (hC)) (cwV 3 hts gX9_lineIn_X9_numberOf rfl rfl rfl ⟨rfl, hdX9_numberOf⟩ ⟨Nat.le_of_ble_eq_true rfl, Nat.le_of_ble_eq_true rfl⟩) (ro_pV hK (hP.sub [0] rfl) (ro_recv hK hP (ci := 8) (q0 := 0) rfl rfl)) rfl rfl hl.1 rfl (lv_room (Nat.le_of_ble_eq_true rfl)) dX9_lineIn_39 ⟨Nat.le_of_ble_eq_true rfl, Nat.le_of_ble_eq_true rfl⟩) ?_
  exact ro_iret (v := nI (numM c r true ja jb)) hx hb hr hlocks (by rw [htl, show vAt bu i = true from decide_eq_true c9]) dX9_lineIn_42

set_option maxHeartbeats 1200000 in
set_option maxRecDepth 100000 in
theorem c_X9_mayBeDrawn (l : Launch) (D : va_G) (Y : vY) (mo : Nat) (c : Nat) (r : Nat) (fs : List Value) (w : Int64) (len : Nat) (aBU : Nat) (bu : Nat → Int32) (hf : MF c r fs) (hC : Cr c r) (hf3 : fs[3]? = some (.long w)) (hf9 : fs[9]? = some (.int (nI len))) (hf10 : fs[10]? = some (.ref aBU)) (hlen : len ≤ 60) (hT : TxOK c r bu len) : Ro l yX9_mayBeDrawn wsX9_mayBeDrawn ({ frames := 3, cells := 0, slots := 0, locals := 64 } : Room) [.ref mo] D Y [(mo, .inr (8, fs)), (aBU, .inl (Y.1, 60, .inl bu))] (some (.int (zb (canT c r bu w ((len + 1) / 4))))) := by
  refine ro_intro (by decide +kernel) rfl (Nat.le_of_ble_eq_true rfl) [(0, .ref mo)] rfl ?_
  intro pG eG sG mG aG bG tG cG ls hx hb hr hml hts hown hlocks hK hP hl
  have hP : va_P D vwCl [(mo, .inr (8, fs)), (aBU, .inl (Y.1, 60, .inl bu))] sG.heap := hP
  have hown : sG.vm.findClass RX9 = some mG.cls := hown
  have hl : lv_has ls 5 [(0, .ref mo)] := hl
  have hinX9 : ∀ w ∈ u_ws RX9 TX9 25, w ∈ wsX9_mayBeDrawn := by decide +kernel
  obtain ⟨hq1, hq2, hq3, hq4, hq5, hq6, hq7, hq8, hq9, hq10, hq11⟩ := hC.q
  have hl3 := hT.1
  refine lv_aload_n (pc := 0) hx hb dX9_mayBeDrawn_0 rfl (lv_at hl 0 rfl) ?_
  refine va_get (pc := 1) (D := D) (ci := 8) (v := .long w) (C := RX9) (T := TX9) (N := 25) hx hb hts hinX9 hown hK.1 hP 0 rfl rfl 3 (by decide) (hts (.fieldLink RX9 119 "BoxesGameModel" "now" "J") (List.mem_of_getElem? (i := 1) rfl)) (fun _ h9 => h9) hf3 dX9_mayBeDrawn_1 ?_
  refine lv_lstore_n (pc := 4) (lv' := [(1, .long w), (0, .ref mo)]) hx hb dX9_mayBeDrawn_4 rfl hl (by decide) rfl (fun ls hl => ?_)
  refine lv_iconst (pc := 5) (v := zb true) hx hb dX9_mayBeDrawn_5 rfl ?_
  refine lv_istore_n (pc := 6) (lv' := [(3, .int (zb true)), (1, .long w), (0, .ref mo)]) hx hb dX9_mayBeDrawn_6 rfl hl (by decide) rfl (fun ls hl => ?_)
  refine lv_iconst (pc := 7) (v := nI 0) hx hb dX9_mayBeDrawn_7 rfl ?_
  refine lv_istore (pc := 8) (lv' := [(4, .int (nI 0)), (3, .int (zb true)), (1, .long w), (0, .ref mo)]) hx hb dX9_mayBeDrawn_8 hl (by decide) rfl (fun ls hl => ?_)
  have L10 : ∀ (n10 : Nat), ∀ (k : Nat) (i : Nat) (u : Int64) (z : Bool), (i = 4 * k) → (i ≤ len + 1) → (u = txS c r bu w k) → (z = andb (fun j => !tb (txS c r bu w j) (tlN c r bu (4 * j))) k) → len + 2 - i < n10 → ∀ (ls : Array Slot), lv_has ls 5 [(0, .ref mo), (1, .long u), (3, .int (zb z)), (4, .int (nI i))] → W pG l eG ({ frames := 3, cells := 0, slots := 0, locals := 64 } : Room) sG mG aG bG tG cG sG.heap [] 0 0 (MQ bG (RoQ (some (.int (zb (canT c r bu w ((len + 1) / 4)))))) aG sG 0 0 (fun _ => False)) (F0 mG 10 ls []) := by
    intro n10
    induction n10 with
    | zero =>
      intro k i u z hik hi hu hz9 hmeas10  ls hl
      exact absurd hmeas10 (Nat.not_lt_zero _)
    | succ n10 ih10 =>
      intro k i u z hik hi hu hz9 hmeas10  ls hl
      refine lv_iload (pc := 10) hx hb dX9_mayBeDrawn_10 (lv_at hl 3 rfl) ?_
      refine lv_aload_n (pc := 12) hx hb dX9_mayBeDrawn_12 rfl (lv_at hl 0 rfl) ?_
      refine va_get (pc := 13) (D := D) (ci := 8) (v := .int (nI len)) (C := RX9) (T := TX9) (N := 25) hx hb hts hinX9 hown hK.1 hP 0 rfl rfl 9 (by decide) (hts (.fieldLink RX9 147 "BoxesGameModel" "length" "I") (List.mem_of_getElem? (i := 2) rfl)) (fun _ h9 => h9) hf9 dX9_mayBeDrawn_13 ?_
      refine n_icmp_ge (pc := 16) (tgt := 59) hx hb (by omega) (by omega) dX9_mayBeDrawn_16 (by decide) (fun c16 => ?_) (fun c16 => ?_)
      · refine lv_iload_n (pc := 59) hx hb dX9_mayBeDrawn_59 rfl (lv_at hl 2 rfl) ?_
        exact ro_zret hx hb hr hlocks (by rw [hz9, show k = (len + 1) / 4 by omega]; rfl) dX9_mayBeDrawn_60
      obtain ⟨ht1, ht2, ht3⟩ := tx_line hC hT c16 (by omega)
      refine lv_iload_n (pc := 19) hx hb dX9_mayBeDrawn_19 rfl (lv_at hl 2 rfl) ?_
      refine z_if_eq (pc := 20) (tgt := 40) hx hb dX9_mayBeDrawn_20 (by decide) (fun c20 => ?_) (fun c20 => ?_)
      · refine lv_iconst (pc := 40) (v := zb false) hx hb dX9_mayBeDrawn_40 rfl ?_
        refine lv_istore_n (pc := 41) (lv' := [(3, .int (zb false)), (0, .ref mo), (1, .long u), (4, .int (nI i))]) hx hb dX9_mayBeDrawn_41 rfl hl (by decide) rfl (fun ls hl => ?_)
        refine lv_lload_n (pc := 42) hx hb dX9_mayBeDrawn_42 rfl (lv_at hl 2 rfl) ?_
        refine lv_lconst (pc := 43) (v := 1) hx hb dX9_mayBeDrawn_43 (by decide) ?_
        refine lv_aload_n (pc := 44) hx hb dX9_mayBeDrawn_44 rfl (lv_at hl 1 rfl) ?_
        refine lv_iload (pc := 45) hx hb dX9_mayBeDrawn_45 (lv_at hl 3 rfl) ?_
        refine ro_go (pc := 47) (va_runV (As := [.int (nI i)]) (rest := [.long (1 : Int64), .long u]) ⟨hx, hb, hml, hown, hts⟩ (c_X9_lineIn l D Y mo c r fs aBU i bu len (hf) (hC) (hf10) (hlen) (hT) (c16) (by omega)) (cwV 1 hts gX9_mayBeDrawn_X9_lineIn rfl rfl rfl ⟨rfl, hdX9_lineIn⟩ ⟨Nat.le_of_ble_eq_true rfl, Nat.le_of_ble_eq_true rfl⟩) (ro_pV hK hP (ro_recv hK hP (ci := 8) (q0 := 0) rfl rfl)) rfl rfl hl.1 rfl (lv_room (Nat.le_of_ble_eq_true rfl)) dX9_mayBeDrawn_47 ⟨Nat.le_of_ble_eq_true rfl, Nat.le_of_ble_eq_true rfl⟩) ?_
        refine lv_lshl (pc := 50) (v := b1 (tlN c r bu i)) hx hb dX9_mayBeDrawn_50 (b1_shl _ (by omega)) ?_
        refine lv_lor (pc := 51) hx hb dX9_mayBeDrawn_51 ?_
        refine lv_lstore_n (pc := 52) (lv' := [(1, .long (u ||| (b1 (tlN c r bu i)))), (3, .int (zb false)), (0, .ref mo), (4, .int (nI i))]) hx hb dX9_mayBeDrawn_52 rfl hl (by decide) rfl (fun ls hl => ?_)
        refine lv_iinc (pc := 53) (v := nI (i + 4)) (lv' := [(4, .int (nI (i + 4))), (1, .long (u ||| (b1 (tlN c r bu i)))), (3, .int (zb false)), (0, .ref mo)]) hx hb dX9_mayBeDrawn_53 hl (k := 3) rfl (n_inc i 4) (by decide) rfl (fun ls hl => ?_)
        refine lv_goto (pc := 56) (tgt := 10) hx hb dX9_mayBeDrawn_56 (by decide) ?_
        exact ih10 (k + 1) (i + 4) (u ||| (b1 (tlN c r bu i))) false (by first | assumption | omega) (by first | assumption | omega) (by rw [hu, hik]; rfl) (by rw [andb, ← hz9, c20]; rfl) (by omega) _ (lv_sub hl [3, 1, 2, 0] rfl)
      refine lv_lload_n (pc := 23) hx hb dX9_mayBeDrawn_23 rfl (lv_at hl 1 rfl) ?_
      refine lv_aload_n (pc := 24) hx hb dX9_mayBeDrawn_24 rfl (lv_at hl 0 rfl) ?_
      refine lv_iload (pc := 25) hx hb dX9_mayBeDrawn_25 (lv_at hl 3 rfl) ?_
      refine ro_go (pc := 27) (va_runV (As := [.int (nI i)]) (rest := [.long u]) ⟨hx, hb, hml, hown, hts⟩ (c_X9_lineIn l D Y mo c r fs aBU i bu len (hf) (hC) (hf10) (hlen) (hT) (c16) (by omega)) (cwV 1 hts gX9_mayBeDrawn_X9_lineIn rfl rfl rfl ⟨rfl, hdX9_lineIn⟩ ⟨Nat.le_of_ble_eq_true rfl, Nat.le_of_ble_eq_true rfl⟩) (ro_pV hK hP (ro_recv hK hP (ci := 8) (q0 := 0) rfl rfl)) rfl rfl hl.1 rfl (lv_room (Nat.le_of_ble_eq_true rfl)) dX9_mayBeDrawn_27 ⟨Nat.le_of_ble_eq_true rfl, Nat.le_of_ble_eq_true rfl⟩) ?_
      refine ro_go (pc := 30) (va_runS (As := [.long u, .int (nI (tlN c r bu i))]) (rest := []) ⟨hx, hb, hml, hown, hts⟩ (c_X9_has l D Y u (tlN c r bu i) (by omega)) (va_cwS 2 hts gX9_mayBeDrawn_X9_has rfl rfl rfl hdX9_has ⟨Nat.le_of_ble_eq_true rfl, Nat.le_of_ble_eq_true rfl⟩) (ro_pS hK (hP.sub [] rfl)) rfl rfl hl.1 rfl (lv_room (Nat.le_of_ble_eq_true rfl)) dX9_mayBeDrawn_30 ⟨Nat.le_of_ble_eq_true rfl, Nat.le_of_ble_eq_true rfl⟩) ?_
      refine z_if_ne (pc := 33) (tgt := 40) hx hb dX9_mayBeDrawn_33 (by decide) (fun c33 => ?_) (fun c33 => ?_)
      · refine lv_iconst (pc := 40) (v := zb false) hx hb dX9_mayBeDrawn_40 rfl ?_
        refine lv_istore_n (pc := 41) (lv' := [(3, .int (zb false)), (0, .ref mo), (1, .long u), (4, .int (nI i))]) hx hb dX9_mayBeDrawn_41 rfl hl (by decide) rfl (fun ls hl => ?_)
        refine lv_lload_n (pc := 42) hx hb dX9_mayBeDrawn_42 rfl (lv_at hl 2 rfl) ?_
        refine lv_lconst (pc := 43) (v := 1) hx hb dX9_mayBeDrawn_43 (by decide) ?_
        refine lv_aload_n (pc := 44) hx hb dX9_mayBeDrawn_44 rfl (lv_at hl 1 rfl) ?_
        refine lv_iload (pc := 45) hx hb dX9_mayBeDrawn_45 (lv_at hl 3 rfl) ?_
        refine ro_go (pc := 47) (va_runV (As := [.int (nI i)]) (rest := [.long (1 : Int64), .long u]) ⟨hx, hb, hml, hown, hts⟩ (c_X9_lineIn l D Y mo c r fs aBU i bu len (hf) (hC) (hf10) (hlen) (hT) (c16) (by omega)) (cwV 1 hts gX9_mayBeDrawn_X9_lineIn rfl rfl rfl ⟨rfl, hdX9_lineIn⟩ ⟨Nat.le_of_ble_eq_true rfl, Nat.le_of_ble_eq_true rfl⟩) (ro_pV hK hP (ro_recv hK hP (ci := 8) (q0 := 0) rfl rfl)) rfl rfl hl.1 rfl (lv_room (Nat.le_of_ble_eq_true rfl)) dX9_mayBeDrawn_47 ⟨Nat.le_of_ble_eq_true rfl, Nat.le_of_ble_eq_true rfl⟩) ?_
        refine lv_lshl (pc := 50) (v := b1 (tlN c r bu i)) hx hb dX9_mayBeDrawn_50 (b1_shl _ (by omega)) ?_
        refine lv_lor (pc := 51) hx hb dX9_mayBeDrawn_51 ?_
        refine lv_lstore_n (pc := 52) (lv' := [(1, .long (u ||| (b1 (tlN c r bu i)))), (3, .int (zb false)), (0, .ref mo), (4, .int (nI i))]) hx hb dX9_mayBeDrawn_52 rfl hl (by decide) rfl (fun ls hl => ?_)
        refine lv_iinc (pc := 53) (v := nI (i + 4)) (lv' := [(4, .int (nI (i + 4))), (1, .long (u ||| (b1 (tlN c r bu i)))), (3, .int (zb false)), (0, .ref mo)]) hx hb dX9_mayBeDrawn_53 hl (k := 3) rfl (n_inc i 4) (by decide) rfl (fun ls hl => ?_)
        refine lv_goto (pc := 56) (tgt := 10) hx hb dX9_mayBeDrawn_56 (by decide) ?_
        exact ih10 (k + 1) (i + 4) (u ||| (b1 (tlN c r bu i))) false (by first | assumption | omega) (by first | assumption | omega) (by rw [hu, hik]; rfl) (by rw [andb, ← hz9, c20, ← hu, ← hik, c33]; rfl) (by omega) _ (lv_sub hl [3, 1, 2, 0] rfl)
      refine lv_iconst (pc := 36) (v := zb true) hx hb dX9_mayBeDrawn_36 rfl ?_
      refine lv_goto (pc := 37) (tgt := 41) hx hb dX9_mayBeDrawn_37 (by decide) ?_
      refine lv_istore_n (pc := 41) (lv' := [(3, .int (zb true)), (0, .ref mo), (1, .long u), (4, .int (nI i))]) hx hb dX9_mayBeDrawn_41 rfl hl (by decide) rfl (fun ls hl => ?_)
      refine lv_lload_n (pc := 42) hx hb dX9_mayBeDrawn_42 rfl (lv_at hl 2 rfl) ?_
      refine lv_lconst (pc := 43) (v := 1) hx hb dX9_mayBeDrawn_43 (by decide) ?_
      refine lv_aload_n (pc := 44) hx hb dX9_mayBeDrawn_44 rfl (lv_at hl 1 rfl) ?_
      refine lv_iload (pc := 45) hx hb dX9_mayBeDrawn_45 (lv_at hl 3 rfl) ?_
      refine ro_go (pc := 47) (va_runV (As := [.int (nI i)]) (rest := [.long (1 : Int64), .long u]) ⟨hx, hb, hml, hown, hts⟩ (c_X9_lineIn l D Y mo c r fs aBU i bu len (hf) (hC) (hf10) (hlen) (hT) (c16) (by omega)) (cwV 1 hts gX9_mayBeDrawn_X9_lineIn rfl rfl rfl ⟨rfl, hdX9_lineIn⟩ ⟨Nat.le_of_ble_eq_true rfl, Nat.le_of_ble_eq_true rfl⟩) (ro_pV hK hP (ro_recv hK hP (ci := 8) (q0 := 0) rfl rfl)) rfl rfl hl.1 rfl (lv_room (Nat.le_of_ble_eq_true rfl)) dX9_mayBeDrawn_47 ⟨Nat.le_of_ble_eq_true rfl, Nat.le_of_ble_eq_true rfl⟩) ?_
      refine lv_lshl (pc := 50) (v := b1 (tlN c r bu i)) hx hb dX9_mayBeDrawn_50 (b1_shl _ (by omega)) ?_
      refine lv_lor (pc := 51) hx hb dX9_mayBeDrawn_51 ?_
      refine lv_lstore_n (pc := 52) (lv' := [(1, .long (u ||| (b1 (tlN c r bu i)))), (3, .int (zb true)), (0, .ref mo), (4, .int (nI i))]) hx hb dX9_mayBeDrawn_52 rfl hl (by decide) rfl (fun ls hl => ?_)
      refine lv_iinc (pc := 53) (v := nI (i + 4)) (lv' := [(4, .int (nI (i + 4))), (1, .long (u ||| (b1 (tlN c r bu i)))), (3, .int (zb true)), (0, .ref mo)]) hx hb dX9_mayBeDrawn_53 hl (k := 3) rfl (n_inc i 4) (by decide) rfl (fun ls hl => ?_)
      refine lv_goto (pc := 56) (tgt := 10) hx hb dX9_mayBeDrawn_56 (by decide) ?_
      exact ih10 (k + 1) (i + 4) (u ||| (b1 (tlN c r bu i))) true (by first | assumption | omega) (by first | assumption | omega) (by rw [hu, hik]; rfl) (by rw [andb, ← hz9, c20, ← hu, ← hik, c33]; rfl) (by omega) _ (lv_sub hl [3, 1, 2, 0] rfl)
  exact L10 ((len + 2 - 0) + 1) 0 0 w true (by first | assumption | omega) (by first | assumption | omega) (rfl) (rfl) (Nat.lt_succ_self _) _ (lv_sub hl [3, 2, 1, 0] rfl)

set_option maxHeartbeats 1200000 in
set_option maxRecDepth 100000 in
theorem c_X9_load (l : Launch) (D : va_G) (Y : vY) (mo : Nat) (th : Int32) (c : Nat) (r : Nat) (w : Int64) (pl : Nat) (n : Nat) (aML : Nat) (aMR : Nat) (aOW : Nat) (len : Nat) (aBU : Nat) (sn : Int32) (aSA : Nat) (aSZ : Nat) (aLP : Nat) (aOP : Nat) (aFT : Nat) (od : Int32) (aOL : Nat) (aRS : Nat) (aCD : Nat) (pw : Int64) (pb : Int32) (ah : Int32) (hs : Int64) (ms : Nat → Nat) (ml : Nat → Int32) (mr : Nat → Int32) (ow : Nat → Int32) (bu : Nat → Int32) (hC : Cr c r) (hM : MoR c r ms n w pl ml mr ow) (hlen : len ≤ 60) : Mu l yX9_load wsX9_load ({ frames := 6, cells := 0, slots := 0, locals := 142 } : Room) [.ref mo] D Y [(mo, .inr (8, [.int th, .int (nI c), .int (nI r), .long w, .int (nI pl), .int (nI n), .ref aML, .ref aMR, .ref aOW, .int (nI len), .ref aBU, .int sn, .ref aSA, .ref aSZ, .ref aLP, .ref aOP, .ref aFT, .int od, .ref aOL, .ref aRS, .ref aCD, .long pw, .int pb, .int ah, .long hs])), (aML, .inl (Y.1, 40, .inl ml)), (aMR, .inl (Y.1, 40, .inl mr)), (aOW, .inl (Y.1, 16, .inl ow)), (aBU, .inl (Y.1, 60, .inl bu))] (fun uS : Int32 × Int32 × Int64 × Nat × Nat × Nat × (Nat → Int32) × (Nat → Int32) × (Nat → Int32) => some (.int uS.2.1)) (fun uS : Int32 × Int32 × Int64 × Nat × Nat × Nat × (Nat → Int32) × (Nat → Int32) × (Nat → Int32) => [(mo, .inr (8, [.int uS.1, .int (nI c), .int (nI r), .long uS.2.2.1, .int (nI uS.2.2.2.1), .int (nI uS.2.2.2.2.1), .ref aML, .ref aMR, .ref aOW, .int (nI uS.2.2.2.2.2.1), .ref aBU, .int sn, .ref aSA, .ref aSZ, .ref aLP, .ref aOP, .ref aFT, .int od, .ref aOL, .ref aRS, .ref aCD, .long pw, .int pb, .int ah, .long hs])), (aML, .inl (Y.1, 40, .inl uS.2.2.2.2.2.2.1)), (aMR, .inl (Y.1, 40, .inl uS.2.2.2.2.2.2.2.1)), (aOW, .inl (Y.1, 16, .inl uS.2.2.2.2.2.2.2.2)), (aBU, .inl (Y.1, 60, .inl bu))]) (fun uS : Int32 × Int32 × Int64 × Nat × Nat × Nat × (Nat → Int32) × (Nat → Int32) × (Nat → Int32) => RvP (kD2 (cmpT c r bu len) (canT c r bu w ((len + 1) / 4))) uS.1 uS.2.1 (nI (ldG c r bu w ((len + 1) / 4))) ∧ ((kD2 (cmpT c r bu len) (canT c r bu w ((len + 1) / 4))) = 0 → uS.2.2.2.2.1 = n + ((len + 1) / 4) ∧ uS.2.2.2.2.2.1 = 0 ∧ MoR c r (ldM c r bu ms n ((len + 1) / 4)) uS.2.2.2.2.1 uS.2.2.1 uS.2.2.2.1 uS.2.2.2.2.2.2.1 uS.2.2.2.2.2.2.2.1 uS.2.2.2.2.2.2.2.2) ∧ (¬ (kD2 (cmpT c r bu len) (canT c r bu w ((len + 1) / 4))) = 0 → uS.2.2.2.2.1 = n ∧ uS.2.2.2.2.2.1 = len ∧ MoR c r ms uS.2.2.2.2.1 uS.2.2.1 uS.2.2.2.1 uS.2.2.2.2.2.2.1 uS.2.2.2.2.2.2.2.1 uS.2.2.2.2.2.2.2.2)) := by
  refine mu_intro (by decide +kernel) rfl (Nat.le_of_ble_eq_true rfl) [(0, .ref mo)] rfl ?_
  intro pG eG sG mG aG bG tG cG ls hx hb hr hml hts hown hlocks hK hP hD hS hl
  generalize hAA : adA [(mo, .inr (8, [.int th, .int (nI c), .int (nI r), .long w, .int (nI pl), .int (nI n), .ref aML, .ref aMR, .ref aOW, .int (nI len), .ref aBU, .int sn, .ref aSA, .ref aSZ, .ref aLP, .ref aOP, .ref aFT, .int od, .ref aOL, .ref aRS, .ref aCD, .long pw, .int pb, .int ah, .long hs])), (aML, .inl (Y.1, 40, .inl ml)), (aMR, .inl (Y.1, 40, .inl mr)), (aOW, .inl (Y.1, 16, .inl ow)), (aBU, .inl (Y.1, 60, .inl bu))] = AA at hD hS ⊢
  have hP : va_P D vwCl [(mo, .inr (8, [.int th, .int (nI c), .int (nI r), .long w, .int (nI pl), .int (nI n), .ref aML, .ref aMR, .ref aOW, .int (nI len), .ref aBU, .int sn, .ref aSA, .ref aSZ, .ref aLP, .ref aOP, .ref aFT, .int od, .ref aOL, .ref aRS, .ref aCD, .long pw, .int pb, .int ah, .long hs])), (aML, .inl (Y.1, 40, .inl ml)), (aMR, .inl (Y.1, 40, .inl mr)), (aOW, .inl (Y.1, 16, .inl ow)), (aBU, .inl (Y.1, 60, .inl bu))] sG.heap := hP
  have hD : va_D AA [(mo, .inr (8, [.int th, .int (nI c), .int (nI r), .long w, .int (nI pl), .int (nI n), .ref aML, .ref aMR, .ref aOW, .int (nI len), .ref aBU, .int sn, .ref aSA, .ref aSZ, .ref aLP, .ref aOP, .ref aFT, .int od, .ref aOL, .ref aRS, .ref aCD, .long pw, .int pb, .int ah, .long hs])), (aML, .inl (Y.1, 40, .inl ml)), (aMR, .inl (Y.1, 40, .inl mr)), (aOW, .inl (Y.1, 16, .inl ow)), (aBU, .inl (Y.1, 60, .inl bu))] := hD
  have hown : sG.vm.findClass RX9 = some mG.cls := hown
  have hl : lv_has ls 4 [(0, .ref mo)] := hl
  have hinX9 : ∀ w ∈ u_ws RX9 TX9 25, w ∈ wsX9_load := by decide +kernel
  have hS : va_S AA sG.heap sG.heap [] := hS
  obtain ⟨hq1, hq2, hq3, hq4, hq5, hq6, hq7, hq8, hq9, hq10, hq11⟩ := hC.q
  have hhu := hM.1.hund hC
  have hpl1 := hM.1.pl1
  have hn40 := hM.1.n40 hC
  have hob := hM.1.onb hC
  have hfe := fa_first_le (fun i => !okAt c r bu i) len
  refine lv_aload_n (pc := 0) hx hb dX9_load_0 rfl (lv_at hl 0 rfl) ?_
  refine ro_go (pc := 1) (va_runV (As := []) (rest := []) ⟨hx, hb, hml, hown, hts⟩ (c_X9_rightLength l D Y mo c r ([.int th, .int (nI c), .int (nI r), .long w, .int (nI pl), .int (nI n), .ref aML, .ref aMR, .ref aOW, .int (nI len), .ref aBU, .int sn, .ref aSA, .ref aSZ, .ref aLP, .ref aOP, .ref aFT, .int od, .ref aOL, .ref aRS, .ref aCD, .long pw, .int pb, .int ah, .long hs]) len aBU bu (by first | assumption | exact ⟨rfl, rfl⟩) (hC) (by first | assumption | rfl) (by first | assumption | rfl) (hlen)) (cwV 0 hts gX9_load_X9_rightLength rfl rfl rfl ⟨rfl, hdX9_rightLength⟩ ⟨Nat.le_of_ble_eq_true rfl, Nat.le_of_ble_eq_true rfl⟩) (ro_pV hK (hP.sub [0, 4] rfl) (ro_recv hK hP (ci := 8) (q0 := 0) rfl rfl)) rfl rfl hl.1 rfl (lv_room (Nat.le_of_ble_eq_true rfl)) dX9_load_1 ⟨Nat.le_of_ble_eq_true rfl, Nat.le_of_ble_eq_true rfl⟩) ?_
  refine lv_aload_n (pc := 4) hx hb dX9_load_4 rfl (lv_at hl 0 rfl) ?_
  refine va_get (pc := 5) (D := D) (ci := 8) (v := .int (nI len)) (C := RX9) (T := TX9) (N := 25) hx hb hts hinX9 hown hK.1 hP 0 rfl rfl 9 (by decide) (hts (.fieldLink RX9 147 "BoxesGameModel" "length" "I") (List.mem_of_getElem? (i := 1) rfl)) (fun _ h9 => h9) rfl dX9_load_5 ?_
  refine n_icmp_ne (pc := 8) (tgt := 25) hx hb (by unfold ferr; omega) (by omega) dX9_load_8 (by decide) (fun c8 => ?_) (fun c8 => ?_)
  · refine lv_iconst (pc := 25) (v := zb false) hx hb dX9_load_25 rfl ?_
    refine lv_istore_n (pc := 26) (lv' := [(1, .int (zb false)), (0, .ref mo)]) hx hb dX9_load_26 rfl hl (by decide) rfl (fun ls hl => ?_)
    refine lv_aload_n (pc := 27) hx hb dX9_load_27 rfl (lv_at hl 1 rfl) ?_
    refine lv_iload_n (pc := 28) hx hb dX9_load_28 rfl (lv_at hl 0 rfl) ?_
    refine z_if_ne (pc := 29) (tgt := 36) hx hb dX9_load_29 (by decide) (fun c29 => ?_) (fun c29 => ?_)
    · exact absurd c29 (by decide)
    refine lv_iconst (pc := 32) (v := nI 1) hx hb dX9_load_32 rfl ?_
    refine lv_goto (pc := 33) (tgt := 48) hx hb dX9_load_33 (by decide) ?_
    refine va_put (pc := 48) (D := D) (ci := 8) (v := .int (nI 1)) (ty := .int) (C := RX9) (T := TX9) (N := 25) hx hb hts hinX9 tyX9 tyX9_ok nmX9 hown hK.1 hP hD hS 0 rfl rfl 0 (by decide) (hts (.fieldLink RX9 59 "BoxesGameModel" "thrown" "I") (List.mem_of_getElem? (i := 2) rfl)) (fun _ h9 => h9) rfl (by decide +kernel) (rfl) (rfl) (Nat.le_of_ble_eq_true rfl) dX9_load_48 (fun H locs hP hD hS => ?_)
    have hP : va_P D vwCl [(mo, .inr (8, [.int (nI 1), .int (nI c), .int (nI r), .long w, .int (nI pl), .int (nI n), .ref aML, .ref aMR, .ref aOW, .int (nI len), .ref aBU, .int sn, .ref aSA, .ref aSZ, .ref aLP, .ref aOP, .ref aFT, .int od, .ref aOL, .ref aRS, .ref aCD, .long pw, .int pb, .int ah, .long hs])), (aML, .inl (Y.1, 40, .inl ml)), (aMR, .inl (Y.1, 40, .inl mr)), (aOW, .inl (Y.1, 16, .inl ow)), (aBU, .inl (Y.1, 60, .inl bu))] H := hP
    have hD : va_D AA [(mo, .inr (8, [.int (nI 1), .int (nI c), .int (nI r), .long w, .int (nI pl), .int (nI n), .ref aML, .ref aMR, .ref aOW, .int (nI len), .ref aBU, .int sn, .ref aSA, .ref aSZ, .ref aLP, .ref aOP, .ref aFT, .int od, .ref aOL, .ref aRS, .ref aCD, .long pw, .int pb, .int ah, .long hs])), (aML, .inl (Y.1, 40, .inl ml)), (aMR, .inl (Y.1, 40, .inl mr)), (aOW, .inl (Y.1, 16, .inl ow)), (aBU, .inl (Y.1, 60, .inl bu))] := hD
    refine lv_aload_n (pc := 51) hx hb dX9_load_51 rfl (lv_at hl 1 rfl) ?_
    refine va_get (pc := 52) (D := D) (ci := 8) (v := .int (nI 1)) (C := RX9) (T := TX9) (N := 25) hx hb hts hinX9 hown hK.1 hP 0 rfl rfl 0 (by decide) (hts (.fieldLink RX9 59 "BoxesGameModel" "thrown" "I") (List.mem_of_getElem? (i := 2) rfl)) (fun _ h9 => h9) rfl dX9_load_52 ?_
    refine n_if_le (pc := 55) (tgt := 60) hx hb (by omega) dX9_load_55 (by decide) (fun c55 => ?_) (fun c55 => ?_)
    · exact absurd c55 (by decide)
    refine lv_iconst (pc := 58) (v := nI 0) hx hb dX9_load_58 rfl ?_
    subst hAA
    exact mu_iret hx hb hr hlocks hP hS (⟨_, _, _, _, _, _, _, _, _⟩) (rfl) (⟨RvP.no (kD2_1 (by unfold cmpT; rw [decide_eq_false c8, Bool.and_false])) (by decide), fun z => absurd z (kd_no (kD2_1 (by unfold cmpT; rw [decide_eq_false c8, Bool.and_false])) (by decide)), fun _ => ⟨rfl, rfl, hM⟩⟩) (rfl) dX9_load_59
  refine lv_aload_n (pc := 11) hx hb dX9_load_11 rfl (lv_at hl 0 rfl) ?_
  refine va_get (pc := 12) (D := D) (ci := 8) (v := .int (nI len)) (C := RX9) (T := TX9) (N := 25) hx hb hts hinX9 hown hK.1 hP 0 rfl rfl 9 (by decide) (hts (.fieldLink RX9 147 "BoxesGameModel" "length" "I") (List.mem_of_getElem? (i := 1) rfl)) (fun _ h9 => h9) rfl dX9_load_12 ?_
  refine lv_iconst (pc := 15) (v := nI 4) hx hb dX9_load_15 rfl ?_
  refine n_irem (pc := 16) hx hb (by omega) (by omega) (by omega) dX9_load_16 ?_
  refine lv_iconst (pc := 17) (v := nI 3) hx hb dX9_load_17 rfl ?_
  refine n_icmp_ne (pc := 18) (tgt := 25) hx hb (by omega) (by omega) dX9_load_18 (by decide) (fun c18 => ?_) (fun c18 => ?_)
  · refine lv_iconst (pc := 25) (v := zb false) hx hb dX9_load_25 rfl ?_
    refine lv_istore_n (pc := 26) (lv' := [(1, .int (zb false)), (0, .ref mo)]) hx hb dX9_load_26 rfl hl (by decide) rfl (fun ls hl => ?_)
    refine lv_aload_n (pc := 27) hx hb dX9_load_27 rfl (lv_at hl 1 rfl) ?_
    refine lv_iload_n (pc := 28) hx hb dX9_load_28 rfl (lv_at hl 0 rfl) ?_
    refine z_if_ne (pc := 29) (tgt := 36) hx hb dX9_load_29 (by decide) (fun c29 => ?_) (fun c29 => ?_)
    · exact absurd c29 (by decide)
    refine lv_iconst (pc := 32) (v := nI 1) hx hb dX9_load_32 rfl ?_
    refine lv_goto (pc := 33) (tgt := 48) hx hb dX9_load_33 (by decide) ?_
    refine va_put (pc := 48) (D := D) (ci := 8) (v := .int (nI 1)) (ty := .int) (C := RX9) (T := TX9) (N := 25) hx hb hts hinX9 tyX9 tyX9_ok nmX9 hown hK.1 hP hD hS 0 rfl rfl 0 (by decide) (hts (.fieldLink RX9 59 "BoxesGameModel" "thrown" "I") (List.mem_of_getElem? (i := 2) rfl)) (fun _ h9 => h9) rfl (by decide +kernel) (rfl) (rfl) (Nat.le_of_ble_eq_true rfl) dX9_load_48 (fun H locs hP hD hS => ?_)
    have hP : va_P D vwCl [(mo, .inr (8, [.int (nI 1), .int (nI c), .int (nI r), .long w, .int (nI pl), .int (nI n), .ref aML, .ref aMR, .ref aOW, .int (nI len), .ref aBU, .int sn, .ref aSA, .ref aSZ, .ref aLP, .ref aOP, .ref aFT, .int od, .ref aOL, .ref aRS, .ref aCD, .long pw, .int pb, .int ah, .long hs])), (aML, .inl (Y.1, 40, .inl ml)), (aMR, .inl (Y.1, 40, .inl mr)), (aOW, .inl (Y.1, 16, .inl ow)), (aBU, .inl (Y.1, 60, .inl bu))] H := hP
    have hD : va_D AA [(mo, .inr (8, [.int (nI 1), .int (nI c), .int (nI r), .long w, .int (nI pl), .int (nI n), .ref aML, .ref aMR, .ref aOW, .int (nI len), .ref aBU, .int sn, .ref aSA, .ref aSZ, .ref aLP, .ref aOP, .ref aFT, .int od, .ref aOL, .ref aRS, .ref aCD, .long pw, .int pb, .int ah, .long hs])), (aML, .inl (Y.1, 40, .inl ml)), (aMR, .inl (Y.1, 40, .inl mr)), (aOW, .inl (Y.1, 16, .inl ow)), (aBU, .inl (Y.1, 60, .inl bu))] := hD
    refine lv_aload_n (pc := 51) hx hb dX9_load_51 rfl (lv_at hl 1 rfl) ?_
    refine va_get (pc := 52) (D := D) (ci := 8) (v := .int (nI 1)) (C := RX9) (T := TX9) (N := 25) hx hb hts hinX9 hown hK.1 hP 0 rfl rfl 0 (by decide) (hts (.fieldLink RX9 59 "BoxesGameModel" "thrown" "I") (List.mem_of_getElem? (i := 2) rfl)) (fun _ h9 => h9) rfl dX9_load_52 ?_
    refine n_if_le (pc := 55) (tgt := 60) hx hb (by omega) dX9_load_55 (by decide) (fun c55 => ?_) (fun c55 => ?_)
    · exact absurd c55 (by decide)
    refine lv_iconst (pc := 58) (v := nI 0) hx hb dX9_load_58 rfl ?_
    subst hAA
    exact mu_iret hx hb hr hlocks hP hS (⟨_, _, _, _, _, _, _, _, _⟩) (rfl) (⟨RvP.no (kD2_1 (by unfold cmpT; rw [decide_eq_false c18]; rfl)) (by decide), fun z => absurd z (kd_no (kD2_1 (by unfold cmpT; rw [decide_eq_false c18]; rfl)) (by decide)), fun _ => ⟨rfl, rfl, hM⟩⟩) (rfl) dX9_load_59
  refine lv_iconst (pc := 21) (v := zb true) hx hb dX9_load_21 rfl ?_
  refine lv_goto (pc := 22) (tgt := 26) hx hb dX9_load_22 (by decide) ?_
  refine lv_istore_n (pc := 26) (lv' := [(1, .int (zb true)), (0, .ref mo)]) hx hb dX9_load_26 rfl hl (by decide) rfl (fun ls hl => ?_)
  refine lv_aload_n (pc := 27) hx hb dX9_load_27 rfl (lv_at hl 1 rfl) ?_
  refine lv_iload_n (pc := 28) hx hb dX9_load_28 rfl (lv_at hl 0 rfl) ?_
  refine z_if_ne (pc := 29) (tgt := 36) hx hb dX9_load_29 (by decide) (fun c29 => ?_) (fun c29 => ?_)
  · have hcm : cmpT c r bu len = true := by unfold cmpT; rw [decide_eq_true c8, decide_eq_true c18]; rfl
    have hT := cmpT_ok hcm
    have hl3 := hT.1
    refine lv_aload_n (pc := 36) hx hb dX9_load_36 rfl (lv_at hl 1 rfl) ?_
    refine ro_go (pc := 37) (va_runV (As := []) (rest := [.ref mo]) ⟨hx, hb, hml, hown, hts⟩ (c_X9_mayBeDrawn l D Y mo c r ([.int th, .int (nI c), .int (nI r), .long w, .int (nI pl), .int (nI n), .ref aML, .ref aMR, .ref aOW, .int (nI len), .ref aBU, .int sn, .ref aSA, .ref aSZ, .ref aLP, .ref aOP, .ref aFT, .int od, .ref aOL, .ref aRS, .ref aCD, .long pw, .int pb, .int ah, .long hs]) w len aBU bu (by first | assumption | exact ⟨rfl, rfl⟩) (hC) (by first | assumption | rfl) (by first | assumption | rfl) (by first | assumption | rfl) (hlen) (hT)) (cwV 0 hts gX9_load_X9_mayBeDrawn rfl rfl rfl ⟨rfl, hdX9_mayBeDrawn⟩ ⟨Nat.le_of_ble_eq_true rfl, Nat.le_of_ble_eq_true rfl⟩) (ro_pV hK (hP.sub [0, 4] rfl) (ro_recv hK hP (ci := 8) (q0 := 0) rfl rfl)) rfl rfl hl.1 rfl (lv_room (Nat.le_of_ble_eq_true rfl)) dX9_load_37 ⟨Nat.le_of_ble_eq_true rfl, Nat.le_of_ble_eq_true rfl⟩) ?_
    refine z_if_eq (pc := 40) (tgt := 47) hx hb dX9_load_40 (by decide) (fun c40 => ?_) (fun c40 => ?_)
    · refine lv_iconst (pc := 47) (v := nI 2) hx hb dX9_load_47 rfl ?_
      refine va_put (pc := 48) (D := D) (ci := 8) (v := .int (nI 2)) (ty := .int) (C := RX9) (T := TX9) (N := 25) hx hb hts hinX9 tyX9 tyX9_ok nmX9 hown hK.1 hP hD hS 0 rfl rfl 0 (by decide) (hts (.fieldLink RX9 59 "BoxesGameModel" "thrown" "I") (List.mem_of_getElem? (i := 2) rfl)) (fun _ h9 => h9) rfl (by decide +kernel) (rfl) (rfl) (Nat.le_of_ble_eq_true rfl) dX9_load_48 (fun H locs hP hD hS => ?_)
      have hP : va_P D vwCl [(mo, .inr (8, [.int (nI 2), .int (nI c), .int (nI r), .long w, .int (nI pl), .int (nI n), .ref aML, .ref aMR, .ref aOW, .int (nI len), .ref aBU, .int sn, .ref aSA, .ref aSZ, .ref aLP, .ref aOP, .ref aFT, .int od, .ref aOL, .ref aRS, .ref aCD, .long pw, .int pb, .int ah, .long hs])), (aML, .inl (Y.1, 40, .inl ml)), (aMR, .inl (Y.1, 40, .inl mr)), (aOW, .inl (Y.1, 16, .inl ow)), (aBU, .inl (Y.1, 60, .inl bu))] H := hP
      have hD : va_D AA [(mo, .inr (8, [.int (nI 2), .int (nI c), .int (nI r), .long w, .int (nI pl), .int (nI n), .ref aML, .ref aMR, .ref aOW, .int (nI len), .ref aBU, .int sn, .ref aSA, .ref aSZ, .ref aLP, .ref aOP, .ref aFT, .int od, .ref aOL, .ref aRS, .ref aCD, .long pw, .int pb, .int ah, .long hs])), (aML, .inl (Y.1, 40, .inl ml)), (aMR, .inl (Y.1, 40, .inl mr)), (aOW, .inl (Y.1, 16, .inl ow)), (aBU, .inl (Y.1, 60, .inl bu))] := hD
      refine lv_aload_n (pc := 51) hx hb dX9_load_51 rfl (lv_at hl 1 rfl) ?_
      refine va_get (pc := 52) (D := D) (ci := 8) (v := .int (nI 2)) (C := RX9) (T := TX9) (N := 25) hx hb hts hinX9 hown hK.1 hP 0 rfl rfl 0 (by decide) (hts (.fieldLink RX9 59 "BoxesGameModel" "thrown" "I") (List.mem_of_getElem? (i := 2) rfl)) (fun _ h9 => h9) rfl dX9_load_52 ?_
      refine n_if_le (pc := 55) (tgt := 60) hx hb (by omega) dX9_load_55 (by decide) (fun c55 => ?_) (fun c55 => ?_)
      · exact absurd c55 (by decide)
      refine lv_iconst (pc := 58) (v := nI 0) hx hb dX9_load_58 rfl ?_
      subst hAA
      exact mu_iret hx hb hr hlocks hP hS (⟨_, _, _, _, _, _, _, _, _⟩) (rfl) (⟨RvP.no (kD2_2 hcm c40) (by decide), fun z => absurd z (kd_no (kD2_2 hcm c40) (by decide)), fun _ => ⟨rfl, rfl, hM⟩⟩) (rfl) dX9_load_59
    refine lv_iconst (pc := 43) (v := nI 0) hx hb dX9_load_43 rfl ?_
    refine lv_goto (pc := 44) (tgt := 48) hx hb dX9_load_44 (by decide) ?_
    refine va_put (pc := 48) (D := D) (ci := 8) (v := .int (nI 0)) (ty := .int) (C := RX9) (T := TX9) (N := 25) hx hb hts hinX9 tyX9 tyX9_ok nmX9 hown hK.1 hP hD hS 0 rfl rfl 0 (by decide) (hts (.fieldLink RX9 59 "BoxesGameModel" "thrown" "I") (List.mem_of_getElem? (i := 2) rfl)) (fun _ h9 => h9) rfl (by decide +kernel) (rfl) (rfl) (Nat.le_of_ble_eq_true rfl) dX9_load_48 (fun H locs hP hD hS => ?_)
    have hP : va_P D vwCl [(mo, .inr (8, [.int (nI 0), .int (nI c), .int (nI r), .long w, .int (nI pl), .int (nI n), .ref aML, .ref aMR, .ref aOW, .int (nI len), .ref aBU, .int sn, .ref aSA, .ref aSZ, .ref aLP, .ref aOP, .ref aFT, .int od, .ref aOL, .ref aRS, .ref aCD, .long pw, .int pb, .int ah, .long hs])), (aML, .inl (Y.1, 40, .inl ml)), (aMR, .inl (Y.1, 40, .inl mr)), (aOW, .inl (Y.1, 16, .inl ow)), (aBU, .inl (Y.1, 60, .inl bu))] H := hP
    have hD : va_D AA [(mo, .inr (8, [.int (nI 0), .int (nI c), .int (nI r), .long w, .int (nI pl), .int (nI n), .ref aML, .ref aMR, .ref aOW, .int (nI len), .ref aBU, .int sn, .ref aSA, .ref aSZ, .ref aLP, .ref aOP, .ref aFT, .int od, .ref aOL, .ref aRS, .ref aCD, .long pw, .int pb, .int ah, .long hs])), (aML, .inl (Y.1, 40, .inl ml)), (aMR, .inl (Y.1, 40, .inl mr)), (aOW, .inl (Y.1, 16, .inl ow)), (aBU, .inl (Y.1, 60, .inl bu))] := hD
    refine lv_aload_n (pc := 51) hx hb dX9_load_51 rfl (lv_at hl 1 rfl) ?_
    refine va_get (pc := 52) (D := D) (ci := 8) (v := .int (nI 0)) (C := RX9) (T := TX9) (N := 25) hx hb hts hinX9 hown hK.1 hP 0 rfl rfl 0 (by decide) (hts (.fieldLink RX9 59 "BoxesGameModel" "thrown" "I") (List.mem_of_getElem? (i := 2) rfl)) (fun _ h9 => h9) rfl dX9_load_52 ?_
    refine n_if_le (pc := 55) (tgt := 60) hx hb (by omega) dX9_load_55 (by decide) (fun c55 => ?_) (fun c55 => ?_)
    · refine lv_iconst (pc := 60) (v := nI 0) hx hb dX9_load_60 rfl ?_
      refine lv_istore_n (pc := 61) (lv' := [(2, .int (nI 0)), (1, .int (zb true)), (0, .ref mo)]) hx hb dX9_load_61 rfl hl (by decide) rfl (fun ls hl => ?_)
      refine lv_iconst (pc := 62) (v := nI 0) hx hb dX9_load_62 rfl ?_
      refine lv_istore_n (pc := 63) (lv' := [(3, .int (nI 0)), (2, .int (nI 0)), (1, .int (zb true)), (0, .ref mo)]) hx hb dX9_load_63 rfl hl (by decide) rfl (fun ls hl => ?_)
      have L64 : ∀ (n64 : Nat), ∀ (k : Nat) (i : Nat) (s9 : Nat) (u : Int64) (p : Nat) (f : Nat → Int32) (g : Nat → Int32) (o : Nat → Int32), (i = 4 * k) → (i ≤ len + 1) → (u = txS c r bu w k) → (s9 = ldG c r bu w k) → (MoR c r (ldM c r bu ms n k) (n + k) u p f g o) → len + 2 - i < n64 → ∀ (H : Heap) (locs : List Loc), va_P D vwCl [(mo, .inr (8, [.int (nI 0), .int (nI c), .int (nI r), .long u, .int (nI p), .int (nI (n + k)), .ref aML, .ref aMR, .ref aOW, .int (nI len), .ref aBU, .int sn, .ref aSA, .ref aSZ, .ref aLP, .ref aOP, .ref aFT, .int od, .ref aOL, .ref aRS, .ref aCD, .long pw, .int pb, .int ah, .long hs])), (aML, .inl (Y.1, 40, .inl f)), (aMR, .inl (Y.1, 40, .inl g)), (aOW, .inl (Y.1, 16, .inl o)), (aBU, .inl (Y.1, 60, .inl bu))] H → va_D AA [(mo, .inr (8, [.int (nI 0), .int (nI c), .int (nI r), .long u, .int (nI p), .int (nI (n + k)), .ref aML, .ref aMR, .ref aOW, .int (nI len), .ref aBU, .int sn, .ref aSA, .ref aSZ, .ref aLP, .ref aOP, .ref aFT, .int od, .ref aOL, .ref aRS, .ref aCD, .long pw, .int pb, .int ah, .long hs])), (aML, .inl (Y.1, 40, .inl f)), (aMR, .inl (Y.1, 40, .inl g)), (aOW, .inl (Y.1, 16, .inl o)), (aBU, .inl (Y.1, 60, .inl bu))] → va_S AA sG.heap H locs → ∀ (ls : Array Slot), lv_has ls 4 [(0, .ref mo), (1, .int (zb true)), (2, .int (nI s9)), (3, .int (nI i))] → W pG l eG ({ frames := 6, cells := 0, slots := 0, locals := 142 } : Room) sG mG aG bG tG cG H locs 0 0 (MQ bG (MuQ D [(mo, .inr (8, [.int th, .int (nI c), .int (nI r), .long w, .int (nI pl), .int (nI n), .ref aML, .ref aMR, .ref aOW, .int (nI len), .ref aBU, .int sn, .ref aSA, .ref aSZ, .ref aLP, .ref aOP, .ref aFT, .int od, .ref aOL, .ref aRS, .ref aCD, .long pw, .int pb, .int ah, .long hs])), (aML, .inl (Y.1, 40, .inl ml)), (aMR, .inl (Y.1, 40, .inl mr)), (aOW, .inl (Y.1, 16, .inl ow)), (aBU, .inl (Y.1, 60, .inl bu))] (fun uS : Int32 × Int32 × Int64 × Nat × Nat × Nat × (Nat → Int32) × (Nat → Int32) × (Nat → Int32) => some (.int uS.2.1)) (fun uS : Int32 × Int32 × Int64 × Nat × Nat × Nat × (Nat → Int32) × (Nat → Int32) × (Nat → Int32) => [(mo, .inr (8, [.int uS.1, .int (nI c), .int (nI r), .long uS.2.2.1, .int (nI uS.2.2.2.1), .int (nI uS.2.2.2.2.1), .ref aML, .ref aMR, .ref aOW, .int (nI uS.2.2.2.2.2.1), .ref aBU, .int sn, .ref aSA, .ref aSZ, .ref aLP, .ref aOP, .ref aFT, .int od, .ref aOL, .ref aRS, .ref aCD, .long pw, .int pb, .int ah, .long hs])), (aML, .inl (Y.1, 40, .inl uS.2.2.2.2.2.2.1)), (aMR, .inl (Y.1, 40, .inl uS.2.2.2.2.2.2.2.1)), (aOW, .inl (Y.1, 16, .inl uS.2.2.2.2.2.2.2.2)), (aBU, .inl (Y.1, 60, .inl bu))]) (fun uS : Int32 × Int32 × Int64 × Nat × Nat × Nat × (Nat → Int32) × (Nat → Int32) × (Nat → Int32) => RvP (kD2 (cmpT c r bu len) (canT c r bu w ((len + 1) / 4))) uS.1 uS.2.1 (nI (ldG c r bu w ((len + 1) / 4))) ∧ ((kD2 (cmpT c r bu len) (canT c r bu w ((len + 1) / 4))) = 0 → uS.2.2.2.2.1 = n + ((len + 1) / 4) ∧ uS.2.2.2.2.2.1 = 0 ∧ MoR c r (ldM c r bu ms n ((len + 1) / 4)) uS.2.2.2.2.1 uS.2.2.1 uS.2.2.2.1 uS.2.2.2.2.2.2.1 uS.2.2.2.2.2.2.2.1 uS.2.2.2.2.2.2.2.2) ∧ (¬ (kD2 (cmpT c r bu len) (canT c r bu w ((len + 1) / 4))) = 0 → uS.2.2.2.2.1 = n ∧ uS.2.2.2.2.2.1 = len ∧ MoR c r ms uS.2.2.2.2.1 uS.2.2.1 uS.2.2.2.1 uS.2.2.2.2.2.2.1 uS.2.2.2.2.2.2.2.1 uS.2.2.2.2.2.2.2.2))) aG sG 0 0 AA) (F0 mG 64 ls []) := by
        intro n64
        induction n64 with
        | zero =>
          intro k i s9 u p f g o hik hi hu hs9 hmk hmeas64 H locs hP hD hS ls hl
          exact absurd hmeas64 (Nat.not_lt_zero _)
        | succ n64 ih64 =>
          intro k i s9 u p f g o hik hi hu hs9 hmk hmeas64 H locs hP hD hS ls hl
          refine lv_iload_n (pc := 64) hx hb dX9_load_64 rfl (lv_at hl 3 rfl) ?_
          refine lv_aload_n (pc := 65) hx hb dX9_load_65 rfl (lv_at hl 0 rfl) ?_
          refine va_get (pc := 66) (D := D) (ci := 8) (v := .int (nI len)) (C := RX9) (T := TX9) (N := 25) hx hb hts hinX9 hown hK.1 hP 0 rfl rfl 9 (by decide) (hts (.fieldLink RX9 147 "BoxesGameModel" "length" "I") (List.mem_of_getElem? (i := 1) rfl)) (fun _ h9 => h9) rfl dX9_load_66 ?_
          refine n_icmp_ge (pc := 69) (tgt := 90) hx hb (by omega) (by omega) dX9_load_69 (by decide) (fun c69 => ?_) (fun c69 => ?_)
          · have hke : k = (len + 1) / 4 := by omega
            refine lv_aload_n (pc := 90) hx hb dX9_load_90 rfl (lv_at hl 0 rfl) ?_
            refine lv_iconst (pc := 91) (v := nI 0) hx hb dX9_load_91 rfl ?_
            refine va_put (pc := 92) (D := D) (ci := 8) (v := .int (nI 0)) (ty := .int) (C := RX9) (T := TX9) (N := 25) hx hb hts hinX9 tyX9 tyX9_ok nmX9 hown hK.1 hP hD hS 0 rfl rfl 9 (by decide) (hts (.fieldLink RX9 147 "BoxesGameModel" "length" "I") (List.mem_of_getElem? (i := 1) rfl)) (fun _ h9 => h9) rfl (by decide +kernel) (rfl) (rfl) (Nat.le_of_ble_eq_true rfl) dX9_load_92 (fun H locs hP hD hS => ?_)
            have hP : va_P D vwCl [(mo, .inr (8, [.int (nI 0), .int (nI c), .int (nI r), .long u, .int (nI p), .int (nI (n + k)), .ref aML, .ref aMR, .ref aOW, .int (nI 0), .ref aBU, .int sn, .ref aSA, .ref aSZ, .ref aLP, .ref aOP, .ref aFT, .int od, .ref aOL, .ref aRS, .ref aCD, .long pw, .int pb, .int ah, .long hs])), (aML, .inl (Y.1, 40, .inl f)), (aMR, .inl (Y.1, 40, .inl g)), (aOW, .inl (Y.1, 16, .inl o)), (aBU, .inl (Y.1, 60, .inl bu))] H := hP
            have hD : va_D AA [(mo, .inr (8, [.int (nI 0), .int (nI c), .int (nI r), .long u, .int (nI p), .int (nI (n + k)), .ref aML, .ref aMR, .ref aOW, .int (nI 0), .ref aBU, .int sn, .ref aSA, .ref aSZ, .ref aLP, .ref aOP, .ref aFT, .int od, .ref aOL, .ref aRS, .ref aCD, .long pw, .int pb, .int ah, .long hs])), (aML, .inl (Y.1, 40, .inl f)), (aMR, .inl (Y.1, 40, .inl g)), (aOW, .inl (Y.1, 16, .inl o)), (aBU, .inl (Y.1, 60, .inl bu))] := hD
            refine lv_iload_n (pc := 95) hx hb dX9_load_95 rfl (lv_at hl 2 rfl) ?_
            subst hs9
            subst hAA
            exact mu_iret hx hb hr hlocks hP hS (⟨_, _, _, _, _, _, _, _, _⟩) (rfl) (⟨by rw [← hke]; exact RvP.ok (by rw [hke]; exact kD2_0 hcm c40), fun _ => by rw [← hke]; exact ⟨rfl, rfl, hmk⟩, fun z => absurd (kD2_0 hcm c40) z⟩) (rfl) dX9_load_96
          obtain ⟨ht1, ht2, ht3⟩ := tx_line hC hT c69 (by omega)
          have htf : tb u (tlN c r bu i) = false := by rw [hu, hik]; exact canT_at c40 (by omega)
          refine lv_iload_n (pc := 72) hx hb dX9_load_72 rfl (lv_at hl 2 rfl) ?_
          refine lv_aload_n (pc := 73) hx hb dX9_load_73 rfl (lv_at hl 0 rfl) ?_
          refine lv_aload_n (pc := 74) hx hb dX9_load_74 rfl (lv_at hl 0 rfl) ?_
          refine lv_iload_n (pc := 75) hx hb dX9_load_75 rfl (lv_at hl 3 rfl) ?_
          refine ro_go (pc := 76) (va_runV (As := [.int (nI i)]) (rest := [.ref mo, .int (nI s9)]) ⟨hx, hb, hml, hown, hts⟩ (c_X9_lineIn l D Y mo c r ([.int (nI 0), .int (nI c), .int (nI r), .long u, .int (nI p), .int (nI (n + k)), .ref aML, .ref aMR, .ref aOW, .int (nI len), .ref aBU, .int sn, .ref aSA, .ref aSZ, .ref aLP, .ref aOP, .ref aFT, .int od, .ref aOL, .ref aRS, .ref aCD, .long pw, .int pb, .int ah, .long hs]) aBU i bu len (by first | assumption | exact ⟨rfl, rfl⟩) (hC) (by first | assumption | rfl) (hlen) (hT) (c69) (by omega)) (cwV 1 hts gX9_load_X9_lineIn rfl rfl rfl ⟨rfl, hdX9_lineIn⟩ ⟨Nat.le_of_ble_eq_true rfl, Nat.le_of_ble_eq_true rfl⟩) (ro_pV hK (hP.sub [0, 4] rfl) (ro_recv hK hP (ci := 8) (q0 := 0) rfl rfl)) rfl rfl hl.1 rfl (lv_room (Nat.le_of_ble_eq_true rfl)) dX9_load_76 ⟨Nat.le_of_ble_eq_true rfl, Nat.le_of_ble_eq_true rfl⟩) ?_
          refine mu_go (pc := 79) (va_runV (As := [.int (nI (tlN c r bu i))]) (rest := [.int (nI s9)]) ⟨hx, hb, hml, hown, hts⟩ (c_X9_make l D Y mo (nI 0) c r u p (n + k) aML aMR aOW len aBU sn aSA aSZ aLP aOP aFT od aOL aRS aCD pw pb ah hs (tlN c r bu i) f g o (hC) (ht3) (htf) (hmk.1.lt hC ht3 htf) (hmk.1.pl1)) (cwV 1 hts gX9_load_X9_make rfl rfl rfl ⟨rfl, hdX9_make⟩ ⟨Nat.le_of_ble_eq_true rfl, Nat.le_of_ble_eq_true rfl⟩) (mu_pV hK (hP.sub [0, 1, 2, 3] rfl) (hD.sub [0, 1, 2, 3] (by decide) rfl) (ro_recv hK hP (ci := 8) (q0 := 0) rfl rfl)) rfl rfl hl.1 rfl (lv_room (Nat.le_of_ble_eq_true rfl)) dX9_load_79 ⟨Nat.le_of_ble_eq_true rfl, Nat.le_of_ble_eq_true rfl⟩) hP hD hS [0, 1, 2, 3] rfl (by decide) (fun _ => [(mo, .inr (8, [.int (nI 0), .int (nI c), .int (nI r), .long (u ||| b1 (tlN c r bu i)), .int (nI (nxp (gai c r u (tlN c r bu i)) p)), .int (nI ((n + k) + 1)), .ref aML, .ref aMR, .ref aOW, .int (nI len), .ref aBU, .int sn, .ref aSA, .ref aSZ, .ref aLP, .ref aOP, .ref aFT, .int od, .ref aOL, .ref aRS, .ref aCD, .long pw, .int pb, .int ah, .long hs])), (aML, .inl (Y.1, 40, .inl (upd f (n + k) (nI (tlN c r bu i))))), (aMR, .inl (Y.1, 40, .inl (upd g (n + k) (nI p)))), (aOW, .inl (Y.1, 16, .inl (mkO c r (u ||| b1 (tlN c r bu i)) (tlN c r bu i) o (nI p)))), (aBU, .inl (Y.1, 60, .inl bu))]) (fun _ => rfl) (fun _ => rfl) (fun uS H locs hpost hP hD hS => ?_)
          have hP : va_P D vwCl [(mo, .inr (8, [.int (nI 0), .int (nI c), .int (nI r), .long (u ||| b1 (tlN c r bu i)), .int (nI (nxp (gai c r u (tlN c r bu i)) p)), .int (nI ((n + k) + 1)), .ref aML, .ref aMR, .ref aOW, .int (nI len), .ref aBU, .int sn, .ref aSA, .ref aSZ, .ref aLP, .ref aOP, .ref aFT, .int od, .ref aOL, .ref aRS, .ref aCD, .long pw, .int pb, .int ah, .long hs])), (aML, .inl (Y.1, 40, .inl (upd f (n + k) (nI (tlN c r bu i))))), (aMR, .inl (Y.1, 40, .inl (upd g (n + k) (nI p)))), (aOW, .inl (Y.1, 16, .inl (mkO c r (u ||| b1 (tlN c r bu i)) (tlN c r bu i) o (nI p)))), (aBU, .inl (Y.1, 60, .inl bu))] H := hP
          have hD : va_D AA [(mo, .inr (8, [.int (nI 0), .int (nI c), .int (nI r), .long (u ||| b1 (tlN c r bu i)), .int (nI (nxp (gai c r u (tlN c r bu i)) p)), .int (nI ((n + k) + 1)), .ref aML, .ref aMR, .ref aOW, .int (nI len), .ref aBU, .int sn, .ref aSA, .ref aSZ, .ref aLP, .ref aOP, .ref aFT, .int od, .ref aOL, .ref aRS, .ref aCD, .long pw, .int pb, .int ah, .long hs])), (aML, .inl (Y.1, 40, .inl (upd f (n + k) (nI (tlN c r bu i))))), (aMR, .inl (Y.1, 40, .inl (upd g (n + k) (nI p)))), (aOW, .inl (Y.1, 16, .inl (mkO c r (u ||| b1 (tlN c r bu i)) (tlN c r bu i) o (nI p)))), (aBU, .inl (Y.1, 60, .inl bu))] := hD
          refine n_iadd (pc := 82) hx hb dX9_load_82 ?_
          refine lv_istore_n (pc := 83) (lv' := [(2, .int (nI (s9 + (gai c r u (tlN c r bu i))))), (0, .ref mo), (1, .int (zb true)), (3, .int (nI i))]) hx hb dX9_load_83 rfl hl (by decide) rfl (fun ls hl => ?_)
          refine lv_iinc (pc := 84) (v := nI (i + 4)) (lv' := [(3, .int (nI (i + 4))), (2, .int (nI (s9 + (gai c r u (tlN c r bu i))))), (0, .ref mo), (1, .int (zb true))]) hx hb dX9_load_84 hl (k := 3) rfl (n_inc i 4) (by decide) rfl (fun ls hl => ?_)
          refine lv_goto (pc := 87) (tgt := 64) hx hb dX9_load_87 (by decide) ?_
          exact ih64 (k + 1) (i + 4) (s9 + (gai c r u (tlN c r bu i))) (u ||| b1 (tlN c r bu i)) (nxp (gai c r u (tlN c r bu i)) p) (upd f (n + k) (nI (tlN c r bu i))) (upd g (n + k) (nI p)) (mkO c r (u ||| b1 (tlN c r bu i)) (tlN c r bu i) o (nI p)) (by first | assumption | omega) (by first | assumption | omega) (by rw [hu, hik]; rfl) (by rw [hs9, hu, hik]; rfl) (by rw [ldM, ← hik, show n + (k + 1) = n + k + 1 by omega]; exact hmk.make ht3 htf) (by omega) _ _ hP hD hS _ (lv_sub hl [2, 3, 1, 0] rfl)
      exact L64 ((len + 2 - 0) + 1) 0 0 0 w pl ml mr ow (by first | assumption | omega) (by first | assumption | omega) (rfl) (rfl) (hM) (Nat.lt_succ_self _) _ _ hP hD hS _ (lv_sub hl [3, 2, 1, 0] rfl)
    · exact absurd c55 (by decide)
  · exact absurd c29 (by decide)
