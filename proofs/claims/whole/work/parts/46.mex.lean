set_option maxHeartbeats 1200000 in
set_option maxRecDepth 100000 in
theorem c_X9_open (l : Launch) (D : va_G) (Y : vY) (mo : Nat) (c : Nat) (r : Nat) (fs : List Value) (u : Int64) (hf : MF c r fs) (hC : Cr c r) (hu0 : Onb c r u) : Ro l yX9_open wsX9_open ({ frames := 2, cells := 0, slots := 0, locals := 45 } : Room) [.ref mo, .long u] D Y [(mo, .inr (8, fs))] (some (.int (nI (und c r u)))) := by
  refine ro_intro (by decide +kernel) rfl (Nat.le_of_ble_eq_true rfl) [(0, .ref mo), (1, .long u)] rfl ?_
  intro pG eG sG mG aG bG tG cG ls hx hb hr hml hts hown hlocks hK hP hl
  have hP : va_P D vwCl [(mo, .inr (8, fs))] sG.heap := hP
  have hown : sG.vm.findClass RX9 = some mG.cls := hown
  have hl : lv_has ls 3 [(0, .ref mo), (1, .long u)] := hl
  obtain ⟨hq1, hq2, hq3, hq4, hq5, hq6, hq7, hq8, hq9, hq10, hq11⟩ := hC.q
  have hsz := und_siz hC hu0
  refine lv_aload_n (pc := 0) hx hb dX9_open_0 rfl (lv_at hl 0 rfl) ?_
  refine ro_go (pc := 1) (va_runV (As := []) (rest := []) ⟨hx, hb, hml, hown, hts⟩ (c_X9_all l D Y mo c r fs (hf) (hC)) (cwV 0 hts gX9_open_X9_all rfl rfl rfl ⟨rfl, hdX9_all⟩ ⟨Nat.le_of_ble_eq_true rfl, Nat.le_of_ble_eq_true rfl⟩) (ro_pV hK hP (ro_recv hK hP (ci := 8) (q0 := 0) rfl rfl)) rfl rfl hl.1 rfl (lv_room (Nat.le_of_ble_eq_true rfl)) dX9_open_1 ⟨Nat.le_of_ble_eq_true rfl, Nat.le_of_ble_eq_true rfl⟩) ?_
  refine lv_lload_n (pc := 4) hx hb dX9_open_4 rfl (lv_at hl 1 rfl) ?_
  refine ro_go (pc := 5) (va_runS (As := [.long u]) (rest := [.int (nI (al c r))]) ⟨hx, hb, hml, hown, hts⟩ (c_X9_size l D Y u ) (va_cwS 1 hts gX9_open_X9_size rfl rfl rfl hdX9_size ⟨Nat.le_of_ble_eq_true rfl, Nat.le_of_ble_eq_true rfl⟩) (ro_pS hK (hP.sub [] rfl)) rfl rfl hl.1 rfl (lv_room (Nat.le_of_ble_eq_true rfl)) dX9_open_5 ⟨Nat.le_of_ble_eq_true rfl, Nat.le_of_ble_eq_true rfl⟩) ?_
  refine n_isub (pc := 8) hx hb (by omega) dX9_open_8 ?_
  exact ro_iret (v := nI ((al c r) - (siz u))) hx hb hr hlocks (by congr 1; omega) dX9_open_9

set_option maxHeartbeats 1200000 in
set_option maxRecDepth 100000 in
theorem c_X9_layOpen (l : Launch) (D : va_G) (Y : vY) (mo : Nat) (th : Int32) (c : Nat) (r : Nat) (w : Int64) (pl : Nat) (n : Nat) (aML : Nat) (aMR : Nat) (aOW : Nat) (len : Nat) (aBU : Nat) (sn : Int32) (aSA : Nat) (aSZ : Nat) (aLP : Nat) (aOP : Nat) (aFT : Nat) (aOL : Nat) (aRS : Nat) (aCD : Nat) (pw : Int64) (pb : Int32) (ah : Int32) (hs : Int64) (od : Int32) (u : Int64) (ol : Nat → Int32) (hC : Cr c r) (hu12 : und c r u ≤ 12) : Mu l yX9_layOpen wsX9_layOpen ({ frames := 2, cells := 0, slots := 0, locals := 40 } : Room) [.ref mo, .long u] D Y [(mo, .inr (8, [.int th, .int (nI c), .int (nI r), .long w, .int (nI pl), .int (nI n), .ref aML, .ref aMR, .ref aOW, .int (nI len), .ref aBU, .int sn, .ref aSA, .ref aSZ, .ref aLP, .ref aOP, .ref aFT, .int od, .ref aOL, .ref aRS, .ref aCD, .long pw, .int pb, .int ah, .long hs])), (aOL, .inl (Y.1, 12, .inl ol))] (fun uS : Nat → Int32 => none) (fun uS : Nat → Int32 => [(mo, .inr (8, [.int th, .int (nI c), .int (nI r), .long w, .int (nI pl), .int (nI n), .ref aML, .ref aMR, .ref aOW, .int (nI len), .ref aBU, .int sn, .ref aSA, .ref aSZ, .ref aLP, .ref aOP, .ref aFT, .int (nI (und c r u)), .ref aOL, .ref aRS, .ref aCD, .long pw, .int pb, .int ah, .long hs])), (aOL, .inl (Y.1, 12, .inl uS))]) (fun uS : Nat → Int32 => SlOK c r (opl c r u) uS (und c r u)) := by
  refine mu_intro (by decide +kernel) rfl (Nat.le_of_ble_eq_true rfl) [(0, .ref mo), (1, .long u)] rfl ?_
  intro pG eG sG mG aG bG tG cG ls hx hb hr hml hts hown hlocks hK hP hD hS hl
  generalize hAA : adA [(mo, .inr (8, [.int th, .int (nI c), .int (nI r), .long w, .int (nI pl), .int (nI n), .ref aML, .ref aMR, .ref aOW, .int (nI len), .ref aBU, .int sn, .ref aSA, .ref aSZ, .ref aLP, .ref aOP, .ref aFT, .int od, .ref aOL, .ref aRS, .ref aCD, .long pw, .int pb, .int ah, .long hs])), (aOL, .inl (Y.1, 12, .inl ol))] = AA at hD hS ⊢
  have hP : va_P D vwCl [(mo, .inr (8, [.int th, .int (nI c), .int (nI r), .long w, .int (nI pl), .int (nI n), .ref aML, .ref aMR, .ref aOW, .int (nI len), .ref aBU, .int sn, .ref aSA, .ref aSZ, .ref aLP, .ref aOP, .ref aFT, .int od, .ref aOL, .ref aRS, .ref aCD, .long pw, .int pb, .int ah, .long hs])), (aOL, .inl (Y.1, 12, .inl ol))] sG.heap := hP
  have hD : va_D AA [(mo, .inr (8, [.int th, .int (nI c), .int (nI r), .long w, .int (nI pl), .int (nI n), .ref aML, .ref aMR, .ref aOW, .int (nI len), .ref aBU, .int sn, .ref aSA, .ref aSZ, .ref aLP, .ref aOP, .ref aFT, .int od, .ref aOL, .ref aRS, .ref aCD, .long pw, .int pb, .int ah, .long hs])), (aOL, .inl (Y.1, 12, .inl ol))] := hD
  have hown : sG.vm.findClass RX9 = some mG.cls := hown
  have hl : lv_has ls 4 [(0, .ref mo), (1, .long u)] := hl
  have hinX9 : ∀ w ∈ u_ws RX9 TX9 25, w ∈ wsX9_layOpen := by decide +kernel
  have hS : va_S AA sG.heap sG.heap [] := hS
  obtain ⟨hq1, hq2, hq3, hq4, hq5, hq6, hq7, hq8, hq9, hq10, hq11⟩ := hC.q
  refine lv_aload_n (pc := 0) hx hb dX9_layOpen_0 rfl (lv_at hl 0 rfl) ?_
  refine lv_iconst (pc := 1) (v := nI 0) hx hb dX9_layOpen_1 rfl ?_
  refine va_put (pc := 2) (D := D) (ci := 8) (v := .int (nI 0)) (ty := .int) (C := RX9) (T := TX9) (N := 25) hx hb hts hinX9 tyX9 tyX9_ok nmX9 hown hK.1 hP hD hS 0 rfl rfl 17 (by decide) (hts (.fieldLink RX9 226 "BoxesGameModel" "opened" "I") (List.mem_of_getElem? (i := 1) rfl)) (fun _ h9 => h9) rfl (by decide +kernel) (rfl) (rfl) (Nat.le_of_ble_eq_true rfl) dX9_layOpen_2 (fun H locs hP hD hS => ?_)
  have hP : va_P D vwCl [(mo, .inr (8, [.int th, .int (nI c), .int (nI r), .long w, .int (nI pl), .int (nI n), .ref aML, .ref aMR, .ref aOW, .int (nI len), .ref aBU, .int sn, .ref aSA, .ref aSZ, .ref aLP, .ref aOP, .ref aFT, .int (nI 0), .ref aOL, .ref aRS, .ref aCD, .long pw, .int pb, .int ah, .long hs])), (aOL, .inl (Y.1, 12, .inl ol))] H := hP
  have hD : va_D AA [(mo, .inr (8, [.int th, .int (nI c), .int (nI r), .long w, .int (nI pl), .int (nI n), .ref aML, .ref aMR, .ref aOW, .int (nI len), .ref aBU, .int sn, .ref aSA, .ref aSZ, .ref aLP, .ref aOP, .ref aFT, .int (nI 0), .ref aOL, .ref aRS, .ref aCD, .long pw, .int pb, .int ah, .long hs])), (aOL, .inl (Y.1, 12, .inl ol))] := hD
  refine lv_iconst (pc := 5) (v := nI 0) hx hb dX9_layOpen_5 rfl ?_
  refine lv_istore_n (pc := 6) (lv' := [(3, .int (nI 0)), (0, .ref mo), (1, .long u)]) hx hb dX9_layOpen_6 rfl hl (by decide) rfl (fun ls hl => ?_)
  have L7 : ∀ (n7 : Nat), ∀ (i : Nat) (k : Nat) (f : Nat → Int32), (i ≤ al c r) → (k = fb_ct (fun l => !tb u l) i) → (∀ j, j < k → f j = nI (mem (opl c r u) j)) → al c r - i < n7 → ∀ (H : Heap) (locs : List Loc), va_P D vwCl [(mo, .inr (8, [.int th, .int (nI c), .int (nI r), .long w, .int (nI pl), .int (nI n), .ref aML, .ref aMR, .ref aOW, .int (nI len), .ref aBU, .int sn, .ref aSA, .ref aSZ, .ref aLP, .ref aOP, .ref aFT, .int (nI k), .ref aOL, .ref aRS, .ref aCD, .long pw, .int pb, .int ah, .long hs])), (aOL, .inl (Y.1, 12, .inl f))] H → va_D AA [(mo, .inr (8, [.int th, .int (nI c), .int (nI r), .long w, .int (nI pl), .int (nI n), .ref aML, .ref aMR, .ref aOW, .int (nI len), .ref aBU, .int sn, .ref aSA, .ref aSZ, .ref aLP, .ref aOP, .ref aFT, .int (nI k), .ref aOL, .ref aRS, .ref aCD, .long pw, .int pb, .int ah, .long hs])), (aOL, .inl (Y.1, 12, .inl f))] → va_S AA sG.heap H locs → ∀ (ls : Array Slot), lv_has ls 4 [(0, .ref mo), (1, .long u), (3, .int (nI i))] → W pG l eG ({ frames := 2, cells := 0, slots := 0, locals := 40 } : Room) sG mG aG bG tG cG H locs 0 0 (MQ bG (MuQ D [(mo, .inr (8, [.int th, .int (nI c), .int (nI r), .long w, .int (nI pl), .int (nI n), .ref aML, .ref aMR, .ref aOW, .int (nI len), .ref aBU, .int sn, .ref aSA, .ref aSZ, .ref aLP, .ref aOP, .ref aFT, .int od, .ref aOL, .ref aRS, .ref aCD, .long pw, .int pb, .int ah, .long hs])), (aOL, .inl (Y.1, 12, .inl ol))] (fun uS : Nat → Int32 => none) (fun uS : Nat → Int32 => [(mo, .inr (8, [.int th, .int (nI c), .int (nI r), .long w, .int (nI pl), .int (nI n), .ref aML, .ref aMR, .ref aOW, .int (nI len), .ref aBU, .int sn, .ref aSA, .ref aSZ, .ref aLP, .ref aOP, .ref aFT, .int (nI (und c r u)), .ref aOL, .ref aRS, .ref aCD, .long pw, .int pb, .int ah, .long hs])), (aOL, .inl (Y.1, 12, .inl uS))]) (fun uS : Nat → Int32 => SlOK c r (opl c r u) uS (und c r u))) aG sG 0 0 AA) (F0 mG 7 ls []) := by
    intro n7
    induction n7 with
    | zero =>
      intro i k f hi hk hf9 hmeas7 H locs hP hD hS ls hl
      exact absurd hmeas7 (Nat.not_lt_zero _)
    | succ n7 ih7 =>
      intro i k f hi hk hf9 hmeas7 H locs hP hD hS ls hl
      refine lv_iload_n (pc := 7) hx hb dX9_layOpen_7 rfl (lv_at hl 2 rfl) ?_
      refine lv_aload_n (pc := 8) hx hb dX9_layOpen_8 rfl (lv_at hl 0 rfl) ?_
      refine ro_go (pc := 9) (va_runV (As := []) (rest := [.int (nI i)]) ⟨hx, hb, hml, hown, hts⟩ (c_X9_all l D Y mo c r ([.int th, .int (nI c), .int (nI r), .long w, .int (nI pl), .int (nI n), .ref aML, .ref aMR, .ref aOW, .int (nI len), .ref aBU, .int sn, .ref aSA, .ref aSZ, .ref aLP, .ref aOP, .ref aFT, .int (nI k), .ref aOL, .ref aRS, .ref aCD, .long pw, .int pb, .int ah, .long hs]) (by first | assumption | exact ⟨rfl, rfl⟩) (hC)) (cwV 0 hts gX9_layOpen_X9_all rfl rfl rfl ⟨rfl, hdX9_all⟩ ⟨Nat.le_of_ble_eq_true rfl, Nat.le_of_ble_eq_true rfl⟩) (ro_pV hK (hP.sub [0] rfl) (ro_recv hK hP (ci := 8) (q0 := 0) rfl rfl)) rfl rfl hl.1 rfl (lv_room (Nat.le_of_ble_eq_true rfl)) dX9_layOpen_9 ⟨Nat.le_of_ble_eq_true rfl, Nat.le_of_ble_eq_true rfl⟩) ?_
      refine n_icmp_ge (pc := 12) (tgt := 49) hx hb (by omega) (by omega) dX9_layOpen_12 (by decide) (fun c12 => ?_) (fun c12 => ?_)
      · have hke : k = und c r u := by rw [hk, show i = al c r by omega]; rfl
        subst hAA
        exact mu_vret hx hb hr hlocks hP hS (f) (rfl) (by rw [← hke]; exact hf9) (by rw [hke]) dX9_layOpen_49
      refine lv_lload_n (pc := 15) hx hb dX9_layOpen_15 rfl (lv_at hl 1 rfl) ?_
      refine lv_iload_n (pc := 16) hx hb dX9_layOpen_16 rfl (lv_at hl 2 rfl) ?_
      refine ro_go (pc := 17) (va_runS (As := [.long u, .int (nI i)]) (rest := []) ⟨hx, hb, hml, hown, hts⟩ (c_X9_has l D Y u i (by omega)) (va_cwS 2 hts gX9_layOpen_X9_has rfl rfl rfl hdX9_has ⟨Nat.le_of_ble_eq_true rfl, Nat.le_of_ble_eq_true rfl⟩) (ro_pS hK (hP.sub [] rfl)) rfl rfl hl.1 rfl (lv_room (Nat.le_of_ble_eq_true rfl)) dX9_layOpen_17 ⟨Nat.le_of_ble_eq_true rfl, Nat.le_of_ble_eq_true rfl⟩) ?_
      refine z_if_ne (pc := 20) (tgt := 43) hx hb dX9_layOpen_20 (by decide) (fun c20 => ?_) (fun c20 => ?_)
      · refine lv_iinc (pc := 43) (v := nI (i + 1)) (lv' := [(3, .int (nI (i + 1))), (0, .ref mo), (1, .long u)]) hx hb dX9_layOpen_43 hl (k := 2) rfl (n_inc i 1) (by decide) rfl (fun ls hl => ?_)
        refine lv_goto (pc := 46) (tgt := 7) hx hb dX9_layOpen_46 (by decide) ?_
        exact ih7 (i + 1) k f (by first | assumption | omega) (by rw [fb_ct_succ, c20, ← hk]; rfl) (hf9) (by omega) _ _ hP hD hS _ (lv_sub hl [1, 2, 0] rfl)
      have hmo := mem_op hC c12 c20 hk
      refine lv_aload_n (pc := 23) hx hb dX9_layOpen_23 rfl (lv_at hl 0 rfl) ?_
      refine va_get (pc := 24) (D := D) (ci := 8) (v := .ref aOL) (C := RX9) (T := TX9) (N := 25) hx hb hts hinX9 hown hK.1 hP 0 rfl rfl 18 (by decide) (hts (.fieldLink RX9 45 "BoxesGameModel" "openLines" "[I") (List.mem_of_getElem? (i := 2) rfl)) (fun _ h9 => h9) rfl dX9_layOpen_24 ?_
      refine lv_aload_n (pc := 27) hx hb dX9_layOpen_27 rfl (lv_at hl 0 rfl) ?_
      refine va_get (pc := 28) (D := D) (ci := 8) (v := .int (nI k)) (C := RX9) (T := TX9) (N := 25) hx hb hts hinX9 hown hK.1 hP 0 rfl rfl 17 (by decide) (hts (.fieldLink RX9 226 "BoxesGameModel" "opened" "I") (List.mem_of_getElem? (i := 1) rfl)) (fun _ h9 => h9) rfl dX9_layOpen_28 ?_
      refine lv_iload_n (pc := 31) hx hb dX9_layOpen_31 rfl (lv_at hl 2 rfl) ?_
      refine va_iast (pc := 32) hx hb hK.1 hP hD hS 1 0 rfl rfl (vp_in_nI (by omega) (by decide)) dX9_layOpen_32 (fun H locs hP hD hS => ?_)
      rw [nI_clamp (by omega)] at hP hD
      have hP : va_P D vwCl [(mo, .inr (8, [.int th, .int (nI c), .int (nI r), .long w, .int (nI pl), .int (nI n), .ref aML, .ref aMR, .ref aOW, .int (nI len), .ref aBU, .int sn, .ref aSA, .ref aSZ, .ref aLP, .ref aOP, .ref aFT, .int (nI k), .ref aOL, .ref aRS, .ref aCD, .long pw, .int pb, .int ah, .long hs])), (aOL, .inl (Y.1, 12, .inl (upd f k (nI i))))] H := hP
      have hD : va_D AA [(mo, .inr (8, [.int th, .int (nI c), .int (nI r), .long w, .int (nI pl), .int (nI n), .ref aML, .ref aMR, .ref aOW, .int (nI len), .ref aBU, .int sn, .ref aSA, .ref aSZ, .ref aLP, .ref aOP, .ref aFT, .int (nI k), .ref aOL, .ref aRS, .ref aCD, .long pw, .int pb, .int ah, .long hs])), (aOL, .inl (Y.1, 12, .inl (upd f k (nI i))))] := hD
      refine lv_aload_n (pc := 33) hx hb dX9_layOpen_33 rfl (lv_at hl 0 rfl) ?_
      refine lv_dup (pc := 34) hx hb dX9_layOpen_34 rfl ?_
      refine va_get (pc := 35) (D := D) (ci := 8) (v := .int (nI k)) (C := RX9) (T := TX9) (N := 25) hx hb hts hinX9 hown hK.1 hP 0 rfl rfl 17 (by decide) (hts (.fieldLink RX9 226 "BoxesGameModel" "opened" "I") (List.mem_of_getElem? (i := 1) rfl)) (fun _ h9 => h9) rfl dX9_layOpen_35 ?_
      refine lv_iconst (pc := 38) (v := nI 1) hx hb dX9_layOpen_38 rfl ?_
      refine n_iadd (pc := 39) hx hb dX9_layOpen_39 ?_
      refine va_put (pc := 40) (D := D) (ci := 8) (v := .int (nI (k + 1))) (ty := .int) (C := RX9) (T := TX9) (N := 25) hx hb hts hinX9 tyX9 tyX9_ok nmX9 hown hK.1 hP hD hS 0 rfl rfl 17 (by decide) (hts (.fieldLink RX9 226 "BoxesGameModel" "opened" "I") (List.mem_of_getElem? (i := 1) rfl)) (fun _ h9 => h9) rfl (by decide +kernel) (rfl) (rfl) (Nat.le_of_ble_eq_true rfl) dX9_layOpen_40 (fun H locs hP hD hS => ?_)
      have hP : va_P D vwCl [(mo, .inr (8, [.int th, .int (nI c), .int (nI r), .long w, .int (nI pl), .int (nI n), .ref aML, .ref aMR, .ref aOW, .int (nI len), .ref aBU, .int sn, .ref aSA, .ref aSZ, .ref aLP, .ref aOP, .ref aFT, .int (nI (k + 1)), .ref aOL, .ref aRS, .ref aCD, .long pw, .int pb, .int ah, .long hs])), (aOL, .inl (Y.1, 12, .inl (upd f k (nI i))))] H := hP
      have hD : va_D AA [(mo, .inr (8, [.int th, .int (nI c), .int (nI r), .long w, .int (nI pl), .int (nI n), .ref aML, .ref aMR, .ref aOW, .int (nI len), .ref aBU, .int sn, .ref aSA, .ref aSZ, .ref aLP, .ref aOP, .ref aFT, .int (nI (k + 1)), .ref aOL, .ref aRS, .ref aCD, .long pw, .int pb, .int ah, .long hs])), (aOL, .inl (Y.1, 12, .inl (upd f k (nI i))))] := hD
      refine lv_iinc (pc := 43) (v := nI (i + 1)) (lv' := [(3, .int (nI (i + 1))), (0, .ref mo), (1, .long u)]) hx hb dX9_layOpen_43 hl (k := 2) rfl (n_inc i 1) (by decide) rfl (fun ls hl => ?_)
      refine lv_goto (pc := 46) (tgt := 7) hx hb dX9_layOpen_46 (by decide) ?_
      exact ih7 (i + 1) (k + 1) (upd f k (nI i)) (by first | assumption | omega) (by rw [fb_ct_succ, c20, ← hk]; rfl) (lt_s (fun j hj => by rw [pk_un (by omega)]; exact hf9 j hj) (by rw [pk_us, hmo.2])) (by omega) _ _ hP hD hS _ (lv_sub hl [1, 2, 0] rfl)
  exact L7 ((al c r - 0) + 1) 0 0 ol (by first | assumption | omega) (rfl) (fun j h => absurd h (Nat.not_lt_zero _)) (Nat.lt_succ_self _) _ _ hP hD hS _ (lv_sub hl [1, 2, 0] rfl)

set_option maxHeartbeats 1200000 in
set_option maxRecDepth 100000 in
theorem c_X9_without (l : Launch) (D : va_G) (Y : vY) (mo : Nat) (c : Nat) (r : Nat) (fs : List Value) (aOL : Nat) (u : Int64) (s : Nat) (ol : Nat → Int32) (hf : MF c r fs) (hC : Cr c r) (hf17 : fs[17]? = some (.int (nI (und c r u)))) (hf18 : fs[18]? = some (.ref aOL)) (hu0 : Onb c r u) (hu12 : und c r u ≤ 12) (hsl : SlOK c r (opl c r u) ol (und c r u)) (hs0 : s < 2 ^ und c r u) : Ro l yX9_without wsX9_without ({ frames := 1, cells := 0, slots := 0, locals := 22 } : Room) [.ref mo, .long u, .int (nI s)] D Y [(mo, .inr (8, fs)), (aOL, .inl (Y.1, 12, .inl ol))] (some (.long (pS c r (opl c r u) s))) := by
  refine ro_intro (by decide +kernel) rfl (Nat.le_of_ble_eq_true rfl) [(0, .ref mo), (1, .long u), (3, .int (nI s))] rfl ?_
  intro pG eG sG mG aG bG tG cG ls hx hb hr hml hts hown hlocks hK hP hl
  have hP : va_P D vwCl [(mo, .inr (8, fs)), (aOL, .inl (Y.1, 12, .inl ol))] sG.heap := hP
  have hown : sG.vm.findClass RX9 = some mG.cls := hown
  have hl : lv_has ls 7 [(0, .ref mo), (1, .long u), (3, .int (nI s))] := hl
  have hinX9 : ∀ w ∈ u_ws RX9 TX9 25, w ∈ wsX9_without := by decide +kernel
  obtain ⟨hq1, hq2, hq3, hq4, hq5, hq6, hq7, hq8, hq9, hq10, hq11⟩ := hC.q
  have hs4 := pow12 hu12 hs0
  refine lv_lload_n (pc := 0) hx hb dX9_without_0 rfl (lv_at hl 1 rfl) ?_
  refine lv_lstore (pc := 1) (lv' := [(4, .long u), (0, .ref mo), (1, .long u), (3, .int (nI s))]) hx hb dX9_without_1 hl (by decide) rfl (fun ls hl => ?_)
  refine lv_iconst (pc := 3) (v := nI 0) hx hb dX9_without_3 rfl ?_
  refine lv_istore (pc := 4) (lv' := [(6, .int (nI 0)), (4, .long u), (0, .ref mo), (1, .long u), (3, .int (nI s))]) hx hb dX9_without_4 hl (by decide) rfl (fun ls hl => ?_)
  have L6 : ∀ (n6 : Nat), ∀ (i : Nat) (v : Int64), (i ≤ und c r u) → (v = wiF c r u s i) → und c r u - i < n6 → ∀ (ls : Array Slot), lv_has ls 7 [(0, .ref mo), (1, .long u), (3, .int (nI s)), (4, .long v), (6, .int (nI i))] → W pG l eG ({ frames := 1, cells := 0, slots := 0, locals := 22 } : Room) sG mG aG bG tG cG sG.heap [] 0 0 (MQ bG (RoQ (some (.long (pS c r (opl c r u) s)))) aG sG 0 0 (fun _ => False)) (F0 mG 6 ls []) := by
    intro n6
    induction n6 with
    | zero =>
      intro i v hi hv9 hmeas6  ls hl
      exact absurd hmeas6 (Nat.not_lt_zero _)
    | succ n6 ih6 =>
      intro i v hi hv9 hmeas6  ls hl
      refine lv_iload (pc := 6) hx hb dX9_without_6 (lv_at hl 4 rfl) ?_
      refine lv_aload_n (pc := 8) hx hb dX9_without_8 rfl (lv_at hl 0 rfl) ?_
      refine va_get (pc := 9) (D := D) (ci := 8) (v := .int (nI (und c r u))) (C := RX9) (T := TX9) (N := 25) hx hb hts hinX9 hown hK.1 hP 0 rfl rfl 17 (by decide) (hts (.fieldLink RX9 226 "BoxesGameModel" "opened" "I") (List.mem_of_getElem? (i := 1) rfl)) (fun _ h9 => h9) hf17 dX9_without_9 ?_
      refine n_icmp_ge (pc := 12) (tgt := 49) hx hb (by omega) (by omega) dX9_without_12 (by decide) (fun c12 => ?_) (fun c12 => ?_)
      · refine lv_lload (pc := 49) hx hb dX9_without_49 (lv_at hl 3 rfl) ?_
        exact ro_lret (v := v) hx hb hr hlocks (by rw [hv9, show i = und c r u by omega, wiF_end hC hu0]) dX9_without_51
      refine lv_lload (pc := 15) hx hb dX9_without_15 (lv_at hl 3 rfl) ?_
      refine lv_iload_n (pc := 17) hx hb dX9_without_17 rfl (lv_at hl 2 rfl) ?_
      refine lv_i2l (pc := 18) (v := lN s) hx hb dX9_without_18 (nI_l (by omega)) ?_
      refine lv_iload (pc := 19) hx hb dX9_without_19 (lv_at hl 4 rfl) ?_
      refine ro_go (pc := 21) (va_runS (As := [.long (lN s), .int (nI i)]) (rest := [.long v]) ⟨hx, hb, hml, hown, hts⟩ (c_X9_has l D Y (lN s) i (by omega)) (va_cwS 2 hts gX9_without_X9_has rfl rfl rfl hdX9_has ⟨Nat.le_of_ble_eq_true rfl, Nat.le_of_ble_eq_true rfl⟩) (ro_pS hK (hP.sub [] rfl)) rfl rfl hl.1 rfl (lv_room (Nat.le_of_ble_eq_true rfl)) dX9_without_21 ⟨Nat.le_of_ble_eq_true rfl, Nat.le_of_ble_eq_true rfl⟩) ?_
      refine z_if_eq (pc := 24) (tgt := 31) hx hb dX9_without_24 (by decide) (fun c24 => ?_) (fun c24 => ?_)
      · refine lv_lconst (pc := 31) (v := 1) hx hb dX9_without_31 (by decide) ?_
        refine lv_aload_n (pc := 32) hx hb dX9_without_32 rfl (lv_at hl 0 rfl) ?_
        refine va_get (pc := 33) (D := D) (ci := 8) (v := .ref aOL) (C := RX9) (T := TX9) (N := 25) hx hb hts hinX9 hown hK.1 hP 0 rfl rfl 18 (by decide) (hts (.fieldLink RX9 45 "BoxesGameModel" "openLines" "[I") (List.mem_of_getElem? (i := 2) rfl)) (fun _ h9 => h9) hf18 dX9_without_33 ?_
        refine lv_iload (pc := 36) hx hb dX9_without_36 (lv_at hl 4 rfl) ?_
        refine va_iald (pc := 38) hx hb hK.1 hP 1 0 rfl rfl (vp_in_nI (by omega) (by decide)) dX9_without_38 ?_
        refine top_i (show ol (nI i).toNatClampNeg = ol i from by rw [nI_clamp (by omega)]) ?_
        refine top_i (show ol i = nI (mem (opl c r u) i) from hsl i c12) ?_
        refine lv_lshl (pc := 39) (v := b1 (mem (opl c r u) i)) hx hb dX9_without_39 (b1_shl _ (lt_al hC (mem_und hC c12).1)) ?_
        refine lv_lor (pc := 40) hx hb dX9_without_40 ?_
        refine lv_lstore (pc := 41) (lv' := [(4, .long (v ||| (b1 (mem (opl c r u) i)))), (0, .ref mo), (1, .long u), (3, .int (nI s)), (6, .int (nI i))]) hx hb dX9_without_41 hl (by decide) rfl (fun ls hl => ?_)
        refine lv_iinc (pc := 43) (v := nI (i + 1)) (lv' := [(6, .int (nI (i + 1))), (4, .long (v ||| (b1 (mem (opl c r u) i)))), (0, .ref mo), (1, .long u), (3, .int (nI s))]) hx hb dX9_without_43 hl (k := 4) rfl (n_inc i 1) (by decide) rfl (fun ls hl => ?_)
        refine lv_goto (pc := 46) (tgt := 6) hx hb dX9_without_46 (by decide) ?_
        exact ih6 (i + 1) (v ||| (b1 (mem (opl c r u) i))) (by first | assumption | omega) (by rw [wiF, if_neg (by rw [← tb_lN (by omega), c24]; decide), ← hv9]) (by omega) _ (lv_sub hl [2, 3, 4, 1, 0] rfl)
      refine lv_lconst (pc := 27) (v := 0) hx hb dX9_without_27 (by decide) ?_
      refine lv_goto (pc := 28) (tgt := 40) hx hb dX9_without_28 (by decide) ?_
      refine lv_lor (pc := 40) hx hb dX9_without_40 ?_
      refine lv_lstore (pc := 41) (lv' := [(4, .long (v ||| (0 : Int64))), (0, .ref mo), (1, .long u), (3, .int (nI s)), (6, .int (nI i))]) hx hb dX9_without_41 hl (by decide) rfl (fun ls hl => ?_)
      refine lv_iinc (pc := 43) (v := nI (i + 1)) (lv' := [(6, .int (nI (i + 1))), (4, .long (v ||| (0 : Int64))), (0, .ref mo), (1, .long u), (3, .int (nI s))]) hx hb dX9_without_43 hl (k := 4) rfl (n_inc i 1) (by decide) rfl (fun ls hl => ?_)
      refine lv_goto (pc := 46) (tgt := 6) hx hb dX9_without_46 (by decide) ?_
      exact ih6 (i + 1) (v ||| (0 : Int64)) (by first | assumption | omega) (by rw [wiF, if_pos (by rw [← tb_lN (by omega), c24]), ← hv9, or_0]) (by omega) _ (lv_sub hl [2, 3, 4, 1, 0] rfl)
  exact L6 ((und c r u - 0) + 1) 0 u (by first | assumption | omega) (rfl) (Nat.lt_succ_self _) _ (lv_sub hl [2, 3, 4, 1, 0] rfl)

set_option maxHeartbeats 1200000 in
set_option maxRecDepth 100000 in
theorem c_X9_resultOf (l : Launch) (D : va_G) (Y : vY) (mo : Nat) (c : Nat) (r : Nat) (fs : List Value) (aOL : Nat) (aRS : Nat) (u : Int64) (v : Int64) (s : Nat) (k : Nat) (ol : Nat → Int32) (rs : Nat → Int32) (hf : MF c r fs) (hC : Cr c r) (hf18 : fs[18]? = some (.ref aOL)) (hf19 : fs[19]? = some (.ref aRS)) (hu12 : und c r u ≤ 12) (hk0 : k < und c r u) (hs0 : s < 2 ^ und c r u) (hbit : s.testBit k = true) (hol : ol k = nI (mem (opl c r u) k)) (hv0 : v = pS c r (opl c r u) s) (hrs : rs (clr s k) = iI (out c r (pS c r (opl c r u) (clr s k)))) : Ro l yX9_resultOf wsX9_resultOf ({ frames := 5, cells := 0, slots := 0, locals := 118 } : Room) [.ref mo, .long v, .int (nI s), .int (nI k)] D Y [(mo, .inr (8, fs)), (aOL, .inl (Y.1, 12, .inl ol)), (aRS, .inl (Y.1, 4096, .inl rs))] (some (.int (iI (wor c r v (mem (opl c r u) k))))) := by
  refine ro_intro (by decide +kernel) rfl (Nat.le_of_ble_eq_true rfl) [(0, .ref mo), (1, .long v), (3, .int (nI s)), (4, .int (nI k))] rfl ?_
  intro pG eG sG mG aG bG tG cG ls hx hb hr hml hts hown hlocks hK hP hl
  have hP : va_P D vwCl [(mo, .inr (8, fs)), (aOL, .inl (Y.1, 12, .inl ol)), (aRS, .inl (Y.1, 4096, .inl rs))] sG.heap := hP
  have hown : sG.vm.findClass RX9 = some mG.cls := hown
  have hl : lv_has ls 7 [(0, .ref mo), (1, .long v), (3, .int (nI s)), (4, .int (nI k))] := hl
  have hinX9 : ∀ w ∈ u_ws RX9 TX9 25, w ∈ wsX9_resultOf := by decide +kernel
  obtain ⟨hq1, hq2, hq3, hq4, hq5, hq6, hq7, hq8, hq9, hq10, hq11⟩ := hC.q
  have hs4 := pow12 hu12 hs0
  have hcl := clr_less hbit
  have hmu := mem_und hC hk0
  have hre : rs (clr s k) = iI (out c r (v ||| b1 (mem (opl c r u) k))) := by rw [hrs, pS_clr hC (opl_lt hC u) (by rw [opl_pop hC]; exact hk0), hv0]
  have hgl := gai_le c r v (mem (opl c r u) k)
  refine lv_aload_n (pc := 0) hx hb dX9_resultOf_0 rfl (lv_at hl 0 rfl) ?_
  refine lv_aload_n (pc := 1) hx hb dX9_resultOf_1 rfl (lv_at hl 0 rfl) ?_
  refine va_get (pc := 2) (D := D) (ci := 8) (v := .ref aOL) (C := RX9) (T := TX9) (N := 25) hx hb hts hinX9 hown hK.1 hP 0 rfl rfl 18 (by decide) (hts (.fieldLink RX9 45 "BoxesGameModel" "openLines" "[I") (List.mem_of_getElem? (i := 1) rfl)) (fun _ h9 => h9) hf18 dX9_resultOf_2 ?_
  refine lv_iload (pc := 5) hx hb dX9_resultOf_5 (lv_at hl 3 rfl) ?_
  refine va_iald (pc := 7) hx hb hK.1 hP 1 0 rfl rfl (vp_in_nI (by omega) (by decide)) dX9_resultOf_7 ?_
  refine top_i (show ol (nI k).toNatClampNeg = ol k from by rw [nI_clamp (by omega)]) ?_
  refine top_i (show ol k = nI (mem (opl c r u) k) from hol) ?_
  refine lv_lload_n (pc := 8) hx hb dX9_resultOf_8 rfl (lv_at hl 1 rfl) ?_
  refine ro_go (pc := 9) (va_runV (As := [.int (nI (mem (opl c r u) k)), .long v]) (rest := []) ⟨hx, hb, hml, hown, hts⟩ (c_X9_gains l D Y mo c r fs (mem (opl c r u) k) v (hf) (hC) (hmu.1)) (cwV 2 hts gX9_resultOf_X9_gains rfl rfl rfl ⟨rfl, hdX9_gains⟩ ⟨Nat.le_of_ble_eq_true rfl, Nat.le_of_ble_eq_true rfl⟩) (ro_pV hK (hP.sub [0] rfl) (ro_recv hK hP (ci := 8) (q0 := 0) rfl rfl)) rfl rfl hl.1 rfl (lv_room (Nat.le_of_ble_eq_true rfl)) dX9_resultOf_9 ⟨Nat.le_of_ble_eq_true rfl, Nat.le_of_ble_eq_true rfl⟩) ?_
  refine lv_istore (pc := 12) (lv' := [(5, .int (nI (gai c r v (mem (opl c r u) k)))), (0, .ref mo), (1, .long v), (3, .int (nI s)), (4, .int (nI k))]) hx hb dX9_resultOf_12 hl (by decide) rfl (fun ls hl => ?_)
  refine lv_aload_n (pc := 14) hx hb dX9_resultOf_14 rfl (lv_at hl 1 rfl) ?_
  refine va_get (pc := 15) (D := D) (ci := 8) (v := .ref aRS) (C := RX9) (T := TX9) (N := 25) hx hb hts hinX9 hown hK.1 hP 0 rfl rfl 19 (by decide) (hts (.fieldLink RX9 48 "BoxesGameModel" "results" "[I") (List.mem_of_getElem? (i := 2) rfl)) (fun _ h9 => h9) hf19 dX9_resultOf_15 ?_
  refine lv_iload_n (pc := 18) hx hb dX9_resultOf_18 rfl (lv_at hl 3 rfl) ?_
  refine lv_iconst (pc := 19) (v := nI 1) hx hb dX9_resultOf_19 rfl ?_
  refine lv_iload (pc := 20) hx hb dX9_resultOf_20 (lv_at hl 4 rfl) ?_
  refine lv_ishl (pc := 22) hx hb dX9_resultOf_22 ?_
  refine top_i (show (nI 1) <<< ((nI k) &&& 31) = nI (2 ^ k) from shl1 k (by omega)) ?_
  refine lv_iconst (pc := 23) (v := (-1)) hx hb dX9_resultOf_23 (by decide) ?_
  refine lv_ixor (pc := 24) hx hb dX9_resultOf_24 ?_
  refine lv_iand (pc := 25) hx hb dX9_resultOf_25 ?_
  refine top_i (show (nI s) &&& ((nI (2 ^ k)) ^^^ (-1)) = nI (clr s k) from nI_clr (by omega) (by omega)) ?_
  refine va_iald (pc := 26) hx hb hK.1 hP 2 0 rfl rfl (vp_in_nI (by omega) (by decide)) dX9_resultOf_26 ?_
  refine top_i (show rs (nI (clr s k)).toNatClampNeg = rs (clr s k) from by rw [nI_clamp (by omega)]) ?_
  refine top_i (show rs (clr s k) = iI (out c r (v ||| b1 (mem (opl c r u) k))) from hre) ?_
  refine lv_istore (pc := 27) (lv' := [(6, .int (iI (out c r (v ||| b1 (mem (opl c r u) k))))), (5, .int (nI (gai c r v (mem (opl c r u) k)))), (0, .ref mo), (1, .long v), (3, .int (nI s)), (4, .int (nI k))]) hx hb dX9_resultOf_27 hl (by decide) rfl (fun ls hl => ?_)
  refine lv_iload (pc := 29) hx hb dX9_resultOf_29 (lv_at hl 1 rfl) ?_
  refine n_if_le (pc := 31) (tgt := 42) hx hb (by omega) dX9_resultOf_31 (by decide) (fun c31 => ?_) (fun c31 => ?_)
  · refine lv_iload (pc := 42) hx hb dX9_resultOf_42 (lv_at hl 0 rfl) ?_
    refine lv_ineg (pc := 44) hx hb dX9_resultOf_44 ?_
    exact ro_iret (v := -(iI (out c r (v ||| b1 (mem (opl c r u) k))))) hx hb hr hlocks (by unfold wor wrF; rw [if_neg (by omega), iI_neg]) dX9_resultOf_45
  refine lv_iload (pc := 34) hx hb dX9_resultOf_34 (lv_at hl 1 rfl) ?_
  refine lv_iload (pc := 36) hx hb dX9_resultOf_36 (lv_at hl 0 rfl) ?_
  refine lv_iadd (pc := 38) hx hb dX9_resultOf_38 ?_
  refine lv_goto (pc := 39) (tgt := 45) hx hb dX9_resultOf_39 (by decide) ?_
  exact ro_iret (v := (nI (gai c r v (mem (opl c r u) k))) + (iI (out c r (v ||| b1 (mem (opl c r u) k))))) hx hb hr hlocks (by unfold wor wrF; rw [if_pos (by omega), iI_nI, iI_add]) dX9_resultOf_45

set_option maxHeartbeats 1200000 in
set_option maxRecDepth 100000 in
theorem c_X9_layResults (l : Launch) (D : va_G) (Y : vY) (mo : Nat) (th : Int32) (c : Nat) (r : Nat) (w : Int64) (pl : Nat) (n : Nat) (aML : Nat) (aMR : Nat) (aOW : Nat) (len : Nat) (aBU : Nat) (sn : Int32) (aSA : Nat) (aSZ : Nat) (aLP : Nat) (aOP : Nat) (aFT : Nat) (aOL : Nat) (aRS : Nat) (aCD : Nat) (pw : Int64) (pb : Int32) (ah : Int32) (hs : Int64) (od : Int32) (u : Int64) (ol : Nat → Int32) (rs : Nat → Int32) (hC : Cr c r) (hu0 : Onb c r u) (hu12 : und c r u ≤ 12) : Mu l yX9_layResults wsX9_layResults ({ frames := 6, cells := 0, slots := 0, locals := 144 } : Room) [.ref mo, .long u] D Y [(mo, .inr (8, [.int th, .int (nI c), .int (nI r), .long w, .int (nI pl), .int (nI n), .ref aML, .ref aMR, .ref aOW, .int (nI len), .ref aBU, .int sn, .ref aSA, .ref aSZ, .ref aLP, .ref aOP, .ref aFT, .int od, .ref aOL, .ref aRS, .ref aCD, .long pw, .int pb, .int ah, .long hs])), (aOL, .inl (Y.1, 12, .inl ol)), (aRS, .inl (Y.1, 4096, .inl rs))] (fun uS : (Nat → Int32) × (Nat → Int32) => none) (fun uS : (Nat → Int32) × (Nat → Int32) => [(mo, .inr (8, [.int th, .int (nI c), .int (nI r), .long w, .int (nI pl), .int (nI n), .ref aML, .ref aMR, .ref aOW, .int (nI len), .ref aBU, .int sn, .ref aSA, .ref aSZ, .ref aLP, .ref aOP, .ref aFT, .int (nI (und c r u)), .ref aOL, .ref aRS, .ref aCD, .long pw, .int pb, .int ah, .long hs])), (aOL, .inl (Y.1, 12, .inl uS.1)), (aRS, .inl (Y.1, 4096, .inl uS.2))]) (fun uS : (Nat → Int32) × (Nat → Int32) => SlOK c r (opl c r u) uS.1 (und c r u) ∧ BeOK c r (opl c r u) uS.2 (2 ^ und c r u)) := by
  refine mu_intro (by decide +kernel) rfl (Nat.le_of_ble_eq_true rfl) [(0, .ref mo), (1, .long u)] rfl ?_
  intro pG eG sG mG aG bG tG cG ls hx hb hr hml hts hown hlocks hK hP hD hS hl
  generalize hAA : adA [(mo, .inr (8, [.int th, .int (nI c), .int (nI r), .long w, .int (nI pl), .int (nI n), .ref aML, .ref aMR, .ref aOW, .int (nI len), .ref aBU, .int sn, .ref aSA, .ref aSZ, .ref aLP, .ref aOP, .ref aFT, .int od, .ref aOL, .ref aRS, .ref aCD, .long pw, .int pb, .int ah, .long hs])), (aOL, .inl (Y.1, 12, .inl ol)), (aRS, .inl (Y.1, 4096, .inl rs))] = AA at hD hS ⊢
  have hP : va_P D vwCl [(mo, .inr (8, [.int th, .int (nI c), .int (nI r), .long w, .int (nI pl), .int (nI n), .ref aML, .ref aMR, .ref aOW, .int (nI len), .ref aBU, .int sn, .ref aSA, .ref aSZ, .ref aLP, .ref aOP, .ref aFT, .int od, .ref aOL, .ref aRS, .ref aCD, .long pw, .int pb, .int ah, .long hs])), (aOL, .inl (Y.1, 12, .inl ol)), (aRS, .inl (Y.1, 4096, .inl rs))] sG.heap := hP
  have hD : va_D AA [(mo, .inr (8, [.int th, .int (nI c), .int (nI r), .long w, .int (nI pl), .int (nI n), .ref aML, .ref aMR, .ref aOW, .int (nI len), .ref aBU, .int sn, .ref aSA, .ref aSZ, .ref aLP, .ref aOP, .ref aFT, .int od, .ref aOL, .ref aRS, .ref aCD, .long pw, .int pb, .int ah, .long hs])), (aOL, .inl (Y.1, 12, .inl ol)), (aRS, .inl (Y.1, 4096, .inl rs))] := hD
  have hown : sG.vm.findClass RX9 = some mG.cls := hown
  have hl : lv_has ls 9 [(0, .ref mo), (1, .long u)] := hl
  have hinX9 : ∀ w ∈ u_ws RX9 TX9 25, w ∈ wsX9_layResults := by decide +kernel
  have hS : va_S AA sG.heap sG.heap [] := hS
  obtain ⟨hq1, hq2, hq3, hq4, hq5, hq6, hq7, hq8, hq9, hq10, hq11⟩ := hC.q
  have h2p := Nat.two_pow_pos (und c r u)
  have h2q : 2 ^ und c r u ≤ 4096 := Nat.pow_le_pow_right (by decide) hu12
  have hpp := opl_pop hC u
  refine lv_aload_n (pc := 0) hx hb dX9_layResults_0 rfl (lv_at hl 0 rfl) ?_
  refine lv_lload_n (pc := 1) hx hb dX9_layResults_1 rfl (lv_at hl 1 rfl) ?_
  refine mu_go (pc := 2) (va_runV (As := [.long u]) (rest := []) ⟨hx, hb, hml, hown, hts⟩ (c_X9_layOpen l D Y mo th c r w pl n aML aMR aOW len aBU sn aSA aSZ aLP aOP aFT aOL aRS aCD pw pb ah hs od u ol (hC) (hu12)) (cwV 1 hts gX9_layResults_X9_layOpen rfl rfl rfl ⟨rfl, hdX9_layOpen⟩ ⟨Nat.le_of_ble_eq_true rfl, Nat.le_of_ble_eq_true rfl⟩) (mu_pV hK (hP.sub [0, 1] rfl) (hD.sub [0, 1] (by decide) rfl) (ro_recv hK hP (ci := 8) (q0 := 0) rfl rfl)) rfl rfl hl.1 rfl (lv_room (Nat.le_of_ble_eq_true rfl)) dX9_layResults_2 ⟨Nat.le_of_ble_eq_true rfl, Nat.le_of_ble_eq_true rfl⟩) hP hD hS [0, 1] rfl (by decide) (fun uS => [(mo, .inr (8, [.int th, .int (nI c), .int (nI r), .long w, .int (nI pl), .int (nI n), .ref aML, .ref aMR, .ref aOW, .int (nI len), .ref aBU, .int sn, .ref aSA, .ref aSZ, .ref aLP, .ref aOP, .ref aFT, .int (nI (und c r u)), .ref aOL, .ref aRS, .ref aCD, .long pw, .int pb, .int ah, .long hs])), (aOL, .inl (Y.1, 12, .inl uS)), (aRS, .inl (Y.1, 4096, .inl rs))]) (fun _ => rfl) (fun _ => rfl) (fun ol2_2 H locs hpost hP hD hS => ?_)
  try dsimp only at hpost
  have hP : va_P D vwCl [(mo, .inr (8, [.int th, .int (nI c), .int (nI r), .long w, .int (nI pl), .int (nI n), .ref aML, .ref aMR, .ref aOW, .int (nI len), .ref aBU, .int sn, .ref aSA, .ref aSZ, .ref aLP, .ref aOP, .ref aFT, .int (nI (und c r u)), .ref aOL, .ref aRS, .ref aCD, .long pw, .int pb, .int ah, .long hs])), (aOL, .inl (Y.1, 12, .inl ol2_2)), (aRS, .inl (Y.1, 4096, .inl rs))] H := hP
  have hD : va_D AA [(mo, .inr (8, [.int th, .int (nI c), .int (nI r), .long w, .int (nI pl), .int (nI n), .ref aML, .ref aMR, .ref aOW, .int (nI len), .ref aBU, .int sn, .ref aSA, .ref aSZ, .ref aLP, .ref aOP, .ref aFT, .int (nI (und c r u)), .ref aOL, .ref aRS, .ref aCD, .long pw, .int pb, .int ah, .long hs])), (aOL, .inl (Y.1, 12, .inl ol2_2)), (aRS, .inl (Y.1, 4096, .inl rs))] := hD
  refine lv_aload_n (pc := 5) hx hb dX9_layResults_5 rfl (lv_at hl 0 rfl) ?_
  refine va_get (pc := 6) (D := D) (ci := 8) (v := .ref aRS) (C := RX9) (T := TX9) (N := 25) hx hb hts hinX9 hown hK.1 hP 0 rfl rfl 19 (by decide) (hts (.fieldLink RX9 48 "BoxesGameModel" "results" "[I") (List.mem_of_getElem? (i := 1) rfl)) (fun _ h9 => h9) rfl dX9_layResults_6 ?_
  refine lv_iconst (pc := 9) (v := nI 0) hx hb dX9_layResults_9 rfl ?_
  refine lv_iconst (pc := 10) (v := nI 0) hx hb dX9_layResults_10 rfl ?_
  refine va_iast (pc := 11) hx hb hK.1 hP hD hS 2 0 rfl rfl (vp_in_nI (by omega) (by decide)) dX9_layResults_11 (fun H locs hP hD hS => ?_)
  rw [nI_clamp (by omega)] at hP hD
  have hP : va_P D vwCl [(mo, .inr (8, [.int th, .int (nI c), .int (nI r), .long w, .int (nI pl), .int (nI n), .ref aML, .ref aMR, .ref aOW, .int (nI len), .ref aBU, .int sn, .ref aSA, .ref aSZ, .ref aLP, .ref aOP, .ref aFT, .int (nI (und c r u)), .ref aOL, .ref aRS, .ref aCD, .long pw, .int pb, .int ah, .long hs])), (aOL, .inl (Y.1, 12, .inl ol2_2)), (aRS, .inl (Y.1, 4096, .inl (upd rs 0 (nI 0))))] H := hP
  have hD : va_D AA [(mo, .inr (8, [.int th, .int (nI c), .int (nI r), .long w, .int (nI pl), .int (nI n), .ref aML, .ref aMR, .ref aOW, .int (nI len), .ref aBU, .int sn, .ref aSA, .ref aSZ, .ref aLP, .ref aOP, .ref aFT, .int (nI (und c r u)), .ref aOL, .ref aRS, .ref aCD, .long pw, .int pb, .int ah, .long hs])), (aOL, .inl (Y.1, 12, .inl ol2_2)), (aRS, .inl (Y.1, 4096, .inl (upd rs 0 (nI 0))))] := hD
  refine lv_iconst (pc := 12) (v := nI 1) hx hb dX9_layResults_12 rfl ?_
  refine lv_istore_n (pc := 13) (lv' := [(3, .int (nI 1)), (0, .ref mo), (1, .long u)]) hx hb dX9_layResults_13 rfl hl (by decide) rfl (fun ls hl => ?_)
  have L14 : ∀ (n14 : Nat), ∀ (s : Nat) (f : Nat → Int32), (1 ≤ s) → (s ≤ 2 ^ und c r u) → (BeOK c r (opl c r u) f s) → 2 ^ und c r u - s < n14 → ∀ (H : Heap) (locs : List Loc), va_P D vwCl [(mo, .inr (8, [.int th, .int (nI c), .int (nI r), .long w, .int (nI pl), .int (nI n), .ref aML, .ref aMR, .ref aOW, .int (nI len), .ref aBU, .int sn, .ref aSA, .ref aSZ, .ref aLP, .ref aOP, .ref aFT, .int (nI (und c r u)), .ref aOL, .ref aRS, .ref aCD, .long pw, .int pb, .int ah, .long hs])), (aOL, .inl (Y.1, 12, .inl ol2_2)), (aRS, .inl (Y.1, 4096, .inl f))] H → va_D AA [(mo, .inr (8, [.int th, .int (nI c), .int (nI r), .long w, .int (nI pl), .int (nI n), .ref aML, .ref aMR, .ref aOW, .int (nI len), .ref aBU, .int sn, .ref aSA, .ref aSZ, .ref aLP, .ref aOP, .ref aFT, .int (nI (und c r u)), .ref aOL, .ref aRS, .ref aCD, .long pw, .int pb, .int ah, .long hs])), (aOL, .inl (Y.1, 12, .inl ol2_2)), (aRS, .inl (Y.1, 4096, .inl f))] → va_S AA sG.heap H locs → ∀ (ls : Array Slot), lv_has ls 9 [(0, .ref mo), (1, .long u), (3, .int (nI s))] → W pG l eG ({ frames := 6, cells := 0, slots := 0, locals := 144 } : Room) sG mG aG bG tG cG H locs 0 0 (MQ bG (MuQ D [(mo, .inr (8, [.int th, .int (nI c), .int (nI r), .long w, .int (nI pl), .int (nI n), .ref aML, .ref aMR, .ref aOW, .int (nI len), .ref aBU, .int sn, .ref aSA, .ref aSZ, .ref aLP, .ref aOP, .ref aFT, .int od, .ref aOL, .ref aRS, .ref aCD, .long pw, .int pb, .int ah, .long hs])), (aOL, .inl (Y.1, 12, .inl ol)), (aRS, .inl (Y.1, 4096, .inl rs))] (fun uS : (Nat → Int32) × (Nat → Int32) => none) (fun uS : (Nat → Int32) × (Nat → Int32) => [(mo, .inr (8, [.int th, .int (nI c), .int (nI r), .long w, .int (nI pl), .int (nI n), .ref aML, .ref aMR, .ref aOW, .int (nI len), .ref aBU, .int sn, .ref aSA, .ref aSZ, .ref aLP, .ref aOP, .ref aFT, .int (nI (und c r u)), .ref aOL, .ref aRS, .ref aCD, .long pw, .int pb, .int ah, .long hs])), (aOL, .inl (Y.1, 12, .inl uS.1)), (aRS, .inl (Y.1, 4096, .inl uS.2))]) (fun uS : (Nat → Int32) × (Nat → Int32) => SlOK c r (opl c r u) uS.1 (und c r u) ∧ BeOK c r (opl c r u) uS.2 (2 ^ und c r u))) aG sG 0 0 AA) (F0 mG 14 ls []) := by
    intro n14
    induction n14 with
    | zero =>
      intro s f h1s hs8 hbe hmeas14 H locs hP hD hS ls hl
      exact absurd hmeas14 (Nat.not_lt_zero _)
    | succ n14 ih14 =>
      intro s f h1s hs8 hbe hmeas14 H locs hP hD hS ls hl
      refine lv_iload_n (pc := 14) hx hb dX9_layResults_14 rfl (lv_at hl 2 rfl) ?_
      refine lv_iconst (pc := 15) (v := nI 1) hx hb dX9_layResults_15 rfl ?_
      refine lv_aload_n (pc := 16) hx hb dX9_layResults_16 rfl (lv_at hl 0 rfl) ?_
      refine va_get (pc := 17) (D := D) (ci := 8) (v := .int (nI (und c r u))) (C := RX9) (T := TX9) (N := 25) hx hb hts hinX9 hown hK.1 hP 0 rfl rfl 17 (by decide) (hts (.fieldLink RX9 226 "BoxesGameModel" "opened" "I") (List.mem_of_getElem? (i := 2) rfl)) (fun _ h9 => h9) rfl dX9_layResults_17 ?_
      refine lv_ishl (pc := 20) hx hb dX9_layResults_20 ?_
      refine top_i (show (nI 1) <<< ((nI (und c r u)) &&& 31) = nI (2 ^ und c r u) from shl1 _ (by omega)) ?_
      refine n_icmp_ge (pc := 21) (tgt := 110) hx hb (by omega) (by omega) dX9_layResults_21 (by decide) (fun c21 => ?_) (fun c21 => ?_)
      · subst hAA
        exact mu_vret hx hb hr hlocks hP hS (⟨ol2_2, f⟩) (rfl) (⟨hpost, by rw [show 2 ^ und c r u = s by omega]; exact hbe⟩) (rfl) dX9_layResults_110
      have hs4 := pow12 hu12 c21
      refine lv_aload_n (pc := 24) hx hb dX9_layResults_24 rfl (lv_at hl 0 rfl) ?_
      refine lv_lload_n (pc := 25) hx hb dX9_layResults_25 rfl (lv_at hl 1 rfl) ?_
      refine lv_iload_n (pc := 26) hx hb dX9_layResults_26 rfl (lv_at hl 2 rfl) ?_
      refine ro_go (pc := 27) (va_runV (As := [.long u, .int (nI s)]) (rest := []) ⟨hx, hb, hml, hown, hts⟩ (c_X9_without l D Y mo c r ([.int th, .int (nI c), .int (nI r), .long w, .int (nI pl), .int (nI n), .ref aML, .ref aMR, .ref aOW, .int (nI len), .ref aBU, .int sn, .ref aSA, .ref aSZ, .ref aLP, .ref aOP, .ref aFT, .int (nI (und c r u)), .ref aOL, .ref aRS, .ref aCD, .long pw, .int pb, .int ah, .long hs]) aOL u s ol2_2 (by first | assumption | exact ⟨rfl, rfl⟩) (hC) (by first | assumption | rfl) (by first | assumption | rfl) (hu0) (hu12) (hpost) (c21)) (cwV 2 hts gX9_layResults_X9_without rfl rfl rfl ⟨rfl, hdX9_without⟩ ⟨Nat.le_of_ble_eq_true rfl, Nat.le_of_ble_eq_true rfl⟩) (ro_pV hK (hP.sub [0, 1] rfl) (ro_recv hK hP (ci := 8) (q0 := 0) rfl rfl)) rfl rfl hl.1 rfl (lv_room (Nat.le_of_ble_eq_true rfl)) dX9_layResults_27 ⟨Nat.le_of_ble_eq_true rfl, Nat.le_of_ble_eq_true rfl⟩) ?_
      refine lv_lstore (pc := 30) (lv' := [(4, .long (pS c r (opl c r u) s)), (0, .ref mo), (1, .long u), (3, .int (nI s))]) hx hb dX9_layResults_30 hl (by decide) rfl (fun ls hl => ?_)
      refine lv_bipush (pc := 32) (v := (-100)) hx hb dX9_layResults_32 (by decide) ?_
      refine top_i (show (-100) = iI (-100) from by decide) ?_
      refine lv_istore (pc := 34) (lv' := [(6, .int (iI (-100))), (4, .long (pS c r (opl c r u) s)), (0, .ref mo), (1, .long u), (3, .int (nI s))]) hx hb dX9_layResults_34 hl (by decide) rfl (fun ls hl => ?_)
      refine lv_iconst (pc := 36) (v := nI 0) hx hb dX9_layResults_36 rfl ?_
      refine lv_istore (pc := 37) (lv' := [(7, .int (nI 0)), (6, .int (iI (-100))), (4, .long (pS c r (opl c r u) s)), (0, .ref mo), (1, .long u), (3, .int (nI s))]) hx hb dX9_layResults_37 hl (by decide) rfl (fun ls hl => ?_)
      have L39 : ∀ (n39 : Nat), ∀ (i : Nat) (z : Int), (i ≤ und c r u) → (-100 ≤ z ∧ z ≤ 18) → (∀ k, k < i → s.testBit k = true → wor c r (pS c r (opl c r u) s) (mem (opl c r u) k) ≤ z) → (z = -100 ∧ (∀ k, k < i → s.testBit k = false) ∨ ∃ k, k < i ∧ s.testBit k = true ∧ z = wor c r (pS c r (opl c r u) s) (mem (opl c r u) k)) → und c r u - i < n39 → ∀ (H : Heap) (locs : List Loc), va_P D vwCl [(mo, .inr (8, [.int th, .int (nI c), .int (nI r), .long w, .int (nI pl), .int (nI n), .ref aML, .ref aMR, .ref aOW, .int (nI len), .ref aBU, .int sn, .ref aSA, .ref aSZ, .ref aLP, .ref aOP, .ref aFT, .int (nI (und c r u)), .ref aOL, .ref aRS, .ref aCD, .long pw, .int pb, .int ah, .long hs])), (aOL, .inl (Y.1, 12, .inl ol2_2)), (aRS, .inl (Y.1, 4096, .inl f))] H → va_D AA [(mo, .inr (8, [.int th, .int (nI c), .int (nI r), .long w, .int (nI pl), .int (nI n), .ref aML, .ref aMR, .ref aOW, .int (nI len), .ref aBU, .int sn, .ref aSA, .ref aSZ, .ref aLP, .ref aOP, .ref aFT, .int (nI (und c r u)), .ref aOL, .ref aRS, .ref aCD, .long pw, .int pb, .int ah, .long hs])), (aOL, .inl (Y.1, 12, .inl ol2_2)), (aRS, .inl (Y.1, 4096, .inl f))] → va_S AA sG.heap H locs → ∀ (ls : Array Slot), lv_has ls 9 [(0, .ref mo), (1, .long u), (3, .int (nI s)), (4, .long (pS c r (opl c r u) s)), (6, .int (iI z)), (7, .int (nI i))] → W pG l eG ({ frames := 6, cells := 0, slots := 0, locals := 144 } : Room) sG mG aG bG tG cG H locs 0 0 (MQ bG (MuQ D [(mo, .inr (8, [.int th, .int (nI c), .int (nI r), .long w, .int (nI pl), .int (nI n), .ref aML, .ref aMR, .ref aOW, .int (nI len), .ref aBU, .int sn, .ref aSA, .ref aSZ, .ref aLP, .ref aOP, .ref aFT, .int od, .ref aOL, .ref aRS, .ref aCD, .long pw, .int pb, .int ah, .long hs])), (aOL, .inl (Y.1, 12, .inl ol)), (aRS, .inl (Y.1, 4096, .inl rs))] (fun uS : (Nat → Int32) × (Nat → Int32) => none) (fun uS : (Nat → Int32) × (Nat → Int32) => [(mo, .inr (8, [.int th, .int (nI c), .int (nI r), .long w, .int (nI pl), .int (nI n), .ref aML, .ref aMR, .ref aOW, .int (nI len), .ref aBU, .int sn, .ref aSA, .ref aSZ, .ref aLP, .ref aOP, .ref aFT, .int (nI (und c r u)), .ref aOL, .ref aRS, .ref aCD, .long pw, .int pb, .int ah, .long hs])), (aOL, .inl (Y.1, 12, .inl uS.1)), (aRS, .inl (Y.1, 4096, .inl uS.2))]) (fun uS : (Nat → Int32) × (Nat → Int32) => SlOK c r (opl c r u) uS.1 (und c r u) ∧ BeOK c r (opl c r u) uS.2 (2 ^ und c r u))) aG sG 0 0 AA) (F0 mG 39 ls []) := by
        intro n39
        induction n39 with
        | zero =>
          intro i z hi hz9 h1 h2 hmeas39 H locs hP hD hS ls hl
          exact absurd hmeas39 (Nat.not_lt_zero _)
        | succ n39 ih39 =>
          intro i z hi hz9 h1 h2 hmeas39 H locs hP hD hS ls hl
          refine lv_iload (pc := 39) hx hb dX9_layResults_39 (lv_at hl 5 rfl) ?_
          refine lv_aload_n (pc := 41) hx hb dX9_layResults_41 rfl (lv_at hl 0 rfl) ?_
          refine va_get (pc := 42) (D := D) (ci := 8) (v := .int (nI (und c r u))) (C := RX9) (T := TX9) (N := 25) hx hb hts hinX9 hown hK.1 hP 0 rfl rfl 17 (by decide) (hts (.fieldLink RX9 226 "BoxesGameModel" "opened" "I") (List.mem_of_getElem? (i := 2) rfl)) (fun _ h9 => h9) rfl dX9_layResults_42 ?_
          refine n_icmp_ge (pc := 45) (tgt := 96) hx hb (by omega) (by omega) dX9_layResults_45 (by decide) (fun c45 => ?_) (fun c45 => ?_)
          · have hzf : z = out c r (pS c r (opl c r u) s) := gw_end2 hC (opl_lt hC u) (by omega) (by rw [hpp]; exact c21) (fun k hk => h1 k (by omega)) (by rw [hpp, show und c r u = i by omega]; exact h2)
            refine lv_aload_n (pc := 96) hx hb dX9_layResults_96 rfl (lv_at hl 0 rfl) ?_
            refine va_get (pc := 97) (D := D) (ci := 8) (v := .ref aRS) (C := RX9) (T := TX9) (N := 25) hx hb hts hinX9 hown hK.1 hP 0 rfl rfl 19 (by decide) (hts (.fieldLink RX9 48 "BoxesGameModel" "results" "[I") (List.mem_of_getElem? (i := 1) rfl)) (fun _ h9 => h9) rfl dX9_layResults_97 ?_
            refine lv_iload_n (pc := 100) hx hb dX9_layResults_100 rfl (lv_at hl 2 rfl) ?_
            refine lv_iload (pc := 101) hx hb dX9_layResults_101 (lv_at hl 4 rfl) ?_
            refine va_iast (pc := 103) hx hb hK.1 hP hD hS 2 0 rfl rfl (vp_in_nI (by omega) (by decide)) dX9_layResults_103 (fun H locs hP hD hS => ?_)
            rw [nI_clamp (by omega)] at hP hD
            have hP : va_P D vwCl [(mo, .inr (8, [.int th, .int (nI c), .int (nI r), .long w, .int (nI pl), .int (nI n), .ref aML, .ref aMR, .ref aOW, .int (nI len), .ref aBU, .int sn, .ref aSA, .ref aSZ, .ref aLP, .ref aOP, .ref aFT, .int (nI (und c r u)), .ref aOL, .ref aRS, .ref aCD, .long pw, .int pb, .int ah, .long hs])), (aOL, .inl (Y.1, 12, .inl ol2_2)), (aRS, .inl (Y.1, 4096, .inl (upd f s (iI z))))] H := hP
            have hD : va_D AA [(mo, .inr (8, [.int th, .int (nI c), .int (nI r), .long w, .int (nI pl), .int (nI n), .ref aML, .ref aMR, .ref aOW, .int (nI len), .ref aBU, .int sn, .ref aSA, .ref aSZ, .ref aLP, .ref aOP, .ref aFT, .int (nI (und c r u)), .ref aOL, .ref aRS, .ref aCD, .long pw, .int pb, .int ah, .long hs])), (aOL, .inl (Y.1, 12, .inl ol2_2)), (aRS, .inl (Y.1, 4096, .inl (upd f s (iI z))))] := hD
            refine lv_iinc (pc := 104) (v := nI (s + 1)) (lv' := [(3, .int (nI (s + 1))), (0, .ref mo), (1, .long u), (4, .long (pS c r (opl c r u) s)), (6, .int (iI z)), (7, .int (nI i))]) hx hb dX9_layResults_104 hl (k := 2) rfl (n_inc s 1) (by decide) rfl (fun ls hl => ?_)
            refine lv_goto (pc := 107) (tgt := 14) hx hb dX9_layResults_107 (by decide) ?_
            exact ih14 (s + 1) (upd f s (iI z)) (by first | assumption | omega) (by first | assumption | omega) (lt_s (fun t ht => by rw [pk_un (by omega)]; exact hbe t ht) (by rw [pk_us, hzf])) (by omega) _ _ hP hD hS _ (lv_sub hl [1, 2, 0] rfl)
          refine lv_iload_n (pc := 48) hx hb dX9_layResults_48 rfl (lv_at hl 2 rfl) ?_
          refine lv_i2l (pc := 49) (v := lN s) hx hb dX9_layResults_49 (nI_l (by omega)) ?_
          refine lv_iload (pc := 50) hx hb dX9_layResults_50 (lv_at hl 5 rfl) ?_
          refine ro_go (pc := 52) (va_runS (As := [.long (lN s), .int (nI i)]) (rest := []) ⟨hx, hb, hml, hown, hts⟩ (c_X9_has l D Y (lN s) i (by omega)) (va_cwS 2 hts gX9_layResults_X9_has rfl rfl rfl hdX9_has ⟨Nat.le_of_ble_eq_true rfl, Nat.le_of_ble_eq_true rfl⟩) (ro_pS hK (hP.sub [] rfl)) rfl rfl hl.1 rfl (lv_room (Nat.le_of_ble_eq_true rfl)) dX9_layResults_52 ⟨Nat.le_of_ble_eq_true rfl, Nat.le_of_ble_eq_true rfl⟩) ?_
          refine z_if_eq (pc := 55) (tgt := 70) hx hb dX9_layResults_55 (by decide) (fun c55 => ?_) (fun c55 => ?_)
          · have hnb : s.testBit i = false := by rw [← tb_lN (by omega)]; exact c55
            refine lv_bipush (pc := 70) (v := (-100)) hx hb dX9_layResults_70 (by decide) ?_
            refine top_i (show (-100) = iI (-100) from by decide) ?_
            refine lv_istore (pc := 72) (lv' := [(8, .int (iI (-100))), (0, .ref mo), (1, .long u), (3, .int (nI s)), (4, .long (pS c r (opl c r u) s)), (6, .int (iI z)), (7, .int (nI i))]) hx hb dX9_layResults_72 hl (by decide) rfl (fun ls hl => ?_)
            refine lv_iload (pc := 74) hx hb dX9_layResults_74 (lv_at hl 0 rfl) ?_
            refine lv_iload (pc := 76) hx hb dX9_layResults_76 (lv_at hl 5 rfl) ?_
            refine lv_icmp_le (pc := 78) (tgt := 86) hx hb dX9_layResults_78 (by decide) (fun c78 => ?_) (fun c78 => ?_)
            · have c78z := (iI_le (by omega) (by omega) (by omega) (by omega)).mp c78
              refine lv_iload (pc := 86) hx hb dX9_layResults_86 (lv_at hl 5 rfl) ?_
              refine lv_istore (pc := 88) (lv' := [(6, .int (iI z)), (8, .int (iI (-100))), (0, .ref mo), (1, .long u), (3, .int (nI s)), (4, .long (pS c r (opl c r u) s)), (7, .int (nI i))]) hx hb dX9_layResults_88 hl (by decide) rfl (fun ls hl => ?_)
              refine lv_iinc (pc := 90) (v := nI (i + 1)) (lv' := [(7, .int (nI (i + 1))), (6, .int (iI z)), (8, .int (iI (-100))), (0, .ref mo), (1, .long u), (3, .int (nI s)), (4, .long (pS c r (opl c r u) s))]) hx hb dX9_layResults_90 hl (k := 6) rfl (n_inc i 1) (by decide) rfl (fun ls hl => ?_)
              refine lv_goto (pc := 93) (tgt := 39) hx hb dX9_layResults_93 (by decide) ?_
              exact ih39 (i + 1) z (by first | assumption | omega) (hz9) (lt_s h1 (fun q => by rw [hnb] at q; cases q)) (h2.imp (fun ⟨q1, q2⟩ => ⟨q1, lt_s q2 hnb⟩) (fun ⟨k, q1, q2⟩ => ⟨k, by omega, q2⟩)) (by omega) _ _ hP hD hS _ (lv_sub hl [3, 4, 5, 6, 1, 0] rfl)
            · exact absurd ((iI_le (by omega) (by omega) (by omega) (by omega)).mpr (by omega)) c78
          have hbt : s.testBit i = true := by rw [← tb_lN (by omega)]; exact c55
          have hcl := clr_less hbt
          have hwb := wor_b (l := mem (opl c r u) i) hC (pS c r (opl c r u) s)
          refine lv_aload_n (pc := 58) hx hb dX9_layResults_58 rfl (lv_at hl 0 rfl) ?_
          refine lv_lload (pc := 59) hx hb dX9_layResults_59 (lv_at hl 3 rfl) ?_
          refine lv_iload_n (pc := 61) hx hb dX9_layResults_61 rfl (lv_at hl 2 rfl) ?_
          refine lv_iload (pc := 62) hx hb dX9_layResults_62 (lv_at hl 5 rfl) ?_
          refine ro_go (pc := 64) (va_runV (As := [.long (pS c r (opl c r u) s), .int (nI s), .int (nI i)]) (rest := []) ⟨hx, hb, hml, hown, hts⟩ (c_X9_resultOf l D Y mo c r ([.int th, .int (nI c), .int (nI r), .long w, .int (nI pl), .int (nI n), .ref aML, .ref aMR, .ref aOW, .int (nI len), .ref aBU, .int sn, .ref aSA, .ref aSZ, .ref aLP, .ref aOP, .ref aFT, .int (nI (und c r u)), .ref aOL, .ref aRS, .ref aCD, .long pw, .int pb, .int ah, .long hs]) aOL aRS u (pS c r (opl c r u) s) s i ol2_2 f (by first | assumption | exact ⟨rfl, rfl⟩) (hC) (by first | assumption | rfl) (by first | assumption | rfl) (hu12) (c45) (c21) (hbt) (hpost i c45) (rfl) (hbe _ hcl)) (cwV 3 hts gX9_layResults_X9_resultOf rfl rfl rfl ⟨rfl, hdX9_resultOf⟩ ⟨Nat.le_of_ble_eq_true rfl, Nat.le_of_ble_eq_true rfl⟩) (ro_pV hK hP (ro_recv hK hP (ci := 8) (q0 := 0) rfl rfl)) rfl rfl hl.1 rfl (lv_room (Nat.le_of_ble_eq_true rfl)) dX9_layResults_64 ⟨Nat.le_of_ble_eq_true rfl, Nat.le_of_ble_eq_true rfl⟩) ?_
          refine lv_goto (pc := 67) (tgt := 72) hx hb dX9_layResults_67 (by decide) ?_
          refine lv_istore (pc := 72) (lv' := [(8, .int (iI (wor c r (pS c r (opl c r u) s) (mem (opl c r u) i)))), (0, .ref mo), (1, .long u), (3, .int (nI s)), (4, .long (pS c r (opl c r u) s)), (6, .int (iI z)), (7, .int (nI i))]) hx hb dX9_layResults_72 hl (by decide) rfl (fun ls hl => ?_)
          refine lv_iload (pc := 74) hx hb dX9_layResults_74 (lv_at hl 0 rfl) ?_
          refine lv_iload (pc := 76) hx hb dX9_layResults_76 (lv_at hl 5 rfl) ?_
          refine lv_icmp_le (pc := 78) (tgt := 86) hx hb dX9_layResults_78 (by decide) (fun c78 => ?_) (fun c78 => ?_)
          · have c78z := (iI_le (by omega) (by omega) (by omega) (by omega)).mp c78
            refine lv_iload (pc := 86) hx hb dX9_layResults_86 (lv_at hl 5 rfl) ?_
            refine lv_istore (pc := 88) (lv' := [(6, .int (iI z)), (8, .int (iI (wor c r (pS c r (opl c r u) s) (mem (opl c r u) i)))), (0, .ref mo), (1, .long u), (3, .int (nI s)), (4, .long (pS c r (opl c r u) s)), (7, .int (nI i))]) hx hb dX9_layResults_88 hl (by decide) rfl (fun ls hl => ?_)
            refine lv_iinc (pc := 90) (v := nI (i + 1)) (lv' := [(7, .int (nI (i + 1))), (6, .int (iI z)), (8, .int (iI (wor c r (pS c r (opl c r u) s) (mem (opl c r u) i)))), (0, .ref mo), (1, .long u), (3, .int (nI s)), (4, .long (pS c r (opl c r u) s))]) hx hb dX9_layResults_90 hl (k := 6) rfl (n_inc i 1) (by decide) rfl (fun ls hl => ?_)
            refine lv_goto (pc := 93) (tgt := 39) hx hb dX9_layResults_93 (by decide) ?_
            exact ih39 (i + 1) z (by first | assumption | omega) (by have := wor_b (l := mem (opl c r u) i) hC (pS c r (opl c r u) s); omega) (lt_s h1 (fun _ => c78z)) (h2.elim (fun ⟨q1, _⟩ => absurd c78z (by have := wor_b (l := mem (opl c r u) i) hC (pS c r (opl c r u) s); omega)) (fun ⟨k, q1, q2⟩ => Or.inr ⟨k, by omega, q2⟩)) (by omega) _ _ hP hD hS _ (lv_sub hl [3, 4, 5, 6, 1, 0] rfl)
          have c78z : ¬ _ := fun q => c78 ((iI_le (by omega) (by omega) (by omega) (by omega)).mpr q)
          refine lv_iload (pc := 81) hx hb dX9_layResults_81 (lv_at hl 0 rfl) ?_
          refine lv_goto (pc := 83) (tgt := 88) hx hb dX9_layResults_83 (by decide) ?_
          refine lv_istore (pc := 88) (lv' := [(6, .int (iI (wor c r (pS c r (opl c r u) s) (mem (opl c r u) i)))), (8, .int (iI (wor c r (pS c r (opl c r u) s) (mem (opl c r u) i)))), (0, .ref mo), (1, .long u), (3, .int (nI s)), (4, .long (pS c r (opl c r u) s)), (7, .int (nI i))]) hx hb dX9_layResults_88 hl (by decide) rfl (fun ls hl => ?_)
          refine lv_iinc (pc := 90) (v := nI (i + 1)) (lv' := [(7, .int (nI (i + 1))), (6, .int (iI (wor c r (pS c r (opl c r u) s) (mem (opl c r u) i)))), (8, .int (iI (wor c r (pS c r (opl c r u) s) (mem (opl c r u) i)))), (0, .ref mo), (1, .long u), (3, .int (nI s)), (4, .long (pS c r (opl c r u) s))]) hx hb dX9_layResults_90 hl (k := 6) rfl (n_inc i 1) (by decide) rfl (fun ls hl => ?_)
          refine lv_goto (pc := 93) (tgt := 39) hx hb dX9_layResults_93 (by decide) ?_
          exact ih39 (i + 1) (wor c r (pS c r (opl c r u) s) (mem (opl c r u) i)) (by first | assumption | omega) (by have := wor_b (l := mem (opl c r u) i) hC (pS c r (opl c r u) s); omega) (lt_s (fun k hk q => by have := h1 k hk q; omega) (fun _ => Int.le_refl _)) (Or.inr ⟨i, by omega, hbt, rfl⟩) (by omega) _ _ hP hD hS _ (lv_sub hl [3, 4, 5, 6, 1, 0] rfl)
      exact L39 ((und c r u - 0) + 1) 0 (-100) (by first | assumption | omega) (by omega) (fun k h => absurd h (Nat.not_lt_zero _)) (Or.inl ⟨rfl, fun k h => absurd h (Nat.not_lt_zero _)⟩) (Nat.lt_succ_self _) _ _ hP hD hS _ (lv_sub hl [3, 4, 5, 2, 1, 0] rfl)
  exact L14 ((2 ^ und c r u - 1) + 1) 1 (upd rs 0 (nI 0)) (by first | assumption | omega) (by first | assumption | omega) (fun t ht => by rw [show t = 0 by omega, pk_us, be_0 hC]; rfl) (Nat.lt_succ_self _) _ _ hP hD hS _ (lv_sub hl [1, 2, 0] rfl)

set_option maxHeartbeats 1200000 in
set_option maxRecDepth 100000 in
theorem c_X9_outcomeNow (l : Launch) (D : va_G) (Y : vY) (mo : Nat) (th : Int32) (c : Nat) (r : Nat) (w : Int64) (pl : Nat) (n : Nat) (aML : Nat) (aMR : Nat) (aOW : Nat) (len : Nat) (aBU : Nat) (sn : Int32) (aSA : Nat) (aSZ : Nat) (aLP : Nat) (aOP : Nat) (aFT : Nat) (aOL : Nat) (aRS : Nat) (aCD : Nat) (pw : Int64) (pb : Int32) (ah : Int32) (hs : Int64) (od : Int32) (ol : Nat → Int32) (rs : Nat → Int32) (hC : Cr c r) (hw0 : Onb c r w) (hu12 : und c r w ≤ 12) : Mu l yX9_outcomeNow wsX9_outcomeNow ({ frames := 7, cells := 0, slots := 0, locals := 172 } : Room) [.ref mo] D Y [(mo, .inr (8, [.int th, .int (nI c), .int (nI r), .long w, .int (nI pl), .int (nI n), .ref aML, .ref aMR, .ref aOW, .int (nI len), .ref aBU, .int sn, .ref aSA, .ref aSZ, .ref aLP, .ref aOP, .ref aFT, .int od, .ref aOL, .ref aRS, .ref aCD, .long pw, .int pb, .int ah, .long hs])), (aOL, .inl (Y.1, 12, .inl ol)), (aRS, .inl (Y.1, 4096, .inl rs))] (fun uS : (Nat → Int32) × (Nat → Int32) => some (.int (iI (out c r w)))) (fun uS : (Nat → Int32) × (Nat → Int32) => [(mo, .inr (8, [.int th, .int (nI c), .int (nI r), .long w, .int (nI pl), .int (nI n), .ref aML, .ref aMR, .ref aOW, .int (nI len), .ref aBU, .int sn, .ref aSA, .ref aSZ, .ref aLP, .ref aOP, .ref aFT, .int (nI (und c r w)), .ref aOL, .ref aRS, .ref aCD, .long pw, .int pb, .int ah, .long hs])), (aOL, .inl (Y.1, 12, .inl uS.1)), (aRS, .inl (Y.1, 4096, .inl uS.2))]) (fun uS : (Nat → Int32) × (Nat → Int32) => True) := by
  refine mu_intro (by decide +kernel) rfl (Nat.le_of_ble_eq_true rfl) [(0, .ref mo)] rfl ?_
  intro pG eG sG mG aG bG tG cG ls hx hb hr hml hts hown hlocks hK hP hD hS hl
  generalize hAA : adA [(mo, .inr (8, [.int th, .int (nI c), .int (nI r), .long w, .int (nI pl), .int (nI n), .ref aML, .ref aMR, .ref aOW, .int (nI len), .ref aBU, .int sn, .ref aSA, .ref aSZ, .ref aLP, .ref aOP, .ref aFT, .int od, .ref aOL, .ref aRS, .ref aCD, .long pw, .int pb, .int ah, .long hs])), (aOL, .inl (Y.1, 12, .inl ol)), (aRS, .inl (Y.1, 4096, .inl rs))] = AA at hD hS ⊢
  have hP : va_P D vwCl [(mo, .inr (8, [.int th, .int (nI c), .int (nI r), .long w, .int (nI pl), .int (nI n), .ref aML, .ref aMR, .ref aOW, .int (nI len), .ref aBU, .int sn, .ref aSA, .ref aSZ, .ref aLP, .ref aOP, .ref aFT, .int od, .ref aOL, .ref aRS, .ref aCD, .long pw, .int pb, .int ah, .long hs])), (aOL, .inl (Y.1, 12, .inl ol)), (aRS, .inl (Y.1, 4096, .inl rs))] sG.heap := hP
  have hD : va_D AA [(mo, .inr (8, [.int th, .int (nI c), .int (nI r), .long w, .int (nI pl), .int (nI n), .ref aML, .ref aMR, .ref aOW, .int (nI len), .ref aBU, .int sn, .ref aSA, .ref aSZ, .ref aLP, .ref aOP, .ref aFT, .int od, .ref aOL, .ref aRS, .ref aCD, .long pw, .int pb, .int ah, .long hs])), (aOL, .inl (Y.1, 12, .inl ol)), (aRS, .inl (Y.1, 4096, .inl rs))] := hD
  have hown : sG.vm.findClass RX9 = some mG.cls := hown
  have hl : lv_has ls 1 [(0, .ref mo)] := hl
  have hinX9 : ∀ w ∈ u_ws RX9 TX9 25, w ∈ wsX9_outcomeNow := by decide +kernel
  have hS : va_S AA sG.heap sG.heap [] := hS
  obtain ⟨hq1, hq2, hq3, hq4, hq5, hq6, hq7, hq8, hq9, hq10, hq11⟩ := hC.q
  have h2p := Nat.two_pow_pos (und c r w)
  have h2q : 2 ^ und c r w ≤ 4096 := Nat.pow_le_pow_right (by decide) hu12
  refine lv_aload_n (pc := 0) hx hb dX9_outcomeNow_0 rfl (lv_at hl 0 rfl) ?_
  refine lv_aload_n (pc := 1) hx hb dX9_outcomeNow_1 rfl (lv_at hl 0 rfl) ?_
  refine va_get (pc := 2) (D := D) (ci := 8) (v := .long w) (C := RX9) (T := TX9) (N := 25) hx hb hts hinX9 hown hK.1 hP 0 rfl rfl 3 (by decide) (hts (.fieldLink RX9 119 "BoxesGameModel" "now" "J") (List.mem_of_getElem? (i := 1) rfl)) (fun _ h9 => h9) rfl dX9_outcomeNow_2 ?_
  refine mu_go (pc := 5) (va_runV (As := [.long w]) (rest := []) ⟨hx, hb, hml, hown, hts⟩ (c_X9_layResults l D Y mo th c r w pl n aML aMR aOW len aBU sn aSA aSZ aLP aOP aFT aOL aRS aCD pw pb ah hs od w ol rs (hC) (hw0) (hu12)) (cwV 1 hts gX9_outcomeNow_X9_layResults rfl rfl rfl ⟨rfl, hdX9_layResults⟩ ⟨Nat.le_of_ble_eq_true rfl, Nat.le_of_ble_eq_true rfl⟩) (mu_pV hK hP hD (ro_recv hK hP (ci := 8) (q0 := 0) rfl rfl)) rfl rfl hl.1 rfl (lv_room (Nat.le_of_ble_eq_true rfl)) dX9_outcomeNow_5 ⟨Nat.le_of_ble_eq_true rfl, Nat.le_of_ble_eq_true rfl⟩) hP hD hS [0, 1, 2] rfl (by decide) (fun uS => [(mo, .inr (8, [.int th, .int (nI c), .int (nI r), .long w, .int (nI pl), .int (nI n), .ref aML, .ref aMR, .ref aOW, .int (nI len), .ref aBU, .int sn, .ref aSA, .ref aSZ, .ref aLP, .ref aOP, .ref aFT, .int (nI (und c r w)), .ref aOL, .ref aRS, .ref aCD, .long pw, .int pb, .int ah, .long hs])), (aOL, .inl (Y.1, 12, .inl uS.1)), (aRS, .inl (Y.1, 4096, .inl uS.2))]) (fun _ => rfl) (fun _ => rfl) (fun uS H locs hpost hP hD hS => ?_)
  obtain ⟨ol2_5, rs2_5⟩ := uS
  try dsimp only at hpost
  have hP : va_P D vwCl [(mo, .inr (8, [.int th, .int (nI c), .int (nI r), .long w, .int (nI pl), .int (nI n), .ref aML, .ref aMR, .ref aOW, .int (nI len), .ref aBU, .int sn, .ref aSA, .ref aSZ, .ref aLP, .ref aOP, .ref aFT, .int (nI (und c r w)), .ref aOL, .ref aRS, .ref aCD, .long pw, .int pb, .int ah, .long hs])), (aOL, .inl (Y.1, 12, .inl ol2_5)), (aRS, .inl (Y.1, 4096, .inl rs2_5))] H := hP
  have hD : va_D AA [(mo, .inr (8, [.int th, .int (nI c), .int (nI r), .long w, .int (nI pl), .int (nI n), .ref aML, .ref aMR, .ref aOW, .int (nI len), .ref aBU, .int sn, .ref aSA, .ref aSZ, .ref aLP, .ref aOP, .ref aFT, .int (nI (und c r w)), .ref aOL, .ref aRS, .ref aCD, .long pw, .int pb, .int ah, .long hs])), (aOL, .inl (Y.1, 12, .inl ol2_5)), (aRS, .inl (Y.1, 4096, .inl rs2_5))] := hD
  refine lv_aload_n (pc := 8) hx hb dX9_outcomeNow_8 rfl (lv_at hl 0 rfl) ?_
  refine va_get (pc := 9) (D := D) (ci := 8) (v := .ref aRS) (C := RX9) (T := TX9) (N := 25) hx hb hts hinX9 hown hK.1 hP 0 rfl rfl 19 (by decide) (hts (.fieldLink RX9 48 "BoxesGameModel" "results" "[I") (List.mem_of_getElem? (i := 2) rfl)) (fun _ h9 => h9) rfl dX9_outcomeNow_9 ?_
  refine lv_iconst (pc := 12) (v := nI 1) hx hb dX9_outcomeNow_12 rfl ?_
  refine lv_aload_n (pc := 13) hx hb dX9_outcomeNow_13 rfl (lv_at hl 0 rfl) ?_
  refine va_get (pc := 14) (D := D) (ci := 8) (v := .int (nI (und c r w))) (C := RX9) (T := TX9) (N := 25) hx hb hts hinX9 hown hK.1 hP 0 rfl rfl 17 (by decide) (hts (.fieldLink RX9 226 "BoxesGameModel" "opened" "I") (List.mem_of_getElem? (i := 3) rfl)) (fun _ h9 => h9) rfl dX9_outcomeNow_14 ?_
  refine lv_ishl (pc := 17) hx hb dX9_outcomeNow_17 ?_
  refine top_i (show (nI 1) <<< ((nI (und c r w)) &&& 31) = nI (2 ^ und c r w) from shl1 _ (by omega)) ?_
  refine lv_iconst (pc := 18) (v := nI 1) hx hb dX9_outcomeNow_18 rfl ?_
  refine n_isub (pc := 19) hx hb (by omega) dX9_outcomeNow_19 ?_
  refine va_iald (pc := 20) hx hb hK.1 hP 2 0 rfl rfl (vp_in_nI (by omega) (by decide)) dX9_outcomeNow_20 ?_
  refine top_i (show rs2_5 (nI ((2 ^ und c r w) - 1)).toNatClampNeg = rs2_5 ((2 ^ und c r w) - 1) from by rw [nI_clamp (by omega)]) ?_
  refine top_i (show rs2_5 ((2 ^ und c r w) - 1) = iI (out c r w) from by rw [hpost.2 _ (by omega), pS_full hC hw0]) ?_
  subst hAA
  exact mu_iret hx hb hr hlocks hP hS (⟨ol2_5, rs2_5⟩) (rfl) (trivial) (rfl) dX9_outcomeNow_21

set_option maxHeartbeats 1200000 in
set_option maxRecDepth 100000 in
theorem c_X9_worthIn (l : Launch) (D : va_G) (Y : vY) (mo : Nat) (c : Nat) (r : Nat) (fs : List Value) (aOL : Nat) (aRS : Nat) (u : Int64) (li : Nat) (ol : Nat → Int32) (rs : Nat → Int32) (hf : MF c r fs) (hC : Cr c r) (hf17 : fs[17]? = some (.int (nI (und c r u)))) (hf18 : fs[18]? = some (.ref aOL)) (hf19 : fs[19]? = some (.ref aRS)) (hu0 : Onb c r u) (hu12 : und c r u ≤ 12) (hsl : SlOK c r (opl c r u) ol (und c r u)) (hbe : BeOK c r (opl c r u) rs (2 ^ und c r u)) (hl0 : li < al c r) (ht0 : tb u li = false) : Ro l yX9_worthIn wsX9_worthIn ({ frames := 6, cells := 0, slots := 0, locals := 144 } : Room) [.ref mo, .int (nI li), .long u] D Y [(mo, .inr (8, fs)), (aOL, .inl (Y.1, 12, .inl ol)), (aRS, .inl (Y.1, 4096, .inl rs))] (some (.int (iI (wor c r u li)))) := by
  refine ro_intro (by decide +kernel) rfl (Nat.le_of_ble_eq_true rfl) [(0, .ref mo), (1, .int (nI li)), (2, .long u)] rfl ?_
  intro pG eG sG mG aG bG tG cG ls hx hb hr hml hts hown hlocks hK hP hl
  have hP : va_P D vwCl [(mo, .inr (8, fs)), (aOL, .inl (Y.1, 12, .inl ol)), (aRS, .inl (Y.1, 4096, .inl rs))] sG.heap := hP
  have hown : sG.vm.findClass RX9 = some mG.cls := hown
  have hl : lv_has ls 5 [(0, .ref mo), (1, .int (nI li)), (2, .long u)] := hl
  have hinX9 : ∀ w ∈ u_ws RX9 TX9 25, w ∈ wsX9_worthIn := by decide +kernel
  obtain ⟨hq1, hq2, hq3, hq4, hq5, hq6, hq7, hq8, hq9, hq10, hq11⟩ := hC.q
  have h2p := Nat.two_pow_pos (und c r u)
  have h2q : 2 ^ und c r u ≤ 4096 := Nat.pow_le_pow_right (by decide) hu12
  obtain ⟨hk1, hk2⟩ := mem_op hC hl0 ht0 rfl
  refine lv_iconst (pc := 0) (v := nI 0) hx hb dX9_worthIn_0 rfl ?_
  refine lv_istore (pc := 1) (lv' := [(4, .int (nI 0)), (0, .ref mo), (1, .int (nI li)), (2, .long u)]) hx hb dX9_worthIn_1 hl (by decide) rfl (fun ls hl => ?_)
  have L3 : ∀ (n3 : Nat), ∀ (k : Nat), (∀ j, j < k → mem (opl c r u) j ≠ li) → (k < und c r u) → (k ≤ fb_ct (fun l => !tb u l) li) → und c r u - k < n3 → ∀ (ls : Array Slot), lv_has ls 5 [(0, .ref mo), (1, .int (nI li)), (2, .long u), (4, .int (nI k))] → W pG l eG ({ frames := 6, cells := 0, slots := 0, locals := 144 } : Room) sG mG aG bG tG cG sG.heap [] 0 0 (MQ bG (RoQ (some (.int (iI (wor c r u li))))) aG sG 0 0 (fun _ => False)) (F0 mG 3 ls []) := by
    intro n3
    induction n3 with
    | zero =>
      intro k hno hk0 hkle hmeas3  ls hl
      exact absurd hmeas3 (Nat.not_lt_zero _)
    | succ n3 ih3 =>
      intro k hno hk0 hkle hmeas3  ls hl
      refine lv_aload_n (pc := 3) hx hb dX9_worthIn_3 rfl (lv_at hl 0 rfl) ?_
      refine va_get (pc := 4) (D := D) (ci := 8) (v := .ref aOL) (C := RX9) (T := TX9) (N := 25) hx hb hts hinX9 hown hK.1 hP 0 rfl rfl 18 (by decide) (hts (.fieldLink RX9 45 "BoxesGameModel" "openLines" "[I") (List.mem_of_getElem? (i := 1) rfl)) (fun _ h9 => h9) hf18 dX9_worthIn_4 ?_
      refine lv_iload (pc := 7) hx hb dX9_worthIn_7 (lv_at hl 3 rfl) ?_
      refine va_iald (pc := 9) hx hb hK.1 hP 1 0 rfl rfl (vp_in_nI (by omega) (by decide)) dX9_worthIn_9 ?_
      refine top_i (show ol (nI k).toNatClampNeg = ol k from by rw [nI_clamp (by omega)]) ?_
      refine top_i (show ol k = nI (mem (opl c r u) k) from hsl k hk0) ?_
      refine lv_iload_n (pc := 10) hx hb dX9_worthIn_10 rfl (lv_at hl 1 rfl) ?_
      refine n_icmp_eq (pc := 11) (tgt := 20) hx hb (by have := (mem_und (u := u) hC hk0).1; omega) (by omega) dX9_worthIn_11 (by decide) (fun c11 => ?_) (fun c11 => ?_)
      · refine lv_aload_n (pc := 20) hx hb dX9_worthIn_20 rfl (lv_at hl 0 rfl) ?_
        refine lv_lload_n (pc := 21) hx hb dX9_worthIn_21 rfl (lv_at hl 2 rfl) ?_
        refine lv_iconst (pc := 22) (v := nI 1) hx hb dX9_worthIn_22 rfl ?_
        refine lv_aload_n (pc := 23) hx hb dX9_worthIn_23 rfl (lv_at hl 0 rfl) ?_
        refine va_get (pc := 24) (D := D) (ci := 8) (v := .int (nI (und c r u))) (C := RX9) (T := TX9) (N := 25) hx hb hts hinX9 hown hK.1 hP 0 rfl rfl 17 (by decide) (hts (.fieldLink RX9 226 "BoxesGameModel" "opened" "I") (List.mem_of_getElem? (i := 2) rfl)) (fun _ h9 => h9) hf17 dX9_worthIn_24 ?_
        refine lv_ishl (pc := 27) hx hb dX9_worthIn_27 ?_
        refine top_i (show (nI 1) <<< ((nI (und c r u)) &&& 31) = nI (2 ^ und c r u) from shl1 _ (by omega)) ?_
        refine lv_iconst (pc := 28) (v := nI 1) hx hb dX9_worthIn_28 rfl ?_
        refine n_isub (pc := 29) hx hb (by omega) dX9_worthIn_29 ?_
        refine lv_iload (pc := 30) hx hb dX9_worthIn_30 (lv_at hl 3 rfl) ?_
        refine ro_go (pc := 32) (va_runV (As := [.long u, .int (nI ((2 ^ und c r u) - 1)), .int (nI k)]) (rest := []) ⟨hx, hb, hml, hown, hts⟩ (c_X9_resultOf l D Y mo c r fs aOL aRS u u ((2 ^ und c r u) - 1) k ol rs (hf) (hC) (hf18) (hf19) (hu12) (hk0) (by omega) (full_bit hk0) (hsl k hk0) ((pS_full hC hu0).symm) (hbe _ (clr_lt (by omega)))) (cwV 3 hts gX9_worthIn_X9_resultOf rfl rfl rfl ⟨rfl, hdX9_resultOf⟩ ⟨Nat.le_of_ble_eq_true rfl, Nat.le_of_ble_eq_true rfl⟩) (ro_pV hK hP (ro_recv hK hP (ci := 8) (q0 := 0) rfl rfl)) rfl rfl hl.1 rfl (lv_room (Nat.le_of_ble_eq_true rfl)) dX9_worthIn_32 ⟨Nat.le_of_ble_eq_true rfl, Nat.le_of_ble_eq_true rfl⟩) ?_
        exact ro_iret (v := iI (wor c r u (mem (opl c r u) k))) hx hb hr hlocks (by rw [c11]) dX9_worthIn_35
      refine lv_iinc (pc := 14) (v := nI (k + 1)) (lv' := [(4, .int (nI (k + 1))), (0, .ref mo), (1, .int (nI li)), (2, .long u)]) hx hb dX9_worthIn_14 hl (k := 3) rfl (n_inc k 1) (by decide) rfl (fun ls hl => ?_)
      refine lv_goto (pc := 17) (tgt := 3) hx hb dX9_worthIn_17 (by decide) ?_
      exact ih3 (k + 1) (lt_s hno c11) (Nat.lt_of_le_of_lt (Nat.lt_of_le_of_ne hkle (fun e => c11 (by rw [e]; exact hk2))) hk1) (Nat.lt_of_le_of_ne hkle (fun e => c11 (by rw [e]; exact hk2))) (by omega) _ (lv_sub hl [1, 2, 3, 0] rfl)
  exact L3 ((und c r u - 0) + 1) 0 (fun j h => absurd h (Nat.not_lt_zero _)) (by omega) (Nat.zero_le _) (Nat.lt_succ_self _) _ (lv_sub hl [1, 2, 3, 0] rfl)

set_option maxHeartbeats 1200000 in
set_option maxRecDepth 100000 in
theorem c_X9_worthNow (l : Launch) (D : va_G) (Y : vY) (mo : Nat) (th : Int32) (c : Nat) (r : Nat) (w : Int64) (pl : Nat) (n : Nat) (aML : Nat) (aMR : Nat) (aOW : Nat) (len : Nat) (aBU : Nat) (sn : Int32) (aSA : Nat) (aSZ : Nat) (aLP : Nat) (aOP : Nat) (aFT : Nat) (aOL : Nat) (aRS : Nat) (aCD : Nat) (pw : Int64) (pb : Int32) (ah : Int32) (hs : Int64) (od : Int32) (li : Nat) (ol : Nat → Int32) (rs : Nat → Int32) (hC : Cr c r) (hw0 : Onb c r w) (hu12 : und c r w ≤ 12) (hl0 : li < al c r) (ht0 : tb w li = false) : Mu l yX9_worthNow wsX9_worthNow ({ frames := 7, cells := 0, slots := 0, locals := 172 } : Room) [.ref mo, .int (nI li)] D Y [(mo, .inr (8, [.int th, .int (nI c), .int (nI r), .long w, .int (nI pl), .int (nI n), .ref aML, .ref aMR, .ref aOW, .int (nI len), .ref aBU, .int sn, .ref aSA, .ref aSZ, .ref aLP, .ref aOP, .ref aFT, .int od, .ref aOL, .ref aRS, .ref aCD, .long pw, .int pb, .int ah, .long hs])), (aOL, .inl (Y.1, 12, .inl ol)), (aRS, .inl (Y.1, 4096, .inl rs))] (fun uS : (Nat → Int32) × (Nat → Int32) => some (.int (iI (wor c r w li)))) (fun uS : (Nat → Int32) × (Nat → Int32) => [(mo, .inr (8, [.int th, .int (nI c), .int (nI r), .long w, .int (nI pl), .int (nI n), .ref aML, .ref aMR, .ref aOW, .int (nI len), .ref aBU, .int sn, .ref aSA, .ref aSZ, .ref aLP, .ref aOP, .ref aFT, .int (nI (und c r w)), .ref aOL, .ref aRS, .ref aCD, .long pw, .int pb, .int ah, .long hs])), (aOL, .inl (Y.1, 12, .inl uS.1)), (aRS, .inl (Y.1, 4096, .inl uS.2))]) (fun uS : (Nat → Int32) × (Nat → Int32) => True) := by
  refine mu_intro (by decide +kernel) rfl (Nat.le_of_ble_eq_true rfl) [(0, .ref mo), (1, .int (nI li))] rfl ?_
  intro pG eG sG mG aG bG tG cG ls hx hb hr hml hts hown hlocks hK hP hD hS hl
  generalize hAA : adA [(mo, .inr (8, [.int th, .int (nI c), .int (nI r), .long w, .int (nI pl), .int (nI n), .ref aML, .ref aMR, .ref aOW, .int (nI len), .ref aBU, .int sn, .ref aSA, .ref aSZ, .ref aLP, .ref aOP, .ref aFT, .int od, .ref aOL, .ref aRS, .ref aCD, .long pw, .int pb, .int ah, .long hs])), (aOL, .inl (Y.1, 12, .inl ol)), (aRS, .inl (Y.1, 4096, .inl rs))] = AA at hD hS ⊢
  have hP : va_P D vwCl [(mo, .inr (8, [.int th, .int (nI c), .int (nI r), .long w, .int (nI pl), .int (nI n), .ref aML, .ref aMR, .ref aOW, .int (nI len), .ref aBU, .int sn, .ref aSA, .ref aSZ, .ref aLP, .ref aOP, .ref aFT, .int od, .ref aOL, .ref aRS, .ref aCD, .long pw, .int pb, .int ah, .long hs])), (aOL, .inl (Y.1, 12, .inl ol)), (aRS, .inl (Y.1, 4096, .inl rs))] sG.heap := hP
  have hD : va_D AA [(mo, .inr (8, [.int th, .int (nI c), .int (nI r), .long w, .int (nI pl), .int (nI n), .ref aML, .ref aMR, .ref aOW, .int (nI len), .ref aBU, .int sn, .ref aSA, .ref aSZ, .ref aLP, .ref aOP, .ref aFT, .int od, .ref aOL, .ref aRS, .ref aCD, .long pw, .int pb, .int ah, .long hs])), (aOL, .inl (Y.1, 12, .inl ol)), (aRS, .inl (Y.1, 4096, .inl rs))] := hD
  have hown : sG.vm.findClass RX9 = some mG.cls := hown
  have hl : lv_has ls 2 [(0, .ref mo), (1, .int (nI li))] := hl
  have hinX9 : ∀ w ∈ u_ws RX9 TX9 25, w ∈ wsX9_worthNow := by decide +kernel
  have hS : va_S AA sG.heap sG.heap [] := hS
  obtain ⟨hq1, hq2, hq3, hq4, hq5, hq6, hq7, hq8, hq9, hq10, hq11⟩ := hC.q
  refine lv_aload_n (pc := 0) hx hb dX9_worthNow_0 rfl (lv_at hl 0 rfl) ?_
  refine lv_aload_n (pc := 1) hx hb dX9_worthNow_1 rfl (lv_at hl 0 rfl) ?_
  refine va_get (pc := 2) (D := D) (ci := 8) (v := .long w) (C := RX9) (T := TX9) (N := 25) hx hb hts hinX9 hown hK.1 hP 0 rfl rfl 3 (by decide) (hts (.fieldLink RX9 119 "BoxesGameModel" "now" "J") (List.mem_of_getElem? (i := 1) rfl)) (fun _ h9 => h9) rfl dX9_worthNow_2 ?_
  refine mu_go (pc := 5) (va_runV (As := [.long w]) (rest := []) ⟨hx, hb, hml, hown, hts⟩ (c_X9_layResults l D Y mo th c r w pl n aML aMR aOW len aBU sn aSA aSZ aLP aOP aFT aOL aRS aCD pw pb ah hs od w ol rs (hC) (hw0) (hu12)) (cwV 1 hts gX9_worthNow_X9_layResults rfl rfl rfl ⟨rfl, hdX9_layResults⟩ ⟨Nat.le_of_ble_eq_true rfl, Nat.le_of_ble_eq_true rfl⟩) (mu_pV hK hP hD (ro_recv hK hP (ci := 8) (q0 := 0) rfl rfl)) rfl rfl hl.1 rfl (lv_room (Nat.le_of_ble_eq_true rfl)) dX9_worthNow_5 ⟨Nat.le_of_ble_eq_true rfl, Nat.le_of_ble_eq_true rfl⟩) hP hD hS [0, 1, 2] rfl (by decide) (fun uS => [(mo, .inr (8, [.int th, .int (nI c), .int (nI r), .long w, .int (nI pl), .int (nI n), .ref aML, .ref aMR, .ref aOW, .int (nI len), .ref aBU, .int sn, .ref aSA, .ref aSZ, .ref aLP, .ref aOP, .ref aFT, .int (nI (und c r w)), .ref aOL, .ref aRS, .ref aCD, .long pw, .int pb, .int ah, .long hs])), (aOL, .inl (Y.1, 12, .inl uS.1)), (aRS, .inl (Y.1, 4096, .inl uS.2))]) (fun _ => rfl) (fun _ => rfl) (fun uS H locs hpost hP hD hS => ?_)
  obtain ⟨ol2_5, rs2_5⟩ := uS
  try dsimp only at hpost
  have hP : va_P D vwCl [(mo, .inr (8, [.int th, .int (nI c), .int (nI r), .long w, .int (nI pl), .int (nI n), .ref aML, .ref aMR, .ref aOW, .int (nI len), .ref aBU, .int sn, .ref aSA, .ref aSZ, .ref aLP, .ref aOP, .ref aFT, .int (nI (und c r w)), .ref aOL, .ref aRS, .ref aCD, .long pw, .int pb, .int ah, .long hs])), (aOL, .inl (Y.1, 12, .inl ol2_5)), (aRS, .inl (Y.1, 4096, .inl rs2_5))] H := hP
  have hD : va_D AA [(mo, .inr (8, [.int th, .int (nI c), .int (nI r), .long w, .int (nI pl), .int (nI n), .ref aML, .ref aMR, .ref aOW, .int (nI len), .ref aBU, .int sn, .ref aSA, .ref aSZ, .ref aLP, .ref aOP, .ref aFT, .int (nI (und c r w)), .ref aOL, .ref aRS, .ref aCD, .long pw, .int pb, .int ah, .long hs])), (aOL, .inl (Y.1, 12, .inl ol2_5)), (aRS, .inl (Y.1, 4096, .inl rs2_5))] := hD
  refine lv_aload_n (pc := 8) hx hb dX9_worthNow_8 rfl (lv_at hl 0 rfl) ?_
  refine lv_iload_n (pc := 9) hx hb dX9_worthNow_9 rfl (lv_at hl 1 rfl) ?_
  refine lv_aload_n (pc := 10) hx hb dX9_worthNow_10 rfl (lv_at hl 0 rfl) ?_
  refine va_get (pc := 11) (D := D) (ci := 8) (v := .long w) (C := RX9) (T := TX9) (N := 25) hx hb hts hinX9 hown hK.1 hP 0 rfl rfl 3 (by decide) (hts (.fieldLink RX9 119 "BoxesGameModel" "now" "J") (List.mem_of_getElem? (i := 1) rfl)) (fun _ h9 => h9) rfl dX9_worthNow_11 ?_
  refine ro_go (pc := 14) (va_runV (As := [.int (nI li), .long w]) (rest := []) ⟨hx, hb, hml, hown, hts⟩ (c_X9_worthIn l D Y mo c r ([.int th, .int (nI c), .int (nI r), .long w, .int (nI pl), .int (nI n), .ref aML, .ref aMR, .ref aOW, .int (nI len), .ref aBU, .int sn, .ref aSA, .ref aSZ, .ref aLP, .ref aOP, .ref aFT, .int (nI (und c r w)), .ref aOL, .ref aRS, .ref aCD, .long pw, .int pb, .int ah, .long hs]) aOL aRS w li ol2_5 rs2_5 (by first | assumption | exact ⟨rfl, rfl⟩) (hC) (by first | assumption | rfl) (by first | assumption | rfl) (by first | assumption | rfl) (hw0) (hu12) (hpost.1) (hpost.2) (hl0) (ht0)) (cwV 2 hts gX9_worthNow_X9_worthIn rfl rfl rfl ⟨rfl, hdX9_worthIn⟩ ⟨Nat.le_of_ble_eq_true rfl, Nat.le_of_ble_eq_true rfl⟩) (ro_pV hK hP (ro_recv hK hP (ci := 8) (q0 := 0) rfl rfl)) rfl rfl hl.1 rfl (lv_room (Nat.le_of_ble_eq_true rfl)) dX9_worthNow_14 ⟨Nat.le_of_ble_eq_true rfl, Nat.le_of_ble_eq_true rfl⟩) ?_
  subst hAA
  exact mu_iret hx hb hr hlocks hP hS (⟨ol2_5, rs2_5⟩) (rfl) (trivial) (rfl) dX9_worthNow_17

set_option maxHeartbeats 1200000 in
set_option maxRecDepth 100000 in
theorem c_X9_exactly (l : Launch) (D : va_G) (Y : vY) (mo : Nat) (th : Int32) (c : Nat) (r : Nat) (w : Int64) (pl : Nat) (n : Nat) (aML : Nat) (aMR : Nat) (aOW : Nat) (len : Nat) (aBU : Nat) (sn : Int32) (aSA : Nat) (aSZ : Nat) (aLP : Nat) (aOP : Nat) (aFT : Nat) (aOL : Nat) (aRS : Nat) (aCD : Nat) (pw : Int64) (pb : Int32) (ah : Int32) (hs : Int64) (od : Int32) (u : Int64) (ol : Nat → Int32) (rs : Nat → Int32) (hC : Cr c r) (hu0 : Onb c r u) (hu12 : und c r u ≤ 12) : Mu l yX9_exactly wsX9_exactly ({ frames := 7, cells := 0, slots := 0, locals := 172 } : Room) [.ref mo, .long u] D Y [(mo, .inr (8, [.int th, .int (nI c), .int (nI r), .long w, .int (nI pl), .int (nI n), .ref aML, .ref aMR, .ref aOW, .int (nI len), .ref aBU, .int sn, .ref aSA, .ref aSZ, .ref aLP, .ref aOP, .ref aFT, .int od, .ref aOL, .ref aRS, .ref aCD, .long pw, .int pb, .int ah, .long hs])), (aOL, .inl (Y.1, 12, .inl ol)), (aRS, .inl (Y.1, 4096, .inl rs))] (fun uS : (Nat → Int32) × (Nat → Int32) => some (.int (oI (blM c r u)))) (fun uS : (Nat → Int32) × (Nat → Int32) => [(mo, .inr (8, [.int th, .int (nI c), .int (nI r), .long w, .int (nI pl), .int (nI n), .ref aML, .ref aMR, .ref aOW, .int (nI len), .ref aBU, .int sn, .ref aSA, .ref aSZ, .ref aLP, .ref aOP, .ref aFT, .int (nI (und c r u)), .ref aOL, .ref aRS, .ref aCD, .long pw, .int pb, .int ah, .long hs])), (aOL, .inl (Y.1, 12, .inl uS.1)), (aRS, .inl (Y.1, 4096, .inl uS.2))]) (fun uS : (Nat → Int32) × (Nat → Int32) => True) := by
  refine mu_intro (by decide +kernel) rfl (Nat.le_of_ble_eq_true rfl) [(0, .ref mo), (1, .long u)] rfl ?_
  intro pG eG sG mG aG bG tG cG ls hx hb hr hml hts hown hlocks hK hP hD hS hl
  generalize hAA : adA [(mo, .inr (8, [.int th, .int (nI c), .int (nI r), .long w, .int (nI pl), .int (nI n), .ref aML, .ref aMR, .ref aOW, .int (nI len), .ref aBU, .int sn, .ref aSA, .ref aSZ, .ref aLP, .ref aOP, .ref aFT, .int od, .ref aOL, .ref aRS, .ref aCD, .long pw, .int pb, .int ah, .long hs])), (aOL, .inl (Y.1, 12, .inl ol)), (aRS, .inl (Y.1, 4096, .inl rs))] = AA at hD hS ⊢
  have hP : va_P D vwCl [(mo, .inr (8, [.int th, .int (nI c), .int (nI r), .long w, .int (nI pl), .int (nI n), .ref aML, .ref aMR, .ref aOW, .int (nI len), .ref aBU, .int sn, .ref aSA, .ref aSZ, .ref aLP, .ref aOP, .ref aFT, .int od, .ref aOL, .ref aRS, .ref aCD, .long pw, .int pb, .int ah, .long hs])), (aOL, .inl (Y.1, 12, .inl ol)), (aRS, .inl (Y.1, 4096, .inl rs))] sG.heap := hP
  have hD : va_D AA [(mo, .inr (8, [.int th, .int (nI c), .int (nI r), .long w, .int (nI pl), .int (nI n), .ref aML, .ref aMR, .ref aOW, .int (nI len), .ref aBU, .int sn, .ref aSA, .ref aSZ, .ref aLP, .ref aOP, .ref aFT, .int od, .ref aOL, .ref aRS, .ref aCD, .long pw, .int pb, .int ah, .long hs])), (aOL, .inl (Y.1, 12, .inl ol)), (aRS, .inl (Y.1, 4096, .inl rs))] := hD
  have hown : sG.vm.findClass RX9 = some mG.cls := hown
  have hl : lv_has ls 8 [(0, .ref mo), (1, .long u)] := hl
  have hinX9 : ∀ w ∈ u_ws RX9 TX9 25, w ∈ wsX9_exactly := by decide +kernel
  have hS : va_S AA sG.heap sG.heap [] := hS
  obtain ⟨hq1, hq2, hq3, hq4, hq5, hq6, hq7, hq8, hq9, hq10, hq11⟩ := hC.q
  have h2p := Nat.two_pow_pos (und c r u)
  have h2q : 2 ^ und c r u ≤ 4096 := Nat.pow_le_pow_right (by decide) hu12
  refine lv_aload_n (pc := 0) hx hb dX9_exactly_0 rfl (lv_at hl 0 rfl) ?_
  refine lv_lload_n (pc := 1) hx hb dX9_exactly_1 rfl (lv_at hl 1 rfl) ?_
  refine mu_go (pc := 2) (va_runV (As := [.long u]) (rest := []) ⟨hx, hb, hml, hown, hts⟩ (c_X9_layResults l D Y mo th c r w pl n aML aMR aOW len aBU sn aSA aSZ aLP aOP aFT aOL aRS aCD pw pb ah hs od u ol rs (hC) (hu0) (hu12)) (cwV 1 hts gX9_exactly_X9_layResults rfl rfl rfl ⟨rfl, hdX9_layResults⟩ ⟨Nat.le_of_ble_eq_true rfl, Nat.le_of_ble_eq_true rfl⟩) (mu_pV hK hP hD (ro_recv hK hP (ci := 8) (q0 := 0) rfl rfl)) rfl rfl hl.1 rfl (lv_room (Nat.le_of_ble_eq_true rfl)) dX9_exactly_2 ⟨Nat.le_of_ble_eq_true rfl, Nat.le_of_ble_eq_true rfl⟩) hP hD hS [0, 1, 2] rfl (by decide) (fun uS => [(mo, .inr (8, [.int th, .int (nI c), .int (nI r), .long w, .int (nI pl), .int (nI n), .ref aML, .ref aMR, .ref aOW, .int (nI len), .ref aBU, .int sn, .ref aSA, .ref aSZ, .ref aLP, .ref aOP, .ref aFT, .int (nI (und c r u)), .ref aOL, .ref aRS, .ref aCD, .long pw, .int pb, .int ah, .long hs])), (aOL, .inl (Y.1, 12, .inl uS.1)), (aRS, .inl (Y.1, 4096, .inl uS.2))]) (fun _ => rfl) (fun _ => rfl) (fun uS H locs hpost hP hD hS => ?_)
  obtain ⟨ol2_2, rs2_2⟩ := uS
  try dsimp only at hpost
  have hP : va_P D vwCl [(mo, .inr (8, [.int th, .int (nI c), .int (nI r), .long w, .int (nI pl), .int (nI n), .ref aML, .ref aMR, .ref aOW, .int (nI len), .ref aBU, .int sn, .ref aSA, .ref aSZ, .ref aLP, .ref aOP, .ref aFT, .int (nI (und c r u)), .ref aOL, .ref aRS, .ref aCD, .long pw, .int pb, .int ah, .long hs])), (aOL, .inl (Y.1, 12, .inl ol2_2)), (aRS, .inl (Y.1, 4096, .inl rs2_2))] H := hP
  have hD : va_D AA [(mo, .inr (8, [.int th, .int (nI c), .int (nI r), .long w, .int (nI pl), .int (nI n), .ref aML, .ref aMR, .ref aOW, .int (nI len), .ref aBU, .int sn, .ref aSA, .ref aSZ, .ref aLP, .ref aOP, .ref aFT, .int (nI (und c r u)), .ref aOL, .ref aRS, .ref aCD, .long pw, .int pb, .int ah, .long hs])), (aOL, .inl (Y.1, 12, .inl ol2_2)), (aRS, .inl (Y.1, 4096, .inl rs2_2))] := hD
  refine lv_iconst (pc := 5) (v := (-1)) hx hb dX9_exactly_5 (by decide) ?_
  refine lv_istore_n (pc := 6) (lv' := [(3, .int (-1)), (0, .ref mo), (1, .long u)]) hx hb dX9_exactly_6 rfl hl (by decide) rfl (fun ls hl => ?_)
  refine lv_iconst (pc := 7) (v := nI 0) hx hb dX9_exactly_7 rfl ?_
  refine top_i (show nI 0 = iI 0 from by decide) ?_
  refine lv_istore (pc := 8) (lv' := [(4, .int (iI 0)), (3, .int (-1)), (0, .ref mo), (1, .long u)]) hx hb dX9_exactly_8 hl (by decide) rfl (fun ls hl => ?_)
  refine lv_iconst (pc := 10) (v := nI 0) hx hb dX9_exactly_10 rfl ?_
  refine lv_istore (pc := 11) (lv' := [(5, .int (nI 0)), (4, .int (iI 0)), (3, .int (-1)), (0, .ref mo), (1, .long u)]) hx hb dX9_exactly_11 hl (by decide) rfl (fun ls hl => ?_)
  have L13 : ∀ (n13 : Nat), ∀ (i : Nat) (x : Int32) (z : Int), (i ≤ und c r u) → (BsX c r u i x z) → (-18 ≤ z ∧ z ≤ 18) → und c r u - i < n13 → ∀ (H : Heap) (locs : List Loc), va_P D vwCl [(mo, .inr (8, [.int th, .int (nI c), .int (nI r), .long w, .int (nI pl), .int (nI n), .ref aML, .ref aMR, .ref aOW, .int (nI len), .ref aBU, .int sn, .ref aSA, .ref aSZ, .ref aLP, .ref aOP, .ref aFT, .int (nI (und c r u)), .ref aOL, .ref aRS, .ref aCD, .long pw, .int pb, .int ah, .long hs])), (aOL, .inl (Y.1, 12, .inl ol2_2)), (aRS, .inl (Y.1, 4096, .inl rs2_2))] H → va_D AA [(mo, .inr (8, [.int th, .int (nI c), .int (nI r), .long w, .int (nI pl), .int (nI n), .ref aML, .ref aMR, .ref aOW, .int (nI len), .ref aBU, .int sn, .ref aSA, .ref aSZ, .ref aLP, .ref aOP, .ref aFT, .int (nI (und c r u)), .ref aOL, .ref aRS, .ref aCD, .long pw, .int pb, .int ah, .long hs])), (aOL, .inl (Y.1, 12, .inl ol2_2)), (aRS, .inl (Y.1, 4096, .inl rs2_2))] → va_S AA sG.heap H locs → ∀ (ls : Array Slot), lv_has ls 8 [(0, .ref mo), (1, .long u), (3, .int x), (4, .int (iI z)), (5, .int (nI i))] → W pG l eG ({ frames := 7, cells := 0, slots := 0, locals := 172 } : Room) sG mG aG bG tG cG H locs 0 0 (MQ bG (MuQ D [(mo, .inr (8, [.int th, .int (nI c), .int (nI r), .long w, .int (nI pl), .int (nI n), .ref aML, .ref aMR, .ref aOW, .int (nI len), .ref aBU, .int sn, .ref aSA, .ref aSZ, .ref aLP, .ref aOP, .ref aFT, .int od, .ref aOL, .ref aRS, .ref aCD, .long pw, .int pb, .int ah, .long hs])), (aOL, .inl (Y.1, 12, .inl ol)), (aRS, .inl (Y.1, 4096, .inl rs))] (fun uS : (Nat → Int32) × (Nat → Int32) => some (.int (oI (blM c r u)))) (fun uS : (Nat → Int32) × (Nat → Int32) => [(mo, .inr (8, [.int th, .int (nI c), .int (nI r), .long w, .int (nI pl), .int (nI n), .ref aML, .ref aMR, .ref aOW, .int (nI len), .ref aBU, .int sn, .ref aSA, .ref aSZ, .ref aLP, .ref aOP, .ref aFT, .int (nI (und c r u)), .ref aOL, .ref aRS, .ref aCD, .long pw, .int pb, .int ah, .long hs])), (aOL, .inl (Y.1, 12, .inl uS.1)), (aRS, .inl (Y.1, 4096, .inl uS.2))]) (fun uS : (Nat → Int32) × (Nat → Int32) => True)) aG sG 0 0 AA) (F0 mG 13 ls []) := by
    intro n13
    induction n13 with
    | zero =>
      intro i x z hi hbs hz9 hmeas13 H locs hP hD hS ls hl
      exact absurd hmeas13 (Nat.not_lt_zero _)
    | succ n13 ih13 =>
      intro i x z hi hbs hz9 hmeas13 H locs hP hD hS ls hl
      refine lv_iload (pc := 13) hx hb dX9_exactly_13 (lv_at hl 4 rfl) ?_
      refine lv_aload_n (pc := 15) hx hb dX9_exactly_15 rfl (lv_at hl 0 rfl) ?_
      refine va_get (pc := 16) (D := D) (ci := 8) (v := .int (nI (und c r u))) (C := RX9) (T := TX9) (N := 25) hx hb hts hinX9 hown hK.1 hP 0 rfl rfl 17 (by decide) (hts (.fieldLink RX9 226 "BoxesGameModel" "opened" "I") (List.mem_of_getElem? (i := 1) rfl)) (fun _ h9 => h9) rfl dX9_exactly_16 ?_
      refine n_icmp_ge (pc := 19) (tgt := 95) hx hb (by omega) (by omega) dX9_exactly_19 (by decide) (fun c19 => ?_) (fun c19 => ?_)
      · refine lv_iload_n (pc := 95) hx hb dX9_exactly_95 rfl (lv_at hl 2 rfl) ?_
        have hxe := BsX.all (x := x) (z := z) hC hu0 (by rw [show und c r u = i by omega]; exact hbs)
        subst hAA
        exact mu_iret hx hb hr hlocks hP hS (⟨ol2_2, rs2_2⟩) (by rw [hxe]) (trivial) (rfl) dX9_exactly_96
      have hwb := wor_b (l := mem (opl c r u) i) hC u
      refine lv_aload_n (pc := 22) hx hb dX9_exactly_22 rfl (lv_at hl 0 rfl) ?_
      refine lv_lload_n (pc := 23) hx hb dX9_exactly_23 rfl (lv_at hl 1 rfl) ?_
      refine lv_iconst (pc := 24) (v := nI 1) hx hb dX9_exactly_24 rfl ?_
      refine lv_aload_n (pc := 25) hx hb dX9_exactly_25 rfl (lv_at hl 0 rfl) ?_
      refine va_get (pc := 26) (D := D) (ci := 8) (v := .int (nI (und c r u))) (C := RX9) (T := TX9) (N := 25) hx hb hts hinX9 hown hK.1 hP 0 rfl rfl 17 (by decide) (hts (.fieldLink RX9 226 "BoxesGameModel" "opened" "I") (List.mem_of_getElem? (i := 1) rfl)) (fun _ h9 => h9) rfl dX9_exactly_26 ?_
      refine lv_ishl (pc := 29) hx hb dX9_exactly_29 ?_
      refine top_i (show (nI 1) <<< ((nI (und c r u)) &&& 31) = nI (2 ^ und c r u) from shl1 _ (by omega)) ?_
      refine lv_iconst (pc := 30) (v := nI 1) hx hb dX9_exactly_30 rfl ?_
      refine n_isub (pc := 31) hx hb (by omega) dX9_exactly_31 ?_
      refine lv_iload (pc := 32) hx hb dX9_exactly_32 (lv_at hl 4 rfl) ?_
      refine ro_go (pc := 34) (va_runV (As := [.long u, .int (nI ((2 ^ und c r u) - 1)), .int (nI i)]) (rest := []) ⟨hx, hb, hml, hown, hts⟩ (c_X9_resultOf l D Y mo c r ([.int th, .int (nI c), .int (nI r), .long w, .int (nI pl), .int (nI n), .ref aML, .ref aMR, .ref aOW, .int (nI len), .ref aBU, .int sn, .ref aSA, .ref aSZ, .ref aLP, .ref aOP, .ref aFT, .int (nI (und c r u)), .ref aOL, .ref aRS, .ref aCD, .long pw, .int pb, .int ah, .long hs]) aOL aRS u u ((2 ^ und c r u) - 1) i ol2_2 rs2_2 (by first | assumption | exact ⟨rfl, rfl⟩) (hC) (by first | assumption | rfl) (by first | assumption | rfl) (hu12) (c19) (by omega) (full_bit c19) (hpost.1 i c19) ((pS_full hC hu0).symm) (hpost.2 _ (clr_lt (by omega)))) (cwV 3 hts gX9_exactly_X9_resultOf rfl rfl rfl ⟨rfl, hdX9_resultOf⟩ ⟨Nat.le_of_ble_eq_true rfl, Nat.le_of_ble_eq_true rfl⟩) (ro_pV hK hP (ro_recv hK hP (ci := 8) (q0 := 0) rfl rfl)) rfl rfl hl.1 rfl (lv_room (Nat.le_of_ble_eq_true rfl)) dX9_exactly_34 ⟨Nat.le_of_ble_eq_true rfl, Nat.le_of_ble_eq_true rfl⟩) ?_
      refine lv_istore (pc := 37) (lv' := [(6, .int (iI (wor c r u (mem (opl c r u) i)))), (0, .ref mo), (1, .long u), (3, .int x), (4, .int (iI z)), (5, .int (nI i))]) hx hb dX9_exactly_37 hl (by decide) rfl (fun ls hl => ?_)
      refine lv_iload_n (pc := 39) hx hb dX9_exactly_39 rfl (lv_at hl 3 rfl) ?_
      refine lv_iconst (pc := 40) (v := (-1)) hx hb dX9_exactly_40 (by decide) ?_
      refine lv_icmp_eq (pc := 41) (tgt := 51) hx hb dX9_exactly_41 (by decide) (fun c41 => ?_) (fun c41 => ?_)
      · refine lv_iconst (pc := 51) (v := nI 1) hx hb dX9_exactly_51 rfl ?_
        refine lv_goto (pc := 52) (tgt := 56) hx hb dX9_exactly_52 (by decide) ?_
        refine lv_istore (pc := 56) (lv' := [(7, .int (nI 1)), (6, .int (iI (wor c r u (mem (opl c r u) i)))), (0, .ref mo), (1, .long u), (3, .int x), (4, .int (iI z)), (5, .int (nI i))]) hx hb dX9_exactly_56 hl (by decide) rfl (fun ls hl => ?_)
        refine lv_iload (pc := 58) hx hb dX9_exactly_58 (lv_at hl 0 rfl) ?_
        refine n_if_eq (pc := 60) (tgt := 73) hx hb (by omega) dX9_exactly_60 (by decide) (fun c60 => ?_) (fun c60 => ?_)
        · exact absurd c60 (by decide)
        refine lv_aload_n (pc := 63) hx hb dX9_exactly_63 rfl (lv_at hl 2 rfl) ?_
        refine va_get (pc := 64) (D := D) (ci := 8) (v := .ref aOL) (C := RX9) (T := TX9) (N := 25) hx hb hts hinX9 hown hK.1 hP 0 rfl rfl 18 (by decide) (hts (.fieldLink RX9 45 "BoxesGameModel" "openLines" "[I") (List.mem_of_getElem? (i := 2) rfl)) (fun _ h9 => h9) rfl dX9_exactly_64 ?_
        refine lv_iload (pc := 67) hx hb dX9_exactly_67 (lv_at hl 6 rfl) ?_
        refine va_iald (pc := 69) hx hb hK.1 hP 1 0 rfl rfl (vp_in_nI (by omega) (by decide)) dX9_exactly_69 ?_
        refine top_i (show ol2_2 (nI i).toNatClampNeg = ol2_2 i from by rw [nI_clamp (by omega)]) ?_
        refine top_i (show ol2_2 i = nI (mem (opl c r u) i) from hpost.1 i c19) ?_
        refine lv_goto (pc := 70) (tgt := 74) hx hb dX9_exactly_70 (by decide) ?_
        refine lv_istore_n (pc := 74) (lv' := [(3, .int (nI (mem (opl c r u) i))), (7, .int (nI 1)), (6, .int (iI (wor c r u (mem (opl c r u) i)))), (0, .ref mo), (1, .long u), (4, .int (iI z)), (5, .int (nI i))]) hx hb dX9_exactly_74 rfl hl (by decide) rfl (fun ls hl => ?_)
        refine lv_iload (pc := 75) hx hb dX9_exactly_75 (lv_at hl 1 rfl) ?_
        refine n_if_eq (pc := 77) (tgt := 85) hx hb (by omega) dX9_exactly_77 (by decide) (fun c77 => ?_) (fun c77 => ?_)
        · exact absurd c77 (by decide)
        refine lv_iload (pc := 80) hx hb dX9_exactly_80 (lv_at hl 2 rfl) ?_
        refine lv_goto (pc := 82) (tgt := 87) hx hb dX9_exactly_82 (by decide) ?_
        refine lv_istore (pc := 87) (lv' := [(4, .int (iI (wor c r u (mem (opl c r u) i)))), (3, .int (nI (mem (opl c r u) i))), (7, .int (nI 1)), (6, .int (iI (wor c r u (mem (opl c r u) i)))), (0, .ref mo), (1, .long u), (5, .int (nI i))]) hx hb dX9_exactly_87 hl (by decide) rfl (fun ls hl => ?_)
        refine lv_iinc (pc := 89) (v := nI (i + 1)) (lv' := [(5, .int (nI (i + 1))), (4, .int (iI (wor c r u (mem (opl c r u) i)))), (3, .int (nI (mem (opl c r u) i))), (7, .int (nI 1)), (6, .int (iI (wor c r u (mem (opl c r u) i)))), (0, .ref mo), (1, .long u)]) hx hb dX9_exactly_89 hl (k := 6) rfl (n_inc i 1) (by decide) rfl (fun ls hl => ?_)
        refine lv_goto (pc := 92) (tgt := 13) hx hb dX9_exactly_92 (by decide) ?_
        exact ih13 (i + 1) (nI (mem (opl c r u) i)) (wor c r u (mem (opl c r u) i)) (by first | assumption | omega) (BsX.new hbs (Or.inl (hbs.none hC hi c41))) (hwb) (by omega) _ _ hP hD hS _ (lv_sub hl [5, 6, 2, 1, 0] rfl)
      refine lv_iload (pc := 44) hx hb dX9_exactly_44 (lv_at hl 0 rfl) ?_
      refine lv_iload (pc := 46) hx hb dX9_exactly_46 (lv_at hl 4 rfl) ?_
      refine lv_icmp_le (pc := 48) (tgt := 55) hx hb dX9_exactly_48 (by decide) (fun c48 => ?_) (fun c48 => ?_)
      · have c48z := (iI_le (by omega) (by omega) (by omega) (by omega)).mp c48
        refine lv_iconst (pc := 55) (v := nI 0) hx hb dX9_exactly_55 rfl ?_
        refine lv_istore (pc := 56) (lv' := [(7, .int (nI 0)), (6, .int (iI (wor c r u (mem (opl c r u) i)))), (0, .ref mo), (1, .long u), (3, .int x), (4, .int (iI z)), (5, .int (nI i))]) hx hb dX9_exactly_56 hl (by decide) rfl (fun ls hl => ?_)
        refine lv_iload (pc := 58) hx hb dX9_exactly_58 (lv_at hl 0 rfl) ?_
        refine n_if_eq (pc := 60) (tgt := 73) hx hb (by omega) dX9_exactly_60 (by decide) (fun c60 => ?_) (fun c60 => ?_)
        · refine lv_iload_n (pc := 73) hx hb dX9_exactly_73 rfl (lv_at hl 4 rfl) ?_
          refine lv_istore_n (pc := 74) (lv' := [(3, .int x), (7, .int (nI 0)), (6, .int (iI (wor c r u (mem (opl c r u) i)))), (0, .ref mo), (1, .long u), (4, .int (iI z)), (5, .int (nI i))]) hx hb dX9_exactly_74 rfl hl (by decide) rfl (fun ls hl => ?_)
          refine lv_iload (pc := 75) hx hb dX9_exactly_75 (lv_at hl 1 rfl) ?_
          refine n_if_eq (pc := 77) (tgt := 85) hx hb (by omega) dX9_exactly_77 (by decide) (fun c77 => ?_) (fun c77 => ?_)
          · refine lv_iload (pc := 85) hx hb dX9_exactly_85 (lv_at hl 5 rfl) ?_
            refine lv_istore (pc := 87) (lv' := [(4, .int (iI z)), (3, .int x), (7, .int (nI 0)), (6, .int (iI (wor c r u (mem (opl c r u) i)))), (0, .ref mo), (1, .long u), (5, .int (nI i))]) hx hb dX9_exactly_87 hl (by decide) rfl (fun ls hl => ?_)
            refine lv_iinc (pc := 89) (v := nI (i + 1)) (lv' := [(5, .int (nI (i + 1))), (4, .int (iI z)), (3, .int x), (7, .int (nI 0)), (6, .int (iI (wor c r u (mem (opl c r u) i)))), (0, .ref mo), (1, .long u)]) hx hb dX9_exactly_89 hl (k := 6) rfl (n_inc i 1) (by decide) rfl (fun ls hl => ?_)
            refine lv_goto (pc := 92) (tgt := 13) hx hb dX9_exactly_92 (by decide) ?_
            exact ih13 (i + 1) x z (by first | assumption | omega) (BsX.old hbs (hbs.pos c41) c48z) (hz9) (by omega) _ _ hP hD hS _ (lv_sub hl [5, 6, 2, 1, 0] rfl)
          · exact absurd c77 (by decide)
        · exact absurd c60 (by decide)
      have c48z : ¬ _ := fun q => c48 ((iI_le (by omega) (by omega) (by omega) (by omega)).mpr q)
      refine lv_iconst (pc := 51) (v := nI 1) hx hb dX9_exactly_51 rfl ?_
      refine lv_goto (pc := 52) (tgt := 56) hx hb dX9_exactly_52 (by decide) ?_
      refine lv_istore (pc := 56) (lv' := [(7, .int (nI 1)), (6, .int (iI (wor c r u (mem (opl c r u) i)))), (0, .ref mo), (1, .long u), (3, .int x), (4, .int (iI z)), (5, .int (nI i))]) hx hb dX9_exactly_56 hl (by decide) rfl (fun ls hl => ?_)
      refine lv_iload (pc := 58) hx hb dX9_exactly_58 (lv_at hl 0 rfl) ?_
      refine n_if_eq (pc := 60) (tgt := 73) hx hb (by omega) dX9_exactly_60 (by decide) (fun c60 => ?_) (fun c60 => ?_)
      · exact absurd c60 (by decide)
      refine lv_aload_n (pc := 63) hx hb dX9_exactly_63 rfl (lv_at hl 2 rfl) ?_
      refine va_get (pc := 64) (D := D) (ci := 8) (v := .ref aOL) (C := RX9) (T := TX9) (N := 25) hx hb hts hinX9 hown hK.1 hP 0 rfl rfl 18 (by decide) (hts (.fieldLink RX9 45 "BoxesGameModel" "openLines" "[I") (List.mem_of_getElem? (i := 2) rfl)) (fun _ h9 => h9) rfl dX9_exactly_64 ?_
      refine lv_iload (pc := 67) hx hb dX9_exactly_67 (lv_at hl 6 rfl) ?_
      refine va_iald (pc := 69) hx hb hK.1 hP 1 0 rfl rfl (vp_in_nI (by omega) (by decide)) dX9_exactly_69 ?_
      refine top_i (show ol2_2 (nI i).toNatClampNeg = ol2_2 i from by rw [nI_clamp (by omega)]) ?_
      refine top_i (show ol2_2 i = nI (mem (opl c r u) i) from hpost.1 i c19) ?_
      refine lv_goto (pc := 70) (tgt := 74) hx hb dX9_exactly_70 (by decide) ?_
      refine lv_istore_n (pc := 74) (lv' := [(3, .int (nI (mem (opl c r u) i))), (7, .int (nI 1)), (6, .int (iI (wor c r u (mem (opl c r u) i)))), (0, .ref mo), (1, .long u), (4, .int (iI z)), (5, .int (nI i))]) hx hb dX9_exactly_74 rfl hl (by decide) rfl (fun ls hl => ?_)
      refine lv_iload (pc := 75) hx hb dX9_exactly_75 (lv_at hl 1 rfl) ?_
      refine n_if_eq (pc := 77) (tgt := 85) hx hb (by omega) dX9_exactly_77 (by decide) (fun c77 => ?_) (fun c77 => ?_)
      · exact absurd c77 (by decide)
      refine lv_iload (pc := 80) hx hb dX9_exactly_80 (lv_at hl 2 rfl) ?_
      refine lv_goto (pc := 82) (tgt := 87) hx hb dX9_exactly_82 (by decide) ?_
      refine lv_istore (pc := 87) (lv' := [(4, .int (iI (wor c r u (mem (opl c r u) i)))), (3, .int (nI (mem (opl c r u) i))), (7, .int (nI 1)), (6, .int (iI (wor c r u (mem (opl c r u) i)))), (0, .ref mo), (1, .long u), (5, .int (nI i))]) hx hb dX9_exactly_87 hl (by decide) rfl (fun ls hl => ?_)
      refine lv_iinc (pc := 89) (v := nI (i + 1)) (lv' := [(5, .int (nI (i + 1))), (4, .int (iI (wor c r u (mem (opl c r u) i)))), (3, .int (nI (mem (opl c r u) i))), (7, .int (nI 1)), (6, .int (iI (wor c r u (mem (opl c r u) i)))), (0, .ref mo), (1, .long u)]) hx hb dX9_exactly_89 hl (k := 6) rfl (n_inc i 1) (by decide) rfl (fun ls hl => ?_)
      refine lv_goto (pc := 92) (tgt := 13) hx hb dX9_exactly_92 (by decide) ?_
      exact ih13 (i + 1) (nI (mem (opl c r u) i)) (wor c r u (mem (opl c r u) i)) (by first | assumption | omega) (BsX.new hbs (Or.inr (by omega))) (hwb) (by omega) _ _ hP hD hS _ (lv_sub hl [5, 6, 2, 1, 0] rfl)
  exact L13 ((und c r u - 0) + 1) 0 (-1) 0 (by first | assumption | omega) (Or.inl ⟨rfl, rfl⟩) (by omega) (Nat.lt_succ_self _) _ _ hP hD hS _ (lv_sub hl [3, 4, 2, 1, 0] rfl)
