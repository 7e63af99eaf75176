set_option maxHeartbeats 1200000 in
set_option maxRecDepth 100000 in
theorem c_X0_runOf (l : Launch) (D : va_G) (Y : vY) (bd : Nat) (bs : Nat) (bf : Nat) (bg : Nat) (c : Nat) (r : Nat) (sd : Nat → Int64) (fb : Nat → Int32) (gb : Nat → Int32) (w : Int64) (hC : Cr c r) (hB : BdOK c r sd fb gb) : Ro l yX0_runOf wsX0_runOf ({ frames := 3, cells := 0, slots := 0, locals := 68 } : Room) [.ref bd, .long w] D Y [(bd, .inr (0, [.int (nI c), .int (nI r), .int (nI (al c r)), .int (nI (c * r)), .ref bs, .ref bf, .ref bg])), (bs, .inl (Y.2.1, 16, .inr (.inl sd))), (bf, .inl (Y.1, 40, .inl fb)), (bg, .inl (Y.1, 40, .inl gb))] (some (.int (nI (run c r w)))) := by
  refine ro_intro (by decide +kernel) rfl (Nat.le_of_ble_eq_true rfl) [(0, .ref bd), (1, .long w)] rfl ?_
  intro pG eG sG mG aG bG tG cG ls hx hb hr hml hts hown hlocks hK hP hl
  have hP : va_P D vwCl [(bd, .inr (0, [.int (nI c), .int (nI r), .int (nI (al c r)), .int (nI (c * r)), .ref bs, .ref bf, .ref bg])), (bs, .inl (Y.2.1, 16, .inr (.inl sd))), (bf, .inl (Y.1, 40, .inl fb)), (bg, .inl (Y.1, 40, .inl gb))] sG.heap := hP
  have hown : sG.vm.findClass RX0 = some mG.cls := hown
  have hl : lv_has ls 10 [(0, .ref bd), (1, .long w)] := hl
  have hinX0 : ∀ w ∈ u_ws RX0 TX0 7, w ∈ wsX0_runOf := by decide +kernel
  obtain ⟨hq1, hq2, hq3, hq4, hq5, hq6, hq7, hq8, hq9, hq10, hq11⟩ := hC.q
  refine lv_lload_n (pc := 0) hx hb dX0_runOf_0 rfl (lv_at hl 1 rfl) ?_
  refine lv_lstore_n (pc := 1) (lv' := [(3, .long w), (0, .ref bd), (1, .long w)]) hx hb dX0_runOf_1 rfl hl (by decide) rfl (fun ls hl => ?_)
  refine lv_iconst (pc := 2) (v := zb true) hx hb dX0_runOf_2 rfl ?_
  refine lv_istore (pc := 3) (lv' := [(5, .int (zb true)), (3, .long w), (0, .ref bd), (1, .long w)]) hx hb dX0_runOf_3 hl (by decide) rfl (fun ls hl => ?_)
  refine lv_iconst (pc := 5) (v := nI 0) hx hb dX0_runOf_5 rfl ?_
  refine lv_istore (pc := 6) (lv' := [(6, .int (nI 0)), (5, .int (zb true)), (3, .long w), (0, .ref bd), (1, .long w)]) hx hb dX0_runOf_6 hl (by decide) rfl (fun ls hl => ?_)
  have L8 : ∀ (n8 : Nat), ∀ (p : Nat) (u : Int64) (z : Bool), (p ≤ 16) → (Rch c r w u) → (z = true → p ≤ cmpl c r u) → (z = false → Stb c r u) → 17 - p < n8 → ∀ (ls : Array Slot), lv_has ls 10 [(0, .ref bd), (1, .long w), (3, .long u), (5, .int (zb z)), (6, .int (nI p))] → W pG l eG ({ frames := 3, cells := 0, slots := 0, locals := 68 } : Room) sG mG aG bG tG cG sG.heap [] 0 0 (MQ bG (RoQ (some (.int (nI (run c r w))))) aG sG 0 0 (fun _ => False)) (F0 mG 8 ls []) := by
    intro n8
    induction n8 with
    | zero =>
      intro p u z hp hr1 hr2 hr3 hmeas8  ls hl
      exact absurd hmeas8 (Nat.not_lt_zero _)
    | succ n8 ih8 =>
      intro p u z hp hr1 hr2 hr3 hmeas8  ls hl
      refine lv_iload (pc := 8) hx hb dX0_runOf_8 (lv_at hl 3 rfl) ?_
      refine z_if_eq (pc := 10) (tgt := 73) hx hb dX0_runOf_10 (by decide) (fun c10 => ?_) (fun c10 => ?_)
      · refine lv_aload_n (pc := 73) hx hb dX0_runOf_73 rfl (lv_at hl 0 rfl) ?_
        refine lv_lload_n (pc := 74) hx hb dX0_runOf_74 rfl (lv_at hl 2 rfl) ?_
        refine ro_go (pc := 75) (va_runV (As := [.long u]) (rest := []) ⟨hx, hb, hml, hown, hts⟩ (c_X0_completeBoxes l D Y bd bs bf bg c r sd fb gb u (hC) (hB)) (cwV 1 hts gX0_runOf_X0_completeBoxes rfl rfl rfl ⟨rfl, hdX0_completeBoxes⟩ ⟨Nat.le_of_ble_eq_true rfl, Nat.le_of_ble_eq_true rfl⟩) (ro_pV hK hP (ro_recv hK hP (ci := 0) (q0 := 0) rfl rfl)) rfl rfl hl.1 rfl (lv_room (Nat.le_of_ble_eq_true rfl)) dX0_runOf_75 ⟨Nat.le_of_ble_eq_true rfl, Nat.le_of_ble_eq_true rfl⟩) ?_
        refine lv_aload_n (pc := 78) hx hb dX0_runOf_78 rfl (lv_at hl 0 rfl) ?_
        refine lv_lload_n (pc := 79) hx hb dX0_runOf_79 rfl (lv_at hl 1 rfl) ?_
        refine ro_go (pc := 80) (va_runV (As := [.long w]) (rest := [.int (nI (cmpl c r u))]) ⟨hx, hb, hml, hown, hts⟩ (c_X0_completeBoxes l D Y bd bs bf bg c r sd fb gb w (hC) (hB)) (cwV 1 hts gX0_runOf_X0_completeBoxes rfl rfl rfl ⟨rfl, hdX0_completeBoxes⟩ ⟨Nat.le_of_ble_eq_true rfl, Nat.le_of_ble_eq_true rfl⟩) (ro_pV hK hP (ro_recv hK hP (ci := 0) (q0 := 0) rfl rfl)) rfl rfl hl.1 rfl (lv_room (Nat.le_of_ble_eq_true rfl)) dX0_runOf_80 ⟨Nat.le_of_ble_eq_true rfl, Nat.le_of_ble_eq_true rfl⟩) ?_
        have hst : Stb c r u := hr3 c10
        have hrun := run_end hC hr1 hst
        refine n_isub (pc := 83) hx hb (by omega) dX0_runOf_83 ?_
        exact ro_iret (v := nI ((cmpl c r u) - (cmpl c r w))) hx hb hr hlocks (by congr 1; omega) dX0_runOf_84
      refine lv_iload (pc := 13) hx hb dX0_runOf_13 (lv_at hl 4 rfl) ?_
      refine lv_bipush (pc := 15) (v := nI 16) hx hb dX0_runOf_15 rfl ?_
      refine n_icmp_ge (pc := 17) (tgt := 73) hx hb (by omega) (by omega) dX0_runOf_17 (by decide) (fun c17 => ?_) (fun c17 => ?_)
      · refine lv_aload_n (pc := 73) hx hb dX0_runOf_73 rfl (lv_at hl 0 rfl) ?_
        refine lv_lload_n (pc := 74) hx hb dX0_runOf_74 rfl (lv_at hl 2 rfl) ?_
        refine ro_go (pc := 75) (va_runV (As := [.long u]) (rest := []) ⟨hx, hb, hml, hown, hts⟩ (c_X0_completeBoxes l D Y bd bs bf bg c r sd fb gb u (hC) (hB)) (cwV 1 hts gX0_runOf_X0_completeBoxes rfl rfl rfl ⟨rfl, hdX0_completeBoxes⟩ ⟨Nat.le_of_ble_eq_true rfl, Nat.le_of_ble_eq_true rfl⟩) (ro_pV hK hP (ro_recv hK hP (ci := 0) (q0 := 0) rfl rfl)) rfl rfl hl.1 rfl (lv_room (Nat.le_of_ble_eq_true rfl)) dX0_runOf_75 ⟨Nat.le_of_ble_eq_true rfl, Nat.le_of_ble_eq_true rfl⟩) ?_
        refine lv_aload_n (pc := 78) hx hb dX0_runOf_78 rfl (lv_at hl 0 rfl) ?_
        refine lv_lload_n (pc := 79) hx hb dX0_runOf_79 rfl (lv_at hl 1 rfl) ?_
        refine ro_go (pc := 80) (va_runV (As := [.long w]) (rest := [.int (nI (cmpl c r u))]) ⟨hx, hb, hml, hown, hts⟩ (c_X0_completeBoxes l D Y bd bs bf bg c r sd fb gb w (hC) (hB)) (cwV 1 hts gX0_runOf_X0_completeBoxes rfl rfl rfl ⟨rfl, hdX0_completeBoxes⟩ ⟨Nat.le_of_ble_eq_true rfl, Nat.le_of_ble_eq_true rfl⟩) (ro_pV hK hP (ro_recv hK hP (ci := 0) (q0 := 0) rfl rfl)) rfl rfl hl.1 rfl (lv_room (Nat.le_of_ble_eq_true rfl)) dX0_runOf_80 ⟨Nat.le_of_ble_eq_true rfl, Nat.le_of_ble_eq_true rfl⟩) ?_
        have hst : Stb c r u := Stb_of hC (all_done (by have := hr2 c10; omega))
        have hrun := run_end hC hr1 hst
        refine n_isub (pc := 83) hx hb (by omega) dX0_runOf_83 ?_
        exact ro_iret (v := nI ((cmpl c r u) - (cmpl c r w))) hx hb hr hlocks (by congr 1; omega) dX0_runOf_84
      refine lv_iconst (pc := 20) (v := zb false) hx hb dX0_runOf_20 rfl ?_
      refine lv_istore (pc := 21) (lv' := [(5, .int (zb false)), (0, .ref bd), (1, .long w), (3, .long u), (6, .int (nI p))]) hx hb dX0_runOf_21 hl (by decide) rfl (fun ls hl => ?_)
      refine lv_iconst (pc := 23) (v := nI 0) hx hb dX0_runOf_23 rfl ?_
      refine lv_istore (pc := 24) (lv' := [(7, .int (nI 0)), (5, .int (zb false)), (0, .ref bd), (1, .long w), (3, .long u), (6, .int (nI p))]) hx hb dX0_runOf_24 hl (by decide) rfl (fun ls hl => ?_)
      have L26 : ∀ (n26 : Nat), ∀ (i : Nat) (v : Int64) (y : Bool), (i ≤ c * r) → (Rch c r w v) → (y = false → v = u ∧ ∀ b, b < i → opn c r u b ≠ 1) → (y = true → cmpl c r u < cmpl c r v) → c * r - i < n26 → ∀ (ls : Array Slot), lv_has ls 10 [(0, .ref bd), (1, .long w), (3, .long v), (5, .int (zb y)), (6, .int (nI p)), (7, .int (nI i))] → W pG l eG ({ frames := 3, cells := 0, slots := 0, locals := 68 } : Room) sG mG aG bG tG cG sG.heap [] 0 0 (MQ bG (RoQ (some (.int (nI (run c r w))))) aG sG 0 0 (fun _ => False)) (F0 mG 26 ls []) := by
        intro n26
        induction n26 with
        | zero =>
          intro i v y hi hv1 hv2 hv3 hmeas26  ls hl
          exact absurd hmeas26 (Nat.not_lt_zero _)
        | succ n26 ih26 =>
          intro i v y hi hv1 hv2 hv3 hmeas26  ls hl
          refine lv_iload (pc := 26) hx hb dX0_runOf_26 (lv_at hl 5 rfl) ?_
          refine lv_aload_n (pc := 28) hx hb dX0_runOf_28 rfl (lv_at hl 0 rfl) ?_
          refine va_get (pc := 29) (D := D) (ci := 0) (v := .int (nI (c * r))) (C := RX0) (T := TX0) (N := 7) hx hb hts hinX0 hown hK.1 hP 0 rfl rfl 3 (by decide) (hts (.fieldLink RX0 29 "BoxesGame$Board" "boxCount" "I") (List.mem_of_getElem? (i := 1) rfl)) (fun _ h9 => h9) rfl dX0_runOf_29 ?_
          refine n_icmp_ge (pc := 32) (tgt := 67) hx hb (by omega) (by omega) dX0_runOf_32 (by decide) (fun c32 => ?_) (fun c32 => ?_)
          · refine lv_iinc (pc := 67) (v := nI (p + 1)) (lv' := [(6, .int (nI (p + 1))), (0, .ref bd), (1, .long w), (3, .long v), (5, .int (zb y)), (7, .int (nI i))]) hx hb dX0_runOf_67 hl (k := 4) rfl (n_inc p 1) (by decide) rfl (fun ls hl => ?_)
            refine lv_goto (pc := 70) (tgt := 8) hx hb dX0_runOf_70 (by decide) ?_
            exact ih8 (p + 1) v y (by omega) (hv1) (fun q => by have := hr2 c10; have := (hv3 q); omega) (fun q => by obtain ⟨q1, q2⟩ := hv2 q; exact Stb_of hC (fun b hb => by rw [q1]; exact q2 b (by omega))) (by omega) _ (lv_sub hl [1, 2, 3, 4, 0] rfl)
          refine lv_aload_n (pc := 35) hx hb dX0_runOf_35 rfl (lv_at hl 0 rfl) ?_
          refine lv_lload_n (pc := 36) hx hb dX0_runOf_36 rfl (lv_at hl 2 rfl) ?_
          refine lv_iload (pc := 37) hx hb dX0_runOf_37 (lv_at hl 5 rfl) ?_
          refine ro_go (pc := 39) (va_runV (As := [.long v, .int (nI i)]) (rest := []) ⟨hx, hb, hml, hown, hts⟩ (c_X0_openAround l D Y bd bs bf bg c r sd fb gb v i (hC) (hB) (by first | assumption | omega)) (cwV 2 hts gX0_runOf_X0_openAround rfl rfl rfl ⟨rfl, hdX0_openAround⟩ ⟨Nat.le_of_ble_eq_true rfl, Nat.le_of_ble_eq_true rfl⟩) (ro_pV hK hP (ro_recv hK hP (ci := 0) (q0 := 0) rfl rfl)) rfl rfl hl.1 rfl (lv_room (Nat.le_of_ble_eq_true rfl)) dX0_runOf_39 ⟨Nat.le_of_ble_eq_true rfl, Nat.le_of_ble_eq_true rfl⟩) ?_
          refine lv_lstore (pc := 42) (lv' := [(8, .long (iOA c r v i)), (0, .ref bd), (1, .long w), (3, .long v), (5, .int (zb y)), (6, .int (nI p)), (7, .int (nI i))]) hx hb dX0_runOf_42 hl (by decide) rfl (fun ls hl => ?_)
          refine lv_lload (pc := 44) hx hb dX0_runOf_44 (lv_at hl 0 rfl) ?_
          refine ro_go (pc := 46) (va_runS (As := [.long (iOA c r v i)]) (rest := []) ⟨hx, hb, hml, hown, hts⟩ (c_J13_bitCount_95d88 l D Y (iOA c r v i) ) (va_cwS 1 hts gX0_runOf_J13_bitCount_95d88 rfl rfl rfl hdJ13_bitCount_95d88 ⟨Nat.le_of_ble_eq_true rfl, Nat.le_of_ble_eq_true rfl⟩) (ro_pS hK (hP.sub [] rfl)) rfl rfl hl.1 rfl (lv_room (Nat.le_of_ble_eq_true rfl)) dX0_runOf_46 ⟨Nat.le_of_ble_eq_true rfl, Nat.le_of_ble_eq_true rfl⟩) ?_
          refine lv_iconst (pc := 49) (v := nI 1) hx hb dX0_runOf_49 rfl ?_
          refine n_icmp_ne (pc := 50) (tgt := 61) hx hb (by have := pop_iOA hC c32 v; have := opn_le c r v i; omega) (by decide) dX0_runOf_50 (by decide) (fun c50 => ?_) (fun c50 => ?_)
          · have hne : opn c r v i ≠ 1 := by rw [← pop_iOA hC c32 v]; exact c50
            refine lv_iinc (pc := 61) (v := nI (i + 1)) (lv' := [(7, .int (nI (i + 1))), (8, .long (iOA c r v i)), (0, .ref bd), (1, .long w), (3, .long v), (5, .int (zb y)), (6, .int (nI p))]) hx hb dX0_runOf_61 hl (k := 6) rfl (n_inc i 1) (by decide) rfl (fun ls hl => ?_)
            refine lv_goto (pc := 64) (tgt := 26) hx hb dX0_runOf_64 (by decide) ?_
            exact ih26 (i + 1) v y (by first | assumption | omega) (hv1) (fun q => by obtain ⟨q1, q2⟩ := hv2 q; exact ⟨q1, lt_s q2 (by rw [← q1]; exact hne)⟩) (hv3) (by omega) _ (lv_sub hl [2, 3, 4, 5, 6, 0] rfl)
          obtain ⟨lo, ho1, ho2, ho3, ho4⟩ := one_open hC c32 (u := v) (by rw [← pop_iOA hC c32 v]; exact c50)
          have hgr : cmpl c r u < cmpl c r (v ||| b1 lo) := by obtain ⟨k1, k2⟩ := knd_is1.mp ho3; rw [cmpl_draw hC ho1 k1]; cases y with | true => have := hv3 rfl; omega | false => have := (hv2 rfl).1; rw [this] at k2 ⊢; omega
          refine lv_lload_n (pc := 53) hx hb dX0_runOf_53 rfl (lv_at hl 3 rfl) ?_
          refine lv_lload (pc := 54) hx hb dX0_runOf_54 (lv_at hl 0 rfl) ?_
          refine lv_lor (pc := 56) hx hb dX0_runOf_56 ?_
          refine lv_lstore_n (pc := 57) (lv' := [(3, .long (v ||| (iOA c r v i))), (8, .long (iOA c r v i)), (0, .ref bd), (1, .long w), (5, .int (zb y)), (6, .int (nI p)), (7, .int (nI i))]) hx hb dX0_runOf_57 rfl hl (by decide) rfl (fun ls hl => ?_)
          refine lv_iconst (pc := 58) (v := zb true) hx hb dX0_runOf_58 rfl ?_
          refine lv_istore (pc := 59) (lv' := [(5, .int (zb true)), (3, .long (v ||| (iOA c r v i))), (8, .long (iOA c r v i)), (0, .ref bd), (1, .long w), (6, .int (nI p)), (7, .int (nI i))]) hx hb dX0_runOf_59 hl (by decide) rfl (fun ls hl => ?_)
          refine lv_iinc (pc := 61) (v := nI (i + 1)) (lv' := [(7, .int (nI (i + 1))), (5, .int (zb true)), (3, .long (v ||| (iOA c r v i))), (8, .long (iOA c r v i)), (0, .ref bd), (1, .long w), (6, .int (nI p))]) hx hb dX0_runOf_61 hl (k := 6) rfl (n_inc i 1) (by decide) rfl (fun ls hl => ?_)
          refine lv_goto (pc := 64) (tgt := 26) hx hb dX0_runOf_64 (by decide) ?_
          exact ih26 (i + 1) (v ||| (iOA c r v i)) true (by first | assumption | omega) (by rw [ho2]; exact hv1.st ho1 ho3) (fun q => by cases q) (fun _ => by rw [ho2]; exact hgr) (by omega) _ (lv_sub hl [4, 5, 2, 1, 6, 0] rfl)
      exact L26 ((c * r - 0) + 1) 0 u false (by first | assumption | omega) (hr1) (fun _ => ⟨rfl, fun b hb => absurd hb (Nat.not_lt_zero _)⟩) (fun q => by cases q) (Nat.lt_succ_self _) _ (lv_sub hl [2, 3, 4, 1, 5, 0] rfl)
  exact L8 ((17 - 0) + 1) 0 w true (by omega) (Rch.rf) (fun _ => Nat.zero_le _) (fun q => by cases q) (Nat.lt_succ_self _) _ (lv_sub hl [3, 4, 2, 1, 0] rfl)

set_option maxHeartbeats 1200000 in
set_option maxRecDepth 100000 in
theorem c_X0_hasDoubleTaking (l : Launch) (D : va_G) (Y : vY) (bd : Nat) (bs : Nat) (bf : Nat) (bg : Nat) (c : Nat) (r : Nat) (sd : Nat → Int64) (fb : Nat → Int32) (gb : Nat → Int32) (w : Int64) (hC : Cr c r) (hB : BdOK c r sd fb gb) : Ro l yX0_hasDoubleTaking wsX0_hasDoubleTaking ({ frames := 2, cells := 0, slots := 0, locals := 44 } : Room) [.ref bd, .long w] D Y [(bd, .inr (0, [.int (nI c), .int (nI r), .int (nI (al c r)), .int (nI (c * r)), .ref bs, .ref bf, .ref bg])), (bs, .inl (Y.2.1, 16, .inr (.inl sd))), (bf, .inl (Y.1, 40, .inl fb)), (bg, .inl (Y.1, 40, .inl gb))] (some (.int (zb (hdt c r w)))) := by
  refine ro_intro (by decide +kernel) rfl (Nat.le_of_ble_eq_true rfl) [(0, .ref bd), (1, .long w)] rfl ?_
  intro pG eG sG mG aG bG tG cG ls hx hb hr hml hts hown hlocks hK hP hl
  have hP : va_P D vwCl [(bd, .inr (0, [.int (nI c), .int (nI r), .int (nI (al c r)), .int (nI (c * r)), .ref bs, .ref bf, .ref bg])), (bs, .inl (Y.2.1, 16, .inr (.inl sd))), (bf, .inl (Y.1, 40, .inl fb)), (bg, .inl (Y.1, 40, .inl gb))] sG.heap := hP
  have hown : sG.vm.findClass RX0 = some mG.cls := hown
  have hl : lv_has ls 8 [(0, .ref bd), (1, .long w)] := hl
  have hinX0 : ∀ w ∈ u_ws RX0 TX0 7, w ∈ wsX0_hasDoubleTaking := by decide +kernel
  obtain ⟨hq1, hq2, hq3, hq4, hq5, hq6, hq7, hq8, hq9, hq10, hq11⟩ := hC.q
  refine lv_lconst (pc := 0) (v := 0) hx hb dX0_hasDoubleTaking_0 (by decide) ?_
  refine lv_lstore_n (pc := 1) (lv' := [(3, .long (0 : Int64)), (0, .ref bd), (1, .long w)]) hx hb dX0_hasDoubleTaking_1 rfl hl (by decide) rfl (fun ls hl => ?_)
  refine lv_iconst (pc := 2) (v := nI 0) hx hb dX0_hasDoubleTaking_2 rfl ?_
  refine lv_istore (pc := 3) (lv' := [(5, .int (nI 0)), (3, .long (0 : Int64)), (0, .ref bd), (1, .long w)]) hx hb dX0_hasDoubleTaking_3 hl (by decide) rfl (fun ls hl => ?_)
  have L5 : ∀ (n5 : Nat), ∀ (i : Nat) (u : Int64), (i ≤ c * r) → (∀ j, tb u j = (orb (fun b => decide (opn c r w b = 1) && isd c r b j) i && !tb w j)) → (∀ b a j, a < b → b < i → opn c r w b = 1 → opn c r w a = 1 → isd c r b j = true → isd c r a j = true → tb w j = true) → c * r - i < n5 → ∀ (ls : Array Slot), lv_has ls 8 [(0, .ref bd), (1, .long w), (3, .long u), (5, .int (nI i))] → W pG l eG ({ frames := 2, cells := 0, slots := 0, locals := 44 } : Room) sG mG aG bG tG cG sG.heap [] 0 0 (MQ bG (RoQ (some (.int (zb (hdt c r w))))) aG sG 0 0 (fun _ => False)) (F0 mG 5 ls []) := by
    intro n5
    induction n5 with
    | zero =>
      intro i u hi hu hno hmeas5  ls hl
      exact absurd hmeas5 (Nat.not_lt_zero _)
    | succ n5 ih5 =>
      intro i u hi hu hno hmeas5  ls hl
      refine lv_iload (pc := 5) hx hb dX0_hasDoubleTaking_5 (lv_at hl 3 rfl) ?_
      refine lv_aload_n (pc := 7) hx hb dX0_hasDoubleTaking_7 rfl (lv_at hl 0 rfl) ?_
      refine va_get (pc := 8) (D := D) (ci := 0) (v := .int (nI (c * r))) (C := RX0) (T := TX0) (N := 7) hx hb hts hinX0 hown hK.1 hP 0 rfl rfl 3 (by decide) (hts (.fieldLink RX0 29 "BoxesGame$Board" "boxCount" "I") (List.mem_of_getElem? (i := 1) rfl)) (fun _ h9 => h9) rfl dX0_hasDoubleTaking_8 ?_
      refine n_icmp_ge (pc := 11) (tgt := 54) hx hb (by omega) (by omega) dX0_hasDoubleTaking_11 (by decide) (fun c11 => ?_) (fun c11 => ?_)
      · refine lv_iconst (pc := 54) (v := nI 0) hx hb dX0_hasDoubleTaking_54 rfl ?_
        exact ro_zret hx hb hr hlocks (zb_0 (hdt_not hC (fun b a j h1 h2 => hno b a j h1 (by omega)))) dX0_hasDoubleTaking_55
      refine lv_aload_n (pc := 14) hx hb dX0_hasDoubleTaking_14 rfl (lv_at hl 0 rfl) ?_
      refine lv_lload_n (pc := 15) hx hb dX0_hasDoubleTaking_15 rfl (lv_at hl 1 rfl) ?_
      refine lv_iload (pc := 16) hx hb dX0_hasDoubleTaking_16 (lv_at hl 3 rfl) ?_
      refine ro_go (pc := 18) (va_runV (As := [.long w, .int (nI i)]) (rest := []) ⟨hx, hb, hml, hown, hts⟩ (c_X0_openAround l D Y bd bs bf bg c r sd fb gb w i (hC) (hB) (by first | assumption | omega)) (cwV 2 hts gX0_hasDoubleTaking_X0_openAround rfl rfl rfl ⟨rfl, hdX0_openAround⟩ ⟨Nat.le_of_ble_eq_true rfl, Nat.le_of_ble_eq_true rfl⟩) (ro_pV hK hP (ro_recv hK hP (ci := 0) (q0 := 0) rfl rfl)) rfl rfl hl.1 rfl (lv_room (Nat.le_of_ble_eq_true rfl)) dX0_hasDoubleTaking_18 ⟨Nat.le_of_ble_eq_true rfl, Nat.le_of_ble_eq_true rfl⟩) ?_
      refine lv_lstore (pc := 21) (lv' := [(6, .long (iOA c r w i)), (0, .ref bd), (1, .long w), (3, .long u), (5, .int (nI i))]) hx hb dX0_hasDoubleTaking_21 hl (by decide) rfl (fun ls hl => ?_)
      refine lv_lload (pc := 23) hx hb dX0_hasDoubleTaking_23 (lv_at hl 0 rfl) ?_
      refine ro_go (pc := 25) (va_runS (As := [.long (iOA c r w i)]) (rest := []) ⟨hx, hb, hml, hown, hts⟩ (c_J13_bitCount_95d88 l D Y (iOA c r w i) ) (va_cwS 1 hts gX0_hasDoubleTaking_J13_bitCount_95d88 rfl rfl rfl hdJ13_bitCount_95d88 ⟨Nat.le_of_ble_eq_true rfl, Nat.le_of_ble_eq_true rfl⟩) (ro_pS hK (hP.sub [] rfl)) rfl rfl hl.1 rfl (lv_room (Nat.le_of_ble_eq_true rfl)) dX0_hasDoubleTaking_25 ⟨Nat.le_of_ble_eq_true rfl, Nat.le_of_ble_eq_true rfl⟩) ?_
      refine lv_iconst (pc := 28) (v := nI 1) hx hb dX0_hasDoubleTaking_28 rfl ?_
      refine n_icmp_ne (pc := 29) (tgt := 48) hx hb (by have := pop_iOA hC c11 w; have := opn_le c r w i; omega) (by decide) dX0_hasDoubleTaking_29 (by decide) (fun c29 => ?_) (fun c29 => ?_)
      · refine lv_iinc (pc := 48) (v := nI (i + 1)) (lv' := [(5, .int (nI (i + 1))), (6, .long (iOA c r w i)), (0, .ref bd), (1, .long w), (3, .long u)]) hx hb dX0_hasDoubleTaking_48 hl (k := 4) rfl (n_inc i 1) (by decide) rfl (fun ls hl => ?_)
        refine lv_goto (pc := 51) (tgt := 5) hx hb dX0_hasDoubleTaking_51 (by decide) ?_
        exact ih5 (i + 1) u (by first | assumption | omega) (hdt_v hu (by rw [← pop_iOA hC c11 w]; exact c29)) (hdt_n hno (by rw [← pop_iOA hC c11 w]; exact c29)) (by omega) _ (lv_sub hl [2, 3, 4, 0] rfl)
      refine lv_lload_n (pc := 32) hx hb dX0_hasDoubleTaking_32 rfl (lv_at hl 3 rfl) ?_
      refine lv_lload (pc := 33) hx hb dX0_hasDoubleTaking_33 (lv_at hl 0 rfl) ?_
      refine lv_land (pc := 35) hx hb dX0_hasDoubleTaking_35 ?_
      refine lv_lconst (pc := 36) (v := 0) hx hb dX0_hasDoubleTaking_36 (by decide) ?_
      refine W.lcmp (pc := 37) hx hb dX0_hasDoubleTaking_37 ?_
      refine lc_if_eq (pc := 38) (tgt := 43) hx hb dX0_hasDoubleTaking_38 (by decide) (fun c38 => ?_) (fun c38 => ?_)
      · refine lv_lload_n (pc := 43) hx hb dX0_hasDoubleTaking_43 rfl (lv_at hl 3 rfl) ?_
        refine lv_lload (pc := 44) hx hb dX0_hasDoubleTaking_44 (lv_at hl 0 rfl) ?_
        refine lv_lor (pc := 46) hx hb dX0_hasDoubleTaking_46 ?_
        refine lv_lstore_n (pc := 47) (lv' := [(3, .long (u ||| (iOA c r w i))), (6, .long (iOA c r w i)), (0, .ref bd), (1, .long w), (5, .int (nI i))]) hx hb dX0_hasDoubleTaking_47 rfl hl (by decide) rfl (fun ls hl => ?_)
        refine lv_iinc (pc := 48) (v := nI (i + 1)) (lv' := [(5, .int (nI (i + 1))), (3, .long (u ||| (iOA c r w i))), (6, .long (iOA c r w i)), (0, .ref bd), (1, .long w)]) hx hb dX0_hasDoubleTaking_48 hl (k := 4) rfl (n_inc i 1) (by decide) rfl (fun ls hl => ?_)
        refine lv_goto (pc := 51) (tgt := 5) hx hb dX0_hasDoubleTaking_51 (by decide) ?_
        exact ih5 (i + 1) (u ||| (iOA c r w i)) (by first | assumption | omega) (hdt_u hC c11 hu (by rw [← pop_iOA hC c11 w]; exact c29)) (hdt_s hC c11 hu hno c38) (by omega) _ (lv_sub hl [3, 4, 1, 0] rfl)
      refine lv_iconst (pc := 41) (v := nI 1) hx hb dX0_hasDoubleTaking_41 rfl ?_
      exact ro_zret hx hb hr hlocks (zb_1 (hdt_yes hC c11 hu (by rw [← pop_iOA hC c11 w]; exact c29) c38)) dX0_hasDoubleTaking_42
  exact L5 ((c * r - 0) + 1) 0 (0 : Int64) (by first | assumption | omega) (fun j => by rw [tb_0]; rfl) (fun b a j _ h => absurd h (Nat.not_lt_zero _)) (Nat.lt_succ_self _) _ (lv_sub hl [2, 3, 1, 0] rfl)
