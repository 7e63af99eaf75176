set_option maxHeartbeats 1200000 in
set_option maxRecDepth 100000 in
theorem c_X9_cheapest (l : Launch) (D : va_G) (Y : vY) (mo : Nat) (c : Nat) (r : Nat) (fs : List Value) (u : Int64) (hf : MF c r fs) (hC : Cr c r) : Ro l yX9_cheapest wsX9_cheapest ({ frames := 8, cells := 0, slots := 0, locals := 191 } : Room) [.ref mo, .long u] D Y [(mo, .inr (8, fs))] (some (.int (oI (chM c r u)))) := by
  refine ro_intro (by decide +kernel) rfl (Nat.le_of_ble_eq_true rfl) [(0, .ref mo), (1, .long u)] rfl ?_
  intro pG eG sG mG aG bG tG cG ls hx hb hr hml hts hown hlocks hK hP hl
  have hP : va_P D vwCl [(mo, .inr (8, fs))] sG.heap := hP
  have hown : sG.vm.findClass RX9 = some mG.cls := hown
  have hl : lv_has ls 8 [(0, .ref mo), (1, .long u)] := hl
  obtain ⟨hq1, hq2, hq3, hq4, hq5, hq6, hq7, hq8, hq9, hq10, hq11⟩ := hC.q
  refine lv_iconst (pc := 0) (v := (-1)) hx hb dX9_cheapest_0 (by decide) ?_
  refine lv_istore_n (pc := 1) (lv' := [(3, .int (-1)), (0, .ref mo), (1, .long u)]) hx hb dX9_cheapest_1 rfl hl (by decide) rfl (fun ls hl => ?_)
  refine lv_iconst (pc := 2) (v := nI 0) hx hb dX9_cheapest_2 rfl ?_
  refine lv_istore (pc := 3) (lv' := [(4, .int (nI 0)), (3, .int (-1)), (0, .ref mo), (1, .long u)]) hx hb dX9_cheapest_3 hl (by decide) rfl (fun ls hl => ?_)
  refine lv_iconst (pc := 5) (v := nI 0) hx hb dX9_cheapest_5 rfl ?_
  refine lv_istore (pc := 6) (lv' := [(5, .int (nI 0)), (4, .int (nI 0)), (3, .int (-1)), (0, .ref mo), (1, .long u)]) hx hb dX9_cheapest_6 hl (by decide) rfl (fun ls hl => ?_)
  have L8 : ∀ (n8 : Nat), ∀ (i : Nat) (x : Int32) (p : Nat), (i ≤ al c r) → (x = oI (chB c r u i)) → (¬ x = -1 → p = chP c r u (chB c r u i)) → (p ≤ 1000) → al c r - i < n8 → ∀ (ls : Array Slot), lv_has ls 8 [(0, .ref mo), (1, .long u), (3, .int x), (4, .int (nI p)), (5, .int (nI i))] → W pG l eG ({ frames := 8, cells := 0, slots := 0, locals := 191 } : Room) sG mG aG bG tG cG sG.heap [] 0 0 (MQ bG (RoQ (some (.int (oI (chM c r u))))) aG sG 0 0 (fun _ => False)) (F0 mG 8 ls []) := by
    intro n8
    induction n8 with
    | zero =>
      intro i x p hi hx3 hcp hp4 hmeas8  ls hl
      exact absurd hmeas8 (Nat.not_lt_zero _)
    | succ n8 ih8 =>
      intro i x p hi hx3 hcp hp4 hmeas8  ls hl
      refine lv_iload (pc := 8) hx hb dX9_cheapest_8 (lv_at hl 4 rfl) ?_
      refine lv_aload_n (pc := 10) hx hb dX9_cheapest_10 rfl (lv_at hl 0 rfl) ?_
      refine ro_go (pc := 11) (va_runV (As := []) (rest := [.int (nI i)]) ⟨hx, hb, hml, hown, hts⟩ (c_X9_all l D Y mo c r fs (hf) (hC)) (cwV 0 hts gX9_cheapest_X9_all rfl rfl rfl ⟨rfl, hdX9_all⟩ ⟨Nat.le_of_ble_eq_true rfl, Nat.le_of_ble_eq_true rfl⟩) (ro_pV hK hP (ro_recv hK hP (ci := 8) (q0 := 0) rfl rfl)) rfl rfl hl.1 rfl (lv_room (Nat.le_of_ble_eq_true rfl)) dX9_cheapest_11 ⟨Nat.le_of_ble_eq_true rfl, Nat.le_of_ble_eq_true rfl⟩) ?_
      refine n_icmp_ge (pc := 14) (tgt := 102) hx hb (by omega) (by omega) dX9_cheapest_14 (by decide) (fun c14 => ?_) (fun c14 => ?_)
      · refine lv_iload_n (pc := 102) hx hb dX9_cheapest_102 rfl (lv_at hl 2 rfl) ?_
        exact ro_iret (v := x) hx hb hr hlocks (by rw [hx3, show i = al c r by omega]; rfl) dX9_cheapest_103
      refine lv_lload_n (pc := 17) hx hb dX9_cheapest_17 rfl (lv_at hl 1 rfl) ?_
      refine lv_iload (pc := 18) hx hb dX9_cheapest_18 (lv_at hl 4 rfl) ?_
      refine ro_go (pc := 20) (va_runS (As := [.long u, .int (nI i)]) (rest := []) ⟨hx, hb, hml, hown, hts⟩ (c_X9_has l D Y u i (by omega)) (va_cwS 2 hts gX9_cheapest_X9_has rfl rfl rfl hdX9_has ⟨Nat.le_of_ble_eq_true rfl, Nat.le_of_ble_eq_true rfl⟩) (ro_pS hK (hP.sub [] rfl)) rfl rfl hl.1 rfl (lv_room (Nat.le_of_ble_eq_true rfl)) dX9_cheapest_20 ⟨Nat.le_of_ble_eq_true rfl, Nat.le_of_ble_eq_true rfl⟩) ?_
      refine z_if_eq (pc := 23) (tgt := 30) hx hb dX9_cheapest_23 (by decide) (fun c23 => ?_) (fun c23 => ?_)
      · refine lv_aload_n (pc := 30) hx hb dX9_cheapest_30 rfl (lv_at hl 0 rfl) ?_
        refine lv_lload_n (pc := 31) hx hb dX9_cheapest_31 rfl (lv_at hl 1 rfl) ?_
        refine lv_lconst (pc := 32) (v := 1) hx hb dX9_cheapest_32 (by decide) ?_
        refine lv_iload (pc := 33) hx hb dX9_cheapest_33 (lv_at hl 4 rfl) ?_
        refine lv_lshl (pc := 35) (v := b1 i) hx hb dX9_cheapest_35 (b1_shl i (by omega)) ?_
        refine lv_lor (pc := 36) hx hb dX9_cheapest_36 ?_
        refine ro_go (pc := 37) (va_runV (As := [.long (u ||| (b1 i))]) (rest := []) ⟨hx, hb, hml, hown, hts⟩ (c_X9_runOf l D Y mo c r fs (u ||| (b1 i)) (hf) (hC)) (cwV 1 hts gX9_cheapest_X9_runOf rfl rfl rfl ⟨rfl, hdX9_runOf⟩ ⟨Nat.le_of_ble_eq_true rfl, Nat.le_of_ble_eq_true rfl⟩) (ro_pV hK hP (ro_recv hK hP (ci := 8) (q0 := 0) rfl rfl)) rfl rfl hl.1 rfl (lv_room (Nat.le_of_ble_eq_true rfl)) dX9_cheapest_37 ⟨Nat.le_of_ble_eq_true rfl, Nat.le_of_ble_eq_true rfl⟩) ?_
        refine lv_istore (pc := 40) (lv' := [(6, .int (nI (run c r (u ||| (b1 i))))), (0, .ref mo), (1, .long u), (3, .int x), (4, .int (nI p)), (5, .int (nI i))]) hx hb dX9_cheapest_40 hl (by decide) rfl (fun ls hl => ?_)
        refine lv_lload_n (pc := 42) hx hb dX9_cheapest_42 rfl (lv_at hl 2 rfl) ?_
        refine lv_iload (pc := 43) hx hb dX9_cheapest_43 (lv_at hl 5 rfl) ?_
        refine ro_go (pc := 45) (va_runS (As := [.long u, .int (nI i)]) (rest := []) ⟨hx, hb, hml, hown, hts⟩ (c_X9_has l D Y u i (by omega)) (va_cwS 2 hts gX9_cheapest_X9_has rfl rfl rfl hdX9_has ⟨Nat.le_of_ble_eq_true rfl, Nat.le_of_ble_eq_true rfl⟩) (ro_pS hK (hP.sub [] rfl)) rfl rfl hl.1 rfl (lv_room (Nat.le_of_ble_eq_true rfl)) dX9_cheapest_45 ⟨Nat.le_of_ble_eq_true rfl, Nat.le_of_ble_eq_true rfl⟩) ?_
        refine z_if_ne (pc := 48) (tgt := 67) hx hb dX9_cheapest_48 (by decide) (fun c48 => ?_) (fun c48 => ?_)
        · exact absurd (c23.symm.trans c48) (by decide)
        refine lv_iload_n (pc := 51) hx hb dX9_cheapest_51 rfl (lv_at hl 3 rfl) ?_
        refine lv_iconst (pc := 52) (v := (-1)) hx hb dX9_cheapest_52 (by decide) ?_
        refine lv_icmp_eq (pc := 53) (tgt := 63) hx hb dX9_cheapest_53 (by decide) (fun c53 => ?_) (fun c53 => ?_)
        · refine lv_iconst (pc := 63) (v := nI 1) hx hb dX9_cheapest_63 rfl ?_
          refine lv_goto (pc := 64) (tgt := 68) hx hb dX9_cheapest_64 (by decide) ?_
          refine lv_istore (pc := 68) (lv' := [(7, .int (nI 1)), (6, .int (nI (run c r (u ||| (b1 i))))), (0, .ref mo), (1, .long u), (3, .int x), (4, .int (nI p)), (5, .int (nI i))]) hx hb dX9_cheapest_68 hl (by decide) rfl (fun ls hl => ?_)
          refine lv_iload (pc := 70) hx hb dX9_cheapest_70 (lv_at hl 0 rfl) ?_
          refine n_if_eq (pc := 72) (tgt := 80) hx hb (by omega) dX9_cheapest_72 (by decide) (fun c72 => ?_) (fun c72 => ?_)
          · exact absurd c72 (by decide)
          refine lv_iload (pc := 75) hx hb dX9_cheapest_75 (lv_at hl 6 rfl) ?_
          refine lv_goto (pc := 77) (tgt := 81) hx hb dX9_cheapest_77 (by decide) ?_
          refine lv_istore_n (pc := 81) (lv' := [(3, .int (nI i)), (7, .int (nI 1)), (6, .int (nI (run c r (u ||| (b1 i))))), (0, .ref mo), (1, .long u), (4, .int (nI p)), (5, .int (nI i))]) hx hb dX9_cheapest_81 rfl hl (by decide) rfl (fun ls hl => ?_)
          refine lv_iload (pc := 82) hx hb dX9_cheapest_82 (lv_at hl 1 rfl) ?_
          refine n_if_eq (pc := 84) (tgt := 92) hx hb (by omega) dX9_cheapest_84 (by decide) (fun c84 => ?_) (fun c84 => ?_)
          · exact absurd c84 (by decide)
          refine lv_iload (pc := 87) hx hb dX9_cheapest_87 (lv_at hl 2 rfl) ?_
          refine lv_goto (pc := 89) (tgt := 94) hx hb dX9_cheapest_89 (by decide) ?_
          refine lv_istore (pc := 94) (lv' := [(4, .int (nI (run c r (u ||| (b1 i))))), (3, .int (nI i)), (7, .int (nI 1)), (6, .int (nI (run c r (u ||| (b1 i))))), (0, .ref mo), (1, .long u), (5, .int (nI i))]) hx hb dX9_cheapest_94 hl (by decide) rfl (fun ls hl => ?_)
          refine lv_iinc (pc := 96) (v := nI (i + 1)) (lv' := [(5, .int (nI (i + 1))), (4, .int (nI (run c r (u ||| (b1 i))))), (3, .int (nI i)), (7, .int (nI 1)), (6, .int (nI (run c r (u ||| (b1 i))))), (0, .ref mo), (1, .long u)]) hx hb dX9_cheapest_96 hl (k := 6) rfl (n_inc i 1) (by decide) rfl (fun ls hl => ?_)
          refine lv_goto (pc := 99) (tgt := 8) hx hb dX9_cheapest_99 (by decide) ?_
          exact ih8 (i + 1) (nI i) (run c r (u ||| (b1 i))) (by first | assumption | omega) (by rw [chB_z hC c23 (oI_none hx3 c53 (fun b h => by have := (chB_lt h).1; omega))]; rfl) (fun _ => by rw [chB_z hC c23 (oI_none hx3 c53 (fun b h => by have := (chB_lt h).1; omega))]; rfl) (by have := run_le hC (u ||| b1 i); omega) (by omega) _ (lv_sub hl [5, 6, 2, 1, 0] rfl)
        refine lv_iload (pc := 56) hx hb dX9_cheapest_56 (lv_at hl 0 rfl) ?_
        refine lv_iload (pc := 58) hx hb dX9_cheapest_58 (lv_at hl 4 rfl) ?_
        refine n_icmp_ge (pc := 60) (tgt := 67) hx hb (by have := run_le hC (u ||| b1 i); omega) (by omega) dX9_cheapest_60 (by decide) (fun c60 => ?_) (fun c60 => ?_)
        · refine lv_iconst (pc := 67) (v := nI 0) hx hb dX9_cheapest_67 rfl ?_
          refine lv_istore (pc := 68) (lv' := [(7, .int (nI 0)), (6, .int (nI (run c r (u ||| (b1 i))))), (0, .ref mo), (1, .long u), (3, .int x), (4, .int (nI p)), (5, .int (nI i))]) hx hb dX9_cheapest_68 hl (by decide) rfl (fun ls hl => ?_)
          refine lv_iload (pc := 70) hx hb dX9_cheapest_70 (lv_at hl 0 rfl) ?_
          refine n_if_eq (pc := 72) (tgt := 80) hx hb (by omega) dX9_cheapest_72 (by decide) (fun c72 => ?_) (fun c72 => ?_)
          · refine lv_iload_n (pc := 80) hx hb dX9_cheapest_80 rfl (lv_at hl 4 rfl) ?_
            refine lv_istore_n (pc := 81) (lv' := [(3, .int x), (7, .int (nI 0)), (6, .int (nI (run c r (u ||| (b1 i))))), (0, .ref mo), (1, .long u), (4, .int (nI p)), (5, .int (nI i))]) hx hb dX9_cheapest_81 rfl hl (by decide) rfl (fun ls hl => ?_)
            refine lv_iload (pc := 82) hx hb dX9_cheapest_82 (lv_at hl 1 rfl) ?_
            refine n_if_eq (pc := 84) (tgt := 92) hx hb (by omega) dX9_cheapest_84 (by decide) (fun c84 => ?_) (fun c84 => ?_)
            · refine lv_iload (pc := 92) hx hb dX9_cheapest_92 (lv_at hl 5 rfl) ?_
              refine lv_istore (pc := 94) (lv' := [(4, .int (nI p)), (3, .int x), (7, .int (nI 0)), (6, .int (nI (run c r (u ||| (b1 i))))), (0, .ref mo), (1, .long u), (5, .int (nI i))]) hx hb dX9_cheapest_94 hl (by decide) rfl (fun ls hl => ?_)
              refine lv_iinc (pc := 96) (v := nI (i + 1)) (lv' := [(5, .int (nI (i + 1))), (4, .int (nI p)), (3, .int x), (7, .int (nI 0)), (6, .int (nI (run c r (u ||| (b1 i))))), (0, .ref mo), (1, .long u)]) hx hb dX9_cheapest_96 hl (k := 6) rfl (n_inc i 1) (by decide) rfl (fun ls hl => ?_)
              refine lv_goto (pc := 99) (tgt := 8) hx hb dX9_cheapest_99 (by decide) ?_
              exact ih8 (i + 1) x p (by first | assumption | omega) (by rw [chB_o hC c23 (by rw [← hcp c53]; exact c60)]; exact hx3) (fun h => by rw [chB_o hC c23 (by rw [← hcp c53]; exact c60)]; exact hcp h) (hp4) (by omega) _ (lv_sub hl [5, 6, 2, 1, 0] rfl)
            · exact absurd c84 (by decide)
          · exact absurd c72 (by decide)
        refine lv_iconst (pc := 63) (v := nI 1) hx hb dX9_cheapest_63 rfl ?_
        refine lv_goto (pc := 64) (tgt := 68) hx hb dX9_cheapest_64 (by decide) ?_
        refine lv_istore (pc := 68) (lv' := [(7, .int (nI 1)), (6, .int (nI (run c r (u ||| (b1 i))))), (0, .ref mo), (1, .long u), (3, .int x), (4, .int (nI p)), (5, .int (nI i))]) hx hb dX9_cheapest_68 hl (by decide) rfl (fun ls hl => ?_)
        refine lv_iload (pc := 70) hx hb dX9_cheapest_70 (lv_at hl 0 rfl) ?_
        refine n_if_eq (pc := 72) (tgt := 80) hx hb (by omega) dX9_cheapest_72 (by decide) (fun c72 => ?_) (fun c72 => ?_)
        · exact absurd c72 (by decide)
        refine lv_iload (pc := 75) hx hb dX9_cheapest_75 (lv_at hl 6 rfl) ?_
        refine lv_goto (pc := 77) (tgt := 81) hx hb dX9_cheapest_77 (by decide) ?_
        refine lv_istore_n (pc := 81) (lv' := [(3, .int (nI i)), (7, .int (nI 1)), (6, .int (nI (run c r (u ||| (b1 i))))), (0, .ref mo), (1, .long u), (4, .int (nI p)), (5, .int (nI i))]) hx hb dX9_cheapest_81 rfl hl (by decide) rfl (fun ls hl => ?_)
        refine lv_iload (pc := 82) hx hb dX9_cheapest_82 (lv_at hl 1 rfl) ?_
        refine n_if_eq (pc := 84) (tgt := 92) hx hb (by omega) dX9_cheapest_84 (by decide) (fun c84 => ?_) (fun c84 => ?_)
        · exact absurd c84 (by decide)
        refine lv_iload (pc := 87) hx hb dX9_cheapest_87 (lv_at hl 2 rfl) ?_
        refine lv_goto (pc := 89) (tgt := 94) hx hb dX9_cheapest_89 (by decide) ?_
        refine lv_istore (pc := 94) (lv' := [(4, .int (nI (run c r (u ||| (b1 i))))), (3, .int (nI i)), (7, .int (nI 1)), (6, .int (nI (run c r (u ||| (b1 i))))), (0, .ref mo), (1, .long u), (5, .int (nI i))]) hx hb dX9_cheapest_94 hl (by decide) rfl (fun ls hl => ?_)
        refine lv_iinc (pc := 96) (v := nI (i + 1)) (lv' := [(5, .int (nI (i + 1))), (4, .int (nI (run c r (u ||| (b1 i))))), (3, .int (nI i)), (7, .int (nI 1)), (6, .int (nI (run c r (u ||| (b1 i))))), (0, .ref mo), (1, .long u)]) hx hb dX9_cheapest_96 hl (k := 6) rfl (n_inc i 1) (by decide) rfl (fun ls hl => ?_)
        refine lv_goto (pc := 99) (tgt := 8) hx hb dX9_cheapest_99 (by decide) ?_
        exact ih8 (i + 1) (nI i) (run c r (u ||| (b1 i))) (by first | assumption | omega) (by rw [chB_n hC c23 (by rw [← hcp c53]; exact c60)]; rfl) (fun _ => by rw [chB_n hC c23 (by rw [← hcp c53]; exact c60)]; rfl) (by have := run_le hC (u ||| b1 i); omega) (by omega) _ (lv_sub hl [5, 6, 2, 1, 0] rfl)
      refine lv_iconst (pc := 26) (v := nI 0) hx hb dX9_cheapest_26 rfl ?_
      refine lv_goto (pc := 27) (tgt := 40) hx hb dX9_cheapest_27 (by decide) ?_
      refine lv_istore (pc := 40) (lv' := [(6, .int (nI 0)), (0, .ref mo), (1, .long u), (3, .int x), (4, .int (nI p)), (5, .int (nI i))]) hx hb dX9_cheapest_40 hl (by decide) rfl (fun ls hl => ?_)
      refine lv_lload_n (pc := 42) hx hb dX9_cheapest_42 rfl (lv_at hl 2 rfl) ?_
      refine lv_iload (pc := 43) hx hb dX9_cheapest_43 (lv_at hl 5 rfl) ?_
      refine ro_go (pc := 45) (va_runS (As := [.long u, .int (nI i)]) (rest := []) ⟨hx, hb, hml, hown, hts⟩ (c_X9_has l D Y u i (by omega)) (va_cwS 2 hts gX9_cheapest_X9_has rfl rfl rfl hdX9_has ⟨Nat.le_of_ble_eq_true rfl, Nat.le_of_ble_eq_true rfl⟩) (ro_pS hK (hP.sub [] rfl)) rfl rfl hl.1 rfl (lv_room (Nat.le_of_ble_eq_true rfl)) dX9_cheapest_45 ⟨Nat.le_of_ble_eq_true rfl, Nat.le_of_ble_eq_true rfl⟩) ?_
      refine z_if_ne (pc := 48) (tgt := 67) hx hb dX9_cheapest_48 (by decide) (fun c48 => ?_) (fun c48 => ?_)
      · refine lv_iconst (pc := 67) (v := nI 0) hx hb dX9_cheapest_67 rfl ?_
        refine lv_istore (pc := 68) (lv' := [(7, .int (nI 0)), (6, .int (nI 0)), (0, .ref mo), (1, .long u), (3, .int x), (4, .int (nI p)), (5, .int (nI i))]) hx hb dX9_cheapest_68 hl (by decide) rfl (fun ls hl => ?_)
        refine lv_iload (pc := 70) hx hb dX9_cheapest_70 (lv_at hl 0 rfl) ?_
        refine n_if_eq (pc := 72) (tgt := 80) hx hb (by omega) dX9_cheapest_72 (by decide) (fun c72 => ?_) (fun c72 => ?_)
        · refine lv_iload_n (pc := 80) hx hb dX9_cheapest_80 rfl (lv_at hl 4 rfl) ?_
          refine lv_istore_n (pc := 81) (lv' := [(3, .int x), (7, .int (nI 0)), (6, .int (nI 0)), (0, .ref mo), (1, .long u), (4, .int (nI p)), (5, .int (nI i))]) hx hb dX9_cheapest_81 rfl hl (by decide) rfl (fun ls hl => ?_)
          refine lv_iload (pc := 82) hx hb dX9_cheapest_82 (lv_at hl 1 rfl) ?_
          refine n_if_eq (pc := 84) (tgt := 92) hx hb (by omega) dX9_cheapest_84 (by decide) (fun c84 => ?_) (fun c84 => ?_)
          · refine lv_iload (pc := 92) hx hb dX9_cheapest_92 (lv_at hl 5 rfl) ?_
            refine lv_istore (pc := 94) (lv' := [(4, .int (nI p)), (3, .int x), (7, .int (nI 0)), (6, .int (nI 0)), (0, .ref mo), (1, .long u), (5, .int (nI i))]) hx hb dX9_cheapest_94 hl (by decide) rfl (fun ls hl => ?_)
            refine lv_iinc (pc := 96) (v := nI (i + 1)) (lv' := [(5, .int (nI (i + 1))), (4, .int (nI p)), (3, .int x), (7, .int (nI 0)), (6, .int (nI 0)), (0, .ref mo), (1, .long u)]) hx hb dX9_cheapest_96 hl (k := 6) rfl (n_inc i 1) (by decide) rfl (fun ls hl => ?_)
            refine lv_goto (pc := 99) (tgt := 8) hx hb dX9_cheapest_99 (by decide) ?_
            exact ih8 (i + 1) x p (by first | assumption | omega) (by rw [chB_d c23]; exact hx3) (fun h => by rw [chB_d c23]; exact hcp h) (hp4) (by omega) _ (lv_sub hl [5, 6, 2, 1, 0] rfl)
          · exact absurd c84 (by decide)
        · exact absurd c72 (by decide)
      · exact absurd (c23.symm.trans c48) (by decide)
  exact L8 ((al c r - 0) + 1) 0 (-1) 0 (by first | assumption | omega) (rfl) (fun h => absurd rfl h) (by omega) (Nat.lt_succ_self _) _ (lv_sub hl [3, 4, 2, 1, 0] rfl)

set_option maxHeartbeats 1200000 in
set_option maxRecDepth 100000 in
theorem c_X9_canTakeTwo (l : Launch) (D : va_G) (Y : vY) (mo : Nat) (c : Nat) (r : Nat) (fs : List Value) (u : Int64) (hf : MF c r fs) (hC : Cr c r) : Ro l yX9_canTakeTwo wsX9_canTakeTwo ({ frames := 5, cells := 0, slots := 0, locals := 118 } : Room) [.ref mo, .long u] D Y [(mo, .inr (8, fs))] (some (.int (zb (hdt c r u)))) := by
  refine ro_intro (by decide +kernel) rfl (Nat.le_of_ble_eq_true rfl) [(0, .ref mo), (1, .long u)] rfl ?_
  intro pG eG sG mG aG bG tG cG ls hx hb hr hml hts hown hlocks hK hP hl
  have hP : va_P D vwCl [(mo, .inr (8, fs))] sG.heap := hP
  have hown : sG.vm.findClass RX9 = some mG.cls := hown
  have hl : lv_has ls 5 [(0, .ref mo), (1, .long u)] := hl
  obtain ⟨hq1, hq2, hq3, hq4, hq5, hq6, hq7, hq8, hq9, hq10, hq11⟩ := hC.q
  refine lv_iconst (pc := 0) (v := zb false) hx hb dX9_canTakeTwo_0 rfl ?_
  refine lv_istore_n (pc := 1) (lv' := [(3, .int (zb false)), (0, .ref mo), (1, .long u)]) hx hb dX9_canTakeTwo_1 rfl hl (by decide) rfl (fun ls hl => ?_)
  refine lv_iconst (pc := 2) (v := nI 0) hx hb dX9_canTakeTwo_2 rfl ?_
  refine lv_istore (pc := 3) (lv' := [(4, .int (nI 0)), (3, .int (zb false)), (0, .ref mo), (1, .long u)]) hx hb dX9_canTakeTwo_3 hl (by decide) rfl (fun ls hl => ?_)
  have L5 : ∀ (n5 : Nat), ∀ (i : Nat) (z : Bool), (i ≤ al c r) → (z = orb (fun l => !tb u l && decide (gai c r u l = 2)) i) → al c r - i < n5 → ∀ (ls : Array Slot), lv_has ls 5 [(0, .ref mo), (1, .long u), (3, .int (zb z)), (4, .int (nI i))] → W pG l eG ({ frames := 5, cells := 0, slots := 0, locals := 118 } : Room) sG mG aG bG tG cG sG.heap [] 0 0 (MQ bG (RoQ (some (.int (zb (hdt c r u))))) aG sG 0 0 (fun _ => False)) (F0 mG 5 ls []) := by
    intro n5
    induction n5 with
    | zero =>
      intro i z hi hz9 hmeas5  ls hl
      exact absurd hmeas5 (Nat.not_lt_zero _)
    | succ n5 ih5 =>
      intro i z hi hz9 hmeas5  ls hl
      refine lv_iload (pc := 5) hx hb dX9_canTakeTwo_5 (lv_at hl 3 rfl) ?_
      refine lv_aload_n (pc := 7) hx hb dX9_canTakeTwo_7 rfl (lv_at hl 0 rfl) ?_
      refine ro_go (pc := 8) (va_runV (As := []) (rest := [.int (nI i)]) ⟨hx, hb, hml, hown, hts⟩ (c_X9_all l D Y mo c r fs (hf) (hC)) (cwV 0 hts gX9_canTakeTwo_X9_all rfl rfl rfl ⟨rfl, hdX9_all⟩ ⟨Nat.le_of_ble_eq_true rfl, Nat.le_of_ble_eq_true rfl⟩) (ro_pV hK hP (ro_recv hK hP (ci := 8) (q0 := 0) rfl rfl)) rfl rfl hl.1 rfl (lv_room (Nat.le_of_ble_eq_true rfl)) dX9_canTakeTwo_8 ⟨Nat.le_of_ble_eq_true rfl, Nat.le_of_ble_eq_true rfl⟩) ?_
      refine n_icmp_ge (pc := 11) (tgt := 50) hx hb (by omega) (by omega) dX9_canTakeTwo_11 (by decide) (fun c11 => ?_) (fun c11 => ?_)
      · refine lv_iload_n (pc := 50) hx hb dX9_canTakeTwo_50 rfl (lv_at hl 2 rfl) ?_
        exact ro_zret hx hb hr hlocks (by rw [hz9, show i = al c r by omega]; rfl) dX9_canTakeTwo_51
      refine lv_iload_n (pc := 14) hx hb dX9_canTakeTwo_14 rfl (lv_at hl 2 rfl) ?_
      refine z_if_ne (pc := 15) (tgt := 38) hx hb dX9_canTakeTwo_15 (by decide) (fun c15 => ?_) (fun c15 => ?_)
      · refine lv_iconst (pc := 38) (v := zb true) hx hb dX9_canTakeTwo_38 rfl ?_
        refine lv_goto (pc := 39) (tgt := 43) hx hb dX9_canTakeTwo_39 (by decide) ?_
        refine lv_istore_n (pc := 43) (lv' := [(3, .int (zb true)), (0, .ref mo), (1, .long u), (4, .int (nI i))]) hx hb dX9_canTakeTwo_43 rfl hl (by decide) rfl (fun ls hl => ?_)
        refine lv_iinc (pc := 44) (v := nI (i + 1)) (lv' := [(4, .int (nI (i + 1))), (3, .int (zb true)), (0, .ref mo), (1, .long u)]) hx hb dX9_canTakeTwo_44 hl (k := 3) rfl (n_inc i 1) (by decide) rfl (fun ls hl => ?_)
        refine lv_goto (pc := 47) (tgt := 5) hx hb dX9_canTakeTwo_47 (by decide) ?_
        exact ih5 (i + 1) true (by first | assumption | omega) (by rw [orb, ← hz9, c15]; rfl) (by omega) _ (lv_sub hl [2, 3, 1, 0] rfl)
      refine lv_lload_n (pc := 18) hx hb dX9_canTakeTwo_18 rfl (lv_at hl 1 rfl) ?_
      refine lv_iload (pc := 19) hx hb dX9_canTakeTwo_19 (lv_at hl 3 rfl) ?_
      refine ro_go (pc := 21) (va_runS (As := [.long u, .int (nI i)]) (rest := []) ⟨hx, hb, hml, hown, hts⟩ (c_X9_has l D Y u i (by omega)) (va_cwS 2 hts gX9_canTakeTwo_X9_has rfl rfl rfl hdX9_has ⟨Nat.le_of_ble_eq_true rfl, Nat.le_of_ble_eq_true rfl⟩) (ro_pS hK (hP.sub [] rfl)) rfl rfl hl.1 rfl (lv_room (Nat.le_of_ble_eq_true rfl)) dX9_canTakeTwo_21 ⟨Nat.le_of_ble_eq_true rfl, Nat.le_of_ble_eq_true rfl⟩) ?_
      refine z_if_ne (pc := 24) (tgt := 42) hx hb dX9_canTakeTwo_24 (by decide) (fun c24 => ?_) (fun c24 => ?_)
      · refine lv_iconst (pc := 42) (v := zb false) hx hb dX9_canTakeTwo_42 rfl ?_
        refine lv_istore_n (pc := 43) (lv' := [(3, .int (zb false)), (0, .ref mo), (1, .long u), (4, .int (nI i))]) hx hb dX9_canTakeTwo_43 rfl hl (by decide) rfl (fun ls hl => ?_)
        refine lv_iinc (pc := 44) (v := nI (i + 1)) (lv' := [(4, .int (nI (i + 1))), (3, .int (zb false)), (0, .ref mo), (1, .long u)]) hx hb dX9_canTakeTwo_44 hl (k := 3) rfl (n_inc i 1) (by decide) rfl (fun ls hl => ?_)
        refine lv_goto (pc := 47) (tgt := 5) hx hb dX9_canTakeTwo_47 (by decide) ?_
        exact ih5 (i + 1) false (by first | assumption | omega) (by rw [orb, ← hz9, c15, c24]; rfl) (by omega) _ (lv_sub hl [2, 3, 1, 0] rfl)
      refine lv_aload_n (pc := 27) hx hb dX9_canTakeTwo_27 rfl (lv_at hl 0 rfl) ?_
      refine lv_iload (pc := 28) hx hb dX9_canTakeTwo_28 (lv_at hl 3 rfl) ?_
      refine lv_lload_n (pc := 30) hx hb dX9_canTakeTwo_30 rfl (lv_at hl 1 rfl) ?_
      refine ro_go (pc := 31) (va_runV (As := [.int (nI i), .long u]) (rest := []) ⟨hx, hb, hml, hown, hts⟩ (c_X9_gains l D Y mo c r fs i u (hf) (hC) (by first | assumption | omega)) (cwV 2 hts gX9_canTakeTwo_X9_gains rfl rfl rfl ⟨rfl, hdX9_gains⟩ ⟨Nat.le_of_ble_eq_true rfl, Nat.le_of_ble_eq_true rfl⟩) (ro_pV hK hP (ro_recv hK hP (ci := 8) (q0 := 0) rfl rfl)) rfl rfl hl.1 rfl (lv_room (Nat.le_of_ble_eq_true rfl)) dX9_canTakeTwo_31 ⟨Nat.le_of_ble_eq_true rfl, Nat.le_of_ble_eq_true rfl⟩) ?_
      refine lv_iconst (pc := 34) (v := nI 2) hx hb dX9_canTakeTwo_34 rfl ?_
      refine n_icmp_ne (pc := 35) (tgt := 42) hx hb (by have := gai_le c r u i; omega) (by decide) dX9_canTakeTwo_35 (by decide) (fun c35 => ?_) (fun c35 => ?_)
      · refine lv_iconst (pc := 42) (v := zb false) hx hb dX9_canTakeTwo_42 rfl ?_
        refine lv_istore_n (pc := 43) (lv' := [(3, .int (zb false)), (0, .ref mo), (1, .long u), (4, .int (nI i))]) hx hb dX9_canTakeTwo_43 rfl hl (by decide) rfl (fun ls hl => ?_)
        refine lv_iinc (pc := 44) (v := nI (i + 1)) (lv' := [(4, .int (nI (i + 1))), (3, .int (zb false)), (0, .ref mo), (1, .long u)]) hx hb dX9_canTakeTwo_44 hl (k := 3) rfl (n_inc i 1) (by decide) rfl (fun ls hl => ?_)
        refine lv_goto (pc := 47) (tgt := 5) hx hb dX9_canTakeTwo_47 (by decide) ?_
        exact ih5 (i + 1) false (by first | assumption | omega) (by rw [orb, ← hz9, c15, c24, decide_eq_false c35]; rfl) (by omega) _ (lv_sub hl [2, 3, 1, 0] rfl)
      refine lv_iconst (pc := 38) (v := zb true) hx hb dX9_canTakeTwo_38 rfl ?_
      refine lv_goto (pc := 39) (tgt := 43) hx hb dX9_canTakeTwo_39 (by decide) ?_
      refine lv_istore_n (pc := 43) (lv' := [(3, .int (zb true)), (0, .ref mo), (1, .long u), (4, .int (nI i))]) hx hb dX9_canTakeTwo_43 rfl hl (by decide) rfl (fun ls hl => ?_)
      refine lv_iinc (pc := 44) (v := nI (i + 1)) (lv' := [(4, .int (nI (i + 1))), (3, .int (zb true)), (0, .ref mo), (1, .long u)]) hx hb dX9_canTakeTwo_44 hl (k := 3) rfl (n_inc i 1) (by decide) rfl (fun ls hl => ?_)
      refine lv_goto (pc := 47) (tgt := 5) hx hb dX9_canTakeTwo_47 (by decide) ?_
      exact ih5 (i + 1) true (by first | assumption | omega) (by rw [orb, ← hz9, c15, c24, decide_eq_true c35]; rfl) (by omega) _ (lv_sub hl [2, 3, 1, 0] rfl)
  exact L5 ((al c r - 0) + 1) 0 false (by first | assumption | omega) (rfl) (Nat.lt_succ_self _) _ (lv_sub hl [2, 3, 1, 0] rfl)

set_option maxHeartbeats 1200000 in
set_option maxRecDepth 100000 in
theorem c_X9_greedy (l : Launch) (D : va_G) (Y : vY) (mo : Nat) (c : Nat) (r : Nat) (fs : List Value) (u : Int64) (hf : MF c r fs) (hC : Cr c r) : Ro l yX9_greedy wsX9_greedy ({ frames := 9, cells := 0, slots := 0, locals := 218 } : Room) [.ref mo, .long u] D Y [(mo, .inr (8, fs))] (some (.int (oI (grM c r u)))) := by
  refine ro_intro (by decide +kernel) rfl (Nat.le_of_ble_eq_true rfl) [(0, .ref mo), (1, .long u)] rfl ?_
  intro pG eG sG mG aG bG tG cG ls hx hb hr hml hts hown hlocks hK hP hl
  have hP : va_P D vwCl [(mo, .inr (8, fs))] sG.heap := hP
  have hown : sG.vm.findClass RX9 = some mG.cls := hown
  have hl : lv_has ls 4 [(0, .ref mo), (1, .long u)] := hl
  obtain ⟨hq1, hq2, hq3, hq4, hq5, hq6, hq7, hq8, hq9, hq10, hq11⟩ := hC.q
  refine lv_aload_n (pc := 0) hx hb dX9_greedy_0 rfl (lv_at hl 0 rfl) ?_
  refine lv_iconst (pc := 1) (v := nI 1) hx hb dX9_greedy_1 rfl ?_
  refine lv_lload_n (pc := 2) hx hb dX9_greedy_2 rfl (lv_at hl 1 rfl) ?_
  refine ro_go (pc := 3) (va_runV (As := [.int (nI 1), .long u]) (rest := []) ⟨hx, hb, hml, hown, hts⟩ (c_X9_firstOf l D Y mo c r fs 1 u (hf) (hC) (by decide)) (cwV 2 hts gX9_greedy_X9_firstOf rfl rfl rfl ⟨rfl, hdX9_firstOf⟩ ⟨Nat.le_of_ble_eq_true rfl, Nat.le_of_ble_eq_true rfl⟩) (ro_pV hK hP (ro_recv hK hP (ci := 8) (q0 := 0) rfl rfl)) rfl rfl hl.1 rfl (lv_room (Nat.le_of_ble_eq_true rfl)) dX9_greedy_3 ⟨Nat.le_of_ble_eq_true rfl, Nat.le_of_ble_eq_true rfl⟩) ?_
  refine lv_topi (fun x3 ex3 => ?_)
  refine lv_istore_n (pc := 6) (lv' := [(3, .int x3), (0, .ref mo), (1, .long u)]) hx hb dX9_greedy_6 rfl hl (by decide) rfl (fun ls hl => ?_)
  refine lv_iload_n (pc := 7) hx hb dX9_greedy_7 rfl (lv_at hl 0 rfl) ?_
  refine lv_iconst (pc := 8) (v := (-1)) hx hb dX9_greedy_8 (by decide) ?_
  refine lv_icmp_ne (pc := 9) (tgt := 21) hx hb dX9_greedy_9 (by decide) (fun c9 => ?_) (fun c9 => ?_)
  · refine lv_iload_n (pc := 21) hx hb dX9_greedy_21 rfl (lv_at hl 0 rfl) ?_
    refine lv_istore_n (pc := 22) (lv' := [(3, .int x3), (0, .ref mo), (1, .long u)]) hx hb dX9_greedy_22 rfl hl (by decide) rfl (fun ls hl => ?_)
    refine lv_iload_n (pc := 23) hx hb dX9_greedy_23 rfl (lv_at hl 0 rfl) ?_
    refine lv_iconst (pc := 24) (v := (-1)) hx hb dX9_greedy_24 (by decide) ?_
    refine lv_icmp_ne (pc := 25) (tgt := 36) hx hb dX9_greedy_25 (by decide) (fun c25 => ?_) (fun c25 => ?_)
    · refine lv_iload_n (pc := 36) hx hb dX9_greedy_36 rfl (lv_at hl 0 rfl) ?_
      exact ro_iret (v := x3) hx hb hr hlocks (by obtain ⟨b, hb9, _⟩ := oI_some ex3 c9; rw [ex3, grM_1 hb9, hb9]) dX9_greedy_37
    · exact absurd c25 c9
  refine lv_aload_n (pc := 12) hx hb dX9_greedy_12 rfl (lv_at hl 1 rfl) ?_
  refine lv_iconst (pc := 13) (v := nI 2) hx hb dX9_greedy_13 rfl ?_
  refine lv_lload_n (pc := 14) hx hb dX9_greedy_14 rfl (lv_at hl 2 rfl) ?_
  refine ro_go (pc := 15) (va_runV (As := [.int (nI 2), .long u]) (rest := []) ⟨hx, hb, hml, hown, hts⟩ (c_X9_firstOf l D Y mo c r fs 2 u (hf) (hC) (by decide)) (cwV 2 hts gX9_greedy_X9_firstOf rfl rfl rfl ⟨rfl, hdX9_firstOf⟩ ⟨Nat.le_of_ble_eq_true rfl, Nat.le_of_ble_eq_true rfl⟩) (ro_pV hK hP (ro_recv hK hP (ci := 8) (q0 := 0) rfl rfl)) rfl rfl hl.1 rfl (lv_room (Nat.le_of_ble_eq_true rfl)) dX9_greedy_15 ⟨Nat.le_of_ble_eq_true rfl, Nat.le_of_ble_eq_true rfl⟩) ?_
  refine lv_topi (fun x15 ex15 => ?_)
  refine lv_goto (pc := 18) (tgt := 22) hx hb dX9_greedy_18 (by decide) ?_
  refine lv_istore_n (pc := 22) (lv' := [(3, .int x15), (0, .ref mo), (1, .long u)]) hx hb dX9_greedy_22 rfl hl (by decide) rfl (fun ls hl => ?_)
  refine lv_iload_n (pc := 23) hx hb dX9_greedy_23 rfl (lv_at hl 0 rfl) ?_
  refine lv_iconst (pc := 24) (v := (-1)) hx hb dX9_greedy_24 (by decide) ?_
  refine lv_icmp_ne (pc := 25) (tgt := 36) hx hb dX9_greedy_25 (by decide) (fun c25 => ?_) (fun c25 => ?_)
  · refine lv_iload_n (pc := 36) hx hb dX9_greedy_36 rfl (lv_at hl 0 rfl) ?_
    exact ro_iret (v := x15) hx hb hr hlocks (by have h3 := oI_none ex3 c9 (fun b h => fstk_lt hC h); obtain ⟨b, hb9, _⟩ := oI_some ex15 c25; rw [ex15, grM_2 h3 hb9, hb9]) dX9_greedy_37
  refine lv_aload_n (pc := 28) hx hb dX9_greedy_28 rfl (lv_at hl 1 rfl) ?_
  refine lv_lload_n (pc := 29) hx hb dX9_greedy_29 rfl (lv_at hl 2 rfl) ?_
  refine ro_go (pc := 30) (va_runV (As := [.long u]) (rest := []) ⟨hx, hb, hml, hown, hts⟩ (c_X9_cheapest l D Y mo c r fs u (hf) (hC)) (cwV 1 hts gX9_greedy_X9_cheapest rfl rfl rfl ⟨rfl, hdX9_cheapest⟩ ⟨Nat.le_of_ble_eq_true rfl, Nat.le_of_ble_eq_true rfl⟩) (ro_pV hK hP (ro_recv hK hP (ci := 8) (q0 := 0) rfl rfl)) rfl rfl hl.1 rfl (lv_room (Nat.le_of_ble_eq_true rfl)) dX9_greedy_30 ⟨Nat.le_of_ble_eq_true rfl, Nat.le_of_ble_eq_true rfl⟩) ?_
  refine lv_topi (fun x30 ex30 => ?_)
  refine lv_goto (pc := 33) (tgt := 37) hx hb dX9_greedy_33 (by decide) ?_
  exact ro_iret (v := x30) hx hb hr hlocks (by have h3 := oI_none ex3 c9 (fun b h => fstk_lt hC h); have h4 := oI_none ex15 c25 (fun b h => fstk_lt hC h); rw [ex30, grM_3 h3 h4]) dX9_greedy_37

set_option maxHeartbeats 1200000 in
set_option maxRecDepth 100000 in
theorem c_X9_keeping (l : Launch) (D : va_G) (Y : vY) (mo : Nat) (c : Nat) (r : Nat) (fs : List Value) (u : Int64) (hf : MF c r fs) (hC : Cr c r) : Ro l yX9_keeping wsX9_keeping ({ frames := 10, cells := 0, slots := 0, locals := 241 } : Room) [.ref mo, .long u] D Y [(mo, .inr (8, fs))] (some (.int (oI (kpM c r u)))) := by
  refine ro_intro (by decide +kernel) rfl (Nat.le_of_ble_eq_true rfl) [(0, .ref mo), (1, .long u)] rfl ?_
  intro pG eG sG mG aG bG tG cG ls hx hb hr hml hts hown hlocks hK hP hl
  have hP : va_P D vwCl [(mo, .inr (8, fs))] sG.heap := hP
  have hown : sG.vm.findClass RX9 = some mG.cls := hown
  have hl : lv_has ls 5 [(0, .ref mo), (1, .long u)] := hl
  obtain ⟨hq1, hq2, hq3, hq4, hq5, hq6, hq7, hq8, hq9, hq10, hq11⟩ := hC.q
  have hcl := cmpl_le c r u
  have hrl := run_le hC u
  refine lv_aload_n (pc := 0) hx hb dX9_keeping_0 rfl (lv_at hl 0 rfl) ?_
  refine lv_iconst (pc := 1) (v := nI 1) hx hb dX9_keeping_1 rfl ?_
  refine lv_lload_n (pc := 2) hx hb dX9_keeping_2 rfl (lv_at hl 1 rfl) ?_
  refine ro_go (pc := 3) (va_runV (As := [.int (nI 1), .long u]) (rest := []) ⟨hx, hb, hml, hown, hts⟩ (c_X9_howMany l D Y mo c r fs 1 u (hf) (hC) (by decide)) (cwV 2 hts gX9_keeping_X9_howMany rfl rfl rfl ⟨rfl, hdX9_howMany⟩ ⟨Nat.le_of_ble_eq_true rfl, Nat.le_of_ble_eq_true rfl⟩) (ro_pV hK hP (ro_recv hK hP (ci := 8) (q0 := 0) rfl rfl)) rfl rfl hl.1 rfl (lv_room (Nat.le_of_ble_eq_true rfl)) dX9_keeping_3 ⟨Nat.le_of_ble_eq_true rfl, Nat.le_of_ble_eq_true rfl⟩) ?_
  refine n_if_le (pc := 6) (tgt := 45) hx hb (by have := fb_ct_le (kp c r u 1) (al c r); omega) dX9_keeping_6 (by decide) (fun c6 => ?_) (fun c6 => ?_)
  · refine lv_iconst (pc := 45) (v := nI 0) hx hb dX9_keeping_45 rfl ?_
    refine lv_istore_n (pc := 46) (lv' := [(3, .int (nI 0)), (0, .ref mo), (1, .long u)]) hx hb dX9_keeping_46 rfl hl (by decide) rfl (fun ls hl => ?_)
    refine lv_iconst (pc := 47) (v := nI 0) hx hb dX9_keeping_47 rfl ?_
    refine lv_istore (pc := 48) (lv' := [(4, .int (nI 0)), (3, .int (nI 0)), (0, .ref mo), (1, .long u)]) hx hb dX9_keeping_48 hl (by decide) rfl (fun ls hl => ?_)
    have L50 : ∀ (n50 : Nat), ∀ (i : Nat) (z : Bool), (i ≤ al c r) → (z = false → kpM c r u = grM c r u) → (z = true → fstk c r u 1 ≠ none ∧ fstk c r u 2 = none ∧ run c r u = 2 ∧ ¬ c * r - cmpl c r u < 5) → (∀ j, j < i → (decide (1 < knd c r u j) && hdt c r (u ||| b1 j)) = false) → al c r - i < n50 → ∀ (ls : Array Slot), lv_has ls 5 [(0, .ref mo), (1, .long u), (3, .int (zb z)), (4, .int (nI i))] → W pG l eG ({ frames := 10, cells := 0, slots := 0, locals := 241 } : Room) sG mG aG bG tG cG sG.heap [] 0 0 (MQ bG (RoQ (some (.int (oI (kpM c r u))))) aG sG 0 0 (fun _ => False)) (F0 mG 50 ls []) := by
      intro n50
      induction n50 with
      | zero =>
        intro i z hi hm0 hm1 hno hmeas50  ls hl
        exact absurd hmeas50 (Nat.not_lt_zero _)
      | succ n50 ih50 =>
        intro i z hi hm0 hm1 hno hmeas50  ls hl
        refine lv_iload (pc := 50) hx hb dX9_keeping_50 (lv_at hl 3 rfl) ?_
        refine lv_aload_n (pc := 52) hx hb dX9_keeping_52 rfl (lv_at hl 0 rfl) ?_
        refine ro_go (pc := 53) (va_runV (As := []) (rest := [.int (nI i)]) ⟨hx, hb, hml, hown, hts⟩ (c_X9_all l D Y mo c r fs (hf) (hC)) (cwV 0 hts gX9_keeping_X9_all rfl rfl rfl ⟨rfl, hdX9_all⟩ ⟨Nat.le_of_ble_eq_true rfl, Nat.le_of_ble_eq_true rfl⟩) (ro_pV hK hP (ro_recv hK hP (ci := 8) (q0 := 0) rfl rfl)) rfl rfl hl.1 rfl (lv_room (Nat.le_of_ble_eq_true rfl)) dX9_keeping_53 ⟨Nat.le_of_ble_eq_true rfl, Nat.le_of_ble_eq_true rfl⟩) ?_
        refine n_icmp_ge (pc := 56) (tgt := 96) hx hb (by omega) (by omega) dX9_keeping_56 (by decide) (fun c56 => ?_) (fun c56 => ?_)
        · refine lv_aload_n (pc := 96) hx hb dX9_keeping_96 rfl (lv_at hl 0 rfl) ?_
          refine lv_lload_n (pc := 97) hx hb dX9_keeping_97 rfl (lv_at hl 1 rfl) ?_
          refine ro_go (pc := 98) (va_runV (As := [.long u]) (rest := []) ⟨hx, hb, hml, hown, hts⟩ (c_X9_greedy l D Y mo c r fs u (hf) (hC)) (cwV 1 hts gX9_keeping_X9_greedy rfl rfl rfl ⟨rfl, hdX9_greedy⟩ ⟨Nat.le_of_ble_eq_true rfl, Nat.le_of_ble_eq_true rfl⟩) (ro_pV hK hP (ro_recv hK hP (ci := 8) (q0 := 0) rfl rfl)) rfl rfl hl.1 rfl (lv_room (Nat.le_of_ble_eq_true rfl)) dX9_keeping_98 ⟨Nat.le_of_ble_eq_true rfl, Nat.le_of_ble_eq_true rfl⟩) ?_
          refine lv_topi (fun x98 ex98 => ?_)
          exact ro_iret (v := x98) hx hb hr hlocks (by rw [ex98]; cases z with | false => rw [hm0 rfl] | true => obtain ⟨k1, k2, k3, k4⟩ := hm1 rfl; rw [kp_b (ke_nn k4 k3 hno c56)]) dX9_keeping_101
        refine lv_iload_n (pc := 59) hx hb dX9_keeping_59 rfl (lv_at hl 2 rfl) ?_
        refine z_if_eq (pc := 60) (tgt := 96) hx hb dX9_keeping_60 (by decide) (fun c60 => ?_) (fun c60 => ?_)
        · refine lv_aload_n (pc := 96) hx hb dX9_keeping_96 rfl (lv_at hl 0 rfl) ?_
          refine lv_lload_n (pc := 97) hx hb dX9_keeping_97 rfl (lv_at hl 1 rfl) ?_
          refine ro_go (pc := 98) (va_runV (As := [.long u]) (rest := []) ⟨hx, hb, hml, hown, hts⟩ (c_X9_greedy l D Y mo c r fs u (hf) (hC)) (cwV 1 hts gX9_keeping_X9_greedy rfl rfl rfl ⟨rfl, hdX9_greedy⟩ ⟨Nat.le_of_ble_eq_true rfl, Nat.le_of_ble_eq_true rfl⟩) (ro_pV hK hP (ro_recv hK hP (ci := 8) (q0 := 0) rfl rfl)) rfl rfl hl.1 rfl (lv_room (Nat.le_of_ble_eq_true rfl)) dX9_keeping_98 ⟨Nat.le_of_ble_eq_true rfl, Nat.le_of_ble_eq_true rfl⟩) ?_
          refine lv_topi (fun x98 ex98 => ?_)
          exact ro_iret (v := x98) hx hb hr hlocks (by rw [ex98, hm0 c60]) dX9_keeping_101
        refine lv_aload_n (pc := 63) hx hb dX9_keeping_63 rfl (lv_at hl 0 rfl) ?_
        refine lv_iload (pc := 64) hx hb dX9_keeping_64 (lv_at hl 3 rfl) ?_
        refine lv_lload_n (pc := 66) hx hb dX9_keeping_66 rfl (lv_at hl 1 rfl) ?_
        refine ro_go (pc := 67) (va_runV (As := [.int (nI i), .long u]) (rest := []) ⟨hx, hb, hml, hown, hts⟩ (c_X9_kindIn l D Y mo c r fs i u (hf) (hC) (c56)) (cwV 2 hts gX9_keeping_X9_kindIn rfl rfl rfl ⟨rfl, hdX9_kindIn⟩ ⟨Nat.le_of_ble_eq_true rfl, Nat.le_of_ble_eq_true rfl⟩) (ro_pV hK hP (ro_recv hK hP (ci := 8) (q0 := 0) rfl rfl)) rfl rfl hl.1 rfl (lv_room (Nat.le_of_ble_eq_true rfl)) dX9_keeping_67 ⟨Nat.le_of_ble_eq_true rfl, Nat.le_of_ble_eq_true rfl⟩) ?_
        refine lv_iconst (pc := 70) (v := nI 1) hx hb dX9_keeping_70 rfl ?_
        refine n_icmp_le (pc := 71) (tgt := 90) hx hb (by have := knd_le c r u i; omega) (by decide) dX9_keeping_71 (by decide) (fun c71 => ?_) (fun c71 => ?_)
        · refine lv_iinc (pc := 90) (v := nI (i + 1)) (lv' := [(4, .int (nI (i + 1))), (0, .ref mo), (1, .long u), (3, .int (zb z))]) hx hb dX9_keeping_90 hl (k := 3) rfl (n_inc i 1) (by decide) rfl (fun ls hl => ?_)
          refine lv_goto (pc := 93) (tgt := 50) hx hb dX9_keeping_93 (by decide) ?_
          exact ih50 (i + 1) z (by first | assumption | omega) (hm0) (hm1) (lt_s hno (by rw [decide_eq_false (by omega), Bool.false_and])) (by omega) _ (lv_sub hl [1, 2, 3, 0] rfl)
        refine lv_aload_n (pc := 74) hx hb dX9_keeping_74 rfl (lv_at hl 0 rfl) ?_
        refine lv_lload_n (pc := 75) hx hb dX9_keeping_75 rfl (lv_at hl 1 rfl) ?_
        refine lv_lconst (pc := 76) (v := 1) hx hb dX9_keeping_76 (by decide) ?_
        refine lv_iload (pc := 77) hx hb dX9_keeping_77 (lv_at hl 3 rfl) ?_
        refine lv_lshl (pc := 79) (v := b1 i) hx hb dX9_keeping_79 (b1_shl i (by omega)) ?_
        refine lv_lor (pc := 80) hx hb dX9_keeping_80 ?_
        refine ro_go (pc := 81) (va_runV (As := [.long (u ||| (b1 i))]) (rest := []) ⟨hx, hb, hml, hown, hts⟩ (c_X9_canTakeTwo l D Y mo c r fs (u ||| (b1 i)) (hf) (hC)) (cwV 1 hts gX9_keeping_X9_canTakeTwo rfl rfl rfl ⟨rfl, hdX9_canTakeTwo⟩ ⟨Nat.le_of_ble_eq_true rfl, Nat.le_of_ble_eq_true rfl⟩) (ro_pV hK hP (ro_recv hK hP (ci := 8) (q0 := 0) rfl rfl)) rfl rfl hl.1 rfl (lv_room (Nat.le_of_ble_eq_true rfl)) dX9_keeping_81 ⟨Nat.le_of_ble_eq_true rfl, Nat.le_of_ble_eq_true rfl⟩) ?_
        refine z_if_eq (pc := 84) (tgt := 90) hx hb dX9_keeping_84 (by decide) (fun c84 => ?_) (fun c84 => ?_)
        · refine lv_iinc (pc := 90) (v := nI (i + 1)) (lv' := [(4, .int (nI (i + 1))), (0, .ref mo), (1, .long u), (3, .int (zb z))]) hx hb dX9_keeping_90 hl (k := 3) rfl (n_inc i 1) (by decide) rfl (fun ls hl => ?_)
          refine lv_goto (pc := 93) (tgt := 50) hx hb dX9_keeping_93 (by decide) ?_
          exact ih50 (i + 1) z (by first | assumption | omega) (hm0) (hm1) (lt_s hno (by rw [c84, Bool.and_false])) (by omega) _ (lv_sub hl [1, 2, 3, 0] rfl)
        refine lv_iload (pc := 87) hx hb dX9_keeping_87 (lv_at hl 3 rfl) ?_
        exact ro_iret (v := nI i) hx hb hr hlocks (by obtain ⟨k1, k2, k3, k4⟩ := hm1 c60; rw [kp_a k1 k2 (ke_at k4 k3 hno c56 (by rw [decide_eq_true (by omega), c84]; rfl))]; rfl) dX9_keeping_89
    exact L50 ((al c r - 0) + 1) 0 false (by first | assumption | omega) (fun _ => kp_c (Or.inl (cnt_fst.mp (by omega)))) (fun h => by cases h) (fun j h => absurd h (Nat.not_lt_zero _)) (Nat.lt_succ_self _) _ (lv_sub hl [2, 3, 1, 0] rfl)
  refine lv_aload_n (pc := 9) hx hb dX9_keeping_9 rfl (lv_at hl 0 rfl) ?_
  refine lv_iconst (pc := 10) (v := nI 2) hx hb dX9_keeping_10 rfl ?_
  refine lv_lload_n (pc := 11) hx hb dX9_keeping_11 rfl (lv_at hl 1 rfl) ?_
  refine ro_go (pc := 12) (va_runV (As := [.int (nI 2), .long u]) (rest := []) ⟨hx, hb, hml, hown, hts⟩ (c_X9_howMany l D Y mo c r fs 2 u (hf) (hC) (by decide)) (cwV 2 hts gX9_keeping_X9_howMany rfl rfl rfl ⟨rfl, hdX9_howMany⟩ ⟨Nat.le_of_ble_eq_true rfl, Nat.le_of_ble_eq_true rfl⟩) (ro_pV hK hP (ro_recv hK hP (ci := 8) (q0 := 0) rfl rfl)) rfl rfl hl.1 rfl (lv_room (Nat.le_of_ble_eq_true rfl)) dX9_keeping_12 ⟨Nat.le_of_ble_eq_true rfl, Nat.le_of_ble_eq_true rfl⟩) ?_
  refine n_if_ne (pc := 15) (tgt := 45) hx hb (by have := fb_ct_le (kp c r u 2) (al c r); omega) dX9_keeping_15 (by decide) (fun c15 => ?_) (fun c15 => ?_)
  · refine lv_iconst (pc := 45) (v := nI 0) hx hb dX9_keeping_45 rfl ?_
    refine lv_istore_n (pc := 46) (lv' := [(3, .int (nI 0)), (0, .ref mo), (1, .long u)]) hx hb dX9_keeping_46 rfl hl (by decide) rfl (fun ls hl => ?_)
    refine lv_iconst (pc := 47) (v := nI 0) hx hb dX9_keeping_47 rfl ?_
    refine lv_istore (pc := 48) (lv' := [(4, .int (nI 0)), (3, .int (nI 0)), (0, .ref mo), (1, .long u)]) hx hb dX9_keeping_48 hl (by decide) rfl (fun ls hl => ?_)
    have L50 : ∀ (n50 : Nat), ∀ (i : Nat) (z : Bool), (i ≤ al c r) → (z = false → kpM c r u = grM c r u) → (z = true → fstk c r u 1 ≠ none ∧ fstk c r u 2 = none ∧ run c r u = 2 ∧ ¬ c * r - cmpl c r u < 5) → (∀ j, j < i → (decide (1 < knd c r u j) && hdt c r (u ||| b1 j)) = false) → al c r - i < n50 → ∀ (ls : Array Slot), lv_has ls 5 [(0, .ref mo), (1, .long u), (3, .int (zb z)), (4, .int (nI i))] → W pG l eG ({ frames := 10, cells := 0, slots := 0, locals := 241 } : Room) sG mG aG bG tG cG sG.heap [] 0 0 (MQ bG (RoQ (some (.int (oI (kpM c r u))))) aG sG 0 0 (fun _ => False)) (F0 mG 50 ls []) := by
      intro n50
      induction n50 with
      | zero =>
        intro i z hi hm0 hm1 hno hmeas50  ls hl
        exact absurd hmeas50 (Nat.not_lt_zero _)
      | succ n50 ih50 =>
        intro i z hi hm0 hm1 hno hmeas50  ls hl
        refine lv_iload (pc := 50) hx hb dX9_keeping_50 (lv_at hl 3 rfl) ?_
        refine lv_aload_n (pc := 52) hx hb dX9_keeping_52 rfl (lv_at hl 0 rfl) ?_
        refine ro_go (pc := 53) (va_runV (As := []) (rest := [.int (nI i)]) ⟨hx, hb, hml, hown, hts⟩ (c_X9_all l D Y mo c r fs (hf) (hC)) (cwV 0 hts gX9_keeping_X9_all rfl rfl rfl ⟨rfl, hdX9_all⟩ ⟨Nat.le_of_ble_eq_true rfl, Nat.le_of_ble_eq_true rfl⟩) (ro_pV hK hP (ro_recv hK hP (ci := 8) (q0 := 0) rfl rfl)) rfl rfl hl.1 rfl (lv_room (Nat.le_of_ble_eq_true rfl)) dX9_keeping_53 ⟨Nat.le_of_ble_eq_true rfl, Nat.le_of_ble_eq_true rfl⟩) ?_
        refine n_icmp_ge (pc := 56) (tgt := 96) hx hb (by omega) (by omega) dX9_keeping_56 (by decide) (fun c56 => ?_) (fun c56 => ?_)
        · refine lv_aload_n (pc := 96) hx hb dX9_keeping_96 rfl (lv_at hl 0 rfl) ?_
          refine lv_lload_n (pc := 97) hx hb dX9_keeping_97 rfl (lv_at hl 1 rfl) ?_
          refine ro_go (pc := 98) (va_runV (As := [.long u]) (rest := []) ⟨hx, hb, hml, hown, hts⟩ (c_X9_greedy l D Y mo c r fs u (hf) (hC)) (cwV 1 hts gX9_keeping_X9_greedy rfl rfl rfl ⟨rfl, hdX9_greedy⟩ ⟨Nat.le_of_ble_eq_true rfl, Nat.le_of_ble_eq_true rfl⟩) (ro_pV hK hP (ro_recv hK hP (ci := 8) (q0 := 0) rfl rfl)) rfl rfl hl.1 rfl (lv_room (Nat.le_of_ble_eq_true rfl)) dX9_keeping_98 ⟨Nat.le_of_ble_eq_true rfl, Nat.le_of_ble_eq_true rfl⟩) ?_
          refine lv_topi (fun x98 ex98 => ?_)
          exact ro_iret (v := x98) hx hb hr hlocks (by rw [ex98]; cases z with | false => rw [hm0 rfl] | true => obtain ⟨k1, k2, k3, k4⟩ := hm1 rfl; rw [kp_b (ke_nn k4 k3 hno c56)]) dX9_keeping_101
        refine lv_iload_n (pc := 59) hx hb dX9_keeping_59 rfl (lv_at hl 2 rfl) ?_
        refine z_if_eq (pc := 60) (tgt := 96) hx hb dX9_keeping_60 (by decide) (fun c60 => ?_) (fun c60 => ?_)
        · refine lv_aload_n (pc := 96) hx hb dX9_keeping_96 rfl (lv_at hl 0 rfl) ?_
          refine lv_lload_n (pc := 97) hx hb dX9_keeping_97 rfl (lv_at hl 1 rfl) ?_
          refine ro_go (pc := 98) (va_runV (As := [.long u]) (rest := []) ⟨hx, hb, hml, hown, hts⟩ (c_X9_greedy l D Y mo c r fs u (hf) (hC)) (cwV 1 hts gX9_keeping_X9_greedy rfl rfl rfl ⟨rfl, hdX9_greedy⟩ ⟨Nat.le_of_ble_eq_true rfl, Nat.le_of_ble_eq_true rfl⟩) (ro_pV hK hP (ro_recv hK hP (ci := 8) (q0 := 0) rfl rfl)) rfl rfl hl.1 rfl (lv_room (Nat.le_of_ble_eq_true rfl)) dX9_keeping_98 ⟨Nat.le_of_ble_eq_true rfl, Nat.le_of_ble_eq_true rfl⟩) ?_
          refine lv_topi (fun x98 ex98 => ?_)
          exact ro_iret (v := x98) hx hb hr hlocks (by rw [ex98, hm0 c60]) dX9_keeping_101
        refine lv_aload_n (pc := 63) hx hb dX9_keeping_63 rfl (lv_at hl 0 rfl) ?_
        refine lv_iload (pc := 64) hx hb dX9_keeping_64 (lv_at hl 3 rfl) ?_
        refine lv_lload_n (pc := 66) hx hb dX9_keeping_66 rfl (lv_at hl 1 rfl) ?_
        refine ro_go (pc := 67) (va_runV (As := [.int (nI i), .long u]) (rest := []) ⟨hx, hb, hml, hown, hts⟩ (c_X9_kindIn l D Y mo c r fs i u (hf) (hC) (c56)) (cwV 2 hts gX9_keeping_X9_kindIn rfl rfl rfl ⟨rfl, hdX9_kindIn⟩ ⟨Nat.le_of_ble_eq_true rfl, Nat.le_of_ble_eq_true rfl⟩) (ro_pV hK hP (ro_recv hK hP (ci := 8) (q0 := 0) rfl rfl)) rfl rfl hl.1 rfl (lv_room (Nat.le_of_ble_eq_true rfl)) dX9_keeping_67 ⟨Nat.le_of_ble_eq_true rfl, Nat.le_of_ble_eq_true rfl⟩) ?_
        refine lv_iconst (pc := 70) (v := nI 1) hx hb dX9_keeping_70 rfl ?_
        refine n_icmp_le (pc := 71) (tgt := 90) hx hb (by have := knd_le c r u i; omega) (by decide) dX9_keeping_71 (by decide) (fun c71 => ?_) (fun c71 => ?_)
        · refine lv_iinc (pc := 90) (v := nI (i + 1)) (lv' := [(4, .int (nI (i + 1))), (0, .ref mo), (1, .long u), (3, .int (zb z))]) hx hb dX9_keeping_90 hl (k := 3) rfl (n_inc i 1) (by decide) rfl (fun ls hl => ?_)
          refine lv_goto (pc := 93) (tgt := 50) hx hb dX9_keeping_93 (by decide) ?_
          exact ih50 (i + 1) z (by first | assumption | omega) (hm0) (hm1) (lt_s hno (by rw [decide_eq_false (by omega), Bool.false_and])) (by omega) _ (lv_sub hl [1, 2, 3, 0] rfl)
        refine lv_aload_n (pc := 74) hx hb dX9_keeping_74 rfl (lv_at hl 0 rfl) ?_
        refine lv_lload_n (pc := 75) hx hb dX9_keeping_75 rfl (lv_at hl 1 rfl) ?_
        refine lv_lconst (pc := 76) (v := 1) hx hb dX9_keeping_76 (by decide) ?_
        refine lv_iload (pc := 77) hx hb dX9_keeping_77 (lv_at hl 3 rfl) ?_
        refine lv_lshl (pc := 79) (v := b1 i) hx hb dX9_keeping_79 (b1_shl i (by omega)) ?_
        refine lv_lor (pc := 80) hx hb dX9_keeping_80 ?_
        refine ro_go (pc := 81) (va_runV (As := [.long (u ||| (b1 i))]) (rest := []) ⟨hx, hb, hml, hown, hts⟩ (c_X9_canTakeTwo l D Y mo c r fs (u ||| (b1 i)) (hf) (hC)) (cwV 1 hts gX9_keeping_X9_canTakeTwo rfl rfl rfl ⟨rfl, hdX9_canTakeTwo⟩ ⟨Nat.le_of_ble_eq_true rfl, Nat.le_of_ble_eq_true rfl⟩) (ro_pV hK hP (ro_recv hK hP (ci := 8) (q0 := 0) rfl rfl)) rfl rfl hl.1 rfl (lv_room (Nat.le_of_ble_eq_true rfl)) dX9_keeping_81 ⟨Nat.le_of_ble_eq_true rfl, Nat.le_of_ble_eq_true rfl⟩) ?_
        refine z_if_eq (pc := 84) (tgt := 90) hx hb dX9_keeping_84 (by decide) (fun c84 => ?_) (fun c84 => ?_)
        · refine lv_iinc (pc := 90) (v := nI (i + 1)) (lv' := [(4, .int (nI (i + 1))), (0, .ref mo), (1, .long u), (3, .int (zb z))]) hx hb dX9_keeping_90 hl (k := 3) rfl (n_inc i 1) (by decide) rfl (fun ls hl => ?_)
          refine lv_goto (pc := 93) (tgt := 50) hx hb dX9_keeping_93 (by decide) ?_
          exact ih50 (i + 1) z (by first | assumption | omega) (hm0) (hm1) (lt_s hno (by rw [c84, Bool.and_false])) (by omega) _ (lv_sub hl [1, 2, 3, 0] rfl)
        refine lv_iload (pc := 87) hx hb dX9_keeping_87 (lv_at hl 3 rfl) ?_
        exact ro_iret (v := nI i) hx hb hr hlocks (by obtain ⟨k1, k2, k3, k4⟩ := hm1 c60; rw [kp_a k1 k2 (ke_at k4 k3 hno c56 (by rw [decide_eq_true (by omega), c84]; rfl))]; rfl) dX9_keeping_89
    exact L50 ((al c r - 0) + 1) 0 false (by first | assumption | omega) (fun _ => kp_c (Or.inr (fun z => absurd (cnt_fst.mpr z) (by omega)))) (fun h => by cases h) (fun j h => absurd h (Nat.not_lt_zero _)) (Nat.lt_succ_self _) _ (lv_sub hl [2, 3, 1, 0] rfl)
  refine lv_aload_n (pc := 18) hx hb dX9_keeping_18 rfl (lv_at hl 0 rfl) ?_
  refine lv_lload_n (pc := 19) hx hb dX9_keeping_19 rfl (lv_at hl 1 rfl) ?_
  refine ro_go (pc := 20) (va_runV (As := [.long u]) (rest := []) ⟨hx, hb, hml, hown, hts⟩ (c_X9_runOf l D Y mo c r fs u (hf) (hC)) (cwV 1 hts gX9_keeping_X9_runOf rfl rfl rfl ⟨rfl, hdX9_runOf⟩ ⟨Nat.le_of_ble_eq_true rfl, Nat.le_of_ble_eq_true rfl⟩) (ro_pV hK hP (ro_recv hK hP (ci := 8) (q0 := 0) rfl rfl)) rfl rfl hl.1 rfl (lv_room (Nat.le_of_ble_eq_true rfl)) dX9_keeping_20 ⟨Nat.le_of_ble_eq_true rfl, Nat.le_of_ble_eq_true rfl⟩) ?_
  refine lv_iconst (pc := 23) (v := nI 2) hx hb dX9_keeping_23 rfl ?_
  refine n_icmp_ne (pc := 24) (tgt := 45) hx hb (by omega) (by decide) dX9_keeping_24 (by decide) (fun c24 => ?_) (fun c24 => ?_)
  · refine lv_iconst (pc := 45) (v := nI 0) hx hb dX9_keeping_45 rfl ?_
    refine lv_istore_n (pc := 46) (lv' := [(3, .int (nI 0)), (0, .ref mo), (1, .long u)]) hx hb dX9_keeping_46 rfl hl (by decide) rfl (fun ls hl => ?_)
    refine lv_iconst (pc := 47) (v := nI 0) hx hb dX9_keeping_47 rfl ?_
    refine lv_istore (pc := 48) (lv' := [(4, .int (nI 0)), (3, .int (nI 0)), (0, .ref mo), (1, .long u)]) hx hb dX9_keeping_48 hl (by decide) rfl (fun ls hl => ?_)
    have L50 : ∀ (n50 : Nat), ∀ (i : Nat) (z : Bool), (i ≤ al c r) → (z = false → kpM c r u = grM c r u) → (z = true → fstk c r u 1 ≠ none ∧ fstk c r u 2 = none ∧ run c r u = 2 ∧ ¬ c * r - cmpl c r u < 5) → (∀ j, j < i → (decide (1 < knd c r u j) && hdt c r (u ||| b1 j)) = false) → al c r - i < n50 → ∀ (ls : Array Slot), lv_has ls 5 [(0, .ref mo), (1, .long u), (3, .int (zb z)), (4, .int (nI i))] → W pG l eG ({ frames := 10, cells := 0, slots := 0, locals := 241 } : Room) sG mG aG bG tG cG sG.heap [] 0 0 (MQ bG (RoQ (some (.int (oI (kpM c r u))))) aG sG 0 0 (fun _ => False)) (F0 mG 50 ls []) := by
      intro n50
      induction n50 with
      | zero =>
        intro i z hi hm0 hm1 hno hmeas50  ls hl
        exact absurd hmeas50 (Nat.not_lt_zero _)
      | succ n50 ih50 =>
        intro i z hi hm0 hm1 hno hmeas50  ls hl
        refine lv_iload (pc := 50) hx hb dX9_keeping_50 (lv_at hl 3 rfl) ?_
        refine lv_aload_n (pc := 52) hx hb dX9_keeping_52 rfl (lv_at hl 0 rfl) ?_
        refine ro_go (pc := 53) (va_runV (As := []) (rest := [.int (nI i)]) ⟨hx, hb, hml, hown, hts⟩ (c_X9_all l D Y mo c r fs (hf) (hC)) (cwV 0 hts gX9_keeping_X9_all rfl rfl rfl ⟨rfl, hdX9_all⟩ ⟨Nat.le_of_ble_eq_true rfl, Nat.le_of_ble_eq_true rfl⟩) (ro_pV hK hP (ro_recv hK hP (ci := 8) (q0 := 0) rfl rfl)) rfl rfl hl.1 rfl (lv_room (Nat.le_of_ble_eq_true rfl)) dX9_keeping_53 ⟨Nat.le_of_ble_eq_true rfl, Nat.le_of_ble_eq_true rfl⟩) ?_
        refine n_icmp_ge (pc := 56) (tgt := 96) hx hb (by omega) (by omega) dX9_keeping_56 (by decide) (fun c56 => ?_) (fun c56 => ?_)
        · refine lv_aload_n (pc := 96) hx hb dX9_keeping_96 rfl (lv_at hl 0 rfl) ?_
          refine lv_lload_n (pc := 97) hx hb dX9_keeping_97 rfl (lv_at hl 1 rfl) ?_
          refine ro_go (pc := 98) (va_runV (As := [.long u]) (rest := []) ⟨hx, hb, hml, hown, hts⟩ (c_X9_greedy l D Y mo c r fs u (hf) (hC)) (cwV 1 hts gX9_keeping_X9_greedy rfl rfl rfl ⟨rfl, hdX9_greedy⟩ ⟨Nat.le_of_ble_eq_true rfl, Nat.le_of_ble_eq_true rfl⟩) (ro_pV hK hP (ro_recv hK hP (ci := 8) (q0 := 0) rfl rfl)) rfl rfl hl.1 rfl (lv_room (Nat.le_of_ble_eq_true rfl)) dX9_keeping_98 ⟨Nat.le_of_ble_eq_true rfl, Nat.le_of_ble_eq_true rfl⟩) ?_
          refine lv_topi (fun x98 ex98 => ?_)
          exact ro_iret (v := x98) hx hb hr hlocks (by rw [ex98]; cases z with | false => rw [hm0 rfl] | true => obtain ⟨k1, k2, k3, k4⟩ := hm1 rfl; rw [kp_b (ke_nn k4 k3 hno c56)]) dX9_keeping_101
        refine lv_iload_n (pc := 59) hx hb dX9_keeping_59 rfl (lv_at hl 2 rfl) ?_
        refine z_if_eq (pc := 60) (tgt := 96) hx hb dX9_keeping_60 (by decide) (fun c60 => ?_) (fun c60 => ?_)
        · refine lv_aload_n (pc := 96) hx hb dX9_keeping_96 rfl (lv_at hl 0 rfl) ?_
          refine lv_lload_n (pc := 97) hx hb dX9_keeping_97 rfl (lv_at hl 1 rfl) ?_
          refine ro_go (pc := 98) (va_runV (As := [.long u]) (rest := []) ⟨hx, hb, hml, hown, hts⟩ (c_X9_greedy l D Y mo c r fs u (hf) (hC)) (cwV 1 hts gX9_keeping_X9_greedy rfl rfl rfl ⟨rfl, hdX9_greedy⟩ ⟨Nat.le_of_ble_eq_true rfl, Nat.le_of_ble_eq_true rfl⟩) (ro_pV hK hP (ro_recv hK hP (ci := 8) (q0 := 0) rfl rfl)) rfl rfl hl.1 rfl (lv_room (Nat.le_of_ble_eq_true rfl)) dX9_keeping_98 ⟨Nat.le_of_ble_eq_true rfl, Nat.le_of_ble_eq_true rfl⟩) ?_
          refine lv_topi (fun x98 ex98 => ?_)
          exact ro_iret (v := x98) hx hb hr hlocks (by rw [ex98, hm0 c60]) dX9_keeping_101
        refine lv_aload_n (pc := 63) hx hb dX9_keeping_63 rfl (lv_at hl 0 rfl) ?_
        refine lv_iload (pc := 64) hx hb dX9_keeping_64 (lv_at hl 3 rfl) ?_
        refine lv_lload_n (pc := 66) hx hb dX9_keeping_66 rfl (lv_at hl 1 rfl) ?_
        refine ro_go (pc := 67) (va_runV (As := [.int (nI i), .long u]) (rest := []) ⟨hx, hb, hml, hown, hts⟩ (c_X9_kindIn l D Y mo c r fs i u (hf) (hC) (c56)) (cwV 2 hts gX9_keeping_X9_kindIn rfl rfl rfl ⟨rfl, hdX9_kindIn⟩ ⟨Nat.le_of_ble_eq_true rfl, Nat.le_of_ble_eq_true rfl⟩) (ro_pV hK hP (ro_recv hK hP (ci := 8) (q0 := 0) rfl rfl)) rfl rfl hl.1 rfl (lv_room (Nat.le_of_ble_eq_true rfl)) dX9_keeping_67 ⟨Nat.le_of_ble_eq_true rfl, Nat.le_of_ble_eq_true rfl⟩) ?_
        refine lv_iconst (pc := 70) (v := nI 1) hx hb dX9_keeping_70 rfl ?_
        refine n_icmp_le (pc := 71) (tgt := 90) hx hb (by have := knd_le c r u i; omega) (by decide) dX9_keeping_71 (by decide) (fun c71 => ?_) (fun c71 => ?_)
        · refine lv_iinc (pc := 90) (v := nI (i + 1)) (lv' := [(4, .int (nI (i + 1))), (0, .ref mo), (1, .long u), (3, .int (zb z))]) hx hb dX9_keeping_90 hl (k := 3) rfl (n_inc i 1) (by decide) rfl (fun ls hl => ?_)
          refine lv_goto (pc := 93) (tgt := 50) hx hb dX9_keeping_93 (by decide) ?_
          exact ih50 (i + 1) z (by first | assumption | omega) (hm0) (hm1) (lt_s hno (by rw [decide_eq_false (by omega), Bool.false_and])) (by omega) _ (lv_sub hl [1, 2, 3, 0] rfl)
        refine lv_aload_n (pc := 74) hx hb dX9_keeping_74 rfl (lv_at hl 0 rfl) ?_
        refine lv_lload_n (pc := 75) hx hb dX9_keeping_75 rfl (lv_at hl 1 rfl) ?_
        refine lv_lconst (pc := 76) (v := 1) hx hb dX9_keeping_76 (by decide) ?_
        refine lv_iload (pc := 77) hx hb dX9_keeping_77 (lv_at hl 3 rfl) ?_
        refine lv_lshl (pc := 79) (v := b1 i) hx hb dX9_keeping_79 (b1_shl i (by omega)) ?_
        refine lv_lor (pc := 80) hx hb dX9_keeping_80 ?_
        refine ro_go (pc := 81) (va_runV (As := [.long (u ||| (b1 i))]) (rest := []) ⟨hx, hb, hml, hown, hts⟩ (c_X9_canTakeTwo l D Y mo c r fs (u ||| (b1 i)) (hf) (hC)) (cwV 1 hts gX9_keeping_X9_canTakeTwo rfl rfl rfl ⟨rfl, hdX9_canTakeTwo⟩ ⟨Nat.le_of_ble_eq_true rfl, Nat.le_of_ble_eq_true rfl⟩) (ro_pV hK hP (ro_recv hK hP (ci := 8) (q0 := 0) rfl rfl)) rfl rfl hl.1 rfl (lv_room (Nat.le_of_ble_eq_true rfl)) dX9_keeping_81 ⟨Nat.le_of_ble_eq_true rfl, Nat.le_of_ble_eq_true rfl⟩) ?_
        refine z_if_eq (pc := 84) (tgt := 90) hx hb dX9_keeping_84 (by decide) (fun c84 => ?_) (fun c84 => ?_)
        · refine lv_iinc (pc := 90) (v := nI (i + 1)) (lv' := [(4, .int (nI (i + 1))), (0, .ref mo), (1, .long u), (3, .int (zb z))]) hx hb dX9_keeping_90 hl (k := 3) rfl (n_inc i 1) (by decide) rfl (fun ls hl => ?_)
          refine lv_goto (pc := 93) (tgt := 50) hx hb dX9_keeping_93 (by decide) ?_
          exact ih50 (i + 1) z (by first | assumption | omega) (hm0) (hm1) (lt_s hno (by rw [c84, Bool.and_false])) (by omega) _ (lv_sub hl [1, 2, 3, 0] rfl)
        refine lv_iload (pc := 87) hx hb dX9_keeping_87 (lv_at hl 3 rfl) ?_
        exact ro_iret (v := nI i) hx hb hr hlocks (by obtain ⟨k1, k2, k3, k4⟩ := hm1 c60; rw [kp_a k1 k2 (ke_at k4 k3 hno c56 (by rw [decide_eq_true (by omega), c84]; rfl))]; rfl) dX9_keeping_89
    exact L50 ((al c r - 0) + 1) 0 false (by first | assumption | omega) (fun _ => kp_b (ke_no (Or.inr c24))) (fun h => by cases h) (fun j h => absurd h (Nat.not_lt_zero _)) (Nat.lt_succ_self _) _ (lv_sub hl [2, 3, 1, 0] rfl)
  refine lv_aload_n (pc := 27) hx hb dX9_keeping_27 rfl (lv_at hl 0 rfl) ?_
  refine ro_go (pc := 28) (va_runV (As := []) (rest := []) ⟨hx, hb, hml, hown, hts⟩ (c_X9_boxes l D Y mo c r fs (hf) (hC)) (cwV 0 hts gX9_keeping_X9_boxes rfl rfl rfl ⟨rfl, hdX9_boxes⟩ ⟨Nat.le_of_ble_eq_true rfl, Nat.le_of_ble_eq_true rfl⟩) (ro_pV hK hP (ro_recv hK hP (ci := 8) (q0 := 0) rfl rfl)) rfl rfl hl.1 rfl (lv_room (Nat.le_of_ble_eq_true rfl)) dX9_keeping_28 ⟨Nat.le_of_ble_eq_true rfl, Nat.le_of_ble_eq_true rfl⟩) ?_
  refine lv_aload_n (pc := 31) hx hb dX9_keeping_31 rfl (lv_at hl 0 rfl) ?_
  refine lv_lload_n (pc := 32) hx hb dX9_keeping_32 rfl (lv_at hl 1 rfl) ?_
  refine ro_go (pc := 33) (va_runV (As := [.long u]) (rest := [.int (nI (c * r))]) ⟨hx, hb, hml, hown, hts⟩ (c_X9_complete l D Y mo c r fs u (hf) (hC)) (cwV 1 hts gX9_keeping_X9_complete rfl rfl rfl ⟨rfl, hdX9_complete⟩ ⟨Nat.le_of_ble_eq_true rfl, Nat.le_of_ble_eq_true rfl⟩) (ro_pV hK hP (ro_recv hK hP (ci := 8) (q0 := 0) rfl rfl)) rfl rfl hl.1 rfl (lv_room (Nat.le_of_ble_eq_true rfl)) dX9_keeping_33 ⟨Nat.le_of_ble_eq_true rfl, Nat.le_of_ble_eq_true rfl⟩) ?_
  refine n_isub (pc := 36) hx hb (hcl) dX9_keeping_36 ?_
  refine lv_iconst (pc := 37) (v := nI 5) hx hb dX9_keeping_37 rfl ?_
  refine n_icmp_lt (pc := 38) (tgt := 45) hx hb (by omega) (by decide) dX9_keeping_38 (by decide) (fun c38 => ?_) (fun c38 => ?_)
  · refine lv_iconst (pc := 45) (v := nI 0) hx hb dX9_keeping_45 rfl ?_
    refine lv_istore_n (pc := 46) (lv' := [(3, .int (nI 0)), (0, .ref mo), (1, .long u)]) hx hb dX9_keeping_46 rfl hl (by decide) rfl (fun ls hl => ?_)
    refine lv_iconst (pc := 47) (v := nI 0) hx hb dX9_keeping_47 rfl ?_
    refine lv_istore (pc := 48) (lv' := [(4, .int (nI 0)), (3, .int (nI 0)), (0, .ref mo), (1, .long u)]) hx hb dX9_keeping_48 hl (by decide) rfl (fun ls hl => ?_)
    have L50 : ∀ (n50 : Nat), ∀ (i : Nat) (z : Bool), (i ≤ al c r) → (z = false → kpM c r u = grM c r u) → (z = true → fstk c r u 1 ≠ none ∧ fstk c r u 2 = none ∧ run c r u = 2 ∧ ¬ c * r - cmpl c r u < 5) → (∀ j, j < i → (decide (1 < knd c r u j) && hdt c r (u ||| b1 j)) = false) → al c r - i < n50 → ∀ (ls : Array Slot), lv_has ls 5 [(0, .ref mo), (1, .long u), (3, .int (zb z)), (4, .int (nI i))] → W pG l eG ({ frames := 10, cells := 0, slots := 0, locals := 241 } : Room) sG mG aG bG tG cG sG.heap [] 0 0 (MQ bG (RoQ (some (.int (oI (kpM c r u))))) aG sG 0 0 (fun _ => False)) (F0 mG 50 ls []) := by
      intro n50
      induction n50 with
      | zero =>
        intro i z hi hm0 hm1 hno hmeas50  ls hl
        exact absurd hmeas50 (Nat.not_lt_zero _)
      | succ n50 ih50 =>
        intro i z hi hm0 hm1 hno hmeas50  ls hl
        refine lv_iload (pc := 50) hx hb dX9_keeping_50 (lv_at hl 3 rfl) ?_
        refine lv_aload_n (pc := 52) hx hb dX9_keeping_52 rfl (lv_at hl 0 rfl) ?_
        refine ro_go (pc := 53) (va_runV (As := []) (rest := [.int (nI i)]) ⟨hx, hb, hml, hown, hts⟩ (c_X9_all l D Y mo c r fs (hf) (hC)) (cwV 0 hts gX9_keeping_X9_all rfl rfl rfl ⟨rfl, hdX9_all⟩ ⟨Nat.le_of_ble_eq_true rfl, Nat.le_of_ble_eq_true rfl⟩) (ro_pV hK hP (ro_recv hK hP (ci := 8) (q0 := 0) rfl rfl)) rfl rfl hl.1 rfl (lv_room (Nat.le_of_ble_eq_true rfl)) dX9_keeping_53 ⟨Nat.le_of_ble_eq_true rfl, Nat.le_of_ble_eq_true rfl⟩) ?_
        refine n_icmp_ge (pc := 56) (tgt := 96) hx hb (by omega) (by omega) dX9_keeping_56 (by decide) (fun c56 => ?_) (fun c56 => ?_)
        · refine lv_aload_n (pc := 96) hx hb dX9_keeping_96 rfl (lv_at hl 0 rfl) ?_
          refine lv_lload_n (pc := 97) hx hb dX9_keeping_97 rfl (lv_at hl 1 rfl) ?_
          refine ro_go (pc := 98) (va_runV (As := [.long u]) (rest := []) ⟨hx, hb, hml, hown, hts⟩ (c_X9_greedy l D Y mo c r fs u (hf) (hC)) (cwV 1 hts gX9_keeping_X9_greedy rfl rfl rfl ⟨rfl, hdX9_greedy⟩ ⟨Nat.le_of_ble_eq_true rfl, Nat.le_of_ble_eq_true rfl⟩) (ro_pV hK hP (ro_recv hK hP (ci := 8) (q0 := 0) rfl rfl)) rfl rfl hl.1 rfl (lv_room (Nat.le_of_ble_eq_true rfl)) dX9_keeping_98 ⟨Nat.le_of_ble_eq_true rfl, Nat.le_of_ble_eq_true rfl⟩) ?_
          refine lv_topi (fun x98 ex98 => ?_)
          exact ro_iret (v := x98) hx hb hr hlocks (by rw [ex98]; cases z with | false => rw [hm0 rfl] | true => obtain ⟨k1, k2, k3, k4⟩ := hm1 rfl; rw [kp_b (ke_nn k4 k3 hno c56)]) dX9_keeping_101
        refine lv_iload_n (pc := 59) hx hb dX9_keeping_59 rfl (lv_at hl 2 rfl) ?_
        refine z_if_eq (pc := 60) (tgt := 96) hx hb dX9_keeping_60 (by decide) (fun c60 => ?_) (fun c60 => ?_)
        · refine lv_aload_n (pc := 96) hx hb dX9_keeping_96 rfl (lv_at hl 0 rfl) ?_
          refine lv_lload_n (pc := 97) hx hb dX9_keeping_97 rfl (lv_at hl 1 rfl) ?_
          refine ro_go (pc := 98) (va_runV (As := [.long u]) (rest := []) ⟨hx, hb, hml, hown, hts⟩ (c_X9_greedy l D Y mo c r fs u (hf) (hC)) (cwV 1 hts gX9_keeping_X9_greedy rfl rfl rfl ⟨rfl, hdX9_greedy⟩ ⟨Nat.le_of_ble_eq_true rfl, Nat.le_of_ble_eq_true rfl⟩) (ro_pV hK hP (ro_recv hK hP (ci := 8) (q0 := 0) rfl rfl)) rfl rfl hl.1 rfl (lv_room (Nat.le_of_ble_eq_true rfl)) dX9_keeping_98 ⟨Nat.le_of_ble_eq_true rfl, Nat.le_of_ble_eq_true rfl⟩) ?_
          refine lv_topi (fun x98 ex98 => ?_)
          exact ro_iret (v := x98) hx hb hr hlocks (by rw [ex98, hm0 c60]) dX9_keeping_101
        refine lv_aload_n (pc := 63) hx hb dX9_keeping_63 rfl (lv_at hl 0 rfl) ?_
        refine lv_iload (pc := 64) hx hb dX9_keeping_64 (lv_at hl 3 rfl) ?_
        refine lv_lload_n (pc := 66) hx hb dX9_keeping_66 rfl (lv_at hl 1 rfl) ?_
        refine ro_go (pc := 67) (va_runV (As := [.int (nI i), .long u]) (rest := []) ⟨hx, hb, hml, hown, hts⟩ (c_X9_kindIn l D Y mo c r fs i u (hf) (hC) (c56)) (cwV 2 hts gX9_keeping_X9_kindIn rfl rfl rfl ⟨rfl, hdX9_kindIn⟩ ⟨Nat.le_of_ble_eq_true rfl, Nat.le_of_ble_eq_true rfl⟩) (ro_pV hK hP (ro_recv hK hP (ci := 8) (q0 := 0) rfl rfl)) rfl rfl hl.1 rfl (lv_room (Nat.le_of_ble_eq_true rfl)) dX9_keeping_67 ⟨Nat.le_of_ble_eq_true rfl, Nat.le_of_ble_eq_true rfl⟩) ?_
        refine lv_iconst (pc := 70) (v := nI 1) hx hb dX9_keeping_70 rfl ?_
        refine n_icmp_le (pc := 71) (tgt := 90) hx hb (by have := knd_le c r u i; omega) (by decide) dX9_keeping_71 (by decide) (fun c71 => ?_) (fun c71 => ?_)
        · refine lv_iinc (pc := 90) (v := nI (i + 1)) (lv' := [(4, .int (nI (i + 1))), (0, .ref mo), (1, .long u), (3, .int (zb z))]) hx hb dX9_keeping_90 hl (k := 3) rfl (n_inc i 1) (by decide) rfl (fun ls hl => ?_)
          refine lv_goto (pc := 93) (tgt := 50) hx hb dX9_keeping_93 (by decide) ?_
          exact ih50 (i + 1) z (by first | assumption | omega) (hm0) (hm1) (lt_s hno (by rw [decide_eq_false (by omega), Bool.false_and])) (by omega) _ (lv_sub hl [1, 2, 3, 0] rfl)
        refine lv_aload_n (pc := 74) hx hb dX9_keeping_74 rfl (lv_at hl 0 rfl) ?_
        refine lv_lload_n (pc := 75) hx hb dX9_keeping_75 rfl (lv_at hl 1 rfl) ?_
        refine lv_lconst (pc := 76) (v := 1) hx hb dX9_keeping_76 (by decide) ?_
        refine lv_iload (pc := 77) hx hb dX9_keeping_77 (lv_at hl 3 rfl) ?_
        refine lv_lshl (pc := 79) (v := b1 i) hx hb dX9_keeping_79 (b1_shl i (by omega)) ?_
        refine lv_lor (pc := 80) hx hb dX9_keeping_80 ?_
        refine ro_go (pc := 81) (va_runV (As := [.long (u ||| (b1 i))]) (rest := []) ⟨hx, hb, hml, hown, hts⟩ (c_X9_canTakeTwo l D Y mo c r fs (u ||| (b1 i)) (hf) (hC)) (cwV 1 hts gX9_keeping_X9_canTakeTwo rfl rfl rfl ⟨rfl, hdX9_canTakeTwo⟩ ⟨Nat.le_of_ble_eq_true rfl, Nat.le_of_ble_eq_true rfl⟩) (ro_pV hK hP (ro_recv hK hP (ci := 8) (q0 := 0) rfl rfl)) rfl rfl hl.1 rfl (lv_room (Nat.le_of_ble_eq_true rfl)) dX9_keeping_81 ⟨Nat.le_of_ble_eq_true rfl, Nat.le_of_ble_eq_true rfl⟩) ?_
        refine z_if_eq (pc := 84) (tgt := 90) hx hb dX9_keeping_84 (by decide) (fun c84 => ?_) (fun c84 => ?_)
        · refine lv_iinc (pc := 90) (v := nI (i + 1)) (lv' := [(4, .int (nI (i + 1))), (0, .ref mo), (1, .long u), (3, .int (zb z))]) hx hb dX9_keeping_90 hl (k := 3) rfl (n_inc i 1) (by decide) rfl (fun ls hl => ?_)
          refine lv_goto (pc := 93) (tgt := 50) hx hb dX9_keeping_93 (by decide) ?_
          exact ih50 (i + 1) z (by first | assumption | omega) (hm0) (hm1) (lt_s hno (by rw [c84, Bool.and_false])) (by omega) _ (lv_sub hl [1, 2, 3, 0] rfl)
        refine lv_iload (pc := 87) hx hb dX9_keeping_87 (lv_at hl 3 rfl) ?_
        exact ro_iret (v := nI i) hx hb hr hlocks (by obtain ⟨k1, k2, k3, k4⟩ := hm1 c60; rw [kp_a k1 k2 (ke_at k4 k3 hno c56 (by rw [decide_eq_true (by omega), c84]; rfl))]; rfl) dX9_keeping_89
    exact L50 ((al c r - 0) + 1) 0 false (by first | assumption | omega) (fun _ => kp_b (ke_no (Or.inl c38))) (fun h => by cases h) (fun j h => absurd h (Nat.not_lt_zero _)) (Nat.lt_succ_self _) _ (lv_sub hl [2, 3, 1, 0] rfl)
  refine lv_iconst (pc := 41) (v := nI 1) hx hb dX9_keeping_41 rfl ?_
  refine lv_goto (pc := 42) (tgt := 46) hx hb dX9_keeping_42 (by decide) ?_
  refine lv_istore_n (pc := 46) (lv' := [(3, .int (nI 1)), (0, .ref mo), (1, .long u)]) hx hb dX9_keeping_46 rfl hl (by decide) rfl (fun ls hl => ?_)
  refine lv_iconst (pc := 47) (v := nI 0) hx hb dX9_keeping_47 rfl ?_
  refine lv_istore (pc := 48) (lv' := [(4, .int (nI 0)), (3, .int (nI 1)), (0, .ref mo), (1, .long u)]) hx hb dX9_keeping_48 hl (by decide) rfl (fun ls hl => ?_)
  have L50 : ∀ (n50 : Nat), ∀ (i : Nat) (z : Bool), (i ≤ al c r) → (z = false → kpM c r u = grM c r u) → (z = true → fstk c r u 1 ≠ none ∧ fstk c r u 2 = none ∧ run c r u = 2 ∧ ¬ c * r - cmpl c r u < 5) → (∀ j, j < i → (decide (1 < knd c r u j) && hdt c r (u ||| b1 j)) = false) → al c r - i < n50 → ∀ (ls : Array Slot), lv_has ls 5 [(0, .ref mo), (1, .long u), (3, .int (zb z)), (4, .int (nI i))] → W pG l eG ({ frames := 10, cells := 0, slots := 0, locals := 241 } : Room) sG mG aG bG tG cG sG.heap [] 0 0 (MQ bG (RoQ (some (.int (oI (kpM c r u))))) aG sG 0 0 (fun _ => False)) (F0 mG 50 ls []) := by
    intro n50
    induction n50 with
    | zero =>
      intro i z hi hm0 hm1 hno hmeas50  ls hl
      exact absurd hmeas50 (Nat.not_lt_zero _)
    | succ n50 ih50 =>
      intro i z hi hm0 hm1 hno hmeas50  ls hl
      refine lv_iload (pc := 50) hx hb dX9_keeping_50 (lv_at hl 3 rfl) ?_
      refine lv_aload_n (pc := 52) hx hb dX9_keeping_52 rfl (lv_at hl 0 rfl) ?_
      refine ro_go (pc := 53) (va_runV (As := []) (rest := [.int (nI i)]) ⟨hx, hb, hml, hown, hts⟩ (c_X9_all l D Y mo c r fs (hf) (hC)) (cwV 0 hts gX9_keeping_X9_all rfl rfl rfl ⟨rfl, hdX9_all⟩ ⟨Nat.le_of_ble_eq_true rfl, Nat.le_of_ble_eq_true rfl⟩) (ro_pV hK hP (ro_recv hK hP (ci := 8) (q0 := 0) rfl rfl)) rfl rfl hl.1 rfl (lv_room (Nat.le_of_ble_eq_true rfl)) dX9_keeping_53 ⟨Nat.le_of_ble_eq_true rfl, Nat.le_of_ble_eq_true rfl⟩) ?_
      refine n_icmp_ge (pc := 56) (tgt := 96) hx hb (by omega) (by omega) dX9_keeping_56 (by decide) (fun c56 => ?_) (fun c56 => ?_)
      · refine lv_aload_n (pc := 96) hx hb dX9_keeping_96 rfl (lv_at hl 0 rfl) ?_
        refine lv_lload_n (pc := 97) hx hb dX9_keeping_97 rfl (lv_at hl 1 rfl) ?_
        refine ro_go (pc := 98) (va_runV (As := [.long u]) (rest := []) ⟨hx, hb, hml, hown, hts⟩ (c_X9_greedy l D Y mo c r fs u (hf) (hC)) (cwV 1 hts gX9_keeping_X9_greedy rfl rfl rfl ⟨rfl, hdX9_greedy⟩ ⟨Nat.le_of_ble_eq_true rfl, Nat.le_of_ble_eq_true rfl⟩) (ro_pV hK hP (ro_recv hK hP (ci := 8) (q0 := 0) rfl rfl)) rfl rfl hl.1 rfl (lv_room (Nat.le_of_ble_eq_true rfl)) dX9_keeping_98 ⟨Nat.le_of_ble_eq_true rfl, Nat.le_of_ble_eq_true rfl⟩) ?_
        refine lv_topi (fun x98 ex98 => ?_)
        exact ro_iret (v := x98) hx hb hr hlocks (by rw [ex98]; cases z with | false => rw [hm0 rfl] | true => obtain ⟨k1, k2, k3, k4⟩ := hm1 rfl; rw [kp_b (ke_nn k4 k3 hno c56)]) dX9_keeping_101
      refine lv_iload_n (pc := 59) hx hb dX9_keeping_59 rfl (lv_at hl 2 rfl) ?_
      refine z_if_eq (pc := 60) (tgt := 96) hx hb dX9_keeping_60 (by decide) (fun c60 => ?_) (fun c60 => ?_)
      · refine lv_aload_n (pc := 96) hx hb dX9_keeping_96 rfl (lv_at hl 0 rfl) ?_
        refine lv_lload_n (pc := 97) hx hb dX9_keeping_97 rfl (lv_at hl 1 rfl) ?_
        refine ro_go (pc := 98) (va_runV (As := [.long u]) (rest := []) ⟨hx, hb, hml, hown, hts⟩ (c_X9_greedy l D Y mo c r fs u (hf) (hC)) (cwV 1 hts gX9_keeping_X9_greedy rfl rfl rfl ⟨rfl, hdX9_greedy⟩ ⟨Nat.le_of_ble_eq_true rfl, Nat.le_of_ble_eq_true rfl⟩) (ro_pV hK hP (ro_recv hK hP (ci := 8) (q0 := 0) rfl rfl)) rfl rfl hl.1 rfl (lv_room (Nat.le_of_ble_eq_true rfl)) dX9_keeping_98 ⟨Nat.le_of_ble_eq_true rfl, Nat.le_of_ble_eq_true rfl⟩) ?_
        refine lv_topi (fun x98 ex98 => ?_)
        exact ro_iret (v := x98) hx hb hr hlocks (by rw [ex98, hm0 c60]) dX9_keeping_101
      refine lv_aload_n (pc := 63) hx hb dX9_keeping_63 rfl (lv_at hl 0 rfl) ?_
      refine lv_iload (pc := 64) hx hb dX9_keeping_64 (lv_at hl 3 rfl) ?_
      refine lv_lload_n (pc := 66) hx hb dX9_keeping_66 rfl (lv_at hl 1 rfl) ?_
      refine ro_go (pc := 67) (va_runV (As := [.int (nI i), .long u]) (rest := []) ⟨hx, hb, hml, hown, hts⟩ (c_X9_kindIn l D Y mo c r fs i u (hf) (hC) (c56)) (cwV 2 hts gX9_keeping_X9_kindIn rfl rfl rfl ⟨rfl, hdX9_kindIn⟩ ⟨Nat.le_of_ble_eq_true rfl, Nat.le_of_ble_eq_true rfl⟩) (ro_pV hK hP (ro_recv hK hP (ci := 8) (q0 := 0) rfl rfl)) rfl rfl hl.1 rfl (lv_room (Nat.le_of_ble_eq_true rfl)) dX9_keeping_67 ⟨Nat.le_of_ble_eq_true rfl, Nat.le_of_ble_eq_true rfl⟩) ?_
      refine lv_iconst (pc := 70) (v := nI 1) hx hb dX9_keeping_70 rfl ?_
      refine n_icmp_le (pc := 71) (tgt := 90) hx hb (by have := knd_le c r u i; omega) (by decide) dX9_keeping_71 (by decide) (fun c71 => ?_) (fun c71 => ?_)
      · refine lv_iinc (pc := 90) (v := nI (i + 1)) (lv' := [(4, .int (nI (i + 1))), (0, .ref mo), (1, .long u), (3, .int (zb z))]) hx hb dX9_keeping_90 hl (k := 3) rfl (n_inc i 1) (by decide) rfl (fun ls hl => ?_)
        refine lv_goto (pc := 93) (tgt := 50) hx hb dX9_keeping_93 (by decide) ?_
        exact ih50 (i + 1) z (by first | assumption | omega) (hm0) (hm1) (lt_s hno (by rw [decide_eq_false (by omega), Bool.false_and])) (by omega) _ (lv_sub hl [1, 2, 3, 0] rfl)
      refine lv_aload_n (pc := 74) hx hb dX9_keeping_74 rfl (lv_at hl 0 rfl) ?_
      refine lv_lload_n (pc := 75) hx hb dX9_keeping_75 rfl (lv_at hl 1 rfl) ?_
      refine lv_lconst (pc := 76) (v := 1) hx hb dX9_keeping_76 (by decide) ?_
      refine lv_iload (pc := 77) hx hb dX9_keeping_77 (lv_at hl 3 rfl) ?_
      refine lv_lshl (pc := 79) (v := b1 i) hx hb dX9_keeping_79 (b1_shl i (by omega)) ?_
      refine lv_lor (pc := 80) hx hb dX9_keeping_80 ?_
      refine ro_go (pc := 81) (va_runV (As := [.long (u ||| (b1 i))]) (rest := []) ⟨hx, hb, hml, hown, hts⟩ (c_X9_canTakeTwo l D Y mo c r fs (u ||| (b1 i)) (hf) (hC)) (cwV 1 hts gX9_keeping_X9_canTakeTwo rfl rfl rfl ⟨rfl, hdX9_canTakeTwo⟩ ⟨Nat.le_of_ble_eq_true rfl, Nat.le_of_ble_eq_true rfl⟩) (ro_pV hK hP (ro_recv hK hP (ci := 8) (q0 := 0) rfl rfl)) rfl rfl hl.1 rfl (lv_room (Nat.le_of_ble_eq_true rfl)) dX9_keeping_81 ⟨Nat.le_of_ble_eq_true rfl, Nat.le_of_ble_eq_true rfl⟩) ?_
      refine z_if_eq (pc := 84) (tgt := 90) hx hb dX9_keeping_84 (by decide) (fun c84 => ?_) (fun c84 => ?_)
      · refine lv_iinc (pc := 90) (v := nI (i + 1)) (lv' := [(4, .int (nI (i + 1))), (0, .ref mo), (1, .long u), (3, .int (zb z))]) hx hb dX9_keeping_90 hl (k := 3) rfl (n_inc i 1) (by decide) rfl (fun ls hl => ?_)
        refine lv_goto (pc := 93) (tgt := 50) hx hb dX9_keeping_93 (by decide) ?_
        exact ih50 (i + 1) z (by first | assumption | omega) (hm0) (hm1) (lt_s hno (by rw [c84, Bool.and_false])) (by omega) _ (lv_sub hl [1, 2, 3, 0] rfl)
      refine lv_iload (pc := 87) hx hb dX9_keeping_87 (lv_at hl 3 rfl) ?_
      exact ro_iret (v := nI i) hx hb hr hlocks (by obtain ⟨k1, k2, k3, k4⟩ := hm1 c60; rw [kp_a k1 k2 (ke_at k4 k3 hno c56 (by rw [decide_eq_true (by omega), c84]; rfl))]; rfl) dX9_keeping_89
  exact L50 ((al c r - 0) + 1) 0 true (by first | assumption | omega) (fun h => by cases h) (fun _ => ⟨fun q => by have := cnt_fst.mpr q; omega, cnt_fst.mp c15, c24, by omega⟩) (fun j h => absurd h (Nat.not_lt_zero _)) (Nat.lt_succ_self _) _ (lv_sub hl [2, 3, 1, 0] rfl)

set_option maxHeartbeats 1200000 in
set_option maxRecDepth 100000 in
theorem c_X9_choice (l : Launch) (D : va_G) (Y : vY) (mo : Nat) (th : Int32) (c : Nat) (r : Nat) (w : Int64) (pl : Nat) (n : Nat) (aML : Nat) (aMR : Nat) (aOW : Nat) (len : Nat) (aBU : Nat) (sn : Int32) (aSA : Nat) (aSZ : Nat) (aLP : Nat) (aOP : Nat) (aFT : Nat) (aOL : Nat) (aRS : Nat) (aCD : Nat) (pw : Int64) (pb : Int32) (ah : Int32) (hs : Int64) (od : Int32) (st : Nat) (u : Int64) (ol : Nat → Int32) (rs : Nat → Int32) (hC : Cr c r) (hst : st ≤ 2) (hu0 : Onb c r u) : Mu l yX9_choice wsX9_choice ({ frames := 11, cells := 0, slots := 0, locals := 265 } : Room) [.ref mo, .int (nI st), .long u] D Y [(mo, .inr (8, [.int th, .int (nI c), .int (nI r), .long w, .int (nI pl), .int (nI n), .ref aML, .ref aMR, .ref aOW, .int (nI len), .ref aBU, .int sn, .ref aSA, .ref aSZ, .ref aLP, .ref aOP, .ref aFT, .int od, .ref aOL, .ref aRS, .ref aCD, .long pw, .int pb, .int ah, .long hs])), (aOL, .inl (Y.1, 12, .inl ol)), (aRS, .inl (Y.1, 4096, .inl rs))] (fun uS : Int32 × (Nat → Int32) × (Nat → Int32) => some (.int (oI (choM c r st u)))) (fun uS : Int32 × (Nat → Int32) × (Nat → Int32) => [(mo, .inr (8, [.int th, .int (nI c), .int (nI r), .long w, .int (nI pl), .int (nI n), .ref aML, .ref aMR, .ref aOW, .int (nI len), .ref aBU, .int sn, .ref aSA, .ref aSZ, .ref aLP, .ref aOP, .ref aFT, .int uS.1, .ref aOL, .ref aRS, .ref aCD, .long pw, .int pb, .int ah, .long hs])), (aOL, .inl (Y.1, 12, .inl uS.2.1)), (aRS, .inl (Y.1, 4096, .inl uS.2.2))]) (fun uS : Int32 × (Nat → Int32) × (Nat → Int32) => True) := by
  refine mu_intro (by decide +kernel) rfl (Nat.le_of_ble_eq_true rfl) [(0, .ref mo), (1, .int (nI st)), (2, .long u)] rfl ?_
  intro pG eG sG mG aG bG tG cG ls hx hb hr hml hts hown hlocks hK hP hD hS hl
  generalize hAA : adA [(mo, .inr (8, [.int th, .int (nI c), .int (nI r), .long w, .int (nI pl), .int (nI n), .ref aML, .ref aMR, .ref aOW, .int (nI len), .ref aBU, .int sn, .ref aSA, .ref aSZ, .ref aLP, .ref aOP, .ref aFT, .int od, .ref aOL, .ref aRS, .ref aCD, .long pw, .int pb, .int ah, .long hs])), (aOL, .inl (Y.1, 12, .inl ol)), (aRS, .inl (Y.1, 4096, .inl rs))] = AA at hD hS ⊢
  have hP : va_P D vwCl [(mo, .inr (8, [.int th, .int (nI c), .int (nI r), .long w, .int (nI pl), .int (nI n), .ref aML, .ref aMR, .ref aOW, .int (nI len), .ref aBU, .int sn, .ref aSA, .ref aSZ, .ref aLP, .ref aOP, .ref aFT, .int od, .ref aOL, .ref aRS, .ref aCD, .long pw, .int pb, .int ah, .long hs])), (aOL, .inl (Y.1, 12, .inl ol)), (aRS, .inl (Y.1, 4096, .inl rs))] sG.heap := hP
  have hD : va_D AA [(mo, .inr (8, [.int th, .int (nI c), .int (nI r), .long w, .int (nI pl), .int (nI n), .ref aML, .ref aMR, .ref aOW, .int (nI len), .ref aBU, .int sn, .ref aSA, .ref aSZ, .ref aLP, .ref aOP, .ref aFT, .int od, .ref aOL, .ref aRS, .ref aCD, .long pw, .int pb, .int ah, .long hs])), (aOL, .inl (Y.1, 12, .inl ol)), (aRS, .inl (Y.1, 4096, .inl rs))] := hD
  have hown : sG.vm.findClass RX9 = some mG.cls := hown
  have hl : lv_has ls 4 [(0, .ref mo), (1, .int (nI st)), (2, .long u)] := hl
  have hS : va_S AA sG.heap sG.heap [] := hS
  obtain ⟨hq1, hq2, hq3, hq4, hq5, hq6, hq7, hq8, hq9, hq10, hq11⟩ := hC.q
  refine lv_iload_n (pc := 0) hx hb dX9_choice_0 rfl (lv_at hl 1 rfl) ?_
  refine n_if_ne (pc := 1) (tgt := 12) hx hb (by omega) dX9_choice_1 (by decide) (fun c1 => ?_) (fun c1 => ?_)
  · refine lv_iload_n (pc := 12) hx hb dX9_choice_12 rfl (lv_at hl 1 rfl) ?_
    refine lv_iconst (pc := 13) (v := nI 1) hx hb dX9_choice_13 rfl ?_
    refine n_icmp_eq (pc := 14) (tgt := 27) hx hb (by omega) (by omega) dX9_choice_14 (by decide) (fun c14 => ?_) (fun c14 => ?_)
    · refine lv_aload_n (pc := 27) hx hb dX9_choice_27 rfl (lv_at hl 0 rfl) ?_
      refine lv_lload_n (pc := 28) hx hb dX9_choice_28 rfl (lv_at hl 2 rfl) ?_
      refine ro_go (pc := 29) (va_runV (As := [.long u]) (rest := []) ⟨hx, hb, hml, hown, hts⟩ (c_X9_keeping l D Y mo c r ([.int th, .int (nI c), .int (nI r), .long w, .int (nI pl), .int (nI n), .ref aML, .ref aMR, .ref aOW, .int (nI len), .ref aBU, .int sn, .ref aSA, .ref aSZ, .ref aLP, .ref aOP, .ref aFT, .int od, .ref aOL, .ref aRS, .ref aCD, .long pw, .int pb, .int ah, .long hs]) u (by first | assumption | exact ⟨rfl, rfl⟩) (hC)) (cwV 1 hts gX9_choice_X9_keeping rfl rfl rfl ⟨rfl, hdX9_keeping⟩ ⟨Nat.le_of_ble_eq_true rfl, Nat.le_of_ble_eq_true rfl⟩) (ro_pV hK (hP.sub [0] rfl) (ro_recv hK hP (ci := 8) (q0 := 0) rfl rfl)) rfl rfl hl.1 rfl (lv_room (Nat.le_of_ble_eq_true rfl)) dX9_choice_29 ⟨Nat.le_of_ble_eq_true rfl, Nat.le_of_ble_eq_true rfl⟩) ?_
      refine lv_topi (fun x29 ex29 => ?_)
      refine lv_goto (pc := 32) (tgt := 40) hx hb dX9_choice_32 (by decide) ?_
      subst hAA
      exact mu_iret hx hb hr hlocks hP hS (⟨od, ol, rs⟩) (by rw [ex29, cho_1 hst (by omega) (fun q => by omega)]) (trivial) (rfl) dX9_choice_40
    refine lv_aload_n (pc := 17) hx hb dX9_choice_17 rfl (lv_at hl 0 rfl) ?_
    refine lv_lload_n (pc := 18) hx hb dX9_choice_18 rfl (lv_at hl 2 rfl) ?_
    refine ro_go (pc := 19) (va_runV (As := [.long u]) (rest := []) ⟨hx, hb, hml, hown, hts⟩ (c_X9_open l D Y mo c r ([.int th, .int (nI c), .int (nI r), .long w, .int (nI pl), .int (nI n), .ref aML, .ref aMR, .ref aOW, .int (nI len), .ref aBU, .int sn, .ref aSA, .ref aSZ, .ref aLP, .ref aOP, .ref aFT, .int od, .ref aOL, .ref aRS, .ref aCD, .long pw, .int pb, .int ah, .long hs]) u (by first | assumption | exact ⟨rfl, rfl⟩) (hC) (hu0)) (cwV 1 hts gX9_choice_X9_open rfl rfl rfl ⟨rfl, hdX9_open⟩ ⟨Nat.le_of_ble_eq_true rfl, Nat.le_of_ble_eq_true rfl⟩) (ro_pV hK (hP.sub [0] rfl) (ro_recv hK hP (ci := 8) (q0 := 0) rfl rfl)) rfl rfl hl.1 rfl (lv_room (Nat.le_of_ble_eq_true rfl)) dX9_choice_19 ⟨Nat.le_of_ble_eq_true rfl, Nat.le_of_ble_eq_true rfl⟩) ?_
    refine lv_bipush (pc := 22) (v := nI 12) hx hb dX9_choice_22 rfl ?_
    refine n_icmp_le (pc := 24) (tgt := 35) hx hb (by have := und_le c r u; omega) (by decide) dX9_choice_24 (by decide) (fun c24 => ?_) (fun c24 => ?_)
    · refine lv_aload_n (pc := 35) hx hb dX9_choice_35 rfl (lv_at hl 0 rfl) ?_
      refine lv_lload_n (pc := 36) hx hb dX9_choice_36 rfl (lv_at hl 2 rfl) ?_
      refine mu_go (pc := 37) (va_runV (As := [.long u]) (rest := []) ⟨hx, hb, hml, hown, hts⟩ (c_X9_exactly l D Y mo th c r w pl n aML aMR aOW len aBU sn aSA aSZ aLP aOP aFT aOL aRS aCD pw pb ah hs od u ol rs (hC) (hu0) (c24)) (cwV 1 hts gX9_choice_X9_exactly rfl rfl rfl ⟨rfl, hdX9_exactly⟩ ⟨Nat.le_of_ble_eq_true rfl, Nat.le_of_ble_eq_true rfl⟩) (mu_pV hK hP hD (ro_recv hK hP (ci := 8) (q0 := 0) rfl rfl)) rfl rfl hl.1 rfl (lv_room (Nat.le_of_ble_eq_true rfl)) dX9_choice_37 ⟨Nat.le_of_ble_eq_true rfl, Nat.le_of_ble_eq_true rfl⟩) hP hD hS [0, 1, 2] rfl (by decide) (fun uS => [(mo, .inr (8, [.int th, .int (nI c), .int (nI r), .long w, .int (nI pl), .int (nI n), .ref aML, .ref aMR, .ref aOW, .int (nI len), .ref aBU, .int sn, .ref aSA, .ref aSZ, .ref aLP, .ref aOP, .ref aFT, .int (nI (und c r u)), .ref aOL, .ref aRS, .ref aCD, .long pw, .int pb, .int ah, .long hs])), (aOL, .inl (Y.1, 12, .inl uS.1)), (aRS, .inl (Y.1, 4096, .inl uS.2))]) (fun _ => rfl) (fun _ => rfl) (fun uS H locs hpost hP hD hS => ?_)
      obtain ⟨ol2_37, rs2_37⟩ := uS
      refine top_i (show _ = oI (blM c r u) from rfl) ?_
      have hP : va_P D vwCl [(mo, .inr (8, [.int th, .int (nI c), .int (nI r), .long w, .int (nI pl), .int (nI n), .ref aML, .ref aMR, .ref aOW, .int (nI len), .ref aBU, .int sn, .ref aSA, .ref aSZ, .ref aLP, .ref aOP, .ref aFT, .int (nI (und c r u)), .ref aOL, .ref aRS, .ref aCD, .long pw, .int pb, .int ah, .long hs])), (aOL, .inl (Y.1, 12, .inl ol2_37)), (aRS, .inl (Y.1, 4096, .inl rs2_37))] H := hP
      have hD : va_D AA [(mo, .inr (8, [.int th, .int (nI c), .int (nI r), .long w, .int (nI pl), .int (nI n), .ref aML, .ref aMR, .ref aOW, .int (nI len), .ref aBU, .int sn, .ref aSA, .ref aSZ, .ref aLP, .ref aOP, .ref aFT, .int (nI (und c r u)), .ref aOL, .ref aRS, .ref aCD, .long pw, .int pb, .int ah, .long hs])), (aOL, .inl (Y.1, 12, .inl ol2_37)), (aRS, .inl (Y.1, 4096, .inl rs2_37))] := hD
      refine lv_topi (fun x37 ex37 => ?_)
      subst hAA
      exact mu_iret hx hb hr hlocks hP hS (⟨nI (und c r u), ol2_37, rs2_37⟩) (by rw [ex37, cho_2 (by omega) c24]) (trivial) (rfl) dX9_choice_40
    refine lv_aload_n (pc := 27) hx hb dX9_choice_27 rfl (lv_at hl 0 rfl) ?_
    refine lv_lload_n (pc := 28) hx hb dX9_choice_28 rfl (lv_at hl 2 rfl) ?_
    refine ro_go (pc := 29) (va_runV (As := [.long u]) (rest := []) ⟨hx, hb, hml, hown, hts⟩ (c_X9_keeping l D Y mo c r ([.int th, .int (nI c), .int (nI r), .long w, .int (nI pl), .int (nI n), .ref aML, .ref aMR, .ref aOW, .int (nI len), .ref aBU, .int sn, .ref aSA, .ref aSZ, .ref aLP, .ref aOP, .ref aFT, .int od, .ref aOL, .ref aRS, .ref aCD, .long pw, .int pb, .int ah, .long hs]) u (by first | assumption | exact ⟨rfl, rfl⟩) (hC)) (cwV 1 hts gX9_choice_X9_keeping rfl rfl rfl ⟨rfl, hdX9_keeping⟩ ⟨Nat.le_of_ble_eq_true rfl, Nat.le_of_ble_eq_true rfl⟩) (ro_pV hK (hP.sub [0] rfl) (ro_recv hK hP (ci := 8) (q0 := 0) rfl rfl)) rfl rfl hl.1 rfl (lv_room (Nat.le_of_ble_eq_true rfl)) dX9_choice_29 ⟨Nat.le_of_ble_eq_true rfl, Nat.le_of_ble_eq_true rfl⟩) ?_
    refine lv_topi (fun x29 ex29 => ?_)
    refine lv_goto (pc := 32) (tgt := 40) hx hb dX9_choice_32 (by decide) ?_
    subst hAA
    exact mu_iret hx hb hr hlocks hP hS (⟨od, ol, rs⟩) (by rw [ex29, cho_1 hst (by omega) (fun q => by omega)]) (trivial) (rfl) dX9_choice_40
  refine lv_aload_n (pc := 4) hx hb dX9_choice_4 rfl (lv_at hl 0 rfl) ?_
  refine lv_lload_n (pc := 5) hx hb dX9_choice_5 rfl (lv_at hl 2 rfl) ?_
  refine ro_go (pc := 6) (va_runV (As := [.long u]) (rest := []) ⟨hx, hb, hml, hown, hts⟩ (c_X9_greedy l D Y mo c r ([.int th, .int (nI c), .int (nI r), .long w, .int (nI pl), .int (nI n), .ref aML, .ref aMR, .ref aOW, .int (nI len), .ref aBU, .int sn, .ref aSA, .ref aSZ, .ref aLP, .ref aOP, .ref aFT, .int od, .ref aOL, .ref aRS, .ref aCD, .long pw, .int pb, .int ah, .long hs]) u (by first | assumption | exact ⟨rfl, rfl⟩) (hC)) (cwV 1 hts gX9_choice_X9_greedy rfl rfl rfl ⟨rfl, hdX9_greedy⟩ ⟨Nat.le_of_ble_eq_true rfl, Nat.le_of_ble_eq_true rfl⟩) (ro_pV hK (hP.sub [0] rfl) (ro_recv hK hP (ci := 8) (q0 := 0) rfl rfl)) rfl rfl hl.1 rfl (lv_room (Nat.le_of_ble_eq_true rfl)) dX9_choice_6 ⟨Nat.le_of_ble_eq_true rfl, Nat.le_of_ble_eq_true rfl⟩) ?_
  refine lv_topi (fun x6 ex6 => ?_)
  refine lv_goto (pc := 9) (tgt := 40) hx hb dX9_choice_9 (by decide) ?_
  subst hAA
  exact mu_iret hx hb hr hlocks hP hS (⟨od, ol, rs⟩) (by rw [ex6, cho_0 c1]) (trivial) (rfl) dX9_choice_40
