set_option maxHeartbeats 1200000 in
set_option maxRecDepth 100000 in
theorem c_L_rest (l : Launch) (D : va_G) (Y : vY) (dd : Nat) (c : Nat) (r : Nat) (dx : Int32) (pl : Nat) (w : Int64) (d0 : Int) (z : Nat) (o : Nat) (a : Nat) (hC : Cr c r) (hu0 : Onb c r w) (hpl1 : pl ≤ 1) (hz1 : z ≤ 1) (ho1 : o ≤ 1) (ha2 : a ≤ 2) : Ro l yL_rest wsL_rest ({ frames := 9, cells := 0, slots := 0, locals := 218 } : Room) [.ref dd, .long w, .int (iI d0), .int (nI z), .int (nI o), .int (nI a)] D Y [(dd, .inl (Y.1, 4, .inl (dF (nI c) (nI r) dx (nI pl))))] (some (.int (plV c r z o w pl d0 a))) := by
  refine ro_intro (by decide +kernel) rfl (Nat.le_of_ble_eq_true rfl) [(0, .ref dd), (1, .long w), (3, .int (iI d0)), (4, .int (nI z)), (5, .int (nI o)), (6, .int (nI a))] rfl ?_
  intro pG eG sG mG aG bG tG cG ls hx hb hr hml hts hown hlocks hK hP hl
  have hP : va_P D vwCl [(dd, .inl (Y.1, 4, .inl (dF (nI c) (nI r) dx (nI pl))))] sG.heap := hP
  have hown : sG.vm.findClass RL = some mG.cls := hown
  have hl : lv_has ls 14 [(0, .ref dd), (1, .long w), (3, .int (iI d0)), (4, .int (nI z)), (5, .int (nI o)), (6, .int (nI a))] := hl
  obtain ⟨hq1, hq2, hq3, hq4, hq5, hq6, hq7, hq8, hq9, hq10, hq11⟩ := hC.q
  refine lv_lload_n (pc := 0) hx hb dL_rest_0 rfl (lv_at hl 1 rfl) ?_
  refine lv_lstore (pc := 1) (lv' := [(7, .long w), (0, .ref dd), (1, .long w), (3, .int (iI d0)), (4, .int (nI z)), (5, .int (nI o)), (6, .int (nI a))]) hx hb dL_rest_1 hl (by decide) rfl (fun ls hl => ?_)
  refine lv_aload_n (pc := 3) hx hb dL_rest_3 rfl (lv_at hl 1 rfl) ?_
  refine lv_iconst (pc := 4) (v := nI 3) hx hb dL_rest_4 rfl ?_
  refine va_iald (pc := 5) hx hb hK.1 hP 0 0 rfl rfl (vp_in_nI (by omega) (by decide)) dL_rest_5 ?_
  refine top_i (show (dF (nI c) (nI r) dx (nI pl)) (nI 3).toNatClampNeg = nI pl from by rw [nI_clamp (by decide)]; rfl) ?_
  refine lv_istore (pc := 6) (lv' := [(9, .int (nI pl)), (7, .long w), (0, .ref dd), (1, .long w), (3, .int (iI d0)), (4, .int (nI z)), (5, .int (nI o)), (6, .int (nI a))]) hx hb dL_rest_6 hl (by decide) rfl (fun ls hl => ?_)
  refine lv_iload_n (pc := 8) hx hb dL_rest_8 rfl (lv_at hl 4 rfl) ?_
  refine lv_istore (pc := 9) (lv' := [(10, .int (iI d0)), (9, .int (nI pl)), (7, .long w), (0, .ref dd), (1, .long w), (3, .int (iI d0)), (4, .int (nI z)), (5, .int (nI o)), (6, .int (nI a))]) hx hb dL_rest_9 hl (by decide) rfl (fun ls hl => ?_)
  refine lv_iconst (pc := 11) (v := nI 0) hx hb dL_rest_11 rfl ?_
  refine lv_istore (pc := 12) (lv' := [(11, .int (nI 0)), (10, .int (iI d0)), (9, .int (nI pl)), (7, .long w), (0, .ref dd), (1, .long w), (3, .int (iI d0)), (4, .int (nI z)), (5, .int (nI o)), (6, .int (nI a))]) hx hb dL_rest_12 hl (by decide) rfl (fun ls hl => ?_)
  refine lv_iconst (pc := 14) (v := (-1)) hx hb dL_rest_14 (by decide) ?_
  refine lv_istore (pc := 15) (lv' := [(12, .int (-1)), (11, .int (nI 0)), (10, .int (iI d0)), (9, .int (nI pl)), (7, .long w), (0, .ref dd), (1, .long w), (3, .int (iI d0)), (4, .int (nI z)), (5, .int (nI o)), (6, .int (nI a))]) hx hb dL_rest_15 hl (by decide) rfl (fun ls hl => ?_)
  have L17 : ∀ (n17 : Nat), ∀ (u : Int64) (p : Nat) (d : Int) (ch : Nat) (la : Int32), (Onb c r u) → (p ≤ 1) → (plF c r z o (und c r u) u p d ch la = plF c r z o (und c r w) w pl d0 0 (-1)) → und c r u < n17 → ∀ (ls : Array Slot), lv_has ls 14 [(0, .ref dd), (1, .long w), (3, .int (iI d0)), (4, .int (nI z)), (5, .int (nI o)), (6, .int (nI a)), (7, .long u), (9, .int (nI p)), (10, .int (iI d)), (11, .int (nI ch)), (12, .int la)] → W pG l eG ({ frames := 9, cells := 0, slots := 0, locals := 218 } : Room) sG mG aG bG tG cG sG.heap [] 0 0 (MQ bG (RoQ (some (.int (plV c r z o w pl d0 a)))) aG sG 0 0 (fun _ => False)) (F0 mG 17 ls []) := by
    intro n17
    induction n17 with
    | zero =>
      intro u p d ch la hub hp1 hF hmeas17  ls hl
      exact absurd hmeas17 (Nat.not_lt_zero _)
    | succ n17 ih17 =>
      intro u p d ch la hub hp1 hF hmeas17  ls hl
      refine lv_lload (pc := 17) hx hb dL_rest_17 (lv_at hl 6 rfl) ?_
      refine lv_lconst (pc := 19) (v := 1) hx hb dL_rest_19 (by decide) ?_
      refine lv_aload_n (pc := 20) hx hb dL_rest_20 rfl (lv_at hl 0 rfl) ?_
      refine ro_go (pc := 21) (va_runS (As := [.ref dd]) (rest := [.long (1 : Int64), .long u]) ⟨hx, hb, hml, hown, hts⟩ (c_L_lines l D Y dd c r dx (nI pl) (hC)) (va_cwS 1 hts gL_rest_L_lines rfl rfl rfl hdL_lines ⟨Nat.le_of_ble_eq_true rfl, Nat.le_of_ble_eq_true rfl⟩) (ro_pS hK hP) rfl rfl hl.1 rfl (lv_room (Nat.le_of_ble_eq_true rfl)) dL_rest_21 ⟨Nat.le_of_ble_eq_true rfl, Nat.le_of_ble_eq_true rfl⟩) ?_
      refine lv_lshl (pc := 24) (v := b1 (al c r)) hx hb dL_rest_24 (b1_shl _ (by omega)) ?_
      refine lv_lconst (pc := 25) (v := 1) hx hb dL_rest_25 (by decide) ?_
      refine lv_lsub (pc := 26) hx hb dL_rest_26 ?_
      refine W.lcmp (pc := 27) hx hb dL_rest_27 ?_
      refine lc_if_eq (pc := 28) (tgt := 105) hx hb dL_rest_28 (by decide) (fun c28 => ?_) (fun c28 => ?_)
      · have hend := pl_end ((full_iff hC hub).mp c28) hF
        refine lv_iload (pc := 105) hx hb dL_rest_105 (lv_at hl 5 rfl) ?_
        refine n_if_ne (pc := 107) (tgt := 115) hx hb (by omega) dL_rest_107 (by decide) (fun c107 => ?_) (fun c107 => ?_)
        · refine lv_iload (pc := 115) hx hb dL_rest_115 (lv_at hl 5 rfl) ?_
          refine lv_iconst (pc := 117) (v := nI 1) hx hb dL_rest_117 rfl ?_
          refine n_icmp_ne (pc := 118) (tgt := 126) hx hb (by omega) (by decide) dL_rest_118 (by decide) (fun c118 => ?_) (fun c118 => ?_)
          · refine lv_iload (pc := 126) hx hb dL_rest_126 (lv_at hl 10 rfl) ?_
            exact ro_iret (v := la) hx hb hr hlocks (by unfold plV; rw [hend, if_neg (by omega), if_neg (by omega)]) dL_rest_128
          refine lv_iload (pc := 121) hx hb dL_rest_121 (lv_at hl 9 rfl) ?_
          refine lv_goto (pc := 123) (tgt := 128) hx hb dL_rest_123 (by decide) ?_
          exact ro_iret (v := nI ch) hx hb hr hlocks (by unfold plV; rw [hend, if_neg (by omega), if_pos c118]) dL_rest_128
        refine lv_iload (pc := 110) hx hb dL_rest_110 (lv_at hl 8 rfl) ?_
        refine lv_goto (pc := 112) (tgt := 128) hx hb dL_rest_112 (by decide) ?_
        exact ro_iret (v := iI d) hx hb hr hlocks (by unfold plV; rw [hend, if_pos c107]) dL_rest_128
      have hne : und c r u ≠ 0 := fun q => c28 ((full_iff hC hub).mpr q)
      refine lv_aload_n (pc := 31) hx hb dL_rest_31 rfl (lv_at hl 0 rfl) ?_
      refine lv_iload (pc := 32) hx hb dL_rest_32 (lv_at hl 7 rfl) ?_
      refine n_if_ne (pc := 34) (tgt := 42) hx hb (by omega) dL_rest_34 (by decide) (fun c34 => ?_) (fun c34 => ?_)
      · obtain ⟨bb, hbb, hbl, hbt⟩ := cho_ex (st := o) hC hne
        refine lv_iload (pc := 42) hx hb dL_rest_42 (lv_at hl 4 rfl) ?_
        refine lv_lload (pc := 44) hx hb dL_rest_44 (lv_at hl 6 rfl) ?_
        refine ro_go (pc := 46) (va_runS (As := [.ref dd, .int (nI o), .long u]) (rest := []) ⟨hx, hb, hml, hown, hts⟩ (c_L_choose l D Y dd c r dx (nI pl) o u (hC) (by omega)) (va_cwS 3 hts gL_rest_L_choose rfl rfl rfl hdL_choose ⟨Nat.le_of_ble_eq_true rfl, Nat.le_of_ble_eq_true rfl⟩) (ro_pS hK hP) rfl rfl hl.1 rfl (lv_room (Nat.le_of_ble_eq_true rfl)) dL_rest_46 ⟨Nat.le_of_ble_eq_true rfl, Nat.le_of_ble_eq_true rfl⟩) ?_
        refine lv_topi (fun x46 ex46 => ?_)
        have hxb : x46 = nI bb := by rw [ex46, hbb]; rfl
        subst hxb
        refine lv_istore (pc := 49) (lv' := [(12, .int (nI bb)), (0, .ref dd), (1, .long w), (3, .int (iI d0)), (4, .int (nI z)), (5, .int (nI o)), (6, .int (nI a)), (7, .long u), (9, .int (nI p)), (10, .int (iI d)), (11, .int (nI ch))]) hx hb dL_rest_49 hl (by decide) rfl (fun ls hl => ?_)
        refine lv_aload_n (pc := 51) hx hb dL_rest_51 rfl (lv_at hl 1 rfl) ?_
        refine lv_iload (pc := 52) hx hb dL_rest_52 (lv_at hl 0 rfl) ?_
        refine lv_lload (pc := 54) hx hb dL_rest_54 (lv_at hl 7 rfl) ?_
        refine ro_go (pc := 56) (va_runS (As := [.ref dd, .int (nI bb), .long u]) (rest := []) ⟨hx, hb, hml, hown, hts⟩ (c_L_gain l D Y dd c r dx (nI pl) bb u (hC) (by first | assumption | omega)) (va_cwS 3 hts gL_rest_L_gain rfl rfl rfl hdL_gain ⟨Nat.le_of_ble_eq_true rfl, Nat.le_of_ble_eq_true rfl⟩) (ro_pS hK hP) rfl rfl hl.1 rfl (lv_room (Nat.le_of_ble_eq_true rfl)) dL_rest_56 ⟨Nat.le_of_ble_eq_true rfl, Nat.le_of_ble_eq_true rfl⟩) ?_
        refine top_i (show nI (gaL c r u bb) = nI (gai c r u bb) from by rw [gaL_f hbt]) ?_
        refine lv_istore (pc := 59) (lv' := [(13, .int (nI (gai c r u bb))), (12, .int (nI bb)), (0, .ref dd), (1, .long w), (3, .int (iI d0)), (4, .int (nI z)), (5, .int (nI o)), (6, .int (nI a)), (7, .long u), (9, .int (nI p)), (10, .int (iI d)), (11, .int (nI ch))]) hx hb dL_rest_59 hl (by decide) rfl (fun ls hl => ?_)
        refine lv_iload (pc := 61) hx hb dL_rest_61 (lv_at hl 10 rfl) ?_
        refine lv_iload (pc := 63) hx hb dL_rest_63 (lv_at hl 9 rfl) ?_
        refine n_if_ne (pc := 65) (tgt := 73) hx hb (by omega) dL_rest_65 (by decide) (fun c65 => ?_) (fun c65 => ?_)
        · refine lv_iload (pc := 73) hx hb dL_rest_73 (lv_at hl 0 rfl) ?_
          refine lv_ineg (pc := 75) hx hb dL_rest_75 ?_
          refine lv_iadd (pc := 76) hx hb dL_rest_76 ?_
          refine top_i (show (iI d) + (-(nI (gai c r u bb))) = iI (d + dst p (gai c r u bb)) from dst_1 c34) ?_
          refine lv_istore (pc := 77) (lv' := [(10, .int (iI (d + dst p (gai c r u bb)))), (13, .int (nI (gai c r u bb))), (12, .int (nI bb)), (0, .ref dd), (1, .long w), (3, .int (iI d0)), (4, .int (nI z)), (5, .int (nI o)), (6, .int (nI a)), (7, .long u), (9, .int (nI p)), (11, .int (nI ch))]) hx hb dL_rest_77 hl (by decide) rfl (fun ls hl => ?_)
          refine lv_lload (pc := 79) hx hb dL_rest_79 (lv_at hl 9 rfl) ?_
          refine lv_lconst (pc := 81) (v := 1) hx hb dL_rest_81 (by decide) ?_
          refine lv_iload (pc := 82) hx hb dL_rest_82 (lv_at hl 2 rfl) ?_
          refine lv_lshl (pc := 84) (v := b1 bb) hx hb dL_rest_84 (b1_shl bb (by omega)) ?_
          refine lv_lor (pc := 85) hx hb dL_rest_85 ?_
          refine lv_lstore (pc := 86) (lv' := [(7, .long (u ||| (b1 bb))), (10, .int (iI (d + dst p (gai c r u bb)))), (13, .int (nI (gai c r u bb))), (12, .int (nI bb)), (0, .ref dd), (1, .long w), (3, .int (iI d0)), (4, .int (nI z)), (5, .int (nI o)), (6, .int (nI a)), (9, .int (nI p)), (11, .int (nI ch))]) hx hb dL_rest_86 hl (by decide) rfl (fun ls hl => ?_)
          refine lv_iload (pc := 88) hx hb dL_rest_88 (lv_at hl 2 rfl) ?_
          refine n_if_ne (pc := 90) (tgt := 102) hx hb (by have := gai_le c r u bb; omega) dL_rest_90 (by decide) (fun c90 => ?_) (fun c90 => ?_)
          · refine lv_goto (pc := 102) (tgt := 17) hx hb dL_rest_102 (by decide) ?_
            exact ih17 (u ||| (b1 bb)) p (d + dst p (gai c r u bb)) ch (nI bb) (onb_or hC hub hbl) (hp1) (by rw [← hF]; have q9 := pl_s (d := d) (la := la) (z := z) (o := o) (p := p) (ch := ch) hC hbl hbt (by rw [if_neg (by omega)]; exact hbb) rfl; rw [show nxp (gai c r u bb) p = p from if_neg (by omega), if_neg (by omega), Nat.add_zero] at q9; exact q9) (by have := und_step hC hbl hbt; omega) _ (lv_sub hl [4, 5, 6, 7, 8, 9, 0, 10, 1, 11, 3] rfl)
          have hg0 := c90
          refine lv_iconst (pc := 93) (v := nI 1) hx hb dL_rest_93 rfl ?_
          refine lv_iload (pc := 94) hx hb dL_rest_94 (lv_at hl 10 rfl) ?_
          refine n_isub (pc := 96) hx hb (by omega) dL_rest_96 ?_
          refine lv_istore (pc := 97) (lv' := [(9, .int (nI (1 - p))), (7, .long (u ||| (b1 bb))), (10, .int (iI (d + dst p (gai c r u bb)))), (13, .int (nI (gai c r u bb))), (12, .int (nI bb)), (0, .ref dd), (1, .long w), (3, .int (iI d0)), (4, .int (nI z)), (5, .int (nI o)), (6, .int (nI a)), (11, .int (nI ch))]) hx hb dL_rest_97 hl (by decide) rfl (fun ls hl => ?_)
          refine lv_iinc (pc := 99) (v := nI (ch + 1)) (lv' := [(11, .int (nI (ch + 1))), (9, .int (nI (1 - p))), (7, .long (u ||| (b1 bb))), (10, .int (iI (d + dst p (gai c r u bb)))), (13, .int (nI (gai c r u bb))), (12, .int (nI bb)), (0, .ref dd), (1, .long w), (3, .int (iI d0)), (4, .int (nI z)), (5, .int (nI o)), (6, .int (nI a))]) hx hb dL_rest_99 hl (k := 11) rfl (n_inc ch 1) (by decide) rfl (fun ls hl => ?_)
          refine lv_goto (pc := 102) (tgt := 17) hx hb dL_rest_102 (by decide) ?_
          exact ih17 (u ||| (b1 bb)) (1 - p) (d + dst p (gai c r u bb)) (ch + 1) (nI bb) (onb_or hC hub hbl) (by omega) (by rw [← hF]; have q9 := pl_s (d := d) (la := la) (z := z) (o := o) (p := p) (ch := ch) hC hbl hbt (by rw [if_neg (by omega)]; exact hbb) rfl; rw [show nxp (gai c r u bb) p = 1 - p from if_pos hg0, if_pos hg0] at q9; exact q9) (by have := und_step hC hbl hbt; omega) _ (lv_sub hl [6, 7, 8, 9, 10, 11, 2, 1, 3, 0, 5] rfl)
        · exact absurd c65 (by omega)
      obtain ⟨bb, hbb, hbl, hbt⟩ := cho_ex (st := z) hC hne
      refine lv_iload (pc := 37) hx hb dL_rest_37 (lv_at hl 3 rfl) ?_
      refine lv_goto (pc := 39) (tgt := 44) hx hb dL_rest_39 (by decide) ?_
      refine lv_lload (pc := 44) hx hb dL_rest_44 (lv_at hl 6 rfl) ?_
      refine ro_go (pc := 46) (va_runS (As := [.ref dd, .int (nI z), .long u]) (rest := []) ⟨hx, hb, hml, hown, hts⟩ (c_L_choose l D Y dd c r dx (nI pl) z u (hC) (by omega)) (va_cwS 3 hts gL_rest_L_choose rfl rfl rfl hdL_choose ⟨Nat.le_of_ble_eq_true rfl, Nat.le_of_ble_eq_true rfl⟩) (ro_pS hK hP) rfl rfl hl.1 rfl (lv_room (Nat.le_of_ble_eq_true rfl)) dL_rest_46 ⟨Nat.le_of_ble_eq_true rfl, Nat.le_of_ble_eq_true rfl⟩) ?_
      refine lv_topi (fun x46 ex46 => ?_)
      have hxb : x46 = nI bb := by rw [ex46, hbb]; rfl
      subst hxb
      refine lv_istore (pc := 49) (lv' := [(12, .int (nI bb)), (0, .ref dd), (1, .long w), (3, .int (iI d0)), (4, .int (nI z)), (5, .int (nI o)), (6, .int (nI a)), (7, .long u), (9, .int (nI p)), (10, .int (iI d)), (11, .int (nI ch))]) hx hb dL_rest_49 hl (by decide) rfl (fun ls hl => ?_)
      refine lv_aload_n (pc := 51) hx hb dL_rest_51 rfl (lv_at hl 1 rfl) ?_
      refine lv_iload (pc := 52) hx hb dL_rest_52 (lv_at hl 0 rfl) ?_
      refine lv_lload (pc := 54) hx hb dL_rest_54 (lv_at hl 7 rfl) ?_
      refine ro_go (pc := 56) (va_runS (As := [.ref dd, .int (nI bb), .long u]) (rest := []) ⟨hx, hb, hml, hown, hts⟩ (c_L_gain l D Y dd c r dx (nI pl) bb u (hC) (by first | assumption | omega)) (va_cwS 3 hts gL_rest_L_gain rfl rfl rfl hdL_gain ⟨Nat.le_of_ble_eq_true rfl, Nat.le_of_ble_eq_true rfl⟩) (ro_pS hK hP) rfl rfl hl.1 rfl (lv_room (Nat.le_of_ble_eq_true rfl)) dL_rest_56 ⟨Nat.le_of_ble_eq_true rfl, Nat.le_of_ble_eq_true rfl⟩) ?_
      refine top_i (show nI (gaL c r u bb) = nI (gai c r u bb) from by rw [gaL_f hbt]) ?_
      refine lv_istore (pc := 59) (lv' := [(13, .int (nI (gai c r u bb))), (12, .int (nI bb)), (0, .ref dd), (1, .long w), (3, .int (iI d0)), (4, .int (nI z)), (5, .int (nI o)), (6, .int (nI a)), (7, .long u), (9, .int (nI p)), (10, .int (iI d)), (11, .int (nI ch))]) hx hb dL_rest_59 hl (by decide) rfl (fun ls hl => ?_)
      refine lv_iload (pc := 61) hx hb dL_rest_61 (lv_at hl 10 rfl) ?_
      refine lv_iload (pc := 63) hx hb dL_rest_63 (lv_at hl 9 rfl) ?_
      refine n_if_ne (pc := 65) (tgt := 73) hx hb (by omega) dL_rest_65 (by decide) (fun c65 => ?_) (fun c65 => ?_)
      · exact absurd c65 (by omega)
      refine lv_iload (pc := 68) hx hb dL_rest_68 (lv_at hl 0 rfl) ?_
      refine lv_goto (pc := 70) (tgt := 76) hx hb dL_rest_70 (by decide) ?_
      refine lv_iadd (pc := 76) hx hb dL_rest_76 ?_
      refine top_i (show (iI d) + (nI (gai c r u bb)) = iI (d + dst p (gai c r u bb)) from dst_0 c34) ?_
      refine lv_istore (pc := 77) (lv' := [(10, .int (iI (d + dst p (gai c r u bb)))), (13, .int (nI (gai c r u bb))), (12, .int (nI bb)), (0, .ref dd), (1, .long w), (3, .int (iI d0)), (4, .int (nI z)), (5, .int (nI o)), (6, .int (nI a)), (7, .long u), (9, .int (nI p)), (11, .int (nI ch))]) hx hb dL_rest_77 hl (by decide) rfl (fun ls hl => ?_)
      refine lv_lload (pc := 79) hx hb dL_rest_79 (lv_at hl 9 rfl) ?_
      refine lv_lconst (pc := 81) (v := 1) hx hb dL_rest_81 (by decide) ?_
      refine lv_iload (pc := 82) hx hb dL_rest_82 (lv_at hl 2 rfl) ?_
      refine lv_lshl (pc := 84) (v := b1 bb) hx hb dL_rest_84 (b1_shl bb (by omega)) ?_
      refine lv_lor (pc := 85) hx hb dL_rest_85 ?_
      refine lv_lstore (pc := 86) (lv' := [(7, .long (u ||| (b1 bb))), (10, .int (iI (d + dst p (gai c r u bb)))), (13, .int (nI (gai c r u bb))), (12, .int (nI bb)), (0, .ref dd), (1, .long w), (3, .int (iI d0)), (4, .int (nI z)), (5, .int (nI o)), (6, .int (nI a)), (9, .int (nI p)), (11, .int (nI ch))]) hx hb dL_rest_86 hl (by decide) rfl (fun ls hl => ?_)
      refine lv_iload (pc := 88) hx hb dL_rest_88 (lv_at hl 2 rfl) ?_
      refine n_if_ne (pc := 90) (tgt := 102) hx hb (by have := gai_le c r u bb; omega) dL_rest_90 (by decide) (fun c90 => ?_) (fun c90 => ?_)
      · refine lv_goto (pc := 102) (tgt := 17) hx hb dL_rest_102 (by decide) ?_
        exact ih17 (u ||| (b1 bb)) p (d + dst p (gai c r u bb)) ch (nI bb) (onb_or hC hub hbl) (hp1) (by rw [← hF]; have q9 := pl_s (d := d) (la := la) (z := z) (o := o) (p := p) (ch := ch) hC hbl hbt (by rw [if_pos c34]; exact hbb) rfl; rw [show nxp (gai c r u bb) p = p from if_neg (by omega), if_neg (by omega), Nat.add_zero] at q9; exact q9) (by have := und_step hC hbl hbt; omega) _ (lv_sub hl [4, 5, 6, 7, 8, 9, 0, 10, 1, 11, 3] rfl)
      have hg0 := c90
      refine lv_iconst (pc := 93) (v := nI 1) hx hb dL_rest_93 rfl ?_
      refine lv_iload (pc := 94) hx hb dL_rest_94 (lv_at hl 10 rfl) ?_
      refine n_isub (pc := 96) hx hb (by omega) dL_rest_96 ?_
      refine lv_istore (pc := 97) (lv' := [(9, .int (nI (1 - p))), (7, .long (u ||| (b1 bb))), (10, .int (iI (d + dst p (gai c r u bb)))), (13, .int (nI (gai c r u bb))), (12, .int (nI bb)), (0, .ref dd), (1, .long w), (3, .int (iI d0)), (4, .int (nI z)), (5, .int (nI o)), (6, .int (nI a)), (11, .int (nI ch))]) hx hb dL_rest_97 hl (by decide) rfl (fun ls hl => ?_)
      refine lv_iinc (pc := 99) (v := nI (ch + 1)) (lv' := [(11, .int (nI (ch + 1))), (9, .int (nI (1 - p))), (7, .long (u ||| (b1 bb))), (10, .int (iI (d + dst p (gai c r u bb)))), (13, .int (nI (gai c r u bb))), (12, .int (nI bb)), (0, .ref dd), (1, .long w), (3, .int (iI d0)), (4, .int (nI z)), (5, .int (nI o)), (6, .int (nI a))]) hx hb dL_rest_99 hl (k := 11) rfl (n_inc ch 1) (by decide) rfl (fun ls hl => ?_)
      refine lv_goto (pc := 102) (tgt := 17) hx hb dL_rest_102 (by decide) ?_
      exact ih17 (u ||| (b1 bb)) (1 - p) (d + dst p (gai c r u bb)) (ch + 1) (nI bb) (onb_or hC hub hbl) (by omega) (by rw [← hF]; have q9 := pl_s (d := d) (la := la) (z := z) (o := o) (p := p) (ch := ch) hC hbl hbt (by rw [if_pos c34]; exact hbb) rfl; rw [show nxp (gai c r u bb) p = 1 - p from if_pos hg0, if_pos hg0] at q9; exact q9) (by have := und_step hC hbl hbt; omega) _ (lv_sub hl [6, 7, 8, 9, 10, 11, 2, 1, 3, 0, 5] rfl)
  exact L17 ((und c r w) + 1) w pl d0 0 (-1) (hu0) (hpl1) (rfl) (Nat.lt_succ_self _) _ (lv_sub hl [5, 6, 7, 8, 9, 10, 4, 3, 2, 1, 0] rfl)

set_option maxHeartbeats 1200000 in
set_option maxRecDepth 100000 in
theorem c_L_random (l : Launch) (D : va_G) (Y : vY) (dd : Nat) (c : Nat) (r : Nat) (n : Nat) (pl : Nat) (w : Int64) (d0 : Int) (g : Nat) (sd : Nat) (hC : Cr c r) (hu0 : Onb c r w) (hpl1 : pl ≤ 1) (hund : und c r w + n = al c r) (hsd : sd < 2 ^ 31) (hg9 : g < 2 ^ 31) : Ro l yL_random wsL_random ({ frames := 3, cells := 0, slots := 0, locals := 73 } : Room) [.ref dd, .long w, .int (iI d0), .int (nI g), .int (nI sd)] D Y [(dd, .inl (Y.1, 4, .inl (dF (nI c) (nI r) (nI n) (nI pl))))] (some (.int (iI (gmF c r w pl d0 g sd).2))) := by
  refine ro_intro (by decide +kernel) rfl (Nat.le_of_ble_eq_true rfl) [(0, .ref dd), (1, .long w), (3, .int (iI d0)), (4, .int (nI g)), (5, .int (nI sd))] rfl ?_
  intro pG eG sG mG aG bG tG cG ls hx hb hr hml hts hown hlocks hK hP hl
  have hP : va_P D vwCl [(dd, .inl (Y.1, 4, .inl (dF (nI c) (nI r) (nI n) (nI pl))))] sG.heap := hP
  have hown : sG.vm.findClass RL = some mG.cls := hown
  have hl : lv_has ls 17 [(0, .ref dd), (1, .long w), (3, .int (iI d0)), (4, .int (nI g)), (5, .int (nI sd))] := hl
  obtain ⟨hq1, hq2, hq3, hq4, hq5, hq6, hq7, hq8, hq9, hq10, hq11⟩ := hC.q
  refine lv_iload (pc := 0) hx hb dL_random_0 (lv_at hl 4 rfl) ?_
  refine lv_i2l (pc := 2) (v := lN sd) hx hb dL_random_2 (nI_l (hsd)) ?_
  refine lv_lstore (pc := 3) (lv' := [(6, .long (lN sd)), (0, .ref dd), (1, .long w), (3, .int (iI d0)), (4, .int (nI g)), (5, .int (nI sd))]) hx hb dL_random_3 hl (by decide) rfl (fun ls hl => ?_)
  refine lv_iconst (pc := 5) (v := nI 0) hx hb dL_random_5 rfl ?_
  refine top_i (show nI 0 = iI 0 from by decide) ?_
  refine lv_istore (pc := 6) (lv' := [(8, .int (iI 0)), (6, .long (lN sd)), (0, .ref dd), (1, .long w), (3, .int (iI d0)), (4, .int (nI g)), (5, .int (nI sd))]) hx hb dL_random_6 hl (by decide) rfl (fun ls hl => ?_)
  refine lv_iconst (pc := 8) (v := nI 0) hx hb dL_random_8 rfl ?_
  refine lv_istore (pc := 9) (lv' := [(9, .int (nI 0)), (8, .int (iI 0)), (6, .long (lN sd)), (0, .ref dd), (1, .long w), (3, .int (iI d0)), (4, .int (nI g)), (5, .int (nI sd))]) hx hb dL_random_9 hl (by decide) rfl (fun ls hl => ?_)
  have L11 : ∀ (n11 : Nat), ∀ (i : Nat) (xx : Nat) (s9 : Int), (i ≤ g) → (xx = (gmF c r w pl d0 i sd).1) → (s9 = (gmF c r w pl d0 i sd).2) → g - i < n11 → ∀ (ls : Array Slot), lv_has ls 17 [(0, .ref dd), (1, .long w), (3, .int (iI d0)), (4, .int (nI g)), (5, .int (nI sd)), (6, .long (lN xx)), (8, .int (iI s9)), (9, .int (nI i))] → W pG l eG ({ frames := 3, cells := 0, slots := 0, locals := 73 } : Room) sG mG aG bG tG cG sG.heap [] 0 0 (MQ bG (RoQ (some (.int (iI (gmF c r w pl d0 g sd).2)))) aG sG 0 0 (fun _ => False)) (F0 mG 11 ls []) := by
    intro n11
    induction n11 with
    | zero =>
      intro i xx s9 hi hxg hsg hmeas11  ls hl
      exact absurd hmeas11 (Nat.not_lt_zero _)
    | succ n11 ih11 =>
      intro i xx s9 hi hxg hsg hmeas11  ls hl
      have hx31 : xx < 2 ^ 31 := by rw [hxg]; exact gm_x hsd
      refine lv_iload (pc := 11) hx hb dL_random_11 (lv_at hl 7 rfl) ?_
      refine lv_iload (pc := 13) hx hb dL_random_13 (lv_at hl 3 rfl) ?_
      refine n_icmp_ge (pc := 15) (tgt := 172) hx hb (by omega) (by omega) dL_random_15 (by decide) (fun c15 => ?_) (fun c15 => ?_)
      · refine lv_iload (pc := 172) hx hb dL_random_172 (lv_at hl 6 rfl) ?_
        exact ro_iret (v := iI s9) hx hb hr hlocks (by rw [hsg, show i = g by omega]) dL_random_174
      refine lv_lload_n (pc := 18) hx hb dL_random_18 rfl (lv_at hl 1 rfl) ?_
      refine lv_lstore (pc := 19) (lv' := [(10, .long w), (0, .ref dd), (1, .long w), (3, .int (iI d0)), (4, .int (nI g)), (5, .int (nI sd)), (6, .long (lN xx)), (8, .int (iI s9)), (9, .int (nI i))]) hx hb dL_random_19 hl (by decide) rfl (fun ls hl => ?_)
      refine lv_aload_n (pc := 21) hx hb dL_random_21 rfl (lv_at hl 1 rfl) ?_
      refine lv_iconst (pc := 22) (v := nI 3) hx hb dL_random_22 rfl ?_
      refine va_iald (pc := 23) hx hb hK.1 hP 0 0 rfl rfl (vp_in_nI (by omega) (by decide)) dL_random_23 ?_
      refine top_i (show (dF (nI c) (nI r) (nI n) (nI pl)) (nI 3).toNatClampNeg = nI pl from by rw [nI_clamp (by decide)]; rfl) ?_
      refine lv_istore (pc := 24) (lv' := [(12, .int (nI pl)), (10, .long w), (0, .ref dd), (1, .long w), (3, .int (iI d0)), (4, .int (nI g)), (5, .int (nI sd)), (6, .long (lN xx)), (8, .int (iI s9)), (9, .int (nI i))]) hx hb dL_random_24 hl (by decide) rfl (fun ls hl => ?_)
      refine lv_iload (pc := 26) hx hb dL_random_26 (lv_at hl 8 rfl) ?_
      refine lv_iload_n (pc := 28) hx hb dL_random_28 rfl (lv_at hl 4 rfl) ?_
      refine lv_iadd (pc := 29) hx hb dL_random_29 ?_
      refine top_i (show (iI s9) + (iI d0) = iI (s9 + d0) from by rw [iI_add]) ?_
      refine lv_istore (pc := 30) (lv' := [(8, .int (iI (s9 + d0))), (12, .int (nI pl)), (10, .long w), (0, .ref dd), (1, .long w), (3, .int (iI d0)), (4, .int (nI g)), (5, .int (nI sd)), (6, .long (lN xx)), (9, .int (nI i))]) hx hb dL_random_30 hl (by decide) rfl (fun ls hl => ?_)
      refine lv_aload_n (pc := 32) hx hb dL_random_32 rfl (lv_at hl 3 rfl) ?_
      refine ro_go (pc := 33) (va_runS (As := [.ref dd]) (rest := []) ⟨hx, hb, hml, hown, hts⟩ (c_L_lines l D Y dd c r (nI n) (nI pl) (hC)) (va_cwS 1 hts gL_random_L_lines rfl rfl rfl hdL_lines ⟨Nat.le_of_ble_eq_true rfl, Nat.le_of_ble_eq_true rfl⟩) (ro_pS hK hP) rfl rfl hl.1 rfl (lv_room (Nat.le_of_ble_eq_true rfl)) dL_random_33 ⟨Nat.le_of_ble_eq_true rfl, Nat.le_of_ble_eq_true rfl⟩) ?_
      refine lv_aload_n (pc := 36) hx hb dL_random_36 rfl (lv_at hl 3 rfl) ?_
      refine lv_iconst (pc := 37) (v := nI 2) hx hb dL_random_37 rfl ?_
      refine va_iald (pc := 38) hx hb hK.1 hP 0 0 rfl rfl (vp_in_nI (by omega) (by decide)) dL_random_38 ?_
      refine top_i (show (dF (nI c) (nI r) (nI n) (nI pl)) (nI 2).toNatClampNeg = nI n from by rw [nI_clamp (by decide)]; rfl) ?_
      refine n_isub (pc := 39) hx hb (by omega) dL_random_39 ?_
      refine top_i (show nI ((al c r) - n) = nI (und c r w) from by congr 1; omega) ?_
      refine lv_istore (pc := 40) (lv' := [(13, .int (nI (und c r w))), (8, .int (iI (s9 + d0))), (12, .int (nI pl)), (10, .long w), (0, .ref dd), (1, .long w), (3, .int (iI d0)), (4, .int (nI g)), (5, .int (nI sd)), (6, .long (lN xx)), (9, .int (nI i))]) hx hb dL_random_40 hl (by decide) rfl (fun ls hl => ?_)
      have L42 : ∀ (n42 : Nat), ∀ (u : Int64) (p : Nat) (e : Int) (y : Nat), (Onb c r u) → (p ≤ 1) → (y < 2 ^ 31) → (rpF c r (und c r u) y u p e = rpF c r (und c r w) xx w pl d0) → und c r u < n42 → ∀ (ls : Array Slot), lv_has ls 17 [(0, .ref dd), (1, .long w), (3, .int (iI d0)), (4, .int (nI g)), (5, .int (nI sd)), (6, .long (lN y)), (8, .int (iI (s9 + e))), (9, .int (nI i)), (10, .long u), (12, .int (nI p)), (13, .int (nI (und c r u)))] → W pG l eG ({ frames := 3, cells := 0, slots := 0, locals := 73 } : Room) sG mG aG bG tG cG sG.heap [] 0 0 (MQ bG (RoQ (some (.int (iI (gmF c r w pl d0 g sd).2)))) aG sG 0 0 (fun _ => False)) (F0 mG 42 ls []) := by
        intro n42
        induction n42 with
        | zero =>
          intro u p e y hub hp1 hy31 hF hmeas42  ls hl
          exact absurd hmeas42 (Nat.not_lt_zero _)
        | succ n42 ih42 =>
          intro u p e y hub hp1 hy31 hF hmeas42  ls hl
          refine lv_iload (pc := 42) hx hb dL_random_42 (lv_at hl 10 rfl) ?_
          refine n_if_le (pc := 44) (tgt := 166) hx hb (by have := und_le c r u; omega) dL_random_44 (by decide) (fun c44 => ?_) (fun c44 => ?_)
          · have hend : (y, e) = rpF c r (und c r w) xx w pl d0 := by rw [← hF, rp_0 c44]
            refine lv_iinc (pc := 166) (v := nI (i + 1)) (lv' := [(9, .int (nI (i + 1))), (0, .ref dd), (1, .long w), (3, .int (iI d0)), (4, .int (nI g)), (5, .int (nI sd)), (6, .long (lN y)), (8, .int (iI (s9 + e))), (10, .long u), (12, .int (nI p)), (13, .int (nI (und c r u)))]) hx hb dL_random_166 hl (k := 7) rfl (n_inc i 1) (by decide) rfl (fun ls hl => ?_)
            refine lv_goto (pc := 169) (tgt := 11) hx hb dL_random_169 (by decide) ?_
            exact ih11 (i + 1) y (s9 + e) (by first | assumption | omega) (by rw [gmF, ← hxg, ← hend]) (by rw [gmF, ← hxg, ← hend, ← hsg]) (by omega) _ (lv_sub hl [1, 2, 3, 4, 5, 6, 7, 0] rfl)
          have hrl := rpL_is (x := y) hC (by omega : und c r u ≠ 0)
          refine lv_ldc2 (pc := 47) hx hb hown (hts (.constantLong RL 119 (1103515245)) (List.mem_of_getElem? (i := 1) rfl)) dL_random_47 ?_
          refine lv_lload (pc := 50) hx hb dL_random_50 (lv_at hl 5 rfl) ?_
          refine lv_lmul (pc := 52) hx hb dL_random_52 ?_
          refine lv_ldc2 (pc := 53) hx hb hown (hts (.constantLong RL 121 (12345)) (List.mem_of_getElem? (i := 2) rfl)) dL_random_53 ?_
          refine lv_ladd (pc := 56) hx hb dL_random_56 ?_
          refine lv_ldc2 (pc := 57) hx hb hown (hts (.constantLong RL 123 (2147483647)) (List.mem_of_getElem? (i := 3) rfl)) dL_random_57 ?_
          refine lv_land (pc := 60) hx hb dL_random_60 ?_
          refine top_l (show (((1103515245 : Int64) * (lN y)) + (12345 : Int64)) &&& (2147483647 : Int64) = lN (lcg y) from lcg_c) ?_
          refine lv_lstore (pc := 61) (lv' := [(6, .long (lN (lcg y))), (0, .ref dd), (1, .long w), (3, .int (iI d0)), (4, .int (nI g)), (5, .int (nI sd)), (8, .int (iI (s9 + e))), (9, .int (nI i)), (10, .long u), (12, .int (nI p)), (13, .int (nI (und c r u)))]) hx hb dL_random_61 hl (by decide) rfl (fun ls hl => ?_)
          refine lv_lload (pc := 63) hx hb dL_random_63 (lv_at hl 0 rfl) ?_
          refine lv_bipush (pc := 65) (v := nI 16) hx hb dL_random_65 rfl ?_
          refine lv_lshr (pc := 67) (v := lN (lcg y / 65536)) hx hb dL_random_67 (lshr16 (lcg_lt y)) ?_
          refine lv_iload (pc := 68) hx hb dL_random_68 (lv_at hl 10 rfl) ?_
          refine lv_i2l (pc := 70) (v := lN (und c r u)) hx hb dL_random_70 (nI_l (by have := und_le c r u; omega)) ?_
          refine lv_lrem (pc := 71) hx hb dL_random_71 (fun q => absurd ((pk_lEQ (by have := und_le c r u; omega) (by decide : 0 < 2 ^ 63)).mp q) (by omega)) ?_
          refine top_l (show (lN (lcg y / 65536)) - (lN (lcg y / 65536)) / (lN (und c r u)) * (lN (und c r u)) = lN (lcg y / 65536 % und c r u) from lc_rem (by have := lcg_lt y; omega) c44 (by have := und_le c r u; omega)) ?_
          refine lv_l2i (pc := 72) (v := nI (lcg y / 65536 % und c r u)) hx hb dL_random_72 (lN_i _) ?_
          refine lv_istore (pc := 73) (lv' := [(14, .int (nI (lcg y / 65536 % und c r u))), (6, .long (lN (lcg y))), (0, .ref dd), (1, .long w), (3, .int (iI d0)), (4, .int (nI g)), (5, .int (nI sd)), (8, .int (iI (s9 + e))), (9, .int (nI i)), (10, .long u), (12, .int (nI p)), (13, .int (nI (und c r u)))]) hx hb dL_random_73 hl (by decide) rfl (fun ls hl => ?_)
          refine lv_iconst (pc := 75) (v := nI 0) hx hb dL_random_75 rfl ?_
          refine lv_istore (pc := 76) (lv' := [(15, .int (nI 0)), (14, .int (nI (lcg y / 65536 % und c r u))), (6, .long (lN (lcg y))), (0, .ref dd), (1, .long w), (3, .int (iI d0)), (4, .int (nI g)), (5, .int (nI sd)), (8, .int (iI (s9 + e))), (9, .int (nI i)), (10, .long u), (12, .int (nI p)), (13, .int (nI (und c r u)))]) hx hb dL_random_76 hl (by decide) rfl (fun ls hl => ?_)
          have L78 : ∀ (n78 : Nat), ∀ (j : Nat) (k2 : Nat), (j ≤ al c r) → (k2 + fb_ct (fun l => !tb u l) j = lcg y / 65536 % und c r u) → al c r - j < n78 → ∀ (ls : Array Slot), lv_has ls 17 [(0, .ref dd), (1, .long w), (3, .int (iI d0)), (4, .int (nI g)), (5, .int (nI sd)), (6, .long (lN (lcg y))), (8, .int (iI (s9 + e))), (9, .int (nI i)), (10, .long u), (12, .int (nI p)), (13, .int (nI (und c r u))), (14, .int (nI k2)), (15, .int (nI j))] → W pG l eG ({ frames := 3, cells := 0, slots := 0, locals := 73 } : Room) sG mG aG bG tG cG sG.heap [] 0 0 (MQ bG (RoQ (some (.int (iI (gmF c r w pl d0 g sd).2)))) aG sG 0 0 (fun _ => False)) (F0 mG 78 ls []) := by
            intro n78
            induction n78 with
            | zero =>
              intro j k2 hj hcnt hmeas78  ls hl
              exact absurd hmeas78 (Nat.not_lt_zero _)
            | succ n78 ih78 =>
              intro j k2 hj hcnt hmeas78  ls hl
              have hja : j < al c r := Nat.lt_of_le_of_ne hj (fun q => by rw [q] at hcnt; have q2 := Nat.mod_lt (lcg y / 65536) c44; have q3 : und c r u = fb_ct (fun l => !tb u l) (al c r) := rfl; omega)
              refine lv_lload (pc := 78) hx hb dL_random_78 (lv_at hl 8 rfl) ?_
              refine lv_iload (pc := 80) hx hb dL_random_80 (lv_at hl 12 rfl) ?_
              refine ro_go (pc := 82) (va_runS (As := [.long u, .int (nI j)]) (rest := []) ⟨hx, hb, hml, hown, hts⟩ (c_L_has l D Y u j (by omega)) (va_cwS 2 hts gL_random_L_has rfl rfl rfl hdL_has ⟨Nat.le_of_ble_eq_true rfl, Nat.le_of_ble_eq_true rfl⟩) (ro_pS hK (hP.sub [] rfl)) rfl rfl hl.1 rfl (lv_room (Nat.le_of_ble_eq_true rfl)) dL_random_82 ⟨Nat.le_of_ble_eq_true rfl, Nat.le_of_ble_eq_true rfl⟩) ?_
              refine z_if_ne (pc := 85) (tgt := 93) hx hb dL_random_85 (by decide) (fun c85 => ?_) (fun c85 => ?_)
              · refine lv_lload (pc := 93) hx hb dL_random_93 (lv_at hl 8 rfl) ?_
                refine lv_iload (pc := 95) hx hb dL_random_95 (lv_at hl 12 rfl) ?_
                refine ro_go (pc := 97) (va_runS (As := [.long u, .int (nI j)]) (rest := []) ⟨hx, hb, hml, hown, hts⟩ (c_L_has l D Y u j (by omega)) (va_cwS 2 hts gL_random_L_has rfl rfl rfl hdL_has ⟨Nat.le_of_ble_eq_true rfl, Nat.le_of_ble_eq_true rfl⟩) (ro_pS hK (hP.sub [] rfl)) rfl rfl hl.1 rfl (lv_room (Nat.le_of_ble_eq_true rfl)) dL_random_97 ⟨Nat.le_of_ble_eq_true rfl, Nat.le_of_ble_eq_true rfl⟩) ?_
                refine z_if_ne (pc := 100) (tgt := 106) hx hb dL_random_100 (by decide) (fun c100 => ?_) (fun c100 => ?_)
                · refine lv_iinc (pc := 106) (v := nI (j + 1)) (lv' := [(15, .int (nI (j + 1))), (0, .ref dd), (1, .long w), (3, .int (iI d0)), (4, .int (nI g)), (5, .int (nI sd)), (6, .long (lN (lcg y))), (8, .int (iI (s9 + e))), (9, .int (nI i)), (10, .long u), (12, .int (nI p)), (13, .int (nI (und c r u))), (14, .int (nI k2))]) hx hb dL_random_106 hl (k := 12) rfl (n_inc j 1) (by decide) rfl (fun ls hl => ?_)
                  refine lv_goto (pc := 109) (tgt := 78) hx hb dL_random_109 (by decide) ?_
                  exact ih78 (j + 1) k2 (by first | assumption | omega) (by rw [fb_ct_succ, c85]; simpa using hcnt) (by omega) _ (lv_sub hl [1, 2, 3, 4, 5, 6, 7, 8, 9, 10, 11, 12, 0] rfl)
                · exact absurd (c85.symm.trans c100) (by decide)
              refine lv_iload (pc := 88) hx hb dL_random_88 (lv_at hl 11 rfl) ?_
              refine n_if_le (pc := 90) (tgt := 112) hx hb (by have := Nat.mod_lt (lcg y / 65536) c44; have := und_le c r u; omega) dL_random_90 (by decide) (fun c90 => ?_) (fun c90 => ?_)
              · have hjr : j = rpL c r y u := (mem_op hC hja c85 (by omega : lcg y / 65536 % und c r u = fb_ct (fun l => !tb u l) j)).2.symm
                rw [hjr] at hl
                have hl : lv_has ls 17 [(0, .ref dd), (1, .long w), (3, .int (iI d0)), (4, .int (nI g)), (5, .int (nI sd)), (6, .long (lN (lcg y))), (8, .int (iI (s9 + e))), (9, .int (nI i)), (10, .long u), (12, .int (nI p)), (13, .int (nI (und c r u))), (14, .int (nI k2)), (15, .int (nI (rpL c r y u)))] := hl
                refine lv_aload_n (pc := 112) hx hb dL_random_112 rfl (lv_at hl 0 rfl) ?_
                refine lv_iload (pc := 113) hx hb dL_random_113 (lv_at hl 12 rfl) ?_
                refine lv_lload (pc := 115) hx hb dL_random_115 (lv_at hl 8 rfl) ?_
                refine ro_go (pc := 117) (va_runS (As := [.ref dd, .int (nI (rpL c r y u)), .long u]) (rest := []) ⟨hx, hb, hml, hown, hts⟩ (c_L_gain l D Y dd c r (nI n) (nI pl) (rpL c r y u) u (hC) (hrl.1)) (va_cwS 3 hts gL_random_L_gain rfl rfl rfl hdL_gain ⟨Nat.le_of_ble_eq_true rfl, Nat.le_of_ble_eq_true rfl⟩) (ro_pS hK hP) rfl rfl hl.1 rfl (lv_room (Nat.le_of_ble_eq_true rfl)) dL_random_117 ⟨Nat.le_of_ble_eq_true rfl, Nat.le_of_ble_eq_true rfl⟩) ?_
                refine top_i (show nI (gaL c r u (rpL c r y u)) = nI (gai c r u (rpL c r y u)) from by rw [gaL_f hrl.2]) ?_
                refine lv_istore (pc := 120) (lv' := [(16, .int (nI (gai c r u (rpL c r y u)))), (0, .ref dd), (1, .long w), (3, .int (iI d0)), (4, .int (nI g)), (5, .int (nI sd)), (6, .long (lN (lcg y))), (8, .int (iI (s9 + e))), (9, .int (nI i)), (10, .long u), (12, .int (nI p)), (13, .int (nI (und c r u))), (14, .int (nI k2)), (15, .int (nI (rpL c r y u)))]) hx hb dL_random_120 hl (by decide) rfl (fun ls hl => ?_)
                refine lv_iload (pc := 122) hx hb dL_random_122 (lv_at hl 7 rfl) ?_
                refine lv_iload (pc := 124) hx hb dL_random_124 (lv_at hl 10 rfl) ?_
                refine n_if_ne (pc := 126) (tgt := 134) hx hb (by omega) dL_random_126 (by decide) (fun c126 => ?_) (fun c126 => ?_)
                · refine lv_iload (pc := 134) hx hb dL_random_134 (lv_at hl 0 rfl) ?_
                  refine lv_ineg (pc := 136) hx hb dL_random_136 ?_
                  refine lv_iadd (pc := 137) hx hb dL_random_137 ?_
                  refine top_i (show (iI (s9 + e)) + (-(nI (gai c r u (rpL c r y u)))) = iI (s9 + (e + dst p (gai c r u (rpL c r y u)))) from by rw [← Int.add_assoc]; exact dst_1 c126) ?_
                  refine lv_istore (pc := 138) (lv' := [(8, .int (iI (s9 + (e + dst p (gai c r u (rpL c r y u)))))), (16, .int (nI (gai c r u (rpL c r y u)))), (0, .ref dd), (1, .long w), (3, .int (iI d0)), (4, .int (nI g)), (5, .int (nI sd)), (6, .long (lN (lcg y))), (9, .int (nI i)), (10, .long u), (12, .int (nI p)), (13, .int (nI (und c r u))), (14, .int (nI k2)), (15, .int (nI (rpL c r y u)))]) hx hb dL_random_138 hl (by decide) rfl (fun ls hl => ?_)
                  refine lv_lload (pc := 140) hx hb dL_random_140 (lv_at hl 9 rfl) ?_
                  refine lv_lconst (pc := 142) (v := 1) hx hb dL_random_142 (by decide) ?_
                  refine lv_iload (pc := 143) hx hb dL_random_143 (lv_at hl 13 rfl) ?_
                  refine lv_lshl (pc := 145) (v := b1 (rpL c r y u)) hx hb dL_random_145 (b1_shl _ (by omega)) ?_
                  refine lv_lor (pc := 146) hx hb dL_random_146 ?_
                  refine lv_lstore (pc := 147) (lv' := [(10, .long (u ||| (b1 (rpL c r y u)))), (8, .int (iI (s9 + (e + dst p (gai c r u (rpL c r y u)))))), (16, .int (nI (gai c r u (rpL c r y u)))), (0, .ref dd), (1, .long w), (3, .int (iI d0)), (4, .int (nI g)), (5, .int (nI sd)), (6, .long (lN (lcg y))), (9, .int (nI i)), (12, .int (nI p)), (13, .int (nI (und c r u))), (14, .int (nI k2)), (15, .int (nI (rpL c r y u)))]) hx hb dL_random_147 hl (by decide) rfl (fun ls hl => ?_)
                  refine lv_iload (pc := 149) hx hb dL_random_149 (lv_at hl 2 rfl) ?_
                  refine n_if_ne (pc := 151) (tgt := 160) hx hb (by have := gai_le c r u (rpL c r y u); omega) dL_random_151 (by decide) (fun c151 => ?_) (fun c151 => ?_)
                  · refine lv_iinc (pc := 160) (v := nI (und c r (u ||| b1 (rpL c r y u)))) (lv' := [(13, .int (nI (und c r (u ||| b1 (rpL c r y u))))), (10, .long (u ||| (b1 (rpL c r y u)))), (8, .int (iI (s9 + (e + dst p (gai c r u (rpL c r y u)))))), (16, .int (nI (gai c r u (rpL c r y u)))), (0, .ref dd), (1, .long w), (3, .int (iI d0)), (4, .int (nI g)), (5, .int (nI sd)), (6, .long (lN (lcg y))), (9, .int (nI i)), (12, .int (nI p)), (14, .int (nI k2)), (15, .int (nI (rpL c r y u)))]) hx hb dL_random_160 hl (k := 11) rfl (by rw [n_dec (by omega)]; congr 1; have := und_step hC hrl.1 hrl.2; omega) (by decide) rfl (fun ls hl => ?_)
                    refine lv_goto (pc := 163) (tgt := 42) hx hb dL_random_163 (by decide) ?_
                    exact ih42 (u ||| b1 (rpL c r y u)) p (e + dst p (gai c r u (rpL c r y u))) (lcg y) (onb_or hC hub hrl.1) (hp1) (lcg_lt y) (by rw [← hF]; have q9 := rp_s (p := p) (d := e) hC (by omega : und c r u ≠ 0) (rfl : rpL c r y u = rpL c r y u); rw [show nxp (gai c r u (rpL c r y u)) p = p from if_neg (by omega)] at q9; exact q9) (by have := und_step hC hrl.1 hrl.2; omega) _ (lv_sub hl [4, 5, 6, 7, 8, 9, 2, 10, 1, 11, 0] rfl)
                  have hg0 := c151
                  refine lv_iconst (pc := 154) (v := nI 1) hx hb dL_random_154 rfl ?_
                  refine lv_iload (pc := 155) hx hb dL_random_155 (lv_at hl 10 rfl) ?_
                  refine n_isub (pc := 157) hx hb (by omega) dL_random_157 ?_
                  refine lv_istore (pc := 158) (lv' := [(12, .int (nI (1 - p))), (10, .long (u ||| (b1 (rpL c r y u)))), (8, .int (iI (s9 + (e + dst p (gai c r u (rpL c r y u)))))), (16, .int (nI (gai c r u (rpL c r y u)))), (0, .ref dd), (1, .long w), (3, .int (iI d0)), (4, .int (nI g)), (5, .int (nI sd)), (6, .long (lN (lcg y))), (9, .int (nI i)), (13, .int (nI (und c r u))), (14, .int (nI k2)), (15, .int (nI (rpL c r y u)))]) hx hb dL_random_158 hl (by decide) rfl (fun ls hl => ?_)
                  refine lv_iinc (pc := 160) (v := nI (und c r (u ||| b1 (rpL c r y u)))) (lv' := [(13, .int (nI (und c r (u ||| b1 (rpL c r y u))))), (12, .int (nI (1 - p))), (10, .long (u ||| (b1 (rpL c r y u)))), (8, .int (iI (s9 + (e + dst p (gai c r u (rpL c r y u)))))), (16, .int (nI (gai c r u (rpL c r y u)))), (0, .ref dd), (1, .long w), (3, .int (iI d0)), (4, .int (nI g)), (5, .int (nI sd)), (6, .long (lN (lcg y))), (9, .int (nI i)), (14, .int (nI k2)), (15, .int (nI (rpL c r y u)))]) hx hb dL_random_160 hl (k := 11) rfl (by rw [n_dec (by omega)]; congr 1; have := und_step hC hrl.1 hrl.2; omega) (by decide) rfl (fun ls hl => ?_)
                  refine lv_goto (pc := 163) (tgt := 42) hx hb dL_random_163 (by decide) ?_
                  exact ih42 (u ||| b1 (rpL c r y u)) (1 - p) (e + dst p (gai c r u (rpL c r y u))) (lcg y) (onb_or hC hub hrl.1) (by omega) (lcg_lt y) (by rw [← hF]; have q9 := rp_s (p := p) (d := e) hC (by omega : und c r u ≠ 0) (rfl : rpL c r y u = rpL c r y u); rw [show nxp (gai c r u (rpL c r y u)) p = 1 - p from if_pos hg0] at q9; exact q9) (by have := und_step hC hrl.1 hrl.2; omega) _ (lv_sub hl [5, 6, 7, 8, 9, 10, 3, 11, 2, 1, 0] rfl)
                refine lv_iload (pc := 129) hx hb dL_random_129 (lv_at hl 0 rfl) ?_
                refine lv_goto (pc := 131) (tgt := 137) hx hb dL_random_131 (by decide) ?_
                refine lv_iadd (pc := 137) hx hb dL_random_137 ?_
                refine top_i (show (iI (s9 + e)) + (nI (gai c r u (rpL c r y u))) = iI (s9 + (e + dst p (gai c r u (rpL c r y u)))) from by rw [← Int.add_assoc]; exact dst_0 c126) ?_
                refine lv_istore (pc := 138) (lv' := [(8, .int (iI (s9 + (e + dst p (gai c r u (rpL c r y u)))))), (16, .int (nI (gai c r u (rpL c r y u)))), (0, .ref dd), (1, .long w), (3, .int (iI d0)), (4, .int (nI g)), (5, .int (nI sd)), (6, .long (lN (lcg y))), (9, .int (nI i)), (10, .long u), (12, .int (nI p)), (13, .int (nI (und c r u))), (14, .int (nI k2)), (15, .int (nI (rpL c r y u)))]) hx hb dL_random_138 hl (by decide) rfl (fun ls hl => ?_)
                refine lv_lload (pc := 140) hx hb dL_random_140 (lv_at hl 9 rfl) ?_
                refine lv_lconst (pc := 142) (v := 1) hx hb dL_random_142 (by decide) ?_
                refine lv_iload (pc := 143) hx hb dL_random_143 (lv_at hl 13 rfl) ?_
                refine lv_lshl (pc := 145) (v := b1 (rpL c r y u)) hx hb dL_random_145 (b1_shl _ (by omega)) ?_
                refine lv_lor (pc := 146) hx hb dL_random_146 ?_
                refine lv_lstore (pc := 147) (lv' := [(10, .long (u ||| (b1 (rpL c r y u)))), (8, .int (iI (s9 + (e + dst p (gai c r u (rpL c r y u)))))), (16, .int (nI (gai c r u (rpL c r y u)))), (0, .ref dd), (1, .long w), (3, .int (iI d0)), (4, .int (nI g)), (5, .int (nI sd)), (6, .long (lN (lcg y))), (9, .int (nI i)), (12, .int (nI p)), (13, .int (nI (und c r u))), (14, .int (nI k2)), (15, .int (nI (rpL c r y u)))]) hx hb dL_random_147 hl (by decide) rfl (fun ls hl => ?_)
                refine lv_iload (pc := 149) hx hb dL_random_149 (lv_at hl 2 rfl) ?_
                refine n_if_ne (pc := 151) (tgt := 160) hx hb (by have := gai_le c r u (rpL c r y u); omega) dL_random_151 (by decide) (fun c151 => ?_) (fun c151 => ?_)
                · refine lv_iinc (pc := 160) (v := nI (und c r (u ||| b1 (rpL c r y u)))) (lv' := [(13, .int (nI (und c r (u ||| b1 (rpL c r y u))))), (10, .long (u ||| (b1 (rpL c r y u)))), (8, .int (iI (s9 + (e + dst p (gai c r u (rpL c r y u)))))), (16, .int (nI (gai c r u (rpL c r y u)))), (0, .ref dd), (1, .long w), (3, .int (iI d0)), (4, .int (nI g)), (5, .int (nI sd)), (6, .long (lN (lcg y))), (9, .int (nI i)), (12, .int (nI p)), (14, .int (nI k2)), (15, .int (nI (rpL c r y u)))]) hx hb dL_random_160 hl (k := 11) rfl (by rw [n_dec (by omega)]; congr 1; have := und_step hC hrl.1 hrl.2; omega) (by decide) rfl (fun ls hl => ?_)
                  refine lv_goto (pc := 163) (tgt := 42) hx hb dL_random_163 (by decide) ?_
                  exact ih42 (u ||| b1 (rpL c r y u)) p (e + dst p (gai c r u (rpL c r y u))) (lcg y) (onb_or hC hub hrl.1) (hp1) (lcg_lt y) (by rw [← hF]; have q9 := rp_s (p := p) (d := e) hC (by omega : und c r u ≠ 0) (rfl : rpL c r y u = rpL c r y u); rw [show nxp (gai c r u (rpL c r y u)) p = p from if_neg (by omega)] at q9; exact q9) (by have := und_step hC hrl.1 hrl.2; omega) _ (lv_sub hl [4, 5, 6, 7, 8, 9, 2, 10, 1, 11, 0] rfl)
                have hg0 := c151
                refine lv_iconst (pc := 154) (v := nI 1) hx hb dL_random_154 rfl ?_
                refine lv_iload (pc := 155) hx hb dL_random_155 (lv_at hl 10 rfl) ?_
                refine n_isub (pc := 157) hx hb (by omega) dL_random_157 ?_
                refine lv_istore (pc := 158) (lv' := [(12, .int (nI (1 - p))), (10, .long (u ||| (b1 (rpL c r y u)))), (8, .int (iI (s9 + (e + dst p (gai c r u (rpL c r y u)))))), (16, .int (nI (gai c r u (rpL c r y u)))), (0, .ref dd), (1, .long w), (3, .int (iI d0)), (4, .int (nI g)), (5, .int (nI sd)), (6, .long (lN (lcg y))), (9, .int (nI i)), (13, .int (nI (und c r u))), (14, .int (nI k2)), (15, .int (nI (rpL c r y u)))]) hx hb dL_random_158 hl (by decide) rfl (fun ls hl => ?_)
                refine lv_iinc (pc := 160) (v := nI (und c r (u ||| b1 (rpL c r y u)))) (lv' := [(13, .int (nI (und c r (u ||| b1 (rpL c r y u))))), (12, .int (nI (1 - p))), (10, .long (u ||| (b1 (rpL c r y u)))), (8, .int (iI (s9 + (e + dst p (gai c r u (rpL c r y u)))))), (16, .int (nI (gai c r u (rpL c r y u)))), (0, .ref dd), (1, .long w), (3, .int (iI d0)), (4, .int (nI g)), (5, .int (nI sd)), (6, .long (lN (lcg y))), (9, .int (nI i)), (14, .int (nI k2)), (15, .int (nI (rpL c r y u)))]) hx hb dL_random_160 hl (k := 11) rfl (by rw [n_dec (by omega)]; congr 1; have := und_step hC hrl.1 hrl.2; omega) (by decide) rfl (fun ls hl => ?_)
                refine lv_goto (pc := 163) (tgt := 42) hx hb dL_random_163 (by decide) ?_
                exact ih42 (u ||| b1 (rpL c r y u)) (1 - p) (e + dst p (gai c r u (rpL c r y u))) (lcg y) (onb_or hC hub hrl.1) (by omega) (lcg_lt y) (by rw [← hF]; have q9 := rp_s (p := p) (d := e) hC (by omega : und c r u ≠ 0) (rfl : rpL c r y u = rpL c r y u); rw [show nxp (gai c r u (rpL c r y u)) p = 1 - p from if_pos hg0] at q9; exact q9) (by have := und_step hC hrl.1 hrl.2; omega) _ (lv_sub hl [5, 6, 7, 8, 9, 10, 3, 11, 2, 1, 0] rfl)
              refine lv_lload (pc := 93) hx hb dL_random_93 (lv_at hl 8 rfl) ?_
              refine lv_iload (pc := 95) hx hb dL_random_95 (lv_at hl 12 rfl) ?_
              refine ro_go (pc := 97) (va_runS (As := [.long u, .int (nI j)]) (rest := []) ⟨hx, hb, hml, hown, hts⟩ (c_L_has l D Y u j (by omega)) (va_cwS 2 hts gL_random_L_has rfl rfl rfl hdL_has ⟨Nat.le_of_ble_eq_true rfl, Nat.le_of_ble_eq_true rfl⟩) (ro_pS hK (hP.sub [] rfl)) rfl rfl hl.1 rfl (lv_room (Nat.le_of_ble_eq_true rfl)) dL_random_97 ⟨Nat.le_of_ble_eq_true rfl, Nat.le_of_ble_eq_true rfl⟩) ?_
              refine z_if_ne (pc := 100) (tgt := 106) hx hb dL_random_100 (by decide) (fun c100 => ?_) (fun c100 => ?_)
              · exact absurd (c85.symm.trans c100) (by decide)
              refine lv_iinc (pc := 103) (v := nI (k2 - 1)) (lv' := [(14, .int (nI (k2 - 1))), (0, .ref dd), (1, .long w), (3, .int (iI d0)), (4, .int (nI g)), (5, .int (nI sd)), (6, .long (lN (lcg y))), (8, .int (iI (s9 + e))), (9, .int (nI i)), (10, .long u), (12, .int (nI p)), (13, .int (nI (und c r u))), (15, .int (nI j))]) hx hb dL_random_103 hl (k := 11) rfl (n_dec (by omega)) (by decide) rfl (fun ls hl => ?_)
              refine lv_iinc (pc := 106) (v := nI (j + 1)) (lv' := [(15, .int (nI (j + 1))), (14, .int (nI (k2 - 1))), (0, .ref dd), (1, .long w), (3, .int (iI d0)), (4, .int (nI g)), (5, .int (nI sd)), (6, .long (lN (lcg y))), (8, .int (iI (s9 + e))), (9, .int (nI i)), (10, .long u), (12, .int (nI p)), (13, .int (nI (und c r u)))]) hx hb dL_random_106 hl (k := 12) rfl (n_inc j 1) (by decide) rfl (fun ls hl => ?_)
              refine lv_goto (pc := 109) (tgt := 78) hx hb dL_random_109 (by decide) ?_
              exact ih78 (j + 1) (k2 - 1) (by first | assumption | omega) (by rw [fb_ct_succ, c85]; simp; omega) (by omega) _ (lv_sub hl [2, 3, 4, 5, 6, 7, 8, 9, 10, 11, 12, 1, 0] rfl)
          exact L78 ((al c r - 0) + 1) 0 (lcg y / 65536 % und c r u) (by first | assumption | omega) (rfl) (Nat.lt_succ_self _) _ (lv_sub hl [3, 4, 5, 6, 7, 2, 8, 9, 10, 11, 12, 1, 0] rfl)
      exact L42 ((und c r w) + 1) w pl d0 xx (hu0) (hpl1) (hx31) (rfl) (Nat.lt_succ_self _) _ (lv_sub hl [4, 5, 6, 7, 8, 9, 1, 10, 3, 2, 0] rfl)
  exact L11 ((g - 0) + 1) 0 sd 0 (by first | assumption | omega) (rfl) (rfl) (Nat.lt_succ_self _) _ (lv_sub hl [3, 4, 5, 6, 7, 2, 1, 0] rfl)
