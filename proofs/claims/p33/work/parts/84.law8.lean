set_option maxHeartbeats 1200000 in
set_option maxRecDepth 100000 in
theorem c_L_draw (l : Launch) (D : va_G) (Y : vY) (dd : Nat) (c : Nat) (r : Nat) (n : Nat) (pl : Nat) (li : Nat) (w : Int64) (aw : Nat) (am : Nat) (ap : Nat) (wo : Nat → Int32) (ml : Nat → Int32) (mp : Nat → Int32) (hC : Cr c r) (hl0 : li < al c r) (ht0 : tb w li = false) (hn40 : n < 40) (hpl1 : pl ≤ 1) : Mu l yL_draw wsL_draw ({ frames := 3, cells := 0, slots := 0, locals := 73 } : Room) [.ref dd, .int (nI li), .long w, .ref aw, .ref am, .ref ap] D Y [(dd, .inl (Y.1, 4, .inl (dF (nI c) (nI r) (nI n) (nI pl)))), (aw, .inl (Y.1, 16, .inl wo)), (am, .inl (Y.1, 40, .inl ml)), (ap, .inl (Y.1, 40, .inl mp))] (fun uS : Nat → Int32 => some (.long (w ||| b1 li))) (fun uS : Nat → Int32 => [(dd, .inl (Y.1, 4, .inl (dF (nI c) (nI r) (nI (n + 1)) (nI (nxp (gai c r w li) pl))))), (aw, .inl (Y.1, 16, .inl uS)), (am, .inl (Y.1, 40, .inl (upd ml n (nI li)))), (ap, .inl (Y.1, 40, .inl (upd mp n (nI pl))))]) (fun uS : Nat → Int32 => ∀ b, b < 16 → uS b = mkO c r (w ||| b1 li) li wo (nI pl) b) := by
  refine mu_intro (by decide +kernel) rfl (Nat.le_of_ble_eq_true rfl) [(0, .ref dd), (1, .int (nI li)), (2, .long w), (4, .ref aw), (5, .ref am), (6, .ref ap)] rfl ?_
  intro pG eG sG mG aG bG tG cG ls hx hb hr hml hts hown hlocks hK hP hD hS hl
  generalize hAA : adA [(dd, .inl (Y.1, 4, .inl (dF (nI c) (nI r) (nI n) (nI pl)))), (aw, .inl (Y.1, 16, .inl wo)), (am, .inl (Y.1, 40, .inl ml)), (ap, .inl (Y.1, 40, .inl mp))] = AA at hD hS ⊢
  have hP : va_P D vwCl [(dd, .inl (Y.1, 4, .inl (dF (nI c) (nI r) (nI n) (nI pl)))), (aw, .inl (Y.1, 16, .inl wo)), (am, .inl (Y.1, 40, .inl ml)), (ap, .inl (Y.1, 40, .inl mp))] sG.heap := hP
  have hD : va_D AA [(dd, .inl (Y.1, 4, .inl (dF (nI c) (nI r) (nI n) (nI pl)))), (aw, .inl (Y.1, 16, .inl wo)), (am, .inl (Y.1, 40, .inl ml)), (ap, .inl (Y.1, 40, .inl mp))] := hD
  have hown : sG.vm.findClass RL = some mG.cls := hown
  have hl : lv_has ls 9 [(0, .ref dd), (1, .int (nI li)), (2, .long w), (4, .ref aw), (5, .ref am), (6, .ref ap)] := hl
  have hS : va_S AA sG.heap sG.heap [] := hS
  obtain ⟨hq1, hq2, hq3, hq4, hq5, hq6, hq7, hq8, hq9, hq10, hq11⟩ := hC.q
  refine lv_aload_n (pc := 0) hx hb dL_draw_0 rfl (lv_at hl 0 rfl) ?_
  refine lv_iload_n (pc := 1) hx hb dL_draw_1 rfl (lv_at hl 1 rfl) ?_
  refine lv_lload_n (pc := 2) hx hb dL_draw_2 rfl (lv_at hl 2 rfl) ?_
  refine ro_go (pc := 3) (va_runS (As := [.ref dd, .int (nI li), .long w]) (rest := []) ⟨hx, hb, hml, hown, hts⟩ (c_L_gain l D Y dd c r (nI n) (nI pl) li w (hC) (hl0)) (va_cwS 3 hts gL_draw_L_gain rfl rfl rfl hdL_gain ⟨Nat.le_of_ble_eq_true rfl, Nat.le_of_ble_eq_true rfl⟩) (ro_pS hK (hP.sub [0] rfl)) rfl rfl hl.1 rfl (lv_room (Nat.le_of_ble_eq_true rfl)) dL_draw_3 ⟨Nat.le_of_ble_eq_true rfl, Nat.le_of_ble_eq_true rfl⟩) ?_
  refine top_i (show nI (gaL c r w li) = nI (gai c r w li) from by rw [gaL_f ht0]) ?_
  refine lv_istore (pc := 6) (lv' := [(7, .int (nI (gai c r w li))), (0, .ref dd), (1, .int (nI li)), (2, .long w), (4, .ref aw), (5, .ref am), (6, .ref ap)]) hx hb dL_draw_6 hl (by decide) rfl (fun ls hl => ?_)
  refine lv_iconst (pc := 8) (v := nI 0) hx hb dL_draw_8 rfl ?_
  refine lv_istore (pc := 9) (lv' := [(8, .int (nI 0)), (7, .int (nI (gai c r w li))), (0, .ref dd), (1, .int (nI li)), (2, .long w), (4, .ref aw), (5, .ref am), (6, .ref ap)]) hx hb dL_draw_9 hl (by decide) rfl (fun ls hl => ?_)
  have L11 : ∀ (n11 : Nat), ∀ (i : Nat) (f : Nat → Int32), (i ≤ c * r) → (∀ b, b < 16 → f b = if b < i then mkO c r (w ||| b1 li) li wo (nI pl) b else wo b) → c * r - i < n11 → ∀ (H : Heap) (locs : List Loc), va_P D vwCl [(dd, .inl (Y.1, 4, .inl (dF (nI c) (nI r) (nI n) (nI pl)))), (aw, .inl (Y.1, 16, .inl f)), (am, .inl (Y.1, 40, .inl ml)), (ap, .inl (Y.1, 40, .inl mp))] H → va_D AA [(dd, .inl (Y.1, 4, .inl (dF (nI c) (nI r) (nI n) (nI pl)))), (aw, .inl (Y.1, 16, .inl f)), (am, .inl (Y.1, 40, .inl ml)), (ap, .inl (Y.1, 40, .inl mp))] → va_S AA sG.heap H locs → ∀ (ls : Array Slot), lv_has ls 9 [(0, .ref dd), (1, .int (nI li)), (2, .long w), (4, .ref aw), (5, .ref am), (6, .ref ap), (7, .int (nI (gai c r w li))), (8, .int (nI i))] → W pG l eG ({ frames := 3, cells := 0, slots := 0, locals := 73 } : Room) sG mG aG bG tG cG H locs 0 0 (MQ bG (MuQ D [(dd, .inl (Y.1, 4, .inl (dF (nI c) (nI r) (nI n) (nI pl)))), (aw, .inl (Y.1, 16, .inl wo)), (am, .inl (Y.1, 40, .inl ml)), (ap, .inl (Y.1, 40, .inl mp))] (fun uS : Nat → Int32 => some (.long (w ||| b1 li))) (fun uS : Nat → Int32 => [(dd, .inl (Y.1, 4, .inl (dF (nI c) (nI r) (nI (n + 1)) (nI (nxp (gai c r w li) pl))))), (aw, .inl (Y.1, 16, .inl uS)), (am, .inl (Y.1, 40, .inl (upd ml n (nI li)))), (ap, .inl (Y.1, 40, .inl (upd mp n (nI pl))))]) (fun uS : Nat → Int32 => ∀ b, b < 16 → uS b = mkO c r (w ||| b1 li) li wo (nI pl) b)) aG sG 0 0 AA) (F0 mG 11 ls []) := by
    intro n11
    induction n11 with
    | zero =>
      intro i f hi hf9 hmeas11 H locs hP hD hS ls hl
      exact absurd hmeas11 (Nat.not_lt_zero _)
    | succ n11 ih11 =>
      intro i f hi hf9 hmeas11 H locs hP hD hS ls hl
      refine lv_iload (pc := 11) hx hb dL_draw_11 (lv_at hl 7 rfl) ?_
      refine lv_aload_n (pc := 13) hx hb dL_draw_13 rfl (lv_at hl 0 rfl) ?_
      refine lv_iconst (pc := 14) (v := nI 0) hx hb dL_draw_14 rfl ?_
      refine va_iald (pc := 15) hx hb hK.1 hP 0 0 rfl rfl (vp_in_nI (by omega) (by decide)) dL_draw_15 ?_
      refine top_i (show (dF (nI c) (nI r) (nI n) (nI pl)) (nI 0).toNatClampNeg = nI c from by rw [nI_clamp (by decide)]; rfl) ?_
      refine lv_aload_n (pc := 16) hx hb dL_draw_16 rfl (lv_at hl 0 rfl) ?_
      refine lv_iconst (pc := 17) (v := nI 1) hx hb dL_draw_17 rfl ?_
      refine va_iald (pc := 18) hx hb hK.1 hP 0 0 rfl rfl (vp_in_nI (by omega) (by decide)) dL_draw_18 ?_
      refine top_i (show (dF (nI c) (nI r) (nI n) (nI pl)) (nI 1).toNatClampNeg = nI r from by rw [nI_clamp (by decide)]; rfl) ?_
      refine n_imul (pc := 19) hx hb dL_draw_19 ?_
      refine n_icmp_ge (pc := 20) (tgt := 62) hx hb (by omega) (by omega) dL_draw_20 (by decide) (fun c20 => ?_) (fun c20 => ?_)
      · refine lv_aload (pc := 62) hx hb dL_draw_62 (lv_at hl 4 rfl) ?_
        refine lv_aload_n (pc := 64) hx hb dL_draw_64 rfl (lv_at hl 0 rfl) ?_
        refine lv_iconst (pc := 65) (v := nI 2) hx hb dL_draw_65 rfl ?_
        refine va_iald (pc := 66) hx hb hK.1 hP 0 0 rfl rfl (vp_in_nI (by omega) (by decide)) dL_draw_66 ?_
        refine top_i (show (dF (nI c) (nI r) (nI n) (nI pl)) (nI 2).toNatClampNeg = nI n from by rw [nI_clamp (by decide)]; rfl) ?_
        refine lv_iload_n (pc := 67) hx hb dL_draw_67 rfl (lv_at hl 1 rfl) ?_
        refine va_iast (pc := 68) hx hb hK.1 hP hD hS 2 0 rfl rfl (vp_in_nI (by omega) (by decide)) dL_draw_68 (fun H locs hP hD hS => ?_)
        rw [nI_clamp (by omega)] at hP hD
        have hP : va_P D vwCl [(dd, .inl (Y.1, 4, .inl (dF (nI c) (nI r) (nI n) (nI pl)))), (aw, .inl (Y.1, 16, .inl f)), (am, .inl (Y.1, 40, .inl (upd ml n (nI li)))), (ap, .inl (Y.1, 40, .inl mp))] H := hP
        have hD : va_D AA [(dd, .inl (Y.1, 4, .inl (dF (nI c) (nI r) (nI n) (nI pl)))), (aw, .inl (Y.1, 16, .inl f)), (am, .inl (Y.1, 40, .inl (upd ml n (nI li)))), (ap, .inl (Y.1, 40, .inl mp))] := hD
        refine lv_aload (pc := 69) hx hb dL_draw_69 (lv_at hl 5 rfl) ?_
        refine lv_aload_n (pc := 71) hx hb dL_draw_71 rfl (lv_at hl 0 rfl) ?_
        refine lv_iconst (pc := 72) (v := nI 2) hx hb dL_draw_72 rfl ?_
        refine va_iald (pc := 73) hx hb hK.1 hP 0 0 rfl rfl (vp_in_nI (by omega) (by decide)) dL_draw_73 ?_
        refine top_i (show (dF (nI c) (nI r) (nI n) (nI pl)) (nI 2).toNatClampNeg = nI n from by rw [nI_clamp (by decide)]; rfl) ?_
        refine lv_aload_n (pc := 74) hx hb dL_draw_74 rfl (lv_at hl 0 rfl) ?_
        refine lv_iconst (pc := 75) (v := nI 3) hx hb dL_draw_75 rfl ?_
        refine va_iald (pc := 76) hx hb hK.1 hP 0 0 rfl rfl (vp_in_nI (by omega) (by decide)) dL_draw_76 ?_
        refine top_i (show (dF (nI c) (nI r) (nI n) (nI pl)) (nI 3).toNatClampNeg = nI pl from by rw [nI_clamp (by decide)]; rfl) ?_
        refine va_iast (pc := 77) hx hb hK.1 hP hD hS 3 0 rfl rfl (vp_in_nI (by omega) (by decide)) dL_draw_77 (fun H locs hP hD hS => ?_)
        rw [nI_clamp (by omega)] at hP hD
        have hP : va_P D vwCl [(dd, .inl (Y.1, 4, .inl (dF (nI c) (nI r) (nI n) (nI pl)))), (aw, .inl (Y.1, 16, .inl f)), (am, .inl (Y.1, 40, .inl (upd ml n (nI li)))), (ap, .inl (Y.1, 40, .inl (upd mp n (nI pl))))] H := hP
        have hD : va_D AA [(dd, .inl (Y.1, 4, .inl (dF (nI c) (nI r) (nI n) (nI pl)))), (aw, .inl (Y.1, 16, .inl f)), (am, .inl (Y.1, 40, .inl (upd ml n (nI li)))), (ap, .inl (Y.1, 40, .inl (upd mp n (nI pl))))] := hD
        refine lv_aload_n (pc := 78) hx hb dL_draw_78 rfl (lv_at hl 0 rfl) ?_
        refine lv_iconst (pc := 79) (v := nI 2) hx hb dL_draw_79 rfl ?_
        refine lv_dup2_11 (pc := 80) hx hb dL_draw_80 rfl rfl ?_
        refine va_iald (pc := 81) hx hb hK.1 hP 0 0 rfl rfl (vp_in_nI (by omega) (by decide)) dL_draw_81 ?_
        refine top_i (show (dF (nI c) (nI r) (nI n) (nI pl)) (nI 2).toNatClampNeg = nI n from by rw [nI_clamp (by decide)]; rfl) ?_
        refine lv_iconst (pc := 82) (v := nI 1) hx hb dL_draw_82 rfl ?_
        refine n_iadd (pc := 83) hx hb dL_draw_83 ?_
        refine va_iast (pc := 84) hx hb hK.1 hP hD hS 0 0 rfl rfl (vp_in_nI (by omega) (by decide)) dL_draw_84 (fun H locs hP hD hS => ?_)
        rw [nI_clamp (by omega)] at hP hD
        rw [dF_u2] at hP hD
        have hP : va_P D vwCl [(dd, .inl (Y.1, 4, .inl (dF (nI c) (nI r) (nI (n + 1)) (nI pl)))), (aw, .inl (Y.1, 16, .inl f)), (am, .inl (Y.1, 40, .inl (upd ml n (nI li)))), (ap, .inl (Y.1, 40, .inl (upd mp n (nI pl))))] H := hP
        have hD : va_D AA [(dd, .inl (Y.1, 4, .inl (dF (nI c) (nI r) (nI (n + 1)) (nI pl)))), (aw, .inl (Y.1, 16, .inl f)), (am, .inl (Y.1, 40, .inl (upd ml n (nI li)))), (ap, .inl (Y.1, 40, .inl (upd mp n (nI pl))))] := hD
        refine lv_iload (pc := 85) hx hb dL_draw_85 (lv_at hl 6 rfl) ?_
        refine n_if_ne (pc := 87) (tgt := 98) hx hb (by have := gai_le c r w li; omega) dL_draw_87 (by decide) (fun c87 => ?_) (fun c87 => ?_)
        · refine lv_lload_n (pc := 98) hx hb dL_draw_98 rfl (lv_at hl 2 rfl) ?_
          refine lv_lconst (pc := 99) (v := 1) hx hb dL_draw_99 (by decide) ?_
          refine lv_iload_n (pc := 100) hx hb dL_draw_100 rfl (lv_at hl 1 rfl) ?_
          refine lv_lshl (pc := 101) (v := b1 li) hx hb dL_draw_101 (b1_shl li (by omega)) ?_
          refine lv_lor (pc := 102) hx hb dL_draw_102 ?_
          subst hAA
          exact mu_lret hx hb hr hlocks hP hS (f) (rfl) (fun b hb => by rw [hf9 b hb]; exact dr_end hC hl0 (by omega)) (by unfold nxp; rw [if_neg (by omega)]) dL_draw_103
        refine lv_aload_n (pc := 90) hx hb dL_draw_90 rfl (lv_at hl 0 rfl) ?_
        refine lv_iconst (pc := 91) (v := nI 3) hx hb dL_draw_91 rfl ?_
        refine lv_iconst (pc := 92) (v := nI 1) hx hb dL_draw_92 rfl ?_
        refine lv_aload_n (pc := 93) hx hb dL_draw_93 rfl (lv_at hl 0 rfl) ?_
        refine lv_iconst (pc := 94) (v := nI 3) hx hb dL_draw_94 rfl ?_
        refine va_iald (pc := 95) hx hb hK.1 hP 0 0 rfl rfl (vp_in_nI (by omega) (by decide)) dL_draw_95 ?_
        refine top_i (show (dF (nI c) (nI r) (nI (n + 1)) (nI pl)) (nI 3).toNatClampNeg = nI pl from by rw [nI_clamp (by decide)]; rfl) ?_
        refine n_isub (pc := 96) hx hb (hpl1) dL_draw_96 ?_
        refine va_iast (pc := 97) hx hb hK.1 hP hD hS 0 0 rfl rfl (vp_in_nI (by omega) (by decide)) dL_draw_97 (fun H locs hP hD hS => ?_)
        rw [nI_clamp (by omega)] at hP hD
        rw [dF_u3] at hP hD
        have hP : va_P D vwCl [(dd, .inl (Y.1, 4, .inl (dF (nI c) (nI r) (nI (n + 1)) (nI (1 - pl))))), (aw, .inl (Y.1, 16, .inl f)), (am, .inl (Y.1, 40, .inl (upd ml n (nI li)))), (ap, .inl (Y.1, 40, .inl (upd mp n (nI pl))))] H := hP
        have hD : va_D AA [(dd, .inl (Y.1, 4, .inl (dF (nI c) (nI r) (nI (n + 1)) (nI (1 - pl))))), (aw, .inl (Y.1, 16, .inl f)), (am, .inl (Y.1, 40, .inl (upd ml n (nI li)))), (ap, .inl (Y.1, 40, .inl (upd mp n (nI pl))))] := hD
        refine lv_lload_n (pc := 98) hx hb dL_draw_98 rfl (lv_at hl 2 rfl) ?_
        refine lv_lconst (pc := 99) (v := 1) hx hb dL_draw_99 (by decide) ?_
        refine lv_iload_n (pc := 100) hx hb dL_draw_100 rfl (lv_at hl 1 rfl) ?_
        refine lv_lshl (pc := 101) (v := b1 li) hx hb dL_draw_101 (b1_shl li (by omega)) ?_
        refine lv_lor (pc := 102) hx hb dL_draw_102 ?_
        subst hAA
        exact mu_lret hx hb hr hlocks hP hS (f) (rfl) (fun b hb => by rw [hf9 b hb]; exact dr_end hC hl0 (by omega)) (by unfold nxp; rw [if_pos c87]) dL_draw_103
      refine lv_aload_n (pc := 23) hx hb dL_draw_23 rfl (lv_at hl 0 rfl) ?_
      refine lv_iload (pc := 24) hx hb dL_draw_24 (lv_at hl 7 rfl) ?_
      refine lv_lload_n (pc := 26) hx hb dL_draw_26 rfl (lv_at hl 2 rfl) ?_
      refine ro_go (pc := 27) (va_runS (As := [.ref dd, .int (nI i), .long w]) (rest := []) ⟨hx, hb, hml, hown, hts⟩ (c_L_open l D Y dd c r (nI n) (nI pl) i w (hC) (by first | assumption | omega)) (va_cwS 3 hts gL_draw_L_open rfl rfl rfl hdL_open ⟨Nat.le_of_ble_eq_true rfl, Nat.le_of_ble_eq_true rfl⟩) (ro_pS hK (hP.sub [0] rfl)) rfl rfl hl.1 rfl (lv_room (Nat.le_of_ble_eq_true rfl)) dL_draw_27 ⟨Nat.le_of_ble_eq_true rfl, Nat.le_of_ble_eq_true rfl⟩) ?_
      refine lv_iconst (pc := 30) (v := nI 1) hx hb dL_draw_30 rfl ?_
      refine n_icmp_ne (pc := 31) (tgt := 56) hx hb (by have := opn_le c r w i; omega) (by decide) dL_draw_31 (by decide) (fun c31 => ?_) (fun c31 => ?_)
      · refine lv_iinc (pc := 56) (v := nI (i + 1)) (lv' := [(8, .int (nI (i + 1))), (0, .ref dd), (1, .int (nI li)), (2, .long w), (4, .ref aw), (5, .ref am), (6, .ref ap), (7, .int (nI (gai c r w li)))]) hx hb dL_draw_56 hl (k := 7) rfl (n_inc i 1) (by decide) rfl (fun ls hl => ?_)
        refine lv_goto (pc := 59) (tgt := 11) hx hb dL_draw_59 (by decide) ?_
        exact ih11 (i + 1) f (by first | assumption | omega) (dr_no hC hl0 ht0 c20 hf9 (Or.inl c31)) (by omega) _ _ hP hD hS _ (lv_sub hl [1, 2, 3, 4, 5, 6, 7, 0] rfl)
      refine lv_aload_n (pc := 34) hx hb dL_draw_34 rfl (lv_at hl 0 rfl) ?_
      refine lv_iload (pc := 35) hx hb dL_draw_35 (lv_at hl 7 rfl) ?_
      refine lv_lload_n (pc := 37) hx hb dL_draw_37 rfl (lv_at hl 2 rfl) ?_
      refine lv_lconst (pc := 38) (v := 1) hx hb dL_draw_38 (by decide) ?_
      refine lv_iload_n (pc := 39) hx hb dL_draw_39 rfl (lv_at hl 1 rfl) ?_
      refine lv_lshl (pc := 40) (v := b1 li) hx hb dL_draw_40 (b1_shl li (by omega)) ?_
      refine lv_lor (pc := 41) hx hb dL_draw_41 ?_
      refine ro_go (pc := 42) (va_runS (As := [.ref dd, .int (nI i), .long (w ||| (b1 li))]) (rest := []) ⟨hx, hb, hml, hown, hts⟩ (c_L_open l D Y dd c r (nI n) (nI pl) i (w ||| (b1 li)) (hC) (by first | assumption | omega)) (va_cwS 3 hts gL_draw_L_open rfl rfl rfl hdL_open ⟨Nat.le_of_ble_eq_true rfl, Nat.le_of_ble_eq_true rfl⟩) (ro_pS hK (hP.sub [0] rfl)) rfl rfl hl.1 rfl (lv_room (Nat.le_of_ble_eq_true rfl)) dL_draw_42 ⟨Nat.le_of_ble_eq_true rfl, Nat.le_of_ble_eq_true rfl⟩) ?_
      refine n_if_ne (pc := 45) (tgt := 56) hx hb (by have := opn_le c r (w ||| b1 li) i; omega) dL_draw_45 (by decide) (fun c45 => ?_) (fun c45 => ?_)
      · refine lv_iinc (pc := 56) (v := nI (i + 1)) (lv' := [(8, .int (nI (i + 1))), (0, .ref dd), (1, .int (nI li)), (2, .long w), (4, .ref aw), (5, .ref am), (6, .ref ap), (7, .int (nI (gai c r w li)))]) hx hb dL_draw_56 hl (k := 7) rfl (n_inc i 1) (by decide) rfl (fun ls hl => ?_)
        refine lv_goto (pc := 59) (tgt := 11) hx hb dL_draw_59 (by decide) ?_
        exact ih11 (i + 1) f (by first | assumption | omega) (dr_no hC hl0 ht0 c20 hf9 (Or.inr (by omega))) (by omega) _ _ hP hD hS _ (lv_sub hl [1, 2, 3, 4, 5, 6, 7, 0] rfl)
      refine lv_aload (pc := 48) hx hb dL_draw_48 (lv_at hl 3 rfl) ?_
      refine lv_iload (pc := 50) hx hb dL_draw_50 (lv_at hl 7 rfl) ?_
      refine lv_aload_n (pc := 52) hx hb dL_draw_52 rfl (lv_at hl 0 rfl) ?_
      refine lv_iconst (pc := 53) (v := nI 3) hx hb dL_draw_53 rfl ?_
      refine va_iald (pc := 54) hx hb hK.1 hP 0 0 rfl rfl (vp_in_nI (by omega) (by decide)) dL_draw_54 ?_
      refine top_i (show (dF (nI c) (nI r) (nI n) (nI pl)) (nI 3).toNatClampNeg = nI pl from by rw [nI_clamp (by decide)]; rfl) ?_
      refine va_iast (pc := 55) hx hb hK.1 hP hD hS 1 0 rfl rfl (vp_in_nI (by omega) (by decide)) dL_draw_55 (fun H locs hP hD hS => ?_)
      rw [nI_clamp (by omega)] at hP hD
      have hP : va_P D vwCl [(dd, .inl (Y.1, 4, .inl (dF (nI c) (nI r) (nI n) (nI pl)))), (aw, .inl (Y.1, 16, .inl (upd f i (nI pl)))), (am, .inl (Y.1, 40, .inl ml)), (ap, .inl (Y.1, 40, .inl mp))] H := hP
      have hD : va_D AA [(dd, .inl (Y.1, 4, .inl (dF (nI c) (nI r) (nI n) (nI pl)))), (aw, .inl (Y.1, 16, .inl (upd f i (nI pl)))), (am, .inl (Y.1, 40, .inl ml)), (ap, .inl (Y.1, 40, .inl mp))] := hD
      refine lv_iinc (pc := 56) (v := nI (i + 1)) (lv' := [(8, .int (nI (i + 1))), (0, .ref dd), (1, .int (nI li)), (2, .long w), (4, .ref aw), (5, .ref am), (6, .ref ap), (7, .int (nI (gai c r w li)))]) hx hb dL_draw_56 hl (k := 7) rfl (n_inc i 1) (by decide) rfl (fun ls hl => ?_)
      refine lv_goto (pc := 59) (tgt := 11) hx hb dL_draw_59 (by decide) ?_
      exact ih11 (i + 1) (upd f i (nI pl)) (by first | assumption | omega) (dr_yes hC hl0 ht0 c20 hf9 c31 c45) (by omega) _ _ hP hD hS _ (lv_sub hl [1, 2, 3, 4, 5, 6, 7, 0] rfl)
  exact L11 ((c * r - 0) + 1) 0 wo (by first | assumption | omega) (fun b hb => by rw [if_neg (Nat.not_lt_zero _)]) (Nat.lt_succ_self _) _ _ hP hD hS _ (lv_sub hl [2, 3, 4, 5, 6, 7, 1, 0] rfl)
