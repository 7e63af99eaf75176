set_option maxHeartbeats 1200000 in
set_option maxRecDepth 100000 in
theorem c_L_turned (l : Launch) (D : va_G) (Y : vY) (dd : Nat) (c : Nat) (r : Nat) (dx : Int32) (dy : Int32) (li : Nat) (s : Nat) (hC : Cr c r) (hl0 : li < al c r) (hs8 : s < 8) : Ro l yL_turned wsL_turned ({ frames := 1, cells := 0, slots := 0, locals := 22 } : Room) [.ref dd, .int (nI li), .int (nI s)] D Y [(dd, .inl (Y.1, 4, .inl (dF (nI c) (nI r) dx dy)))] (some (.int (nI (mapM c r li s)))) := by
  refine ro_intro (by decide +kernel) rfl (Nat.le_of_ble_eq_true rfl) [(0, .ref dd), (1, .int (nI li)), (2, .int (nI s))] rfl ?_
  intro pG eG sG mG aG bG tG cG ls hx hb hr hml hts hown hlocks hK hP hl
  have hP : va_P D vwCl [(dd, .inl (Y.1, 4, .inl (dF (nI c) (nI r) dx dy)))] sG.heap := hP
  have hown : sG.vm.findClass RL = some mG.cls := hown
  have hl : lv_has ls 7 [(0, .ref dd), (1, .int (nI li)), (2, .int (nI s))] := hl
  obtain ⟨hq1, hq2, hq3, hq4, hq5, hq6, hq7, hq8, hq9, hq10, hq11⟩ := hC.q
  obtain ⟨hcr1, hcr2⟩ := col_row hC hl0
  refine lv_iload_n (pc := 0) hx hb dL_turned_0 rfl (lv_at hl 1 rfl) ?_
  refine lv_aload_n (pc := 1) hx hb dL_turned_1 rfl (lv_at hl 0 rfl) ?_
  refine lv_iconst (pc := 2) (v := nI 0) hx hb dL_turned_2 rfl ?_
  refine va_iald (pc := 3) hx hb hK.1 hP 0 0 rfl rfl (vp_in_nI (by omega) (by decide)) dL_turned_3 ?_
  refine top_i (show (dF (nI c) (nI r) dx dy) (nI 0).toNatClampNeg = nI c from by rw [nI_clamp (by decide)]; rfl) ?_
  refine lv_aload_n (pc := 4) hx hb dL_turned_4 rfl (lv_at hl 0 rfl) ?_
  refine lv_iconst (pc := 5) (v := nI 1) hx hb dL_turned_5 rfl ?_
  refine va_iald (pc := 6) hx hb hK.1 hP 0 0 rfl rfl (vp_in_nI (by omega) (by decide)) dL_turned_6 ?_
  refine top_i (show (dF (nI c) (nI r) dx dy) (nI 1).toNatClampNeg = nI r from by rw [nI_clamp (by decide)]; rfl) ?_
  refine lv_iconst (pc := 7) (v := nI 1) hx hb dL_turned_7 rfl ?_
  refine n_iadd (pc := 8) hx hb dL_turned_8 ?_
  refine n_imul (pc := 9) hx hb dL_turned_9 ?_
  refine top_i (show nI (c * (r + 1)) = nI (lvl c r) from by rw [lvl_L]) ?_
  refine n_icmp_lt (pc := 10) (tgt := 17) hx hb (by omega) (by omega) dL_turned_10 (by decide) (fun c10 => ?_) (fun c10 => ?_)
  · have hv : decide (lvl c r ≤ li) = false := decide_eq_false (by omega)
    have hcr := hcr2 (by omega)
    refine lv_iconst (pc := 17) (v := zb false) hx hb dL_turned_17 rfl ?_
    refine lv_istore_n (pc := 18) (lv' := [(3, .int (zb false)), (0, .ref dd), (1, .int (nI li)), (2, .int (nI s))]) hx hb dL_turned_18 rfl hl (by decide) rfl (fun ls hl => ?_)
    refine lv_iload_n (pc := 19) hx hb dL_turned_19 rfl (lv_at hl 0 rfl) ?_
    refine z_if_eq (pc := 20) (tgt := 37) hx hb dL_turned_20 (by decide) (fun c20 => ?_) (fun c20 => ?_)
    · refine lv_iload_n (pc := 37) hx hb dL_turned_37 rfl (lv_at hl 2 rfl) ?_
      refine lv_istore (pc := 38) (lv' := [(4, .int (nI li)), (3, .int (zb false)), (0, .ref dd), (1, .int (nI li)), (2, .int (nI s))]) hx hb dL_turned_38 hl (by decide) rfl (fun ls hl => ?_)
      refine lv_iload (pc := 40) hx hb dL_turned_40 (lv_at hl 0 rfl) ?_
      refine lv_iload_n (pc := 42) hx hb dL_turned_42 rfl (lv_at hl 1 rfl) ?_
      refine z_if_eq (pc := 43) (tgt := 54) hx hb dL_turned_43 (by decide) (fun c43 => ?_) (fun c43 => ?_)
      · refine lv_aload_n (pc := 54) hx hb dL_turned_54 rfl (lv_at hl 2 rfl) ?_
        refine lv_iconst (pc := 55) (v := nI 0) hx hb dL_turned_55 rfl ?_
        refine va_iald (pc := 56) hx hb hK.1 hP 0 0 rfl rfl (vp_in_nI (by omega) (by decide)) dL_turned_56 ?_
        refine top_i (show (dF (nI c) (nI r) dx dy) (nI 0).toNatClampNeg = nI c from by rw [nI_clamp (by decide)]; rfl) ?_
        refine n_irem (pc := 57) hx hb (by omega) (by omega) (by omega) dL_turned_57 ?_
        refine top_i (show nI (li % c) = nI (colM c r li) from by unfold colM; rw [if_neg (by omega)]) ?_
        refine lv_istore (pc := 58) (lv' := [(5, .int (nI (colM c r li))), (4, .int (nI li)), (3, .int (zb false)), (0, .ref dd), (1, .int (nI li)), (2, .int (nI s))]) hx hb dL_turned_58 hl (by decide) rfl (fun ls hl => ?_)
        refine lv_iload (pc := 60) hx hb dL_turned_60 (lv_at hl 1 rfl) ?_
        refine lv_iload_n (pc := 62) hx hb dL_turned_62 rfl (lv_at hl 2 rfl) ?_
        refine z_if_eq (pc := 63) (tgt := 74) hx hb dL_turned_63 (by decide) (fun c63 => ?_) (fun c63 => ?_)
        · refine lv_aload_n (pc := 74) hx hb dL_turned_74 rfl (lv_at hl 3 rfl) ?_
          refine lv_iconst (pc := 75) (v := nI 0) hx hb dL_turned_75 rfl ?_
          refine va_iald (pc := 76) hx hb hK.1 hP 0 0 rfl rfl (vp_in_nI (by omega) (by decide)) dL_turned_76 ?_
          refine top_i (show (dF (nI c) (nI r) dx dy) (nI 0).toNatClampNeg = nI c from by rw [nI_clamp (by decide)]; rfl) ?_
          refine n_idiv (pc := 77) hx hb (by omega) (by omega) (by omega) dL_turned_77 ?_
          refine top_i (show nI (li / c) = nI (rowM c r li) from by unfold rowM; rw [if_neg (by omega)]) ?_
          refine lv_istore (pc := 78) (lv' := [(6, .int (nI (rowM c r li))), (5, .int (nI (colM c r li))), (4, .int (nI li)), (3, .int (zb false)), (0, .ref dd), (1, .int (nI li)), (2, .int (nI s))]) hx hb dL_turned_78 hl (by decide) rfl (fun ls hl => ?_)
          refine lv_iload_n (pc := 80) hx hb dL_turned_80 rfl (lv_at hl 6 rfl) ?_
          refine lv_iconst (pc := 81) (v := nI 1) hx hb dL_turned_81 rfl ?_
          refine lv_iand (pc := 82) hx hb dL_turned_82 ?_
          refine lv_iconst (pc := 83) (v := nI 1) hx hb dL_turned_83 rfl ?_
          refine lv_icmp_ne (pc := 84) (tgt := 107) hx hb dL_turned_84 (by decide) (fun c84 => ?_) (fun c84 => ?_)
          · have t0 : s.testBit 0 = false := bfn (fun q => c84 ((tbit0 s hs8).mpr q))
            refine lv_iload_n (pc := 107) hx hb dL_turned_107 rfl (lv_at hl 6 rfl) ?_
            refine lv_iconst (pc := 108) (v := nI 2) hx hb dL_turned_108 rfl ?_
            refine lv_iand (pc := 109) hx hb dL_turned_109 ?_
            refine lv_iconst (pc := 110) (v := nI 2) hx hb dL_turned_110 rfl ?_
            refine lv_icmp_ne (pc := 111) (tgt := 134) hx hb dL_turned_111 (by decide) (fun c111 => ?_) (fun c111 => ?_)
            · have t1 : s.testBit 1 = false := bfn (fun q => c111 ((tbit1 s hs8).mpr q))
              refine lv_iload_n (pc := 134) hx hb dL_turned_134 rfl (lv_at hl 6 rfl) ?_
              refine lv_iconst (pc := 135) (v := nI 4) hx hb dL_turned_135 rfl ?_
              refine lv_iand (pc := 136) hx hb dL_turned_136 ?_
              refine lv_iconst (pc := 137) (v := nI 4) hx hb dL_turned_137 rfl ?_
              refine lv_icmp_ne (pc := 138) (tgt := 165) hx hb dL_turned_138 (by decide) (fun c138 => ?_) (fun c138 => ?_)
              · have t2 : s.testBit 2 = false := bfn (fun q => c138 ((tbit2 s hs8).mpr q))
                refine lv_iload_n (pc := 165) hx hb dL_turned_165 rfl (lv_at hl 3 rfl) ?_
                refine z_if_eq (pc := 166) (tgt := 180) hx hb dL_turned_166 (by decide) (fun c166 => ?_) (fun c166 => ?_)
                · refine lv_aload_n (pc := 180) hx hb dL_turned_180 rfl (lv_at hl 4 rfl) ?_
                  refine lv_iload (pc := 181) hx hb dL_turned_181 (lv_at hl 1 rfl) ?_
                  refine lv_iload (pc := 183) hx hb dL_turned_183 (lv_at hl 0 rfl) ?_
                  refine ro_go (pc := 185) (va_runS (As := [.ref dd, .int (nI (colM c r li)), .int (nI (rowM c r li))]) (rest := []) ⟨hx, hb, hml, hown, hts⟩ (c_L_flat l D Y dd c r dx dy (colM c r li) (rowM c r li) (hC)) (va_cwS 3 hts gL_turned_L_flat rfl rfl rfl hdL_flat ⟨Nat.le_of_ble_eq_true rfl, Nat.le_of_ble_eq_true rfl⟩) (ro_pS hK hP) rfl rfl hl.1 rfl (lv_room (Nat.le_of_ble_eq_true rfl)) dL_turned_185 ⟨Nat.le_of_ble_eq_true rfl, Nat.le_of_ble_eq_true rfl⟩) ?_
                  refine top_i (show nI (c * (rowM c r li) + (colM c r li)) = nI (numM c r false (colM c r li) (rowM c r li)) from by rw [nmF (r := r)]) ?_
                  exact ro_iret (v := nI (numM c r false (colM c r li) (rowM c r li))) hx hb hr hlocks (by unfold mapM imL imX imY; simp only [t0, t1, t2, hv, Bool.not_true, Bool.not_false, if_true, if_false, Bool.false_eq_true]) dL_turned_188
                · exact absurd c166 (by decide)
              have t2 : s.testBit 2 = true := (tbit2 s hs8).mp c138
              refine lv_iload_n (pc := 141) hx hb dL_turned_141 rfl (lv_at hl 3 rfl) ?_
              refine z_if_eq (pc := 142) (tgt := 156) hx hb dL_turned_142 (by decide) (fun c142 => ?_) (fun c142 => ?_)
              · refine lv_aload_n (pc := 156) hx hb dL_turned_156 rfl (lv_at hl 4 rfl) ?_
                refine lv_iload (pc := 157) hx hb dL_turned_157 (lv_at hl 0 rfl) ?_
                refine lv_iload (pc := 159) hx hb dL_turned_159 (lv_at hl 1 rfl) ?_
                refine ro_go (pc := 161) (va_runS (As := [.ref dd, .int (nI (rowM c r li)), .int (nI (colM c r li))]) (rest := []) ⟨hx, hb, hml, hown, hts⟩ (c_L_upright l D Y dd c r dx dy (rowM c r li) (colM c r li) (hC)) (va_cwS 3 hts gL_turned_L_upright rfl rfl rfl hdL_upright ⟨Nat.le_of_ble_eq_true rfl, Nat.le_of_ble_eq_true rfl⟩) (ro_pS hK hP) rfl rfl hl.1 rfl (lv_room (Nat.le_of_ble_eq_true rfl)) dL_turned_161 ⟨Nat.le_of_ble_eq_true rfl, Nat.le_of_ble_eq_true rfl⟩) ?_
                refine top_i (show nI (c * (r + 1) + (c + 1) * (colM c r li) + (rowM c r li)) = nI (numM c r true (rowM c r li) (colM c r li)) from by rw [nmT]) ?_
                exact ro_iret (v := nI (numM c r true (rowM c r li) (colM c r li))) hx hb hr hlocks (by unfold mapM imL imX imY; simp only [t0, t1, t2, hv, Bool.not_true, Bool.not_false, if_true, if_false, Bool.false_eq_true]) dL_turned_164
              · exact absurd c142 (by decide)
            have t1 : s.testBit 1 = true := (tbit1 s hs8).mp c111
            refine lv_iload_n (pc := 114) hx hb dL_turned_114 rfl (lv_at hl 3 rfl) ?_
            refine z_if_eq (pc := 115) (tgt := 126) hx hb dL_turned_115 (by decide) (fun c115 => ?_) (fun c115 => ?_)
            · refine lv_aload_n (pc := 126) hx hb dL_turned_126 rfl (lv_at hl 4 rfl) ?_
              refine lv_iconst (pc := 127) (v := nI 1) hx hb dL_turned_127 rfl ?_
              refine va_iald (pc := 128) hx hb hK.1 hP 0 0 rfl rfl (vp_in_nI (by omega) (by decide)) dL_turned_128 ?_
              refine top_i (show (dF (nI c) (nI r) dx dy) (nI 1).toNatClampNeg = nI r from by rw [nI_clamp (by decide)]; rfl) ?_
              refine lv_iload (pc := 129) hx hb dL_turned_129 (lv_at hl 0 rfl) ?_
              refine n_isub (pc := 131) hx hb (by omega) dL_turned_131 ?_
              refine lv_istore (pc := 132) (lv' := [(6, .int (nI (r - (rowM c r li)))), (5, .int (nI (colM c r li))), (4, .int (nI li)), (3, .int (zb false)), (0, .ref dd), (1, .int (nI li)), (2, .int (nI s))]) hx hb dL_turned_132 hl (by decide) rfl (fun ls hl => ?_)
              refine lv_iload_n (pc := 134) hx hb dL_turned_134 rfl (lv_at hl 6 rfl) ?_
              refine lv_iconst (pc := 135) (v := nI 4) hx hb dL_turned_135 rfl ?_
              refine lv_iand (pc := 136) hx hb dL_turned_136 ?_
              refine lv_iconst (pc := 137) (v := nI 4) hx hb dL_turned_137 rfl ?_
              refine lv_icmp_ne (pc := 138) (tgt := 165) hx hb dL_turned_138 (by decide) (fun c138 => ?_) (fun c138 => ?_)
              · have t2 : s.testBit 2 = false := bfn (fun q => c138 ((tbit2 s hs8).mpr q))
                refine lv_iload_n (pc := 165) hx hb dL_turned_165 rfl (lv_at hl 3 rfl) ?_
                refine z_if_eq (pc := 166) (tgt := 180) hx hb dL_turned_166 (by decide) (fun c166 => ?_) (fun c166 => ?_)
                · refine lv_aload_n (pc := 180) hx hb dL_turned_180 rfl (lv_at hl 4 rfl) ?_
                  refine lv_iload (pc := 181) hx hb dL_turned_181 (lv_at hl 1 rfl) ?_
                  refine lv_iload (pc := 183) hx hb dL_turned_183 (lv_at hl 0 rfl) ?_
                  refine ro_go (pc := 185) (va_runS (As := [.ref dd, .int (nI (colM c r li)), .int (nI (r - (rowM c r li)))]) (rest := []) ⟨hx, hb, hml, hown, hts⟩ (c_L_flat l D Y dd c r dx dy (colM c r li) (r - (rowM c r li)) (hC)) (va_cwS 3 hts gL_turned_L_flat rfl rfl rfl hdL_flat ⟨Nat.le_of_ble_eq_true rfl, Nat.le_of_ble_eq_true rfl⟩) (ro_pS hK hP) rfl rfl hl.1 rfl (lv_room (Nat.le_of_ble_eq_true rfl)) dL_turned_185 ⟨Nat.le_of_ble_eq_true rfl, Nat.le_of_ble_eq_true rfl⟩) ?_
                  refine top_i (show nI (c * (r - (rowM c r li)) + (colM c r li)) = nI (numM c r false (colM c r li) (r - (rowM c r li))) from by rw [nmF (r := r)]) ?_
                  exact ro_iret (v := nI (numM c r false (colM c r li) (r - (rowM c r li)))) hx hb hr hlocks (by unfold mapM imL imX imY; simp only [t0, t1, t2, hv, Bool.not_true, Bool.not_false, if_true, if_false, Bool.false_eq_true]) dL_turned_188
                · exact absurd c166 (by decide)
              have t2 : s.testBit 2 = true := (tbit2 s hs8).mp c138
              refine lv_iload_n (pc := 141) hx hb dL_turned_141 rfl (lv_at hl 3 rfl) ?_
              refine z_if_eq (pc := 142) (tgt := 156) hx hb dL_turned_142 (by decide) (fun c142 => ?_) (fun c142 => ?_)
              · refine lv_aload_n (pc := 156) hx hb dL_turned_156 rfl (lv_at hl 4 rfl) ?_
                refine lv_iload (pc := 157) hx hb dL_turned_157 (lv_at hl 0 rfl) ?_
                refine lv_iload (pc := 159) hx hb dL_turned_159 (lv_at hl 1 rfl) ?_
                refine ro_go (pc := 161) (va_runS (As := [.ref dd, .int (nI (r - (rowM c r li))), .int (nI (colM c r li))]) (rest := []) ⟨hx, hb, hml, hown, hts⟩ (c_L_upright l D Y dd c r dx dy (r - (rowM c r li)) (colM c r li) (hC)) (va_cwS 3 hts gL_turned_L_upright rfl rfl rfl hdL_upright ⟨Nat.le_of_ble_eq_true rfl, Nat.le_of_ble_eq_true rfl⟩) (ro_pS hK hP) rfl rfl hl.1 rfl (lv_room (Nat.le_of_ble_eq_true rfl)) dL_turned_161 ⟨Nat.le_of_ble_eq_true rfl, Nat.le_of_ble_eq_true rfl⟩) ?_
                refine top_i (show nI (c * (r + 1) + (c + 1) * (colM c r li) + (r - (rowM c r li))) = nI (numM c r true (r - (rowM c r li)) (colM c r li)) from by rw [nmT]) ?_
                exact ro_iret (v := nI (numM c r true (r - (rowM c r li)) (colM c r li))) hx hb hr hlocks (by unfold mapM imL imX imY; simp only [t0, t1, t2, hv, Bool.not_true, Bool.not_false, if_true, if_false, Bool.false_eq_true]) dL_turned_164
              · exact absurd c142 (by decide)
            · exact absurd c115 (by decide)
          have t0 : s.testBit 0 = true := (tbit0 s hs8).mp c84
          refine lv_iload_n (pc := 87) hx hb dL_turned_87 rfl (lv_at hl 3 rfl) ?_
          refine z_if_eq (pc := 88) (tgt := 97) hx hb dL_turned_88 (by decide) (fun c88 => ?_) (fun c88 => ?_)
          · refine lv_aload_n (pc := 97) hx hb dL_turned_97 rfl (lv_at hl 4 rfl) ?_
            refine lv_iconst (pc := 98) (v := nI 0) hx hb dL_turned_98 rfl ?_
            refine va_iald (pc := 99) hx hb hK.1 hP 0 0 rfl rfl (vp_in_nI (by omega) (by decide)) dL_turned_99 ?_
            refine top_i (show (dF (nI c) (nI r) dx dy) (nI 0).toNatClampNeg = nI c from by rw [nI_clamp (by decide)]; rfl) ?_
            refine lv_iconst (pc := 100) (v := nI 1) hx hb dL_turned_100 rfl ?_
            refine n_isub (pc := 101) hx hb (by omega) dL_turned_101 ?_
            refine lv_iload (pc := 102) hx hb dL_turned_102 (lv_at hl 1 rfl) ?_
            refine n_isub (pc := 104) hx hb (by omega) dL_turned_104 ?_
            refine lv_istore (pc := 105) (lv' := [(5, .int (nI ((c - 1) - (colM c r li)))), (6, .int (nI (rowM c r li))), (4, .int (nI li)), (3, .int (zb false)), (0, .ref dd), (1, .int (nI li)), (2, .int (nI s))]) hx hb dL_turned_105 hl (by decide) rfl (fun ls hl => ?_)
            refine lv_iload_n (pc := 107) hx hb dL_turned_107 rfl (lv_at hl 6 rfl) ?_
            refine lv_iconst (pc := 108) (v := nI 2) hx hb dL_turned_108 rfl ?_
            refine lv_iand (pc := 109) hx hb dL_turned_109 ?_
            refine lv_iconst (pc := 110) (v := nI 2) hx hb dL_turned_110 rfl ?_
            refine lv_icmp_ne (pc := 111) (tgt := 134) hx hb dL_turned_111 (by decide) (fun c111 => ?_) (fun c111 => ?_)
            · have t1 : s.testBit 1 = false := bfn (fun q => c111 ((tbit1 s hs8).mpr q))
              refine lv_iload_n (pc := 134) hx hb dL_turned_134 rfl (lv_at hl 6 rfl) ?_
              refine lv_iconst (pc := 135) (v := nI 4) hx hb dL_turned_135 rfl ?_
              refine lv_iand (pc := 136) hx hb dL_turned_136 ?_
              refine lv_iconst (pc := 137) (v := nI 4) hx hb dL_turned_137 rfl ?_
              refine lv_icmp_ne (pc := 138) (tgt := 165) hx hb dL_turned_138 (by decide) (fun c138 => ?_) (fun c138 => ?_)
              · have t2 : s.testBit 2 = false := bfn (fun q => c138 ((tbit2 s hs8).mpr q))
                refine lv_iload_n (pc := 165) hx hb dL_turned_165 rfl (lv_at hl 3 rfl) ?_
                refine z_if_eq (pc := 166) (tgt := 180) hx hb dL_turned_166 (by decide) (fun c166 => ?_) (fun c166 => ?_)
                · refine lv_aload_n (pc := 180) hx hb dL_turned_180 rfl (lv_at hl 4 rfl) ?_
                  refine lv_iload (pc := 181) hx hb dL_turned_181 (lv_at hl 0 rfl) ?_
                  refine lv_iload (pc := 183) hx hb dL_turned_183 (lv_at hl 1 rfl) ?_
                  refine ro_go (pc := 185) (va_runS (As := [.ref dd, .int (nI ((c - 1) - (colM c r li))), .int (nI (rowM c r li))]) (rest := []) ⟨hx, hb, hml, hown, hts⟩ (c_L_flat l D Y dd c r dx dy ((c - 1) - (colM c r li)) (rowM c r li) (hC)) (va_cwS 3 hts gL_turned_L_flat rfl rfl rfl hdL_flat ⟨Nat.le_of_ble_eq_true rfl, Nat.le_of_ble_eq_true rfl⟩) (ro_pS hK hP) rfl rfl hl.1 rfl (lv_room (Nat.le_of_ble_eq_true rfl)) dL_turned_185 ⟨Nat.le_of_ble_eq_true rfl, Nat.le_of_ble_eq_true rfl⟩) ?_
                  refine top_i (show nI (c * (rowM c r li) + ((c - 1) - (colM c r li))) = nI (numM c r false ((c - 1) - (colM c r li)) (rowM c r li)) from by rw [nmF (r := r)]) ?_
                  exact ro_iret (v := nI (numM c r false ((c - 1) - (colM c r li)) (rowM c r li))) hx hb hr hlocks (by unfold mapM imL imX imY; simp only [t0, t1, t2, hv, Bool.not_true, Bool.not_false, if_true, if_false, Bool.false_eq_true]) dL_turned_188
                · exact absurd c166 (by decide)
              have t2 : s.testBit 2 = true := (tbit2 s hs8).mp c138
              refine lv_iload_n (pc := 141) hx hb dL_turned_141 rfl (lv_at hl 3 rfl) ?_
              refine z_if_eq (pc := 142) (tgt := 156) hx hb dL_turned_142 (by decide) (fun c142 => ?_) (fun c142 => ?_)
              · refine lv_aload_n (pc := 156) hx hb dL_turned_156 rfl (lv_at hl 4 rfl) ?_
                refine lv_iload (pc := 157) hx hb dL_turned_157 (lv_at hl 1 rfl) ?_
                refine lv_iload (pc := 159) hx hb dL_turned_159 (lv_at hl 0 rfl) ?_
                refine ro_go (pc := 161) (va_runS (As := [.ref dd, .int (nI (rowM c r li)), .int (nI ((c - 1) - (colM c r li)))]) (rest := []) ⟨hx, hb, hml, hown, hts⟩ (c_L_upright l D Y dd c r dx dy (rowM c r li) ((c - 1) - (colM c r li)) (hC)) (va_cwS 3 hts gL_turned_L_upright rfl rfl rfl hdL_upright ⟨Nat.le_of_ble_eq_true rfl, Nat.le_of_ble_eq_true rfl⟩) (ro_pS hK hP) rfl rfl hl.1 rfl (lv_room (Nat.le_of_ble_eq_true rfl)) dL_turned_161 ⟨Nat.le_of_ble_eq_true rfl, Nat.le_of_ble_eq_true rfl⟩) ?_
                refine top_i (show nI (c * (r + 1) + (c + 1) * ((c - 1) - (colM c r li)) + (rowM c r li)) = nI (numM c r true (rowM c r li) ((c - 1) - (colM c r li))) from by rw [nmT]) ?_
                exact ro_iret (v := nI (numM c r true (rowM c r li) ((c - 1) - (colM c r li)))) hx hb hr hlocks (by unfold mapM imL imX imY; simp only [t0, t1, t2, hv, Bool.not_true, Bool.not_false, if_true, if_false, Bool.false_eq_true]) dL_turned_164
              · exact absurd c142 (by decide)
            have t1 : s.testBit 1 = true := (tbit1 s hs8).mp c111
            refine lv_iload_n (pc := 114) hx hb dL_turned_114 rfl (lv_at hl 3 rfl) ?_
            refine z_if_eq (pc := 115) (tgt := 126) hx hb dL_turned_115 (by decide) (fun c115 => ?_) (fun c115 => ?_)
            · refine lv_aload_n (pc := 126) hx hb dL_turned_126 rfl (lv_at hl 4 rfl) ?_
              refine lv_iconst (pc := 127) (v := nI 1) hx hb dL_turned_127 rfl ?_
              refine va_iald (pc := 128) hx hb hK.1 hP 0 0 rfl rfl (vp_in_nI (by omega) (by decide)) dL_turned_128 ?_
              refine top_i (show (dF (nI c) (nI r) dx dy) (nI 1).toNatClampNeg = nI r from by rw [nI_clamp (by decide)]; rfl) ?_
              refine lv_iload (pc := 129) hx hb dL_turned_129 (lv_at hl 1 rfl) ?_
              refine n_isub (pc := 131) hx hb (by omega) dL_turned_131 ?_
              refine lv_istore (pc := 132) (lv' := [(6, .int (nI (r - (rowM c r li)))), (5, .int (nI ((c - 1) - (colM c r li)))), (4, .int (nI li)), (3, .int (zb false)), (0, .ref dd), (1, .int (nI li)), (2, .int (nI s))]) hx hb dL_turned_132 hl (by decide) rfl (fun ls hl => ?_)
              refine lv_iload_n (pc := 134) hx hb dL_turned_134 rfl (lv_at hl 6 rfl) ?_
              refine lv_iconst (pc := 135) (v := nI 4) hx hb dL_turned_135 rfl ?_
              refine lv_iand (pc := 136) hx hb dL_turned_136 ?_
              refine lv_iconst (pc := 137) (v := nI 4) hx hb dL_turned_137 rfl ?_
              refine lv_icmp_ne (pc := 138) (tgt := 165) hx hb dL_turned_138 (by decide) (fun c138 => ?_) (fun c138 => ?_)
              · have t2 : s.testBit 2 = false := bfn (fun q => c138 ((tbit2 s hs8).mpr q))
                refine lv_iload_n (pc := 165) hx hb dL_turned_165 rfl (lv_at hl 3 rfl) ?_
                refine z_if_eq (pc := 166) (tgt := 180) hx hb dL_turned_166 (by decide) (fun c166 => ?_) (fun c166 => ?_)
                · refine lv_aload_n (pc := 180) hx hb dL_turned_180 rfl (lv_at hl 4 rfl) ?_
                  refine lv_iload (pc := 181) hx hb dL_turned_181 (lv_at hl 1 rfl) ?_
                  refine lv_iload (pc := 183) hx hb dL_turned_183 (lv_at hl 0 rfl) ?_
                  refine ro_go (pc := 185) (va_runS (As := [.ref dd, .int (nI ((c - 1) - (colM c r li))), .int (nI (r - (rowM c r li)))]) (rest := []) ⟨hx, hb, hml, hown, hts⟩ (c_L_flat l D Y dd c r dx dy ((c - 1) - (colM c r li)) (r - (rowM c r li)) (hC)) (va_cwS 3 hts gL_turned_L_flat rfl rfl rfl hdL_flat ⟨Nat.le_of_ble_eq_true rfl, Nat.le_of_ble_eq_true rfl⟩) (ro_pS hK hP) rfl rfl hl.1 rfl (lv_room (Nat.le_of_ble_eq_true rfl)) dL_turned_185 ⟨Nat.le_of_ble_eq_true rfl, Nat.le_of_ble_eq_true rfl⟩) ?_
                  refine top_i (show nI (c * (r - (rowM c r li)) + ((c - 1) - (colM c r li))) = nI (numM c r false ((c - 1) - (colM c r li)) (r - (rowM c r li))) from by rw [nmF (r := r)]) ?_
                  exact ro_iret (v := nI (numM c r false ((c - 1) - (colM c r li)) (r - (rowM c r li)))) hx hb hr hlocks (by unfold mapM imL imX imY; simp only [t0, t1, t2, hv, Bool.not_true, Bool.not_false, if_true, if_false, Bool.false_eq_true]) dL_turned_188
                · exact absurd c166 (by decide)
              have t2 : s.testBit 2 = true := (tbit2 s hs8).mp c138
              refine lv_iload_n (pc := 141) hx hb dL_turned_141 rfl (lv_at hl 3 rfl) ?_
              refine z_if_eq (pc := 142) (tgt := 156) hx hb dL_turned_142 (by decide) (fun c142 => ?_) (fun c142 => ?_)
              · refine lv_aload_n (pc := 156) hx hb dL_turned_156 rfl (lv_at hl 4 rfl) ?_
                refine lv_iload (pc := 157) hx hb dL_turned_157 (lv_at hl 0 rfl) ?_
                refine lv_iload (pc := 159) hx hb dL_turned_159 (lv_at hl 1 rfl) ?_
                refine ro_go (pc := 161) (va_runS (As := [.ref dd, .int (nI (r - (rowM c r li))), .int (nI ((c - 1) - (colM c r li)))]) (rest := []) ⟨hx, hb, hml, hown, hts⟩ (c_L_upright l D Y dd c r dx dy (r - (rowM c r li)) ((c - 1) - (colM c r li)) (hC)) (va_cwS 3 hts gL_turned_L_upright rfl rfl rfl hdL_upright ⟨Nat.le_of_ble_eq_true rfl, Nat.le_of_ble_eq_true rfl⟩) (ro_pS hK hP) rfl rfl hl.1 rfl (lv_room (Nat.le_of_ble_eq_true rfl)) dL_turned_161 ⟨Nat.le_of_ble_eq_true rfl, Nat.le_of_ble_eq_true rfl⟩) ?_
                refine top_i (show nI (c * (r + 1) + (c + 1) * ((c - 1) - (colM c r li)) + (r - (rowM c r li))) = nI (numM c r true (r - (rowM c r li)) ((c - 1) - (colM c r li))) from by rw [nmT]) ?_
                exact ro_iret (v := nI (numM c r true (r - (rowM c r li)) ((c - 1) - (colM c r li)))) hx hb hr hlocks (by unfold mapM imL imX imY; simp only [t0, t1, t2, hv, Bool.not_true, Bool.not_false, if_true, if_false, Bool.false_eq_true]) dL_turned_164
              · exact absurd c142 (by decide)
            · exact absurd c115 (by decide)
          · exact absurd c88 (by decide)
        · exact absurd c63 (by decide)
      · exact absurd c43 (by decide)
    · exact absurd c20 (by decide)
  have hv : decide (lvl c r ≤ li) = true := decide_eq_true c10
  have hcr := hcr1 c10
  refine lv_iconst (pc := 13) (v := zb true) hx hb dL_turned_13 rfl ?_
  refine lv_goto (pc := 14) (tgt := 18) hx hb dL_turned_14 (by decide) ?_
  refine lv_istore_n (pc := 18) (lv' := [(3, .int (zb true)), (0, .ref dd), (1, .int (nI li)), (2, .int (nI s))]) hx hb dL_turned_18 rfl hl (by decide) rfl (fun ls hl => ?_)
  refine lv_iload_n (pc := 19) hx hb dL_turned_19 rfl (lv_at hl 0 rfl) ?_
  refine z_if_eq (pc := 20) (tgt := 37) hx hb dL_turned_20 (by decide) (fun c20 => ?_) (fun c20 => ?_)
  · exact absurd c20 (by decide)
  refine lv_iload_n (pc := 23) hx hb dL_turned_23 rfl (lv_at hl 2 rfl) ?_
  refine lv_aload_n (pc := 24) hx hb dL_turned_24 rfl (lv_at hl 1 rfl) ?_
  refine lv_iconst (pc := 25) (v := nI 0) hx hb dL_turned_25 rfl ?_
  refine va_iald (pc := 26) hx hb hK.1 hP 0 0 rfl rfl (vp_in_nI (by omega) (by decide)) dL_turned_26 ?_
  refine top_i (show (dF (nI c) (nI r) dx dy) (nI 0).toNatClampNeg = nI c from by rw [nI_clamp (by decide)]; rfl) ?_
  refine lv_aload_n (pc := 27) hx hb dL_turned_27 rfl (lv_at hl 1 rfl) ?_
  refine lv_iconst (pc := 28) (v := nI 1) hx hb dL_turned_28 rfl ?_
  refine va_iald (pc := 29) hx hb hK.1 hP 0 0 rfl rfl (vp_in_nI (by omega) (by decide)) dL_turned_29 ?_
  refine top_i (show (dF (nI c) (nI r) dx dy) (nI 1).toNatClampNeg = nI r from by rw [nI_clamp (by decide)]; rfl) ?_
  refine lv_iconst (pc := 30) (v := nI 1) hx hb dL_turned_30 rfl ?_
  refine n_iadd (pc := 31) hx hb dL_turned_31 ?_
  refine n_imul (pc := 32) hx hb dL_turned_32 ?_
  refine top_i (show nI (c * (r + 1)) = nI (lvl c r) from by rw [lvl_L]) ?_
  refine n_isub (pc := 33) hx hb (by omega) dL_turned_33 ?_
  refine lv_goto (pc := 34) (tgt := 38) hx hb dL_turned_34 (by decide) ?_
  refine lv_istore (pc := 38) (lv' := [(4, .int (nI (li - (lvl c r)))), (3, .int (zb true)), (0, .ref dd), (1, .int (nI li)), (2, .int (nI s))]) hx hb dL_turned_38 hl (by decide) rfl (fun ls hl => ?_)
  refine lv_iload (pc := 40) hx hb dL_turned_40 (lv_at hl 0 rfl) ?_
  refine lv_iload_n (pc := 42) hx hb dL_turned_42 rfl (lv_at hl 1 rfl) ?_
  refine z_if_eq (pc := 43) (tgt := 54) hx hb dL_turned_43 (by decide) (fun c43 => ?_) (fun c43 => ?_)
  · exact absurd c43 (by decide)
  refine lv_aload_n (pc := 46) hx hb dL_turned_46 rfl (lv_at hl 2 rfl) ?_
  refine lv_iconst (pc := 47) (v := nI 0) hx hb dL_turned_47 rfl ?_
  refine va_iald (pc := 48) hx hb hK.1 hP 0 0 rfl rfl (vp_in_nI (by omega) (by decide)) dL_turned_48 ?_
  refine top_i (show (dF (nI c) (nI r) dx dy) (nI 0).toNatClampNeg = nI c from by rw [nI_clamp (by decide)]; rfl) ?_
  refine lv_iconst (pc := 49) (v := nI 1) hx hb dL_turned_49 rfl ?_
  refine n_iadd (pc := 50) hx hb dL_turned_50 ?_
  refine lv_goto (pc := 51) (tgt := 57) hx hb dL_turned_51 (by decide) ?_
  refine n_irem (pc := 57) hx hb (by omega) (by omega) (by omega) dL_turned_57 ?_
  refine top_i (show nI ((li - (lvl c r)) % (c + 1)) = nI (colM c r li) from by unfold colM; rw [if_pos c10]) ?_
  refine lv_istore (pc := 58) (lv' := [(5, .int (nI (colM c r li))), (4, .int (nI (li - (lvl c r)))), (3, .int (zb true)), (0, .ref dd), (1, .int (nI li)), (2, .int (nI s))]) hx hb dL_turned_58 hl (by decide) rfl (fun ls hl => ?_)
  refine lv_iload (pc := 60) hx hb dL_turned_60 (lv_at hl 1 rfl) ?_
  refine lv_iload_n (pc := 62) hx hb dL_turned_62 rfl (lv_at hl 2 rfl) ?_
  refine z_if_eq (pc := 63) (tgt := 74) hx hb dL_turned_63 (by decide) (fun c63 => ?_) (fun c63 => ?_)
  · exact absurd c63 (by decide)
  refine lv_aload_n (pc := 66) hx hb dL_turned_66 rfl (lv_at hl 3 rfl) ?_
  refine lv_iconst (pc := 67) (v := nI 0) hx hb dL_turned_67 rfl ?_
  refine va_iald (pc := 68) hx hb hK.1 hP 0 0 rfl rfl (vp_in_nI (by omega) (by decide)) dL_turned_68 ?_
  refine top_i (show (dF (nI c) (nI r) dx dy) (nI 0).toNatClampNeg = nI c from by rw [nI_clamp (by decide)]; rfl) ?_
  refine lv_iconst (pc := 69) (v := nI 1) hx hb dL_turned_69 rfl ?_
  refine n_iadd (pc := 70) hx hb dL_turned_70 ?_
  refine lv_goto (pc := 71) (tgt := 77) hx hb dL_turned_71 (by decide) ?_
  refine n_idiv (pc := 77) hx hb (by omega) (by omega) (by omega) dL_turned_77 ?_
  refine top_i (show nI ((li - (lvl c r)) / (c + 1)) = nI (rowM c r li) from by unfold rowM; rw [if_pos c10]) ?_
  refine lv_istore (pc := 78) (lv' := [(6, .int (nI (rowM c r li))), (5, .int (nI (colM c r li))), (4, .int (nI (li - (lvl c r)))), (3, .int (zb true)), (0, .ref dd), (1, .int (nI li)), (2, .int (nI s))]) hx hb dL_turned_78 hl (by decide) rfl (fun ls hl => ?_)
  refine lv_iload_n (pc := 80) hx hb dL_turned_80 rfl (lv_at hl 6 rfl) ?_
  refine lv_iconst (pc := 81) (v := nI 1) hx hb dL_turned_81 rfl ?_
  refine lv_iand (pc := 82) hx hb dL_turned_82 ?_
  refine lv_iconst (pc := 83) (v := nI 1) hx hb dL_turned_83 rfl ?_
  refine lv_icmp_ne (pc := 84) (tgt := 107) hx hb dL_turned_84 (by decide) (fun c84 => ?_) (fun c84 => ?_)
  · have t0 : s.testBit 0 = false := bfn (fun q => c84 ((tbit0 s hs8).mpr q))
    refine lv_iload_n (pc := 107) hx hb dL_turned_107 rfl (lv_at hl 6 rfl) ?_
    refine lv_iconst (pc := 108) (v := nI 2) hx hb dL_turned_108 rfl ?_
    refine lv_iand (pc := 109) hx hb dL_turned_109 ?_
    refine lv_iconst (pc := 110) (v := nI 2) hx hb dL_turned_110 rfl ?_
    refine lv_icmp_ne (pc := 111) (tgt := 134) hx hb dL_turned_111 (by decide) (fun c111 => ?_) (fun c111 => ?_)
    · have t1 : s.testBit 1 = false := bfn (fun q => c111 ((tbit1 s hs8).mpr q))
      refine lv_iload_n (pc := 134) hx hb dL_turned_134 rfl (lv_at hl 6 rfl) ?_
      refine lv_iconst (pc := 135) (v := nI 4) hx hb dL_turned_135 rfl ?_
      refine lv_iand (pc := 136) hx hb dL_turned_136 ?_
      refine lv_iconst (pc := 137) (v := nI 4) hx hb dL_turned_137 rfl ?_
      refine lv_icmp_ne (pc := 138) (tgt := 165) hx hb dL_turned_138 (by decide) (fun c138 => ?_) (fun c138 => ?_)
      · have t2 : s.testBit 2 = false := bfn (fun q => c138 ((tbit2 s hs8).mpr q))
        refine lv_iload_n (pc := 165) hx hb dL_turned_165 rfl (lv_at hl 3 rfl) ?_
        refine z_if_eq (pc := 166) (tgt := 180) hx hb dL_turned_166 (by decide) (fun c166 => ?_) (fun c166 => ?_)
        · exact absurd c166 (by decide)
        refine lv_aload_n (pc := 169) hx hb dL_turned_169 rfl (lv_at hl 4 rfl) ?_
        refine lv_iload (pc := 170) hx hb dL_turned_170 (lv_at hl 1 rfl) ?_
        refine lv_iload (pc := 172) hx hb dL_turned_172 (lv_at hl 0 rfl) ?_
        refine ro_go (pc := 174) (va_runS (As := [.ref dd, .int (nI (colM c r li)), .int (nI (rowM c r li))]) (rest := []) ⟨hx, hb, hml, hown, hts⟩ (c_L_upright l D Y dd c r dx dy (colM c r li) (rowM c r li) (hC)) (va_cwS 3 hts gL_turned_L_upright rfl rfl rfl hdL_upright ⟨Nat.le_of_ble_eq_true rfl, Nat.le_of_ble_eq_true rfl⟩) (ro_pS hK hP) rfl rfl hl.1 rfl (lv_room (Nat.le_of_ble_eq_true rfl)) dL_turned_174 ⟨Nat.le_of_ble_eq_true rfl, Nat.le_of_ble_eq_true rfl⟩) ?_
        refine top_i (show nI (c * (r + 1) + (c + 1) * (rowM c r li) + (colM c r li)) = nI (numM c r true (colM c r li) (rowM c r li)) from by rw [nmT]) ?_
        refine lv_goto (pc := 177) (tgt := 188) hx hb dL_turned_177 (by decide) ?_
        exact ro_iret (v := nI (numM c r true (colM c r li) (rowM c r li))) hx hb hr hlocks (by unfold mapM imL imX imY; simp only [t0, t1, t2, hv, Bool.not_true, Bool.not_false, if_true, if_false, Bool.false_eq_true]) dL_turned_188
      have t2 : s.testBit 2 = true := (tbit2 s hs8).mp c138
      refine lv_iload_n (pc := 141) hx hb dL_turned_141 rfl (lv_at hl 3 rfl) ?_
      refine z_if_eq (pc := 142) (tgt := 156) hx hb dL_turned_142 (by decide) (fun c142 => ?_) (fun c142 => ?_)
      · exact absurd c142 (by decide)
      refine lv_aload_n (pc := 145) hx hb dL_turned_145 rfl (lv_at hl 4 rfl) ?_
      refine lv_iload (pc := 146) hx hb dL_turned_146 (lv_at hl 0 rfl) ?_
      refine lv_iload (pc := 148) hx hb dL_turned_148 (lv_at hl 1 rfl) ?_
      refine ro_go (pc := 150) (va_runS (As := [.ref dd, .int (nI (rowM c r li)), .int (nI (colM c r li))]) (rest := []) ⟨hx, hb, hml, hown, hts⟩ (c_L_flat l D Y dd c r dx dy (rowM c r li) (colM c r li) (hC)) (va_cwS 3 hts gL_turned_L_flat rfl rfl rfl hdL_flat ⟨Nat.le_of_ble_eq_true rfl, Nat.le_of_ble_eq_true rfl⟩) (ro_pS hK hP) rfl rfl hl.1 rfl (lv_room (Nat.le_of_ble_eq_true rfl)) dL_turned_150 ⟨Nat.le_of_ble_eq_true rfl, Nat.le_of_ble_eq_true rfl⟩) ?_
      refine top_i (show nI (c * (colM c r li) + (rowM c r li)) = nI (numM c r false (rowM c r li) (colM c r li)) from by rw [nmF (r := r)]) ?_
      refine lv_goto (pc := 153) (tgt := 164) hx hb dL_turned_153 (by decide) ?_
      exact ro_iret (v := nI (numM c r false (rowM c r li) (colM c r li))) hx hb hr hlocks (by unfold mapM imL imX imY; simp only [t0, t1, t2, hv, Bool.not_true, Bool.not_false, if_true, if_false, Bool.false_eq_true]) dL_turned_164
    have t1 : s.testBit 1 = true := (tbit1 s hs8).mp c111
    refine lv_iload_n (pc := 114) hx hb dL_turned_114 rfl (lv_at hl 3 rfl) ?_
    refine z_if_eq (pc := 115) (tgt := 126) hx hb dL_turned_115 (by decide) (fun c115 => ?_) (fun c115 => ?_)
    · exact absurd c115 (by decide)
    refine lv_aload_n (pc := 118) hx hb dL_turned_118 rfl (lv_at hl 4 rfl) ?_
    refine lv_iconst (pc := 119) (v := nI 1) hx hb dL_turned_119 rfl ?_
    refine va_iald (pc := 120) hx hb hK.1 hP 0 0 rfl rfl (vp_in_nI (by omega) (by decide)) dL_turned_120 ?_
    refine top_i (show (dF (nI c) (nI r) dx dy) (nI 1).toNatClampNeg = nI r from by rw [nI_clamp (by decide)]; rfl) ?_
    refine lv_iconst (pc := 121) (v := nI 1) hx hb dL_turned_121 rfl ?_
    refine n_isub (pc := 122) hx hb (by omega) dL_turned_122 ?_
    refine lv_goto (pc := 123) (tgt := 129) hx hb dL_turned_123 (by decide) ?_
    refine lv_iload (pc := 129) hx hb dL_turned_129 (lv_at hl 0 rfl) ?_
    refine n_isub (pc := 131) hx hb (by omega) dL_turned_131 ?_
    refine lv_istore (pc := 132) (lv' := [(6, .int (nI ((r - 1) - (rowM c r li)))), (5, .int (nI (colM c r li))), (4, .int (nI (li - (lvl c r)))), (3, .int (zb true)), (0, .ref dd), (1, .int (nI li)), (2, .int (nI s))]) hx hb dL_turned_132 hl (by decide) rfl (fun ls hl => ?_)
    refine lv_iload_n (pc := 134) hx hb dL_turned_134 rfl (lv_at hl 6 rfl) ?_
    refine lv_iconst (pc := 135) (v := nI 4) hx hb dL_turned_135 rfl ?_
    refine lv_iand (pc := 136) hx hb dL_turned_136 ?_
    refine lv_iconst (pc := 137) (v := nI 4) hx hb dL_turned_137 rfl ?_
    refine lv_icmp_ne (pc := 138) (tgt := 165) hx hb dL_turned_138 (by decide) (fun c138 => ?_) (fun c138 => ?_)
    · have t2 : s.testBit 2 = false := bfn (fun q => c138 ((tbit2 s hs8).mpr q))
      refine lv_iload_n (pc := 165) hx hb dL_turned_165 rfl (lv_at hl 3 rfl) ?_
      refine z_if_eq (pc := 166) (tgt := 180) hx hb dL_turned_166 (by decide) (fun c166 => ?_) (fun c166 => ?_)
      · exact absurd c166 (by decide)
      refine lv_aload_n (pc := 169) hx hb dL_turned_169 rfl (lv_at hl 4 rfl) ?_
      refine lv_iload (pc := 170) hx hb dL_turned_170 (lv_at hl 1 rfl) ?_
      refine lv_iload (pc := 172) hx hb dL_turned_172 (lv_at hl 0 rfl) ?_
      refine ro_go (pc := 174) (va_runS (As := [.ref dd, .int (nI (colM c r li)), .int (nI ((r - 1) - (rowM c r li)))]) (rest := []) ⟨hx, hb, hml, hown, hts⟩ (c_L_upright l D Y dd c r dx dy (colM c r li) ((r - 1) - (rowM c r li)) (hC)) (va_cwS 3 hts gL_turned_L_upright rfl rfl rfl hdL_upright ⟨Nat.le_of_ble_eq_true rfl, Nat.le_of_ble_eq_true rfl⟩) (ro_pS hK hP) rfl rfl hl.1 rfl (lv_room (Nat.le_of_ble_eq_true rfl)) dL_turned_174 ⟨Nat.le_of_ble_eq_true rfl, Nat.le_of_ble_eq_true rfl⟩) ?_
      refine top_i (show nI (c * (r + 1) + (c + 1) * ((r - 1) - (rowM c r li)) + (colM c r li)) = nI (numM c r true (colM c r li) ((r - 1) - (rowM c r li))) from by rw [nmT]) ?_
      refine lv_goto (pc := 177) (tgt := 188) hx hb dL_turned_177 (by decide) ?_
      exact ro_iret (v := nI (numM c r true (colM c r li) ((r - 1) - (rowM c r li)))) hx hb hr hlocks (by unfold mapM imL imX imY; simp only [t0, t1, t2, hv, Bool.not_true, Bool.not_false, if_true, if_false, Bool.false_eq_true]) dL_turned_188
    have t2 : s.testBit 2 = true := (tbit2 s hs8).mp c138
    refine lv_iload_n (pc := 141) hx hb dL_turned_141 rfl (lv_at hl 3 rfl) ?_
    refine z_if_eq (pc := 142) (tgt := 156) hx hb dL_turned_142 (by decide) (fun c142 => ?_) (fun c142 => ?_)
    · exact absurd c142 (by decide)
    refine lv_aload_n (pc := 145) hx hb dL_turned_145 rfl (lv_at hl 4 rfl) ?_
    refine lv_iload (pc := 146) hx hb dL_turned_146 (lv_at hl 0 rfl) ?_
    refine lv_iload (pc := 148) hx hb dL_turned_148 (lv_at hl 1 rfl) ?_
    refine ro_go (pc := 150) (va_runS (As := [.ref dd, .int (nI ((r - 1) - (rowM c r li))), .int (nI (colM c r li))]) (rest := []) ⟨hx, hb, hml, hown, hts⟩ (c_L_flat l D Y dd c r dx dy ((r - 1) - (rowM c r li)) (colM c r li) (hC)) (va_cwS 3 hts gL_turned_L_flat rfl rfl rfl hdL_flat ⟨Nat.le_of_ble_eq_true rfl, Nat.le_of_ble_eq_true rfl⟩) (ro_pS hK hP) rfl rfl hl.1 rfl (lv_room (Nat.le_of_ble_eq_true rfl)) dL_turned_150 ⟨Nat.le_of_ble_eq_true rfl, Nat.le_of_ble_eq_true rfl⟩) ?_
    refine top_i (show nI (c * (colM c r li) + ((r - 1) - (rowM c r li))) = nI (numM c r false ((r - 1) - (rowM c r li)) (colM c r li)) from by rw [nmF (r := r)]) ?_
    refine lv_goto (pc := 153) (tgt := 164) hx hb dL_turned_153 (by decide) ?_
    exact ro_iret (v := nI (numM c r false ((r - 1) - (rowM c r li)) (colM c r li))) hx hb hr hlocks (by unfold mapM imL imX imY; simp only [t0, t1, t2, hv, Bool.not_true, Bool.not_false, if_true, if_false, Bool.false_eq_true]) dL_turned_164
  have t0 : s.testBit 0 = true := (tbit0 s hs8).mp c84
  refine lv_iload_n (pc := 87) hx hb dL_turned_87 rfl (lv_at hl 3 rfl) ?_
  refine z_if_eq (pc := 88) (tgt := 97) hx hb dL_turned_88 (by decide) (fun c88 => ?_) (fun c88 => ?_)
  · exact absurd c88 (by decide)
  refine lv_aload_n (pc := 91) hx hb dL_turned_91 rfl (lv_at hl 4 rfl) ?_
  refine lv_iconst (pc := 92) (v := nI 0) hx hb dL_turned_92 rfl ?_
  refine va_iald (pc := 93) hx hb hK.1 hP 0 0 rfl rfl (vp_in_nI (by omega) (by decide)) dL_turned_93 ?_
  refine top_i (show (dF (nI c) (nI r) dx dy) (nI 0).toNatClampNeg = nI c from by rw [nI_clamp (by decide)]; rfl) ?_
  refine lv_goto (pc := 94) (tgt := 102) hx hb dL_turned_94 (by decide) ?_
  refine lv_iload (pc := 102) hx hb dL_turned_102 (lv_at hl 1 rfl) ?_
  refine n_isub (pc := 104) hx hb (by omega) dL_turned_104 ?_
  refine lv_istore (pc := 105) (lv' := [(5, .int (nI (c - (colM c r li)))), (6, .int (nI (rowM c r li))), (4, .int (nI (li - (lvl c r)))), (3, .int (zb true)), (0, .ref dd), (1, .int (nI li)), (2, .int (nI s))]) hx hb dL_turned_105 hl (by decide) rfl (fun ls hl => ?_)
  refine lv_iload_n (pc := 107) hx hb dL_turned_107 rfl (lv_at hl 6 rfl) ?_
  refine lv_iconst (pc := 108) (v := nI 2) hx hb dL_turned_108 rfl ?_
  refine lv_iand (pc := 109) hx hb dL_turned_109 ?_
  refine lv_iconst (pc := 110) (v := nI 2) hx hb dL_turned_110 rfl ?_
  refine lv_icmp_ne (pc := 111) (tgt := 134) hx hb dL_turned_111 (by decide) (fun c111 => ?_) (fun c111 => ?_)
  · have t1 : s.testBit 1 = false := bfn (fun q => c111 ((tbit1 s hs8).mpr q))
    refine lv_iload_n (pc := 134) hx hb dL_turned_134 rfl (lv_at hl 6 rfl) ?_
    refine lv_iconst (pc := 135) (v := nI 4) hx hb dL_turned_135 rfl ?_
    refine lv_iand (pc := 136) hx hb dL_turned_136 ?_
    refine lv_iconst (pc := 137) (v := nI 4) hx hb dL_turned_137 rfl ?_
    refine lv_icmp_ne (pc := 138) (tgt := 165) hx hb dL_turned_138 (by decide) (fun c138 => ?_) (fun c138 => ?_)
    · have t2 : s.testBit 2 = false := bfn (fun q => c138 ((tbit2 s hs8).mpr q))
      refine lv_iload_n (pc := 165) hx hb dL_turned_165 rfl (lv_at hl 3 rfl) ?_
      refine z_if_eq (pc := 166) (tgt := 180) hx hb dL_turned_166 (by decide) (fun c166 => ?_) (fun c166 => ?_)
      · exact absurd c166 (by decide)
      refine lv_aload_n (pc := 169) hx hb dL_turned_169 rfl (lv_at hl 4 rfl) ?_
      refine lv_iload (pc := 170) hx hb dL_turned_170 (lv_at hl 0 rfl) ?_
      refine lv_iload (pc := 172) hx hb dL_turned_172 (lv_at hl 1 rfl) ?_
      refine ro_go (pc := 174) (va_runS (As := [.ref dd, .int (nI (c - (colM c r li))), .int (nI (rowM c r li))]) (rest := []) ⟨hx, hb, hml, hown, hts⟩ (c_L_upright l D Y dd c r dx dy (c - (colM c r li)) (rowM c r li) (hC)) (va_cwS 3 hts gL_turned_L_upright rfl rfl rfl hdL_upright ⟨Nat.le_of_ble_eq_true rfl, Nat.le_of_ble_eq_true rfl⟩) (ro_pS hK hP) rfl rfl hl.1 rfl (lv_room (Nat.le_of_ble_eq_true rfl)) dL_turned_174 ⟨Nat.le_of_ble_eq_true rfl, Nat.le_of_ble_eq_true rfl⟩) ?_
      refine top_i (show nI (c * (r + 1) + (c + 1) * (rowM c r li) + (c - (colM c r li))) = nI (numM c r true (c - (colM c r li)) (rowM c r li)) from by rw [nmT]) ?_
      refine lv_goto (pc := 177) (tgt := 188) hx hb dL_turned_177 (by decide) ?_
      exact ro_iret (v := nI (numM c r true (c - (colM c r li)) (rowM c r li))) hx hb hr hlocks (by unfold mapM imL imX imY; simp only [t0, t1, t2, hv, Bool.not_true, Bool.not_false, if_true, if_false, Bool.false_eq_true]) dL_turned_188
    have t2 : s.testBit 2 = true := (tbit2 s hs8).mp c138
    refine lv_iload_n (pc := 141) hx hb dL_turned_141 rfl (lv_at hl 3 rfl) ?_
    refine z_if_eq (pc := 142) (tgt := 156) hx hb dL_turned_142 (by decide) (fun c142 => ?_) (fun c142 => ?_)
    · exact absurd c142 (by decide)
    refine lv_aload_n (pc := 145) hx hb dL_turned_145 rfl (lv_at hl 4 rfl) ?_
    refine lv_iload (pc := 146) hx hb dL_turned_146 (lv_at hl 1 rfl) ?_
    refine lv_iload (pc := 148) hx hb dL_turned_148 (lv_at hl 0 rfl) ?_
    refine ro_go (pc := 150) (va_runS (As := [.ref dd, .int (nI (rowM c r li)), .int (nI (c - (colM c r li)))]) (rest := []) ⟨hx, hb, hml, hown, hts⟩ (c_L_flat l D Y dd c r dx dy (rowM c r li) (c - (colM c r li)) (hC)) (va_cwS 3 hts gL_turned_L_flat rfl rfl rfl hdL_flat ⟨Nat.le_of_ble_eq_true rfl, Nat.le_of_ble_eq_true rfl⟩) (ro_pS hK hP) rfl rfl hl.1 rfl (lv_room (Nat.le_of_ble_eq_true rfl)) dL_turned_150 ⟨Nat.le_of_ble_eq_true rfl, Nat.le_of_ble_eq_true rfl⟩) ?_
    refine top_i (show nI (c * (c - (colM c r li)) + (rowM c r li)) = nI (numM c r false (rowM c r li) (c - (colM c r li))) from by rw [nmF (r := r)]) ?_
    refine lv_goto (pc := 153) (tgt := 164) hx hb dL_turned_153 (by decide) ?_
    exact ro_iret (v := nI (numM c r false (rowM c r li) (c - (colM c r li)))) hx hb hr hlocks (by unfold mapM imL imX imY; simp only [t0, t1, t2, hv, Bool.not_true, Bool.not_false, if_true, if_false, Bool.false_eq_true]) dL_turned_164
  have t1 : s.testBit 1 = true := (tbit1 s hs8).mp c111
  refine lv_iload_n (pc := 114) hx hb dL_turned_114 rfl (lv_at hl 3 rfl) ?_
  refine z_if_eq (pc := 115) (tgt := 126) hx hb dL_turned_115 (by decide) (fun c115 => ?_) (fun c115 => ?_)
  · exact absurd c115 (by decide)
  refine lv_aload_n (pc := 118) hx hb dL_turned_118 rfl (lv_at hl 4 rfl) ?_
  refine lv_iconst (pc := 119) (v := nI 1) hx hb dL_turned_119 rfl ?_
  refine va_iald (pc := 120) hx hb hK.1 hP 0 0 rfl rfl (vp_in_nI (by omega) (by decide)) dL_turned_120 ?_
  refine top_i (show (dF (nI c) (nI r) dx dy) (nI 1).toNatClampNeg = nI r from by rw [nI_clamp (by decide)]; rfl) ?_
  refine lv_iconst (pc := 121) (v := nI 1) hx hb dL_turned_121 rfl ?_
  refine n_isub (pc := 122) hx hb (by omega) dL_turned_122 ?_
  refine lv_goto (pc := 123) (tgt := 129) hx hb dL_turned_123 (by decide) ?_
  refine lv_iload (pc := 129) hx hb dL_turned_129 (lv_at hl 1 rfl) ?_
  refine n_isub (pc := 131) hx hb (by omega) dL_turned_131 ?_
  refine lv_istore (pc := 132) (lv' := [(6, .int (nI ((r - 1) - (rowM c r li)))), (5, .int (nI (c - (colM c r li)))), (4, .int (nI (li - (lvl c r)))), (3, .int (zb true)), (0, .ref dd), (1, .int (nI li)), (2, .int (nI s))]) hx hb dL_turned_132 hl (by decide) rfl (fun ls hl => ?_)
  refine lv_iload_n (pc := 134) hx hb dL_turned_134 rfl (lv_at hl 6 rfl) ?_
  refine lv_iconst (pc := 135) (v := nI 4) hx hb dL_turned_135 rfl ?_
  refine lv_iand (pc := 136) hx hb dL_turned_136 ?_
  refine lv_iconst (pc := 137) (v := nI 4) hx hb dL_turned_137 rfl ?_
  refine lv_icmp_ne (pc := 138) (tgt := 165) hx hb dL_turned_138 (by decide) (fun c138 => ?_) (fun c138 => ?_)
  · have t2 : s.testBit 2 = false := bfn (fun q => c138 ((tbit2 s hs8).mpr q))
    refine lv_iload_n (pc := 165) hx hb dL_turned_165 rfl (lv_at hl 3 rfl) ?_
    refine z_if_eq (pc := 166) (tgt := 180) hx hb dL_turned_166 (by decide) (fun c166 => ?_) (fun c166 => ?_)
    · exact absurd c166 (by decide)
    refine lv_aload_n (pc := 169) hx hb dL_turned_169 rfl (lv_at hl 4 rfl) ?_
    refine lv_iload (pc := 170) hx hb dL_turned_170 (lv_at hl 1 rfl) ?_
    refine lv_iload (pc := 172) hx hb dL_turned_172 (lv_at hl 0 rfl) ?_
    refine ro_go (pc := 174) (va_runS (As := [.ref dd, .int (nI (c - (colM c r li))), .int (nI ((r - 1) - (rowM c r li)))]) (rest := []) ⟨hx, hb, hml, hown, hts⟩ (c_L_upright l D Y dd c r dx dy (c - (colM c r li)) ((r - 1) - (rowM c r li)) (hC)) (va_cwS 3 hts gL_turned_L_upright rfl rfl rfl hdL_upright ⟨Nat.le_of_ble_eq_true rfl, Nat.le_of_ble_eq_true rfl⟩) (ro_pS hK hP) rfl rfl hl.1 rfl (lv_room (Nat.le_of_ble_eq_true rfl)) dL_turned_174 ⟨Nat.le_of_ble_eq_true rfl, Nat.le_of_ble_eq_true rfl⟩) ?_
    refine top_i (show nI (c * (r + 1) + (c + 1) * ((r - 1) - (rowM c r li)) + (c - (colM c r li))) = nI (numM c r true (c - (colM c r li)) ((r - 1) - (rowM c r li))) from by rw [nmT]) ?_
    refine lv_goto (pc := 177) (tgt := 188) hx hb dL_turned_177 (by decide) ?_
    exact ro_iret (v := nI (numM c r true (c - (colM c r li)) ((r - 1) - (rowM c r li)))) hx hb hr hlocks (by unfold mapM imL imX imY; simp only [t0, t1, t2, hv, Bool.not_true, Bool.not_false, if_true, if_false, Bool.false_eq_true]) dL_turned_188
  have t2 : s.testBit 2 = true := (tbit2 s hs8).mp c138
  refine lv_iload_n (pc := 141) hx hb dL_turned_141 rfl (lv_at hl 3 rfl) ?_
  refine z_if_eq (pc := 142) (tgt := 156) hx hb dL_turned_142 (by decide) (fun c142 => ?_) (fun c142 => ?_)
  · exact absurd c142 (by decide)
  refine lv_aload_n (pc := 145) hx hb dL_turned_145 rfl (lv_at hl 4 rfl) ?_
  refine lv_iload (pc := 146) hx hb dL_turned_146 (lv_at hl 0 rfl) ?_
  refine lv_iload (pc := 148) hx hb dL_turned_148 (lv_at hl 1 rfl) ?_
  refine ro_go (pc := 150) (va_runS (As := [.ref dd, .int (nI ((r - 1) - (rowM c r li))), .int (nI (c - (colM c r li)))]) (rest := []) ⟨hx, hb, hml, hown, hts⟩ (c_L_flat l D Y dd c r dx dy ((r - 1) - (rowM c r li)) (c - (colM c r li)) (hC)) (va_cwS 3 hts gL_turned_L_flat rfl rfl rfl hdL_flat ⟨Nat.le_of_ble_eq_true rfl, Nat.le_of_ble_eq_true rfl⟩) (ro_pS hK hP) rfl rfl hl.1 rfl (lv_room (Nat.le_of_ble_eq_true rfl)) dL_turned_150 ⟨Nat.le_of_ble_eq_true rfl, Nat.le_of_ble_eq_true rfl⟩) ?_
  refine top_i (show nI (c * (c - (colM c r li)) + ((r - 1) - (rowM c r li))) = nI (numM c r false ((r - 1) - (rowM c r li)) (c - (colM c r li))) from by rw [nmF (r := r)]) ?_
  refine lv_goto (pc := 153) (tgt := 164) hx hb dL_turned_153 (by decide) ?_
  exact ro_iret (v := nI (numM c r false ((r - 1) - (rowM c r li)) (c - (colM c r li)))) hx hb hr hlocks (by unfold mapM imL imX imY; simp only [t0, t1, t2, hv, Bool.not_true, Bool.not_false, if_true, if_false, Bool.false_eq_true]) dL_turned_164

set_option maxHeartbeats 1200000 in
set_option maxRecDepth 100000 in
theorem c_L_image (l : Launch) (D : va_G) (Y : vY) (dd : Nat) (c : Nat) (r : Nat) (dx : Int32) (dy : Int32) (u : Int64) (s : Nat) (hC : Cr c r) (hs9 : s < manyM c r) : Ro l yL_image wsL_image ({ frames := 2, cells := 0, slots := 0, locals := 48 } : Room) [.ref dd, .long u, .int (nI s)] D Y [(dd, .inl (Y.1, 4, .inl (dF (nI c) (nI r) dx dy)))] (some (.long (mapS c r u s))) := by
  refine ro_intro (by decide +kernel) rfl (Nat.le_of_ble_eq_true rfl) [(0, .ref dd), (1, .long u), (3, .int (nI s))] rfl ?_
  intro pG eG sG mG aG bG tG cG ls hx hb hr hml hts hown hlocks hK hP hl
  have hP : va_P D vwCl [(dd, .inl (Y.1, 4, .inl (dF (nI c) (nI r) dx dy)))] sG.heap := hP
  have hown : sG.vm.findClass RL = some mG.cls := hown
  have hl : lv_has ls 7 [(0, .ref dd), (1, .long u), (3, .int (nI s))] := hl
  obtain ⟨hq1, hq2, hq3, hq4, hq5, hq6, hq7, hq8, hq9, hq10, hq11⟩ := hC.q
  obtain ⟨hm1, hm2⟩ := many_le c r
  refine lv_lconst (pc := 0) (v := 0) hx hb dL_image_0 (by decide) ?_
  refine lv_lstore (pc := 1) (lv' := [(4, .long (0 : Int64)), (0, .ref dd), (1, .long u), (3, .int (nI s))]) hx hb dL_image_1 hl (by decide) rfl (fun ls hl => ?_)
  refine lv_iconst (pc := 3) (v := nI 0) hx hb dL_image_3 rfl ?_
  refine lv_istore (pc := 4) (lv' := [(6, .int (nI 0)), (4, .long (0 : Int64)), (0, .ref dd), (1, .long u), (3, .int (nI s))]) hx hb dL_image_4 hl (by decide) rfl (fun ls hl => ?_)
  have L6 : ∀ (n6 : Nat), ∀ (i : Nat) (v : Int64), (i ≤ al c r) → (v = mapSF c r u s i) → al c r - i < n6 → ∀ (ls : Array Slot), lv_has ls 7 [(0, .ref dd), (1, .long u), (3, .int (nI s)), (4, .long v), (6, .int (nI i))] → W pG l eG ({ frames := 2, cells := 0, slots := 0, locals := 48 } : Room) sG mG aG bG tG cG sG.heap [] 0 0 (MQ bG (RoQ (some (.long (mapS c r u s)))) aG sG 0 0 (fun _ => False)) (F0 mG 6 ls []) := by
    intro n6
    induction n6 with
    | zero =>
      intro i v hi hv9 hmeas6  ls hl
      exact absurd hmeas6 (Nat.not_lt_zero _)
    | succ n6 ih6 =>
      intro i v hi hv9 hmeas6  ls hl
      refine lv_iload (pc := 6) hx hb dL_image_6 (lv_at hl 4 rfl) ?_
      refine lv_aload_n (pc := 8) hx hb dL_image_8 rfl (lv_at hl 0 rfl) ?_
      refine ro_go (pc := 9) (va_runS (As := [.ref dd]) (rest := [.int (nI i)]) ⟨hx, hb, hml, hown, hts⟩ (c_L_lines l D Y dd c r dx dy (hC)) (va_cwS 1 hts gL_image_L_lines rfl rfl rfl hdL_lines ⟨Nat.le_of_ble_eq_true rfl, Nat.le_of_ble_eq_true rfl⟩) (ro_pS hK hP) rfl rfl hl.1 rfl (lv_room (Nat.le_of_ble_eq_true rfl)) dL_image_9 ⟨Nat.le_of_ble_eq_true rfl, Nat.le_of_ble_eq_true rfl⟩) ?_
      refine n_icmp_ge (pc := 12) (tgt := 44) hx hb (by omega) (by omega) dL_image_12 (by decide) (fun c12 => ?_) (fun c12 => ?_)
      · refine lv_lload (pc := 44) hx hb dL_image_44 (lv_at hl 3 rfl) ?_
        exact ro_lret (v := v) hx hb hr hlocks (by rw [hv9, show i = al c r by omega]; rfl) dL_image_46
      refine lv_lload_n (pc := 15) hx hb dL_image_15 rfl (lv_at hl 1 rfl) ?_
      refine lv_iload (pc := 16) hx hb dL_image_16 (lv_at hl 4 rfl) ?_
      refine ro_go (pc := 18) (va_runS (As := [.long u, .int (nI i)]) (rest := []) ⟨hx, hb, hml, hown, hts⟩ (c_L_has l D Y u i (by omega)) (va_cwS 2 hts gL_image_L_has rfl rfl rfl hdL_has ⟨Nat.le_of_ble_eq_true rfl, Nat.le_of_ble_eq_true rfl⟩) (ro_pS hK (hP.sub [] rfl)) rfl rfl hl.1 rfl (lv_room (Nat.le_of_ble_eq_true rfl)) dL_image_18 ⟨Nat.le_of_ble_eq_true rfl, Nat.le_of_ble_eq_true rfl⟩) ?_
      refine z_if_eq (pc := 21) (tgt := 38) hx hb dL_image_21 (by decide) (fun c21 => ?_) (fun c21 => ?_)
      · refine lv_iinc (pc := 38) (v := nI (i + 1)) (lv' := [(6, .int (nI (i + 1))), (0, .ref dd), (1, .long u), (3, .int (nI s)), (4, .long v)]) hx hb dL_image_38 hl (k := 4) rfl (n_inc i 1) (by decide) rfl (fun ls hl => ?_)
        refine lv_goto (pc := 41) (tgt := 6) hx hb dL_image_41 (by decide) ?_
        exact ih6 (i + 1) v (by first | assumption | omega) (by rw [mapSF, if_neg (by rw [c21]; decide), ← hv9]) (by omega) _ (lv_sub hl [1, 2, 3, 4, 0] rfl)
      refine lv_lload (pc := 24) hx hb dL_image_24 (lv_at hl 3 rfl) ?_
      refine lv_lconst (pc := 26) (v := 1) hx hb dL_image_26 (by decide) ?_
      refine lv_aload_n (pc := 27) hx hb dL_image_27 rfl (lv_at hl 0 rfl) ?_
      refine lv_iload (pc := 28) hx hb dL_image_28 (lv_at hl 4 rfl) ?_
      refine lv_iload_n (pc := 30) hx hb dL_image_30 rfl (lv_at hl 2 rfl) ?_
      refine ro_go (pc := 31) (va_runS (As := [.ref dd, .int (nI i), .int (nI s)]) (rest := [.long (1 : Int64), .long v]) ⟨hx, hb, hml, hown, hts⟩ (c_L_turned l D Y dd c r dx dy i s (hC) (by first | assumption | omega) (by omega)) (va_cwS 3 hts gL_image_L_turned rfl rfl rfl hdL_turned ⟨Nat.le_of_ble_eq_true rfl, Nat.le_of_ble_eq_true rfl⟩) (ro_pS hK hP) rfl rfl hl.1 rfl (lv_room (Nat.le_of_ble_eq_true rfl)) dL_image_31 ⟨Nat.le_of_ble_eq_true rfl, Nat.le_of_ble_eq_true rfl⟩) ?_
      refine lv_lshl (pc := 34) (v := b1 (mapM c r i s)) hx hb dL_image_34 (b1_shl _ (lt_al hC (mapM_lt hC c12 hs9))) ?_
      refine lv_lor (pc := 35) hx hb dL_image_35 ?_
      refine lv_lstore (pc := 36) (lv' := [(4, .long (v ||| (b1 (mapM c r i s)))), (0, .ref dd), (1, .long u), (3, .int (nI s)), (6, .int (nI i))]) hx hb dL_image_36 hl (by decide) rfl (fun ls hl => ?_)
      refine lv_iinc (pc := 38) (v := nI (i + 1)) (lv' := [(6, .int (nI (i + 1))), (4, .long (v ||| (b1 (mapM c r i s)))), (0, .ref dd), (1, .long u), (3, .int (nI s))]) hx hb dL_image_38 hl (k := 4) rfl (n_inc i 1) (by decide) rfl (fun ls hl => ?_)
      refine lv_goto (pc := 41) (tgt := 6) hx hb dL_image_41 (by decide) ?_
      exact ih6 (i + 1) (v ||| (b1 (mapM c r i s))) (by first | assumption | omega) (by rw [mapSF, if_pos c21, ← hv9]) (by omega) _ (lv_sub hl [2, 3, 4, 1, 0] rfl)
  exact L6 ((al c r - 0) + 1) 0 (0 : Int64) (by first | assumption | omega) (rfl) (Nat.lt_succ_self _) _ (lv_sub hl [2, 3, 4, 1, 0] rfl)

set_option maxHeartbeats 1200000 in
set_option maxRecDepth 100000 in
theorem c_L_canonical (l : Launch) (D : va_G) (Y : vY) (dd : Nat) (c : Nat) (r : Nat) (dx : Int32) (dy : Int32) (u : Int64) (hC : Cr c r) (hu0 : Onb c r u) : Ro l yL_canonical wsL_canonical ({ frames := 3, cells := 0, slots := 0, locals := 74 } : Room) [.ref dd, .long u] D Y [(dd, .inl (Y.1, 4, .inl (dF (nI c) (nI r) dx dy)))] (some (.long (lsc c r u))) := by
  refine ro_intro (by decide +kernel) rfl (Nat.le_of_ble_eq_true rfl) [(0, .ref dd), (1, .long u)] rfl ?_
  intro pG eG sG mG aG bG tG cG ls hx hb hr hml hts hown hlocks hK hP hl
  have hP : va_P D vwCl [(dd, .inl (Y.1, 4, .inl (dF (nI c) (nI r) dx dy)))] sG.heap := hP
  have hown : sG.vm.findClass RL = some mG.cls := hown
  have hl : lv_has ls 8 [(0, .ref dd), (1, .long u)] := hl
  obtain ⟨hq1, hq2, hq3, hq4, hq5, hq6, hq7, hq8, hq9, hq10, hq11⟩ := hC.q
  obtain ⟨hm1, hm2⟩ := many_le c r
  refine lv_lload_n (pc := 0) hx hb dL_canonical_0 rfl (lv_at hl 1 rfl) ?_
  refine lv_lstore_n (pc := 1) (lv' := [(3, .long u), (0, .ref dd), (1, .long u)]) hx hb dL_canonical_1 rfl hl (by decide) rfl (fun ls hl => ?_)
  refine lv_iconst (pc := 2) (v := nI 1) hx hb dL_canonical_2 rfl ?_
  refine lv_istore (pc := 3) (lv' := [(5, .int (nI 1)), (3, .long u), (0, .ref dd), (1, .long u)]) hx hb dL_canonical_3 hl (by decide) rfl (fun ls hl => ?_)
  have L5 : ∀ (n5 : Nat), ∀ (i : Nat) (v : Int64), (1 ≤ i) → (i ≤ manyM c r) → (v = minF (mapS c r u) (i - 1)) → manyM c r - i < n5 → ∀ (ls : Array Slot), lv_has ls 8 [(0, .ref dd), (1, .long u), (3, .long v), (5, .int (nI i))] → W pG l eG ({ frames := 3, cells := 0, slots := 0, locals := 74 } : Room) sG mG aG bG tG cG sG.heap [] 0 0 (MQ bG (RoQ (some (.long (lsc c r u)))) aG sG 0 0 (fun _ => False)) (F0 mG 5 ls []) := by
    intro n5
    induction n5 with
    | zero =>
      intro i v h1 hi hv9 hmeas5  ls hl
      exact absurd hmeas5 (Nat.not_lt_zero _)
    | succ n5 ih5 =>
      intro i v h1 hi hv9 hmeas5  ls hl
      refine lv_iload (pc := 5) hx hb dL_canonical_5 (lv_at hl 3 rfl) ?_
      refine lv_aload_n (pc := 7) hx hb dL_canonical_7 rfl (lv_at hl 0 rfl) ?_
      refine lv_iconst (pc := 8) (v := nI 0) hx hb dL_canonical_8 rfl ?_
      refine va_iald (pc := 9) hx hb hK.1 hP 0 0 rfl rfl (vp_in_nI (by omega) (by decide)) dL_canonical_9 ?_
      refine top_i (show (dF (nI c) (nI r) dx dy) (nI 0).toNatClampNeg = nI c from by rw [nI_clamp (by decide)]; rfl) ?_
      refine lv_aload_n (pc := 10) hx hb dL_canonical_10 rfl (lv_at hl 0 rfl) ?_
      refine lv_iconst (pc := 11) (v := nI 1) hx hb dL_canonical_11 rfl ?_
      refine va_iald (pc := 12) hx hb hK.1 hP 0 0 rfl rfl (vp_in_nI (by omega) (by decide)) dL_canonical_12 ?_
      refine top_i (show (dF (nI c) (nI r) dx dy) (nI 1).toNatClampNeg = nI r from by rw [nI_clamp (by decide)]; rfl) ?_
      refine n_icmp_ne (pc := 13) (tgt := 21) hx hb (by omega) (by omega) dL_canonical_13 (by decide) (fun c13 => ?_) (fun c13 => ?_)
      · refine lv_iconst (pc := 21) (v := nI 4) hx hb dL_canonical_21 rfl ?_
        refine top_i (show nI 4 = nI (manyM c r) from by unfold manyM; rw [if_neg c13]) ?_
        refine n_icmp_ge (pc := 22) (tgt := 50) hx hb (by omega) (by omega) dL_canonical_22 (by decide) (fun c22 => ?_) (fun c22 => ?_)
        · refine lv_lload_n (pc := 50) hx hb dL_canonical_50 rfl (lv_at hl 2 rfl) ?_
          exact ro_lret (v := v) hx hb hr hlocks (by rw [hv9, show i = manyM c r by omega]; rfl) dL_canonical_51
        refine lv_aload_n (pc := 25) hx hb dL_canonical_25 rfl (lv_at hl 0 rfl) ?_
        refine lv_lload_n (pc := 26) hx hb dL_canonical_26 rfl (lv_at hl 1 rfl) ?_
        refine lv_iload (pc := 27) hx hb dL_canonical_27 (lv_at hl 3 rfl) ?_
        refine ro_go (pc := 29) (va_runS (As := [.ref dd, .long u, .int (nI i)]) (rest := []) ⟨hx, hb, hml, hown, hts⟩ (c_L_image l D Y dd c r dx dy u i (hC) (c22)) (va_cwS 3 hts gL_canonical_L_image rfl rfl rfl hdL_image ⟨Nat.le_of_ble_eq_true rfl, Nat.le_of_ble_eq_true rfl⟩) (ro_pS hK hP) rfl rfl hl.1 rfl (lv_room (Nat.le_of_ble_eq_true rfl)) dL_canonical_29 ⟨Nat.le_of_ble_eq_true rfl, Nat.le_of_ble_eq_true rfl⟩) ?_
        refine lv_lstore (pc := 32) (lv' := [(6, .long (mapS c r u i)), (0, .ref dd), (1, .long u), (3, .long v), (5, .int (nI i))]) hx hb dL_canonical_32 hl (by decide) rfl (fun ls hl => ?_)
        refine lv_lload (pc := 34) hx hb dL_canonical_34 (lv_at hl 0 rfl) ?_
        refine lv_lload_n (pc := 36) hx hb dL_canonical_36 rfl (lv_at hl 3 rfl) ?_
        refine W.lcmp (pc := 37) hx hb dL_canonical_37 ?_
        refine lc_if_ge (pc := 38) (tgt := 44) hx hb dL_canonical_38 (by decide) (fun c38 => ?_) (fun c38 => ?_)
        · refine lv_iinc (pc := 44) (v := nI (i + 1)) (lv' := [(5, .int (nI (i + 1))), (6, .long (mapS c r u i)), (0, .ref dd), (1, .long u), (3, .long v)]) hx hb dL_canonical_44 hl (k := 4) rfl (n_inc i 1) (by decide) rfl (fun ls hl => ?_)
          refine lv_goto (pc := 47) (tgt := 5) hx hb dL_canonical_47 (by decide) ?_
          exact ih5 (i + 1) v (by first | assumption | omega) (by first | assumption | omega) (by obtain ⟨j, rfl⟩ : ∃ j, i = j + 1 := ⟨i - 1, by omega⟩; show _ = mnL (minF (mapS c r u) j) (mapS c r u (j + 1)); rw [hv9] at c38 ⊢; exact mnL_b (Int64.not_lt.mpr (by simpa using c38))) (by omega) _ (lv_sub hl [2, 3, 4, 0] rfl)
        refine lv_lload (pc := 41) hx hb dL_canonical_41 (lv_at hl 0 rfl) ?_
        refine lv_lstore_n (pc := 43) (lv' := [(3, .long (mapS c r u i)), (6, .long (mapS c r u i)), (0, .ref dd), (1, .long u), (5, .int (nI i))]) hx hb dL_canonical_43 rfl hl (by decide) rfl (fun ls hl => ?_)
        refine lv_iinc (pc := 44) (v := nI (i + 1)) (lv' := [(5, .int (nI (i + 1))), (3, .long (mapS c r u i)), (6, .long (mapS c r u i)), (0, .ref dd), (1, .long u)]) hx hb dL_canonical_44 hl (k := 4) rfl (n_inc i 1) (by decide) rfl (fun ls hl => ?_)
        refine lv_goto (pc := 47) (tgt := 5) hx hb dL_canonical_47 (by decide) ?_
        exact ih5 (i + 1) (mapS c r u i) (by first | assumption | omega) (by first | assumption | omega) (by obtain ⟨j, rfl⟩ : ∃ j, i = j + 1 := ⟨i - 1, by omega⟩; show _ = mnL (minF (mapS c r u) j) (mapS c r u (j + 1)); rw [hv9] at c38; exact mnL_a (Int64.not_le.mp (by simpa using c38))) (by omega) _ (lv_sub hl [3, 4, 1, 0] rfl)
      refine lv_bipush (pc := 16) (v := nI 8) hx hb dL_canonical_16 rfl ?_
      refine top_i (show nI 8 = nI (manyM c r) from by unfold manyM; rw [if_pos c13]) ?_
      refine lv_goto (pc := 18) (tgt := 22) hx hb dL_canonical_18 (by decide) ?_
      refine n_icmp_ge (pc := 22) (tgt := 50) hx hb (by omega) (by omega) dL_canonical_22 (by decide) (fun c22 => ?_) (fun c22 => ?_)
      · refine lv_lload_n (pc := 50) hx hb dL_canonical_50 rfl (lv_at hl 2 rfl) ?_
        exact ro_lret (v := v) hx hb hr hlocks (by rw [hv9, show i = manyM c r by omega]; rfl) dL_canonical_51
      refine lv_aload_n (pc := 25) hx hb dL_canonical_25 rfl (lv_at hl 0 rfl) ?_
      refine lv_lload_n (pc := 26) hx hb dL_canonical_26 rfl (lv_at hl 1 rfl) ?_
      refine lv_iload (pc := 27) hx hb dL_canonical_27 (lv_at hl 3 rfl) ?_
      refine ro_go (pc := 29) (va_runS (As := [.ref dd, .long u, .int (nI i)]) (rest := []) ⟨hx, hb, hml, hown, hts⟩ (c_L_image l D Y dd c r dx dy u i (hC) (c22)) (va_cwS 3 hts gL_canonical_L_image rfl rfl rfl hdL_image ⟨Nat.le_of_ble_eq_true rfl, Nat.le_of_ble_eq_true rfl⟩) (ro_pS hK hP) rfl rfl hl.1 rfl (lv_room (Nat.le_of_ble_eq_true rfl)) dL_canonical_29 ⟨Nat.le_of_ble_eq_true rfl, Nat.le_of_ble_eq_true rfl⟩) ?_
      refine lv_lstore (pc := 32) (lv' := [(6, .long (mapS c r u i)), (0, .ref dd), (1, .long u), (3, .long v), (5, .int (nI i))]) hx hb dL_canonical_32 hl (by decide) rfl (fun ls hl => ?_)
      refine lv_lload (pc := 34) hx hb dL_canonical_34 (lv_at hl 0 rfl) ?_
      refine lv_lload_n (pc := 36) hx hb dL_canonical_36 rfl (lv_at hl 3 rfl) ?_
      refine W.lcmp (pc := 37) hx hb dL_canonical_37 ?_
      refine lc_if_ge (pc := 38) (tgt := 44) hx hb dL_canonical_38 (by decide) (fun c38 => ?_) (fun c38 => ?_)
      · refine lv_iinc (pc := 44) (v := nI (i + 1)) (lv' := [(5, .int (nI (i + 1))), (6, .long (mapS c r u i)), (0, .ref dd), (1, .long u), (3, .long v)]) hx hb dL_canonical_44 hl (k := 4) rfl (n_inc i 1) (by decide) rfl (fun ls hl => ?_)
        refine lv_goto (pc := 47) (tgt := 5) hx hb dL_canonical_47 (by decide) ?_
        exact ih5 (i + 1) v (by first | assumption | omega) (by first | assumption | omega) (by obtain ⟨j, rfl⟩ : ∃ j, i = j + 1 := ⟨i - 1, by omega⟩; show _ = mnL (minF (mapS c r u) j) (mapS c r u (j + 1)); rw [hv9] at c38 ⊢; exact mnL_b (Int64.not_lt.mpr (by simpa using c38))) (by omega) _ (lv_sub hl [2, 3, 4, 0] rfl)
      refine lv_lload (pc := 41) hx hb dL_canonical_41 (lv_at hl 0 rfl) ?_
      refine lv_lstore_n (pc := 43) (lv' := [(3, .long (mapS c r u i)), (6, .long (mapS c r u i)), (0, .ref dd), (1, .long u), (5, .int (nI i))]) hx hb dL_canonical_43 rfl hl (by decide) rfl (fun ls hl => ?_)
      refine lv_iinc (pc := 44) (v := nI (i + 1)) (lv' := [(5, .int (nI (i + 1))), (3, .long (mapS c r u i)), (6, .long (mapS c r u i)), (0, .ref dd), (1, .long u)]) hx hb dL_canonical_44 hl (k := 4) rfl (n_inc i 1) (by decide) rfl (fun ls hl => ?_)
      refine lv_goto (pc := 47) (tgt := 5) hx hb dL_canonical_47 (by decide) ?_
      exact ih5 (i + 1) (mapS c r u i) (by first | assumption | omega) (by first | assumption | omega) (by obtain ⟨j, rfl⟩ : ∃ j, i = j + 1 := ⟨i - 1, by omega⟩; show _ = mnL (minF (mapS c r u) j) (mapS c r u (j + 1)); rw [hv9] at c38; exact mnL_a (Int64.not_le.mp (by simpa using c38))) (by omega) _ (lv_sub hl [3, 4, 1, 0] rfl)
  exact L5 ((manyM c r - 1) + 1) 1 u (by first | assumption | omega) (by first | assumption | omega) ((mapS_0 hC hu0).symm) (Nat.lt_succ_self _) _ (lv_sub hl [2, 3, 1, 0] rfl)

set_option maxHeartbeats 1200000 in
set_option maxRecDepth 100000 in
theorem c_L_greedy (l : Launch) (D : va_G) (Y : vY) (dd : Nat) (c : Nat) (r : Nat) (dx : Int32) (dy : Int32) (u : Int64) (hC : Cr c r) : Ro l yL_greedy wsL_greedy ({ frames := 6, cells := 0, slots := 0, locals := 146 } : Room) [.ref dd, .long u] D Y [(dd, .inl (Y.1, 4, .inl (dF (nI c) (nI r) dx dy)))] (some (.int (oI (grM c r u)))) := by
  refine ro_intro (by decide +kernel) rfl (Nat.le_of_ble_eq_true rfl) [(0, .ref dd), (1, .long u)] rfl ?_
  intro pG eG sG mG aG bG tG cG ls hx hb hr hml hts hown hlocks hK hP hl
  have hP : va_P D vwCl [(dd, .inl (Y.1, 4, .inl (dF (nI c) (nI r) dx dy)))] sG.heap := hP
  have hown : sG.vm.findClass RL = some mG.cls := hown
  have hl : lv_has ls 6 [(0, .ref dd), (1, .long u)] := hl
  obtain ⟨hq1, hq2, hq3, hq4, hq5, hq6, hq7, hq8, hq9, hq10, hq11⟩ := hC.q
  refine lv_aload_n (pc := 0) hx hb dL_greedy_0 rfl (lv_at hl 0 rfl) ?_
  refine lv_iconst (pc := 1) (v := nI 1) hx hb dL_greedy_1 rfl ?_
  refine lv_lload_n (pc := 2) hx hb dL_greedy_2 rfl (lv_at hl 1 rfl) ?_
  refine ro_go (pc := 3) (va_runS (As := [.ref dd, .int (nI 1), .long u]) (rest := []) ⟨hx, hb, hml, hown, hts⟩ (c_L_first l D Y dd c r dx dy 1 u (hC) (by decide)) (va_cwS 3 hts gL_greedy_L_first rfl rfl rfl hdL_first ⟨Nat.le_of_ble_eq_true rfl, Nat.le_of_ble_eq_true rfl⟩) (ro_pS hK hP) rfl rfl hl.1 rfl (lv_room (Nat.le_of_ble_eq_true rfl)) dL_greedy_3 ⟨Nat.le_of_ble_eq_true rfl, Nat.le_of_ble_eq_true rfl⟩) ?_
  refine lv_topi (fun x3 ex3 => ?_)
  refine lv_istore_n (pc := 6) (lv' := [(3, .int x3), (0, .ref dd), (1, .long u)]) hx hb dL_greedy_6 rfl hl (by decide) rfl (fun ls hl => ?_)
  refine lv_iload_n (pc := 7) hx hb dL_greedy_7 rfl (lv_at hl 0 rfl) ?_
  refine lv_if_ge (pc := 8) (tgt := 18) hx hb dL_greedy_8 (by decide) (fun c8 => ?_) (fun c8 => ?_)
  · refine lv_iload_n (pc := 18) hx hb dL_greedy_18 rfl (lv_at hl 0 rfl) ?_
    refine lv_if_lt (pc := 19) (tgt := 24) hx hb dL_greedy_19 (by decide) (fun c19 => ?_) (fun c19 => ?_)
    · exact absurd c19 (Int32.not_lt.mpr c8)
    refine lv_iload_n (pc := 22) hx hb dL_greedy_22 rfl (lv_at hl 0 rfl) ?_
    exact ro_iret (v := x3) hx hb hr hlocks (by obtain ⟨b, hb9, hx9⟩ := oI_pos ex3 (Int32.not_lt.mpr c8); rw [ex3, grM_1 hb9, hb9]) dL_greedy_23
  refine lv_aload_n (pc := 11) hx hb dL_greedy_11 rfl (lv_at hl 1 rfl) ?_
  refine lv_iconst (pc := 12) (v := nI 2) hx hb dL_greedy_12 rfl ?_
  refine lv_lload_n (pc := 13) hx hb dL_greedy_13 rfl (lv_at hl 2 rfl) ?_
  refine ro_go (pc := 14) (va_runS (As := [.ref dd, .int (nI 2), .long u]) (rest := []) ⟨hx, hb, hml, hown, hts⟩ (c_L_first l D Y dd c r dx dy 2 u (hC) (by decide)) (va_cwS 3 hts gL_greedy_L_first rfl rfl rfl hdL_first ⟨Nat.le_of_ble_eq_true rfl, Nat.le_of_ble_eq_true rfl⟩) (ro_pS hK hP) rfl rfl hl.1 rfl (lv_room (Nat.le_of_ble_eq_true rfl)) dL_greedy_14 ⟨Nat.le_of_ble_eq_true rfl, Nat.le_of_ble_eq_true rfl⟩) ?_
  refine lv_topi (fun x14 ex14 => ?_)
  refine lv_istore_n (pc := 17) (lv' := [(3, .int x14), (0, .ref dd), (1, .long u)]) hx hb dL_greedy_17 rfl hl (by decide) rfl (fun ls hl => ?_)
  refine lv_iload_n (pc := 18) hx hb dL_greedy_18 rfl (lv_at hl 0 rfl) ?_
  refine lv_if_lt (pc := 19) (tgt := 24) hx hb dL_greedy_19 (by decide) (fun c19 => ?_) (fun c19 => ?_)
  · have h3 := oI_neg ex3 (Int32.not_le.mp c8) (fun b h => fstk_lt hC h)
    have h4 := oI_neg ex14 c19 (fun b h => fstk_lt hC h)
    refine lv_bipush (pc := 24) (v := nI 99) hx hb dL_greedy_24 rfl ?_
    refine lv_istore (pc := 26) (lv' := [(4, .int (nI 99)), (3, .int x14), (0, .ref dd), (1, .long u)]) hx hb dL_greedy_26 hl (by decide) rfl (fun ls hl => ?_)
    refine lv_aload_n (pc := 28) hx hb dL_greedy_28 rfl (lv_at hl 2 rfl) ?_
    refine ro_go (pc := 29) (va_runS (As := [.ref dd]) (rest := []) ⟨hx, hb, hml, hown, hts⟩ (c_L_lines l D Y dd c r dx dy (hC)) (va_cwS 1 hts gL_greedy_L_lines rfl rfl rfl hdL_lines ⟨Nat.le_of_ble_eq_true rfl, Nat.le_of_ble_eq_true rfl⟩) (ro_pS hK hP) rfl rfl hl.1 rfl (lv_room (Nat.le_of_ble_eq_true rfl)) dL_greedy_29 ⟨Nat.le_of_ble_eq_true rfl, Nat.le_of_ble_eq_true rfl⟩) ?_
    refine lv_iconst (pc := 32) (v := nI 1) hx hb dL_greedy_32 rfl ?_
    refine lv_isub (pc := 33) hx hb dL_greedy_33 ?_
    refine lv_istore (pc := 34) (lv' := [(5, .int ((nI (al c r)) - (nI 1))), (4, .int (nI 99)), (3, .int x14), (0, .ref dd), (1, .long u)]) hx hb dL_greedy_34 hl (by decide) rfl (fun ls hl => ?_)
    have L36 : ∀ (n36 : Nat), ∀ (i : Nat) (x : Int32) (p : Nat), (i ≤ al c r) → (p ≤ 99) → (GrI c r u i x p) → i < n36 → ∀ (ls : Array Slot), lv_has ls 6 [(0, .ref dd), (1, .long u), (3, .int x), (4, .int (nI p)), (5, .int (nI i - nI 1))] → W pG l eG ({ frames := 6, cells := 0, slots := 0, locals := 146 } : Room) sG mG aG bG tG cG sG.heap [] 0 0 (MQ bG (RoQ (some (.int (oI (grM c r u))))) aG sG 0 0 (fun _ => False)) (F0 mG 36 ls []) := by
      intro n36
      induction n36 with
      | zero =>
        intro i x p hi hp99 hgr hmeas36  ls hl
        exact absurd hmeas36 (Nat.not_lt_zero _)
      | succ n36 ih36 =>
        intro i x p hi hp99 hgr hmeas36  ls hl
        refine lv_iload (pc := 36) hx hb dL_greedy_36 (lv_at hl 4 rfl) ?_
        refine lv_if_lt (pc := 38) (tgt := 89) hx hb dL_greedy_38 (by decide) (fun c38 => ?_) (fun c38 => ?_)
        · have hi0 : i = 0 := by rcases Nat.eq_zero_or_pos i with q | q; exact q; rw [pk_sub q] at c38; exact absurd c38 (nI_pos (by omega))
          refine lv_iload_n (pc := 89) hx hb dL_greedy_89 rfl (lv_at hl 2 rfl) ?_
          exact ro_iret (v := x) hx hb hr hlocks (by rw [grM_3 h3 h4]; exact GrI.all (by rw [← hi0]; exact hgr)) dL_greedy_90
        have hi9 : 0 < i := by rcases Nat.eq_zero_or_pos i with q | q; rw [q] at c38; exact absurd (by decide) c38; exact q
        rw [pk_sub hi9] at hl
        have hl : lv_has ls 6 [(0, .ref dd), (1, .long u), (3, .int x), (4, .int (nI p)), (5, .int (nI (i - 1)))] := hl
        refine lv_lload_n (pc := 41) hx hb dL_greedy_41 rfl (lv_at hl 1 rfl) ?_
        refine lv_iload (pc := 42) hx hb dL_greedy_42 (lv_at hl 4 rfl) ?_
        refine ro_go (pc := 44) (va_runS (As := [.long u, .int (nI (i - 1))]) (rest := []) ⟨hx, hb, hml, hown, hts⟩ (c_L_has l D Y u (i - 1) (by omega)) (va_cwS 2 hts gL_greedy_L_has rfl rfl rfl hdL_has ⟨Nat.le_of_ble_eq_true rfl, Nat.le_of_ble_eq_true rfl⟩) (ro_pS hK (hP.sub [] rfl)) rfl rfl hl.1 rfl (lv_room (Nat.le_of_ble_eq_true rfl)) dL_greedy_44 ⟨Nat.le_of_ble_eq_true rfl, Nat.le_of_ble_eq_true rfl⟩) ?_
        refine z_if_ne (pc := 47) (tgt := 83) hx hb dL_greedy_47 (by decide) (fun c47 => ?_) (fun c47 => ?_)
        · refine lv_iinc (pc := 83) (v := nI (i - 1) - nI 1) (lv' := [(5, .int (nI (i - 1) - nI 1)), (0, .ref dd), (1, .long u), (3, .int x), (4, .int (nI p))]) hx hb dL_greedy_83 hl (k := 4) rfl (inc_m1) (by decide) rfl (fun ls hl => ?_)
          refine lv_goto (pc := 86) (tgt := 36) hx hb dL_greedy_86 (by decide) ?_
          exact ih36 (i - 1) x p (by omega) (hp99) (hgr.dn (by omega) c47) (by omega) _ (lv_sub hl [1, 2, 3, 4, 0] rfl)
        refine lv_aload_n (pc := 50) hx hb dL_greedy_50 rfl (lv_at hl 0 rfl) ?_
        refine lv_lload_n (pc := 51) hx hb dL_greedy_51 rfl (lv_at hl 1 rfl) ?_
        refine lv_lconst (pc := 52) (v := 1) hx hb dL_greedy_52 (by decide) ?_
        refine lv_iload (pc := 53) hx hb dL_greedy_53 (lv_at hl 4 rfl) ?_
        refine lv_lshl (pc := 55) (v := b1 (i - 1)) hx hb dL_greedy_55 (b1_shl _ (by omega)) ?_
        refine lv_lor (pc := 56) hx hb dL_greedy_56 ?_
        refine ro_go (pc := 57) (va_runS (As := [.ref dd, .long (u ||| (b1 (i - 1)))]) (rest := []) ⟨hx, hb, hml, hown, hts⟩ (c_L_run l D Y dd c r dx dy (u ||| (b1 (i - 1))) (hC)) (va_cwS 2 hts gL_greedy_L_run rfl rfl rfl hdL_run ⟨Nat.le_of_ble_eq_true rfl, Nat.le_of_ble_eq_true rfl⟩) (ro_pS hK hP) rfl rfl hl.1 rfl (lv_room (Nat.le_of_ble_eq_true rfl)) dL_greedy_57 ⟨Nat.le_of_ble_eq_true rfl, Nat.le_of_ble_eq_true rfl⟩) ?_
        refine lv_iload (pc := 60) hx hb dL_greedy_60 (lv_at hl 3 rfl) ?_
        refine n_icmp_le (pc := 62) (tgt := 68) hx hb (by have := run_le hC (u ||| b1 (i - 1)); omega) (by omega) dL_greedy_62 (by decide) (fun c62 => ?_) (fun c62 => ?_)
        · refine lv_aload_n (pc := 68) hx hb dL_greedy_68 rfl (lv_at hl 0 rfl) ?_
          refine lv_lload_n (pc := 69) hx hb dL_greedy_69 rfl (lv_at hl 1 rfl) ?_
          refine lv_lconst (pc := 70) (v := 1) hx hb dL_greedy_70 (by decide) ?_
          refine lv_iload (pc := 71) hx hb dL_greedy_71 (lv_at hl 4 rfl) ?_
          refine lv_lshl (pc := 73) (v := b1 (i - 1)) hx hb dL_greedy_73 (b1_shl _ (by omega)) ?_
          refine lv_lor (pc := 74) hx hb dL_greedy_74 ?_
          refine ro_go (pc := 75) (va_runS (As := [.ref dd, .long (u ||| (b1 (i - 1)))]) (rest := []) ⟨hx, hb, hml, hown, hts⟩ (c_L_run l D Y dd c r dx dy (u ||| (b1 (i - 1))) (hC)) (va_cwS 2 hts gL_greedy_L_run rfl rfl rfl hdL_run ⟨Nat.le_of_ble_eq_true rfl, Nat.le_of_ble_eq_true rfl⟩) (ro_pS hK hP) rfl rfl hl.1 rfl (lv_room (Nat.le_of_ble_eq_true rfl)) dL_greedy_75 ⟨Nat.le_of_ble_eq_true rfl, Nat.le_of_ble_eq_true rfl⟩) ?_
          refine lv_istore (pc := 78) (lv' := [(4, .int (nI (run c r (u ||| (b1 (i - 1)))))), (0, .ref dd), (1, .long u), (3, .int x), (5, .int (nI (i - 1)))]) hx hb dL_greedy_78 hl (by decide) rfl (fun ls hl => ?_)
          refine lv_iload (pc := 80) hx hb dL_greedy_80 (lv_at hl 4 rfl) ?_
          refine lv_istore_n (pc := 82) (lv' := [(3, .int (nI (i - 1))), (4, .int (nI (run c r (u ||| (b1 (i - 1)))))), (0, .ref dd), (1, .long u), (5, .int (nI (i - 1)))]) hx hb dL_greedy_82 rfl hl (by decide) rfl (fun ls hl => ?_)
          refine lv_iinc (pc := 83) (v := nI (i - 1) - nI 1) (lv' := [(5, .int (nI (i - 1) - nI 1)), (3, .int (nI (i - 1))), (4, .int (nI (run c r (u ||| (b1 (i - 1)))))), (0, .ref dd), (1, .long u)]) hx hb dL_greedy_83 hl (k := 4) rfl (inc_m1) (by decide) rfl (fun ls hl => ?_)
          refine lv_goto (pc := 86) (tgt := 36) hx hb dL_greedy_86 (by decide) ?_
          exact ih36 (i - 1) (nI (i - 1)) (run c r (u ||| (b1 (i - 1)))) (by omega) (by have := run_le hC (u ||| b1 (i - 1)); omega) (hgr.new (by omega) hi c47 c62) (by omega) _ (lv_sub hl [3, 4, 1, 2, 0] rfl)
        refine lv_goto (pc := 65) (tgt := 83) hx hb dL_greedy_65 (by decide) ?_
        refine lv_iinc (pc := 83) (v := nI (i - 1) - nI 1) (lv' := [(5, .int (nI (i - 1) - nI 1)), (0, .ref dd), (1, .long u), (3, .int x), (4, .int (nI p))]) hx hb dL_greedy_83 hl (k := 4) rfl (inc_m1) (by decide) rfl (fun ls hl => ?_)
        refine lv_goto (pc := 86) (tgt := 36) hx hb dL_greedy_86 (by decide) ?_
        exact ih36 (i - 1) x p (by omega) (hp99) (hgr.no hC (by omega) c62) (by omega) _ (lv_sub hl [1, 2, 3, 4, 0] rfl)
    exact L36 ((al c r) + 1) (al c r) x14 99 (Nat.le_refl _) (Nat.le_refl _) (by rw [ex14, h4]; exact GrI.z) (Nat.lt_succ_self _) _ (lv_sub hl [3, 4, 2, 1, 0] rfl)
  refine lv_iload_n (pc := 22) hx hb dL_greedy_22 rfl (lv_at hl 0 rfl) ?_
  exact ro_iret (v := x14) hx hb hr hlocks (by have h3 := oI_neg ex3 (Int32.not_le.mp c8) (fun b h => fstk_lt hC h); obtain ⟨b, hb9, _⟩ := oI_pos ex14 c19; rw [ex14, grM_2 h3 hb9, hb9]) dL_greedy_23

set_option maxHeartbeats 1200000 in
set_option maxRecDepth 100000 in
theorem c_L_keeping (l : Launch) (D : va_G) (Y : vY) (dd : Nat) (c : Nat) (r : Nat) (dx : Int32) (dy : Int32) (u : Int64) (hC : Cr c r) : Ro l yL_keeping wsL_keeping ({ frames := 7, cells := 0, slots := 0, locals := 171 } : Room) [.ref dd, .long u] D Y [(dd, .inl (Y.1, 4, .inl (dF (nI c) (nI r) dx dy)))] (some (.int (oI (kpM c r u)))) := by
  refine ro_intro (by decide +kernel) rfl (Nat.le_of_ble_eq_true rfl) [(0, .ref dd), (1, .long u)] rfl ?_
  intro pG eG sG mG aG bG tG cG ls hx hb hr hml hts hown hlocks hK hP hl
  have hP : va_P D vwCl [(dd, .inl (Y.1, 4, .inl (dF (nI c) (nI r) dx dy)))] sG.heap := hP
  have hown : sG.vm.findClass RL = some mG.cls := hown
  have hl : lv_has ls 5 [(0, .ref dd), (1, .long u)] := hl
  obtain ⟨hq1, hq2, hq3, hq4, hq5, hq6, hq7, hq8, hq9, hq10, hq11⟩ := hC.q
  have hcl := wth_le c r u 0
  have hrl := run_le hC u
  refine lv_aload_n (pc := 0) hx hb dL_keeping_0 rfl (lv_at hl 0 rfl) ?_
  refine lv_iconst (pc := 1) (v := nI 1) hx hb dL_keeping_1 rfl ?_
  refine lv_lload_n (pc := 2) hx hb dL_keeping_2 rfl (lv_at hl 1 rfl) ?_
  refine ro_go (pc := 3) (va_runS (As := [.ref dd, .int (nI 1), .long u]) (rest := []) ⟨hx, hb, hml, hown, hts⟩ (c_L_first l D Y dd c r dx dy 1 u (hC) (by decide)) (va_cwS 3 hts gL_keeping_L_first rfl rfl rfl hdL_first ⟨Nat.le_of_ble_eq_true rfl, Nat.le_of_ble_eq_true rfl⟩) (ro_pS hK hP) rfl rfl hl.1 rfl (lv_room (Nat.le_of_ble_eq_true rfl)) dL_keeping_3 ⟨Nat.le_of_ble_eq_true rfl, Nat.le_of_ble_eq_true rfl⟩) ?_
  refine lv_topi (fun x3 ex3 => ?_)
  refine lv_if_lt (pc := 6) (tgt := 45) hx hb dL_keeping_6 (by decide) (fun c6 => ?_) (fun c6 => ?_)
  · refine lv_aload_n (pc := 45) hx hb dL_keeping_45 rfl (lv_at hl 0 rfl) ?_
    refine lv_lload_n (pc := 46) hx hb dL_keeping_46 rfl (lv_at hl 1 rfl) ?_
    refine ro_go (pc := 47) (va_runS (As := [.ref dd, .long u]) (rest := []) ⟨hx, hb, hml, hown, hts⟩ (c_L_greedy l D Y dd c r dx dy u (hC)) (va_cwS 2 hts gL_keeping_L_greedy rfl rfl rfl hdL_greedy ⟨Nat.le_of_ble_eq_true rfl, Nat.le_of_ble_eq_true rfl⟩) (ro_pS hK hP) rfl rfl hl.1 rfl (lv_room (Nat.le_of_ble_eq_true rfl)) dL_keeping_47 ⟨Nat.le_of_ble_eq_true rfl, Nat.le_of_ble_eq_true rfl⟩) ?_
    refine lv_topi (fun x47 ex47 => ?_)
    exact ro_iret (v := x47) hx hb hr hlocks (by rw [ex47, kp_c (Or.inl (oI_neg ex3 c6 (fun b h => fstk_lt hC h)))]) dL_keeping_50
  refine lv_aload_n (pc := 9) hx hb dL_keeping_9 rfl (lv_at hl 0 rfl) ?_
  refine lv_iconst (pc := 10) (v := nI 2) hx hb dL_keeping_10 rfl ?_
  refine lv_lload_n (pc := 11) hx hb dL_keeping_11 rfl (lv_at hl 1 rfl) ?_
  refine ro_go (pc := 12) (va_runS (As := [.ref dd, .int (nI 2), .long u]) (rest := []) ⟨hx, hb, hml, hown, hts⟩ (c_L_first l D Y dd c r dx dy 2 u (hC) (by decide)) (va_cwS 3 hts gL_keeping_L_first rfl rfl rfl hdL_first ⟨Nat.le_of_ble_eq_true rfl, Nat.le_of_ble_eq_true rfl⟩) (ro_pS hK hP) rfl rfl hl.1 rfl (lv_room (Nat.le_of_ble_eq_true rfl)) dL_keeping_12 ⟨Nat.le_of_ble_eq_true rfl, Nat.le_of_ble_eq_true rfl⟩) ?_
  refine lv_topi (fun x12 ex12 => ?_)
  refine lv_if_ge (pc := 15) (tgt := 45) hx hb dL_keeping_15 (by decide) (fun c15 => ?_) (fun c15 => ?_)
  · refine lv_aload_n (pc := 45) hx hb dL_keeping_45 rfl (lv_at hl 0 rfl) ?_
    refine lv_lload_n (pc := 46) hx hb dL_keeping_46 rfl (lv_at hl 1 rfl) ?_
    refine ro_go (pc := 47) (va_runS (As := [.ref dd, .long u]) (rest := []) ⟨hx, hb, hml, hown, hts⟩ (c_L_greedy l D Y dd c r dx dy u (hC)) (va_cwS 2 hts gL_keeping_L_greedy rfl rfl rfl hdL_greedy ⟨Nat.le_of_ble_eq_true rfl, Nat.le_of_ble_eq_true rfl⟩) (ro_pS hK hP) rfl rfl hl.1 rfl (lv_room (Nat.le_of_ble_eq_true rfl)) dL_keeping_47 ⟨Nat.le_of_ble_eq_true rfl, Nat.le_of_ble_eq_true rfl⟩) ?_
    refine lv_topi (fun x47 ex47 => ?_)
    exact ro_iret (v := x47) hx hb hr hlocks (by obtain ⟨b, hb9, _⟩ := oI_pos ex12 (Int32.not_lt.mpr c15); rw [ex47, kp_c (Or.inr (by rw [hb9]; exact fun q => by cases q))]) dL_keeping_50
  refine lv_aload_n (pc := 18) hx hb dL_keeping_18 rfl (lv_at hl 0 rfl) ?_
  refine lv_lload_n (pc := 19) hx hb dL_keeping_19 rfl (lv_at hl 1 rfl) ?_
  refine ro_go (pc := 20) (va_runS (As := [.ref dd, .long u]) (rest := []) ⟨hx, hb, hml, hown, hts⟩ (c_L_run l D Y dd c r dx dy u (hC)) (va_cwS 2 hts gL_keeping_L_run rfl rfl rfl hdL_run ⟨Nat.le_of_ble_eq_true rfl, Nat.le_of_ble_eq_true rfl⟩) (ro_pS hK hP) rfl rfl hl.1 rfl (lv_room (Nat.le_of_ble_eq_true rfl)) dL_keeping_20 ⟨Nat.le_of_ble_eq_true rfl, Nat.le_of_ble_eq_true rfl⟩) ?_
  refine lv_iconst (pc := 23) (v := nI 2) hx hb dL_keeping_23 rfl ?_
  refine n_icmp_ne (pc := 24) (tgt := 45) hx hb (by omega) (by decide) dL_keeping_24 (by decide) (fun c24 => ?_) (fun c24 => ?_)
  · refine lv_aload_n (pc := 45) hx hb dL_keeping_45 rfl (lv_at hl 0 rfl) ?_
    refine lv_lload_n (pc := 46) hx hb dL_keeping_46 rfl (lv_at hl 1 rfl) ?_
    refine ro_go (pc := 47) (va_runS (As := [.ref dd, .long u]) (rest := []) ⟨hx, hb, hml, hown, hts⟩ (c_L_greedy l D Y dd c r dx dy u (hC)) (va_cwS 2 hts gL_keeping_L_greedy rfl rfl rfl hdL_greedy ⟨Nat.le_of_ble_eq_true rfl, Nat.le_of_ble_eq_true rfl⟩) (ro_pS hK hP) rfl rfl hl.1 rfl (lv_room (Nat.le_of_ble_eq_true rfl)) dL_keeping_47 ⟨Nat.le_of_ble_eq_true rfl, Nat.le_of_ble_eq_true rfl⟩) ?_
    refine lv_topi (fun x47 ex47 => ?_)
    exact ro_iret (v := x47) hx hb hr hlocks (by rw [ex47, kp_b (ke_no (Or.inr c24))]) dL_keeping_50
  refine lv_aload_n (pc := 27) hx hb dL_keeping_27 rfl (lv_at hl 0 rfl) ?_
  refine lv_iconst (pc := 28) (v := nI 0) hx hb dL_keeping_28 rfl ?_
  refine va_iald (pc := 29) hx hb hK.1 hP 0 0 rfl rfl (vp_in_nI (by omega) (by decide)) dL_keeping_29 ?_
  refine top_i (show (dF (nI c) (nI r) dx dy) (nI 0).toNatClampNeg = nI c from by rw [nI_clamp (by decide)]; rfl) ?_
  refine lv_aload_n (pc := 30) hx hb dL_keeping_30 rfl (lv_at hl 0 rfl) ?_
  refine lv_iconst (pc := 31) (v := nI 1) hx hb dL_keeping_31 rfl ?_
  refine va_iald (pc := 32) hx hb hK.1 hP 0 0 rfl rfl (vp_in_nI (by omega) (by decide)) dL_keeping_32 ?_
  refine top_i (show (dF (nI c) (nI r) dx dy) (nI 1).toNatClampNeg = nI r from by rw [nI_clamp (by decide)]; rfl) ?_
  refine n_imul (pc := 33) hx hb dL_keeping_33 ?_
  refine lv_aload_n (pc := 34) hx hb dL_keeping_34 rfl (lv_at hl 0 rfl) ?_
  refine lv_iconst (pc := 35) (v := nI 0) hx hb dL_keeping_35 rfl ?_
  refine lv_lload_n (pc := 36) hx hb dL_keeping_36 rfl (lv_at hl 1 rfl) ?_
  refine ro_go (pc := 37) (va_runS (As := [.ref dd, .int (nI 0), .long u]) (rest := [.int (nI (c * r))]) ⟨hx, hb, hml, hown, hts⟩ (c_L_with l D Y dd c r dx dy 0 u (hC) (by first | decide | omega)) (va_cwS 3 hts gL_keeping_L_with rfl rfl rfl hdL_with ⟨Nat.le_of_ble_eq_true rfl, Nat.le_of_ble_eq_true rfl⟩) (ro_pS hK hP) rfl rfl hl.1 rfl (lv_room (Nat.le_of_ble_eq_true rfl)) dL_keeping_37 ⟨Nat.le_of_ble_eq_true rfl, Nat.le_of_ble_eq_true rfl⟩) ?_
  refine n_isub (pc := 40) hx hb (hcl) dL_keeping_40 ?_
  refine lv_iconst (pc := 41) (v := nI 5) hx hb dL_keeping_41 rfl ?_
  refine n_icmp_ge (pc := 42) (tgt := 51) hx hb (by omega) (by decide) dL_keeping_42 (by decide) (fun c42 => ?_) (fun c42 => ?_)
  · have hf1 : fstk c r u 1 ≠ none := fun q => c6 (by rw [ex3, q]; decide)
    have hf2 := oI_neg ex12 (Int32.not_le.mp c15) (fun b h => fstk_lt hC h)
    have hf3 := c24
    have hf4 : ¬ c * r - cmpl c r u < 5 := by rw [← wth_0]; omega
    refine lv_iconst (pc := 51) (v := nI 0) hx hb dL_keeping_51 rfl ?_
    refine lv_istore_n (pc := 52) (lv' := [(3, .int (nI 0)), (0, .ref dd), (1, .long u)]) hx hb dL_keeping_52 rfl hl (by decide) rfl (fun ls hl => ?_)
    have L53 : ∀ (n53 : Nat), ∀ (i : Nat), (i ≤ al c r) → (∀ j, j < i → (decide (1 < knd c r u j) && hdt c r (u ||| b1 j)) = false) → al c r - i < n53 → ∀ (ls : Array Slot), lv_has ls 5 [(0, .ref dd), (1, .long u), (3, .int (nI i))] → W pG l eG ({ frames := 7, cells := 0, slots := 0, locals := 171 } : Room) sG mG aG bG tG cG sG.heap [] 0 0 (MQ bG (RoQ (some (.int (oI (kpM c r u))))) aG sG 0 0 (fun _ => False)) (F0 mG 53 ls []) := by
      intro n53
      induction n53 with
      | zero =>
        intro i hi hno hmeas53  ls hl
        exact absurd hmeas53 (Nat.not_lt_zero _)
      | succ n53 ih53 =>
        intro i hi hno hmeas53  ls hl
        refine lv_iload_n (pc := 53) hx hb dL_keeping_53 rfl (lv_at hl 2 rfl) ?_
        refine lv_aload_n (pc := 54) hx hb dL_keeping_54 rfl (lv_at hl 0 rfl) ?_
        refine ro_go (pc := 55) (va_runS (As := [.ref dd]) (rest := [.int (nI i)]) ⟨hx, hb, hml, hown, hts⟩ (c_L_lines l D Y dd c r dx dy (hC)) (va_cwS 1 hts gL_keeping_L_lines rfl rfl rfl hdL_lines ⟨Nat.le_of_ble_eq_true rfl, Nat.le_of_ble_eq_true rfl⟩) (ro_pS hK hP) rfl rfl hl.1 rfl (lv_room (Nat.le_of_ble_eq_true rfl)) dL_keeping_55 ⟨Nat.le_of_ble_eq_true rfl, Nat.le_of_ble_eq_true rfl⟩) ?_
        refine n_icmp_ge (pc := 58) (tgt := 130) hx hb (by omega) (by omega) dL_keeping_58 (by decide) (fun c58 => ?_) (fun c58 => ?_)
        · refine lv_aload_n (pc := 130) hx hb dL_keeping_130 rfl (lv_at hl 0 rfl) ?_
          refine lv_lload_n (pc := 131) hx hb dL_keeping_131 rfl (lv_at hl 1 rfl) ?_
          refine ro_go (pc := 132) (va_runS (As := [.ref dd, .long u]) (rest := []) ⟨hx, hb, hml, hown, hts⟩ (c_L_greedy l D Y dd c r dx dy u (hC)) (va_cwS 2 hts gL_keeping_L_greedy rfl rfl rfl hdL_greedy ⟨Nat.le_of_ble_eq_true rfl, Nat.le_of_ble_eq_true rfl⟩) (ro_pS hK hP) rfl rfl hl.1 rfl (lv_room (Nat.le_of_ble_eq_true rfl)) dL_keeping_132 ⟨Nat.le_of_ble_eq_true rfl, Nat.le_of_ble_eq_true rfl⟩) ?_
          refine lv_topi (fun x132 ex132 => ?_)
          exact ro_iret (v := x132) hx hb hr hlocks (by rw [ex132, kp_b (ke_nn hf4 hf3 hno c58)]) dL_keeping_135
        refine lv_aload_n (pc := 61) hx hb dL_keeping_61 rfl (lv_at hl 0 rfl) ?_
        refine lv_iload_n (pc := 62) hx hb dL_keeping_62 rfl (lv_at hl 2 rfl) ?_
        refine lv_lload_n (pc := 63) hx hb dL_keeping_63 rfl (lv_at hl 1 rfl) ?_
        refine ro_go (pc := 64) (va_runS (As := [.ref dd, .int (nI i), .long u]) (rest := []) ⟨hx, hb, hml, hown, hts⟩ (c_L_kind l D Y dd c r dx dy i u (hC) (by first | assumption | omega)) (va_cwS 3 hts gL_keeping_L_kind rfl rfl rfl hdL_kind ⟨Nat.le_of_ble_eq_true rfl, Nat.le_of_ble_eq_true rfl⟩) (ro_pS hK hP) rfl rfl hl.1 rfl (lv_room (Nat.le_of_ble_eq_true rfl)) dL_keeping_64 ⟨Nat.le_of_ble_eq_true rfl, Nat.le_of_ble_eq_true rfl⟩) ?_
        refine lv_iconst (pc := 67) (v := nI 2) hx hb dL_keeping_67 rfl ?_
        refine n_icmp_ge (pc := 68) (tgt := 74) hx hb (by have := knd_le c r u i; omega) (by decide) dL_keeping_68 (by decide) (fun c68 => ?_) (fun c68 => ?_)
        · refine lv_iconst (pc := 74) (v := nI 0) hx hb dL_keeping_74 rfl ?_
          refine lv_istore (pc := 75) (lv' := [(4, .int (nI 0)), (0, .ref dd), (1, .long u), (3, .int (nI i))]) hx hb dL_keeping_75 hl (by decide) rfl (fun ls hl => ?_)
          have L77 : ∀ (n77 : Nat), ∀ (k : Nat), (k ≤ al c r) → (∀ l, l < k → (fun l => !tb (u ||| b1 i) l && decide (gai c r (u ||| b1 i) l = 2)) l = false) → al c r - k < n77 → ∀ (ls : Array Slot), lv_has ls 5 [(0, .ref dd), (1, .long u), (3, .int (nI i)), (4, .int (nI k))] → W pG l eG ({ frames := 7, cells := 0, slots := 0, locals := 171 } : Room) sG mG aG bG tG cG sG.heap [] 0 0 (MQ bG (RoQ (some (.int (oI (kpM c r u))))) aG sG 0 0 (fun _ => False)) (F0 mG 77 ls []) := by
            intro n77
            induction n77 with
            | zero =>
              intro k hk9 hin hmeas77  ls hl
              exact absurd hmeas77 (Nat.not_lt_zero _)
            | succ n77 ih77 =>
              intro k hk9 hin hmeas77  ls hl
              have hti : tb (u ||| b1 i) i = true := by rw [tb_or, tb_b1 (by omega), decide_eq_true rfl, Bool.or_true]
              refine lv_iload (pc := 77) hx hb dL_keeping_77 (lv_at hl 3 rfl) ?_
              refine lv_aload_n (pc := 79) hx hb dL_keeping_79 rfl (lv_at hl 0 rfl) ?_
              refine ro_go (pc := 80) (va_runS (As := [.ref dd]) (rest := [.int (nI k)]) ⟨hx, hb, hml, hown, hts⟩ (c_L_lines l D Y dd c r dx dy (hC)) (va_cwS 1 hts gL_keeping_L_lines rfl rfl rfl hdL_lines ⟨Nat.le_of_ble_eq_true rfl, Nat.le_of_ble_eq_true rfl⟩) (ro_pS hK hP) rfl rfl hl.1 rfl (lv_room (Nat.le_of_ble_eq_true rfl)) dL_keeping_80 ⟨Nat.le_of_ble_eq_true rfl, Nat.le_of_ble_eq_true rfl⟩) ?_
              refine n_icmp_ge (pc := 83) (tgt := 124) hx hb (by omega) (by omega) dL_keeping_83 (by decide) (fun c83 => ?_) (fun c83 => ?_)
              · refine lv_iinc (pc := 124) (v := nI (i + 1)) (lv' := [(3, .int (nI (i + 1))), (0, .ref dd), (1, .long u), (4, .int (nI k))]) hx hb dL_keeping_124 hl (k := 2) rfl (n_inc i 1) (by decide) rfl (fun ls hl => ?_)
                refine lv_goto (pc := 127) (tgt := 53) hx hb dL_keeping_127 (by decide) ?_
                exact ih53 (i + 1) (by omega) (lt_s hno (by rw [show hdt c r (u ||| b1 i) = false from bfn (fun q => by obtain ⟨l, hl1, hl2⟩ := orb_iff.mp q; exact absurd (hl2.symm.trans (hin l (by omega))) (by decide)), Bool.and_false])) (by omega) _ (lv_sub hl [1, 2, 0] rfl)
              refine lv_iload (pc := 86) hx hb dL_keeping_86 (lv_at hl 3 rfl) ?_
              refine lv_iload_n (pc := 88) hx hb dL_keeping_88 rfl (lv_at hl 2 rfl) ?_
              refine n_icmp_eq (pc := 89) (tgt := 118) hx hb (by omega) (by omega) dL_keeping_89 (by decide) (fun c89 => ?_) (fun c89 => ?_)
              · refine lv_iinc (pc := 118) (v := nI (k + 1)) (lv' := [(4, .int (nI (k + 1))), (0, .ref dd), (1, .long u), (3, .int (nI i))]) hx hb dL_keeping_118 hl (k := 3) rfl (n_inc k 1) (by decide) rfl (fun ls hl => ?_)
                refine lv_goto (pc := 121) (tgt := 77) hx hb dL_keeping_121 (by decide) ?_
                exact ih77 (k + 1) (by omega) (lt_s hin (by show (!tb (u ||| b1 i) k && _) = false; rw [c89, hti]; rfl)) (by omega) _ (lv_sub hl [1, 2, 3, 0] rfl)
              refine lv_lload_n (pc := 92) hx hb dL_keeping_92 rfl (lv_at hl 1 rfl) ?_
              refine lv_iload (pc := 93) hx hb dL_keeping_93 (lv_at hl 3 rfl) ?_
              refine ro_go (pc := 95) (va_runS (As := [.long u, .int (nI k)]) (rest := []) ⟨hx, hb, hml, hown, hts⟩ (c_L_has l D Y u k (by omega)) (va_cwS 2 hts gL_keeping_L_has rfl rfl rfl hdL_has ⟨Nat.le_of_ble_eq_true rfl, Nat.le_of_ble_eq_true rfl⟩) (ro_pS hK (hP.sub [] rfl)) rfl rfl hl.1 rfl (lv_room (Nat.le_of_ble_eq_true rfl)) dL_keeping_95 ⟨Nat.le_of_ble_eq_true rfl, Nat.le_of_ble_eq_true rfl⟩) ?_
              refine z_if_ne (pc := 98) (tgt := 118) hx hb dL_keeping_98 (by decide) (fun c98 => ?_) (fun c98 => ?_)
              · refine lv_iinc (pc := 118) (v := nI (k + 1)) (lv' := [(4, .int (nI (k + 1))), (0, .ref dd), (1, .long u), (3, .int (nI i))]) hx hb dL_keeping_118 hl (k := 3) rfl (n_inc k 1) (by decide) rfl (fun ls hl => ?_)
                refine lv_goto (pc := 121) (tgt := 77) hx hb dL_keeping_121 (by decide) ?_
                exact ih77 (k + 1) (by omega) (lt_s hin (by show (!tb (u ||| b1 i) k && _) = false; rw [tb_or, c98]; rfl)) (by omega) _ (lv_sub hl [1, 2, 3, 0] rfl)
              have htk : tb (u ||| b1 i) k = false := by rw [tb_or, c98, tb_b1 (by omega), decide_eq_false c89]; rfl
              refine lv_aload_n (pc := 101) hx hb dL_keeping_101 rfl (lv_at hl 0 rfl) ?_
              refine lv_iload (pc := 102) hx hb dL_keeping_102 (lv_at hl 3 rfl) ?_
              refine lv_lload_n (pc := 104) hx hb dL_keeping_104 rfl (lv_at hl 1 rfl) ?_
              refine lv_lconst (pc := 105) (v := 1) hx hb dL_keeping_105 (by decide) ?_
              refine lv_iload_n (pc := 106) hx hb dL_keeping_106 rfl (lv_at hl 2 rfl) ?_
              refine lv_lshl (pc := 107) (v := b1 i) hx hb dL_keeping_107 (b1_shl i (by omega)) ?_
              refine lv_lor (pc := 108) hx hb dL_keeping_108 ?_
              refine ro_go (pc := 109) (va_runS (As := [.ref dd, .int (nI k), .long (u ||| (b1 i))]) (rest := []) ⟨hx, hb, hml, hown, hts⟩ (c_L_gain l D Y dd c r dx dy k (u ||| (b1 i)) (hC) (by first | assumption | omega)) (va_cwS 3 hts gL_keeping_L_gain rfl rfl rfl hdL_gain ⟨Nat.le_of_ble_eq_true rfl, Nat.le_of_ble_eq_true rfl⟩) (ro_pS hK hP) rfl rfl hl.1 rfl (lv_room (Nat.le_of_ble_eq_true rfl)) dL_keeping_109 ⟨Nat.le_of_ble_eq_true rfl, Nat.le_of_ble_eq_true rfl⟩) ?_
              refine lv_iconst (pc := 112) (v := nI 2) hx hb dL_keeping_112 rfl ?_
              refine n_icmp_ne (pc := 113) (tgt := 118) hx hb (by have := gaL_le c r (u ||| b1 i) k; omega) (by decide) dL_keeping_113 (by decide) (fun c113 => ?_) (fun c113 => ?_)
              · refine lv_iinc (pc := 118) (v := nI (k + 1)) (lv' := [(4, .int (nI (k + 1))), (0, .ref dd), (1, .long u), (3, .int (nI i))]) hx hb dL_keeping_118 hl (k := 3) rfl (n_inc k 1) (by decide) rfl (fun ls hl => ?_)
                refine lv_goto (pc := 121) (tgt := 77) hx hb dL_keeping_121 (by decide) ?_
                exact ih77 (k + 1) (by omega) (lt_s hin (by show (!tb (u ||| b1 i) k && _) = false; rw [decide_eq_false (by rw [← gaL_f htk]; exact c113), Bool.and_false])) (by omega) _ (lv_sub hl [1, 2, 3, 0] rfl)
              refine lv_iload_n (pc := 116) hx hb dL_keeping_116 rfl (lv_at hl 2 rfl) ?_
              exact ro_iret (v := nI i) hx hb hr hlocks (by rw [kp_a hf1 hf2 (ke_at hf4 hf3 hno c58 (by rw [decide_eq_true (by omega), Bool.true_and]; exact orb_iff.mpr ⟨k, c83, by rw [htk, decide_eq_true (by rw [← gaL_f htk]; exact c113)]; rfl⟩))]; rfl) dL_keeping_117
          exact L77 ((al c r - 0) + 1) 0 (by omega) (fun j h => absurd h (Nat.not_lt_zero _)) (Nat.lt_succ_self _) _ (lv_sub hl [1, 2, 3, 0] rfl)
        refine lv_goto (pc := 71) (tgt := 124) hx hb dL_keeping_71 (by decide) ?_
        refine lv_iinc (pc := 124) (v := nI (i + 1)) (lv' := [(3, .int (nI (i + 1))), (0, .ref dd), (1, .long u)]) hx hb dL_keeping_124 hl (k := 2) rfl (n_inc i 1) (by decide) rfl (fun ls hl => ?_)
        refine lv_goto (pc := 127) (tgt := 53) hx hb dL_keeping_127 (by decide) ?_
        exact ih53 (i + 1) (by omega) (lt_s hno (by rw [decide_eq_false (by omega), Bool.false_and])) (by omega) _ (lv_sub hl [1, 2, 0] rfl)
    exact L53 ((al c r - 0) + 1) 0 (by omega) (fun j h => absurd h (Nat.not_lt_zero _)) (Nat.lt_succ_self _) _ (lv_sub hl [1, 2, 0] rfl)
  refine lv_aload_n (pc := 45) hx hb dL_keeping_45 rfl (lv_at hl 0 rfl) ?_
  refine lv_lload_n (pc := 46) hx hb dL_keeping_46 rfl (lv_at hl 1 rfl) ?_
  refine ro_go (pc := 47) (va_runS (As := [.ref dd, .long u]) (rest := []) ⟨hx, hb, hml, hown, hts⟩ (c_L_greedy l D Y dd c r dx dy u (hC)) (va_cwS 2 hts gL_keeping_L_greedy rfl rfl rfl hdL_greedy ⟨Nat.le_of_ble_eq_true rfl, Nat.le_of_ble_eq_true rfl⟩) (ro_pS hK hP) rfl rfl hl.1 rfl (lv_room (Nat.le_of_ble_eq_true rfl)) dL_keeping_47 ⟨Nat.le_of_ble_eq_true rfl, Nat.le_of_ble_eq_true rfl⟩) ?_
  refine lv_topi (fun x47 ex47 => ?_)
  exact ro_iret (v := x47) hx hb hr hlocks (by rw [ex47, kp_b (ke_no (Or.inl (by rw [← wth_0]; exact c42)))]) dL_keeping_50

set_option maxHeartbeats 1200000 in
set_option maxRecDepth 100000 in
theorem c_L_choose (l : Launch) (D : va_G) (Y : vY) (dd : Nat) (c : Nat) (r : Nat) (dx : Int32) (dy : Int32) (st : Nat) (u : Int64) (hC : Cr c r) (hst : st ≤ 1) : Ro l yL_choose wsL_choose ({ frames := 8, cells := 0, slots := 0, locals := 195 } : Room) [.ref dd, .int (nI st), .long u] D Y [(dd, .inl (Y.1, 4, .inl (dF (nI c) (nI r) dx dy)))] (some (.int (oI (choM c r st u)))) := by
  refine ro_intro (by decide +kernel) rfl (Nat.le_of_ble_eq_true rfl) [(0, .ref dd), (1, .int (nI st)), (2, .long u)] rfl ?_
  intro pG eG sG mG aG bG tG cG ls hx hb hr hml hts hown hlocks hK hP hl
  have hP : va_P D vwCl [(dd, .inl (Y.1, 4, .inl (dF (nI c) (nI r) dx dy)))] sG.heap := hP
  have hown : sG.vm.findClass RL = some mG.cls := hown
  have hl : lv_has ls 4 [(0, .ref dd), (1, .int (nI st)), (2, .long u)] := hl
  obtain ⟨hq1, hq2, hq3, hq4, hq5, hq6, hq7, hq8, hq9, hq10, hq11⟩ := hC.q
  refine lv_iload_n (pc := 0) hx hb dL_choose_0 rfl (lv_at hl 1 rfl) ?_
  refine n_if_ne (pc := 1) (tgt := 12) hx hb (by omega) dL_choose_1 (by decide) (fun c1 => ?_) (fun c1 => ?_)
  · refine lv_aload_n (pc := 12) hx hb dL_choose_12 rfl (lv_at hl 0 rfl) ?_
    refine lv_lload_n (pc := 13) hx hb dL_choose_13 rfl (lv_at hl 2 rfl) ?_
    refine ro_go (pc := 14) (va_runS (As := [.ref dd, .long u]) (rest := []) ⟨hx, hb, hml, hown, hts⟩ (c_L_keeping l D Y dd c r dx dy u (hC)) (va_cwS 2 hts gL_choose_L_keeping rfl rfl rfl hdL_keeping ⟨Nat.le_of_ble_eq_true rfl, Nat.le_of_ble_eq_true rfl⟩) (ro_pS hK hP) rfl rfl hl.1 rfl (lv_room (Nat.le_of_ble_eq_true rfl)) dL_choose_14 ⟨Nat.le_of_ble_eq_true rfl, Nat.le_of_ble_eq_true rfl⟩) ?_
    refine lv_topi (fun x14 ex14 => ?_)
    exact ro_iret (v := x14) hx hb hr hlocks (by rw [cho_01 hst, if_neg (by omega)]; exact ex14) dL_choose_17
  refine lv_aload_n (pc := 4) hx hb dL_choose_4 rfl (lv_at hl 0 rfl) ?_
  refine lv_lload_n (pc := 5) hx hb dL_choose_5 rfl (lv_at hl 2 rfl) ?_
  refine ro_go (pc := 6) (va_runS (As := [.ref dd, .long u]) (rest := []) ⟨hx, hb, hml, hown, hts⟩ (c_L_greedy l D Y dd c r dx dy u (hC)) (va_cwS 2 hts gL_choose_L_greedy rfl rfl rfl hdL_greedy ⟨Nat.le_of_ble_eq_true rfl, Nat.le_of_ble_eq_true rfl⟩) (ro_pS hK hP) rfl rfl hl.1 rfl (lv_room (Nat.le_of_ble_eq_true rfl)) dL_choose_6 ⟨Nat.le_of_ble_eq_true rfl, Nat.le_of_ble_eq_true rfl⟩) ?_
  refine lv_topi (fun x6 ex6 => ?_)
  refine lv_goto (pc := 9) (tgt := 17) hx hb dL_choose_9 (by decide) ?_
  exact ro_iret (v := x6) hx hb hr hlocks (by rw [cho_01 hst, if_pos c1]; exact ex6) dL_choose_17
