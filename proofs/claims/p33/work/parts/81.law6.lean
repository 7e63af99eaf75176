set_option maxHeartbeats 1200000 in
set_option maxRecDepth 100000 in
theorem c_L_predicted (l : Launch) (hl9 : l.stackTraces = false) (D : va_G) (Y : vY) (zs : Nat) (zl : Nat) (c : Nat) (r : Nat) (w : Int64) (sf : Nat → Int32) (lf : Nat → Int32) (hC : Cr c r) (h6 : nst c r w ≤ 6) (hz : ∀ k, k < nst c r w → sf k = nI (ssz c r w k) ∧ lf k = nI (zn (slop c r w k))) (hz0 : Nat) : Wg l yL_predicted wsL_predicted ({ frames := 0, cells := 1, slots := 64, locals := 0 } : Room) [.ref zs, .ref zl, .int (nI (nst c r w))] D Y [(zs, .inl (Y.1, 16, .inl sf)), (zl, .inl (Y.1, 16, .inl lf))] hz0 1 64 (fun _ : Unit => some (.int (iI (prd c r w)))) (fun _ : Unit => [(zs, .inl (Y.1, 16, .inl sf)), (zl, .inl (Y.1, 16, .inl lf))]) (fun _ : Unit => True) := by
  refine wg_intro (by decide +kernel) rfl (Nat.le_of_ble_eq_true rfl) [(0, .ref zs), (1, .ref zl), (2, .int (nI (nst c r w)))] rfl ?_
  intro pG eG sG mG aG bG tG cG ls hx hb hr hml hts hown hlocks hK hXV hXZ hP hD hS hl
  generalize hAA : va_A [(zs, .inl (Y.1, 16, .inl sf)), (zl, .inl (Y.1, 16, .inl lf))] sG.heap.size = AA at hXZ hD hS ⊢
  have hA : ∀ q : Nat, sG.heap.size ≤ q → AA q := fun q h => by rw [← hAA]; exact Or.inr h
  have hP : va_P D vwCl [(zs, .inl (Y.1, 16, .inl sf)), (zl, .inl (Y.1, 16, .inl lf))] sG.heap := hP
  have hD : va_D AA [(zs, .inl (Y.1, 16, .inl sf)), (zl, .inl (Y.1, 16, .inl lf))] := hD
  have hown : sG.vm.findClass RL = some mG.cls := hown
  have hl : lv_has ls 10 [(0, .ref zs), (1, .ref zl), (2, .int (nI (nst c r w)))] := hl
  have hS : va_S AA sG.heap sG.heap [] := hS
  obtain ⟨hq1, hq2, hq3, hq4, hq5, hq6, hq7, hq8, hq9, hq10, hq11⟩ := hC.q
  have h2p := Nat.two_pow_pos (nst c r w)
  have h2q : 2 ^ nst c r w ≤ 64 := Nat.pow_le_pow_right (n := 2) (by decide) h6
  have h10 : nst c r w ≤ 10 := by omega
  have hsn := sn_b hC w
  refine lv_bipush (pc := 0) (v := nI 64) hx hb dL_predicted_0 rfl ?_
  refine n_newaI (pc := 2) (N := 64) hx hb (hts (.arrayClass .int) (List.mem_of_getElem? (i := 1) rfl)) hK hP hD hS hA (Nat.le_of_ble_eq_true rfl) (Nat.le_of_ble_eq_true rfl) (Nat.le_of_ble_eq_true rfl) dL_predicted_2 (fun q2 H hP hD hS => ?_)
  have hP : va_P D vwCl [(zs, .inl (Y.1, 16, .inl sf)), (zl, .inl (Y.1, 16, .inl lf)), (q2, .inl (Y.1, 64, .inl (fun _ => 0)))] H := hP
  have hD : va_D AA [(zs, .inl (Y.1, 16, .inl sf)), (zl, .inl (Y.1, 16, .inl lf)), (q2, .inl (Y.1, 64, .inl (fun _ => 0)))] := hD
  refine lv_astore_n (pc := 4) (lv' := [(3, .ref q2), (0, .ref zs), (1, .ref zl), (2, .int (nI (nst c r w)))]) hx hb dL_predicted_4 rfl hl (by decide) rfl (fun ls hl => ?_)
  refine lv_iconst (pc := 5) (v := nI 1) hx hb dL_predicted_5 rfl ?_
  refine lv_istore (pc := 6) (lv' := [(4, .int (nI 1)), (3, .ref q2), (0, .ref zs), (1, .ref zl), (2, .int (nI (nst c r w)))]) hx hb dL_predicted_6 hl (by decide) rfl (fun ls hl => ?_)
  have L8 : ∀ (n8 : Nat), ∀ (s : Nat) (fv : Nat → Int32), (1 ≤ s) → (s ≤ 2 ^ nst c r w) → (∀ t, t < s → fv t = iI (spv c r w t)) → 2 ^ nst c r w - s < n8 → ∀ (H : Heap) (locs : List Loc), va_P D vwCl [(zs, .inl (Y.1, 16, .inl sf)), (zl, .inl (Y.1, 16, .inl lf)), (q2, .inl (Y.1, 64, .inl fv))] H → va_D AA [(zs, .inl (Y.1, 16, .inl sf)), (zl, .inl (Y.1, 16, .inl lf)), (q2, .inl (Y.1, 64, .inl fv))] → va_S AA sG.heap H locs → ∀ (ls : Array Slot), lv_has ls 10 [(0, .ref zs), (1, .ref zl), (2, .int (nI (nst c r w))), (3, .ref q2), (4, .int (nI s))] → W pG l eG ({ frames := 0, cells := 1, slots := 64, locals := 0 } : Room) sG mG aG bG tG cG H locs (0 + 1) (0 + 64) (MQ bG (WrQ D [(zs, .inl (Y.1, 16, .inl sf)), (zl, .inl (Y.1, 16, .inl lf))] sG.heap.size (fun _ : Unit => some (.int (iI (prd c r w)))) (fun _ : Unit => [(zs, .inl (Y.1, 16, .inl sf)), (zl, .inl (Y.1, 16, .inl lf))]) (fun _ : Unit => True)) aG sG 1 64 AA) (F0 mG 8 ls []) := by
    intro n8
    induction n8 with
    | zero =>
      intro s fv h1s hs htb hmeas8 H locs hP hD hS ls hl
      exact absurd hmeas8 (Nat.not_lt_zero _)
    | succ n8 ih8 =>
      intro s fv h1s hs htb hmeas8 H locs hP hD hS ls hl
      refine lv_iload (pc := 8) hx hb dL_predicted_8 (lv_at hl 4 rfl) ?_
      refine lv_iconst (pc := 10) (v := nI 1) hx hb dL_predicted_10 rfl ?_
      refine lv_iload_n (pc := 11) hx hb dL_predicted_11 rfl (lv_at hl 2 rfl) ?_
      refine lv_ishl (pc := 12) hx hb dL_predicted_12 ?_
      refine top_i (show (nI 1) <<< ((nI (nst c r w)) &&& 31) = nI (2 ^ nst c r w) from shl1 _ (by omega)) ?_
      refine n_icmp_ge (pc := 13) (tgt := 149) hx hb (by omega) (by omega) dL_predicted_13 (by decide) (fun c13 => ?_) (fun c13 => ?_)
      · refine lv_aload_n (pc := 149) hx hb dL_predicted_149 rfl (lv_at hl 3 rfl) ?_
        refine lv_iconst (pc := 150) (v := nI 1) hx hb dL_predicted_150 rfl ?_
        refine lv_iload_n (pc := 151) hx hb dL_predicted_151 rfl (lv_at hl 2 rfl) ?_
        refine lv_ishl (pc := 152) hx hb dL_predicted_152 ?_
        refine top_i (show (nI 1) <<< ((nI (nst c r w)) &&& 31) = nI (2 ^ nst c r w) from shl1 _ (by omega)) ?_
        refine lv_iconst (pc := 153) (v := nI 1) hx hb dL_predicted_153 rfl ?_
        refine n_isub (pc := 154) hx hb (by omega) dL_predicted_154 ?_
        refine va_iald (pc := 155) hx hb hK.1 hP 2 0 rfl rfl (vp_in_nI (by omega) (by decide)) dL_predicted_155 ?_
        refine top_i (show fv (nI ((2 ^ nst c r w) - 1)).toNatClampNeg = fv ((2 ^ nst c r w) - 1) from by rw [nI_clamp (by omega)]) ?_
        refine top_i (show fv ((2 ^ nst c r w) - 1) = iI (prd c r w) from htb _ (by omega)) ?_
        subst hAA
        exact wg_iret (by show 0 + 1 ≤ 1; omega) (by show 0 + 64 ≤ 64; omega) hx hb hr hlocks (hP.sub [0, 1] rfl) hS (()) (rfl) (trivial) (rfl) dL_predicted_156
      refine lv_aload_n (pc := 16) hx hb dL_predicted_16 rfl (lv_at hl 3 rfl) ?_
      refine lv_iload (pc := 17) hx hb dL_predicted_17 (lv_at hl 4 rfl) ?_
      refine lv_sipush (pc := 19) (v := nI 999) hx hb dL_predicted_19 rfl ?_
      refine va_iast (pc := 22) hx hb hK.1 hP hD hS 2 0 rfl rfl (vp_in_nI (by omega) (by decide)) dL_predicted_22 (fun H locs hP hD hS => ?_)
      rw [nI_clamp (by omega)] at hP hD
      have hP : va_P D vwCl [(zs, .inl (Y.1, 16, .inl sf)), (zl, .inl (Y.1, 16, .inl lf)), (q2, .inl (Y.1, 64, .inl (upd fv s (nI 999))))] H := hP
      have hD : va_D AA [(zs, .inl (Y.1, 16, .inl sf)), (zl, .inl (Y.1, 16, .inl lf)), (q2, .inl (Y.1, 64, .inl (upd fv s (nI 999))))] := hD
      refine lv_iconst (pc := 23) (v := nI 0) hx hb dL_predicted_23 rfl ?_
      refine lv_istore (pc := 24) (lv' := [(5, .int (nI 0)), (0, .ref zs), (1, .ref zl), (2, .int (nI (nst c r w))), (3, .ref q2), (4, .int (nI s))]) hx hb dL_predicted_24 hl (by decide) rfl (fun ls hl => ?_)
      have L26 : ∀ (n26 : Nat), ∀ (i : Nat) (q : Int) (fu : Nat → Int32), (i ≤ nst c r w) → (∀ t, t < s → fu t = iI (spv c r w t)) → (fu s = iI q) → (-264 ≤ q ∧ q ≤ 999) → ((pmn (ssz c r w) (sdis c r w) (spv c r w) s i = none ∧ q = 999) ∨ pmn (ssz c r w) (sdis c r w) (spv c r w) s i = some q) → nst c r w - i < n26 → ∀ (H : Heap) (locs : List Loc), va_P D vwCl [(zs, .inl (Y.1, 16, .inl sf)), (zl, .inl (Y.1, 16, .inl lf)), (q2, .inl (Y.1, 64, .inl fu))] H → va_D AA [(zs, .inl (Y.1, 16, .inl sf)), (zl, .inl (Y.1, 16, .inl lf)), (q2, .inl (Y.1, 64, .inl fu))] → va_S AA sG.heap H locs → ∀ (ls : Array Slot), lv_has ls 10 [(0, .ref zs), (1, .ref zl), (2, .int (nI (nst c r w))), (3, .ref q2), (4, .int (nI s)), (5, .int (nI i))] → W pG l eG ({ frames := 0, cells := 1, slots := 64, locals := 0 } : Room) sG mG aG bG tG cG H locs (0 + 1) (0 + 64) (MQ bG (WrQ D [(zs, .inl (Y.1, 16, .inl sf)), (zl, .inl (Y.1, 16, .inl lf))] sG.heap.size (fun _ : Unit => some (.int (iI (prd c r w)))) (fun _ : Unit => [(zs, .inl (Y.1, 16, .inl sf)), (zl, .inl (Y.1, 16, .inl lf))]) (fun _ : Unit => True)) aG sG 1 64 AA) (F0 mG 26 ls []) := by
        intro n26
        induction n26 with
        | zero =>
          intro i q fu hi hfu hfs hqb hpm hmeas26 H locs hP hD hS ls hl
          exact absurd hmeas26 (Nat.not_lt_zero _)
        | succ n26 ih26 =>
          intro i q fu hi hfu hfs hqb hpm hmeas26 H locs hP hD hS ls hl
          refine lv_iload (pc := 26) hx hb dL_predicted_26 (lv_at hl 5 rfl) ?_
          refine lv_iload_n (pc := 28) hx hb dL_predicted_28 rfl (lv_at hl 2 rfl) ?_
          refine n_icmp_ge (pc := 29) (tgt := 143) hx hb (by omega) (by omega) dL_predicted_29 (by decide) (fun c29 => ?_) (fun c29 => ?_)
          · have hin9 : i = nst c r w := by omega
            have hfin : fu s = iI (spv c r w s) := by rw [hin9] at hpm; rcases hpm with ⟨q1, _⟩ | q1; exact pmn_end (z := true) (q := q) (by omega) c13 (fun _ => q1) (fun h => by cases h); exact pmn_end (z := false) (q := q) (by omega) c13 (fun h => by cases h) (fun _ => ⟨q1, hfs⟩)
            refine lv_iinc (pc := 143) (v := nI (s + 1)) (lv' := [(4, .int (nI (s + 1))), (0, .ref zs), (1, .ref zl), (2, .int (nI (nst c r w))), (3, .ref q2), (5, .int (nI i))]) hx hb dL_predicted_143 hl (k := 4) rfl (n_inc s 1) (by decide) rfl (fun ls hl => ?_)
            refine lv_goto (pc := 146) (tgt := 8) hx hb dL_predicted_146 (by decide) ?_
            exact ih8 (s + 1) fu (by first | assumption | omega) (by first | assumption | omega) (lt_s hfu hfin) (by omega) _ _ hP hD hS _ (lv_sub hl [1, 2, 3, 4, 0] rfl)
          refine lv_iload (pc := 32) hx hb dL_predicted_32 (lv_at hl 4 rfl) ?_
          refine lv_iload (pc := 34) hx hb dL_predicted_34 (lv_at hl 5 rfl) ?_
          refine lv_ishr (pc := 36) hx hb dL_predicted_36 ?_
          refine lv_iconst (pc := 37) (v := nI 1) hx hb dL_predicted_37 rfl ?_
          refine lv_iand (pc := 38) hx hb dL_predicted_38 ?_
          refine top_i (show ((nI s) >>> ((nI i) &&& 31)) &&& (nI 1) = zb (s.testBit i) from ishr_bit (by omega) (by omega)) ?_
          refine z_if_ne (pc := 39) (tgt := 45) hx hb dL_predicted_39 (by decide) (fun c39 => ?_) (fun c39 => ?_)
          · have hcl := clr_less c39
            have hsv := pv_b h10 hsn (clr s i)
            have hwv : -(240 + 24) ≤ wv (ssz c r w i) (sdis c r w i) (spv c r w (clr s i)) ∧ wv (ssz c r w i) (sdis c r w i) (spv c r w (clr s i)) ≤ 240 + 24 := wv_b (hsn i c29).1 (hsn i c29).2 hsv
            have hzi := hz i c29
            have hsl9 := hsn i c29
            have hsv : -240 ≤ spv c r w (clr s i) ∧ spv c r w (clr s i) ≤ 240 := hsv
            refine lv_aload_n (pc := 45) hx hb dL_predicted_45 rfl (lv_at hl 3 rfl) ?_
            refine lv_iload (pc := 46) hx hb dL_predicted_46 (lv_at hl 4 rfl) ?_
            refine lv_iconst (pc := 48) (v := nI 1) hx hb dL_predicted_48 rfl ?_
            refine lv_iload (pc := 49) hx hb dL_predicted_49 (lv_at hl 5 rfl) ?_
            refine lv_ishl (pc := 51) hx hb dL_predicted_51 ?_
            refine top_i (show (nI 1) <<< ((nI i) &&& 31) = nI (2 ^ i) from shl1 i (by omega)) ?_
            refine lv_iconst (pc := 52) (v := (-1)) hx hb dL_predicted_52 (by decide) ?_
            refine lv_ixor (pc := 53) hx hb dL_predicted_53 ?_
            refine lv_iand (pc := 54) hx hb dL_predicted_54 ?_
            refine top_i (show (nI s) &&& ((nI (2 ^ i)) ^^^ (-1)) = nI (clr s i) from nI_clr (by omega) (by omega)) ?_
            refine va_iald (pc := 55) hx hb hK.1 hP 2 0 rfl rfl (vp_in_nI (by omega) (by decide)) dL_predicted_55 ?_
            refine top_i (show fu (nI (clr s i)).toNatClampNeg = fu (clr s i) from by rw [nI_clamp (by omega)]) ?_
            refine top_i (show fu (clr s i) = iI (spv c r w (clr s i)) from hfu _ hcl) ?_
            refine lv_istore (pc := 56) (lv' := [(6, .int (iI (spv c r w (clr s i)))), (0, .ref zs), (1, .ref zl), (2, .int (nI (nst c r w))), (3, .ref q2), (4, .int (nI s)), (5, .int (nI i))]) hx hb dL_predicted_56 hl (by decide) rfl (fun ls hl => ?_)
            have L120 : ∀ (x9 : Int32), (x9 = iI (wv (ssz c r w i) (sdis c r w i) (spv c r w (clr s i)))) → ∀ (H : Heap) (locs : List Loc), va_P D vwCl [(zs, .inl (Y.1, 16, .inl sf)), (zl, .inl (Y.1, 16, .inl lf)), (q2, .inl (Y.1, 64, .inl fu))] H → va_D AA [(zs, .inl (Y.1, 16, .inl sf)), (zl, .inl (Y.1, 16, .inl lf)), (q2, .inl (Y.1, 64, .inl fu))] → va_S AA sG.heap H locs → ∀ (ls : Array Slot), lv_has ls 10 [(0, .ref zs), (1, .ref zl), (2, .int (nI (nst c r w))), (3, .ref q2), (4, .int (nI s)), (5, .int (nI i)), (6, .int (iI (spv c r w (clr s i))))] → W pG l eG ({ frames := 0, cells := 1, slots := 64, locals := 0 } : Room) sG mG aG bG tG cG H locs (0 + 1) (0 + 64) (MQ bG (WrQ D [(zs, .inl (Y.1, 16, .inl sf)), (zl, .inl (Y.1, 16, .inl lf))] sG.heap.size (fun _ : Unit => some (.int (iI (prd c r w)))) (fun _ : Unit => [(zs, .inl (Y.1, 16, .inl sf)), (zl, .inl (Y.1, 16, .inl lf))]) (fun _ : Unit => True)) aG sG 1 64 AA) (F0 mG 120 ls [.int x9]) := by
              intro x9 hx9 H locs hP hD hS ls hl
              rw [hx9]
              refine lv_istore (pc := 120) (lv' := [(9, .int (iI (wv (ssz c r w i) (sdis c r w i) (spv c r w (clr s i))))), (0, .ref zs), (1, .ref zl), (2, .int (nI (nst c r w))), (3, .ref q2), (4, .int (nI s)), (5, .int (nI i)), (6, .int (iI (spv c r w (clr s i))))]) hx hb dL_predicted_120 hl (by decide) rfl (fun ls hl => ?_)
              refine lv_iload (pc := 122) hx hb dL_predicted_122 (lv_at hl 0 rfl) ?_
              refine lv_aload_n (pc := 124) hx hb dL_predicted_124 rfl (lv_at hl 4 rfl) ?_
              refine lv_iload (pc := 125) hx hb dL_predicted_125 (lv_at hl 5 rfl) ?_
              refine va_iald (pc := 127) hx hb hK.1 hP 2 0 rfl rfl (vp_in_nI (by omega) (by decide)) dL_predicted_127 ?_
              refine top_i (show fu (nI s).toNatClampNeg = fu s from by rw [nI_clamp (by omega)]) ?_
              refine top_i (show fu s = iI q from hfs) ?_
              refine lv_icmp_ge (pc := 128) (tgt := 137) hx hb dL_predicted_128 (by decide) (fun c128 => ?_) (fun c128 => ?_)
              · have c128z := (iI_le (by omega) (by omega) (by omega) (by omega)).mp c128
                refine lv_iinc (pc := 137) (v := nI (i + 1)) (lv' := [(5, .int (nI (i + 1))), (9, .int (iI (wv (ssz c r w i) (sdis c r w i) (spv c r w (clr s i))))), (0, .ref zs), (1, .ref zl), (2, .int (nI (nst c r w))), (3, .ref q2), (4, .int (nI s)), (6, .int (iI (spv c r w (clr s i))))]) hx hb dL_predicted_137 hl (k := 6) rfl (n_inc i 1) (by decide) rfl (fun ls hl => ?_)
                refine lv_goto (pc := 140) (tgt := 26) hx hb dL_predicted_140 (by decide) ?_
                exact ih26 (i + 1) q fu (by first | assumption | omega) (hfu) (hfs) (hqb) (pm_no c39 rfl hwv.2 hpm (by omega)) (by omega) _ _ hP hD hS _ (lv_sub hl [2, 3, 4, 5, 6, 0] rfl)
              have c128z : ¬ _ := fun h => c128 ((iI_le (by omega) (by omega) (by omega) (by omega)).mpr h)
              refine lv_aload_n (pc := 131) hx hb dL_predicted_131 rfl (lv_at hl 4 rfl) ?_
              refine lv_iload (pc := 132) hx hb dL_predicted_132 (lv_at hl 5 rfl) ?_
              refine lv_iload (pc := 134) hx hb dL_predicted_134 (lv_at hl 0 rfl) ?_
              refine va_iast (pc := 136) hx hb hK.1 hP hD hS 2 0 rfl rfl (vp_in_nI (by omega) (by decide)) dL_predicted_136 (fun H locs hP hD hS => ?_)
              rw [nI_clamp (by omega)] at hP hD
              have hP : va_P D vwCl [(zs, .inl (Y.1, 16, .inl sf)), (zl, .inl (Y.1, 16, .inl lf)), (q2, .inl (Y.1, 64, .inl (upd fu s (iI (wv (ssz c r w i) (sdis c r w i) (spv c r w (clr s i)))))))] H := hP
              have hD : va_D AA [(zs, .inl (Y.1, 16, .inl sf)), (zl, .inl (Y.1, 16, .inl lf)), (q2, .inl (Y.1, 64, .inl (upd fu s (iI (wv (ssz c r w i) (sdis c r w i) (spv c r w (clr s i)))))))] := hD
              refine lv_iinc (pc := 137) (v := nI (i + 1)) (lv' := [(5, .int (nI (i + 1))), (9, .int (iI (wv (ssz c r w i) (sdis c r w i) (spv c r w (clr s i))))), (0, .ref zs), (1, .ref zl), (2, .int (nI (nst c r w))), (3, .ref q2), (4, .int (nI s)), (6, .int (iI (spv c r w (clr s i))))]) hx hb dL_predicted_137 hl (k := 6) rfl (n_inc i 1) (by decide) rfl (fun ls hl => ?_)
              refine lv_goto (pc := 140) (tgt := 26) hx hb dL_predicted_140 (by decide) ?_
              exact ih26 (i + 1) (wv (ssz c r w i) (sdis c r w i) (spv c r w (clr s i))) (upd fu s (iI (wv (ssz c r w i) (sdis c r w i) (spv c r w (clr s i))))) (by first | assumption | omega) (fun t ht => by rw [pk_un (by omega)]; exact hfu t ht) (pk_us) (by omega) (pm_yes c39 rfl hpm (by omega)) (by omega) _ _ hP hD hS _ (lv_sub hl [2, 3, 4, 5, 6, 0] rfl)
            refine lv_aload_n (pc := 58) hx hb dL_predicted_58 rfl (lv_at hl 1 rfl) ?_
            refine lv_iload (pc := 59) hx hb dL_predicted_59 (lv_at hl 6 rfl) ?_
            refine va_iald (pc := 61) hx hb hK.1 hP 0 0 rfl rfl (vp_in_nI (by omega) (by decide)) dL_predicted_61 ?_
            refine top_i (show sf (nI i).toNatClampNeg = sf i from by rw [nI_clamp (by omega)]) ?_
            refine top_i (show sf i = nI (ssz c r w i) from hzi.1) ?_
            refine lv_aload_n (pc := 62) hx hb dL_predicted_62 rfl (lv_at hl 2 rfl) ?_
            refine lv_iload (pc := 63) hx hb dL_predicted_63 (lv_at hl 6 rfl) ?_
            refine va_iald (pc := 65) hx hb hK.1 hP 1 0 rfl rfl (vp_in_nI (by omega) (by decide)) dL_predicted_65 ?_
            refine top_i (show lf (nI i).toNatClampNeg = lf i from by rw [nI_clamp (by omega)]) ?_
            refine top_i (show lf i = nI (zn (slop c r w i)) from hzi.2) ?_
            refine lv_iconst (pc := 66) (v := nI 1) hx hb dL_predicted_66 rfl ?_
            refine n_icmp_ne (pc := 67) (tgt := 75) hx hb (by have := zn_le1 (slop c r w i); omega) (by decide) dL_predicted_67 (by decide) (fun c67 => ?_) (fun c67 => ?_)
            · have hsl8 : slop c r w i = false := by cases q9 : slop c r w i with | false => rfl | true => rw [q9] at c67; exact absurd rfl c67
              refine lv_iconst (pc := 75) (v := nI 4) hx hb dL_predicted_75 rfl ?_
              refine lv_isub (pc := 76) hx hb dL_predicted_76 ?_
              refine top_i (show (nI (ssz c r w i)) - (nI 4) = iI ((ssz c r w i : Int) - 4) from by rw [iI_nI, iI_nI, iI_sub]; rfl) ?_
              refine lv_iload (pc := 77) hx hb dL_predicted_77 (lv_at hl 0 rfl) ?_
              refine lv_iadd (pc := 79) hx hb dL_predicted_79 ?_
              refine top_i (show (iI ((ssz c r w i : Int) - 4)) + (iI (spv c r w (clr s i))) = iI ((ssz c r w i : Int) - 4 + spv c r w (clr s i)) from by rw [iI_add]) ?_
              refine lv_istore (pc := 80) (lv' := [(7, .int (iI ((ssz c r w i : Int) - 4 + spv c r w (clr s i)))), (6, .int (iI (spv c r w (clr s i)))), (0, .ref zs), (1, .ref zl), (2, .int (nI (nst c r w))), (3, .ref q2), (4, .int (nI s)), (5, .int (nI i))]) hx hb dL_predicted_80 hl (by decide) rfl (fun ls hl => ?_)
              refine lv_aload_n (pc := 82) hx hb dL_predicted_82 rfl (lv_at hl 2 rfl) ?_
              refine lv_iload (pc := 83) hx hb dL_predicted_83 (lv_at hl 7 rfl) ?_
              refine va_iald (pc := 85) hx hb hK.1 hP 0 0 rfl rfl (vp_in_nI (by omega) (by decide)) dL_predicted_85 ?_
              refine top_i (show sf (nI i).toNatClampNeg = sf i from by rw [nI_clamp (by omega)]) ?_
              refine top_i (show sf i = nI (ssz c r w i) from hzi.1) ?_
              refine lv_iload (pc := 86) hx hb dL_predicted_86 (lv_at hl 1 rfl) ?_
              refine lv_isub (pc := 88) hx hb dL_predicted_88 ?_
              refine top_i (show (nI (ssz c r w i)) - (iI (spv c r w (clr s i))) = iI ((ssz c r w i : Int) - spv c r w (clr s i)) from by rw [iI_nI, iI_sub]) ?_
              refine lv_istore (pc := 89) (lv' := [(8, .int (iI ((ssz c r w i : Int) - spv c r w (clr s i)))), (7, .int (iI ((ssz c r w i : Int) - 4 + spv c r w (clr s i)))), (6, .int (iI (spv c r w (clr s i)))), (0, .ref zs), (1, .ref zl), (2, .int (nI (nst c r w))), (3, .ref q2), (4, .int (nI s)), (5, .int (nI i))]) hx hb dL_predicted_89 hl (by decide) rfl (fun ls hl => ?_)
              refine lv_aload_n (pc := 91) hx hb dL_predicted_91 rfl (lv_at hl 4 rfl) ?_
              refine lv_iload (pc := 92) hx hb dL_predicted_92 (lv_at hl 8 rfl) ?_
              refine va_iald (pc := 94) hx hb hK.1 hP 1 0 rfl rfl (vp_in_nI (by omega) (by decide)) dL_predicted_94 ?_
              refine top_i (show lf (nI i).toNatClampNeg = lf i from by rw [nI_clamp (by omega)]) ?_
              refine top_i (show lf i = nI (zn (slop c r w i)) from hzi.2) ?_
              refine n_if_ne (pc := 95) (tgt := 106) hx hb (by have := zn_le1 (slop c r w i); omega) dL_predicted_95 (by decide) (fun c95 => ?_) (fun c95 => ?_)
              · exact absurd c95 (by rw [hsl8]; decide)
              refine lv_aload_n (pc := 98) hx hb dL_predicted_98 rfl (lv_at hl 3 rfl) ?_
              refine lv_iload (pc := 99) hx hb dL_predicted_99 (lv_at hl 8 rfl) ?_
              refine va_iald (pc := 101) hx hb hK.1 hP 0 0 rfl rfl (vp_in_nI (by omega) (by decide)) dL_predicted_101 ?_
              refine top_i (show sf (nI i).toNatClampNeg = sf i from by rw [nI_clamp (by omega)]) ?_
              refine top_i (show sf i = nI (ssz c r w i) from hzi.1) ?_
              refine lv_iconst (pc := 102) (v := nI 3) hx hb dL_predicted_102 rfl ?_
              refine n_icmp_lt (pc := 103) (tgt := 113) hx hb (by omega) (by decide) dL_predicted_103 (by decide) (fun c103 => ?_) (fun c103 => ?_)
              · refine lv_iload (pc := 113) hx hb dL_predicted_113 (lv_at hl 0 rfl) ?_
                refine lv_goto (pc := 115) (tgt := 120) hx hb dL_predicted_115 (by decide) ?_
                exact L120 (iI ((ssz c r w i : Int) - spv c r w (clr s i))) (by rw [sd0 hsl8 c103, wv_c rfl])  _ _ hP hD hS _ (lv_sub hl [3, 4, 5, 6, 7, 8, 2] rfl)
              refine lv_iload (pc := 106) hx hb dL_predicted_106 (lv_at hl 0 rfl) ?_
              refine lv_iload (pc := 108) hx hb dL_predicted_108 (lv_at hl 1 rfl) ?_
              refine lv_icmp_le (pc := 110) (tgt := 118) hx hb dL_predicted_110 (by decide) (fun c110 => ?_) (fun c110 => ?_)
              · have c110z := (iI_le (by omega) (by omega) (by omega) (by omega)).mp c110
                refine lv_iload (pc := 118) hx hb dL_predicted_118 (lv_at hl 1 rfl) ?_
                exact L120 (iI ((ssz c r w i : Int) - 4 + spv c r w (clr s i))) (by rw [sd4 hsl8 c103, wv_k (by decide)]; congr 1; rw [Int.max_def]; split <;> omega)  _ _ hP hD hS _ (lv_sub hl [3, 4, 5, 6, 7, 8, 2] rfl)
              have c110z : ¬ _ := fun h => c110 ((iI_le (by omega) (by omega) (by omega) (by omega)).mpr h)
              refine lv_iload (pc := 113) hx hb dL_predicted_113 (lv_at hl 0 rfl) ?_
              refine lv_goto (pc := 115) (tgt := 120) hx hb dL_predicted_115 (by decide) ?_
              exact L120 (iI ((ssz c r w i : Int) - spv c r w (clr s i))) (by rw [sd4 hsl8 c103, wv_k (by decide)]; congr 1; rw [Int.max_def]; split <;> omega)  _ _ hP hD hS _ (lv_sub hl [3, 4, 5, 6, 7, 8, 2] rfl)
            have hsl8 : slop c r w i = true := by cases q9 : slop c r w i with | true => rfl | false => rw [q9] at c67; exact absurd c67 (by decide)
            refine lv_bipush (pc := 70) (v := nI 8) hx hb dL_predicted_70 rfl ?_
            refine lv_goto (pc := 72) (tgt := 76) hx hb dL_predicted_72 (by decide) ?_
            refine lv_isub (pc := 76) hx hb dL_predicted_76 ?_
            refine top_i (show (nI (ssz c r w i)) - (nI 8) = iI ((ssz c r w i : Int) - 8) from by rw [iI_nI, iI_nI, iI_sub]; rfl) ?_
            refine lv_iload (pc := 77) hx hb dL_predicted_77 (lv_at hl 0 rfl) ?_
            refine lv_iadd (pc := 79) hx hb dL_predicted_79 ?_
            refine top_i (show (iI ((ssz c r w i : Int) - 8)) + (iI (spv c r w (clr s i))) = iI ((ssz c r w i : Int) - 8 + spv c r w (clr s i)) from by rw [iI_add]) ?_
            refine lv_istore (pc := 80) (lv' := [(7, .int (iI ((ssz c r w i : Int) - 8 + spv c r w (clr s i)))), (6, .int (iI (spv c r w (clr s i)))), (0, .ref zs), (1, .ref zl), (2, .int (nI (nst c r w))), (3, .ref q2), (4, .int (nI s)), (5, .int (nI i))]) hx hb dL_predicted_80 hl (by decide) rfl (fun ls hl => ?_)
            refine lv_aload_n (pc := 82) hx hb dL_predicted_82 rfl (lv_at hl 2 rfl) ?_
            refine lv_iload (pc := 83) hx hb dL_predicted_83 (lv_at hl 7 rfl) ?_
            refine va_iald (pc := 85) hx hb hK.1 hP 0 0 rfl rfl (vp_in_nI (by omega) (by decide)) dL_predicted_85 ?_
            refine top_i (show sf (nI i).toNatClampNeg = sf i from by rw [nI_clamp (by omega)]) ?_
            refine top_i (show sf i = nI (ssz c r w i) from hzi.1) ?_
            refine lv_iload (pc := 86) hx hb dL_predicted_86 (lv_at hl 1 rfl) ?_
            refine lv_isub (pc := 88) hx hb dL_predicted_88 ?_
            refine top_i (show (nI (ssz c r w i)) - (iI (spv c r w (clr s i))) = iI ((ssz c r w i : Int) - spv c r w (clr s i)) from by rw [iI_nI, iI_sub]) ?_
            refine lv_istore (pc := 89) (lv' := [(8, .int (iI ((ssz c r w i : Int) - spv c r w (clr s i)))), (7, .int (iI ((ssz c r w i : Int) - 8 + spv c r w (clr s i)))), (6, .int (iI (spv c r w (clr s i)))), (0, .ref zs), (1, .ref zl), (2, .int (nI (nst c r w))), (3, .ref q2), (4, .int (nI s)), (5, .int (nI i))]) hx hb dL_predicted_89 hl (by decide) rfl (fun ls hl => ?_)
            refine lv_aload_n (pc := 91) hx hb dL_predicted_91 rfl (lv_at hl 4 rfl) ?_
            refine lv_iload (pc := 92) hx hb dL_predicted_92 (lv_at hl 8 rfl) ?_
            refine va_iald (pc := 94) hx hb hK.1 hP 1 0 rfl rfl (vp_in_nI (by omega) (by decide)) dL_predicted_94 ?_
            refine top_i (show lf (nI i).toNatClampNeg = lf i from by rw [nI_clamp (by omega)]) ?_
            refine top_i (show lf i = nI (zn (slop c r w i)) from hzi.2) ?_
            refine n_if_ne (pc := 95) (tgt := 106) hx hb (by have := zn_le1 (slop c r w i); omega) dL_predicted_95 (by decide) (fun c95 => ?_) (fun c95 => ?_)
            · refine lv_iload (pc := 106) hx hb dL_predicted_106 (lv_at hl 0 rfl) ?_
              refine lv_iload (pc := 108) hx hb dL_predicted_108 (lv_at hl 1 rfl) ?_
              refine lv_icmp_le (pc := 110) (tgt := 118) hx hb dL_predicted_110 (by decide) (fun c110 => ?_) (fun c110 => ?_)
              · have c110z := (iI_le (by omega) (by omega) (by omega) (by omega)).mp c110
                refine lv_iload (pc := 118) hx hb dL_predicted_118 (lv_at hl 1 rfl) ?_
                exact L120 (iI ((ssz c r w i : Int) - 8 + spv c r w (clr s i))) (by rw [sdis_y hsl8, wv_k (by decide)]; congr 1; rw [Int.max_def]; split <;> omega)  _ _ hP hD hS _ (lv_sub hl [3, 4, 5, 6, 7, 8, 2] rfl)
              have c110z : ¬ _ := fun h => c110 ((iI_le (by omega) (by omega) (by omega) (by omega)).mpr h)
              refine lv_iload (pc := 113) hx hb dL_predicted_113 (lv_at hl 0 rfl) ?_
              refine lv_goto (pc := 115) (tgt := 120) hx hb dL_predicted_115 (by decide) ?_
              exact L120 (iI ((ssz c r w i : Int) - spv c r w (clr s i))) (by rw [sdis_y hsl8, wv_k (by decide)]; congr 1; rw [Int.max_def]; split <;> omega)  _ _ hP hD hS _ (lv_sub hl [3, 4, 5, 6, 7, 8, 2] rfl)
            · exact absurd c95 (by rw [hsl8]; decide)
          refine lv_goto (pc := 42) (tgt := 137) hx hb dL_predicted_42 (by decide) ?_
          refine lv_iinc (pc := 137) (v := nI (i + 1)) (lv' := [(5, .int (nI (i + 1))), (0, .ref zs), (1, .ref zl), (2, .int (nI (nst c r w))), (3, .ref q2), (4, .int (nI s))]) hx hb dL_predicted_137 hl (k := 5) rfl (n_inc i 1) (by decide) rfl (fun ls hl => ?_)
          refine lv_goto (pc := 140) (tgt := 26) hx hb dL_predicted_140 (by decide) ?_
          exact ih26 (i + 1) q fu (by first | assumption | omega) (hfu) (hfs) (hqb) (by rw [pmn_s0 c39]; exact hpm) (by omega) _ _ hP hD hS _ (lv_sub hl [1, 2, 3, 4, 5, 0] rfl)
      exact L26 ((nst c r w - 0) + 1) 0 999 (upd fv s (nI 999)) (by first | assumption | omega) (fun t ht => by rw [pk_un (by omega)]; exact htb t ht) (pk_us) (by omega) (Or.inl ⟨rfl, rfl⟩) (Nat.lt_succ_self _) _ _ hP hD hS _ (lv_sub hl [1, 2, 3, 4, 5, 0] rfl)
  exact L8 ((2 ^ nst c r w - 1) + 1) 1 (fun _ => 0) (by first | assumption | omega) (by first | assumption | omega) (fun t ht => by rw [show t = 0 by omega]; unfold spv; rw [pv_0]; rfl) (Nat.lt_succ_self _) _ _ hP hD hS _ (lv_sub hl [2, 3, 4, 1, 0] rfl)
