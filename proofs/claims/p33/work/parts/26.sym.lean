set_option maxHeartbeats 1200000 in
set_option maxRecDepth 100000 in
theorem c_X7_imageOf (l : Launch) (D : va_G) (Y : vY) (sy : Nat) (bd : Nat) (si : Nat) (sc : Nat) (sf : Nat) (im : Nat → Int32) (c : Nat) (r : Nat) (s : Nat) (li : Nat) (hC : Cr c r) (hY : SyOK c r im) (hs : s < manyM c r) (hl0 : li < al c r) : Ro l yX7_imageOf wsX7_imageOf ({ frames := 1, cells := 0, slots := 0, locals := 21 } : Room) [.ref sy, .int (nI s), .int (nI li)] D Y [(sy, .inr (6, [.ref bd, .ref si, .ref sc, .ref sf, .int (nI (manyM c r))])), (si, .inl (Y.1, 320, .inl im))] (some (.int (nI (mapM c r li s)))) := by
  refine ro_intro (by decide +kernel) rfl (Nat.le_of_ble_eq_true rfl) [(0, .ref sy), (1, .int (nI s)), (2, .int (nI li))] rfl ?_
  intro pG eG sG mG aG bG tG cG ls hx hb hr hml hts hown hlocks hK hP hl
  have hP : va_P D vwCl [(sy, .inr (6, [.ref bd, .ref si, .ref sc, .ref sf, .int (nI (manyM c r))])), (si, .inl (Y.1, 320, .inl im))] sG.heap := hP
  have hown : sG.vm.findClass RX7 = some mG.cls := hown
  have hl : lv_has ls 3 [(0, .ref sy), (1, .int (nI s)), (2, .int (nI li))] := hl
  have hinX7 : ∀ w ∈ u_ws RX7 TX7 5, w ∈ wsX7_imageOf := by decide +kernel
  obtain ⟨hq1, hq2, hq3, hq4, hq5, hq6, hq7, hq8, hq9, hq10, hq11⟩ := hC.q
  obtain ⟨hm1, hm2⟩ := many_le c r
  refine lv_aload_n (pc := 0) hx hb dX7_imageOf_0 rfl (lv_at hl 0 rfl) ?_
  refine va_get (pc := 1) (D := D) (ci := 6) (v := .ref si) (C := RX7) (T := TX7) (N := 5) hx hb hts hinX7 hown hK.1 hP 0 rfl rfl 1 (by decide) (hts (.fieldLink RX7 9 "BoxesGame$Symmetry" "images" "[I") (List.mem_of_getElem? (i := 1) rfl)) (fun _ h9 => h9) rfl dX7_imageOf_1 ?_
  refine lv_iload_n (pc := 4) hx hb dX7_imageOf_4 rfl (lv_at hl 1 rfl) ?_
  refine lv_bipush (pc := 5) (v := nI 40) hx hb dX7_imageOf_5 rfl ?_
  refine n_imul (pc := 7) hx hb dX7_imageOf_7 ?_
  refine lv_iload_n (pc := 8) hx hb dX7_imageOf_8 rfl (lv_at hl 2 rfl) ?_
  refine n_iadd (pc := 9) hx hb dX7_imageOf_9 ?_
  refine ro_go (pc := 10) (va_runS (As := [.ref si, .int (nI ((s * 40) + li))]) (rest := []) ⟨hx, hb, hml, hown, hts⟩ (c_X3_at_in l D Y 320 im si ((s * 40) + li) (by decide) (by first | assumption | omega)) (va_cwS 2 hts gX7_imageOf_X3_at rfl rfl rfl hdX3_at ⟨Nat.le_of_ble_eq_true rfl, Nat.le_of_ble_eq_true rfl⟩) (ro_pS hK (hP.sub [1] rfl)) rfl rfl hl.1 rfl (lv_room (Nat.le_of_ble_eq_true rfl)) dX7_imageOf_10 ⟨Nat.le_of_ble_eq_true rfl, Nat.le_of_ble_eq_true rfl⟩) ?_
  exact ro_iret (v := im ((s * 40) + li)) hx hb hr hlocks (hY s hs li hl0) dX7_imageOf_13

set_option maxHeartbeats 1200000 in
set_option maxRecDepth 100000 in
theorem c_X7_codeOf (l : Launch) (D : va_G) (Y : vY) (sy : Nat) (bd : Nat) (si : Nat) (sc : Nat) (sf : Nat) (cd : Nat → Int64) (c : Nat) (r : Nat) (s : Nat) (hs : s < 8) : Ro l yX7_codeOf wsX7_codeOf ({ frames := 1, cells := 0, slots := 0, locals := 21 } : Room) [.ref sy, .int (nI s)] D Y [(sy, .inr (6, [.ref bd, .ref si, .ref sc, .ref sf, .int (nI (manyM c r))])), (sc, .inl (Y.2.1, 8, .inr (.inl cd)))] (some (.long (cd s))) := by
  refine ro_intro (by decide +kernel) rfl (Nat.le_of_ble_eq_true rfl) [(0, .ref sy), (1, .int (nI s))] rfl ?_
  intro pG eG sG mG aG bG tG cG ls hx hb hr hml hts hown hlocks hK hP hl
  have hP : va_P D vwCl [(sy, .inr (6, [.ref bd, .ref si, .ref sc, .ref sf, .int (nI (manyM c r))])), (sc, .inl (Y.2.1, 8, .inr (.inl cd)))] sG.heap := hP
  have hown : sG.vm.findClass RX7 = some mG.cls := hown
  have hl : lv_has ls 2 [(0, .ref sy), (1, .int (nI s))] := hl
  have hinX7 : ∀ w ∈ u_ws RX7 TX7 5, w ∈ wsX7_codeOf := by decide +kernel
  refine lv_aload_n (pc := 0) hx hb dX7_codeOf_0 rfl (lv_at hl 0 rfl) ?_
  refine va_get (pc := 1) (D := D) (ci := 6) (v := .ref sc) (C := RX7) (T := TX7) (N := 5) hx hb hts hinX7 hown hK.1 hP 0 rfl rfl 2 (by decide) (hts (.fieldLink RX7 15 "BoxesGame$Symmetry" "codes" "[J") (List.mem_of_getElem? (i := 1) rfl)) (fun _ h9 => h9) rfl dX7_codeOf_1 ?_
  refine lv_iload_n (pc := 4) hx hb dX7_codeOf_4 rfl (lv_at hl 1 rfl) ?_
  refine ro_go (pc := 5) (va_runS (As := [.ref sc, .int (nI s)]) (rest := []) ⟨hx, hb, hml, hown, hts⟩ (c_X3_at__in l D Y 8 cd sc s (by decide) (hs)) (va_cwS 2 hts gX7_codeOf_X3_at_ rfl rfl rfl hdX3_at_ ⟨Nat.le_of_ble_eq_true rfl, Nat.le_of_ble_eq_true rfl⟩) (ro_pS hK (hP.sub [1] rfl)) rfl rfl hl.1 rfl (lv_room (Nat.le_of_ble_eq_true rfl)) dX7_codeOf_5 ⟨Nat.le_of_ble_eq_true rfl, Nat.le_of_ble_eq_true rfl⟩) ?_
  exact ro_lret (v := cd s) hx hb hr hlocks (rfl) dX7_codeOf_8

set_option maxHeartbeats 1200000 in
set_option maxRecDepth 100000 in
theorem c_X7_encode (l : Launch) (D : va_G) (Y : vY) (sy : Nat) (bd : Nat) (si : Nat) (sc : Nat) (sf : Nat) (im : Nat → Int32) (cd : Nat → Int64) (bs : Nat) (bf : Nat) (bg : Nat) (c : Nat) (r : Nat) (sd : Nat → Int64) (fb : Nat → Int32) (gb : Nat → Int32) (w : Int64) (hC : Cr c r) (hB : BdOK c r sd fb gb) (hY : SyOK c r im) : Mu l yX7_encode wsX7_encode ({ frames := 2, cells := 0, slots := 0, locals := 43 } : Room) [.ref sy, .long w] D Y [(sy, .inr (6, [.ref bd, .ref si, .ref sc, .ref sf, .int (nI (manyM c r))])), (si, .inl (Y.1, 320, .inl im)), (sc, .inl (Y.2.1, 8, .inr (.inl cd))), (bd, .inr (0, [.int (nI c), .int (nI r), .int (nI (al c r)), .int (nI (c * r)), .ref bs, .ref bf, .ref bg])), (bs, .inl (Y.2.1, 16, .inr (.inl sd))), (bf, .inl (Y.1, 40, .inl fb)), (bg, .inl (Y.1, 40, .inl gb))] (fun _ : Unit => none) (fun _ : Unit => [(sy, .inr (6, [.ref bd, .ref si, .ref sc, .ref sf, .int (nI (manyM c r))])), (si, .inl (Y.1, 320, .inl im)), (sc, .inl (Y.2.1, 8, .inr (.inl (fa_fill (mapS c r w) cd (manyM c r))))), (bd, .inr (0, [.int (nI c), .int (nI r), .int (nI (al c r)), .int (nI (c * r)), .ref bs, .ref bf, .ref bg])), (bs, .inl (Y.2.1, 16, .inr (.inl sd))), (bf, .inl (Y.1, 40, .inl fb)), (bg, .inl (Y.1, 40, .inl gb))]) (fun _ : Unit => True) := by
  refine mu_intro (by decide +kernel) rfl (Nat.le_of_ble_eq_true rfl) [(0, .ref sy), (1, .long w)] rfl ?_
  intro pG eG sG mG aG bG tG cG ls hx hb hr hml hts hown hlocks hK hP hD hS hl
  generalize hAA : adA [(sy, .inr (6, [.ref bd, .ref si, .ref sc, .ref sf, .int (nI (manyM c r))])), (si, .inl (Y.1, 320, .inl im)), (sc, .inl (Y.2.1, 8, .inr (.inl cd))), (bd, .inr (0, [.int (nI c), .int (nI r), .int (nI (al c r)), .int (nI (c * r)), .ref bs, .ref bf, .ref bg])), (bs, .inl (Y.2.1, 16, .inr (.inl sd))), (bf, .inl (Y.1, 40, .inl fb)), (bg, .inl (Y.1, 40, .inl gb))] = AA at hD hS ⊢
  have hP : va_P D vwCl [(sy, .inr (6, [.ref bd, .ref si, .ref sc, .ref sf, .int (nI (manyM c r))])), (si, .inl (Y.1, 320, .inl im)), (sc, .inl (Y.2.1, 8, .inr (.inl cd))), (bd, .inr (0, [.int (nI c), .int (nI r), .int (nI (al c r)), .int (nI (c * r)), .ref bs, .ref bf, .ref bg])), (bs, .inl (Y.2.1, 16, .inr (.inl sd))), (bf, .inl (Y.1, 40, .inl fb)), (bg, .inl (Y.1, 40, .inl gb))] sG.heap := hP
  have hD : va_D AA [(sy, .inr (6, [.ref bd, .ref si, .ref sc, .ref sf, .int (nI (manyM c r))])), (si, .inl (Y.1, 320, .inl im)), (sc, .inl (Y.2.1, 8, .inr (.inl cd))), (bd, .inr (0, [.int (nI c), .int (nI r), .int (nI (al c r)), .int (nI (c * r)), .ref bs, .ref bf, .ref bg])), (bs, .inl (Y.2.1, 16, .inr (.inl sd))), (bf, .inl (Y.1, 40, .inl fb)), (bg, .inl (Y.1, 40, .inl gb))] := hD
  have hown : sG.vm.findClass RX7 = some mG.cls := hown
  have hl : lv_has ls 7 [(0, .ref sy), (1, .long w)] := hl
  have hinX0 : ∀ w ∈ u_ws RX0 TX0 7, w ∈ wsX7_encode := by decide +kernel
  have hinX7 : ∀ w ∈ u_ws RX7 TX7 5, w ∈ wsX7_encode := by decide +kernel
  have hS : va_S AA sG.heap sG.heap [] := hS
  obtain ⟨hq1, hq2, hq3, hq4, hq5, hq6, hq7, hq8, hq9, hq10, hq11⟩ := hC.q
  obtain ⟨hm1, hm2⟩ := many_le c r
  have e9 : cd = (fa_fill (mapS c r w) cd 0) := (fa_fill_0 _ _).symm
  have hP : va_P D vwCl [(sy, .inr (6, [.ref bd, .ref si, .ref sc, .ref sf, .int (nI (manyM c r))])), (si, .inl (Y.1, 320, .inl im)), (sc, .inl (Y.2.1, 8, .inr (.inl (fa_fill (mapS c r w) cd 0)))), (bd, .inr (0, [.int (nI c), .int (nI r), .int (nI (al c r)), .int (nI (c * r)), .ref bs, .ref bf, .ref bg])), (bs, .inl (Y.2.1, 16, .inr (.inl sd))), (bf, .inl (Y.1, 40, .inl fb)), (bg, .inl (Y.1, 40, .inl gb))] sG.heap := by rw [← e9]; exact hP
  have hD : va_D AA [(sy, .inr (6, [.ref bd, .ref si, .ref sc, .ref sf, .int (nI (manyM c r))])), (si, .inl (Y.1, 320, .inl im)), (sc, .inl (Y.2.1, 8, .inr (.inl (fa_fill (mapS c r w) cd 0)))), (bd, .inr (0, [.int (nI c), .int (nI r), .int (nI (al c r)), .int (nI (c * r)), .ref bs, .ref bf, .ref bg])), (bs, .inl (Y.2.1, 16, .inr (.inl sd))), (bf, .inl (Y.1, 40, .inl fb)), (bg, .inl (Y.1, 40, .inl gb))] := by rw [← e9]; exact hD
  refine lv_iconst (pc := 0) (v := nI 0) hx hb dX7_encode_0 rfl ?_
  refine lv_istore_n (pc := 1) (lv' := [(3, .int (nI 0)), (0, .ref sy), (1, .long w)]) hx hb dX7_encode_1 rfl hl (by decide) rfl (fun ls hl => ?_)
  have L2 : ∀ (n2 : Nat), ∀ (s : Nat), (s ≤ manyM c r) → manyM c r - s < n2 → ∀ (H : Heap) (locs : List Loc), va_P D vwCl [(sy, .inr (6, [.ref bd, .ref si, .ref sc, .ref sf, .int (nI (manyM c r))])), (si, .inl (Y.1, 320, .inl im)), (sc, .inl (Y.2.1, 8, .inr (.inl (fa_fill (mapS c r w) cd s)))), (bd, .inr (0, [.int (nI c), .int (nI r), .int (nI (al c r)), .int (nI (c * r)), .ref bs, .ref bf, .ref bg])), (bs, .inl (Y.2.1, 16, .inr (.inl sd))), (bf, .inl (Y.1, 40, .inl fb)), (bg, .inl (Y.1, 40, .inl gb))] H → va_D AA [(sy, .inr (6, [.ref bd, .ref si, .ref sc, .ref sf, .int (nI (manyM c r))])), (si, .inl (Y.1, 320, .inl im)), (sc, .inl (Y.2.1, 8, .inr (.inl (fa_fill (mapS c r w) cd s)))), (bd, .inr (0, [.int (nI c), .int (nI r), .int (nI (al c r)), .int (nI (c * r)), .ref bs, .ref bf, .ref bg])), (bs, .inl (Y.2.1, 16, .inr (.inl sd))), (bf, .inl (Y.1, 40, .inl fb)), (bg, .inl (Y.1, 40, .inl gb))] → va_S AA sG.heap H locs → ∀ (ls : Array Slot), lv_has ls 7 [(0, .ref sy), (1, .long w), (3, .int (nI s))] → W pG l eG ({ frames := 2, cells := 0, slots := 0, locals := 43 } : Room) sG mG aG bG tG cG H locs 0 0 (MQ bG (MuQ D [(sy, .inr (6, [.ref bd, .ref si, .ref sc, .ref sf, .int (nI (manyM c r))])), (si, .inl (Y.1, 320, .inl im)), (sc, .inl (Y.2.1, 8, .inr (.inl cd))), (bd, .inr (0, [.int (nI c), .int (nI r), .int (nI (al c r)), .int (nI (c * r)), .ref bs, .ref bf, .ref bg])), (bs, .inl (Y.2.1, 16, .inr (.inl sd))), (bf, .inl (Y.1, 40, .inl fb)), (bg, .inl (Y.1, 40, .inl gb))] (fun _ : Unit => none) (fun _ : Unit => [(sy, .inr (6, [.ref bd, .ref si, .ref sc, .ref sf, .int (nI (manyM c r))])), (si, .inl (Y.1, 320, .inl im)), (sc, .inl (Y.2.1, 8, .inr (.inl (fa_fill (mapS c r w) cd (manyM c r))))), (bd, .inr (0, [.int (nI c), .int (nI r), .int (nI (al c r)), .int (nI (c * r)), .ref bs, .ref bf, .ref bg])), (bs, .inl (Y.2.1, 16, .inr (.inl sd))), (bf, .inl (Y.1, 40, .inl fb)), (bg, .inl (Y.1, 40, .inl gb))]) (fun _ : Unit => True)) aG sG 0 0 AA) (F0 mG 2 ls []) := by
    intro n2
    induction n2 with
    | zero =>
      intro s hs hmeas2 H locs hP hD hS ls hl
      exact absurd hmeas2 (Nat.not_lt_zero _)
    | succ n2 ih2 =>
      intro s hs hmeas2 H locs hP hD hS ls hl
      refine lv_iload_n (pc := 2) hx hb dX7_encode_2 rfl (lv_at hl 2 rfl) ?_
      refine lv_aload_n (pc := 3) hx hb dX7_encode_3 rfl (lv_at hl 0 rfl) ?_
      refine va_get (pc := 4) (D := D) (ci := 6) (v := .int (nI (manyM c r))) (C := RX7) (T := TX7) (N := 5) hx hb hts hinX7 hown hK.1 hP 0 rfl rfl 4 (by decide) (hts (.fieldLink RX7 35 "BoxesGame$Symmetry" "amount" "I") (List.mem_of_getElem? (i := 1) rfl)) (fun _ h9 => h9) rfl dX7_encode_4 ?_
      refine n_icmp_ge (pc := 7) (tgt := 74) hx hb (by omega) (by omega) dX7_encode_7 (by decide) (fun c7 => ?_) (fun c7 => ?_)
      · subst hAA
        exact mu_vret hx hb hr hlocks hP hS (()) (rfl) (trivial) (by rw [show s = manyM c r by omega]) dX7_encode_74
      refine lv_lconst (pc := 10) (v := 0) hx hb dX7_encode_10 (by decide) ?_
      refine lv_lstore (pc := 11) (lv' := [(4, .long (0 : Int64)), (0, .ref sy), (1, .long w), (3, .int (nI s))]) hx hb dX7_encode_11 hl (by decide) rfl (fun ls hl => ?_)
      refine lv_iconst (pc := 13) (v := nI 0) hx hb dX7_encode_13 rfl ?_
      refine lv_istore (pc := 14) (lv' := [(6, .int (nI 0)), (4, .long (0 : Int64)), (0, .ref sy), (1, .long w), (3, .int (nI s))]) hx hb dX7_encode_14 hl (by decide) rfl (fun ls hl => ?_)
      have L16 : ∀ (n16 : Nat), ∀ (i : Nat) (u : Int64), (i ≤ al c r) → (u = mapSF c r w s i) → al c r - i < n16 → ∀ (H : Heap) (locs : List Loc), va_P D vwCl [(sy, .inr (6, [.ref bd, .ref si, .ref sc, .ref sf, .int (nI (manyM c r))])), (si, .inl (Y.1, 320, .inl im)), (sc, .inl (Y.2.1, 8, .inr (.inl (fa_fill (mapS c r w) cd s)))), (bd, .inr (0, [.int (nI c), .int (nI r), .int (nI (al c r)), .int (nI (c * r)), .ref bs, .ref bf, .ref bg])), (bs, .inl (Y.2.1, 16, .inr (.inl sd))), (bf, .inl (Y.1, 40, .inl fb)), (bg, .inl (Y.1, 40, .inl gb))] H → va_D AA [(sy, .inr (6, [.ref bd, .ref si, .ref sc, .ref sf, .int (nI (manyM c r))])), (si, .inl (Y.1, 320, .inl im)), (sc, .inl (Y.2.1, 8, .inr (.inl (fa_fill (mapS c r w) cd s)))), (bd, .inr (0, [.int (nI c), .int (nI r), .int (nI (al c r)), .int (nI (c * r)), .ref bs, .ref bf, .ref bg])), (bs, .inl (Y.2.1, 16, .inr (.inl sd))), (bf, .inl (Y.1, 40, .inl fb)), (bg, .inl (Y.1, 40, .inl gb))] → va_S AA sG.heap H locs → ∀ (ls : Array Slot), lv_has ls 7 [(0, .ref sy), (1, .long w), (3, .int (nI s)), (4, .long u), (6, .int (nI i))] → W pG l eG ({ frames := 2, cells := 0, slots := 0, locals := 43 } : Room) sG mG aG bG tG cG H locs 0 0 (MQ bG (MuQ D [(sy, .inr (6, [.ref bd, .ref si, .ref sc, .ref sf, .int (nI (manyM c r))])), (si, .inl (Y.1, 320, .inl im)), (sc, .inl (Y.2.1, 8, .inr (.inl cd))), (bd, .inr (0, [.int (nI c), .int (nI r), .int (nI (al c r)), .int (nI (c * r)), .ref bs, .ref bf, .ref bg])), (bs, .inl (Y.2.1, 16, .inr (.inl sd))), (bf, .inl (Y.1, 40, .inl fb)), (bg, .inl (Y.1, 40, .inl gb))] (fun _ : Unit => none) (fun _ : Unit => [(sy, .inr (6, [.ref bd, .ref si, .ref sc, .ref sf, .int (nI (manyM c r))])), (si, .inl (Y.1, 320, .inl im)), (sc, .inl (Y.2.1, 8, .inr (.inl (fa_fill (mapS c r w) cd (manyM c r))))), (bd, .inr (0, [.int (nI c), .int (nI r), .int (nI (al c r)), .int (nI (c * r)), .ref bs, .ref bf, .ref bg])), (bs, .inl (Y.2.1, 16, .inr (.inl sd))), (bf, .inl (Y.1, 40, .inl fb)), (bg, .inl (Y.1, 40, .inl gb))]) (fun _ : Unit => True)) aG sG 0 0 AA) (F0 mG 16 ls []) := by
        intro n16
        induction n16 with
        | zero =>
          intro i u hi hu hmeas16 H locs hP hD hS ls hl
          exact absurd hmeas16 (Nat.not_lt_zero _)
        | succ n16 ih16 =>
          intro i u hi hu hmeas16 H locs hP hD hS ls hl
          refine lv_iload (pc := 16) hx hb dX7_encode_16 (lv_at hl 4 rfl) ?_
          refine lv_aload_n (pc := 18) hx hb dX7_encode_18 rfl (lv_at hl 0 rfl) ?_
          refine va_get (pc := 19) (D := D) (ci := 6) (v := .ref bd) (C := RX7) (T := TX7) (N := 5) hx hb hts hinX7 hown hK.1 hP 0 rfl rfl 0 (by decide) (hts (.fieldLink RX7 22 "BoxesGame$Symmetry" "board" "LBoxesGame$Board;") (List.mem_of_getElem? (i := 2) rfl)) (fun _ h9 => h9) rfl dX7_encode_19 ?_
          refine va_get (pc := 22) (D := D) (ci := 0) (v := .int (nI (al c r))) (C := RX0) (T := TX0) (N := 7) hx hb hts hinX0 hown hK.1 hP 3 rfl rfl 2 (by decide) (hts (.fieldLink RX7 59 "BoxesGame$Board" "lineCount" "I") (List.mem_of_getElem? (i := 3) rfl)) (fun _ h9 => h9) rfl dX7_encode_22 ?_
          refine n_icmp_ge (pc := 25) (tgt := 58) hx hb (by omega) (by omega) dX7_encode_25 (by decide) (fun c25 => ?_) (fun c25 => ?_)
          · have hue : u = mapS c r w s := by rw [hu, show i = al c r by omega]; rfl
            subst hue
            have hl : lv_has ls 7 [(0, .ref sy), (1, .long w), (3, .int (nI s)), (4, .long (mapS c r w s)), (6, .int (nI i))] := hl
            refine lv_aload_n (pc := 58) hx hb dX7_encode_58 rfl (lv_at hl 0 rfl) ?_
            refine va_get (pc := 59) (D := D) (ci := 6) (v := .ref sc) (C := RX7) (T := TX7) (N := 5) hx hb hts hinX7 hown hK.1 hP 0 rfl rfl 2 (by decide) (hts (.fieldLink RX7 15 "BoxesGame$Symmetry" "codes" "[J") (List.mem_of_getElem? (i := 4) rfl)) (fun _ h9 => h9) rfl dX7_encode_59 ?_
            refine lv_iload_n (pc := 62) hx hb dX7_encode_62 rfl (lv_at hl 2 rfl) ?_
            refine lv_lload (pc := 63) hx hb dX7_encode_63 (lv_at hl 3 rfl) ?_
            refine mu_go (pc := 65) (va_runS (As := [.ref sc, .int (nI s), .long (mapS c r w s)]) (rest := []) ⟨hx, hb, hml, hown, hts⟩ (c_X3_put__in l D Y 8 (fa_fill (mapS c r w) cd s) sc s (mapS c r w s) (by decide) (by first | assumption | omega)) (va_cwS 3 hts gX7_encode_X3_put_ rfl rfl rfl hdX3_put_ ⟨Nat.le_of_ble_eq_true rfl, Nat.le_of_ble_eq_true rfl⟩) (mu_pS hK (hP.sub [2] rfl) (hD.sub [2] (by decide) rfl)) rfl rfl hl.1 rfl (lv_room (Nat.le_of_ble_eq_true rfl)) dX7_encode_65 ⟨Nat.le_of_ble_eq_true rfl, Nat.le_of_ble_eq_true rfl⟩) hP hD hS [2] rfl (by decide) (fun _ => [(sy, .inr (6, [.ref bd, .ref si, .ref sc, .ref sf, .int (nI (manyM c r))])), (si, .inl (Y.1, 320, .inl im)), (sc, .inl (Y.2.1, 8, .inr (.inl (vp_updL (fa_fill (mapS c r w) cd s) s (mapS c r w s))))), (bd, .inr (0, [.int (nI c), .int (nI r), .int (nI (al c r)), .int (nI (c * r)), .ref bs, .ref bf, .ref bg])), (bs, .inl (Y.2.1, 16, .inr (.inl sd))), (bf, .inl (Y.1, 40, .inl fb)), (bg, .inl (Y.1, 40, .inl gb))]) (fun _ => rfl) (fun _ => rfl) (fun uS H locs hpost hP hD hS => ?_)
            have hP : va_P D vwCl [(sy, .inr (6, [.ref bd, .ref si, .ref sc, .ref sf, .int (nI (manyM c r))])), (si, .inl (Y.1, 320, .inl im)), (sc, .inl (Y.2.1, 8, .inr (.inl (vp_updL (fa_fill (mapS c r w) cd s) s (mapS c r w s))))), (bd, .inr (0, [.int (nI c), .int (nI r), .int (nI (al c r)), .int (nI (c * r)), .ref bs, .ref bf, .ref bg])), (bs, .inl (Y.2.1, 16, .inr (.inl sd))), (bf, .inl (Y.1, 40, .inl fb)), (bg, .inl (Y.1, 40, .inl gb))] H := hP
            have hD : va_D AA [(sy, .inr (6, [.ref bd, .ref si, .ref sc, .ref sf, .int (nI (manyM c r))])), (si, .inl (Y.1, 320, .inl im)), (sc, .inl (Y.2.1, 8, .inr (.inl (vp_updL (fa_fill (mapS c r w) cd s) s (mapS c r w s))))), (bd, .inr (0, [.int (nI c), .int (nI r), .int (nI (al c r)), .int (nI (c * r)), .ref bs, .ref bf, .ref bg])), (bs, .inl (Y.2.1, 16, .inr (.inl sd))), (bf, .inl (Y.1, 40, .inl fb)), (bg, .inl (Y.1, 40, .inl gb))] := hD
            refine lv_iinc (pc := 68) (v := nI (s + 1)) (lv' := [(3, .int (nI (s + 1))), (0, .ref sy), (1, .long w), (4, .long (mapS c r w s)), (6, .int (nI i))]) hx hb dX7_encode_68 hl (k := 2) rfl (n_inc s 1) (by decide) rfl (fun ls hl => ?_)
            have e9 : (vp_updL (fa_fill (mapS c r w) cd s) s (mapS c r w s)) = (fa_fill (mapS c r w) cd (s + 1)) := upL_fill _ _ _
            have hP : va_P D vwCl [(sy, .inr (6, [.ref bd, .ref si, .ref sc, .ref sf, .int (nI (manyM c r))])), (si, .inl (Y.1, 320, .inl im)), (sc, .inl (Y.2.1, 8, .inr (.inl (fa_fill (mapS c r w) cd (s + 1))))), (bd, .inr (0, [.int (nI c), .int (nI r), .int (nI (al c r)), .int (nI (c * r)), .ref bs, .ref bf, .ref bg])), (bs, .inl (Y.2.1, 16, .inr (.inl sd))), (bf, .inl (Y.1, 40, .inl fb)), (bg, .inl (Y.1, 40, .inl gb))] H := by rw [← e9]; exact hP
            have hD : va_D AA [(sy, .inr (6, [.ref bd, .ref si, .ref sc, .ref sf, .int (nI (manyM c r))])), (si, .inl (Y.1, 320, .inl im)), (sc, .inl (Y.2.1, 8, .inr (.inl (fa_fill (mapS c r w) cd (s + 1))))), (bd, .inr (0, [.int (nI c), .int (nI r), .int (nI (al c r)), .int (nI (c * r)), .ref bs, .ref bf, .ref bg])), (bs, .inl (Y.2.1, 16, .inr (.inl sd))), (bf, .inl (Y.1, 40, .inl fb)), (bg, .inl (Y.1, 40, .inl gb))] := by rw [← e9]; exact hD
            refine lv_goto (pc := 71) (tgt := 2) hx hb dX7_encode_71 (by decide) ?_
            exact ih2 (s + 1) (by first | assumption | omega) (by omega) _ _ hP hD hS _ (lv_sub hl [1, 2, 0] rfl)
          refine lv_lload_n (pc := 28) hx hb dX7_encode_28 rfl (lv_at hl 1 rfl) ?_
          refine lv_iload (pc := 29) hx hb dX7_encode_29 (lv_at hl 4 rfl) ?_
          refine ro_go (pc := 31) (va_runSN (As := [.long w, .int (nI i)]) (rest := []) ⟨hx, hb, hml, hown, hts⟩ (c_X8_contains l D Y w i (by first | assumption | omega)) (⟨va_cnB 2 hts ggX7_encode_X8_contains rfl rfl rfl (hK.nest 10 rfl) (hts (.initialized RX8) (List.mem_of_getElem? (i := 6) rfl)) hdX8_contains ⟨Nat.le_of_ble_eq_true rfl, Nat.le_of_ble_eq_true rfl⟩, hts (.static yX8_contains) (List.mem_of_getElem? (i := 5) rfl), trivial⟩) (ro_pS hK (hP.sub [] rfl)) rfl rfl hl.1 rfl (lv_room (Nat.le_of_ble_eq_true rfl)) dX7_encode_31 ⟨Nat.le_of_ble_eq_true rfl, Nat.le_of_ble_eq_true rfl⟩) ?_
          refine z_if_eq (pc := 34) (tgt := 52) hx hb dX7_encode_34 (by decide) (fun c34 => ?_) (fun c34 => ?_)
          · refine lv_iinc (pc := 52) (v := nI (i + 1)) (lv' := [(6, .int (nI (i + 1))), (0, .ref sy), (1, .long w), (3, .int (nI s)), (4, .long u)]) hx hb dX7_encode_52 hl (k := 4) rfl (n_inc i 1) (by decide) rfl (fun ls hl => ?_)
            refine lv_goto (pc := 55) (tgt := 16) hx hb dX7_encode_55 (by decide) ?_
            exact ih16 (i + 1) u (by first | assumption | omega) (by rw [hu, mapSF, c34]; rfl) (by omega) _ _ hP hD hS _ (lv_sub hl [1, 2, 3, 4, 0] rfl)
          refine lv_lload (pc := 37) hx hb dX7_encode_37 (lv_at hl 3 rfl) ?_
          refine lv_aload_n (pc := 39) hx hb dX7_encode_39 rfl (lv_at hl 0 rfl) ?_
          refine lv_iload_n (pc := 40) hx hb dX7_encode_40 rfl (lv_at hl 2 rfl) ?_
          refine lv_iload (pc := 41) hx hb dX7_encode_41 (lv_at hl 4 rfl) ?_
          refine ro_go (pc := 43) (va_runV (As := [.int (nI s), .int (nI i)]) (rest := [.long u]) ⟨hx, hb, hml, hown, hts⟩ (c_X7_imageOf l D Y sy bd si sc sf im c r s i (hC) (hY) (by first | assumption | omega) (by first | assumption | omega)) (cwV 2 hts gX7_encode_X7_imageOf rfl rfl rfl ⟨rfl, hdX7_imageOf⟩ ⟨Nat.le_of_ble_eq_true rfl, Nat.le_of_ble_eq_true rfl⟩) (ro_pV hK (hP.sub [0, 1] rfl) (ro_recv hK hP (ci := 6) (q0 := 0) rfl rfl)) rfl rfl hl.1 rfl (lv_room (Nat.le_of_ble_eq_true rfl)) dX7_encode_43 ⟨Nat.le_of_ble_eq_true rfl, Nat.le_of_ble_eq_true rfl⟩) ?_
          refine ro_go (pc := 46) (va_runSN (As := [.int (nI (mapM c r i s))]) (rest := [.long u]) ⟨hx, hb, hml, hown, hts⟩ (c_X8_bit_in l D Y (mapM c r i s) (lt_al hC (mapM_lt hC c25 c7))) (⟨va_cnB 1 hts ggX7_encode_X8_bit rfl rfl rfl (hK.nest 11 rfl) (hts (.initialized RX8) (List.mem_of_getElem? (i := 6) rfl)) hdX8_bit ⟨Nat.le_of_ble_eq_true rfl, Nat.le_of_ble_eq_true rfl⟩, hts (.static yX8_bit) (List.mem_of_getElem? (i := 9) rfl), trivial⟩) (ro_pS hK (hP.sub [] rfl)) rfl rfl hl.1 rfl (lv_room (Nat.le_of_ble_eq_true rfl)) dX7_encode_46 ⟨Nat.le_of_ble_eq_true rfl, Nat.le_of_ble_eq_true rfl⟩) ?_
          refine lv_lor (pc := 49) hx hb dX7_encode_49 ?_
          refine lv_lstore (pc := 50) (lv' := [(4, .long (u ||| (b1 (mapM c r i s)))), (0, .ref sy), (1, .long w), (3, .int (nI s)), (6, .int (nI i))]) hx hb dX7_encode_50 hl (by decide) rfl (fun ls hl => ?_)
          refine lv_iinc (pc := 52) (v := nI (i + 1)) (lv' := [(6, .int (nI (i + 1))), (4, .long (u ||| (b1 (mapM c r i s)))), (0, .ref sy), (1, .long w), (3, .int (nI s))]) hx hb dX7_encode_52 hl (k := 4) rfl (n_inc i 1) (by decide) rfl (fun ls hl => ?_)
          refine lv_goto (pc := 55) (tgt := 16) hx hb dX7_encode_55 (by decide) ?_
          exact ih16 (i + 1) (u ||| (b1 (mapM c r i s))) (by first | assumption | omega) (by rw [hu, mapSF, c34]; rfl) (by omega) _ _ hP hD hS _ (lv_sub hl [2, 3, 4, 1, 0] rfl)
      exact L16 ((al c r - 0) + 1) 0 (0 : Int64) (by first | assumption | omega) (rfl) (Nat.lt_succ_self _) _ _ hP hD hS _ (lv_sub hl [2, 3, 4, 1, 0] rfl)
  exact L2 ((manyM c r - 0) + 1) 0 (by first | assumption | omega) (Nat.lt_succ_self _) _ _ hP hD hS _ (lv_sub hl [1, 2, 0] rfl)

set_option maxHeartbeats 1200000 in
set_option maxRecDepth 100000 in
theorem c_X7_lowestCode (l : Launch) (D : va_G) (Y : vY) (sy : Nat) (bd : Nat) (si : Nat) (sc : Nat) (sf : Nat) (im : Nat → Int32) (cd : Nat → Int64) (bs : Nat) (bf : Nat) (bg : Nat) (c : Nat) (r : Nat) (sd : Nat → Int64) (fb : Nat → Int32) (gb : Nat → Int32) (w : Int64) (hC : Cr c r) (hB : BdOK c r sd fb gb) (hY : SyOK c r im) : Mu l yX7_lowestCode wsX7_lowestCode ({ frames := 3, cells := 0, slots := 0, locals := 69 } : Room) [.ref sy, .long w] D Y [(sy, .inr (6, [.ref bd, .ref si, .ref sc, .ref sf, .int (nI (manyM c r))])), (si, .inl (Y.1, 320, .inl im)), (sc, .inl (Y.2.1, 8, .inr (.inl cd))), (bd, .inr (0, [.int (nI c), .int (nI r), .int (nI (al c r)), .int (nI (c * r)), .ref bs, .ref bf, .ref bg])), (bs, .inl (Y.2.1, 16, .inr (.inl sd))), (bf, .inl (Y.1, 40, .inl fb)), (bg, .inl (Y.1, 40, .inl gb))] (fun _ : Unit => some (.long (lsc c r w))) (fun _ : Unit => [(sy, .inr (6, [.ref bd, .ref si, .ref sc, .ref sf, .int (nI (manyM c r))])), (si, .inl (Y.1, 320, .inl im)), (sc, .inl (Y.2.1, 8, .inr (.inl (fa_fill (mapS c r w) cd (manyM c r))))), (bd, .inr (0, [.int (nI c), .int (nI r), .int (nI (al c r)), .int (nI (c * r)), .ref bs, .ref bf, .ref bg])), (bs, .inl (Y.2.1, 16, .inr (.inl sd))), (bf, .inl (Y.1, 40, .inl fb)), (bg, .inl (Y.1, 40, .inl gb))]) (fun _ : Unit => True) := by
  refine mu_intro (by decide +kernel) rfl (Nat.le_of_ble_eq_true rfl) [(0, .ref sy), (1, .long w)] rfl ?_
  intro pG eG sG mG aG bG tG cG ls hx hb hr hml hts hown hlocks hK hP hD hS hl
  generalize hAA : adA [(sy, .inr (6, [.ref bd, .ref si, .ref sc, .ref sf, .int (nI (manyM c r))])), (si, .inl (Y.1, 320, .inl im)), (sc, .inl (Y.2.1, 8, .inr (.inl cd))), (bd, .inr (0, [.int (nI c), .int (nI r), .int (nI (al c r)), .int (nI (c * r)), .ref bs, .ref bf, .ref bg])), (bs, .inl (Y.2.1, 16, .inr (.inl sd))), (bf, .inl (Y.1, 40, .inl fb)), (bg, .inl (Y.1, 40, .inl gb))] = AA at hD hS ⊢
  have hP : va_P D vwCl [(sy, .inr (6, [.ref bd, .ref si, .ref sc, .ref sf, .int (nI (manyM c r))])), (si, .inl (Y.1, 320, .inl im)), (sc, .inl (Y.2.1, 8, .inr (.inl cd))), (bd, .inr (0, [.int (nI c), .int (nI r), .int (nI (al c r)), .int (nI (c * r)), .ref bs, .ref bf, .ref bg])), (bs, .inl (Y.2.1, 16, .inr (.inl sd))), (bf, .inl (Y.1, 40, .inl fb)), (bg, .inl (Y.1, 40, .inl gb))] sG.heap := hP
  have hD : va_D AA [(sy, .inr (6, [.ref bd, .ref si, .ref sc, .ref sf, .int (nI (manyM c r))])), (si, .inl (Y.1, 320, .inl im)), (sc, .inl (Y.2.1, 8, .inr (.inl cd))), (bd, .inr (0, [.int (nI c), .int (nI r), .int (nI (al c r)), .int (nI (c * r)), .ref bs, .ref bf, .ref bg])), (bs, .inl (Y.2.1, 16, .inr (.inl sd))), (bf, .inl (Y.1, 40, .inl fb)), (bg, .inl (Y.1, 40, .inl gb))] := hD
  have hown : sG.vm.findClass RX7 = some mG.cls := hown
  have hl : lv_has ls 6 [(0, .ref sy), (1, .long w)] := hl
  have hinX7 : ∀ w ∈ u_ws RX7 TX7 5, w ∈ wsX7_lowestCode := by decide +kernel
  have hS : va_S AA sG.heap sG.heap [] := hS
  obtain ⟨hq1, hq2, hq3, hq4, hq5, hq6, hq7, hq8, hq9, hq10, hq11⟩ := hC.q
  obtain ⟨hm1, hm2⟩ := many_le c r
  refine lv_aload_n (pc := 0) hx hb dX7_lowestCode_0 rfl (lv_at hl 0 rfl) ?_
  refine lv_lload_n (pc := 1) hx hb dX7_lowestCode_1 rfl (lv_at hl 1 rfl) ?_
  refine mu_go (pc := 2) (va_runV (As := [.long w]) (rest := []) ⟨hx, hb, hml, hown, hts⟩ (c_X7_encode l D Y sy bd si sc sf im cd bs bf bg c r sd fb gb w (hC) (hB) (hY)) (cwV 1 hts gX7_lowestCode_X7_encode rfl rfl rfl ⟨rfl, hdX7_encode⟩ ⟨Nat.le_of_ble_eq_true rfl, Nat.le_of_ble_eq_true rfl⟩) (mu_pV hK hP hD (ro_recv hK hP (ci := 6) (q0 := 0) rfl rfl)) rfl rfl hl.1 rfl (lv_room (Nat.le_of_ble_eq_true rfl)) dX7_lowestCode_2 ⟨Nat.le_of_ble_eq_true rfl, Nat.le_of_ble_eq_true rfl⟩) hP hD hS [0, 1, 2, 3, 4, 5, 6] rfl (by decide) (fun _ => [(sy, .inr (6, [.ref bd, .ref si, .ref sc, .ref sf, .int (nI (manyM c r))])), (si, .inl (Y.1, 320, .inl im)), (sc, .inl (Y.2.1, 8, .inr (.inl (fa_fill (mapS c r w) cd (manyM c r))))), (bd, .inr (0, [.int (nI c), .int (nI r), .int (nI (al c r)), .int (nI (c * r)), .ref bs, .ref bf, .ref bg])), (bs, .inl (Y.2.1, 16, .inr (.inl sd))), (bf, .inl (Y.1, 40, .inl fb)), (bg, .inl (Y.1, 40, .inl gb))]) (fun _ => rfl) (fun _ => rfl) (fun uS H locs hpost hP hD hS => ?_)
  have hP : va_P D vwCl [(sy, .inr (6, [.ref bd, .ref si, .ref sc, .ref sf, .int (nI (manyM c r))])), (si, .inl (Y.1, 320, .inl im)), (sc, .inl (Y.2.1, 8, .inr (.inl (fa_fill (mapS c r w) cd (manyM c r))))), (bd, .inr (0, [.int (nI c), .int (nI r), .int (nI (al c r)), .int (nI (c * r)), .ref bs, .ref bf, .ref bg])), (bs, .inl (Y.2.1, 16, .inr (.inl sd))), (bf, .inl (Y.1, 40, .inl fb)), (bg, .inl (Y.1, 40, .inl gb))] H := hP
  have hD : va_D AA [(sy, .inr (6, [.ref bd, .ref si, .ref sc, .ref sf, .int (nI (manyM c r))])), (si, .inl (Y.1, 320, .inl im)), (sc, .inl (Y.2.1, 8, .inr (.inl (fa_fill (mapS c r w) cd (manyM c r))))), (bd, .inr (0, [.int (nI c), .int (nI r), .int (nI (al c r)), .int (nI (c * r)), .ref bs, .ref bf, .ref bg])), (bs, .inl (Y.2.1, 16, .inr (.inl sd))), (bf, .inl (Y.1, 40, .inl fb)), (bg, .inl (Y.1, 40, .inl gb))] := hD
  refine lv_aload_n (pc := 5) hx hb dX7_lowestCode_5 rfl (lv_at hl 0 rfl) ?_
  refine lv_iconst (pc := 6) (v := nI 0) hx hb dX7_lowestCode_6 rfl ?_
  refine ro_go (pc := 7) (va_runV (As := [.int (nI 0)]) (rest := []) ⟨hx, hb, hml, hown, hts⟩ (c_X7_codeOf l D Y sy bd si sc sf (fa_fill (mapS c r w) cd (manyM c r)) c r 0 (by first | assumption | omega)) (cwV 1 hts gX7_lowestCode_X7_codeOf rfl rfl rfl ⟨rfl, hdX7_codeOf⟩ ⟨Nat.le_of_ble_eq_true rfl, Nat.le_of_ble_eq_true rfl⟩) (ro_pV hK (hP.sub [0, 2] rfl) (ro_recv hK hP (ci := 6) (q0 := 0) rfl rfl)) rfl rfl hl.1 rfl (lv_room (Nat.le_of_ble_eq_true rfl)) dX7_lowestCode_7 ⟨Nat.le_of_ble_eq_true rfl, Nat.le_of_ble_eq_true rfl⟩) ?_
  refine lv_lstore_n (pc := 10) (lv' := [(3, .long ((fa_fill (mapS c r w) cd (manyM c r)) 0)), (0, .ref sy), (1, .long w)]) hx hb dX7_lowestCode_10 rfl hl (by decide) rfl (fun ls hl => ?_)
  refine lv_iconst (pc := 11) (v := nI 1) hx hb dX7_lowestCode_11 rfl ?_
  refine lv_istore (pc := 12) (lv' := [(5, .int (nI 1)), (3, .long ((fa_fill (mapS c r w) cd (manyM c r)) 0)), (0, .ref sy), (1, .long w)]) hx hb dX7_lowestCode_12 hl (by decide) rfl (fun ls hl => ?_)
  have L14 : ∀ (n14 : Nat), ∀ (i : Nat) (u : Int64), (1 ≤ i) → (i ≤ manyM c r) → (u = minF (mapS c r w) (i - 1)) → manyM c r - i < n14 → ∀ (H : Heap) (locs : List Loc), va_P D vwCl [(sy, .inr (6, [.ref bd, .ref si, .ref sc, .ref sf, .int (nI (manyM c r))])), (si, .inl (Y.1, 320, .inl im)), (sc, .inl (Y.2.1, 8, .inr (.inl (fa_fill (mapS c r w) cd (manyM c r))))), (bd, .inr (0, [.int (nI c), .int (nI r), .int (nI (al c r)), .int (nI (c * r)), .ref bs, .ref bf, .ref bg])), (bs, .inl (Y.2.1, 16, .inr (.inl sd))), (bf, .inl (Y.1, 40, .inl fb)), (bg, .inl (Y.1, 40, .inl gb))] H → va_D AA [(sy, .inr (6, [.ref bd, .ref si, .ref sc, .ref sf, .int (nI (manyM c r))])), (si, .inl (Y.1, 320, .inl im)), (sc, .inl (Y.2.1, 8, .inr (.inl (fa_fill (mapS c r w) cd (manyM c r))))), (bd, .inr (0, [.int (nI c), .int (nI r), .int (nI (al c r)), .int (nI (c * r)), .ref bs, .ref bf, .ref bg])), (bs, .inl (Y.2.1, 16, .inr (.inl sd))), (bf, .inl (Y.1, 40, .inl fb)), (bg, .inl (Y.1, 40, .inl gb))] → va_S AA sG.heap H locs → ∀ (ls : Array Slot), lv_has ls 6 [(0, .ref sy), (1, .long w), (3, .long u), (5, .int (nI i))] → W pG l eG ({ frames := 3, cells := 0, slots := 0, locals := 69 } : Room) sG mG aG bG tG cG H locs 0 0 (MQ bG (MuQ D [(sy, .inr (6, [.ref bd, .ref si, .ref sc, .ref sf, .int (nI (manyM c r))])), (si, .inl (Y.1, 320, .inl im)), (sc, .inl (Y.2.1, 8, .inr (.inl cd))), (bd, .inr (0, [.int (nI c), .int (nI r), .int (nI (al c r)), .int (nI (c * r)), .ref bs, .ref bf, .ref bg])), (bs, .inl (Y.2.1, 16, .inr (.inl sd))), (bf, .inl (Y.1, 40, .inl fb)), (bg, .inl (Y.1, 40, .inl gb))] (fun _ : Unit => some (.long (lsc c r w))) (fun _ : Unit => [(sy, .inr (6, [.ref bd, .ref si, .ref sc, .ref sf, .int (nI (manyM c r))])), (si, .inl (Y.1, 320, .inl im)), (sc, .inl (Y.2.1, 8, .inr (.inl (fa_fill (mapS c r w) cd (manyM c r))))), (bd, .inr (0, [.int (nI c), .int (nI r), .int (nI (al c r)), .int (nI (c * r)), .ref bs, .ref bf, .ref bg])), (bs, .inl (Y.2.1, 16, .inr (.inl sd))), (bf, .inl (Y.1, 40, .inl fb)), (bg, .inl (Y.1, 40, .inl gb))]) (fun _ : Unit => True)) aG sG 0 0 AA) (F0 mG 14 ls []) := by
    intro n14
    induction n14 with
    | zero =>
      intro i u h1 hi hu hmeas14 H locs hP hD hS ls hl
      exact absurd hmeas14 (Nat.not_lt_zero _)
    | succ n14 ih14 =>
      intro i u h1 hi hu hmeas14 H locs hP hD hS ls hl
      refine lv_iload (pc := 14) hx hb dX7_lowestCode_14 (lv_at hl 3 rfl) ?_
      refine lv_aload_n (pc := 16) hx hb dX7_lowestCode_16 rfl (lv_at hl 0 rfl) ?_
      refine va_get (pc := 17) (D := D) (ci := 6) (v := .int (nI (manyM c r))) (C := RX7) (T := TX7) (N := 5) hx hb hts hinX7 hown hK.1 hP 0 rfl rfl 4 (by decide) (hts (.fieldLink RX7 35 "BoxesGame$Symmetry" "amount" "I") (List.mem_of_getElem? (i := 1) rfl)) (fun _ h9 => h9) rfl dX7_lowestCode_17 ?_
      refine n_icmp_ge (pc := 20) (tgt := 40) hx hb (by omega) (by omega) dX7_lowestCode_20 (by decide) (fun c20 => ?_) (fun c20 => ?_)
      · refine lv_lload_n (pc := 40) hx hb dX7_lowestCode_40 rfl (lv_at hl 2 rfl) ?_
        subst hAA
        exact mu_lret hx hb hr hlocks hP hS (()) (by rw [hu, show i = manyM c r by omega]; rfl) (trivial) (rfl) dX7_lowestCode_41
      refine lv_lload_n (pc := 23) hx hb dX7_lowestCode_23 rfl (lv_at hl 2 rfl) ?_
      refine lv_aload_n (pc := 24) hx hb dX7_lowestCode_24 rfl (lv_at hl 0 rfl) ?_
      refine lv_iload (pc := 25) hx hb dX7_lowestCode_25 (lv_at hl 3 rfl) ?_
      refine ro_go (pc := 27) (va_runV (As := [.int (nI i)]) (rest := [.long u]) ⟨hx, hb, hml, hown, hts⟩ (c_X7_codeOf l D Y sy bd si sc sf (fa_fill (mapS c r w) cd (manyM c r)) c r i (by first | assumption | omega)) (cwV 1 hts gX7_lowestCode_X7_codeOf rfl rfl rfl ⟨rfl, hdX7_codeOf⟩ ⟨Nat.le_of_ble_eq_true rfl, Nat.le_of_ble_eq_true rfl⟩) (ro_pV hK (hP.sub [0, 2] rfl) (ro_recv hK hP (ci := 6) (q0 := 0) rfl rfl)) rfl rfl hl.1 rfl (lv_room (Nat.le_of_ble_eq_true rfl)) dX7_lowestCode_27 ⟨Nat.le_of_ble_eq_true rfl, Nat.le_of_ble_eq_true rfl⟩) ?_
      refine va_mmin_long (pc := 30) hx hb (hml.trans hl.1.symm) hown (hts (.methodLink RX7 84 Lib.MathLoose.min_long.x) (List.mem_of_getElem? (i := 2) rfl)) (hts (.static Lib.MathLoose.min_long.x) (List.mem_of_getElem? (i := 3) rfl)) (hts (.initialized "java/lang/Math") (List.mem_of_getElem? (i := 4) rfl)) (hts (.code Lib.MathLoose.min_long.x Lib.MathLoose.min_long.code 4 (some .long)) (List.mem_of_getElem? (i := 5) rfl)) (Nat.le_of_ble_eq_true rfl) (Nat.le_of_ble_eq_true rfl) (Nat.le_of_ble_eq_true rfl) (Nat.le_of_ble_eq_true rfl) dX7_lowestCode_30 ?_
      refine lv_lstore_n (pc := 33) (lv' := [(3, .long (mnL u ((fa_fill (mapS c r w) cd (manyM c r)) i))), (0, .ref sy), (1, .long w), (5, .int (nI i))]) hx hb dX7_lowestCode_33 rfl hl (by decide) rfl (fun ls hl => ?_)
      refine lv_iinc (pc := 34) (v := nI (i + 1)) (lv' := [(5, .int (nI (i + 1))), (3, .long (mnL u ((fa_fill (mapS c r w) cd (manyM c r)) i))), (0, .ref sy), (1, .long w)]) hx hb dX7_lowestCode_34 hl (k := 3) rfl (n_inc i 1) (by decide) rfl (fun ls hl => ?_)
      refine lv_goto (pc := 37) (tgt := 14) hx hb dX7_lowestCode_37 (by decide) ?_
      exact ih14 (i + 1) (mnL u ((fa_fill (mapS c r w) cd (manyM c r)) i)) (by first | assumption | omega) (by first | assumption | omega) (by rw [hu, fa_fill_in (by omega)]; obtain ⟨j, rfl⟩ : ∃ j, i = j + 1 := ⟨i - 1, by omega⟩; rfl) (by omega) _ _ hP hD hS _ (lv_sub hl [2, 3, 1, 0] rfl)
  exact L14 ((manyM c r - 1) + 1) 1 ((fa_fill (mapS c r w) cd (manyM c r)) 0) (by first | assumption | omega) (by first | assumption | omega) (by rw [fa_fill_in (by omega)]; rfl) (Nat.lt_succ_self _) _ _ hP hD hS _ (lv_sub hl [2, 3, 1, 0] rfl)

set_option maxHeartbeats 1200000 in
set_option maxRecDepth 100000 in
theorem c_X7_keepingCount (l : Launch) (D : va_G) (Y : vY) (sy : Nat) (bd : Nat) (si : Nat) (sc : Nat) (sf : Nat) (im : Nat → Int32) (cd : Nat → Int64) (bs : Nat) (bf : Nat) (bg : Nat) (c : Nat) (r : Nat) (sd : Nat → Int64) (fb : Nat → Int32) (gb : Nat → Int32) (w : Int64) (hC : Cr c r) (hB : BdOK c r sd fb gb) (hY : SyOK c r im) : Mu l yX7_keepingCount wsX7_keepingCount ({ frames := 3, cells := 0, slots := 0, locals := 69 } : Room) [.ref sy, .long w] D Y [(sy, .inr (6, [.ref bd, .ref si, .ref sc, .ref sf, .int (nI (manyM c r))])), (si, .inl (Y.1, 320, .inl im)), (sc, .inl (Y.2.1, 8, .inr (.inl cd))), (bd, .inr (0, [.int (nI c), .int (nI r), .int (nI (al c r)), .int (nI (c * r)), .ref bs, .ref bf, .ref bg])), (bs, .inl (Y.2.1, 16, .inr (.inl sd))), (bf, .inl (Y.1, 40, .inl fb)), (bg, .inl (Y.1, 40, .inl gb))] (fun _ : Unit => some (.int (nI (fixn c r w)))) (fun _ : Unit => [(sy, .inr (6, [.ref bd, .ref si, .ref sc, .ref sf, .int (nI (manyM c r))])), (si, .inl (Y.1, 320, .inl im)), (sc, .inl (Y.2.1, 8, .inr (.inl (fa_fill (mapS c r w) cd (manyM c r))))), (bd, .inr (0, [.int (nI c), .int (nI r), .int (nI (al c r)), .int (nI (c * r)), .ref bs, .ref bf, .ref bg])), (bs, .inl (Y.2.1, 16, .inr (.inl sd))), (bf, .inl (Y.1, 40, .inl fb)), (bg, .inl (Y.1, 40, .inl gb))]) (fun _ : Unit => True) := by
  refine mu_intro (by decide +kernel) rfl (Nat.le_of_ble_eq_true rfl) [(0, .ref sy), (1, .long w)] rfl ?_
  intro pG eG sG mG aG bG tG cG ls hx hb hr hml hts hown hlocks hK hP hD hS hl
  generalize hAA : adA [(sy, .inr (6, [.ref bd, .ref si, .ref sc, .ref sf, .int (nI (manyM c r))])), (si, .inl (Y.1, 320, .inl im)), (sc, .inl (Y.2.1, 8, .inr (.inl cd))), (bd, .inr (0, [.int (nI c), .int (nI r), .int (nI (al c r)), .int (nI (c * r)), .ref bs, .ref bf, .ref bg])), (bs, .inl (Y.2.1, 16, .inr (.inl sd))), (bf, .inl (Y.1, 40, .inl fb)), (bg, .inl (Y.1, 40, .inl gb))] = AA at hD hS ⊢
  have hP : va_P D vwCl [(sy, .inr (6, [.ref bd, .ref si, .ref sc, .ref sf, .int (nI (manyM c r))])), (si, .inl (Y.1, 320, .inl im)), (sc, .inl (Y.2.1, 8, .inr (.inl cd))), (bd, .inr (0, [.int (nI c), .int (nI r), .int (nI (al c r)), .int (nI (c * r)), .ref bs, .ref bf, .ref bg])), (bs, .inl (Y.2.1, 16, .inr (.inl sd))), (bf, .inl (Y.1, 40, .inl fb)), (bg, .inl (Y.1, 40, .inl gb))] sG.heap := hP
  have hD : va_D AA [(sy, .inr (6, [.ref bd, .ref si, .ref sc, .ref sf, .int (nI (manyM c r))])), (si, .inl (Y.1, 320, .inl im)), (sc, .inl (Y.2.1, 8, .inr (.inl cd))), (bd, .inr (0, [.int (nI c), .int (nI r), .int (nI (al c r)), .int (nI (c * r)), .ref bs, .ref bf, .ref bg])), (bs, .inl (Y.2.1, 16, .inr (.inl sd))), (bf, .inl (Y.1, 40, .inl fb)), (bg, .inl (Y.1, 40, .inl gb))] := hD
  have hown : sG.vm.findClass RX7 = some mG.cls := hown
  have hl : lv_has ls 5 [(0, .ref sy), (1, .long w)] := hl
  have hinX7 : ∀ w ∈ u_ws RX7 TX7 5, w ∈ wsX7_keepingCount := by decide +kernel
  have hS : va_S AA sG.heap sG.heap [] := hS
  obtain ⟨hq1, hq2, hq3, hq4, hq5, hq6, hq7, hq8, hq9, hq10, hq11⟩ := hC.q
  obtain ⟨hm1, hm2⟩ := many_le c r
  refine lv_aload_n (pc := 0) hx hb dX7_keepingCount_0 rfl (lv_at hl 0 rfl) ?_
  refine lv_lload_n (pc := 1) hx hb dX7_keepingCount_1 rfl (lv_at hl 1 rfl) ?_
  refine mu_go (pc := 2) (va_runV (As := [.long w]) (rest := []) ⟨hx, hb, hml, hown, hts⟩ (c_X7_encode l D Y sy bd si sc sf im cd bs bf bg c r sd fb gb w (hC) (hB) (hY)) (cwV 1 hts gX7_keepingCount_X7_encode rfl rfl rfl ⟨rfl, hdX7_encode⟩ ⟨Nat.le_of_ble_eq_true rfl, Nat.le_of_ble_eq_true rfl⟩) (mu_pV hK hP hD (ro_recv hK hP (ci := 6) (q0 := 0) rfl rfl)) rfl rfl hl.1 rfl (lv_room (Nat.le_of_ble_eq_true rfl)) dX7_keepingCount_2 ⟨Nat.le_of_ble_eq_true rfl, Nat.le_of_ble_eq_true rfl⟩) hP hD hS [0, 1, 2, 3, 4, 5, 6] rfl (by decide) (fun _ => [(sy, .inr (6, [.ref bd, .ref si, .ref sc, .ref sf, .int (nI (manyM c r))])), (si, .inl (Y.1, 320, .inl im)), (sc, .inl (Y.2.1, 8, .inr (.inl (fa_fill (mapS c r w) cd (manyM c r))))), (bd, .inr (0, [.int (nI c), .int (nI r), .int (nI (al c r)), .int (nI (c * r)), .ref bs, .ref bf, .ref bg])), (bs, .inl (Y.2.1, 16, .inr (.inl sd))), (bf, .inl (Y.1, 40, .inl fb)), (bg, .inl (Y.1, 40, .inl gb))]) (fun _ => rfl) (fun _ => rfl) (fun uS H locs hpost hP hD hS => ?_)
  have hP : va_P D vwCl [(sy, .inr (6, [.ref bd, .ref si, .ref sc, .ref sf, .int (nI (manyM c r))])), (si, .inl (Y.1, 320, .inl im)), (sc, .inl (Y.2.1, 8, .inr (.inl (fa_fill (mapS c r w) cd (manyM c r))))), (bd, .inr (0, [.int (nI c), .int (nI r), .int (nI (al c r)), .int (nI (c * r)), .ref bs, .ref bf, .ref bg])), (bs, .inl (Y.2.1, 16, .inr (.inl sd))), (bf, .inl (Y.1, 40, .inl fb)), (bg, .inl (Y.1, 40, .inl gb))] H := hP
  have hD : va_D AA [(sy, .inr (6, [.ref bd, .ref si, .ref sc, .ref sf, .int (nI (manyM c r))])), (si, .inl (Y.1, 320, .inl im)), (sc, .inl (Y.2.1, 8, .inr (.inl (fa_fill (mapS c r w) cd (manyM c r))))), (bd, .inr (0, [.int (nI c), .int (nI r), .int (nI (al c r)), .int (nI (c * r)), .ref bs, .ref bf, .ref bg])), (bs, .inl (Y.2.1, 16, .inr (.inl sd))), (bf, .inl (Y.1, 40, .inl fb)), (bg, .inl (Y.1, 40, .inl gb))] := hD
  refine lv_iconst (pc := 5) (v := nI 0) hx hb dX7_keepingCount_5 rfl ?_
  refine lv_istore_n (pc := 6) (lv' := [(3, .int (nI 0)), (0, .ref sy), (1, .long w)]) hx hb dX7_keepingCount_6 rfl hl (by decide) rfl (fun ls hl => ?_)
  refine lv_iconst (pc := 7) (v := nI 0) hx hb dX7_keepingCount_7 rfl ?_
  refine lv_istore (pc := 8) (lv' := [(4, .int (nI 0)), (3, .int (nI 0)), (0, .ref sy), (1, .long w)]) hx hb dX7_keepingCount_8 hl (by decide) rfl (fun ls hl => ?_)
  have L10 : ∀ (n10 : Nat), ∀ (i : Nat) (n : Nat), (i ≤ manyM c r) → (n = fb_ct (fun s => decide (mapS c r w s = w)) i) → manyM c r - i < n10 → ∀ (H : Heap) (locs : List Loc), va_P D vwCl [(sy, .inr (6, [.ref bd, .ref si, .ref sc, .ref sf, .int (nI (manyM c r))])), (si, .inl (Y.1, 320, .inl im)), (sc, .inl (Y.2.1, 8, .inr (.inl (fa_fill (mapS c r w) cd (manyM c r))))), (bd, .inr (0, [.int (nI c), .int (nI r), .int (nI (al c r)), .int (nI (c * r)), .ref bs, .ref bf, .ref bg])), (bs, .inl (Y.2.1, 16, .inr (.inl sd))), (bf, .inl (Y.1, 40, .inl fb)), (bg, .inl (Y.1, 40, .inl gb))] H → va_D AA [(sy, .inr (6, [.ref bd, .ref si, .ref sc, .ref sf, .int (nI (manyM c r))])), (si, .inl (Y.1, 320, .inl im)), (sc, .inl (Y.2.1, 8, .inr (.inl (fa_fill (mapS c r w) cd (manyM c r))))), (bd, .inr (0, [.int (nI c), .int (nI r), .int (nI (al c r)), .int (nI (c * r)), .ref bs, .ref bf, .ref bg])), (bs, .inl (Y.2.1, 16, .inr (.inl sd))), (bf, .inl (Y.1, 40, .inl fb)), (bg, .inl (Y.1, 40, .inl gb))] → va_S AA sG.heap H locs → ∀ (ls : Array Slot), lv_has ls 5 [(0, .ref sy), (1, .long w), (3, .int (nI n)), (4, .int (nI i))] → W pG l eG ({ frames := 3, cells := 0, slots := 0, locals := 69 } : Room) sG mG aG bG tG cG H locs 0 0 (MQ bG (MuQ D [(sy, .inr (6, [.ref bd, .ref si, .ref sc, .ref sf, .int (nI (manyM c r))])), (si, .inl (Y.1, 320, .inl im)), (sc, .inl (Y.2.1, 8, .inr (.inl cd))), (bd, .inr (0, [.int (nI c), .int (nI r), .int (nI (al c r)), .int (nI (c * r)), .ref bs, .ref bf, .ref bg])), (bs, .inl (Y.2.1, 16, .inr (.inl sd))), (bf, .inl (Y.1, 40, .inl fb)), (bg, .inl (Y.1, 40, .inl gb))] (fun _ : Unit => some (.int (nI (fixn c r w)))) (fun _ : Unit => [(sy, .inr (6, [.ref bd, .ref si, .ref sc, .ref sf, .int (nI (manyM c r))])), (si, .inl (Y.1, 320, .inl im)), (sc, .inl (Y.2.1, 8, .inr (.inl (fa_fill (mapS c r w) cd (manyM c r))))), (bd, .inr (0, [.int (nI c), .int (nI r), .int (nI (al c r)), .int (nI (c * r)), .ref bs, .ref bf, .ref bg])), (bs, .inl (Y.2.1, 16, .inr (.inl sd))), (bf, .inl (Y.1, 40, .inl fb)), (bg, .inl (Y.1, 40, .inl gb))]) (fun _ : Unit => True)) aG sG 0 0 AA) (F0 mG 10 ls []) := by
    intro n10
    induction n10 with
    | zero =>
      intro i n hi hn hmeas10 H locs hP hD hS ls hl
      exact absurd hmeas10 (Nat.not_lt_zero _)
    | succ n10 ih10 =>
      intro i n hi hn hmeas10 H locs hP hD hS ls hl
      refine lv_iload (pc := 10) hx hb dX7_keepingCount_10 (lv_at hl 3 rfl) ?_
      refine lv_aload_n (pc := 12) hx hb dX7_keepingCount_12 rfl (lv_at hl 0 rfl) ?_
      refine va_get (pc := 13) (D := D) (ci := 6) (v := .int (nI (manyM c r))) (C := RX7) (T := TX7) (N := 5) hx hb hts hinX7 hown hK.1 hP 0 rfl rfl 4 (by decide) (hts (.fieldLink RX7 35 "BoxesGame$Symmetry" "amount" "I") (List.mem_of_getElem? (i := 1) rfl)) (fun _ h9 => h9) rfl dX7_keepingCount_13 ?_
      refine n_icmp_ge (pc := 16) (tgt := 39) hx hb (by omega) (by omega) dX7_keepingCount_16 (by decide) (fun c16 => ?_) (fun c16 => ?_)
      · refine lv_iload_n (pc := 39) hx hb dX7_keepingCount_39 rfl (lv_at hl 2 rfl) ?_
        subst hAA
        exact mu_iret hx hb hr hlocks hP hS (()) (by rw [hn, show i = manyM c r by omega]; rfl) (trivial) (rfl) dX7_keepingCount_40
      refine lv_aload_n (pc := 19) hx hb dX7_keepingCount_19 rfl (lv_at hl 0 rfl) ?_
      refine lv_iload (pc := 20) hx hb dX7_keepingCount_20 (lv_at hl 3 rfl) ?_
      refine ro_go (pc := 22) (va_runV (As := [.int (nI i)]) (rest := []) ⟨hx, hb, hml, hown, hts⟩ (c_X7_codeOf l D Y sy bd si sc sf (fa_fill (mapS c r w) cd (manyM c r)) c r i (by first | assumption | omega)) (cwV 1 hts gX7_keepingCount_X7_codeOf rfl rfl rfl ⟨rfl, hdX7_codeOf⟩ ⟨Nat.le_of_ble_eq_true rfl, Nat.le_of_ble_eq_true rfl⟩) (ro_pV hK (hP.sub [0, 2] rfl) (ro_recv hK hP (ci := 6) (q0 := 0) rfl rfl)) rfl rfl hl.1 rfl (lv_room (Nat.le_of_ble_eq_true rfl)) dX7_keepingCount_22 ⟨Nat.le_of_ble_eq_true rfl, Nat.le_of_ble_eq_true rfl⟩) ?_
      refine lv_lload_n (pc := 25) hx hb dX7_keepingCount_25 rfl (lv_at hl 1 rfl) ?_
      refine W.lcmp (pc := 26) hx hb dX7_keepingCount_26 ?_
      refine lc_if_ne (pc := 27) (tgt := 33) hx hb dX7_keepingCount_27 (by decide) (fun c27 => ?_) (fun c27 => ?_)
      · refine lv_iinc (pc := 33) (v := nI (i + 1)) (lv' := [(4, .int (nI (i + 1))), (0, .ref sy), (1, .long w), (3, .int (nI n))]) hx hb dX7_keepingCount_33 hl (k := 3) rfl (n_inc i 1) (by decide) rfl (fun ls hl => ?_)
        refine lv_goto (pc := 36) (tgt := 10) hx hb dX7_keepingCount_36 (by decide) ?_
        exact ih10 (i + 1) n (by first | assumption | omega) (by rw [fb_ct_succ, ← hn]; rw [decide_eq_false (by rw [fa_fill_in c16] at c27; exact c27)]; rfl) (by omega) _ _ hP hD hS _ (lv_sub hl [1, 2, 3, 0] rfl)
      refine lv_iinc (pc := 30) (v := nI (n + 1)) (lv' := [(3, .int (nI (n + 1))), (0, .ref sy), (1, .long w), (4, .int (nI i))]) hx hb dX7_keepingCount_30 hl (k := 2) rfl (n_inc n 1) (by decide) rfl (fun ls hl => ?_)
      refine lv_iinc (pc := 33) (v := nI (i + 1)) (lv' := [(4, .int (nI (i + 1))), (3, .int (nI (n + 1))), (0, .ref sy), (1, .long w)]) hx hb dX7_keepingCount_33 hl (k := 3) rfl (n_inc i 1) (by decide) rfl (fun ls hl => ?_)
      refine lv_goto (pc := 36) (tgt := 10) hx hb dX7_keepingCount_36 (by decide) ?_
      exact ih10 (i + 1) (n + 1) (by first | assumption | omega) (by rw [fb_ct_succ, ← hn]; rw [decide_eq_true (by rw [fa_fill_in c16] at c27; exact c27)]; rfl) (by omega) _ _ hP hD hS _ (lv_sub hl [2, 3, 1, 0] rfl)
  exact L10 ((manyM c r - 0) + 1) 0 0 (by first | assumption | omega) (rfl) (Nat.lt_succ_self _) _ _ hP hD hS _ (lv_sub hl [2, 3, 1, 0] rfl)

set_option maxHeartbeats 1200000 in
set_option maxRecDepth 100000 in
theorem c_X7_lowestCodeBehind (l : Launch) (D : va_G) (Y : vY) (sy : Nat) (bd : Nat) (si : Nat) (sc : Nat) (sf : Nat) (im : Nat → Int32) (cd : Nat → Int64) (c : Nat) (r : Nat) (g : Nat → Int64) (li : Nat) (hC : Cr c r) (hY : SyOK c r im) (hg : ∀ s, s < manyM c r → cd s = g s) (hl0 : li < al c r) : Ro l yX7_lowestCodeBehind wsX7_lowestCodeBehind ({ frames := 2, cells := 0, slots := 0, locals := 43 } : Room) [.ref sy, .int (nI li)] D Y [(sy, .inr (6, [.ref bd, .ref si, .ref sc, .ref sf, .int (nI (manyM c r))])), (si, .inl (Y.1, 320, .inl im)), (sc, .inl (Y.2.1, 8, .inr (.inl cd)))] (some (.long (minF (fun s => g s ||| b1 (mapM c r li s)) (manyM c r - 1)))) := by
  refine ro_intro (by decide +kernel) rfl (Nat.le_of_ble_eq_true rfl) [(0, .ref sy), (1, .int (nI li))] rfl ?_
  intro pG eG sG mG aG bG tG cG ls hx hb hr hml hts hown hlocks hK hP hl
  have hP : va_P D vwCl [(sy, .inr (6, [.ref bd, .ref si, .ref sc, .ref sf, .int (nI (manyM c r))])), (si, .inl (Y.1, 320, .inl im)), (sc, .inl (Y.2.1, 8, .inr (.inl cd)))] sG.heap := hP
  have hown : sG.vm.findClass RX7 = some mG.cls := hown
  have hl : lv_has ls 5 [(0, .ref sy), (1, .int (nI li))] := hl
  have hinX7 : ∀ w ∈ u_ws RX7 TX7 5, w ∈ wsX7_lowestCodeBehind := by decide +kernel
  obtain ⟨hq1, hq2, hq3, hq4, hq5, hq6, hq7, hq8, hq9, hq10, hq11⟩ := hC.q
  obtain ⟨hm1, hm2⟩ := many_le c r
  refine lv_aload_n (pc := 0) hx hb dX7_lowestCodeBehind_0 rfl (lv_at hl 0 rfl) ?_
  refine lv_iconst (pc := 1) (v := nI 0) hx hb dX7_lowestCodeBehind_1 rfl ?_
  refine ro_go (pc := 2) (va_runV (As := [.int (nI 0)]) (rest := []) ⟨hx, hb, hml, hown, hts⟩ (c_X7_codeOf l D Y sy bd si sc sf cd c r 0 (by first | assumption | omega)) (cwV 1 hts gX7_lowestCodeBehind_X7_codeOf rfl rfl rfl ⟨rfl, hdX7_codeOf⟩ ⟨Nat.le_of_ble_eq_true rfl, Nat.le_of_ble_eq_true rfl⟩) (ro_pV hK (hP.sub [0, 2] rfl) (ro_recv hK hP (ci := 6) (q0 := 0) rfl rfl)) rfl rfl hl.1 rfl (lv_room (Nat.le_of_ble_eq_true rfl)) dX7_lowestCodeBehind_2 ⟨Nat.le_of_ble_eq_true rfl, Nat.le_of_ble_eq_true rfl⟩) ?_
  refine lv_aload_n (pc := 5) hx hb dX7_lowestCodeBehind_5 rfl (lv_at hl 0 rfl) ?_
  refine lv_iconst (pc := 6) (v := nI 0) hx hb dX7_lowestCodeBehind_6 rfl ?_
  refine lv_iload_n (pc := 7) hx hb dX7_lowestCodeBehind_7 rfl (lv_at hl 1 rfl) ?_
  refine ro_go (pc := 8) (va_runV (As := [.int (nI 0), .int (nI li)]) (rest := [.long (cd 0)]) ⟨hx, hb, hml, hown, hts⟩ (c_X7_imageOf l D Y sy bd si sc sf im c r 0 li (hC) (hY) (by first | assumption | omega) (hl0)) (cwV 2 hts gX7_lowestCodeBehind_X7_imageOf rfl rfl rfl ⟨rfl, hdX7_imageOf⟩ ⟨Nat.le_of_ble_eq_true rfl, Nat.le_of_ble_eq_true rfl⟩) (ro_pV hK (hP.sub [0, 1] rfl) (ro_recv hK hP (ci := 6) (q0 := 0) rfl rfl)) rfl rfl hl.1 rfl (lv_room (Nat.le_of_ble_eq_true rfl)) dX7_lowestCodeBehind_8 ⟨Nat.le_of_ble_eq_true rfl, Nat.le_of_ble_eq_true rfl⟩) ?_
  refine ro_go (pc := 11) (va_runSN (As := [.int (nI (mapM c r li 0))]) (rest := [.long (cd 0)]) ⟨hx, hb, hml, hown, hts⟩ (c_X8_bit_in l D Y (mapM c r li 0) (lt_al hC (mapM_lt hC hl0 (by omega)))) (⟨va_cnB 1 hts ggX7_lowestCodeBehind_X8_bit rfl rfl rfl (hK.nest 11 rfl) (hts (.initialized RX8) (List.mem_of_getElem? (i := 25) rfl)) hdX8_bit ⟨Nat.le_of_ble_eq_true rfl, Nat.le_of_ble_eq_true rfl⟩, hts (.static yX8_bit) (List.mem_of_getElem? (i := 24) rfl), trivial⟩) (ro_pS hK (hP.sub [] rfl)) rfl rfl hl.1 rfl (lv_room (Nat.le_of_ble_eq_true rfl)) dX7_lowestCodeBehind_11 ⟨Nat.le_of_ble_eq_true rfl, Nat.le_of_ble_eq_true rfl⟩) ?_
  refine lv_lor (pc := 14) hx hb dX7_lowestCodeBehind_14 ?_
  refine lv_lstore_n (pc := 15) (lv' := [(2, .long ((cd 0) ||| (b1 (mapM c r li 0)))), (0, .ref sy), (1, .int (nI li))]) hx hb dX7_lowestCodeBehind_15 rfl hl (by decide) rfl (fun ls hl => ?_)
  refine lv_iconst (pc := 16) (v := nI 1) hx hb dX7_lowestCodeBehind_16 rfl ?_
  refine lv_istore (pc := 17) (lv' := [(4, .int (nI 1)), (2, .long ((cd 0) ||| (b1 (mapM c r li 0)))), (0, .ref sy), (1, .int (nI li))]) hx hb dX7_lowestCodeBehind_17 hl (by decide) rfl (fun ls hl => ?_)
  have L19 : ∀ (n19 : Nat), ∀ (i : Nat) (u : Int64), (1 ≤ i) → (i ≤ manyM c r) → (u = minF (fun s => g s ||| b1 (mapM c r li s)) (i - 1)) → manyM c r - i < n19 → ∀ (ls : Array Slot), lv_has ls 5 [(0, .ref sy), (1, .int (nI li)), (2, .long u), (4, .int (nI i))] → W pG l eG ({ frames := 2, cells := 0, slots := 0, locals := 43 } : Room) sG mG aG bG tG cG sG.heap [] 0 0 (MQ bG (RoQ (some (.long (minF (fun s => g s ||| b1 (mapM c r li s)) (manyM c r - 1))))) aG sG 0 0 (fun _ => False)) (F0 mG 19 ls []) := by
    intro n19
    induction n19 with
    | zero =>
      intro i u h1 hi hu hmeas19  ls hl
      exact absurd hmeas19 (Nat.not_lt_zero _)
    | succ n19 ih19 =>
      intro i u h1 hi hu hmeas19  ls hl
      refine lv_iload (pc := 19) hx hb dX7_lowestCodeBehind_19 (lv_at hl 3 rfl) ?_
      refine lv_aload_n (pc := 21) hx hb dX7_lowestCodeBehind_21 rfl (lv_at hl 0 rfl) ?_
      refine va_get (pc := 22) (D := D) (ci := 6) (v := .int (nI (manyM c r))) (C := RX7) (T := TX7) (N := 5) hx hb hts hinX7 hown hK.1 hP 0 rfl rfl 4 (by decide) (hts (.fieldLink RX7 35 "BoxesGame$Symmetry" "amount" "I") (List.mem_of_getElem? (i := 1) rfl)) (fun _ h9 => h9) rfl dX7_lowestCodeBehind_22 ?_
      refine n_icmp_ge (pc := 25) (tgt := 56) hx hb (by omega) (by omega) dX7_lowestCodeBehind_25 (by decide) (fun c25 => ?_) (fun c25 => ?_)
      · refine lv_lload_n (pc := 56) hx hb dX7_lowestCodeBehind_56 rfl (lv_at hl 2 rfl) ?_
        exact ro_lret (v := u) hx hb hr hlocks (by rw [hu, show i = manyM c r by omega]) dX7_lowestCodeBehind_57
      refine lv_lload_n (pc := 28) hx hb dX7_lowestCodeBehind_28 rfl (lv_at hl 2 rfl) ?_
      refine lv_aload_n (pc := 29) hx hb dX7_lowestCodeBehind_29 rfl (lv_at hl 0 rfl) ?_
      refine lv_iload (pc := 30) hx hb dX7_lowestCodeBehind_30 (lv_at hl 3 rfl) ?_
      refine ro_go (pc := 32) (va_runV (As := [.int (nI i)]) (rest := [.long u]) ⟨hx, hb, hml, hown, hts⟩ (c_X7_codeOf l D Y sy bd si sc sf cd c r i (by first | assumption | omega)) (cwV 1 hts gX7_lowestCodeBehind_X7_codeOf rfl rfl rfl ⟨rfl, hdX7_codeOf⟩ ⟨Nat.le_of_ble_eq_true rfl, Nat.le_of_ble_eq_true rfl⟩) (ro_pV hK (hP.sub [0, 2] rfl) (ro_recv hK hP (ci := 6) (q0 := 0) rfl rfl)) rfl rfl hl.1 rfl (lv_room (Nat.le_of_ble_eq_true rfl)) dX7_lowestCodeBehind_32 ⟨Nat.le_of_ble_eq_true rfl, Nat.le_of_ble_eq_true rfl⟩) ?_
      refine lv_aload_n (pc := 35) hx hb dX7_lowestCodeBehind_35 rfl (lv_at hl 0 rfl) ?_
      refine lv_iload (pc := 36) hx hb dX7_lowestCodeBehind_36 (lv_at hl 3 rfl) ?_
      refine lv_iload_n (pc := 38) hx hb dX7_lowestCodeBehind_38 rfl (lv_at hl 1 rfl) ?_
      refine ro_go (pc := 39) (va_runV (As := [.int (nI i), .int (nI li)]) (rest := [.long (cd i), .long u]) ⟨hx, hb, hml, hown, hts⟩ (c_X7_imageOf l D Y sy bd si sc sf im c r i li (hC) (hY) (by first | assumption | omega) (hl0)) (cwV 2 hts gX7_lowestCodeBehind_X7_imageOf rfl rfl rfl ⟨rfl, hdX7_imageOf⟩ ⟨Nat.le_of_ble_eq_true rfl, Nat.le_of_ble_eq_true rfl⟩) (ro_pV hK (hP.sub [0, 1] rfl) (ro_recv hK hP (ci := 6) (q0 := 0) rfl rfl)) rfl rfl hl.1 rfl (lv_room (Nat.le_of_ble_eq_true rfl)) dX7_lowestCodeBehind_39 ⟨Nat.le_of_ble_eq_true rfl, Nat.le_of_ble_eq_true rfl⟩) ?_
      refine ro_go (pc := 42) (va_runSN (As := [.int (nI (mapM c r li i))]) (rest := [.long (cd i), .long u]) ⟨hx, hb, hml, hown, hts⟩ (c_X8_bit_in l D Y (mapM c r li i) (lt_al hC (mapM_lt hC hl0 c25))) (⟨va_cnB 1 hts ggX7_lowestCodeBehind_X8_bit rfl rfl rfl (hK.nest 11 rfl) (hts (.initialized RX8) (List.mem_of_getElem? (i := 25) rfl)) hdX8_bit ⟨Nat.le_of_ble_eq_true rfl, Nat.le_of_ble_eq_true rfl⟩, hts (.static yX8_bit) (List.mem_of_getElem? (i := 24) rfl), trivial⟩) (ro_pS hK (hP.sub [] rfl)) rfl rfl hl.1 rfl (lv_room (Nat.le_of_ble_eq_true rfl)) dX7_lowestCodeBehind_42 ⟨Nat.le_of_ble_eq_true rfl, Nat.le_of_ble_eq_true rfl⟩) ?_
      refine lv_lor (pc := 45) hx hb dX7_lowestCodeBehind_45 ?_
      refine va_mmin_long (pc := 46) hx hb (hml.trans hl.1.symm) hown (hts (.methodLink RX7 84 Lib.MathLoose.min_long.x) (List.mem_of_getElem? (i := 2) rfl)) (hts (.static Lib.MathLoose.min_long.x) (List.mem_of_getElem? (i := 3) rfl)) (hts (.initialized "java/lang/Math") (List.mem_of_getElem? (i := 4) rfl)) (hts (.code Lib.MathLoose.min_long.x Lib.MathLoose.min_long.code 4 (some .long)) (List.mem_of_getElem? (i := 5) rfl)) (Nat.le_of_ble_eq_true rfl) (Nat.le_of_ble_eq_true rfl) (Nat.le_of_ble_eq_true rfl) (Nat.le_of_ble_eq_true rfl) dX7_lowestCodeBehind_46 ?_
      refine lv_lstore_n (pc := 49) (lv' := [(2, .long (mnL u ((cd i) ||| (b1 (mapM c r li i))))), (0, .ref sy), (1, .int (nI li)), (4, .int (nI i))]) hx hb dX7_lowestCodeBehind_49 rfl hl (by decide) rfl (fun ls hl => ?_)
      refine lv_iinc (pc := 50) (v := nI (i + 1)) (lv' := [(4, .int (nI (i + 1))), (2, .long (mnL u ((cd i) ||| (b1 (mapM c r li i))))), (0, .ref sy), (1, .int (nI li))]) hx hb dX7_lowestCodeBehind_50 hl (k := 3) rfl (n_inc i 1) (by decide) rfl (fun ls hl => ?_)
      refine lv_goto (pc := 53) (tgt := 19) hx hb dX7_lowestCodeBehind_53 (by decide) ?_
      exact ih19 (i + 1) (mnL u ((cd i) ||| (b1 (mapM c r li i)))) (by first | assumption | omega) (by first | assumption | omega) (by rw [hu, hg i (by omega)]; obtain ⟨j, rfl⟩ : ∃ j, i = j + 1 := ⟨i - 1, by omega⟩; rfl) (by omega) _ (lv_sub hl [2, 3, 1, 0] rfl)
  exact L19 ((manyM c r - 1) + 1) 1 ((cd 0) ||| (b1 (mapM c r li 0))) (by first | assumption | omega) (by first | assumption | omega) (by rw [hg 0 (by omega)]; rfl) (Nat.lt_succ_self _) _ (lv_sub hl [2, 3, 1, 0] rfl)

set_option maxHeartbeats 1200000 in
set_option maxRecDepth 100000 in
theorem c_X7_isFound (l : Launch) (D : va_G) (Y : vY) (sy : Nat) (bd : Nat) (si : Nat) (sc : Nat) (sf : Nat) (fd : Nat → Int64) (c : Nat) (r : Nat) (x : Int64) (k : Nat) (hk40 : k ≤ 40) : Ro l yX7_isFound wsX7_isFound ({ frames := 1, cells := 0, slots := 0, locals := 21 } : Room) [.ref sy, .long x, .int (nI k)] D Y [(sy, .inr (6, [.ref bd, .ref si, .ref sc, .ref sf, .int (nI (manyM c r))])), (sf, .inl (Y.2.1, 40, .inr (.inl fd)))] (some (.int (zb (orb (fun i => decide (fd i = x)) k)))) := by
  refine ro_intro (by decide +kernel) rfl (Nat.le_of_ble_eq_true rfl) [(0, .ref sy), (1, .long x), (3, .int (nI k))] rfl ?_
  intro pG eG sG mG aG bG tG cG ls hx hb hr hml hts hown hlocks hK hP hl
  have hP : va_P D vwCl [(sy, .inr (6, [.ref bd, .ref si, .ref sc, .ref sf, .int (nI (manyM c r))])), (sf, .inl (Y.2.1, 40, .inr (.inl fd)))] sG.heap := hP
  have hown : sG.vm.findClass RX7 = some mG.cls := hown
  have hl : lv_has ls 5 [(0, .ref sy), (1, .long x), (3, .int (nI k))] := hl
  have hinX7 : ∀ w ∈ u_ws RX7 TX7 5, w ∈ wsX7_isFound := by decide +kernel
  refine lv_iconst (pc := 0) (v := nI 0) hx hb dX7_isFound_0 rfl ?_
  refine lv_istore (pc := 1) (lv' := [(4, .int (nI 0)), (0, .ref sy), (1, .long x), (3, .int (nI k))]) hx hb dX7_isFound_1 hl (by decide) rfl (fun ls hl => ?_)
  have L3 : ∀ (n3 : Nat), ∀ (i : Nat), (i ≤ k) → (∀ j, j < i → decide (fd j = x) = false) → k - i < n3 → ∀ (ls : Array Slot), lv_has ls 5 [(0, .ref sy), (1, .long x), (3, .int (nI k)), (4, .int (nI i))] → W pG l eG ({ frames := 1, cells := 0, slots := 0, locals := 21 } : Room) sG mG aG bG tG cG sG.heap [] 0 0 (MQ bG (RoQ (some (.int (zb (orb (fun i => decide (fd i = x)) k))))) aG sG 0 0 (fun _ => False)) (F0 mG 3 ls []) := by
    intro n3
    induction n3 with
    | zero =>
      intro i hi hno hmeas3  ls hl
      exact absurd hmeas3 (Nat.not_lt_zero _)
    | succ n3 ih3 =>
      intro i hi hno hmeas3  ls hl
      refine lv_iload (pc := 3) hx hb dX7_isFound_3 (lv_at hl 3 rfl) ?_
      refine lv_iload_n (pc := 5) hx hb dX7_isFound_5 rfl (lv_at hl 2 rfl) ?_
      refine n_icmp_ge (pc := 6) (tgt := 31) hx hb (by omega) (by omega) dX7_isFound_6 (by decide) (fun c6 => ?_) (fun c6 => ?_)
      · refine lv_iconst (pc := 31) (v := nI 0) hx hb dX7_isFound_31 rfl ?_
        exact ro_zret hx hb hr hlocks (zb_0 (Bool.eq_false_iff.mpr (fun q => by obtain ⟨j, h1, h2⟩ := orb_iff.mp q; rw [hno j (by omega)] at h2; cases h2))) dX7_isFound_32
      refine lv_aload_n (pc := 9) hx hb dX7_isFound_9 rfl (lv_at hl 0 rfl) ?_
      refine va_get (pc := 10) (D := D) (ci := 6) (v := .ref sf) (C := RX7) (T := TX7) (N := 5) hx hb hts hinX7 hown hK.1 hP 0 rfl rfl 3 (by decide) (hts (.fieldLink RX7 19 "BoxesGame$Symmetry" "found" "[J") (List.mem_of_getElem? (i := 1) rfl)) (fun _ h9 => h9) rfl dX7_isFound_10 ?_
      refine lv_iload (pc := 13) hx hb dX7_isFound_13 (lv_at hl 3 rfl) ?_
      refine ro_go (pc := 15) (va_runS (As := [.ref sf, .int (nI i)]) (rest := []) ⟨hx, hb, hml, hown, hts⟩ (c_X3_at__in l D Y 40 fd sf i (by decide) (by first | assumption | omega)) (va_cwS 2 hts gX7_isFound_X3_at_ rfl rfl rfl hdX3_at_ ⟨Nat.le_of_ble_eq_true rfl, Nat.le_of_ble_eq_true rfl⟩) (ro_pS hK (hP.sub [1] rfl)) rfl rfl hl.1 rfl (lv_room (Nat.le_of_ble_eq_true rfl)) dX7_isFound_15 ⟨Nat.le_of_ble_eq_true rfl, Nat.le_of_ble_eq_true rfl⟩) ?_
      refine lv_lload_n (pc := 18) hx hb dX7_isFound_18 rfl (lv_at hl 1 rfl) ?_
      refine W.lcmp (pc := 19) hx hb dX7_isFound_19 ?_
      refine lc_if_ne (pc := 20) (tgt := 25) hx hb dX7_isFound_20 (by decide) (fun c20 => ?_) (fun c20 => ?_)
      · refine lv_iinc (pc := 25) (v := nI (i + 1)) (lv' := [(4, .int (nI (i + 1))), (0, .ref sy), (1, .long x), (3, .int (nI k))]) hx hb dX7_isFound_25 hl (k := 3) rfl (n_inc i 1) (by decide) rfl (fun ls hl => ?_)
        refine lv_goto (pc := 28) (tgt := 3) hx hb dX7_isFound_28 (by decide) ?_
        exact ih3 (i + 1) (by first | assumption | omega) (lt_s hno (decide_eq_false c20)) (by omega) _ (lv_sub hl [1, 2, 3, 0] rfl)
      refine lv_iconst (pc := 23) (v := nI 1) hx hb dX7_isFound_23 rfl ?_
      exact ro_zret hx hb hr hlocks (zb_1 (orb_iff.mpr ⟨i, c6, decide_eq_true c20⟩)) dX7_isFound_24
  exact L3 ((k - 0) + 1) 0 (by first | assumption | omega) (fun j h => absurd h (Nat.not_lt_zero _)) (Nat.lt_succ_self _) _ (lv_sub hl [1, 2, 3, 0] rfl)

set_option maxHeartbeats 1200000 in
set_option maxRecDepth 100000 in
theorem c_X7_followerCount (l : Launch) (D : va_G) (Y : vY) (sy : Nat) (bd : Nat) (si : Nat) (sc : Nat) (sf : Nat) (im : Nat → Int32) (cd : Nat → Int64) (fd : Nat → Int64) (bs : Nat) (bf : Nat) (bg : Nat) (c : Nat) (r : Nat) (sd : Nat → Int64) (fb : Nat → Int32) (gb : Nat → Int32) (w : Int64) (hC : Cr c r) (hB : BdOK c r sd fb gb) (hY : SyOK c r im) : Mu l yX7_followerCount wsX7_followerCount ({ frames := 3, cells := 0, slots := 0, locals := 69 } : Room) [.ref sy, .long w] D Y [(sy, .inr (6, [.ref bd, .ref si, .ref sc, .ref sf, .int (nI (manyM c r))])), (si, .inl (Y.1, 320, .inl im)), (sc, .inl (Y.2.1, 8, .inr (.inl cd))), (sf, .inl (Y.2.1, 40, .inr (.inl fd))), (bd, .inr (0, [.int (nI c), .int (nI r), .int (nI (al c r)), .int (nI (c * r)), .ref bs, .ref bf, .ref bg])), (bs, .inl (Y.2.1, 16, .inr (.inl sd))), (bf, .inl (Y.1, 40, .inl fb)), (bg, .inl (Y.1, 40, .inl gb))] (fun uS : Nat → Int64 => some (.int (nI (folF c r w (al c r))))) (fun uS : Nat → Int64 => [(sy, .inr (6, [.ref bd, .ref si, .ref sc, .ref sf, .int (nI (manyM c r))])), (si, .inl (Y.1, 320, .inl im)), (sc, .inl (Y.2.1, 8, .inr (.inl (fa_fill (mapS c r w) cd (manyM c r))))), (sf, .inl (Y.2.1, 40, .inr (.inl uS))), (bd, .inr (0, [.int (nI c), .int (nI r), .int (nI (al c r)), .int (nI (c * r)), .ref bs, .ref bf, .ref bg])), (bs, .inl (Y.2.1, 16, .inr (.inl sd))), (bf, .inl (Y.1, 40, .inl fb)), (bg, .inl (Y.1, 40, .inl gb))]) (fun uS : Nat → Int64 => True) := by
  refine mu_intro (by decide +kernel) rfl (Nat.le_of_ble_eq_true rfl) [(0, .ref sy), (1, .long w)] rfl ?_
  intro pG eG sG mG aG bG tG cG ls hx hb hr hml hts hown hlocks hK hP hD hS hl
  generalize hAA : adA [(sy, .inr (6, [.ref bd, .ref si, .ref sc, .ref sf, .int (nI (manyM c r))])), (si, .inl (Y.1, 320, .inl im)), (sc, .inl (Y.2.1, 8, .inr (.inl cd))), (sf, .inl (Y.2.1, 40, .inr (.inl fd))), (bd, .inr (0, [.int (nI c), .int (nI r), .int (nI (al c r)), .int (nI (c * r)), .ref bs, .ref bf, .ref bg])), (bs, .inl (Y.2.1, 16, .inr (.inl sd))), (bf, .inl (Y.1, 40, .inl fb)), (bg, .inl (Y.1, 40, .inl gb))] = AA at hD hS ⊢
  have hP : va_P D vwCl [(sy, .inr (6, [.ref bd, .ref si, .ref sc, .ref sf, .int (nI (manyM c r))])), (si, .inl (Y.1, 320, .inl im)), (sc, .inl (Y.2.1, 8, .inr (.inl cd))), (sf, .inl (Y.2.1, 40, .inr (.inl fd))), (bd, .inr (0, [.int (nI c), .int (nI r), .int (nI (al c r)), .int (nI (c * r)), .ref bs, .ref bf, .ref bg])), (bs, .inl (Y.2.1, 16, .inr (.inl sd))), (bf, .inl (Y.1, 40, .inl fb)), (bg, .inl (Y.1, 40, .inl gb))] sG.heap := hP
  have hD : va_D AA [(sy, .inr (6, [.ref bd, .ref si, .ref sc, .ref sf, .int (nI (manyM c r))])), (si, .inl (Y.1, 320, .inl im)), (sc, .inl (Y.2.1, 8, .inr (.inl cd))), (sf, .inl (Y.2.1, 40, .inr (.inl fd))), (bd, .inr (0, [.int (nI c), .int (nI r), .int (nI (al c r)), .int (nI (c * r)), .ref bs, .ref bf, .ref bg])), (bs, .inl (Y.2.1, 16, .inr (.inl sd))), (bf, .inl (Y.1, 40, .inl fb)), (bg, .inl (Y.1, 40, .inl gb))] := hD
  have hown : sG.vm.findClass RX7 = some mG.cls := hown
  have hl : lv_has ls 7 [(0, .ref sy), (1, .long w)] := hl
  have hinX0 : ∀ w ∈ u_ws RX0 TX0 7, w ∈ wsX7_followerCount := by decide +kernel
  have hinX7 : ∀ w ∈ u_ws RX7 TX7 5, w ∈ wsX7_followerCount := by decide +kernel
  have hS : va_S AA sG.heap sG.heap [] := hS
  obtain ⟨hq1, hq2, hq3, hq4, hq5, hq6, hq7, hq8, hq9, hq10, hq11⟩ := hC.q
  obtain ⟨hm1, hm2⟩ := many_le c r
  refine lv_aload_n (pc := 0) hx hb dX7_followerCount_0 rfl (lv_at hl 0 rfl) ?_
  refine lv_lload_n (pc := 1) hx hb dX7_followerCount_1 rfl (lv_at hl 1 rfl) ?_
  refine mu_go (pc := 2) (va_runV (As := [.long w]) (rest := []) ⟨hx, hb, hml, hown, hts⟩ (c_X7_encode l D Y sy bd si sc sf im cd bs bf bg c r sd fb gb w (hC) (hB) (hY)) (cwV 1 hts gX7_followerCount_X7_encode rfl rfl rfl ⟨rfl, hdX7_encode⟩ ⟨Nat.le_of_ble_eq_true rfl, Nat.le_of_ble_eq_true rfl⟩) (mu_pV hK (hP.sub [0, 1, 2, 4, 5, 6, 7] rfl) (hD.sub [0, 1, 2, 4, 5, 6, 7] (by decide) rfl) (ro_recv hK hP (ci := 6) (q0 := 0) rfl rfl)) rfl rfl hl.1 rfl (lv_room (Nat.le_of_ble_eq_true rfl)) dX7_followerCount_2 ⟨Nat.le_of_ble_eq_true rfl, Nat.le_of_ble_eq_true rfl⟩) hP hD hS [0, 1, 2, 4, 5, 6, 7] rfl (by decide) (fun _ => [(sy, .inr (6, [.ref bd, .ref si, .ref sc, .ref sf, .int (nI (manyM c r))])), (si, .inl (Y.1, 320, .inl im)), (sc, .inl (Y.2.1, 8, .inr (.inl (fa_fill (mapS c r w) cd (manyM c r))))), (sf, .inl (Y.2.1, 40, .inr (.inl fd))), (bd, .inr (0, [.int (nI c), .int (nI r), .int (nI (al c r)), .int (nI (c * r)), .ref bs, .ref bf, .ref bg])), (bs, .inl (Y.2.1, 16, .inr (.inl sd))), (bf, .inl (Y.1, 40, .inl fb)), (bg, .inl (Y.1, 40, .inl gb))]) (fun _ => rfl) (fun _ => rfl) (fun uS H locs hpost hP hD hS => ?_)
  have hP : va_P D vwCl [(sy, .inr (6, [.ref bd, .ref si, .ref sc, .ref sf, .int (nI (manyM c r))])), (si, .inl (Y.1, 320, .inl im)), (sc, .inl (Y.2.1, 8, .inr (.inl (fa_fill (mapS c r w) cd (manyM c r))))), (sf, .inl (Y.2.1, 40, .inr (.inl fd))), (bd, .inr (0, [.int (nI c), .int (nI r), .int (nI (al c r)), .int (nI (c * r)), .ref bs, .ref bf, .ref bg])), (bs, .inl (Y.2.1, 16, .inr (.inl sd))), (bf, .inl (Y.1, 40, .inl fb)), (bg, .inl (Y.1, 40, .inl gb))] H := hP
  have hD : va_D AA [(sy, .inr (6, [.ref bd, .ref si, .ref sc, .ref sf, .int (nI (manyM c r))])), (si, .inl (Y.1, 320, .inl im)), (sc, .inl (Y.2.1, 8, .inr (.inl (fa_fill (mapS c r w) cd (manyM c r))))), (sf, .inl (Y.2.1, 40, .inr (.inl fd))), (bd, .inr (0, [.int (nI c), .int (nI r), .int (nI (al c r)), .int (nI (c * r)), .ref bs, .ref bf, .ref bg])), (bs, .inl (Y.2.1, 16, .inr (.inl sd))), (bf, .inl (Y.1, 40, .inl fb)), (bg, .inl (Y.1, 40, .inl gb))] := hD
  refine lv_iconst (pc := 5) (v := nI 0) hx hb dX7_followerCount_5 rfl ?_
  refine lv_istore_n (pc := 6) (lv' := [(3, .int (nI 0)), (0, .ref sy), (1, .long w)]) hx hb dX7_followerCount_6 rfl hl (by decide) rfl (fun ls hl => ?_)
  refine lv_iconst (pc := 7) (v := nI 0) hx hb dX7_followerCount_7 rfl ?_
  refine lv_istore (pc := 8) (lv' := [(4, .int (nI 0)), (3, .int (nI 0)), (0, .ref sy), (1, .long w)]) hx hb dX7_followerCount_8 hl (by decide) rfl (fun ls hl => ?_)
  have L10 : ∀ (n10 : Nat), ∀ (i : Nat) (n : Nat) (g : Nat → Int64), (i ≤ al c r) → (n ≤ i) → (n = folF c r w i) → (∀ x : Int64, (orb (fun a => decide (g a = x)) n = orb (fun a => !tb w a && decide (lsc c r (w ||| b1 a) = x)) i)) → al c r - i < n10 → ∀ (H : Heap) (locs : List Loc), va_P D vwCl [(sy, .inr (6, [.ref bd, .ref si, .ref sc, .ref sf, .int (nI (manyM c r))])), (si, .inl (Y.1, 320, .inl im)), (sc, .inl (Y.2.1, 8, .inr (.inl (fa_fill (mapS c r w) cd (manyM c r))))), (sf, .inl (Y.2.1, 40, .inr (.inl g))), (bd, .inr (0, [.int (nI c), .int (nI r), .int (nI (al c r)), .int (nI (c * r)), .ref bs, .ref bf, .ref bg])), (bs, .inl (Y.2.1, 16, .inr (.inl sd))), (bf, .inl (Y.1, 40, .inl fb)), (bg, .inl (Y.1, 40, .inl gb))] H → va_D AA [(sy, .inr (6, [.ref bd, .ref si, .ref sc, .ref sf, .int (nI (manyM c r))])), (si, .inl (Y.1, 320, .inl im)), (sc, .inl (Y.2.1, 8, .inr (.inl (fa_fill (mapS c r w) cd (manyM c r))))), (sf, .inl (Y.2.1, 40, .inr (.inl g))), (bd, .inr (0, [.int (nI c), .int (nI r), .int (nI (al c r)), .int (nI (c * r)), .ref bs, .ref bf, .ref bg])), (bs, .inl (Y.2.1, 16, .inr (.inl sd))), (bf, .inl (Y.1, 40, .inl fb)), (bg, .inl (Y.1, 40, .inl gb))] → va_S AA sG.heap H locs → ∀ (ls : Array Slot), lv_has ls 7 [(0, .ref sy), (1, .long w), (3, .int (nI n)), (4, .int (nI i))] → W pG l eG ({ frames := 3, cells := 0, slots := 0, locals := 69 } : Room) sG mG aG bG tG cG H locs 0 0 (MQ bG (MuQ D [(sy, .inr (6, [.ref bd, .ref si, .ref sc, .ref sf, .int (nI (manyM c r))])), (si, .inl (Y.1, 320, .inl im)), (sc, .inl (Y.2.1, 8, .inr (.inl cd))), (sf, .inl (Y.2.1, 40, .inr (.inl fd))), (bd, .inr (0, [.int (nI c), .int (nI r), .int (nI (al c r)), .int (nI (c * r)), .ref bs, .ref bf, .ref bg])), (bs, .inl (Y.2.1, 16, .inr (.inl sd))), (bf, .inl (Y.1, 40, .inl fb)), (bg, .inl (Y.1, 40, .inl gb))] (fun uS : Nat → Int64 => some (.int (nI (folF c r w (al c r))))) (fun uS : Nat → Int64 => [(sy, .inr (6, [.ref bd, .ref si, .ref sc, .ref sf, .int (nI (manyM c r))])), (si, .inl (Y.1, 320, .inl im)), (sc, .inl (Y.2.1, 8, .inr (.inl (fa_fill (mapS c r w) cd (manyM c r))))), (sf, .inl (Y.2.1, 40, .inr (.inl uS))), (bd, .inr (0, [.int (nI c), .int (nI r), .int (nI (al c r)), .int (nI (c * r)), .ref bs, .ref bf, .ref bg])), (bs, .inl (Y.2.1, 16, .inr (.inl sd))), (bf, .inl (Y.1, 40, .inl fb)), (bg, .inl (Y.1, 40, .inl gb))]) (fun uS : Nat → Int64 => True)) aG sG 0 0 AA) (F0 mG 10 ls []) := by
    intro n10
    induction n10 with
    | zero =>
      intro i n g hi hni hn hset hmeas10 H locs hP hD hS ls hl
      exact absurd hmeas10 (Nat.not_lt_zero _)
    | succ n10 ih10 =>
      intro i n g hi hni hn hset hmeas10 H locs hP hD hS ls hl
      refine lv_iload (pc := 10) hx hb dX7_followerCount_10 (lv_at hl 3 rfl) ?_
      refine lv_aload_n (pc := 12) hx hb dX7_followerCount_12 rfl (lv_at hl 0 rfl) ?_
      refine va_get (pc := 13) (D := D) (ci := 6) (v := .ref bd) (C := RX7) (T := TX7) (N := 5) hx hb hts hinX7 hown hK.1 hP 0 rfl rfl 0 (by decide) (hts (.fieldLink RX7 22 "BoxesGame$Symmetry" "board" "LBoxesGame$Board;") (List.mem_of_getElem? (i := 1) rfl)) (fun _ h9 => h9) rfl dX7_followerCount_13 ?_
      refine va_get (pc := 16) (D := D) (ci := 0) (v := .int (nI (al c r))) (C := RX0) (T := TX0) (N := 7) hx hb hts hinX0 hown hK.1 hP 4 rfl rfl 2 (by decide) (hts (.fieldLink RX7 59 "BoxesGame$Board" "lineCount" "I") (List.mem_of_getElem? (i := 2) rfl)) (fun _ h9 => h9) rfl dX7_followerCount_16 ?_
      refine n_icmp_ge (pc := 19) (tgt := 68) hx hb (by omega) (by omega) dX7_followerCount_19 (by decide) (fun c19 => ?_) (fun c19 => ?_)
      · refine lv_iload_n (pc := 68) hx hb dX7_followerCount_68 rfl (lv_at hl 2 rfl) ?_
        subst hAA
        exact mu_iret hx hb hr hlocks hP hS (g) (by rw [hn, show i = al c r by omega]) (trivial) (rfl) dX7_followerCount_69
      refine lv_lload_n (pc := 22) hx hb dX7_followerCount_22 rfl (lv_at hl 1 rfl) ?_
      refine lv_iload (pc := 23) hx hb dX7_followerCount_23 (lv_at hl 3 rfl) ?_
      refine ro_go (pc := 25) (va_runSN (As := [.long w, .int (nI i)]) (rest := []) ⟨hx, hb, hml, hown, hts⟩ (c_X8_contains l D Y w i (by first | assumption | omega)) (⟨va_cnB 2 hts ggX7_followerCount_X8_contains rfl rfl rfl (hK.nest 10 rfl) (hts (.initialized RX8) (List.mem_of_getElem? (i := 12) rfl)) hdX8_contains ⟨Nat.le_of_ble_eq_true rfl, Nat.le_of_ble_eq_true rfl⟩, hts (.static yX8_contains) (List.mem_of_getElem? (i := 11) rfl), trivial⟩) (ro_pS hK (hP.sub [] rfl)) rfl rfl hl.1 rfl (lv_room (Nat.le_of_ble_eq_true rfl)) dX7_followerCount_25 ⟨Nat.le_of_ble_eq_true rfl, Nat.le_of_ble_eq_true rfl⟩) ?_
      refine z_if_ne (pc := 28) (tgt := 62) hx hb dX7_followerCount_28 (by decide) (fun c28 => ?_) (fun c28 => ?_)
      · refine lv_iinc (pc := 62) (v := nI (i + 1)) (lv' := [(4, .int (nI (i + 1))), (0, .ref sy), (1, .long w), (3, .int (nI n))]) hx hb dX7_followerCount_62 hl (k := 3) rfl (n_inc i 1) (by decide) rfl (fun ls hl => ?_)
        refine lv_goto (pc := 65) (tgt := 10) hx hb dX7_followerCount_65 (by decide) ?_
        exact ih10 (i + 1) n g (by first | assumption | omega) (by first | assumption | omega) (by rw [fol_d c28, hn]) (fun x => by rw [orb, c28, hset x]; simp) (by omega) _ _ hP hD hS _ (lv_sub hl [1, 2, 3, 0] rfl)
      refine lv_aload_n (pc := 31) hx hb dX7_followerCount_31 rfl (lv_at hl 0 rfl) ?_
      refine lv_iload (pc := 32) hx hb dX7_followerCount_32 (lv_at hl 3 rfl) ?_
      refine ro_go (pc := 34) (va_runV (As := [.int (nI i)]) (rest := []) ⟨hx, hb, hml, hown, hts⟩ (c_X7_lowestCodeBehind l D Y sy bd si sc sf im (fa_fill (mapS c r w) cd (manyM c r)) c r (mapS c r w) i (hC) (hY) (fun s h => fa_fill_in h) (c19)) (cwV 1 hts gX7_followerCount_X7_lowestCodeBehind rfl rfl rfl ⟨rfl, hdX7_lowestCodeBehind⟩ ⟨Nat.le_of_ble_eq_true rfl, Nat.le_of_ble_eq_true rfl⟩) (ro_pV hK (hP.sub [0, 1, 2] rfl) (ro_recv hK hP (ci := 6) (q0 := 0) rfl rfl)) rfl rfl hl.1 rfl (lv_room (Nat.le_of_ble_eq_true rfl)) dX7_followerCount_34 ⟨Nat.le_of_ble_eq_true rfl, Nat.le_of_ble_eq_true rfl⟩) ?_
      refine top_l (lsc_draw hC c19 w) ?_
      have hlx : lsc c r (w ||| b1 i) = lsc c r (w ||| b1 i) := rfl
      refine lv_lstore (pc := 37) (lv' := [(5, .long (lsc c r (w ||| b1 i))), (0, .ref sy), (1, .long w), (3, .int (nI n)), (4, .int (nI i))]) hx hb dX7_followerCount_37 hl (by decide) rfl (fun ls hl => ?_)
      refine lv_aload_n (pc := 39) hx hb dX7_followerCount_39 rfl (lv_at hl 1 rfl) ?_
      refine lv_lload (pc := 40) hx hb dX7_followerCount_40 (lv_at hl 0 rfl) ?_
      refine lv_iload_n (pc := 42) hx hb dX7_followerCount_42 rfl (lv_at hl 3 rfl) ?_
      refine ro_go (pc := 43) (va_runV (As := [.long (lsc c r (w ||| b1 i)), .int (nI n)]) (rest := []) ⟨hx, hb, hml, hown, hts⟩ (c_X7_isFound l D Y sy bd si sc sf g c r (lsc c r (w ||| b1 i)) n (by first | assumption | omega)) (cwV 2 hts gX7_followerCount_X7_isFound rfl rfl rfl ⟨rfl, hdX7_isFound⟩ ⟨Nat.le_of_ble_eq_true rfl, Nat.le_of_ble_eq_true rfl⟩) (ro_pV hK (hP.sub [0, 3] rfl) (ro_recv hK hP (ci := 6) (q0 := 0) rfl rfl)) rfl rfl hl.1 rfl (lv_room (Nat.le_of_ble_eq_true rfl)) dX7_followerCount_43 ⟨Nat.le_of_ble_eq_true rfl, Nat.le_of_ble_eq_true rfl⟩) ?_
      refine z_if_ne (pc := 46) (tgt := 62) hx hb dX7_followerCount_46 (by decide) (fun c46 => ?_) (fun c46 => ?_)
      · refine lv_iinc (pc := 62) (v := nI (i + 1)) (lv' := [(4, .int (nI (i + 1))), (5, .long (lsc c r (w ||| b1 i))), (0, .ref sy), (1, .long w), (3, .int (nI n))]) hx hb dX7_followerCount_62 hl (k := 4) rfl (n_inc i 1) (by decide) rfl (fun ls hl => ?_)
        refine lv_goto (pc := 65) (tgt := 10) hx hb dX7_followerCount_65 (by decide) ?_
        exact ih10 (i + 1) n g (by first | assumption | omega) (by first | assumption | omega) (by rw [fol_o c28 (by rw [← hset]; exact c46), hn]) (fun x => fol_s1 c28 hset c46 x) (by omega) _ _ hP hD hS _ (lv_sub hl [2, 3, 4, 0] rfl)
      refine lv_aload_n (pc := 49) hx hb dX7_followerCount_49 rfl (lv_at hl 1 rfl) ?_
      refine va_get (pc := 50) (D := D) (ci := 6) (v := .ref sf) (C := RX7) (T := TX7) (N := 5) hx hb hts hinX7 hown hK.1 hP 0 rfl rfl 3 (by decide) (hts (.fieldLink RX7 19 "BoxesGame$Symmetry" "found" "[J") (List.mem_of_getElem? (i := 3) rfl)) (fun _ h9 => h9) rfl dX7_followerCount_50 ?_
      refine lv_iload_n (pc := 53) hx hb dX7_followerCount_53 rfl (lv_at hl 3 rfl) ?_
      refine lv_lload (pc := 54) hx hb dX7_followerCount_54 (lv_at hl 0 rfl) ?_
      refine mu_go (pc := 56) (va_runS (As := [.ref sf, .int (nI n), .long (lsc c r (w ||| b1 i))]) (rest := []) ⟨hx, hb, hml, hown, hts⟩ (c_X3_put__in l D Y 40 g sf n (lsc c r (w ||| b1 i)) (by decide) (by first | assumption | omega)) (va_cwS 3 hts gX7_followerCount_X3_put_ rfl rfl rfl hdX3_put_ ⟨Nat.le_of_ble_eq_true rfl, Nat.le_of_ble_eq_true rfl⟩) (mu_pS hK (hP.sub [3] rfl) (hD.sub [3] (by decide) rfl)) rfl rfl hl.1 rfl (lv_room (Nat.le_of_ble_eq_true rfl)) dX7_followerCount_56 ⟨Nat.le_of_ble_eq_true rfl, Nat.le_of_ble_eq_true rfl⟩) hP hD hS [3] rfl (by decide) (fun _ => [(sy, .inr (6, [.ref bd, .ref si, .ref sc, .ref sf, .int (nI (manyM c r))])), (si, .inl (Y.1, 320, .inl im)), (sc, .inl (Y.2.1, 8, .inr (.inl (fa_fill (mapS c r w) cd (manyM c r))))), (sf, .inl (Y.2.1, 40, .inr (.inl (vp_updL g n (lsc c r (w ||| b1 i)))))), (bd, .inr (0, [.int (nI c), .int (nI r), .int (nI (al c r)), .int (nI (c * r)), .ref bs, .ref bf, .ref bg])), (bs, .inl (Y.2.1, 16, .inr (.inl sd))), (bf, .inl (Y.1, 40, .inl fb)), (bg, .inl (Y.1, 40, .inl gb))]) (fun _ => rfl) (fun _ => rfl) (fun uS H locs hpost hP hD hS => ?_)
      have hP : va_P D vwCl [(sy, .inr (6, [.ref bd, .ref si, .ref sc, .ref sf, .int (nI (manyM c r))])), (si, .inl (Y.1, 320, .inl im)), (sc, .inl (Y.2.1, 8, .inr (.inl (fa_fill (mapS c r w) cd (manyM c r))))), (sf, .inl (Y.2.1, 40, .inr (.inl (vp_updL g n (lsc c r (w ||| b1 i)))))), (bd, .inr (0, [.int (nI c), .int (nI r), .int (nI (al c r)), .int (nI (c * r)), .ref bs, .ref bf, .ref bg])), (bs, .inl (Y.2.1, 16, .inr (.inl sd))), (bf, .inl (Y.1, 40, .inl fb)), (bg, .inl (Y.1, 40, .inl gb))] H := hP
      have hD : va_D AA [(sy, .inr (6, [.ref bd, .ref si, .ref sc, .ref sf, .int (nI (manyM c r))])), (si, .inl (Y.1, 320, .inl im)), (sc, .inl (Y.2.1, 8, .inr (.inl (fa_fill (mapS c r w) cd (manyM c r))))), (sf, .inl (Y.2.1, 40, .inr (.inl (vp_updL g n (lsc c r (w ||| b1 i)))))), (bd, .inr (0, [.int (nI c), .int (nI r), .int (nI (al c r)), .int (nI (c * r)), .ref bs, .ref bf, .ref bg])), (bs, .inl (Y.2.1, 16, .inr (.inl sd))), (bf, .inl (Y.1, 40, .inl fb)), (bg, .inl (Y.1, 40, .inl gb))] := hD
      refine lv_iinc (pc := 59) (v := nI (n + 1)) (lv' := [(3, .int (nI (n + 1))), (5, .long (lsc c r (w ||| b1 i))), (0, .ref sy), (1, .long w), (4, .int (nI i))]) hx hb dX7_followerCount_59 hl (k := 3) rfl (n_inc n 1) (by decide) rfl (fun ls hl => ?_)
      refine lv_iinc (pc := 62) (v := nI (i + 1)) (lv' := [(4, .int (nI (i + 1))), (3, .int (nI (n + 1))), (5, .long (lsc c r (w ||| b1 i))), (0, .ref sy), (1, .long w)]) hx hb dX7_followerCount_62 hl (k := 4) rfl (n_inc i 1) (by decide) rfl (fun ls hl => ?_)
      refine lv_goto (pc := 65) (tgt := 10) hx hb dX7_followerCount_65 (by decide) ?_
      exact ih10 (i + 1) (n + 1) (vp_updL g n (lsc c r (w ||| b1 i))) (by first | assumption | omega) (by first | assumption | omega) (by rw [fol_n c28 (by rw [← hset]; exact c46), hn]) (fun x => fol_s2 c28 hset x) (by omega) _ _ hP hD hS _ (lv_sub hl [3, 4, 1, 0] rfl)
  exact L10 ((al c r - 0) + 1) 0 0 fd (by first | assumption | omega) (by first | assumption | omega) (rfl) (fun x => rfl) (Nat.lt_succ_self _) _ _ hP hD hS _ (lv_sub hl [2, 3, 1, 0] rfl)

set_option maxHeartbeats 1200000 in
set_option maxRecDepth 100000 in
theorem c_X7_setImage (l : Launch) (D : va_G) (Y : vY) (sy : Nat) (bd : Nat) (si : Nat) (sc : Nat) (sf : Nat) (im : Nat → Int32) (bs : Nat) (bf : Nat) (bg : Nat) (c : Nat) (r : Nat) (sd : Nat → Int64) (fb : Nat → Int32) (gb : Nat → Int32) (s : Nat) (v : Bool) (x : Nat) (y : Nat) (hC : Cr c r) (hB : BdOK c r sd fb gb) (hs : s < manyM c r) (hx5 : x ≤ c) (hy5 : y ≤ r) : Mu l yX7_setImage wsX7_setImage ({ frames := 1, cells := 0, slots := 0, locals := 26 } : Room) [.ref sy, .int (nI s), .int (zb v), .int (nI x), .int (nI y)] D Y [(sy, .inr (6, [.ref bd, .ref si, .ref sc, .ref sf, .int (nI (manyM c r))])), (si, .inl (Y.1, 320, .inl im)), (bd, .inr (0, [.int (nI c), .int (nI r), .int (nI (al c r)), .int (nI (c * r)), .ref bs, .ref bf, .ref bg])), (bs, .inl (Y.2.1, 16, .inr (.inl sd))), (bf, .inl (Y.1, 40, .inl fb)), (bg, .inl (Y.1, 40, .inl gb))] (fun _ : Unit => none) (fun _ : Unit => [(sy, .inr (6, [.ref bd, .ref si, .ref sc, .ref sf, .int (nI (manyM c r))])), (si, .inl (Y.1, 320, .inl (if x < (if v then c + 1 else c) ∧ y < (if v then r else r + 1) then upd im (s * 40 + numM c r v x y) (nI (imL c r v x y s)) else im))), (bd, .inr (0, [.int (nI c), .int (nI r), .int (nI (al c r)), .int (nI (c * r)), .ref bs, .ref bf, .ref bg])), (bs, .inl (Y.2.1, 16, .inr (.inl sd))), (bf, .inl (Y.1, 40, .inl fb)), (bg, .inl (Y.1, 40, .inl gb))]) (fun _ : Unit => True) := by
  refine mu_intro (by decide +kernel) rfl (Nat.le_of_ble_eq_true rfl) [(0, .ref sy), (1, .int (nI s)), (2, .int (zb v)), (3, .int (nI x)), (4, .int (nI y))] rfl ?_
  intro pG eG sG mG aG bG tG cG ls hx hb hr hml hts hown hlocks hK hP hD hS hl
  generalize hAA : adA [(sy, .inr (6, [.ref bd, .ref si, .ref sc, .ref sf, .int (nI (manyM c r))])), (si, .inl (Y.1, 320, .inl im)), (bd, .inr (0, [.int (nI c), .int (nI r), .int (nI (al c r)), .int (nI (c * r)), .ref bs, .ref bf, .ref bg])), (bs, .inl (Y.2.1, 16, .inr (.inl sd))), (bf, .inl (Y.1, 40, .inl fb)), (bg, .inl (Y.1, 40, .inl gb))] = AA at hD hS ⊢
  have hP : va_P D vwCl [(sy, .inr (6, [.ref bd, .ref si, .ref sc, .ref sf, .int (nI (manyM c r))])), (si, .inl (Y.1, 320, .inl im)), (bd, .inr (0, [.int (nI c), .int (nI r), .int (nI (al c r)), .int (nI (c * r)), .ref bs, .ref bf, .ref bg])), (bs, .inl (Y.2.1, 16, .inr (.inl sd))), (bf, .inl (Y.1, 40, .inl fb)), (bg, .inl (Y.1, 40, .inl gb))] sG.heap := hP
  have hD : va_D AA [(sy, .inr (6, [.ref bd, .ref si, .ref sc, .ref sf, .int (nI (manyM c r))])), (si, .inl (Y.1, 320, .inl im)), (bd, .inr (0, [.int (nI c), .int (nI r), .int (nI (al c r)), .int (nI (c * r)), .ref bs, .ref bf, .ref bg])), (bs, .inl (Y.2.1, 16, .inr (.inl sd))), (bf, .inl (Y.1, 40, .inl fb)), (bg, .inl (Y.1, 40, .inl gb))] := hD
  have hown : sG.vm.findClass RX7 = some mG.cls := hown
  have hl : lv_has ls 11 [(0, .ref sy), (1, .int (nI s)), (2, .int (zb v)), (3, .int (nI x)), (4, .int (nI y))] := hl
  have hinX0 : ∀ w ∈ u_ws RX0 TX0 7, w ∈ wsX7_setImage := by decide +kernel
  have hinX7 : ∀ w ∈ u_ws RX7 TX7 5, w ∈ wsX7_setImage := by decide +kernel
  have hS : va_S AA sG.heap sG.heap [] := hS
  obtain ⟨hq1, hq2, hq3, hq4, hq5, hq6, hq7, hq8, hq9, hq10, hq11⟩ := hC.q
  obtain ⟨hm1, hm2⟩ := many_le c r
  refine lv_aload_n (pc := 0) hx hb dX7_setImage_0 rfl (lv_at hl 0 rfl) ?_
  refine va_get (pc := 1) (D := D) (ci := 6) (v := .ref bd) (C := RX7) (T := TX7) (N := 5) hx hb hts hinX7 hown hK.1 hP 0 rfl rfl 0 (by decide) (hts (.fieldLink RX7 22 "BoxesGame$Symmetry" "board" "LBoxesGame$Board;") (List.mem_of_getElem? (i := 1) rfl)) (fun _ h9 => h9) rfl dX7_setImage_1 ?_
  refine lv_iload_n (pc := 4) hx hb dX7_setImage_4 rfl (lv_at hl 2 rfl) ?_
  refine lv_iload_n (pc := 5) hx hb dX7_setImage_5 rfl (lv_at hl 3 rfl) ?_
  refine lv_iload (pc := 6) hx hb dX7_setImage_6 (lv_at hl 4 rfl) ?_
  refine ro_go (pc := 8) (va_runV (As := [.int (zb v), .int (nI x), .int (nI y)]) (rest := []) ⟨hx, hb, hml, hown, hts⟩ (c_X0_numberOf l D Y bd bs bf bg c r sd fb gb v (nI x) (nI y) (hC) (hB)) (cwV 3 hts gX7_setImage_X0_numberOf rfl rfl rfl ⟨rfl, hdX0_numberOf⟩ ⟨Nat.le_of_ble_eq_true rfl, Nat.le_of_ble_eq_true rfl⟩) (ro_pV hK (hP.sub [2, 3, 4, 5] rfl) (ro_recv hK hP (ci := 0) (q0 := 2) rfl rfl)) rfl rfl hl.1 rfl (lv_room (Nat.le_of_ble_eq_true rfl)) dX7_setImage_8 ⟨Nat.le_of_ble_eq_true rfl, Nat.le_of_ble_eq_true rfl⟩) ?_
  refine lv_topi (fun x8 ex8 => ?_)
  refine lv_istore (pc := 11) (lv' := [(5, .int x8), (0, .ref sy), (1, .int (nI s)), (2, .int (zb v)), (3, .int (nI x)), (4, .int (nI y))]) hx hb dX7_setImage_11 hl (by decide) rfl (fun ls hl => ?_)
  refine lv_iload (pc := 13) hx hb dX7_setImage_13 (lv_at hl 0 rfl) ?_
  refine lv_iconst (pc := 15) (v := (-1)) hx hb dX7_setImage_15 (by decide) ?_
  refine lv_icmp_ne (pc := 16) (tgt := 20) hx hb dX7_setImage_16 (by decide) (fun c16 => ?_) (fun c16 => ?_)
  · obtain ⟨hxx, hyy⟩ := numI_pos hC hx5 hy5 (fun q => c16 (ex8.trans q))
    have hln := (numM_inv hC hxx hyy).1
    rw [numI_nat hC hxx hyy] at ex8
    subst ex8
    have hs8 : s < 8 := by omega
    have hl : lv_has ls 11 [(5, .int (nI (numM c r v x y))), (0, .ref sy), (1, .int (nI s)), (2, .int (zb v)), (3, .int (nI x)), (4, .int (nI y))] := hl
    refine lv_iload_n (pc := 20) hx hb dX7_setImage_20 rfl (lv_at hl 3 rfl) ?_
    refine z_if_eq (pc := 21) (tgt := 34) hx hb dX7_setImage_21 (by decide) (fun c21 => ?_) (fun c21 => ?_)
    · subst c21
      refine lv_aload_n (pc := 34) hx hb dX7_setImage_34 rfl (lv_at hl 1 rfl) ?_
      refine va_get (pc := 35) (D := D) (ci := 6) (v := .ref bd) (C := RX7) (T := TX7) (N := 5) hx hb hts hinX7 hown hK.1 hP 0 rfl rfl 0 (by decide) (hts (.fieldLink RX7 22 "BoxesGame$Symmetry" "board" "LBoxesGame$Board;") (List.mem_of_getElem? (i := 1) rfl)) (fun _ h9 => h9) rfl dX7_setImage_35 ?_
      refine va_get (pc := 38) (D := D) (ci := 0) (v := .int (nI c)) (C := RX0) (T := TX0) (N := 7) hx hb hts hinX0 hown hK.1 hP 2 rfl rfl 0 (by decide) (hts (.fieldLink RX7 26 "BoxesGame$Board" "columns" "I") (List.mem_of_getElem? (i := 2) rfl)) (fun _ h9 => h9) rfl dX7_setImage_38 ?_
      refine lv_iconst (pc := 41) (v := nI 1) hx hb dX7_setImage_41 rfl ?_
      refine n_isub (pc := 42) hx hb (by omega) dX7_setImage_42 ?_
      refine lv_istore (pc := 43) (lv' := [(6, .int (nI (c - 1))), (5, .int (nI (numM c r false x y))), (0, .ref sy), (1, .int (nI s)), (2, .int (zb false)), (3, .int (nI x)), (4, .int (nI y))]) hx hb dX7_setImage_43 hl (by decide) rfl (fun ls hl => ?_)
      refine lv_iload_n (pc := 45) hx hb dX7_setImage_45 rfl (lv_at hl 4 rfl) ?_
      refine z_if_eq (pc := 46) (tgt := 61) hx hb dX7_setImage_46 (by decide) (fun c46 => ?_) (fun c46 => ?_)
      · refine lv_aload_n (pc := 61) hx hb dX7_setImage_61 rfl (lv_at hl 2 rfl) ?_
        refine va_get (pc := 62) (D := D) (ci := 6) (v := .ref bd) (C := RX7) (T := TX7) (N := 5) hx hb hts hinX7 hown hK.1 hP 0 rfl rfl 0 (by decide) (hts (.fieldLink RX7 22 "BoxesGame$Symmetry" "board" "LBoxesGame$Board;") (List.mem_of_getElem? (i := 1) rfl)) (fun _ h9 => h9) rfl dX7_setImage_62 ?_
        refine va_get (pc := 65) (D := D) (ci := 0) (v := .int (nI r)) (C := RX0) (T := TX0) (N := 7) hx hb hts hinX0 hown hK.1 hP 2 rfl rfl 1 (by decide) (hts (.fieldLink RX7 32 "BoxesGame$Board" "rows" "I") (List.mem_of_getElem? (i := 3) rfl)) (fun _ h9 => h9) rfl dX7_setImage_65 ?_
        refine lv_istore (pc := 68) (lv' := [(7, .int (nI r)), (6, .int (nI (c - 1))), (5, .int (nI (numM c r false x y))), (0, .ref sy), (1, .int (nI s)), (2, .int (zb false)), (3, .int (nI x)), (4, .int (nI y))]) hx hb dX7_setImage_68 hl (by decide) rfl (fun ls hl => ?_)
        refine lv_iload_n (pc := 70) hx hb dX7_setImage_70 rfl (lv_at hl 4 rfl) ?_
        refine lv_iconst (pc := 71) (v := nI 1) hx hb dX7_setImage_71 rfl ?_
        refine lv_iand (pc := 72) hx hb dX7_setImage_72 ?_
        refine lv_if_eq (pc := 73) (tgt := 83) hx hb dX7_setImage_73 (by decide) (fun c73 => ?_) (fun c73 => ?_)
        · refine lv_iload_n (pc := 83) hx hb dX7_setImage_83 rfl (lv_at hl 6 rfl) ?_
          refine lv_istore (pc := 84) (lv' := [(8, .int (nI x)), (7, .int (nI r)), (6, .int (nI (c - 1))), (5, .int (nI (numM c r false x y))), (0, .ref sy), (1, .int (nI s)), (2, .int (zb false)), (3, .int (nI x)), (4, .int (nI y))]) hx hb dX7_setImage_84 hl (by decide) rfl (fun ls hl => ?_)
          refine lv_iload_n (pc := 86) hx hb dX7_setImage_86 rfl (lv_at hl 5 rfl) ?_
          refine lv_iconst (pc := 87) (v := nI 2) hx hb dX7_setImage_87 rfl ?_
          refine lv_iand (pc := 88) hx hb dX7_setImage_88 ?_
          refine lv_if_eq (pc := 89) (tgt := 100) hx hb dX7_setImage_89 (by decide) (fun c89 => ?_) (fun c89 => ?_)
          · refine lv_iload (pc := 100) hx hb dX7_setImage_100 (lv_at hl 8 rfl) ?_
            refine lv_istore (pc := 102) (lv' := [(9, .int (nI y)), (8, .int (nI x)), (7, .int (nI r)), (6, .int (nI (c - 1))), (5, .int (nI (numM c r false x y))), (0, .ref sy), (1, .int (nI s)), (2, .int (zb false)), (3, .int (nI x)), (4, .int (nI y))]) hx hb dX7_setImage_102 hl (by decide) rfl (fun ls hl => ?_)
            refine lv_iload_n (pc := 104) hx hb dX7_setImage_104 rfl (lv_at hl 6 rfl) ?_
            refine lv_iconst (pc := 105) (v := nI 4) hx hb dX7_setImage_105 rfl ?_
            refine lv_iand (pc := 106) hx hb dX7_setImage_106 ?_
            refine lv_if_eq (pc := 107) (tgt := 133) hx hb dX7_setImage_107 (by decide) (fun c107 => ?_) (fun c107 => ?_)
            · refine lv_aload_n (pc := 133) hx hb dX7_setImage_133 rfl (lv_at hl 5 rfl) ?_
              refine va_get (pc := 134) (D := D) (ci := 6) (v := .ref bd) (C := RX7) (T := TX7) (N := 5) hx hb hts hinX7 hown hK.1 hP 0 rfl rfl 0 (by decide) (hts (.fieldLink RX7 22 "BoxesGame$Symmetry" "board" "LBoxesGame$Board;") (List.mem_of_getElem? (i := 1) rfl)) (fun _ h9 => h9) rfl dX7_setImage_134 ?_
              refine lv_iload_n (pc := 137) hx hb dX7_setImage_137 rfl (lv_at hl 7 rfl) ?_
              refine lv_iload (pc := 138) hx hb dX7_setImage_138 (lv_at hl 1 rfl) ?_
              refine lv_iload (pc := 140) hx hb dX7_setImage_140 (lv_at hl 0 rfl) ?_
              refine ro_go (pc := 142) (va_runV (As := [.int (zb false), .int (nI x), .int (nI y)]) (rest := []) ⟨hx, hb, hml, hown, hts⟩ (c_X0_numberOf l D Y bd bs bf bg c r sd fb gb false (nI x) (nI y) (hC) (hB)) (cwV 3 hts gX7_setImage_X0_numberOf rfl rfl rfl ⟨rfl, hdX0_numberOf⟩ ⟨Nat.le_of_ble_eq_true rfl, Nat.le_of_ble_eq_true rfl⟩) (ro_pV hK (hP.sub [2, 3, 4, 5] rfl) (ro_recv hK hP (ci := 0) (q0 := 2) rfl rfl)) rfl rfl hl.1 rfl (lv_room (Nat.le_of_ble_eq_true rfl)) dX7_setImage_142 ⟨Nat.le_of_ble_eq_true rfl, Nat.le_of_ble_eq_true rfl⟩) ?_
              refine lv_topi (fun x142 ex142 => ?_)
              refine lv_istore (pc := 145) (lv' := [(10, .int x142), (9, .int (nI y)), (8, .int (nI x)), (7, .int (nI r)), (6, .int (nI (c - 1))), (5, .int (nI (numM c r false x y))), (0, .ref sy), (1, .int (nI s)), (2, .int (zb false)), (3, .int (nI x)), (4, .int (nI y))]) hx hb dX7_setImage_145 hl (by decide) rfl (fun ls hl => ?_)
              have hxim : x142 = nI (imL c r false x y s) := by have t0 : s.testBit 0 = false := ((bit0 s hs8).mp c73); have t1 : s.testBit 1 = false := ((bit1 s hs8).mp c89); have t2 : s.testBit 2 = false := ((bit2 s hs8).mp c107); rw [← im_num hC hs hxx hyy, ex142]; simp [imX, imY, t0, t1, t2]
              refine lv_aload_n (pc := 147) hx hb dX7_setImage_147 rfl (lv_at hl 6 rfl) ?_
              refine va_get (pc := 148) (D := D) (ci := 6) (v := .ref si) (C := RX7) (T := TX7) (N := 5) hx hb hts hinX7 hown hK.1 hP 0 rfl rfl 1 (by decide) (hts (.fieldLink RX7 9 "BoxesGame$Symmetry" "images" "[I") (List.mem_of_getElem? (i := 4) rfl)) (fun _ h9 => h9) rfl dX7_setImage_148 ?_
              refine lv_iload_n (pc := 151) hx hb dX7_setImage_151 rfl (lv_at hl 7 rfl) ?_
              refine lv_bipush (pc := 152) (v := nI 40) hx hb dX7_setImage_152 rfl ?_
              refine n_imul (pc := 154) hx hb dX7_setImage_154 ?_
              refine lv_iload (pc := 155) hx hb dX7_setImage_155 (lv_at hl 5 rfl) ?_
              refine n_iadd (pc := 157) hx hb dX7_setImage_157 ?_
              refine lv_iload (pc := 158) hx hb dX7_setImage_158 (lv_at hl 0 rfl) ?_
              refine mu_go (pc := 160) (va_runS (As := [.ref si, .int (nI ((s * 40) + (numM c r false x y))), .int x142]) (rest := []) ⟨hx, hb, hml, hown, hts⟩ (c_X3_put_in l D Y 320 im si ((s * 40) + (numM c r false x y)) x142 (by decide) (by first | assumption | omega)) (va_cwS 3 hts gX7_setImage_X3_put rfl rfl rfl hdX3_put ⟨Nat.le_of_ble_eq_true rfl, Nat.le_of_ble_eq_true rfl⟩) (mu_pS hK (hP.sub [1] rfl) (hD.sub [1] (by decide) rfl)) rfl rfl hl.1 rfl (lv_room (Nat.le_of_ble_eq_true rfl)) dX7_setImage_160 ⟨Nat.le_of_ble_eq_true rfl, Nat.le_of_ble_eq_true rfl⟩) hP hD hS [1] rfl (by decide) (fun _ => [(sy, .inr (6, [.ref bd, .ref si, .ref sc, .ref sf, .int (nI (manyM c r))])), (si, .inl (Y.1, 320, .inl (upd im ((s * 40) + (numM c r false x y)) x142))), (bd, .inr (0, [.int (nI c), .int (nI r), .int (nI (al c r)), .int (nI (c * r)), .ref bs, .ref bf, .ref bg])), (bs, .inl (Y.2.1, 16, .inr (.inl sd))), (bf, .inl (Y.1, 40, .inl fb)), (bg, .inl (Y.1, 40, .inl gb))]) (fun _ => rfl) (fun _ => rfl) (fun uS H locs hpost hP hD hS => ?_)
              have hP : va_P D vwCl [(sy, .inr (6, [.ref bd, .ref si, .ref sc, .ref sf, .int (nI (manyM c r))])), (si, .inl (Y.1, 320, .inl (upd im ((s * 40) + (numM c r false x y)) x142))), (bd, .inr (0, [.int (nI c), .int (nI r), .int (nI (al c r)), .int (nI (c * r)), .ref bs, .ref bf, .ref bg])), (bs, .inl (Y.2.1, 16, .inr (.inl sd))), (bf, .inl (Y.1, 40, .inl fb)), (bg, .inl (Y.1, 40, .inl gb))] H := hP
              have hD : va_D AA [(sy, .inr (6, [.ref bd, .ref si, .ref sc, .ref sf, .int (nI (manyM c r))])), (si, .inl (Y.1, 320, .inl (upd im ((s * 40) + (numM c r false x y)) x142))), (bd, .inr (0, [.int (nI c), .int (nI r), .int (nI (al c r)), .int (nI (c * r)), .ref bs, .ref bf, .ref bg])), (bs, .inl (Y.2.1, 16, .inr (.inl sd))), (bf, .inl (Y.1, 40, .inl fb)), (bg, .inl (Y.1, 40, .inl gb))] := hD
              subst hAA
              exact mu_vret hx hb hr hlocks hP hS (()) (rfl) (trivial) (by rw [if_pos ⟨hxx, hyy⟩, hxim]) dX7_setImage_163
            refine lv_aload_n (pc := 110) hx hb dX7_setImage_110 rfl (lv_at hl 5 rfl) ?_
            refine va_get (pc := 111) (D := D) (ci := 6) (v := .ref bd) (C := RX7) (T := TX7) (N := 5) hx hb hts hinX7 hown hK.1 hP 0 rfl rfl 0 (by decide) (hts (.fieldLink RX7 22 "BoxesGame$Symmetry" "board" "LBoxesGame$Board;") (List.mem_of_getElem? (i := 1) rfl)) (fun _ h9 => h9) rfl dX7_setImage_111 ?_
            refine lv_iload_n (pc := 114) hx hb dX7_setImage_114 rfl (lv_at hl 7 rfl) ?_
            refine z_if_ne (pc := 115) (tgt := 122) hx hb dX7_setImage_115 (by decide) (fun c115 => ?_) (fun c115 => ?_)
            · exact absurd c115 (by decide)
            refine lv_iconst (pc := 118) (v := nI 1) hx hb dX7_setImage_118 rfl ?_
            refine lv_goto (pc := 119) (tgt := 123) hx hb dX7_setImage_119 (by decide) ?_
            refine lv_iload (pc := 123) hx hb dX7_setImage_123 (lv_at hl 0 rfl) ?_
            refine lv_iload (pc := 125) hx hb dX7_setImage_125 (lv_at hl 1 rfl) ?_
            refine ro_go (pc := 127) (va_runV (As := [.int (nI 1), .int (nI y), .int (nI x)]) (rest := []) ⟨hx, hb, hml, hown, hts⟩ (c_X0_numberOf l D Y bd bs bf bg c r sd fb gb true (nI y) (nI x) (hC) (hB)) (cwV 3 hts gX7_setImage_X0_numberOf rfl rfl rfl ⟨rfl, hdX0_numberOf⟩ ⟨Nat.le_of_ble_eq_true rfl, Nat.le_of_ble_eq_true rfl⟩) (ro_pV hK (hP.sub [2, 3, 4, 5] rfl) (ro_recv hK hP (ci := 0) (q0 := 2) rfl rfl)) rfl rfl hl.1 rfl (lv_room (Nat.le_of_ble_eq_true rfl)) dX7_setImage_127 ⟨Nat.le_of_ble_eq_true rfl, Nat.le_of_ble_eq_true rfl⟩) ?_
            refine lv_topi (fun x127 ex127 => ?_)
            refine lv_goto (pc := 130) (tgt := 145) hx hb dX7_setImage_130 (by decide) ?_
            refine lv_istore (pc := 145) (lv' := [(10, .int x127), (9, .int (nI y)), (8, .int (nI x)), (7, .int (nI r)), (6, .int (nI (c - 1))), (5, .int (nI (numM c r false x y))), (0, .ref sy), (1, .int (nI s)), (2, .int (zb false)), (3, .int (nI x)), (4, .int (nI y))]) hx hb dX7_setImage_145 hl (by decide) rfl (fun ls hl => ?_)
            have hxim : x127 = nI (imL c r false x y s) := by have t0 : s.testBit 0 = false := ((bit0 s hs8).mp c73); have t1 : s.testBit 1 = false := ((bit1 s hs8).mp c89); have t2 : s.testBit 2 = true := (by cases q : s.testBit 2; exact absurd ((bit2 s hs8).mpr q) c107; rfl); rw [← im_num hC hs hxx hyy, ex127]; simp [imX, imY, t0, t1, t2]
            refine lv_aload_n (pc := 147) hx hb dX7_setImage_147 rfl (lv_at hl 6 rfl) ?_
            refine va_get (pc := 148) (D := D) (ci := 6) (v := .ref si) (C := RX7) (T := TX7) (N := 5) hx hb hts hinX7 hown hK.1 hP 0 rfl rfl 1 (by decide) (hts (.fieldLink RX7 9 "BoxesGame$Symmetry" "images" "[I") (List.mem_of_getElem? (i := 4) rfl)) (fun _ h9 => h9) rfl dX7_setImage_148 ?_
            refine lv_iload_n (pc := 151) hx hb dX7_setImage_151 rfl (lv_at hl 7 rfl) ?_
            refine lv_bipush (pc := 152) (v := nI 40) hx hb dX7_setImage_152 rfl ?_
            refine n_imul (pc := 154) hx hb dX7_setImage_154 ?_
            refine lv_iload (pc := 155) hx hb dX7_setImage_155 (lv_at hl 5 rfl) ?_
            refine n_iadd (pc := 157) hx hb dX7_setImage_157 ?_
            refine lv_iload (pc := 158) hx hb dX7_setImage_158 (lv_at hl 0 rfl) ?_
            refine mu_go (pc := 160) (va_runS (As := [.ref si, .int (nI ((s * 40) + (numM c r false x y))), .int x127]) (rest := []) ⟨hx, hb, hml, hown, hts⟩ (c_X3_put_in l D Y 320 im si ((s * 40) + (numM c r false x y)) x127 (by decide) (by first | assumption | omega)) (va_cwS 3 hts gX7_setImage_X3_put rfl rfl rfl hdX3_put ⟨Nat.le_of_ble_eq_true rfl, Nat.le_of_ble_eq_true rfl⟩) (mu_pS hK (hP.sub [1] rfl) (hD.sub [1] (by decide) rfl)) rfl rfl hl.1 rfl (lv_room (Nat.le_of_ble_eq_true rfl)) dX7_setImage_160 ⟨Nat.le_of_ble_eq_true rfl, Nat.le_of_ble_eq_true rfl⟩) hP hD hS [1] rfl (by decide) (fun _ => [(sy, .inr (6, [.ref bd, .ref si, .ref sc, .ref sf, .int (nI (manyM c r))])), (si, .inl (Y.1, 320, .inl (upd im ((s * 40) + (numM c r false x y)) x127))), (bd, .inr (0, [.int (nI c), .int (nI r), .int (nI (al c r)), .int (nI (c * r)), .ref bs, .ref bf, .ref bg])), (bs, .inl (Y.2.1, 16, .inr (.inl sd))), (bf, .inl (Y.1, 40, .inl fb)), (bg, .inl (Y.1, 40, .inl gb))]) (fun _ => rfl) (fun _ => rfl) (fun uS H locs hpost hP hD hS => ?_)
            have hP : va_P D vwCl [(sy, .inr (6, [.ref bd, .ref si, .ref sc, .ref sf, .int (nI (manyM c r))])), (si, .inl (Y.1, 320, .inl (upd im ((s * 40) + (numM c r false x y)) x127))), (bd, .inr (0, [.int (nI c), .int (nI r), .int (nI (al c r)), .int (nI (c * r)), .ref bs, .ref bf, .ref bg])), (bs, .inl (Y.2.1, 16, .inr (.inl sd))), (bf, .inl (Y.1, 40, .inl fb)), (bg, .inl (Y.1, 40, .inl gb))] H := hP
            have hD : va_D AA [(sy, .inr (6, [.ref bd, .ref si, .ref sc, .ref sf, .int (nI (manyM c r))])), (si, .inl (Y.1, 320, .inl (upd im ((s * 40) + (numM c r false x y)) x127))), (bd, .inr (0, [.int (nI c), .int (nI r), .int (nI (al c r)), .int (nI (c * r)), .ref bs, .ref bf, .ref bg])), (bs, .inl (Y.2.1, 16, .inr (.inl sd))), (bf, .inl (Y.1, 40, .inl fb)), (bg, .inl (Y.1, 40, .inl gb))] := hD
            subst hAA
            exact mu_vret hx hb hr hlocks hP hS (()) (rfl) (trivial) (by rw [if_pos ⟨hxx, hyy⟩, hxim]) dX7_setImage_163
          refine lv_iload (pc := 92) hx hb dX7_setImage_92 (lv_at hl 1 rfl) ?_
          refine lv_iload (pc := 94) hx hb dX7_setImage_94 (lv_at hl 8 rfl) ?_
          refine n_isub (pc := 96) hx hb (by simp only [Bool.false_eq_true, if_false, if_true] at hyy; omega) dX7_setImage_96 ?_
          refine lv_goto (pc := 97) (tgt := 102) hx hb dX7_setImage_97 (by decide) ?_
          refine lv_istore (pc := 102) (lv' := [(9, .int (nI (r - y))), (8, .int (nI x)), (7, .int (nI r)), (6, .int (nI (c - 1))), (5, .int (nI (numM c r false x y))), (0, .ref sy), (1, .int (nI s)), (2, .int (zb false)), (3, .int (nI x)), (4, .int (nI y))]) hx hb dX7_setImage_102 hl (by decide) rfl (fun ls hl => ?_)
          refine lv_iload_n (pc := 104) hx hb dX7_setImage_104 rfl (lv_at hl 6 rfl) ?_
          refine lv_iconst (pc := 105) (v := nI 4) hx hb dX7_setImage_105 rfl ?_
          refine lv_iand (pc := 106) hx hb dX7_setImage_106 ?_
          refine lv_if_eq (pc := 107) (tgt := 133) hx hb dX7_setImage_107 (by decide) (fun c107 => ?_) (fun c107 => ?_)
          · refine lv_aload_n (pc := 133) hx hb dX7_setImage_133 rfl (lv_at hl 5 rfl) ?_
            refine va_get (pc := 134) (D := D) (ci := 6) (v := .ref bd) (C := RX7) (T := TX7) (N := 5) hx hb hts hinX7 hown hK.1 hP 0 rfl rfl 0 (by decide) (hts (.fieldLink RX7 22 "BoxesGame$Symmetry" "board" "LBoxesGame$Board;") (List.mem_of_getElem? (i := 1) rfl)) (fun _ h9 => h9) rfl dX7_setImage_134 ?_
            refine lv_iload_n (pc := 137) hx hb dX7_setImage_137 rfl (lv_at hl 7 rfl) ?_
            refine lv_iload (pc := 138) hx hb dX7_setImage_138 (lv_at hl 1 rfl) ?_
            refine lv_iload (pc := 140) hx hb dX7_setImage_140 (lv_at hl 0 rfl) ?_
            refine ro_go (pc := 142) (va_runV (As := [.int (zb false), .int (nI x), .int (nI (r - y))]) (rest := []) ⟨hx, hb, hml, hown, hts⟩ (c_X0_numberOf l D Y bd bs bf bg c r sd fb gb false (nI x) (nI (r - y)) (hC) (hB)) (cwV 3 hts gX7_setImage_X0_numberOf rfl rfl rfl ⟨rfl, hdX0_numberOf⟩ ⟨Nat.le_of_ble_eq_true rfl, Nat.le_of_ble_eq_true rfl⟩) (ro_pV hK (hP.sub [2, 3, 4, 5] rfl) (ro_recv hK hP (ci := 0) (q0 := 2) rfl rfl)) rfl rfl hl.1 rfl (lv_room (Nat.le_of_ble_eq_true rfl)) dX7_setImage_142 ⟨Nat.le_of_ble_eq_true rfl, Nat.le_of_ble_eq_true rfl⟩) ?_
            refine lv_topi (fun x142 ex142 => ?_)
            refine lv_istore (pc := 145) (lv' := [(10, .int x142), (9, .int (nI (r - y))), (8, .int (nI x)), (7, .int (nI r)), (6, .int (nI (c - 1))), (5, .int (nI (numM c r false x y))), (0, .ref sy), (1, .int (nI s)), (2, .int (zb false)), (3, .int (nI x)), (4, .int (nI y))]) hx hb dX7_setImage_145 hl (by decide) rfl (fun ls hl => ?_)
            have hxim : x142 = nI (imL c r false x y s) := by have t0 : s.testBit 0 = false := ((bit0 s hs8).mp c73); have t1 : s.testBit 1 = true := (by cases q : s.testBit 1; exact absurd ((bit1 s hs8).mpr q) c89; rfl); have t2 : s.testBit 2 = false := ((bit2 s hs8).mp c107); rw [← im_num hC hs hxx hyy, ex142]; simp [imX, imY, t0, t1, t2]
            refine lv_aload_n (pc := 147) hx hb dX7_setImage_147 rfl (lv_at hl 6 rfl) ?_
            refine va_get (pc := 148) (D := D) (ci := 6) (v := .ref si) (C := RX7) (T := TX7) (N := 5) hx hb hts hinX7 hown hK.1 hP 0 rfl rfl 1 (by decide) (hts (.fieldLink RX7 9 "BoxesGame$Symmetry" "images" "[I") (List.mem_of_getElem? (i := 4) rfl)) (fun _ h9 => h9) rfl dX7_setImage_148 ?_
            refine lv_iload_n (pc := 151) hx hb dX7_setImage_151 rfl (lv_at hl 7 rfl) ?_
            refine lv_bipush (pc := 152) (v := nI 40) hx hb dX7_setImage_152 rfl ?_
            refine n_imul (pc := 154) hx hb dX7_setImage_154 ?_
            refine lv_iload (pc := 155) hx hb dX7_setImage_155 (lv_at hl 5 rfl) ?_
            refine n_iadd (pc := 157) hx hb dX7_setImage_157 ?_
            refine lv_iload (pc := 158) hx hb dX7_setImage_158 (lv_at hl 0 rfl) ?_
            refine mu_go (pc := 160) (va_runS (As := [.ref si, .int (nI ((s * 40) + (numM c r false x y))), .int x142]) (rest := []) ⟨hx, hb, hml, hown, hts⟩ (c_X3_put_in l D Y 320 im si ((s * 40) + (numM c r false x y)) x142 (by decide) (by first | assumption | omega)) (va_cwS 3 hts gX7_setImage_X3_put rfl rfl rfl hdX3_put ⟨Nat.le_of_ble_eq_true rfl, Nat.le_of_ble_eq_true rfl⟩) (mu_pS hK (hP.sub [1] rfl) (hD.sub [1] (by decide) rfl)) rfl rfl hl.1 rfl (lv_room (Nat.le_of_ble_eq_true rfl)) dX7_setImage_160 ⟨Nat.le_of_ble_eq_true rfl, Nat.le_of_ble_eq_true rfl⟩) hP hD hS [1] rfl (by decide) (fun _ => [(sy, .inr (6, [.ref bd, .ref si, .ref sc, .ref sf, .int (nI (manyM c r))])), (si, .inl (Y.1, 320, .inl (upd im ((s * 40) + (numM c r false x y)) x142))), (bd, .inr (0, [.int (nI c), .int (nI r), .int (nI (al c r)), .int (nI (c * r)), .ref bs, .ref bf, .ref bg])), (bs, .inl (Y.2.1, 16, .inr (.inl sd))), (bf, .inl (Y.1, 40, .inl fb)), (bg, .inl (Y.1, 40, .inl gb))]) (fun _ => rfl) (fun _ => rfl) (fun uS H locs hpost hP hD hS => ?_)
            have hP : va_P D vwCl [(sy, .inr (6, [.ref bd, .ref si, .ref sc, .ref sf, .int (nI (manyM c r))])), (si, .inl (Y.1, 320, .inl (upd im ((s * 40) + (numM c r false x y)) x142))), (bd, .inr (0, [.int (nI c), .int (nI r), .int (nI (al c r)), .int (nI (c * r)), .ref bs, .ref bf, .ref bg])), (bs, .inl (Y.2.1, 16, .inr (.inl sd))), (bf, .inl (Y.1, 40, .inl fb)), (bg, .inl (Y.1, 40, .inl gb))] H := hP
            have hD : va_D AA [(sy, .inr (6, [.ref bd, .ref si, .ref sc, .ref sf, .int (nI (manyM c r))])), (si, .inl (Y.1, 320, .inl (upd im ((s * 40) + (numM c r false x y)) x142))), (bd, .inr (0, [.int (nI c), .int (nI r), .int (nI (al c r)), .int (nI (c * r)), .ref bs, .ref bf, .ref bg])), (bs, .inl (Y.2.1, 16, .inr (.inl sd))), (bf, .inl (Y.1, 40, .inl fb)), (bg, .inl (Y.1, 40, .inl gb))] := hD
            subst hAA
            exact mu_vret hx hb hr hlocks hP hS (()) (rfl) (trivial) (by rw [if_pos ⟨hxx, hyy⟩, hxim]) dX7_setImage_163
          refine lv_aload_n (pc := 110) hx hb dX7_setImage_110 rfl (lv_at hl 5 rfl) ?_
          refine va_get (pc := 111) (D := D) (ci := 6) (v := .ref bd) (C := RX7) (T := TX7) (N := 5) hx hb hts hinX7 hown hK.1 hP 0 rfl rfl 0 (by decide) (hts (.fieldLink RX7 22 "BoxesGame$Symmetry" "board" "LBoxesGame$Board;") (List.mem_of_getElem? (i := 1) rfl)) (fun _ h9 => h9) rfl dX7_setImage_111 ?_
          refine lv_iload_n (pc := 114) hx hb dX7_setImage_114 rfl (lv_at hl 7 rfl) ?_
          refine z_if_ne (pc := 115) (tgt := 122) hx hb dX7_setImage_115 (by decide) (fun c115 => ?_) (fun c115 => ?_)
          · exact absurd c115 (by decide)
          refine lv_iconst (pc := 118) (v := nI 1) hx hb dX7_setImage_118 rfl ?_
          refine lv_goto (pc := 119) (tgt := 123) hx hb dX7_setImage_119 (by decide) ?_
          refine lv_iload (pc := 123) hx hb dX7_setImage_123 (lv_at hl 0 rfl) ?_
          refine lv_iload (pc := 125) hx hb dX7_setImage_125 (lv_at hl 1 rfl) ?_
          refine ro_go (pc := 127) (va_runV (As := [.int (nI 1), .int (nI (r - y)), .int (nI x)]) (rest := []) ⟨hx, hb, hml, hown, hts⟩ (c_X0_numberOf l D Y bd bs bf bg c r sd fb gb true (nI (r - y)) (nI x) (hC) (hB)) (cwV 3 hts gX7_setImage_X0_numberOf rfl rfl rfl ⟨rfl, hdX0_numberOf⟩ ⟨Nat.le_of_ble_eq_true rfl, Nat.le_of_ble_eq_true rfl⟩) (ro_pV hK (hP.sub [2, 3, 4, 5] rfl) (ro_recv hK hP (ci := 0) (q0 := 2) rfl rfl)) rfl rfl hl.1 rfl (lv_room (Nat.le_of_ble_eq_true rfl)) dX7_setImage_127 ⟨Nat.le_of_ble_eq_true rfl, Nat.le_of_ble_eq_true rfl⟩) ?_
          refine lv_topi (fun x127 ex127 => ?_)
          refine lv_goto (pc := 130) (tgt := 145) hx hb dX7_setImage_130 (by decide) ?_
          refine lv_istore (pc := 145) (lv' := [(10, .int x127), (9, .int (nI (r - y))), (8, .int (nI x)), (7, .int (nI r)), (6, .int (nI (c - 1))), (5, .int (nI (numM c r false x y))), (0, .ref sy), (1, .int (nI s)), (2, .int (zb false)), (3, .int (nI x)), (4, .int (nI y))]) hx hb dX7_setImage_145 hl (by decide) rfl (fun ls hl => ?_)
          have hxim : x127 = nI (imL c r false x y s) := by have t0 : s.testBit 0 = false := ((bit0 s hs8).mp c73); have t1 : s.testBit 1 = true := (by cases q : s.testBit 1; exact absurd ((bit1 s hs8).mpr q) c89; rfl); have t2 : s.testBit 2 = true := (by cases q : s.testBit 2; exact absurd ((bit2 s hs8).mpr q) c107; rfl); rw [← im_num hC hs hxx hyy, ex127]; simp [imX, imY, t0, t1, t2]
          refine lv_aload_n (pc := 147) hx hb dX7_setImage_147 rfl (lv_at hl 6 rfl) ?_
          refine va_get (pc := 148) (D := D) (ci := 6) (v := .ref si) (C := RX7) (T := TX7) (N := 5) hx hb hts hinX7 hown hK.1 hP 0 rfl rfl 1 (by decide) (hts (.fieldLink RX7 9 "BoxesGame$Symmetry" "images" "[I") (List.mem_of_getElem? (i := 4) rfl)) (fun _ h9 => h9) rfl dX7_setImage_148 ?_
          refine lv_iload_n (pc := 151) hx hb dX7_setImage_151 rfl (lv_at hl 7 rfl) ?_
          refine lv_bipush (pc := 152) (v := nI 40) hx hb dX7_setImage_152 rfl ?_
          refine n_imul (pc := 154) hx hb dX7_setImage_154 ?_
          refine lv_iload (pc := 155) hx hb dX7_setImage_155 (lv_at hl 5 rfl) ?_
          refine n_iadd (pc := 157) hx hb dX7_setImage_157 ?_
          refine lv_iload (pc := 158) hx hb dX7_setImage_158 (lv_at hl 0 rfl) ?_
          refine mu_go (pc := 160) (va_runS (As := [.ref si, .int (nI ((s * 40) + (numM c r false x y))), .int x127]) (rest := []) ⟨hx, hb, hml, hown, hts⟩ (c_X3_put_in l D Y 320 im si ((s * 40) + (numM c r false x y)) x127 (by decide) (by first | assumption | omega)) (va_cwS 3 hts gX7_setImage_X3_put rfl rfl rfl hdX3_put ⟨Nat.le_of_ble_eq_true rfl, Nat.le_of_ble_eq_true rfl⟩) (mu_pS hK (hP.sub [1] rfl) (hD.sub [1] (by decide) rfl)) rfl rfl hl.1 rfl (lv_room (Nat.le_of_ble_eq_true rfl)) dX7_setImage_160 ⟨Nat.le_of_ble_eq_true rfl, Nat.le_of_ble_eq_true rfl⟩) hP hD hS [1] rfl (by decide) (fun _ => [(sy, .inr (6, [.ref bd, .ref si, .ref sc, .ref sf, .int (nI (manyM c r))])), (si, .inl (Y.1, 320, .inl (upd im ((s * 40) + (numM c r false x y)) x127))), (bd, .inr (0, [.int (nI c), .int (nI r), .int (nI (al c r)), .int (nI (c * r)), .ref bs, .ref bf, .ref bg])), (bs, .inl (Y.2.1, 16, .inr (.inl sd))), (bf, .inl (Y.1, 40, .inl fb)), (bg, .inl (Y.1, 40, .inl gb))]) (fun _ => rfl) (fun _ => rfl) (fun uS H locs hpost hP hD hS => ?_)
          have hP : va_P D vwCl [(sy, .inr (6, [.ref bd, .ref si, .ref sc, .ref sf, .int (nI (manyM c r))])), (si, .inl (Y.1, 320, .inl (upd im ((s * 40) + (numM c r false x y)) x127))), (bd, .inr (0, [.int (nI c), .int (nI r), .int (nI (al c r)), .int (nI (c * r)), .ref bs, .ref bf, .ref bg])), (bs, .inl (Y.2.1, 16, .inr (.inl sd))), (bf, .inl (Y.1, 40, .inl fb)), (bg, .inl (Y.1, 40, .inl gb))] H := hP
          have hD : va_D AA [(sy, .inr (6, [.ref bd, .ref si, .ref sc, .ref sf, .int (nI (manyM c r))])), (si, .inl (Y.1, 320, .inl (upd im ((s * 40) + (numM c r false x y)) x127))), (bd, .inr (0, [.int (nI c), .int (nI r), .int (nI (al c r)), .int (nI (c * r)), .ref bs, .ref bf, .ref bg])), (bs, .inl (Y.2.1, 16, .inr (.inl sd))), (bf, .inl (Y.1, 40, .inl fb)), (bg, .inl (Y.1, 40, .inl gb))] := hD
          subst hAA
          exact mu_vret hx hb hr hlocks hP hS (()) (rfl) (trivial) (by rw [if_pos ⟨hxx, hyy⟩, hxim]) dX7_setImage_163
        refine lv_iload (pc := 76) hx hb dX7_setImage_76 (lv_at hl 1 rfl) ?_
        refine lv_iload_n (pc := 78) hx hb dX7_setImage_78 rfl (lv_at hl 6 rfl) ?_
        refine n_isub (pc := 79) hx hb (by simp only [Bool.false_eq_true, if_false, if_true] at hxx; omega) dX7_setImage_79 ?_
        refine lv_goto (pc := 80) (tgt := 84) hx hb dX7_setImage_80 (by decide) ?_
        refine lv_istore (pc := 84) (lv' := [(8, .int (nI ((c - 1) - x))), (7, .int (nI r)), (6, .int (nI (c - 1))), (5, .int (nI (numM c r false x y))), (0, .ref sy), (1, .int (nI s)), (2, .int (zb false)), (3, .int (nI x)), (4, .int (nI y))]) hx hb dX7_setImage_84 hl (by decide) rfl (fun ls hl => ?_)
        refine lv_iload_n (pc := 86) hx hb dX7_setImage_86 rfl (lv_at hl 5 rfl) ?_
        refine lv_iconst (pc := 87) (v := nI 2) hx hb dX7_setImage_87 rfl ?_
        refine lv_iand (pc := 88) hx hb dX7_setImage_88 ?_
        refine lv_if_eq (pc := 89) (tgt := 100) hx hb dX7_setImage_89 (by decide) (fun c89 => ?_) (fun c89 => ?_)
        · refine lv_iload (pc := 100) hx hb dX7_setImage_100 (lv_at hl 8 rfl) ?_
          refine lv_istore (pc := 102) (lv' := [(9, .int (nI y)), (8, .int (nI ((c - 1) - x))), (7, .int (nI r)), (6, .int (nI (c - 1))), (5, .int (nI (numM c r false x y))), (0, .ref sy), (1, .int (nI s)), (2, .int (zb false)), (3, .int (nI x)), (4, .int (nI y))]) hx hb dX7_setImage_102 hl (by decide) rfl (fun ls hl => ?_)
          refine lv_iload_n (pc := 104) hx hb dX7_setImage_104 rfl (lv_at hl 6 rfl) ?_
          refine lv_iconst (pc := 105) (v := nI 4) hx hb dX7_setImage_105 rfl ?_
          refine lv_iand (pc := 106) hx hb dX7_setImage_106 ?_
          refine lv_if_eq (pc := 107) (tgt := 133) hx hb dX7_setImage_107 (by decide) (fun c107 => ?_) (fun c107 => ?_)
          · refine lv_aload_n (pc := 133) hx hb dX7_setImage_133 rfl (lv_at hl 5 rfl) ?_
            refine va_get (pc := 134) (D := D) (ci := 6) (v := .ref bd) (C := RX7) (T := TX7) (N := 5) hx hb hts hinX7 hown hK.1 hP 0 rfl rfl 0 (by decide) (hts (.fieldLink RX7 22 "BoxesGame$Symmetry" "board" "LBoxesGame$Board;") (List.mem_of_getElem? (i := 1) rfl)) (fun _ h9 => h9) rfl dX7_setImage_134 ?_
            refine lv_iload_n (pc := 137) hx hb dX7_setImage_137 rfl (lv_at hl 7 rfl) ?_
            refine lv_iload (pc := 138) hx hb dX7_setImage_138 (lv_at hl 1 rfl) ?_
            refine lv_iload (pc := 140) hx hb dX7_setImage_140 (lv_at hl 0 rfl) ?_
            refine ro_go (pc := 142) (va_runV (As := [.int (zb false), .int (nI ((c - 1) - x)), .int (nI y)]) (rest := []) ⟨hx, hb, hml, hown, hts⟩ (c_X0_numberOf l D Y bd bs bf bg c r sd fb gb false (nI ((c - 1) - x)) (nI y) (hC) (hB)) (cwV 3 hts gX7_setImage_X0_numberOf rfl rfl rfl ⟨rfl, hdX0_numberOf⟩ ⟨Nat.le_of_ble_eq_true rfl, Nat.le_of_ble_eq_true rfl⟩) (ro_pV hK (hP.sub [2, 3, 4, 5] rfl) (ro_recv hK hP (ci := 0) (q0 := 2) rfl rfl)) rfl rfl hl.1 rfl (lv_room (Nat.le_of_ble_eq_true rfl)) dX7_setImage_142 ⟨Nat.le_of_ble_eq_true rfl, Nat.le_of_ble_eq_true rfl⟩) ?_
            refine lv_topi (fun x142 ex142 => ?_)
            refine lv_istore (pc := 145) (lv' := [(10, .int x142), (9, .int (nI y)), (8, .int (nI ((c - 1) - x))), (7, .int (nI r)), (6, .int (nI (c - 1))), (5, .int (nI (numM c r false x y))), (0, .ref sy), (1, .int (nI s)), (2, .int (zb false)), (3, .int (nI x)), (4, .int (nI y))]) hx hb dX7_setImage_145 hl (by decide) rfl (fun ls hl => ?_)
            have hxim : x142 = nI (imL c r false x y s) := by have t0 : s.testBit 0 = true := (by cases q : s.testBit 0; exact absurd ((bit0 s hs8).mpr q) c73; rfl); have t1 : s.testBit 1 = false := ((bit1 s hs8).mp c89); have t2 : s.testBit 2 = false := ((bit2 s hs8).mp c107); rw [← im_num hC hs hxx hyy, ex142]; simp [imX, imY, t0, t1, t2]
            refine lv_aload_n (pc := 147) hx hb dX7_setImage_147 rfl (lv_at hl 6 rfl) ?_
            refine va_get (pc := 148) (D := D) (ci := 6) (v := .ref si) (C := RX7) (T := TX7) (N := 5) hx hb hts hinX7 hown hK.1 hP 0 rfl rfl 1 (by decide) (hts (.fieldLink RX7 9 "BoxesGame$Symmetry" "images" "[I") (List.mem_of_getElem? (i := 4) rfl)) (fun _ h9 => h9) rfl dX7_setImage_148 ?_
            refine lv_iload_n (pc := 151) hx hb dX7_setImage_151 rfl (lv_at hl 7 rfl) ?_
            refine lv_bipush (pc := 152) (v := nI 40) hx hb dX7_setImage_152 rfl ?_
            refine n_imul (pc := 154) hx hb dX7_setImage_154 ?_
            refine lv_iload (pc := 155) hx hb dX7_setImage_155 (lv_at hl 5 rfl) ?_
            refine n_iadd (pc := 157) hx hb dX7_setImage_157 ?_
            refine lv_iload (pc := 158) hx hb dX7_setImage_158 (lv_at hl 0 rfl) ?_
            refine mu_go (pc := 160) (va_runS (As := [.ref si, .int (nI ((s * 40) + (numM c r false x y))), .int x142]) (rest := []) ⟨hx, hb, hml, hown, hts⟩ (c_X3_put_in l D Y 320 im si ((s * 40) + (numM c r false x y)) x142 (by decide) (by first | assumption | omega)) (va_cwS 3 hts gX7_setImage_X3_put rfl rfl rfl hdX3_put ⟨Nat.le_of_ble_eq_true rfl, Nat.le_of_ble_eq_true rfl⟩) (mu_pS hK (hP.sub [1] rfl) (hD.sub [1] (by decide) rfl)) rfl rfl hl.1 rfl (lv_room (Nat.le_of_ble_eq_true rfl)) dX7_setImage_160 ⟨Nat.le_of_ble_eq_true rfl, Nat.le_of_ble_eq_true rfl⟩) hP hD hS [1] rfl (by decide) (fun _ => [(sy, .inr (6, [.ref bd, .ref si, .ref sc, .ref sf, .int (nI (manyM c r))])), (si, .inl (Y.1, 320, .inl (upd im ((s * 40) + (numM c r false x y)) x142))), (bd, .inr (0, [.int (nI c), .int (nI r), .int (nI (al c r)), .int (nI (c * r)), .ref bs, .ref bf, .ref bg])), (bs, .inl (Y.2.1, 16, .inr (.inl sd))), (bf, .inl (Y.1, 40, .inl fb)), (bg, .inl (Y.1, 40, .inl gb))]) (fun _ => rfl) (fun _ => rfl) (fun uS H locs hpost hP hD hS => ?_)
            have hP : va_P D vwCl [(sy, .inr (6, [.ref bd, .ref si, .ref sc, .ref sf, .int (nI (manyM c r))])), (si, .inl (Y.1, 320, .inl (upd im ((s * 40) + (numM c r false x y)) x142))), (bd, .inr (0, [.int (nI c), .int (nI r), .int (nI (al c r)), .int (nI (c * r)), .ref bs, .ref bf, .ref bg])), (bs, .inl (Y.2.1, 16, .inr (.inl sd))), (bf, .inl (Y.1, 40, .inl fb)), (bg, .inl (Y.1, 40, .inl gb))] H := hP
            have hD : va_D AA [(sy, .inr (6, [.ref bd, .ref si, .ref sc, .ref sf, .int (nI (manyM c r))])), (si, .inl (Y.1, 320, .inl (upd im ((s * 40) + (numM c r false x y)) x142))), (bd, .inr (0, [.int (nI c), .int (nI r), .int (nI (al c r)), .int (nI (c * r)), .ref bs, .ref bf, .ref bg])), (bs, .inl (Y.2.1, 16, .inr (.inl sd))), (bf, .inl (Y.1, 40, .inl fb)), (bg, .inl (Y.1, 40, .inl gb))] := hD
            subst hAA
            exact mu_vret hx hb hr hlocks hP hS (()) (rfl) (trivial) (by rw [if_pos ⟨hxx, hyy⟩, hxim]) dX7_setImage_163
          refine lv_aload_n (pc := 110) hx hb dX7_setImage_110 rfl (lv_at hl 5 rfl) ?_
          refine va_get (pc := 111) (D := D) (ci := 6) (v := .ref bd) (C := RX7) (T := TX7) (N := 5) hx hb hts hinX7 hown hK.1 hP 0 rfl rfl 0 (by decide) (hts (.fieldLink RX7 22 "BoxesGame$Symmetry" "board" "LBoxesGame$Board;") (List.mem_of_getElem? (i := 1) rfl)) (fun _ h9 => h9) rfl dX7_setImage_111 ?_
          refine lv_iload_n (pc := 114) hx hb dX7_setImage_114 rfl (lv_at hl 7 rfl) ?_
          refine z_if_ne (pc := 115) (tgt := 122) hx hb dX7_setImage_115 (by decide) (fun c115 => ?_) (fun c115 => ?_)
          · exact absurd c115 (by decide)
          refine lv_iconst (pc := 118) (v := nI 1) hx hb dX7_setImage_118 rfl ?_
          refine lv_goto (pc := 119) (tgt := 123) hx hb dX7_setImage_119 (by decide) ?_
          refine lv_iload (pc := 123) hx hb dX7_setImage_123 (lv_at hl 0 rfl) ?_
          refine lv_iload (pc := 125) hx hb dX7_setImage_125 (lv_at hl 1 rfl) ?_
          refine ro_go (pc := 127) (va_runV (As := [.int (nI 1), .int (nI y), .int (nI ((c - 1) - x))]) (rest := []) ⟨hx, hb, hml, hown, hts⟩ (c_X0_numberOf l D Y bd bs bf bg c r sd fb gb true (nI y) (nI ((c - 1) - x)) (hC) (hB)) (cwV 3 hts gX7_setImage_X0_numberOf rfl rfl rfl ⟨rfl, hdX0_numberOf⟩ ⟨Nat.le_of_ble_eq_true rfl, Nat.le_of_ble_eq_true rfl⟩) (ro_pV hK (hP.sub [2, 3, 4, 5] rfl) (ro_recv hK hP (ci := 0) (q0 := 2) rfl rfl)) rfl rfl hl.1 rfl (lv_room (Nat.le_of_ble_eq_true rfl)) dX7_setImage_127 ⟨Nat.le_of_ble_eq_true rfl, Nat.le_of_ble_eq_true rfl⟩) ?_
          refine lv_topi (fun x127 ex127 => ?_)
          refine lv_goto (pc := 130) (tgt := 145) hx hb dX7_setImage_130 (by decide) ?_
          refine lv_istore (pc := 145) (lv' := [(10, .int x127), (9, .int (nI y)), (8, .int (nI ((c - 1) - x))), (7, .int (nI r)), (6, .int (nI (c - 1))), (5, .int (nI (numM c r false x y))), (0, .ref sy), (1, .int (nI s)), (2, .int (zb false)), (3, .int (nI x)), (4, .int (nI y))]) hx hb dX7_setImage_145 hl (by decide) rfl (fun ls hl => ?_)
          have hxim : x127 = nI (imL c r false x y s) := by have t0 : s.testBit 0 = true := (by cases q : s.testBit 0; exact absurd ((bit0 s hs8).mpr q) c73; rfl); have t1 : s.testBit 1 = false := ((bit1 s hs8).mp c89); have t2 : s.testBit 2 = true := (by cases q : s.testBit 2; exact absurd ((bit2 s hs8).mpr q) c107; rfl); rw [← im_num hC hs hxx hyy, ex127]; simp [imX, imY, t0, t1, t2]
          refine lv_aload_n (pc := 147) hx hb dX7_setImage_147 rfl (lv_at hl 6 rfl) ?_
          refine va_get (pc := 148) (D := D) (ci := 6) (v := .ref si) (C := RX7) (T := TX7) (N := 5) hx hb hts hinX7 hown hK.1 hP 0 rfl rfl 1 (by decide) (hts (.fieldLink RX7 9 "BoxesGame$Symmetry" "images" "[I") (List.mem_of_getElem? (i := 4) rfl)) (fun _ h9 => h9) rfl dX7_setImage_148 ?_
          refine lv_iload_n (pc := 151) hx hb dX7_setImage_151 rfl (lv_at hl 7 rfl) ?_
          refine lv_bipush (pc := 152) (v := nI 40) hx hb dX7_setImage_152 rfl ?_
          refine n_imul (pc := 154) hx hb dX7_setImage_154 ?_
          refine lv_iload (pc := 155) hx hb dX7_setImage_155 (lv_at hl 5 rfl) ?_
          refine n_iadd (pc := 157) hx hb dX7_setImage_157 ?_
          refine lv_iload (pc := 158) hx hb dX7_setImage_158 (lv_at hl 0 rfl) ?_
          refine mu_go (pc := 160) (va_runS (As := [.ref si, .int (nI ((s * 40) + (numM c r false x y))), .int x127]) (rest := []) ⟨hx, hb, hml, hown, hts⟩ (c_X3_put_in l D Y 320 im si ((s * 40) + (numM c r false x y)) x127 (by decide) (by first | assumption | omega)) (va_cwS 3 hts gX7_setImage_X3_put rfl rfl rfl hdX3_put ⟨Nat.le_of_ble_eq_true rfl, Nat.le_of_ble_eq_true rfl⟩) (mu_pS hK (hP.sub [1] rfl) (hD.sub [1] (by decide) rfl)) rfl rfl hl.1 rfl (lv_room (Nat.le_of_ble_eq_true rfl)) dX7_setImage_160 ⟨Nat.le_of_ble_eq_true rfl, Nat.le_of_ble_eq_true rfl⟩) hP hD hS [1] rfl (by decide) (fun _ => [(sy, .inr (6, [.ref bd, .ref si, .ref sc, .ref sf, .int (nI (manyM c r))])), (si, .inl (Y.1, 320, .inl (upd im ((s * 40) + (numM c r false x y)) x127))), (bd, .inr (0, [.int (nI c), .int (nI r), .int (nI (al c r)), .int (nI (c * r)), .ref bs, .ref bf, .ref bg])), (bs, .inl (Y.2.1, 16, .inr (.inl sd))), (bf, .inl (Y.1, 40, .inl fb)), (bg, .inl (Y.1, 40, .inl gb))]) (fun _ => rfl) (fun _ => rfl) (fun uS H locs hpost hP hD hS => ?_)
          have hP : va_P D vwCl [(sy, .inr (6, [.ref bd, .ref si, .ref sc, .ref sf, .int (nI (manyM c r))])), (si, .inl (Y.1, 320, .inl (upd im ((s * 40) + (numM c r false x y)) x127))), (bd, .inr (0, [.int (nI c), .int (nI r), .int (nI (al c r)), .int (nI (c * r)), .ref bs, .ref bf, .ref bg])), (bs, .inl (Y.2.1, 16, .inr (.inl sd))), (bf, .inl (Y.1, 40, .inl fb)), (bg, .inl (Y.1, 40, .inl gb))] H := hP
          have hD : va_D AA [(sy, .inr (6, [.ref bd, .ref si, .ref sc, .ref sf, .int (nI (manyM c r))])), (si, .inl (Y.1, 320, .inl (upd im ((s * 40) + (numM c r false x y)) x127))), (bd, .inr (0, [.int (nI c), .int (nI r), .int (nI (al c r)), .int (nI (c * r)), .ref bs, .ref bf, .ref bg])), (bs, .inl (Y.2.1, 16, .inr (.inl sd))), (bf, .inl (Y.1, 40, .inl fb)), (bg, .inl (Y.1, 40, .inl gb))] := hD
          subst hAA
          exact mu_vret hx hb hr hlocks hP hS (()) (rfl) (trivial) (by rw [if_pos ⟨hxx, hyy⟩, hxim]) dX7_setImage_163
        refine lv_iload (pc := 92) hx hb dX7_setImage_92 (lv_at hl 1 rfl) ?_
        refine lv_iload (pc := 94) hx hb dX7_setImage_94 (lv_at hl 8 rfl) ?_
        refine n_isub (pc := 96) hx hb (by simp only [Bool.false_eq_true, if_false, if_true] at hyy; omega) dX7_setImage_96 ?_
        refine lv_goto (pc := 97) (tgt := 102) hx hb dX7_setImage_97 (by decide) ?_
        refine lv_istore (pc := 102) (lv' := [(9, .int (nI (r - y))), (8, .int (nI ((c - 1) - x))), (7, .int (nI r)), (6, .int (nI (c - 1))), (5, .int (nI (numM c r false x y))), (0, .ref sy), (1, .int (nI s)), (2, .int (zb false)), (3, .int (nI x)), (4, .int (nI y))]) hx hb dX7_setImage_102 hl (by decide) rfl (fun ls hl => ?_)
        refine lv_iload_n (pc := 104) hx hb dX7_setImage_104 rfl (lv_at hl 6 rfl) ?_
        refine lv_iconst (pc := 105) (v := nI 4) hx hb dX7_setImage_105 rfl ?_
        refine lv_iand (pc := 106) hx hb dX7_setImage_106 ?_
        refine lv_if_eq (pc := 107) (tgt := 133) hx hb dX7_setImage_107 (by decide) (fun c107 => ?_) (fun c107 => ?_)
        · refine lv_aload_n (pc := 133) hx hb dX7_setImage_133 rfl (lv_at hl 5 rfl) ?_
          refine va_get (pc := 134) (D := D) (ci := 6) (v := .ref bd) (C := RX7) (T := TX7) (N := 5) hx hb hts hinX7 hown hK.1 hP 0 rfl rfl 0 (by decide) (hts (.fieldLink RX7 22 "BoxesGame$Symmetry" "board" "LBoxesGame$Board;") (List.mem_of_getElem? (i := 1) rfl)) (fun _ h9 => h9) rfl dX7_setImage_134 ?_
          refine lv_iload_n (pc := 137) hx hb dX7_setImage_137 rfl (lv_at hl 7 rfl) ?_
          refine lv_iload (pc := 138) hx hb dX7_setImage_138 (lv_at hl 1 rfl) ?_
          refine lv_iload (pc := 140) hx hb dX7_setImage_140 (lv_at hl 0 rfl) ?_
          refine ro_go (pc := 142) (va_runV (As := [.int (zb false), .int (nI ((c - 1) - x)), .int (nI (r - y))]) (rest := []) ⟨hx, hb, hml, hown, hts⟩ (c_X0_numberOf l D Y bd bs bf bg c r sd fb gb false (nI ((c - 1) - x)) (nI (r - y)) (hC) (hB)) (cwV 3 hts gX7_setImage_X0_numberOf rfl rfl rfl ⟨rfl, hdX0_numberOf⟩ ⟨Nat.le_of_ble_eq_true rfl, Nat.le_of_ble_eq_true rfl⟩) (ro_pV hK (hP.sub [2, 3, 4, 5] rfl) (ro_recv hK hP (ci := 0) (q0 := 2) rfl rfl)) rfl rfl hl.1 rfl (lv_room (Nat.le_of_ble_eq_true rfl)) dX7_setImage_142 ⟨Nat.le_of_ble_eq_true rfl, Nat.le_of_ble_eq_true rfl⟩) ?_
          refine lv_topi (fun x142 ex142 => ?_)
          refine lv_istore (pc := 145) (lv' := [(10, .int x142), (9, .int (nI (r - y))), (8, .int (nI ((c - 1) - x))), (7, .int (nI r)), (6, .int (nI (c - 1))), (5, .int (nI (numM c r false x y))), (0, .ref sy), (1, .int (nI s)), (2, .int (zb false)), (3, .int (nI x)), (4, .int (nI y))]) hx hb dX7_setImage_145 hl (by decide) rfl (fun ls hl => ?_)
          have hxim : x142 = nI (imL c r false x y s) := by have t0 : s.testBit 0 = true := (by cases q : s.testBit 0; exact absurd ((bit0 s hs8).mpr q) c73; rfl); have t1 : s.testBit 1 = true := (by cases q : s.testBit 1; exact absurd ((bit1 s hs8).mpr q) c89; rfl); have t2 : s.testBit 2 = false := ((bit2 s hs8).mp c107); rw [← im_num hC hs hxx hyy, ex142]; simp [imX, imY, t0, t1, t2]
          refine lv_aload_n (pc := 147) hx hb dX7_setImage_147 rfl (lv_at hl 6 rfl) ?_
          refine va_get (pc := 148) (D := D) (ci := 6) (v := .ref si) (C := RX7) (T := TX7) (N := 5) hx hb hts hinX7 hown hK.1 hP 0 rfl rfl 1 (by decide) (hts (.fieldLink RX7 9 "BoxesGame$Symmetry" "images" "[I") (List.mem_of_getElem? (i := 4) rfl)) (fun _ h9 => h9) rfl dX7_setImage_148 ?_
          refine lv_iload_n (pc := 151) hx hb dX7_setImage_151 rfl (lv_at hl 7 rfl) ?_
          refine lv_bipush (pc := 152) (v := nI 40) hx hb dX7_setImage_152 rfl ?_
          refine n_imul (pc := 154) hx hb dX7_setImage_154 ?_
          refine lv_iload (pc := 155) hx hb dX7_setImage_155 (lv_at hl 5 rfl) ?_
          refine n_iadd (pc := 157) hx hb dX7_setImage_157 ?_
          refine lv_iload (pc := 158) hx hb dX7_setImage_158 (lv_at hl 0 rfl) ?_
          refine mu_go (pc := 160) (va_runS (As := [.ref si, .int (nI ((s * 40) + (numM c r false x y))), .int x142]) (rest := []) ⟨hx, hb, hml, hown, hts⟩ (c_X3_put_in l D Y 320 im si ((s * 40) + (numM c r false x y)) x142 (by decide) (by first | assumption | omega)) (va_cwS 3 hts gX7_setImage_X3_put rfl rfl rfl hdX3_put ⟨Nat.le_of_ble_eq_true rfl, Nat.le_of_ble_eq_true rfl⟩) (mu_pS hK (hP.sub [1] rfl) (hD.sub [1] (by decide) rfl)) rfl rfl hl.1 rfl (lv_room (Nat.le_of_ble_eq_true rfl)) dX7_setImage_160 ⟨Nat.le_of_ble_eq_true rfl, Nat.le_of_ble_eq_true rfl⟩) hP hD hS [1] rfl (by decide) (fun _ => [(sy, .inr (6, [.ref bd, .ref si, .ref sc, .ref sf, .int (nI (manyM c r))])), (si, .inl (Y.1, 320, .inl (upd im ((s * 40) + (numM c r false x y)) x142))), (bd, .inr (0, [.int (nI c), .int (nI r), .int (nI (al c r)), .int (nI (c * r)), .ref bs, .ref bf, .ref bg])), (bs, .inl (Y.2.1, 16, .inr (.inl sd))), (bf, .inl (Y.1, 40, .inl fb)), (bg, .inl (Y.1, 40, .inl gb))]) (fun _ => rfl) (fun _ => rfl) (fun uS H locs hpost hP hD hS => ?_)
          have hP : va_P D vwCl [(sy, .inr (6, [.ref bd, .ref si, .ref sc, .ref sf, .int (nI (manyM c r))])), (si, .inl (Y.1, 320, .inl (upd im ((s * 40) + (numM c r false x y)) x142))), (bd, .inr (0, [.int (nI c), .int (nI r), .int (nI (al c r)), .int (nI (c * r)), .ref bs, .ref bf, .ref bg])), (bs, .inl (Y.2.1, 16, .inr (.inl sd))), (bf, .inl (Y.1, 40, .inl fb)), (bg, .inl (Y.1, 40, .inl gb))] H := hP
          have hD : va_D AA [(sy, .inr (6, [.ref bd, .ref si, .ref sc, .ref sf, .int (nI (manyM c r))])), (si, .inl (Y.1, 320, .inl (upd im ((s * 40) + (numM c r false x y)) x142))), (bd, .inr (0, [.int (nI c), .int (nI r), .int (nI (al c r)), .int (nI (c * r)), .ref bs, .ref bf, .ref bg])), (bs, .inl (Y.2.1, 16, .inr (.inl sd))), (bf, .inl (Y.1, 40, .inl fb)), (bg, .inl (Y.1, 40, .inl gb))] := hD
          subst hAA
          exact mu_vret hx hb hr hlocks hP hS (()) (rfl) (trivial) (by rw [if_pos ⟨hxx, hyy⟩, hxim]) dX7_setImage_163
        refine lv_aload_n (pc := 110) hx hb dX7_setImage_110 rfl (lv_at hl 5 rfl) ?_
        refine va_get (pc := 111) (D := D) (ci := 6) (v := .ref bd) (C := RX7) (T := TX7) (N := 5) hx hb hts hinX7 hown hK.1 hP 0 rfl rfl 0 (by decide) (hts (.fieldLink RX7 22 "BoxesGame$Symmetry" "board" "LBoxesGame$Board;") (List.mem_of_getElem? (i := 1) rfl)) (fun _ h9 => h9) rfl dX7_setImage_111 ?_
        refine lv_iload_n (pc := 114) hx hb dX7_setImage_114 rfl (lv_at hl 7 rfl) ?_
        refine z_if_ne (pc := 115) (tgt := 122) hx hb dX7_setImage_115 (by decide) (fun c115 => ?_) (fun c115 => ?_)
        · exact absurd c115 (by decide)
        refine lv_iconst (pc := 118) (v := nI 1) hx hb dX7_setImage_118 rfl ?_
        refine lv_goto (pc := 119) (tgt := 123) hx hb dX7_setImage_119 (by decide) ?_
        refine lv_iload (pc := 123) hx hb dX7_setImage_123 (lv_at hl 0 rfl) ?_
        refine lv_iload (pc := 125) hx hb dX7_setImage_125 (lv_at hl 1 rfl) ?_
        refine ro_go (pc := 127) (va_runV (As := [.int (nI 1), .int (nI (r - y)), .int (nI ((c - 1) - x))]) (rest := []) ⟨hx, hb, hml, hown, hts⟩ (c_X0_numberOf l D Y bd bs bf bg c r sd fb gb true (nI (r - y)) (nI ((c - 1) - x)) (hC) (hB)) (cwV 3 hts gX7_setImage_X0_numberOf rfl rfl rfl ⟨rfl, hdX0_numberOf⟩ ⟨Nat.le_of_ble_eq_true rfl, Nat.le_of_ble_eq_true rfl⟩) (ro_pV hK (hP.sub [2, 3, 4, 5] rfl) (ro_recv hK hP (ci := 0) (q0 := 2) rfl rfl)) rfl rfl hl.1 rfl (lv_room (Nat.le_of_ble_eq_true rfl)) dX7_setImage_127 ⟨Nat.le_of_ble_eq_true rfl, Nat.le_of_ble_eq_true rfl⟩) ?_
        refine lv_topi (fun x127 ex127 => ?_)
        refine lv_goto (pc := 130) (tgt := 145) hx hb dX7_setImage_130 (by decide) ?_
        refine lv_istore (pc := 145) (lv' := [(10, .int x127), (9, .int (nI (r - y))), (8, .int (nI ((c - 1) - x))), (7, .int (nI r)), (6, .int (nI (c - 1))), (5, .int (nI (numM c r false x y))), (0, .ref sy), (1, .int (nI s)), (2, .int (zb false)), (3, .int (nI x)), (4, .int (nI y))]) hx hb dX7_setImage_145 hl (by decide) rfl (fun ls hl => ?_)
        have hxim : x127 = nI (imL c r false x y s) := by have t0 : s.testBit 0 = true := (by cases q : s.testBit 0; exact absurd ((bit0 s hs8).mpr q) c73; rfl); have t1 : s.testBit 1 = true := (by cases q : s.testBit 1; exact absurd ((bit1 s hs8).mpr q) c89; rfl); have t2 : s.testBit 2 = true := (by cases q : s.testBit 2; exact absurd ((bit2 s hs8).mpr q) c107; rfl); rw [← im_num hC hs hxx hyy, ex127]; simp [imX, imY, t0, t1, t2]
        refine lv_aload_n (pc := 147) hx hb dX7_setImage_147 rfl (lv_at hl 6 rfl) ?_
        refine va_get (pc := 148) (D := D) (ci := 6) (v := .ref si) (C := RX7) (T := TX7) (N := 5) hx hb hts hinX7 hown hK.1 hP 0 rfl rfl 1 (by decide) (hts (.fieldLink RX7 9 "BoxesGame$Symmetry" "images" "[I") (List.mem_of_getElem? (i := 4) rfl)) (fun _ h9 => h9) rfl dX7_setImage_148 ?_
        refine lv_iload_n (pc := 151) hx hb dX7_setImage_151 rfl (lv_at hl 7 rfl) ?_
        refine lv_bipush (pc := 152) (v := nI 40) hx hb dX7_setImage_152 rfl ?_
        refine n_imul (pc := 154) hx hb dX7_setImage_154 ?_
        refine lv_iload (pc := 155) hx hb dX7_setImage_155 (lv_at hl 5 rfl) ?_
        refine n_iadd (pc := 157) hx hb dX7_setImage_157 ?_
        refine lv_iload (pc := 158) hx hb dX7_setImage_158 (lv_at hl 0 rfl) ?_
        refine mu_go (pc := 160) (va_runS (As := [.ref si, .int (nI ((s * 40) + (numM c r false x y))), .int x127]) (rest := []) ⟨hx, hb, hml, hown, hts⟩ (c_X3_put_in l D Y 320 im si ((s * 40) + (numM c r false x y)) x127 (by decide) (by first | assumption | omega)) (va_cwS 3 hts gX7_setImage_X3_put rfl rfl rfl hdX3_put ⟨Nat.le_of_ble_eq_true rfl, Nat.le_of_ble_eq_true rfl⟩) (mu_pS hK (hP.sub [1] rfl) (hD.sub [1] (by decide) rfl)) rfl rfl hl.1 rfl (lv_room (Nat.le_of_ble_eq_true rfl)) dX7_setImage_160 ⟨Nat.le_of_ble_eq_true rfl, Nat.le_of_ble_eq_true rfl⟩) hP hD hS [1] rfl (by decide) (fun _ => [(sy, .inr (6, [.ref bd, .ref si, .ref sc, .ref sf, .int (nI (manyM c r))])), (si, .inl (Y.1, 320, .inl (upd im ((s * 40) + (numM c r false x y)) x127))), (bd, .inr (0, [.int (nI c), .int (nI r), .int (nI (al c r)), .int (nI (c * r)), .ref bs, .ref bf, .ref bg])), (bs, .inl (Y.2.1, 16, .inr (.inl sd))), (bf, .inl (Y.1, 40, .inl fb)), (bg, .inl (Y.1, 40, .inl gb))]) (fun _ => rfl) (fun _ => rfl) (fun uS H locs hpost hP hD hS => ?_)
        have hP : va_P D vwCl [(sy, .inr (6, [.ref bd, .ref si, .ref sc, .ref sf, .int (nI (manyM c r))])), (si, .inl (Y.1, 320, .inl (upd im ((s * 40) + (numM c r false x y)) x127))), (bd, .inr (0, [.int (nI c), .int (nI r), .int (nI (al c r)), .int (nI (c * r)), .ref bs, .ref bf, .ref bg])), (bs, .inl (Y.2.1, 16, .inr (.inl sd))), (bf, .inl (Y.1, 40, .inl fb)), (bg, .inl (Y.1, 40, .inl gb))] H := hP
        have hD : va_D AA [(sy, .inr (6, [.ref bd, .ref si, .ref sc, .ref sf, .int (nI (manyM c r))])), (si, .inl (Y.1, 320, .inl (upd im ((s * 40) + (numM c r false x y)) x127))), (bd, .inr (0, [.int (nI c), .int (nI r), .int (nI (al c r)), .int (nI (c * r)), .ref bs, .ref bf, .ref bg])), (bs, .inl (Y.2.1, 16, .inr (.inl sd))), (bf, .inl (Y.1, 40, .inl fb)), (bg, .inl (Y.1, 40, .inl gb))] := hD
        subst hAA
        exact mu_vret hx hb hr hlocks hP hS (()) (rfl) (trivial) (by rw [if_pos ⟨hxx, hyy⟩, hxim]) dX7_setImage_163
      · exact absurd c46 (by decide)
    subst c21
    refine lv_aload_n (pc := 24) hx hb dX7_setImage_24 rfl (lv_at hl 1 rfl) ?_
    refine va_get (pc := 25) (D := D) (ci := 6) (v := .ref bd) (C := RX7) (T := TX7) (N := 5) hx hb hts hinX7 hown hK.1 hP 0 rfl rfl 0 (by decide) (hts (.fieldLink RX7 22 "BoxesGame$Symmetry" "board" "LBoxesGame$Board;") (List.mem_of_getElem? (i := 1) rfl)) (fun _ h9 => h9) rfl dX7_setImage_25 ?_
    refine va_get (pc := 28) (D := D) (ci := 0) (v := .int (nI c)) (C := RX0) (T := TX0) (N := 7) hx hb hts hinX0 hown hK.1 hP 2 rfl rfl 0 (by decide) (hts (.fieldLink RX7 26 "BoxesGame$Board" "columns" "I") (List.mem_of_getElem? (i := 2) rfl)) (fun _ h9 => h9) rfl dX7_setImage_28 ?_
    refine lv_goto (pc := 31) (tgt := 43) hx hb dX7_setImage_31 (by decide) ?_
    refine lv_istore (pc := 43) (lv' := [(6, .int (nI c)), (5, .int (nI (numM c r true x y))), (0, .ref sy), (1, .int (nI s)), (2, .int (zb true)), (3, .int (nI x)), (4, .int (nI y))]) hx hb dX7_setImage_43 hl (by decide) rfl (fun ls hl => ?_)
    refine lv_iload_n (pc := 45) hx hb dX7_setImage_45 rfl (lv_at hl 4 rfl) ?_
    refine z_if_eq (pc := 46) (tgt := 61) hx hb dX7_setImage_46 (by decide) (fun c46 => ?_) (fun c46 => ?_)
    · exact absurd c46 (by decide)
    refine lv_aload_n (pc := 49) hx hb dX7_setImage_49 rfl (lv_at hl 2 rfl) ?_
    refine va_get (pc := 50) (D := D) (ci := 6) (v := .ref bd) (C := RX7) (T := TX7) (N := 5) hx hb hts hinX7 hown hK.1 hP 0 rfl rfl 0 (by decide) (hts (.fieldLink RX7 22 "BoxesGame$Symmetry" "board" "LBoxesGame$Board;") (List.mem_of_getElem? (i := 1) rfl)) (fun _ h9 => h9) rfl dX7_setImage_50 ?_
    refine va_get (pc := 53) (D := D) (ci := 0) (v := .int (nI r)) (C := RX0) (T := TX0) (N := 7) hx hb hts hinX0 hown hK.1 hP 2 rfl rfl 1 (by decide) (hts (.fieldLink RX7 32 "BoxesGame$Board" "rows" "I") (List.mem_of_getElem? (i := 3) rfl)) (fun _ h9 => h9) rfl dX7_setImage_53 ?_
    refine lv_iconst (pc := 56) (v := nI 1) hx hb dX7_setImage_56 rfl ?_
    refine n_isub (pc := 57) hx hb (by omega) dX7_setImage_57 ?_
    refine lv_goto (pc := 58) (tgt := 68) hx hb dX7_setImage_58 (by decide) ?_
    refine lv_istore (pc := 68) (lv' := [(7, .int (nI (r - 1))), (6, .int (nI c)), (5, .int (nI (numM c r true x y))), (0, .ref sy), (1, .int (nI s)), (2, .int (zb true)), (3, .int (nI x)), (4, .int (nI y))]) hx hb dX7_setImage_68 hl (by decide) rfl (fun ls hl => ?_)
    refine lv_iload_n (pc := 70) hx hb dX7_setImage_70 rfl (lv_at hl 4 rfl) ?_
    refine lv_iconst (pc := 71) (v := nI 1) hx hb dX7_setImage_71 rfl ?_
    refine lv_iand (pc := 72) hx hb dX7_setImage_72 ?_
    refine lv_if_eq (pc := 73) (tgt := 83) hx hb dX7_setImage_73 (by decide) (fun c73 => ?_) (fun c73 => ?_)
    · refine lv_iload_n (pc := 83) hx hb dX7_setImage_83 rfl (lv_at hl 6 rfl) ?_
      refine lv_istore (pc := 84) (lv' := [(8, .int (nI x)), (7, .int (nI (r - 1))), (6, .int (nI c)), (5, .int (nI (numM c r true x y))), (0, .ref sy), (1, .int (nI s)), (2, .int (zb true)), (3, .int (nI x)), (4, .int (nI y))]) hx hb dX7_setImage_84 hl (by decide) rfl (fun ls hl => ?_)
      refine lv_iload_n (pc := 86) hx hb dX7_setImage_86 rfl (lv_at hl 5 rfl) ?_
      refine lv_iconst (pc := 87) (v := nI 2) hx hb dX7_setImage_87 rfl ?_
      refine lv_iand (pc := 88) hx hb dX7_setImage_88 ?_
      refine lv_if_eq (pc := 89) (tgt := 100) hx hb dX7_setImage_89 (by decide) (fun c89 => ?_) (fun c89 => ?_)
      · refine lv_iload (pc := 100) hx hb dX7_setImage_100 (lv_at hl 8 rfl) ?_
        refine lv_istore (pc := 102) (lv' := [(9, .int (nI y)), (8, .int (nI x)), (7, .int (nI (r - 1))), (6, .int (nI c)), (5, .int (nI (numM c r true x y))), (0, .ref sy), (1, .int (nI s)), (2, .int (zb true)), (3, .int (nI x)), (4, .int (nI y))]) hx hb dX7_setImage_102 hl (by decide) rfl (fun ls hl => ?_)
        refine lv_iload_n (pc := 104) hx hb dX7_setImage_104 rfl (lv_at hl 6 rfl) ?_
        refine lv_iconst (pc := 105) (v := nI 4) hx hb dX7_setImage_105 rfl ?_
        refine lv_iand (pc := 106) hx hb dX7_setImage_106 ?_
        refine lv_if_eq (pc := 107) (tgt := 133) hx hb dX7_setImage_107 (by decide) (fun c107 => ?_) (fun c107 => ?_)
        · refine lv_aload_n (pc := 133) hx hb dX7_setImage_133 rfl (lv_at hl 5 rfl) ?_
          refine va_get (pc := 134) (D := D) (ci := 6) (v := .ref bd) (C := RX7) (T := TX7) (N := 5) hx hb hts hinX7 hown hK.1 hP 0 rfl rfl 0 (by decide) (hts (.fieldLink RX7 22 "BoxesGame$Symmetry" "board" "LBoxesGame$Board;") (List.mem_of_getElem? (i := 1) rfl)) (fun _ h9 => h9) rfl dX7_setImage_134 ?_
          refine lv_iload_n (pc := 137) hx hb dX7_setImage_137 rfl (lv_at hl 7 rfl) ?_
          refine lv_iload (pc := 138) hx hb dX7_setImage_138 (lv_at hl 1 rfl) ?_
          refine lv_iload (pc := 140) hx hb dX7_setImage_140 (lv_at hl 0 rfl) ?_
          refine ro_go (pc := 142) (va_runV (As := [.int (zb true), .int (nI x), .int (nI y)]) (rest := []) ⟨hx, hb, hml, hown, hts⟩ (c_X0_numberOf l D Y bd bs bf bg c r sd fb gb true (nI x) (nI y) (hC) (hB)) (cwV 3 hts gX7_setImage_X0_numberOf rfl rfl rfl ⟨rfl, hdX0_numberOf⟩ ⟨Nat.le_of_ble_eq_true rfl, Nat.le_of_ble_eq_true rfl⟩) (ro_pV hK (hP.sub [2, 3, 4, 5] rfl) (ro_recv hK hP (ci := 0) (q0 := 2) rfl rfl)) rfl rfl hl.1 rfl (lv_room (Nat.le_of_ble_eq_true rfl)) dX7_setImage_142 ⟨Nat.le_of_ble_eq_true rfl, Nat.le_of_ble_eq_true rfl⟩) ?_
          refine lv_topi (fun x142 ex142 => ?_)
          refine lv_istore (pc := 145) (lv' := [(10, .int x142), (9, .int (nI y)), (8, .int (nI x)), (7, .int (nI (r - 1))), (6, .int (nI c)), (5, .int (nI (numM c r true x y))), (0, .ref sy), (1, .int (nI s)), (2, .int (zb true)), (3, .int (nI x)), (4, .int (nI y))]) hx hb dX7_setImage_145 hl (by decide) rfl (fun ls hl => ?_)
          have hxim : x142 = nI (imL c r true x y s) := by have t0 : s.testBit 0 = false := ((bit0 s hs8).mp c73); have t1 : s.testBit 1 = false := ((bit1 s hs8).mp c89); have t2 : s.testBit 2 = false := ((bit2 s hs8).mp c107); rw [← im_num hC hs hxx hyy, ex142]; simp [imX, imY, t0, t1, t2]
          refine lv_aload_n (pc := 147) hx hb dX7_setImage_147 rfl (lv_at hl 6 rfl) ?_
          refine va_get (pc := 148) (D := D) (ci := 6) (v := .ref si) (C := RX7) (T := TX7) (N := 5) hx hb hts hinX7 hown hK.1 hP 0 rfl rfl 1 (by decide) (hts (.fieldLink RX7 9 "BoxesGame$Symmetry" "images" "[I") (List.mem_of_getElem? (i := 4) rfl)) (fun _ h9 => h9) rfl dX7_setImage_148 ?_
          refine lv_iload_n (pc := 151) hx hb dX7_setImage_151 rfl (lv_at hl 7 rfl) ?_
          refine lv_bipush (pc := 152) (v := nI 40) hx hb dX7_setImage_152 rfl ?_
          refine n_imul (pc := 154) hx hb dX7_setImage_154 ?_
          refine lv_iload (pc := 155) hx hb dX7_setImage_155 (lv_at hl 5 rfl) ?_
          refine n_iadd (pc := 157) hx hb dX7_setImage_157 ?_
          refine lv_iload (pc := 158) hx hb dX7_setImage_158 (lv_at hl 0 rfl) ?_
          refine mu_go (pc := 160) (va_runS (As := [.ref si, .int (nI ((s * 40) + (numM c r true x y))), .int x142]) (rest := []) ⟨hx, hb, hml, hown, hts⟩ (c_X3_put_in l D Y 320 im si ((s * 40) + (numM c r true x y)) x142 (by decide) (by first | assumption | omega)) (va_cwS 3 hts gX7_setImage_X3_put rfl rfl rfl hdX3_put ⟨Nat.le_of_ble_eq_true rfl, Nat.le_of_ble_eq_true rfl⟩) (mu_pS hK (hP.sub [1] rfl) (hD.sub [1] (by decide) rfl)) rfl rfl hl.1 rfl (lv_room (Nat.le_of_ble_eq_true rfl)) dX7_setImage_160 ⟨Nat.le_of_ble_eq_true rfl, Nat.le_of_ble_eq_true rfl⟩) hP hD hS [1] rfl (by decide) (fun _ => [(sy, .inr (6, [.ref bd, .ref si, .ref sc, .ref sf, .int (nI (manyM c r))])), (si, .inl (Y.1, 320, .inl (upd im ((s * 40) + (numM c r true x y)) x142))), (bd, .inr (0, [.int (nI c), .int (nI r), .int (nI (al c r)), .int (nI (c * r)), .ref bs, .ref bf, .ref bg])), (bs, .inl (Y.2.1, 16, .inr (.inl sd))), (bf, .inl (Y.1, 40, .inl fb)), (bg, .inl (Y.1, 40, .inl gb))]) (fun _ => rfl) (fun _ => rfl) (fun uS H locs hpost hP hD hS => ?_)
          have hP : va_P D vwCl [(sy, .inr (6, [.ref bd, .ref si, .ref sc, .ref sf, .int (nI (manyM c r))])), (si, .inl (Y.1, 320, .inl (upd im ((s * 40) + (numM c r true x y)) x142))), (bd, .inr (0, [.int (nI c), .int (nI r), .int (nI (al c r)), .int (nI (c * r)), .ref bs, .ref bf, .ref bg])), (bs, .inl (Y.2.1, 16, .inr (.inl sd))), (bf, .inl (Y.1, 40, .inl fb)), (bg, .inl (Y.1, 40, .inl gb))] H := hP
          have hD : va_D AA [(sy, .inr (6, [.ref bd, .ref si, .ref sc, .ref sf, .int (nI (manyM c r))])), (si, .inl (Y.1, 320, .inl (upd im ((s * 40) + (numM c r true x y)) x142))), (bd, .inr (0, [.int (nI c), .int (nI r), .int (nI (al c r)), .int (nI (c * r)), .ref bs, .ref bf, .ref bg])), (bs, .inl (Y.2.1, 16, .inr (.inl sd))), (bf, .inl (Y.1, 40, .inl fb)), (bg, .inl (Y.1, 40, .inl gb))] := hD
          subst hAA
          exact mu_vret hx hb hr hlocks hP hS (()) (rfl) (trivial) (by rw [if_pos ⟨hxx, hyy⟩, hxim]) dX7_setImage_163
        refine lv_aload_n (pc := 110) hx hb dX7_setImage_110 rfl (lv_at hl 5 rfl) ?_
        refine va_get (pc := 111) (D := D) (ci := 6) (v := .ref bd) (C := RX7) (T := TX7) (N := 5) hx hb hts hinX7 hown hK.1 hP 0 rfl rfl 0 (by decide) (hts (.fieldLink RX7 22 "BoxesGame$Symmetry" "board" "LBoxesGame$Board;") (List.mem_of_getElem? (i := 1) rfl)) (fun _ h9 => h9) rfl dX7_setImage_111 ?_
        refine lv_iload_n (pc := 114) hx hb dX7_setImage_114 rfl (lv_at hl 7 rfl) ?_
        refine z_if_ne (pc := 115) (tgt := 122) hx hb dX7_setImage_115 (by decide) (fun c115 => ?_) (fun c115 => ?_)
        · refine lv_iconst (pc := 122) (v := nI 0) hx hb dX7_setImage_122 rfl ?_
          refine lv_iload (pc := 123) hx hb dX7_setImage_123 (lv_at hl 0 rfl) ?_
          refine lv_iload (pc := 125) hx hb dX7_setImage_125 (lv_at hl 1 rfl) ?_
          refine ro_go (pc := 127) (va_runV (As := [.int (nI 0), .int (nI y), .int (nI x)]) (rest := []) ⟨hx, hb, hml, hown, hts⟩ (c_X0_numberOf l D Y bd bs bf bg c r sd fb gb false (nI y) (nI x) (hC) (hB)) (cwV 3 hts gX7_setImage_X0_numberOf rfl rfl rfl ⟨rfl, hdX0_numberOf⟩ ⟨Nat.le_of_ble_eq_true rfl, Nat.le_of_ble_eq_true rfl⟩) (ro_pV hK (hP.sub [2, 3, 4, 5] rfl) (ro_recv hK hP (ci := 0) (q0 := 2) rfl rfl)) rfl rfl hl.1 rfl (lv_room (Nat.le_of_ble_eq_true rfl)) dX7_setImage_127 ⟨Nat.le_of_ble_eq_true rfl, Nat.le_of_ble_eq_true rfl⟩) ?_
          refine lv_topi (fun x127 ex127 => ?_)
          refine lv_goto (pc := 130) (tgt := 145) hx hb dX7_setImage_130 (by decide) ?_
          refine lv_istore (pc := 145) (lv' := [(10, .int x127), (9, .int (nI y)), (8, .int (nI x)), (7, .int (nI (r - 1))), (6, .int (nI c)), (5, .int (nI (numM c r true x y))), (0, .ref sy), (1, .int (nI s)), (2, .int (zb true)), (3, .int (nI x)), (4, .int (nI y))]) hx hb dX7_setImage_145 hl (by decide) rfl (fun ls hl => ?_)
          have hxim : x127 = nI (imL c r true x y s) := by have t0 : s.testBit 0 = false := ((bit0 s hs8).mp c73); have t1 : s.testBit 1 = false := ((bit1 s hs8).mp c89); have t2 : s.testBit 2 = true := (by cases q : s.testBit 2; exact absurd ((bit2 s hs8).mpr q) c107; rfl); rw [← im_num hC hs hxx hyy, ex127]; simp [imX, imY, t0, t1, t2]
          refine lv_aload_n (pc := 147) hx hb dX7_setImage_147 rfl (lv_at hl 6 rfl) ?_
          refine va_get (pc := 148) (D := D) (ci := 6) (v := .ref si) (C := RX7) (T := TX7) (N := 5) hx hb hts hinX7 hown hK.1 hP 0 rfl rfl 1 (by decide) (hts (.fieldLink RX7 9 "BoxesGame$Symmetry" "images" "[I") (List.mem_of_getElem? (i := 4) rfl)) (fun _ h9 => h9) rfl dX7_setImage_148 ?_
          refine lv_iload_n (pc := 151) hx hb dX7_setImage_151 rfl (lv_at hl 7 rfl) ?_
          refine lv_bipush (pc := 152) (v := nI 40) hx hb dX7_setImage_152 rfl ?_
          refine n_imul (pc := 154) hx hb dX7_setImage_154 ?_
          refine lv_iload (pc := 155) hx hb dX7_setImage_155 (lv_at hl 5 rfl) ?_
          refine n_iadd (pc := 157) hx hb dX7_setImage_157 ?_
          refine lv_iload (pc := 158) hx hb dX7_setImage_158 (lv_at hl 0 rfl) ?_
          refine mu_go (pc := 160) (va_runS (As := [.ref si, .int (nI ((s * 40) + (numM c r true x y))), .int x127]) (rest := []) ⟨hx, hb, hml, hown, hts⟩ (c_X3_put_in l D Y 320 im si ((s * 40) + (numM c r true x y)) x127 (by decide) (by first | assumption | omega)) (va_cwS 3 hts gX7_setImage_X3_put rfl rfl rfl hdX3_put ⟨Nat.le_of_ble_eq_true rfl, Nat.le_of_ble_eq_true rfl⟩) (mu_pS hK (hP.sub [1] rfl) (hD.sub [1] (by decide) rfl)) rfl rfl hl.1 rfl (lv_room (Nat.le_of_ble_eq_true rfl)) dX7_setImage_160 ⟨Nat.le_of_ble_eq_true rfl, Nat.le_of_ble_eq_true rfl⟩) hP hD hS [1] rfl (by decide) (fun _ => [(sy, .inr (6, [.ref bd, .ref si, .ref sc, .ref sf, .int (nI (manyM c r))])), (si, .inl (Y.1, 320, .inl (upd im ((s * 40) + (numM c r true x y)) x127))), (bd, .inr (0, [.int (nI c), .int (nI r), .int (nI (al c r)), .int (nI (c * r)), .ref bs, .ref bf, .ref bg])), (bs, .inl (Y.2.1, 16, .inr (.inl sd))), (bf, .inl (Y.1, 40, .inl fb)), (bg, .inl (Y.1, 40, .inl gb))]) (fun _ => rfl) (fun _ => rfl) (fun uS H locs hpost hP hD hS => ?_)
          have hP : va_P D vwCl [(sy, .inr (6, [.ref bd, .ref si, .ref sc, .ref sf, .int (nI (manyM c r))])), (si, .inl (Y.1, 320, .inl (upd im ((s * 40) + (numM c r true x y)) x127))), (bd, .inr (0, [.int (nI c), .int (nI r), .int (nI (al c r)), .int (nI (c * r)), .ref bs, .ref bf, .ref bg])), (bs, .inl (Y.2.1, 16, .inr (.inl sd))), (bf, .inl (Y.1, 40, .inl fb)), (bg, .inl (Y.1, 40, .inl gb))] H := hP
          have hD : va_D AA [(sy, .inr (6, [.ref bd, .ref si, .ref sc, .ref sf, .int (nI (manyM c r))])), (si, .inl (Y.1, 320, .inl (upd im ((s * 40) + (numM c r true x y)) x127))), (bd, .inr (0, [.int (nI c), .int (nI r), .int (nI (al c r)), .int (nI (c * r)), .ref bs, .ref bf, .ref bg])), (bs, .inl (Y.2.1, 16, .inr (.inl sd))), (bf, .inl (Y.1, 40, .inl fb)), (bg, .inl (Y.1, 40, .inl gb))] := hD
          subst hAA
          exact mu_vret hx hb hr hlocks hP hS (()) (rfl) (trivial) (by rw [if_pos ⟨hxx, hyy⟩, hxim]) dX7_setImage_163
        · exact absurd c115 (by decide)
      refine lv_iload (pc := 92) hx hb dX7_setImage_92 (lv_at hl 1 rfl) ?_
      refine lv_iload (pc := 94) hx hb dX7_setImage_94 (lv_at hl 8 rfl) ?_
      refine n_isub (pc := 96) hx hb (by simp only [Bool.false_eq_true, if_false, if_true] at hyy; omega) dX7_setImage_96 ?_
      refine lv_goto (pc := 97) (tgt := 102) hx hb dX7_setImage_97 (by decide) ?_
      refine lv_istore (pc := 102) (lv' := [(9, .int (nI ((r - 1) - y))), (8, .int (nI x)), (7, .int (nI (r - 1))), (6, .int (nI c)), (5, .int (nI (numM c r true x y))), (0, .ref sy), (1, .int (nI s)), (2, .int (zb true)), (3, .int (nI x)), (4, .int (nI y))]) hx hb dX7_setImage_102 hl (by decide) rfl (fun ls hl => ?_)
      refine lv_iload_n (pc := 104) hx hb dX7_setImage_104 rfl (lv_at hl 6 rfl) ?_
      refine lv_iconst (pc := 105) (v := nI 4) hx hb dX7_setImage_105 rfl ?_
      refine lv_iand (pc := 106) hx hb dX7_setImage_106 ?_
      refine lv_if_eq (pc := 107) (tgt := 133) hx hb dX7_setImage_107 (by decide) (fun c107 => ?_) (fun c107 => ?_)
      · refine lv_aload_n (pc := 133) hx hb dX7_setImage_133 rfl (lv_at hl 5 rfl) ?_
        refine va_get (pc := 134) (D := D) (ci := 6) (v := .ref bd) (C := RX7) (T := TX7) (N := 5) hx hb hts hinX7 hown hK.1 hP 0 rfl rfl 0 (by decide) (hts (.fieldLink RX7 22 "BoxesGame$Symmetry" "board" "LBoxesGame$Board;") (List.mem_of_getElem? (i := 1) rfl)) (fun _ h9 => h9) rfl dX7_setImage_134 ?_
        refine lv_iload_n (pc := 137) hx hb dX7_setImage_137 rfl (lv_at hl 7 rfl) ?_
        refine lv_iload (pc := 138) hx hb dX7_setImage_138 (lv_at hl 1 rfl) ?_
        refine lv_iload (pc := 140) hx hb dX7_setImage_140 (lv_at hl 0 rfl) ?_
        refine ro_go (pc := 142) (va_runV (As := [.int (zb true), .int (nI x), .int (nI ((r - 1) - y))]) (rest := []) ⟨hx, hb, hml, hown, hts⟩ (c_X0_numberOf l D Y bd bs bf bg c r sd fb gb true (nI x) (nI ((r - 1) - y)) (hC) (hB)) (cwV 3 hts gX7_setImage_X0_numberOf rfl rfl rfl ⟨rfl, hdX0_numberOf⟩ ⟨Nat.le_of_ble_eq_true rfl, Nat.le_of_ble_eq_true rfl⟩) (ro_pV hK (hP.sub [2, 3, 4, 5] rfl) (ro_recv hK hP (ci := 0) (q0 := 2) rfl rfl)) rfl rfl hl.1 rfl (lv_room (Nat.le_of_ble_eq_true rfl)) dX7_setImage_142 ⟨Nat.le_of_ble_eq_true rfl, Nat.le_of_ble_eq_true rfl⟩) ?_
        refine lv_topi (fun x142 ex142 => ?_)
        refine lv_istore (pc := 145) (lv' := [(10, .int x142), (9, .int (nI ((r - 1) - y))), (8, .int (nI x)), (7, .int (nI (r - 1))), (6, .int (nI c)), (5, .int (nI (numM c r true x y))), (0, .ref sy), (1, .int (nI s)), (2, .int (zb true)), (3, .int (nI x)), (4, .int (nI y))]) hx hb dX7_setImage_145 hl (by decide) rfl (fun ls hl => ?_)
        have hxim : x142 = nI (imL c r true x y s) := by have t0 : s.testBit 0 = false := ((bit0 s hs8).mp c73); have t1 : s.testBit 1 = true := (by cases q : s.testBit 1; exact absurd ((bit1 s hs8).mpr q) c89; rfl); have t2 : s.testBit 2 = false := ((bit2 s hs8).mp c107); rw [← im_num hC hs hxx hyy, ex142]; simp [imX, imY, t0, t1, t2]
        refine lv_aload_n (pc := 147) hx hb dX7_setImage_147 rfl (lv_at hl 6 rfl) ?_
        refine va_get (pc := 148) (D := D) (ci := 6) (v := .ref si) (C := RX7) (T := TX7) (N := 5) hx hb hts hinX7 hown hK.1 hP 0 rfl rfl 1 (by decide) (hts (.fieldLink RX7 9 "BoxesGame$Symmetry" "images" "[I") (List.mem_of_getElem? (i := 4) rfl)) (fun _ h9 => h9) rfl dX7_setImage_148 ?_
        refine lv_iload_n (pc := 151) hx hb dX7_setImage_151 rfl (lv_at hl 7 rfl) ?_
        refine lv_bipush (pc := 152) (v := nI 40) hx hb dX7_setImage_152 rfl ?_
        refine n_imul (pc := 154) hx hb dX7_setImage_154 ?_
        refine lv_iload (pc := 155) hx hb dX7_setImage_155 (lv_at hl 5 rfl) ?_
        refine n_iadd (pc := 157) hx hb dX7_setImage_157 ?_
        refine lv_iload (pc := 158) hx hb dX7_setImage_158 (lv_at hl 0 rfl) ?_
        refine mu_go (pc := 160) (va_runS (As := [.ref si, .int (nI ((s * 40) + (numM c r true x y))), .int x142]) (rest := []) ⟨hx, hb, hml, hown, hts⟩ (c_X3_put_in l D Y 320 im si ((s * 40) + (numM c r true x y)) x142 (by decide) (by first | assumption | omega)) (va_cwS 3 hts gX7_setImage_X3_put rfl rfl rfl hdX3_put ⟨Nat.le_of_ble_eq_true rfl, Nat.le_of_ble_eq_true rfl⟩) (mu_pS hK (hP.sub [1] rfl) (hD.sub [1] (by decide) rfl)) rfl rfl hl.1 rfl (lv_room (Nat.le_of_ble_eq_true rfl)) dX7_setImage_160 ⟨Nat.le_of_ble_eq_true rfl, Nat.le_of_ble_eq_true rfl⟩) hP hD hS [1] rfl (by decide) (fun _ => [(sy, .inr (6, [.ref bd, .ref si, .ref sc, .ref sf, .int (nI (manyM c r))])), (si, .inl (Y.1, 320, .inl (upd im ((s * 40) + (numM c r true x y)) x142))), (bd, .inr (0, [.int (nI c), .int (nI r), .int (nI (al c r)), .int (nI (c * r)), .ref bs, .ref bf, .ref bg])), (bs, .inl (Y.2.1, 16, .inr (.inl sd))), (bf, .inl (Y.1, 40, .inl fb)), (bg, .inl (Y.1, 40, .inl gb))]) (fun _ => rfl) (fun _ => rfl) (fun uS H locs hpost hP hD hS => ?_)
        have hP : va_P D vwCl [(sy, .inr (6, [.ref bd, .ref si, .ref sc, .ref sf, .int (nI (manyM c r))])), (si, .inl (Y.1, 320, .inl (upd im ((s * 40) + (numM c r true x y)) x142))), (bd, .inr (0, [.int (nI c), .int (nI r), .int (nI (al c r)), .int (nI (c * r)), .ref bs, .ref bf, .ref bg])), (bs, .inl (Y.2.1, 16, .inr (.inl sd))), (bf, .inl (Y.1, 40, .inl fb)), (bg, .inl (Y.1, 40, .inl gb))] H := hP
        have hD : va_D AA [(sy, .inr (6, [.ref bd, .ref si, .ref sc, .ref sf, .int (nI (manyM c r))])), (si, .inl (Y.1, 320, .inl (upd im ((s * 40) + (numM c r true x y)) x142))), (bd, .inr (0, [.int (nI c), .int (nI r), .int (nI (al c r)), .int (nI (c * r)), .ref bs, .ref bf, .ref bg])), (bs, .inl (Y.2.1, 16, .inr (.inl sd))), (bf, .inl (Y.1, 40, .inl fb)), (bg, .inl (Y.1, 40, .inl gb))] := hD
        subst hAA
        exact mu_vret hx hb hr hlocks hP hS (()) (rfl) (trivial) (by rw [if_pos ⟨hxx, hyy⟩, hxim]) dX7_setImage_163
      refine lv_aload_n (pc := 110) hx hb dX7_setImage_110 rfl (lv_at hl 5 rfl) ?_
      refine va_get (pc := 111) (D := D) (ci := 6) (v := .ref bd) (C := RX7) (T := TX7) (N := 5) hx hb hts hinX7 hown hK.1 hP 0 rfl rfl 0 (by decide) (hts (.fieldLink RX7 22 "BoxesGame$Symmetry" "board" "LBoxesGame$Board;") (List.mem_of_getElem? (i := 1) rfl)) (fun _ h9 => h9) rfl dX7_setImage_111 ?_
      refine lv_iload_n (pc := 114) hx hb dX7_setImage_114 rfl (lv_at hl 7 rfl) ?_
      refine z_if_ne (pc := 115) (tgt := 122) hx hb dX7_setImage_115 (by decide) (fun c115 => ?_) (fun c115 => ?_)
      · refine lv_iconst (pc := 122) (v := nI 0) hx hb dX7_setImage_122 rfl ?_
        refine lv_iload (pc := 123) hx hb dX7_setImage_123 (lv_at hl 0 rfl) ?_
        refine lv_iload (pc := 125) hx hb dX7_setImage_125 (lv_at hl 1 rfl) ?_
        refine ro_go (pc := 127) (va_runV (As := [.int (nI 0), .int (nI ((r - 1) - y)), .int (nI x)]) (rest := []) ⟨hx, hb, hml, hown, hts⟩ (c_X0_numberOf l D Y bd bs bf bg c r sd fb gb false (nI ((r - 1) - y)) (nI x) (hC) (hB)) (cwV 3 hts gX7_setImage_X0_numberOf rfl rfl rfl ⟨rfl, hdX0_numberOf⟩ ⟨Nat.le_of_ble_eq_true rfl, Nat.le_of_ble_eq_true rfl⟩) (ro_pV hK (hP.sub [2, 3, 4, 5] rfl) (ro_recv hK hP (ci := 0) (q0 := 2) rfl rfl)) rfl rfl hl.1 rfl (lv_room (Nat.le_of_ble_eq_true rfl)) dX7_setImage_127 ⟨Nat.le_of_ble_eq_true rfl, Nat.le_of_ble_eq_true rfl⟩) ?_
        refine lv_topi (fun x127 ex127 => ?_)
        refine lv_goto (pc := 130) (tgt := 145) hx hb dX7_setImage_130 (by decide) ?_
        refine lv_istore (pc := 145) (lv' := [(10, .int x127), (9, .int (nI ((r - 1) - y))), (8, .int (nI x)), (7, .int (nI (r - 1))), (6, .int (nI c)), (5, .int (nI (numM c r true x y))), (0, .ref sy), (1, .int (nI s)), (2, .int (zb true)), (3, .int (nI x)), (4, .int (nI y))]) hx hb dX7_setImage_145 hl (by decide) rfl (fun ls hl => ?_)
        have hxim : x127 = nI (imL c r true x y s) := by have t0 : s.testBit 0 = false := ((bit0 s hs8).mp c73); have t1 : s.testBit 1 = true := (by cases q : s.testBit 1; exact absurd ((bit1 s hs8).mpr q) c89; rfl); have t2 : s.testBit 2 = true := (by cases q : s.testBit 2; exact absurd ((bit2 s hs8).mpr q) c107; rfl); rw [← im_num hC hs hxx hyy, ex127]; simp [imX, imY, t0, t1, t2]
        refine lv_aload_n (pc := 147) hx hb dX7_setImage_147 rfl (lv_at hl 6 rfl) ?_
        refine va_get (pc := 148) (D := D) (ci := 6) (v := .ref si) (C := RX7) (T := TX7) (N := 5) hx hb hts hinX7 hown hK.1 hP 0 rfl rfl 1 (by decide) (hts (.fieldLink RX7 9 "BoxesGame$Symmetry" "images" "[I") (List.mem_of_getElem? (i := 4) rfl)) (fun _ h9 => h9) rfl dX7_setImage_148 ?_
        refine lv_iload_n (pc := 151) hx hb dX7_setImage_151 rfl (lv_at hl 7 rfl) ?_
        refine lv_bipush (pc := 152) (v := nI 40) hx hb dX7_setImage_152 rfl ?_
        refine n_imul (pc := 154) hx hb dX7_setImage_154 ?_
        refine lv_iload (pc := 155) hx hb dX7_setImage_155 (lv_at hl 5 rfl) ?_
        refine n_iadd (pc := 157) hx hb dX7_setImage_157 ?_
        refine lv_iload (pc := 158) hx hb dX7_setImage_158 (lv_at hl 0 rfl) ?_
        refine mu_go (pc := 160) (va_runS (As := [.ref si, .int (nI ((s * 40) + (numM c r true x y))), .int x127]) (rest := []) ⟨hx, hb, hml, hown, hts⟩ (c_X3_put_in l D Y 320 im si ((s * 40) + (numM c r true x y)) x127 (by decide) (by first | assumption | omega)) (va_cwS 3 hts gX7_setImage_X3_put rfl rfl rfl hdX3_put ⟨Nat.le_of_ble_eq_true rfl, Nat.le_of_ble_eq_true rfl⟩) (mu_pS hK (hP.sub [1] rfl) (hD.sub [1] (by decide) rfl)) rfl rfl hl.1 rfl (lv_room (Nat.le_of_ble_eq_true rfl)) dX7_setImage_160 ⟨Nat.le_of_ble_eq_true rfl, Nat.le_of_ble_eq_true rfl⟩) hP hD hS [1] rfl (by decide) (fun _ => [(sy, .inr (6, [.ref bd, .ref si, .ref sc, .ref sf, .int (nI (manyM c r))])), (si, .inl (Y.1, 320, .inl (upd im ((s * 40) + (numM c r true x y)) x127))), (bd, .inr (0, [.int (nI c), .int (nI r), .int (nI (al c r)), .int (nI (c * r)), .ref bs, .ref bf, .ref bg])), (bs, .inl (Y.2.1, 16, .inr (.inl sd))), (bf, .inl (Y.1, 40, .inl fb)), (bg, .inl (Y.1, 40, .inl gb))]) (fun _ => rfl) (fun _ => rfl) (fun uS H locs hpost hP hD hS => ?_)
        have hP : va_P D vwCl [(sy, .inr (6, [.ref bd, .ref si, .ref sc, .ref sf, .int (nI (manyM c r))])), (si, .inl (Y.1, 320, .inl (upd im ((s * 40) + (numM c r true x y)) x127))), (bd, .inr (0, [.int (nI c), .int (nI r), .int (nI (al c r)), .int (nI (c * r)), .ref bs, .ref bf, .ref bg])), (bs, .inl (Y.2.1, 16, .inr (.inl sd))), (bf, .inl (Y.1, 40, .inl fb)), (bg, .inl (Y.1, 40, .inl gb))] H := hP
        have hD : va_D AA [(sy, .inr (6, [.ref bd, .ref si, .ref sc, .ref sf, .int (nI (manyM c r))])), (si, .inl (Y.1, 320, .inl (upd im ((s * 40) + (numM c r true x y)) x127))), (bd, .inr (0, [.int (nI c), .int (nI r), .int (nI (al c r)), .int (nI (c * r)), .ref bs, .ref bf, .ref bg])), (bs, .inl (Y.2.1, 16, .inr (.inl sd))), (bf, .inl (Y.1, 40, .inl fb)), (bg, .inl (Y.1, 40, .inl gb))] := hD
        subst hAA
        exact mu_vret hx hb hr hlocks hP hS (()) (rfl) (trivial) (by rw [if_pos ⟨hxx, hyy⟩, hxim]) dX7_setImage_163
      · exact absurd c115 (by decide)
    refine lv_iload (pc := 76) hx hb dX7_setImage_76 (lv_at hl 1 rfl) ?_
    refine lv_iload_n (pc := 78) hx hb dX7_setImage_78 rfl (lv_at hl 6 rfl) ?_
    refine n_isub (pc := 79) hx hb (by simp only [Bool.false_eq_true, if_false, if_true] at hxx; omega) dX7_setImage_79 ?_
    refine lv_goto (pc := 80) (tgt := 84) hx hb dX7_setImage_80 (by decide) ?_
    refine lv_istore (pc := 84) (lv' := [(8, .int (nI (c - x))), (7, .int (nI (r - 1))), (6, .int (nI c)), (5, .int (nI (numM c r true x y))), (0, .ref sy), (1, .int (nI s)), (2, .int (zb true)), (3, .int (nI x)), (4, .int (nI y))]) hx hb dX7_setImage_84 hl (by decide) rfl (fun ls hl => ?_)
    refine lv_iload_n (pc := 86) hx hb dX7_setImage_86 rfl (lv_at hl 5 rfl) ?_
    refine lv_iconst (pc := 87) (v := nI 2) hx hb dX7_setImage_87 rfl ?_
    refine lv_iand (pc := 88) hx hb dX7_setImage_88 ?_
    refine lv_if_eq (pc := 89) (tgt := 100) hx hb dX7_setImage_89 (by decide) (fun c89 => ?_) (fun c89 => ?_)
    · refine lv_iload (pc := 100) hx hb dX7_setImage_100 (lv_at hl 8 rfl) ?_
      refine lv_istore (pc := 102) (lv' := [(9, .int (nI y)), (8, .int (nI (c - x))), (7, .int (nI (r - 1))), (6, .int (nI c)), (5, .int (nI (numM c r true x y))), (0, .ref sy), (1, .int (nI s)), (2, .int (zb true)), (3, .int (nI x)), (4, .int (nI y))]) hx hb dX7_setImage_102 hl (by decide) rfl (fun ls hl => ?_)
      refine lv_iload_n (pc := 104) hx hb dX7_setImage_104 rfl (lv_at hl 6 rfl) ?_
      refine lv_iconst (pc := 105) (v := nI 4) hx hb dX7_setImage_105 rfl ?_
      refine lv_iand (pc := 106) hx hb dX7_setImage_106 ?_
      refine lv_if_eq (pc := 107) (tgt := 133) hx hb dX7_setImage_107 (by decide) (fun c107 => ?_) (fun c107 => ?_)
      · refine lv_aload_n (pc := 133) hx hb dX7_setImage_133 rfl (lv_at hl 5 rfl) ?_
        refine va_get (pc := 134) (D := D) (ci := 6) (v := .ref bd) (C := RX7) (T := TX7) (N := 5) hx hb hts hinX7 hown hK.1 hP 0 rfl rfl 0 (by decide) (hts (.fieldLink RX7 22 "BoxesGame$Symmetry" "board" "LBoxesGame$Board;") (List.mem_of_getElem? (i := 1) rfl)) (fun _ h9 => h9) rfl dX7_setImage_134 ?_
        refine lv_iload_n (pc := 137) hx hb dX7_setImage_137 rfl (lv_at hl 7 rfl) ?_
        refine lv_iload (pc := 138) hx hb dX7_setImage_138 (lv_at hl 1 rfl) ?_
        refine lv_iload (pc := 140) hx hb dX7_setImage_140 (lv_at hl 0 rfl) ?_
        refine ro_go (pc := 142) (va_runV (As := [.int (zb true), .int (nI (c - x)), .int (nI y)]) (rest := []) ⟨hx, hb, hml, hown, hts⟩ (c_X0_numberOf l D Y bd bs bf bg c r sd fb gb true (nI (c - x)) (nI y) (hC) (hB)) (cwV 3 hts gX7_setImage_X0_numberOf rfl rfl rfl ⟨rfl, hdX0_numberOf⟩ ⟨Nat.le_of_ble_eq_true rfl, Nat.le_of_ble_eq_true rfl⟩) (ro_pV hK (hP.sub [2, 3, 4, 5] rfl) (ro_recv hK hP (ci := 0) (q0 := 2) rfl rfl)) rfl rfl hl.1 rfl (lv_room (Nat.le_of_ble_eq_true rfl)) dX7_setImage_142 ⟨Nat.le_of_ble_eq_true rfl, Nat.le_of_ble_eq_true rfl⟩) ?_
        refine lv_topi (fun x142 ex142 => ?_)
        refine lv_istore (pc := 145) (lv' := [(10, .int x142), (9, .int (nI y)), (8, .int (nI (c - x))), (7, .int (nI (r - 1))), (6, .int (nI c)), (5, .int (nI (numM c r true x y))), (0, .ref sy), (1, .int (nI s)), (2, .int (zb true)), (3, .int (nI x)), (4, .int (nI y))]) hx hb dX7_setImage_145 hl (by decide) rfl (fun ls hl => ?_)
        have hxim : x142 = nI (imL c r true x y s) := by have t0 : s.testBit 0 = true := (by cases q : s.testBit 0; exact absurd ((bit0 s hs8).mpr q) c73; rfl); have t1 : s.testBit 1 = false := ((bit1 s hs8).mp c89); have t2 : s.testBit 2 = false := ((bit2 s hs8).mp c107); rw [← im_num hC hs hxx hyy, ex142]; simp [imX, imY, t0, t1, t2]
        refine lv_aload_n (pc := 147) hx hb dX7_setImage_147 rfl (lv_at hl 6 rfl) ?_
        refine va_get (pc := 148) (D := D) (ci := 6) (v := .ref si) (C := RX7) (T := TX7) (N := 5) hx hb hts hinX7 hown hK.1 hP 0 rfl rfl 1 (by decide) (hts (.fieldLink RX7 9 "BoxesGame$Symmetry" "images" "[I") (List.mem_of_getElem? (i := 4) rfl)) (fun _ h9 => h9) rfl dX7_setImage_148 ?_
        refine lv_iload_n (pc := 151) hx hb dX7_setImage_151 rfl (lv_at hl 7 rfl) ?_
        refine lv_bipush (pc := 152) (v := nI 40) hx hb dX7_setImage_152 rfl ?_
        refine n_imul (pc := 154) hx hb dX7_setImage_154 ?_
        refine lv_iload (pc := 155) hx hb dX7_setImage_155 (lv_at hl 5 rfl) ?_
        refine n_iadd (pc := 157) hx hb dX7_setImage_157 ?_
        refine lv_iload (pc := 158) hx hb dX7_setImage_158 (lv_at hl 0 rfl) ?_
        refine mu_go (pc := 160) (va_runS (As := [.ref si, .int (nI ((s * 40) + (numM c r true x y))), .int x142]) (rest := []) ⟨hx, hb, hml, hown, hts⟩ (c_X3_put_in l D Y 320 im si ((s * 40) + (numM c r true x y)) x142 (by decide) (by first | assumption | omega)) (va_cwS 3 hts gX7_setImage_X3_put rfl rfl rfl hdX3_put ⟨Nat.le_of_ble_eq_true rfl, Nat.le_of_ble_eq_true rfl⟩) (mu_pS hK (hP.sub [1] rfl) (hD.sub [1] (by decide) rfl)) rfl rfl hl.1 rfl (lv_room (Nat.le_of_ble_eq_true rfl)) dX7_setImage_160 ⟨Nat.le_of_ble_eq_true rfl, Nat.le_of_ble_eq_true rfl⟩) hP hD hS [1] rfl (by decide) (fun _ => [(sy, .inr (6, [.ref bd, .ref si, .ref sc, .ref sf, .int (nI (manyM c r))])), (si, .inl (Y.1, 320, .inl (upd im ((s * 40) + (numM c r true x y)) x142))), (bd, .inr (0, [.int (nI c), .int (nI r), .int (nI (al c r)), .int (nI (c * r)), .ref bs, .ref bf, .ref bg])), (bs, .inl (Y.2.1, 16, .inr (.inl sd))), (bf, .inl (Y.1, 40, .inl fb)), (bg, .inl (Y.1, 40, .inl gb))]) (fun _ => rfl) (fun _ => rfl) (fun uS H locs hpost hP hD hS => ?_)
        have hP : va_P D vwCl [(sy, .inr (6, [.ref bd, .ref si, .ref sc, .ref sf, .int (nI (manyM c r))])), (si, .inl (Y.1, 320, .inl (upd im ((s * 40) + (numM c r true x y)) x142))), (bd, .inr (0, [.int (nI c), .int (nI r), .int (nI (al c r)), .int (nI (c * r)), .ref bs, .ref bf, .ref bg])), (bs, .inl (Y.2.1, 16, .inr (.inl sd))), (bf, .inl (Y.1, 40, .inl fb)), (bg, .inl (Y.1, 40, .inl gb))] H := hP
        have hD : va_D AA [(sy, .inr (6, [.ref bd, .ref si, .ref sc, .ref sf, .int (nI (manyM c r))])), (si, .inl (Y.1, 320, .inl (upd im ((s * 40) + (numM c r true x y)) x142))), (bd, .inr (0, [.int (nI c), .int (nI r), .int (nI (al c r)), .int (nI (c * r)), .ref bs, .ref bf, .ref bg])), (bs, .inl (Y.2.1, 16, .inr (.inl sd))), (bf, .inl (Y.1, 40, .inl fb)), (bg, .inl (Y.1, 40, .inl gb))] := hD
        subst hAA
        exact mu_vret hx hb hr hlocks hP hS (()) (rfl) (trivial) (by rw [if_pos ⟨hxx, hyy⟩, hxim]) dX7_setImage_163
      refine lv_aload_n (pc := 110) hx hb dX7_setImage_110 rfl (lv_at hl 5 rfl) ?_
      refine va_get (pc := 111) (D := D) (ci := 6) (v := .ref bd) (C := RX7) (T := TX7) (N := 5) hx hb hts hinX7 hown hK.1 hP 0 rfl rfl 0 (by decide) (hts (.fieldLink RX7 22 "BoxesGame$Symmetry" "board" "LBoxesGame$Board;") (List.mem_of_getElem? (i := 1) rfl)) (fun _ h9 => h9) rfl dX7_setImage_111 ?_
      refine lv_iload_n (pc := 114) hx hb dX7_setImage_114 rfl (lv_at hl 7 rfl) ?_
      refine z_if_ne (pc := 115) (tgt := 122) hx hb dX7_setImage_115 (by decide) (fun c115 => ?_) (fun c115 => ?_)
      · refine lv_iconst (pc := 122) (v := nI 0) hx hb dX7_setImage_122 rfl ?_
        refine lv_iload (pc := 123) hx hb dX7_setImage_123 (lv_at hl 0 rfl) ?_
        refine lv_iload (pc := 125) hx hb dX7_setImage_125 (lv_at hl 1 rfl) ?_
        refine ro_go (pc := 127) (va_runV (As := [.int (nI 0), .int (nI y), .int (nI (c - x))]) (rest := []) ⟨hx, hb, hml, hown, hts⟩ (c_X0_numberOf l D Y bd bs bf bg c r sd fb gb false (nI y) (nI (c - x)) (hC) (hB)) (cwV 3 hts gX7_setImage_X0_numberOf rfl rfl rfl ⟨rfl, hdX0_numberOf⟩ ⟨Nat.le_of_ble_eq_true rfl, Nat.le_of_ble_eq_true rfl⟩) (ro_pV hK (hP.sub [2, 3, 4, 5] rfl) (ro_recv hK hP (ci := 0) (q0 := 2) rfl rfl)) rfl rfl hl.1 rfl (lv_room (Nat.le_of_ble_eq_true rfl)) dX7_setImage_127 ⟨Nat.le_of_ble_eq_true rfl, Nat.le_of_ble_eq_true rfl⟩) ?_
        refine lv_topi (fun x127 ex127 => ?_)
        refine lv_goto (pc := 130) (tgt := 145) hx hb dX7_setImage_130 (by decide) ?_
        refine lv_istore (pc := 145) (lv' := [(10, .int x127), (9, .int (nI y)), (8, .int (nI (c - x))), (7, .int (nI (r - 1))), (6, .int (nI c)), (5, .int (nI (numM c r true x y))), (0, .ref sy), (1, .int (nI s)), (2, .int (zb true)), (3, .int (nI x)), (4, .int (nI y))]) hx hb dX7_setImage_145 hl (by decide) rfl (fun ls hl => ?_)
        have hxim : x127 = nI (imL c r true x y s) := by have t0 : s.testBit 0 = true := (by cases q : s.testBit 0; exact absurd ((bit0 s hs8).mpr q) c73; rfl); have t1 : s.testBit 1 = false := ((bit1 s hs8).mp c89); have t2 : s.testBit 2 = true := (by cases q : s.testBit 2; exact absurd ((bit2 s hs8).mpr q) c107; rfl); rw [← im_num hC hs hxx hyy, ex127]; simp [imX, imY, t0, t1, t2]
        refine lv_aload_n (pc := 147) hx hb dX7_setImage_147 rfl (lv_at hl 6 rfl) ?_
        refine va_get (pc := 148) (D := D) (ci := 6) (v := .ref si) (C := RX7) (T := TX7) (N := 5) hx hb hts hinX7 hown hK.1 hP 0 rfl rfl 1 (by decide) (hts (.fieldLink RX7 9 "BoxesGame$Symmetry" "images" "[I") (List.mem_of_getElem? (i := 4) rfl)) (fun _ h9 => h9) rfl dX7_setImage_148 ?_
        refine lv_iload_n (pc := 151) hx hb dX7_setImage_151 rfl (lv_at hl 7 rfl) ?_
        refine lv_bipush (pc := 152) (v := nI 40) hx hb dX7_setImage_152 rfl ?_
        refine n_imul (pc := 154) hx hb dX7_setImage_154 ?_
        refine lv_iload (pc := 155) hx hb dX7_setImage_155 (lv_at hl 5 rfl) ?_
        refine n_iadd (pc := 157) hx hb dX7_setImage_157 ?_
        refine lv_iload (pc := 158) hx hb dX7_setImage_158 (lv_at hl 0 rfl) ?_
        refine mu_go (pc := 160) (va_runS (As := [.ref si, .int (nI ((s * 40) + (numM c r true x y))), .int x127]) (rest := []) ⟨hx, hb, hml, hown, hts⟩ (c_X3_put_in l D Y 320 im si ((s * 40) + (numM c r true x y)) x127 (by decide) (by first | assumption | omega)) (va_cwS 3 hts gX7_setImage_X3_put rfl rfl rfl hdX3_put ⟨Nat.le_of_ble_eq_true rfl, Nat.le_of_ble_eq_true rfl⟩) (mu_pS hK (hP.sub [1] rfl) (hD.sub [1] (by decide) rfl)) rfl rfl hl.1 rfl (lv_room (Nat.le_of_ble_eq_true rfl)) dX7_setImage_160 ⟨Nat.le_of_ble_eq_true rfl, Nat.le_of_ble_eq_true rfl⟩) hP hD hS [1] rfl (by decide) (fun _ => [(sy, .inr (6, [.ref bd, .ref si, .ref sc, .ref sf, .int (nI (manyM c r))])), (si, .inl (Y.1, 320, .inl (upd im ((s * 40) + (numM c r true x y)) x127))), (bd, .inr (0, [.int (nI c), .int (nI r), .int (nI (al c r)), .int (nI (c * r)), .ref bs, .ref bf, .ref bg])), (bs, .inl (Y.2.1, 16, .inr (.inl sd))), (bf, .inl (Y.1, 40, .inl fb)), (bg, .inl (Y.1, 40, .inl gb))]) (fun _ => rfl) (fun _ => rfl) (fun uS H locs hpost hP hD hS => ?_)
        have hP : va_P D vwCl [(sy, .inr (6, [.ref bd, .ref si, .ref sc, .ref sf, .int (nI (manyM c r))])), (si, .inl (Y.1, 320, .inl (upd im ((s * 40) + (numM c r true x y)) x127))), (bd, .inr (0, [.int (nI c), .int (nI r), .int (nI (al c r)), .int (nI (c * r)), .ref bs, .ref bf, .ref bg])), (bs, .inl (Y.2.1, 16, .inr (.inl sd))), (bf, .inl (Y.1, 40, .inl fb)), (bg, .inl (Y.1, 40, .inl gb))] H := hP
        have hD : va_D AA [(sy, .inr (6, [.ref bd, .ref si, .ref sc, .ref sf, .int (nI (manyM c r))])), (si, .inl (Y.1, 320, .inl (upd im ((s * 40) + (numM c r true x y)) x127))), (bd, .inr (0, [.int (nI c), .int (nI r), .int (nI (al c r)), .int (nI (c * r)), .ref bs, .ref bf, .ref bg])), (bs, .inl (Y.2.1, 16, .inr (.inl sd))), (bf, .inl (Y.1, 40, .inl fb)), (bg, .inl (Y.1, 40, .inl gb))] := hD
        subst hAA
        exact mu_vret hx hb hr hlocks hP hS (()) (rfl) (trivial) (by rw [if_pos ⟨hxx, hyy⟩, hxim]) dX7_setImage_163
      · exact absurd c115 (by decide)
    refine lv_iload (pc := 92) hx hb dX7_setImage_92 (lv_at hl 1 rfl) ?_
    refine lv_iload (pc := 94) hx hb dX7_setImage_94 (lv_at hl 8 rfl) ?_
    refine n_isub (pc := 96) hx hb (by simp only [Bool.false_eq_true, if_false, if_true] at hyy; omega) dX7_setImage_96 ?_
    refine lv_goto (pc := 97) (tgt := 102) hx hb dX7_setImage_97 (by decide) ?_
    refine lv_istore (pc := 102) (lv' := [(9, .int (nI ((r - 1) - y))), (8, .int (nI (c - x))), (7, .int (nI (r - 1))), (6, .int (nI c)), (5, .int (nI (numM c r true x y))), (0, .ref sy), (1, .int (nI s)), (2, .int (zb true)), (3, .int (nI x)), (4, .int (nI y))]) hx hb dX7_setImage_102 hl (by decide) rfl (fun ls hl => ?_)
    refine lv_iload_n (pc := 104) hx hb dX7_setImage_104 rfl (lv_at hl 6 rfl) ?_
    refine lv_iconst (pc := 105) (v := nI 4) hx hb dX7_setImage_105 rfl ?_
    refine lv_iand (pc := 106) hx hb dX7_setImage_106 ?_
    refine lv_if_eq (pc := 107) (tgt := 133) hx hb dX7_setImage_107 (by decide) (fun c107 => ?_) (fun c107 => ?_)
    · refine lv_aload_n (pc := 133) hx hb dX7_setImage_133 rfl (lv_at hl 5 rfl) ?_
      refine va_get (pc := 134) (D := D) (ci := 6) (v := .ref bd) (C := RX7) (T := TX7) (N := 5) hx hb hts hinX7 hown hK.1 hP 0 rfl rfl 0 (by decide) (hts (.fieldLink RX7 22 "BoxesGame$Symmetry" "board" "LBoxesGame$Board;") (List.mem_of_getElem? (i := 1) rfl)) (fun _ h9 => h9) rfl dX7_setImage_134 ?_
      refine lv_iload_n (pc := 137) hx hb dX7_setImage_137 rfl (lv_at hl 7 rfl) ?_
      refine lv_iload (pc := 138) hx hb dX7_setImage_138 (lv_at hl 1 rfl) ?_
      refine lv_iload (pc := 140) hx hb dX7_setImage_140 (lv_at hl 0 rfl) ?_
      refine ro_go (pc := 142) (va_runV (As := [.int (zb true), .int (nI (c - x)), .int (nI ((r - 1) - y))]) (rest := []) ⟨hx, hb, hml, hown, hts⟩ (c_X0_numberOf l D Y bd bs bf bg c r sd fb gb true (nI (c - x)) (nI ((r - 1) - y)) (hC) (hB)) (cwV 3 hts gX7_setImage_X0_numberOf rfl rfl rfl ⟨rfl, hdX0_numberOf⟩ ⟨Nat.le_of_ble_eq_true rfl, Nat.le_of_ble_eq_true rfl⟩) (ro_pV hK (hP.sub [2, 3, 4, 5] rfl) (ro_recv hK hP (ci := 0) (q0 := 2) rfl rfl)) rfl rfl hl.1 rfl (lv_room (Nat.le_of_ble_eq_true rfl)) dX7_setImage_142 ⟨Nat.le_of_ble_eq_true rfl, Nat.le_of_ble_eq_true rfl⟩) ?_
      refine lv_topi (fun x142 ex142 => ?_)
      refine lv_istore (pc := 145) (lv' := [(10, .int x142), (9, .int (nI ((r - 1) - y))), (8, .int (nI (c - x))), (7, .int (nI (r - 1))), (6, .int (nI c)), (5, .int (nI (numM c r true x y))), (0, .ref sy), (1, .int (nI s)), (2, .int (zb true)), (3, .int (nI x)), (4, .int (nI y))]) hx hb dX7_setImage_145 hl (by decide) rfl (fun ls hl => ?_)
      have hxim : x142 = nI (imL c r true x y s) := by have t0 : s.testBit 0 = true := (by cases q : s.testBit 0; exact absurd ((bit0 s hs8).mpr q) c73; rfl); have t1 : s.testBit 1 = true := (by cases q : s.testBit 1; exact absurd ((bit1 s hs8).mpr q) c89; rfl); have t2 : s.testBit 2 = false := ((bit2 s hs8).mp c107); rw [← im_num hC hs hxx hyy, ex142]; simp [imX, imY, t0, t1, t2]
      refine lv_aload_n (pc := 147) hx hb dX7_setImage_147 rfl (lv_at hl 6 rfl) ?_
      refine va_get (pc := 148) (D := D) (ci := 6) (v := .ref si) (C := RX7) (T := TX7) (N := 5) hx hb hts hinX7 hown hK.1 hP 0 rfl rfl 1 (by decide) (hts (.fieldLink RX7 9 "BoxesGame$Symmetry" "images" "[I") (List.mem_of_getElem? (i := 4) rfl)) (fun _ h9 => h9) rfl dX7_setImage_148 ?_
      refine lv_iload_n (pc := 151) hx hb dX7_setImage_151 rfl (lv_at hl 7 rfl) ?_
      refine lv_bipush (pc := 152) (v := nI 40) hx hb dX7_setImage_152 rfl ?_
      refine n_imul (pc := 154) hx hb dX7_setImage_154 ?_
      refine lv_iload (pc := 155) hx hb dX7_setImage_155 (lv_at hl 5 rfl) ?_
      refine n_iadd (pc := 157) hx hb dX7_setImage_157 ?_
      refine lv_iload (pc := 158) hx hb dX7_setImage_158 (lv_at hl 0 rfl) ?_
      refine mu_go (pc := 160) (va_runS (As := [.ref si, .int (nI ((s * 40) + (numM c r true x y))), .int x142]) (rest := []) ⟨hx, hb, hml, hown, hts⟩ (c_X3_put_in l D Y 320 im si ((s * 40) + (numM c r true x y)) x142 (by decide) (by first | assumption | omega)) (va_cwS 3 hts gX7_setImage_X3_put rfl rfl rfl hdX3_put ⟨Nat.le_of_ble_eq_true rfl, Nat.le_of_ble_eq_true rfl⟩) (mu_pS hK (hP.sub [1] rfl) (hD.sub [1] (by decide) rfl)) rfl rfl hl.1 rfl (lv_room (Nat.le_of_ble_eq_true rfl)) dX7_setImage_160 ⟨Nat.le_of_ble_eq_true rfl, Nat.le_of_ble_eq_true rfl⟩) hP hD hS [1] rfl (by decide) (fun _ => [(sy, .inr (6, [.ref bd, .ref si, .ref sc, .ref sf, .int (nI (manyM c r))])), (si, .inl (Y.1, 320, .inl (upd im ((s * 40) + (numM c r true x y)) x142))), (bd, .inr (0, [.int (nI c), .int (nI r), .int (nI (al c r)), .int (nI (c * r)), .ref bs, .ref bf, .ref bg])), (bs, .inl (Y.2.1, 16, .inr (.inl sd))), (bf, .inl (Y.1, 40, .inl fb)), (bg, .inl (Y.1, 40, .inl gb))]) (fun _ => rfl) (fun _ => rfl) (fun uS H locs hpost hP hD hS => ?_)
      have hP : va_P D vwCl [(sy, .inr (6, [.ref bd, .ref si, .ref sc, .ref sf, .int (nI (manyM c r))])), (si, .inl (Y.1, 320, .inl (upd im ((s * 40) + (numM c r true x y)) x142))), (bd, .inr (0, [.int (nI c), .int (nI r), .int (nI (al c r)), .int (nI (c * r)), .ref bs, .ref bf, .ref bg])), (bs, .inl (Y.2.1, 16, .inr (.inl sd))), (bf, .inl (Y.1, 40, .inl fb)), (bg, .inl (Y.1, 40, .inl gb))] H := hP
      have hD : va_D AA [(sy, .inr (6, [.ref bd, .ref si, .ref sc, .ref sf, .int (nI (manyM c r))])), (si, .inl (Y.1, 320, .inl (upd im ((s * 40) + (numM c r true x y)) x142))), (bd, .inr (0, [.int (nI c), .int (nI r), .int (nI (al c r)), .int (nI (c * r)), .ref bs, .ref bf, .ref bg])), (bs, .inl (Y.2.1, 16, .inr (.inl sd))), (bf, .inl (Y.1, 40, .inl fb)), (bg, .inl (Y.1, 40, .inl gb))] := hD
      subst hAA
      exact mu_vret hx hb hr hlocks hP hS (()) (rfl) (trivial) (by rw [if_pos ⟨hxx, hyy⟩, hxim]) dX7_setImage_163
    refine lv_aload_n (pc := 110) hx hb dX7_setImage_110 rfl (lv_at hl 5 rfl) ?_
    refine va_get (pc := 111) (D := D) (ci := 6) (v := .ref bd) (C := RX7) (T := TX7) (N := 5) hx hb hts hinX7 hown hK.1 hP 0 rfl rfl 0 (by decide) (hts (.fieldLink RX7 22 "BoxesGame$Symmetry" "board" "LBoxesGame$Board;") (List.mem_of_getElem? (i := 1) rfl)) (fun _ h9 => h9) rfl dX7_setImage_111 ?_
    refine lv_iload_n (pc := 114) hx hb dX7_setImage_114 rfl (lv_at hl 7 rfl) ?_
    refine z_if_ne (pc := 115) (tgt := 122) hx hb dX7_setImage_115 (by decide) (fun c115 => ?_) (fun c115 => ?_)
    · refine lv_iconst (pc := 122) (v := nI 0) hx hb dX7_setImage_122 rfl ?_
      refine lv_iload (pc := 123) hx hb dX7_setImage_123 (lv_at hl 0 rfl) ?_
      refine lv_iload (pc := 125) hx hb dX7_setImage_125 (lv_at hl 1 rfl) ?_
      refine ro_go (pc := 127) (va_runV (As := [.int (nI 0), .int (nI ((r - 1) - y)), .int (nI (c - x))]) (rest := []) ⟨hx, hb, hml, hown, hts⟩ (c_X0_numberOf l D Y bd bs bf bg c r sd fb gb false (nI ((r - 1) - y)) (nI (c - x)) (hC) (hB)) (cwV 3 hts gX7_setImage_X0_numberOf rfl rfl rfl ⟨rfl, hdX0_numberOf⟩ ⟨Nat.le_of_ble_eq_true rfl, Nat.le_of_ble_eq_true rfl⟩) (ro_pV hK (hP.sub [2, 3, 4, 5] rfl) (ro_recv hK hP (ci := 0) (q0 := 2) rfl rfl)) rfl rfl hl.1 rfl (lv_room (Nat.le_of_ble_eq_true rfl)) dX7_setImage_127 ⟨Nat.le_of_ble_eq_true rfl, Nat.le_of_ble_eq_true rfl⟩) ?_
      refine lv_topi (fun x127 ex127 => ?_)
      refine lv_goto (pc := 130) (tgt := 145) hx hb dX7_setImage_130 (by decide) ?_
      refine lv_istore (pc := 145) (lv' := [(10, .int x127), (9, .int (nI ((r - 1) - y))), (8, .int (nI (c - x))), (7, .int (nI (r - 1))), (6, .int (nI c)), (5, .int (nI (numM c r true x y))), (0, .ref sy), (1, .int (nI s)), (2, .int (zb true)), (3, .int (nI x)), (4, .int (nI y))]) hx hb dX7_setImage_145 hl (by decide) rfl (fun ls hl => ?_)
      have hxim : x127 = nI (imL c r true x y s) := by have t0 : s.testBit 0 = true := (by cases q : s.testBit 0; exact absurd ((bit0 s hs8).mpr q) c73; rfl); have t1 : s.testBit 1 = true := (by cases q : s.testBit 1; exact absurd ((bit1 s hs8).mpr q) c89; rfl); have t2 : s.testBit 2 = true := (by cases q : s.testBit 2; exact absurd ((bit2 s hs8).mpr q) c107; rfl); rw [← im_num hC hs hxx hyy, ex127]; simp [imX, imY, t0, t1, t2]
      refine lv_aload_n (pc := 147) hx hb dX7_setImage_147 rfl (lv_at hl 6 rfl) ?_
      refine va_get (pc := 148) (D := D) (ci := 6) (v := .ref si) (C := RX7) (T := TX7) (N := 5) hx hb hts hinX7 hown hK.1 hP 0 rfl rfl 1 (by decide) (hts (.fieldLink RX7 9 "BoxesGame$Symmetry" "images" "[I") (List.mem_of_getElem? (i := 4) rfl)) (fun _ h9 => h9) rfl dX7_setImage_148 ?_
      refine lv_iload_n (pc := 151) hx hb dX7_setImage_151 rfl (lv_at hl 7 rfl) ?_
      refine lv_bipush (pc := 152) (v := nI 40) hx hb dX7_setImage_152 rfl ?_
      refine n_imul (pc := 154) hx hb dX7_setImage_154 ?_
      refine lv_iload (pc := 155) hx hb dX7_setImage_155 (lv_at hl 5 rfl) ?_
      refine n_iadd (pc := 157) hx hb dX7_setImage_157 ?_
      refine lv_iload (pc := 158) hx hb dX7_setImage_158 (lv_at hl 0 rfl) ?_
      refine mu_go (pc := 160) (va_runS (As := [.ref si, .int (nI ((s * 40) + (numM c r true x y))), .int x127]) (rest := []) ⟨hx, hb, hml, hown, hts⟩ (c_X3_put_in l D Y 320 im si ((s * 40) + (numM c r true x y)) x127 (by decide) (by first | assumption | omega)) (va_cwS 3 hts gX7_setImage_X3_put rfl rfl rfl hdX3_put ⟨Nat.le_of_ble_eq_true rfl, Nat.le_of_ble_eq_true rfl⟩) (mu_pS hK (hP.sub [1] rfl) (hD.sub [1] (by decide) rfl)) rfl rfl hl.1 rfl (lv_room (Nat.le_of_ble_eq_true rfl)) dX7_setImage_160 ⟨Nat.le_of_ble_eq_true rfl, Nat.le_of_ble_eq_true rfl⟩) hP hD hS [1] rfl (by decide) (fun _ => [(sy, .inr (6, [.ref bd, .ref si, .ref sc, .ref sf, .int (nI (manyM c r))])), (si, .inl (Y.1, 320, .inl (upd im ((s * 40) + (numM c r true x y)) x127))), (bd, .inr (0, [.int (nI c), .int (nI r), .int (nI (al c r)), .int (nI (c * r)), .ref bs, .ref bf, .ref bg])), (bs, .inl (Y.2.1, 16, .inr (.inl sd))), (bf, .inl (Y.1, 40, .inl fb)), (bg, .inl (Y.1, 40, .inl gb))]) (fun _ => rfl) (fun _ => rfl) (fun uS H locs hpost hP hD hS => ?_)
      have hP : va_P D vwCl [(sy, .inr (6, [.ref bd, .ref si, .ref sc, .ref sf, .int (nI (manyM c r))])), (si, .inl (Y.1, 320, .inl (upd im ((s * 40) + (numM c r true x y)) x127))), (bd, .inr (0, [.int (nI c), .int (nI r), .int (nI (al c r)), .int (nI (c * r)), .ref bs, .ref bf, .ref bg])), (bs, .inl (Y.2.1, 16, .inr (.inl sd))), (bf, .inl (Y.1, 40, .inl fb)), (bg, .inl (Y.1, 40, .inl gb))] H := hP
      have hD : va_D AA [(sy, .inr (6, [.ref bd, .ref si, .ref sc, .ref sf, .int (nI (manyM c r))])), (si, .inl (Y.1, 320, .inl (upd im ((s * 40) + (numM c r true x y)) x127))), (bd, .inr (0, [.int (nI c), .int (nI r), .int (nI (al c r)), .int (nI (c * r)), .ref bs, .ref bf, .ref bg])), (bs, .inl (Y.2.1, 16, .inr (.inl sd))), (bf, .inl (Y.1, 40, .inl fb)), (bg, .inl (Y.1, 40, .inl gb))] := hD
      subst hAA
      exact mu_vret hx hb hr hlocks hP hS (()) (rfl) (trivial) (by rw [if_pos ⟨hxx, hyy⟩, hxim]) dX7_setImage_163
    · exact absurd c115 (by decide)
  have hne := numI_neg hC hx5 hy5 (ex8.symm.trans c16)
  subst hAA
  exact mu_vret hx hb hr hlocks hP hS (()) (rfl) (trivial) (by rw [if_neg hne]) dX7_setImage_19
