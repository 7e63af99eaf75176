theorem and31 (x : Int32) : ∃ k, k < 32 ∧ x &&& nI 31 = nI k := by
  refine ⟨(x.toBitVec &&& 31#32).toNat, ?_, ?_⟩
  · rw [BitVec.toNat_and]; exact Nat.lt_of_le_of_lt Nat.and_le_right (by decide)
  · apply Int32.toBitVec_inj.1
    rw [Int32.toBitVec_and]
    show x.toBitVec &&& 31#32 = BitVec.ofNat 32 _
    rw [BitVec.ofNat_toNat, BitVec.setWidth_eq]

theorem law_gt {L j : Nat} (hL : L ≤ 2048) (hj : j ≤ L) (h : ¬ nI L - nI 4 < nI j) : j + 4 ≤ L := by
  rw [iI_nI, iI_nI, iI_nI, iI_sub, iI_lt (by omega) (by omega) (by omega) (by omega)] at h
  omega

set_option maxHeartbeats 8000000 in
set_option maxRecDepth 100000 in
theorem lw_head {pG : Program} {eG : Env} {sG : State} {mG : MethodId} {bG : List Frame} {tG : Method} {cG : Code} (l : Launch) (hl9 : l.stackTraces = false) (D : va_G) (Y : vY) (AA : Nat → Prop) (hA : ∀ q : Nat, sG.heap.size ≤ q → AA q) (hA2 : ∀ q : Nat, AA q → sG.heap.size ≤ q) {b L : Nat} {xs : Nat → Int32} (hbA : ¬ AA b) (hL : L ≤ 2048) (C0 : LwC pG sG mG tG cG D Y AA b L xs) (i : Nat) (h4 : 4 * i ≤ L) (L29 : 4 * i + 4 ≤ L → LwH pG eG sG mG bG tG cG l D Y AA b (i + 1)) : LwH pG eG sG mG bG tG cG l D Y AA b i := by
  intro xo bd bs bf bg ps pm po p2 m2 o2 sg o8 o9 o10 o11 o12 o13 o14 o15 so l1 l2 l3 l4 sy si sc sf sq ip bc mo aML aMR aOW aBU aSA aSZ aLP aOP aFT aOL aRS aCD ot dt c r n pl len ms w sd fb gb mv ow tw tn tq2 tm to am5 tx tq sn5 kn5 pr pq oa nu sz op di lj sh va ln f1 f2 be am4 S4 kn4 im cd fd bu th sn9 od9 pb9 ah9 pw9 hs9 ml mr ow9 sa9 sz9 lp9 op9 ft9 ol9 rs9 cd9 og dg hC hB hG hY hk5 hk4 hlen hM H locs hP hD hS ls hl
  obtain ⟨⟨hx, hb, hr, hml, hown, htt, hX, hbl, hlocks, hgv⟩, hK, hXV, hXZ⟩ := id C0
  rw [code_law] at hb
  refine lv_iload (pc := 28) hx hb dL_law_28 (lv_at hl 5 rfl) ?_
  refine lv_aload_n (pc := 30) hx hb dL_law_30 rfl (lv_at hl 0 rfl) ?_
  refine va_slen (pc := 31) hx hb hX hbl hbA hS dL_law_31 ?_
  refine top_i (show Int32.ofNat L = nI L from rfl) ?_
  refine lv_iconst (pc := 32) (v := nI 4) hx hb dL_law_32 rfl ?_
  refine lv_isub (pc := 33) hx hb dL_law_33 ?_
  refine lv_icmp_gt (pc := 34) (tgt := 1652) hx hb dL_law_34 (by decide) (fun c34 => ?_) (fun c34 => ?_)
  · refine lv_iconst (pc := 1652) (v := nI 1) hx hb dL_law_1652 rfl ?_
    refine va_forget (fun q hq => hA2 _ (hS.2.2 q hq)) ?_
    refine W.widen (k := 1100) (n := 19750) (by omega) (by omega) ?_
    exact lw_ret (d0 := sG.drawn) (Drawn.sameBut.refl sG.drawn lw_cs) hx (hb.trans code_law.symm) hr hlocks (by rw [code_law]; exact dL_law_1653)
  have hi : 4 * i + 4 ≤ L := law_gt hL h4 c34
  refine lv_aload_n (pc := 37) hx hb dL_law_37 rfl (lv_at hl 0 rfl) ?_
  refine lv_iload (pc := 38) hx hb dL_law_38 (lv_at hl 5 rfl) ?_
  refine va_sld (pc := 40) hx hb hX hbl hbA hS (vp_in_nI (by omega) (by omega)) dL_law_40 ?_
  refine top_i (show xs (nI (4 * i)).toNatClampNeg = xs (4 * i) from by rw [nI_clamp (by omega)]) ?_
  refine lv_bipush (pc := 41) (v := nI 31) hx hb dL_law_41 rfl ?_
  refine lv_iand (pc := 43) hx hb dL_law_43 ?_
  obtain ⟨k0, hk0, ek0⟩ := and31 (xs (4 * i))
  refine top_i ek0 ?_
  by_cases c44_0 : k0 = 0
  · refine lv_tableIn (pc := 44) (off := 136) (tgt := 180) hx hb dL_law_44 (by rw [c44_0]; decide) (by rw [c44_0]; decide) (by rw [c44_0]; first | rfl | decide) (by decide) ?_
    exact lw_c180 l hl9 D Y AA hA hbA hL C0 i hi (L29 hi) xo bd bs bf bg ps pm po p2 m2 o2 sg o8 o9 o10 o11 o12 o13 o14 o15 so l1 l2 l3 l4 sy si sc sf sq ip bc mo aML aMR aOW aBU aSA aSZ aLP aOP aFT aOL aRS aCD ot dt c r n pl len ms w sd fb gb mv ow tw tn tq2 tm to am5 tx tq sn5 kn5 pr pq oa nu sz op di lj sh va ln f1 f2 be am4 S4 kn4 im cd fd bu th sn9 od9 pb9 ah9 pw9 hs9 ml mr ow9 sa9 sz9 lp9 op9 ft9 ol9 rs9 cd9 og dg hC hB hG hY hk5 hk4 hlen hM _ _ hP hD hS _ hl
  by_cases c44_1 : k0 = 1
  · refine lv_tableIn (pc := 44) (off := 204) (tgt := 248) hx hb dL_law_44 (by rw [c44_1]; decide) (by rw [c44_1]; decide) (by rw [c44_1]; first | rfl | decide) (by decide) ?_
    exact lw_c248 l hl9 D Y AA hA hbA hL C0 i hi (L29 hi) xo bd bs bf bg ps pm po p2 m2 o2 sg o8 o9 o10 o11 o12 o13 o14 o15 so l1 l2 l3 l4 sy si sc sf sq ip bc mo aML aMR aOW aBU aSA aSZ aLP aOP aFT aOL aRS aCD ot dt c r n pl len ms w sd fb gb mv ow tw tn tq2 tm to am5 tx tq sn5 kn5 pr pq oa nu sz op di lj sh va ln f1 f2 be am4 S4 kn4 im cd fd bu th sn9 od9 pb9 ah9 pw9 hs9 ml mr ow9 sa9 sz9 lp9 op9 ft9 ol9 rs9 cd9 og dg hC hB hG hY hk5 hk4 hlen hM _ _ hP hD hS _ hl
  by_cases c44_2 : k0 = 2
  · refine lv_tableIn (pc := 44) (off := 260) (tgt := 304) hx hb dL_law_44 (by rw [c44_2]; decide) (by rw [c44_2]; decide) (by rw [c44_2]; first | rfl | decide) (by decide) ?_
    exact lw_c304 l hl9 D Y AA hA hbA hL C0 i hi (L29 hi) xo bd bs bf bg ps pm po p2 m2 o2 sg o8 o9 o10 o11 o12 o13 o14 o15 so l1 l2 l3 l4 sy si sc sf sq ip bc mo aML aMR aOW aBU aSA aSZ aLP aOP aFT aOL aRS aCD ot dt c r n pl len ms w sd fb gb mv ow tw tn tq2 tm to am5 tx tq sn5 kn5 pr pq oa nu sz op di lj sh va ln f1 f2 be am4 S4 kn4 im cd fd bu th sn9 od9 pb9 ah9 pw9 hs9 ml mr ow9 sa9 sz9 lp9 op9 ft9 ol9 rs9 cd9 og dg hC hB hG hY hk5 hk4 hlen hM _ _ hP hD hS _ hl
  by_cases c44_3 : k0 = 3
  · refine lv_tableIn (pc := 44) (off := 304) (tgt := 348) hx hb dL_law_44 (by rw [c44_3]; decide) (by rw [c44_3]; decide) (by rw [c44_3]; first | rfl | decide) (by decide) ?_
    exact lw_c348 l hl9 D Y AA hA hbA hL C0 i hi (L29 hi) xo bd bs bf bg ps pm po p2 m2 o2 sg o8 o9 o10 o11 o12 o13 o14 o15 so l1 l2 l3 l4 sy si sc sf sq ip bc mo aML aMR aOW aBU aSA aSZ aLP aOP aFT aOL aRS aCD ot dt c r n pl len ms w sd fb gb mv ow tw tn tq2 tm to am5 tx tq sn5 kn5 pr pq oa nu sz op di lj sh va ln f1 f2 be am4 S4 kn4 im cd fd bu th sn9 od9 pb9 ah9 pw9 hs9 ml mr ow9 sa9 sz9 lp9 op9 ft9 ol9 rs9 cd9 og dg hC hB hG hY hk5 hk4 hlen hM _ _ hP hD hS _ hl
  by_cases c44_4 : k0 = 4
  · refine lv_tableIn (pc := 44) (off := 372) (tgt := 416) hx hb dL_law_44 (by rw [c44_4]; decide) (by rw [c44_4]; decide) (by rw [c44_4]; first | rfl | decide) (by decide) ?_
    exact lw_c416 l hl9 D Y AA hA hbA hL C0 i hi (L29 hi) xo bd bs bf bg ps pm po p2 m2 o2 sg o8 o9 o10 o11 o12 o13 o14 o15 so l1 l2 l3 l4 sy si sc sf sq ip bc mo aML aMR aOW aBU aSA aSZ aLP aOP aFT aOL aRS aCD ot dt c r n pl len ms w sd fb gb mv ow tw tn tq2 tm to am5 tx tq sn5 kn5 pr pq oa nu sz op di lj sh va ln f1 f2 be am4 S4 kn4 im cd fd bu th sn9 od9 pb9 ah9 pw9 hs9 ml mr ow9 sa9 sz9 lp9 op9 ft9 ol9 rs9 cd9 og dg hC hB hG hY hk5 hk4 hlen hM _ _ hP hD hS _ hl
  by_cases c44_5 : k0 = 5
  · refine lv_tableIn (pc := 44) (off := 428) (tgt := 472) hx hb dL_law_44 (by rw [c44_5]; decide) (by rw [c44_5]; decide) (by rw [c44_5]; first | rfl | decide) (by decide) ?_
    exact lw_c472 l hl9 D Y AA hA hbA hL C0 i hi (L29 hi) xo bd bs bf bg ps pm po p2 m2 o2 sg o8 o9 o10 o11 o12 o13 o14 o15 so l1 l2 l3 l4 sy si sc sf sq ip bc mo aML aMR aOW aBU aSA aSZ aLP aOP aFT aOL aRS aCD ot dt c r n pl len ms w sd fb gb mv ow tw tn tq2 tm to am5 tx tq sn5 kn5 pr pq oa nu sz op di lj sh va ln f1 f2 be am4 S4 kn4 im cd fd bu th sn9 od9 pb9 ah9 pw9 hs9 ml mr ow9 sa9 sz9 lp9 op9 ft9 ol9 rs9 cd9 og dg hC hB hG hY hk5 hk4 hlen hM _ _ hP hD hS _ hl
  by_cases c44_6 : k0 = 6
  · refine lv_tableIn (pc := 44) (off := 441) (tgt := 485) hx hb dL_law_44 (by rw [c44_6]; decide) (by rw [c44_6]; decide) (by rw [c44_6]; first | rfl | decide) (by decide) ?_
    exact lw_c485 l hl9 D Y AA hA hbA hL C0 i hi (L29 hi) xo bd bs bf bg ps pm po p2 m2 o2 sg o8 o9 o10 o11 o12 o13 o14 o15 so l1 l2 l3 l4 sy si sc sf sq ip bc mo aML aMR aOW aBU aSA aSZ aLP aOP aFT aOL aRS aCD ot dt c r n pl len ms w sd fb gb mv ow tw tn tq2 tm to am5 tx tq sn5 kn5 pr pq oa nu sz op di lj sh va ln f1 f2 be am4 S4 kn4 im cd fd bu th sn9 od9 pb9 ah9 pw9 hs9 ml mr ow9 sa9 sz9 lp9 op9 ft9 ol9 rs9 cd9 og dg hC hB hG hY hk5 hk4 hlen hM _ _ hP hD hS _ hl
  by_cases c44_7 : k0 = 7
  · refine lv_tableIn (pc := 44) (off := 454) (tgt := 498) hx hb dL_law_44 (by rw [c44_7]; decide) (by rw [c44_7]; decide) (by rw [c44_7]; first | rfl | decide) (by decide) ?_
    exact lw_c498 l hl9 D Y AA hA hbA hL C0 i hi (L29 hi) xo bd bs bf bg ps pm po p2 m2 o2 sg o8 o9 o10 o11 o12 o13 o14 o15 so l1 l2 l3 l4 sy si sc sf sq ip bc mo aML aMR aOW aBU aSA aSZ aLP aOP aFT aOL aRS aCD ot dt c r n pl len ms w sd fb gb mv ow tw tn tq2 tm to am5 tx tq sn5 kn5 pr pq oa nu sz op di lj sh va ln f1 f2 be am4 S4 kn4 im cd fd bu th sn9 od9 pb9 ah9 pw9 hs9 ml mr ow9 sa9 sz9 lp9 op9 ft9 ol9 rs9 cd9 og dg hC hB hG hY hk5 hk4 hlen hM _ _ hP hD hS _ hl
  by_cases c44_8 : k0 = 8
  · refine lv_tableIn (pc := 44) (off := 498) (tgt := 542) hx hb dL_law_44 (by rw [c44_8]; decide) (by rw [c44_8]; decide) (by rw [c44_8]; first | rfl | decide) (by decide) ?_
    exact lw_c542 l hl9 D Y AA hA hbA hL C0 i hi (L29 hi) xo bd bs bf bg ps pm po p2 m2 o2 sg o8 o9 o10 o11 o12 o13 o14 o15 so l1 l2 l3 l4 sy si sc sf sq ip bc mo aML aMR aOW aBU aSA aSZ aLP aOP aFT aOL aRS aCD ot dt c r n pl len ms w sd fb gb mv ow tw tn tq2 tm to am5 tx tq sn5 kn5 pr pq oa nu sz op di lj sh va ln f1 f2 be am4 S4 kn4 im cd fd bu th sn9 od9 pb9 ah9 pw9 hs9 ml mr ow9 sa9 sz9 lp9 op9 ft9 ol9 rs9 cd9 og dg hC hB hG hY hk5 hk4 hlen hM _ _ hP hD hS _ hl
  by_cases c44_9 : k0 = 9
  · refine lv_tableIn (pc := 44) (off := 554) (tgt := 598) hx hb dL_law_44 (by rw [c44_9]; decide) (by rw [c44_9]; decide) (by rw [c44_9]; first | rfl | decide) (by decide) ?_
    exact lw_c598 l hl9 D Y AA hA hbA hL C0 i hi (L29 hi) xo bd bs bf bg ps pm po p2 m2 o2 sg o8 o9 o10 o11 o12 o13 o14 o15 so l1 l2 l3 l4 sy si sc sf sq ip bc mo aML aMR aOW aBU aSA aSZ aLP aOP aFT aOL aRS aCD ot dt c r n pl len ms w sd fb gb mv ow tw tn tq2 tm to am5 tx tq sn5 kn5 pr pq oa nu sz op di lj sh va ln f1 f2 be am4 S4 kn4 im cd fd bu th sn9 od9 pb9 ah9 pw9 hs9 ml mr ow9 sa9 sz9 lp9 op9 ft9 ol9 rs9 cd9 og dg hC hB hG hY hk5 hk4 hlen hM _ _ hP hD hS _ hl
  by_cases c44_10 : k0 = 10
  · refine lv_tableIn (pc := 44) (off := 610) (tgt := 654) hx hb dL_law_44 (by rw [c44_10]; decide) (by rw [c44_10]; decide) (by rw [c44_10]; first | rfl | decide) (by decide) ?_
    exact lw_c654 l hl9 D Y AA hA hbA hL C0 i hi (L29 hi) xo bd bs bf bg ps pm po p2 m2 o2 sg o8 o9 o10 o11 o12 o13 o14 o15 so l1 l2 l3 l4 sy si sc sf sq ip bc mo aML aMR aOW aBU aSA aSZ aLP aOP aFT aOL aRS aCD ot dt c r n pl len ms w sd fb gb mv ow tw tn tq2 tm to am5 tx tq sn5 kn5 pr pq oa nu sz op di lj sh va ln f1 f2 be am4 S4 kn4 im cd fd bu th sn9 od9 pb9 ah9 pw9 hs9 ml mr ow9 sa9 sz9 lp9 op9 ft9 ol9 rs9 cd9 og dg hC hB hG hY hk5 hk4 hlen hM _ _ hP hD hS _ hl
  by_cases c44_11 : k0 = 11
  · refine lv_tableIn (pc := 44) (off := 706) (tgt := 750) hx hb dL_law_44 (by rw [c44_11]; decide) (by rw [c44_11]; decide) (by rw [c44_11]; first | rfl | decide) (by decide) ?_
    exact lw_c750 l hl9 D Y AA hA hbA hL C0 i hi (L29 hi) xo bd bs bf bg ps pm po p2 m2 o2 sg o8 o9 o10 o11 o12 o13 o14 o15 so l1 l2 l3 l4 sy si sc sf sq ip bc mo aML aMR aOW aBU aSA aSZ aLP aOP aFT aOL aRS aCD ot dt c r n pl len ms w sd fb gb mv ow tw tn tq2 tm to am5 tx tq sn5 kn5 pr pq oa nu sz op di lj sh va ln f1 f2 be am4 S4 kn4 im cd fd bu th sn9 od9 pb9 ah9 pw9 hs9 ml mr ow9 sa9 sz9 lp9 op9 ft9 ol9 rs9 cd9 og dg hC hB hG hY hk5 hk4 hlen hM _ _ hP hD hS _ hl
  by_cases c44_12 : k0 = 12
  · refine lv_tableIn (pc := 44) (off := 762) (tgt := 806) hx hb dL_law_44 (by rw [c44_12]; decide) (by rw [c44_12]; decide) (by rw [c44_12]; first | rfl | decide) (by decide) ?_
    exact lw_c806 l hl9 D Y AA hA hbA hL C0 i hi (L29 hi) xo bd bs bf bg ps pm po p2 m2 o2 sg o8 o9 o10 o11 o12 o13 o14 o15 so l1 l2 l3 l4 sy si sc sf sq ip bc mo aML aMR aOW aBU aSA aSZ aLP aOP aFT aOL aRS aCD ot dt c r n pl len ms w sd fb gb mv ow tw tn tq2 tm to am5 tx tq sn5 kn5 pr pq oa nu sz op di lj sh va ln f1 f2 be am4 S4 kn4 im cd fd bu th sn9 od9 pb9 ah9 pw9 hs9 ml mr ow9 sa9 sz9 lp9 op9 ft9 ol9 rs9 cd9 og dg hC hB hG hY hk5 hk4 hlen hM _ _ hP hD hS _ hl
  by_cases c44_13 : k0 = 13
  · refine lv_tableIn (pc := 44) (off := 818) (tgt := 862) hx hb dL_law_44 (by rw [c44_13]; decide) (by rw [c44_13]; decide) (by rw [c44_13]; first | rfl | decide) (by decide) ?_
    exact lw_c862 l hl9 D Y AA hA hbA hL C0 i hi (L29 hi) xo bd bs bf bg ps pm po p2 m2 o2 sg o8 o9 o10 o11 o12 o13 o14 o15 so l1 l2 l3 l4 sy si sc sf sq ip bc mo aML aMR aOW aBU aSA aSZ aLP aOP aFT aOL aRS aCD ot dt c r n pl len ms w sd fb gb mv ow tw tn tq2 tm to am5 tx tq sn5 kn5 pr pq oa nu sz op di lj sh va ln f1 f2 be am4 S4 kn4 im cd fd bu th sn9 od9 pb9 ah9 pw9 hs9 ml mr ow9 sa9 sz9 lp9 op9 ft9 ol9 rs9 cd9 og dg hC hB hG hY hk5 hk4 hlen hM _ _ hP hD hS _ hl
  by_cases c44_14 : k0 = 14
  · refine lv_tableIn (pc := 44) (off := 874) (tgt := 918) hx hb dL_law_44 (by rw [c44_14]; decide) (by rw [c44_14]; decide) (by rw [c44_14]; first | rfl | decide) (by decide) ?_
    exact lw_c918 l hl9 D Y AA hA hbA hL C0 i hi (L29 hi) xo bd bs bf bg ps pm po p2 m2 o2 sg o8 o9 o10 o11 o12 o13 o14 o15 so l1 l2 l3 l4 sy si sc sf sq ip bc mo aML aMR aOW aBU aSA aSZ aLP aOP aFT aOL aRS aCD ot dt c r n pl len ms w sd fb gb mv ow tw tn tq2 tm to am5 tx tq sn5 kn5 pr pq oa nu sz op di lj sh va ln f1 f2 be am4 S4 kn4 im cd fd bu th sn9 od9 pb9 ah9 pw9 hs9 ml mr ow9 sa9 sz9 lp9 op9 ft9 ol9 rs9 cd9 og dg hC hB hG hY hk5 hk4 hlen hM _ _ hP hD hS _ hl
  by_cases c44_15 : k0 = 15
  · refine lv_tableIn (pc := 44) (off := 930) (tgt := 974) hx hb dL_law_44 (by rw [c44_15]; decide) (by rw [c44_15]; decide) (by rw [c44_15]; first | rfl | decide) (by decide) ?_
    exact lw_c974 l hl9 D Y AA hA hbA hL C0 i hi (L29 hi) xo bd bs bf bg ps pm po p2 m2 o2 sg o8 o9 o10 o11 o12 o13 o14 o15 so l1 l2 l3 l4 sy si sc sf sq ip bc mo aML aMR aOW aBU aSA aSZ aLP aOP aFT aOL aRS aCD ot dt c r n pl len ms w sd fb gb mv ow tw tn tq2 tm to am5 tx tq sn5 kn5 pr pq oa nu sz op di lj sh va ln f1 f2 be am4 S4 kn4 im cd fd bu th sn9 od9 pb9 ah9 pw9 hs9 ml mr ow9 sa9 sz9 lp9 op9 ft9 ol9 rs9 cd9 og dg hC hB hG hY hk5 hk4 hlen hM _ _ hP hD hS _ hl
  by_cases c44_16 : k0 = 16
  · refine lv_tableIn (pc := 44) (off := 986) (tgt := 1030) hx hb dL_law_44 (by rw [c44_16]; decide) (by rw [c44_16]; decide) (by rw [c44_16]; first | rfl | decide) (by decide) ?_
    exact lw_c1030 l hl9 D Y AA hA hbA hL C0 i hi (L29 hi) xo bd bs bf bg ps pm po p2 m2 o2 sg o8 o9 o10 o11 o12 o13 o14 o15 so l1 l2 l3 l4 sy si sc sf sq ip bc mo aML aMR aOW aBU aSA aSZ aLP aOP aFT aOL aRS aCD ot dt c r n pl len ms w sd fb gb mv ow tw tn tq2 tm to am5 tx tq sn5 kn5 pr pq oa nu sz op di lj sh va ln f1 f2 be am4 S4 kn4 im cd fd bu th sn9 od9 pb9 ah9 pw9 hs9 ml mr ow9 sa9 sz9 lp9 op9 ft9 ol9 rs9 cd9 og dg hC hB hG hY hk5 hk4 hlen hM _ _ hP hD hS _ hl
  by_cases c44_17 : k0 = 17
  · refine lv_tableIn (pc := 44) (off := 999) (tgt := 1043) hx hb dL_law_44 (by rw [c44_17]; decide) (by rw [c44_17]; decide) (by rw [c44_17]; first | rfl | decide) (by decide) ?_
    exact lw_c1043 l hl9 D Y AA hA hbA hL C0 i hi (L29 hi) xo bd bs bf bg ps pm po p2 m2 o2 sg o8 o9 o10 o11 o12 o13 o14 o15 so l1 l2 l3 l4 sy si sc sf sq ip bc mo aML aMR aOW aBU aSA aSZ aLP aOP aFT aOL aRS aCD ot dt c r n pl len ms w sd fb gb mv ow tw tn tq2 tm to am5 tx tq sn5 kn5 pr pq oa nu sz op di lj sh va ln f1 f2 be am4 S4 kn4 im cd fd bu th sn9 od9 pb9 ah9 pw9 hs9 ml mr ow9 sa9 sz9 lp9 op9 ft9 ol9 rs9 cd9 og dg hC hB hG hY hk5 hk4 hlen hM _ _ hP hD hS _ hl
  by_cases c44_18 : k0 = 18
  · refine lv_tableIn (pc := 44) (off := 1055) (tgt := 1099) hx hb dL_law_44 (by rw [c44_18]; decide) (by rw [c44_18]; decide) (by rw [c44_18]; first | rfl | decide) (by decide) ?_
    exact lw_c1099 l hl9 D Y AA hA hbA hL C0 i hi (L29 hi) xo bd bs bf bg ps pm po p2 m2 o2 sg o8 o9 o10 o11 o12 o13 o14 o15 so l1 l2 l3 l4 sy si sc sf sq ip bc mo aML aMR aOW aBU aSA aSZ aLP aOP aFT aOL aRS aCD ot dt c r n pl len ms w sd fb gb mv ow tw tn tq2 tm to am5 tx tq sn5 kn5 pr pq oa nu sz op di lj sh va ln f1 f2 be am4 S4 kn4 im cd fd bu th sn9 od9 pb9 ah9 pw9 hs9 ml mr ow9 sa9 sz9 lp9 op9 ft9 ol9 rs9 cd9 og dg hC hB hG hY hk5 hk4 hlen hM _ _ hP hD hS _ hl
  by_cases c44_19 : k0 = 19
  · refine lv_tableIn (pc := 44) (off := 1123) (tgt := 1167) hx hb dL_law_44 (by rw [c44_19]; decide) (by rw [c44_19]; decide) (by rw [c44_19]; first | rfl | decide) (by decide) ?_
    exact lw_c1167 l hl9 D Y AA hA hbA hL C0 i hi (L29 hi) xo bd bs bf bg ps pm po p2 m2 o2 sg o8 o9 o10 o11 o12 o13 o14 o15 so l1 l2 l3 l4 sy si sc sf sq ip bc mo aML aMR aOW aBU aSA aSZ aLP aOP aFT aOL aRS aCD ot dt c r n pl len ms w sd fb gb mv ow tw tn tq2 tm to am5 tx tq sn5 kn5 pr pq oa nu sz op di lj sh va ln f1 f2 be am4 S4 kn4 im cd fd bu th sn9 od9 pb9 ah9 pw9 hs9 ml mr ow9 sa9 sz9 lp9 op9 ft9 ol9 rs9 cd9 og dg hC hB hG hY hk5 hk4 hlen hM _ _ hP hD hS _ hl
  by_cases c44_20 : k0 = 20
  · refine lv_tableIn (pc := 44) (off := 1179) (tgt := 1223) hx hb dL_law_44 (by rw [c44_20]; decide) (by rw [c44_20]; decide) (by rw [c44_20]; first | rfl | decide) (by decide) ?_
    exact lw_c1223 l hl9 D Y AA hA hbA hL C0 i hi (L29 hi) xo bd bs bf bg ps pm po p2 m2 o2 sg o8 o9 o10 o11 o12 o13 o14 o15 so l1 l2 l3 l4 sy si sc sf sq ip bc mo aML aMR aOW aBU aSA aSZ aLP aOP aFT aOL aRS aCD ot dt c r n pl len ms w sd fb gb mv ow tw tn tq2 tm to am5 tx tq sn5 kn5 pr pq oa nu sz op di lj sh va ln f1 f2 be am4 S4 kn4 im cd fd bu th sn9 od9 pb9 ah9 pw9 hs9 ml mr ow9 sa9 sz9 lp9 op9 ft9 ol9 rs9 cd9 og dg hC hB hG hY hk5 hk4 hlen hM _ _ hP hD hS _ hl
  by_cases c44_21 : k0 = 21
  · refine lv_tableIn (pc := 44) (off := 1223) (tgt := 1267) hx hb dL_law_44 (by rw [c44_21]; decide) (by rw [c44_21]; decide) (by rw [c44_21]; first | rfl | decide) (by decide) ?_
    exact lw_c1267 l hl9 D Y AA hA hbA hL C0 i hi (L29 hi) xo bd bs bf bg ps pm po p2 m2 o2 sg o8 o9 o10 o11 o12 o13 o14 o15 so l1 l2 l3 l4 sy si sc sf sq ip bc mo aML aMR aOW aBU aSA aSZ aLP aOP aFT aOL aRS aCD ot dt c r n pl len ms w sd fb gb mv ow tw tn tq2 tm to am5 tx tq sn5 kn5 pr pq oa nu sz op di lj sh va ln f1 f2 be am4 S4 kn4 im cd fd bu th sn9 od9 pb9 ah9 pw9 hs9 ml mr ow9 sa9 sz9 lp9 op9 ft9 ol9 rs9 cd9 og dg hC hB hG hY hk5 hk4 hlen hM _ _ hP hD hS _ hl
  by_cases c44_22 : k0 = 22
  · refine lv_tableIn (pc := 44) (off := 1267) (tgt := 1311) hx hb dL_law_44 (by rw [c44_22]; decide) (by rw [c44_22]; decide) (by rw [c44_22]; first | rfl | decide) (by decide) ?_
    exact lw_c1311 l hl9 D Y AA hA hbA hL C0 i hi (L29 hi) xo bd bs bf bg ps pm po p2 m2 o2 sg o8 o9 o10 o11 o12 o13 o14 o15 so l1 l2 l3 l4 sy si sc sf sq ip bc mo aML aMR aOW aBU aSA aSZ aLP aOP aFT aOL aRS aCD ot dt c r n pl len ms w sd fb gb mv ow tw tn tq2 tm to am5 tx tq sn5 kn5 pr pq oa nu sz op di lj sh va ln f1 f2 be am4 S4 kn4 im cd fd bu th sn9 od9 pb9 ah9 pw9 hs9 ml mr ow9 sa9 sz9 lp9 op9 ft9 ol9 rs9 cd9 og dg hC hB hG hY hk5 hk4 hlen hM _ _ hP hD hS _ hl
  by_cases c44_23 : k0 = 23
  · refine lv_tableIn (pc := 44) (off := 1323) (tgt := 1367) hx hb dL_law_44 (by rw [c44_23]; decide) (by rw [c44_23]; decide) (by rw [c44_23]; first | rfl | decide) (by decide) ?_
    exact lw_c1367 l hl9 D Y AA hA hbA hL C0 i hi (L29 hi) xo bd bs bf bg ps pm po p2 m2 o2 sg o8 o9 o10 o11 o12 o13 o14 o15 so l1 l2 l3 l4 sy si sc sf sq ip bc mo aML aMR aOW aBU aSA aSZ aLP aOP aFT aOL aRS aCD ot dt c r n pl len ms w sd fb gb mv ow tw tn tq2 tm to am5 tx tq sn5 kn5 pr pq oa nu sz op di lj sh va ln f1 f2 be am4 S4 kn4 im cd fd bu th sn9 od9 pb9 ah9 pw9 hs9 ml mr ow9 sa9 sz9 lp9 op9 ft9 ol9 rs9 cd9 og dg hC hB hG hY hk5 hk4 hlen hM _ _ hP hD hS _ hl
  by_cases c44_24 : k0 = 24
  · refine lv_tableIn (pc := 44) (off := 1337) (tgt := 1381) hx hb dL_law_44 (by rw [c44_24]; decide) (by rw [c44_24]; decide) (by rw [c44_24]; first | rfl | decide) (by decide) ?_
    exact lw_c1381 l hl9 D Y AA hA hbA hL C0 i hi (L29 hi) xo bd bs bf bg ps pm po p2 m2 o2 sg o8 o9 o10 o11 o12 o13 o14 o15 so l1 l2 l3 l4 sy si sc sf sq ip bc mo aML aMR aOW aBU aSA aSZ aLP aOP aFT aOL aRS aCD ot dt c r n pl len ms w sd fb gb mv ow tw tn tq2 tm to am5 tx tq sn5 kn5 pr pq oa nu sz op di lj sh va ln f1 f2 be am4 S4 kn4 im cd fd bu th sn9 od9 pb9 ah9 pw9 hs9 ml mr ow9 sa9 sz9 lp9 op9 ft9 ol9 rs9 cd9 og dg hC hB hG hY hk5 hk4 hlen hM _ _ hP hD hS _ hl
  by_cases c44_25 : k0 = 25
  · refine lv_tableIn (pc := 44) (off := 1350) (tgt := 1394) hx hb dL_law_44 (by rw [c44_25]; decide) (by rw [c44_25]; decide) (by rw [c44_25]; first | rfl | decide) (by decide) ?_
    exact lw_c1394 l hl9 D Y AA hA hbA hL C0 i hi (L29 hi) xo bd bs bf bg ps pm po p2 m2 o2 sg o8 o9 o10 o11 o12 o13 o14 o15 so l1 l2 l3 l4 sy si sc sf sq ip bc mo aML aMR aOW aBU aSA aSZ aLP aOP aFT aOL aRS aCD ot dt c r n pl len ms w sd fb gb mv ow tw tn tq2 tm to am5 tx tq sn5 kn5 pr pq oa nu sz op di lj sh va ln f1 f2 be am4 S4 kn4 im cd fd bu th sn9 od9 pb9 ah9 pw9 hs9 ml mr ow9 sa9 sz9 lp9 op9 ft9 ol9 rs9 cd9 og dg hC hB hG hY hk5 hk4 hlen hM _ _ hP hD hS _ hl
  by_cases c44_26 : k0 = 26
  · refine lv_tableIn (pc := 44) (off := 1363) (tgt := 1407) hx hb dL_law_44 (by rw [c44_26]; decide) (by rw [c44_26]; decide) (by rw [c44_26]; first | rfl | decide) (by decide) ?_
    exact lw_c1407 l hl9 D Y AA hA hbA hL C0 i hi (L29 hi) xo bd bs bf bg ps pm po p2 m2 o2 sg o8 o9 o10 o11 o12 o13 o14 o15 so l1 l2 l3 l4 sy si sc sf sq ip bc mo aML aMR aOW aBU aSA aSZ aLP aOP aFT aOL aRS aCD ot dt c r n pl len ms w sd fb gb mv ow tw tn tq2 tm to am5 tx tq sn5 kn5 pr pq oa nu sz op di lj sh va ln f1 f2 be am4 S4 kn4 im cd fd bu th sn9 od9 pb9 ah9 pw9 hs9 ml mr ow9 sa9 sz9 lp9 op9 ft9 ol9 rs9 cd9 og dg hC hB hG hY hk5 hk4 hlen hM _ _ hP hD hS _ hl
  by_cases c44_27 : k0 = 27
  · refine lv_tableIn (pc := 44) (off := 1419) (tgt := 1463) hx hb dL_law_44 (by rw [c44_27]; decide) (by rw [c44_27]; decide) (by rw [c44_27]; first | rfl | decide) (by decide) ?_
    exact lw_c1463 l hl9 D Y AA hA hbA hL C0 i hi (L29 hi) xo bd bs bf bg ps pm po p2 m2 o2 sg o8 o9 o10 o11 o12 o13 o14 o15 so l1 l2 l3 l4 sy si sc sf sq ip bc mo aML aMR aOW aBU aSA aSZ aLP aOP aFT aOL aRS aCD ot dt c r n pl len ms w sd fb gb mv ow tw tn tq2 tm to am5 tx tq sn5 kn5 pr pq oa nu sz op di lj sh va ln f1 f2 be am4 S4 kn4 im cd fd bu th sn9 od9 pb9 ah9 pw9 hs9 ml mr ow9 sa9 sz9 lp9 op9 ft9 ol9 rs9 cd9 og dg hC hB hG hY hk5 hk4 hlen hM _ _ hP hD hS _ hl
  by_cases c44_28 : k0 = 28
  · refine lv_tableIn (pc := 44) (off := 1499) (tgt := 1543) hx hb dL_law_44 (by rw [c44_28]; decide) (by rw [c44_28]; decide) (by rw [c44_28]; first | rfl | decide) (by decide) ?_
    exact lw_c1543 l hl9 D Y AA hA hbA hL C0 i hi (L29 hi) xo bd bs bf bg ps pm po p2 m2 o2 sg o8 o9 o10 o11 o12 o13 o14 o15 so l1 l2 l3 l4 sy si sc sf sq ip bc mo aML aMR aOW aBU aSA aSZ aLP aOP aFT aOL aRS aCD ot dt c r n pl len ms w sd fb gb mv ow tw tn tq2 tm to am5 tx tq sn5 kn5 pr pq oa nu sz op di lj sh va ln f1 f2 be am4 S4 kn4 im cd fd bu th sn9 od9 pb9 ah9 pw9 hs9 ml mr ow9 sa9 sz9 lp9 op9 ft9 ol9 rs9 cd9 og dg hC hB hG hY hk5 hk4 hlen hM _ _ hP hD hS _ hl
  by_cases c44_29 : k0 = 29
  · refine lv_tableIn (pc := 44) (off := 1588) (tgt := 1632) hx hb dL_law_44 (by rw [c44_29]; decide) (by rw [c44_29]; decide) (by rw [c44_29]; first | rfl | decide) (by decide) ?_
    exact lw_c1632 l hl9 D Y AA hA hbA hL C0 i hi (L29 hi) xo bd bs bf bg ps pm po p2 m2 o2 sg o8 o9 o10 o11 o12 o13 o14 o15 so l1 l2 l3 l4 sy si sc sf sq ip bc mo aML aMR aOW aBU aSA aSZ aLP aOP aFT aOL aRS aCD ot dt c r n pl len ms w sd fb gb mv ow tw tn tq2 tm to am5 tx tq sn5 kn5 pr pq oa nu sz op di lj sh va ln f1 f2 be am4 S4 kn4 im cd fd bu th sn9 od9 pb9 ah9 pw9 hs9 ml mr ow9 sa9 sz9 lp9 op9 ft9 ol9 rs9 cd9 og dg hC hB hG hY hk5 hk4 hlen hM _ _ hP hD hS _ hl
  refine lv_tableOut (pc := 44) (tgt := 1646) hx hb dL_law_44 (Or.inr (by rw [iI_nI k0, iI_toInt (by omega) (by omega)]; omega)) (by decide) ?_
  refine W.widen (k := 47 + (i + 1)) (n := 11384 + 6 * (i + 1)) (by omega) (by omega) ?_
  have L28 := L29 hi
  refine lv_iinc (pc := 1646) (v := nI ((4 * i) + 4)) (lv' := [(5, .int (nI ((4 * i) + 4))), (0, .ref b), (1, .ref xo), (2, .ref mo), (3, .ref ot), (4, .ref dt)]) hx hb dL_law_1646 hl (k := 5) rfl (n_inc (4 * i) 4) (by decide) rfl (fun ls hl => ?_)
  refine lv_goto (pc := 1649) (tgt := 28) hx hb dL_law_1649 (by decide) ?_
  exact L28 xo bd bs bf bg ps pm po p2 m2 o2 sg o8 o9 o10 o11 o12 o13 o14 o15 so l1 l2 l3 l4 sy si sc sf sq ip bc mo aML aMR aOW aBU aSA aSZ aLP aOP aFT aOL aRS aCD ot dt c r n pl len ms w sd fb gb mv ow tw tn tq2 tm to am5 tx tq sn5 kn5 pr pq oa nu sz op di lj sh va ln f1 f2 be am4 S4 kn4 im cd fd bu th sn9 od9 pb9 ah9 pw9 hs9 ml mr ow9 sa9 sz9 lp9 op9 ft9 ol9 rs9 cd9 og dg hC hB hG hY hk5 hk4 hlen hM _ _ hP hD hS _ (lv_sub hl [1, 2, 3, 4, 5, 0] rfl)


theorem lw_loop {pG : Program} {eG : Env} {sG : State} {mG : MethodId} {bG : List Frame} {tG : Method} {cG : Code} (l : Launch) (hl9 : l.stackTraces = false) (D : va_G) (Y : vY) (AA : Nat → Prop) (hA : ∀ q : Nat, sG.heap.size ≤ q → AA q) (hA2 : ∀ q : Nat, AA q → sG.heap.size ≤ q) {b L : Nat} {xs : Nat → Int32} (hbA : ¬ AA b) (hL : L ≤ 2048) (C0 : LwC pG sG mG tG cG D Y AA b L xs) : ∀ (n i : Nat), 4 * i ≤ L → L + 4 - 4 * i ≤ n → LwH pG eG sG mG bG tG cG l D Y AA b i := by
  intro n
  induction n with
  | zero => intro i h1 h2; omega
  | succ n ih => intro i h1 h2; exact lw_head l hl9 D Y AA hA hA2 hbA hL C0 i h1 (fun h => ih (i + 1) (by omega) (by omega))
