set_option maxHeartbeats 1200000 in
set_option maxRecDepth 100000 in
theorem c_L_solved (l : Launch) (hl9 : l.stackTraces = false) (D : va_G) (Y : vY) (dd : Nat) (c : Nat) (r : Nat) (dx : Int32) (dy : Int32) (w : Int64) (x : Int32) (o : Option Nat) (hC : Cr c r) (hu6 : und c r w ≤ 6) (hxo : x = oI o) (hob : ∀ l, o = some l → l < al c r ∧ tb w l = false) (hz0 : Nat) : Wg l yL_solved wsL_solved ({ frames := 3, cells := 2, slots := 104, locals := 73 } : Room) [.ref dd, .long w, .int x] D Y [(dd, .inl (Y.1, 4, .inl (dF (nI c) (nI r) dx dy)))] hz0 2 104 (fun _ : Unit => some (.int (iI (slvV c r w o)))) (fun _ : Unit => [(dd, .inl (Y.1, 4, .inl (dF (nI c) (nI r) dx dy)))]) (fun _ : Unit => True) := by
  refine wg_intro (by decide +kernel) rfl (Nat.le_of_ble_eq_true rfl) [(0, .ref dd), (1, .long w), (3, .int x)] rfl ?_
  intro pG eG sG mG aG bG tG cG ls hx hb hr hml hts hown hlocks hK hXV hXZ hP hD hS hl
  generalize hAA : va_A [(dd, .inl (Y.1, 4, .inl (dF (nI c) (nI r) dx dy)))] sG.heap.size = AA at hXZ hD hS ⊢
  have hA : ∀ q : Nat, sG.heap.size ≤ q → AA q := fun q h => by rw [← hAA]; exact Or.inr h
  have hP : va_P D vwCl [(dd, .inl (Y.1, 4, .inl (dF (nI c) (nI r) dx dy)))] sG.heap := hP
  have hD : va_D AA [(dd, .inl (Y.1, 4, .inl (dF (nI c) (nI r) dx dy)))] := hD
  have hown : sG.vm.findClass RL = some mG.cls := hown
  have hl : lv_has ls 14 [(0, .ref dd), (1, .long w), (3, .int x)] := hl
  have hS : va_S AA sG.heap sG.heap [] := hS
  obtain ⟨hq1, hq2, hq3, hq4, hq5, hq6, hq7, hq8, hq9, hq10, hq11⟩ := hC.q
  have h2p := Nat.two_pow_pos (und c r w)
  have h2q : 2 ^ und c r w ≤ 64 := Nat.pow_le_pow_right (n := 2) (by decide) hu6
  refine lv_bipush (pc := 0) (v := nI 40) hx hb dL_solved_0 rfl ?_
  refine n_newaI (pc := 2) (N := 40) hx hb (hts (.arrayClass .int) (List.mem_of_getElem? (i := 1) rfl)) hK hP hD hS hA (Nat.le_of_ble_eq_true rfl) (Nat.le_of_ble_eq_true rfl) (Nat.le_of_ble_eq_true rfl) dL_solved_2 (fun q2 H hP hD hS => ?_)
  have hP : va_P D vwCl [(dd, .inl (Y.1, 4, .inl (dF (nI c) (nI r) dx dy))), (q2, .inl (Y.1, 40, .inl (fun _ => 0)))] H := hP
  have hD : va_D AA [(dd, .inl (Y.1, 4, .inl (dF (nI c) (nI r) dx dy))), (q2, .inl (Y.1, 40, .inl (fun _ => 0)))] := hD
  refine lv_astore (pc := 4) (lv' := [(4, .ref q2), (0, .ref dd), (1, .long w), (3, .int x)]) hx hb dL_solved_4 hl (by decide) rfl (fun ls hl => ?_)
  refine lv_bipush (pc := 6) (v := nI 64) hx hb dL_solved_6 rfl ?_
  refine n_newaI (pc := 8) (N := 64) hx hb (hts (.arrayClass .int) (List.mem_of_getElem? (i := 1) rfl)) hK hP hD hS hA (Nat.le_of_ble_eq_true rfl) (Nat.le_of_ble_eq_true rfl) (Nat.le_of_ble_eq_true rfl) dL_solved_8 (fun q8 H hP hD hS => ?_)
  have hP : va_P D vwCl [(dd, .inl (Y.1, 4, .inl (dF (nI c) (nI r) dx dy))), (q2, .inl (Y.1, 40, .inl (fun _ => 0))), (q8, .inl (Y.1, 64, .inl (fun _ => 0)))] H := hP
  have hD : va_D AA [(dd, .inl (Y.1, 4, .inl (dF (nI c) (nI r) dx dy))), (q2, .inl (Y.1, 40, .inl (fun _ => 0))), (q8, .inl (Y.1, 64, .inl (fun _ => 0)))] := hD
  refine lv_astore (pc := 10) (lv' := [(5, .ref q8), (4, .ref q2), (0, .ref dd), (1, .long w), (3, .int x)]) hx hb dL_solved_10 hl (by decide) rfl (fun ls hl => ?_)
  refine lv_iconst (pc := 12) (v := nI 0) hx hb dL_solved_12 rfl ?_
  refine lv_istore (pc := 13) (lv' := [(6, .int (nI 0)), (5, .ref q8), (4, .ref q2), (0, .ref dd), (1, .long w), (3, .int x)]) hx hb dL_solved_13 hl (by decide) rfl (fun ls hl => ?_)
  refine lv_iconst (pc := 15) (v := nI 0) hx hb dL_solved_15 rfl ?_
  refine lv_istore (pc := 16) (lv' := [(7, .int (nI 0)), (6, .int (nI 0)), (5, .ref q8), (4, .ref q2), (0, .ref dd), (1, .long w), (3, .int x)]) hx hb dL_solved_16 hl (by decide) rfl (fun ls hl => ?_)
  have L18 : ∀ (n18 : Nat), ∀ (i : Nat) (k : Nat) (f : Nat → Int32), (i ≤ al c r) → (k = fb_ct (fun l => !tb w l) i) → (∀ j, j < k → f j = nI (mem (opl c r w) j)) → al c r - i < n18 → ∀ (H : Heap) (locs : List Loc), va_P D vwCl [(dd, .inl (Y.1, 4, .inl (dF (nI c) (nI r) dx dy))), (q2, .inl (Y.1, 40, .inl f)), (q8, .inl (Y.1, 64, .inl (fun _ => 0)))] H → va_D AA [(dd, .inl (Y.1, 4, .inl (dF (nI c) (nI r) dx dy))), (q2, .inl (Y.1, 40, .inl f)), (q8, .inl (Y.1, 64, .inl (fun _ => 0)))] → va_S AA sG.heap H locs → ∀ (ls : Array Slot), lv_has ls 14 [(0, .ref dd), (1, .long w), (3, .int x), (4, .ref q2), (5, .ref q8), (6, .int (nI k)), (7, .int (nI i))] → W pG l eG ({ frames := 3, cells := 2, slots := 104, locals := 73 } : Room) sG mG aG bG tG cG H locs (0 + 1 + 1) (0 + 40 + 64) (MQ bG (WrQ D [(dd, .inl (Y.1, 4, .inl (dF (nI c) (nI r) dx dy)))] sG.heap.size (fun _ : Unit => some (.int (iI (slvV c r w o)))) (fun _ : Unit => [(dd, .inl (Y.1, 4, .inl (dF (nI c) (nI r) dx dy)))]) (fun _ : Unit => True)) aG sG 2 104 AA) (F0 mG 18 ls []) := by
    intro n18
    induction n18 with
    | zero =>
      intro i k f hi hk hf9 hmeas18 H locs hP hD hS ls hl
      exact absurd hmeas18 (Nat.not_lt_zero _)
    | succ n18 ih18 =>
      intro i k f hi hk hf9 hmeas18 H locs hP hD hS ls hl
      refine lv_iload (pc := 18) hx hb dL_solved_18 (lv_at hl 6 rfl) ?_
      refine lv_aload_n (pc := 20) hx hb dL_solved_20 rfl (lv_at hl 0 rfl) ?_
      refine ro_go (pc := 21) (va_runS (As := [.ref dd]) (rest := [.int (nI i)]) ⟨hx, hb, hml, hown, hts⟩ (c_L_lines l D Y dd c r dx dy (hC)) (va_cwS 1 hts gL_solved_L_lines rfl rfl rfl hdL_lines ⟨Nat.le_of_ble_eq_true rfl, Nat.le_of_ble_eq_true rfl⟩) (ro_pS hK (hP.sub [0] rfl)) rfl rfl hl.1 rfl (lv_room (Nat.le_of_ble_eq_true rfl)) dL_solved_21 ⟨by show 0 + 1 + 1 + 0 ≤ 2; omega, by show 0 + 40 + 64 + 0 ≤ 104; omega⟩) ?_
      refine n_icmp_ge (pc := 24) (tgt := 52) hx hb (by omega) (by omega) dL_solved_24 (by decide) (fun c24 => ?_) (fun c24 => ?_)
      · have hku : k = und c r w := by rw [hk, show i = al c r by omega]; rfl
        rw [hku] at hl hf9
        have hl : lv_has ls 14 [(0, .ref dd), (1, .long w), (3, .int x), (4, .ref q2), (5, .ref q8), (6, .int (nI (und c r w))), (7, .int (nI i))] := hl
        refine lv_iconst (pc := 52) (v := nI 1) hx hb dL_solved_52 rfl ?_
        refine lv_iload (pc := 53) hx hb dL_solved_53 (lv_at hl 5 rfl) ?_
        refine lv_ishl (pc := 55) hx hb dL_solved_55 ?_
        refine top_i (show (nI 1) <<< ((nI (und c r w)) &&& 31) = nI (2 ^ und c r w) from shl1 _ (by omega)) ?_
        refine lv_iconst (pc := 56) (v := nI 1) hx hb dL_solved_56 rfl ?_
        refine lv_isub (pc := 57) hx hb dL_solved_57 ?_
        refine lv_istore (pc := 58) (lv' := [(7, .int ((nI (2 ^ und c r w)) - (nI 1))), (0, .ref dd), (1, .long w), (3, .int x), (4, .ref q2), (5, .ref q8), (6, .int (nI (und c r w)))]) hx hb dL_solved_58 hl (by decide) rfl (fun ls hl => ?_)
        have L60 : ∀ (n60 : Nat), ∀ (t : Nat) (fv : Nat → Int32), (t ≤ 2 ^ und c r w) → (∀ q, t ≤ q → q < 2 ^ und c r w → fv q = iI (out c r (nwF (opl c r w) w q (und c r w)))) → (t = 0 → o = none) → t < n60 → ∀ (H : Heap) (locs : List Loc), va_P D vwCl [(dd, .inl (Y.1, 4, .inl (dF (nI c) (nI r) dx dy))), (q2, .inl (Y.1, 40, .inl f)), (q8, .inl (Y.1, 64, .inl fv))] H → va_D AA [(dd, .inl (Y.1, 4, .inl (dF (nI c) (nI r) dx dy))), (q2, .inl (Y.1, 40, .inl f)), (q8, .inl (Y.1, 64, .inl fv))] → va_S AA sG.heap H locs → ∀ (ls : Array Slot), lv_has ls 14 [(0, .ref dd), (1, .long w), (3, .int x), (4, .ref q2), (5, .ref q8), (6, .int (nI (und c r w))), (7, .int (nI t - nI 1))] → W pG l eG ({ frames := 3, cells := 2, slots := 104, locals := 73 } : Room) sG mG aG bG tG cG H locs (0 + 1 + 1) (0 + 40 + 64) (MQ bG (WrQ D [(dd, .inl (Y.1, 4, .inl (dF (nI c) (nI r) dx dy)))] sG.heap.size (fun _ : Unit => some (.int (iI (slvV c r w o)))) (fun _ : Unit => [(dd, .inl (Y.1, 4, .inl (dF (nI c) (nI r) dx dy)))]) (fun _ : Unit => True)) aG sG 2 104 AA) (F0 mG 60 ls []) := by
          intro n60
          induction n60 with
          | zero =>
            intro t fv ht hfv hdn hmeas60 H locs hP hD hS ls hl
            exact absurd hmeas60 (Nat.not_lt_zero _)
          | succ n60 ih60 =>
            intro t fv ht hfv hdn hmeas60 H locs hP hD hS ls hl
            refine lv_iload (pc := 60) hx hb dL_solved_60 (lv_at hl 6 rfl) ?_
            refine lv_if_lt (pc := 62) (tgt := 244) hx hb dL_solved_62 (by decide) (fun c62 => ?_) (fun c62 => ?_)
            · have ht0 : t = 0 := by rcases Nat.eq_zero_or_pos t with q | q; exact q; rw [pk_sub q] at c62; exact absurd c62 (nI_pos (by omega))
              refine lv_aload (pc := 244) hx hb dL_solved_244 (lv_at hl 4 rfl) ?_
              refine lv_iconst (pc := 246) (v := nI 0) hx hb dL_solved_246 rfl ?_
              refine va_iald (pc := 247) hx hb hK.1 hP 2 0 rfl rfl (vp_in_nI (by omega) (by decide)) dL_solved_247 ?_
              refine top_i (show fv (nI 0).toNatClampNeg = fv 0 from by rw [nI_clamp (by omega)]) ?_
              refine top_i (show fv 0 = iI (out c r w) from by rw [hfv 0 (by omega) (by omega), nw_0]) ?_
              subst hAA
              exact wg_iret (by show 0 + 1 + 1 ≤ 2; omega) (by show 0 + 40 + 64 ≤ 104; omega) hx hb hr hlocks (hP.sub [0] rfl) hS (()) (by rw [hdn ht0]; rfl) (trivial) (rfl) dL_solved_248
            have ht9 : 0 < t := by rcases Nat.eq_zero_or_pos t with q | q; rw [q] at c62; exact absurd (by decide) c62; exact q
            rw [pk_sub ht9] at hl
            have hl : lv_has ls 14 [(0, .ref dd), (1, .long w), (3, .int x), (4, .ref q2), (5, .ref q8), (6, .int (nI (und c r w))), (7, .int (nI (t - 1)))] := hl
            refine lv_lload_n (pc := 65) hx hb dL_solved_65 rfl (lv_at hl 1 rfl) ?_
            refine lv_lstore (pc := 66) (lv' := [(8, .long w), (0, .ref dd), (1, .long w), (3, .int x), (4, .ref q2), (5, .ref q8), (6, .int (nI (und c r w))), (7, .int (nI (t - 1)))]) hx hb dL_solved_66 hl (by decide) rfl (fun ls hl => ?_)
            refine lv_iconst (pc := 68) (v := nI 0) hx hb dL_solved_68 rfl ?_
            refine lv_istore (pc := 69) (lv' := [(10, .int (nI 0)), (8, .long w), (0, .ref dd), (1, .long w), (3, .int x), (4, .ref q2), (5, .ref q8), (6, .int (nI (und c r w))), (7, .int (nI (t - 1)))]) hx hb dL_solved_69 hl (by decide) rfl (fun ls hl => ?_)
            have L71 : ∀ (n71 : Nat), ∀ (i : Nat) (v : Int64), (i ≤ und c r w) → (v = nwF (opl c r w) w (t - 1) i) → und c r w - i < n71 → ∀ (H : Heap) (locs : List Loc), va_P D vwCl [(dd, .inl (Y.1, 4, .inl (dF (nI c) (nI r) dx dy))), (q2, .inl (Y.1, 40, .inl f)), (q8, .inl (Y.1, 64, .inl fv))] H → va_D AA [(dd, .inl (Y.1, 4, .inl (dF (nI c) (nI r) dx dy))), (q2, .inl (Y.1, 40, .inl f)), (q8, .inl (Y.1, 64, .inl fv))] → va_S AA sG.heap H locs → ∀ (ls : Array Slot), lv_has ls 14 [(0, .ref dd), (1, .long w), (3, .int x), (4, .ref q2), (5, .ref q8), (6, .int (nI (und c r w))), (7, .int (nI (t - 1))), (8, .long v), (10, .int (nI i))] → W pG l eG ({ frames := 3, cells := 2, slots := 104, locals := 73 } : Room) sG mG aG bG tG cG H locs (0 + 1 + 1) (0 + 40 + 64) (MQ bG (WrQ D [(dd, .inl (Y.1, 4, .inl (dF (nI c) (nI r) dx dy)))] sG.heap.size (fun _ : Unit => some (.int (iI (slvV c r w o)))) (fun _ : Unit => [(dd, .inl (Y.1, 4, .inl (dF (nI c) (nI r) dx dy)))]) (fun _ : Unit => True)) aG sG 2 104 AA) (F0 mG 71 ls []) := by
              intro n71
              induction n71 with
              | zero =>
                intro i v hi hv9 hmeas71 H locs hP hD hS ls hl
                exact absurd hmeas71 (Nat.not_lt_zero _)
              | succ n71 ih71 =>
                intro i v hi hv9 hmeas71 H locs hP hD hS ls hl
                refine lv_iload (pc := 71) hx hb dL_solved_71 (lv_at hl 8 rfl) ?_
                refine lv_iload (pc := 73) hx hb dL_solved_73 (lv_at hl 5 rfl) ?_
                refine n_icmp_ge (pc := 75) (tgt := 107) hx hb (by omega) (by omega) dL_solved_75 (by decide) (fun c75 => ?_) (fun c75 => ?_)
                · have hvn : v = nwF (opl c r w) w (t - 1) (und c r w) := by rw [hv9, show i = und c r w by omega]
                  refine lv_iload (pc := 107) hx hb dL_solved_107 (lv_at hl 6 rfl) ?_
                  refine lv_iconst (pc := 109) (v := nI 1) hx hb dL_solved_109 rfl ?_
                  refine lv_iload (pc := 110) hx hb dL_solved_110 (lv_at hl 5 rfl) ?_
                  refine lv_ishl (pc := 112) hx hb dL_solved_112 ?_
                  refine top_i (show (nI 1) <<< ((nI (und c r w)) &&& 31) = nI (2 ^ und c r w) from shl1 _ (by omega)) ?_
                  refine lv_iconst (pc := 113) (v := nI 1) hx hb dL_solved_113 rfl ?_
                  refine n_isub (pc := 114) hx hb (by omega) dL_solved_114 ?_
                  refine n_icmp_ne (pc := 115) (tgt := 122) hx hb (by omega) (by omega) dL_solved_115 (by decide) (fun c115 => ?_) (fun c115 => ?_)
                  · refine lv_bipush (pc := 122) (v := (-99)) hx hb dL_solved_122 (by decide) ?_
                    refine top_i (show (-99) = iI (-99) from by decide) ?_
                    refine lv_istore (pc := 124) (lv' := [(10, .int (iI (-99))), (0, .ref dd), (1, .long w), (3, .int x), (4, .ref q2), (5, .ref q8), (6, .int (nI (und c r w))), (7, .int (nI (t - 1))), (8, .long v)]) hx hb dL_solved_124 hl (by decide) rfl (fun ls hl => ?_)
                    refine lv_iconst (pc := 126) (v := nI 0) hx hb dL_solved_126 rfl ?_
                    refine lv_istore (pc := 127) (lv' := [(11, .int (nI 0)), (10, .int (iI (-99))), (0, .ref dd), (1, .long w), (3, .int x), (4, .ref q2), (5, .ref q8), (6, .int (nI (und c r w))), (7, .int (nI (t - 1))), (8, .long v)]) hx hb dL_solved_127 hl (by decide) rfl (fun ls hl => ?_)
                    have L129 : ∀ (n129 : Nat), ∀ (k2 : Nat) (z : Int), (k2 ≤ und c r w) → (SvH c r w (t - 1) k2 z) → (-99 ≤ z ∧ z ≤ 18) → (t - 1 = 0 → ∀ q, q < k2 → ¬ oI o = nI (mem (opl c r w) q)) → und c r w - k2 < n129 → ∀ (H : Heap) (locs : List Loc), va_P D vwCl [(dd, .inl (Y.1, 4, .inl (dF (nI c) (nI r) dx dy))), (q2, .inl (Y.1, 40, .inl f)), (q8, .inl (Y.1, 64, .inl fv))] H → va_D AA [(dd, .inl (Y.1, 4, .inl (dF (nI c) (nI r) dx dy))), (q2, .inl (Y.1, 40, .inl f)), (q8, .inl (Y.1, 64, .inl fv))] → va_S AA sG.heap H locs → ∀ (ls : Array Slot), lv_has ls 14 [(0, .ref dd), (1, .long w), (3, .int x), (4, .ref q2), (5, .ref q8), (6, .int (nI (und c r w))), (7, .int (nI (t - 1))), (8, .long v), (10, .int (iI z)), (11, .int (nI k2))] → W pG l eG ({ frames := 3, cells := 2, slots := 104, locals := 73 } : Room) sG mG aG bG tG cG H locs (0 + 1 + 1) (0 + 40 + 64) (MQ bG (WrQ D [(dd, .inl (Y.1, 4, .inl (dF (nI c) (nI r) dx dy)))] sG.heap.size (fun _ : Unit => some (.int (iI (slvV c r w o)))) (fun _ : Unit => [(dd, .inl (Y.1, 4, .inl (dF (nI c) (nI r) dx dy)))]) (fun _ : Unit => True)) aG sG 2 104 AA) (F0 mG 129 ls []) := by
                      intro n129
                      induction n129 with
                      | zero =>
                        intro k2 z hk2 hsv hzb hno hmeas129 H locs hP hD hS ls hl
                        exact absurd hmeas129 (Nat.not_lt_zero _)
                      | succ n129 ih129 =>
                        intro k2 z hk2 hsv hzb hno hmeas129 H locs hP hD hS ls hl
                        refine lv_iload (pc := 129) hx hb dL_solved_129 (lv_at hl 9 rfl) ?_
                        refine lv_iload (pc := 131) hx hb dL_solved_131 (lv_at hl 5 rfl) ?_
                        refine n_icmp_ge (pc := 133) (tgt := 231) hx hb (by omega) (by omega) dL_solved_133 (by decide) (fun c133 => ?_) (fun c133 => ?_)
                        · have hk2e : k2 = und c r w := by omega
                          have hsv2 := hsv
                          rw [hk2e] at hsv2
                          have hno2 := hno
                          rw [hk2e] at hno2
                          have hfin := SvH.fin hC (by omega) hsv2
                          refine lv_aload (pc := 231) hx hb dL_solved_231 (lv_at hl 4 rfl) ?_
                          refine lv_iload (pc := 233) hx hb dL_solved_233 (lv_at hl 6 rfl) ?_
                          refine lv_iload (pc := 235) hx hb dL_solved_235 (lv_at hl 8 rfl) ?_
                          refine va_iast (pc := 237) hx hb hK.1 hP hD hS 2 0 rfl rfl (vp_in_nI (by omega) (by decide)) dL_solved_237 (fun H locs hP hD hS => ?_)
                          rw [nI_clamp (by omega)] at hP hD
                          have hP : va_P D vwCl [(dd, .inl (Y.1, 4, .inl (dF (nI c) (nI r) dx dy))), (q2, .inl (Y.1, 40, .inl f)), (q8, .inl (Y.1, 64, .inl (upd fv (t - 1) (iI z))))] H := hP
                          have hD : va_D AA [(dd, .inl (Y.1, 4, .inl (dF (nI c) (nI r) dx dy))), (q2, .inl (Y.1, 40, .inl f)), (q8, .inl (Y.1, 64, .inl (upd fv (t - 1) (iI z))))] := hD
                          refine lv_iinc (pc := 238) (v := nI (t - 1) - nI 1) (lv' := [(7, .int (nI (t - 1) - nI 1)), (0, .ref dd), (1, .long w), (3, .int x), (4, .ref q2), (5, .ref q8), (6, .int (nI (und c r w))), (8, .long v), (10, .int (iI z)), (11, .int (nI k2))]) hx hb dL_solved_238 hl (k := 6) rfl (inc_m1) (by decide) rfl (fun ls hl => ?_)
                          refine lv_goto (pc := 241) (tgt := 60) hx hb dL_solved_241 (by decide) ?_
                          exact ih60 (t - 1) (upd fv (t - 1) (iI z)) (by omega) (fun q h1 h2 => by by_cases e : q = t - 1; rw [e, pk_us, hfin]; rw [pk_un e]; exact hfv q (by omega) h2) (fun h0 => by cases o9 : o with | none => rfl | some l => obtain ⟨a1, a2⟩ := hob l o9; obtain ⟨b3, b4⟩ := mem_op hC a1 a2 rfl; exact absurd (by rw [o9, b4]; rfl) (hno2 h0 _ b3)) (by omega) _ _ hP hD hS _ (lv_sub hl [1, 2, 3, 4, 5, 6, 0] rfl)
                        refine lv_iload (pc := 136) hx hb dL_solved_136 (lv_at hl 6 rfl) ?_
                        refine lv_iload (pc := 138) hx hb dL_solved_138 (lv_at hl 9 rfl) ?_
                        refine lv_ishr (pc := 140) hx hb dL_solved_140 ?_
                        refine lv_iconst (pc := 141) (v := nI 1) hx hb dL_solved_141 rfl ?_
                        refine lv_iand (pc := 142) hx hb dL_solved_142 ?_
                        refine top_i (show ((nI (t - 1)) >>> ((nI k2) &&& 31)) &&& (nI 1) = zb ((t - 1).testBit k2) from ishr_bit (by omega) (by omega)) ?_
                        refine lv_iconst (pc := 143) (v := nI 1) hx hb dL_solved_143 rfl ?_
                        refine lv_icmp_ne (pc := 144) (tgt := 150) hx hb dL_solved_144 (by decide) (fun c144 => ?_) (fun c144 => ?_)
                        · have t8 : (t - 1).testBit k2 = false := bfn (fun q => c144 (zb_is1.mpr q))
                          have hmu := mem_und (u := w) hC c133
                          have hmt : tb v (mem (opl c r w) k2) = false := by rw [hvn, nw_mem hC c133, t8]
                          have hol := or_lt (show t - 1 < 2 ^ und c r w by omega) c133
                          have hog := or_gt t8
                          have hwb := wor_b (l := (mem (opl c r w) k2)) hC v
                          refine lv_aload_n (pc := 150) hx hb dL_solved_150 rfl (lv_at hl 0 rfl) ?_
                          refine lv_aload (pc := 151) hx hb dL_solved_151 (lv_at hl 3 rfl) ?_
                          refine lv_iload (pc := 153) hx hb dL_solved_153 (lv_at hl 9 rfl) ?_
                          refine va_iald (pc := 155) hx hb hK.1 hP 1 0 rfl rfl (vp_in_nI (by omega) (by decide)) dL_solved_155 ?_
                          refine top_i (show f (nI k2).toNatClampNeg = f k2 from by rw [nI_clamp (by omega)]) ?_
                          refine top_i (show f k2 = nI (mem (opl c r w) k2) from hf9 k2 c133) ?_
                          refine lv_lload (pc := 156) hx hb dL_solved_156 (lv_at hl 7 rfl) ?_
                          refine ro_go (pc := 158) (va_runS (As := [.ref dd, .int (nI (mem (opl c r w) k2)), .long v]) (rest := []) ⟨hx, hb, hml, hown, hts⟩ (c_L_gain l D Y dd c r dx dy (mem (opl c r w) k2) v (hC) (hmu.1)) (va_cwS 3 hts gL_solved_L_gain rfl rfl rfl hdL_gain ⟨Nat.le_of_ble_eq_true rfl, Nat.le_of_ble_eq_true rfl⟩) (ro_pS hK (hP.sub [0] rfl)) rfl rfl hl.1 rfl (lv_room (Nat.le_of_ble_eq_true rfl)) dL_solved_158 ⟨by show 0 + 1 + 1 + 0 ≤ 2; omega, by show 0 + 40 + 64 + 0 ≤ 104; omega⟩) ?_
                          refine top_i (show nI (gaL c r v (mem (opl c r w) k2)) = nI (gai c r v (mem (opl c r w) k2)) from by rw [gaL_f hmt]) ?_
                          refine lv_istore (pc := 161) (lv' := [(12, .int (nI (gai c r v (mem (opl c r w) k2)))), (0, .ref dd), (1, .long w), (3, .int x), (4, .ref q2), (5, .ref q8), (6, .int (nI (und c r w))), (7, .int (nI (t - 1))), (8, .long v), (10, .int (iI z)), (11, .int (nI k2))]) hx hb dL_solved_161 hl (by decide) rfl (fun ls hl => ?_)
                          refine lv_iload (pc := 163) hx hb dL_solved_163 (lv_at hl 0 rfl) ?_
                          refine n_if_le (pc := 165) (tgt := 184) hx hb (by have := gai_le c r v (mem (opl c r w) k2); omega) dL_solved_165 (by decide) (fun c165 => ?_) (fun c165 => ?_)
                          · refine lv_aload (pc := 184) hx hb dL_solved_184 (lv_at hl 5 rfl) ?_
                            refine lv_iload (pc := 186) hx hb dL_solved_186 (lv_at hl 7 rfl) ?_
                            refine lv_iconst (pc := 188) (v := nI 1) hx hb dL_solved_188 rfl ?_
                            refine lv_iload (pc := 189) hx hb dL_solved_189 (lv_at hl 10 rfl) ?_
                            refine lv_ishl (pc := 191) hx hb dL_solved_191 ?_
                            refine top_i (show (nI 1) <<< ((nI k2) &&& 31) = nI (2 ^ k2) from shl1 k2 (by omega)) ?_
                            refine lv_ior (pc := 192) hx hb dL_solved_192 ?_
                            refine top_i (show (nI (t - 1)) ||| (nI (2 ^ k2)) = nI ((t - 1) ||| 2 ^ k2) from fa_or _ _) ?_
                            refine va_iald (pc := 193) hx hb hK.1 hP 2 0 rfl rfl (vp_in_nI (by omega) (by decide)) dL_solved_193 ?_
                            refine top_i (show fv (nI ((t - 1) ||| 2 ^ k2)).toNatClampNeg = fv ((t - 1) ||| 2 ^ k2) from by rw [nI_clamp (by omega)]) ?_
                            refine top_i (show fv ((t - 1) ||| 2 ^ k2) = iI (out c r (v ||| b1 (mem (opl c r w) k2))) from by rw [hvn, nw_or hC c133]; exact hfv _ (by omega) hol) ?_
                            refine lv_ineg (pc := 194) hx hb dL_solved_194 ?_
                            refine top_i (show -(iI (out c r (v ||| b1 (mem (opl c r w) k2)))) = iI (wor c r v (mem (opl c r w) k2)) from by unfold wor wrF; rw [if_neg (by omega), iI_neg]) ?_
                            refine lv_istore (pc := 195) (lv' := [(13, .int (iI (wor c r v (mem (opl c r w) k2)))), (12, .int (nI (gai c r v (mem (opl c r w) k2)))), (0, .ref dd), (1, .long w), (3, .int x), (4, .ref q2), (5, .ref q8), (6, .int (nI (und c r w))), (7, .int (nI (t - 1))), (8, .long v), (10, .int (iI z)), (11, .int (nI k2))]) hx hb dL_solved_195 hl (by decide) rfl (fun ls hl => ?_)
                            refine lv_iload (pc := 197) hx hb dL_solved_197 (lv_at hl 8 rfl) ?_
                            refine n_if_ne (pc := 199) (tgt := 214) hx hb (by omega) dL_solved_199 (by decide) (fun c199 => ?_) (fun c199 => ?_)
                            · refine lv_iload (pc := 214) hx hb dL_solved_214 (lv_at hl 0 rfl) ?_
                              refine lv_iload (pc := 216) hx hb dL_solved_216 (lv_at hl 10 rfl) ?_
                              refine lv_icmp_le (pc := 218) (tgt := 225) hx hb dL_solved_218 (by decide) (fun c218 => ?_) (fun c218 => ?_)
                              · have c218z := (iI_le (by omega) (by omega) (by omega) (by omega)).mp c218
                                refine lv_iinc (pc := 225) (v := nI (k2 + 1)) (lv' := [(11, .int (nI (k2 + 1))), (13, .int (iI (wor c r v (mem (opl c r w) k2)))), (12, .int (nI (gai c r v (mem (opl c r w) k2)))), (0, .ref dd), (1, .long w), (3, .int x), (4, .ref q2), (5, .ref q8), (6, .int (nI (und c r w))), (7, .int (nI (t - 1))), (8, .long v), (10, .int (iI z))]) hx hb dL_solved_225 hl (k := 11) rfl (n_inc k2 1) (by decide) rfl (fun ls hl => ?_)
                                refine lv_goto (pc := 228) (tgt := 129) hx hb dL_solved_228 (by decide) ?_
                                exact ih129 (k2 + 1) z (by first | assumption | omega) (hsv.no hC c133 t8 (by rw [← hvn]; exact c218z)) (hzb) (fun h0 => absurd c199 (by omega)) (by omega) _ _ hP hD hS _ (lv_sub hl [3, 4, 5, 6, 7, 8, 9, 10, 11, 0] rfl)
                              have c218z : ¬ _ := fun h => c218 ((iI_le (by omega) (by omega) (by omega) (by omega)).mpr h)
                              refine lv_iload (pc := 221) hx hb dL_solved_221 (lv_at hl 0 rfl) ?_
                              refine lv_istore (pc := 223) (lv' := [(10, .int (iI (wor c r v (mem (opl c r w) k2)))), (13, .int (iI (wor c r v (mem (opl c r w) k2)))), (12, .int (nI (gai c r v (mem (opl c r w) k2)))), (0, .ref dd), (1, .long w), (3, .int x), (4, .ref q2), (5, .ref q8), (6, .int (nI (und c r w))), (7, .int (nI (t - 1))), (8, .long v), (11, .int (nI k2))]) hx hb dL_solved_223 hl (by decide) rfl (fun ls hl => ?_)
                              refine lv_iinc (pc := 225) (v := nI (k2 + 1)) (lv' := [(11, .int (nI (k2 + 1))), (10, .int (iI (wor c r v (mem (opl c r w) k2)))), (13, .int (iI (wor c r v (mem (opl c r w) k2)))), (12, .int (nI (gai c r v (mem (opl c r w) k2)))), (0, .ref dd), (1, .long w), (3, .int x), (4, .ref q2), (5, .ref q8), (6, .int (nI (und c r w))), (7, .int (nI (t - 1))), (8, .long v)]) hx hb dL_solved_225 hl (k := 11) rfl (n_inc k2 1) (by decide) rfl (fun ls hl => ?_)
                              refine lv_goto (pc := 228) (tgt := 129) hx hb dL_solved_228 (by decide) ?_
                              exact ih129 (k2 + 1) (wor c r v (mem (opl c r w) k2)) (by first | assumption | omega) (by rw [hvn]; exact hsv.yes t8 (by rw [← hvn]; omega)) (by omega) (fun h0 => absurd c199 (by omega)) (by omega) _ _ hP hD hS _ (lv_sub hl [4, 5, 6, 7, 8, 9, 10, 11, 1, 0] rfl)
                            refine lv_aload (pc := 202) hx hb dL_solved_202 (lv_at hl 5 rfl) ?_
                            refine lv_iload (pc := 204) hx hb dL_solved_204 (lv_at hl 11 rfl) ?_
                            refine va_iald (pc := 206) hx hb hK.1 hP 1 0 rfl rfl (vp_in_nI (by omega) (by decide)) dL_solved_206 ?_
                            refine top_i (show f (nI k2).toNatClampNeg = f k2 from by rw [nI_clamp (by omega)]) ?_
                            refine top_i (show f k2 = nI (mem (opl c r w) k2) from hf9 k2 c133) ?_
                            refine lv_iload_n (pc := 207) hx hb dL_solved_207 rfl (lv_at hl 4 rfl) ?_
                            refine lv_icmp_ne (pc := 208) (tgt := 214) hx hb dL_solved_208 (by decide) (fun c208 => ?_) (fun c208 => ?_)
                            · refine lv_iload (pc := 214) hx hb dL_solved_214 (lv_at hl 0 rfl) ?_
                              refine lv_iload (pc := 216) hx hb dL_solved_216 (lv_at hl 10 rfl) ?_
                              refine lv_icmp_le (pc := 218) (tgt := 225) hx hb dL_solved_218 (by decide) (fun c218 => ?_) (fun c218 => ?_)
                              · have c218z := (iI_le (by omega) (by omega) (by omega) (by omega)).mp c218
                                refine lv_iinc (pc := 225) (v := nI (k2 + 1)) (lv' := [(11, .int (nI (k2 + 1))), (13, .int (iI (wor c r v (mem (opl c r w) k2)))), (12, .int (nI (gai c r v (mem (opl c r w) k2)))), (0, .ref dd), (1, .long w), (3, .int x), (4, .ref q2), (5, .ref q8), (6, .int (nI (und c r w))), (7, .int (nI (t - 1))), (8, .long v), (10, .int (iI z))]) hx hb dL_solved_225 hl (k := 11) rfl (n_inc k2 1) (by decide) rfl (fun ls hl => ?_)
                                refine lv_goto (pc := 228) (tgt := 129) hx hb dL_solved_228 (by decide) ?_
                                exact ih129 (k2 + 1) z (by first | assumption | omega) (hsv.no hC c133 t8 (by rw [← hvn]; exact c218z)) (hzb) (fun h0 => lt_s (hno h0) (fun e => c208 (by rw [hxo]; exact e.symm))) (by omega) _ _ hP hD hS _ (lv_sub hl [3, 4, 5, 6, 7, 8, 9, 10, 11, 0] rfl)
                              have c218z : ¬ _ := fun h => c218 ((iI_le (by omega) (by omega) (by omega) (by omega)).mpr h)
                              refine lv_iload (pc := 221) hx hb dL_solved_221 (lv_at hl 0 rfl) ?_
                              refine lv_istore (pc := 223) (lv' := [(10, .int (iI (wor c r v (mem (opl c r w) k2)))), (13, .int (iI (wor c r v (mem (opl c r w) k2)))), (12, .int (nI (gai c r v (mem (opl c r w) k2)))), (0, .ref dd), (1, .long w), (3, .int x), (4, .ref q2), (5, .ref q8), (6, .int (nI (und c r w))), (7, .int (nI (t - 1))), (8, .long v), (11, .int (nI k2))]) hx hb dL_solved_223 hl (by decide) rfl (fun ls hl => ?_)
                              refine lv_iinc (pc := 225) (v := nI (k2 + 1)) (lv' := [(11, .int (nI (k2 + 1))), (10, .int (iI (wor c r v (mem (opl c r w) k2)))), (13, .int (iI (wor c r v (mem (opl c r w) k2)))), (12, .int (nI (gai c r v (mem (opl c r w) k2)))), (0, .ref dd), (1, .long w), (3, .int x), (4, .ref q2), (5, .ref q8), (6, .int (nI (und c r w))), (7, .int (nI (t - 1))), (8, .long v)]) hx hb dL_solved_225 hl (k := 11) rfl (n_inc k2 1) (by decide) rfl (fun ls hl => ?_)
                              refine lv_goto (pc := 228) (tgt := 129) hx hb dL_solved_228 (by decide) ?_
                              exact ih129 (k2 + 1) (wor c r v (mem (opl c r w) k2)) (by first | assumption | omega) (by rw [hvn]; exact hsv.yes t8 (by rw [← hvn]; omega)) (by omega) (fun h0 => lt_s (hno h0) (fun e => c208 (by rw [hxo]; exact e.symm))) (by omega) _ _ hP hD hS _ (lv_sub hl [4, 5, 6, 7, 8, 9, 10, 11, 1, 0] rfl)
                            have ho9 : o = some (mem (opl c r w) k2) := oI_is (c208.trans hxo) (by omega) (fun l h => by have := (hob l h).1; omega)
                            have hvw : v = w := by rw [hvn, c199, nw_0]
                            refine lv_iload (pc := 211) hx hb dL_solved_211 (lv_at hl 0 rfl) ?_
                            subst hAA
                            exact wg_iret (by show 0 + 1 + 1 ≤ 2; omega) (by show 0 + 40 + 64 ≤ 104; omega) hx hb hr hlocks (hP.sub [0] rfl) hS (()) (by rw [ho9, hvw]; rfl) (trivial) (rfl) dL_solved_213
                          refine lv_iload (pc := 168) hx hb dL_solved_168 (lv_at hl 0 rfl) ?_
                          refine lv_aload (pc := 170) hx hb dL_solved_170 (lv_at hl 5 rfl) ?_
                          refine lv_iload (pc := 172) hx hb dL_solved_172 (lv_at hl 7 rfl) ?_
                          refine lv_iconst (pc := 174) (v := nI 1) hx hb dL_solved_174 rfl ?_
                          refine lv_iload (pc := 175) hx hb dL_solved_175 (lv_at hl 10 rfl) ?_
                          refine lv_ishl (pc := 177) hx hb dL_solved_177 ?_
                          refine top_i (show (nI 1) <<< ((nI k2) &&& 31) = nI (2 ^ k2) from shl1 k2 (by omega)) ?_
                          refine lv_ior (pc := 178) hx hb dL_solved_178 ?_
                          refine top_i (show (nI (t - 1)) ||| (nI (2 ^ k2)) = nI ((t - 1) ||| 2 ^ k2) from fa_or _ _) ?_
                          refine va_iald (pc := 179) hx hb hK.1 hP 2 0 rfl rfl (vp_in_nI (by omega) (by decide)) dL_solved_179 ?_
                          refine top_i (show fv (nI ((t - 1) ||| 2 ^ k2)).toNatClampNeg = fv ((t - 1) ||| 2 ^ k2) from by rw [nI_clamp (by omega)]) ?_
                          refine top_i (show fv ((t - 1) ||| 2 ^ k2) = iI (out c r (v ||| b1 (mem (opl c r w) k2))) from by rw [hvn, nw_or hC c133]; exact hfv _ (by omega) hol) ?_
                          refine lv_iadd (pc := 180) hx hb dL_solved_180 ?_
                          refine top_i (show (nI (gai c r v (mem (opl c r w) k2))) + (iI (out c r (v ||| b1 (mem (opl c r w) k2)))) = iI (wor c r v (mem (opl c r w) k2)) from by unfold wor wrF; rw [if_pos c165, iI_nI, iI_add]) ?_
                          refine lv_goto (pc := 181) (tgt := 195) hx hb dL_solved_181 (by decide) ?_
                          refine lv_istore (pc := 195) (lv' := [(13, .int (iI (wor c r v (mem (opl c r w) k2)))), (12, .int (nI (gai c r v (mem (opl c r w) k2)))), (0, .ref dd), (1, .long w), (3, .int x), (4, .ref q2), (5, .ref q8), (6, .int (nI (und c r w))), (7, .int (nI (t - 1))), (8, .long v), (10, .int (iI z)), (11, .int (nI k2))]) hx hb dL_solved_195 hl (by decide) rfl (fun ls hl => ?_)
                          refine lv_iload (pc := 197) hx hb dL_solved_197 (lv_at hl 8 rfl) ?_
                          refine n_if_ne (pc := 199) (tgt := 214) hx hb (by omega) dL_solved_199 (by decide) (fun c199 => ?_) (fun c199 => ?_)
                          · refine lv_iload (pc := 214) hx hb dL_solved_214 (lv_at hl 0 rfl) ?_
                            refine lv_iload (pc := 216) hx hb dL_solved_216 (lv_at hl 10 rfl) ?_
                            refine lv_icmp_le (pc := 218) (tgt := 225) hx hb dL_solved_218 (by decide) (fun c218 => ?_) (fun c218 => ?_)
                            · have c218z := (iI_le (by omega) (by omega) (by omega) (by omega)).mp c218
                              refine lv_iinc (pc := 225) (v := nI (k2 + 1)) (lv' := [(11, .int (nI (k2 + 1))), (13, .int (iI (wor c r v (mem (opl c r w) k2)))), (12, .int (nI (gai c r v (mem (opl c r w) k2)))), (0, .ref dd), (1, .long w), (3, .int x), (4, .ref q2), (5, .ref q8), (6, .int (nI (und c r w))), (7, .int (nI (t - 1))), (8, .long v), (10, .int (iI z))]) hx hb dL_solved_225 hl (k := 11) rfl (n_inc k2 1) (by decide) rfl (fun ls hl => ?_)
                              refine lv_goto (pc := 228) (tgt := 129) hx hb dL_solved_228 (by decide) ?_
                              exact ih129 (k2 + 1) z (by first | assumption | omega) (hsv.no hC c133 t8 (by rw [← hvn]; exact c218z)) (hzb) (fun h0 => absurd c199 (by omega)) (by omega) _ _ hP hD hS _ (lv_sub hl [3, 4, 5, 6, 7, 8, 9, 10, 11, 0] rfl)
                            have c218z : ¬ _ := fun h => c218 ((iI_le (by omega) (by omega) (by omega) (by omega)).mpr h)
                            refine lv_iload (pc := 221) hx hb dL_solved_221 (lv_at hl 0 rfl) ?_
                            refine lv_istore (pc := 223) (lv' := [(10, .int (iI (wor c r v (mem (opl c r w) k2)))), (13, .int (iI (wor c r v (mem (opl c r w) k2)))), (12, .int (nI (gai c r v (mem (opl c r w) k2)))), (0, .ref dd), (1, .long w), (3, .int x), (4, .ref q2), (5, .ref q8), (6, .int (nI (und c r w))), (7, .int (nI (t - 1))), (8, .long v), (11, .int (nI k2))]) hx hb dL_solved_223 hl (by decide) rfl (fun ls hl => ?_)
                            refine lv_iinc (pc := 225) (v := nI (k2 + 1)) (lv' := [(11, .int (nI (k2 + 1))), (10, .int (iI (wor c r v (mem (opl c r w) k2)))), (13, .int (iI (wor c r v (mem (opl c r w) k2)))), (12, .int (nI (gai c r v (mem (opl c r w) k2)))), (0, .ref dd), (1, .long w), (3, .int x), (4, .ref q2), (5, .ref q8), (6, .int (nI (und c r w))), (7, .int (nI (t - 1))), (8, .long v)]) hx hb dL_solved_225 hl (k := 11) rfl (n_inc k2 1) (by decide) rfl (fun ls hl => ?_)
                            refine lv_goto (pc := 228) (tgt := 129) hx hb dL_solved_228 (by decide) ?_
                            exact ih129 (k2 + 1) (wor c r v (mem (opl c r w) k2)) (by first | assumption | omega) (by rw [hvn]; exact hsv.yes t8 (by rw [← hvn]; omega)) (by omega) (fun h0 => absurd c199 (by omega)) (by omega) _ _ hP hD hS _ (lv_sub hl [4, 5, 6, 7, 8, 9, 10, 11, 1, 0] rfl)
                          refine lv_aload (pc := 202) hx hb dL_solved_202 (lv_at hl 5 rfl) ?_
                          refine lv_iload (pc := 204) hx hb dL_solved_204 (lv_at hl 11 rfl) ?_
                          refine va_iald (pc := 206) hx hb hK.1 hP 1 0 rfl rfl (vp_in_nI (by omega) (by decide)) dL_solved_206 ?_
                          refine top_i (show f (nI k2).toNatClampNeg = f k2 from by rw [nI_clamp (by omega)]) ?_
                          refine top_i (show f k2 = nI (mem (opl c r w) k2) from hf9 k2 c133) ?_
                          refine lv_iload_n (pc := 207) hx hb dL_solved_207 rfl (lv_at hl 4 rfl) ?_
                          refine lv_icmp_ne (pc := 208) (tgt := 214) hx hb dL_solved_208 (by decide) (fun c208 => ?_) (fun c208 => ?_)
                          · refine lv_iload (pc := 214) hx hb dL_solved_214 (lv_at hl 0 rfl) ?_
                            refine lv_iload (pc := 216) hx hb dL_solved_216 (lv_at hl 10 rfl) ?_
                            refine lv_icmp_le (pc := 218) (tgt := 225) hx hb dL_solved_218 (by decide) (fun c218 => ?_) (fun c218 => ?_)
                            · have c218z := (iI_le (by omega) (by omega) (by omega) (by omega)).mp c218
                              refine lv_iinc (pc := 225) (v := nI (k2 + 1)) (lv' := [(11, .int (nI (k2 + 1))), (13, .int (iI (wor c r v (mem (opl c r w) k2)))), (12, .int (nI (gai c r v (mem (opl c r w) k2)))), (0, .ref dd), (1, .long w), (3, .int x), (4, .ref q2), (5, .ref q8), (6, .int (nI (und c r w))), (7, .int (nI (t - 1))), (8, .long v), (10, .int (iI z))]) hx hb dL_solved_225 hl (k := 11) rfl (n_inc k2 1) (by decide) rfl (fun ls hl => ?_)
                              refine lv_goto (pc := 228) (tgt := 129) hx hb dL_solved_228 (by decide) ?_
                              exact ih129 (k2 + 1) z (by first | assumption | omega) (hsv.no hC c133 t8 (by rw [← hvn]; exact c218z)) (hzb) (fun h0 => lt_s (hno h0) (fun e => c208 (by rw [hxo]; exact e.symm))) (by omega) _ _ hP hD hS _ (lv_sub hl [3, 4, 5, 6, 7, 8, 9, 10, 11, 0] rfl)
                            have c218z : ¬ _ := fun h => c218 ((iI_le (by omega) (by omega) (by omega) (by omega)).mpr h)
                            refine lv_iload (pc := 221) hx hb dL_solved_221 (lv_at hl 0 rfl) ?_
                            refine lv_istore (pc := 223) (lv' := [(10, .int (iI (wor c r v (mem (opl c r w) k2)))), (13, .int (iI (wor c r v (mem (opl c r w) k2)))), (12, .int (nI (gai c r v (mem (opl c r w) k2)))), (0, .ref dd), (1, .long w), (3, .int x), (4, .ref q2), (5, .ref q8), (6, .int (nI (und c r w))), (7, .int (nI (t - 1))), (8, .long v), (11, .int (nI k2))]) hx hb dL_solved_223 hl (by decide) rfl (fun ls hl => ?_)
                            refine lv_iinc (pc := 225) (v := nI (k2 + 1)) (lv' := [(11, .int (nI (k2 + 1))), (10, .int (iI (wor c r v (mem (opl c r w) k2)))), (13, .int (iI (wor c r v (mem (opl c r w) k2)))), (12, .int (nI (gai c r v (mem (opl c r w) k2)))), (0, .ref dd), (1, .long w), (3, .int x), (4, .ref q2), (5, .ref q8), (6, .int (nI (und c r w))), (7, .int (nI (t - 1))), (8, .long v)]) hx hb dL_solved_225 hl (k := 11) rfl (n_inc k2 1) (by decide) rfl (fun ls hl => ?_)
                            refine lv_goto (pc := 228) (tgt := 129) hx hb dL_solved_228 (by decide) ?_
                            exact ih129 (k2 + 1) (wor c r v (mem (opl c r w) k2)) (by first | assumption | omega) (by rw [hvn]; exact hsv.yes t8 (by rw [← hvn]; omega)) (by omega) (fun h0 => lt_s (hno h0) (fun e => c208 (by rw [hxo]; exact e.symm))) (by omega) _ _ hP hD hS _ (lv_sub hl [4, 5, 6, 7, 8, 9, 10, 11, 1, 0] rfl)
                          have ho9 : o = some (mem (opl c r w) k2) := oI_is (c208.trans hxo) (by omega) (fun l h => by have := (hob l h).1; omega)
                          have hvw : v = w := by rw [hvn, c199, nw_0]
                          refine lv_iload (pc := 211) hx hb dL_solved_211 (lv_at hl 0 rfl) ?_
                          subst hAA
                          exact wg_iret (by show 0 + 1 + 1 ≤ 2; omega) (by show 0 + 40 + 64 ≤ 104; omega) hx hb hr hlocks (hP.sub [0] rfl) hS (()) (by rw [ho9, hvw]; rfl) (trivial) (rfl) dL_solved_213
                        have t8 : (t - 1).testBit k2 = true := zb_is1.mp c144
                        refine lv_goto (pc := 147) (tgt := 225) hx hb dL_solved_147 (by decide) ?_
                        refine lv_iinc (pc := 225) (v := nI (k2 + 1)) (lv' := [(11, .int (nI (k2 + 1))), (0, .ref dd), (1, .long w), (3, .int x), (4, .ref q2), (5, .ref q8), (6, .int (nI (und c r w))), (7, .int (nI (t - 1))), (8, .long v), (10, .int (iI z))]) hx hb dL_solved_225 hl (k := 9) rfl (n_inc k2 1) (by decide) rfl (fun ls hl => ?_)
                        refine lv_goto (pc := 228) (tgt := 129) hx hb dL_solved_228 (by decide) ?_
                        exact ih129 (k2 + 1) z (by first | assumption | omega) (hsv.skip t8) (hzb) (fun h0 => by rw [h0, Nat.zero_testBit] at t8; cases t8) (by omega) _ _ hP hD hS _ (lv_sub hl [1, 2, 3, 4, 5, 6, 7, 8, 9, 0] rfl)
                    exact L129 ((und c r w - 0) + 1) 0 (-99) (by first | assumption | omega) (SvH.z (by rw [if_neg c115])) (by omega) (fun _ q h => absurd h (Nat.not_lt_zero _)) (Nat.lt_succ_self _) _ _ hP hD hS _ (lv_sub hl [2, 3, 4, 5, 6, 7, 8, 9, 1, 0] rfl)
                  refine lv_iconst (pc := 118) (v := nI 0) hx hb dL_solved_118 rfl ?_
                  refine top_i (show nI 0 = iI 0 from by decide) ?_
                  refine lv_goto (pc := 119) (tgt := 124) hx hb dL_solved_119 (by decide) ?_
                  refine lv_istore (pc := 124) (lv' := [(10, .int (iI 0)), (0, .ref dd), (1, .long w), (3, .int x), (4, .ref q2), (5, .ref q8), (6, .int (nI (und c r w))), (7, .int (nI (t - 1))), (8, .long v)]) hx hb dL_solved_124 hl (by decide) rfl (fun ls hl => ?_)
                  refine lv_iconst (pc := 126) (v := nI 0) hx hb dL_solved_126 rfl ?_
                  refine lv_istore (pc := 127) (lv' := [(11, .int (nI 0)), (10, .int (iI 0)), (0, .ref dd), (1, .long w), (3, .int x), (4, .ref q2), (5, .ref q8), (6, .int (nI (und c r w))), (7, .int (nI (t - 1))), (8, .long v)]) hx hb dL_solved_127 hl (by decide) rfl (fun ls hl => ?_)
                  have L129 : ∀ (n129 : Nat), ∀ (k2 : Nat) (z : Int), (k2 ≤ und c r w) → (SvH c r w (t - 1) k2 z) → (-99 ≤ z ∧ z ≤ 18) → (t - 1 = 0 → ∀ q, q < k2 → ¬ oI o = nI (mem (opl c r w) q)) → und c r w - k2 < n129 → ∀ (H : Heap) (locs : List Loc), va_P D vwCl [(dd, .inl (Y.1, 4, .inl (dF (nI c) (nI r) dx dy))), (q2, .inl (Y.1, 40, .inl f)), (q8, .inl (Y.1, 64, .inl fv))] H → va_D AA [(dd, .inl (Y.1, 4, .inl (dF (nI c) (nI r) dx dy))), (q2, .inl (Y.1, 40, .inl f)), (q8, .inl (Y.1, 64, .inl fv))] → va_S AA sG.heap H locs → ∀ (ls : Array Slot), lv_has ls 14 [(0, .ref dd), (1, .long w), (3, .int x), (4, .ref q2), (5, .ref q8), (6, .int (nI (und c r w))), (7, .int (nI (t - 1))), (8, .long v), (10, .int (iI z)), (11, .int (nI k2))] → W pG l eG ({ frames := 3, cells := 2, slots := 104, locals := 73 } : Room) sG mG aG bG tG cG H locs (0 + 1 + 1) (0 + 40 + 64) (MQ bG (WrQ D [(dd, .inl (Y.1, 4, .inl (dF (nI c) (nI r) dx dy)))] sG.heap.size (fun _ : Unit => some (.int (iI (slvV c r w o)))) (fun _ : Unit => [(dd, .inl (Y.1, 4, .inl (dF (nI c) (nI r) dx dy)))]) (fun _ : Unit => True)) aG sG 2 104 AA) (F0 mG 129 ls []) := by
                    intro n129
                    induction n129 with
                    | zero =>
                      intro k2 z hk2 hsv hzb hno hmeas129 H locs hP hD hS ls hl
                      exact absurd hmeas129 (Nat.not_lt_zero _)
                    | succ n129 ih129 =>
                      intro k2 z hk2 hsv hzb hno hmeas129 H locs hP hD hS ls hl
                      refine lv_iload (pc := 129) hx hb dL_solved_129 (lv_at hl 9 rfl) ?_
                      refine lv_iload (pc := 131) hx hb dL_solved_131 (lv_at hl 5 rfl) ?_
                      refine n_icmp_ge (pc := 133) (tgt := 231) hx hb (by omega) (by omega) dL_solved_133 (by decide) (fun c133 => ?_) (fun c133 => ?_)
                      · have hk2e : k2 = und c r w := by omega
                        have hsv2 := hsv
                        rw [hk2e] at hsv2
                        have hno2 := hno
                        rw [hk2e] at hno2
                        have hfin := SvH.fin hC (by omega) hsv2
                        refine lv_aload (pc := 231) hx hb dL_solved_231 (lv_at hl 4 rfl) ?_
                        refine lv_iload (pc := 233) hx hb dL_solved_233 (lv_at hl 6 rfl) ?_
                        refine lv_iload (pc := 235) hx hb dL_solved_235 (lv_at hl 8 rfl) ?_
                        refine va_iast (pc := 237) hx hb hK.1 hP hD hS 2 0 rfl rfl (vp_in_nI (by omega) (by decide)) dL_solved_237 (fun H locs hP hD hS => ?_)
                        rw [nI_clamp (by omega)] at hP hD
                        have hP : va_P D vwCl [(dd, .inl (Y.1, 4, .inl (dF (nI c) (nI r) dx dy))), (q2, .inl (Y.1, 40, .inl f)), (q8, .inl (Y.1, 64, .inl (upd fv (t - 1) (iI z))))] H := hP
                        have hD : va_D AA [(dd, .inl (Y.1, 4, .inl (dF (nI c) (nI r) dx dy))), (q2, .inl (Y.1, 40, .inl f)), (q8, .inl (Y.1, 64, .inl (upd fv (t - 1) (iI z))))] := hD
                        refine lv_iinc (pc := 238) (v := nI (t - 1) - nI 1) (lv' := [(7, .int (nI (t - 1) - nI 1)), (0, .ref dd), (1, .long w), (3, .int x), (4, .ref q2), (5, .ref q8), (6, .int (nI (und c r w))), (8, .long v), (10, .int (iI z)), (11, .int (nI k2))]) hx hb dL_solved_238 hl (k := 6) rfl (inc_m1) (by decide) rfl (fun ls hl => ?_)
                        refine lv_goto (pc := 241) (tgt := 60) hx hb dL_solved_241 (by decide) ?_
                        exact ih60 (t - 1) (upd fv (t - 1) (iI z)) (by omega) (fun q h1 h2 => by by_cases e : q = t - 1; rw [e, pk_us, hfin]; rw [pk_un e]; exact hfv q (by omega) h2) (fun h0 => by cases o9 : o with | none => rfl | some l => obtain ⟨a1, a2⟩ := hob l o9; obtain ⟨b3, b4⟩ := mem_op hC a1 a2 rfl; exact absurd (by rw [o9, b4]; rfl) (hno2 h0 _ b3)) (by omega) _ _ hP hD hS _ (lv_sub hl [1, 2, 3, 4, 5, 6, 0] rfl)
                      refine lv_iload (pc := 136) hx hb dL_solved_136 (lv_at hl 6 rfl) ?_
                      refine lv_iload (pc := 138) hx hb dL_solved_138 (lv_at hl 9 rfl) ?_
                      refine lv_ishr (pc := 140) hx hb dL_solved_140 ?_
                      refine lv_iconst (pc := 141) (v := nI 1) hx hb dL_solved_141 rfl ?_
                      refine lv_iand (pc := 142) hx hb dL_solved_142 ?_
                      refine top_i (show ((nI (t - 1)) >>> ((nI k2) &&& 31)) &&& (nI 1) = zb ((t - 1).testBit k2) from ishr_bit (by omega) (by omega)) ?_
                      refine lv_iconst (pc := 143) (v := nI 1) hx hb dL_solved_143 rfl ?_
                      refine lv_icmp_ne (pc := 144) (tgt := 150) hx hb dL_solved_144 (by decide) (fun c144 => ?_) (fun c144 => ?_)
                      · have t8 : (t - 1).testBit k2 = false := bfn (fun q => c144 (zb_is1.mpr q))
                        have hmu := mem_und (u := w) hC c133
                        have hmt : tb v (mem (opl c r w) k2) = false := by rw [hvn, nw_mem hC c133, t8]
                        have hol := or_lt (show t - 1 < 2 ^ und c r w by omega) c133
                        have hog := or_gt t8
                        have hwb := wor_b (l := (mem (opl c r w) k2)) hC v
                        refine lv_aload_n (pc := 150) hx hb dL_solved_150 rfl (lv_at hl 0 rfl) ?_
                        refine lv_aload (pc := 151) hx hb dL_solved_151 (lv_at hl 3 rfl) ?_
                        refine lv_iload (pc := 153) hx hb dL_solved_153 (lv_at hl 9 rfl) ?_
                        refine va_iald (pc := 155) hx hb hK.1 hP 1 0 rfl rfl (vp_in_nI (by omega) (by decide)) dL_solved_155 ?_
                        refine top_i (show f (nI k2).toNatClampNeg = f k2 from by rw [nI_clamp (by omega)]) ?_
                        refine top_i (show f k2 = nI (mem (opl c r w) k2) from hf9 k2 c133) ?_
                        refine lv_lload (pc := 156) hx hb dL_solved_156 (lv_at hl 7 rfl) ?_
                        refine ro_go (pc := 158) (va_runS (As := [.ref dd, .int (nI (mem (opl c r w) k2)), .long v]) (rest := []) ⟨hx, hb, hml, hown, hts⟩ (c_L_gain l D Y dd c r dx dy (mem (opl c r w) k2) v (hC) (hmu.1)) (va_cwS 3 hts gL_solved_L_gain rfl rfl rfl hdL_gain ⟨Nat.le_of_ble_eq_true rfl, Nat.le_of_ble_eq_true rfl⟩) (ro_pS hK (hP.sub [0] rfl)) rfl rfl hl.1 rfl (lv_room (Nat.le_of_ble_eq_true rfl)) dL_solved_158 ⟨by show 0 + 1 + 1 + 0 ≤ 2; omega, by show 0 + 40 + 64 + 0 ≤ 104; omega⟩) ?_
                        refine top_i (show nI (gaL c r v (mem (opl c r w) k2)) = nI (gai c r v (mem (opl c r w) k2)) from by rw [gaL_f hmt]) ?_
                        refine lv_istore (pc := 161) (lv' := [(12, .int (nI (gai c r v (mem (opl c r w) k2)))), (0, .ref dd), (1, .long w), (3, .int x), (4, .ref q2), (5, .ref q8), (6, .int (nI (und c r w))), (7, .int (nI (t - 1))), (8, .long v), (10, .int (iI z)), (11, .int (nI k2))]) hx hb dL_solved_161 hl (by decide) rfl (fun ls hl => ?_)
                        refine lv_iload (pc := 163) hx hb dL_solved_163 (lv_at hl 0 rfl) ?_
                        refine n_if_le (pc := 165) (tgt := 184) hx hb (by have := gai_le c r v (mem (opl c r w) k2); omega) dL_solved_165 (by decide) (fun c165 => ?_) (fun c165 => ?_)
                        · refine lv_aload (pc := 184) hx hb dL_solved_184 (lv_at hl 5 rfl) ?_
                          refine lv_iload (pc := 186) hx hb dL_solved_186 (lv_at hl 7 rfl) ?_
                          refine lv_iconst (pc := 188) (v := nI 1) hx hb dL_solved_188 rfl ?_
                          refine lv_iload (pc := 189) hx hb dL_solved_189 (lv_at hl 10 rfl) ?_
                          refine lv_ishl (pc := 191) hx hb dL_solved_191 ?_
                          refine top_i (show (nI 1) <<< ((nI k2) &&& 31) = nI (2 ^ k2) from shl1 k2 (by omega)) ?_
                          refine lv_ior (pc := 192) hx hb dL_solved_192 ?_
                          refine top_i (show (nI (t - 1)) ||| (nI (2 ^ k2)) = nI ((t - 1) ||| 2 ^ k2) from fa_or _ _) ?_
                          refine va_iald (pc := 193) hx hb hK.1 hP 2 0 rfl rfl (vp_in_nI (by omega) (by decide)) dL_solved_193 ?_
                          refine top_i (show fv (nI ((t - 1) ||| 2 ^ k2)).toNatClampNeg = fv ((t - 1) ||| 2 ^ k2) from by rw [nI_clamp (by omega)]) ?_
                          refine top_i (show fv ((t - 1) ||| 2 ^ k2) = iI (out c r (v ||| b1 (mem (opl c r w) k2))) from by rw [hvn, nw_or hC c133]; exact hfv _ (by omega) hol) ?_
                          refine lv_ineg (pc := 194) hx hb dL_solved_194 ?_
                          refine top_i (show -(iI (out c r (v ||| b1 (mem (opl c r w) k2)))) = iI (wor c r v (mem (opl c r w) k2)) from by unfold wor wrF; rw [if_neg (by omega), iI_neg]) ?_
                          refine lv_istore (pc := 195) (lv' := [(13, .int (iI (wor c r v (mem (opl c r w) k2)))), (12, .int (nI (gai c r v (mem (opl c r w) k2)))), (0, .ref dd), (1, .long w), (3, .int x), (4, .ref q2), (5, .ref q8), (6, .int (nI (und c r w))), (7, .int (nI (t - 1))), (8, .long v), (10, .int (iI z)), (11, .int (nI k2))]) hx hb dL_solved_195 hl (by decide) rfl (fun ls hl => ?_)
                          refine lv_iload (pc := 197) hx hb dL_solved_197 (lv_at hl 8 rfl) ?_
                          refine n_if_ne (pc := 199) (tgt := 214) hx hb (by omega) dL_solved_199 (by decide) (fun c199 => ?_) (fun c199 => ?_)
                          · refine lv_iload (pc := 214) hx hb dL_solved_214 (lv_at hl 0 rfl) ?_
                            refine lv_iload (pc := 216) hx hb dL_solved_216 (lv_at hl 10 rfl) ?_
                            refine lv_icmp_le (pc := 218) (tgt := 225) hx hb dL_solved_218 (by decide) (fun c218 => ?_) (fun c218 => ?_)
                            · have c218z := (iI_le (by omega) (by omega) (by omega) (by omega)).mp c218
                              refine lv_iinc (pc := 225) (v := nI (k2 + 1)) (lv' := [(11, .int (nI (k2 + 1))), (13, .int (iI (wor c r v (mem (opl c r w) k2)))), (12, .int (nI (gai c r v (mem (opl c r w) k2)))), (0, .ref dd), (1, .long w), (3, .int x), (4, .ref q2), (5, .ref q8), (6, .int (nI (und c r w))), (7, .int (nI (t - 1))), (8, .long v), (10, .int (iI z))]) hx hb dL_solved_225 hl (k := 11) rfl (n_inc k2 1) (by decide) rfl (fun ls hl => ?_)
                              refine lv_goto (pc := 228) (tgt := 129) hx hb dL_solved_228 (by decide) ?_
                              exact ih129 (k2 + 1) z (by first | assumption | omega) (hsv.no hC c133 t8 (by rw [← hvn]; exact c218z)) (hzb) (fun h0 => absurd c199 (by omega)) (by omega) _ _ hP hD hS _ (lv_sub hl [3, 4, 5, 6, 7, 8, 9, 10, 11, 0] rfl)
                            have c218z : ¬ _ := fun h => c218 ((iI_le (by omega) (by omega) (by omega) (by omega)).mpr h)
                            refine lv_iload (pc := 221) hx hb dL_solved_221 (lv_at hl 0 rfl) ?_
                            refine lv_istore (pc := 223) (lv' := [(10, .int (iI (wor c r v (mem (opl c r w) k2)))), (13, .int (iI (wor c r v (mem (opl c r w) k2)))), (12, .int (nI (gai c r v (mem (opl c r w) k2)))), (0, .ref dd), (1, .long w), (3, .int x), (4, .ref q2), (5, .ref q8), (6, .int (nI (und c r w))), (7, .int (nI (t - 1))), (8, .long v), (11, .int (nI k2))]) hx hb dL_solved_223 hl (by decide) rfl (fun ls hl => ?_)
                            refine lv_iinc (pc := 225) (v := nI (k2 + 1)) (lv' := [(11, .int (nI (k2 + 1))), (10, .int (iI (wor c r v (mem (opl c r w) k2)))), (13, .int (iI (wor c r v (mem (opl c r w) k2)))), (12, .int (nI (gai c r v (mem (opl c r w) k2)))), (0, .ref dd), (1, .long w), (3, .int x), (4, .ref q2), (5, .ref q8), (6, .int (nI (und c r w))), (7, .int (nI (t - 1))), (8, .long v)]) hx hb dL_solved_225 hl (k := 11) rfl (n_inc k2 1) (by decide) rfl (fun ls hl => ?_)
                            refine lv_goto (pc := 228) (tgt := 129) hx hb dL_solved_228 (by decide) ?_
                            exact ih129 (k2 + 1) (wor c r v (mem (opl c r w) k2)) (by first | assumption | omega) (by rw [hvn]; exact hsv.yes t8 (by rw [← hvn]; omega)) (by omega) (fun h0 => absurd c199 (by omega)) (by omega) _ _ hP hD hS _ (lv_sub hl [4, 5, 6, 7, 8, 9, 10, 11, 1, 0] rfl)
                          refine lv_aload (pc := 202) hx hb dL_solved_202 (lv_at hl 5 rfl) ?_
                          refine lv_iload (pc := 204) hx hb dL_solved_204 (lv_at hl 11 rfl) ?_
                          refine va_iald (pc := 206) hx hb hK.1 hP 1 0 rfl rfl (vp_in_nI (by omega) (by decide)) dL_solved_206 ?_
                          refine top_i (show f (nI k2).toNatClampNeg = f k2 from by rw [nI_clamp (by omega)]) ?_
                          refine top_i (show f k2 = nI (mem (opl c r w) k2) from hf9 k2 c133) ?_
                          refine lv_iload_n (pc := 207) hx hb dL_solved_207 rfl (lv_at hl 4 rfl) ?_
                          refine lv_icmp_ne (pc := 208) (tgt := 214) hx hb dL_solved_208 (by decide) (fun c208 => ?_) (fun c208 => ?_)
                          · refine lv_iload (pc := 214) hx hb dL_solved_214 (lv_at hl 0 rfl) ?_
                            refine lv_iload (pc := 216) hx hb dL_solved_216 (lv_at hl 10 rfl) ?_
                            refine lv_icmp_le (pc := 218) (tgt := 225) hx hb dL_solved_218 (by decide) (fun c218 => ?_) (fun c218 => ?_)
                            · have c218z := (iI_le (by omega) (by omega) (by omega) (by omega)).mp c218
                              refine lv_iinc (pc := 225) (v := nI (k2 + 1)) (lv' := [(11, .int (nI (k2 + 1))), (13, .int (iI (wor c r v (mem (opl c r w) k2)))), (12, .int (nI (gai c r v (mem (opl c r w) k2)))), (0, .ref dd), (1, .long w), (3, .int x), (4, .ref q2), (5, .ref q8), (6, .int (nI (und c r w))), (7, .int (nI (t - 1))), (8, .long v), (10, .int (iI z))]) hx hb dL_solved_225 hl (k := 11) rfl (n_inc k2 1) (by decide) rfl (fun ls hl => ?_)
                              refine lv_goto (pc := 228) (tgt := 129) hx hb dL_solved_228 (by decide) ?_
                              exact ih129 (k2 + 1) z (by first | assumption | omega) (hsv.no hC c133 t8 (by rw [← hvn]; exact c218z)) (hzb) (fun h0 => lt_s (hno h0) (fun e => c208 (by rw [hxo]; exact e.symm))) (by omega) _ _ hP hD hS _ (lv_sub hl [3, 4, 5, 6, 7, 8, 9, 10, 11, 0] rfl)
                            have c218z : ¬ _ := fun h => c218 ((iI_le (by omega) (by omega) (by omega) (by omega)).mpr h)
                            refine lv_iload (pc := 221) hx hb dL_solved_221 (lv_at hl 0 rfl) ?_
                            refine lv_istore (pc := 223) (lv' := [(10, .int (iI (wor c r v (mem (opl c r w) k2)))), (13, .int (iI (wor c r v (mem (opl c r w) k2)))), (12, .int (nI (gai c r v (mem (opl c r w) k2)))), (0, .ref dd), (1, .long w), (3, .int x), (4, .ref q2), (5, .ref q8), (6, .int (nI (und c r w))), (7, .int (nI (t - 1))), (8, .long v), (11, .int (nI k2))]) hx hb dL_solved_223 hl (by decide) rfl (fun ls hl => ?_)
                            refine lv_iinc (pc := 225) (v := nI (k2 + 1)) (lv' := [(11, .int (nI (k2 + 1))), (10, .int (iI (wor c r v (mem (opl c r w) k2)))), (13, .int (iI (wor c r v (mem (opl c r w) k2)))), (12, .int (nI (gai c r v (mem (opl c r w) k2)))), (0, .ref dd), (1, .long w), (3, .int x), (4, .ref q2), (5, .ref q8), (6, .int (nI (und c r w))), (7, .int (nI (t - 1))), (8, .long v)]) hx hb dL_solved_225 hl (k := 11) rfl (n_inc k2 1) (by decide) rfl (fun ls hl => ?_)
                            refine lv_goto (pc := 228) (tgt := 129) hx hb dL_solved_228 (by decide) ?_
                            exact ih129 (k2 + 1) (wor c r v (mem (opl c r w) k2)) (by first | assumption | omega) (by rw [hvn]; exact hsv.yes t8 (by rw [← hvn]; omega)) (by omega) (fun h0 => lt_s (hno h0) (fun e => c208 (by rw [hxo]; exact e.symm))) (by omega) _ _ hP hD hS _ (lv_sub hl [4, 5, 6, 7, 8, 9, 10, 11, 1, 0] rfl)
                          have ho9 : o = some (mem (opl c r w) k2) := oI_is (c208.trans hxo) (by omega) (fun l h => by have := (hob l h).1; omega)
                          have hvw : v = w := by rw [hvn, c199, nw_0]
                          refine lv_iload (pc := 211) hx hb dL_solved_211 (lv_at hl 0 rfl) ?_
                          subst hAA
                          exact wg_iret (by show 0 + 1 + 1 ≤ 2; omega) (by show 0 + 40 + 64 ≤ 104; omega) hx hb hr hlocks (hP.sub [0] rfl) hS (()) (by rw [ho9, hvw]; rfl) (trivial) (rfl) dL_solved_213
                        refine lv_iload (pc := 168) hx hb dL_solved_168 (lv_at hl 0 rfl) ?_
                        refine lv_aload (pc := 170) hx hb dL_solved_170 (lv_at hl 5 rfl) ?_
                        refine lv_iload (pc := 172) hx hb dL_solved_172 (lv_at hl 7 rfl) ?_
                        refine lv_iconst (pc := 174) (v := nI 1) hx hb dL_solved_174 rfl ?_
                        refine lv_iload (pc := 175) hx hb dL_solved_175 (lv_at hl 10 rfl) ?_
                        refine lv_ishl (pc := 177) hx hb dL_solved_177 ?_
                        refine top_i (show (nI 1) <<< ((nI k2) &&& 31) = nI (2 ^ k2) from shl1 k2 (by omega)) ?_
                        refine lv_ior (pc := 178) hx hb dL_solved_178 ?_
                        refine top_i (show (nI (t - 1)) ||| (nI (2 ^ k2)) = nI ((t - 1) ||| 2 ^ k2) from fa_or _ _) ?_
                        refine va_iald (pc := 179) hx hb hK.1 hP 2 0 rfl rfl (vp_in_nI (by omega) (by decide)) dL_solved_179 ?_
                        refine top_i (show fv (nI ((t - 1) ||| 2 ^ k2)).toNatClampNeg = fv ((t - 1) ||| 2 ^ k2) from by rw [nI_clamp (by omega)]) ?_
                        refine top_i (show fv ((t - 1) ||| 2 ^ k2) = iI (out c r (v ||| b1 (mem (opl c r w) k2))) from by rw [hvn, nw_or hC c133]; exact hfv _ (by omega) hol) ?_
                        refine lv_iadd (pc := 180) hx hb dL_solved_180 ?_
                        refine top_i (show (nI (gai c r v (mem (opl c r w) k2))) + (iI (out c r (v ||| b1 (mem (opl c r w) k2)))) = iI (wor c r v (mem (opl c r w) k2)) from by unfold wor wrF; rw [if_pos c165, iI_nI, iI_add]) ?_
                        refine lv_goto (pc := 181) (tgt := 195) hx hb dL_solved_181 (by decide) ?_
                        refine lv_istore (pc := 195) (lv' := [(13, .int (iI (wor c r v (mem (opl c r w) k2)))), (12, .int (nI (gai c r v (mem (opl c r w) k2)))), (0, .ref dd), (1, .long w), (3, .int x), (4, .ref q2), (5, .ref q8), (6, .int (nI (und c r w))), (7, .int (nI (t - 1))), (8, .long v), (10, .int (iI z)), (11, .int (nI k2))]) hx hb dL_solved_195 hl (by decide) rfl (fun ls hl => ?_)
                        refine lv_iload (pc := 197) hx hb dL_solved_197 (lv_at hl 8 rfl) ?_
                        refine n_if_ne (pc := 199) (tgt := 214) hx hb (by omega) dL_solved_199 (by decide) (fun c199 => ?_) (fun c199 => ?_)
                        · refine lv_iload (pc := 214) hx hb dL_solved_214 (lv_at hl 0 rfl) ?_
                          refine lv_iload (pc := 216) hx hb dL_solved_216 (lv_at hl 10 rfl) ?_
                          refine lv_icmp_le (pc := 218) (tgt := 225) hx hb dL_solved_218 (by decide) (fun c218 => ?_) (fun c218 => ?_)
                          · have c218z := (iI_le (by omega) (by omega) (by omega) (by omega)).mp c218
                            refine lv_iinc (pc := 225) (v := nI (k2 + 1)) (lv' := [(11, .int (nI (k2 + 1))), (13, .int (iI (wor c r v (mem (opl c r w) k2)))), (12, .int (nI (gai c r v (mem (opl c r w) k2)))), (0, .ref dd), (1, .long w), (3, .int x), (4, .ref q2), (5, .ref q8), (6, .int (nI (und c r w))), (7, .int (nI (t - 1))), (8, .long v), (10, .int (iI z))]) hx hb dL_solved_225 hl (k := 11) rfl (n_inc k2 1) (by decide) rfl (fun ls hl => ?_)
                            refine lv_goto (pc := 228) (tgt := 129) hx hb dL_solved_228 (by decide) ?_
                            exact ih129 (k2 + 1) z (by first | assumption | omega) (hsv.no hC c133 t8 (by rw [← hvn]; exact c218z)) (hzb) (fun h0 => absurd c199 (by omega)) (by omega) _ _ hP hD hS _ (lv_sub hl [3, 4, 5, 6, 7, 8, 9, 10, 11, 0] rfl)
                          have c218z : ¬ _ := fun h => c218 ((iI_le (by omega) (by omega) (by omega) (by omega)).mpr h)
                          refine lv_iload (pc := 221) hx hb dL_solved_221 (lv_at hl 0 rfl) ?_
                          refine lv_istore (pc := 223) (lv' := [(10, .int (iI (wor c r v (mem (opl c r w) k2)))), (13, .int (iI (wor c r v (mem (opl c r w) k2)))), (12, .int (nI (gai c r v (mem (opl c r w) k2)))), (0, .ref dd), (1, .long w), (3, .int x), (4, .ref q2), (5, .ref q8), (6, .int (nI (und c r w))), (7, .int (nI (t - 1))), (8, .long v), (11, .int (nI k2))]) hx hb dL_solved_223 hl (by decide) rfl (fun ls hl => ?_)
                          refine lv_iinc (pc := 225) (v := nI (k2 + 1)) (lv' := [(11, .int (nI (k2 + 1))), (10, .int (iI (wor c r v (mem (opl c r w) k2)))), (13, .int (iI (wor c r v (mem (opl c r w) k2)))), (12, .int (nI (gai c r v (mem (opl c r w) k2)))), (0, .ref dd), (1, .long w), (3, .int x), (4, .ref q2), (5, .ref q8), (6, .int (nI (und c r w))), (7, .int (nI (t - 1))), (8, .long v)]) hx hb dL_solved_225 hl (k := 11) rfl (n_inc k2 1) (by decide) rfl (fun ls hl => ?_)
                          refine lv_goto (pc := 228) (tgt := 129) hx hb dL_solved_228 (by decide) ?_
                          exact ih129 (k2 + 1) (wor c r v (mem (opl c r w) k2)) (by first | assumption | omega) (by rw [hvn]; exact hsv.yes t8 (by rw [← hvn]; omega)) (by omega) (fun h0 => absurd c199 (by omega)) (by omega) _ _ hP hD hS _ (lv_sub hl [4, 5, 6, 7, 8, 9, 10, 11, 1, 0] rfl)
                        refine lv_aload (pc := 202) hx hb dL_solved_202 (lv_at hl 5 rfl) ?_
                        refine lv_iload (pc := 204) hx hb dL_solved_204 (lv_at hl 11 rfl) ?_
                        refine va_iald (pc := 206) hx hb hK.1 hP 1 0 rfl rfl (vp_in_nI (by omega) (by decide)) dL_solved_206 ?_
                        refine top_i (show f (nI k2).toNatClampNeg = f k2 from by rw [nI_clamp (by omega)]) ?_
                        refine top_i (show f k2 = nI (mem (opl c r w) k2) from hf9 k2 c133) ?_
                        refine lv_iload_n (pc := 207) hx hb dL_solved_207 rfl (lv_at hl 4 rfl) ?_
                        refine lv_icmp_ne (pc := 208) (tgt := 214) hx hb dL_solved_208 (by decide) (fun c208 => ?_) (fun c208 => ?_)
                        · refine lv_iload (pc := 214) hx hb dL_solved_214 (lv_at hl 0 rfl) ?_
                          refine lv_iload (pc := 216) hx hb dL_solved_216 (lv_at hl 10 rfl) ?_
                          refine lv_icmp_le (pc := 218) (tgt := 225) hx hb dL_solved_218 (by decide) (fun c218 => ?_) (fun c218 => ?_)
                          · have c218z := (iI_le (by omega) (by omega) (by omega) (by omega)).mp c218
                            refine lv_iinc (pc := 225) (v := nI (k2 + 1)) (lv' := [(11, .int (nI (k2 + 1))), (13, .int (iI (wor c r v (mem (opl c r w) k2)))), (12, .int (nI (gai c r v (mem (opl c r w) k2)))), (0, .ref dd), (1, .long w), (3, .int x), (4, .ref q2), (5, .ref q8), (6, .int (nI (und c r w))), (7, .int (nI (t - 1))), (8, .long v), (10, .int (iI z))]) hx hb dL_solved_225 hl (k := 11) rfl (n_inc k2 1) (by decide) rfl (fun ls hl => ?_)
                            refine lv_goto (pc := 228) (tgt := 129) hx hb dL_solved_228 (by decide) ?_
                            exact ih129 (k2 + 1) z (by first | assumption | omega) (hsv.no hC c133 t8 (by rw [← hvn]; exact c218z)) (hzb) (fun h0 => lt_s (hno h0) (fun e => c208 (by rw [hxo]; exact e.symm))) (by omega) _ _ hP hD hS _ (lv_sub hl [3, 4, 5, 6, 7, 8, 9, 10, 11, 0] rfl)
                          have c218z : ¬ _ := fun h => c218 ((iI_le (by omega) (by omega) (by omega) (by omega)).mpr h)
                          refine lv_iload (pc := 221) hx hb dL_solved_221 (lv_at hl 0 rfl) ?_
                          refine lv_istore (pc := 223) (lv' := [(10, .int (iI (wor c r v (mem (opl c r w) k2)))), (13, .int (iI (wor c r v (mem (opl c r w) k2)))), (12, .int (nI (gai c r v (mem (opl c r w) k2)))), (0, .ref dd), (1, .long w), (3, .int x), (4, .ref q2), (5, .ref q8), (6, .int (nI (und c r w))), (7, .int (nI (t - 1))), (8, .long v), (11, .int (nI k2))]) hx hb dL_solved_223 hl (by decide) rfl (fun ls hl => ?_)
                          refine lv_iinc (pc := 225) (v := nI (k2 + 1)) (lv' := [(11, .int (nI (k2 + 1))), (10, .int (iI (wor c r v (mem (opl c r w) k2)))), (13, .int (iI (wor c r v (mem (opl c r w) k2)))), (12, .int (nI (gai c r v (mem (opl c r w) k2)))), (0, .ref dd), (1, .long w), (3, .int x), (4, .ref q2), (5, .ref q8), (6, .int (nI (und c r w))), (7, .int (nI (t - 1))), (8, .long v)]) hx hb dL_solved_225 hl (k := 11) rfl (n_inc k2 1) (by decide) rfl (fun ls hl => ?_)
                          refine lv_goto (pc := 228) (tgt := 129) hx hb dL_solved_228 (by decide) ?_
                          exact ih129 (k2 + 1) (wor c r v (mem (opl c r w) k2)) (by first | assumption | omega) (by rw [hvn]; exact hsv.yes t8 (by rw [← hvn]; omega)) (by omega) (fun h0 => lt_s (hno h0) (fun e => c208 (by rw [hxo]; exact e.symm))) (by omega) _ _ hP hD hS _ (lv_sub hl [4, 5, 6, 7, 8, 9, 10, 11, 1, 0] rfl)
                        have ho9 : o = some (mem (opl c r w) k2) := oI_is (c208.trans hxo) (by omega) (fun l h => by have := (hob l h).1; omega)
                        have hvw : v = w := by rw [hvn, c199, nw_0]
                        refine lv_iload (pc := 211) hx hb dL_solved_211 (lv_at hl 0 rfl) ?_
                        subst hAA
                        exact wg_iret (by show 0 + 1 + 1 ≤ 2; omega) (by show 0 + 40 + 64 ≤ 104; omega) hx hb hr hlocks (hP.sub [0] rfl) hS (()) (by rw [ho9, hvw]; rfl) (trivial) (rfl) dL_solved_213
                      have t8 : (t - 1).testBit k2 = true := zb_is1.mp c144
                      refine lv_goto (pc := 147) (tgt := 225) hx hb dL_solved_147 (by decide) ?_
                      refine lv_iinc (pc := 225) (v := nI (k2 + 1)) (lv' := [(11, .int (nI (k2 + 1))), (0, .ref dd), (1, .long w), (3, .int x), (4, .ref q2), (5, .ref q8), (6, .int (nI (und c r w))), (7, .int (nI (t - 1))), (8, .long v), (10, .int (iI z))]) hx hb dL_solved_225 hl (k := 9) rfl (n_inc k2 1) (by decide) rfl (fun ls hl => ?_)
                      refine lv_goto (pc := 228) (tgt := 129) hx hb dL_solved_228 (by decide) ?_
                      exact ih129 (k2 + 1) z (by first | assumption | omega) (hsv.skip t8) (hzb) (fun h0 => by rw [h0, Nat.zero_testBit] at t8; cases t8) (by omega) _ _ hP hD hS _ (lv_sub hl [1, 2, 3, 4, 5, 6, 7, 8, 9, 0] rfl)
                  exact L129 ((und c r w - 0) + 1) 0 0 (by first | assumption | omega) (SvH.z (by rw [if_pos c115])) (by omega) (fun _ q h => absurd h (Nat.not_lt_zero _)) (Nat.lt_succ_self _) _ _ hP hD hS _ (lv_sub hl [2, 3, 4, 5, 6, 7, 8, 9, 1, 0] rfl)
                refine lv_iload (pc := 78) hx hb dL_solved_78 (lv_at hl 6 rfl) ?_
                refine lv_iload (pc := 80) hx hb dL_solved_80 (lv_at hl 8 rfl) ?_
                refine lv_ishr (pc := 82) hx hb dL_solved_82 ?_
                refine lv_iconst (pc := 83) (v := nI 1) hx hb dL_solved_83 rfl ?_
                refine lv_iand (pc := 84) hx hb dL_solved_84 ?_
                refine top_i (show ((nI (t - 1)) >>> ((nI i) &&& 31)) &&& (nI 1) = zb ((t - 1).testBit i) from ishr_bit (by omega) (by omega)) ?_
                refine lv_iconst (pc := 85) (v := nI 1) hx hb dL_solved_85 rfl ?_
                refine lv_icmp_ne (pc := 86) (tgt := 101) hx hb dL_solved_86 (by decide) (fun c86 => ?_) (fun c86 => ?_)
                · have t8 : (t - 1).testBit i = false := bfn (fun q => c86 (zb_is1.mpr q))
                  refine lv_iinc (pc := 101) (v := nI (i + 1)) (lv' := [(10, .int (nI (i + 1))), (0, .ref dd), (1, .long w), (3, .int x), (4, .ref q2), (5, .ref q8), (6, .int (nI (und c r w))), (7, .int (nI (t - 1))), (8, .long v)]) hx hb dL_solved_101 hl (k := 8) rfl (n_inc i 1) (by decide) rfl (fun ls hl => ?_)
                  refine lv_goto (pc := 104) (tgt := 71) hx hb dL_solved_104 (by decide) ?_
                  exact ih71 (i + 1) v (by first | assumption | omega) (by rw [nwF, if_neg (by rw [t8]; decide), ← hv9]) (by omega) _ _ hP hD hS _ (lv_sub hl [1, 2, 3, 4, 5, 6, 7, 8, 0] rfl)
                have t8 : (t - 1).testBit i = true := zb_is1.mp c86
                refine lv_lload (pc := 89) hx hb dL_solved_89 (lv_at hl 7 rfl) ?_
                refine lv_lconst (pc := 91) (v := 1) hx hb dL_solved_91 (by decide) ?_
                refine lv_aload (pc := 92) hx hb dL_solved_92 (lv_at hl 3 rfl) ?_
                refine lv_iload (pc := 94) hx hb dL_solved_94 (lv_at hl 8 rfl) ?_
                refine va_iald (pc := 96) hx hb hK.1 hP 1 0 rfl rfl (vp_in_nI (by omega) (by decide)) dL_solved_96 ?_
                refine top_i (show f (nI i).toNatClampNeg = f i from by rw [nI_clamp (by omega)]) ?_
                refine top_i (show f i = nI (mem (opl c r w) i) from hf9 i c75) ?_
                refine lv_lshl (pc := 97) (v := b1 (mem (opl c r w) i)) hx hb dL_solved_97 (b1_shl _ (lt_al hC (mem_und hC c75).1)) ?_
                refine lv_lor (pc := 98) hx hb dL_solved_98 ?_
                refine lv_lstore (pc := 99) (lv' := [(8, .long (v ||| (b1 (mem (opl c r w) i)))), (0, .ref dd), (1, .long w), (3, .int x), (4, .ref q2), (5, .ref q8), (6, .int (nI (und c r w))), (7, .int (nI (t - 1))), (10, .int (nI i))]) hx hb dL_solved_99 hl (by decide) rfl (fun ls hl => ?_)
                refine lv_iinc (pc := 101) (v := nI (i + 1)) (lv' := [(10, .int (nI (i + 1))), (8, .long (v ||| (b1 (mem (opl c r w) i)))), (0, .ref dd), (1, .long w), (3, .int x), (4, .ref q2), (5, .ref q8), (6, .int (nI (und c r w))), (7, .int (nI (t - 1)))]) hx hb dL_solved_101 hl (k := 8) rfl (n_inc i 1) (by decide) rfl (fun ls hl => ?_)
                refine lv_goto (pc := 104) (tgt := 71) hx hb dL_solved_104 (by decide) ?_
                exact ih71 (i + 1) (v ||| (b1 (mem (opl c r w) i))) (by first | assumption | omega) (by rw [nwF, if_pos t8, ← hv9]) (by omega) _ _ hP hD hS _ (lv_sub hl [2, 3, 4, 5, 6, 7, 8, 1, 0] rfl)
            exact L71 ((und c r w - 0) + 1) 0 w (by first | assumption | omega) (rfl) (Nat.lt_succ_self _) _ _ hP hD hS _ (lv_sub hl [2, 3, 4, 5, 6, 7, 8, 1, 0] rfl)
        exact L60 ((2 ^ und c r w) + 1) (2 ^ und c r w) (fun _ => 0) (Nat.le_refl _) (fun q h1 h2 => absurd h1 (by omega)) (fun h => absurd h (by omega)) (Nat.lt_succ_self _) _ _ hP hD hS _ (lv_sub hl [1, 2, 3, 4, 5, 6, 0] rfl)
      refine lv_lload_n (pc := 27) hx hb dL_solved_27 rfl (lv_at hl 1 rfl) ?_
      refine lv_iload (pc := 28) hx hb dL_solved_28 (lv_at hl 6 rfl) ?_
      refine ro_go (pc := 30) (va_runS (As := [.long w, .int (nI i)]) (rest := []) ⟨hx, hb, hml, hown, hts⟩ (c_L_has l D Y w i (by omega)) (va_cwS 2 hts gL_solved_L_has rfl rfl rfl hdL_has ⟨Nat.le_of_ble_eq_true rfl, Nat.le_of_ble_eq_true rfl⟩) (ro_pS hK (hP.sub [] rfl)) rfl rfl hl.1 rfl (lv_room (Nat.le_of_ble_eq_true rfl)) dL_solved_30 ⟨by show 0 + 1 + 1 + 0 ≤ 2; omega, by show 0 + 40 + 64 + 0 ≤ 104; omega⟩) ?_
      refine z_if_ne (pc := 33) (tgt := 46) hx hb dL_solved_33 (by decide) (fun c33 => ?_) (fun c33 => ?_)
      · refine lv_iinc (pc := 46) (v := nI (i + 1)) (lv' := [(7, .int (nI (i + 1))), (0, .ref dd), (1, .long w), (3, .int x), (4, .ref q2), (5, .ref q8), (6, .int (nI k))]) hx hb dL_solved_46 hl (k := 6) rfl (n_inc i 1) (by decide) rfl (fun ls hl => ?_)
        refine lv_goto (pc := 49) (tgt := 18) hx hb dL_solved_49 (by decide) ?_
        exact ih18 (i + 1) k f (by first | assumption | omega) (by rw [fb_ct_succ, c33, ← hk]; rfl) (hf9) (by omega) _ _ hP hD hS _ (lv_sub hl [1, 2, 3, 4, 5, 6, 0] rfl)
      have hmo := mem_op hC c24 c33 hk
      refine lv_aload (pc := 36) hx hb dL_solved_36 (lv_at hl 3 rfl) ?_
      refine lv_iload (pc := 38) hx hb dL_solved_38 (lv_at hl 5 rfl) ?_
      refine lv_iinc (pc := 40) (v := nI (k + 1)) (lv' := [(6, .int (nI (k + 1))), (0, .ref dd), (1, .long w), (3, .int x), (4, .ref q2), (5, .ref q8), (7, .int (nI i))]) hx hb dL_solved_40 hl (k := 5) rfl (n_inc k 1) (by decide) rfl (fun ls hl => ?_)
      refine lv_iload (pc := 43) hx hb dL_solved_43 (lv_at hl 6 rfl) ?_
      refine va_iast (pc := 45) hx hb hK.1 hP hD hS 1 0 rfl rfl (vp_in_nI (by omega) (by decide)) dL_solved_45 (fun H locs hP hD hS => ?_)
      rw [nI_clamp (by omega)] at hP hD
      have hP : va_P D vwCl [(dd, .inl (Y.1, 4, .inl (dF (nI c) (nI r) dx dy))), (q2, .inl (Y.1, 40, .inl (upd f k (nI i)))), (q8, .inl (Y.1, 64, .inl (fun _ => 0)))] H := hP
      have hD : va_D AA [(dd, .inl (Y.1, 4, .inl (dF (nI c) (nI r) dx dy))), (q2, .inl (Y.1, 40, .inl (upd f k (nI i)))), (q8, .inl (Y.1, 64, .inl (fun _ => 0)))] := hD
      refine lv_iinc (pc := 46) (v := nI (i + 1)) (lv' := [(7, .int (nI (i + 1))), (6, .int (nI (k + 1))), (0, .ref dd), (1, .long w), (3, .int x), (4, .ref q2), (5, .ref q8)]) hx hb dL_solved_46 hl (k := 6) rfl (n_inc i 1) (by decide) rfl (fun ls hl => ?_)
      refine lv_goto (pc := 49) (tgt := 18) hx hb dL_solved_49 (by decide) ?_
      exact ih18 (i + 1) (k + 1) (upd f k (nI i)) (by first | assumption | omega) (by rw [fb_ct_succ, c33, ← hk]; rfl) (lt_s (fun j hj => by rw [pk_un (by omega)]; exact hf9 j hj) (by rw [pk_us, hmo.2])) (by omega) _ _ hP hD hS _ (lv_sub hl [2, 3, 4, 5, 6, 1, 0] rfl)
  exact L18 ((al c r - 0) + 1) 0 0 (fun _ => 0) (by first | assumption | omega) (rfl) (fun j h => absurd h (Nat.not_lt_zero _)) (Nat.lt_succ_self _) _ _ hP hD hS _ (lv_sub hl [4, 5, 6, 3, 2, 1, 0] rfl)
