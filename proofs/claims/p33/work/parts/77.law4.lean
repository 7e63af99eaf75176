set_option maxHeartbeats 1200000 in
set_option maxRecDepth 100000 in
theorem c_L_joins (l : Launch) (D : va_G) (Y : vY) (nn : Nat) (f : Nat → Int32) (b : Nat) (x : Int32) (o : Option Nat) (hb16 : b < 16) (hxo : x = oI o) (hob : ∀ a, o = some a → a < 16) : Mu l yL_joins wsL_joins ({ frames := 0, cells := 0, slots := 0, locals := 0 } : Room) [.ref nn, .int (nI b), .int x] D Y [(nn, .inl (Y.1, 16, .inl f))] (fun _ : Unit => some (.int (zb (jnB f b o)))) (fun _ : Unit => [(nn, .inl (Y.1, 16, .inl (jnF f b o)))]) (fun _ : Unit => True) := by
  refine mu_intro (by decide +kernel) rfl (Nat.le_of_ble_eq_true rfl) [(0, .ref nn), (1, .int (nI b)), (2, .int x)] rfl ?_
  intro pG eG sG mG aG bG tG cG ls hx hb hr hml hts hown hlocks hK hP hD hS hl
  generalize hAA : adA [(nn, .inl (Y.1, 16, .inl f))] = AA at hD hS ⊢
  have hP : va_P D vwCl [(nn, .inl (Y.1, 16, .inl f))] sG.heap := hP
  have hD : va_D AA [(nn, .inl (Y.1, 16, .inl f))] := hD
  have hown : sG.vm.findClass RL = some mG.cls := hown
  have hl : lv_has ls 4 [(0, .ref nn), (1, .int (nI b)), (2, .int x)] := hl
  have hS : va_S AA sG.heap sG.heap [] := hS
  refine lv_iload_n (pc := 0) hx hb dL_joins_0 rfl (lv_at hl 2 rfl) ?_
  refine lv_if_lt (pc := 1) (tgt := 25) hx hb dL_joins_1 (by decide) (fun c1 => ?_) (fun c1 => ?_)
  · have ho := oI_neg hxo c1 (fun a h => by have := hob a h; omega)
    refine lv_iconst (pc := 25) (v := nI 0) hx hb dL_joins_25 rfl ?_
    subst hAA
    exact mu_zret hx hb hr hlocks hP hS (()) (zb_0 (by rw [ho]; rfl)) (rfl) (trivial) (by rw [jnF_n (by rw [ho]; rfl)]) dL_joins_26
  obtain ⟨a, ha, rfl⟩ := oI_pos hxo c1
  have ha16 := hob a ha
  have hl : lv_has ls 4 [(0, .ref nn), (1, .int (nI b)), (2, .int (nI a))] := hl
  refine lv_aload_n (pc := 4) hx hb dL_joins_4 rfl (lv_at hl 0 rfl) ?_
  refine lv_iload_n (pc := 5) hx hb dL_joins_5 rfl (lv_at hl 1 rfl) ?_
  refine va_iald (pc := 6) hx hb hK.1 hP 0 0 rfl rfl (vp_in_nI (by omega) (by decide)) dL_joins_6 ?_
  refine top_i (show f (nI b).toNatClampNeg = f b from by rw [nI_clamp (by omega)]) ?_
  refine lv_if_lt (pc := 7) (tgt := 25) hx hb dL_joins_7 (by decide) (fun c7 => ?_) (fun c7 => ?_)
  · refine lv_iconst (pc := 25) (v := nI 0) hx hb dL_joins_25 rfl ?_
    subst hAA
    exact mu_zret hx hb hr hlocks hP hS (()) (zb_0 (by rw [ha]; exact jnB_no (fun q => q.1 c7))) (rfl) (trivial) (by rw [jnF_n (by rw [ha]; exact jnB_no (fun q => q.1 c7))]) dL_joins_26
  refine lv_aload_n (pc := 10) hx hb dL_joins_10 rfl (lv_at hl 0 rfl) ?_
  refine lv_iload_n (pc := 11) hx hb dL_joins_11 rfl (lv_at hl 2 rfl) ?_
  refine va_iald (pc := 12) hx hb hK.1 hP 0 0 rfl rfl (vp_in_nI (by omega) (by decide)) dL_joins_12 ?_
  refine top_i (show f (nI a).toNatClampNeg = f a from by rw [nI_clamp (by omega)]) ?_
  refine lv_if_lt (pc := 13) (tgt := 25) hx hb dL_joins_13 (by decide) (fun c13 => ?_) (fun c13 => ?_)
  · refine lv_iconst (pc := 25) (v := nI 0) hx hb dL_joins_25 rfl ?_
    subst hAA
    exact mu_zret hx hb hr hlocks hP hS (()) (zb_0 (by rw [ha]; exact jnB_no (fun q => q.2.1 c13))) (rfl) (trivial) (by rw [jnF_n (by rw [ha]; exact jnB_no (fun q => q.2.1 c13))]) dL_joins_26
  refine lv_aload_n (pc := 16) hx hb dL_joins_16 rfl (lv_at hl 0 rfl) ?_
  refine lv_iload_n (pc := 17) hx hb dL_joins_17 rfl (lv_at hl 1 rfl) ?_
  refine va_iald (pc := 18) hx hb hK.1 hP 0 0 rfl rfl (vp_in_nI (by omega) (by decide)) dL_joins_18 ?_
  refine top_i (show f (nI b).toNatClampNeg = f b from by rw [nI_clamp (by omega)]) ?_
  refine lv_aload_n (pc := 19) hx hb dL_joins_19 rfl (lv_at hl 0 rfl) ?_
  refine lv_iload_n (pc := 20) hx hb dL_joins_20 rfl (lv_at hl 2 rfl) ?_
  refine va_iald (pc := 21) hx hb hK.1 hP 0 0 rfl rfl (vp_in_nI (by omega) (by decide)) dL_joins_21 ?_
  refine top_i (show f (nI a).toNatClampNeg = f a from by rw [nI_clamp (by omega)]) ?_
  refine lv_icmp_ne (pc := 22) (tgt := 27) hx hb dL_joins_22 (by decide) (fun c22 => ?_) (fun c22 => ?_)
  · refine lv_aload_n (pc := 27) hx hb dL_joins_27 rfl (lv_at hl 0 rfl) ?_
    refine lv_iload_n (pc := 28) hx hb dL_joins_28 rfl (lv_at hl 1 rfl) ?_
    refine va_iald (pc := 29) hx hb hK.1 hP 0 0 rfl rfl (vp_in_nI (by omega) (by decide)) dL_joins_29 ?_
    refine top_i (show f (nI b).toNatClampNeg = f b from by rw [nI_clamp (by omega)]) ?_
    refine lv_aload_n (pc := 30) hx hb dL_joins_30 rfl (lv_at hl 0 rfl) ?_
    refine lv_iload_n (pc := 31) hx hb dL_joins_31 rfl (lv_at hl 2 rfl) ?_
    refine va_iald (pc := 32) hx hb hK.1 hP 0 0 rfl rfl (vp_in_nI (by omega) (by decide)) dL_joins_32 ?_
    refine top_i (show f (nI a).toNatClampNeg = f a from by rw [nI_clamp (by omega)]) ?_
    refine lv_icmp_ge (pc := 33) (tgt := 42) hx hb dL_joins_33 (by decide) (fun c33 => ?_) (fun c33 => ?_)
    · refine lv_aload_n (pc := 42) hx hb dL_joins_42 rfl (lv_at hl 0 rfl) ?_
      refine lv_iload_n (pc := 43) hx hb dL_joins_43 rfl (lv_at hl 2 rfl) ?_
      refine va_iald (pc := 44) hx hb hK.1 hP 0 0 rfl rfl (vp_in_nI (by omega) (by decide)) dL_joins_44 ?_
      refine top_i (show f (nI a).toNatClampNeg = f a from by rw [nI_clamp (by omega)]) ?_
      refine lv_istore_n (pc := 45) (lv' := [(3, .int (f a)), (0, .ref nn), (1, .int (nI b)), (2, .int (nI a))]) hx hb dL_joins_45 rfl hl (by decide) rfl (fun ls hl => ?_)
      refine lv_aload_n (pc := 46) hx hb dL_joins_46 rfl (lv_at hl 1 rfl) ?_
      refine lv_iload_n (pc := 47) hx hb dL_joins_47 rfl (lv_at hl 2 rfl) ?_
      refine lv_iload_n (pc := 48) hx hb dL_joins_48 rfl (lv_at hl 0 rfl) ?_
      refine va_iast (pc := 49) hx hb hK.1 hP hD hS 0 0 rfl rfl (vp_in_nI (by omega) (by decide)) dL_joins_49 (fun H locs hP hD hS => ?_)
      rw [nI_clamp (by omega)] at hP hD
      have hP : va_P D vwCl [(nn, .inl (Y.1, 16, .inl (upd f b (f a))))] H := hP
      have hD : va_D AA [(nn, .inl (Y.1, 16, .inl (upd f b (f a))))] := hD
      refine lv_aload_n (pc := 50) hx hb dL_joins_50 rfl (lv_at hl 1 rfl) ?_
      refine lv_iload_n (pc := 51) hx hb dL_joins_51 rfl (lv_at hl 3 rfl) ?_
      refine lv_iload_n (pc := 52) hx hb dL_joins_52 rfl (lv_at hl 0 rfl) ?_
      refine va_iast (pc := 53) hx hb hK.1 hP hD hS 0 0 rfl rfl (vp_in_nI (by omega) (by decide)) dL_joins_53 (fun H locs hP hD hS => ?_)
      rw [nI_clamp (by omega)] at hP hD
      have hP : va_P D vwCl [(nn, .inl (Y.1, 16, .inl (upd (upd f b (f a)) a (f a))))] H := hP
      have hD : va_D AA [(nn, .inl (Y.1, 16, .inl (upd (upd f b (f a)) a (f a))))] := hD
      refine lv_iconst (pc := 54) (v := nI 1) hx hb dL_joins_54 rfl ?_
      subst hAA
      exact mu_zret hx hb hr hlocks hP hS (()) (zb_1 (by rw [ha]; exact jnB_mk c7 c13 c22)) (rfl) (trivial) (by rw [ha, jnF_t (jnB_mk c7 c13 c22)]; unfold jnV; rw [if_neg (Int32.not_lt.mpr c33)]) dL_joins_55
    refine lv_aload_n (pc := 36) hx hb dL_joins_36 rfl (lv_at hl 0 rfl) ?_
    refine lv_iload_n (pc := 37) hx hb dL_joins_37 rfl (lv_at hl 1 rfl) ?_
    refine va_iald (pc := 38) hx hb hK.1 hP 0 0 rfl rfl (vp_in_nI (by omega) (by decide)) dL_joins_38 ?_
    refine top_i (show f (nI b).toNatClampNeg = f b from by rw [nI_clamp (by omega)]) ?_
    refine lv_goto (pc := 39) (tgt := 45) hx hb dL_joins_39 (by decide) ?_
    refine lv_istore_n (pc := 45) (lv' := [(3, .int (f b)), (0, .ref nn), (1, .int (nI b)), (2, .int (nI a))]) hx hb dL_joins_45 rfl hl (by decide) rfl (fun ls hl => ?_)
    refine lv_aload_n (pc := 46) hx hb dL_joins_46 rfl (lv_at hl 1 rfl) ?_
    refine lv_iload_n (pc := 47) hx hb dL_joins_47 rfl (lv_at hl 2 rfl) ?_
    refine lv_iload_n (pc := 48) hx hb dL_joins_48 rfl (lv_at hl 0 rfl) ?_
    refine va_iast (pc := 49) hx hb hK.1 hP hD hS 0 0 rfl rfl (vp_in_nI (by omega) (by decide)) dL_joins_49 (fun H locs hP hD hS => ?_)
    rw [nI_clamp (by omega)] at hP hD
    have hP : va_P D vwCl [(nn, .inl (Y.1, 16, .inl (upd f b (f b))))] H := hP
    have hD : va_D AA [(nn, .inl (Y.1, 16, .inl (upd f b (f b))))] := hD
    refine lv_aload_n (pc := 50) hx hb dL_joins_50 rfl (lv_at hl 1 rfl) ?_
    refine lv_iload_n (pc := 51) hx hb dL_joins_51 rfl (lv_at hl 3 rfl) ?_
    refine lv_iload_n (pc := 52) hx hb dL_joins_52 rfl (lv_at hl 0 rfl) ?_
    refine va_iast (pc := 53) hx hb hK.1 hP hD hS 0 0 rfl rfl (vp_in_nI (by omega) (by decide)) dL_joins_53 (fun H locs hP hD hS => ?_)
    rw [nI_clamp (by omega)] at hP hD
    have hP : va_P D vwCl [(nn, .inl (Y.1, 16, .inl (upd (upd f b (f b)) a (f b))))] H := hP
    have hD : va_D AA [(nn, .inl (Y.1, 16, .inl (upd (upd f b (f b)) a (f b))))] := hD
    refine lv_iconst (pc := 54) (v := nI 1) hx hb dL_joins_54 rfl ?_
    subst hAA
    exact mu_zret hx hb hr hlocks hP hS (()) (zb_1 (by rw [ha]; exact jnB_mk c7 c13 c22)) (rfl) (trivial) (by rw [ha, jnF_t (jnB_mk c7 c13 c22)]; unfold jnV; rw [if_pos (Int32.not_le.mp c33)]) dL_joins_55
  refine lv_iconst (pc := 25) (v := nI 0) hx hb dL_joins_25 rfl ?_
  subst hAA
  exact mu_zret hx hb hr hlocks hP hS (()) (zb_0 (by rw [ha]; exact jnB_no (fun q => q.2.2 c22))) (rfl) (trivial) (by rw [jnF_n (by rw [ha]; exact jnB_no (fun q => q.2.2 c22))]) dL_joins_26

set_option maxHeartbeats 1200000 in
set_option maxRecDepth 100000 in
theorem c_L_name (l : Launch) (D : va_G) (Y : vY) (dd : Nat) (c : Nat) (r : Nat) (dx : Int32) (dy : Int32) (w : Int64) (nn : Nat) (nf : Nat → Int32) (hC : Cr c r) : Mu l yL_name wsL_name ({ frames := 2, cells := 0, slots := 0, locals := 48 } : Room) [.ref dd, .long w, .ref nn] D Y [(dd, .inl (Y.1, 4, .inl (dF (nI c) (nI r) dx dy))), (nn, .inl (Y.1, 16, .inl nf))] (fun uS : Nat → Int32 => some (.int (nI (nst c r w)))) (fun uS : Nat → Int32 => [(dd, .inl (Y.1, 4, .inl (dF (nI c) (nI r) dx dy))), (nn, .inl (Y.1, 16, .inl uS))]) (fun uS : Nat → Int32 => NaR c r w uS) := by
  refine mu_intro (by decide +kernel) rfl (Nat.le_of_ble_eq_true rfl) [(0, .ref dd), (1, .long w), (3, .ref nn)] rfl ?_
  intro pG eG sG mG aG bG tG cG ls hx hb hr hml hts hown hlocks hK hP hD hS hl
  generalize hAA : adA [(dd, .inl (Y.1, 4, .inl (dF (nI c) (nI r) dx dy))), (nn, .inl (Y.1, 16, .inl nf))] = AA at hD hS ⊢
  have hP : va_P D vwCl [(dd, .inl (Y.1, 4, .inl (dF (nI c) (nI r) dx dy))), (nn, .inl (Y.1, 16, .inl nf))] sG.heap := hP
  have hD : va_D AA [(dd, .inl (Y.1, 4, .inl (dF (nI c) (nI r) dx dy))), (nn, .inl (Y.1, 16, .inl nf))] := hD
  have hown : sG.vm.findClass RL = some mG.cls := hown
  have hl : lv_has ls 8 [(0, .ref dd), (1, .long w), (3, .ref nn)] := hl
  have hS : va_S AA sG.heap sG.heap [] := hS
  obtain ⟨hq1, hq2, hq3, hq4, hq5, hq6, hq7, hq8, hq9, hq10, hq11⟩ := hC.q
  refine lv_iconst (pc := 0) (v := nI 0) hx hb dL_name_0 rfl ?_
  refine lv_istore (pc := 1) (lv' := [(4, .int (nI 0)), (0, .ref dd), (1, .long w), (3, .ref nn)]) hx hb dL_name_1 hl (by decide) rfl (fun ls hl => ?_)
  have L3 : ∀ (n3 : Nat), ∀ (i : Nat) (f : Nat → Int32), (i ≤ 16) → (∀ b, b < i → f b = oI (if decide (b < c * r) && thn c r w b then some b else none)) → 16 - i < n3 → ∀ (H : Heap) (locs : List Loc), va_P D vwCl [(dd, .inl (Y.1, 4, .inl (dF (nI c) (nI r) dx dy))), (nn, .inl (Y.1, 16, .inl f))] H → va_D AA [(dd, .inl (Y.1, 4, .inl (dF (nI c) (nI r) dx dy))), (nn, .inl (Y.1, 16, .inl f))] → va_S AA sG.heap H locs → ∀ (ls : Array Slot), lv_has ls 8 [(0, .ref dd), (1, .long w), (3, .ref nn), (4, .int (nI i))] → W pG l eG ({ frames := 2, cells := 0, slots := 0, locals := 48 } : Room) sG mG aG bG tG cG H locs 0 0 (MQ bG (MuQ D [(dd, .inl (Y.1, 4, .inl (dF (nI c) (nI r) dx dy))), (nn, .inl (Y.1, 16, .inl nf))] (fun uS : Nat → Int32 => some (.int (nI (nst c r w)))) (fun uS : Nat → Int32 => [(dd, .inl (Y.1, 4, .inl (dF (nI c) (nI r) dx dy))), (nn, .inl (Y.1, 16, .inl uS))]) (fun uS : Nat → Int32 => NaR c r w uS)) aG sG 0 0 AA) (F0 mG 3 ls []) := by
    intro n3
    induction n3 with
    | zero =>
      intro i f hi hf9 hmeas3 H locs hP hD hS ls hl
      exact absurd hmeas3 (Nat.not_lt_zero _)
    | succ n3 ih3 =>
      intro i f hi hf9 hmeas3 H locs hP hD hS ls hl
      refine lv_iload (pc := 3) hx hb dL_name_3 (lv_at hl 3 rfl) ?_
      refine lv_bipush (pc := 5) (v := nI 16) hx hb dL_name_5 rfl ?_
      refine n_icmp_ge (pc := 7) (tgt := 59) hx hb (by omega) (by omega) dL_name_7 (by decide) (fun c7 => ?_) (fun c7 => ?_)
      · refine lv_iconst (pc := 59) (v := zb true) hx hb dL_name_59 rfl ?_
        refine lv_istore (pc := 60) (lv' := [(4, .int (zb true)), (0, .ref dd), (1, .long w), (3, .ref nn)]) hx hb dL_name_60 hl (by decide) rfl (fun ls hl => ?_)
        have L62 : ∀ (n62 : Nat), ∀ (z : Bool) (sv : Nat → Int32), (NmR c r w sv) → (z = false → Stn c r w sv) → smM c r sv + zn z < n62 → ∀ (H : Heap) (locs : List Loc), va_P D vwCl [(dd, .inl (Y.1, 4, .inl (dF (nI c) (nI r) dx dy))), (nn, .inl (Y.1, 16, .inl sv))] H → va_D AA [(dd, .inl (Y.1, 4, .inl (dF (nI c) (nI r) dx dy))), (nn, .inl (Y.1, 16, .inl sv))] → va_S AA sG.heap H locs → ∀ (ls : Array Slot), lv_has ls 8 [(0, .ref dd), (1, .long w), (3, .ref nn), (4, .int (zb z))] → W pG l eG ({ frames := 2, cells := 0, slots := 0, locals := 48 } : Room) sG mG aG bG tG cG H locs 0 0 (MQ bG (MuQ D [(dd, .inl (Y.1, 4, .inl (dF (nI c) (nI r) dx dy))), (nn, .inl (Y.1, 16, .inl nf))] (fun uS : Nat → Int32 => some (.int (nI (nst c r w)))) (fun uS : Nat → Int32 => [(dd, .inl (Y.1, 4, .inl (dF (nI c) (nI r) dx dy))), (nn, .inl (Y.1, 16, .inl uS))]) (fun uS : Nat → Int32 => NaR c r w uS)) aG sG 0 0 AA) (F0 mG 62 ls []) := by
          intro n62
          induction n62 with
          | zero =>
            intro z sv hnm hst hmeas62 H locs hP hD hS ls hl
            exact absurd hmeas62 (Nat.not_lt_zero _)
          | succ n62 ih62 =>
            intro z sv hnm hst hmeas62 H locs hP hD hS ls hl
            refine lv_iload (pc := 62) hx hb dL_name_62 (lv_at hl 3 rfl) ?_
            refine z_if_eq (pc := 64) (tgt := 217) hx hb dL_name_64 (by decide) (fun c64 => ?_) (fun c64 => ?_)
            · have hna := Stn.na hC hnm (hst c64)
              refine lv_iconst (pc := 217) (v := nI 0) hx hb dL_name_217 rfl ?_
              refine lv_istore (pc := 218) (lv' := [(5, .int (nI 0)), (0, .ref dd), (1, .long w), (3, .ref nn), (4, .int (zb z))]) hx hb dL_name_218 hl (by decide) rfl (fun ls hl => ?_)
              refine lv_iconst (pc := 220) (v := nI 0) hx hb dL_name_220 rfl ?_
              refine lv_istore (pc := 221) (lv' := [(6, .int (nI 0)), (5, .int (nI 0)), (0, .ref dd), (1, .long w), (3, .ref nn), (4, .int (zb z))]) hx hb dL_name_221 hl (by decide) rfl (fun ls hl => ?_)
              have L223 : ∀ (n223 : Nat), ∀ (i : Nat) (k : Nat), (i ≤ 16) → (k = fb_ct (fun b => decide (sv b = nI b)) i) → 16 - i < n223 → ∀ (H : Heap) (locs : List Loc), va_P D vwCl [(dd, .inl (Y.1, 4, .inl (dF (nI c) (nI r) dx dy))), (nn, .inl (Y.1, 16, .inl sv))] H → va_D AA [(dd, .inl (Y.1, 4, .inl (dF (nI c) (nI r) dx dy))), (nn, .inl (Y.1, 16, .inl sv))] → va_S AA sG.heap H locs → ∀ (ls : Array Slot), lv_has ls 8 [(0, .ref dd), (1, .long w), (3, .ref nn), (4, .int (zb z)), (5, .int (nI k)), (6, .int (nI i))] → W pG l eG ({ frames := 2, cells := 0, slots := 0, locals := 48 } : Room) sG mG aG bG tG cG H locs 0 0 (MQ bG (MuQ D [(dd, .inl (Y.1, 4, .inl (dF (nI c) (nI r) dx dy))), (nn, .inl (Y.1, 16, .inl nf))] (fun uS : Nat → Int32 => some (.int (nI (nst c r w)))) (fun uS : Nat → Int32 => [(dd, .inl (Y.1, 4, .inl (dF (nI c) (nI r) dx dy))), (nn, .inl (Y.1, 16, .inl uS))]) (fun uS : Nat → Int32 => NaR c r w uS)) aG sG 0 0 AA) (F0 mG 223 ls []) := by
                intro n223
                induction n223 with
                | zero =>
                  intro i k hi hk hmeas223 H locs hP hD hS ls hl
                  exact absurd hmeas223 (Nat.not_lt_zero _)
                | succ n223 ih223 =>
                  intro i k hi hk hmeas223 H locs hP hD hS ls hl
                  refine lv_iload (pc := 223) hx hb dL_name_223 (lv_at hl 5 rfl) ?_
                  refine lv_bipush (pc := 225) (v := nI 16) hx hb dL_name_225 rfl ?_
                  refine n_icmp_ge (pc := 227) (tgt := 248) hx hb (by omega) (by omega) dL_name_227 (by decide) (fun c227 => ?_) (fun c227 => ?_)
                  · refine lv_iload (pc := 248) hx hb dL_name_248 (lv_at hl 4 rfl) ?_
                    subst hAA
                    exact mu_iret hx hb hr hlocks hP hS (sv) (by rw [hk, show i = 16 by omega, na_ct hC hna]) (hna) (rfl) dL_name_250
                  refine lv_aload_n (pc := 230) hx hb dL_name_230 rfl (lv_at hl 2 rfl) ?_
                  refine lv_iload (pc := 231) hx hb dL_name_231 (lv_at hl 5 rfl) ?_
                  refine va_iald (pc := 233) hx hb hK.1 hP 1 0 rfl rfl (vp_in_nI (by omega) (by decide)) dL_name_233 ?_
                  refine top_i (show sv (nI i).toNatClampNeg = sv i from by rw [nI_clamp (by omega)]) ?_
                  refine lv_iload (pc := 234) hx hb dL_name_234 (lv_at hl 5 rfl) ?_
                  refine lv_icmp_ne (pc := 236) (tgt := 242) hx hb dL_name_236 (by decide) (fun c236 => ?_) (fun c236 => ?_)
                  · refine lv_iinc (pc := 242) (v := nI (i + 1)) (lv' := [(6, .int (nI (i + 1))), (0, .ref dd), (1, .long w), (3, .ref nn), (4, .int (zb z)), (5, .int (nI k))]) hx hb dL_name_242 hl (k := 5) rfl (n_inc i 1) (by decide) rfl (fun ls hl => ?_)
                    refine lv_goto (pc := 245) (tgt := 223) hx hb dL_name_245 (by decide) ?_
                    exact ih223 (i + 1) k (by omega) (by rw [fb_ct_succ, ← hk, decide_eq_false c236]; rfl) (by omega) _ _ hP hD hS _ (lv_sub hl [1, 2, 3, 4, 5, 0] rfl)
                  refine lv_iinc (pc := 239) (v := nI (k + 1)) (lv' := [(5, .int (nI (k + 1))), (0, .ref dd), (1, .long w), (3, .ref nn), (4, .int (zb z)), (6, .int (nI i))]) hx hb dL_name_239 hl (k := 4) rfl (n_inc k 1) (by decide) rfl (fun ls hl => ?_)
                  refine lv_iinc (pc := 242) (v := nI (i + 1)) (lv' := [(6, .int (nI (i + 1))), (5, .int (nI (k + 1))), (0, .ref dd), (1, .long w), (3, .ref nn), (4, .int (zb z))]) hx hb dL_name_242 hl (k := 5) rfl (n_inc i 1) (by decide) rfl (fun ls hl => ?_)
                  refine lv_goto (pc := 245) (tgt := 223) hx hb dL_name_245 (by decide) ?_
                  exact ih223 (i + 1) (k + 1) (by omega) (by rw [fb_ct_succ, ← hk, decide_eq_true c236]; rfl) (by omega) _ _ hP hD hS _ (lv_sub hl [2, 3, 4, 5, 1, 0] rfl)
              exact L223 ((16 - 0) + 1) 0 0 (by omega) (rfl) (Nat.lt_succ_self _) _ _ hP hD hS _ (lv_sub hl [2, 3, 4, 5, 1, 0] rfl)
            refine lv_iconst (pc := 67) (v := zb false) hx hb dL_name_67 rfl ?_
            refine lv_istore (pc := 68) (lv' := [(4, .int (zb false)), (0, .ref dd), (1, .long w), (3, .ref nn)]) hx hb dL_name_68 hl (by decide) rfl (fun ls hl => ?_)
            refine lv_iconst (pc := 70) (v := nI 0) hx hb dL_name_70 rfl ?_
            refine lv_istore (pc := 71) (lv' := [(5, .int (nI 0)), (4, .int (zb false)), (0, .ref dd), (1, .long w), (3, .ref nn)]) hx hb dL_name_71 hl (by decide) rfl (fun ls hl => ?_)
            have L73 : ∀ (n73 : Nat), ∀ (i : Nat) (y : Bool) (su : Nat → Int32), (i ≤ c * r) → (NmR c r w su) → ((y = true → smM c r su + 1 ≤ smM c r sv) ∧ (y = false → su = sv)) → (y = false → ∀ b, b < i → jnB su b (rgt c r w b) = false ∧ jnB su b (blw c r w b) = false) → c * r - i < n73 → ∀ (H : Heap) (locs : List Loc), va_P D vwCl [(dd, .inl (Y.1, 4, .inl (dF (nI c) (nI r) dx dy))), (nn, .inl (Y.1, 16, .inl su))] H → va_D AA [(dd, .inl (Y.1, 4, .inl (dF (nI c) (nI r) dx dy))), (nn, .inl (Y.1, 16, .inl su))] → va_S AA sG.heap H locs → ∀ (ls : Array Slot), lv_has ls 8 [(0, .ref dd), (1, .long w), (3, .ref nn), (4, .int (zb y)), (5, .int (nI i))] → W pG l eG ({ frames := 2, cells := 0, slots := 0, locals := 48 } : Room) sG mG aG bG tG cG H locs 0 0 (MQ bG (MuQ D [(dd, .inl (Y.1, 4, .inl (dF (nI c) (nI r) dx dy))), (nn, .inl (Y.1, 16, .inl nf))] (fun uS : Nat → Int32 => some (.int (nI (nst c r w)))) (fun uS : Nat → Int32 => [(dd, .inl (Y.1, 4, .inl (dF (nI c) (nI r) dx dy))), (nn, .inl (Y.1, 16, .inl uS))]) (fun uS : Nat → Int32 => NaR c r w uS)) aG sG 0 0 AA) (F0 mG 73 ls []) := by
              intro n73
              induction n73 with
              | zero =>
                intro i y su hi hsq hsp hss hmeas73 H locs hP hD hS ls hl
                exact absurd hmeas73 (Nat.not_lt_zero _)
              | succ n73 ih73 =>
                intro i y su hi hsq hsp hss hmeas73 H locs hP hD hS ls hl
                refine lv_iload (pc := 73) hx hb dL_name_73 (lv_at hl 4 rfl) ?_
                refine lv_aload_n (pc := 75) hx hb dL_name_75 rfl (lv_at hl 0 rfl) ?_
                refine lv_iconst (pc := 76) (v := nI 0) hx hb dL_name_76 rfl ?_
                refine va_iald (pc := 77) hx hb hK.1 hP 0 0 rfl rfl (vp_in_nI (by omega) (by decide)) dL_name_77 ?_
                refine top_i (show (dF (nI c) (nI r) dx dy) (nI 0).toNatClampNeg = nI c from by rw [nI_clamp (by decide)]; rfl) ?_
                refine lv_aload_n (pc := 78) hx hb dL_name_78 rfl (lv_at hl 0 rfl) ?_
                refine lv_iconst (pc := 79) (v := nI 1) hx hb dL_name_79 rfl ?_
                refine va_iald (pc := 80) hx hb hK.1 hP 0 0 rfl rfl (vp_in_nI (by omega) (by decide)) dL_name_80 ?_
                refine top_i (show (dF (nI c) (nI r) dx dy) (nI 1).toNatClampNeg = nI r from by rw [nI_clamp (by decide)]; rfl) ?_
                refine n_imul (pc := 81) hx hb dL_name_81 ?_
                refine n_icmp_ge (pc := 82) (tgt := 214) hx hb (by omega) (by omega) dL_name_82 (by decide) (fun c82 => ?_) (fun c82 => ?_)
                · refine lv_goto (pc := 214) (tgt := 62) hx hb dL_name_214 (by decide) ?_
                  exact ih62 y su (hsq) (fun q b hb => hss q b (by omega)) (by rw [c64] at hmeas62; have h4 : zn true = 1 := rfl; have h5 : zn false = 0 := rfl; cases y with | true => have h3 := hsp.1 rfl; omega | false => have h3 := hsp.2 rfl; rw [h3]; omega) _ _ hP hD hS _ (lv_sub hl [0, 1, 2, 3] rfl)
                have L134 : ∀ (x6 : Int32), (x6 = oI (rgt c r w i)) → ∀ (H : Heap) (locs : List Loc), va_P D vwCl [(dd, .inl (Y.1, 4, .inl (dF (nI c) (nI r) dx dy))), (nn, .inl (Y.1, 16, .inl su))] H → va_D AA [(dd, .inl (Y.1, 4, .inl (dF (nI c) (nI r) dx dy))), (nn, .inl (Y.1, 16, .inl su))] → va_S AA sG.heap H locs → ∀ (ls : Array Slot), lv_has ls 8 [(0, .ref dd), (1, .long w), (3, .ref nn), (4, .int (zb y)), (5, .int (nI i)), (6, .int x6)] → W pG l eG ({ frames := 2, cells := 0, slots := 0, locals := 48 } : Room) sG mG aG bG tG cG H locs 0 0 (MQ bG (MuQ D [(dd, .inl (Y.1, 4, .inl (dF (nI c) (nI r) dx dy))), (nn, .inl (Y.1, 16, .inl nf))] (fun uS : Nat → Int32 => some (.int (nI (nst c r w)))) (fun uS : Nat → Int32 => [(dd, .inl (Y.1, 4, .inl (dF (nI c) (nI r) dx dy))), (nn, .inl (Y.1, 16, .inl uS))]) (fun uS : Nat → Int32 => NaR c r w uS)) aG sG 0 0 AA) (F0 mG 134 ls []) := by
                  intro x6 hx6 H locs hP hD hS ls hl
                  have L185 : ∀ (x7 : Int32), (x7 = oI (blw c r w i)) → ∀ (H : Heap) (locs : List Loc), va_P D vwCl [(dd, .inl (Y.1, 4, .inl (dF (nI c) (nI r) dx dy))), (nn, .inl (Y.1, 16, .inl su))] H → va_D AA [(dd, .inl (Y.1, 4, .inl (dF (nI c) (nI r) dx dy))), (nn, .inl (Y.1, 16, .inl su))] → va_S AA sG.heap H locs → ∀ (ls : Array Slot), lv_has ls 8 [(0, .ref dd), (1, .long w), (3, .ref nn), (4, .int (zb y)), (5, .int (nI i)), (6, .int x6), (7, .int x7)] → W pG l eG ({ frames := 2, cells := 0, slots := 0, locals := 48 } : Room) sG mG aG bG tG cG H locs 0 0 (MQ bG (MuQ D [(dd, .inl (Y.1, 4, .inl (dF (nI c) (nI r) dx dy))), (nn, .inl (Y.1, 16, .inl nf))] (fun uS : Nat → Int32 => some (.int (nI (nst c r w)))) (fun uS : Nat → Int32 => [(dd, .inl (Y.1, 4, .inl (dF (nI c) (nI r) dx dy))), (nn, .inl (Y.1, 16, .inl uS))]) (fun uS : Nat → Int32 => NaR c r w uS)) aG sG 0 0 AA) (F0 mG 185 ls []) := by
                    intro x7 hx7 H locs hP hD hS ls hl
                    refine lv_aload_n (pc := 185) hx hb dL_name_185 rfl (lv_at hl 2 rfl) ?_
                    refine lv_iload (pc := 186) hx hb dL_name_186 (lv_at hl 4 rfl) ?_
                    refine lv_iload (pc := 188) hx hb dL_name_188 (lv_at hl 5 rfl) ?_
                    refine mu_go (pc := 190) (va_runS (As := [.ref nn, .int (nI i), .int x6]) (rest := []) ⟨hx, hb, hml, hown, hts⟩ (c_L_joins l D Y nn su i x6 (rgt c r w i) (by omega) (hx6) (fun a h => by have := (Lnk_r hC c82 a h).1; omega)) (va_cwS 3 hts gL_name_L_joins rfl rfl rfl hdL_joins ⟨Nat.le_of_ble_eq_true rfl, Nat.le_of_ble_eq_true rfl⟩) (mu_pS hK (hP.sub [1] rfl) (hD.sub [1] (by decide) rfl)) rfl rfl hl.1 rfl (lv_room (Nat.le_of_ble_eq_true rfl)) dL_name_190 ⟨Nat.le_of_ble_eq_true rfl, Nat.le_of_ble_eq_true rfl⟩) hP hD hS [1] rfl (by decide) (fun _ => [(dd, .inl (Y.1, 4, .inl (dF (nI c) (nI r) dx dy))), (nn, .inl (Y.1, 16, .inl (jnF su i (rgt c r w i))))]) (fun _ => rfl) (fun _ => rfl) (fun uS H locs hpost hP hD hS => ?_)
                    have hP : va_P D vwCl [(dd, .inl (Y.1, 4, .inl (dF (nI c) (nI r) dx dy))), (nn, .inl (Y.1, 16, .inl (jnF su i (rgt c r w i))))] H := hP
                    have hD : va_D AA [(dd, .inl (Y.1, 4, .inl (dF (nI c) (nI r) dx dy))), (nn, .inl (Y.1, 16, .inl (jnF su i (rgt c r w i))))] := hD
                    refine lv_aload_n (pc := 193) hx hb dL_name_193 rfl (lv_at hl 2 rfl) ?_
                    refine lv_iload (pc := 194) hx hb dL_name_194 (lv_at hl 4 rfl) ?_
                    refine lv_iload (pc := 196) hx hb dL_name_196 (lv_at hl 6 rfl) ?_
                    refine mu_go (pc := 198) (va_runS (As := [.ref nn, .int (nI i), .int x7]) (rest := [.int (zb (jnB su i (rgt c r w i)))]) ⟨hx, hb, hml, hown, hts⟩ (c_L_joins l D Y nn (jnF su i (rgt c r w i)) i x7 (blw c r w i) (by omega) (hx7) (fun a h => by have := (Lnk_b hC c82 a h).1; omega)) (va_cwS 3 hts gL_name_L_joins rfl rfl rfl hdL_joins ⟨Nat.le_of_ble_eq_true rfl, Nat.le_of_ble_eq_true rfl⟩) (mu_pS hK (hP.sub [1] rfl) (hD.sub [1] (by decide) rfl)) rfl rfl hl.1 rfl (lv_room (Nat.le_of_ble_eq_true rfl)) dL_name_198 ⟨Nat.le_of_ble_eq_true rfl, Nat.le_of_ble_eq_true rfl⟩) hP hD hS [1] rfl (by decide) (fun _ => [(dd, .inl (Y.1, 4, .inl (dF (nI c) (nI r) dx dy))), (nn, .inl (Y.1, 16, .inl (jnF (jnF su i (rgt c r w i)) i (blw c r w i))))]) (fun _ => rfl) (fun _ => rfl) (fun uS H locs hpost hP hD hS => ?_)
                    have hP : va_P D vwCl [(dd, .inl (Y.1, 4, .inl (dF (nI c) (nI r) dx dy))), (nn, .inl (Y.1, 16, .inl (jnF (jnF su i (rgt c r w i)) i (blw c r w i))))] H := hP
                    have hD : va_D AA [(dd, .inl (Y.1, 4, .inl (dF (nI c) (nI r) dx dy))), (nn, .inl (Y.1, 16, .inl (jnF (jnF su i (rgt c r w i)) i (blw c r w i))))] := hD
                    refine lv_ior (pc := 201) hx hb dL_name_201 ?_
                    refine top_i (show (zb (jnB su i (rgt c r w i))) ||| (zb (jnB (jnF su i (rgt c r w i)) i (blw c r w i))) = zb (jnB su i (rgt c r w i) || jnB (jnF su i (rgt c r w i)) i (blw c r w i)) from zb_or _ _) ?_
                    have hsq2 := (hsq.join hC c82 (Lnk_r hC c82)).join hC c82 (Lnk_b hC c82)
                    refine z_if_eq (pc := 202) (tgt := 208) hx hb dL_name_202 (by decide) (fun c202 => ?_) (fun c202 => ?_)
                    · have hjn : jnB su i (rgt c r w i) = false ∧ jnB su i (blw c r w i) = false := by have q := Bool.or_eq_false_iff.mp c202; have q2 := q.2; rw [jnF_n q.1] at q2; exact ⟨q.1, q2⟩
                      have hjf : jnF (jnF su i (rgt c r w i)) i (blw c r w i) = su := by rw [jnF_n hjn.1, jnF_n hjn.2]
                      refine lv_iinc (pc := 208) (v := nI (i + 1)) (lv' := [(5, .int (nI (i + 1))), (0, .ref dd), (1, .long w), (3, .ref nn), (4, .int (zb y)), (6, .int x6), (7, .int x7)]) hx hb dL_name_208 hl (k := 4) rfl (n_inc i 1) (by decide) rfl (fun ls hl => ?_)
                      refine lv_goto (pc := 211) (tgt := 73) hx hb dL_name_211 (by decide) ?_
                      exact ih73 (i + 1) y (jnF (jnF su i (rgt c r w i)) i (blw c r w i)) (by first | assumption | omega) (hsq2) (by rw [hjf]; exact hsp) (fun q => by rw [hjf]; exact lt_s (hss q) hjn) (by omega) _ _ hP hD hS _ (lv_sub hl [1, 2, 3, 4, 0] rfl)
                    have hjs : smM c r (jnF (jnF su i (rgt c r w i)) i (blw c r w i)) + 1 ≤ smM c r sv := by have q := jn_2 hC hsq c82 (Lnk_r hC c82) (Lnk_b hC c82) c202; cases y with | true => have := hsp.1 rfl; omega | false => have := hsp.2 rfl; rw [← this]; exact q
                    refine lv_iconst (pc := 205) (v := zb true) hx hb dL_name_205 rfl ?_
                    refine lv_istore (pc := 206) (lv' := [(4, .int (zb true)), (0, .ref dd), (1, .long w), (3, .ref nn), (5, .int (nI i)), (6, .int x6), (7, .int x7)]) hx hb dL_name_206 hl (by decide) rfl (fun ls hl => ?_)
                    refine lv_iinc (pc := 208) (v := nI (i + 1)) (lv' := [(5, .int (nI (i + 1))), (4, .int (zb true)), (0, .ref dd), (1, .long w), (3, .ref nn), (6, .int x6), (7, .int x7)]) hx hb dL_name_208 hl (k := 4) rfl (n_inc i 1) (by decide) rfl (fun ls hl => ?_)
                    refine lv_goto (pc := 211) (tgt := 73) hx hb dL_name_211 (by decide) ?_
                    exact ih73 (i + 1) true (jnF (jnF su i (rgt c r w i)) i (blw c r w i)) (by first | assumption | omega) (hsq2) (⟨fun _ => hjs, fun q => by cases q⟩) (fun q => by cases q) (by omega) _ _ hP hD hS _ (lv_sub hl [2, 3, 4, 1, 0] rfl)
                  refine lv_iload (pc := 134) hx hb dL_name_134 (lv_at hl 4 rfl) ?_
                  refine lv_aload_n (pc := 136) hx hb dL_name_136 rfl (lv_at hl 0 rfl) ?_
                  refine lv_iconst (pc := 137) (v := nI 0) hx hb dL_name_137 rfl ?_
                  refine va_iald (pc := 138) hx hb hK.1 hP 0 0 rfl rfl (vp_in_nI (by omega) (by decide)) dL_name_138 ?_
                  refine top_i (show (dF (nI c) (nI r) dx dy) (nI 0).toNatClampNeg = nI c from by rw [nI_clamp (by decide)]; rfl) ?_
                  refine n_idiv (pc := 139) hx hb (by omega) (by omega) (by omega) dL_name_139 ?_
                  refine lv_aload_n (pc := 140) hx hb dL_name_140 rfl (lv_at hl 0 rfl) ?_
                  refine lv_iconst (pc := 141) (v := nI 1) hx hb dL_name_141 rfl ?_
                  refine va_iald (pc := 142) hx hb hK.1 hP 0 0 rfl rfl (vp_in_nI (by omega) (by decide)) dL_name_142 ?_
                  refine top_i (show (dF (nI c) (nI r) dx dy) (nI 1).toNatClampNeg = nI r from by rw [nI_clamp (by decide)]; rfl) ?_
                  refine lv_iconst (pc := 143) (v := nI 1) hx hb dL_name_143 rfl ?_
                  refine n_isub (pc := 144) hx hb (by omega) dL_name_144 ?_
                  refine n_icmp_ge (pc := 145) (tgt := 182) hx hb (by have := Nat.div_le_self i c; omega) (by omega) dL_name_145 (by decide) (fun c145 => ?_) (fun c145 => ?_)
                  · refine lv_iconst (pc := 182) (v := (-1)) hx hb dL_name_182 (by decide) ?_
                    refine lv_istore (pc := 183) (lv' := [(7, .int (-1)), (0, .ref dd), (1, .long w), (3, .ref nn), (4, .int (zb y)), (5, .int (nI i)), (6, .int x6)]) hx hb dL_name_183 hl (by decide) rfl (fun ls hl => ?_)
                    exact L185 (-1) (by unfold blw; rw [if_neg (fun q => absurd q.1 (by omega))]; rfl)  _ _ hP hD hS _ (lv_sub hl [1, 2, 3, 4, 5, 6, 0] rfl)
                  refine lv_lload_n (pc := 148) hx hb dL_name_148 rfl (lv_at hl 1 rfl) ?_
                  refine lv_aload_n (pc := 149) hx hb dL_name_149 rfl (lv_at hl 0 rfl) ?_
                  refine lv_iload (pc := 150) hx hb dL_name_150 (lv_at hl 4 rfl) ?_
                  refine lv_aload_n (pc := 152) hx hb dL_name_152 rfl (lv_at hl 0 rfl) ?_
                  refine lv_iconst (pc := 153) (v := nI 0) hx hb dL_name_153 rfl ?_
                  refine va_iald (pc := 154) hx hb hK.1 hP 0 0 rfl rfl (vp_in_nI (by omega) (by decide)) dL_name_154 ?_
                  refine top_i (show (dF (nI c) (nI r) dx dy) (nI 0).toNatClampNeg = nI c from by rw [nI_clamp (by decide)]; rfl) ?_
                  refine n_irem (pc := 155) hx hb (by omega) (by omega) (by omega) dL_name_155 ?_
                  refine lv_iload (pc := 156) hx hb dL_name_156 (lv_at hl 4 rfl) ?_
                  refine lv_aload_n (pc := 158) hx hb dL_name_158 rfl (lv_at hl 0 rfl) ?_
                  refine lv_iconst (pc := 159) (v := nI 0) hx hb dL_name_159 rfl ?_
                  refine va_iald (pc := 160) hx hb hK.1 hP 0 0 rfl rfl (vp_in_nI (by omega) (by decide)) dL_name_160 ?_
                  refine top_i (show (dF (nI c) (nI r) dx dy) (nI 0).toNatClampNeg = nI c from by rw [nI_clamp (by decide)]; rfl) ?_
                  refine n_idiv (pc := 161) hx hb (by omega) (by omega) (by omega) dL_name_161 ?_
                  refine lv_iconst (pc := 162) (v := nI 1) hx hb dL_name_162 rfl ?_
                  refine n_iadd (pc := 163) hx hb dL_name_163 ?_
                  refine ro_go (pc := 164) (va_runS (As := [.ref dd, .int (nI (i % c)), .int (nI ((i / c) + 1))]) (rest := [.long w]) ⟨hx, hb, hml, hown, hts⟩ (c_L_flat l D Y dd c r dx dy (i % c) ((i / c) + 1) (hC)) (va_cwS 3 hts gL_name_L_flat rfl rfl rfl hdL_flat ⟨Nat.le_of_ble_eq_true rfl, Nat.le_of_ble_eq_true rfl⟩) (ro_pS hK (hP.sub [0] rfl)) rfl rfl hl.1 rfl (lv_room (Nat.le_of_ble_eq_true rfl)) dL_name_164 ⟨Nat.le_of_ble_eq_true rfl, Nat.le_of_ble_eq_true rfl⟩) ?_
                  refine top_i (show nI (c * ((i / c) + 1) + (i % c)) = nI (sid c r i 1) from by rw [sidL1 (r := r)]) ?_
                  refine ro_go (pc := 167) (va_runS (As := [.long w, .int (nI (sid c r i 1))]) (rest := []) ⟨hx, hb, hml, hown, hts⟩ (c_L_has l D Y w (sid c r i 1) (by have := sid_lt hC c82 (k := 1) (by decide); omega)) (va_cwS 2 hts gL_name_L_has rfl rfl rfl hdL_has ⟨Nat.le_of_ble_eq_true rfl, Nat.le_of_ble_eq_true rfl⟩) (ro_pS hK (hP.sub [] rfl)) rfl rfl hl.1 rfl (lv_room (Nat.le_of_ble_eq_true rfl)) dL_name_167 ⟨Nat.le_of_ble_eq_true rfl, Nat.le_of_ble_eq_true rfl⟩) ?_
                  refine z_if_ne (pc := 170) (tgt := 182) hx hb dL_name_170 (by decide) (fun c170 => ?_) (fun c170 => ?_)
                  · refine lv_iconst (pc := 182) (v := (-1)) hx hb dL_name_182 (by decide) ?_
                    refine lv_istore (pc := 183) (lv' := [(7, .int (-1)), (0, .ref dd), (1, .long w), (3, .ref nn), (4, .int (zb y)), (5, .int (nI i)), (6, .int x6)]) hx hb dL_name_183 hl (by decide) rfl (fun ls hl => ?_)
                    exact L185 (-1) (by unfold blw; rw [if_neg (fun q => by rw [c170] at q; cases q.2)]; rfl)  _ _ hP hD hS _ (lv_sub hl [1, 2, 3, 4, 5, 6, 0] rfl)
                  refine lv_iload (pc := 173) hx hb dL_name_173 (lv_at hl 4 rfl) ?_
                  refine lv_aload_n (pc := 175) hx hb dL_name_175 rfl (lv_at hl 0 rfl) ?_
                  refine lv_iconst (pc := 176) (v := nI 0) hx hb dL_name_176 rfl ?_
                  refine va_iald (pc := 177) hx hb hK.1 hP 0 0 rfl rfl (vp_in_nI (by omega) (by decide)) dL_name_177 ?_
                  refine top_i (show (dF (nI c) (nI r) dx dy) (nI 0).toNatClampNeg = nI c from by rw [nI_clamp (by decide)]; rfl) ?_
                  refine n_iadd (pc := 178) hx hb dL_name_178 ?_
                  refine lv_goto (pc := 179) (tgt := 183) hx hb dL_name_179 (by decide) ?_
                  refine lv_istore (pc := 183) (lv' := [(7, .int (nI (i + c))), (0, .ref dd), (1, .long w), (3, .ref nn), (4, .int (zb y)), (5, .int (nI i)), (6, .int x6)]) hx hb dL_name_183 hl (by decide) rfl (fun ls hl => ?_)
                  exact L185 (nI (i + c)) (by unfold blw; rw [if_pos ⟨c145, c170⟩]; rfl)  _ _ hP hD hS _ (lv_sub hl [1, 2, 3, 4, 5, 6, 0] rfl)
                refine lv_iload (pc := 85) hx hb dL_name_85 (lv_at hl 4 rfl) ?_
                refine lv_aload_n (pc := 87) hx hb dL_name_87 rfl (lv_at hl 0 rfl) ?_
                refine lv_iconst (pc := 88) (v := nI 0) hx hb dL_name_88 rfl ?_
                refine va_iald (pc := 89) hx hb hK.1 hP 0 0 rfl rfl (vp_in_nI (by omega) (by decide)) dL_name_89 ?_
                refine top_i (show (dF (nI c) (nI r) dx dy) (nI 0).toNatClampNeg = nI c from by rw [nI_clamp (by decide)]; rfl) ?_
                refine n_irem (pc := 90) hx hb (by omega) (by omega) (by omega) dL_name_90 ?_
                refine lv_aload_n (pc := 91) hx hb dL_name_91 rfl (lv_at hl 0 rfl) ?_
                refine lv_iconst (pc := 92) (v := nI 0) hx hb dL_name_92 rfl ?_
                refine va_iald (pc := 93) hx hb hK.1 hP 0 0 rfl rfl (vp_in_nI (by omega) (by decide)) dL_name_93 ?_
                refine top_i (show (dF (nI c) (nI r) dx dy) (nI 0).toNatClampNeg = nI c from by rw [nI_clamp (by decide)]; rfl) ?_
                refine lv_iconst (pc := 94) (v := nI 1) hx hb dL_name_94 rfl ?_
                refine n_isub (pc := 95) hx hb (by omega) dL_name_95 ?_
                refine n_icmp_ge (pc := 96) (tgt := 131) hx hb (by have := Nat.mod_le i c; omega) (by omega) dL_name_96 (by decide) (fun c96 => ?_) (fun c96 => ?_)
                · refine lv_iconst (pc := 131) (v := (-1)) hx hb dL_name_131 (by decide) ?_
                  refine lv_istore (pc := 132) (lv' := [(6, .int (-1)), (0, .ref dd), (1, .long w), (3, .ref nn), (4, .int (zb y)), (5, .int (nI i))]) hx hb dL_name_132 hl (by decide) rfl (fun ls hl => ?_)
                  exact L134 (-1) (by unfold rgt; rw [if_neg (fun q => absurd q.1 (by omega))]; rfl)  _ _ hP hD hS _ (lv_sub hl [1, 2, 3, 4, 5, 0] rfl)
                refine lv_lload_n (pc := 99) hx hb dL_name_99 rfl (lv_at hl 1 rfl) ?_
                refine lv_aload_n (pc := 100) hx hb dL_name_100 rfl (lv_at hl 0 rfl) ?_
                refine lv_iload (pc := 101) hx hb dL_name_101 (lv_at hl 4 rfl) ?_
                refine lv_aload_n (pc := 103) hx hb dL_name_103 rfl (lv_at hl 0 rfl) ?_
                refine lv_iconst (pc := 104) (v := nI 0) hx hb dL_name_104 rfl ?_
                refine va_iald (pc := 105) hx hb hK.1 hP 0 0 rfl rfl (vp_in_nI (by omega) (by decide)) dL_name_105 ?_
                refine top_i (show (dF (nI c) (nI r) dx dy) (nI 0).toNatClampNeg = nI c from by rw [nI_clamp (by decide)]; rfl) ?_
                refine n_irem (pc := 106) hx hb (by omega) (by omega) (by omega) dL_name_106 ?_
                refine lv_iconst (pc := 107) (v := nI 1) hx hb dL_name_107 rfl ?_
                refine n_iadd (pc := 108) hx hb dL_name_108 ?_
                refine lv_iload (pc := 109) hx hb dL_name_109 (lv_at hl 4 rfl) ?_
                refine lv_aload_n (pc := 111) hx hb dL_name_111 rfl (lv_at hl 0 rfl) ?_
                refine lv_iconst (pc := 112) (v := nI 0) hx hb dL_name_112 rfl ?_
                refine va_iald (pc := 113) hx hb hK.1 hP 0 0 rfl rfl (vp_in_nI (by omega) (by decide)) dL_name_113 ?_
                refine top_i (show (dF (nI c) (nI r) dx dy) (nI 0).toNatClampNeg = nI c from by rw [nI_clamp (by decide)]; rfl) ?_
                refine n_idiv (pc := 114) hx hb (by omega) (by omega) (by omega) dL_name_114 ?_
                refine ro_go (pc := 115) (va_runS (As := [.ref dd, .int (nI ((i % c) + 1)), .int (nI (i / c))]) (rest := [.long w]) ⟨hx, hb, hml, hown, hts⟩ (c_L_upright l D Y dd c r dx dy ((i % c) + 1) (i / c) (hC)) (va_cwS 3 hts gL_name_L_upright rfl rfl rfl hdL_upright ⟨Nat.le_of_ble_eq_true rfl, Nat.le_of_ble_eq_true rfl⟩) (ro_pS hK (hP.sub [0] rfl)) rfl rfl hl.1 rfl (lv_room (Nat.le_of_ble_eq_true rfl)) dL_name_115 ⟨Nat.le_of_ble_eq_true rfl, Nat.le_of_ble_eq_true rfl⟩) ?_
                refine top_i (show nI (c * (r + 1) + (c + 1) * (i / c) + ((i % c) + 1)) = nI (sid c r i 3) from by rw [sidL3 (r := r)]) ?_
                refine ro_go (pc := 118) (va_runS (As := [.long w, .int (nI (sid c r i 3))]) (rest := []) ⟨hx, hb, hml, hown, hts⟩ (c_L_has l D Y w (sid c r i 3) (by have := sid_lt hC c82 (k := 3) (by decide); omega)) (va_cwS 2 hts gL_name_L_has rfl rfl rfl hdL_has ⟨Nat.le_of_ble_eq_true rfl, Nat.le_of_ble_eq_true rfl⟩) (ro_pS hK (hP.sub [] rfl)) rfl rfl hl.1 rfl (lv_room (Nat.le_of_ble_eq_true rfl)) dL_name_118 ⟨Nat.le_of_ble_eq_true rfl, Nat.le_of_ble_eq_true rfl⟩) ?_
                refine z_if_ne (pc := 121) (tgt := 131) hx hb dL_name_121 (by decide) (fun c121 => ?_) (fun c121 => ?_)
                · refine lv_iconst (pc := 131) (v := (-1)) hx hb dL_name_131 (by decide) ?_
                  refine lv_istore (pc := 132) (lv' := [(6, .int (-1)), (0, .ref dd), (1, .long w), (3, .ref nn), (4, .int (zb y)), (5, .int (nI i))]) hx hb dL_name_132 hl (by decide) rfl (fun ls hl => ?_)
                  exact L134 (-1) (by unfold rgt; rw [if_neg (fun q => by rw [c121] at q; cases q.2)]; rfl)  _ _ hP hD hS _ (lv_sub hl [1, 2, 3, 4, 5, 0] rfl)
                refine lv_iload (pc := 124) hx hb dL_name_124 (lv_at hl 4 rfl) ?_
                refine lv_iconst (pc := 126) (v := nI 1) hx hb dL_name_126 rfl ?_
                refine n_iadd (pc := 127) hx hb dL_name_127 ?_
                refine lv_goto (pc := 128) (tgt := 132) hx hb dL_name_128 (by decide) ?_
                refine lv_istore (pc := 132) (lv' := [(6, .int (nI (i + 1))), (0, .ref dd), (1, .long w), (3, .ref nn), (4, .int (zb y)), (5, .int (nI i))]) hx hb dL_name_132 hl (by decide) rfl (fun ls hl => ?_)
                exact L134 (nI (i + 1)) (by unfold rgt; rw [if_pos ⟨c96, c121⟩]; rfl)  _ _ hP hD hS _ (lv_sub hl [1, 2, 3, 4, 5, 0] rfl)
            exact L73 ((c * r - 0) + 1) 0 false sv (by first | assumption | omega) (hnm) (⟨fun q => (by cases q), fun _ => rfl⟩) (fun _ b hb => absurd hb (Nat.not_lt_zero _)) (Nat.lt_succ_self _) _ _ hP hD hS _ (lv_sub hl [2, 3, 4, 1, 0] rfl)
        exact L62 ((smM c r f + zn true) + 1) true f (NmR.init hC (fun b hb => hf9 b (by omega))) (fun q => by cases q) (Nat.lt_succ_self _) _ _ hP hD hS _ (lv_sub hl [1, 2, 3, 0] rfl)
      refine lv_aload_n (pc := 10) hx hb dL_name_10 rfl (lv_at hl 2 rfl) ?_
      refine lv_iload (pc := 11) hx hb dL_name_11 (lv_at hl 3 rfl) ?_
      refine lv_iload (pc := 13) hx hb dL_name_13 (lv_at hl 3 rfl) ?_
      refine lv_aload_n (pc := 15) hx hb dL_name_15 rfl (lv_at hl 0 rfl) ?_
      refine lv_iconst (pc := 16) (v := nI 0) hx hb dL_name_16 rfl ?_
      refine va_iald (pc := 17) hx hb hK.1 hP 0 0 rfl rfl (vp_in_nI (by omega) (by decide)) dL_name_17 ?_
      refine top_i (show (dF (nI c) (nI r) dx dy) (nI 0).toNatClampNeg = nI c from by rw [nI_clamp (by decide)]; rfl) ?_
      refine lv_aload_n (pc := 18) hx hb dL_name_18 rfl (lv_at hl 0 rfl) ?_
      refine lv_iconst (pc := 19) (v := nI 1) hx hb dL_name_19 rfl ?_
      refine va_iald (pc := 20) hx hb hK.1 hP 0 0 rfl rfl (vp_in_nI (by omega) (by decide)) dL_name_20 ?_
      refine top_i (show (dF (nI c) (nI r) dx dy) (nI 1).toNatClampNeg = nI r from by rw [nI_clamp (by decide)]; rfl) ?_
      refine n_imul (pc := 21) hx hb dL_name_21 ?_
      refine n_icmp_ge (pc := 22) (tgt := 51) hx hb (by omega) (by omega) dL_name_22 (by decide) (fun c22 => ?_) (fun c22 => ?_)
      · refine lv_iconst (pc := 51) (v := (-1)) hx hb dL_name_51 (by decide) ?_
        refine va_iast (pc := 52) hx hb hK.1 hP hD hS 1 0 rfl rfl (vp_in_nI (by omega) (by decide)) dL_name_52 (fun H locs hP hD hS => ?_)
        rw [nI_clamp (by omega)] at hP hD
        have hP : va_P D vwCl [(dd, .inl (Y.1, 4, .inl (dF (nI c) (nI r) dx dy))), (nn, .inl (Y.1, 16, .inl (upd f i (-1))))] H := hP
        have hD : va_D AA [(dd, .inl (Y.1, 4, .inl (dF (nI c) (nI r) dx dy))), (nn, .inl (Y.1, 16, .inl (upd f i (-1))))] := hD
        refine lv_iinc (pc := 53) (v := nI (i + 1)) (lv' := [(4, .int (nI (i + 1))), (0, .ref dd), (1, .long w), (3, .ref nn)]) hx hb dL_name_53 hl (k := 3) rfl (n_inc i 1) (by decide) rfl (fun ls hl => ?_)
        refine lv_goto (pc := 56) (tgt := 3) hx hb dL_name_56 (by decide) ?_
        exact ih3 (i + 1) (upd f i (-1)) (by omega) (lt_s (fun b hb => by rw [pk_un (by omega)]; exact hf9 b hb) (by rw [pk_us, decide_eq_false (by omega), Bool.false_and]; rfl)) (by omega) _ _ hP hD hS _ (lv_sub hl [1, 2, 3, 0] rfl)
      refine lv_aload_n (pc := 25) hx hb dL_name_25 rfl (lv_at hl 0 rfl) ?_
      refine lv_iload (pc := 26) hx hb dL_name_26 (lv_at hl 3 rfl) ?_
      refine lv_lload_n (pc := 28) hx hb dL_name_28 rfl (lv_at hl 1 rfl) ?_
      refine ro_go (pc := 29) (va_runS (As := [.ref dd, .int (nI i), .long w]) (rest := [.int (nI i), .ref nn]) ⟨hx, hb, hml, hown, hts⟩ (c_L_open l D Y dd c r dx dy i w (hC) (by first | assumption | omega)) (va_cwS 3 hts gL_name_L_open rfl rfl rfl hdL_open ⟨Nat.le_of_ble_eq_true rfl, Nat.le_of_ble_eq_true rfl⟩) (ro_pS hK (hP.sub [0] rfl)) rfl rfl hl.1 rfl (lv_room (Nat.le_of_ble_eq_true rfl)) dL_name_29 ⟨Nat.le_of_ble_eq_true rfl, Nat.le_of_ble_eq_true rfl⟩) ?_
      refine n_if_le (pc := 32) (tgt := 51) hx hb (by have := opn_le c r w i; omega) dL_name_32 (by decide) (fun c32 => ?_) (fun c32 => ?_)
      · refine lv_iconst (pc := 51) (v := (-1)) hx hb dL_name_51 (by decide) ?_
        refine va_iast (pc := 52) hx hb hK.1 hP hD hS 1 0 rfl rfl (vp_in_nI (by omega) (by decide)) dL_name_52 (fun H locs hP hD hS => ?_)
        rw [nI_clamp (by omega)] at hP hD
        have hP : va_P D vwCl [(dd, .inl (Y.1, 4, .inl (dF (nI c) (nI r) dx dy))), (nn, .inl (Y.1, 16, .inl (upd f i (-1))))] H := hP
        have hD : va_D AA [(dd, .inl (Y.1, 4, .inl (dF (nI c) (nI r) dx dy))), (nn, .inl (Y.1, 16, .inl (upd f i (-1))))] := hD
        refine lv_iinc (pc := 53) (v := nI (i + 1)) (lv' := [(4, .int (nI (i + 1))), (0, .ref dd), (1, .long w), (3, .ref nn)]) hx hb dL_name_53 hl (k := 3) rfl (n_inc i 1) (by decide) rfl (fun ls hl => ?_)
        refine lv_goto (pc := 56) (tgt := 3) hx hb dL_name_56 (by decide) ?_
        exact ih3 (i + 1) (upd f i (-1)) (by omega) (lt_s (fun b hb => by rw [pk_un (by omega)]; exact hf9 b hb) (by rw [pk_us, show thn c r w i = false from (by unfold thn; rw [decide_eq_false (by omega), Bool.false_and]), Bool.and_false]; rfl)) (by omega) _ _ hP hD hS _ (lv_sub hl [1, 2, 3, 0] rfl)
      refine lv_aload_n (pc := 35) hx hb dL_name_35 rfl (lv_at hl 0 rfl) ?_
      refine lv_iload (pc := 36) hx hb dL_name_36 (lv_at hl 3 rfl) ?_
      refine lv_lload_n (pc := 38) hx hb dL_name_38 rfl (lv_at hl 1 rfl) ?_
      refine ro_go (pc := 39) (va_runS (As := [.ref dd, .int (nI i), .long w]) (rest := [.int (nI i), .ref nn]) ⟨hx, hb, hml, hown, hts⟩ (c_L_open l D Y dd c r dx dy i w (hC) (by first | assumption | omega)) (va_cwS 3 hts gL_name_L_open rfl rfl rfl hdL_open ⟨Nat.le_of_ble_eq_true rfl, Nat.le_of_ble_eq_true rfl⟩) (ro_pS hK (hP.sub [0] rfl)) rfl rfl hl.1 rfl (lv_room (Nat.le_of_ble_eq_true rfl)) dL_name_39 ⟨Nat.le_of_ble_eq_true rfl, Nat.le_of_ble_eq_true rfl⟩) ?_
      refine lv_iconst (pc := 42) (v := nI 3) hx hb dL_name_42 rfl ?_
      refine n_icmp_ge (pc := 43) (tgt := 51) hx hb (by have := opn_le c r w i; omega) (by decide) dL_name_43 (by decide) (fun c43 => ?_) (fun c43 => ?_)
      · refine lv_iconst (pc := 51) (v := (-1)) hx hb dL_name_51 (by decide) ?_
        refine va_iast (pc := 52) hx hb hK.1 hP hD hS 1 0 rfl rfl (vp_in_nI (by omega) (by decide)) dL_name_52 (fun H locs hP hD hS => ?_)
        rw [nI_clamp (by omega)] at hP hD
        have hP : va_P D vwCl [(dd, .inl (Y.1, 4, .inl (dF (nI c) (nI r) dx dy))), (nn, .inl (Y.1, 16, .inl (upd f i (-1))))] H := hP
        have hD : va_D AA [(dd, .inl (Y.1, 4, .inl (dF (nI c) (nI r) dx dy))), (nn, .inl (Y.1, 16, .inl (upd f i (-1))))] := hD
        refine lv_iinc (pc := 53) (v := nI (i + 1)) (lv' := [(4, .int (nI (i + 1))), (0, .ref dd), (1, .long w), (3, .ref nn)]) hx hb dL_name_53 hl (k := 3) rfl (n_inc i 1) (by decide) rfl (fun ls hl => ?_)
        refine lv_goto (pc := 56) (tgt := 3) hx hb dL_name_56 (by decide) ?_
        exact ih3 (i + 1) (upd f i (-1)) (by omega) (lt_s (fun b hb => by rw [pk_un (by omega)]; exact hf9 b hb) (by rw [pk_us, show thn c r w i = false from (by unfold thn; rw [decide_eq_false (p := opn c r w i ≤ 2) (by omega), Bool.and_false]), Bool.and_false]; rfl)) (by omega) _ _ hP hD hS _ (lv_sub hl [1, 2, 3, 0] rfl)
      refine lv_iload (pc := 46) hx hb dL_name_46 (lv_at hl 3 rfl) ?_
      refine lv_goto (pc := 48) (tgt := 52) hx hb dL_name_48 (by decide) ?_
      refine va_iast (pc := 52) hx hb hK.1 hP hD hS 1 0 rfl rfl (vp_in_nI (by omega) (by decide)) dL_name_52 (fun H locs hP hD hS => ?_)
      rw [nI_clamp (by omega)] at hP hD
      have hP : va_P D vwCl [(dd, .inl (Y.1, 4, .inl (dF (nI c) (nI r) dx dy))), (nn, .inl (Y.1, 16, .inl (upd f i (nI i))))] H := hP
      have hD : va_D AA [(dd, .inl (Y.1, 4, .inl (dF (nI c) (nI r) dx dy))), (nn, .inl (Y.1, 16, .inl (upd f i (nI i))))] := hD
      refine lv_iinc (pc := 53) (v := nI (i + 1)) (lv' := [(4, .int (nI (i + 1))), (0, .ref dd), (1, .long w), (3, .ref nn)]) hx hb dL_name_53 hl (k := 3) rfl (n_inc i 1) (by decide) rfl (fun ls hl => ?_)
      refine lv_goto (pc := 56) (tgt := 3) hx hb dL_name_56 (by decide) ?_
      exact ih3 (i + 1) (upd f i (nI i)) (by omega) (lt_s (fun b hb => by rw [pk_un (by omega)]; exact hf9 b hb) (by rw [pk_us, decide_eq_true c22, show thn c r w i = true from (by unfold thn; rw [decide_eq_true (by omega), decide_eq_true (by omega), Bool.and_self])]; rfl)) (by omega) _ _ hP hD hS _ (lv_sub hl [1, 2, 3, 0] rfl)
  exact L3 ((16 - 0) + 1) 0 nf (by omega) (fun b h => absurd h (Nat.not_lt_zero _)) (Nat.lt_succ_self _) _ _ hP hD hS _ (lv_sub hl [1, 2, 3, 0] rfl)
