set_option maxHeartbeats 1200000 in
set_option maxRecDepth 100000 in
theorem c_L_property (l : Launch) (D : va_G) (Y : vY) (dd : Nat) (c : Nat) (r : Nat) (dx : Int32) (dy : Int32) (w : Int64) (nn : Nat) (nf : Nat → Int32) (lo : Nat) (k : Nat) (a : Nat) (hC : Cr c r) (hna : NaR c r w nf) (hlo : lo < c * r) (hir : isr c r w lo = true) (hkk : k = fb_ct (isr c r w) lo) (ha4 : a ≤ 4) : Ro l yL_property wsL_property ({ frames := 2, cells := 0, slots := 0, locals := 48 } : Room) [.ref dd, .long w, .ref nn, .int (nI lo), .int (nI a)] D Y [(dd, .inl (Y.1, 4, .inl (dF (nI c) (nI r) dx dy))), (nn, .inl (Y.1, 16, .inl nf))] (some (.int (nI (propM c r w k a)))) := by
  refine ro_intro (by decide +kernel) rfl (Nat.le_of_ble_eq_true rfl) [(0, .ref dd), (1, .long w), (3, .ref nn), (4, .int (nI lo)), (5, .int (nI a))] rfl ?_
  intro pG eG sG mG aG bG tG cG ls hx hb hr hml hts hown hlocks hK hP hl
  have hP : va_P D vwCl [(dd, .inl (Y.1, 4, .inl (dF (nI c) (nI r) dx dy))), (nn, .inl (Y.1, 16, .inl nf))] sG.heap := hP
  have hown : sG.vm.findClass RL = some mG.cls := hown
  have hl : lv_has ls 15 [(0, .ref dd), (1, .long w), (3, .ref nn), (4, .int (nI lo)), (5, .int (nI a))] := hl
  obtain ⟨hq1, hq2, hq3, hq4, hq5, hq6, hq7, hq8, hq9, hq10, hq11⟩ := hC.q
  have hnk : ∀ b, b < c * r → (nf b = nI lo ↔ inS c r w k b = true) := fun b hb => by rw [hkk]; exact na_k hC hna hlo hir hb
  refine lv_iconst (pc := 0) (v := nI 0) hx hb dL_property_0 rfl ?_
  refine lv_istore (pc := 1) (lv' := [(6, .int (nI 0)), (0, .ref dd), (1, .long w), (3, .ref nn), (4, .int (nI lo)), (5, .int (nI a))]) hx hb dL_property_1 hl (by decide) rfl (fun ls hl => ?_)
  refine lv_iconst (pc := 3) (v := nI 0) hx hb dL_property_3 rfl ?_
  refine lv_istore (pc := 4) (lv' := [(7, .int (nI 0)), (6, .int (nI 0)), (0, .ref dd), (1, .long w), (3, .ref nn), (4, .int (nI lo)), (5, .int (nI a))]) hx hb dL_property_4 hl (by decide) rfl (fun ls hl => ?_)
  refine lv_iconst (pc := 6) (v := nI 0) hx hb dL_property_6 rfl ?_
  refine lv_istore (pc := 7) (lv' := [(8, .int (nI 0)), (7, .int (nI 0)), (6, .int (nI 0)), (0, .ref dd), (1, .long w), (3, .ref nn), (4, .int (nI lo)), (5, .int (nI a))]) hx hb dL_property_7 hl (by decide) rfl (fun ls hl => ?_)
  refine lv_iconst (pc := 9) (v := nI 0) hx hb dL_property_9 rfl ?_
  refine lv_istore (pc := 10) (lv' := [(9, .int (nI 0)), (8, .int (nI 0)), (7, .int (nI 0)), (6, .int (nI 0)), (0, .ref dd), (1, .long w), (3, .ref nn), (4, .int (nI lo)), (5, .int (nI a))]) hx hb dL_property_10 hl (by decide) rfl (fun ls hl => ?_)
  refine lv_iconst (pc := 12) (v := zb true) hx hb dL_property_12 rfl ?_
  refine lv_istore (pc := 13) (lv' := [(10, .int (zb true)), (9, .int (nI 0)), (8, .int (nI 0)), (7, .int (nI 0)), (6, .int (nI 0)), (0, .ref dd), (1, .long w), (3, .ref nn), (4, .int (nI lo)), (5, .int (nI a))]) hx hb dL_property_13 hl (by decide) rfl (fun ls hl => ?_)
  refine lv_iconst (pc := 15) (v := nI 0) hx hb dL_property_15 rfl ?_
  refine lv_istore (pc := 16) (lv' := [(11, .int (nI 0)), (10, .int (zb true)), (9, .int (nI 0)), (8, .int (nI 0)), (7, .int (nI 0)), (6, .int (nI 0)), (0, .ref dd), (1, .long w), (3, .ref nn), (4, .int (nI lo)), (5, .int (nI a))]) hx hb dL_property_16 hl (by decide) rfl (fun ls hl => ?_)
  have L18 : ∀ (n18 : Nat), ∀ (i : Nat) (s : Nat) (t : Nat), (i ≤ c * r) → (s = fb_ct (inS c r w k) i) → (t = fb_ct (fun b => inS c r w k b && decide (opn c r w b = 1)) i) → c * r - i < n18 → ∀ (ls : Array Slot), lv_has ls 15 [(0, .ref dd), (1, .long w), (3, .ref nn), (4, .int (nI lo)), (5, .int (nI a)), (6, .int (nI s)), (7, .int (nI t)), (8, .int (nI 0)), (9, .int (nI 0)), (10, .int (zb true)), (11, .int (nI i))] → W pG l eG ({ frames := 2, cells := 0, slots := 0, locals := 48 } : Room) sG mG aG bG tG cG sG.heap [] 0 0 (MQ bG (RoQ (some (.int (nI (propM c r w k a))))) aG sG 0 0 (fun _ => False)) (F0 mG 18 ls []) := by
    intro n18
    induction n18 with
    | zero =>
      intro i s t hi hs ht9 hmeas18  ls hl
      exact absurd hmeas18 (Nat.not_lt_zero _)
    | succ n18 ih18 =>
      intro i s t hi hs ht9 hmeas18  ls hl
      refine lv_iload (pc := 18) hx hb dL_property_18 (lv_at hl 10 rfl) ?_
      refine lv_aload_n (pc := 20) hx hb dL_property_20 rfl (lv_at hl 0 rfl) ?_
      refine lv_iconst (pc := 21) (v := nI 0) hx hb dL_property_21 rfl ?_
      refine va_iald (pc := 22) hx hb hK.1 hP 0 0 rfl rfl (vp_in_nI (by omega) (by decide)) dL_property_22 ?_
      refine top_i (show (dF (nI c) (nI r) dx dy) (nI 0).toNatClampNeg = nI c from by rw [nI_clamp (by decide)]; rfl) ?_
      refine lv_aload_n (pc := 23) hx hb dL_property_23 rfl (lv_at hl 0 rfl) ?_
      refine lv_iconst (pc := 24) (v := nI 1) hx hb dL_property_24 rfl ?_
      refine va_iald (pc := 25) hx hb hK.1 hP 0 0 rfl rfl (vp_in_nI (by omega) (by decide)) dL_property_25 ?_
      refine top_i (show (dF (nI c) (nI r) dx dy) (nI 1).toNatClampNeg = nI r from by rw [nI_clamp (by decide)]; rfl) ?_
      refine n_imul (pc := 26) hx hb dL_property_26 ?_
      refine n_icmp_ge (pc := 27) (tgt := 62) hx hb (by omega) (by omega) dL_property_27 (by decide) (fun c27 => ?_) (fun c27 => ?_)
      · have hsz : s = ssz c r w k := by rw [hs, show i = c * r by omega]; rfl
        have hlo9 : t = loN c r w k := by rw [ht9, show i = c * r by omega]; rfl
        have hlol := loN_le (c := c) (r := r) (w := w) (k := k)
        refine lv_iconst (pc := 62) (v := nI 0) hx hb dL_property_62 rfl ?_
        refine lv_istore (pc := 63) (lv' := [(11, .int (nI 0)), (0, .ref dd), (1, .long w), (3, .ref nn), (4, .int (nI lo)), (5, .int (nI a)), (6, .int (nI s)), (7, .int (nI t)), (8, .int (nI 0)), (9, .int (nI 0)), (10, .int (zb true))]) hx hb dL_property_63 hl (by decide) rfl (fun ls hl => ?_)
        have L65 : ∀ (n65 : Nat), ∀ (j : Nat) (ln : Nat) (ou : Nat) (z : Bool), (j ≤ al c r) → (ln = fb_ct (fun l => decide (0 < hrL c r w k l)) j) → (ou = fb_ct (fun l => decide (0 < hrL c r w k l) && decide (0 < thL c r w k l)) j) → (z = andb (fun l => !decide (hrL c r w k l = 1)) j) → al c r - j < n65 → ∀ (ls : Array Slot), lv_has ls 15 [(0, .ref dd), (1, .long w), (3, .ref nn), (4, .int (nI lo)), (5, .int (nI a)), (6, .int (nI s)), (7, .int (nI t)), (8, .int (nI ln)), (9, .int (nI ou)), (10, .int (zb z)), (11, .int (nI j))] → W pG l eG ({ frames := 2, cells := 0, slots := 0, locals := 48 } : Room) sG mG aG bG tG cG sG.heap [] 0 0 (MQ bG (RoQ (some (.int (nI (propM c r w k a))))) aG sG 0 0 (fun _ => False)) (F0 mG 65 ls []) := by
          intro n65
          induction n65 with
          | zero =>
            intro j ln ou z hj hln hou hz hmeas65  ls hl
            exact absurd hmeas65 (Nat.not_lt_zero _)
          | succ n65 ih65 =>
            intro j ln ou z hj hln hou hz hmeas65  ls hl
            refine lv_iload (pc := 65) hx hb dL_property_65 (lv_at hl 10 rfl) ?_
            refine lv_aload_n (pc := 67) hx hb dL_property_67 rfl (lv_at hl 0 rfl) ?_
            refine ro_go (pc := 68) (va_runS (As := [.ref dd]) (rest := [.int (nI j)]) ⟨hx, hb, hml, hown, hts⟩ (c_L_lines l D Y dd c r dx dy (hC)) (va_cwS 1 hts gL_property_L_lines rfl rfl rfl hdL_lines ⟨Nat.le_of_ble_eq_true rfl, Nat.le_of_ble_eq_true rfl⟩) (ro_pS hK (hP.sub [0] rfl)) rfl rfl hl.1 rfl (lv_room (Nat.le_of_ble_eq_true rfl)) dL_property_68 ⟨Nat.le_of_ble_eq_true rfl, Nat.le_of_ble_eq_true rfl⟩) ?_
            refine n_icmp_ge (pc := 71) (tgt := 173) hx hb (by omega) (by omega) dL_property_71 (by decide) (fun c71 => ?_) (fun c71 => ?_)
            · have hz9 : z = andb (fun l => !decide (hrL c r w k l = 1)) (al c r) := by rw [hz, show j = al c r by omega]
              have hsl : slop c r w k = (andb (fun l => !decide (hrL c r w k l = 1)) (al c r) && decide (loN c r w k = 0)) := by rw [hkk]; exact (hr_slop hC hlo hir).symm
              refine lv_iload (pc := 173) hx hb dL_property_173 (lv_at hl 4 rfl) ?_
              refine n_if_ne (pc := 175) (tgt := 183) hx hb (by omega) dL_property_175 (by decide) (fun c175 => ?_) (fun c175 => ?_)
              · refine lv_iload (pc := 183) hx hb dL_property_183 (lv_at hl 4 rfl) ?_
                refine lv_iconst (pc := 185) (v := nI 1) hx hb dL_property_185 rfl ?_
                refine n_icmp_ne (pc := 186) (tgt := 207) hx hb (by omega) (by decide) dL_property_186 (by decide) (fun c186 => ?_) (fun c186 => ?_)
                · refine lv_iload (pc := 207) hx hb dL_property_207 (lv_at hl 4 rfl) ?_
                  refine lv_iconst (pc := 209) (v := nI 2) hx hb dL_property_209 rfl ?_
                  refine n_icmp_ne (pc := 210) (tgt := 226) hx hb (by omega) (by decide) dL_property_210 (by decide) (fun c210 => ?_) (fun c210 => ?_)
                  · refine lv_iload (pc := 226) hx hb dL_property_226 (lv_at hl 4 rfl) ?_
                    refine lv_iconst (pc := 228) (v := nI 3) hx hb dL_property_228 rfl ?_
                    refine n_icmp_ne (pc := 229) (tgt := 237) hx hb (by omega) (by decide) dL_property_229 (by decide) (fun c229 => ?_) (fun c229 => ?_)
                    · refine lv_iload (pc := 237) hx hb dL_property_237 (lv_at hl 8 rfl) ?_
                      exact ro_iret (v := nI ou) hx hb hr hlocks (by rw [show a = 4 by omega]; show _ = nI (smix c r w k); rw [hkk, ← hr_smix hC hlo hir, ← hkk, hou, show j = al c r by omega]) dL_property_239
                    refine lv_iload (pc := 232) hx hb dL_property_232 (lv_at hl 7 rfl) ?_
                    refine lv_goto (pc := 234) (tgt := 239) hx hb dL_property_234 (by decide) ?_
                    exact ro_iret (v := nI ln) hx hb hr hlocks (by rw [c229]; show _ = nI (slin c r w k); rw [← hr_slin hC, hln, show j = al c r by omega]) dL_property_239
                  refine lv_iload (pc := 213) hx hb dL_property_213 (lv_at hl 6 rfl) ?_
                  refine n_if_le (pc := 215) (tgt := 222) hx hb (by omega) dL_property_215 (by decide) (fun c215 => ?_) (fun c215 => ?_)
                  · refine lv_iconst (pc := 222) (v := nI 0) hx hb dL_property_222 rfl ?_
                    refine lv_goto (pc := 223) (tgt := 239) hx hb dL_property_223 (by decide) ?_
                    exact ro_iret (v := nI 0) hx hb hr hlocks (by rw [c210]; show _ = nI (zn (sopn c r w k)); rw [sopn_lo, decide_eq_false (by omega)]; rfl) dL_property_239
                  refine lv_iconst (pc := 218) (v := nI 1) hx hb dL_property_218 rfl ?_
                  refine lv_goto (pc := 219) (tgt := 239) hx hb dL_property_219 (by decide) ?_
                  exact ro_iret (v := nI 1) hx hb hr hlocks (by rw [c210]; show _ = nI (zn (sopn c r w k)); rw [sopn_lo, decide_eq_true (by omega)]; rfl) dL_property_239
                refine lv_iload (pc := 189) hx hb dL_property_189 (lv_at hl 9 rfl) ?_
                refine z_if_eq (pc := 191) (tgt := 203) hx hb dL_property_191 (by decide) (fun c191 => ?_) (fun c191 => ?_)
                · refine lv_iconst (pc := 203) (v := nI 0) hx hb dL_property_203 rfl ?_
                  refine lv_goto (pc := 204) (tgt := 239) hx hb dL_property_204 (by decide) ?_
                  exact ro_iret (v := nI 0) hx hb hr hlocks (by rw [c186]; show _ = nI (zn (slop c r w k)); rw [hsl, ← hz9, c191, Bool.false_and]; rfl) dL_property_239
                refine lv_iload (pc := 194) hx hb dL_property_194 (lv_at hl 6 rfl) ?_
                refine n_if_ne (pc := 196) (tgt := 203) hx hb (by omega) dL_property_196 (by decide) (fun c196 => ?_) (fun c196 => ?_)
                · refine lv_iconst (pc := 203) (v := nI 0) hx hb dL_property_203 rfl ?_
                  refine lv_goto (pc := 204) (tgt := 239) hx hb dL_property_204 (by decide) ?_
                  exact ro_iret (v := nI 0) hx hb hr hlocks (by rw [c186]; show _ = nI (zn (slop c r w k)); rw [hsl, ← hz9, c191, decide_eq_false (by omega)]; rfl) dL_property_239
                refine lv_iconst (pc := 199) (v := nI 1) hx hb dL_property_199 rfl ?_
                refine lv_goto (pc := 200) (tgt := 239) hx hb dL_property_200 (by decide) ?_
                exact ro_iret (v := nI 1) hx hb hr hlocks (by rw [c186]; show _ = nI (zn (slop c r w k)); rw [hsl, ← hz9, c191, decide_eq_true (by omega)]; rfl) dL_property_239
              refine lv_iload (pc := 178) hx hb dL_property_178 (lv_at hl 5 rfl) ?_
              refine lv_goto (pc := 180) (tgt := 239) hx hb dL_property_180 (by decide) ?_
              exact ro_iret (v := nI s) hx hb hr hlocks (by rw [c175]; show _ = nI (ssz c r w k); rw [hsz]) dL_property_239
            refine lv_iconst (pc := 74) (v := nI 0) hx hb dL_property_74 rfl ?_
            refine lv_istore (pc := 75) (lv' := [(12, .int (nI 0)), (0, .ref dd), (1, .long w), (3, .ref nn), (4, .int (nI lo)), (5, .int (nI a)), (6, .int (nI s)), (7, .int (nI t)), (8, .int (nI ln)), (9, .int (nI ou)), (10, .int (zb z)), (11, .int (nI j))]) hx hb dL_property_75 hl (by decide) rfl (fun ls hl => ?_)
            refine lv_iconst (pc := 77) (v := nI 0) hx hb dL_property_77 rfl ?_
            refine lv_istore (pc := 78) (lv' := [(13, .int (nI 0)), (12, .int (nI 0)), (0, .ref dd), (1, .long w), (3, .ref nn), (4, .int (nI lo)), (5, .int (nI a)), (6, .int (nI s)), (7, .int (nI t)), (8, .int (nI ln)), (9, .int (nI ou)), (10, .int (zb z)), (11, .int (nI j))]) hx hb dL_property_78 hl (by decide) rfl (fun ls hl => ?_)
            refine lv_iconst (pc := 80) (v := nI 0) hx hb dL_property_80 rfl ?_
            refine lv_istore (pc := 81) (lv' := [(14, .int (nI 0)), (13, .int (nI 0)), (12, .int (nI 0)), (0, .ref dd), (1, .long w), (3, .ref nn), (4, .int (nI lo)), (5, .int (nI a)), (6, .int (nI s)), (7, .int (nI t)), (8, .int (nI ln)), (9, .int (nI ou)), (10, .int (zb z)), (11, .int (nI j))]) hx hb dL_property_81 hl (by decide) rfl (fun ls hl => ?_)
            have L83 : ∀ (n83 : Nat), ∀ (m : Nat) (h : Nat) (e : Nat), (m ≤ c * r) → (h = fb_ct (fun b => inS c r w k b && osd c r w b j) m) → (e = fb_ct (fun b => !inS c r w k b && osd c r w b j) m) → c * r - m < n83 → ∀ (ls : Array Slot), lv_has ls 15 [(0, .ref dd), (1, .long w), (3, .ref nn), (4, .int (nI lo)), (5, .int (nI a)), (6, .int (nI s)), (7, .int (nI t)), (8, .int (nI ln)), (9, .int (nI ou)), (10, .int (zb z)), (11, .int (nI j)), (12, .int (nI h)), (13, .int (nI e)), (14, .int (nI m))] → W pG l eG ({ frames := 2, cells := 0, slots := 0, locals := 48 } : Room) sG mG aG bG tG cG sG.heap [] 0 0 (MQ bG (RoQ (some (.int (nI (propM c r w k a))))) aG sG 0 0 (fun _ => False)) (F0 mG 83 ls []) := by
              intro n83
              induction n83 with
              | zero =>
                intro m h e hm hh he hmeas83  ls hl
                exact absurd hmeas83 (Nat.not_lt_zero _)
              | succ n83 ih83 =>
                intro m h e hm hh he hmeas83  ls hl
                refine lv_iload (pc := 83) hx hb dL_property_83 (lv_at hl 13 rfl) ?_
                refine lv_aload_n (pc := 85) hx hb dL_property_85 rfl (lv_at hl 0 rfl) ?_
                refine lv_iconst (pc := 86) (v := nI 0) hx hb dL_property_86 rfl ?_
                refine va_iald (pc := 87) hx hb hK.1 hP 0 0 rfl rfl (vp_in_nI (by omega) (by decide)) dL_property_87 ?_
                refine top_i (show (dF (nI c) (nI r) dx dy) (nI 0).toNatClampNeg = nI c from by rw [nI_clamp (by decide)]; rfl) ?_
                refine lv_aload_n (pc := 88) hx hb dL_property_88 rfl (lv_at hl 0 rfl) ?_
                refine lv_iconst (pc := 89) (v := nI 1) hx hb dL_property_89 rfl ?_
                refine va_iald (pc := 90) hx hb hK.1 hP 0 0 rfl rfl (vp_in_nI (by omega) (by decide)) dL_property_90 ?_
                refine top_i (show (dF (nI c) (nI r) dx dy) (nI 1).toNatClampNeg = nI r from by rw [nI_clamp (by decide)]; rfl) ?_
                refine n_imul (pc := 91) hx hb dL_property_91 ?_
                refine n_icmp_ge (pc := 92) (tgt := 139) hx hb (by omega) (by omega) dL_property_92 (by decide) (fun c92 => ?_) (fun c92 => ?_)
                · have hh9 : h = hrL c r w k j := by rw [hh, show m = c * r by omega]; rfl
                  have he9 : e = thL c r w k j := by rw [he, show m = c * r by omega]; rfl
                  have hhl := hrL_le (c := c) (r := r) (w := w) (k := k) (l := j)
                  have hel := thL_le (c := c) (r := r) (w := w) (k := k) (l := j)
                  refine lv_iload (pc := 139) hx hb dL_property_139 (lv_at hl 11 rfl) ?_
                  refine n_if_ne (pc := 141) (tgt := 147) hx hb (by omega) dL_property_141 (by decide) (fun c141 => ?_) (fun c141 => ?_)
                  · refine lv_iinc (pc := 147) (v := nI (ln + 1)) (lv' := [(8, .int (nI (ln + 1))), (0, .ref dd), (1, .long w), (3, .ref nn), (4, .int (nI lo)), (5, .int (nI a)), (6, .int (nI s)), (7, .int (nI t)), (9, .int (nI ou)), (10, .int (zb z)), (11, .int (nI j)), (12, .int (nI h)), (13, .int (nI e)), (14, .int (nI m))]) hx hb dL_property_147 hl (k := 7) rfl (n_inc ln 1) (by decide) rfl (fun ls hl => ?_)
                    refine lv_iload (pc := 150) hx hb dL_property_150 (lv_at hl 11 rfl) ?_
                    refine lv_iconst (pc := 152) (v := nI 1) hx hb dL_property_152 rfl ?_
                    refine n_icmp_ne (pc := 153) (tgt := 159) hx hb (by omega) (by decide) dL_property_153 (by decide) (fun c153 => ?_) (fun c153 => ?_)
                    · refine lv_iload (pc := 159) hx hb dL_property_159 (lv_at hl 12 rfl) ?_
                      refine n_if_le (pc := 161) (tgt := 167) hx hb (by omega) dL_property_161 (by decide) (fun c161 => ?_) (fun c161 => ?_)
                      · refine lv_iinc (pc := 167) (v := nI (j + 1)) (lv' := [(11, .int (nI (j + 1))), (8, .int (nI (ln + 1))), (0, .ref dd), (1, .long w), (3, .ref nn), (4, .int (nI lo)), (5, .int (nI a)), (6, .int (nI s)), (7, .int (nI t)), (9, .int (nI ou)), (10, .int (zb z)), (12, .int (nI h)), (13, .int (nI e)), (14, .int (nI m))]) hx hb dL_property_167 hl (k := 10) rfl (n_inc j 1) (by decide) rfl (fun ls hl => ?_)
                        refine lv_goto (pc := 170) (tgt := 65) hx hb dL_property_170 (by decide) ?_
                        exact ih65 (j + 1) (ln + 1) ou z (by first | assumption | omega) (by rw [fb_ct_succ, ← hln, decide_eq_true (by omega)]; rfl) (by rw [fb_ct_succ, ← hou, decide_eq_true (p := 0 < hrL c r w k j) (by omega), decide_eq_false (p := 0 < thL c r w k j) (by omega)]; rfl) (by rw [andb, ← hz, decide_eq_false (by omega)]; simp) (by omega) _ (lv_sub hl [2, 3, 4, 5, 6, 7, 8, 1, 9, 10, 0] rfl)
                      refine lv_iinc (pc := 164) (v := nI (ou + 1)) (lv' := [(9, .int (nI (ou + 1))), (8, .int (nI (ln + 1))), (0, .ref dd), (1, .long w), (3, .ref nn), (4, .int (nI lo)), (5, .int (nI a)), (6, .int (nI s)), (7, .int (nI t)), (10, .int (zb z)), (11, .int (nI j)), (12, .int (nI h)), (13, .int (nI e)), (14, .int (nI m))]) hx hb dL_property_164 hl (k := 8) rfl (n_inc ou 1) (by decide) rfl (fun ls hl => ?_)
                      refine lv_iinc (pc := 167) (v := nI (j + 1)) (lv' := [(11, .int (nI (j + 1))), (9, .int (nI (ou + 1))), (8, .int (nI (ln + 1))), (0, .ref dd), (1, .long w), (3, .ref nn), (4, .int (nI lo)), (5, .int (nI a)), (6, .int (nI s)), (7, .int (nI t)), (10, .int (zb z)), (12, .int (nI h)), (13, .int (nI e)), (14, .int (nI m))]) hx hb dL_property_167 hl (k := 10) rfl (n_inc j 1) (by decide) rfl (fun ls hl => ?_)
                      refine lv_goto (pc := 170) (tgt := 65) hx hb dL_property_170 (by decide) ?_
                      exact ih65 (j + 1) (ln + 1) (ou + 1) z (by first | assumption | omega) (by rw [fb_ct_succ, ← hln, decide_eq_true (by omega)]; rfl) (by rw [fb_ct_succ, ← hou, decide_eq_true (p := 0 < hrL c r w k j) (by omega), decide_eq_true (p := 0 < thL c r w k j) (by omega)]; rfl) (by rw [andb, ← hz, decide_eq_false (by omega)]; simp) (by omega) _ (lv_sub hl [3, 4, 5, 6, 7, 8, 9, 2, 1, 10, 0] rfl)
                    refine lv_iconst (pc := 156) (v := zb false) hx hb dL_property_156 rfl ?_
                    refine lv_istore (pc := 157) (lv' := [(10, .int (zb false)), (8, .int (nI (ln + 1))), (0, .ref dd), (1, .long w), (3, .ref nn), (4, .int (nI lo)), (5, .int (nI a)), (6, .int (nI s)), (7, .int (nI t)), (9, .int (nI ou)), (11, .int (nI j)), (12, .int (nI h)), (13, .int (nI e)), (14, .int (nI m))]) hx hb dL_property_157 hl (by decide) rfl (fun ls hl => ?_)
                    refine lv_iload (pc := 159) hx hb dL_property_159 (lv_at hl 12 rfl) ?_
                    refine n_if_le (pc := 161) (tgt := 167) hx hb (by omega) dL_property_161 (by decide) (fun c161 => ?_) (fun c161 => ?_)
                    · refine lv_iinc (pc := 167) (v := nI (j + 1)) (lv' := [(11, .int (nI (j + 1))), (10, .int (zb false)), (8, .int (nI (ln + 1))), (0, .ref dd), (1, .long w), (3, .ref nn), (4, .int (nI lo)), (5, .int (nI a)), (6, .int (nI s)), (7, .int (nI t)), (9, .int (nI ou)), (12, .int (nI h)), (13, .int (nI e)), (14, .int (nI m))]) hx hb dL_property_167 hl (k := 10) rfl (n_inc j 1) (by decide) rfl (fun ls hl => ?_)
                      refine lv_goto (pc := 170) (tgt := 65) hx hb dL_property_170 (by decide) ?_
                      exact ih65 (j + 1) (ln + 1) ou false (by first | assumption | omega) (by rw [fb_ct_succ, ← hln, decide_eq_true (by omega)]; rfl) (by rw [fb_ct_succ, ← hou, decide_eq_true (p := 0 < hrL c r w k j) (by omega), decide_eq_false (p := 0 < thL c r w k j) (by omega)]; rfl) (by rw [andb, decide_eq_true (by omega)]; simp) (by omega) _ (lv_sub hl [3, 4, 5, 6, 7, 8, 9, 2, 10, 1, 0] rfl)
                    refine lv_iinc (pc := 164) (v := nI (ou + 1)) (lv' := [(9, .int (nI (ou + 1))), (10, .int (zb false)), (8, .int (nI (ln + 1))), (0, .ref dd), (1, .long w), (3, .ref nn), (4, .int (nI lo)), (5, .int (nI a)), (6, .int (nI s)), (7, .int (nI t)), (11, .int (nI j)), (12, .int (nI h)), (13, .int (nI e)), (14, .int (nI m))]) hx hb dL_property_164 hl (k := 9) rfl (n_inc ou 1) (by decide) rfl (fun ls hl => ?_)
                    refine lv_iinc (pc := 167) (v := nI (j + 1)) (lv' := [(11, .int (nI (j + 1))), (9, .int (nI (ou + 1))), (10, .int (zb false)), (8, .int (nI (ln + 1))), (0, .ref dd), (1, .long w), (3, .ref nn), (4, .int (nI lo)), (5, .int (nI a)), (6, .int (nI s)), (7, .int (nI t)), (12, .int (nI h)), (13, .int (nI e)), (14, .int (nI m))]) hx hb dL_property_167 hl (k := 10) rfl (n_inc j 1) (by decide) rfl (fun ls hl => ?_)
                    refine lv_goto (pc := 170) (tgt := 65) hx hb dL_property_170 (by decide) ?_
                    exact ih65 (j + 1) (ln + 1) (ou + 1) false (by first | assumption | omega) (by rw [fb_ct_succ, ← hln, decide_eq_true (by omega)]; rfl) (by rw [fb_ct_succ, ← hou, decide_eq_true (p := 0 < hrL c r w k j) (by omega), decide_eq_true (p := 0 < thL c r w k j) (by omega)]; rfl) (by rw [andb, decide_eq_true (by omega)]; simp) (by omega) _ (lv_sub hl [4, 5, 6, 7, 8, 9, 10, 3, 1, 2, 0] rfl)
                  refine lv_goto (pc := 144) (tgt := 167) hx hb dL_property_144 (by decide) ?_
                  refine lv_iinc (pc := 167) (v := nI (j + 1)) (lv' := [(11, .int (nI (j + 1))), (0, .ref dd), (1, .long w), (3, .ref nn), (4, .int (nI lo)), (5, .int (nI a)), (6, .int (nI s)), (7, .int (nI t)), (8, .int (nI ln)), (9, .int (nI ou)), (10, .int (zb z)), (12, .int (nI h)), (13, .int (nI e)), (14, .int (nI m))]) hx hb dL_property_167 hl (k := 10) rfl (n_inc j 1) (by decide) rfl (fun ls hl => ?_)
                  refine lv_goto (pc := 170) (tgt := 65) hx hb dL_property_170 (by decide) ?_
                  exact ih65 (j + 1) ln ou z (by first | assumption | omega) (by rw [fb_ct_succ, ← hln, decide_eq_false (by omega)]; rfl) (by rw [fb_ct_succ, ← hou, decide_eq_false (p := 0 < hrL c r w k j) (by omega)]; rfl) (by rw [andb, ← hz, decide_eq_false (by omega)]; simp) (by omega) _ (lv_sub hl [1, 2, 3, 4, 5, 6, 7, 8, 9, 10, 0] rfl)
                refine lv_lload_n (pc := 95) hx hb dL_property_95 rfl (lv_at hl 1 rfl) ?_
                refine lv_iload (pc := 96) hx hb dL_property_96 (lv_at hl 10 rfl) ?_
                refine ro_go (pc := 98) (va_runS (As := [.long w, .int (nI j)]) (rest := []) ⟨hx, hb, hml, hown, hts⟩ (c_L_has l D Y w j (by omega)) (va_cwS 2 hts gL_property_L_has rfl rfl rfl hdL_has ⟨Nat.le_of_ble_eq_true rfl, Nat.le_of_ble_eq_true rfl⟩) (ro_pS hK (hP.sub [] rfl)) rfl rfl hl.1 rfl (lv_room (Nat.le_of_ble_eq_true rfl)) dL_property_98 ⟨Nat.le_of_ble_eq_true rfl, Nat.le_of_ble_eq_true rfl⟩) ?_
                refine z_if_ne (pc := 101) (tgt := 133) hx hb dL_property_101 (by decide) (fun c101 => ?_) (fun c101 => ?_)
                · refine lv_iinc (pc := 133) (v := nI (m + 1)) (lv' := [(14, .int (nI (m + 1))), (0, .ref dd), (1, .long w), (3, .ref nn), (4, .int (nI lo)), (5, .int (nI a)), (6, .int (nI s)), (7, .int (nI t)), (8, .int (nI ln)), (9, .int (nI ou)), (10, .int (zb z)), (11, .int (nI j)), (12, .int (nI h)), (13, .int (nI e))]) hx hb dL_property_133 hl (k := 13) rfl (n_inc m 1) (by decide) rfl (fun ls hl => ?_)
                  refine lv_goto (pc := 136) (tgt := 83) hx hb dL_property_136 (by decide) ?_
                  exact ih83 (m + 1) h e (by first | assumption | omega) (by rw [fb_ct_succ, ← hh]; unfold osd; rw [c101]; simp) (by rw [fb_ct_succ, ← he]; unfold osd; rw [c101]; simp) (by omega) _ (lv_sub hl [1, 2, 3, 4, 5, 6, 7, 8, 9, 10, 11, 12, 13, 0] rfl)
                refine lv_aload_n (pc := 104) hx hb dL_property_104 rfl (lv_at hl 0 rfl) ?_
                refine lv_iload (pc := 105) hx hb dL_property_105 (lv_at hl 10 rfl) ?_
                refine lv_iload (pc := 107) hx hb dL_property_107 (lv_at hl 13 rfl) ?_
                refine ro_go (pc := 109) (va_runS (As := [.ref dd, .int (nI j), .int (nI m)]) (rest := []) ⟨hx, hb, hml, hown, hts⟩ (c_L_isSide l D Y dd c r dx dy j m (hC) (by first | assumption | omega) (by first | assumption | omega)) (va_cwS 3 hts gL_property_L_isSide rfl rfl rfl hdL_isSide ⟨Nat.le_of_ble_eq_true rfl, Nat.le_of_ble_eq_true rfl⟩) (ro_pS hK (hP.sub [0] rfl)) rfl rfl hl.1 rfl (lv_room (Nat.le_of_ble_eq_true rfl)) dL_property_109 ⟨Nat.le_of_ble_eq_true rfl, Nat.le_of_ble_eq_true rfl⟩) ?_
                refine z_if_eq (pc := 112) (tgt := 133) hx hb dL_property_112 (by decide) (fun c112 => ?_) (fun c112 => ?_)
                · refine lv_iinc (pc := 133) (v := nI (m + 1)) (lv' := [(14, .int (nI (m + 1))), (0, .ref dd), (1, .long w), (3, .ref nn), (4, .int (nI lo)), (5, .int (nI a)), (6, .int (nI s)), (7, .int (nI t)), (8, .int (nI ln)), (9, .int (nI ou)), (10, .int (zb z)), (11, .int (nI j)), (12, .int (nI h)), (13, .int (nI e))]) hx hb dL_property_133 hl (k := 13) rfl (n_inc m 1) (by decide) rfl (fun ls hl => ?_)
                  refine lv_goto (pc := 136) (tgt := 83) hx hb dL_property_136 (by decide) ?_
                  exact ih83 (m + 1) h e (by first | assumption | omega) (by rw [fb_ct_succ, ← hh]; unfold osd; rw [c112]; simp) (by rw [fb_ct_succ, ← he]; unfold osd; rw [c112]; simp) (by omega) _ (lv_sub hl [1, 2, 3, 4, 5, 6, 7, 8, 9, 10, 11, 12, 13, 0] rfl)
                refine lv_aload_n (pc := 115) hx hb dL_property_115 rfl (lv_at hl 2 rfl) ?_
                refine lv_iload (pc := 116) hx hb dL_property_116 (lv_at hl 13 rfl) ?_
                refine va_iald (pc := 118) hx hb hK.1 hP 1 0 rfl rfl (vp_in_nI (by omega) (by decide)) dL_property_118 ?_
                refine top_i (show nf (nI m).toNatClampNeg = nf m from by rw [nI_clamp (by omega)]) ?_
                refine lv_iload (pc := 119) hx hb dL_property_119 (lv_at hl 3 rfl) ?_
                refine lv_icmp_ne (pc := 121) (tgt := 130) hx hb dL_property_121 (by decide) (fun c121 => ?_) (fun c121 => ?_)
                · have hin : inS c r w k m = false := bfn (fun q => c121 ((hnk m (by omega)).mpr q))
                  refine lv_iinc (pc := 130) (v := nI (e + 1)) (lv' := [(13, .int (nI (e + 1))), (0, .ref dd), (1, .long w), (3, .ref nn), (4, .int (nI lo)), (5, .int (nI a)), (6, .int (nI s)), (7, .int (nI t)), (8, .int (nI ln)), (9, .int (nI ou)), (10, .int (zb z)), (11, .int (nI j)), (12, .int (nI h)), (14, .int (nI m))]) hx hb dL_property_130 hl (k := 12) rfl (n_inc e 1) (by decide) rfl (fun ls hl => ?_)
                  refine lv_iinc (pc := 133) (v := nI (m + 1)) (lv' := [(14, .int (nI (m + 1))), (13, .int (nI (e + 1))), (0, .ref dd), (1, .long w), (3, .ref nn), (4, .int (nI lo)), (5, .int (nI a)), (6, .int (nI s)), (7, .int (nI t)), (8, .int (nI ln)), (9, .int (nI ou)), (10, .int (zb z)), (11, .int (nI j)), (12, .int (nI h))]) hx hb dL_property_133 hl (k := 13) rfl (n_inc m 1) (by decide) rfl (fun ls hl => ?_)
                  refine lv_goto (pc := 136) (tgt := 83) hx hb dL_property_136 (by decide) ?_
                  exact ih83 (m + 1) h (e + 1) (by first | assumption | omega) (by rw [fb_ct_succ, ← hh]; unfold osd; rw [c101, c112, hin]; rfl) (by rw [fb_ct_succ, ← he]; unfold osd; rw [c101, c112, hin]; rfl) (by omega) _ (lv_sub hl [2, 3, 4, 5, 6, 7, 8, 9, 10, 11, 12, 13, 1, 0] rfl)
                have hin : inS c r w k m = true := (hnk m (by omega)).mp c121
                refine lv_iinc (pc := 124) (v := nI (h + 1)) (lv' := [(12, .int (nI (h + 1))), (0, .ref dd), (1, .long w), (3, .ref nn), (4, .int (nI lo)), (5, .int (nI a)), (6, .int (nI s)), (7, .int (nI t)), (8, .int (nI ln)), (9, .int (nI ou)), (10, .int (zb z)), (11, .int (nI j)), (13, .int (nI e)), (14, .int (nI m))]) hx hb dL_property_124 hl (k := 11) rfl (n_inc h 1) (by decide) rfl (fun ls hl => ?_)
                refine lv_goto (pc := 127) (tgt := 133) hx hb dL_property_127 (by decide) ?_
                refine lv_iinc (pc := 133) (v := nI (m + 1)) (lv' := [(14, .int (nI (m + 1))), (12, .int (nI (h + 1))), (0, .ref dd), (1, .long w), (3, .ref nn), (4, .int (nI lo)), (5, .int (nI a)), (6, .int (nI s)), (7, .int (nI t)), (8, .int (nI ln)), (9, .int (nI ou)), (10, .int (zb z)), (11, .int (nI j)), (13, .int (nI e))]) hx hb dL_property_133 hl (k := 13) rfl (n_inc m 1) (by decide) rfl (fun ls hl => ?_)
                refine lv_goto (pc := 136) (tgt := 83) hx hb dL_property_136 (by decide) ?_
                exact ih83 (m + 1) (h + 1) e (by first | assumption | omega) (by rw [fb_ct_succ, ← hh]; unfold osd; rw [c101, c112, hin]; rfl) (by rw [fb_ct_succ, ← he]; unfold osd; rw [c101, c112, hin]; rfl) (by omega) _ (lv_sub hl [2, 3, 4, 5, 6, 7, 8, 9, 10, 11, 12, 1, 13, 0] rfl)
            exact L83 ((c * r - 0) + 1) 0 0 0 (by first | assumption | omega) (rfl) (rfl) (Nat.lt_succ_self _) _ (lv_sub hl [3, 4, 5, 6, 7, 8, 9, 10, 11, 12, 13, 2, 1, 0] rfl)
        exact L65 ((al c r - 0) + 1) 0 0 0 true (by first | assumption | omega) (rfl) (rfl) (rfl) (Nat.lt_succ_self _) _ (lv_sub hl [1, 2, 3, 4, 5, 6, 7, 8, 9, 10, 0] rfl)
      refine lv_aload_n (pc := 30) hx hb dL_property_30 rfl (lv_at hl 2 rfl) ?_
      refine lv_iload (pc := 31) hx hb dL_property_31 (lv_at hl 10 rfl) ?_
      refine va_iald (pc := 33) hx hb hK.1 hP 1 0 rfl rfl (vp_in_nI (by omega) (by decide)) dL_property_33 ?_
      refine top_i (show nf (nI i).toNatClampNeg = nf i from by rw [nI_clamp (by omega)]) ?_
      refine lv_iload (pc := 34) hx hb dL_property_34 (lv_at hl 3 rfl) ?_
      refine lv_icmp_ne (pc := 36) (tgt := 56) hx hb dL_property_36 (by decide) (fun c36 => ?_) (fun c36 => ?_)
      · have hin : inS c r w k i = false := bfn (fun q => c36 ((hnk i (by omega)).mpr q))
        refine lv_iinc (pc := 56) (v := nI (i + 1)) (lv' := [(11, .int (nI (i + 1))), (0, .ref dd), (1, .long w), (3, .ref nn), (4, .int (nI lo)), (5, .int (nI a)), (6, .int (nI s)), (7, .int (nI t)), (8, .int (nI 0)), (9, .int (nI 0)), (10, .int (zb true))]) hx hb dL_property_56 hl (k := 10) rfl (n_inc i 1) (by decide) rfl (fun ls hl => ?_)
        refine lv_goto (pc := 59) (tgt := 18) hx hb dL_property_59 (by decide) ?_
        exact ih18 (i + 1) s t (by first | assumption | omega) (by rw [fb_ct_succ, ← hs, hin]; rfl) (by rw [fb_ct_succ, ← ht9, hin]; rfl) (by omega) _ (lv_sub hl [1, 2, 3, 4, 5, 6, 7, 8, 9, 10, 0] rfl)
      have hin : inS c r w k i = true := (hnk i (by omega)).mp c36
      refine lv_iinc (pc := 39) (v := nI (s + 1)) (lv' := [(6, .int (nI (s + 1))), (0, .ref dd), (1, .long w), (3, .ref nn), (4, .int (nI lo)), (5, .int (nI a)), (7, .int (nI t)), (8, .int (nI 0)), (9, .int (nI 0)), (10, .int (zb true)), (11, .int (nI i))]) hx hb dL_property_39 hl (k := 5) rfl (n_inc s 1) (by decide) rfl (fun ls hl => ?_)
      refine lv_aload_n (pc := 42) hx hb dL_property_42 rfl (lv_at hl 1 rfl) ?_
      refine lv_iload (pc := 43) hx hb dL_property_43 (lv_at hl 10 rfl) ?_
      refine lv_lload_n (pc := 45) hx hb dL_property_45 rfl (lv_at hl 2 rfl) ?_
      refine ro_go (pc := 46) (va_runS (As := [.ref dd, .int (nI i), .long w]) (rest := []) ⟨hx, hb, hml, hown, hts⟩ (c_L_open l D Y dd c r dx dy i w (hC) (by first | assumption | omega)) (va_cwS 3 hts gL_property_L_open rfl rfl rfl hdL_open ⟨Nat.le_of_ble_eq_true rfl, Nat.le_of_ble_eq_true rfl⟩) (ro_pS hK (hP.sub [0] rfl)) rfl rfl hl.1 rfl (lv_room (Nat.le_of_ble_eq_true rfl)) dL_property_46 ⟨Nat.le_of_ble_eq_true rfl, Nat.le_of_ble_eq_true rfl⟩) ?_
      refine lv_iconst (pc := 49) (v := nI 1) hx hb dL_property_49 rfl ?_
      refine n_icmp_ne (pc := 50) (tgt := 56) hx hb (by have := opn_le c r w i; omega) (by decide) dL_property_50 (by decide) (fun c50 => ?_) (fun c50 => ?_)
      · refine lv_iinc (pc := 56) (v := nI (i + 1)) (lv' := [(11, .int (nI (i + 1))), (6, .int (nI (s + 1))), (0, .ref dd), (1, .long w), (3, .ref nn), (4, .int (nI lo)), (5, .int (nI a)), (7, .int (nI t)), (8, .int (nI 0)), (9, .int (nI 0)), (10, .int (zb true))]) hx hb dL_property_56 hl (k := 10) rfl (n_inc i 1) (by decide) rfl (fun ls hl => ?_)
        refine lv_goto (pc := 59) (tgt := 18) hx hb dL_property_59 (by decide) ?_
        exact ih18 (i + 1) (s + 1) t (by first | assumption | omega) (by rw [fb_ct_succ, ← hs, hin]; rfl) (by rw [fb_ct_succ, ← ht9, hin, decide_eq_false c50]; rfl) (by omega) _ (lv_sub hl [2, 3, 4, 5, 6, 1, 7, 8, 9, 10, 0] rfl)
      refine lv_iinc (pc := 53) (v := nI (t + 1)) (lv' := [(7, .int (nI (t + 1))), (6, .int (nI (s + 1))), (0, .ref dd), (1, .long w), (3, .ref nn), (4, .int (nI lo)), (5, .int (nI a)), (8, .int (nI 0)), (9, .int (nI 0)), (10, .int (zb true)), (11, .int (nI i))]) hx hb dL_property_53 hl (k := 6) rfl (n_inc t 1) (by decide) rfl (fun ls hl => ?_)
      refine lv_iinc (pc := 56) (v := nI (i + 1)) (lv' := [(11, .int (nI (i + 1))), (7, .int (nI (t + 1))), (6, .int (nI (s + 1))), (0, .ref dd), (1, .long w), (3, .ref nn), (4, .int (nI lo)), (5, .int (nI a)), (8, .int (nI 0)), (9, .int (nI 0)), (10, .int (zb true))]) hx hb dL_property_56 hl (k := 10) rfl (n_inc i 1) (by decide) rfl (fun ls hl => ?_)
      refine lv_goto (pc := 59) (tgt := 18) hx hb dL_property_59 (by decide) ?_
      exact ih18 (i + 1) (s + 1) (t + 1) (by first | assumption | omega) (by rw [fb_ct_succ, ← hs, hin]; rfl) (by rw [fb_ct_succ, ← ht9, hin, decide_eq_true c50]; rfl) (by omega) _ (lv_sub hl [3, 4, 5, 6, 7, 2, 1, 8, 9, 10, 0] rfl)
  exact L18 ((c * r - 0) + 1) 0 0 0 (by first | assumption | omega) (rfl) (rfl) (Nat.lt_succ_self _) _ (lv_sub hl [6, 7, 8, 9, 10, 5, 4, 3, 2, 1, 0] rfl)
