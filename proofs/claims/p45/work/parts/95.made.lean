/-! the law: all deals made (written by wip/p45/g95.py) -/
theorem d_ch {d : DD} {f t p : Nat} (w : dWf d) (ho : dO d = none) (h2 : f < 3) (h3 : t < 3) (h4 : f ≠ t) (h5 : p < 12) : dWf (dNo (dK d) f t p none (dN d)) := by
  obtain ⟨w1, w2, w3, w4, w5, w6, w7, w8, w9, w10⟩ := w
  rw [ho] at w6
  exact ⟨w1, h2, h3, h4, h5, w6, (fun v hv => by cases hv), w8, w9, fun _ _ => rfl⟩
theorem oI_none {d : DD} (w : dWf d) (h : oI (dO d) < 0) : dO d = none := by
  rcases e9 : dO d with _ | v0
  · rfl
  · rw [e9] at h
    exact absurd h (nI_pos (n := v0) (by have := (w.2.2.2.2.2.2.1 v0 e9).1; omega))
/-- all deals made -/
def MdQ (c : BQ) (tS : Nat → Int32) (qS : Nat → Nat) : Option VV → HP → Prop := fun v h' => v = some (vI 1) ∧ ∃ f n m o A D, f ≤ 2 ∧ n ≤ 9 ∧ JM h' f n m o A D c tS qS
theorem zL_made (X : EX) {h : HP} {o A : Nat → Nat} {D : Nat → DD} {c : BQ} {tS : Nat → Int32} {qS : Nat → Nat} (hx31 : xN X < 2 ^ 31) (J : JM h 0 0 0 o A D c tS qS) : Ct X mL_made 9 36 297 [vR (some 32), vR (some 109), vR (some 6), vI 2, vI 9] h (MdQ c tS qS) := by
  refine ct_of rfl (Nat.le_of_ble_eq_true rfl) ?_
  have loop : ∀ (mk r k n m f : Nat) (o A : Nat → Nat) (D9 : Nat → DD) (hz : HP), k + mk = r → f ≤ 2 → r ≤ 9 → m ≤ k → n ≤ m → JM hz f n m o A D9 c tS qS → Ev X mL_made 9 36 297 (MdQ c tS qS) (4 * k) (33 * k) 76 [(0, some (vR (some 32))), (1, some (vR (some 109))), (2, some (vR (some 6))), (6, some (vI (nI r))), (7, some (vI (nI k)))] [] hz := by
    intro mk
    induction mk with
    | zero =>
      intro r k n m f o A D9 hz hk hf hr9 hmk hnm J
      refine e_iload aL_made_76 rfl ?_
      refine e_iload aL_made_78 rfl ?_
      refine e_icmp_ge aL_made_80 (fun c80 => ?_) (fun c80 => ?_)
      · -- 80: taken
        refine e_iconst (v := 1) aL_made_254 (by decide) ?_
        refine e_zreturn aL_made_255 rfl (Or.inr rfl) (by omega) (by omega) ?_
        exact ⟨rfl, f, n, m, o, A, D9, hf, by omega, J⟩
      · -- 80: not taken
        exact absurd (nI_le (a := r) (b := k) (by omega) (by omega)) c80
    | succ mk ih =>
      intro r k n m f o A D9 hz hk hf hr9 hmk hnm J
      have hn12 : n ≤ 12 := by omega
      have nx : ∀ (h2 : HP) (fb : Nat) (d : DD), JM h2 f n m o A D9 c tS qS → FaC h2 fb d → Ev X mL_made 9 36 297 (MdQ c tS qS) (4 * k + 1) (33 * k + 6) 236 [(0, some (vR (some 32))), (1, some (vR (some 109))), (2, some (vR (some 6))), (6, some (vI (nI r))), (7, some (vI (nI k))), (9, some (vR (some fb)))] [] h2 := by
        intro h2 fb d J kd
        refine e_aload_n aL_made_236 rfl ?_
        refine e_aload_n aL_made_237 rfl ?_
        refine e_aload aL_made_238 rfl ?_
        refine e_invs aL_made_240 kL_97 (zL_told X J kd (by omega) (by omega) hnm) rfl rfl (Nat.le_of_ble_eq_true rfl) (Nat.le_of_ble_eq_true rfl) (by omega) (by omega) (Nat.le_of_ble_eq_true rfl) ?_
        rintro v h3 ⟨rfl, n2, m2, A2, D2, g1, g2, g3, J2⟩
        refine e_if_ne aL_made_243 (fun c243 => ?_) (fun c243 => ?_)
        · -- 243: taken
          skip
          refine e_iinc aL_made_248 rfl rfl (Nat.le_of_ble_eq_true rfl) ?_
          refine e_goto aL_made_251 ?_
          refine e_ls (ls' := [(0, some (vR (some 32))), (1, some (vR (some 109))), (2, some (vR (some 6))), (6, some (vI (nI r))), (7, some (vI (nI (k + 1))))]) ⟨rfl, rfl, rfl, rfl, congrArg (fun x => some (vI x)) (nI_1 k), trivial⟩ ?_
          refine e_widen (k := 4 * (k + 1)) (n := 33 * (k + 1)) (by omega) (by omega) ?_
          exact ih r (k + 1) n2 m2 f o A2 D2 h3 (by omega) hf (by omega) (by omega) g3 J2
        · -- 243: not taken
          exact absurd c243 (by decide)
      have F2 : Fx hz := J.1.1
      refine e_iload aL_made_76 rfl ?_
      refine e_iload aL_made_78 rfl ?_
      refine e_icmp_ge aL_made_80 (fun c80 => ?_) (fun c80 => ?_)
      · -- 80: taken
        exact absurd c80 (nI_ge (by omega) (by omega))
      · -- 80: not taken
        refine e_aload_n aL_made_83 rfl ?_
        refine e_iconst (v := 1) aL_made_84 (by decide) ?_
        refine e_iload aL_made_85 rfl ?_
        refine e_iadd aL_made_87 ?_
        refine e_top (nI_add 1 k) ?_
        refine e_invsT aL_made_88 kL_71 (zL_at X (k := 1 + k) hx31 (by omega)) rfl rfl (Nat.le_of_ble_eq_true rfl) (Nat.le_of_ble_eq_true rfl) (by omega) (by omega) (Nat.le_of_ble_eq_true rfl) ?_
        refine e_istore aL_made_91 (Nat.le_of_ble_eq_true rfl) ?_
        refine e_iload aL_made_93 rfl ?_
        refine e_invs aL_made_95 kL_79 (zL_deal X J.1.1 _) rfl rfl (Nat.le_of_ble_eq_true rfl) (Nat.le_of_ble_eq_true rfl) (by omega) (by omega) (Nat.le_of_ble_eq_true rfl) ?_
        rintro v h2 ⟨rfl, GZ, d, kd⟩
        have J0 := J.gb GZ
        have F2 : Fx h2 := GZ.F J.1.1
        obtain ⟨cx, ow, ok, e1, e2, fa, τ, E, ll0, lt0, ly0⟩ := id J
        have cf9 := CF.gb cx.1 GZ
        have ll := ll0.cf cf9
        have lt := lt0.cf cf9
        obtain ⟨k0, kf, kn, w, hcf, f0, f1, f2, f3, f4, f5⟩ := id kd
        obtain ⟨w1, w2, w3, w4, w5, w6, w7, w8, w9, w10⟩ := id w
        refine e_astore aL_made_98 (Nat.le_of_ble_eq_true rfl) ?_
        refine e_iload aL_made_100 rfl ?_
        refine e_bipush (v := 14) aL_made_102 (by decide) ?_
        refine e_ishr aL_made_104 ?_
        refine e_iconst (v := 1) aL_made_105 (by decide) ?_
        refine e_iand aL_made_106 ?_
        refine e_iconst (v := 1) aL_made_107 (by decide) ?_
        refine e_icmp_ne aL_made_108 (fun c108 => ?_) (fun c108 => ?_)
        · -- 108: taken
          skip
          skip
          refine e_iload aL_made_188 rfl ?_
          refine e_bipush (v := 20) aL_made_190 (by decide) ?_
          refine e_ishr aL_made_192 ?_
          refine e_iconst (v := 1) aL_made_193 (by decide) ?_
          refine e_iand aL_made_194 ?_
          refine e_iconst (v := 1) aL_made_195 (by decide) ?_
          refine e_icmp_ne aL_made_196 (fun c196 => ?_) (fun c196 => ?_)
          · -- 196: taken
            skip
            refine e_ls (ls' := [(0, some (vR (some 32))), (1, some (vR (some 109))), (2, some (vR (some 6))), (6, some (vI (nI r))), (7, some (vI (nI k))), (9, some (vR (some (hZ hz))))]) ⟨rfl, rfl, rfl, rfl, rfl, rfl, trivial⟩ ?_
            exact nx _ (hZ hz) d J0 kd
          · -- 196: not taken
            skip
            refine e_aload aL_made_199 rfl ?_
            refine e_iconst (v := 4) aL_made_201 (by decide) ?_
            refine e_ialoadF aL_made_202 kf kn (vin (n := 4) (N := 6) (by decide)) f4 ?_
            refine e_if_ge aL_made_203 (fun c203 => ?_) (fun c203 => ?_)
            · -- 203: taken
              skip
              refine e_ls (ls' := [(0, some (vR (some 32))), (1, some (vR (some 109))), (2, some (vR (some 6))), (6, some (vI (nI r))), (7, some (vI (nI k))), (9, some (vR (some (hZ hz))))]) ⟨rfl, rfl, rfl, rfl, rfl, rfl, trivial⟩ ?_
              exact nx _ (hZ hz) d J0 kd
            · -- 203: not taken
              have ho := oI_none w (Int32.not_le.mp c203)
              refine e_aload aL_made_206 rfl ?_
              refine e_iconst (v := 1) aL_made_208 (by decide) ?_
              refine e_aload aL_made_209 rfl ?_
              refine e_iconst (v := 3) aL_made_211 (by decide) ?_
              refine e_ialoadF aL_made_212 kf kn (vin (n := 3) (N := 6) (by decide)) f3 ?_
              refine e_iconst (v := 3) aL_made_213 (by decide) ?_
              refine e_irem aL_made_214 (by decide) ?_
              refine e_top (nI_rem (b := 3) (by omega) (by decide) (by decide)) ?_
              refine e_iastoreF aL_made_215 kf kn (vin (n := 1) (N := 6) (by decide)) ?_
              refine e_aload aL_made_216 rfl ?_
              refine e_iconst (v := 2) aL_made_218 (by decide) ?_
              refine e_aload aL_made_219 rfl ?_
              refine e_iconst (v := 1) aL_made_221 (by decide) ?_
              refine e_ialoadF aL_made_222 kf kn (vin (n := 1) (N := 6) (by decide)) wI_s ?_
              refine e_iconst (v := 1) aL_made_223 (by decide) ?_
              refine e_iadd aL_made_224 ?_
              refine e_iload aL_made_225 rfl ?_
              refine e_bipush (v := 21) aL_made_227 (by decide) ?_
              refine e_ishr aL_made_229 ?_
              refine e_iconst (v := 1) aL_made_230 (by decide) ?_
              refine e_iand aL_made_231 ?_
              obtain ⟨b9, hb9, e231⟩ := shx (x := (atV X (1 + k))) (k := 21)
              refine e_top (v := nI b9) e231 ?_
              refine e_iadd aL_made_232 ?_
              refine e_iconst (v := 3) aL_made_233 (by decide) ?_
              refine e_irem aL_made_234 (by decide) ?_
              refine e_top (nI_m3 (a := dP d % 3) (Nat.mod_lt _ (by decide)) hb9) ?_
              refine e_iastoreF aL_made_235 kf kn (vin (n := 2) (N := 6) (by decide)) ?_
              refine e_ls (ls' := [(0, some (vR (some 32))), (1, some (vR (some 109))), (2, some (vR (some 6))), (6, some (vI (nI r))), (7, some (vI (nI k))), (9, some (vR (some (hZ hz))))]) ⟨rfl, rfl, rfl, rfl, rfl, rfl, trivial⟩ ?_
              exact nx _ (hZ hz) _ (J.gb ((GZ.wI (Nat.le_refl _)).wI (Nat.le_refl _))) ⟨k0, kf, kn, d_ch (f := dP d % 3) (t := (dP d % 3 + 1 + b9) % 3) (p := dP d) w ho (Nat.mod_lt _ (by decide)) (Nat.mod_lt _ (by decide)) (m3_ne (Nat.mod_lt _ (by decide)) hb9) w5, rfl, (wI_i (by decide)).trans ((wI_i (by decide)).trans f0), (wI_i (by decide)).trans wI_s, wI_s, (wI_i (by decide)).trans ((wI_i (by decide)).trans f3), (wI_i (by decide)).trans ((wI_i (by decide)).trans (f4.trans (congrArg oI ho))), (wI_i (by decide)).trans ((wI_i (by decide)).trans f5)⟩
        · -- 108: not taken
          skip
          refine e_aload_n aL_made_111 rfl ?_
          refine e_getINF aL_made_112 fL_43 rfl (fx_is F2 rfl) lt.1 ?_
          refine e_if_le aL_made_115 (fun c115 => ?_) (fun c115 => ?_)
          · -- 115: taken
            skip
            skip
            refine e_iload aL_made_188 rfl ?_
            refine e_bipush (v := 20) aL_made_190 (by decide) ?_
            refine e_ishr aL_made_192 ?_
            refine e_iconst (v := 1) aL_made_193 (by decide) ?_
            refine e_iand aL_made_194 ?_
            refine e_iconst (v := 1) aL_made_195 (by decide) ?_
            refine e_icmp_ne aL_made_196 (fun c196 => ?_) (fun c196 => ?_)
            · -- 196: taken
              skip
              refine e_ls (ls' := [(0, some (vR (some 32))), (1, some (vR (some 109))), (2, some (vR (some 6))), (6, some (vI (nI r))), (7, some (vI (nI k))), (9, some (vR (some (hZ hz))))]) ⟨rfl, rfl, rfl, rfl, rfl, rfl, trivial⟩ ?_
              exact nx _ (hZ hz) d J0 kd
            · -- 196: not taken
              skip
              refine e_aload aL_made_199 rfl ?_
              refine e_iconst (v := 4) aL_made_201 (by decide) ?_
              refine e_ialoadF aL_made_202 kf kn (vin (n := 4) (N := 6) (by decide)) f4 ?_
              refine e_if_ge aL_made_203 (fun c203 => ?_) (fun c203 => ?_)
              · -- 203: taken
                skip
                refine e_ls (ls' := [(0, some (vR (some 32))), (1, some (vR (some 109))), (2, some (vR (some 6))), (6, some (vI (nI r))), (7, some (vI (nI k))), (9, some (vR (some (hZ hz))))]) ⟨rfl, rfl, rfl, rfl, rfl, rfl, trivial⟩ ?_
                exact nx _ (hZ hz) d J0 kd
              · -- 203: not taken
                have ho := oI_none w (Int32.not_le.mp c203)
                refine e_aload aL_made_206 rfl ?_
                refine e_iconst (v := 1) aL_made_208 (by decide) ?_
                refine e_aload aL_made_209 rfl ?_
                refine e_iconst (v := 3) aL_made_211 (by decide) ?_
                refine e_ialoadF aL_made_212 kf kn (vin (n := 3) (N := 6) (by decide)) f3 ?_
                refine e_iconst (v := 3) aL_made_213 (by decide) ?_
                refine e_irem aL_made_214 (by decide) ?_
                refine e_top (nI_rem (b := 3) (by omega) (by decide) (by decide)) ?_
                refine e_iastoreF aL_made_215 kf kn (vin (n := 1) (N := 6) (by decide)) ?_
                refine e_aload aL_made_216 rfl ?_
                refine e_iconst (v := 2) aL_made_218 (by decide) ?_
                refine e_aload aL_made_219 rfl ?_
                refine e_iconst (v := 1) aL_made_221 (by decide) ?_
                refine e_ialoadF aL_made_222 kf kn (vin (n := 1) (N := 6) (by decide)) wI_s ?_
                refine e_iconst (v := 1) aL_made_223 (by decide) ?_
                refine e_iadd aL_made_224 ?_
                refine e_iload aL_made_225 rfl ?_
                refine e_bipush (v := 21) aL_made_227 (by decide) ?_
                refine e_ishr aL_made_229 ?_
                refine e_iconst (v := 1) aL_made_230 (by decide) ?_
                refine e_iand aL_made_231 ?_
                obtain ⟨b9, hb9, e231⟩ := shx (x := (atV X (1 + k))) (k := 21)
                refine e_top (v := nI b9) e231 ?_
                refine e_iadd aL_made_232 ?_
                refine e_iconst (v := 3) aL_made_233 (by decide) ?_
                refine e_irem aL_made_234 (by decide) ?_
                refine e_top (nI_m3 (a := dP d % 3) (Nat.mod_lt _ (by decide)) hb9) ?_
                refine e_iastoreF aL_made_235 kf kn (vin (n := 2) (N := 6) (by decide)) ?_
                refine e_ls (ls' := [(0, some (vR (some 32))), (1, some (vR (some 109))), (2, some (vR (some 6))), (6, some (vI (nI r))), (7, some (vI (nI k))), (9, some (vR (some (hZ hz))))]) ⟨rfl, rfl, rfl, rfl, rfl, rfl, trivial⟩ ?_
                exact nx _ (hZ hz) _ (J.gb ((GZ.wI (Nat.le_refl _)).wI (Nat.le_refl _))) ⟨k0, kf, kn, d_ch (f := dP d % 3) (t := (dP d % 3 + 1 + b9) % 3) (p := dP d) w ho (Nat.mod_lt _ (by decide)) (Nat.mod_lt _ (by decide)) (m3_ne (Nat.mod_lt _ (by decide)) hb9) w5, rfl, (wI_i (by decide)).trans ((wI_i (by decide)).trans f0), (wI_i (by decide)).trans wI_s, wI_s, (wI_i (by decide)).trans ((wI_i (by decide)).trans f3), (wI_i (by decide)).trans ((wI_i (by decide)).trans (f4.trans (congrArg oI ho))), (wI_i (by decide)).trans ((wI_i (by decide)).trans f5)⟩
          · -- 115: not taken
            have q115 : 0 < n := by
              rcases Nat.eq_zero_or_pos n with z | z
              · rw [z] at c115; exact absurd (show nI 0 ≤ 0 by decide) c115
              · exact z
            refine e_aload aL_made_118 rfl ?_
            refine e_iconst (v := 4) aL_made_120 (by decide) ?_
            refine e_ialoadF aL_made_121 kf kn (vin (n := 4) (N := 6) (by decide)) f4 ?_
            refine e_if_ge aL_made_122 (fun c122 => ?_) (fun c122 => ?_)
            · -- 122: taken
              skip
              skip
              refine e_iload aL_made_188 rfl ?_
              refine e_bipush (v := 20) aL_made_190 (by decide) ?_
              refine e_ishr aL_made_192 ?_
              refine e_iconst (v := 1) aL_made_193 (by decide) ?_
              refine e_iand aL_made_194 ?_
              refine e_iconst (v := 1) aL_made_195 (by decide) ?_
              refine e_icmp_ne aL_made_196 (fun c196 => ?_) (fun c196 => ?_)
              · -- 196: taken
                skip
                refine e_ls (ls' := [(0, some (vR (some 32))), (1, some (vR (some 109))), (2, some (vR (some 6))), (6, some (vI (nI r))), (7, some (vI (nI k))), (9, some (vR (some (hZ hz))))]) ⟨rfl, rfl, rfl, rfl, rfl, rfl, trivial⟩ ?_
                exact nx _ (hZ hz) d J0 kd
              · -- 196: not taken
                skip
                refine e_aload aL_made_199 rfl ?_
                refine e_iconst (v := 4) aL_made_201 (by decide) ?_
                refine e_ialoadF aL_made_202 kf kn (vin (n := 4) (N := 6) (by decide)) f4 ?_
                refine e_if_ge aL_made_203 (fun c203 => ?_) (fun c203 => ?_)
                · -- 203: taken
                  skip
                  refine e_ls (ls' := [(0, some (vR (some 32))), (1, some (vR (some 109))), (2, some (vR (some 6))), (6, some (vI (nI r))), (7, some (vI (nI k))), (9, some (vR (some (hZ hz))))]) ⟨rfl, rfl, rfl, rfl, rfl, rfl, trivial⟩ ?_
                  exact nx _ (hZ hz) d J0 kd
                · -- 203: not taken
                  have ho := oI_none w (Int32.not_le.mp c203)
                  refine e_aload aL_made_206 rfl ?_
                  refine e_iconst (v := 1) aL_made_208 (by decide) ?_
                  refine e_aload aL_made_209 rfl ?_
                  refine e_iconst (v := 3) aL_made_211 (by decide) ?_
                  refine e_ialoadF aL_made_212 kf kn (vin (n := 3) (N := 6) (by decide)) f3 ?_
                  refine e_iconst (v := 3) aL_made_213 (by decide) ?_
                  refine e_irem aL_made_214 (by decide) ?_
                  refine e_top (nI_rem (b := 3) (by omega) (by decide) (by decide)) ?_
                  refine e_iastoreF aL_made_215 kf kn (vin (n := 1) (N := 6) (by decide)) ?_
                  refine e_aload aL_made_216 rfl ?_
                  refine e_iconst (v := 2) aL_made_218 (by decide) ?_
                  refine e_aload aL_made_219 rfl ?_
                  refine e_iconst (v := 1) aL_made_221 (by decide) ?_
                  refine e_ialoadF aL_made_222 kf kn (vin (n := 1) (N := 6) (by decide)) wI_s ?_
                  refine e_iconst (v := 1) aL_made_223 (by decide) ?_
                  refine e_iadd aL_made_224 ?_
                  refine e_iload aL_made_225 rfl ?_
                  refine e_bipush (v := 21) aL_made_227 (by decide) ?_
                  refine e_ishr aL_made_229 ?_
                  refine e_iconst (v := 1) aL_made_230 (by decide) ?_
                  refine e_iand aL_made_231 ?_
                  obtain ⟨b9, hb9, e231⟩ := shx (x := (atV X (1 + k))) (k := 21)
                  refine e_top (v := nI b9) e231 ?_
                  refine e_iadd aL_made_232 ?_
                  refine e_iconst (v := 3) aL_made_233 (by decide) ?_
                  refine e_irem aL_made_234 (by decide) ?_
                  refine e_top (nI_m3 (a := dP d % 3) (Nat.mod_lt _ (by decide)) hb9) ?_
                  refine e_iastoreF aL_made_235 kf kn (vin (n := 2) (N := 6) (by decide)) ?_
                  refine e_ls (ls' := [(0, some (vR (some 32))), (1, some (vR (some 109))), (2, some (vR (some 6))), (6, some (vI (nI r))), (7, some (vI (nI k))), (9, some (vR (some (hZ hz))))]) ⟨rfl, rfl, rfl, rfl, rfl, rfl, trivial⟩ ?_
                  exact nx _ (hZ hz) _ (J.gb ((GZ.wI (Nat.le_refl _)).wI (Nat.le_refl _))) ⟨k0, kf, kn, d_ch (f := dP d % 3) (t := (dP d % 3 + 1 + b9) % 3) (p := dP d) w ho (Nat.mod_lt _ (by decide)) (Nat.mod_lt _ (by decide)) (m3_ne (Nat.mod_lt _ (by decide)) hb9) w5, rfl, (wI_i (by decide)).trans ((wI_i (by decide)).trans f0), (wI_i (by decide)).trans wI_s, wI_s, (wI_i (by decide)).trans ((wI_i (by decide)).trans f3), (wI_i (by decide)).trans ((wI_i (by decide)).trans (f4.trans (congrArg oI ho))), (wI_i (by decide)).trans ((wI_i (by decide)).trans f5)⟩
            · -- 122: not taken
              have ho := oI_none w (Int32.not_le.mp c122)
              refine e_aload_n aL_made_125 rfl ?_
              refine e_getRNF aL_made_126 fL_83 rfl (fx_is F2 rfl) (fx_r (b := 110) F2 rfl) ?_
              refine e_aload_n aL_made_129 rfl ?_
              refine e_getRNF aL_made_130 fL_87 rfl (fx_is F2 rfl) (fx_r (b := 112) F2 rfl) ?_
              refine e_iload aL_made_133 rfl ?_
              refine e_bipush (v := 15) aL_made_135 (by decide) ?_
              refine e_ishr aL_made_137 ?_
              refine e_aload_n aL_made_138 rfl ?_
              refine e_getINF aL_made_139 fL_43 rfl (fx_is F2 rfl) lt.1 ?_
              refine e_invs aL_made_142 kL_18 (zL_mod X (m := n) q115 (by omega)) rfl rfl (Nat.le_of_ble_eq_true rfl) (Nat.le_of_ble_eq_true rfl) (by omega) (by omega) (Nat.le_of_ble_eq_true rfl) ?_
              rintro v h9 ⟨q, hq, rfl, e9⟩
              obtain rfl := e9.symm
              refine e_ialoadF aL_made_145 (fx_is F2 rfl) (fx_n (n := 13) F2 rfl) (vin (N := 13) (by omega)) (show hI _ 112 (nI q).toNatClampNeg = nI (τ q) by rw [cl (by omega)]; exact (lt.2.2 q hq).1) ?_
              refine e_invvT aL_made_146 kL_90 (zJx4a65c_get_915e3 X (fx_is F2 rfl) ll.1 (lt.2.2 q hq).2.1) rfl rfl (fx_is F2 rfl) (Nat.le_of_ble_eq_true rfl) (Nat.le_of_ble_eq_true rfl) (by omega) (by omega) (Nat.le_of_ble_eq_true rfl) ?_
              refine e_topR (v := some (fa (τ q))) rfl ?_
              obtain ⟨j0, gf, gn, gw, gcf, g0, g1, g2, g3, g4, g5⟩ := ll.2.2.2 (τ q) (lt.2.2 q hq).2.1
              obtain ⟨v1, v2, v3, v4, v5, -⟩ := id gw
              have hne : fa (τ q) ≠ hZ hz := Nat.ne_of_lt (ll0.2.2.2 (τ q) (lt.2.2 q hq).2.1).2.1.2.1
              refine e_castA aL_made_149 cL_96 gf ?_
              refine e_astore aL_made_152 (Nat.le_of_ble_eq_true rfl) ?_
              refine e_aload aL_made_154 rfl ?_
              refine e_iconst (v := 3) aL_made_156 (by decide) ?_
              refine e_aload aL_made_157 rfl ?_
              refine e_iconst (v := 3) aL_made_159 (by decide) ?_
              refine e_ialoadF aL_made_160 gf gn (vin (n := 3) (N := 6) (by decide)) g3 ?_
              refine e_iastoreF aL_made_161 kf kn (vin (n := 3) (N := 6) (by decide)) ?_
              refine e_aload aL_made_162 rfl ?_
              refine e_iconst (v := 1) aL_made_164 (by decide) ?_
              refine e_aload aL_made_165 rfl ?_
              refine e_iconst (v := 2) aL_made_167 (by decide) ?_
              refine e_ialoadF aL_made_168 gf gn (vin (n := 2) (N := 6) (by decide)) ((wI_a hne).trans g2) ?_
              refine e_iastoreF aL_made_169 kf kn (vin (n := 1) (N := 6) (by decide)) ?_
              refine e_aload aL_made_170 rfl ?_
              refine e_iconst (v := 2) aL_made_172 (by decide) ?_
              refine e_iconst (v := 3) aL_made_173 (by decide) ?_
              refine e_aload aL_made_174 rfl ?_
              refine e_iconst (v := 1) aL_made_176 (by decide) ?_
              refine e_ialoadF aL_made_177 gf gn (vin (n := 1) (N := 6) (by decide)) ((wI_a hne).trans ((wI_a hne).trans g1)) ?_
              refine e_isub aL_made_178 ?_
              refine e_top (nI_subN (a := 3) (b := dF (E (τ q))) (by omega)) ?_
              refine e_aload aL_made_179 rfl ?_
              refine e_iconst (v := 2) aL_made_181 (by decide) ?_
              refine e_ialoadF aL_made_182 gf gn (vin (n := 2) (N := 6) (by decide)) ((wI_a hne).trans ((wI_a hne).trans g2)) ?_
              refine e_isub aL_made_183 ?_
              refine e_top (nI_subN (a := 3 - dF (E (τ q))) (b := dT (E (τ q))) (by omega)) ?_
              refine e_iastoreF aL_made_184 kf kn (vin (n := 2) (N := 6) (by decide)) ?_
              refine e_goto aL_made_185 ?_
              refine e_ls (ls' := [(0, some (vR (some 32))), (1, some (vR (some 109))), (2, some (vR (some 6))), (6, some (vI (nI r))), (7, some (vI (nI k))), (9, some (vR (some (hZ hz))))]) ⟨rfl, rfl, rfl, rfl, rfl, rfl, trivial⟩ ?_
              exact nx _ (hZ hz) _ (J.gb (((GZ.wI (Nat.le_refl _)).wI (Nat.le_refl _)).wI (Nat.le_refl _))) ⟨k0, kf, kn, d_ch (f := dT (E (τ q))) (t := 3 - dF (E (τ q)) - dT (E (τ q))) (p := dP (E (τ q))) w ho v3 (by omega) (by omega) v5, rfl, (wI_i (by decide)).trans ((wI_i (by decide)).trans ((wI_i (by decide)).trans f0)), (wI_i (by decide)).trans wI_s, wI_s, (wI_i (by decide)).trans ((wI_i (by decide)).trans wI_s), (wI_i (by decide)).trans ((wI_i (by decide)).trans ((wI_i (by decide)).trans (f4.trans (congrArg oI ho)))), (wI_i (by decide)).trans ((wI_i (by decide)).trans ((wI_i (by decide)).trans f5))⟩
  have two : ∀ (hz : HP) (f : Nat) (o A : Nat → Nat) (D9 : Nat → DD), f ≤ 2 → JM hz f 0 0 o A D9 c tS qS → Ev X mL_made 9 36 297 (MdQ c tS qS) 0 0 56 [(0, some (vR (some 32))), (1, some (vR (some 109))), (2, some (vR (some 6))), (4, some (vI 9))] [] hz := by
    intro hz f o A D9 hf J
    refine e_aload_n aL_made_56 rfl ?_
    refine e_iconst (v := 0) aL_made_57 (by decide) ?_
    refine e_invsT aL_made_58 kL_71 (zL_at X (k := 0) hx31 (by decide)) rfl rfl (Nat.le_of_ble_eq_true rfl) (Nat.le_of_ble_eq_true rfl) (Nat.le_of_ble_eq_true rfl) (Nat.le_of_ble_eq_true rfl) (Nat.le_of_ble_eq_true rfl) ?_
    refine e_bipush (v := 20) aL_made_61 (by decide) ?_
    refine e_ishr aL_made_63 ?_
    refine e_iload aL_made_64 rfl ?_
    refine e_iconst (v := 1) aL_made_66 (by decide) ?_
    refine e_iadd aL_made_67 ?_
    refine e_top (v := nI 10) (by decide) ?_
    refine e_invs aL_made_68 kL_18 (zL_mod X (m := 10) (by decide) (by decide)) rfl rfl (Nat.le_of_ble_eq_true rfl) (Nat.le_of_ble_eq_true rfl) (Nat.le_of_ble_eq_true rfl) (Nat.le_of_ble_eq_true rfl) (Nat.le_of_ble_eq_true rfl) ?_
    rintro v h9 ⟨r, hr, rfl, e9⟩
    obtain rfl := e9.symm
    refine e_istore aL_made_71 (Nat.le_of_ble_eq_true rfl) ?_
    refine e_iconst (v := 0) aL_made_73 (by decide) ?_
    refine e_istore aL_made_74 (Nat.le_of_ble_eq_true rfl) ?_
    refine e_ls (ls' := [(0, some (vR (some 32))), (1, some (vR (some 109))), (2, some (vR (some 6))), (6, some (vI (nI r))), (7, some (vI (nI 0)))]) ⟨rfl, rfl, rfl, rfl, rfl, trivial⟩ ?_
    exact loop r r 0 0 0 f o A D9 hz (by omega) hf (by omega) (Nat.le_refl _) (Nat.le_refl _) J
  refine e_aload_n aL_made_0 rfl ?_
  refine e_iconst (v := 0) aL_made_1 (by decide) ?_
  refine e_invsT aL_made_2 kL_71 (zL_at X (k := 0) hx31 (by decide)) rfl rfl (Nat.le_of_ble_eq_true rfl) (Nat.le_of_ble_eq_true rfl) (Nat.le_of_ble_eq_true rfl) (Nat.le_of_ble_eq_true rfl) (Nat.le_of_ble_eq_true rfl) ?_
  refine e_iload_n aL_made_5 rfl ?_
  refine e_iconst (v := 1) aL_made_6 (by decide) ?_
  refine e_iadd aL_made_7 ?_
  refine e_top (v := nI 3) (by decide) ?_
  refine e_invs aL_made_8 kL_18 (zL_mod X (m := 3) (by decide) (by decide)) rfl rfl (Nat.le_of_ble_eq_true rfl) (Nat.le_of_ble_eq_true rfl) (Nat.le_of_ble_eq_true rfl) (Nat.le_of_ble_eq_true rfl) (Nat.le_of_ble_eq_true rfl) ?_
  rintro v h9 ⟨b0, hb0, rfl, e9⟩
  obtain rfl := e9.symm
  refine e_istore aL_made_11 (Nat.le_of_ble_eq_true rfl) ?_
  refine e_iconst (v := 0) aL_made_13 (by decide) ?_
  refine e_istore aL_made_14 (Nat.le_of_ble_eq_true rfl) ?_
  have one : ∀ (mk y : Nat) (o A : Nat → Nat) (D9 : Nat → DD) (hz : HP), y + mk = b0 → JM hz y 0 0 o A D9 c tS qS → Ev X mL_made 9 36 297 (MdQ c tS qS) 0 0 16 [(0, some (vR (some 32))), (1, some (vR (some 109))), (2, some (vR (some 6))), (4, some (vI 9)), (5, some (vI (nI b0))), (6, some (vI (nI y)))] [] hz := by
    intro mk
    induction mk with
    | zero =>
      intro y o A D9 hz hk J
      refine e_iload aL_made_16 rfl ?_
      refine e_iload aL_made_18 rfl ?_
      refine e_icmp_ge aL_made_20 (fun c20 => ?_) (fun c20 => ?_)
      · -- 20: taken
        refine e_ls (ls' := [(0, some (vR (some 32))), (1, some (vR (some 109))), (2, some (vR (some 6))), (4, some (vI 9))]) ⟨rfl, rfl, rfl, rfl, trivial⟩ ?_
        exact two hz y o A D9 (by omega) J
      · -- 20: not taken
        exact absurd (nI_le (a := b0) (b := y) (by omega) (by omega)) c20
    | succ mk ih =>
      intro y o A D9 hz hk J
      refine e_iload aL_made_16 rfl ?_
      refine e_iload aL_made_18 rfl ?_
      refine e_icmp_ge aL_made_20 (fun c20 => ?_) (fun c20 => ?_)
      · -- 20: taken
        exact absurd c20 (nI_ge (by omega) (by omega))
      · -- 20: not taken
        refine e_aload_n aL_made_23 rfl ?_
        refine e_aload_n aL_made_24 rfl ?_
        refine e_aload_n aL_made_25 rfl ?_
        refine e_iconst (v := 0) aL_made_26 (by decide) ?_
        refine e_invsT aL_made_27 kL_71 (zL_at X (k := 0) hx31 (by decide)) rfl rfl (Nat.le_of_ble_eq_true rfl) (Nat.le_of_ble_eq_true rfl) (Nat.le_of_ble_eq_true rfl) (Nat.le_of_ble_eq_true rfl) (Nat.le_of_ble_eq_true rfl) ?_
        refine e_iconst (v := 4) aL_made_30 (by decide) ?_
        refine e_iload aL_made_31 rfl ?_
        refine e_imul aL_made_33 ?_
        refine e_iconst (v := 4) aL_made_34 (by decide) ?_
        refine e_iadd aL_made_35 ?_
        refine e_ishr aL_made_36 ?_
        refine e_bipush (v := 6) aL_made_37 (by decide) ?_
        refine e_invs aL_made_39 kL_18 (zL_mod X (m := 6) (by decide) (by decide)) rfl rfl (Nat.le_of_ble_eq_true rfl) (Nat.le_of_ble_eq_true rfl) (Nat.le_of_ble_eq_true rfl) (Nat.le_of_ble_eq_true rfl) (Nat.le_of_ble_eq_true rfl) ?_
        rintro v h9 ⟨x, hx, rfl, e9⟩
        obtain rfl := e9.symm
        refine e_invs aL_made_42 kL_75 (zL_falls X J hx (by omega)) rfl rfl (Nat.le_of_ble_eq_true rfl) (Nat.le_of_ble_eq_true rfl) (Nat.le_of_ble_eq_true rfl) (Nat.le_of_ble_eq_true rfl) (Nat.le_of_ble_eq_true rfl) ?_
        rintro v h2 ⟨rfl, J2⟩
        refine e_if_ne aL_made_45 (fun c45 => ?_) (fun c45 => ?_)
        · -- 45: taken
          skip
          refine e_iinc aL_made_50 rfl rfl (Nat.le_of_ble_eq_true rfl) ?_
          refine e_goto aL_made_53 ?_
          refine e_ls (ls' := [(0, some (vR (some 32))), (1, some (vR (some 109))), (2, some (vR (some 6))), (4, some (vI 9)), (5, some (vI (nI b0))), (6, some (vI (nI (y + 1))))]) ⟨rfl, rfl, rfl, rfl, rfl, congrArg (fun x => some (vI x)) (nI_1 y), trivial⟩ ?_
          exact ih (y + 1) _ _ _ _ (by omega) J2
        · -- 45: not taken
          exact absurd c45 (by decide)
  refine e_ls (ls' := [(0, some (vR (some 32))), (1, some (vR (some 109))), (2, some (vR (some 6))), (4, some (vI 9)), (5, some (vI (nI b0))), (6, some (vI (nI 0)))]) ⟨rfl, rfl, rfl, rfl, rfl, rfl, trivial⟩ ?_
  exact one b0 0 o A D h (by omega) J
