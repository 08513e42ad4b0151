/-! contracts: Standings.has, Deal (written by wip/p45/g16.py) -/
theorem shr6 {s : Nat} (hs : s < 1073741824) : nI s >>> ((6 : Int32) &&& 31) = nI (s / 64) := pk_shrN (k := 6) (by omega) _ (by decide)
theorem and63 {s : Nat} (hs : s < 1073741824) : nI s &&& 63 = nI (s % 64) := pk_andN (k := 6) (by omega) (by decide)
theorem oI_lt {q : Option Nat} (h : ∀ p, q = some p → p < 1073741824) : oI q < 0 ↔ q = none := by
  cases q with
  | none => exact ⟨fun _ => rfl, fun _ => by decide⟩
  | some p => exact ⟨fun z => absurd z (nI_pos (by have := h p rfl; omega)), fun z => by cases z⟩
theorem oI_inj {q r : Option Nat} (h : ∀ p, q = some p → p < 1073741824) (h2 : ∀ p, r = some p → p < 1073741824) : oI q = oI r ↔ q = r := by
  refine ⟨fun e => ?_, fun e => by rw [e]⟩
  cases q with
  | none =>
    cases r with
    | none => rfl
    | some p =>
      have : oI (some p) < 0 := by rw [← e]; decide
      exact absurd this (nI_pos (by have := h2 p rfl; omega))
  | some p =>
    cases r with
    | none =>
      have : oI (some p) < 0 := by rw [e]; decide
      exact absurd this (nI_pos (by have := h p rfl; omega))
    | some p2 =>
      have e2 : nI p = nI p2 := e
      rw [nI_eq (by have := h p rfl; omega) (by have := h2 p2 rfl; omega)] at e2
      rw [e2]
theorem gv_b {d : DD} (w : dWf d) {s : Nat} : ∀ p, gv d s = some p → p < 1073741824 := fun p h => by have := (gv_ok w h).1; omega
theorem dO_b {d : DD} (w : dWf d) : ∀ p, dO d = some p → p < 1073741824 := fun p h => by have := (w.2.2.2.2.2.2.1 p h).1; omega
theorem zX6_has (X : EX) {h : HP} {sb s : Nat} {b : Nat → Bool} (k : StC h sb b) (hs : s < 1296) : Ct X mX6_has 0 0 0 [vR (some sb), vI (nI s)] h (Rt (vI (b2 (b s = true))) h) := by
  refine ct_of rfl (Nat.le_of_ble_eq_true rfl) ?_
  obtain ⟨kI, wb, kw, kw2, kn, kb⟩ := k
  refine e_aload_n aX6_has_0 rfl ?_
  refine e_getRF aX6_has_1 fX6_11 rfl kI kw ?_
  refine e_iload_n aX6_has_4 rfl ?_
  refine e_bipush (v := 6) aX6_has_5 (by decide) ?_
  refine e_ishr aX6_has_7 ?_
  refine e_top (shr6 (by omega)) ?_
  refine e_laloadF aX6_has_8 kw2 kn (vin (by omega)) (by rw [cl (by omega)]) ?_
  refine e_iload_n aX6_has_9 rfl ?_
  refine e_bipush (v := 63) aX6_has_10 (by decide) ?_
  refine e_iand aX6_has_12 ?_
  refine e_top (and63 (by omega)) ?_
  refine e_lshr aX6_has_13 ?_
  refine e_lconst (v := 1) aX6_has_14 rfl ?_
  refine e_land aX6_has_15 ?_
  refine e_topL (bitL_and (j := s % 64) (by omega)) ?_
  refine e_lconst (v := 0) aX6_has_16 rfl ?_
  refine e_lcmp aX6_has_17 ?_
  refine e_if_eq aX6_has_18 (fun c18 => ?_) (fun c18 => ?_)
  · -- 18: taken
    have c := bit_q.mp c18
    rw [kb s hs] at c
    refine e_iconst (v := 0) aX6_has_25 (by decide) ?_
    refine e_zreturn aX6_has_26 rfl (by decide) (Nat.le_refl _) (Nat.le_refl _) ?_
    exact ⟨by rw [b2_f (by first | grind | (simp only [b2_0] at *; grind))], rfl⟩
  · -- 18: not taken
    have c := (not_congr bit_q).mp c18
    rw [kb s hs] at c
    refine e_iconst (v := 1) aX6_has_21 (by decide) ?_
    refine e_goto aX6_has_22 ?_
    refine e_zreturn aX6_has_26 rfl (by decide) (Nat.le_refl _) (Nat.le_refl _) ?_
    exact ⟨by rw [b2_t (by first | grind | (simp only [b2_0] at *; grind))], rfl⟩
theorem sub_lt {a b n : Nat} (ha : a < 1073741824) (hb : b < 1073741824) (hn : n < 1073741824) : nI a - nI b < nI n ↔ a < b + n := by
  rw [Int32.lt_iff_toInt_lt, pk_sub_toInt (by omega) (by omega), nI_toInt (by omega)]
  omega
theorem pk_m1r {n : Nat} (h : 0 < n) : nI n + Int32.ofInt (-1) = nI (n - 1) := by
  obtain ⟨k, rfl⟩ : ∃ k, n = k + 1 := ⟨n - 1, by omega⟩
  exact pk_m1 k
theorem zX1_gives (X : EX) {h : HP} {a s : Nat} {d : DD} (k : DealC h a d) (hs : s < 1296) : Ct X mX1_gives 1 0 0 [vR (some a), vI (nI s)] h (Rt (vI (oI (gv d s))) h) := by
  refine ct_of rfl (Nat.le_of_ble_eq_true rfl) ?_
  obtain ⟨k0, kI, w, e0, e1, e2, e3, e4, e5, kc⟩ := id k
  have loop : ∀ (k p n : Nat), 12 ≤ p + 3 * k → p < 15 → n ≤ 2 → oI (roll s k p n) = oI (gv d s) → Ev X mX1_gives 1 0 0 (Rt (vI (oI (gv d s))) h) 0 0 170 [(0, some (vR (some a))), (1, some (vI (nI s))), (3, some (vI (nI p))), (4, some (vI (nI n)))] [] h := by
    intro k
    induction k with
    | zero =>
      intro p n h1 h2 h3 hRr
      refine e_iload_n aX1_gives_170 rfl ?_
      refine e_bipush (v := 12) aX1_gives_171 (by decide) ?_
      refine e_icmp_ge aX1_gives_173 (fun c173 => ?_) (fun c173 => ?_)
      · -- 173: taken
        have q173 := (nI_leI (a := 12) (by omega) (by omega)).mp c173
        refine e_iload_n aX1_gives_195 rfl ?_
        refine e_bipush (v := 12) aX1_gives_196 (by decide) ?_
        refine e_icmp_ge aX1_gives_198 (fun c198 => ?_) (fun c198 => ?_)
        · -- 198: taken
          have q198 := (nI_leI (a := 12) (by omega) (by omega)).mp c198
          refine e_iconst (v := -1) aX1_gives_205 (by decide) ?_
          refine e_ireturn aX1_gives_206 rfl (Nat.le_refl _) (Nat.le_refl _) ?_
          first | exact ⟨by rw [← hRr]; rfl, rfl⟩ | exact absurd q173 q198
        · -- 198: not taken
          have q198 := (not_congr (nI_leI (a := 12) (by omega) (by omega))).mp c198
          refine e_iload_n aX1_gives_201 rfl ?_
          refine e_goto aX1_gives_202 ?_
          refine e_ireturn aX1_gives_206 rfl (Nat.le_refl _) (Nat.le_refl _) ?_
          first | exact ⟨by rw [← hRr]; rfl, rfl⟩ | exact absurd q173 q198
      · -- 173: not taken
        have q173 := (not_congr (nI_leI (a := 12) (by omega) (by omega))).mp c173
        exact absurd h1 (by omega)
    | succ k ih =>
      intro p n h1 h2 h3 hRr
      refine e_iload_n aX1_gives_170 rfl ?_
      refine e_bipush (v := 12) aX1_gives_171 (by decide) ?_
      refine e_icmp_ge aX1_gives_173 (fun c173 => ?_) (fun c173 => ?_)
      · -- 173: taken
        have q173 := (nI_leI (a := 12) (by omega) (by omega)).mp c173
        refine e_iload_n aX1_gives_195 rfl ?_
        refine e_bipush (v := 12) aX1_gives_196 (by decide) ?_
        refine e_icmp_ge aX1_gives_198 (fun c198 => ?_) (fun c198 => ?_)
        · -- 198: taken
          have q198 := (nI_leI (a := 12) (by omega) (by omega)).mp c198
          refine e_iconst (v := -1) aX1_gives_205 (by decide) ?_
          refine e_ireturn aX1_gives_206 rfl (Nat.le_refl _) (Nat.le_refl _) ?_
          refine ⟨?_, rfl⟩
          rw [← hRr]
          unfold roll
          first | (rw [if_pos (by omega)]; rfl) | (rw [if_neg (by omega), if_pos (by omega)]; rfl)
        · -- 198: not taken
          have q198 := (not_congr (nI_leI (a := 12) (by omega) (by omega))).mp c198
          refine e_iload_n aX1_gives_201 rfl ?_
          refine e_goto aX1_gives_202 ?_
          refine e_ireturn aX1_gives_206 rfl (Nat.le_refl _) (Nat.le_refl _) ?_
          refine ⟨?_, rfl⟩
          rw [← hRr]
          unfold roll
          first | (rw [if_pos (by omega)]; rfl) | (rw [if_neg (by omega), if_pos (by omega)]; rfl)
      · -- 173: not taken
        have q173 := (not_congr (nI_leI (a := 12) (by omega) (by omega))).mp c173
        refine e_iload_n aX1_gives_176 rfl ?_
        refine e_iload_n aX1_gives_177 rfl ?_
        refine e_invsNT aX1_gives_178 kX1_40 (zX8_placeUnder X hs (by omega)) rfl rfl (Nat.le_of_ble_eq_true rfl) (Nat.le_of_ble_eq_true rfl) (Nat.le_refl _) (Nat.le_refl _) (Nat.le_of_ble_eq_true rfl) ?_
        refine e_iload aX1_gives_181 rfl ?_
        refine e_icmp_ge aX1_gives_183 (fun c183 => ?_) (fun c183 => ?_)
        · -- 183: taken
          have hp3 := pl_lt s p
          have q183 := (nI_leI (by omega) (by omega)).mp c183
          refine e_iload_n aX1_gives_195 rfl ?_
          refine e_bipush (v := 12) aX1_gives_196 (by decide) ?_
          refine e_icmp_ge aX1_gives_198 (fun c198 => ?_) (fun c198 => ?_)
          · -- 198: taken
            have q198 := (nI_leI (a := 12) (by omega) (by omega)).mp c198
            refine e_iconst (v := -1) aX1_gives_205 (by decide) ?_
            refine e_ireturn aX1_gives_206 rfl (Nat.le_refl _) (Nat.le_refl _) ?_
            refine ⟨?_, rfl⟩
            rw [← hRr]
            unfold roll
            first | (rw [if_pos (by omega)]; rfl) | (rw [if_neg (by omega), if_pos (by omega)]; rfl)
          · -- 198: not taken
            have q198 := (not_congr (nI_leI (a := 12) (by omega) (by omega))).mp c198
            refine e_iload_n aX1_gives_201 rfl ?_
            refine e_goto aX1_gives_202 ?_
            refine e_ireturn aX1_gives_206 rfl (Nat.le_refl _) (Nat.le_refl _) ?_
            refine ⟨?_, rfl⟩
            rw [← hRr]
            unfold roll
            first | (rw [if_pos (by omega)]; rfl) | (rw [if_neg (by omega), if_pos (by omega)]; rfl)
        · -- 183: not taken
          have hp3 := pl_lt s p
          have q183 := (not_congr (nI_leI (by omega) (by omega))).mp c183
          refine e_iinc aX1_gives_186 rfl rfl (Nat.le_of_ble_eq_true rfl) ?_
          refine e_iinc aX1_gives_189 rfl rfl (Nat.le_of_ble_eq_true rfl) ?_
          refine e_goto aX1_gives_192 ?_
          refine e_ls (ls' := [(0, some (vR (some a))), (1, some (vI (nI s))), (3, some (vI (nI (p + 3)))), (4, some (vI (nI (n - 1))))]) ⟨rfl, rfl, congrArg (fun x => some (vI x)) (nI_add p 3), congrArg (fun x => some (vI x)) (pk_m1r (by omega)), trivial⟩ ?_
          exact ih (p + 3) (n - 1) (by omega) (by omega) (by omega) (by rw [← hRr]; conv => rhs; unfold roll; rw [if_neg (by omega), if_neg (by omega)])
  have L20 : dB d s = true → Ev X mX1_gives 1 0 0 (Rt (vI (oI (gv d s))) h) 0 0 20 (arL 0 [vR (some a), vI (nI s)]) [] h := by
    intro hb
    refine e_iload_n aX1_gives_20 rfl ?_
    refine e_aload_n aX1_gives_21 rfl ?_
    refine e_getIF aX1_gives_22 fX1_21 rfl kI e3 ?_
    refine e_invsNT aX1_gives_25 kX1_40 (zX8_placeUnder X hs w.2.2.2.2.1) rfl rfl (Nat.le_of_ble_eq_true rfl) (Nat.le_of_ble_eq_true rfl) (Nat.le_refl _) (Nat.le_refl _) (Nat.le_of_ble_eq_true rfl) ?_
    refine e_istore_n aX1_gives_28 (Nat.le_of_ble_eq_true rfl) ?_
    refine e_aload_n aX1_gives_29 rfl ?_
    refine e_getIF aX1_gives_30 fX1_9 rfl kI e0 ?_
    have hk0 := w.1
    have hn2 := w.2.2.2.2.2.2.2.1
    have hp1 := pl_lt s (dP d)
    have hp2 := w.2.2.2.2.1
    rcases (show dK d = 0 ∨ dK d = 1 ∨ dK d = 2 ∨ dK d = 3 ∨ dK d = 4 ∨ dK d = 5 by omega) with hk | hk | hk | hk | hk | hk
    · -- switch
      refine e_top (v := 0) (by rw [hk]; rfl) ?_
      refine e_tableOut (tgt := 154) aX1_gives_33 (by decide) (by decide) ?_
      refine e_aload_n aX1_gives_154 rfl ?_
      refine e_getIF aX1_gives_155 fX1_21 rfl kI e3 ?_
      refine e_ireturn aX1_gives_158 rfl (Nat.le_refl _) (Nat.le_refl _) ?_
      exact ⟨by unfold gv gvk; rw [if_pos hb, if_neg (by omega), if_neg (by omega), if_neg (by omega), if_neg (by omega), if_neg (by omega)]; rfl, rfl⟩
    · -- switch
      refine e_top (v := 1) (by rw [hk]; rfl) ?_
      refine e_tableIn (tgt := 68) aX1_gives_33 (by decide) (by decide) rfl (by decide) ?_
      refine e_iload_n aX1_gives_68 rfl ?_
      refine e_aload_n aX1_gives_69 rfl ?_
      refine e_getIF aX1_gives_70 fX1_27 rfl kI e5 ?_
      refine e_icmp_lt aX1_gives_73 (fun c73 => ?_) (fun c73 => ?_)
      · -- 73: taken
        have q73 := (nI_ltI (by omega) (by omega)).mp c73
        refine e_iconst (v := -1) aX1_gives_83 (by decide) ?_
        refine e_ireturn aX1_gives_84 rfl (Nat.le_refl _) (Nat.le_refl _) ?_
        exact ⟨by unfold gv gvk; rw [if_pos hb, if_pos hk]; first | (rw [if_pos (by omega)]; rfl) | (rw [if_neg (by omega)]; rfl), rfl⟩
      · -- 73: not taken
        have q73 := (not_congr (nI_ltI (by omega) (by omega))).mp c73
        refine e_aload_n aX1_gives_76 rfl ?_
        refine e_getIF aX1_gives_77 fX1_21 rfl kI e3 ?_
        refine e_goto aX1_gives_80 ?_
        refine e_ireturn aX1_gives_84 rfl (Nat.le_refl _) (Nat.le_refl _) ?_
        exact ⟨by unfold gv gvk; rw [if_pos hb, if_pos hk]; first | (rw [if_pos (by omega)]; rfl) | (rw [if_neg (by omega)]; rfl), rfl⟩
    · -- switch
      refine e_top (v := 2) (by rw [hk]; rfl) ?_
      refine e_tableIn (tgt := 102) aX1_gives_33 (by decide) (by decide) rfl (by decide) ?_
      obtain ⟨q, hq⟩ := Option.isSome_iff_exists.mp (w.2.2.2.2.2.1.mp (by omega))
      have hqb := w.2.2.2.2.2.2.1 q hq
      have hp3 := pl_lt s q
      have hV : dV d = q := by unfold dV; rw [hq]; rfl
      refine e_iload_n aX1_gives_102 rfl ?_
      refine e_iload_n aX1_gives_103 rfl ?_
      refine e_aload_n aX1_gives_104 rfl ?_
      refine e_getIF aX1_gives_105 fX1_24 rfl kI (e4.trans (congrArg oI hq)) ?_
      refine e_invsNT aX1_gives_108 kX1_40 (zX8_placeUnder X hs hqb.1) rfl rfl (Nat.le_of_ble_eq_true rfl) (Nat.le_of_ble_eq_true rfl) (Nat.le_refl _) (Nat.le_refl _) (Nat.le_of_ble_eq_true rfl) ?_
      refine e_isub aX1_gives_111 ?_
      refine e_iconst (v := 1) aX1_gives_112 (by decide) ?_
      refine e_icmp_lt aX1_gives_113 (fun c113 => ?_) (fun c113 => ?_)
      · -- 113: taken
        have q113 := (sub_lt (n := 1) (by omega) (by omega) (by omega)).mp c113
        refine e_iconst (v := -1) aX1_gives_123 (by decide) ?_
        refine e_ireturn aX1_gives_124 rfl (Nat.le_refl _) (Nat.le_refl _) ?_
        exact ⟨by unfold gv gvk; rw [if_pos hb, if_neg (by omega), if_pos hk, hV]; first | (rw [if_pos (by omega)]; rfl) | (rw [if_neg (by omega)]; rfl), rfl⟩
      · -- 113: not taken
        have q113 := (not_congr (sub_lt (n := 1) (by omega) (by omega) (by omega))).mp c113
        refine e_aload_n aX1_gives_116 rfl ?_
        refine e_getIF aX1_gives_117 fX1_21 rfl kI e3 ?_
        refine e_goto aX1_gives_120 ?_
        refine e_ireturn aX1_gives_124 rfl (Nat.le_refl _) (Nat.le_refl _) ?_
        exact ⟨by unfold gv gvk; rw [if_pos hb, if_neg (by omega), if_pos hk, hV]; first | (rw [if_pos (by omega)]; rfl) | (rw [if_neg (by omega)]; rfl), rfl⟩
    · -- switch
      refine e_top (v := 3) (by rw [hk]; rfl) ?_
      refine e_tableIn (tgt := 151) aX1_gives_33 (by decide) (by decide) rfl (by decide) ?_
      refine e_goto aX1_gives_151 ?_
      refine e_aload_n aX1_gives_159 rfl ?_
      refine e_getIF aX1_gives_160 fX1_21 rfl kI e3 ?_
      refine e_istore_n aX1_gives_163 (Nat.le_of_ble_eq_true rfl) ?_
      refine e_aload_n aX1_gives_164 rfl ?_
      refine e_getIF aX1_gives_165 fX1_27 rfl kI e5 ?_
      refine e_istore aX1_gives_168 (Nat.le_of_ble_eq_true rfl) ?_
      refine e_ls (ls' := [(0, some (vR (some a))), (1, some (vI (nI s))), (3, some (vI (nI (dP d)))), (4, some (vI (nI (dN d))))]) ⟨rfl, rfl, rfl, rfl, trivial⟩ ?_
      exact loop 4 _ _ (by omega) (by omega) hn2 (by unfold gv gvk; rw [if_pos hb, if_neg (by omega), if_neg (by omega), if_pos hk])
    · -- switch
      refine e_top (v := 4) (by rw [hk]; rfl) ?_
      refine e_tableIn (tgt := 85) aX1_gives_33 (by decide) (by decide) rfl (by decide) ?_
      refine e_iload_n aX1_gives_85 rfl ?_
      refine e_aload_n aX1_gives_86 rfl ?_
      refine e_getIF aX1_gives_87 fX1_27 rfl kI e5 ?_
      refine e_icmp_ge aX1_gives_90 (fun c90 => ?_) (fun c90 => ?_)
      · -- 90: taken
        have q90 := (nI_leI (by omega) (by omega)).mp c90
        refine e_iconst (v := -1) aX1_gives_100 (by decide) ?_
        refine e_ireturn aX1_gives_101 rfl (Nat.le_refl _) (Nat.le_refl _) ?_
        exact ⟨by unfold gv gvk; rw [if_pos hb, if_neg (by omega), if_neg (by omega), if_neg (by omega), if_pos hk]; first | (rw [if_pos (by omega)]; rfl) | (rw [if_neg (by omega)]; rfl), rfl⟩
      · -- 90: not taken
        have q90 := (not_congr (nI_leI (by omega) (by omega))).mp c90
        refine e_aload_n aX1_gives_93 rfl ?_
        refine e_getIF aX1_gives_94 fX1_21 rfl kI e3 ?_
        refine e_goto aX1_gives_97 ?_
        refine e_ireturn aX1_gives_101 rfl (Nat.le_refl _) (Nat.le_refl _) ?_
        exact ⟨by unfold gv gvk; rw [if_pos hb, if_neg (by omega), if_neg (by omega), if_neg (by omega), if_pos hk]; first | (rw [if_pos (by omega)]; rfl) | (rw [if_neg (by omega)]; rfl), rfl⟩
    · -- switch
      refine e_top (v := 5) (by rw [hk]; rfl) ?_
      refine e_tableIn (tgt := 125) aX1_gives_33 (by decide) (by decide) rfl (by decide) ?_
      obtain ⟨q, hq⟩ := Option.isSome_iff_exists.mp (w.2.2.2.2.2.1.mp (by omega))
      have hqb := w.2.2.2.2.2.2.1 q hq
      have hp3 := pl_lt s q
      have hV : dV d = q := by unfold dV; rw [hq]; rfl
      refine e_iload_n aX1_gives_125 rfl ?_
      refine e_iload_n aX1_gives_126 rfl ?_
      refine e_aload_n aX1_gives_127 rfl ?_
      refine e_getIF aX1_gives_128 fX1_24 rfl kI (e4.trans (congrArg oI hq)) ?_
      refine e_invsNT aX1_gives_131 kX1_40 (zX8_placeUnder X hs hqb.1) rfl rfl (Nat.le_of_ble_eq_true rfl) (Nat.le_of_ble_eq_true rfl) (Nat.le_refl _) (Nat.le_refl _) (Nat.le_of_ble_eq_true rfl) ?_
      refine e_isub aX1_gives_134 ?_
      refine e_aload_n aX1_gives_135 rfl ?_
      refine e_getIF aX1_gives_136 fX1_27 rfl kI e5 ?_
      refine e_icmp_lt aX1_gives_139 (fun c139 => ?_) (fun c139 => ?_)
      · -- 139: taken
        have q139 := (sub_lt (by omega) (by omega) (by omega)).mp c139
        refine e_iconst (v := -1) aX1_gives_149 (by decide) ?_
        refine e_ireturn aX1_gives_150 rfl (Nat.le_refl _) (Nat.le_refl _) ?_
        exact ⟨by unfold gv gvk; rw [if_pos hb, if_neg (by omega), if_neg (by omega), if_neg (by omega), if_neg (by omega), if_pos hk, hV]; first | (rw [if_pos (by omega)]; rfl) | (rw [if_neg (by omega)]; rfl), rfl⟩
      · -- 139: not taken
        have q139 := (not_congr (sub_lt (by omega) (by omega) (by omega))).mp c139
        refine e_aload_n aX1_gives_142 rfl ?_
        refine e_getIF aX1_gives_143 fX1_21 rfl kI e3 ?_
        refine e_goto aX1_gives_146 ?_
        refine e_ireturn aX1_gives_150 rfl (Nat.le_refl _) (Nat.le_refl _) ?_
        exact ⟨by unfold gv gvk; rw [if_pos hb, if_neg (by omega), if_neg (by omega), if_neg (by omega), if_neg (by omega), if_pos hk, hV]; first | (rw [if_pos (by omega)]; rfl) | (rw [if_neg (by omega)]; rfl), rfl⟩
  refine e_aload_n aX1_gives_0 rfl ?_
  refine e_getR aX1_gives_1 fX1_30 rfl kI ?_
  refine e_ifnull aX1_gives_4 (fun c4 => ?_) (fun r4 c4 => ?_)
  · -- 4: taken
    exact L20 (by
      rcases kc with ⟨q1, q2⟩ | ⟨q1, sb, q2, q3, q4, q5⟩
      · exact w.2.2.2.2.2.2.2.2.2 q1 s
      · rw [q2] at c4; cases c4)
  · -- 4: not taken
    rcases kc with ⟨q1, q2⟩ | ⟨q1, sb, q2, q3, q4, q5⟩
    · rw [q2] at c4; cases c4
    have hsb : sb = r4 := Option.some.inj (q2.symm.trans c4)
    subst hsb
    refine e_aload_n aX1_gives_7 rfl ?_
    refine e_getRF aX1_gives_8 fX1_30 rfl kI c4 ?_
    refine e_iload_n aX1_gives_11 rfl ?_
    refine e_invvT aX1_gives_12 kX1_34 (zX6_has X q4 hs) rfl rfl q4.1 (Nat.le_of_ble_eq_true rfl) (Nat.le_of_ble_eq_true rfl) (Nat.le_refl _) (Nat.le_refl _) (Nat.le_of_ble_eq_true rfl) ?_
    refine e_if_ne aX1_gives_15 (fun c15 => ?_) (fun c15 => ?_)
    · -- 15: taken
      exact L20 (Decidable.of_not_not (fun z => c15 (b2_0.mpr z)))
    · -- 15: not taken
      have hb : ¬ dB d s = true := b2_0.mp c15
      refine e_iconst (v := -1) aX1_gives_18 (by decide) ?_
      refine e_ireturn aX1_gives_19 rfl (Nat.le_refl _) (Nat.le_refl _) ?_
      exact ⟨by unfold gv; rw [if_neg hb]; rfl, rfl⟩
theorem zX1_getsBack (X : EX) {h : HP} {a s : Nat} {d : DD} (k : DealC h a d) (hs : s < 1296) : Ct X mX1_getsBack 2 0 0 [vR (some a), vI (nI s)] h (Rt (vI (oI (gb d s))) h) := by
  refine ct_of rfl (Nat.le_of_ble_eq_true rfl) ?_
  obtain ⟨k0, kI, w, e0, e1, e2, e3, e4, e5, kc⟩ := id k
  refine e_aload_n aX1_getsBack_0 rfl ?_
  refine e_getIF aX1_getsBack_1 fX1_24 rfl kI e4 ?_
  refine e_if_lt aX1_getsBack_4 (fun c4 => ?_) (fun c4 => ?_)
  · -- 4: taken
    have q4 := (oI_lt (dO_b w)).mp c4
    have hv : gb d s = none := by
      unfold gb
      rw [q4]
      split <;> rfl
    refine e_iconst (v := -1) aX1_getsBack_22 (by decide) ?_
    refine e_ireturn aX1_getsBack_23 rfl (Nat.le_refl _) (Nat.le_refl _) ?_
    exact ⟨by rw [hv] <;> rfl, rfl⟩
  · -- 4: not taken
    have q4 := (not_congr (oI_lt (dO_b w))).mp c4
    refine e_aload_n aX1_getsBack_7 rfl ?_
    refine e_iload_n aX1_getsBack_8 rfl ?_
    refine e_invvT aX1_getsBack_9 kX1_44 (zX1_gives X k hs) rfl rfl kI (Nat.le_of_ble_eq_true rfl) (Nat.le_of_ble_eq_true rfl) (Nat.le_refl _) (Nat.le_refl _) (Nat.le_of_ble_eq_true rfl) ?_
    refine e_if_lt aX1_getsBack_12 (fun c12 => ?_) (fun c12 => ?_)
    · -- 12: taken
      have q12 := (oI_lt (gv_b w)).mp c12
      have hv : gb d s = none := by
        unfold gb
        rw [if_neg (by rw [q12]; simp)]
      refine e_iconst (v := -1) aX1_getsBack_22 (by decide) ?_
      refine e_ireturn aX1_getsBack_23 rfl (Nat.le_refl _) (Nat.le_refl _) ?_
      exact ⟨by rw [hv] <;> rfl, rfl⟩
    · -- 12: not taken
      have q12 := (not_congr (oI_lt (gv_b w))).mp c12
      have hv : gb d s = dO d := by
        unfold gb
        rw [if_pos (Option.isSome_iff_ne_none.mpr q12)]
      refine e_aload_n aX1_getsBack_15 rfl ?_
      refine e_getIF aX1_getsBack_16 fX1_24 rfl kI e4 ?_
      refine e_goto aX1_getsBack_19 ?_
      refine e_ireturn aX1_getsBack_23 rfl (Nat.le_refl _) (Nat.le_refl _) ?_
      exact ⟨by rw [hv] <;> rfl, rfl⟩
theorem zX1_mayGive (X : EX) {h : HP} {a p : Nat} {d : DD} (k : DealC h a d) (hp : p < 12) : Ct X mX1_mayGive 0 0 0 [vR (some a), vI (nI p)] h (Rt (vI (b2 (p = dP d ∨ dK d = 3 ∧ dP d < p ∧ p % 3 = dP d % 3))) h) := by
  refine ct_of rfl (Nat.le_of_ble_eq_true rfl) ?_
  obtain ⟨k0, kI, w, e0, e1, e2, e3, e4, e5, kc⟩ := id k
  have hk0 := w.1
  have hp2 := w.2.2.2.2.1
  refine e_iload_n aX1_mayGive_0 rfl ?_
  refine e_aload_n aX1_mayGive_1 rfl ?_
  refine e_getIF aX1_mayGive_2 fX1_21 rfl kI e3 ?_
  refine e_icmp_eq aX1_mayGive_5 (fun c5 => ?_) (fun c5 => ?_)
  · -- 5: taken
    have q5 := (nI_eq (by omega) (by omega)).mp c5
    refine e_iconst (v := 1) aX1_mayGive_36 (by decide) ?_
    refine e_goto aX1_mayGive_37 ?_
    refine e_zreturn aX1_mayGive_41 rfl (by decide) (Nat.le_refl _) (Nat.le_refl _) ?_
    first | exact ⟨by rw [b2_t (by omega)], rfl⟩ | exact ⟨by rw [b2_f (by omega)], rfl⟩
  · -- 5: not taken
    have q5 := (not_congr (nI_eq (by omega) (by omega))).mp c5
    refine e_aload_n aX1_mayGive_8 rfl ?_
    refine e_getIF aX1_mayGive_9 fX1_9 rfl kI e0 ?_
    refine e_iconst (v := 3) aX1_mayGive_12 (by decide) ?_
    refine e_icmp_ne aX1_mayGive_13 (fun c13 => ?_) (fun c13 => ?_)
    · -- 13: taken
      have q13 := (not_congr (nI_eq (b := 3) (by omega) (by omega))).mp c13
      refine e_iconst (v := 0) aX1_mayGive_40 (by decide) ?_
      refine e_zreturn aX1_mayGive_41 rfl (by decide) (Nat.le_refl _) (Nat.le_refl _) ?_
      first | exact ⟨by rw [b2_t (by omega)], rfl⟩ | exact ⟨by rw [b2_f (by omega)], rfl⟩
    · -- 13: not taken
      have q13 := (nI_eq (b := 3) (by omega) (by omega)).mp c13
      refine e_iload_n aX1_mayGive_16 rfl ?_
      refine e_aload_n aX1_mayGive_17 rfl ?_
      refine e_getIF aX1_mayGive_18 fX1_21 rfl kI e3 ?_
      refine e_icmp_le aX1_mayGive_21 (fun c21 => ?_) (fun c21 => ?_)
      · -- 21: taken
        have q21 := (nI_leI (by omega) (by omega)).mp c21
        refine e_iconst (v := 0) aX1_mayGive_40 (by decide) ?_
        refine e_zreturn aX1_mayGive_41 rfl (by decide) (Nat.le_refl _) (Nat.le_refl _) ?_
        first | exact ⟨by rw [b2_t (by omega)], rfl⟩ | exact ⟨by rw [b2_f (by omega)], rfl⟩
      · -- 21: not taken
        have q21 := (not_congr (nI_leI (by omega) (by omega))).mp c21
        refine e_iload_n aX1_mayGive_24 rfl ?_
        refine e_iconst (v := 3) aX1_mayGive_25 (by decide) ?_
        refine e_irem aX1_mayGive_26 (by decide) ?_
        refine e_top (nI_rem (b := 3) (by omega) (by decide) (by decide)) ?_
        refine e_aload_n aX1_mayGive_27 rfl ?_
        refine e_getIF aX1_mayGive_28 fX1_21 rfl kI e3 ?_
        refine e_iconst (v := 3) aX1_mayGive_31 (by decide) ?_
        refine e_irem aX1_mayGive_32 (by decide) ?_
        refine e_top (nI_rem (b := 3) (by omega) (by decide) (by decide)) ?_
        refine e_icmp_ne aX1_mayGive_33 (fun c33 => ?_) (fun c33 => ?_)
        · -- 33: taken
          have q33 := (not_congr (nI_eq (by omega) (by omega))).mp c33
          refine e_iconst (v := 0) aX1_mayGive_40 (by decide) ?_
          refine e_zreturn aX1_mayGive_41 rfl (by decide) (Nat.le_refl _) (Nat.le_refl _) ?_
          first | exact ⟨by rw [b2_t (by omega)], rfl⟩ | exact ⟨by rw [b2_f (by omega)], rfl⟩
        · -- 33: not taken
          have q33 := (nI_eq (by omega) (by omega)).mp c33
          refine e_iconst (v := 1) aX1_mayGive_36 (by decide) ?_
          refine e_goto aX1_mayGive_37 ?_
          refine e_zreturn aX1_mayGive_41 rfl (by decide) (Nat.le_refl _) (Nat.le_refl _) ?_
          first | exact ⟨by rw [b2_t (by omega)], rfl⟩ | exact ⟨by rw [b2_f (by omega)], rfl⟩
theorem gv_may {d : DD} (w : dWf d) {s p : Nat} (h : gv d s = some p) : p = dP d ∨ dK d = 3 ∧ dP d < p ∧ p % 3 = dP d % 3 := by
  rcases (gv_ok w h).2 with e | e
  · exact Or.inl e
  · by_cases e9 : p = dP d
    · exact Or.inl e9
    · exact Or.inr ⟨e.1, by omega, e.2.2⟩
theorem zX1_takerOf (X : EX) {h : HP} {a s p : Nat} {d : DD} (k : DealC h a d) (hs : s < 1296) (hp : p < 12) : Ct X mX1_takerOf 2 0 0 [vR (some a), vI (nI s), vI (nI p)] h (Rt (vI (oI (tk d s p))) h) := by
  refine ct_of rfl (Nat.le_of_ble_eq_true rfl) ?_
  obtain ⟨k0, kI, w, e0, e1, e2, e3, e4, e5, kc⟩ := id k
  refine e_iload_n aX1_takerOf_0 rfl ?_
  refine e_aload_n aX1_takerOf_1 rfl ?_
  refine e_getIF aX1_takerOf_2 fX1_24 rfl kI e4 ?_
  refine e_icmp_ne aX1_takerOf_5 (fun c5 => ?_) (fun c5 => ?_)
  · -- 5: taken
    have q5 : ¬ dO d = some p := fun z => c5 (by rw [z]; rfl)
    refine e_aload_n aX1_takerOf_25 rfl ?_
    refine e_iload_n aX1_takerOf_26 rfl ?_
    refine e_invvT aX1_takerOf_27 kX1_48 (zX1_mayGive X k hp) rfl rfl kI (Nat.le_of_ble_eq_true rfl) (Nat.le_of_ble_eq_true rfl) (Nat.le_refl _) (Nat.le_refl _) (Nat.le_of_ble_eq_true rfl) ?_
    refine e_if_eq aX1_takerOf_30 (fun c30 => ?_) (fun c30 => ?_)
    · -- 30: taken
      have q30 := b2_0.mp c30
      have hv : tk d s p = none := by
        unfold tk
        rw [if_neg q5, if_neg (fun z => q30 (gv_may w z))]
      refine e_iconst (v := -1) aX1_takerOf_49 (by decide) ?_
      refine e_ireturn aX1_takerOf_50 rfl (Nat.le_refl _) (Nat.le_refl _) ?_
      exact ⟨by rw [hv] <;> rfl, rfl⟩
    · -- 30: not taken
      have q30 := Decidable.of_not_not (fun z => c30 (b2_0.mpr z))
      refine e_aload_n aX1_takerOf_33 rfl ?_
      refine e_iload_n aX1_takerOf_34 rfl ?_
      refine e_invvT aX1_takerOf_35 kX1_44 (zX1_gives X k hs) rfl rfl kI (Nat.le_of_ble_eq_true rfl) (Nat.le_of_ble_eq_true rfl) (Nat.le_refl _) (Nat.le_refl _) (Nat.le_of_ble_eq_true rfl) ?_
      refine e_iload_n aX1_takerOf_38 rfl ?_
      refine e_icmp_ne aX1_takerOf_39 (fun c39 => ?_) (fun c39 => ?_)
      · -- 39: taken
        have q39 : ¬ gv d s = some p := fun z => c39 (by rw [z]; rfl)
        have hv : tk d s p = none := by
          unfold tk
          rw [if_neg q5, if_neg q39]
        refine e_iconst (v := -1) aX1_takerOf_49 (by decide) ?_
        refine e_ireturn aX1_takerOf_50 rfl (Nat.le_refl _) (Nat.le_refl _) ?_
        exact ⟨by rw [hv] <;> rfl, rfl⟩
      · -- 39: not taken
        have q39 : gv d s = some p := ((oI_inj (r := some p) (gv_b w) (fun _ z => by cases z; omega)).mp c39)
        have hv : tk d s p = some (dT d) := by
          unfold tk
          rw [if_neg q5, if_pos q39]
        refine e_aload_n aX1_takerOf_42 rfl ?_
        refine e_getIF aX1_takerOf_43 fX1_18 rfl kI e2 ?_
        refine e_goto aX1_takerOf_46 ?_
        refine e_ireturn aX1_takerOf_50 rfl (Nat.le_refl _) (Nat.le_refl _) ?_
        exact ⟨by rw [hv] <;> rfl, rfl⟩
  · -- 5: not taken
    have q5 : dO d = some p := ((oI_inj (q := some p) (fun _ z => by cases z; omega) (dO_b w)).mp c5).symm
    refine e_aload_n aX1_takerOf_8 rfl ?_
    refine e_iload_n aX1_takerOf_9 rfl ?_
    refine e_invvT aX1_takerOf_10 kX1_44 (zX1_gives X k hs) rfl rfl kI (Nat.le_of_ble_eq_true rfl) (Nat.le_of_ble_eq_true rfl) (Nat.le_refl _) (Nat.le_refl _) (Nat.le_of_ble_eq_true rfl) ?_
    refine e_if_lt aX1_takerOf_13 (fun c13 => ?_) (fun c13 => ?_)
    · -- 13: taken
      have q13 := (oI_lt (gv_b w)).mp c13
      have hv : tk d s p = none := by
        unfold tk
        rw [if_pos q5, if_neg (by rw [q13]; simp)]
      refine e_iconst (v := -1) aX1_takerOf_23 (by decide) ?_
      refine e_ireturn aX1_takerOf_24 rfl (Nat.le_refl _) (Nat.le_refl _) ?_
      exact ⟨by rw [hv] <;> rfl, rfl⟩
    · -- 13: not taken
      have q13 := (not_congr (oI_lt (gv_b w))).mp c13
      have hv : tk d s p = some (dF d) := by
        unfold tk
        rw [if_pos q5, if_pos (Option.isSome_iff_ne_none.mpr q13)]
      refine e_aload_n aX1_takerOf_16 rfl ?_
      refine e_getIF aX1_takerOf_17 fX1_15 rfl kI e1 ?_
      refine e_goto aX1_takerOf_20 ?_
      refine e_ireturn aX1_takerOf_24 rfl (Nat.le_refl _) (Nat.le_refl _) ?_
      exact ⟨by rw [hv] <;> rfl, rfl⟩
