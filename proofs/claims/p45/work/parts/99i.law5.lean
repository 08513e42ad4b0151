/-! THE LAW: each ORDER falls, and comes back; the end (written by wip/p45/g99i.py) -/
/-- what was hoped for so far -/
def hpv (D : Nat → DD) (n c f : Nat) (o : Nat → Nat) (r m : Nat) : Int64 := if m ≤ r then lN (hV D n c f o r) else -1
theorem hpv_s {D : Nat → DD} {n c f r m : Nat} {o : Nat → Nat} (h : ¬ m = r) : hpv D n c f o r (m + 1) = hpv D n c f o r m := by
  unfold hpv
  by_cases y : m ≤ r
  · rw [if_pos y, if_pos (by omega)]
  · rw [if_neg y, if_neg (by omega)]
theorem law_down {X : EX} {nm : String} {cells slots f n : Nat} {o A : Nat → Nat} {D : Nat → DD} {tS : Nat → Int32} {qS σ : Nat → Nat} {h : HP} {z c r : Nat} (W : W1 h f n o A D tS qS σ) (hf2 : f ≤ 2) (hc : c < 3) (hr6 : r < 6) (hr : ∀ i, i < 6 → hV D n c f o i ≤ hV D n c f o r ∧ (i < r → hV D n c f o i < hV D n c f o r)) (za : ZA h z f n o D 12) (hc0 : cells ≤ 400000) (hs0 : slots ≤ 4000000) (k : ∀ h2, W1 h2 f n o A D tS qS σ → ZA h2 z f n o D 12 → Ev X (mL nm) 40 400000 4000000 QL cells slots 1012 [(0, some (vR (some 6))), (1, some (vR (some 32))), (2, some (vR (some 109))), (3, some (vI (nI n))), (5, some (vL (lN (56 * om f)))), (7, some (vR (some z))), (8, some (vI (nI c))), (11, some (vI (nI r))), (12, some (vL (hpv D n c f o r 0)))] [] h2) : Ev X (mL nm) 40 400000 4000000 QL cells slots 898 [(0, some (vR (some 6))), (1, some (vR (some 32))), (2, some (vR (some 109))), (3, some (vI (nI n))), (5, some (vL (lN (56 * om f)))), (7, some (vR (some z))), (8, some (vI (nI c))), (11, some (vI (nI r)))] [] h := by
  obtain ⟨m1, m2⟩ := om_st f (by omega)
  have wo := cx_o W.1.1
  have lp : ∀ (x : Nat) (hz : HP), x ≤ 6 → W1 hz f n o A D tS qS σ → ZA hz z f n o D 12 → Ev X (mL nm) 40 400000 4000000 QL cells slots 906 [(0, some (vR (some 6))), (1, some (vR (some 32))), (2, some (vR (some 109))), (3, some (vI (nI n))), (5, some (vL (lN (56 * om f)))), (7, some (vR (some z))), (8, some (vI (nI c))), (11, some (vI (nI r))), (12, some (vL (hpv D n c f o r x))), (14, some (vI (ordV x)))] [] hz := by
    intro x
    induction x with
    | zero =>
      intro hz hx W za
      have F := W.1.1.1
      have hl : (14 : Nat) = 14 := rfl
      refine e_iload aL_law_906 rfl ?_
      refine e_if_lt aL_law_908 (fun c908 => ?_) (fun c908 => ?_)
      · -- 908: taken
        skip
        refine e_ls (ls' := [(0, some (vR (some 6))), (1, some (vR (some 32))), (2, some (vR (some 109))), (3, some (vI (nI n))), (5, some (vL (lN (56 * om f)))), (7, some (vR (some z))), (8, some (vI (nI c))), (11, some (vI (nI r))), (12, some (vL (hpv D n c f o r 0)))]) ⟨rfl, rfl, rfl, rfl, rfl, rfl, rfl, rfl, rfl, trivial⟩ ?_
        exact k hz W za
      · -- 908: not taken
        exact absurd (by decide) c908
    | succ x ih =>
      intro hz hx W za
      have F := W.1.1.1
      have hx : x < 6 := by omega
      have rest : ∀ h2, W2 h2 f n x o A D tS qS σ → ZA h2 z f n o D 12 → Ev X (mL nm) 40 400000 4000000 QL cells slots 996 [(0, some (vR (some 6))), (1, some (vR (some 32))), (2, some (vR (some 109))), (3, some (vI (nI n))), (5, some (vL (lN (56 * om f)))), (7, some (vR (some z))), (8, some (vI (nI c))), (11, some (vI (nI r))), (12, some (vL (hpv D n c f o r x))), (14, some (vI (nI x)))] [] h2 := by
        intro h2 W za
        have F := W.1.1.1
        refine e_aload_n aL_law_996 rfl ?_
        refine e_invv aL_law_997 kL_190 (s_back X (g := 1) W.1.1) rfl rfl (fx_is F rfl) (Nat.le_of_ble_eq_true rfl) (Nat.le_of_ble_eq_true rfl) (by omega) (by omega) (Nat.le_of_ble_eq_true rfl) ?_
        rintro v9 h5 ⟨rfl, cx5, ow5, cf5, cl5⟩
        have W5 : W1 h5 f n o A D tS qS σ := ⟨W.1.st cx5 cf5 cl5, ow5⟩
        have za5 := za.up cf5.1
        have F := cx5.1
        refine e_iload_n aL_law_1000 rfl ?_
        refine e_icmp_eq aL_law_1001 (fun c1001 => ?_) (fun c1001 => ?_)
        · -- 1001: taken
          skip
          refine e_iinc aL_law_1006 rfl rfl (Nat.le_of_ble_eq_true rfl) ?_
          refine e_goto aL_law_1009 ?_
          refine e_ls (ls' := [(0, some (vR (some 6))), (1, some (vR (some 32))), (2, some (vR (some 109))), (3, some (vI (nI n))), (5, some (vL (lN (56 * om f)))), (7, some (vR (some z))), (8, some (vI (nI c))), (11, some (vI (nI r))), (12, some (vL (hpv D n c f o r x))), (14, some (vI (ordV x)))]) ⟨rfl, rfl, rfl, rfl, rfl, rfl, rfl, rfl, rfl, congrArg (fun x => some (vI x)) (ordV_s x), trivial⟩ ?_
          exact ih h5 (by omega) W5 za5
        · -- 1001: not taken
          exact absurd rfl c1001
      refine e_iload aL_law_906 rfl ?_
      refine e_if_lt aL_law_908 (fun c908 => ?_) (fun c908 => ?_)
      · -- 908: taken
        exact absurd c908 (nI_pos (by omega))
      · -- 908: not taken
        skip
        refine e_aload_n aL_law_911 rfl ?_
        refine e_invv aL_law_912 kL_185 (s_image X W.1.1 W.2 (by decide) (Or.inr rfl)) rfl rfl (fx_is F rfl) (Nat.le_of_ble_eq_true rfl) (Nat.le_of_ble_eq_true rfl) (by omega) (by omega) (Nat.le_of_ble_eq_true rfl) ?_
        rintro v9 h3 ⟨rfl, cx3, ow3, cf3, cl3⟩
        have J3 := W.1.st cx3 cf3 cl3
        have za3 := za.up cf3.1
        have F := cx3.1
        refine e_iconst (v := 2) aL_law_915 (by decide) ?_
        refine e_icmp_ne aL_law_916 (fun c916 => ?_) (fun c916 => ?_)
        · -- 916: taken
          exact absurd rfl c916
        · -- 916: not taken
          skip
          refine e_aload_n aL_law_919 rfl ?_
          refine e_iload aL_law_920 rfl ?_
          refine e_invv aL_law_922 kL_68 (s_fall X cx3 ow3 (by omega) hx) rfl rfl (fx_is F rfl) (Nat.le_of_ble_eq_true rfl) (Nat.le_of_ble_eq_true rfl) (by omega) (by omega) (Nat.le_of_ble_eq_true rfl) ?_
          rintro v9 h4 ⟨rfl, cx4, ow4, cf4, cl4⟩
          have W4 : W2 h4 f n x o A D tS qS σ := ⟨J3.st cx4 cf4 cl4, ow4⟩
          have za4 := za3.up cf4.1
          have F := cx4.1
          refine e_aload_n aL_law_925 rfl ?_
          refine e_getINF aL_law_926 fL_40 rfl (fx_is F rfl) W4.1.ly.1 ?_
          refine e_iconst (v := 1) aL_law_929 (by decide) ?_
          refine e_iadd aL_law_930 ?_
          refine e_top (nI_1 f) ?_
          refine e_icmp_eq aL_law_931 (fun c931 => ?_) (fun c931 => ?_)
          · -- 931: taken
            skip
            refine e_iload aL_law_936 rfl ?_
            refine e_iload aL_law_938 rfl ?_
            refine e_icmp_ne aL_law_940 (fun c940 => ?_) (fun c940 => ?_)
            · -- 940: taken
              have q940 := (not_congr (nI_eq (by omega) (by omega))).mp c940
              refine e_lload aL_law_952 rfl ?_
              refine e_topL (v := hpv D n c f o r x) (hpv_s q940) ?_
              refine e_lstore aL_law_954 (Nat.le_of_ble_eq_true rfl) ?_
              refine e_iconst (v := 0) aL_law_956 (by decide) ?_
              refine e_istore aL_law_957 (Nat.le_of_ble_eq_true rfl) ?_
              refine e_ls (ls' := [(0, some (vR (some 6))), (1, some (vR (some 32))), (2, some (vR (some 109))), (3, some (vI (nI n))), (5, some (vL (lN (56 * om f)))), (7, some (vR (some z))), (8, some (vI (nI c))), (11, some (vI (nI r))), (12, some (vL (hpv D n c f o r x))), (14, some (vI (nI x))), (15, some (vI (nI 0)))]) ⟨rfl, rfl, rfl, rfl, rfl, rfl, rfl, rfl, rfl, rfl, rfl, trivial⟩ ?_
              exact law_yet W4 hf2 hx wo za4 hc0 hs0 rest
            · -- 940: not taken
              have q940 := (nI_eq (by omega) (by omega)).mp c940
              refine e_aload_n aL_law_943 rfl ?_
              refine e_iload aL_law_944 rfl ?_
              refine e_invvT aL_law_946 kL_156 (a_value W4.1.1 W4.2 hc) rfl rfl (fx_is F rfl) (Nat.le_of_ble_eq_true rfl) (Nat.le_of_ble_eq_true rfl) (by omega) (by omega) (Nat.le_of_ble_eq_true rfl) ?_
              refine e_goto aL_law_949 ?_
              refine e_topL (v := hpv D n c f o r x) (by unfold hpv; rw [if_pos (by omega), m1, hV_f, q940]) ?_
              refine e_lstore aL_law_954 (Nat.le_of_ble_eq_true rfl) ?_
              refine e_iconst (v := 0) aL_law_956 (by decide) ?_
              refine e_istore aL_law_957 (Nat.le_of_ble_eq_true rfl) ?_
              refine e_ls (ls' := [(0, some (vR (some 6))), (1, some (vR (some 32))), (2, some (vR (some 109))), (3, some (vI (nI n))), (5, some (vL (lN (56 * om f)))), (7, some (vR (some z))), (8, some (vI (nI c))), (11, some (vI (nI r))), (12, some (vL (hpv D n c f o r x))), (14, some (vI (nI x))), (15, some (vI (nI 0)))]) ⟨rfl, rfl, rfl, rfl, rfl, rfl, rfl, rfl, rfl, rfl, rfl, trivial⟩ ?_
              exact law_yet W4 hf2 hx wo za4 hc0 hs0 rest
          · -- 931: not taken
            exact absurd rfl c931
  have F := W.1.1.1
  refine e_ldc2 aL_law_898 lL_188 ?_
  refine e_lstore aL_law_901 (Nat.le_of_ble_eq_true rfl) ?_
  refine e_iconst (v := 5) aL_law_903 (by decide) ?_
  refine e_istore aL_law_904 (Nat.le_of_ble_eq_true rfl) ?_
  refine e_ls (ls' := [(0, some (vR (some 6))), (1, some (vR (some 32))), (2, some (vR (some 109))), (3, some (vI (nI n))), (5, some (vL (lN (56 * om f)))), (7, some (vR (some z))), (8, some (vI (nI c))), (11, some (vI (nI r))), (12, some (vL (hpv D n c f o r 6))), (14, some (vI (ordV 6)))]) ⟨rfl, rfl, rfl, rfl, rfl, rfl, rfl, rfl, congrArg (fun x => some (vL x)) (show (-1 : Int64) = hpv D n c f o r 6 from (if_neg (by omega)).symm), rfl, trivial⟩ ?_
  exact lp 6 h (Nat.le_refl _) W za
theorem law_up {X : EX} {nm : String} {cells slots f n : Nat} {o A : Nat → Nat} {D : Nat → DD} {tS : Nat → Int32} {qS σ : Nat → Nat} {h : HP} {z c r : Nat} (W : W1 h f n o A D tS qS σ) (hf2 : f ≤ 2) (hc : c < 3) (hr6 : r < 6) (hr : ∀ i, i < 6 → hV D n c f o i ≤ hV D n c f o r ∧ (i < r → hV D n c f o i < hV D n c f o r)) (hc0 : cells ≤ 400000) (hs0 : slots ≤ 4000000) (k : ∀ h2, W1 h2 f n o A D tS qS σ → Ev X (mL nm) 40 400000 4000000 QL cells slots 1092 [(0, some (vR (some 6))), (1, some (vR (some 32))), (2, some (vR (some 109))), (3, some (vI (nI n))), (5, some (vL (lN (56 * om f)))), (7, some (vR (some z))), (8, some (vI (nI c))), (11, some (vI (nI r))), (12, some (vL (lN (hV D n c f o r))))] [] h2) : Ev X (mL nm) 40 400000 4000000 QL cells slots 1012 [(0, some (vR (some 6))), (1, some (vR (some 32))), (2, some (vR (some 109))), (3, some (vI (nI n))), (5, some (vL (lN (56 * om f)))), (7, some (vR (some z))), (8, some (vI (nI c))), (11, some (vI (nI r))), (12, some (vL (hpv D n c f o r 0)))] [] h := by
  obtain ⟨m1, m2⟩ := om_st f (by omega)
  have wo := cx_o W.1.1
  have hb := cx_b W.1.1
  have hl : ∀ i, hV D n c f o i ≤ 56 * stp f := fun i => v_le wo hc
  have lp : ∀ (mx x : Nat) (hz : HP), x + mx = 6 → W1 hz f n o A D tS qS σ → Ev X (mL nm) 40 400000 4000000 QL cells slots 1015 [(0, some (vR (some 6))), (1, some (vR (some 32))), (2, some (vR (some 109))), (3, some (vI (nI n))), (5, some (vL (lN (56 * om f)))), (7, some (vR (some z))), (8, some (vI (nI c))), (11, some (vI (nI r))), (12, some (vL (lN (hV D n c f o r)))), (14, some (vI (nI x)))] [] hz := by
    intro mx
    induction mx with
    | zero =>
      intro x hz hk W
      have F := W.1.1.1
      refine e_iload aL_law_1015 rfl ?_
      refine e_bipush (v := 6) aL_law_1017 (by decide) ?_
      refine e_icmp_ge aL_law_1019 (fun c1019 => ?_) (fun c1019 => ?_)
      · -- 1019: taken
        refine e_ls (ls' := [(0, some (vR (some 6))), (1, some (vR (some 32))), (2, some (vR (some 109))), (3, some (vI (nI n))), (5, some (vL (lN (56 * om f)))), (7, some (vR (some z))), (8, some (vI (nI c))), (11, some (vI (nI r))), (12, some (vL (lN (hV D n c f o r))))]) ⟨rfl, rfl, rfl, rfl, rfl, rfl, rfl, rfl, rfl, trivial⟩ ?_
        exact k hz W
      · -- 1019: not taken
        exact absurd (nI_le (a := 6) (by omega) (by omega)) c1019
    | succ mx ih =>
      intro x hz hk W
      have F := W.1.1.1
      have hx : x < 6 := by omega
      have l1 := hl x
      have l2 := hl r
      refine e_iload aL_law_1015 rfl ?_
      refine e_bipush (v := 6) aL_law_1017 (by decide) ?_
      refine e_icmp_ge aL_law_1019 (fun c1019 => ?_) (fun c1019 => ?_)
      · -- 1019: taken
        exact absurd c1019 (nI_ge (b := 6) (by omega) (by omega))
      · -- 1019: not taken
        refine e_aload_n aL_law_1022 rfl ?_
        refine e_invv aL_law_1023 kL_185 (s_image X W.1.1 W.2 (by decide) (Or.inr rfl)) rfl rfl (fx_is F rfl) (Nat.le_of_ble_eq_true rfl) (Nat.le_of_ble_eq_true rfl) (by omega) (by omega) (Nat.le_of_ble_eq_true rfl) ?_
        rintro v9 h3 ⟨rfl, cx3, ow3, cf3, cl3⟩
        have J3 := W.1.st cx3 cf3 cl3
        have F := cx3.1
        refine e_iconst (v := 2) aL_law_1026 (by decide) ?_
        refine e_icmp_ne aL_law_1027 (fun c1027 => ?_) (fun c1027 => ?_)
        · -- 1027: taken
          exact absurd rfl c1027
        · -- 1027: not taken
          skip
          refine e_aload_n aL_law_1030 rfl ?_
          refine e_iload aL_law_1031 rfl ?_
          refine e_invv aL_law_1033 kL_68 (s_fall X cx3 ow3 (by omega) hx) rfl rfl (fx_is F rfl) (Nat.le_of_ble_eq_true rfl) (Nat.le_of_ble_eq_true rfl) (by omega) (by omega) (Nat.le_of_ble_eq_true rfl) ?_
          rintro v9 h4 ⟨rfl, cx4, ow4, cf4, cl4⟩
          have W4 : W2 h4 f n x o A D tS qS σ := ⟨J3.st cx4 cf4 cl4, ow4⟩
          have F := cx4.1
          refine e_aload_n aL_law_1036 rfl ?_
          refine e_getINF aL_law_1037 fL_40 rfl (fx_is F rfl) W4.1.ly.1 ?_
          refine e_iconst (v := 1) aL_law_1040 (by decide) ?_
          refine e_iadd aL_law_1041 ?_
          refine e_top (nI_1 f) ?_
          refine e_icmp_ne aL_law_1042 (fun c1042 => ?_) (fun c1042 => ?_)
          · -- 1042: taken
            exact absurd rfl c1042
          · -- 1042: not taken
            skip
            refine e_aload_n aL_law_1045 rfl ?_
            refine e_iload aL_law_1046 rfl ?_
            refine e_invvT aL_law_1048 kL_156 (a_value W4.1.1 W4.2 hc) rfl rfl (fx_is F rfl) (Nat.le_of_ble_eq_true rfl) (Nat.le_of_ble_eq_true rfl) (by omega) (by omega) (Nat.le_of_ble_eq_true rfl) ?_
            refine e_topL (v := lN (hV D n c f o x)) (by rw [m1, hV_f]) ?_
            refine e_lload aL_law_1051 rfl ?_
            refine e_lcmp aL_law_1053 ?_
            refine e_if_gt aL_law_1054 (fun c1054 => ?_) (fun c1054 => ?_)
            · -- 1054: taken
              have y9 := (lN_lt (by omega) (by omega)).mp (lgc_gt.mp c1054)
              exact absurd (hr x hx).1 (by omega)
            · -- 1054: not taken
              skip
              refine e_iload aL_law_1057 rfl ?_
              refine e_iload aL_law_1059 rfl ?_
              refine e_icmp_ge aL_law_1061 (fun c1061 => ?_) (fun c1061 => ?_)
              · -- 1061: taken
                skip
                refine e_aload_n aL_law_1076 rfl ?_
                refine e_invv aL_law_1077 kL_190 (s_back X (g := 1) W4.1.1) rfl rfl (fx_is F rfl) (Nat.le_of_ble_eq_true rfl) (Nat.le_of_ble_eq_true rfl) (by omega) (by omega) (Nat.le_of_ble_eq_true rfl) ?_
                rintro v9 h5 ⟨rfl, cx5, ow5, cf5, cl5⟩
                have W5 : W1 h5 f n o A D tS qS σ := ⟨W4.1.st cx5 cf5 cl5, ow5⟩
                have F := cx5.1
                refine e_iload_n aL_law_1080 rfl ?_
                refine e_icmp_eq aL_law_1081 (fun c1081 => ?_) (fun c1081 => ?_)
                · -- 1081: taken
                  skip
                  refine e_iinc aL_law_1086 rfl rfl (Nat.le_of_ble_eq_true rfl) ?_
                  refine e_goto aL_law_1089 ?_
                  refine e_ls (ls' := [(0, some (vR (some 6))), (1, some (vR (some 32))), (2, some (vR (some 109))), (3, some (vI (nI n))), (5, some (vL (lN (56 * om f)))), (7, some (vR (some z))), (8, some (vI (nI c))), (11, some (vI (nI r))), (12, some (vL (lN (hV D n c f o r)))), (14, some (vI (nI (x + 1))))]) ⟨rfl, rfl, rfl, rfl, rfl, rfl, rfl, rfl, rfl, congrArg (fun x => some (vI x)) (nI_1 x), trivial⟩ ?_
                  exact ih (x + 1) h5 (by omega) W5
                · -- 1081: not taken
                  exact absurd rfl c1081
              · -- 1061: not taken
                have q1061 := (nI_ltI (by omega) (by omega)).mp (Int32.not_le.mp c1061)
                refine e_aload_n aL_law_1064 rfl ?_
                refine e_iload aL_law_1065 rfl ?_
                refine e_invvT aL_law_1067 kL_156 (a_value W4.1.1 W4.2 hc) rfl rfl (fx_is F rfl) (Nat.le_of_ble_eq_true rfl) (Nat.le_of_ble_eq_true rfl) (by omega) (by omega) (Nat.le_of_ble_eq_true rfl) ?_
                refine e_topL (v := lN (hV D n c f o x)) (by rw [m1, hV_f]) ?_
                refine e_lload aL_law_1070 rfl ?_
                refine e_lcmp aL_law_1072 ?_
                refine e_if_eq aL_law_1073 (fun c1073 => ?_) (fun c1073 => ?_)
                · -- 1073: taken
                  have y9 := (lN_eq (by omega) (by omega)).mp (lgc_e c1073)
                  exact absurd ((hr x hx).2 q1061) (by omega)
                · -- 1073: not taken
                  skip
                  refine e_aload_n aL_law_1076 rfl ?_
                  refine e_invv aL_law_1077 kL_190 (s_back X (g := 1) W4.1.1) rfl rfl (fx_is F rfl) (Nat.le_of_ble_eq_true rfl) (Nat.le_of_ble_eq_true rfl) (by omega) (by omega) (Nat.le_of_ble_eq_true rfl) ?_
                  rintro v9 h5 ⟨rfl, cx5, ow5, cf5, cl5⟩
                  have W5 : W1 h5 f n o A D tS qS σ := ⟨W4.1.st cx5 cf5 cl5, ow5⟩
                  have F := cx5.1
                  refine e_iload_n aL_law_1080 rfl ?_
                  refine e_icmp_eq aL_law_1081 (fun c1081 => ?_) (fun c1081 => ?_)
                  · -- 1081: taken
                    skip
                    refine e_iinc aL_law_1086 rfl rfl (Nat.le_of_ble_eq_true rfl) ?_
                    refine e_goto aL_law_1089 ?_
                    refine e_ls (ls' := [(0, some (vR (some 6))), (1, some (vR (some 32))), (2, some (vR (some 109))), (3, some (vI (nI n))), (5, some (vL (lN (56 * om f)))), (7, some (vR (some z))), (8, some (vI (nI c))), (11, some (vI (nI r))), (12, some (vL (lN (hV D n c f o r)))), (14, some (vI (nI (x + 1))))]) ⟨rfl, rfl, rfl, rfl, rfl, rfl, rfl, rfl, rfl, congrArg (fun x => some (vI x)) (nI_1 x), trivial⟩ ?_
                    exact ih (x + 1) h5 (by omega) W5
                  · -- 1081: not taken
                    exact absurd rfl c1081
  refine e_iconst (v := 0) aL_law_1012 (by decide) ?_
  refine e_istore aL_law_1013 (Nat.le_of_ble_eq_true rfl) ?_
  refine e_ls (ls' := [(0, some (vR (some 6))), (1, some (vR (some 32))), (2, some (vR (some 109))), (3, some (vI (nI n))), (5, some (vL (lN (56 * om f)))), (7, some (vR (some z))), (8, some (vI (nI c))), (11, some (vI (nI r))), (12, some (vL (lN (hV D n c f o r)))), (14, some (vI (nI 0)))]) ⟨rfl, rfl, rfl, rfl, rfl, rfl, rfl, rfl, congrArg (fun x => some (vL x)) (show hpv D n c f o r 0 = lN (hV D n c f o r) from if_pos (Nat.zero_le _)), rfl, trivial⟩ ?_
  exact lp 6 0 h rfl W
theorem law_end {X : EX} {nm : String} {cells slots f n : Nat} {o A : Nat → Nat} {D : Nat → DD} {tS : Nat → Int32} {qS σ : Nat → Nat} {h : HP} {z c r : Nat} (W : W1 h f n o A D tS qS σ) (hc : c < 3) (hn12 : n ≤ 12) (hc0 : cells ≤ 400000) (hs0 : slots ≤ 4000000) : Ev X (mL nm) 40 400000 4000000 QL cells slots 1092 [(0, some (vR (some 6))), (1, some (vR (some 32))), (2, some (vR (some 109))), (3, some (vI (nI n))), (5, some (vL (lN (56 * om f)))), (7, some (vR (some z))), (8, some (vI (nI c))), (11, some (vI (nI r))), (12, some (vL (lN (hV D n c f o r))))] [] h := by
  have F := W.1.1.1
  refine e_aload_n aL_law_1092 rfl ?_
  refine e_invv aL_law_1093 kL_193 (s_prune X W.1.1) rfl rfl (fx_is F rfl) (Nat.le_of_ble_eq_true rfl) (Nat.le_of_ble_eq_true rfl) (by omega) (by omega) (Nat.le_of_ble_eq_true rfl) ?_
  rintro v9 h3 ⟨k, A2, D2, hk, rfl, cx3, cf3, cl3⟩
  have J3 := W.1.st cx3 cf3 cl3
  have F := cx3.1
  refine e_istore aL_law_1096 (Nat.le_of_ble_eq_true rfl) ?_
  refine e_iload aL_law_1098 rfl ?_
  refine e_if_lt aL_law_1100 (fun c1100 => ?_) (fun c1100 => ?_)
  · -- 1100: taken
    exact absurd c1100 (nI_pos (by omega))
  · -- 1100: not taken
    skip
    refine e_aload_n aL_law_1103 rfl ?_
    refine e_iconst (v := 0) aL_law_1104 (by decide) ?_
    refine e_invvT aL_law_1105 kL_101 (a_count cx3 (i := 0) (by decide)) rfl rfl (fx_is F rfl) (Nat.le_of_ble_eq_true rfl) (Nat.le_of_ble_eq_true rfl) (by omega) (by omega) (Nat.le_of_ble_eq_true rfl) ?_
    refine e_top (v := nI k) rfl ?_
    refine e_iload_n aL_law_1108 rfl ?_
    refine e_iload aL_law_1109 rfl ?_
    refine e_isub aL_law_1111 ?_
    refine e_top (v := nI k) (by rw [nI_subN (by omega), show n - (n - k) = k by omega]) ?_
    refine e_icmp_ne aL_law_1112 (fun c1112 => ?_) (fun c1112 => ?_)
    · -- 1112: taken
      exact absurd rfl c1112
    · -- 1112: not taken
      skip
      refine e_aload_n aL_law_1115 rfl ?_
      refine e_iload aL_law_1116 rfl ?_
      refine e_invv aL_law_1118 kL_156 (a_valueP cx3 hc) rfl rfl (fx_is F rfl) (Nat.le_of_ble_eq_true rfl) (Nat.le_of_ble_eq_true rfl) (by omega) (by omega) (Nat.le_of_ble_eq_true rfl) ?_
      rintro v9 h9 ⟨u, hu, rfl, e9⟩
      obtain rfl := e9.symm
      refine e_lconst (v := 0) aL_law_1121 rfl ?_
      refine e_lcmp aL_law_1122 ?_
      refine e_if_lt aL_law_1123 (fun c1123 => ?_) (fun c1123 => ?_)
      · -- 1123: taken
        have y9 := (lN_lt (a := u) (b := 0) (by omega) (by decide)).mp (lgc_lt.mp c1123)
        exact absurd y9 (Nat.not_lt_zero _)
      · -- 1123: not taken
        skip
        refine e_aload_n aL_law_1126 rfl ?_
        refine e_invv aL_law_1127 kL_190 (s_back X (g := 0) cx3) rfl rfl (fx_is F rfl) (Nat.le_of_ble_eq_true rfl) (Nat.le_of_ble_eq_true rfl) (by omega) (by omega) (Nat.le_of_ble_eq_true rfl) ?_
        rintro v9 h5 ⟨rfl, cx5, ow5, cf5, cl5⟩
        have J5 := J3.st cx5 cf5 cl5
        have F := cx5.1
        refine e_iload_n aL_law_1130 rfl ?_
        refine e_icmp_eq aL_law_1131 (fun c1131 => ?_) (fun c1131 => ?_)
        · -- 1131: taken
          skip
          refine e_aload_n aL_law_1136 rfl ?_
          refine e_aload_n aL_law_1137 rfl ?_
          refine e_invs aL_law_1138 kL_196 (zL_same X cx5 J5.2.1) rfl rfl (Nat.le_of_ble_eq_true rfl) (Nat.le_of_ble_eq_true rfl) (by omega) (by omega) (Nat.le_of_ble_eq_true rfl) ?_
          rintro v9 h6 ⟨rfl, fk⟩
          have cx6 := fk.cx cx5
          have ow6 := fk.o ow5
          have F := cx6.1
          refine e_if_eq aL_law_1141 (fun c1141 => ?_) (fun c1141 => ?_)
          · -- 1141: taken
            exact absurd c1141 (by decide)
          · -- 1141: not taken
            skip
            refine e_aload_n aL_law_1144 rfl ?_
            refine e_iconst (v := 0) aL_law_1145 (by decide) ?_
            refine e_invvT aL_law_1146 kL_156 (a_value cx6 ow6 (c := 0) (by decide)) rfl rfl (fx_is F rfl) (Nat.le_of_ble_eq_true rfl) (Nat.le_of_ble_eq_true rfl) (by omega) (by omega) (Nat.le_of_ble_eq_true rfl) ?_
            refine e_aload_n aL_law_1149 rfl ?_
            refine e_iconst (v := 1) aL_law_1150 (by decide) ?_
            refine e_invvT aL_law_1151 kL_156 (a_value cx6 ow6 (c := 1) (by decide)) rfl rfl (fx_is F rfl) (Nat.le_of_ble_eq_true rfl) (Nat.le_of_ble_eq_true rfl) (by omega) (by omega) (Nat.le_of_ble_eq_true rfl) ?_
            refine e_ladd aL_law_1154 ?_
            refine e_aload_n aL_law_1155 rfl ?_
            refine e_iconst (v := 2) aL_law_1156 (by decide) ?_
            refine e_invvT aL_law_1157 kL_156 (a_value cx6 ow6 (c := 2) (by decide)) rfl rfl (fx_is F rfl) (Nat.le_of_ble_eq_true rfl) (Nat.le_of_ble_eq_true rfl) (by omega) (by omega) (Nat.le_of_ble_eq_true rfl) ?_
            refine e_ladd aL_law_1160 ?_
            refine e_topL (v := lN (56 * om f)) (by rw [lN_add, lN_add, v3_sum (cx_o cx6)]) ?_
            refine e_lload aL_law_1161 rfl ?_
            refine e_lcmp aL_law_1163 ?_
            refine e_if_ne aL_law_1164 (fun c1164 => ?_) (fun c1164 => ?_)
            · -- 1164: taken
              exact absurd (lg_0e rfl) c1164
            · -- 1164: not taken
              skip
              refine e_iconst (v := 1) aL_law_1167 (by decide) ?_
              refine e_goto aL_law_1168 ?_
              refine e_zreturn aL_law_1172 rfl (Or.inr rfl) (by omega) (by omega) ?_
              exact rfl
        · -- 1131: not taken
          exact absurd rfl c1131
