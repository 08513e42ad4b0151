/-! THE LAW: the best, what may be hoped for, YEARS that fall (written by wip/p45/g99h.py) -/
theorem fall_e {f x : Nat} {o : Nat → Nat} : fo (upF o f x) (f + 1) = fo o f + x * stp f := by
  show fo (upF o f x) f + upF o f x f * stp f = _
  rw [upF_s, fo_cg (o := o) (fun y hy => upF_o (by omega))]
theorem lgc_e {a b : Int64} (h : lg_cmp a b = 0) : a = b := by
  unfold lg_cmp at h
  by_cases z : a > b
  · rw [if_pos z] at h; exact absurd h (by decide)
  · rw [if_neg z] at h
    by_cases w : a = b
    · exact w
    · rw [if_neg w] at h; exact absurd h (by decide)
def ordV : Nat → Int32
  | 0 => -1
  | m + 1 => nI m
theorem ordV_s (m : Nat) : nI m + Int32.ofInt (-1) = ordV m := by
  cases m with
  | zero => decide
  | succ m => exact nI_m1x (Nat.succ_pos m)
/-- with one image -/
def W1 (h : HP) (f n : Nat) (o A : Nat → Nat) (D : Nat → DD) (tS : Nat → Int32) (qS σ : Nat → Nat) : Prop := JJ h (f, n, o, A, D) 1 (f, n, o, A, D) tS qS σ ∧ OwB h (f, n, o, A, D)
/-- with two, a YEAR fallen -/
def W2 (h : HP) (f n x : Nat) (o A : Nat → Nat) (D : Nat → DD) (tS : Nat → Int32) (qS σ : Nat → Nat) : Prop := JJ h (f + 1, n, upF o f x, A, D) 2 (f, n, o, A, D) tS qS σ ∧ OwB h (f + 1, n, upF o f x, A, D)
theorem JJ.ly {h : HP} {b : BQ} {g f n : Nat} {o A : Nat → Nat} {D : Nat → DD} {tS : Nat → Int32} {qS σ : Nat → Nat} (J : JJ h b g (f, n, o, A, D) tS qS σ) : LY h f o := by
  obtain ⟨m, e1, e2, fa, τ, E, ll, lt, ly⟩ := J.2.1
  exact ly
theorem law_best {X : EX} {nm : String} {cells slots f n : Nat} {o A : Nat → Nat} {D : Nat → DD} {tS : Nat → Int32} {qS σ : Nat → Nat} {h : HP} {z : Nat} (hx31 : xN X < 2 ^ 31) (W : WW h f n o A D tS qS σ) (hc0 : cells ≤ 400000) (hs0 : slots ≤ 4000000) (k : ∀ c, c < 3 → Ev X (mL nm) 40 400000 4000000 QL cells slots 880 [(0, some (vR (some 6))), (1, some (vR (some 32))), (2, some (vR (some 109))), (3, some (vI (nI n))), (5, some (vL (lN (56 * om f)))), (7, some (vR (some z))), (8, some (vI (nI c)))] [] h) : Ev X (mL nm) 40 400000 4000000 QL cells slots 771 [(0, some (vR (some 6))), (1, some (vR (some 32))), (2, some (vR (some 109))), (3, some (vI (nI n))), (5, some (vL (lN (56 * om f)))), (7, some (vR (some z)))] [] h := by
  have F := W.cx.1
  have hb := cx_b W.cx
  have lp : ∀ (c ra rb : Nat), c < 3 → fo o f ≤ ra → ra < fo o f + om f → (∀ s, fo o f ≤ s → s < fo o f + om f → wS D n s c 12 ≤ wS D n ra c 12) → fo o f ≤ rb → rb < fo o f + om f → (∀ s, fo o f ≤ s → s < fo o f + om f → wS D n rb c 12 ≤ wS D n s c 12) → ∀ (mi i : Nat), i + mi = 6 → Ev X (mL nm) 40 400000 4000000 QL cells slots 804 [(0, some (vR (some 6))), (1, some (vR (some 32))), (2, some (vR (some 109))), (3, some (vI (nI n))), (5, some (vL (lN (56 * om f)))), (7, some (vR (some z))), (8, some (vI (nI c))), (9, some (vI (nI ra))), (10, some (vI (nI rb))), (11, some (vI (nI i)))] [] h := by
    intro c ra rb hc ra1 ra2 ra3 rb1 rb2 rb3 mi
    induction mi with
    | zero =>
      intro i hk
      refine e_iload aL_law_804 rfl ?_
      refine e_bipush (v := 6) aL_law_806 (by decide) ?_
      refine e_icmp_ge aL_law_808 (fun c808 => ?_) (fun c808 => ?_)
      · -- 808: taken
        refine e_ls (ls' := [(0, some (vR (some 6))), (1, some (vR (some 32))), (2, some (vR (some 109))), (3, some (vI (nI n))), (5, some (vL (lN (56 * om f)))), (7, some (vR (some z))), (8, some (vI (nI c)))]) ⟨rfl, rfl, rfl, rfl, rfl, rfl, rfl, trivial⟩ ?_
        exact k c hc
      · -- 808: not taken
        exact absurd (nI_le (a := 6) (by omega) (by omega)) c808
    | succ mi ih =>
      intro i hk
      refine e_iload aL_law_804 rfl ?_
      refine e_bipush (v := 6) aL_law_806 (by decide) ?_
      refine e_icmp_ge aL_law_808 (fun c808 => ?_) (fun c808 => ?_)
      · -- 808: taken
        exact absurd c808 (nI_ge (b := 6) (by omega) (by omega))
      · -- 808: not taken
        refine e_aload_n aL_law_811 rfl ?_
        refine e_invvT aL_law_812 kL_129 (zX9_from X F W.ly) rfl rfl (fx_is F rfl) (Nat.le_of_ble_eq_true rfl) (Nat.le_of_ble_eq_true rfl) (by omega) (by omega) (Nat.le_of_ble_eq_true rfl) ?_
        refine e_aload_n aL_law_815 rfl ?_
        refine e_bipush (v := 23) aL_law_816 (by decide) ?_
        refine e_iload aL_law_818 rfl ?_
        refine e_iadd aL_law_820 ?_
        refine e_top (nI_add 23 i) ?_
        refine e_invsT aL_law_821 kL_71 (zL_at X (k := 23 + i) hx31 (by omega)) rfl rfl (Nat.le_of_ble_eq_true rfl) (Nat.le_of_ble_eq_true rfl) (by omega) (by omega) (Nat.le_of_ble_eq_true rfl) ?_
        refine e_aload_n aL_law_824 rfl ?_
        refine e_invvT aL_law_825 kL_104 (zX9_size X F W.ly) rfl rfl (fx_is F rfl) (Nat.le_of_ble_eq_true rfl) (Nat.le_of_ble_eq_true rfl) (by omega) (by omega) (Nat.le_of_ble_eq_true rfl) ?_
        refine e_invs aL_law_828 kL_18 (zL_mod X (m := om f) (by omega) (by omega)) rfl rfl (Nat.le_of_ble_eq_true rfl) (Nat.le_of_ble_eq_true rfl) (by omega) (by omega) (Nat.le_of_ble_eq_true rfl) ?_
        rintro v0 h9 ⟨r, hr, rfl, e9⟩
        obtain rfl := e9.symm
        have v1 : fo o f ≤ fo o f + r := by omega
        have v2 : fo o f + r < fo o f + om f := by omega
        have y1 := ra3 _ v1 v2
        have y2 := rb3 _ v1 v2
        have y3 := w_le (s := ra) (cx_o W.cx ra) hc
        have y4 := w_le (s := rb) (cx_o W.cx rb) hc
        have y5 := w_le (s := fo o f + r) (cx_o W.cx _) hc
        refine e_iadd aL_law_831 ?_
        refine e_top (nI_add _ _) ?_
        refine e_istore aL_law_832 (Nat.le_of_ble_eq_true rfl) ?_
        refine e_aload_n aL_law_834 rfl ?_
        refine e_iload aL_law_835 rfl ?_
        refine e_iload aL_law_837 rfl ?_
        refine e_invvT aL_law_839 kL_135 (a_worth W.cx W.2 v1 v2 hc) rfl rfl (fx_is F rfl) (Nat.le_of_ble_eq_true rfl) (Nat.le_of_ble_eq_true rfl) (by omega) (by omega) (Nat.le_of_ble_eq_true rfl) ?_
        refine e_aload_n aL_law_842 rfl ?_
        refine e_iload aL_law_843 rfl ?_
        refine e_iload aL_law_845 rfl ?_
        refine e_invvT aL_law_847 kL_135 (a_worth W.cx W.2 ra1 ra2 hc) rfl rfl (fx_is F rfl) (Nat.le_of_ble_eq_true rfl) (Nat.le_of_ble_eq_true rfl) (by omega) (by omega) (Nat.le_of_ble_eq_true rfl) ?_
        refine e_icmp_gt aL_law_850 (fun c850 => ?_) (fun c850 => ?_)
        · -- 850: taken
          exact absurd ((nI_ltI (by omega) (by omega)).mp c850) (by omega)
        · -- 850: not taken
          skip
          refine e_aload_n aL_law_853 rfl ?_
          refine e_iload aL_law_854 rfl ?_
          refine e_iload aL_law_856 rfl ?_
          refine e_invvT aL_law_858 kL_135 (a_worth W.cx W.2 v1 v2 hc) rfl rfl (fx_is F rfl) (Nat.le_of_ble_eq_true rfl) (Nat.le_of_ble_eq_true rfl) (by omega) (by omega) (Nat.le_of_ble_eq_true rfl) ?_
          refine e_aload_n aL_law_861 rfl ?_
          refine e_iload aL_law_862 rfl ?_
          refine e_iload aL_law_864 rfl ?_
          refine e_invvT aL_law_866 kL_135 (a_worth W.cx W.2 rb1 rb2 hc) rfl rfl (fx_is F rfl) (Nat.le_of_ble_eq_true rfl) (Nat.le_of_ble_eq_true rfl) (by omega) (by omega) (Nat.le_of_ble_eq_true rfl) ?_
          refine e_icmp_ge aL_law_869 (fun c869 => ?_) (fun c869 => ?_)
          · -- 869: taken
            skip
            refine e_iinc aL_law_874 rfl rfl (Nat.le_of_ble_eq_true rfl) ?_
            refine e_goto aL_law_877 ?_
            refine e_ls (ls' := [(0, some (vR (some 6))), (1, some (vR (some 32))), (2, some (vR (some 109))), (3, some (vI (nI n))), (5, some (vL (lN (56 * om f)))), (7, some (vR (some z))), (8, some (vI (nI c))), (9, some (vI (nI ra))), (10, some (vI (nI rb))), (11, some (vI (nI (i + 1))))]) ⟨rfl, rfl, rfl, rfl, rfl, rfl, rfl, rfl, rfl, congrArg (fun x => some (vI x)) (nI_1 i), trivial⟩ ?_
            exact ih (i + 1) (by omega)
          · -- 869: not taken
            exact absurd (nI_le y2 (by omega)) c869
  refine e_aload_n aL_law_771 rfl ?_
  refine e_bipush (v := 22) aL_law_772 (by decide) ?_
  refine e_invsT aL_law_774 kL_71 (zL_at X (k := 22) hx31 (by decide)) rfl rfl (Nat.le_of_ble_eq_true rfl) (Nat.le_of_ble_eq_true rfl) (by omega) (by omega) (Nat.le_of_ble_eq_true rfl) ?_
  refine e_iconst (v := 3) aL_law_777 (by decide) ?_
  refine e_invs aL_law_778 kL_18 (zL_mod X (m := 3) (by decide) (by decide)) rfl rfl (Nat.le_of_ble_eq_true rfl) (Nat.le_of_ble_eq_true rfl) (by omega) (by omega) (Nat.le_of_ble_eq_true rfl) ?_
  rintro v0 h9 ⟨c, hc, rfl, e9⟩
  obtain rfl := e9.symm
  refine e_istore aL_law_781 (Nat.le_of_ble_eq_true rfl) ?_
  refine e_aload_n aL_law_783 rfl ?_
  refine e_iload aL_law_784 rfl ?_
  refine e_iconst (v := 0) aL_law_786 (by decide) ?_
  refine e_invv aL_law_787 kL_179 (a_best0 W.cx W.2 hc) rfl rfl (fx_is F rfl) (Nat.le_of_ble_eq_true rfl) (Nat.le_of_ble_eq_true rfl) (by omega) (by omega) (Nat.le_of_ble_eq_true rfl) ?_
  rintro v9 h9 ⟨ra, rfl, e9, ra1, ra2, ra3⟩
  obtain rfl := e9.symm
  refine e_istore aL_law_790 (Nat.le_of_ble_eq_true rfl) ?_
  refine e_aload_n aL_law_792 rfl ?_
  refine e_iload aL_law_793 rfl ?_
  refine e_iconst (v := 1) aL_law_795 (by decide) ?_
  refine e_invv aL_law_796 kL_179 (a_best1 W.cx W.2 hc) rfl rfl (fx_is F rfl) (Nat.le_of_ble_eq_true rfl) (Nat.le_of_ble_eq_true rfl) (by omega) (by omega) (Nat.le_of_ble_eq_true rfl) ?_
  rintro v9 h9 ⟨rb, rfl, e9, rb1, rb2, rb3⟩
  obtain rfl := e9.symm
  refine e_istore aL_law_799 (Nat.le_of_ble_eq_true rfl) ?_
  refine e_iconst (v := 0) aL_law_801 (by decide) ?_
  refine e_istore aL_law_802 (Nat.le_of_ble_eq_true rfl) ?_
  refine e_ls (ls' := [(0, some (vR (some 6))), (1, some (vR (some 32))), (2, some (vR (some 109))), (3, some (vI (nI n))), (5, some (vL (lN (56 * om f)))), (7, some (vR (some z))), (8, some (vI (nI c))), (9, some (vI (nI ra))), (10, some (vI (nI rb))), (11, some (vI (nI 0)))]) ⟨rfl, rfl, rfl, rfl, rfl, rfl, rfl, rfl, rfl, rfl, trivial⟩ ?_
  exact lp c ra rb hc ra1 ra2 ra3 rb1 rb2 rb3 6 0 rfl
theorem law_hope {X : EX} {nm : String} {cells slots f n : Nat} {o A : Nat → Nat} {D : Nat → DD} {tS : Nat → Int32} {qS σ : Nat → Nat} {h : HP} {z c : Nat} (W : WW h f n o A D tS qS σ) (hf2 : f ≤ 2) (hc : c < 3) (za : ZA h z f n o D 12) (hc0 : cells ≤ 400000) (hs0 : slots ≤ 4000000) (k : ∀ h2 r, r < 6 → (∀ i, i < 6 → hV D n c f o i ≤ hV D n c f o r ∧ (i < r → hV D n c f o i < hV D n c f o r)) → W1 h2 f n o A D tS qS σ → ZA h2 z f n o D 12 → Ev X (mL nm) 40 400000 4000000 QL cells slots 898 [(0, some (vR (some 6))), (1, some (vR (some 32))), (2, some (vR (some 109))), (3, some (vI (nI n))), (5, some (vL (lN (56 * om f)))), (7, some (vR (some z))), (8, some (vI (nI c))), (11, some (vI (nI r)))] [] h2) : Ev X (mL nm) 40 400000 4000000 QL cells slots 880 [(0, some (vR (some 6))), (1, some (vR (some 32))), (2, some (vR (some 109))), (3, some (vI (nI n))), (5, some (vL (lN (56 * om f)))), (7, some (vR (some z))), (8, some (vI (nI c)))] [] h := by
  have F := W.cx.1
  refine e_aload_n aL_law_880 rfl ?_
  refine e_iload aL_law_881 rfl ?_
  refine e_invv aL_law_883 kL_182 (a_hope W.cx W.2 hc (by omega)) rfl rfl (fx_is F rfl) (Nat.le_of_ble_eq_true rfl) (Nat.le_of_ble_eq_true rfl) (by omega) (by omega) (Nat.le_of_ble_eq_true rfl) ?_
  rintro v9 h9 ⟨r, rfl, e9, r1, r2⟩
  obtain rfl := e9.symm
  refine e_istore aL_law_886 (Nat.le_of_ble_eq_true rfl) ?_
  refine e_aload_n aL_law_888 rfl ?_
  refine e_invv aL_law_889 kL_185 (s_image X W.cx W.2 (by decide) (Or.inl rfl)) rfl rfl (fx_is F rfl) (Nat.le_of_ble_eq_true rfl) (Nat.le_of_ble_eq_true rfl) (by omega) (by omega) (Nat.le_of_ble_eq_true rfl) ?_
  rintro v9 h3 ⟨rfl, cx3, ow3, cf3, cl3⟩
  have F := cx3.1
  refine e_iconst (v := 1) aL_law_892 (by decide) ?_
  refine e_icmp_eq aL_law_893 (fun c893 => ?_) (fun c893 => ?_)
  · -- 893: taken
    skip
    refine e_ls (ls' := [(0, some (vR (some 6))), (1, some (vR (some 32))), (2, some (vR (some 109))), (3, some (vI (nI n))), (5, some (vL (lN (56 * om f)))), (7, some (vR (some z))), (8, some (vI (nI c))), (11, some (vI (nI r)))]) ⟨rfl, rfl, rfl, rfl, rfl, rfl, rfl, rfl, trivial⟩ ?_
    exact k h3 r r1 r2 ⟨W.1.st cx3 cf3 cl3, ow3⟩ (za.up cf3.1)
  · -- 893: not taken
    exact absurd rfl c893
theorem law_yet {X : EX} {nm : String} {cells slots f n : Nat} {o A : Nat → Nat} {D : Nat → DD} {tS : Nat → Int32} {qS σ : Nat → Nat} {h : HP} {z c r x : Nat} {y : Int64} (W : W2 h f n x o A D tS qS σ) (hf2 : f ≤ 2) (hx : x < 6) (wo : ∀ s p, ow D s p n < 3) (za : ZA h z f n o D 12) (hc0 : cells ≤ 400000) (hs0 : slots ≤ 4000000) (k : ∀ h2, W2 h2 f n x o A D tS qS σ → ZA h2 z f n o D 12 → Ev X (mL nm) 40 400000 4000000 QL cells slots 996 [(0, some (vR (some 6))), (1, some (vR (some 32))), (2, some (vR (some 109))), (3, some (vI (nI n))), (5, some (vL (lN (56 * om f)))), (7, some (vR (some z))), (8, some (vI (nI c))), (11, some (vI (nI r))), (12, some (vL y)), (14, some (vI (nI x)))] [] h2) : Ev X (mL nm) 40 400000 4000000 QL cells slots 959 [(0, some (vR (some 6))), (1, some (vR (some 32))), (2, some (vR (some 109))), (3, some (vI (nI n))), (5, some (vL (lN (56 * om f)))), (7, some (vR (some z))), (8, some (vI (nI c))), (11, some (vI (nI r))), (12, some (vL y)), (14, some (vI (nI x))), (15, some (vI (nI 0)))] [] h := by
  obtain ⟨m1, m2⟩ := om_st f (by omega)
  have hxs : x * stp f ≤ 5 * stp f := Nat.mul_le_mul_right _ (by omega)
  have g1 : fo o f ≤ fo (upF o f x) (f + 1) := by rw [fall_e]; omega
  have g2 : fo (upF o f x) (f + 1) + om (f + 1) ≤ fo o f + om f := by rw [fall_e]; omega
  have g3 : 0 < om (f + 1) := om_pos (by omega)
  have lp : ∀ (mp p : Nat) (hz : HP), p + mp = 12 → W2 hz f n x o A D tS qS σ → ZA hz z f n o D 12 → Ev X (mL nm) 40 400000 4000000 QL cells slots 959 [(0, some (vR (some 6))), (1, some (vR (some 32))), (2, some (vR (some 109))), (3, some (vI (nI n))), (5, some (vL (lN (56 * om f)))), (7, some (vR (some z))), (8, some (vI (nI c))), (11, some (vI (nI r))), (12, some (vL y)), (14, some (vI (nI x))), (15, some (vI (nI p)))] [] hz := by
    intro mp
    induction mp with
    | zero =>
      intro p hz hk W za
      refine e_iload aL_law_959 rfl ?_
      refine e_bipush (v := 12) aL_law_961 (by decide) ?_
      refine e_icmp_ge aL_law_963 (fun c963 => ?_) (fun c963 => ?_)
      · -- 963: taken
        refine e_ls (ls' := [(0, some (vR (some 6))), (1, some (vR (some 32))), (2, some (vR (some 109))), (3, some (vI (nI n))), (5, some (vL (lN (56 * om f)))), (7, some (vR (some z))), (8, some (vI (nI c))), (11, some (vI (nI r))), (12, some (vL y)), (14, some (vI (nI x)))]) ⟨rfl, rfl, rfl, rfl, rfl, rfl, rfl, rfl, rfl, rfl, trivial⟩ ?_
        exact k hz W za
      · -- 963: not taken
        exact absurd (nI_le (a := 12) (by omega) (by omega)) c963
    | succ mp ih =>
      intro p hz hk W za
      have F := W.1.1.1
      have hp : p < 12 := by omega
      refine e_iload aL_law_959 rfl ?_
      refine e_bipush (v := 12) aL_law_961 (by decide) ?_
      refine e_icmp_ge aL_law_963 (fun c963 => ?_) (fun c963 => ?_)
      · -- 963: taken
        exact absurd c963 (nI_ge (b := 12) (by omega) (by omega))
      · -- 963: not taken
        refine e_aload aL_law_966 rfl ?_
        refine e_iload aL_law_968 rfl ?_
        refine e_ialoadF aL_law_970 za.2.1 za.2.2.1 (vin (N := 12) (by omega)) (show hI hz z (nI p).toNatClampNeg = oN (sU D n p (fo o f) (om f)) by rw [cl (by omega)]; exact za.2.2.2 p hp) ?_
        refine e_if_lt aL_law_971 (fun c971 => ?_) (fun c971 => ?_)
        · -- 971: taken
          skip
          refine e_iinc aL_law_990 rfl rfl (Nat.le_of_ble_eq_true rfl) ?_
          refine e_goto aL_law_993 ?_
          refine e_ls (ls' := [(0, some (vR (some 6))), (1, some (vR (some 32))), (2, some (vR (some 109))), (3, some (vI (nI n))), (5, some (vL (lN (56 * om f)))), (7, some (vR (some z))), (8, some (vI (nI c))), (11, some (vI (nI r))), (12, some (vL y)), (14, some (vI (nI x))), (15, some (vI (nI (p + 1))))]) ⟨rfl, rfl, rfl, rfl, rfl, rfl, rfl, rfl, rfl, rfl, congrArg (fun x => some (vI x)) (nI_1 p), trivial⟩ ?_
          exact ih (p + 1) hz (by omega) W za
        · -- 971: not taken
          obtain ⟨k, e9⟩ : ∃ k, (sU D n p (fo o f) (om f)) = some k := by
            rcases e9 : (sU D n p (fo o f) (om f)) with _ | k
            · rw [e9] at c971
              exact absurd (by decide) c971
            · exact ⟨k, rfl⟩
          have e8 := sU_sub (a2 := fo (upF o f x) (f + 1)) (m2 := om (f + 1)) wo e9 g1 g2 g3
          refine e_aload_n aL_law_974 rfl ?_
          refine e_iload aL_law_975 rfl ?_
          refine e_invv aL_law_977 kL_165 (a_sure W.1.1 W.2 hp) rfl rfl (fx_is F rfl) (Nat.le_of_ble_eq_true rfl) (Nat.le_of_ble_eq_true rfl) (by omega) (by omega) (Nat.le_of_ble_eq_true rfl) ?_
          rintro v2 h2 ⟨rfl, fn⟩
          have za2 := za.fn fn
          have W2 : W2 h2 f n x o A D tS qS σ := ⟨W.1.fn fn, W.2.fn fn F⟩
          have F := W2.1.1.1
          rw [e8]
          refine e_aload aL_law_980 rfl ?_
          refine e_iload aL_law_982 rfl ?_
          refine e_ialoadF aL_law_984 za2.2.1 za2.2.2.1 (vin (N := 12) (by omega)) (show hI h2 z (nI p).toNatClampNeg = oN (some k) by rw [cl (by omega), ← e9]; exact za2.2.2.2 p hp) ?_
          refine e_icmp_eq aL_law_985 (fun c985 => ?_) (fun c985 => ?_)
          · -- 985: taken
            skip
            refine e_iinc aL_law_990 rfl rfl (Nat.le_of_ble_eq_true rfl) ?_
            refine e_goto aL_law_993 ?_
            refine e_ls (ls' := [(0, some (vR (some 6))), (1, some (vR (some 32))), (2, some (vR (some 109))), (3, some (vI (nI n))), (5, some (vL (lN (56 * om f)))), (7, some (vR (some z))), (8, some (vI (nI c))), (11, some (vI (nI r))), (12, some (vL y)), (14, some (vI (nI x))), (15, some (vI (nI (p + 1))))]) ⟨rfl, rfl, rfl, rfl, rfl, rfl, rfl, rfl, rfl, rfl, congrArg (fun x => some (vI x)) (nI_1 p), trivial⟩ ?_
            exact ih (p + 1) h2 (by omega) W2 za2
          · -- 985: not taken
            exact absurd rfl c985
  exact lp 12 0 h rfl W za
