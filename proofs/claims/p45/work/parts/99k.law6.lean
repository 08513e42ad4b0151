/-! THE LAW: how it begins; all of it (written by wip/p45/g99k.py) -/
theorem CX.z {h : HP} {b c c2 : BQ} {tS : Nat → Int32} {qS : Nat → Nat} (q : CX h b 0 c tS qS) : CX h b 0 c2 tS qS := ⟨q.1, q.2.1, q.2.2.1, q.2.2.2.1, fun j hj => absurd hj (Nat.not_lt_zero j), q.2.2.2.2.2⟩
theorem mod2 {x n : Nat} (h : x < n + n) : x % n = if x < n then x else x - n := by
  by_cases y : x < n
  · rw [if_pos y, Nat.mod_eq_of_lt y]
  · rw [if_neg y, Nat.mod_eq_sub_mod (by omega), Nat.mod_eq_of_lt (by omega)]
theorem turn_j {n r i j : Nat} (hr : r < n) (hi : i < n) (hj : j < n) (e : (i + r) % n = (j + r) % n) : i = j := by
  rw [mod2 (by omega), mod2 (by omega)] at e
  by_cases y : i + r < n <;> by_cases w : j + r < n
  · rw [if_pos y, if_pos w] at e; omega
  · rw [if_pos y, if_neg w] at e; omega
  · rw [if_neg y, if_pos w] at e; omega
  · rw [if_neg y, if_neg w] at e; omega
theorem turn_s {n r k : Nat} (hr : r < n) (hk : k < n) : ∃ a, a < n ∧ (a + r) % n = k := by
  by_cases y : r ≤ k
  · exact ⟨k - r, by omega, by rw [show k - r + r = k by omega, Nat.mod_eq_of_lt hk]⟩
  · exact ⟨k + n - r, by omega, by rw [show k + n - r + r = k + n by omega, Nat.add_mod_right, Nat.mod_eq_of_lt hk]⟩
theorem law_set {X : EX} {nm : String} {cells slots f n m : Nat} {o A : Nat → Nat} {D : Nat → DD} {c : BQ} {tS : Nat → Int32} {qS : Nat → Nat} {h : HP} (hx31 : xN X < 2 ^ 31) (J : JM h f n m o A D c tS qS) (hf2 : f ≤ 2) (hn9 : n ≤ 9) (hc0 : cells ≤ 400000) (hs0 : slots ≤ 4000000) (kk : ∀ h2 tS qS σ, WW h2 f n o A D tS qS σ → WP f n o A D tS qS σ → Ev X (mL nm) 40 400000 4000000 QL cells slots 120 [(0, some (vR (some 6))), (1, some (vR (some 32))), (2, some (vR (some 109))), (3, some (vI (nI n))), (5, some (vI (nI 0)))] [] h2) : Ev X (mL nm) 40 400000 4000000 QL cells slots 30 [(0, some (vR (some 6))), (1, some (vR (some 32))), (2, some (vR (some 109)))] [] h := by
  obtain ⟨cx0, ow0, ok, e1, e2, fa, τ, E, ll, lt, ly⟩ := J
  have F := cx0.1
  have lb : LBk h (f, n, o, A, D) := ⟨m, e1, e2, fa, τ, E, ll, lt, ly⟩
  have t0 : (upF (upF tS 0 (nI 0)) 1 (nI 1)) 0 = 0 := (upF_o (by decide)).trans (upF_s.trans rfl)
  have t1 : (upF (upF tS 0 (nI 0)) 1 (nI 1)) 1 = 1 := upF_s.trans rfl
  have q0 : (upF (upF qS 0 n) 1 12) 0 = n := (upF_o (by decide)).trans upF_s
  have q1 : (upF (upF qS 0 n) 1 12) 1 = 12 := upF_s
  have fin9 : ∀ (r : Nat), (n = 0 ∨ r < n) → ∀ hz, CX hz (f, n, o, A, D) 0 c (upF (upF tS 0 (nI 0)) 1 (nI 1)) (upF (upF qS 0 n) 1 12) → OwB hz (f, n, o, A, D) → LBk hz (f, n, o, A, D) → (∀ j, j < n → hL hz 102 j = lN ((j + r) % n)) → Ev X (mL nm) 40 400000 4000000 QL cells slots 120 [(0, some (vR (some 6))), (1, some (vR (some 32))), (2, some (vR (some 109))), (3, some (vI (nI n))), (5, some (vI (nI 0)))] [] hz := by
    intro r hr hz cz oz lz sz
    refine kk hz (upF (upF tS 0 (nI 0)) 1 (nI 1)) (upF (upF qS 0 n) 1 12) (fun j => (j + r) % n) ⟨⟨cz.z, lz, sz⟩, oz⟩ ⟨ok, hf2, hn9, t0, q0, t1, q1, fun i hi => Nat.mod_lt _ (by omega), fun i j hi hj e => turn_j (by omega) hi hj e, fun k hk => turn_s (by omega) hk⟩
  have wr : ∀ (r : Nat), (n = 0 ∨ r < n) → ∀ (mk k : Nat) (hz : HP), k + mk = n → CX hz (f, n, o, A, D) 0 c (upF (upF tS 0 (nI 0)) 1 (nI 1)) (upF (upF qS 0 n) 1 12) → OwB hz (f, n, o, A, D) → LBk hz (f, n, o, A, D) → (∀ j, j < k → hL hz 102 j = lN ((j + r) % n)) → Ev X (mL nm) 40 400000 4000000 QL cells slots 84 [(0, some (vR (some 6))), (1, some (vR (some 32))), (2, some (vR (some 109))), (3, some (vI (nI n))), (4, some (vI (nI r))), (5, some (vI (nI k)))] [] hz := by
    intro r hr mk
    induction mk with
    | zero =>
      intro k hz hk cz oz lz sz
      have F := cz.1
      refine e_iload aL_law_84 rfl ?_
      refine e_iload_n aL_law_86 rfl ?_
      refine e_icmp_ge aL_law_87 (fun c87 => ?_) (fun c87 => ?_)
      · -- 87: taken
        refine e_iconst (v := 0) aL_law_117 (by decide) ?_
        refine e_istore aL_law_118 (Nat.le_of_ble_eq_true rfl) ?_
        refine e_ls (ls' := [(0, some (vR (some 6))), (1, some (vR (some 32))), (2, some (vR (some 109))), (3, some (vI (nI n))), (5, some (vI (nI 0)))]) ⟨rfl, rfl, rfl, rfl, rfl, trivial⟩ ?_
        exact fin9 r hr hz cz oz lz (fun j hj => sz j (by omega))
      · -- 87: not taken
        exact absurd (nI_le (a := n) (b := k) (by omega) (by omega)) c87
    | succ mk ih =>
      intro k hz hk cz oz lz sz
      have F := cz.1
      have hml : (k + r) % n < n := Nat.mod_lt _ (by omega)
      refine e_iload aL_law_84 rfl ?_
      refine e_iload_n aL_law_86 rfl ?_
      refine e_icmp_ge aL_law_87 (fun c87 => ?_) (fun c87 => ?_)
      · -- 87: taken
        exact absurd c87 (nI_ge (by omega) (by omega))
      · -- 87: not taken
        refine e_aload_n aL_law_90 rfl ?_
        refine e_iconst (v := 0) aL_law_91 (by decide) ?_
        refine e_iload aL_law_92 rfl ?_
        refine e_iload aL_law_94 rfl ?_
        refine e_iload aL_law_96 rfl ?_
        refine e_iadd aL_law_98 ?_
        refine e_top (nI_add k r) ?_
        refine e_iload_n aL_law_99 rfl ?_
        refine e_irem aL_law_100 (show ¬ nI n = 0 from fun z => absurd ((nI_eq (b := 0) (by omega) (by decide)).mp z) (by omega)) ?_
        refine e_top (nI_rem (by omega) (by omega) (by omega)) ?_
        refine e_i2l aL_law_101 ?_
        refine e_topL (v := lN ((k + r) % n)) (nI_l (by omega)) ?_
        refine e_invv aL_law_102 kL_125 (s_write X cz oz t0 (by rw [q0]; omega) (by omega)) rfl rfl (fx_is F rfl) (Nat.le_of_ble_eq_true rfl) (Nat.le_of_ble_eq_true rfl) (by omega) (by omega) (Nat.le_of_ble_eq_true rfl) ?_
        rintro v9 h3 ⟨rfl, cx3, ow3, cf3, e3, e4⟩
        have F := cx3.1
        refine e_iconst (v := 1) aL_law_105 (by decide) ?_
        refine e_icmp_eq aL_law_106 (fun c106 => ?_) (fun c106 => ?_)
        · -- 106: taken
          skip
          refine e_iinc aL_law_111 rfl rfl (Nat.le_of_ble_eq_true rfl) ?_
          refine e_goto aL_law_114 ?_
          refine e_ls (ls' := [(0, some (vR (some 6))), (1, some (vR (some 32))), (2, some (vR (some 109))), (3, some (vI (nI n))), (4, some (vI (nI r))), (5, some (vI (nI (k + 1))))]) ⟨rfl, rfl, rfl, rfl, rfl, congrArg (fun x => some (vI x)) (nI_1 k), trivial⟩ ?_
          refine ih (k + 1) h3 (by omega) cx3 ow3 (lz.cf cf3) (fun j hj => ?_)
          by_cases y : j = k
          · rw [y]; exact e3
          · exact (e4 j y).trans (sz j (by omega))
        · -- 106: not taken
          exact absurd rfl c106
  refine e_aload_n aL_law_30 rfl ?_
  refine e_getINF aL_law_31 fL_43 rfl (fx_is F rfl) lt.1 ?_
  refine e_istore_n aL_law_34 (Nat.le_of_ble_eq_true rfl) ?_
  refine e_aload_n aL_law_35 rfl ?_
  refine e_iconst (v := 0) aL_law_36 (by decide) ?_
  refine e_iconst (v := 0) aL_law_37 (by decide) ?_
  refine e_iload_n aL_law_38 rfl ?_
  refine e_invv aL_law_39 kL_122 (s_sheet X cx0 ow0 (s := 0) (t := 0) (n := n) (by decide) (by decide) (by omega)) rfl rfl (fx_is F rfl) (Nat.le_of_ble_eq_true rfl) (Nat.le_of_ble_eq_true rfl) (by omega) (by omega) (Nat.le_of_ble_eq_true rfl) ?_
  rintro v9 h2 ⟨rfl, cx1, ow1, cf1⟩
  have F := cx1.1
  refine e_iload_n aL_law_42 rfl ?_
  refine e_icmp_ne aL_law_43 (fun c43 => ?_) (fun c43 => ?_)
  · -- 43: taken
    exact absurd rfl c43
  · -- 43: not taken
    skip
    refine e_aload_n aL_law_46 rfl ?_
    refine e_iconst (v := 1) aL_law_47 (by decide) ?_
    refine e_iconst (v := 1) aL_law_48 (by decide) ?_
    refine e_bipush (v := 12) aL_law_49 (by decide) ?_
    refine e_invv aL_law_51 kL_122 (s_sheet X cx1 ow1 (s := 1) (t := 1) (n := 12) (by decide) (by decide) (by decide)) rfl rfl (fx_is F rfl) (Nat.le_of_ble_eq_true rfl) (Nat.le_of_ble_eq_true rfl) (by omega) (by omega) (Nat.le_of_ble_eq_true rfl) ?_
    rintro v9 h3 ⟨rfl, cx2, ow2, cf2⟩
    have F := cx2.1
    refine e_bipush (v := 12) aL_law_54 (by decide) ?_
    refine e_icmp_eq aL_law_56 (fun c56 => ?_) (fun c56 => ?_)
    · -- 56: taken
      skip
      refine e_iload_n aL_law_61 rfl ?_
      refine e_if_ne aL_law_62 (fun c62 => ?_) (fun c62 => ?_)
      · -- 62: taken
        have q62 : 0 < n := by
          rcases Nat.eq_zero_or_pos n with z | z
          · rw [z] at c62; exact absurd rfl c62
          · exact z
        refine e_aload_n aL_law_69 rfl ?_
        refine e_bipush (v := 10) aL_law_70 (by decide) ?_
        refine e_invsT aL_law_72 kL_71 (zL_at X (k := 10) hx31 (by decide)) rfl rfl (Nat.le_of_ble_eq_true rfl) (Nat.le_of_ble_eq_true rfl) (by omega) (by omega) (Nat.le_of_ble_eq_true rfl) ?_
        refine e_iload_n aL_law_75 rfl ?_
        refine e_invs aL_law_76 kL_18 (zL_mod X (m := n) q62 (by omega)) rfl rfl (Nat.le_of_ble_eq_true rfl) (Nat.le_of_ble_eq_true rfl) (by omega) (by omega) (Nat.le_of_ble_eq_true rfl) ?_
        rintro v0 h9 ⟨r, hr, rfl, e9⟩
        obtain rfl := e9.symm
        refine e_istore aL_law_79 (Nat.le_of_ble_eq_true rfl) ?_
        refine e_iconst (v := 0) aL_law_81 (by decide) ?_
        refine e_istore aL_law_82 (Nat.le_of_ble_eq_true rfl) ?_
        refine e_ls (ls' := [(0, some (vR (some 6))), (1, some (vR (some 32))), (2, some (vR (some 109))), (3, some (vI (nI n))), (4, some (vI (nI r))), (5, some (vI (nI 0)))]) ⟨rfl, rfl, rfl, rfl, rfl, rfl, trivial⟩ ?_
        exact wr r (Or.inr hr) n 0 h3 (by omega) cx2 ow2 (lb.cf (cf1.tr cf2)) (fun j hj => absurd hj (Nat.not_lt_zero j))
      · -- 62: not taken
        have q62 : n = 0 := (nI_eq (b := 0) (by omega) (by decide)).mp c62
        refine e_iconst (v := 0) aL_law_65 (by decide) ?_
        refine e_goto aL_law_66 ?_
        refine e_istore aL_law_79 (Nat.le_of_ble_eq_true rfl) ?_
        refine e_iconst (v := 0) aL_law_81 (by decide) ?_
        refine e_istore aL_law_82 (Nat.le_of_ble_eq_true rfl) ?_
        refine e_ls (ls' := [(0, some (vR (some 6))), (1, some (vR (some 32))), (2, some (vR (some 109))), (3, some (vI (nI n))), (4, some (vI (nI 0))), (5, some (vI (nI 0)))]) ⟨rfl, rfl, rfl, rfl, rfl, rfl, trivial⟩ ?_
        exact wr 0 (Or.inl q62) n 0 h3 (by omega) cx2 ow2 (lb.cf (cf1.tr cf2)) (fun j hj => absurd hj (Nat.not_lt_zero j))
    · -- 56: not taken
      exact absurd rfl c56
theorem law_rest {X : EX} {nm : String} {cells slots f n m : Nat} {o A : Nat → Nat} {D : Nat → DD} {c : BQ} {tS : Nat → Int32} {qS : Nat → Nat} {h : HP} (hx31 : xN X < 2 ^ 31) (J : JM h f n m o A D c tS qS) (hf2 : f ≤ 2) (hn9 : n ≤ 9) (hc0 : cells + 50 ≤ 400000) (hs0 : slots + 400 ≤ 4000000) : Ev X (mL nm) 40 400000 4000000 QL cells slots 30 [(0, some (vR (some 6))), (1, some (vR (some 32))), (2, some (vR (some 109)))] [] h := by
  refine law_set hx31 J hf2 hn9 (by omega) (by omega) (fun h2 tS qS σ W P => ?_)
  refine law_stands hx31 W P (by omega) (by omega) (fun h3 W3 => ?_)
  refine law_value W3 (by omega) (by omega) (fun hz z W4 q za hz0 => ?_)
  refine law_sure W3 hz0 (by omega) (by omega) (fun h5 W5 q5 za5 => ?_) hz q za
  refine law_best hx31 W5 (by omega) (by omega) (fun c hc => ?_)
  refine law_hope W5 hf2 hc za5 (by omega) (by omega) (fun h6 r r6 r9 W6 za6 => ?_)
  refine law_down W6 hf2 hc r6 r9 za6 (by omega) (by omega) (fun h7 W7 za7 => ?_)
  refine law_up (z := z) W7 hf2 hc r6 r9 (by omega) (by omega) (fun h8 W8 => ?_)
  exact law_end W8 hc (by omega) (by omega) (by omega)
theorem law_top (X : EX) {nm : String} (hx31 : xN X < 2 ^ 31) : Ev X (mL nm) 40 400000 4000000 QL 0 0 0 (arL 0 [vR (some 6)]) [] HH0 := by
  have ez : hZ (c9H h1H) = 109 := (c8_P pz1).1
  refine e_new aL_law_0 nL_23 (by decide) (by decide) ?_
  show Ev X (mL nm) 40 400000 4000000 QL (0 + 1) (0 + nF 8) 3 (arL 0 [vR (some 6)]) [vR (some 32)] h1H
  refine e_dup aL_law_3 rfl ?_
  refine e_invi aL_law_4 kL_116 (zX8_init X pz1) rfl rfl (Nat.le_of_ble_eq_true rfl) (Nat.le_of_ble_eq_true rfl) (Nat.le_of_ble_eq_true rfl) (Nat.le_of_ble_eq_true rfl) (Nat.le_of_ble_eq_true rfl) ?_
  rintro v h2 ⟨rfl, rfl⟩
  refine e_astore_n aL_law_7 (Nat.le_of_ble_eq_true rfl) ?_
  refine e_new aL_law_8 nL_29 (Nat.le_of_ble_eq_true rfl) (Nat.le_of_ble_eq_true rfl) ?_
  refine e_topR (congrArg some ez) ?_
  rw [nwk_e ez]
  refine e_dup aL_law_11 rfl ?_
  refine e_inviN aL_law_12 kL_117 (zX9_init X pz2) rfl rfl (Nat.le_of_ble_eq_true rfl) (Nat.le_of_ble_eq_true rfl) (Nat.le_of_ble_eq_true rfl) (Nat.le_of_ble_eq_true rfl) (Nat.le_of_ble_eq_true rfl) ?_
  rintro v h2 ⟨rfl, rfl⟩
  refine e_astore_n aL_law_15 (Nat.le_of_ble_eq_true rfl) ?_
  refine e_aload_n aL_law_16 rfl ?_
  refine e_aload_n aL_law_17 rfl ?_
  refine e_aload_n aL_law_18 rfl ?_
  refine e_iconst (v := 2) aL_law_19 (by decide) ?_
  refine e_bipush (v := 9) aL_law_20 (by decide) ?_
  refine e_invs aL_law_22 kL_118 (zL_made X hx31 jm0) rfl rfl (Nat.le_of_ble_eq_true rfl) (Nat.le_of_ble_eq_true rfl) (Nat.le_of_ble_eq_true rfl) (Nat.le_of_ble_eq_true rfl) (Nat.le_of_ble_eq_true rfl) ?_
  rintro v9 h2 ⟨rfl, f, n, m, o, A, D, hf2, hn9, J⟩
  refine e_if_ne aL_law_25 (fun c25 => ?_) (fun c25 => ?_)
  · -- 25: taken
    skip
    refine e_ls (ls' := [(0, some (vR (some 6))), (1, some (vR (some 32))), (2, some (vR (some 109)))]) ⟨rfl, rfl, rfl, trivial⟩ ?_
    exact law_rest hx31 J hf2 hn9 (Nat.le_of_ble_eq_true rfl) (Nat.le_of_ble_eq_true rfl)
  · -- 25: not taken
    exact absurd c25 (by decide)
