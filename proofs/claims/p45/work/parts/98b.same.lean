/-! the law: the class tells what its Book holds (written by wip/p45/g98b.py) -/
/-- findings only, more than once -/
def FK (h h2 : HP) : Prop := Kc (fun a i => a = 76) (fun a _ => a = 0 ∧ False) (fun a => a = 0 ∧ False) h h2
theorem FK.J {h h2 : HP} {b c : BQ} {g : Nat} {tS : Nat → Int32} {qS σ : Nat → Nat} (K : FK h h2) (J : JJ h b g c tS qS σ) : JJ h2 b g c tS qS σ := ⟨J.1.k K (fun a j _ z => Or.inr z) (fun a j _ z => z.2), J.2.1.cf (CF.k K (by intros; (try dsimp only); omega) (fun a j _ z => z.2)), J.2.2.cl (CL.k K (fun z => z.2))⟩
theorem FK.o {h h2 : HP} {b : BQ} (K : FK h h2) (q : OwB h b) : OwB h2 b := q.k K (by intros; (try dsimp only); omega)
theorem FK.cx {h h2 : HP} {b c : BQ} {g : Nat} {tS : Nat → Int32} {qS : Nat → Nat} (K : FK h h2) (q : CX h b g c tS qS) : CX h2 b g c tS qS := q.k K (fun a j _ z => Or.inr z) (fun a j _ z => z.2)
theorem FK.cf {h h2 : HP} (K : FK h h2) : CF h h2 := CF.k K (by intros; (try dsimp only); omega) (fun a j _ z => z.2)
theorem FaC.v {h : HP} {a x y : Nat} {d : DD} (q : FaC h a d) {i : Nat} (hi : i < 6) : hI h a i = ofV d x y i := by
  obtain ⟨k0, kf, kn, w, hc, e0, e1, e2, e3, e4, e5⟩ := q
  rcases (show i = 0 ∨ i = 1 ∨ i = 2 ∨ i = 3 ∨ i = 4 ∨ i = 5 by omega) with rfl | rfl | rfl | rfl | rfl | rfl
  · exact e0
  · exact e1
  · exact e2
  · exact e3
  · exact e4
  · exact e5
theorem zL_same (X : EX) {h : HP} {f n g : Nat} {o A : Nat → Nat} {D : Nat → DD} {c9 : BQ} {tS : Nat → Int32} {qS : Nat → Nat} (cx : CX h (f, n, o, A, D) g c9 tS qS) (lb : LBk h (f, n, o, A, D)) : Ct X mL_same 4 0 0 [vR (some 32), vR (some 109)] h (fun v h2 => v = some (vI 1) ∧ FK h h2) := by
  refine ct_of rfl (Nat.le_of_ble_eq_true rfl) ?_
  obtain ⟨m, e1, e2, fa, τ, E, ll, lt, ly⟩ := lb
  have ll : LL h m e1 e2 fa E := ll
  have lt : LT h m n τ E D := lt
  have ly : LY h f o := ly
  have F := cx.1
  have hn12 := lt.2.1
  have hf4 := ly.2.1
  have fal : ∀ (mk y : Nat) (hz : HP), y + mk = 4 → CX hz (f, n, o, A, D) g c9 tS qS → LY hz f o → FK h hz → Ev X mL_same 4 0 0 (fun v h2 => v = some (vI 1) ∧ FK h h2) 0 0 138 [(0, some (vR (some 32))), (1, some (vR (some 109))), (2, some (vI (nI y)))] [] hz := by
    intro mk
    induction mk with
    | zero =>
      intro y hz hy cz lz K0
      refine e_iload_n aL_same_138 rfl ?_
      refine e_iconst (v := 4) aL_same_139 (by decide) ?_
      refine e_icmp_ge aL_same_140 (fun c140 => ?_) (fun c140 => ?_)
      · -- 140: taken
        refine e_iconst (v := 1) aL_same_178 (by decide) ?_
        refine e_zreturn aL_same_179 rfl (Or.inr rfl) (Nat.le_refl _) (Nat.le_refl _) ?_
        exact ⟨rfl, K0⟩
      · -- 140: not taken
        exact absurd (nI_le (a := 4) (b := y) (by omega) (by omega)) c140
    | succ mk ih =>
      intro y hz hy cz lz K0
      have F := cz.1
      refine e_iload_n aL_same_138 rfl ?_
      refine e_iconst (v := 4) aL_same_139 (by decide) ?_
      refine e_icmp_ge aL_same_140 (fun c140 => ?_) (fun c140 => ?_)
      · -- 140: taken
        exact absurd c140 (nI_ge (b := 4) (by omega) (by omega))
      · -- 140: not taken
        refine e_aload_n aL_same_143 rfl ?_
        refine e_iload_n aL_same_144 rfl ?_
        refine e_invv aL_same_145 kL_114 (a_fallen cz (y := y) (by omega)) rfl rfl (fx_is F rfl) (Nat.le_of_ble_eq_true rfl) (Nat.le_of_ble_eq_true rfl) (Nat.le_refl _) (Nat.le_refl _) (Nat.le_of_ble_eq_true rfl) ?_
        rintro v h2 ⟨rfl, fn⟩
        have K1 : FK hz h2 := fn.k F
        have F := K1.2.1
        have ly2 := lz.cf K1.cf
        refine e_iload_n aL_same_148 rfl ?_
        refine e_aload_n aL_same_149 rfl ?_
        refine e_getINF aL_same_150 fL_40 rfl (fx_is F rfl) ly2.1 ?_
        refine e_icmp_ge aL_same_153 (fun c153 => ?_) (fun c153 => ?_)
        · -- 153: taken
          have q153 : f ≤ y := (nI_leI (by omega) (by omega)).mp c153
          refine e_ldc aL_same_165 lL_50 ?_
          refine e_icmp_eq aL_same_167 (fun c167 => ?_) (fun c167 => ?_)
          · -- 167: taken
            skip
            refine e_iinc aL_same_172 rfl rfl (Nat.le_of_ble_eq_true rfl) ?_
            refine e_goto aL_same_175 ?_
            refine e_ls (ls' := [(0, some (vR (some 32))), (1, some (vR (some 109))), (2, some (vI (nI (y + 1))))]) ⟨rfl, rfl, congrArg (fun x => some (vI x)) (nI_1 y), trivial⟩ ?_
            exact ih (y + 1) _ (by omega) (K1.cx cz) ly2 (K0.tr K1)
          · -- 167: not taken
            exact absurd (if_neg (by omega)) c167
        · -- 153: not taken
          have q153 : y < f := (nI_ltI (by omega) (by omega)).mp (Int32.not_le.mp c153)
          refine e_aload_n aL_same_156 rfl ?_
          refine e_getRNF aL_same_157 fL_64 rfl (fx_is F rfl) (fx_r (b := 113) F rfl) ?_
          refine e_iload_n aL_same_160 rfl ?_
          refine e_ialoadF aL_same_161 (fx_is F rfl) (fx_n (n := 4) F rfl) (vin (N := 4) (by omega)) (show hI _ 113 (nI y).toNatClampNeg = nI (o y) by rw [cl (by omega)]; exact ly2.2.2.1 y q153) ?_
          refine e_goto aL_same_162 ?_
          refine e_icmp_eq aL_same_167 (fun c167 => ?_) (fun c167 => ?_)
          · -- 167: taken
            skip
            refine e_iinc aL_same_172 rfl rfl (Nat.le_of_ble_eq_true rfl) ?_
            refine e_goto aL_same_175 ?_
            refine e_ls (ls' := [(0, some (vR (some 32))), (1, some (vR (some 109))), (2, some (vI (nI (y + 1))))]) ⟨rfl, rfl, congrArg (fun x => some (vI x)) (nI_1 y), trivial⟩ ?_
            exact ih (y + 1) _ (by omega) (K1.cx cz) ly2 (K0.tr K1)
          · -- 167: not taken
            exact absurd (if_pos q153) c167
  have dl : ∀ (mk k : Nat), k + mk = n → Ev X mL_same 4 0 0 (fun v h2 => v = some (vI 1) ∧ FK h h2) 0 0 40 [(0, some (vR (some 32))), (1, some (vR (some 109))), (2, some (vI (nI k)))] [] h := by
    intro mk
    induction mk with
    | zero =>
      intro k hk
      refine e_iload_n aL_same_40 rfl ?_
      refine e_aload_n aL_same_41 rfl ?_
      refine e_getINF aL_same_42 fL_43 rfl (fx_is F rfl) lt.1 ?_
      refine e_icmp_ge aL_same_45 (fun c45 => ?_) (fun c45 => ?_)
      · -- 45: taken
        refine e_iconst (v := 0) aL_same_136 (by decide) ?_
        refine e_istore_n aL_same_137 (Nat.le_of_ble_eq_true rfl) ?_
        refine e_ls (ls' := [(0, some (vR (some 32))), (1, some (vR (some 109))), (2, some (vI (nI 0)))]) ⟨rfl, rfl, rfl, trivial⟩ ?_
        exact fal 4 0 h rfl cx ly (Kc.rf F)
      · -- 45: not taken
        exact absurd (nI_le (a := n) (b := k) (by omega) (by omega)) c45
    | succ mk ih =>
      intro k hk0
      have hk : k < n := by omega
      have kd : FaC h (fa (τ k)) (D k) := by rw [(lt.2.2 k hk).2.2]; exact ll.2.2.2 _ (lt.2.2 k hk).2.1
      obtain ⟨j0, gf, gn, gw, gcf, -⟩ := id kd
      have e6 : ofV (D k) (fo o f) (om f) 6 = 0 := b2_f (by rw [gcf]; decide)
      have inn : ∀ (mi i : Nat), i + mi = 6 → Ev X mL_same 4 0 0 (fun v h2 => v = some (vI 1) ∧ FK h h2) 0 0 68 [(0, some (vR (some 32))), (1, some (vR (some 109))), (2, some (vI (nI k))), (3, some (vR (some (fa (τ k))))), (4, some (vI (nI i)))] [] h := by
        intro mi
        induction mi with
        | zero =>
          intro i hi
          refine e_iload aL_same_68 rfl ?_
          refine e_bipush (v := 6) aL_same_70 (by decide) ?_
          refine e_icmp_ge aL_same_72 (fun c72 => ?_) (fun c72 => ?_)
          · -- 72: taken
            refine e_aload_n aL_same_97 rfl ?_
            refine e_iload_n aL_same_98 rfl ?_
            refine e_bipush (v := 6) aL_same_99 (by decide) ?_
            refine e_invvT aL_same_101 kL_108 (a_of cx (k := k) (i := 6) hk (by decide)) rfl rfl (fx_is F rfl) (Nat.le_of_ble_eq_true rfl) (Nat.le_of_ble_eq_true rfl) (Nat.le_refl _) (Nat.le_refl _) (Nat.le_of_ble_eq_true rfl) ?_
            refine e_top (v := 0) e6 ?_
            refine e_aload_n aL_same_104 rfl ?_
            refine e_getRNF aL_same_105 fL_111 rfl (fx_is F rfl) (fx_r (b := 111) F rfl) ?_
            refine e_aload_n aL_same_108 rfl ?_
            refine e_getRNF aL_same_109 fL_87 rfl (fx_is F rfl) (fx_r (b := 112) F rfl) ?_
            refine e_iload_n aL_same_112 rfl ?_
            refine e_ialoadF aL_same_113 (fx_is F rfl) (fx_n (n := 13) F rfl) (vin (N := 13) (by omega)) (show hI _ 112 (nI k).toNatClampNeg = nI (τ k) by rw [cl (by omega)]; exact (lt.2.2 k hk).1) ?_
            refine e_invvT aL_same_114 kL_90 (zJx4a65c_get_915e3 X (fx_is F rfl) ll.2.1 (lt.2.2 k hk).2.1) rfl rfl (fx_is F rfl) (Nat.le_of_ble_eq_true rfl) (Nat.le_of_ble_eq_true rfl) (Nat.le_refl _) (Nat.le_refl _) (Nat.le_of_ble_eq_true rfl) ?_
            refine e_topR (v := none) rfl ?_
            refine e_ifnonnull aL_same_117 (fun r117 c117 => ?_) (fun c117 => ?_)
            · -- 117: taken
              exact absurd c117 (by simp)
            · -- 117: not taken
              skip
              refine e_iconst (v := 0) aL_same_120 (by decide) ?_
              refine e_goto aL_same_121 ?_
              refine e_icmp_eq aL_same_125 (fun c125 => ?_) (fun c125 => ?_)
              · -- 125: taken
                skip
                refine e_iinc aL_same_130 rfl rfl (Nat.le_of_ble_eq_true rfl) ?_
                refine e_goto aL_same_133 ?_
                refine e_ls (ls' := [(0, some (vR (some 32))), (1, some (vR (some 109))), (2, some (vI (nI (k + 1))))]) ⟨rfl, rfl, congrArg (fun x => some (vI x)) (nI_1 k), trivial⟩ ?_
                exact ih (k + 1) (by omega)
              · -- 125: not taken
                exact absurd rfl c125
          · -- 72: not taken
            exact absurd (nI_le (a := 6) (b := i) (by omega) (by omega)) c72
        | succ mi inn =>
          intro i hi
          refine e_iload aL_same_68 rfl ?_
          refine e_bipush (v := 6) aL_same_70 (by decide) ?_
          refine e_icmp_ge aL_same_72 (fun c72 => ?_) (fun c72 => ?_)
          · -- 72: taken
            exact absurd c72 (nI_ge (b := 6) (by omega) (by omega))
          · -- 72: not taken
            refine e_aload_n aL_same_75 rfl ?_
            refine e_iload_n aL_same_76 rfl ?_
            refine e_iload aL_same_77 rfl ?_
            refine e_invvT aL_same_79 kL_108 (a_of cx (k := k) (i := i) hk (by omega)) rfl rfl (fx_is F rfl) (Nat.le_of_ble_eq_true rfl) (Nat.le_of_ble_eq_true rfl) (Nat.le_refl _) (Nat.le_refl _) (Nat.le_of_ble_eq_true rfl) ?_
            refine e_aload_n aL_same_82 rfl ?_
            refine e_iload aL_same_83 rfl ?_
            refine e_ialoadF aL_same_85 gf gn (vin (N := 6) (by omega)) (show hI _ (fa (τ k)) (nI i).toNatClampNeg = ofV (D k) (fo o f) (om f) i by rw [cl (by omega)]; exact kd.v (by omega)) ?_
            refine e_icmp_eq aL_same_86 (fun c86 => ?_) (fun c86 => ?_)
            · -- 86: taken
              skip
              refine e_iinc aL_same_91 rfl rfl (Nat.le_of_ble_eq_true rfl) ?_
              refine e_goto aL_same_94 ?_
              refine e_ls (ls' := [(0, some (vR (some 32))), (1, some (vR (some 109))), (2, some (vI (nI k))), (3, some (vR (some (fa (τ k))))), (4, some (vI (nI (i + 1))))]) ⟨rfl, rfl, rfl, rfl, congrArg (fun x => some (vI x)) (nI_1 i), trivial⟩ ?_
              exact inn (i + 1) (by omega)
            · -- 86: not taken
              exact absurd rfl c86
      refine e_iload_n aL_same_40 rfl ?_
      refine e_aload_n aL_same_41 rfl ?_
      refine e_getINF aL_same_42 fL_43 rfl (fx_is F rfl) lt.1 ?_
      refine e_icmp_ge aL_same_45 (fun c45 => ?_) (fun c45 => ?_)
      · -- 45: taken
        exact absurd c45 (nI_ge (by omega) (by omega))
      · -- 45: not taken
        refine e_aload_n aL_same_48 rfl ?_
        refine e_getRNF aL_same_49 fL_83 rfl (fx_is F rfl) (fx_r (b := 110) F rfl) ?_
        refine e_aload_n aL_same_52 rfl ?_
        refine e_getRNF aL_same_53 fL_87 rfl (fx_is F rfl) (fx_r (b := 112) F rfl) ?_
        refine e_iload_n aL_same_56 rfl ?_
        refine e_ialoadF aL_same_57 (fx_is F rfl) (fx_n (n := 13) F rfl) (vin (N := 13) (by omega)) (show hI _ 112 (nI k).toNatClampNeg = nI (τ k) by rw [cl (by omega)]; exact (lt.2.2 k hk).1) ?_
        refine e_invvT aL_same_58 kL_90 (zJx4a65c_get_915e3 X (fx_is F rfl) ll.1 (lt.2.2 k hk).2.1) rfl rfl (fx_is F rfl) (Nat.le_of_ble_eq_true rfl) (Nat.le_of_ble_eq_true rfl) (Nat.le_refl _) (Nat.le_refl _) (Nat.le_of_ble_eq_true rfl) ?_
        refine e_topR (v := some (fa (τ k))) rfl ?_
        refine e_castA aL_same_61 cL_96 gf ?_
        refine e_astore_n aL_same_64 (Nat.le_of_ble_eq_true rfl) ?_
        refine e_iconst (v := 0) aL_same_65 (by decide) ?_
        refine e_istore aL_same_66 (Nat.le_of_ble_eq_true rfl) ?_
        refine e_ls (ls' := [(0, some (vR (some 32))), (1, some (vR (some 109))), (2, some (vI (nI k))), (3, some (vR (some (fa (τ k))))), (4, some (vI (nI 0)))]) ⟨rfl, rfl, rfl, rfl, rfl, trivial⟩ ?_
        exact inn 6 0 rfl
  refine e_aload_n aL_same_0 rfl ?_
  refine e_iconst (v := 0) aL_same_1 (by decide) ?_
  refine e_invvT aL_same_2 kL_101 (a_count cx (i := 0) (by decide)) rfl rfl (fx_is F rfl) (Nat.le_of_ble_eq_true rfl) (Nat.le_of_ble_eq_true rfl) (Nat.le_refl _) (Nat.le_refl _) (Nat.le_of_ble_eq_true rfl) ?_
  refine e_top (v := nI n) rfl ?_
  refine e_aload_n aL_same_5 rfl ?_
  refine e_getINF aL_same_6 fL_43 rfl (fx_is F rfl) lt.1 ?_
  refine e_icmp_ne aL_same_9 (fun c9 => ?_) (fun c9 => ?_)
  · -- 9: taken
    exact absurd rfl c9
  · -- 9: not taken
    skip
    refine e_aload_n aL_same_12 rfl ?_
    refine e_iconst (v := 1) aL_same_13 (by decide) ?_
    refine e_invvT aL_same_14 kL_101 (a_count cx (i := 1) (by decide)) rfl rfl (fx_is F rfl) (Nat.le_of_ble_eq_true rfl) (Nat.le_of_ble_eq_true rfl) (Nat.le_refl _) (Nat.le_refl _) (Nat.le_of_ble_eq_true rfl) ?_
    refine e_top (v := nI f) rfl ?_
    refine e_aload_n aL_same_17 rfl ?_
    refine e_getINF aL_same_18 fL_40 rfl (fx_is F rfl) ly.1 ?_
    refine e_icmp_ne aL_same_21 (fun c21 => ?_) (fun c21 => ?_)
    · -- 21: taken
      exact absurd rfl c21
    · -- 21: not taken
      skip
      refine e_aload_n aL_same_24 rfl ?_
      refine e_iconst (v := 2) aL_same_25 (by decide) ?_
      refine e_invvT aL_same_26 kL_101 (a_count cx (i := 2) (by decide)) rfl rfl (fx_is F rfl) (Nat.le_of_ble_eq_true rfl) (Nat.le_of_ble_eq_true rfl) (Nat.le_refl _) (Nat.le_refl _) (Nat.le_of_ble_eq_true rfl) ?_
      refine e_top (v := nI (om f)) rfl ?_
      refine e_aload_n aL_same_29 rfl ?_
      refine e_invvT aL_same_30 kL_104 (zX9_size X F ly) rfl rfl (fx_is F rfl) (Nat.le_of_ble_eq_true rfl) (Nat.le_of_ble_eq_true rfl) (Nat.le_refl _) (Nat.le_refl _) (Nat.le_of_ble_eq_true rfl) ?_
      refine e_icmp_eq aL_same_33 (fun c33 => ?_) (fun c33 => ?_)
      · -- 33: taken
        skip
        refine e_iconst (v := 0) aL_same_38 (by decide) ?_
        refine e_istore_n aL_same_39 (Nat.le_of_ble_eq_true rfl) ?_
        refine e_ls (ls' := [(0, some (vR (some 32))), (1, some (vR (some 109))), (2, some (vI (nI 0)))]) ⟨rfl, rfl, rfl, trivial⟩ ?_
        exact dl n 0 (by omega)
      · -- 33: not taken
        exact absurd rfl c33
