/-! Reader.readAny, one depth (written by wip/whole/g48.py) -/
theorem zany (X : EX) {h : HP} (F : Fx h) {l n c : Nat} {V : Nat → Prop} {A B : Nat → Nat} {D E : Nat → DD} (t : TpL h l) (k0 : RdP h V n A D c B E) {k : Nat} (hk : k ≤ 6) (hVs : ∀ x, 45 ≤ x → x ≤ 72 → V x) (k1 : C1 X h l V n D c E k) : C2 X h l V n D c E k := by
  intro L p sb wb hw z kS hv hwb
  refine ct_of rfl (Nat.le_of_ble_eq_true rfl) ?_
  have hWV : ∀ x, (70 - 4 * k ≤ x ∧ x ≤ 72) → V x := fun x y => hVs x (by omega) y.2
  have tail0 : ∀ (i : Nat) (L1 : Nat → Nat → Int64) (p1 : PT) (g : Nat → Bool), (∀ x, x ≠ wb → ¬ (70 - 4 * k ≤ x ∧ x ≤ 72) → L1 x = L x) → (∀ u, u < 1296 → bts (L1 wb) u = g u) → (anyF (oneF (hI h 42) l D n E c k) (hI h 42) l p) = (true, p1, g) → Ev X mX3_readAny (8 + 2 * k) 0 0 (rdQ h L wb (fun x => 70 - 4 * k ≤ x ∧ x ≤ 72) (anyF (oneF (hI h 42) l D n E c k) (hI h 42) l p)) 0 0 40 [(0, some (vR (some 40))), (1, some (vR (some 33))), (2, some (vR (some sb))), (3, some (vI (nI (6 - k)))), (4, some (vR (some (45 + 2 * (2 * (6 - k)))))), (5, some (vR (some (45 + 2 * (2 * (6 - k) + 1))))), (6, some (vI 0)), (7, some (vI (nI i)))] [] (tH (lsH h L1) p1) := by
    intro i L1 p1 g hF hS hR9
    refine e_iload aX3_readAny_40 rfl ?_
    refine e_bipush (v := 120) aX3_readAny_42 (by decide) ?_
    refine e_icmp_ge aX3_readAny_44 (fun c44 => ?_) (fun c44 => ?_)
    · -- 44: taken
      refine e_iconst (v := 1) aX3_readAny_136 (by decide) ?_
      refine e_zreturn aX3_readAny_137 rfl (by decide) (Nat.le_refl _) (Nat.le_refl _) ?_
      rw [hR9]
      exact ⟨rfl, L1, rfl, hF, fun _ => hS⟩
    · -- 44: not taken
      refine e_iload aX3_readAny_47 rfl ?_
      refine e_if_eq aX3_readAny_49 (fun c49 => ?_) (fun c49 => absurd c49 (by decide))
      refine e_iconst (v := 1) aX3_readAny_136 (by decide) ?_
      refine e_zreturn aX3_readAny_137 rfl (by decide) (Nat.le_refl _) (Nat.le_refl _) ?_
      rw [hR9]
      exact ⟨rfl, L1, rfl, hF, fun _ => hS⟩
  have loopO : ∀ (m : Nat) (i : Nat) (L1 : Nat → Nat → Int64) (p1 : PT) (g : Nat → Bool), i + m = 120 → (∀ x, x ≠ wb → ¬ (70 - 4 * k ≤ x ∧ x ≤ 72) → L1 x = L x) → okp l p1 → (∀ u, u < 1296 → bts (L1 wb) u = g u) → orL (oneF (hI h 42) l D n E c k) (hI h 42) l m p1 g = (anyF (oneF (hI h 42) l D n E c k) (hI h 42) l p) → Ev X mX3_readAny (8 + 2 * k) 0 0 (rdQ h L wb (fun x => 70 - 4 * k ≤ x ∧ x ≤ 72) (anyF (oneF (hI h 42) l D n E c k) (hI h 42) l p)) 0 0 40 [(0, some (vR (some 40))), (1, some (vR (some 33))), (2, some (vR (some sb))), (3, some (vI (nI (6 - k)))), (4, some (vR (some (45 + 2 * (2 * (6 - k)))))), (5, some (vR (some (45 + 2 * (2 * (6 - k) + 1))))), (6, some (vI 1)), (7, some (vI (nI i)))] [] (tH (lsH h L1) p1) := by
    intro m
    induction m with
    | zero =>
      intro i L1 p1 g hi9 hF z1 hS hR9
      obtain rfl : i = 120 := by omega
      refine e_iload aX3_readAny_40 rfl ?_
      refine e_bipush (v := 120) aX3_readAny_42 (by decide) ?_
      refine e_icmp_ge aX3_readAny_44 (fun c44 => ?_) (fun c44 => ?_)
      · -- 44: taken
        refine e_iconst (v := 1) aX3_readAny_136 (by decide) ?_
        refine e_zreturn aX3_readAny_137 rfl (by decide) (Nat.le_refl _) (Nat.le_refl _) ?_
        rw [← hR9]
        exact ⟨rfl, L1, rfl, hF, fun _ => hS⟩
      · -- 44: not taken
        exact absurd (by decide) c44
    | succ m ih =>
      intro i L1 p1 g hi9 hF z1 hS hR9
      refine e_iload aX3_readAny_40 rfl ?_
      refine e_bipush (v := 120) aX3_readAny_42 (by decide) ?_
      refine e_icmp_ge aX3_readAny_44 (fun c44 => ?_) (fun c44 => ?_)
      · -- 44: taken
        exact absurd c44 (nI_ge (a := i) (b := 120) (by omega) (by decide))
      · -- 44: not taken
        refine e_iload aX3_readAny_47 rfl ?_
        refine e_if_eq aX3_readAny_49 (fun c49 => absurd c49 (by decide)) (fun c49 => ?_)
        refine e_aload_n aX3_readAny_52 rfl ?_
        refine e_aload_n aX3_readAny_53 rfl ?_
        refine e_aload aX3_readAny_54 rfl ?_
        refine e_iload_n aX3_readAny_56 rfl ?_
        refine e_invv aX3_readAny_57 kX3_103 (k1 L1 p1 (45 + 2 * (2 * (6 - k))) (46 + 2 * (2 * (6 - k))) (wk_q hw hv hWV hF) z1 (sp_S F (by omega)) (hVs _ (by omega) (by omega)) (by omega)) rfl rfl (fx_is F rfl) (Nat.le_of_ble_eq_true rfl) (by omega) (Nat.le_refl _) (Nat.le_refl _) (Nat.le_of_ble_eq_true rfl) ?_
        rintro v h2 ⟨rfl, L2, rfl, hL2, hs2⟩
        refine e_if_ne aX3_readAny_60 (fun c60 => ?_) (fun c60 => ?_)
        · -- 60: taken
          have q60 : ((oneF (hI h 42) l D n E c k) p1).1 = true := Decidable.of_not_not (fun y => c60 (b2_0.mpr y))
          have tail113 : ∀ (L3 : Nat → Nat → Int64) (p3 : PT) (g3 : Nat → Bool), (∀ x, x ≠ wb → ¬ (70 - 4 * k ≤ x ∧ x ≤ 72) → L3 x = L x) → L3 wb = L1 wb → okp l p3 → (∀ u, u < 1296 → bts (L3 (46 + 2 * (2 * (6 - k)))) u = g3 u) → (andL (oneF (hI h 42) l D n E c k) (hI h 42) l 120 ((oneF (hI h 42) l D n E c k) p1).2.1 ((oneF (hI h 42) l D n E c k) p1).2.2) = (true, p3, g3) → Ev X mX3_readAny (8 + 2 * k) 0 0 (rdQ h L wb (fun x => 70 - 4 * k ≤ x ∧ x ≤ 72) (anyF (oneF (hI h 42) l D n E c k) (hI h 42) l p)) 0 0 113 [(0, some (vR (some 40))), (1, some (vR (some 33))), (2, some (vR (some sb))), (3, some (vI (nI (6 - k)))), (4, some (vR (some (45 + 2 * (2 * (6 - k)))))), (5, some (vR (some (45 + 2 * (2 * (6 - k) + 1))))), (7, some (vI (nI i)))] [] (tH (lsH h L3) p3) := by
            intro L3 p3 g3 hF3 hw3 z3 hE hA
            refine e_aload_n aX3_readAny_113 rfl ?_
            refine e_aload aX3_readAny_114 rfl ?_
            refine e_invv aX3_readAny_116 kX3_112 (zX6_join X (h := (tH (lsH h L3) p3)) (sb := sb) (wb := wb) (sc := (45 + 2 * (2 * (6 - k)))) (wc := (46 + 2 * (2 * (6 - k)))) kS (sp_S F (by omega)) (by omega)) rfl rfl kS.1 (Nat.le_of_ble_eq_true rfl) (by omega) (Nat.le_refl _) (Nat.le_refl _) (Nat.le_of_ble_eq_true rfl) ?_
            rintro v h2 ⟨rfl, g6, rfl, hg⟩
            refine e_aload_n aX3_readAny_119 rfl ?_
            refine e_getRF aX3_readAny_120 fX3_12 rfl (fx_is F rfl) (fx_r (b := 41) F rfl) ?_
            refine e_ldcS (i := 16) aX3_readAny_123 rfl rfl rfl ?_
            refine e_invvT aX3_readAny_125 kX3_52 (ztkL X (L := (fun a i => if a = wb then g6 i else L3 a i)) F (l := l) (p := p3) t z3 (i := 16) (by decide)) rfl rfl (fx_is F rfl) (Nat.le_of_ble_eq_true rfl) (by omega) (Nat.le_refl _) (Nat.le_refl _) (Nat.le_of_ble_eq_true rfl) ?_
            refine e_istore aX3_readAny_128 (Nat.le_of_ble_eq_true rfl) ?_
            refine e_iinc aX3_readAny_130 rfl rfl (Nat.le_of_ble_eq_true rfl) ?_
            refine e_goto aX3_readAny_133 ?_
            have eA : allF (oneF (hI h 42) l D n E c k) (hI h 42) l p1 = (true, p3, g3) := (if_pos q60).trans hA
            have hS6 : ∀ u, u < 1296 → bts ((fun a i => if a = wb then g6 i else L3 a i) wb) u = (fun u => g u || g3 u) u := fun u hu => by
              show bitL (if wb = wb then g6 (u / 64) else L3 wb (u / 64)) (u % 64) = (g u || g3 u)
              rw [if_pos rfl, ← hS u hu, ← hw3, ← hE u hu]
              exact hg u hu
            have hF6 : ∀ x, x ≠ wb → ¬ (70 - 4 * k ≤ x ∧ x ≤ 72) → (fun a i => if a = wb then g6 i else L3 a i) x = L x := fun x hx hx2 => (funext fun i => if_neg hx).trans (hF3 x hx hx2)
            by_cases q16 : tkQ (hI h 42) p3 16 = true
            · refine e_hp (h2 := (tH (lsH h (fun a i => if a = wb then g6 i else L3 a i)) (nxT (hI h 42) l p3))) (congrArg (tH (lsH h (fun a i => if a = wb then g6 i else L3 a i))) (if_pos q16)) ?_
              refine e_ls (ls' := [(0, some (vR (some 40))), (1, some (vR (some 33))), (2, some (vR (some sb))), (3, some (vI (nI (6 - k)))), (4, some (vR (some (45 + 2 * (2 * (6 - k)))))), (5, some (vR (some (45 + 2 * (2 * (6 - k) + 1))))), (6, some (vI 1)), (7, some (vI (nI (i + 1))))]) ⟨rfl, rfl, rfl, rfl, rfl, rfl, (by rw [b2_t q16]; rfl), congrArg (fun x => some (vI x)) (nI_1 i), trivial⟩ ?_
              exact ih (i + 1) (fun a i => if a = wb then g6 i else L3 a i) _ (fun u => g u || g3 u) (by omega) hF6 (okp_n z3) hS6 (by rw [← hR9, orL_s, eA]; exact ((if_pos rfl).trans (if_pos q16)).symm)
            · refine e_hp (h2 := (tH (lsH h (fun a i => if a = wb then g6 i else L3 a i)) p3)) (congrArg (tH (lsH h (fun a i => if a = wb then g6 i else L3 a i))) (if_neg q16)) ?_
              refine e_ls (ls' := [(0, some (vR (some 40))), (1, some (vR (some 33))), (2, some (vR (some sb))), (3, some (vI (nI (6 - k)))), (4, some (vR (some (45 + 2 * (2 * (6 - k)))))), (5, some (vR (some (45 + 2 * (2 * (6 - k) + 1))))), (6, some (vI 0)), (7, some (vI (nI (i + 1))))]) ⟨rfl, rfl, rfl, rfl, rfl, rfl, (by rw [b2_f q16]; rfl), congrArg (fun x => some (vI x)) (nI_1 i), trivial⟩ ?_
              exact tail0 (i + 1) (fun a i => if a = wb then g6 i else L3 a i) p3 (fun u => g u || g3 u) hF6 hS6 (by rw [← hR9, orL_s, eA]; exact (if_pos rfl).trans (if_neg q16))
          have loopA : ∀ (m2 : Nat) (j : Nat) (L3 : Nat → Nat → Int64) (p3 : PT) (g3 : Nat → Bool), j + m2 = 120 → (∀ x, x ≠ wb → ¬ (70 - 4 * k ≤ x ∧ x ≤ 72) → L3 x = L x) → L3 wb = L1 wb → okp l p3 → (∀ u, u < 1296 → bts (L3 (46 + 2 * (2 * (6 - k)))) u = g3 u) → andL (oneF (hI h 42) l D n E c k) (hI h 42) l m2 p3 g3 = (andL (oneF (hI h 42) l D n E c k) (hI h 42) l 120 ((oneF (hI h 42) l D n E c k) p1).2.1 ((oneF (hI h 42) l D n E c k) p1).2.2) → Ev X mX3_readAny (8 + 2 * k) 0 0 (rdQ h L wb (fun x => 70 - 4 * k ≤ x ∧ x ≤ 72) (anyF (oneF (hI h 42) l D n E c k) (hI h 42) l p)) 0 0 68 [(0, some (vR (some 40))), (1, some (vR (some 33))), (2, some (vR (some sb))), (3, some (vI (nI (6 - k)))), (4, some (vR (some (45 + 2 * (2 * (6 - k)))))), (5, some (vR (some (45 + 2 * (2 * (6 - k) + 1))))), (7, some (vI (nI i))), (8, some (vI (nI j)))] [] (tH (lsH h L3) p3) := by
            intro m2
            induction m2 with
            | zero =>
              intro j L3 p3 g3 hj hF3 hw3 z3 hE hA2
              obtain rfl : j = 120 := by omega
              refine e_iload aX3_readAny_68 rfl ?_
              refine e_bipush (v := 120) aX3_readAny_70 (by decide) ?_
              refine e_icmp_ge aX3_readAny_72 (fun c72 => ?_) (fun c72 => ?_)
              · -- 72: taken
                refine e_ls (ls' := [(0, some (vR (some 40))), (1, some (vR (some 33))), (2, some (vR (some sb))), (3, some (vI (nI (6 - k)))), (4, some (vR (some (45 + 2 * (2 * (6 - k)))))), (5, some (vR (some (45 + 2 * (2 * (6 - k) + 1))))), (7, some (vI (nI i)))]) ⟨rfl, rfl, rfl, rfl, rfl, rfl, rfl, trivial⟩ ?_
                exact tail113 L3 p3 g3 hF3 hw3 z3 hE (hA2.symm)
              · -- 72: not taken
                exact absurd (by decide) c72
            | succ m2 ih2 =>
              intro j L3 p3 g3 hj hF3 hw3 z3 hE hA2
              refine e_iload aX3_readAny_68 rfl ?_
              refine e_bipush (v := 120) aX3_readAny_70 (by decide) ?_
              refine e_icmp_ge aX3_readAny_72 (fun c72 => ?_) (fun c72 => ?_)
              · -- 72: taken
                exact absurd c72 (nI_ge (a := j) (b := 120) (by omega) (by decide))
              · -- 72: not taken
                refine e_aload_n aX3_readAny_75 rfl ?_
                refine e_getRF aX3_readAny_76 fX3_12 rfl (fx_is F rfl) (fx_r (b := 41) F rfl) ?_
                refine e_ldcS (i := 15) aX3_readAny_79 rfl rfl rfl ?_
                refine e_invvT aX3_readAny_81 kX3_52 (ztkL X (L := L3) F (l := l) (p := p3) t z3 (i := 15) (by decide)) rfl rfl (fx_is F rfl) (Nat.le_of_ble_eq_true rfl) (by omega) (Nat.le_refl _) (Nat.le_refl _) (Nat.le_of_ble_eq_true rfl) ?_
                refine e_if_eq aX3_readAny_84 (fun c84 => ?_) (fun c84 => ?_)
                · -- 84: taken
                  have q84 := b2_0.mp c84
                  refine e_hp (h2 := (tH (lsH h L3) p3)) (congrArg (tH (lsH h L3)) (if_neg q84)) ?_
                  refine e_ls (ls' := [(0, some (vR (some 40))), (1, some (vR (some 33))), (2, some (vR (some sb))), (3, some (vI (nI (6 - k)))), (4, some (vR (some (45 + 2 * (2 * (6 - k)))))), (5, some (vR (some (45 + 2 * (2 * (6 - k) + 1))))), (7, some (vI (nI i)))]) ⟨rfl, rfl, rfl, rfl, rfl, rfl, rfl, trivial⟩ ?_
                  exact tail113 L3 p3 g3 hF3 hw3 z3 hE (hA2.symm.trans (by rw [andL_s, if_neg q84]))
                · -- 84: not taken
                  have q84 := Decidable.of_not_not (fun z => c84 (b2_0.mpr z))
                  refine e_hp (h2 := (tH (lsH h L3) (nxT (hI h 42) l p3))) (congrArg (tH (lsH h L3)) (if_pos q84)) ?_
                  refine e_aload_n aX3_readAny_87 rfl ?_
                  refine e_aload_n aX3_readAny_88 rfl ?_
                  refine e_aload aX3_readAny_89 rfl ?_
                  refine e_iload_n aX3_readAny_91 rfl ?_
                  refine e_invv aX3_readAny_92 kX3_103 (k1 L3 (nxT (hI h 42) l p3) (45 + 2 * (2 * (6 - k) + 1)) (46 + 2 * (2 * (6 - k) + 1)) (wk_q hw hv hWV hF3) (okp_n z3) (sp_S F (by omega)) (hVs _ (by omega) (by omega)) (by omega)) rfl rfl (fx_is F rfl) (Nat.le_of_ble_eq_true rfl) (by omega) (Nat.le_refl _) (Nat.le_refl _) (Nat.le_of_ble_eq_true rfl) ?_
                  rintro v h2 ⟨rfl, L4, rfl, hL4, hs4⟩
                  refine e_if_ne aX3_readAny_95 (fun c95 => ?_) (fun c95 => ?_)
                  · -- 95: taken
                    have q95 : ((oneF (hI h 42) l D n E c k) (nxT (hI h 42) l p3)).1 = true := Decidable.of_not_not (fun y => c95 (b2_0.mpr y))
                    refine e_aload aX3_readAny_100 rfl ?_
                    refine e_aload aX3_readAny_102 rfl ?_
                    refine e_invv aX3_readAny_104 kX3_108 (zX6_meet X (h := (tH (lsH h L4) ((oneF (hI h 42) l D n E c k) (nxT (hI h 42) l p3)).2.1)) (sb := (45 + 2 * (2 * (6 - k)))) (wb := (46 + 2 * (2 * (6 - k)))) (sc := (45 + 2 * (2 * (6 - k) + 1))) (wc := (46 + 2 * (2 * (6 - k) + 1))) (sp_S F (by omega)) (sp_S F (by omega)) (by omega)) rfl rfl (sp_S F (by omega)).1 (Nat.le_of_ble_eq_true rfl) (by omega) (Nat.le_refl _) (Nat.le_refl _) (Nat.le_of_ble_eq_true rfl) ?_
                    rintro v h2 ⟨rfl, g5, rfl, hg⟩
                    refine e_iinc aX3_readAny_107 rfl rfl (Nat.le_of_ble_eq_true rfl) ?_
                    refine e_goto aX3_readAny_110 ?_
                    have e4 : L4 (46 + 2 * (2 * (6 - k))) = L3 (46 + 2 * (2 * (6 - k))) := hL4 _ (by omega) (fun y => by have : 74 - 4 * k ≤ (46 + 2 * (2 * (6 - k))) := y.1; omega)
                    have e5 : L4 wb = L3 wb := hL4 _ (by omega) (fun y => by have y1 : 74 - 4 * k ≤ wb := y.1; have y2 : wb ≤ 72 := y.2; omega)
                    refine e_ls (ls' := [(0, some (vR (some 40))), (1, some (vR (some 33))), (2, some (vR (some sb))), (3, some (vI (nI (6 - k)))), (4, some (vR (some (45 + 2 * (2 * (6 - k)))))), (5, some (vR (some (45 + 2 * (2 * (6 - k) + 1))))), (7, some (vI (nI i))), (8, some (vI (nI (j + 1))))]) ⟨rfl, rfl, rfl, rfl, rfl, rfl, rfl, congrArg (fun x => some (vI x)) (nI_1 j), trivial⟩ ?_
                    refine ih2 (j + 1) (fun a i => if a = (46 + 2 * (2 * (6 - k))) then g5 i else L4 a i) ((oneF (hI h 42) l D n E c k) (nxT (hI h 42) l p3)).2.1 (fun u => g3 u && ((oneF (hI h 42) l D n E c k) (nxT (hI h 42) l p3)).2.2 u) (by omega) (fun x hx hx2 => ?_) ?_ (okF_one k _ (okp_n z3)) (fun u hu => ?_) (by rw [← hA2, andL_s, if_pos q84, if_pos q95])
                    · have x1 : x ≠ (46 + 2 * (2 * (6 - k))) := fun e => hx2 (by omega)
                      exact ((funext fun i => if_neg x1).trans (hL4 x (fun e => hx2 (by omega)) (fun y => hx2 (by have y1 : 74 - 4 * k ≤ x := y.1; have y2 : x ≤ 72 := y.2; omega)))).trans (hF3 x hx hx2)
                    · exact ((funext fun i => if_neg (by omega)).trans e5).trans hw3
                    · show bitL (if (46 + 2 * (2 * (6 - k))) = (46 + 2 * (2 * (6 - k))) then g5 (u / 64) else L4 (46 + 2 * (2 * (6 - k))) (u / 64)) (u % 64) = (g3 u && ((oneF (hI h 42) l D n E c k) (nxT (hI h 42) l p3)).2.2 u)
                      rw [if_pos rfl, ← hE u hu, ← hs4 q95 u hu, ← e4]
                      exact hg u hu
                  · -- 95: not taken
                    have q95 : ¬ ((oneF (hI h 42) l D n E c k) (nxT (hI h 42) l p3)).1 = true := b2_0.mp c95
                    refine e_iconst (v := 0) aX3_readAny_98 (by decide) ?_
                    refine e_zreturn aX3_readAny_99 rfl (by decide) (Nat.le_refl _) (Nat.le_refl _) ?_
                    have eA : allF (oneF (hI h 42) l D n E c k) (hI h 42) l p1 = (false, ((oneF (hI h 42) l D n E c k) (nxT (hI h 42) l p3)).2.1, g3) := (if_pos q60).trans (by rw [← hA2, andL_s, if_pos q84, if_neg q95])
                    have eR : (anyF (oneF (hI h 42) l D n E c k) (hI h 42) l p) = (false, ((oneF (hI h 42) l D n E c k) (nxT (hI h 42) l p3)).2.1, g) := by rw [← hR9, orL_s, eA]; exact if_neg Bool.false_ne_true
                    rw [eR]
                    refine ⟨rfl, L4, rfl, fun x hx hx2 => (hL4 x (fun e => hx2 (by omega)) (fun y => hx2 (by have y1 : 74 - 4 * k ≤ x := y.1; have y2 : x ≤ 72 := y.2; omega))).trans (hF3 x hx hx2), fun y => by cases y⟩
          refine e_iconst (v := 0) aX3_readAny_65 (by decide) ?_
          refine e_istore aX3_readAny_66 (Nat.le_of_ble_eq_true rfl) ?_
          refine e_ls (ls' := [(0, some (vR (some 40))), (1, some (vR (some 33))), (2, some (vR (some sb))), (3, some (vI (nI (6 - k)))), (4, some (vR (some (45 + 2 * (2 * (6 - k)))))), (5, some (vR (some (45 + 2 * (2 * (6 - k) + 1))))), (7, some (vI (nI i))), (8, some (vI (nI 0)))]) ⟨rfl, rfl, rfl, rfl, rfl, rfl, rfl, rfl, trivial⟩ ?_
          exact loopA 120 0 L2 ((oneF (hI h 42) l D n E c k) p1).2.1 ((oneF (hI h 42) l D n E c k) p1).2.2 rfl (fun x hx hx2 => (hL2 x (fun e => hx2 (by omega)) (fun y => hx2 (by have y1 : 74 - 4 * k ≤ x := y.1; have y2 : x ≤ 72 := y.2; omega))).trans (hF x hx hx2)) (hL2 _ (by omega) (fun y => by have y1 : 74 - 4 * k ≤ wb := y.1; have y2 : wb ≤ 72 := y.2; omega)) (okF_one k _ z1) (hs2 q60) rfl
        · -- 60: not taken
          have q60 : ¬ ((oneF (hI h 42) l D n E c k) p1).1 = true := b2_0.mp c60
          refine e_iconst (v := 0) aX3_readAny_63 (by decide) ?_
          refine e_zreturn aX3_readAny_64 rfl (by decide) (Nat.le_refl _) (Nat.le_refl _) ?_
          have eA : allF (oneF (hI h 42) l D n E c k) (hI h 42) l p1 = (false, ((oneF (hI h 42) l D n E c k) p1).2.1, fun _ => false) := if_neg q60
          have eR : (anyF (oneF (hI h 42) l D n E c k) (hI h 42) l p) = (false, ((oneF (hI h 42) l D n E c k) p1).2.1, g) := by rw [← hR9, orL_s, eA]; exact if_neg Bool.false_ne_true
          rw [eR]
          exact ⟨rfl, L2, rfl, (fun x hx hx2 => (hL2 x (fun e => hx2 (by omega)) (fun y => hx2 (by have y1 : 74 - 4 * k ≤ x := y.1; have y2 : x ≤ 72 := y.2; omega))).trans (hF x hx hx2)), fun y => by cases y⟩
  refine e_iload_n aX3_readAny_0 rfl ?_
  refine e_bipush (v := 6) aX3_readAny_1 (by decide) ?_
  refine e_icmp_le aX3_readAny_3 (fun c3 => ?_) (fun c3 => ?_)
  · -- 3: taken
    refine e_aload_n aX3_readAny_8 rfl ?_
    refine e_getRF aX3_readAny_9 fX3_26 rfl (fx_is F rfl) (fx_r (b := 44) F rfl) ?_
    refine e_iconst (v := 2) aX3_readAny_12 (by decide) ?_
    refine e_iload_n aX3_readAny_13 rfl ?_
    refine e_imul aX3_readAny_14 ?_
    refine e_top (nI_mul 2 (6 - k)) ?_
    refine e_aaloadF (t := 19) aX3_readAny_15 (fx_is F rfl) (by decide) (by decide) (fx_n (n := 14) F rfl) (vin (N := 14) (by omega)) (show hR (tH (lsH h L) p) 44 (nI (2 * (6 - k))).toNatClampNeg = some (45 + 2 * (2 * (6 - k))) by rw [cl (by omega)]; exact fx_r F (sp1 _ (by omega))) ?_
    refine e_astore aX3_readAny_16 (Nat.le_of_ble_eq_true rfl) ?_
    refine e_aload_n aX3_readAny_18 rfl ?_
    refine e_getRF aX3_readAny_19 fX3_26 rfl (fx_is F rfl) (fx_r (b := 44) F rfl) ?_
    refine e_iconst (v := 2) aX3_readAny_22 (by decide) ?_
    refine e_iload_n aX3_readAny_23 rfl ?_
    refine e_imul aX3_readAny_24 ?_
    refine e_top (nI_mul 2 (6 - k)) ?_
    refine e_iconst (v := 1) aX3_readAny_25 (by decide) ?_
    refine e_iadd aX3_readAny_26 ?_
    refine e_top (nI_1 _) ?_
    refine e_aaloadF (t := 19) aX3_readAny_27 (fx_is F rfl) (by decide) (by decide) (fx_n (n := 14) F rfl) (vin (N := 14) (by omega)) (show hR (tH (lsH h L) p) 44 (nI (2 * (6 - k) + 1)).toNatClampNeg = some (45 + 2 * (2 * (6 - k) + 1)) by rw [cl (by omega)]; exact fx_r F (sp1 _ (by omega))) ?_
    refine e_astore aX3_readAny_28 (Nat.le_of_ble_eq_true rfl) ?_
    refine e_aload_n aX3_readAny_30 rfl ?_
    refine e_invv aX3_readAny_31 kX3_100 (zX6_clear X (h := (tH (lsH h L) p)) (sb := sb) (wb := wb) kS) rfl rfl kS.1 (Nat.le_of_ble_eq_true rfl) (by omega) (Nat.le_refl _) (Nat.le_refl _) (Nat.le_of_ble_eq_true rfl) ?_
    rintro v h2 ⟨rfl, g0, rfl, hg⟩
    refine e_iconst (v := 1) aX3_readAny_34 (by decide) ?_
    refine e_istore aX3_readAny_35 (Nat.le_of_ble_eq_true rfl) ?_
    refine e_iconst (v := 0) aX3_readAny_37 (by decide) ?_
    refine e_istore aX3_readAny_38 (Nat.le_of_ble_eq_true rfl) ?_
    refine e_ls (ls' := [(0, some (vR (some 40))), (1, some (vR (some 33))), (2, some (vR (some sb))), (3, some (vI (nI (6 - k)))), (4, some (vR (some (45 + 2 * (2 * (6 - k)))))), (5, some (vR (some (45 + 2 * (2 * (6 - k) + 1))))), (6, some (vI 1)), (7, some (vI (nI 0)))]) ⟨rfl, rfl, rfl, rfl, rfl, rfl, rfl, rfl, trivial⟩ ?_
    refine loopO 120 0 (fun a i => if a = wb then g0 i else L a i) p (fun _ => false) rfl (fun x hx _ => funext fun i => if_neg hx) z (fun u hu => ?_) rfl
    show bitL (if wb = wb then g0 (u / 64) else L wb (u / 64)) (u % 64) = false
    rw [if_pos rfl]
    exact hg u hu
  · -- 3: not taken
    exact absurd (nI_le (a := 6 - k) (b := 6) (by omega) (by decide)) c3
