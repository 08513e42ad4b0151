/-! contracts: worth, value, best, hope (written by wip/p45/g27.py) -/
theorem zX8_worthUnder (X : EX) {h : HP} (F : Fx h) {s : Nat} (hs : s < 1296) (y : Int32) : Ct X mX8_worthUnder 1 0 0 [vR (some 32), vI (nI s), vI y] h (Rt (vI (wuR h s y 12)) h) := by
  refine ct_of rfl (Nat.le_of_ble_eq_true rfl) ?_
  have loop : ∀ (m : Nat) (k : Nat), k + m = 12 → Ev X mX8_worthUnder 1 0 0 (Rt (vI (wuR h s y 12)) h) 0 0 5 [(0, some (vR (some 32))), (1, some (vI (nI s))), (2, some (vI y)), (3, some (vI (wuR h s y k))), (4, some (vI (nI k)))] [] h := by
    intro m
    induction m with
    | zero =>
      intro k hk
      obtain rfl : k = 12 := by omega
      refine e_iload aX8_worthUnder_5 rfl ?_
      refine e_bipush (v := 12) aX8_worthUnder_7 (by decide) ?_
      refine e_icmp_ge aX8_worthUnder_9 (fun c9 => ?_) (fun c9 => ?_)
      · -- 9: taken
        refine e_iload_n aX8_worthUnder_49 rfl ?_
        refine e_ireturn aX8_worthUnder_50 rfl (Nat.le_refl _) (Nat.le_refl _) ?_
        exact ⟨rfl, rfl⟩
      · -- 9: not taken
        exact absurd (nI_le (a := 12) (b := 12) (by decide) (by decide)) c9
    | succ m ih =>
      intro k hk
      refine e_iload aX8_worthUnder_5 rfl ?_
      refine e_bipush (v := 12) aX8_worthUnder_7 (by decide) ?_
      refine e_icmp_ge aX8_worthUnder_9 (fun c9 => ?_) (fun c9 => ?_)
      · -- 9: taken
        exact absurd c9 (nI_ge (a := k) (b := 12) (by omega) (by decide))
      · -- 9: not taken
        refine e_aload_n aX8_worthUnder_12 rfl ?_
        refine e_getRF aX8_worthUnder_13 fX8_23 rfl (fx_is F rfl) (fx_r (b := 38) F rfl) ?_
        refine e_iload_n aX8_worthUnder_16 rfl ?_
        refine e_iload aX8_worthUnder_17 rfl ?_
        refine e_invvT aX8_worthUnder_19 kX8_172 (zX2_at X F (s := s) (p := k) hs (by omega)) rfl rfl (fx_is F rfl) (Nat.le_of_ble_eq_true rfl) (Nat.le_of_ble_eq_true rfl) (Nat.le_refl _) (Nat.le_refl _) (Nat.le_of_ble_eq_true rfl) ?_
        refine e_iload_n aX8_worthUnder_22 rfl ?_
        refine e_icmp_ne aX8_worthUnder_23 (fun c23 => ?_) (fun c23 => ?_)
        · -- 23: taken
          refine e_iinc aX8_worthUnder_43 rfl rfl (Nat.le_of_ble_eq_true rfl) ?_
          refine e_goto aX8_worthUnder_46 ?_
          refine e_ls (ls' := [(0, some (vR (some 32))), (1, some (vI (nI s))), (2, some (vI y)), (3, some (vI (wuR h s y (k + 1)))), (4, some (vI (nI (k + 1))))]) ⟨rfl, rfl, rfl, congrArg (fun x => some (vI x)) ((wuR_s.trans (if_neg c23)).symm), congrArg (fun x => some (vI x)) (nI_1 k), trivial⟩ ?_
          exact ih (k + 1) (by omega)
        · -- 23: not taken
          refine e_iload_n aX8_worthUnder_26 rfl ?_
          refine e_aload_n aX8_worthUnder_27 rfl ?_
          refine e_getRF aX8_worthUnder_28 fX8_10 rfl (fx_is F rfl) (fx_r (b := 33) F rfl) ?_
          refine e_getRF aX8_worthUnder_31 fX8_184 rfl (fx_is F rfl) (fx_r (b := 36) F rfl) ?_
          refine e_iload_n aX8_worthUnder_34 rfl ?_
          refine e_iload aX8_worthUnder_35 rfl ?_
          refine e_invsT aX8_worthUnder_37 kX8_69 (zX8_placeUnder X hs (p := k) (by omega)) rfl rfl (Nat.le_of_ble_eq_true rfl) (Nat.le_of_ble_eq_true rfl) (Nat.le_refl _) (Nat.le_refl _) (Nat.le_of_ble_eq_true rfl) ?_
          refine e_ialoadF aX8_worthUnder_40 (fx_is F rfl) (fx_n (n := 3) F rfl) (vin (N := 3) (pl_lt s k)) (show hI h 36 (nI (pl s k)).toNatClampNeg = hI h 36 (pl s k) by rw [cl (by have := pl_lt s k; omega)]) ?_
          refine e_iadd aX8_worthUnder_41 ?_
          refine e_istore_n aX8_worthUnder_42 (Nat.le_of_ble_eq_true rfl) ?_
          refine e_iinc aX8_worthUnder_43 rfl rfl (Nat.le_of_ble_eq_true rfl) ?_
          refine e_goto aX8_worthUnder_46 ?_
          refine e_ls (ls' := [(0, some (vR (some 32))), (1, some (vI (nI s))), (2, some (vI y)), (3, some (vI (wuR h s y (k + 1)))), (4, some (vI (nI (k + 1))))]) ⟨rfl, rfl, rfl, congrArg (fun x => some (vI x)) ((wuR_s.trans (if_pos c23)).symm), congrArg (fun x => some (vI x)) (nI_1 k), trivial⟩ ?_
          exact ih (k + 1) (by omega)
  refine e_iconst (v := 0) aX8_worthUnder_0 (by decide) ?_
  refine e_istore_n aX8_worthUnder_1 (Nat.le_of_ble_eq_true rfl) ?_
  refine e_iconst (v := 0) aX8_worthUnder_2 (by decide) ?_
  refine e_istore aX8_worthUnder_3 (Nat.le_of_ble_eq_true rfl) ?_
  refine e_ls (ls' := [(0, some (vR (some 32))), (1, some (vI (nI s))), (2, some (vI y)), (3, some (vI (wuR h s y 0))), (4, some (vI (nI 0)))]) ⟨rfl, rfl, rfl, rfl, rfl, trivial⟩ ?_
  exact loop 12 0 rfl
theorem zX8_worth (X : EX) {h : HP} (F : Fx h) {f : Nat} {o : Nat → Nat} (bf : BkF h f o) (x y : Int32) : Ct X mX8_worth 3 0 0 [vR (some 32), vI x, vI y] h (if nI (fo o f) ≤ x ∧ x < nI (fo o f + om f) then if y < 0 ∨ 3 ≤ y then RF h 0 else Rt (vI (wuR h x.toNatClampNeg y 12)) h else RF h 0) := by
  refine ct_of rfl (Nat.le_of_ble_eq_true rfl) ?_
  have hb6 := om_fo bf.2.1 bf.2.2.2
  refine e_aload_n aX8_worth_0 rfl ?_
  refine e_getRF aX8_worth_1 fX8_10 rfl (fx_is F rfl) (fx_r (b := 33) F rfl) ?_
  refine e_iload_n aX8_worth_4 rfl ?_
  refine e_invvT aX8_worth_5 kX8_169 (zX0_isOpen X F bf _) rfl rfl (fx_is F rfl) (Nat.le_of_ble_eq_true rfl) (Nat.le_of_ble_eq_true rfl) (Nat.le_refl _) (Nat.le_refl _) (Nat.le_of_ble_eq_true rfl) ?_
  refine e_if_eq aX8_worth_8 (fun c8 => ?_) (fun c8 => ?_)
  · -- 8: taken
    have q8 := b2_0.mp c8
    refine e_aload_n aX8_worth_19 rfl ?_
    refine e_iconst (v := 0) aX8_worth_20 (by decide) ?_
    refine e_invvT aX8_worth_21 kX8_62 (zfin X (k := 0) F (by decide)) rfl rfl (fx_is F rfl) (Nat.le_of_ble_eq_true rfl) (Nat.le_of_ble_eq_true rfl) (Nat.le_refl _) (Nat.le_refl _) (Nat.le_of_ble_eq_true rfl) ?_
    refine e_ireturn aX8_worth_24 rfl (Nat.le_refl _) (Nat.le_refl _) ?_
    rw [if_neg q8]
    exact ⟨rfl, rfl⟩
  · -- 8: not taken
    have q8 := Decidable.of_not_not (fun z => c8 (b2_0.mpr z))
    obtain ⟨sz, hs1, hs2, rfl⟩ := opn_of (Nat.le_add_right _ _) hb6 q8
    refine e_iload_n aX8_worth_11 rfl ?_
    refine e_iconst (v := 3) aX8_worth_12 (by decide) ?_
    refine e_invsT aX8_worth_13 kX8_58 (zX8_isOutside X _ _) rfl rfl (Nat.le_of_ble_eq_true rfl) (Nat.le_of_ble_eq_true rfl) (Nat.le_refl _) (Nat.le_refl _) (Nat.le_of_ble_eq_true rfl) ?_
    refine e_if_eq aX8_worth_16 (fun c16 => ?_) (fun c16 => ?_)
    · -- 16: taken
      have q16 := b2_0.mp c16
      refine e_aload_n aX8_worth_25 rfl ?_
      refine e_iload_n aX8_worth_26 rfl ?_
      refine e_iload_n aX8_worth_27 rfl ?_
      refine e_invvT aX8_worth_28 kX8_187 (zX8_worthUnder X F (s := sz) (by omega) y) rfl rfl (fx_is F rfl) (Nat.le_of_ble_eq_true rfl) (Nat.le_of_ble_eq_true rfl) (Nat.le_refl _) (Nat.le_refl _) (Nat.le_of_ble_eq_true rfl) ?_
      refine e_ireturn aX8_worth_31 rfl (Nat.le_refl _) (Nat.le_refl _) ?_
      rw [if_pos q8, if_neg q16, cl (by omega)]
      exact ⟨rfl, rfl⟩
    · -- 16: not taken
      have q16 := Decidable.of_not_not (fun z => c16 (b2_0.mpr z))
      refine e_aload_n aX8_worth_19 rfl ?_
      refine e_iconst (v := 0) aX8_worth_20 (by decide) ?_
      refine e_invvT aX8_worth_21 kX8_62 (zfin X (k := 0) F (by decide)) rfl rfl (fx_is F rfl) (Nat.le_of_ble_eq_true rfl) (Nat.le_of_ble_eq_true rfl) (Nat.le_refl _) (Nat.le_refl _) (Nat.le_of_ble_eq_true rfl) ?_
      refine e_ireturn aX8_worth_24 rfl (Nat.le_refl _) (Nat.le_refl _) ?_
      rw [if_pos q8, if_pos q16]
      exact ⟨rfl, rfl⟩
theorem zX8_worthOver (X : EX) {h : HP} (F : Fx h) {a q : Nat} (ha : a + q ≤ 1296) (y : Int32) : Ct X mX8_worthOver 2 0 0 [vR (some 32), vI (nI a), vI (nI (a + q)), vI y] h (Rt (vL (woR h y a q)) h) := by
  refine ct_of rfl (Nat.le_of_ble_eq_true rfl) ?_
  have loop : ∀ (m : Nat) (k : Nat), k + m = q → Ev X mX8_worthOver 2 0 0 (Rt (vL (woR h y a q)) h) 0 0 6 [(0, some (vR (some 32))), (2, some (vI (nI (a + q)))), (3, some (vI y)), (4, some (vL (woR h y a k))), (6, some (vI (nI (a + k))))] [] h := by
    intro m
    induction m with
    | zero =>
      intro k hk
      obtain rfl : k = q := by omega
      refine e_iload aX8_worthOver_6 rfl ?_
      refine e_iload_n aX8_worthOver_8 rfl ?_
      refine e_icmp_ge aX8_worthOver_9 (fun c9 => ?_) (fun c9 => ?_)
      · -- 9: taken
        refine e_lload aX8_worthOver_31 rfl ?_
        refine e_lreturn aX8_worthOver_33 rfl (Nat.le_refl _) (Nat.le_refl _) ?_
        exact ⟨rfl, rfl⟩
      · -- 9: not taken
        exact absurd (nI_le (by omega) (by omega)) c9
    | succ m ih =>
      intro k hk
      refine e_iload aX8_worthOver_6 rfl ?_
      refine e_iload_n aX8_worthOver_8 rfl ?_
      refine e_icmp_ge aX8_worthOver_9 (fun c9 => ?_) (fun c9 => ?_)
      · -- 9: taken
        exact absurd c9 (nI_ge (by omega) (by omega))
      · -- 9: not taken
        refine e_lload aX8_worthOver_12 rfl ?_
        refine e_aload_n aX8_worthOver_14 rfl ?_
        refine e_iload aX8_worthOver_15 rfl ?_
        refine e_iload_n aX8_worthOver_17 rfl ?_
        refine e_invvT aX8_worthOver_18 kX8_187 (zX8_worthUnder X F (s := a + k) (by omega) y) rfl rfl (fx_is F rfl) (Nat.le_of_ble_eq_true rfl) (Nat.le_of_ble_eq_true rfl) (Nat.le_refl _) (Nat.le_refl _) (Nat.le_of_ble_eq_true rfl) ?_
        refine e_i2l aX8_worthOver_21 ?_
        refine e_ladd aX8_worthOver_22 ?_
        refine e_lstore aX8_worthOver_23 (Nat.le_of_ble_eq_true rfl) ?_
        refine e_iinc aX8_worthOver_25 rfl rfl (Nat.le_of_ble_eq_true rfl) ?_
        refine e_goto aX8_worthOver_28 ?_
        refine e_ls (ls' := [(0, some (vR (some 32))), (2, some (vI (nI (a + q)))), (3, some (vI y)), (4, some (vL (woR h y a (k + 1)))), (6, some (vI (nI (a + (k + 1)))))]) ⟨rfl, rfl, rfl, rfl, congrArg (fun x => some (vI x)) (nI_1 (a + k)), trivial⟩ ?_
        exact ih (k + 1) (by omega)
  refine e_lconst (v := 0) aX8_worthOver_0 rfl ?_
  refine e_lstore aX8_worthOver_1 (Nat.le_of_ble_eq_true rfl) ?_
  refine e_iload_n aX8_worthOver_3 rfl ?_
  refine e_istore aX8_worthOver_4 (Nat.le_of_ble_eq_true rfl) ?_
  refine e_ls (ls' := [(0, some (vR (some 32))), (2, some (vI (nI (a + q)))), (3, some (vI y)), (4, some (vL (woR h y a 0))), (6, some (vI (nI (a + 0))))]) ⟨rfl, rfl, rfl, rfl, rfl, trivial⟩ ?_
  exact loop q 0 (by omega)
theorem zX8_value (X : EX) {h : HP} (F : Fx h) {f : Nat} {o : Nat → Nat} (bf : BkF h f o) (x : Int32) : Ct X mX8_value 3 0 0 [vR (some 32), vI x] h (if x < 0 ∨ 3 ≤ x then RFL h 0 else Rt (vL (woR h x (fo o f) (om f))) h) := by
  refine ct_of rfl (Nat.le_of_ble_eq_true rfl) ?_
  have hb6 := om_fo bf.2.1 bf.2.2.2
  refine e_iload_n aX8_value_0 rfl ?_
  refine e_iconst (v := 3) aX8_value_1 (by decide) ?_
  refine e_invsT aX8_value_2 kX8_58 (zX8_isOutside X _ _) rfl rfl (Nat.le_of_ble_eq_true rfl) (Nat.le_of_ble_eq_true rfl) (Nat.le_refl _) (Nat.le_refl _) (Nat.le_of_ble_eq_true rfl) ?_
  refine e_if_eq aX8_value_5 (fun c5 => ?_) (fun c5 => ?_)
  · -- 5: taken
    have q5 := b2_0.mp c5
    refine e_aload_n aX8_value_14 rfl ?_
    refine e_aload_n aX8_value_15 rfl ?_
    refine e_getRF aX8_value_16 fX8_10 rfl (fx_is F rfl) (fx_r (b := 33) F rfl) ?_
    refine e_invvT aX8_value_19 kX8_84 (zX0_firstOpen X F bf) rfl rfl (fx_is F rfl) (Nat.le_of_ble_eq_true rfl) (Nat.le_of_ble_eq_true rfl) (Nat.le_refl _) (Nat.le_refl _) (Nat.le_of_ble_eq_true rfl) ?_
    refine e_aload_n aX8_value_22 rfl ?_
    refine e_getRF aX8_value_23 fX8_10 rfl (fx_is F rfl) (fx_r (b := 33) F rfl) ?_
    refine e_invvT aX8_value_26 kX8_181 (zX0_endOpen X F bf) rfl rfl (fx_is F rfl) (Nat.le_of_ble_eq_true rfl) (Nat.le_of_ble_eq_true rfl) (Nat.le_refl _) (Nat.le_refl _) (Nat.le_of_ble_eq_true rfl) ?_
    refine e_iload_n aX8_value_29 rfl ?_
    refine e_invvT aX8_value_30 kX8_194 (zX8_worthOver X F hb6 x) rfl rfl (fx_is F rfl) (Nat.le_of_ble_eq_true rfl) (Nat.le_of_ble_eq_true rfl) (Nat.le_refl _) (Nat.le_refl _) (Nat.le_of_ble_eq_true rfl) ?_
    refine e_lreturn aX8_value_33 rfl (Nat.le_refl _) (Nat.le_refl _) ?_
    rw [if_neg q5]
    exact ⟨rfl, rfl⟩
  · -- 5: not taken
    have q5 := Decidable.of_not_not (fun z => c5 (b2_0.mpr z))
    refine e_aload_n aX8_value_8 rfl ?_
    refine e_iconst (v := 0) aX8_value_9 (by decide) ?_
    refine e_invvT aX8_value_10 kX8_190 (zlfin X (k := 0) F (by decide)) rfl rfl (fx_is F rfl) (Nat.le_of_ble_eq_true rfl) (Nat.le_of_ble_eq_true rfl) (Nat.le_refl _) (Nat.le_refl _) (Nat.le_of_ble_eq_true rfl) ?_
    refine e_lreturn aX8_value_13 rfl (Nat.le_refl _) (Nat.le_refl _) ?_
    rw [if_pos q5]
    exact ⟨rfl, rfl⟩
theorem zX8_best (X : EX) {h : HP} (F : Fx h) {f : Nat} {o : Nat → Nat} (bf : BkF h f o) (x y : Int32) : Ct X mX8_best 2 0 0 [vR (some 32), vI x, vI y] h (if x < 0 ∨ 3 ≤ x then RF h 0 else if y < 0 ∨ 2 ≤ y then RF h 0 else (Rt (vI (nI (bsR h x y (fo o f + 1) (om f - 1) (fo o f) (wuR h (fo o f) x 12)))) h)) := by
  refine ct_of rfl (Nat.le_of_ble_eq_true rfl) ?_
  have hb6 := om_fo bf.2.1 bf.2.2.2
  have hom := om_pos bf.2.1
  refine e_iload_n aX8_best_0 rfl ?_
  refine e_iconst (v := 3) aX8_best_1 (by decide) ?_
  refine e_invsT aX8_best_2 kX8_58 (zX8_isOutside X _ _) rfl rfl (Nat.le_of_ble_eq_true rfl) (Nat.le_of_ble_eq_true rfl) (Nat.le_refl _) (Nat.le_refl _) (Nat.le_of_ble_eq_true rfl) ?_
  refine e_if_ne aX8_best_5 (fun c5 => ?_) (fun c5 => ?_)
  · -- 5: taken
    have q5 := Decidable.of_not_not (fun z => c5 (b2_0.mpr z))
    refine e_aload_n aX8_best_16 rfl ?_
    refine e_iconst (v := 0) aX8_best_17 (by decide) ?_
    refine e_invvT aX8_best_18 kX8_62 (zfin X (k := 0) F (by decide)) rfl rfl (fx_is F rfl) (Nat.le_of_ble_eq_true rfl) (Nat.le_of_ble_eq_true rfl) (Nat.le_refl _) (Nat.le_refl _) (Nat.le_of_ble_eq_true rfl) ?_
    refine e_ireturn aX8_best_21 rfl (Nat.le_refl _) (Nat.le_refl _) ?_
    rw [if_pos q5]
    exact ⟨rfl, rfl⟩
  · -- 5: not taken
    have q5 := b2_0.mp c5
    refine e_iload_n aX8_best_8 rfl ?_
    refine e_iconst (v := 2) aX8_best_9 (by decide) ?_
    refine e_invsT aX8_best_10 kX8_58 (zX8_isOutside X _ _) rfl rfl (Nat.le_of_ble_eq_true rfl) (Nat.le_of_ble_eq_true rfl) (Nat.le_refl _) (Nat.le_refl _) (Nat.le_of_ble_eq_true rfl) ?_
    refine e_if_eq aX8_best_13 (fun c13 => ?_) (fun c13 => ?_)
    · -- 13: taken
      have q13 := b2_0.mp c13
      rw [if_neg q5, if_neg q13]
      have loop : ∀ (m : Nat) (k cz : Nat) (vz : Int32), k + m = (fo o f + om f) → bsR h x y k m cz vz = (bsR h x y (fo o f + 1) (om f - 1) (fo o f) (wuR h (fo o f) x 12)) → Ev X mX8_best 2 0 0 (Rt (vI (nI (bsR h x y (fo o f + 1) (om f - 1) (fo o f) (wuR h (fo o f) x 12)))) h) 0 0 52 [(0, some (vR (some 32))), (1, some (vI x)), (2, some (vI y)), (3, some (vI (nI cz))), (4, some (vI vz)), (5, some (vI (nI (fo o f + om f)))), (6, some (vI (nI k)))] [] h := by
        intro m
        induction m with
        | zero =>
          intro k cz vz hk hR9
          obtain rfl : k = (fo o f + om f) := by omega
          refine e_iload aX8_best_52 rfl ?_
          refine e_iload aX8_best_54 rfl ?_
          refine e_icmp_ge aX8_best_56 (fun c56 => ?_) (fun c56 => ?_)
          · -- 56: taken
            refine e_iload_n aX8_best_102 rfl ?_
            refine e_ireturn aX8_best_103 rfl (Nat.le_refl _) (Nat.le_refl _) ?_
            rw [← hR9]
            exact ⟨rfl, rfl⟩
          · -- 56: not taken
            exact absurd (nI_le (by omega) (by omega)) c56
        | succ m ih =>
          intro k cz vz hk hR9
          refine e_iload aX8_best_52 rfl ?_
          refine e_iload aX8_best_54 rfl ?_
          refine e_icmp_ge aX8_best_56 (fun c56 => ?_) (fun c56 => ?_)
          · -- 56: taken
            exact absurd c56 (nI_ge (by omega) (by omega))
          · -- 56: not taken
            refine e_aload_n aX8_best_59 rfl ?_
            refine e_iload aX8_best_60 rfl ?_
            refine e_iload_n aX8_best_62 rfl ?_
            refine e_invvT aX8_best_63 kX8_187 (zX8_worthUnder X F (s := k) (by omega) x) rfl rfl (fx_is F rfl) (Nat.le_of_ble_eq_true rfl) (Nat.le_of_ble_eq_true rfl) (Nat.le_refl _) (Nat.le_refl _) (Nat.le_of_ble_eq_true rfl) ?_
            refine e_istore aX8_best_66 (Nat.le_of_ble_eq_true rfl) ?_
            refine e_iload_n aX8_best_68 rfl ?_
            refine e_if_ne aX8_best_69 (fun c69 => ?_) (fun c69 => ?_)
            · -- 69: taken
              have q69 : ¬ y = 0 := c69
              refine e_iload aX8_best_82 rfl ?_
              refine e_iload aX8_best_84 rfl ?_
              refine e_icmp_ge aX8_best_86 (fun c86 => ?_) (fun c86 => ?_)
              · -- 86: taken
                have q86 : ¬ wuR h k x 12 < vz := Int32.not_lt.mpr c86
                refine e_iinc aX8_best_96 rfl rfl (Nat.le_of_ble_eq_true rfl) ?_
                refine e_goto aX8_best_99 ?_
                refine e_ls (ls' := [(0, some (vR (some 32))), (1, some (vI x)), (2, some (vI y)), (3, some (vI (nI cz))), (4, some (vI vz)), (5, some (vI (nI (fo o f + om f)))), (6, some (vI (nI (k + 1))))]) ⟨rfl, rfl, rfl, rfl, rfl, rfl, congrArg (fun x => some (vI x)) (nI_1 k), trivial⟩ ?_
                exact ih (k + 1) cz vz (by omega) (by rw [← hR9, bsR_s, if_neg (show ¬ (if y = 0 then vz < wuR h k x 12 else wuR h k x 12 < vz) by rw [if_neg q69]; exact q86)])
              · -- 86: not taken
                have q86 : wuR h k x 12 < vz := Int32.not_le.mp c86
                refine e_iload aX8_best_89 rfl ?_
                refine e_istore_n aX8_best_91 (Nat.le_of_ble_eq_true rfl) ?_
                refine e_iload aX8_best_92 rfl ?_
                refine e_istore aX8_best_94 (Nat.le_of_ble_eq_true rfl) ?_
                refine e_iinc aX8_best_96 rfl rfl (Nat.le_of_ble_eq_true rfl) ?_
                refine e_goto aX8_best_99 ?_
                refine e_ls (ls' := [(0, some (vR (some 32))), (1, some (vI x)), (2, some (vI y)), (3, some (vI (nI k))), (4, some (vI (wuR h k x 12))), (5, some (vI (nI (fo o f + om f)))), (6, some (vI (nI (k + 1))))]) ⟨rfl, rfl, rfl, rfl, rfl, rfl, congrArg (fun x => some (vI x)) (nI_1 k), trivial⟩ ?_
                exact ih (k + 1) k (wuR h k x 12) (by omega) (by rw [← hR9, bsR_s, if_pos (show (if y = 0 then vz < wuR h k x 12 else wuR h k x 12 < vz) by rw [if_neg q69]; exact q86)])
            · -- 69: not taken
              have q69 : y = 0 := c69
              refine e_iload aX8_best_72 rfl ?_
              refine e_iload aX8_best_74 rfl ?_
              refine e_icmp_le aX8_best_76 (fun c76 => ?_) (fun c76 => ?_)
              · -- 76: taken
                have q76 : ¬ vz < wuR h k x 12 := Int32.not_lt.mpr c76
                refine e_iinc aX8_best_96 rfl rfl (Nat.le_of_ble_eq_true rfl) ?_
                refine e_goto aX8_best_99 ?_
                refine e_ls (ls' := [(0, some (vR (some 32))), (1, some (vI x)), (2, some (vI y)), (3, some (vI (nI cz))), (4, some (vI vz)), (5, some (vI (nI (fo o f + om f)))), (6, some (vI (nI (k + 1))))]) ⟨rfl, rfl, rfl, rfl, rfl, rfl, congrArg (fun x => some (vI x)) (nI_1 k), trivial⟩ ?_
                exact ih (k + 1) cz vz (by omega) (by rw [← hR9, bsR_s, if_neg (show ¬ (if y = 0 then vz < wuR h k x 12 else wuR h k x 12 < vz) by rw [if_pos q69]; exact q76)])
              · -- 76: not taken
                have q76 : vz < wuR h k x 12 := Int32.not_le.mp c76
                refine e_goto aX8_best_79 ?_
                refine e_iload aX8_best_89 rfl ?_
                refine e_istore_n aX8_best_91 (Nat.le_of_ble_eq_true rfl) ?_
                refine e_iload aX8_best_92 rfl ?_
                refine e_istore aX8_best_94 (Nat.le_of_ble_eq_true rfl) ?_
                refine e_iinc aX8_best_96 rfl rfl (Nat.le_of_ble_eq_true rfl) ?_
                refine e_goto aX8_best_99 ?_
                refine e_ls (ls' := [(0, some (vR (some 32))), (1, some (vI x)), (2, some (vI y)), (3, some (vI (nI k))), (4, some (vI (wuR h k x 12))), (5, some (vI (nI (fo o f + om f)))), (6, some (vI (nI (k + 1))))]) ⟨rfl, rfl, rfl, rfl, rfl, rfl, congrArg (fun x => some (vI x)) (nI_1 k), trivial⟩ ?_
                exact ih (k + 1) k (wuR h k x 12) (by omega) (by rw [← hR9, bsR_s, if_pos (show (if y = 0 then vz < wuR h k x 12 else wuR h k x 12 < vz) by rw [if_pos q69]; exact q76)])
      refine e_aload_n aX8_best_22 rfl ?_
      refine e_getRF aX8_best_23 fX8_10 rfl (fx_is F rfl) (fx_r (b := 33) F rfl) ?_
      refine e_invvT aX8_best_26 kX8_84 (zX0_firstOpen X F bf) rfl rfl (fx_is F rfl) (Nat.le_of_ble_eq_true rfl) (Nat.le_of_ble_eq_true rfl) (Nat.le_refl _) (Nat.le_refl _) (Nat.le_of_ble_eq_true rfl) ?_
      refine e_istore_n aX8_best_29 (Nat.le_of_ble_eq_true rfl) ?_
      refine e_aload_n aX8_best_30 rfl ?_
      refine e_iload_n aX8_best_31 rfl ?_
      refine e_iload_n aX8_best_32 rfl ?_
      refine e_invvT aX8_best_33 kX8_187 (zX8_worthUnder X F (s := fo o f) (by omega) x) rfl rfl (fx_is F rfl) (Nat.le_of_ble_eq_true rfl) (Nat.le_of_ble_eq_true rfl) (Nat.le_refl _) (Nat.le_refl _) (Nat.le_of_ble_eq_true rfl) ?_
      refine e_istore aX8_best_36 (Nat.le_of_ble_eq_true rfl) ?_
      refine e_aload_n aX8_best_38 rfl ?_
      refine e_getRF aX8_best_39 fX8_10 rfl (fx_is F rfl) (fx_r (b := 33) F rfl) ?_
      refine e_invvT aX8_best_42 kX8_181 (zX0_endOpen X F bf) rfl rfl (fx_is F rfl) (Nat.le_of_ble_eq_true rfl) (Nat.le_of_ble_eq_true rfl) (Nat.le_refl _) (Nat.le_refl _) (Nat.le_of_ble_eq_true rfl) ?_
      refine e_istore aX8_best_45 (Nat.le_of_ble_eq_true rfl) ?_
      refine e_iload_n aX8_best_47 rfl ?_
      refine e_iconst (v := 1) aX8_best_48 (by decide) ?_
      refine e_iadd aX8_best_49 ?_
      refine e_top (nI_1 _) ?_
      refine e_istore aX8_best_50 (Nat.le_of_ble_eq_true rfl) ?_
      refine e_ls (ls' := [(0, some (vR (some 32))), (1, some (vI x)), (2, some (vI y)), (3, some (vI (nI (fo o f)))), (4, some (vI (wuR h (fo o f) x 12))), (5, some (vI (nI (fo o f + om f)))), (6, some (vI (nI (fo o f + 1))))]) ⟨rfl, rfl, rfl, rfl, rfl, rfl, rfl, trivial⟩ ?_
      exact loop (om f - 1) (fo o f + 1) (fo o f) (wuR h (fo o f) x 12) (by omega) rfl
    · -- 13: not taken
      have q13 := Decidable.of_not_not (fun z => c13 (b2_0.mpr z))
      refine e_aload_n aX8_best_16 rfl ?_
      refine e_iconst (v := 0) aX8_best_17 (by decide) ?_
      refine e_invvT aX8_best_18 kX8_62 (zfin X (k := 0) F (by decide)) rfl rfl (fx_is F rfl) (Nat.le_of_ble_eq_true rfl) (Nat.le_of_ble_eq_true rfl) (Nat.le_refl _) (Nat.le_refl _) (Nat.le_of_ble_eq_true rfl) ?_
      refine e_ireturn aX8_best_21 rfl (Nat.le_refl _) (Nat.le_refl _) ?_
      rw [if_neg q5, if_pos q13]
      exact ⟨rfl, rfl⟩
theorem zX8_hope (X : EX) {h : HP} (F : Fx h) {f : Nat} {o : Nat → Nat} (bf : BkF h f o) (x : Int32) : Ct X mX8_hope 3 0 0 [vR (some 32), vI x] h (if x < 0 ∨ 3 ≤ x then RF h 0 else if 4 ≤ f then RF h 3 else (Rt (vI (nI (hpR h x (fo o f) (stp f) 0 6 0 (-1)))) h)) := by
  refine ct_of rfl (Nat.le_of_ble_eq_true rfl) ?_
  have hb6 := om_fo bf.2.1 bf.2.2.2
  have hf4 := bf.2.1
  refine e_iload_n aX8_hope_0 rfl ?_
  refine e_iconst (v := 3) aX8_hope_1 (by decide) ?_
  refine e_invsT aX8_hope_2 kX8_58 (zX8_isOutside X _ _) rfl rfl (Nat.le_of_ble_eq_true rfl) (Nat.le_of_ble_eq_true rfl) (Nat.le_refl _) (Nat.le_refl _) (Nat.le_of_ble_eq_true rfl) ?_
  refine e_if_eq aX8_hope_5 (fun c5 => ?_) (fun c5 => ?_)
  · -- 5: taken
    have q5 := b2_0.mp c5
    refine e_aload_n aX8_hope_14 rfl ?_
    refine e_getRF aX8_hope_15 fX8_10 rfl (fx_is F rfl) (fx_r (b := 33) F rfl) ?_
    refine e_getIF aX8_hope_18 fX8_73 rfl (fx_is F rfl) bf.1 ?_
    refine e_iconst (v := 4) aX8_hope_21 (by decide) ?_
    refine e_icmp_lt aX8_hope_22 (fun c22 => ?_) (fun c22 => ?_)
    · -- 22: taken
      have q22 : ¬ 4 ≤ f := Nat.not_le.mpr ((nI_ltI (a := f) (b := 4) (by omega) (by decide)).mp c22)
      rw [if_neg q5, if_neg q22]
      have hst := stp_om (f := f) (by omega)
      have loop : ∀ (m : Nat) (k cz : Nat) (vz : Int64), k + m = 6 → hpR h x (fo o f) (stp f) k m cz vz = (hpR h x (fo o f) (stp f) 0 6 0 (-1)) → Ev X mX8_hope 3 0 0 (Rt (vI (nI (hpR h x (fo o f) (stp f) 0 6 0 (-1)))) h) 0 0 53 [(0, some (vR (some 32))), (1, some (vI x)), (2, some (vI (nI (stp f)))), (3, some (vI (nI cz))), (4, some (vL vz)), (6, some (vI (nI k)))] [] h := by
        intro m
        induction m with
        | zero =>
          intro k cz vz hk hR9
          obtain rfl : k = 6 := by omega
          refine e_iload aX8_hope_53 rfl ?_
          refine e_bipush (v := 6) aX8_hope_55 (by decide) ?_
          refine e_icmp_ge aX8_hope_57 (fun c57 => ?_) (fun c57 => ?_)
          · -- 57: taken
            refine e_iload_n aX8_hope_108 rfl ?_
            refine e_ireturn aX8_hope_109 rfl (Nat.le_refl _) (Nat.le_refl _) ?_
            rw [← hR9]
            exact ⟨rfl, rfl⟩
          · -- 57: not taken
            exact absurd (nI_le (a := 6) (b := 6) (by decide) (by decide)) c57
        | succ m ih =>
          intro k cz vz hk hR9
          have hmul : k * stp f + stp f ≤ 6 * stp f := by
            have h1 := Nat.mul_le_mul_right (stp f) (show k + 1 ≤ 6 by omega)
            rw [Nat.add_mul, Nat.one_mul] at h1
            exact h1
          refine e_iload aX8_hope_53 rfl ?_
          refine e_bipush (v := 6) aX8_hope_55 (by decide) ?_
          refine e_icmp_ge aX8_hope_57 (fun c57 => ?_) (fun c57 => ?_)
          · -- 57: taken
            exact absurd c57 (nI_ge (a := k) (b := 6) (by omega) (by decide))
          · -- 57: not taken
            refine e_aload_n aX8_hope_60 rfl ?_
            refine e_getRF aX8_hope_61 fX8_10 rfl (fx_is F rfl) (fx_r (b := 33) F rfl) ?_
            refine e_invvT aX8_hope_64 kX8_84 (zX0_firstOpen X F bf) rfl rfl (fx_is F rfl) (Nat.le_of_ble_eq_true rfl) (Nat.le_of_ble_eq_true rfl) (Nat.le_refl _) (Nat.le_refl _) (Nat.le_of_ble_eq_true rfl) ?_
            refine e_iload aX8_hope_67 rfl ?_
            refine e_iload_n aX8_hope_69 rfl ?_
            refine e_imul aX8_hope_70 ?_
            refine e_top (nI_mul _ _) ?_
            refine e_iadd aX8_hope_71 ?_
            refine e_top (nI_add _ _) ?_
            refine e_istore aX8_hope_72 (Nat.le_of_ble_eq_true rfl) ?_
            refine e_aload_n aX8_hope_74 rfl ?_
            refine e_iload aX8_hope_75 rfl ?_
            refine e_iload aX8_hope_77 rfl ?_
            refine e_iload_n aX8_hope_79 rfl ?_
            refine e_iadd aX8_hope_80 ?_
            refine e_top (nI_add _ _) ?_
            refine e_iload_n aX8_hope_81 rfl ?_
            refine e_invvT aX8_hope_82 kX8_194 (zX8_worthOver X F (a := fo o f + k * stp f) (q := stp f) (by omega) x) rfl rfl (fx_is F rfl) (Nat.le_of_ble_eq_true rfl) (Nat.le_of_ble_eq_true rfl) (Nat.le_refl _) (Nat.le_refl _) (Nat.le_of_ble_eq_true rfl) ?_
            refine e_lstore aX8_hope_85 (Nat.le_of_ble_eq_true rfl) ?_
            refine e_lload aX8_hope_87 rfl ?_
            refine e_lload aX8_hope_89 rfl ?_
            refine e_lcmp aX8_hope_91 ?_
            refine e_if_le aX8_hope_92 (fun c92 => ?_) (fun c92 => ?_)
            · -- 92: taken
              refine e_iinc aX8_hope_102 rfl rfl (Nat.le_of_ble_eq_true rfl) ?_
              refine e_goto aX8_hope_105 ?_
              refine e_ls (ls' := [(0, some (vR (some 32))), (1, some (vI x)), (2, some (vI (nI (stp f)))), (3, some (vI (nI cz))), (4, some (vL vz)), (6, some (vI (nI (k + 1))))]) ⟨rfl, rfl, rfl, rfl, rfl, congrArg (fun x => some (vI x)) (nI_1 k), trivial⟩ ?_
              exact ih (k + 1) cz vz (by omega) (by rw [← hR9, hpR_s, if_pos c92])
            · -- 92: not taken
              refine e_iload aX8_hope_95 rfl ?_
              refine e_istore_n aX8_hope_97 (Nat.le_of_ble_eq_true rfl) ?_
              refine e_lload aX8_hope_98 rfl ?_
              refine e_lstore aX8_hope_100 (Nat.le_of_ble_eq_true rfl) ?_
              refine e_iinc aX8_hope_102 rfl rfl (Nat.le_of_ble_eq_true rfl) ?_
              refine e_goto aX8_hope_105 ?_
              refine e_ls (ls' := [(0, some (vR (some 32))), (1, some (vI x)), (2, some (vI (nI (stp f)))), (3, some (vI (nI k))), (4, some (vL (woR h x (fo o f + k * stp f) (stp f)))), (6, some (vI (nI (k + 1))))]) ⟨rfl, rfl, rfl, rfl, rfl, congrArg (fun x => some (vI x)) (nI_1 k), trivial⟩ ?_
              exact ih (k + 1) k (woR h x (fo o f + k * stp f) (stp f)) (by omega) (by rw [← hR9, hpR_s, if_neg c92])
      refine e_gets (i := 2) aX8_hope_31 rfl gX8_198 ?_
      refine e_aload_n aX8_hope_34 rfl ?_
      refine e_getRF aX8_hope_35 fX8_10 rfl (fx_is F rfl) (fx_r (b := 33) F rfl) ?_
      refine e_getIF aX8_hope_38 fX8_73 rfl (fx_is F rfl) bf.1 ?_
      refine e_ialoadS aX8_hope_41 rfl (vin (N := 4) (by omega)) ?_
      refine e_top (st_step (by omega)) ?_
      refine e_istore_n aX8_hope_42 (Nat.le_of_ble_eq_true rfl) ?_
      refine e_iconst (v := 0) aX8_hope_43 (by decide) ?_
      refine e_istore_n aX8_hope_44 (Nat.le_of_ble_eq_true rfl) ?_
      refine e_ldc2 aX8_hope_45 lX8_201 ?_
      refine e_lstore aX8_hope_48 (Nat.le_of_ble_eq_true rfl) ?_
      refine e_iconst (v := 0) aX8_hope_50 (by decide) ?_
      refine e_istore aX8_hope_51 (Nat.le_of_ble_eq_true rfl) ?_
      refine e_ls (ls' := [(0, some (vR (some 32))), (1, some (vI x)), (2, some (vI (nI (stp f)))), (3, some (vI (nI 0))), (4, some (vL (-1))), (6, some (vI (nI 0)))]) ⟨rfl, rfl, rfl, rfl, rfl, rfl, trivial⟩ ?_
      exact loop 6 0 0 (-1) rfl rfl
    · -- 22: not taken
      have q22 : 4 ≤ f := Nat.not_lt.mp ((not_congr (nI_ltI (a := f) (b := 4) (by omega) (by decide))).mp c22)
      refine e_aload_n aX8_hope_25 rfl ?_
      refine e_iconst (v := 3) aX8_hope_26 (by decide) ?_
      refine e_invvT aX8_hope_27 kX8_62 (zfin X (k := 3) F (by decide)) rfl rfl (fx_is F rfl) (Nat.le_of_ble_eq_true rfl) (Nat.le_of_ble_eq_true rfl) (Nat.le_refl _) (Nat.le_refl _) (Nat.le_of_ble_eq_true rfl) ?_
      refine e_ireturn aX8_hope_30 rfl (Nat.le_refl _) (Nat.le_refl _) ?_
      rw [if_neg q5, if_pos q22]
      exact ⟨rfl, rfl⟩
  · -- 5: not taken
    have q5 := Decidable.of_not_not (fun z => c5 (b2_0.mpr z))
    refine e_aload_n aX8_hope_8 rfl ?_
    refine e_iconst (v := 0) aX8_hope_9 (by decide) ?_
    refine e_invvT aX8_hope_10 kX8_62 (zfin X (k := 0) F (by decide)) rfl rfl (fx_is F rfl) (Nat.le_of_ble_eq_true rfl) (Nat.le_of_ble_eq_true rfl) (Nat.le_refl _) (Nat.le_refl _) (Nat.le_of_ble_eq_true rfl) ?_
    refine e_ireturn aX8_hope_13 rfl (Nat.le_refl _) (Nat.le_refl _) ?_
    rw [if_pos q5]
    exact ⟨rfl, rfl⟩
