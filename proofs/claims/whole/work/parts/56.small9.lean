/-! the reference: its small acts (written by wip/whole/g56.py) -/
theorem zic (X : EX) {h : HP} (x e : Int32) {N : Nat} {lb : Int64} (he : nI N = e) (hN : 1 ≤ N) (hN2 : N ≤ 1073741824) (hb : lN (N - 1) = lb) : Ct X mX9_in 0 0 0 [vL x.toInt64, vL 0, vL lb] h (Rt (vI (b2 (¬ (x < 0 ∨ e ≤ x)))) h) := by
  subst he
  exact zio X x hN hN2 hb
theorem zib (X : EX) {h : HP} (x a b : Int32) {la lb : Int64} (ha : a.toInt64 = la) (hb : b.toInt64 = lb) : Ct X mX9_in 0 0 0 [vL x.toInt64, vL la, vL lb] h (Rt (vI (b2 (¬ (x < a ∨ b < x)))) h) := by
  have e : (a ≤ x ∧ x ≤ b) ↔ ¬ (x < a ∨ b < x) := by
    rw [Int32.le_iff_toInt_le, Int32.le_iff_toInt_le, Int32.lt_iff_toInt_lt, Int32.lt_iff_toInt_lt]
    omega
  rw [← b2_c e]
  exact zin X x a b ha hb
theorem clubA_b {a b : Nat} (ha : a < 6) (hb : b < 3) : clubA a b < 3 := clubA_lt a ha b hb
theorem zX9_areTwo (X : EX) {h : HP} (x y : Int32) : Ct X mX9_areTwo 2 0 0 [vI x, vI y] h (Rt (vI (b2 (¬ ((x < 0 ∨ 3 ≤ x) ∨ (y < 0 ∨ 3 ≤ y) ∨ x = y)))) h) := by
  refine ct_of rfl (Nat.le_of_ble_eq_true rfl) ?_
  refine e_iload_n aX9_areTwo_0 rfl ?_
  refine e_invsT aX9_areTwo_1 kX9_191 (zX9_isClub X _) rfl rfl (Nat.le_of_ble_eq_true rfl) (Nat.le_of_ble_eq_true rfl) (Nat.le_refl _) (Nat.le_refl _) (Nat.le_of_ble_eq_true rfl) ?_
  refine e_if_eq aX9_areTwo_4 (fun c4 => ?_) (fun c4 => ?_)
  · -- 4: taken
    have q4 := Decidable.of_not_not (b2_0.mp c4)
    refine e_iconst (v := 0) aX9_areTwo_23 (by decide) ?_
    refine e_zreturn aX9_areTwo_24 rfl (by decide) (Nat.le_refl _) (Nat.le_refl _) ?_
    exact ⟨by rw [b2_f (fun z => z (Or.inl q4))], rfl⟩
  · -- 4: not taken
    have q4 := Decidable.of_not_not (fun z => c4 (b2_0.mpr z))
    refine e_iload_n aX9_areTwo_7 rfl ?_
    refine e_invsT aX9_areTwo_8 kX9_191 (zX9_isClub X _) rfl rfl (Nat.le_of_ble_eq_true rfl) (Nat.le_of_ble_eq_true rfl) (Nat.le_refl _) (Nat.le_refl _) (Nat.le_of_ble_eq_true rfl) ?_
    refine e_if_eq aX9_areTwo_11 (fun c11 => ?_) (fun c11 => ?_)
    · -- 11: taken
      have q11 := Decidable.of_not_not (b2_0.mp c11)
      refine e_iconst (v := 0) aX9_areTwo_23 (by decide) ?_
      refine e_zreturn aX9_areTwo_24 rfl (by decide) (Nat.le_refl _) (Nat.le_refl _) ?_
      exact ⟨by rw [b2_f (fun z => z (Or.inr (Or.inl q11)))], rfl⟩
    · -- 11: not taken
      have q11 := Decidable.of_not_not (fun z => c11 (b2_0.mpr z))
      refine e_iload_n aX9_areTwo_14 rfl ?_
      refine e_iload_n aX9_areTwo_15 rfl ?_
      refine e_icmp_eq aX9_areTwo_16 (fun c16 => ?_) (fun c16 => ?_)
      · -- 16: taken
        have q16 : x = y := c16
        refine e_iconst (v := 0) aX9_areTwo_23 (by decide) ?_
        refine e_zreturn aX9_areTwo_24 rfl (by decide) (Nat.le_refl _) (Nat.le_refl _) ?_
        exact ⟨by rw [b2_f (fun z => z (Or.inr (Or.inr q16)))], rfl⟩
      · -- 16: not taken
        have q16 : ¬ x = y := c16
        refine e_iconst (v := 1) aX9_areTwo_19 (by decide) ?_
        refine e_goto aX9_areTwo_20 ?_
        refine e_zreturn aX9_areTwo_24 rfl (by decide) (Nat.le_refl _) (Nat.le_refl _) ?_
        exact ⟨by rw [b2_t (show ¬ ((x < 0 ∨ 3 ≤ x) ∨ (y < 0 ∨ 3 ≤ y) ∨ x = y) from fun z => z.elim q4 (fun z => z.elim q11 q16))], rfl⟩
theorem zX9_areOfYear (X : EX) {h : HP} (x y : Int32) : Ct X mX9_areOfYear 2 0 0 [vI x, vI y] h (Rt (vI (b2 (¬ (x < 0 ∨ 12 ≤ x) ∧ ¬ (y < 0 ∨ 12 ≤ y) ∧ ¬ x = y ∧ x.toNatClampNeg / 3 = y.toNatClampNeg / 3))) h) := by
  refine ct_of rfl (Nat.le_of_ble_eq_true rfl) ?_
  refine e_iload_n aX9_areOfYear_0 rfl ?_
  refine e_invsT aX9_areOfYear_1 kX9_136 (zX9_isPick X _) rfl rfl (Nat.le_of_ble_eq_true rfl) (Nat.le_of_ble_eq_true rfl) (Nat.le_refl _) (Nat.le_refl _) (Nat.le_of_ble_eq_true rfl) ?_
  refine e_if_eq aX9_areOfYear_4 (fun c4 => ?_) (fun c4 => ?_)
  · -- 4: taken
    have q4 := Decidable.of_not_not (b2_0.mp c4)
    refine e_iconst (v := 0) aX9_areOfYear_32 (by decide) ?_
    refine e_zreturn aX9_areOfYear_33 rfl (by decide) (Nat.le_refl _) (Nat.le_refl _) ?_
    exact ⟨by rw [b2_f (fun z => z.1 q4)], rfl⟩
  · -- 4: not taken
    have q4 := Decidable.of_not_not (fun z => c4 (b2_0.mpr z))
    refine e_iload_n aX9_areOfYear_7 rfl ?_
    refine e_invsT aX9_areOfYear_8 kX9_136 (zX9_isPick X _) rfl rfl (Nat.le_of_ble_eq_true rfl) (Nat.le_of_ble_eq_true rfl) (Nat.le_refl _) (Nat.le_refl _) (Nat.le_of_ble_eq_true rfl) ?_
    refine e_if_eq aX9_areOfYear_11 (fun c11 => ?_) (fun c11 => ?_)
    · -- 11: taken
      have q11 := Decidable.of_not_not (b2_0.mp c11)
      refine e_iconst (v := 0) aX9_areOfYear_32 (by decide) ?_
      refine e_zreturn aX9_areOfYear_33 rfl (by decide) (Nat.le_refl _) (Nat.le_refl _) ?_
      exact ⟨by rw [b2_f (fun z => z.2.1 q11)], rfl⟩
    · -- 11: not taken
      have q11 := Decidable.of_not_not (fun z => c11 (b2_0.mpr z))
      obtain ⟨pz, hp, rfl⟩ := ou_of 12 (by decide) q4
      obtain ⟨qz, hq, rfl⟩ := ou_of 12 (by decide) q11
      refine e_iload_n aX9_areOfYear_14 rfl ?_
      refine e_iload_n aX9_areOfYear_15 rfl ?_
      refine e_icmp_eq aX9_areOfYear_16 (fun c16 => ?_) (fun c16 => ?_)
      · -- 16: taken
        have q16 : nI pz = nI qz := c16
        refine e_iconst (v := 0) aX9_areOfYear_32 (by decide) ?_
        refine e_zreturn aX9_areOfYear_33 rfl (by decide) (Nat.le_refl _) (Nat.le_refl _) ?_
        exact ⟨by rw [b2_f (fun z => z.2.2.1 q16)], rfl⟩
      · -- 16: not taken
        have q16 : ¬ nI pz = nI qz := c16
        refine e_iload_n aX9_areOfYear_19 rfl ?_
        refine e_iconst (v := 3) aX9_areOfYear_20 (by decide) ?_
        refine e_idiv aX9_areOfYear_21 (by decide) ?_
        refine e_top (nI_div (b := 3) (by omega) (by decide) (by decide)) ?_
        refine e_iload_n aX9_areOfYear_22 rfl ?_
        refine e_iconst (v := 3) aX9_areOfYear_23 (by decide) ?_
        refine e_idiv aX9_areOfYear_24 (by decide) ?_
        refine e_top (nI_div (b := 3) (by omega) (by decide) (by decide)) ?_
        refine e_icmp_ne aX9_areOfYear_25 (fun c25 => ?_) (fun c25 => ?_)
        · -- 25: taken
          have q25 : ¬ pz / 3 = qz / 3 := fun z => c25 (by rw [z])
          refine e_iconst (v := 0) aX9_areOfYear_32 (by decide) ?_
          refine e_zreturn aX9_areOfYear_33 rfl (by decide) (Nat.le_refl _) (Nat.le_refl _) ?_
          exact ⟨by rw [b2_f (fun z => q25 (by have z := z.2.2.2; rw [cl (by omega), cl (by omega)] at z; exact z))], rfl⟩
        · -- 25: not taken
          have q25 : pz / 3 = qz / 3 := (nI_eq (by omega) (by omega)).mp c25
          refine e_iconst (v := 1) aX9_areOfYear_28 (by decide) ?_
          refine e_goto aX9_areOfYear_29 ?_
          refine e_zreturn aX9_areOfYear_33 rfl (by decide) (Nat.le_refl _) (Nat.le_refl _) ?_
          exact ⟨by rw [b2_t ⟨q4, q11, q16, by rw [cl (by omega), cl (by omega)]; exact q25⟩], rfl⟩
theorem zX9_isDeal (X : EX) {h : HP} (F : Fx h) {n : Nat} {D : Nat → DD} (md : MkD h n D) (x : Int32) : Ct X mX9_isDeal 1 0 0 [vR (some 109), vI x] h (Rt (vI (b2 (¬ (x < 0 ∨ nI n ≤ x)))) h) := by
  refine ct_of rfl (Nat.le_of_ble_eq_true rfl) ?_
  have hn12 := md.2.1
  refine e_iload_n aX9_isDeal_0 rfl ?_
  refine e_i2l aX9_isDeal_1 ?_
  refine e_lconst (v := 0) aX9_isDeal_2 rfl ?_
  refine e_aload_n aX9_isDeal_3 rfl ?_
  refine e_getIF aX9_isDeal_4 fX9_89 rfl (fx_is F rfl) md.1 ?_
  refine e_iconst (v := 1) aX9_isDeal_7 (by decide) ?_
  refine e_isub aX9_isDeal_8 ?_
  refine e_i2l aX9_isDeal_9 ?_
  refine e_invsT aX9_isDeal_10 kX9_108 (zil X x (by omega)) rfl rfl (Nat.le_of_ble_eq_true rfl) (Nat.le_of_ble_eq_true rfl) (Nat.le_refl _) (Nat.le_refl _) (Nat.le_of_ble_eq_true rfl) ?_
  refine e_zreturn aX9_isDeal_13 rfl b2_b (Nat.le_refl _) (Nat.le_refl _) ?_
  exact ⟨rfl, rfl⟩
theorem zX9_order (X : EX) {h : HP} (F : Fx h) (x y : Int32) : Ct X mX9_order 1 0 0 [vR (some 109), vI x, vI y] h (if x < 0 ∨ 6 ≤ x then RM h 0 else if y < 0 ∨ 3 ≤ y then RM h 0 else Rt (vI (nI (clubA x.toNatClampNeg y.toNatClampNeg))) h) := by
  refine ct_of rfl (Nat.le_of_ble_eq_true rfl) ?_
  refine e_iload_n aX9_order_0 rfl ?_
  refine e_i2l aX9_order_1 ?_
  refine e_lconst (v := 0) aX9_order_2 rfl ?_
  refine e_ldc2 aX9_order_3 lX9_126 ?_
  refine e_invsT aX9_order_6 kX9_108 (zic X _ 6 (N := 6) rfl (by decide) (by decide) rfl) rfl rfl (Nat.le_of_ble_eq_true rfl) (Nat.le_of_ble_eq_true rfl) (Nat.le_refl _) (Nat.le_refl _) (Nat.le_of_ble_eq_true rfl) ?_
  refine e_if_eq aX9_order_9 (fun c9 => ?_) (fun c9 => ?_)
  · -- 9: taken
    have q9 := Decidable.of_not_not (b2_0.mp c9)
    refine e_aload_n aX9_order_32 rfl ?_
    refine e_iconst (v := 0) aX9_order_33 (by decide) ?_
    refine e_invvT aX9_order_34 kX9_128 (zX9_finds X F (k := 0) (by decide)) rfl rfl (fx_is F rfl) (Nat.le_of_ble_eq_true rfl) (Nat.le_of_ble_eq_true rfl) (Nat.le_refl _) (Nat.le_refl _) (Nat.le_of_ble_eq_true rfl) ?_
    refine e_ireturn aX9_order_37 rfl (Nat.le_refl _) (Nat.le_refl _) ?_
    rw [if_pos q9]
    exact ⟨rfl, rfl⟩
  · -- 9: not taken
    have q9 := Decidable.of_not_not (fun z => c9 (b2_0.mpr z))
    refine e_iload_n aX9_order_12 rfl ?_
    refine e_i2l aX9_order_13 ?_
    refine e_lconst (v := 0) aX9_order_14 rfl ?_
    refine e_ldc2 aX9_order_15 lX9_114 ?_
    refine e_invsT aX9_order_18 kX9_108 (zic X _ 3 (N := 3) rfl (by decide) (by decide) rfl) rfl rfl (Nat.le_of_ble_eq_true rfl) (Nat.le_of_ble_eq_true rfl) (Nat.le_refl _) (Nat.le_refl _) (Nat.le_of_ble_eq_true rfl) ?_
    refine e_if_eq aX9_order_21 (fun c21 => ?_) (fun c21 => ?_)
    · -- 21: taken
      have q21 := Decidable.of_not_not (b2_0.mp c21)
      refine e_aload_n aX9_order_32 rfl ?_
      refine e_iconst (v := 0) aX9_order_33 (by decide) ?_
      refine e_invvT aX9_order_34 kX9_128 (zX9_finds X F (k := 0) (by decide)) rfl rfl (fx_is F rfl) (Nat.le_of_ble_eq_true rfl) (Nat.le_of_ble_eq_true rfl) (Nat.le_refl _) (Nat.le_refl _) (Nat.le_of_ble_eq_true rfl) ?_
      refine e_ireturn aX9_order_37 rfl (Nat.le_refl _) (Nat.le_refl _) ?_
      rw [if_neg q9, if_pos q21]
      exact ⟨rfl, rfl⟩
    · -- 21: not taken
      have q21 := Decidable.of_not_not (fun z => c21 (b2_0.mpr z))
      obtain ⟨oz, ho, rfl⟩ := ou_of 6 (by decide) q9
      obtain ⟨pz, hp, rfl⟩ := ou_of 3 (by decide) q21
      refine e_iload_n aX9_order_24 rfl ?_
      refine e_iload_n aX9_order_25 rfl ?_
      refine e_invsT aX9_order_26 kX9_99 (zX9_clubAt X ho hp) rfl rfl (Nat.le_of_ble_eq_true rfl) (Nat.le_of_ble_eq_true rfl) (Nat.le_refl _) (Nat.le_refl _) (Nat.le_of_ble_eq_true rfl) ?_
      refine e_goto aX9_order_29 ?_
      refine e_ireturn aX9_order_37 rfl (Nat.le_refl _) (Nat.le_refl _) ?_
      rw [if_neg q9, if_neg q21, cl (by omega), cl (by omega)]
      exact ⟨rfl, rfl⟩
theorem zX9_place (X : EX) {h : HP} (F : Fx h) (x y : Int32) : Ct X mX9_place 3 0 0 [vR (some 109), vI x, vI y] h (if x < 0 ∨ 1296 ≤ x then RM h 0 else if y < 0 ∨ 12 ≤ y then RM h 0 else Rt (vI (nI (pl x.toNatClampNeg y.toNatClampNeg))) h) := by
  refine ct_of rfl (Nat.le_of_ble_eq_true rfl) ?_
  refine e_iload_n aX9_place_0 rfl ?_
  refine e_invsT aX9_place_1 kX9_132 (zX9_isStanding X _) rfl rfl (Nat.le_of_ble_eq_true rfl) (Nat.le_of_ble_eq_true rfl) (Nat.le_refl _) (Nat.le_refl _) (Nat.le_of_ble_eq_true rfl) ?_
  refine e_if_eq aX9_place_4 (fun c4 => ?_) (fun c4 => ?_)
  · -- 4: taken
    have q4 := Decidable.of_not_not (b2_0.mp c4)
    refine e_aload_n aX9_place_22 rfl ?_
    refine e_iconst (v := 0) aX9_place_23 (by decide) ?_
    refine e_invvT aX9_place_24 kX9_128 (zX9_finds X F (k := 0) (by decide)) rfl rfl (fx_is F rfl) (Nat.le_of_ble_eq_true rfl) (Nat.le_of_ble_eq_true rfl) (Nat.le_refl _) (Nat.le_refl _) (Nat.le_of_ble_eq_true rfl) ?_
    refine e_ireturn aX9_place_27 rfl (Nat.le_refl _) (Nat.le_refl _) ?_
    rw [if_pos q4]
    exact ⟨rfl, rfl⟩
  · -- 4: not taken
    have q4 := Decidable.of_not_not (fun z => c4 (b2_0.mpr z))
    refine e_iload_n aX9_place_7 rfl ?_
    refine e_invsT aX9_place_8 kX9_136 (zX9_isPick X _) rfl rfl (Nat.le_of_ble_eq_true rfl) (Nat.le_of_ble_eq_true rfl) (Nat.le_refl _) (Nat.le_refl _) (Nat.le_of_ble_eq_true rfl) ?_
    refine e_if_eq aX9_place_11 (fun c11 => ?_) (fun c11 => ?_)
    · -- 11: taken
      have q11 := Decidable.of_not_not (b2_0.mp c11)
      refine e_aload_n aX9_place_22 rfl ?_
      refine e_iconst (v := 0) aX9_place_23 (by decide) ?_
      refine e_invvT aX9_place_24 kX9_128 (zX9_finds X F (k := 0) (by decide)) rfl rfl (fx_is F rfl) (Nat.le_of_ble_eq_true rfl) (Nat.le_of_ble_eq_true rfl) (Nat.le_refl _) (Nat.le_refl _) (Nat.le_of_ble_eq_true rfl) ?_
      refine e_ireturn aX9_place_27 rfl (Nat.le_refl _) (Nat.le_refl _) ?_
      rw [if_neg q4, if_pos q11]
      exact ⟨rfl, rfl⟩
    · -- 11: not taken
      have q11 := Decidable.of_not_not (fun z => c11 (b2_0.mpr z))
      obtain ⟨oz, ho, rfl⟩ := ou_of 1296 (by decide) q4
      obtain ⟨pz, hp, rfl⟩ := ou_of 12 (by decide) q11
      refine e_iload_n aX9_place_14 rfl ?_
      refine e_iload_n aX9_place_15 rfl ?_
      refine e_invsT aX9_place_16 kX9_139 (zX9_placeOf X ho hp) rfl rfl (Nat.le_of_ble_eq_true rfl) (Nat.le_of_ble_eq_true rfl) (Nat.le_refl _) (Nat.le_refl _) (Nat.le_of_ble_eq_true rfl) ?_
      refine e_goto aX9_place_19 ?_
      refine e_ireturn aX9_place_27 rfl (Nat.le_refl _) (Nat.le_refl _) ?_
      rw [if_neg q4, if_neg q11, cl (by omega), cl (by omega)]
      exact ⟨rfl, rfl⟩
theorem zX9_fall (X : EX) {h : HP} (F : Fx h) {f : Nat} {o : Nat → Nat} (mf : MkF h f o) (x : Int32) : Ct X mX9_fall 1 0 0 [vR (some 109), vI x] h (if x < 0 ∨ 6 ≤ x then RM h 0 else if 4 ≤ f then RM h 3 else Rt (vI (nI (f + 1))) (wI (wI h 111 f x) 109 1 (nI (f + 1)))) := by
  refine ct_of rfl (Nat.le_of_ble_eq_true rfl) ?_
  have hf4 := mf.2.1
  refine e_iload_n aX9_fall_0 rfl ?_
  refine e_i2l aX9_fall_1 ?_
  refine e_lconst (v := 0) aX9_fall_2 rfl ?_
  refine e_ldc2 aX9_fall_3 lX9_126 ?_
  refine e_invsT aX9_fall_6 kX9_108 (zic X _ 6 (N := 6) rfl (by decide) (by decide) rfl) rfl rfl (Nat.le_of_ble_eq_true rfl) (Nat.le_of_ble_eq_true rfl) (Nat.le_refl _) (Nat.le_refl _) (Nat.le_of_ble_eq_true rfl) ?_
  refine e_if_ne aX9_fall_9 (fun c9 => ?_) (fun c9 => ?_)
  · -- 9: taken
    have q9 := Decidable.of_not_not (fun z => c9 (b2_0.mpr z))
    refine e_aload_n aX9_fall_18 rfl ?_
    refine e_getIF aX9_fall_19 fX9_116 rfl (fx_is F rfl) mf.1 ?_
    refine e_iconst (v := 4) aX9_fall_22 (by decide) ?_
    refine e_icmp_ne aX9_fall_23 (fun c23 => ?_) (fun c23 => ?_)
    · -- 23: taken
      have q23 : ¬ 4 ≤ f := fun z => c23 (by rw [show f = 4 by omega]; rfl)
      refine e_aload_n aX9_fall_32 rfl ?_
      refine e_getRF aX9_fall_33 fX9_13 rfl (fx_is F rfl) (fx_r (b := 111) F rfl) ?_
      refine e_aload_n aX9_fall_36 rfl ?_
      refine e_getIF aX9_fall_37 fX9_116 rfl (fx_is F rfl) mf.1 ?_
      refine e_iload_n aX9_fall_40 rfl ?_
      refine e_iastoreF aX9_fall_41 (fx_is F rfl) (fx_n (n := 4) F rfl) (vin (N := 4) (by omega)) ?_
      rw [cl (by omega)]
      refine e_aload_n aX9_fall_42 rfl ?_
      refine e_dup aX9_fall_43 rfl ?_
      refine e_getIF aX9_fall_44 fX9_116 rfl (fx_is F rfl) ((wI_a (by decide)).trans mf.1) ?_
      refine e_iconst (v := 1) aX9_fall_47 (by decide) ?_
      refine e_iadd aX9_fall_48 ?_
      refine e_top (nI_1 f) ?_
      refine e_putI aX9_fall_49 fX9_116 rfl (fx_is F rfl) (Or.inl rfl) ?_
      refine e_aload_n aX9_fall_52 rfl ?_
      refine e_getIF aX9_fall_53 fX9_116 rfl (fx_is F rfl) wI_s ?_
      refine e_ireturn aX9_fall_56 rfl (Nat.le_refl _) (Nat.le_refl _) ?_
      rw [if_neg q9, if_neg q23]
      exact ⟨rfl, rfl⟩
    · -- 23: not taken
      have q23 : 4 ≤ f := Nat.le_of_eq ((nI_eq (a := f) (b := 4) (by omega) (by decide)).mp c23).symm
      refine e_aload_n aX9_fall_26 rfl ?_
      refine e_iconst (v := 3) aX9_fall_27 (by decide) ?_
      refine e_invvT aX9_fall_28 kX9_128 (zX9_finds X F (k := 3) (by decide)) rfl rfl (fx_is F rfl) (Nat.le_of_ble_eq_true rfl) (Nat.le_of_ble_eq_true rfl) (Nat.le_refl _) (Nat.le_refl _) (Nat.le_of_ble_eq_true rfl) ?_
      refine e_ireturn aX9_fall_31 rfl (Nat.le_refl _) (Nat.le_refl _) ?_
      rw [if_neg q9, if_pos q23]
      exact ⟨rfl, rfl⟩
  · -- 9: not taken
    have q9 := Decidable.of_not_not (b2_0.mp c9)
    refine e_aload_n aX9_fall_12 rfl ?_
    refine e_iconst (v := 0) aX9_fall_13 (by decide) ?_
    refine e_invvT aX9_fall_14 kX9_128 (zX9_finds X F (k := 0) (by decide)) rfl rfl (fx_is F rfl) (Nat.le_of_ble_eq_true rfl) (Nat.le_of_ble_eq_true rfl) (Nat.le_refl _) (Nat.le_refl _) (Nat.le_of_ble_eq_true rfl) ?_
    refine e_ireturn aX9_fall_17 rfl (Nat.le_refl _) (Nat.le_refl _) ?_
    rw [if_pos q9]
    exact ⟨rfl, rfl⟩
theorem zX9_fallen (X : EX) {h : HP} (F : Fx h) {f : Nat} {o : Nat → Nat} (mf : MkF h f o) (x : Int32) : Ct X mX9_fallen 1 0 0 [vR (some 109), vI x] h (if x < 0 ∨ 4 ≤ x then RM h 0 else if x.toNatClampNeg < f then Rt (vI (nI (o x.toNatClampNeg))) h else RM h 3) := by
  refine ct_of rfl (Nat.le_of_ble_eq_true rfl) ?_
  have hf4 := mf.2.1
  refine e_iload_n aX9_fallen_0 rfl ?_
  refine e_i2l aX9_fallen_1 ?_
  refine e_lconst (v := 0) aX9_fallen_2 rfl ?_
  refine e_ldc2 aX9_fallen_3 lX9_142 ?_
  refine e_invsT aX9_fallen_6 kX9_108 (zic X _ 4 (N := 4) rfl (by decide) (by decide) rfl) rfl rfl (Nat.le_of_ble_eq_true rfl) (Nat.le_of_ble_eq_true rfl) (Nat.le_refl _) (Nat.le_refl _) (Nat.le_of_ble_eq_true rfl) ?_
  refine e_if_ne aX9_fallen_9 (fun c9 => ?_) (fun c9 => ?_)
  · -- 9: taken
    have q9 := Decidable.of_not_not (fun z => c9 (b2_0.mpr z))
    obtain ⟨yz, hy, rfl⟩ := ou_of 4 (by decide) q9
    refine e_iload_n aX9_fallen_18 rfl ?_
    refine e_aload_n aX9_fallen_19 rfl ?_
    refine e_getIF aX9_fallen_20 fX9_116 rfl (fx_is F rfl) mf.1 ?_
    refine e_icmp_ge aX9_fallen_23 (fun c23 => ?_) (fun c23 => ?_)
    · -- 23: taken
      have q23 := (not_congr (nI_ltI (a := yz) (b := f) (by omega) (by omega))).mp (Int32.not_lt.mpr c23)
      refine e_aload_n aX9_fallen_35 rfl ?_
      refine e_iconst (v := 3) aX9_fallen_36 (by decide) ?_
      refine e_invvT aX9_fallen_37 kX9_128 (zX9_finds X F (k := 3) (by decide)) rfl rfl (fx_is F rfl) (Nat.le_of_ble_eq_true rfl) (Nat.le_of_ble_eq_true rfl) (Nat.le_refl _) (Nat.le_refl _) (Nat.le_of_ble_eq_true rfl) ?_
      refine e_ireturn aX9_fallen_40 rfl (Nat.le_refl _) (Nat.le_refl _) ?_
      rw [if_neg q9, cl (by omega), if_neg q23]
      exact ⟨rfl, rfl⟩
    · -- 23: not taken
      have q23 := (nI_ltI (a := yz) (b := f) (by omega) (by omega)).mp (Int32.not_le.mp c23)
      refine e_aload_n aX9_fallen_26 rfl ?_
      refine e_getRF aX9_fallen_27 fX9_13 rfl (fx_is F rfl) (fx_r (b := 111) F rfl) ?_
      refine e_iload_n aX9_fallen_30 rfl ?_
      refine e_ialoadF aX9_fallen_31 (fx_is F rfl) (fx_n (n := 4) F rfl) (vin (N := 4) (by omega)) (show hI h 111 (nI yz).toNatClampNeg = nI (o yz) by rw [cl (by omega)]; exact mf.2.2.1 _ q23) ?_
      refine e_goto aX9_fallen_32 ?_
      refine e_ireturn aX9_fallen_40 rfl (Nat.le_refl _) (Nat.le_refl _) ?_
      rw [if_neg q9, cl (by omega), if_pos q23]
      exact ⟨rfl, rfl⟩
  · -- 9: not taken
    have q9 := Decidable.of_not_not (b2_0.mp c9)
    refine e_aload_n aX9_fallen_12 rfl ?_
    refine e_iconst (v := 0) aX9_fallen_13 (by decide) ?_
    refine e_invvT aX9_fallen_14 kX9_128 (zX9_finds X F (k := 0) (by decide)) rfl rfl (fx_is F rfl) (Nat.le_of_ble_eq_true rfl) (Nat.le_of_ble_eq_true rfl) (Nat.le_refl _) (Nat.le_refl _) (Nat.le_of_ble_eq_true rfl) ?_
    refine e_ireturn aX9_fallen_17 rfl (Nat.le_refl _) (Nat.le_refl _) ?_
    rw [if_pos q9]
    exact ⟨rfl, rfl⟩
theorem zX9_draw (X : EX) {h : HP} (F : Fx h) {f : Nat} {o : Nat → Nat} (mf : MkF h f o) : Ct X mX9_draw 1 0 0 [vR (some 109)] h (Rt (vI (dz (hI h 109 3 * 1103515245 + 12345) (fo o f) (om f))) (wI h 109 3 (hI h 109 3 * 1103515245 + 12345))) := by
  refine ct_of rfl (Nat.le_of_ble_eq_true rfl) ?_
  have hf4 := mf.2.1
  have hmf : MkF (wI h 109 3 (hI h 109 3 * 1103515245 + 12345)) f o := ⟨(wI_i (by decide)).trans mf.1, hf4, fun y q => (wI_a (by decide)).trans (mf.2.2.1 y q), mf.2.2.2⟩
  refine e_aload_n aX9_draw_0 rfl ?_
  refine e_aload_n aX9_draw_1 rfl ?_
  refine e_getI aX9_draw_2 fX9_16 rfl (fx_is F rfl) ?_
  refine e_ldc aX9_draw_5 lX9_144 ?_
  refine e_imul aX9_draw_7 ?_
  refine e_sipush (v := 12345) aX9_draw_8 (by decide) ?_
  refine e_iadd aX9_draw_11 ?_
  refine e_putI aX9_draw_12 fX9_16 rfl (fx_is F rfl) (Or.inl rfl) ?_
  refine e_aload_n aX9_draw_15 rfl ?_
  refine e_invvT aX9_draw_16 kX9_119 (zX9_openFrom X (h := wI h 109 3 (hI h 109 3 * 1103515245 + 12345)) F (f := f) (o := o) hmf) rfl rfl (fx_is F rfl) (Nat.le_of_ble_eq_true rfl) (Nat.le_of_ble_eq_true rfl) (Nat.le_refl _) (Nat.le_refl _) (Nat.le_of_ble_eq_true rfl) ?_
  refine e_aload_n aX9_draw_19 rfl ?_
  refine e_getIF aX9_draw_20 fX9_16 rfl (fx_is F rfl) wI_s ?_
  refine e_bipush (v := 8) aX9_draw_23 (by decide) ?_
  refine e_iushr aX9_draw_25 ?_
  refine e_aload_n aX9_draw_26 rfl ?_
  refine e_invvT aX9_draw_27 kX9_123 (zX9_openMany X (h := wI h 109 3 (hI h 109 3 * 1103515245 + 12345)) F (f := f) (o := o) hmf) rfl rfl (fx_is F rfl) (Nat.le_of_ble_eq_true rfl) (Nat.le_of_ble_eq_true rfl) (Nat.le_refl _) (Nat.le_refl _) (Nat.le_of_ble_eq_true rfl) ?_
  refine e_irem aX9_draw_30 (nI_ne0 (om_pos hf4) (om_le hf4)) ?_
  refine e_iadd aX9_draw_31 ?_
  refine e_ireturn aX9_draw_32 rfl (Nat.le_refl _) (Nat.le_refl _) ?_
  exact ⟨rfl, rfl⟩
theorem zX9_holds (X : EX) {h : HP} (F : Fx h) {n : Nat} {D : Nat → DD} (md : MkD h n D) (x y : Int32) : Ct X mX9_holds 2 0 0 [vR (some 109), vI x, vI y] h (if x < 0 ∨ nI n ≤ x then RM h 0 else if y < 0 ∨ 1296 ≤ y then RM h 0 else Rt (vI (b2 (dB (D x.toNatClampNeg) y.toNatClampNeg = true))) h) := by
  refine ct_of rfl (Nat.le_of_ble_eq_true rfl) ?_
  have hn12 := md.2.1
  refine e_aload_n aX9_holds_0 rfl ?_
  refine e_iload_n aX9_holds_1 rfl ?_
  refine e_invvT aX9_holds_2 kX9_207 (zX9_isDeal X F md _) rfl rfl (fx_is F rfl) (Nat.le_of_ble_eq_true rfl) (Nat.le_of_ble_eq_true rfl) (Nat.le_refl _) (Nat.le_refl _) (Nat.le_of_ble_eq_true rfl) ?_
  refine e_if_eq aX9_holds_5 (fun c5 => ?_) (fun c5 => ?_)
  · -- 5: taken
    have q5 := Decidable.of_not_not (b2_0.mp c5)
    refine e_aload_n aX9_holds_15 rfl ?_
    refine e_iconst (v := 0) aX9_holds_16 (by decide) ?_
    refine e_invvT aX9_holds_17 kX9_128 (zX9_finds X F (k := 0) (by decide)) rfl rfl (fx_is F rfl) (Nat.le_of_ble_eq_true rfl) (Nat.le_of_ble_eq_true rfl) (Nat.le_refl _) (Nat.le_refl _) (Nat.le_of_ble_eq_true rfl) ?_
    refine e_ireturn aX9_holds_20 rfl (Nat.le_refl _) (Nat.le_refl _) ?_
    rw [if_pos q5]
    exact ⟨rfl, rfl⟩
  · -- 5: not taken
    have q5 := Decidable.of_not_not (fun z => c5 (b2_0.mpr z))
    obtain ⟨kz, hk, rfl⟩ := ou_of n (by omega) q5
    refine e_iload_n aX9_holds_8 rfl ?_
    refine e_invsT aX9_holds_9 kX9_132 (zX9_isStanding X _) rfl rfl (Nat.le_of_ble_eq_true rfl) (Nat.le_of_ble_eq_true rfl) (Nat.le_refl _) (Nat.le_refl _) (Nat.le_of_ble_eq_true rfl) ?_
    refine e_if_ne aX9_holds_12 (fun c12 => ?_) (fun c12 => ?_)
    · -- 12: taken
      have q12 := Decidable.of_not_not (fun z => c12 (b2_0.mpr z))
      obtain ⟨sz, hs, rfl⟩ := ou_of 1296 (by decide) q12
      refine e_aload_n aX9_holds_21 rfl ?_
      refine e_iload_n aX9_holds_22 rfl ?_
      refine e_iload_n aX9_holds_23 rfl ?_
      refine e_invvT aX9_holds_24 kX9_151 (zX9_isHolding X F (by omega) hs (md.2.2 kz hk).2.2.2.2.2.2.2.2) rfl rfl (fx_is F rfl) (Nat.le_of_ble_eq_true rfl) (Nat.le_of_ble_eq_true rfl) (Nat.le_refl _) (Nat.le_refl _) (Nat.le_of_ble_eq_true rfl) ?_
      refine e_if_eq aX9_holds_27 (fun c27 => ?_) (fun c27 => ?_)
      · -- 27: taken
        have q27 := b2_0.mp c27
        refine e_iconst (v := 0) aX9_holds_34 (by decide) ?_
        refine e_ireturn aX9_holds_35 rfl (Nat.le_refl _) (Nat.le_refl _) ?_
        rw [if_neg q5, if_neg q12, cl (by omega), cl (by omega), b2_f q27]
        exact ⟨rfl, rfl⟩
      · -- 27: not taken
        have q27 := Decidable.of_not_not (fun z => c27 (b2_0.mpr z))
        refine e_iconst (v := 1) aX9_holds_30 (by decide) ?_
        refine e_goto aX9_holds_31 ?_
        refine e_ireturn aX9_holds_35 rfl (Nat.le_refl _) (Nat.le_refl _) ?_
        rw [if_neg q5, if_neg q12, cl (by omega), cl (by omega), b2_t q27]
        exact ⟨rfl, rfl⟩
    · -- 12: not taken
      have q12 := Decidable.of_not_not (b2_0.mp c12)
      refine e_aload_n aX9_holds_15 rfl ?_
      refine e_iconst (v := 0) aX9_holds_16 (by decide) ?_
      refine e_invvT aX9_holds_17 kX9_128 (zX9_finds X F (k := 0) (by decide)) rfl rfl (fx_is F rfl) (Nat.le_of_ble_eq_true rfl) (Nat.le_of_ble_eq_true rfl) (Nat.le_refl _) (Nat.le_refl _) (Nat.le_of_ble_eq_true rfl) ?_
      refine e_ireturn aX9_holds_20 rfl (Nat.le_refl _) (Nat.le_refl _) ?_
      rw [if_neg q5, if_pos q12]
      exact ⟨rfl, rfl⟩
def rM (h : HP) : Option Nat → Option VV → HP → Prop
  | none => RM h 3
  | some p => Rt (vI (nI p)) h
theorem zX9_conveys (X : EX) {h : HP} (F : Fx h) {n : Nat} {D : Nat → DD} (md : MkD h n D) (x y w : Int32) : Ct X mX9_conveys 6 0 0 [vR (some 109), vI x, vI y, vI w] h (if x < 0 ∨ nI n ≤ x then RM h 0 else if y < 0 ∨ 1296 ≤ y then RM h 0 else if w < 0 ∨ 2 ≤ w then RM h 0 else rM h (if w = 0 then gv (D x.toNatClampNeg) y.toNatClampNeg else gb (D x.toNatClampNeg) y.toNatClampNeg)) := by
  refine ct_of rfl (Nat.le_of_ble_eq_true rfl) ?_
  have hn12 := md.2.1
  refine e_aload_n aX9_conveys_0 rfl ?_
  refine e_iload_n aX9_conveys_1 rfl ?_
  refine e_invvT aX9_conveys_2 kX9_207 (zX9_isDeal X F md _) rfl rfl (fx_is F rfl) (Nat.le_of_ble_eq_true rfl) (Nat.le_of_ble_eq_true rfl) (Nat.le_refl _) (Nat.le_refl _) (Nat.le_of_ble_eq_true rfl) ?_
  refine e_if_eq aX9_conveys_5 (fun c5 => ?_) (fun c5 => ?_)
  · -- 5: taken
    have q5 := Decidable.of_not_not (b2_0.mp c5)
    refine e_aload_n aX9_conveys_25 rfl ?_
    refine e_iconst (v := 0) aX9_conveys_26 (by decide) ?_
    refine e_invvT aX9_conveys_27 kX9_128 (zX9_finds X F (k := 0) (by decide)) rfl rfl (fx_is F rfl) (Nat.le_of_ble_eq_true rfl) (Nat.le_of_ble_eq_true rfl) (Nat.le_refl _) (Nat.le_refl _) (Nat.le_of_ble_eq_true rfl) ?_
    refine e_ireturn aX9_conveys_30 rfl (Nat.le_refl _) (Nat.le_refl _) ?_
    rw [if_pos q5]
    exact ⟨rfl, rfl⟩
  · -- 5: not taken
    have q5 := Decidable.of_not_not (fun z => c5 (b2_0.mpr z))
    obtain ⟨kz, hk, rfl⟩ := ou_of n (by omega) q5
    refine e_iload_n aX9_conveys_8 rfl ?_
    refine e_invsT aX9_conveys_9 kX9_132 (zX9_isStanding X _) rfl rfl (Nat.le_of_ble_eq_true rfl) (Nat.le_of_ble_eq_true rfl) (Nat.le_refl _) (Nat.le_refl _) (Nat.le_of_ble_eq_true rfl) ?_
    refine e_if_eq aX9_conveys_12 (fun c12 => ?_) (fun c12 => ?_)
    · -- 12: taken
      have q12 := Decidable.of_not_not (b2_0.mp c12)
      refine e_aload_n aX9_conveys_25 rfl ?_
      refine e_iconst (v := 0) aX9_conveys_26 (by decide) ?_
      refine e_invvT aX9_conveys_27 kX9_128 (zX9_finds X F (k := 0) (by decide)) rfl rfl (fx_is F rfl) (Nat.le_of_ble_eq_true rfl) (Nat.le_of_ble_eq_true rfl) (Nat.le_refl _) (Nat.le_refl _) (Nat.le_of_ble_eq_true rfl) ?_
      refine e_ireturn aX9_conveys_30 rfl (Nat.le_refl _) (Nat.le_refl _) ?_
      rw [if_neg q5, if_pos q12]
      exact ⟨rfl, rfl⟩
    · -- 12: not taken
      have q12 := Decidable.of_not_not (fun z => c12 (b2_0.mpr z))
      refine e_iload_n aX9_conveys_15 rfl ?_
      refine e_i2l aX9_conveys_16 ?_
      refine e_lconst (v := 0) aX9_conveys_17 rfl ?_
      refine e_lconst (v := 1) aX9_conveys_18 rfl ?_
      refine e_invsT aX9_conveys_19 kX9_108 (zic X _ 2 (N := 2) rfl (by decide) (by decide) rfl) rfl rfl (Nat.le_of_ble_eq_true rfl) (Nat.le_of_ble_eq_true rfl) (Nat.le_refl _) (Nat.le_refl _) (Nat.le_of_ble_eq_true rfl) ?_
      refine e_if_ne aX9_conveys_22 (fun c22 => ?_) (fun c22 => ?_)
      · -- 22: taken
        have q22 := Decidable.of_not_not (fun z => c22 (b2_0.mpr z))
        obtain ⟨sz, hs, rfl⟩ := ou_of 1296 (by decide) q12
        obtain ⟨wz, hw, rfl⟩ := ou_of 2 (by decide) q22
        have hcb := cvW_b (md.2.2 kz hk).1 (s := sz) (i := wz)
        have ew : (if nI wz = 0 then gv (D kz) sz else gb (D kz) sz) = cvW (D kz) sz wz := by
          unfold cvW
          rcases (show wz = 0 ∨ wz = 1 by omega) with rfl | rfl <;> rfl
        refine e_aload_n aX9_conveys_31 rfl ?_
        refine e_iload_n aX9_conveys_32 rfl ?_
        refine e_iload_n aX9_conveys_33 rfl ?_
        refine e_iload_n aX9_conveys_34 rfl ?_
        refine e_invvT aX9_conveys_35 kX9_158 (zX9_conveyed X F (by omega) hs (md.2.2 kz hk) hw) rfl rfl (fx_is F rfl) (Nat.le_of_ble_eq_true rfl) (Nat.le_of_ble_eq_true rfl) (Nat.le_refl _) (Nat.le_refl _) (Nat.le_of_ble_eq_true rfl) ?_
        refine e_istore aX9_conveys_38 (Nat.le_of_ble_eq_true rfl) ?_
        refine e_iload aX9_conveys_40 rfl ?_
        refine e_iconst (v := -1) aX9_conveys_42 (by decide) ?_
        refine e_icmp_ne aX9_conveys_43 (fun c43 => ?_) (fun c43 => ?_)
        · -- 43: taken
          have q43 := (not_congr (oI_m1 hcb)).mp c43
          obtain ⟨pz, q44⟩ := Option.ne_none_iff_exists'.mp q43
          refine e_iload aX9_conveys_54 rfl ?_
          refine e_ireturn aX9_conveys_56 rfl (Nat.le_refl _) (Nat.le_refl _) ?_
          rw [if_neg q5, if_neg q12, if_neg q22, cl (by omega), cl (by omega), ew, q44]
          exact ⟨rfl, rfl⟩
        · -- 43: not taken
          have q43 := (oI_m1 hcb).mp c43
          refine e_aload_n aX9_conveys_46 rfl ?_
          refine e_iconst (v := 3) aX9_conveys_47 (by decide) ?_
          refine e_invvT aX9_conveys_48 kX9_128 (zX9_finds X F (k := 3) (by decide)) rfl rfl (fx_is F rfl) (Nat.le_of_ble_eq_true rfl) (Nat.le_of_ble_eq_true rfl) (Nat.le_refl _) (Nat.le_refl _) (Nat.le_of_ble_eq_true rfl) ?_
          refine e_goto aX9_conveys_51 ?_
          refine e_ireturn aX9_conveys_56 rfl (Nat.le_refl _) (Nat.le_refl _) ?_
          rw [if_neg q5, if_neg q12, if_neg q22, cl (by omega), cl (by omega), ew, q43]
          exact ⟨rfl, rfl⟩
      · -- 22: not taken
        have q22 := Decidable.of_not_not (b2_0.mp c22)
        refine e_aload_n aX9_conveys_25 rfl ?_
        refine e_iconst (v := 0) aX9_conveys_26 (by decide) ?_
        refine e_invvT aX9_conveys_27 kX9_128 (zX9_finds X F (k := 0) (by decide)) rfl rfl (fx_is F rfl) (Nat.le_of_ble_eq_true rfl) (Nat.le_of_ble_eq_true rfl) (Nat.le_refl _) (Nat.le_refl _) (Nat.le_of_ble_eq_true rfl) ?_
        refine e_ireturn aX9_conveys_30 rfl (Nat.le_refl _) (Nat.le_refl _) ?_
        rw [if_neg q5, if_neg q12, if_pos q22]
        exact ⟨rfl, rfl⟩
theorem zX9_drop (X : EX) {h : HP} (F : Fx h) {n : Nat} {D : Nat → DD} (md : MkD h n D) : Ct X mX9_drop 1 0 0 [vR (some 109)] h (if n = 0 then RM h 3 else Rt (vI (nI (n - 1))) (wI h 109 4 (nI (n - 1)))) := by
  refine ct_of rfl (Nat.le_of_ble_eq_true rfl) ?_
  have hn12 := md.2.1
  refine e_aload_n aX9_drop_0 rfl ?_
  refine e_getIF aX9_drop_1 fX9_89 rfl (fx_is F rfl) md.1 ?_
  refine e_if_ne aX9_drop_4 (fun c4 => ?_) (fun c4 => ?_)
  · -- 4: taken
    have q4 : ¬ n = 0 := fun z => c4 (by rw [z]; rfl)
    refine e_aload_n aX9_drop_13 rfl ?_
    refine e_dup aX9_drop_14 rfl ?_
    refine e_getIF aX9_drop_15 fX9_89 rfl (fx_is F rfl) md.1 ?_
    refine e_iconst (v := 1) aX9_drop_18 (by decide) ?_
    refine e_isub aX9_drop_19 ?_
    refine e_top (nI_subN (b := 1) (by omega)) ?_
    refine e_putI aX9_drop_20 fX9_89 rfl (fx_is F rfl) (Or.inl rfl) ?_
    refine e_aload_n aX9_drop_23 rfl ?_
    refine e_getIF aX9_drop_24 fX9_89 rfl (fx_is F rfl) wI_s ?_
    refine e_ireturn aX9_drop_27 rfl (Nat.le_refl _) (Nat.le_refl _) ?_
    rw [if_neg q4]
    exact ⟨rfl, rfl⟩
  · -- 4: not taken
    have q4 : n = 0 := (nI_eq (a := n) (b := 0) (by omega) (by decide)).mp (Decidable.of_not_not (fun z => z c4))
    refine e_aload_n aX9_drop_7 rfl ?_
    refine e_iconst (v := 3) aX9_drop_8 (by decide) ?_
    refine e_invvT aX9_drop_9 kX9_128 (zX9_finds X F (k := 3) (by decide)) rfl rfl (fx_is F rfl) (Nat.le_of_ble_eq_true rfl) (Nat.le_of_ble_eq_true rfl) (Nat.le_refl _) (Nat.le_refl _) (Nat.le_of_ble_eq_true rfl) ?_
    refine e_ireturn aX9_drop_12 rfl (Nat.le_refl _) (Nat.le_refl _) ?_
    rw [if_pos q4]
    exact ⟨rfl, rfl⟩
theorem zX9_clash (X : EX) {h : HP} (F : Fx h) (x : Int32) : Ct X mX9_clash 1 0 0 [vR (some 109), vI x] h (if x < 0 ∨ 3 ≤ x then RM h 0 else Rt (vI (hI h 114 x.toNatClampNeg)) h) := by
  refine ct_of rfl (Nat.le_of_ble_eq_true rfl) ?_
  refine e_iload_n aX9_clash_0 rfl ?_
  refine e_i2l aX9_clash_1 ?_
  refine e_lconst (v := 0) aX9_clash_2 rfl ?_
  refine e_ldc2 aX9_clash_3 lX9_114 ?_
  refine e_invsT aX9_clash_6 kX9_108 (zic X _ 3 (N := 3) rfl (by decide) (by decide) rfl) rfl rfl (Nat.le_of_ble_eq_true rfl) (Nat.le_of_ble_eq_true rfl) (Nat.le_refl _) (Nat.le_refl _) (Nat.le_of_ble_eq_true rfl) ?_
  refine e_if_eq aX9_clash_9 (fun c9 => ?_) (fun c9 => ?_)
  · -- 9: taken
    have q9 := Decidable.of_not_not (b2_0.mp c9)
    refine e_aload_n aX9_clash_21 rfl ?_
    refine e_iconst (v := 0) aX9_clash_22 (by decide) ?_
    refine e_invvT aX9_clash_23 kX9_128 (zX9_finds X F (k := 0) (by decide)) rfl rfl (fx_is F rfl) (Nat.le_of_ble_eq_true rfl) (Nat.le_of_ble_eq_true rfl) (Nat.le_refl _) (Nat.le_refl _) (Nat.le_of_ble_eq_true rfl) ?_
    refine e_ireturn aX9_clash_26 rfl (Nat.le_refl _) (Nat.le_refl _) ?_
    rw [if_pos q9]
    exact ⟨rfl, rfl⟩
  · -- 9: not taken
    have q9 := Decidable.of_not_not (fun z => c9 (b2_0.mpr z))
    obtain ⟨wz, hw, rfl⟩ := ou_of 3 (by decide) q9
    refine e_aload_n aX9_clash_12 rfl ?_
    refine e_getRF aX9_clash_13 fX9_26 rfl (fx_is F rfl) (fx_r (b := 114) F rfl) ?_
    refine e_iload_n aX9_clash_16 rfl ?_
    refine e_ialoadF aX9_clash_17 (fx_is F rfl) (fx_n (n := 3) F rfl) (vin hw) rfl ?_
    refine e_goto aX9_clash_18 ?_
    refine e_ireturn aX9_clash_26 rfl (Nat.le_refl _) (Nat.le_refl _) ?_
    rw [if_neg q9]
    exact ⟨rfl, rfl⟩
theorem zX9_price (X : EX) {h : HP} (F : Fx h) (x y : Int32) : Ct X mX9_price 1 0 0 [vR (some 109), vI x, vI y] h (if x < 0 ∨ 3 ≤ x then RM h 0 else if y < 0 ∨ 1000 ≤ y then RM h 0 else Rt (vI (hI h 117 x.toNatClampNeg)) (wI h 117 x.toNatClampNeg y)) := by
  refine ct_of rfl (Nat.le_of_ble_eq_true rfl) ?_
  refine e_iload_n aX9_price_0 rfl ?_
  refine e_i2l aX9_price_1 ?_
  refine e_lconst (v := 0) aX9_price_2 rfl ?_
  refine e_ldc2 aX9_price_3 lX9_114 ?_
  refine e_invsT aX9_price_6 kX9_108 (zic X _ 3 (N := 3) rfl (by decide) (by decide) rfl) rfl rfl (Nat.le_of_ble_eq_true rfl) (Nat.le_of_ble_eq_true rfl) (Nat.le_refl _) (Nat.le_refl _) (Nat.le_of_ble_eq_true rfl) ?_
  refine e_if_eq aX9_price_9 (fun c9 => ?_) (fun c9 => ?_)
  · -- 9: taken
    have q9 := Decidable.of_not_not (b2_0.mp c9)
    refine e_aload_n aX9_price_24 rfl ?_
    refine e_iconst (v := 0) aX9_price_25 (by decide) ?_
    refine e_invvT aX9_price_26 kX9_128 (zX9_finds X F (k := 0) (by decide)) rfl rfl (fx_is F rfl) (Nat.le_of_ble_eq_true rfl) (Nat.le_of_ble_eq_true rfl) (Nat.le_refl _) (Nat.le_refl _) (Nat.le_of_ble_eq_true rfl) ?_
    refine e_ireturn aX9_price_29 rfl (Nat.le_refl _) (Nat.le_refl _) ?_
    rw [if_pos q9]
    exact ⟨rfl, rfl⟩
  · -- 9: not taken
    have q9 := Decidable.of_not_not (fun z => c9 (b2_0.mpr z))
    obtain ⟨iz, hi3, rfl⟩ := ou_of 3 (by decide) q9
    refine e_iload_n aX9_price_12 rfl ?_
    refine e_i2l aX9_price_13 ?_
    refine e_lconst (v := 0) aX9_price_14 rfl ?_
    refine e_ldc2 aX9_price_15 lX9_231 ?_
    refine e_invsT aX9_price_18 kX9_108 (zic X _ 1000 (N := 1000) rfl (by decide) (by decide) rfl) rfl rfl (Nat.le_of_ble_eq_true rfl) (Nat.le_of_ble_eq_true rfl) (Nat.le_refl _) (Nat.le_refl _) (Nat.le_of_ble_eq_true rfl) ?_
    refine e_if_ne aX9_price_21 (fun c21 => ?_) (fun c21 => ?_)
    · -- 21: taken
      have q21 := Decidable.of_not_not (fun z => c21 (b2_0.mpr z))
      refine e_aload_n aX9_price_30 rfl ?_
      refine e_getRF aX9_price_31 fX9_35 rfl (fx_is F rfl) (fx_r (b := 117) F rfl) ?_
      refine e_iload_n aX9_price_34 rfl ?_
      refine e_ialoadF aX9_price_35 (fx_is F rfl) (fx_n (n := 3) F rfl) (vin hi3) rfl ?_
      refine e_istore_n aX9_price_36 (Nat.le_of_ble_eq_true rfl) ?_
      refine e_aload_n aX9_price_37 rfl ?_
      refine e_getRF aX9_price_38 fX9_35 rfl (fx_is F rfl) (fx_r (b := 117) F rfl) ?_
      refine e_iload_n aX9_price_41 rfl ?_
      refine e_iload_n aX9_price_42 rfl ?_
      refine e_iastoreF aX9_price_43 (fx_is F rfl) (fx_n (n := 3) F rfl) (vin hi3) ?_
      refine e_iload_n aX9_price_44 rfl ?_
      refine e_ireturn aX9_price_45 rfl (Nat.le_refl _) (Nat.le_refl _) ?_
      rw [if_neg q9, if_neg q21]
      exact ⟨rfl, rfl⟩
    · -- 21: not taken
      have q21 := Decidable.of_not_not (b2_0.mp c21)
      refine e_aload_n aX9_price_24 rfl ?_
      refine e_iconst (v := 0) aX9_price_25 (by decide) ?_
      refine e_invvT aX9_price_26 kX9_128 (zX9_finds X F (k := 0) (by decide)) rfl rfl (fx_is F rfl) (Nat.le_of_ble_eq_true rfl) (Nat.le_of_ble_eq_true rfl) (Nat.le_refl _) (Nat.le_refl _) (Nat.le_of_ble_eq_true rfl) ?_
      refine e_ireturn aX9_price_29 rfl (Nat.le_refl _) (Nat.le_refl _) ?_
      rw [if_neg q9, if_pos q21]
      exact ⟨rfl, rfl⟩
theorem zX9_seed (X : EX) {h : HP} (F : Fx h) (x : Int32) : Ct X mX9_seed 0 0 0 [vR (some 109), vI x] h (Rt (vI (hI h 109 3)) (wI h 109 3 x)) := by
  refine ct_of rfl (Nat.le_of_ble_eq_true rfl) ?_
  refine e_aload_n aX9_seed_0 rfl ?_
  refine e_getI aX9_seed_1 fX9_16 rfl (fx_is F rfl) ?_
  refine e_istore_n aX9_seed_4 (Nat.le_of_ble_eq_true rfl) ?_
  refine e_aload_n aX9_seed_5 rfl ?_
  refine e_iload_n aX9_seed_6 rfl ?_
  refine e_putI aX9_seed_7 fX9_16 rfl (fx_is F rfl) (Or.inl rfl) ?_
  refine e_iload_n aX9_seed_10 rfl ?_
  refine e_ireturn aX9_seed_11 rfl (Nat.le_refl _) (Nat.le_refl _) ?_
  exact ⟨rfl, rfl⟩
theorem zX9_wipe (X : EX) {h : HP} (F : Fx h) : Ct X mX9_wipe 0 0 0 [vR (some 109)] h (Rt (vI (hI h 109 14)) (wI h 109 14 0)) := by
  refine ct_of rfl (Nat.le_of_ble_eq_true rfl) ?_
  refine e_aload_n aX9_wipe_0 rfl ?_
  refine e_getI aX9_wipe_1 fX9_248 rfl (fx_is F rfl) ?_
  refine e_istore_n aX9_wipe_4 (Nat.le_of_ble_eq_true rfl) ?_
  refine e_aload_n aX9_wipe_5 rfl ?_
  refine e_iconst (v := 0) aX9_wipe_6 (by decide) ?_
  refine e_putI aX9_wipe_7 fX9_248 rfl (fx_is F rfl) (Or.inl rfl) ?_
  refine e_iload_n aX9_wipe_10 rfl ?_
  refine e_ireturn aX9_wipe_11 rfl (Nat.le_refl _) (Nat.le_refl _) ?_
  exact ⟨rfl, rfl⟩
def fsm (h : HP) (x : Int32) : Nat → Int32
  | 0 => 0
  | i + 1 => fsm h x i + (if x < 0 ∨ x = nI i then hI h 110 i else 0)
theorem fsm_s {h : HP} {x : Int32} {i : Nat} : fsm h x (i + 1) = fsm h x i + (if x < 0 ∨ x = nI i then hI h 110 i else 0) := rfl
theorem zX9_status (X : EX) {h : HP} (F : Fx h) (x : Int32) : Ct X mX9_status 1 0 0 [vR (some 109), vI x] h (if x < -1 ∨ 7 < x then RM h 0 else Rt (vI (fsm h x 8)) h) := by
  refine ct_of rfl (Nat.le_of_ble_eq_true rfl) ?_
  have loop : ¬ (x < -1 ∨ 7 < x) → ∀ (m : Nat) (k : Nat), k + m = 8 → Ev X mX9_status 1 0 0 (if x < -1 ∨ 7 < x then RM h 0 else Rt (vI (fsm h x 8)) h) 0 0 24 [(0, some (vR (some 109))), (1, some (vI x)), (2, some (vI (fsm h x k))), (3, some (vI (nI k)))] [] h := by
    intro q11 m
    induction m with
    | zero =>
      intro k hk
      obtain rfl : k = 8 := by omega
      refine e_iload_n aX9_status_24 rfl ?_
      refine e_bipush (v := 8) aX9_status_25 (by decide) ?_
      refine e_icmp_ge aX9_status_27 (fun c27 => ?_) (fun c27 => ?_)
      · -- 27: taken
        refine e_iload_n aX9_status_58 rfl ?_
        refine e_ireturn aX9_status_59 rfl (Nat.le_refl _) (Nat.le_refl _) ?_
        rw [if_neg q11]
        exact ⟨rfl, rfl⟩
      · -- 27: not taken
        exact absurd (nI_le (a := 8) (b := 8) (by decide) (by decide)) c27
    | succ m ih =>
      intro k hk
      refine e_iload_n aX9_status_24 rfl ?_
      refine e_bipush (v := 8) aX9_status_25 (by decide) ?_
      refine e_icmp_ge aX9_status_27 (fun c27 => ?_) (fun c27 => ?_)
      · -- 27: taken
        exact absurd c27 (nI_ge (a := k) (b := 8) (by omega) (by decide))
      · -- 27: not taken
        refine e_iload_n aX9_status_30 rfl ?_
        refine e_iload_n aX9_status_31 rfl ?_
        refine e_if_lt aX9_status_32 (fun c32 => ?_) (fun c32 => ?_)
        · -- 32: taken
          refine e_aload_n aX9_status_40 rfl ?_
          refine e_getRF aX9_status_41 fX9_7 rfl (fx_is F rfl) (fx_r (b := 110) F rfl) ?_
          refine e_iload_n aX9_status_44 rfl ?_
          refine e_ialoadF aX9_status_45 (fx_is F rfl) (fx_n (n := 8) F rfl) (vin (N := 8) (by omega)) (show hI h 110 (nI k).toNatClampNeg = hI h 110 k by rw [cl (by omega)]) ?_
          refine e_goto aX9_status_46 ?_
          refine e_iadd aX9_status_50 ?_
          refine e_istore_n aX9_status_51 (Nat.le_of_ble_eq_true rfl) ?_
          refine e_iinc aX9_status_52 rfl rfl (Nat.le_of_ble_eq_true rfl) ?_
          refine e_goto aX9_status_55 ?_
          refine e_ls (ls' := [(0, some (vR (some 109))), (1, some (vI x)), (2, some (vI (fsm h x (k + 1)))), (3, some (vI (nI (k + 1))))]) ⟨rfl, rfl, congrArg (fun x => some (vI x)) (by rw [fsm_s, if_pos (Or.inl c32)]), congrArg (fun x => some (vI x)) (nI_1 k), trivial⟩ ?_
          exact ih (k + 1) (by omega)
        · -- 32: not taken
          refine e_iload_n aX9_status_35 rfl ?_
          refine e_iload_n aX9_status_36 rfl ?_
          refine e_icmp_ne aX9_status_37 (fun c37 => ?_) (fun c37 => ?_)
          · -- 37: taken
            refine e_iconst (v := 0) aX9_status_49 (by decide) ?_
            refine e_iadd aX9_status_50 ?_
            refine e_istore_n aX9_status_51 (Nat.le_of_ble_eq_true rfl) ?_
            refine e_iinc aX9_status_52 rfl rfl (Nat.le_of_ble_eq_true rfl) ?_
            refine e_goto aX9_status_55 ?_
            refine e_ls (ls' := [(0, some (vR (some 109))), (1, some (vI x)), (2, some (vI (fsm h x (k + 1)))), (3, some (vI (nI (k + 1))))]) ⟨rfl, rfl, congrArg (fun x => some (vI x)) (by rw [fsm_s, if_neg (fun z => z.elim c32 c37)]), congrArg (fun x => some (vI x)) (nI_1 k), trivial⟩ ?_
            exact ih (k + 1) (by omega)
          · -- 37: not taken
            refine e_aload_n aX9_status_40 rfl ?_
            refine e_getRF aX9_status_41 fX9_7 rfl (fx_is F rfl) (fx_r (b := 110) F rfl) ?_
            refine e_iload_n aX9_status_44 rfl ?_
            refine e_ialoadF aX9_status_45 (fx_is F rfl) (fx_n (n := 8) F rfl) (vin (N := 8) (by omega)) (show hI h 110 (nI k).toNatClampNeg = hI h 110 k by rw [cl (by omega)]) ?_
            refine e_goto aX9_status_46 ?_
            refine e_iadd aX9_status_50 ?_
            refine e_istore_n aX9_status_51 (Nat.le_of_ble_eq_true rfl) ?_
            refine e_iinc aX9_status_52 rfl rfl (Nat.le_of_ble_eq_true rfl) ?_
            refine e_goto aX9_status_55 ?_
            refine e_ls (ls' := [(0, some (vR (some 109))), (1, some (vI x)), (2, some (vI (fsm h x (k + 1)))), (3, some (vI (nI (k + 1))))]) ⟨rfl, rfl, congrArg (fun x => some (vI x)) (by rw [fsm_s, if_pos (Or.inr c37)]), congrArg (fun x => some (vI x)) (nI_1 k), trivial⟩ ?_
            exact ih (k + 1) (by omega)
  refine e_iload_n aX9_status_0 rfl ?_
  refine e_i2l aX9_status_1 ?_
  refine e_ldc2 aX9_status_2 lX9_244 ?_
  refine e_ldc2 aX9_status_5 lX9_210 ?_
  refine e_invsT aX9_status_8 kX9_108 (zib X x (-1) 7 rfl rfl) rfl rfl (Nat.le_of_ble_eq_true rfl) (Nat.le_of_ble_eq_true rfl) (Nat.le_refl _) (Nat.le_refl _) (Nat.le_of_ble_eq_true rfl) ?_
  refine e_if_ne aX9_status_11 (fun c11 => ?_) (fun c11 => ?_)
  · -- 11: taken
    have q11 := Decidable.of_not_not (fun z => c11 (b2_0.mpr z))
    refine e_iconst (v := 0) aX9_status_20 (by decide) ?_
    refine e_istore_n aX9_status_21 (Nat.le_of_ble_eq_true rfl) ?_
    refine e_iconst (v := 0) aX9_status_22 (by decide) ?_
    refine e_istore_n aX9_status_23 (Nat.le_of_ble_eq_true rfl) ?_
    refine e_ls (ls' := [(0, some (vR (some 109))), (1, some (vI x)), (2, some (vI (fsm h x 0))), (3, some (vI (nI 0)))]) ⟨rfl, rfl, rfl, rfl, trivial⟩ ?_
    exact loop q11 8 0 (by omega)
  · -- 11: not taken
    have q11 := Decidable.of_not_not (b2_0.mp c11)
    refine e_aload_n aX9_status_14 rfl ?_
    refine e_iconst (v := 0) aX9_status_15 (by decide) ?_
    refine e_invvT aX9_status_16 kX9_128 (zX9_finds X F (k := 0) (by decide)) rfl rfl (fx_is F rfl) (Nat.le_of_ble_eq_true rfl) (Nat.le_of_ble_eq_true rfl) (Nat.le_refl _) (Nat.le_refl _) (Nat.le_of_ble_eq_true rfl) ?_
    refine e_ireturn aX9_status_19 rfl (Nat.le_refl _) (Nat.le_refl _) ?_
    rw [if_pos q11]
    exact ⟨rfl, rfl⟩
def cntM (h : HP) (f n : Nat) : Nat → Int32
  | 0 => nI n
  | 1 => nI f
  | 2 => nI (om f)
  | 3 => hI h 109 35
  | 4 => hI h 109 3
  | 5 => hI h 109 14
  | _ => hI h 128 0 + hI h 128 1 + hI h 128 2 + hI h 128 3
theorem zX9_count (X : EX) {h : HP} (F : Fx h) {f n : Nat} {o : Nat → Nat} {D : Nat → DD} (mf : MkF h f o) (md : MkD h n D) (x : Int32) : Ct X mX9_count 1 0 0 [vR (some 109), vI x] h (if x < 0 ∨ nI 7 ≤ x then RM h 0 else Rt (vI (cntM h f n x.toNatClampNeg)) h) := by
  refine ct_of rfl (Nat.le_of_ble_eq_true rfl) ?_
  refine e_iload_n aX9_count_0 rfl ?_
  by_cases q1 : x < 0 ∨ nI 7 ≤ x
  rotate_left
  obtain ⟨iz, hi7, rfl⟩ := ou_of 7 (by decide) q1
  rw [if_neg q1, cl (by omega)]
  rcases (show iz = 0 ∨ iz = 1 ∨ iz = 2 ∨ iz = 3 ∨ iz = 4 ∨ iz = 5 ∨ iz = 6 by omega) with rfl | rfl | rfl | rfl | rfl | rfl | rfl
  rotate_left 7
  rw [if_pos q1]
  rotate_right 7
  · -- switch
    refine e_tableIn (tgt := 44) aX9_count_1 (by decide) (by decide) rfl (by decide) ?_
    refine e_aload_n aX9_count_44 rfl ?_
    refine e_getIF aX9_count_45 fX9_89 rfl (fx_is F rfl) md.1 ?_
    refine e_ireturn aX9_count_48 rfl (Nat.le_refl _) (Nat.le_refl _) ?_
    exact ⟨rfl, rfl⟩
  · -- switch
    refine e_tableIn (tgt := 49) aX9_count_1 (by decide) (by decide) rfl (by decide) ?_
    refine e_aload_n aX9_count_49 rfl ?_
    refine e_getIF aX9_count_50 fX9_116 rfl (fx_is F rfl) mf.1 ?_
    refine e_ireturn aX9_count_53 rfl (Nat.le_refl _) (Nat.le_refl _) ?_
    exact ⟨rfl, rfl⟩
  · -- switch
    refine e_tableIn (tgt := 54) aX9_count_1 (by decide) (by decide) rfl (by decide) ?_
    refine e_aload_n aX9_count_54 rfl ?_
    refine e_invvT aX9_count_55 kX9_123 (zX9_openMany X F mf) rfl rfl (fx_is F rfl) (Nat.le_of_ble_eq_true rfl) (Nat.le_of_ble_eq_true rfl) (Nat.le_refl _) (Nat.le_refl _) (Nat.le_of_ble_eq_true rfl) ?_
    refine e_ireturn aX9_count_58 rfl (Nat.le_refl _) (Nat.le_refl _) ?_
    exact ⟨rfl, rfl⟩
  · -- switch
    refine e_tableIn (tgt := 59) aX9_count_1 (by decide) (by decide) rfl (by decide) ?_
    refine e_aload_n aX9_count_59 rfl ?_
    refine e_getI aX9_count_60 fX9_365 rfl (fx_is F rfl) ?_
    refine e_ireturn aX9_count_63 rfl (Nat.le_refl _) (Nat.le_refl _) ?_
    exact ⟨rfl, rfl⟩
  · -- switch
    refine e_tableIn (tgt := 64) aX9_count_1 (by decide) (by decide) rfl (by decide) ?_
    refine e_aload_n aX9_count_64 rfl ?_
    refine e_getI aX9_count_65 fX9_16 rfl (fx_is F rfl) ?_
    refine e_ireturn aX9_count_68 rfl (Nat.le_refl _) (Nat.le_refl _) ?_
    exact ⟨rfl, rfl⟩
  · -- switch
    refine e_tableIn (tgt := 69) aX9_count_1 (by decide) (by decide) rfl (by decide) ?_
    refine e_aload_n aX9_count_69 rfl ?_
    refine e_getI aX9_count_70 fX9_248 rfl (fx_is F rfl) ?_
    refine e_ireturn aX9_count_73 rfl (Nat.le_refl _) (Nat.le_refl _) ?_
    exact ⟨rfl, rfl⟩
  · -- switch
    refine e_tableIn (tgt := 74) aX9_count_1 (by decide) (by decide) rfl (by decide) ?_
    refine e_aload_n aX9_count_74 rfl ?_
    refine e_getRF aX9_count_75 fX9_71 rfl (fx_is F rfl) (fx_r (b := 128) F rfl) ?_
    refine e_iconst (v := 0) aX9_count_78 (by decide) ?_
    refine e_ialoadF aX9_count_79 (fx_is F rfl) (fx_n (n := 4) F rfl) (vin (n := 0) (N := 4) (by decide)) rfl ?_
    refine e_aload_n aX9_count_80 rfl ?_
    refine e_getRF aX9_count_81 fX9_71 rfl (fx_is F rfl) (fx_r (b := 128) F rfl) ?_
    refine e_iconst (v := 1) aX9_count_84 (by decide) ?_
    refine e_ialoadF aX9_count_85 (fx_is F rfl) (fx_n (n := 4) F rfl) (vin (n := 1) (N := 4) (by decide)) rfl ?_
    refine e_iadd aX9_count_86 ?_
    refine e_aload_n aX9_count_87 rfl ?_
    refine e_getRF aX9_count_88 fX9_71 rfl (fx_is F rfl) (fx_r (b := 128) F rfl) ?_
    refine e_iconst (v := 2) aX9_count_91 (by decide) ?_
    refine e_ialoadF aX9_count_92 (fx_is F rfl) (fx_n (n := 4) F rfl) (vin (n := 2) (N := 4) (by decide)) rfl ?_
    refine e_iadd aX9_count_93 ?_
    refine e_aload_n aX9_count_94 rfl ?_
    refine e_getRF aX9_count_95 fX9_71 rfl (fx_is F rfl) (fx_r (b := 128) F rfl) ?_
    refine e_iconst (v := 3) aX9_count_98 (by decide) ?_
    refine e_ialoadF aX9_count_99 (fx_is F rfl) (fx_n (n := 4) F rfl) (vin (n := 3) (N := 4) (by decide)) rfl ?_
    refine e_iadd aX9_count_100 ?_
    refine e_ireturn aX9_count_101 rfl (Nat.le_refl _) (Nat.le_refl _) ?_
    exact ⟨rfl, rfl⟩
  · -- switch
    refine e_tableOut (tgt := 102) aX9_count_1 (sw_out (v := nI 7) (by decide) q1) (by decide) ?_
    refine e_aload_n aX9_count_102 rfl ?_
    refine e_iconst (v := 0) aX9_count_103 (by decide) ?_
    refine e_invvT aX9_count_104 kX9_128 (zX9_finds X F (k := 0) (by decide)) rfl rfl (fx_is F rfl) (Nat.le_of_ble_eq_true rfl) (Nat.le_of_ble_eq_true rfl) (Nat.le_refl _) (Nat.le_refl _) (Nat.le_of_ble_eq_true rfl) ?_
    refine e_ireturn aX9_count_107 rfl (Nat.le_refl _) (Nat.le_refl _) ?_
    exact ⟨rfl, rfl⟩
