/-! contracts: small answers of RolledPicks (written by wip/whole/g22.py) -/
/-- a finding is the answer -/
def RF (h : HP) (k : Nat) : Option VV → HP → Prop := Rt (fv k) (fnd h k)
theorem zlfin (X : EX) {h : HP} {k : Nat} (F : Fx h) (hk : k < 8) : Ct X mX8_longFinding 0 0 0 [vR (some 32), vI (nI k)] h (Rt (vL (-1000000000000000001 - lN k)) (fnd h k)) := zX8_longFinding X F hk
def RFL (h : HP) (k : Nat) : Option VV → HP → Prop := Rt (vL (-1000000000000000001 - lN k)) (fnd h k)
theorem ou_of {v : Int32} (N : Nat) (hN : N ≤ 1073741824) (h : ¬ (v < 0 ∨ nI N ≤ v)) : ∃ i, i < N ∧ v = nI i := by
  rcases pk_ix v (n := N) (by omega) with z | z | ⟨j, hj, rfl⟩
  · exact absurd (Or.inl z) h
  · exact absurd (Or.inr z) h
  · exact ⟨j, hj, rfl⟩
theorem wI_s {h : HP} {a i : Nat} {v : Int32} : hI (wI h a i v) a i = v := up2_s
theorem wI_a {h : HP} {a i b j : Nat} {v : Int32} (q : b ≠ a) : hI (wI h a i v) b j = hI h b j := up2_a q
theorem wI_i {h : HP} {a i b j : Nat} {v : Int32} (q : j ≠ i) : hI (wI h a i v) b j = hI h b j := up2_i q
def clubA (a b : Nat) : Nat := [0, 1, 2, 0, 2, 1, 1, 0, 2, 1, 2, 0, 2, 0, 1, 2, 1, 0].getD (a * 3 + b) 0
theorem zX8_order (X : EX) {h : HP} (F : Fx h) (x y : Int32) : Ct X mX8_order 1 0 0 [vR (some 32), vI x, vI y] h (if x < 0 ∨ 6 ≤ x then RF h 0 else if y < 0 ∨ 3 ≤ y then RF h 0 else Rt (vI (nI (clubA x.toNatClampNeg y.toNatClampNeg))) h) := by
  refine ct_of rfl (Nat.le_of_ble_eq_true rfl) ?_
  refine e_iload_n aX8_order_0 rfl ?_
  refine e_bipush (v := 6) aX8_order_1 (by decide) ?_
  refine e_invsT aX8_order_3 kX8_58 (zX8_isOutside X _ _) rfl rfl (Nat.le_of_ble_eq_true rfl) (Nat.le_of_ble_eq_true rfl) (Nat.le_refl _) (Nat.le_refl _) (Nat.le_of_ble_eq_true rfl) ?_
  refine e_if_ne aX8_order_6 (fun c6 => ?_) (fun c6 => ?_)
  · -- 6: taken
    have q6 := Decidable.of_not_not (fun z => c6 (b2_0.mpr z))
    refine e_aload_n aX8_order_17 rfl ?_
    refine e_iconst (v := 0) aX8_order_18 (by decide) ?_
    refine e_invvT aX8_order_19 kX8_62 (zfin X (k := 0) F (by decide)) rfl rfl (fx_is F rfl) (Nat.le_of_ble_eq_true rfl) (Nat.le_of_ble_eq_true rfl) (Nat.le_refl _) (Nat.le_refl _) (Nat.le_of_ble_eq_true rfl) ?_
    refine e_ireturn aX8_order_22 rfl (Nat.le_refl _) (Nat.le_refl _) ?_
    rw [if_pos q6]
    exact ⟨rfl, rfl⟩
  · -- 6: not taken
    have q6 := b2_0.mp c6
    obtain ⟨oz, ho, rfl⟩ := ou_of 6 (by decide) q6
    refine e_iload_n aX8_order_9 rfl ?_
    refine e_iconst (v := 3) aX8_order_10 (by decide) ?_
    refine e_invsT aX8_order_11 kX8_58 (zX8_isOutside X _ _) rfl rfl (Nat.le_of_ble_eq_true rfl) (Nat.le_of_ble_eq_true rfl) (Nat.le_refl _) (Nat.le_refl _) (Nat.le_of_ble_eq_true rfl) ?_
    refine e_if_eq aX8_order_14 (fun c14 => ?_) (fun c14 => ?_)
    · -- 14: taken
      have q14 := b2_0.mp c14
      obtain ⟨pz, hp, rfl⟩ := ou_of 3 (by decide) q14
      refine e_gets (i := 0) aX8_order_23 rfl gX8_66 ?_
      refine e_iload_n aX8_order_26 rfl ?_
      refine e_iconst (v := 3) aX8_order_27 (by decide) ?_
      refine e_imul aX8_order_28 ?_
      refine e_top (nI_mul _ 3) ?_
      refine e_iload_n aX8_order_29 rfl ?_
      refine e_iadd aX8_order_30 ?_
      refine e_top (nI_add _ _) ?_
      refine e_ialoadS aX8_order_31 rfl (vin (N := 18) (by omega)) ?_
      refine e_top (st_club (by omega)) ?_
      refine e_ireturn aX8_order_32 rfl (Nat.le_refl _) (Nat.le_refl _) ?_
      rw [if_neg q6, if_neg q14, cl (by omega), cl (by omega)]
      exact ⟨rfl, rfl⟩
    · -- 14: not taken
      have q14 := Decidable.of_not_not (fun z => c14 (b2_0.mpr z))
      refine e_aload_n aX8_order_17 rfl ?_
      refine e_iconst (v := 0) aX8_order_18 (by decide) ?_
      refine e_invvT aX8_order_19 kX8_62 (zfin X (k := 0) F (by decide)) rfl rfl (fx_is F rfl) (Nat.le_of_ble_eq_true rfl) (Nat.le_of_ble_eq_true rfl) (Nat.le_refl _) (Nat.le_refl _) (Nat.le_of_ble_eq_true rfl) ?_
      refine e_ireturn aX8_order_22 rfl (Nat.le_refl _) (Nat.le_refl _) ?_
      rw [if_neg q6, if_pos q14]
      exact ⟨rfl, rfl⟩
theorem zX8_place (X : EX) {h : HP} (F : Fx h) (x y : Int32) : Ct X mX8_place 1 0 0 [vR (some 32), vI x, vI y] h (if x < 0 ∨ 1296 ≤ x then RF h 0 else if y < 0 ∨ 12 ≤ y then RF h 0 else Rt (vI (nI (pl x.toNatClampNeg y.toNatClampNeg))) h) := by
  refine ct_of rfl (Nat.le_of_ble_eq_true rfl) ?_
  refine e_iload_n aX8_place_0 rfl ?_
  refine e_sipush (v := 1296) aX8_place_1 (by decide) ?_
  refine e_invsT aX8_place_4 kX8_58 (zX8_isOutside X _ _) rfl rfl (Nat.le_of_ble_eq_true rfl) (Nat.le_of_ble_eq_true rfl) (Nat.le_refl _) (Nat.le_refl _) (Nat.le_of_ble_eq_true rfl) ?_
  refine e_if_ne aX8_place_7 (fun c7 => ?_) (fun c7 => ?_)
  · -- 7: taken
    have q7 := Decidable.of_not_not (fun z => c7 (b2_0.mpr z))
    refine e_aload_n aX8_place_19 rfl ?_
    refine e_iconst (v := 0) aX8_place_20 (by decide) ?_
    refine e_invvT aX8_place_21 kX8_62 (zfin X (k := 0) F (by decide)) rfl rfl (fx_is F rfl) (Nat.le_of_ble_eq_true rfl) (Nat.le_of_ble_eq_true rfl) (Nat.le_refl _) (Nat.le_refl _) (Nat.le_of_ble_eq_true rfl) ?_
    refine e_ireturn aX8_place_24 rfl (Nat.le_refl _) (Nat.le_refl _) ?_
    rw [if_pos q7]
    exact ⟨rfl, rfl⟩
  · -- 7: not taken
    have q7 := b2_0.mp c7
    obtain ⟨oz, ho, rfl⟩ := ou_of 1296 (by decide) q7
    refine e_iload_n aX8_place_10 rfl ?_
    refine e_bipush (v := 12) aX8_place_11 (by decide) ?_
    refine e_invsT aX8_place_13 kX8_58 (zX8_isOutside X _ _) rfl rfl (Nat.le_of_ble_eq_true rfl) (Nat.le_of_ble_eq_true rfl) (Nat.le_refl _) (Nat.le_refl _) (Nat.le_of_ble_eq_true rfl) ?_
    refine e_if_eq aX8_place_16 (fun c16 => ?_) (fun c16 => ?_)
    · -- 16: taken
      have q16 := b2_0.mp c16
      obtain ⟨pz, hp, rfl⟩ := ou_of 12 (by decide) q16
      refine e_iload_n aX8_place_25 rfl ?_
      refine e_iload_n aX8_place_26 rfl ?_
      refine e_invsT aX8_place_27 kX8_69 (zX8_placeUnder X ho hp) rfl rfl (Nat.le_of_ble_eq_true rfl) (Nat.le_of_ble_eq_true rfl) (Nat.le_refl _) (Nat.le_refl _) (Nat.le_of_ble_eq_true rfl) ?_
      refine e_ireturn aX8_place_30 rfl (Nat.le_refl _) (Nat.le_refl _) ?_
      rw [if_neg q7, if_neg q16, cl (by omega), cl (by omega)]
      exact ⟨rfl, rfl⟩
    · -- 16: not taken
      have q16 := Decidable.of_not_not (fun z => c16 (b2_0.mpr z))
      refine e_aload_n aX8_place_19 rfl ?_
      refine e_iconst (v := 0) aX8_place_20 (by decide) ?_
      refine e_invvT aX8_place_21 kX8_62 (zfin X (k := 0) F (by decide)) rfl rfl (fx_is F rfl) (Nat.le_of_ble_eq_true rfl) (Nat.le_of_ble_eq_true rfl) (Nat.le_refl _) (Nat.le_refl _) (Nat.le_of_ble_eq_true rfl) ?_
      refine e_ireturn aX8_place_24 rfl (Nat.le_refl _) (Nat.le_refl _) ?_
      rw [if_neg q7, if_pos q16]
      exact ⟨rfl, rfl⟩
theorem zX8_fall (X : EX) {h : HP} (F : Fx h) {f : Nat} {o : Nat → Nat} (bf : BkF h f o) (x : Int32) : Ct X mX8_fall 1 0 0 [vR (some 32), vI x] h (if x < 0 ∨ 6 ≤ x then RF h 0 else if 4 ≤ f then RF h 3 else Rt (vI (nI (f + 1))) (wI (wI h 35 f x) 33 3 (nI (f + 1)))) := by
  refine ct_of rfl (Nat.le_of_ble_eq_true rfl) ?_
  have hf4 := bf.2.1
  refine e_iload_n aX8_fall_0 rfl ?_
  refine e_bipush (v := 6) aX8_fall_1 (by decide) ?_
  refine e_invsT aX8_fall_3 kX8_58 (zX8_isOutside X _ _) rfl rfl (Nat.le_of_ble_eq_true rfl) (Nat.le_of_ble_eq_true rfl) (Nat.le_refl _) (Nat.le_refl _) (Nat.le_of_ble_eq_true rfl) ?_
  refine e_if_eq aX8_fall_6 (fun c6 => ?_) (fun c6 => ?_)
  · -- 6: taken
    have q6 := b2_0.mp c6
    refine e_aload_n aX8_fall_15 rfl ?_
    refine e_getRF aX8_fall_16 fX8_10 rfl (fx_is F rfl) (fx_r (b := 33) F rfl) ?_
    refine e_getIF aX8_fall_19 fX8_73 rfl (fx_is F rfl) bf.1 ?_
    refine e_iconst (v := 4) aX8_fall_22 (by decide) ?_
    refine e_icmp_lt aX8_fall_23 (fun c23 => ?_) (fun c23 => ?_)
    · -- 23: taken
      have q23 : ¬ 4 ≤ f := Nat.not_le.mpr ((nI_ltI (a := f) (b := 4) (by omega) (by decide)).mp c23)
      refine e_aload_n aX8_fall_32 rfl ?_
      refine e_getRF aX8_fall_33 fX8_10 rfl (fx_is F rfl) (fx_r (b := 33) F rfl) ?_
      refine e_getRF aX8_fall_36 fX8_77 rfl (fx_is F rfl) (fx_r (b := 35) F rfl) ?_
      refine e_aload_n aX8_fall_39 rfl ?_
      refine e_getRF aX8_fall_40 fX8_10 rfl (fx_is F rfl) (fx_r (b := 33) F rfl) ?_
      refine e_getIF aX8_fall_43 fX8_73 rfl (fx_is F rfl) bf.1 ?_
      refine e_iload_n aX8_fall_46 rfl ?_
      refine e_iastoreF aX8_fall_47 (fx_is F rfl) (fx_n (n := 4) F rfl) (vin (N := 4) (by omega)) ?_
      rw [cl (by omega)]
      refine e_aload_n aX8_fall_48 rfl ?_
      refine e_getRF aX8_fall_49 fX8_10 rfl (fx_is F rfl) (fx_r (b := 33) F rfl) ?_
      refine e_dup aX8_fall_52 rfl ?_
      refine e_getIF aX8_fall_53 fX8_73 rfl (fx_is F rfl) bf.1 ?_
      refine e_iconst (v := 1) aX8_fall_56 (by decide) ?_
      refine e_iadd aX8_fall_57 ?_
      refine e_top (nI_1 f) ?_
      refine e_putI aX8_fall_58 fX8_73 rfl (fx_is F rfl) (Or.inl rfl) ?_
      refine e_aload_n aX8_fall_61 rfl ?_
      refine e_getRF aX8_fall_62 fX8_10 rfl (fx_is F rfl) (fx_r (b := 33) F rfl) ?_
      refine e_getIF aX8_fall_65 fX8_73 rfl (fx_is F rfl) wI_s ?_
      refine e_ireturn aX8_fall_68 rfl (Nat.le_refl _) (Nat.le_refl _) ?_
      rw [if_neg q6, if_neg q23]
      exact ⟨rfl, rfl⟩
    · -- 23: not taken
      have q23 : 4 ≤ f := Nat.not_lt.mp ((not_congr (nI_ltI (a := f) (b := 4) (by omega) (by decide))).mp c23)
      refine e_aload_n aX8_fall_26 rfl ?_
      refine e_iconst (v := 3) aX8_fall_27 (by decide) ?_
      refine e_invvT aX8_fall_28 kX8_62 (zfin X (k := 3) F (by decide)) rfl rfl (fx_is F rfl) (Nat.le_of_ble_eq_true rfl) (Nat.le_of_ble_eq_true rfl) (Nat.le_refl _) (Nat.le_refl _) (Nat.le_of_ble_eq_true rfl) ?_
      refine e_ireturn aX8_fall_31 rfl (Nat.le_refl _) (Nat.le_refl _) ?_
      rw [if_neg q6, if_pos q23]
      exact ⟨rfl, rfl⟩
  · -- 6: not taken
    have q6 := Decidable.of_not_not (fun z => c6 (b2_0.mpr z))
    refine e_aload_n aX8_fall_9 rfl ?_
    refine e_iconst (v := 0) aX8_fall_10 (by decide) ?_
    refine e_invvT aX8_fall_11 kX8_62 (zfin X (k := 0) F (by decide)) rfl rfl (fx_is F rfl) (Nat.le_of_ble_eq_true rfl) (Nat.le_of_ble_eq_true rfl) (Nat.le_refl _) (Nat.le_refl _) (Nat.le_of_ble_eq_true rfl) ?_
    refine e_ireturn aX8_fall_14 rfl (Nat.le_refl _) (Nat.le_refl _) ?_
    rw [if_pos q6]
    exact ⟨rfl, rfl⟩
theorem zX8_fallen (X : EX) {h : HP} (F : Fx h) {f : Nat} {o : Nat → Nat} (bf : BkF h f o) (x : Int32) : Ct X mX8_fallen 1 0 0 [vR (some 32), vI x] h (if x < 0 ∨ 4 ≤ x then RF h 0 else if x.toNatClampNeg < f then Rt (vI (nI (o x.toNatClampNeg))) h else RF h 3) := by
  refine ct_of rfl (Nat.le_of_ble_eq_true rfl) ?_
  have hf4 := bf.2.1
  refine e_iload_n aX8_fallen_0 rfl ?_
  refine e_iconst (v := 4) aX8_fallen_1 (by decide) ?_
  refine e_invsT aX8_fallen_2 kX8_58 (zX8_isOutside X _ _) rfl rfl (Nat.le_of_ble_eq_true rfl) (Nat.le_of_ble_eq_true rfl) (Nat.le_refl _) (Nat.le_refl _) (Nat.le_of_ble_eq_true rfl) ?_
  refine e_if_eq aX8_fallen_5 (fun c5 => ?_) (fun c5 => ?_)
  · -- 5: taken
    have q5 := b2_0.mp c5
    obtain ⟨yz, hy, rfl⟩ := ou_of 4 (by decide) q5
    refine e_iload_n aX8_fallen_14 rfl ?_
    refine e_aload_n aX8_fallen_15 rfl ?_
    refine e_getRF aX8_fallen_16 fX8_10 rfl (fx_is F rfl) (fx_r (b := 33) F rfl) ?_
    refine e_getIF aX8_fallen_19 fX8_73 rfl (fx_is F rfl) bf.1 ?_
    refine e_icmp_ge aX8_fallen_22 (fun c22 => ?_) (fun c22 => ?_)
    · -- 22: taken
      have q22 := (not_congr (nI_ltI (a := yz) (b := f) (by omega) (by omega))).mp (Int32.not_lt.mpr c22)
      refine e_aload_n aX8_fallen_37 rfl ?_
      refine e_iconst (v := 3) aX8_fallen_38 (by decide) ?_
      refine e_invvT aX8_fallen_39 kX8_62 (zfin X (k := 3) F (by decide)) rfl rfl (fx_is F rfl) (Nat.le_of_ble_eq_true rfl) (Nat.le_of_ble_eq_true rfl) (Nat.le_refl _) (Nat.le_refl _) (Nat.le_of_ble_eq_true rfl) ?_
      refine e_ireturn aX8_fallen_42 rfl (Nat.le_refl _) (Nat.le_refl _) ?_
      rw [if_neg q5, cl (by omega), if_neg q22]
      exact ⟨rfl, rfl⟩
    · -- 22: not taken
      have q22 := (nI_ltI (a := yz) (b := f) (by omega) (by omega)).mp (Int32.not_le.mp c22)
      refine e_aload_n aX8_fallen_25 rfl ?_
      refine e_getRF aX8_fallen_26 fX8_10 rfl (fx_is F rfl) (fx_r (b := 33) F rfl) ?_
      refine e_getRF aX8_fallen_29 fX8_77 rfl (fx_is F rfl) (fx_r (b := 35) F rfl) ?_
      refine e_iload_n aX8_fallen_32 rfl ?_
      refine e_ialoadF aX8_fallen_33 (fx_is F rfl) (fx_n (n := 4) F rfl) (vin (N := 4) (by omega)) (show hI h 35 (nI yz).toNatClampNeg = nI (o yz) by rw [cl (by omega)]; exact bf.2.2.1 _ q22) ?_
      refine e_goto aX8_fallen_34 ?_
      refine e_ireturn aX8_fallen_42 rfl (Nat.le_refl _) (Nat.le_refl _) ?_
      rw [if_neg q5, cl (by omega), if_pos q22]
      exact ⟨rfl, rfl⟩
  · -- 5: not taken
    have q5 := Decidable.of_not_not (fun z => c5 (b2_0.mpr z))
    refine e_aload_n aX8_fallen_8 rfl ?_
    refine e_iconst (v := 0) aX8_fallen_9 (by decide) ?_
    refine e_invvT aX8_fallen_10 kX8_62 (zfin X (k := 0) F (by decide)) rfl rfl (fx_is F rfl) (Nat.le_of_ble_eq_true rfl) (Nat.le_of_ble_eq_true rfl) (Nat.le_refl _) (Nat.le_refl _) (Nat.le_of_ble_eq_true rfl) ?_
    refine e_ireturn aX8_fallen_13 rfl (Nat.le_refl _) (Nat.le_refl _) ?_
    rw [if_pos q5]
    exact ⟨rfl, rfl⟩
theorem om_le {f : Nat} (h : f ≤ 4) : om f < 2 ^ 31 := by
  have : f = 0 ∨ f = 1 ∨ f = 2 ∨ f = 3 ∨ f = 4 := by omega
  rcases this with rfl | rfl | rfl | rfl | rfl <;> decide
/-- one number drawn from z -/
def dz (z : Int32) (a b : Nat) : Int32 := nI a + ((z.toUInt32 >>> ((8 : Int32).toUInt32 &&& Int32.toUInt32 31)).toInt32 - (z.toUInt32 >>> ((8 : Int32).toUInt32 &&& Int32.toUInt32 31)).toInt32 / nI b * nI b)
theorem zX8_draw (X : EX) {h : HP} (F : Fx h) {f : Nat} {o : Nat → Nat} (bf : BkF h f o) : Ct X mX8_draw 1 0 0 [vR (some 32)] h (Rt (vI (dz (hI h 33 5 * 1103515245 + 12345) (fo o f) (om f))) (wI h 33 5 (hI h 33 5 * 1103515245 + 12345))) := by
  refine ct_of rfl (Nat.le_of_ble_eq_true rfl) ?_
  have hf4 := bf.2.1
  have hbf : BkF (wI h 33 5 (hI h 33 5 * 1103515245 + 12345)) f o := ⟨(wI_i (by decide)).trans bf.1, hf4, fun y q => (wI_a (by decide)).trans (bf.2.2.1 y q), bf.2.2.2⟩
  refine e_aload_n aX8_draw_0 rfl ?_
  refine e_getRF aX8_draw_1 fX8_10 rfl (fx_is F rfl) (fx_r (b := 33) F rfl) ?_
  refine e_aload_n aX8_draw_4 rfl ?_
  refine e_getRF aX8_draw_5 fX8_10 rfl (fx_is F rfl) (fx_r (b := 33) F rfl) ?_
  refine e_getI aX8_draw_8 fX8_80 rfl (fx_is F rfl) ?_
  refine e_ldc aX8_draw_11 lX8_83 ?_
  refine e_imul aX8_draw_13 ?_
  refine e_sipush (v := 12345) aX8_draw_14 (by decide) ?_
  refine e_iadd aX8_draw_17 ?_
  refine e_putI aX8_draw_18 fX8_80 rfl (fx_is F rfl) (Or.inl rfl) ?_
  refine e_aload_n aX8_draw_21 rfl ?_
  refine e_getRF aX8_draw_22 fX8_10 rfl (fx_is F rfl) (fx_r (b := 33) F rfl) ?_
  refine e_invvT aX8_draw_25 kX8_84 (zX0_firstOpen X (h := wI h 33 5 (hI h 33 5 * 1103515245 + 12345)) F (f := f) (o := o) hbf) rfl rfl (fx_is F rfl) (Nat.le_of_ble_eq_true rfl) (Nat.le_of_ble_eq_true rfl) (Nat.le_refl _) (Nat.le_refl _) (Nat.le_of_ble_eq_true rfl) ?_
  refine e_aload_n aX8_draw_28 rfl ?_
  refine e_getRF aX8_draw_29 fX8_10 rfl (fx_is F rfl) (fx_r (b := 33) F rfl) ?_
  refine e_getIF aX8_draw_32 fX8_80 rfl (fx_is F rfl) wI_s ?_
  refine e_bipush (v := 8) aX8_draw_35 (by decide) ?_
  refine e_iushr aX8_draw_37 ?_
  refine e_aload_n aX8_draw_38 rfl ?_
  refine e_getRF aX8_draw_39 fX8_10 rfl (fx_is F rfl) (fx_r (b := 33) F rfl) ?_
  refine e_invvT aX8_draw_42 kX8_88 (zX0_openCount X (h := wI h 33 5 (hI h 33 5 * 1103515245 + 12345)) F (f := f) (o := o) hbf) rfl rfl (fx_is F rfl) (Nat.le_of_ble_eq_true rfl) (Nat.le_of_ble_eq_true rfl) (Nat.le_refl _) (Nat.le_refl _) (Nat.le_of_ble_eq_true rfl) ?_
  refine e_irem aX8_draw_45 (nI_ne0 (om_pos hf4) (om_le hf4)) ?_
  refine e_iadd aX8_draw_46 ?_
  refine e_ireturn aX8_draw_47 rfl (Nat.le_refl _) (Nat.le_refl _) ?_
  exact ⟨rfl, rfl⟩
theorem zX8_clash (X : EX) {h : HP} (F : Fx h) (x : Int32) : Ct X mX8_clash 1 0 0 [vR (some 32), vI x] h (if x < 0 ∨ 3 ≤ x then RF h 0 else Rt (vI (hI h 75 x.toNatClampNeg)) h) := by
  refine ct_of rfl (Nat.le_of_ble_eq_true rfl) ?_
  refine e_iload_n aX8_clash_0 rfl ?_
  refine e_aload_n aX8_clash_1 rfl ?_
  refine e_getRF aX8_clash_2 fX8_46 rfl (fx_is F rfl) (fx_r (b := 75) F rfl) ?_
  refine e_alen (t := 13) aX8_clash_5 (fx_is F rfl) (Nat.le_of_ble_eq_true rfl) (Nat.le_of_ble_eq_true rfl) ?_
  refine e_top (show nI (hN h 75) = 3 from congrArg nI (fx_n (a := 75) F rfl)) ?_
  refine e_invsT aX8_clash_6 kX8_58 (zX8_isOutside X _ _) rfl rfl (Nat.le_of_ble_eq_true rfl) (Nat.le_of_ble_eq_true rfl) (Nat.le_refl _) (Nat.le_refl _) (Nat.le_of_ble_eq_true rfl) ?_
  refine e_if_eq aX8_clash_9 (fun c9 => ?_) (fun c9 => ?_)
  · -- 9: taken
    have q9 := b2_0.mp c9
    obtain ⟨wz, hw, rfl⟩ := ou_of 3 (by decide) q9
    refine e_aload_n aX8_clash_20 rfl ?_
    refine e_getRF aX8_clash_21 fX8_46 rfl (fx_is F rfl) (fx_r (b := 75) F rfl) ?_
    refine e_iload_n aX8_clash_24 rfl ?_
    refine e_ialoadF aX8_clash_25 (fx_is F rfl) (fx_n (n := 3) F rfl) (vin hw) rfl ?_
    refine e_ireturn aX8_clash_26 rfl (Nat.le_refl _) (Nat.le_refl _) ?_
    rw [if_neg q9]
    exact ⟨rfl, rfl⟩
  · -- 9: not taken
    have q9 := Decidable.of_not_not (fun z => c9 (b2_0.mpr z))
    refine e_aload_n aX8_clash_12 rfl ?_
    refine e_iconst (v := 0) aX8_clash_13 (by decide) ?_
    refine e_invvT aX8_clash_14 kX8_62 (zfin X (k := 0) F (by decide)) rfl rfl (fx_is F rfl) (Nat.le_of_ble_eq_true rfl) (Nat.le_of_ble_eq_true rfl) (Nat.le_refl _) (Nat.le_refl _) (Nat.le_of_ble_eq_true rfl) ?_
    refine e_goto aX8_clash_17 ?_
    refine e_ireturn aX8_clash_26 rfl (Nat.le_refl _) (Nat.le_refl _) ?_
    rw [if_pos q9]
    exact ⟨rfl, rfl⟩
theorem zX8_price (X : EX) {h : HP} (F : Fx h) (x y : Int32) : Ct X mX8_price 1 0 0 [vR (some 32), vI x, vI y] h (if x < 0 ∨ 3 ≤ x then RF h 0 else if y < 0 ∨ 1000 ≤ y then RF h 0 else Rt (vI (hI h 36 x.toNatClampNeg)) (wI h 36 x.toNatClampNeg y)) := by
  refine ct_of rfl (Nat.le_of_ble_eq_true rfl) ?_
  refine e_iload_n aX8_price_0 rfl ?_
  refine e_iconst (v := 3) aX8_price_1 (by decide) ?_
  refine e_invsT aX8_price_2 kX8_58 (zX8_isOutside X _ _) rfl rfl (Nat.le_of_ble_eq_true rfl) (Nat.le_of_ble_eq_true rfl) (Nat.le_refl _) (Nat.le_refl _) (Nat.le_of_ble_eq_true rfl) ?_
  refine e_if_ne aX8_price_5 (fun c5 => ?_) (fun c5 => ?_)
  · -- 5: taken
    have q5 := Decidable.of_not_not (fun z => c5 (b2_0.mpr z))
    refine e_aload_n aX8_price_18 rfl ?_
    refine e_iconst (v := 0) aX8_price_19 (by decide) ?_
    refine e_invvT aX8_price_20 kX8_62 (zfin X (k := 0) F (by decide)) rfl rfl (fx_is F rfl) (Nat.le_of_ble_eq_true rfl) (Nat.le_of_ble_eq_true rfl) (Nat.le_refl _) (Nat.le_refl _) (Nat.le_of_ble_eq_true rfl) ?_
    refine e_ireturn aX8_price_23 rfl (Nat.le_refl _) (Nat.le_refl _) ?_
    rw [if_pos q5]
    exact ⟨rfl, rfl⟩
  · -- 5: not taken
    have q5 := b2_0.mp c5
    obtain ⟨iz, hi3, rfl⟩ := ou_of 3 (by decide) q5
    refine e_iload_n aX8_price_8 rfl ?_
    refine e_sipush (v := 1000) aX8_price_9 (by decide) ?_
    refine e_invsT aX8_price_12 kX8_58 (zX8_isOutside X _ _) rfl rfl (Nat.le_of_ble_eq_true rfl) (Nat.le_of_ble_eq_true rfl) (Nat.le_refl _) (Nat.le_refl _) (Nat.le_of_ble_eq_true rfl) ?_
    refine e_if_eq aX8_price_15 (fun c15 => ?_) (fun c15 => ?_)
    · -- 15: taken
      have q15 := b2_0.mp c15
      refine e_aload_n aX8_price_24 rfl ?_
      refine e_getRF aX8_price_25 fX8_10 rfl (fx_is F rfl) (fx_r (b := 33) F rfl) ?_
      refine e_getRF aX8_price_28 fX8_184 rfl (fx_is F rfl) (fx_r (b := 36) F rfl) ?_
      refine e_iload_n aX8_price_31 rfl ?_
      refine e_ialoadF aX8_price_32 (fx_is F rfl) (fx_n (n := 3) F rfl) (vin (N := 3) hi3) rfl ?_
      refine e_istore_n aX8_price_33 (Nat.le_of_ble_eq_true rfl) ?_
      refine e_aload_n aX8_price_34 rfl ?_
      refine e_getRF aX8_price_35 fX8_10 rfl (fx_is F rfl) (fx_r (b := 33) F rfl) ?_
      refine e_getRF aX8_price_38 fX8_184 rfl (fx_is F rfl) (fx_r (b := 36) F rfl) ?_
      refine e_iload_n aX8_price_41 rfl ?_
      refine e_iload_n aX8_price_42 rfl ?_
      refine e_iastoreF aX8_price_43 (fx_is F rfl) (fx_n (n := 3) F rfl) (vin hi3) ?_
      refine e_iload_n aX8_price_44 rfl ?_
      refine e_ireturn aX8_price_45 rfl (Nat.le_refl _) (Nat.le_refl _) ?_
      rw [if_neg q5, if_neg q15]
      exact ⟨rfl, rfl⟩
    · -- 15: not taken
      have q15 := Decidable.of_not_not (fun z => c15 (b2_0.mpr z))
      refine e_aload_n aX8_price_18 rfl ?_
      refine e_iconst (v := 0) aX8_price_19 (by decide) ?_
      refine e_invvT aX8_price_20 kX8_62 (zfin X (k := 0) F (by decide)) rfl rfl (fx_is F rfl) (Nat.le_of_ble_eq_true rfl) (Nat.le_of_ble_eq_true rfl) (Nat.le_refl _) (Nat.le_refl _) (Nat.le_of_ble_eq_true rfl) ?_
      refine e_ireturn aX8_price_23 rfl (Nat.le_refl _) (Nat.le_refl _) ?_
      rw [if_neg q5, if_pos q15]
      exact ⟨rfl, rfl⟩
theorem zX8_seed (X : EX) {h : HP} (F : Fx h) (x : Int32) : Ct X mX8_seed 0 0 0 [vR (some 32), vI x] h (Rt (vI (hI h 33 5)) (wI h 33 5 x)) := by
  refine ct_of rfl (Nat.le_of_ble_eq_true rfl) ?_
  refine e_aload_n aX8_seed_0 rfl ?_
  refine e_getRF aX8_seed_1 fX8_10 rfl (fx_is F rfl) (fx_r (b := 33) F rfl) ?_
  refine e_getI aX8_seed_4 fX8_80 rfl (fx_is F rfl) ?_
  refine e_istore_n aX8_seed_7 (Nat.le_of_ble_eq_true rfl) ?_
  refine e_aload_n aX8_seed_8 rfl ?_
  refine e_getRF aX8_seed_9 fX8_10 rfl (fx_is F rfl) (fx_r (b := 33) F rfl) ?_
  refine e_iload_n aX8_seed_12 rfl ?_
  refine e_putI aX8_seed_13 fX8_80 rfl (fx_is F rfl) (Or.inl rfl) ?_
  refine e_iload_n aX8_seed_16 rfl ?_
  refine e_ireturn aX8_seed_17 rfl (Nat.le_refl _) (Nat.le_refl _) ?_
  exact ⟨rfl, rfl⟩
theorem zX8_wipe (X : EX) {h : HP} (F : Fx h) : Ct X mX8_wipe 0 0 0 [vR (some 32)] h (Rt (vI (hI h 41 1)) (wI h 41 1 0)) := by
  refine ct_of rfl (Nat.le_of_ble_eq_true rfl) ?_
  refine e_aload_n aX8_wipe_0 rfl ?_
  refine e_getRF aX8_wipe_1 fX8_30 rfl (fx_is F rfl) (fx_r (b := 40) F rfl) ?_
  refine e_getRF aX8_wipe_4 fX8_108 rfl (fx_is F rfl) (fx_r (b := 41) F rfl) ?_
  refine e_getI aX8_wipe_7 fX8_112 rfl (fx_is F rfl) ?_
  refine e_istore_n aX8_wipe_10 (Nat.le_of_ble_eq_true rfl) ?_
  refine e_aload_n aX8_wipe_11 rfl ?_
  refine e_getRF aX8_wipe_12 fX8_30 rfl (fx_is F rfl) (fx_r (b := 40) F rfl) ?_
  refine e_getRF aX8_wipe_15 fX8_108 rfl (fx_is F rfl) (fx_r (b := 41) F rfl) ?_
  refine e_iconst (v := 0) aX8_wipe_18 (by decide) ?_
  refine e_putI aX8_wipe_19 fX8_112 rfl (fx_is F rfl) (Or.inl rfl) ?_
  refine e_iload_n aX8_wipe_22 rfl ?_
  refine e_ireturn aX8_wipe_23 rfl (Nat.le_refl _) (Nat.le_refl _) ?_
  exact ⟨rfl, rfl⟩
def fsum (h : HP) : Nat → Int32
  | 0 => 0
  | i + 1 => fsum h i + hI h 76 i
theorem zX8_status (X : EX) {h : HP} (F : Fx h) (x : Int32) : Ct X mX8_status 1 0 0 [vR (some 32), vI x] h (if x = -1 then Rt (vI (fsum h 8)) h else if x < 0 ∨ 8 ≤ x then RF h 0 else Rt (vI (hI h 76 x.toNatClampNeg)) h) := by
  refine ct_of rfl (Nat.le_of_ble_eq_true rfl) ?_
  have loop : x = -1 → ∀ (m : Nat) (k : Nat), k + m = 8 → Ev X mX8_status 1 0 0 (if x = -1 then Rt (vI (fsum h 8)) h else if x < 0 ∨ 8 ≤ x then RF h 0 else Rt (vI (hI h 76 x.toNatClampNeg)) h) 0 0 9 [(0, some (vR (some 32))), (1, some (vI x)), (2, some (vI (fsum h k))), (3, some (vI (nI k)))] [] h := by
    intro q2 m
    induction m with
    | zero =>
      intro k hk
      obtain rfl : k = 8 := by omega
      refine e_iload_n aX8_status_9 rfl ?_
      refine e_bipush (v := 8) aX8_status_10 (by decide) ?_
      refine e_icmp_ge aX8_status_12 (fun c12 => ?_) (fun c12 => ?_)
      · -- 12: taken
        refine e_iload_n aX8_status_30 rfl ?_
        refine e_ireturn aX8_status_31 rfl (Nat.le_refl _) (Nat.le_refl _) ?_
        rw [if_pos q2]
        exact ⟨rfl, rfl⟩
      · -- 12: not taken
        exact absurd (nI_le (a := 8) (b := 8) (by decide) (by decide)) c12
    | succ m ih =>
      intro k hk
      refine e_iload_n aX8_status_9 rfl ?_
      refine e_bipush (v := 8) aX8_status_10 (by decide) ?_
      refine e_icmp_ge aX8_status_12 (fun c12 => ?_) (fun c12 => ?_)
      · -- 12: taken
        exact absurd c12 (nI_ge (a := k) (b := 8) (by omega) (by decide))
      · -- 12: not taken
        refine e_iload_n aX8_status_15 rfl ?_
        refine e_aload_n aX8_status_16 rfl ?_
        refine e_getRF aX8_status_17 fX8_50 rfl (fx_is F rfl) (fx_r (b := 76) F rfl) ?_
        refine e_iload_n aX8_status_20 rfl ?_
        refine e_ialoadF aX8_status_21 (fx_is F rfl) (fx_n (n := 8) F rfl) (vin (N := 8) (by omega)) (show hI h 76 (nI k).toNatClampNeg = hI h 76 k by rw [cl (by omega)]) ?_
        refine e_iadd aX8_status_22 ?_
        refine e_istore_n aX8_status_23 (Nat.le_of_ble_eq_true rfl) ?_
        refine e_iinc aX8_status_24 rfl rfl (Nat.le_of_ble_eq_true rfl) ?_
        refine e_goto aX8_status_27 ?_
        refine e_ls (ls' := [(0, some (vR (some 32))), (1, some (vI x)), (2, some (vI (fsum h (k + 1)))), (3, some (vI (nI (k + 1))))]) ⟨rfl, rfl, rfl, congrArg (fun x => some (vI x)) (nI_1 k), trivial⟩ ?_
        exact ih (k + 1) (by omega)
  refine e_iload_n aX8_status_0 rfl ?_
  refine e_iconst (v := -1) aX8_status_1 (by decide) ?_
  refine e_icmp_ne aX8_status_2 (fun c2 => ?_) (fun c2 => ?_)
  · -- 2: taken
    have q2 := c2
    refine e_iload_n aX8_status_32 rfl ?_
    refine e_bipush (v := 8) aX8_status_33 (by decide) ?_
    refine e_invsT aX8_status_35 kX8_58 (zX8_isOutside X _ _) rfl rfl (Nat.le_of_ble_eq_true rfl) (Nat.le_of_ble_eq_true rfl) (Nat.le_refl _) (Nat.le_refl _) (Nat.le_of_ble_eq_true rfl) ?_
    refine e_if_eq aX8_status_38 (fun c38 => ?_) (fun c38 => ?_)
    · -- 38: taken
      have q38 := b2_0.mp c38
      obtain ⟨iz, hi8, rfl⟩ := ou_of 8 (by decide) q38
      refine e_aload_n aX8_status_49 rfl ?_
      refine e_getRF aX8_status_50 fX8_50 rfl (fx_is F rfl) (fx_r (b := 76) F rfl) ?_
      refine e_iload_n aX8_status_53 rfl ?_
      refine e_ialoadF aX8_status_54 (fx_is F rfl) (fx_n (n := 8) F rfl) (vin hi8) rfl ?_
      refine e_ireturn aX8_status_55 rfl (Nat.le_refl _) (Nat.le_refl _) ?_
      rw [if_neg q2, if_neg q38]
      exact ⟨rfl, rfl⟩
    · -- 38: not taken
      have q38 := Decidable.of_not_not (fun z => c38 (b2_0.mpr z))
      refine e_aload_n aX8_status_41 rfl ?_
      refine e_iconst (v := 0) aX8_status_42 (by decide) ?_
      refine e_invvT aX8_status_43 kX8_62 (zfin X (k := 0) F (by decide)) rfl rfl (fx_is F rfl) (Nat.le_of_ble_eq_true rfl) (Nat.le_of_ble_eq_true rfl) (Nat.le_refl _) (Nat.le_refl _) (Nat.le_of_ble_eq_true rfl) ?_
      refine e_goto aX8_status_46 ?_
      refine e_ireturn aX8_status_55 rfl (Nat.le_refl _) (Nat.le_refl _) ?_
      rw [if_neg q2, if_pos q38]
      exact ⟨rfl, rfl⟩
  · -- 2: not taken
    have q2 : x = -1 := c2
    refine e_iconst (v := 0) aX8_status_5 (by decide) ?_
    refine e_istore_n aX8_status_6 (Nat.le_of_ble_eq_true rfl) ?_
    refine e_iconst (v := 0) aX8_status_7 (by decide) ?_
    refine e_istore_n aX8_status_8 (Nat.le_of_ble_eq_true rfl) ?_
    refine e_ls (ls' := [(0, some (vR (some 32))), (1, some (vI x)), (2, some (vI (fsum h 0))), (3, some (vI (nI 0)))]) ⟨rfl, rfl, rfl, rfl, trivial⟩ ?_
    exact loop q2 8 0 (by omega)
