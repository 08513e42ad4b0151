/-! contracts: small answers of RolledPicks (written by wip/p45/g22.py) -/
/-- a finding is the answer -/
def RF (h : HP) (k : Nat) : Option VV → HP → Prop := Rt (fv k) (fnd h k)
theorem zlfin (X : EX) {h : HP} {k : Nat} (F : Fx h) (hk : k < 8) : Ct X mX8_longFinding 0 0 0 [vR (some 32), vI (nI k)] h (Rt (vL (-1000000000000000001 - lN k)) (fnd h k)) := zX8_longFinding X F hk
def RFL (h : HP) (k : Nat) : Option VV → HP → Prop := Rt (vL (-1000000000000000001 - lN k)) (fnd h k)
theorem ou_of {v : Int32} (N : Nat) (hN : N ≤ 1073741824) (h : ¬ (v < 0 ∨ nI N ≤ v)) : ∃ i, i < N ∧ v = nI i := by
  rcases pk_ix v (n := N) (by omega) with z | z | ⟨j, hj, rfl⟩
  · exact absurd (Or.inl z) h
  · exact absurd (Or.inr z) h
  · exact ⟨j, hj, rfl⟩
theorem wI_s {h : HP} {a i : Nat} {v : Int32} : hI (wI h a i v) a i = v := up2_s
theorem wI_a {h : HP} {a i b j : Nat} {v : Int32} (q : b ≠ a) : hI (wI h a i v) b j = hI h b j := up2_a q
theorem wI_i {h : HP} {a i b j : Nat} {v : Int32} (q : j ≠ i) : hI (wI h a i v) b j = hI h b j := up2_i q
def clubA (a b : Nat) : Nat := [0, 1, 2, 0, 2, 1, 1, 0, 2, 1, 2, 0, 2, 0, 1, 2, 1, 0].getD (a * 3 + b) 0
theorem zX8_fall (X : EX) {h : HP} (F : Fx h) {f : Nat} {o : Nat → Nat} (bf : BkF h f o) (x : Int32) : Ct X mX8_fall 1 0 0 [vR (some 32), vI x] h (if x < 0 ∨ 6 ≤ x then RF h 0 else if 4 ≤ f then RF h 3 else Rt (vI (nI (f + 1))) (wI (wI h 35 f x) 33 3 (nI (f + 1)))) := by
  refine ct_of rfl (Nat.le_of_ble_eq_true rfl) ?_
  have hf4 := bf.2.1
  refine e_iload_n aX8_fall_0 rfl ?_
  refine e_bipush (v := 6) aX8_fall_1 (by decide) ?_
  refine e_invsT aX8_fall_3 kX8_58 (zX8_isOutside X _ _) rfl rfl (Nat.le_of_ble_eq_true rfl) (Nat.le_of_ble_eq_true rfl) (Nat.le_refl _) (Nat.le_refl _) (Nat.le_of_ble_eq_true rfl) ?_
  refine e_if_eq aX8_fall_6 (fun c6 => ?_) (fun c6 => ?_)
  · -- 6: taken
    have q6 := b2_0.mp c6
    refine e_aload_n aX8_fall_15 rfl ?_
    refine e_getRF aX8_fall_16 fX8_10 rfl (fx_is F rfl) (fx_r (b := 33) F rfl) ?_
    refine e_getIF aX8_fall_19 fX8_73 rfl (fx_is F rfl) bf.1 ?_
    refine e_iconst (v := 4) aX8_fall_22 (by decide) ?_
    refine e_icmp_lt aX8_fall_23 (fun c23 => ?_) (fun c23 => ?_)
    · -- 23: taken
      have q23 : ¬ 4 ≤ f := Nat.not_le.mpr ((nI_ltI (a := f) (b := 4) (by omega) (by decide)).mp c23)
      refine e_aload_n aX8_fall_32 rfl ?_
      refine e_getRF aX8_fall_33 fX8_10 rfl (fx_is F rfl) (fx_r (b := 33) F rfl) ?_
      refine e_getRF aX8_fall_36 fX8_77 rfl (fx_is F rfl) (fx_r (b := 35) F rfl) ?_
      refine e_aload_n aX8_fall_39 rfl ?_
      refine e_getRF aX8_fall_40 fX8_10 rfl (fx_is F rfl) (fx_r (b := 33) F rfl) ?_
      refine e_getIF aX8_fall_43 fX8_73 rfl (fx_is F rfl) bf.1 ?_
      refine e_iload_n aX8_fall_46 rfl ?_
      refine e_iastoreF aX8_fall_47 (fx_is F rfl) (fx_n (n := 4) F rfl) (vin (N := 4) (by omega)) ?_
      rw [cl (by omega)]
      refine e_aload_n aX8_fall_48 rfl ?_
      refine e_getRF aX8_fall_49 fX8_10 rfl (fx_is F rfl) (fx_r (b := 33) F rfl) ?_
      refine e_dup aX8_fall_52 rfl ?_
      refine e_getIF aX8_fall_53 fX8_73 rfl (fx_is F rfl) bf.1 ?_
      refine e_iconst (v := 1) aX8_fall_56 (by decide) ?_
      refine e_iadd aX8_fall_57 ?_
      refine e_top (nI_1 f) ?_
      refine e_putI aX8_fall_58 fX8_73 rfl (fx_is F rfl) (Or.inl rfl) ?_
      refine e_aload_n aX8_fall_61 rfl ?_
      refine e_getRF aX8_fall_62 fX8_10 rfl (fx_is F rfl) (fx_r (b := 33) F rfl) ?_
      refine e_getIF aX8_fall_65 fX8_73 rfl (fx_is F rfl) wI_s ?_
      refine e_ireturn aX8_fall_68 rfl (Nat.le_refl _) (Nat.le_refl _) ?_
      rw [if_neg q6, if_neg q23]
      exact ⟨rfl, rfl⟩
    · -- 23: not taken
      have q23 : 4 ≤ f := Nat.not_lt.mp ((not_congr (nI_ltI (a := f) (b := 4) (by omega) (by decide))).mp c23)
      refine e_aload_n aX8_fall_26 rfl ?_
      refine e_iconst (v := 3) aX8_fall_27 (by decide) ?_
      refine e_invvT aX8_fall_28 kX8_62 (zfin X (k := 3) F (by decide)) rfl rfl (fx_is F rfl) (Nat.le_of_ble_eq_true rfl) (Nat.le_of_ble_eq_true rfl) (Nat.le_refl _) (Nat.le_refl _) (Nat.le_of_ble_eq_true rfl) ?_
      refine e_ireturn aX8_fall_31 rfl (Nat.le_refl _) (Nat.le_refl _) ?_
      rw [if_neg q6, if_pos q23]
      exact ⟨rfl, rfl⟩
  · -- 6: not taken
    have q6 := Decidable.of_not_not (fun z => c6 (b2_0.mpr z))
    refine e_aload_n aX8_fall_9 rfl ?_
    refine e_iconst (v := 0) aX8_fall_10 (by decide) ?_
    refine e_invvT aX8_fall_11 kX8_62 (zfin X (k := 0) F (by decide)) rfl rfl (fx_is F rfl) (Nat.le_of_ble_eq_true rfl) (Nat.le_of_ble_eq_true rfl) (Nat.le_refl _) (Nat.le_refl _) (Nat.le_of_ble_eq_true rfl) ?_
    refine e_ireturn aX8_fall_14 rfl (Nat.le_refl _) (Nat.le_refl _) ?_
    rw [if_pos q6]
    exact ⟨rfl, rfl⟩
theorem zX8_fallen (X : EX) {h : HP} (F : Fx h) {f : Nat} {o : Nat → Nat} (bf : BkF h f o) (x : Int32) : Ct X mX8_fallen 1 0 0 [vR (some 32), vI x] h (if x < 0 ∨ 4 ≤ x then RF h 0 else if x.toNatClampNeg < f then Rt (vI (nI (o x.toNatClampNeg))) h else RF h 3) := by
  refine ct_of rfl (Nat.le_of_ble_eq_true rfl) ?_
  have hf4 := bf.2.1
  refine e_iload_n aX8_fallen_0 rfl ?_
  refine e_iconst (v := 4) aX8_fallen_1 (by decide) ?_
  refine e_invsT aX8_fallen_2 kX8_58 (zX8_isOutside X _ _) rfl rfl (Nat.le_of_ble_eq_true rfl) (Nat.le_of_ble_eq_true rfl) (Nat.le_refl _) (Nat.le_refl _) (Nat.le_of_ble_eq_true rfl) ?_
  refine e_if_eq aX8_fallen_5 (fun c5 => ?_) (fun c5 => ?_)
  · -- 5: taken
    have q5 := b2_0.mp c5
    obtain ⟨yz, hy, rfl⟩ := ou_of 4 (by decide) q5
    refine e_iload_n aX8_fallen_14 rfl ?_
    refine e_aload_n aX8_fallen_15 rfl ?_
    refine e_getRF aX8_fallen_16 fX8_10 rfl (fx_is F rfl) (fx_r (b := 33) F rfl) ?_
    refine e_getIF aX8_fallen_19 fX8_73 rfl (fx_is F rfl) bf.1 ?_
    refine e_icmp_ge aX8_fallen_22 (fun c22 => ?_) (fun c22 => ?_)
    · -- 22: taken
      have q22 := (not_congr (nI_ltI (a := yz) (b := f) (by omega) (by omega))).mp (Int32.not_lt.mpr c22)
      refine e_aload_n aX8_fallen_37 rfl ?_
      refine e_iconst (v := 3) aX8_fallen_38 (by decide) ?_
      refine e_invvT aX8_fallen_39 kX8_62 (zfin X (k := 3) F (by decide)) rfl rfl (fx_is F rfl) (Nat.le_of_ble_eq_true rfl) (Nat.le_of_ble_eq_true rfl) (Nat.le_refl _) (Nat.le_refl _) (Nat.le_of_ble_eq_true rfl) ?_
      refine e_ireturn aX8_fallen_42 rfl (Nat.le_refl _) (Nat.le_refl _) ?_
      rw [if_neg q5, cl (by omega), if_neg q22]
      exact ⟨rfl, rfl⟩
    · -- 22: not taken
      have q22 := (nI_ltI (a := yz) (b := f) (by omega) (by omega)).mp (Int32.not_le.mp c22)
      refine e_aload_n aX8_fallen_25 rfl ?_
      refine e_getRF aX8_fallen_26 fX8_10 rfl (fx_is F rfl) (fx_r (b := 33) F rfl) ?_
      refine e_getRF aX8_fallen_29 fX8_77 rfl (fx_is F rfl) (fx_r (b := 35) F rfl) ?_
      refine e_iload_n aX8_fallen_32 rfl ?_
      refine e_ialoadF aX8_fallen_33 (fx_is F rfl) (fx_n (n := 4) F rfl) (vin (N := 4) (by omega)) (show hI h 35 (nI yz).toNatClampNeg = nI (o yz) by rw [cl (by omega)]; exact bf.2.2.1 _ q22) ?_
      refine e_goto aX8_fallen_34 ?_
      refine e_ireturn aX8_fallen_42 rfl (Nat.le_refl _) (Nat.le_refl _) ?_
      rw [if_neg q5, cl (by omega), if_pos q22]
      exact ⟨rfl, rfl⟩
  · -- 5: not taken
    have q5 := Decidable.of_not_not (fun z => c5 (b2_0.mpr z))
    refine e_aload_n aX8_fallen_8 rfl ?_
    refine e_iconst (v := 0) aX8_fallen_9 (by decide) ?_
    refine e_invvT aX8_fallen_10 kX8_62 (zfin X (k := 0) F (by decide)) rfl rfl (fx_is F rfl) (Nat.le_of_ble_eq_true rfl) (Nat.le_of_ble_eq_true rfl) (Nat.le_refl _) (Nat.le_refl _) (Nat.le_of_ble_eq_true rfl) ?_
    refine e_ireturn aX8_fallen_13 rfl (Nat.le_refl _) (Nat.le_refl _) ?_
    rw [if_pos q5]
    exact ⟨rfl, rfl⟩
theorem om_le {f : Nat} (h : f ≤ 4) : om f < 2 ^ 31 := by
  have : f = 0 ∨ f = 1 ∨ f = 2 ∨ f = 3 ∨ f = 4 := by omega
  rcases this with rfl | rfl | rfl | rfl | rfl <;> decide
/-- one number drawn from z -/
def dz (z : Int32) (a b : Nat) : Int32 := nI a + ((z.toUInt32 >>> ((8 : Int32).toUInt32 &&& Int32.toUInt32 31)).toInt32 - (z.toUInt32 >>> ((8 : Int32).toUInt32 &&& Int32.toUInt32 31)).toInt32 / nI b * nI b)
theorem zX8_clash (X : EX) {h : HP} (F : Fx h) (x : Int32) : Ct X mX8_clash 1 0 0 [vR (some 32), vI x] h (if x < 0 ∨ 3 ≤ x then RF h 0 else Rt (vI (hI h 75 x.toNatClampNeg)) h) := by
  refine ct_of rfl (Nat.le_of_ble_eq_true rfl) ?_
  refine e_iload_n aX8_clash_0 rfl ?_
  refine e_aload_n aX8_clash_1 rfl ?_
  refine e_getRF aX8_clash_2 fX8_46 rfl (fx_is F rfl) (fx_r (b := 75) F rfl) ?_
  refine e_alen (t := 13) aX8_clash_5 (fx_is F rfl) (Nat.le_of_ble_eq_true rfl) (Nat.le_of_ble_eq_true rfl) (by decide) ?_
  refine e_top (show nI (hN h 75) = 3 from congrArg nI (fx_n (a := 75) F rfl)) ?_
  refine e_invsT aX8_clash_6 kX8_58 (zX8_isOutside X _ _) rfl rfl (Nat.le_of_ble_eq_true rfl) (Nat.le_of_ble_eq_true rfl) (Nat.le_refl _) (Nat.le_refl _) (Nat.le_of_ble_eq_true rfl) ?_
  refine e_if_eq aX8_clash_9 (fun c9 => ?_) (fun c9 => ?_)
  · -- 9: taken
    have q9 := b2_0.mp c9
    obtain ⟨wz, hw, rfl⟩ := ou_of 3 (by decide) q9
    refine e_aload_n aX8_clash_20 rfl ?_
    refine e_getRF aX8_clash_21 fX8_46 rfl (fx_is F rfl) (fx_r (b := 75) F rfl) ?_
    refine e_iload_n aX8_clash_24 rfl ?_
    refine e_ialoadF aX8_clash_25 (fx_is F rfl) (fx_n (n := 3) F rfl) (vin hw) rfl ?_
    refine e_ireturn aX8_clash_26 rfl (Nat.le_refl _) (Nat.le_refl _) ?_
    rw [if_neg q9]
    exact ⟨rfl, rfl⟩
  · -- 9: not taken
    have q9 := Decidable.of_not_not (fun z => c9 (b2_0.mpr z))
    refine e_aload_n aX8_clash_12 rfl ?_
    refine e_iconst (v := 0) aX8_clash_13 (by decide) ?_
    refine e_invvT aX8_clash_14 kX8_62 (zfin X (k := 0) F (by decide)) rfl rfl (fx_is F rfl) (Nat.le_of_ble_eq_true rfl) (Nat.le_of_ble_eq_true rfl) (Nat.le_refl _) (Nat.le_refl _) (Nat.le_of_ble_eq_true rfl) ?_
    refine e_goto aX8_clash_17 ?_
    refine e_ireturn aX8_clash_26 rfl (Nat.le_refl _) (Nat.le_refl _) ?_
    rw [if_pos q9]
    exact ⟨rfl, rfl⟩
def fsum (h : HP) : Nat → Int32
  | 0 => 0
  | i + 1 => fsum h i + hI h 76 i
