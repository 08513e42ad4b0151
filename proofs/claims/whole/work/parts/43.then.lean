/-! contracts: Reader, deals by then (written by wip/whole/g43.py) -/
/-- the DEALs that came in a TEXT -/
def CmC (h : HP) (c : Nat) (B : Nat → Nat) (E : Nat → DD) : Prop := hI h 40 2 = nI c ∧ c ≤ 12 ∧ ∀ j, j < c → hR h 43 j = some (B j) ∧ DealC h (B j) (E j)
def dbt (A : Nat → Nat) (n : Nat) (B : Nat → Nat) (c : Nat) (x : Int32) : Option Nat := if x < nI n then dl A n x else dl B c (x - nI n)
theorem zX3_cameAt (X : EX) {h : HP} (F : Fx h) {c : Nat} {B : Nat → Nat} {E : Nat → DD} (cm : CmC h c B E) (x : Int32) : Ct X mX3_cameAt 1 0 0 [vR (some 40), vI x] h (Rt (vR (dl B c x)) h) := by
  refine ct_of rfl (Nat.le_of_ble_eq_true rfl) ?_
  have hc12 := cm.2.1
  refine e_iload_n aX3_cameAt_0 rfl ?_
  refine e_aload_n aX3_cameAt_1 rfl ?_
  refine e_getIF aX3_cameAt_2 fX3_31 rfl (fx_is F rfl) cm.1 ?_
  refine e_invsNT aX3_cameAt_5 kX3_35 (zX8_isOutside X _ _) rfl rfl (Nat.le_of_ble_eq_true rfl) (Nat.le_of_ble_eq_true rfl) (Nat.le_refl _) (Nat.le_refl _) (Nat.le_of_ble_eq_true rfl) ?_
  refine e_if_eq aX3_cameAt_8 (fun c8 => ?_) (fun c8 => ?_)
  · -- 8: taken
    have q8 := b2_0.mp c8
    obtain ⟨j, hj, rfl⟩ := ou_of c (by omega) q8
    refine e_aload_n aX3_cameAt_15 rfl ?_
    refine e_getRF aX3_cameAt_16 fX3_20 rfl (fx_is F rfl) (fx_r (b := 43) F rfl) ?_
    refine e_iload_n aX3_cameAt_19 rfl ?_
    refine e_aaloadF (t := 17) aX3_cameAt_20 (fx_is F rfl) (by decide) (by decide) (fx_n (n := 12) F rfl) (vin (N := 12) (by omega)) (show hR h 43 (nI j).toNatClampNeg = some (B j) by rw [cl (by omega)]; exact (cm.2.2 j hj).1) ?_
    refine e_areturn aX3_cameAt_21 rfl (Nat.le_refl _) (Nat.le_refl _) ?_
    exact ⟨by unfold dl; rw [if_neg q8, cl (by omega)], rfl⟩
  · -- 8: not taken
    have q8 := Decidable.of_not_not (fun z => c8 (b2_0.mpr z))
    skip
    refine e_aconst_null aX3_cameAt_11 ?_
    refine e_goto aX3_cameAt_12 ?_
    refine e_areturn aX3_cameAt_21 rfl (Nat.le_refl _) (Nat.le_refl _) ?_
    exact ⟨by unfold dl; rw [if_pos q8], rfl⟩
theorem zX3_dealByThen (X : EX) {h : HP} (F : Fx h) {n : Nat} {A : Nat → Nat} {D : Nat → DD} (b : BkD h n A D) {c : Nat} {B : Nat → Nat} {E : Nat → DD} (cm : CmC h c B E) (x : Int32) : Ct X mX3_dealByThen 2 0 0 [vR (some 40), vR (some 33), vI x] h (Rt (vR (dbt A n B c x)) h) := by
  refine ct_of rfl (Nat.le_of_ble_eq_true rfl) ?_
  refine e_iload_n aX3_dealByThen_0 rfl ?_
  refine e_aload_n aX3_dealByThen_1 rfl ?_
  refine e_getIF aX3_dealByThen_2 fX3_60 rfl (fx_is F rfl) b.1 ?_
  refine e_icmp_ge aX3_dealByThen_5 (fun c5 => ?_) (fun c5 => ?_)
  · -- 5: taken
    have q5 : ¬ x < nI n := Int32.not_lt.mpr c5
    refine e_aload_n aX3_dealByThen_16 rfl ?_
    refine e_iload_n aX3_dealByThen_17 rfl ?_
    refine e_aload_n aX3_dealByThen_18 rfl ?_
    refine e_getIF aX3_dealByThen_19 fX3_60 rfl (fx_is F rfl) b.1 ?_
    refine e_isub aX3_dealByThen_22 ?_
    refine e_invvT aX3_dealByThen_23 kX3_151 (zX3_cameAt X F cm _) rfl rfl (fx_is F rfl) (Nat.le_of_ble_eq_true rfl) (Nat.le_of_ble_eq_true rfl) (Nat.le_refl _) (Nat.le_refl _) (Nat.le_of_ble_eq_true rfl) ?_
    refine e_areturn aX3_dealByThen_26 rfl (Nat.le_refl _) (Nat.le_refl _) ?_
    exact ⟨by unfold dbt; rw [if_neg q5], rfl⟩
  · -- 5: not taken
    have q5 : x < nI n := Int32.not_le.mp c5
    refine e_aload_n aX3_dealByThen_8 rfl ?_
    refine e_iload_n aX3_dealByThen_9 rfl ?_
    refine e_invvT aX3_dealByThen_10 kX3_147 (zdl X F b x) rfl rfl (fx_is F rfl) (Nat.le_of_ble_eq_true rfl) (Nat.le_of_ble_eq_true rfl) (Nat.le_refl _) (Nat.le_refl _) (Nat.le_of_ble_eq_true rfl) ?_
    refine e_goto aX3_dealByThen_13 ?_
    refine e_areturn aX3_dealByThen_26 rfl (Nat.le_refl _) (Nat.le_refl _) ?_
    exact ⟨by unfold dbt; rw [if_pos q5], rfl⟩
