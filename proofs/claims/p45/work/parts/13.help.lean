/-! contracts: helpers of RolledPicks, Book (written by wip/p45/g13.py) -/
theorem zX8_isOutside (X : EX) {h : HP} (v e : Int32) : Ct X mX8_isOutside 0 0 0 [vI v, vI e] h (Rt (vI (b2 (v < 0 ∨ e ≤ v))) h) := by
  refine ct_of rfl (Nat.le_of_ble_eq_true rfl) ?_
  refine e_iload_n aX8_isOutside_0 rfl ?_
  refine e_if_lt aX8_isOutside_1 (fun c1 => ?_) (fun c1 => ?_)
  · -- 1: taken
    refine e_iconst (v := 1) aX8_isOutside_9 (by decide) ?_
    refine e_goto aX8_isOutside_10 ?_
    refine e_zreturn aX8_isOutside_14 rfl (by decide) (Nat.le_refl _) (Nat.le_refl _) ?_
    exact ⟨by rw [b2_t (by first | grind | (simp only [b2_0] at *; grind))], rfl⟩
  · -- 1: not taken
    refine e_iload_n aX8_isOutside_4 rfl ?_
    refine e_iload_n aX8_isOutside_5 rfl ?_
    refine e_icmp_lt aX8_isOutside_6 (fun c6 => ?_) (fun c6 => ?_)
    · -- 6: taken
      refine e_iconst (v := 0) aX8_isOutside_13 (by decide) ?_
      refine e_zreturn aX8_isOutside_14 rfl (by decide) (Nat.le_refl _) (Nat.le_refl _) ?_
      exact ⟨by rw [b2_f (by first | grind | (simp only [b2_0] at *; grind))], rfl⟩
    · -- 6: not taken
      refine e_iconst (v := 1) aX8_isOutside_9 (by decide) ?_
      refine e_goto aX8_isOutside_10 ?_
      refine e_zreturn aX8_isOutside_14 rfl (by decide) (Nat.le_refl _) (Nat.le_refl _) ?_
      exact ⟨by rw [b2_t (by first | grind | (simp only [b2_0] at *; grind))], rfl⟩
theorem zX8_areNoPair (X : EX) {h : HP} (v e : Int32) : Ct X mX8_areNoPair 1 0 0 [vI v, vI e] h (Rt (vI (b2 ((v < 0 ∨ 3 ≤ v) ∨ (e < 0 ∨ 3 ≤ e) ∨ v = e))) h) := by
  refine ct_of rfl (Nat.le_of_ble_eq_true rfl) ?_
  refine e_iload_n aX8_areNoPair_0 rfl ?_
  refine e_iconst (v := 3) aX8_areNoPair_1 (by decide) ?_
  refine e_invsT aX8_areNoPair_2 kX8_58 (zX8_isOutside X _ _) rfl rfl (Nat.le_of_ble_eq_true rfl) (Nat.le_of_ble_eq_true rfl) (Nat.le_refl _) (Nat.le_refl _) (Nat.le_of_ble_eq_true rfl) ?_
  refine e_if_ne aX8_areNoPair_5 (fun c5 => ?_) (fun c5 => ?_)
  · -- 5: taken
    have q5 := Decidable.of_not_not (fun z => c5 (b2_0.mpr z))
    refine e_iconst (v := 1) aX8_areNoPair_21 (by decide) ?_
    refine e_goto aX8_areNoPair_22 ?_
    refine e_zreturn aX8_areNoPair_26 rfl (by decide) (Nat.le_refl _) (Nat.le_refl _) ?_
    exact ⟨by rw [b2_t (by first | grind | (simp only [b2_0] at *; grind))], rfl⟩
  · -- 5: not taken
    have q5 := b2_0.mp c5
    refine e_iload_n aX8_areNoPair_8 rfl ?_
    refine e_iconst (v := 3) aX8_areNoPair_9 (by decide) ?_
    refine e_invsT aX8_areNoPair_10 kX8_58 (zX8_isOutside X _ _) rfl rfl (Nat.le_of_ble_eq_true rfl) (Nat.le_of_ble_eq_true rfl) (Nat.le_refl _) (Nat.le_refl _) (Nat.le_of_ble_eq_true rfl) ?_
    refine e_if_ne aX8_areNoPair_13 (fun c13 => ?_) (fun c13 => ?_)
    · -- 13: taken
      have q13 := Decidable.of_not_not (fun z => c13 (b2_0.mpr z))
      refine e_iconst (v := 1) aX8_areNoPair_21 (by decide) ?_
      refine e_goto aX8_areNoPair_22 ?_
      refine e_zreturn aX8_areNoPair_26 rfl (by decide) (Nat.le_refl _) (Nat.le_refl _) ?_
      exact ⟨by rw [b2_t (by first | grind | (simp only [b2_0] at *; grind))], rfl⟩
    · -- 13: not taken
      have q13 := b2_0.mp c13
      refine e_iload_n aX8_areNoPair_16 rfl ?_
      refine e_iload_n aX8_areNoPair_17 rfl ?_
      refine e_icmp_ne aX8_areNoPair_18 (fun c18 => ?_) (fun c18 => ?_)
      · -- 18: taken
        refine e_iconst (v := 0) aX8_areNoPair_25 (by decide) ?_
        refine e_zreturn aX8_areNoPair_26 rfl (by decide) (Nat.le_refl _) (Nat.le_refl _) ?_
        exact ⟨by rw [b2_f (by first | grind | (simp only [b2_0] at *; grind))], rfl⟩
      · -- 18: not taken
        refine e_iconst (v := 1) aX8_areNoPair_21 (by decide) ?_
        refine e_goto aX8_areNoPair_22 ?_
        refine e_zreturn aX8_areNoPair_26 rfl (by decide) (Nat.le_refl _) (Nat.le_refl _) ?_
        exact ⟨by rw [b2_t (by first | grind | (simp only [b2_0] at *; grind))], rfl⟩
theorem zX8_placeUnder (X : EX) {h : HP} {s p : Nat} (hs : s < 1296) (hp : p < 12) : Ct X mX8_placeUnder 0 0 0 [vI (nI s), vI (nI p)] h (Rt (vI (nI (pl s p))) h) := by
  refine ct_of rfl (Nat.le_of_ble_eq_true rfl) ?_
  refine e_iload_n aX8_placeUnder_0 rfl ?_
  refine e_gets (i := 2) aX8_placeUnder_1 rfl gX8_198 ?_
  refine e_iload_n aX8_placeUnder_4 rfl ?_
  refine e_iconst (v := 3) aX8_placeUnder_5 (by decide) ?_
  refine e_idiv aX8_placeUnder_6 (by decide) ?_
  refine e_top (nI_div (b := 3) (by omega) (by decide) (by decide)) ?_
  refine e_ialoadS aX8_placeUnder_7 rfl (vin (N := 4) (by omega)) ?_
  refine e_top (st_step (i := p / 3) (by omega)) ?_
  have hst := stp_pos (y := p / 3) (by omega)
  refine e_idiv aX8_placeUnder_8 (nI_ne0 hst.1 (by omega)) ?_
  refine e_top (nI_div (by omega) hst.1 (by omega)) ?_
  have hq : s / stp (p / 3) < 1296 := Nat.lt_of_le_of_lt (Nat.div_le_self _ _) hs
  refine e_bipush (v := 6) aX8_placeUnder_9 (by decide) ?_
  refine e_irem aX8_placeUnder_11 (by decide) ?_
  refine e_top (nI_rem (b := 6) (by omega) (by decide) (by decide)) ?_
  refine e_istore_n aX8_placeUnder_12 (Nat.le_of_ble_eq_true rfl) ?_
  refine e_gets (i := 1) aX8_placeUnder_13 rfl gX8_263 ?_
  refine e_iload_n aX8_placeUnder_16 rfl ?_
  refine e_iconst (v := 3) aX8_placeUnder_17 (by decide) ?_
  refine e_imul aX8_placeUnder_18 ?_
  refine e_top (nI_mul _ 3) ?_
  refine e_iload_n aX8_placeUnder_19 rfl ?_
  refine e_iconst (v := 3) aX8_placeUnder_20 (by decide) ?_
  refine e_irem aX8_placeUnder_21 (by decide) ?_
  refine e_top (nI_rem (b := 3) (by omega) (by decide) (by decide)) ?_
  refine e_iadd aX8_placeUnder_22 ?_
  refine e_top (nI_add _ _) ?_
  have hm : s / stp (p / 3) % 6 < 6 := Nat.mod_lt _ (by decide)
  refine e_ialoadS aX8_placeUnder_23 rfl (vin (N := 18) (by omega)) ?_
  refine e_top (st_place (by omega)) ?_
  refine e_ireturn aX8_placeUnder_24 rfl (Nat.le_refl _) (Nat.le_refl _) ?_
  exact ⟨rfl, rfl⟩
theorem zX8_finding (X : EX) {h : HP} (F : Fx h) {k : Nat} (hk : k < 8) : Ct X mX8_finding 0 0 0 [vR (some 32), vI (nI k)] h (Rt (vI (-1000001 - nI k)) (wI h 76 k (hI h 76 k + 1))) := by
  refine ct_of rfl (Nat.le_of_ble_eq_true rfl) ?_
  refine e_aload_n aX8_finding_0 rfl ?_
  refine e_getRF aX8_finding_1 fX8_50 rfl (fx_is F rfl) (fx_r (b := 76) F rfl) ?_
  refine e_iload_n aX8_finding_4 rfl ?_
  refine e_dup2 aX8_finding_5 rfl rfl ?_
  refine e_ialoadF aX8_finding_6 (fx_is F rfl) (fx_n (n := 8) F rfl) (vin hk) (by rw [cl (by omega)]) ?_
  refine e_iconst (v := 1) aX8_finding_7 (by decide) ?_
  refine e_iadd aX8_finding_8 ?_
  refine e_iastoreF aX8_finding_9 (fx_is F rfl) (fx_n (n := 8) F rfl) (vin hk) ?_
  rw [cl (by omega)]
  refine e_ldcw aX8_finding_10 lX8_269 ?_
  refine e_iload_n aX8_finding_13 rfl ?_
  refine e_isub aX8_finding_14 ?_
  refine e_ireturn aX8_finding_15 rfl (Nat.le_refl _) (Nat.le_refl _) ?_
  exact ⟨rfl, rfl⟩
theorem zX8_longFinding (X : EX) {h : HP} (F : Fx h) {k : Nat} (hk : k < 8) : Ct X mX8_longFinding 0 0 0 [vR (some 32), vI (nI k)] h (Rt (vL (-1000000000000000001 - lN k)) (wI h 76 k (hI h 76 k + 1))) := by
  refine ct_of rfl (Nat.le_of_ble_eq_true rfl) ?_
  refine e_aload_n aX8_longFinding_0 rfl ?_
  refine e_getRF aX8_longFinding_1 fX8_50 rfl (fx_is F rfl) (fx_r (b := 76) F rfl) ?_
  refine e_iload_n aX8_longFinding_4 rfl ?_
  refine e_dup2 aX8_longFinding_5 rfl rfl ?_
  refine e_ialoadF aX8_longFinding_6 (fx_is F rfl) (fx_n (n := 8) F rfl) (vin hk) (by rw [cl (by omega)]) ?_
  refine e_iconst (v := 1) aX8_longFinding_7 (by decide) ?_
  refine e_iadd aX8_longFinding_8 ?_
  refine e_iastoreF aX8_longFinding_9 (fx_is F rfl) (fx_n (n := 8) F rfl) (vin hk) ?_
  rw [cl (by omega)]
  refine e_ldc2 aX8_longFinding_10 lX8_270 ?_
  refine e_iload_n aX8_longFinding_13 rfl ?_
  refine e_i2l aX8_longFinding_14 ?_
  refine e_topL (nI_l (by omega)) ?_
  refine e_lsub aX8_longFinding_15 ?_
  refine e_lreturn aX8_longFinding_16 rfl (Nat.le_refl _) (Nat.le_refl _) ?_
  exact ⟨rfl, rfl⟩
