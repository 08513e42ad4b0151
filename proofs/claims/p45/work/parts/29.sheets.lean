/-! contracts: sheet, write, item, copy, lays, judge (written by wip/p45/g29.py) -/
theorem zmis (X : EX) {h : HP} (F : Fx h) {s : Nat} (hs : s < 4) {t : Int32} {q : Nat} (hsh : ShC h s t q) : Ct X mX5_isMissing 0 0 0 [vR (some (101 + 2 * s))] h (Rt (vI (b2 (t = -1))) h) := by
  have e := zX5_isMissing X F hs
  rw [hsh.1] at e
  exact e
theorem run_of {x y : Int32} {q : Nat} (hq : q ≤ 40) (z : ¬ x < 0 ∧ ¬ y < 0 ∧ x ≤ nI q ∧ y ≤ nI q - x) : ∃ i n, x = nI i ∧ y = nI n ∧ i + n ≤ q := by
  obtain ⟨z1, z2, z3, z4⟩ := z
  rcases pk_ix x (n := q + 1) (by omega) with w | w | ⟨i, hi9, rfl⟩
  · exact absurd w z1
  · exact absurd (Int32.le_trans w z3) (nI_ge (by omega) (by omega))
  · rw [nI_subN (by omega)] at z4
    rcases pk_ix y (n := q - i + 1) (by omega) with w | w | ⟨n, hn9, rfl⟩
    · exact absurd w z2
    · exact absurd (Int32.le_trans w z4) (nI_ge (by omega) (by omega))
    · exact ⟨i, n, rfl, rfl, by omega⟩
theorem min12 {q : Nat} (hq : q ≤ 40) : (if (12 : Int32) < nI q then (12 : Int32) else nI q) = nI (min q 12) := by
  have e : (12 : Int32) < nI q ↔ 12 < q := nI_ltI (a := 12) (b := q) (by decide) (by omega)
  by_cases z : 12 < q
  · rw [if_pos (e.mpr z), Nat.min_eq_right (by omega)]
    rfl
  · rw [if_neg (fun w => z (e.mp w)), Nat.min_eq_left (by omega)]
def layH (h : HP) (a s : Nat) (t : Int32) : Nat → HP
  | 0 => h
  | k + 1 => wL (layH h a s t k) a k (pvR t (dgt (hI h 39 s) k).toInt64)
theorem layH_F {h : HP} (F : Fx h) {a s : Nat} {t : Int32} : ∀ k, Fx (layH h a s t k) := by
  intro k
  induction k with
  | zero => exact F
  | succ k ih => exact ih
theorem layH_I {h : HP} {a s : Nat} {t : Int32} : ∀ k, hI (layH h a s t k) = hI h := by
  intro k
  induction k with
  | zero => rfl
  | succ k ih => exact ih
theorem ShC.tt {h : HP} {s q : Nat} {t : Int32} (hsh : ShC h s t q) (z : ¬ t = -1) : t = 0 ∨ t = 1 ∨ t = 2 := by
  rcases hsh.2.1 with w | w
  · exact absurd w z
  · exact w
/-- all sheets -/
def ShA (h : HP) (tS : Nat → Int32) (qS : Nat → Nat) : Prop := ∀ s, s < 4 → ShC h s (tS s) (qS s)
theorem zX8_sheet (X : EX) {h : HP} (F : Fx h) (x t y : Int32) : Ct X mX8_sheet 1 0 0 [vR (some 32), vI x, vI t, vI y] h (if x < 0 ∨ 4 ≤ x then RF h 0 else if t < -1 then RF h 0 else if t ≤ 2 then (if t = -1 then Rt (vI 0) (shB h x.toNatClampNeg (-1) 0) else if y < 0 then RF h 6 else if y ≤ 40 then Rt (vI y) (shB h x.toNatClampNeg t y.toNatClampNeg) else RF h 0) else RF h 0) := by
  refine ct_of rfl (Nat.le_of_ble_eq_true rfl) ?_
  refine e_iload_n aX8_sheet_0 rfl ?_
  refine e_iconst (v := 4) aX8_sheet_1 (by decide) ?_
  refine e_invsT aX8_sheet_2 kX8_58 (zX8_isOutside X _ _) rfl rfl (Nat.le_of_ble_eq_true rfl) (Nat.le_of_ble_eq_true rfl) (Nat.le_refl _) (Nat.le_refl _) (Nat.le_of_ble_eq_true rfl) ?_
  refine e_if_ne aX8_sheet_5 (fun c5 => ?_) (fun c5 => ?_)
  · -- 5: taken
    have q5 := Decidable.of_not_not (fun z => c5 (b2_0.mpr z))
    refine e_aload_n aX8_sheet_18 rfl ?_
    refine e_iconst (v := 0) aX8_sheet_19 (by decide) ?_
    refine e_invvT aX8_sheet_20 kX8_62 (zfin X (k := 0) F (by decide)) rfl rfl (fx_is F rfl) (Nat.le_of_ble_eq_true rfl) (Nat.le_of_ble_eq_true rfl) (Nat.le_refl _) (Nat.le_refl _) (Nat.le_of_ble_eq_true rfl) ?_
    refine e_ireturn aX8_sheet_23 rfl (Nat.le_refl _) (Nat.le_refl _) ?_
    rw [if_pos q5]
    exact ⟨rfl, rfl⟩
  · -- 5: not taken
    have q5 := b2_0.mp c5
    obtain ⟨sz, hs, rfl⟩ := ou_of 4 (by decide) q5
    refine e_iload_n aX8_sheet_8 rfl ?_
    refine e_iconst (v := -1) aX8_sheet_9 (by decide) ?_
    refine e_icmp_lt aX8_sheet_10 (fun c10 => ?_) (fun c10 => ?_)
    · -- 10: taken
      have q10 : t < -1 := c10
      refine e_aload_n aX8_sheet_18 rfl ?_
      refine e_iconst (v := 0) aX8_sheet_19 (by decide) ?_
      refine e_invvT aX8_sheet_20 kX8_62 (zfin X (k := 0) F (by decide)) rfl rfl (fx_is F rfl) (Nat.le_of_ble_eq_true rfl) (Nat.le_of_ble_eq_true rfl) (Nat.le_refl _) (Nat.le_refl _) (Nat.le_of_ble_eq_true rfl) ?_
      refine e_ireturn aX8_sheet_23 rfl (Nat.le_refl _) (Nat.le_refl _) ?_
      rw [if_neg q5, if_pos q10]
      exact ⟨rfl, rfl⟩
    · -- 10: not taken
      have q10 : ¬ t < -1 := c10
      refine e_iload_n aX8_sheet_13 rfl ?_
      refine e_iconst (v := 2) aX8_sheet_14 (by decide) ?_
      refine e_icmp_le aX8_sheet_15 (fun c15 => ?_) (fun c15 => ?_)
      · -- 15: taken
        have q15 : t ≤ 2 := c15
        refine e_iload_n aX8_sheet_24 rfl ?_
        refine e_iconst (v := -1) aX8_sheet_25 (by decide) ?_
        refine e_icmp_ne aX8_sheet_26 (fun c26 => ?_) (fun c26 => ?_)
        · -- 26: taken
          have q26 : ¬ t = -1 := c26
          refine e_iload_n aX8_sheet_42 rfl ?_
          refine e_if_ge aX8_sheet_43 (fun c43 => ?_) (fun c43 => ?_)
          · -- 43: taken
            have q43 : ¬ y < 0 := Int32.not_lt.mpr c43
            refine e_iload_n aX8_sheet_53 rfl ?_
            refine e_bipush (v := 40) aX8_sheet_54 (by decide) ?_
            refine e_icmp_le aX8_sheet_56 (fun c56 => ?_) (fun c56 => ?_)
            · -- 56: taken
              have q56 : y ≤ 40 := c56
              obtain ⟨q, hq, rfl⟩ := ou_of 41 (by decide) (v := y) (fun z => z.elim q43 (fun z => absurd (Int32.le_trans z q56) (by decide)))
              refine e_aload_n aX8_sheet_65 rfl ?_
              refine e_getRF aX8_sheet_66 fX8_36 rfl (fx_is F rfl) (fx_r (b := 73) F rfl) ?_
              refine e_iload_n aX8_sheet_69 rfl ?_
              refine e_aaloadF (t := 18) aX8_sheet_70 (fx_is F rfl) (by decide) (by decide) (fx_n (n := 4) F rfl) (vin (N := 4) hs) (sh_a F hs) ?_
              refine e_iload_n aX8_sheet_71 rfl ?_
              refine e_iload_n aX8_sheet_72 rfl ?_
              refine e_invvV aX8_sheet_73 kX8_233 (zX5_become X F hs t (q := q) (by omega)) rfl rfl (sh_is F hs) (Nat.le_of_ble_eq_true rfl) (Nat.le_of_ble_eq_true rfl) (Nat.le_refl _) (Nat.le_refl _) (Nat.le_of_ble_eq_true rfl) ?_
              refine e_iload_n aX8_sheet_76 rfl ?_
              refine e_ireturn aX8_sheet_77 rfl (Nat.le_refl _) (Nat.le_refl _) ?_
              rw [if_neg q5, if_neg q10, if_pos q15, if_neg q26, if_neg q43, if_pos q56, cl (by omega), cl (by omega)]
              exact ⟨rfl, rfl⟩
            · -- 56: not taken
              have q56 : ¬ y ≤ 40 := c56
              refine e_aload_n aX8_sheet_59 rfl ?_
              refine e_iconst (v := 0) aX8_sheet_60 (by decide) ?_
              refine e_invvT aX8_sheet_61 kX8_62 (zfin X (k := 0) F (by decide)) rfl rfl (fx_is F rfl) (Nat.le_of_ble_eq_true rfl) (Nat.le_of_ble_eq_true rfl) (Nat.le_refl _) (Nat.le_refl _) (Nat.le_of_ble_eq_true rfl) ?_
              refine e_ireturn aX8_sheet_64 rfl (Nat.le_refl _) (Nat.le_refl _) ?_
              rw [if_neg q5, if_neg q10, if_pos q15, if_neg q26, if_neg q43, if_neg q56]
              exact ⟨rfl, rfl⟩
          · -- 43: not taken
            have q43 : y < 0 := Int32.not_le.mp c43
            refine e_aload_n aX8_sheet_46 rfl ?_
            refine e_bipush (v := 6) aX8_sheet_47 (by decide) ?_
            refine e_invvT aX8_sheet_49 kX8_62 (zfin X (k := 6) F (by decide)) rfl rfl (fx_is F rfl) (Nat.le_of_ble_eq_true rfl) (Nat.le_of_ble_eq_true rfl) (Nat.le_refl _) (Nat.le_refl _) (Nat.le_of_ble_eq_true rfl) ?_
            refine e_ireturn aX8_sheet_52 rfl (Nat.le_refl _) (Nat.le_refl _) ?_
            rw [if_neg q5, if_neg q10, if_pos q15, if_neg q26, if_pos q43]
            exact ⟨rfl, rfl⟩
        · -- 26: not taken
          have q26 : t = -1 := c26
          subst q26
          refine e_aload_n aX8_sheet_29 rfl ?_
          refine e_getRF aX8_sheet_30 fX8_36 rfl (fx_is F rfl) (fx_r (b := 73) F rfl) ?_
          refine e_iload_n aX8_sheet_33 rfl ?_
          refine e_aaloadF (t := 18) aX8_sheet_34 (fx_is F rfl) (by decide) (by decide) (fx_n (n := 4) F rfl) (vin (N := 4) hs) (sh_a F hs) ?_
          refine e_iconst (v := -1) aX8_sheet_35 (by decide) ?_
          refine e_iconst (v := 0) aX8_sheet_36 (by decide) ?_
          refine e_invvV aX8_sheet_37 kX8_233 (zX5_become X F hs (-1) (q := 0) (by decide)) rfl rfl (sh_is F hs) (Nat.le_of_ble_eq_true rfl) (Nat.le_of_ble_eq_true rfl) (Nat.le_refl _) (Nat.le_refl _) (Nat.le_of_ble_eq_true rfl) ?_
          refine e_iconst (v := 0) aX8_sheet_40 (by decide) ?_
          refine e_ireturn aX8_sheet_41 rfl (Nat.le_refl _) (Nat.le_refl _) ?_
          rw [if_neg q5, if_neg q10, if_pos q15, if_pos rfl, cl (by omega)]
          exact ⟨rfl, rfl⟩
      · -- 15: not taken
        have q15 : ¬ t ≤ 2 := c15
        refine e_aload_n aX8_sheet_18 rfl ?_
        refine e_iconst (v := 0) aX8_sheet_19 (by decide) ?_
        refine e_invvT aX8_sheet_20 kX8_62 (zfin X (k := 0) F (by decide)) rfl rfl (fx_is F rfl) (Nat.le_of_ble_eq_true rfl) (Nat.le_of_ble_eq_true rfl) (Nat.le_refl _) (Nat.le_refl _) (Nat.le_of_ble_eq_true rfl) ?_
        refine e_ireturn aX8_sheet_23 rfl (Nat.le_refl _) (Nat.le_refl _) ?_
        rw [if_neg q5, if_neg q10, if_neg q15]
        exact ⟨rfl, rfl⟩
theorem zX8_write (X : EX) {h : HP} (F : Fx h) {tS : Nat → Int32} {qS : Nat → Nat} (hS : ShA h tS qS) (x y : Int32) (v : Int64) : Ct X mX8_write 1 0 0 [vR (some 32), vI x, vI y, vL v] h (if x < 0 ∨ 4 ≤ x then RF h 0 else if tS x.toNatClampNeg = -1 then RF h 5 else if y < 0 ∨ nI (qS x.toNatClampNeg) ≤ y then RF h 0 else Rt (vI 1) (wL h (102 + 2 * x.toNatClampNeg) y.toNatClampNeg (pvR (tS x.toNatClampNeg) v))) := by
  refine ct_of rfl (Nat.le_of_ble_eq_true rfl) ?_
  refine e_iload_n aX8_write_0 rfl ?_
  refine e_iconst (v := 4) aX8_write_1 (by decide) ?_
  refine e_invsT aX8_write_2 kX8_58 (zX8_isOutside X _ _) rfl rfl (Nat.le_of_ble_eq_true rfl) (Nat.le_of_ble_eq_true rfl) (Nat.le_refl _) (Nat.le_refl _) (Nat.le_of_ble_eq_true rfl) ?_
  refine e_if_eq aX8_write_5 (fun c5 => ?_) (fun c5 => ?_)
  · -- 5: taken
    have q5 := b2_0.mp c5
    obtain ⟨sz, hs, rfl⟩ := ou_of 4 (by decide) q5
    have hsh := hS sz hs
    have hq40 := hsh.2.2.2
    refine e_aload_n aX8_write_14 rfl ?_
    refine e_getRF aX8_write_15 fX8_36 rfl (fx_is F rfl) (fx_r (b := 73) F rfl) ?_
    refine e_iload_n aX8_write_18 rfl ?_
    refine e_aaloadF (t := 18) aX8_write_19 (fx_is F rfl) (by decide) (by decide) (fx_n (n := 4) F rfl) (vin (N := 4) hs) (sh_a F hs) ?_
    refine e_astore aX8_write_20 (Nat.le_of_ble_eq_true rfl) ?_
    refine e_aload aX8_write_22 rfl ?_
    refine e_invvT aX8_write_24 kX8_203 (zmis X F hs hsh) rfl rfl (sh_is F hs) (Nat.le_of_ble_eq_true rfl) (Nat.le_of_ble_eq_true rfl) (Nat.le_refl _) (Nat.le_refl _) (Nat.le_of_ble_eq_true rfl) ?_
    refine e_if_eq aX8_write_27 (fun c27 => ?_) (fun c27 => ?_)
    · -- 27: taken
      have q27 := b2_0.mp c27
      refine e_iload_n aX8_write_36 rfl ?_
      refine e_aload aX8_write_37 rfl ?_
      refine e_getIF aX8_write_39 fX8_207 rfl (sh_is F hs) hsh.2.2.1 ?_
      refine e_invsT aX8_write_42 kX8_58 (zX8_isOutside X _ _) rfl rfl (Nat.le_of_ble_eq_true rfl) (Nat.le_of_ble_eq_true rfl) (Nat.le_refl _) (Nat.le_refl _) (Nat.le_of_ble_eq_true rfl) ?_
      refine e_if_eq aX8_write_45 (fun c45 => ?_) (fun c45 => ?_)
      · -- 45: taken
        have q45 := b2_0.mp c45
        obtain ⟨j, hj, rfl⟩ := ou_of (qS sz) (by omega) q45
        refine e_aload aX8_write_54 rfl ?_
        refine e_iload_n aX8_write_56 rfl ?_
        refine e_lload_n aX8_write_57 rfl ?_
        refine e_invvV aX8_write_58 kX8_221 (zX5_put X F hs hsh (hsh.tt q27) hj v) rfl rfl (sh_is F hs) (Nat.le_of_ble_eq_true rfl) (Nat.le_of_ble_eq_true rfl) (Nat.le_refl _) (Nat.le_refl _) (Nat.le_of_ble_eq_true rfl) ?_
        refine e_iconst (v := 1) aX8_write_61 (by decide) ?_
        refine e_ireturn aX8_write_62 rfl (Nat.le_refl _) (Nat.le_refl _) ?_
        rw [if_neg q5, cl (n := sz) (by omega), if_neg q27, if_neg q45, cl (by omega)]
        exact ⟨rfl, rfl⟩
      · -- 45: not taken
        have q45 := Decidable.of_not_not (fun z => c45 (b2_0.mpr z))
        refine e_aload_n aX8_write_48 rfl ?_
        refine e_iconst (v := 0) aX8_write_49 (by decide) ?_
        refine e_invvT aX8_write_50 kX8_62 (zfin X (k := 0) F (by decide)) rfl rfl (fx_is F rfl) (Nat.le_of_ble_eq_true rfl) (Nat.le_of_ble_eq_true rfl) (Nat.le_refl _) (Nat.le_refl _) (Nat.le_of_ble_eq_true rfl) ?_
        refine e_ireturn aX8_write_53 rfl (Nat.le_refl _) (Nat.le_refl _) ?_
        rw [if_neg q5, cl (by omega), if_neg q27, if_pos q45]
        exact ⟨rfl, rfl⟩
    · -- 27: not taken
      have q27 := Decidable.of_not_not (fun z => c27 (b2_0.mpr z))
      refine e_aload_n aX8_write_30 rfl ?_
      refine e_iconst (v := 5) aX8_write_31 (by decide) ?_
      refine e_invvT aX8_write_32 kX8_62 (zfin X (k := 5) F (by decide)) rfl rfl (fx_is F rfl) (Nat.le_of_ble_eq_true rfl) (Nat.le_of_ble_eq_true rfl) (Nat.le_refl _) (Nat.le_refl _) (Nat.le_of_ble_eq_true rfl) ?_
      refine e_ireturn aX8_write_35 rfl (Nat.le_refl _) (Nat.le_refl _) ?_
      rw [if_neg q5, cl (by omega), if_pos q27]
      exact ⟨rfl, rfl⟩
  · -- 5: not taken
    have q5 := Decidable.of_not_not (fun z => c5 (b2_0.mpr z))
    refine e_aload_n aX8_write_8 rfl ?_
    refine e_iconst (v := 0) aX8_write_9 (by decide) ?_
    refine e_invvT aX8_write_10 kX8_62 (zfin X (k := 0) F (by decide)) rfl rfl (fx_is F rfl) (Nat.le_of_ble_eq_true rfl) (Nat.le_of_ble_eq_true rfl) (Nat.le_refl _) (Nat.le_refl _) (Nat.le_of_ble_eq_true rfl) ?_
    refine e_ireturn aX8_write_13 rfl (Nat.le_refl _) (Nat.le_refl _) ?_
    rw [if_pos q5]
    exact ⟨rfl, rfl⟩
