/-! contracts: lays, judge, hold, taken (written by wip/p45/g30.py) -/
theorem zX8_lays (X : EX) {h : HP} (F : Fx h) {f : Nat} {o : Nat → Nat} (bf : BkF h f o) {tS : Nat → Int32} {qS : Nat → Nat} (hS : ShA h tS qS) (x y : Int32) : Ct X mX8_lays 3 0 0 [vR (some 32), vI x, vI y] h (if x < 0 ∨ 4 ≤ x then RF h 0 else if nI (fo o f) ≤ y ∧ y < nI (fo o f + om f) then (if tS x.toNatClampNeg = -1 then RF h 5 else Rt (vI (nI (min (qS x.toNatClampNeg) 12))) (layH h (102 + 2 * x.toNatClampNeg) y.toNatClampNeg (tS x.toNatClampNeg) (min (qS x.toNatClampNeg) 12))) else RF h 0) := by
  refine ct_of rfl (Nat.le_of_ble_eq_true rfl) ?_
  have hb6 := om_fo bf.2.1 bf.2.2.2
  refine e_iload_n aX8_lays_0 rfl ?_
  refine e_iconst (v := 4) aX8_lays_1 (by decide) ?_
  refine e_invsT aX8_lays_2 kX8_58 (zX8_isOutside X _ _) rfl rfl (Nat.le_of_ble_eq_true rfl) (Nat.le_of_ble_eq_true rfl) (Nat.le_refl _) (Nat.le_refl _) (Nat.le_of_ble_eq_true rfl) ?_
  refine e_if_ne aX8_lays_5 (fun c5 => ?_) (fun c5 => ?_)
  · -- 5: taken
    have q5 := Decidable.of_not_not (fun z => c5 (b2_0.mpr z))
    refine e_aload_n aX8_lays_19 rfl ?_
    refine e_iconst (v := 0) aX8_lays_20 (by decide) ?_
    refine e_invvT aX8_lays_21 kX8_62 (zfin X (k := 0) F (by decide)) rfl rfl (fx_is F rfl) (Nat.le_of_ble_eq_true rfl) (Nat.le_of_ble_eq_true rfl) (Nat.le_refl _) (Nat.le_refl _) (Nat.le_of_ble_eq_true rfl) ?_
    refine e_ireturn aX8_lays_24 rfl (Nat.le_refl _) (Nat.le_refl _) ?_
    rw [if_pos q5]
    exact ⟨rfl, rfl⟩
  · -- 5: not taken
    have q5 := b2_0.mp c5
    obtain ⟨sz, hs, rfl⟩ := ou_of 4 (by decide) q5
    have hsh := hS sz hs
    have hq40 := hsh.2.2.2
    refine e_aload_n aX8_lays_8 rfl ?_
    refine e_getRF aX8_lays_9 fX8_10 rfl (fx_is F rfl) (fx_r (b := 33) F rfl) ?_
    refine e_iload_n aX8_lays_12 rfl ?_
    refine e_invvT aX8_lays_13 kX8_169 (zX0_isOpen X F bf _) rfl rfl (fx_is F rfl) (Nat.le_of_ble_eq_true rfl) (Nat.le_of_ble_eq_true rfl) (Nat.le_refl _) (Nat.le_refl _) (Nat.le_of_ble_eq_true rfl) ?_
    refine e_if_ne aX8_lays_16 (fun c16 => ?_) (fun c16 => ?_)
    · -- 16: taken
      have q16 := Decidable.of_not_not (fun z => c16 (b2_0.mpr z))
      obtain ⟨uz, hs1, hs2, rfl⟩ := opn_of (Nat.le_add_right _ _) hb6 q16
      refine e_aload_n aX8_lays_25 rfl ?_
      refine e_getRF aX8_lays_26 fX8_36 rfl (fx_is F rfl) (fx_r (b := 73) F rfl) ?_
      refine e_iload_n aX8_lays_29 rfl ?_
      refine e_aaloadF (t := 18) aX8_lays_30 (fx_is F rfl) (by decide) (by decide) (fx_n (n := 4) F rfl) (vin (N := 4) hs) (sh_a F hs) ?_
      refine e_astore_n aX8_lays_31 (Nat.le_of_ble_eq_true rfl) ?_
      refine e_aload_n aX8_lays_32 rfl ?_
      refine e_invvT aX8_lays_33 kX8_203 (zmis X F hs hsh) rfl rfl (sh_is F hs) (Nat.le_of_ble_eq_true rfl) (Nat.le_of_ble_eq_true rfl) (Nat.le_refl _) (Nat.le_refl _) (Nat.le_of_ble_eq_true rfl) ?_
      refine e_if_eq aX8_lays_36 (fun c36 => ?_) (fun c36 => ?_)
      · -- 36: taken
        have q36 := b2_0.mp c36
        rw [if_neg q5, if_pos q16, cl (n := sz) (by omega), if_neg q36, cl (by omega)]
        have hmn : (min (qS sz) 12) ≤ qS sz ∧ (min (qS sz) 12) ≤ 12 := ⟨Nat.min_le_left _ _, Nat.min_le_right _ _⟩
        have loop : ∀ (m : Nat) (k : Nat), k + m = (min (qS sz) 12) → Ev X mX8_lays 3 0 0 (Rt (vI (nI (min (qS sz) 12))) (layH h (102 + 2 * sz) uz (tS sz) (min (qS sz) 12))) 0 0 59 [(0, some (vR (some 32))), (2, some (vI (nI uz))), (3, some (vR (some (101 + 2 * sz)))), (4, some (vI (nI (min (qS sz) 12)))), (5, some (vI (nI k)))] [] (layH h (102 + 2 * sz) uz (tS sz) k) := by
          intro m
          induction m with
          | zero =>
            intro k hk
            obtain rfl : k = (min (qS sz) 12) := by omega
            refine e_iload aX8_lays_59 rfl ?_
            refine e_iload aX8_lays_61 rfl ?_
            refine e_icmp_ge aX8_lays_63 (fun c63 => ?_) (fun c63 => ?_)
            · -- 63: taken
              refine e_iload aX8_lays_89 rfl ?_
              refine e_ireturn aX8_lays_91 rfl (Nat.le_refl _) (Nat.le_refl _) ?_
              exact ⟨rfl, rfl⟩
            · -- 63: not taken
              exact absurd (nI_le (by omega) (by omega)) c63
          | succ m ih =>
            intro k hk
            have FZ : Fx (layH h (102 + 2 * sz) uz (tS sz) k) := layH_F F k
            have hshZ : ShC (layH h (102 + 2 * sz) uz (tS sz) k) sz (tS sz) (qS sz) := ⟨by rw [layH_I]; exact hsh.1, hsh.2.1, by rw [layH_I]; exact hsh.2.2.1, hq40⟩
            refine e_iload aX8_lays_59 rfl ?_
            refine e_iload aX8_lays_61 rfl ?_
            refine e_icmp_ge aX8_lays_63 (fun c63 => ?_) (fun c63 => ?_)
            · -- 63: taken
              exact absurd c63 (nI_ge (by omega) (by omega))
            · -- 63: not taken
              refine e_aload_n aX8_lays_66 rfl ?_
              refine e_iload aX8_lays_67 rfl ?_
              refine e_aload_n aX8_lays_69 rfl ?_
              refine e_getRF aX8_lays_70 fX8_23 rfl (fx_is FZ rfl) (fx_r (b := 38) FZ rfl) ?_
              refine e_iload_n aX8_lays_73 rfl ?_
              refine e_iload aX8_lays_74 rfl ?_
              refine e_invvT aX8_lays_76 kX8_172 (zX2_at X FZ (s := uz) (p := k) (by omega) (by omega)) rfl rfl (fx_is FZ rfl) (Nat.le_of_ble_eq_true rfl) (Nat.le_of_ble_eq_true rfl) (Nat.le_refl _) (Nat.le_refl _) (Nat.le_of_ble_eq_true rfl) ?_
              rw [layH_I k]
              refine e_i2l aX8_lays_79 ?_
              refine e_invvV aX8_lays_80 kX8_221 (zX5_put X (h := (layH h (102 + 2 * sz) uz (tS sz) k)) FZ hs hshZ (hsh.tt q36) (by omega) _) rfl rfl (sh_is FZ hs) (Nat.le_of_ble_eq_true rfl) (Nat.le_of_ble_eq_true rfl) (Nat.le_refl _) (Nat.le_refl _) (Nat.le_of_ble_eq_true rfl) ?_
              refine e_iinc aX8_lays_83 rfl rfl (Nat.le_of_ble_eq_true rfl) ?_
              refine e_goto aX8_lays_86 ?_
              refine e_ls (ls' := [(0, some (vR (some 32))), (2, some (vI (nI uz))), (3, some (vR (some (101 + 2 * sz)))), (4, some (vI (nI (min (qS sz) 12)))), (5, some (vI (nI (k + 1))))]) ⟨rfl, rfl, rfl, rfl, congrArg (fun x => some (vI x)) (nI_1 k), trivial⟩ ?_
              exact ih (k + 1) (by omega)
        refine e_aload_n aX8_lays_45 rfl ?_
        refine e_getIF aX8_lays_46 fX8_207 rfl (sh_is F hs) hsh.2.2.1 ?_
        refine e_bipush (v := 12) aX8_lays_49 (by decide) ?_
        refine e_min aX8_lays_51 kX8_216.2.2.1 w_minS w_minI w_minC (Nat.le_of_ble_eq_true rfl) (Nat.le_refl _) (Nat.le_refl _) (Nat.le_of_ble_eq_true rfl) ?_
        refine e_top (min12 hq40) ?_
        refine e_istore aX8_lays_54 (Nat.le_of_ble_eq_true rfl) ?_
        refine e_iconst (v := 0) aX8_lays_56 (by decide) ?_
        refine e_istore aX8_lays_57 (Nat.le_of_ble_eq_true rfl) ?_
        refine e_ls (ls' := [(0, some (vR (some 32))), (2, some (vI (nI uz))), (3, some (vR (some (101 + 2 * sz)))), (4, some (vI (nI (min (qS sz) 12)))), (5, some (vI (nI 0)))]) ⟨rfl, rfl, rfl, rfl, rfl, trivial⟩ ?_
        exact loop (min (qS sz) 12) 0 (by omega)
      · -- 36: not taken
        have q36 := Decidable.of_not_not (fun z => c36 (b2_0.mpr z))
        refine e_aload_n aX8_lays_39 rfl ?_
        refine e_iconst (v := 5) aX8_lays_40 (by decide) ?_
        refine e_invvT aX8_lays_41 kX8_62 (zfin X (k := 5) F (by decide)) rfl rfl (fx_is F rfl) (Nat.le_of_ble_eq_true rfl) (Nat.le_of_ble_eq_true rfl) (Nat.le_refl _) (Nat.le_refl _) (Nat.le_of_ble_eq_true rfl) ?_
        refine e_ireturn aX8_lays_44 rfl (Nat.le_refl _) (Nat.le_refl _) ?_
        rw [if_neg q5, if_pos q16, cl (n := sz) (by omega), if_pos q36]
        exact ⟨rfl, rfl⟩
    · -- 16: not taken
      have q16 := b2_0.mp c16
      refine e_aload_n aX8_lays_19 rfl ?_
      refine e_iconst (v := 0) aX8_lays_20 (by decide) ?_
      refine e_invvT aX8_lays_21 kX8_62 (zfin X (k := 0) F (by decide)) rfl rfl (fx_is F rfl) (Nat.le_of_ble_eq_true rfl) (Nat.le_of_ble_eq_true rfl) (Nat.le_refl _) (Nat.le_refl _) (Nat.le_of_ble_eq_true rfl) ?_
      refine e_ireturn aX8_lays_24 rfl (Nat.le_refl _) (Nat.le_refl _) ?_
      rw [if_neg q5, if_neg q16]
      exact ⟨rfl, rfl⟩
/-- a number on a sheet is the OWNER's -/
def jdB (h : HP) (a s p : Nat) : Bool := decide (¬ lg_cmp (hL h a p) (dgt (hI h 39 s) p).toInt64 = 0)
def jdR (h : HP) (a s q : Nat) : Int32 := match frW (jdB h a s) 0 (min q 12) with
  | some p => nI (1 + p)
  | none => if q = 12 then 0 else nI (1 + min q 12)
theorem zX8_judge (X : EX) {h : HP} (F : Fx h) {f : Nat} {o : Nat → Nat} (bf : BkF h f o) {tS : Nat → Int32} {qS : Nat → Nat} (hS : ShA h tS qS) (x y : Int32) : Ct X mX8_judge 3 0 0 [vR (some 32), vI x, vI y] h (if x < 0 ∨ 4 ≤ x then RF h 0 else if nI (fo o f) ≤ y ∧ y < nI (fo o f + om f) then (if tS x.toNatClampNeg = -1 then RF h 5 else Rt (vI (jdR h (102 + 2 * x.toNatClampNeg) y.toNatClampNeg (qS x.toNatClampNeg))) h) else RF h 0) := by
  refine ct_of rfl (Nat.le_of_ble_eq_true rfl) ?_
  have hb6 := om_fo bf.2.1 bf.2.2.2
  refine e_iload_n aX8_judge_0 rfl ?_
  refine e_iconst (v := 4) aX8_judge_1 (by decide) ?_
  refine e_invsT aX8_judge_2 kX8_58 (zX8_isOutside X _ _) rfl rfl (Nat.le_of_ble_eq_true rfl) (Nat.le_of_ble_eq_true rfl) (Nat.le_refl _) (Nat.le_refl _) (Nat.le_of_ble_eq_true rfl) ?_
  refine e_if_ne aX8_judge_5 (fun c5 => ?_) (fun c5 => ?_)
  · -- 5: taken
    have q5 := Decidable.of_not_not (fun z => c5 (b2_0.mpr z))
    refine e_aload_n aX8_judge_19 rfl ?_
    refine e_iconst (v := 0) aX8_judge_20 (by decide) ?_
    refine e_invvT aX8_judge_21 kX8_62 (zfin X (k := 0) F (by decide)) rfl rfl (fx_is F rfl) (Nat.le_of_ble_eq_true rfl) (Nat.le_of_ble_eq_true rfl) (Nat.le_refl _) (Nat.le_refl _) (Nat.le_of_ble_eq_true rfl) ?_
    refine e_ireturn aX8_judge_24 rfl (Nat.le_refl _) (Nat.le_refl _) ?_
    rw [if_pos q5]
    exact ⟨rfl, rfl⟩
  · -- 5: not taken
    have q5 := b2_0.mp c5
    obtain ⟨sz, hs, rfl⟩ := ou_of 4 (by decide) q5
    have hsh := hS sz hs
    have hq40 := hsh.2.2.2
    refine e_aload_n aX8_judge_8 rfl ?_
    refine e_getRF aX8_judge_9 fX8_10 rfl (fx_is F rfl) (fx_r (b := 33) F rfl) ?_
    refine e_iload_n aX8_judge_12 rfl ?_
    refine e_invvT aX8_judge_13 kX8_169 (zX0_isOpen X F bf _) rfl rfl (fx_is F rfl) (Nat.le_of_ble_eq_true rfl) (Nat.le_of_ble_eq_true rfl) (Nat.le_refl _) (Nat.le_refl _) (Nat.le_of_ble_eq_true rfl) ?_
    refine e_if_ne aX8_judge_16 (fun c16 => ?_) (fun c16 => ?_)
    · -- 16: taken
      have q16 := Decidable.of_not_not (fun z => c16 (b2_0.mpr z))
      obtain ⟨uz, hs1, hs2, rfl⟩ := opn_of (Nat.le_add_right _ _) hb6 q16
      refine e_aload_n aX8_judge_25 rfl ?_
      refine e_getRF aX8_judge_26 fX8_36 rfl (fx_is F rfl) (fx_r (b := 73) F rfl) ?_
      refine e_iload_n aX8_judge_29 rfl ?_
      refine e_aaloadF (t := 18) aX8_judge_30 (fx_is F rfl) (by decide) (by decide) (fx_n (n := 4) F rfl) (vin (N := 4) hs) (sh_a F hs) ?_
      refine e_astore_n aX8_judge_31 (Nat.le_of_ble_eq_true rfl) ?_
      refine e_aload_n aX8_judge_32 rfl ?_
      refine e_invvT aX8_judge_33 kX8_203 (zmis X F hs hsh) rfl rfl (sh_is F hs) (Nat.le_of_ble_eq_true rfl) (Nat.le_of_ble_eq_true rfl) (Nat.le_refl _) (Nat.le_refl _) (Nat.le_of_ble_eq_true rfl) ?_
      refine e_if_eq aX8_judge_36 (fun c36 => ?_) (fun c36 => ?_)
      · -- 36: taken
        have q36 := b2_0.mp c36
        rw [if_neg q5, if_pos q16, cl (n := sz) (by omega), if_neg q36, cl (by omega)]
        have hmn : (min (qS sz) 12) ≤ qS sz ∧ (min (qS sz) 12) ≤ 12 := ⟨Nat.min_le_left _ _, Nat.min_le_right _ _⟩
        have loop : ∀ (m : Nat) (k : Nat), k + m = (min (qS sz) 12) → frW (jdB h (102 + 2 * sz) uz) k m = (frW (jdB h (102 + 2 * sz) uz) 0 (min (qS sz) 12)) → Ev X mX8_judge 3 0 0 (Rt (vI (jdR h (102 + 2 * sz) uz (qS sz))) h) 0 0 59 [(0, some (vR (some 32))), (2, some (vI (nI uz))), (3, some (vR (some (101 + 2 * sz)))), (4, some (vI (nI (min (qS sz) 12)))), (5, some (vI (nI k)))] [] h := by
          intro m
          induction m with
          | zero =>
            intro k hk hR9
            obtain rfl : k = (min (qS sz) 12) := by omega
            refine e_iload aX8_judge_59 rfl ?_
            refine e_iload aX8_judge_61 rfl ?_
            refine e_icmp_ge aX8_judge_63 (fun c63 => ?_) (fun c63 => ?_)
            · -- 63: taken
              refine e_aload_n aX8_judge_99 rfl ?_
              refine e_getIF aX8_judge_100 fX8_207 rfl (sh_is F hs) hsh.2.2.1 ?_
              refine e_bipush (v := 12) aX8_judge_103 (by decide) ?_
              refine e_icmp_ne aX8_judge_105 (fun c105 => ?_) (fun c105 => ?_)
              · -- 105: taken
                have q105 : ¬ qS sz = 12 := fun z => c105 (by rw [z]; rfl)
                refine e_iconst (v := 1) aX8_judge_112 (by decide) ?_
                refine e_iload aX8_judge_113 rfl ?_
                refine e_iadd aX8_judge_115 ?_
                refine e_top (nI_add 1 (min (qS sz) 12)) ?_
                refine e_ireturn aX8_judge_116 rfl (Nat.le_refl _) (Nat.le_refl _) ?_
                exact ⟨by unfold jdR; rw [← hR9]; show some (vI _) = some (vI (if qS sz = 12 then _ else _)); rw [if_neg q105], rfl⟩
              · -- 105: not taken
                have q105 : qS sz = 12 := by
                  have e : nI (qS sz) = nI 12 := c105
                  exact (nI_eq (by omega) (by decide)).mp e
                refine e_iconst (v := 0) aX8_judge_108 (by decide) ?_
                refine e_goto aX8_judge_109 ?_
                refine e_ireturn aX8_judge_116 rfl (Nat.le_refl _) (Nat.le_refl _) ?_
                exact ⟨by unfold jdR; rw [← hR9]; show some (vI _) = some (vI (if qS sz = 12 then _ else _)); rw [if_pos q105], rfl⟩
            · -- 63: not taken
              exact absurd (nI_le (by omega) (by omega)) c63
          | succ m ih =>
            intro k hk hR9
            refine e_iload aX8_judge_59 rfl ?_
            refine e_iload aX8_judge_61 rfl ?_
            refine e_icmp_ge aX8_judge_63 (fun c63 => ?_) (fun c63 => ?_)
            · -- 63: taken
              exact absurd c63 (nI_ge (by omega) (by omega))
            · -- 63: not taken
              refine e_aload_n aX8_judge_66 rfl ?_
              refine e_getRF aX8_judge_67 fX8_225 rfl (sh_is F hs) (sh_r F hs) ?_
              refine e_iload aX8_judge_70 rfl ?_
              refine e_laloadF aX8_judge_72 (sn_is F hs) (sn_n F hs) (vin (N := 40) (by omega)) (show hL h (102 + 2 * sz) (nI k).toNatClampNeg = hL h (102 + 2 * sz) k by rw [cl (by omega)]) ?_
              refine e_aload_n aX8_judge_73 rfl ?_
              refine e_getRF aX8_judge_74 fX8_23 rfl (fx_is F rfl) (fx_r (b := 38) F rfl) ?_
              refine e_iload_n aX8_judge_77 rfl ?_
              refine e_iload aX8_judge_78 rfl ?_
              refine e_invvT aX8_judge_80 kX8_172 (zX2_at X F (s := uz) (p := k) (by omega) (by omega)) rfl rfl (fx_is F rfl) (Nat.le_of_ble_eq_true rfl) (Nat.le_of_ble_eq_true rfl) (Nat.le_refl _) (Nat.le_refl _) (Nat.le_of_ble_eq_true rfl) ?_
              refine e_i2l aX8_judge_83 ?_
              refine e_lcmp aX8_judge_84 ?_
              refine e_if_eq aX8_judge_85 (fun c85 => ?_) (fun c85 => ?_)
              · -- 85: taken
                refine e_iinc aX8_judge_93 rfl rfl (Nat.le_of_ble_eq_true rfl) ?_
                refine e_goto aX8_judge_96 ?_
                refine e_ls (ls' := [(0, some (vR (some 32))), (2, some (vI (nI uz))), (3, some (vR (some (101 + 2 * sz)))), (4, some (vI (nI (min (qS sz) 12)))), (5, some (vI (nI (k + 1))))]) ⟨rfl, rfl, rfl, rfl, congrArg (fun x => some (vI x)) (nI_1 k), trivial⟩ ?_
                exact ih (k + 1) (by omega) (by rw [← hR9, frW_f (fun z => (of_decide_eq_true z) c85)])
              · -- 85: not taken
                refine e_iconst (v := 1) aX8_judge_88 (by decide) ?_
                refine e_iload aX8_judge_89 rfl ?_
                refine e_iadd aX8_judge_91 ?_
                refine e_top (nI_add 1 k) ?_
                refine e_ireturn aX8_judge_92 rfl (Nat.le_refl _) (Nat.le_refl _) ?_
                exact ⟨by unfold jdR; rw [← hR9, frW_t (decide_eq_true c85)] <;> rfl, rfl⟩
        refine e_aload_n aX8_judge_45 rfl ?_
        refine e_getIF aX8_judge_46 fX8_207 rfl (sh_is F hs) hsh.2.2.1 ?_
        refine e_bipush (v := 12) aX8_judge_49 (by decide) ?_
        refine e_min aX8_judge_51 kX8_216.2.2.1 w_minS w_minI w_minC (Nat.le_of_ble_eq_true rfl) (Nat.le_refl _) (Nat.le_refl _) (Nat.le_of_ble_eq_true rfl) ?_
        refine e_top (min12 hq40) ?_
        refine e_istore aX8_judge_54 (Nat.le_of_ble_eq_true rfl) ?_
        refine e_iconst (v := 0) aX8_judge_56 (by decide) ?_
        refine e_istore aX8_judge_57 (Nat.le_of_ble_eq_true rfl) ?_
        refine e_ls (ls' := [(0, some (vR (some 32))), (2, some (vI (nI uz))), (3, some (vR (some (101 + 2 * sz)))), (4, some (vI (nI (min (qS sz) 12)))), (5, some (vI (nI 0)))]) ⟨rfl, rfl, rfl, rfl, rfl, trivial⟩ ?_
        exact loop (min (qS sz) 12) 0 (by omega) rfl
      · -- 36: not taken
        have q36 := Decidable.of_not_not (fun z => c36 (b2_0.mpr z))
        refine e_aload_n aX8_judge_39 rfl ?_
        refine e_iconst (v := 5) aX8_judge_40 (by decide) ?_
        refine e_invvT aX8_judge_41 kX8_62 (zfin X (k := 5) F (by decide)) rfl rfl (fx_is F rfl) (Nat.le_of_ble_eq_true rfl) (Nat.le_of_ble_eq_true rfl) (Nat.le_refl _) (Nat.le_refl _) (Nat.le_of_ble_eq_true rfl) ?_
        refine e_ireturn aX8_judge_44 rfl (Nat.le_refl _) (Nat.le_refl _) ?_
        rw [if_neg q5, if_pos q16, cl (n := sz) (by omega), if_pos q36]
        exact ⟨rfl, rfl⟩
    · -- 16: not taken
      have q16 := b2_0.mp c16
      refine e_aload_n aX8_judge_19 rfl ?_
      refine e_iconst (v := 0) aX8_judge_20 (by decide) ?_
      refine e_invvT aX8_judge_21 kX8_62 (zfin X (k := 0) F (by decide)) rfl rfl (fx_is F rfl) (Nat.le_of_ble_eq_true rfl) (Nat.le_of_ble_eq_true rfl) (Nat.le_refl _) (Nat.le_refl _) (Nat.le_of_ble_eq_true rfl) ?_
      refine e_ireturn aX8_judge_24 rfl (Nat.le_refl _) (Nat.le_refl _) ?_
      rw [if_neg q5, if_neg q16]
      exact ⟨rfl, rfl⟩
/-- KIND under KIND -/
def kab (k : Nat) : Option Nat := [none, some 0, some 0, some 1, some 1, some 2].getD k none
def unR (c : Nat) : Nat → Option Nat → Bool
  | 0, q => decide (q = some c)
  | m + 1, q => if q = none then false else if q = some c then true else unR c m (kab (q.getD 0))
theorem kab_lt {k q : Nat} (z : kab k = some q) : q < 6 := by
  have h1 : k < 6 ∨ 6 ≤ k := by omega
  rcases h1 with w | w
  · rcases (show k = 0 ∨ k = 1 ∨ k = 2 ∨ k = 3 ∨ k = 4 ∨ k = 5 by omega) with rfl | rfl | rfl | rfl | rfl | rfl <;> cases z <;> decide
  · unfold kab at z
    rw [List.getD_eq_getElem?_getD, List.getElem?_eq_none (by show 6 ≤ k; exact w)] at z
    cases z
theorem st_kab {k : Nat} (h : k < 6) : ([-1, 0, 0, 1, 1, 2] : List Int32).getD (nI k).toNatClampNeg 0 = oI (kab k) := by
  rw [cl (by omega)]
  rcases (show k = 0 ∨ k = 1 ∨ k = 2 ∨ k = 3 ∨ k = 4 ∨ k = 5 by omega) with rfl | rfl | rfl | rfl | rfl | rfl <;> rfl
theorem unR_s {c0 m : Nat} {q : Option Nat} : unR c0 (m + 1) q = if q = none then false else if q = some c0 then true else unR c0 m (kab (q.getD 0)) := rfl
/-- spots -/
def SpC (h : HP) (S : Nat → Option Nat) (E : Nat → DD) : Prop := ∀ i, i < 4 → hR h 74 i = S i ∧ ∀ a, S i = some a → DealC h a (E i)
