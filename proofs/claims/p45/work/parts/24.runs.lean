/-! contracts: runs over standings (written by wip/p45/g24.py) -/
def gvS (d : DD) (s : Nat) : Bool := (gv d s).isSome
theorem oI_neg {q : Option Nat} (hb : ∀ p, q = some p → p < 1073741824) : oI q < 0 ↔ q = none := by
  cases q with
  | none => exact ⟨fun _ => rfl, fun _ => by decide⟩
  | some p => exact ⟨fun z => absurd z (Int32.not_lt.mpr (nI_pos' (by have := hb p rfl; omega))), fun z => by cases z⟩
theorem zX8_countConveying (X : EX) {h : HP} (F : Fx h) {f : Nat} {o : Nat → Nat} (bf : BkF h f o) {a : Nat} {d : DD} (kd : DealC h a d) : Ct X mX8_countConveying 2 0 0 [vR (some 32), vR (some a)] h (Rt (vI (nI (cnW (gvS d) (fo o f) (om f)))) h) := by
  refine ct_of rfl (Nat.le_of_ble_eq_true rfl) ?_
  have hb6 := om_fo bf.2.1 bf.2.2.2
  have loop : ∀ (m : Nat) (k : Nat), k + m = om f → Ev X mX8_countConveying 2 0 0 (Rt (vI (nI (cnW (gvS d) (fo o f) (om f)))) h) 0 0 19 [(0, some (vR (some 32))), (1, some (vR (some a))), (2, some (vI (nI (cnW (gvS d) (fo o f) k)))), (3, some (vI (nI (fo o f + om f)))), (4, some (vI (nI (fo o f + k))))] [] h := by
    intro m
    induction m with
    | zero =>
      intro k hk
      obtain rfl : k = om f := by omega
      refine e_iload aX8_countConveying_19 rfl ?_
      refine e_iload_n aX8_countConveying_21 rfl ?_
      refine e_icmp_ge aX8_countConveying_22 (fun c22 => ?_) (fun c22 => ?_)
      · -- 22: taken
        refine e_iload_n aX8_countConveying_43 rfl ?_
        refine e_ireturn aX8_countConveying_44 rfl (Nat.le_refl _) (Nat.le_refl _) ?_
        exact ⟨rfl, rfl⟩
      · -- 22: not taken
        exact absurd (nI_le (by omega) (by omega)) c22
    | succ m ih =>
      intro k hk
      have hgb : ∀ p, gv d (fo o f + k) = some p → p < 1073741824 := fun p q => by have := (gv_ok kd.2.2.1 q).1; omega
      refine e_iload aX8_countConveying_19 rfl ?_
      refine e_iload_n aX8_countConveying_21 rfl ?_
      refine e_icmp_ge aX8_countConveying_22 (fun c22 => ?_) (fun c22 => ?_)
      · -- 22: taken
        exact absurd c22 (nI_ge (by omega) (by omega))
      · -- 22: not taken
        refine e_aload_n aX8_countConveying_25 rfl ?_
        refine e_iload aX8_countConveying_26 rfl ?_
        refine e_invvT aX8_countConveying_28 kX8_160 (zX1_gives X kd (s := fo o f + k) (by omega)) rfl rfl kd.2.1 (Nat.le_of_ble_eq_true rfl) (Nat.le_of_ble_eq_true rfl) (Nat.le_refl _) (Nat.le_refl _) (Nat.le_of_ble_eq_true rfl) ?_
        refine e_if_lt aX8_countConveying_31 (fun c31 => ?_) (fun c31 => ?_)
        · -- 31: taken
          have q31 := (oI_neg (q := gv d (fo o f + k)) hgb).mp c31
          refine e_iinc aX8_countConveying_37 rfl rfl (Nat.le_of_ble_eq_true rfl) ?_
          refine e_goto aX8_countConveying_40 ?_
          refine e_ls (ls' := [(0, some (vR (some 32))), (1, some (vR (some a))), (2, some (vI (nI (cnW (gvS d) (fo o f) (k + 1))))), (3, some (vI (nI (fo o f + om f)))), (4, some (vI (nI (fo o f + (k + 1)))))]) ⟨rfl, rfl, congrArg (fun x => some (vI x)) (congrArg nI (cnW_f (P := gvS d) (a := fo o f) (m := k) (by unfold gvS; rw [q31]; rfl)).symm), rfl, congrArg (fun x => some (vI x)) (nI_1 (fo o f + k)), trivial⟩ ?_
          exact ih (k + 1) (by omega)
        · -- 31: not taken
          have q31 := (not_congr (oI_neg (q := gv d (fo o f + k)) hgb)).mp (Int32.not_lt.mpr (Int32.not_lt.mp c31))
          refine e_iinc aX8_countConveying_34 rfl rfl (Nat.le_of_ble_eq_true rfl) ?_
          refine e_iinc aX8_countConveying_37 rfl rfl (Nat.le_of_ble_eq_true rfl) ?_
          refine e_goto aX8_countConveying_40 ?_
          refine e_ls (ls' := [(0, some (vR (some 32))), (1, some (vR (some a))), (2, some (vI (nI (cnW (gvS d) (fo o f) (k + 1))))), (3, some (vI (nI (fo o f + om f)))), (4, some (vI (nI (fo o f + (k + 1)))))]) ⟨rfl, rfl, congrArg (fun x => some (vI x)) ((nI_1 _).trans (congrArg nI (cnW_t (P := gvS d) (a := fo o f) (m := k) (by unfold gvS; exact Option.isSome_iff_ne_none.mpr q31)).symm)), rfl, congrArg (fun x => some (vI x)) (nI_1 (fo o f + k)), trivial⟩ ?_
          exact ih (k + 1) (by omega)
  refine e_iconst (v := 0) aX8_countConveying_0 (by decide) ?_
  refine e_istore_n aX8_countConveying_1 (Nat.le_of_ble_eq_true rfl) ?_
  refine e_aload_n aX8_countConveying_2 rfl ?_
  refine e_getRF aX8_countConveying_3 fX8_10 rfl (fx_is F rfl) (fx_r (b := 33) F rfl) ?_
  refine e_invvT aX8_countConveying_6 kX8_181 (zX0_endOpen X F bf) rfl rfl (fx_is F rfl) (Nat.le_of_ble_eq_true rfl) (Nat.le_of_ble_eq_true rfl) (Nat.le_refl _) (Nat.le_refl _) (Nat.le_of_ble_eq_true rfl) ?_
  refine e_istore_n aX8_countConveying_9 (Nat.le_of_ble_eq_true rfl) ?_
  refine e_aload_n aX8_countConveying_10 rfl ?_
  refine e_getRF aX8_countConveying_11 fX8_10 rfl (fx_is F rfl) (fx_r (b := 33) F rfl) ?_
  refine e_invvT aX8_countConveying_14 kX8_84 (zX0_firstOpen X F bf) rfl rfl (fx_is F rfl) (Nat.le_of_ble_eq_true rfl) (Nat.le_of_ble_eq_true rfl) (Nat.le_refl _) (Nat.le_refl _) (Nat.le_of_ble_eq_true rfl) ?_
  refine e_istore aX8_countConveying_17 (Nat.le_of_ble_eq_true rfl) ?_
  refine e_ls (ls' := [(0, some (vR (some 32))), (1, some (vR (some a))), (2, some (vI (nI (cnW (gvS d) (fo o f) 0)))), (3, some (vI (nI (fo o f + om f)))), (4, some (vI (nI (fo o f + 0))))]) ⟨rfl, rfl, rfl, rfl, rfl, trivial⟩ ?_
  exact loop (om f) 0 (by omega)
theorem zX8_conveys (X : EX) {h : HP} (F : Fx h) {n : Nat} {A : Nat → Nat} {D : Nat → DD} (b : BkD h n A D) (x y w : Int32) : Ct X mX8_conveys 3 0 0 [vR (some 32), vI x, vI y, vI w] h (if x < 0 ∨ nI n ≤ x then RF h 0 else if y < 0 ∨ 1296 ≤ y then RF h 0 else if w < 0 ∨ 2 ≤ w then RF h 0 else rO h (if w = 0 then gv (D x.toNatClampNeg) y.toNatClampNeg else gb (D x.toNatClampNeg) y.toNatClampNeg)) := by
  refine ct_of rfl (Nat.le_of_ble_eq_true rfl) ?_
  have hn12 := b.2.1
  refine e_aload_n aX8_conveys_0 rfl ?_
  refine e_getRF aX8_conveys_1 fX8_10 rfl (fx_is F rfl) (fx_r (b := 33) F rfl) ?_
  refine e_iload_n aX8_conveys_4 rfl ?_
  refine e_invvT aX8_conveys_5 kX8_128 (zdl X F b x) rfl rfl (fx_is F rfl) (Nat.le_of_ble_eq_true rfl) (Nat.le_of_ble_eq_true rfl) (Nat.le_refl _) (Nat.le_refl _) (Nat.le_of_ble_eq_true rfl) ?_
  refine e_astore aX8_conveys_8 (Nat.le_of_ble_eq_true rfl) ?_
  refine e_aload aX8_conveys_10 rfl ?_
  refine e_ifnull aX8_conveys_12 (fun c12 => ?_) (fun r12 c12 => ?_)
  · -- 12: taken
    have q12 := dl_none c12
    refine e_aload_n aX8_conveys_33 rfl ?_
    refine e_iconst (v := 0) aX8_conveys_34 (by decide) ?_
    refine e_invvT aX8_conveys_35 kX8_62 (zfin X (k := 0) F (by decide)) rfl rfl (fx_is F rfl) (Nat.le_of_ble_eq_true rfl) (Nat.le_of_ble_eq_true rfl) (Nat.le_refl _) (Nat.le_refl _) (Nat.le_of_ble_eq_true rfl) ?_
    refine e_ireturn aX8_conveys_38 rfl (Nat.le_refl _) (Nat.le_refl _) ?_
    rw [if_pos q12]
    exact ⟨rfl, rfl⟩
  · -- 12: not taken
    rw [c12]
    obtain ⟨q12, kz, hk, rfl, rfl⟩ := dl_some hn12 c12
    refine e_iload_n aX8_conveys_15 rfl ?_
    refine e_sipush (v := 1296) aX8_conveys_16 (by decide) ?_
    refine e_invsT aX8_conveys_19 kX8_58 (zX8_isOutside X _ _) rfl rfl (Nat.le_of_ble_eq_true rfl) (Nat.le_of_ble_eq_true rfl) (Nat.le_refl _) (Nat.le_refl _) (Nat.le_of_ble_eq_true rfl) ?_
    refine e_if_ne aX8_conveys_22 (fun c22 => ?_) (fun c22 => ?_)
    · -- 22: taken
      have q22 := Decidable.of_not_not (fun z => c22 (b2_0.mpr z))
      refine e_aload_n aX8_conveys_33 rfl ?_
      refine e_iconst (v := 0) aX8_conveys_34 (by decide) ?_
      refine e_invvT aX8_conveys_35 kX8_62 (zfin X (k := 0) F (by decide)) rfl rfl (fx_is F rfl) (Nat.le_of_ble_eq_true rfl) (Nat.le_of_ble_eq_true rfl) (Nat.le_refl _) (Nat.le_refl _) (Nat.le_of_ble_eq_true rfl) ?_
      refine e_ireturn aX8_conveys_38 rfl (Nat.le_refl _) (Nat.le_refl _) ?_
      rw [if_neg q12, if_pos q22]
      exact ⟨rfl, rfl⟩
    · -- 22: not taken
      have q22 := b2_0.mp c22
      obtain ⟨sz, hs, rfl⟩ := ou_of 1296 (by decide) q22
      refine e_iload_n aX8_conveys_25 rfl ?_
      refine e_iconst (v := 2) aX8_conveys_26 (by decide) ?_
      refine e_invsT aX8_conveys_27 kX8_58 (zX8_isOutside X _ _) rfl rfl (Nat.le_of_ble_eq_true rfl) (Nat.le_of_ble_eq_true rfl) (Nat.le_refl _) (Nat.le_refl _) (Nat.le_of_ble_eq_true rfl) ?_
      refine e_if_eq aX8_conveys_30 (fun c30 => ?_) (fun c30 => ?_)
      · -- 30: taken
        have q30 := b2_0.mp c30
        have wf := (b.2.2 kz hk).2.2.2.1
        have hgv : ∀ p, gv (D kz) sz = some p → p < 1073741824 := fun p q => by have := (gv_ok wf q).1; omega
        have hgb : ∀ p, gb (D kz) sz = some p → p < 1073741824 := fun p q => by have := (gb_ok wf q).1; omega
        refine e_iload_n aX8_conveys_39 rfl ?_
        refine e_if_ne aX8_conveys_40 (fun c40 => ?_) (fun c40 => ?_)
        · -- 40: taken
          have q40 : ¬ w = 0 := c40
          refine e_aload aX8_conveys_52 rfl ?_
          refine e_iload_n aX8_conveys_54 rfl ?_
          refine e_invvT aX8_conveys_55 kX8_163 (zX1_getsBack X (b.2.2 kz hk).2 hs) rfl rfl (b.2.2 kz hk).2.2.1 (Nat.le_of_ble_eq_true rfl) (Nat.le_of_ble_eq_true rfl) (Nat.le_refl _) (Nat.le_refl _) (Nat.le_of_ble_eq_true rfl) ?_
          refine e_istore aX8_conveys_58 (Nat.le_of_ble_eq_true rfl) ?_
          refine e_iload aX8_conveys_60 rfl ?_
          refine e_if_ge aX8_conveys_62 (fun c62 => ?_) (fun c62 => ?_)
          · -- 62: taken
            have q62 := (not_congr (oI_neg (q := gb (D kz) sz) hgb)).mp (Int32.not_lt.mpr c62)
            obtain ⟨pz, q63⟩ := Option.ne_none_iff_exists'.mp q62
            refine e_iload aX8_conveys_73 rfl ?_
            refine e_ireturn aX8_conveys_75 rfl (Nat.le_refl _) (Nat.le_refl _) ?_
            rw [if_neg q12, if_neg q22, if_neg q30, cl (by omega), cl (by omega), if_neg q40, q63]
            exact ⟨rfl, rfl⟩
          · -- 62: not taken
            have q62 := (oI_neg (q := gb (D kz) sz) hgb).mp (Int32.not_le.mp c62)
            refine e_aload_n aX8_conveys_65 rfl ?_
            refine e_iconst (v := 3) aX8_conveys_66 (by decide) ?_
            refine e_invvT aX8_conveys_67 kX8_62 (zfin X (k := 3) F (by decide)) rfl rfl (fx_is F rfl) (Nat.le_of_ble_eq_true rfl) (Nat.le_of_ble_eq_true rfl) (Nat.le_refl _) (Nat.le_refl _) (Nat.le_of_ble_eq_true rfl) ?_
            refine e_goto aX8_conveys_70 ?_
            refine e_ireturn aX8_conveys_75 rfl (Nat.le_refl _) (Nat.le_refl _) ?_
            rw [if_neg q12, if_neg q22, if_neg q30, cl (by omega), cl (by omega), if_neg q40, q62]
            exact ⟨rfl, rfl⟩
        · -- 40: not taken
          have q40 : w = 0 := c40
          refine e_aload aX8_conveys_43 rfl ?_
          refine e_iload_n aX8_conveys_45 rfl ?_
          refine e_invvT aX8_conveys_46 kX8_160 (zX1_gives X (b.2.2 kz hk).2 hs) rfl rfl (b.2.2 kz hk).2.2.1 (Nat.le_of_ble_eq_true rfl) (Nat.le_of_ble_eq_true rfl) (Nat.le_refl _) (Nat.le_refl _) (Nat.le_of_ble_eq_true rfl) ?_
          refine e_goto aX8_conveys_49 ?_
          refine e_istore aX8_conveys_58 (Nat.le_of_ble_eq_true rfl) ?_
          refine e_iload aX8_conveys_60 rfl ?_
          refine e_if_ge aX8_conveys_62 (fun c62 => ?_) (fun c62 => ?_)
          · -- 62: taken
            have q62 := (not_congr (oI_neg (q := gv (D kz) sz) hgv)).mp (Int32.not_lt.mpr c62)
            obtain ⟨pz, q63⟩ := Option.ne_none_iff_exists'.mp q62
            refine e_iload aX8_conveys_73 rfl ?_
            refine e_ireturn aX8_conveys_75 rfl (Nat.le_refl _) (Nat.le_refl _) ?_
            rw [if_neg q12, if_neg q22, if_neg q30, cl (by omega), cl (by omega), if_pos q40, q63]
            exact ⟨rfl, rfl⟩
          · -- 62: not taken
            have q62 := (oI_neg (q := gv (D kz) sz) hgv).mp (Int32.not_le.mp c62)
            refine e_aload_n aX8_conveys_65 rfl ?_
            refine e_iconst (v := 3) aX8_conveys_66 (by decide) ?_
            refine e_invvT aX8_conveys_67 kX8_62 (zfin X (k := 3) F (by decide)) rfl rfl (fx_is F rfl) (Nat.le_of_ble_eq_true rfl) (Nat.le_of_ble_eq_true rfl) (Nat.le_refl _) (Nat.le_refl _) (Nat.le_of_ble_eq_true rfl) ?_
            refine e_goto aX8_conveys_70 ?_
            refine e_ireturn aX8_conveys_75 rfl (Nat.le_refl _) (Nat.le_refl _) ?_
            rw [if_neg q12, if_neg q22, if_neg q30, cl (by omega), cl (by omega), if_pos q40, q62]
            exact ⟨rfl, rfl⟩
      · -- 30: not taken
        have q30 := Decidable.of_not_not (fun z => c30 (b2_0.mpr z))
        refine e_aload_n aX8_conveys_33 rfl ?_
        refine e_iconst (v := 0) aX8_conveys_34 (by decide) ?_
        refine e_invvT aX8_conveys_35 kX8_62 (zfin X (k := 0) F (by decide)) rfl rfl (fx_is F rfl) (Nat.le_of_ble_eq_true rfl) (Nat.le_of_ble_eq_true rfl) (Nat.le_refl _) (Nat.le_refl _) (Nat.le_of_ble_eq_true rfl) ?_
        refine e_ireturn aX8_conveys_38 rfl (Nat.le_refl _) (Nat.le_refl _) ?_
        rw [if_neg q12, if_neg q22, if_pos q30]
        exact ⟨rfl, rfl⟩
def ofV (d : DD) (a m : Nat) : Nat → Int32
  | 0 => nI (dK d)
  | 1 => nI (dF d)
  | 2 => nI (dT d)
  | 3 => nI (dP d)
  | 4 => oI (dO d)
  | 5 => nI (dN d)
  | 6 => b2 (dC d = true)
  | _ => nI (cnW (gvS d) a m)
theorem zX8_of (X : EX) {h : HP} (F : Fx h) {f n : Nat} {o : Nat → Nat} {A : Nat → Nat} {D : Nat → DD} (bf : BkF h f o) (b : BkD h n A D) (x y : Int32) : Ct X mX8_of 3 0 0 [vR (some 32), vI x, vI y] h (if x < 0 ∨ nI n ≤ x then RF h 0 else if y < 0 ∨ nI 8 ≤ y then RF h 0 else Rt (vI (ofV (D x.toNatClampNeg) (fo o f) (om f) y.toNatClampNeg)) h) := by
  refine ct_of rfl (Nat.le_of_ble_eq_true rfl) ?_
  have hn12 := b.2.1
  refine e_aload_n aX8_of_0 rfl ?_
  refine e_getRF aX8_of_1 fX8_10 rfl (fx_is F rfl) (fx_r (b := 33) F rfl) ?_
  refine e_iload_n aX8_of_4 rfl ?_
  refine e_invvT aX8_of_5 kX8_128 (zdl X F b x) rfl rfl (fx_is F rfl) (Nat.le_of_ble_eq_true rfl) (Nat.le_of_ble_eq_true rfl) (Nat.le_refl _) (Nat.le_refl _) (Nat.le_of_ble_eq_true rfl) ?_
  refine e_astore_n aX8_of_8 (Nat.le_of_ble_eq_true rfl) ?_
  refine e_aload_n aX8_of_9 rfl ?_
  refine e_ifnonnull aX8_of_10 (fun r10 c10 => ?_) (fun c10 => ?_)
  · -- 10: taken
    rw [c10]
    obtain ⟨q10, kz, hk, rfl, rfl⟩ := dl_some hn12 c10
    refine e_iload_n aX8_of_19 rfl ?_
    have kd := (b.2.2 kz hk).2
    obtain ⟨k134, kI9, wf9, e0, e1, e2, e3, e4, e5, e6⟩ := id kd
    rw [if_neg q10]
    by_cases q1 : y < 0 ∨ nI 8 ≤ y
    rotate_left
    obtain ⟨iz, hi8, rfl⟩ := ou_of 8 (by decide) q1
    rw [if_neg q1, cl (n := iz) (by omega), cl (by omega)]
    rcases (show iz = 0 ∨ iz = 1 ∨ iz = 2 ∨ iz = 3 ∨ iz = 4 ∨ iz = 5 ∨ iz = 6 ∨ iz = 7 by omega) with rfl | rfl | rfl | rfl | rfl | rfl | rfl | rfl
    rotate_left 8
    rw [if_pos q1]
    rotate_right 8
    · -- switch
      refine e_tableIn (tgt := 68) aX8_of_20 (by decide) (by decide) rfl (by decide) ?_
      refine e_aload_n aX8_of_68 rfl ?_
      refine e_getIF aX8_of_69 fX8_131 rfl kI9 e0 ?_
      refine e_ireturn aX8_of_72 rfl (Nat.le_refl _) (Nat.le_refl _) ?_
      exact ⟨rfl, rfl⟩
    · -- switch
      refine e_tableIn (tgt := 73) aX8_of_20 (by decide) (by decide) rfl (by decide) ?_
      refine e_aload_n aX8_of_73 rfl ?_
      refine e_getIF aX8_of_74 fX8_134 rfl kI9 e1 ?_
      refine e_ireturn aX8_of_77 rfl (Nat.le_refl _) (Nat.le_refl _) ?_
      exact ⟨rfl, rfl⟩
    · -- switch
      refine e_tableIn (tgt := 78) aX8_of_20 (by decide) (by decide) rfl (by decide) ?_
      refine e_aload_n aX8_of_78 rfl ?_
      refine e_getIF aX8_of_79 fX8_137 rfl kI9 e2 ?_
      refine e_ireturn aX8_of_82 rfl (Nat.le_refl _) (Nat.le_refl _) ?_
      exact ⟨rfl, rfl⟩
    · -- switch
      refine e_tableIn (tgt := 83) aX8_of_20 (by decide) (by decide) rfl (by decide) ?_
      refine e_aload_n aX8_of_83 rfl ?_
      refine e_getIF aX8_of_84 fX8_140 rfl kI9 e3 ?_
      refine e_ireturn aX8_of_87 rfl (Nat.le_refl _) (Nat.le_refl _) ?_
      exact ⟨rfl, rfl⟩
    · -- switch
      refine e_tableIn (tgt := 88) aX8_of_20 (by decide) (by decide) rfl (by decide) ?_
      refine e_aload_n aX8_of_88 rfl ?_
      refine e_getIF aX8_of_89 fX8_143 rfl kI9 e4 ?_
      refine e_ireturn aX8_of_92 rfl (Nat.le_refl _) (Nat.le_refl _) ?_
      exact ⟨rfl, rfl⟩
    · -- switch
      refine e_tableIn (tgt := 93) aX8_of_20 (by decide) (by decide) rfl (by decide) ?_
      refine e_aload_n aX8_of_93 rfl ?_
      refine e_getIF aX8_of_94 fX8_146 rfl kI9 e5 ?_
      refine e_ireturn aX8_of_97 rfl (Nat.le_refl _) (Nat.le_refl _) ?_
      exact ⟨rfl, rfl⟩
    · -- switch
      refine e_tableIn (tgt := 98) aX8_of_20 (by decide) (by decide) rfl (by decide) ?_
      refine e_aload_n aX8_of_98 rfl ?_
      refine e_getR aX8_of_99 fX8_149 rfl kI9 ?_
      refine e_ifnull aX8_of_102 (fun c102 => ?_) (fun r102 c102 => ?_)
      · -- 102: taken
        rcases e6 with e6 | e6
        rotate_left
        obtain ⟨-, sb9, e7, -⟩ := e6
        rw [e7] at c102
        cases c102
        refine e_iconst (v := 0) aX8_of_109 (by decide) ?_
        refine e_ireturn aX8_of_110 rfl (Nat.le_refl _) (Nat.le_refl _) ?_
        exact ⟨by show _ = some (vI (b2 (dC (D kz) = true))); rw [b2_f (by rw [e6.1]; decide)], rfl⟩
      · -- 102: not taken
        rcases e6 with e6 | e6
        rw [e6.2] at c102
        cases c102
        refine e_iconst (v := 1) aX8_of_105 (by decide) ?_
        refine e_goto aX8_of_106 ?_
        refine e_ireturn aX8_of_110 rfl (Nat.le_refl _) (Nat.le_refl _) ?_
        exact ⟨by show _ = some (vI (b2 (dC (D kz) = true))); rw [b2_t (by rw [e6.1])], rfl⟩
    · -- switch
      refine e_tableIn (tgt := 111) aX8_of_20 (by decide) (by decide) rfl (by decide) ?_
      refine e_aload_n aX8_of_111 rfl ?_
      refine e_aload_n aX8_of_112 rfl ?_
      refine e_invvT aX8_of_113 kX8_153 (zX8_countConveying X F bf kd) rfl rfl (fx_is F rfl) (Nat.le_of_ble_eq_true rfl) (Nat.le_of_ble_eq_true rfl) (Nat.le_refl _) (Nat.le_refl _) (Nat.le_of_ble_eq_true rfl) ?_
      refine e_ireturn aX8_of_116 rfl (Nat.le_refl _) (Nat.le_refl _) ?_
      exact ⟨rfl, rfl⟩
    · -- switch
      refine e_tableOut (tgt := 117) aX8_of_20 (sw_out (v := nI 8) (by decide) q1) (by decide) ?_
      refine e_aload_n aX8_of_117 rfl ?_
      refine e_iconst (v := 0) aX8_of_118 (by decide) ?_
      refine e_invvT aX8_of_119 kX8_62 (zfin X (k := 0) F (by decide)) rfl rfl (fx_is F rfl) (Nat.le_of_ble_eq_true rfl) (Nat.le_of_ble_eq_true rfl) (Nat.le_refl _) (Nat.le_refl _) (Nat.le_of_ble_eq_true rfl) ?_
      refine e_ireturn aX8_of_122 rfl (Nat.le_refl _) (Nat.le_refl _) ?_
      exact ⟨rfl, rfl⟩
  · -- 10: not taken
    have q10 := dl_none c10
    refine e_aload_n aX8_of_13 rfl ?_
    refine e_iconst (v := 0) aX8_of_14 (by decide) ?_
    refine e_invvT aX8_of_15 kX8_62 (zfin X (k := 0) F (by decide)) rfl rfl (fx_is F rfl) (Nat.le_of_ble_eq_true rfl) (Nat.le_of_ble_eq_true rfl) (Nat.le_refl _) (Nat.le_refl _) (Nat.le_of_ble_eq_true rfl) ?_
    refine e_ireturn aX8_of_18 rfl (Nat.le_refl _) (Nat.le_refl _) ?_
    rw [if_pos q10]
    exact ⟨rfl, rfl⟩
theorem nI_pred9 {n : Nat} (z : 1 ≤ n) : nI n - 1 = nI (n - 1) := nI_subN z
/-- the heap behind a settling: rows of the OPEN STANDINGS hold OWNERS -/
def setH (h : HP) (f n : Nat) (o : Nat → Nat) (D : Nat → DD) (h' : HP) : Prop := ∃ r, h' = rwR h r ∧ ∀ s, fo o f ≤ s → s < fo o f + om f → ∀ p, p < 12 → dgt (r s) p = nI (ow D s p n)
