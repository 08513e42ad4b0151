/-! the reference: sheets, the tape fed, spots (written by wip/whole/g61.py) -/
/-- the reference's SHEETS -/
def ShM (h : HP) (tS : Nat → Int32) (qS : Nat → Nat) : Prop := ∀ s, s < 4 → hI h 122 s = tS s ∧ hI h 123 s = nI (qS s) ∧ (tS s = -1 ∨ tS s = 0 ∨ tS s = 1 ∨ tS s = 2) ∧ qS s ≤ 40
def zrM (h : HP) (x : Nat) : Nat → HP
  | 0 => h
  | k + 1 => wL (zrM h x k) 124 (40 * x + k) 0
def shM (h : HP) (x : Nat) (t y : Int32) : HP := zrM (wI (wI h 122 x t) 123 x y) x 40
theorem zrM_I {h : HP} {x : Nat} : ∀ k, hI (zrM h x k) = hI h := by
  intro k
  induction k with
  | zero => rfl
  | succ k ih => exact ih
theorem zrM_2 {h : HP} {x : Nat} : ∀ k, (zrM h x k).2.2 = h.2.2 := by
  intro k
  induction k with
  | zero => rfl
  | succ k ih => exact ih
theorem zrM_L {h : HP} {x : Nat} {a i : Nat} : ∀ k, hL (zrM h x k) a i = if a = 124 ∧ 40 * x ≤ i ∧ i < 40 * x + k then 0 else hL h a i := by
  intro k
  induction k with
  | zero => rw [if_neg (by omega)]; rfl
  | succ k ih =>
    show (if a = 124 ∧ i = 40 * x + k then (0 : Int64) else hL (zrM h x k) a i) = _
    by_cases z : a = 124 ∧ i = 40 * x + k
    · rw [if_pos z, if_pos (by omega)]
    · rw [if_neg z, ih]
      by_cases w : a = 124 ∧ 40 * x ≤ i ∧ i < 40 * x + k
      · rw [if_pos w, if_pos (by omega)]
      · rw [if_neg w, if_neg (by omega)]
theorem zrM_F {h : HP} (F : Fx h) {x k : Nat} : Fx (zrM h x k) := by
  unfold Fx
  rw [zrM_2]
  exact F
theorem zX9_sheet (X : EX) {h : HP} (F : Fx h) (x t y : Int32) : Ct X mX9_sheet 2 0 0 [vR (some 109), vI x, vI t, vI y] h (if x < 0 ∨ 4 ≤ x then RM h 0 else if t < -1 then RM h 0 else if t ≤ 2 then (if t = -1 then Rt (vI 0) (shM h x.toNatClampNeg (-1) 0) else if y < 0 then RM h 6 else if y ≤ 40 then Rt (vI y) (shM h x.toNatClampNeg t y) else RM h 0) else RM h 0) := by
  refine ct_of rfl (Nat.le_of_ble_eq_true rfl) ?_
  have tail : ∀ (xz : Nat) (y9 : Int32), xz < 4 → (t = -1 ∧ y9 = 0 ∨ ¬ t < 0 ∧ y9 = y) → Ev X mX9_sheet 2 0 0 (Rt (vI y9) (shM h xz t y9)) 0 0 56 [(0, some (vR (some 109))), (1, some (vI (nI xz))), (2, some (vI t)), (3, some (vI y))] [] h := by
    intro xz y9 hxz hT
    have loop : ∀ (m : Nat) (k : Nat), k + m = 40 → Ev X mX9_sheet 2 0 0 (Rt (vI y9) (shM h xz t y9)) 0 0 81 [(0, some (vR (some 109))), (1, some (vI (nI xz))), (4, some (vI (nI k)))] [] (zrM (wI (wI h 122 xz t) 123 xz y9) xz k) := by
      intro m
      induction m with
      | zero =>
        intro k hk
        obtain rfl : k = 40 := by omega
        have F := zrM_F (x := xz) (k := 40) (h := (wI (wI h 122 xz t) 123 xz y9)) F
        refine e_iload aX9_sheet_81 rfl ?_
        refine e_bipush (v := 40) aX9_sheet_83 (by decide) ?_
        refine e_icmp_ge aX9_sheet_85 (fun c85 => ?_) (fun c85 => ?_)
        · -- 85: taken
          refine e_aload_n aX9_sheet_107 rfl ?_
          refine e_getRF aX9_sheet_108 fX9_55 rfl (fx_is F rfl) (fx_r (b := 123) F rfl) ?_
          refine e_iload_n aX9_sheet_111 rfl ?_
          refine e_ialoadF aX9_sheet_112 (fx_is F rfl) (fx_n (n := 4) F rfl) (vin (N := 4) hxz) (show hI (zrM (wI (wI h 122 xz t) 123 xz y9) xz 40) 123 (nI xz).toNatClampNeg = y9 by rw [cl (by omega), zrM_I]; exact wI_s) ?_
          refine e_ireturn aX9_sheet_113 rfl (Nat.le_refl _) (Nat.le_refl _) ?_
          exact ⟨rfl, rfl⟩
        · -- 85: not taken
          exact absurd (nI_le (a := 40) (b := 40) (by decide) (by decide)) c85
      | succ m ih =>
        intro k hk
        have F := zrM_F (x := xz) (k := k) (h := (wI (wI h 122 xz t) 123 xz y9)) F
        refine e_iload aX9_sheet_81 rfl ?_
        refine e_bipush (v := 40) aX9_sheet_83 (by decide) ?_
        refine e_icmp_ge aX9_sheet_85 (fun c85 => ?_) (fun c85 => ?_)
        · -- 85: taken
          exact absurd c85 (nI_ge (a := k) (b := 40) (by omega) (by decide))
        · -- 85: not taken
          refine e_aload_n aX9_sheet_88 rfl ?_
          refine e_getRF aX9_sheet_89 fX9_58 rfl (fx_is F rfl) (fx_r (b := 124) F rfl) ?_
          refine e_bipush (v := 40) aX9_sheet_92 (by decide) ?_
          refine e_iload_n aX9_sheet_94 rfl ?_
          refine e_imul aX9_sheet_95 ?_
          refine e_top (nI_mul 40 xz) ?_
          refine e_iload aX9_sheet_96 rfl ?_
          refine e_iadd aX9_sheet_98 ?_
          refine e_top (nI_add _ _) ?_
          refine e_lconst (v := 0) aX9_sheet_99 rfl ?_
          refine e_lastoreF aX9_sheet_100 (fx_is F rfl) (fx_n (n := 160) F rfl) (vin (N := 160) (by omega)) ?_
          rw [cl (by omega)]
          refine e_iinc aX9_sheet_101 rfl rfl (Nat.le_of_ble_eq_true rfl) ?_
          refine e_goto aX9_sheet_104 ?_
          refine e_ls (ls' := [(0, some (vR (some 109))), (1, some (vI (nI xz))), (4, some (vI (nI (k + 1))))]) ⟨rfl, rfl, congrArg (fun x => some (vI x)) (nI_1 k), trivial⟩ ?_
          exact ih (k + 1) (by omega)
    refine e_aload_n aX9_sheet_56 rfl ?_
    refine e_getRF aX9_sheet_57 fX9_52 rfl (fx_is F rfl) (fx_r (b := 122) F rfl) ?_
    refine e_iload_n aX9_sheet_60 rfl ?_
    refine e_iload_n aX9_sheet_61 rfl ?_
    refine e_iastoreF aX9_sheet_62 (fx_is F rfl) (fx_n (n := 4) F rfl) (vin (N := 4) hxz) ?_
    rw [cl (by omega)]
    refine e_aload_n aX9_sheet_63 rfl ?_
    refine e_getRF aX9_sheet_64 fX9_55 rfl (fx_is F rfl) (fx_r (b := 123) F rfl) ?_
    refine e_iload_n aX9_sheet_67 rfl ?_
    refine e_iload_n aX9_sheet_68 rfl ?_
    refine e_if_ge aX9_sheet_69 (fun c69 => ?_) (fun c69 => ?_)
    · -- 69: taken
      obtain ⟨ht9, rfl⟩ : ¬ t < 0 ∧ y9 = y := hT.elim (fun z => absurd (by rw [z.1]; decide) (Int32.not_lt.mpr c69)) id
      refine e_iload_n aX9_sheet_76 rfl ?_
      refine e_iastoreF aX9_sheet_77 (fx_is F rfl) (fx_n (n := 4) F rfl) (vin (N := 4) hxz) ?_
      rw [cl (by omega)]
      refine e_iconst (v := 0) aX9_sheet_78 (by decide) ?_
      refine e_istore aX9_sheet_79 (Nat.le_of_ble_eq_true rfl) ?_
      refine e_ls (ls' := [(0, some (vR (some 109))), (1, some (vI (nI xz))), (4, some (vI (nI 0)))]) ⟨rfl, rfl, rfl, trivial⟩ ?_
      exact loop 40 0 rfl
    · -- 69: not taken
      obtain ⟨ht9, rfl⟩ : t = -1 ∧ y9 = 0 := hT.elim id (fun z => absurd (Int32.not_le.mp c69) z.1)
      refine e_iconst (v := 0) aX9_sheet_72 (by decide) ?_
      refine e_goto aX9_sheet_73 ?_
      refine e_iastoreF aX9_sheet_77 (fx_is F rfl) (fx_n (n := 4) F rfl) (vin (N := 4) hxz) ?_
      rw [cl (by omega)]
      refine e_iconst (v := 0) aX9_sheet_78 (by decide) ?_
      refine e_istore aX9_sheet_79 (Nat.le_of_ble_eq_true rfl) ?_
      refine e_ls (ls' := [(0, some (vR (some 109))), (1, some (vI (nI xz))), (4, some (vI (nI 0)))]) ⟨rfl, rfl, rfl, trivial⟩ ?_
      exact loop 40 0 rfl
  refine e_iload_n aX9_sheet_0 rfl ?_
  refine e_invsT aX9_sheet_1 kX9_343 (zX9_isSheet X _) rfl rfl (Nat.le_of_ble_eq_true rfl) (Nat.le_of_ble_eq_true rfl) (Nat.le_refl _) (Nat.le_refl _) (Nat.le_of_ble_eq_true rfl) ?_
  refine e_if_eq aX9_sheet_4 (fun c4 => ?_) (fun c4 => ?_)
  · -- 4: taken
    have q4 := Decidable.of_not_not (b2_0.mp c4)
    refine e_aload_n aX9_sheet_21 rfl ?_
    refine e_iconst (v := 0) aX9_sheet_22 (by decide) ?_
    refine e_invvT aX9_sheet_23 kX9_128 (zX9_finds X F (k := 0) (by decide)) rfl rfl (fx_is F rfl) (Nat.le_of_ble_eq_true rfl) (Nat.le_of_ble_eq_true rfl) (Nat.le_refl _) (Nat.le_refl _) (Nat.le_of_ble_eq_true rfl) ?_
    refine e_ireturn aX9_sheet_26 rfl (Nat.le_refl _) (Nat.le_refl _) ?_
    rw [if_pos q4]
    exact ⟨rfl, rfl⟩
  · -- 4: not taken
    have q4 := Decidable.of_not_not (fun z => c4 (b2_0.mpr z))
    refine e_iload_n aX9_sheet_7 rfl ?_
    refine e_i2l aX9_sheet_8 ?_
    refine e_ldc2 aX9_sheet_9 lX9_244 ?_
    refine e_ldc2 aX9_sheet_12 lX9_114 ?_
    refine e_invsT aX9_sheet_15 kX9_108 (zib X t (-1) 2 rfl rfl) rfl rfl (Nat.le_of_ble_eq_true rfl) (Nat.le_of_ble_eq_true rfl) (Nat.le_refl _) (Nat.le_refl _) (Nat.le_of_ble_eq_true rfl) ?_
    refine e_if_ne aX9_sheet_18 (fun c18 => ?_) (fun c18 => ?_)
    · -- 18: taken
      have q18 := Decidable.of_not_not (fun z => c18 (b2_0.mpr z))
      obtain ⟨xz, hx4, rfl⟩ := ou_of 4 (by decide) q4
      refine e_iload_n aX9_sheet_27 rfl ?_
      refine e_if_lt aX9_sheet_28 (fun c28 => ?_) (fun c28 => ?_)
      · -- 28: taken
        have q28 : t < 0 := c28
        have q29 : t = -1 := Int32.le_antisymm (Int32.le_iff_toInt_le.mpr (by have := Int32.lt_iff_toInt_lt.mp q28; have e0 : (0 : Int32).toInt = 0 := rfl; have e1 : (-1 : Int32).toInt = -1 := rfl; omega)) (Int32.not_lt.mp (fun z => q18 (Or.inl z)))
        rw [if_neg q4, cl (by omega), if_neg (show ¬ t < -1 from fun z => q18 (Or.inl z)), if_pos (Int32.not_lt.mp (show ¬ 2 < t from fun z => q18 (Or.inr z))), if_pos q29]
        refine e_ls (ls' := [(0, some (vR (some 109))), (1, some (vI (nI xz))), (2, some (vI t)), (3, some (vI y))]) ⟨rfl, rfl, rfl, rfl, trivial⟩ ?_
        have ht := tail xz 0 hx4 (Or.inl ⟨q29, rfl⟩)
        rw [q29] at ht ⊢
        exact ht
      · -- 28: not taken
        have q28 : ¬ t < 0 := Int32.not_lt.mpr (Int32.not_lt.mp c28)
        refine e_iload_n aX9_sheet_31 rfl ?_
        refine e_if_lt aX9_sheet_32 (fun c32 => ?_) (fun c32 => ?_)
        · -- 32: taken
          have q32 : y < 0 := c32
          refine e_aload_n aX9_sheet_41 rfl ?_
          refine e_iload_n aX9_sheet_42 rfl ?_
          refine e_if_ge aX9_sheet_43 (fun c43 => ?_) (fun c43 => ?_)
          · -- 43: taken
            exact absurd (show y < 0 from q32) (Int32.not_lt.mpr c43)
          · -- 43: not taken
            have q43 : y < 0 := Int32.not_le.mp c43
            refine e_bipush (v := 6) aX9_sheet_46 (by decide) ?_
            refine e_goto aX9_sheet_48 ?_
            refine e_invvT aX9_sheet_52 kX9_128 (zX9_finds X F (k := 6) (by decide)) rfl rfl (fx_is F rfl) (Nat.le_of_ble_eq_true rfl) (Nat.le_of_ble_eq_true rfl) (Nat.le_refl _) (Nat.le_refl _) (Nat.le_of_ble_eq_true rfl) ?_
            refine e_ireturn aX9_sheet_55 rfl (Nat.le_refl _) (Nat.le_refl _) ?_
            rw [if_neg q4, if_neg (show ¬ t < -1 from fun z => q18 (Or.inl z)), if_pos (Int32.not_lt.mp (show ¬ 2 < t from fun z => q18 (Or.inr z))), if_neg (show ¬ t = -1 from fun z => absurd (by rw [z]; decide) q28), if_pos q43]
            exact ⟨rfl, rfl⟩
        · -- 32: not taken
          have q32 : ¬ y < 0 := c32
          refine e_iload_n aX9_sheet_35 rfl ?_
          refine e_bipush (v := 40) aX9_sheet_36 (by decide) ?_
          refine e_icmp_le aX9_sheet_38 (fun c38 => ?_) (fun c38 => ?_)
          · -- 38: taken
            have q38 : y ≤ 40 := c38
            rw [if_neg q4, cl (by omega), if_neg (show ¬ t < -1 from fun z => q18 (Or.inl z)), if_pos (Int32.not_lt.mp (show ¬ 2 < t from fun z => q18 (Or.inr z))), if_neg (show ¬ t = -1 from fun z => absurd (by rw [z]; decide) q28), if_neg q32, if_pos q38]
            refine e_ls (ls' := [(0, some (vR (some 109))), (1, some (vI (nI xz))), (2, some (vI t)), (3, some (vI y))]) ⟨rfl, rfl, rfl, rfl, trivial⟩ ?_
            exact tail xz y hx4 (Or.inr ⟨q28, rfl⟩)
          · -- 38: not taken
            have q38 : ¬ y ≤ 40 := c38
            refine e_aload_n aX9_sheet_41 rfl ?_
            refine e_iload_n aX9_sheet_42 rfl ?_
            refine e_if_ge aX9_sheet_43 (fun c43 => ?_) (fun c43 => ?_)
            · -- 43: taken
              have q43 : ¬ y < 0 := Int32.not_lt.mpr c43
              refine e_iconst (v := 0) aX9_sheet_51 (by decide) ?_
              refine e_invvT aX9_sheet_52 kX9_128 (zX9_finds X F (k := 0) (by decide)) rfl rfl (fx_is F rfl) (Nat.le_of_ble_eq_true rfl) (Nat.le_of_ble_eq_true rfl) (Nat.le_refl _) (Nat.le_refl _) (Nat.le_of_ble_eq_true rfl) ?_
              refine e_ireturn aX9_sheet_55 rfl (Nat.le_refl _) (Nat.le_refl _) ?_
              rw [if_neg q4, if_neg (show ¬ t < -1 from fun z => q18 (Or.inl z)), if_pos (Int32.not_lt.mp (show ¬ 2 < t from fun z => q18 (Or.inr z))), if_neg (show ¬ t = -1 from fun z => absurd (by rw [z]; decide) q28), if_neg q43, if_neg q38]
              exact ⟨rfl, rfl⟩
            · -- 43: not taken
              exact absurd (Int32.not_le.mp c43) q32
    · -- 18: not taken
      have q18 := Decidable.of_not_not (b2_0.mp c18)
      refine e_aload_n aX9_sheet_21 rfl ?_
      refine e_iconst (v := 0) aX9_sheet_22 (by decide) ?_
      refine e_invvT aX9_sheet_23 kX9_128 (zX9_finds X F (k := 0) (by decide)) rfl rfl (fx_is F rfl) (Nat.le_of_ble_eq_true rfl) (Nat.le_of_ble_eq_true rfl) (Nat.le_refl _) (Nat.le_refl _) (Nat.le_of_ble_eq_true rfl) ?_
      refine e_ireturn aX9_sheet_26 rfl (Nat.le_refl _) (Nat.le_refl _) ?_
      rw [if_neg q4]
      rcases q18 with z | z
      · rw [if_pos z]
        exact ⟨rfl, rfl⟩
      · rw [if_neg (fun w => absurd (Int32.lt_trans z w) (by decide)), if_neg (Int32.not_le.mpr z)]
        exact ⟨rfl, rfl⟩
theorem zX9_narrowed (X : EX) {h : HP} (t : Int32) (v : Int64) : Ct X mX9_narrowed 0 0 0 [vI t, vL v] h (Rt (vL (pvR t v)) h) := by
  refine ct_of rfl (Nat.le_of_ble_eq_true rfl) ?_
  refine e_iload_n aX9_narrowed_0 rfl ?_
  refine e_if_ne aX9_narrowed_1 (fun c1 => ?_) (fun c1 => ?_)
  · -- 1: taken
    have q1 : ¬ t = 0 := c1
    refine e_iload_n aX9_narrowed_11 rfl ?_
    refine e_iconst (v := 1) aX9_narrowed_12 (by decide) ?_
    refine e_icmp_ne aX9_narrowed_13 (fun c13 => ?_) (fun c13 => ?_)
    · -- 13: taken
      refine e_lload_n aX9_narrowed_22 rfl ?_
      refine e_lreturn aX9_narrowed_23 rfl (Nat.le_refl _) (Nat.le_refl _) ?_
      exact ⟨by unfold pvR; rw [if_neg q1, if_neg c13], rfl⟩
    · -- 13: not taken
      refine e_lload_n aX9_narrowed_16 rfl ?_
      refine e_l2i aX9_narrowed_17 ?_
      refine e_i2l aX9_narrowed_18 ?_
      refine e_goto aX9_narrowed_19 ?_
      refine e_lreturn aX9_narrowed_23 rfl (Nat.le_refl _) (Nat.le_refl _) ?_
      exact ⟨by unfold pvR; rw [if_neg q1, if_pos c13], rfl⟩
  · -- 1: not taken
    have q1 : t = 0 := c1
    refine e_lload_n aX9_narrowed_4 rfl ?_
    refine e_l2i aX9_narrowed_5 ?_
    refine e_i2s aX9_narrowed_6 ?_
    refine e_i2l aX9_narrowed_7 ?_
    refine e_goto aX9_narrowed_8 ?_
    refine e_lreturn aX9_narrowed_23 rfl (Nat.le_refl _) (Nat.le_refl _) ?_
    exact ⟨by unfold pvR; rw [if_pos q1], rfl⟩
theorem zX9_write (X : EX) {h : HP} (F : Fx h) {tS : Nat → Int32} {qS : Nat → Nat} (hS : ShM h tS qS) (x y : Int32) (v : Int64) : Ct X mX9_write 2 0 0 [vR (some 109), vI x, vI y, vL v] h (if x < 0 ∨ 4 ≤ x then RM h 0 else if tS x.toNatClampNeg = -1 then RM h 5 else if y < 0 ∨ nI (qS x.toNatClampNeg) ≤ y then RM h 0 else Rt (vI 1) (wL h 124 (40 * x.toNatClampNeg + y.toNatClampNeg) (pvR (tS x.toNatClampNeg) v))) := by
  refine ct_of rfl (Nat.le_of_ble_eq_true rfl) ?_
  refine e_iload_n aX9_write_0 rfl ?_
  refine e_invsT aX9_write_1 kX9_343 (zX9_isSheet X _) rfl rfl (Nat.le_of_ble_eq_true rfl) (Nat.le_of_ble_eq_true rfl) (Nat.le_refl _) (Nat.le_refl _) (Nat.le_of_ble_eq_true rfl) ?_
  refine e_if_ne aX9_write_4 (fun c4 => ?_) (fun c4 => ?_)
  · -- 4: taken
    have q4 := Decidable.of_not_not (fun z => c4 (b2_0.mpr z))
    obtain ⟨xz, hx4, rfl⟩ := ou_of 4 (by decide) q4
    obtain ⟨e1, e2, e3, e4⟩ := hS xz hx4
    refine e_aload_n aX9_write_13 rfl ?_
    refine e_getRF aX9_write_14 fX9_52 rfl (fx_is F rfl) (fx_r (b := 122) F rfl) ?_
    refine e_iload_n aX9_write_17 rfl ?_
    refine e_ialoadF aX9_write_18 (fx_is F rfl) (fx_n (n := 4) F rfl) (vin (N := 4) hx4) (show hI h 122 (nI xz).toNatClampNeg = tS xz by rw [cl (by omega)]; exact e1) ?_
    refine e_if_ge aX9_write_19 (fun c19 => ?_) (fun c19 => ?_)
    · -- 19: taken
      have q19 : ¬ tS xz = -1 := fun z => absurd (show ¬ (0 : Int32) ≤ tS xz by rw [z]; decide) (fun w => w c19)
      refine e_iload_n aX9_write_28 rfl ?_
      refine e_i2l aX9_write_29 ?_
      refine e_lconst (v := 0) aX9_write_30 rfl ?_
      refine e_aload_n aX9_write_31 rfl ?_
      refine e_getRF aX9_write_32 fX9_55 rfl (fx_is F rfl) (fx_r (b := 123) F rfl) ?_
      refine e_iload_n aX9_write_35 rfl ?_
      refine e_ialoadF aX9_write_36 (fx_is F rfl) (fx_n (n := 4) F rfl) (vin (N := 4) hx4) (show hI h 123 (nI xz).toNatClampNeg = nI (qS xz) by rw [cl (by omega)]; exact e2) ?_
      refine e_iconst (v := 1) aX9_write_37 (by decide) ?_
      refine e_isub aX9_write_38 ?_
      refine e_i2l aX9_write_39 ?_
      refine e_invsT aX9_write_40 kX9_108 (zil X y (n := qS xz) (by omega)) rfl rfl (Nat.le_of_ble_eq_true rfl) (Nat.le_of_ble_eq_true rfl) (Nat.le_refl _) (Nat.le_refl _) (Nat.le_of_ble_eq_true rfl) ?_
      refine e_if_ne aX9_write_43 (fun c43 => ?_) (fun c43 => ?_)
      · -- 43: taken
        have q43 := Decidable.of_not_not (fun z => c43 (b2_0.mpr z))
        obtain ⟨iz, hiz, rfl⟩ := ou_of (qS xz) (by omega) q43
        refine e_aload_n aX9_write_52 rfl ?_
        refine e_getRF aX9_write_53 fX9_58 rfl (fx_is F rfl) (fx_r (b := 124) F rfl) ?_
        refine e_bipush (v := 40) aX9_write_56 (by decide) ?_
        refine e_iload_n aX9_write_58 rfl ?_
        refine e_imul aX9_write_59 ?_
        refine e_top (nI_mul 40 xz) ?_
        refine e_iload_n aX9_write_60 rfl ?_
        refine e_iadd aX9_write_61 ?_
        refine e_top (nI_add _ _) ?_
        refine e_aload_n aX9_write_62 rfl ?_
        refine e_getRF aX9_write_63 fX9_52 rfl (fx_is F rfl) (fx_r (b := 122) F rfl) ?_
        refine e_iload_n aX9_write_66 rfl ?_
        refine e_ialoadF aX9_write_67 (fx_is F rfl) (fx_n (n := 4) F rfl) (vin (N := 4) hx4) (show hI h 122 (nI xz).toNatClampNeg = tS xz by rw [cl (by omega)]; exact e1) ?_
        refine e_lload_n aX9_write_68 rfl ?_
        refine e_invsT aX9_write_69 kX9_346 (zX9_narrowed X _ _) rfl rfl (Nat.le_of_ble_eq_true rfl) (Nat.le_of_ble_eq_true rfl) (Nat.le_refl _) (Nat.le_refl _) (Nat.le_of_ble_eq_true rfl) ?_
        refine e_lastoreF aX9_write_72 (fx_is F rfl) (fx_n (n := 160) F rfl) (vin (N := 160) (by omega)) ?_
        rw [cl (n := 40 * xz + iz) (by omega)]
        refine e_iconst (v := 1) aX9_write_73 (by decide) ?_
        refine e_ireturn aX9_write_74 rfl (Nat.le_refl _) (Nat.le_refl _) ?_
        rw [if_neg q4, cl (by omega), if_neg q19, if_neg q43, cl (n := iz) (by omega)]
        exact ⟨rfl, rfl⟩
      · -- 43: not taken
        have q43 := Decidable.of_not_not (b2_0.mp c43)
        refine e_aload_n aX9_write_46 rfl ?_
        refine e_iconst (v := 0) aX9_write_47 (by decide) ?_
        refine e_invvT aX9_write_48 kX9_128 (zX9_finds X F (k := 0) (by decide)) rfl rfl (fx_is F rfl) (Nat.le_of_ble_eq_true rfl) (Nat.le_of_ble_eq_true rfl) (Nat.le_refl _) (Nat.le_refl _) (Nat.le_of_ble_eq_true rfl) ?_
        refine e_ireturn aX9_write_51 rfl (Nat.le_refl _) (Nat.le_refl _) ?_
        rw [if_neg q4, cl (by omega), if_neg q19, if_pos q43]
        exact ⟨rfl, rfl⟩
    · -- 19: not taken
      have q19 : tS xz = -1 := by
        rcases e3 with z | z | z | z
        · exact z
        all_goals exact absurd (show (0 : Int32) ≤ tS xz by rw [z]; decide) c19
      refine e_aload_n aX9_write_22 rfl ?_
      refine e_iconst (v := 5) aX9_write_23 (by decide) ?_
      refine e_invvT aX9_write_24 kX9_128 (zX9_finds X F (k := 5) (by decide)) rfl rfl (fx_is F rfl) (Nat.le_of_ble_eq_true rfl) (Nat.le_of_ble_eq_true rfl) (Nat.le_refl _) (Nat.le_refl _) (Nat.le_of_ble_eq_true rfl) ?_
      refine e_ireturn aX9_write_27 rfl (Nat.le_refl _) (Nat.le_refl _) ?_
      rw [if_neg q4, cl (by omega), if_pos q19]
      exact ⟨rfl, rfl⟩
  · -- 4: not taken
    have q4 := Decidable.of_not_not (b2_0.mp c4)
    refine e_aload_n aX9_write_7 rfl ?_
    refine e_iconst (v := 0) aX9_write_8 (by decide) ?_
    refine e_invvT aX9_write_9 kX9_128 (zX9_finds X F (k := 0) (by decide)) rfl rfl (fx_is F rfl) (Nat.le_of_ble_eq_true rfl) (Nat.le_of_ble_eq_true rfl) (Nat.le_refl _) (Nat.le_refl _) (Nat.le_of_ble_eq_true rfl) ?_
    refine e_ireturn aX9_write_12 rfl (Nat.le_refl _) (Nat.le_refl _) ?_
    rw [if_pos q4]
    exact ⟨rfl, rfl⟩
theorem zX9_item (X : EX) {h : HP} (F : Fx h) {tS : Nat → Int32} {qS : Nat → Nat} (hS : ShM h tS qS) (x y : Int32) : Ct X mX9_item 2 0 0 [vR (some 109), vI x, vI y] h (if x < 0 ∨ 4 ≤ x then RML h 0 else if tS x.toNatClampNeg = -1 then RML h 5 else if y < 0 ∨ nI (qS x.toNatClampNeg) ≤ y then RML h 0 else Rt (vL (hL h 124 (40 * x.toNatClampNeg + y.toNatClampNeg))) h) := by
  refine ct_of rfl (Nat.le_of_ble_eq_true rfl) ?_
  refine e_iload_n aX9_item_0 rfl ?_
  refine e_invsT aX9_item_1 kX9_343 (zX9_isSheet X _) rfl rfl (Nat.le_of_ble_eq_true rfl) (Nat.le_of_ble_eq_true rfl) (Nat.le_refl _) (Nat.le_refl _) (Nat.le_of_ble_eq_true rfl) ?_
  refine e_if_ne aX9_item_4 (fun c4 => ?_) (fun c4 => ?_)
  · -- 4: taken
    have q4 := Decidable.of_not_not (fun z => c4 (b2_0.mpr z))
    obtain ⟨xz, hx4, rfl⟩ := ou_of 4 (by decide) q4
    obtain ⟨e1, e2, e3, e4⟩ := hS xz hx4
    refine e_aload_n aX9_item_13 rfl ?_
    refine e_getRF aX9_item_14 fX9_52 rfl (fx_is F rfl) (fx_r (b := 122) F rfl) ?_
    refine e_iload_n aX9_item_17 rfl ?_
    refine e_ialoadF aX9_item_18 (fx_is F rfl) (fx_n (n := 4) F rfl) (vin (N := 4) hx4) (show hI h 122 (nI xz).toNatClampNeg = tS xz by rw [cl (by omega)]; exact e1) ?_
    refine e_if_ge aX9_item_19 (fun c19 => ?_) (fun c19 => ?_)
    · -- 19: taken
      have q19 : ¬ tS xz = -1 := fun z => absurd (show ¬ (0 : Int32) ≤ tS xz by rw [z]; decide) (fun w => w c19)
      refine e_iload_n aX9_item_28 rfl ?_
      refine e_i2l aX9_item_29 ?_
      refine e_lconst (v := 0) aX9_item_30 rfl ?_
      refine e_aload_n aX9_item_31 rfl ?_
      refine e_getRF aX9_item_32 fX9_55 rfl (fx_is F rfl) (fx_r (b := 123) F rfl) ?_
      refine e_iload_n aX9_item_35 rfl ?_
      refine e_ialoadF aX9_item_36 (fx_is F rfl) (fx_n (n := 4) F rfl) (vin (N := 4) hx4) (show hI h 123 (nI xz).toNatClampNeg = nI (qS xz) by rw [cl (by omega)]; exact e2) ?_
      refine e_iconst (v := 1) aX9_item_37 (by decide) ?_
      refine e_isub aX9_item_38 ?_
      refine e_i2l aX9_item_39 ?_
      refine e_invsT aX9_item_40 kX9_108 (zil X y (n := qS xz) (by omega)) rfl rfl (Nat.le_of_ble_eq_true rfl) (Nat.le_of_ble_eq_true rfl) (Nat.le_refl _) (Nat.le_refl _) (Nat.le_of_ble_eq_true rfl) ?_
      refine e_if_eq aX9_item_43 (fun c43 => ?_) (fun c43 => ?_)
      · -- 43: taken
        have q43 := Decidable.of_not_not (b2_0.mp c43)
        refine e_aload_n aX9_item_60 rfl ?_
        refine e_iconst (v := 0) aX9_item_61 (by decide) ?_
        refine e_invvT aX9_item_62 kX9_240 (zX9_findsFar X F (k := 0) (by decide)) rfl rfl (fx_is F rfl) (Nat.le_of_ble_eq_true rfl) (Nat.le_of_ble_eq_true rfl) (Nat.le_refl _) (Nat.le_refl _) (Nat.le_of_ble_eq_true rfl) ?_
        refine e_lreturn aX9_item_65 rfl (Nat.le_refl _) (Nat.le_refl _) ?_
        rw [if_neg q4, cl (by omega), if_neg q19, if_pos q43]
        exact ⟨rfl, rfl⟩
      · -- 43: not taken
        have q43 := Decidable.of_not_not (fun z => c43 (b2_0.mpr z))
        obtain ⟨iz, hiz, rfl⟩ := ou_of (qS xz) (by omega) q43
        refine e_aload_n aX9_item_46 rfl ?_
        refine e_getRF aX9_item_47 fX9_58 rfl (fx_is F rfl) (fx_r (b := 124) F rfl) ?_
        refine e_bipush (v := 40) aX9_item_50 (by decide) ?_
        refine e_iload_n aX9_item_52 rfl ?_
        refine e_imul aX9_item_53 ?_
        refine e_top (nI_mul 40 xz) ?_
        refine e_iload_n aX9_item_54 rfl ?_
        refine e_iadd aX9_item_55 ?_
        refine e_top (nI_add _ _) ?_
        refine e_laloadF aX9_item_56 (fx_is F rfl) (fx_n (n := 160) F rfl) (vin (N := 160) (by omega)) (show hL h 124 (nI (40 * xz + iz)).toNatClampNeg = hL h 124 (40 * xz + iz) by rw [cl (by omega)]) ?_
        refine e_goto aX9_item_57 ?_
        refine e_lreturn aX9_item_65 rfl (Nat.le_refl _) (Nat.le_refl _) ?_
        rw [if_neg q4, cl (by omega), if_neg q19, if_neg q43, cl (n := iz) (by omega)]
        exact ⟨rfl, rfl⟩
    · -- 19: not taken
      have q19 : tS xz = -1 := by
        rcases e3 with z | z | z | z
        · exact z
        all_goals exact absurd (show (0 : Int32) ≤ tS xz by rw [z]; decide) c19
      refine e_aload_n aX9_item_22 rfl ?_
      refine e_iconst (v := 5) aX9_item_23 (by decide) ?_
      refine e_invvT aX9_item_24 kX9_240 (zX9_findsFar X F (k := 5) (by decide)) rfl rfl (fx_is F rfl) (Nat.le_of_ble_eq_true rfl) (Nat.le_of_ble_eq_true rfl) (Nat.le_refl _) (Nat.le_refl _) (Nat.le_of_ble_eq_true rfl) ?_
      refine e_lreturn aX9_item_27 rfl (Nat.le_refl _) (Nat.le_refl _) ?_
      rw [if_neg q4, cl (by omega), if_pos q19]
      exact ⟨rfl, rfl⟩
  · -- 4: not taken
    have q4 := Decidable.of_not_not (b2_0.mp c4)
    refine e_aload_n aX9_item_7 rfl ?_
    refine e_iconst (v := 0) aX9_item_8 (by decide) ?_
    refine e_invvT aX9_item_9 kX9_240 (zX9_findsFar X F (k := 0) (by decide)) rfl rfl (fx_is F rfl) (Nat.le_of_ble_eq_true rfl) (Nat.le_of_ble_eq_true rfl) (Nat.le_refl _) (Nat.le_refl _) (Nat.le_of_ble_eq_true rfl) ?_
    refine e_lreturn aX9_item_12 rfl (Nat.le_refl _) (Nat.le_refl _) ?_
    rw [if_pos q4]
    exact ⟨rfl, rfl⟩
/-- numbers moved aside, and back -/
def mvL (h : HP) (a : Nat) : Nat → HP
  | 0 => h
  | k + 1 => wL (mvL h a k) 125 k (hL h 124 (a + k))
def cpM (h : HP) (b : Nat) : Nat → HP
  | 0 => h
  | k + 1 => wL (cpM h b k) 124 (b + k) (hL h 125 k)
theorem mvL_I {h : HP} {a : Nat} : ∀ k, hI (mvL h a k) = hI h := by
  intro k
  induction k with
  | zero => rfl
  | succ k ih => exact ih
theorem mvL_2 {h : HP} {a : Nat} : ∀ k, (mvL h a k).2.2 = h.2.2 := by
  intro k
  induction k with
  | zero => rfl
  | succ k ih => exact ih
theorem mvL_L {h : HP} {a b i : Nat} : ∀ k, hL (mvL h a k) b i = if b = 125 ∧ i < k then hL h 124 (a + i) else hL h b i := by
  intro k
  induction k with
  | zero => rw [if_neg (by omega)]; rfl
  | succ k ih =>
    show (if b = 125 ∧ i = k then hL h 124 (a + k) else hL (mvL h a k) b i) = _
    by_cases z : b = 125 ∧ i = k
    · rw [if_pos z, if_pos (by omega), z.2]
    · rw [if_neg z, ih]
      by_cases w : b = 125 ∧ i < k
      · rw [if_pos w, if_pos (by omega)]
      · rw [if_neg w, if_neg (by omega)]
theorem cpM_I {h : HP} {b : Nat} : ∀ k, hI (cpM h b k) = hI h := by
  intro k
  induction k with
  | zero => rfl
  | succ k ih => exact ih
theorem cpM_2 {h : HP} {b : Nat} : ∀ k, (cpM h b k).2.2 = h.2.2 := by
  intro k
  induction k with
  | zero => rfl
  | succ k ih => exact ih
theorem cpM_L {h : HP} {a b i : Nat} : ∀ k, hL (cpM h b k) a i = if a = 124 ∧ b ≤ i ∧ i < b + k then hL h 125 (i - b) else hL h a i := by
  intro k
  induction k with
  | zero => rw [if_neg (by omega)]; rfl
  | succ k ih =>
    show (if a = 124 ∧ i = b + k then hL h 125 k else hL (cpM h b k) a i) = _
    by_cases z : a = 124 ∧ i = b + k
    · rw [if_pos z, if_pos (by omega), z.2, Nat.add_sub_cancel_left]
    · rw [if_neg z, ih]
      by_cases w : a = 124 ∧ b ≤ i ∧ i < b + k
      · rw [if_pos w, if_pos (by omega)]
      · rw [if_neg w, if_neg (by omega)]
theorem mvL_F {h : HP} (F : Fx h) {a k : Nat} : Fx (mvL h a k) := by
  unfold Fx
  rw [mvL_2]
  exact F
theorem cpM_F {h : HP} (F : Fx h) {a k : Nat} : Fx (cpM h a k) := by
  unfold Fx
  rw [cpM_2]
  exact F
theorem run_sub {q : Nat} {u r : Int32} (hq : q ≤ 40) (h1 : ¬ u < 0) (h2 : ¬ r < 0) : (r ≤ nI q - u ∧ u ≤ nI q) ↔ u.toNatClampNeg + r.toNatClampNeg ≤ q := by
  have hu := nn_int h1
  have hr := nn_int h2
  have hu2 := Int32.toInt_le u
  have hb : u.toInt ≤ 2147483647 := hu2
  have es : (nI q - u).toInt = (q : Int) - u.toInt := by
    rw [Int32.toInt_sub, nI_toInt (by omega)]
    exact Int.bmod_eq_of_le (by omega) (by omega)
  rw [Int32.le_iff_toInt_le, Int32.le_iff_toInt_le, es, nI_toInt (by omega)]
  omega
theorem run_gt {q : Nat} {u r : Int32} (hq : q ≤ 40) (h1 : ¬ u < 0) (h2 : ¬ r < 0) : r ≤ nI q - u → u ≤ nI q := by
  have hu := nn_int h1
  have hr := nn_int h2
  have hu2 := Int32.toInt_le u
  have hb : u.toInt ≤ 2147483647 := hu2
  have es : (nI q - u).toInt = (q : Int) - u.toInt := by
    rw [Int32.toInt_sub, nI_toInt (by omega)]
    exact Int.bmod_eq_of_le (by omega) (by omega)
  rw [Int32.le_iff_toInt_le, Int32.le_iff_toInt_le, es, nI_toInt (by omega)]
  omega
theorem nn_of {u : Int32} (h1 : ¬ u < 0) {N : Nat} (hN : N ≤ 1073741824) (h : u.toNatClampNeg < N) : ∃ j, j < N ∧ u = nI j := by
  have hu := nn_int h1
  exact ⟨u.toNatClampNeg, h, Int32.toInt_inj.mp (by rw [hu, nI_toInt (by omega)])⟩
theorem zX9_copy (X : EX) {h : HP} (F : Fx h) {tS : Nat → Int32} {qS : Nat → Nat} (hS : ShM h tS qS) (x u y v r : Int32) : Ct X mX9_copy 2 0 0 [vR (some 109), vI x, vI u, vI y, vI v, vI r] h (if x < 0 ∨ 4 ≤ x then RM h 0 else if y < 0 ∨ 4 ≤ y then RM h 0 else if tS x.toNatClampNeg = -1 then RM h 5 else if tS y.toNatClampNeg = -1 then RM h 5 else if tS x.toNatClampNeg = tS y.toNatClampNeg then (if (¬ u < 0 ∧ ¬ r < 0 ∧ u ≤ nI (qS x.toNatClampNeg) ∧ r ≤ nI (qS x.toNatClampNeg) - u) then (if (¬ v < 0 ∧ ¬ r < 0 ∧ v ≤ nI (qS y.toNatClampNeg) ∧ r ≤ nI (qS y.toNatClampNeg) - v) then Rt (vI r) (cpM (mvL h (40 * x.toNatClampNeg + u.toNatClampNeg) r.toNatClampNeg) (40 * y.toNatClampNeg + v.toNatClampNeg) r.toNatClampNeg) else RM h 0) else RM h 0) else RM h 2) := by
  refine ct_of rfl (Nat.le_of_ble_eq_true rfl) ?_
  have tail : ∀ (xz yz uz vz rz : Nat), xz < 4 → yz < 4 → uz + rz ≤ 40 → vz + rz ≤ 40 → Ev X mX9_copy 2 0 0 (Rt (vI (nI rz)) (cpM (mvL h (40 * xz + uz) rz) (40 * yz + vz) rz)) 0 0 112 [(0, some (vR (some 109))), (1, some (vI (nI xz))), (2, some (vI (nI uz))), (3, some (vI (nI yz))), (4, some (vI (nI vz))), (5, some (vI (nI rz)))] [] h := by
    intro xz yz uz vz rz hx hy hu hv
    have l2 : ∀ (m : Nat) (k : Nat), k + m = rz → Ev X mX9_copy 2 0 0 (Rt (vI (nI rz)) (cpM (mvL h (40 * xz + uz) rz) (40 * yz + vz) rz)) 0 0 152 [(0, some (vR (some 109))), (1, some (vI (nI xz))), (2, some (vI (nI uz))), (3, some (vI (nI yz))), (4, some (vI (nI vz))), (5, some (vI (nI rz))), (6, some (vI (nI k)))] [] (cpM (mvL h (40 * xz + uz) rz) (40 * yz + vz) k) := by
      intro m
      induction m with
      | zero =>
        intro k hk
        obtain rfl : k = rz := by omega
        have F := cpM_F (mvL_F F (a := 40 * xz + uz) (k := k)) (a := 40 * yz + vz) (k := k)
        refine e_iload aX9_copy_152 rfl ?_
        refine e_iload aX9_copy_154 rfl ?_
        refine e_icmp_ge aX9_copy_156 (fun c156 => ?_) (fun c156 => ?_)
        · -- 156: taken
          refine e_iload aX9_copy_187 rfl ?_
          refine e_ireturn aX9_copy_189 rfl (Nat.le_refl _) (Nat.le_refl _) ?_
          exact ⟨rfl, rfl⟩
        · -- 156: not taken
          exact absurd (nI_le (by omega) (by omega)) c156
      | succ m ih =>
        intro k hk
        have F := cpM_F (mvL_F F (a := 40 * xz + uz) (k := rz)) (a := 40 * yz + vz) (k := k)
        refine e_iload aX9_copy_152 rfl ?_
        refine e_iload aX9_copy_154 rfl ?_
        refine e_icmp_ge aX9_copy_156 (fun c156 => ?_) (fun c156 => ?_)
        · -- 156: taken
          exact absurd c156 (nI_ge (by omega) (by omega))
        · -- 156: not taken
          refine e_aload_n aX9_copy_159 rfl ?_
          refine e_getRF aX9_copy_160 fX9_58 rfl (fx_is F rfl) (fx_r (b := 124) F rfl) ?_
          refine e_bipush (v := 40) aX9_copy_163 (by decide) ?_
          refine e_iload_n aX9_copy_165 rfl ?_
          refine e_imul aX9_copy_166 ?_
          refine e_top (nI_mul 40 yz) ?_
          refine e_iload aX9_copy_167 rfl ?_
          refine e_iadd aX9_copy_169 ?_
          refine e_top (nI_add _ _) ?_
          refine e_iload aX9_copy_170 rfl ?_
          refine e_iadd aX9_copy_172 ?_
          refine e_top (nI_add _ _) ?_
          refine e_aload_n aX9_copy_173 rfl ?_
          refine e_getRF aX9_copy_174 fX9_62 rfl (fx_is F rfl) (fx_r (b := 125) F rfl) ?_
          refine e_iload aX9_copy_177 rfl ?_
          refine e_laloadF aX9_copy_179 (fx_is F rfl) (fx_n (n := 40) F rfl) (vin (N := 40) (by omega)) (show hL (cpM (mvL h (40 * xz + uz) rz) (40 * yz + vz) k) 125 (nI k).toNatClampNeg = hL (mvL h (40 * xz + uz) rz) 125 k by rw [cl (by omega), cpM_L, if_neg (by omega)]) ?_
          refine e_lastoreF aX9_copy_180 (fx_is F rfl) (fx_n (n := 160) F rfl) (vin (N := 160) (by omega)) ?_
          rw [cl (by omega)]
          refine e_iinc aX9_copy_181 rfl rfl (Nat.le_of_ble_eq_true rfl) ?_
          refine e_goto aX9_copy_184 ?_
          refine e_ls (ls' := [(0, some (vR (some 109))), (1, some (vI (nI xz))), (2, some (vI (nI uz))), (3, some (vI (nI yz))), (4, some (vI (nI vz))), (5, some (vI (nI rz))), (6, some (vI (nI (k + 1))))]) ⟨rfl, rfl, rfl, rfl, rfl, rfl, congrArg (fun x => some (vI x)) (nI_1 k), trivial⟩ ?_
          exact ih (k + 1) (by omega)
    have l1 : ∀ (m : Nat) (k : Nat), k + m = rz → Ev X mX9_copy 2 0 0 (Rt (vI (nI rz)) (cpM (mvL h (40 * xz + uz) rz) (40 * yz + vz) rz)) 0 0 115 [(0, some (vR (some 109))), (1, some (vI (nI xz))), (2, some (vI (nI uz))), (3, some (vI (nI yz))), (4, some (vI (nI vz))), (5, some (vI (nI rz))), (6, some (vI (nI k)))] [] (mvL h (40 * xz + uz) k) := by
      intro m
      induction m with
      | zero =>
        intro k hk
        obtain rfl : k = rz := by omega
        have F := mvL_F F (a := 40 * xz + uz) (k := k)
        refine e_iload aX9_copy_115 rfl ?_
        refine e_iload aX9_copy_117 rfl ?_
        refine e_icmp_ge aX9_copy_119 (fun c119 => ?_) (fun c119 => ?_)
        · -- 119: taken
          refine e_iconst (v := 0) aX9_copy_149 (by decide) ?_
          refine e_istore aX9_copy_150 (Nat.le_of_ble_eq_true rfl) ?_
          refine e_ls (ls' := [(0, some (vR (some 109))), (1, some (vI (nI xz))), (2, some (vI (nI uz))), (3, some (vI (nI yz))), (4, some (vI (nI vz))), (5, some (vI (nI k))), (6, some (vI (nI 0)))]) ⟨rfl, rfl, rfl, rfl, rfl, rfl, rfl, trivial⟩ ?_
          exact l2 k 0 (by omega)
        · -- 119: not taken
          exact absurd (nI_le (by omega) (by omega)) c119
      | succ m ih =>
        intro k hk
        have F := mvL_F F (a := 40 * xz + uz) (k := k)
        refine e_iload aX9_copy_115 rfl ?_
        refine e_iload aX9_copy_117 rfl ?_
        refine e_icmp_ge aX9_copy_119 (fun c119 => ?_) (fun c119 => ?_)
        · -- 119: taken
          exact absurd c119 (nI_ge (by omega) (by omega))
        · -- 119: not taken
          refine e_aload_n aX9_copy_122 rfl ?_
          refine e_getRF aX9_copy_123 fX9_62 rfl (fx_is F rfl) (fx_r (b := 125) F rfl) ?_
          refine e_iload aX9_copy_126 rfl ?_
          refine e_aload_n aX9_copy_128 rfl ?_
          refine e_getRF aX9_copy_129 fX9_58 rfl (fx_is F rfl) (fx_r (b := 124) F rfl) ?_
          refine e_bipush (v := 40) aX9_copy_132 (by decide) ?_
          refine e_iload_n aX9_copy_134 rfl ?_
          refine e_imul aX9_copy_135 ?_
          refine e_top (nI_mul 40 xz) ?_
          refine e_iload_n aX9_copy_136 rfl ?_
          refine e_iadd aX9_copy_137 ?_
          refine e_top (nI_add _ _) ?_
          refine e_iload aX9_copy_138 rfl ?_
          refine e_iadd aX9_copy_140 ?_
          refine e_top (nI_add _ _) ?_
          refine e_laloadF aX9_copy_141 (fx_is F rfl) (fx_n (n := 160) F rfl) (vin (N := 160) (by omega)) (show hL (mvL h (40 * xz + uz) k) 124 (nI (40 * xz + uz + k)).toNatClampNeg = hL h 124 (40 * xz + uz + k) by rw [cl (by omega), mvL_L, if_neg (by omega)]) ?_
          refine e_lastoreF aX9_copy_142 (fx_is F rfl) (fx_n (n := 40) F rfl) (vin (N := 40) (by omega)) ?_
          rw [cl (by omega)]
          refine e_iinc aX9_copy_143 rfl rfl (Nat.le_of_ble_eq_true rfl) ?_
          refine e_goto aX9_copy_146 ?_
          refine e_ls (ls' := [(0, some (vR (some 109))), (1, some (vI (nI xz))), (2, some (vI (nI uz))), (3, some (vI (nI yz))), (4, some (vI (nI vz))), (5, some (vI (nI rz))), (6, some (vI (nI (k + 1))))]) ⟨rfl, rfl, rfl, rfl, rfl, rfl, congrArg (fun x => some (vI x)) (nI_1 k), trivial⟩ ?_
          exact ih (k + 1) (by omega)
    refine e_iconst (v := 0) aX9_copy_112 (by decide) ?_
    refine e_istore aX9_copy_113 (Nat.le_of_ble_eq_true rfl) ?_
    refine e_ls (ls' := [(0, some (vR (some 109))), (1, some (vI (nI xz))), (2, some (vI (nI uz))), (3, some (vI (nI yz))), (4, some (vI (nI vz))), (5, some (vI (nI rz))), (6, some (vI (nI 0)))]) ⟨rfl, rfl, rfl, rfl, rfl, rfl, rfl, trivial⟩ ?_
    exact l1 rz 0 (by omega)
  refine e_iload_n aX9_copy_0 rfl ?_
  refine e_invsT aX9_copy_1 kX9_343 (zX9_isSheet X _) rfl rfl (Nat.le_of_ble_eq_true rfl) (Nat.le_of_ble_eq_true rfl) (Nat.le_refl _) (Nat.le_refl _) (Nat.le_of_ble_eq_true rfl) ?_
  refine e_if_eq aX9_copy_4 (fun c4 => ?_) (fun c4 => ?_)
  · -- 4: taken
    have q4 := Decidable.of_not_not (b2_0.mp c4)
    refine e_aload_n aX9_copy_14 rfl ?_
    refine e_iconst (v := 0) aX9_copy_15 (by decide) ?_
    refine e_invvT aX9_copy_16 kX9_128 (zX9_finds X F (k := 0) (by decide)) rfl rfl (fx_is F rfl) (Nat.le_of_ble_eq_true rfl) (Nat.le_of_ble_eq_true rfl) (Nat.le_refl _) (Nat.le_refl _) (Nat.le_of_ble_eq_true rfl) ?_
    refine e_ireturn aX9_copy_19 rfl (Nat.le_refl _) (Nat.le_refl _) ?_
    rw [if_pos q4]
    exact ⟨rfl, rfl⟩
  · -- 4: not taken
    have q4 := Decidable.of_not_not (fun z => c4 (b2_0.mpr z))
    refine e_iload_n aX9_copy_7 rfl ?_
    refine e_invsT aX9_copy_8 kX9_343 (zX9_isSheet X _) rfl rfl (Nat.le_of_ble_eq_true rfl) (Nat.le_of_ble_eq_true rfl) (Nat.le_refl _) (Nat.le_refl _) (Nat.le_of_ble_eq_true rfl) ?_
    refine e_if_ne aX9_copy_11 (fun c11 => ?_) (fun c11 => ?_)
    · -- 11: taken
      have q11 := Decidable.of_not_not (fun z => c11 (b2_0.mpr z))
      obtain ⟨xz, hx4, rfl⟩ := ou_of 4 (by decide) q4
      obtain ⟨yz, hy4, rfl⟩ := ou_of 4 (by decide) q11
      obtain ⟨e1, e2, e3, e4⟩ := hS xz hx4
      obtain ⟨g1, g2, g3, g4⟩ := hS yz hy4
      refine e_aload_n aX9_copy_20 rfl ?_
      refine e_getRF aX9_copy_21 fX9_52 rfl (fx_is F rfl) (fx_r (b := 122) F rfl) ?_
      refine e_iload_n aX9_copy_24 rfl ?_
      refine e_ialoadF aX9_copy_25 (fx_is F rfl) (fx_n (n := 4) F rfl) (vin (N := 4) hx4) (show hI h 122 (nI xz).toNatClampNeg = tS xz by rw [cl (by omega)]; exact e1) ?_
      refine e_if_lt aX9_copy_26 (fun c26 => ?_) (fun c26 => ?_)
      · -- 26: taken
        have q26 : tS xz = -1 := by
          rcases e3 with z | z | z | z
          · exact z
          all_goals exact absurd (show (0 : Int32) ≤ tS xz by rw [z]; decide) (Int32.not_le.mpr c26)
        refine e_aload_n aX9_copy_38 rfl ?_
        refine e_iconst (v := 5) aX9_copy_39 (by decide) ?_
        refine e_invvT aX9_copy_40 kX9_128 (zX9_finds X F (k := 5) (by decide)) rfl rfl (fx_is F rfl) (Nat.le_of_ble_eq_true rfl) (Nat.le_of_ble_eq_true rfl) (Nat.le_refl _) (Nat.le_refl _) (Nat.le_of_ble_eq_true rfl) ?_
        refine e_ireturn aX9_copy_43 rfl (Nat.le_refl _) (Nat.le_refl _) ?_
        rw [if_neg q4, if_neg q11, cl (n := xz) (by omega), cl (n := yz) (by omega), if_pos q26]
        exact ⟨rfl, rfl⟩
      · -- 26: not taken
        have q26 : ¬ tS xz = -1 := fun z => absurd (show ¬ (0 : Int32) ≤ tS xz by rw [z]; decide) (fun w => w (Int32.not_lt.mp c26))
        refine e_aload_n aX9_copy_29 rfl ?_
        refine e_getRF aX9_copy_30 fX9_52 rfl (fx_is F rfl) (fx_r (b := 122) F rfl) ?_
        refine e_iload_n aX9_copy_33 rfl ?_
        refine e_ialoadF aX9_copy_34 (fx_is F rfl) (fx_n (n := 4) F rfl) (vin (N := 4) hy4) (show hI h 122 (nI yz).toNatClampNeg = tS yz by rw [cl (by omega)]; exact g1) ?_
        refine e_if_ge aX9_copy_35 (fun c35 => ?_) (fun c35 => ?_)
        · -- 35: taken
          have q35 : ¬ tS yz = -1 := fun z => absurd (show ¬ (0 : Int32) ≤ tS yz by rw [z]; decide) (fun w => w c35)
          refine e_aload_n aX9_copy_44 rfl ?_
          refine e_getRF aX9_copy_45 fX9_52 rfl (fx_is F rfl) (fx_r (b := 122) F rfl) ?_
          refine e_iload_n aX9_copy_48 rfl ?_
          refine e_ialoadF aX9_copy_49 (fx_is F rfl) (fx_n (n := 4) F rfl) (vin (N := 4) hx4) (show hI h 122 (nI xz).toNatClampNeg = tS xz by rw [cl (by omega)]; exact e1) ?_
          refine e_aload_n aX9_copy_50 rfl ?_
          refine e_getRF aX9_copy_51 fX9_52 rfl (fx_is F rfl) (fx_r (b := 122) F rfl) ?_
          refine e_iload_n aX9_copy_54 rfl ?_
          refine e_ialoadF aX9_copy_55 (fx_is F rfl) (fx_n (n := 4) F rfl) (vin (N := 4) hy4) (show hI h 122 (nI yz).toNatClampNeg = tS yz by rw [cl (by omega)]; exact g1) ?_
          refine e_icmp_eq aX9_copy_56 (fun c56 => ?_) (fun c56 => ?_)
          · -- 56: taken
            refine e_iload aX9_copy_65 rfl ?_
            refine e_if_lt aX9_copy_67 (fun c67 => ?_) (fun c67 => ?_)
            · -- 67: taken
              refine e_aload_n aX9_copy_106 rfl ?_
              refine e_iconst (v := 0) aX9_copy_107 (by decide) ?_
              refine e_invvT aX9_copy_108 kX9_128 (zX9_finds X F (k := 0) (by decide)) rfl rfl (fx_is F rfl) (Nat.le_of_ble_eq_true rfl) (Nat.le_of_ble_eq_true rfl) (Nat.le_refl _) (Nat.le_refl _) (Nat.le_of_ble_eq_true rfl) ?_
              refine e_ireturn aX9_copy_111 rfl (Nat.le_refl _) (Nat.le_refl _) ?_
              rw [if_neg q4, if_neg q11, cl (n := xz) (by omega), cl (n := yz) (by omega), if_neg q26, if_neg q35, if_pos c56]
              rw [if_neg (fun z => z.2.1 c67)]
              exact ⟨rfl, rfl⟩
            · -- 67: not taken
              refine e_iload_n aX9_copy_70 rfl ?_
              refine e_if_lt aX9_copy_71 (fun c71 => ?_) (fun c71 => ?_)
              · -- 71: taken
                refine e_aload_n aX9_copy_106 rfl ?_
                refine e_iconst (v := 0) aX9_copy_107 (by decide) ?_
                refine e_invvT aX9_copy_108 kX9_128 (zX9_finds X F (k := 0) (by decide)) rfl rfl (fx_is F rfl) (Nat.le_of_ble_eq_true rfl) (Nat.le_of_ble_eq_true rfl) (Nat.le_refl _) (Nat.le_refl _) (Nat.le_of_ble_eq_true rfl) ?_
                refine e_ireturn aX9_copy_111 rfl (Nat.le_refl _) (Nat.le_refl _) ?_
                rw [if_neg q4, if_neg q11, cl (n := xz) (by omega), cl (n := yz) (by omega), if_neg q26, if_neg q35, if_pos c56]
                rw [if_neg (fun z => z.1 c71)]
                exact ⟨rfl, rfl⟩
              · -- 71: not taken
                refine e_iload aX9_copy_74 rfl ?_
                refine e_if_lt aX9_copy_76 (fun c76 => ?_) (fun c76 => ?_)
                · -- 76: taken
                  refine e_aload_n aX9_copy_106 rfl ?_
                  refine e_iconst (v := 0) aX9_copy_107 (by decide) ?_
                  refine e_invvT aX9_copy_108 kX9_128 (zX9_finds X F (k := 0) (by decide)) rfl rfl (fx_is F rfl) (Nat.le_of_ble_eq_true rfl) (Nat.le_of_ble_eq_true rfl) (Nat.le_refl _) (Nat.le_refl _) (Nat.le_of_ble_eq_true rfl) ?_
                  refine e_ireturn aX9_copy_111 rfl (Nat.le_refl _) (Nat.le_refl _) ?_
                  rw [if_neg q4, if_neg q11, cl (n := xz) (by omega), cl (n := yz) (by omega), if_neg q26, if_neg q35, if_pos c56]
                  by_cases z1 : (¬ u < 0 ∧ ¬ r < 0 ∧ u ≤ nI (qS xz) ∧ r ≤ nI (qS xz) - u)
                  · rw [if_pos z1, if_neg (fun z => z.1 c76)]
                    exact ⟨rfl, rfl⟩
                  · rw [if_neg z1]
                    exact ⟨rfl, rfl⟩
                · -- 76: not taken
                  refine e_iload aX9_copy_79 rfl ?_
                  refine e_aload_n aX9_copy_81 rfl ?_
                  refine e_getRF aX9_copy_82 fX9_55 rfl (fx_is F rfl) (fx_r (b := 123) F rfl) ?_
                  refine e_iload_n aX9_copy_85 rfl ?_
                  refine e_ialoadF aX9_copy_86 (fx_is F rfl) (fx_n (n := 4) F rfl) (vin (N := 4) hx4) (show hI h 123 (nI xz).toNatClampNeg = nI (qS xz) by rw [cl (by omega)]; exact e2) ?_
                  refine e_iload_n aX9_copy_87 rfl ?_
                  refine e_isub aX9_copy_88 ?_
                  refine e_icmp_gt aX9_copy_89 (fun c89 => ?_) (fun c89 => ?_)
                  · -- 89: taken
                    refine e_aload_n aX9_copy_106 rfl ?_
                    refine e_iconst (v := 0) aX9_copy_107 (by decide) ?_
                    refine e_invvT aX9_copy_108 kX9_128 (zX9_finds X F (k := 0) (by decide)) rfl rfl (fx_is F rfl) (Nat.le_of_ble_eq_true rfl) (Nat.le_of_ble_eq_true rfl) (Nat.le_refl _) (Nat.le_refl _) (Nat.le_of_ble_eq_true rfl) ?_
                    refine e_ireturn aX9_copy_111 rfl (Nat.le_refl _) (Nat.le_refl _) ?_
                    rw [if_neg q4, if_neg q11, cl (n := xz) (by omega), cl (n := yz) (by omega), if_neg q26, if_neg q35, if_pos c56]
                    rw [if_neg (fun z => absurd (Int32.lt_of_lt_of_le c89 z.2.2.2) Int32.lt_irrefl)]
                    exact ⟨rfl, rfl⟩
                  · -- 89: not taken
                    refine e_iload aX9_copy_92 rfl ?_
                    refine e_aload_n aX9_copy_94 rfl ?_
                    refine e_getRF aX9_copy_95 fX9_55 rfl (fx_is F rfl) (fx_r (b := 123) F rfl) ?_
                    refine e_iload_n aX9_copy_98 rfl ?_
                    refine e_ialoadF aX9_copy_99 (fx_is F rfl) (fx_n (n := 4) F rfl) (vin (N := 4) hy4) (show hI h 123 (nI yz).toNatClampNeg = nI (qS yz) by rw [cl (by omega)]; exact g2) ?_
                    refine e_iload aX9_copy_100 rfl ?_
                    refine e_isub aX9_copy_102 ?_
                    refine e_icmp_le aX9_copy_103 (fun c103 => ?_) (fun c103 => ?_)
                    · -- 103: taken
                      rw [if_neg q4, if_neg q11, cl (n := xz) (by omega), cl (n := yz) (by omega), if_neg q26, if_neg q35, if_pos c56, if_pos (show (¬ u < 0 ∧ ¬ r < 0 ∧ u ≤ nI (qS xz) ∧ r ≤ nI (qS xz) - u) from ⟨c71, c67, run_gt e4 c71 c67 (Int32.not_lt.mp c89), Int32.not_lt.mp c89⟩), if_pos (show (¬ v < 0 ∧ ¬ r < 0 ∧ v ≤ nI (qS yz) ∧ r ≤ nI (qS yz) - v) from ⟨c76, c67, run_gt g4 c76 c67 c103, c103⟩)]
                      have r1 := (run_sub e4 c71 c67).mp ⟨Int32.not_lt.mp c89, run_gt e4 c71 c67 (Int32.not_lt.mp c89)⟩
                      have r2 := (run_sub g4 c76 c67).mp ⟨c103, run_gt g4 c76 c67 c103⟩
                      obtain ⟨uz, hu, rfl⟩ := nn_of c71 (N := 41) (by decide) (by omega)
                      obtain ⟨vz, hv, rfl⟩ := nn_of c76 (N := 41) (by decide) (by omega)
                      obtain ⟨rz, hr, rfl⟩ := nn_of c67 (N := 41) (by decide) (by omega)
                      rw [cl (n := uz) (by omega), cl (n := rz) (by omega)] at r1
                      rw [cl (n := vz) (by omega), cl (n := rz) (by omega)] at r2
                      rw [cl (n := uz) (by omega), cl (n := vz) (by omega), cl (n := rz) (by omega)]
                      refine e_ls (ls' := [(0, some (vR (some 109))), (1, some (vI (nI xz))), (2, some (vI (nI uz))), (3, some (vI (nI yz))), (4, some (vI (nI vz))), (5, some (vI (nI rz)))]) ⟨rfl, rfl, rfl, rfl, rfl, rfl, trivial⟩ ?_
                      exact tail xz yz uz vz rz hx4 hy4 (by omega) (by omega)
                    · -- 103: not taken
                      refine e_aload_n aX9_copy_106 rfl ?_
                      refine e_iconst (v := 0) aX9_copy_107 (by decide) ?_
                      refine e_invvT aX9_copy_108 kX9_128 (zX9_finds X F (k := 0) (by decide)) rfl rfl (fx_is F rfl) (Nat.le_of_ble_eq_true rfl) (Nat.le_of_ble_eq_true rfl) (Nat.le_refl _) (Nat.le_refl _) (Nat.le_of_ble_eq_true rfl) ?_
                      refine e_ireturn aX9_copy_111 rfl (Nat.le_refl _) (Nat.le_refl _) ?_
                      rw [if_neg q4, if_neg q11, cl (n := xz) (by omega), cl (n := yz) (by omega), if_neg q26, if_neg q35, if_pos c56]
                      by_cases z1 : (¬ u < 0 ∧ ¬ r < 0 ∧ u ≤ nI (qS xz) ∧ r ≤ nI (qS xz) - u)
                      · rw [if_pos z1, if_neg (fun z => c103 z.2.2.2)]
                        exact ⟨rfl, rfl⟩
                      · rw [if_neg z1]
                        exact ⟨rfl, rfl⟩
          · -- 56: not taken
            refine e_aload_n aX9_copy_59 rfl ?_
            refine e_iconst (v := 2) aX9_copy_60 (by decide) ?_
            refine e_invvT aX9_copy_61 kX9_128 (zX9_finds X F (k := 2) (by decide)) rfl rfl (fx_is F rfl) (Nat.le_of_ble_eq_true rfl) (Nat.le_of_ble_eq_true rfl) (Nat.le_refl _) (Nat.le_refl _) (Nat.le_of_ble_eq_true rfl) ?_
            refine e_ireturn aX9_copy_64 rfl (Nat.le_refl _) (Nat.le_refl _) ?_
            rw [if_neg q4, if_neg q11, cl (n := xz) (by omega), cl (n := yz) (by omega), if_neg q26, if_neg q35, if_neg c56]
            exact ⟨rfl, rfl⟩
        · -- 35: not taken
          have q35 : tS yz = -1 := by
            rcases g3 with z | z | z | z
            · exact z
            all_goals exact absurd (show (0 : Int32) ≤ tS yz by rw [z]; decide) c35
          refine e_aload_n aX9_copy_38 rfl ?_
          refine e_iconst (v := 5) aX9_copy_39 (by decide) ?_
          refine e_invvT aX9_copy_40 kX9_128 (zX9_finds X F (k := 5) (by decide)) rfl rfl (fx_is F rfl) (Nat.le_of_ble_eq_true rfl) (Nat.le_of_ble_eq_true rfl) (Nat.le_refl _) (Nat.le_refl _) (Nat.le_of_ble_eq_true rfl) ?_
          refine e_ireturn aX9_copy_43 rfl (Nat.le_refl _) (Nat.le_refl _) ?_
          rw [if_neg q4, if_neg q11, cl (n := xz) (by omega), cl (n := yz) (by omega), if_neg q26, if_pos q35]
          exact ⟨rfl, rfl⟩
    · -- 11: not taken
      have q11 := Decidable.of_not_not (b2_0.mp c11)
      refine e_aload_n aX9_copy_14 rfl ?_
      refine e_iconst (v := 0) aX9_copy_15 (by decide) ?_
      refine e_invvT aX9_copy_16 kX9_128 (zX9_finds X F (k := 0) (by decide)) rfl rfl (fx_is F rfl) (Nat.le_of_ble_eq_true rfl) (Nat.le_of_ble_eq_true rfl) (Nat.le_refl _) (Nat.le_refl _) (Nat.le_of_ble_eq_true rfl) ?_
      refine e_ireturn aX9_copy_19 rfl (Nat.le_refl _) (Nat.le_refl _) ?_
      rw [if_neg q4, if_pos q11]
      exact ⟨rfl, rfl⟩
