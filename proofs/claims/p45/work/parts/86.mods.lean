/-! the law: remainders, places (written by wip/p45/g86.py) -/
theorem i32_rem {v : Int32} {m : Nat} (h1 : 1 ≤ m) (hm : m < 1073741824) : (v - v / nI m * nI m).toInt = v.toInt.tmod m := by
  have a1 := Int32.le_toInt v
  have a2 := Int32.toInt_lt v
  have e := Int.mul_tdiv_add_tmod v.toInt m
  have b1 : v.toInt.tmod m < m := Int.tmod_lt_of_pos _ (by omega)
  have b2 : -(m : Int) < v.toInt.tmod m := by
    have := Int.lt_tmod_of_pos v.toInt (b := (m : Int)) (by omega)
    omega
  rw [Int32.toInt_sub, Int32.toInt_mul, Int32.toInt_div, nI_toInt (by omega)]
  simp only [Int.sub_bmod_bmod, Int.bmod_mul_bmod]
  have e2 : v.toInt - v.toInt.tdiv m * m = v.toInt.tmod m := by
    rw [Int.mul_comm]
    omega
  rw [e2, Int.bmod_eq_of_le (by omega) (by omega)]
theorem md_ok {v : Int32} {m : Nat} (h1 : 1 ≤ m) (hm : m < 1073741824) : ((v - v / nI m * nI m) < 0 → ∃ k, k < m ∧ (v - v / nI m * nI m) + nI m = nI k) ∧ (¬ (v - v / nI m * nI m) < 0 → ∃ k, k < m ∧ (v - v / nI m * nI m) = nI k) := by
  have e := i32_rem (v := v) h1 hm
  have b1 : v.toInt.tmod m < m := Int.tmod_lt_of_pos _ (by omega)
  have b2 : -(m : Int) < v.toInt.tmod m := by
    have := Int.lt_tmod_of_pos v.toInt (b := (m : Int)) (by omega)
    omega
  generalize v - v / nI m * nI m = r at e
  refine ⟨fun z => ⟨(r.toInt + m).toNat, by have := Int32.lt_iff_toInt_lt.mp z; rw [show (0 : Int32).toInt = 0 from rfl] at this; omega, ?_⟩, fun z => ⟨r.toInt.toNat, ?_, ?_⟩⟩
  · have z := Int32.lt_iff_toInt_lt.mp z
    rw [show (0 : Int32).toInt = 0 from rfl] at z
    refine Int32.toInt_inj.mp ?_
    rw [nI_toInt (by omega), Int32.toInt_add, nI_toInt (by omega), Int.bmod_eq_of_le (by omega) (by omega)]
    omega
  · omega
  · have z := (not_congr Int32.lt_iff_toInt_lt).mp z
    rw [show (0 : Int32).toInt = 0 from rfl] at z
    refine Int32.toInt_inj.mp ?_
    rw [nI_toInt (by omega)]
    omega
/-- one of the m rests -/
def RK (m : Nat) (h : HP) : Option VV → HP → Prop := fun v h' => ∃ k, k < m ∧ v = some (vI (nI k)) ∧ h' = h
theorem zL_mod (X : EX) {h : HP} {v : Int32} {m : Nat} (h1 : 1 ≤ m) (hm : m < 1073741824) : Ct X mL_mod 0 0 0 [vI v, vI (nI m)] h (RK m h) := by
  refine ct_of rfl (Nat.le_of_ble_eq_true rfl) ?_
  refine e_iload_n aL_mod_0 rfl ?_
  refine e_iload_n aL_mod_1 rfl ?_
  refine e_irem aL_mod_2 (nI_ne0 h1 (by omega)) ?_
  refine e_istore_n aL_mod_3 (Nat.le_of_ble_eq_true rfl) ?_
  refine e_iload_n aL_mod_4 rfl ?_
  refine e_if_ge aL_mod_5 (fun c5 => ?_) (fun c5 => ?_)
  · -- 5: taken
    obtain ⟨k, hk, e⟩ := (md_ok (v := v) h1 hm).2 (Int32.not_lt.mpr c5)
    refine e_iload_n aL_mod_14 rfl ?_
    refine e_ireturn aL_mod_15 rfl (Nat.le_refl _) (Nat.le_refl _) ?_
    exact ⟨k, hk, by rw [e], rfl⟩
  · -- 5: not taken
    obtain ⟨k, hk, e⟩ := (md_ok (v := v) h1 hm).1 (Int32.not_le.mp c5)
    refine e_iload_n aL_mod_8 rfl ?_
    refine e_iload_n aL_mod_9 rfl ?_
    refine e_iadd aL_mod_10 ?_
    refine e_goto aL_mod_11 ?_
    refine e_ireturn aL_mod_15 rfl (Nat.le_refl _) (Nat.le_refl _) ?_
    exact ⟨k, hk, by rw [e], rfl⟩
theorem or_q {i : Nat} (h : i < 6) : orW[i]? = some (orW.getD i []) ∧ (orW.getD i []).length = 3 := by
  have key : ∀ i, i < 6 → orW[i]? = some (orW.getD i []) ∧ (orW.getD i []).length = 3 := by decide
  exact key i h
theorem or_p {i c : Nat} (h : i < 6) (hc : c < 3) : ((orW.getD i []).getD 0 0 = nI c → (0 : Int32) = nI ([0, 1, 2, 0, 2, 1, 1, 0, 2, 2, 0, 1, 1, 2, 0, 2, 1, 0].getD (i * 3 + c) 0)) ∧ (¬ (orW.getD i []).getD 0 0 = nI c → (orW.getD i []).getD 1 0 = nI c → (1 : Int32) = nI ([0, 1, 2, 0, 2, 1, 1, 0, 2, 2, 0, 1, 1, 2, 0, 2, 1, 0].getD (i * 3 + c) 0)) ∧ (¬ (orW.getD i []).getD 0 0 = nI c → ¬ (orW.getD i []).getD 1 0 = nI c → (2 : Int32) = nI ([0, 1, 2, 0, 2, 1, 1, 0, 2, 2, 0, 1, 1, 2, 0, 2, 1, 0].getD (i * 3 + c) 0)) := by
  have key : ∀ i, i < 6 → ∀ c, c < 3 → ((orW.getD i []).getD 0 0 = nI c → (0 : Int32) = nI ([0, 1, 2, 0, 2, 1, 1, 0, 2, 2, 0, 1, 1, 2, 0, 2, 1, 0].getD (i * 3 + c) 0)) ∧ (¬ (orW.getD i []).getD 0 0 = nI c → (orW.getD i []).getD 1 0 = nI c → (1 : Int32) = nI ([0, 1, 2, 0, 2, 1, 1, 0, 2, 2, 0, 1, 1, 2, 0, 2, 1, 0].getD (i * 3 + c) 0)) ∧ (¬ (orW.getD i []).getD 0 0 = nI c → ¬ (orW.getD i []).getD 1 0 = nI c → (2 : Int32) = nI ([0, 1, 2, 0, 2, 1, 1, 0, 2, 2, 0, 1, 1, 2, 0, 2, 1, 0].getD (i * 3 + c) 0)) := by decide +kernel
  exact key i h c hc
theorem pl_y {s y c : Nat} (hc : c < 3) : pl s (y * 3 + c) = [0, 1, 2, 0, 2, 1, 1, 0, 2, 2, 0, 1, 1, 2, 0, 2, 1, 0].getD (s / stp y % 6 * 3 + c) 0 := by
  unfold pl
  rw [show (y * 3 + c) / 3 = y by omega, show (y * 3 + c) % 3 = c by omega]
theorem zL_placeIn (X : EX) {h : HP} {s y c : Nat} (hs : s < 1296) (hy : y < 4) (hc : c < 3) : Ct X mL_placeIn 0 0 0 [vI (nI s), vI (nI y), vI (nI c)] h (Rt (vI (nI (pl s (y * 3 + c)))) h) := by
  refine ct_of rfl (Nat.le_of_ble_eq_true rfl) ?_
  have hy4 : y = 0 ∨ y = 1 ∨ y = 2 ∨ y = 3 := by omega
  rcases hy4 with rfl | rfl | rfl | rfl
  · skip
    refine e_iload_n aL_placeIn_0 rfl ?_
    refine e_if_ne aL_placeIn_1 (fun c1 => ?_) (fun c1 => ?_)
    · -- 1: taken
      exact absurd (show nI 0 = 0 from rfl) c1
    · -- 1: not taken
      skip
      refine e_iload_n aL_placeIn_4 rfl ?_
      refine e_sipush (v := 216) aL_placeIn_5 (by decide) ?_
      refine e_idiv aL_placeIn_8 (by decide) ?_
      refine e_top (nI_div (b := 216) (by omega) (by decide) (by decide)) ?_
      refine e_goto aL_placeIn_9 ?_
      refine e_bipush (v := 6) aL_placeIn_37 (by decide) ?_
      refine e_irem aL_placeIn_39 (by decide) ?_
      refine e_top (nI_rem (b := 6) (by omega) (by decide) (by decide)) ?_
      have h6 : (s / 216 % 6) < 6 := Nat.mod_lt _ (by decide)
      obtain ⟨o1, o2⟩ := or_q h6
      obtain ⟨p1, p2, p3⟩ := or_p h6 hc
      refine e_istore_n aL_placeIn_40 (Nat.le_of_ble_eq_true rfl) ?_
      refine e_getsO aL_placeIn_41 gL_8 ?_
      refine e_iload_n aL_placeIn_44 rfl ?_
      refine e_aaloadO (i0 := (s / 216 % 6)) aL_placeIn_45 (vin (N := 6) h6) (cl (by omega)) ?_
      refine e_iconst (v := 0) aL_placeIn_46 (by decide) ?_
      refine e_ialoadO (i0 := (s / 216 % 6)) aL_placeIn_47 o1 (by rw [o2]; exact vin (n := 0) (N := 3) (by decide)) ?_
      refine e_iload_n aL_placeIn_48 rfl ?_
      refine e_icmp_ne aL_placeIn_49 (fun c49 => ?_) (fun c49 => ?_)
      · -- 49: taken
        refine e_getsO aL_placeIn_56 gL_8 ?_
        refine e_iload_n aL_placeIn_59 rfl ?_
        refine e_aaloadO (i0 := (s / 216 % 6)) aL_placeIn_60 (vin (N := 6) h6) (cl (by omega)) ?_
        refine e_iconst (v := 1) aL_placeIn_61 (by decide) ?_
        refine e_ialoadO (i0 := (s / 216 % 6)) aL_placeIn_62 o1 (by rw [o2]; exact vin (n := 1) (N := 3) (by decide)) ?_
        refine e_iload_n aL_placeIn_63 rfl ?_
        refine e_icmp_ne aL_placeIn_64 (fun c64 => ?_) (fun c64 => ?_)
        · -- 64: taken
          refine e_iconst (v := 2) aL_placeIn_71 (by decide) ?_
          refine e_ireturn aL_placeIn_72 rfl (Nat.le_refl _) (Nat.le_refl _) ?_
          exact ⟨by rw [pl_y (y := 0) hc]; exact congrArg (fun z => some (vI z)) (p3 c49 c64), rfl⟩
        · -- 64: not taken
          refine e_iconst (v := 1) aL_placeIn_67 (by decide) ?_
          refine e_goto aL_placeIn_68 ?_
          refine e_ireturn aL_placeIn_72 rfl (Nat.le_refl _) (Nat.le_refl _) ?_
          exact ⟨by rw [pl_y (y := 0) hc]; exact congrArg (fun z => some (vI z)) (p2 c49 c64), rfl⟩
      · -- 49: not taken
        refine e_iconst (v := 0) aL_placeIn_52 (by decide) ?_
        refine e_goto aL_placeIn_53 ?_
        refine e_ireturn aL_placeIn_72 rfl (Nat.le_refl _) (Nat.le_refl _) ?_
        exact ⟨by rw [pl_y (y := 0) hc]; exact congrArg (fun z => some (vI z)) (p1 c49), rfl⟩
  · skip
    refine e_iload_n aL_placeIn_0 rfl ?_
    refine e_if_ne aL_placeIn_1 (fun c1 => ?_) (fun c1 => ?_)
    · -- 1: taken
      skip
      refine e_iload_n aL_placeIn_12 rfl ?_
      refine e_iconst (v := 1) aL_placeIn_13 (by decide) ?_
      refine e_icmp_ne aL_placeIn_14 (fun c14 => ?_) (fun c14 => ?_)
      · -- 14: taken
        exact absurd (show nI 1 = 1 from rfl) c14
      · -- 14: not taken
        skip
        refine e_iload_n aL_placeIn_17 rfl ?_
        refine e_bipush (v := 36) aL_placeIn_18 (by decide) ?_
        refine e_idiv aL_placeIn_20 (by decide) ?_
        refine e_top (nI_div (b := 36) (by omega) (by decide) (by decide)) ?_
        refine e_goto aL_placeIn_21 ?_
        refine e_bipush (v := 6) aL_placeIn_37 (by decide) ?_
        refine e_irem aL_placeIn_39 (by decide) ?_
        refine e_top (nI_rem (b := 6) (by omega) (by decide) (by decide)) ?_
        have h6 : (s / 36 % 6) < 6 := Nat.mod_lt _ (by decide)
        obtain ⟨o1, o2⟩ := or_q h6
        obtain ⟨p1, p2, p3⟩ := or_p h6 hc
        refine e_istore_n aL_placeIn_40 (Nat.le_of_ble_eq_true rfl) ?_
        refine e_getsO aL_placeIn_41 gL_8 ?_
        refine e_iload_n aL_placeIn_44 rfl ?_
        refine e_aaloadO (i0 := (s / 36 % 6)) aL_placeIn_45 (vin (N := 6) h6) (cl (by omega)) ?_
        refine e_iconst (v := 0) aL_placeIn_46 (by decide) ?_
        refine e_ialoadO (i0 := (s / 36 % 6)) aL_placeIn_47 o1 (by rw [o2]; exact vin (n := 0) (N := 3) (by decide)) ?_
        refine e_iload_n aL_placeIn_48 rfl ?_
        refine e_icmp_ne aL_placeIn_49 (fun c49 => ?_) (fun c49 => ?_)
        · -- 49: taken
          refine e_getsO aL_placeIn_56 gL_8 ?_
          refine e_iload_n aL_placeIn_59 rfl ?_
          refine e_aaloadO (i0 := (s / 36 % 6)) aL_placeIn_60 (vin (N := 6) h6) (cl (by omega)) ?_
          refine e_iconst (v := 1) aL_placeIn_61 (by decide) ?_
          refine e_ialoadO (i0 := (s / 36 % 6)) aL_placeIn_62 o1 (by rw [o2]; exact vin (n := 1) (N := 3) (by decide)) ?_
          refine e_iload_n aL_placeIn_63 rfl ?_
          refine e_icmp_ne aL_placeIn_64 (fun c64 => ?_) (fun c64 => ?_)
          · -- 64: taken
            refine e_iconst (v := 2) aL_placeIn_71 (by decide) ?_
            refine e_ireturn aL_placeIn_72 rfl (Nat.le_refl _) (Nat.le_refl _) ?_
            exact ⟨by rw [pl_y (y := 1) hc]; exact congrArg (fun z => some (vI z)) (p3 c49 c64), rfl⟩
          · -- 64: not taken
            refine e_iconst (v := 1) aL_placeIn_67 (by decide) ?_
            refine e_goto aL_placeIn_68 ?_
            refine e_ireturn aL_placeIn_72 rfl (Nat.le_refl _) (Nat.le_refl _) ?_
            exact ⟨by rw [pl_y (y := 1) hc]; exact congrArg (fun z => some (vI z)) (p2 c49 c64), rfl⟩
        · -- 49: not taken
          refine e_iconst (v := 0) aL_placeIn_52 (by decide) ?_
          refine e_goto aL_placeIn_53 ?_
          refine e_ireturn aL_placeIn_72 rfl (Nat.le_refl _) (Nat.le_refl _) ?_
          exact ⟨by rw [pl_y (y := 1) hc]; exact congrArg (fun z => some (vI z)) (p1 c49), rfl⟩
    · -- 1: not taken
      exact absurd c1 (by decide)
  · skip
    refine e_iload_n aL_placeIn_0 rfl ?_
    refine e_if_ne aL_placeIn_1 (fun c1 => ?_) (fun c1 => ?_)
    · -- 1: taken
      skip
      refine e_iload_n aL_placeIn_12 rfl ?_
      refine e_iconst (v := 1) aL_placeIn_13 (by decide) ?_
      refine e_icmp_ne aL_placeIn_14 (fun c14 => ?_) (fun c14 => ?_)
      · -- 14: taken
        skip
        refine e_iload_n aL_placeIn_24 rfl ?_
        refine e_iconst (v := 2) aL_placeIn_25 (by decide) ?_
        refine e_icmp_ne aL_placeIn_26 (fun c26 => ?_) (fun c26 => ?_)
        · -- 26: taken
          exact absurd (show nI 2 = 2 from rfl) c26
        · -- 26: not taken
          skip
          refine e_iload_n aL_placeIn_29 rfl ?_
          refine e_bipush (v := 6) aL_placeIn_30 (by decide) ?_
          refine e_idiv aL_placeIn_32 (by decide) ?_
          refine e_top (nI_div (b := 6) (by omega) (by decide) (by decide)) ?_
          refine e_goto aL_placeIn_33 ?_
          refine e_bipush (v := 6) aL_placeIn_37 (by decide) ?_
          refine e_irem aL_placeIn_39 (by decide) ?_
          refine e_top (nI_rem (b := 6) (by omega) (by decide) (by decide)) ?_
          have h6 : (s / 6 % 6) < 6 := Nat.mod_lt _ (by decide)
          obtain ⟨o1, o2⟩ := or_q h6
          obtain ⟨p1, p2, p3⟩ := or_p h6 hc
          refine e_istore_n aL_placeIn_40 (Nat.le_of_ble_eq_true rfl) ?_
          refine e_getsO aL_placeIn_41 gL_8 ?_
          refine e_iload_n aL_placeIn_44 rfl ?_
          refine e_aaloadO (i0 := (s / 6 % 6)) aL_placeIn_45 (vin (N := 6) h6) (cl (by omega)) ?_
          refine e_iconst (v := 0) aL_placeIn_46 (by decide) ?_
          refine e_ialoadO (i0 := (s / 6 % 6)) aL_placeIn_47 o1 (by rw [o2]; exact vin (n := 0) (N := 3) (by decide)) ?_
          refine e_iload_n aL_placeIn_48 rfl ?_
          refine e_icmp_ne aL_placeIn_49 (fun c49 => ?_) (fun c49 => ?_)
          · -- 49: taken
            refine e_getsO aL_placeIn_56 gL_8 ?_
            refine e_iload_n aL_placeIn_59 rfl ?_
            refine e_aaloadO (i0 := (s / 6 % 6)) aL_placeIn_60 (vin (N := 6) h6) (cl (by omega)) ?_
            refine e_iconst (v := 1) aL_placeIn_61 (by decide) ?_
            refine e_ialoadO (i0 := (s / 6 % 6)) aL_placeIn_62 o1 (by rw [o2]; exact vin (n := 1) (N := 3) (by decide)) ?_
            refine e_iload_n aL_placeIn_63 rfl ?_
            refine e_icmp_ne aL_placeIn_64 (fun c64 => ?_) (fun c64 => ?_)
            · -- 64: taken
              refine e_iconst (v := 2) aL_placeIn_71 (by decide) ?_
              refine e_ireturn aL_placeIn_72 rfl (Nat.le_refl _) (Nat.le_refl _) ?_
              exact ⟨by rw [pl_y (y := 2) hc]; exact congrArg (fun z => some (vI z)) (p3 c49 c64), rfl⟩
            · -- 64: not taken
              refine e_iconst (v := 1) aL_placeIn_67 (by decide) ?_
              refine e_goto aL_placeIn_68 ?_
              refine e_ireturn aL_placeIn_72 rfl (Nat.le_refl _) (Nat.le_refl _) ?_
              exact ⟨by rw [pl_y (y := 2) hc]; exact congrArg (fun z => some (vI z)) (p2 c49 c64), rfl⟩
          · -- 49: not taken
            refine e_iconst (v := 0) aL_placeIn_52 (by decide) ?_
            refine e_goto aL_placeIn_53 ?_
            refine e_ireturn aL_placeIn_72 rfl (Nat.le_refl _) (Nat.le_refl _) ?_
            exact ⟨by rw [pl_y (y := 2) hc]; exact congrArg (fun z => some (vI z)) (p1 c49), rfl⟩
      · -- 14: not taken
        exact absurd c14 (by decide)
    · -- 1: not taken
      exact absurd c1 (by decide)
  · skip
    refine e_iload_n aL_placeIn_0 rfl ?_
    refine e_if_ne aL_placeIn_1 (fun c1 => ?_) (fun c1 => ?_)
    · -- 1: taken
      skip
      refine e_iload_n aL_placeIn_12 rfl ?_
      refine e_iconst (v := 1) aL_placeIn_13 (by decide) ?_
      refine e_icmp_ne aL_placeIn_14 (fun c14 => ?_) (fun c14 => ?_)
      · -- 14: taken
        skip
        refine e_iload_n aL_placeIn_24 rfl ?_
        refine e_iconst (v := 2) aL_placeIn_25 (by decide) ?_
        refine e_icmp_ne aL_placeIn_26 (fun c26 => ?_) (fun c26 => ?_)
        · -- 26: taken
          skip
          refine e_iload_n aL_placeIn_36 rfl ?_
          refine e_bipush (v := 6) aL_placeIn_37 (by decide) ?_
          refine e_irem aL_placeIn_39 (by decide) ?_
          refine e_top (nI_rem (b := 6) (by omega) (by decide) (by decide)) ?_
          have h6 : (s % 6) < 6 := Nat.mod_lt _ (by decide)
          obtain ⟨o1, o2⟩ := or_q h6
          obtain ⟨p1, p2, p3⟩ := or_p h6 hc
          refine e_istore_n aL_placeIn_40 (Nat.le_of_ble_eq_true rfl) ?_
          refine e_getsO aL_placeIn_41 gL_8 ?_
          refine e_iload_n aL_placeIn_44 rfl ?_
          refine e_aaloadO (i0 := (s % 6)) aL_placeIn_45 (vin (N := 6) h6) (cl (by omega)) ?_
          refine e_iconst (v := 0) aL_placeIn_46 (by decide) ?_
          refine e_ialoadO (i0 := (s % 6)) aL_placeIn_47 o1 (by rw [o2]; exact vin (n := 0) (N := 3) (by decide)) ?_
          refine e_iload_n aL_placeIn_48 rfl ?_
          refine e_icmp_ne aL_placeIn_49 (fun c49 => ?_) (fun c49 => ?_)
          · -- 49: taken
            refine e_getsO aL_placeIn_56 gL_8 ?_
            refine e_iload_n aL_placeIn_59 rfl ?_
            refine e_aaloadO (i0 := (s % 6)) aL_placeIn_60 (vin (N := 6) h6) (cl (by omega)) ?_
            refine e_iconst (v := 1) aL_placeIn_61 (by decide) ?_
            refine e_ialoadO (i0 := (s % 6)) aL_placeIn_62 o1 (by rw [o2]; exact vin (n := 1) (N := 3) (by decide)) ?_
            refine e_iload_n aL_placeIn_63 rfl ?_
            refine e_icmp_ne aL_placeIn_64 (fun c64 => ?_) (fun c64 => ?_)
            · -- 64: taken
              refine e_iconst (v := 2) aL_placeIn_71 (by decide) ?_
              refine e_ireturn aL_placeIn_72 rfl (Nat.le_refl _) (Nat.le_refl _) ?_
              exact ⟨by rw [pl_y (y := 3) hc, show s / stp 3 = s from Nat.div_one s]; exact congrArg (fun z => some (vI z)) (p3 c49 c64), rfl⟩
            · -- 64: not taken
              refine e_iconst (v := 1) aL_placeIn_67 (by decide) ?_
              refine e_goto aL_placeIn_68 ?_
              refine e_ireturn aL_placeIn_72 rfl (Nat.le_refl _) (Nat.le_refl _) ?_
              exact ⟨by rw [pl_y (y := 3) hc, show s / stp 3 = s from Nat.div_one s]; exact congrArg (fun z => some (vI z)) (p2 c49 c64), rfl⟩
          · -- 49: not taken
            refine e_iconst (v := 0) aL_placeIn_52 (by decide) ?_
            refine e_goto aL_placeIn_53 ?_
            refine e_ireturn aL_placeIn_72 rfl (Nat.le_refl _) (Nat.le_refl _) ?_
            exact ⟨by rw [pl_y (y := 3) hc, show s / stp 3 = s from Nat.div_one s]; exact congrArg (fun z => some (vI z)) (p1 c49), rfl⟩
        · -- 26: not taken
          exact absurd c26 (by decide)
      · -- 14: not taken
        exact absurd c14 (by decide)
    · -- 1: not taken
      exact absurd c1 (by decide)
theorem zL_place (X : EX) {h : HP} {s p : Nat} (hs : s < 1296) (hp : p < 12) : Ct X mL_place 1 0 0 [vI (nI s), vI (nI p)] h (Rt (vI (nI (pl s p))) h) := by
  refine ct_of rfl (Nat.le_of_ble_eq_true rfl) ?_
  refine e_iload_n aL_place_0 rfl ?_
  refine e_iload_n aL_place_1 rfl ?_
  refine e_iconst (v := 3) aL_place_2 (by decide) ?_
  refine e_idiv aL_place_3 (by decide) ?_
  refine e_top (nI_div (b := 3) (by omega) (by decide) (by decide)) ?_
  refine e_iload_n aL_place_4 rfl ?_
  refine e_iconst (v := 3) aL_place_5 (by decide) ?_
  refine e_irem aL_place_6 (by decide) ?_
  refine e_top (nI_rem (b := 3) (by omega) (by decide) (by decide)) ?_
  refine e_invsT aL_place_7 kL_14 (zL_placeIn X hs (y := p / 3) (c := p % 3) (by omega) (by omega)) rfl rfl (Nat.le_of_ble_eq_true rfl) (Nat.le_of_ble_eq_true rfl) (Nat.le_refl _) (Nat.le_refl _) (Nat.le_of_ble_eq_true rfl) ?_
  refine e_ireturn aL_place_10 rfl (Nat.le_refl _) (Nat.le_refl _) ?_
  exact ⟨by rw [show p / 3 * 3 + p % 3 = p by omega], rfl⟩
def usV (x k : Int32) : Int32 := (x.toUInt32 >>> (k.toUInt32 &&& Int32.toUInt32 31)).toInt32
def bc1 (x : Int32) : Int32 := x - (usV x 1 &&& 1431655765)
def bc2 (a : Int32) : Int32 := (a &&& 858993459) + (usV a 2 &&& 858993459)
def bc3 (b : Int32) : Int32 := (b + usV b 4) &&& 252645135
def bc4 (c k : Int32) : Int32 := c + usV c k
/-- how many bits a number has, as the platform counts -/
def bcV (x : Int32) : Int32 := bc4 (bc4 (bc3 (bc2 (bc1 x))) 8) 16 &&& 63
theorem zJ6_bitCount_0f7a4 (X : EX) {h : HP} (x : Int32) : Ct X mJ6_bitCount_0f7a4 0 0 0 [vI x] h (Rt (vI (bcV x)) h) := by
  refine ct_of rfl (Nat.le_of_ble_eq_true rfl) ?_
  refine e_iload_n aJ6_bitCount_0f7a4_0 rfl ?_
  refine e_iload_n aJ6_bitCount_0f7a4_1 rfl ?_
  refine e_iconst (v := 1) aJ6_bitCount_0f7a4_2 (by decide) ?_
  refine e_iushr aJ6_bitCount_0f7a4_3 ?_
  refine e_ldcw aJ6_bitCount_0f7a4_4 lJ6_265 ?_
  refine e_iand aJ6_bitCount_0f7a4_7 ?_
  refine e_isub aJ6_bitCount_0f7a4_8 ?_
  refine e_top (v := bc1 x) rfl ?_
  refine e_istore_n aJ6_bitCount_0f7a4_9 (Nat.le_of_ble_eq_true rfl) ?_
  refine e_iload_n aJ6_bitCount_0f7a4_10 rfl ?_
  refine e_ldcw aJ6_bitCount_0f7a4_11 lJ6_266 ?_
  refine e_iand aJ6_bitCount_0f7a4_14 ?_
  refine e_iload_n aJ6_bitCount_0f7a4_15 rfl ?_
  refine e_iconst (v := 2) aJ6_bitCount_0f7a4_16 (by decide) ?_
  refine e_iushr aJ6_bitCount_0f7a4_17 ?_
  refine e_ldcw aJ6_bitCount_0f7a4_18 lJ6_266 ?_
  refine e_iand aJ6_bitCount_0f7a4_21 ?_
  refine e_iadd aJ6_bitCount_0f7a4_22 ?_
  refine e_top (v := bc2 (bc1 x)) rfl ?_
  refine e_istore_n aJ6_bitCount_0f7a4_23 (Nat.le_of_ble_eq_true rfl) ?_
  refine e_iload_n aJ6_bitCount_0f7a4_24 rfl ?_
  refine e_iload_n aJ6_bitCount_0f7a4_25 rfl ?_
  refine e_iconst (v := 4) aJ6_bitCount_0f7a4_26 (by decide) ?_
  refine e_iushr aJ6_bitCount_0f7a4_27 ?_
  refine e_iadd aJ6_bitCount_0f7a4_28 ?_
  refine e_ldcw aJ6_bitCount_0f7a4_29 lJ6_267 ?_
  refine e_iand aJ6_bitCount_0f7a4_32 ?_
  refine e_top (v := bc3 (bc2 (bc1 x))) rfl ?_
  refine e_istore_n aJ6_bitCount_0f7a4_33 (Nat.le_of_ble_eq_true rfl) ?_
  refine e_iload_n aJ6_bitCount_0f7a4_34 rfl ?_
  refine e_iload_n aJ6_bitCount_0f7a4_35 rfl ?_
  refine e_bipush (v := 8) aJ6_bitCount_0f7a4_36 (by decide) ?_
  refine e_iushr aJ6_bitCount_0f7a4_38 ?_
  refine e_iadd aJ6_bitCount_0f7a4_39 ?_
  refine e_top (v := bc4 (bc3 (bc2 (bc1 x))) 8) rfl ?_
  refine e_istore_n aJ6_bitCount_0f7a4_40 (Nat.le_of_ble_eq_true rfl) ?_
  refine e_iload_n aJ6_bitCount_0f7a4_41 rfl ?_
  refine e_iload_n aJ6_bitCount_0f7a4_42 rfl ?_
  refine e_bipush (v := 16) aJ6_bitCount_0f7a4_43 (by decide) ?_
  refine e_iushr aJ6_bitCount_0f7a4_45 ?_
  refine e_iadd aJ6_bitCount_0f7a4_46 ?_
  refine e_top (v := bc4 (bc4 (bc3 (bc2 (bc1 x))) 8) 16) rfl ?_
  refine e_istore_n aJ6_bitCount_0f7a4_47 (Nat.le_of_ble_eq_true rfl) ?_
  refine e_iload_n aJ6_bitCount_0f7a4_48 rfl ?_
  refine e_bipush (v := 63) aJ6_bitCount_0f7a4_49 (by decide) ?_
  refine e_iand aJ6_bitCount_0f7a4_51 ?_
  refine e_ireturn aJ6_bitCount_0f7a4_52 rfl (Nat.le_refl _) (Nat.le_refl _) ?_
  exact ⟨rfl, rfl⟩
