/-! the reference: what tests say, conditions laid (written by wip/whole/g71.py) -/
theorem pl_B {s y c : Nat} (hc : c < 3) : plA (s / stp y % 6) c = pl s (3 * y + c) := by
  unfold plA pl
  rw [show (3 * y + c) / 3 = y by omega, show (3 * y + c) % 3 = c by omega]
def vaN (N9 m : Nat) : Prop := (1000 ≤ m ∧ m < 1036) ∨ (2000 ≤ m ∧ m < 2036) ∨ (3000 ≤ m ∧ m < 3000 + N9)
theorem zX9_isTest (X : EX) {h : HP} (F : Fx h) {M9 : Nat} {DE : Nat → DD} (md : MkD h M9 DE) {m s : Nat} (hs : s < 1296) (hv : vaN M9 m) : Ct X mX9_isTest 7 0 0 [vR (some 109), vI (nI m), vI (nI s)] h (Rt (vI (b2 (tsN DE m s = true))) h) := by
  refine ct_of rfl (Nat.le_of_ble_eq_true rfl) ?_
  have hM := md.2.1
  unfold vaN at hv
  have hm : m < 3012 := by omega
  refine e_iload_n aX9_isTest_0 rfl ?_
  refine e_sipush (v := 3000) aX9_isTest_1 (by decide) ?_
  refine e_icmp_lt aX9_isTest_4 (fun c4 => ?_) (fun c4 => ?_)
  · -- 4: taken
    have q4 : m < 3000 := (nI_ltI (a := m) (b := 3000) (by omega) (by decide)).mp c4
    refine e_iload_n aX9_isTest_18 rfl ?_
    refine e_sipush (v := 1000) aX9_isTest_19 (by decide) ?_
    refine e_irem aX9_isTest_22 (by decide) ?_
    refine e_top (nI_rem (a := m) (b := 1000) (by omega) (by decide) (by decide)) ?_
    refine e_istore_n aX9_isTest_23 (Nat.le_of_ble_eq_true rfl) ?_
    refine e_iload_n aX9_isTest_24 rfl ?_
    refine e_iload_n aX9_isTest_25 rfl ?_
    refine e_bipush (v := 9) aX9_isTest_26 (by decide) ?_
    refine e_idiv aX9_isTest_28 (by decide) ?_
    refine e_top (nI_div (a := m % 1000) (b := 9) (by omega) (by decide) (by decide)) ?_
    refine e_iload_n aX9_isTest_29 rfl ?_
    refine e_iconst (v := 3) aX9_isTest_30 (by decide) ?_
    refine e_idiv aX9_isTest_31 (by decide) ?_
    refine e_top (nI_div (a := m % 1000) (b := 3) (by omega) (by decide) (by decide)) ?_
    refine e_iconst (v := 3) aX9_isTest_32 (by decide) ?_
    refine e_irem aX9_isTest_33 (by decide) ?_
    refine e_top (nI_rem (a := m % 1000 / 3) (b := 3) (by omega) (by decide) (by decide)) ?_
    refine e_invsT aX9_isTest_34 kX9_102 (zX9_placeIn X (s := s) (y := m % 1000 / 9) (c := m % 1000 / 3 % 3) hs (by omega) (by omega)) rfl rfl (Nat.le_of_ble_eq_true rfl) (Nat.le_of_ble_eq_true rfl) (Nat.le_refl _) (Nat.le_refl _) (Nat.le_of_ble_eq_true rfl) ?_
    refine e_top (congrArg nI (pl_B (by omega))) ?_
    refine e_istore aX9_isTest_37 (Nat.le_of_ble_eq_true rfl) ?_
    refine e_iload_n aX9_isTest_39 rfl ?_
    refine e_sipush (v := 2000) aX9_isTest_40 (by decide) ?_
    refine e_icmp_ge aX9_isTest_43 (fun c43 => ?_) (fun c43 => ?_)
    · -- 43: taken
      have q43 : 2000 ≤ m := (nI_leI (a := 2000) (b := m) (by decide) (by omega)).mp c43
      refine e_iload aX9_isTest_70 rfl ?_
      refine e_iload_n aX9_isTest_72 rfl ?_
      refine e_iconst (v := 3) aX9_isTest_73 (by decide) ?_
      refine e_irem aX9_isTest_74 (by decide) ?_
      refine e_top (nI_rem (a := m % 1000) (b := 3) (by omega) (by decide) (by decide)) ?_
      refine e_icmp_ne aX9_isTest_75 (fun c75 => ?_) (fun c75 => ?_)
      · -- 75: taken
        have q75 : ¬ pl s (3 * (m % 1000 / 9) + m % 1000 / 3 % 3) = m % 1000 % 3 := fun z => c75 (congrArg nI z)
        refine e_iconst (v := 0) aX9_isTest_82 (by decide) ?_
        refine e_zreturn aX9_isTest_83 rfl (Or.inl rfl) (Nat.le_refl _) (Nat.le_refl _) ?_
        have e9 : ¬ tsN DE m s = true := by
          unfold tsN
          rw [if_neg (by omega), if_neg (by omega)]
          exact fun z => q75 (of_decide_eq_true z)
        exact ⟨by rw [b2_f e9], rfl⟩
      · -- 75: not taken
        have q75 : pl s (3 * (m % 1000 / 9) + m % 1000 / 3 % 3) = m % 1000 % 3 := (nI_eq (by have := pl_lt s (3 * (m % 1000 / 9) + m % 1000 / 3 % 3); omega) (by omega)).mp c75
        refine e_iconst (v := 1) aX9_isTest_78 (by decide) ?_
        refine e_goto aX9_isTest_79 ?_
        refine e_zreturn aX9_isTest_83 rfl (Or.inr rfl) (Nat.le_refl _) (Nat.le_refl _) ?_
        have e9 : tsN DE m s = true := by
          unfold tsN
          rw [if_neg (by omega), if_neg (by omega)]
          exact decide_eq_true q75
        exact ⟨by rw [b2_t e9], rfl⟩
    · -- 43: not taken
      have q43 : m < 2000 := Nat.not_le.mp (fun z => c43 (nI_le (a := 2000) (b := m) z (by omega)))
      refine e_iload aX9_isTest_46 rfl ?_
      refine e_iload_n aX9_isTest_48 rfl ?_
      refine e_iload_n aX9_isTest_49 rfl ?_
      refine e_bipush (v := 9) aX9_isTest_50 (by decide) ?_
      refine e_idiv aX9_isTest_52 (by decide) ?_
      refine e_top (nI_div (a := m % 1000) (b := 9) (by omega) (by decide) (by decide)) ?_
      refine e_iload_n aX9_isTest_53 rfl ?_
      refine e_iconst (v := 3) aX9_isTest_54 (by decide) ?_
      refine e_irem aX9_isTest_55 (by decide) ?_
      refine e_top (nI_rem (a := m % 1000) (b := 3) (by omega) (by decide) (by decide)) ?_
      refine e_invsT aX9_isTest_56 kX9_102 (zX9_placeIn X (s := s) (y := m % 1000 / 9) (c := m % 1000 % 3) hs (by omega) (by omega)) rfl rfl (Nat.le_of_ble_eq_true rfl) (Nat.le_of_ble_eq_true rfl) (Nat.le_refl _) (Nat.le_refl _) (Nat.le_of_ble_eq_true rfl) ?_
      refine e_top (congrArg nI (pl_B (by omega))) ?_
      refine e_icmp_ge aX9_isTest_59 (fun c59 => ?_) (fun c59 => ?_)
      · -- 59: taken
        have q59 : ¬ pl s (3 * (m % 1000 / 9) + m % 1000 / 3 % 3) < pl s (3 * (m % 1000 / 9) + m % 1000 % 3) := fun z => absurd c59 (nI_ge z (by have := pl_lt s (3 * (m % 1000 / 9) + m % 1000 % 3); omega))
        refine e_iconst (v := 0) aX9_isTest_66 (by decide) ?_
        refine e_goto aX9_isTest_67 ?_
        refine e_zreturn aX9_isTest_83 rfl (Or.inl rfl) (Nat.le_refl _) (Nat.le_refl _) ?_
        have e9 : ¬ tsN DE m s = true := by
          unfold tsN
          rw [if_neg (by omega), if_pos q43]
          exact fun z => q59 (of_decide_eq_true z)
        exact ⟨by rw [b2_f e9], rfl⟩
      · -- 59: not taken
        have q59 : pl s (3 * (m % 1000 / 9) + m % 1000 / 3 % 3) < pl s (3 * (m % 1000 / 9) + m % 1000 % 3) := Nat.not_le.mp (fun z => c59 (nI_le z (by have := pl_lt s (3 * (m % 1000 / 9) + m % 1000 / 3 % 3); omega)))
        refine e_iconst (v := 1) aX9_isTest_62 (by decide) ?_
        refine e_goto aX9_isTest_63 ?_
        refine e_zreturn aX9_isTest_83 rfl (Or.inr rfl) (Nat.le_refl _) (Nat.le_refl _) ?_
        have e9 : tsN DE m s = true := by
          unfold tsN
          rw [if_neg (by omega), if_pos q43]
          exact decide_eq_true q59
        exact ⟨by rw [b2_t e9], rfl⟩
  · -- 4: not taken
    have q4 : 3000 ≤ m := Nat.not_lt.mp (fun z => c4 (nI_lt (a := m) (b := 3000) z (by decide)))
    refine e_aload_n aX9_isTest_7 rfl ?_
    refine e_iload_n aX9_isTest_8 rfl ?_
    refine e_sipush (v := 3000) aX9_isTest_9 (by decide) ?_
    refine e_isub aX9_isTest_12 ?_
    refine e_top (nI_subN (a := m) (b := 3000) q4) ?_
    refine e_iload_n aX9_isTest_13 rfl ?_
    refine e_invvT aX9_isTest_14 kX9_204 (zX9_isLapsing X F (k := m - 3000) (d := DE (m - 3000)) (by omega) hs (md.2.2 _ (by omega))) rfl rfl (fx_is F rfl) (Nat.le_of_ble_eq_true rfl) (Nat.le_of_ble_eq_true rfl) (Nat.le_refl _) (Nat.le_refl _) (Nat.le_of_ble_eq_true rfl) ?_
    refine e_zreturn aX9_isTest_17 rfl b2_b (Nat.le_refl _) (Nat.le_refl _) ?_
    have e9 : tsN DE m s = decide (gv (DE (m - 3000)) s = none) := by
      unfold tsN
      rw [if_pos q4]
    exact ⟨by rw [e9, b2_c decide_eq_true_iff], rfl⟩
/-- the stack of truths, its top first -/
def StB (h : HP) : List Bool → Prop
  | [] => True
  | b :: r => hI h 120 r.length = b2 (b = true) ∧ StB h r
theorem StB_w {h : HP} {j : Nat} {v : Int32} : ∀ {st : List Bool}, StB h st → st.length ≤ j → StB (wI h 120 j v) st
  | [], _, _ => trivial
  | b :: r, k, e => ⟨(wI_i (show r.length ≠ j by rw [List.length_cons] at e; omega)).trans k.1, StB_w k.2 (by rw [List.length_cons] at e; omega)⟩
theorem nar_b {p : Prop} [Decidable p] : vp_nar .boolean (b2 p) = b2 p := by
  rcases b2_b (p := p) with z | z <;> rw [z] <;> decide
def scU (a _i : Nat) : Prop := a = 120
theorem VaC_i {M9 i : Nat} {L : List Int32} (hM : M9 ≤ 24) (va : VaC M9 L) (hi : i < L.length) : (0 ≤ L.getD i 0 ∧ ∃ m, L.getD i 0 = nI m ∧ vaN M9 m) ∨ (¬ 0 ≤ L.getD i 0 ∧ (L.getD i 0 = -1 ∨ L.getD i 0 = -2 ∨ L.getD i 0 = -3)) := by
  have e : L.getD i 0 = L[i] := by rw [List.getD_eq_getElem?_getD, List.getElem?_eq_getElem hi]; rfl
  rcases va (L.getD i 0) (e ▸ List.getElem_mem hi) with z | z | z | ⟨m, z, w⟩
  · exact Or.inr ⟨by rw [z]; decide, Or.inl z⟩
  · exact Or.inr ⟨by rw [z]; decide, Or.inr (Or.inl z)⟩
  · exact Or.inr ⟨by rw [z]; decide, Or.inr (Or.inr z)⟩
  · exact Or.inl ⟨by rw [z]; exact nI_pos' (by omega), m, z, w⟩
theorem drop_c {i : Nat} {L : List Int32} (hi : i < L.length) : L.drop i = L.getD i 0 :: L.drop (i + 1) := by
  rw [List.drop_eq_getElem_cons hi, List.getD_eq_getElem?_getD, List.getElem?_eq_getElem hi]
  rfl
theorem zX9_isTrue (X : EX) {h0 : HP} (F0 : Fx h0) {M9 : Nat} {DE : Nat → DD} (md : MkD h0 M9 DE) {L : List Int32} (cd : CdC h0 L) (hL : L.length ≤ 130) (va : VaC M9 L) {S : Nat → Bool} (ev : EvP DE L S) {s : Nat} (hs : s < 1296) : Ct X mX9_isTrue 8 0 0 [vR (some 109), vI (nI s)] h0 (fun v h' => v = some (vI (b2 (S s = true))) ∧ Sf scU h0 h') := by
  refine ct_of rfl (Nat.le_of_ble_eq_true rfl) ?_
  have hM := md.2.1
  have F := F0
  have loop : ∀ (m : Nat) (i : Nat) (st : List Bool) (hz : HP), i + m = L.length → Sf scU h0 hz → StB hz st → st.length ≤ i → evS DE s (L.drop i) st = some [S s] → Ev X mX9_isTrue 8 0 0 (fun v h' => v = some (vI (b2 (S s = true))) ∧ Sf scU h0 h') 0 0 4 [(0, some (vR (some 109))), (1, some (vI (nI s))), (2, some (vI (nI st.length))), (3, some (vI (nI i)))] [] hz := by
    intro m
    induction m with
    | zero =>
      intro i st hz hk S1 sb hst ev
      have F := S1.F F0
      have cdz : CdC hz L := cd.sf S1 (by unfold scU; omega) (fun i => by unfold scU; omega)
      have mdz : MkD hz M9 DE := md.sf S1 (by unfold scU; omega) (fun i => by unfold scU; omega)
      rw [List.drop_of_length_le (by omega)] at ev
      obtain rfl : st = [S s] := by injection ev
      refine e_iload_n aX9_isTrue_4 rfl ?_
      refine e_aload_n aX9_isTrue_5 rfl ?_
      refine e_getIF aX9_isTrue_6 fX9_291 rfl (fx_is F rfl) cdz.1 ?_
      refine e_icmp_ge aX9_isTrue_9 (fun c9 => ?_) (fun c9 => ?_)
      · -- 9: taken
        refine e_aload_n aX9_isTrue_162 rfl ?_
        refine e_getRF aX9_isTrue_163 fX9_44 rfl (fx_is F rfl) (fx_r (b := 120) F rfl) ?_
        refine e_iconst (v := 0) aX9_isTrue_166 (by decide) ?_
        refine e_zaloadF aX9_isTrue_167 (fx_is F rfl) (fx_n (n := 130) F rfl) (vin (n := 0) (by decide)) (show hI hz 120 (nI 0).toNatClampNeg = b2 (S s = true) from sb.1) ?_
        refine e_zreturn aX9_isTrue_168 rfl b2_b (Nat.le_refl _) (Nat.le_refl _) ?_
        exact ⟨rfl, S1⟩
      · -- 9: not taken
        exact absurd (nI_le (by omega) (by omega)) c9
    | succ m ih =>
      intro i st hz hk S1 sb hst ev
      have F := S1.F F0
      have cdz : CdC hz L := cd.sf S1 (by unfold scU; omega) (fun i => by unfold scU; omega)
      have mdz : MkD hz M9 DE := md.sf S1 (by unfold scU; omega) (fun i => by unfold scU; omega)
      have hi : i < L.length := by omega
      rw [drop_c hi, evS_s] at ev
      refine e_iload_n aX9_isTrue_4 rfl ?_
      refine e_aload_n aX9_isTrue_5 rfl ?_
      refine e_getIF aX9_isTrue_6 fX9_291 rfl (fx_is F rfl) cdz.1 ?_
      refine e_icmp_ge aX9_isTrue_9 (fun c9 => ?_) (fun c9 => ?_)
      · -- 9: taken
        exact absurd c9 (nI_ge (by omega) (by omega))
      · -- 9: not taken
        refine e_aload_n aX9_isTrue_12 rfl ?_
        refine e_getRF aX9_isTrue_13 fX9_41 rfl (fx_is F rfl) (fx_r (b := 119) F rfl) ?_
        refine e_iload_n aX9_isTrue_16 rfl ?_
        refine e_ialoadF aX9_isTrue_17 (fx_is F rfl) (fx_n (n := 130) F rfl) (vin (N := 130) (by omega)) (show hI hz 119 (nI i).toNatClampNeg = L.getD i 0 by rw [cl (by omega)]; exact cdz.2 i (by omega)) ?_
        refine e_if_lt aX9_isTrue_18 (fun c18 => ?_) (fun c18 => ?_)
        · -- 18: taken
          have q18 : L.getD i 0 = -1 ∨ L.getD i 0 = -2 ∨ L.getD i 0 = -3 := by
            rcases VaC_i (by omega) va hi with z | z
            · exact absurd z.1 (Int32.not_le.mpr c18)
            · exact z.2
          rw [if_neg (Int32.not_le.mpr c18)] at ev
          refine e_aload_n aX9_isTrue_44 rfl ?_
          refine e_getRF aX9_isTrue_45 fX9_41 rfl (fx_is F rfl) (fx_r (b := 119) F rfl) ?_
          refine e_iload_n aX9_isTrue_48 rfl ?_
          refine e_ialoadF aX9_isTrue_49 (fx_is F rfl) (fx_n (n := 130) F rfl) (vin (N := 130) (by omega)) (show hI hz 119 (nI i).toNatClampNeg = L.getD i 0 by rw [cl (by omega)]; exact cdz.2 i (by omega)) ?_
          refine e_iconst (v := -1) aX9_isTrue_50 (by decide) ?_
          refine e_icmp_ne aX9_isTrue_51 (fun c51 => ?_) (fun c51 => ?_)
          · -- 51: taken
            have q51 : ¬ L.getD i 0 = -1 := c51
            rw [if_neg q51] at ev
            obtain ⟨b, a, r, rfl⟩ : ∃ b a r, st = b :: a :: r := by
              match st, ev with
              | [], ev => exact absurd ev (by intro w; cases w)
              | [b], ev => exact absurd ev (by intro w; cases w)
              | b :: a :: r, ev => exact ⟨b, a, r, rfl⟩
            replace ev : evS DE s (L.drop (i + 1)) ((if L.getD i 0 = -2 then a && b else a || b) :: r) = some [S s] := ev
            have hst2 : r.length + 2 ≤ i := hst
            refine e_iinc aX9_isTrue_81 rfl rfl (Nat.le_of_ble_eq_true rfl) ?_
            refine e_ls (ls' := [(0, some (vR (some 109))), (1, some (vI (nI s))), (2, some (vI (nI (r.length + 1)))), (3, some (vI (nI i)))]) ⟨rfl, rfl, congrArg (fun x => some (vI x)) ((nI_m1 (r.length + 2)).trans (nI_pred9 (n := r.length + 2) (by omega))), rfl, trivial⟩ ?_
            refine e_aload_n aX9_isTrue_84 rfl ?_
            refine e_getRF aX9_isTrue_85 fX9_44 rfl (fx_is F rfl) (fx_r (b := 120) F rfl) ?_
            refine e_iload_n aX9_isTrue_88 rfl ?_
            refine e_iconst (v := 1) aX9_isTrue_89 (by decide) ?_
            refine e_isub aX9_isTrue_90 ?_
            refine e_top (nI_pred9 (n := r.length + 1) (by omega)) ?_
            rw [Nat.add_sub_cancel]
            refine e_aload_n aX9_isTrue_91 rfl ?_
            refine e_getRF aX9_isTrue_92 fX9_41 rfl (fx_is F rfl) (fx_r (b := 119) F rfl) ?_
            refine e_iload_n aX9_isTrue_95 rfl ?_
            refine e_ialoadF aX9_isTrue_96 (fx_is F rfl) (fx_n (n := 130) F rfl) (vin (N := 130) (by omega)) (show hI hz 119 (nI i).toNatClampNeg = L.getD i 0 by rw [cl (by omega)]; exact cdz.2 i (by omega)) ?_
            refine e_bipush (v := -2) aX9_isTrue_97 (by decide) ?_
            refine e_icmp_ne aX9_isTrue_99 (fun c99 => ?_) (fun c99 => ?_)
            · -- 99: taken
              have q99 : ¬ L.getD i 0 = -2 := c99
              refine e_aload_n aX9_isTrue_130 rfl ?_
              refine e_getRF aX9_isTrue_131 fX9_44 rfl (fx_is F rfl) (fx_r (b := 120) F rfl) ?_
              refine e_iload_n aX9_isTrue_134 rfl ?_
              refine e_iconst (v := 1) aX9_isTrue_135 (by decide) ?_
              refine e_isub aX9_isTrue_136 ?_
              refine e_top (nI_pred9 (n := r.length + 1) (by omega)) ?_
              rw [Nat.add_sub_cancel]
              refine e_zaloadF aX9_isTrue_137 (fx_is F rfl) (fx_n (n := 130) F rfl) (vin (N := 130) (by omega)) (show hI hz 120 (nI r.length).toNatClampNeg = b2 (a = true) by rw [cl (by omega)]; exact sb.2.1) ?_
              refine e_if_ne aX9_isTrue_138 (fun c138 => ?_) (fun c138 => ?_)
              · -- 138: taken
                have q138 : a = true := Decidable.of_not_not (fun z => c138 (b2_f z))
                refine e_iconst (v := 1) aX9_isTrue_150 (by decide) ?_
                refine e_goto aX9_isTrue_151 ?_
                refine e_zastoreF aX9_isTrue_155 (fx_is F rfl) (fx_n (n := 130) F rfl) (vin (N := 130) (by omega)) ?_
                refine e_iinc aX9_isTrue_156 rfl rfl (Nat.le_of_ble_eq_true rfl) ?_
                refine e_goto aX9_isTrue_159 ?_
                have qb : (a || b) = true := by rw [show a = true from q138]; rfl
                rw [if_neg q99] at ev
                rw [cl (n := r.length) (by omega), show vp_nar .boolean 1 = b2 ((a || b) = true) by rw [qb]; decide]
                refine e_ls (ls' := [(0, some (vR (some 109))), (1, some (vI (nI s))), (2, some (vI (nI ((a || b) :: r).length))), (3, some (vI (nI (i + 1))))]) ⟨rfl, rfl, rfl, congrArg (fun x => some (vI x)) (nI_1 i), trivial⟩ ?_
                exact ih (i + 1) ((a || b) :: r) _ (by omega) (S1.wI rfl) ⟨wI_s, StB_w sb.2.2 (Nat.le_refl _)⟩ (by have : (b :: a :: r).length = r.length + 2 := rfl; have : ((a || b) :: r).length = r.length + 1 := rfl; omega) ev
              · -- 138: not taken
                have q138 : ¬ a = true := b2_0.mp c138
                refine e_aload_n aX9_isTrue_141 rfl ?_
                refine e_getRF aX9_isTrue_142 fX9_44 rfl (fx_is F rfl) (fx_r (b := 120) F rfl) ?_
                refine e_iload_n aX9_isTrue_145 rfl ?_
                refine e_zaloadF aX9_isTrue_146 (fx_is F rfl) (fx_n (n := 130) F rfl) (vin (N := 130) (by omega)) (show hI hz 120 (nI (r.length + 1)).toNatClampNeg = b2 (b = true) by rw [cl (by omega)]; exact sb.1) ?_
                refine e_if_eq aX9_isTrue_147 (fun c147 => ?_) (fun c147 => ?_)
                · -- 147: taken
                  have q147 : ¬ b = true := b2_0.mp c147
                  refine e_iconst (v := 0) aX9_isTrue_154 (by decide) ?_
                  refine e_zastoreF aX9_isTrue_155 (fx_is F rfl) (fx_n (n := 130) F rfl) (vin (N := 130) (by omega)) ?_
                  refine e_iinc aX9_isTrue_156 rfl rfl (Nat.le_of_ble_eq_true rfl) ?_
                  refine e_goto aX9_isTrue_159 ?_
                  have qb : (a || b) = false := by rw [show a = false from Bool.eq_false_iff.mpr q138, show b = false from Bool.eq_false_iff.mpr q147]; rfl
                  rw [if_neg q99] at ev
                  rw [cl (n := r.length) (by omega), show vp_nar .boolean 0 = b2 ((a || b) = true) by rw [qb]; decide]
                  refine e_ls (ls' := [(0, some (vR (some 109))), (1, some (vI (nI s))), (2, some (vI (nI ((a || b) :: r).length))), (3, some (vI (nI (i + 1))))]) ⟨rfl, rfl, rfl, congrArg (fun x => some (vI x)) (nI_1 i), trivial⟩ ?_
                  exact ih (i + 1) ((a || b) :: r) _ (by omega) (S1.wI rfl) ⟨wI_s, StB_w sb.2.2 (Nat.le_refl _)⟩ (by have : (b :: a :: r).length = r.length + 2 := rfl; have : ((a || b) :: r).length = r.length + 1 := rfl; omega) ev
                · -- 147: not taken
                  have q147 : b = true := Decidable.of_not_not (fun z => c147 (b2_0.mpr z))
                  refine e_iconst (v := 1) aX9_isTrue_150 (by decide) ?_
                  refine e_goto aX9_isTrue_151 ?_
                  refine e_zastoreF aX9_isTrue_155 (fx_is F rfl) (fx_n (n := 130) F rfl) (vin (N := 130) (by omega)) ?_
                  refine e_iinc aX9_isTrue_156 rfl rfl (Nat.le_of_ble_eq_true rfl) ?_
                  refine e_goto aX9_isTrue_159 ?_
                  have qb : (a || b) = true := by rw [show b = true from q147, Bool.or_true]
                  rw [if_neg q99] at ev
                  rw [cl (n := r.length) (by omega), show vp_nar .boolean 1 = b2 ((a || b) = true) by rw [qb]; decide]
                  refine e_ls (ls' := [(0, some (vR (some 109))), (1, some (vI (nI s))), (2, some (vI (nI ((a || b) :: r).length))), (3, some (vI (nI (i + 1))))]) ⟨rfl, rfl, rfl, congrArg (fun x => some (vI x)) (nI_1 i), trivial⟩ ?_
                  exact ih (i + 1) ((a || b) :: r) _ (by omega) (S1.wI rfl) ⟨wI_s, StB_w sb.2.2 (Nat.le_refl _)⟩ (by have : (b :: a :: r).length = r.length + 2 := rfl; have : ((a || b) :: r).length = r.length + 1 := rfl; omega) ev
            · -- 99: not taken
              have q99 : L.getD i 0 = -2 := c99
              refine e_aload_n aX9_isTrue_102 rfl ?_
              refine e_getRF aX9_isTrue_103 fX9_44 rfl (fx_is F rfl) (fx_r (b := 120) F rfl) ?_
              refine e_iload_n aX9_isTrue_106 rfl ?_
              refine e_iconst (v := 1) aX9_isTrue_107 (by decide) ?_
              refine e_isub aX9_isTrue_108 ?_
              refine e_top (nI_pred9 (n := r.length + 1) (by omega)) ?_
              rw [Nat.add_sub_cancel]
              refine e_zaloadF aX9_isTrue_109 (fx_is F rfl) (fx_n (n := 130) F rfl) (vin (N := 130) (by omega)) (show hI hz 120 (nI r.length).toNatClampNeg = b2 (a = true) by rw [cl (by omega)]; exact sb.2.1) ?_
              refine e_if_eq aX9_isTrue_110 (fun c110 => ?_) (fun c110 => ?_)
              · -- 110: taken
                have q110 : ¬ a = true := b2_0.mp c110
                refine e_iconst (v := 0) aX9_isTrue_126 (by decide) ?_
                refine e_goto aX9_isTrue_127 ?_
                refine e_zastoreF aX9_isTrue_155 (fx_is F rfl) (fx_n (n := 130) F rfl) (vin (N := 130) (by omega)) ?_
                refine e_iinc aX9_isTrue_156 rfl rfl (Nat.le_of_ble_eq_true rfl) ?_
                refine e_goto aX9_isTrue_159 ?_
                have qb : (a && b) = false := by rw [show a = false from Bool.eq_false_iff.mpr q110]; rfl
                rw [if_pos q99] at ev
                rw [cl (n := r.length) (by omega), show vp_nar .boolean 0 = b2 ((a && b) = true) by rw [qb]; decide]
                refine e_ls (ls' := [(0, some (vR (some 109))), (1, some (vI (nI s))), (2, some (vI (nI ((a && b) :: r).length))), (3, some (vI (nI (i + 1))))]) ⟨rfl, rfl, rfl, congrArg (fun x => some (vI x)) (nI_1 i), trivial⟩ ?_
                exact ih (i + 1) ((a && b) :: r) _ (by omega) (S1.wI rfl) ⟨wI_s, StB_w sb.2.2 (Nat.le_refl _)⟩ (by have : (b :: a :: r).length = r.length + 2 := rfl; have : ((a && b) :: r).length = r.length + 1 := rfl; omega) ev
              · -- 110: not taken
                have q110 : a = true := Decidable.of_not_not (fun z => c110 (b2_0.mpr z))
                refine e_aload_n aX9_isTrue_113 rfl ?_
                refine e_getRF aX9_isTrue_114 fX9_44 rfl (fx_is F rfl) (fx_r (b := 120) F rfl) ?_
                refine e_iload_n aX9_isTrue_117 rfl ?_
                refine e_zaloadF aX9_isTrue_118 (fx_is F rfl) (fx_n (n := 130) F rfl) (vin (N := 130) (by omega)) (show hI hz 120 (nI (r.length + 1)).toNatClampNeg = b2 (b = true) by rw [cl (by omega)]; exact sb.1) ?_
                refine e_if_eq aX9_isTrue_119 (fun c119 => ?_) (fun c119 => ?_)
                · -- 119: taken
                  have q119 : ¬ b = true := b2_0.mp c119
                  refine e_iconst (v := 0) aX9_isTrue_126 (by decide) ?_
                  refine e_goto aX9_isTrue_127 ?_
                  refine e_zastoreF aX9_isTrue_155 (fx_is F rfl) (fx_n (n := 130) F rfl) (vin (N := 130) (by omega)) ?_
                  refine e_iinc aX9_isTrue_156 rfl rfl (Nat.le_of_ble_eq_true rfl) ?_
                  refine e_goto aX9_isTrue_159 ?_
                  have qb : (a && b) = false := by rw [show b = false from Bool.eq_false_iff.mpr q119, Bool.and_false]
                  rw [if_pos q99] at ev
                  rw [cl (n := r.length) (by omega), show vp_nar .boolean 0 = b2 ((a && b) = true) by rw [qb]; decide]
                  refine e_ls (ls' := [(0, some (vR (some 109))), (1, some (vI (nI s))), (2, some (vI (nI ((a && b) :: r).length))), (3, some (vI (nI (i + 1))))]) ⟨rfl, rfl, rfl, congrArg (fun x => some (vI x)) (nI_1 i), trivial⟩ ?_
                  exact ih (i + 1) ((a && b) :: r) _ (by omega) (S1.wI rfl) ⟨wI_s, StB_w sb.2.2 (Nat.le_refl _)⟩ (by have : (b :: a :: r).length = r.length + 2 := rfl; have : ((a && b) :: r).length = r.length + 1 := rfl; omega) ev
                · -- 119: not taken
                  have q119 : b = true := Decidable.of_not_not (fun z => c119 (b2_0.mpr z))
                  refine e_iconst (v := 1) aX9_isTrue_122 (by decide) ?_
                  refine e_goto aX9_isTrue_123 ?_
                  refine e_zastoreF aX9_isTrue_155 (fx_is F rfl) (fx_n (n := 130) F rfl) (vin (N := 130) (by omega)) ?_
                  refine e_iinc aX9_isTrue_156 rfl rfl (Nat.le_of_ble_eq_true rfl) ?_
                  refine e_goto aX9_isTrue_159 ?_
                  have qb : (a && b) = true := by rw [show a = true from q110, show b = true from q119]; rfl
                  rw [if_pos q99] at ev
                  rw [cl (n := r.length) (by omega), show vp_nar .boolean 1 = b2 ((a && b) = true) by rw [qb]; decide]
                  refine e_ls (ls' := [(0, some (vR (some 109))), (1, some (vI (nI s))), (2, some (vI (nI ((a && b) :: r).length))), (3, some (vI (nI (i + 1))))]) ⟨rfl, rfl, rfl, congrArg (fun x => some (vI x)) (nI_1 i), trivial⟩ ?_
                  exact ih (i + 1) ((a && b) :: r) _ (by omega) (S1.wI rfl) ⟨wI_s, StB_w sb.2.2 (Nat.le_refl _)⟩ (by have : (b :: a :: r).length = r.length + 2 := rfl; have : ((a && b) :: r).length = r.length + 1 := rfl; omega) ev
          · -- 51: not taken
            have q51 : L.getD i 0 = -1 := c51
            rw [if_pos q51] at ev
            obtain ⟨b, r, rfl⟩ : ∃ b r, st = b :: r := by
              match st, ev with
              | [], ev => exact absurd ev (by intro w; cases w)
              | b :: r, ev => exact ⟨b, r, rfl⟩
            replace ev : evS DE s (L.drop (i + 1)) ((!b) :: r) = some [S s] := ev
            have hst2 : r.length + 1 ≤ i := hst
            refine e_aload_n aX9_isTrue_54 rfl ?_
            refine e_getRF aX9_isTrue_55 fX9_44 rfl (fx_is F rfl) (fx_r (b := 120) F rfl) ?_
            refine e_iload_n aX9_isTrue_58 rfl ?_
            refine e_iconst (v := 1) aX9_isTrue_59 (by decide) ?_
            refine e_isub aX9_isTrue_60 ?_
            refine e_top (nI_pred9 (n := r.length + 1) (by omega)) ?_
            rw [Nat.add_sub_cancel]
            refine e_aload_n aX9_isTrue_61 rfl ?_
            refine e_getRF aX9_isTrue_62 fX9_44 rfl (fx_is F rfl) (fx_r (b := 120) F rfl) ?_
            refine e_iload_n aX9_isTrue_65 rfl ?_
            refine e_iconst (v := 1) aX9_isTrue_66 (by decide) ?_
            refine e_isub aX9_isTrue_67 ?_
            refine e_top (nI_pred9 (n := r.length + 1) (by omega)) ?_
            rw [Nat.add_sub_cancel]
            refine e_zaloadF aX9_isTrue_68 (fx_is F rfl) (fx_n (n := 130) F rfl) (vin (N := 130) (by omega)) (show hI hz 120 (nI r.length).toNatClampNeg = b2 (b = true) by rw [cl (by omega)]; exact sb.1) ?_
            refine e_if_ne aX9_isTrue_69 (fun c69 => ?_) (fun c69 => ?_)
            · -- 69: taken
              have q69 : b = true := Decidable.of_not_not (fun z => c69 (b2_f z))
              refine e_iconst (v := 0) aX9_isTrue_76 (by decide) ?_
              refine e_zastoreF aX9_isTrue_77 (fx_is F rfl) (fx_n (n := 130) F rfl) (vin (N := 130) (by omega)) ?_
              refine e_goto aX9_isTrue_78 ?_
              refine e_iinc aX9_isTrue_156 rfl rfl (Nat.le_of_ble_eq_true rfl) ?_
              refine e_goto aX9_isTrue_159 ?_
              have qb : (!b) = false := by rw [show b = true from q69]; rfl
              rw [cl (n := r.length) (by omega), show vp_nar .boolean 0 = b2 ((!b) = true) by rw [qb]; decide]
              refine e_ls (ls' := [(0, some (vR (some 109))), (1, some (vI (nI s))), (2, some (vI (nI ((!b) :: r).length))), (3, some (vI (nI (i + 1))))]) ⟨rfl, rfl, rfl, congrArg (fun x => some (vI x)) (nI_1 i), trivial⟩ ?_
              exact ih (i + 1) ((!b) :: r) _ (by omega) (S1.wI rfl) ⟨wI_s, StB_w sb.2 (Nat.le_refl _)⟩ (Nat.le_succ_of_le hst) ev
            · -- 69: not taken
              have q69 : ¬ b = true := b2_0.mp c69
              refine e_iconst (v := 1) aX9_isTrue_72 (by decide) ?_
              refine e_goto aX9_isTrue_73 ?_
              refine e_zastoreF aX9_isTrue_77 (fx_is F rfl) (fx_n (n := 130) F rfl) (vin (N := 130) (by omega)) ?_
              refine e_goto aX9_isTrue_78 ?_
              refine e_iinc aX9_isTrue_156 rfl rfl (Nat.le_of_ble_eq_true rfl) ?_
              refine e_goto aX9_isTrue_159 ?_
              have qb : (!b) = true := by rw [show b = false from Bool.eq_false_iff.mpr q69]; rfl
              rw [cl (n := r.length) (by omega), show vp_nar .boolean 1 = b2 ((!b) = true) by rw [qb]; decide]
              refine e_ls (ls' := [(0, some (vR (some 109))), (1, some (vI (nI s))), (2, some (vI (nI ((!b) :: r).length))), (3, some (vI (nI (i + 1))))]) ⟨rfl, rfl, rfl, congrArg (fun x => some (vI x)) (nI_1 i), trivial⟩ ?_
              exact ih (i + 1) ((!b) :: r) _ (by omega) (S1.wI rfl) ⟨wI_s, StB_w sb.2 (Nat.le_refl _)⟩ (Nat.le_succ_of_le hst) ev
        · -- 18: not taken
          obtain ⟨m, hm, hv⟩ : ∃ m, L.getD i 0 = nI m ∧ vaN M9 m := by
            rcases VaC_i (by omega) va hi with z | z
            · exact z.2
            · exact absurd (Int32.not_lt.mp c18) z.1
          have hm9 : m < 3024 := by unfold vaN at hv; omega
          rw [if_pos (Int32.not_lt.mp c18), hm, cl (n := m) (by omega)] at ev
          refine e_aload_n aX9_isTrue_21 rfl ?_
          refine e_getRF aX9_isTrue_22 fX9_44 rfl (fx_is F rfl) (fx_r (b := 120) F rfl) ?_
          refine e_iload_n aX9_isTrue_25 rfl ?_
          refine e_aload_n aX9_isTrue_26 rfl ?_
          refine e_aload_n aX9_isTrue_27 rfl ?_
          refine e_getRF aX9_isTrue_28 fX9_41 rfl (fx_is F rfl) (fx_r (b := 119) F rfl) ?_
          refine e_iload_n aX9_isTrue_31 rfl ?_
          refine e_ialoadF aX9_isTrue_32 (fx_is F rfl) (fx_n (n := 130) F rfl) (vin (N := 130) (by omega)) (show hI hz 119 (nI i).toNatClampNeg = L.getD i 0 by rw [cl (by omega)]; exact cdz.2 i (by omega)) ?_
          rw [hm]
          refine e_iload_n aX9_isTrue_33 rfl ?_
          refine e_invvT aX9_isTrue_34 kX9_325 (zX9_isTest X F mdz hs hv) rfl rfl (fx_is F rfl) (Nat.le_of_ble_eq_true rfl) (Nat.le_of_ble_eq_true rfl) (Nat.le_refl _) (Nat.le_refl _) (Nat.le_of_ble_eq_true rfl) ?_
          refine e_zastoreF aX9_isTrue_37 (fx_is F rfl) (fx_n (n := 130) F rfl) (vin (N := 130) (by omega)) ?_
          refine e_iinc aX9_isTrue_38 rfl rfl (Nat.le_of_ble_eq_true rfl) ?_
          refine e_goto aX9_isTrue_41 ?_
          refine e_iinc aX9_isTrue_156 rfl rfl (Nat.le_of_ble_eq_true rfl) ?_
          refine e_goto aX9_isTrue_159 ?_
          rw [cl (n := st.length) (by omega), nar_b]
          refine e_ls (ls' := [(0, some (vR (some 109))), (1, some (vI (nI s))), (2, some (vI (nI (tsN DE m s :: st).length))), (3, some (vI (nI (i + 1))))]) ⟨rfl, rfl, congrArg (fun x => some (vI x)) (nI_1 st.length), congrArg (fun x => some (vI x)) (nI_1 i), trivial⟩ ?_
          exact ih (i + 1) (tsN DE m s :: st) _ (by omega) (S1.wI rfl) ⟨wI_s, StB_w sb (Nat.le_refl _)⟩ (by show st.length + 1 ≤ i + 1; omega) ev
  refine e_iconst (v := 0) aX9_isTrue_0 (by decide) ?_
  refine e_istore_n aX9_isTrue_1 (Nat.le_of_ble_eq_true rfl) ?_
  refine e_iconst (v := 0) aX9_isTrue_2 (by decide) ?_
  refine e_istore_n aX9_isTrue_3 (Nat.le_of_ble_eq_true rfl) ?_
  refine e_ls (ls' := [(0, some (vR (some 109))), (1, some (vI (nI s))), (2, some (vI (nI ([] : List Bool).length))), (3, some (vI (nI 0)))]) ⟨rfl, rfl, rfl, rfl, trivial⟩ ?_
  exact loop L.length 0 [] h0 (by omega) (Sf.rf h0) trivial (Nat.le_refl _) (ev s hs [])
def scV (M9 a i : Nat) : Prop := a = 120 ∨ (a = 113 ∧ 41 * M9 ≤ i)
theorem bt1 : ∀ j, j < 32 → btI 1 j = decide (j = 0) := by decide +kernel
theorem bt0 : ∀ j, j < 32 → btI 0 j = false := by decide +kernel
theorem lyc_s {hz : HP} {M9 s : Nat} {S : Nat → Bool} {v : Int32} (hs : s < 1296) (q : ∀ t, t < 1296 → btI (hI hz 113 (41 * M9 + t / 32)) (t % 32) = (decide (t < s) && S t)) (hv : v = if S s = true then (1 : Int32) <<< (nI (s % 32) &&& 31) else 0) : ∀ t, t < 1296 → btI (hI (wI hz 113 (41 * M9 + s / 32) (hI hz 113 (41 * M9 + s / 32) ||| v)) 113 (41 * M9 + t / 32)) (t % 32) = (decide (t < s + 1) && S t) := by
  intro t ht
  by_cases e : t / 32 = s / 32
  · rw [e, wI_s, btI_or, ← e, q t ht, hv]
    by_cases z : S s = true
    · rw [if_pos z, btI_shl (by omega) (by omega), bt1 _ (by omega)]
      by_cases w : t = s
      · subst w
        rw [z, decide_eq_true (Nat.le_refl _), decide_eq_true (show t % 32 - t % 32 = 0 by omega), decide_eq_true (show t < t + 1 by omega)]
        simp
      · have e1 : (decide (s % 32 ≤ t % 32) && decide (t % 32 - s % 32 = 0)) = false := by
          rw [Bool.and_eq_false_iff]
          rcases Nat.lt_or_ge (t % 32) (s % 32) with x | x
          · exact Or.inl (decide_eq_false (by omega))
          · exact Or.inr (decide_eq_false (by omega))
        rw [e1, Bool.or_false, show decide (t < s + 1) = decide (t < s) from decide_eq_decide.mpr (by omega)]
    · rw [if_neg z, bt0 _ (by omega), Bool.or_false]
      by_cases w : t = s
      · subst w
        rw [Bool.eq_false_iff.mpr z, Bool.and_false, Bool.and_false]
      · rw [show decide (t < s + 1) = decide (t < s) from decide_eq_decide.mpr (by omega)]
  · rw [wI_i (by omega), q t ht, show decide (t < s + 1) = decide (t < s) from decide_eq_decide.mpr (by omega)]
theorem zX9_laysCondition (X : EX) {h0 : HP} (F0 : Fx h0) {M9 : Nat} {DE : Nat → DD} (md : MkD h0 M9 DE) {L : List Int32} (cd : CdC h0 L) (hL : L.length ≤ 130) (va : VaC M9 L) {S : Nat → Bool} (ev : EvP DE L S) (hM9 : M9 < 12) : Ct X mX9_laysCondition 9 0 0 [vR (some 109)] h0 (fun v h' => v = none ∧ Sf (scV M9) h0 h' ∧ MdB h' M9 S) := by
  refine ct_of rfl (Nat.le_of_ble_eq_true rfl) ?_
  have F := F0
  have lq : ∀ (m : Nat) (s : Nat) (hz : HP), s + m = 1296 → Sf (scV M9) h0 hz → (∀ t, t < 1296 → btI (hI hz 113 (41 * M9 + t / 32)) (t % 32) = (decide (t < s) && S t)) → Ev X mX9_laysCondition 9 0 0 (fun v h' => v = none ∧ Sf (scV M9) h0 h' ∧ MdB h' M9 S) 0 0 31 [(0, some (vR (some 109))), (1, some (vI (nI s)))] [] hz := by
    intro m
    induction m with
    | zero =>
      intro s hz hk S1 Z1
      have F := S1.F F0
      have hm : hI hz 109 4 = nI M9 := (S1.2 _ _ (by unfold scV; omega)).trans md.1
      refine e_iload_n aX9_laysCondition_31 rfl ?_
      refine e_sipush (v := 1296) aX9_laysCondition_32 (by decide) ?_
      refine e_icmp_ge aX9_laysCondition_35 (fun c35 => ?_) (fun c35 => ?_)
      · -- 35: taken
        refine e_return aX9_laysCondition_82 rfl (Nat.le_refl _) (Nat.le_refl _) ?_
        exact ⟨rfl, S1, fun t ht => by rw [Z1 t ht, decide_eq_true (show t < s by omega)]; rfl⟩
      · -- 35: not taken
        exact absurd (nI_le (a := 1296) (b := s) (by omega) (by omega)) c35
    | succ m ih =>
      intro s hz hk S1 Z1
      have F := S1.F F0
      have hm : hI hz 109 4 = nI M9 := (S1.2 _ _ (by unfold scV; omega)).trans md.1
      have cdz : CdC hz L := cd.sf S1 (by unfold scV; omega) (fun i => by unfold scV; omega)
      have mdz : MkD hz M9 DE := md.keep hm (fun i _ => S1.2 _ _ (by unfold scV; omega)) (fun i hi => S1.2 _ _ (by unfold scV; omega))
      refine e_iload_n aX9_laysCondition_31 rfl ?_
      refine e_sipush (v := 1296) aX9_laysCondition_32 (by decide) ?_
      refine e_icmp_ge aX9_laysCondition_35 (fun c35 => ?_) (fun c35 => ?_)
      · -- 35: taken
        exact absurd c35 (nI_ge (a := s) (b := 1296) (by omega) (by decide))
      · -- 35: not taken
        refine e_aload_n aX9_laysCondition_38 rfl ?_
        refine e_getRF aX9_laysCondition_39 fX9_23 rfl (fx_is F rfl) (fx_r (b := 113) F rfl) ?_
        refine e_bipush (v := 41) aX9_laysCondition_42 (by decide) ?_
        refine e_aload_n aX9_laysCondition_44 rfl ?_
        refine e_getIF aX9_laysCondition_45 fX9_89 rfl (fx_is F rfl) hm ?_
        refine e_imul aX9_laysCondition_48 ?_
        refine e_top (nI_mul 41 M9) ?_
        refine e_iload_n aX9_laysCondition_49 rfl ?_
        refine e_bipush (v := 32) aX9_laysCondition_50 (by decide) ?_
        refine e_idiv aX9_laysCondition_52 (by decide) ?_
        refine e_top (nI_div (a := s) (b := 32) (by omega) (by decide) (by decide)) ?_
        refine e_iadd aX9_laysCondition_53 ?_
        refine e_top (nI_add _ _) ?_
        refine e_dup2 aX9_laysCondition_54 rfl rfl ?_
        refine e_ialoadF aX9_laysCondition_55 (fx_is F rfl) (fx_n (n := 492) F rfl) (vin (N := 492) (by omega)) (show hI hz 113 (nI (41 * M9 + s / 32)).toNatClampNeg = hI hz 113 (41 * M9 + s / 32) by rw [cl (by omega)]) ?_
        refine e_aload_n aX9_laysCondition_56 rfl ?_
        refine e_iload_n aX9_laysCondition_57 rfl ?_
        refine e_invv aX9_laysCondition_58 kX9_328 (zX9_isTrue X F mdz cdz hL va ev (s := s) (by omega)) rfl rfl (fx_is F rfl) (Nat.le_of_ble_eq_true rfl) (Nat.le_of_ble_eq_true rfl) (Nat.le_refl _) (Nat.le_refl _) (Nat.le_of_ble_eq_true rfl) ?_
        rintro v h2 ⟨rfl, S2⟩
        have F := S2.F F
        refine e_if_eq aX9_laysCondition_61 (fun c61 => ?_) (fun c61 => ?_)
        · -- 61: taken
          have q61 := b2_0.mp c61
          refine e_iconst (v := 0) aX9_laysCondition_73 (by decide) ?_
          refine e_ior aX9_laysCondition_74 ?_
          refine e_iastoreF aX9_laysCondition_75 (fx_is F rfl) (fx_n (n := 492) F rfl) (vin (N := 492) (by omega)) ?_
          rw [cl (by omega)]
          refine e_iinc aX9_laysCondition_76 rfl rfl (Nat.le_of_ble_eq_true rfl) ?_
          refine e_goto aX9_laysCondition_79 ?_
          have ev9 : 0 = if S s = true then (1 : Int32) <<< (nI (s % 32) &&& 31) else 0 := by rw [if_neg q61]
          have e9 : hI h2 113 (41 * M9 + s / 32) = hI hz 113 (41 * M9 + s / 32) := S2.2 _ _ (by unfold scU; omega)
          rw [← e9]
          refine e_ls (ls' := [(0, some (vR (some 109))), (1, some (vI (nI (s + 1))))]) ⟨rfl, congrArg (fun x => some (vI x)) (nI_1 s), trivial⟩ ?_
          exact ih (s + 1) _ (by omega) ((S1.tr (S2.mono (fun a i z => Or.inl z))).wI (Or.inr ⟨rfl, by omega⟩)) (lyc_s (by omega) (fun t ht => (congrArg (fun x => btI x (t % 32)) (S2.2 _ _ (by unfold scU; omega))).trans (Z1 t ht)) ev9)
        · -- 61: not taken
          have q61 := Decidable.of_not_not (fun z => c61 (b2_0.mpr z))
          refine e_iconst (v := 1) aX9_laysCondition_64 (by decide) ?_
          refine e_iload_n aX9_laysCondition_65 rfl ?_
          refine e_bipush (v := 32) aX9_laysCondition_66 (by decide) ?_
          refine e_irem aX9_laysCondition_68 (by decide) ?_
          refine e_top (nI_rem (a := s) (b := 32) (by omega) (by decide) (by decide)) ?_
          refine e_ishl aX9_laysCondition_69 ?_
          refine e_goto aX9_laysCondition_70 ?_
          refine e_ior aX9_laysCondition_74 ?_
          refine e_iastoreF aX9_laysCondition_75 (fx_is F rfl) (fx_n (n := 492) F rfl) (vin (N := 492) (by omega)) ?_
          rw [cl (by omega)]
          refine e_iinc aX9_laysCondition_76 rfl rfl (Nat.le_of_ble_eq_true rfl) ?_
          refine e_goto aX9_laysCondition_79 ?_
          have ev9 : ((1 : Int32) <<< (nI (s % 32) &&& 31)) = if S s = true then (1 : Int32) <<< (nI (s % 32) &&& 31) else 0 := by rw [if_pos q61]
          have e9 : hI h2 113 (41 * M9 + s / 32) = hI hz 113 (41 * M9 + s / 32) := S2.2 _ _ (by unfold scU; omega)
          rw [← e9]
          refine e_ls (ls' := [(0, some (vR (some 109))), (1, some (vI (nI (s + 1))))]) ⟨rfl, congrArg (fun x => some (vI x)) (nI_1 s), trivial⟩ ?_
          exact ih (s + 1) _ (by omega) ((S1.tr (S2.mono (fun a i z => Or.inl z))).wI (Or.inr ⟨rfl, by omega⟩)) (lyc_s (by omega) (fun t ht => (congrArg (fun x => btI x (t % 32)) (S2.2 _ _ (by unfold scU; omega))).trans (Z1 t ht)) ev9)
  have lz : ∀ (m : Nat) (k : Nat) (hz : HP), k + m = 41 → Sf (scV M9) h0 hz → (∀ j, j < k → hI hz 113 (41 * M9 + j) = 0) → Ev X mX9_laysCondition 9 0 0 (fun v h' => v = none ∧ Sf (scV M9) h0 h' ∧ MdB h' M9 S) 0 0 2 [(0, some (vR (some 109))), (1, some (vI (nI k)))] [] hz := by
    intro m
    induction m with
    | zero =>
      intro k hz hk S1 Z1
      have F := S1.F F0
      have hm : hI hz 109 4 = nI M9 := (S1.2 _ _ (by unfold scV; omega)).trans md.1
      obtain rfl : k = 41 := by omega
      refine e_iload_n aX9_laysCondition_2 rfl ?_
      refine e_bipush (v := 41) aX9_laysCondition_3 (by decide) ?_
      refine e_icmp_ge aX9_laysCondition_5 (fun c5 => ?_) (fun c5 => ?_)
      · -- 5: taken
        refine e_iconst (v := 0) aX9_laysCondition_29 (by decide) ?_
        refine e_istore_n aX9_laysCondition_30 (Nat.le_of_ble_eq_true rfl) ?_
        refine e_ls (ls' := [(0, some (vR (some 109))), (1, some (vI (nI 0)))]) ⟨rfl, rfl, trivial⟩ ?_
        exact lq 1296 0 hz rfl S1 (fun t ht => by rw [Z1 _ (by omega), bt0 _ (by omega)]; rfl)
      · -- 5: not taken
        exact absurd (nI_le (a := 41) (b := 41) (by omega) (by omega)) c5
    | succ m ih =>
      intro k hz hk S1 Z1
      have F := S1.F F0
      have hm : hI hz 109 4 = nI M9 := (S1.2 _ _ (by unfold scV; omega)).trans md.1
      refine e_iload_n aX9_laysCondition_2 rfl ?_
      refine e_bipush (v := 41) aX9_laysCondition_3 (by decide) ?_
      refine e_icmp_ge aX9_laysCondition_5 (fun c5 => ?_) (fun c5 => ?_)
      · -- 5: taken
        exact absurd c5 (nI_ge (a := k) (b := 41) (by omega) (by decide))
      · -- 5: not taken
        refine e_aload_n aX9_laysCondition_8 rfl ?_
        refine e_getRF aX9_laysCondition_9 fX9_23 rfl (fx_is F rfl) (fx_r (b := 113) F rfl) ?_
        refine e_bipush (v := 41) aX9_laysCondition_12 (by decide) ?_
        refine e_aload_n aX9_laysCondition_14 rfl ?_
        refine e_getIF aX9_laysCondition_15 fX9_89 rfl (fx_is F rfl) hm ?_
        refine e_imul aX9_laysCondition_18 ?_
        refine e_top (nI_mul 41 M9) ?_
        refine e_iload_n aX9_laysCondition_19 rfl ?_
        refine e_iadd aX9_laysCondition_20 ?_
        refine e_top (nI_add _ _) ?_
        refine e_iconst (v := 0) aX9_laysCondition_21 (by decide) ?_
        refine e_iastoreF aX9_laysCondition_22 (fx_is F rfl) (fx_n (n := 492) F rfl) (vin (N := 492) (by omega)) ?_
        rw [cl (by omega)]
        refine e_iinc aX9_laysCondition_23 rfl rfl (Nat.le_of_ble_eq_true rfl) ?_
        refine e_goto aX9_laysCondition_26 ?_
        refine e_ls (ls' := [(0, some (vR (some 109))), (1, some (vI (nI (k + 1))))]) ⟨rfl, congrArg (fun x => some (vI x)) (nI_1 k), trivial⟩ ?_
        exact ih (k + 1) _ (by omega) (S1.wI (Or.inr ⟨rfl, by omega⟩)) (fun j hj => by
          by_cases e : j = k
          · rw [e]; exact wI_s
          · exact (wI_i (by omega)).trans (Z1 j (by omega)))
  refine e_iconst (v := 0) aX9_laysCondition_0 (by decide) ?_
  refine e_istore_n aX9_laysCondition_1 (Nat.le_of_ble_eq_true rfl) ?_
  refine e_ls (ls' := [(0, some (vR (some 109))), (1, some (vI (nI 0)))]) ⟨rfl, rfl, trivial⟩ ?_
  exact lz 41 0 h0 rfl (Sf.rf h0) (fun j hj => absurd hj (by omega))
