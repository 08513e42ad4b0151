/-! contracts: Book (written by wip/p45/g17.py) -/
/-- FALLEN and their ORDERS, in the class -/
def BkF (h : HP) (f : Nat) (o : Nat → Nat) : Prop := hI h 33 3 = nI f ∧ f ≤ 4 ∧ (∀ y, y < f → hI h 35 y = nI (o y)) ∧ (∀ y, y < f → o y < 6)
/-- DEALS, in the class -/
def BkD (h : HP) (n : Nat) (A : Nat → Nat) (D : Nat → DD) : Prop := hI h 33 1 = nI n ∧ n ≤ 12 ∧ (∀ k, k < n → hR h 34 k = some (A k) ∧ DealC h (A k) (D k))
theorem fo_le {o : Nat → Nat} {f i : Nat} (h : f ≤ 4) (ho : ∀ y, y < f → o y < 6) (hi : i ≤ f) : fo o i ≤ 1296 := by
  have := om_fo (o := o) (f := i) (by omega) (fun y hy => ho y (by omega))
  omega
theorem zX0_firstOpen (X : EX) {h : HP} (F : Fx h) {f : Nat} {o : Nat → Nat} (b : BkF h f o) : Ct X mX0_firstOpen 0 0 0 [vR (some 33)] h (Rt (vI (nI (fo o f))) h) := by
  refine ct_of rfl (Nat.le_of_ble_eq_true rfl) ?_
  obtain ⟨b1, b2, b3, b4⟩ := b
  have loop : ∀ (m : Nat) (i : Nat), i + m = f → Ev X mX0_firstOpen 0 0 0 (Rt (vI (nI (fo o f))) h) 0 0 4 [(0, some (vR (some 33))), (1, some (vI (nI (fo o i)))), (2, some (vI (nI i)))] [] h := by
    intro m
    induction m with
    | zero =>
      intro i hi
      have hmf : i = f := by omega
      refine e_iload_n aX0_firstOpen_4 rfl ?_
      refine e_aload_n aX0_firstOpen_5 rfl ?_
      refine e_getIF aX0_firstOpen_6 fX0_37 rfl (fx_is F rfl) b1 ?_
      refine e_icmp_ge aX0_firstOpen_9 (fun c9 => ?_) (fun c9 => ?_)
      · -- 9: taken
        refine e_iload_n aX0_firstOpen_33 rfl ?_
        refine e_ireturn aX0_firstOpen_34 rfl (Nat.le_refl _) (Nat.le_refl _) ?_
        exact ⟨by rw [hmf], rfl⟩
      · -- 9: not taken
        exact absurd (nI_le (by omega) (by omega)) c9
    | succ m ih =>
      intro i hi
      refine e_iload_n aX0_firstOpen_4 rfl ?_
      refine e_aload_n aX0_firstOpen_5 rfl ?_
      refine e_getIF aX0_firstOpen_6 fX0_37 rfl (fx_is F rfl) b1 ?_
      refine e_icmp_ge aX0_firstOpen_9 (fun c9 => ?_) (fun c9 => ?_)
      · -- 9: taken
        exact absurd c9 (nI_ge (by omega) (by omega))
      · -- 9: not taken
        refine e_iload_n aX0_firstOpen_12 rfl ?_
        refine e_aload_n aX0_firstOpen_13 rfl ?_
        refine e_getRF aX0_firstOpen_14 fX0_17 rfl (fx_is F rfl) (fx_r (b := 35) F rfl) ?_
        refine e_iload_n aX0_firstOpen_17 rfl ?_
        refine e_ialoadF (x := nI (o i)) aX0_firstOpen_18 (fx_is F rfl) (fx_n (n := 4) F rfl) (vin (N := 4) (by omega)) (by rw [cl (by omega)]; exact b3 i (by omega)) ?_
        refine e_getsN (i := 2) aX0_firstOpen_19 rfl gX0_40 ?_
        refine e_iload_n aX0_firstOpen_22 rfl ?_
        refine e_ialoadS aX0_firstOpen_23 rfl (vin (N := 4) (by omega)) ?_
        refine e_top (st_step (by omega)) ?_
        refine e_imul aX0_firstOpen_24 ?_
        refine e_top (nI_mul _ _) ?_
        refine e_iadd aX0_firstOpen_25 ?_
        refine e_top (nI_add _ _) ?_
        refine e_istore_n aX0_firstOpen_26 (Nat.le_of_ble_eq_true rfl) ?_
        refine e_iinc aX0_firstOpen_27 rfl rfl (Nat.le_of_ble_eq_true rfl) ?_
        refine e_goto aX0_firstOpen_30 ?_
        refine e_ls (ls' := [(0, some (vR (some 33))), (1, some (vI (nI (fo o (i + 1))))), (2, some (vI (nI (i + 1))))]) ⟨rfl, rfl, congrArg (fun x => some (vI x)) (nI_1 i), trivial⟩ ?_
        exact ih (i + 1) (by omega)
  refine e_iconst (v := 0) aX0_firstOpen_0 (by decide) ?_
  refine e_istore_n aX0_firstOpen_1 (Nat.le_of_ble_eq_true rfl) ?_
  refine e_iconst (v := 0) aX0_firstOpen_2 (by decide) ?_
  refine e_istore_n aX0_firstOpen_3 (Nat.le_of_ble_eq_true rfl) ?_
  refine e_ls (ls' := [(0, some (vR (some 33))), (1, some (vI (nI (fo o 0)))), (2, some (vI (nI 0)))]) ⟨rfl, rfl, rfl, trivial⟩ ?_
  exact loop f 0 (by omega)
theorem zX0_openCount (X : EX) {h : HP} (F : Fx h) {f : Nat} {o : Nat → Nat} (b : BkF h f o) : Ct X mX0_openCount 0 0 0 [vR (some 33)] h (Rt (vI (nI (om f))) h) := by
  refine ct_of rfl (Nat.le_of_ble_eq_true rfl) ?_
  obtain ⟨b1, b2, b3, b4⟩ := b
  refine e_getsN (i := 0) aX0_openCount_0 rfl gX0_43 ?_
  refine e_aload_n aX0_openCount_3 rfl ?_
  refine e_getIF aX0_openCount_4 fX0_37 rfl (fx_is F rfl) b1 ?_
  refine e_ialoadS aX0_openCount_7 rfl (vin (N := 5) (by omega)) ?_
  refine e_top (st_left b2) ?_
  refine e_ireturn aX0_openCount_8 rfl (Nat.le_refl _) (Nat.le_refl _) ?_
  exact ⟨rfl, rfl⟩
theorem zX0_endOpen (X : EX) {h : HP} (F : Fx h) {f : Nat} {o : Nat → Nat} (b : BkF h f o) : Ct X mX0_endOpen 1 0 0 [vR (some 33)] h (Rt (vI (nI (fo o f + om f))) h) := by
  refine ct_of rfl (Nat.le_of_ble_eq_true rfl) ?_
  refine e_aload_n aX0_endOpen_0 rfl ?_
  refine e_invvT aX0_endOpen_1 kX0_46 (zX0_firstOpen X F b) rfl rfl (fx_is F rfl) (Nat.le_of_ble_eq_true rfl) (Nat.le_of_ble_eq_true rfl) (Nat.le_refl _) (Nat.le_refl _) (Nat.le_of_ble_eq_true rfl) ?_
  refine e_aload_n aX0_endOpen_4 rfl ?_
  refine e_invvT aX0_endOpen_5 kX0_50 (zX0_openCount X F b) rfl rfl (fx_is F rfl) (Nat.le_of_ble_eq_true rfl) (Nat.le_of_ble_eq_true rfl) (Nat.le_refl _) (Nat.le_refl _) (Nat.le_of_ble_eq_true rfl) ?_
  refine e_iadd aX0_endOpen_8 ?_
  refine e_top (nI_add _ _) ?_
  refine e_ireturn aX0_endOpen_9 rfl (Nat.le_refl _) (Nat.le_refl _) ?_
  exact ⟨rfl, rfl⟩
theorem zX0_isOpen (X : EX) {h : HP} (F : Fx h) {f : Nat} {o : Nat → Nat} (b : BkF h f o) (s : Int32) : Ct X mX0_isOpen 2 0 0 [vR (some 33), vI s] h (Rt (vI (b2 (nI (fo o f) ≤ s ∧ s < nI (fo o f + om f)))) h) := by
  refine ct_of rfl (Nat.le_of_ble_eq_true rfl) ?_
  refine e_iload_n aX0_isOpen_0 rfl ?_
  refine e_aload_n aX0_isOpen_1 rfl ?_
  refine e_invvT aX0_isOpen_2 kX0_46 (zX0_firstOpen X F b) rfl rfl (fx_is F rfl) (Nat.le_of_ble_eq_true rfl) (Nat.le_of_ble_eq_true rfl) (Nat.le_refl _) (Nat.le_refl _) (Nat.le_of_ble_eq_true rfl) ?_
  refine e_icmp_lt aX0_isOpen_5 (fun c5 => ?_) (fun c5 => ?_)
  · -- 5: taken
    refine e_iconst (v := 0) aX0_isOpen_20 (by decide) ?_
    refine e_zreturn aX0_isOpen_21 rfl (by decide) (Nat.le_refl _) (Nat.le_refl _) ?_
    exact ⟨by rw [b2_f (by first | grind | (simp only [b2_0] at *; grind))], rfl⟩
  · -- 5: not taken
    refine e_iload_n aX0_isOpen_8 rfl ?_
    refine e_aload_n aX0_isOpen_9 rfl ?_
    refine e_invvT aX0_isOpen_10 kX0_53 (zX0_endOpen X F b) rfl rfl (fx_is F rfl) (Nat.le_of_ble_eq_true rfl) (Nat.le_of_ble_eq_true rfl) (Nat.le_refl _) (Nat.le_refl _) (Nat.le_of_ble_eq_true rfl) ?_
    refine e_icmp_ge aX0_isOpen_13 (fun c13 => ?_) (fun c13 => ?_)
    · -- 13: taken
      refine e_iconst (v := 0) aX0_isOpen_20 (by decide) ?_
      refine e_zreturn aX0_isOpen_21 rfl (by decide) (Nat.le_refl _) (Nat.le_refl _) ?_
      exact ⟨by rw [b2_f (by first | grind | (simp only [b2_0] at *; grind))], rfl⟩
    · -- 13: not taken
      refine e_iconst (v := 1) aX0_isOpen_16 (by decide) ?_
      refine e_goto aX0_isOpen_17 ?_
      refine e_zreturn aX0_isOpen_21 rfl (by decide) (Nat.le_refl _) (Nat.le_refl _) ?_
      exact ⟨by rw [b2_t (by first | grind | (simp only [b2_0] at *; grind))], rfl⟩
theorem vin_of {k : Int32} {n N : Nat} (h : ¬ (k < 0 ∨ nI n ≤ k)) (hn : n ≤ N) (hN : N ≤ 1073741824 := by decide) : vp_in k N := by
  rcases pk_ix k (n := n) (by omega) with q | q | ⟨j, hj, rfl⟩
  · exact absurd (Or.inl q) h
  · exact absurd (Or.inr q) h
  · exact vin (by omega) hN
theorem zX0_dealAt (X : EX) {h : HP} (F : Fx h) {n : Nat} {A : Nat → Nat} {D : Nat → DD} (b : BkD h n A D) (k : Int32) : Ct X mX0_dealAt 1 0 0 [vR (some 33), vI k] h (Rt (vR (if k < 0 ∨ nI n ≤ k then none else hR h 34 k.toNatClampNeg)) h) := by
  refine ct_of rfl (Nat.le_of_ble_eq_true rfl) ?_
  obtain ⟨b1, b2, b3⟩ := b
  refine e_iload_n aX0_dealAt_0 rfl ?_
  refine e_aload_n aX0_dealAt_1 rfl ?_
  refine e_getIF aX0_dealAt_2 fX0_28 rfl (fx_is F rfl) b1 ?_
  refine e_invsNT aX0_dealAt_5 kX0_56 (zX8_isOutside X _ _) rfl rfl (Nat.le_of_ble_eq_true rfl) (Nat.le_of_ble_eq_true rfl) (Nat.le_refl _) (Nat.le_refl _) (Nat.le_of_ble_eq_true rfl) ?_
  refine e_if_eq aX0_dealAt_8 (fun c8 => ?_) (fun c8 => ?_)
  · -- 8: taken
    have q8 := b2_0.mp c8
    refine e_aload_n aX0_dealAt_15 rfl ?_
    refine e_getRF aX0_dealAt_16 fX0_11 rfl (fx_is F rfl) (fx_r (b := 34) F rfl) ?_
    refine e_iload_n aX0_dealAt_19 rfl ?_
    refine e_aaloadF (t := 17) aX0_dealAt_20 (fx_is F rfl) (by decide) (by decide) (fx_n (n := 12) F rfl) (vin_of q8 b2) rfl ?_
    refine e_areturn aX0_dealAt_21 rfl (Nat.le_refl _) (Nat.le_refl _) ?_
    first | exact ⟨by rw [if_pos q8], rfl⟩ | exact ⟨by rw [if_neg q8], rfl⟩
  · -- 8: not taken
    have q8 := Decidable.of_not_not (fun z => c8 (b2_0.mpr z))
    refine e_aconst_null aX0_dealAt_11 ?_
    refine e_goto aX0_dealAt_12 ?_
    refine e_areturn aX0_dealAt_21 rfl (Nat.le_refl _) (Nat.le_refl _) ?_
    first | exact ⟨by rw [if_pos q8], rfl⟩ | exact ⟨by rw [if_neg q8], rfl⟩
theorem zX0_dealAt_in (X : EX) {h : HP} (F : Fx h) {n : Nat} {A : Nat → Nat} {D : Nat → DD} (b : BkD h n A D) {k : Nat} (hk : k < n) : Ct X mX0_dealAt 1 0 0 [vR (some 33), vI (nI k)] h (Rt (vR (some (A k))) h) := by
  have h1 := zX0_dealAt X F b (nI k)
  have hn := b.2.1
  rw [if_neg (by
    intro z
    rcases z with z | z
    · exact nI_pos (by omega) z
    · exact nI_ge hk (by omega) z), cl (by omega), (b.2.2 k hk).1] at h1
  exact h1
theorem shl1 {c : Nat} (h : c < 3) : (1 : Int32) <<< (nI c &&& 31) = nI (2 ^ c) := by
  have : c = 0 ∨ c = 1 ∨ c = 2 := by omega
  rcases this with rfl | rfl | rfl <;> decide
theorem or_8 {a b : Nat} : nI a ||| nI b = nI (a ||| b) := by
  apply Int32.toBitVec_inj.mp
  rw [Int32.toBitVec_or]
  show BitVec.ofNat 32 a ||| BitVec.ofNat 32 b = BitVec.ofNat 32 (a ||| b)
  rw [BitVec.ofNat_or]
theorem shr8 : ∀ m, m < 8 → ∀ c, c < 3 → (nI m >>> (nI c &&& 31)) &&& 1 = if m.testBit c = true then 1 else 0 := by decide +kernel
theorem hm_bit {D : Nat → DD} {s p k : Nat} (w : ∀ j, j < k → dWf (D j)) : ∀ c, c < 3 → (nI (hm D s p k) >>> (nI c &&& 31)) &&& 1 = b2 (vs D s p k c = true) := by
  intro c hc
  rw [shr8 _ (hm_lt w) c hc, hm_vs]
  rfl
theorem zX0_clashOf (X : EX) {h : HP} (F : Fx h) {n : Nat} {A : Nat → Nat} {D : Nat → DD} (b : BkD h n A D) {s p g t : Nat} (hs : s < 1296) (hp : p < 12) (hg : g < 3) (ht : t < 3) : Ct X mX0_clashOf 3 0 0 [vR (some 33), vI (nI s), vI (nI p), vI (nI g), vI (nI t)] h (Rt (vI (oI (cls D n s p g t))) h) := by
  refine ct_of rfl (Nat.le_of_ble_eq_true rfl) ?_
  obtain ⟨b1, b2, b3⟩ := id b
  have hw : ∀ j, j < n → dWf (D j) := fun j hj => (b3 j hj).2.2.2.1
  have hol : ∀ k, k ≤ n → ow D s p k < 3 := fun k hk => ow_lt (fun j hj => hw j (by omega))
  have loop : ∀ (m : Nat) (i : Nat), i + m = n → Ev X mX0_clashOf 3 0 0 (Rt (vI (oI (cls D n s p g t))) h) 0 0 14 [(0, some (vR (some 33))), (1, some (vI (nI s))), (2, some (vI (nI p))), (3, some (vI (nI g))), (4, some (vI (nI t))), (5, some (vI (nI (ow D s p i)))), (6, some (vI (nI (hm D s p i)))), (7, some (vI (nI i)))] [] h := by
    intro m
    induction m with
    | zero =>
      intro i hi
      obtain rfl : n = i := by omega
      have hol9 := hol n (Nat.le_refl n)
      have hgb := hm_bit (D := D) (s := s) (p := p) (k := n) hw
      refine e_iload aX0_clashOf_14 rfl ?_
      refine e_aload_n aX0_clashOf_16 rfl ?_
      refine e_getIF aX0_clashOf_17 fX0_28 rfl (fx_is F rfl) b1 ?_
      refine e_icmp_ge aX0_clashOf_20 (fun c20 => ?_) (fun c20 => ?_)
      · -- 20: taken
        refine e_iload aX0_clashOf_73 rfl ?_
        refine e_iload_n aX0_clashOf_75 rfl ?_
        refine e_ishr aX0_clashOf_76 ?_
        refine e_iconst (v := 1) aX0_clashOf_77 (by decide) ?_
        refine e_iand aX0_clashOf_78 ?_
        refine e_top (hgb g hg) ?_
        refine e_if_ne aX0_clashOf_79 (fun c79 => ?_) (fun c79 => ?_)
        · -- 79: taken
          have q79 : vs D s p n g = true := Decidable.of_not_not (fun z => c79 (b2_0.mpr z))
          refine e_iload aX0_clashOf_84 rfl ?_
          refine e_iload_n aX0_clashOf_86 rfl ?_
          refine e_icmp_eq aX0_clashOf_87 (fun c87 => ?_) (fun c87 => ?_)
          · -- 87: taken
            have q87 := (nI_eq (by omega) (by omega)).mp c87
            refine e_iload aX0_clashOf_92 rfl ?_
            refine e_iload aX0_clashOf_94 rfl ?_
            refine e_ishr aX0_clashOf_96 ?_
            refine e_iconst (v := 1) aX0_clashOf_97 (by decide) ?_
            refine e_iand aX0_clashOf_98 ?_
            refine e_top (hgb t ht) ?_
            refine e_if_eq aX0_clashOf_99 (fun c99 => ?_) (fun c99 => ?_)
            · -- 99: taken
              have q99 : ¬ vs D s p n t = true := b2_0.mp c99
              refine e_iconst (v := -1) aX0_clashOf_106 (by decide) ?_
              refine e_ireturn aX0_clashOf_107 rfl (Nat.le_refl _) (Nat.le_refl _) ?_
              first | exact ⟨by unfold cls; rw [if_neg (by rw [q79]; decide), if_neg (by omega), if_pos q99]; rfl, rfl⟩ | exact ⟨by unfold cls; rw [if_neg (by rw [q79]; decide), if_neg (by omega), if_neg q99]; rfl, rfl⟩
            · -- 99: not taken
              have q99 : vs D s p n t = true := Decidable.of_not_not (fun z => c99 (b2_0.mpr z))
              refine e_iconst (v := 1) aX0_clashOf_102 (by decide) ?_
              refine e_goto aX0_clashOf_103 ?_
              refine e_ireturn aX0_clashOf_107 rfl (Nat.le_refl _) (Nat.le_refl _) ?_
              first | exact ⟨by unfold cls; rw [if_neg (by rw [q79]; decide), if_neg (by omega), if_pos q99]; rfl, rfl⟩ | exact ⟨by unfold cls; rw [if_neg (by rw [q79]; decide), if_neg (by omega), if_neg q99]; rfl, rfl⟩
          · -- 87: not taken
            have q87 := (not_congr (nI_eq (by omega) (by omega))).mp c87
            refine e_iconst (v := 0) aX0_clashOf_90 (by decide) ?_
            refine e_ireturn aX0_clashOf_91 rfl (Nat.le_refl _) (Nat.le_refl _) ?_
            exact ⟨by unfold cls; rw [if_neg (by rw [q79]; decide), if_pos q87]; rfl, rfl⟩
        · -- 79: not taken
          have q79 : ¬ vs D s p n g = true := b2_0.mp c79
          have q79 : vs D s p n g = false := by simpa using q79
          refine e_iconst (v := 2) aX0_clashOf_82 (by decide) ?_
          refine e_ireturn aX0_clashOf_83 rfl (Nat.le_refl _) (Nat.le_refl _) ?_
          exact ⟨by unfold cls; rw [if_pos q79]; rfl, rfl⟩
      · -- 20: not taken
        exact absurd (nI_le (by omega) (by omega)) c20
    | succ m ih =>
      intro i hi
      have bd := (b3 i (by omega)).2
      refine e_iload aX0_clashOf_14 rfl ?_
      refine e_aload_n aX0_clashOf_16 rfl ?_
      refine e_getIF aX0_clashOf_17 fX0_28 rfl (fx_is F rfl) b1 ?_
      refine e_icmp_ge aX0_clashOf_20 (fun c20 => ?_) (fun c20 => ?_)
      · -- 20: taken
        exact absurd c20 (nI_ge (by omega) (by omega))
      · -- 20: not taken
        refine e_aload_n aX0_clashOf_23 rfl ?_
        refine e_iload aX0_clashOf_24 rfl ?_
        refine e_invvT aX0_clashOf_26 kX0_60 (zX0_dealAt_in X F b (by omega)) rfl rfl (fx_is F rfl) (Nat.le_of_ble_eq_true rfl) (Nat.le_of_ble_eq_true rfl) (Nat.le_refl _) (Nat.le_refl _) (Nat.le_of_ble_eq_true rfl) ?_
        refine e_astore aX0_clashOf_29 (Nat.le_of_ble_eq_true rfl) ?_
        refine e_aload aX0_clashOf_31 rfl ?_
        refine e_ifnonnull aX0_clashOf_33 (fun r33 c33 => ?_) (fun c33 => ?_)
        · -- 33: taken
          obtain rfl := Option.some.inj c33
          refine e_aload aX0_clashOf_40 rfl ?_
          refine e_iload_n aX0_clashOf_42 rfl ?_
          refine e_iload_n aX0_clashOf_43 rfl ?_
          refine e_invvT aX0_clashOf_44 kX0_64 (zX1_takerOf X bd hs hp) rfl rfl bd.2.1 (Nat.le_of_ble_eq_true rfl) (Nat.le_of_ble_eq_true rfl) (Nat.le_refl _) (Nat.le_refl _) (Nat.le_of_ble_eq_true rfl) ?_
          refine e_istore aX0_clashOf_47 (Nat.le_of_ble_eq_true rfl) ?_
          refine e_iload aX0_clashOf_49 rfl ?_
          refine e_if_lt aX0_clashOf_51 (fun c51 => ?_) (fun c51 => ?_)
          · -- 51: taken
            have q51 := (oI_lt (fun q hq => by have := (tk_lt bd.2.2.1 hq).1; omega)).mp c51
            have hoW : ow D s p i = ow D s p (i + 1) := by
              conv => rhs; unfold ow
              rw [q51]
              rfl
            have hhM : nI (hm D s p i) = nI (hm D s p (i + 1)) := by
              conv => rhs; unfold hm
              rw [q51]
            refine e_iinc aX0_clashOf_67 rfl rfl (Nat.le_of_ble_eq_true rfl) ?_
            refine e_goto aX0_clashOf_70 ?_
            refine e_ls (ls' := [(0, some (vR (some 33))), (1, some (vI (nI s))), (2, some (vI (nI p))), (3, some (vI (nI g))), (4, some (vI (nI t))), (5, some (vI (nI (ow D s p (i + 1))))), (6, some (vI (nI (hm D s p (i + 1))))), (7, some (vI (nI (i + 1))))]) ⟨rfl, rfl, rfl, rfl, rfl, ?_, ?_, congrArg (fun x => some (vI x)) (nI_1 i), trivial⟩ ?_
            · exact congrArg (fun x => some (vI (nI x))) hoW
            · exact congrArg (fun x => some (vI x)) hhM
            exact ih (i + 1) (by omega)
          · -- 51: not taken
            have q51 := (not_congr (oI_lt (fun q hq => by have := (tk_lt bd.2.2.1 hq).1; omega))).mp c51
            obtain ⟨u, hu⟩ := Option.ne_none_iff_exists'.mp q51
            have hut := (tk_lt bd.2.2.1 hu).1
            have hoW : u = ow D s p (i + 1) := by
              conv => rhs; unfold ow
              rw [hu]
              rfl
            have hhM : nI (hm D s p i) ||| nI (2 ^ u) = nI (hm D s p (i + 1)) := by
              conv => rhs; unfold hm
              rw [hu]
              exact or_8
            rw [hu]
            refine e_iload aX0_clashOf_54 rfl ?_
            refine e_istore aX0_clashOf_56 (Nat.le_of_ble_eq_true rfl) ?_
            refine e_iload aX0_clashOf_58 rfl ?_
            refine e_iconst (v := 1) aX0_clashOf_60 (by decide) ?_
            refine e_iload aX0_clashOf_61 rfl ?_
            refine e_ishl aX0_clashOf_63 ?_
            refine e_top (shl1 hut) ?_
            refine e_ior aX0_clashOf_64 ?_
            refine e_istore aX0_clashOf_65 (Nat.le_of_ble_eq_true rfl) ?_
            refine e_iinc aX0_clashOf_67 rfl rfl (Nat.le_of_ble_eq_true rfl) ?_
            refine e_goto aX0_clashOf_70 ?_
            refine e_ls (ls' := [(0, some (vR (some 33))), (1, some (vI (nI s))), (2, some (vI (nI p))), (3, some (vI (nI g))), (4, some (vI (nI t))), (5, some (vI (nI (ow D s p (i + 1))))), (6, some (vI (nI (hm D s p (i + 1))))), (7, some (vI (nI (i + 1))))]) ⟨rfl, rfl, rfl, rfl, rfl, ?_, ?_, congrArg (fun x => some (vI x)) (nI_1 i), trivial⟩ ?_
            · exact congrArg (fun x => some (vI (nI x))) hoW
            · exact congrArg (fun x => some (vI x)) hhM
            exact ih (i + 1) (by omega)
        · -- 33: not taken
          exact absurd c33 (by simp)
  refine e_iload_n aX0_clashOf_0 rfl ?_
  refine e_iconst (v := 3) aX0_clashOf_1 (by decide) ?_
  refine e_irem aX0_clashOf_2 (by decide) ?_
  refine e_top (nI_rem (b := 3) (by omega) (by decide) (by decide)) ?_
  refine e_istore aX0_clashOf_3 (Nat.le_of_ble_eq_true rfl) ?_
  refine e_iconst (v := 1) aX0_clashOf_5 (by decide) ?_
  refine e_iload aX0_clashOf_6 rfl ?_
  refine e_ishl aX0_clashOf_8 ?_
  refine e_top (shl1 (Nat.mod_lt _ (by decide))) ?_
  refine e_istore aX0_clashOf_9 (Nat.le_of_ble_eq_true rfl) ?_
  refine e_iconst (v := 0) aX0_clashOf_11 (by decide) ?_
  refine e_istore aX0_clashOf_12 (Nat.le_of_ble_eq_true rfl) ?_
  refine e_ls (ls' := [(0, some (vR (some 33))), (1, some (vI (nI s))), (2, some (vI (nI p))), (3, some (vI (nI g))), (4, some (vI (nI t))), (5, some (vI (nI (ow D s p 0)))), (6, some (vI (nI (hm D s p 0)))), (7, some (vI (nI 0)))]) ⟨rfl, rfl, rfl, rfl, rfl, rfl, rfl, rfl, trivial⟩ ?_
  exact loop n 0 (by omega)
