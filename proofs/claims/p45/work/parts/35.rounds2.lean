/-! contracts: countRounds, rounds (written by wip/p45/g35.py) -/
theorem zX8_countRounds (X : EX) {h0 : HP} (F0 : Fx h0) {n : Nat} {A : Nat → Nat} {D : Nat → DD} (b : BkD h0 n A D) {sz q : Nat} {ty : Int32} (hs : sz < 4) (hsh : ShC h0 sz ty q) {σ : Nat → Nat} (hσ : ∀ i, i < q → σ i < n ∧ hL h0 (102 + 2 * sz) i = lN (σ i)) {s : Nat} (h1296 : s < 1296) : Ct X mX8_countRounds 5 2 16 [vR (some 32), vR (some (101 + 2 * sz)), vI (nI s)] h0 (fun v h' => v = some (vI (nI (crR D s σ q 24 1 rd0))) ∧ Gb h0 h') := by
  refine ct_of rfl (Nat.le_of_ble_eq_true rfl) ?_
  have h134 : 116 ≤ hZ h0 := F0.1
  have h32 : 32 ≤ hZ h0 := by omega
  have loop : ∀ (m : Nat) (u : Nat) (t : RS) (hz : HP), u + m = 25 → Gb h0 hz → RdC hz (hZ h0) s t → crR D s σ q m u t = (crR D s σ q 24 1 rd0) → Ev X mX8_countRounds 5 2 16 (fun v h' => v = some (vI (nI (crR D s σ q 24 1 rd0))) ∧ Gb h0 h') 2 16 12 [(0, some (vR (some 32))), (1, some (vR (some (101 + 2 * sz)))), (3, some (vR (some (hZ h0)))), (4, some (vI (nI u)))] [] hz := by
    intro m
    induction m with
    | zero =>
      intro u t hz hk GZ RZ hR9
      obtain rfl : u = 25 := by omega
      refine e_iload aX8_countRounds_12 rfl ?_
      refine e_bipush (v := 24) aX8_countRounds_14 (by decide) ?_
      refine e_icmp_gt aX8_countRounds_16 (fun c16 => ?_) (fun c16 => ?_)
      · -- 16: taken
        refine e_iload aX8_countRounds_34 rfl ?_
        refine e_ireturn aX8_countRounds_36 rfl (Nat.le_of_ble_eq_true rfl) (Nat.le_of_ble_eq_true rfl) ?_
        exact ⟨by rw [← hR9] <;> rfl, GZ⟩
      · -- 16: not taken
        exact absurd (by show nI 25 > 24; decide) c16
    | succ m ih =>
      intro u t hz hk GZ RZ hR9
      have F : Fx hz := GZ.F F0
      refine e_iload aX8_countRounds_12 rfl ?_
      refine e_bipush (v := 24) aX8_countRounds_14 (by decide) ?_
      refine e_icmp_gt aX8_countRounds_16 (fun c16 => ?_) (fun c16 => ?_)
      · -- 16: taken
        exact absurd c16 (Int32.not_lt.mpr (nI_le (a := u) (b := 24) (by omega) (by decide)))
      · -- 16: not taken
        refine e_aload_n aX8_countRounds_19 rfl ?_
        refine e_aload_n aX8_countRounds_20 rfl ?_
        refine e_aload_n aX8_countRounds_21 rfl ?_
        refine e_invv aX8_countRounds_22 kX8_289 (zX8_goesOver X F0 GZ b hs hsh hσ h1296 RZ) rfl rfl (fx_is F rfl) (Nat.le_of_ble_eq_true rfl) (Nat.le_of_ble_eq_true rfl) (Nat.le_of_ble_eq_true rfl) (Nat.le_of_ble_eq_true rfl) (Nat.le_of_ble_eq_true rfl) ?_
        rintro v h2 ⟨rfl, G2, R2⟩
        refine e_if_eq aX8_countRounds_25 (fun c25 => ?_) (fun c25 => ?_)
        · -- 25: taken
          have q25 := b2_0.mp c25
          refine e_iload aX8_countRounds_34 rfl ?_
          refine e_ireturn aX8_countRounds_36 rfl (Nat.le_of_ble_eq_true rfl) (Nat.le_of_ble_eq_true rfl) ?_
          exact ⟨by rw [← hR9, crR_s, if_neg q25], G2⟩
        · -- 25: not taken
          have q25 : (goR D s σ q t).2 = true := Decidable.of_not_not (fun z => c25 (b2_0.mpr z))
          refine e_iinc aX8_countRounds_28 rfl rfl (Nat.le_of_ble_eq_true rfl) ?_
          refine e_goto aX8_countRounds_31 ?_
          refine e_ls (ls' := [(0, some (vR (some 32))), (1, some (vR (some (101 + 2 * sz)))), (3, some (vR (some (hZ h0)))), (4, some (vI (nI (u + 1))))]) ⟨rfl, rfl, rfl, congrArg (fun x => some (vI x)) (nI_1 u), trivial⟩ ?_
          exact ih (u + 1) _ h2 (by omega) G2 R2 (by rw [← hR9, crR_s, if_pos q25])
  refine e_new aX8_countRounds_0 nX8_284 (Nat.le_of_ble_eq_true rfl) (Nat.le_of_ble_eq_true rfl) ?_
  refine e_dup aX8_countRounds_3 rfl ?_
  refine e_iload_n aX8_countRounds_4 rfl ?_
  refine e_invi aX8_countRounds_5 kX8_286 (zX4_init X (h := nw h0 5 0) (r := hZ h0) (s := s) h134 (is_ns h32) rfl) rfl rfl (Nat.le_of_ble_eq_true rfl) (Nat.le_of_ble_eq_true rfl) (Nat.le_of_ble_eq_true rfl) (Nat.le_of_ble_eq_true rfl) (Nat.le_of_ble_eq_true rfl) ?_
  rintro v h2 ⟨rfl, rfl⟩
  have GZ : Gb h0 (rdH (nw h0 5 0) (hZ h0) s 12) := rdH_G (Gb.rf h0).nw (Nat.le_refl _) 12
  have RZ : RdC (rdH (nw h0 5 0) (hZ h0) s 12) (hZ h0) s rd0 := rdH_R h134 (is_ns h32) rfl (if_pos rfl) (if_pos rfl)
  refine e_astore_n aX8_countRounds_8 (Nat.le_of_ble_eq_true rfl) ?_
  refine e_iconst (v := 1) aX8_countRounds_9 (by decide) ?_
  refine e_istore aX8_countRounds_10 (Nat.le_of_ble_eq_true rfl) ?_
  refine e_ls (ls' := [(0, some (vR (some 32))), (1, some (vR (some (101 + 2 * sz)))), (3, some (vR (some (hZ h0)))), (4, some (vI (nI 1)))]) ⟨rfl, rfl, rfl, rfl, trivial⟩ ?_
  exact loop 24 1 rd0 _ rfl GZ RZ rfl
theorem zX8_rounds (X : EX) {h : HP} (F : Fx h) {f n : Nat} {o : Nat → Nat} {A : Nat → Nat} {D : Nat → DD} (bf : BkF h f o) (b : BkD h n A D) {tS : Nat → Int32} {qS : Nat → Nat} (hS : ShA h tS qS) (x y : Int32) : Ct X mX8_rounds 6 2 16 [vR (some 32), vI x, vI y] h (if x < 0 ∨ 4 ≤ x then RF h 0 else if nI (fo o f) ≤ y ∧ y < nI (fo o f + om f) then (if tS x.toNatClampNeg = -1 then RF h 5 else if qS x.toNatClampNeg = n then (if tedR h (102 + 2 * x.toNatClampNeg) n 0 (qS x.toNatClampNeg) 0 = true then (fun v h' => v = some (vI (nI (crR D y.toNatClampNeg (sgR h (102 + 2 * x.toNatClampNeg)) (qS x.toNatClampNeg) 24 1 rd0))) ∧ Gb h h') else RF h 4) else RF h 6) else RF h 0) := by
  refine ct_of rfl (Nat.le_of_ble_eq_true rfl) ?_
  have hb6 := om_fo bf.2.1 bf.2.2.2
  have hn12 := b.2.1
  refine e_iload_n aX8_rounds_0 rfl ?_
  refine e_iconst (v := 4) aX8_rounds_1 (by decide) ?_
  refine e_invsT aX8_rounds_2 kX8_58 (zX8_isOutside X _ _) rfl rfl (Nat.le_of_ble_eq_true rfl) (Nat.le_of_ble_eq_true rfl) (Nat.le_of_ble_eq_true rfl) (Nat.le_of_ble_eq_true rfl) (Nat.le_of_ble_eq_true rfl) ?_
  refine e_if_ne aX8_rounds_5 (fun c5 => ?_) (fun c5 => ?_)
  · -- 5: taken
    have q5 := Decidable.of_not_not (fun z => c5 (b2_0.mpr z))
    refine e_aload_n aX8_rounds_19 rfl ?_
    refine e_iconst (v := 0) aX8_rounds_20 (by decide) ?_
    refine e_invvT aX8_rounds_21 kX8_62 (zfin X (k := 0) F (by decide)) rfl rfl (fx_is F rfl) (Nat.le_of_ble_eq_true rfl) (Nat.le_of_ble_eq_true rfl) (Nat.le_of_ble_eq_true rfl) (Nat.le_of_ble_eq_true rfl) (Nat.le_of_ble_eq_true rfl) ?_
    refine e_ireturn aX8_rounds_24 rfl (Nat.le_of_ble_eq_true rfl) (Nat.le_of_ble_eq_true rfl) ?_
    rw [if_pos q5]
    exact ⟨rfl, rfl⟩
  · -- 5: not taken
    have q5 := b2_0.mp c5
    obtain ⟨sz, hs, rfl⟩ := ou_of 4 (by decide) q5
    have hsh := hS sz hs
    have hq40 := hsh.2.2.2
    refine e_aload_n aX8_rounds_8 rfl ?_
    refine e_getRF aX8_rounds_9 fX8_10 rfl (fx_is F rfl) (fx_r (b := 33) F rfl) ?_
    refine e_iload_n aX8_rounds_12 rfl ?_
    refine e_invvT aX8_rounds_13 kX8_169 (zX0_isOpen X F bf _) rfl rfl (fx_is F rfl) (Nat.le_of_ble_eq_true rfl) (Nat.le_of_ble_eq_true rfl) (Nat.le_of_ble_eq_true rfl) (Nat.le_of_ble_eq_true rfl) (Nat.le_of_ble_eq_true rfl) ?_
    refine e_if_ne aX8_rounds_16 (fun c16 => ?_) (fun c16 => ?_)
    · -- 16: taken
      have q16 := Decidable.of_not_not (fun z => c16 (b2_0.mpr z))
      obtain ⟨uz, hs1, hs2, rfl⟩ := opn_of (Nat.le_add_right _ _) hb6 q16
      refine e_aload_n aX8_rounds_25 rfl ?_
      refine e_getRF aX8_rounds_26 fX8_36 rfl (fx_is F rfl) (fx_r (b := 73) F rfl) ?_
      refine e_iload_n aX8_rounds_29 rfl ?_
      refine e_aaloadF (t := 18) aX8_rounds_30 (fx_is F rfl) (by decide) (by decide) (fx_n (n := 4) F rfl) (vin (N := 4) hs) (sh_a F hs) ?_
      refine e_astore_n aX8_rounds_31 (Nat.le_of_ble_eq_true rfl) ?_
      refine e_aload_n aX8_rounds_32 rfl ?_
      refine e_invvT aX8_rounds_33 kX8_203 (zmis X F hs hsh) rfl rfl (sh_is F hs) (Nat.le_of_ble_eq_true rfl) (Nat.le_of_ble_eq_true rfl) (Nat.le_of_ble_eq_true rfl) (Nat.le_of_ble_eq_true rfl) (Nat.le_of_ble_eq_true rfl) ?_
      refine e_if_eq aX8_rounds_36 (fun c36 => ?_) (fun c36 => ?_)
      · -- 36: taken
        have q36 := b2_0.mp c36
        refine e_aload_n aX8_rounds_45 rfl ?_
        refine e_getIF aX8_rounds_46 fX8_207 rfl (sh_is F hs) hsh.2.2.1 ?_
        refine e_aload_n aX8_rounds_49 rfl ?_
        refine e_getRF aX8_rounds_50 fX8_10 rfl (fx_is F rfl) (fx_r (b := 33) F rfl) ?_
        refine e_getIF aX8_rounds_53 fX8_101 rfl (fx_is F rfl) b.1 ?_
        refine e_icmp_eq aX8_rounds_56 (fun c56 => ?_) (fun c56 => ?_)
        · -- 56: taken
          have q56 : qS sz = n := (nI_eq (by omega) (by omega)).mp c56
          refine e_aload_n aX8_rounds_66 rfl ?_
          refine e_aload_n aX8_rounds_67 rfl ?_
          refine e_invvT aX8_rounds_68 kX8_208 (zX8_tellsEachDeal X F b hs hsh) rfl rfl (fx_is F rfl) (Nat.le_of_ble_eq_true rfl) (Nat.le_of_ble_eq_true rfl) (Nat.le_of_ble_eq_true rfl) (Nat.le_of_ble_eq_true rfl) (Nat.le_of_ble_eq_true rfl) ?_
          refine e_if_ne aX8_rounds_71 (fun c71 => ?_) (fun c71 => ?_)
          · -- 71: taken
            have q71 := Decidable.of_not_not (fun z => c71 (b2_0.mpr z))
            refine e_aload_n aX8_rounds_80 rfl ?_
            refine e_aload_n aX8_rounds_81 rfl ?_
            refine e_iload_n aX8_rounds_82 rfl ?_
            refine e_invv aX8_rounds_83 kX8_212 (zX8_countRounds X F b hs hsh (σ := sgR h (102 + 2 * sz)) (s := uz) (fun i hi => tedR_k hn12 q71 i (Nat.zero_le _) (by omega)) (by omega)) rfl rfl (fx_is F rfl) (Nat.le_of_ble_eq_true rfl) (Nat.le_of_ble_eq_true rfl) (Nat.le_of_ble_eq_true rfl) (Nat.le_of_ble_eq_true rfl) (Nat.le_of_ble_eq_true rfl) ?_
            rintro v h2 ⟨rfl, G2⟩
            refine e_ireturn aX8_rounds_86 rfl (Nat.le_of_ble_eq_true rfl) (Nat.le_of_ble_eq_true rfl) ?_
            rw [if_neg q5, if_pos q16, cl (n := sz) (by omega), if_neg q36, if_pos q56, if_pos q71, cl (by omega)]
            exact ⟨rfl, G2⟩
          · -- 71: not taken
            have q71 := b2_0.mp c71
            refine e_aload_n aX8_rounds_74 rfl ?_
            refine e_iconst (v := 4) aX8_rounds_75 (by decide) ?_
            refine e_invvT aX8_rounds_76 kX8_62 (zfin X (k := 4) F (by decide)) rfl rfl (fx_is F rfl) (Nat.le_of_ble_eq_true rfl) (Nat.le_of_ble_eq_true rfl) (Nat.le_of_ble_eq_true rfl) (Nat.le_of_ble_eq_true rfl) (Nat.le_of_ble_eq_true rfl) ?_
            refine e_ireturn aX8_rounds_79 rfl (Nat.le_of_ble_eq_true rfl) (Nat.le_of_ble_eq_true rfl) ?_
            rw [if_neg q5, if_pos q16, cl (n := sz) (by omega), if_neg q36, if_pos q56, if_neg q71]
            exact ⟨rfl, rfl⟩
        · -- 56: not taken
          have q56 : ¬ qS sz = n := fun z => c56 (by rw [z])
          refine e_aload_n aX8_rounds_59 rfl ?_
          refine e_bipush (v := 6) aX8_rounds_60 (by decide) ?_
          refine e_invvT aX8_rounds_62 kX8_62 (zfin X (k := 6) F (by decide)) rfl rfl (fx_is F rfl) (Nat.le_of_ble_eq_true rfl) (Nat.le_of_ble_eq_true rfl) (Nat.le_of_ble_eq_true rfl) (Nat.le_of_ble_eq_true rfl) (Nat.le_of_ble_eq_true rfl) ?_
          refine e_ireturn aX8_rounds_65 rfl (Nat.le_of_ble_eq_true rfl) (Nat.le_of_ble_eq_true rfl) ?_
          rw [if_neg q5, if_pos q16, cl (n := sz) (by omega), if_neg q36, if_neg q56]
          exact ⟨rfl, rfl⟩
      · -- 36: not taken
        have q36 := Decidable.of_not_not (fun z => c36 (b2_0.mpr z))
        refine e_aload_n aX8_rounds_39 rfl ?_
        refine e_iconst (v := 5) aX8_rounds_40 (by decide) ?_
        refine e_invvT aX8_rounds_41 kX8_62 (zfin X (k := 5) F (by decide)) rfl rfl (fx_is F rfl) (Nat.le_of_ble_eq_true rfl) (Nat.le_of_ble_eq_true rfl) (Nat.le_of_ble_eq_true rfl) (Nat.le_of_ble_eq_true rfl) (Nat.le_of_ble_eq_true rfl) ?_
        refine e_ireturn aX8_rounds_44 rfl (Nat.le_of_ble_eq_true rfl) (Nat.le_of_ble_eq_true rfl) ?_
        rw [if_neg q5, if_pos q16, cl (n := sz) (by omega), if_pos q36]
        exact ⟨rfl, rfl⟩
    · -- 16: not taken
      have q16 := b2_0.mp c16
      refine e_aload_n aX8_rounds_19 rfl ?_
      refine e_iconst (v := 0) aX8_rounds_20 (by decide) ?_
      refine e_invvT aX8_rounds_21 kX8_62 (zfin X (k := 0) F (by decide)) rfl rfl (fx_is F rfl) (Nat.le_of_ble_eq_true rfl) (Nat.le_of_ble_eq_true rfl) (Nat.le_of_ble_eq_true rfl) (Nat.le_of_ble_eq_true rfl) (Nat.le_of_ble_eq_true rfl) ?_
      refine e_ireturn aX8_rounds_24 rfl (Nat.le_of_ble_eq_true rfl) (Nat.le_of_ble_eq_true rfl) ?_
      rw [if_neg q5, if_neg q16]
      exact ⟨rfl, rfl⟩
