/-! the reference: who has what (written by wip/whole/g57.py) -/
/-- a finding behind scratch work; a PICK or none, so -/
def RMS (h : HP) (k : Nat) : Option VV → HP → Prop := fun v h' => v = some (fv k) ∧ ∃ h2, Sc h h2 ∧ h' = fdM h2 k
def rMS (h : HP) : Option Nat → Option VV → HP → Prop
  | none => RMS h 3
  | some p => RSc (vI (nI p)) h
theorem iteP {c : Prop} [Decidable c] {P Q : Option VV → HP → Prop} {v : Option VV} {h : HP} (z : (if c then P else Q) v h) : (c ∧ P v h) ∨ (¬ c ∧ Q v h) := by
  by_cases q : c
  · rw [if_pos q] at z; exact Or.inl ⟨q, z⟩
  · rw [if_neg q] at z; exact Or.inr ⟨q, z⟩
theorem owR_lt {D : Nat → DD} {n s p : Nat} (w : ∀ j, j < n → dWf (D j)) : owR D n s p < 3 := by
  unfold owR
  have h := chF_ok (D := D) (n := n) (s := s) (p := p)
  rw [List.getD_eq_getElem?_getD, List.getElem?_eq_getElem (by omega)]
  exact chF_nd w _ (List.getElem_mem _)
/-- OWNER is y -/
def owP (D : Nat → DD) (n : Nat) (y : Int32) (s p : Nat) : Bool := decide (nI (owR D n s p) = y)
theorem zX9_owner (X : EX) {h0 : HP} (F0 : Fx h0) {f n : Nat} {o : Nat → Nat} {D : Nat → DD} (mf0 : MkF h0 f o) (md0 : MkD h0 n D) (x y : Int32) : Ct X mX9_owner 8 0 0 [vR (some 109), vI x, vI y] h0 (if nI (fo o f) ≤ x ∧ x < nI (fo o f + om f) then if y < 0 ∨ 12 ≤ y then RM h0 0 else RSc (vI (nI (owR D n x.toNatClampNeg y.toNatClampNeg))) h0 else RM h0 0) := by
  refine ct_of rfl (Nat.le_of_ble_eq_true rfl) ?_
  have F := F0
  have md := md0
  have mf := mf0
  have hn12 := md0.2.1
  have hf4 := mf0.2.1
  have hb6 := om_fo mf0.2.1 mf0.2.2.2
  have hom := om_pos mf0.2.1
  refine e_aload_n aX9_owner_0 rfl ?_
  refine e_iload_n aX9_owner_1 rfl ?_
  refine e_invvT aX9_owner_2 kX9_222 (zX9_isOpen X F mf _) rfl rfl (fx_is F rfl) (Nat.le_of_ble_eq_true rfl) (Nat.le_of_ble_eq_true rfl) (Nat.le_refl _) (Nat.le_refl _) (Nat.le_of_ble_eq_true rfl) ?_
  refine e_if_eq aX9_owner_5 (fun c5 => ?_) (fun c5 => ?_)
  · -- 5: taken
    have q5 := b2_0.mp c5
    refine e_aload_n aX9_owner_24 rfl ?_
    refine e_iconst (v := 0) aX9_owner_25 (by decide) ?_
    refine e_invvT aX9_owner_26 kX9_128 (zX9_finds X F (k := 0) (by decide)) rfl rfl (fx_is F rfl) (Nat.le_of_ble_eq_true rfl) (Nat.le_of_ble_eq_true rfl) (Nat.le_refl _) (Nat.le_refl _) (Nat.le_of_ble_eq_true rfl) ?_
    refine e_ireturn aX9_owner_29 rfl (Nat.le_refl _) (Nat.le_refl _) ?_
    rw [if_neg q5]
    exact ⟨rfl, rfl⟩
  · -- 5: not taken
    have q5 := Decidable.of_not_not (fun z => c5 (b2_0.mpr z))
    refine e_iload_n aX9_owner_8 rfl ?_
    refine e_invsT aX9_owner_9 kX9_136 (zX9_isPick X _) rfl rfl (Nat.le_of_ble_eq_true rfl) (Nat.le_of_ble_eq_true rfl) (Nat.le_refl _) (Nat.le_refl _) (Nat.le_of_ble_eq_true rfl) ?_
    refine e_if_eq aX9_owner_12 (fun c12 => ?_) (fun c12 => ?_)
    · -- 12: taken
      have q12 := Decidable.of_not_not (b2_0.mp c12)
      refine e_aload_n aX9_owner_24 rfl ?_
      refine e_iconst (v := 0) aX9_owner_25 (by decide) ?_
      refine e_invvT aX9_owner_26 kX9_128 (zX9_finds X F (k := 0) (by decide)) rfl rfl (fx_is F rfl) (Nat.le_of_ble_eq_true rfl) (Nat.le_of_ble_eq_true rfl) (Nat.le_refl _) (Nat.le_refl _) (Nat.le_of_ble_eq_true rfl) ?_
      refine e_ireturn aX9_owner_29 rfl (Nat.le_refl _) (Nat.le_refl _) ?_
      rw [if_pos q5, if_pos q12]
      exact ⟨rfl, rfl⟩
    · -- 12: not taken
      have q12 := Decidable.of_not_not (fun z => c12 (b2_0.mpr z))
      obtain ⟨sz, hs1, hs2, rfl⟩ := opn_of (Nat.le_add_right _ _) hb6 q5
      obtain ⟨pz, hp, rfl⟩ := ou_of 12 (by decide) q12
      refine e_aload_n aX9_owner_15 rfl ?_
      refine e_iload_n aX9_owner_16 rfl ?_
      refine e_iload_n aX9_owner_17 rfl ?_
      refine e_invv aX9_owner_18 kX9_225 (zX9_ownerUnder X F md (s := sz) (by omega) hp) rfl rfl (fx_is F rfl) (Nat.le_of_ble_eq_true rfl) (Nat.le_of_ble_eq_true rfl) (Nat.le_refl _) (Nat.le_refl _) (Nat.le_of_ble_eq_true rfl) ?_
      rintro v h2 ⟨rfl, S⟩
      refine e_goto aX9_owner_21 ?_
      refine e_ireturn aX9_owner_29 rfl (Nat.le_refl _) (Nat.le_refl _) ?_
      rw [if_pos q5, if_neg q12, cl (by omega), cl (by omega)]
      exact ⟨rfl, S⟩
theorem zX9_chain (X : EX) {h0 : HP} (F0 : Fx h0) {f n : Nat} {o : Nat → Nat} {D : Nat → DD} (mf0 : MkF h0 f o) (md0 : MkD h0 n D) (x y w : Int32) : Ct X mX9_chain 7 0 0 [vR (some 109), vI x, vI y, vI w] h0 (if nI (fo o f) ≤ x ∧ x < nI (fo o f + om f) then if y < 0 ∨ 12 ≤ y then RM h0 0 else if w = -1 then RSc (vI (nI (chF D n x.toNatClampNeg y.toNatClampNeg).2.length)) h0 else if w < 0 ∨ nI (chF D n x.toNatClampNeg y.toNatClampNeg).2.length ≤ w then RMS h0 3 else RSc (vI (nI ((chF D n x.toNatClampNeg y.toNatClampNeg).2.getD w.toNatClampNeg 0))) h0 else RM h0 0) := by
  refine ct_of rfl (Nat.le_of_ble_eq_true rfl) ?_
  have F := F0
  have md := md0
  have mf := mf0
  have hn12 := md0.2.1
  have hf4 := mf0.2.1
  have hb6 := om_fo mf0.2.1 mf0.2.2.2
  have hom := om_pos mf0.2.1
  refine e_aload_n aX9_chain_0 rfl ?_
  refine e_iload_n aX9_chain_1 rfl ?_
  refine e_invvT aX9_chain_2 kX9_222 (zX9_isOpen X F mf _) rfl rfl (fx_is F rfl) (Nat.le_of_ble_eq_true rfl) (Nat.le_of_ble_eq_true rfl) (Nat.le_refl _) (Nat.le_refl _) (Nat.le_of_ble_eq_true rfl) ?_
  refine e_if_eq aX9_chain_5 (fun c5 => ?_) (fun c5 => ?_)
  · -- 5: taken
    have q5 := b2_0.mp c5
    refine e_aload_n aX9_chain_15 rfl ?_
    refine e_iconst (v := 0) aX9_chain_16 (by decide) ?_
    refine e_invvT aX9_chain_17 kX9_128 (zX9_finds X F (k := 0) (by decide)) rfl rfl (fx_is F rfl) (Nat.le_of_ble_eq_true rfl) (Nat.le_of_ble_eq_true rfl) (Nat.le_refl _) (Nat.le_refl _) (Nat.le_of_ble_eq_true rfl) ?_
    refine e_ireturn aX9_chain_20 rfl (Nat.le_refl _) (Nat.le_refl _) ?_
    rw [if_neg q5]
    exact ⟨rfl, rfl⟩
  · -- 5: not taken
    have q5 := Decidable.of_not_not (fun z => c5 (b2_0.mpr z))
    refine e_iload_n aX9_chain_8 rfl ?_
    refine e_invsT aX9_chain_9 kX9_136 (zX9_isPick X _) rfl rfl (Nat.le_of_ble_eq_true rfl) (Nat.le_of_ble_eq_true rfl) (Nat.le_refl _) (Nat.le_refl _) (Nat.le_of_ble_eq_true rfl) ?_
    refine e_if_ne aX9_chain_12 (fun c12 => ?_) (fun c12 => ?_)
    · -- 12: taken
      have q12 := Decidable.of_not_not (fun z => c12 (b2_0.mpr z))
      obtain ⟨sz, hs1, hs2, rfl⟩ := opn_of (Nat.le_add_right _ _) hb6 q5
      obtain ⟨pz, hp, rfl⟩ := ou_of 12 (by decide) q12
      refine e_aload_n aX9_chain_21 rfl ?_
      refine e_iload_n aX9_chain_22 rfl ?_
      refine e_invv aX9_chain_23 kX9_170 (zX9_laysOut X F md (s := sz) (by omega)) rfl rfl (fx_is F rfl) (Nat.le_of_ble_eq_true rfl) (Nat.le_of_ble_eq_true rfl) (Nat.le_refl _) (Nat.le_refl _) (Nat.le_of_ble_eq_true rfl) ?_
      rintro v h2 ⟨rfl, S, LS⟩
      have F := S.F F0
      have md := S.md md0
      have mf := S.mf mf0
      refine e_aload_n aX9_chain_26 rfl ?_
      refine e_iload_n aX9_chain_27 rfl ?_
      refine e_invv aX9_chain_28 kX9_167 (zX9_chains X F md LS hp) rfl rfl (fx_is F rfl) (Nat.le_of_ble_eq_true rfl) (Nat.le_of_ble_eq_true rfl) (Nat.le_refl _) (Nat.le_refl _) (Nat.le_of_ble_eq_true rfl) ?_
      rintro v h3 ⟨rfl, S1, CC⟩
      have S := S.tr S1.up
      have F := S.F F0
      have md := S.md md0
      have mf := S.mf mf0
      have c4 := chF_ok (D := D) (n := n) (s := sz) (p := pz)
      refine e_pop aX9_chain_31 rfl ?_
      refine e_iload_n aX9_chain_32 rfl ?_
      refine e_iconst (v := -1) aX9_chain_33 (by decide) ?_
      refine e_icmp_ne aX9_chain_34 (fun c34 => ?_) (fun c34 => ?_)
      · -- 34: taken
        have q34 : ¬ w = -1 := c34
        refine e_iload_n aX9_chain_42 rfl ?_
        refine e_i2l aX9_chain_43 ?_
        refine e_lconst (v := 0) aX9_chain_44 rfl ?_
        refine e_aload_n aX9_chain_45 rfl ?_
        refine e_getIF aX9_chain_46 fX9_161 rfl (fx_is F rfl) CC.1 ?_
        refine e_iconst (v := 1) aX9_chain_49 (by decide) ?_
        refine e_isub aX9_chain_50 ?_
        refine e_i2l aX9_chain_51 ?_
        refine e_invsT aX9_chain_52 kX9_108 (zil X w (n := (chF D n sz pz).2.length) (by omega)) rfl rfl (Nat.le_of_ble_eq_true rfl) (Nat.le_of_ble_eq_true rfl) (Nat.le_refl _) (Nat.le_refl _) (Nat.le_of_ble_eq_true rfl) ?_
        refine e_if_eq aX9_chain_55 (fun c55 => ?_) (fun c55 => ?_)
        · -- 55: taken
          have q55 := Decidable.of_not_not (b2_0.mp c55)
          refine e_aload_n aX9_chain_67 rfl ?_
          refine e_iconst (v := 3) aX9_chain_68 (by decide) ?_
          refine e_invvT aX9_chain_69 kX9_128 (zX9_finds X F (k := 3) (by decide)) rfl rfl (fx_is F rfl) (Nat.le_of_ble_eq_true rfl) (Nat.le_of_ble_eq_true rfl) (Nat.le_refl _) (Nat.le_refl _) (Nat.le_of_ble_eq_true rfl) ?_
          refine e_ireturn aX9_chain_72 rfl (Nat.le_refl _) (Nat.le_refl _) ?_
          rw [if_pos q5, if_neg q12, if_neg q34, cl (by omega), cl (by omega)]
          rw [if_pos q55]
          exact ⟨rfl, _, S, rfl⟩
        · -- 55: not taken
          have q55 := Decidable.of_not_not (fun z => c55 (b2_0.mpr z))
          obtain ⟨iz, hi, rfl⟩ := ou_of (chF D n sz pz).2.length (by omega) q55
          refine e_aload_n aX9_chain_58 rfl ?_
          refine e_getRF aX9_chain_59 fX9_32 rfl (fx_is F rfl) (fx_r (b := 116) F rfl) ?_
          refine e_iload_n aX9_chain_62 rfl ?_
          refine e_ialoadF aX9_chain_63 (fx_is F rfl) (fx_n (n := 4) F rfl) (vin (N := 4) (by omega)) (show hI h3 116 (nI iz).toNatClampNeg = nI ((chF D n sz pz).2.getD iz 0) by rw [cl (by omega)]; exact CC.2 _ hi) ?_
          refine e_goto aX9_chain_64 ?_
          refine e_ireturn aX9_chain_72 rfl (Nat.le_refl _) (Nat.le_refl _) ?_
          rw [if_pos q5, if_neg q12, if_neg q34, cl (by omega), cl (by omega)]
          rw [if_neg q55]
          exact ⟨by rw [cl (by omega)], S⟩
      · -- 34: not taken
        have q34 : w = -1 := c34
        refine e_aload_n aX9_chain_37 rfl ?_
        refine e_getIF aX9_chain_38 fX9_161 rfl (fx_is F rfl) CC.1 ?_
        refine e_ireturn aX9_chain_41 rfl (Nat.le_refl _) (Nat.le_refl _) ?_
        rw [if_pos q5, if_neg q12, if_pos q34, cl (by omega), cl (by omega)]
        exact ⟨rfl, S⟩
    · -- 12: not taken
      have q12 := Decidable.of_not_not (b2_0.mp c12)
      refine e_aload_n aX9_chain_15 rfl ?_
      refine e_iconst (v := 0) aX9_chain_16 (by decide) ?_
      refine e_invvT aX9_chain_17 kX9_128 (zX9_finds X F (k := 0) (by decide)) rfl rfl (fx_is F rfl) (Nat.le_of_ble_eq_true rfl) (Nat.le_of_ble_eq_true rfl) (Nat.le_refl _) (Nat.le_refl _) (Nat.le_of_ble_eq_true rfl) ?_
      refine e_ireturn aX9_chain_20 rfl (Nat.le_refl _) (Nat.le_refl _) ?_
      rw [if_pos q5, if_pos q12]
      exact ⟨rfl, rfl⟩
theorem zX9_hand (X : EX) {h0 : HP} (F0 : Fx h0) {f n : Nat} {o : Nat → Nat} {D : Nat → DD} (mf0 : MkF h0 f o) (md0 : MkD h0 n D) (x y : Int32) : Ct X mX9_hand 7 0 0 [vR (some 109), vI x, vI y] h0 (if nI (fo o f) ≤ x ∧ x < nI (fo o f + om f) then if y < 0 ∨ 3 ≤ y then RM h0 0 else RSc (vI (hnR (owP D n y x.toNatClampNeg) 12)) h0 else RM h0 0) := by
  refine ct_of rfl (Nat.le_of_ble_eq_true rfl) ?_
  have F := F0
  have md := md0
  have mf := mf0
  have hn12 := md0.2.1
  have hf4 := mf0.2.1
  have hb6 := om_fo mf0.2.1 mf0.2.2.2
  have hom := om_pos mf0.2.1
  refine e_aload_n aX9_hand_0 rfl ?_
  refine e_iload_n aX9_hand_1 rfl ?_
  refine e_invvT aX9_hand_2 kX9_222 (zX9_isOpen X F mf _) rfl rfl (fx_is F rfl) (Nat.le_of_ble_eq_true rfl) (Nat.le_of_ble_eq_true rfl) (Nat.le_refl _) (Nat.le_refl _) (Nat.le_of_ble_eq_true rfl) ?_
  refine e_if_eq aX9_hand_5 (fun c5 => ?_) (fun c5 => ?_)
  · -- 5: taken
    have q5 := b2_0.mp c5
    refine e_aload_n aX9_hand_15 rfl ?_
    refine e_iconst (v := 0) aX9_hand_16 (by decide) ?_
    refine e_invvT aX9_hand_17 kX9_128 (zX9_finds X F (k := 0) (by decide)) rfl rfl (fx_is F rfl) (Nat.le_of_ble_eq_true rfl) (Nat.le_of_ble_eq_true rfl) (Nat.le_refl _) (Nat.le_refl _) (Nat.le_of_ble_eq_true rfl) ?_
    refine e_ireturn aX9_hand_20 rfl (Nat.le_refl _) (Nat.le_refl _) ?_
    rw [if_neg q5]
    exact ⟨rfl, rfl⟩
  · -- 5: not taken
    have q5 := Decidable.of_not_not (fun z => c5 (b2_0.mpr z))
    refine e_iload_n aX9_hand_8 rfl ?_
    refine e_invsT aX9_hand_9 kX9_191 (zX9_isClub X _) rfl rfl (Nat.le_of_ble_eq_true rfl) (Nat.le_of_ble_eq_true rfl) (Nat.le_refl _) (Nat.le_refl _) (Nat.le_of_ble_eq_true rfl) ?_
    refine e_if_ne aX9_hand_12 (fun c12 => ?_) (fun c12 => ?_)
    · -- 12: taken
      have q12 := Decidable.of_not_not (fun z => c12 (b2_0.mpr z))
      obtain ⟨sz, hs1, hs2, rfl⟩ := opn_of (Nat.le_add_right _ _) hb6 q5
      obtain ⟨iz, hi3, rfl⟩ := ou_of 3 (by decide) q12
      rw [if_pos q5, if_neg q12, cl (by omega)]
      have hs : sz < 1296 := by omega
      have loop : ∀ (m : Nat) (k : Nat) (hz : HP), k + m = 12 → Sc h0 hz → LsC hz n D sz → Ev X mX9_hand 7 0 0 (RSc (vI (hnR (owP D n (nI iz) sz) 12)) h0) 0 0 31 [(0, some (vR (some 109))), (1, some (vI (nI sz))), (2, some (vI (nI iz))), (3, some (vI (hnR (owP D n (nI iz) sz) k))), (4, some (vI (nI k)))] [] hz := by
        intro m
        induction m with
        | zero =>
          intro k hz hk S LZ
          obtain rfl : k = 12 := by omega
          have F := S.F F0
          refine e_iload aX9_hand_31 rfl ?_
          refine e_bipush (v := 12) aX9_hand_33 (by decide) ?_
          refine e_icmp_ge aX9_hand_35 (fun c35 => ?_) (fun c35 => ?_)
          · -- 35: taken
            refine e_iload_n aX9_hand_65 rfl ?_
            refine e_ireturn aX9_hand_66 rfl (Nat.le_refl _) (Nat.le_refl _) ?_
            exact ⟨rfl, S⟩
          · -- 35: not taken
            exact absurd (nI_le (a := 12) (b := 12) (by decide) (by decide)) c35
        | succ m ih =>
          intro k hz hk S LZ
          have F := S.F F0
          have md := S.md md0
          refine e_iload aX9_hand_31 rfl ?_
          refine e_bipush (v := 12) aX9_hand_33 (by decide) ?_
          refine e_icmp_ge aX9_hand_35 (fun c35 => ?_) (fun c35 => ?_)
          · -- 35: taken
            exact absurd c35 (nI_ge (a := k) (b := 12) (by omega) (by decide))
          · -- 35: not taken
            refine e_iload_n aX9_hand_38 rfl ?_
            refine e_aload_n aX9_hand_39 rfl ?_
            refine e_iload aX9_hand_40 rfl ?_
            refine e_invv aX9_hand_42 kX9_219 (zX9_ownerOf X F md LZ (p := k) (by omega)) rfl rfl (fx_is F rfl) (Nat.le_of_ble_eq_true rfl) (Nat.le_of_ble_eq_true rfl) (Nat.le_refl _) (Nat.le_refl _) (Nat.le_of_ble_eq_true rfl) ?_
            rintro v h2 ⟨rfl, S1⟩
            refine e_iload_n aX9_hand_45 rfl ?_
            refine e_icmp_ne aX9_hand_46 (fun c46 => ?_) (fun c46 => ?_)
            · -- 46: taken
              refine e_iconst (v := 0) aX9_hand_56 (by decide) ?_
              refine e_ior aX9_hand_57 ?_
              refine e_istore_n aX9_hand_58 (Nat.le_of_ble_eq_true rfl) ?_
              refine e_iinc aX9_hand_59 rfl rfl (Nat.le_of_ble_eq_true rfl) ?_
              refine e_goto aX9_hand_62 ?_
              refine e_ls (ls' := [(0, some (vR (some 109))), (1, some (vI (nI sz))), (2, some (vI (nI iz))), (3, some (vI (hnR (owP D n (nI iz) sz) (k + 1)))), (4, some (vI (nI (k + 1))))]) ⟨rfl, rfl, rfl, congrArg (fun x => some (vI x)) (by rw [hnR_s, if_neg (show ¬ owP D n (nI iz) sz k = true from fun z => c46 (of_decide_eq_true z)), Int32.or_zero]), congrArg (fun x => some (vI x)) (nI_1 k), trivial⟩ ?_
              exact ih (k + 1) h2 (by omega) (S.tr S1.up) (LZ.c1 S1)
            · -- 46: not taken
              refine e_iconst (v := 1) aX9_hand_49 (by decide) ?_
              refine e_iload aX9_hand_50 rfl ?_
              refine e_ishl aX9_hand_52 ?_
              refine e_goto aX9_hand_53 ?_
              refine e_ior aX9_hand_57 ?_
              refine e_istore_n aX9_hand_58 (Nat.le_of_ble_eq_true rfl) ?_
              refine e_iinc aX9_hand_59 rfl rfl (Nat.le_of_ble_eq_true rfl) ?_
              refine e_goto aX9_hand_62 ?_
              refine e_ls (ls' := [(0, some (vR (some 109))), (1, some (vI (nI sz))), (2, some (vI (nI iz))), (3, some (vI (hnR (owP D n (nI iz) sz) (k + 1)))), (4, some (vI (nI (k + 1))))]) ⟨rfl, rfl, rfl, congrArg (fun x => some (vI x)) (by rw [hnR_s, if_pos (show owP D n (nI iz) sz k = true from decide_eq_true c46)]), congrArg (fun x => some (vI x)) (nI_1 k), trivial⟩ ?_
              exact ih (k + 1) h2 (by omega) (S.tr S1.up) (LZ.c1 S1)
      refine e_aload_n aX9_hand_21 rfl ?_
      refine e_iload_n aX9_hand_22 rfl ?_
      refine e_invv aX9_hand_23 kX9_170 (zX9_laysOut X F md hs) rfl rfl (fx_is F rfl) (Nat.le_of_ble_eq_true rfl) (Nat.le_of_ble_eq_true rfl) (Nat.le_refl _) (Nat.le_refl _) (Nat.le_of_ble_eq_true rfl) ?_
      rintro v h2 ⟨rfl, S, LZ⟩
      refine e_iconst (v := 0) aX9_hand_26 (by decide) ?_
      refine e_istore_n aX9_hand_27 (Nat.le_of_ble_eq_true rfl) ?_
      refine e_iconst (v := 0) aX9_hand_28 (by decide) ?_
      refine e_istore aX9_hand_29 (Nat.le_of_ble_eq_true rfl) ?_
      refine e_ls (ls' := [(0, some (vR (some 109))), (1, some (vI (nI sz))), (2, some (vI (nI iz))), (3, some (vI (hnR (owP D n (nI iz) sz) 0))), (4, some (vI (nI 0)))]) ⟨rfl, rfl, rfl, rfl, rfl, trivial⟩ ?_
      exact loop 12 0 h2 rfl S LZ
    · -- 12: not taken
      have q12 := Decidable.of_not_not (b2_0.mp c12)
      refine e_aload_n aX9_hand_15 rfl ?_
      refine e_iconst (v := 0) aX9_hand_16 (by decide) ?_
      refine e_invvT aX9_hand_17 kX9_128 (zX9_finds X F (k := 0) (by decide)) rfl rfl (fx_is F rfl) (Nat.le_of_ble_eq_true rfl) (Nat.le_of_ble_eq_true rfl) (Nat.le_refl _) (Nat.le_refl _) (Nat.le_of_ble_eq_true rfl) ?_
      refine e_ireturn aX9_hand_20 rfl (Nat.le_refl _) (Nat.le_refl _) ?_
      rw [if_pos q5, if_pos q12]
      exact ⟨rfl, rfl⟩
theorem zX9_chanceOf (X : EX) {h0 : HP} (F0 : Fx h0) {f n : Nat} {o : Nat → Nat} {D : Nat → DD} (mf0 : MkF h0 f o) (md0 : MkD h0 n D) {p : Nat} (hp : p < 12) (y : Int32) : Ct X mX9_chanceOf 8 0 0 [vR (some 109), vI (nI p), vI y] h0 (RSc (vI (nI (cnW (fun s => owP D n y s p) (fo o f) (om f)))) h0) := by
  refine ct_of rfl (Nat.le_of_ble_eq_true rfl) ?_
  have F := F0
  have md := md0
  have mf := mf0
  have hn12 := md0.2.1
  have hf4 := mf0.2.1
  have hb6 := om_fo mf0.2.1 mf0.2.2.2
  have hom := om_pos mf0.2.1
  have loop : ∀ (m : Nat) (k : Nat) (hz : HP), k + m = om f → Sc h0 hz → Ev X mX9_chanceOf 8 0 0 (RSc (vI (nI (cnW (fun s => owP D n y s p) (fo o f) (om f)))) h0) 0 0 12 [(0, some (vR (some 109))), (1, some (vI (nI p))), (2, some (vI y)), (3, some (vI (nI (cnW (fun s => owP D n y s p) (fo o f) k)))), (4, some (vI (nI (fo o f)))), (5, some (vI (nI (fo o f + k))))] [] hz := by
    intro m
    induction m with
    | zero =>
      intro k hz hk S
      obtain rfl : k = om f := by omega
      have F := S.F F0
      have md := S.md md0
      have mf := S.mf mf0
      refine e_iload aX9_chanceOf_12 rfl ?_
      refine e_iload aX9_chanceOf_14 rfl ?_
      refine e_aload_n aX9_chanceOf_16 rfl ?_
      refine e_invvT aX9_chanceOf_17 kX9_123 (zX9_openMany X F mf) rfl rfl (fx_is F rfl) (Nat.le_of_ble_eq_true rfl) (Nat.le_of_ble_eq_true rfl) (Nat.le_refl _) (Nat.le_refl _) (Nat.le_of_ble_eq_true rfl) ?_
      refine e_iadd aX9_chanceOf_20 ?_
      refine e_top (nI_add _ _) ?_
      refine e_icmp_ge aX9_chanceOf_21 (fun c21 => ?_) (fun c21 => ?_)
      · -- 21: taken
        refine e_iload_n aX9_chanceOf_49 rfl ?_
        refine e_ireturn aX9_chanceOf_50 rfl (Nat.le_refl _) (Nat.le_refl _) ?_
        exact ⟨rfl, S⟩
      · -- 21: not taken
        exact absurd (nI_le (by omega) (by omega)) c21
    | succ m ih =>
      intro k hz hk S
      have F := S.F F0
      have md := S.md md0
      have mf := S.mf mf0
      refine e_iload aX9_chanceOf_12 rfl ?_
      refine e_iload aX9_chanceOf_14 rfl ?_
      refine e_aload_n aX9_chanceOf_16 rfl ?_
      refine e_invvT aX9_chanceOf_17 kX9_123 (zX9_openMany X F mf) rfl rfl (fx_is F rfl) (Nat.le_of_ble_eq_true rfl) (Nat.le_of_ble_eq_true rfl) (Nat.le_refl _) (Nat.le_refl _) (Nat.le_of_ble_eq_true rfl) ?_
      refine e_iadd aX9_chanceOf_20 ?_
      refine e_top (nI_add _ _) ?_
      refine e_icmp_ge aX9_chanceOf_21 (fun c21 => ?_) (fun c21 => ?_)
      · -- 21: taken
        exact absurd c21 (nI_ge (by omega) (by omega))
      · -- 21: not taken
        refine e_iload_n aX9_chanceOf_24 rfl ?_
        refine e_aload_n aX9_chanceOf_25 rfl ?_
        refine e_iload aX9_chanceOf_26 rfl ?_
        refine e_iload_n aX9_chanceOf_28 rfl ?_
        refine e_invv aX9_chanceOf_29 kX9_225 (zX9_ownerUnder X F md (s := fo o f + k) (by omega) hp) rfl rfl (fx_is F rfl) (Nat.le_of_ble_eq_true rfl) (Nat.le_of_ble_eq_true rfl) (Nat.le_refl _) (Nat.le_refl _) (Nat.le_of_ble_eq_true rfl) ?_
        rintro v h2 ⟨rfl, S1⟩
        refine e_iload_n aX9_chanceOf_32 rfl ?_
        refine e_icmp_ne aX9_chanceOf_33 (fun c33 => ?_) (fun c33 => ?_)
        · -- 33: taken
          refine e_iconst (v := 0) aX9_chanceOf_40 (by decide) ?_
          refine e_iadd aX9_chanceOf_41 ?_
          refine e_istore_n aX9_chanceOf_42 (Nat.le_of_ble_eq_true rfl) ?_
          refine e_iinc aX9_chanceOf_43 rfl rfl (Nat.le_of_ble_eq_true rfl) ?_
          refine e_goto aX9_chanceOf_46 ?_
          refine e_ls (ls' := [(0, some (vR (some 109))), (1, some (vI (nI p))), (2, some (vI y)), (3, some (vI (nI (cnW (fun s => owP D n y s p) (fo o f) (k + 1))))), (4, some (vI (nI (fo o f)))), (5, some (vI (nI (fo o f + (k + 1)))))]) ⟨rfl, rfl, rfl, congrArg (fun x => some (vI x)) ((Int32.add_zero _).trans ((congrArg nI (cnW_f (P := (fun s => owP D n y s p)) (a := fo o f) (m := k) (decide_eq_false c33))).symm)), rfl, congrArg (fun x => some (vI x)) (nI_1 (fo o f + k)), trivial⟩ ?_
          exact ih (k + 1) h2 (by omega) (S.tr S1)
        · -- 33: not taken
          refine e_iconst (v := 1) aX9_chanceOf_36 (by decide) ?_
          refine e_goto aX9_chanceOf_37 ?_
          refine e_iadd aX9_chanceOf_41 ?_
          refine e_istore_n aX9_chanceOf_42 (Nat.le_of_ble_eq_true rfl) ?_
          refine e_iinc aX9_chanceOf_43 rfl rfl (Nat.le_of_ble_eq_true rfl) ?_
          refine e_goto aX9_chanceOf_46 ?_
          refine e_ls (ls' := [(0, some (vR (some 109))), (1, some (vI (nI p))), (2, some (vI y)), (3, some (vI (nI (cnW (fun s => owP D n y s p) (fo o f) (k + 1))))), (4, some (vI (nI (fo o f)))), (5, some (vI (nI (fo o f + (k + 1)))))]) ⟨rfl, rfl, rfl, congrArg (fun x => some (vI x)) ((nI_1 _).trans (congrArg nI (cnW_t (P := (fun s => owP D n y s p)) (a := fo o f) (m := k) (decide_eq_true c33)).symm)), rfl, congrArg (fun x => some (vI x)) (nI_1 (fo o f + k)), trivial⟩ ?_
          exact ih (k + 1) h2 (by omega) (S.tr S1)
  refine e_iconst (v := 0) aX9_chanceOf_0 (by decide) ?_
  refine e_istore_n aX9_chanceOf_1 (Nat.le_of_ble_eq_true rfl) ?_
  refine e_aload_n aX9_chanceOf_2 rfl ?_
  refine e_invvT aX9_chanceOf_3 kX9_119 (zX9_openFrom X F mf) rfl rfl (fx_is F rfl) (Nat.le_of_ble_eq_true rfl) (Nat.le_of_ble_eq_true rfl) (Nat.le_refl _) (Nat.le_refl _) (Nat.le_of_ble_eq_true rfl) ?_
  refine e_istore aX9_chanceOf_6 (Nat.le_of_ble_eq_true rfl) ?_
  refine e_iload aX9_chanceOf_8 rfl ?_
  refine e_istore aX9_chanceOf_10 (Nat.le_of_ble_eq_true rfl) ?_
  refine e_ls (ls' := [(0, some (vR (some 109))), (1, some (vI (nI p))), (2, some (vI y)), (3, some (vI (nI (cnW (fun s => owP D n y s p) (fo o f) 0)))), (4, some (vI (nI (fo o f)))), (5, some (vI (nI (fo o f + 0))))]) ⟨rfl, rfl, rfl, rfl, rfl, rfl, trivial⟩ ?_
  exact loop (om f) 0 h0 (by omega) (Sf.rf h0)
def owSt (D : Nat → DD) (n f : Nat) (o : Nat → Nat) (p c : Nat) : Nat := cnW (fun s => owP D n (nI c) s p) (fo o f) (om f)
theorem zX9_owners (X : EX) {h0 : HP} (F0 : Fx h0) {f n : Nat} {o : Nat → Nat} {D : Nat → DD} (mf0 : MkF h0 f o) (md0 : MkD h0 n D) (x : Int32) : Ct X mX9_owners 9 0 0 [vR (some 109), vI x] h0 (if x < 0 ∨ 12 ≤ x then RM h0 0 else RSc (vI (hnR (fun c => decide (0 < owSt D n f o x.toNatClampNeg c)) 3)) h0) := by
  refine ct_of rfl (Nat.le_of_ble_eq_true rfl) ?_
  have F := F0
  have md := md0
  have mf := mf0
  have hn12 := md0.2.1
  have hf4 := mf0.2.1
  have hb6 := om_fo mf0.2.1 mf0.2.2.2
  have hom := om_pos mf0.2.1
  refine e_iload_n aX9_owners_0 rfl ?_
  refine e_invsT aX9_owners_1 kX9_136 (zX9_isPick X _) rfl rfl (Nat.le_of_ble_eq_true rfl) (Nat.le_of_ble_eq_true rfl) (Nat.le_refl _) (Nat.le_refl _) (Nat.le_of_ble_eq_true rfl) ?_
  refine e_if_ne aX9_owners_4 (fun c4 => ?_) (fun c4 => ?_)
  · -- 4: taken
    have q4 := Decidable.of_not_not (fun z => c4 (b2_0.mpr z))
    obtain ⟨pz, hp, rfl⟩ := ou_of 12 (by decide) q4
    rw [if_neg q4, cl (by omega)]
    have loop : ∀ (m : Nat) (k : Nat) (hz : HP), k + m = 3 → Sc h0 hz → Ev X mX9_owners 9 0 0 (RSc (vI (hnR (fun c => decide (0 < owSt D n f o pz c)) 3)) h0) 0 0 17 [(0, some (vR (some 109))), (1, some (vI (nI pz))), (2, some (vI (hnR (fun c => decide (0 < owSt D n f o pz c)) k))), (3, some (vI (nI k)))] [] hz := by
      intro m
      induction m with
      | zero =>
        intro k hz hk S
        obtain rfl : k = 3 := by omega
        have F := S.F F0
        have md := S.md md0
        have mf := S.mf mf0
        refine e_iload_n aX9_owners_17 rfl ?_
        refine e_iconst (v := 3) aX9_owners_18 (by decide) ?_
        refine e_icmp_ge aX9_owners_19 (fun c19 => ?_) (fun c19 => ?_)
        · -- 19: taken
          refine e_iload_n aX9_owners_47 rfl ?_
          refine e_ireturn aX9_owners_48 rfl (Nat.le_refl _) (Nat.le_refl _) ?_
          exact ⟨rfl, S⟩
        · -- 19: not taken
          exact absurd (nI_le (a := 3) (b := 3) (by decide) (by decide)) c19
      | succ m ih =>
        intro k hz hk S
        have F := S.F F0
        have md := S.md md0
        have mf := S.mf mf0
        refine e_iload_n aX9_owners_17 rfl ?_
        refine e_iconst (v := 3) aX9_owners_18 (by decide) ?_
        refine e_icmp_ge aX9_owners_19 (fun c19 => ?_) (fun c19 => ?_)
        · -- 19: taken
          exact absurd c19 (nI_ge (a := k) (b := 3) (by omega) (by decide))
        · -- 19: not taken
          refine e_iload_n aX9_owners_22 rfl ?_
          refine e_aload_n aX9_owners_23 rfl ?_
          refine e_iload_n aX9_owners_24 rfl ?_
          refine e_iload_n aX9_owners_25 rfl ?_
          refine e_invv aX9_owners_26 kX9_228 (zX9_chanceOf X F mf md hp (nI k)) rfl rfl (fx_is F rfl) (Nat.le_of_ble_eq_true rfl) (Nat.le_of_ble_eq_true rfl) (Nat.le_refl _) (Nat.le_refl _) (Nat.le_of_ble_eq_true rfl) ?_
          rintro v h2 ⟨rfl, S1⟩
          have hcn : owSt D n f o pz k ≤ 1296 := Nat.le_trans (cnW_le (P := fun s => owP D n (nI k) s pz) (a := fo o f) (om f)) (om_lt hf4)
          refine e_if_le aX9_owners_29 (fun c29 => ?_) (fun c29 => ?_)
          · -- 29: taken
            have q29 : ¬ 0 < owSt D n f o pz k := (not_congr (nI_ltI (a := 0) (by decide) (by omega))).mp (Int32.not_lt.mpr c29)
            refine e_iconst (v := 0) aX9_owners_38 (by decide) ?_
            refine e_ior aX9_owners_39 ?_
            refine e_istore_n aX9_owners_40 (Nat.le_of_ble_eq_true rfl) ?_
            refine e_iinc aX9_owners_41 rfl rfl (Nat.le_of_ble_eq_true rfl) ?_
            refine e_goto aX9_owners_44 ?_
            refine e_ls (ls' := [(0, some (vR (some 109))), (1, some (vI (nI pz))), (2, some (vI (hnR (fun c => decide (0 < owSt D n f o pz c)) (k + 1)))), (3, some (vI (nI (k + 1))))]) ⟨rfl, rfl, congrArg (fun x => some (vI x)) (by rw [hnR_s, if_neg (fun z => q29 (of_decide_eq_true z)), Int32.or_zero]), congrArg (fun x => some (vI x)) (nI_1 k), trivial⟩ ?_
            exact ih (k + 1) h2 (by omega) (S.tr S1)
          · -- 29: not taken
            have q29 : 0 < owSt D n f o pz k := (nI_ltI (a := 0) (by decide) (by omega)).mp (Int32.not_le.mp c29)
            refine e_iconst (v := 1) aX9_owners_32 (by decide) ?_
            refine e_iload_n aX9_owners_33 rfl ?_
            refine e_ishl aX9_owners_34 ?_
            refine e_goto aX9_owners_35 ?_
            refine e_ior aX9_owners_39 ?_
            refine e_istore_n aX9_owners_40 (Nat.le_of_ble_eq_true rfl) ?_
            refine e_iinc aX9_owners_41 rfl rfl (Nat.le_of_ble_eq_true rfl) ?_
            refine e_goto aX9_owners_44 ?_
            refine e_ls (ls' := [(0, some (vR (some 109))), (1, some (vI (nI pz))), (2, some (vI (hnR (fun c => decide (0 < owSt D n f o pz c)) (k + 1)))), (3, some (vI (nI (k + 1))))]) ⟨rfl, rfl, congrArg (fun x => some (vI x)) (by rw [hnR_s, if_pos (decide_eq_true q29)]), congrArg (fun x => some (vI x)) (nI_1 k), trivial⟩ ?_
            exact ih (k + 1) h2 (by omega) (S.tr S1)
    refine e_iconst (v := 0) aX9_owners_13 (by decide) ?_
    refine e_istore_n aX9_owners_14 (Nat.le_of_ble_eq_true rfl) ?_
    refine e_iconst (v := 0) aX9_owners_15 (by decide) ?_
    refine e_istore_n aX9_owners_16 (Nat.le_of_ble_eq_true rfl) ?_
    refine e_ls (ls' := [(0, some (vR (some 109))), (1, some (vI (nI pz))), (2, some (vI (hnR (fun c => decide (0 < owSt D n f o pz c)) 0))), (3, some (vI (nI 0)))]) ⟨rfl, rfl, rfl, rfl, trivial⟩ ?_
    exact loop 3 0 h0 rfl (Sf.rf h0)
  · -- 4: not taken
    have q4 := Decidable.of_not_not (b2_0.mp c4)
    refine e_aload_n aX9_owners_7 rfl ?_
    refine e_iconst (v := 0) aX9_owners_8 (by decide) ?_
    refine e_invvT aX9_owners_9 kX9_128 (zX9_finds X F (k := 0) (by decide)) rfl rfl (fx_is F rfl) (Nat.le_of_ble_eq_true rfl) (Nat.le_of_ble_eq_true rfl) (Nat.le_refl _) (Nat.le_refl _) (Nat.le_of_ble_eq_true rfl) ?_
    refine e_ireturn aX9_owners_12 rfl (Nat.le_refl _) (Nat.le_refl _) ?_
    rw [if_pos q4]
    exact ⟨rfl, rfl⟩
theorem zX9_sure (X : EX) {h0 : HP} (F0 : Fx h0) {f n : Nat} {o : Nat → Nat} {D : Nat → DD} (mf0 : MkF h0 f o) (md0 : MkD h0 n D) (x : Int32) : Ct X mX9_sure 9 0 0 [vR (some 109), vI x] h0 (if x < 0 ∨ 12 ≤ x then RM h0 0 else rMS h0 (frW (fun c => decide (owSt D n f o x.toNatClampNeg c = om f)) 0 3)) := by
  refine ct_of rfl (Nat.le_of_ble_eq_true rfl) ?_
  have F := F0
  have md := md0
  have mf := mf0
  have hn12 := md0.2.1
  have hf4 := mf0.2.1
  have hb6 := om_fo mf0.2.1 mf0.2.2.2
  have hom := om_pos mf0.2.1
  refine e_iload_n aX9_sure_0 rfl ?_
  refine e_invsT aX9_sure_1 kX9_136 (zX9_isPick X _) rfl rfl (Nat.le_of_ble_eq_true rfl) (Nat.le_of_ble_eq_true rfl) (Nat.le_refl _) (Nat.le_refl _) (Nat.le_of_ble_eq_true rfl) ?_
  refine e_if_ne aX9_sure_4 (fun c4 => ?_) (fun c4 => ?_)
  · -- 4: taken
    have q4 := Decidable.of_not_not (fun z => c4 (b2_0.mpr z))
    obtain ⟨pz, hp, rfl⟩ := ou_of 12 (by decide) q4
    rw [if_neg q4, cl (by omega)]
    have loop : ∀ (m : Nat) (k : Nat) (hz : HP), k + m = 3 → Sc h0 hz → frW (fun c => decide (owSt D n f o pz c = om f)) k m = frW (fun c => decide (owSt D n f o pz c = om f)) 0 3 → Ev X mX9_sure 9 0 0 (rMS h0 (frW (fun c => decide (owSt D n f o pz c = om f)) 0 3)) 0 0 15 [(0, some (vR (some 109))), (1, some (vI (nI pz))), (2, some (vI (nI k)))] [] hz := by
      intro m
      induction m with
      | zero =>
        intro k hz hk S hR9
        obtain rfl : k = 3 := by omega
        have F := S.F F0
        have md := S.md md0
        have mf := S.mf mf0
        refine e_iload_n aX9_sure_15 rfl ?_
        refine e_iconst (v := 3) aX9_sure_16 (by decide) ?_
        refine e_icmp_ge aX9_sure_17 (fun c17 => ?_) (fun c17 => ?_)
        · -- 17: taken
          refine e_aload_n aX9_sure_41 rfl ?_
          refine e_iconst (v := 3) aX9_sure_42 (by decide) ?_
          refine e_invvT aX9_sure_43 kX9_128 (zX9_finds X F (k := 3) (by decide)) rfl rfl (fx_is F rfl) (Nat.le_of_ble_eq_true rfl) (Nat.le_of_ble_eq_true rfl) (Nat.le_refl _) (Nat.le_refl _) (Nat.le_of_ble_eq_true rfl) ?_
          refine e_ireturn aX9_sure_46 rfl (Nat.le_refl _) (Nat.le_refl _) ?_
          rw [← hR9]
          exact ⟨rfl, _, S, rfl⟩
        · -- 17: not taken
          exact absurd (nI_le (a := 3) (b := 3) (by decide) (by decide)) c17
      | succ m ih =>
        intro k hz hk S hR9
        have F := S.F F0
        have md := S.md md0
        have mf := S.mf mf0
        refine e_iload_n aX9_sure_15 rfl ?_
        refine e_iconst (v := 3) aX9_sure_16 (by decide) ?_
        refine e_icmp_ge aX9_sure_17 (fun c17 => ?_) (fun c17 => ?_)
        · -- 17: taken
          exact absurd c17 (nI_ge (a := k) (b := 3) (by omega) (by decide))
        · -- 17: not taken
          refine e_aload_n aX9_sure_20 rfl ?_
          refine e_iload_n aX9_sure_21 rfl ?_
          refine e_iload_n aX9_sure_22 rfl ?_
          refine e_invv aX9_sure_23 kX9_228 (zX9_chanceOf X F mf md hp (nI k)) rfl rfl (fx_is F rfl) (Nat.le_of_ble_eq_true rfl) (Nat.le_of_ble_eq_true rfl) (Nat.le_refl _) (Nat.le_refl _) (Nat.le_of_ble_eq_true rfl) ?_
          rintro v h2 ⟨rfl, S1⟩
          have S := S.tr S1
          have F := S.F F0
          have md := S.md md0
          have mf := S.mf mf0
          have hcn := Nat.le_trans (cnW_le (P := fun s => owP D n (nI k) s pz) (a := fo o f) (om f)) (om_lt hf4)
          have hol := om_lt hf4
          refine e_aload_n aX9_sure_26 rfl ?_
          refine e_invvT aX9_sure_27 kX9_123 (zX9_openMany X F mf) rfl rfl (fx_is F rfl) (Nat.le_of_ble_eq_true rfl) (Nat.le_of_ble_eq_true rfl) (Nat.le_refl _) (Nat.le_refl _) (Nat.le_of_ble_eq_true rfl) ?_
          refine e_icmp_ne aX9_sure_30 (fun c30 => ?_) (fun c30 => ?_)
          · -- 30: taken
            have q30 : ¬ owSt D n f o pz k = om f := fun z => c30 (congrArg nI z)
            refine e_iinc aX9_sure_35 rfl rfl (Nat.le_of_ble_eq_true rfl) ?_
            refine e_goto aX9_sure_38 ?_
            refine e_ls (ls' := [(0, some (vR (some 109))), (1, some (vI (nI pz))), (2, some (vI (nI (k + 1))))]) ⟨rfl, rfl, congrArg (fun x => some (vI x)) (nI_1 k), trivial⟩ ?_
            exact ih (k + 1) h2 (by omega) S (by rw [← hR9, frW_f (fun z => q30 (of_decide_eq_true z))])
          · -- 30: not taken
            have q30 : owSt D n f o pz k = om f := (nI_eq (by show cnW _ _ _ < _; omega) (by omega)).mp c30
            refine e_iload_n aX9_sure_33 rfl ?_
            refine e_ireturn aX9_sure_34 rfl (Nat.le_refl _) (Nat.le_refl _) ?_
            rw [← hR9, frW_t (decide_eq_true q30)]
            exact ⟨rfl, S⟩
    refine e_iconst (v := 0) aX9_sure_13 (by decide) ?_
    refine e_istore_n aX9_sure_14 (Nat.le_of_ble_eq_true rfl) ?_
    refine e_ls (ls' := [(0, some (vR (some 109))), (1, some (vI (nI pz))), (2, some (vI (nI 0)))]) ⟨rfl, rfl, rfl, trivial⟩ ?_
    exact loop 3 0 h0 rfl (Sf.rf h0) rfl
  · -- 4: not taken
    have q4 := Decidable.of_not_not (b2_0.mp c4)
    refine e_aload_n aX9_sure_7 rfl ?_
    refine e_iconst (v := 0) aX9_sure_8 (by decide) ?_
    refine e_invvT aX9_sure_9 kX9_128 (zX9_finds X F (k := 0) (by decide)) rfl rfl (fx_is F rfl) (Nat.le_of_ble_eq_true rfl) (Nat.le_of_ble_eq_true rfl) (Nat.le_refl _) (Nat.le_refl _) (Nat.le_of_ble_eq_true rfl) ?_
    refine e_ireturn aX9_sure_12 rfl (Nat.le_refl _) (Nat.le_refl _) ?_
    rw [if_pos q4]
    exact ⟨rfl, rfl⟩
theorem zX9_chance (X : EX) {h0 : HP} (F0 : Fx h0) {f n : Nat} {o : Nat → Nat} {D : Nat → DD} (mf0 : MkF h0 f o) (md0 : MkD h0 n D) (x y : Int32) : Ct X mX9_chance 9 0 0 [vR (some 109), vI x, vI y] h0 (if x < 0 ∨ 12 ≤ x then RM h0 0 else if y < 0 ∨ 3 ≤ y then RM h0 0 else RSc (vI (nI (cnW (fun s => owP D n y s x.toNatClampNeg) (fo o f) (om f)))) h0) := by
  refine ct_of rfl (Nat.le_of_ble_eq_true rfl) ?_
  have F := F0
  have md := md0
  have mf := mf0
  have hn12 := md0.2.1
  have hf4 := mf0.2.1
  have hb6 := om_fo mf0.2.1 mf0.2.2.2
  have hom := om_pos mf0.2.1
  refine e_iload_n aX9_chance_0 rfl ?_
  refine e_invsT aX9_chance_1 kX9_136 (zX9_isPick X _) rfl rfl (Nat.le_of_ble_eq_true rfl) (Nat.le_of_ble_eq_true rfl) (Nat.le_refl _) (Nat.le_refl _) (Nat.le_of_ble_eq_true rfl) ?_
  refine e_if_eq aX9_chance_4 (fun c4 => ?_) (fun c4 => ?_)
  · -- 4: taken
    have q4 := Decidable.of_not_not (b2_0.mp c4)
    refine e_aload_n aX9_chance_23 rfl ?_
    refine e_iconst (v := 0) aX9_chance_24 (by decide) ?_
    refine e_invvT aX9_chance_25 kX9_128 (zX9_finds X F (k := 0) (by decide)) rfl rfl (fx_is F rfl) (Nat.le_of_ble_eq_true rfl) (Nat.le_of_ble_eq_true rfl) (Nat.le_refl _) (Nat.le_refl _) (Nat.le_of_ble_eq_true rfl) ?_
    refine e_ireturn aX9_chance_28 rfl (Nat.le_refl _) (Nat.le_refl _) ?_
    rw [if_pos q4]
    exact ⟨rfl, rfl⟩
  · -- 4: not taken
    have q4 := Decidable.of_not_not (fun z => c4 (b2_0.mpr z))
    refine e_iload_n aX9_chance_7 rfl ?_
    refine e_invsT aX9_chance_8 kX9_191 (zX9_isClub X _) rfl rfl (Nat.le_of_ble_eq_true rfl) (Nat.le_of_ble_eq_true rfl) (Nat.le_refl _) (Nat.le_refl _) (Nat.le_of_ble_eq_true rfl) ?_
    refine e_if_eq aX9_chance_11 (fun c11 => ?_) (fun c11 => ?_)
    · -- 11: taken
      have q11 := Decidable.of_not_not (b2_0.mp c11)
      refine e_aload_n aX9_chance_23 rfl ?_
      refine e_iconst (v := 0) aX9_chance_24 (by decide) ?_
      refine e_invvT aX9_chance_25 kX9_128 (zX9_finds X F (k := 0) (by decide)) rfl rfl (fx_is F rfl) (Nat.le_of_ble_eq_true rfl) (Nat.le_of_ble_eq_true rfl) (Nat.le_refl _) (Nat.le_refl _) (Nat.le_of_ble_eq_true rfl) ?_
      refine e_ireturn aX9_chance_28 rfl (Nat.le_refl _) (Nat.le_refl _) ?_
      rw [if_neg q4, if_pos q11]
      exact ⟨rfl, rfl⟩
    · -- 11: not taken
      have q11 := Decidable.of_not_not (fun z => c11 (b2_0.mpr z))
      obtain ⟨pz, hp, rfl⟩ := ou_of 12 (by decide) q4
      refine e_aload_n aX9_chance_14 rfl ?_
      refine e_iload_n aX9_chance_15 rfl ?_
      refine e_iload_n aX9_chance_16 rfl ?_
      refine e_invv aX9_chance_17 kX9_228 (zX9_chanceOf X F mf md hp y) rfl rfl (fx_is F rfl) (Nat.le_of_ble_eq_true rfl) (Nat.le_of_ble_eq_true rfl) (Nat.le_refl _) (Nat.le_refl _) (Nat.le_of_ble_eq_true rfl) ?_
      rintro v h2 ⟨rfl, S⟩
      refine e_goto aX9_chance_20 ?_
      refine e_ireturn aX9_chance_28 rfl (Nat.le_refl _) (Nat.le_refl _) ?_
      rw [if_neg q4, if_neg q11, cl (by omega)]
      exact ⟨rfl, S⟩
theorem zX9_least (X : EX) {h0 : HP} (F0 : Fx h0) {f n : Nat} {o : Nat → Nat} {D : Nat → DD} (mf0 : MkF h0 f o) (md0 : MkD h0 n D) (x y : Int32) : Ct X mX9_least 8 0 0 [vR (some 109), vI x, vI y] h0 (if x < 0 ∨ 12 ≤ x then RM h0 0 else if y < 0 ∨ 3 ≤ y then RM h0 0 else rMS h0 (frW (fun s => owP D n y s x.toNatClampNeg) (fo o f) (om f))) := by
  refine ct_of rfl (Nat.le_of_ble_eq_true rfl) ?_
  have F := F0
  have md := md0
  have mf := mf0
  have hn12 := md0.2.1
  have hf4 := mf0.2.1
  have hb6 := om_fo mf0.2.1 mf0.2.2.2
  have hom := om_pos mf0.2.1
  refine e_iload_n aX9_least_0 rfl ?_
  refine e_invsT aX9_least_1 kX9_136 (zX9_isPick X _) rfl rfl (Nat.le_of_ble_eq_true rfl) (Nat.le_of_ble_eq_true rfl) (Nat.le_refl _) (Nat.le_refl _) (Nat.le_of_ble_eq_true rfl) ?_
  refine e_if_eq aX9_least_4 (fun c4 => ?_) (fun c4 => ?_)
  · -- 4: taken
    have q4 := Decidable.of_not_not (b2_0.mp c4)
    refine e_aload_n aX9_least_14 rfl ?_
    refine e_iconst (v := 0) aX9_least_15 (by decide) ?_
    refine e_invvT aX9_least_16 kX9_128 (zX9_finds X F (k := 0) (by decide)) rfl rfl (fx_is F rfl) (Nat.le_of_ble_eq_true rfl) (Nat.le_of_ble_eq_true rfl) (Nat.le_refl _) (Nat.le_refl _) (Nat.le_of_ble_eq_true rfl) ?_
    refine e_ireturn aX9_least_19 rfl (Nat.le_refl _) (Nat.le_refl _) ?_
    rw [if_pos q4]
    exact ⟨rfl, rfl⟩
  · -- 4: not taken
    have q4 := Decidable.of_not_not (fun z => c4 (b2_0.mpr z))
    refine e_iload_n aX9_least_7 rfl ?_
    refine e_invsT aX9_least_8 kX9_191 (zX9_isClub X _) rfl rfl (Nat.le_of_ble_eq_true rfl) (Nat.le_of_ble_eq_true rfl) (Nat.le_refl _) (Nat.le_refl _) (Nat.le_of_ble_eq_true rfl) ?_
    refine e_if_ne aX9_least_11 (fun c11 => ?_) (fun c11 => ?_)
    · -- 11: taken
      have q11 := Decidable.of_not_not (fun z => c11 (b2_0.mpr z))
      obtain ⟨pz, hp, rfl⟩ := ou_of 12 (by decide) q4
      rw [if_neg q4, if_neg q11, cl (by omega)]
      have loop : ∀ (m : Nat) (k : Nat) (hz : HP), k + m = fo o f + om f → Sc h0 hz → frW (fun s => owP D n y s pz) k m = frW (fun s => owP D n y s pz) (fo o f) (om f) → Ev X mX9_least 8 0 0 (rMS h0 (frW (fun s => owP D n y s pz) (fo o f) (om f))) 0 0 28 [(0, some (vR (some 109))), (1, some (vI (nI pz))), (2, some (vI y)), (3, some (vI (nI (fo o f)))), (4, some (vI (nI k)))] [] hz := by
        intro m
        induction m with
        | zero =>
          intro k hz hk S hR9
          obtain rfl : k = fo o f + om f := by omega
          have F := S.F F0
          have md := S.md md0
          have mf := S.mf mf0
          refine e_iload aX9_least_28 rfl ?_
          refine e_iload_n aX9_least_30 rfl ?_
          refine e_aload_n aX9_least_31 rfl ?_
          refine e_invvT aX9_least_32 kX9_123 (zX9_openMany X F mf) rfl rfl (fx_is F rfl) (Nat.le_of_ble_eq_true rfl) (Nat.le_of_ble_eq_true rfl) (Nat.le_refl _) (Nat.le_refl _) (Nat.le_of_ble_eq_true rfl) ?_
          refine e_iadd aX9_least_35 ?_
          refine e_top (nI_add _ _) ?_
          refine e_icmp_ge aX9_least_36 (fun c36 => ?_) (fun c36 => ?_)
          · -- 36: taken
            refine e_aload_n aX9_least_59 rfl ?_
            refine e_iconst (v := 3) aX9_least_60 (by decide) ?_
            refine e_invvT aX9_least_61 kX9_128 (zX9_finds X F (k := 3) (by decide)) rfl rfl (fx_is F rfl) (Nat.le_of_ble_eq_true rfl) (Nat.le_of_ble_eq_true rfl) (Nat.le_refl _) (Nat.le_refl _) (Nat.le_of_ble_eq_true rfl) ?_
            refine e_ireturn aX9_least_64 rfl (Nat.le_refl _) (Nat.le_refl _) ?_
            rw [← hR9]
            exact ⟨rfl, _, S, rfl⟩
          · -- 36: not taken
            exact absurd (nI_le (by omega) (by omega)) c36
        | succ m ih =>
          intro k hz hk S hR9
          have F := S.F F0
          have md := S.md md0
          have mf := S.mf mf0
          refine e_iload aX9_least_28 rfl ?_
          refine e_iload_n aX9_least_30 rfl ?_
          refine e_aload_n aX9_least_31 rfl ?_
          refine e_invvT aX9_least_32 kX9_123 (zX9_openMany X F mf) rfl rfl (fx_is F rfl) (Nat.le_of_ble_eq_true rfl) (Nat.le_of_ble_eq_true rfl) (Nat.le_refl _) (Nat.le_refl _) (Nat.le_of_ble_eq_true rfl) ?_
          refine e_iadd aX9_least_35 ?_
          refine e_top (nI_add _ _) ?_
          refine e_icmp_ge aX9_least_36 (fun c36 => ?_) (fun c36 => ?_)
          · -- 36: taken
            exact absurd c36 (nI_ge (by omega) (by omega))
          · -- 36: not taken
            refine e_aload_n aX9_least_39 rfl ?_
            refine e_iload aX9_least_40 rfl ?_
            refine e_iload_n aX9_least_42 rfl ?_
            refine e_invv aX9_least_43 kX9_225 (zX9_ownerUnder X F md (s := k) (by omega) hp) rfl rfl (fx_is F rfl) (Nat.le_of_ble_eq_true rfl) (Nat.le_of_ble_eq_true rfl) (Nat.le_refl _) (Nat.le_refl _) (Nat.le_of_ble_eq_true rfl) ?_
            rintro v h2 ⟨rfl, S1⟩
            have S := S.tr S1
            refine e_iload_n aX9_least_46 rfl ?_
            refine e_icmp_ne aX9_least_47 (fun c47 => ?_) (fun c47 => ?_)
            · -- 47: taken
              refine e_iinc aX9_least_53 rfl rfl (Nat.le_of_ble_eq_true rfl) ?_
              refine e_goto aX9_least_56 ?_
              refine e_ls (ls' := [(0, some (vR (some 109))), (1, some (vI (nI pz))), (2, some (vI y)), (3, some (vI (nI (fo o f)))), (4, some (vI (nI (k + 1))))]) ⟨rfl, rfl, rfl, rfl, congrArg (fun x => some (vI x)) (nI_1 k), trivial⟩ ?_
              exact ih (k + 1) h2 (by omega) S (by rw [← hR9, frW_f (fun z => c47 (of_decide_eq_true z))])
            · -- 47: not taken
              refine e_iload aX9_least_50 rfl ?_
              refine e_ireturn aX9_least_52 rfl (Nat.le_refl _) (Nat.le_refl _) ?_
              rw [← hR9, frW_t (decide_eq_true c47)]
              exact ⟨rfl, S⟩
      refine e_aload_n aX9_least_20 rfl ?_
      refine e_invvT aX9_least_21 kX9_119 (zX9_openFrom X F mf) rfl rfl (fx_is F rfl) (Nat.le_of_ble_eq_true rfl) (Nat.le_of_ble_eq_true rfl) (Nat.le_refl _) (Nat.le_refl _) (Nat.le_of_ble_eq_true rfl) ?_
      refine e_istore_n aX9_least_24 (Nat.le_of_ble_eq_true rfl) ?_
      refine e_iload_n aX9_least_25 rfl ?_
      refine e_istore aX9_least_26 (Nat.le_of_ble_eq_true rfl) ?_
      refine e_ls (ls' := [(0, some (vR (some 109))), (1, some (vI (nI pz))), (2, some (vI y)), (3, some (vI (nI (fo o f)))), (4, some (vI (nI (fo o f))))]) ⟨rfl, rfl, rfl, rfl, rfl, trivial⟩ ?_
      exact loop (om f) (fo o f) h0 (by omega) (Sf.rf h0) rfl
    · -- 11: not taken
      have q11 := Decidable.of_not_not (b2_0.mp c11)
      refine e_aload_n aX9_least_14 rfl ?_
      refine e_iconst (v := 0) aX9_least_15 (by decide) ?_
      refine e_invvT aX9_least_16 kX9_128 (zX9_finds X F (k := 0) (by decide)) rfl rfl (fx_is F rfl) (Nat.le_of_ble_eq_true rfl) (Nat.le_of_ble_eq_true rfl) (Nat.le_refl _) (Nat.le_refl _) (Nat.le_of_ble_eq_true rfl) ?_
      refine e_ireturn aX9_least_19 rfl (Nat.le_refl _) (Nat.le_refl _) ?_
      rw [if_neg q4, if_pos q11]
      exact ⟨rfl, rfl⟩
