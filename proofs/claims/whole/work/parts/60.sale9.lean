/-! the reference: sale, swap, prune (written by wip/whole/g60.py) -/
theorem cmQ_I {D : Nat → DD} {n : Nat} {d : DD} {f : Nat} {o : Nat → Nat} {h h2 : HP} {v : Option VV} (z : cmQ D n d f o h v h2) : ∃ x, v = some (vI x) := by
  unfold cmQ at z
  rcases iteP z with ⟨-, z⟩ | ⟨-, z⟩
  · exact ⟨_, z.1⟩
  · rcases iteP z with ⟨-, z⟩ | ⟨-, z⟩
    · exact ⟨_, z.1⟩
    · obtain ⟨-, -, -, z⟩ := z
      cases e : rfs (upD D n d) (n + 1) (fo o f) (om f) with
      | none => rw [e] at z; exact ⟨_, z.1⟩
      | some s => rw [e] at z; exact ⟨_, z.1⟩
theorem zX9_sale (X : EX) {h0 : HP} (F0 : Fx h0) {f n : Nat} {o : Nat → Nat} {D : Nat → DD} (mf0 : MkF h0 f o) (md0 : MkD h0 n D) (x y t p q : Int32) : Ct X mX9_sale 9 0 0 [vR (some 109), vI x, vI y, vI t, vI p, vI q] h0 (if slK x then (if (y < 0 ∨ 3 ≤ y) ∨ (t < 0 ∨ 3 ≤ t) ∨ y = t then RM h0 0 else if p < 0 ∨ 12 ≤ p then RM h0 0 else if x = 0 then cmQ D n (dNo 0 y.toNatClampNeg t.toNatClampNeg p.toNatClampNeg none 0) f o h0 else if q < 1 then RM h0 0 else if q ≤ 2 then cmQ D n (dNo x.toNatClampNeg y.toNatClampNeg t.toNatClampNeg p.toNatClampNeg none q.toNatClampNeg) f o h0 else RM h0 0) else RM h0 0) := by
  refine ct_of rfl (Nat.le_of_ble_eq_true rfl) ?_
  have F := F0
  have md := md0
  have mf := mf0
  have hn12 := md0.2.1
  have hf4 := mf0.2.1
  have hb6 := om_fo mf0.2.1 mf0.2.2.2
  have hom := om_pos mf0.2.1
  have tail : Ev X mX9_sale 9 0 0 (if slK x then (if (y < 0 ∨ 3 ≤ y) ∨ (t < 0 ∨ 3 ≤ t) ∨ y = t then RM h0 0 else if p < 0 ∨ 12 ≤ p then RM h0 0 else if x = 0 then cmQ D n (dNo 0 y.toNatClampNeg t.toNatClampNeg p.toNatClampNeg none 0) f o h0 else if q < 1 then RM h0 0 else if q ≤ 2 then cmQ D n (dNo x.toNatClampNeg y.toNatClampNeg t.toNatClampNeg p.toNatClampNeg none q.toNatClampNeg) f o h0 else RM h0 0) else RM h0 0) 0 0 26 [(0, some (vR (some 109))), (1, some (vI x)), (2, some (vI y)), (3, some (vI t)), (4, some (vI p)), (5, some (vI q)), (6, some (vI (b2 (slK x))))] [] h0 := by
    refine e_iload aX9_sale_26 rfl ?_
    refine e_if_eq aX9_sale_28 (fun c28 => ?_) (fun c28 => ?_)
    · -- 28: taken
      have q28 := b2_0.mp c28
      refine e_aload_n aX9_sale_64 rfl ?_
      refine e_iconst (v := 0) aX9_sale_65 (by decide) ?_
      refine e_invvT aX9_sale_66 kX9_128 (zX9_finds X F (k := 0) (by decide)) rfl rfl (fx_is F rfl) (Nat.le_of_ble_eq_true rfl) (Nat.le_of_ble_eq_true rfl) (Nat.le_refl _) (Nat.le_refl _) (Nat.le_of_ble_eq_true rfl) ?_
      refine e_ireturn aX9_sale_69 rfl (Nat.le_refl _) (Nat.le_refl _) ?_
      rw [if_neg q28]
      exact ⟨rfl, rfl⟩
    · -- 28: not taken
      have q28 := Decidable.of_not_not (fun z => c28 (b2_0.mpr z))
      refine e_iload_n aX9_sale_31 rfl ?_
      refine e_iload_n aX9_sale_32 rfl ?_
      refine e_invsT aX9_sale_33 kX9_194 (zX9_areTwo X y t) rfl rfl (Nat.le_of_ble_eq_true rfl) (Nat.le_of_ble_eq_true rfl) (Nat.le_refl _) (Nat.le_refl _) (Nat.le_of_ble_eq_true rfl) ?_
      refine e_if_eq aX9_sale_36 (fun c36 => ?_) (fun c36 => ?_)
      · -- 36: taken
        have q36 := Decidable.of_not_not (b2_0.mp c36)
        refine e_aload_n aX9_sale_64 rfl ?_
        refine e_iconst (v := 0) aX9_sale_65 (by decide) ?_
        refine e_invvT aX9_sale_66 kX9_128 (zX9_finds X F (k := 0) (by decide)) rfl rfl (fx_is F rfl) (Nat.le_of_ble_eq_true rfl) (Nat.le_of_ble_eq_true rfl) (Nat.le_refl _) (Nat.le_refl _) (Nat.le_of_ble_eq_true rfl) ?_
        refine e_ireturn aX9_sale_69 rfl (Nat.le_refl _) (Nat.le_refl _) ?_
        rw [if_pos q28, if_pos q36]
        exact ⟨rfl, rfl⟩
      · -- 36: not taken
        have q36 := Decidable.of_not_not (fun z => c36 (b2_0.mpr z))
        refine e_iload aX9_sale_39 rfl ?_
        refine e_invsT aX9_sale_41 kX9_136 (zX9_isPick X _) rfl rfl (Nat.le_of_ble_eq_true rfl) (Nat.le_of_ble_eq_true rfl) (Nat.le_refl _) (Nat.le_refl _) (Nat.le_of_ble_eq_true rfl) ?_
        refine e_if_eq aX9_sale_44 (fun c44 => ?_) (fun c44 => ?_)
        · -- 44: taken
          have q44 := Decidable.of_not_not (b2_0.mp c44)
          refine e_aload_n aX9_sale_64 rfl ?_
          refine e_iconst (v := 0) aX9_sale_65 (by decide) ?_
          refine e_invvT aX9_sale_66 kX9_128 (zX9_finds X F (k := 0) (by decide)) rfl rfl (fx_is F rfl) (Nat.le_of_ble_eq_true rfl) (Nat.le_of_ble_eq_true rfl) (Nat.le_refl _) (Nat.le_refl _) (Nat.le_of_ble_eq_true rfl) ?_
          refine e_ireturn aX9_sale_69 rfl (Nat.le_refl _) (Nat.le_refl _) ?_
          rw [if_pos q28, if_neg q36, if_pos q44]
          exact ⟨rfl, rfl⟩
        · -- 44: not taken
          have q44 := Decidable.of_not_not (fun z => c44 (b2_0.mpr z))
          obtain ⟨az, bz, haz, hbz, habz, rfl, rfl⟩ := np_of q36
          obtain ⟨pz, hpz, rfl⟩ := ou_of 12 (by decide) q44
          refine e_iload_n aX9_sale_47 rfl ?_
          refine e_if_eq aX9_sale_48 (fun c48 => ?_) (fun c48 => ?_)
          · -- 48: taken
            have q48 : x = 0 := c48
            subst q48
            have wf : dWf (dNo 0 az bz pz none 0) := dNo_1 (Or.inl rfl) haz hbz habz hpz (by decide) ⟨fun _ => rfl, fun _ => rfl⟩
            refine e_aload_n aX9_sale_70 rfl ?_
            refine e_iload_n aX9_sale_71 rfl ?_
            refine e_iload_n aX9_sale_72 rfl ?_
            refine e_iload_n aX9_sale_73 rfl ?_
            refine e_iload aX9_sale_74 rfl ?_
            refine e_iconst (v := -1) aX9_sale_76 (by decide) ?_
            refine e_iload_n aX9_sale_77 rfl ?_
            refine e_if_ne aX9_sale_78 (fun c78 => ?_) (fun c78 => ?_)
            · -- 78: taken
              exact absurd rfl c78
            · -- 78: not taken
              skip
              refine e_iconst (v := 0) aX9_sale_81 (by decide) ?_
              refine e_goto aX9_sale_82 ?_
              rw [if_pos q28, if_neg q36, if_neg q44, if_pos rfl, cl (n := az) (by omega), cl (n := bz) (by omega), cl (n := pz) (by omega)]
              refine e_invv aX9_sale_87 kX9_197 (zX9_comes X F mf md wf) rfl rfl (fx_is F rfl) (Nat.le_of_ble_eq_true rfl) (Nat.le_of_ble_eq_true rfl) (Nat.le_refl _) (Nat.le_refl _) (Nat.le_of_ble_eq_true rfl) ?_
              intro v h2 z9
              obtain ⟨x9, rfl⟩ := cmQ_I z9
              refine e_ireturn aX9_sale_90 rfl (Nat.le_refl _) (Nat.le_refl _) ?_
              exact z9
          · -- 48: not taken
            have q48 : ¬ x = 0 := c48
            refine e_iload aX9_sale_51 rfl ?_
            refine e_i2l aX9_sale_53 ?_
            refine e_lconst (v := 1) aX9_sale_54 rfl ?_
            refine e_ldc2 aX9_sale_55 lX9_114 ?_
            refine e_invsT aX9_sale_58 kX9_108 (zib X q 1 2 rfl rfl) rfl rfl (Nat.le_of_ble_eq_true rfl) (Nat.le_of_ble_eq_true rfl) (Nat.le_refl _) (Nat.le_refl _) (Nat.le_of_ble_eq_true rfl) ?_
            refine e_if_ne aX9_sale_61 (fun c61 => ?_) (fun c61 => ?_)
            · -- 61: taken
              have q61 := Decidable.of_not_not (fun z => c61 (b2_0.mpr z))
              have q62 : ¬ q < 1 := fun z => q61 (Or.inl z)
              have q63 : q ≤ 2 := Int32.not_lt.mp (fun z => q61 (Or.inr z))
              obtain ⟨kz, hkz, rfl⟩ := slK_of q28
              obtain ⟨nz, hnz, rfl⟩ := ou_of 3 (by decide) (v := q) (fun z => z.elim (fun z => q62 (Int32.lt_trans z (by decide))) (fun z => absurd (Int32.le_trans z q63) (by decide)))
              have hn1 : 1 ≤ nz := by
                rcases Nat.eq_zero_or_pos nz with z | z
                · subst z; exact absurd (by decide) q62
                · exact z
              have wf : dWf (dNo kz az bz pz none nz) := dNo_1 hkz haz hbz habz hpz (by omega) ⟨fun e => absurd (by rw [e]; rfl) q48, fun e => by omega⟩
              refine e_aload_n aX9_sale_70 rfl ?_
              refine e_iload_n aX9_sale_71 rfl ?_
              refine e_iload_n aX9_sale_72 rfl ?_
              refine e_iload_n aX9_sale_73 rfl ?_
              refine e_iload aX9_sale_74 rfl ?_
              refine e_iconst (v := -1) aX9_sale_76 (by decide) ?_
              refine e_iload_n aX9_sale_77 rfl ?_
              refine e_if_ne aX9_sale_78 (fun c78 => ?_) (fun c78 => ?_)
              · -- 78: taken
                skip
                refine e_iload aX9_sale_85 rfl ?_
                rw [if_pos q28, if_neg q36, if_neg q44, if_neg q48, if_neg q62, if_pos q63, cl (n := kz) (by omega), cl (n := az) (by omega), cl (n := bz) (by omega), cl (n := pz) (by omega), cl (n := nz) (by omega)]
                refine e_invv aX9_sale_87 kX9_197 (zX9_comes X F mf md wf) rfl rfl (fx_is F rfl) (Nat.le_of_ble_eq_true rfl) (Nat.le_of_ble_eq_true rfl) (Nat.le_refl _) (Nat.le_refl _) (Nat.le_of_ble_eq_true rfl) ?_
                intro v h2 z9
                obtain ⟨x9, rfl⟩ := cmQ_I z9
                refine e_ireturn aX9_sale_90 rfl (Nat.le_refl _) (Nat.le_refl _) ?_
                exact z9
              · -- 78: not taken
                exact absurd c78 q48
            · -- 61: not taken
              have q61 := Decidable.of_not_not (b2_0.mp c61)
              refine e_aload_n aX9_sale_64 rfl ?_
              refine e_iconst (v := 0) aX9_sale_65 (by decide) ?_
              refine e_invvT aX9_sale_66 kX9_128 (zX9_finds X F (k := 0) (by decide)) rfl rfl (fx_is F rfl) (Nat.le_of_ble_eq_true rfl) (Nat.le_of_ble_eq_true rfl) (Nat.le_refl _) (Nat.le_refl _) (Nat.le_of_ble_eq_true rfl) ?_
              refine e_ireturn aX9_sale_69 rfl (Nat.le_refl _) (Nat.le_refl _) ?_
              rw [if_pos q28, if_neg q36, if_neg q44, if_neg q48]
              rcases q61 with z | z
              · rw [if_pos z]
                exact ⟨rfl, rfl⟩
              · rw [if_neg (fun w => absurd (Int32.lt_trans z w) (by decide)), if_neg (Int32.not_le.mpr z)]
                exact ⟨rfl, rfl⟩
  refine e_iload_n aX9_sale_0 rfl ?_
  refine e_if_eq aX9_sale_1 (fun c1 => ?_) (fun c1 => ?_)
  · -- 1: taken
    refine e_iconst (v := 1) aX9_sale_19 (by decide) ?_
    refine e_goto aX9_sale_20 ?_
    refine e_istore aX9_sale_24 (Nat.le_of_ble_eq_true rfl) ?_
    refine e_ls (ls' := [(0, some (vR (some 109))), (1, some (vI x)), (2, some (vI y)), (3, some (vI t)), (4, some (vI p)), (5, some (vI q)), (6, some (vI (b2 (slK x))))]) ⟨rfl, rfl, rfl, rfl, rfl, rfl, congrArg (fun x => some (vI x)) ((b2_t (Or.inl c1)).symm), trivial⟩ ?_
    exact tail
  · -- 1: not taken
    refine e_iload_n aX9_sale_4 rfl ?_
    refine e_iconst (v := 1) aX9_sale_5 (by decide) ?_
    refine e_icmp_eq aX9_sale_6 (fun c6 => ?_) (fun c6 => ?_)
    · -- 6: taken
      refine e_iconst (v := 1) aX9_sale_19 (by decide) ?_
      refine e_goto aX9_sale_20 ?_
      refine e_istore aX9_sale_24 (Nat.le_of_ble_eq_true rfl) ?_
      refine e_ls (ls' := [(0, some (vR (some 109))), (1, some (vI x)), (2, some (vI y)), (3, some (vI t)), (4, some (vI p)), (5, some (vI q)), (6, some (vI (b2 (slK x))))]) ⟨rfl, rfl, rfl, rfl, rfl, rfl, congrArg (fun x => some (vI x)) ((b2_t (Or.inr (Or.inl c6))).symm), trivial⟩ ?_
      exact tail
    · -- 6: not taken
      refine e_iload_n aX9_sale_9 rfl ?_
      refine e_iconst (v := 3) aX9_sale_10 (by decide) ?_
      refine e_icmp_eq aX9_sale_11 (fun c11 => ?_) (fun c11 => ?_)
      · -- 11: taken
        refine e_iconst (v := 1) aX9_sale_19 (by decide) ?_
        refine e_goto aX9_sale_20 ?_
        refine e_istore aX9_sale_24 (Nat.le_of_ble_eq_true rfl) ?_
        refine e_ls (ls' := [(0, some (vR (some 109))), (1, some (vI x)), (2, some (vI y)), (3, some (vI t)), (4, some (vI p)), (5, some (vI q)), (6, some (vI (b2 (slK x))))]) ⟨rfl, rfl, rfl, rfl, rfl, rfl, congrArg (fun x => some (vI x)) ((b2_t (Or.inr (Or.inr (Or.inl c11)))).symm), trivial⟩ ?_
        exact tail
      · -- 11: not taken
        refine e_iload_n aX9_sale_14 rfl ?_
        refine e_iconst (v := 4) aX9_sale_15 (by decide) ?_
        refine e_icmp_ne aX9_sale_16 (fun c16 => ?_) (fun c16 => ?_)
        · -- 16: taken
          refine e_iconst (v := 0) aX9_sale_23 (by decide) ?_
          refine e_istore aX9_sale_24 (Nat.le_of_ble_eq_true rfl) ?_
          refine e_ls (ls' := [(0, some (vR (some 109))), (1, some (vI x)), (2, some (vI y)), (3, some (vI t)), (4, some (vI p)), (5, some (vI q)), (6, some (vI (b2 (slK x))))]) ⟨rfl, rfl, rfl, rfl, rfl, rfl, congrArg (fun x => some (vI x)) ((b2_f (fun z => z.elim c1 (fun z => z.elim c6 (fun z => z.elim c11 c16)))).symm), trivial⟩ ?_
          exact tail
        · -- 16: not taken
          refine e_iconst (v := 1) aX9_sale_19 (by decide) ?_
          refine e_goto aX9_sale_20 ?_
          refine e_istore aX9_sale_24 (Nat.le_of_ble_eq_true rfl) ?_
          refine e_ls (ls' := [(0, some (vR (some 109))), (1, some (vI x)), (2, some (vI y)), (3, some (vI t)), (4, some (vI p)), (5, some (vI q)), (6, some (vI (b2 (slK x))))]) ⟨rfl, rfl, rfl, rfl, rfl, rfl, congrArg (fun x => some (vI x)) ((b2_t (Or.inr (Or.inr (Or.inr c16)))).symm), trivial⟩ ?_
          exact tail
theorem zX9_swap (X : EX) {h0 : HP} (F0 : Fx h0) {f n : Nat} {o : Nat → Nat} {D : Nat → DD} (mf0 : MkF h0 f o) (md0 : MkD h0 n D) (x y p q m : Int32) : Ct X mX9_swap 9 0 0 [vR (some 109), vI x, vI y, vI p, vI q, vI m] h0 (if (x < 0 ∨ 3 ≤ x) ∨ (y < 0 ∨ 3 ≤ y) ∨ x = y then RM h0 0 else if p < 0 ∨ 12 ≤ p then RM h0 0 else if q < 0 ∨ 12 ≤ q then RM h0 0 else if p.toNatClampNeg = q.toNatClampNeg then RM h0 0 else if p.toNatClampNeg / 3 = q.toNatClampNeg / 3 then (if m < 0 then RM h0 0 else if m ≤ 2 then cmQ D n (dNo (if m.toNatClampNeg = 0 then 2 else 5) x.toNatClampNeg y.toNatClampNeg p.toNatClampNeg (some q.toNatClampNeg) m.toNatClampNeg) f o h0 else RM h0 0) else RM h0 0) := by
  refine ct_of rfl (Nat.le_of_ble_eq_true rfl) ?_
  have F := F0
  have md := md0
  have mf := mf0
  have hn12 := md0.2.1
  have hf4 := mf0.2.1
  have hb6 := om_fo mf0.2.1 mf0.2.2.2
  have hom := om_pos mf0.2.1
  refine e_iload_n aX9_swap_0 rfl ?_
  refine e_iload_n aX9_swap_1 rfl ?_
  refine e_invsT aX9_swap_2 kX9_194 (zX9_areTwo X x y) rfl rfl (Nat.le_of_ble_eq_true rfl) (Nat.le_of_ble_eq_true rfl) (Nat.le_refl _) (Nat.le_refl _) (Nat.le_of_ble_eq_true rfl) ?_
  refine e_if_eq aX9_swap_5 (fun c5 => ?_) (fun c5 => ?_)
  · -- 5: taken
    have q5 := Decidable.of_not_not (b2_0.mp c5)
    refine e_aload_n aX9_swap_30 rfl ?_
    refine e_iconst (v := 0) aX9_swap_31 (by decide) ?_
    refine e_invvT aX9_swap_32 kX9_128 (zX9_finds X F (k := 0) (by decide)) rfl rfl (fx_is F rfl) (Nat.le_of_ble_eq_true rfl) (Nat.le_of_ble_eq_true rfl) (Nat.le_refl _) (Nat.le_refl _) (Nat.le_of_ble_eq_true rfl) ?_
    refine e_ireturn aX9_swap_35 rfl (Nat.le_refl _) (Nat.le_refl _) ?_
    rw [if_pos q5]
    exact ⟨rfl, rfl⟩
  · -- 5: not taken
    have q5 := Decidable.of_not_not (fun z => c5 (b2_0.mpr z))
    refine e_iload_n aX9_swap_8 rfl ?_
    refine e_iload aX9_swap_9 rfl ?_
    refine e_invsT aX9_swap_11 kX9_201 (zX9_areOfYear X p q) rfl rfl (Nat.le_of_ble_eq_true rfl) (Nat.le_of_ble_eq_true rfl) (Nat.le_refl _) (Nat.le_refl _) (Nat.le_of_ble_eq_true rfl) ?_
    refine e_if_eq aX9_swap_14 (fun c14 => ?_) (fun c14 => ?_)
    · -- 14: taken
      have q14 := b2_0.mp c14
      refine e_aload_n aX9_swap_30 rfl ?_
      refine e_iconst (v := 0) aX9_swap_31 (by decide) ?_
      refine e_invvT aX9_swap_32 kX9_128 (zX9_finds X F (k := 0) (by decide)) rfl rfl (fx_is F rfl) (Nat.le_of_ble_eq_true rfl) (Nat.le_of_ble_eq_true rfl) (Nat.le_refl _) (Nat.le_refl _) (Nat.le_of_ble_eq_true rfl) ?_
      refine e_ireturn aX9_swap_35 rfl (Nat.le_refl _) (Nat.le_refl _) ?_
      rw [if_neg q5]
      by_cases z1 : p < 0 ∨ 12 ≤ p
      · rw [if_pos z1]; exact ⟨rfl, rfl⟩
      rw [if_neg z1]
      by_cases z2 : q < 0 ∨ 12 ≤ q
      · rw [if_pos z2]; exact ⟨rfl, rfl⟩
      rw [if_neg z2]
      by_cases z3 : p.toNatClampNeg = q.toNatClampNeg
      · rw [if_pos z3]; exact ⟨rfl, rfl⟩
      rw [if_neg z3]
      by_cases z4 : p.toNatClampNeg / 3 = q.toNatClampNeg / 3
      · exact absurd ⟨z1, z2, fun e => z3 (by rw [e]), z4⟩ q14
      rw [if_neg z4]
      exact ⟨rfl, rfl⟩
    · -- 14: not taken
      have q14 := Decidable.of_not_not (fun z => c14 (b2_0.mpr z))
      have z3 : ¬ p.toNatClampNeg = q.toNatClampNeg := fun e => by
        obtain ⟨q14a, q14b, q14c, q14d⟩ := id q14
        obtain ⟨pz, hpz, rfl⟩ := ou_of 12 (by decide) q14a
        obtain ⟨qz, hqz, rfl⟩ := ou_of 12 (by decide) q14b
        rw [cl (by omega), cl (by omega)] at e
        exact q14c (by rw [e])
      refine e_iload aX9_swap_17 rfl ?_
      refine e_i2l aX9_swap_19 ?_
      refine e_lconst (v := 0) aX9_swap_20 rfl ?_
      refine e_ldc2 aX9_swap_21 lX9_114 ?_
      refine e_invsT aX9_swap_24 kX9_108 (zib X m 0 2 rfl rfl) rfl rfl (Nat.le_of_ble_eq_true rfl) (Nat.le_of_ble_eq_true rfl) (Nat.le_refl _) (Nat.le_refl _) (Nat.le_of_ble_eq_true rfl) ?_
      refine e_if_ne aX9_swap_27 (fun c27 => ?_) (fun c27 => ?_)
      · -- 27: taken
        have q27 := Decidable.of_not_not (fun z => c27 (b2_0.mpr z))
        have q51 : ¬ m < 0 := fun z => q27 (Or.inl z)
        have q57 : m ≤ 2 := Int32.not_lt.mp (fun z => q27 (Or.inr z))
        obtain ⟨mz, hmz, rfl⟩ := ou_of 3 (by decide) (v := m) (fun z => z.elim q51 (fun z => absurd (Int32.le_trans z q57) (by decide)))
        obtain ⟨az, bz, haz, hbz, habz, rfl, rfl⟩ := np_of q5
        obtain ⟨q14a, q14b, q14c, q14d⟩ := id q14
        obtain ⟨pz, hpz, rfl⟩ := ou_of 12 (by decide) q14a
        obtain ⟨qz, hqz, rfl⟩ := ou_of 12 (by decide) q14b
        rw [cl (n := pz) (by omega), cl (n := qz) (by omega)] at z3 q14d
        have wf : dWf (dNo (if mz = 0 then 2 else 5) az bz pz (some qz) mz) := dNo_2 haz hbz habz hpz hqz z3 q14d (by omega)
        have hc := zX9_comes X F mf md wf
        rw [show nI (if mz = 0 then 2 else 5) = if mz = 0 then 2 else 5 by split <;> rfl] at hc
        refine e_aload_n aX9_swap_36 rfl ?_
        refine e_iload aX9_swap_37 rfl ?_
        refine e_if_ne aX9_swap_39 (fun c39 => ?_) (fun c39 => ?_)
        · -- 39: taken
          have q39 : ¬ mz = 0 := fun z => c39 (by rw [z]; rfl)
          refine e_iconst (v := 5) aX9_swap_46 (by decide) ?_
          refine e_iload_n aX9_swap_47 rfl ?_
          refine e_iload_n aX9_swap_48 rfl ?_
          refine e_iload_n aX9_swap_49 rfl ?_
          refine e_iload aX9_swap_50 rfl ?_
          refine e_iload aX9_swap_52 rfl ?_
          rw [if_neg q39] at hc
          rw [if_neg q5, if_neg q14.1, if_neg q14.2.1, cl (n := pz) (by omega), cl (n := qz) (by omega), if_neg z3, if_pos q14d, if_neg q51, if_pos q57, cl (n := az) (by omega), cl (n := bz) (by omega), cl (n := mz) (by omega)]
          refine e_invv aX9_swap_54 kX9_197 hc rfl rfl (fx_is F rfl) (Nat.le_of_ble_eq_true rfl) (Nat.le_of_ble_eq_true rfl) (Nat.le_refl _) (Nat.le_refl _) (Nat.le_of_ble_eq_true rfl) ?_
          intro v h2 z9
          obtain ⟨x9, rfl⟩ := cmQ_I z9
          refine e_ireturn aX9_swap_57 rfl (Nat.le_refl _) (Nat.le_refl _) ?_
          exact z9
        · -- 39: not taken
          have q39 : mz = 0 := (nI_eq (b := 0) (by omega) (by decide)).mp c39
          refine e_iconst (v := 2) aX9_swap_42 (by decide) ?_
          refine e_goto aX9_swap_43 ?_
          refine e_iload_n aX9_swap_47 rfl ?_
          refine e_iload_n aX9_swap_48 rfl ?_
          refine e_iload_n aX9_swap_49 rfl ?_
          refine e_iload aX9_swap_50 rfl ?_
          refine e_iload aX9_swap_52 rfl ?_
          rw [if_pos q39] at hc
          rw [if_neg q5, if_neg q14.1, if_neg q14.2.1, cl (n := pz) (by omega), cl (n := qz) (by omega), if_neg z3, if_pos q14d, if_neg q51, if_pos q57, cl (n := az) (by omega), cl (n := bz) (by omega), cl (n := mz) (by omega)]
          refine e_invv aX9_swap_54 kX9_197 hc rfl rfl (fx_is F rfl) (Nat.le_of_ble_eq_true rfl) (Nat.le_of_ble_eq_true rfl) (Nat.le_refl _) (Nat.le_refl _) (Nat.le_of_ble_eq_true rfl) ?_
          intro v h2 z9
          obtain ⟨x9, rfl⟩ := cmQ_I z9
          refine e_ireturn aX9_swap_57 rfl (Nat.le_refl _) (Nat.le_refl _) ?_
          exact z9
      · -- 27: not taken
        have q27 := Decidable.of_not_not (b2_0.mp c27)
        refine e_aload_n aX9_swap_30 rfl ?_
        refine e_iconst (v := 0) aX9_swap_31 (by decide) ?_
        refine e_invvT aX9_swap_32 kX9_128 (zX9_finds X F (k := 0) (by decide)) rfl rfl (fx_is F rfl) (Nat.le_of_ble_eq_true rfl) (Nat.le_of_ble_eq_true rfl) (Nat.le_refl _) (Nat.le_refl _) (Nat.le_of_ble_eq_true rfl) ?_
        refine e_ireturn aX9_swap_35 rfl (Nat.le_refl _) (Nat.le_refl _) ?_
        rw [if_neg q5, if_neg q14.1, if_neg q14.2.1, if_neg z3, if_pos q14.2.2.2]
        rcases q27 with z | z
        · rw [if_pos z]
          exact ⟨rfl, rfl⟩
        · rw [if_neg (fun w => absurd (Int32.lt_trans z w) (by decide)), if_neg (Int32.not_le.mpr z)]
          exact ⟨rfl, rfl⟩
def MkJ (h : HP) (n : Nat) (J : Nat → Int32) : Prop := ∀ k, k < n → hI h 112 (8 * k + 7) = J k
theorem kA_s {α : Type} {P : Nat → Bool} {A : Nat → α} {k : Nat} : kA P A (k + 1) = if P k = true then fun j => if j = cnW P 0 k then A k else kA P A k j else kA P A k := rfl
/-- deals kept so far, those that follow, their ids -/
def prI (D : Nat → DD) (J : Nat → Int32) (P : Nat → Bool) (n k : Nat) (h0 h : HP) : Prop := Sf (fun a _ => a = 112 ∨ a = 113) h0 h ∧ MkD h n (kA P D k) ∧ MkJ h n (kA P J k)
theorem prI_s {D : Nat → DD} {J : Nat → Int32} {P : Nat → Bool} {n k : Nat} {h0 h h2 : HP} (q : prI D J P n k h0 h) (hk : k < n) (z : P k = true) (S : Sf (scR (cnW P 0 k)) h h2) (e : ∀ j, j < 8 → hI h2 112 (8 * cnW P 0 k + j) = hI h 112 (8 * k + j)) (eb : ∀ j, j < 41 → hI h2 113 (41 * cnW P 0 k + j) = hI h 113 (41 * k + j)) : prI D J P n (k + 1) h0 h2 := by
  obtain ⟨S0, md, mj⟩ := q
  have hc := cnW_le (P := P) (a := 0) k
  have hn := md.2.1
  refine ⟨S0.tr (S.mono (fun a i w => w.elim (fun w => Or.inl w.1) (fun w => Or.inr w.1))), ⟨(S.2 _ _ (fun w => w.elim (fun w => absurd w.1 (by decide)) (fun w => absurd w.1 (by decide)))).trans md.1, hn, fun j hj => ?_⟩, fun j hj => ?_⟩
  · rw [kA_s, if_pos z]
    by_cases w : j = cnW P 0 k
    · subst w
      simp only [if_pos]
      have mk := md.2.2 k hk
      rw [kA_ge k k (Nat.le_refl _)] at mk
      obtain ⟨w, e0, e1, e2, e3, e4, e5, e6, b⟩ := mk
      exact ⟨w, (e 0 (by decide)).trans e0, (e 1 (by decide)).trans e1, (e 2 (by decide)).trans e2, (e 3 (by decide)).trans e3, (e 4 (by decide)).trans e4, (e 5 (by decide)).trans e5, (e 6 (by decide)).trans e6, fun u hu => by rw [eb _ (by omega)]; exact b u hu⟩
    · simp only [if_neg w]
      exact (md.2.2 j hj).at (fun i hi => S.2 _ _ (fun w2 => w2.elim (fun w2 => by have := w2.2; omega) (fun w2 => absurd w2.1 (by decide)))) (fun i hi => S.2 _ _ (fun w2 => w2.elim (fun w2 => absurd w2.1 (by decide)) (fun w2 => by have := w2.2; omega)))
  · rw [kA_s, if_pos z]
    by_cases w : j = cnW P 0 k
    · subst w
      simp only [if_pos]
      have := mj k hk
      rw [kA_ge k k (Nat.le_refl _)] at this
      exact (e 7 (by decide)).trans this
    · simp only [if_neg w]
      exact (S.2 _ _ (fun w2 => w2.elim (fun w2 => by have := w2.2; omega) (fun w2 => absurd w2.1 (by decide)))).trans (mj j hj)
theorem zX9_prune (X : EX) {h0 : HP} (F0 : Fx h0) {f n : Nat} {o : Nat → Nat} {D : Nat → DD} (mf0 : MkF h0 f o) (md0 : MkD h0 n D) {J : Nat → Int32} (mj : MkJ h0 n J) : Ct X mX9_prune 8 0 0 [vR (some 109)] h0 (fun v h' => v = some (vI (nI (n - cnW (kpP D (fo o f) (om f)) 0 n))) ∧ ∃ h2, prI D J (kpP D (fo o f) (om f)) n n h0 h2 ∧ h' = wI h2 109 4 (nI (cnW (kpP D (fo o f) (om f)) 0 n))) := by
  refine ct_of rfl (Nat.le_of_ble_eq_true rfl) ?_
  have F := F0
  have md := md0
  have mf := mf0
  have hn12 := md0.2.1
  have hf4 := mf0.2.1
  have hb6 := om_fo mf0.2.1 mf0.2.2.2
  have hom := om_pos mf0.2.1
  have loop : ∀ (m : Nat) (k : Nat) (hz : HP), k + m = n → prI D J (kpP D (fo o f) (om f)) n k h0 hz → Ev X mX9_prune 8 0 0 (fun v h' => v = some (vI (nI (n - cnW (kpP D (fo o f) (om f)) 0 n))) ∧ ∃ h2, prI D J (kpP D (fo o f) (om f)) n n h0 h2 ∧ h' = wI h2 109 4 (nI (cnW (kpP D (fo o f) (om f)) 0 n))) 0 0 4 [(0, some (vR (some 109))), (1, some (vI (nI (cnW (kpP D (fo o f) (om f)) 0 k)))), (2, some (vI (nI k)))] [] hz := by
    intro m
    induction m with
    | zero =>
      intro k hz hk I
      obtain rfl : k = n := by omega
      have F := I.1.F F0
      have mf : MkF hz f o := mf0.sf I.1 (by omega) (fun y => by omega)
      have md := I.2.1
      have hcl := cnW_le (P := (kpP D (fo o f) (om f))) (a := 0) k
      refine e_iload_n aX9_prune_4 rfl ?_
      refine e_aload_n aX9_prune_5 rfl ?_
      refine e_getIF aX9_prune_6 fX9_89 rfl (fx_is F rfl) md.1 ?_
      refine e_icmp_ge aX9_prune_9 (fun c9 => ?_) (fun c9 => ?_)
      · -- 9: taken
        refine e_aload_n aX9_prune_35 rfl ?_
        refine e_getIF aX9_prune_36 fX9_89 rfl (fx_is F rfl) md.1 ?_
        refine e_iload_n aX9_prune_39 rfl ?_
        refine e_isub aX9_prune_40 ?_
        refine e_top (nI_subN (cnW_le _)) ?_
        refine e_istore_n aX9_prune_41 (Nat.le_of_ble_eq_true rfl) ?_
        refine e_aload_n aX9_prune_42 rfl ?_
        refine e_iload_n aX9_prune_43 rfl ?_
        refine e_putI aX9_prune_44 fX9_89 rfl (fx_is F rfl) (Or.inl rfl) ?_
        refine e_iload_n aX9_prune_47 rfl ?_
        refine e_ireturn aX9_prune_48 rfl (Nat.le_refl _) (Nat.le_refl _) ?_
        exact ⟨rfl, hz, I, rfl⟩
      · -- 9: not taken
        exact absurd (nI_le (by omega) (by omega)) c9
    | succ m ih =>
      intro k hz hk I
      have F := I.1.F F0
      have mf : MkF hz f o := mf0.sf I.1 (by omega) (fun y => by omega)
      have md := I.2.1
      have mk := md.2.2 k (by omega)
      rw [kA_ge k k (Nat.le_refl _)] at mk
      have hc9 := Nat.le_trans (cnW_le (P := gvS (D k)) (a := fo o f) (om f)) (om_lt hf4)
      refine e_iload_n aX9_prune_4 rfl ?_
      refine e_aload_n aX9_prune_5 rfl ?_
      refine e_getIF aX9_prune_6 fX9_89 rfl (fx_is F rfl) md.1 ?_
      refine e_icmp_ge aX9_prune_9 (fun c9 => ?_) (fun c9 => ?_)
      · -- 9: taken
        exact absurd c9 (nI_ge (by omega) (by omega))
      · -- 9: not taken
        refine e_aload_n aX9_prune_12 rfl ?_
        refine e_iload_n aX9_prune_13 rfl ?_
        refine e_invvT aX9_prune_14 kX9_212 (zX9_standing X F mf (k9 := k) (by omega) mk) rfl rfl (fx_is F rfl) (Nat.le_of_ble_eq_true rfl) (Nat.le_of_ble_eq_true rfl) (Nat.le_refl _) (Nat.le_refl _) (Nat.le_of_ble_eq_true rfl) ?_
        refine e_if_le aX9_prune_17 (fun c17 => ?_) (fun c17 => ?_)
        · -- 17: taken
          have q17 : ¬ 0 < cnW (gvS (D k)) (fo o f) (om f) := (not_congr (nI_ltI (a := 0) (by decide) (by omega))).mp (Int32.not_lt.mpr c17)
          refine e_iinc aX9_prune_29 rfl rfl (Nat.le_of_ble_eq_true rfl) ?_
          refine e_goto aX9_prune_32 ?_
          refine e_ls (ls' := [(0, some (vR (some 109))), (1, some (vI (nI (cnW (kpP D (fo o f) (om f)) 0 (k + 1))))), (2, some (vI (nI (k + 1))))]) ⟨rfl, congrArg (fun x => some (vI x)) (congrArg nI (cnW_f (P := (kpP D (fo o f) (om f))) (a := 0) (m := k) (by rw [Nat.zero_add]; exact decide_eq_false q17)).symm), congrArg (fun x => some (vI x)) (nI_1 k), trivial⟩ ?_
          exact ih (k + 1) hz (by omega) ⟨I.1, by rw [kA_s, if_neg (show ¬ (kpP D (fo o f) (om f)) k = true from fun w => q17 (of_decide_eq_true w))]; exact I.2.1, by rw [kA_s, if_neg (show ¬ (kpP D (fo o f) (om f)) k = true from fun w => q17 (of_decide_eq_true w))]; exact I.2.2⟩
        · -- 17: not taken
          have q17 : 0 < cnW (gvS (D k)) (fo o f) (om f) := (nI_ltI (a := 0) (by decide) (by omega)).mp (Int32.not_le.mp c17)
          refine e_aload_n aX9_prune_20 rfl ?_
          refine e_iload_n aX9_prune_21 rfl ?_
          refine e_iload_n aX9_prune_22 rfl ?_
          refine e_invv aX9_prune_23 kX9_215 (zX9_moves X F (f := k) (t := cnW (kpP D (fo o f) (om f)) 0 k) (cnW_le _) (by omega)) rfl rfl (fx_is F rfl) (Nat.le_of_ble_eq_true rfl) (Nat.le_of_ble_eq_true rfl) (Nat.le_refl _) (Nat.le_refl _) (Nat.le_of_ble_eq_true rfl) ?_
          rintro v h2 ⟨rfl, S, e8, e41⟩
          refine e_iinc aX9_prune_26 rfl rfl (Nat.le_of_ble_eq_true rfl) ?_
          refine e_iinc aX9_prune_29 rfl rfl (Nat.le_of_ble_eq_true rfl) ?_
          refine e_goto aX9_prune_32 ?_
          refine e_ls (ls' := [(0, some (vR (some 109))), (1, some (vI (nI (cnW (kpP D (fo o f) (om f)) 0 (k + 1))))), (2, some (vI (nI (k + 1))))]) ⟨rfl, congrArg (fun x => some (vI x)) ((nI_1 _).trans (congrArg nI (cnW_t (P := (kpP D (fo o f) (om f))) (a := 0) (m := k) (by rw [Nat.zero_add]; exact decide_eq_true q17)).symm)), congrArg (fun x => some (vI x)) (nI_1 k), trivial⟩ ?_
          exact ih (k + 1) h2 (by omega) (prI_s I (by omega) (decide_eq_true q17) S e8 e41)
  refine e_iconst (v := 0) aX9_prune_0 (by decide) ?_
  refine e_istore_n aX9_prune_1 (Nat.le_of_ble_eq_true rfl) ?_
  refine e_iconst (v := 0) aX9_prune_2 (by decide) ?_
  refine e_istore_n aX9_prune_3 (Nat.le_of_ble_eq_true rfl) ?_
  refine e_ls (ls' := [(0, some (vR (some 109))), (1, some (vI (nI (cnW (kpP D (fo o f) (om f)) 0 0)))), (2, some (vI (nI 0)))]) ⟨rfl, rfl, rfl, trivial⟩ ?_
  exact loop n 0 h0 (by omega) ⟨Sf.rf h0, md, mj⟩
