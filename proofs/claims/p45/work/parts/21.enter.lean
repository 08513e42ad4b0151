/-! contracts: takes, enter, sale, swap (written by wip/p45/g21.py) -/
theorem e_aastoreF {X : EX} {y : MD} {d mc ms : Nat} {Q : Option VV → HP → Prop} {cells slots pc pc' : Nat} {ls : ZL} {st : List VV} {h : HP} {a : Nat} {i : Int32} {t b N : Nat} (hd : At y.2.1 pc (.aastore) 1 pc') (ok : Is h a t) (h1 : 16 ≤ t) (h2 : t ≤ 19) (ok2 : Is h b ((rfC t).1 + 1)) (hn : hN h a = N) (hin : vp_in i N) (k : Ev X y d mc ms Q cells slots pc' ls st (wR h a i.toNatClampNeg (some b))) : Ev X y d mc ms Q cells slots pc ls (vR (some b) :: vI i :: vR (some a) :: st) h := e_aastore hd ok h1 h2 ok2 (by rw [hn]; exact hin) k
theorem Fx.wR {h : HP} (F : Fx h) {b i : Nat} {v : Option Nat} (hb : R0l.getD (b - 32) [] = []) : Fx (wR h b i v) := by
  refine ⟨F.1, F.2.1, fun a j hr => ?_⟩
  have hab : a ≠ b := by
    intro e
    subst e
    apply hr
    unfold R0
    rw [hb]
    rfl
  exact (up2_a hab).trans (F.2.2 a j hr)
/-- the first CLASH from s on, among m STANDINGS -/
def fcl (D : Nat → DD) (n : Nat) (d : DD) : Nat → Nat → Option (Nat × Nat × Nat)
  | _, 0 => none
  | s, m + 1 => match ncl D n d s with
    | some q => some (s, q.1, q.2)
    | none => fcl D n d (s + 1) m
/-- one more deal is taken -/
def tkn (h : HP) (n a : Nat) (d : DD) (s0 m : Nat) : HP := rwR (wI (wR h 34 n (some a)) 33 1 (nI (n + 1))) (rng s0 (s0 + m) (stl d) (hI (wI (wR h 34 n (some a)) 33 1 (nI (n + 1))) 39))
/-- a finding -/
def fv (k : Nat) : VV := vI (-1000001 - nI k)
def fnd (h : HP) (k : Nat) : HP := wI h 76 k (hI h 76 k + 1)
theorem zfin (X : EX) {h : HP} (F : Fx h) {k : Nat} (hk : k < 8) : Ct X mX8_finding 0 0 0 [vR (some 32), vI (nI k)] h (Rt (fv k) (fnd h k)) := zX8_finding X F hk
theorem zX8_takes (X : EX) {h : HP} (F : Fx h) {f n : Nat} {o : Nat → Nat} {A : Nat → Nat} {D : Nat → DD} (bf : BkF h f o) (b : BkD h n A D) (hn : n < 12) {a : Nat} {d : DD} (kd : DealC h a d) : Ct X mX8_takes 5 0 0 [vR (some 32), vR (some a)] h (Rt (vI (b2 ((fcl D n d (fo o f) (om f)).isNone = true))) (match fcl D n d (fo o f) (om f) with | some q => tl h q.1 q.2.1 q.2.2 | none => tkn h n a d (fo o f) (om f))) := by
  refine ct_of rfl (Nat.le_of_ble_eq_true rfl) ?_
  have hb6 := om_fo bf.2.1 bf.2.2.2
  have loop : ∀ (m : Nat) (j : Nat), j + m = fo o f + om f → fcl D n d j m = fcl D n d (fo o f) (om f) → Ev X mX8_takes 5 0 0 (Rt (vI (b2 ((fcl D n d (fo o f) (om f)).isNone = true))) (match fcl D n d (fo o f) (om f) with | some q => tl h q.1 q.2.1 q.2.2 | none => tkn h n a d (fo o f) (om f))) 0 0 37 [(0, some (vR (some 32))), (1, some (vR (some a))), (2, some (vI (nI (fo o f)))), (3, some (vI (nI (fo o f + om f)))), (4, some (vI (nI j)))] [] h := by
    intro m
    induction m with
    | zero =>
      intro j hj hR9
      refine e_iload aX8_takes_37 rfl ?_
      refine e_iload_n aX8_takes_39 rfl ?_
      refine e_icmp_ge aX8_takes_40 (fun c40 => ?_) (fun c40 => ?_)
      · -- 40: taken
        refine e_aload_n aX8_takes_61 rfl ?_
        refine e_getRF aX8_takes_62 fX8_10 rfl (fx_is F rfl) (fx_r (b := 33) F rfl) ?_
        refine e_getRF aX8_takes_65 fX8_166 rfl (fx_is F rfl) (fx_r (b := 34) F rfl) ?_
        refine e_aload_n aX8_takes_68 rfl ?_
        refine e_getRF aX8_takes_69 fX8_10 rfl (fx_is F rfl) (fx_r (b := 33) F rfl) ?_
        refine e_getIF aX8_takes_72 fX8_101 rfl (fx_is F rfl) b.1 ?_
        refine e_aload_n aX8_takes_75 rfl ?_
        refine e_aastoreF (t := 17) aX8_takes_76 (fx_is F rfl) (by decide) (by decide) kd.2.1 (fx_n (n := 12) F rfl) (vin (by omega)) ?_
        rw [cl (by omega)]
        have F : Fx (wR h 34 n (some a)) := F.wR rfl
        refine e_aload_n aX8_takes_77 rfl ?_
        refine e_getRF aX8_takes_78 fX8_10 rfl (fx_is F rfl) (fx_r (b := 33) F rfl) ?_
        refine e_dup aX8_takes_81 rfl ?_
        refine e_getIF aX8_takes_82 fX8_101 rfl (fx_is F rfl) b.1 ?_
        refine e_iconst (v := 1) aX8_takes_85 (by decide) ?_
        refine e_iadd aX8_takes_86 ?_
        refine e_top (nI_1 n) ?_
        refine e_putI aX8_takes_87 fX8_101 rfl (fx_is F rfl) (Or.inl rfl) ?_
        refine e_aload_n aX8_takes_90 rfl ?_
        refine e_getRF aX8_takes_91 fX8_23 rfl (fx_is F rfl) (fx_r (b := 38) F rfl) ?_
        refine e_aload_n aX8_takes_94 rfl ?_
        refine e_iload_n aX8_takes_95 rfl ?_
        refine e_iload_n aX8_takes_96 rfl ?_
        refine e_invvV aX8_takes_97 kX8_276 (zX2_settle X (h := (wI (wR h 34 n (some a)) 33 1 (nI (n + 1)))) F ((kd.up (Up.wR (by decide))).up (Up.wI (by decide))) (Nat.le_add_right _ _) hb6) rfl rfl (fx_is F rfl) (Nat.le_of_ble_eq_true rfl) (Nat.le_of_ble_eq_true rfl) (Nat.le_refl _) (Nat.le_refl _) (Nat.le_of_ble_eq_true rfl) ?_
        refine e_iconst (v := 1) aX8_takes_100 (by decide) ?_
        refine e_zreturn aX8_takes_101 rfl (by decide) (Nat.le_refl _) (Nat.le_refl _) ?_
        exact ⟨by rw [← hR9]; rfl, by rw [← hR9]; rfl⟩
      · -- 40: not taken
        exact absurd (nI_le (by omega) (by omega)) c40
    | succ m ih =>
      intro j hj hR9
      refine e_iload aX8_takes_37 rfl ?_
      refine e_iload_n aX8_takes_39 rfl ?_
      refine e_icmp_ge aX8_takes_40 (fun c40 => ?_) (fun c40 => ?_)
      · -- 40: taken
        exact absurd c40 (nI_ge (by omega) (by omega))
      · -- 40: not taken
        refine e_aload_n aX8_takes_43 rfl ?_
        refine e_iload aX8_takes_44 rfl ?_
        refine e_aload_n aX8_takes_46 rfl ?_
        refine e_invvT aX8_takes_47 kX8_272 (zX8_clashesUnder X F b kd (by omega)) rfl rfl (fx_is F rfl) (Nat.le_of_ble_eq_true rfl) (Nat.le_of_ble_eq_true rfl) (Nat.le_refl _) (Nat.le_refl _) (Nat.le_of_ble_eq_true rfl) ?_
        refine e_if_eq aX8_takes_50 (fun c50 => ?_) (fun c50 => ?_)
        · -- 50: taken
          have q50 : ncl D n d j = none := Option.not_isSome_iff_eq_none.mp (fun z => b2_0.mp c50 z)
          refine e_hp (h2 := h) (by rw [q50]) ?_
          refine e_iinc aX8_takes_55 rfl rfl (Nat.le_of_ble_eq_true rfl) ?_
          refine e_goto aX8_takes_58 ?_
          refine e_ls (ls' := [(0, some (vR (some 32))), (1, some (vR (some a))), (2, some (vI (nI (fo o f)))), (3, some (vI (nI (fo o f + om f)))), (4, some (vI (nI (j + 1))))]) ⟨rfl, rfl, rfl, rfl, congrArg (fun x => some (vI x)) (nI_1 j), trivial⟩ ?_
          exact ih (j + 1) (by omega) (by
            rw [← hR9]
            conv => rhs; unfold fcl
            rw [q50])
        · -- 50: not taken
          obtain ⟨q, q50⟩ := Option.isSome_iff_exists.mp (Decidable.of_not_not (fun z => c50 (b2_0.mpr z)))
          refine e_hp (h2 := tl h j q.1 q.2) (by rw [q50]) ?_
          refine e_iconst (v := 0) aX8_takes_53 (by decide) ?_
          refine e_zreturn aX8_takes_54 rfl (by decide) (Nat.le_refl _) (Nat.le_refl _) ?_
          have hR8 : fcl D n d (fo o f) (om f) = some (j, q.1, q.2) := by
            rw [← hR9]
            unfold fcl
            rw [q50]
          exact ⟨by rw [hR8]; rfl, by rw [hR8]⟩
  refine e_aload_n aX8_takes_0 rfl ?_
  refine e_ifnull aX8_takes_1 (fun c1 => ?_) (fun r1 c1 => ?_)
  · -- 1: taken
    exact absurd c1 (by simp)
  · -- 1: not taken
    skip
    refine e_aload_n aX8_takes_4 rfl ?_
    refine e_getRF aX8_takes_5 fX8_10 rfl (fx_is F rfl) (fx_r (b := 33) F rfl) ?_
    refine e_getIF aX8_takes_8 fX8_101 rfl (fx_is F rfl) b.1 ?_
    refine e_bipush (v := 12) aX8_takes_11 (by decide) ?_
    refine e_icmp_lt aX8_takes_13 (fun c13 => ?_) (fun c13 => ?_)
    · -- 13: taken
      skip
      refine e_aload_n aX8_takes_18 rfl ?_
      refine e_getRF aX8_takes_19 fX8_10 rfl (fx_is F rfl) (fx_r (b := 33) F rfl) ?_
      refine e_invvT aX8_takes_22 kX8_84 (zX0_firstOpen X F bf) rfl rfl (fx_is F rfl) (Nat.le_of_ble_eq_true rfl) (Nat.le_of_ble_eq_true rfl) (Nat.le_refl _) (Nat.le_refl _) (Nat.le_of_ble_eq_true rfl) ?_
      refine e_istore_n aX8_takes_25 (Nat.le_of_ble_eq_true rfl) ?_
      refine e_aload_n aX8_takes_26 rfl ?_
      refine e_getRF aX8_takes_27 fX8_10 rfl (fx_is F rfl) (fx_r (b := 33) F rfl) ?_
      refine e_invvT aX8_takes_30 kX8_181 (zX0_endOpen X F bf) rfl rfl (fx_is F rfl) (Nat.le_of_ble_eq_true rfl) (Nat.le_of_ble_eq_true rfl) (Nat.le_refl _) (Nat.le_refl _) (Nat.le_of_ble_eq_true rfl) ?_
      refine e_istore_n aX8_takes_33 (Nat.le_of_ble_eq_true rfl) ?_
      refine e_iload_n aX8_takes_34 rfl ?_
      refine e_istore aX8_takes_35 (Nat.le_of_ble_eq_true rfl) ?_
      refine e_ls (ls' := [(0, some (vR (some 32))), (1, some (vR (some a))), (2, some (vI (nI (fo o f)))), (3, some (vI (nI (fo o f + om f)))), (4, some (vI (nI (fo o f))))]) ⟨rfl, rfl, rfl, rfl, rfl, trivial⟩ ?_
      exact loop (om f) (fo o f) rfl rfl
    · -- 13: not taken
      exact absurd (nI_lt (a := n) (b := 12) hn (by decide)) c13
/-- what enter answers, and the heap behind it -/
def entV (D : Nat → DD) (n : Nat) (d : DD) (f : Nat) (o : Nat → Nat) : VV := if dP d / 3 < f then fv 3 else if 12 ≤ n then fv 1 else match fcl D n d (fo o f) (om f) with
  | some _ => fv 4
  | none => vI (nI n)
def entH (h : HP) (a : Nat) (D : Nat → DD) (n : Nat) (d : DD) (f : Nat) (o : Nat → Nat) : HP := if dP d / 3 < f then fnd h 3 else if 12 ≤ n then fnd h 1 else match fcl D n d (fo o f) (om f) with
  | some q => fnd (tl h q.1 q.2.1 q.2.2) 4
  | none => tkn h n a d (fo o f) (om f)
theorem tkn_33 {h : HP} {n a : Nat} {d : DD} {s0 m : Nat} : hI (tkn h n a d s0 m) 33 1 = nI (n + 1) := (rwR_I (by decide)).trans (up2_s (f := h.1) (a := 33) (i := 1) (v := nI (n + 1)))
theorem zX8_enter (X : EX) {h : HP} (F : Fx h) {f n : Nat} {o : Nat → Nat} {A : Nat → Nat} {D : Nat → DD} (bf : BkF h f o) (b : BkD h n A D) {a : Nat} {d : DD} (kd : DealC h a d) : Ct X mX8_enter 6 0 0 [vR (some 32), vR (some a)] h (Rt (entV D n d f o) (entH h a D n d f o)) := by
  refine ct_of rfl (Nat.le_of_ble_eq_true rfl) ?_
  have hp9 := kd.2.2.1.2.2.2.2.1
  have hf4 := bf.2.1
  have hn12 := b.2.1
  refine e_aload_n aX8_enter_0 rfl ?_
  refine e_getIF aX8_enter_1 fX8_140 rfl kd.2.1 kd.2.2.2.2.2.2.1 ?_
  refine e_iconst (v := 3) aX8_enter_4 (by decide) ?_
  refine e_idiv aX8_enter_5 (by decide) ?_
  refine e_top (nI_div (b := 3) (by omega) (by decide) (by decide)) ?_
  refine e_aload_n aX8_enter_6 rfl ?_
  refine e_getRF aX8_enter_7 fX8_10 rfl (fx_is F rfl) (fx_r (b := 33) F rfl) ?_
  refine e_getIF aX8_enter_10 fX8_73 rfl (fx_is F rfl) bf.1 ?_
  refine e_icmp_ge aX8_enter_13 (fun c13 => ?_) (fun c13 => ?_)
  · -- 13: taken
    have q13 := (not_congr (nI_ltI (a := dP d / 3) (b := f) (by omega) (by omega))).mp (Int32.not_lt.mpr c13)
    refine e_aload_n aX8_enter_22 rfl ?_
    refine e_getRF aX8_enter_23 fX8_10 rfl (fx_is F rfl) (fx_r (b := 33) F rfl) ?_
    refine e_getIF aX8_enter_26 fX8_101 rfl (fx_is F rfl) b.1 ?_
    refine e_bipush (v := 12) aX8_enter_29 (by decide) ?_
    refine e_icmp_lt aX8_enter_31 (fun c31 => ?_) (fun c31 => ?_)
    · -- 31: taken
      have q31 : n < 12 := (nI_ltI (b := 12) (by omega) (by decide)).mp c31
      refine e_aload_n aX8_enter_40 rfl ?_
      refine e_aload_n aX8_enter_41 rfl ?_
      refine e_invvT aX8_enter_42 kX8_121 (zX8_takes X F bf b q31 kd) rfl rfl (fx_is F rfl) (Nat.le_of_ble_eq_true rfl) (Nat.le_of_ble_eq_true rfl) (Nat.le_refl _) (Nat.le_refl _) (Nat.le_of_ble_eq_true rfl) ?_
      refine e_if_eq aX8_enter_45 (fun c45 => ?_) (fun c45 => ?_)
      · -- 45: taken
        obtain ⟨q, q45⟩ := Option.ne_none_iff_exists'.mp (fun z => b2_0.mp c45 (Option.isNone_iff_eq_none.mpr z))
        refine e_hp (h2 := tl h q.1 q.2.1 q.2.2) (by rw [q45]) ?_
        refine e_aload_n aX8_enter_60 rfl ?_
        refine e_iconst (v := 4) aX8_enter_61 (by decide) ?_
        refine e_invvT aX8_enter_62 kX8_62 (zfin X (k := 4) (h := tl h q.1 q.2.1 q.2.2) F (by decide)) rfl rfl (fx_is F rfl) (Nat.le_of_ble_eq_true rfl) (Nat.le_of_ble_eq_true rfl) (Nat.le_refl _) (Nat.le_refl _) (Nat.le_of_ble_eq_true rfl) ?_
        refine e_ireturn aX8_enter_65 rfl (Nat.le_refl _) (Nat.le_refl _) ?_
        exact ⟨by unfold entV; rw [if_neg q13, if_neg (by omega), q45] <;> rfl, by unfold entH; rw [if_neg q13, if_neg (by omega), q45] <;> rfl⟩
      · -- 45: not taken
        have q45 := Option.isNone_iff_eq_none.mp (Decidable.of_not_not (fun z => c45 (b2_0.mpr z)))
        refine e_hp (h2 := tkn h n a d (fo o f) (om f)) (by rw [q45]) ?_
        refine e_aload_n aX8_enter_48 rfl ?_
        refine e_getRF aX8_enter_49 fX8_10 rfl (fx_is F rfl) (fx_r (b := 33) F rfl) ?_
        refine e_getIF aX8_enter_52 fX8_101 rfl (fx_is F rfl) tkn_33 ?_
        refine e_iconst (v := 1) aX8_enter_55 (by decide) ?_
        refine e_isub aX8_enter_56 ?_
        refine e_top (nI_pred n) ?_
        refine e_goto aX8_enter_57 ?_
        refine e_ireturn aX8_enter_65 rfl (Nat.le_refl _) (Nat.le_refl _) ?_
        exact ⟨by unfold entV; rw [if_neg q13, if_neg (by omega), q45] <;> rfl, by unfold entH; rw [if_neg q13, if_neg (by omega), q45] <;> rfl⟩
    · -- 31: not taken
      have q31 : ¬ n < 12 := (not_congr (nI_ltI (b := 12) (by omega) (by decide))).mp c31
      refine e_aload_n aX8_enter_34 rfl ?_
      refine e_iconst (v := 1) aX8_enter_35 (by decide) ?_
      refine e_invvT aX8_enter_36 kX8_62 (zfin X (k := 1) F (by decide)) rfl rfl (fx_is F rfl) (Nat.le_of_ble_eq_true rfl) (Nat.le_of_ble_eq_true rfl) (Nat.le_refl _) (Nat.le_refl _) (Nat.le_of_ble_eq_true rfl) ?_
      refine e_ireturn aX8_enter_39 rfl (Nat.le_refl _) (Nat.le_refl _) ?_
      exact ⟨by unfold entV; rw [if_neg q13, if_pos (by omega)] <;> rfl, by unfold entH; rw [if_neg q13, if_pos (by omega)] <;> rfl⟩
  · -- 13: not taken
    have q13 := (nI_ltI (a := dP d / 3) (b := f) (by omega) (by omega)).mp (Int32.not_le.mp c13)
    refine e_aload_n aX8_enter_16 rfl ?_
    refine e_iconst (v := 3) aX8_enter_17 (by decide) ?_
    refine e_invvT aX8_enter_18 kX8_62 (zfin X (k := 3) F (by decide)) rfl rfl (fx_is F rfl) (Nat.le_of_ble_eq_true rfl) (Nat.le_of_ble_eq_true rfl) (Nat.le_refl _) (Nat.le_refl _) (Nat.le_of_ble_eq_true rfl) ?_
    refine e_ireturn aX8_enter_21 rfl (Nat.le_refl _) (Nat.le_refl _) ?_
    exact ⟨by unfold entV; rw [if_pos q13] <;> rfl, by unfold entH; rw [if_pos q13] <;> rfl⟩
