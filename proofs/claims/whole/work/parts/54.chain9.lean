/-! the reference: deals laid out, CHAINS, how a PICK clashes (written by wip/whole/g54.py) -/
/-- the deals are laid out for s, as far as k -/
def LsC (h : HP) (k : Nat) (D : Nat → DD) (s : Nat) : Prop := ∀ j, j < k → ∀ w, w < 2 → hI h 115 (2 * j + w) = oI (cvW (D j) s w)
theorem LsC.sf {P : Nat → Nat → Prop} {h h2 : HP} {k s : Nat} {D : Nat → DD} (q : LsC h k D s) (z : Sf P h h2) (n1 : ∀ i, ¬ P 115 i) : LsC h2 k D s := fun j hj w hw => (z.2 _ _ (n1 _)).trans (q j hj w hw)
theorem LsC.c1 {h h2 : HP} {k s : Nat} {D : Nat → DD} (q : LsC h k D s) (z : Sf sc1 h h2) : LsC h2 k D s := q.sf z (fun i => by unfold sc1; omega)
theorem LsC.s {h : HP} {k s : Nat} {D : Nat → DD} (q : LsC h k D s) : LsC (wI (wI h 115 (2 * k + 0) (oI (cvW (D k) s 0))) 115 (2 * k + 1) (oI (cvW (D k) s 1))) (k + 1) D s := by
  intro j hj w hw
  by_cases e : j = k
  · subst e
    rcases (show w = 0 ∨ w = 1 by omega) with rfl | rfl
    · exact (up2_i (by omega)).trans up2_s
    · exact up2_s
  · exact (up2_i (by omega)).trans ((up2_i (by omega)).trans (q j (by omega) w hw))
theorem zX9_laysOut (X : EX) {h0 : HP} (F0 : Fx h0) {n : Nat} {D : Nat → DD} (md0 : MkD h0 n D) {s : Nat} (hs : s < 1296) : Ct X mX9_laysOut 6 0 0 [vR (some 109), vI (nI s)] h0 (fun v h' => v = none ∧ Sc h0 h' ∧ LsC h' n D s) := by
  refine ct_of rfl (Nat.le_of_ble_eq_true rfl) ?_
  have hn12 := md0.2.1
  have loop : ∀ (m : Nat) (k : Nat) (hz : HP), k + m = n → Sc h0 hz → LsC hz k D s → Ev X mX9_laysOut 6 0 0 (fun v h' => v = none ∧ Sc h0 h' ∧ LsC h' n D s) 0 0 2 [(0, some (vR (some 109))), (1, some (vI (nI s))), (2, some (vI (nI k)))] [] hz := by
    intro m
    induction m with
    | zero =>
      intro k hz hk S LS
      obtain rfl : k = n := by omega
      have F := S.F F0
      have md := S.md md0
      refine e_iload_n aX9_laysOut_2 rfl ?_
      refine e_aload_n aX9_laysOut_3 rfl ?_
      refine e_getIF aX9_laysOut_4 fX9_89 rfl (fx_is F rfl) md.1 ?_
      refine e_icmp_ge aX9_laysOut_7 (fun c7 => ?_) (fun c7 => ?_)
      · -- 7: taken
        refine e_return aX9_laysOut_48 rfl (Nat.le_refl _) (Nat.le_refl _) ?_
        exact ⟨rfl, S, LS⟩
      · -- 7: not taken
        exact absurd (nI_le (by omega) (by omega)) c7
    | succ m ih =>
      intro k hz hk S LS
      have F := S.F F0
      have md := S.md md0
      refine e_iload_n aX9_laysOut_2 rfl ?_
      refine e_aload_n aX9_laysOut_3 rfl ?_
      refine e_getIF aX9_laysOut_4 fX9_89 rfl (fx_is F rfl) md.1 ?_
      refine e_icmp_ge aX9_laysOut_7 (fun c7 => ?_) (fun c7 => ?_)
      · -- 7: taken
        exact absurd c7 (nI_ge (by omega) (by omega))
      · -- 7: not taken
        refine e_aload_n aX9_laysOut_10 rfl ?_
        refine e_getRF aX9_laysOut_11 fX9_29 rfl (fx_is F rfl) (fx_r (b := 115) F rfl) ?_
        refine e_iconst (v := 2) aX9_laysOut_14 (by decide) ?_
        refine e_iload_n aX9_laysOut_15 rfl ?_
        refine e_imul aX9_laysOut_16 ?_
        refine e_top (nI_mul 2 k) ?_
        refine e_aload_n aX9_laysOut_17 rfl ?_
        refine e_iload_n aX9_laysOut_18 rfl ?_
        refine e_iload_n aX9_laysOut_19 rfl ?_
        refine e_iconst (v := 0) aX9_laysOut_20 (by decide) ?_
        refine e_invvT aX9_laysOut_21 kX9_158 (zX9_conveyed X F (by omega) hs (md.2.2 k (by omega)) (i := 0) (by decide)) rfl rfl (fx_is F rfl) (Nat.le_of_ble_eq_true rfl) (Nat.le_of_ble_eq_true rfl) (Nat.le_refl _) (Nat.le_refl _) (Nat.le_of_ble_eq_true rfl) ?_
        refine e_iastoreF aX9_laysOut_24 (fx_is F rfl) (fx_n (n := 24) F rfl) (vin (N := 24) (by omega)) ?_
        rw [cl (by omega)]
        have S1 : Sc h0 (wI hz 115 (2 * k) (oI (cvW (D k) s 0))) := S.wI (Or.inl rfl)
        have md1 := S1.md md0
        refine e_aload_n aX9_laysOut_25 rfl ?_
        refine e_getRF aX9_laysOut_26 fX9_29 rfl (fx_is F rfl) (fx_r (b := 115) F rfl) ?_
        refine e_iconst (v := 2) aX9_laysOut_29 (by decide) ?_
        refine e_iload_n aX9_laysOut_30 rfl ?_
        refine e_imul aX9_laysOut_31 ?_
        refine e_top (nI_mul 2 k) ?_
        refine e_iconst (v := 1) aX9_laysOut_32 (by decide) ?_
        refine e_iadd aX9_laysOut_33 ?_
        refine e_top (nI_1 (2 * k)) ?_
        refine e_aload_n aX9_laysOut_34 rfl ?_
        refine e_iload_n aX9_laysOut_35 rfl ?_
        refine e_iload_n aX9_laysOut_36 rfl ?_
        refine e_iconst (v := 1) aX9_laysOut_37 (by decide) ?_
        refine e_invvT aX9_laysOut_38 kX9_158 (zX9_conveyed X (S1.F F0) (by omega) hs (md1.2.2 k (by omega)) (i := 1) (by decide)) rfl rfl (fx_is F rfl) (Nat.le_of_ble_eq_true rfl) (Nat.le_of_ble_eq_true rfl) (Nat.le_refl _) (Nat.le_refl _) (Nat.le_of_ble_eq_true rfl) ?_
        refine e_iastoreF aX9_laysOut_41 (fx_is F rfl) (fx_n (n := 24) F rfl) (vin (N := 24) (by omega)) ?_
        rw [cl (by omega)]
        refine e_iinc aX9_laysOut_42 rfl rfl (Nat.le_of_ble_eq_true rfl) ?_
        refine e_goto aX9_laysOut_45 ?_
        refine e_ls (ls' := [(0, some (vR (some 109))), (1, some (vI (nI s))), (2, some (vI (nI (k + 1))))]) ⟨rfl, rfl, congrArg (fun x => some (vI x)) (nI_1 k), trivial⟩ ?_
        exact ih (k + 1) _ (by omega) (S1.wI (Or.inl rfl)) LS.s
  refine e_iconst (v := 0) aX9_laysOut_0 (by decide) ?_
  refine e_istore_n aX9_laysOut_1 (Nat.le_of_ble_eq_true rfl) ?_
  refine e_ls (ls' := [(0, some (vR (some 109))), (1, some (vI (nI s))), (2, some (vI (nI 0)))]) ⟨rfl, rfl, rfl, trivial⟩ ?_
  exact loop n 0 h0 (by omega) (Sf.rf h0) (fun j hj => absurd hj (Nat.not_lt_zero j))
/-- to whom a pick goes from c, as the reference looks it up: -1 to none, 3 two say so -/
def gwQ (d : DD) (s p c w : Nat) (v : Int32) : Int32 := if cvW d s w = some p ∧ (if w = 0 then dF d else dT d) = c then (if v = -1 then nI (if w = 0 then dT d else dF d) else 3) else v
def gtV (D : Nat → DD) (s p c : Nat) : Nat → Int32
  | 0 => -1
  | k + 1 => gwQ (D k) s p c 1 (gwQ (D k) s p c 0 (gtV D s p c k))
theorem gtV_s {D : Nat → DD} {s p c k : Nat} : gtV D s p c (k + 1) = gwQ (D k) s p c 1 (gwQ (D k) s p c 0 (gtV D s p c k)) := rfl
def gOk (a : Int32) : Prop := a = -1 ∨ a = 3 ∨ ∃ t, t < 3 ∧ a = nI t
theorem gwQ_ok {d : DD} (w : dWf d) {s p c i : Nat} {v : Int32} (q : gOk v) : gOk (gwQ d s p c i v) := by
  unfold gwQ
  by_cases z : cvW d s i = some p ∧ (if i = 0 then dF d else dT d) = c
  · rw [if_pos z]
    by_cases z2 : v = -1
    · rw [if_pos z2]
      refine Or.inr (Or.inr ⟨if i = 0 then dT d else dF d, ?_, rfl⟩)
      split
      · exact w.2.2.1
      · exact w.2.1
    · rw [if_neg z2]
      exact Or.inr (Or.inl rfl)
  · rw [if_neg z]
    exact q
theorem gtV_ok {D : Nat → DD} {s p c : Nat} : ∀ {k : Nat}, (∀ j, j < k → dWf (D j)) → gOk (gtV D s p c k)
  | 0, _ => Or.inl rfl
  | k + 1, w => gwQ_ok (w k (by omega)) (gwQ_ok (w k (by omega)) (gtV_ok (fun j hj => w j (by omega))))
theorem zX9_goesTo (X : EX) {h : HP} (F : Fx h) {n : Nat} {D : Nat → DD} (md : MkD h n D) {s p c : Nat} (LS : LsC h n D s) (hp : p < 12) (hc : c < 3) : Ct X mX9_goesTo 1 0 0 [vR (some 109), vI (nI p), vI (nI c)] h (Rt (vI (gtV D s p c n)) h) := by
  refine ct_of rfl (Nat.le_of_ble_eq_true rfl) ?_
  have hn12 := md.2.1
  have loop : ∀ (m : Nat) (k : Nat), k + m = n → Ev X mX9_goesTo 1 0 0 (Rt (vI (gtV D s p c n)) h) 0 0 5 [(0, some (vR (some 109))), (1, some (vI (nI p))), (2, some (vI (nI c))), (3, some (vI (gtV D s p c k))), (4, some (vI (nI k)))] [] h := by
    intro m
    induction m with
    | zero =>
      intro k hk
      obtain rfl : k = n := by omega
      refine e_iload aX9_goesTo_5 rfl ?_
      refine e_aload_n aX9_goesTo_7 rfl ?_
      refine e_getIF aX9_goesTo_8 fX9_89 rfl (fx_is F rfl) md.1 ?_
      refine e_icmp_ge aX9_goesTo_11 (fun c11 => ?_) (fun c11 => ?_)
      · -- 11: taken
        refine e_iload_n aX9_goesTo_85 rfl ?_
        refine e_ireturn aX9_goesTo_86 rfl (Nat.le_refl _) (Nat.le_refl _) ?_
        exact ⟨rfl, rfl⟩
      · -- 11: not taken
        exact absurd (nI_le (by omega) (by omega)) c11
    | succ m ih =>
      intro k hk
      have hn12 := md.2.1
      obtain ⟨wf, e0, e1, e2, e3, e4, e5, e6, eb⟩ := md.2.2 k (by omega)
      have hF3 := wf.2.1
      have hT3 := wf.2.2.1
      have hpb : ∀ x, some p = some x → x < 1073741824 := fun x z => by cases z; omega
      have E2 : ∀ v, v = gtV D s p c (k + 1) → Ev X mX9_goesTo 1 0 0 (Rt (vI (gtV D s p c n)) h) 0 0 17 [(0, some (vR (some 109))), (1, some (vI (nI p))), (2, some (vI (nI c))), (3, some (vI v)), (4, some (vI (nI k))), (5, some (vI (nI 2)))] [] h := by
        intro v hv
        refine e_iload aX9_goesTo_17 rfl ?_
        refine e_iconst (v := 2) aX9_goesTo_19 (by decide) ?_
        refine e_icmp_ge aX9_goesTo_20 (fun c20 => ?_) (fun c20 => ?_)
        · -- 20: taken
          refine e_iinc aX9_goesTo_79 rfl rfl (Nat.le_of_ble_eq_true rfl) ?_
          refine e_goto aX9_goesTo_82 ?_
          refine e_ls (ls' := [(0, some (vR (some 109))), (1, some (vI (nI p))), (2, some (vI (nI c))), (3, some (vI (gtV D s p c (k + 1)))), (4, some (vI (nI (k + 1))))]) ⟨rfl, rfl, rfl, congrArg (fun x => some (vI x)) hv, congrArg (fun x => some (vI x)) (nI_1 k), trivial⟩ ?_
          exact ih (k + 1) (by omega)
        · -- 20: not taken
          exact absurd (nI_le (a := 2) (b := 2) (by decide) (by decide)) c20
      have E1 : ∀ v, v = gwQ (D k) s p c 0 (gtV D s p c k) → Ev X mX9_goesTo 1 0 0 (Rt (vI (gtV D s p c n)) h) 0 0 17 [(0, some (vR (some 109))), (1, some (vI (nI p))), (2, some (vI (nI c))), (3, some (vI v)), (4, some (vI (nI k))), (5, some (vI (nI 1)))] [] h := by
        intro v hv
        have E2 := fun (x : Int32) => E2 x
        refine e_iload aX9_goesTo_17 rfl ?_
        refine e_iconst (v := 2) aX9_goesTo_19 (by decide) ?_
        refine e_icmp_ge aX9_goesTo_20 (fun c20 => ?_) (fun c20 => ?_)
        · -- 20: taken
          exact absurd c20 (by decide)
        · -- 20: not taken
          refine e_aload_n aX9_goesTo_23 rfl ?_
          refine e_getRF aX9_goesTo_24 fX9_29 rfl (fx_is F rfl) (fx_r (b := 115) F rfl) ?_
          refine e_iconst (v := 2) aX9_goesTo_27 (by decide) ?_
          refine e_iload aX9_goesTo_28 rfl ?_
          refine e_imul aX9_goesTo_30 ?_
          refine e_top (nI_mul 2 k) ?_
          refine e_iload aX9_goesTo_31 rfl ?_
          refine e_iadd aX9_goesTo_33 ?_
          refine e_top (nI_add (2 * k) 1) ?_
          refine e_ialoadF aX9_goesTo_34 (fx_is F rfl) (fx_n (n := 24) F rfl) (vin (N := 24) (by omega)) (show hI h 115 (nI (2 * k + 1)).toNatClampNeg = oI (cvW (D k) s 1) by rw [cl (by omega)]; exact LS k (by omega) 1 (by decide)) ?_
          refine e_iload_n aX9_goesTo_35 rfl ?_
          refine e_icmp_ne aX9_goesTo_36 (fun c36 => ?_) (fun c36 => ?_)
          · -- 36: taken
            have q36 := (not_congr (oI_inj (q := cvW (D k) s 1) (r := some p) (cvW_b wf) hpb)).mp c36
            refine e_iinc aX9_goesTo_73 rfl rfl (Nat.le_of_ble_eq_true rfl) ?_
            refine e_goto aX9_goesTo_76 ?_
            refine e_ls (ls' := [(0, some (vR (some 109))), (1, some (vI (nI p))), (2, some (vI (nI c))), (3, some (vI (gwQ (D k) s p c 1 v))), (4, some (vI (nI k))), (5, some (vI (nI 2)))]) ⟨rfl, rfl, rfl, congrArg (fun x => some (vI x)) (by unfold gwQ; rw [if_neg (fun z => q36 z.1)]), rfl, congrArg (fun x => some (vI x)) (nI_1 1), trivial⟩ ?_
            exact E2 _ (by rw [hv]; rfl)
          · -- 36: not taken
            have q36 := (oI_inj (q := cvW (D k) s 1) (r := some p) (cvW_b wf) hpb).mp c36
            refine e_aload_n aX9_goesTo_39 rfl ?_
            refine e_iload aX9_goesTo_40 rfl ?_
            refine e_iconst (v := 1) aX9_goesTo_42 (by decide) ?_
            refine e_iload aX9_goesTo_43 rfl ?_
            refine e_iadd aX9_goesTo_45 ?_
            refine e_top (nI_add 1 1) ?_
            refine e_invvT aX9_goesTo_46 kX9_145 (zits X F (j := 1 + 1) (by omega) (by decide) e2) rfl rfl (fx_is F rfl) (Nat.le_of_ble_eq_true rfl) (Nat.le_of_ble_eq_true rfl) (Nat.le_refl _) (Nat.le_refl _) (Nat.le_of_ble_eq_true rfl) ?_
            refine e_iload_n aX9_goesTo_49 rfl ?_
            refine e_icmp_ne aX9_goesTo_50 (fun c50 => ?_) (fun c50 => ?_)
            · -- 50: taken
              have q50 : ¬ dT (D k) = c := fun z => c50 (by rw [z])
              refine e_iinc aX9_goesTo_73 rfl rfl (Nat.le_of_ble_eq_true rfl) ?_
              refine e_goto aX9_goesTo_76 ?_
              refine e_ls (ls' := [(0, some (vR (some 109))), (1, some (vI (nI p))), (2, some (vI (nI c))), (3, some (vI (gwQ (D k) s p c 1 v))), (4, some (vI (nI k))), (5, some (vI (nI 2)))]) ⟨rfl, rfl, rfl, congrArg (fun x => some (vI x)) (by unfold gwQ; rw [if_neg (fun z => q50 z.2)]), rfl, congrArg (fun x => some (vI x)) (nI_1 1), trivial⟩ ?_
              exact E2 _ (by rw [hv]; rfl)
            · -- 50: not taken
              have q50 : dT (D k) = c := (nI_eq (by omega) (by omega)).mp c50
              refine e_iload_n aX9_goesTo_53 rfl ?_
              refine e_iconst (v := -1) aX9_goesTo_54 (by decide) ?_
              refine e_icmp_ne aX9_goesTo_55 (fun c55 => ?_) (fun c55 => ?_)
              · -- 55: taken
                refine e_iconst (v := 3) aX9_goesTo_71 (by decide) ?_
                refine e_istore_n aX9_goesTo_72 (Nat.le_of_ble_eq_true rfl) ?_
                refine e_iinc aX9_goesTo_73 rfl rfl (Nat.le_of_ble_eq_true rfl) ?_
                refine e_goto aX9_goesTo_76 ?_
                refine e_ls (ls' := [(0, some (vR (some 109))), (1, some (vI (nI p))), (2, some (vI (nI c))), (3, some (vI (gwQ (D k) s p c 1 v))), (4, some (vI (nI k))), (5, some (vI (nI 2)))]) ⟨rfl, rfl, rfl, congrArg (fun x => some (vI x)) (by unfold gwQ; rw [if_pos ⟨q36, q50⟩, if_neg c55]), rfl, congrArg (fun x => some (vI x)) (nI_1 1), trivial⟩ ?_
                exact E2 _ (by rw [hv]; rfl)
              · -- 55: not taken
                refine e_aload_n aX9_goesTo_58 rfl ?_
                refine e_iload aX9_goesTo_59 rfl ?_
                refine e_iconst (v := 2) aX9_goesTo_61 (by decide) ?_
                refine e_iload aX9_goesTo_62 rfl ?_
                refine e_isub aX9_goesTo_64 ?_
                refine e_top (nI_subN (a := 2) (b := 1) (by decide)) ?_
                refine e_invvT aX9_goesTo_65 kX9_145 (zits X F (j := 2 - 1) (by omega) (by decide) e1) rfl rfl (fx_is F rfl) (Nat.le_of_ble_eq_true rfl) (Nat.le_of_ble_eq_true rfl) (Nat.le_refl _) (Nat.le_refl _) (Nat.le_of_ble_eq_true rfl) ?_
                refine e_goto aX9_goesTo_68 ?_
                refine e_istore_n aX9_goesTo_72 (Nat.le_of_ble_eq_true rfl) ?_
                refine e_iinc aX9_goesTo_73 rfl rfl (Nat.le_of_ble_eq_true rfl) ?_
                refine e_goto aX9_goesTo_76 ?_
                refine e_ls (ls' := [(0, some (vR (some 109))), (1, some (vI (nI p))), (2, some (vI (nI c))), (3, some (vI (gwQ (D k) s p c 1 v))), (4, some (vI (nI k))), (5, some (vI (nI 2)))]) ⟨rfl, rfl, rfl, congrArg (fun x => some (vI x)) (by unfold gwQ; rw [if_pos ⟨q36, q50⟩, if_pos c55]; rfl), rfl, congrArg (fun x => some (vI x)) (nI_1 1), trivial⟩ ?_
                exact E2 _ (by rw [hv]; rfl)
      have E0 : ∀ v, v = gtV D s p c k → Ev X mX9_goesTo 1 0 0 (Rt (vI (gtV D s p c n)) h) 0 0 17 [(0, some (vR (some 109))), (1, some (vI (nI p))), (2, some (vI (nI c))), (3, some (vI v)), (4, some (vI (nI k))), (5, some (vI (nI 0)))] [] h := by
        intro v hv
        refine e_iload aX9_goesTo_17 rfl ?_
        refine e_iconst (v := 2) aX9_goesTo_19 (by decide) ?_
        refine e_icmp_ge aX9_goesTo_20 (fun c20 => ?_) (fun c20 => ?_)
        · -- 20: taken
          exact absurd c20 (by decide)
        · -- 20: not taken
          refine e_aload_n aX9_goesTo_23 rfl ?_
          refine e_getRF aX9_goesTo_24 fX9_29 rfl (fx_is F rfl) (fx_r (b := 115) F rfl) ?_
          refine e_iconst (v := 2) aX9_goesTo_27 (by decide) ?_
          refine e_iload aX9_goesTo_28 rfl ?_
          refine e_imul aX9_goesTo_30 ?_
          refine e_top (nI_mul 2 k) ?_
          refine e_iload aX9_goesTo_31 rfl ?_
          refine e_iadd aX9_goesTo_33 ?_
          refine e_top (nI_add (2 * k) 0) ?_
          refine e_ialoadF aX9_goesTo_34 (fx_is F rfl) (fx_n (n := 24) F rfl) (vin (N := 24) (by omega)) (show hI h 115 (nI (2 * k + 0)).toNatClampNeg = oI (cvW (D k) s 0) by rw [cl (by omega)]; exact LS k (by omega) 0 (by decide)) ?_
          refine e_iload_n aX9_goesTo_35 rfl ?_
          refine e_icmp_ne aX9_goesTo_36 (fun c36 => ?_) (fun c36 => ?_)
          · -- 36: taken
            have q36 := (not_congr (oI_inj (q := cvW (D k) s 0) (r := some p) (cvW_b wf) hpb)).mp c36
            refine e_iinc aX9_goesTo_73 rfl rfl (Nat.le_of_ble_eq_true rfl) ?_
            refine e_goto aX9_goesTo_76 ?_
            refine e_ls (ls' := [(0, some (vR (some 109))), (1, some (vI (nI p))), (2, some (vI (nI c))), (3, some (vI (gwQ (D k) s p c 0 v))), (4, some (vI (nI k))), (5, some (vI (nI 1)))]) ⟨rfl, rfl, rfl, congrArg (fun x => some (vI x)) (by unfold gwQ; rw [if_neg (fun z => q36 z.1)]), rfl, congrArg (fun x => some (vI x)) (nI_1 0), trivial⟩ ?_
            exact E1 _ (by rw [hv])
          · -- 36: not taken
            have q36 := (oI_inj (q := cvW (D k) s 0) (r := some p) (cvW_b wf) hpb).mp c36
            refine e_aload_n aX9_goesTo_39 rfl ?_
            refine e_iload aX9_goesTo_40 rfl ?_
            refine e_iconst (v := 1) aX9_goesTo_42 (by decide) ?_
            refine e_iload aX9_goesTo_43 rfl ?_
            refine e_iadd aX9_goesTo_45 ?_
            refine e_top (nI_add 1 0) ?_
            refine e_invvT aX9_goesTo_46 kX9_145 (zits X F (j := 1 + 0) (by omega) (by decide) e1) rfl rfl (fx_is F rfl) (Nat.le_of_ble_eq_true rfl) (Nat.le_of_ble_eq_true rfl) (Nat.le_refl _) (Nat.le_refl _) (Nat.le_of_ble_eq_true rfl) ?_
            refine e_iload_n aX9_goesTo_49 rfl ?_
            refine e_icmp_ne aX9_goesTo_50 (fun c50 => ?_) (fun c50 => ?_)
            · -- 50: taken
              have q50 : ¬ dF (D k) = c := fun z => c50 (by rw [z])
              refine e_iinc aX9_goesTo_73 rfl rfl (Nat.le_of_ble_eq_true rfl) ?_
              refine e_goto aX9_goesTo_76 ?_
              refine e_ls (ls' := [(0, some (vR (some 109))), (1, some (vI (nI p))), (2, some (vI (nI c))), (3, some (vI (gwQ (D k) s p c 0 v))), (4, some (vI (nI k))), (5, some (vI (nI 1)))]) ⟨rfl, rfl, rfl, congrArg (fun x => some (vI x)) (by unfold gwQ; rw [if_neg (fun z => q50 z.2)]), rfl, congrArg (fun x => some (vI x)) (nI_1 0), trivial⟩ ?_
              exact E1 _ (by rw [hv])
            · -- 50: not taken
              have q50 : dF (D k) = c := (nI_eq (by omega) (by omega)).mp c50
              refine e_iload_n aX9_goesTo_53 rfl ?_
              refine e_iconst (v := -1) aX9_goesTo_54 (by decide) ?_
              refine e_icmp_ne aX9_goesTo_55 (fun c55 => ?_) (fun c55 => ?_)
              · -- 55: taken
                refine e_iconst (v := 3) aX9_goesTo_71 (by decide) ?_
                refine e_istore_n aX9_goesTo_72 (Nat.le_of_ble_eq_true rfl) ?_
                refine e_iinc aX9_goesTo_73 rfl rfl (Nat.le_of_ble_eq_true rfl) ?_
                refine e_goto aX9_goesTo_76 ?_
                refine e_ls (ls' := [(0, some (vR (some 109))), (1, some (vI (nI p))), (2, some (vI (nI c))), (3, some (vI (gwQ (D k) s p c 0 v))), (4, some (vI (nI k))), (5, some (vI (nI 1)))]) ⟨rfl, rfl, rfl, congrArg (fun x => some (vI x)) (by unfold gwQ; rw [if_pos ⟨q36, q50⟩, if_neg c55]), rfl, congrArg (fun x => some (vI x)) (nI_1 0), trivial⟩ ?_
                exact E1 _ (by rw [hv])
              · -- 55: not taken
                refine e_aload_n aX9_goesTo_58 rfl ?_
                refine e_iload aX9_goesTo_59 rfl ?_
                refine e_iconst (v := 2) aX9_goesTo_61 (by decide) ?_
                refine e_iload aX9_goesTo_62 rfl ?_
                refine e_isub aX9_goesTo_64 ?_
                refine e_top (nI_subN (a := 2) (b := 0) (by decide)) ?_
                refine e_invvT aX9_goesTo_65 kX9_145 (zits X F (j := 2 - 0) (by omega) (by decide) e2) rfl rfl (fx_is F rfl) (Nat.le_of_ble_eq_true rfl) (Nat.le_of_ble_eq_true rfl) (Nat.le_refl _) (Nat.le_refl _) (Nat.le_of_ble_eq_true rfl) ?_
                refine e_goto aX9_goesTo_68 ?_
                refine e_istore_n aX9_goesTo_72 (Nat.le_of_ble_eq_true rfl) ?_
                refine e_iinc aX9_goesTo_73 rfl rfl (Nat.le_of_ble_eq_true rfl) ?_
                refine e_goto aX9_goesTo_76 ?_
                refine e_ls (ls' := [(0, some (vR (some 109))), (1, some (vI (nI p))), (2, some (vI (nI c))), (3, some (vI (gwQ (D k) s p c 0 v))), (4, some (vI (nI k))), (5, some (vI (nI 1)))]) ⟨rfl, rfl, rfl, congrArg (fun x => some (vI x)) (by unfold gwQ; rw [if_pos ⟨q36, q50⟩, if_pos c55]; rfl), rfl, congrArg (fun x => some (vI x)) (nI_1 0), trivial⟩ ?_
                exact E1 _ (by rw [hv])
      refine e_iload aX9_goesTo_5 rfl ?_
      refine e_aload_n aX9_goesTo_7 rfl ?_
      refine e_getIF aX9_goesTo_8 fX9_89 rfl (fx_is F rfl) md.1 ?_
      refine e_icmp_ge aX9_goesTo_11 (fun c11 => ?_) (fun c11 => ?_)
      · -- 11: taken
        exact absurd c11 (nI_ge (by omega) (by omega))
      · -- 11: not taken
        refine e_iconst (v := 0) aX9_goesTo_14 (by decide) ?_
        refine e_istore aX9_goesTo_15 (Nat.le_of_ble_eq_true rfl) ?_
        refine e_ls (ls' := [(0, some (vR (some 109))), (1, some (vI (nI p))), (2, some (vI (nI c))), (3, some (vI (gtV D s p c k))), (4, some (vI (nI k))), (5, some (vI (nI 0)))]) ⟨rfl, rfl, rfl, rfl, rfl, rfl, trivial⟩ ?_
        exact E0 _ rfl
  refine e_iconst (v := -1) aX9_goesTo_0 (by decide) ?_
  refine e_istore_n aX9_goesTo_1 (Nat.le_of_ble_eq_true rfl) ?_
  refine e_iconst (v := 0) aX9_goesTo_2 (by decide) ?_
  refine e_istore aX9_goesTo_3 (Nat.le_of_ble_eq_true rfl) ?_
  refine e_ls (ls' := [(0, some (vR (some 109))), (1, some (vI (nI p))), (2, some (vI (nI c))), (3, some (vI (gtV D s p c 0))), (4, some (vI (nI 0)))]) ⟨rfl, rfl, rfl, rfl, rfl, trivial⟩ ?_
  exact loop n 0 (by omega)
/-- the walk along a CHAIN: whether somebody would come twice; who came -/
def chR (G : Nat → Int32) : Nat → Int32 → List Nat → Bool × List Nat
  | 0, _, L => (true, L)
  | m + 1, a, L => if a = -1 ∨ a = 3 then (false, L) else if a.toNatClampNeg ∈ L then (true, L) else chR G m (G a.toNatClampNeg) (L ++ [a.toNatClampNeg])
theorem chR_s {G : Nat → Int32} {m : Nat} {a : Int32} {L : List Nat} : chR G (m + 1) a L = if a = -1 ∨ a = 3 then (false, L) else if a.toNatClampNeg ∈ L then (true, L) else chR G m (G a.toNatClampNeg) (L ++ [a.toNatClampNeg]) := rfl
theorem chR_len {G : Nat → Int32} : ∀ (m : Nat) (a : Int32) (L : List Nat), L.length ≤ (chR G m a L).2.length ∧ (chR G m a L).2.length ≤ L.length + m := by
  intro m
  induction m with
  | zero => intro a L; exact ⟨Nat.le_refl _, Nat.le_refl _⟩
  | succ m ih =>
    intro a L
    rw [chR_s]
    split
    · exact ⟨Nat.le_refl _, Nat.le_add_right _ _⟩
    · split
      · exact ⟨Nat.le_refl _, Nat.le_add_right _ _⟩
      · have := ih (G a.toNatClampNeg) (L ++ [a.toNatClampNeg])
        rw [List.length_append] at this
        simp only [List.length_cons, List.length_nil] at this
        exact ⟨by omega, by omega⟩
def chF (D : Nat → DD) (n s p : Nat) : Bool × List Nat := chR (fun c => gtV D s p c n) 4 (nI (p % 3)) []
def msk : List Nat → Nat
  | [] => 0
  | c :: L => 2 ^ c ||| msk L
theorem msk_bit {t : Nat} : ∀ {L : List Nat}, (msk L).testBit t = decide (t ∈ L)
  | [] => by simp [msk]
  | c :: L => by
    unfold msk
    rw [Nat.testBit_or, Nat.testBit_two_pow, msk_bit (L := L)]
    simp [eq_comm]
theorem msk_lt : ∀ {L : List Nat}, (∀ c, c ∈ L → c < 3) → msk L < 8
  | [], _ => by decide
  | c :: L, h => by
    have h1 : c < 3 := h c (List.mem_cons_self ..)
    exact Nat.or_lt_two_pow (n := 3) (Nat.pow_lt_pow_right (by decide) h1) (msk_lt (fun x hx => h x (List.mem_cons_of_mem _ hx)))
theorem msk_app {t : Nat} : ∀ {L : List Nat}, msk (L ++ [t]) = msk L ||| 2 ^ t
  | [] => by simp [msk]
  | c :: L => by
    show 2 ^ c ||| msk (L ++ [t]) = (2 ^ c ||| msk L) ||| 2 ^ t
    rw [msk_app (L := L), Nat.or_assoc]
theorem nd3 : ∀ (L : List Nat), L.Nodup → (∀ c, c ∈ L → c < 3) → L.length ≤ 3
  | [], _, _ => by simp
  | [a], _, _ => by simp
  | [a, b], _, _ => by simp
  | [a, b, c], _, _ => by simp
  | a :: b :: c :: d :: L, h, w => by
    exfalso
    have ha := w a (by simp)
    have hb := w b (by simp)
    have hc := w c (by simp)
    have hd := w d (by simp)
    simp only [List.nodup_cons, List.mem_cons, not_or] at h
    omega
theorem bit01 {b : Bool} : (if b = true then (1 : Int32) else 0) = 0 ↔ b = false := by
  cases b
  · exact ⟨fun _ => rfl, fun _ => rfl⟩
  · exact ⟨fun z => absurd z (by decide), fun z => absurd z (by decide)⟩
/-- the chain as the cells hold it -/
def chC (h : HP) (L : List Nat) : Prop := hI h 109 11 = nI L.length ∧ ∀ i, i < L.length → hI h 116 i = nI (L.getD i 0)
theorem chC.s {h : HP} {L : List Nat} {t : Nat} (q : chC h L) : chC (wI (wI h 116 L.length (nI t)) 109 11 (nI (L.length + 1))) (L ++ [t]) := by
  refine ⟨wI_s.trans (by rw [List.length_append]; rfl), fun i hi => ?_⟩
  rw [List.length_append] at hi
  have hi : i < L.length + 1 := hi
  refine (wI_a (by decide)).trans ?_
  by_cases e : i = L.length
  · subst e
    refine wI_s.trans ?_
    rw [List.getD_eq_getElem?_getD, List.getElem?_append_right (Nat.le_refl _), Nat.sub_self]
    rfl
  · refine (wI_i e).trans ((q.2 i (by omega)).trans ?_)
    rw [List.getD_eq_getElem?_getD, List.getD_eq_getElem?_getD, List.getElem?_append_left (by omega)]
theorem nd_app {L : List Nat} {t : Nat} (h : L.Nodup) (z : ¬ t ∈ L) : (L ++ [t]).Nodup := by
  rw [List.nodup_append]
  exact ⟨h, List.nodup_cons.mpr ⟨by simp, List.nodup_nil⟩, fun a ha b hb => fun e => by
    rw [List.mem_singleton] at hb
    subst hb
    exact z (e ▸ ha)⟩
theorem zX9_chains (X : EX) {h0 : HP} (F0 : Fx h0) {n : Nat} {D : Nat → DD} (md0 : MkD h0 n D) {s p : Nat} (LS0 : LsC h0 n D s) (hp : p < 12) : Ct X mX9_chains 2 0 0 [vR (some 109), vI (nI p)] h0 (fun v h' => v = some (vI (b2 ((chF D n s p).1 = true))) ∧ Sf sc1 h0 h' ∧ chC h' (chF D n s p).2) := by
  refine ct_of rfl (Nat.le_of_ble_eq_true rfl) ?_
  have loop : ∀ (m : Nat) (L : List Nat) (a : Int32) (hz : HP), L.length + m = 4 → L.Nodup → (∀ c, c ∈ L → c < 3) → gOk a → Sf sc1 h0 hz → chC hz L → chR (fun c => gtV D s p c n) m a L = chF D n s p → Ev X mX9_chains 2 0 0 (fun v h' => v = some (vI (b2 ((chF D n s p).1 = true))) ∧ Sf sc1 h0 h' ∧ chC h' (chF D n s p).2) 0 0 11 [(0, some (vR (some 109))), (1, some (vI (nI p))), (2, some (vI (nI (msk L)))), (3, some (vI a))] [] hz := by
    intro m
    induction m with
    | zero =>
      intro L a hz hl hnd hL3
      exact absurd (nd3 L hnd hL3) (by omega)
    | succ m ih =>
      intro L a hz hl hnd hL3 ga S C hR
      have F := S.F F0
      refine e_iload_n aX9_chains_11 rfl ?_
      refine e_iconst (v := -1) aX9_chains_12 (by decide) ?_
      refine e_icmp_eq aX9_chains_13 (fun c13 => ?_) (fun c13 => ?_)
      · -- 13: taken
        refine e_iconst (v := 0) aX9_chains_68 (by decide) ?_
        refine e_zreturn aX9_chains_69 rfl (Or.inl rfl) (Nat.le_refl _) (Nat.le_refl _) ?_
        have q9 : a = -1 ∨ a = 3 := Or.inl c13
        exact ⟨by rw [← hR, chR_s, if_pos q9]; rfl, S, by rw [← hR, chR_s, if_pos q9]; exact C⟩
      · -- 13: not taken
        refine e_iload_n aX9_chains_16 rfl ?_
        refine e_iconst (v := 3) aX9_chains_17 (by decide) ?_
        refine e_icmp_eq aX9_chains_18 (fun c18 => ?_) (fun c18 => ?_)
        · -- 18: taken
          refine e_iconst (v := 0) aX9_chains_68 (by decide) ?_
          refine e_zreturn aX9_chains_69 rfl (Or.inl rfl) (Nat.le_refl _) (Nat.le_refl _) ?_
          have q9 : a = -1 ∨ a = 3 := Or.inr c18
          exact ⟨by rw [← hR, chR_s, if_pos q9]; rfl, S, by rw [← hR, chR_s, if_pos q9]; exact C⟩
        · -- 18: not taken
          obtain ⟨t, ht, rfl⟩ : ∃ t, t < 3 ∧ a = nI t := ga.elim (fun z => absurd z c13) (fun z => z.elim (fun z => absurd z c18) id)
          refine e_iload_n aX9_chains_21 rfl ?_
          refine e_iload_n aX9_chains_22 rfl ?_
          refine e_ishr aX9_chains_23 ?_
          refine e_iconst (v := 1) aX9_chains_24 (by decide) ?_
          refine e_iand aX9_chains_25 ?_
          refine e_top (shr8 _ (msk_lt hL3) t ht) ?_
          rw [msk_bit]
          refine e_iconst (v := 1) aX9_chains_26 (by decide) ?_
          refine e_icmp_ne aX9_chains_27 (fun c27 => ?_) (fun c27 => ?_)
          · -- 27: taken
            have q27 : ¬ t ∈ L := fun z => (not_congr bit1).mp c27 (decide_eq_true z)
            refine e_aload_n aX9_chains_32 rfl ?_
            refine e_getRF aX9_chains_33 fX9_32 rfl (fx_is F rfl) (fx_r (b := 116) F rfl) ?_
            refine e_aload_n aX9_chains_36 rfl ?_
            refine e_getIF aX9_chains_37 fX9_161 rfl (fx_is F rfl) C.1 ?_
            refine e_iload_n aX9_chains_40 rfl ?_
            refine e_iastoreF aX9_chains_41 (fx_is F rfl) (fx_n (n := 4) F rfl) (vin (N := 4) (by omega)) ?_
            rw [cl (by omega)]
            refine e_aload_n aX9_chains_42 rfl ?_
            refine e_dup aX9_chains_43 rfl ?_
            refine e_getIF aX9_chains_44 fX9_161 rfl (fx_is F rfl) ((wI_a (by decide)).trans C.1) ?_
            refine e_iconst (v := 1) aX9_chains_47 (by decide) ?_
            refine e_iadd aX9_chains_48 ?_
            refine e_top (nI_1 _) ?_
            refine e_putI aX9_chains_49 fX9_161 rfl (fx_is F rfl) (Or.inl rfl) ?_
            refine e_iload_n aX9_chains_52 rfl ?_
            refine e_iconst (v := 1) aX9_chains_53 (by decide) ?_
            refine e_iload_n aX9_chains_54 rfl ?_
            refine e_ishl aX9_chains_55 ?_
            refine e_top (shl1 ht) ?_
            refine e_ior aX9_chains_56 ?_
            refine e_top (or_8) ?_
            have S2 : Sf sc1 h0 (wI (wI hz 116 L.length (nI t)) 109 11 (nI (L.length + 1))) := (S.wI (Or.inl rfl)).wI (Or.inr ⟨rfl, rfl⟩)
            have md2 := S2.up.md md0
            refine e_istore_n aX9_chains_57 (Nat.le_of_ble_eq_true rfl) ?_
            refine e_aload_n aX9_chains_58 rfl ?_
            refine e_iload_n aX9_chains_59 rfl ?_
            refine e_iload_n aX9_chains_60 rfl ?_
            refine e_invvT aX9_chains_61 kX9_164 (zX9_goesTo X (S2.F F0) md2 (LS0.c1 S2) hp ht) rfl rfl (fx_is F rfl) (Nat.le_of_ble_eq_true rfl) (Nat.le_of_ble_eq_true rfl) (Nat.le_refl _) (Nat.le_refl _) (Nat.le_of_ble_eq_true rfl) ?_
            refine e_istore_n aX9_chains_64 (Nat.le_of_ble_eq_true rfl) ?_
            refine e_goto aX9_chains_65 ?_
            refine e_ls (ls' := [(0, some (vR (some 109))), (1, some (vI (nI p))), (2, some (vI (nI (msk (L ++ [t]))))), (3, some (vI (gtV D s p t n)))]) ⟨rfl, rfl, congrArg (fun x => some (vI x)) (by rw [msk_app]), rfl, trivial⟩ ?_
            exact ih (L ++ [t]) _ _ (by rw [List.length_append]; show L.length + 1 + m = 4; omega) (nd_app hnd q27) (fun x hx => (List.mem_append.mp hx).elim (hL3 x) (fun w => by rw [List.mem_singleton] at w; omega)) (gtV_ok (fun j hj => (md0.2.2 j hj).1)) S2 C.s (by rw [← hR, chR_s, if_neg (fun z => z.elim c13 c18), if_neg (by rw [cl (by omega)]; exact q27), cl (by omega)])
          · -- 27: not taken
            have q27 : t ∈ L := of_decide_eq_true (bit1.mp c27)
            refine e_iconst (v := 1) aX9_chains_30 (by decide) ?_
            refine e_zreturn aX9_chains_31 rfl (Or.inr rfl) (Nat.le_refl _) (Nat.le_refl _) ?_
            exact ⟨by rw [← hR, chR_s, if_neg (fun z => z.elim c13 c18), if_pos (by rw [cl (by omega)]; exact q27)]; rfl, S, by rw [← hR, chR_s, if_neg (fun z => z.elim c13 c18), if_pos (by rw [cl (by omega)]; exact q27)]; exact C⟩
  refine e_iconst (v := 0) aX9_chains_0 (by decide) ?_
  refine e_istore_n aX9_chains_1 (Nat.le_of_ble_eq_true rfl) ?_
  refine e_iload_n aX9_chains_2 rfl ?_
  refine e_iconst (v := 3) aX9_chains_3 (by decide) ?_
  refine e_irem aX9_chains_4 (by decide) ?_
  refine e_top (nI_rem (a := p) (b := 3) (by omega) (by decide) (by decide)) ?_
  refine e_istore_n aX9_chains_5 (Nat.le_of_ble_eq_true rfl) ?_
  refine e_aload_n aX9_chains_6 rfl ?_
  refine e_iconst (v := 0) aX9_chains_7 (by decide) ?_
  refine e_putI aX9_chains_8 fX9_161 rfl (fx_is F0 rfl) (Or.inl rfl) ?_
  refine e_ls (ls' := [(0, some (vR (some 109))), (1, some (vI (nI p))), (2, some (vI (nI (msk [])))), (3, some (vI (nI (p % 3))))]) ⟨rfl, rfl, rfl, rfl, trivial⟩ ?_
  exact loop 4 [] _ _ rfl List.nodup_nil (fun x hx => absurd hx (List.not_mem_nil)) (Or.inr (Or.inr ⟨_, Nat.mod_lt _ (by decide), rfl⟩)) ((Sf.rf h0).wI (Or.inr ⟨rfl, rfl⟩)) ⟨wI_s, fun i hi => absurd hi (Nat.not_lt_zero i)⟩ rfl
theorem chF_ok {D : Nat → DD} {n s p : Nat} : 1 ≤ (chF D n s p).2.length ∧ (chF D n s p).2.length ≤ 4 := by
  have h3 : p % 3 < 3 := Nat.mod_lt _ (by decide)
  have e := chR_len (G := fun c => gtV D s p c n) 4 (nI (p % 3)) []
  refine ⟨?_, e.2⟩
  unfold chF
  rw [chR_s, if_neg, if_neg (List.not_mem_nil)]
  · show ([] ++ [(nI (p % 3)).toNatClampNeg] : List Nat).length ≤ _
    exact (chR_len _ _ _).1
  · have : p % 3 = 0 ∨ p % 3 = 1 ∨ p % 3 = 2 := by omega
    rcases this with z | z | z <;> rw [z] <;> decide
/-- OWNER, as the reference walks to it -/
def owR (D : Nat → DD) (n s p : Nat) : Nat := (chF D n s p).2.getD ((chF D n s p).2.length - 1) 0
theorem zX9_ownerOf (X : EX) {h0 : HP} (F0 : Fx h0) {n : Nat} {D : Nat → DD} (md0 : MkD h0 n D) {s p : Nat} (LS0 : LsC h0 n D s) (hp : p < 12) : Ct X mX9_ownerOf 3 0 0 [vR (some 109), vI (nI p)] h0 (fun v h' => v = some (vI (nI (owR D n s p))) ∧ Sf sc1 h0 h') := by
  refine ct_of rfl (Nat.le_of_ble_eq_true rfl) ?_
  refine e_aload_n aX9_ownerOf_0 rfl ?_
  refine e_iload_n aX9_ownerOf_1 rfl ?_
  refine e_invv aX9_ownerOf_2 kX9_167 (zX9_chains X F0 md0 LS0 hp) rfl rfl (fx_is F0 rfl) (Nat.le_of_ble_eq_true rfl) (Nat.le_of_ble_eq_true rfl) (Nat.le_refl _) (Nat.le_refl _) (Nat.le_of_ble_eq_true rfl) ?_
  rintro v h2 ⟨rfl, S, C⟩
  have F := S.F F0
  have c4 := chF_ok (D := D) (n := n) (s := s) (p := p)
  refine e_pop aX9_ownerOf_5 rfl ?_
  refine e_aload_n aX9_ownerOf_6 rfl ?_
  refine e_getRF aX9_ownerOf_7 fX9_32 rfl (fx_is F rfl) (fx_r (b := 116) F rfl) ?_
  refine e_aload_n aX9_ownerOf_10 rfl ?_
  refine e_getIF aX9_ownerOf_11 fX9_161 rfl (fx_is F rfl) C.1 ?_
  refine e_iconst (v := 1) aX9_ownerOf_14 (by decide) ?_
  refine e_isub aX9_ownerOf_15 ?_
  refine e_top (nI_subN (b := 1) c4.1) ?_
  refine e_ialoadF aX9_ownerOf_16 (fx_is F rfl) (fx_n (n := 4) F rfl) (vin (N := 4) (by omega)) (show hI h2 116 (nI ((chF D n s p).2.length - 1)).toNatClampNeg = nI (owR D n s p) by rw [cl (by omega)]; exact C.2 _ (by omega)) ?_
  refine e_ireturn aX9_ownerOf_17 rfl (Nat.le_refl _) (Nat.le_refl _) ?_
  exact ⟨rfl, S⟩
theorem zX9_ownerUnder (X : EX) {h0 : HP} (F0 : Fx h0) {n : Nat} {D : Nat → DD} (md0 : MkD h0 n D) {s p : Nat} (hs : s < 1296) (hp : p < 12) : Ct X mX9_ownerUnder 7 0 0 [vR (some 109), vI (nI s), vI (nI p)] h0 (RSc (vI (nI (owR D n s p))) h0) := by
  refine ct_of rfl (Nat.le_of_ble_eq_true rfl) ?_
  refine e_aload_n aX9_ownerUnder_0 rfl ?_
  refine e_iload_n aX9_ownerUnder_1 rfl ?_
  refine e_invv aX9_ownerUnder_2 kX9_170 (zX9_laysOut X F0 md0 hs) rfl rfl (fx_is F0 rfl) (Nat.le_of_ble_eq_true rfl) (Nat.le_of_ble_eq_true rfl) (Nat.le_refl _) (Nat.le_refl _) (Nat.le_of_ble_eq_true rfl) ?_
  rintro v h2 ⟨rfl, S, LS⟩
  refine e_aload_n aX9_ownerUnder_5 rfl ?_
  refine e_iload_n aX9_ownerUnder_6 rfl ?_
  refine e_invv aX9_ownerUnder_7 kX9_219 (zX9_ownerOf X (S.F F0) (S.md md0) LS hp) rfl rfl (fx_is (S.F F0) rfl) (Nat.le_of_ble_eq_true rfl) (Nat.le_of_ble_eq_true rfl) (Nat.le_refl _) (Nat.le_refl _) (Nat.le_of_ble_eq_true rfl) ?_
  rintro v h3 ⟨rfl, S3⟩
  refine e_ireturn aX9_ownerUnder_10 rfl (Nat.le_refl _) (Nat.le_refl _) ?_
  exact ⟨rfl, S.tr S3.up⟩
