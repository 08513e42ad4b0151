/-! the law: its clashes (written by wip/p45/g89.py) -/
theorem chR_len {G : Nat → Int32} : ∀ (m : Nat) (a : Int32) (L : List Nat), L.length ≤ (chR G m a L).2.length := by
  intro m
  induction m with
  | zero => intro a L; exact Nat.le_refl _
  | succ m ih =>
    intro a L
    rw [chR_s]
    split
    · exact Nat.le_refl _
    · split
      · exact Nat.le_refl _
      · exact Nat.le_trans (by rw [List.length_append]; exact Nat.le_add_right _ _) (ih _ _)
theorem chF_len {D : Nat → DD} {n s p : Nat} : 1 ≤ (chF D n s p).2.length := by
  unfold chF
  have hp : p % 3 < 3 := Nat.mod_lt _ (by decide)
  rw [chR_s, if_neg (fun z => z.elim (fun z => absurd (z ▸ nI_pos' (n := p % 3) (by omega)) (by decide)) (fun z => absurd ((nI_eq (b := 3) (by omega) (by decide)).mp z) (by omega))), if_neg (by simp)]
  have h9 := chR_len (G := fun c => gtV D s p c n) 3 (gtV D s p (nI (p % 3)).toNatClampNeg n) ([] ++ [(nI (p % 3)).toNatClampNeg])
  exact h9
theorem rclV_4 (D : Nat → DD) (n s p : Nat) : rclV D n s p = 0 ∨ rclV D n s p = 1 ∨ rclV D n s p = 2 ∨ rclV D n s p = -1 := by
  unfold rclV
  split
  · exact Or.inl rfl
  · split
    · exact Or.inr (Or.inl rfl)
    · split
      · exact Or.inr (Or.inr (Or.inl rfl))
      · exact Or.inr (Or.inr (Or.inr rfl))
theorem chF_3 {D : Nat → DD} {n s p : Nat} (h : rclV D n s p = -1) (w9 : ∀ j, j < n → dWf (D j)) : (chF D n s p).2.length ≤ 4 := by
  have : ∀ (m : Nat) (a : Int32) (L : List Nat) (G : Nat → Int32), (chR G m a L).2.length ≤ L.length + m := by
    intro m
    induction m with
    | zero => intro a L G; exact Nat.le_refl _
    | succ m ih =>
      intro a L G
      rw [chR_s]
      split
      · show L.length ≤ _; omega
      · split
        · show L.length ≤ _; omega
        · have := ih (G a.toNatClampNeg) (L ++ [a.toNatClampNeg]) G
          rw [List.length_append] at this
          have e : [a.toNatClampNeg].length = 1 := rfl
          omega
  exact this 4 (nI (p % 3)) [] _
theorem chA_p {D : Nat → DD} {n s p : Nat} (w9 : ∀ j, j < n → dWf (D j)) : chA D n s p ≤ 0 ↔ rfP D n s p = true := by
  unfold rfP
  rw [decide_eq_true_iff]
  unfold chA
  by_cases z : rclV D n s p = -1
  · rw [if_pos z]
    have h1 := chF_len (D := D) (n := n) (s := s) (p := p)
    have h2 := chF_3 z w9
    refine ⟨fun q => absurd q ?_, fun q => absurd z q⟩
    exact nI_nle (by omega) (by omega)
  · rw [if_neg z]
    refine ⟨fun _ => z, fun _ => ?_⟩
    rcases rclV_4 D n s p with e | e | e | e
    · rw [e]; decide
    · rw [e]; decide
    · rw [e]; decide
    · exact absurd e z
theorem chA_h {D : Nat → DD} {n s p : Nat} (h : rfP D n s p = true) : -1 - chA D n s p = rclV D n s p := by
  have z : ¬ rclV D n s p = -1 := of_decide_eq_true h
  unfold chA
  rw [if_neg z]
  rcases rclV_4 D n s p with e | e | e | e
  · rw [e]; decide
  · rw [e]; decide
  · rw [e]; decide
  · exact absurd e z
/-- the scratch of clashes -/
def scK (a i : Nat) : Prop := a = 114 ∨ a = 115 ∨ (a = 109 ∧ 8 ≤ i)
theorem scK_l : ∀ a i, scK a i → a < 116 ∧ a ≠ 110 ∧ a ≠ 111 := fun a i z => by unfold scK at z; omega
theorem scL_K : ∀ a i, scL a i → scK a i := fun a i z => by unfold scL at z; unfold scK; omega
/-- what clashes answers -/
def clQ (D : Nat → DD) (n a m : Nat) (h0 : HP) : Option VV → HP → Prop := fun v h' => Sf scK h0 h' ∧ match rfs D n a m with
  | none => v = some (vI 0)
  | some s => v = some (vI 1) ∧ ∃ p, rfc D n s = some p ∧ hI h' 109 8 = nI s ∧ hI h' 109 9 = nI p ∧ hI h' 109 10 = rclV D n s p
theorem clQ_n {D : Nat → DD} {n a m : Nat} {h0 h' : HP} (S : Sf scK h0 h') (e : rfs D n a m = none) : clQ D n a m h0 (some (vI 0)) h' := by
  unfold clQ
  rw [e]
  exact ⟨S, rfl⟩
theorem clQ_t {D : Nat → DD} {n a m s p : Nat} {h0 h' : HP} (S : Sf scK h0 h') (e : rfs D n a m = some s) (e2 : rfc D n s = some p) (h1 : hI h' 109 8 = nI s) (h2 : hI h' 109 9 = nI p) (h3 : hI h' 109 10 = rclV D n s p) : clQ D n a m h0 (some (vI 1)) h' := by
  unfold clQ
  rw [e]
  exact ⟨S, rfl, p, e2, h1, h2, h3⟩
theorem rfs_s {D : Nat → DD} {n a m : Nat} : rfs D n a (m + 1) = if (rfc D n a).isSome = true then some a else rfs D n (a + 1) m := rfl
theorem zX9_clashes (X : EX) {h0 : HP} (F0 : Fx h0) {m n e1 e2 f : Nat} {fa τ o : Nat → Nat} {E D : Nat → DD} (ll0 : LL h0 m e1 e2 fa E) (lt0 : LT h0 m n τ E D) (ly0 : LY h0 f o) : Ct X mX9_clashes 6 0 0 [vR (some 109)] h0 (clQ D n (fo o f) (om f) h0) := by
  refine ct_of rfl (Nat.le_of_ble_eq_true rfl) ?_
  have hb6 := om_fo ly0.2.1 ly0.2.2.2
  have hn12 := lt0.2.1
  have wD : ∀ j, j < n → dWf (D j) := fun j hj => by
    rw [(lt0.2.2 j hj).2.2]
    exact (ll0.2.2.2 _ (lt0.2.2 j hj).2.1).2.2.2.1
  have outer : ∀ (mk : Nat) (s : Nat) (hz : HP), s + mk = fo o f + om f → Sf scK h0 hz → rfs D n s mk = rfs D n (fo o f) (om f) → Ev X mX9_clashes 6 0 0 (clQ D n (fo o f) (om f) h0) 0 0 5 [(0, some (vR (some 109))), (1, some (vI (nI s)))] [] hz := by
    intro mk
    induction mk with
    | zero =>
      intro s hz hk S hs9
      have F := S.F F0
      have ll := ll0.sf S scK_l
      have lt := lt0.sf S (by unfold scK; omega) (fun i => by unfold scK; omega)
      have ly := ly0.sf S (by unfold scK; omega) (fun i => by unfold scK; omega)
      refine e_iload_n aX9_clashes_5 rfl ?_
      refine e_aload_n aX9_clashes_6 rfl ?_
      refine e_invvT aX9_clashes_7 kX9_69 (zX9_from X F ly) rfl rfl (fx_is F rfl) (Nat.le_of_ble_eq_true rfl) (Nat.le_of_ble_eq_true rfl) (Nat.le_refl _) (Nat.le_refl _) (Nat.le_of_ble_eq_true rfl) ?_
      refine e_aload_n aX9_clashes_10 rfl ?_
      refine e_invvT aX9_clashes_11 kX9_73 (zX9_size X F ly) rfl rfl (fx_is F rfl) (Nat.le_of_ble_eq_true rfl) (Nat.le_of_ble_eq_true rfl) (Nat.le_refl _) (Nat.le_refl _) (Nat.le_of_ble_eq_true rfl) ?_
      refine e_iadd aX9_clashes_14 ?_
      refine e_top (nI_add (fo o f) (om f)) ?_
      refine e_icmp_ge aX9_clashes_15 (fun c15 => ?_) (fun c15 => ?_)
      · -- 15: taken
        refine e_iconst (v := 0) aX9_clashes_71 (by decide) ?_
        refine e_zreturn aX9_clashes_72 rfl (Or.inl rfl) (Nat.le_refl _) (Nat.le_refl _) ?_
        exact clQ_n S hs9.symm
      · -- 15: not taken
        exact absurd (nI_le (by omega) (by omega)) c15
    | succ mk ihk =>
      intro s hz hk S hs9
      have nx : ∀ (hz : HP), Sf scK h0 hz → rfc D n s = none → Ev X mX9_clashes 6 0 0 (clQ D n (fo o f) (om f) h0) 0 0 65 [(0, some (vR (some 109))), (1, some (vI (nI s))), (2, some (vI (nI 12)))] [] hz := by
        intro hz S hno
        refine e_iinc aX9_clashes_65 rfl rfl (Nat.le_of_ble_eq_true rfl) ?_
        refine e_goto aX9_clashes_68 ?_
        refine e_ls (ls' := [(0, some (vR (some 109))), (1, some (vI (nI (s + 1))))]) ⟨rfl, congrArg (fun x => some (vI x)) (nI_1 s), trivial⟩ ?_
        exact ihk (s + 1) hz (by omega) S (by rw [← hs9, rfs_s, hno]; rfl)
      have inner : ∀ (m : Nat) (p : Nat) (hz : HP), p + m = 12 → Sf scK h0 hz → frW (rfP D n s) p m = rfc D n s → Ev X mX9_clashes 6 0 0 (clQ D n (fo o f) (om f) h0) 0 0 20 [(0, some (vR (some 109))), (1, some (vI (nI s))), (2, some (vI (nI p)))] [] hz := by
        intro m
        induction m with
        | zero =>
          intro p hz hp S hp9
          refine e_iload_n aX9_clashes_20 rfl ?_
          refine e_bipush (v := 12) aX9_clashes_21 (by decide) ?_
          refine e_icmp_ge aX9_clashes_23 (fun c23 => ?_) (fun c23 => ?_)
          · -- 23: taken
            obtain rfl : p = 12 := by omega
            exact nx hz S hp9.symm
          · -- 23: not taken
            exact absurd (nI_le (a := 12) (b := p) (by omega) (by omega)) c23
        | succ m ih =>
          intro p hz hp S hp9
          have F := S.F F0
          have ll := ll0.sf S scK_l
          have lt := lt0.sf S (by unfold scK; omega) (fun i => by unfold scK; omega)
          have ly := ly0.sf S (by unfold scK; omega) (fun i => by unfold scK; omega)
          refine e_iload_n aX9_clashes_20 rfl ?_
          refine e_bipush (v := 12) aX9_clashes_21 (by decide) ?_
          refine e_icmp_ge aX9_clashes_23 (fun c23 => ?_) (fun c23 => ?_)
          · -- 23: taken
            exact absurd c23 (nI_ge (a := p) (b := 12) (by omega) (by decide))
          · -- 23: not taken
            refine e_aload_n aX9_clashes_26 rfl ?_
            refine e_iload_n aX9_clashes_27 rfl ?_
            refine e_iload_n aX9_clashes_28 rfl ?_
            refine e_invv aX9_clashes_29 kX9_76 (zX9_chain X F ll lt (s := s) (p := p) (by omega) (by omega)) rfl rfl (fx_is F rfl) (Nat.le_of_ble_eq_true rfl) (Nat.le_of_ble_eq_true rfl) (Nat.le_refl _) (Nat.le_refl _) (Nat.le_of_ble_eq_true rfl) ?_
            rintro v h2 ⟨rfl, S1⟩
            have F : Fx h2 := S1.F F
            have S2 := S.tr (S1.mono scL_K)
            refine e_istore_n aX9_clashes_32 (Nat.le_of_ble_eq_true rfl) ?_
            refine e_iload_n aX9_clashes_33 rfl ?_
            refine e_if_le aX9_clashes_34 (fun c34 => ?_) (fun c34 => ?_)
            · -- 34: taken
              have q34 := (chA_p wD).mp c34
              refine e_aload_n aX9_clashes_40 rfl ?_
              refine e_iload_n aX9_clashes_41 rfl ?_
              refine e_putI aX9_clashes_42 fX9_79 rfl (fx_is F rfl) (Or.inl rfl) ?_
              refine e_aload_n aX9_clashes_45 rfl ?_
              refine e_iload_n aX9_clashes_46 rfl ?_
              refine e_putI aX9_clashes_47 fX9_82 rfl (fx_is F rfl) (Or.inl rfl) ?_
              refine e_aload_n aX9_clashes_50 rfl ?_
              refine e_iconst (v := -1) aX9_clashes_51 (by decide) ?_
              refine e_iload_n aX9_clashes_52 rfl ?_
              refine e_isub aX9_clashes_53 ?_
              refine e_top (chA_h q34) ?_
              refine e_putI aX9_clashes_54 fX9_85 rfl (fx_is F rfl) (Or.inl rfl) ?_
              refine e_iconst (v := 1) aX9_clashes_57 (by decide) ?_
              refine e_zreturn aX9_clashes_58 rfl (Or.inr rfl) (Nat.le_refl _) (Nat.le_refl _) ?_
              have hc : rfc D n s = some p := by rw [← hp9, frW_s, if_pos q34]
              exact clQ_t ((((S2.wI (Or.inr (Or.inr ⟨rfl, by decide⟩))).wI (Or.inr (Or.inr ⟨rfl, by decide⟩)))).wI (Or.inr (Or.inr ⟨rfl, by decide⟩))) (by rw [← hs9, rfs_s, hc]; rfl) hc ((wI_i (by decide)).trans ((wI_i (by decide)).trans wI_s)) ((wI_i (by decide)).trans wI_s) wI_s
            · -- 34: not taken
              have q34 : rfP D n s p = false := Bool.eq_false_iff.mpr (fun z => c34 ((chA_p wD).mpr z))
              refine e_goto aX9_clashes_37 ?_
              refine e_iinc aX9_clashes_59 rfl rfl (Nat.le_of_ble_eq_true rfl) ?_
              refine e_goto aX9_clashes_62 ?_
              refine e_ls (ls' := [(0, some (vR (some 109))), (1, some (vI (nI s))), (2, some (vI (nI (p + 1))))]) ⟨rfl, rfl, congrArg (fun x => some (vI x)) (nI_1 p), trivial⟩ ?_
              exact ih (p + 1) h2 (by omega) S2 (by rw [← hp9]; conv => rhs; rw [frW_s, if_neg (by rw [q34]; decide)])
      have F := S.F F0
      have ll := ll0.sf S scK_l
      have lt := lt0.sf S (by unfold scK; omega) (fun i => by unfold scK; omega)
      have ly := ly0.sf S (by unfold scK; omega) (fun i => by unfold scK; omega)
      refine e_iload_n aX9_clashes_5 rfl ?_
      refine e_aload_n aX9_clashes_6 rfl ?_
      refine e_invvT aX9_clashes_7 kX9_69 (zX9_from X F ly) rfl rfl (fx_is F rfl) (Nat.le_of_ble_eq_true rfl) (Nat.le_of_ble_eq_true rfl) (Nat.le_refl _) (Nat.le_refl _) (Nat.le_of_ble_eq_true rfl) ?_
      refine e_aload_n aX9_clashes_10 rfl ?_
      refine e_invvT aX9_clashes_11 kX9_73 (zX9_size X F ly) rfl rfl (fx_is F rfl) (Nat.le_of_ble_eq_true rfl) (Nat.le_of_ble_eq_true rfl) (Nat.le_refl _) (Nat.le_refl _) (Nat.le_of_ble_eq_true rfl) ?_
      refine e_iadd aX9_clashes_14 ?_
      refine e_top (nI_add (fo o f) (om f)) ?_
      refine e_icmp_ge aX9_clashes_15 (fun c15 => ?_) (fun c15 => ?_)
      · -- 15: taken
        exact absurd c15 (nI_ge (by omega) (by omega))
      · -- 15: not taken
        refine e_iconst (v := 0) aX9_clashes_18 (by decide) ?_
        refine e_istore_n aX9_clashes_19 (Nat.le_of_ble_eq_true rfl) ?_
        refine e_ls (ls' := [(0, some (vR (some 109))), (1, some (vI (nI s))), (2, some (vI (nI 0)))]) ⟨rfl, rfl, rfl, trivial⟩ ?_
        exact inner 12 0 hz rfl S rfl
  have F := F0
  refine e_aload_n aX9_clashes_0 rfl ?_
  refine e_invvT aX9_clashes_1 kX9_69 (zX9_from X F ly0) rfl rfl (fx_is F rfl) (Nat.le_of_ble_eq_true rfl) (Nat.le_of_ble_eq_true rfl) (Nat.le_refl _) (Nat.le_refl _) (Nat.le_of_ble_eq_true rfl) ?_
  refine e_istore_n aX9_clashes_4 (Nat.le_of_ble_eq_true rfl) ?_
  refine e_ls (ls' := [(0, some (vR (some 109))), (1, some (vI (nI (fo o f))))]) ⟨rfl, rfl, trivial⟩ ?_
  exact outer (om f) (fo o f) h0 rfl (Sf.rf h0) rfl
