/-! the reference: which PICK clashes (written by wip/whole/g55.py) -/
def frc (P : Nat → Bool) (m : Nat) : Bool := (frW P 0 m).isSome
def rclV (D : Nat → DD) (n s p : Nat) : Int32 := if frc (fun c => decide (gtV D s p c n = 3)) 3 = true then 0 else if (chF D n s p).1 = true then 1 else if frc (fun c => decide (¬ c ∈ (chF D n s p).2 ∧ ¬ gtV D s p c n = -1)) 3 = true then 2 else -1
theorem frW_s {P : Nat → Bool} {a m : Nat} : frW P a (m + 1) = if P a = true then some a else frW P (a + 1) m := rfl
theorem chF_nd {D : Nat → DD} {n s p : Nat} (w : ∀ j, j < n → dWf (D j)) : ∀ x, x ∈ (chF D n s p).2 → x < 3 := by
  have key : ∀ (m : Nat) (a : Int32) (L : List Nat), gOk a → (∀ x, x ∈ L → x < 3) → ∀ x, x ∈ (chR (fun c => gtV D s p c n) m a L).2 → x < 3 := by
    intro m
    induction m with
    | zero => intro a L _ h x hx; exact h x hx
    | succ m ih =>
      intro a L ga h x hx
      rw [chR_s] at hx
      split at hx
      · exact h x hx
      · split at hx
        · exact h x hx
        · rename_i z1 z2
          obtain ⟨t, ht, rfl⟩ : ∃ t, t < 3 ∧ a = nI t := ga.elim (fun z => absurd (Or.inl z) z1) (fun z => z.elim (fun z => absurd (Or.inr z) z1) id)
          rw [cl (by omega)] at hx
          exact ih _ _ (gtV_ok w) (fun y hy => (List.mem_append.mp hy).elim (h y) (fun w2 => by rw [List.mem_singleton] at w2; omega)) x hx
  exact key 4 _ _ (Or.inr (Or.inr ⟨_, Nat.mod_lt _ (by decide), rfl⟩)) (fun x hx => absurd hx (List.not_mem_nil))
theorem zX9_clashOf (X : EX) {h0 : HP} (F0 : Fx h0) {n : Nat} {D : Nat → DD} (md0 : MkD h0 n D) {s p : Nat} (LS0 : LsC h0 n D s) (hp : p < 12) : Ct X mX9_clashOf 3 0 0 [vR (some 109), vI (nI p)] h0 (fun v h' => v = some (vI (rclV D n s p)) ∧ Sf sc1 h0 h') := by
  refine ct_of rfl (Nat.le_of_ble_eq_true rfl) ?_
  have hn12 := md0.2.1
  have l3 : ∀ (L : List Nat) (hz : HP), Fx hz → MkD hz n D → LsC hz n D s → Sf sc1 h0 hz → (∀ x, x ∈ L → x < 3) → rclV D n s p = (if frc (fun c => decide (¬ c ∈ L ∧ ¬ gtV D s p c n = -1)) 3 = true then 2 else -1) → ∀ (m c : Nat), c + m = 3 → frW (fun c => decide (¬ c ∈ L ∧ ¬ gtV D s p c n = -1)) c m = frW (fun c => decide (¬ c ∈ L ∧ ¬ gtV D s p c n = -1)) 0 3 → Ev X mX9_clashOf 3 0 0 (fun v h' => v = some (vI (rclV D n s p)) ∧ Sf sc1 h0 h') 0 0 66 [(0, some (vR (some 109))), (1, some (vI (nI p))), (2, some (vI (nI (msk L)))), (3, some (vI (nI c)))] [] hz := by
    intro L hz F md LSz S hL3 hV m
    induction m with
    | zero =>
      intro c hc hR
      obtain rfl : c = 3 := by omega
      refine e_iload_n aX9_clashOf_66 rfl ?_
      refine e_iconst (v := 3) aX9_clashOf_67 (by decide) ?_
      refine e_icmp_ge aX9_clashOf_68 (fun c68 => ?_) (fun c68 => ?_)
      · -- 68: taken
        refine e_iconst (v := -1) aX9_clashOf_97 (by decide) ?_
        refine e_ireturn aX9_clashOf_98 rfl (Nat.le_refl _) (Nat.le_refl _) ?_
        exact ⟨by rw [hV, if_neg (by rw [show frc _ 3 = (frW _ 3 0).isSome from congrArg Option.isSome hR.symm]; exact Bool.false_ne_true)], S⟩
      · -- 68: not taken
        exact absurd (nI_le (a := 3) (b := 3) (by decide) (by decide)) c68
    | succ m ih =>
      intro c hc hR
      refine e_iload_n aX9_clashOf_66 rfl ?_
      refine e_iconst (v := 3) aX9_clashOf_67 (by decide) ?_
      refine e_icmp_ge aX9_clashOf_68 (fun c68 => ?_) (fun c68 => ?_)
      · -- 68: taken
        exact absurd c68 (nI_ge (a := c) (b := 3) (by omega) (by decide))
      · -- 68: not taken
        refine e_iload_n aX9_clashOf_71 rfl ?_
        refine e_iload_n aX9_clashOf_72 rfl ?_
        refine e_ishr aX9_clashOf_73 ?_
        refine e_iconst (v := 1) aX9_clashOf_74 (by decide) ?_
        refine e_iand aX9_clashOf_75 ?_
        refine e_top (shr8 _ (msk_lt hL3) c (by omega)) ?_
        rw [msk_bit]
        refine e_if_ne aX9_clashOf_76 (fun c76 => ?_) (fun c76 => ?_)
        · -- 76: taken
          have q76 : ¬ decide (c ∈ L) = false := (not_congr bit01).mp c76
          refine e_iinc aX9_clashOf_91 rfl rfl (Nat.le_of_ble_eq_true rfl) ?_
          refine e_goto aX9_clashOf_94 ?_
          have q9 : ¬ decide (¬ c ∈ L ∧ ¬ gtV D s p c n = -1) = true := fun z => q76 (decide_eq_false (of_decide_eq_true z).1)
          refine e_ls (ls' := [(0, some (vR (some 109))), (1, some (vI (nI p))), (2, some (vI (nI (msk L)))), (3, some (vI (nI (c + 1))))]) ⟨rfl, rfl, rfl, congrArg (fun x => some (vI x)) (nI_1 c), trivial⟩ ?_
          exact ih (c + 1) (by omega) (by rw [← hR, frW_s, if_neg q9])
        · -- 76: not taken
          have q76 : decide (c ∈ L) = false := bit01.mp c76
          refine e_aload_n aX9_clashOf_79 rfl ?_
          refine e_iload_n aX9_clashOf_80 rfl ?_
          refine e_iload_n aX9_clashOf_81 rfl ?_
          refine e_invvT aX9_clashOf_82 kX9_164 (zX9_goesTo X F md LSz hp (c := c) (by omega)) rfl rfl (fx_is F rfl) (Nat.le_of_ble_eq_true rfl) (Nat.le_of_ble_eq_true rfl) (Nat.le_refl _) (Nat.le_refl _) (Nat.le_of_ble_eq_true rfl) ?_
          refine e_iconst (v := -1) aX9_clashOf_85 (by decide) ?_
          refine e_icmp_eq aX9_clashOf_86 (fun c86 => ?_) (fun c86 => ?_)
          · -- 86: taken
            refine e_iinc aX9_clashOf_91 rfl rfl (Nat.le_of_ble_eq_true rfl) ?_
            refine e_goto aX9_clashOf_94 ?_
            have q9 : ¬ decide (¬ c ∈ L ∧ ¬ gtV D s p c n = -1) = true := fun z => (of_decide_eq_true z).2 c86
            refine e_ls (ls' := [(0, some (vR (some 109))), (1, some (vI (nI p))), (2, some (vI (nI (msk L)))), (3, some (vI (nI (c + 1))))]) ⟨rfl, rfl, rfl, congrArg (fun x => some (vI x)) (nI_1 c), trivial⟩ ?_
            exact ih (c + 1) (by omega) (by rw [← hR, frW_s, if_neg q9])
          · -- 86: not taken
            refine e_iconst (v := 2) aX9_clashOf_89 (by decide) ?_
            refine e_ireturn aX9_clashOf_90 rfl (Nat.le_refl _) (Nat.le_refl _) ?_
            have q9 : decide (¬ c ∈ L ∧ ¬ gtV D s p c n = -1) = true := decide_eq_true ⟨of_decide_eq_false q76, c86⟩
            exact ⟨by rw [hV, if_pos (by rw [show frc _ 3 = (frW _ c (m + 1)).isSome from congrArg Option.isSome hR.symm, frW_s, if_pos q9]; rfl)], S⟩
  have l2 : ∀ (L : List Nat) (hz : HP), Fx hz → MkD hz n D → LsC hz n D s → Sf sc1 h0 hz → (∀ x, x ∈ L → x < 3) → rclV D n s p = (if frc (fun c => decide (¬ c ∈ L ∧ ¬ gtV D s p c n = -1)) 3 = true then 2 else -1) → chC hz L → L.length ≤ 4 → ∀ (m k : Nat), k + m = L.length → Ev X mX9_clashOf 3 0 0 (fun v h' => v = some (vI (rclV D n s p)) ∧ Sf sc1 h0 h') 0 0 39 [(0, some (vR (some 109))), (1, some (vI (nI p))), (2, some (vI (nI (msk (L.take k))))), (3, some (vI (nI k)))] [] hz := by
    intro L hz F md LSz S hL3 hV C hl4 m
    induction m with
    | zero =>
      intro k hk
      obtain rfl : k = L.length := by omega
      refine e_iload_n aX9_clashOf_39 rfl ?_
      refine e_aload_n aX9_clashOf_40 rfl ?_
      refine e_getIF aX9_clashOf_41 fX9_161 rfl (fx_is F rfl) C.1 ?_
      refine e_icmp_ge aX9_clashOf_44 (fun c44 => ?_) (fun c44 => ?_)
      · -- 44: taken
        refine e_iconst (v := 0) aX9_clashOf_64 (by decide) ?_
        refine e_istore_n aX9_clashOf_65 (Nat.le_of_ble_eq_true rfl) ?_
        refine e_ls (ls' := [(0, some (vR (some 109))), (1, some (vI (nI p))), (2, some (vI (nI (msk L)))), (3, some (vI (nI 0)))]) ⟨rfl, rfl, congrArg (fun x => some (vI x)) (by rw [List.take_length]), rfl, trivial⟩ ?_
        exact l3 L hz F md LSz S hL3 hV 3 0 rfl rfl
      · -- 44: not taken
        exact absurd (nI_le (by omega) (by omega)) c44
    | succ m ih =>
      intro k hk
      refine e_iload_n aX9_clashOf_39 rfl ?_
      refine e_aload_n aX9_clashOf_40 rfl ?_
      refine e_getIF aX9_clashOf_41 fX9_161 rfl (fx_is F rfl) C.1 ?_
      refine e_icmp_ge aX9_clashOf_44 (fun c44 => ?_) (fun c44 => ?_)
      · -- 44: taken
        exact absurd c44 (nI_ge (by omega) (by omega))
      · -- 44: not taken
        refine e_iload_n aX9_clashOf_47 rfl ?_
        refine e_iconst (v := 1) aX9_clashOf_48 (by decide) ?_
        refine e_aload_n aX9_clashOf_49 rfl ?_
        refine e_getRF aX9_clashOf_50 fX9_32 rfl (fx_is F rfl) (fx_r (b := 116) F rfl) ?_
        refine e_iload_n aX9_clashOf_53 rfl ?_
        refine e_ialoadF aX9_clashOf_54 (fx_is F rfl) (fx_n (n := 4) F rfl) (vin (N := 4) (by omega)) (show hI hz 116 (nI k).toNatClampNeg = nI (L.getD k 0) by rw [cl (by omega)]; exact C.2 k (by omega)) ?_
        refine e_ishl aX9_clashOf_55 ?_
        have hk3 : L.getD k 0 < 3 := by
          rw [List.getD_eq_getElem?_getD, List.getElem?_eq_getElem (by omega)]
          exact hL3 _ (List.getElem_mem _)
        refine e_top (shl1 hk3) ?_
        refine e_ior aX9_clashOf_56 ?_
        refine e_top (or_8) ?_
        refine e_istore_n aX9_clashOf_57 (Nat.le_of_ble_eq_true rfl) ?_
        refine e_iinc aX9_clashOf_58 rfl rfl (Nat.le_of_ble_eq_true rfl) ?_
        refine e_goto aX9_clashOf_61 ?_
        refine e_ls (ls' := [(0, some (vR (some 109))), (1, some (vI (nI p))), (2, some (vI (nI (msk (L.take (k + 1)))))), (3, some (vI (nI (k + 1))))]) ⟨rfl, rfl, congrArg (fun x => some (vI x)) (congrArg nI (by rw [List.take_succ, List.getElem?_eq_getElem (by omega), Option.toList_some, msk_app, List.getD_eq_getElem?_getD, List.getElem?_eq_getElem (by omega)]; rfl)), congrArg (fun x => some (vI x)) (nI_1 k), trivial⟩ ?_
        exact ih (k + 1) (by omega)
  have tail : ¬ frc (fun c => decide (gtV D s p c n = 3)) 3 = true → Ev X mX9_clashOf 3 0 0 (fun v h' => v = some (vI (rclV D n s p)) ∧ Sf sc1 h0 h') 0 0 25 [(0, some (vR (some 109))), (1, some (vI (nI p))), (2, some (vI (nI 3)))] [] h0 := by
    intro q0
    have F := F0
    have md := md0
    have LSz := LS0
    refine e_aload_n aX9_clashOf_25 rfl ?_
    refine e_iload_n aX9_clashOf_26 rfl ?_
    refine e_invv aX9_clashOf_27 kX9_167 (zX9_chains X F md LSz hp) rfl rfl (fx_is F rfl) (Nat.le_of_ble_eq_true rfl) (Nat.le_of_ble_eq_true rfl) (Nat.le_refl _) (Nat.le_refl _) (Nat.le_of_ble_eq_true rfl) ?_
    rintro v h2 ⟨rfl, S, C⟩
    have F := S.F F0
    have md := S.up.md md0
    have LSz := LS0.c1 S
    refine e_if_eq aX9_clashOf_30 (fun c30 => ?_) (fun c30 => ?_)
    · -- 30: taken
      have q30 := b2_0.mp c30
      refine e_iconst (v := 0) aX9_clashOf_35 (by decide) ?_
      refine e_istore_n aX9_clashOf_36 (Nat.le_of_ble_eq_true rfl) ?_
      refine e_iconst (v := 0) aX9_clashOf_37 (by decide) ?_
      refine e_istore_n aX9_clashOf_38 (Nat.le_of_ble_eq_true rfl) ?_
      refine e_ls (ls' := [(0, some (vR (some 109))), (1, some (vI (nI p))), (2, some (vI (nI (msk ((chF D n s p).2.take 0))))), (3, some (vI (nI 0)))]) ⟨rfl, rfl, rfl, rfl, trivial⟩ ?_
      exact l2 (chF D n s p).2 h2 F md LSz S (chF_nd (fun j hj => (md0.2.2 j hj).1)) (by unfold rclV; rw [if_neg q0, if_neg q30]) C chF_ok.2 _ 0 (Nat.zero_add _)
    · -- 30: not taken
      have q30 := Decidable.of_not_not (fun z => c30 (b2_0.mpr z))
      refine e_iconst (v := 1) aX9_clashOf_33 (by decide) ?_
      refine e_ireturn aX9_clashOf_34 rfl (Nat.le_refl _) (Nat.le_refl _) ?_
      exact ⟨by unfold rclV; rw [if_neg q0, if_pos q30], S⟩
  have l1 : ∀ (m c : Nat), c + m = 3 → frW (fun c => decide (gtV D s p c n = 3)) c m = frW (fun c => decide (gtV D s p c n = 3)) 0 3 → Ev X mX9_clashOf 3 0 0 (fun v h' => v = some (vI (rclV D n s p)) ∧ Sf sc1 h0 h') 0 0 2 [(0, some (vR (some 109))), (1, some (vI (nI p))), (2, some (vI (nI c)))] [] h0 := by
    intro m
    induction m with
    | zero =>
      intro c hc hR
      obtain rfl : c = 3 := by omega
      refine e_iload_n aX9_clashOf_2 rfl ?_
      refine e_iconst (v := 3) aX9_clashOf_3 (by decide) ?_
      refine e_icmp_ge aX9_clashOf_4 (fun c4 => ?_) (fun c4 => ?_)
      · -- 4: taken
        exact tail (by rw [show frc _ 3 = (frW _ 3 0).isSome from congrArg Option.isSome hR.symm]; exact Bool.false_ne_true)
      · -- 4: not taken
        exact absurd (nI_le (a := 3) (b := 3) (by decide) (by decide)) c4
    | succ m ih =>
      intro c hc hR
      refine e_iload_n aX9_clashOf_2 rfl ?_
      refine e_iconst (v := 3) aX9_clashOf_3 (by decide) ?_
      refine e_icmp_ge aX9_clashOf_4 (fun c4 => ?_) (fun c4 => ?_)
      · -- 4: taken
        exact absurd c4 (nI_ge (a := c) (b := 3) (by omega) (by decide))
      · -- 4: not taken
        refine e_aload_n aX9_clashOf_7 rfl ?_
        refine e_iload_n aX9_clashOf_8 rfl ?_
        refine e_iload_n aX9_clashOf_9 rfl ?_
        refine e_invvT aX9_clashOf_10 kX9_164 (zX9_goesTo X F0 md0 LS0 hp (c := c) (by omega)) rfl rfl (fx_is F0 rfl) (Nat.le_of_ble_eq_true rfl) (Nat.le_of_ble_eq_true rfl) (Nat.le_refl _) (Nat.le_refl _) (Nat.le_of_ble_eq_true rfl) ?_
        refine e_iconst (v := 3) aX9_clashOf_13 (by decide) ?_
        refine e_icmp_ne aX9_clashOf_14 (fun c14 => ?_) (fun c14 => ?_)
        · -- 14: taken
          have q14 : ¬ decide (gtV D s p c n = 3) = true := fun z => c14 (of_decide_eq_true z)
          refine e_iinc aX9_clashOf_19 rfl rfl (Nat.le_of_ble_eq_true rfl) ?_
          refine e_goto aX9_clashOf_22 ?_
          refine e_ls (ls' := [(0, some (vR (some 109))), (1, some (vI (nI p))), (2, some (vI (nI (c + 1))))]) ⟨rfl, rfl, congrArg (fun x => some (vI x)) (nI_1 c), trivial⟩ ?_
          exact ih (c + 1) (by omega) (by rw [← hR, frW_s, if_neg q14])
        · -- 14: not taken
          refine e_iconst (v := 0) aX9_clashOf_17 (by decide) ?_
          refine e_ireturn aX9_clashOf_18 rfl (Nat.le_refl _) (Nat.le_refl _) ?_
          have q9 : decide (gtV D s p c n = 3) = true := decide_eq_true c14
          exact ⟨by unfold rclV; rw [if_pos (by rw [show frc _ 3 = (frW _ c (m + 1)).isSome from congrArg Option.isSome hR.symm, frW_s, if_pos q9]; rfl)], Sf.rf h0⟩
  refine e_iconst (v := 0) aX9_clashOf_0 (by decide) ?_
  refine e_istore_n aX9_clashOf_1 (Nat.le_of_ble_eq_true rfl) ?_
  refine e_ls (ls' := [(0, some (vR (some 109))), (1, some (vI (nI p))), (2, some (vI (nI 0)))]) ⟨rfl, rfl, rfl, trivial⟩ ?_
  exact l1 3 0 rfl rfl
theorem rclV_or {D : Nat → DD} {n s p : Nat} : rclV D n s p = 0 ∨ rclV D n s p = 1 ∨ rclV D n s p = 2 ∨ rclV D n s p = -1 := by
  unfold rclV
  split
  · exact Or.inl rfl
  · split
    · exact Or.inr (Or.inl rfl)
    · split
      · exact Or.inr (Or.inr (Or.inl rfl))
      · exact Or.inr (Or.inr (Or.inr rfl))
/-- the first PICK, the first STANDING that clash -/
def rfP (D : Nat → DD) (n s p : Nat) : Bool := decide (¬ rclV D n s p = -1)
def rfc (D : Nat → DD) (n s : Nat) : Option Nat := frW (rfP D n s) 0 12
def rfs (D : Nat → DD) (n a m : Nat) : Option Nat := frW (fun s => (rfc D n s).isSome) a m
def sc4 (a i : Nat) : Prop := a = 114 ∨ a = 115 ∨ a = 116 ∨ (a = 109 ∧ i = 11)
theorem Sf.up4 {h h2 : HP} (s : Sc h h2) : Sf sc4 h h2 := s.mono (fun _ _ q => Or.inr q)
/-- what isClashing leaves -/
def icQ (D : Nat → DD) (n : Nat) (h0 : HP) (r : Option Nat) : Option VV → HP → Prop := fun v h' => v = some (vI (b2 (r.isSome = true))) ∧ match r with
  | none => Sc h0 h'
  | some s => ∃ p, rfc D n s = some p ∧ Sf sc4 h0 h' ∧ hI h' 114 0 = nI s ∧ hI h' 114 1 = nI p ∧ hI h' 114 2 = rclV D n s p
theorem zX9_isClashing (X : EX) {h0 : HP} (F0 : Fx h0) {n : Nat} {D : Nat → DD} (md0 : MkD h0 n D) {f : Nat} {o : Nat → Nat} (mf : MkF h0 f o) : Ct X mX9_isClashing 7 0 0 [vR (some 109)] h0 (icQ D n h0 (rfs D n (fo o f) (om f))) := by
  refine ct_of rfl (Nat.le_of_ble_eq_true rfl) ?_
  have hb6 := om_fo mf.2.1 mf.2.2.2
  have loop : ∀ (m s : Nat) (hz : HP), s + m = fo o f + om f → Sc h0 hz → frW (fun s => (rfc D n s).isSome) s m = rfs D n (fo o f) (om f) → Ev X mX9_isClashing 7 0 0 (icQ D n h0 (rfs D n (fo o f) (om f))) 0 0 7 [(0, some (vR (some 109))), (1, some (vI (nI (fo o f)))), (2, some (vI (nI s)))] [] hz := by
    intro m
    induction m with
    | zero =>
      intro s hz hs S hRs
      obtain rfl : s = fo o f + om f := by omega
      have F := S.F F0
      refine e_iload_n aX9_isClashing_7 rfl ?_
      refine e_iload_n aX9_isClashing_8 rfl ?_
      refine e_aload_n aX9_isClashing_9 rfl ?_
      refine e_invvT aX9_isClashing_10 kX9_123 (zX9_openMany X F (S.mf mf)) rfl rfl (fx_is F rfl) (Nat.le_of_ble_eq_true rfl) (Nat.le_of_ble_eq_true rfl) (Nat.le_refl _) (Nat.le_refl _) (Nat.le_of_ble_eq_true rfl) ?_
      refine e_iadd aX9_isClashing_13 ?_
      refine e_top (nI_add _ _) ?_
      refine e_icmp_ge aX9_isClashing_14 (fun c14 => ?_) (fun c14 => ?_)
      · -- 14: taken
        refine e_iconst (v := 0) aX9_isClashing_79 (by decide) ?_
        refine e_zreturn aX9_isClashing_80 rfl (Or.inl rfl) (Nat.le_refl _) (Nat.le_refl _) ?_
        have e : rfs D n (fo o f) (om f) = none := hRs.symm
        rw [e]
        exact ⟨rfl, S⟩
      · -- 14: not taken
        exact absurd (nI_le (by omega) (by omega)) c14
    | succ m ih =>
      intro s hz hs S hRs
      have F := S.F F0
      have kk : ∀ hy, Sc h0 hy → rfc D n s = none → Ev X mX9_isClashing 7 0 0 (icQ D n h0 (rfs D n (fo o f) (om f))) 0 0 7 [(0, some (vR (some 109))), (1, some (vI (nI (fo o f)))), (2, some (vI (nI (s + 1))))] [] hy := fun hy S' e => ih (s + 1) hy (by omega) S' (by rw [← hRs, frW_s, if_neg (by rw [e]; decide)])
      have inn : ∀ (m2 p : Nat) (hz : HP), p + m2 = 12 → Sc h0 hz → LsC hz n D s → frW (rfP D n s) p m2 = rfc D n s → Ev X mX9_isClashing 7 0 0 (icQ D n h0 (rfs D n (fo o f) (om f))) 0 0 24 [(0, some (vR (some 109))), (1, some (vI (nI (fo o f)))), (2, some (vI (nI s))), (3, some (vI (nI p)))] [] hz := by
        intro m2
        induction m2 with
        | zero =>
          intro p hz hp S LSz hRp
          obtain rfl : p = 12 := by omega
          have F := S.F F0
          refine e_iload_n aX9_isClashing_24 rfl ?_
          refine e_bipush (v := 12) aX9_isClashing_25 (by decide) ?_
          refine e_icmp_ge aX9_isClashing_27 (fun c27 => ?_) (fun c27 => ?_)
          · -- 27: taken
            refine e_iinc aX9_isClashing_73 rfl rfl (Nat.le_of_ble_eq_true rfl) ?_
            refine e_goto aX9_isClashing_76 ?_
            refine e_ls (ls' := [(0, some (vR (some 109))), (1, some (vI (nI (fo o f)))), (2, some (vI (nI (s + 1))))]) ⟨rfl, rfl, congrArg (fun x => some (vI x)) (nI_1 s), trivial⟩ ?_
            exact kk hz S hRp.symm
          · -- 27: not taken
            exact absurd (nI_le (a := 12) (b := 12) (by decide) (by decide)) c27
        | succ m2 ihp =>
          intro p hz hp S LSz hRp
          have F := S.F F0
          have md := S.md md0
          refine e_iload_n aX9_isClashing_24 rfl ?_
          refine e_bipush (v := 12) aX9_isClashing_25 (by decide) ?_
          refine e_icmp_ge aX9_isClashing_27 (fun c27 => ?_) (fun c27 => ?_)
          · -- 27: taken
            exact absurd c27 (nI_ge (a := p) (b := 12) (by omega) (by decide))
          · -- 27: not taken
            refine e_aload_n aX9_isClashing_30 rfl ?_
            refine e_iload_n aX9_isClashing_31 rfl ?_
            refine e_invv aX9_isClashing_32 kX9_174 (zX9_clashOf X F md LSz (p := p) (by omega)) rfl rfl (fx_is F rfl) (Nat.le_of_ble_eq_true rfl) (Nat.le_of_ble_eq_true rfl) (Nat.le_refl _) (Nat.le_refl _) (Nat.le_of_ble_eq_true rfl) ?_
            rintro v h2 ⟨rfl, S1⟩
            have S2 := S.tr S1.up
            have F := S2.F F0
            refine e_istore aX9_isClashing_35 (Nat.le_of_ble_eq_true rfl) ?_
            refine e_iload aX9_isClashing_37 rfl ?_
            refine e_iconst (v := -1) aX9_isClashing_39 (by decide) ?_
            refine e_icmp_eq aX9_isClashing_40 (fun c40 => ?_) (fun c40 => ?_)
            · -- 40: taken
              have q40 : ¬ rfP D n s p = true := fun z => of_decide_eq_true z c40
              refine e_iinc aX9_isClashing_67 rfl rfl (Nat.le_of_ble_eq_true rfl) ?_
              refine e_goto aX9_isClashing_70 ?_
              refine e_ls (ls' := [(0, some (vR (some 109))), (1, some (vI (nI (fo o f)))), (2, some (vI (nI s))), (3, some (vI (nI (p + 1))))]) ⟨rfl, rfl, rfl, congrArg (fun x => some (vI x)) (nI_1 p), trivial⟩ ?_
              exact ihp (p + 1) h2 (by omega) S2 (LSz.c1 S1) (by rw [← hRp, frW_s, if_neg q40])
            · -- 40: not taken
              have q40 : rfP D n s p = true := decide_eq_true c40
              have hrp : rfc D n s = some p := by rw [← hRp, frW_s, if_pos q40]
              refine e_aload_n aX9_isClashing_43 rfl ?_
              refine e_getRF aX9_isClashing_44 fX9_26 rfl (fx_is F rfl) (fx_r (b := 114) F rfl) ?_
              refine e_iconst (v := 0) aX9_isClashing_47 (by decide) ?_
              refine e_iload_n aX9_isClashing_48 rfl ?_
              refine e_iastoreF aX9_isClashing_49 (fx_is F rfl) (fx_n (n := 3) F rfl) (vin (N := 3) (n := 0) (by decide)) ?_
              refine e_aload_n aX9_isClashing_50 rfl ?_
              refine e_getRF aX9_isClashing_51 fX9_26 rfl (fx_is F rfl) (fx_r (b := 114) F rfl) ?_
              refine e_iconst (v := 1) aX9_isClashing_54 (by decide) ?_
              refine e_iload_n aX9_isClashing_55 rfl ?_
              refine e_iastoreF aX9_isClashing_56 (fx_is F rfl) (fx_n (n := 3) F rfl) (vin (N := 3) (n := 1) (by decide)) ?_
              refine e_aload_n aX9_isClashing_57 rfl ?_
              refine e_getRF aX9_isClashing_58 fX9_26 rfl (fx_is F rfl) (fx_r (b := 114) F rfl) ?_
              refine e_iconst (v := 2) aX9_isClashing_61 (by decide) ?_
              refine e_iload aX9_isClashing_62 rfl ?_
              refine e_iastoreF aX9_isClashing_64 (fx_is F rfl) (fx_n (n := 3) F rfl) (vin (N := 3) (n := 2) (by decide)) ?_
              refine e_iconst (v := 1) aX9_isClashing_65 (by decide) ?_
              refine e_zreturn aX9_isClashing_66 rfl (Or.inr rfl) (Nat.le_refl _) (Nat.le_refl _) ?_
              have e : rfs D n (fo o f) (om f) = some s := by rw [← hRs, frW_s, if_pos (by rw [hrp]; rfl)]
              rw [e]
              exact ⟨rfl, p, hrp, ((S2.up4.wI (Or.inl rfl)).wI (Or.inl rfl)).wI (Or.inl rfl), (wI_i (by decide)).trans ((wI_i (by decide)).trans wI_s), (wI_i (by decide)).trans wI_s, wI_s⟩
      refine e_iload_n aX9_isClashing_7 rfl ?_
      refine e_iload_n aX9_isClashing_8 rfl ?_
      refine e_aload_n aX9_isClashing_9 rfl ?_
      refine e_invvT aX9_isClashing_10 kX9_123 (zX9_openMany X F (S.mf mf)) rfl rfl (fx_is F rfl) (Nat.le_of_ble_eq_true rfl) (Nat.le_of_ble_eq_true rfl) (Nat.le_refl _) (Nat.le_refl _) (Nat.le_of_ble_eq_true rfl) ?_
      refine e_iadd aX9_isClashing_13 ?_
      refine e_top (nI_add _ _) ?_
      refine e_icmp_ge aX9_isClashing_14 (fun c14 => ?_) (fun c14 => ?_)
      · -- 14: taken
        exact absurd c14 (nI_ge (by omega) (by omega))
      · -- 14: not taken
        refine e_aload_n aX9_isClashing_17 rfl ?_
        refine e_iload_n aX9_isClashing_18 rfl ?_
        refine e_invv aX9_isClashing_19 kX9_170 (zX9_laysOut X F (S.md md0) (s := s) (by omega)) rfl rfl (fx_is F rfl) (Nat.le_of_ble_eq_true rfl) (Nat.le_of_ble_eq_true rfl) (Nat.le_refl _) (Nat.le_refl _) (Nat.le_of_ble_eq_true rfl) ?_
        rintro v h2 ⟨rfl, S1, LSz⟩
        have S2 := S.tr S1
        refine e_iconst (v := 0) aX9_isClashing_22 (by decide) ?_
        refine e_istore_n aX9_isClashing_23 (Nat.le_of_ble_eq_true rfl) ?_
        refine e_ls (ls' := [(0, some (vR (some 109))), (1, some (vI (nI (fo o f)))), (2, some (vI (nI s))), (3, some (vI (nI 0)))]) ⟨rfl, rfl, rfl, rfl, trivial⟩ ?_
        exact inn 12 0 h2 rfl S2 LSz rfl
  refine e_aload_n aX9_isClashing_0 rfl ?_
  refine e_invvT aX9_isClashing_1 kX9_119 (zX9_openFrom X F0 mf) rfl rfl (fx_is F0 rfl) (Nat.le_of_ble_eq_true rfl) (Nat.le_of_ble_eq_true rfl) (Nat.le_refl _) (Nat.le_refl _) (Nat.le_of_ble_eq_true rfl) ?_
  refine e_istore_n aX9_isClashing_4 (Nat.le_of_ble_eq_true rfl) ?_
  refine e_iload_n aX9_isClashing_5 rfl ?_
  refine e_istore_n aX9_isClashing_6 (Nat.le_of_ble_eq_true rfl) ?_
  refine e_ls (ls' := [(0, some (vR (some 109))), (1, some (vI (nI (fo o f)))), (2, some (vI (nI (fo o f))))]) ⟨rfl, rfl, rfl, trivial⟩ ?_
  exact loop (om f) (fo o f) h0 rfl (Sf.rf h0) rfl
