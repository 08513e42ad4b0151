/-! contracts: counts, deals told (written by wip/p45/g23.py) -/
/-- how many, and the first, of a run -/
def cnW (P : Nat → Bool) (a : Nat) : Nat → Nat
  | 0 => 0
  | m + 1 => cnW P a m + (if P (a + m) = true then 1 else 0)
def frW (P : Nat → Bool) (a : Nat) : Nat → Option Nat
  | 0 => none
  | m + 1 => if P a = true then some a else frW P (a + 1) m
theorem cnW_le {P : Nat → Bool} {a : Nat} : ∀ m, cnW P a m ≤ m := by
  intro m
  induction m with
  | zero => exact Nat.le_refl _
  | succ m ih =>
    unfold cnW
    split <;> omega
theorem cnW_t {P : Nat → Bool} {a m : Nat} (z : P (a + m) = true) : cnW P a (m + 1) = cnW P a m + 1 := by
  show _ + _ = _
  rw [if_pos z]
theorem cnW_f {P : Nat → Bool} {a m : Nat} (z : P (a + m) = false) : cnW P a (m + 1) = cnW P a m := by
  show _ + _ = _
  rw [if_neg (by rw [z]; decide)]
  rfl
theorem sw_out {x v : Int32} {hi9 : Int} (hh : hi9 < v.toInt) (q : x < 0 ∨ v ≤ x) : x.toInt < 0 ∨ hi9 < x.toInt := by
  rcases q with z | z
  · left
    have := Int32.lt_iff_toInt_lt.mp z
    exact this
  · right
    have := Int32.le_iff_toInt_le.mp z
    omega
theorem frW_some {P : Nat → Bool} : ∀ {m a j : Nat}, frW P a m = some j → P j = true ∧ a ≤ j ∧ j < a + m := by
  intro m
  induction m with
  | zero => intro a j z; cases z
  | succ m ih =>
    intro a j z
    unfold frW at z
    split at z
    · cases z
      exact ⟨by assumption, Nat.le_refl _, by omega⟩
    · have := ih z
      exact ⟨this.1, by omega, by omega⟩
theorem opn_of {a b : Nat} {s : Int32} (hab : a ≤ b) (hb : b ≤ 1296) (h : nI a ≤ s ∧ s < nI b) : ∃ i, a ≤ i ∧ i < b ∧ s = nI i := by
  rcases pk_ix s (n := b) (by omega) with z | z | ⟨j, hj, rfl⟩
  · exact absurd (Int32.lt_of_le_of_lt h.1 z) (Int32.not_lt.mpr (nI_pos' (by omega)))
  · exact absurd h.2 (Int32.not_lt.mpr z)
  · exact ⟨j, (nI_leI (by omega) (by omega)).mp h.1, hj, rfl⟩
def dl (A : Nat → Nat) (n : Nat) (x : Int32) : Option Nat := if x < 0 ∨ nI n ≤ x then none else some (A x.toNatClampNeg)
theorem dl_none {A : Nat → Nat} {n : Nat} {x : Int32} (z : dl A n x = none) : x < 0 ∨ nI n ≤ x := by
  unfold dl at z
  split at z
  · assumption
  · cases z
theorem dl_some {A : Nat → Nat} {n r : Nat} {x : Int32} (hn : n ≤ 12) (z : dl A n x = some r) : ¬ (x < 0 ∨ nI n ≤ x) ∧ ∃ j, j < n ∧ x = nI j ∧ r = A j := by
  unfold dl at z
  split at z
  · cases z
  · rename_i hq
    refine ⟨hq, ?_⟩
    obtain ⟨j, hj, rfl⟩ := ou_of n (by omega) hq
    cases z
    exact ⟨j, hj, rfl, by rw [cl (by omega)]⟩
theorem zdl (X : EX) {h : HP} (F : Fx h) {n : Nat} {A : Nat → Nat} {D : Nat → DD} (b : BkD h n A D) (x : Int32) : Ct X mX0_dealAt 1 0 0 [vR (some 33), vI x] h (Rt (vR (dl A n x)) h) := by
  have e : dl A n x = if x < 0 ∨ nI n ≤ x then none else hR h 34 x.toNatClampNeg := by
    unfold dl
    split
    · rfl
    · rename_i hq
      obtain ⟨j, hj, rfl⟩ := ou_of n (by have := b.2.1; omega) hq
      have hn := b.2.1
      rw [cl (by omega)]
      exact (b.2.2 j hj).1.symm
  rw [e]
  exact zX0_dealAt X F b x
/-- a PICK, or the finding that there is none -/
def rO (h : HP) : Option Nat → Option VV → HP → Prop
  | none => RF h 3
  | some p => Rt (vI (nI p)) h
def hld (h : HP) : Nat := cnW (fun i => (hR h 74 i).isSome) 0 4
theorem zX8_countHeld (X : EX) {h : HP} (F : Fx h) : Ct X mX8_countHeld 0 0 0 [vR (some 32)] h (Rt (vI (nI (hld h))) h) := by
  refine ct_of rfl (Nat.le_of_ble_eq_true rfl) ?_
  have loop : ∀ (m : Nat) (k : Nat), k + m = 4 → Ev X mX8_countHeld 0 0 0 (Rt (vI (nI (hld h))) h) 0 0 4 [(0, some (vR (some 32))), (1, some (vI (nI (cnW (fun i => (hR h 74 i).isSome) 0 k)))), (2, some (vI (nI k)))] [] h := by
    intro m
    induction m with
    | zero =>
      intro k hk
      obtain rfl : k = 4 := by omega
      refine e_iload_n aX8_countHeld_4 rfl ?_
      refine e_iconst (v := 4) aX8_countHeld_5 (by decide) ?_
      refine e_icmp_ge aX8_countHeld_6 (fun c6 => ?_) (fun c6 => ?_)
      · -- 6: taken
        refine e_iload_n aX8_countHeld_27 rfl ?_
        refine e_ireturn aX8_countHeld_28 rfl (Nat.le_refl _) (Nat.le_refl _) ?_
        exact ⟨rfl, rfl⟩
      · -- 6: not taken
        exact absurd (nI_le (a := 4) (b := 4) (by decide) (by decide)) c6
    | succ m ih =>
      intro k hk
      refine e_iload_n aX8_countHeld_4 rfl ?_
      refine e_iconst (v := 4) aX8_countHeld_5 (by decide) ?_
      refine e_icmp_ge aX8_countHeld_6 (fun c6 => ?_) (fun c6 => ?_)
      · -- 6: taken
        exact absurd c6 (nI_ge (a := k) (b := 4) (by omega) (by decide))
      · -- 6: not taken
        refine e_aload_n aX8_countHeld_9 rfl ?_
        refine e_getRF aX8_countHeld_10 fX8_42 rfl (fx_is F rfl) (fx_r (b := 74) F rfl) ?_
        refine e_iload_n aX8_countHeld_13 rfl ?_
        refine e_aaloadF (t := 17) aX8_countHeld_14 (fx_is F rfl) (by decide) (by decide) (fx_n (n := 4) F rfl) (vin (N := 4) (by omega)) (show hR h 74 (nI k).toNatClampNeg = hR h 74 k by rw [cl (by omega)]) ?_
        refine e_ifnull aX8_countHeld_15 (fun c15 => ?_) (fun r15 c15 => ?_)
        · -- 15: taken
          have ck := cnW_f (P := fun i => (hR h 74 i).isSome) (a := 0) (m := k) (by rw [Nat.zero_add]; show (hR h 74 k).isSome = false; rw [c15]; rfl)
          refine e_iinc aX8_countHeld_21 rfl rfl (Nat.le_of_ble_eq_true rfl) ?_
          refine e_goto aX8_countHeld_24 ?_
          refine e_ls (ls' := [(0, some (vR (some 32))), (1, some (vI (nI (cnW (fun i => (hR h 74 i).isSome) 0 (k + 1))))), (2, some (vI (nI (k + 1))))]) ⟨rfl, congrArg (fun x => some (vI x)) (show nI (cnW (fun i => (hR h 74 i).isSome) 0 k) = nI (cnW (fun i => (hR h 74 i).isSome) 0 (k + 1)) by rw [ck]), congrArg (fun x => some (vI x)) (nI_1 k), trivial⟩ ?_
          exact ih (k + 1) (by omega)
        · -- 15: not taken
          have ck := cnW_t (P := fun i => (hR h 74 i).isSome) (a := 0) (m := k) (by rw [Nat.zero_add]; show (hR h 74 k).isSome = true; rw [c15]; rfl)
          refine e_iinc aX8_countHeld_18 rfl rfl (Nat.le_of_ble_eq_true rfl) ?_
          refine e_iinc aX8_countHeld_21 rfl rfl (Nat.le_of_ble_eq_true rfl) ?_
          refine e_goto aX8_countHeld_24 ?_
          refine e_ls (ls' := [(0, some (vR (some 32))), (1, some (vI (nI (cnW (fun i => (hR h 74 i).isSome) 0 (k + 1))))), (2, some (vI (nI (k + 1))))]) ⟨rfl, congrArg (fun x => some (vI x)) ((nI_1 (cnW (fun i => (hR h 74 i).isSome) 0 k)).trans (by rw [ck])), congrArg (fun x => some (vI x)) (nI_1 k), trivial⟩ ?_
          exact ih (k + 1) (by omega)
  refine e_iconst (v := 0) aX8_countHeld_0 (by decide) ?_
  refine e_istore_n aX8_countHeld_1 (Nat.le_of_ble_eq_true rfl) ?_
  refine e_iconst (v := 0) aX8_countHeld_2 (by decide) ?_
  refine e_istore_n aX8_countHeld_3 (Nat.le_of_ble_eq_true rfl) ?_
  refine e_ls (ls' := [(0, some (vR (some 32))), (1, some (vI (nI (cnW (fun i => (hR h 74 i).isSome) 0 0)))), (2, some (vI (nI 0)))]) ⟨rfl, rfl, rfl, trivial⟩ ?_
  exact loop 4 0 rfl
def cntV (h : HP) (f n : Nat) : Nat → Int32
  | 0 => nI n
  | 1 => nI f
  | 2 => nI (om f)
  | 3 => hI h 32 2
  | 4 => hI h 33 5
  | 5 => hI h 41 1
  | _ => nI (hld h)
theorem zX8_count (X : EX) {h : HP} (F : Fx h) {f n : Nat} {o : Nat → Nat} {A : Nat → Nat} {D : Nat → DD} (bf : BkF h f o) (b : BkD h n A D) (x : Int32) : Ct X mX8_count 1 0 0 [vR (some 32), vI x] h (if x < 0 ∨ nI 7 ≤ x then RF h 0 else Rt (vI (cntV h f n x.toNatClampNeg)) h) := by
  refine ct_of rfl (Nat.le_of_ble_eq_true rfl) ?_
  refine e_iload_n aX8_count_0 rfl ?_
  by_cases q1 : x < 0 ∨ nI 7 ≤ x
  rotate_left
  obtain ⟨iz, hi7, rfl⟩ := ou_of 7 (by decide) q1
  rw [if_neg q1, cl (by omega)]
  rcases (show iz = 0 ∨ iz = 1 ∨ iz = 2 ∨ iz = 3 ∨ iz = 4 ∨ iz = 5 ∨ iz = 6 by omega) with rfl | rfl | rfl | rfl | rfl | rfl | rfl
  rotate_left 7
  rw [if_pos q1]
  rotate_right 7
  · -- switch
    refine e_tableIn (tgt := 44) aX8_count_1 (by decide) (by decide) rfl (by decide) ?_
    refine e_aload_n aX8_count_44 rfl ?_
    refine e_getRF aX8_count_45 fX8_10 rfl (fx_is F rfl) (fx_r (b := 33) F rfl) ?_
    refine e_getIF aX8_count_48 fX8_101 rfl (fx_is F rfl) b.1 ?_
    refine e_ireturn aX8_count_51 rfl (Nat.le_refl _) (Nat.le_refl _) ?_
    exact ⟨rfl, rfl⟩
  · -- switch
    refine e_tableIn (tgt := 52) aX8_count_1 (by decide) (by decide) rfl (by decide) ?_
    refine e_aload_n aX8_count_52 rfl ?_
    refine e_getRF aX8_count_53 fX8_10 rfl (fx_is F rfl) (fx_r (b := 33) F rfl) ?_
    refine e_getIF aX8_count_56 fX8_73 rfl (fx_is F rfl) bf.1 ?_
    refine e_ireturn aX8_count_59 rfl (Nat.le_refl _) (Nat.le_refl _) ?_
    exact ⟨rfl, rfl⟩
  · -- switch
    refine e_tableIn (tgt := 60) aX8_count_1 (by decide) (by decide) rfl (by decide) ?_
    refine e_aload_n aX8_count_60 rfl ?_
    refine e_getRF aX8_count_61 fX8_10 rfl (fx_is F rfl) (fx_r (b := 33) F rfl) ?_
    refine e_invvT aX8_count_64 kX8_88 (zX0_openCount X F bf) rfl rfl (fx_is F rfl) (Nat.le_of_ble_eq_true rfl) (Nat.le_of_ble_eq_true rfl) (Nat.le_refl _) (Nat.le_refl _) (Nat.le_of_ble_eq_true rfl) ?_
    refine e_ireturn aX8_count_67 rfl (Nat.le_refl _) (Nat.le_refl _) ?_
    exact ⟨rfl, rfl⟩
  · -- switch
    refine e_tableIn (tgt := 68) aX8_count_1 (by decide) (by decide) rfl (by decide) ?_
    refine e_aload_n aX8_count_68 rfl ?_
    refine e_getI aX8_count_69 fX8_254 rfl (fx_is F rfl) ?_
    refine e_ireturn aX8_count_72 rfl (Nat.le_refl _) (Nat.le_refl _) ?_
    exact ⟨rfl, rfl⟩
  · -- switch
    refine e_tableIn (tgt := 73) aX8_count_1 (by decide) (by decide) rfl (by decide) ?_
    refine e_aload_n aX8_count_73 rfl ?_
    refine e_getRF aX8_count_74 fX8_10 rfl (fx_is F rfl) (fx_r (b := 33) F rfl) ?_
    refine e_getI aX8_count_77 fX8_80 rfl (fx_is F rfl) ?_
    refine e_ireturn aX8_count_80 rfl (Nat.le_refl _) (Nat.le_refl _) ?_
    exact ⟨rfl, rfl⟩
  · -- switch
    refine e_tableIn (tgt := 81) aX8_count_1 (by decide) (by decide) rfl (by decide) ?_
    refine e_aload_n aX8_count_81 rfl ?_
    refine e_getRF aX8_count_82 fX8_30 rfl (fx_is F rfl) (fx_r (b := 40) F rfl) ?_
    refine e_getRF aX8_count_85 fX8_108 rfl (fx_is F rfl) (fx_r (b := 41) F rfl) ?_
    refine e_getI aX8_count_88 fX8_112 rfl (fx_is F rfl) ?_
    refine e_ireturn aX8_count_91 rfl (Nat.le_refl _) (Nat.le_refl _) ?_
    exact ⟨rfl, rfl⟩
  · -- switch
    refine e_tableIn (tgt := 92) aX8_count_1 (by decide) (by decide) rfl (by decide) ?_
    refine e_aload_n aX8_count_92 rfl ?_
    refine e_invvT aX8_count_93 kX8_260 (zX8_countHeld X F) rfl rfl (fx_is F rfl) (Nat.le_of_ble_eq_true rfl) (Nat.le_of_ble_eq_true rfl) (Nat.le_refl _) (Nat.le_refl _) (Nat.le_of_ble_eq_true rfl) ?_
    refine e_ireturn aX8_count_96 rfl (Nat.le_refl _) (Nat.le_refl _) ?_
    exact ⟨rfl, rfl⟩
  · -- switch
    refine e_tableOut (tgt := 97) aX8_count_1 (sw_out (v := nI 7) (by decide) q1) (by decide) ?_
    refine e_aload_n aX8_count_97 rfl ?_
    refine e_iconst (v := 0) aX8_count_98 (by decide) ?_
    refine e_invvT aX8_count_99 kX8_62 (zfin X (k := 0) F (by decide)) rfl rfl (fx_is F rfl) (Nat.le_of_ble_eq_true rfl) (Nat.le_of_ble_eq_true rfl) (Nat.le_refl _) (Nat.le_refl _) (Nat.le_of_ble_eq_true rfl) ?_
    refine e_ireturn aX8_count_102 rfl (Nat.le_refl _) (Nat.le_refl _) ?_
    exact ⟨rfl, rfl⟩
theorem zX8_owner (X : EX) {h : HP} (F : Fx h) {f : Nat} {o : Nat → Nat} (bf : BkF h f o) (x y : Int32) : Ct X mX8_owner 3 0 0 [vR (some 32), vI x, vI y] h (if nI (fo o f) ≤ x ∧ x < nI (fo o f + om f) then if y < 0 ∨ 12 ≤ y then RF h 0 else Rt (vI (dgt (hI h 39 x.toNatClampNeg) y.toNatClampNeg)) h else RF h 0) := by
  refine ct_of rfl (Nat.le_of_ble_eq_true rfl) ?_
  have hb6 := om_fo bf.2.1 bf.2.2.2
  refine e_aload_n aX8_owner_0 rfl ?_
  refine e_getRF aX8_owner_1 fX8_10 rfl (fx_is F rfl) (fx_r (b := 33) F rfl) ?_
  refine e_iload_n aX8_owner_4 rfl ?_
  refine e_invvT aX8_owner_5 kX8_169 (zX0_isOpen X F bf _) rfl rfl (fx_is F rfl) (Nat.le_of_ble_eq_true rfl) (Nat.le_of_ble_eq_true rfl) (Nat.le_refl _) (Nat.le_refl _) (Nat.le_of_ble_eq_true rfl) ?_
  refine e_if_eq aX8_owner_8 (fun c8 => ?_) (fun c8 => ?_)
  · -- 8: taken
    have q8 := b2_0.mp c8
    refine e_aload_n aX8_owner_20 rfl ?_
    refine e_iconst (v := 0) aX8_owner_21 (by decide) ?_
    refine e_invvT aX8_owner_22 kX8_62 (zfin X (k := 0) F (by decide)) rfl rfl (fx_is F rfl) (Nat.le_of_ble_eq_true rfl) (Nat.le_of_ble_eq_true rfl) (Nat.le_refl _) (Nat.le_refl _) (Nat.le_of_ble_eq_true rfl) ?_
    refine e_ireturn aX8_owner_25 rfl (Nat.le_refl _) (Nat.le_refl _) ?_
    rw [if_neg q8]
    exact ⟨rfl, rfl⟩
  · -- 8: not taken
    have q8 := Decidable.of_not_not (fun z => c8 (b2_0.mpr z))
    obtain ⟨sz, hs1, hs2, rfl⟩ := opn_of (Nat.le_add_right _ _) hb6 q8
    refine e_iload_n aX8_owner_11 rfl ?_
    refine e_bipush (v := 12) aX8_owner_12 (by decide) ?_
    refine e_invsT aX8_owner_14 kX8_58 (zX8_isOutside X _ _) rfl rfl (Nat.le_of_ble_eq_true rfl) (Nat.le_of_ble_eq_true rfl) (Nat.le_refl _) (Nat.le_refl _) (Nat.le_of_ble_eq_true rfl) ?_
    refine e_if_eq aX8_owner_17 (fun c17 => ?_) (fun c17 => ?_)
    · -- 17: taken
      have q17 := b2_0.mp c17
      obtain ⟨pz, hp, rfl⟩ := ou_of 12 (by decide) q17
      refine e_aload_n aX8_owner_26 rfl ?_
      refine e_getRF aX8_owner_27 fX8_23 rfl (fx_is F rfl) (fx_r (b := 38) F rfl) ?_
      refine e_iload_n aX8_owner_30 rfl ?_
      refine e_iload_n aX8_owner_31 rfl ?_
      refine e_invvT aX8_owner_32 kX8_172 (zX2_at X F (s := sz) (by omega) hp) rfl rfl (fx_is F rfl) (Nat.le_of_ble_eq_true rfl) (Nat.le_of_ble_eq_true rfl) (Nat.le_refl _) (Nat.le_refl _) (Nat.le_of_ble_eq_true rfl) ?_
      refine e_ireturn aX8_owner_35 rfl (Nat.le_refl _) (Nat.le_refl _) ?_
      rw [if_pos q8, if_neg q17, cl (by omega), cl (by omega)]
      exact ⟨rfl, rfl⟩
    · -- 17: not taken
      have q17 := Decidable.of_not_not (fun z => c17 (b2_0.mpr z))
      refine e_aload_n aX8_owner_20 rfl ?_
      refine e_iconst (v := 0) aX8_owner_21 (by decide) ?_
      refine e_invvT aX8_owner_22 kX8_62 (zfin X (k := 0) F (by decide)) rfl rfl (fx_is F rfl) (Nat.le_of_ble_eq_true rfl) (Nat.le_of_ble_eq_true rfl) (Nat.le_refl _) (Nat.le_refl _) (Nat.le_of_ble_eq_true rfl) ?_
      refine e_ireturn aX8_owner_25 rfl (Nat.le_refl _) (Nat.le_refl _) ?_
      rw [if_pos q8, if_pos q17]
      exact ⟨rfl, rfl⟩
