/-! contracts: Sheet, sheet, write, item, copy (written by wip/p45/g28.py) -/
theorem sh1 : ∀ s, s < 4 → (Nat.ble 32 (101 + 2 * s) && Nat.blt (101 + 2 * s) NF && Nat.beq (T0 (101 + 2 * s)) 6) = true := by decide
theorem sh2 : ∀ s, s < 4 → (Nat.ble 32 (102 + 2 * s) && Nat.blt (102 + 2 * s) NF && Nat.beq (T0 (102 + 2 * s)) 14) = true := by decide
theorem sh3 : ∀ s, s < 4 → (Nat.ble 32 (102 + 2 * s) && Nat.blt (102 + 2 * s) NF && Nat.beq (N0 (102 + 2 * s)) 40) = true := by decide
theorem sh4 : ∀ s, s < 4 → (!Nat.beq (102 + 2 * s) 0 && Nat.beq (R0 (101 + 2 * s) 0) (102 + 2 * s)) = true := by decide
theorem sh5 : ∀ s, s < 4 → (!Nat.beq (101 + 2 * s) 0 && Nat.beq (R0 73 s) (101 + 2 * s)) = true := by decide
theorem sh_is {h : HP} (F : Fx h) {s : Nat} (hs : s < 4) : Is h (101 + 2 * s) 6 := fx_is F (sh1 s hs)
theorem sn_is {h : HP} (F : Fx h) {s : Nat} (hs : s < 4) : Is h (102 + 2 * s) 14 := fx_is F (sh2 s hs)
theorem sn_n {h : HP} (F : Fx h) {s : Nat} (hs : s < 4) : hN h (102 + 2 * s) = 40 := fx_n F (sh3 s hs)
theorem sh_r {h : HP} (F : Fx h) {s : Nat} (hs : s < 4) : hR h (101 + 2 * s) 0 = some (102 + 2 * s) := fx_r F (sh4 s hs)
theorem sh_a {h : HP} (F : Fx h) {s : Nat} (hs : s < 4) : hR h 73 (nI s).toNatClampNeg = some (101 + 2 * s) := by
  rw [cl (by omega)]
  exact fx_r F (sh5 s hs)
/-- a sheet: its sort and how many numbers -/
def ShC (h : HP) (s : Nat) (t : Int32) (q : Nat) : Prop := hI h (101 + 2 * s) 1 = t ∧ (t = -1 ∨ t = 0 ∨ t = 1 ∨ t = 2) ∧ hI h (101 + 2 * s) 2 = nI q ∧ q ≤ 40
def zrL (h : HP) (a : Nat) : Nat → HP
  | 0 => h
  | k + 1 => wL (zrL h a k) a k 0
theorem zrL_F {h : HP} (F : Fx h) {a : Nat} : ∀ k, Fx (zrL h a k) := by
  intro k
  induction k with
  | zero => exact F
  | succ k ih => exact ih
def shB (h : HP) (s : Nat) (t : Int32) (q : Nat) : HP := zrL (wI (wI h (101 + 2 * s) 1 t) (101 + 2 * s) 2 (nI q)) (102 + 2 * s) q
/-- what a number becomes on a sheet of a sort -/
def pvR (t : Int32) (v : Int64) : Int64 := if t = 0 then v.toInt32.toInt16.toInt32.toInt64 else if t = 1 then v.toInt32.toInt64 else v
theorem zX5_isMissing (X : EX) {h : HP} (F : Fx h) {s : Nat} (hs : s < 4) : Ct X mX5_isMissing 0 0 0 [vR (some (101 + 2 * s))] h (Rt (vI (b2 (hI h (101 + 2 * s) 1 = -1))) h) := by
  refine ct_of rfl (Nat.le_of_ble_eq_true rfl) ?_
  refine e_aload_n aX5_isMissing_0 rfl ?_
  refine e_getI aX5_isMissing_1 fX5_15 rfl (sh_is F hs) ?_
  refine e_iconst (v := -1) aX5_isMissing_4 (by decide) ?_
  refine e_icmp_ne aX5_isMissing_5 (fun c5 => ?_) (fun c5 => ?_)
  · -- 5: taken
    have q5 : ¬ hI h (101 + 2 * s) 1 = -1 := c5
    refine e_iconst (v := 0) aX5_isMissing_12 (by decide) ?_
    refine e_zreturn aX5_isMissing_13 rfl (by decide) (Nat.le_refl _) (Nat.le_refl _) ?_
    exact ⟨by rw [b2_f q5] <;> rfl, rfl⟩
  · -- 5: not taken
    have q5 : hI h (101 + 2 * s) 1 = -1 := c5
    refine e_iconst (v := 1) aX5_isMissing_8 (by decide) ?_
    refine e_goto aX5_isMissing_9 ?_
    refine e_zreturn aX5_isMissing_13 rfl (by decide) (Nat.le_refl _) (Nat.le_refl _) ?_
    exact ⟨by rw [b2_t q5] <;> rfl, rfl⟩
theorem zX5_become (X : EX) {h : HP} (F : Fx h) {s : Nat} (hs : s < 4) (t : Int32) {q : Nat} (hq : q ≤ 40) : Ct X mX5_become 0 0 0 [vR (some (101 + 2 * s)), vI t, vI (nI q)] h (Rv (shB h s t q)) := by
  refine ct_of rfl (Nat.le_of_ble_eq_true rfl) ?_
  have loop : ∀ (m : Nat) (k : Nat), k + m = q → Ev X mX5_become 0 0 0 (Rv (shB h s t q)) 0 0 12 [(0, some (vR (some (101 + 2 * s)))), (2, some (vI (nI q))), (3, some (vI (nI k)))] [] (zrL (wI (wI h (101 + 2 * s) 1 t) (101 + 2 * s) 2 (nI q)) (102 + 2 * s) k) := by
    intro m
    induction m with
    | zero =>
      intro k hk
      obtain rfl : k = q := by omega
      refine e_iload_n aX5_become_12 rfl ?_
      refine e_iload_n aX5_become_13 rfl ?_
      refine e_icmp_ge aX5_become_14 (fun c14 => ?_) (fun c14 => ?_)
      · -- 14: taken
        refine e_return aX5_become_30 rfl (Nat.le_refl _) (Nat.le_refl _) ?_
        exact ⟨rfl, rfl⟩
      · -- 14: not taken
        exact absurd (nI_le (by omega) (by omega)) c14
    | succ m ih =>
      intro k hk
      have FZ : Fx (zrL (wI (wI h (101 + 2 * s) 1 t) (101 + 2 * s) 2 (nI q)) (102 + 2 * s) k) := zrL_F (h := wI (wI h (101 + 2 * s) 1 t) (101 + 2 * s) 2 (nI q)) F k
      refine e_iload_n aX5_become_12 rfl ?_
      refine e_iload_n aX5_become_13 rfl ?_
      refine e_icmp_ge aX5_become_14 (fun c14 => ?_) (fun c14 => ?_)
      · -- 14: taken
        exact absurd c14 (nI_ge (by omega) (by omega))
      · -- 14: not taken
        refine e_aload_n aX5_become_17 rfl ?_
        refine e_getRF aX5_become_18 fX5_9 rfl (sh_is FZ hs) (sh_r FZ hs) ?_
        refine e_iload_n aX5_become_21 rfl ?_
        refine e_lconst (v := 0) aX5_become_22 rfl ?_
        refine e_lastoreF aX5_become_23 (sn_is FZ hs) (sn_n FZ hs) (vin (N := 40) (by omega)) ?_
        rw [cl (by omega)]
        refine e_iinc aX5_become_24 rfl rfl (Nat.le_of_ble_eq_true rfl) ?_
        refine e_goto aX5_become_27 ?_
        refine e_ls (ls' := [(0, some (vR (some (101 + 2 * s)))), (2, some (vI (nI q))), (3, some (vI (nI (k + 1))))]) ⟨rfl, rfl, congrArg (fun x => some (vI x)) (nI_1 k), trivial⟩ ?_
        exact ih (k + 1) (by omega)
  refine e_aload_n aX5_become_0 rfl ?_
  refine e_iload_n aX5_become_1 rfl ?_
  refine e_putI aX5_become_2 fX5_15 rfl (sh_is F hs) (Or.inl rfl) ?_
  refine e_aload_n aX5_become_5 rfl ?_
  refine e_iload_n aX5_become_6 rfl ?_
  refine e_putI aX5_become_7 fX5_19 rfl (sh_is F hs) (Or.inl rfl) ?_
  refine e_iconst (v := 0) aX5_become_10 (by decide) ?_
  refine e_istore_n aX5_become_11 (Nat.le_of_ble_eq_true rfl) ?_
  refine e_ls (ls' := [(0, some (vR (some (101 + 2 * s)))), (2, some (vI (nI q))), (3, some (vI (nI 0)))]) ⟨rfl, rfl, rfl, trivial⟩ ?_
  exact loop q 0 (by omega)
theorem zX5_put (X : EX) {h : HP} (F : Fx h) {s : Nat} (hs : s < 4) {t : Int32} {q j : Nat} (hsh : ShC h s t q) (ht : t = 0 ∨ t = 1 ∨ t = 2) (hj : j < q) (v : Int64) : Ct X mX5_put 0 0 0 [vR (some (101 + 2 * s)), vI (nI j), vL v] h (Rv (wL h (102 + 2 * s) j (pvR t v))) := by
  refine ct_of rfl (Nat.le_of_ble_eq_true rfl) ?_
  have hq40 := hsh.2.2.2
  refine e_aload_n aX5_put_0 rfl ?_
  refine e_getI aX5_put_1 fX5_15 rfl (sh_is F hs) ?_
  rw [hsh.1]
  rcases ht with rfl | rfl | rfl
  · -- switch
    refine e_lookup (off := 28) (tgt := 32) aX5_put_4 (by decide) (by decide) (by decide) ?_
    refine e_aload_n aX5_put_32 rfl ?_
    refine e_getRF aX5_put_33 fX5_9 rfl (sh_is F hs) (sh_r F hs) ?_
    refine e_iload_n aX5_put_36 rfl ?_
    refine e_lload_n aX5_put_37 rfl ?_
    refine e_l2i aX5_put_38 ?_
    refine e_i2s aX5_put_39 ?_
    refine e_i2l aX5_put_40 ?_
    refine e_lastoreF aX5_put_41 (sn_is F hs) (sn_n F hs) (vin (N := 40) (by omega)) ?_
    rw [cl (by omega)]
    refine e_goto aX5_put_42 ?_
    refine e_return aX5_put_64 rfl (Nat.le_refl _) (Nat.le_refl _) ?_
    exact ⟨rfl, rfl⟩
  · -- switch
    refine e_lookup (off := 41) (tgt := 45) aX5_put_4 (by decide) (by decide) (by decide) ?_
    refine e_aload_n aX5_put_45 rfl ?_
    refine e_getRF aX5_put_46 fX5_9 rfl (sh_is F hs) (sh_r F hs) ?_
    refine e_iload_n aX5_put_49 rfl ?_
    refine e_lload_n aX5_put_50 rfl ?_
    refine e_l2i aX5_put_51 ?_
    refine e_i2l aX5_put_52 ?_
    refine e_lastoreF aX5_put_53 (sn_is F hs) (sn_n F hs) (vin (N := 40) (by omega)) ?_
    rw [cl (by omega)]
    refine e_goto aX5_put_54 ?_
    refine e_return aX5_put_64 rfl (Nat.le_refl _) (Nat.le_refl _) ?_
    exact ⟨rfl, rfl⟩
  · -- switch
    refine e_lookup (off := 53) (tgt := 57) aX5_put_4 (by decide) (by decide) (by decide) ?_
    refine e_aload_n aX5_put_57 rfl ?_
    refine e_getRF aX5_put_58 fX5_9 rfl (sh_is F hs) (sh_r F hs) ?_
    refine e_iload_n aX5_put_61 rfl ?_
    refine e_lload_n aX5_put_62 rfl ?_
    refine e_lastoreF aX5_put_63 (sn_is F hs) (sn_n F hs) (vin (N := 40) (by omega)) ?_
    rw [cl (by omega)]
    refine e_return aX5_put_64 rfl (Nat.le_refl _) (Nat.le_refl _) ?_
    exact ⟨rfl, rfl⟩
