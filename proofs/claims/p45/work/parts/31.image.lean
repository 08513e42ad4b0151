/-! contracts: Book.become, image, back (written by wip/p45/g31.py) -/
def bkL : List Nat := [33, 77, 81, 85, 89, 93, 97]
theorem bk1 : ∀ a, a ∈ bkL → (Nat.ble 32 a && Nat.blt a NF && Nat.beq (T0 a) 1) = true := by decide
theorem bk2 : ∀ a, a ∈ bkL → (Nat.ble 32 (a + 1) && Nat.blt (a + 1) NF && Nat.beq (T0 (a + 1)) 17) = true := by decide
theorem bk3 : ∀ a, a ∈ bkL → (Nat.ble 32 (a + 1) && Nat.blt (a + 1) NF && Nat.beq (N0 (a + 1)) 12) = true := by decide
theorem bk4 : ∀ a, a ∈ bkL → (!Nat.beq (a + 1) 0 && Nat.beq (R0 a 0) (a + 1)) = true := by decide
theorem bk5 : ∀ a, a ∈ bkL → (Nat.ble 32 (a + 2) && Nat.blt (a + 2) NF && Nat.beq (T0 (a + 2)) 13) = true := by decide
theorem bk6 : ∀ a, a ∈ bkL → (Nat.ble 32 (a + 2) && Nat.blt (a + 2) NF && Nat.beq (N0 (a + 2)) 4) = true := by decide
theorem bk7 : ∀ a, a ∈ bkL → (!Nat.beq (a + 2) 0 && Nat.beq (R0 a 2) (a + 2)) = true := by decide
theorem bk8 : ∀ a, a ∈ bkL → (Nat.ble 32 (a + 3) && Nat.blt (a + 3) NF && Nat.beq (T0 (a + 3)) 13) = true := by decide
theorem bk9 : ∀ a, a ∈ bkL → (Nat.ble 32 (a + 3) && Nat.blt (a + 3) NF && Nat.beq (N0 (a + 3)) 3) = true := by decide
theorem bk10 : ∀ a, a ∈ bkL → (!Nat.beq (a + 3) 0 && Nat.beq (R0 a 4) (a + 3)) = true := by decide
theorem bk11 : ∀ a, a ∈ bkL → R0l.getD (a + 1 - 32) [] = [] := by decide
theorem bk12 : ∀ a, a ∈ bkL → ∀ b, b ∈ bkL → b ≠ a + 1 ∧ b ≠ a + 2 ∧ b ≠ a + 3 ∧ (a ≠ b → a + 4 ≤ b ∨ b + 4 ≤ a) ∧ a + 3 < 116 ∧ 33 ≤ a := by decide
theorem bk13 : ∀ i, i < 6 → 77 + 4 * i ∈ bkL := by decide
theorem bk14 : ∀ i, i < 6 → (!Nat.beq (77 + 4 * i) 0 && Nat.beq (R0 37 i) (77 + 4 * i)) = true := by decide
/-- a book of the pile, or the book -/
def BkFg (h : HP) (a f : Nat) (o : Nat → Nat) : Prop := hI h a 3 = nI f ∧ f ≤ 4 ∧ (∀ y, y < f → hI h (a + 2) y = nI (o y)) ∧ (∀ y, y < f → o y < 6)
def BkDg (h : HP) (a n : Nat) (A : Nat → Nat) (D : Nat → DD) : Prop := hI h a 1 = nI n ∧ n ≤ 12 ∧ (∀ k, k < n → hR h (a + 1) k = some (A k) ∧ DealC h (A k) (D k))
def rcp (h : HP) (a : Nat) (A : Nat → Nat) : Nat → HP
  | 0 => h
  | k + 1 => wR (rcp h a A k) a k (some (A k))
theorem rcp_F {h : HP} (F : Fx h) {a : Nat} {A : Nat → Nat} (z : R0l.getD (a - 32) [] = []) : ∀ k, Fx (rcp h a A k) := by
  intro k
  induction k with
  | zero => exact F
  | succ k ih => exact ih.wR z
theorem rcp_I {h : HP} {a : Nat} {A : Nat → Nat} : ∀ k, hI (rcp h a A k) = hI h ∧ hL (rcp h a A k) = hL h ∧ hT (rcp h a A k) = hT h ∧ hN (rcp h a A k) = hN h ∧ hZ (rcp h a A k) = hZ h := by
  intro k
  induction k with
  | zero => exact ⟨rfl, rfl, rfl, rfl, rfl⟩
  | succ k ih => exact ih
theorem rcp_o {h : HP} {a b : Nat} {A : Nat → Nat} (q : b ≠ a) : ∀ k, hR (rcp h a A k) b = hR h b := by
  intro k
  induction k with
  | zero => rfl
  | succ k ih => exact (funext fun i => up2_a q).trans ih
theorem rcp_s {h : HP} {a : Nat} {A : Nat → Nat} : ∀ k j, j < k → hR (rcp h a A k) a j = some (A j) := by
  intro k
  induction k with
  | zero => intro j hj; omega
  | succ k ih =>
    intro j hj
    by_cases q : j = k
    · subst q
      exact up2_s
    · exact (up2_i q).trans (ih j (by omega))
theorem cpI_o {h : HP} {a b sp dp m x : Nat} (q : x ≠ b) : hI (cpI h a b sp dp m) x = hI h x := funext fun j => if_neg q
theorem cpI_s {h : HP} {a b m j : Nat} (q : j < m) : hI (cpI h a b 0 0 m) b j = hI h a j := by
  show (if b = b then va_cpy (hI h a) (hI h b) 0 0 m j else _) = _
  rw [if_pos rfl]
  unfold va_cpy
  rw [if_pos ⟨Nat.zero_le _, by omega⟩]
  congr 1
  omega
def bm1 (h : HP) (a b n : Nat) (A : Nat → Nat) : HP := cpI (rcp (wI h a 1 (nI n)) (a + 1) A n) (b + 2) (a + 2) 0 0 4
def bm2 (h : HP) (a b n : Nat) (A : Nat → Nat) : HP := wI (bm1 h a b n A) a 3 (hI (bm1 h a b n A) b 3)
def bm3 (h : HP) (a b n : Nat) (A : Nat → Nat) : HP := cpI (bm2 h a b n A) (b + 3) (a + 3) 0 0 3
/-- a book becomes another -/
def bmH (h : HP) (a b n : Nat) (A : Nat → Nat) : HP := wI (bm3 h a b n A) a 5 (hI (bm3 h a b n A) b 5)
theorem zX0_become (X : EX) {h : HP} (F : Fx h) {a b : Nat} (ha : a ∈ bkL) (hb : b ∈ bkL) (hab : a ≠ b) {n : Nat} {A : Nat → Nat} {D : Nat → DD} (hB : BkDg h b n A D) : Ct X mX0_become 1 0 0 [vR (some a), vR (some b)] h (Rv (bmH h a b n A)) := by
  refine ct_of rfl (Nat.le_of_ble_eq_true rfl) ?_
  have hn12 := hB.2.1
  have hx := bk12 a ha b hb
  have hy := bk12 b hb a ha
  have hd4 := hx.2.2.2.1 hab
  have loop : ∀ (m : Nat) (k : Nat), k + m = n → Ev X mX0_become 1 0 0 (Rv (bmH h a b n A)) 0 0 10 [(0, some (vR (some a))), (1, some (vR (some b))), (2, some (vI (nI k)))] [] (rcp (wI h a 1 (nI n)) (a + 1) A k) := by
    intro m
    induction m with
    | zero =>
      intro k hk
      obtain rfl : n = k := by omega
      have FZ : Fx (rcp (wI h a 1 (nI n)) (a + 1) A n) := rcp_F (h := wI h a 1 (nI n)) F (bk11 a ha) n
      refine e_iload_n aX0_become_10 rfl ?_
      refine e_aload_n aX0_become_11 rfl ?_
      refine e_getIF aX0_become_12 fX0_28 rfl (fx_is FZ (bk1 a ha)) (show hI (rcp (wI h a 1 (nI n)) (a + 1) A n) a 1 = nI n by rw [(rcp_I n).1]; exact wI_s) ?_
      refine e_icmp_ge aX0_become_15 (fun c15 => ?_) (fun c15 => ?_)
      · -- 15: taken
        refine e_aload_n aX0_become_36 rfl ?_
        refine e_getRF aX0_become_37 fX0_17 rfl (fx_is FZ (bk1 b hb)) (fx_r FZ (bk7 b hb)) ?_
        refine e_iconst (v := 0) aX0_become_40 (by decide) ?_
        refine e_aload_n aX0_become_41 rfl ?_
        refine e_getRF aX0_become_42 fX0_17 rfl (fx_is FZ (bk1 a ha)) (fx_r FZ (bk7 a ha)) ?_
        refine e_iconst (v := 0) aX0_become_45 (by decide) ?_
        refine e_iconst (v := 4) aX0_become_46 (by decide) ?_
        refine e_copyI aX0_become_47 kX0_31 w_acpN w_acpS w_acpI (fx_is FZ (bk5 b hb)) (fx_is FZ (bk5 a ha)) (by decide) (by decide) (by decide) (by rw [fx_n FZ (bk6 b hb)]; decide) (by rw [fx_n FZ (bk6 a ha)]; decide) (Nat.le_of_ble_eq_true rfl) (Nat.le_of_ble_eq_true rfl) ?_
        refine e_hp (h2 := bm1 h a b n A) rfl ?_
        have FZ : Fx (bm1 h a b n A) := FZ
        refine e_aload_n aX0_become_50 rfl ?_
        refine e_aload_n aX0_become_51 rfl ?_
        refine e_getI aX0_become_52 fX0_37 rfl (fx_is FZ (bk1 b hb)) ?_
        refine e_putI aX0_become_55 fX0_37 rfl (fx_is FZ (bk1 a ha)) (Or.inl rfl) ?_
        refine e_hp (h2 := bm2 h a b n A) rfl ?_
        have FZ : Fx (bm2 h a b n A) := FZ
        refine e_aload_n aX0_become_58 rfl ?_
        refine e_getRF aX0_become_59 fX0_21 rfl (fx_is FZ (bk1 b hb)) (fx_r FZ (bk10 b hb)) ?_
        refine e_iconst (v := 0) aX0_become_62 (by decide) ?_
        refine e_aload_n aX0_become_63 rfl ?_
        refine e_getRF aX0_become_64 fX0_21 rfl (fx_is FZ (bk1 a ha)) (fx_r FZ (bk10 a ha)) ?_
        refine e_iconst (v := 0) aX0_become_67 (by decide) ?_
        refine e_iconst (v := 3) aX0_become_68 (by decide) ?_
        refine e_copyI aX0_become_69 kX0_31 w_acpN w_acpS w_acpI (fx_is FZ (bk8 b hb)) (fx_is FZ (bk8 a ha)) (by decide) (by decide) (by decide) (by rw [fx_n FZ (bk9 b hb)]; decide) (by rw [fx_n FZ (bk9 a ha)]; decide) (Nat.le_of_ble_eq_true rfl) (Nat.le_of_ble_eq_true rfl) ?_
        refine e_hp (h2 := bm3 h a b n A) rfl ?_
        have FZ : Fx (bm3 h a b n A) := FZ
        refine e_aload_n aX0_become_72 rfl ?_
        refine e_aload_n aX0_become_73 rfl ?_
        refine e_getI aX0_become_74 fX0_24 rfl (fx_is FZ (bk1 b hb)) ?_
        refine e_putI aX0_become_77 fX0_24 rfl (fx_is FZ (bk1 a ha)) (Or.inl rfl) ?_
        refine e_return aX0_become_80 rfl (Nat.le_refl _) (Nat.le_refl _) ?_
        exact ⟨rfl, rfl⟩
      · -- 15: not taken
        exact absurd (nI_le (by omega) (by omega)) c15
    | succ m ih =>
      intro k hk
      have FZ : Fx (rcp (wI h a 1 (nI n)) (a + 1) A k) := rcp_F (h := wI h a 1 (nI n)) F (bk11 a ha) k
      refine e_iload_n aX0_become_10 rfl ?_
      refine e_aload_n aX0_become_11 rfl ?_
      refine e_getIF aX0_become_12 fX0_28 rfl (fx_is FZ (bk1 a ha)) (show hI (rcp (wI h a 1 (nI n)) (a + 1) A k) a 1 = nI n by rw [(rcp_I k).1]; exact wI_s) ?_
      refine e_icmp_ge aX0_become_15 (fun c15 => ?_) (fun c15 => ?_)
      · -- 15: taken
        exact absurd c15 (nI_ge (by omega) (by omega))
      · -- 15: not taken
        refine e_aload_n aX0_become_18 rfl ?_
        refine e_getRF aX0_become_19 fX0_11 rfl (fx_is FZ (bk1 a ha)) (fx_r FZ (bk4 a ha)) ?_
        refine e_iload_n aX0_become_22 rfl ?_
        refine e_aload_n aX0_become_23 rfl ?_
        refine e_getRF aX0_become_24 fX0_11 rfl (fx_is FZ (bk1 b hb)) (fx_r FZ (bk4 b hb)) ?_
        refine e_iload_n aX0_become_27 rfl ?_
        refine e_aaloadF (t := 17) aX0_become_28 (fx_is FZ (bk2 b hb)) (by decide) (by decide) (fx_n FZ (bk3 b hb)) (vin (N := 12) (by omega)) (show hR (rcp (wI h a 1 (nI n)) (a + 1) A k) (b + 1) (nI k).toNatClampNeg = some (A k) by rw [cl (by omega), rcp_o (by omega)]; exact (hB.2.2 k (by omega)).1) ?_
        have hkd := (hB.2.2 k (by omega)).2
        refine e_aastoreF (t := 17) aX0_become_29 (fx_is FZ (bk2 a ha)) (by decide) (by decide) (show Is (rcp (wI h a 1 (nI n)) (a + 1) A k) (A k) 2 from ⟨hkd.2.1.1, by rw [(rcp_I k).2.2.2.2]; exact hkd.2.1.2.1, by rw [(rcp_I k).2.2.1]; exact hkd.2.1.2.2⟩) (fx_n FZ (bk3 a ha)) (vin (N := 12) (by omega)) ?_
        rw [cl (by omega)]
        refine e_iinc aX0_become_30 rfl rfl (Nat.le_of_ble_eq_true rfl) ?_
        refine e_goto aX0_become_33 ?_
        refine e_ls (ls' := [(0, some (vR (some a))), (1, some (vR (some b))), (2, some (vI (nI (k + 1))))]) ⟨rfl, rfl, congrArg (fun x => some (vI x)) (nI_1 k), trivial⟩ ?_
        exact ih (k + 1) (by omega)
  refine e_aload_n aX0_become_0 rfl ?_
  refine e_aload_n aX0_become_1 rfl ?_
  refine e_getIF aX0_become_2 fX0_28 rfl (fx_is F (bk1 b hb)) hB.1 ?_
  refine e_putI aX0_become_5 fX0_28 rfl (fx_is F (bk1 a ha)) (Or.inl rfl) ?_
  refine e_iconst (v := 0) aX0_become_8 (by decide) ?_
  refine e_istore_n aX0_become_9 (Nat.le_of_ble_eq_true rfl) ?_
  refine e_ls (ls' := [(0, some (vR (some a))), (1, some (vR (some b))), (2, some (vI (nI 0)))]) ⟨rfl, rfl, rfl, trivial⟩ ?_
  exact loop n 0 (by omega)
