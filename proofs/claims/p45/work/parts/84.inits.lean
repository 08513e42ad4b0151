/-! constructors: small ones (written by wip/p45/g84.py) -/
/-- one more cell, its address told -/
def nwk (k : Nat) (h : HP) (t n : Nat) : HP := (fun b j => if b = k then 0 else hI h b j, fun b j => if b = k then 0 else hL h b j, fun b j => if b = k then none else hR h b j, fun b => if b = k then t else hT h b, fun b => if b = k then n else hN h b, k + 1)
theorem nwk_e {k : Nat} {h : HP} {t n : Nat} (e : hZ h = k) : nw h t n = nwk k h t n := by subst e; rfl
/-- the first fixed cells stand -/
def Pz (k : Nat) (h : HP) : Prop := hZ h = k ∧ ∀ a, 32 ≤ a → a < k → hT h a = T0 a ∧ hN h a = N0 a
theorem Pz.n {k : Nat} {h : HP} {t n : Nat} (P : Pz k h) (ht : T0 k = t) (hn : N0 k = n) : Pz (k + 1) (nwk k h t n) := ⟨rfl, fun a h1 h2 => by
  by_cases z : a = k
  · rw [z]
    exact ⟨(if_pos rfl).trans ht.symm, (if_pos rfl).trans hn.symm⟩
  · exact ⟨(if_neg z).trans (P.2 a h1 (by omega)).1, (if_neg z).trans (P.2 a h1 (by omega)).2⟩⟩
theorem Pz.i {k : Nat} {h : HP} (P : Pz k h) {b j : Nat} {v : Int32} : Pz k (wI h b j v) := P
theorem Pz.l {k : Nat} {h : HP} (P : Pz k h) {b j : Nat} {v : Int64} : Pz k (wL h b j v) := P
theorem Pz.r {k : Nat} {h : HP} (P : Pz k h) {b j : Nat} {v : Option Nat} : Pz k (wR h b j v) := P
theorem Pz.is9 {k a t : Nat} {h : HP} (P : Pz k h) (h1 : 32 ≤ a) (h2 : a < k) (h3 : T0 a = t) : Is h a t := ⟨h1, Nat.lt_of_lt_of_eq h2 P.1.symm, (P.2 a h1 h2).1.trans h3⟩
theorem Pz.n9 {k a n : Nat} {h : HP} (P : Pz k h) (h1 : 32 ≤ a) (h2 : a < k) (h3 : N0 a = n) : hN h a = n := (P.2 a h1 h2).2.trans h3
theorem pz_is {k : Nat} {h : HP} (P : Pz k h) {a t : Nat} (h1 : (Nat.ble 32 a && Nat.blt a k && Nat.beq (T0 a) t) = true) : Is h a t := by
  simp only [Bool.and_eq_true] at h1
  obtain ⟨⟨h1, h2⟩, h3⟩ := h1
  exact P.is9 (Nat.le_of_ble_eq_true h1) (Nat.le_of_ble_eq_true h2) (Nat.eq_of_beq_eq_true h3)
theorem pz_n {k : Nat} {h : HP} {n : Nat} (P : Pz k h) {a : Nat} (h1 : (Nat.ble 32 a && Nat.blt a k && Nat.beq (N0 a) n) = true) : hN h a = n := by
  simp only [Bool.and_eq_true] at h1
  obtain ⟨⟨h1, h2⟩, h3⟩ := h1
  exact P.n9 (Nat.le_of_ble_eq_true h1) (Nat.le_of_ble_eq_true h2) (Nat.eq_of_beq_eq_true h3)
theorem e_pz {X : EX} {y : MD} {d mc ms : Nat} {Q : Option VV → HP → Prop} {cells slots pc : Nat} {ls : ZL} {st : List VV} {h : HP} {k : Nat} (P : Pz k h) (g : Pz k h → Ev X y d mc ms Q cells slots pc ls st h) : Ev X y d mc ms Q cells slots pc ls st h := g P
/-- a new Book -/
def bk0 (h : HP) (r : Nat) : HP := wI (wR (wI (wI (wI (nwk (r + 3) (wR (nwk (r + 2) (wR (nwk (r + 1) h 17 12) r 0 (some (r + 1))) 13 4) r 2 (some (r + 2))) 13 3) (r + 3) 0 8) (r + 3) 1 4) (r + 3) 2 2) r 4 (some (r + 3))) r 5 1
theorem zX0_init (X : EX) {h : HP} {r : Nat} (P : Pz (r + 1) h) (h32 : 32 ≤ r) (ht : T0 r = 1 ∧ T0 (r + 1) = 17 ∧ N0 (r + 1) = 12 ∧ T0 (r + 2) = 13 ∧ N0 (r + 2) = 4 ∧ T0 (r + 3) = 13 ∧ N0 (r + 3) = 3) : Ct X mX0_init 1 3 19 [vR (some r)] h (Rv (bk0 h r)) := by
  refine ct_of rfl (Nat.le_of_ble_eq_true rfl) ?_
  refine e_aload_n aX0_init_0 rfl ?_
  refine e_objInit aX0_init_1 kX0_3 w_objI w_objC (Nat.le_of_ble_eq_true rfl) (Nat.le_of_ble_eq_true rfl) ?_
  refine e_aload_n aX0_init_4 rfl ?_
  refine e_bipush (v := 12) aX0_init_5 (by decide) ?_
  refine e_newR (t := 17) aX0_init_7 (Nat.le_of_ble_eq_true rfl) (Nat.le_of_ble_eq_true rfl) cX0_9 (by decide) rfl (Nat.le_of_ble_eq_true rfl) (Nat.le_of_ble_eq_true rfl) (Nat.le_of_ble_eq_true rfl) ?_
  refine e_topR (v := some (r + 1)) (congrArg some P.1) ?_
  refine e_hp (h2 := nwk (r + 1) _ 17 12) (nwk_e P.1) ?_
  refine e_pz (P.n ht.2.1 ht.2.2.1) ?_
  intro P
  refine e_putR aX0_init_10 fX0_11 rfl (P.is9 h32 (by omega) ht.1) (Or.inr ⟨rfl, fun r q => by cases q; rfl⟩) ?_
  refine e_pz P.r ?_
  intro P
  refine e_aload_n aX0_init_13 rfl ?_
  refine e_iconst (v := 4) aX0_init_14 (by decide) ?_
  refine e_newI aX0_init_15 wa_int (by decide) rfl (Nat.le_of_ble_eq_true rfl) (Nat.le_of_ble_eq_true rfl) (Nat.le_of_ble_eq_true rfl) ?_
  refine e_topR (v := some (r + 2)) (congrArg some P.1) ?_
  refine e_hp (h2 := nwk (r + 2) _ 13 4) (nwk_e P.1) ?_
  refine e_pz (P.n ht.2.2.2.1 ht.2.2.2.2.1) ?_
  intro P
  refine e_putR aX0_init_17 fX0_17 rfl (P.is9 h32 (by omega) ht.1) (Or.inr ⟨rfl, fun r q => by cases q; rfl⟩) ?_
  refine e_pz P.r ?_
  intro P
  refine e_aload_n aX0_init_20 rfl ?_
  refine e_iconst (v := 3) aX0_init_21 (by decide) ?_
  refine e_newI aX0_init_22 wa_int (by decide) rfl (Nat.le_of_ble_eq_true rfl) (Nat.le_of_ble_eq_true rfl) (Nat.le_of_ble_eq_true rfl) ?_
  refine e_topR (v := some (r + 3)) (congrArg some P.1) ?_
  refine e_hp (h2 := nwk (r + 3) _ 13 3) (nwk_e P.1) ?_
  refine e_pz (P.n ht.2.2.2.2.2.1 ht.2.2.2.2.2.2) ?_
  intro P
  refine e_dup aX0_init_24 rfl ?_
  refine e_iconst (v := 0) aX0_init_25 (by decide) ?_
  refine e_bipush (v := 8) aX0_init_26 (by decide) ?_
  refine e_iastoreF aX0_init_28 (P.is9 (by omega) (by omega) ht.2.2.2.2.2.1) (P.n9 (by omega) (by omega) ht.2.2.2.2.2.2) (vin (n := 0) (N := 3) (by decide)) ?_
  refine e_pz P.i ?_
  intro P
  refine e_dup aX0_init_29 rfl ?_
  refine e_iconst (v := 1) aX0_init_30 (by decide) ?_
  refine e_iconst (v := 4) aX0_init_31 (by decide) ?_
  refine e_iastoreF aX0_init_32 (P.is9 (by omega) (by omega) ht.2.2.2.2.2.1) (P.n9 (by omega) (by omega) ht.2.2.2.2.2.2) (vin (n := 1) (N := 3) (by decide)) ?_
  refine e_pz P.i ?_
  intro P
  refine e_dup aX0_init_33 rfl ?_
  refine e_iconst (v := 2) aX0_init_34 (by decide) ?_
  refine e_iconst (v := 2) aX0_init_35 (by decide) ?_
  refine e_iastoreF aX0_init_36 (P.is9 (by omega) (by omega) ht.2.2.2.2.2.1) (P.n9 (by omega) (by omega) ht.2.2.2.2.2.2) (vin (n := 2) (N := 3) (by decide)) ?_
  refine e_pz P.i ?_
  intro P
  refine e_putR aX0_init_37 fX0_21 rfl (P.is9 h32 (by omega) ht.1) (Or.inr ⟨rfl, fun r q => by cases q; rfl⟩) ?_
  refine e_pz P.r ?_
  intro P
  refine e_aload_n aX0_init_40 rfl ?_
  refine e_iconst (v := 1) aX0_init_41 (by decide) ?_
  refine e_putI aX0_init_42 fX0_24 rfl (P.is9 h32 (by omega) ht.1) (Or.inl rfl) ?_
  refine e_pz P.i ?_
  intro P
  refine e_return aX0_init_45 rfl (Nat.le_refl _) (Nat.le_refl _) ?_
  exact ⟨rfl, rfl⟩
theorem bk0_P {h : HP} {r : Nat} (P : Pz (r + 1) h) (ht : T0 r = 1 ∧ T0 (r + 1) = 17 ∧ N0 (r + 1) = 12 ∧ T0 (r + 2) = 13 ∧ N0 (r + 2) = 4 ∧ T0 (r + 3) = 13 ∧ N0 (r + 3) = 3) : Pz (r + 4) (bk0 h r) := ((P.n ht.2.1 ht.2.2.1).n ht.2.2.2.1 ht.2.2.2.2.1).n ht.2.2.2.2.2.1 ht.2.2.2.2.2.2
theorem zX2_init (X : EX) {h : HP} (P : Pz 39 h) : Ct X mX2_init 1 1 1296 [vR (some 38)] h (Rv (wR (nwk 39 h 13 1296) 38 0 (some 39))) := by
  refine ct_of rfl (Nat.le_of_ble_eq_true rfl) ?_
  refine e_aload_n aX2_init_0 rfl ?_
  refine e_objInit aX2_init_1 kX2_3 w_objI w_objC (Nat.le_of_ble_eq_true rfl) (Nat.le_of_ble_eq_true rfl) ?_
  refine e_aload_n aX2_init_4 rfl ?_
  refine e_sipush (v := 1296) aX2_init_5 (by decide) ?_
  refine e_newI aX2_init_8 wa_int (by decide) rfl (Nat.le_of_ble_eq_true rfl) (Nat.le_of_ble_eq_true rfl) (Nat.le_of_ble_eq_true rfl) ?_
  refine e_topR (v := some (39)) (congrArg some P.1) ?_
  refine e_hp (h2 := nwk (39) _ 13 1296) (nwk_e P.1) ?_
  refine e_pz (P.n rfl rfl) ?_
  intro P
  refine e_putR aX2_init_10 fX2_9 rfl (pz_is P rfl) (Or.inr ⟨rfl, fun r q => by cases q; rfl⟩) ?_
  refine e_pz P.r ?_
  intro P
  refine e_return aX2_init_13 rfl (Nat.le_refl _) (Nat.le_refl _) ?_
  exact ⟨rfl, rfl⟩
theorem zX7_init (X : EX) {h : HP} (P : Pz 42 h) : Ct X mX7_init 1 1 120 [vR (some 41)] h (Rv (wR (nwk 42 h 12 120) 41 0 (some 42))) := by
  refine ct_of rfl (Nat.le_of_ble_eq_true rfl) ?_
  refine e_aload_n aX7_init_0 rfl ?_
  refine e_objInit aX7_init_1 kX7_3 w_objI w_objC (Nat.le_of_ble_eq_true rfl) (Nat.le_of_ble_eq_true rfl) ?_
  refine e_aload_n aX7_init_4 rfl ?_
  refine e_bipush (v := 120) aX7_init_5 (by decide) ?_
  refine e_newB aX7_init_7 wa_byte (by decide) rfl (Nat.le_of_ble_eq_true rfl) (Nat.le_of_ble_eq_true rfl) (Nat.le_of_ble_eq_true rfl) ?_
  refine e_topR (v := some (42)) (congrArg some P.1) ?_
  refine e_hp (h2 := nwk (42) _ 12 120) (nwk_e P.1) ?_
  refine e_pz (P.n rfl rfl) ?_
  intro P
  refine e_putR aX7_init_9 fX7_9 rfl (pz_is P rfl) (Or.inr ⟨rfl, fun r q => by cases q; rfl⟩) ?_
  refine e_pz P.r ?_
  intro P
  refine e_return aX7_init_12 rfl (Nat.le_refl _) (Nat.le_refl _) ?_
  exact ⟨rfl, rfl⟩
theorem zX5_init (X : EX) {h : HP} {r : Nat} (P : Pz (r + 1) h) (h32 : 32 ≤ r) (ht : T0 r = 6 ∧ T0 (r + 1) = 14 ∧ N0 (r + 1) = 40) : Ct X mX5_init 1 1 40 [vR (some r)] h (Rv (wI (wR (nwk (r + 1) h 14 40) r 0 (some (r + 1))) r 1 (-1))) := by
  refine ct_of rfl (Nat.le_of_ble_eq_true rfl) ?_
  refine e_aload_n aX5_init_0 rfl ?_
  refine e_objInit aX5_init_1 kX5_3 w_objI w_objC (Nat.le_of_ble_eq_true rfl) (Nat.le_of_ble_eq_true rfl) ?_
  refine e_aload_n aX5_init_4 rfl ?_
  refine e_bipush (v := 40) aX5_init_5 (by decide) ?_
  refine e_newL aX5_init_7 wa_long (by decide) rfl (Nat.le_of_ble_eq_true rfl) (Nat.le_of_ble_eq_true rfl) (Nat.le_of_ble_eq_true rfl) ?_
  refine e_topR (v := some (r + 1)) (congrArg some P.1) ?_
  refine e_hp (h2 := nwk (r + 1) _ 14 40) (nwk_e P.1) ?_
  refine e_pz (P.n ht.2.1 ht.2.2) ?_
  intro P
  refine e_putR aX5_init_9 fX5_9 rfl (P.is9 h32 (by omega) ht.1) (Or.inr ⟨rfl, fun r q => by cases q; rfl⟩) ?_
  refine e_pz P.r ?_
  intro P
  refine e_aload_n aX5_init_12 rfl ?_
  refine e_iconst (v := -1) aX5_init_13 (by decide) ?_
  refine e_putI aX5_init_14 fX5_15 rfl (P.is9 h32 (by omega) ht.1) (Or.inl rfl) ?_
  refine e_pz P.i ?_
  intro P
  refine e_return aX5_init_17 rfl (Nat.le_refl _) (Nat.le_refl _) ?_
  exact ⟨rfl, rfl⟩
/-- the rows of sets -/
def spH (h : HP) : Nat → HP
  | 0 => h
  | k + 1 => wR (wR (nwk (46 + 2 * k) (nwk (45 + 2 * k) (spH h k) 7 0) 14 21) (45 + 2 * k) 0 (some (46 + 2 * k))) 44 k (some (45 + 2 * k))
theorem sp_T : ∀ k, k < 14 → (T0 (45 + 2 * k) = 7 ∧ N0 (45 + 2 * k) = 0) ∧ T0 (46 + 2 * k) = 14 ∧ N0 (46 + 2 * k) = 21 := by decide
theorem spH_P {h : HP} (P : Pz 45 h) : ∀ k, k ≤ 14 → Pz (45 + 2 * k) (spH h k) := by
  intro k
  induction k with
  | zero => exact fun _ => P
  | succ k ih =>
    intro hk
    have q := sp_T k (by omega)
    have h9 := (((ih (by omega)).n q.1.1 q.1.2).n (show T0 (45 + 2 * k + 1) = 14 by rw [show 45 + 2 * k + 1 = 46 + 2 * k by omega]; exact q.2.1) (show N0 (45 + 2 * k + 1) = 21 by rw [show 45 + 2 * k + 1 = 46 + 2 * k by omega]; exact q.2.2))
    rw [show 45 + 2 * k + 1 = 46 + 2 * k by omega] at h9
    rw [show 45 + 2 * (k + 1) = 46 + 2 * k + 1 by omega]
    exact h9
theorem spH_I {h : HP} {a i : Nat} (ha : a < 45) : ∀ k, hI (spH h k) a i = hI h a i := by
  intro k
  induction k with
  | zero => rfl
  | succ k ih => exact (if_neg (by omega)).trans ((if_neg (by omega)).trans ih)
theorem spH_R {h : HP} {a i : Nat} (ha : a < 44) : ∀ k, hR (spH h k) a i = hR h a i := by
  intro k
  induction k with
  | zero => rfl
  | succ k ih => exact (up2_a (by omega)).trans ((up2_a (by omega)).trans ((if_neg (by omega)).trans ((if_neg (by omega)).trans ih)))
/-- a new Reader -/
def rdI (h : HP) : HP := wR (nwk 44 (wR (nwk 43 (wR (wR (nwk 42 (nwk 41 h 8 0) 12 120) 41 0 (some 42)) 40 0 (some 41)) 17 12) 40 1 (some 43)) 19 14) 40 3 (some 44)
theorem rdI_P {h : HP} (P : Pz 41 h) : Pz 45 (rdI h) := (((P.n rfl rfl).n rfl rfl).n rfl rfl).n rfl rfl
theorem zX3_init (X : EX) {h : HP} (P0 : Pz 41 h) : Ct X mX3_init 2 32 458 [vR (some 40)] h (Rv (spH (rdI h) 14)) := by
  refine ct_of rfl (Nat.le_of_ble_eq_true rfl) ?_
  have loop : ∀ (m i : Nat), i + m = 14 → Ev X mX3_init 2 32 458 (Rv (spH (rdI h) 14)) (4 + 2 * i) (150 + 22 * i) 35 [(0, some (vR (some 40))), (1, some (vI (nI i)))] [] (spH (rdI h) i) := by
    intro m
    induction m with
    | zero =>
      intro i hk
      have P : Pz (45 + 2 * i) (spH (rdI h) i) := spH_P (rdI_P P0) i (by omega)
      have k44 : Is (spH (rdI h) i) 44 19 := P.is9 (by decide) (by omega) rfl
      have n44 : hN (spH (rdI h) i) 44 = 14 := P.n9 (by decide) (by omega) rfl
      have k40 : Is (spH (rdI h) i) 40 4 := P.is9 (by decide) (by omega) rfl
      refine e_iload_n aX3_init_35 rfl ?_
      refine e_aload_n aX3_init_36 rfl ?_
      refine e_getRF aX3_init_37 fX3_26 rfl k40 (show hR (spH (rdI h) i) 40 3 = some 44 from (spH_R (by decide) i).trans rfl) ?_
      refine e_alen (t := 19) aX3_init_40 k44 (Nat.le_of_ble_eq_true rfl) (Nat.le_of_ble_eq_true rfl) (by decide) ?_
      refine e_top (v := nI 14) (congrArg Int32.ofNat n44) ?_
      refine e_icmp_ge aX3_init_41 (fun c41 => ?_) (fun c41 => ?_)
      · -- 41: taken
        refine e_return aX3_init_63 rfl (by omega) (by omega) ?_
        obtain rfl : i = 14 := by omega
        exact ⟨rfl, rfl⟩
      · -- 41: not taken
        exact absurd (nI_le (a := 14) (b := i) (by omega) (by omega)) c41
    | succ m ih =>
      intro i hk
      have q := sp_T i (by omega)
      have P : Pz (45 + 2 * i) (spH (rdI h) i) := spH_P (rdI_P P0) i (by omega)
      have k44 : Is (spH (rdI h) i) 44 19 := P.is9 (by decide) (by omega) rfl
      have n44 : hN (spH (rdI h) i) 44 = 14 := P.n9 (by decide) (by omega) rfl
      have k40 : Is (spH (rdI h) i) 40 4 := P.is9 (by decide) (by omega) rfl
      refine e_iload_n aX3_init_35 rfl ?_
      refine e_aload_n aX3_init_36 rfl ?_
      refine e_getRF aX3_init_37 fX3_26 rfl k40 (show hR (spH (rdI h) i) 40 3 = some 44 from (spH_R (by decide) i).trans rfl) ?_
      refine e_alen (t := 19) aX3_init_40 k44 (Nat.le_of_ble_eq_true rfl) (Nat.le_of_ble_eq_true rfl) (by decide) ?_
      refine e_top (v := nI 14) (congrArg Int32.ofNat n44) ?_
      refine e_icmp_ge aX3_init_41 (fun c41 => ?_) (fun c41 => ?_)
      · -- 41: taken
        exact absurd c41 (nI_ge (a := i) (b := 14) (by omega) (by decide))
      · -- 41: not taken
        refine e_aload_n aX3_init_44 rfl ?_
        refine e_getRF aX3_init_45 fX3_26 rfl k40 (show hR (spH (rdI h) i) 40 3 = some 44 from (spH_R (by decide) i).trans rfl) ?_
        refine e_iload_n aX3_init_48 rfl ?_
        refine e_new aX3_init_49 nX3_24 (by omega) (show 150 + 22 * i + 1 ≤ 458 by omega) ?_
        refine e_topR (v := some (45 + 2 * i)) (congrArg some P.1) ?_
        refine e_hp (h2 := nwk (45 + 2 * i) _ 7 0) (nwk_e P.1) ?_
        refine e_pz (P.n q.1.1 q.1.2) ?_
        intro P
        refine e_dup aX3_init_52 rfl ?_
        refine e_inviN aX3_init_53 kX3_30 (zX6_init X (r := 45 + 2 * i) (P.is9 (by omega) (by omega) q.1.1) P.1) rfl rfl (Nat.le_of_ble_eq_true rfl) (Nat.le_of_ble_eq_true rfl) (by omega) (show 150 + 22 * i + 1 + 21 ≤ 458 by omega) (Nat.le_of_ble_eq_true rfl) ?_
        rintro v h2 ⟨rfl, rfl⟩
        refine e_hp (h2 := wR (nwk (46 + 2 * i) (nwk (45 + 2 * i) (spH (rdI h) i) 7 0) 14 21) (45 + 2 * i) 0 (some (46 + 2 * i))) (by rw [nwk_e (k := 46 + 2 * i) (P.1.trans (by omega)), show 45 + 2 * i + 1 = 46 + 2 * i by omega]) ?_
        have P2 := P.n (show T0 (45 + 2 * i + 1) = 14 by rw [show 45 + 2 * i + 1 = 46 + 2 * i by omega]; exact q.2.1) (show N0 (45 + 2 * i + 1) = 21 by rw [show 45 + 2 * i + 1 = 46 + 2 * i by omega]; exact q.2.2)
        rw [show 45 + 2 * i + 1 = 46 + 2 * i by omega] at P2
        refine e_pz (k := 46 + 2 * i + 1) P2.r ?_
        intro P
        refine e_aastoreF (t := 19) aX3_init_56 (P.is9 (by decide) (by omega) rfl) (by decide) (by decide) (P.is9 (by omega) (by omega) q.1.1) (P.n9 (by decide) (by omega) rfl) (vin (N := 14) (by omega)) ?_
        rw [cl (n := i) (by omega)]
        refine e_iinc aX3_init_57 rfl rfl (Nat.le_of_ble_eq_true rfl) ?_
        refine e_goto aX3_init_60 ?_
        refine e_ls (ls' := [(0, some (vR (some 40))), (1, some (vI (nI (i + 1))))]) ⟨rfl, congrArg (fun x => some (vI x)) (nI_1 i), trivial⟩ ?_
        exact ih (i + 1) (by omega)
  have P := P0
  refine e_aload_n aX3_init_0 rfl ?_
  refine e_objInit aX3_init_1 kX3_3 w_objI w_objC (Nat.le_of_ble_eq_true rfl) (Nat.le_of_ble_eq_true rfl) ?_
  refine e_aload_n aX3_init_4 rfl ?_
  refine e_new aX3_init_5 nX3_9 (Nat.le_of_ble_eq_true rfl) (Nat.le_of_ble_eq_true rfl) ?_
  refine e_topR (v := some (41)) (congrArg some P.1) ?_
  refine e_hp (h2 := nwk (41) _ 8 0) (nwk_e P.1) ?_
  refine e_pz (P.n rfl rfl) ?_
  intro P
  refine e_dup aX3_init_8 rfl ?_
  refine e_inviN aX3_init_9 kX3_11 (zX7_init X (h := nwk 41 h 8 0) P) rfl rfl (Nat.le_of_ble_eq_true rfl) (Nat.le_of_ble_eq_true rfl) (Nat.le_of_ble_eq_true rfl) (Nat.le_of_ble_eq_true rfl) (Nat.le_of_ble_eq_true rfl) ?_
  rintro v h2 ⟨rfl, rfl⟩
  refine e_pz (k := 43) (P.n rfl rfl).r ?_
  intro P
  refine e_putR aX3_init_12 fX3_12 rfl (pz_is P rfl) (Or.inr ⟨rfl, fun r q => by cases q; rfl⟩) ?_
  refine e_pz P.r ?_
  intro P
  refine e_aload_n aX3_init_15 rfl ?_
  refine e_bipush (v := 12) aX3_init_16 (by decide) ?_
  refine e_newR (t := 17) aX3_init_18 (Nat.le_of_ble_eq_true rfl) (Nat.le_of_ble_eq_true rfl) cX3_18 (by decide) rfl (Nat.le_of_ble_eq_true rfl) (Nat.le_of_ble_eq_true rfl) (Nat.le_of_ble_eq_true rfl) ?_
  refine e_topR (v := some (43)) (congrArg some P.1) ?_
  refine e_hp (h2 := nwk (43) _ 17 12) (nwk_e P.1) ?_
  refine e_pz (P.n rfl rfl) ?_
  intro P
  refine e_putR aX3_init_21 fX3_20 rfl (pz_is P rfl) (Or.inr ⟨rfl, fun r q => by cases q; rfl⟩) ?_
  refine e_pz P.r ?_
  intro P
  refine e_aload_n aX3_init_24 rfl ?_
  refine e_bipush (v := 14) aX3_init_25 (by decide) ?_
  refine e_newR (t := 19) aX3_init_27 (Nat.le_of_ble_eq_true rfl) (Nat.le_of_ble_eq_true rfl) cX3_24 (by decide) rfl (Nat.le_of_ble_eq_true rfl) (Nat.le_of_ble_eq_true rfl) (Nat.le_of_ble_eq_true rfl) ?_
  refine e_topR (v := some (44)) (congrArg some P.1) ?_
  refine e_hp (h2 := nwk (44) _ 19 14) (nwk_e P.1) ?_
  refine e_pz (P.n rfl rfl) ?_
  intro P
  refine e_putR aX3_init_30 fX3_26 rfl (pz_is P rfl) (Or.inr ⟨rfl, fun r q => by cases q; rfl⟩) ?_
  refine e_pz P.r ?_
  intro P
  refine e_iconst (v := 0) aX3_init_33 (by decide) ?_
  refine e_istore_n aX3_init_34 (Nat.le_of_ble_eq_true rfl) ?_
  refine e_ls (ls' := [(0, some (vR (some 40))), (1, some (vI (nI 0)))]) ⟨rfl, rfl, trivial⟩ ?_
  exact loop 14 0 rfl
