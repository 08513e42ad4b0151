/-! contracts: prune, chain, hand, owners, sure, chance, least (written by wip/p45/g25.py) -/
def kA {α : Type} (P : Nat → Bool) (A : Nat → α) : Nat → Nat → α
  | 0 => A
  | k + 1 => if P k = true then fun j => if j = cnW P 0 k then A k else kA P A k j else kA P A k
theorem kA_ge {α : Type} {P : Nat → Bool} {A : Nat → α} : ∀ (k j : Nat), k ≤ j → kA P A k j = A j := by
  intro k
  induction k with
  | zero => intro j _; rfl
  | succ k ih =>
    intro j hj
    unfold kA
    have := cnW_le (P := P) (a := 0) k
    split
    · show (if j = cnW P 0 k then A k else kA P A k j) = A j
      rw [if_neg (by omega)]
      exact ih j (by omega)
    · exact ih j (by omega)
def prH (h : HP) (P : Nat → Bool) (A : Nat → Nat) : Nat → HP
  | 0 => h
  | k + 1 => if P k = true then wR (prH h P A k) 34 (cnW P 0 k) (some (A k)) else prH h P A k
theorem prH_F {h : HP} (F : Fx h) {P : Nat → Bool} {A : Nat → Nat} : ∀ k, Fx (prH h P A k) := by
  intro k
  induction k with
  | zero => exact F
  | succ k ih =>
    unfold prH
    split
    · exact ih.wR rfl
    · exact ih
theorem prH_I {h : HP} {P : Nat → Bool} {A : Nat → Nat} : ∀ k, hI (prH h P A k) = hI h := by
  intro k
  induction k with
  | zero => rfl
  | succ k ih =>
    unfold prH
    split
    · exact ih
    · exact ih
theorem prH_B {h : HP} {P : Nat → Bool} {A : Nat → Nat} {D : Nat → DD} {n : Nat} (b : BkD h n A D) : ∀ k, k ≤ n → BkD (prH h P A k) n (kA P A k) (kA P D k) := by
  intro k
  induction k with
  | zero => intro _; exact b
  | succ k ih =>
    intro hk
    have z := ih (by omega)
    have zk := z.2.2 k (by omega)
    rw [kA_ge k k (Nat.le_refl _), kA_ge k k (Nat.le_refl _)] at zk
    have hc := cnW_le (P := P) (a := 0) k
    by_cases q : P k = true
    · have e1 : prH h P A (k + 1) = wR (prH h P A k) 34 (cnW P 0 k) (some (A k)) := if_pos q
      have e2 : kA P A (k + 1) = fun j => if j = cnW P 0 k then A k else kA P A k j := if_pos q
      have e3 : kA P D (k + 1) = fun j => if j = cnW P 0 k then D k else kA P D k j := if_pos q
      rw [e1, e2, e3]
      refine ⟨z.1, z.2.1, fun j hj => ?_⟩
      by_cases qj : j = cnW P 0 k
      · simp only [if_pos qj]
        subst qj
        exact ⟨up2_s, zk.2.up (Up.wR (by decide))⟩
      · simp only [if_neg qj]
        exact ⟨(up2_i qj).trans (z.2.2 j hj).1, (z.2.2 j hj).2.up (Up.wR (by decide))⟩
    · have e1 : prH h P A (k + 1) = prH h P A k := if_neg q
      have e2 : kA P A (k + 1) = kA P A k := if_neg q
      have e3 : kA P D (k + 1) = kA P D k := if_neg q
      rw [e1, e2, e3]
      exact z
/-- a DEAL conveys somewhere under an OPEN STANDING -/
def kpP (D : Nat → DD) (a m : Nat) (k : Nat) : Bool := decide (0 < cnW (gvS (D k)) a m)
theorem zX8_prune (X : EX) {h : HP} (F : Fx h) {f n : Nat} {o : Nat → Nat} {A : Nat → Nat} {D : Nat → DD} (bf : BkF h f o) (b : BkD h n A D) : Ct X mX8_prune 3 0 0 [vR (some 32)] h (Rt (vI (nI (n - cnW (kpP D (fo o f) (om f)) 0 n))) (wI (prH h (kpP D (fo o f) (om f)) A n) 33 1 (nI (cnW (kpP D (fo o f) (om f)) 0 n)))) := by
  refine ct_of rfl (Nat.le_of_ble_eq_true rfl) ?_
  have hb6 := om_fo bf.2.1 bf.2.2.2
  have hn12 := b.2.1
  have loop : ∀ (m : Nat) (k : Nat), k + m = n → Ev X mX8_prune 3 0 0 (Rt (vI (nI (n - cnW (kpP D (fo o f) (om f)) 0 n))) (wI (prH h (kpP D (fo o f) (om f)) A n) 33 1 (nI (cnW (kpP D (fo o f) (om f)) 0 n)))) 0 0 12 [(0, some (vR (some 32))), (1, some (vI (nI (cnW (kpP D (fo o f) (om f)) 0 k)))), (2, some (vI (nI n))), (3, some (vI (nI k)))] [] (prH h (kpP D (fo o f) (om f)) A k) := by
    intro m
    induction m with
    | zero =>
      intro k hk
      obtain rfl : k = n := by omega
      have hkn := cnW_le (P := (kpP D (fo o f) (om f))) (a := 0) k
      have FP := prH_F (P := (kpP D (fo o f) (om f))) (A := A) F k
      refine e_iload_n aX8_prune_12 rfl ?_
      refine e_iload_n aX8_prune_13 rfl ?_
      refine e_icmp_ge aX8_prune_14 (fun c14 => ?_) (fun c14 => ?_)
      · -- 14: taken
        refine e_aload_n aX8_prune_61 rfl ?_
        refine e_getRF aX8_prune_62 fX8_10 rfl (fx_is FP rfl) (fx_r (b := 33) FP rfl) ?_
        refine e_iload_n aX8_prune_65 rfl ?_
        refine e_putI aX8_prune_66 fX8_101 rfl (fx_is FP rfl) (Or.inl rfl) ?_
        refine e_iload_n aX8_prune_69 rfl ?_
        refine e_iload_n aX8_prune_70 rfl ?_
        refine e_isub aX8_prune_71 ?_
        refine e_top (nI_subN (cnW_le _)) ?_
        refine e_ireturn aX8_prune_72 rfl (Nat.le_refl _) (Nat.le_refl _) ?_
        exact ⟨rfl, rfl⟩
      · -- 14: not taken
        exact absurd (nI_le (by omega) (by omega)) c14
    | succ m ih =>
      intro k hk
      have hkn := cnW_le (P := (kpP D (fo o f) (om f))) (a := 0) k
      have hkm := cnW_le (P := gvS (D k)) (a := fo o f) (om f)
      have FP := prH_F (P := (kpP D (fo o f) (om f))) (A := A) F k
      have BP := prH_B (P := (kpP D (fo o f) (om f))) b k (by omega)
      have bfP : BkF (prH h (kpP D (fo o f) (om f)) A k) f o := bf.up (fun j => by rw [prH_I]) (fun j => by rw [prH_I])
      have kdP := (BP.2.2 k (by omega)).2
      rw [kA_ge k k (Nat.le_refl _), kA_ge k k (Nat.le_refl _)] at kdP
      refine e_iload_n aX8_prune_12 rfl ?_
      refine e_iload_n aX8_prune_13 rfl ?_
      refine e_icmp_ge aX8_prune_14 (fun c14 => ?_) (fun c14 => ?_)
      · -- 14: taken
        exact absurd c14 (nI_ge (by omega) (by omega))
      · -- 14: not taken
        refine e_aload_n aX8_prune_17 rfl ?_
        refine e_getRF aX8_prune_18 fX8_10 rfl (fx_is FP rfl) (fx_r (b := 33) FP rfl) ?_
        refine e_iload_n aX8_prune_21 rfl ?_
        refine e_invvT aX8_prune_22 kX8_128 (zX0_dealAt_in X FP BP (k := k) (by omega)) rfl rfl (fx_is FP rfl) (Nat.le_of_ble_eq_true rfl) (Nat.le_of_ble_eq_true rfl) (Nat.le_refl _) (Nat.le_refl _) (Nat.le_of_ble_eq_true rfl) ?_
        rw [kA_ge k k (Nat.le_refl _)]
        refine e_astore aX8_prune_25 (Nat.le_of_ble_eq_true rfl) ?_
        refine e_aload aX8_prune_27 rfl ?_
        refine e_ifnull aX8_prune_29 (fun c29 => ?_) (fun r29 c29 => ?_)
        · -- 29: taken
          exact absurd c29 (by simp)
        · -- 29: not taken
          refine e_aload_n aX8_prune_32 rfl ?_
          refine e_aload aX8_prune_33 rfl ?_
          refine e_invvT aX8_prune_35 kX8_153 (zX8_countConveying X FP bfP kdP) rfl rfl (fx_is FP rfl) (Nat.le_of_ble_eq_true rfl) (Nat.le_of_ble_eq_true rfl) (Nat.le_refl _) (Nat.le_refl _) (Nat.le_of_ble_eq_true rfl) ?_
          refine e_if_le aX8_prune_38 (fun c38 => ?_) (fun c38 => ?_)
          · -- 38: taken
            have q38 : (kpP D (fo o f) (om f)) k = false := decide_eq_false (fun z => absurd c38 (Int32.not_le.mpr (nI_lt (a := 0) z (by omega))))
            refine e_iinc aX8_prune_55 rfl rfl (Nat.le_of_ble_eq_true rfl) ?_
            refine e_goto aX8_prune_58 ?_
            refine e_ls (ls' := [(0, some (vR (some 32))), (1, some (vI (nI (cnW (kpP D (fo o f) (om f)) 0 (k + 1))))), (2, some (vI (nI n))), (3, some (vI (nI (k + 1))))]) ⟨rfl, congrArg (fun x => some (vI x)) (congrArg nI (cnW_f (P := (kpP D (fo o f) (om f))) (a := 0) (m := k) (by rw [Nat.zero_add]; exact q38)).symm), rfl, congrArg (fun x => some (vI x)) (nI_1 k), trivial⟩ ?_
            refine e_hp (h2 := (prH h (kpP D (fo o f) (om f)) A (k + 1))) (if_neg (by rw [q38]; decide)).symm ?_
            exact ih (k + 1) (by omega)
          · -- 38: not taken
            have q38 : (kpP D (fo o f) (om f)) k = true := decide_eq_true (by
              rcases Nat.eq_zero_or_pos (cnW (gvS (D k)) (fo o f) (om f)) with z | z
              · exact absurd (by rw [z]; decide) c38
              · exact z)
            refine e_aload_n aX8_prune_41 rfl ?_
            refine e_getRF aX8_prune_42 fX8_10 rfl (fx_is FP rfl) (fx_r (b := 33) FP rfl) ?_
            refine e_getRF aX8_prune_45 fX8_166 rfl (fx_is FP rfl) (fx_r (b := 34) FP rfl) ?_
            refine e_iload_n aX8_prune_48 rfl ?_
            refine e_aload aX8_prune_49 rfl ?_
            refine e_aastoreF (t := 17) aX8_prune_51 (fx_is FP rfl) (by decide) (by decide) kdP.2.1 (fx_n (n := 12) FP rfl) (vin (N := 12) (by omega)) ?_
            rw [cl (by omega)]
            refine e_iinc aX8_prune_52 rfl rfl (Nat.le_of_ble_eq_true rfl) ?_
            refine e_iinc aX8_prune_55 rfl rfl (Nat.le_of_ble_eq_true rfl) ?_
            refine e_goto aX8_prune_58 ?_
            refine e_ls (ls' := [(0, some (vR (some 32))), (1, some (vI (nI (cnW (kpP D (fo o f) (om f)) 0 (k + 1))))), (2, some (vI (nI n))), (3, some (vI (nI (k + 1))))]) ⟨rfl, congrArg (fun x => some (vI x)) ((nI_1 _).trans (congrArg nI (cnW_t (P := (kpP D (fo o f) (om f))) (a := 0) (m := k) (by rw [Nat.zero_add]; exact q38)).symm)), rfl, congrArg (fun x => some (vI x)) (nI_1 k), trivial⟩ ?_
            refine e_hp (h2 := (prH h (kpP D (fo o f) (om f)) A (k + 1))) (if_pos q38).symm ?_
            exact ih (k + 1) (by omega)
  refine e_iconst (v := 0) aX8_prune_0 (by decide) ?_
  refine e_istore_n aX8_prune_1 (Nat.le_of_ble_eq_true rfl) ?_
  refine e_aload_n aX8_prune_2 rfl ?_
  refine e_getRF aX8_prune_3 fX8_10 rfl (fx_is F rfl) (fx_r (b := 33) F rfl) ?_
  refine e_getIF aX8_prune_6 fX8_101 rfl (fx_is F rfl) b.1 ?_
  refine e_istore_n aX8_prune_9 (Nat.le_of_ble_eq_true rfl) ?_
  refine e_iconst (v := 0) aX8_prune_10 (by decide) ?_
  refine e_istore_n aX8_prune_11 (Nat.le_of_ble_eq_true rfl) ?_
  refine e_ls (ls' := [(0, some (vR (some 32))), (1, some (vI (nI (cnW (kpP D (fo o f) (om f)) 0 0)))), (2, some (vI (nI n))), (3, some (vI (nI 0)))]) ⟨rfl, rfl, rfl, rfl, trivial⟩ ?_
  exact loop n 0 (by omega)
/-- the last CLUB and the length of a chain, walked until it is x long -/
def chn (D : Nat → DD) (s p : Nat) (x : Int32) : Nat → Nat → Nat → Nat → Nat × Nat
  | _, 0, c, l => (c, l)
  | k, m + 1, c, l => if nI l = x then (c, l) else match tk (D k) s p with
    | none => chn D s p x (k + 1) m c l
    | some t => chn D s p x (k + 1) m t (l + 1)
theorem chn_s {D : Nat → DD} {s p : Nat} {x : Int32} {k m cz lz : Nat} : chn D s p x k (m + 1) cz lz = if nI lz = x then (cz, lz) else match tk (D k) s p with
    | none => chn D s p x (k + 1) m cz lz
    | some t => chn D s p x (k + 1) m t (lz + 1) := rfl
theorem zX8_chain (X : EX) {h : HP} (F : Fx h) {f n : Nat} {o : Nat → Nat} {A : Nat → Nat} {D : Nat → DD} (bf : BkF h f o) (b : BkD h n A D) (x y w : Int32) : Ct X mX8_chain 3 0 0 [vR (some 32), vI x, vI y, vI w] h (if nI (fo o f) ≤ x ∧ x < nI (fo o f + om f) then if y < 0 ∨ 12 ≤ y then RF h 0 else (if w = -1 then Rt (vI (nI (chn D x.toNatClampNeg y.toNatClampNeg (w + 1) 0 n (y.toNatClampNeg % 3) 1).2)) h else if nI (chn D x.toNatClampNeg y.toNatClampNeg (w + 1) 0 n (y.toNatClampNeg % 3) 1).2 = w + 1 then Rt (vI (nI (chn D x.toNatClampNeg y.toNatClampNeg (w + 1) 0 n (y.toNatClampNeg % 3) 1).1)) h else RF h 3) else RF h 0) := by
  refine ct_of rfl (Nat.le_of_ble_eq_true rfl) ?_
  have hb6 := om_fo bf.2.1 bf.2.2.2
  have hn12 := b.2.1
  refine e_aload_n aX8_chain_0 rfl ?_
  refine e_getRF aX8_chain_1 fX8_10 rfl (fx_is F rfl) (fx_r (b := 33) F rfl) ?_
  refine e_iload_n aX8_chain_4 rfl ?_
  refine e_invvT aX8_chain_5 kX8_169 (zX0_isOpen X F bf _) rfl rfl (fx_is F rfl) (Nat.le_of_ble_eq_true rfl) (Nat.le_of_ble_eq_true rfl) (Nat.le_refl _) (Nat.le_refl _) (Nat.le_of_ble_eq_true rfl) ?_
  refine e_if_eq aX8_chain_8 (fun c8 => ?_) (fun c8 => ?_)
  · -- 8: taken
    have q8 := b2_0.mp c8
    refine e_aload_n aX8_chain_20 rfl ?_
    refine e_iconst (v := 0) aX8_chain_21 (by decide) ?_
    refine e_invvT aX8_chain_22 kX8_62 (zfin X (k := 0) F (by decide)) rfl rfl (fx_is F rfl) (Nat.le_of_ble_eq_true rfl) (Nat.le_of_ble_eq_true rfl) (Nat.le_refl _) (Nat.le_refl _) (Nat.le_of_ble_eq_true rfl) ?_
    refine e_ireturn aX8_chain_25 rfl (Nat.le_refl _) (Nat.le_refl _) ?_
    rw [if_neg q8]
    exact ⟨rfl, rfl⟩
  · -- 8: not taken
    have q8 := Decidable.of_not_not (fun z => c8 (b2_0.mpr z))
    obtain ⟨sz, hs1, hs2, rfl⟩ := opn_of (Nat.le_add_right _ _) hb6 q8
    refine e_iload_n aX8_chain_11 rfl ?_
    refine e_bipush (v := 12) aX8_chain_12 (by decide) ?_
    refine e_invsT aX8_chain_14 kX8_58 (zX8_isOutside X _ _) rfl rfl (Nat.le_of_ble_eq_true rfl) (Nat.le_of_ble_eq_true rfl) (Nat.le_refl _) (Nat.le_refl _) (Nat.le_of_ble_eq_true rfl) ?_
    refine e_if_eq aX8_chain_17 (fun c17 => ?_) (fun c17 => ?_)
    · -- 17: taken
      have q17 := b2_0.mp c17
      obtain ⟨pz, hp, rfl⟩ := ou_of 12 (by decide) q17
      rw [if_pos q8, if_neg q17, cl (by omega), cl (by omega)]
      have hs : sz < 1296 := by omega
      have tail : ∀ (cz lz : Nat), (chn D sz pz (w + 1) 0 n (pz % 3) 1) = (cz, lz) → Ev X mX8_chain 3 0 0 (if w = -1 then Rt (vI (nI (chn D sz pz (w + 1) 0 n (pz % 3) 1).2)) h else if nI (chn D sz pz (w + 1) 0 n (pz % 3) 1).2 = w + 1 then Rt (vI (nI (chn D sz pz (w + 1) 0 n (pz % 3) 1).1)) h else RF h 3) 0 0 104 [(0, some (vR (some 32))), (3, some (vI w)), (4, some (vI (nI cz))), (5, some (vI (nI lz)))] [] h := by
        intro cz lz hR9
        refine e_iload_n aX8_chain_104 rfl ?_
        refine e_iconst (v := -1) aX8_chain_105 (by decide) ?_
        refine e_icmp_ne aX8_chain_106 (fun c106 => ?_) (fun c106 => ?_)
        · -- 106: taken
          have q106 : ¬ w = -1 := c106
          refine e_iload aX8_chain_112 rfl ?_
          refine e_iload_n aX8_chain_114 rfl ?_
          refine e_iconst (v := 1) aX8_chain_115 (by decide) ?_
          refine e_iadd aX8_chain_116 ?_
          refine e_icmp_ne aX8_chain_117 (fun c117 => ?_) (fun c117 => ?_)
          · -- 117: taken
            have q117 : ¬ nI lz = w + 1 := c117
            refine e_aload_n aX8_chain_125 rfl ?_
            refine e_iconst (v := 3) aX8_chain_126 (by decide) ?_
            refine e_invvT aX8_chain_127 kX8_62 (zfin X (k := 3) F (by decide)) rfl rfl (fx_is F rfl) (Nat.le_of_ble_eq_true rfl) (Nat.le_of_ble_eq_true rfl) (Nat.le_refl _) (Nat.le_refl _) (Nat.le_of_ble_eq_true rfl) ?_
            refine e_ireturn aX8_chain_130 rfl (Nat.le_refl _) (Nat.le_refl _) ?_
            rw [hR9, if_neg q106, if_neg q117]
            exact ⟨rfl, rfl⟩
          · -- 117: not taken
            have q117 : nI lz = w + 1 := c117
            refine e_iload aX8_chain_120 rfl ?_
            refine e_goto aX8_chain_122 ?_
            refine e_ireturn aX8_chain_130 rfl (Nat.le_refl _) (Nat.le_refl _) ?_
            rw [hR9, if_neg q106, if_pos q117]
            exact ⟨rfl, rfl⟩
        · -- 106: not taken
          have q106 : w = -1 := c106
          refine e_iload aX8_chain_109 rfl ?_
          refine e_ireturn aX8_chain_111 rfl (Nat.le_refl _) (Nat.le_refl _) ?_
          rw [hR9, if_pos q106]
          exact ⟨rfl, rfl⟩
      have loop : ∀ (m : Nat) (k cz lz : Nat), k + m = n → chn D sz pz (w + 1) k m cz lz = (chn D sz pz (w + 1) 0 n (pz % 3) 1) → Ev X mX8_chain 3 0 0 (if w = -1 then Rt (vI (nI (chn D sz pz (w + 1) 0 n (pz % 3) 1).2)) h else if nI (chn D sz pz (w + 1) 0 n (pz % 3) 1).2 = w + 1 then Rt (vI (nI (chn D sz pz (w + 1) 0 n (pz % 3) 1).1)) h else RF h 3) 0 0 37 [(0, some (vR (some 32))), (1, some (vI (nI sz))), (2, some (vI (nI pz))), (3, some (vI w)), (4, some (vI (nI cz))), (5, some (vI (nI lz))), (6, some (vI (nI k)))] [] h := by
        intro m
        induction m with
        | zero =>
          intro k cz lz hk hR9
          obtain rfl : n = k := by omega
          refine e_iload aX8_chain_37 rfl ?_
          refine e_aload_n aX8_chain_39 rfl ?_
          refine e_getRF aX8_chain_40 fX8_10 rfl (fx_is F rfl) (fx_r (b := 33) F rfl) ?_
          refine e_getIF aX8_chain_43 fX8_101 rfl (fx_is F rfl) b.1 ?_
          refine e_icmp_ge aX8_chain_46 (fun c46 => ?_) (fun c46 => ?_)
          · -- 46: taken
            refine e_ls (ls' := [(0, some (vR (some 32))), (3, some (vI w)), (4, some (vI (nI cz))), (5, some (vI (nI lz)))]) ⟨rfl, rfl, rfl, rfl, trivial⟩ ?_
            exact tail cz lz hR9.symm
          · -- 46: not taken
            exact absurd (nI_le (by omega) (by omega)) c46
        | succ m ih =>
          intro k cz lz hk hR9
          have htk : ∀ p, tk (D k) sz pz = some p → p < 1073741824 := fun p q => by have := (tk_lt (b.2.2 k (by omega)).2.2.2.1 q).1; omega
          refine e_iload aX8_chain_37 rfl ?_
          refine e_aload_n aX8_chain_39 rfl ?_
          refine e_getRF aX8_chain_40 fX8_10 rfl (fx_is F rfl) (fx_r (b := 33) F rfl) ?_
          refine e_getIF aX8_chain_43 fX8_101 rfl (fx_is F rfl) b.1 ?_
          refine e_icmp_ge aX8_chain_46 (fun c46 => ?_) (fun c46 => ?_)
          · -- 46: taken
            exact absurd c46 (nI_ge (by omega) (by omega))
          · -- 46: not taken
            refine e_iload aX8_chain_49 rfl ?_
            refine e_iload_n aX8_chain_51 rfl ?_
            refine e_iconst (v := 1) aX8_chain_52 (by decide) ?_
            refine e_iadd aX8_chain_53 ?_
            refine e_icmp_eq aX8_chain_54 (fun c54 => ?_) (fun c54 => ?_)
            · -- 54: taken
              have q54 : nI lz = w + 1 := c54
              refine e_ls (ls' := [(0, some (vR (some 32))), (3, some (vI w)), (4, some (vI (nI cz))), (5, some (vI (nI lz)))]) ⟨rfl, rfl, rfl, rfl, trivial⟩ ?_
              exact tail cz lz (by rw [← hR9, chn_s, if_pos q54])
            · -- 54: not taken
              have q54 : ¬ nI lz = w + 1 := c54
              refine e_aload_n aX8_chain_57 rfl ?_
              refine e_getRF aX8_chain_58 fX8_10 rfl (fx_is F rfl) (fx_r (b := 33) F rfl) ?_
              refine e_iload aX8_chain_61 rfl ?_
              refine e_invvT aX8_chain_63 kX8_128 (zX0_dealAt_in X F b (k := k) (by omega)) rfl rfl (fx_is F rfl) (Nat.le_of_ble_eq_true rfl) (Nat.le_of_ble_eq_true rfl) (Nat.le_refl _) (Nat.le_refl _) (Nat.le_of_ble_eq_true rfl) ?_
              refine e_astore aX8_chain_66 (Nat.le_of_ble_eq_true rfl) ?_
              refine e_aload aX8_chain_68 rfl ?_
              refine e_ifnonnull aX8_chain_70 (fun r70 c70 => ?_) (fun c70 => ?_)
              · -- 70: taken
                refine e_aload aX8_chain_77 rfl ?_
                refine e_iload_n aX8_chain_79 rfl ?_
                refine e_iload_n aX8_chain_80 rfl ?_
                refine e_invvT aX8_chain_81 kX8_175 (zX1_takerOf X (b.2.2 k (by omega)).2 hs hp) rfl rfl (b.2.2 k (by omega)).2.2.1 (Nat.le_of_ble_eq_true rfl) (Nat.le_of_ble_eq_true rfl) (Nat.le_refl _) (Nat.le_refl _) (Nat.le_of_ble_eq_true rfl) ?_
                refine e_istore aX8_chain_84 (Nat.le_of_ble_eq_true rfl) ?_
                refine e_iload aX8_chain_86 rfl ?_
                refine e_if_lt aX8_chain_88 (fun c88 => ?_) (fun c88 => ?_)
                · -- 88: taken
                  have q88 := (oI_neg (q := tk (D k) sz pz) htk).mp c88
                  refine e_iinc aX8_chain_98 rfl rfl (Nat.le_of_ble_eq_true rfl) ?_
                  refine e_goto aX8_chain_101 ?_
                  refine e_ls (ls' := [(0, some (vR (some 32))), (1, some (vI (nI sz))), (2, some (vI (nI pz))), (3, some (vI w)), (4, some (vI (nI cz))), (5, some (vI (nI lz))), (6, some (vI (nI (k + 1))))]) ⟨rfl, rfl, rfl, rfl, rfl, rfl, congrArg (fun x => some (vI x)) (nI_1 k), trivial⟩ ?_
                  exact ih (k + 1) cz lz (by omega) (by rw [← hR9, chn_s, if_neg q54, q88])
                · -- 88: not taken
                  obtain ⟨tz, q88⟩ := Option.ne_none_iff_exists'.mp ((not_congr (oI_neg (q := tk (D k) sz pz) htk)).mp c88)
                  refine e_iload aX8_chain_91 rfl ?_
                  refine e_istore aX8_chain_93 (Nat.le_of_ble_eq_true rfl) ?_
                  refine e_iinc aX8_chain_95 rfl rfl (Nat.le_of_ble_eq_true rfl) ?_
                  refine e_iinc aX8_chain_98 rfl rfl (Nat.le_of_ble_eq_true rfl) ?_
                  refine e_goto aX8_chain_101 ?_
                  refine e_ls (ls' := [(0, some (vR (some 32))), (1, some (vI (nI sz))), (2, some (vI (nI pz))), (3, some (vI w)), (4, some (vI (nI tz))), (5, some (vI (nI (lz + 1)))), (6, some (vI (nI (k + 1))))]) ⟨rfl, rfl, rfl, rfl, congrArg (fun x => some (vI (oI x))) q88, congrArg (fun x => some (vI x)) (nI_1 lz), congrArg (fun x => some (vI x)) (nI_1 k), trivial⟩ ?_
                  exact ih (k + 1) tz (lz + 1) (by omega) (by rw [← hR9, chn_s, if_neg q54, q88])
              · -- 70: not taken
                exact absurd c70 (by simp)
      refine e_iload_n aX8_chain_26 rfl ?_
      refine e_iconst (v := 3) aX8_chain_27 (by decide) ?_
      refine e_irem aX8_chain_28 (by decide) ?_
      refine e_top (nI_rem (b := 3) (by omega) (by decide) (by decide)) ?_
      refine e_istore aX8_chain_29 (Nat.le_of_ble_eq_true rfl) ?_
      refine e_iconst (v := 1) aX8_chain_31 (by decide) ?_
      refine e_istore aX8_chain_32 (Nat.le_of_ble_eq_true rfl) ?_
      refine e_iconst (v := 0) aX8_chain_34 (by decide) ?_
      refine e_istore aX8_chain_35 (Nat.le_of_ble_eq_true rfl) ?_
      refine e_ls (ls' := [(0, some (vR (some 32))), (1, some (vI (nI sz))), (2, some (vI (nI pz))), (3, some (vI w)), (4, some (vI (nI (pz % 3)))), (5, some (vI (nI 1))), (6, some (vI (nI 0)))]) ⟨rfl, rfl, rfl, rfl, rfl, rfl, rfl, trivial⟩ ?_
      exact loop n 0 (pz % 3) 1 (by omega) rfl
    · -- 17: not taken
      have q17 := Decidable.of_not_not (fun z => c17 (b2_0.mpr z))
      refine e_aload_n aX8_chain_20 rfl ?_
      refine e_iconst (v := 0) aX8_chain_21 (by decide) ?_
      refine e_invvT aX8_chain_22 kX8_62 (zfin X (k := 0) F (by decide)) rfl rfl (fx_is F rfl) (Nat.le_of_ble_eq_true rfl) (Nat.le_of_ble_eq_true rfl) (Nat.le_refl _) (Nat.le_refl _) (Nat.le_of_ble_eq_true rfl) ?_
      refine e_ireturn aX8_chain_25 rfl (Nat.le_refl _) (Nat.le_refl _) ?_
      rw [if_pos q8, if_pos q17]
      exact ⟨rfl, rfl⟩
