/-! contracts of the reference: helpers (written by wip/whole/g52.py) -/
theorem ct_post {X : EX} {y : MD} {d mc ms : Nat} {av : List VV} {h : HP} {Q Q' : Option VV → HP → Prop} (hc : Ct X y d mc ms av h Q) (hq : ∀ v h', Q v h' → Q' v h') : Ct X y d mc ms av h Q' := by
  intro p e ha hc' hk s m args below hf happ hp hk'
  obtain ⟨n, oc, h1, h2, h3, h4⟩ := hc p e ha hc' hk s m args below hf happ hp hk'
  obtain ⟨⟨⟨v, h', q1, q2, q3⟩, q4⟩, q5⟩ := h4
  exact ⟨n, oc, h1, h2, h3, ⟨⟨v, h', q1, hq v h' q2, q3⟩, q4⟩, q5⟩
theorem b2_c {p q : Prop} [Decidable p] [Decidable q] (e : p ↔ q) : b2 p = b2 q := by
  unfold b2
  by_cases h : p
  · rw [if_pos h, if_pos (e.mp h)]
  · rw [if_neg h, if_neg (fun z => h (e.mpr z))]
theorem lgc_lt {a b : Int64} : lg_cmp a b < 0 ↔ a < b := by
  unfold lg_cmp
  by_cases z : a > b
  · rw [if_pos z]
    refine ⟨fun q => absurd q (by decide), fun q => ?_⟩
    have z1 := Int64.lt_iff_toInt_lt.mp z
    have z2 := Int64.lt_iff_toInt_lt.mp q
    omega
  · rw [if_neg z]
    by_cases w : a = b
    · rw [if_pos w]
      subst w
      refine ⟨fun q => absurd q (by decide), fun q => absurd q z⟩
    · rw [if_neg w]
      refine ⟨fun _ => ?_, fun _ => by decide⟩
      have z1 : ¬ b.toInt < a.toInt := fun q => z (Int64.lt_iff_toInt_lt.mpr q)
      have w1 : ¬ a.toInt = b.toInt := fun q => w (Int64.toInt_inj.mp q)
      exact Int64.lt_iff_toInt_lt.mpr (by omega)
theorem lgc_gt {a b : Int64} : 0 < lg_cmp a b ↔ b < a := by
  unfold lg_cmp
  by_cases z : a > b
  · rw [if_pos z]
    exact ⟨fun _ => z, fun _ => by decide⟩
  · rw [if_neg z]
    refine ⟨fun q => ?_, fun q => absurd q z⟩
    by_cases w : a = b
    · rw [if_pos w] at q
      exact absurd q (by decide)
    · rw [if_neg w] at q
      exact absurd q (by decide)
theorem zX9_in (X : EX) {h : HP} (a b c : Int64) : Ct X mX9_in 0 0 0 [vL a, vL b, vL c] h (Rt (vI (b2 (b ≤ a ∧ a ≤ c))) h) := by
  refine ct_of rfl (Nat.le_of_ble_eq_true rfl) ?_
  refine e_lload_n aX9_in_0 rfl ?_
  refine e_lload_n aX9_in_1 rfl ?_
  refine e_lcmp aX9_in_2 ?_
  refine e_if_lt aX9_in_3 (fun c3 => ?_) (fun c3 => ?_)
  · -- 3: taken
    have q3 := lgc_lt.mp c3
    refine e_iconst (v := 0) aX9_in_17 (by decide) ?_
    refine e_zreturn aX9_in_18 rfl (by decide) (Nat.le_refl _) (Nat.le_refl _) ?_
    exact ⟨by rw [b2_f (fun z => absurd (Int64.lt_of_le_of_lt z.1 q3) Int64.lt_irrefl)], rfl⟩
  · -- 3: not taken
    have q3 := (not_congr lgc_lt).mp c3
    refine e_lload_n aX9_in_6 rfl ?_
    refine e_lload aX9_in_7 rfl ?_
    refine e_lcmp aX9_in_9 ?_
    refine e_if_gt aX9_in_10 (fun c10 => ?_) (fun c10 => ?_)
    · -- 10: taken
      have q10 := lgc_gt.mp c10
      refine e_iconst (v := 0) aX9_in_17 (by decide) ?_
      refine e_zreturn aX9_in_18 rfl (by decide) (Nat.le_refl _) (Nat.le_refl _) ?_
      exact ⟨by rw [b2_f (fun z => absurd (Int64.lt_of_le_of_lt z.2 q10) Int64.lt_irrefl)], rfl⟩
    · -- 10: not taken
      have q10 := (not_congr lgc_gt).mp c10
      refine e_iconst (v := 1) aX9_in_13 (by decide) ?_
      refine e_goto aX9_in_14 ?_
      refine e_zreturn aX9_in_18 rfl (by decide) (Nat.le_refl _) (Nat.le_refl _) ?_
      exact ⟨by rw [b2_t ⟨Int64.not_lt.mp q3, Int64.not_lt.mp q10⟩], rfl⟩
theorem zin (X : EX) {h : HP} (x a b : Int32) {la lb : Int64} (ha : a.toInt64 = la) (hb : b.toInt64 = lb) : Ct X mX9_in 0 0 0 [vL x.toInt64, vL la, vL lb] h (Rt (vI (b2 (a ≤ x ∧ x ≤ b))) h) := by
  have e : (la ≤ x.toInt64 ∧ x.toInt64 ≤ lb) ↔ (a ≤ x ∧ x ≤ b) := by
    rw [← ha, ← hb, Int64.le_iff_toInt_le, Int64.le_iff_toInt_le, Int32.le_iff_toInt_le, Int32.le_iff_toInt_le, Int32.toInt_toInt64, Int32.toInt_toInt64, Int32.toInt_toInt64]
  rw [← b2_c e]
  exact zX9_in X _ _ _
theorem zio (X : EX) {h : HP} (x : Int32) {N : Nat} {lb : Int64} (hN : 1 ≤ N) (hN2 : N ≤ 1073741824) (hb : lN (N - 1) = lb) : Ct X mX9_in 0 0 0 [vL x.toInt64, vL 0, vL lb] h (Rt (vI (b2 (¬ (x < 0 ∨ nI N ≤ x)))) h) := by
  have e : (0 ≤ x ∧ x ≤ nI (N - 1)) ↔ ¬ (x < 0 ∨ nI N ≤ x) := by
    rw [Int32.le_iff_toInt_le, Int32.le_iff_toInt_le, Int32.lt_iff_toInt_lt, Int32.le_iff_toInt_le, nI_toInt (by omega), nI_toInt (by omega)]
    show (0 ≤ x.toInt ∧ _) ↔ ¬ (x.toInt < 0 ∨ _)
    omega
  rw [← b2_c e]
  exact zin X x 0 (nI (N - 1)) rfl (by rw [nI_l (by omega)]; exact hb)
theorem zil (X : EX) {h : HP} (x : Int32) {n : Nat} (hn : n ≤ 1073741824) : Ct X mX9_in 0 0 0 [vL x.toInt64, vL 0, vL (nI n - 1).toInt64] h (Rt (vI (b2 (¬ (x < 0 ∨ nI n ≤ x)))) h) := by
  have e : (0 ≤ x ∧ x ≤ nI n - 1) ↔ ¬ (x < 0 ∨ nI n ≤ x) := by
    have e1 : (nI n - 1).toInt = (n : Int) - 1 := by
      by_cases z : n = 0
      · subst z; rfl
      · rw [show nI n - 1 = nI (n - 1) from nI_subN (b := 1) (by omega), nI_toInt (by omega)]; omega
    rw [Int32.le_iff_toInt_le, Int32.le_iff_toInt_le, Int32.lt_iff_toInt_lt, Int32.le_iff_toInt_le, e1, nI_toInt (by omega)]
    show (0 ≤ x.toInt ∧ _) ↔ ¬ (x.toInt < 0 ∨ _)
    omega
  rw [← b2_c e]
  exact zin X x 0 (nI n - 1) rfl rfl
/-- a finding of the reference -/
def fdM (h : HP) (k : Nat) : HP := wI h 110 k (hI h 110 k + 1)
def RM (h : HP) (k : Nat) : Option VV → HP → Prop := Rt (fv k) (fdM h k)
def RML (h : HP) (k : Nat) : Option VV → HP → Prop := Rt (vL (-1000000000000000001 - lN k)) (fdM h k)
theorem zX9_finds (X : EX) {h : HP} (F : Fx h) {k : Nat} (hk : k < 8) : Ct X mX9_finds 0 0 0 [vR (some 109), vI (nI k)] h (Rt (fv k) (fdM h k)) := by
  refine ct_of rfl (Nat.le_of_ble_eq_true rfl) ?_
  refine e_aload_n aX9_finds_0 rfl ?_
  refine e_getRF aX9_finds_1 fX9_7 rfl (fx_is F rfl) (fx_r (b := 110) F rfl) ?_
  refine e_iload_n aX9_finds_4 rfl ?_
  refine e_dup2 aX9_finds_5 rfl rfl ?_
  refine e_ialoadF aX9_finds_6 (fx_is F rfl) (fx_n (n := 8) F rfl) (vin hk) (by rw [cl (by omega)]) ?_
  refine e_iconst (v := 1) aX9_finds_7 (by decide) ?_
  refine e_iadd aX9_finds_8 ?_
  refine e_iastoreF aX9_finds_9 (fx_is F rfl) (fx_n (n := 8) F rfl) (vin hk) ?_
  rw [cl (by omega)]
  refine e_ldc aX9_finds_10 lX9_92 ?_
  refine e_iload_n aX9_finds_12 rfl ?_
  refine e_isub aX9_finds_13 ?_
  refine e_ireturn aX9_finds_14 rfl (Nat.le_refl _) (Nat.le_refl _) ?_
  exact ⟨rfl, rfl⟩
theorem zX9_findsFar (X : EX) {h : HP} (F : Fx h) {k : Nat} (hk : k < 8) : Ct X mX9_findsFar 0 0 0 [vR (some 109), vI (nI k)] h (Rt (vL (-1000000000000000001 - lN k)) (fdM h k)) := by
  refine ct_of rfl (Nat.le_of_ble_eq_true rfl) ?_
  refine e_aload_n aX9_findsFar_0 rfl ?_
  refine e_getRF aX9_findsFar_1 fX9_7 rfl (fx_is F rfl) (fx_r (b := 110) F rfl) ?_
  refine e_iload_n aX9_findsFar_4 rfl ?_
  refine e_dup2 aX9_findsFar_5 rfl rfl ?_
  refine e_ialoadF aX9_findsFar_6 (fx_is F rfl) (fx_n (n := 8) F rfl) (vin hk) (by rw [cl (by omega)]) ?_
  refine e_iconst (v := 1) aX9_findsFar_7 (by decide) ?_
  refine e_iadd aX9_findsFar_8 ?_
  refine e_iastoreF aX9_findsFar_9 (fx_is F rfl) (fx_n (n := 8) F rfl) (vin hk) ?_
  rw [cl (by omega)]
  refine e_ldc2 aX9_findsFar_10 lX9_93 ?_
  refine e_iload_n aX9_findsFar_13 rfl ?_
  refine e_i2l aX9_findsFar_14 ?_
  refine e_topL (nI_l (by omega)) ?_
  refine e_lsub aX9_findsFar_15 ?_
  refine e_lreturn aX9_findsFar_16 rfl (Nat.le_refl _) (Nat.le_refl _) ?_
  exact ⟨rfl, rfl⟩
theorem zX9_isStanding (X : EX) {h : HP} (x : Int32) : Ct X mX9_isStanding 1 0 0 [vI x] h (Rt (vI (b2 (¬ (x < 0 ∨ 1296 ≤ x)))) h) := by
  refine ct_of rfl (Nat.le_of_ble_eq_true rfl) ?_
  refine e_iload_n aX9_isStanding_0 rfl ?_
  refine e_i2l aX9_isStanding_1 ?_
  refine e_lconst (v := 0) aX9_isStanding_2 rfl ?_
  refine e_ldc2 aX9_isStanding_3 lX9_106 ?_
  refine e_invsT aX9_isStanding_6 kX9_108 (zio X _ (N := 1296) (by decide) (by decide) rfl) rfl rfl (Nat.le_of_ble_eq_true rfl) (Nat.le_of_ble_eq_true rfl) (Nat.le_refl _) (Nat.le_refl _) (Nat.le_of_ble_eq_true rfl) ?_
  refine e_zreturn aX9_isStanding_9 rfl b2_b (Nat.le_refl _) (Nat.le_refl _) ?_
  exact ⟨rfl, rfl⟩
theorem zX9_isPick (X : EX) {h : HP} (x : Int32) : Ct X mX9_isPick 1 0 0 [vI x] h (Rt (vI (b2 (¬ (x < 0 ∨ 12 ≤ x)))) h) := by
  refine ct_of rfl (Nat.le_of_ble_eq_true rfl) ?_
  refine e_iload_n aX9_isPick_0 rfl ?_
  refine e_i2l aX9_isPick_1 ?_
  refine e_lconst (v := 0) aX9_isPick_2 rfl ?_
  refine e_ldc2 aX9_isPick_3 lX9_112 ?_
  refine e_invsT aX9_isPick_6 kX9_108 (zio X _ (N := 12) (by decide) (by decide) rfl) rfl rfl (Nat.le_of_ble_eq_true rfl) (Nat.le_of_ble_eq_true rfl) (Nat.le_refl _) (Nat.le_refl _) (Nat.le_of_ble_eq_true rfl) ?_
  refine e_zreturn aX9_isPick_9 rfl b2_b (Nat.le_refl _) (Nat.le_refl _) ?_
  exact ⟨rfl, rfl⟩
theorem zX9_isClub (X : EX) {h : HP} (x : Int32) : Ct X mX9_isClub 1 0 0 [vI x] h (Rt (vI (b2 (¬ (x < 0 ∨ 3 ≤ x)))) h) := by
  refine ct_of rfl (Nat.le_of_ble_eq_true rfl) ?_
  refine e_iload_n aX9_isClub_0 rfl ?_
  refine e_i2l aX9_isClub_1 ?_
  refine e_lconst (v := 0) aX9_isClub_2 rfl ?_
  refine e_ldc2 aX9_isClub_3 lX9_114 ?_
  refine e_invsT aX9_isClub_6 kX9_108 (zio X _ (N := 3) (by decide) (by decide) rfl) rfl rfl (Nat.le_of_ble_eq_true rfl) (Nat.le_of_ble_eq_true rfl) (Nat.le_refl _) (Nat.le_refl _) (Nat.le_of_ble_eq_true rfl) ?_
  refine e_zreturn aX9_isClub_9 rfl b2_b (Nat.le_refl _) (Nat.le_refl _) ?_
  exact ⟨rfl, rfl⟩
theorem zX9_isSheet (X : EX) {h : HP} (x : Int32) : Ct X mX9_isSheet 1 0 0 [vI x] h (Rt (vI (b2 (¬ (x < 0 ∨ 4 ≤ x)))) h) := by
  refine ct_of rfl (Nat.le_of_ble_eq_true rfl) ?_
  refine e_iload_n aX9_isSheet_0 rfl ?_
  refine e_i2l aX9_isSheet_1 ?_
  refine e_lconst (v := 0) aX9_isSheet_2 rfl ?_
  refine e_ldc2 aX9_isSheet_3 lX9_142 ?_
  refine e_invsT aX9_isSheet_6 kX9_108 (zio X _ (N := 4) (by decide) (by decide) rfl) rfl rfl (Nat.le_of_ble_eq_true rfl) (Nat.le_of_ble_eq_true rfl) (Nat.le_refl _) (Nat.le_refl _) (Nat.le_of_ble_eq_true rfl) ?_
  refine e_zreturn aX9_isSheet_9 rfl b2_b (Nat.le_refl _) (Nat.le_refl _) ?_
  exact ⟨rfl, rfl⟩
theorem zX9_isSpot (X : EX) {h : HP} (x : Int32) : Ct X mX9_isSpot 1 0 0 [vI x] h (Rt (vI (b2 (¬ (x < 0 ∨ 4 ≤ x)))) h) := by
  refine ct_of rfl (Nat.le_of_ble_eq_true rfl) ?_
  refine e_iload_n aX9_isSpot_0 rfl ?_
  refine e_i2l aX9_isSpot_1 ?_
  refine e_lconst (v := 0) aX9_isSpot_2 rfl ?_
  refine e_ldc2 aX9_isSpot_3 lX9_142 ?_
  refine e_invsT aX9_isSpot_6 kX9_108 (zio X _ (N := 4) (by decide) (by decide) rfl) rfl rfl (Nat.le_of_ble_eq_true rfl) (Nat.le_of_ble_eq_true rfl) (Nat.le_refl _) (Nat.le_refl _) (Nat.le_of_ble_eq_true rfl) ?_
  refine e_zreturn aX9_isSpot_9 rfl b2_b (Nat.le_refl _) (Nat.le_refl _) ?_
  exact ⟨rfl, rfl⟩
theorem zX9_clubAt (X : EX) {h : HP} {a b : Nat} (ha : a < 6) (hb : b < 3) : Ct X mX9_clubAt 0 0 0 [vI (nI a), vI (nI b)] h (Rt (vI (nI (clubA a b))) h) := by
  refine ct_of rfl (Nat.le_of_ble_eq_true rfl) ?_
  refine e_iload_n aX9_clubAt_0 rfl ?_
  refine e_iconst (v := 2) aX9_clubAt_1 (by decide) ?_
  refine e_idiv aX9_clubAt_2 (by decide) ?_
  refine e_top (nI_div (b := 2) (by omega) (by decide) (by decide)) ?_
  refine e_istore_n aX9_clubAt_3 (Nat.le_of_ble_eq_true rfl) ?_
  refine e_iload_n aX9_clubAt_4 rfl ?_
  refine e_if_ne aX9_clubAt_5 (fun c5 => ?_) (fun c5 => ?_)
  · -- 5: taken
    refine e_iconst (v := 0) aX9_clubAt_12 (by decide) ?_
    refine e_istore_n aX9_clubAt_13 (Nat.le_of_ble_eq_true rfl) ?_
    refine e_iload_n aX9_clubAt_14 rfl ?_
    refine e_iconst (v := 2) aX9_clubAt_15 (by decide) ?_
    refine e_icmp_ne aX9_clubAt_16 (fun c16 => ?_) (fun c16 => ?_)
    · -- 16: taken
      refine e_iconst (v := 2) aX9_clubAt_23 (by decide) ?_
      refine e_istore aX9_clubAt_24 (Nat.le_of_ble_eq_true rfl) ?_
      refine e_iload_n aX9_clubAt_26 rfl ?_
      refine e_if_ne aX9_clubAt_27 (fun c27 => ?_) (fun c27 => ?_)
      · -- 27: taken
        refine e_iload_n aX9_clubAt_32 rfl ?_
        refine e_iconst (v := 1) aX9_clubAt_33 (by decide) ?_
        refine e_icmp_ne aX9_clubAt_34 (fun c34 => ?_) (fun c34 => ?_)
        · -- 34: taken
          refine e_iconst (v := 0) aX9_clubAt_41 (by decide) ?_
          refine e_iload_n aX9_clubAt_42 rfl ?_
          refine e_iconst (v := 2) aX9_clubAt_43 (by decide) ?_
          refine e_irem aX9_clubAt_44 (by decide) ?_
          refine e_top (nI_rem (b := 2) (by omega) (by decide) (by decide)) ?_
          refine e_if_ne aX9_clubAt_45 (fun c45 => ?_) (fun c45 => ?_)
          · -- 45: taken
            refine e_iconst (v := 0) aX9_clubAt_52 (by decide) ?_
            refine e_icmp_ne aX9_clubAt_53 (fun c53 => ?_) (fun c53 => ?_)
            · -- 53: taken
              refine e_iload aX9_clubAt_60 rfl ?_
              refine e_ireturn aX9_clubAt_62 rfl (Nat.le_refl _) (Nat.le_refl _) ?_
              refine ⟨?_, rfl⟩
              rcases (show a = 0 ∨ a = 1 ∨ a = 2 ∨ a = 3 ∨ a = 4 ∨ a = 5 by omega) with rfl | rfl | rfl | rfl | rfl | rfl <;> rcases (show b = 0 ∨ b = 1 ∨ b = 2 by omega) with rfl | rfl | rfl <;> first | rfl | exact absurd c5 (by decide) | exact absurd c16 (by decide) | exact absurd c27 (by decide) | exact absurd c34 (by decide) | exact absurd c45 (by decide) | exact absurd c53 (by decide)
            · -- 53: not taken
              refine e_iload_n aX9_clubAt_56 rfl ?_
              refine e_goto aX9_clubAt_57 ?_
              refine e_ireturn aX9_clubAt_62 rfl (Nat.le_refl _) (Nat.le_refl _) ?_
              refine ⟨?_, rfl⟩
              rcases (show a = 0 ∨ a = 1 ∨ a = 2 ∨ a = 3 ∨ a = 4 ∨ a = 5 by omega) with rfl | rfl | rfl | rfl | rfl | rfl <;> rcases (show b = 0 ∨ b = 1 ∨ b = 2 by omega) with rfl | rfl | rfl <;> first | rfl | exact absurd c5 (by decide) | exact absurd c16 (by decide) | exact absurd c27 (by decide) | exact absurd c34 (by decide) | exact absurd c45 (by decide) | exact absurd c53 (by decide)
          · -- 45: not taken
            refine e_iconst (v := 1) aX9_clubAt_48 (by decide) ?_
            refine e_goto aX9_clubAt_49 ?_
            refine e_icmp_ne aX9_clubAt_53 (fun c53 => ?_) (fun c53 => ?_)
            · -- 53: taken
              refine e_iload aX9_clubAt_60 rfl ?_
              refine e_ireturn aX9_clubAt_62 rfl (Nat.le_refl _) (Nat.le_refl _) ?_
              refine ⟨?_, rfl⟩
              rcases (show a = 0 ∨ a = 1 ∨ a = 2 ∨ a = 3 ∨ a = 4 ∨ a = 5 by omega) with rfl | rfl | rfl | rfl | rfl | rfl <;> rcases (show b = 0 ∨ b = 1 ∨ b = 2 by omega) with rfl | rfl | rfl <;> first | rfl | exact absurd c5 (by decide) | exact absurd c16 (by decide) | exact absurd c27 (by decide) | exact absurd c34 (by decide) | exact absurd c45 (by decide) | exact absurd c53 (by decide)
            · -- 53: not taken
              refine e_iload_n aX9_clubAt_56 rfl ?_
              refine e_goto aX9_clubAt_57 ?_
              refine e_ireturn aX9_clubAt_62 rfl (Nat.le_refl _) (Nat.le_refl _) ?_
              refine ⟨?_, rfl⟩
              rcases (show a = 0 ∨ a = 1 ∨ a = 2 ∨ a = 3 ∨ a = 4 ∨ a = 5 by omega) with rfl | rfl | rfl | rfl | rfl | rfl <;> rcases (show b = 0 ∨ b = 1 ∨ b = 2 by omega) with rfl | rfl | rfl <;> first | rfl | exact absurd c5 (by decide) | exact absurd c16 (by decide) | exact absurd c27 (by decide) | exact absurd c34 (by decide) | exact absurd c45 (by decide) | exact absurd c53 (by decide)
        · -- 34: not taken
          refine e_iconst (v := 1) aX9_clubAt_37 (by decide) ?_
          refine e_goto aX9_clubAt_38 ?_
          refine e_iload_n aX9_clubAt_42 rfl ?_
          refine e_iconst (v := 2) aX9_clubAt_43 (by decide) ?_
          refine e_irem aX9_clubAt_44 (by decide) ?_
          refine e_top (nI_rem (b := 2) (by omega) (by decide) (by decide)) ?_
          refine e_if_ne aX9_clubAt_45 (fun c45 => ?_) (fun c45 => ?_)
          · -- 45: taken
            refine e_iconst (v := 0) aX9_clubAt_52 (by decide) ?_
            refine e_icmp_ne aX9_clubAt_53 (fun c53 => ?_) (fun c53 => ?_)
            · -- 53: taken
              refine e_iload aX9_clubAt_60 rfl ?_
              refine e_ireturn aX9_clubAt_62 rfl (Nat.le_refl _) (Nat.le_refl _) ?_
              refine ⟨?_, rfl⟩
              rcases (show a = 0 ∨ a = 1 ∨ a = 2 ∨ a = 3 ∨ a = 4 ∨ a = 5 by omega) with rfl | rfl | rfl | rfl | rfl | rfl <;> rcases (show b = 0 ∨ b = 1 ∨ b = 2 by omega) with rfl | rfl | rfl <;> first | rfl | exact absurd c5 (by decide) | exact absurd c16 (by decide) | exact absurd c27 (by decide) | exact absurd c34 (by decide) | exact absurd c45 (by decide) | exact absurd c53 (by decide)
            · -- 53: not taken
              refine e_iload_n aX9_clubAt_56 rfl ?_
              refine e_goto aX9_clubAt_57 ?_
              refine e_ireturn aX9_clubAt_62 rfl (Nat.le_refl _) (Nat.le_refl _) ?_
              refine ⟨?_, rfl⟩
              rcases (show a = 0 ∨ a = 1 ∨ a = 2 ∨ a = 3 ∨ a = 4 ∨ a = 5 by omega) with rfl | rfl | rfl | rfl | rfl | rfl <;> rcases (show b = 0 ∨ b = 1 ∨ b = 2 by omega) with rfl | rfl | rfl <;> first | rfl | exact absurd c5 (by decide) | exact absurd c16 (by decide) | exact absurd c27 (by decide) | exact absurd c34 (by decide) | exact absurd c45 (by decide) | exact absurd c53 (by decide)
          · -- 45: not taken
            refine e_iconst (v := 1) aX9_clubAt_48 (by decide) ?_
            refine e_goto aX9_clubAt_49 ?_
            refine e_icmp_ne aX9_clubAt_53 (fun c53 => ?_) (fun c53 => ?_)
            · -- 53: taken
              refine e_iload aX9_clubAt_60 rfl ?_
              refine e_ireturn aX9_clubAt_62 rfl (Nat.le_refl _) (Nat.le_refl _) ?_
              refine ⟨?_, rfl⟩
              rcases (show a = 0 ∨ a = 1 ∨ a = 2 ∨ a = 3 ∨ a = 4 ∨ a = 5 by omega) with rfl | rfl | rfl | rfl | rfl | rfl <;> rcases (show b = 0 ∨ b = 1 ∨ b = 2 by omega) with rfl | rfl | rfl <;> first | rfl | exact absurd c5 (by decide) | exact absurd c16 (by decide) | exact absurd c27 (by decide) | exact absurd c34 (by decide) | exact absurd c45 (by decide) | exact absurd c53 (by decide)
            · -- 53: not taken
              refine e_iload_n aX9_clubAt_56 rfl ?_
              refine e_goto aX9_clubAt_57 ?_
              refine e_ireturn aX9_clubAt_62 rfl (Nat.le_refl _) (Nat.le_refl _) ?_
              refine ⟨?_, rfl⟩
              rcases (show a = 0 ∨ a = 1 ∨ a = 2 ∨ a = 3 ∨ a = 4 ∨ a = 5 by omega) with rfl | rfl | rfl | rfl | rfl | rfl <;> rcases (show b = 0 ∨ b = 1 ∨ b = 2 by omega) with rfl | rfl | rfl <;> first | rfl | exact absurd c5 (by decide) | exact absurd c16 (by decide) | exact absurd c27 (by decide) | exact absurd c34 (by decide) | exact absurd c45 (by decide) | exact absurd c53 (by decide)
      · -- 27: not taken
        refine e_iload_n aX9_clubAt_30 rfl ?_
        refine e_ireturn aX9_clubAt_31 rfl (Nat.le_refl _) (Nat.le_refl _) ?_
        refine ⟨?_, rfl⟩
        rcases (show a = 0 ∨ a = 1 ∨ a = 2 ∨ a = 3 ∨ a = 4 ∨ a = 5 by omega) with rfl | rfl | rfl | rfl | rfl | rfl <;> rcases (show b = 0 ∨ b = 1 ∨ b = 2 by omega) with rfl | rfl | rfl <;> first | rfl | exact absurd c5 (by decide) | exact absurd c16 (by decide) | exact absurd c27 (by decide)
    · -- 16: not taken
      refine e_iconst (v := 1) aX9_clubAt_19 (by decide) ?_
      refine e_goto aX9_clubAt_20 ?_
      refine e_istore aX9_clubAt_24 (Nat.le_of_ble_eq_true rfl) ?_
      refine e_iload_n aX9_clubAt_26 rfl ?_
      refine e_if_ne aX9_clubAt_27 (fun c27 => ?_) (fun c27 => ?_)
      · -- 27: taken
        refine e_iload_n aX9_clubAt_32 rfl ?_
        refine e_iconst (v := 1) aX9_clubAt_33 (by decide) ?_
        refine e_icmp_ne aX9_clubAt_34 (fun c34 => ?_) (fun c34 => ?_)
        · -- 34: taken
          refine e_iconst (v := 0) aX9_clubAt_41 (by decide) ?_
          refine e_iload_n aX9_clubAt_42 rfl ?_
          refine e_iconst (v := 2) aX9_clubAt_43 (by decide) ?_
          refine e_irem aX9_clubAt_44 (by decide) ?_
          refine e_top (nI_rem (b := 2) (by omega) (by decide) (by decide)) ?_
          refine e_if_ne aX9_clubAt_45 (fun c45 => ?_) (fun c45 => ?_)
          · -- 45: taken
            refine e_iconst (v := 0) aX9_clubAt_52 (by decide) ?_
            refine e_icmp_ne aX9_clubAt_53 (fun c53 => ?_) (fun c53 => ?_)
            · -- 53: taken
              refine e_iload aX9_clubAt_60 rfl ?_
              refine e_ireturn aX9_clubAt_62 rfl (Nat.le_refl _) (Nat.le_refl _) ?_
              refine ⟨?_, rfl⟩
              rcases (show a = 0 ∨ a = 1 ∨ a = 2 ∨ a = 3 ∨ a = 4 ∨ a = 5 by omega) with rfl | rfl | rfl | rfl | rfl | rfl <;> rcases (show b = 0 ∨ b = 1 ∨ b = 2 by omega) with rfl | rfl | rfl <;> first | rfl | exact absurd c5 (by decide) | exact absurd c16 (by decide) | exact absurd c27 (by decide) | exact absurd c34 (by decide) | exact absurd c45 (by decide) | exact absurd c53 (by decide)
            · -- 53: not taken
              refine e_iload_n aX9_clubAt_56 rfl ?_
              refine e_goto aX9_clubAt_57 ?_
              refine e_ireturn aX9_clubAt_62 rfl (Nat.le_refl _) (Nat.le_refl _) ?_
              refine ⟨?_, rfl⟩
              rcases (show a = 0 ∨ a = 1 ∨ a = 2 ∨ a = 3 ∨ a = 4 ∨ a = 5 by omega) with rfl | rfl | rfl | rfl | rfl | rfl <;> rcases (show b = 0 ∨ b = 1 ∨ b = 2 by omega) with rfl | rfl | rfl <;> first | rfl | exact absurd c5 (by decide) | exact absurd c16 (by decide) | exact absurd c27 (by decide) | exact absurd c34 (by decide) | exact absurd c45 (by decide) | exact absurd c53 (by decide)
          · -- 45: not taken
            refine e_iconst (v := 1) aX9_clubAt_48 (by decide) ?_
            refine e_goto aX9_clubAt_49 ?_
            refine e_icmp_ne aX9_clubAt_53 (fun c53 => ?_) (fun c53 => ?_)
            · -- 53: taken
              refine e_iload aX9_clubAt_60 rfl ?_
              refine e_ireturn aX9_clubAt_62 rfl (Nat.le_refl _) (Nat.le_refl _) ?_
              refine ⟨?_, rfl⟩
              rcases (show a = 0 ∨ a = 1 ∨ a = 2 ∨ a = 3 ∨ a = 4 ∨ a = 5 by omega) with rfl | rfl | rfl | rfl | rfl | rfl <;> rcases (show b = 0 ∨ b = 1 ∨ b = 2 by omega) with rfl | rfl | rfl <;> first | rfl | exact absurd c5 (by decide) | exact absurd c16 (by decide) | exact absurd c27 (by decide) | exact absurd c34 (by decide) | exact absurd c45 (by decide) | exact absurd c53 (by decide)
            · -- 53: not taken
              refine e_iload_n aX9_clubAt_56 rfl ?_
              refine e_goto aX9_clubAt_57 ?_
              refine e_ireturn aX9_clubAt_62 rfl (Nat.le_refl _) (Nat.le_refl _) ?_
              refine ⟨?_, rfl⟩
              rcases (show a = 0 ∨ a = 1 ∨ a = 2 ∨ a = 3 ∨ a = 4 ∨ a = 5 by omega) with rfl | rfl | rfl | rfl | rfl | rfl <;> rcases (show b = 0 ∨ b = 1 ∨ b = 2 by omega) with rfl | rfl | rfl <;> first | rfl | exact absurd c5 (by decide) | exact absurd c16 (by decide) | exact absurd c27 (by decide) | exact absurd c34 (by decide) | exact absurd c45 (by decide) | exact absurd c53 (by decide)
        · -- 34: not taken
          refine e_iconst (v := 1) aX9_clubAt_37 (by decide) ?_
          refine e_goto aX9_clubAt_38 ?_
          refine e_iload_n aX9_clubAt_42 rfl ?_
          refine e_iconst (v := 2) aX9_clubAt_43 (by decide) ?_
          refine e_irem aX9_clubAt_44 (by decide) ?_
          refine e_top (nI_rem (b := 2) (by omega) (by decide) (by decide)) ?_
          refine e_if_ne aX9_clubAt_45 (fun c45 => ?_) (fun c45 => ?_)
          · -- 45: taken
            refine e_iconst (v := 0) aX9_clubAt_52 (by decide) ?_
            refine e_icmp_ne aX9_clubAt_53 (fun c53 => ?_) (fun c53 => ?_)
            · -- 53: taken
              refine e_iload aX9_clubAt_60 rfl ?_
              refine e_ireturn aX9_clubAt_62 rfl (Nat.le_refl _) (Nat.le_refl _) ?_
              refine ⟨?_, rfl⟩
              rcases (show a = 0 ∨ a = 1 ∨ a = 2 ∨ a = 3 ∨ a = 4 ∨ a = 5 by omega) with rfl | rfl | rfl | rfl | rfl | rfl <;> rcases (show b = 0 ∨ b = 1 ∨ b = 2 by omega) with rfl | rfl | rfl <;> first | rfl | exact absurd c5 (by decide) | exact absurd c16 (by decide) | exact absurd c27 (by decide) | exact absurd c34 (by decide) | exact absurd c45 (by decide) | exact absurd c53 (by decide)
            · -- 53: not taken
              refine e_iload_n aX9_clubAt_56 rfl ?_
              refine e_goto aX9_clubAt_57 ?_
              refine e_ireturn aX9_clubAt_62 rfl (Nat.le_refl _) (Nat.le_refl _) ?_
              refine ⟨?_, rfl⟩
              rcases (show a = 0 ∨ a = 1 ∨ a = 2 ∨ a = 3 ∨ a = 4 ∨ a = 5 by omega) with rfl | rfl | rfl | rfl | rfl | rfl <;> rcases (show b = 0 ∨ b = 1 ∨ b = 2 by omega) with rfl | rfl | rfl <;> first | rfl | exact absurd c5 (by decide) | exact absurd c16 (by decide) | exact absurd c27 (by decide) | exact absurd c34 (by decide) | exact absurd c45 (by decide) | exact absurd c53 (by decide)
          · -- 45: not taken
            refine e_iconst (v := 1) aX9_clubAt_48 (by decide) ?_
            refine e_goto aX9_clubAt_49 ?_
            refine e_icmp_ne aX9_clubAt_53 (fun c53 => ?_) (fun c53 => ?_)
            · -- 53: taken
              refine e_iload aX9_clubAt_60 rfl ?_
              refine e_ireturn aX9_clubAt_62 rfl (Nat.le_refl _) (Nat.le_refl _) ?_
              refine ⟨?_, rfl⟩
              rcases (show a = 0 ∨ a = 1 ∨ a = 2 ∨ a = 3 ∨ a = 4 ∨ a = 5 by omega) with rfl | rfl | rfl | rfl | rfl | rfl <;> rcases (show b = 0 ∨ b = 1 ∨ b = 2 by omega) with rfl | rfl | rfl <;> first | rfl | exact absurd c5 (by decide) | exact absurd c16 (by decide) | exact absurd c27 (by decide) | exact absurd c34 (by decide) | exact absurd c45 (by decide) | exact absurd c53 (by decide)
            · -- 53: not taken
              refine e_iload_n aX9_clubAt_56 rfl ?_
              refine e_goto aX9_clubAt_57 ?_
              refine e_ireturn aX9_clubAt_62 rfl (Nat.le_refl _) (Nat.le_refl _) ?_
              refine ⟨?_, rfl⟩
              rcases (show a = 0 ∨ a = 1 ∨ a = 2 ∨ a = 3 ∨ a = 4 ∨ a = 5 by omega) with rfl | rfl | rfl | rfl | rfl | rfl <;> rcases (show b = 0 ∨ b = 1 ∨ b = 2 by omega) with rfl | rfl | rfl <;> first | rfl | exact absurd c5 (by decide) | exact absurd c16 (by decide) | exact absurd c27 (by decide) | exact absurd c34 (by decide) | exact absurd c45 (by decide) | exact absurd c53 (by decide)
      · -- 27: not taken
        refine e_iload_n aX9_clubAt_30 rfl ?_
        refine e_ireturn aX9_clubAt_31 rfl (Nat.le_refl _) (Nat.le_refl _) ?_
        refine ⟨?_, rfl⟩
        rcases (show a = 0 ∨ a = 1 ∨ a = 2 ∨ a = 3 ∨ a = 4 ∨ a = 5 by omega) with rfl | rfl | rfl | rfl | rfl | rfl <;> rcases (show b = 0 ∨ b = 1 ∨ b = 2 by omega) with rfl | rfl | rfl <;> first | rfl | exact absurd c5 (by decide) | exact absurd c16 (by decide) | exact absurd c27 (by decide)
  · -- 5: not taken
    refine e_iconst (v := 1) aX9_clubAt_8 (by decide) ?_
    refine e_goto aX9_clubAt_9 ?_
    refine e_istore_n aX9_clubAt_13 (Nat.le_of_ble_eq_true rfl) ?_
    refine e_iload_n aX9_clubAt_14 rfl ?_
    refine e_iconst (v := 2) aX9_clubAt_15 (by decide) ?_
    refine e_icmp_ne aX9_clubAt_16 (fun c16 => ?_) (fun c16 => ?_)
    · -- 16: taken
      refine e_iconst (v := 2) aX9_clubAt_23 (by decide) ?_
      refine e_istore aX9_clubAt_24 (Nat.le_of_ble_eq_true rfl) ?_
      refine e_iload_n aX9_clubAt_26 rfl ?_
      refine e_if_ne aX9_clubAt_27 (fun c27 => ?_) (fun c27 => ?_)
      · -- 27: taken
        refine e_iload_n aX9_clubAt_32 rfl ?_
        refine e_iconst (v := 1) aX9_clubAt_33 (by decide) ?_
        refine e_icmp_ne aX9_clubAt_34 (fun c34 => ?_) (fun c34 => ?_)
        · -- 34: taken
          refine e_iconst (v := 0) aX9_clubAt_41 (by decide) ?_
          refine e_iload_n aX9_clubAt_42 rfl ?_
          refine e_iconst (v := 2) aX9_clubAt_43 (by decide) ?_
          refine e_irem aX9_clubAt_44 (by decide) ?_
          refine e_top (nI_rem (b := 2) (by omega) (by decide) (by decide)) ?_
          refine e_if_ne aX9_clubAt_45 (fun c45 => ?_) (fun c45 => ?_)
          · -- 45: taken
            refine e_iconst (v := 0) aX9_clubAt_52 (by decide) ?_
            refine e_icmp_ne aX9_clubAt_53 (fun c53 => ?_) (fun c53 => ?_)
            · -- 53: taken
              refine e_iload aX9_clubAt_60 rfl ?_
              refine e_ireturn aX9_clubAt_62 rfl (Nat.le_refl _) (Nat.le_refl _) ?_
              refine ⟨?_, rfl⟩
              rcases (show a = 0 ∨ a = 1 ∨ a = 2 ∨ a = 3 ∨ a = 4 ∨ a = 5 by omega) with rfl | rfl | rfl | rfl | rfl | rfl <;> rcases (show b = 0 ∨ b = 1 ∨ b = 2 by omega) with rfl | rfl | rfl <;> first | rfl | exact absurd c5 (by decide) | exact absurd c16 (by decide) | exact absurd c27 (by decide) | exact absurd c34 (by decide) | exact absurd c45 (by decide) | exact absurd c53 (by decide)
            · -- 53: not taken
              refine e_iload_n aX9_clubAt_56 rfl ?_
              refine e_goto aX9_clubAt_57 ?_
              refine e_ireturn aX9_clubAt_62 rfl (Nat.le_refl _) (Nat.le_refl _) ?_
              refine ⟨?_, rfl⟩
              rcases (show a = 0 ∨ a = 1 ∨ a = 2 ∨ a = 3 ∨ a = 4 ∨ a = 5 by omega) with rfl | rfl | rfl | rfl | rfl | rfl <;> rcases (show b = 0 ∨ b = 1 ∨ b = 2 by omega) with rfl | rfl | rfl <;> first | rfl | exact absurd c5 (by decide) | exact absurd c16 (by decide) | exact absurd c27 (by decide) | exact absurd c34 (by decide) | exact absurd c45 (by decide) | exact absurd c53 (by decide)
          · -- 45: not taken
            refine e_iconst (v := 1) aX9_clubAt_48 (by decide) ?_
            refine e_goto aX9_clubAt_49 ?_
            refine e_icmp_ne aX9_clubAt_53 (fun c53 => ?_) (fun c53 => ?_)
            · -- 53: taken
              refine e_iload aX9_clubAt_60 rfl ?_
              refine e_ireturn aX9_clubAt_62 rfl (Nat.le_refl _) (Nat.le_refl _) ?_
              refine ⟨?_, rfl⟩
              rcases (show a = 0 ∨ a = 1 ∨ a = 2 ∨ a = 3 ∨ a = 4 ∨ a = 5 by omega) with rfl | rfl | rfl | rfl | rfl | rfl <;> rcases (show b = 0 ∨ b = 1 ∨ b = 2 by omega) with rfl | rfl | rfl <;> first | rfl | exact absurd c5 (by decide) | exact absurd c16 (by decide) | exact absurd c27 (by decide) | exact absurd c34 (by decide) | exact absurd c45 (by decide) | exact absurd c53 (by decide)
            · -- 53: not taken
              refine e_iload_n aX9_clubAt_56 rfl ?_
              refine e_goto aX9_clubAt_57 ?_
              refine e_ireturn aX9_clubAt_62 rfl (Nat.le_refl _) (Nat.le_refl _) ?_
              refine ⟨?_, rfl⟩
              rcases (show a = 0 ∨ a = 1 ∨ a = 2 ∨ a = 3 ∨ a = 4 ∨ a = 5 by omega) with rfl | rfl | rfl | rfl | rfl | rfl <;> rcases (show b = 0 ∨ b = 1 ∨ b = 2 by omega) with rfl | rfl | rfl <;> first | rfl | exact absurd c5 (by decide) | exact absurd c16 (by decide) | exact absurd c27 (by decide) | exact absurd c34 (by decide) | exact absurd c45 (by decide) | exact absurd c53 (by decide)
        · -- 34: not taken
          refine e_iconst (v := 1) aX9_clubAt_37 (by decide) ?_
          refine e_goto aX9_clubAt_38 ?_
          refine e_iload_n aX9_clubAt_42 rfl ?_
          refine e_iconst (v := 2) aX9_clubAt_43 (by decide) ?_
          refine e_irem aX9_clubAt_44 (by decide) ?_
          refine e_top (nI_rem (b := 2) (by omega) (by decide) (by decide)) ?_
          refine e_if_ne aX9_clubAt_45 (fun c45 => ?_) (fun c45 => ?_)
          · -- 45: taken
            refine e_iconst (v := 0) aX9_clubAt_52 (by decide) ?_
            refine e_icmp_ne aX9_clubAt_53 (fun c53 => ?_) (fun c53 => ?_)
            · -- 53: taken
              refine e_iload aX9_clubAt_60 rfl ?_
              refine e_ireturn aX9_clubAt_62 rfl (Nat.le_refl _) (Nat.le_refl _) ?_
              refine ⟨?_, rfl⟩
              rcases (show a = 0 ∨ a = 1 ∨ a = 2 ∨ a = 3 ∨ a = 4 ∨ a = 5 by omega) with rfl | rfl | rfl | rfl | rfl | rfl <;> rcases (show b = 0 ∨ b = 1 ∨ b = 2 by omega) with rfl | rfl | rfl <;> first | rfl | exact absurd c5 (by decide) | exact absurd c16 (by decide) | exact absurd c27 (by decide) | exact absurd c34 (by decide) | exact absurd c45 (by decide) | exact absurd c53 (by decide)
            · -- 53: not taken
              refine e_iload_n aX9_clubAt_56 rfl ?_
              refine e_goto aX9_clubAt_57 ?_
              refine e_ireturn aX9_clubAt_62 rfl (Nat.le_refl _) (Nat.le_refl _) ?_
              refine ⟨?_, rfl⟩
              rcases (show a = 0 ∨ a = 1 ∨ a = 2 ∨ a = 3 ∨ a = 4 ∨ a = 5 by omega) with rfl | rfl | rfl | rfl | rfl | rfl <;> rcases (show b = 0 ∨ b = 1 ∨ b = 2 by omega) with rfl | rfl | rfl <;> first | rfl | exact absurd c5 (by decide) | exact absurd c16 (by decide) | exact absurd c27 (by decide) | exact absurd c34 (by decide) | exact absurd c45 (by decide) | exact absurd c53 (by decide)
          · -- 45: not taken
            refine e_iconst (v := 1) aX9_clubAt_48 (by decide) ?_
            refine e_goto aX9_clubAt_49 ?_
            refine e_icmp_ne aX9_clubAt_53 (fun c53 => ?_) (fun c53 => ?_)
            · -- 53: taken
              refine e_iload aX9_clubAt_60 rfl ?_
              refine e_ireturn aX9_clubAt_62 rfl (Nat.le_refl _) (Nat.le_refl _) ?_
              refine ⟨?_, rfl⟩
              rcases (show a = 0 ∨ a = 1 ∨ a = 2 ∨ a = 3 ∨ a = 4 ∨ a = 5 by omega) with rfl | rfl | rfl | rfl | rfl | rfl <;> rcases (show b = 0 ∨ b = 1 ∨ b = 2 by omega) with rfl | rfl | rfl <;> first | rfl | exact absurd c5 (by decide) | exact absurd c16 (by decide) | exact absurd c27 (by decide) | exact absurd c34 (by decide) | exact absurd c45 (by decide) | exact absurd c53 (by decide)
            · -- 53: not taken
              refine e_iload_n aX9_clubAt_56 rfl ?_
              refine e_goto aX9_clubAt_57 ?_
              refine e_ireturn aX9_clubAt_62 rfl (Nat.le_refl _) (Nat.le_refl _) ?_
              refine ⟨?_, rfl⟩
              rcases (show a = 0 ∨ a = 1 ∨ a = 2 ∨ a = 3 ∨ a = 4 ∨ a = 5 by omega) with rfl | rfl | rfl | rfl | rfl | rfl <;> rcases (show b = 0 ∨ b = 1 ∨ b = 2 by omega) with rfl | rfl | rfl <;> first | rfl | exact absurd c5 (by decide) | exact absurd c16 (by decide) | exact absurd c27 (by decide) | exact absurd c34 (by decide) | exact absurd c45 (by decide) | exact absurd c53 (by decide)
      · -- 27: not taken
        refine e_iload_n aX9_clubAt_30 rfl ?_
        refine e_ireturn aX9_clubAt_31 rfl (Nat.le_refl _) (Nat.le_refl _) ?_
        refine ⟨?_, rfl⟩
        rcases (show a = 0 ∨ a = 1 ∨ a = 2 ∨ a = 3 ∨ a = 4 ∨ a = 5 by omega) with rfl | rfl | rfl | rfl | rfl | rfl <;> rcases (show b = 0 ∨ b = 1 ∨ b = 2 by omega) with rfl | rfl | rfl <;> first | rfl | exact absurd c5 (by decide) | exact absurd c16 (by decide) | exact absurd c27 (by decide)
    · -- 16: not taken
      refine e_iconst (v := 1) aX9_clubAt_19 (by decide) ?_
      refine e_goto aX9_clubAt_20 ?_
      refine e_istore aX9_clubAt_24 (Nat.le_of_ble_eq_true rfl) ?_
      refine e_iload_n aX9_clubAt_26 rfl ?_
      refine e_if_ne aX9_clubAt_27 (fun c27 => ?_) (fun c27 => ?_)
      · -- 27: taken
        refine e_iload_n aX9_clubAt_32 rfl ?_
        refine e_iconst (v := 1) aX9_clubAt_33 (by decide) ?_
        refine e_icmp_ne aX9_clubAt_34 (fun c34 => ?_) (fun c34 => ?_)
        · -- 34: taken
          refine e_iconst (v := 0) aX9_clubAt_41 (by decide) ?_
          refine e_iload_n aX9_clubAt_42 rfl ?_
          refine e_iconst (v := 2) aX9_clubAt_43 (by decide) ?_
          refine e_irem aX9_clubAt_44 (by decide) ?_
          refine e_top (nI_rem (b := 2) (by omega) (by decide) (by decide)) ?_
          refine e_if_ne aX9_clubAt_45 (fun c45 => ?_) (fun c45 => ?_)
          · -- 45: taken
            refine e_iconst (v := 0) aX9_clubAt_52 (by decide) ?_
            refine e_icmp_ne aX9_clubAt_53 (fun c53 => ?_) (fun c53 => ?_)
            · -- 53: taken
              refine e_iload aX9_clubAt_60 rfl ?_
              refine e_ireturn aX9_clubAt_62 rfl (Nat.le_refl _) (Nat.le_refl _) ?_
              refine ⟨?_, rfl⟩
              rcases (show a = 0 ∨ a = 1 ∨ a = 2 ∨ a = 3 ∨ a = 4 ∨ a = 5 by omega) with rfl | rfl | rfl | rfl | rfl | rfl <;> rcases (show b = 0 ∨ b = 1 ∨ b = 2 by omega) with rfl | rfl | rfl <;> first | rfl | exact absurd c5 (by decide) | exact absurd c16 (by decide) | exact absurd c27 (by decide) | exact absurd c34 (by decide) | exact absurd c45 (by decide) | exact absurd c53 (by decide)
            · -- 53: not taken
              refine e_iload_n aX9_clubAt_56 rfl ?_
              refine e_goto aX9_clubAt_57 ?_
              refine e_ireturn aX9_clubAt_62 rfl (Nat.le_refl _) (Nat.le_refl _) ?_
              refine ⟨?_, rfl⟩
              rcases (show a = 0 ∨ a = 1 ∨ a = 2 ∨ a = 3 ∨ a = 4 ∨ a = 5 by omega) with rfl | rfl | rfl | rfl | rfl | rfl <;> rcases (show b = 0 ∨ b = 1 ∨ b = 2 by omega) with rfl | rfl | rfl <;> first | rfl | exact absurd c5 (by decide) | exact absurd c16 (by decide) | exact absurd c27 (by decide) | exact absurd c34 (by decide) | exact absurd c45 (by decide) | exact absurd c53 (by decide)
          · -- 45: not taken
            refine e_iconst (v := 1) aX9_clubAt_48 (by decide) ?_
            refine e_goto aX9_clubAt_49 ?_
            refine e_icmp_ne aX9_clubAt_53 (fun c53 => ?_) (fun c53 => ?_)
            · -- 53: taken
              refine e_iload aX9_clubAt_60 rfl ?_
              refine e_ireturn aX9_clubAt_62 rfl (Nat.le_refl _) (Nat.le_refl _) ?_
              refine ⟨?_, rfl⟩
              rcases (show a = 0 ∨ a = 1 ∨ a = 2 ∨ a = 3 ∨ a = 4 ∨ a = 5 by omega) with rfl | rfl | rfl | rfl | rfl | rfl <;> rcases (show b = 0 ∨ b = 1 ∨ b = 2 by omega) with rfl | rfl | rfl <;> first | rfl | exact absurd c5 (by decide) | exact absurd c16 (by decide) | exact absurd c27 (by decide) | exact absurd c34 (by decide) | exact absurd c45 (by decide) | exact absurd c53 (by decide)
            · -- 53: not taken
              refine e_iload_n aX9_clubAt_56 rfl ?_
              refine e_goto aX9_clubAt_57 ?_
              refine e_ireturn aX9_clubAt_62 rfl (Nat.le_refl _) (Nat.le_refl _) ?_
              refine ⟨?_, rfl⟩
              rcases (show a = 0 ∨ a = 1 ∨ a = 2 ∨ a = 3 ∨ a = 4 ∨ a = 5 by omega) with rfl | rfl | rfl | rfl | rfl | rfl <;> rcases (show b = 0 ∨ b = 1 ∨ b = 2 by omega) with rfl | rfl | rfl <;> first | rfl | exact absurd c5 (by decide) | exact absurd c16 (by decide) | exact absurd c27 (by decide) | exact absurd c34 (by decide) | exact absurd c45 (by decide) | exact absurd c53 (by decide)
        · -- 34: not taken
          refine e_iconst (v := 1) aX9_clubAt_37 (by decide) ?_
          refine e_goto aX9_clubAt_38 ?_
          refine e_iload_n aX9_clubAt_42 rfl ?_
          refine e_iconst (v := 2) aX9_clubAt_43 (by decide) ?_
          refine e_irem aX9_clubAt_44 (by decide) ?_
          refine e_top (nI_rem (b := 2) (by omega) (by decide) (by decide)) ?_
          refine e_if_ne aX9_clubAt_45 (fun c45 => ?_) (fun c45 => ?_)
          · -- 45: taken
            refine e_iconst (v := 0) aX9_clubAt_52 (by decide) ?_
            refine e_icmp_ne aX9_clubAt_53 (fun c53 => ?_) (fun c53 => ?_)
            · -- 53: taken
              refine e_iload aX9_clubAt_60 rfl ?_
              refine e_ireturn aX9_clubAt_62 rfl (Nat.le_refl _) (Nat.le_refl _) ?_
              refine ⟨?_, rfl⟩
              rcases (show a = 0 ∨ a = 1 ∨ a = 2 ∨ a = 3 ∨ a = 4 ∨ a = 5 by omega) with rfl | rfl | rfl | rfl | rfl | rfl <;> rcases (show b = 0 ∨ b = 1 ∨ b = 2 by omega) with rfl | rfl | rfl <;> first | rfl | exact absurd c5 (by decide) | exact absurd c16 (by decide) | exact absurd c27 (by decide) | exact absurd c34 (by decide) | exact absurd c45 (by decide) | exact absurd c53 (by decide)
            · -- 53: not taken
              refine e_iload_n aX9_clubAt_56 rfl ?_
              refine e_goto aX9_clubAt_57 ?_
              refine e_ireturn aX9_clubAt_62 rfl (Nat.le_refl _) (Nat.le_refl _) ?_
              refine ⟨?_, rfl⟩
              rcases (show a = 0 ∨ a = 1 ∨ a = 2 ∨ a = 3 ∨ a = 4 ∨ a = 5 by omega) with rfl | rfl | rfl | rfl | rfl | rfl <;> rcases (show b = 0 ∨ b = 1 ∨ b = 2 by omega) with rfl | rfl | rfl <;> first | rfl | exact absurd c5 (by decide) | exact absurd c16 (by decide) | exact absurd c27 (by decide) | exact absurd c34 (by decide) | exact absurd c45 (by decide) | exact absurd c53 (by decide)
          · -- 45: not taken
            refine e_iconst (v := 1) aX9_clubAt_48 (by decide) ?_
            refine e_goto aX9_clubAt_49 ?_
            refine e_icmp_ne aX9_clubAt_53 (fun c53 => ?_) (fun c53 => ?_)
            · -- 53: taken
              refine e_iload aX9_clubAt_60 rfl ?_
              refine e_ireturn aX9_clubAt_62 rfl (Nat.le_refl _) (Nat.le_refl _) ?_
              refine ⟨?_, rfl⟩
              rcases (show a = 0 ∨ a = 1 ∨ a = 2 ∨ a = 3 ∨ a = 4 ∨ a = 5 by omega) with rfl | rfl | rfl | rfl | rfl | rfl <;> rcases (show b = 0 ∨ b = 1 ∨ b = 2 by omega) with rfl | rfl | rfl <;> first | rfl | exact absurd c5 (by decide) | exact absurd c16 (by decide) | exact absurd c27 (by decide) | exact absurd c34 (by decide) | exact absurd c45 (by decide) | exact absurd c53 (by decide)
            · -- 53: not taken
              refine e_iload_n aX9_clubAt_56 rfl ?_
              refine e_goto aX9_clubAt_57 ?_
              refine e_ireturn aX9_clubAt_62 rfl (Nat.le_refl _) (Nat.le_refl _) ?_
              refine ⟨?_, rfl⟩
              rcases (show a = 0 ∨ a = 1 ∨ a = 2 ∨ a = 3 ∨ a = 4 ∨ a = 5 by omega) with rfl | rfl | rfl | rfl | rfl | rfl <;> rcases (show b = 0 ∨ b = 1 ∨ b = 2 by omega) with rfl | rfl | rfl <;> first | rfl | exact absurd c5 (by decide) | exact absurd c16 (by decide) | exact absurd c27 (by decide) | exact absurd c34 (by decide) | exact absurd c45 (by decide) | exact absurd c53 (by decide)
      · -- 27: not taken
        refine e_iload_n aX9_clubAt_30 rfl ?_
        refine e_ireturn aX9_clubAt_31 rfl (Nat.le_refl _) (Nat.le_refl _) ?_
        refine ⟨?_, rfl⟩
        rcases (show a = 0 ∨ a = 1 ∨ a = 2 ∨ a = 3 ∨ a = 4 ∨ a = 5 by omega) with rfl | rfl | rfl | rfl | rfl | rfl <;> rcases (show b = 0 ∨ b = 1 ∨ b = 2 by omega) with rfl | rfl | rfl <;> first | rfl | exact absurd c5 (by decide) | exact absurd c16 (by decide) | exact absurd c27 (by decide)
theorem zX9_orderIn (X : EX) {h : HP} {s y : Nat} (hs : s < 1296) (hy : y < 4) : Ct X mX9_orderIn 0 0 0 [vI (nI s), vI (nI y)] h (Rt (vI (nI (s / stp y % 6))) h) := by
  refine ct_of rfl (Nat.le_of_ble_eq_true rfl) ?_
  refine e_iload_n aX9_orderIn_0 rfl ?_
  refine e_if_ne aX9_orderIn_1 (fun c1 => ?_) (fun c1 => ?_)
  · -- 1: taken
    have q1 : ¬ y = 0 := fun z => c1 (by rw [z]; rfl)
    refine e_iload_n aX9_orderIn_12 rfl ?_
    refine e_iconst (v := 1) aX9_orderIn_13 (by decide) ?_
    refine e_icmp_ne aX9_orderIn_14 (fun c14 => ?_) (fun c14 => ?_)
    · -- 14: taken
      have q14 : ¬ y = 1 := fun z => c14 (by rw [z]; rfl)
      refine e_iload_n aX9_orderIn_27 rfl ?_
      refine e_iconst (v := 2) aX9_orderIn_28 (by decide) ?_
      refine e_icmp_ne aX9_orderIn_29 (fun c29 => ?_) (fun c29 => ?_)
      · -- 29: taken
        have q29 : ¬ y = 2 := fun z => c29 (by rw [z]; rfl)
        refine e_iload_n aX9_orderIn_42 rfl ?_
        refine e_bipush (v := 6) aX9_orderIn_43 (by decide) ?_
        refine e_irem aX9_orderIn_45 (by decide) ?_
        refine e_top (nI_rem (b := 6) (by omega) (by decide) (by decide)) ?_
        refine e_ireturn aX9_orderIn_46 rfl (Nat.le_refl _) (Nat.le_refl _) ?_
        obtain rfl : y = 3 := by omega
        exact ⟨congrArg (fun x => some (vI (nI x))) (show s % 6 = s / 1 % 6 by omega), rfl⟩
      · -- 29: not taken
        obtain rfl : y = 2 := (nI_eq (b := 2) (by omega) (by decide)).mp c29
        refine e_iload_n aX9_orderIn_32 rfl ?_
        refine e_bipush (v := 6) aX9_orderIn_33 (by decide) ?_
        refine e_idiv aX9_orderIn_35 (by decide) ?_
        refine e_top (nI_div (b := 6) (by omega) (by decide) (by decide)) ?_
        refine e_bipush (v := 6) aX9_orderIn_36 (by decide) ?_
        refine e_irem aX9_orderIn_38 (by decide) ?_
        refine e_top (nI_rem (b := 6) (by omega) (by decide) (by decide)) ?_
        refine e_goto aX9_orderIn_39 ?_
        refine e_ireturn aX9_orderIn_46 rfl (Nat.le_refl _) (Nat.le_refl _) ?_
        exact ⟨rfl, rfl⟩
    · -- 14: not taken
      obtain rfl : y = 1 := (nI_eq (b := 1) (by omega) (by decide)).mp c14
      refine e_iload_n aX9_orderIn_17 rfl ?_
      refine e_bipush (v := 36) aX9_orderIn_18 (by decide) ?_
      refine e_idiv aX9_orderIn_20 (by decide) ?_
      refine e_top (nI_div (b := 36) (by omega) (by decide) (by decide)) ?_
      refine e_bipush (v := 6) aX9_orderIn_21 (by decide) ?_
      refine e_irem aX9_orderIn_23 (by decide) ?_
      refine e_top (nI_rem (b := 6) (by omega) (by decide) (by decide)) ?_
      refine e_goto aX9_orderIn_24 ?_
      refine e_ireturn aX9_orderIn_46 rfl (Nat.le_refl _) (Nat.le_refl _) ?_
      exact ⟨rfl, rfl⟩
  · -- 1: not taken
    obtain rfl : y = 0 := (nI_eq (b := 0) (by omega) (by decide)).mp c1
    refine e_iload_n aX9_orderIn_4 rfl ?_
    refine e_sipush (v := 216) aX9_orderIn_5 (by decide) ?_
    refine e_idiv aX9_orderIn_8 (by decide) ?_
    refine e_top (nI_div (b := 216) (by omega) (by decide) (by decide)) ?_
    refine e_goto aX9_orderIn_9 ?_
    refine e_ireturn aX9_orderIn_46 rfl (Nat.le_refl _) (Nat.le_refl _) ?_
    exact ⟨congrArg (fun x => some (vI (nI x))) (show s / 216 = s / 216 % 6 by omega), rfl⟩
def plA (a c : Nat) : Nat := [0, 1, 2, 0, 2, 1, 1, 0, 2, 2, 0, 1, 1, 2, 0, 2, 1, 0].getD (a * 3 + c) 0
theorem plA_0 : ∀ a, a < 6 → ∀ c, c < 3 → clubA a 0 = c → plA a c = 0 := by decide
theorem plA_1 : ∀ a, a < 6 → ∀ c, c < 3 → clubA a 1 = c → plA a c = 1 := by decide
theorem plA_2 : ∀ a, a < 6 → ∀ c, c < 3 → ¬ clubA a 0 = c → ¬ clubA a 1 = c → plA a c = 2 := by decide
theorem clubA_lt : ∀ a, a < 6 → ∀ c, c < 3 → clubA a c < 3 := by decide
theorem pl_A {s p : Nat} : pl s p = plA (s / stp (p / 3) % 6) (p % 3) := rfl
theorem zX9_placeIn (X : EX) {h : HP} {s y c : Nat} (hs : s < 1296) (hy : y < 4) (hc : c < 3) : Ct X mX9_placeIn 1 0 0 [vI (nI s), vI (nI y), vI (nI c)] h (Rt (vI (nI (plA (s / stp y % 6) c))) h) := by
  refine ct_of rfl (Nat.le_of_ble_eq_true rfl) ?_
  have hm : s / stp y % 6 < 6 := Nat.mod_lt _ (by decide)
  have hc0 := clubA_lt _ hm 0 (by decide)
  have hc1 := clubA_lt _ hm 1 (by decide)
  refine e_iload_n aX9_placeIn_0 rfl ?_
  refine e_iload_n aX9_placeIn_1 rfl ?_
  refine e_invsT aX9_placeIn_2 kX9_95 (zX9_orderIn X hs hy) rfl rfl (Nat.le_of_ble_eq_true rfl) (Nat.le_of_ble_eq_true rfl) (Nat.le_refl _) (Nat.le_refl _) (Nat.le_of_ble_eq_true rfl) ?_
  refine e_istore_n aX9_placeIn_5 (Nat.le_of_ble_eq_true rfl) ?_
  refine e_iload_n aX9_placeIn_6 rfl ?_
  refine e_iconst (v := 0) aX9_placeIn_7 (by decide) ?_
  refine e_invsT aX9_placeIn_8 kX9_99 (zX9_clubAt X (b := 0) hm (by decide)) rfl rfl (Nat.le_of_ble_eq_true rfl) (Nat.le_of_ble_eq_true rfl) (Nat.le_refl _) (Nat.le_refl _) (Nat.le_of_ble_eq_true rfl) ?_
  refine e_iload_n aX9_placeIn_11 rfl ?_
  refine e_icmp_ne aX9_placeIn_12 (fun c12 => ?_) (fun c12 => ?_)
  · -- 12: taken
    have q12 : ¬ clubA (s / stp y % 6) 0 = c := fun z => c12 (by rw [z])
    refine e_iload_n aX9_placeIn_19 rfl ?_
    refine e_iconst (v := 1) aX9_placeIn_20 (by decide) ?_
    refine e_invsT aX9_placeIn_21 kX9_99 (zX9_clubAt X (b := 1) hm (by decide)) rfl rfl (Nat.le_of_ble_eq_true rfl) (Nat.le_of_ble_eq_true rfl) (Nat.le_refl _) (Nat.le_refl _) (Nat.le_of_ble_eq_true rfl) ?_
    refine e_iload_n aX9_placeIn_24 rfl ?_
    refine e_icmp_ne aX9_placeIn_25 (fun c25 => ?_) (fun c25 => ?_)
    · -- 25: taken
      have q25 : ¬ clubA (s / stp y % 6) 1 = c := fun z => c25 (by rw [z])
      refine e_iconst (v := 2) aX9_placeIn_32 (by decide) ?_
      refine e_ireturn aX9_placeIn_33 rfl (Nat.le_refl _) (Nat.le_refl _) ?_
      exact ⟨by rw [plA_2 _ hm c hc q12 q25]; rfl, rfl⟩
    · -- 25: not taken
      have q25 : clubA (s / stp y % 6) 1 = c := (nI_eq (by omega) (by omega)).mp c25
      refine e_iconst (v := 1) aX9_placeIn_28 (by decide) ?_
      refine e_goto aX9_placeIn_29 ?_
      refine e_ireturn aX9_placeIn_33 rfl (Nat.le_refl _) (Nat.le_refl _) ?_
      exact ⟨by rw [plA_1 _ hm c hc q25]; rfl, rfl⟩
  · -- 12: not taken
    have q12 : clubA (s / stp y % 6) 0 = c := (nI_eq (by omega) (by omega)).mp c12
    refine e_iconst (v := 0) aX9_placeIn_15 (by decide) ?_
    refine e_goto aX9_placeIn_16 ?_
    refine e_ireturn aX9_placeIn_33 rfl (Nat.le_refl _) (Nat.le_refl _) ?_
    exact ⟨by rw [plA_0 _ hm c hc q12]; rfl, rfl⟩
theorem zX9_placeOf (X : EX) {h : HP} {s p : Nat} (hs : s < 1296) (hp : p < 12) : Ct X mX9_placeOf 2 0 0 [vI (nI s), vI (nI p)] h (Rt (vI (nI (pl s p))) h) := by
  refine ct_of rfl (Nat.le_of_ble_eq_true rfl) ?_
  refine e_iload_n aX9_placeOf_0 rfl ?_
  refine e_iload_n aX9_placeOf_1 rfl ?_
  refine e_iconst (v := 3) aX9_placeOf_2 (by decide) ?_
  refine e_idiv aX9_placeOf_3 (by decide) ?_
  refine e_top (nI_div (b := 3) (by omega) (by decide) (by decide)) ?_
  refine e_iload_n aX9_placeOf_4 rfl ?_
  refine e_iconst (v := 3) aX9_placeOf_5 (by decide) ?_
  refine e_irem aX9_placeOf_6 (by decide) ?_
  refine e_top (nI_rem (b := 3) (by omega) (by decide) (by decide)) ?_
  refine e_invsT aX9_placeOf_7 kX9_102 (zX9_placeIn X (y := p / 3) (c := p % 3) hs (by omega) (by omega)) rfl rfl (Nat.le_of_ble_eq_true rfl) (Nat.le_of_ble_eq_true rfl) (Nat.le_refl _) (Nat.le_refl _) (Nat.le_of_ble_eq_true rfl) ?_
  refine e_ireturn aX9_placeOf_10 rfl (Nat.le_refl _) (Nat.le_refl _) ?_
  exact ⟨rfl, rfl⟩
