/-! the reference: what it is worth (written by wip/whole/g58.py) -/
/-- what a hand is worth; sums; the best -/
def wuG (W pr : Nat → Int32) (s : Nat) (y : Int32) : Nat → Int32
  | 0 => 0
  | p + 1 => if W p = y then wuG W pr s y p + pr (pl s p) else wuG W pr s y p
theorem wuG_s {W pr : Nat → Int32} {s p : Nat} {y : Int32} : wuG W pr s y (p + 1) = if W p = y then wuG W pr s y p + pr (pl s p) else wuG W pr s y p := rfl
def wrM (D : Nat → DD) (n : Nat) (pr : Nat → Int32) (y : Int32) (s : Nat) : Int32 := wuG (fun p => nI (owR D n s p)) pr s y 12
def woG (wz : Nat → Int32) (a : Nat) : Nat → Int64
  | 0 => 0
  | m + 1 => woG wz a m + (wz (a + m)).toInt64
def bsG (wz : Nat → Int32) (y : Int32) : Nat → Nat → Nat → Int32 → Nat
  | _, 0, cz, _ => cz
  | k, m + 1, cz, v => if (if y = 0 then v < wz k else wz k < v) then bsG wz y (k + 1) m k (wz k) else bsG wz y (k + 1) m cz v
def hpG (wz : Nat → Int32) (a q : Nat) : Nat → Nat → Nat → Int64 → Nat
  | _, 0, cz, _ => cz
  | k, m + 1, cz, v => if lg_cmp (woG wz (a + k * q) q) v ≤ 0 then hpG wz a q (k + 1) m cz v else hpG wz a q (k + 1) m k (woG wz (a + k * q) q)
theorem bsG_s {wz : Nat → Int32} {y v : Int32} {k m cz : Nat} : bsG wz y k (m + 1) cz v = if (if y = 0 then v < wz k else wz k < v) then bsG wz y (k + 1) m k (wz k) else bsG wz y (k + 1) m cz v := rfl
theorem hpG_s {wz : Nat → Int32} {a q k m cz : Nat} {v : Int64} : hpG wz a q k (m + 1) cz v = if lg_cmp (woG wz (a + k * q) q) v ≤ 0 then hpG wz a q (k + 1) m cz v else hpG wz a q (k + 1) m k (woG wz (a + k * q) q) := rfl
theorem zX9_worthOf (X : EX) {h0 : HP} (F0 : Fx h0) {n : Nat} {D : Nat → DD} (md0 : MkD h0 n D) {s : Nat} (hs : s < 1296) (y : Int32) : Ct X mX9_worthOf 7 0 0 [vR (some 109), vI (nI s), vI y] h0 (RSc (vI (wrM D n (hI h0 117) y s)) h0) := by
  refine ct_of rfl (Nat.le_of_ble_eq_true rfl) ?_
  have F := F0
  have md := md0
  have hn12 := md0.2.1
  have loop : ∀ (m : Nat) (k : Nat) (hz : HP), k + m = 12 → Sc h0 hz → LsC hz n D s → Ev X mX9_worthOf 7 0 0 (RSc (vI (wrM D n (hI h0 117) y s)) h0) 0 0 10 [(0, some (vR (some 109))), (1, some (vI (nI s))), (2, some (vI y)), (3, some (vI (wuG (fun p => nI (owR D n s p)) (hI h0 117) s y k))), (4, some (vI (nI k)))] [] hz := by
    intro m
    induction m with
    | zero =>
      intro k hz hk S LZ
      obtain rfl : k = 12 := by omega
      have F := S.F F0
      have md := S.md md0
      refine e_iload aX9_worthOf_10 rfl ?_
      refine e_bipush (v := 12) aX9_worthOf_12 (by decide) ?_
      refine e_icmp_ge aX9_worthOf_14 (fun c14 => ?_) (fun c14 => ?_)
      · -- 14: taken
        refine e_iload_n aX9_worthOf_51 rfl ?_
        refine e_ireturn aX9_worthOf_52 rfl (Nat.le_refl _) (Nat.le_refl _) ?_
        exact ⟨rfl, S⟩
      · -- 14: not taken
        exact absurd (nI_le (a := 12) (b := 12) (by decide) (by decide)) c14
    | succ m ih =>
      intro k hz hk S LZ
      have F := S.F F0
      have md := S.md md0
      refine e_iload aX9_worthOf_10 rfl ?_
      refine e_bipush (v := 12) aX9_worthOf_12 (by decide) ?_
      refine e_icmp_ge aX9_worthOf_14 (fun c14 => ?_) (fun c14 => ?_)
      · -- 14: taken
        exact absurd c14 (nI_ge (a := k) (b := 12) (by omega) (by decide))
      · -- 14: not taken
        refine e_iload_n aX9_worthOf_17 rfl ?_
        refine e_aload_n aX9_worthOf_18 rfl ?_
        refine e_iload aX9_worthOf_19 rfl ?_
        refine e_invv aX9_worthOf_21 kX9_219 (zX9_ownerOf X F md LZ (p := k) (by omega)) rfl rfl (fx_is F rfl) (Nat.le_of_ble_eq_true rfl) (Nat.le_of_ble_eq_true rfl) (Nat.le_refl _) (Nat.le_refl _) (Nat.le_of_ble_eq_true rfl) ?_
        rintro v h2 ⟨rfl, S1⟩
        have S2 := S.tr S1.up
        have F := S2.F F0
        refine e_iload_n aX9_worthOf_24 rfl ?_
        refine e_icmp_ne aX9_worthOf_25 (fun c25 => ?_) (fun c25 => ?_)
        · -- 25: taken
          refine e_iconst (v := 0) aX9_worthOf_42 (by decide) ?_
          refine e_iadd aX9_worthOf_43 ?_
          refine e_istore_n aX9_worthOf_44 (Nat.le_of_ble_eq_true rfl) ?_
          refine e_iinc aX9_worthOf_45 rfl rfl (Nat.le_of_ble_eq_true rfl) ?_
          refine e_goto aX9_worthOf_48 ?_
          refine e_ls (ls' := [(0, some (vR (some 109))), (1, some (vI (nI s))), (2, some (vI y)), (3, some (vI (wuG (fun p => nI (owR D n s p)) (hI h0 117) s y (k + 1)))), (4, some (vI (nI (k + 1))))]) ⟨rfl, rfl, rfl, congrArg (fun x => some (vI x)) (by rw [wuG_s, if_neg c25, Int32.add_zero]), congrArg (fun x => some (vI x)) (nI_1 k), trivial⟩ ?_
          exact ih (k + 1) h2 (by omega) S2 (LZ.c1 S1)
        · -- 25: not taken
          refine e_aload_n aX9_worthOf_28 rfl ?_
          refine e_getRF aX9_worthOf_29 fX9_35 rfl (fx_is F rfl) (fx_r (b := 117) F rfl) ?_
          refine e_iload_n aX9_worthOf_32 rfl ?_
          refine e_iload aX9_worthOf_33 rfl ?_
          refine e_invsT aX9_worthOf_35 kX9_139 (zX9_placeOf X hs (p := k) (by omega)) rfl rfl (Nat.le_of_ble_eq_true rfl) (Nat.le_of_ble_eq_true rfl) (Nat.le_refl _) (Nat.le_refl _) (Nat.le_of_ble_eq_true rfl) ?_
          refine e_ialoadF aX9_worthOf_38 (fx_is F rfl) (fx_n (n := 3) F rfl) (vin (N := 3) (pl_lt s k)) (show hI h2 117 (nI (pl s k)).toNatClampNeg = hI h0 117 (pl s k) by rw [cl (by have := pl_lt s k; omega)]; exact S2.2 _ _ (by unfold sc0; omega)) ?_
          refine e_goto aX9_worthOf_39 ?_
          refine e_iadd aX9_worthOf_43 ?_
          refine e_istore_n aX9_worthOf_44 (Nat.le_of_ble_eq_true rfl) ?_
          refine e_iinc aX9_worthOf_45 rfl rfl (Nat.le_of_ble_eq_true rfl) ?_
          refine e_goto aX9_worthOf_48 ?_
          refine e_ls (ls' := [(0, some (vR (some 109))), (1, some (vI (nI s))), (2, some (vI y)), (3, some (vI (wuG (fun p => nI (owR D n s p)) (hI h0 117) s y (k + 1)))), (4, some (vI (nI (k + 1))))]) ⟨rfl, rfl, rfl, congrArg (fun x => some (vI x)) (by rw [wuG_s, if_pos c25]), congrArg (fun x => some (vI x)) (nI_1 k), trivial⟩ ?_
          exact ih (k + 1) h2 (by omega) S2 (LZ.c1 S1)
  refine e_aload_n aX9_worthOf_0 rfl ?_
  refine e_iload_n aX9_worthOf_1 rfl ?_
  refine e_invv aX9_worthOf_2 kX9_170 (zX9_laysOut X F md hs) rfl rfl (fx_is F rfl) (Nat.le_of_ble_eq_true rfl) (Nat.le_of_ble_eq_true rfl) (Nat.le_refl _) (Nat.le_refl _) (Nat.le_of_ble_eq_true rfl) ?_
  rintro v h2 ⟨rfl, S, LZ⟩
  refine e_iconst (v := 0) aX9_worthOf_5 (by decide) ?_
  refine e_istore_n aX9_worthOf_6 (Nat.le_of_ble_eq_true rfl) ?_
  refine e_iconst (v := 0) aX9_worthOf_7 (by decide) ?_
  refine e_istore aX9_worthOf_8 (Nat.le_of_ble_eq_true rfl) ?_
  refine e_ls (ls' := [(0, some (vR (some 109))), (1, some (vI (nI s))), (2, some (vI y)), (3, some (vI (wuG (fun p => nI (owR D n s p)) (hI h0 117) s y 0))), (4, some (vI (nI 0)))]) ⟨rfl, rfl, rfl, rfl, rfl, trivial⟩ ?_
  exact loop 12 0 h2 rfl S LZ
/-- over a heap whose scratch has changed -/
theorem zworthOf (X : EX) {h0 hz : HP} (F0 : Fx h0) {n : Nat} {D : Nat → DD} (md0 : MkD h0 n D) (S : Sc h0 hz) {s : Nat} (hs : s < 1296) (y : Int32) : Ct X mX9_worthOf 7 0 0 [vR (some 109), vI (nI s), vI y] hz (RSc (vI (wrM D n (hI h0 117) y s)) h0) := by
  have e : hI hz 117 = hI h0 117 := funext (fun j => S.2 _ _ (by unfold sc0; omega))
  rw [← e]
  exact ct_post (zX9_worthOf X (S.F F0) (S.md md0) hs y) (fun v h' q => ⟨q.1, S.tr q.2⟩)
theorem zX9_worth (X : EX) {h0 : HP} (F0 : Fx h0) {f n : Nat} {o : Nat → Nat} {D : Nat → DD} (mf0 : MkF h0 f o) (md0 : MkD h0 n D) (x y : Int32) : Ct X mX9_worth 8 0 0 [vR (some 109), vI x, vI y] h0 (if nI (fo o f) ≤ x ∧ x < nI (fo o f + om f) then if y < 0 ∨ 3 ≤ y then RM h0 0 else RSc (vI (wrM D n (hI h0 117) y x.toNatClampNeg)) h0 else RM h0 0) := by
  refine ct_of rfl (Nat.le_of_ble_eq_true rfl) ?_
  have F := F0
  have md := md0
  have mf := mf0
  have hn12 := md0.2.1
  have hf4 := mf0.2.1
  have hb6 := om_fo mf0.2.1 mf0.2.2.2
  have hom := om_pos mf0.2.1
  refine e_aload_n aX9_worth_0 rfl ?_
  refine e_iload_n aX9_worth_1 rfl ?_
  refine e_invvT aX9_worth_2 kX9_222 (zX9_isOpen X F mf _) rfl rfl (fx_is F rfl) (Nat.le_of_ble_eq_true rfl) (Nat.le_of_ble_eq_true rfl) (Nat.le_refl _) (Nat.le_refl _) (Nat.le_of_ble_eq_true rfl) ?_
  refine e_if_eq aX9_worth_5 (fun c5 => ?_) (fun c5 => ?_)
  · -- 5: taken
    have q5 := b2_0.mp c5
    refine e_aload_n aX9_worth_24 rfl ?_
    refine e_iconst (v := 0) aX9_worth_25 (by decide) ?_
    refine e_invvT aX9_worth_26 kX9_128 (zX9_finds X F (k := 0) (by decide)) rfl rfl (fx_is F rfl) (Nat.le_of_ble_eq_true rfl) (Nat.le_of_ble_eq_true rfl) (Nat.le_refl _) (Nat.le_refl _) (Nat.le_of_ble_eq_true rfl) ?_
    refine e_ireturn aX9_worth_29 rfl (Nat.le_refl _) (Nat.le_refl _) ?_
    rw [if_neg q5]
    exact ⟨rfl, rfl⟩
  · -- 5: not taken
    have q5 := Decidable.of_not_not (fun z => c5 (b2_0.mpr z))
    refine e_iload_n aX9_worth_8 rfl ?_
    refine e_invsT aX9_worth_9 kX9_191 (zX9_isClub X _) rfl rfl (Nat.le_of_ble_eq_true rfl) (Nat.le_of_ble_eq_true rfl) (Nat.le_refl _) (Nat.le_refl _) (Nat.le_of_ble_eq_true rfl) ?_
    refine e_if_eq aX9_worth_12 (fun c12 => ?_) (fun c12 => ?_)
    · -- 12: taken
      have q12 := Decidable.of_not_not (b2_0.mp c12)
      refine e_aload_n aX9_worth_24 rfl ?_
      refine e_iconst (v := 0) aX9_worth_25 (by decide) ?_
      refine e_invvT aX9_worth_26 kX9_128 (zX9_finds X F (k := 0) (by decide)) rfl rfl (fx_is F rfl) (Nat.le_of_ble_eq_true rfl) (Nat.le_of_ble_eq_true rfl) (Nat.le_refl _) (Nat.le_refl _) (Nat.le_of_ble_eq_true rfl) ?_
      refine e_ireturn aX9_worth_29 rfl (Nat.le_refl _) (Nat.le_refl _) ?_
      rw [if_pos q5, if_pos q12]
      exact ⟨rfl, rfl⟩
    · -- 12: not taken
      have q12 := Decidable.of_not_not (fun z => c12 (b2_0.mpr z))
      obtain ⟨sz, hs1, hs2, rfl⟩ := opn_of (Nat.le_add_right _ _) hb6 q5
      refine e_aload_n aX9_worth_15 rfl ?_
      refine e_iload_n aX9_worth_16 rfl ?_
      refine e_iload_n aX9_worth_17 rfl ?_
      refine e_invv aX9_worth_18 kX9_233 (zX9_worthOf X F md (s := sz) (by omega) y) rfl rfl (fx_is F rfl) (Nat.le_of_ble_eq_true rfl) (Nat.le_of_ble_eq_true rfl) (Nat.le_refl _) (Nat.le_refl _) (Nat.le_of_ble_eq_true rfl) ?_
      rintro v h2 ⟨rfl, S⟩
      refine e_goto aX9_worth_21 ?_
      refine e_ireturn aX9_worth_29 rfl (Nat.le_refl _) (Nat.le_refl _) ?_
      rw [if_pos q5, if_neg q12, cl (by omega)]
      exact ⟨rfl, S⟩
theorem zX9_valueFrom (X : EX) {h0 : HP} (F0 : Fx h0) {n : Nat} {D : Nat → DD} (md0 : MkD h0 n D) {a q : Nat} (ha : a + q ≤ 1296) (y : Int32) : Ct X mX9_valueFrom 8 0 0 [vR (some 109), vI (nI a), vI (nI q), vI y] h0 (RSc (vL (woG (wrM D n (hI h0 117) y) a q)) h0) := by
  refine ct_of rfl (Nat.le_of_ble_eq_true rfl) ?_
  have F := F0
  have md := md0
  have hn12 := md0.2.1
  have loop : ∀ (m : Nat) (k : Nat) (hz : HP), k + m = q → Sc h0 hz → Ev X mX9_valueFrom 8 0 0 (RSc (vL (woG (wrM D n (hI h0 117) y) a q)) h0) 0 0 6 [(0, some (vR (some 109))), (1, some (vI (nI a))), (2, some (vI (nI q))), (3, some (vI y)), (4, some (vL (woG (wrM D n (hI h0 117) y) a k))), (6, some (vI (nI (a + k))))] [] hz := by
    intro m
    induction m with
    | zero =>
      intro k hz hk S
      obtain rfl : k = q := by omega
      have F := S.F F0
      have md := S.md md0
      refine e_iload aX9_valueFrom_6 rfl ?_
      refine e_iload_n aX9_valueFrom_8 rfl ?_
      refine e_iload_n aX9_valueFrom_9 rfl ?_
      refine e_iadd aX9_valueFrom_10 ?_
      refine e_top (nI_add _ _) ?_
      refine e_icmp_ge aX9_valueFrom_11 (fun c11 => ?_) (fun c11 => ?_)
      · -- 11: taken
        refine e_lload aX9_valueFrom_33 rfl ?_
        refine e_lreturn aX9_valueFrom_35 rfl (Nat.le_refl _) (Nat.le_refl _) ?_
        exact ⟨rfl, S⟩
      · -- 11: not taken
        exact absurd (nI_le (by omega) (by omega)) c11
    | succ m ih =>
      intro k hz hk S
      have F := S.F F0
      have md := S.md md0
      refine e_iload aX9_valueFrom_6 rfl ?_
      refine e_iload_n aX9_valueFrom_8 rfl ?_
      refine e_iload_n aX9_valueFrom_9 rfl ?_
      refine e_iadd aX9_valueFrom_10 ?_
      refine e_top (nI_add _ _) ?_
      refine e_icmp_ge aX9_valueFrom_11 (fun c11 => ?_) (fun c11 => ?_)
      · -- 11: taken
        exact absurd c11 (nI_ge (by omega) (by omega))
      · -- 11: not taken
        refine e_lload aX9_valueFrom_14 rfl ?_
        refine e_aload_n aX9_valueFrom_16 rfl ?_
        refine e_iload aX9_valueFrom_17 rfl ?_
        refine e_iload_n aX9_valueFrom_19 rfl ?_
        refine e_invv aX9_valueFrom_20 kX9_233 (zworthOf X F0 md0 S (s := a + k) (by omega) y) rfl rfl (fx_is F rfl) (Nat.le_of_ble_eq_true rfl) (Nat.le_of_ble_eq_true rfl) (Nat.le_refl _) (Nat.le_refl _) (Nat.le_of_ble_eq_true rfl) ?_
        rintro v h2 ⟨rfl, S1⟩
        refine e_i2l aX9_valueFrom_23 ?_
        refine e_ladd aX9_valueFrom_24 ?_
        refine e_lstore aX9_valueFrom_25 (Nat.le_of_ble_eq_true rfl) ?_
        refine e_iinc aX9_valueFrom_27 rfl rfl (Nat.le_of_ble_eq_true rfl) ?_
        refine e_goto aX9_valueFrom_30 ?_
        refine e_ls (ls' := [(0, some (vR (some 109))), (1, some (vI (nI a))), (2, some (vI (nI q))), (3, some (vI y)), (4, some (vL (woG (wrM D n (hI h0 117) y) a (k + 1)))), (6, some (vI (nI (a + (k + 1)))))]) ⟨rfl, rfl, rfl, rfl, rfl, congrArg (fun x => some (vI x)) (nI_1 (a + k)), trivial⟩ ?_
        exact ih (k + 1) h2 (by omega) S1
  refine e_lconst (v := 0) aX9_valueFrom_0 rfl ?_
  refine e_lstore aX9_valueFrom_1 (Nat.le_of_ble_eq_true rfl) ?_
  refine e_iload_n aX9_valueFrom_3 rfl ?_
  refine e_istore aX9_valueFrom_4 (Nat.le_of_ble_eq_true rfl) ?_
  refine e_ls (ls' := [(0, some (vR (some 109))), (1, some (vI (nI a))), (2, some (vI (nI q))), (3, some (vI y)), (4, some (vL (woG (wrM D n (hI h0 117) y) a 0))), (6, some (vI (nI (a + 0))))]) ⟨rfl, rfl, rfl, rfl, rfl, rfl, trivial⟩ ?_
  exact loop q 0 h0 (by omega) (Sf.rf h0)
theorem zvalueFrom (X : EX) {h0 hz : HP} (F0 : Fx h0) {n : Nat} {D : Nat → DD} (md0 : MkD h0 n D) (S : Sc h0 hz) {a q : Nat} (ha : a + q ≤ 1296) (y : Int32) : Ct X mX9_valueFrom 8 0 0 [vR (some 109), vI (nI a), vI (nI q), vI y] hz (RSc (vL (woG (wrM D n (hI h0 117) y) a q)) h0) := by
  have e : hI hz 117 = hI h0 117 := funext (fun j => S.2 _ _ (by unfold sc0; omega))
  rw [← e]
  exact ct_post (zX9_valueFrom X (S.F F0) (S.md md0) ha y) (fun v h' q => ⟨q.1, S.tr q.2⟩)
theorem zX9_value (X : EX) {h0 : HP} (F0 : Fx h0) {f n : Nat} {o : Nat → Nat} {D : Nat → DD} (mf0 : MkF h0 f o) (md0 : MkD h0 n D) (x : Int32) : Ct X mX9_value 9 0 0 [vR (some 109), vI x] h0 (if x < 0 ∨ 3 ≤ x then RML h0 0 else RSc (vL (woG (wrM D n (hI h0 117) x) (fo o f) (om f))) h0) := by
  refine ct_of rfl (Nat.le_of_ble_eq_true rfl) ?_
  have F := F0
  have md := md0
  have mf := mf0
  have hn12 := md0.2.1
  have hf4 := mf0.2.1
  have hb6 := om_fo mf0.2.1 mf0.2.2.2
  have hom := om_pos mf0.2.1
  refine e_iload_n aX9_value_0 rfl ?_
  refine e_invsT aX9_value_1 kX9_191 (zX9_isClub X _) rfl rfl (Nat.le_of_ble_eq_true rfl) (Nat.le_of_ble_eq_true rfl) (Nat.le_refl _) (Nat.le_refl _) (Nat.le_of_ble_eq_true rfl) ?_
  refine e_if_eq aX9_value_4 (fun c4 => ?_) (fun c4 => ?_)
  · -- 4: taken
    have q4 := Decidable.of_not_not (b2_0.mp c4)
    refine e_aload_n aX9_value_23 rfl ?_
    refine e_iconst (v := 0) aX9_value_24 (by decide) ?_
    refine e_invvT aX9_value_25 kX9_240 (zX9_findsFar X F (k := 0) (by decide)) rfl rfl (fx_is F rfl) (Nat.le_of_ble_eq_true rfl) (Nat.le_of_ble_eq_true rfl) (Nat.le_refl _) (Nat.le_refl _) (Nat.le_of_ble_eq_true rfl) ?_
    refine e_lreturn aX9_value_28 rfl (Nat.le_refl _) (Nat.le_refl _) ?_
    rw [if_pos q4]
    exact ⟨rfl, rfl⟩
  · -- 4: not taken
    have q4 := Decidable.of_not_not (fun z => c4 (b2_0.mpr z))
    refine e_aload_n aX9_value_7 rfl ?_
    refine e_aload_n aX9_value_8 rfl ?_
    refine e_invvT aX9_value_9 kX9_119 (zX9_openFrom X F mf) rfl rfl (fx_is F rfl) (Nat.le_of_ble_eq_true rfl) (Nat.le_of_ble_eq_true rfl) (Nat.le_refl _) (Nat.le_refl _) (Nat.le_of_ble_eq_true rfl) ?_
    refine e_aload_n aX9_value_12 rfl ?_
    refine e_invvT aX9_value_13 kX9_123 (zX9_openMany X F mf) rfl rfl (fx_is F rfl) (Nat.le_of_ble_eq_true rfl) (Nat.le_of_ble_eq_true rfl) (Nat.le_refl _) (Nat.le_refl _) (Nat.le_of_ble_eq_true rfl) ?_
    refine e_iload_n aX9_value_16 rfl ?_
    refine e_invv aX9_value_17 kX9_236 (zX9_valueFrom X F md hb6 x) rfl rfl (fx_is F rfl) (Nat.le_of_ble_eq_true rfl) (Nat.le_of_ble_eq_true rfl) (Nat.le_refl _) (Nat.le_refl _) (Nat.le_of_ble_eq_true rfl) ?_
    rintro v h2 ⟨rfl, S⟩
    refine e_goto aX9_value_20 ?_
    refine e_lreturn aX9_value_28 rfl (Nat.le_refl _) (Nat.le_refl _) ?_
    rw [if_neg q4]
    exact ⟨rfl, S⟩
theorem zX9_best (X : EX) {h0 : HP} (F0 : Fx h0) {f n : Nat} {o : Nat → Nat} {D : Nat → DD} (mf0 : MkF h0 f o) (md0 : MkD h0 n D) (x y : Int32) : Ct X mX9_best 8 0 0 [vR (some 109), vI x, vI y] h0 (if x < 0 ∨ 3 ≤ x then RM h0 0 else if y < 0 ∨ 2 ≤ y then RM h0 0 else (RSc (vI (nI (bsG (wrM D n (hI h0 117) x) y (fo o f + 1) (om f - 1) (fo o f) ((wrM D n (hI h0 117) x) (fo o f))))) h0)) := by
  refine ct_of rfl (Nat.le_of_ble_eq_true rfl) ?_
  have F := F0
  have md := md0
  have mf := mf0
  have hn12 := md0.2.1
  have hf4 := mf0.2.1
  have hb6 := om_fo mf0.2.1 mf0.2.2.2
  have hom := om_pos mf0.2.1
  refine e_iload_n aX9_best_0 rfl ?_
  refine e_invsT aX9_best_1 kX9_191 (zX9_isClub X _) rfl rfl (Nat.le_of_ble_eq_true rfl) (Nat.le_of_ble_eq_true rfl) (Nat.le_refl _) (Nat.le_refl _) (Nat.le_of_ble_eq_true rfl) ?_
  refine e_if_eq aX9_best_4 (fun c4 => ?_) (fun c4 => ?_)
  · -- 4: taken
    have q4 := Decidable.of_not_not (b2_0.mp c4)
    refine e_aload_n aX9_best_17 rfl ?_
    refine e_iconst (v := 0) aX9_best_18 (by decide) ?_
    refine e_invvT aX9_best_19 kX9_128 (zX9_finds X F (k := 0) (by decide)) rfl rfl (fx_is F rfl) (Nat.le_of_ble_eq_true rfl) (Nat.le_of_ble_eq_true rfl) (Nat.le_refl _) (Nat.le_refl _) (Nat.le_of_ble_eq_true rfl) ?_
    refine e_ireturn aX9_best_22 rfl (Nat.le_refl _) (Nat.le_refl _) ?_
    rw [if_pos q4]
    exact ⟨rfl, rfl⟩
  · -- 4: not taken
    have q4 := Decidable.of_not_not (fun z => c4 (b2_0.mpr z))
    refine e_iload_n aX9_best_7 rfl ?_
    refine e_i2l aX9_best_8 ?_
    refine e_lconst (v := 0) aX9_best_9 rfl ?_
    refine e_lconst (v := 1) aX9_best_10 rfl ?_
    refine e_invsT aX9_best_11 kX9_108 (zic X _ 2 (N := 2) rfl (by decide) (by decide) rfl) rfl rfl (Nat.le_of_ble_eq_true rfl) (Nat.le_of_ble_eq_true rfl) (Nat.le_refl _) (Nat.le_refl _) (Nat.le_of_ble_eq_true rfl) ?_
    refine e_if_ne aX9_best_14 (fun c14 => ?_) (fun c14 => ?_)
    · -- 14: taken
      have q14 := Decidable.of_not_not (fun z => c14 (b2_0.mpr z))
      rw [if_neg q4, if_neg q14]
      have loop : ∀ (m : Nat) (k cz : Nat) (vz : Int32) (hz : HP), k + m = fo o f + om f → Sc h0 hz → bsG (wrM D n (hI h0 117) x) y k m cz vz = (bsG (wrM D n (hI h0 117) x) y (fo o f + 1) (om f - 1) (fo o f) ((wrM D n (hI h0 117) x) (fo o f))) → Ev X mX9_best 8 0 0 (RSc (vI (nI (bsG (wrM D n (hI h0 117) x) y (fo o f + 1) (om f - 1) (fo o f) ((wrM D n (hI h0 117) x) (fo o f))))) h0) 0 0 44 [(0, some (vR (some 109))), (1, some (vI x)), (2, some (vI y)), (3, some (vI (nI (fo o f)))), (4, some (vI (nI cz))), (5, some (vI vz)), (6, some (vI (nI k)))] [] hz := by
        intro m
        induction m with
        | zero =>
          intro k cz vz hz hk S hR9
          obtain rfl : k = fo o f + om f := by omega
          have F := S.F F0
          have md := S.md md0
          have mf := S.mf mf0
          refine e_iload aX9_best_44 rfl ?_
          refine e_iload_n aX9_best_46 rfl ?_
          refine e_aload_n aX9_best_47 rfl ?_
          refine e_invvT aX9_best_48 kX9_123 (zX9_openMany X F mf) rfl rfl (fx_is F rfl) (Nat.le_of_ble_eq_true rfl) (Nat.le_of_ble_eq_true rfl) (Nat.le_refl _) (Nat.le_refl _) (Nat.le_of_ble_eq_true rfl) ?_
          refine e_iadd aX9_best_51 ?_
          refine e_top (nI_add _ _) ?_
          refine e_icmp_ge aX9_best_52 (fun c52 => ?_) (fun c52 => ?_)
          · -- 52: taken
            refine e_iload aX9_best_99 rfl ?_
            refine e_ireturn aX9_best_101 rfl (Nat.le_refl _) (Nat.le_refl _) ?_
            rw [← hR9]
            exact ⟨rfl, S⟩
          · -- 52: not taken
            exact absurd (nI_le (by omega) (by omega)) c52
        | succ m ih =>
          intro k cz vz hz hk S hR9
          have F := S.F F0
          have md := S.md md0
          have mf := S.mf mf0
          refine e_iload aX9_best_44 rfl ?_
          refine e_iload_n aX9_best_46 rfl ?_
          refine e_aload_n aX9_best_47 rfl ?_
          refine e_invvT aX9_best_48 kX9_123 (zX9_openMany X F mf) rfl rfl (fx_is F rfl) (Nat.le_of_ble_eq_true rfl) (Nat.le_of_ble_eq_true rfl) (Nat.le_refl _) (Nat.le_refl _) (Nat.le_of_ble_eq_true rfl) ?_
          refine e_iadd aX9_best_51 ?_
          refine e_top (nI_add _ _) ?_
          refine e_icmp_ge aX9_best_52 (fun c52 => ?_) (fun c52 => ?_)
          · -- 52: taken
            exact absurd c52 (nI_ge (by omega) (by omega))
          · -- 52: not taken
            refine e_aload_n aX9_best_55 rfl ?_
            refine e_iload aX9_best_56 rfl ?_
            refine e_iload_n aX9_best_58 rfl ?_
            refine e_invv aX9_best_59 kX9_233 (zworthOf X F0 md0 S (s := k) (by omega) x) rfl rfl (fx_is F rfl) (Nat.le_of_ble_eq_true rfl) (Nat.le_of_ble_eq_true rfl) (Nat.le_refl _) (Nat.le_refl _) (Nat.le_of_ble_eq_true rfl) ?_
            rintro v h2 ⟨rfl, S1⟩
            refine e_istore aX9_best_62 (Nat.le_of_ble_eq_true rfl) ?_
            refine e_iload_n aX9_best_64 rfl ?_
            refine e_if_ne aX9_best_65 (fun c65 => ?_) (fun c65 => ?_)
            · -- 65: taken
              have q65 : ¬ y = 0 := c65
              refine e_iload aX9_best_78 rfl ?_
              refine e_iload aX9_best_80 rfl ?_
              refine e_icmp_ge aX9_best_82 (fun c82 => ?_) (fun c82 => ?_)
              · -- 82: taken
                have q82 : ¬ (wrM D n (hI h0 117) x) k < vz := Int32.not_lt.mpr c82
                refine e_iinc aX9_best_93 rfl rfl (Nat.le_of_ble_eq_true rfl) ?_
                refine e_goto aX9_best_96 ?_
                refine e_ls (ls' := [(0, some (vR (some 109))), (1, some (vI x)), (2, some (vI y)), (3, some (vI (nI (fo o f)))), (4, some (vI (nI cz))), (5, some (vI vz)), (6, some (vI (nI (k + 1))))]) ⟨rfl, rfl, rfl, rfl, rfl, rfl, congrArg (fun x => some (vI x)) (nI_1 k), trivial⟩ ?_
                exact ih (k + 1) cz vz h2 (by omega) S1 (by rw [← hR9, bsG_s, if_neg (show ¬ (if y = 0 then vz < (wrM D n (hI h0 117) x) k else (wrM D n (hI h0 117) x) k < vz) by rw [if_neg q65]; exact q82)])
              · -- 82: not taken
                have q82 : (wrM D n (hI h0 117) x) k < vz := Int32.not_le.mp c82
                refine e_iload aX9_best_85 rfl ?_
                refine e_istore aX9_best_87 (Nat.le_of_ble_eq_true rfl) ?_
                refine e_iload aX9_best_89 rfl ?_
                refine e_istore aX9_best_91 (Nat.le_of_ble_eq_true rfl) ?_
                refine e_iinc aX9_best_93 rfl rfl (Nat.le_of_ble_eq_true rfl) ?_
                refine e_goto aX9_best_96 ?_
                refine e_ls (ls' := [(0, some (vR (some 109))), (1, some (vI x)), (2, some (vI y)), (3, some (vI (nI (fo o f)))), (4, some (vI (nI k))), (5, some (vI ((wrM D n (hI h0 117) x) k))), (6, some (vI (nI (k + 1))))]) ⟨rfl, rfl, rfl, rfl, rfl, rfl, congrArg (fun x => some (vI x)) (nI_1 k), trivial⟩ ?_
                exact ih (k + 1) k ((wrM D n (hI h0 117) x) k) h2 (by omega) S1 (by rw [← hR9, bsG_s, if_pos (show (if y = 0 then vz < (wrM D n (hI h0 117) x) k else (wrM D n (hI h0 117) x) k < vz) by rw [if_neg q65]; exact q82)])
            · -- 65: not taken
              have q65 : y = 0 := c65
              refine e_iload aX9_best_68 rfl ?_
              refine e_iload aX9_best_70 rfl ?_
              refine e_icmp_le aX9_best_72 (fun c72 => ?_) (fun c72 => ?_)
              · -- 72: taken
                have q72 : ¬ vz < (wrM D n (hI h0 117) x) k := Int32.not_lt.mpr c72
                refine e_iinc aX9_best_93 rfl rfl (Nat.le_of_ble_eq_true rfl) ?_
                refine e_goto aX9_best_96 ?_
                refine e_ls (ls' := [(0, some (vR (some 109))), (1, some (vI x)), (2, some (vI y)), (3, some (vI (nI (fo o f)))), (4, some (vI (nI cz))), (5, some (vI vz)), (6, some (vI (nI (k + 1))))]) ⟨rfl, rfl, rfl, rfl, rfl, rfl, congrArg (fun x => some (vI x)) (nI_1 k), trivial⟩ ?_
                exact ih (k + 1) cz vz h2 (by omega) S1 (by rw [← hR9, bsG_s, if_neg (show ¬ (if y = 0 then vz < (wrM D n (hI h0 117) x) k else (wrM D n (hI h0 117) x) k < vz) by rw [if_pos q65]; exact q72)])
              · -- 72: not taken
                have q72 : vz < (wrM D n (hI h0 117) x) k := Int32.not_le.mp c72
                refine e_goto aX9_best_75 ?_
                refine e_iload aX9_best_85 rfl ?_
                refine e_istore aX9_best_87 (Nat.le_of_ble_eq_true rfl) ?_
                refine e_iload aX9_best_89 rfl ?_
                refine e_istore aX9_best_91 (Nat.le_of_ble_eq_true rfl) ?_
                refine e_iinc aX9_best_93 rfl rfl (Nat.le_of_ble_eq_true rfl) ?_
                refine e_goto aX9_best_96 ?_
                refine e_ls (ls' := [(0, some (vR (some 109))), (1, some (vI x)), (2, some (vI y)), (3, some (vI (nI (fo o f)))), (4, some (vI (nI k))), (5, some (vI ((wrM D n (hI h0 117) x) k))), (6, some (vI (nI (k + 1))))]) ⟨rfl, rfl, rfl, rfl, rfl, rfl, congrArg (fun x => some (vI x)) (nI_1 k), trivial⟩ ?_
                exact ih (k + 1) k ((wrM D n (hI h0 117) x) k) h2 (by omega) S1 (by rw [← hR9, bsG_s, if_pos (show (if y = 0 then vz < (wrM D n (hI h0 117) x) k else (wrM D n (hI h0 117) x) k < vz) by rw [if_pos q65]; exact q72)])
      refine e_aload_n aX9_best_23 rfl ?_
      refine e_invvT aX9_best_24 kX9_119 (zX9_openFrom X F mf) rfl rfl (fx_is F rfl) (Nat.le_of_ble_eq_true rfl) (Nat.le_of_ble_eq_true rfl) (Nat.le_refl _) (Nat.le_refl _) (Nat.le_of_ble_eq_true rfl) ?_
      refine e_istore_n aX9_best_27 (Nat.le_of_ble_eq_true rfl) ?_
      refine e_iload_n aX9_best_28 rfl ?_
      refine e_istore aX9_best_29 (Nat.le_of_ble_eq_true rfl) ?_
      refine e_aload_n aX9_best_31 rfl ?_
      refine e_iload_n aX9_best_32 rfl ?_
      refine e_iload_n aX9_best_33 rfl ?_
      refine e_invv aX9_best_34 kX9_233 (zX9_worthOf X F md (s := fo o f) (by omega) x) rfl rfl (fx_is F rfl) (Nat.le_of_ble_eq_true rfl) (Nat.le_of_ble_eq_true rfl) (Nat.le_refl _) (Nat.le_refl _) (Nat.le_of_ble_eq_true rfl) ?_
      rintro v h2 ⟨rfl, S⟩
      refine e_istore aX9_best_37 (Nat.le_of_ble_eq_true rfl) ?_
      refine e_iload_n aX9_best_39 rfl ?_
      refine e_iconst (v := 1) aX9_best_40 (by decide) ?_
      refine e_iadd aX9_best_41 ?_
      refine e_top (nI_1 _) ?_
      refine e_istore aX9_best_42 (Nat.le_of_ble_eq_true rfl) ?_
      refine e_ls (ls' := [(0, some (vR (some 109))), (1, some (vI x)), (2, some (vI y)), (3, some (vI (nI (fo o f)))), (4, some (vI (nI (fo o f)))), (5, some (vI ((wrM D n (hI h0 117) x) (fo o f)))), (6, some (vI (nI (fo o f + 1))))]) ⟨rfl, rfl, rfl, rfl, rfl, rfl, rfl, trivial⟩ ?_
      exact loop (om f - 1) (fo o f + 1) (fo o f) ((wrM D n (hI h0 117) x) (fo o f)) h2 (by omega) S rfl
    · -- 14: not taken
      have q14 := Decidable.of_not_not (b2_0.mp c14)
      refine e_aload_n aX9_best_17 rfl ?_
      refine e_iconst (v := 0) aX9_best_18 (by decide) ?_
      refine e_invvT aX9_best_19 kX9_128 (zX9_finds X F (k := 0) (by decide)) rfl rfl (fx_is F rfl) (Nat.le_of_ble_eq_true rfl) (Nat.le_of_ble_eq_true rfl) (Nat.le_refl _) (Nat.le_refl _) (Nat.le_of_ble_eq_true rfl) ?_
      refine e_ireturn aX9_best_22 rfl (Nat.le_refl _) (Nat.le_refl _) ?_
      rw [if_neg q4, if_pos q14]
      exact ⟨rfl, rfl⟩
theorem zX9_hope (X : EX) {h0 : HP} (F0 : Fx h0) {f n : Nat} {o : Nat → Nat} {D : Nat → DD} (mf0 : MkF h0 f o) (md0 : MkD h0 n D) (x : Int32) : Ct X mX9_hope 9 0 0 [vR (some 109), vI x] h0 (if x < 0 ∨ 3 ≤ x then RM h0 0 else if 4 ≤ f then RM h0 3 else (RSc (vI (nI (hpG (wrM D n (hI h0 117) x) (fo o f) (stp f) 0 6 0 (-1)))) h0)) := by
  refine ct_of rfl (Nat.le_of_ble_eq_true rfl) ?_
  have F := F0
  have md := md0
  have mf := mf0
  have hn12 := md0.2.1
  have hf4 := mf0.2.1
  have hb6 := om_fo mf0.2.1 mf0.2.2.2
  have hom := om_pos mf0.2.1
  refine e_iload_n aX9_hope_0 rfl ?_
  refine e_invsT aX9_hope_1 kX9_191 (zX9_isClub X _) rfl rfl (Nat.le_of_ble_eq_true rfl) (Nat.le_of_ble_eq_true rfl) (Nat.le_refl _) (Nat.le_refl _) (Nat.le_of_ble_eq_true rfl) ?_
  refine e_if_ne aX9_hope_4 (fun c4 => ?_) (fun c4 => ?_)
  · -- 4: taken
    have q4 := Decidable.of_not_not (fun z => c4 (b2_0.mpr z))
    refine e_aload_n aX9_hope_13 rfl ?_
    refine e_getIF aX9_hope_14 fX9_116 rfl (fx_is F rfl) mf.1 ?_
    refine e_iconst (v := 4) aX9_hope_17 (by decide) ?_
    refine e_icmp_ne aX9_hope_18 (fun c18 => ?_) (fun c18 => ?_)
    · -- 18: taken
      have q18 : ¬ 4 ≤ f := fun z => c18 (by rw [show f = 4 by omega]; rfl)
      rw [if_neg q4, if_neg q18]
      have hst := stp_om (f := f) (by omega)
      have loop : ∀ (m : Nat) (k cz : Nat) (vz : Int64) (hz : HP), k + m = 6 → Sc h0 hz → hpG (wrM D n (hI h0 117) x) (fo o f) (stp f) k m cz vz = (hpG (wrM D n (hI h0 117) x) (fo o f) (stp f) 0 6 0 (-1)) → Ev X mX9_hope 9 0 0 (RSc (vI (nI (hpG (wrM D n (hI h0 117) x) (fo o f) (stp f) 0 6 0 (-1)))) h0) 0 0 45 [(0, some (vR (some 109))), (1, some (vI x)), (2, some (vI (nI (stp f)))), (3, some (vI (nI cz))), (4, some (vL vz)), (6, some (vI (nI k)))] [] hz := by
        intro m
        induction m with
        | zero =>
          intro k cz vz hz hk S hR9
          obtain rfl : k = 6 := by omega
          have F := S.F F0
          have md := S.md md0
          have mf := S.mf mf0
          refine e_iload aX9_hope_45 rfl ?_
          refine e_bipush (v := 6) aX9_hope_47 (by decide) ?_
          refine e_icmp_ge aX9_hope_49 (fun c49 => ?_) (fun c49 => ?_)
          · -- 49: taken
            refine e_iload_n aX9_hope_107 rfl ?_
            refine e_ireturn aX9_hope_108 rfl (Nat.le_refl _) (Nat.le_refl _) ?_
            rw [← hR9]
            exact ⟨rfl, S⟩
          · -- 49: not taken
            exact absurd (nI_le (a := 6) (b := 6) (by decide) (by decide)) c49
        | succ m ih =>
          intro k cz vz hz hk S hR9
          have F := S.F F0
          have md := S.md md0
          have mf := S.mf mf0
          have hmul : k * stp f + stp f ≤ 6 * stp f := by
            have h1 := Nat.mul_le_mul_right (stp f) (show k + 1 ≤ 6 by omega)
            rw [Nat.add_mul, Nat.one_mul] at h1
            exact h1
          refine e_iload aX9_hope_45 rfl ?_
          refine e_bipush (v := 6) aX9_hope_47 (by decide) ?_
          refine e_icmp_ge aX9_hope_49 (fun c49 => ?_) (fun c49 => ?_)
          · -- 49: taken
            exact absurd c49 (nI_ge (a := k) (b := 6) (by omega) (by decide))
          · -- 49: not taken
            refine e_aload_n aX9_hope_52 rfl ?_
            refine e_aload_n aX9_hope_53 rfl ?_
            refine e_invvT aX9_hope_54 kX9_119 (zX9_openFrom X F mf) rfl rfl (fx_is F rfl) (Nat.le_of_ble_eq_true rfl) (Nat.le_of_ble_eq_true rfl) (Nat.le_refl _) (Nat.le_refl _) (Nat.le_of_ble_eq_true rfl) ?_
            refine e_iload aX9_hope_57 rfl ?_
            refine e_iload_n aX9_hope_59 rfl ?_
            refine e_imul aX9_hope_60 ?_
            refine e_top (nI_mul _ _) ?_
            refine e_iadd aX9_hope_61 ?_
            refine e_top (nI_add _ _) ?_
            refine e_iload_n aX9_hope_62 rfl ?_
            refine e_iload_n aX9_hope_63 rfl ?_
            refine e_invv aX9_hope_64 kX9_236 (zvalueFrom X F0 md0 S (a := fo o f + k * stp f) (q := stp f) (by omega) x) rfl rfl (fx_is F rfl) (Nat.le_of_ble_eq_true rfl) (Nat.le_of_ble_eq_true rfl) (Nat.le_refl _) (Nat.le_refl _) (Nat.le_of_ble_eq_true rfl) ?_
            rintro v h2 ⟨rfl, S1⟩
            refine e_lstore aX9_hope_67 (Nat.le_of_ble_eq_true rfl) ?_
            refine e_lload aX9_hope_69 rfl ?_
            refine e_lload aX9_hope_71 rfl ?_
            refine e_lcmp aX9_hope_73 ?_
            refine e_if_le aX9_hope_74 (fun c74 => ?_) (fun c74 => ?_)
            · -- 74: taken
              refine e_iload_n aX9_hope_82 rfl ?_
              refine e_istore_n aX9_hope_83 (Nat.le_of_ble_eq_true rfl) ?_
              refine e_lload aX9_hope_84 rfl ?_
              refine e_lload aX9_hope_86 rfl ?_
              refine e_lcmp aX9_hope_88 ?_
              refine e_if_le aX9_hope_89 (fun c89 => ?_) (fun c89 => ?_)
              · -- 89: taken
                have q89 := c89
                refine e_lload aX9_hope_97 rfl ?_
                refine e_lstore aX9_hope_99 (Nat.le_of_ble_eq_true rfl) ?_
                refine e_iinc aX9_hope_101 rfl rfl (Nat.le_of_ble_eq_true rfl) ?_
                refine e_goto aX9_hope_104 ?_
                refine e_ls (ls' := [(0, some (vR (some 109))), (1, some (vI x)), (2, some (vI (nI (stp f)))), (3, some (vI (nI cz))), (4, some (vL vz)), (6, some (vI (nI (k + 1))))]) ⟨rfl, rfl, rfl, rfl, rfl, congrArg (fun x => some (vI x)) (nI_1 k), trivial⟩ ?_
                exact ih (k + 1) cz vz h2 (by omega) S1 (by rw [← hR9, hpG_s, if_pos c74])
              · -- 89: not taken
                exact absurd c74 c89
            · -- 74: not taken
              refine e_iload aX9_hope_77 rfl ?_
              refine e_goto aX9_hope_79 ?_
              refine e_istore_n aX9_hope_83 (Nat.le_of_ble_eq_true rfl) ?_
              refine e_lload aX9_hope_84 rfl ?_
              refine e_lload aX9_hope_86 rfl ?_
              refine e_lcmp aX9_hope_88 ?_
              refine e_if_le aX9_hope_89 (fun c89 => ?_) (fun c89 => ?_)
              · -- 89: taken
                exact absurd c89 c74
              · -- 89: not taken
                have q89 := c89
                refine e_lload aX9_hope_92 rfl ?_
                refine e_goto aX9_hope_94 ?_
                refine e_lstore aX9_hope_99 (Nat.le_of_ble_eq_true rfl) ?_
                refine e_iinc aX9_hope_101 rfl rfl (Nat.le_of_ble_eq_true rfl) ?_
                refine e_goto aX9_hope_104 ?_
                refine e_ls (ls' := [(0, some (vR (some 109))), (1, some (vI x)), (2, some (vI (nI (stp f)))), (3, some (vI (nI k))), (4, some (vL (woG (wrM D n (hI h0 117) x) (fo o f + k * stp f) (stp f)))), (6, some (vI (nI (k + 1))))]) ⟨rfl, rfl, rfl, rfl, rfl, congrArg (fun x => some (vI x)) (nI_1 k), trivial⟩ ?_
                exact ih (k + 1) k (woG (wrM D n (hI h0 117) x) (fo o f + k * stp f) (stp f)) h2 (by omega) S1 (by rw [← hR9, hpG_s, if_neg c74])
      refine e_aload_n aX9_hope_27 rfl ?_
      refine e_invvT aX9_hope_28 kX9_123 (zX9_openMany X F mf) rfl rfl (fx_is F rfl) (Nat.le_of_ble_eq_true rfl) (Nat.le_of_ble_eq_true rfl) (Nat.le_refl _) (Nat.le_refl _) (Nat.le_of_ble_eq_true rfl) ?_
      refine e_bipush (v := 6) aX9_hope_31 (by decide) ?_
      refine e_idiv aX9_hope_33 (by decide) ?_
      refine e_top (nI_div (b := 6) (by have := om_lt hf4; omega) (by decide) (by decide)) ?_
      rw [(om_div f (by omega)).1, ← (om_div f (by omega)).2]
      refine e_istore_n aX9_hope_34 (Nat.le_of_ble_eq_true rfl) ?_
      refine e_iconst (v := 0) aX9_hope_35 (by decide) ?_
      refine e_istore_n aX9_hope_36 (Nat.le_of_ble_eq_true rfl) ?_
      refine e_ldc2 aX9_hope_37 lX9_244 ?_
      refine e_lstore aX9_hope_40 (Nat.le_of_ble_eq_true rfl) ?_
      refine e_iconst (v := 0) aX9_hope_42 (by decide) ?_
      refine e_istore aX9_hope_43 (Nat.le_of_ble_eq_true rfl) ?_
      refine e_ls (ls' := [(0, some (vR (some 109))), (1, some (vI x)), (2, some (vI (nI (stp f)))), (3, some (vI (nI 0))), (4, some (vL (-1))), (6, some (vI (nI 0)))]) ⟨rfl, rfl, rfl, rfl, rfl, rfl, trivial⟩ ?_
      exact loop 6 0 0 (-1) h0 rfl (Sf.rf h0) rfl
    · -- 18: not taken
      have q18 : 4 ≤ f := Nat.le_of_eq ((nI_eq (a := f) (b := 4) (by omega) (by decide)).mp c18).symm
      refine e_aload_n aX9_hope_21 rfl ?_
      refine e_iconst (v := 3) aX9_hope_22 (by decide) ?_
      refine e_invvT aX9_hope_23 kX9_128 (zX9_finds X F (k := 3) (by decide)) rfl rfl (fx_is F rfl) (Nat.le_of_ble_eq_true rfl) (Nat.le_of_ble_eq_true rfl) (Nat.le_refl _) (Nat.le_refl _) (Nat.le_of_ble_eq_true rfl) ?_
      refine e_ireturn aX9_hope_26 rfl (Nat.le_refl _) (Nat.le_refl _) ?_
      rw [if_neg q4, if_pos q18]
      exact ⟨rfl, rfl⟩
  · -- 4: not taken
    have q4 := Decidable.of_not_not (b2_0.mp c4)
    refine e_aload_n aX9_hope_7 rfl ?_
    refine e_iconst (v := 0) aX9_hope_8 (by decide) ?_
    refine e_invvT aX9_hope_9 kX9_128 (zX9_finds X F (k := 0) (by decide)) rfl rfl (fx_is F rfl) (Nat.le_of_ble_eq_true rfl) (Nat.le_of_ble_eq_true rfl) (Nat.le_refl _) (Nat.le_refl _) (Nat.le_of_ble_eq_true rfl) ?_
    refine e_ireturn aX9_hope_12 rfl (Nat.le_refl _) (Nat.le_refl _) ?_
    rw [if_pos q4]
    exact ⟨rfl, rfl⟩
