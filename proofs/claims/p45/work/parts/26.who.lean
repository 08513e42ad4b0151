/-! contracts: hand, owners, sure, chance, least, what it is worth (written by wip/p45/g26.py) -/
/-- sets of PICKS and CLUBS, sums of worths -/
def hnR (P : Nat → Bool) : Nat → Int32
  | 0 => 0
  | p + 1 => if P p = true then hnR P p ||| ((1 : Int32) <<< (nI p &&& 31)) else hnR P p
def evR (g : Nat → Int32) (a : Nat) : Nat → Int32
  | 0 => 0
  | m + 1 => evR g a m ||| ((1 : Int32) <<< (g (a + m) &&& 31))
def atB (h : HP) (s : Nat) (y : Int32) (p : Nat) : Bool := decide (dgt (hI h 39 s) p = y)
def atS (h : HP) (p : Nat) (y : Int32) (s : Nat) : Bool := decide (dgt (hI h 39 s) p = y)
def wuR (h : HP) (s : Nat) (y : Int32) : Nat → Int32
  | 0 => 0
  | p + 1 => if dgt (hI h 39 s) p = y then wuR h s y p + hI h 36 (pl s p) else wuR h s y p
def woR (h : HP) (y : Int32) (a : Nat) : Nat → Int64
  | 0 => 0
  | m + 1 => woR h y a m + (wuR h (a + m) y 12).toInt64
def bsR (h : HP) (y w : Int32) : Nat → Nat → Nat → Int32 → Nat
  | _, 0, c, _ => c
  | k, m + 1, c, v => if (if w = 0 then v < wuR h k y 12 else wuR h k y 12 < v) then bsR h y w (k + 1) m k (wuR h k y 12) else bsR h y w (k + 1) m c v
def hpR (h : HP) (y : Int32) (a q : Nat) : Nat → Nat → Nat → Int64 → Nat
  | _, 0, c, _ => c
  | k, m + 1, c, v => if lg_cmp (woR h y (a + k * q) q) v ≤ 0 then hpR h y a q (k + 1) m c v else hpR h y a q (k + 1) m k (woR h y (a + k * q) q)
theorem hnR_s {P : Nat → Bool} {p : Nat} : hnR P (p + 1) = if P p = true then hnR P p ||| ((1 : Int32) <<< (nI p &&& 31)) else hnR P p := rfl
theorem wuR_s {h : HP} {s p : Nat} {y : Int32} : wuR h s y (p + 1) = if dgt (hI h 39 s) p = y then wuR h s y p + hI h 36 (pl s p) else wuR h s y p := rfl
theorem bsR_s {h : HP} {y w v : Int32} {k m cz : Nat} : bsR h y w k (m + 1) cz v = if (if w = 0 then v < wuR h k y 12 else wuR h k y 12 < v) then bsR h y w (k + 1) m k (wuR h k y 12) else bsR h y w (k + 1) m cz v := rfl
theorem hpR_s {h : HP} {y : Int32} {a9 qz k m cz : Nat} {v : Int64} : hpR h y a9 qz k (m + 1) cz v = if lg_cmp (woR h y (a9 + k * qz) qz) v ≤ 0 then hpR h y a9 qz (k + 1) m cz v else hpR h y a9 qz (k + 1) m k (woR h y (a9 + k * qz) qz) := rfl
theorem zX8_hand (X : EX) {h : HP} (F : Fx h) {f : Nat} {o : Nat → Nat} (bf : BkF h f o) (x y : Int32) : Ct X mX8_hand 3 0 0 [vR (some 32), vI x, vI y] h (if nI (fo o f) ≤ x ∧ x < nI (fo o f + om f) then if y < 0 ∨ 3 ≤ y then RF h 0 else Rt (vI (hnR (atB h x.toNatClampNeg y) 12)) h else RF h 0) := by
  refine ct_of rfl (Nat.le_of_ble_eq_true rfl) ?_
  have hb6 := om_fo bf.2.1 bf.2.2.2
  refine e_aload_n aX8_hand_0 rfl ?_
  refine e_getRF aX8_hand_1 fX8_10 rfl (fx_is F rfl) (fx_r (b := 33) F rfl) ?_
  refine e_iload_n aX8_hand_4 rfl ?_
  refine e_invvT aX8_hand_5 kX8_169 (zX0_isOpen X F bf _) rfl rfl (fx_is F rfl) (Nat.le_of_ble_eq_true rfl) (Nat.le_of_ble_eq_true rfl) (Nat.le_refl _) (Nat.le_refl _) (Nat.le_of_ble_eq_true rfl) ?_
  refine e_if_eq aX8_hand_8 (fun c8 => ?_) (fun c8 => ?_)
  · -- 8: taken
    have q8 := b2_0.mp c8
    refine e_aload_n aX8_hand_19 rfl ?_
    refine e_iconst (v := 0) aX8_hand_20 (by decide) ?_
    refine e_invvT aX8_hand_21 kX8_62 (zfin X (k := 0) F (by decide)) rfl rfl (fx_is F rfl) (Nat.le_of_ble_eq_true rfl) (Nat.le_of_ble_eq_true rfl) (Nat.le_refl _) (Nat.le_refl _) (Nat.le_of_ble_eq_true rfl) ?_
    refine e_ireturn aX8_hand_24 rfl (Nat.le_refl _) (Nat.le_refl _) ?_
    rw [if_neg q8]
    exact ⟨rfl, rfl⟩
  · -- 8: not taken
    have q8 := Decidable.of_not_not (fun z => c8 (b2_0.mpr z))
    obtain ⟨sz, hs1, hs2, rfl⟩ := opn_of (Nat.le_add_right _ _) hb6 q8
    refine e_iload_n aX8_hand_11 rfl ?_
    refine e_iconst (v := 3) aX8_hand_12 (by decide) ?_
    refine e_invsT aX8_hand_13 kX8_58 (zX8_isOutside X _ _) rfl rfl (Nat.le_of_ble_eq_true rfl) (Nat.le_of_ble_eq_true rfl) (Nat.le_refl _) (Nat.le_refl _) (Nat.le_of_ble_eq_true rfl) ?_
    refine e_if_eq aX8_hand_16 (fun c16 => ?_) (fun c16 => ?_)
    · -- 16: taken
      have q16 := b2_0.mp c16
      obtain ⟨iz, hi3, rfl⟩ := ou_of 3 (by decide) q16
      rw [if_pos q8, if_neg q16, cl (by omega)]
      have hs : sz < 1296 := by omega
      have loop : ∀ (m : Nat) (k : Nat), k + m = 12 → Ev X mX8_hand 3 0 0 (Rt (vI (hnR (atB h sz (nI iz)) 12)) h) 0 0 30 [(0, some (vR (some 32))), (1, some (vI (nI sz))), (2, some (vI (nI iz))), (3, some (vI (hnR (atB h sz (nI iz)) k))), (4, some (vI (nI k)))] [] h := by
        intro m
        induction m with
        | zero =>
          intro k hk
          obtain rfl : k = 12 := by omega
          refine e_iload aX8_hand_30 rfl ?_
          refine e_bipush (v := 12) aX8_hand_32 (by decide) ?_
          refine e_icmp_ge aX8_hand_34 (fun c34 => ?_) (fun c34 => ?_)
          · -- 34: taken
            refine e_iload_n aX8_hand_64 rfl ?_
            refine e_ireturn aX8_hand_65 rfl (Nat.le_refl _) (Nat.le_refl _) ?_
            exact ⟨rfl, rfl⟩
          · -- 34: not taken
            exact absurd (nI_le (a := 12) (b := 12) (by decide) (by decide)) c34
        | succ m ih =>
          intro k hk
          refine e_iload aX8_hand_30 rfl ?_
          refine e_bipush (v := 12) aX8_hand_32 (by decide) ?_
          refine e_icmp_ge aX8_hand_34 (fun c34 => ?_) (fun c34 => ?_)
          · -- 34: taken
            exact absurd c34 (nI_ge (a := k) (b := 12) (by omega) (by decide))
          · -- 34: not taken
            refine e_aload_n aX8_hand_37 rfl ?_
            refine e_getRF aX8_hand_38 fX8_23 rfl (fx_is F rfl) (fx_r (b := 38) F rfl) ?_
            refine e_iload_n aX8_hand_41 rfl ?_
            refine e_iload aX8_hand_42 rfl ?_
            refine e_invvT aX8_hand_44 kX8_172 (zX2_at X F (s := sz) (p := k) hs (by omega)) rfl rfl (fx_is F rfl) (Nat.le_of_ble_eq_true rfl) (Nat.le_of_ble_eq_true rfl) (Nat.le_refl _) (Nat.le_refl _) (Nat.le_of_ble_eq_true rfl) ?_
            refine e_iload_n aX8_hand_47 rfl ?_
            refine e_icmp_ne aX8_hand_48 (fun c48 => ?_) (fun c48 => ?_)
            · -- 48: taken
              refine e_iinc aX8_hand_58 rfl rfl (Nat.le_of_ble_eq_true rfl) ?_
              refine e_goto aX8_hand_61 ?_
              refine e_ls (ls' := [(0, some (vR (some 32))), (1, some (vI (nI sz))), (2, some (vI (nI iz))), (3, some (vI (hnR (atB h sz (nI iz)) (k + 1)))), (4, some (vI (nI (k + 1))))]) ⟨rfl, rfl, rfl, congrArg (fun x => some (vI x)) ((hnR_s.trans (if_neg (fun z => c48 (of_decide_eq_true z)))).symm), congrArg (fun x => some (vI x)) (nI_1 k), trivial⟩ ?_
              exact ih (k + 1) (by omega)
            · -- 48: not taken
              refine e_iload_n aX8_hand_51 rfl ?_
              refine e_iconst (v := 1) aX8_hand_52 (by decide) ?_
              refine e_iload aX8_hand_53 rfl ?_
              refine e_ishl aX8_hand_55 ?_
              refine e_ior aX8_hand_56 ?_
              refine e_istore_n aX8_hand_57 (Nat.le_of_ble_eq_true rfl) ?_
              refine e_iinc aX8_hand_58 rfl rfl (Nat.le_of_ble_eq_true rfl) ?_
              refine e_goto aX8_hand_61 ?_
              refine e_ls (ls' := [(0, some (vR (some 32))), (1, some (vI (nI sz))), (2, some (vI (nI iz))), (3, some (vI (hnR (atB h sz (nI iz)) (k + 1)))), (4, some (vI (nI (k + 1))))]) ⟨rfl, rfl, rfl, congrArg (fun x => some (vI x)) ((hnR_s.trans (if_pos (decide_eq_true c48))).symm), congrArg (fun x => some (vI x)) (nI_1 k), trivial⟩ ?_
              exact ih (k + 1) (by omega)
      refine e_iconst (v := 0) aX8_hand_25 (by decide) ?_
      refine e_istore_n aX8_hand_26 (Nat.le_of_ble_eq_true rfl) ?_
      refine e_iconst (v := 0) aX8_hand_27 (by decide) ?_
      refine e_istore aX8_hand_28 (Nat.le_of_ble_eq_true rfl) ?_
      refine e_ls (ls' := [(0, some (vR (some 32))), (1, some (vI (nI sz))), (2, some (vI (nI iz))), (3, some (vI (hnR (atB h sz (nI iz)) 0))), (4, some (vI (nI 0)))]) ⟨rfl, rfl, rfl, rfl, rfl, trivial⟩ ?_
      exact loop 12 0 rfl
    · -- 16: not taken
      have q16 := Decidable.of_not_not (fun z => c16 (b2_0.mpr z))
      refine e_aload_n aX8_hand_19 rfl ?_
      refine e_iconst (v := 0) aX8_hand_20 (by decide) ?_
      refine e_invvT aX8_hand_21 kX8_62 (zfin X (k := 0) F (by decide)) rfl rfl (fx_is F rfl) (Nat.le_of_ble_eq_true rfl) (Nat.le_of_ble_eq_true rfl) (Nat.le_refl _) (Nat.le_refl _) (Nat.le_of_ble_eq_true rfl) ?_
      refine e_ireturn aX8_hand_24 rfl (Nat.le_refl _) (Nat.le_refl _) ?_
      rw [if_pos q8, if_pos q16]
      exact ⟨rfl, rfl⟩
theorem zX8_everOwners (X : EX) {h : HP} (F : Fx h) {f : Nat} {o : Nat → Nat} (bf : BkF h f o) {pz : Nat} (hp : pz < 12) : Ct X mX8_everOwners 2 0 0 [vR (some 32), vI (nI pz)] h (Rt (vI (evR (fun s => dgt (hI h 39 s) pz) (fo o f) (om f))) h) := by
  refine ct_of rfl (Nat.le_of_ble_eq_true rfl) ?_
  have hb6 := om_fo bf.2.1 bf.2.2.2
  have loop : ∀ (m : Nat) (k : Nat), k + m = om f → Ev X mX8_everOwners 2 0 0 (Rt (vI (evR (fun s => dgt (hI h 39 s) pz) (fo o f) (om f))) h) 0 0 19 [(0, some (vR (some 32))), (1, some (vI (nI pz))), (2, some (vI (evR (fun s => dgt (hI h 39 s) pz) (fo o f) k))), (3, some (vI (nI (fo o f + om f)))), (4, some (vI (nI (fo o f + k))))] [] h := by
    intro m
    induction m with
    | zero =>
      intro k hk
      obtain rfl : k = om f := by omega
      refine e_iload aX8_everOwners_19 rfl ?_
      refine e_iload_n aX8_everOwners_21 rfl ?_
      refine e_icmp_ge aX8_everOwners_22 (fun c22 => ?_) (fun c22 => ?_)
      · -- 22: taken
        refine e_iload_n aX8_everOwners_46 rfl ?_
        refine e_ireturn aX8_everOwners_47 rfl (Nat.le_refl _) (Nat.le_refl _) ?_
        exact ⟨rfl, rfl⟩
      · -- 22: not taken
        exact absurd (nI_le (by omega) (by omega)) c22
    | succ m ih =>
      intro k hk
      refine e_iload aX8_everOwners_19 rfl ?_
      refine e_iload_n aX8_everOwners_21 rfl ?_
      refine e_icmp_ge aX8_everOwners_22 (fun c22 => ?_) (fun c22 => ?_)
      · -- 22: taken
        exact absurd c22 (nI_ge (by omega) (by omega))
      · -- 22: not taken
        refine e_iload_n aX8_everOwners_25 rfl ?_
        refine e_iconst (v := 1) aX8_everOwners_26 (by decide) ?_
        refine e_aload_n aX8_everOwners_27 rfl ?_
        refine e_getRF aX8_everOwners_28 fX8_23 rfl (fx_is F rfl) (fx_r (b := 38) F rfl) ?_
        refine e_iload aX8_everOwners_31 rfl ?_
        refine e_iload_n aX8_everOwners_33 rfl ?_
        refine e_invvT aX8_everOwners_34 kX8_172 (zX2_at X F (s := fo o f + k) (by omega) hp) rfl rfl (fx_is F rfl) (Nat.le_of_ble_eq_true rfl) (Nat.le_of_ble_eq_true rfl) (Nat.le_refl _) (Nat.le_refl _) (Nat.le_of_ble_eq_true rfl) ?_
        refine e_ishl aX8_everOwners_37 ?_
        refine e_ior aX8_everOwners_38 ?_
        refine e_istore_n aX8_everOwners_39 (Nat.le_of_ble_eq_true rfl) ?_
        refine e_iinc aX8_everOwners_40 rfl rfl (Nat.le_of_ble_eq_true rfl) ?_
        refine e_goto aX8_everOwners_43 ?_
        refine e_ls (ls' := [(0, some (vR (some 32))), (1, some (vI (nI pz))), (2, some (vI (evR (fun s => dgt (hI h 39 s) pz) (fo o f) (k + 1)))), (3, some (vI (nI (fo o f + om f)))), (4, some (vI (nI (fo o f + (k + 1)))))]) ⟨rfl, rfl, rfl, rfl, congrArg (fun x => some (vI x)) (nI_1 (fo o f + k)), trivial⟩ ?_
        exact ih (k + 1) (by omega)
  refine e_iconst (v := 0) aX8_everOwners_0 (by decide) ?_
  refine e_istore_n aX8_everOwners_1 (Nat.le_of_ble_eq_true rfl) ?_
  refine e_aload_n aX8_everOwners_2 rfl ?_
  refine e_getRF aX8_everOwners_3 fX8_10 rfl (fx_is F rfl) (fx_r (b := 33) F rfl) ?_
  refine e_invvT aX8_everOwners_6 kX8_181 (zX0_endOpen X F bf) rfl rfl (fx_is F rfl) (Nat.le_of_ble_eq_true rfl) (Nat.le_of_ble_eq_true rfl) (Nat.le_refl _) (Nat.le_refl _) (Nat.le_of_ble_eq_true rfl) ?_
  refine e_istore_n aX8_everOwners_9 (Nat.le_of_ble_eq_true rfl) ?_
  refine e_aload_n aX8_everOwners_10 rfl ?_
  refine e_getRF aX8_everOwners_11 fX8_10 rfl (fx_is F rfl) (fx_r (b := 33) F rfl) ?_
  refine e_invvT aX8_everOwners_14 kX8_84 (zX0_firstOpen X F bf) rfl rfl (fx_is F rfl) (Nat.le_of_ble_eq_true rfl) (Nat.le_of_ble_eq_true rfl) (Nat.le_refl _) (Nat.le_refl _) (Nat.le_of_ble_eq_true rfl) ?_
  refine e_istore aX8_everOwners_17 (Nat.le_of_ble_eq_true rfl) ?_
  refine e_ls (ls' := [(0, some (vR (some 32))), (1, some (vI (nI pz))), (2, some (vI (evR (fun s => dgt (hI h 39 s) pz) (fo o f) 0))), (3, some (vI (nI (fo o f + om f)))), (4, some (vI (nI (fo o f + 0))))]) ⟨rfl, rfl, rfl, rfl, rfl, trivial⟩ ?_
  exact loop (om f) 0 (by omega)
theorem zX8_owners (X : EX) {h : HP} (F : Fx h) {f : Nat} {o : Nat → Nat} (bf : BkF h f o) (x : Int32) : Ct X mX8_owners 3 0 0 [vR (some 32), vI x] h (if x < 0 ∨ 12 ≤ x then RF h 0 else Rt (vI (evR (fun s => dgt (hI h 39 s) x.toNatClampNeg) (fo o f) (om f))) h) := by
  refine ct_of rfl (Nat.le_of_ble_eq_true rfl) ?_
  refine e_iload_n aX8_owners_0 rfl ?_
  refine e_bipush (v := 12) aX8_owners_1 (by decide) ?_
  refine e_invsT aX8_owners_3 kX8_58 (zX8_isOutside X _ _) rfl rfl (Nat.le_of_ble_eq_true rfl) (Nat.le_of_ble_eq_true rfl) (Nat.le_refl _) (Nat.le_refl _) (Nat.le_of_ble_eq_true rfl) ?_
  refine e_if_eq aX8_owners_6 (fun c6 => ?_) (fun c6 => ?_)
  · -- 6: taken
    have q6 := b2_0.mp c6
    obtain ⟨pz, hp, rfl⟩ := ou_of 12 (by decide) q6
    refine e_aload_n aX8_owners_17 rfl ?_
    refine e_iload_n aX8_owners_18 rfl ?_
    refine e_invvT aX8_owners_19 kX8_178 (zX8_everOwners X F bf hp) rfl rfl (fx_is F rfl) (Nat.le_of_ble_eq_true rfl) (Nat.le_of_ble_eq_true rfl) (Nat.le_refl _) (Nat.le_refl _) (Nat.le_of_ble_eq_true rfl) ?_
    refine e_ireturn aX8_owners_22 rfl (Nat.le_refl _) (Nat.le_refl _) ?_
    rw [if_neg q6, cl (by omega)]
    exact ⟨rfl, rfl⟩
  · -- 6: not taken
    have q6 := Decidable.of_not_not (fun z => c6 (b2_0.mpr z))
    refine e_aload_n aX8_owners_9 rfl ?_
    refine e_iconst (v := 0) aX8_owners_10 (by decide) ?_
    refine e_invvT aX8_owners_11 kX8_62 (zfin X (k := 0) F (by decide)) rfl rfl (fx_is F rfl) (Nat.le_of_ble_eq_true rfl) (Nat.le_of_ble_eq_true rfl) (Nat.le_refl _) (Nat.le_refl _) (Nat.le_of_ble_eq_true rfl) ?_
    refine e_goto aX8_owners_14 ?_
    refine e_ireturn aX8_owners_22 rfl (Nat.le_refl _) (Nat.le_refl _) ?_
    rw [if_pos q6]
    exact ⟨rfl, rfl⟩
theorem frW_t {P : Nat → Bool} {a m : Nat} (z : P a = true) : frW P a (m + 1) = some a := if_pos z
theorem frW_f {P : Nat → Bool} {a m : Nat} (z : ¬ P a = true) : frW P a (m + 1) = frW P (a + 1) m := if_neg z
theorem zX8_sure (X : EX) {h : HP} (F : Fx h) {f : Nat} {o : Nat → Nat} (bf : BkF h f o) (x : Int32) : Ct X mX8_sure 3 0 0 [vR (some 32), vI x] h (if x < 0 ∨ 12 ≤ x then RF h 0 else rO h (frW (fun k => decide ((evR (fun s => dgt (hI h 39 s) x.toNatClampNeg) (fo o f) (om f)) = (1 : Int32) <<< (nI k &&& 31))) 0 3)) := by
  refine ct_of rfl (Nat.le_of_ble_eq_true rfl) ?_
  refine e_iload_n aX8_sure_0 rfl ?_
  refine e_bipush (v := 12) aX8_sure_1 (by decide) ?_
  refine e_invsT aX8_sure_3 kX8_58 (zX8_isOutside X _ _) rfl rfl (Nat.le_of_ble_eq_true rfl) (Nat.le_of_ble_eq_true rfl) (Nat.le_refl _) (Nat.le_refl _) (Nat.le_of_ble_eq_true rfl) ?_
  refine e_if_eq aX8_sure_6 (fun c6 => ?_) (fun c6 => ?_)
  · -- 6: taken
    have q6 := b2_0.mp c6
    obtain ⟨pz, hp, rfl⟩ := ou_of 12 (by decide) q6
    rw [if_neg q6, cl (by omega)]
    have loop : ∀ (m : Nat) (k : Nat), k + m = 3 → frW (fun k => decide ((evR (fun s => dgt (hI h 39 s) pz) (fo o f) (om f)) = (1 : Int32) <<< (nI k &&& 31))) k m = frW (fun k => decide ((evR (fun s => dgt (hI h 39 s) pz) (fo o f) (om f)) = (1 : Int32) <<< (nI k &&& 31))) 0 3 → Ev X mX8_sure 3 0 0 (rO h (frW (fun k => decide ((evR (fun s => dgt (hI h 39 s) pz) (fo o f) (om f)) = (1 : Int32) <<< (nI k &&& 31))) 0 3)) 0 0 23 [(0, some (vR (some 32))), (2, some (vI (evR (fun s => dgt (hI h 39 s) pz) (fo o f) (om f)))), (3, some (vI (nI k)))] [] h := by
      intro m
      induction m with
      | zero =>
        intro k hk hR9
        obtain rfl : k = 3 := by omega
        refine e_iload_n aX8_sure_23 rfl ?_
        refine e_iconst (v := 3) aX8_sure_24 (by decide) ?_
        refine e_icmp_ge aX8_sure_25 (fun c25 => ?_) (fun c25 => ?_)
        · -- 25: taken
          refine e_aload_n aX8_sure_43 rfl ?_
          refine e_iconst (v := 3) aX8_sure_44 (by decide) ?_
          refine e_invvT aX8_sure_45 kX8_62 (zfin X (k := 3) F (by decide)) rfl rfl (fx_is F rfl) (Nat.le_of_ble_eq_true rfl) (Nat.le_of_ble_eq_true rfl) (Nat.le_refl _) (Nat.le_refl _) (Nat.le_of_ble_eq_true rfl) ?_
          refine e_ireturn aX8_sure_48 rfl (Nat.le_refl _) (Nat.le_refl _) ?_
          rw [← hR9]
          exact ⟨rfl, rfl⟩
        · -- 25: not taken
          exact absurd (nI_le (a := 3) (b := 3) (by decide) (by decide)) c25
      | succ m ih =>
        intro k hk hR9
        refine e_iload_n aX8_sure_23 rfl ?_
        refine e_iconst (v := 3) aX8_sure_24 (by decide) ?_
        refine e_icmp_ge aX8_sure_25 (fun c25 => ?_) (fun c25 => ?_)
        · -- 25: taken
          exact absurd c25 (nI_ge (a := k) (b := 3) (by omega) (by decide))
        · -- 25: not taken
          refine e_iload_n aX8_sure_28 rfl ?_
          refine e_iconst (v := 1) aX8_sure_29 (by decide) ?_
          refine e_iload_n aX8_sure_30 rfl ?_
          refine e_ishl aX8_sure_31 ?_
          refine e_icmp_ne aX8_sure_32 (fun c32 => ?_) (fun c32 => ?_)
          · -- 32: taken
            refine e_iinc aX8_sure_37 rfl rfl (Nat.le_of_ble_eq_true rfl) ?_
            refine e_goto aX8_sure_40 ?_
            refine e_ls (ls' := [(0, some (vR (some 32))), (2, some (vI (evR (fun s => dgt (hI h 39 s) pz) (fo o f) (om f)))), (3, some (vI (nI (k + 1))))]) ⟨rfl, rfl, congrArg (fun x => some (vI x)) (nI_1 k), trivial⟩ ?_
            exact ih (k + 1) (by omega) (by rw [← hR9, frW_f (fun z => c32 (of_decide_eq_true z))])
          · -- 32: not taken
            refine e_iload_n aX8_sure_35 rfl ?_
            refine e_ireturn aX8_sure_36 rfl (Nat.le_refl _) (Nat.le_refl _) ?_
            rw [← hR9, frW_t (decide_eq_true c32)]
            exact ⟨rfl, rfl⟩
    refine e_aload_n aX8_sure_15 rfl ?_
    refine e_iload_n aX8_sure_16 rfl ?_
    refine e_invvT aX8_sure_17 kX8_178 (zX8_everOwners X F bf hp) rfl rfl (fx_is F rfl) (Nat.le_of_ble_eq_true rfl) (Nat.le_of_ble_eq_true rfl) (Nat.le_refl _) (Nat.le_refl _) (Nat.le_of_ble_eq_true rfl) ?_
    refine e_istore_n aX8_sure_20 (Nat.le_of_ble_eq_true rfl) ?_
    refine e_iconst (v := 0) aX8_sure_21 (by decide) ?_
    refine e_istore_n aX8_sure_22 (Nat.le_of_ble_eq_true rfl) ?_
    refine e_ls (ls' := [(0, some (vR (some 32))), (2, some (vI (evR (fun s => dgt (hI h 39 s) pz) (fo o f) (om f)))), (3, some (vI (nI 0)))]) ⟨rfl, rfl, rfl, trivial⟩ ?_
    exact loop 3 0 rfl rfl
  · -- 6: not taken
    have q6 := Decidable.of_not_not (fun z => c6 (b2_0.mpr z))
    refine e_aload_n aX8_sure_9 rfl ?_
    refine e_iconst (v := 0) aX8_sure_10 (by decide) ?_
    refine e_invvT aX8_sure_11 kX8_62 (zfin X (k := 0) F (by decide)) rfl rfl (fx_is F rfl) (Nat.le_of_ble_eq_true rfl) (Nat.le_of_ble_eq_true rfl) (Nat.le_refl _) (Nat.le_refl _) (Nat.le_of_ble_eq_true rfl) ?_
    refine e_ireturn aX8_sure_14 rfl (Nat.le_refl _) (Nat.le_refl _) ?_
    rw [if_pos q6]
    exact ⟨rfl, rfl⟩
theorem zX8_chance (X : EX) {h : HP} (F : Fx h) {f : Nat} {o : Nat → Nat} (bf : BkF h f o) (x y : Int32) : Ct X mX8_chance 2 0 0 [vR (some 32), vI x, vI y] h (if x < 0 ∨ 12 ≤ x then RF h 0 else if y < 0 ∨ 3 ≤ y then RF h 0 else Rt (vI (nI (cnW (atS h x.toNatClampNeg y) (fo o f) (om f)))) h) := by
  refine ct_of rfl (Nat.le_of_ble_eq_true rfl) ?_
  have hb6 := om_fo bf.2.1 bf.2.2.2
  refine e_iload_n aX8_chance_0 rfl ?_
  refine e_bipush (v := 12) aX8_chance_1 (by decide) ?_
  refine e_invsT aX8_chance_3 kX8_58 (zX8_isOutside X _ _) rfl rfl (Nat.le_of_ble_eq_true rfl) (Nat.le_of_ble_eq_true rfl) (Nat.le_refl _) (Nat.le_refl _) (Nat.le_of_ble_eq_true rfl) ?_
  refine e_if_ne aX8_chance_6 (fun c6 => ?_) (fun c6 => ?_)
  · -- 6: taken
    have q6 := Decidable.of_not_not (fun z => c6 (b2_0.mpr z))
    refine e_aload_n aX8_chance_17 rfl ?_
    refine e_iconst (v := 0) aX8_chance_18 (by decide) ?_
    refine e_invvT aX8_chance_19 kX8_62 (zfin X (k := 0) F (by decide)) rfl rfl (fx_is F rfl) (Nat.le_of_ble_eq_true rfl) (Nat.le_of_ble_eq_true rfl) (Nat.le_refl _) (Nat.le_refl _) (Nat.le_of_ble_eq_true rfl) ?_
    refine e_ireturn aX8_chance_22 rfl (Nat.le_refl _) (Nat.le_refl _) ?_
    rw [if_pos q6]
    exact ⟨rfl, rfl⟩
  · -- 6: not taken
    have q6 := b2_0.mp c6
    obtain ⟨pz, hp, rfl⟩ := ou_of 12 (by decide) q6
    refine e_iload_n aX8_chance_9 rfl ?_
    refine e_iconst (v := 3) aX8_chance_10 (by decide) ?_
    refine e_invsT aX8_chance_11 kX8_58 (zX8_isOutside X _ _) rfl rfl (Nat.le_of_ble_eq_true rfl) (Nat.le_of_ble_eq_true rfl) (Nat.le_refl _) (Nat.le_refl _) (Nat.le_of_ble_eq_true rfl) ?_
    refine e_if_eq aX8_chance_14 (fun c14 => ?_) (fun c14 => ?_)
    · -- 14: taken
      have q14 := b2_0.mp c14
      obtain ⟨iz, hi3, rfl⟩ := ou_of 3 (by decide) q14
      rw [if_neg q6, if_neg q14, cl (by omega)]
      have loop : ∀ (m : Nat) (k : Nat), k + m = om f → Ev X mX8_chance 2 0 0 (Rt (vI (nI (cnW (atS h pz (nI iz)) (fo o f) (om f)))) h) 0 0 43 [(0, some (vR (some 32))), (1, some (vI (nI pz))), (2, some (vI (nI iz))), (3, some (vI (nI (cnW (atS h pz (nI iz)) (fo o f) k)))), (4, some (vI (nI (fo o f + om f)))), (5, some (vI (nI (fo o f + k))))] [] h := by
        intro m
        induction m with
        | zero =>
          intro k hk
          obtain rfl : k = om f := by omega
          refine e_iload aX8_chance_43 rfl ?_
          refine e_iload aX8_chance_45 rfl ?_
          refine e_icmp_ge aX8_chance_47 (fun c47 => ?_) (fun c47 => ?_)
          · -- 47: taken
            refine e_iload_n aX8_chance_73 rfl ?_
            refine e_ireturn aX8_chance_74 rfl (Nat.le_refl _) (Nat.le_refl _) ?_
            exact ⟨rfl, rfl⟩
          · -- 47: not taken
            exact absurd (nI_le (by omega) (by omega)) c47
        | succ m ih =>
          intro k hk
          refine e_iload aX8_chance_43 rfl ?_
          refine e_iload aX8_chance_45 rfl ?_
          refine e_icmp_ge aX8_chance_47 (fun c47 => ?_) (fun c47 => ?_)
          · -- 47: taken
            exact absurd c47 (nI_ge (by omega) (by omega))
          · -- 47: not taken
            refine e_aload_n aX8_chance_50 rfl ?_
            refine e_getRF aX8_chance_51 fX8_23 rfl (fx_is F rfl) (fx_r (b := 38) F rfl) ?_
            refine e_iload aX8_chance_54 rfl ?_
            refine e_iload_n aX8_chance_56 rfl ?_
            refine e_invvT aX8_chance_57 kX8_172 (zX2_at X F (s := fo o f + k) (by omega) hp) rfl rfl (fx_is F rfl) (Nat.le_of_ble_eq_true rfl) (Nat.le_of_ble_eq_true rfl) (Nat.le_refl _) (Nat.le_refl _) (Nat.le_of_ble_eq_true rfl) ?_
            refine e_iload_n aX8_chance_60 rfl ?_
            refine e_icmp_ne aX8_chance_61 (fun c61 => ?_) (fun c61 => ?_)
            · -- 61: taken
              refine e_iinc aX8_chance_67 rfl rfl (Nat.le_of_ble_eq_true rfl) ?_
              refine e_goto aX8_chance_70 ?_
              refine e_ls (ls' := [(0, some (vR (some 32))), (1, some (vI (nI pz))), (2, some (vI (nI iz))), (3, some (vI (nI (cnW (atS h pz (nI iz)) (fo o f) (k + 1))))), (4, some (vI (nI (fo o f + om f)))), (5, some (vI (nI (fo o f + (k + 1)))))]) ⟨rfl, rfl, rfl, congrArg (fun x => some (vI x)) (congrArg nI (cnW_f (P := (atS h pz (nI iz))) (a := fo o f) (m := k) (decide_eq_false c61)).symm), rfl, congrArg (fun x => some (vI x)) (nI_1 (fo o f + k)), trivial⟩ ?_
              exact ih (k + 1) (by omega)
            · -- 61: not taken
              refine e_iinc aX8_chance_64 rfl rfl (Nat.le_of_ble_eq_true rfl) ?_
              refine e_iinc aX8_chance_67 rfl rfl (Nat.le_of_ble_eq_true rfl) ?_
              refine e_goto aX8_chance_70 ?_
              refine e_ls (ls' := [(0, some (vR (some 32))), (1, some (vI (nI pz))), (2, some (vI (nI iz))), (3, some (vI (nI (cnW (atS h pz (nI iz)) (fo o f) (k + 1))))), (4, some (vI (nI (fo o f + om f)))), (5, some (vI (nI (fo o f + (k + 1)))))]) ⟨rfl, rfl, rfl, congrArg (fun x => some (vI x)) ((nI_1 _).trans (congrArg nI (cnW_t (P := (atS h pz (nI iz))) (a := fo o f) (m := k) (decide_eq_true c61)).symm)), rfl, congrArg (fun x => some (vI x)) (nI_1 (fo o f + k)), trivial⟩ ?_
              exact ih (k + 1) (by omega)
      refine e_iconst (v := 0) aX8_chance_23 (by decide) ?_
      refine e_istore_n aX8_chance_24 (Nat.le_of_ble_eq_true rfl) ?_
      refine e_aload_n aX8_chance_25 rfl ?_
      refine e_getRF aX8_chance_26 fX8_10 rfl (fx_is F rfl) (fx_r (b := 33) F rfl) ?_
      refine e_invvT aX8_chance_29 kX8_181 (zX0_endOpen X F bf) rfl rfl (fx_is F rfl) (Nat.le_of_ble_eq_true rfl) (Nat.le_of_ble_eq_true rfl) (Nat.le_refl _) (Nat.le_refl _) (Nat.le_of_ble_eq_true rfl) ?_
      refine e_istore aX8_chance_32 (Nat.le_of_ble_eq_true rfl) ?_
      refine e_aload_n aX8_chance_34 rfl ?_
      refine e_getRF aX8_chance_35 fX8_10 rfl (fx_is F rfl) (fx_r (b := 33) F rfl) ?_
      refine e_invvT aX8_chance_38 kX8_84 (zX0_firstOpen X F bf) rfl rfl (fx_is F rfl) (Nat.le_of_ble_eq_true rfl) (Nat.le_of_ble_eq_true rfl) (Nat.le_refl _) (Nat.le_refl _) (Nat.le_of_ble_eq_true rfl) ?_
      refine e_istore aX8_chance_41 (Nat.le_of_ble_eq_true rfl) ?_
      refine e_ls (ls' := [(0, some (vR (some 32))), (1, some (vI (nI pz))), (2, some (vI (nI iz))), (3, some (vI (nI (cnW (atS h pz (nI iz)) (fo o f) 0)))), (4, some (vI (nI (fo o f + om f)))), (5, some (vI (nI (fo o f + 0))))]) ⟨rfl, rfl, rfl, rfl, rfl, rfl, trivial⟩ ?_
      exact loop (om f) 0 (by omega)
    · -- 14: not taken
      have q14 := Decidable.of_not_not (fun z => c14 (b2_0.mpr z))
      refine e_aload_n aX8_chance_17 rfl ?_
      refine e_iconst (v := 0) aX8_chance_18 (by decide) ?_
      refine e_invvT aX8_chance_19 kX8_62 (zfin X (k := 0) F (by decide)) rfl rfl (fx_is F rfl) (Nat.le_of_ble_eq_true rfl) (Nat.le_of_ble_eq_true rfl) (Nat.le_refl _) (Nat.le_refl _) (Nat.le_of_ble_eq_true rfl) ?_
      refine e_ireturn aX8_chance_22 rfl (Nat.le_refl _) (Nat.le_refl _) ?_
      rw [if_neg q6, if_pos q14]
      exact ⟨rfl, rfl⟩
theorem zX8_least (X : EX) {h : HP} (F : Fx h) {f : Nat} {o : Nat → Nat} (bf : BkF h f o) (x y : Int32) : Ct X mX8_least 2 0 0 [vR (some 32), vI x, vI y] h (if x < 0 ∨ 12 ≤ x then RF h 0 else if y < 0 ∨ 3 ≤ y then RF h 0 else rO h (frW (atS h x.toNatClampNeg y) (fo o f) (om f))) := by
  refine ct_of rfl (Nat.le_of_ble_eq_true rfl) ?_
  have hb6 := om_fo bf.2.1 bf.2.2.2
  refine e_iload_n aX8_least_0 rfl ?_
  refine e_bipush (v := 12) aX8_least_1 (by decide) ?_
  refine e_invsT aX8_least_3 kX8_58 (zX8_isOutside X _ _) rfl rfl (Nat.le_of_ble_eq_true rfl) (Nat.le_of_ble_eq_true rfl) (Nat.le_refl _) (Nat.le_refl _) (Nat.le_of_ble_eq_true rfl) ?_
  refine e_if_ne aX8_least_6 (fun c6 => ?_) (fun c6 => ?_)
  · -- 6: taken
    have q6 := Decidable.of_not_not (fun z => c6 (b2_0.mpr z))
    refine e_aload_n aX8_least_17 rfl ?_
    refine e_iconst (v := 0) aX8_least_18 (by decide) ?_
    refine e_invvT aX8_least_19 kX8_62 (zfin X (k := 0) F (by decide)) rfl rfl (fx_is F rfl) (Nat.le_of_ble_eq_true rfl) (Nat.le_of_ble_eq_true rfl) (Nat.le_refl _) (Nat.le_refl _) (Nat.le_of_ble_eq_true rfl) ?_
    refine e_ireturn aX8_least_22 rfl (Nat.le_refl _) (Nat.le_refl _) ?_
    rw [if_pos q6]
    exact ⟨rfl, rfl⟩
  · -- 6: not taken
    have q6 := b2_0.mp c6
    obtain ⟨pz, hp, rfl⟩ := ou_of 12 (by decide) q6
    refine e_iload_n aX8_least_9 rfl ?_
    refine e_iconst (v := 3) aX8_least_10 (by decide) ?_
    refine e_invsT aX8_least_11 kX8_58 (zX8_isOutside X _ _) rfl rfl (Nat.le_of_ble_eq_true rfl) (Nat.le_of_ble_eq_true rfl) (Nat.le_refl _) (Nat.le_refl _) (Nat.le_of_ble_eq_true rfl) ?_
    refine e_if_eq aX8_least_14 (fun c14 => ?_) (fun c14 => ?_)
    · -- 14: taken
      have q14 := b2_0.mp c14
      obtain ⟨iz, hi3, rfl⟩ := ou_of 3 (by decide) q14
      rw [if_neg q6, if_neg q14, cl (by omega)]
      have loop : ∀ (m : Nat) (k : Nat), k + m = (fo o f + om f) → frW (atS h pz (nI iz)) k m = frW (atS h pz (nI iz)) (fo o f) (om f) → Ev X mX8_least 2 0 0 (rO h (frW (atS h pz (nI iz)) (fo o f) (om f))) 0 0 40 [(0, some (vR (some 32))), (1, some (vI (nI pz))), (2, some (vI (nI iz))), (3, some (vI (nI (fo o f + om f)))), (4, some (vI (nI k)))] [] h := by
        intro m
        induction m with
        | zero =>
          intro k hk hR9
          obtain rfl : k = (fo o f + om f) := by omega
          refine e_iload aX8_least_40 rfl ?_
          refine e_iload_n aX8_least_42 rfl ?_
          refine e_icmp_ge aX8_least_43 (fun c43 => ?_) (fun c43 => ?_)
          · -- 43: taken
            refine e_aload_n aX8_least_69 rfl ?_
            refine e_iconst (v := 3) aX8_least_70 (by decide) ?_
            refine e_invvT aX8_least_71 kX8_62 (zfin X (k := 3) F (by decide)) rfl rfl (fx_is F rfl) (Nat.le_of_ble_eq_true rfl) (Nat.le_of_ble_eq_true rfl) (Nat.le_refl _) (Nat.le_refl _) (Nat.le_of_ble_eq_true rfl) ?_
            refine e_ireturn aX8_least_74 rfl (Nat.le_refl _) (Nat.le_refl _) ?_
            rw [← hR9]
            exact ⟨rfl, rfl⟩
          · -- 43: not taken
            exact absurd (nI_le (by omega) (by omega)) c43
        | succ m ih =>
          intro k hk hR9
          refine e_iload aX8_least_40 rfl ?_
          refine e_iload_n aX8_least_42 rfl ?_
          refine e_icmp_ge aX8_least_43 (fun c43 => ?_) (fun c43 => ?_)
          · -- 43: taken
            exact absurd c43 (nI_ge (by omega) (by omega))
          · -- 43: not taken
            refine e_aload_n aX8_least_46 rfl ?_
            refine e_getRF aX8_least_47 fX8_23 rfl (fx_is F rfl) (fx_r (b := 38) F rfl) ?_
            refine e_iload aX8_least_50 rfl ?_
            refine e_iload_n aX8_least_52 rfl ?_
            refine e_invvT aX8_least_53 kX8_172 (zX2_at X F (s := k) (by omega) hp) rfl rfl (fx_is F rfl) (Nat.le_of_ble_eq_true rfl) (Nat.le_of_ble_eq_true rfl) (Nat.le_refl _) (Nat.le_refl _) (Nat.le_of_ble_eq_true rfl) ?_
            refine e_iload_n aX8_least_56 rfl ?_
            refine e_icmp_ne aX8_least_57 (fun c57 => ?_) (fun c57 => ?_)
            · -- 57: taken
              refine e_iinc aX8_least_63 rfl rfl (Nat.le_of_ble_eq_true rfl) ?_
              refine e_goto aX8_least_66 ?_
              refine e_ls (ls' := [(0, some (vR (some 32))), (1, some (vI (nI pz))), (2, some (vI (nI iz))), (3, some (vI (nI (fo o f + om f)))), (4, some (vI (nI (k + 1))))]) ⟨rfl, rfl, rfl, rfl, congrArg (fun x => some (vI x)) (nI_1 k), trivial⟩ ?_
              exact ih (k + 1) (by omega) (by rw [← hR9, frW_f (fun z => c57 (of_decide_eq_true z))])
            · -- 57: not taken
              refine e_iload aX8_least_60 rfl ?_
              refine e_ireturn aX8_least_62 rfl (Nat.le_refl _) (Nat.le_refl _) ?_
              rw [← hR9, frW_t (decide_eq_true c57)]
              exact ⟨rfl, rfl⟩
      refine e_aload_n aX8_least_23 rfl ?_
      refine e_getRF aX8_least_24 fX8_10 rfl (fx_is F rfl) (fx_r (b := 33) F rfl) ?_
      refine e_invvT aX8_least_27 kX8_181 (zX0_endOpen X F bf) rfl rfl (fx_is F rfl) (Nat.le_of_ble_eq_true rfl) (Nat.le_of_ble_eq_true rfl) (Nat.le_refl _) (Nat.le_refl _) (Nat.le_of_ble_eq_true rfl) ?_
      refine e_istore_n aX8_least_30 (Nat.le_of_ble_eq_true rfl) ?_
      refine e_aload_n aX8_least_31 rfl ?_
      refine e_getRF aX8_least_32 fX8_10 rfl (fx_is F rfl) (fx_r (b := 33) F rfl) ?_
      refine e_invvT aX8_least_35 kX8_84 (zX0_firstOpen X F bf) rfl rfl (fx_is F rfl) (Nat.le_of_ble_eq_true rfl) (Nat.le_of_ble_eq_true rfl) (Nat.le_refl _) (Nat.le_refl _) (Nat.le_of_ble_eq_true rfl) ?_
      refine e_istore aX8_least_38 (Nat.le_of_ble_eq_true rfl) ?_
      refine e_ls (ls' := [(0, some (vR (some 32))), (1, some (vI (nI pz))), (2, some (vI (nI iz))), (3, some (vI (nI (fo o f + om f)))), (4, some (vI (nI (fo o f))))]) ⟨rfl, rfl, rfl, rfl, rfl, trivial⟩ ?_
      exact loop (om f) (fo o f) (by omega) rfl
    · -- 14: not taken
      have q14 := Decidable.of_not_not (fun z => c14 (b2_0.mpr z))
      refine e_aload_n aX8_least_17 rfl ?_
      refine e_iconst (v := 0) aX8_least_18 (by decide) ?_
      refine e_invvT aX8_least_19 kX8_62 (zfin X (k := 0) F (by decide)) rfl rfl (fx_is F rfl) (Nat.le_of_ble_eq_true rfl) (Nat.le_of_ble_eq_true rfl) (Nat.le_refl _) (Nat.le_refl _) (Nat.le_of_ble_eq_true rfl) ?_
      refine e_ireturn aX8_least_22 rfl (Nat.le_refl _) (Nat.le_refl _) ?_
      rw [if_neg q6, if_pos q14]
      exact ⟨rfl, rfl⟩
