/-! contracts: Standings (written by wip/whole/g37.py) -/
theorem bitL_or {x y : Int64} {i : Nat} : bitL (x ||| y) i = (bitL x i || bitL y i) := by unfold bitL; rw [Int64.toBitVec_or, BitVec.getLsbD_or]
theorem bitL_an {x y : Int64} {i : Nat} : bitL (x &&& y) i = (bitL x i && bitL y i) := by unfold bitL; rw [Int64.toBitVec_and, BitVec.getLsbD_and]
theorem bitL_xor {x y : Int64} {i : Nat} : bitL (x ^^^ y) i = (bitL x i ^^ bitL y i) := by unfold bitL; rw [Int64.toBitVec_xor, BitVec.getLsbD_xor]
theorem bitL_m1 : ∀ i, i < 64 → bitL (-1) i = true := by decide +kernel
theorem bitL_0 : ∀ i, i < 64 → bitL 0 i = false := by decide +kernel
theorem bitL_1 {j i : Nat} (hj : j < 64) (hi9 : i < 64) : bitL ((1 : Int64) <<< ((nI j).toInt64 &&& 63)) i = decide (i = j) := by
  unfold bitL
  rw [Int64.toBitVec_shiftLeft]
  show ((1 : Int64).toBitVec <<< (((nI j).toInt64 &&& 63).toBitVec.smod 64)).getLsbD i = _
  have h1 : (1 : Int64).toBitVec = 1#64 := rfl
  rw [BitVec.shiftLeft_eq', sm64 j hj, BitVec.getLsbD_shiftLeft, h1, BitVec.getLsbD_one]
  by_cases h : i = j
  · subst h
    simp [hi9]
  · have h2 : decide (i = j) = false := decide_eq_false h
    rw [h2]
    by_cases h3 : i < j
    · simp [h3]
    · have h4 : ¬ i - j = 0 := by omega
      simp [h3, h4]
/-- a word of a set with a STANDING put in or out -/
def stv (v : Int64) (s : Nat) (x : Int32) : Int64 := if x = 0 then v &&& (((1 : Int64) <<< ((nI (s % 64)).toInt64 &&& 63)) ^^^ (-1)) else v ||| ((1 : Int64) <<< ((nI (s % 64)).toInt64 &&& 63))
theorem stv_b {v : Int64} {s j : Nat} {x : Int32} (hj : j < 64) : bitL (stv v s x) j = if j = s % 64 then decide (¬ x = 0) else bitL v j := by
  have hs : s % 64 < 64 := Nat.mod_lt _ (by decide)
  unfold stv
  by_cases z : x = 0
  · rw [if_pos z, bitL_an, bitL_xor, bitL_1 hs hj, bitL_m1 j hj]
    by_cases w : j = s % 64
    · rw [if_pos w, decide_eq_true w, decide_eq_false (fun q => q z)]
      simp
    · rw [if_neg w, decide_eq_false w]
      simp
  · rw [if_neg z, bitL_or, bitL_1 hs hj]
    by_cases w : j = s % 64
    · rw [if_pos w, decide_eq_true w, decide_eq_true z]
      simp
    · rw [if_neg w, decide_eq_false w]
      simp
/-- a set of STANDINGS with its words -/
def StS (h : HP) (sb wb : Nat) : Prop := Is h sb 7 ∧ hR h sb 0 = some wb ∧ Is h wb 14 ∧ hN h wb = 21
def wsH (h : HP) (wb : Nat) (g : Nat → Int64) : HP := (h.1, fun a i => if a = wb then g i else h.2.1 a i, h.2.2)
theorem wsH_0 {h : HP} {wb : Nat} : h = wsH h wb (hL h wb) := by
  show (h.1, h.2.1, h.2.2) = (h.1, _, h.2.2)
  congr 1
  congr 1
  funext a i
  by_cases z : a = wb
  · rw [if_pos z, z]
  · rw [if_neg z]
theorem wsH_L {h : HP} {wb i : Nat} {g : Nat → Int64} : hL (wsH h wb g) wb i = g i := if_pos rfl
theorem wsH_o {h : HP} {wb a i : Nat} {g : Nat → Int64} (z : a ≠ wb) : hL (wsH h wb g) a i = hL h a i := if_neg z
theorem wsH_w {h : HP} {wb j : Nat} {g : Nat → Int64} {v : Int64} : wL (wsH h wb g) wb j v = wsH h wb (fun i => if i = j then v else g i) := by
  unfold wsH wL
  congr 1
  congr 1
  funext a i
  unfold up2
  by_cases z : a = wb
  · simp [z]
  · simp [z]
theorem wsH_2 {h : HP} {wb : Nat} {g g2 : Nat → Int64} : wsH (wsH h wb g) wb g2 = wsH h wb g2 := by
  unfold wsH
  congr 1
  congr 1
  funext a i
  by_cases z : a = wb
  · simp [z]
  · simp [z]
def bts (g : Nat → Int64) (s : Nat) : Bool := bitL (g (s / 64)) (s % 64)
theorem bts_set {g : Nat → Int64} {s u : Nat} {x : Int32} : bts (fun i => if i = s / 64 then stv (g (s / 64)) s x else g i) u = if u = s then decide (¬ x = 0) else bts g u := by
  unfold bts
  have hu : u % 64 < 64 := Nat.mod_lt _ (by decide)
  by_cases z : u / 64 = s / 64
  · show bitL (if u / 64 = s / 64 then stv (g (s / 64)) s x else g (u / 64)) (u % 64) = _
    rw [if_pos z, stv_b hu]
    by_cases w : u % 64 = s % 64
    · have e : u = s := by omega
      rw [if_pos w, if_pos e]
    · have e : ¬ u = s := fun q => w (by rw [q])
      rw [if_neg w, if_neg e, z]
  · have e : ¬ u = s := fun q => z (by rw [q])
    show bitL (if u / 64 = s / 64 then stv (g (s / 64)) s x else g (u / 64)) (u % 64) = _
    rw [if_neg z, if_neg e]
theorem zX6_set (X : EX) {h : HP} {sb wb s : Nat} (kS : StS h sb wb) (hs : s < 1296) (x : Int32) : Ct X mX6_set 0 0 0 [vR (some sb), vI (nI s), vI x] h (Rv (wL h wb (s / 64) (stv (hL h wb (s / 64)) s x))) := by
  refine ct_of rfl (Nat.le_of_ble_eq_true rfl) ?_
  refine e_lconst (v := 1) aX6_set_0 rfl ?_
  refine e_iload_n aX6_set_1 rfl ?_
  refine e_bipush (v := 63) aX6_set_2 (by decide) ?_
  refine e_iand aX6_set_4 ?_
  refine e_top (and63 (by omega)) ?_
  refine e_lshl aX6_set_5 ?_
  refine e_lstore_n aX6_set_6 (Nat.le_of_ble_eq_true rfl) ?_
  refine e_iload_n aX6_set_7 rfl ?_
  refine e_bipush (v := 6) aX6_set_8 (by decide) ?_
  refine e_ishr aX6_set_10 ?_
  refine e_top (shr6 (by omega)) ?_
  refine e_istore aX6_set_11 (Nat.le_of_ble_eq_true rfl) ?_
  refine e_aload_n aX6_set_13 rfl ?_
  refine e_getRF aX6_set_14 fX6_11 rfl kS.1 kS.2.1 ?_
  refine e_iload aX6_set_17 rfl ?_
  refine e_iload_n aX6_set_19 rfl ?_
  refine e_if_eq aX6_set_20 (fun c20 => ?_) (fun c20 => ?_)
  · -- 20: taken
    have e9 : stv (hL h wb (s / 64)) s x = _ := if_pos c20
    refine e_aload_n aX6_set_35 rfl ?_
    refine e_getRF aX6_set_36 fX6_11 rfl kS.1 kS.2.1 ?_
    refine e_iload aX6_set_39 rfl ?_
    refine e_laloadF aX6_set_41 kS.2.2.1 kS.2.2.2 (vin (N := 21) (by omega)) (show hL h wb (nI (s / 64)).toNatClampNeg = hL h wb (s / 64) by rw [cl (by omega)]) ?_
    refine e_lload_n aX6_set_42 rfl ?_
    refine e_ldc2 aX6_set_43 lX6_29 ?_
    refine e_lxor aX6_set_46 ?_
    refine e_land aX6_set_47 ?_
    refine e_lastoreF aX6_set_48 kS.2.2.1 kS.2.2.2 (vin (N := 21) (by omega)) ?_
    rw [cl (by omega)]
    refine e_return aX6_set_49 rfl (Nat.le_refl _) (Nat.le_refl _) ?_
    exact ⟨rfl, by rw [e9]⟩
  · -- 20: not taken
    have e9 : stv (hL h wb (s / 64)) s x = _ := if_neg c20
    refine e_aload_n aX6_set_23 rfl ?_
    refine e_getRF aX6_set_24 fX6_11 rfl kS.1 kS.2.1 ?_
    refine e_iload aX6_set_27 rfl ?_
    refine e_laloadF aX6_set_29 kS.2.2.1 kS.2.2.2 (vin (N := 21) (by omega)) (show hL h wb (nI (s / 64)).toNatClampNeg = hL h wb (s / 64) by rw [cl (by omega)]) ?_
    refine e_lload_n aX6_set_30 rfl ?_
    refine e_lor aX6_set_31 ?_
    refine e_goto aX6_set_32 ?_
    refine e_lastoreF aX6_set_48 kS.2.2.1 kS.2.2.2 (vin (N := 21) (by omega)) ?_
    rw [cl (by omega)]
    refine e_return aX6_set_49 rfl (Nat.le_refl _) (Nat.le_refl _) ?_
    exact ⟨rfl, by rw [e9]⟩
theorem zset (X : EX) {h : HP} {sb wb s : Nat} {g : Nat → Int64} (kS : StS h sb wb) (hs : s < 1296) (x : Int32) : Ct X mX6_set 0 0 0 [vR (some sb), vI (nI s), vI x] (wsH h wb g) (Rv (wsH h wb (fun i => if i = s / 64 then stv (g (s / 64)) s x else g i))) := by
  have e := zX6_set X (h := wsH h wb g) (sb := sb) (wb := wb) kS hs x
  rw [wsH_L, wsH_w] at e
  exact e
theorem bts_step {P : Nat → Bool} {g : Nat → Int64} {k : Nat} {x : Int32} (hg : ∀ u, u < k → bts g u = P u) (hx : decide (¬ x = 0) = P k) : ∀ u, u < k + 1 → bts (fun i => if i = k / 64 then stv (g (k / 64)) k x else g i) u = P u := by
  intro u hu
  rw [bts_set]
  by_cases z : u = k
  · rw [if_pos z, z]
    exact hx
  · rw [if_neg z]
    exact hg u (by omega)
/-- the set becomes P -/
def bcm (h : HP) (wb : Nat) (P : Nat → Bool) : Option VV → HP → Prop := fun v h' => v = none ∧ ∃ g, h' = wsH h wb g ∧ ∀ u, u < 1296 → bts g u = P u
theorem zX6_becomeAhead (X : EX) {h : HP} {sb wb p q : Nat} (kS : StS h sb wb) (hp : p < 12) (hq : q < 12) : Ct X mX6_becomeAhead 1 0 0 [vR (some sb), vI (nI p), vI (nI q)] h (bcm h wb (fun s => decide (pl s p < pl s q))) := by
  refine ct_of rfl (Nat.le_of_ble_eq_true rfl) ?_
  have loop : ∀ (m : Nat) (k : Nat) (g : Nat → Int64), k + m = 1296 → (∀ u, u < k → bts g u = (fun s => decide (pl s p < pl s q)) u) → Ev X mX6_becomeAhead 1 0 0 (bcm h wb (fun s => decide (pl s p < pl s q))) 0 0 2 [(0, some (vR (some sb))), (1, some (vI (nI p))), (2, some (vI (nI q))), (3, some (vI (nI k)))] [] (wsH h wb g) := by
    intro m
    induction m with
    | zero =>
      intro k g hk hg
      obtain rfl : k = 1296 := by omega
      refine e_iload_n aX6_becomeAhead_2 rfl ?_
      refine e_sipush (v := 1296) aX6_becomeAhead_3 (by decide) ?_
      refine e_icmp_ge aX6_becomeAhead_6 (fun c6 => ?_) (fun c6 => ?_)
      · -- 6: taken
        refine e_return aX6_becomeAhead_38 rfl (Nat.le_refl _) (Nat.le_refl _) ?_
        exact ⟨rfl, g, rfl, hg⟩
      · -- 6: not taken
        exact absurd (nI_le (a := 1296) (b := 1296) (by decide) (by decide)) c6
    | succ m ih =>
      intro k g hk hg
      refine e_iload_n aX6_becomeAhead_2 rfl ?_
      refine e_sipush (v := 1296) aX6_becomeAhead_3 (by decide) ?_
      refine e_icmp_ge aX6_becomeAhead_6 (fun c6 => ?_) (fun c6 => ?_)
      · -- 6: taken
        exact absurd c6 (nI_ge (a := k) (b := 1296) (by omega) (by decide))
      · -- 6: not taken
        refine e_aload_n aX6_becomeAhead_9 rfl ?_
        refine e_iload_n aX6_becomeAhead_10 rfl ?_
        refine e_iload_n aX6_becomeAhead_11 rfl ?_
        refine e_iload_n aX6_becomeAhead_12 rfl ?_
        refine e_invsNT aX6_becomeAhead_13 kX6_15 (zX8_placeUnder X (s := k) (by omega) hp) rfl rfl (Nat.le_of_ble_eq_true rfl) (Nat.le_of_ble_eq_true rfl) (Nat.le_refl _) (Nat.le_refl _) (Nat.le_of_ble_eq_true rfl) ?_
        refine e_iload_n aX6_becomeAhead_16 rfl ?_
        refine e_iload_n aX6_becomeAhead_17 rfl ?_
        refine e_invsNT aX6_becomeAhead_18 kX6_15 (zX8_placeUnder X (s := k) (by omega) hq) rfl rfl (Nat.le_of_ble_eq_true rfl) (Nat.le_of_ble_eq_true rfl) (Nat.le_refl _) (Nat.le_refl _) (Nat.le_of_ble_eq_true rfl) ?_
        refine e_icmp_ge aX6_becomeAhead_21 (fun c21 => ?_) (fun c21 => ?_)
        · -- 21: taken
          have q21 := (not_congr (nI_ltI (a := pl k p) (b := pl k q) (by have := pl_lt k p; omega) (by have := pl_lt k q; omega))).mp (Int32.not_lt.mpr c21)
          refine e_iconst (v := 0) aX6_becomeAhead_28 (by decide) ?_
          refine e_invvV aX6_becomeAhead_29 kX6_19 (zset X kS (s := k) (by omega) _) rfl rfl kS.1 (Nat.le_of_ble_eq_true rfl) (Nat.le_of_ble_eq_true rfl) (Nat.le_refl _) (Nat.le_refl _) (Nat.le_of_ble_eq_true rfl) ?_
          refine e_iinc aX6_becomeAhead_32 rfl rfl (Nat.le_of_ble_eq_true rfl) ?_
          refine e_goto aX6_becomeAhead_35 ?_
          refine e_ls (ls' := [(0, some (vR (some sb))), (1, some (vI (nI p))), (2, some (vI (nI q))), (3, some (vI (nI (k + 1))))]) ⟨rfl, rfl, rfl, congrArg (fun x => some (vI x)) (nI_1 k), trivial⟩ ?_
          exact ih (k + 1) _ (by omega) (bts_step (x := 0) hg ((decide_eq_false (by decide)).trans (decide_eq_false q21).symm))
        · -- 21: not taken
          have q21 := (nI_ltI (a := pl k p) (b := pl k q) (by have := pl_lt k p; omega) (by have := pl_lt k q; omega)).mp (Int32.not_le.mp c21)
          refine e_iconst (v := 1) aX6_becomeAhead_24 (by decide) ?_
          refine e_goto aX6_becomeAhead_25 ?_
          refine e_invvV aX6_becomeAhead_29 kX6_19 (zset X kS (s := k) (by omega) _) rfl rfl kS.1 (Nat.le_of_ble_eq_true rfl) (Nat.le_of_ble_eq_true rfl) (Nat.le_refl _) (Nat.le_refl _) (Nat.le_of_ble_eq_true rfl) ?_
          refine e_iinc aX6_becomeAhead_32 rfl rfl (Nat.le_of_ble_eq_true rfl) ?_
          refine e_goto aX6_becomeAhead_35 ?_
          refine e_ls (ls' := [(0, some (vR (some sb))), (1, some (vI (nI p))), (2, some (vI (nI q))), (3, some (vI (nI (k + 1))))]) ⟨rfl, rfl, rfl, congrArg (fun x => some (vI x)) (nI_1 k), trivial⟩ ?_
          exact ih (k + 1) _ (by omega) (bts_step (x := 1) hg ((decide_eq_true (by decide)).trans (decide_eq_true q21).symm))
  refine e_iconst (v := 0) aX6_becomeAhead_0 (by decide) ?_
  refine e_istore_n aX6_becomeAhead_1 (Nat.le_of_ble_eq_true rfl) ?_
  refine e_ls (ls' := [(0, some (vR (some sb))), (1, some (vI (nI p))), (2, some (vI (nI q))), (3, some (vI (nI 0)))]) ⟨rfl, rfl, rfl, rfl, trivial⟩ ?_
  refine e_hp (h2 := wsH h wb (hL h wb)) wsH_0 ?_
  exact loop 1296 0 _ rfl (fun u z => absurd z (Nat.not_lt_zero u))
theorem zX6_becomeAt (X : EX) {h : HP} {sb wb p q : Nat} (kS : StS h sb wb) (hp : p < 12) (hq : q < 3) : Ct X mX6_becomeAt 1 0 0 [vR (some sb), vI (nI p), vI (nI q)] h (bcm h wb (fun s => decide (pl s p = q))) := by
  refine ct_of rfl (Nat.le_of_ble_eq_true rfl) ?_
  have loop : ∀ (m : Nat) (k : Nat) (g : Nat → Int64), k + m = 1296 → (∀ u, u < k → bts g u = (fun s => decide (pl s p = q)) u) → Ev X mX6_becomeAt 1 0 0 (bcm h wb (fun s => decide (pl s p = q))) 0 0 2 [(0, some (vR (some sb))), (1, some (vI (nI p))), (2, some (vI (nI q))), (3, some (vI (nI k)))] [] (wsH h wb g) := by
    intro m
    induction m with
    | zero =>
      intro k g hk hg
      obtain rfl : k = 1296 := by omega
      refine e_iload_n aX6_becomeAt_2 rfl ?_
      refine e_sipush (v := 1296) aX6_becomeAt_3 (by decide) ?_
      refine e_icmp_ge aX6_becomeAt_6 (fun c6 => ?_) (fun c6 => ?_)
      · -- 6: taken
        refine e_return aX6_becomeAt_34 rfl (Nat.le_refl _) (Nat.le_refl _) ?_
        exact ⟨rfl, g, rfl, hg⟩
      · -- 6: not taken
        exact absurd (nI_le (a := 1296) (b := 1296) (by decide) (by decide)) c6
    | succ m ih =>
      intro k g hk hg
      refine e_iload_n aX6_becomeAt_2 rfl ?_
      refine e_sipush (v := 1296) aX6_becomeAt_3 (by decide) ?_
      refine e_icmp_ge aX6_becomeAt_6 (fun c6 => ?_) (fun c6 => ?_)
      · -- 6: taken
        exact absurd c6 (nI_ge (a := k) (b := 1296) (by omega) (by decide))
      · -- 6: not taken
        refine e_aload_n aX6_becomeAt_9 rfl ?_
        refine e_iload_n aX6_becomeAt_10 rfl ?_
        refine e_iload_n aX6_becomeAt_11 rfl ?_
        refine e_iload_n aX6_becomeAt_12 rfl ?_
        refine e_invsNT aX6_becomeAt_13 kX6_15 (zX8_placeUnder X (s := k) (by omega) hp) rfl rfl (Nat.le_of_ble_eq_true rfl) (Nat.le_of_ble_eq_true rfl) (Nat.le_refl _) (Nat.le_refl _) (Nat.le_of_ble_eq_true rfl) ?_
        refine e_iload_n aX6_becomeAt_16 rfl ?_
        refine e_icmp_ne aX6_becomeAt_17 (fun c17 => ?_) (fun c17 => ?_)
        · -- 17: taken
          have q17 : ¬ pl k p = q := fun z => c17 (by rw [z])
          refine e_iconst (v := 0) aX6_becomeAt_24 (by decide) ?_
          refine e_invvV aX6_becomeAt_25 kX6_19 (zset X kS (s := k) (by omega) _) rfl rfl kS.1 (Nat.le_of_ble_eq_true rfl) (Nat.le_of_ble_eq_true rfl) (Nat.le_refl _) (Nat.le_refl _) (Nat.le_of_ble_eq_true rfl) ?_
          refine e_iinc aX6_becomeAt_28 rfl rfl (Nat.le_of_ble_eq_true rfl) ?_
          refine e_goto aX6_becomeAt_31 ?_
          refine e_ls (ls' := [(0, some (vR (some sb))), (1, some (vI (nI p))), (2, some (vI (nI q))), (3, some (vI (nI (k + 1))))]) ⟨rfl, rfl, rfl, congrArg (fun x => some (vI x)) (nI_1 k), trivial⟩ ?_
          exact ih (k + 1) _ (by omega) (bts_step (x := 0) hg ((decide_eq_false (by decide)).trans (decide_eq_false q17).symm))
        · -- 17: not taken
          have q17 : pl k p = q := (nI_eq (by have := pl_lt k p; omega) (by omega)).mp c17
          refine e_iconst (v := 1) aX6_becomeAt_20 (by decide) ?_
          refine e_goto aX6_becomeAt_21 ?_
          refine e_invvV aX6_becomeAt_25 kX6_19 (zset X kS (s := k) (by omega) _) rfl rfl kS.1 (Nat.le_of_ble_eq_true rfl) (Nat.le_of_ble_eq_true rfl) (Nat.le_refl _) (Nat.le_refl _) (Nat.le_of_ble_eq_true rfl) ?_
          refine e_iinc aX6_becomeAt_28 rfl rfl (Nat.le_of_ble_eq_true rfl) ?_
          refine e_goto aX6_becomeAt_31 ?_
          refine e_ls (ls' := [(0, some (vR (some sb))), (1, some (vI (nI p))), (2, some (vI (nI q))), (3, some (vI (nI (k + 1))))]) ⟨rfl, rfl, rfl, congrArg (fun x => some (vI x)) (nI_1 k), trivial⟩ ?_
          exact ih (k + 1) _ (by omega) (bts_step (x := 1) hg ((decide_eq_true (by decide)).trans (decide_eq_true q17).symm))
  refine e_iconst (v := 0) aX6_becomeAt_0 (by decide) ?_
  refine e_istore_n aX6_becomeAt_1 (Nat.le_of_ble_eq_true rfl) ?_
  refine e_ls (ls' := [(0, some (vR (some sb))), (1, some (vI (nI p))), (2, some (vI (nI q))), (3, some (vI (nI 0)))]) ⟨rfl, rfl, rfl, rfl, trivial⟩ ?_
  refine e_hp (h2 := wsH h wb (hL h wb)) wsH_0 ?_
  exact loop 1296 0 _ rfl (fun u z => absurd z (Nat.not_lt_zero u))
theorem zX6_becomeLapsed (X : EX) {h : HP} {sb wb a : Nat} {d : DD} (kS : StS h sb wb) (hk9 : ∀ g, DealC (wsH h wb g) a d) : Ct X mX6_becomeLapsed 2 0 0 [vR (some sb), vR (some a)] h (bcm h wb (fun s => decide (gv d s = none))) := by
  refine ct_of rfl (Nat.le_of_ble_eq_true rfl) ?_
  have loop : ∀ (m : Nat) (k : Nat) (g : Nat → Int64), k + m = 1296 → (∀ u, u < k → bts g u = (fun s => decide (gv d s = none)) u) → Ev X mX6_becomeLapsed 2 0 0 (bcm h wb (fun s => decide (gv d s = none))) 0 0 2 [(0, some (vR (some sb))), (1, some (vR (some a))), (2, some (vI (nI k)))] [] (wsH h wb g) := by
    intro m
    induction m with
    | zero =>
      intro k g hk hg
      obtain rfl : k = 1296 := by omega
      refine e_iload_n aX6_becomeLapsed_2 rfl ?_
      refine e_sipush (v := 1296) aX6_becomeLapsed_3 (by decide) ?_
      refine e_icmp_ge aX6_becomeLapsed_6 (fun c6 => ?_) (fun c6 => ?_)
      · -- 6: taken
        refine e_return aX6_becomeLapsed_33 rfl (Nat.le_refl _) (Nat.le_refl _) ?_
        exact ⟨rfl, g, rfl, hg⟩
      · -- 6: not taken
        exact absurd (nI_le (a := 1296) (b := 1296) (by decide) (by decide)) c6
    | succ m ih =>
      intro k g hk hg
      refine e_iload_n aX6_becomeLapsed_2 rfl ?_
      refine e_sipush (v := 1296) aX6_becomeLapsed_3 (by decide) ?_
      refine e_icmp_ge aX6_becomeLapsed_6 (fun c6 => ?_) (fun c6 => ?_)
      · -- 6: taken
        exact absurd c6 (nI_ge (a := k) (b := 1296) (by omega) (by decide))
      · -- 6: not taken
        refine e_aload_n aX6_becomeLapsed_9 rfl ?_
        refine e_iload_n aX6_becomeLapsed_10 rfl ?_
        refine e_aload_n aX6_becomeLapsed_11 rfl ?_
        refine e_iload_n aX6_becomeLapsed_12 rfl ?_
        refine e_invvT aX6_becomeLapsed_13 kX6_23 (zX1_gives X (hk9 g) (s := k) (by omega)) rfl rfl (hk9 g).2.1 (Nat.le_of_ble_eq_true rfl) (Nat.le_of_ble_eq_true rfl) (Nat.le_refl _) (Nat.le_refl _) (Nat.le_of_ble_eq_true rfl) ?_
        refine e_if_ge aX6_becomeLapsed_16 (fun c16 => ?_) (fun c16 => ?_)
        · -- 16: taken
          have q16 := (not_congr (oI_neg (gv_b (hk9 g).2.2.1 (s := k)))).mp (Int32.not_lt.mpr c16)
          refine e_iconst (v := 0) aX6_becomeLapsed_23 (by decide) ?_
          refine e_invvV aX6_becomeLapsed_24 kX6_19 (zset X kS (s := k) (by omega) _) rfl rfl kS.1 (Nat.le_of_ble_eq_true rfl) (Nat.le_of_ble_eq_true rfl) (Nat.le_refl _) (Nat.le_refl _) (Nat.le_of_ble_eq_true rfl) ?_
          refine e_iinc aX6_becomeLapsed_27 rfl rfl (Nat.le_of_ble_eq_true rfl) ?_
          refine e_goto aX6_becomeLapsed_30 ?_
          refine e_ls (ls' := [(0, some (vR (some sb))), (1, some (vR (some a))), (2, some (vI (nI (k + 1))))]) ⟨rfl, rfl, congrArg (fun x => some (vI x)) (nI_1 k), trivial⟩ ?_
          exact ih (k + 1) _ (by omega) (bts_step (x := 0) hg ((decide_eq_false (by decide)).trans (decide_eq_false q16).symm))
        · -- 16: not taken
          have q16 := (oI_neg (gv_b (hk9 g).2.2.1 (s := k))).mp (Int32.not_le.mp c16)
          refine e_iconst (v := 1) aX6_becomeLapsed_19 (by decide) ?_
          refine e_goto aX6_becomeLapsed_20 ?_
          refine e_invvV aX6_becomeLapsed_24 kX6_19 (zset X kS (s := k) (by omega) _) rfl rfl kS.1 (Nat.le_of_ble_eq_true rfl) (Nat.le_of_ble_eq_true rfl) (Nat.le_refl _) (Nat.le_refl _) (Nat.le_of_ble_eq_true rfl) ?_
          refine e_iinc aX6_becomeLapsed_27 rfl rfl (Nat.le_of_ble_eq_true rfl) ?_
          refine e_goto aX6_becomeLapsed_30 ?_
          refine e_ls (ls' := [(0, some (vR (some sb))), (1, some (vR (some a))), (2, some (vI (nI (k + 1))))]) ⟨rfl, rfl, congrArg (fun x => some (vI x)) (nI_1 k), trivial⟩ ?_
          exact ih (k + 1) _ (by omega) (bts_step (x := 1) hg ((decide_eq_true (by decide)).trans (decide_eq_true q16).symm))
  refine e_iconst (v := 0) aX6_becomeLapsed_0 (by decide) ?_
  refine e_istore_n aX6_becomeLapsed_1 (Nat.le_of_ble_eq_true rfl) ?_
  refine e_ls (ls' := [(0, some (vR (some sb))), (1, some (vR (some a))), (2, some (vI (nI 0)))]) ⟨rfl, rfl, rfl, trivial⟩ ?_
  refine e_hp (h2 := wsH h wb (hL h wb)) wsH_0 ?_
  exact loop 1296 0 _ rfl (fun u z => absurd z (Nat.not_lt_zero u))
def wkL (f b : Nat → Int64) (k : Nat) : Nat → Int64 := fun i => if i < k then f i else b i
theorem wkL_s {f b : Nat → Int64} {k : Nat} : (fun i => if i = k then f k else wkL f b k i) = wkL f b (k + 1) := by
  funext i
  unfold wkL
  by_cases z : i = k
  · rw [if_pos z, if_pos (by omega), z]
  · rw [if_neg z]
    by_cases w : i < k
    · rw [if_pos w, if_pos (by omega)]
    · rw [if_neg w, if_neg (by omega)]
theorem wkL_0 {f b : Nat → Int64} : b = wkL f b 0 := funext fun i => (if_neg (Nat.not_lt_zero i)).symm
theorem wkL_e {f b : Nat → Int64} {u : Nat} (hu : u < 1296) : bts (wkL f b 21) u = bts f u := by
  unfold bts wkL
  rw [if_pos (by omega)]
theorem wkL_k {f b : Nat → Int64} {k : Nat} : wkL f b k k = b k := if_neg (Nat.lt_irrefl k)
theorem zX6_clear (X : EX) {h : HP} {sb wb : Nat} (kS : StS h sb wb) : Ct X mX6_clear 0 0 0 [vR (some sb)] h (bcm h wb (fun _ => false)) := by
  refine ct_of rfl (Nat.le_of_ble_eq_true rfl) ?_
  have loop : ∀ (m : Nat) (k : Nat), k + m = 21 → Ev X mX6_clear 0 0 0 (bcm h wb (fun _ => false)) 0 0 2 [(0, some (vR (some sb))), (1, some (vI (nI k)))] [] (wsH h wb (wkL (fun _ => 0) (hL h wb) k)) := by
    intro m
    induction m with
    | zero =>
      intro k hk
      obtain rfl : k = 21 := by omega
      refine e_iload_n aX6_clear_2 rfl ?_
      refine e_bipush (v := 21) aX6_clear_3 (by decide) ?_
      refine e_icmp_ge aX6_clear_5 (fun c5 => ?_) (fun c5 => ?_)
      · -- 5: taken
        refine e_return aX6_clear_21 rfl (Nat.le_refl _) (Nat.le_refl _) ?_
        exact ⟨rfl, _, rfl, fun u hu => by rw [wkL_e hu]; exact bitL_0 _ (Nat.mod_lt _ (by decide))⟩
      · -- 5: not taken
        exact absurd (nI_le (a := 21) (b := 21) (by decide) (by decide)) c5
    | succ m ih =>
      intro k hk
      refine e_iload_n aX6_clear_2 rfl ?_
      refine e_bipush (v := 21) aX6_clear_3 (by decide) ?_
      refine e_icmp_ge aX6_clear_5 (fun c5 => ?_) (fun c5 => ?_)
      · -- 5: taken
        exact absurd c5 (nI_ge (a := k) (b := 21) (by omega) (by decide))
      · -- 5: not taken
        refine e_aload_n aX6_clear_8 rfl ?_
        refine e_getRF aX6_clear_9 fX6_11 rfl kS.1 kS.2.1 ?_
        refine e_iload_n aX6_clear_12 rfl ?_
        refine e_lconst (v := 0) aX6_clear_13 rfl ?_
        refine e_lastoreF aX6_clear_14 kS.2.2.1 kS.2.2.2 (vin (N := 21) (by omega)) ?_
        rw [cl (by omega)]
        refine e_iinc aX6_clear_15 rfl rfl (Nat.le_of_ble_eq_true rfl) ?_
        refine e_goto aX6_clear_18 ?_
        refine e_ls (ls' := [(0, some (vR (some sb))), (1, some (vI (nI (k + 1))))]) ⟨rfl, congrArg (fun x => some (vI x)) (nI_1 k), trivial⟩ ?_
        refine e_hp (h2 := (wsH h wb (wkL (fun _ => 0) (hL h wb) (k + 1)))) (by rw [wsH_w]; exact congrArg (wsH h wb) wkL_s) ?_
        exact ih (k + 1) (by omega)
  refine e_iconst (v := 0) aX6_clear_0 (by decide) ?_
  refine e_istore_n aX6_clear_1 (Nat.le_of_ble_eq_true rfl) ?_
  refine e_ls (ls' := [(0, some (vR (some sb))), (1, some (vI (nI 0)))]) ⟨rfl, rfl, trivial⟩ ?_
  refine e_hp (h2 := (wsH h wb (wkL (fun _ => 0) (hL h wb) 0))) (wsH_0.trans (congrArg (wsH h wb) wkL_0)) ?_
  exact loop 21 0 rfl
theorem zX6_turn (X : EX) {h : HP} {sb wb : Nat} (kS : StS h sb wb) : Ct X mX6_turn 0 0 0 [vR (some sb)] h (bcm h wb (fun s => !bts (hL h wb) s)) := by
  refine ct_of rfl (Nat.le_of_ble_eq_true rfl) ?_
  have loop : ∀ (m : Nat) (k : Nat), k + m = 21 → Ev X mX6_turn 0 0 0 (bcm h wb (fun s => !bts (hL h wb) s)) 0 0 2 [(0, some (vR (some sb))), (1, some (vI (nI k)))] [] (wsH h wb (wkL (fun i => hL h wb i ^^^ (-1)) (hL h wb) k)) := by
    intro m
    induction m with
    | zero =>
      intro k hk
      obtain rfl : k = 21 := by omega
      refine e_iload_n aX6_turn_2 rfl ?_
      refine e_bipush (v := 21) aX6_turn_3 (by decide) ?_
      refine e_icmp_ge aX6_turn_5 (fun c5 => ?_) (fun c5 => ?_)
      · -- 5: taken
        refine e_return aX6_turn_30 rfl (Nat.le_refl _) (Nat.le_refl _) ?_
        exact ⟨rfl, _, rfl, fun u hu => by rw [wkL_e hu]; exact (show bitL (hL h wb (u / 64) ^^^ (-1)) (u % 64) = !bitL (hL h wb (u / 64)) (u % 64) by rw [bitL_xor, bitL_m1 _ (Nat.mod_lt _ (by decide)), Bool.xor_true])⟩
      · -- 5: not taken
        exact absurd (nI_le (a := 21) (b := 21) (by decide) (by decide)) c5
    | succ m ih =>
      intro k hk
      refine e_iload_n aX6_turn_2 rfl ?_
      refine e_bipush (v := 21) aX6_turn_3 (by decide) ?_
      refine e_icmp_ge aX6_turn_5 (fun c5 => ?_) (fun c5 => ?_)
      · -- 5: taken
        exact absurd c5 (nI_ge (a := k) (b := 21) (by omega) (by decide))
      · -- 5: not taken
        refine e_aload_n aX6_turn_8 rfl ?_
        refine e_getRF aX6_turn_9 fX6_11 rfl kS.1 kS.2.1 ?_
        refine e_iload_n aX6_turn_12 rfl ?_
        refine e_aload_n aX6_turn_13 rfl ?_
        refine e_getRF aX6_turn_14 fX6_11 rfl kS.1 kS.2.1 ?_
        refine e_iload_n aX6_turn_17 rfl ?_
        refine e_laloadF aX6_turn_18 kS.2.2.1 kS.2.2.2 (vin (N := 21) (by omega)) (show hL (wsH h wb (wkL (fun i => hL h wb i ^^^ (-1)) (hL h wb) k)) wb (nI k).toNatClampNeg = hL h wb k by rw [cl (by omega), wsH_L, wkL_k]) ?_
        refine e_ldc2 aX6_turn_19 lX6_29 ?_
        refine e_lxor aX6_turn_22 ?_
        refine e_lastoreF aX6_turn_23 kS.2.2.1 kS.2.2.2 (vin (N := 21) (by omega)) ?_
        rw [cl (by omega)]
        refine e_iinc aX6_turn_24 rfl rfl (Nat.le_of_ble_eq_true rfl) ?_
        refine e_goto aX6_turn_27 ?_
        refine e_ls (ls' := [(0, some (vR (some sb))), (1, some (vI (nI (k + 1))))]) ⟨rfl, congrArg (fun x => some (vI x)) (nI_1 k), trivial⟩ ?_
        refine e_hp (h2 := (wsH h wb (wkL (fun i => hL h wb i ^^^ (-1)) (hL h wb) (k + 1)))) (by rw [wsH_w]; exact congrArg (wsH h wb) wkL_s) ?_
        exact ih (k + 1) (by omega)
  refine e_iconst (v := 0) aX6_turn_0 (by decide) ?_
  refine e_istore_n aX6_turn_1 (Nat.le_of_ble_eq_true rfl) ?_
  refine e_ls (ls' := [(0, some (vR (some sb))), (1, some (vI (nI 0)))]) ⟨rfl, rfl, trivial⟩ ?_
  refine e_hp (h2 := (wsH h wb (wkL (fun i => hL h wb i ^^^ (-1)) (hL h wb) 0))) (wsH_0.trans (congrArg (wsH h wb) wkL_0)) ?_
  exact loop 21 0 rfl
theorem zX6_join (X : EX) {h : HP} {sb wb sc wc : Nat} (kS : StS h sb wb) (kT : StS h sc wc) (hbc : wc ≠ wb) : Ct X mX6_join 0 0 0 [vR (some sb), vR (some sc)] h (bcm h wb (fun s => bts (hL h wb) s || bts (hL h wc) s)) := by
  refine ct_of rfl (Nat.le_of_ble_eq_true rfl) ?_
  have loop : ∀ (m : Nat) (k : Nat), k + m = 21 → Ev X mX6_join 0 0 0 (bcm h wb (fun s => bts (hL h wb) s || bts (hL h wc) s)) 0 0 2 [(0, some (vR (some sb))), (1, some (vR (some sc))), (2, some (vI (nI k)))] [] (wsH h wb (wkL (fun i => hL h wb i ||| hL h wc i) (hL h wb) k)) := by
    intro m
    induction m with
    | zero =>
      intro k hk
      obtain rfl : k = 21 := by omega
      refine e_iload_n aX6_join_2 rfl ?_
      refine e_bipush (v := 21) aX6_join_3 (by decide) ?_
      refine e_icmp_ge aX6_join_5 (fun c5 => ?_) (fun c5 => ?_)
      · -- 5: taken
        refine e_return aX6_join_29 rfl (Nat.le_refl _) (Nat.le_refl _) ?_
        exact ⟨rfl, _, rfl, fun u hu => by rw [wkL_e hu]; exact bitL_or⟩
      · -- 5: not taken
        exact absurd (nI_le (a := 21) (b := 21) (by decide) (by decide)) c5
    | succ m ih =>
      intro k hk
      refine e_iload_n aX6_join_2 rfl ?_
      refine e_bipush (v := 21) aX6_join_3 (by decide) ?_
      refine e_icmp_ge aX6_join_5 (fun c5 => ?_) (fun c5 => ?_)
      · -- 5: taken
        exact absurd c5 (nI_ge (a := k) (b := 21) (by omega) (by decide))
      · -- 5: not taken
        refine e_aload_n aX6_join_8 rfl ?_
        refine e_getRF aX6_join_9 fX6_11 rfl kS.1 kS.2.1 ?_
        refine e_iload_n aX6_join_12 rfl ?_
        refine e_dup2 aX6_join_13 rfl rfl ?_
        refine e_laloadF aX6_join_14 kS.2.2.1 kS.2.2.2 (vin (N := 21) (by omega)) (show hL (wsH h wb (wkL (fun i => hL h wb i ||| hL h wc i) (hL h wb) k)) wb (nI k).toNatClampNeg = hL h wb k by rw [cl (by omega), wsH_L, wkL_k]) ?_
        refine e_aload_n aX6_join_15 rfl ?_
        refine e_getRF aX6_join_16 fX6_11 rfl kT.1 kT.2.1 ?_
        refine e_iload_n aX6_join_19 rfl ?_
        refine e_laloadF aX6_join_20 kT.2.2.1 kT.2.2.2 (vin (N := 21) (by omega)) (show hL (wsH h wb (wkL (fun i => hL h wb i ||| hL h wc i) (hL h wb) k)) wc (nI k).toNatClampNeg = hL h wc k by rw [cl (by omega), wsH_o hbc]) ?_
        refine e_lor aX6_join_21 ?_
        refine e_lastoreF aX6_join_22 kS.2.2.1 kS.2.2.2 (vin (N := 21) (by omega)) ?_
        rw [cl (by omega)]
        refine e_iinc aX6_join_23 rfl rfl (Nat.le_of_ble_eq_true rfl) ?_
        refine e_goto aX6_join_26 ?_
        refine e_ls (ls' := [(0, some (vR (some sb))), (1, some (vR (some sc))), (2, some (vI (nI (k + 1))))]) ⟨rfl, rfl, congrArg (fun x => some (vI x)) (nI_1 k), trivial⟩ ?_
        refine e_hp (h2 := (wsH h wb (wkL (fun i => hL h wb i ||| hL h wc i) (hL h wb) (k + 1)))) (by rw [wsH_w]; exact congrArg (wsH h wb) wkL_s) ?_
        exact ih (k + 1) (by omega)
  refine e_iconst (v := 0) aX6_join_0 (by decide) ?_
  refine e_istore_n aX6_join_1 (Nat.le_of_ble_eq_true rfl) ?_
  refine e_ls (ls' := [(0, some (vR (some sb))), (1, some (vR (some sc))), (2, some (vI (nI 0)))]) ⟨rfl, rfl, rfl, trivial⟩ ?_
  refine e_hp (h2 := (wsH h wb (wkL (fun i => hL h wb i ||| hL h wc i) (hL h wb) 0))) (wsH_0.trans (congrArg (wsH h wb) wkL_0)) ?_
  exact loop 21 0 rfl
theorem zX6_meet (X : EX) {h : HP} {sb wb sc wc : Nat} (kS : StS h sb wb) (kT : StS h sc wc) (hbc : wc ≠ wb) : Ct X mX6_meet 0 0 0 [vR (some sb), vR (some sc)] h (bcm h wb (fun s => bts (hL h wb) s && bts (hL h wc) s)) := by
  refine ct_of rfl (Nat.le_of_ble_eq_true rfl) ?_
  have loop : ∀ (m : Nat) (k : Nat), k + m = 21 → Ev X mX6_meet 0 0 0 (bcm h wb (fun s => bts (hL h wb) s && bts (hL h wc) s)) 0 0 2 [(0, some (vR (some sb))), (1, some (vR (some sc))), (2, some (vI (nI k)))] [] (wsH h wb (wkL (fun i => hL h wb i &&& hL h wc i) (hL h wb) k)) := by
    intro m
    induction m with
    | zero =>
      intro k hk
      obtain rfl : k = 21 := by omega
      refine e_iload_n aX6_meet_2 rfl ?_
      refine e_bipush (v := 21) aX6_meet_3 (by decide) ?_
      refine e_icmp_ge aX6_meet_5 (fun c5 => ?_) (fun c5 => ?_)
      · -- 5: taken
        refine e_return aX6_meet_29 rfl (Nat.le_refl _) (Nat.le_refl _) ?_
        exact ⟨rfl, _, rfl, fun u hu => by rw [wkL_e hu]; exact bitL_an⟩
      · -- 5: not taken
        exact absurd (nI_le (a := 21) (b := 21) (by decide) (by decide)) c5
    | succ m ih =>
      intro k hk
      refine e_iload_n aX6_meet_2 rfl ?_
      refine e_bipush (v := 21) aX6_meet_3 (by decide) ?_
      refine e_icmp_ge aX6_meet_5 (fun c5 => ?_) (fun c5 => ?_)
      · -- 5: taken
        exact absurd c5 (nI_ge (a := k) (b := 21) (by omega) (by decide))
      · -- 5: not taken
        refine e_aload_n aX6_meet_8 rfl ?_
        refine e_getRF aX6_meet_9 fX6_11 rfl kS.1 kS.2.1 ?_
        refine e_iload_n aX6_meet_12 rfl ?_
        refine e_dup2 aX6_meet_13 rfl rfl ?_
        refine e_laloadF aX6_meet_14 kS.2.2.1 kS.2.2.2 (vin (N := 21) (by omega)) (show hL (wsH h wb (wkL (fun i => hL h wb i &&& hL h wc i) (hL h wb) k)) wb (nI k).toNatClampNeg = hL h wb k by rw [cl (by omega), wsH_L, wkL_k]) ?_
        refine e_aload_n aX6_meet_15 rfl ?_
        refine e_getRF aX6_meet_16 fX6_11 rfl kT.1 kT.2.1 ?_
        refine e_iload_n aX6_meet_19 rfl ?_
        refine e_laloadF aX6_meet_20 kT.2.2.1 kT.2.2.2 (vin (N := 21) (by omega)) (show hL (wsH h wb (wkL (fun i => hL h wb i &&& hL h wc i) (hL h wb) k)) wc (nI k).toNatClampNeg = hL h wc k by rw [cl (by omega), wsH_o hbc]) ?_
        refine e_land aX6_meet_21 ?_
        refine e_lastoreF aX6_meet_22 kS.2.2.1 kS.2.2.2 (vin (N := 21) (by omega)) ?_
        rw [cl (by omega)]
        refine e_iinc aX6_meet_23 rfl rfl (Nat.le_of_ble_eq_true rfl) ?_
        refine e_goto aX6_meet_26 ?_
        refine e_ls (ls' := [(0, some (vR (some sb))), (1, some (vR (some sc))), (2, some (vI (nI (k + 1))))]) ⟨rfl, rfl, congrArg (fun x => some (vI x)) (nI_1 k), trivial⟩ ?_
        refine e_hp (h2 := (wsH h wb (wkL (fun i => hL h wb i &&& hL h wc i) (hL h wb) (k + 1)))) (by rw [wsH_w]; exact congrArg (wsH h wb) wkL_s) ?_
        exact ih (k + 1) (by omega)
  refine e_iconst (v := 0) aX6_meet_0 (by decide) ?_
  refine e_istore_n aX6_meet_1 (Nat.le_of_ble_eq_true rfl) ?_
  refine e_ls (ls' := [(0, some (vR (some sb))), (1, some (vR (some sc))), (2, some (vI (nI 0)))]) ⟨rfl, rfl, rfl, trivial⟩ ?_
  refine e_hp (h2 := (wsH h wb (wkL (fun i => hL h wb i &&& hL h wc i) (hL h wb) 0))) (wsH_0.trans (congrArg (wsH h wb) wkL_0)) ?_
  exact loop 21 0 rfl
