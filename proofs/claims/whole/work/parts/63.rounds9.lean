/-! the reference: rounds (written by wip/whole/g63.py) -/
/-- a number is one of n deals' -/
def rgB (n : Nat) (v : Int64) : Bool := decide (¬ lg_cmp v 0 < 0 ∧ lg_cmp v (nI n).toInt64 < 0)
theorem rgB_in {n : Nat} (hn : n ≤ 12) {v : Int64} : (0 ≤ v ∧ v ≤ (nI n - 1).toInt64) ↔ rgB n v = true := by
  have e1 : (nI n - 1).toInt = (n : Int) - 1 := by
    by_cases z : n = 0
    · subst z; rfl
    · rw [nI_pred9 (by omega), nI_toInt (by omega)]; omega
  have e0 : (0 : Int64).toInt = 0 := rfl
  have h : (0 ≤ v ∧ v ≤ (nI n - 1).toInt64) ↔ (¬ lg_cmp v 0 < 0 ∧ lg_cmp v (nI n).toInt64 < 0) := by
    rw [lgc_lt, lgc_lt, Int64.le_iff_toInt_le, Int64.le_iff_toInt_le, Int64.lt_iff_toInt_lt, Int64.lt_iff_toInt_lt, Int32.toInt_toInt64, Int32.toInt_toInt64, e1, e0, nI_toInt (by omega)]
    omega
  rw [h]
  exact ⟨fun z => decide_eq_true z, fun z => of_decide_eq_true z⟩
theorem rgB_k {n : Nat} (hn : n ≤ 12) {v : Int64} (z : rgB n v = true) : v.toInt32.toNatClampNeg < n ∧ v.toInt32 = nI v.toInt32.toNatClampNeg ∧ v = lN v.toInt32.toNatClampNeg := by
  have w := of_decide_eq_true z
  obtain ⟨k, hk, hv⟩ := lgx hn w.1 w.2
  have e2 : v.toInt32.toNatClampNeg = k := by rw [hv, lN_i, cl (by omega)]
  rw [e2]
  exact ⟨hk, by rw [hv, lN_i], hv⟩
theorem shl12 : ∀ k, k < 13 → (1 : Int32) <<< (nI k &&& 31) = nI (2 ^ k) := by decide +kernel
/-- the numbers are those of all deals -/
def arR (g : Nat → Int64) (n : Nat) : Nat → Nat → Nat → Bool
  | _, 0, s => decide (s = 2 ^ n - 1)
  | i, m + 1, s => if rgB n (g i) = true then arR g n (i + 1) m (s ||| 2 ^ (g i).toInt32.toNatClampNeg) else false
theorem arR_s {g : Nat → Int64} {n i m s : Nat} : arR g n i (m + 1) s = if rgB n (g i) = true then arR g n (i + 1) m (s ||| 2 ^ (g i).toInt32.toNatClampNeg) else false := rfl
theorem zX9_areAll (X : EX) {h : HP} (F : Fx h) {n : Nat} {D : Nat → DD} (md : MkD h n D) {xz q : Nat} (hx4 : xz < 4) (hq : hI h 123 xz = nI q) (hq40 : q ≤ 40) : Ct X mX9_areAll 1 0 0 [vR (some 109), vI (nI xz)] h (Rt (vI (b2 (arR (fun i => hL h 124 (40 * xz + i)) n 0 q 0 = true))) h) := by
  refine ct_of rfl (Nat.le_of_ble_eq_true rfl) ?_
  have hn12 := md.2.1
  have loop : ∀ (m : Nat) (k s : Nat), k + m = q → s < 4096 → arR (fun i => hL h 124 (40 * xz + i)) n k m s = arR (fun i => hL h 124 (40 * xz + i)) n 0 q 0 → Ev X mX9_areAll 1 0 0 (Rt (vI (b2 (arR (fun i => hL h 124 (40 * xz + i)) n 0 q 0 = true))) h) 0 0 4 [(0, some (vR (some 109))), (1, some (vI (nI xz))), (2, some (vI (nI s))), (3, some (vI (nI k)))] [] h := by
    intro m
    induction m with
    | zero =>
      intro k s hk hs hR
      obtain rfl : k = q := by omega
      refine e_iload_n aX9_areAll_4 rfl ?_
      refine e_aload_n aX9_areAll_5 rfl ?_
      refine e_getRF aX9_areAll_6 fX9_55 rfl (fx_is F rfl) (fx_r (b := 123) F rfl) ?_
      refine e_iload_n aX9_areAll_9 rfl ?_
      refine e_ialoadF aX9_areAll_10 (fx_is F rfl) (fx_n (n := 4) F rfl) (vin (N := 4) hx4) (show hI h 123 (nI xz).toNatClampNeg = nI k by rw [cl (by omega)]; exact hq) ?_
      refine e_icmp_ge aX9_areAll_11 (fun c11 => ?_) (fun c11 => ?_)
      · -- 11: taken
        refine e_iload_n aX9_areAll_59 rfl ?_
        refine e_iconst (v := 1) aX9_areAll_60 (by decide) ?_
        refine e_aload_n aX9_areAll_61 rfl ?_
        refine e_getIF aX9_areAll_62 fX9_89 rfl (fx_is F rfl) md.1 ?_
        refine e_ishl aX9_areAll_65 ?_
        refine e_top (shl12 n (by omega)) ?_
        refine e_iconst (v := 1) aX9_areAll_66 (by decide) ?_
        refine e_isub aX9_areAll_67 ?_
        refine e_top (nI_pred9 (Nat.one_le_two_pow)) ?_
        refine e_icmp_ne aX9_areAll_68 (fun c68 => ?_) (fun c68 => ?_)
        · -- 68: taken
          have q68 : ¬ s = 2 ^ n - 1 := fun z => c68 (by rw [z])
          refine e_iconst (v := 0) aX9_areAll_75 (by decide) ?_
          refine e_zreturn aX9_areAll_76 rfl (by decide) (Nat.le_refl _) (Nat.le_refl _) ?_
          exact ⟨by rw [← hR]; show _ = some (vI (b2 (decide (s = 2 ^ n - 1) = true))); rw [b2_f (fun z => q68 (of_decide_eq_true z))], rfl⟩
        · -- 68: not taken
          have q68 : s = 2 ^ n - 1 := (nI_eq (by omega) (by have := Nat.pow_le_pow_right (n := 2) (by decide) hn12; omega)).mp c68
          refine e_iconst (v := 1) aX9_areAll_71 (by decide) ?_
          refine e_goto aX9_areAll_72 ?_
          refine e_zreturn aX9_areAll_76 rfl (by decide) (Nat.le_refl _) (Nat.le_refl _) ?_
          exact ⟨by rw [← hR]; show _ = some (vI (b2 (decide (s = 2 ^ n - 1) = true))); rw [b2_t (decide_eq_true q68)], rfl⟩
      · -- 11: not taken
        exact absurd (nI_le (by omega) (by omega)) c11
    | succ m ih =>
      intro k s hk hs hR
      refine e_iload_n aX9_areAll_4 rfl ?_
      refine e_aload_n aX9_areAll_5 rfl ?_
      refine e_getRF aX9_areAll_6 fX9_55 rfl (fx_is F rfl) (fx_r (b := 123) F rfl) ?_
      refine e_iload_n aX9_areAll_9 rfl ?_
      refine e_ialoadF aX9_areAll_10 (fx_is F rfl) (fx_n (n := 4) F rfl) (vin (N := 4) hx4) (show hI h 123 (nI xz).toNatClampNeg = nI q by rw [cl (by omega)]; exact hq) ?_
      refine e_icmp_ge aX9_areAll_11 (fun c11 => ?_) (fun c11 => ?_)
      · -- 11: taken
        exact absurd c11 (nI_ge (by omega) (by omega))
      · -- 11: not taken
        refine e_aload_n aX9_areAll_14 rfl ?_
        refine e_getRF aX9_areAll_15 fX9_58 rfl (fx_is F rfl) (fx_r (b := 124) F rfl) ?_
        refine e_bipush (v := 40) aX9_areAll_18 (by decide) ?_
        refine e_iload_n aX9_areAll_20 rfl ?_
        refine e_imul aX9_areAll_21 ?_
        refine e_top (nI_mul 40 xz) ?_
        refine e_iload_n aX9_areAll_22 rfl ?_
        refine e_iadd aX9_areAll_23 ?_
        refine e_top (nI_add _ _) ?_
        refine e_laloadF aX9_areAll_24 (fx_is F rfl) (fx_n (n := 160) F rfl) (vin (N := 160) (by omega)) (show hL h 124 (nI (40 * xz + k)).toNatClampNeg = hL h 124 (40 * xz + k) by rw [cl (by omega)]) ?_
        refine e_lstore aX9_areAll_25 (Nat.le_of_ble_eq_true rfl) ?_
        refine e_lload aX9_areAll_27 rfl ?_
        refine e_lconst (v := 0) aX9_areAll_29 rfl ?_
        refine e_aload_n aX9_areAll_30 rfl ?_
        refine e_getIF aX9_areAll_31 fX9_89 rfl (fx_is F rfl) md.1 ?_
        refine e_iconst (v := 1) aX9_areAll_34 (by decide) ?_
        refine e_isub aX9_areAll_35 ?_
        refine e_i2l aX9_areAll_36 ?_
        refine e_invsT aX9_areAll_37 kX9_108 (zX9_in X _ _ _) rfl rfl (Nat.le_of_ble_eq_true rfl) (Nat.le_of_ble_eq_true rfl) (Nat.le_refl _) (Nat.le_refl _) (Nat.le_of_ble_eq_true rfl) ?_
        refine e_if_ne aX9_areAll_40 (fun c40 => ?_) (fun c40 => ?_)
        · -- 40: taken
          have q40 := Decidable.of_not_not (fun z => c40 (b2_0.mpr z))
          have q9 : rgB n ((fun i => hL h 124 (40 * xz + i)) k) = true := (rgB_in hn12).mp q40
          have r9 : (hL h 124 (40 * xz + k)).toInt32.toNatClampNeg < n ∧ (hL h 124 (40 * xz + k)).toInt32 = nI (hL h 124 (40 * xz + k)).toInt32.toNatClampNeg ∧ _ := rgB_k hn12 q9
          refine e_iload_n aX9_areAll_45 rfl ?_
          refine e_iconst (v := 1) aX9_areAll_46 (by decide) ?_
          refine e_lload aX9_areAll_47 rfl ?_
          refine e_l2i aX9_areAll_49 ?_
          rw [show (hL h 124 (40 * xz + k)).toInt32 = nI (hL h 124 (40 * xz + k)).toInt32.toNatClampNeg from r9.2.1]
          refine e_ishl aX9_areAll_50 ?_
          refine e_top (shl12 _ (by have := r9.1; omega)) ?_
          refine e_ior aX9_areAll_51 ?_
          refine e_top (or_8) ?_
          refine e_istore_n aX9_areAll_52 (Nat.le_of_ble_eq_true rfl) ?_
          refine e_iinc aX9_areAll_53 rfl rfl (Nat.le_of_ble_eq_true rfl) ?_
          refine e_goto aX9_areAll_56 ?_
          refine e_ls (ls' := [(0, some (vR (some 109))), (1, some (vI (nI xz))), (2, some (vI (nI (s ||| 2 ^ ((fun i => hL h 124 (40 * xz + i)) k).toInt32.toNatClampNeg)))), (3, some (vI (nI (k + 1))))]) ⟨rfl, rfl, rfl, congrArg (fun x => some (vI x)) (nI_1 k), trivial⟩ ?_
          exact ih (k + 1) _ (by omega) (Nat.or_lt_two_pow (n := 12) hs (Nat.pow_lt_pow_right (by decide) (show (hL h 124 (40 * xz + k)).toInt32.toNatClampNeg < 12 by have := r9.1; omega))) (by rw [← hR, arR_s, if_pos q9])
        · -- 40: not taken
          have q40 := b2_0.mp c40
          refine e_iconst (v := 0) aX9_areAll_43 (by decide) ?_
          refine e_zreturn aX9_areAll_44 rfl (Or.inl rfl) (Nat.le_refl _) (Nat.le_refl _) ?_
          have q9 : ¬ rgB n ((fun i => hL h 124 (40 * xz + i)) k) = true := fun z => q40 ((rgB_in hn12).mpr z)
          exact ⟨by rw [← hR, arR_s, if_neg q9]; rfl, rfl⟩
  refine e_iconst (v := 0) aX9_areAll_0 (by decide) ?_
  refine e_istore_n aX9_areAll_1 (Nat.le_of_ble_eq_true rfl) ?_
  refine e_iconst (v := 0) aX9_areAll_2 (by decide) ?_
  refine e_istore_n aX9_areAll_3 (Nat.le_of_ble_eq_true rfl) ?_
  refine e_ls (ls' := [(0, some (vR (some 109))), (1, some (vI (nI xz))), (2, some (vI (nI 0))), (3, some (vI (nI 0)))]) ⟨rfl, rfl, rfl, rfl, trivial⟩ ?_
  exact loop q 0 0 (by omega) (by decide) rfl
/-- who has the PICKS, what has gone by which deal -/
abbrev RT : Type := (Nat → Nat) × (Nat → Bool)
def scG (a _i : Nat) : Prop := a = 126 ∨ a = 127
def RtC (h : HP) (u : RT) : Prop := (∀ p, p < 12 → hI h 126 p = nI (u.1 p) ∧ u.1 p < 3) ∧ ∀ j, j < 24 → hI h 127 j = if u.2 j = true then 1 else 0
def updB (G : Nat → Bool) (j : Nat) : Nat → Bool := fun i => if i = j then true else G i
def dFw (d : DD) (w : Nat) : Nat := if w = 0 then dF d else dT d
def dTw (d : DD) (w : Nat) : Nat := if w = 0 then dT d else dF d
def gyM (D : Nat → DD) (s k w : Nat) (u : RT) : Option RT := match cvW (D k) s w with
  | none => none
  | some p => if u.2 (2 * k + w) = true then none else if u.1 p = dFw (D k) w then some (updN u.1 p (dTw (D k) w), updB u.2 (2 * k + w)) else none
theorem RtC.up {h : HP} {u : RT} (q : RtC h u) {p j t : Nat} (ht : t < 3) : RtC (wI (wI h 127 j 1) 126 p (nI t)) (updN u.1 p t, updB u.2 j) := by
  refine ⟨fun x hx => ?_, fun x hx => ?_⟩
  · show hI (wI (wI h 127 j 1) 126 p (nI t)) 126 x = nI (if x = p then t else u.1 x) ∧ (if x = p then t else u.1 x) < 3
    by_cases e : x = p
    · subst e
      rw [if_pos rfl]
      exact ⟨wI_s, ht⟩
    · rw [if_neg e]
      exact ⟨(wI_i e).trans ((wI_a (by decide)).trans (q.1 x hx).1), (q.1 x hx).2⟩
  · show hI (wI (wI h 127 j 1) 126 p (nI t)) 127 x = if (if x = j then true else u.2 x) = true then 1 else 0
    refine (wI_a (by decide)).trans ?_
    by_cases e : x = j
    · subst e
      rw [if_pos rfl]
      exact wI_s
    · rw [if_neg e]
      exact (wI_i e).trans (q.2 x hx)
theorem cvW_lt {d : DD} (w : dWf d) {s i p : Nat} (q : cvW d s i = some p) : p < 12 := by
  unfold cvW at q
  split at q
  · exact (gv_ok w q).1
  · exact (gb_ok w q).1
theorem zX9_goesBy (X : EX) {h0 : HP} (F0 : Fx h0) {n : Nat} {D : Nat → DD} (md : MkD h0 n D) {s k w : Nat} (LZ : LsC h0 n D s) (hk : k < n) (hw : w < 2) {u : RT} (R : RtC h0 u) : Ct X mX9_goesBy 1 0 0 [vR (some 109), vI (nI k), vI (nI w)] h0 (fun v h' => v = some (vI (b2 ((gyM D s k w u).isSome = true))) ∧ Sf scG h0 h' ∧ RtC h' ((gyM D s k w u).getD u)) := by
  refine ct_of rfl (Nat.le_of_ble_eq_true rfl) ?_
  have F := F0
  have hn12 := md.2.1
  obtain ⟨wf, e0, e1, e2, e3, e4, e5, e6, eb⟩ := md.2.2 k hk
  have hF3 := wf.2.1
  have hT3 := wf.2.2.1
  have hcb := cvW_b wf (s := s) (i := w)
  have hitF : hI h0 112 (8 * k + (1 + w)) = nI (dFw (D k) w) := by
    rcases (show w = 0 ∨ w = 1 by omega) with rfl | rfl
    · exact e1
    · exact e2
  have hitT : hI h0 112 (8 * k + (2 - w)) = nI (dTw (D k) w) := by
    rcases (show w = 0 ∨ w = 1 by omega) with rfl | rfl
    · exact e2
    · exact e1
  have hFw3 : dFw (D k) w < 3 := by unfold dFw; split <;> omega
  have hTw3 : dTw (D k) w < 3 := by unfold dTw; split <;> omega
  have hu3 : ∀ p, p < 12 → u.1 p < 3 := fun p hp => (R.1 p hp).2
  refine e_aload_n aX9_goesBy_0 rfl ?_
  refine e_getRF aX9_goesBy_1 fX9_29 rfl (fx_is F rfl) (fx_r (b := 115) F rfl) ?_
  refine e_iconst (v := 2) aX9_goesBy_4 (by decide) ?_
  refine e_iload_n aX9_goesBy_5 rfl ?_
  refine e_imul aX9_goesBy_6 ?_
  refine e_top (nI_mul 2 k) ?_
  refine e_iload_n aX9_goesBy_7 rfl ?_
  refine e_iadd aX9_goesBy_8 ?_
  refine e_top (nI_add (2 * k) w) ?_
  refine e_ialoadF aX9_goesBy_9 (fx_is F rfl) (fx_n (n := 24) F rfl) (vin (N := 24) (by omega)) (show hI h0 115 (nI (2 * k + w)).toNatClampNeg = oI (cvW (D k) s w) by rw [cl (by omega)]; exact LZ k hk w hw) ?_
  refine e_istore_n aX9_goesBy_10 (Nat.le_of_ble_eq_true rfl) ?_
  refine e_iload_n aX9_goesBy_11 rfl ?_
  refine e_iconst (v := -1) aX9_goesBy_12 (by decide) ?_
  refine e_icmp_eq aX9_goesBy_13 (fun c13 => ?_) (fun c13 => ?_)
  · -- 13: taken
    have q13 : cvW (D k) s w = none := (oI_m1 hcb).mp c13
    refine e_iconst (v := 0) aX9_goesBy_47 (by decide) ?_
    refine e_zreturn aX9_goesBy_48 rfl (Or.inl rfl) (Nat.le_refl _) (Nat.le_refl _) ?_
    have e9 : gyM D s k w u = none := by
      unfold gyM
      rw [q13]
    rw [e9]
    exact ⟨rfl, Sf.rf h0, R⟩
  · -- 13: not taken
    have q13 := (not_congr (oI_m1 hcb)).mp c13
    obtain ⟨p, q14⟩ := Option.ne_none_iff_exists'.mp q13
    have hp12 : p < 12 := cvW_lt wf q14
    rw [q14]
    refine e_ls (ls' := [(0, some (vR (some 109))), (1, some (vI (nI k))), (2, some (vI (nI w))), (3, some (vI (nI p)))]) ⟨rfl, rfl, rfl, rfl, trivial⟩ ?_
    refine e_aload_n aX9_goesBy_16 rfl ?_
    refine e_getRF aX9_goesBy_17 fX9_68 rfl (fx_is F rfl) (fx_r (b := 127) F rfl) ?_
    refine e_iconst (v := 2) aX9_goesBy_20 (by decide) ?_
    refine e_iload_n aX9_goesBy_21 rfl ?_
    refine e_imul aX9_goesBy_22 ?_
    refine e_top (nI_mul 2 k) ?_
    refine e_iload_n aX9_goesBy_23 rfl ?_
    refine e_iadd aX9_goesBy_24 ?_
    refine e_top (nI_add (2 * k) w) ?_
    refine e_ialoadF aX9_goesBy_25 (fx_is F rfl) (fx_n (n := 24) F rfl) (vin (N := 24) (by omega)) (show hI h0 127 (nI (2 * k + w)).toNatClampNeg = if u.2 (2 * k + w) = true then 1 else 0 by rw [cl (by omega)]; exact R.2 _ (by omega)) ?_
    refine e_iconst (v := 1) aX9_goesBy_26 (by decide) ?_
    refine e_icmp_eq aX9_goesBy_27 (fun c27 => ?_) (fun c27 => ?_)
    · -- 27: taken
      have q27 := bit1.mp c27
      refine e_iconst (v := 0) aX9_goesBy_47 (by decide) ?_
      refine e_zreturn aX9_goesBy_48 rfl (Or.inl rfl) (Nat.le_refl _) (Nat.le_refl _) ?_
      have e9 : gyM D s k w u = none := by
        unfold gyM
        rw [q14]
        exact if_pos q27
      rw [e9]
      exact ⟨rfl, Sf.rf h0, R⟩
    · -- 27: not taken
      have q27 := (not_congr bit1).mp c27
      refine e_aload_n aX9_goesBy_30 rfl ?_
      refine e_getRF aX9_goesBy_31 fX9_65 rfl (fx_is F rfl) (fx_r (b := 126) F rfl) ?_
      refine e_iload_n aX9_goesBy_34 rfl ?_
      refine e_ialoadF aX9_goesBy_35 (fx_is F rfl) (fx_n (n := 12) F rfl) (vin (N := 12) hp12) (show hI h0 126 (nI p).toNatClampNeg = nI (u.1 p) by rw [cl (by omega)]; exact (R.1 p hp12).1) ?_
      refine e_aload_n aX9_goesBy_36 rfl ?_
      refine e_iload_n aX9_goesBy_37 rfl ?_
      refine e_iconst (v := 1) aX9_goesBy_38 (by decide) ?_
      refine e_iload_n aX9_goesBy_39 rfl ?_
      refine e_iadd aX9_goesBy_40 ?_
      refine e_top (nI_add 1 w) ?_
      refine e_invvT aX9_goesBy_41 kX9_145 (zits X F (k := k) (j := 1 + w) (v := nI (dFw (D k) w)) (by omega) (by omega) hitF) rfl rfl (fx_is F rfl) (Nat.le_of_ble_eq_true rfl) (Nat.le_of_ble_eq_true rfl) (Nat.le_refl _) (Nat.le_refl _) (Nat.le_of_ble_eq_true rfl) ?_
      refine e_icmp_eq aX9_goesBy_44 (fun c44 => ?_) (fun c44 => ?_)
      · -- 44: taken
        have hup := hu3 p hp12
        have q44 : u.1 p = dFw (D k) w := (nI_eq (by omega) (by omega)).mp c44
        refine e_aload_n aX9_goesBy_49 rfl ?_
        refine e_getRF aX9_goesBy_50 fX9_68 rfl (fx_is F rfl) (fx_r (b := 127) F rfl) ?_
        refine e_iconst (v := 2) aX9_goesBy_53 (by decide) ?_
        refine e_iload_n aX9_goesBy_54 rfl ?_
        refine e_imul aX9_goesBy_55 ?_
        refine e_top (nI_mul 2 k) ?_
        refine e_iload_n aX9_goesBy_56 rfl ?_
        refine e_iadd aX9_goesBy_57 ?_
        refine e_top (nI_add (2 * k) w) ?_
        refine e_iconst (v := 1) aX9_goesBy_58 (by decide) ?_
        refine e_iastoreF aX9_goesBy_59 (fx_is F rfl) (fx_n (n := 24) F rfl) (vin (N := 24) (by omega)) ?_
        rw [cl (n := 2 * k + w) (by omega)]
        refine e_aload_n aX9_goesBy_60 rfl ?_
        refine e_getRF aX9_goesBy_61 fX9_65 rfl (fx_is F rfl) (fx_r (b := 126) F rfl) ?_
        refine e_iload_n aX9_goesBy_64 rfl ?_
        refine e_aload_n aX9_goesBy_65 rfl ?_
        refine e_iload_n aX9_goesBy_66 rfl ?_
        refine e_iconst (v := 2) aX9_goesBy_67 (by decide) ?_
        refine e_iload_n aX9_goesBy_68 rfl ?_
        refine e_isub aX9_goesBy_69 ?_
        refine e_top (nI_subN (a := 2) (b := w) (by omega)) ?_
        refine e_invvT aX9_goesBy_70 kX9_145 (zits X (h := wI h0 127 (2 * k + w) 1) F (k := k) (j := 2 - w) (v := nI (dTw (D k) w)) (by omega) (by omega) ((wI_a (by decide)).trans hitT)) rfl rfl (fx_is F rfl) (Nat.le_of_ble_eq_true rfl) (Nat.le_of_ble_eq_true rfl) (Nat.le_refl _) (Nat.le_refl _) (Nat.le_of_ble_eq_true rfl) ?_
        refine e_iastoreF aX9_goesBy_73 (fx_is F rfl) (fx_n (n := 12) F rfl) (vin (N := 12) hp12) ?_
        rw [cl (n := p) (by omega)]
        refine e_iconst (v := 1) aX9_goesBy_74 (by decide) ?_
        refine e_zreturn aX9_goesBy_75 rfl (Or.inr rfl) (Nat.le_refl _) (Nat.le_refl _) ?_
        have e9 : gyM D s k w u = some (updN u.1 p (dTw (D k) w), updB u.2 (2 * k + w)) := by
          unfold gyM
          rw [q14]
          exact (if_neg q27).trans (if_pos q44)
        rw [e9]
        exact ⟨rfl, ((Sf.rf h0).wI (Or.inr rfl)).wI (Or.inl rfl), R.up hTw3⟩
      · -- 44: not taken
        have q44 : ¬ u.1 p = dFw (D k) w := fun z => c44 (by rw [z])
        refine e_iconst (v := 0) aX9_goesBy_47 (by decide) ?_
        refine e_zreturn aX9_goesBy_48 rfl (Or.inl rfl) (Nat.le_refl _) (Nat.le_refl _) ?_
        have e9 : gyM D s k w u = none := by
          unfold gyM
          rw [q14]
          exact (if_neg q27).trans (if_neg q44)
        rw [e9]
        exact ⟨rfl, Sf.rf h0, R⟩
def goM (D : Nat → DD) (s : Nat) (σ : Nat → Nat) : Nat → RT → RT × Bool
  | 0, u => (u, false)
  | i + 1, u => ((gyM D s (σ i) 1 ((gyM D s (σ i) 0 (goM D s σ i u).1).getD (goM D s σ i u).1)).getD ((gyM D s (σ i) 0 (goM D s σ i u).1).getD (goM D s σ i u).1), (goM D s σ i u).2 || (gyM D s (σ i) 0 (goM D s σ i u).1).isSome || (gyM D s (σ i) 1 ((gyM D s (σ i) 0 (goM D s σ i u).1).getD (goM D s σ i u).1)).isSome)
theorem Sf.mfG {h h2 : HP} {n : Nat} {D : Nat → DD} (s : Sf scG h h2) (k : MkD h n D) : MkD h2 n D := k.sf s (by unfold scG; omega) (fun i => by unfold scG; omega)
theorem Sf.lsG {h h2 : HP} {n s : Nat} {D : Nat → DD} (z : Sf scG h h2) (k : LsC h n D s) : LsC h2 n D s := k.sf z (fun i => by unfold scG; omega)
theorem zX9_goesOver (X : EX) {h0 : HP} (F0 : Fx h0) {n : Nat} {D : Nat → DD} (md0 : MkD h0 n D) {s xz : Nat} (LZ0 : LsC h0 n D s) (hx4 : xz < 4) {σ : Nat → Nat} (hσ : ∀ i, i < n → σ i < n ∧ hL h0 124 (40 * xz + i) = lN (σ i)) {u : RT} (R0 : RtC h0 u) : Ct X mX9_goesOver 2 0 0 [vR (some 109), vI (nI xz)] h0 (fun v h' => v = some (vI (b2 ((goM D s σ n u).2 = true))) ∧ Sf scG h0 h' ∧ RtC h' (goM D s σ n u).1) := by
  refine ct_of rfl (Nat.le_of_ble_eq_true rfl) ?_
  have hn12 := md0.2.1
  have loop : ∀ (m : Nat) (k : Nat) (hz : HP), k + m = n → Sf scG h0 hz → RtC hz (goM D s σ k u).1 → Ev X mX9_goesOver 2 0 0 (fun v h' => v = some (vI (b2 ((goM D s σ n u).2 = true))) ∧ Sf scG h0 h' ∧ RtC h' (goM D s σ n u).1) 0 0 4 [(0, some (vR (some 109))), (1, some (vI (nI xz))), (2, some (vI (b2 ((goM D s σ k u).2 = true)))), (3, some (vI (nI k)))] [] hz := by
    intro m
    induction m with
    | zero =>
      intro k hz hk S R
      obtain rfl : k = n := by omega
      have F := S.F F0
      have md := S.mfG md0
      refine e_iload_n aX9_goesOver_4 rfl ?_
      refine e_aload_n aX9_goesOver_5 rfl ?_
      refine e_getIF aX9_goesOver_6 fX9_89 rfl (fx_is F rfl) md.1 ?_
      refine e_icmp_ge aX9_goesOver_9 (fun c9 => ?_) (fun c9 => ?_)
      · -- 9: taken
        refine e_iload_n aX9_goesOver_70 rfl ?_
        refine e_zreturn aX9_goesOver_71 rfl b2_b (Nat.le_refl _) (Nat.le_refl _) ?_
        exact ⟨rfl, S, R⟩
      · -- 9: not taken
        exact absurd (nI_le (by omega) (by omega)) c9
    | succ m ih =>
      intro k hz hk S R
      have F := S.F F0
      have md := S.mfG md0
      have LZ := S.lsG LZ0
      have hk9 := (hσ k (by omega)).1
      refine e_iload_n aX9_goesOver_4 rfl ?_
      refine e_aload_n aX9_goesOver_5 rfl ?_
      refine e_getIF aX9_goesOver_6 fX9_89 rfl (fx_is F rfl) md.1 ?_
      refine e_icmp_ge aX9_goesOver_9 (fun c9 => ?_) (fun c9 => ?_)
      · -- 9: taken
        exact absurd c9 (nI_ge (by omega) (by omega))
      · -- 9: not taken
        refine e_aload_n aX9_goesOver_12 rfl ?_
        refine e_getRF aX9_goesOver_13 fX9_58 rfl (fx_is F rfl) (fx_r (b := 124) F rfl) ?_
        refine e_bipush (v := 40) aX9_goesOver_16 (by decide) ?_
        refine e_iload_n aX9_goesOver_18 rfl ?_
        refine e_imul aX9_goesOver_19 ?_
        refine e_top (nI_mul 40 xz) ?_
        refine e_iload_n aX9_goesOver_20 rfl ?_
        refine e_iadd aX9_goesOver_21 ?_
        refine e_top (nI_add _ _) ?_
        refine e_laloadF aX9_goesOver_22 (fx_is F rfl) (fx_n (n := 160) F rfl) (vin (N := 160) (by omega)) (show hL hz 124 (nI (40 * xz + k)).toNatClampNeg = lN (σ k) by rw [cl (by omega)]; exact (congrFun (congrFun (congrArg (fun z => z.1) S.1) 124) _).trans (hσ k (by omega)).2) ?_
        refine e_l2i aX9_goesOver_23 ?_
        refine e_top (lN_i (n := σ k)) ?_
        refine e_istore aX9_goesOver_24 (Nat.le_of_ble_eq_true rfl) ?_
        refine e_aload_n aX9_goesOver_26 rfl ?_
        refine e_iload aX9_goesOver_27 rfl ?_
        refine e_iconst (v := 0) aX9_goesOver_29 (by decide) ?_
        refine e_invv aX9_goesOver_30 kX9_350 (zX9_goesBy X F md LZ hk9 (w := 0) (by decide) R) rfl rfl (fx_is F rfl) (Nat.le_of_ble_eq_true rfl) (Nat.le_of_ble_eq_true rfl) (Nat.le_refl _) (Nat.le_refl _) (Nat.le_of_ble_eq_true rfl) ?_
        rintro v h2 ⟨rfl, S1, R1⟩
        have F := S1.F F
        have S2 := S.tr S1
        have md := S1.mfG md
        have LZ := S1.lsG LZ
        refine e_istore aX9_goesOver_33 (Nat.le_of_ble_eq_true rfl) ?_
        refine e_aload_n aX9_goesOver_35 rfl ?_
        refine e_iload aX9_goesOver_36 rfl ?_
        refine e_iconst (v := 1) aX9_goesOver_38 (by decide) ?_
        refine e_invv aX9_goesOver_39 kX9_350 (zX9_goesBy X F md LZ hk9 (w := 1) (by decide) R1) rfl rfl (fx_is F rfl) (Nat.le_of_ble_eq_true rfl) (Nat.le_of_ble_eq_true rfl) (Nat.le_refl _) (Nat.le_refl _) (Nat.le_of_ble_eq_true rfl) ?_
        rintro v h3 ⟨rfl, S4, R3⟩
        have S3 := S2.tr S4
        refine e_istore aX9_goesOver_42 (Nat.le_of_ble_eq_true rfl) ?_
        refine e_iload_n aX9_goesOver_44 rfl ?_
        refine e_if_ne aX9_goesOver_45 (fun c45 => ?_) (fun c45 => ?_)
        · -- 45: taken
          have q45 : (goM D s σ k u).2 = true := Decidable.of_not_not (fun z => c45 (b2_0.mpr z))
          refine e_iconst (v := 1) aX9_goesOver_58 (by decide) ?_
          refine e_goto aX9_goesOver_59 ?_
          refine e_istore_n aX9_goesOver_63 (Nat.le_of_ble_eq_true rfl) ?_
          refine e_iinc aX9_goesOver_64 rfl rfl (Nat.le_of_ble_eq_true rfl) ?_
          refine e_goto aX9_goesOver_67 ?_
          refine e_ls (ls' := [(0, some (vR (some 109))), (1, some (vI (nI xz))), (2, some (vI (b2 ((goM D s σ (k + 1) u).2 = true)))), (3, some (vI (nI (k + 1))))]) ⟨rfl, rfl, congrArg (fun x => some (vI x)) ((b2_t (by show (_ || _ || _) = true; rw [q45]; rfl)).symm), congrArg (fun x => some (vI x)) (nI_1 k), trivial⟩ ?_
          exact ih (k + 1) h3 (by omega) S3 R3
        · -- 45: not taken
          have q45 : ¬ (goM D s σ k u).2 = true := b2_0.mp c45
          refine e_iload aX9_goesOver_48 rfl ?_
          refine e_if_ne aX9_goesOver_50 (fun c50 => ?_) (fun c50 => ?_)
          · -- 50: taken
            have q50 : (gyM D s (σ k) 0 (goM D s σ k u).1).isSome = true := Decidable.of_not_not (fun z => c50 (b2_0.mpr z))
            refine e_iconst (v := 1) aX9_goesOver_58 (by decide) ?_
            refine e_goto aX9_goesOver_59 ?_
            refine e_istore_n aX9_goesOver_63 (Nat.le_of_ble_eq_true rfl) ?_
            refine e_iinc aX9_goesOver_64 rfl rfl (Nat.le_of_ble_eq_true rfl) ?_
            refine e_goto aX9_goesOver_67 ?_
            refine e_ls (ls' := [(0, some (vR (some 109))), (1, some (vI (nI xz))), (2, some (vI (b2 ((goM D s σ (k + 1) u).2 = true)))), (3, some (vI (nI (k + 1))))]) ⟨rfl, rfl, congrArg (fun x => some (vI x)) ((b2_t (by show (_ || _ || _) = true; rw [q50, Bool.or_true]; rfl)).symm), congrArg (fun x => some (vI x)) (nI_1 k), trivial⟩ ?_
            exact ih (k + 1) h3 (by omega) S3 R3
          · -- 50: not taken
            have q50 : ¬ (gyM D s (σ k) 0 (goM D s σ k u).1).isSome = true := b2_0.mp c50
            refine e_iload aX9_goesOver_53 rfl ?_
            refine e_if_eq aX9_goesOver_55 (fun c55 => ?_) (fun c55 => ?_)
            · -- 55: taken
              have q55 : ¬ (gyM D s (σ k) 1 ((gyM D s (σ k) 0 (goM D s σ k u).1).getD (goM D s σ k u).1)).isSome = true := b2_0.mp c55
              refine e_iconst (v := 0) aX9_goesOver_62 (by decide) ?_
              refine e_istore_n aX9_goesOver_63 (Nat.le_of_ble_eq_true rfl) ?_
              refine e_iinc aX9_goesOver_64 rfl rfl (Nat.le_of_ble_eq_true rfl) ?_
              refine e_goto aX9_goesOver_67 ?_
              refine e_ls (ls' := [(0, some (vR (some 109))), (1, some (vI (nI xz))), (2, some (vI (b2 ((goM D s σ (k + 1) u).2 = true)))), (3, some (vI (nI (k + 1))))]) ⟨rfl, rfl, congrArg (fun x => some (vI x)) ((b2_f (by show ¬ (_ || _ || _) = true; rw [Bool.eq_false_iff.mpr q45, Bool.eq_false_iff.mpr q50, Bool.eq_false_iff.mpr q55]; decide)).symm), congrArg (fun x => some (vI x)) (nI_1 k), trivial⟩ ?_
              exact ih (k + 1) h3 (by omega) S3 R3
            · -- 55: not taken
              have q55 : (gyM D s (σ k) 1 ((gyM D s (σ k) 0 (goM D s σ k u).1).getD (goM D s σ k u).1)).isSome = true := Decidable.of_not_not (fun z => c55 (b2_0.mpr z))
              refine e_iconst (v := 1) aX9_goesOver_58 (by decide) ?_
              refine e_goto aX9_goesOver_59 ?_
              refine e_istore_n aX9_goesOver_63 (Nat.le_of_ble_eq_true rfl) ?_
              refine e_iinc aX9_goesOver_64 rfl rfl (Nat.le_of_ble_eq_true rfl) ?_
              refine e_goto aX9_goesOver_67 ?_
              refine e_ls (ls' := [(0, some (vR (some 109))), (1, some (vI (nI xz))), (2, some (vI (b2 ((goM D s σ (k + 1) u).2 = true)))), (3, some (vI (nI (k + 1))))]) ⟨rfl, rfl, congrArg (fun x => some (vI x)) ((b2_t (by show (_ || _ || _) = true; rw [q55, Bool.or_true])).symm), congrArg (fun x => some (vI x)) (nI_1 k), trivial⟩ ?_
              exact ih (k + 1) h3 (by omega) S3 R3
  refine e_iconst (v := 0) aX9_goesOver_0 (by decide) ?_
  refine e_istore_n aX9_goesOver_1 (Nat.le_of_ble_eq_true rfl) ?_
  refine e_iconst (v := 0) aX9_goesOver_2 (by decide) ?_
  refine e_istore_n aX9_goesOver_3 (Nat.le_of_ble_eq_true rfl) ?_
  refine e_ls (ls' := [(0, some (vR (some 109))), (1, some (vI (nI xz))), (2, some (vI (b2 ((goM D s σ 0 u).2 = true)))), (3, some (vI (nI 0)))]) ⟨rfl, rfl, rfl, rfl, trivial⟩ ?_
  exact loop n 0 h0 (by omega) (Sf.rf h0) R0
def crM (D : Nat → DD) (s : Nat) (σ : Nat → Nat) (q : Nat) : Nat → Nat → RT → Nat
  | 0, c, _ => c
  | m + 1, c, u => if (goM D s σ q u).2 = true then crM D s σ q m (c + 1) (goM D s σ q u).1 else c
theorem crM_s {D : Nat → DD} {s q m c : Nat} {σ : Nat → Nat} {u : RT} : crM D s σ q (m + 1) c u = if (goM D s σ q u).2 = true then crM D s σ q m (c + 1) (goM D s σ q u).1 else c := rfl
/-- what hasn't gone yet -/
def lfR (u : RT) : Nat := cnW (fun j => !u.2 j) 0 24
theorem cnW_up {G : Nat → Bool} {j : Nat} (hj : G j = false) : ∀ m, cnW (fun i => !updB G j i) 0 m + (if j < m then 1 else 0) = cnW (fun i => !G i) 0 m := by
  intro m
  induction m with
  | zero => rfl
  | succ m ih =>
    have e : updB G j (0 + m) = if m = j then true else G m := by rw [Nat.zero_add]; rfl
    by_cases z : m = j
    · subst z
      rw [cnW_f (P := fun i => !updB G m i) (by show (!updB G m (0 + m)) = false; rw [e, if_pos rfl]; rfl), cnW_t (P := fun i => !G i) (by show (!G (0 + m)) = true; rw [Nat.zero_add, hj]; rfl)]
      rw [if_neg (by omega)] at ih
      rw [if_pos (by omega), ← ih]
    · rw [if_neg z] at e
      have e1 : (if j < m + 1 then 1 else 0) = (if j < m then 1 else 0) := by
        by_cases w : j < m
        · rw [if_pos w, if_pos (by omega)]
        · rw [if_neg w, if_neg (by omega)]
      rw [e1]
      show cnW _ 0 m + (if (!updB G j (0 + m)) = true then 1 else 0) + _ = cnW _ 0 m + (if (!G (0 + m)) = true then 1 else 0)
      rw [e, Nat.zero_add, ← ih]
      omega
theorem gyM_l {D : Nat → DD} {s k w : Nat} {u v : RT} (hk : 2 * k + w < 24) (z : gyM D s k w u = some v) : lfR v + 1 = lfR u := by
  unfold gyM at z
  cases e : cvW (D k) s w with
  | none => rw [e] at z; cases z
  | some p =>
    rw [e] at z
    simp only at z
    split at z
    · cases z
    · split at z
      · cases z
        rename_i h1 h2
        have := cnW_up (G := u.2) (j := 2 * k + w) (Bool.eq_false_iff.mpr h1) 24
        rw [if_pos hk] at this
        exact this
      · cases z
theorem gyM_g {D : Nat → DD} {s k w : Nat} {u : RT} (hk : 2 * k + w < 24) : lfR ((gyM D s k w u).getD u) + (if (gyM D s k w u).isSome = true then 1 else 0) = lfR u := by
  cases e : gyM D s k w u with
  | none => rfl
  | some v => exact gyM_l hk e
theorem goM_l {D : Nat → DD} {s : Nat} {σ : Nat → Nat} {u : RT} : ∀ i, (∀ j, j < i → σ j < 12) → lfR (goM D s σ i u).1 + (if (goM D s σ i u).2 = true then 1 else 0) ≤ lfR u := by
  intro i
  induction i with
  | zero => intro _; exact Nat.le_refl _
  | succ i ih =>
    intro h
    have h1 := ih (fun j hj => h j (by omega))
    have h2 := gyM_g (D := D) (s := s) (k := σ i) (w := 0) (u := (goM D s σ i u).1) (by have := h i (by omega); omega)
    have h3 := gyM_g (D := D) (s := s) (k := σ i) (w := 1) (u := (gyM D s (σ i) 0 (goM D s σ i u).1).getD (goM D s σ i u).1) (by have := h i (by omega); omega)
    show lfR ((gyM D s (σ i) 1 ((gyM D s (σ i) 0 (goM D s σ i u).1).getD (goM D s σ i u).1)).getD ((gyM D s (σ i) 0 (goM D s σ i u).1).getD (goM D s σ i u).1)) + (if ((goM D s σ i u).2 || (gyM D s (σ i) 0 (goM D s σ i u).1).isSome || (gyM D s (σ i) 1 ((gyM D s (σ i) 0 (goM D s σ i u).1).getD (goM D s σ i u).1)).isSome) = true then 1 else 0) ≤ lfR u
    generalize (gyM D s (σ i) 1 ((gyM D s (σ i) 0 (goM D s σ i u).1).getD (goM D s σ i u).1)).isSome = b3 at h3 ⊢
    generalize (gyM D s (σ i) 0 (goM D s σ i u).1).isSome = b2 at h2 ⊢
    generalize (goM D s σ i u).2 = b1 at h1 ⊢
    cases b1 <;> cases b2 <;> cases b3 <;> simp at h1 h2 h3 ⊢ <;> omega
def rt0 : RT := (fun p => p % 3, fun _ => false)
def scH (a i : Nat) : Prop := a = 126 ∨ a = 127 ∨ sc0 a i
theorem Sf.H0 {h h2 : HP} (s : Sc h h2) : Sf scH h h2 := s.mono (fun _ _ q => Or.inr (Or.inr q))
theorem Sf.HG {h h2 : HP} (s : Sf scG h h2) : Sf scH h h2 := s.mono (fun _ _ q => q.elim Or.inl (fun q => Or.inr (Or.inl q)))
theorem Sf.mdH {h h2 : HP} {n : Nat} {D : Nat → DD} (s : Sf scH h h2) (k : MkD h n D) : MkD h2 n D := k.sf s (by unfold scH sc0; omega) (fun i => by unfold scH sc0; omega)
theorem Sf.lH {h h2 : HP} {P : Nat → Nat → Prop} (s : Sf P h h2) (a i : Nat) : hL h2 a i = hL h a i := congrFun (congrFun (congrArg (fun z => z.1) s.1) a) i
theorem arR_k {g : Nat → Int64} {n : Nat} (hn : n ≤ 12) : ∀ {m i s : Nat}, arR g n i m s = true → ∀ j, i ≤ j → j < i + m → (g j).toInt32.toNatClampNeg < n ∧ g j = lN (g j).toInt32.toNatClampNeg := by
  intro m
  induction m with
  | zero => intro i s _ j h1 h2; omega
  | succ m ih =>
    intro i s z j h1 h2
    rw [arR_s] at z
    by_cases w : rgB n (g i) = true
    · rw [if_pos w] at z
      by_cases e : j = i
      · subst e
        have := rgB_k hn w
        exact ⟨this.1, this.2.2⟩
      · exact ih z j (by omega) (by omega)
    · rw [if_neg w] at z
      exact absurd z (by decide)
theorem zX9_rounds (X : EX) {h0 : HP} (F0 : Fx h0) {f n : Nat} {o : Nat → Nat} {D : Nat → DD} (mf0 : MkF h0 f o) (md0 : MkD h0 n D) {tS : Nat → Int32} {qS : Nat → Nat} (hS : ShM h0 tS qS) (x y : Int32) : Ct X mX9_rounds 7 0 0 [vR (some 109), vI x, vI y] h0 (if x < 0 ∨ 4 ≤ x then RM h0 0 else if nI (fo o f) ≤ y ∧ y < nI (fo o f + om f) then (if tS x.toNatClampNeg = -1 then RM h0 5 else if qS x.toNatClampNeg = n then (if (arR (fun i => hL h0 124 (40 * x.toNatClampNeg + i)) n 0 (qS x.toNatClampNeg) 0 = true) then (fun v h' => v = some (vI (nI (crM D y.toNatClampNeg (fun i => (hL h0 124 (40 * x.toNatClampNeg + i)).toInt32.toNatClampNeg) n 24 1 rt0))) ∧ Sf scH h0 h') else RM h0 4) else RM h0 6) else RM h0 0) := by
  refine ct_of rfl (Nat.le_of_ble_eq_true rfl) ?_
  have F := F0
  have md := md0
  have mf := mf0
  have hn12 := md0.2.1
  have hf4 := mf0.2.1
  have hb6 := om_fo mf0.2.1 mf0.2.2.2
  have hom := om_pos mf0.2.1
  refine e_iload_n aX9_rounds_0 rfl ?_
  refine e_invsT aX9_rounds_1 kX9_343 (zX9_isSheet X _) rfl rfl (Nat.le_of_ble_eq_true rfl) (Nat.le_of_ble_eq_true rfl) (Nat.le_refl _) (Nat.le_refl _) (Nat.le_of_ble_eq_true rfl) ?_
  refine e_if_eq aX9_rounds_4 (fun c4 => ?_) (fun c4 => ?_)
  · -- 4: taken
    have q4 := Decidable.of_not_not (b2_0.mp c4)
    refine e_aload_n aX9_rounds_15 rfl ?_
    refine e_iconst (v := 0) aX9_rounds_16 (by decide) ?_
    refine e_invvT aX9_rounds_17 kX9_128 (zX9_finds X F (k := 0) (by decide)) rfl rfl (fx_is F rfl) (Nat.le_of_ble_eq_true rfl) (Nat.le_of_ble_eq_true rfl) (Nat.le_refl _) (Nat.le_refl _) (Nat.le_of_ble_eq_true rfl) ?_
    refine e_ireturn aX9_rounds_20 rfl (Nat.le_refl _) (Nat.le_refl _) ?_
    rw [if_pos q4]
    exact ⟨rfl, rfl⟩
  · -- 4: not taken
    have q4 := Decidable.of_not_not (fun z => c4 (b2_0.mpr z))
    refine e_aload_n aX9_rounds_7 rfl ?_
    refine e_iload_n aX9_rounds_8 rfl ?_
    refine e_invvT aX9_rounds_9 kX9_222 (zX9_isOpen X F mf _) rfl rfl (fx_is F rfl) (Nat.le_of_ble_eq_true rfl) (Nat.le_of_ble_eq_true rfl) (Nat.le_refl _) (Nat.le_refl _) (Nat.le_of_ble_eq_true rfl) ?_
    refine e_if_ne aX9_rounds_12 (fun c12 => ?_) (fun c12 => ?_)
    · -- 12: taken
      have q12 := Decidable.of_not_not (fun z => c12 (b2_0.mpr z))
      obtain ⟨xz, hx4, rfl⟩ := ou_of 4 (by decide) q4
      obtain ⟨e1, e2, e3, e4⟩ := hS xz hx4
      obtain ⟨sz, hs1, hs2, rfl⟩ := opn_of (Nat.le_add_right _ _) hb6 q12
      refine e_aload_n aX9_rounds_21 rfl ?_
      refine e_getRF aX9_rounds_22 fX9_52 rfl (fx_is F rfl) (fx_r (b := 122) F rfl) ?_
      refine e_iload_n aX9_rounds_25 rfl ?_
      refine e_ialoadF aX9_rounds_26 (fx_is F rfl) (fx_n (n := 4) F rfl) (vin (N := 4) hx4) (show hI h0 122 (nI xz).toNatClampNeg = tS xz by rw [cl (by omega)]; exact e1) ?_
      refine e_if_ge aX9_rounds_27 (fun c27 => ?_) (fun c27 => ?_)
      · -- 27: taken
        have q27 : ¬ tS xz = -1 := fun z => absurd (show ¬ (0 : Int32) ≤ tS xz by rw [z]; decide) (fun w => w c27)
        refine e_aload_n aX9_rounds_36 rfl ?_
        refine e_getRF aX9_rounds_37 fX9_55 rfl (fx_is F rfl) (fx_r (b := 123) F rfl) ?_
        refine e_iload_n aX9_rounds_40 rfl ?_
        refine e_ialoadF aX9_rounds_41 (fx_is F rfl) (fx_n (n := 4) F rfl) (vin (N := 4) hx4) (show hI h0 123 (nI xz).toNatClampNeg = nI (qS xz) by rw [cl (by omega)]; exact e2) ?_
        refine e_aload_n aX9_rounds_42 rfl ?_
        refine e_getIF aX9_rounds_43 fX9_89 rfl (fx_is F rfl) md.1 ?_
        refine e_icmp_eq aX9_rounds_46 (fun c46 => ?_) (fun c46 => ?_)
        · -- 46: taken
          have q46 : qS xz = n := (nI_eq (by omega) (by omega)).mp c46
          refine e_aload_n aX9_rounds_56 rfl ?_
          refine e_iload_n aX9_rounds_57 rfl ?_
          refine e_invvT aX9_rounds_58 kX9_353 (zX9_areAll X F md hx4 e2 e4) rfl rfl (fx_is F rfl) (Nat.le_of_ble_eq_true rfl) (Nat.le_of_ble_eq_true rfl) (Nat.le_refl _) (Nat.le_refl _) (Nat.le_of_ble_eq_true rfl) ?_
          refine e_if_ne aX9_rounds_61 (fun c61 => ?_) (fun c61 => ?_)
          · -- 61: taken
            have q61 := Decidable.of_not_not (fun z => c61 (b2_0.mpr z))
            rw [if_neg q4, if_pos q12, cl (n := xz) (by omega), cl (n := sz) (by omega), if_neg q27, if_pos q46, if_pos q61]
            have ha9 := arR_k hn12 q61
            have hσ : ∀ i, i < n → (fun i => (hL h0 124 (40 * xz + i)).toInt32.toNatClampNeg) i < n ∧ hL h0 124 (40 * xz + i) = lN ((fun i => (hL h0 124 (40 * xz + i)).toInt32.toNatClampNeg) i) := fun i hi => ha9 i (Nat.zero_le _) (by omega)
            generalize (fun i => (hL h0 124 (40 * xz + i)).toInt32.toNatClampNeg) = σ at hσ ⊢
            have hs9 : sz < 1296 := by omega
            have l3 : ∀ (m c9 : Nat) (u : RT) (hz : HP), lfR u ≤ m → Sf scH h0 hz → LsC hz n D sz → RtC hz u → crM D sz σ n m c9 u = (crM D sz σ n 24 1 rt0) → Ev X mX9_rounds 7 0 0 (fun v h' => v = some (vI (nI (crM D sz σ n 24 1 rt0))) ∧ Sf scH h0 h') 0 0 121 [(0, some (vR (some 109))), (1, some (vI (nI xz))), (3, some (vI (nI c9)))] [] hz := by
              intro m
              induction m with
              | zero =>
                intro c9 u hz hu S LZ R hR
                have F := S.F F0
                have md := S.mdH md0
                have hσz : ∀ i, i < n → σ i < n ∧ hL hz 124 (40 * xz + i) = lN (σ i) := fun i hi => ⟨(hσ i hi).1, (S.lH 124 _).trans (hσ i hi).2⟩
                refine e_aload_n aX9_rounds_121 rfl ?_
                refine e_iload_n aX9_rounds_122 rfl ?_
                refine e_invv aX9_rounds_123 kX9_356 (zX9_goesOver X F md LZ hx4 hσz R) rfl rfl (fx_is F rfl) (Nat.le_of_ble_eq_true rfl) (Nat.le_of_ble_eq_true rfl) (Nat.le_refl _) (Nat.le_refl _) (Nat.le_of_ble_eq_true rfl) ?_
                rintro v h2 ⟨rfl, S1, R1⟩
                have S2 := S.tr S1.HG
                have hl9 := goM_l (D := D) (s := sz) (σ := σ) (u := u) n (fun j hj => by have := (hσ j hj).1; omega)
                refine e_if_eq aX9_rounds_126 (fun c126 => ?_) (fun c126 => ?_)
                · -- 126: taken
                  have q126 := b2_0.mp c126
                  refine e_iload_n aX9_rounds_135 rfl ?_
                  refine e_ireturn aX9_rounds_136 rfl (Nat.le_refl _) (Nat.le_refl _) ?_
                  exact ⟨congrArg (fun x => some (vI (nI x))) hR, S2⟩
                · -- 126: not taken
                  have q126 := Decidable.of_not_not (fun z => c126 (b2_0.mpr z))
                  rw [if_pos q126] at hl9
                  exact absurd hl9 (by omega)
              | succ m ih =>
                intro c9 u hz hu S LZ R hR
                have F := S.F F0
                have md := S.mdH md0
                have hσz : ∀ i, i < n → σ i < n ∧ hL hz 124 (40 * xz + i) = lN (σ i) := fun i hi => ⟨(hσ i hi).1, (S.lH 124 _).trans (hσ i hi).2⟩
                refine e_aload_n aX9_rounds_121 rfl ?_
                refine e_iload_n aX9_rounds_122 rfl ?_
                refine e_invv aX9_rounds_123 kX9_356 (zX9_goesOver X F md LZ hx4 hσz R) rfl rfl (fx_is F rfl) (Nat.le_of_ble_eq_true rfl) (Nat.le_of_ble_eq_true rfl) (Nat.le_refl _) (Nat.le_refl _) (Nat.le_of_ble_eq_true rfl) ?_
                rintro v h2 ⟨rfl, S1, R1⟩
                have S2 := S.tr S1.HG
                have hl9 := goM_l (D := D) (s := sz) (σ := σ) (u := u) n (fun j hj => by have := (hσ j hj).1; omega)
                refine e_if_eq aX9_rounds_126 (fun c126 => ?_) (fun c126 => ?_)
                · -- 126: taken
                  have q126 := b2_0.mp c126
                  refine e_iload_n aX9_rounds_135 rfl ?_
                  refine e_ireturn aX9_rounds_136 rfl (Nat.le_refl _) (Nat.le_refl _) ?_
                  exact ⟨congrArg (fun x => some (vI (nI x))) (by rw [← hR, crM_s, if_neg q126]), S2⟩
                · -- 126: not taken
                  have q126 := Decidable.of_not_not (fun z => c126 (b2_0.mpr z))
                  refine e_iinc aX9_rounds_129 rfl rfl (Nat.le_of_ble_eq_true rfl) ?_
                  refine e_goto aX9_rounds_132 ?_
                  rw [if_pos q126] at hl9
                  refine e_ls (ls' := [(0, some (vR (some 109))), (1, some (vI (nI xz))), (3, some (vI (nI (c9 + 1))))]) ⟨rfl, rfl, congrArg (fun x => some (vI x)) (nI_1 c9), trivial⟩ ?_
                  exact ih (c9 + 1) _ h2 (by omega) S2 (S1.lsG LZ) R1 (by rw [← hR, crM_s, if_pos q126])
            have l2 : ∀ (m : Nat) (k : Nat) (hz : HP), k + m = 24 → Sf scH h0 hz → LsC hz n D sz → (∀ p, p < 12 → hI hz 126 p = nI (p % 3)) → (∀ j, j < k → hI hz 127 j = 0) → Ev X mX9_rounds 7 0 0 (fun v h' => v = some (vI (nI (crM D sz σ n 24 1 rt0))) ∧ Sf scH h0 h') 0 0 100 [(0, some (vR (some 109))), (1, some (vI (nI xz))), (3, some (vI (nI k)))] [] hz := by
              intro m
              induction m with
              | zero =>
                intro k hz hk S LZ hH hK
                obtain rfl : k = 24 := by omega
                have F := S.F F0
                refine e_iload_n aX9_rounds_100 rfl ?_
                refine e_bipush (v := 24) aX9_rounds_101 (by decide) ?_
                refine e_icmp_ge aX9_rounds_103 (fun c103 => ?_) (fun c103 => ?_)
                · -- 103: taken
                  refine e_iconst (v := 1) aX9_rounds_119 (by decide) ?_
                  refine e_istore_n aX9_rounds_120 (Nat.le_of_ble_eq_true rfl) ?_
                  refine e_ls (ls' := [(0, some (vR (some 109))), (1, some (vI (nI xz))), (3, some (vI (nI 1)))]) ⟨rfl, rfl, rfl, trivial⟩ ?_
                  exact l3 24 1 rt0 hz (cnW_le (P := fun j => !rt0.2 j) (a := 0) 24) S LZ ⟨fun p hp => ⟨hH p hp, Nat.mod_lt _ (by decide)⟩, fun j hj => hK j hj⟩ rfl
                · -- 103: not taken
                  exact absurd (nI_le (a := 24) (b := 24) (by decide) (by decide)) c103
              | succ m ih =>
                intro k hz hk S LZ hH hK
                have F := S.F F0
                refine e_iload_n aX9_rounds_100 rfl ?_
                refine e_bipush (v := 24) aX9_rounds_101 (by decide) ?_
                refine e_icmp_ge aX9_rounds_103 (fun c103 => ?_) (fun c103 => ?_)
                · -- 103: taken
                  exact absurd c103 (nI_ge (a := k) (b := 24) (by omega) (by decide))
                · -- 103: not taken
                  refine e_aload_n aX9_rounds_106 rfl ?_
                  refine e_getRF aX9_rounds_107 fX9_68 rfl (fx_is F rfl) (fx_r (b := 127) F rfl) ?_
                  refine e_iload_n aX9_rounds_110 rfl ?_
                  refine e_iconst (v := 0) aX9_rounds_111 (by decide) ?_
                  refine e_iastoreF aX9_rounds_112 (fx_is F rfl) (fx_n (n := 24) F rfl) (vin (N := 24) (by omega)) ?_
                  rw [cl (n := k) (by omega)]
                  refine e_iinc aX9_rounds_113 rfl rfl (Nat.le_of_ble_eq_true rfl) ?_
                  refine e_goto aX9_rounds_116 ?_
                  refine e_ls (ls' := [(0, some (vR (some 109))), (1, some (vI (nI xz))), (3, some (vI (nI (k + 1))))]) ⟨rfl, rfl, congrArg (fun x => some (vI x)) (nI_1 k), trivial⟩ ?_
                  refine ih (k + 1) _ (by omega) (S.wI (Or.inr (Or.inl rfl))) (fun j hj w hw => LZ j hj w hw) (fun p hp => (wI_a (by decide)).trans (hH p hp)) (fun j hj => ?_)
                  by_cases e : j = k
                  · subst e; exact wI_s
                  · exact (wI_i e).trans (hK j (by omega))
            have l1 : ∀ (m : Nat) (k : Nat) (hz : HP), k + m = 12 → Sf scH h0 hz → LsC hz n D sz → (∀ p, p < k → hI hz 126 p = nI (p % 3)) → Ev X mX9_rounds 7 0 0 (fun v h' => v = some (vI (nI (crM D sz σ n 24 1 rt0))) ∧ Sf scH h0 h') 0 0 77 [(0, some (vR (some 109))), (1, some (vI (nI xz))), (3, some (vI (nI k)))] [] hz := by
              intro m
              induction m with
              | zero =>
                intro k hz hk S LZ hK
                obtain rfl : k = 12 := by omega
                have F := S.F F0
                refine e_iload_n aX9_rounds_77 rfl ?_
                refine e_bipush (v := 12) aX9_rounds_78 (by decide) ?_
                refine e_icmp_ge aX9_rounds_80 (fun c80 => ?_) (fun c80 => ?_)
                · -- 80: taken
                  refine e_iconst (v := 0) aX9_rounds_98 (by decide) ?_
                  refine e_istore_n aX9_rounds_99 (Nat.le_of_ble_eq_true rfl) ?_
                  refine e_ls (ls' := [(0, some (vR (some 109))), (1, some (vI (nI xz))), (3, some (vI (nI 0)))]) ⟨rfl, rfl, rfl, trivial⟩ ?_
                  exact l2 24 0 hz rfl S LZ hK (fun j hj => absurd hj (Nat.not_lt_zero j))
                · -- 80: not taken
                  exact absurd (nI_le (a := 12) (b := 12) (by decide) (by decide)) c80
              | succ m ih =>
                intro k hz hk S LZ hK
                have F := S.F F0
                refine e_iload_n aX9_rounds_77 rfl ?_
                refine e_bipush (v := 12) aX9_rounds_78 (by decide) ?_
                refine e_icmp_ge aX9_rounds_80 (fun c80 => ?_) (fun c80 => ?_)
                · -- 80: taken
                  exact absurd c80 (nI_ge (a := k) (b := 12) (by omega) (by decide))
                · -- 80: not taken
                  refine e_aload_n aX9_rounds_83 rfl ?_
                  refine e_getRF aX9_rounds_84 fX9_65 rfl (fx_is F rfl) (fx_r (b := 126) F rfl) ?_
                  refine e_iload_n aX9_rounds_87 rfl ?_
                  refine e_iload_n aX9_rounds_88 rfl ?_
                  refine e_iconst (v := 3) aX9_rounds_89 (by decide) ?_
                  refine e_irem aX9_rounds_90 (by decide) ?_
                  refine e_top (nI_rem (a := k) (b := 3) (by omega) (by decide) (by decide)) ?_
                  refine e_iastoreF aX9_rounds_91 (fx_is F rfl) (fx_n (n := 12) F rfl) (vin (N := 12) (by omega)) ?_
                  rw [cl (n := k) (by omega)]
                  refine e_iinc aX9_rounds_92 rfl rfl (Nat.le_of_ble_eq_true rfl) ?_
                  refine e_goto aX9_rounds_95 ?_
                  refine e_ls (ls' := [(0, some (vR (some 109))), (1, some (vI (nI xz))), (3, some (vI (nI (k + 1))))]) ⟨rfl, rfl, congrArg (fun x => some (vI x)) (nI_1 k), trivial⟩ ?_
                  refine ih (k + 1) _ (by omega) (S.wI (Or.inl rfl)) (fun j hj w hw => LZ j hj w hw) (fun j hj => ?_)
                  by_cases e : j = k
                  · subst e; exact wI_s
                  · exact (wI_i e).trans (hK j (by omega))
            refine e_aload_n aX9_rounds_70 rfl ?_
            refine e_iload_n aX9_rounds_71 rfl ?_
            refine e_invv aX9_rounds_72 kX9_170 (zX9_laysOut X F md hs9) rfl rfl (fx_is F rfl) (Nat.le_of_ble_eq_true rfl) (Nat.le_of_ble_eq_true rfl) (Nat.le_refl _) (Nat.le_refl _) (Nat.le_of_ble_eq_true rfl) ?_
            rintro v h2 ⟨rfl, S, LZ⟩
            have F := S.F F0
            refine e_iconst (v := 0) aX9_rounds_75 (by decide) ?_
            refine e_istore_n aX9_rounds_76 (Nat.le_of_ble_eq_true rfl) ?_
            refine e_ls (ls' := [(0, some (vR (some 109))), (1, some (vI (nI xz))), (3, some (vI (nI 0)))]) ⟨rfl, rfl, rfl, trivial⟩ ?_
            exact l1 12 0 h2 rfl S.H0 LZ (fun j hj => absurd hj (Nat.not_lt_zero j))
          · -- 61: not taken
            have q61 := b2_0.mp c61
            refine e_aload_n aX9_rounds_64 rfl ?_
            refine e_iconst (v := 4) aX9_rounds_65 (by decide) ?_
            refine e_invvT aX9_rounds_66 kX9_128 (zX9_finds X F (k := 4) (by decide)) rfl rfl (fx_is F rfl) (Nat.le_of_ble_eq_true rfl) (Nat.le_of_ble_eq_true rfl) (Nat.le_refl _) (Nat.le_refl _) (Nat.le_of_ble_eq_true rfl) ?_
            refine e_ireturn aX9_rounds_69 rfl (Nat.le_refl _) (Nat.le_refl _) ?_
            rw [if_neg q4, if_pos q12, cl (n := xz) (by omega), if_neg q27, if_pos q46, if_neg q61]
            exact ⟨rfl, rfl⟩
        · -- 46: not taken
          have q46 : ¬ qS xz = n := fun z => c46 (by rw [z])
          refine e_aload_n aX9_rounds_49 rfl ?_
          refine e_bipush (v := 6) aX9_rounds_50 (by decide) ?_
          refine e_invvT aX9_rounds_52 kX9_128 (zX9_finds X F (k := 6) (by decide)) rfl rfl (fx_is F rfl) (Nat.le_of_ble_eq_true rfl) (Nat.le_of_ble_eq_true rfl) (Nat.le_refl _) (Nat.le_refl _) (Nat.le_of_ble_eq_true rfl) ?_
          refine e_ireturn aX9_rounds_55 rfl (Nat.le_refl _) (Nat.le_refl _) ?_
          rw [if_neg q4, if_pos q12, cl (n := xz) (by omega), if_neg q27, if_neg q46]
          exact ⟨rfl, rfl⟩
      · -- 27: not taken
        have q27 : tS xz = -1 := by
          rcases e3 with z | z | z | z
          · exact z
          all_goals exact absurd (show (0 : Int32) ≤ tS xz by rw [z]; decide) c27
        refine e_aload_n aX9_rounds_30 rfl ?_
        refine e_iconst (v := 5) aX9_rounds_31 (by decide) ?_
        refine e_invvT aX9_rounds_32 kX9_128 (zX9_finds X F (k := 5) (by decide)) rfl rfl (fx_is F rfl) (Nat.le_of_ble_eq_true rfl) (Nat.le_of_ble_eq_true rfl) (Nat.le_refl _) (Nat.le_refl _) (Nat.le_of_ble_eq_true rfl) ?_
        refine e_ireturn aX9_rounds_35 rfl (Nat.le_refl _) (Nat.le_refl _) ?_
        rw [if_neg q4, if_pos q12, cl (n := xz) (by omega), if_pos q27]
        exact ⟨rfl, rfl⟩
    · -- 12: not taken
      have q12 := b2_0.mp c12
      refine e_aload_n aX9_rounds_15 rfl ?_
      refine e_iconst (v := 0) aX9_rounds_16 (by decide) ?_
      refine e_invvT aX9_rounds_17 kX9_128 (zX9_finds X F (k := 0) (by decide)) rfl rfl (fx_is F rfl) (Nat.le_of_ble_eq_true rfl) (Nat.le_of_ble_eq_true rfl) (Nat.le_refl _) (Nat.le_refl _) (Nat.le_of_ble_eq_true rfl) ?_
      refine e_ireturn aX9_rounds_20 rfl (Nat.le_refl _) (Nat.le_refl _) ?_
      rw [if_neg q4, if_neg q12]
      exact ⟨rfl, rfl⟩
