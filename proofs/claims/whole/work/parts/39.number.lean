/-! contracts: Tape, numbers (written by wip/whole/g39.py) -/
theorem tpc_step {h : HP} {l a e : Nat} (t : TpC h l a e) : TpC (tkH h (tkA (hI h 42) l e) (tkE (hI h 42) l (tkA (hI h 42) l e))) l (tkA (hI h 42) l e) (tkE (hI h 42) l (tkA (hI h 42) l e)) := by
  have h1 := tkA_le (bt := hI h 42) t.2.2.2.2.2
  have h2 := tkE_le (bt := hI h 42) h1.2
  exact ⟨tkH_1.trans t.1, t.2.1, tkH_2, wI_s, h2.1, h2.2⟩
/-- one more digit -/
def dgN (v x : Int32) : Int32 := if v * 10 + x - 48 < 100 then v * 10 + x - 48 else 100
def tnR (bt : Nat → Int32) : Nat → Nat → Int32 → Int32
  | 0, _, v => v
  | m + 1, i, v => tnR bt m (i + 1) (dgN v (bt i))
def tkN (bt : Nat → Int32) (l a e : Nat) : Int32 := if a < l then (if isDt (bt a) = true then tnR bt (e - a) a 0 else -1) else -1
theorem zX7_start (X : EX) {h : HP} (F : Fx h) {l : Nat} (hl : hI h 41 1 = nI l) (h120 : l ≤ 120) : Ct X mX7_start 2 0 0 [vR (some 41)] h (Rv (tkH (wI h 41 3 0) (tkA (hI (wI h 41 3 0) 42) l 0) (tkE (hI (wI h 41 3 0) 42) l (tkA (hI (wI h 41 3 0) 42) l 0)))) := by
  refine ct_of rfl (Nat.le_of_ble_eq_true rfl) ?_
  refine e_aload_n aX7_start_0 rfl ?_
  refine e_iconst (v := 0) aX7_start_1 (by decide) ?_
  refine e_putI aX7_start_2 fX7_19 rfl (fx_is F rfl) (Or.inl rfl) ?_
  refine e_aload_n aX7_start_5 rfl ?_
  refine e_invvV aX7_start_6 kX7_22 (zX7_step X (h := wI h 41 3 0) F (e := 0) ((wI_i (by decide)).trans hl) h120 wI_s (Nat.zero_le _)) rfl rfl (fx_is F rfl) (Nat.le_of_ble_eq_true rfl) (Nat.le_of_ble_eq_true rfl) (Nat.le_refl _) (Nat.le_refl _) (Nat.le_of_ble_eq_true rfl) ?_
  refine e_return aX7_start_9 rfl (Nat.le_refl _) (Nat.le_refl _) ?_
  exact ⟨rfl, rfl⟩
theorem zX7_tokenPlace (X : EX) {h : HP} (F : Fx h) {l a e : Nat} (t : TpC h l a e) : Ct X mX7_tokenPlace 0 0 0 [vR (some 41)] h (Rt (vI (nI a)) h) := by
  refine ct_of rfl (Nat.le_of_ble_eq_true rfl) ?_
  refine e_aload_n aX7_tokenPlace_0 rfl ?_
  refine e_getIF aX7_tokenPlace_1 fX7_25 rfl (fx_is F rfl) t.2.2.1 ?_
  refine e_ireturn aX7_tokenPlace_4 rfl (Nat.le_refl _) (Nat.le_refl _) ?_
  exact ⟨rfl, rfl⟩
theorem zX7_isAtEnd (X : EX) {h : HP} (F : Fx h) {l a e : Nat} (t : TpC h l a e) : Ct X mX7_isAtEnd 0 0 0 [vR (some 41)] h (Rt (vI (b2 (l ≤ a))) h) := by
  refine ct_of rfl (Nat.le_of_ble_eq_true rfl) ?_
  obtain ⟨-, t2, -, -, t5, t6⟩ := id t
  refine e_aload_n aX7_isAtEnd_0 rfl ?_
  refine e_getIF aX7_isAtEnd_1 fX7_25 rfl (fx_is F rfl) t.2.2.1 ?_
  refine e_aload_n aX7_isAtEnd_4 rfl ?_
  refine e_getIF aX7_isAtEnd_5 fX7_15 rfl (fx_is F rfl) t.1 ?_
  refine e_icmp_lt aX7_isAtEnd_8 (fun c8 => ?_) (fun c8 => ?_)
  · -- 8: taken
    have q8 := (nI_ltI (a := a) (b := l) (by omega) (by omega)).mp c8
    refine e_iconst (v := 0) aX7_isAtEnd_15 (by decide) ?_
    refine e_zreturn aX7_isAtEnd_16 rfl (by decide) (Nat.le_refl _) (Nat.le_refl _) ?_
    exact ⟨by rw [b2_f (by omega)] <;> rfl, rfl⟩
  · -- 8: not taken
    have q8 := (not_congr (nI_ltI (a := a) (b := l) (by omega) (by omega))).mp c8
    refine e_iconst (v := 1) aX7_isAtEnd_11 (by decide) ?_
    refine e_goto aX7_isAtEnd_12 ?_
    refine e_zreturn aX7_isAtEnd_16 rfl (by decide) (Nat.le_refl _) (Nat.le_refl _) ?_
    exact ⟨by rw [b2_t (by omega)] <;> rfl, rfl⟩
theorem zX7_tokenNumber (X : EX) {h : HP} (F : Fx h) {l a e : Nat} (t : TpC h l a e) : Ct X mX7_tokenNumber 1 0 0 [vR (some 41)] h (Rt (vI (tnR (hI h 42) (e - a) a 0)) h) := by
  refine ct_of rfl (Nat.le_of_ble_eq_true rfl) ?_
  obtain ⟨-, t2, -, -, t5, t6⟩ := id t
  have loop : ∀ (m : Nat) (i : Nat) (v : Int32), i + m = e → tnR (hI h 42) m i v = tnR (hI h 42) (e - a) a 0 → Ev X mX7_tokenNumber 1 0 0 (Rt (vI (tnR (hI h 42) (e - a) a 0)) h) 0 0 7 [(0, some (vR (some 41))), (1, some (vI v)), (2, some (vI (nI i)))] [] h := by
    intro m
    induction m with
    | zero =>
      intro i v hi9 hR9
      obtain rfl : i = e := by omega
      refine e_iload_n aX7_tokenNumber_7 rfl ?_
      refine e_aload_n aX7_tokenNumber_8 rfl ?_
      refine e_getIF aX7_tokenNumber_9 fX7_19 rfl (fx_is F rfl) t.2.2.2.1 ?_
      refine e_icmp_ge aX7_tokenNumber_12 (fun c12 => ?_) (fun c12 => ?_)
      · -- 12: taken
        refine e_iload_n aX7_tokenNumber_41 rfl ?_
        refine e_ireturn aX7_tokenNumber_42 rfl (Nat.le_refl _) (Nat.le_refl _) ?_
        exact ⟨by rw [← hR9] <;> rfl, rfl⟩
      · -- 12: not taken
        exact absurd (nI_le (by omega) (by omega)) c12
    | succ m ih =>
      intro i v hi9 hR9
      refine e_iload_n aX7_tokenNumber_7 rfl ?_
      refine e_aload_n aX7_tokenNumber_8 rfl ?_
      refine e_getIF aX7_tokenNumber_9 fX7_19 rfl (fx_is F rfl) t.2.2.2.1 ?_
      refine e_icmp_ge aX7_tokenNumber_12 (fun c12 => ?_) (fun c12 => ?_)
      · -- 12: taken
        exact absurd c12 (nI_ge (by omega) (by omega))
      · -- 12: not taken
        refine e_bipush (v := 100) aX7_tokenNumber_15 (by decide) ?_
        refine e_iload_n aX7_tokenNumber_17 rfl ?_
        refine e_bipush (v := 10) aX7_tokenNumber_18 (by decide) ?_
        refine e_imul aX7_tokenNumber_20 ?_
        refine e_aload_n aX7_tokenNumber_21 rfl ?_
        refine e_getRF aX7_tokenNumber_22 fX7_9 rfl (fx_is F rfl) (fx_r (b := 42) F rfl) ?_
        refine e_iload_n aX7_tokenNumber_25 rfl ?_
        refine e_baloadF aX7_tokenNumber_26 (fx_is F rfl) (fx_n (n := 120) F rfl) (vin (N := 120) (by omega)) (show hI h 42 (nI i).toNatClampNeg = hI h 42 i by rw [cl (by omega)]) ?_
        refine e_iadd aX7_tokenNumber_27 ?_
        refine e_bipush (v := 48) aX7_tokenNumber_28 (by decide) ?_
        refine e_isub aX7_tokenNumber_30 ?_
        refine e_min aX7_tokenNumber_31 kX7_48.2.2.1 w_minS w_minI w_minC (Nat.le_of_ble_eq_true rfl) (Nat.le_refl _) (Nat.le_refl _) (Nat.le_of_ble_eq_true rfl) ?_
        refine e_istore_n aX7_tokenNumber_34 (Nat.le_of_ble_eq_true rfl) ?_
        refine e_iinc aX7_tokenNumber_35 rfl rfl (Nat.le_of_ble_eq_true rfl) ?_
        refine e_goto aX7_tokenNumber_38 ?_
        refine e_ls (ls' := [(0, some (vR (some 41))), (1, some (vI (dgN v (hI h 42 i)))), (2, some (vI (nI (i + 1))))]) ⟨rfl, rfl, congrArg (fun x => some (vI x)) (nI_1 i), trivial⟩ ?_
        exact ih (i + 1) _ (by omega) hR9
  refine e_iconst (v := 0) aX7_tokenNumber_0 (by decide) ?_
  refine e_istore_n aX7_tokenNumber_1 (Nat.le_of_ble_eq_true rfl) ?_
  refine e_aload_n aX7_tokenNumber_2 rfl ?_
  refine e_getIF aX7_tokenNumber_3 fX7_25 rfl (fx_is F rfl) t.2.2.1 ?_
  refine e_istore_n aX7_tokenNumber_6 (Nat.le_of_ble_eq_true rfl) ?_
  refine e_ls (ls' := [(0, some (vR (some 41))), (1, some (vI 0)), (2, some (vI (nI a)))]) ⟨rfl, rfl, rfl, trivial⟩ ?_
  exact loop (e - a) a 0 (by omega) rfl
theorem zX7_takeNumber (X : EX) {h : HP} (F : Fx h) {l a e : Nat} (t : TpC h l a e) (x y w : Int32) : Ct X mX7_takeNumber 2 0 0 [vR (some 41), vI x, vI y, vI w] h (if (tkN (hI h 42) l a e) < x then Rt (vI (-1)) h else if y < (tkN (hI h 42) l a e) then Rt (vI (-1)) h else if (tkN (hI h 42) l a e) = w then Rt (vI (-1)) h else Rt (vI (tkN (hI h 42) l a e)) (tkH h (tkA (hI h 42) l e) (tkE (hI h 42) l (tkA (hI h 42) l e)))) := by
  refine ct_of rfl (Nat.le_of_ble_eq_true rfl) ?_
  obtain ⟨-, t2, -, -, t5, t6⟩ := id t
  have tail : Ev X mX7_takeNumber 2 0 0 (if (tkN (hI h 42) l a e) < x then Rt (vI (-1)) h else if y < (tkN (hI h 42) l a e) then Rt (vI (-1)) h else if (tkN (hI h 42) l a e) = w then Rt (vI (-1)) h else Rt (vI (tkN (hI h 42) l a e)) (tkH h (tkA (hI h 42) l e) (tkE (hI h 42) l (tkA (hI h 42) l e)))) 0 0 32 [(0, some (vR (some 41))), (1, some (vI x)), (2, some (vI y)), (3, some (vI w)), (4, some (vI (tkN (hI h 42) l a e)))] [] h := by
    refine e_iload aX7_takeNumber_32 rfl ?_
    refine e_iload_n aX7_takeNumber_34 rfl ?_
    refine e_icmp_lt aX7_takeNumber_35 (fun c35 => ?_) (fun c35 => ?_)
    · -- 35: taken
      have q35 : (tkN (hI h 42) l a e) < x := c35
      refine e_iconst (v := -1) aX7_takeNumber_50 (by decide) ?_
      refine e_ireturn aX7_takeNumber_51 rfl (Nat.le_refl _) (Nat.le_refl _) ?_
      rw [if_pos q35]
      exact ⟨rfl, rfl⟩
    · -- 35: not taken
      have q35 : ¬ (tkN (hI h 42) l a e) < x := c35
      refine e_iload aX7_takeNumber_38 rfl ?_
      refine e_iload_n aX7_takeNumber_40 rfl ?_
      refine e_icmp_gt aX7_takeNumber_41 (fun c41 => ?_) (fun c41 => ?_)
      · -- 41: taken
        have q41 : y < (tkN (hI h 42) l a e) := c41
        refine e_iconst (v := -1) aX7_takeNumber_50 (by decide) ?_
        refine e_ireturn aX7_takeNumber_51 rfl (Nat.le_refl _) (Nat.le_refl _) ?_
        rw [if_neg q35, if_pos q41]
        exact ⟨rfl, rfl⟩
      · -- 41: not taken
        have q41 : ¬ y < (tkN (hI h 42) l a e) := c41
        refine e_iload aX7_takeNumber_44 rfl ?_
        refine e_iload_n aX7_takeNumber_46 rfl ?_
        refine e_icmp_ne aX7_takeNumber_47 (fun c47 => ?_) (fun c47 => ?_)
        · -- 47: taken
          have q47 : ¬ (tkN (hI h 42) l a e) = w := c47
          refine e_aload_n aX7_takeNumber_52 rfl ?_
          refine e_invvV aX7_takeNumber_53 kX7_22 (zX7_step X F t.1 t.2.1 t.2.2.2.1 t.2.2.2.2.2) rfl rfl (fx_is F rfl) (Nat.le_of_ble_eq_true rfl) (Nat.le_of_ble_eq_true rfl) (Nat.le_refl _) (Nat.le_refl _) (Nat.le_of_ble_eq_true rfl) ?_
          refine e_iload aX7_takeNumber_56 rfl ?_
          refine e_ireturn aX7_takeNumber_58 rfl (Nat.le_refl _) (Nat.le_refl _) ?_
          rw [if_neg q35, if_neg q41, if_neg q47]
          exact ⟨rfl, rfl⟩
        · -- 47: not taken
          have q47 : (tkN (hI h 42) l a e) = w := c47
          refine e_iconst (v := -1) aX7_takeNumber_50 (by decide) ?_
          refine e_ireturn aX7_takeNumber_51 rfl (Nat.le_refl _) (Nat.le_refl _) ?_
          rw [if_neg q35, if_neg q41, if_pos q47]
          exact ⟨rfl, rfl⟩
  refine e_aload_n aX7_takeNumber_0 rfl ?_
  refine e_invvT aX7_takeNumber_1 kX7_37 (zX7_isAtEnd X F t) rfl rfl (fx_is F rfl) (Nat.le_of_ble_eq_true rfl) (Nat.le_of_ble_eq_true rfl) (Nat.le_refl _) (Nat.le_refl _) (Nat.le_of_ble_eq_true rfl) ?_
  refine e_if_ne aX7_takeNumber_4 (fun c4 => ?_) (fun c4 => ?_)
  · -- 4: taken
    have q4 := Decidable.of_not_not (fun z => c4 (b2_0.mpr z))
    refine e_iconst (v := -1) aX7_takeNumber_22 (by decide) ?_
    refine e_goto aX7_takeNumber_23 ?_
    refine e_istore aX7_takeNumber_30 (Nat.le_of_ble_eq_true rfl) ?_
    refine e_ls (ls' := [(0, some (vR (some 41))), (1, some (vI x)), (2, some (vI y)), (3, some (vI w)), (4, some (vI (tkN (hI h 42) l a e)))]) ⟨rfl, rfl, rfl, rfl, congrArg (fun x => some (vI x)) ((by unfold tkN; rw [if_neg (by omega)] : (tkN (hI h 42) l a e) = _).symm), trivial⟩ ?_
    exact tail
  · -- 4: not taken
    have q4 := b2_0.mp c4
    refine e_aload_n aX7_takeNumber_7 rfl ?_
    refine e_getRF aX7_takeNumber_8 fX7_9 rfl (fx_is F rfl) (fx_r (b := 42) F rfl) ?_
    refine e_aload_n aX7_takeNumber_11 rfl ?_
    refine e_getIF aX7_takeNumber_12 fX7_25 rfl (fx_is F rfl) t.2.2.1 ?_
    refine e_baloadF aX7_takeNumber_15 (fx_is F rfl) (fx_n (n := 120) F rfl) (vin (N := 120) (by omega)) (show hI h 42 (nI a).toNatClampNeg = hI h 42 a by rw [cl (by omega)]) ?_
    refine e_invsT aX7_takeNumber_16 kX7_41 (zX7_isDigit X _) rfl rfl (Nat.le_of_ble_eq_true rfl) (Nat.le_of_ble_eq_true rfl) (Nat.le_refl _) (Nat.le_refl _) (Nat.le_of_ble_eq_true rfl) ?_
    refine e_if_ne aX7_takeNumber_19 (fun c19 => ?_) (fun c19 => ?_)
    · -- 19: taken
      have q19 := Decidable.of_not_not (fun z => c19 (b2_0.mpr z))
      refine e_aload_n aX7_takeNumber_26 rfl ?_
      refine e_invvT aX7_takeNumber_27 kX7_45 (zX7_tokenNumber X F t) rfl rfl (fx_is F rfl) (Nat.le_of_ble_eq_true rfl) (Nat.le_of_ble_eq_true rfl) (Nat.le_refl _) (Nat.le_refl _) (Nat.le_of_ble_eq_true rfl) ?_
      refine e_istore aX7_takeNumber_30 (Nat.le_of_ble_eq_true rfl) ?_
      refine e_ls (ls' := [(0, some (vR (some 41))), (1, some (vI x)), (2, some (vI y)), (3, some (vI w)), (4, some (vI (tkN (hI h 42) l a e)))]) ⟨rfl, rfl, rfl, rfl, congrArg (fun x => some (vI x)) ((by unfold tkN; rw [if_pos (by omega), if_pos q19] : (tkN (hI h 42) l a e) = _).symm), trivial⟩ ?_
      exact tail
    · -- 19: not taken
      have q19 := b2_0.mp c19
      refine e_iconst (v := -1) aX7_takeNumber_22 (by decide) ?_
      refine e_goto aX7_takeNumber_23 ?_
      refine e_istore aX7_takeNumber_30 (Nat.le_of_ble_eq_true rfl) ?_
      refine e_ls (ls' := [(0, some (vR (some 41))), (1, some (vI x)), (2, some (vI y)), (3, some (vI w)), (4, some (vI (tkN (hI h 42) l a e)))]) ⟨rfl, rfl, rfl, rfl, congrArg (fun x => some (vI x)) ((by unfold tkN; rw [if_pos (by omega), if_neg q19] : (tkN (hI h 42) l a e) = _).symm), trivial⟩ ?_
      exact tail
