/-! contracts: Tape.takes (written by wip/whole/g41.py) -/
def mtR (bt : Nat → Int32) (a i : Nat) : Nat → Nat → Bool
  | _, 0 => true
  | j, m + 1 => if bt (a + j) = sCh i j then mtR bt a i (j + 1) m else false
theorem mtR_s {bt : Nat → Int32} {a i j m : Nat} : mtR bt a i j (m + 1) = if bt (a + j) = sCh i j then mtR bt a i (j + 1) m else false := rfl
/-- the TOKEN is string i -/
def tkP (bt : Nat → Int32) (a e i : Nat) : Bool := decide (e - a = sLn i) && mtR bt a i 0 (sLn i)
theorem zX7_takes (X : EX) {h : HP} (F : Fx h) {l a e : Nat} (t : TpC h l a e) {i : Nat} (hi9 : i < 18) : Ct X mX7_takes 5 0 0 [vR (some 41), vR (some (i + 8))] h (if (tkP (hI h 42) a e i) = true then Rt (vI 1) (tkH h (tkA (hI h 42) l e) (tkE (hI h 42) l (tkA (hI h 42) l e))) else Rt (vI 0) h) := by
  refine ct_of rfl (Nat.le_of_ble_eq_true rfl) ?_
  obtain ⟨-, t2, -, -, t5, t6⟩ := id t
  have hl9 := sLn_lt i hi9
  refine e_aload_n aX7_takes_0 rfl ?_
  refine e_getIF aX7_takes_1 fX7_19 rfl (fx_is F rfl) t.2.2.2.1 ?_
  refine e_aload_n aX7_takes_4 rfl ?_
  refine e_getIF aX7_takes_5 fX7_25 rfl (fx_is F rfl) t.2.2.1 ?_
  refine e_isub aX7_takes_8 ?_
  refine e_top (nI_subN t5) ?_
  refine e_aload_n aX7_takes_9 rfl ?_
  refine e_invj aX7_takes_10 ⟨okJ0_length_8abf5, npJ0_length_8abf5, rfl, kX7_28, wj_len1, wj_len2⟩ hi9 (zstr_len X hi9) rfl rfl (Nat.le_of_ble_eq_true rfl) (Nat.le_of_ble_eq_true rfl) (Nat.le_refl _) (Nat.le_refl _) (Nat.le_of_ble_eq_true rfl) ?_
  refine e_icmp_eq aX7_takes_13 (fun c13 => ?_) (fun c13 => ?_)
  · -- 13: taken
    have q13 : e - a = sLn i := (nI_eq (by omega) (by omega)).mp c13
    have loop : ∀ (m : Nat) (j : Nat), j + m = sLn i → mtR (hI h 42) a i j m = mtR (hI h 42) a i 0 (sLn i) → Ev X mX7_takes 5 0 0 (if (tkP (hI h 42) a e i) = true then Rt (vI 1) (tkH h (tkA (hI h 42) l e) (tkE (hI h 42) l (tkA (hI h 42) l e))) else Rt (vI 0) h) 0 0 20 [(0, some (vR (some 41))), (1, some (vR (some (i + 8)))), (2, some (vI (nI j)))] [] h := by
      intro m
      induction m with
      | zero =>
        intro j hj hR9
        obtain rfl : j = sLn i := by omega
        refine e_iload_n aX7_takes_20 rfl ?_
        refine e_aload_n aX7_takes_21 rfl ?_
        refine e_invj aX7_takes_22 ⟨okJ0_length_8abf5, npJ0_length_8abf5, rfl, kX7_28, wj_len1, wj_len2⟩ hi9 (zstr_len X hi9) rfl rfl (Nat.le_of_ble_eq_true rfl) (Nat.le_of_ble_eq_true rfl) (Nat.le_refl _) (Nat.le_refl _) (Nat.le_of_ble_eq_true rfl) ?_
        refine e_icmp_ge aX7_takes_25 (fun c25 => ?_) (fun c25 => ?_)
        · -- 25: taken
          refine e_aload_n aX7_takes_55 rfl ?_
          refine e_invvV aX7_takes_56 kX7_22 (zX7_step X F t.1 t.2.1 t.2.2.2.1 t.2.2.2.2.2) rfl rfl (fx_is F rfl) (Nat.le_of_ble_eq_true rfl) (Nat.le_of_ble_eq_true rfl) (Nat.le_refl _) (Nat.le_refl _) (Nat.le_of_ble_eq_true rfl) ?_
          refine e_iconst (v := 1) aX7_takes_59 (by decide) ?_
          refine e_zreturn aX7_takes_60 rfl (by decide) (Nat.le_refl _) (Nat.le_refl _) ?_
          have e9 : tkP (hI h 42) a e i = true := by unfold tkP; rw [decide_eq_true q13, ← hR9]; rfl
          rw [if_pos e9]
          exact ⟨rfl, rfl⟩
        · -- 25: not taken
          exact absurd (nI_le (by omega) (by omega)) c25
      | succ m ih =>
        intro j hj hR9
        refine e_iload_n aX7_takes_20 rfl ?_
        refine e_aload_n aX7_takes_21 rfl ?_
        refine e_invj aX7_takes_22 ⟨okJ0_length_8abf5, npJ0_length_8abf5, rfl, kX7_28, wj_len1, wj_len2⟩ hi9 (zstr_len X hi9) rfl rfl (Nat.le_of_ble_eq_true rfl) (Nat.le_of_ble_eq_true rfl) (Nat.le_refl _) (Nat.le_refl _) (Nat.le_of_ble_eq_true rfl) ?_
        refine e_icmp_ge aX7_takes_25 (fun c25 => ?_) (fun c25 => ?_)
        · -- 25: taken
          exact absurd c25 (nI_ge (by omega) (by omega))
        · -- 25: not taken
          refine e_aload_n aX7_takes_28 rfl ?_
          refine e_getRF aX7_takes_29 fX7_9 rfl (fx_is F rfl) (fx_r (b := 42) F rfl) ?_
          refine e_aload_n aX7_takes_32 rfl ?_
          refine e_getIF aX7_takes_33 fX7_25 rfl (fx_is F rfl) t.2.2.1 ?_
          refine e_iload_n aX7_takes_36 rfl ?_
          refine e_iadd aX7_takes_37 ?_
          refine e_top (nI_add a j) ?_
          refine e_baloadF aX7_takes_38 (fx_is F rfl) (fx_n (n := 120) F rfl) (vin (N := 120) (by omega)) (show hI h 42 (nI (a + j)).toNatClampNeg = hI h 42 (a + j) by rw [cl (by omega)]) ?_
          refine e_aload_n aX7_takes_39 rfl ?_
          refine e_iload_n aX7_takes_40 rfl ?_
          refine e_invj aX7_takes_41 ⟨okJ0_charAt_5068e, npJ0_charAt_5068e, rfl, kX7_33, wj_chr1, wj_chr2⟩ hi9 (zstr_ch X hi9 (j := j) (by omega)) rfl rfl (Nat.le_of_ble_eq_true rfl) (Nat.le_of_ble_eq_true rfl) (Nat.le_refl _) (Nat.le_refl _) (Nat.le_of_ble_eq_true rfl) ?_
          refine e_icmp_eq aX7_takes_44 (fun c44 => ?_) (fun c44 => ?_)
          · -- 44: taken
            have q44 : hI h 42 (a + j) = sCh i j := c44
            refine e_iinc aX7_takes_49 rfl rfl (Nat.le_of_ble_eq_true rfl) ?_
            refine e_goto aX7_takes_52 ?_
            refine e_ls (ls' := [(0, some (vR (some 41))), (1, some (vR (some (i + 8)))), (2, some (vI (nI (j + 1))))]) ⟨rfl, rfl, congrArg (fun x => some (vI x)) (nI_1 j), trivial⟩ ?_
            exact ih (j + 1) (by omega) (by rw [← hR9, mtR_s, if_pos q44])
          · -- 44: not taken
            have q44 : ¬ hI h 42 (a + j) = sCh i j := c44
            refine e_iconst (v := 0) aX7_takes_47 (by decide) ?_
            refine e_zreturn aX7_takes_48 rfl (by decide) (Nat.le_refl _) (Nat.le_refl _) ?_
            have e9 : ¬ tkP (hI h 42) a e i = true := by unfold tkP; rw [← hR9, mtR_s, if_neg q44, Bool.and_false]; decide
            rw [if_neg e9]
            exact ⟨rfl, rfl⟩
    refine e_iconst (v := 0) aX7_takes_18 (by decide) ?_
    refine e_istore_n aX7_takes_19 (Nat.le_of_ble_eq_true rfl) ?_
    refine e_ls (ls' := [(0, some (vR (some 41))), (1, some (vR (some (i + 8)))), (2, some (vI (nI 0)))]) ⟨rfl, rfl, rfl, trivial⟩ ?_
    exact loop (sLn i) 0 (by omega) rfl
  · -- 13: not taken
    have q13 : ¬ e - a = sLn i := fun z => c13 (by rw [z])
    refine e_iconst (v := 0) aX7_takes_16 (by decide) ?_
    refine e_zreturn aX7_takes_17 rfl (by decide) (Nat.le_refl _) (Nat.le_refl _) ?_
    have e9 : ¬ tkP (hI h 42) a e i = true := by unfold tkP; rw [decide_eq_false q13, Bool.false_and]; decide
    rw [if_neg e9]
    exact ⟨rfl, rfl⟩
