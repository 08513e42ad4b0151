/-! contracts: Tape, its TOKENs (written by wip/whole/g38.py) -/
def isLt (x : Int32) : Bool := decide (97 ≤ x ∧ x ≤ 122)
def isDt (x : Int32) : Bool := decide (48 ≤ x ∧ x ≤ 57)
def isSp (x : Int32) : Bool := decide (x = 32)
/-- where a run of bytes ends -/
def rnE (P : Int32 → Bool) (bt : Nat → Int32) : Nat → Nat → Nat
  | 0, a => a
  | m + 1, a => if P (bt a) = true then rnE P bt m (a + 1) else a
theorem rnE_s {P : Int32 → Bool} {bt : Nat → Int32} {m a : Nat} : rnE P bt (m + 1) a = if P (bt a) = true then rnE P bt m (a + 1) else a := rfl
theorem rnE_le {P : Int32 → Bool} {bt : Nat → Int32} : ∀ {m a : Nat}, a ≤ rnE P bt m a ∧ rnE P bt m a ≤ a + m := by
  intro m
  induction m with
  | zero => intro a; exact ⟨Nat.le_refl _, Nat.le_refl _⟩
  | succ m ih =>
    intro a
    rw [rnE_s]
    split
    · have := ih (a := a + 1)
      omega
    · omega
/-- the next TOKEN: its place and its end -/
def tkA (bt : Nat → Int32) (l e : Nat) : Nat := rnE isSp bt (l - e) e
def tkE (bt : Nat → Int32) (l a : Nat) : Nat := if a < l then (if isLt (bt a) = true then rnE isLt bt (l - (a + 1)) (a + 1) else if isDt (bt a) = true then rnE isDt bt (l - (a + 1)) (a + 1) else a + 1) else a
theorem tkA_le {bt : Nat → Int32} {l e : Nat} (h : e ≤ l) : e ≤ tkA bt l e ∧ tkA bt l e ≤ l := by
  have := rnE_le (P := isSp) (bt := bt) (m := l - e) (a := e)
  unfold tkA
  omega
theorem tkE_le {bt : Nat → Int32} {l a : Nat} (h : a ≤ l) : a ≤ tkE bt l a ∧ tkE bt l a ≤ l := by
  have h1 := rnE_le (P := isLt) (bt := bt) (m := l - (a + 1)) (a := a + 1)
  have h2 := rnE_le (P := isDt) (bt := bt) (m := l - (a + 1)) (a := a + 1)
  unfold tkE
  split
  · split
    · omega
    · split
      · omega
      · omega
  · omega
def tkH (h : HP) (a e : Nat) : HP := wI (wI h 41 2 (nI a)) 41 3 (nI e)
theorem wI_2 {h : HP} {a i : Nat} {x v : Int32} : wI (wI h a i x) a i v = wI h a i v := by
  unfold wI
  congr 1
  funext b j
  unfold up2
  by_cases z : b = a ∧ j = i
  · rw [if_pos z, if_pos z]
  · rw [if_neg z, if_neg z]
    exact if_neg z
theorem tkH_1 {h : HP} {a e : Nat} : hI (tkH h a e) 41 1 = hI h 41 1 := (wI_i (by decide)).trans (wI_i (by decide))
theorem tkH_2 {h : HP} {a e : Nat} : hI (tkH h a e) 41 2 = nI a := (wI_i (by decide)).trans wI_s
theorem tkH_b {h : HP} {a e x i : Nat} (z : x ≠ 41) : hI (tkH h a e) x i = hI h x i := (wI_a z).trans (wI_a z)
/-- THE TAPE and the TOKEN that is looked at -/
def TpC (h : HP) (l a e : Nat) : Prop := hI h 41 1 = nI l ∧ l ≤ 120 ∧ hI h 41 2 = nI a ∧ hI h 41 3 = nI e ∧ a ≤ e ∧ e ≤ l
theorem zX7_isLetter (X : EX) {h : HP} (x : Int32) : Ct X mX7_isLetter 0 0 0 [vI x] h (Rt (vI (b2 (isLt x = true))) h) := by
  refine ct_of rfl (Nat.le_of_ble_eq_true rfl) ?_
  refine e_iload_n aX7_isLetter_0 rfl ?_
  refine e_bipush (v := 97) aX7_isLetter_1 (by decide) ?_
  refine e_icmp_lt aX7_isLetter_3 (fun c3 => ?_) (fun c3 => ?_)
  · -- 3: taken
    have q3 : ¬ isLt x = true := fun z => absurd (of_decide_eq_true z).1 (Int32.not_le.mpr c3)
    refine e_iconst (v := 0) aX7_isLetter_16 (by decide) ?_
    refine e_zreturn aX7_isLetter_17 rfl (by decide) (Nat.le_refl _) (Nat.le_refl _) ?_
    exact ⟨by rw [b2_f q3] <;> rfl, rfl⟩
  · -- 3: not taken
    skip
    refine e_iload_n aX7_isLetter_6 rfl ?_
    refine e_bipush (v := 122) aX7_isLetter_7 (by decide) ?_
    refine e_icmp_gt aX7_isLetter_9 (fun c9 => ?_) (fun c9 => ?_)
    · -- 9: taken
      have q3 : ¬ isLt x = true := fun z => absurd (of_decide_eq_true z).2 (Int32.not_le.mpr c9)
      refine e_iconst (v := 0) aX7_isLetter_16 (by decide) ?_
      refine e_zreturn aX7_isLetter_17 rfl (by decide) (Nat.le_refl _) (Nat.le_refl _) ?_
      exact ⟨by rw [b2_f q3] <;> rfl, rfl⟩
    · -- 9: not taken
      have q3 : isLt x = true := decide_eq_true ⟨Int32.not_lt.mp c3, Int32.not_lt.mp c9⟩
      refine e_iconst (v := 1) aX7_isLetter_12 (by decide) ?_
      refine e_goto aX7_isLetter_13 ?_
      refine e_zreturn aX7_isLetter_17 rfl (by decide) (Nat.le_refl _) (Nat.le_refl _) ?_
      exact ⟨by rw [b2_t q3] <;> rfl, rfl⟩
theorem zX7_isDigit (X : EX) {h : HP} (x : Int32) : Ct X mX7_isDigit 0 0 0 [vI x] h (Rt (vI (b2 (isDt x = true))) h) := by
  refine ct_of rfl (Nat.le_of_ble_eq_true rfl) ?_
  refine e_iload_n aX7_isDigit_0 rfl ?_
  refine e_bipush (v := 48) aX7_isDigit_1 (by decide) ?_
  refine e_icmp_lt aX7_isDigit_3 (fun c3 => ?_) (fun c3 => ?_)
  · -- 3: taken
    have q3 : ¬ isDt x = true := fun z => absurd (of_decide_eq_true z).1 (Int32.not_le.mpr c3)
    refine e_iconst (v := 0) aX7_isDigit_16 (by decide) ?_
    refine e_zreturn aX7_isDigit_17 rfl (by decide) (Nat.le_refl _) (Nat.le_refl _) ?_
    exact ⟨by rw [b2_f q3] <;> rfl, rfl⟩
  · -- 3: not taken
    skip
    refine e_iload_n aX7_isDigit_6 rfl ?_
    refine e_bipush (v := 57) aX7_isDigit_7 (by decide) ?_
    refine e_icmp_gt aX7_isDigit_9 (fun c9 => ?_) (fun c9 => ?_)
    · -- 9: taken
      have q3 : ¬ isDt x = true := fun z => absurd (of_decide_eq_true z).2 (Int32.not_le.mpr c9)
      refine e_iconst (v := 0) aX7_isDigit_16 (by decide) ?_
      refine e_zreturn aX7_isDigit_17 rfl (by decide) (Nat.le_refl _) (Nat.le_refl _) ?_
      exact ⟨by rw [b2_f q3] <;> rfl, rfl⟩
    · -- 9: not taken
      have q3 : isDt x = true := decide_eq_true ⟨Int32.not_lt.mp c3, Int32.not_lt.mp c9⟩
      refine e_iconst (v := 1) aX7_isDigit_12 (by decide) ?_
      refine e_goto aX7_isDigit_13 ?_
      refine e_zreturn aX7_isDigit_17 rfl (by decide) (Nat.le_refl _) (Nat.le_refl _) ?_
      exact ⟨by rw [b2_t q3] <;> rfl, rfl⟩
theorem zX7_step (X : EX) {h : HP} (F : Fx h) {l e : Nat} (hl : hI h 41 1 = nI l) (h120 : l ≤ 120) (he : hI h 41 3 = nI e) (hel : e ≤ l) : Ct X mX7_step 1 0 0 [vR (some 41)] h (Rv (tkH h (tkA (hI h 42) l e) (tkE (hI h 42) l (tkA (hI h 42) l e)))) := by
  refine ct_of rfl (Nat.le_of_ble_eq_true rfl) ?_
  have tail : ∀ a, a ≤ l → Ev X mX7_step 1 0 0 (Rv (tkH h a (tkE (hI h 42) l a))) 0 0 30 [(0, some (vR (some 41))), (1, some (vI (nI a)))] [] h := by
    intro a hal
    have loopL : ∀ (m : Nat) (e2 : Nat), e2 + m = l → rnE isLt (hI h 42) m e2 = tkE (hI h 42) l a → Ev X mX7_step 1 0 0 (Rv (tkH h a (tkE (hI h 42) l a))) 0 0 74 [(0, some (vR (some 41)))] [] (tkH h a e2) := by
      intro m
      induction m with
      | zero =>
        intro e2 he2 hR9
        obtain rfl : e2 = l := by omega
        refine e_aload_n aX7_step_74 rfl ?_
        refine e_getIF aX7_step_75 fX7_19 rfl (fx_is F rfl) wI_s ?_
        refine e_aload_n aX7_step_78 rfl ?_
        refine e_getIF aX7_step_79 fX7_15 rfl (fx_is F rfl) (tkH_1.trans hl) ?_
        refine e_icmp_ge aX7_step_82 (fun c82 => ?_) (fun c82 => ?_)
        · -- 82: taken
          refine e_return aX7_step_172 rfl (Nat.le_refl _) (Nat.le_refl _) ?_
          exact ⟨rfl, by rw [← hR9] <;> rfl⟩
        · -- 82: not taken
          exact absurd (nI_le (by omega) (by omega)) c82
      | succ m ih =>
        intro e2 he2 hR9
        refine e_aload_n aX7_step_74 rfl ?_
        refine e_getIF aX7_step_75 fX7_19 rfl (fx_is F rfl) wI_s ?_
        refine e_aload_n aX7_step_78 rfl ?_
        refine e_getIF aX7_step_79 fX7_15 rfl (fx_is F rfl) (tkH_1.trans hl) ?_
        refine e_icmp_ge aX7_step_82 (fun c82 => ?_) (fun c82 => ?_)
        · -- 82: taken
          exact absurd c82 (nI_ge (by omega) (by omega))
        · -- 82: not taken
          refine e_aload_n aX7_step_85 rfl ?_
          refine e_getRF aX7_step_86 fX7_9 rfl (fx_is F rfl) (fx_r (b := 42) F rfl) ?_
          refine e_aload_n aX7_step_89 rfl ?_
          refine e_getIF aX7_step_90 fX7_19 rfl (fx_is F rfl) wI_s ?_
          refine e_baloadF aX7_step_93 (fx_is F rfl) (fx_n (n := 120) F rfl) (vin (N := 120) (by omega)) (show hI (tkH h a e2) 42 (nI e2).toNatClampNeg = hI h 42 e2 by rw [cl (by omega)]; exact tkH_b (by decide)) ?_
          refine e_invsT aX7_step_94 kX7_54 (zX7_isLetter X _) rfl rfl (Nat.le_of_ble_eq_true rfl) (Nat.le_of_ble_eq_true rfl) (Nat.le_refl _) (Nat.le_refl _) (Nat.le_of_ble_eq_true rfl) ?_
          refine e_if_eq aX7_step_97 (fun c97 => ?_) (fun c97 => ?_)
          · -- 97: taken
            have q97 := b2_0.mp c97
            refine e_return aX7_step_172 rfl (Nat.le_refl _) (Nat.le_refl _) ?_
            exact ⟨rfl, by rw [← hR9, rnE_s, if_neg q97]⟩
          · -- 97: not taken
            have q97 := Decidable.of_not_not (fun z => c97 (b2_0.mpr z))
            refine e_aload_n aX7_step_100 rfl ?_
            refine e_dup aX7_step_101 rfl ?_
            refine e_getIF aX7_step_102 fX7_19 rfl (fx_is F rfl) wI_s ?_
            refine e_iconst (v := 1) aX7_step_105 (by decide) ?_
            refine e_iadd aX7_step_106 ?_
            refine e_top (nI_1 e2) ?_
            refine e_putI aX7_step_107 fX7_19 rfl (fx_is F rfl) (Or.inl rfl) ?_
            refine e_goto aX7_step_110 ?_
            refine e_ls (ls' := [(0, some (vR (some 41)))]) ⟨rfl, trivial⟩ ?_
            refine e_hp (h2 := (tkH h a (e2 + 1))) wI_2 ?_
            exact ih (e2 + 1) (by omega) (by rw [← hR9, rnE_s, if_pos q97])
    have loopD : ∀ (m : Nat) (e2 : Nat), e2 + m = l → rnE isDt (hI h 42) m e2 = tkE (hI h 42) l a → Ev X mX7_step 1 0 0 (Rv (tkH h a (tkE (hI h 42) l a))) 0 0 133 [(0, some (vR (some 41)))] [] (tkH h a e2) := by
      intro m
      induction m with
      | zero =>
        intro e2 he2 hR9
        obtain rfl : e2 = l := by omega
        refine e_aload_n aX7_step_133 rfl ?_
        refine e_getIF aX7_step_134 fX7_19 rfl (fx_is F rfl) wI_s ?_
        refine e_aload_n aX7_step_137 rfl ?_
        refine e_getIF aX7_step_138 fX7_15 rfl (fx_is F rfl) (tkH_1.trans hl) ?_
        refine e_icmp_ge aX7_step_141 (fun c141 => ?_) (fun c141 => ?_)
        · -- 141: taken
          refine e_return aX7_step_172 rfl (Nat.le_refl _) (Nat.le_refl _) ?_
          exact ⟨rfl, by rw [← hR9] <;> rfl⟩
        · -- 141: not taken
          exact absurd (nI_le (by omega) (by omega)) c141
      | succ m ih =>
        intro e2 he2 hR9
        refine e_aload_n aX7_step_133 rfl ?_
        refine e_getIF aX7_step_134 fX7_19 rfl (fx_is F rfl) wI_s ?_
        refine e_aload_n aX7_step_137 rfl ?_
        refine e_getIF aX7_step_138 fX7_15 rfl (fx_is F rfl) (tkH_1.trans hl) ?_
        refine e_icmp_ge aX7_step_141 (fun c141 => ?_) (fun c141 => ?_)
        · -- 141: taken
          exact absurd c141 (nI_ge (by omega) (by omega))
        · -- 141: not taken
          refine e_aload_n aX7_step_144 rfl ?_
          refine e_getRF aX7_step_145 fX7_9 rfl (fx_is F rfl) (fx_r (b := 42) F rfl) ?_
          refine e_aload_n aX7_step_148 rfl ?_
          refine e_getIF aX7_step_149 fX7_19 rfl (fx_is F rfl) wI_s ?_
          refine e_baloadF aX7_step_152 (fx_is F rfl) (fx_n (n := 120) F rfl) (vin (N := 120) (by omega)) (show hI (tkH h a e2) 42 (nI e2).toNatClampNeg = hI h 42 e2 by rw [cl (by omega)]; exact tkH_b (by decide)) ?_
          refine e_invsT aX7_step_153 kX7_41 (zX7_isDigit X _) rfl rfl (Nat.le_of_ble_eq_true rfl) (Nat.le_of_ble_eq_true rfl) (Nat.le_refl _) (Nat.le_refl _) (Nat.le_of_ble_eq_true rfl) ?_
          refine e_if_eq aX7_step_156 (fun c156 => ?_) (fun c156 => ?_)
          · -- 156: taken
            have q156 := b2_0.mp c156
            refine e_return aX7_step_172 rfl (Nat.le_refl _) (Nat.le_refl _) ?_
            exact ⟨rfl, by rw [← hR9, rnE_s, if_neg q156]⟩
          · -- 156: not taken
            have q156 := Decidable.of_not_not (fun z => c156 (b2_0.mpr z))
            refine e_aload_n aX7_step_159 rfl ?_
            refine e_dup aX7_step_160 rfl ?_
            refine e_getIF aX7_step_161 fX7_19 rfl (fx_is F rfl) wI_s ?_
            refine e_iconst (v := 1) aX7_step_164 (by decide) ?_
            refine e_iadd aX7_step_165 ?_
            refine e_top (nI_1 e2) ?_
            refine e_putI aX7_step_166 fX7_19 rfl (fx_is F rfl) (Or.inl rfl) ?_
            refine e_goto aX7_step_169 ?_
            refine e_ls (ls' := [(0, some (vR (some 41)))]) ⟨rfl, trivial⟩ ?_
            refine e_hp (h2 := (tkH h a (e2 + 1))) wI_2 ?_
            exact ih (e2 + 1) (by omega) (by rw [← hR9, rnE_s, if_pos q156])
    refine e_aload_n aX7_step_30 rfl ?_
    refine e_iload_n aX7_step_31 rfl ?_
    refine e_putI aX7_step_32 fX7_25 rfl (fx_is F rfl) (Or.inl rfl) ?_
    refine e_aload_n aX7_step_35 rfl ?_
    refine e_iload_n aX7_step_36 rfl ?_
    refine e_aload_n aX7_step_37 rfl ?_
    refine e_getIF aX7_step_38 fX7_15 rfl (fx_is F rfl) ((wI_i (by decide)).trans hl) ?_
    refine e_icmp_ge aX7_step_41 (fun c41 => ?_) (fun c41 => ?_)
    · -- 41: taken
      have q41 : ¬ a < l := Nat.not_lt.mpr ((nI_leI (a := l) (b := a) (by omega) (by omega)).mp c41)
      refine e_iload_n aX7_step_50 rfl ?_
      refine e_putI aX7_step_51 fX7_19 rfl (fx_is F rfl) (Or.inl rfl) ?_
      refine e_iload_n aX7_step_54 rfl ?_
      refine e_aload_n aX7_step_55 rfl ?_
      refine e_getIF aX7_step_56 fX7_15 rfl (fx_is F rfl) ((wI_i (by decide)).trans ((wI_i (by decide)).trans hl)) ?_
      refine e_icmp_ge aX7_step_59 (fun c59 => ?_) (fun c59 => ?_)
      · -- 59: taken
        skip
        refine e_iload_n aX7_step_113 rfl ?_
        refine e_aload_n aX7_step_114 rfl ?_
        refine e_getIF aX7_step_115 fX7_15 rfl (fx_is F rfl) ((wI_i (by decide)).trans ((wI_i (by decide)).trans hl)) ?_
        refine e_icmp_ge aX7_step_118 (fun c118 => ?_) (fun c118 => ?_)
        · -- 118: taken
          skip
          refine e_return aX7_step_172 rfl (Nat.le_refl _) (Nat.le_refl _) ?_
          exact ⟨rfl, by unfold tkE; rw [if_neg q41] <;> rfl⟩
        · -- 118: not taken
          exact absurd (nI_le (by omega) (by omega)) c118
      · -- 59: not taken
        exact absurd (nI_le (by omega) (by omega)) c59
    · -- 41: not taken
      have q41 : a < l := Nat.not_le.mp ((not_congr (nI_leI (a := l) (b := a) (by omega) (by omega))).mp c41)
      refine e_iload_n aX7_step_44 rfl ?_
      refine e_iconst (v := 1) aX7_step_45 (by decide) ?_
      refine e_iadd aX7_step_46 ?_
      refine e_top (nI_1 a) ?_
      refine e_goto aX7_step_47 ?_
      refine e_putI aX7_step_51 fX7_19 rfl (fx_is F rfl) (Or.inl rfl) ?_
      refine e_iload_n aX7_step_54 rfl ?_
      refine e_aload_n aX7_step_55 rfl ?_
      refine e_getIF aX7_step_56 fX7_15 rfl (fx_is F rfl) ((wI_i (by decide)).trans ((wI_i (by decide)).trans hl)) ?_
      refine e_icmp_ge aX7_step_59 (fun c59 => ?_) (fun c59 => ?_)
      · -- 59: taken
        exact absurd (nI_lt (a := a) (b := l) q41 (by omega)) (Int32.not_lt.mpr c59)
      · -- 59: not taken
        skip
        refine e_aload_n aX7_step_62 rfl ?_
        refine e_getRF aX7_step_63 fX7_9 rfl (fx_is F rfl) (fx_r (b := 42) F rfl) ?_
        refine e_iload_n aX7_step_66 rfl ?_
        refine e_baloadF aX7_step_67 (fx_is F rfl) (fx_n (n := 120) F rfl) (vin (N := 120) (by omega)) ((congrArg (hI _ 42) (cl (n := a) (by omega))).trans ((wI_a (by decide)).trans (wI_a (by decide)))) ?_
        refine e_invsT aX7_step_68 kX7_54 (zX7_isLetter X _) rfl rfl (Nat.le_of_ble_eq_true rfl) (Nat.le_of_ble_eq_true rfl) (Nat.le_refl _) (Nat.le_refl _) (Nat.le_of_ble_eq_true rfl) ?_
        refine e_if_eq aX7_step_71 (fun c71 => ?_) (fun c71 => ?_)
        · -- 71: taken
          have q71 := b2_0.mp c71
          refine e_iload_n aX7_step_113 rfl ?_
          refine e_aload_n aX7_step_114 rfl ?_
          refine e_getIF aX7_step_115 fX7_15 rfl (fx_is F rfl) ((wI_i (by decide)).trans ((wI_i (by decide)).trans hl)) ?_
          refine e_icmp_ge aX7_step_118 (fun c118 => ?_) (fun c118 => ?_)
          · -- 118: taken
            exact absurd (nI_lt (a := a) (b := l) q41 (by omega)) (Int32.not_lt.mpr c118)
          · -- 118: not taken
            skip
            refine e_aload_n aX7_step_121 rfl ?_
            refine e_getRF aX7_step_122 fX7_9 rfl (fx_is F rfl) (fx_r (b := 42) F rfl) ?_
            refine e_iload_n aX7_step_125 rfl ?_
            refine e_baloadF aX7_step_126 (fx_is F rfl) (fx_n (n := 120) F rfl) (vin (N := 120) (by omega)) ((congrArg (hI _ 42) (cl (n := a) (by omega))).trans ((wI_a (by decide)).trans (wI_a (by decide)))) ?_
            refine e_invsT aX7_step_127 kX7_41 (zX7_isDigit X _) rfl rfl (Nat.le_of_ble_eq_true rfl) (Nat.le_of_ble_eq_true rfl) (Nat.le_refl _) (Nat.le_refl _) (Nat.le_of_ble_eq_true rfl) ?_
            refine e_if_eq aX7_step_130 (fun c130 => ?_) (fun c130 => ?_)
            · -- 130: taken
              have q130 := b2_0.mp c130
              refine e_return aX7_step_172 rfl (Nat.le_refl _) (Nat.le_refl _) ?_
              exact ⟨rfl, by unfold tkE; rw [if_pos q41, if_neg q71, if_neg q130] <;> rfl⟩
            · -- 130: not taken
              have q130 := Decidable.of_not_not (fun z => c130 (b2_0.mpr z))
              refine e_ls (ls' := [(0, some (vR (some 41)))]) ⟨rfl, trivial⟩ ?_
              refine e_hp (h2 := tkH h a (a + 1)) rfl ?_
              exact loopD (l - (a + 1)) (a + 1) (by omega) (by unfold tkE; rw [if_pos q41, if_neg q71, if_pos q130])
        · -- 71: not taken
          have q71 := Decidable.of_not_not (fun z => c71 (b2_0.mpr z))
          refine e_ls (ls' := [(0, some (vR (some 41)))]) ⟨rfl, trivial⟩ ?_
          refine e_hp (h2 := tkH h a (a + 1)) rfl ?_
          exact loopL (l - (a + 1)) (a + 1) (by omega) (by unfold tkE; rw [if_pos q41, if_pos q71])
  have loop : ∀ (m : Nat) (a2 : Nat), a2 + m = l → rnE isSp (hI h 42) m a2 = (tkA (hI h 42) l e) → Ev X mX7_step 1 0 0 (Rv (tkH h (tkA (hI h 42) l e) (tkE (hI h 42) l (tkA (hI h 42) l e)))) 0 0 5 [(0, some (vR (some 41))), (1, some (vI (nI a2)))] [] h := by
    intro m
    induction m with
    | zero =>
      intro a2 ha2 hR9
      obtain rfl : a2 = l := by omega
      refine e_iload_n aX7_step_5 rfl ?_
      refine e_aload_n aX7_step_6 rfl ?_
      refine e_getIF aX7_step_7 fX7_15 rfl (fx_is F rfl) hl ?_
      refine e_icmp_ge aX7_step_10 (fun c10 => ?_) (fun c10 => ?_)
      · -- 10: taken
        rw [← hR9]
        exact tail a2 (by omega)
      · -- 10: not taken
        exact absurd (nI_le (by omega) (by omega)) c10
    | succ m ih =>
      intro a2 ha2 hR9
      refine e_iload_n aX7_step_5 rfl ?_
      refine e_aload_n aX7_step_6 rfl ?_
      refine e_getIF aX7_step_7 fX7_15 rfl (fx_is F rfl) hl ?_
      refine e_icmp_ge aX7_step_10 (fun c10 => ?_) (fun c10 => ?_)
      · -- 10: taken
        exact absurd c10 (nI_ge (by omega) (by omega))
      · -- 10: not taken
        refine e_aload_n aX7_step_13 rfl ?_
        refine e_getRF aX7_step_14 fX7_9 rfl (fx_is F rfl) (fx_r (b := 42) F rfl) ?_
        refine e_iload_n aX7_step_17 rfl ?_
        refine e_baloadF aX7_step_18 (fx_is F rfl) (fx_n (n := 120) F rfl) (vin (N := 120) (by omega)) (show hI h 42 (nI a2).toNatClampNeg = hI h 42 a2 by rw [cl (by omega)]) ?_
        refine e_bipush (v := 32) aX7_step_19 (by decide) ?_
        refine e_icmp_ne aX7_step_21 (fun c21 => ?_) (fun c21 => ?_)
        · -- 21: taken
          have q21 : ¬ isSp (hI h 42 a2) = true := fun z => c21 (of_decide_eq_true z)
          rw [← hR9, rnE_s, if_neg q21]
          exact tail a2 (by omega)
        · -- 21: not taken
          have q21 : isSp (hI h 42 a2) = true := decide_eq_true c21
          refine e_iinc aX7_step_24 rfl rfl (Nat.le_of_ble_eq_true rfl) ?_
          refine e_goto aX7_step_27 ?_
          refine e_ls (ls' := [(0, some (vR (some 41))), (1, some (vI (nI (a2 + 1))))]) ⟨rfl, congrArg (fun x => some (vI x)) (nI_1 a2), trivial⟩ ?_
          exact ih (a2 + 1) (by omega) (by rw [← hR9, rnE_s, if_pos q21])
  refine e_aload_n aX7_step_0 rfl ?_
  refine e_getIF aX7_step_1 fX7_19 rfl (fx_is F rfl) he ?_
  refine e_istore_n aX7_step_4 (Nat.le_of_ble_eq_true rfl) ?_
  refine e_ls (ls' := [(0, some (vR (some 41))), (1, some (vI (nI e)))]) ⟨rfl, rfl, trivial⟩ ?_
  exact loop (l - e) e (by omega) rfl
