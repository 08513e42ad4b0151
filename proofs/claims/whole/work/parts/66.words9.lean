/-! the reference: words, signs, numbers (written by wip/whole/g66.py) -/
def TkI (bt : Nat → Int32) (l : Nat) (p : PT) : Prop := okp l p ∧ (∀ i, p.1 ≤ i → i < p.2 → (isLt (bt p.1) = true → isLt (bt i) = true) ∧ (isDt (bt p.1) = true → isDt (bt i) = true)) ∧ (p.1 < l → p.1 < p.2) ∧ (p.1 < l → isLt (bt p.1) = false → isDt (bt p.1) = false → p.2 = p.1 + 1)
theorem rnE_P {P : Int32 → Bool} {bt : Nat → Int32} : ∀ {m a i : Nat}, a ≤ i → i < rnE P bt m a → P (bt i) = true := by
  intro m
  induction m with
  | zero => intro a i h1 h2; exact absurd h2 (Nat.not_lt.mpr h1)
  | succ m ih =>
    intro a i h1 h2
    rw [rnE_s] at h2
    split at h2
    · rename_i z
      by_cases e : i = a
      · rw [e]; exact z
      · exact ih (by omega) h2
    · omega
theorem TkI_n {bt : Nat → Int32} {l : Nat} {p : PT} (z : p.2 ≤ l) : TkI bt l (nxT bt l p) := by
  have h1 := tkA_le (bt := bt) z
  have h2 := tkE_le (bt := bt) h1.2
  refine ⟨h2, ?_⟩
  show (∀ i, tkA bt l p.2 ≤ i → i < tkE bt l (tkA bt l p.2) → _) ∧ (tkA bt l p.2 < l → tkA bt l p.2 < tkE bt l (tkA bt l p.2)) ∧ (tkA bt l p.2 < l → isLt (bt (tkA bt l p.2)) = false → isDt (bt (tkA bt l p.2)) = false → tkE bt l (tkA bt l p.2) = tkA bt l p.2 + 1)
  show (∀ i, tkA bt l p.2 ≤ i → i < tkE bt l (tkA bt l p.2) → (isLt (bt (tkA bt l p.2)) = true → isLt (bt i) = true) ∧ (isDt (bt (tkA bt l p.2)) = true → isDt (bt i) = true)) ∧ _
  generalize tkA bt l p.2 = a at h1 h2
  have hL := rnE_le (P := isLt) (bt := bt) (m := l - (a + 1)) (a := a + 1)
  have hD := rnE_le (P := isDt) (bt := bt) (m := l - (a + 1)) (a := a + 1)
  unfold tkE
  by_cases q : a < l
  · rw [if_pos q]
    by_cases q1 : isLt (bt a) = true
    · rw [if_pos q1]
      refine ⟨fun i i1 i2 => ⟨fun _ => ?_, fun w => absurd (Lt_D q1) (by rw [w]; decide)⟩, fun _ => by omega, fun _ w => absurd q1 (by rw [w]; decide)⟩
      by_cases e : i = a
      · rw [e]; exact q1
      · exact rnE_P (by omega) i2
    · rw [if_neg q1]
      by_cases q2 : isDt (bt a) = true
      · rw [if_pos q2]
        refine ⟨fun i i1 i2 => ⟨fun w => absurd w q1, fun _ => ?_⟩, fun _ => by omega, fun _ _ w => absurd q2 (by rw [w]; decide)⟩
        by_cases e : i = a
        · rw [e]; exact q2
        · exact rnE_P (by omega) i2
      · rw [if_neg q2]
        exact ⟨fun i i1 i2 => ⟨fun w => absurd w q1, fun w => absurd w q2⟩, fun _ => by omega, fun _ _ _ => rfl⟩
  · rw [if_neg q]
    exact ⟨fun i i1 i2 => absurd i2 (by omega), fun w => absurd w q, fun w => absurd w q⟩
/-- the words' places among the class's strings -/
def wix (w : Nat) : Nat := [0, 1, 2, 3, 4, 5, 6, 7, 8, 16, 15, 9, 13, 14, 12].getD w 0
theorem wd_f : ∀ w, w < 15 → ∀ k, k < 6 → (k < sLn (wix w) → wdL.getD (6 * w + k) 0 = sCh (wix w) k ∧ isLt (sCh (wix w) k) = true) ∧ (¬ k < sLn (wix w) → wdL.getD (6 * w + k) 0 = 32) := by decide +kernel
theorem wd_l : ∀ w, w < 15 → 1 ≤ sLn (wix w) ∧ sLn (wix w) ≤ 6 ∧ isLt (sCh (wix w) 0) = true := by decide +kernel
theorem mtR_i {bt : Nat → Int32} {a i : Nat} : ∀ {m j : Nat}, mtR bt a i j m = true ↔ ∀ x, j ≤ x → x < j + m → bt (a + x) = sCh i x := by
  intro m
  induction m with
  | zero => intro j; exact ⟨fun _ x h1 h2 => absurd h2 (by omega), fun _ => rfl⟩
  | succ m ih =>
    intro j
    rw [mtR_s]
    by_cases z : bt (a + j) = sCh i j
    · rw [if_pos z, ih]
      refine ⟨fun h x h1 h2 => ?_, fun h x h1 h2 => h x (by omega) (by omega)⟩
      by_cases e : x = j
      · rw [e]; exact z
      · exact h x (by omega) (by omega)
    · rw [if_neg z]
      exact ⟨fun h => absurd h (by decide), fun h => absurd (h j (Nat.le_refl _) (by omega)) z⟩
theorem tkQ_i {bt : Nat → Int32} {p : PT} {i : Nat} : tkQ bt p i = true ↔ p.2 - p.1 = sLn i ∧ ∀ x, x < sLn i → bt (p.1 + x) = sCh i x := by
  unfold tkQ tkP
  rw [Bool.and_eq_true, mtR_i]
  exact ⟨fun h => ⟨of_decide_eq_true h.1, fun x hx => h.2 x (Nat.zero_le _) (by omega)⟩, fun h => ⟨decide_eq_true h.1, fun x _ hx => h.2 x (by omega)⟩⟩
theorem Lt_b {x : Int32} (h : isLt x = true) : 0 ≤ x ∧ x ≤ 127 ∧ x ≠ 32 := by
  have h1 := of_decide_eq_true h
  exact ⟨Int32.le_trans (by decide) h1.1, Int32.le_trans h1.2 (by decide), fun e => absurd h1.1 (by rw [e]; decide)⟩
/-- one letter of a word matches -/
def mE (bt : Nat → Int32) (p : PT) (w j : Nat) : Prop := wdL.getD (6 * w + j) 0 = if p.1 + j < p.2 then ubv (bt (p.1 + j)) else 32
theorem word_T {bt : Nat → Int32} {l w : Nat} {p : PT} (hw : w < 15) (hb : ∀ i, i < l → inB (bt i)) (tk : TkI bt l p) (hL : isLt (bt p.1) = true) (h6 : p.2 - p.1 ≤ 6) (hm : ∀ j, j < 6 → mE bt p w j) : tkQ bt p (wix w) = true := by
  have hl := wd_l w hw
  obtain ⟨ok, tl, -, -⟩ := tk
  have ok1 := ok.1
  have ok2 := ok.2
  have e : p.2 - p.1 = sLn (wix w) := by
    rcases Nat.lt_trichotomy (p.2 - p.1) (sLn (wix w)) with z | z | z
    · have h1 := hm (p.2 - p.1) (by omega)
      unfold mE at h1
      rw [if_neg (by omega)] at h1
      have h2 := ((wd_f w hw (p.2 - p.1) (by omega)).1 z)
      rw [h1] at h2
      exact absurd h2.1.symm (Lt_b h2.2).2.2
    · exact z
    · have h1 := hm (sLn (wix w)) (by omega)
      unfold mE at h1
      rw [if_pos (by omega), (wd_f w hw (sLn (wix w)) (by omega)).2 (by omega)] at h1
      have h2 := (tl (p.1 + sLn (wix w)) (by omega) (by omega)).1 hL
      have h3 := (ubv_c (hb (p.1 + sLn (wix w)) (by omega)) (y := 32) (by decide) (by decide)).mp h1.symm
      exact absurd h3 (Lt_b h2).2.2
  refine tkQ_i.mpr ⟨e, fun x hx => ?_⟩
  have h1 := hm x (by omega)
  unfold mE at h1
  have h2 := (wd_f w hw x (by omega)).1 hx
  rw [if_pos (by omega), h2.1] at h1
  have h3 := Lt_b h2.2
  exact (ubv_c (hb _ (by omega)) h3.1 h3.2.1).mp h1.symm
theorem word_F {bt : Nat → Int32} {l w : Nat} {p : PT} (hw : w < 15) (hb : ∀ i, i < l → inB (bt i)) (tk : TkI bt l p) (h : tkQ bt p (wix w) = true) : isLt (bt p.1) = true ∧ p.2 - p.1 ≤ 6 ∧ ∀ j, j < 6 → mE bt p w j := by
  have hl := wd_l w hw
  obtain ⟨h1, h2⟩ := tkQ_i.mp h
  have ok1 := tk.1.1
  have ok2 := tk.1.2
  refine ⟨by rw [show bt p.1 = _ from h2 0 (by omega)]; exact hl.2.2, by omega, fun j hj => ?_⟩
  unfold mE
  by_cases z : j < sLn (wix w)
  · have h3 := (wd_f w hw j hj).1 z
    have h4 := Lt_b h3.2
    rw [if_pos (by omega), h3.1]
    exact ((ubv_c (hb _ (by omega)) h4.1 h4.2.1).mpr (h2 j z)).symm
  · rw [if_neg (by omega)]
    exact (wd_f w hw j hj).2 z
theorem tkQ_lt {bt : Nat → Int32} {l w : Nat} {p : PT} (hw : w < 15) (tk : TkI bt l p) (h : tkQ bt p (wix w) = true) : p.1 < l := by
  have hl := wd_l w hw
  have h1 := (tkQ_i.mp h).1
  have ok2 := tk.1.2
  omega
theorem byM_L {bt : Nat → Int32} {l a : Nat} (hb : ∀ i, i < l → inB (bt i)) : isLt (byM bt l a) = true ↔ isLt (bt a) = true ∧ a < l := by
  by_cases z : a < l
  · rw [byM_in z, ubv_L (hb a z)]; exact ⟨fun h => ⟨h, z⟩, fun h => h.1⟩
  · rw [byM_out z]; exact ⟨fun h => absurd h (by decide), fun h => absurd h.2 z⟩
theorem byM_D {bt : Nat → Int32} {l a : Nat} (hb : ∀ i, i < l → inB (bt i)) : isDt (byM bt l a) = true ↔ isDt (bt a) = true ∧ a < l := by
  by_cases z : a < l
  · rw [byM_in z, ubv_D (hb a z)]; exact ⟨fun h => ⟨h, z⟩, fun h => h.1⟩
  · rw [byM_out z]; exact ⟨fun h => absurd h (by decide), fun h => absurd h.2 z⟩
theorem byM_C {bt : Nat → Int32} {l a : Nat} (hb : ∀ i, i < l → inB (bt i)) {y : Int32} (h1 : 0 ≤ y) (h2 : y ≤ 127) : byM bt l a = y ↔ bt a = y ∧ a < l := by
  by_cases z : a < l
  · rw [byM_in z, ubv_c (hb a z) h1 h2]; exact ⟨fun h => ⟨h, z⟩, fun h => h.1⟩
  · rw [byM_out z]; exact ⟨fun h => absurd h1 (by rw [← h]; decide), fun h => absurd h.2 z⟩
theorem zX9_isWord (X : EX) {h : HP} (F : Fx h) {l : Nat} {bt : Nat → Int32} (t : TbM h l bt) {u : SM} (ps : PsM h u) (tk : TkI bt l u.2) {w9 : Nat} (hw9 : w9 < 15) : Ct X mX9_isWord 2 0 0 [vR (some 109), vI (nI w9)] h (Rt (vI (b2 ((!u.1 && tkQ bt u.2 (wix w9)) = true))) h) := by
  refine ct_of rfl (Nat.le_of_ble_eq_true rfl) ?_
  have h120 := t.2.1
  have ok1 := tk.1.1
  have ok2 := tk.1.2
  have hb9 : ∀ i, i < l → inB (bt i) := fun i hi => (t.2.2.1 i hi).2
  have hLb : isLt (bt u.2.1) = true → u.2.1 < l → isLt (byM bt l u.2.1) = true := fun a b => (byM_L hb9).mpr ⟨a, b⟩
  have hLb2 : isLt (byM bt l u.2.1) = true → isLt (bt u.2.1) = true := fun a => ((byM_L hb9).mp a).1
  have lz : ∀ (k : Nat), (!u.1 && tkQ bt u.2 (wix w9)) = false → Ev X mX9_isWord 2 0 0 (Rt (vI (b2 ((!u.1 && tkQ bt u.2 (wix w9)) = true))) h) 0 0 43 [(0, some (vR (some 109))), (1, some (vI (nI w9))), (2, some (vI 0)), (3, some (vI (nI k)))] [] h := by
    intro k hv
    refine e_iload_n aX9_isWord_43 rfl ?_
    refine e_bipush (v := 6) aX9_isWord_44 (by decide) ?_
    refine e_icmp_ge aX9_isWord_46 (fun c46 => ?_) (fun c46 => ?_)
    · -- 46: taken
      refine e_iload_n aX9_isWord_108 rfl ?_
      refine e_zreturn aX9_isWord_109 rfl (Or.inl rfl) (Nat.le_refl _) (Nat.le_refl _) ?_
      exact ⟨by rw [b2_f (by rw [hv]; decide)], rfl⟩
    · -- 46: not taken
      refine e_iload_n aX9_isWord_49 rfl ?_
      refine e_if_eq aX9_isWord_50 (fun c50 => ?_) (fun c50 => ?_)
      · -- 50: taken
        refine e_iload_n aX9_isWord_108 rfl ?_
        refine e_zreturn aX9_isWord_109 rfl (Or.inl rfl) (Nat.le_refl _) (Nat.le_refl _) ?_
        exact ⟨by rw [b2_f (by rw [hv]; decide)], rfl⟩
      · -- 50: not taken
        exact absurd rfl c50
  have loop : u.1 = false → isLt (bt u.2.1) = true → u.2.2 - u.2.1 ≤ 6 → ∀ (m : Nat) (k : Nat), k + m = 6 → (∀ j, j < k → mE bt u.2 w9 j) → Ev X mX9_isWord 2 0 0 (Rt (vI (b2 ((!u.1 && tkQ bt u.2 (wix w9)) = true))) h) 0 0 43 [(0, some (vR (some 109))), (1, some (vI (nI w9))), (2, some (vI 1)), (3, some (vI (nI k)))] [] h := by
    intro hw1 hL h6 m
    induction m with
    | zero =>
      intro k hk hm
      obtain rfl : k = 6 := by omega
      refine e_iload_n aX9_isWord_43 rfl ?_
      refine e_bipush (v := 6) aX9_isWord_44 (by decide) ?_
      refine e_icmp_ge aX9_isWord_46 (fun c46 => ?_) (fun c46 => ?_)
      · -- 46: taken
        refine e_iload_n aX9_isWord_108 rfl ?_
        refine e_zreturn aX9_isWord_109 rfl (Or.inr rfl) (Nat.le_refl _) (Nat.le_refl _) ?_
        exact ⟨by rw [b2_t (by rw [hw1, word_T hw9 hb9 tk hL h6 (fun j hj => hm j hj)]; rfl)], rfl⟩
      · -- 46: not taken
        exact absurd (nI_le (a := 6) (b := 6) (by decide) (by decide)) c46
    | succ m ih =>
      intro k hk hm
      refine e_iload_n aX9_isWord_43 rfl ?_
      refine e_bipush (v := 6) aX9_isWord_44 (by decide) ?_
      refine e_icmp_ge aX9_isWord_46 (fun c46 => ?_) (fun c46 => ?_)
      · -- 46: taken
        exact absurd c46 (nI_ge (a := k) (b := 6) (by omega) (by decide))
      · -- 46: not taken
        refine e_iload_n aX9_isWord_49 rfl ?_
        refine e_if_eq aX9_isWord_50 (fun c50 => ?_) (fun c50 => ?_)
        · -- 50: taken
          exact absurd c50 (by decide)
        · -- 50: not taken
          refine e_aload_n aX9_isWord_53 rfl ?_
          refine e_getRF aX9_isWord_54 fX9_48 rfl (fx_is F rfl) (fx_r (b := 121) F rfl) ?_
          refine e_bipush (v := 6) aX9_isWord_57 (by decide) ?_
          refine e_iload_n aX9_isWord_59 rfl ?_
          refine e_imul aX9_isWord_60 ?_
          refine e_top (nI_mul 6 w9) ?_
          refine e_iload_n aX9_isWord_61 rfl ?_
          refine e_iadd aX9_isWord_62 ?_
          refine e_top (nI_add (6 * w9) k) ?_
          refine e_caloadF aX9_isWord_63 (fx_is F rfl) (fx_n (n := 90) F rfl) (vin (N := 90) (by omega)) (show hI h 121 (nI (6 * w9 + k)).toNatClampNeg = wdL.getD (6 * w9 + k) 0 by rw [cl (by omega)]; exact t.2.2.2 _ (by omega)) ?_
          refine e_aload_n aX9_isWord_64 rfl ?_
          refine e_getIF aX9_isWord_65 fX9_262 rfl (fx_is F rfl) ps.1 ?_
          refine e_iload_n aX9_isWord_68 rfl ?_
          refine e_iadd aX9_isWord_69 ?_
          refine e_top (nI_add u.2.1 k) ?_
          refine e_aload_n aX9_isWord_70 rfl ?_
          refine e_getIF aX9_isWord_71 fX9_259 rfl (fx_is F rfl) ps.2.1 ?_
          refine e_icmp_ge aX9_isWord_74 (fun c74 => ?_) (fun c74 => ?_)
          · -- 74: taken
            have q74 : ¬ u.2.1 + k < u.2.2 := (not_congr (nI_ltI (by omega) (by omega))).mp (Int32.not_lt.mpr c74)
            refine e_bipush (v := 32) aX9_isWord_91 (by decide) ?_
            refine e_icmp_ne aX9_isWord_93 (fun c93 => ?_) (fun c93 => ?_)
            · -- 93: taken
              have q93 : ¬ mE bt u.2 w9 k := fun w => c93 (by unfold mE at w; rw [if_neg q74] at w; exact w)
              refine e_iconst (v := 0) aX9_isWord_100 (by decide) ?_
              refine e_istore_n aX9_isWord_101 (Nat.le_of_ble_eq_true rfl) ?_
              refine e_iinc aX9_isWord_102 rfl rfl (Nat.le_of_ble_eq_true rfl) ?_
              refine e_goto aX9_isWord_105 ?_
              refine e_ls (ls' := [(0, some (vR (some 109))), (1, some (vI (nI w9))), (2, some (vI 0)), (3, some (vI (nI (k + 1))))]) ⟨rfl, rfl, rfl, congrArg (fun x => some (vI x)) (nI_1 k), trivial⟩ ?_
              exact lz (k + 1) (Bool.eq_false_iff.mpr (fun w => by
                rw [Bool.and_eq_true] at w
                exact q93 ((word_F hw9 hb9 tk w.2).2.2 k (by omega))))
            · -- 93: not taken
              have q93 : mE bt u.2 w9 k := by unfold mE; rw [if_neg q74]; exact c93
              refine e_iconst (v := 1) aX9_isWord_96 (by decide) ?_
              refine e_goto aX9_isWord_97 ?_
              refine e_istore_n aX9_isWord_101 (Nat.le_of_ble_eq_true rfl) ?_
              refine e_iinc aX9_isWord_102 rfl rfl (Nat.le_of_ble_eq_true rfl) ?_
              refine e_goto aX9_isWord_105 ?_
              refine e_ls (ls' := [(0, some (vR (some 109))), (1, some (vI (nI w9))), (2, some (vI 1)), (3, some (vI (nI (k + 1))))]) ⟨rfl, rfl, rfl, congrArg (fun x => some (vI x)) (nI_1 k), trivial⟩ ?_
              exact ih (k + 1) (by omega) (fun j hj => by
                by_cases e : j = k
                · rw [e]; exact q93
                · exact hm j (by omega))
          · -- 74: not taken
            have q74 : u.2.1 + k < u.2.2 := (nI_ltI (by omega) (by omega)).mp (Int32.not_le.mp c74)
            refine e_aload_n aX9_isWord_77 rfl ?_
            refine e_getRF aX9_isWord_78 fX9_38 rfl (fx_is F rfl) (fx_r (b := 118) F rfl) ?_
            refine e_aload_n aX9_isWord_81 rfl ?_
            refine e_getIF aX9_isWord_82 fX9_262 rfl (fx_is F rfl) ps.1 ?_
            refine e_iload_n aX9_isWord_85 rfl ?_
            refine e_iadd aX9_isWord_86 ?_
            refine e_top (nI_add u.2.1 k) ?_
            refine e_ialoadF aX9_isWord_87 (fx_is F rfl) (fx_n (n := 120) F rfl) (vin (N := 120) (by omega)) (show hI h 118 (nI (u.2.1 + k)).toNatClampNeg = ubv (bt (u.2.1 + k)) by rw [cl (by omega)]; exact (t.2.2.1 _ (by omega)).1) ?_
            refine e_goto aX9_isWord_88 ?_
            refine e_icmp_ne aX9_isWord_93 (fun c93 => ?_) (fun c93 => ?_)
            · -- 93: taken
              have q93 : ¬ mE bt u.2 w9 k := fun w => c93 (by unfold mE at w; rw [if_pos q74] at w; exact w)
              refine e_iconst (v := 0) aX9_isWord_100 (by decide) ?_
              refine e_istore_n aX9_isWord_101 (Nat.le_of_ble_eq_true rfl) ?_
              refine e_iinc aX9_isWord_102 rfl rfl (Nat.le_of_ble_eq_true rfl) ?_
              refine e_goto aX9_isWord_105 ?_
              refine e_ls (ls' := [(0, some (vR (some 109))), (1, some (vI (nI w9))), (2, some (vI 0)), (3, some (vI (nI (k + 1))))]) ⟨rfl, rfl, rfl, congrArg (fun x => some (vI x)) (nI_1 k), trivial⟩ ?_
              exact lz (k + 1) (Bool.eq_false_iff.mpr (fun w => by
                rw [Bool.and_eq_true] at w
                exact q93 ((word_F hw9 hb9 tk w.2).2.2 k (by omega))))
            · -- 93: not taken
              have q93 : mE bt u.2 w9 k := by unfold mE; rw [if_pos q74]; exact c93
              refine e_iconst (v := 1) aX9_isWord_96 (by decide) ?_
              refine e_goto aX9_isWord_97 ?_
              refine e_istore_n aX9_isWord_101 (Nat.le_of_ble_eq_true rfl) ?_
              refine e_iinc aX9_isWord_102 rfl rfl (Nat.le_of_ble_eq_true rfl) ?_
              refine e_goto aX9_isWord_105 ?_
              refine e_ls (ls' := [(0, some (vR (some 109))), (1, some (vI (nI w9))), (2, some (vI 1)), (3, some (vI (nI (k + 1))))]) ⟨rfl, rfl, rfl, congrArg (fun x => some (vI x)) (nI_1 k), trivial⟩ ?_
              exact ih (k + 1) (by omega) (fun j hj => by
                by_cases e : j = k
                · rw [e]; exact q93
                · exact hm j (by omega))
  refine e_aload_n aX9_isWord_0 rfl ?_
  refine e_getIF aX9_isWord_1 fX9_274 rfl (fx_is F rfl) ps.2.2 ?_
  refine e_if_ne aX9_isWord_4 (fun c4 => ?_) (fun c4 => ?_)
  · -- 4: taken
    have q4 : u.1 = true := Decidable.of_not_not (fun z => c4 (b2_0.mpr z))
    refine e_iconst (v := 0) aX9_isWord_39 (by decide) ?_
    refine e_istore_n aX9_isWord_40 (Nat.le_of_ble_eq_true rfl) ?_
    refine e_iconst (v := 0) aX9_isWord_41 (by decide) ?_
    refine e_istore_n aX9_isWord_42 (Nat.le_of_ble_eq_true rfl) ?_
    refine e_ls (ls' := [(0, some (vR (some 109))), (1, some (vI (nI w9))), (2, some (vI 0)), (3, some (vI (nI 0)))]) ⟨rfl, rfl, rfl, rfl, trivial⟩ ?_
    exact lz 0 (by rw [q4]; rfl)
  · -- 4: not taken
    have q4 : ¬ u.1 = true := b2_0.mp c4
    refine e_aload_n aX9_isWord_7 rfl ?_
    refine e_aload_n aX9_isWord_8 rfl ?_
    refine e_getIF aX9_isWord_9 fX9_262 rfl (fx_is F rfl) ps.1 ?_
    refine e_invvT aX9_isWord_12 kX9_265 (zX9_byteAt X F t (k := u.2.1) (by omega)) rfl rfl (fx_is F rfl) (Nat.le_of_ble_eq_true rfl) (Nat.le_of_ble_eq_true rfl) (Nat.le_refl _) (Nat.le_refl _) (Nat.le_of_ble_eq_true rfl) ?_
    refine e_invsT aX9_isWord_15 kX9_268 (zX9_isLetter X _) rfl rfl (Nat.le_of_ble_eq_true rfl) (Nat.le_of_ble_eq_true rfl) (Nat.le_refl _) (Nat.le_refl _) (Nat.le_of_ble_eq_true rfl) ?_
    refine e_if_eq aX9_isWord_18 (fun c18 => ?_) (fun c18 => ?_)
    · -- 18: taken
      have q18 := b2_0.mp c18
      refine e_iconst (v := 0) aX9_isWord_39 (by decide) ?_
      refine e_istore_n aX9_isWord_40 (Nat.le_of_ble_eq_true rfl) ?_
      refine e_iconst (v := 0) aX9_isWord_41 (by decide) ?_
      refine e_istore_n aX9_isWord_42 (Nat.le_of_ble_eq_true rfl) ?_
      refine e_ls (ls' := [(0, some (vR (some 109))), (1, some (vI (nI w9))), (2, some (vI 0)), (3, some (vI (nI 0)))]) ⟨rfl, rfl, rfl, rfl, trivial⟩ ?_
      exact lz 0 (Bool.eq_false_iff.mpr (fun w => by
        rw [Bool.and_eq_true] at w
        exact q18 (hLb (word_F hw9 hb9 tk w.2).1 (tkQ_lt hw9 tk w.2))))
    · -- 18: not taken
      have q18 := Decidable.of_not_not (fun z => c18 (b2_0.mpr z))
      refine e_aload_n aX9_isWord_21 rfl ?_
      refine e_getIF aX9_isWord_22 fX9_259 rfl (fx_is F rfl) ps.2.1 ?_
      refine e_aload_n aX9_isWord_25 rfl ?_
      refine e_getIF aX9_isWord_26 fX9_262 rfl (fx_is F rfl) ps.1 ?_
      refine e_isub aX9_isWord_29 ?_
      refine e_top (nI_subN ok1) ?_
      refine e_bipush (v := 6) aX9_isWord_30 (by decide) ?_
      refine e_icmp_gt aX9_isWord_32 (fun c32 => ?_) (fun c32 => ?_)
      · -- 32: taken
        have q32 : ¬ u.2.2 - u.2.1 ≤ 6 := fun z => absurd c32 (Int32.not_lt.mpr ((nI_leI (b := 6) (by omega) (by decide)).mpr z))
        refine e_iconst (v := 0) aX9_isWord_39 (by decide) ?_
        refine e_istore_n aX9_isWord_40 (Nat.le_of_ble_eq_true rfl) ?_
        refine e_iconst (v := 0) aX9_isWord_41 (by decide) ?_
        refine e_istore_n aX9_isWord_42 (Nat.le_of_ble_eq_true rfl) ?_
        refine e_ls (ls' := [(0, some (vR (some 109))), (1, some (vI (nI w9))), (2, some (vI 0)), (3, some (vI (nI 0)))]) ⟨rfl, rfl, rfl, rfl, trivial⟩ ?_
        exact lz 0 (Bool.eq_false_iff.mpr (fun w => by
          rw [Bool.and_eq_true] at w
          exact absurd (word_F hw9 hb9 tk w.2).2.1 q32))
      · -- 32: not taken
        have q32 : u.2.2 - u.2.1 ≤ 6 := (nI_leI (b := 6) (by omega) (by decide)).mp (Int32.not_lt.mp c32)
        refine e_iconst (v := 1) aX9_isWord_35 (by decide) ?_
        refine e_goto aX9_isWord_36 ?_
        refine e_istore_n aX9_isWord_40 (Nat.le_of_ble_eq_true rfl) ?_
        refine e_iconst (v := 0) aX9_isWord_41 (by decide) ?_
        refine e_istore_n aX9_isWord_42 (Nat.le_of_ble_eq_true rfl) ?_
        refine e_ls (ls' := [(0, some (vR (some 109))), (1, some (vI (nI w9))), (2, some (vI 1)), (3, some (vI (nI 0)))]) ⟨rfl, rfl, rfl, rfl, trivial⟩ ?_
        exact loop (Bool.eq_false_iff.mpr q4) (hLb2 q18) q32 6 0 rfl (fun j hj => absurd hj (Nat.not_lt_zero j))
def tkW (bt : Nat → Int32) (l : Nat) (i : Nat) (u : SM) : SM := if (!u.1 && tkQ bt u.2 i) = true then (u.1, nxT bt l u.2) else u
theorem zX9_takes (X : EX) {h0 : HP} (F : Fx h0) {l : Nat} {bt : Nat → Int32} (t : TbM h0 l bt) {u : SM} (ps : PsM h0 u) (tk : TkI bt l u.2) {w9 : Nat} (hw9 : w9 < 15) : Ct X mX9_takes 3 0 0 [vR (some 109), vI (nI w9)] h0 (fun v h' => v = some (vI (b2 ((!u.1 && tkQ bt u.2 (wix w9)) = true))) ∧ Sf scQ h0 h' ∧ PsM h' (tkW bt l (wix w9) u)) := by
  refine ct_of rfl (Nat.le_of_ble_eq_true rfl) ?_
  refine e_aload_n aX9_takes_0 rfl ?_
  refine e_iload_n aX9_takes_1 rfl ?_
  refine e_invvT aX9_takes_2 kX9_281 (zX9_isWord X F t ps tk hw9) rfl rfl (fx_is F rfl) (Nat.le_of_ble_eq_true rfl) (Nat.le_of_ble_eq_true rfl) (Nat.le_refl _) (Nat.le_refl _) (Nat.le_of_ble_eq_true rfl) ?_
  refine e_istore_n aX9_takes_5 (Nat.le_of_ble_eq_true rfl) ?_
  refine e_iload_n aX9_takes_6 rfl ?_
  refine e_if_eq aX9_takes_7 (fun c7 => ?_) (fun c7 => ?_)
  · -- 7: taken
    have q7 := b2_0.mp c7
    refine e_iload_n aX9_takes_14 rfl ?_
    refine e_zreturn aX9_takes_15 rfl b2_b (Nat.le_refl _) (Nat.le_refl _) ?_
    exact ⟨rfl, Sf.rf h0, by unfold tkW; rw [if_neg q7]; exact ps⟩
  · -- 7: not taken
    have q7 := Decidable.of_not_not (fun z => c7 (b2_0.mpr z))
    refine e_aload_n aX9_takes_10 rfl ?_
    refine e_invv aX9_takes_11 kX9_278 (zX9_token X F t ps.2.1 tk.1.2) rfl rfl (fx_is F rfl) (Nat.le_of_ble_eq_true rfl) (Nat.le_of_ble_eq_true rfl) (Nat.le_refl _) (Nat.le_refl _) (Nat.le_of_ble_eq_true rfl) ?_
    rintro v h2 ⟨rfl, S1, z1, z2⟩
    refine e_iload_n aX9_takes_14 rfl ?_
    refine e_zreturn aX9_takes_15 rfl b2_b (Nat.le_refl _) (Nat.le_refl _) ?_
    exact ⟨rfl, S1, by unfold tkW; rw [if_pos q7]; exact ⟨z1, z2, (S1.2 _ _ (by unfold scQ; omega)).trans ps.2.2⟩⟩
theorem sign_Q {bt : Nat → Int32} {l i : Nat} {p : PT} (hb : ∀ j, j < l → inB (bt j)) (tk : TkI bt l p) (h1 : sLn i = 1) (hc : 0 ≤ sCh i 0 ∧ sCh i 0 ≤ 127 ∧ isLt (sCh i 0) = false ∧ isDt (sCh i 0) = false) : byM bt l p.1 = sCh i 0 ↔ tkQ bt p i = true := by
  rw [byM_C hb hc.1 hc.2.1, tkQ_i, h1]
  obtain ⟨ok, t1, t2, t3⟩ := tk
  have ok1 := ok.1
  have ok2 := ok.2
  refine ⟨fun h => ⟨?_, fun x hx => ?_⟩, fun h => ⟨?_, by have := h.1; omega⟩⟩
  · have := t3 h.2 (by rw [h.1]; exact hc.2.2.1) (by rw [h.1]; exact hc.2.2.2)
    omega
  · obtain rfl : x = 0 := by omega
    exact h.1
  · exact h.2 0 (by omega)
theorem zX9_isSign (X : EX) {h : HP} (F : Fx h) {l : Nat} {bt : Nat → Int32} (t : TbM h l bt) {u : SM} (ps : PsM h u) (tk : TkI bt l u.2) {i9 : Nat} (h1 : sLn i9 = 1) (hc : 0 ≤ sCh i9 0 ∧ sCh i9 0 ≤ 127 ∧ isLt (sCh i9 0) = false ∧ isDt (sCh i9 0) = false) : Ct X mX9_isSign 1 0 0 [vR (some 109), vI (sCh i9 0)] h (Rt (vI (b2 ((!u.1 && tkQ bt u.2 i9) = true))) h) := by
  refine ct_of rfl (Nat.le_of_ble_eq_true rfl) ?_
  have h120 := t.2.1
  have ok1 := tk.1.1
  have ok2 := tk.1.2
  have hb9 : ∀ i, i < l → inB (bt i) := fun i hi => (t.2.2.1 i hi).2
  refine e_aload_n aX9_isSign_0 rfl ?_
  refine e_getIF aX9_isSign_1 fX9_274 rfl (fx_is F rfl) ps.2.2 ?_
  refine e_if_ne aX9_isSign_4 (fun c4 => ?_) (fun c4 => ?_)
  · -- 4: taken
    have q4 : u.1 = true := Decidable.of_not_not (fun z => c4 (b2_0.mpr z))
    refine e_iconst (v := 0) aX9_isSign_23 (by decide) ?_
    refine e_zreturn aX9_isSign_24 rfl (by decide) (Nat.le_refl _) (Nat.le_refl _) ?_
    exact ⟨by rw [b2_f (fun w => by rw [q4] at w; exact absurd w Bool.false_ne_true)], rfl⟩
  · -- 4: not taken
    have q4 : ¬ u.1 = true := b2_0.mp c4
    refine e_aload_n aX9_isSign_7 rfl ?_
    refine e_aload_n aX9_isSign_8 rfl ?_
    refine e_getIF aX9_isSign_9 fX9_262 rfl (fx_is F rfl) ps.1 ?_
    refine e_invvT aX9_isSign_12 kX9_265 (zX9_byteAt X F t (k := u.2.1) (by omega)) rfl rfl (fx_is F rfl) (Nat.le_of_ble_eq_true rfl) (Nat.le_of_ble_eq_true rfl) (Nat.le_refl _) (Nat.le_refl _) (Nat.le_of_ble_eq_true rfl) ?_
    refine e_iload_n aX9_isSign_15 rfl ?_
    refine e_icmp_ne aX9_isSign_16 (fun c16 => ?_) (fun c16 => ?_)
    · -- 16: taken
      refine e_iconst (v := 0) aX9_isSign_23 (by decide) ?_
      refine e_zreturn aX9_isSign_24 rfl (by decide) (Nat.le_refl _) (Nat.le_refl _) ?_
      exact ⟨by rw [b2_f (fun w => c16 ((sign_Q hb9 tk h1 hc).mpr (by rw [Bool.and_eq_true] at w; exact w.2)))], rfl⟩
    · -- 16: not taken
      refine e_iconst (v := 1) aX9_isSign_19 (by decide) ?_
      refine e_goto aX9_isSign_20 ?_
      refine e_zreturn aX9_isSign_24 rfl (by decide) (Nat.le_refl _) (Nat.le_refl _) ?_
      exact ⟨by rw [b2_t (by rw [Bool.eq_false_iff.mpr q4, (sign_Q hb9 tk h1 hc).mp c16]; rfl)], rfl⟩
def nhV (bt : Nat → Int32) (l : Nat) (u : SM) : Int32 := if u.1 = true then 100 else if tkN bt l u.2.1 u.2.2 < 0 then 100 else tkN bt l u.2.1 u.2.2
theorem tnR_s {bt : Nat → Int32} {m i : Nat} {v : Int32} : tnR bt (m + 1) i v = tnR bt m (i + 1) (dgN v (bt i)) := rfl
theorem Dt_n {x : Int32} (h : isDt x = true) : ∃ d, 48 ≤ d ∧ d ≤ 57 ∧ x = nI d := by
  have h1 := of_decide_eq_true h
  obtain ⟨d, hd, rfl⟩ := ou_of 58 (by decide) (v := x) (fun z => z.elim (fun z => absurd (Int32.lt_of_le_of_lt h1.1 z) (by decide)) (fun z => absurd (Int32.le_trans z h1.2) (by decide)))
  exact ⟨d, (nI_leI (a := 48) (by decide) (by omega)).mp h1.1, by omega, rfl⟩
theorem dg_e {v d : Nat} (hv : v ≤ 100) (h1 : 48 ≤ d) (h2 : d ≤ 57) : nI v * 10 + nI d - 48 = nI (v * 10 + (d - 48)) := by
  have e1 : nI v * 10 = nI (v * 10) := nI_mul v 10
  rw [e1, nI_add]
  have e2 : nI (v * 10 + d) - nI 48 = nI (v * 10 + d - 48) := nI_subN (by omega)
  rw [show v * 10 + (d - 48) = v * 10 + d - 48 by omega]
  exact e2
theorem dgN_n {v d : Nat} (hv : v ≤ 100) (h1 : 48 ≤ d) (h2 : d ≤ 57) : dgN (nI v) (nI d) = nI (min (v * 10 + (d - 48)) 100) := by
  unfold dgN
  rw [dg_e hv h1 h2]
  by_cases z : v * 10 + (d - 48) < 100
  · rw [if_pos (show nI (v * 10 + (d - 48)) < 100 from (nI_ltI (b := 100) (by omega) (by decide)).mpr z), Nat.min_eq_left (by omega)]
  · rw [if_neg (show ¬ nI (v * 10 + (d - 48)) < 100 from fun w => z ((nI_ltI (b := 100) (by omega) (by decide)).mp w)), Nat.min_eq_right (by omega)]
    rfl
theorem tkN_d {bt : Nat → Int32} {l : Nat} {p : PT} (tk : TkI bt l p) (h : isDt (bt p.1) = true ∧ p.1 < l) : tkN bt l p.1 p.2 = tnR bt (p.2 - p.1) p.1 0 ∧ ¬ tkN bt l p.1 p.2 < 0 := by
  have e : tkN bt l p.1 p.2 = tnR bt (p.2 - p.1) p.1 0 := (if_pos h.2).trans (if_pos h.1)
  refine ⟨e, ?_⟩
  rw [e]
  have key : ∀ (m i v : Nat), v ≤ 100 → (∀ j, i ≤ j → j < i + m → isDt (bt j) = true) → ∃ r, r ≤ 100 ∧ tnR bt m i (nI v) = nI r := by
    intro m
    induction m with
    | zero => intro i v hv _; exact ⟨v, hv, rfl⟩
    | succ m ih =>
      intro i v hv hd
      obtain ⟨d, h1, h2, h3⟩ := Dt_n (hd i (Nat.le_refl _) (by omega))
      rw [tnR_s, h3, dgN_n hv h1 h2]
      exact ih (i + 1) _ (Nat.min_le_right _ _) (fun j a b => hd j (by omega) (by omega))
  have ok1 := tk.1.1
  obtain ⟨r, hr, e2⟩ := key (p.2 - p.1) p.1 0 (by decide) (fun j a b => (tk.2.1 j a (by omega)).2 h.1)
  rw [show tnR bt (p.2 - p.1) p.1 0 = nI r from e2]
  exact Int32.not_lt.mpr (nI_pos' (by omega))
theorem tkN_o {bt : Nat → Int32} {l : Nat} {p : PT} (h : ¬ (isDt (bt p.1) = true ∧ p.1 < l)) : tkN bt l p.1 p.2 = -1 := by
  unfold tkN
  by_cases z : p.1 < l
  · rw [if_pos z, if_neg (fun w => h ⟨w, z⟩)]
  · rw [if_neg z]
theorem zX9_numberHere (X : EX) {h : HP} (F : Fx h) {l : Nat} {bt : Nat → Int32} (t : TbM h l bt) {u : SM} (ps : PsM h u) (tk : TkI bt l u.2) : Ct X mX9_numberHere 2 0 0 [vR (some 109)] h (Rt (vI (nhV bt l u)) h) := by
  refine ct_of rfl (Nat.le_of_ble_eq_true rfl) ?_
  have h120 := t.2.1
  have ok1 := tk.1.1
  have ok2 := tk.1.2
  have hb9 : ∀ i, i < l → inB (bt i) := fun i hi => (t.2.2.1 i hi).2
  have loop : (∀ i, u.2.1 ≤ i → i < u.2.2 → isDt (bt i) = true) → ∀ (m : Nat) (k vz : Nat), u.2.1 ≤ k → k + m = u.2.2 → vz ≤ 1000 → tnR bt m k (nI (min vz 100)) = (nhV bt l u) → Ev X mX9_numberHere 2 0 0 (Rt (vI (nhV bt l u)) h) 0 0 31 [(0, some (vR (some 109))), (1, some (vI (nI vz))), (2, some (vI (nI k)))] [] h := by
    intro hdg m
    induction m with
    | zero =>
      intro k vz hk1 hk hv hR
      have hku : k = u.2.2 := by omega
      have hR : nI (min vz 100) = nhV bt l u := hR
      refine e_iload_n aX9_numberHere_31 rfl ?_
      refine e_aload_n aX9_numberHere_32 rfl ?_
      refine e_getIF aX9_numberHere_33 fX9_259 rfl (fx_is F rfl) ps.2.1 ?_
      refine e_icmp_ge aX9_numberHere_36 (fun c36 => ?_) (fun c36 => ?_)
      · -- 36: taken
        refine e_iload_n aX9_numberHere_71 rfl ?_
        refine e_bipush (v := 99) aX9_numberHere_72 (by decide) ?_
        refine e_icmp_le aX9_numberHere_74 (fun c74 => ?_) (fun c74 => ?_)
        · -- 74: taken
          have q74 : vz ≤ 99 := (nI_leI (b := 99) (by omega) (by decide)).mp c74
          refine e_iload_n aX9_numberHere_82 rfl ?_
          refine e_ireturn aX9_numberHere_83 rfl (Nat.le_refl _) (Nat.le_refl _) ?_
          exact ⟨by rw [← hR, Nat.min_eq_left (by omega)], rfl⟩
        · -- 74: not taken
          have q74 : ¬ vz ≤ 99 := fun z => c74 ((nI_leI (b := 99) (by omega) (by decide)).mpr z)
          refine e_bipush (v := 100) aX9_numberHere_77 (by decide) ?_
          refine e_goto aX9_numberHere_79 ?_
          refine e_ireturn aX9_numberHere_83 rfl (Nat.le_refl _) (Nat.le_refl _) ?_
          exact ⟨by rw [← hR, Nat.min_eq_right (by omega)]; rfl, rfl⟩
      · -- 36: not taken
        exact absurd (nI_le (a := u.2.2) (b := k) (by omega) (by omega)) c36
    | succ m ih =>
      intro k vz hk1 hk hv hR
      obtain ⟨dx, hd1, hd2, hdx⟩ := Dt_n (hdg k hk1 (by omega))
      refine e_iload_n aX9_numberHere_31 rfl ?_
      refine e_aload_n aX9_numberHere_32 rfl ?_
      refine e_getIF aX9_numberHere_33 fX9_259 rfl (fx_is F rfl) ps.2.1 ?_
      refine e_icmp_ge aX9_numberHere_36 (fun c36 => ?_) (fun c36 => ?_)
      · -- 36: taken
        exact absurd c36 (nI_ge (by omega) (by omega))
      · -- 36: not taken
        refine e_iload_n aX9_numberHere_39 rfl ?_
        refine e_bipush (v := 99) aX9_numberHere_40 (by decide) ?_
        refine e_icmp_le aX9_numberHere_42 (fun c42 => ?_) (fun c42 => ?_)
        · -- 42: taken
          have q42 : vz ≤ 99 := (nI_leI (b := 99) (by omega) (by decide)).mp c42
          refine e_bipush (v := 10) aX9_numberHere_50 (by decide) ?_
          refine e_iload_n aX9_numberHere_52 rfl ?_
          refine e_imul aX9_numberHere_53 ?_
          refine e_aload_n aX9_numberHere_54 rfl ?_
          refine e_getRF aX9_numberHere_55 fX9_38 rfl (fx_is F rfl) (fx_r (b := 118) F rfl) ?_
          refine e_iload_n aX9_numberHere_58 rfl ?_
          refine e_ialoadF aX9_numberHere_59 (fx_is F rfl) (fx_n (n := 120) F rfl) (vin (N := 120) (by omega)) (show hI h 118 (nI k).toNatClampNeg = nI dx by rw [cl (by omega), ← hdx]; exact (t.2.2.1 k (by omega)).1.trans ((ubv_c (hb9 k (by omega)) (by rw [hdx]; exact nI_pos' (by omega)) (by rw [hdx]; exact (nI_leI (b := 127) (by omega) (by decide)).mpr (by omega))).mpr rfl)) ?_
          refine e_iadd aX9_numberHere_60 ?_
          refine e_bipush (v := 48) aX9_numberHere_61 (by decide) ?_
          refine e_isub aX9_numberHere_63 ?_
          refine e_istore_n aX9_numberHere_64 (Nat.le_of_ble_eq_true rfl) ?_
          refine e_iinc aX9_numberHere_65 rfl rfl (Nat.le_of_ble_eq_true rfl) ?_
          refine e_goto aX9_numberHere_68 ?_
          refine e_ls (ls' := [(0, some (vR (some 109))), (1, some (vI (nI (vz * 10 + (dx - 48))))), (2, some (vI (nI (k + 1))))]) ⟨rfl, congrArg (fun x => some (vI x)) ((show 10 * nI vz + nI dx - 48 = nI (vz * 10 + (dx - 48)) by rw [Int32.mul_comm]; exact dg_e (by omega) hd1 hd2)), congrArg (fun x => some (vI x)) (nI_1 k), trivial⟩ ?_
          refine ih (k + 1) (vz * 10 + (dx - 48)) (by omega) (by omega) (by omega) ?_
          rw [tnR_s, hdx, dgN_n (by omega) hd1 hd2] at hR
          rw [← hR, show min (min vz 100 * 10 + (dx - 48)) 100 = min (vz * 10 + (dx - 48)) 100 by omega]
        · -- 42: not taken
          have q42 : ¬ vz ≤ 99 := fun z => c42 ((nI_leI (b := 99) (by omega) (by decide)).mpr z)
          refine e_bipush (v := 100) aX9_numberHere_45 (by decide) ?_
          refine e_goto aX9_numberHere_47 ?_
          refine e_istore_n aX9_numberHere_64 (Nat.le_of_ble_eq_true rfl) ?_
          refine e_iinc aX9_numberHere_65 rfl rfl (Nat.le_of_ble_eq_true rfl) ?_
          refine e_goto aX9_numberHere_68 ?_
          refine e_ls (ls' := [(0, some (vR (some 109))), (1, some (vI (nI 100))), (2, some (vI (nI (k + 1))))]) ⟨rfl, rfl, congrArg (fun x => some (vI x)) (nI_1 k), trivial⟩ ?_
          refine ih (k + 1) 100 (by omega) (by omega) (by decide) ?_
          rw [tnR_s, hdx, dgN_n (by omega) hd1 hd2] at hR
          rw [← hR, show min (min vz 100 * 10 + (dx - 48)) 100 = min 100 100 by omega]
  refine e_aload_n aX9_numberHere_0 rfl ?_
  refine e_getIF aX9_numberHere_1 fX9_274 rfl (fx_is F rfl) ps.2.2 ?_
  refine e_if_ne aX9_numberHere_4 (fun c4 => ?_) (fun c4 => ?_)
  · -- 4: taken
    have q4 : u.1 = true := Decidable.of_not_not (fun z => c4 (b2_0.mpr z))
    refine e_bipush (v := 100) aX9_numberHere_21 (by decide) ?_
    refine e_ireturn aX9_numberHere_23 rfl (Nat.le_refl _) (Nat.le_refl _) ?_
    exact ⟨by unfold nhV; rw [if_pos q4], rfl⟩
  · -- 4: not taken
    have q4 : ¬ u.1 = true := b2_0.mp c4
    refine e_aload_n aX9_numberHere_7 rfl ?_
    refine e_aload_n aX9_numberHere_8 rfl ?_
    refine e_getIF aX9_numberHere_9 fX9_262 rfl (fx_is F rfl) ps.1 ?_
    refine e_invvT aX9_numberHere_12 kX9_265 (zX9_byteAt X F t (k := u.2.1) (by omega)) rfl rfl (fx_is F rfl) (Nat.le_of_ble_eq_true rfl) (Nat.le_of_ble_eq_true rfl) (Nat.le_refl _) (Nat.le_refl _) (Nat.le_of_ble_eq_true rfl) ?_
    refine e_invsT aX9_numberHere_15 kX9_271 (zX9_isDigit X _) rfl rfl (Nat.le_of_ble_eq_true rfl) (Nat.le_of_ble_eq_true rfl) (Nat.le_refl _) (Nat.le_refl _) (Nat.le_of_ble_eq_true rfl) ?_
    refine e_if_ne aX9_numberHere_18 (fun c18 => ?_) (fun c18 => ?_)
    · -- 18: taken
      have q18 := Decidable.of_not_not (fun z => c18 (b2_0.mpr z))
      refine e_iconst (v := 0) aX9_numberHere_24 (by decide) ?_
      refine e_istore_n aX9_numberHere_25 (Nat.le_of_ble_eq_true rfl) ?_
      refine e_aload_n aX9_numberHere_26 rfl ?_
      refine e_getIF aX9_numberHere_27 fX9_262 rfl (fx_is F rfl) ps.1 ?_
      refine e_istore_n aX9_numberHere_30 (Nat.le_of_ble_eq_true rfl) ?_
      have q19 := (byM_D hb9).mp q18
      have q20 := tkN_d tk q19
      refine e_ls (ls' := [(0, some (vR (some 109))), (1, some (vI (nI 0))), (2, some (vI (nI u.2.1)))]) ⟨rfl, rfl, rfl, trivial⟩ ?_
      exact loop (fun i a b => (tk.2.1 i a b).2 q19.1) (u.2.2 - u.2.1) u.2.1 0 (Nat.le_refl _) (by omega) (by decide) (by unfold nhV; rw [if_neg q4, if_neg q20.2, q20.1]; rfl)
    · -- 18: not taken
      have q18 := b2_0.mp c18
      refine e_bipush (v := 100) aX9_numberHere_21 (by decide) ?_
      refine e_ireturn aX9_numberHere_23 rfl (Nat.le_refl _) (Nat.le_refl _) ?_
      exact ⟨by unfold nhV; rw [if_neg q4, tkN_o (fun z => q18 ((byM_D hb9).mpr z)), if_pos (by decide)], rfl⟩
def nmF (bt : Nat → Int32) (l : Nat) (lo hi9 : Int32) (u : SM) : SM := mF bt l (!tnB bt l u.2 lo hi9 (-1)) u
def nmV (bt : Nat → Int32) (l : Nat) (lo hi9 : Int32) (u : SM) : Int32 := if (nmF bt l lo hi9 u).1 = true then 0 else tkN bt l u.2.1 u.2.2
theorem tkN_i {bt : Nat → Int32} {l : Nat} {p : PT} (tk : TkI bt l p) : tkN bt l p.1 p.2 = -1 ∨ 0 ≤ tkN bt l p.1 p.2 := by
  by_cases z : isDt (bt p.1) = true ∧ p.1 < l
  · exact Or.inr (Int32.not_lt.mp (tkN_d tk z).2)
  · exact Or.inl (tkN_o z)
theorem nh_B {bt : Nat → Int32} {l : Nat} {lo hi9 : Int32} {u : SM} (tk : TkI bt l u.2) (h1 : 0 ≤ lo) (h2 : hi9 ≤ 99) (hu : u.1 = false) : (lo ≤ nhV bt l u ∧ nhV bt l u ≤ hi9) ↔ (!tnB bt l u.2 lo hi9 (-1)) = true := by
  unfold nhV tnB
  rw [if_neg (by rw [hu]; decide), Bool.not_eq_true', decide_eq_false_iff_not]
  rcases tkN_i tk with z | z
  · rw [z, if_pos (by decide)]
    exact ⟨fun w => absurd (Int32.le_trans w.2 h2) (by decide), fun w => absurd (Or.inr (Or.inr rfl)) w⟩
  · rw [if_neg (Int32.not_lt.mpr z)]
    refine ⟨fun w q => ?_, fun w => ⟨Int32.not_lt.mp (fun q => w (Or.inl q)), Int32.not_lt.mp (fun q => w (Or.inr (Or.inl q)))⟩⟩
    rcases q with q | q | q
    · exact absurd q (Int32.not_lt.mpr w.1)
    · exact absurd q (Int32.not_lt.mpr w.2)
    · exact absurd z (by rw [q]; decide)
theorem mF_q {bt : Nat → Int32} {l : Nat} {a b : Bool} {u : SM} (h : u.1 = false → (a = true ↔ b = true)) : mF bt l a u = mF bt l b u := by
  unfold mF
  by_cases z : u.1 = true
  · rw [if_pos z, if_pos z]
  · rw [if_neg z, if_neg z]
    have e : a = b := Bool.eq_iff_iff.mpr (h (Bool.eq_false_iff.mpr z))
    rw [e]
theorem nh_V {bt : Nat → Int32} {l : Nat} {lo hi9 : Int32} {u : SM} (tk : TkI bt l u.2) (h : ¬ (nmF bt l lo hi9 u).1 = true) : nhV bt l u = tkN bt l u.2.1 u.2.2 := by
  unfold nmF mF at h
  by_cases z : u.1 = true
  · rw [if_pos z] at h
    exact absurd z h
  · rw [if_neg z] at h
    by_cases w : (!tnB bt l u.2 lo hi9 (-1)) = true
    · unfold nhV
      rw [if_neg z]
      rcases tkN_i tk with q | q
      · rw [Bool.not_eq_true'] at w
        exact absurd (Or.inr (Or.inr q)) (of_decide_eq_false w)
      · rw [if_neg (Int32.not_lt.mpr q)]
    · rw [if_neg w] at h
      exact absurd rfl h
theorem zX9_number (X : EX) {h0 : HP} (F : Fx h0) {l : Nat} {bt : Nat → Int32} (t : TbM h0 l bt) {u : SM} (ps : PsM h0 u) (tk : TkI bt l u.2) {lo hi9 : Int32} (h1 : 0 ≤ lo) (h2 : hi9 ≤ 99) : Ct X mX9_number 4 0 0 [vR (some 109), vI lo, vI hi9] h0 (fun v h' => v = some (vI (nmV bt l lo hi9 u)) ∧ Sf scP h0 h' ∧ PsM h' (nmF bt l lo hi9 u)) := by
  refine ct_of rfl (Nat.le_of_ble_eq_true rfl) ?_
  refine e_aload_n aX9_number_0 rfl ?_
  refine e_invvT aX9_number_1 kX9_284 (zX9_numberHere X F t ps tk) rfl rfl (fx_is F rfl) (Nat.le_of_ble_eq_true rfl) (Nat.le_of_ble_eq_true rfl) (Nat.le_refl _) (Nat.le_refl _) (Nat.le_of_ble_eq_true rfl) ?_
  refine e_istore_n aX9_number_4 (Nat.le_of_ble_eq_true rfl) ?_
  refine e_aload_n aX9_number_5 rfl ?_
  refine e_iload_n aX9_number_6 rfl ?_
  refine e_i2l aX9_number_7 ?_
  refine e_iload_n aX9_number_8 rfl ?_
  refine e_i2l aX9_number_9 ?_
  refine e_iload_n aX9_number_10 rfl ?_
  refine e_i2l aX9_number_11 ?_
  refine e_invsT aX9_number_12 kX9_108 (zin X _ lo hi9 rfl rfl) rfl rfl (Nat.le_of_ble_eq_true rfl) (Nat.le_of_ble_eq_true rfl) (Nat.le_refl _) (Nat.le_refl _) (Nat.le_of_ble_eq_true rfl) ?_
  refine e_top (b2_c (q := decide (lo ≤ nhV bt l u ∧ nhV bt l u ≤ hi9) = true) (decide_eq_true_iff).symm) ?_
  refine e_invv aX9_number_15 kX9_287 (zX9_must X F t ps tk.1.2 _) rfl rfl (fx_is F rfl) (Nat.le_of_ble_eq_true rfl) (Nat.le_of_ble_eq_true rfl) (Nat.le_refl _) (Nat.le_refl _) (Nat.le_of_ble_eq_true rfl) ?_
  rintro v hx ⟨rfl, S1, ps1⟩
  have F := S1.F F
  have e9 : mF bt l (decide (lo ≤ nhV bt l u ∧ nhV bt l u ≤ hi9)) u = nmF bt l lo hi9 u := mF_q (fun hu => decide_eq_true_iff.trans (nh_B tk h1 h2 hu))
  rw [e9] at ps1
  refine e_aload_n aX9_number_18 rfl ?_
  refine e_getIF aX9_number_19 fX9_274 rfl (fx_is F rfl) ps1.2.2 ?_
  refine e_if_eq aX9_number_22 (fun c22 => ?_) (fun c22 => ?_)
  · -- 22: taken
    have q22 : ¬ (nmF bt l lo hi9 u).1 = true := b2_0.mp c22
    refine e_iload_n aX9_number_29 rfl ?_
    refine e_ireturn aX9_number_30 rfl (Nat.le_refl _) (Nat.le_refl _) ?_
    exact ⟨by unfold nmV; rw [if_neg q22, nh_V tk q22], S1, ps1⟩
  · -- 22: not taken
    have q22 : (nmF bt l lo hi9 u).1 = true := Decidable.of_not_not (fun z => c22 (b2_0.mpr z))
    refine e_iconst (v := 0) aX9_number_25 (by decide) ?_
    refine e_goto aX9_number_26 ?_
    refine e_ireturn aX9_number_30 rfl (Nat.le_refl _) (Nat.le_refl _) ?_
    exact ⟨by unfold nmV; rw [if_pos q22], S1, ps1⟩
theorem zX9_codes (X : EX) {h : HP} (F : Fx h) {j : Nat} (hc : hI h 109 23 = nI j) (hj : j < 130) (x : Int32) : Ct X mX9_codes 0 0 0 [vR (some 109), vI x] h (Rv (wI (wI h 119 j x) 109 23 (nI (j + 1)))) := by
  refine ct_of rfl (Nat.le_of_ble_eq_true rfl) ?_
  refine e_aload_n aX9_codes_0 rfl ?_
  refine e_getRF aX9_codes_1 fX9_41 rfl (fx_is F rfl) (fx_r (b := 119) F rfl) ?_
  refine e_aload_n aX9_codes_4 rfl ?_
  refine e_getIF aX9_codes_5 fX9_291 rfl (fx_is F rfl) hc ?_
  refine e_iload_n aX9_codes_8 rfl ?_
  refine e_iastoreF aX9_codes_9 (fx_is F rfl) (fx_n (n := 130) F rfl) (vin hj) ?_
  rw [cl (n := j) (by omega)]
  refine e_aload_n aX9_codes_10 rfl ?_
  refine e_dup aX9_codes_11 rfl ?_
  refine e_getIF aX9_codes_12 fX9_291 rfl (fx_is F rfl) ((wI_a (by decide)).trans hc) ?_
  refine e_iconst (v := 1) aX9_codes_15 (by decide) ?_
  refine e_iadd aX9_codes_16 ?_
  refine e_top (nI_1 j) ?_
  refine e_putI aX9_codes_17 fX9_291 rfl (fx_is F rfl) (Or.inl rfl) ?_
  refine e_return aX9_codes_20 rfl (Nat.le_refl _) (Nat.le_refl _) ?_
  exact ⟨rfl, rfl⟩
