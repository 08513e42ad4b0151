/-! the reference: TOKENs (written by wip/whole/g65.py) -/
/-- the letters of the reference's words -/
def wdL : List Int32 := [102, 114, 111, 109, 32, 32, 116, 111, 32, 32, 32, 32, 112, 105, 99, 107, 32, 32, 103, 117, 97, 114, 100, 32, 116, 97, 105, 108, 32, 32, 114, 111, 108, 108, 32, 32, 115, 119, 97, 112, 32, 32, 99, 104, 111, 105, 99, 101, 105, 102, 32, 32, 32, 32, 111, 114, 32, 32, 32, 32, 97, 110, 100, 32, 32, 32, 110, 111, 116, 32, 32, 32, 97, 104, 101, 97, 100, 32, 97, 116, 32, 32, 32, 32, 108, 97, 112, 115, 101, 100]
def ubv (x : Int32) : Int32 := if x < 0 then x + 256 else x
def byM (bt : Nat → Int32) (l k : Nat) : Int32 := if k < l then ubv (bt k) else -1
def inB (x : Int32) : Prop := -128 ≤ x ∧ x ≤ 127
theorem ubv_i {x : Int32} (h : inB x) : (ubv x).toInt = if x.toInt < 0 then x.toInt + 256 else x.toInt := by
  have h1 := Int32.le_iff_toInt_le.mp h.1
  have h2 := Int32.le_iff_toInt_le.mp h.2
  have e1 : (-128 : Int32).toInt = -128 := rfl
  have e2 : (127 : Int32).toInt = 127 := rfl
  have e0 : (0 : Int32).toInt = 0 := rfl
  unfold ubv
  by_cases z : x < 0
  · have z1 := Int32.lt_iff_toInt_lt.mp z
    rw [if_pos z, if_pos (by omega), Int32.toInt_add]
    have e3 : (256 : Int32).toInt = 256 := rfl
    rw [e3]
    exact Int.bmod_eq_of_le (by omega) (by omega)
  · have z1 := Int32.le_iff_toInt_le.mp (Int32.not_lt.mp z)
    rw [if_neg z, if_neg (by omega)]
theorem ubv_c {x y : Int32} (h : inB x) (h1 : 0 ≤ y) (h2 : y ≤ 127) : ubv x = y ↔ x = y := by
  have e := ubv_i h
  have a1 := Int32.le_iff_toInt_le.mp h.1
  have a2 := Int32.le_iff_toInt_le.mp h.2
  have a3 := Int32.le_iff_toInt_le.mp h1
  have a4 := Int32.le_iff_toInt_le.mp h2
  have e1 : (-128 : Int32).toInt = -128 := rfl
  have e2 : (127 : Int32).toInt = 127 := rfl
  have e0 : (0 : Int32).toInt = 0 := rfl
  rw [← Int32.toInt_inj, ← Int32.toInt_inj, e]
  split <;> omega
theorem ubv_r {x lo hi : Int32} (h : inB x) (h1 : 0 ≤ lo) (h2 : hi ≤ 127) : (lo ≤ ubv x ∧ ubv x ≤ hi) ↔ (lo ≤ x ∧ x ≤ hi) := by
  have e := ubv_i h
  have a1 := Int32.le_iff_toInt_le.mp h.1
  have a2 := Int32.le_iff_toInt_le.mp h.2
  have a3 := Int32.le_iff_toInt_le.mp h1
  have a4 := Int32.le_iff_toInt_le.mp h2
  have e1 : (-128 : Int32).toInt = -128 := rfl
  have e2 : (127 : Int32).toInt = 127 := rfl
  have e0 : (0 : Int32).toInt = 0 := rfl
  rw [Int32.le_iff_toInt_le, Int32.le_iff_toInt_le, Int32.le_iff_toInt_le, Int32.le_iff_toInt_le, e]
  split <;> omega
theorem ubv_L {x : Int32} (h : inB x) : isLt (ubv x) = isLt x := decide_eq_decide.mpr (ubv_r h (by decide) (by decide))
theorem ubv_D {x : Int32} (h : inB x) : isDt (ubv x) = isDt x := decide_eq_decide.mpr (ubv_r h (by decide) (by decide))
theorem Lt_D {x : Int32} (h : isLt x = true) : isDt x = false := by
  have h1 := of_decide_eq_true h
  refine decide_eq_false (fun z => ?_)
  exact absurd (Int32.le_trans h1.1 z.2) (by decide)
/-- the tape as the reference has it; its token, and whether it is wrong -/
def TbM (h : HP) (l : Nat) (bt : Nat → Int32) : Prop := hI h 109 14 = nI l ∧ l ≤ 120 ∧ (∀ i, i < l → hI h 118 i = ubv (bt i) ∧ inB (bt i)) ∧ ∀ i, i < 90 → hI h 121 i = wdL.getD i 0
def scQ (a i : Nat) : Prop := a = 109 ∧ (i = 15 ∨ i = 16)
def scP (a i : Nat) : Prop := a = 109 ∧ (i = 15 ∨ i = 16 ∨ i = 18)
theorem TbM.sf {P : Nat → Nat → Prop} {h h2 : HP} {l : Nat} {bt : Nat → Int32} (t : TbM h l bt) (S : Sf P h h2) (n1 : ¬ P 109 14) (n2 : ∀ i, ¬ P 118 i) (n3 : ∀ i, ¬ P 121 i) : TbM h2 l bt := ⟨(S.2 _ _ n1).trans t.1, t.2.1, fun i hi => ⟨(S.2 _ _ (n2 i)).trans (t.2.2.1 i hi).1, (t.2.2.1 i hi).2⟩, fun i hi => (S.2 _ _ (n3 i)).trans (t.2.2.2 i hi)⟩
theorem Sf.tbP {h h2 : HP} {l : Nat} {bt : Nat → Int32} (S : Sf scP h h2) (t : TbM h l bt) : TbM h2 l bt := t.sf S (by unfold scP; omega) (fun i => by unfold scP; omega) (fun i => by unfold scP; omega)
theorem Sf.tbQ {h h2 : HP} {l : Nat} {bt : Nat → Int32} (S : Sf scQ h h2) (t : TbM h l bt) : TbM h2 l bt := t.sf S (by unfold scQ; omega) (fun i => by unfold scQ; omega) (fun i => by unfold scQ; omega)
theorem Sf.QP {h h2 : HP} (S : Sf scQ h h2) : Sf scP h h2 := S.mono (fun a i q => ⟨q.1, q.2.elim Or.inl (fun z => Or.inr (Or.inl z))⟩)
theorem byM_in {bt : Nat → Int32} {l k : Nat} (h : k < l) : byM bt l k = ubv (bt k) := if_pos h
theorem byM_out {bt : Nat → Int32} {l k : Nat} (h : ¬ k < l) : byM bt l k = -1 := if_neg h
theorem zX9_byteAt (X : EX) {h : HP} (F : Fx h) {l : Nat} {bt : Nat → Int32} (t : TbM h l bt) {k : Nat} (hk : k ≤ 1000) : Ct X mX9_byteAt 0 0 0 [vR (some 109), vI (nI k)] h (Rt (vI (byM bt l k)) h) := by
  refine ct_of rfl (Nat.le_of_ble_eq_true rfl) ?_
  have h120 := t.2.1
  refine e_iload_n aX9_byteAt_0 rfl ?_
  refine e_aload_n aX9_byteAt_1 rfl ?_
  refine e_getIF aX9_byteAt_2 fX9_248 rfl (fx_is F rfl) t.1 ?_
  refine e_icmp_ge aX9_byteAt_5 (fun c5 => ?_) (fun c5 => ?_)
  · -- 5: taken
    have q5 : ¬ k < l := (not_congr (nI_ltI (by omega) (by omega))).mp (Int32.not_lt.mpr c5)
    refine e_iconst (v := -1) aX9_byteAt_17 (by decide) ?_
    refine e_ireturn aX9_byteAt_18 rfl (Nat.le_refl _) (Nat.le_refl _) ?_
    exact ⟨by rw [byM_out q5], rfl⟩
  · -- 5: not taken
    have q5 : k < l := (nI_ltI (by omega) (by omega)).mp (Int32.not_le.mp c5)
    refine e_aload_n aX9_byteAt_8 rfl ?_
    refine e_getRF aX9_byteAt_9 fX9_38 rfl (fx_is F rfl) (fx_r (b := 118) F rfl) ?_
    refine e_iload_n aX9_byteAt_12 rfl ?_
    refine e_ialoadF aX9_byteAt_13 (fx_is F rfl) (fx_n (n := 120) F rfl) (vin (N := 120) (by omega)) (show hI h 118 (nI k).toNatClampNeg = byM bt l k by rw [cl (by omega), byM_in q5]; exact (t.2.2.1 k q5).1) ?_
    refine e_goto aX9_byteAt_14 ?_
    refine e_ireturn aX9_byteAt_18 rfl (Nat.le_refl _) (Nat.le_refl _) ?_
    exact ⟨rfl, rfl⟩
theorem zX9_isLetter (X : EX) {h : HP} (x : Int32) : Ct X mX9_isLetter 1 0 0 [vI x] h (Rt (vI (b2 (isLt x = true))) h) := by
  refine ct_of rfl (Nat.le_of_ble_eq_true rfl) ?_
  refine e_iload_n aX9_isLetter_0 rfl ?_
  refine e_i2l aX9_isLetter_1 ?_
  refine e_ldc2 aX9_isLetter_2 lX9_251 ?_
  refine e_ldc2 aX9_isLetter_5 lX9_253 ?_
  refine e_invsT aX9_isLetter_8 kX9_108 (zin X x 97 122 rfl rfl) rfl rfl (Nat.le_of_ble_eq_true rfl) (Nat.le_of_ble_eq_true rfl) (Nat.le_refl _) (Nat.le_refl _) (Nat.le_of_ble_eq_true rfl) ?_
  refine e_zreturn aX9_isLetter_11 rfl b2_b (Nat.le_refl _) (Nat.le_refl _) ?_
  exact ⟨by rw [b2_c (show (97 ≤ x ∧ x ≤ 122) ↔ isLt x = true from ⟨fun z => decide_eq_true z, fun z => of_decide_eq_true z⟩)], rfl⟩
theorem zX9_isDigit (X : EX) {h : HP} (x : Int32) : Ct X mX9_isDigit 1 0 0 [vI x] h (Rt (vI (b2 (isDt x = true))) h) := by
  refine ct_of rfl (Nat.le_of_ble_eq_true rfl) ?_
  refine e_iload_n aX9_isDigit_0 rfl ?_
  refine e_i2l aX9_isDigit_1 ?_
  refine e_ldc2 aX9_isDigit_2 lX9_255 ?_
  refine e_ldc2 aX9_isDigit_5 lX9_257 ?_
  refine e_invsT aX9_isDigit_8 kX9_108 (zin X x 48 57 rfl rfl) rfl rfl (Nat.le_of_ble_eq_true rfl) (Nat.le_of_ble_eq_true rfl) (Nat.le_refl _) (Nat.le_refl _) (Nat.le_of_ble_eq_true rfl) ?_
  refine e_zreturn aX9_isDigit_11 rfl b2_b (Nat.le_refl _) (Nat.le_refl _) ?_
  exact ⟨by rw [b2_c (show (48 ≤ x ∧ x ≤ 57) ↔ isDt x = true from ⟨fun z => decide_eq_true z, fun z => of_decide_eq_true z⟩)], rfl⟩
def PPx (wd nb : Bool) (x : Int32) : Bool := (wd && isLt x) || (nb && isDt x)
theorem PPx_L : PPx true false = isLt := funext (fun x => by unfold PPx; simp)
theorem PPx_D : PPx false true = isDt := funext (fun x => by unfold PPx; simp)
theorem PPx_0 : PPx false false = fun _ => false := funext (fun x => by unfold PPx; simp)
theorem rnE_0 {bt : Nat → Int32} {m a : Nat} : rnE (fun _ => false) bt m a = a := by
  cases m with
  | zero => rfl
  | succ m => rw [rnE_s, if_neg (by decide)]
theorem tkE_P {bt : Nat → Int32} {l a : Nat} (hb : ∀ i, i < l → inB (bt i)) : tkE bt l a = rnE (PPx (isLt (byM bt l a)) (isDt (byM bt l a))) bt (l - (if a < l then a + 1 else a)) (if a < l then a + 1 else a) := by
  unfold tkE
  by_cases z : a < l
  · rw [if_pos z, if_pos z, byM_in z, ubv_L (hb a z), ubv_D (hb a z)]
    by_cases z1 : isLt (bt a) = true
    · rw [if_pos z1, z1, Lt_D z1, PPx_L]
    · rw [if_neg z1]
      by_cases z2 : isDt (bt a) = true
      · rw [if_pos z2, z2, Bool.eq_false_iff.mpr z1, PPx_D]
      · rw [if_neg z2, Bool.eq_false_iff.mpr z1, Bool.eq_false_iff.mpr z2, PPx_0, rnE_0]
  · rw [if_neg z, if_neg z, byM_out z, show isLt (-1) = false from rfl, show isDt (-1) = false from rfl, PPx_0, rnE_0]
theorem zX9_token (X : EX) {h0 : HP} (F0 : Fx h0) {l : Nat} {bt : Nat → Int32} (t0 : TbM h0 l bt) {p : PT} (hp : hI h0 109 16 = nI p.2) (hpl : p.2 ≤ l) : Ct X mX9_token 2 0 0 [vR (some 109)] h0 (fun v h' => v = none ∧ Sf scQ h0 h' ∧ hI h' 109 15 = nI (nxT bt l p).1 ∧ hI h' 109 16 = nI (nxT bt l p).2) := by
  refine ct_of rfl (Nat.le_of_ble_eq_true rfl) ?_
  have h120 := t0.2.1
  have lB : ∀ (wd nb : Bool) (m j : Nat) (hz : HP), j + m = l → Sf scQ h0 hz → hI hz 109 15 = nI (nxT bt l p).1 → hI hz 109 16 = nI j → rnE (PPx wd nb) bt m j = (nxT bt l p).2 → Ev X mX9_token 2 0 0 (fun v h' => v = none ∧ Sf scQ h0 h' ∧ hI h' 109 15 = nI (nxT bt l p).1 ∧ hI h' 109 16 = nI (nxT bt l p).2) 0 0 86 [(0, some (vR (some 109))), (1, some (vI (b2 (wd = true)))), (2, some (vI (b2 (nb = true))))] [] hz := by
    intro wd nb m
    induction m with
    | zero =>
      intro j hz hj S hA hE hR
      have hR : j = (nxT bt l p).2 := hR
      have F := S.F F0
      have t := S.tbQ t0
      refine e_iload_n aX9_token_86 rfl ?_
      refine e_if_eq aX9_token_87 (fun c87 => ?_) (fun c87 => ?_)
      · -- 87: taken
        have q87 := b2_0.mp c87
        refine e_iload_n aX9_token_104 rfl ?_
        refine e_if_eq aX9_token_105 (fun c105 => ?_) (fun c105 => ?_)
        · -- 105: taken
          have q105 := b2_0.mp c105
          refine e_return aX9_token_135 rfl (Nat.le_refl _) (Nat.le_refl _) ?_
          exact ⟨rfl, S, hA, by rw [hE]; exact congrArg nI hR⟩
        · -- 105: not taken
          have q105 := Decidable.of_not_not (fun z => c105 (b2_0.mpr z))
          refine e_aload_n aX9_token_108 rfl ?_
          refine e_aload_n aX9_token_109 rfl ?_
          refine e_getIF aX9_token_110 fX9_259 rfl (fx_is F rfl) hE ?_
          refine e_invvT aX9_token_113 kX9_265 (zX9_byteAt X F t (k := j) (by omega)) rfl rfl (fx_is F rfl) (Nat.le_of_ble_eq_true rfl) (Nat.le_of_ble_eq_true rfl) (Nat.le_refl _) (Nat.le_refl _) (Nat.le_of_ble_eq_true rfl) ?_
          refine e_invsT aX9_token_116 kX9_271 (zX9_isDigit X _) rfl rfl (Nat.le_of_ble_eq_true rfl) (Nat.le_of_ble_eq_true rfl) (Nat.le_refl _) (Nat.le_refl _) (Nat.le_of_ble_eq_true rfl) ?_
          refine e_if_eq aX9_token_119 (fun c119 => ?_) (fun c119 => ?_)
          · -- 119: taken
            have q119 := b2_0.mp c119
            refine e_return aX9_token_135 rfl (Nat.le_refl _) (Nat.le_refl _) ?_
            exact ⟨rfl, S, hA, by rw [hE]; exact congrArg nI hR⟩
          · -- 119: not taken
            have q119 := Decidable.of_not_not (fun z => c119 (b2_0.mpr z))
            rw [byM_out (by omega)] at q119
            exact absurd q119 (by decide)
      · -- 87: not taken
        have q87 := Decidable.of_not_not (fun z => c87 (b2_0.mpr z))
        refine e_aload_n aX9_token_90 rfl ?_
        refine e_aload_n aX9_token_91 rfl ?_
        refine e_getIF aX9_token_92 fX9_259 rfl (fx_is F rfl) hE ?_
        refine e_invvT aX9_token_95 kX9_265 (zX9_byteAt X F t (k := j) (by omega)) rfl rfl (fx_is F rfl) (Nat.le_of_ble_eq_true rfl) (Nat.le_of_ble_eq_true rfl) (Nat.le_refl _) (Nat.le_refl _) (Nat.le_of_ble_eq_true rfl) ?_
        refine e_invsT aX9_token_98 kX9_268 (zX9_isLetter X _) rfl rfl (Nat.le_of_ble_eq_true rfl) (Nat.le_of_ble_eq_true rfl) (Nat.le_refl _) (Nat.le_refl _) (Nat.le_of_ble_eq_true rfl) ?_
        refine e_if_ne aX9_token_101 (fun c101 => ?_) (fun c101 => ?_)
        · -- 101: taken
          have q101 := Decidable.of_not_not (fun z => c101 (b2_0.mpr z))
          rw [byM_out (by omega)] at q101
          exact absurd q101 (by decide)
        · -- 101: not taken
          have q101 := b2_0.mp c101
          refine e_iload_n aX9_token_104 rfl ?_
          refine e_if_eq aX9_token_105 (fun c105 => ?_) (fun c105 => ?_)
          · -- 105: taken
            have q105 := b2_0.mp c105
            refine e_return aX9_token_135 rfl (Nat.le_refl _) (Nat.le_refl _) ?_
            exact ⟨rfl, S, hA, by rw [hE]; exact congrArg nI hR⟩
          · -- 105: not taken
            have q105 := Decidable.of_not_not (fun z => c105 (b2_0.mpr z))
            refine e_aload_n aX9_token_108 rfl ?_
            refine e_aload_n aX9_token_109 rfl ?_
            refine e_getIF aX9_token_110 fX9_259 rfl (fx_is F rfl) hE ?_
            refine e_invvT aX9_token_113 kX9_265 (zX9_byteAt X F t (k := j) (by omega)) rfl rfl (fx_is F rfl) (Nat.le_of_ble_eq_true rfl) (Nat.le_of_ble_eq_true rfl) (Nat.le_refl _) (Nat.le_refl _) (Nat.le_of_ble_eq_true rfl) ?_
            refine e_invsT aX9_token_116 kX9_271 (zX9_isDigit X _) rfl rfl (Nat.le_of_ble_eq_true rfl) (Nat.le_of_ble_eq_true rfl) (Nat.le_refl _) (Nat.le_refl _) (Nat.le_of_ble_eq_true rfl) ?_
            refine e_if_eq aX9_token_119 (fun c119 => ?_) (fun c119 => ?_)
            · -- 119: taken
              have q119 := b2_0.mp c119
              refine e_return aX9_token_135 rfl (Nat.le_refl _) (Nat.le_refl _) ?_
              exact ⟨rfl, S, hA, by rw [hE]; exact congrArg nI hR⟩
            · -- 119: not taken
              have q119 := Decidable.of_not_not (fun z => c119 (b2_0.mpr z))
              rw [byM_out (by omega)] at q119
              exact absurd q119 (by decide)
    | succ m ihm =>
      intro j hz hj S hA hE hR
      have F := S.F F0
      have t := S.tbQ t0
      have hjl : j < l := by omega
      have hb1 : isLt (byM bt l j) = isLt (bt j) := by rw [byM_in hjl]; exact ubv_L (t.2.2.1 j hjl).2
      have hb2 : isDt (byM bt l j) = isDt (bt j) := by rw [byM_in hjl]; exact ubv_D (t.2.2.1 j hjl).2
      refine e_iload_n aX9_token_86 rfl ?_
      refine e_if_eq aX9_token_87 (fun c87 => ?_) (fun c87 => ?_)
      · -- 87: taken
        have q87 := b2_0.mp c87
        refine e_iload_n aX9_token_104 rfl ?_
        refine e_if_eq aX9_token_105 (fun c105 => ?_) (fun c105 => ?_)
        · -- 105: taken
          have q105 := b2_0.mp c105
          refine e_return aX9_token_135 rfl (Nat.le_refl _) (Nat.le_refl _) ?_
          have q9 : ¬ PPx wd nb (bt j) = true := by unfold PPx; grind
          rw [rnE_s, if_neg q9] at hR
          exact ⟨rfl, S, hA, by rw [hE]; exact congrArg nI hR⟩
        · -- 105: not taken
          have q105 := Decidable.of_not_not (fun z => c105 (b2_0.mpr z))
          refine e_aload_n aX9_token_108 rfl ?_
          refine e_aload_n aX9_token_109 rfl ?_
          refine e_getIF aX9_token_110 fX9_259 rfl (fx_is F rfl) hE ?_
          refine e_invvT aX9_token_113 kX9_265 (zX9_byteAt X F t (k := j) (by omega)) rfl rfl (fx_is F rfl) (Nat.le_of_ble_eq_true rfl) (Nat.le_of_ble_eq_true rfl) (Nat.le_refl _) (Nat.le_refl _) (Nat.le_of_ble_eq_true rfl) ?_
          refine e_invsT aX9_token_116 kX9_271 (zX9_isDigit X _) rfl rfl (Nat.le_of_ble_eq_true rfl) (Nat.le_of_ble_eq_true rfl) (Nat.le_refl _) (Nat.le_refl _) (Nat.le_of_ble_eq_true rfl) ?_
          refine e_if_eq aX9_token_119 (fun c119 => ?_) (fun c119 => ?_)
          · -- 119: taken
            have q119 := b2_0.mp c119
            refine e_return aX9_token_135 rfl (Nat.le_refl _) (Nat.le_refl _) ?_
            have q9 : ¬ PPx wd nb (bt j) = true := by unfold PPx; grind
            rw [rnE_s, if_neg q9] at hR
            exact ⟨rfl, S, hA, by rw [hE]; exact congrArg nI hR⟩
          · -- 119: not taken
            have q119 := Decidable.of_not_not (fun z => c119 (b2_0.mpr z))
            refine e_aload_n aX9_token_122 rfl ?_
            refine e_dup aX9_token_123 rfl ?_
            refine e_getIF aX9_token_124 fX9_259 rfl (fx_is F rfl) hE ?_
            refine e_iconst (v := 1) aX9_token_127 (by decide) ?_
            refine e_iadd aX9_token_128 ?_
            refine e_top (nI_1 j) ?_
            refine e_putI aX9_token_129 fX9_259 rfl (fx_is F rfl) (Or.inl rfl) ?_
            refine e_goto aX9_token_132 ?_
            have q9 : PPx wd nb (bt j) = true := by unfold PPx; grind
            rw [rnE_s, if_pos q9] at hR
            refine e_ls (ls' := [(0, some (vR (some 109))), (1, some (vI (b2 (wd = true)))), (2, some (vI (b2 (nb = true))))]) ⟨rfl, rfl, rfl, trivial⟩ ?_
            exact ihm (j + 1) _ (by omega) (S.wI ⟨rfl, Or.inr rfl⟩) ((wI_i (by decide)).trans hA) wI_s hR
      · -- 87: not taken
        have q87 := Decidable.of_not_not (fun z => c87 (b2_0.mpr z))
        refine e_aload_n aX9_token_90 rfl ?_
        refine e_aload_n aX9_token_91 rfl ?_
        refine e_getIF aX9_token_92 fX9_259 rfl (fx_is F rfl) hE ?_
        refine e_invvT aX9_token_95 kX9_265 (zX9_byteAt X F t (k := j) (by omega)) rfl rfl (fx_is F rfl) (Nat.le_of_ble_eq_true rfl) (Nat.le_of_ble_eq_true rfl) (Nat.le_refl _) (Nat.le_refl _) (Nat.le_of_ble_eq_true rfl) ?_
        refine e_invsT aX9_token_98 kX9_268 (zX9_isLetter X _) rfl rfl (Nat.le_of_ble_eq_true rfl) (Nat.le_of_ble_eq_true rfl) (Nat.le_refl _) (Nat.le_refl _) (Nat.le_of_ble_eq_true rfl) ?_
        refine e_if_ne aX9_token_101 (fun c101 => ?_) (fun c101 => ?_)
        · -- 101: taken
          have q101 := Decidable.of_not_not (fun z => c101 (b2_0.mpr z))
          refine e_aload_n aX9_token_122 rfl ?_
          refine e_dup aX9_token_123 rfl ?_
          refine e_getIF aX9_token_124 fX9_259 rfl (fx_is F rfl) hE ?_
          refine e_iconst (v := 1) aX9_token_127 (by decide) ?_
          refine e_iadd aX9_token_128 ?_
          refine e_top (nI_1 j) ?_
          refine e_putI aX9_token_129 fX9_259 rfl (fx_is F rfl) (Or.inl rfl) ?_
          refine e_goto aX9_token_132 ?_
          have q9 : PPx wd nb (bt j) = true := by unfold PPx; grind
          rw [rnE_s, if_pos q9] at hR
          refine e_ls (ls' := [(0, some (vR (some 109))), (1, some (vI (b2 (wd = true)))), (2, some (vI (b2 (nb = true))))]) ⟨rfl, rfl, rfl, trivial⟩ ?_
          exact ihm (j + 1) _ (by omega) (S.wI ⟨rfl, Or.inr rfl⟩) ((wI_i (by decide)).trans hA) wI_s hR
        · -- 101: not taken
          have q101 := b2_0.mp c101
          refine e_iload_n aX9_token_104 rfl ?_
          refine e_if_eq aX9_token_105 (fun c105 => ?_) (fun c105 => ?_)
          · -- 105: taken
            have q105 := b2_0.mp c105
            refine e_return aX9_token_135 rfl (Nat.le_refl _) (Nat.le_refl _) ?_
            have q9 : ¬ PPx wd nb (bt j) = true := by unfold PPx; grind
            rw [rnE_s, if_neg q9] at hR
            exact ⟨rfl, S, hA, by rw [hE]; exact congrArg nI hR⟩
          · -- 105: not taken
            have q105 := Decidable.of_not_not (fun z => c105 (b2_0.mpr z))
            refine e_aload_n aX9_token_108 rfl ?_
            refine e_aload_n aX9_token_109 rfl ?_
            refine e_getIF aX9_token_110 fX9_259 rfl (fx_is F rfl) hE ?_
            refine e_invvT aX9_token_113 kX9_265 (zX9_byteAt X F t (k := j) (by omega)) rfl rfl (fx_is F rfl) (Nat.le_of_ble_eq_true rfl) (Nat.le_of_ble_eq_true rfl) (Nat.le_refl _) (Nat.le_refl _) (Nat.le_of_ble_eq_true rfl) ?_
            refine e_invsT aX9_token_116 kX9_271 (zX9_isDigit X _) rfl rfl (Nat.le_of_ble_eq_true rfl) (Nat.le_of_ble_eq_true rfl) (Nat.le_refl _) (Nat.le_refl _) (Nat.le_of_ble_eq_true rfl) ?_
            refine e_if_eq aX9_token_119 (fun c119 => ?_) (fun c119 => ?_)
            · -- 119: taken
              have q119 := b2_0.mp c119
              refine e_return aX9_token_135 rfl (Nat.le_refl _) (Nat.le_refl _) ?_
              have q9 : ¬ PPx wd nb (bt j) = true := by unfold PPx; grind
              rw [rnE_s, if_neg q9] at hR
              exact ⟨rfl, S, hA, by rw [hE]; exact congrArg nI hR⟩
            · -- 119: not taken
              have q119 := Decidable.of_not_not (fun z => c119 (b2_0.mpr z))
              refine e_aload_n aX9_token_122 rfl ?_
              refine e_dup aX9_token_123 rfl ?_
              refine e_getIF aX9_token_124 fX9_259 rfl (fx_is F rfl) hE ?_
              refine e_iconst (v := 1) aX9_token_127 (by decide) ?_
              refine e_iadd aX9_token_128 ?_
              refine e_top (nI_1 j) ?_
              refine e_putI aX9_token_129 fX9_259 rfl (fx_is F rfl) (Or.inl rfl) ?_
              refine e_goto aX9_token_132 ?_
              have q9 : PPx wd nb (bt j) = true := by unfold PPx; grind
              rw [rnE_s, if_pos q9] at hR
              refine e_ls (ls' := [(0, some (vR (some 109))), (1, some (vI (b2 (wd = true)))), (2, some (vI (b2 (nb = true))))]) ⟨rfl, rfl, rfl, trivial⟩ ?_
              exact ihm (j + 1) _ (by omega) (S.wI ⟨rfl, Or.inr rfl⟩) ((wI_i (by decide)).trans hA) wI_s hR
  have T34 : ∀ (a : Nat) (hz : HP), a ≤ l → Sf scQ h0 hz → hI hz 109 15 = nI a → a = (nxT bt l p).1 → Ev X mX9_token 2 0 0 (fun v h' => v = none ∧ Sf scQ h0 h' ∧ hI h' 109 15 = nI (nxT bt l p).1 ∧ hI h' 109 16 = nI (nxT bt l p).2) 0 0 34 [(0, some (vR (some 109)))] [] hz := by
    intro a hz hal S hA ha
    have F := S.F F0
    have t := S.tbQ t0
    have hE2 := tkE_P (a := a) (fun i hi => (t.2.2.1 i hi).2)
    refine e_aload_n aX9_token_34 rfl ?_
    refine e_aload_n aX9_token_35 rfl ?_
    refine e_getIF aX9_token_36 fX9_262 rfl (fx_is F rfl) hA ?_
    refine e_invvT aX9_token_39 kX9_265 (zX9_byteAt X F t (k := a) (by omega)) rfl rfl (fx_is F rfl) (Nat.le_of_ble_eq_true rfl) (Nat.le_of_ble_eq_true rfl) (Nat.le_refl _) (Nat.le_refl _) (Nat.le_of_ble_eq_true rfl) ?_
    refine e_invsT aX9_token_42 kX9_268 (zX9_isLetter X _) rfl rfl (Nat.le_of_ble_eq_true rfl) (Nat.le_of_ble_eq_true rfl) (Nat.le_refl _) (Nat.le_refl _) (Nat.le_of_ble_eq_true rfl) ?_
    refine e_istore_n aX9_token_45 (Nat.le_of_ble_eq_true rfl) ?_
    refine e_aload_n aX9_token_46 rfl ?_
    refine e_aload_n aX9_token_47 rfl ?_
    refine e_getIF aX9_token_48 fX9_262 rfl (fx_is F rfl) hA ?_
    refine e_invvT aX9_token_51 kX9_265 (zX9_byteAt X F t (k := a) (by omega)) rfl rfl (fx_is F rfl) (Nat.le_of_ble_eq_true rfl) (Nat.le_of_ble_eq_true rfl) (Nat.le_refl _) (Nat.le_refl _) (Nat.le_of_ble_eq_true rfl) ?_
    refine e_invsT aX9_token_54 kX9_271 (zX9_isDigit X _) rfl rfl (Nat.le_of_ble_eq_true rfl) (Nat.le_of_ble_eq_true rfl) (Nat.le_refl _) (Nat.le_refl _) (Nat.le_of_ble_eq_true rfl) ?_
    refine e_istore_n aX9_token_57 (Nat.le_of_ble_eq_true rfl) ?_
    refine e_aload_n aX9_token_58 rfl ?_
    refine e_aload_n aX9_token_59 rfl ?_
    refine e_getIF aX9_token_60 fX9_262 rfl (fx_is F rfl) hA ?_
    refine e_aload_n aX9_token_63 rfl ?_
    refine e_getIF aX9_token_64 fX9_248 rfl (fx_is F rfl) t.1 ?_
    refine e_icmp_ge aX9_token_67 (fun c67 => ?_) (fun c67 => ?_)
    · -- 67: taken
      have q67 : ¬ a < l := (not_congr (nI_ltI (by omega) (by omega))).mp (Int32.not_lt.mpr c67)
      rw [if_neg q67] at hE2
      refine e_aload_n aX9_token_79 rfl ?_
      refine e_getIF aX9_token_80 fX9_262 rfl (fx_is F rfl) hA ?_
      refine e_putI aX9_token_83 fX9_259 rfl (fx_is F rfl) (Or.inl rfl) ?_
      refine e_ls (ls' := [(0, some (vR (some 109))), (1, some (vI (b2 (isLt (byM bt l a) = true)))), (2, some (vI (b2 (isDt (byM bt l a) = true))))]) ⟨rfl, rfl, rfl, trivial⟩ ?_
      exact lB (isLt (byM bt l a)) (isDt (byM bt l a)) (l - a) a _ (by omega) (S.wI ⟨rfl, Or.inr rfl⟩) ((wI_i (by decide)).trans (hA.trans (congrArg nI ha))) wI_s (hE2.symm.trans (by rw [ha]; rfl))
    · -- 67: not taken
      have q67 : a < l := (nI_ltI (by omega) (by omega)).mp (Int32.not_le.mp c67)
      rw [if_pos q67] at hE2
      refine e_aload_n aX9_token_70 rfl ?_
      refine e_getIF aX9_token_71 fX9_262 rfl (fx_is F rfl) hA ?_
      refine e_iconst (v := 1) aX9_token_74 (by decide) ?_
      refine e_iadd aX9_token_75 ?_
      refine e_top (nI_1 a) ?_
      refine e_goto aX9_token_76 ?_
      refine e_putI aX9_token_83 fX9_259 rfl (fx_is F rfl) (Or.inl rfl) ?_
      refine e_ls (ls' := [(0, some (vR (some 109))), (1, some (vI (b2 (isLt (byM bt l a) = true)))), (2, some (vI (b2 (isDt (byM bt l a) = true))))]) ⟨rfl, rfl, rfl, trivial⟩ ?_
      exact lB (isLt (byM bt l a)) (isDt (byM bt l a)) (l - (a + 1)) (a + 1) _ (by omega) (S.wI ⟨rfl, Or.inr rfl⟩) ((wI_i (by decide)).trans (hA.trans (congrArg nI ha))) wI_s (hE2.symm.trans (by rw [ha]; rfl))
  have lA : ∀ (m k : Nat) (hz : HP), k + m = l → Sf scQ h0 hz → hI hz 109 15 = nI k → rnE isSp bt m k = (nxT bt l p).1 → Ev X mX9_token 2 0 0 (fun v h' => v = none ∧ Sf scQ h0 h' ∧ hI h' 109 15 = nI (nxT bt l p).1 ∧ hI h' 109 16 = nI (nxT bt l p).2) 0 0 8 [(0, some (vR (some 109)))] [] hz := by
    intro m
    induction m with
    | zero =>
      intro k hz hk S hA hR
      have hR : k = (nxT bt l p).1 := hR
      have F := S.F F0
      have t := S.tbQ t0
      refine e_aload_n aX9_token_8 rfl ?_
      refine e_aload_n aX9_token_9 rfl ?_
      refine e_getIF aX9_token_10 fX9_262 rfl (fx_is F rfl) hA ?_
      refine e_invvT aX9_token_13 kX9_265 (zX9_byteAt X F t (k := k) (by omega)) rfl rfl (fx_is F rfl) (Nat.le_of_ble_eq_true rfl) (Nat.le_of_ble_eq_true rfl) (Nat.le_refl _) (Nat.le_refl _) (Nat.le_of_ble_eq_true rfl) ?_
      refine e_bipush (v := 32) aX9_token_16 (by decide) ?_
      refine e_icmp_ne aX9_token_18 (fun c18 => ?_) (fun c18 => ?_)
      · -- 18: taken
        refine e_ls (ls' := [(0, some (vR (some 109)))]) ⟨rfl, trivial⟩ ?_
        exact T34 k hz (by omega) S hA hR
      · -- 18: not taken
        rw [byM_out (by omega)] at c18
        exact absurd c18 (by decide)
    | succ m ihm =>
      intro k hz hk S hA hR
      have F := S.F F0
      have t := S.tbQ t0
      have hkl : k < l := by omega
      have hkb := (t.2.2.1 k hkl).2
      refine e_aload_n aX9_token_8 rfl ?_
      refine e_aload_n aX9_token_9 rfl ?_
      refine e_getIF aX9_token_10 fX9_262 rfl (fx_is F rfl) hA ?_
      refine e_invvT aX9_token_13 kX9_265 (zX9_byteAt X F t (k := k) (by omega)) rfl rfl (fx_is F rfl) (Nat.le_of_ble_eq_true rfl) (Nat.le_of_ble_eq_true rfl) (Nat.le_refl _) (Nat.le_refl _) (Nat.le_of_ble_eq_true rfl) ?_
      refine e_bipush (v := 32) aX9_token_16 (by decide) ?_
      refine e_icmp_ne aX9_token_18 (fun c18 => ?_) (fun c18 => ?_)
      · -- 18: taken
        rw [byM_in hkl] at c18
        have q18 : ¬ isSp (bt k) = true := fun z => c18 ((ubv_c hkb (by decide) (by decide)).mpr (of_decide_eq_true z))
        rw [rnE_s, if_neg q18] at hR
        refine e_ls (ls' := [(0, some (vR (some 109)))]) ⟨rfl, trivial⟩ ?_
        exact T34 k hz (by omega) S hA hR
      · -- 18: not taken
        rw [byM_in hkl] at c18
        have q18 : isSp (bt k) = true := decide_eq_true ((ubv_c hkb (by decide) (by decide)).mp c18)
        rw [rnE_s, if_pos q18] at hR
        refine e_aload_n aX9_token_21 rfl ?_
        refine e_dup aX9_token_22 rfl ?_
        refine e_getIF aX9_token_23 fX9_262 rfl (fx_is F rfl) hA ?_
        refine e_iconst (v := 1) aX9_token_26 (by decide) ?_
        refine e_iadd aX9_token_27 ?_
        refine e_top (nI_1 k) ?_
        refine e_putI aX9_token_28 fX9_262 rfl (fx_is F rfl) (Or.inl rfl) ?_
        refine e_goto aX9_token_31 ?_
        refine e_ls (ls' := [(0, some (vR (some 109)))]) ⟨rfl, trivial⟩ ?_
        exact ihm (k + 1) _ (by omega) (S.wI ⟨rfl, Or.inl rfl⟩) wI_s hR
  refine e_aload_n aX9_token_0 rfl ?_
  refine e_aload_n aX9_token_1 rfl ?_
  refine e_getIF aX9_token_2 fX9_259 rfl (fx_is F0 rfl) hp ?_
  refine e_putI aX9_token_5 fX9_262 rfl (fx_is F0 rfl) (Or.inl rfl) ?_
  refine e_ls (ls' := [(0, some (vR (some 109)))]) ⟨rfl, trivial⟩ ?_
  exact lA (l - p.2) p.2 _ (by omega) ((Sf.rf h0).wI ⟨rfl, Or.inl rfl⟩) wI_s rfl
/-- whether it is wrong, and the token -/
abbrev SM : Type := Bool × PT
def PsM (h : HP) (u : SM) : Prop := hI h 109 15 = nI u.2.1 ∧ hI h 109 16 = nI u.2.2 ∧ hI h 109 18 = b2 (u.1 = true)
def mF (bt : Nat → Int32) (l : Nat) (q : Bool) (u : SM) : SM := if u.1 = true then u else if q = true then (false, nxT bt l u.2) else (true, u.2)
theorem mF_t {bt : Nat → Int32} {l : Nat} {q : Bool} {u : SM} (h : u.1 = true) : mF bt l q u = u := if_pos h
theorem PsM.w {h : HP} {u : SM} (q : PsM h u) (h1 : u.1 = false) : PsM (wI h 109 18 1) (true, u.2) := ⟨(wI_i (by decide)).trans q.1, (wI_i (by decide)).trans q.2.1, wI_s⟩
theorem PsM.z {h : HP} {u : SM} (q : PsM h u) {v : Int32} (h1 : v = b2 (u.1 = true)) : PsM (wI h 109 18 v) u := ⟨(wI_i (by decide)).trans q.1, (wI_i (by decide)).trans q.2.1, wI_s.trans h1⟩
theorem zX9_must (X : EX) {h0 : HP} (F : Fx h0) {l : Nat} {bt : Nat → Int32} (t : TbM h0 l bt) {u : SM} (ps : PsM h0 u) (hpl : u.2.2 ≤ l) (q : Bool) : Ct X mX9_must 3 0 0 [vR (some 109), vI (b2 (q = true))] h0 (fun v h' => v = none ∧ Sf scP h0 h' ∧ PsM h' (mF bt l q u)) := by
  refine ct_of rfl (Nat.le_of_ble_eq_true rfl) ?_
  refine e_aload_n aX9_must_0 rfl ?_
  refine e_aload_n aX9_must_1 rfl ?_
  refine e_getIF aX9_must_2 fX9_274 rfl (fx_is F rfl) ps.2.2 ?_
  refine e_if_ne aX9_must_5 (fun c5 => ?_) (fun c5 => ?_)
  · -- 5: taken
    have q5 : u.1 = true := Decidable.of_not_not (fun z => c5 (b2_0.mpr z))
    refine e_iconst (v := 1) aX9_must_12 (by decide) ?_
    refine e_goto aX9_must_13 ?_
    refine e_putZ aX9_must_17 fX9_274 rfl (fx_is F rfl) (Or.inl rfl) (by decide) ?_
    refine e_aload_n aX9_must_20 rfl ?_
    refine e_getIF aX9_must_21 fX9_274 rfl (fx_is F rfl) wI_s ?_
    refine e_if_ne aX9_must_24 (fun c24 => ?_) (fun c24 => ?_)
    · -- 24: taken
      skip
      refine e_return aX9_must_31 rfl (Nat.le_refl _) (Nat.le_refl _) ?_
      exact ⟨rfl, (Sf.rf h0).wI ⟨rfl, Or.inr (Or.inr rfl)⟩, by rw [mF_t q5]; exact ps.z (b2_t q5).symm⟩
    · -- 24: not taken
      exact absurd c24 (by decide)
  · -- 5: not taken
    have q5 : ¬ u.1 = true := b2_0.mp c5
    refine e_iload_n aX9_must_8 rfl ?_
    refine e_if_ne aX9_must_9 (fun c9 => ?_) (fun c9 => ?_)
    · -- 9: taken
      have q9 : q = true := Decidable.of_not_not (fun z => c9 (b2_0.mpr z))
      refine e_iconst (v := 0) aX9_must_16 (by decide) ?_
      refine e_putZ aX9_must_17 fX9_274 rfl (fx_is F rfl) (Or.inl rfl) (by decide) ?_
      refine e_aload_n aX9_must_20 rfl ?_
      refine e_getIF aX9_must_21 fX9_274 rfl (fx_is F rfl) wI_s ?_
      refine e_if_ne aX9_must_24 (fun c24 => ?_) (fun c24 => ?_)
      · -- 24: taken
        exact absurd rfl c24
      · -- 24: not taken
        skip
        refine e_aload_n aX9_must_27 rfl ?_
        refine e_invv aX9_must_28 kX9_278 (zX9_token X (h0 := wI h0 109 18 0) F (((Sf.rf h0).wI ⟨rfl, Or.inr (Or.inr rfl)⟩ : Sf scP h0 (wI h0 109 18 0)).tbP t) (p := u.2) ((wI_i (by decide)).trans ps.2.1) hpl) rfl rfl (fx_is F rfl) (Nat.le_of_ble_eq_true rfl) (Nat.le_of_ble_eq_true rfl) (Nat.le_refl _) (Nat.le_refl _) (Nat.le_of_ble_eq_true rfl) ?_
        rintro v h2 ⟨rfl, S1, z1, z2⟩
        refine e_return aX9_must_31 rfl (Nat.le_refl _) (Nat.le_refl _) ?_
        have e9 : mF bt l q u = (false, nxT bt l u.2) := (if_neg q5).trans (if_pos q9)
        exact ⟨rfl, ((Sf.rf h0).wI ⟨rfl, Or.inr (Or.inr rfl)⟩).tr S1.QP, by rw [e9]; exact ⟨z1, z2, (S1.2 _ _ (by unfold scQ; omega)).trans (wI_s)⟩⟩
    · -- 9: not taken
      have q9 : ¬ q = true := b2_0.mp c9
      refine e_iconst (v := 1) aX9_must_12 (by decide) ?_
      refine e_goto aX9_must_13 ?_
      refine e_putZ aX9_must_17 fX9_274 rfl (fx_is F rfl) (Or.inl rfl) (by decide) ?_
      refine e_aload_n aX9_must_20 rfl ?_
      refine e_getIF aX9_must_21 fX9_274 rfl (fx_is F rfl) wI_s ?_
      refine e_if_ne aX9_must_24 (fun c24 => ?_) (fun c24 => ?_)
      · -- 24: taken
        skip
        refine e_return aX9_must_31 rfl (Nat.le_refl _) (Nat.le_refl _) ?_
        have e9 : mF bt l q u = (true, u.2) := (if_neg q5).trans (if_neg q9)
        exact ⟨rfl, (Sf.rf h0).wI ⟨rfl, Or.inr (Or.inr rfl)⟩, by rw [e9]; exact ps.w (Bool.eq_false_iff.mpr q5)⟩
      · -- 24: not taken
        exact absurd c24 (by decide)
