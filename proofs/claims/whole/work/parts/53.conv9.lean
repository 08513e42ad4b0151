/-! the reference: what its cells hold; who conveys what (written by wip/whole/g53.py) -/
/-- ints changed at places of P alone -/
def Sf (P : Nat → Nat → Prop) (h h' : HP) : Prop := h'.2 = h.2 ∧ ∀ a i, ¬ P a i → hI h' a i = hI h a i
theorem Sf.rf {P : Nat → Nat → Prop} (h : HP) : Sf P h h := ⟨rfl, fun _ _ _ => rfl⟩
theorem Sf.tr {P : Nat → Nat → Prop} {h1 h2 h3 : HP} (a : Sf P h1 h2) (b : Sf P h2 h3) : Sf P h1 h3 := ⟨b.1.trans a.1, fun x i q => (b.2 x i q).trans (a.2 x i q)⟩
theorem Sf.wI {P : Nat → Nat → Prop} {h h2 : HP} {a i : Nat} {v : Int32} (s : Sf P h h2) (q : P a i) : Sf P h (wI h2 a i v) := ⟨s.1, fun b j z => by
  refine Eq.trans ?_ (s.2 b j z)
  exact if_neg (fun w => z (by rw [w.1, w.2]; exact q))⟩
theorem Sf.mono {P Q : Nat → Nat → Prop} {h h2 : HP} (s : Sf P h h2) (q : ∀ a i, P a i → Q a i) : Sf Q h h2 := ⟨s.1, fun a i z => s.2 a i (fun w => z (q a i w))⟩
theorem Sf.F {P : Nat → Nat → Prop} {h h2 : HP} (s : Sf P h h2) (F : Fx h) : Fx h2 := by
  unfold Fx
  rw [s.1]
  exact F
/-- the scratch of chains; of the deals laid out, too -/
def sc1 (a i : Nat) : Prop := a = 116 ∨ (a = 109 ∧ i = 11)
def sc0 (a i : Nat) : Prop := a = 115 ∨ a = 116 ∨ (a = 109 ∧ i = 11)
abbrev Sc (h h' : HP) : Prop := Sf sc0 h h'
theorem Sf.up {h h2 : HP} (s : Sf sc1 h h2) : Sc h h2 := s.mono (fun _ _ q => Or.inr q)
def RSc (r : VV) (h : HP) : Option VV → HP → Prop := fun v h' => v = some r ∧ Sc h h'
/-- FALLEN YEARS; one deal; the deals -/
def MkF (h : HP) (f : Nat) (o : Nat → Nat) : Prop := hI h 109 1 = nI f ∧ f ≤ 4 ∧ (∀ y, y < f → hI h 111 y = nI (o y)) ∧ ∀ y, y < f → o y < 6
def MdB (h : HP) (k : Nat) (b : Nat → Bool) : Prop := ∀ s, s < 1296 → btI (hI h 113 (41 * k + s / 32)) (s % 32) = b s
def MdC (h : HP) (k : Nat) (d : DD) : Prop := dWf d ∧ hI h 112 (8 * k + 0) = nI (dK d) ∧ hI h 112 (8 * k + 1) = nI (dF d) ∧ hI h 112 (8 * k + 2) = nI (dT d) ∧ hI h 112 (8 * k + 3) = nI (dP d) ∧ hI h 112 (8 * k + 4) = oI (dO d) ∧ hI h 112 (8 * k + 5) = nI (dN d) ∧ hI h 112 (8 * k + 6) = b2 (dC d = true) ∧ MdB h k (dB d)
def MkD (h : HP) (n : Nat) (D : Nat → DD) : Prop := hI h 109 4 = nI n ∧ n ≤ 12 ∧ ∀ k, k < n → MdC h k (D k)
/-- what they say depends on few places -/
def nS (P : Nat → Nat → Prop) : Prop := (¬ P 109 1 ∧ ∀ y, ¬ P 111 y) ∧ (¬ P 109 4 ∧ ∀ i, ¬ P 112 i ∧ ¬ P 113 i)
theorem MkF.sf {P : Nat → Nat → Prop} {h h2 : HP} {f : Nat} {o : Nat → Nat} (k : MkF h f o) (s : Sf P h h2) (n1 : ¬ P 109 1) (n2 : ∀ y, ¬ P 111 y) : MkF h2 f o := ⟨(s.2 _ _ n1).trans k.1, k.2.1, fun y hy => (s.2 _ _ (n2 y)).trans (k.2.2.1 y hy), k.2.2.2⟩
theorem MdC.sf {P : Nat → Nat → Prop} {h h2 : HP} {k : Nat} {d : DD} (q : MdC h k d) (s : Sf P h h2) (n1 : ∀ i, ¬ P 112 i ∧ ¬ P 113 i) : MdC h2 k d := by
  obtain ⟨w, e0, e1, e2, e3, e4, e5, e6, eb⟩ := q
  exact ⟨w, (s.2 _ _ (n1 _).1).trans e0, (s.2 _ _ (n1 _).1).trans e1, (s.2 _ _ (n1 _).1).trans e2, (s.2 _ _ (n1 _).1).trans e3, (s.2 _ _ (n1 _).1).trans e4, (s.2 _ _ (n1 _).1).trans e5, (s.2 _ _ (n1 _).1).trans e6, fun u hu => by rw [s.2 _ _ (n1 _).2]; exact eb u hu⟩
theorem MkD.sf {P : Nat → Nat → Prop} {h h2 : HP} {n : Nat} {D : Nat → DD} (q : MkD h n D) (s : Sf P h h2) (n0 : ¬ P 109 4) (n1 : ∀ i, ¬ P 112 i ∧ ¬ P 113 i) : MkD h2 n D := ⟨(s.2 _ _ n0).trans q.1, q.2.1, fun k hk => (q.2.2 k hk).sf s n1⟩
theorem Sf.mf {h h2 : HP} {f : Nat} {o : Nat → Nat} (s : Sc h h2) (k : MkF h f o) : MkF h2 f o := k.sf s (by unfold sc0; omega) (fun y => by unfold sc0; omega)
theorem Sf.md {h h2 : HP} {n : Nat} {D : Nat → DD} (s : Sc h h2) (k : MkD h n D) : MkD h2 n D := k.sf s (by unfold sc0; omega) (fun i => by unfold sc0; omega)
theorem om_div : ∀ f, f < 4 → om f / 6 = om (f + 1) ∧ stp f = om (f + 1) := by decide
theorem fo_lt {o : Nat → Nat} {f : Nat} (h : f ≤ 4) (ho : ∀ y, y < f → o y < 6) : fo o f < 1296 := by
  have := om_fo h ho
  have := om_pos h
  omega
theorem om_lt {f : Nat} (h : f ≤ 4) : om f ≤ 1296 := by
  have : f = 0 ∨ f = 1 ∨ f = 2 ∨ f = 3 ∨ f = 4 := by omega
  rcases this with rfl | rfl | rfl | rfl | rfl <;> decide
theorem zX9_openFrom (X : EX) {h : HP} (F : Fx h) {f : Nat} {o : Nat → Nat} (mf : MkF h f o) : Ct X mX9_openFrom 0 0 0 [vR (some 109)] h (Rt (vI (nI (fo o f))) h) := by
  refine ct_of rfl (Nat.le_of_ble_eq_true rfl) ?_
  have hf4 := mf.2.1
  have loop : ∀ (m : Nat) (k : Nat), k + m = f → Ev X mX9_openFrom 0 0 0 (Rt (vI (nI (fo o f))) h) 0 0 8 [(0, some (vR (some 109))), (1, some (vI (nI (fo o k)))), (2, some (vI (nI (om k)))), (3, some (vI (nI k)))] [] h := by
    intro m
    induction m with
    | zero =>
      intro k hk
      obtain rfl : k = f := by omega
      refine e_iload_n aX9_openFrom_8 rfl ?_
      refine e_aload_n aX9_openFrom_9 rfl ?_
      refine e_getIF aX9_openFrom_10 fX9_116 rfl (fx_is F rfl) mf.1 ?_
      refine e_icmp_ge aX9_openFrom_13 (fun c13 => ?_) (fun c13 => ?_)
      · -- 13: taken
        refine e_iload_n aX9_openFrom_38 rfl ?_
        refine e_ireturn aX9_openFrom_39 rfl (Nat.le_refl _) (Nat.le_refl _) ?_
        exact ⟨rfl, rfl⟩
      · -- 13: not taken
        exact absurd (nI_le (by omega) (by omega)) c13
    | succ m ih =>
      intro k hk
      have hom := om_lt (f := k) (by omega)
      refine e_iload_n aX9_openFrom_8 rfl ?_
      refine e_aload_n aX9_openFrom_9 rfl ?_
      refine e_getIF aX9_openFrom_10 fX9_116 rfl (fx_is F rfl) mf.1 ?_
      refine e_icmp_ge aX9_openFrom_13 (fun c13 => ?_) (fun c13 => ?_)
      · -- 13: taken
        exact absurd c13 (nI_ge (by omega) (by omega))
      · -- 13: not taken
        refine e_iload_n aX9_openFrom_16 rfl ?_
        refine e_bipush (v := 6) aX9_openFrom_17 (by decide) ?_
        refine e_idiv aX9_openFrom_19 (by decide) ?_
        refine e_top (nI_div (b := 6) (by omega) (by decide) (by decide)) ?_
        rw [(om_div k (by omega)).1]
        refine e_istore_n aX9_openFrom_20 (Nat.le_of_ble_eq_true rfl) ?_
        refine e_iload_n aX9_openFrom_21 rfl ?_
        refine e_aload_n aX9_openFrom_22 rfl ?_
        refine e_getRF aX9_openFrom_23 fX9_13 rfl (fx_is F rfl) (fx_r (b := 111) F rfl) ?_
        refine e_iload_n aX9_openFrom_26 rfl ?_
        refine e_ialoadF aX9_openFrom_27 (fx_is F rfl) (fx_n (n := 4) F rfl) (vin (N := 4) (by omega)) (show hI h 111 (nI k).toNatClampNeg = nI (o k) by rw [cl (by omega)]; exact mf.2.2.1 k (by omega)) ?_
        refine e_iload_n aX9_openFrom_28 rfl ?_
        refine e_imul aX9_openFrom_29 ?_
        refine e_top (nI_mul _ _) ?_
        refine e_iadd aX9_openFrom_30 ?_
        refine e_top (nI_add _ _) ?_
        refine e_istore_n aX9_openFrom_31 (Nat.le_of_ble_eq_true rfl) ?_
        refine e_iinc aX9_openFrom_32 rfl rfl (Nat.le_of_ble_eq_true rfl) ?_
        refine e_goto aX9_openFrom_35 ?_
        refine e_ls (ls' := [(0, some (vR (some 109))), (1, some (vI (nI (fo o (k + 1))))), (2, some (vI (nI (om (k + 1))))), (3, some (vI (nI (k + 1))))]) ⟨rfl, congrArg (fun x => some (vI x)) (congrArg nI (show fo o k + o k * om (k + 1) = fo o k + o k * stp k by rw [(om_div k (by omega)).2])), rfl, congrArg (fun x => some (vI x)) (nI_1 k), trivial⟩ ?_
        exact ih (k + 1) (by omega)
  refine e_iconst (v := 0) aX9_openFrom_0 (by decide) ?_
  refine e_istore_n aX9_openFrom_1 (Nat.le_of_ble_eq_true rfl) ?_
  refine e_sipush (v := 1296) aX9_openFrom_2 (by decide) ?_
  refine e_istore_n aX9_openFrom_5 (Nat.le_of_ble_eq_true rfl) ?_
  refine e_iconst (v := 0) aX9_openFrom_6 (by decide) ?_
  refine e_istore_n aX9_openFrom_7 (Nat.le_of_ble_eq_true rfl) ?_
  refine e_ls (ls' := [(0, some (vR (some 109))), (1, some (vI (nI (fo o 0)))), (2, some (vI (nI (om 0)))), (3, some (vI (nI 0)))]) ⟨rfl, rfl, rfl, rfl, trivial⟩ ?_
  exact loop f 0 (by omega)
theorem zX9_openMany (X : EX) {h : HP} (F : Fx h) {f : Nat} {o : Nat → Nat} (mf : MkF h f o) : Ct X mX9_openMany 0 0 0 [vR (some 109)] h (Rt (vI (nI (om f))) h) := by
  refine ct_of rfl (Nat.le_of_ble_eq_true rfl) ?_
  have hf4 := mf.2.1
  have loop : ∀ (m : Nat) (k : Nat), k + m = f → Ev X mX9_openMany 0 0 0 (Rt (vI (nI (om f))) h) 0 0 6 [(0, some (vR (some 109))), (1, some (vI (nI (om k)))), (2, some (vI (nI k)))] [] h := by
    intro m
    induction m with
    | zero =>
      intro k hk
      obtain rfl : k = f := by omega
      refine e_iload_n aX9_openMany_6 rfl ?_
      refine e_aload_n aX9_openMany_7 rfl ?_
      refine e_getIF aX9_openMany_8 fX9_116 rfl (fx_is F rfl) mf.1 ?_
      refine e_icmp_ge aX9_openMany_11 (fun c11 => ?_) (fun c11 => ?_)
      · -- 11: taken
        refine e_iload_n aX9_openMany_25 rfl ?_
        refine e_ireturn aX9_openMany_26 rfl (Nat.le_refl _) (Nat.le_refl _) ?_
        exact ⟨rfl, rfl⟩
      · -- 11: not taken
        exact absurd (nI_le (by omega) (by omega)) c11
    | succ m ih =>
      intro k hk
      have hom := om_lt (f := k) (by omega)
      refine e_iload_n aX9_openMany_6 rfl ?_
      refine e_aload_n aX9_openMany_7 rfl ?_
      refine e_getIF aX9_openMany_8 fX9_116 rfl (fx_is F rfl) mf.1 ?_
      refine e_icmp_ge aX9_openMany_11 (fun c11 => ?_) (fun c11 => ?_)
      · -- 11: taken
        exact absurd c11 (nI_ge (by omega) (by omega))
      · -- 11: not taken
        refine e_iload_n aX9_openMany_14 rfl ?_
        refine e_bipush (v := 6) aX9_openMany_15 (by decide) ?_
        refine e_idiv aX9_openMany_17 (by decide) ?_
        refine e_top (nI_div (b := 6) (by omega) (by decide) (by decide)) ?_
        rw [(om_div k (by omega)).1]
        refine e_istore_n aX9_openMany_18 (Nat.le_of_ble_eq_true rfl) ?_
        refine e_iinc aX9_openMany_19 rfl rfl (Nat.le_of_ble_eq_true rfl) ?_
        refine e_goto aX9_openMany_22 ?_
        refine e_ls (ls' := [(0, some (vR (some 109))), (1, some (vI (nI (om (k + 1))))), (2, some (vI (nI (k + 1))))]) ⟨rfl, rfl, congrArg (fun x => some (vI x)) (nI_1 k), trivial⟩ ?_
        exact ih (k + 1) (by omega)
  refine e_sipush (v := 1296) aX9_openMany_0 (by decide) ?_
  refine e_istore_n aX9_openMany_3 (Nat.le_of_ble_eq_true rfl) ?_
  refine e_iconst (v := 0) aX9_openMany_4 (by decide) ?_
  refine e_istore_n aX9_openMany_5 (Nat.le_of_ble_eq_true rfl) ?_
  refine e_ls (ls' := [(0, some (vR (some 109))), (1, some (vI (nI (om 0)))), (2, some (vI (nI 0)))]) ⟨rfl, rfl, rfl, trivial⟩ ?_
  exact loop f 0 (by omega)
theorem opn_c {x : Int32} {a b : Nat} (ha : a + b ≤ 1296) (hb : 0 < b) : (nI a ≤ x ∧ x ≤ nI (a + b - 1)) ↔ (nI a ≤ x ∧ x < nI (a + b)) := by
  rw [Int32.le_iff_toInt_le, Int32.le_iff_toInt_le, Int32.lt_iff_toInt_lt, nI_toInt (by omega), nI_toInt (by omega), nI_toInt (by omega)]
  omega
theorem zX9_isOpen (X : EX) {h : HP} (F : Fx h) {f : Nat} {o : Nat → Nat} (mf : MkF h f o) (x : Int32) : Ct X mX9_isOpen 1 0 0 [vR (some 109), vI x] h (Rt (vI (b2 (nI (fo o f) ≤ x ∧ x < nI (fo o f + om f)))) h) := by
  refine ct_of rfl (Nat.le_of_ble_eq_true rfl) ?_
  have hf4 := mf.2.1
  have hb6 := om_fo mf.2.1 mf.2.2.2
  have hom := om_pos mf.2.1
  refine e_iload_n aX9_isOpen_0 rfl ?_
  refine e_i2l aX9_isOpen_1 ?_
  refine e_aload_n aX9_isOpen_2 rfl ?_
  refine e_invvT aX9_isOpen_3 kX9_119 (zX9_openFrom X F mf) rfl rfl (fx_is F rfl) (Nat.le_of_ble_eq_true rfl) (Nat.le_of_ble_eq_true rfl) (Nat.le_refl _) (Nat.le_refl _) (Nat.le_of_ble_eq_true rfl) ?_
  refine e_i2l aX9_isOpen_6 ?_
  refine e_aload_n aX9_isOpen_7 rfl ?_
  refine e_invvT aX9_isOpen_8 kX9_119 (zX9_openFrom X F mf) rfl rfl (fx_is F rfl) (Nat.le_of_ble_eq_true rfl) (Nat.le_of_ble_eq_true rfl) (Nat.le_refl _) (Nat.le_refl _) (Nat.le_of_ble_eq_true rfl) ?_
  refine e_aload_n aX9_isOpen_11 rfl ?_
  refine e_invvT aX9_isOpen_12 kX9_123 (zX9_openMany X F mf) rfl rfl (fx_is F rfl) (Nat.le_of_ble_eq_true rfl) (Nat.le_of_ble_eq_true rfl) (Nat.le_refl _) (Nat.le_refl _) (Nat.le_of_ble_eq_true rfl) ?_
  refine e_iadd aX9_isOpen_15 ?_
  refine e_top (nI_add _ _) ?_
  refine e_iconst (v := 1) aX9_isOpen_16 (by decide) ?_
  refine e_isub aX9_isOpen_17 ?_
  refine e_top (nI_subN (b := 1) (by omega)) ?_
  refine e_i2l aX9_isOpen_18 ?_
  refine e_invsT aX9_isOpen_19 kX9_108 (zin X _ _ _ rfl rfl) rfl rfl (Nat.le_of_ble_eq_true rfl) (Nat.le_of_ble_eq_true rfl) (Nat.le_refl _) (Nat.le_refl _) (Nat.le_of_ble_eq_true rfl) ?_
  refine e_zreturn aX9_isOpen_22 rfl b2_b (Nat.le_refl _) (Nat.le_refl _) ?_
  exact ⟨by rw [b2_c (opn_c hb6 hom)], rfl⟩
theorem zX9_its (X : EX) {h : HP} (F : Fx h) {k j : Nat} (hk : k < 12) (hj : j < 8) : Ct X mX9_its 0 0 0 [vR (some 109), vI (nI k), vI (nI j)] h (Rt (vI (hI h 112 (8 * k + j))) h) := by
  refine ct_of rfl (Nat.le_of_ble_eq_true rfl) ?_
  refine e_aload_n aX9_its_0 rfl ?_
  refine e_getRF aX9_its_1 fX9_20 rfl (fx_is F rfl) (fx_r (b := 112) F rfl) ?_
  refine e_bipush (v := 8) aX9_its_4 (by decide) ?_
  refine e_iload_n aX9_its_6 rfl ?_
  refine e_imul aX9_its_7 ?_
  refine e_top (nI_mul 8 k) ?_
  refine e_iload_n aX9_its_8 rfl ?_
  refine e_iadd aX9_its_9 ?_
  refine e_top (nI_add _ _) ?_
  refine e_ialoadF aX9_its_10 (fx_is F rfl) (fx_n (n := 96) F rfl) (vin (N := 96) (by omega)) (by rw [cl (by omega)]) ?_
  refine e_ireturn aX9_its_11 rfl (Nat.le_refl _) (Nat.le_refl _) ?_
  exact ⟨rfl, rfl⟩
theorem zits (X : EX) {h : HP} (F : Fx h) {k j : Nat} {v : Int32} (hk : k < 12) (hj : j < 8) (hv : hI h 112 (8 * k + j) = v) : Ct X mX9_its 0 0 0 [vR (some 109), vI (nI k), vI (nI j)] h (Rt (vI v) h) := by
  rw [← hv]
  exact zX9_its X F hk hj
theorem btI_and1 {x : Int32} {j : Nat} (hj : j < 32) : (x >>> (nI j &&& 31)) &&& 1 = if btI x j = true then 1 else 0 := by
  apply btI_ext
  intro i hi
  have h1 : ∀ i, i < 32 → btI 1 i = decide (i = 0) := by decide +kernel
  have h0 : ∀ i, i < 32 → btI 0 i = false := by decide +kernel
  rw [btI_and, h1 i hi]
  by_cases z : i = 0
  · subst z
    rw [btI_shr hj (by omega), Nat.add_zero]
    cases hb : btI x j
    · rw [if_neg (by decide), h0 0 (by decide)]; rfl
    · rw [if_pos rfl, h1 0 (by decide)]; rfl
  · rw [decide_eq_false z, Bool.and_false]
    split
    · rw [h1 i hi, decide_eq_false z]
    · rw [h0 i hi]
theorem bit1 {b : Bool} : (if b = true then (1 : Int32) else 0) = 1 ↔ b = true := by
  cases b
  · exact ⟨fun z => absurd z (by decide), fun z => absurd z (by decide)⟩
  · exact ⟨fun _ => rfl, fun _ => rfl⟩
theorem zX9_isHolding (X : EX) {h : HP} (F : Fx h) {k s : Nat} {b : Nat → Bool} (hk : k < 12) (hs : s < 1296) (mb : MdB h k b) : Ct X mX9_isHolding 0 0 0 [vR (some 109), vI (nI k), vI (nI s)] h (Rt (vI (b2 (b s = true))) h) := by
  refine ct_of rfl (Nat.le_of_ble_eq_true rfl) ?_
  refine e_aload_n aX9_isHolding_0 rfl ?_
  refine e_getRF aX9_isHolding_1 fX9_23 rfl (fx_is F rfl) (fx_r (b := 113) F rfl) ?_
  refine e_bipush (v := 41) aX9_isHolding_4 (by decide) ?_
  refine e_iload_n aX9_isHolding_6 rfl ?_
  refine e_imul aX9_isHolding_7 ?_
  refine e_top (nI_mul 41 k) ?_
  refine e_iload_n aX9_isHolding_8 rfl ?_
  refine e_bipush (v := 32) aX9_isHolding_9 (by decide) ?_
  refine e_idiv aX9_isHolding_11 (by decide) ?_
  refine e_top (nI_div (b := 32) (by omega) (by decide) (by decide)) ?_
  refine e_iadd aX9_isHolding_12 ?_
  refine e_top (nI_add _ _) ?_
  refine e_ialoadF aX9_isHolding_13 (fx_is F rfl) (fx_n (n := 492) F rfl) (vin (N := 492) (by omega)) (by rw [cl (by omega)]) ?_
  refine e_iload_n aX9_isHolding_14 rfl ?_
  refine e_bipush (v := 32) aX9_isHolding_15 (by decide) ?_
  refine e_irem aX9_isHolding_17 (by decide) ?_
  refine e_top (nI_rem (b := 32) (by omega) (by decide) (by decide)) ?_
  refine e_ishr aX9_isHolding_18 ?_
  refine e_iconst (v := 1) aX9_isHolding_19 (by decide) ?_
  refine e_iand aX9_isHolding_20 ?_
  refine e_top (btI_and1 (by omega)) ?_
  rw [mb s hs]
  refine e_iconst (v := 1) aX9_isHolding_21 (by decide) ?_
  refine e_icmp_ne aX9_isHolding_22 (fun c22 => ?_) (fun c22 => ?_)
  · -- 22: taken
    have q22 := (not_congr bit1).mp c22
    refine e_iconst (v := 0) aX9_isHolding_29 (by decide) ?_
    refine e_zreturn aX9_isHolding_30 rfl (by decide) (Nat.le_refl _) (Nat.le_refl _) ?_
    exact ⟨by rw [b2_f q22], rfl⟩
  · -- 22: not taken
    have q22 := bit1.mp c22
    refine e_iconst (v := 1) aX9_isHolding_25 (by decide) ?_
    refine e_goto aX9_isHolding_26 ?_
    refine e_zreturn aX9_isHolding_30 rfl (by decide) (Nat.le_refl _) (Nat.le_refl _) ?_
    exact ⟨by rw [b2_t q22], rfl⟩
theorem lt_sub {a n j : Nat} (ha : a < 1073741824) (hn : n < 1073741824) (hj : j < 1073741824) : nI a < nI n - nI j ↔ a < n - j := by
  rw [Int32.lt_iff_toInt_lt, pk_sub_toInt (by omega) (by omega), nI_toInt (by omega)]
  omega
theorem roll_s {s k p n : Nat} : roll s (k + 1) p n = if 12 ≤ p then none else if n ≤ pl s p then some p else roll s k (p + 3) (n - 1) := rfl
theorem zX9_rolled (X : EX) {h : HP} {p n s : Nat} (hs : s < 1296) (hp : p < 12) (hn : n ≤ 2) : Ct X mX9_rolled 3 0 0 [vI (nI p), vI (nI n), vI (nI s)] h (Rt (vI (oI (roll s 4 p n))) h) := by
  refine ct_of rfl (Nat.le_of_ble_eq_true rfl) ?_
  have loop : ∀ (m : Nat) (k : Nat), k + m = 4 → roll s m (p + 3 * k) (n - k) = roll s 4 p n → Ev X mX9_rolled 3 0 0 (Rt (vI (oI (roll s 4 p n))) h) 0 0 2 [(0, some (vI (nI p))), (1, some (vI (nI n))), (2, some (vI (nI s))), (3, some (vI (nI k)))] [] h := by
    intro m
    induction m with
    | zero =>
      intro k hk hR
      refine e_iload_n aX9_rolled_2 rfl ?_
      refine e_iconst (v := 3) aX9_rolled_3 (by decide) ?_
      refine e_iload_n aX9_rolled_4 rfl ?_
      refine e_imul aX9_rolled_5 ?_
      refine e_top (nI_mul 3 k) ?_
      refine e_iadd aX9_rolled_6 ?_
      refine e_top (nI_add _ _) ?_
      refine e_bipush (v := 12) aX9_rolled_7 (by decide) ?_
      refine e_icmp_ge aX9_rolled_9 (fun c9 => ?_) (fun c9 => ?_)
      · -- 9: taken
        have q9 := (nI_leI (a := 12) (by decide) (by omega)).mp c9
        refine e_iconst (v := -1) aX9_rolled_39 (by decide) ?_
        refine e_ireturn aX9_rolled_40 rfl (Nat.le_refl _) (Nat.le_refl _) ?_
        exact ⟨by rw [← hR]; rfl, rfl⟩
      · -- 9: not taken
        have q9 := (not_congr (nI_leI (a := 12) (by decide) (by omega))).mp c9
        exact absurd (show 12 ≤ p + 3 * k by omega) q9
    | succ m ih =>
      intro k hk hR
      refine e_iload_n aX9_rolled_2 rfl ?_
      refine e_iconst (v := 3) aX9_rolled_3 (by decide) ?_
      refine e_iload_n aX9_rolled_4 rfl ?_
      refine e_imul aX9_rolled_5 ?_
      refine e_top (nI_mul 3 k) ?_
      refine e_iadd aX9_rolled_6 ?_
      refine e_top (nI_add _ _) ?_
      refine e_bipush (v := 12) aX9_rolled_7 (by decide) ?_
      refine e_icmp_ge aX9_rolled_9 (fun c9 => ?_) (fun c9 => ?_)
      · -- 9: taken
        have q9 := (nI_leI (a := 12) (by decide) (by omega)).mp c9
        refine e_iconst (v := -1) aX9_rolled_39 (by decide) ?_
        refine e_ireturn aX9_rolled_40 rfl (Nat.le_refl _) (Nat.le_refl _) ?_
        exact ⟨by rw [← hR, roll_s, if_pos q9]; rfl, rfl⟩
      · -- 9: not taken
        have q9 := (not_congr (nI_leI (a := 12) (by decide) (by omega))).mp c9
        have hp3 := pl_lt s (p + 3 * k)
        refine e_iload_n aX9_rolled_12 rfl ?_
        refine e_iload_n aX9_rolled_13 rfl ?_
        refine e_iconst (v := 3) aX9_rolled_14 (by decide) ?_
        refine e_iload_n aX9_rolled_15 rfl ?_
        refine e_imul aX9_rolled_16 ?_
        refine e_top (nI_mul 3 k) ?_
        refine e_iadd aX9_rolled_17 ?_
        refine e_top (nI_add _ _) ?_
        refine e_invsT aX9_rolled_18 kX9_139 (zX9_placeOf X hs (p := p + 3 * k) (by omega)) rfl rfl (Nat.le_of_ble_eq_true rfl) (Nat.le_of_ble_eq_true rfl) (Nat.le_refl _) (Nat.le_refl _) (Nat.le_of_ble_eq_true rfl) ?_
        refine e_iload_n aX9_rolled_21 rfl ?_
        refine e_iload_n aX9_rolled_22 rfl ?_
        refine e_isub aX9_rolled_23 ?_
        refine e_icmp_lt aX9_rolled_24 (fun c24 => ?_) (fun c24 => ?_)
        · -- 24: taken
          have q24 := (lt_sub (by omega) (by omega) (by omega)).mp c24
          refine e_iinc aX9_rolled_33 rfl rfl (Nat.le_of_ble_eq_true rfl) ?_
          refine e_goto aX9_rolled_36 ?_
          refine e_ls (ls' := [(0, some (vI (nI p))), (1, some (vI (nI n))), (2, some (vI (nI s))), (3, some (vI (nI (k + 1))))]) ⟨rfl, rfl, rfl, congrArg (fun x => some (vI x)) (nI_1 k), trivial⟩ ?_
          exact ih (k + 1) (by omega) (by rw [← hR, roll_s, if_neg q9, if_neg (by omega), show p + 3 * k + 3 = p + 3 * (k + 1) by omega, show n - k - 1 = n - (k + 1) by omega])
        · -- 24: not taken
          have q24 := (not_congr (lt_sub (by omega) (by omega) (by omega))).mp c24
          refine e_iload_n aX9_rolled_27 rfl ?_
          refine e_iconst (v := 3) aX9_rolled_28 (by decide) ?_
          refine e_iload_n aX9_rolled_29 rfl ?_
          refine e_imul aX9_rolled_30 ?_
          refine e_top (nI_mul 3 k) ?_
          refine e_iadd aX9_rolled_31 ?_
          refine e_top (nI_add _ _) ?_
          refine e_ireturn aX9_rolled_32 rfl (Nat.le_refl _) (Nat.le_refl _) ?_
          exact ⟨by rw [← hR, roll_s, if_neg q9, if_pos (by omega)]; rfl, rfl⟩
  refine e_iconst (v := 0) aX9_rolled_0 (by decide) ?_
  refine e_istore_n aX9_rolled_1 (Nat.le_of_ble_eq_true rfl) ?_
  refine e_ls (ls' := [(0, some (vI (nI p))), (1, some (vI (nI n))), (2, some (vI (nI s))), (3, some (vI (nI 0)))]) ⟨rfl, rfl, rfl, rfl, trivial⟩ ?_
  exact loop 4 0 rfl rfl
theorem zX9_goesOn (X : EX) {h : HP} (F : Fx h) {k s : Nat} {d : DD} (hk : k < 12) (hs : s < 1296) (mc : MdC h k d) : Ct X mX9_goesOn 4 0 0 [vR (some 109), vI (nI k), vI (nI s)] h (Rt (vI (oI (gvk d s))) h) := by
  refine ct_of rfl (Nat.le_of_ble_eq_true rfl) ?_
  obtain ⟨w, e0, e1, e2, e3, e4, e5, e6, eb⟩ := id mc
  have hp12 := w.2.2.2.2.1
  have hn2 := w.2.2.2.2.2.2.2.1
  have hp3 := pl_lt s (dP d)
  refine e_aload_n aX9_goesOn_0 rfl ?_
  refine e_iload_n aX9_goesOn_1 rfl ?_
  refine e_iconst (v := 3) aX9_goesOn_2 (by decide) ?_
  refine e_invvT aX9_goesOn_3 kX9_145 (zits X F (j := 3) hk (by decide) e3) rfl rfl (fx_is F rfl) (Nat.le_of_ble_eq_true rfl) (Nat.le_of_ble_eq_true rfl) (Nat.le_refl _) (Nat.le_refl _) (Nat.le_of_ble_eq_true rfl) ?_
  refine e_istore_n aX9_goesOn_6 (Nat.le_of_ble_eq_true rfl) ?_
  refine e_aload_n aX9_goesOn_7 rfl ?_
  refine e_iload_n aX9_goesOn_8 rfl ?_
  refine e_iconst (v := 5) aX9_goesOn_9 (by decide) ?_
  refine e_invvT aX9_goesOn_10 kX9_145 (zits X F (j := 5) hk (by decide) e5) rfl rfl (fx_is F rfl) (Nat.le_of_ble_eq_true rfl) (Nat.le_of_ble_eq_true rfl) (Nat.le_refl _) (Nat.le_refl _) (Nat.le_of_ble_eq_true rfl) ?_
  refine e_istore aX9_goesOn_13 (Nat.le_of_ble_eq_true rfl) ?_
  refine e_iload_n aX9_goesOn_15 rfl ?_
  refine e_iload_n aX9_goesOn_16 rfl ?_
  refine e_invsT aX9_goesOn_17 kX9_139 (zX9_placeOf X hs w.2.2.2.2.1) rfl rfl (Nat.le_of_ble_eq_true rfl) (Nat.le_of_ble_eq_true rfl) (Nat.le_refl _) (Nat.le_refl _) (Nat.le_of_ble_eq_true rfl) ?_
  refine e_istore aX9_goesOn_20 (Nat.le_of_ble_eq_true rfl) ?_
  refine e_aload_n aX9_goesOn_22 rfl ?_
  refine e_iload_n aX9_goesOn_23 rfl ?_
  refine e_iconst (v := 0) aX9_goesOn_24 (by decide) ?_
  refine e_invvT aX9_goesOn_25 kX9_145 (zits X F (j := 0) hk (by decide) e0) rfl rfl (fx_is F rfl) (Nat.le_of_ble_eq_true rfl) (Nat.le_of_ble_eq_true rfl) (Nat.le_refl _) (Nat.le_refl _) (Nat.le_of_ble_eq_true rfl) ?_
  rcases (show dK d = 0 ∨ dK d = 1 ∨ dK d = 2 ∨ dK d = 3 ∨ dK d = 4 ∨ dK d = 5 by have := w.1; omega) with hkd | hkd | hkd | hkd | hkd | hkd
  · -- switch
    refine e_top (v := 0) (by rw [hkd]; rfl) ?_
    refine e_tableOut (tgt := 143) aX9_goesOn_28 (by decide) (by decide) ?_
    refine e_iload_n aX9_goesOn_143 rfl ?_
    refine e_ireturn aX9_goesOn_144 rfl (Nat.le_refl _) (Nat.le_refl _) ?_
    exact ⟨by unfold gvk; rw [if_neg (by omega), if_neg (by omega), if_neg (by omega), if_neg (by omega), if_neg (by omega)]; rfl, rfl⟩
  · -- switch
    refine e_top (v := 1) (by rw [hkd]; rfl) ?_
    refine e_tableIn (tgt := 64) aX9_goesOn_28 (by decide) (by decide) rfl (by decide) ?_
    refine e_iload aX9_goesOn_64 rfl ?_
    refine e_iload aX9_goesOn_66 rfl ?_
    refine e_icmp_lt aX9_goesOn_68 (fun c68 => ?_) (fun c68 => ?_)
    · -- 68: taken
      have q68 := (nI_ltI (by omega) (by omega)).mp c68
      refine e_iconst (v := -1) aX9_goesOn_75 (by decide) ?_
      refine e_ireturn aX9_goesOn_76 rfl (Nat.le_refl _) (Nat.le_refl _) ?_
      exact ⟨by unfold gvk; rw [if_pos hkd, if_neg (by omega)]; rfl, rfl⟩
    · -- 68: not taken
      have q68 := (not_congr (nI_ltI (by omega) (by omega))).mp c68
      refine e_iload_n aX9_goesOn_71 rfl ?_
      refine e_goto aX9_goesOn_72 ?_
      refine e_ireturn aX9_goesOn_76 rfl (Nat.le_refl _) (Nat.le_refl _) ?_
      exact ⟨by unfold gvk; rw [if_pos hkd, if_pos (by omega)]; rfl, rfl⟩
  · -- switch
    refine e_top (v := 2) (by rw [hkd]; rfl) ?_
    refine e_tableIn (tgt := 90) aX9_goesOn_28 (by decide) (by decide) rfl (by decide) ?_
    obtain ⟨q, hq⟩ := Option.isSome_iff_exists.mp (w.2.2.2.2.2.1.mp (by omega))
    have hqb := w.2.2.2.2.2.2.1 q hq
    have hq3 := pl_lt s q
    have hV : dV d = q := by unfold dV; rw [hq]; rfl
    refine e_iload_n aX9_goesOn_90 rfl ?_
    refine e_aload_n aX9_goesOn_91 rfl ?_
    refine e_iload_n aX9_goesOn_92 rfl ?_
    refine e_iconst (v := 4) aX9_goesOn_93 (by decide) ?_
    refine e_invvT aX9_goesOn_94 kX9_145 (zits X F (j := 4) hk (by decide) (e4.trans (congrArg oI hq))) rfl rfl (fx_is F rfl) (Nat.le_of_ble_eq_true rfl) (Nat.le_of_ble_eq_true rfl) (Nat.le_refl _) (Nat.le_refl _) (Nat.le_of_ble_eq_true rfl) ?_
    refine e_invsT aX9_goesOn_97 kX9_139 (zX9_placeOf X hs hqb.1) rfl rfl (Nat.le_of_ble_eq_true rfl) (Nat.le_of_ble_eq_true rfl) (Nat.le_refl _) (Nat.le_refl _) (Nat.le_of_ble_eq_true rfl) ?_
    refine e_iload aX9_goesOn_100 rfl ?_
    refine e_icmp_ge aX9_goesOn_102 (fun c102 => ?_) (fun c102 => ?_)
    · -- 102: taken
      have q102 := (nI_leI (by omega) (by omega)).mp c102
      refine e_iconst (v := -1) aX9_goesOn_109 (by decide) ?_
      refine e_ireturn aX9_goesOn_110 rfl (Nat.le_refl _) (Nat.le_refl _) ?_
      exact ⟨by unfold gvk; rw [if_neg (by omega), if_pos hkd, hV, if_neg (by omega)]; rfl, rfl⟩
    · -- 102: not taken
      have q102 := (not_congr (nI_leI (by omega) (by omega))).mp c102
      refine e_iload_n aX9_goesOn_105 rfl ?_
      refine e_goto aX9_goesOn_106 ?_
      refine e_ireturn aX9_goesOn_110 rfl (Nat.le_refl _) (Nat.le_refl _) ?_
      exact ⟨by unfold gvk; rw [if_neg (by omega), if_pos hkd, hV, if_pos (by omega)]; rfl, rfl⟩
  · -- switch
    refine e_top (v := 3) (by rw [hkd]; rfl) ?_
    refine e_tableIn (tgt := 135) aX9_goesOn_28 (by decide) (by decide) rfl (by decide) ?_
    refine e_iload_n aX9_goesOn_135 rfl ?_
    refine e_iload aX9_goesOn_136 rfl ?_
    refine e_iload_n aX9_goesOn_138 rfl ?_
    refine e_invsT aX9_goesOn_139 kX9_148 (zX9_rolled X hs w.2.2.2.2.1 hn2) rfl rfl (Nat.le_of_ble_eq_true rfl) (Nat.le_of_ble_eq_true rfl) (Nat.le_refl _) (Nat.le_refl _) (Nat.le_of_ble_eq_true rfl) ?_
    refine e_ireturn aX9_goesOn_142 rfl (Nat.le_refl _) (Nat.le_refl _) ?_
    exact ⟨by unfold gvk; rw [if_neg (by omega), if_neg (by omega), if_pos hkd], rfl⟩
  · -- switch
    refine e_top (v := 4) (by rw [hkd]; rfl) ?_
    refine e_tableIn (tgt := 77) aX9_goesOn_28 (by decide) (by decide) rfl (by decide) ?_
    refine e_iload aX9_goesOn_77 rfl ?_
    refine e_iload aX9_goesOn_79 rfl ?_
    refine e_icmp_ge aX9_goesOn_81 (fun c81 => ?_) (fun c81 => ?_)
    · -- 81: taken
      have q81 := (nI_leI (by omega) (by omega)).mp c81
      refine e_iconst (v := -1) aX9_goesOn_88 (by decide) ?_
      refine e_ireturn aX9_goesOn_89 rfl (Nat.le_refl _) (Nat.le_refl _) ?_
      exact ⟨by unfold gvk; rw [if_neg (by omega), if_neg (by omega), if_neg (by omega), if_pos hkd, if_neg (by omega)]; rfl, rfl⟩
    · -- 81: not taken
      have q81 := (not_congr (nI_leI (by omega) (by omega))).mp c81
      refine e_iload_n aX9_goesOn_84 rfl ?_
      refine e_goto aX9_goesOn_85 ?_
      refine e_ireturn aX9_goesOn_89 rfl (Nat.le_refl _) (Nat.le_refl _) ?_
      exact ⟨by unfold gvk; rw [if_neg (by omega), if_neg (by omega), if_neg (by omega), if_pos hkd, if_pos (by omega)]; rfl, rfl⟩
  · -- switch
    refine e_top (v := 5) (by rw [hkd]; rfl) ?_
    refine e_tableIn (tgt := 111) aX9_goesOn_28 (by decide) (by decide) rfl (by decide) ?_
    obtain ⟨q, hq⟩ := Option.isSome_iff_exists.mp (w.2.2.2.2.2.1.mp (by omega))
    have hqb := w.2.2.2.2.2.2.1 q hq
    have hq3 := pl_lt s q
    have hV : dV d = q := by unfold dV; rw [hq]; rfl
    refine e_iload aX9_goesOn_111 rfl ?_
    refine e_iload_n aX9_goesOn_113 rfl ?_
    refine e_aload_n aX9_goesOn_114 rfl ?_
    refine e_iload_n aX9_goesOn_115 rfl ?_
    refine e_iconst (v := 4) aX9_goesOn_116 (by decide) ?_
    refine e_invvT aX9_goesOn_117 kX9_145 (zits X F (j := 4) hk (by decide) (e4.trans (congrArg oI hq))) rfl rfl (fx_is F rfl) (Nat.le_of_ble_eq_true rfl) (Nat.le_of_ble_eq_true rfl) (Nat.le_refl _) (Nat.le_refl _) (Nat.le_of_ble_eq_true rfl) ?_
    refine e_invsT aX9_goesOn_120 kX9_139 (zX9_placeOf X hs hqb.1) rfl rfl (Nat.le_of_ble_eq_true rfl) (Nat.le_of_ble_eq_true rfl) (Nat.le_refl _) (Nat.le_refl _) (Nat.le_of_ble_eq_true rfl) ?_
    refine e_isub aX9_goesOn_123 ?_
    refine e_iload aX9_goesOn_124 rfl ?_
    refine e_icmp_lt aX9_goesOn_126 (fun c126 => ?_) (fun c126 => ?_)
    · -- 126: taken
      have q126 := (sub_lt (by omega) (by omega) (by omega)).mp c126
      refine e_iconst (v := -1) aX9_goesOn_133 (by decide) ?_
      refine e_ireturn aX9_goesOn_134 rfl (Nat.le_refl _) (Nat.le_refl _) ?_
      exact ⟨by unfold gvk; rw [if_neg (by omega), if_neg (by omega), if_neg (by omega), if_neg (by omega), if_pos hkd, hV, if_neg (by omega)]; rfl, rfl⟩
    · -- 126: not taken
      have q126 := (not_congr (sub_lt (by omega) (by omega) (by omega))).mp c126
      refine e_iload_n aX9_goesOn_129 rfl ?_
      refine e_goto aX9_goesOn_130 ?_
      refine e_ireturn aX9_goesOn_134 rfl (Nat.le_refl _) (Nat.le_refl _) ?_
      exact ⟨by unfold gvk; rw [if_neg (by omega), if_neg (by omega), if_neg (by omega), if_neg (by omega), if_pos hkd, hV, if_pos (by omega)]; rfl, rfl⟩
/-- what a deal conveys, one way or the other -/
def cvW (d : DD) (s w : Nat) : Option Nat := if w = 0 then gv d s else gb d s
theorem gvk_b {d : DD} (w : dWf d) (s : Nat) : ∀ p, gvk d s = some p → p < 1073741824 := by
  intro p q
  have w2 : dWf (d.1, d.2.1, d.2.2.1, d.2.2.2.1, d.2.2.2.2.1, d.2.2.2.2.2.1, d.2.2.2.2.2.2.1, fun _ => true) := ⟨w.1, w.2.1, w.2.2.1, w.2.2.2.1, w.2.2.2.2.1, w.2.2.2.2.2.1, w.2.2.2.2.2.2.1, w.2.2.2.2.2.2.2.1, w.2.2.2.2.2.2.2.2.1, fun _ _ => rfl⟩
  have := gv_ok w2 (s := s) (q := p) ((if_pos rfl).trans q)
  omega
theorem oI_m1 {q : Option Nat} (h : ∀ p, q = some p → p < 1073741824) : oI q = -1 ↔ q = none := oI_inj (r := none) h (fun p z => by cases z)
theorem cvW_b {d : DD} (w : dWf d) {s i : Nat} : ∀ p, cvW d s i = some p → p < 1073741824 := by
  intro p q
  unfold cvW at q
  split at q
  · have := (gv_ok w q).1; omega
  · have := (gb_ok w q).1; omega
theorem zX9_conveyed (X : EX) {h : HP} (F : Fx h) {k s : Nat} {d : DD} (hk : k < 12) (hs : s < 1296) (mc : MdC h k d) {i : Nat} (hi : i < 2) : Ct X mX9_conveyed 5 0 0 [vR (some 109), vI (nI k), vI (nI s), vI (nI i)] h (Rt (vI (oI (cvW d s i))) h) := by
  refine ct_of rfl (Nat.le_of_ble_eq_true rfl) ?_
  obtain ⟨w, e0, e1, e2, e3, e4, e5, e6, eb⟩ := id mc
  have hp12 := w.2.2.2.2.1
  have hn2 := w.2.2.2.2.2.2.2.1
  have hp3 := pl_lt s (dP d)
  refine e_aload_n aX9_conveyed_0 rfl ?_
  refine e_iload_n aX9_conveyed_1 rfl ?_
  refine e_iload_n aX9_conveyed_2 rfl ?_
  refine e_invvT aX9_conveyed_3 kX9_151 (zX9_isHolding X F hk hs eb) rfl rfl (fx_is F rfl) (Nat.le_of_ble_eq_true rfl) (Nat.le_of_ble_eq_true rfl) (Nat.le_refl _) (Nat.le_refl _) (Nat.le_of_ble_eq_true rfl) ?_
  refine e_if_ne aX9_conveyed_6 (fun c6 => ?_) (fun c6 => ?_)
  · -- 6: taken
    have q6 := Decidable.of_not_not (fun z => c6 (b2_0.mpr z))
    refine e_aload_n aX9_conveyed_11 rfl ?_
    refine e_iload_n aX9_conveyed_12 rfl ?_
    refine e_iload_n aX9_conveyed_13 rfl ?_
    refine e_invvT aX9_conveyed_14 kX9_155 (zX9_goesOn X F hk hs mc) rfl rfl (fx_is F rfl) (Nat.le_of_ble_eq_true rfl) (Nat.le_of_ble_eq_true rfl) (Nat.le_refl _) (Nat.le_refl _) (Nat.le_of_ble_eq_true rfl) ?_
    refine e_istore aX9_conveyed_17 (Nat.le_of_ble_eq_true rfl) ?_
    refine e_iload_n aX9_conveyed_19 rfl ?_
    refine e_if_eq aX9_conveyed_20 (fun c20 => ?_) (fun c20 => ?_)
    · -- 20: taken
      obtain rfl : i = 0 := (nI_eq (b := 0) (by omega) (by decide)).mp c20
      refine e_iload aX9_conveyed_29 rfl ?_
      refine e_goto aX9_conveyed_31 ?_
      refine e_ireturn aX9_conveyed_40 rfl (Nat.le_refl _) (Nat.le_refl _) ?_
      exact ⟨by unfold cvW gv; rw [if_pos rfl, if_pos q6], rfl⟩
    · -- 20: not taken
      have q20 : ¬ i = 0 := fun z => c20 (by rw [z]; rfl)
      refine e_iload aX9_conveyed_23 rfl ?_
      refine e_iconst (v := -1) aX9_conveyed_25 (by decide) ?_
      refine e_icmp_ne aX9_conveyed_26 (fun c26 => ?_) (fun c26 => ?_)
      · -- 26: taken
        have q26 := (not_congr (oI_m1 (gvk_b w s))).mp c26
        refine e_aload_n aX9_conveyed_34 rfl ?_
        refine e_iload_n aX9_conveyed_35 rfl ?_
        refine e_iconst (v := 4) aX9_conveyed_36 (by decide) ?_
        refine e_invvT aX9_conveyed_37 kX9_145 (zits X F (j := 4) hk (by decide) e4) rfl rfl (fx_is F rfl) (Nat.le_of_ble_eq_true rfl) (Nat.le_of_ble_eq_true rfl) (Nat.le_refl _) (Nat.le_refl _) (Nat.le_of_ble_eq_true rfl) ?_
        refine e_ireturn aX9_conveyed_40 rfl (Nat.le_refl _) (Nat.le_refl _) ?_
        exact ⟨by unfold cvW gb gv; rw [if_neg q20, if_pos q6, if_pos (Option.isSome_iff_ne_none.mpr q26)], rfl⟩
      · -- 26: not taken
        have q26 := (oI_m1 (gvk_b w s)).mp c26
        refine e_iload aX9_conveyed_29 rfl ?_
        refine e_goto aX9_conveyed_31 ?_
        refine e_ireturn aX9_conveyed_40 rfl (Nat.le_refl _) (Nat.le_refl _) ?_
        exact ⟨by unfold cvW gb gv; rw [if_neg q20, if_pos q6, q26, if_neg (by decide)], rfl⟩
  · -- 6: not taken
    have q6 := b2_0.mp c6
    refine e_iconst (v := -1) aX9_conveyed_9 (by decide) ?_
    refine e_ireturn aX9_conveyed_10 rfl (Nat.le_refl _) (Nat.le_refl _) ?_
    exact ⟨by unfold cvW gb gv; rw [if_neg q6]; split <;> rfl, rfl⟩
theorem zX9_isLapsing (X : EX) {h : HP} (F : Fx h) {k s : Nat} {d : DD} (hk : k < 12) (hs : s < 1296) (mc : MdC h k d) : Ct X mX9_isLapsing 6 0 0 [vR (some 109), vI (nI k), vI (nI s)] h (Rt (vI (b2 (gv d s = none))) h) := by
  refine ct_of rfl (Nat.le_of_ble_eq_true rfl) ?_
  obtain ⟨w, e0, e1, e2, e3, e4, e5, e6, eb⟩ := id mc
  have hp12 := w.2.2.2.2.1
  have hn2 := w.2.2.2.2.2.2.2.1
  have hp3 := pl_lt s (dP d)
  refine e_aload_n aX9_isLapsing_0 rfl ?_
  refine e_iload_n aX9_isLapsing_1 rfl ?_
  refine e_iload_n aX9_isLapsing_2 rfl ?_
  refine e_iconst (v := 0) aX9_isLapsing_3 (by decide) ?_
  refine e_invvT aX9_isLapsing_4 kX9_158 (zX9_conveyed X F hk hs mc (i := 0) (by decide)) rfl rfl (fx_is F rfl) (Nat.le_of_ble_eq_true rfl) (Nat.le_of_ble_eq_true rfl) (Nat.le_refl _) (Nat.le_refl _) (Nat.le_of_ble_eq_true rfl) ?_
  refine e_iconst (v := -1) aX9_isLapsing_7 (by decide) ?_
  refine e_icmp_ne aX9_isLapsing_8 (fun c8 => ?_) (fun c8 => ?_)
  · -- 8: taken
    have q8 := (not_congr (oI_m1 (gv_b w))).mp c8
    refine e_iconst (v := 0) aX9_isLapsing_15 (by decide) ?_
    refine e_zreturn aX9_isLapsing_16 rfl (by decide) (Nat.le_refl _) (Nat.le_refl _) ?_
    exact ⟨by rw [b2_f q8], rfl⟩
  · -- 8: not taken
    have q8 := (oI_m1 (gv_b w)).mp c8
    refine e_iconst (v := 1) aX9_isLapsing_11 (by decide) ?_
    refine e_goto aX9_isLapsing_12 ?_
    refine e_zreturn aX9_isLapsing_16 rfl (by decide) (Nat.le_refl _) (Nat.le_refl _) ?_
    exact ⟨by rw [b2_t q8], rfl⟩
