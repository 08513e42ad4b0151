/-! the reference: text (written by wip/whole/g78.py) -/
def scY (a i : Nat) : Prop := scX a i ∨ a = 110 ∨ (a = 109 ∧ (i = 14 ∨ i = 19))
/-- what text leaves: wrong; come true; clashed -/
def teW (h0 : HP) (n : Nat) (D : Nat → DD) (R : Option (Nat × (Nat → DD)) × PT) (v : Option VV) (h : HP) : Prop := v = some (vI (-1 - nI R.2.1)) ∧ MkD h n D ∧ (∀ i, hI h 110 i = hI h0 110 i) ∧ (∀ i, hI h 112 i = hI h0 112 i) ∧ (∀ i, hI h 114 i = hI h0 114 i) ∧ hI h 109 7 = hI h0 109 7
def teT (h0 : HP) (n : Nat) (D : Nat → DD) (f : Nat) (o : Nat → Nat) (g : Nat) (G : Nat → DD) (v : Option VV) (h : HP) : Prop := v = some (vI (nI g)) ∧ MkD h (n + g) (jnD D n G) ∧ hI h 109 7 = hI h0 109 7 + nI g ∧ (∀ i, i < 8 * n → hI h 112 i = hI h0 112 i) ∧ (∀ i, i < g → hI h 112 (8 * (n + i) + 7) = hI h0 109 7 + nI i) ∧ (∀ i, hI h 114 i = hI h0 114 i) ∧ (∀ i, hI h 110 i = hI h0 110 i) ∧ ∀ i, i < g → rfs (jnD D n G) (n + i + 1) (fo o f) (om f) = none
def teC (h0 : HP) (n : Nat) (D : Nat → DD) (f : Nat) (o : Nat → Nat) (g : Nat) (G : Nat → DD) (v : Option VV) (h : HP) : Prop := v = some (fv 4) ∧ MkD h n D ∧ (∀ i, hI h 110 i = hI (fdM h0 4) 110 i) ∧ (∀ i, i < 8 * n → hI h 112 i = hI h0 112 i) ∧ ∃ j s, j < g ∧ hI h 109 7 = hI h0 109 7 + nI (j + 1) ∧ (∀ i, i < j → rfs (jnD D n G) (n + i + 1) (fo o f) (om f) = none) ∧ rfs (jnD D n G) (n + j + 1) (fo o f) (om f) = some s ∧ tldM h (jnD D n G) (n + j + 1) s
def teQ (h0 : HP) (n : Nat) (D : Nat → DD) (f : Nat) (o : Nat → Nat) (l : Nat) (R : Option (Nat × (Nat → DD)) × PT) : Option VV → HP → Prop := fun v h => Sf scY h0 h ∧ hI h 109 14 = 0 ∧ ((rsW l R = true ∧ teW h0 n D R v h) ∨ (rsW l R = false ∧ ∃ g G, R.1 = some (g, G) ∧ n + g ≤ 12 ∧ (teT h0 n D f o g G v h ∨ teC h0 n D f o g G v h)))
def scZ (a i : Nat) : Prop := scT a i ∨ (a = 109 ∧ (i = 14 ∨ i = 18 ∨ i = 19))
def scZ2 (a i : Nat) : Prop := scT a i ∨ (a = 109 ∧ (i = 18 ∨ i = 19))
theorem Sf.Z2 {h h2 : HP} (S : Sf scZ2 h h2) : Sf scZ h h2 := S.mono (fun a i q => q.elim Or.inl (fun z => Or.inr ⟨z.1, by omega⟩))
theorem Sf.ZY {h h2 : HP} (S : Sf scZ h h2) : Sf scY h h2 := S.mono (fun a i q => by unfold scZ scT scF at q; unfold scY scX scW; omega)
theorem Sf.TZ {h h2 : HP} (S : Sf scT h h2) : Sf scZ h h2 := S.mono (fun a i q => Or.inl q)
theorem Sf.XY {h h2 : HP} (S : Sf scX h h2) : Sf scY h h2 := S.mono (fun a i q => Or.inl q)
theorem teW_of {h0 h2 : HP} {n l : Nat} {D : Nat → DD} {f : Nat} {o : Nat → Nat} {R : Option (Nat × (Nat → DD)) × PT} (S : Sf scZ h0 h2) (md : MkD h0 n D) (hw : rsW l R = true) : teQ h0 n D f o l R (some (vI (-1 - nI R.2.1))) (wI h2 109 14 0) := by
  have S2 : Sf scZ h0 (wI h2 109 14 0) := S.wI (Or.inr ⟨rfl, by omega⟩)
  exact ⟨S2.ZY, wI_s, Or.inl ⟨hw, rfl, md.sf S2 (by unfold scZ scT scF; omega) (fun i => by unfold scZ scT scF; omega), fun i => S2.2 _ _ (by unfold scZ scT scF; omega), fun i => S2.2 _ _ (by unfold scZ scT scF; omega), fun i => S2.2 _ _ (by unfold scZ scT scF; omega), S2.2 _ _ (by unfold scZ scT scF; omega)⟩⟩
theorem w14 {h : HP} {a i : Nat} (z : ¬ (a = 109 ∧ i = 14)) : hI (wI h 109 14 0) a i = hI h a i := if_neg z
theorem teT_of {h0 h2 h3 : HP} {n l : Nat} {D : Nat → DD} {f : Nat} {o : Nat → Nat} {g : Nat} {G : Nat → DD} {R : Option (Nat × (Nat → DD)) × PT} (S : Sf scZ h0 h2) (hw : rsW l R = false) (hR : R.1 = some (g, G)) (A : P2S h2 D n G f o g h3) : teQ h0 n D f o l R (some (vI (nI g))) (wI h3 109 14 0) := by
  obtain ⟨a1, a2, a3, a4, a5, a6, a7, a8⟩ := A
  have S3 : Sf scY h0 (wI h3 109 14 0) := (S.ZY.tr a1.XY).wI (Or.inr (Or.inr ⟨rfl, by omega⟩))
  have e7 : hI h2 109 7 = hI h0 109 7 := S.2 _ _ (by unfold scZ scT scF; omega)
  have w9 : Sf scZ h3 (wI h3 109 14 0) := (Sf.rf _).wI (Or.inr ⟨rfl, by omega⟩)
  refine ⟨S3, wI_s, Or.inr ⟨hw, g, G, hR, a2.2.1, Or.inl ⟨rfl, a2.sf w9 (by unfold scZ scT scF; omega) (fun i => by unfold scZ scT scF; omega), ?_, fun i hi => ?_, fun i hi => ?_, fun i => ?_, fun i => ?_, a8⟩⟩⟩
  · rw [w14 (by omega), a4, e7]
  · rw [w14 (by omega), a5 i hi]
    exact S.2 _ _ (by unfold scZ scT scF; omega)
  · rw [w14 (by omega), a6 i hi, e7]
  · rw [w14 (by omega), a7 i]
    exact S.2 _ _ (by unfold scZ scT scF; omega)
  · rw [w14 (by omega), a1.2 _ _ (by unfold scX scW; omega)]
    exact S.2 _ _ (by unfold scZ scT scF; omega)
theorem teC_of {h0 h2 h3 : HP} {n l : Nat} {D : Nat → DD} {f : Nat} {o : Nat → Nat} {g : Nat} {G : Nat → DD} {R : Option (Nat × (Nat → DD)) × PT} (S : Sf scZ h0 h2) (hw : rsW l R = false) (hR : R.1 = some (g, G)) (hg : n + g ≤ 12) (A : P2C h2 D n G f o g h3) : teQ h0 n D f o l R (some (fv 4)) (fdM (wI (wI h3 109 14 0) 109 4 (nI n)) 4) := by
  obtain ⟨j, s, a0, a1, a2, a4, a5, a6, a7, p9, b1, b2, b3, b4⟩ := A
  have S3 : Sf scY h0 (fdM (wI (wI h3 109 14 0) 109 4 (nI n)) 4) := (((S.ZY.tr a1.XY).wI (Or.inr (Or.inr ⟨rfl, by omega⟩))).wI (Or.inl (Or.inl (by unfold scW; omega)))).wI (Or.inr (Or.inl rfl))
  have w9 : ∀ a i, ¬ (a = 110 ∨ (a = 109 ∧ (i = 4 ∨ i = 14))) → hI (fdM (wI (wI h3 109 14 0) 109 4 (nI n)) 4) a i = hI h3 a i := fun a i z => (wI_a (by omega)).trans ((if_neg (by omega)).trans (if_neg (by omega)))
  have e7 : hI h2 109 7 = hI h0 109 7 := S.2 _ _ (by unfold scZ scT scF; omega)
  have w110 : ∀ i, hI (wI (wI h3 109 14 0) 109 4 (nI n)) 110 i = hI h0 110 i := fun i => (wI_a (by decide)).trans ((wI_a (by decide)).trans ((a1.2 _ _ (by unfold scX scW; omega)).trans (S.2 _ _ (by unfold scZ scT scF; omega))))
  refine ⟨S3, (wI_a (by decide)).trans ((wI_i (by decide)).trans wI_s), Or.inr ⟨hw, g, G, hR, hg, Or.inr ⟨rfl, ⟨(wI_a (by decide)).trans wI_s, by omega, fun k hk => (a2.dj (m := j + 1) k hk).at (fun x hx => w9 _ _ (by omega)) (fun x hx => w9 _ _ (by omega))⟩, fun i => ?_, fun i hi => ?_, j, s, a0, ?_, a6, a7, p9, b1, ?_, ?_, ?_⟩⟩⟩
  · show (if 110 = 110 ∧ i = 4 then hI (wI (wI h3 109 14 0) 109 4 (nI n)) 110 4 + 1 else hI (wI (wI h3 109 14 0) 109 4 (nI n)) 110 i) = (if 110 = 110 ∧ i = 4 then hI h0 110 4 + 1 else hI h0 110 i)
    rw [w110, w110]
  · rw [w9 _ _ (by omega), a5 i hi]
    exact S.2 _ _ (by unfold scZ scT scF; omega)
  · rw [w9 _ _ (by omega), a4, e7]
  · rw [w9 _ _ (by omega), b2]
  · rw [w9 _ _ (by omega), b3]
  · rw [w9 _ _ (by omega), b4]
theorem rsW_f {l : Nat} {R : Option (Nat × (Nat → DD)) × PT} (h : rsW l R = false) : ∃ g G q, R = (some (g, G), q) ∧ l ≤ q.1 := by
  obtain ⟨r, q⟩ := R
  unfold rsW at h
  rcases r with _ | ⟨g, G⟩
  · exact Bool.noConfusion h
  · refine ⟨g, G, q, rfl, ?_⟩
    have h : decide (q.1 < l) = false := h
    exact Nat.not_lt.mp (of_decide_eq_false h)
theorem zX9_text (X : EX) {h0 : HP} (F0 : Fx h0) {bt : Nat → Int32} {l n f : Nat} {D E : Nat → DD} {o : Nat → Nat} (t0 : TbM h0 l bt) (md : MkD h0 n D) (mf : MkF h0 f o) : Ct X mX9_text 29 0 0 [vR (some 109)] h0 (teQ h0 n D f o l (txF bt l D n f 13 (nxT bt l (0, 0)) 0 E)) := by
  refine ct_of rfl (Nat.le_of_ble_eq_true rfl) ?_
  have F := F0
  refine e_aload_n aX9_text_0 rfl ?_
  refine e_iconst (v := 0) aX9_text_1 (by decide) ?_
  refine e_putZ aX9_text_2 fX9_274 rfl (fx_is F rfl) (Or.inl rfl) (by decide) ?_
  refine e_aload_n aX9_text_5 rfl ?_
  refine e_iconst (v := 0) aX9_text_6 (by decide) ?_
  refine e_putZ aX9_text_7 fX9_331 rfl (fx_is F rfl) (Or.inl rfl) (by decide) ?_
  have S01 : Sf scZ2 h0 (wI (wI h0 109 18 0) 109 19 0) := ((Sf.rf h0).wI (Or.inr ⟨rfl, by omega⟩)).wI (Or.inr ⟨rfl, by omega⟩)
  have t1 : TbM (wI (wI h0 109 18 0) 109 19 0) l bt := t0.sf S01 (by unfold scZ2 scT scF; omega) (fun i => by unfold scZ2 scT scF; omega) (fun i => by unfold scZ2 scT scF; omega)
  have mf1 : MkF (wI (wI h0 109 18 0) 109 19 0) f o := mf.sf S01.Z2 (by unfold scZ scT scF; omega) (fun i => by unfold scZ scT scF; omega)
  refine e_aload_n aX9_text_10 rfl ?_
  refine e_invv aX9_text_11 kX9_340 (zX9_isText1 X (h0 := (wI (wI h0 109 18 0) 109 19 0)) (D := D) (E := E) F t1 md.2.1 ((wI_i (by decide)).trans ((wI_i (by decide)).trans md.1)) ((wI_i (by decide)).trans wI_s) wI_s mf1) rfl rfl (fx_is F rfl) (Nat.le_of_ble_eq_true rfl) (Nat.le_of_ble_eq_true rfl) (Nat.le_refl _) (Nat.le_refl _) (Nat.le_of_ble_eq_true rfl) ?_
  rintro v h2 ⟨rfl, S1, ps1⟩
  have F := S1.F F
  have S22 : Sf scZ2 h0 h2 := S01.tr (S1.mono (fun _ _ q => Or.inl q))
  have S2 : Sf scZ h0 h2 := S22.Z2
  have md2 : MkD h2 n D := md.sf S2 (by unfold scZ scT scF; omega) (fun i => by unfold scZ scT scF; omega)
  refine e_istore_n aX9_text_14 (Nat.le_of_ble_eq_true rfl) ?_
  refine e_aload_n aX9_text_15 rfl ?_
  refine e_getIF aX9_text_16 fX9_274 rfl (fx_is F rfl) ps1.2.2 ?_
  refine e_if_eq aX9_text_19 (fun c19 => ?_) (fun c19 => ?_)
  · -- 19: taken
    have q19 : ¬ rsW l (txF bt l D n f 13 (nxT bt l (0, 0)) 0 E) = true := b2_0.mp c19
    obtain ⟨g, G, q, eR, hq9⟩ := rsW_f (Bool.eq_false_iff.mpr q19)
    refine e_aload_n aX9_text_34 rfl ?_
    refine e_getIF aX9_text_35 fX9_89 rfl (fx_is F rfl) md2.1 ?_
    refine e_istore_n aX9_text_38 (Nat.le_of_ble_eq_true rfl) ?_
    refine e_aload_n aX9_text_39 rfl ?_
    refine e_iconst (v := 1) aX9_text_40 (by decide) ?_
    refine e_putZ aX9_text_41 fX9_331 rfl (fx_is F rfl) (Or.inl rfl) (by decide) ?_
    have S3 : Sf scZ h0 (wI h2 109 19 1) := S2.wI (Or.inr ⟨rfl, by omega⟩)
    have t3 : TbM (wI h2 109 19 1) l bt := t0.sf (S22.wI (a := 109) (i := 19) (Or.inr ⟨rfl, by omega⟩)) (by unfold scZ2 scT scF; omega) (fun i => by unfold scZ2 scT scF; omega) (fun i => by unfold scZ2 scT scF; omega)
    have mf3 : MkF (wI h2 109 19 1) f o := mf.sf S3 (by unfold scZ scT scF; omega) (fun i => by unfold scZ scT scF; omega)
    have md3 : MkD (wI h2 109 19 1) n D := md.sf S3 (by unfold scZ scT scF; omega) (fun i => by unfold scZ scT scF; omega)
    have w3 : hI (wI h2 109 19 1) 109 18 = 0 := (wI_i (by decide)).trans (ps1.2.2.trans (b2_f q19))
    have hx := (txF_P 13 (nxT bt l (0, 0)) 0 E eR).2
    refine e_aload_n aX9_text_44 rfl ?_
    refine e_invv aX9_text_45 kX9_340 (zX9_isText2 X (hb := wI h2 109 19 1) F t3 md3 w3 wI_s mf3 hq9 hx) rfl rfl (fx_is F rfl) (Nat.le_of_ble_eq_true rfl) (Nat.le_of_ble_eq_true rfl) (Nat.le_refl _) (Nat.le_refl _) (Nat.le_of_ble_eq_true rfl) ?_
    rintro v h3 ⟨-, A0⟩
    have F : Fx h3 := by
      rcases A0 with ⟨-, A⟩ | ⟨-, j, s, -, A, -⟩
      · exact A.1.F F
      · exact A.F F
    obtain ⟨v9, rfl, A⟩ : ∃ v9, v = some (vI v9) ∧ ((v9 = 0 ∧ P2S (wI h2 109 19 1) D n G f o g h3) ∨ (v9 = 1 ∧ P2C (wI h2 109 19 1) D n G f o g h3)) := by
      rcases A0 with ⟨e, A⟩ | ⟨e, A⟩
      · exact ⟨0, e, Or.inl ⟨rfl, A⟩⟩
      · exact ⟨1, e, Or.inr ⟨rfl, A⟩⟩
    refine e_istore_n aX9_text_48 (Nat.le_of_ble_eq_true rfl) ?_
    refine e_aload_n aX9_text_49 rfl ?_
    refine e_iconst (v := 0) aX9_text_50 (by decide) ?_
    refine e_putI aX9_text_51 fX9_248 rfl (fx_is F rfl) (Or.inl rfl) ?_
    refine e_iload_n aX9_text_54 rfl ?_
    refine e_if_eq aX9_text_55 (fun c55 => ?_) (fun c55 => ?_)
    · -- 55: taken
      obtain ⟨z1, z2⟩ := A.resolve_right (fun z => absurd (c55.symm.trans z.1) (by decide))
      have hR1 := congrArg Prod.fst eR
      refine e_aload_n aX9_text_69 rfl ?_
      refine e_getIF aX9_text_70 fX9_89 rfl (fx_is F rfl) ((wI_i (by decide)).trans z2.2.1.1) ?_
      refine e_iload_n aX9_text_73 rfl ?_
      refine e_isub aX9_text_74 ?_
      refine e_top (nI_subN (Nat.le_add_right n g)) ?_
      rw [Nat.add_sub_cancel_left]
      refine e_ireturn aX9_text_75 rfl (Nat.le_refl _) (Nat.le_refl _) ?_
      exact teT_of S3 (Bool.eq_false_iff.mpr q19) hR1 z2
    · -- 55: not taken
      obtain ⟨z1, z2⟩ := A.resolve_left (fun z => c55 z.1)
      have hR1 := congrArg Prod.fst eR
      refine e_aload_n aX9_text_58 rfl ?_
      refine e_iload_n aX9_text_59 rfl ?_
      refine e_putI aX9_text_60 fX9_89 rfl (fx_is F rfl) (Or.inl rfl) ?_
      refine e_aload_n aX9_text_63 rfl ?_
      refine e_iconst (v := 4) aX9_text_64 (by decide) ?_
      refine e_invvT aX9_text_65 kX9_128 (zX9_finds X (h := wI (wI h3 109 14 0) 109 4 (nI n)) F (k := 4) (by decide)) rfl rfl (fx_is F rfl) (Nat.le_of_ble_eq_true rfl) (Nat.le_of_ble_eq_true rfl) (Nat.le_refl _) (Nat.le_refl _) (Nat.le_of_ble_eq_true rfl) ?_
      refine e_ireturn aX9_text_68 rfl (Nat.le_refl _) (Nat.le_refl _) ?_
      exact teC_of S3 (Bool.eq_false_iff.mpr q19) hR1 (txP_le _ _ _ hx).2 z2
  · -- 19: not taken
    have q19 : rsW l (txF bt l D n f 13 (nxT bt l (0, 0)) 0 E) = true := Decidable.of_not_not (fun z => c19 (b2_f z))
    refine e_aload_n aX9_text_22 rfl ?_
    refine e_iconst (v := 0) aX9_text_23 (by decide) ?_
    refine e_putI aX9_text_24 fX9_248 rfl (fx_is F rfl) (Or.inl rfl) ?_
    refine e_iconst (v := -1) aX9_text_27 (by decide) ?_
    refine e_aload_n aX9_text_28 rfl ?_
    refine e_getIF aX9_text_29 fX9_262 rfl (fx_is F rfl) ((wI_i (by decide)).trans ps1.1) ?_
    refine e_isub aX9_text_32 ?_
    refine e_ireturn aX9_text_33 rfl (Nat.le_refl _) (Nat.le_refl _) ?_
    exact teW_of S2 md q19
