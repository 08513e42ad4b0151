/-! the reference: factors, both, either, depth by depth (written by wip/whole/g69.py) -/
/-- the contracts of factor, both and either, k more depths being left -/
def N1 (X : EX) (bt : Nat → Int32) (l n c : Nat) (D E : Nat → DD) (k : Nat) : Prop := ∀ (h0 : HP) (L : List Int32) (p : PT), FcP bt l h0 L p (n + c) → hI h0 109 21 = nI (6 - k) → Ct X mX9_factor (6 + 3 * k) 0 0 [vR (some 109)] h0 (fcQ bt l (n + c) (jnD D n E) h0 L p (oneF bt l D n E c k p))
def N2 (X : EX) (bt : Nat → Int32) (l n c : Nat) (D E : Nat → DD) (k : Nat) : Prop := ∀ (h0 : HP) (L : List Int32) (p : PT), FcP bt l h0 L p (n + c) → hI h0 109 21 = nI (6 - k) → Ct X mX9_both (7 + 3 * k) 0 0 [vR (some 109)] h0 (fcQ bt l (n + c) (jnD D n E) h0 L p (allF (oneF bt l D n E c k) bt l p))
def N3 (X : EX) (bt : Nat → Int32) (l n c : Nat) (D E : Nat → DD) (k : Nat) : Prop := ∀ (h0 : HP) (L : List Int32) (p : PT), FcP bt l h0 L p (n + c) → hI h0 109 21 = nI (6 - k) → Ct X mX9_either (8 + 3 * k) 0 0 [vR (some 109)] h0 (fcQ bt l (n + c) (jnD D n E) h0 L p (anyF (oneF bt l D n E c k) bt l p))
theorem ev_ct {X : EX} {y : MD} {d mc ms : Nat} {Q Q' : Option VV → HP → Prop} {cells slots pc : Nat} {ls : ZL} {st : List VV} {h : HP} (k : Ev X y d mc ms Q cells slots pc ls st h) (hq : Q = Q') : Ev X y d mc ms Q' cells slots pc ls st h := hq ▸ k
/-- the same state, other places of the reader's changed -/
theorem FcP.go {bt : Nat → Int32} {l N : Nat} {h0 h2 : HP} {L L2 : List Int32} {p p2 : PT} (P : FcP bt l h0 L p N) (S : Sf scF h0 h2) (ps : PsM h2 (false, p2)) (tk : TkI bt l p2) (cd : CdC h2 L2) (hL : L2.length ≤ p2.1) (hp : p.1 ≤ p2.1) : FcP bt l h2 L2 p2 N := by
  obtain ⟨F, t, -, -, -, -, hp2, a, b, hm, hf, hab, hN⟩ := P
  exact ⟨S.F F, S.tbF t, ps, tk, cd, hL, Nat.le_trans hp2 hp, a, b, (S.2 _ _ (by unfold scF; omega)).trans hm, (S.2 _ _ (by unfold scF; omega)).trans hf, hab, hN⟩
theorem bsF_n {bt : Nat → Int32} {l n c : Nat} {D E : Nat → DD} {p : PT} (h : tkQ bt p 9 = true ∨ tkQ bt p 10 = true) : bsF bt l D n E c p = (false, p, fun _ => false) := by
  have v := sLn_v
  have z : ∀ i, tkQ bt p i = true → sLn i = 3 ∨ sLn i = 1 := fun i q => by
    have := tkQ_ln q
    rcases h with h | h <;> have := tkQ_ln h <;> omega
  exact (if_neg (fun w => by have := z _ w; omega)).trans ((if_neg (fun w => by have := z _ w; omega)).trans (if_neg (fun w => by have := z _ w; omega)))
/-- a code more behind what a part leaves -/
theorem psC {h : HP} {u : SM} {j : Nat} {k : Int32} (q : PsM h u) : PsM (wI (wI h 119 j k) 109 23 (nI (j + 1))) u := ⟨(wI_i (by decide)).trans ((wI_a (by decide)).trans q.1), (wI_i (by decide)).trans ((wI_a (by decide)).trans q.2.1), (wI_i (by decide)).trans ((wI_a (by decide)).trans q.2.2)⟩
theorem sfcF {h h2 : HP} {j : Nat} {k v : Int32} (S : Sf scF h h2) : Sf scF h (wI (wI h2 119 j k) 109 23 v) := (S.wI (Or.inl rfl)).wI (Or.inr ⟨rfl, by omega⟩)
theorem VaC_n {N : Nat} {cs : List Int32} {k : Int32} (h : VaC N cs) (q : k = -1 ∨ k = -2 ∨ k = -3) : VaC N (cs ++ [k]) := VaC_app h (VaC_1 (q.elim Or.inl (fun q => q.elim (fun q => Or.inr (Or.inl q)) (fun q => Or.inr (Or.inr (Or.inl q))))))
theorem VaC_2 {N : Nat} {cs ds : List Int32} {k : Int32} (h : VaC N cs) (h2 : VaC N ds) (q : k = -1 ∨ k = -2 ∨ k = -3) : VaC N (cs ++ ds ++ [k]) := VaC_n (VaC_app h h2) q
theorem zboth (X : EX) {l n c : Nat} {bt : Nat → Int32} {D E : Nat → DD} (hn : n ≤ 12) (hc : c ≤ 12) {k : Nat} (hF : N1 X bt l n c D E k) : N2 X bt l n c D E k := by
  intro h0 L p P0 ho
  refine ct_of rfl (Nat.le_of_ble_eq_true rfl) ?_
  have P := P0
  obtain ⟨F, t, ps, tk, cd, hL, hp2, a9, b9, hm, hf, hab, hN⟩ := P0
  have ok1 := tk.1.1
  have ok2 := tk.1.2
  have h120 := t.2.1
  have We : ∀ (p1 : PT) (g9 : Nat → Bool) (cs : List Int32) (h1 : HP), Sf scF h0 h1 → hI h1 109 21 = hI h0 109 21 → PsM h1 (true, p1) → TkI bt l p1 → CdC h1 (L ++ cs) → cs.length + p.1 ≤ p1.1 + 1 → p.1 ≤ p1.1 → (allF (oneF bt l D n E c k) bt l p) = (false, p1, g9) → Ev X mX9_both (7 + 3 * k) 0 0 (fcQ bt l (n + c) (jnD D n E) h0 L p (allF (oneF bt l D n E c k) bt l p)) 0 0 4 [(0, some (vR (some 109)))] [] h1 := by
    intro p1 g9 cs h1 S1 o1 ps1 tk1 cd1 hl1 hg hE
    have F1 := S1.F F
    have t1 := S1.tbF t
    refine e_aload_n aX9_both_4 rfl ?_
    refine e_bipush (v := 10) aX9_both_5 (by decide) ?_
    refine e_invv aX9_both_7 kX9_312 (zX9_takes X F1 t1 (u := (true, p1)) ps1 tk1 (w9 := 10) (by decide)) rfl rfl (fx_is F1 rfl) (Nat.le_of_ble_eq_true rfl) (by omega) (Nat.le_refl _) (Nat.le_refl _) (Nat.le_of_ble_eq_true rfl) ?_
    rintro v h2 ⟨rfl, S2, ps2⟩
    refine e_if_eq aX9_both_10 (fun c10 => ?_) (fun c10 => ?_)
    · -- 10: taken
      have q10 := b2_0.mp c10
      refine e_return aX9_both_26 rfl (Nat.le_refl _) (Nat.le_refl _) ?_
      exact ⟨rfl, S1.tr S2.QF, (S2.2 _ _ (by unfold scQ; omega)).trans o1, by rw [hE]; exact ps2, by rw [hE]; exact tk1, by rw [hE]; exact hg, cs, cd1.sf S2 (by unfold scQ; omega) (fun i => by unfold scQ; omega), by rw [hE]; exact hl1, fun w => absurd w (by rw [hE]; exact Bool.false_ne_true)⟩
    · -- 10: not taken
      have q10 := Decidable.of_not_not (fun z => c10 (b2_0.mpr z))
      exact absurd q10 Bool.false_ne_true
  have loop : ∀ (m : Nat) (p1 : PT) (g : Nat → Bool) (cs : List Int32) (h1 : HP), l - p1.1 < m → Sf scF h0 h1 → hI h1 109 21 = hI h0 109 21 → PsM h1 (false, p1) → TkI bt l p1 → CdC h1 (L ++ cs) → cs.length + p.1 ≤ p1.1 → p.1 + 1 ≤ p1.1 → EvP (jnD D n E) cs g → VaC (n + c) cs → andL (oneF bt l D n E c k) bt l m p1 g = (allF (oneF bt l D n E c k) bt l p) → Ev X mX9_both (7 + 3 * k) 0 0 (fcQ bt l (n + c) (jnD D n E) h0 L p (allF (oneF bt l D n E c k) bt l p)) 0 0 4 [(0, some (vR (some 109)))] [] h1 := by
    intro m
    induction m with
    | zero =>
      intro p1 g cs h1 hm1
      exact absurd hm1 (Nat.not_lt_zero _)
    | succ m ih =>
      intro p1 g cs h1 hm1 S1 o1 ps1 tk1 cd1 hl1 hg hE1 hV1 hR
      have F1 := S1.F F
      have t1 := S1.tbF t
      refine e_aload_n aX9_both_4 rfl ?_
      refine e_bipush (v := 10) aX9_both_5 (by decide) ?_
      refine e_invv aX9_both_7 kX9_312 (ztw X F1 t1 ps1 tk1 (w9 := 10) (i9 := 15) (by decide) rfl) rfl rfl (fx_is F1 rfl) (Nat.le_of_ble_eq_true rfl) (by omega) (Nat.le_refl _) (Nat.le_refl _) (Nat.le_of_ble_eq_true rfl) ?_
      rintro v h2 ⟨rfl, S2, ps2⟩
      refine e_if_eq aX9_both_10 (fun c10 => ?_) (fun c10 => ?_)
      · -- 10: taken
        have q10 := b2_0.mp c10
        refine e_return aX9_both_26 rfl (Nat.le_refl _) (Nat.le_refl _) ?_
        have hE : (allF (oneF bt l D n E c k) bt l p) = (true, p1, g) := by rw [← hR, andL_s, if_neg q10]
        exact ⟨rfl, S1.tr S2.QF, (S2.2 _ _ (by unfold scQ; omega)).trans o1, by rw [hE]; exact (tkX_f (bt := bt) (l := l) q10) ▸ ps2, by rw [hE]; exact tk1, by rw [hE]; exact hg, cs, cd1.sf S2 (by unfold scQ; omega) (fun i => by unfold scQ; omega), by rw [hE]; exact hl1, fun _ => by rw [hE]; exact ⟨hE1, hV1⟩⟩
      · -- 10: not taken
        have q10 := Decidable.of_not_not (fun z => c10 (b2_0.mpr z))
        rw [tkX_t q10] at ps2
        have e3 := tkQ_ln q10
        have e4 := sLn_v
        have e5 := nx_ge (bt := bt) tk1.1.2
        have e6 := tk1.1.2
        have S3 := S1.tr S2.QF
        have cd2 : CdC h2 (L ++ cs) := cd1.sf S2 (by unfold scQ; omega) (fun i => by unfold scQ; omega)
        have hlen : (L ++ cs).length = L.length + cs.length := List.length_append
        have P2 : FcP bt l h2 (L ++ cs) (nxT bt l p1) (n + c) := P.go S3 ps2 (TkI_n tk1.1.2) cd2 (by omega) (by omega)
        have F2 := P2.1
        have o2 : hI h2 109 21 = hI h0 109 21 := (S2.2 _ _ (by unfold scQ; omega)).trans o1
        refine e_aload_n aX9_both_13 rfl ?_
        refine e_invv aX9_both_14 kX9_306 (hF h2 (L ++ cs) (nxT bt l p1) P2 (o2.trans ho)) rfl rfl (fx_is F2 rfl) (Nat.le_of_ble_eq_true rfl) (by omega) (Nat.le_refl _) (Nat.le_refl _) (Nat.le_of_ble_eq_true rfl) ?_
        rintro v h3 ⟨rfl, S4, o4, ps4, tk4, g4, cs2, cd4, l4, ev4⟩
        have F3 := S4.F (S3.F F)
        have t3 := S4.tbF (S3.tbF t)
        have e7 := tk4.1.1
        have e8 := tk4.1.2
        have hlen2 : (L ++ cs ++ cs2).length = L.length + cs.length + cs2.length := by rw [List.length_append, hlen]
        have hb3 : cs2.length + (nxT bt l p1).1 ≤ (oneF bt l D n E c k (nxT bt l p1)).2.1.1 + 1 := Nat.le_trans l4 (Nat.add_le_add_left (by split <;> decide) _)
        refine e_aload_n aX9_both_17 rfl ?_
        refine e_bipush (v := -2) aX9_both_18 (by decide) ?_
        refine e_invvV aX9_both_20 kX9_297 (zX9_codes X F3 (j := (L ++ cs ++ cs2).length) cd4.1 (by omega) (-2)) rfl rfl (fx_is F3 rfl) (Nat.le_of_ble_eq_true rfl) (by omega) (Nat.le_refl _) (Nat.le_refl _) (Nat.le_of_ble_eq_true rfl) ?_
        refine e_goto aX9_both_23 ?_
        have cd5 := cd4.s (k := (-2))
        rw [show L ++ cs ++ cs2 ++ [(-2 : Int32)] = L ++ (cs ++ cs2 ++ [-2]) by simp only [List.append_assoc]] at cd5
        have hlen3 : (cs ++ cs2 ++ [(-2 : Int32)]).length = cs.length + cs2.length + 1 := by rw [List.length_append, List.length_append]; rfl
        have S5 := sfcF (S3.tr S4) (j := (L ++ cs ++ cs2).length) (k := (-2)) (v := nI ((L ++ cs ++ cs2).length + 1))
        have o5 : hI (wI (wI h3 119 (L ++ cs ++ cs2).length (-2)) 109 23 (nI ((L ++ cs ++ cs2).length + 1))) 109 21 = hI h0 109 21 := (wI_i (by decide)).trans ((wI_a (by decide)).trans (o4.trans o2))
        by_cases z : (oneF bt l D n E c k (nxT bt l p1)).1 = true
        · rw [if_pos z] at g4 l4
          have ps5 := psC (j := (L ++ cs ++ cs2).length) (k := (-2)) ps4
          rw [z] at ps5
          exact ih (oneF bt l D n E c k (nxT bt l p1)).2.1 (fun u => g u && (oneF bt l D n E c k (nxT bt l p1)).2.2 u) (cs ++ cs2 ++ [-2]) _ (by omega) S5 o5 ps5 tk4 cd5 (by omega) (by omega) (EvP_a hE1 (ev4 z).1) (VaC_2 hV1 (ev4 z).2 (by decide)) (by rw [← hR, andL_s, if_pos q10, if_pos z])
        · rw [if_neg z] at g4 l4
          have ps5 := psC (j := (L ++ cs ++ cs2).length) (k := (-2)) ps4
          rw [Bool.eq_false_iff.mpr z] at ps5
          exact We (oneF bt l D n E c k (nxT bt l p1)).2.1 g (cs ++ cs2 ++ [-2]) _ S5 o5 ps5 tk4 cd5 (by omega) (by omega) (by rw [← hR, andL_s, if_pos q10, if_neg z])
  refine e_aload_n aX9_both_0 rfl ?_
  refine e_invv aX9_both_1 kX9_306 (hF h0 L p P ho) rfl rfl (fx_is F rfl) (Nat.le_of_ble_eq_true rfl) (by omega) (Nat.le_refl _) (Nat.le_refl _) (Nat.le_of_ble_eq_true rfl) ?_
  rintro v h1 ⟨rfl, S1, o1, ps1, tk1, g1, cs, cd1, l1, ev1⟩
  have e9 := tk1.1.2
  refine e_ls (ls' := [(0, some (vR (some 109)))]) ⟨rfl, trivial⟩ ?_
  by_cases z : (oneF bt l D n E c k p).1 = true
  · rw [if_pos z] at g1 l1
    rw [z] at ps1
    exact loop 120 (oneF bt l D n E c k p).2.1 (oneF bt l D n E c k p).2.2 cs h1 (by omega) S1 o1 ps1 tk1 cd1 l1 g1 (ev1 z).1 (ev1 z).2 (by unfold allF; rw [if_pos z])
  · rw [if_neg z] at g1 l1
    rw [Bool.eq_false_iff.mpr z] at ps1
    exact We (oneF bt l D n E c k p).2.1 (fun _ => false) cs h1 S1 o1 ps1 tk1 cd1 l1 g1 (by unfold allF; rw [if_neg z])
theorem zeither (X : EX) {l n c : Nat} {bt : Nat → Int32} {D E : Nat → DD} (hn : n ≤ 12) (hc : c ≤ 12) {k : Nat} (hF : N2 X bt l n c D E k) : N3 X bt l n c D E k := by
  intro h0 L p P0 ho
  refine ct_of rfl (Nat.le_of_ble_eq_true rfl) ?_
  have P := P0
  obtain ⟨F, t, ps, tk, cd, hL, hp2, a9, b9, hm, hf, hab, hN⟩ := P0
  have ok1 := tk.1.1
  have ok2 := tk.1.2
  have h120 := t.2.1
  have We : ∀ (p1 : PT) (g9 : Nat → Bool) (cs : List Int32) (h1 : HP), Sf scF h0 h1 → hI h1 109 21 = hI h0 109 21 → PsM h1 (true, p1) → TkI bt l p1 → CdC h1 (L ++ cs) → cs.length + p.1 ≤ p1.1 + 1 → p.1 ≤ p1.1 → (anyF (oneF bt l D n E c k) bt l p) = (false, p1, g9) → Ev X mX9_either (8 + 3 * k) 0 0 (fcQ bt l (n + c) (jnD D n E) h0 L p (anyF (oneF bt l D n E c k) bt l p)) 0 0 4 [(0, some (vR (some 109)))] [] h1 := by
    intro p1 g9 cs h1 S1 o1 ps1 tk1 cd1 hl1 hg hE
    have F1 := S1.F F
    have t1 := S1.tbF t
    refine e_aload_n aX9_either_4 rfl ?_
    refine e_bipush (v := 9) aX9_either_5 (by decide) ?_
    refine e_invv aX9_either_7 kX9_312 (zX9_takes X F1 t1 (u := (true, p1)) ps1 tk1 (w9 := 9) (by decide)) rfl rfl (fx_is F1 rfl) (Nat.le_of_ble_eq_true rfl) (by omega) (Nat.le_refl _) (Nat.le_refl _) (Nat.le_of_ble_eq_true rfl) ?_
    rintro v h2 ⟨rfl, S2, ps2⟩
    refine e_if_eq aX9_either_10 (fun c10 => ?_) (fun c10 => ?_)
    · -- 10: taken
      have q10 := b2_0.mp c10
      refine e_return aX9_either_26 rfl (Nat.le_refl _) (Nat.le_refl _) ?_
      exact ⟨rfl, S1.tr S2.QF, (S2.2 _ _ (by unfold scQ; omega)).trans o1, by rw [hE]; exact ps2, by rw [hE]; exact tk1, by rw [hE]; exact hg, cs, cd1.sf S2 (by unfold scQ; omega) (fun i => by unfold scQ; omega), by rw [hE]; exact hl1, fun w => absurd w (by rw [hE]; exact Bool.false_ne_true)⟩
    · -- 10: not taken
      have q10 := Decidable.of_not_not (fun z => c10 (b2_0.mpr z))
      exact absurd q10 Bool.false_ne_true
  have loop : ∀ (m : Nat) (p1 : PT) (g : Nat → Bool) (cs : List Int32) (h1 : HP), l - p1.1 < m → Sf scF h0 h1 → hI h1 109 21 = hI h0 109 21 → PsM h1 (false, p1) → TkI bt l p1 → CdC h1 (L ++ cs) → cs.length + p.1 ≤ p1.1 → p.1 + 1 ≤ p1.1 → EvP (jnD D n E) cs g → VaC (n + c) cs → (if tkQ bt p1 16 = true then orL (oneF bt l D n E c k) bt l m (nxT bt l p1) g else (true, p1, g)) = (anyF (oneF bt l D n E c k) bt l p) → Ev X mX9_either (8 + 3 * k) 0 0 (fcQ bt l (n + c) (jnD D n E) h0 L p (anyF (oneF bt l D n E c k) bt l p)) 0 0 4 [(0, some (vR (some 109)))] [] h1 := by
    intro m
    induction m with
    | zero =>
      intro p1 g cs h1 hm1
      exact absurd hm1 (Nat.not_lt_zero _)
    | succ m ih =>
      intro p1 g cs h1 hm1 S1 o1 ps1 tk1 cd1 hl1 hg hE1 hV1 hR
      have F1 := S1.F F
      have t1 := S1.tbF t
      refine e_aload_n aX9_either_4 rfl ?_
      refine e_bipush (v := 9) aX9_either_5 (by decide) ?_
      refine e_invv aX9_either_7 kX9_312 (ztw X F1 t1 ps1 tk1 (w9 := 9) (i9 := 16) (by decide) rfl) rfl rfl (fx_is F1 rfl) (Nat.le_of_ble_eq_true rfl) (by omega) (Nat.le_refl _) (Nat.le_refl _) (Nat.le_of_ble_eq_true rfl) ?_
      rintro v h2 ⟨rfl, S2, ps2⟩
      refine e_if_eq aX9_either_10 (fun c10 => ?_) (fun c10 => ?_)
      · -- 10: taken
        have q10 := b2_0.mp c10
        refine e_return aX9_either_26 rfl (Nat.le_refl _) (Nat.le_refl _) ?_
        have hE : (anyF (oneF bt l D n E c k) bt l p) = (true, p1, g) := by rw [← hR, if_neg q10]
        exact ⟨rfl, S1.tr S2.QF, (S2.2 _ _ (by unfold scQ; omega)).trans o1, by rw [hE]; exact (tkX_f (bt := bt) (l := l) q10) ▸ ps2, by rw [hE]; exact tk1, by rw [hE]; exact hg, cs, cd1.sf S2 (by unfold scQ; omega) (fun i => by unfold scQ; omega), by rw [hE]; exact hl1, fun _ => by rw [hE]; exact ⟨hE1, hV1⟩⟩
      · -- 10: not taken
        have q10 := Decidable.of_not_not (fun z => c10 (b2_0.mpr z))
        rw [tkX_t q10] at ps2
        have e3 := tkQ_ln q10
        have e4 := sLn_v
        have e5 := nx_ge (bt := bt) tk1.1.2
        have e6 := tk1.1.2
        have S3 := S1.tr S2.QF
        have cd2 : CdC h2 (L ++ cs) := cd1.sf S2 (by unfold scQ; omega) (fun i => by unfold scQ; omega)
        have hlen : (L ++ cs).length = L.length + cs.length := List.length_append
        have P2 : FcP bt l h2 (L ++ cs) (nxT bt l p1) (n + c) := P.go S3 ps2 (TkI_n tk1.1.2) cd2 (by omega) (by omega)
        have F2 := P2.1
        have o2 : hI h2 109 21 = hI h0 109 21 := (S2.2 _ _ (by unfold scQ; omega)).trans o1
        refine e_aload_n aX9_either_13 rfl ?_
        refine e_invv aX9_either_14 kX9_322 (hF h2 (L ++ cs) (nxT bt l p1) P2 (o2.trans ho)) rfl rfl (fx_is F2 rfl) (Nat.le_of_ble_eq_true rfl) (by omega) (Nat.le_refl _) (Nat.le_refl _) (Nat.le_of_ble_eq_true rfl) ?_
        rintro v h3 ⟨rfl, S4, o4, ps4, tk4, g4, cs2, cd4, l4, ev4⟩
        have F3 := S4.F (S3.F F)
        have t3 := S4.tbF (S3.tbF t)
        have e7 := tk4.1.1
        have e8 := tk4.1.2
        have hlen2 : (L ++ cs ++ cs2).length = L.length + cs.length + cs2.length := by rw [List.length_append, hlen]
        have hb3 : cs2.length + (nxT bt l p1).1 ≤ (allF (oneF bt l D n E c k) bt l (nxT bt l p1)).2.1.1 + 1 := Nat.le_trans l4 (Nat.add_le_add_left (by split <;> decide) _)
        refine e_aload_n aX9_either_17 rfl ?_
        refine e_bipush (v := -3) aX9_either_18 (by decide) ?_
        refine e_invvV aX9_either_20 kX9_297 (zX9_codes X F3 (j := (L ++ cs ++ cs2).length) cd4.1 (by omega) (-3)) rfl rfl (fx_is F3 rfl) (Nat.le_of_ble_eq_true rfl) (by omega) (Nat.le_refl _) (Nat.le_refl _) (Nat.le_of_ble_eq_true rfl) ?_
        refine e_goto aX9_either_23 ?_
        have cd5 := cd4.s (k := (-3))
        rw [show L ++ cs ++ cs2 ++ [(-3 : Int32)] = L ++ (cs ++ cs2 ++ [-3]) by simp only [List.append_assoc]] at cd5
        have hlen3 : (cs ++ cs2 ++ [(-3 : Int32)]).length = cs.length + cs2.length + 1 := by rw [List.length_append, List.length_append]; rfl
        have S5 := sfcF (S3.tr S4) (j := (L ++ cs ++ cs2).length) (k := (-3)) (v := nI ((L ++ cs ++ cs2).length + 1))
        have o5 : hI (wI (wI h3 119 (L ++ cs ++ cs2).length (-3)) 109 23 (nI ((L ++ cs ++ cs2).length + 1))) 109 21 = hI h0 109 21 := (wI_i (by decide)).trans ((wI_a (by decide)).trans (o4.trans o2))
        by_cases z : (allF (oneF bt l D n E c k) bt l (nxT bt l p1)).1 = true
        · rw [if_pos z] at g4 l4
          have ps5 := psC (j := (L ++ cs ++ cs2).length) (k := (-3)) ps4
          rw [z] at ps5
          exact ih (allF (oneF bt l D n E c k) bt l (nxT bt l p1)).2.1 (fun u => g u || (allF (oneF bt l D n E c k) bt l (nxT bt l p1)).2.2 u) (cs ++ cs2 ++ [-3]) _ (by omega) S5 o5 ps5 tk4 cd5 (by omega) (by omega) (EvP_o hE1 (ev4 z).1) (VaC_2 hV1 (ev4 z).2 (by decide)) (by rw [← hR, if_pos q10, orL_s, if_pos z])
        · rw [if_neg z] at g4 l4
          have ps5 := psC (j := (L ++ cs ++ cs2).length) (k := (-3)) ps4
          rw [Bool.eq_false_iff.mpr z] at ps5
          exact We (allF (oneF bt l D n E c k) bt l (nxT bt l p1)).2.1 g (cs ++ cs2 ++ [-3]) _ S5 o5 ps5 tk4 cd5 (by omega) (by omega) (by rw [← hR, if_pos q10, orL_s, if_neg z])
  refine e_aload_n aX9_either_0 rfl ?_
  refine e_invv aX9_either_1 kX9_322 (hF h0 L p P ho) rfl rfl (fx_is F rfl) (Nat.le_of_ble_eq_true rfl) (by omega) (Nat.le_refl _) (Nat.le_refl _) (Nat.le_of_ble_eq_true rfl) ?_
  rintro v h1 ⟨rfl, S1, o1, ps1, tk1, g1, cs, cd1, l1, ev1⟩
  have e9 := tk1.1.2
  refine e_ls (ls' := [(0, some (vR (some 109)))]) ⟨rfl, trivial⟩ ?_
  by_cases z : (allF (oneF bt l D n E c k) bt l p).1 = true
  · rw [if_pos z] at g1 l1
    rw [z] at ps1
    exact loop 119 (allF (oneF bt l D n E c k) bt l p).2.1 (fun u => (fun _ => false) u || (allF (oneF bt l D n E c k) bt l p).2.2 u) cs h1 (by omega) S1 o1 ps1 tk1 cd1 l1 g1 (EvP_c (ev1 z).1 (fun s _ => rfl)) (ev1 z).2 ((orL_s (one := oneF bt l D n E c k) (m := 119) (p := p) (g := fun _ => false)).trans (if_pos z)).symm
  · rw [if_neg z] at g1 l1
    rw [Bool.eq_false_iff.mpr z] at ps1
    exact We (allF (oneF bt l D n E c k) bt l p).2.1 (fun _ => false) cs h1 S1 o1 ps1 tk1 cd1 l1 g1 (by unfold anyF; rw [orL_s, if_neg z])
