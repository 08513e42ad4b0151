/-! the law: a deal comes to its Book (written by wip/p45/g90.py) -/
theorem R0_lt {a i : Nat} (h : R0 a i ≠ 0) : a < 116 ∧ a ≠ 110 ∧ a ≠ 111 := by
  refine ⟨?_, fun e => ?_, fun e => ?_⟩
  · rcases Nat.lt_or_ge a 116 with z | z
    · exact z
    · exfalso
      apply h
      unfold R0
      rw [show R0l.getD (a - 32) [] = [] by
        rw [List.getD_eq_getElem?_getD, List.getElem?_eq_none (by rw [show R0l.length = 84 from rfl]; omega)]
        rfl]
      rfl
  · subst e
    exact h rfl
  · subst e
    exact h rfl
/-- what a step of the law's may change -/
def LF (h h' : HP) : Prop := hZ h ≤ hZ h' ∧ ∀ b, b < hZ h → hT h' b = hT h b ∧ hN h' b = hN h b ∧ (∀ i, hL h' b i = hL h b i) ∧ (¬ (109 ≤ b ∧ b < 116) → ∀ i, hI h' b i = hI h b i) ∧ (¬ (b = 110 ∨ b = 111) → ¬ (116 ≤ b ∧ hT h b = 20) → ∀ i, hR h' b i = hR h b i)
theorem LF.rf (h : HP) : LF h h := ⟨Nat.le_refl _, fun _ _ => ⟨rfl, rfl, fun _ => rfl, fun _ _ => rfl, fun _ _ _ => rfl⟩⟩
theorem LF.tr {h1 h2 h3 : HP} (a : LF h1 h2) (b : LF h2 h3) : LF h1 h3 := ⟨Nat.le_trans a.1 b.1, fun c hc => by
  obtain ⟨p1, p2, p3, p4, p5⟩ := a.2 c hc
  obtain ⟨q1, q2, q3, q4, q5⟩ := b.2 c (Nat.lt_of_lt_of_le hc a.1)
  exact ⟨q1.trans p1, q2.trans p2, fun i => (q3 i).trans (p3 i), fun z i => (q4 z i).trans (p4 z i), fun z y i => (q5 z (by rw [p1]; exact y) i).trans (p5 z y i)⟩⟩
theorem LF.af {h h' : HP} {a e : Nat} (k : Af h h' a e) (ha : a = 110 ∨ a = 111) : LF h h' := ⟨k.1, fun b hb => by
  obtain ⟨p1, p2, p3, p4, p5⟩ := k.2 b hb
  exact ⟨p1, p2, p3, fun z => p4 (by omega), fun z y => p5 (by omega) (fun q => y q.2)⟩⟩
theorem LF.wI {h : HP} {a j : Nat} {v : Int32} (ha : 109 ≤ a ∧ a < 116) : LF h (wI h a j v) := ⟨Nat.le_refl _, fun b _ => ⟨rfl, rfl, fun _ => rfl, fun z i => wI_a (by omega), fun _ _ _ => rfl⟩⟩
theorem LF.sf {P : Nat → Nat → Prop} {h h' : HP} (s : Sf P h h') (n1 : ∀ a i, P a i → 109 ≤ a ∧ a < 116) : LF h h' := ⟨by rw [s.hp.2.2.2.2]; exact Nat.le_refl _, fun b _ => ⟨s.hp.2.2.1 b, s.hp.2.2.2.1 b, s.hp.1 b, fun z i => s.2 _ _ (fun q => z (n1 _ _ q)), fun _ _ => s.hp.2.1 b⟩⟩
theorem LF.F {h h' : HP} (k : LF h h') (F : Fx h) : Fx h' := by
  refine ⟨Nat.le_trans F.1 k.1, fun a h1 h2 => ?_, fun a i hr => ?_⟩
  · obtain ⟨p1, p2, -⟩ := k.2 a (Nat.lt_of_lt_of_le h2 F.1)
    obtain ⟨f1, f2⟩ := F.2.1 a h1 h2
    exact ⟨p1.trans f1, p2.trans f2⟩
  · obtain ⟨r1, r2, r3⟩ := R0_lt hr
    have hz : 116 ≤ hZ h := F.1
    exact ((k.2 a (by omega)).2.2.2.2 (by omega) (by omega) i).trans (F.2.2 a i hr)
theorem LF.is {h h' : HP} (k : LF h h') {a t : Nat} (q : Is h a t) : Is h' a t := ⟨q.1, Nat.lt_of_lt_of_le q.2.1 k.1, (k.2 a q.2.1).1.trans q.2.2⟩
theorem FaC.lf {h h' : HP} {a : Nat} {d : DD} (q : FaC h a d) (k : LF h h') : FaC h' a d := by
  obtain ⟨k0, kf, kn, w, hc, e0, e1, e2, e3, e4, e5⟩ := q
  obtain ⟨p1, p2, p3, p4, p5⟩ := k.2 a kf.2.1
  have p4 := p4 (by omega)
  exact ⟨k0, k.is kf, p2.trans kn, w, hc, (p4 _).trans e0, (p4 _).trans e1, (p4 _).trans e2, (p4 _).trans e3, (p4 _).trans e4, (p4 _).trans e5⟩
theorem AL.af {h h' : HP} {a b e e2 m : Nat} {g : Nat → Option Nat} (L : AL h b m e2 g) (k : Af h h' a e) (hb : b < hZ h) (hab : b ≠ a) (hb6 : b < 116) (ka : a < 116) (hne : m ≠ 0 → e2 ≠ e) : AL h' b m e2 g := by
  obtain ⟨l1, l2, l3, l4⟩ := L
  obtain ⟨p1, p2, p3, p4, p5⟩ := k.2 b hb
  have p5 := p5 hab (by omega)
  refine ⟨(p4 hab _).trans l1, l2, ?_, fun i hi => ?_⟩
  · rcases l3 with ⟨z, l5⟩ | ⟨l5, l6, l7, l8, l9⟩
    · exact Or.inl ⟨z, (p5 _).trans l5⟩
    · obtain ⟨q1, q2, -⟩ := k.2 e2 l8.2.1
      exact Or.inr ⟨l5, (p5 _).trans l6, l7, ⟨l8.1, Nat.lt_of_lt_of_le l8.2.1 k.1, q1.trans l8.2.2⟩, q2.trans l9⟩
  · rcases l3 with ⟨z, l5⟩ | ⟨l5, l6, l7, l8, l9⟩
    · omega
    · obtain ⟨q1, q2, q3, q4, q5⟩ := k.2 e2 l8.2.1
      have hne := hne (by omega)
      exact (q5 (by omega) (fun z => hne z.1) i).trans (l4 i hi)
theorem AL.wI {h : HP} {b m e2 a j : Nat} {v : Int32} {g : Nat → Option Nat} (L : AL h b m e2 g) (hab : b ≠ a) : AL (wI h a j v) b m e2 g := ⟨(wI_a hab).trans L.1, L.2.1, L.2.2.1, L.2.2.2⟩
/-- one more -/
def upF {α : Type} (g : Nat → α) (k : Nat) (x : α) : Nat → α := fun i => if i = k then x else g i
theorem upF_s {α : Type} {g : Nat → α} {k : Nat} {x : α} : upF g k x k = x := if_pos rfl
theorem upF_o {α : Type} {g : Nat → α} {k i : Nat} {x : α} (h : i ≠ k) : upF g k x i = g i := if_neg h
/-- the lists behind one more deal -/
theorem ll_add {h h1 h2 : HP} {m e1 e2 fb : Nat} {fa : Nat → Nat} {E : Nat → DD} {d : DD} (F : Fx h) (ll : LL h m e1 e2 fa E) (kd : FaC h fb d) (a1 : ADp h h1 110 m e1 (some fb) (fun i => some (fa i))) (a2 : ADp h1 h2 111 m e2 none (fun _ => none)) : LF h h2 ∧ ∃ x1 x2, LL h2 (m + 1) x1 x2 (upF fa m fb) (upF E m d) := by
  obtain ⟨A1, x1, p1, p2, L1⟩ := a1
  obtain ⟨A2, x2, q1, q2, L2⟩ := a2
  have hz : 116 ≤ hZ h := F.1
  have hf := (LF.af A1 (Or.inl rfl)).tr (LF.af A2 (Or.inr rfl))
  have hx1 : Is h1 x1 20 := by
    obtain ⟨l1, l2, l3, l4⟩ := L1
    rcases l3 with ⟨z, l5⟩ | ⟨l5, l6, l7, l8, l9⟩
    · omega
    · exact l8
  have hz1 : hZ h ≤ hZ h1 := A1.1
  have hne : x1 ≠ x2 := by
    by_cases z : m = 0
    · rw [p1 z, q1 z]
      have := hx1.2.1
      rw [p1 z] at this
      omega
    · rw [p2 z, q2 z]
      exact ll.2.2.1 z
  refine ⟨hf, x1, x2, ?_, ?_, fun _ => hne, fun i hi => ?_⟩
  · have h9 := L1.af A2 (by omega) (by decide) (by decide) (by decide) (fun _ z => by
      by_cases y : m = 0
      · rw [if_pos y] at z
        have := hx1.1
        omega
      · rw [if_neg y] at z
        exact ll.2.2.1 y ((p2 y).symm.trans z))
    exact ⟨h9.1, h9.2.1, h9.2.2.1, fun i hi => (h9.2.2.2 i hi).trans (by dsimp only [upF]; split <;> rfl)⟩
  · exact ⟨L2.1, L2.2.1, L2.2.2.1, fun i hi => (L2.2.2.2 i hi).trans (by dsimp only; split <;> rfl)⟩
  · by_cases z : i = m
    · rw [z, upF_s, upF_s]
      exact kd.lf hf
    · rw [upF_o z, upF_o z]
      exact (ll.2.2.2 i (by omega)).lf hf
/-- what comes answers, and what lies there then -/
def coQ (h : HP) (m n f : Nat) (o fa τ : Nat → Nat) (E D : Nat → DD) (fb : Nat) (d : DD) : Option VV → HP → Prop := fun v h' => LF h h' ∧ Fx h' ∧ (∃ x1 x2, LL h' (m + 1) x1 x2 (upF fa m fb) (upF E m d)) ∧ LY h' f o ∧ match rfs (upF D n d) (n + 1) (fo o f) (om f) with
  | none => v = some (vI 1) ∧ LT h' (m + 1) (n + 1) (upF τ n m) (upF E m d) (upF D n d)
  | some s => v = some (vI 0) ∧ LT h' (m + 1) n (upF τ n m) (upF E m d) D ∧ ∃ p, rfc (upF D n d) (n + 1) s = some p ∧ hI h' 109 8 = nI s ∧ hI h' 109 9 = nI p ∧ hI h' 109 10 = rclV (upF D n d) (n + 1) s p
theorem LT.lf {h h' : HP} {m n : Nat} {τ : Nat → Nat} {E D : Nat → DD} {d : DD} (hn : n < 12) (k : LT h m n τ E D) (e1 : hI h' 109 3 = nI (n + 1)) (e2 : hI h' 112 n = nI m) (e3 : ∀ j, j < n → hI h' 112 j = hI h 112 j) : LT h' (m + 1) (n + 1) (upF τ n m) (upF E m d) (upF D n d) := ⟨e1, hn, fun j hj => by
  by_cases z : j = n
  · rw [z, upF_s, upF_s]
    exact ⟨e2, Nat.lt_succ_self _, upF_s.symm⟩
  · obtain ⟨a, b, c⟩ := k.2.2 j (by omega)
    rw [upF_o z, upF_o z, upF_o (show τ j ≠ m by omega)]
    exact ⟨(e3 j (by omega)).trans a, by omega, c⟩⟩
theorem LT.lf0 {h h' : HP} {m n : Nat} {τ : Nat → Nat} {E D : Nat → DD} {d : DD} (k : LT h m n τ E D) (e1 : hI h' 109 3 = nI n) (e3 : ∀ j, j < n → hI h' 112 j = hI h 112 j) : LT h' (m + 1) n (upF τ n m) (upF E m d) D := ⟨e1, k.2.1, fun j hj => by
  obtain ⟨a, b, c⟩ := k.2.2 j hj
  rw [upF_o (show j ≠ n by omega), upF_o (show τ j ≠ m by omega)]
  exact ⟨(e3 j hj).trans a, by omega, c⟩⟩
theorem LL.wI {h : HP} {m e1 e2 a j : Nat} {v : Int32} {fa : Nat → Nat} {E : Nat → DD} (k : LL h m e1 e2 fa E) (ha : 109 ≤ a ∧ a < 116) (h1 : a ≠ 110) (h2 : a ≠ 111) : LL (wI h a j v) m e1 e2 fa E := ⟨k.1.wI (Ne.symm h1), k.2.1.wI (Ne.symm h2), k.2.2.1, fun i hi => (k.2.2.2 i hi).lf (LF.wI ha)⟩
theorem LY.wI {h : HP} {f a j : Nat} {o : Nat → Nat} {v : Int32} (k : LY h f o) (h1 : ¬ (a = 109 ∧ j = 4)) (h2 : a ≠ 113) : LY (wI h a j v) f o := ⟨(if_neg (fun q => h1 ⟨q.1.symm, q.2.symm⟩)).trans k.1, k.2.1, fun y hy => (wI_a (Ne.symm h2)).trans (k.2.2.1 y hy), k.2.2.2⟩
theorem LY.af {h h' : HP} {a e f : Nat} {o : Nat → Nat} (k : LY h f o) (A : Af h h' a e) (hz : 116 ≤ hZ h) (ha : a = 110 ∨ a = 111) : LY h' f o := ⟨((A.2 109 (by omega)).2.2.2.1 (by omega) _).trans k.1, k.2.1, fun y hy => ((A.2 113 (by omega)).2.2.2.1 (by omega) _).trans (k.2.2.1 y hy), k.2.2.2⟩
theorem zX9_comes (X : EX) {h : HP} (F : Fx h) {m n e1 e2 f fb : Nat} {fa τ o : Nat → Nat} {E D : Nat → DD} {d : DD} (ll : LL h m e1 e2 fa E) (lt : LT h m n τ E D) (ly : LY h f o) (kd : FaC h fb d) (hm : m < 10) (hn : n < 12) : Ct X mX9_comes 7 2 20 [vR (some 109), vR (some fb), vR none] h (coQ h m n f o fa τ E D fb d) := by
  refine ct_of rfl (Nat.le_of_ble_eq_true rfl) ?_
  have hz : 116 ≤ hZ h := F.1
  have F0 := F
  refine e_aload_n aX9_comes_0 rfl ?_
  refine e_getRF aX9_comes_1 fX9_10 rfl (fx_is F rfl) (fx_r (b := 110) F rfl) ?_
  refine e_aload_n aX9_comes_4 rfl ?_
  refine e_invv aX9_comes_5 kX9_88 (zJx4a65c_add_9ea2d X (fx_is F rfl) ll.1 hm hz (x := some fb) (fun b q => by cases q; exact kd.2.1)) rfl rfl (fx_is F rfl) (Nat.le_of_ble_eq_true rfl) (Nat.le_of_ble_eq_true rfl) (Nat.le_of_ble_eq_true rfl) (Nat.le_of_ble_eq_true rfl) (Nat.le_of_ble_eq_true rfl) ?_
  rintro v h1 ⟨rfl, a1⟩
  have F1 : Fx h1 := (LF.af a1.1 (Or.inl rfl)).F F
  have l1 : AL h1 111 m e2 (fun _ => none) := ll.2.1.af a1.1 (by omega) (by decide) (by decide) (by decide) (fun y => by rw [if_neg y]; exact (ll.2.2.1 y).symm)
  have hz1 : 116 ≤ hZ h1 := F1.1
  have F := F1
  refine e_pop aX9_comes_8 rfl ?_
  refine e_aload_n aX9_comes_9 rfl ?_
  refine e_getRF aX9_comes_10 fX9_16 rfl (fx_is F rfl) (fx_r (b := 111) F rfl) ?_
  refine e_aload_n aX9_comes_13 rfl ?_
  refine e_invv aX9_comes_14 kX9_88 (zJx4a65c_add_9ea2d X (fx_is F rfl) l1 hm hz1 (x := none) (fun b q => by cases q)) rfl rfl (fx_is F rfl) (Nat.le_of_ble_eq_true rfl) (Nat.le_of_ble_eq_true rfl) (Nat.le_of_ble_eq_true rfl) (Nat.le_of_ble_eq_true rfl) (Nat.le_of_ble_eq_true rfl) ?_
  rintro v h2 ⟨rfl, a2⟩
  have F2 : Fx h2 := (LF.af a2.1 (Or.inr rfl)).F F1
  obtain ⟨hf, x1, x2, lL⟩ := ll_add F0 ll kd a1 a2
  have ly2 : LY h2 f o := (ly.af a1.1 hz (Or.inl rfl)).af a2.1 hz1 (Or.inr rfl)
  have n3 : hI h2 109 3 = nI n := (((a2.1.2 109 (by omega)).2.2.2.1 (by decide) _).trans ((a1.1.2 109 (by omega)).2.2.2.1 (by decide) _)).trans lt.1
  have n12 : ∀ j, hI h2 112 j = hI h 112 j := fun j => ((a2.1.2 112 (by omega)).2.2.2.1 (by decide) _).trans ((a1.1.2 112 (by omega)).2.2.2.1 (by decide) _)
  have F := F2
  refine e_pop aX9_comes_17 rfl ?_
  refine e_aload_n aX9_comes_18 rfl ?_
  refine e_getRF aX9_comes_19 fX9_19 rfl (fx_is F rfl) (fx_r (b := 112) F rfl) ?_
  refine e_aload_n aX9_comes_22 rfl ?_
  refine e_getIF aX9_comes_23 fX9_66 rfl (fx_is F rfl) n3 ?_
  refine e_aload_n aX9_comes_26 rfl ?_
  refine e_getRF aX9_comes_27 fX9_10 rfl (fx_is F rfl) (fx_r (b := 110) F rfl) ?_
  refine e_invvT aX9_comes_30 kX9_92 (zJx4a65c_size_8abf5 X (fx_is F rfl) lL.1) rfl rfl (fx_is F rfl) (Nat.le_of_ble_eq_true rfl) (Nat.le_of_ble_eq_true rfl) (Nat.le_refl _) (Nat.le_refl _) (Nat.le_of_ble_eq_true rfl) ?_
  refine e_iconst (v := 1) aX9_comes_33 (by decide) ?_
  refine e_isub aX9_comes_34 ?_
  refine e_top (v := nI m) ((nI_subN (a := m + 1) (b := 1) (by omega)).trans rfl) ?_
  refine e_iastoreF aX9_comes_35 (fx_is F rfl) (fx_n (n := 13) F rfl) (vin (N := 13) (by omega)) ?_
  rw [cl (n := n) (by omega)]
  refine e_aload_n aX9_comes_36 rfl ?_
  refine e_dup aX9_comes_37 rfl ?_
  refine e_getIF aX9_comes_38 fX9_66 rfl (fx_is F rfl) ((wI_a (by decide)).trans n3) ?_
  refine e_iconst (v := 1) aX9_comes_41 (by decide) ?_
  refine e_iadd aX9_comes_42 ?_
  refine e_top (nI_1 n) ?_
  refine e_putI aX9_comes_43 fX9_66 rfl (fx_is F rfl) (Or.inl rfl) ?_
  refine e_aload_n aX9_comes_46 rfl ?_
  refine e_invv aX9_comes_47 kX9_93 (zX9_clashes X (h0 := (wI (wI h2 112 n (nI m)) 109 3 (nI (n + 1)))) F ((lL.wI (by decide) (by decide) (by decide)).wI (by decide) (by decide) (by decide)) (lt.lf (h' := (wI (wI h2 112 n (nI m)) 109 3 (nI (n + 1)))) (d := d) hn wI_s ((wI_a (by decide)).trans wI_s) (fun j hj => (wI_a (by decide)).trans ((wI_i (by omega)).trans (n12 j)))) ((ly2.wI (by omega) (by decide)).wI (by omega) (by decide))) rfl rfl (fx_is F rfl) (Nat.le_of_ble_eq_true rfl) (Nat.le_of_ble_eq_true rfl) (Nat.le_of_ble_eq_true rfl) (Nat.le_of_ble_eq_true rfl) (Nat.le_of_ble_eq_true rfl) ?_
  rintro v h5 ⟨S, q5⟩
  have F5 : Fx h5 := S.F F
  have F := F5
  have ly5 : LY h5 f o := (((ly2.wI (by omega) (by decide)).wI (by omega) (by decide)).sf S (by unfold scK; omega) (fun i => by unfold scK; omega) : LY h5 f o)
  have lL5 := ((lL.wI (a := 112) (j := n) (v := nI m) (by decide) (by decide) (by decide)).wI (a := 109) (j := 3) (v := nI (n + 1)) (by decide) (by decide) (by decide)).sf S scK_l
  have m5 : hI h5 109 3 = nI (n + 1) := (S.2 _ _ (by unfold scK; omega)).trans wI_s
  have t5 : ∀ j, j < n → hI h5 112 j = hI h 112 j := fun j hj => (S.2 _ _ (by unfold scK; omega)).trans ((wI_a (by decide)).trans ((wI_i (by omega)).trans (n12 j)))
  have u5 : hI h5 112 n = nI m := (S.2 _ _ (by unfold scK; omega)).trans ((wI_a (by decide)).trans wI_s)
  have hf5 : LF h h5 := ((hf.tr (LF.wI (a := 112) (by decide))).tr (LF.wI (a := 109) (by decide))).tr (LF.sf S (fun a i z => by unfold scK at z; omega))
  rcases hr : rfs (upF D n d) (n + 1) (fo o f) (om f) with _ | sx
  · rw [hr] at q5
    obtain rfl := q5
    refine e_istore_n aX9_comes_50 (Nat.le_of_ble_eq_true rfl) ?_
    refine e_aload_n aX9_comes_51 rfl ?_
    refine e_dup aX9_comes_52 rfl ?_
    refine e_getIF aX9_comes_53 fX9_66 rfl (fx_is F rfl) m5 ?_
    refine e_iload_n aX9_comes_56 rfl ?_
    refine e_if_eq aX9_comes_57 (fun c57 => ?_) (fun c57 => ?_)
    · -- 57: taken
      skip
      refine e_iconst (v := 0) aX9_comes_64 (by decide) ?_
      refine e_isub aX9_comes_65 ?_
      refine e_top (v := nI (n + 1)) (Int32.sub_zero _) ?_
      refine e_putI aX9_comes_66 fX9_66 rfl (fx_is F rfl) (Or.inl rfl) ?_
      refine e_iload_n aX9_comes_69 rfl ?_
      refine e_if_ne aX9_comes_70 (fun c70 => ?_) (fun c70 => ?_)
      · -- 70: taken
        exact absurd c70 (by decide)
      · -- 70: not taken
        skip
        refine e_iconst (v := 1) aX9_comes_73 (by decide) ?_
        refine e_goto aX9_comes_74 ?_
        refine e_zreturn aX9_comes_78 rfl (by decide) (Nat.le_of_ble_eq_true rfl) (Nat.le_of_ble_eq_true rfl) ?_
        refine ⟨hf5.tr (LF.wI (by decide)), F, ⟨x1, x2, lL5.wI (by decide) (by decide) (by decide)⟩, ly5.wI (by omega) (by decide), ?_⟩
        rw [hr]
        exact ⟨rfl, lt.lf (d := d) hn wI_s ((wI_a (by decide)).trans u5) (fun j hj => (wI_a (by decide)).trans (t5 j hj))⟩
    · -- 57: not taken
      exact absurd c57 (by decide)
  · rw [hr] at q5
    obtain ⟨rfl, q6, q7, q8, q9, q10⟩ := q5
    refine e_istore_n aX9_comes_50 (Nat.le_of_ble_eq_true rfl) ?_
    refine e_aload_n aX9_comes_51 rfl ?_
    refine e_dup aX9_comes_52 rfl ?_
    refine e_getIF aX9_comes_53 fX9_66 rfl (fx_is F rfl) m5 ?_
    refine e_iload_n aX9_comes_56 rfl ?_
    refine e_if_eq aX9_comes_57 (fun c57 => ?_) (fun c57 => ?_)
    · -- 57: taken
      exact absurd c57 (by decide)
    · -- 57: not taken
      skip
      refine e_iconst (v := 1) aX9_comes_60 (by decide) ?_
      refine e_goto aX9_comes_61 ?_
      refine e_isub aX9_comes_65 ?_
      refine e_top (v := nI n) (nI_pred n) ?_
      refine e_putI aX9_comes_66 fX9_66 rfl (fx_is F rfl) (Or.inl rfl) ?_
      refine e_iload_n aX9_comes_69 rfl ?_
      refine e_if_ne aX9_comes_70 (fun c70 => ?_) (fun c70 => ?_)
      · -- 70: taken
        skip
        refine e_iconst (v := 0) aX9_comes_77 (by decide) ?_
        refine e_zreturn aX9_comes_78 rfl (by decide) (Nat.le_of_ble_eq_true rfl) (Nat.le_of_ble_eq_true rfl) ?_
        refine ⟨hf5.tr (LF.wI (by decide)), F, ⟨x1, x2, lL5.wI (by decide) (by decide) (by decide)⟩, ly5.wI (by omega) (by decide), ?_⟩
        rw [hr]
        exact ⟨rfl, lt.lf0 (d := d) wI_s (fun j hj => (wI_a (by decide)).trans (t5 j hj)), q6, q7, (wI_i (by decide)).trans q8, (wI_i (by decide)).trans q9, (wI_i (by decide)).trans q10⟩
      · -- 70: not taken
        exact absurd c70 (by decide)
