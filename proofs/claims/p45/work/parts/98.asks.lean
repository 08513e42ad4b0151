/-! the law's asks, answered in numbers (written by wip/p45/g98.py) -/
/-- the law's Book holds c -/
def LBk (h : HP) (c : BQ) : Prop := ∃ m e1 e2 fa τ E, LL h m e1 e2 fa E ∧ LT h m c.2.1 τ E c.2.2.2.2 ∧ LY h c.1 c.2.2.1
theorem LBk.cf {h h2 : HP} {c : BQ} (q : LBk h c) (k : CF h h2) : LBk h2 c := by
  obtain ⟨m, e1, e2, fa, τ, E, ll, lt, ly⟩ := q
  exact ⟨m, e1, e2, fa, τ, E, ll.cf k, lt.cf k, ly.cf k⟩
/-- the first sheet tells σ -/
def SC (h : HP) (n : Nat) (σ : Nat → Nat) : Prop := ∀ i, i < n → hL h 102 i = lN (σ i)
theorem SC.cl {h h2 : HP} {n : Nat} {σ : Nat → Nat} (q : SC h n σ) (k : CL h h2) : SC h2 n σ := fun i hi => (k i).trans (q i hi)
/-- all between the law's calls: the class's book b, g images of c, the law's Book c, the sheets -/
def JJ (h : HP) (b : BQ) (g : Nat) (c : BQ) (tS : Nat → Int32) (qS σ : Nat → Nat) : Prop := CX h b g c tS qS ∧ LBk h c ∧ SC h c.2.1 σ
/-- findings only -/
def FN (h h2 : HP) : Prop := h2 = h ∨ h2 = fnd h 3
theorem FN.F {h h2 : HP} (k : FN h h2) (F : Fx h) : Fx h2 := by
  rcases k with rfl | rfl
  · exact F
  · exact F
theorem FN.k {h h2 : HP} (k : FN h h2) (F : Fx h) : Kc (fun a i => a = 76) (fun a _ => a = 0 ∧ False) (fun a => a = 0 ∧ False) h h2 := by
  rcases k with rfl | rfl
  · exact Kc.rf F
  · exact (Kc.rf F).wI (by decide) rfl
theorem JJ.fn {h h2 : HP} {b c : BQ} {g : Nat} {tS : Nat → Int32} {qS σ : Nat → Nat} (J : JJ h b g c tS qS σ) (k : FN h h2) : JJ h2 b g c tS qS σ := by
  have K := k.k J.1.1
  exact ⟨J.1.k K (fun a j _ z => Or.inr z) (fun a j _ z => z.2), J.2.1.cf (CF.k K (by intros; (try dsimp only); omega) (fun a j _ z => z.2)), J.2.2.cl (CL.k K (fun z => z.2))⟩
theorem OwB.fn {h h2 : HP} {b : BQ} (q : OwB h b) (k : FN h h2) (F : Fx h) : OwB h2 b := q.k (k.k F) (by intros; (try dsimp only); omega)
theorem JJ.st {h h2 : HP} {b b2 c : BQ} {g g2 : Nat} {tS : Nat → Int32} {qS σ : Nat → Nat} (J : JJ h b g c tS qS σ) (cx : CX h2 b2 g2 c tS qS) (cf : CF h h2) (cl9 : CL h h2) : JJ h2 b2 g2 c tS qS σ := ⟨cx, J.2.1.cf cf, J.2.2.cl cl9⟩
section ASK
variable {X : EX} {h : HP} {f n g : Nat} {o A : Nat → Nat} {D : Nat → DD} {c9 : BQ} {tS : Nat → Int32} {qS : Nat → Nat}
theorem cx_w (cx : CX h (f, n, o, A, D) g c9 tS qS) : ∀ k, k < n → dWf (D k) := fun k hk => (cx.2.1.2.1.2.2 k hk).2.2.2.1
theorem cx_o (cx : CX h (f, n, o, A, D) g c9 tS qS) : ∀ s p, ow D s p n < 3 := fun _ _ => ow_lt (cx_w cx)
theorem cx_p (cx : CX h (f, n, o, A, D) g c9 tS qS) : ∀ i, i < 3 → hI h 36 i = nI (W3 i) := cx.2.1.2.2
theorem cx_b (cx : CX h (f, n, o, A, D) g c9 tS qS) : fo o f + om f ≤ 1296 ∧ f ≤ 4 ∧ n ≤ 12 ∧ 0 < om f := ⟨om_fo cx.2.1.1.2.1 cx.2.1.1.2.2.2, cx.2.1.1.2.1, cx.2.1.2.1.2.1, om_pos cx.2.1.1.2.1⟩
theorem op_n {s a b : Nat} (h1 : a ≤ s) (h2 : s < b) (hb : b ≤ 1296) : nI a ≤ nI s ∧ nI s < nI b := ⟨nI_le h1 (by omega), nI_lt h2 (by omega)⟩
theorem a_hand (cx : CX h (f, n, o, A, D) g c9 tS qS) (ow9 : OwB h (f, n, o, A, D)) {v c : Nat} (h1 : fo o f ≤ v) (h2 : v < fo o f + om f) (hc : c < 3) : Ct X mX8_hand 3 0 0 [vR (some 32), vI (nI v), vI (nI c)] h (Rt (vI (hnR (hP D n v c) 12)) h) := by
  have hb := cx_b cx
  refine ct_post (zX8_hand X cx.1 cx.2.1.1 (nI v) (nI c)) (fun x h9 q => ?_)
  rw [if_pos (op_n h1 h2 hb.1), if_neg (show ¬ (nI c < 0 ∨ 3 ≤ nI c) from nI_nx (N := 3) hc (by decide)), cl (by omega), hnR_cg (Q := hP D n v c) (fun p hp => by
    have hw := cx_o cx v p
    have e : dgt (hI h 39 v) p = nI (ow D v p n) := ow9 v h1 h2 p hp
    unfold atB hP
    rw [e]
    exact decide_eq_decide.mpr (nI_eq (by omega) (by omega)))] at q
  exact q
theorem a_worth (cx : CX h (f, n, o, A, D) g c9 tS qS) (ow9 : OwB h (f, n, o, A, D)) {v c : Nat} (h1 : fo o f ≤ v) (h2 : v < fo o f + om f) (hc : c < 3) : Ct X mX8_worth 3 0 0 [vR (some 32), vI (nI v), vI (nI c)] h (Rt (vI (nI (wS D n v c 12))) h) := by
  have hb := cx_b cx
  refine ct_post (zX8_worth X cx.1 cx.2.1.1 (nI v) (nI c)) (fun x h9 q => ?_)
  rw [if_pos (op_n h1 h2 hb.1), if_neg (show ¬ (nI c < 0 ∨ 3 ≤ nI c) from nI_nx (N := 3) hc (by decide)), cl (by omega), wu_S (ow9 v h1 h2) (cx_o cx v) (cx_p cx) hc 12 (Nat.le_refl _)] at q
  exact q
theorem a_owner (cx : CX h (f, n, o, A, D) g c9 tS qS) (ow9 : OwB h (f, n, o, A, D)) {v p : Nat} (h1 : fo o f ≤ v) (h2 : v < fo o f + om f) (hp : p < 12) : Ct X mX8_owner 3 0 0 [vR (some 32), vI (nI v), vI (nI p)] h (Rt (vI (nI (ow D v p n))) h) := by
  have hb := cx_b cx
  refine ct_post (zX8_owner X cx.1 cx.2.1.1 (nI v) (nI p)) (fun x h9 q => ?_)
  rw [if_pos (op_n h1 h2 hb.1), if_neg (show ¬ (nI p < 0 ∨ 12 ≤ nI p) from nI_nx (N := 12) hp (by decide)), cl (by omega), cl (by omega), ow9 v h1 h2 p hp] at q
  exact q
theorem a_value (cx : CX h (f, n, o, A, D) g c9 tS qS) (ow9 : OwB h (f, n, o, A, D)) {c : Nat} (hc : c < 3) : Ct X mX8_value 3 0 0 [vR (some 32), vI (nI c)] h (Rt (vL (lN (vS D n c (fo o f) (om f)))) h) := by
  refine ct_post (zX8_value X cx.1 cx.2.1.1 (nI c)) (fun x h9 q => ?_)
  rw [if_neg (show ¬ (nI c < 0 ∨ 3 ≤ nI c) from nI_nx (N := 3) hc (by decide)), wo_S (cx_p cx) hc (cx_o cx) (om f) (fun s h1 h2 => ow9 s h1 h2)] at q
  exact q
/-- where nothing is known of owners, it is no less than nothing -/
theorem a_valueP (cx : CX h (f, n, o, A, D) g c9 tS qS) {c : Nat} (hc : c < 3) : Ct X mX8_value 3 0 0 [vR (some 32), vI (nI c)] h (fun v h2 => ∃ k, k < 1073741824 ∧ v = some (vL (lN k)) ∧ h2 = h) := by
  have hb := cx_b cx
  refine ct_post (zX8_value X cx.1 cx.2.1.1 (nI c)) (fun x h9 q => ?_)
  rw [if_neg (show ¬ (nI c < 0 ∨ 3 ≤ nI c) from nI_nx (N := 3) hc (by decide))] at q
  obtain ⟨k, k1, k2⟩ := wo_pos (h := h) (a := fo o f) (y := nI c) (cx_p cx) (om f) (by omega)
  rw [k2] at q
  exact ⟨k, by omega, q.1, q.2⟩
theorem a_chance (cx : CX h (f, n, o, A, D) g c9 tS qS) (ow9 : OwB h (f, n, o, A, D)) {p c : Nat} (hp : p < 12) (hc : c < 3) : Ct X mX8_chance 2 0 0 [vR (some 32), vI (nI p), vI (nI c)] h (Rt (vI (nI (cN D n p c (fo o f) (om f)))) h) := by
  refine ct_post (zX8_chance X cx.1 cx.2.1.1 (nI p) (nI c)) (fun x h9 q => ?_)
  rw [if_neg (show ¬ (nI p < 0 ∨ 12 ≤ nI p) from nI_nx (N := 12) hp (by decide)), if_neg (show ¬ (nI c < 0 ∨ 3 ≤ nI c) from nI_nx (N := 3) hc (by decide)), cl (by omega), cnW_cg (Q := fun s => decide (ow D s p n = c)) (fun s h1 h2 => by
    have hw := cx_o cx s p
    have e : dgt (hI h 39 s) p = nI (ow D s p n) := ow9 s h1 h2 p hp
    unfold atS
    rw [e]
    exact decide_eq_decide.mpr (nI_eq (by omega) (by omega)))] at q
  exact q
theorem ev_ow (cx : CX h (f, n, o, A, D) g c9 tS qS) (ow9 : OwB h (f, n, o, A, D)) {p : Nat} (hp : p < 12) : evR (fun s => dgt (hI h 39 s) p) (fo o f) (om f) = hB (oB D n p (fo o f) (om f) 0) (oB D n p (fo o f) (om f) 1) (oB D n p (fo o f) (om f) 2) := ev_oB (cx_o cx) (fun s h1 h2 => ow9 s h1 h2 p hp)
theorem a_owners (cx : CX h (f, n, o, A, D) g c9 tS qS) (ow9 : OwB h (f, n, o, A, D)) {p : Nat} (hp : p < 12) : Ct X mX8_owners 3 0 0 [vR (some 32), vI (nI p)] h (Rt (vI (hB (oB D n p (fo o f) (om f) 0) (oB D n p (fo o f) (om f) 1) (oB D n p (fo o f) (om f) 2))) h) := by
  refine ct_post (zX8_owners X cx.1 cx.2.1.1 (nI p)) (fun x h9 q => ?_)
  rw [if_neg (show ¬ (nI p < 0 ∨ 12 ≤ nI p) from nI_nx (N := 12) hp (by decide)), cl (by omega), ev_ow cx ow9 hp] at q
  exact q
/-- a number, or the finding NONE -/
def oN : Option Nat → Int32
  | some k => nI k
  | none => -1000004
theorem rO_Q {h h2 : HP} {q : Option Nat} {v : Option VV} (k : rO h q v h2) : v = some (vI (oN q)) ∧ FN h h2 := by
  cases q with
  | none => exact ⟨k.1.trans (congrArg some fn32), Or.inr k.2⟩
  | some p => exact ⟨k.1, Or.inl k.2⟩
theorem a_sure (cx : CX h (f, n, o, A, D) g c9 tS qS) (ow9 : OwB h (f, n, o, A, D)) {p : Nat} (hp : p < 12) : Ct X mX8_sure 3 0 0 [vR (some 32), vI (nI p)] h (fun v h2 => v = some (vI (oN (sU D n p (fo o f) (om f)))) ∧ FN h h2) := by
  refine ct_post (zX8_sure X cx.1 cx.2.1.1 (nI p)) (fun x h9 q => ?_)
  rw [if_neg (show ¬ (nI p < 0 ∨ 12 ≤ nI p) from nI_nx (N := 12) hp (by decide)), cl (by omega), ev_ow cx ow9 hp] at q
  exact rO_Q q
theorem a_least (cx : CX h (f, n, o, A, D) g c9 tS qS) (ow9 : OwB h (f, n, o, A, D)) {p c : Nat} (hp : p < 12) (hc : c < 3) : Ct X mX8_least 2 0 0 [vR (some 32), vI (nI p), vI (nI c)] h (fun v h2 => v = some (vI (oN (frW (fun s => decide (ow D s p n = c)) (fo o f) (om f)))) ∧ FN h h2) := by
  refine ct_post (zX8_least X cx.1 cx.2.1.1 (nI p) (nI c)) (fun x h9 q => ?_)
  rw [if_neg (show ¬ (nI p < 0 ∨ 12 ≤ nI p) from nI_nx (N := 12) hp (by decide)), if_neg (show ¬ (nI c < 0 ∨ 3 ≤ nI c) from nI_nx (N := 3) hc (by decide)), cl (by omega), frW_cg (Q := fun s => decide (ow D s p n = c)) (fun s h1 h2 => by
    have hw := cx_o cx s p
    have e : dgt (hI h 39 s) p = nI (ow D s p n) := ow9 s h1 h2 p hp
    unfold atS
    rw [e]
    exact decide_eq_decide.mpr (nI_eq (by omega) (by omega)))] at q
  exact rO_Q q
theorem a_best0 (cx : CX h (f, n, o, A, D) g c9 tS qS) (ow9 : OwB h (f, n, o, A, D)) {c : Nat} (hc : c < 3) : Ct X mX8_best 2 0 0 [vR (some 32), vI (nI c), vI 0] h (fun v h2 => ∃ r, v = some (vI (nI r)) ∧ h2 = h ∧ fo o f ≤ r ∧ r < fo o f + om f ∧ ∀ s, fo o f ≤ s → s < fo o f + om f → wS D n s c 12 ≤ wS D n r c 12) := by
  have hb := cx_b cx
  refine ct_post (zX8_best X cx.1 cx.2.1.1 (nI c) 0) (fun x h9 q => ?_)
  rw [if_neg (show ¬ (nI c < 0 ∨ 3 ≤ nI c) from nI_nx (N := 3) hc (by decide)), if_neg (by decide), wu_S (ow9 (fo o f) (Nat.le_refl _) (show fo o f < fo o f + om f by omega)) (cx_o cx _) (cx_p cx) hc 12 (Nat.le_refl _)] at q
  obtain ⟨r, r1, r2, r3, r4⟩ := bs_0 (h := h) (a := fo o f) hc (cx_o cx) (om f - 1) (fo o f + 1) (fo o f) (fun s h1 h2 => wu_S (ow9 s (show fo o f ≤ s by omega) (show s < fo o f + om f by omega)) (cx_o cx s) (cx_p cx) hc 12 (Nat.le_refl _)) (Nat.le_refl _) (Nat.lt_succ_self _) (fun s h1 h2 => by
    obtain rfl : s = fo o f := by omega
    exact Nat.le_refl _)
  rw [r1] at q
  exact ⟨r, q.1, q.2, r2, by omega, fun s h1 h2 => r4 s h1 (by omega)⟩
theorem a_best1 (cx : CX h (f, n, o, A, D) g c9 tS qS) (ow9 : OwB h (f, n, o, A, D)) {c : Nat} (hc : c < 3) : Ct X mX8_best 2 0 0 [vR (some 32), vI (nI c), vI 1] h (fun v h2 => ∃ r, v = some (vI (nI r)) ∧ h2 = h ∧ fo o f ≤ r ∧ r < fo o f + om f ∧ ∀ s, fo o f ≤ s → s < fo o f + om f → wS D n r c 12 ≤ wS D n s c 12) := by
  have hb := cx_b cx
  refine ct_post (zX8_best X cx.1 cx.2.1.1 (nI c) 1) (fun x h9 q => ?_)
  rw [if_neg (show ¬ (nI c < 0 ∨ 3 ≤ nI c) from nI_nx (N := 3) hc (by decide)), if_neg (by decide), wu_S (ow9 (fo o f) (Nat.le_refl _) (show fo o f < fo o f + om f by omega)) (cx_o cx _) (cx_p cx) hc 12 (Nat.le_refl _)] at q
  obtain ⟨r, r1, r2, r3, r4⟩ := bs_1 (h := h) (a := fo o f) hc (cx_o cx) (om f - 1) (fo o f + 1) (fo o f) (fun s h1 h2 => wu_S (ow9 s (show fo o f ≤ s by omega) (show s < fo o f + om f by omega)) (cx_o cx s) (cx_p cx) hc 12 (Nat.le_refl _)) (Nat.le_refl _) (Nat.lt_succ_self _) (fun s h1 h2 => by
    obtain rfl : s = fo o f := by omega
    exact Nat.le_refl _)
  rw [r1] at q
  exact ⟨r, q.1, q.2, r2, by omega, fun s h1 h2 => r4 s h1 (by omega)⟩
/-- what a club may hope for by each ORDER -/
def hV (D : Nat → DD) (n c f : Nat) (o : Nat → Nat) (i : Nat) : Nat := vS D n c (fo o f + i * stp f) (stp f)
theorem a_hope (cx : CX h (f, n, o, A, D) g c9 tS qS) (ow9 : OwB h (f, n, o, A, D)) {c : Nat} (hc : c < 3) (hf : f < 4) : Ct X mX8_hope 3 0 0 [vR (some 32), vI (nI c)] h (fun v h2 => ∃ r, v = some (vI (nI r)) ∧ h2 = h ∧ r < 6 ∧ ∀ i, i < 6 → hV D n c f o i ≤ hV D n c f o r ∧ (i < r → hV D n c f o i < hV D n c f o r)) := by
  have hb := cx_b cx
  have hs := om_st f hf
  refine ct_post (zX8_hope X cx.1 cx.2.1.1 (nI c)) (fun x h9 q => ?_)
  rw [if_neg (show ¬ (nI c < 0 ∨ 3 ≤ nI c) from nI_nx (N := 3) hc (by decide)), if_neg (by omega)] at q
  obtain ⟨r, r1, r2, r3⟩ := hp_ok (h := h) (y := nI c) (a := fo o f) (q := stp f) (V := hV D n c f o) 6 0 0 (-1) rfl (fun i hi => by
    have e : (i + 1) * stp f ≤ 6 * stp f := Nat.mul_le_mul_right _ (by omega)
    have e2 : (i + 1) * stp f = i * stp f + stp f := by rw [Nat.add_mul, Nat.one_mul]
    have hl := v_le (D := D) (n := n) (a := fo o f + i * stp f) (m := stp f) (cx_o cx) hc
    refine ⟨wo_S (cx_p cx) hc (cx_o cx) (stp f) (fun s h1 h2 => ow9 s (show fo o f ≤ s by omega) (show s < fo o f + om f by omega)), ?_⟩
    show vS D n c (fo o f + i * stp f) (stp f) < _
    omega) (Or.inl ⟨rfl, rfl⟩)
  rw [r1] at q
  exact ⟨r, q.1, q.2, r2, r3⟩
theorem hV_f {x : Nat} {c : Nat} : vS D n c (fo (upF o f x) (f + 1)) (stp f) = hV D n c f o x := by
  have e : fo (upF o f x) (f + 1) = fo o f + x * stp f := by
    show fo (upF o f x) f + upF o f x f * stp f = _
    rw [upF_s, fo_cg (o := o) (fun y hy => upF_o (by omega))]
  rw [e]
  rfl
theorem a_chainL (cx : CX h (f, n, o, A, D) g c9 tS qS) {v p : Nat} (h1 : fo o f ≤ v) (h2 : v < fo o f + om f) (hp : p < 12) : Ct X mX8_chain 3 0 0 [vR (some 32), vI (nI v), vI (nI p), vI (-1)] h (Rt (vI (nI (chL D v p n).length)) h) := by
  have hb := cx_b cx
  refine ct_post (zX8_chain X cx.1 cx.2.1.1 cx.2.1.2.1 (nI v) (nI p) (-1)) (fun x h9 q => ?_)
  rw [if_pos (op_n h1 h2 hb.1), if_neg (show ¬ (nI p < 0 ∨ 12 ≤ nI p) from nI_nx (N := 12) hp (by decide)), if_pos rfl, cl (by omega), cl (by omega)] at q
  have e := (chn_L (D := D) (s := v) (p := p) (x := -1 + 1) n 0 (by omega) hb.2.2.1).2 (fun j g1 g2 g3 => by
    have b := (chL_lt (D := D) (s := v) (p := p) n)
    have g1 : 1 ≤ j := g1
    have := (nI_eq (a := 0) (b := j) (by decide) (by omega)).mp g3
    omega)
  have e : chn D v p (-1 + 1) 0 n (p % 3) 1 = (ow D v p n, (chL D v p n).length) := e
  rw [e] at q
  exact q
theorem a_chainI (cx : CX h (f, n, o, A, D) g c9 tS qS) {v p i : Nat} (h1 : fo o f ≤ v) (h2 : v < fo o f + om f) (hp : p < 12) (hi : i < (chL D v p n).length) : Ct X mX8_chain 3 0 0 [vR (some 32), vI (nI v), vI (nI p), vI (nI i)] h (Rt (vI (nI ((chL D v p n).getD i 0))) h) := by
  have hb := cx_b cx
  have b := (chL_lt (D := D) (s := v) (p := p) n)
  refine ct_post (zX8_chain X cx.1 cx.2.1.1 cx.2.1.2.1 (nI v) (nI p) (nI i)) (fun x h9 q => ?_)
  rw [if_pos (op_n h1 h2 hb.1), if_neg (show ¬ (nI p < 0 ∨ 12 ≤ nI p) from nI_nx (N := 12) hp (by decide)), if_neg (show ¬ nI i = -1 from fun z => absurd (z ▸ nI_pos' (n := i) (by omega)) (by decide)), cl (by omega), cl (by omega)] at q
  have e := (chn_L (D := D) (s := v) (p := p) (x := nI i + 1) n 0 (by omega) hb.2.2.1).1 (i + 1) (show 1 ≤ i + 1 by omega) (by omega) (nI_1 i)
  have e : chn D v p (nI i + 1) 0 n (p % 3) 1 = ((chL D v p n).getD (i + 1 - 1) 0, i + 1) := e
  rw [e, if_pos (show nI (i + 1) = nI i + 1 from (nI_1 i).symm)] at q
  exact q
theorem a_conveys (cx : CX h (f, n, o, A, D) g c9 tS qS) {k v w : Nat} (hk : k < n) (hv : v < 1296) (hw : w < 2) : Ct X mX8_conveys 3 0 0 [vR (some 32), vI (nI k), vI (nI v), vI (nI w)] h (fun x h2 => x = some (vI (oN (cvW (D k) v w))) ∧ FN h h2) := by
  have hb := cx_b cx
  refine ct_post (zX8_conveys X cx.1 cx.2.1.2.1 (nI k) (nI v) (nI w)) (fun x h9 q => ?_)
  rw [if_neg (nI_nx hk (by omega)), if_neg (show ¬ (nI v < 0 ∨ 1296 ≤ nI v) from nI_nx (N := 1296) hv (by decide)), if_neg (show ¬ (nI w < 0 ∨ 2 ≤ nI w) from nI_nx (N := 2) hw (by decide)), cl (by omega), cl (by omega)] at q
  have e : (if nI w = 0 then gv (D k) v else gb (D k) v) = cvW (D k) v w := by
    unfold cvW
    by_cases z : w = 0
    · rw [if_pos z, z]; rfl
    · rw [if_neg z, if_neg (show ¬ nI w = 0 from fun y => z ((nI_eq (b := 0) (by omega) (by decide)).mp y))]
  rw [e] at q
  exact rO_Q q
theorem a_of (cx : CX h (f, n, o, A, D) g c9 tS qS) {k i : Nat} (hk : k < n) (hi : i < 8) : Ct X mX8_of 3 0 0 [vR (some 32), vI (nI k), vI (nI i)] h (Rt (vI (ofV (D k) (fo o f) (om f) i)) h) := by
  have hb := cx_b cx
  refine ct_post (zX8_of X cx.1 cx.2.1.1 cx.2.1.2.1 (nI k) (nI i)) (fun x h9 q => ?_)
  rw [if_neg (nI_nx hk (by omega)), if_neg (nI_nx hi (by decide)), cl (by omega), cl (by omega)] at q
  exact q
theorem a_count (cx : CX h (f, n, o, A, D) g c9 tS qS) {i : Nat} (hi : i < 3) : Ct X mX8_count 1 0 0 [vR (some 32), vI (nI i)] h (Rt (vI (if i = 0 then nI n else if i = 1 then nI f else nI (om f))) h) := by
  refine ct_post (zX8_count X cx.1 cx.2.1.1 cx.2.1.2.1 (nI i)) (fun x h9 q => ?_)
  rw [if_neg (nI_nx (N := 7) (by omega) (by decide)), cl (by omega)] at q
  rcases (show i = 0 ∨ i = 1 ∨ i = 2 by omega) with rfl | rfl | rfl <;> exact q
theorem a_fallen (cx : CX h (f, n, o, A, D) g c9 tS qS) {y : Nat} (hy : y < 4) : Ct X mX8_fallen 1 0 0 [vR (some 32), vI (nI y)] h (fun x h2 => x = some (vI (if y < f then nI (o y) else -1000004)) ∧ FN h h2) := by
  refine ct_post (zX8_fallen X cx.1 cx.2.1.1 (nI y)) (fun x h9 q => ?_)
  rw [if_neg (show ¬ (nI y < 0 ∨ 4 ≤ nI y) from nI_nx (N := 4) hy (by decide)), cl (by omega)] at q
  by_cases z : y < f
  · rw [if_pos z] at q ⊢
    exact ⟨q.1, Or.inl q.2⟩
  · rw [if_neg z] at q ⊢
    exact ⟨q.1.trans (congrArg some fn32), Or.inr q.2⟩
end ASK
