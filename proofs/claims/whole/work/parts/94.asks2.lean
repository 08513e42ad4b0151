/-! calls: counts, rounds, small changes (written by wip/whole/g94.py) -/
theorem sum_e {h h1 : HP} (e : ∀ k, k < 8 → hI h 76 k = hI h1 110 k) : ∀ m, m ≤ 8 → fsum h m = fsm h1 (-1) m := by
  intro m
  induction m with
  | zero => intro _; rfl
  | succ m ih =>
    intro hm
    show fsum h m + hI h 76 m = fsm h1 (-1) m + (if (-1 : Int32) < 0 ∨ (-1 : Int32) = nI m then hI h1 110 m else 0)
    rw [ih (by omega), e m (by omega), if_pos (Or.inl (by decide))]
theorem sum_1 {h1 : HP} {j : Nat} (hj : j < 8) : ∀ m, m ≤ 8 → fsm h1 (nI j) m = if j < m then hI h1 110 j else 0 := by
  intro m
  induction m with
  | zero => intro _; rfl
  | succ m ih =>
    intro hm
    show fsm h1 (nI j) m + (if nI j < 0 ∨ nI j = nI m then hI h1 110 m else 0) = _
    rw [ih (by omega)]
    by_cases z : j = m
    · rw [z, if_neg (Nat.lt_irrefl m), if_pos (Or.inr rfl), if_pos (Nat.lt_succ_self m), Int32.zero_add]
    · have hz : ¬ (nI j < 0 ∨ nI j = nI m) := fun q => q.elim (nI_pos (by omega)) (fun q => z ((nI_eq (by omega) (by omega)).mp q))
      rw [if_neg hz, Int32.add_zero]
      by_cases y : j < m
      · rw [if_pos y, if_pos (by omega)]
      · rw [if_neg y, if_neg (by omega)]
theorem sp_v {h h1 : HP} {P : PP} (ic : IC P h) (im : IM P h1) {i : Nat} (hi : i < 4) : hI h1 128 i = if (hR h 74 i).isSome = true then 1 else 0 := by
  have a := im.sp i hi
  rw [(ic.sp i hi).1]
  unfold SpM at a
  rcases e : P.S i with _ | x
  · rw [e] at a
    exact a
  · rw [e] at a
    exact a.1
theorem hld_e {h h1 : HP} {P : PP} (ic : IC P h) (im : IM P h1) : nI (hld h) = hI h1 128 0 + hI h1 128 1 + hI h1 128 2 + hI h1 128 3 := by
  rw [sp_v ic im (i := 0) (by decide), sp_v ic im (i := 1) (by decide), sp_v ic im (i := 2) (by decide), sp_v ic im (i := 3) (by decide)]
  show nI (0 + (if (hR h 74 (0 + 0)).isSome = true then 1 else 0) + (if (hR h 74 (0 + 1)).isSome = true then 1 else 0) + (if (hR h 74 (0 + 2)).isSome = true then 1 else 0) + (if (hR h 74 (0 + 3)).isSome = true then 1 else 0)) = _
  simp only [Nat.zero_add]
  cases (hR h 74 0).isSome <;> cases (hR h 74 1).isSome <;> cases (hR h 74 2).isSome <;> cases (hR h 74 3).isSome <;> decide
theorem cnt_e {h h1 : HP} {P : PP} (ic : IC P h) (im : IM P h1) : ∀ k, k < 7 → cntV h P.b.f P.b.n k = cntM h1 P.b.f P.b.n k := by
  intro k hk
  rcases (show k = 0 ∨ k = 1 ∨ k = 2 ∨ k = 3 ∨ k = 4 ∨ k = 5 ∨ k = 6 by omega) with rfl | rfl | rfl | rfl | rfl | rfl | rfl
  · rfl
  · rfl
  · rfl
  · exact ic.pg.trans im.pg.symm
  · exact ic.cb.2.2.2.trans im.mb.2.2.2.1.symm
  · exact ic.tp.1.trans im.tb.1.symm
  · exact hld_e ic im
theorem op_count (X : EX) {c : Nat} {h : HP} (I : Inv c h) (x : Int32) : Ct X mX8_count 1 0 0 ([vR (some 32), vI x]) h (RES X c mX9_count 1 [vI x]) := by
  obtain ⟨P, ic, im, pu⟩ := I
  have bf : BkF h P.b.f P.b.o := ic.cb.1
  have b : BkD h P.b.n P.b.A P.b.D := ic.cb.2.1
  refine ct_post (zX8_count X ic.F bf b x) (fun v h1 q => ?_)
  skip
  by_cases z1 : x < 0 ∨ nI 7 ≤ x
  · rw [if_pos z1] at q
    exact res_f ic im pu (k := 0) (by decide) q (fun F1 im1 => zX9_count X F1 im1.mb.1 im1.mb.2.1 x) (fun v2 h2 q2 => by
        rw [if_pos z1] at q2
        exact fq_M q2)
  · rw [if_neg z1] at q
    obtain rfl := q.2
    exact res_v ic im pu q (fun F1 im1 => zX9_count X F1 im1.mb.1 im1.mb.2.1 x) (fun v2 h2 q2 => by
        rw [if_neg z1] at q2
        exact vq_t q2 (congrArg vI (cnt_e ic im _ (cl_lt (N := 7) (by decide) z1)).symm))
theorem st_out {x : Int32} (h1 : ¬ x = -1) (h2 : x < 0 ∨ 8 ≤ x) : x < -1 ∨ 7 < x := by
  rcases h2 with h | h
  · left
    rw [Int32.lt_iff_toInt_lt] at h ⊢
    have e0 : (0 : Int32).toInt = 0 := rfl
    have e1 : (-1 : Int32).toInt = -1 := rfl
    have : x.toInt ≠ -1 := fun e => h1 (Int32.toInt_inj.mp (e.trans e1.symm))
    omega
  · right
    rw [Int32.le_iff_toInt_le] at h
    rw [Int32.lt_iff_toInt_lt]
    have e0 : (8 : Int32).toInt = 8 := rfl
    have e1 : (7 : Int32).toInt = 7 := rfl
    omega
theorem op_status (X : EX) {c : Nat} {h : HP} (I : Inv c h) (x : Int32) : Ct X mX8_status 1 0 0 ([vR (some 32), vI x]) h (RES X c mX9_status 1 [vI x]) := by
  obtain ⟨P, ic, im, pu⟩ := I
  have bf : BkF h P.b.f P.b.o := ic.cb.1
  have b : BkD h P.b.n P.b.A P.b.D := ic.cb.2.1
  refine ct_post (zX8_status X ic.F x) (fun v h1 q => ?_)
  skip
  by_cases z1 : x = -1
  · rw [if_pos z1] at q
    obtain rfl := q.2
    exact res_v ic im pu q (fun F1 im1 => zX9_status X F1 x) (fun v2 h2 q2 => by
      rw [if_neg (fun y => by rw [z1] at y; exact absurd y (by decide)), z1] at q2
      exact vq_t q2 (congrArg vI (sum_e (fun k hk => (ic.fn k hk).trans (im.fn k hk).symm) 8 (Nat.le_refl _)).symm))
  · rw [if_neg z1] at q
    by_cases z2 : x < 0 ∨ 8 ≤ x
    · rw [if_pos z2] at q
      exact res_f ic im pu (k := 0) (by decide) q (fun F1 im1 => zX9_status X F1 x) (fun v2 h2 q2 => by
        rw [if_pos (st_out z1 z2)] at q2
        exact fq_M q2)
    · rw [if_neg z2] at q
      obtain rfl := q.2
      obtain ⟨j, hj, rfl⟩ := ou_of 8 (by decide) z2
      refine res_v ic im pu q (fun F1 im1 => zX9_status X F1 (nI j)) (fun v2 h2 q2 => ?_)
      rw [if_neg (fun y => by rcases (show j = 0 ∨ j = 1 ∨ j = 2 ∨ j = 3 ∨ j = 4 ∨ j = 5 ∨ j = 6 ∨ j = 7 by omega) with rfl | rfl | rfl | rfl | rfl | rfl | rfl | rfl <;> exact absurd y (by decide))] at q2
      exact vq_t q2 (congrArg vI ((sum_1 hj 8 (Nat.le_refl _)).trans ((if_pos hj).trans (((ic.fn j hj).trans (im.fn j hj).symm).symm.trans (by rw [cl (by omega)])))))
theorem op_taken (X : EX) {c : Nat} {h : HP} (I : Inv c h) (hc9 : c ≤ 1000) (x y : Int32) : Ct X mX8_taken 1 0 0 ([vR (some 32), vI x, vI y]) h (RES X c mX9_taken 2 [vI x, vI y]) := by
  obtain ⟨P, ic, im, pu⟩ := I
  have bf : BkF h P.b.f P.b.o := ic.cb.1
  have b : BkD h P.b.n P.b.A P.b.D := ic.cb.2.1
  refine ct_post (zX8_taken X ic.F b ic.sp x y) (fun v h1 q => ?_)
  skip
  by_cases z1 : x < 0 ∨ 4 ≤ x
  · rw [if_pos z1] at q
    exact res_f ic im pu (k := 0) (by decide) q (fun F1 im1 => zX9_taken X F1 im1.mb.2.1 x y) (fun v2 h2 q2 => by
      rw [if_pos z1] at q2
      exact fq_M q2)
  · rw [if_neg z1] at q
    by_cases z2 : y < 0 ∨ 6 ≤ y
    · rw [if_pos z2] at q
      exact res_f ic im pu (k := 0) (by decide) q (fun F1 im1 => zX9_taken X F1 im1.mb.2.1 x y) (fun v2 h2 q2 => by
        rw [if_neg z1, if_pos z2] at q2
        exact fq_M q2)
    · rw [if_neg z2] at q
      have hx4 : x.toNatClampNeg < 4 := cl_lt (N := 4) (by decide) z1
      obtain ⟨yz, hy6, rfl⟩ := ou_of 6 (by decide) z2
      rw [cl (n := yz) (by omega)] at q
      have sp := im.sp _ hx4
      unfold SpM at sp
      rcases eS : P.S x.toNatClampNeg with _ | a
      · rw [eS] at q sp
        exact res_f ic im pu (k := 5) (by decide) q (fun F1 im1 => zX9_taken X F1 im1.mb.2.1 x (nI yz)) (fun v2 h2 q2 => by
          rw [if_neg z1, if_neg z2, if_pos (show hI h1 128 x.toNatClampNeg = 0 by obtain ⟨-, rfl⟩ := q; exact sp)] at q2
          exact fq_M q2)
      · rw [eS] at q sp
        have hk6 : dK (P.E x.toNatClampNeg) < 6 := ((ic.sp _ hx4).2 a eS).2.2.1.1
        have hc : unR yz 6 (some (dK (P.E x.toNatClampNeg))) = true ↔ (nI yz = 0 ∨ hI h 130 x.toNatClampNeg = nI yz ∨ (nI yz = 1 ∧ (hI h 130 x.toNatClampNeg = 3 ∨ hI h 130 x.toNatClampNeg = 4)) ∨ nI yz = 2 ∧ hI h 130 x.toNatClampNeg = 5) := by
          rw [un_e yz hy6 _ hk6, decide_eq_true_iff, sp.2.1]
          have e : ∀ a b, a < 6 → b < 6 → (nI a = nI b ↔ a = b) := fun a b h1 h2 => nI_eq (by omega) (by omega)
          exact or_congr (e yz 0 hy6 (by decide)).symm (or_congr (e _ yz hk6 hy6).symm (or_congr (and_congr (e yz 1 hy6 (by decide)).symm (or_congr (e _ 3 hk6 (by decide)).symm (e _ 4 hk6 (by decide)).symm)) (and_congr (e yz 2 hy6 (by decide)).symm (e _ 5 hk6 (by decide)).symm)))
        have n0 : ¬ hI h 128 x.toNatClampNeg = 0 := by rw [sp.1]; decide
        by_cases y1 : unR yz 6 (some (dK (P.E x.toNatClampNeg))) = true
        · have q : (if unR yz 6 (some (dK (P.E x.toNatClampNeg))) = true then Rt (vI (oI (frW (fun j => decide (P.b.A j = a)) 0 P.b.n))) h else RF h 2) v h1 := q
          rw [if_pos y1] at q
          obtain rfl := q.2
          refine res_v ic im pu q (fun F1 im1 => zX9_taken X F1 im1.mb.2.1 x (nI yz)) (fun v2 h2 q2 => ?_)
          rw [if_neg z1, if_neg z2, if_neg n0, if_pos (hc.mp y1)] at q2
          have eP : ∀ j, j < P.b.n → decide (hI h1 112 (8 * j + 7) = hI h1 129 x.toNatClampNeg) = decide (P.b.A j = a) := fun j hj => by
            have a1 := pu.jb j hj
            have a2 := pu.js _ hx4 a eS
            have b1 := pu.lt _ _ a1
            have b2 := pu.lt _ _ a2
            have hB := pu.bc
            rw [show hI h1 112 (8 * j + 7) = nI (P.b.J j) from im.mb.2.2.2.2 j hj, sp.2.2]
            refine decide_eq_decide.mpr ((nI_eq (by omega) (by omega)).trans ⟨fun e => ?_, fun e => ?_⟩)
            · rw [e] at a1
              exact pu.inj _ _ _ a1 a2
            · rw [e, a2] at a1
              injection a1 with a1
              exact a1.symm
          have e1 : frW (fun j => decide (P.b.A j = a)) 0 P.b.n = frW (fun j => decide (hI h1 112 (8 * j + 7) = hI h1 129 x.toNatClampNeg)) 0 P.b.n := frW_cg (fun j _ hj => (eP j (by omega)).symm)
          have hn12 := b.2.1
          refine vq_t q2 (congrArg vI ?_)
          rw [e1]
          refine (lt_e (by omega) (fun j k hj hk p1 p2 => ?_)).symm
          rw [eP j hj] at p1
          rw [eP k hk] at p2
          have a1 := pu.jb j hj
          have a2 := pu.jb k hk
          have pe := (of_decide_eq_true p1).trans (of_decide_eq_true p2).symm
          rcases Nat.lt_trichotomy j k with w | w | w
          · exact absurd pe (pu.aj j k w hk)
          · exact w
          · exact absurd pe.symm (pu.aj k j w hj)
        · have q : (if unR yz 6 (some (dK (P.E x.toNatClampNeg))) = true then Rt (vI (oI (frW (fun j => decide (P.b.A j = a)) 0 P.b.n))) h else RF h 2) v h1 := q
          rw [if_neg y1] at q
          exact res_f ic im pu (k := 2) (by decide) q (fun F1 im1 => zX9_taken X F1 im1.mb.2.1 x (nI yz)) (fun v2 h2 q2 => by
            obtain ⟨-, rfl⟩ := q
            rw [if_neg z1, if_neg z2, if_neg (show ¬ hI (fnd h 2) 128 x.toNatClampNeg = 0 from n0), if_neg (show ¬ (nI yz = 0 ∨ hI (fnd h 2) 130 x.toNatClampNeg = nI yz ∨ (nI yz = 1 ∧ (hI (fnd h 2) 130 x.toNatClampNeg = 3 ∨ hI (fnd h 2) 130 x.toNatClampNeg = 4)) ∨ nI yz = 2 ∧ hI (fnd h 2) 130 x.toNatClampNeg = 5) from fun y => y1 (hc.mpr y))] at q2
            exact fq_M q2)
theorem crd_z : ∀ n, crd n 0 = 0 := by
  intro n
  induction n with
  | zero => rfl
  | succ n ih =>
    show crd n 0 + (if (0 : Nat).testBit (0 + n) = true then 1 else 0) = 0
    rw [ih, Nat.zero_testBit]
    rfl
theorem op_rounds (X : EX) {c : Nat} {h : HP} (I : Inv c h) (x y : Int32) : Ct X mX8_rounds 6 2 16 ([vR (some 32), vI x, vI y]) h (RES X c mX9_rounds 7 [vI x, vI y]) := by
  obtain ⟨P, ic, im, pu⟩ := I
  have bf : BkF h P.b.f P.b.o := ic.cb.1
  have b : BkD h P.b.n P.b.A P.b.D := ic.cb.2.1
  refine ct_post (zX8_rounds X ic.F bf b ic.sh x y) (fun v h1 q => ?_)
  skip
  by_cases z1 : x < 0 ∨ 4 ≤ x
  · rw [if_pos z1] at q
    exact res_f ic im pu (k := 0) (by decide) q (fun F1 im1 => zX9_rounds X F1 im1.mb.1 im1.mb.2.1 im1.sh x y) (fun v2 h2 q2 => by
        rw [if_pos z1] at q2
        exact fq_M q2)
  · rw [if_neg z1] at q
    by_cases z2 : nI (fo P.b.o P.b.f) ≤ y ∧ y < nI (fo P.b.o P.b.f + om P.b.f)
    · rw [if_pos z2] at q
      by_cases z3 : P.tS x.toNatClampNeg = -1
      · rw [if_pos z3] at q
        exact res_f ic im pu (k := 5) (by decide) q (fun F1 im1 => zX9_rounds X F1 im1.mb.1 im1.mb.2.1 im1.sh x y) (fun v2 h2 q2 => by
            rw [if_neg z1, if_pos z2, if_pos z3] at q2
            exact fq_M q2)
      · rw [if_neg z3] at q
        by_cases z4 : P.qS x.toNatClampNeg = P.b.n
        · rw [if_pos z4] at q
          have hx4 : x.toNatClampNeg < 4 := cl_lt (N := 4) (by decide) z1
          have hn12 := b.2.1
          have eL : ∀ j, 0 ≤ j → j < 0 + P.qS x.toNatClampNeg → hL h (102 + 2 * x.toNatClampNeg) j = (fun i => hL h 124 (40 * x.toNatClampNeg + i)) j := fun j _ hj => (ic.sl _ hx4 j (by omega)).trans (im.sl _ hx4 j (by omega)).symm
          have et : tedR h (102 + 2 * x.toNatClampNeg) P.b.n 0 (P.qS x.toNatClampNeg) 0 = arR (fun i => hL h 124 (40 * x.toNatClampNeg + i)) P.b.n 0 (P.qS x.toNatClampNeg) 0 := ted_ar (s := 0) hn12 eL (Nat.two_pow_pos _) (by rw [z4]; have : crd P.b.n 0 = 0 := crd_z _; omega)
          rw [et] at q
          by_cases z5 : arR (fun i => hL h 124 (40 * x.toNatClampNeg + i)) P.b.n 0 (P.qS x.toNatClampNeg) 0 = true
          · rw [if_pos z5] at q
            obtain ⟨rfl, g⟩ := q
            have K : Kc (fun a _ => a = 40) (fun a _ => a = 43) (fun a => a = 45) h h1 := Kc.gb ic.F g
            have ic1 : IC P h1 := ic.k pu.g6 K (by intros; (try dsimp only); omega) (by intros; (try dsimp only); omega)
            have im1 : IM P h1 := im.kc K (by intros; (try dsimp only); omega) (by decide)
            have hk := arR_k hn12 z5
            have e24 : ∀ i, hL h1 124 i = hL h 124 i := fun i => K.l 124 (by decide) (by decide) i
            refine res_c (P2 := P) rfl K.F im1 (fun F1 im1 => zX9_rounds X F1 im1.mb.1 im1.mb.2.1 im1.sh x y) (fun v2 h2 q2 => ?_)
            have ef : (fun i => hL h1 124 (40 * x.toNatClampNeg + i)) = fun i => hL h 124 (40 * x.toNatClampNeg + i) := funext fun i => e24 _
            rw [if_neg z1, if_pos z2, if_neg z3, if_pos z4, ef, if_pos z5] at q2
            obtain ⟨a, s⟩ := q2
            refine ⟨a.trans (congrArg (fun j => some (vI (nI j))) ?_), ic1.sf pu.g6 s (fun a i z => by unfold scH sc0 at z; omega), im1.sf s (fun a i z => by unfold scH sc0 at z; unfold scr; omega), pu.s⟩
            rw [show P.qS x.toNatClampNeg = P.b.n from z4]
            refine (cr_e (fun j hj => ⟨?_, ?_⟩) rr_0).symm
            · show (hL h (102 + 2 * x.toNatClampNeg) j).toInt32.toNatClampNeg = (hL h1 124 (40 * x.toNatClampNeg + j)).toInt32.toNatClampNeg
              rw [e24, eL j (Nat.zero_le _) (by omega)]
            · show (hL h1 124 (40 * x.toNatClampNeg + j)).toInt32.toNatClampNeg < 12
              rw [e24]
              have := (hk j (Nat.zero_le _) (by omega)).1
              exact Nat.lt_of_lt_of_le this hn12
          · rw [if_neg z5] at q
            exact res_f ic im pu (k := 4) (by decide) q (fun F1 im1 => zX9_rounds X F1 im1.mb.1 im1.mb.2.1 im1.sh x y) (fun v2 h2 q2 => by
              obtain ⟨-, rfl⟩ := q
              rw [if_neg z1, if_pos z2, if_neg z3, if_pos z4, if_neg (show ¬ arR (fun i => hL (fnd h 4) 124 (40 * x.toNatClampNeg + i)) P.b.n 0 (P.qS x.toNatClampNeg) 0 = true from z5)] at q2
              exact fq_M q2)
        · rw [if_neg z4] at q
          exact res_f ic im pu (k := 6) (by decide) q (fun F1 im1 => zX9_rounds X F1 im1.mb.1 im1.mb.2.1 im1.sh x y) (fun v2 h2 q2 => by
              rw [if_neg z1, if_pos z2, if_neg z3, if_neg z4] at q2
              exact fq_M q2)
    · rw [if_neg z2] at q
      exact res_f ic im pu (k := 0) (by decide) q (fun F1 im1 => zX9_rounds X F1 im1.mb.1 im1.mb.2.1 im1.sh x y) (fun v2 h2 q2 => by
          rw [if_neg z1, if_neg z2] at q2
          exact fq_M q2)
