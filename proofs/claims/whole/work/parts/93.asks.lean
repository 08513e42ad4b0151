/-! calls that ask (written by wip/whole/g93.py) -/
theorem cl_lt {x : Int32} {N : Nat} (hN : N < 1073741824) (z : ¬ (x < 0 ∨ nI N ≤ x)) : x.toNatClampNeg < N := by
  obtain ⟨j, hj, rfl⟩ := ou_of N (by omega) z
  rw [cl (by omega)]
  exact hj
theorem op_in {x : Int32} {P : PP} {h : HP} (ic : IC P h) (z : nI (fo P.b.o P.b.f) ≤ x ∧ x < nI (fo P.b.o P.b.f + om P.b.f)) : fo P.b.o P.b.f ≤ x.toNatClampNeg ∧ x.toNatClampNeg < fo P.b.o P.b.f + om P.b.f := by
  have hb6 := om_fo ic.cb.1.2.1 ic.cb.1.2.2.2
  obtain ⟨s, h1, h2, rfl⟩ := opn_of (Nat.le_add_right _ _) hb6 z
  rw [cl (by omega)]
  exact ⟨h1, h2⟩
theorem wz {P : PP} {h : HP} (ic : IC P h) (im : IM P h) : ∀ i, i < 3 → hI h 36 i = hI h 117 i := fun i hi => (ic.cb.2.2.1 i hi).trans (im.mb.2.2.1 i hi).symm
theorem op_order (X : EX) {c : Nat} {h : HP} (I : Inv c h) (x y : Int32) : Ct X mX8_order 1 0 0 ([vR (some 32), vI x, vI y]) h (RES X c mX9_order 1 [vI x, vI y]) := by
  obtain ⟨P, ic, im, pu⟩ := I
  have bf : BkF h P.b.f P.b.o := ic.cb.1
  have b : BkD h P.b.n P.b.A P.b.D := ic.cb.2.1
  refine ct_post (zX8_order X ic.F x y) (fun v h1 q => ?_)
  skip
  by_cases z1 : x < 0 ∨ 6 ≤ x
  · rw [if_pos z1] at q
    exact res_f ic im pu (k := 0) (by decide) q (fun F1 im1 => zX9_order X F1 x y) (fun v2 h2 q2 => by
        rw [if_pos z1] at q2
        exact fq_M q2)
  · rw [if_neg z1] at q
    by_cases z2 : y < 0 ∨ 3 ≤ y
    · rw [if_pos z2] at q
      exact res_f ic im pu (k := 0) (by decide) q (fun F1 im1 => zX9_order X F1 x y) (fun v2 h2 q2 => by
          rw [if_neg z1, if_pos z2] at q2
          exact fq_M q2)
    · rw [if_neg z2] at q
      obtain rfl := q.2
      exact res_v ic im pu q (fun F1 im1 => zX9_order X F1 x y) (fun v2 h2 q2 => by
          rw [if_neg z1, if_neg z2] at q2
          exact vq_t q2 rfl)
theorem op_place (X : EX) {c : Nat} {h : HP} (I : Inv c h) (x y : Int32) : Ct X mX8_place 1 0 0 ([vR (some 32), vI x, vI y]) h (RES X c mX9_place 3 [vI x, vI y]) := by
  obtain ⟨P, ic, im, pu⟩ := I
  have bf : BkF h P.b.f P.b.o := ic.cb.1
  have b : BkD h P.b.n P.b.A P.b.D := ic.cb.2.1
  refine ct_post (zX8_place X ic.F x y) (fun v h1 q => ?_)
  skip
  by_cases z1 : x < 0 ∨ 1296 ≤ x
  · rw [if_pos z1] at q
    exact res_f ic im pu (k := 0) (by decide) q (fun F1 im1 => zX9_place X F1 x y) (fun v2 h2 q2 => by
        rw [if_pos z1] at q2
        exact fq_M q2)
  · rw [if_neg z1] at q
    by_cases z2 : y < 0 ∨ 12 ≤ y
    · rw [if_pos z2] at q
      exact res_f ic im pu (k := 0) (by decide) q (fun F1 im1 => zX9_place X F1 x y) (fun v2 h2 q2 => by
          rw [if_neg z1, if_pos z2] at q2
          exact fq_M q2)
    · rw [if_neg z2] at q
      obtain rfl := q.2
      exact res_v ic im pu q (fun F1 im1 => zX9_place X F1 x y) (fun v2 h2 q2 => by
          rw [if_neg z1, if_neg z2] at q2
          exact vq_t q2 rfl)
theorem op_fallen (X : EX) {c : Nat} {h : HP} (I : Inv c h) (x : Int32) : Ct X mX8_fallen 1 0 0 ([vR (some 32), vI x]) h (RES X c mX9_fallen 1 [vI x]) := by
  obtain ⟨P, ic, im, pu⟩ := I
  have bf : BkF h P.b.f P.b.o := ic.cb.1
  have b : BkD h P.b.n P.b.A P.b.D := ic.cb.2.1
  refine ct_post (zX8_fallen X ic.F bf x) (fun v h1 q => ?_)
  skip
  by_cases z1 : x < 0 ∨ 4 ≤ x
  · rw [if_pos z1] at q
    exact res_f ic im pu (k := 0) (by decide) q (fun F1 im1 => zX9_fallen X F1 im1.mb.1 x) (fun v2 h2 q2 => by
        rw [if_pos z1] at q2
        exact fq_M q2)
  · rw [if_neg z1] at q
    by_cases z2 : x.toNatClampNeg < P.b.f
    · rw [if_pos z2] at q
      obtain rfl := q.2
      exact res_v ic im pu q (fun F1 im1 => zX9_fallen X F1 im1.mb.1 x) (fun v2 h2 q2 => by
          rw [if_neg z1, if_pos z2] at q2
          exact vq_t q2 rfl)
    · rw [if_neg z2] at q
      exact res_f ic im pu (k := 3) (by decide) q (fun F1 im1 => zX9_fallen X F1 im1.mb.1 x) (fun v2 h2 q2 => by
          rw [if_neg z1, if_neg z2] at q2
          exact fq_M q2)
theorem op_of (X : EX) {c : Nat} {h : HP} (I : Inv c h) (x y : Int32) : Ct X mX8_of 3 0 0 ([vR (some 32), vI x, vI y]) h (RES X c mX9_of 8 [vI x, vI y]) := by
  obtain ⟨P, ic, im, pu⟩ := I
  have bf : BkF h P.b.f P.b.o := ic.cb.1
  have b : BkD h P.b.n P.b.A P.b.D := ic.cb.2.1
  refine ct_post (zX8_of X ic.F bf b x y) (fun v h1 q => ?_)
  skip
  by_cases z1 : x < 0 ∨ nI P.b.n ≤ x
  · rw [if_pos z1] at q
    exact res_f ic im pu (k := 0) (by decide) q (fun F1 im1 => zX9_of X F1 im1.mb.1 im1.mb.2.1 x y) (fun v2 h2 q2 => by
        rw [if_pos z1] at q2
        exact fq_M q2)
  · rw [if_neg z1] at q
    by_cases z2 : y < 0 ∨ nI 8 ≤ y
    · rw [if_pos z2] at q
      exact res_f ic im pu (k := 0) (by decide) q (fun F1 im1 => zX9_of X F1 im1.mb.1 im1.mb.2.1 x y) (fun v2 h2 q2 => by
          rw [if_neg z1, if_pos z2] at q2
          exact fq_M q2)
    · rw [if_neg z2] at q
      obtain rfl := q.2
      exact res_v ic im pu q (fun F1 im1 => zX9_of X F1 im1.mb.1 im1.mb.2.1 x y) (fun v2 h2 q2 => by
          rw [if_neg z1, if_neg z2] at q2
          exact vq_t q2 rfl)
theorem op_holds (X : EX) {c : Nat} {h : HP} (I : Inv c h) (x y : Int32) : Ct X mX8_holds 2 0 0 ([vR (some 32), vI x, vI y]) h (RES X c mX9_holds 2 [vI x, vI y]) := by
  obtain ⟨P, ic, im, pu⟩ := I
  have bf : BkF h P.b.f P.b.o := ic.cb.1
  have b : BkD h P.b.n P.b.A P.b.D := ic.cb.2.1
  refine ct_post (zX8_holds X ic.F b x y) (fun v h1 q => ?_)
  skip
  by_cases z1 : x < 0 ∨ nI P.b.n ≤ x
  · rw [if_pos z1] at q
    exact res_f ic im pu (k := 0) (by decide) q (fun F1 im1 => zX9_holds X F1 im1.mb.2.1 x y) (fun v2 h2 q2 => by
        rw [if_pos z1] at q2
        exact fq_M q2)
  · rw [if_neg z1] at q
    by_cases z2 : y < 0 ∨ 1296 ≤ y
    · rw [if_pos z2] at q
      exact res_f ic im pu (k := 0) (by decide) q (fun F1 im1 => zX9_holds X F1 im1.mb.2.1 x y) (fun v2 h2 q2 => by
          rw [if_neg z1, if_pos z2] at q2
          exact fq_M q2)
    · rw [if_neg z2] at q
      obtain rfl := q.2
      exact res_v ic im pu q (fun F1 im1 => zX9_holds X F1 im1.mb.2.1 x y) (fun v2 h2 q2 => by
          rw [if_neg z1, if_neg z2] at q2
          exact vq_t q2 rfl)
theorem op_conveys (X : EX) {c : Nat} {h : HP} (I : Inv c h) (x y w : Int32) : Ct X mX8_conveys 3 0 0 ([vR (some 32), vI x, vI y, vI w]) h (RES X c mX9_conveys 6 [vI x, vI y, vI w]) := by
  obtain ⟨P, ic, im, pu⟩ := I
  have bf : BkF h P.b.f P.b.o := ic.cb.1
  have b : BkD h P.b.n P.b.A P.b.D := ic.cb.2.1
  refine ct_post (zX8_conveys X ic.F b x y w) (fun v h1 q => ?_)
  skip
  by_cases z1 : x < 0 ∨ nI P.b.n ≤ x
  · rw [if_pos z1] at q
    exact res_f ic im pu (k := 0) (by decide) q (fun F1 im1 => zX9_conveys X F1 im1.mb.2.1 x y w) (fun v2 h2 q2 => by
        rw [if_pos z1] at q2
        exact fq_M q2)
  · rw [if_neg z1] at q
    by_cases z2 : y < 0 ∨ 1296 ≤ y
    · rw [if_pos z2] at q
      exact res_f ic im pu (k := 0) (by decide) q (fun F1 im1 => zX9_conveys X F1 im1.mb.2.1 x y w) (fun v2 h2 q2 => by
          rw [if_neg z1, if_pos z2] at q2
          exact fq_M q2)
    · rw [if_neg z2] at q
      by_cases z3 : w < 0 ∨ 2 ≤ w
      · rw [if_pos z3] at q
        exact res_f ic im pu (k := 0) (by decide) q (fun F1 im1 => zX9_conveys X F1 im1.mb.2.1 x y w) (fun v2 h2 q2 => by
            rw [if_neg z1, if_neg z2, if_pos z3] at q2
            exact fq_M q2)
      · rw [if_neg z3] at q
        rcases e0 : (if w = 0 then gv (P.b.D x.toNatClampNeg) y.toNatClampNeg else gb (P.b.D x.toNatClampNeg) y.toNatClampNeg) with _ | p0
        · rw [e0] at q
          exact res_f ic im pu (k := 3) (by decide) q (fun F1 im1 => zX9_conveys X F1 im1.mb.2.1 x y w) (fun v2 h2 q2 => by
              rw [if_neg z1, if_neg z2, if_neg z3, e0] at q2
              exact fq_M q2)
        · rw [e0] at q
          exact res_v ic im pu q (fun F1 im1 => zX9_conveys X F1 im1.mb.2.1 x y w) (fun v2 h2 q2 => by
              rw [if_neg z1, if_neg z2, if_neg z3, e0] at q2
              exact vq_t q2 rfl)
theorem op_clash (X : EX) {c : Nat} {h : HP} (I : Inv c h) (x : Int32) : Ct X mX8_clash 1 0 0 ([vR (some 32), vI x]) h (RES X c mX9_clash 1 [vI x]) := by
  obtain ⟨P, ic, im, pu⟩ := I
  have bf : BkF h P.b.f P.b.o := ic.cb.1
  have b : BkD h P.b.n P.b.A P.b.D := ic.cb.2.1
  refine ct_post (zX8_clash X ic.F x) (fun v h1 q => ?_)
  skip
  by_cases z1 : x < 0 ∨ 3 ≤ x
  · rw [if_pos z1] at q
    exact res_f ic im pu (k := 0) (by decide) q (fun F1 im1 => zX9_clash X F1 x) (fun v2 h2 q2 => by
        rw [if_pos z1] at q2
        exact fq_M q2)
  · rw [if_neg z1] at q
    obtain rfl := q.2
    exact res_v ic im pu q (fun F1 im1 => zX9_clash X F1 x) (fun v2 h2 q2 => by
        rw [if_neg z1] at q2
        exact vq_t q2 (congrArg vI ((im.tl _ (cl_lt (N := 3) (by decide) z1)).trans (ic.tl _ (cl_lt (N := 3) (by decide) z1)).symm)))
theorem op_owner (X : EX) {c : Nat} {h : HP} (I : Inv c h) (x y : Int32) : Ct X mX8_owner 3 0 0 ([vR (some 32), vI x, vI y]) h (RES X c mX9_owner 8 [vI x, vI y]) := by
  obtain ⟨P, ic, im, pu⟩ := I
  have bf : BkF h P.b.f P.b.o := ic.cb.1
  have b : BkD h P.b.n P.b.A P.b.D := ic.cb.2.1
  refine ct_post (zX8_owner X ic.F bf x y) (fun v h1 q => ?_)
  have O := owR9 ic pu
  by_cases z1 : nI (fo P.b.o P.b.f) ≤ x ∧ x < nI (fo P.b.o P.b.f + om P.b.f)
  · rw [if_pos z1] at q
    by_cases z2 : y < 0 ∨ 12 ≤ y
    · rw [if_pos z2] at q
      exact res_f ic im pu (k := 0) (by decide) q (fun F1 im1 => zX9_owner X F1 im1.mb.1 im1.mb.2.1 x y) (fun v2 h2 q2 => by
          rw [if_pos z1, if_pos z2] at q2
          exact fq_M q2)
    · rw [if_neg z2] at q
      obtain rfl := q.2
      exact res_v ic im pu q (fun F1 im1 => zX9_owner X F1 im1.mb.1 im1.mb.2.1 x y) (fun v2 h2 q2 => by
          rw [if_pos z1, if_neg z2] at q2
          exact vq_s q2 (congrArg vI (O _ (op_in ic z1).1 (op_in ic z1).2 _ (cl_lt (N := 12) (by decide) z2)).1.symm))
  · rw [if_neg z1] at q
    exact res_f ic im pu (k := 0) (by decide) q (fun F1 im1 => zX9_owner X F1 im1.mb.1 im1.mb.2.1 x y) (fun v2 h2 q2 => by
        rw [if_neg z1] at q2
        exact fq_M q2)
theorem op_hand (X : EX) {c : Nat} {h : HP} (I : Inv c h) (x y : Int32) : Ct X mX8_hand 3 0 0 ([vR (some 32), vI x, vI y]) h (RES X c mX9_hand 7 [vI x, vI y]) := by
  obtain ⟨P, ic, im, pu⟩ := I
  have bf : BkF h P.b.f P.b.o := ic.cb.1
  have b : BkD h P.b.n P.b.A P.b.D := ic.cb.2.1
  refine ct_post (zX8_hand X ic.F bf x y) (fun v h1 q => ?_)
  have O := owR9 ic pu
  by_cases z1 : nI (fo P.b.o P.b.f) ≤ x ∧ x < nI (fo P.b.o P.b.f + om P.b.f)
  · rw [if_pos z1] at q
    by_cases z2 : y < 0 ∨ 3 ≤ y
    · rw [if_pos z2] at q
      exact res_f ic im pu (k := 0) (by decide) q (fun F1 im1 => zX9_hand X F1 im1.mb.1 im1.mb.2.1 x y) (fun v2 h2 q2 => by
          rw [if_pos z1, if_pos z2] at q2
          exact fq_M q2)
    · rw [if_neg z2] at q
      obtain rfl := q.2
      exact res_v ic im pu q (fun F1 im1 => zX9_hand X F1 im1.mb.1 im1.mb.2.1 x y) (fun v2 h2 q2 => by
          rw [if_pos z1, if_neg z2] at q2
          exact vq_s q2 (congrArg vI (hand_e O (op_in ic z1).1 (op_in ic z1).2 y).symm))
  · rw [if_neg z1] at q
    exact res_f ic im pu (k := 0) (by decide) q (fun F1 im1 => zX9_hand X F1 im1.mb.1 im1.mb.2.1 x y) (fun v2 h2 q2 => by
        rw [if_neg z1] at q2
        exact fq_M q2)
theorem op_owners (X : EX) {c : Nat} {h : HP} (I : Inv c h) (x : Int32) : Ct X mX8_owners 3 0 0 ([vR (some 32), vI x]) h (RES X c mX9_owners 9 [vI x]) := by
  obtain ⟨P, ic, im, pu⟩ := I
  have bf : BkF h P.b.f P.b.o := ic.cb.1
  have b : BkD h P.b.n P.b.A P.b.D := ic.cb.2.1
  refine ct_post (zX8_owners X ic.F bf x) (fun v h1 q => ?_)
  have O := owR9 ic pu
  by_cases z1 : x < 0 ∨ 12 ≤ x
  · rw [if_pos z1] at q
    exact res_f ic im pu (k := 0) (by decide) q (fun F1 im1 => zX9_owners X F1 im1.mb.1 im1.mb.2.1 x) (fun v2 h2 q2 => by
        rw [if_pos z1] at q2
        exact fq_M q2)
  · rw [if_neg z1] at q
    obtain rfl := q.2
    exact res_v ic im pu q (fun F1 im1 => zX9_owners X F1 im1.mb.1 im1.mb.2.1 x) (fun v2 h2 q2 => by
        rw [if_neg z1] at q2
        exact vq_s q2 (congrArg vI (owners_e O (cl_lt (N := 12) (by decide) z1)).symm))
theorem op_sure (X : EX) {c : Nat} {h : HP} (I : Inv c h) (x : Int32) : Ct X mX8_sure 3 0 0 ([vR (some 32), vI x]) h (RES X c mX9_sure 9 [vI x]) := by
  obtain ⟨P, ic, im, pu⟩ := I
  have bf : BkF h P.b.f P.b.o := ic.cb.1
  have b : BkD h P.b.n P.b.A P.b.D := ic.cb.2.1
  refine ct_post (zX8_sure X ic.F bf x) (fun v h1 q => ?_)
  have O := owR9 ic pu
  by_cases z1 : x < 0 ∨ 12 ≤ x
  · rw [if_pos z1] at q
    exact res_f ic im pu (k := 0) (by decide) q (fun F1 im1 => zX9_sure X F1 im1.mb.1 im1.mb.2.1 x) (fun v2 h2 q2 => by
        rw [if_pos z1] at q2
        exact fq_M q2)
  · rw [if_neg z1] at q
    rw [sure_e O bf.2.1 (cl_lt (N := 12) (by decide) z1)] at q
    rcases e0 : frW (fun c => decide (owSt P.b.D P.b.n P.b.f P.b.o x.toNatClampNeg c = om P.b.f)) 0 3 with _ | p0
    · rw [e0] at q
      exact res_f ic im pu (k := 3) (by decide) q (fun F1 im1 => zX9_sure X F1 im1.mb.1 im1.mb.2.1 x) (fun v2 h2 q2 => by
          rw [if_neg z1, e0] at q2
          exact fq_S q2)
    · rw [e0] at q
      exact res_v ic im pu q (fun F1 im1 => zX9_sure X F1 im1.mb.1 im1.mb.2.1 x) (fun v2 h2 q2 => by
          rw [if_neg z1, e0] at q2
          exact vq_s q2 rfl)
theorem op_chance (X : EX) {c : Nat} {h : HP} (I : Inv c h) (x y : Int32) : Ct X mX8_chance 2 0 0 ([vR (some 32), vI x, vI y]) h (RES X c mX9_chance 9 [vI x, vI y]) := by
  obtain ⟨P, ic, im, pu⟩ := I
  have bf : BkF h P.b.f P.b.o := ic.cb.1
  have b : BkD h P.b.n P.b.A P.b.D := ic.cb.2.1
  refine ct_post (zX8_chance X ic.F bf x y) (fun v h1 q => ?_)
  have O := owR9 ic pu
  by_cases z1 : x < 0 ∨ 12 ≤ x
  · rw [if_pos z1] at q
    exact res_f ic im pu (k := 0) (by decide) q (fun F1 im1 => zX9_chance X F1 im1.mb.1 im1.mb.2.1 x y) (fun v2 h2 q2 => by
        rw [if_pos z1] at q2
        exact fq_M q2)
  · rw [if_neg z1] at q
    by_cases z2 : y < 0 ∨ 3 ≤ y
    · rw [if_pos z2] at q
      exact res_f ic im pu (k := 0) (by decide) q (fun F1 im1 => zX9_chance X F1 im1.mb.1 im1.mb.2.1 x y) (fun v2 h2 q2 => by
          rw [if_neg z1, if_pos z2] at q2
          exact fq_M q2)
    · rw [if_neg z2] at q
      obtain rfl := q.2
      exact res_v ic im pu q (fun F1 im1 => zX9_chance X F1 im1.mb.1 im1.mb.2.1 x y) (fun v2 h2 q2 => by
          rw [if_neg z1, if_neg z2] at q2
          exact vq_s q2 (congrArg (fun j => vI (nI j)) (chance_e O (cl_lt (N := 12) (by decide) z1) y).symm))
theorem op_least (X : EX) {c : Nat} {h : HP} (I : Inv c h) (x y : Int32) : Ct X mX8_least 2 0 0 ([vR (some 32), vI x, vI y]) h (RES X c mX9_least 8 [vI x, vI y]) := by
  obtain ⟨P, ic, im, pu⟩ := I
  have bf : BkF h P.b.f P.b.o := ic.cb.1
  have b : BkD h P.b.n P.b.A P.b.D := ic.cb.2.1
  refine ct_post (zX8_least X ic.F bf x y) (fun v h1 q => ?_)
  have O := owR9 ic pu
  by_cases z1 : x < 0 ∨ 12 ≤ x
  · rw [if_pos z1] at q
    exact res_f ic im pu (k := 0) (by decide) q (fun F1 im1 => zX9_least X F1 im1.mb.1 im1.mb.2.1 x y) (fun v2 h2 q2 => by
        rw [if_pos z1] at q2
        exact fq_M q2)
  · rw [if_neg z1] at q
    by_cases z2 : y < 0 ∨ 3 ≤ y
    · rw [if_pos z2] at q
      exact res_f ic im pu (k := 0) (by decide) q (fun F1 im1 => zX9_least X F1 im1.mb.1 im1.mb.2.1 x y) (fun v2 h2 q2 => by
          rw [if_neg z1, if_pos z2] at q2
          exact fq_M q2)
    · rw [if_neg z2] at q
      rw [least_e O (cl_lt (N := 12) (by decide) z1) y] at q
      rcases e0 : frW (fun s => owP P.b.D P.b.n y s x.toNatClampNeg) (fo P.b.o P.b.f) (om P.b.f) with _ | p0
      · rw [e0] at q
        exact res_f ic im pu (k := 3) (by decide) q (fun F1 im1 => zX9_least X F1 im1.mb.1 im1.mb.2.1 x y) (fun v2 h2 q2 => by
            rw [if_neg z1, if_neg z2, e0] at q2
            exact fq_S q2)
      · rw [e0] at q
        exact res_v ic im pu q (fun F1 im1 => zX9_least X F1 im1.mb.1 im1.mb.2.1 x y) (fun v2 h2 q2 => by
            rw [if_neg z1, if_neg z2, e0] at q2
            exact vq_s q2 rfl)
theorem op_worth (X : EX) {c : Nat} {h : HP} (I : Inv c h) (x y : Int32) : Ct X mX8_worth 3 0 0 ([vR (some 32), vI x, vI y]) h (RES X c mX9_worth 8 [vI x, vI y]) := by
  obtain ⟨P, ic, im, pu⟩ := I
  have bf : BkF h P.b.f P.b.o := ic.cb.1
  have b : BkD h P.b.n P.b.A P.b.D := ic.cb.2.1
  refine ct_post (zX8_worth X ic.F bf x y) (fun v h1 q => ?_)
  have O := owR9 ic pu
  by_cases z1 : nI (fo P.b.o P.b.f) ≤ x ∧ x < nI (fo P.b.o P.b.f + om P.b.f)
  · rw [if_pos z1] at q
    by_cases z2 : y < 0 ∨ 3 ≤ y
    · rw [if_pos z2] at q
      exact res_f ic im pu (k := 0) (by decide) q (fun F1 im1 => zX9_worth X F1 im1.mb.1 im1.mb.2.1 x y) (fun v2 h2 q2 => by
          rw [if_pos z1, if_pos z2] at q2
          exact fq_M q2)
    · rw [if_neg z2] at q
      obtain rfl := q.2
      exact res_v ic im pu q (fun F1 im1 => zX9_worth X F1 im1.mb.1 im1.mb.2.1 x y) (fun v2 h2 q2 => by
          rw [if_pos z1, if_neg z2] at q2
          exact vq_s q2 (congrArg vI (wr_e (wz ic im) O (op_in ic z1).1 (op_in ic z1).2 y).symm))
  · rw [if_neg z1] at q
    exact res_f ic im pu (k := 0) (by decide) q (fun F1 im1 => zX9_worth X F1 im1.mb.1 im1.mb.2.1 x y) (fun v2 h2 q2 => by
        rw [if_neg z1] at q2
        exact fq_M q2)
theorem op_value (X : EX) {c : Nat} {h : HP} (I : Inv c h) (x : Int32) : Ct X mX8_value 3 0 0 ([vR (some 32), vI x]) h (RESL X c mX9_value 9 [vI x]) := by
  obtain ⟨P, ic, im, pu⟩ := I
  have bf : BkF h P.b.f P.b.o := ic.cb.1
  have b : BkD h P.b.n P.b.A P.b.D := ic.cb.2.1
  refine ct_post (zX8_value X ic.F bf x) (fun v h1 q => ?_)
  have O := owR9 ic pu
  by_cases z1 : x < 0 ∨ 3 ≤ x
  · rw [if_pos z1] at q
    exact res_fL ic im pu (k := 0) (by decide) q (fun F1 im1 => zX9_value X F1 im1.mb.1 im1.mb.2.1 x) (fun v2 h2 q2 => by
        rw [if_pos z1] at q2
        exact fq_L q2)
  · rw [if_neg z1] at q
    obtain rfl := q.2
    exact res_vL ic im pu q (fun F1 im1 => zX9_value X F1 im1.mb.1 im1.mb.2.1 x) (fun v2 h2 q2 => by
        rw [if_neg z1] at q2
        exact vq_s q2 (congrArg vL (wo_e (wz ic im) O x (Nat.le_refl _) (Nat.le_refl _)).symm))
theorem op_best (X : EX) {c : Nat} {h : HP} (I : Inv c h) (x y : Int32) : Ct X mX8_best 2 0 0 ([vR (some 32), vI x, vI y]) h (RES X c mX9_best 8 [vI x, vI y]) := by
  obtain ⟨P, ic, im, pu⟩ := I
  have bf : BkF h P.b.f P.b.o := ic.cb.1
  have b : BkD h P.b.n P.b.A P.b.D := ic.cb.2.1
  refine ct_post (zX8_best X ic.F bf x y) (fun v h1 q => ?_)
  have O := owR9 ic pu
  by_cases z1 : x < 0 ∨ 3 ≤ x
  · rw [if_pos z1] at q
    exact res_f ic im pu (k := 0) (by decide) q (fun F1 im1 => zX9_best X F1 im1.mb.1 im1.mb.2.1 x y) (fun v2 h2 q2 => by
        rw [if_pos z1] at q2
        exact fq_M q2)
  · rw [if_neg z1] at q
    by_cases z2 : y < 0 ∨ 2 ≤ y
    · rw [if_pos z2] at q
      exact res_f ic im pu (k := 0) (by decide) q (fun F1 im1 => zX9_best X F1 im1.mb.1 im1.mb.2.1 x y) (fun v2 h2 q2 => by
          rw [if_neg z1, if_pos z2] at q2
          exact fq_M q2)
    · rw [if_neg z2] at q
      obtain rfl := q.2
      exact res_v ic im pu q (fun F1 im1 => zX9_best X F1 im1.mb.1 im1.mb.2.1 x y) (fun v2 h2 q2 => by
          rw [if_neg z1, if_neg z2] at q2
          exact vq_s q2 (congrArg (fun j => vI (nI j)) (by rw [wr_e (wz ic im) O (Nat.le_refl _) (by have := om_p _ bf.2.1; omega) x]; exact (bs_e (wz ic im) O x y (by omega) (by have := om_p _ bf.2.1; omega)).symm)))
theorem op_hope (X : EX) {c : Nat} {h : HP} (I : Inv c h) (x : Int32) : Ct X mX8_hope 3 0 0 ([vR (some 32), vI x]) h (RES X c mX9_hope 9 [vI x]) := by
  obtain ⟨P, ic, im, pu⟩ := I
  have bf : BkF h P.b.f P.b.o := ic.cb.1
  have b : BkD h P.b.n P.b.A P.b.D := ic.cb.2.1
  refine ct_post (zX8_hope X ic.F bf x) (fun v h1 q => ?_)
  have O := owR9 ic pu
  have st6 : ∀ f, f < 4 → (0 + 6) * stp f = om f := by decide
  by_cases z1 : x < 0 ∨ 3 ≤ x
  · rw [if_pos z1] at q
    exact res_f ic im pu (k := 0) (by decide) q (fun F1 im1 => zX9_hope X F1 im1.mb.1 im1.mb.2.1 x) (fun v2 h2 q2 => by
        rw [if_pos z1] at q2
        exact fq_M q2)
  · rw [if_neg z1] at q
    by_cases z2 : 4 ≤ P.b.f
    · rw [if_pos z2] at q
      exact res_f ic im pu (k := 3) (by decide) q (fun F1 im1 => zX9_hope X F1 im1.mb.1 im1.mb.2.1 x) (fun v2 h2 q2 => by
          rw [if_neg z1, if_pos z2] at q2
          exact fq_M q2)
    · rw [if_neg z2] at q
      obtain rfl := q.2
      exact res_v ic im pu q (fun F1 im1 => zX9_hope X F1 im1.mb.1 im1.mb.2.1 x) (fun v2 h2 q2 => by
          rw [if_neg z1, if_neg z2] at q2
          exact vq_s q2 (congrArg (fun j => vI (nI j)) (hp_e (wz ic im) O x (by have := st6 P.b.f (by omega); omega)).symm))
theorem op_judge (X : EX) {c : Nat} {h : HP} (I : Inv c h) (x y : Int32) : Ct X mX8_judge 3 0 0 ([vR (some 32), vI x, vI y]) h (RES X c mX9_judge 7 [vI x, vI y]) := by
  obtain ⟨P, ic, im, pu⟩ := I
  have bf : BkF h P.b.f P.b.o := ic.cb.1
  have b : BkD h P.b.n P.b.A P.b.D := ic.cb.2.1
  refine ct_post (zX8_judge X ic.F bf ic.sh x y) (fun v h1 q => ?_)
  have O := owR9 ic pu
  by_cases z1 : x < 0 ∨ 4 ≤ x
  · rw [if_pos z1] at q
    exact res_f ic im pu (k := 0) (by decide) q (fun F1 im1 => zX9_judge X F1 im1.mb.1 im1.mb.2.1 im1.sh x y) (fun v2 h2 q2 => by
        rw [if_pos z1] at q2
        exact fq_M q2)
  · rw [if_neg z1] at q
    by_cases z2 : nI (fo P.b.o P.b.f) ≤ y ∧ y < nI (fo P.b.o P.b.f + om P.b.f)
    · rw [if_pos z2] at q
      by_cases z3 : P.tS x.toNatClampNeg = -1
      · rw [if_pos z3] at q
        exact res_f ic im pu (k := 5) (by decide) q (fun F1 im1 => zX9_judge X F1 im1.mb.1 im1.mb.2.1 im1.sh x y) (fun v2 h2 q2 => by
            rw [if_neg z1, if_pos z2, if_pos z3] at q2
            exact fq_M q2)
      · rw [if_neg z3] at q
        obtain rfl := q.2
        exact res_v ic im pu q (fun F1 im1 => zX9_judge X F1 im1.mb.1 im1.mb.2.1 im1.sh x y) (fun v2 h2 q2 => by
            rw [if_neg z1, if_pos z2, if_neg z3] at q2
            exact vq_s q2 (congrArg vI (judge_e O (op_in ic z2).1 (op_in ic z2).2 (fun i hi => (ic.sl _ (cl_lt (N := 4) (by decide) z1) i hi).trans (im.sl _ (cl_lt (N := 4) (by decide) z1) i hi).symm)).symm))
    · rw [if_neg z2] at q
      exact res_f ic im pu (k := 0) (by decide) q (fun F1 im1 => zX9_judge X F1 im1.mb.1 im1.mb.2.1 im1.sh x y) (fun v2 h2 q2 => by
          rw [if_neg z1, if_neg z2] at q2
          exact fq_M q2)
theorem op_item (X : EX) {c : Nat} {h : HP} (I : Inv c h) (x y : Int32) : Ct X mX8_item 1 0 0 ([vR (some 32), vI x, vI y]) h (RESL X c mX9_item 2 [vI x, vI y]) := by
  obtain ⟨P, ic, im, pu⟩ := I
  have bf : BkF h P.b.f P.b.o := ic.cb.1
  have b : BkD h P.b.n P.b.A P.b.D := ic.cb.2.1
  refine ct_post (zX8_item X ic.F ic.sh x y) (fun v h1 q => ?_)
  skip
  by_cases z1 : x < 0 ∨ 4 ≤ x
  · rw [if_pos z1] at q
    exact res_fL ic im pu (k := 0) (by decide) q (fun F1 im1 => zX9_item X F1 im1.sh x y) (fun v2 h2 q2 => by
        rw [if_pos z1] at q2
        exact fq_L q2)
  · rw [if_neg z1] at q
    by_cases z2 : P.tS x.toNatClampNeg = -1
    · rw [if_pos z2] at q
      exact res_fL ic im pu (k := 5) (by decide) q (fun F1 im1 => zX9_item X F1 im1.sh x y) (fun v2 h2 q2 => by
          rw [if_neg z1, if_pos z2] at q2
          exact fq_L q2)
    · rw [if_neg z2] at q
      by_cases z3 : y < 0 ∨ nI (P.qS x.toNatClampNeg) ≤ y
      · rw [if_pos z3] at q
        exact res_fL ic im pu (k := 0) (by decide) q (fun F1 im1 => zX9_item X F1 im1.sh x y) (fun v2 h2 q2 => by
            rw [if_neg z1, if_neg z2, if_pos z3] at q2
            exact fq_L q2)
      · rw [if_neg z3] at q
        obtain rfl := q.2
        exact res_vL ic im pu q (fun F1 im1 => zX9_item X F1 im1.sh x y) (fun v2 h2 q2 => by
            rw [if_neg z1, if_neg z2, if_neg z3] at q2
            exact vq_t q2 (congrArg vL ((im.sl _ (cl_lt (N := 4) (by decide) z1) _ (cl_lt (by have := (ic.sh _ (cl_lt (N := 4) (by decide) z1)).2.2.2; omega) z3)).trans (ic.sl _ (cl_lt (N := 4) (by decide) z1) _ (cl_lt (by have := (ic.sh _ (cl_lt (N := 4) (by decide) z1)).2.2.2; omega) z3)).symm)))
theorem op_chain (X : EX) {c : Nat} {h : HP} (I : Inv c h) (x y w : Int32) : Ct X mX8_chain 3 0 0 ([vR (some 32), vI x, vI y, vI w]) h (RES X c mX9_chain 7 [vI x, vI y, vI w]) := by
  obtain ⟨P, ic, im, pu⟩ := I
  have bf : BkF h P.b.f P.b.o := ic.cb.1
  have b : BkD h P.b.n P.b.A P.b.D := ic.cb.2.1
  refine ct_post (zX8_chain X ic.F bf b x y w) (fun v h1 q => ?_)
  skip
  by_cases z1 : nI (fo P.b.o P.b.f) ≤ x ∧ x < nI (fo P.b.o P.b.f + om P.b.f)
  · rw [if_pos z1] at q
    by_cases z2 : y < 0 ∨ 12 ≤ y
    · rw [if_pos z2] at q
      exact res_f ic im pu (k := 0) (by decide) q (fun F1 im1 => zX9_chain X F1 im1.mb.1 im1.mb.2.1 x y w) (fun v2 h2 q2 => by
          rw [if_pos z1, if_pos z2] at q2
          exact fq_M q2)
    · rw [if_neg z2] at q
      obtain ⟨k1, k2, k3⟩ := chain_e (wfD ic) b.2.1 (pu.ok _ (op_in ic z1).1 (op_in ic z1).2 _ (cl_lt (N := 12) (by decide) z2)) w
      by_cases y1 : w = -1
      · rw [if_pos y1] at q
        obtain rfl := q.2
        exact res_v ic im pu q (fun F1 im1 => zX9_chain X F1 im1.mb.1 im1.mb.2.1 x y w) (fun v2 h2 q2 => by
          rw [if_pos z1, if_neg z2, if_pos y1] at q2
          exact vq_s q2 (congrArg (fun j => vI (nI j)) (k1 y1).symm))
      · rw [if_neg y1] at q
        by_cases y2 : w < 0 ∨ nI (chF P.b.D P.b.n x.toNatClampNeg y.toNatClampNeg).2.length ≤ w
        · rw [if_neg (k2 y2 y1)] at q
          exact res_f ic im pu (k := 3) (by decide) q (fun F1 im1 => zX9_chain X F1 im1.mb.1 im1.mb.2.1 x y w) (fun v2 h2 q2 => by
            rw [if_pos z1, if_neg z2, if_neg y1, if_pos y2] at q2
            exact fq_S q2)
        · rw [if_pos (k3 y2).1] at q
          obtain rfl := q.2
          exact res_v ic im pu q (fun F1 im1 => zX9_chain X F1 im1.mb.1 im1.mb.2.1 x y w) (fun v2 h2 q2 => by
            rw [if_pos z1, if_neg z2, if_neg y1, if_neg y2] at q2
            exact vq_s q2 (congrArg (fun j => vI (nI j)) (k3 y2).2.symm))
  · rw [if_neg z1] at q
    exact res_f ic im pu (k := 0) (by decide) q (fun F1 im1 => zX9_chain X F1 im1.mb.1 im1.mb.2.1 x y w) (fun v2 h2 q2 => by
        rw [if_neg z1] at q2
        exact fq_M q2)
