/-! calls that change a little (written by wip/whole/g95.py) -/
theorem CB.at {h h2 : HP} {b : BK} (q : CB h 33 b) (u : Up h h2) {z2 : Int32} {W2 : Nat → Int32} (e : ∀ i, i ≠ 5 → hI h2 33 i = hI h 33 i) (e5 : hI h2 33 5 = z2) (e35 : ∀ i, hI h2 35 i = hI h 35 i) (eW : ∀ i, i < 3 → hI h2 36 i = W2 i) (e34 : ∀ i, hR h2 34 i = hR h 34 i) : CB h2 33 (bkK b.f b.n b.o b.A b.D W2 z2 b.J) := by
  obtain ⟨⟨f1, f2, f3, f4⟩, ⟨d1, d2, d3⟩, w, z⟩ := q
  exact ⟨⟨(e _ (by decide)).trans f1, f2, fun y hy => (e35 _).trans (f3 y hy), f4⟩, ⟨(e _ (by decide)).trans d1, d2, fun k hk => ⟨(e34 _).trans (d3 k hk).1, (d3 k hk).2.up u⟩⟩, eW, e5⟩
theorem MB.at {h h2 : HP} {b : BK} (q : MB h b) {z2 : Int32} {W2 : Nat → Int32} (e : ∀ a i, (a = 109 ∧ (i = 1 ∨ i = 4)) ∨ a = 111 ∨ a = 112 ∨ a = 113 → hI h2 a i = hI h a i) (eW : ∀ i, i < 3 → hI h2 117 i = W2 i) (ez : hI h2 109 3 = z2) : MB h2 (bkK b.f b.n b.o b.A b.D W2 z2 b.J) := by
  obtain ⟨⟨f1, f2, f3, f4⟩, d, w, z, j⟩ := q
  exact ⟨⟨(e _ _ (by omega)).trans f1, f2, fun y hy => (e _ _ (by omega)).trans (f3 y hy), f4⟩, d.keep ((e _ _ (by omega)).trans d.1) (fun i _ => e _ _ (by omega)) (fun i _ => e _ _ (by omega)), eW, ez, fun k hk => (e _ _ (by omega)).trans (j k hk)⟩
theorem op_seed (X : EX) {c : Nat} {h : HP} (I : Inv c h) (x : Int32) : Ct X mX8_seed 0 0 0 ([vR (some 32), vI x]) h (RES X c mX9_seed 0 [vI x]) := by
  obtain ⟨P, ic, im, pu⟩ := I
  have bf : BkF h P.b.f P.b.o := ic.cb.1
  have b : BkD h P.b.n P.b.A P.b.D := ic.cb.2.1
  refine ct_post (zX8_seed X ic.F x) (fun v h1 q => ?_)
  obtain ⟨rfl, rfl⟩ := q
  skip
  have K : Kc (fun a i => a = 33 ∧ i = 5) (fun a _ => a = 0) (fun a => a = 0) h (wI h 33 5 x) := (Kc.rf ic.F).wI (by decide) ⟨rfl, rfl⟩
  have ic1 : IC (ppK (bkK P.b.f P.b.n P.b.o P.b.A P.b.D P.b.W x P.b.J) P.N P.T P.g P.im P.l P.bt P.tS P.qS P.sL P.S P.E P.SI P.B P.ID) (wI h 33 5 x) := ⟨K.F, ic.cb.at K.up (fun i hi => wI_i hi) (wI_s) (fun i => wI_a (by decide)) (fun i hi => (wI_a (by decide)).trans (ic.cb.2.2.1 i hi)) (fun i => rfl), ic.ow.k K (by intros; (try dsimp only); omega), fun k hk => (K.i _ (by decide) _ (by intros; (try dsimp only); omega)).trans (ic.fn k hk), fun k hk => (K.i _ (by decide) _ (by intros; (try dsimp only); omega)).trans (ic.tl k hk), (K.i _ (by decide) _ (by intros; (try dsimp only); omega)).trans ic.pg, pi.k ic.pi pu.g6 K (by intros; (try dsimp only); omega), ⟨(K.i _ (by decide) _ (by intros; (try dsimp only); omega)).trans ic.tp.1, ic.tp.2⟩, fun i hi => (K.i _ (by decide) _ (by intros; (try dsimp only); omega)).trans (ic.tb i hi), ic.sh.k K (by intros; (try dsimp only); omega), fun s hs i hi => (K.l _ (by omega) (by intros; (try dsimp only); omega) _).trans (ic.sl s hs i hi), ic.sp.k K (by intros; (try dsimp only); omega), fun a j e => Nat.lt_of_lt_of_le (ic.id a j e) K.up.1⟩
  have im1 : IM P (wI h 33 5 x) := im.kc K (by intros; (try dsimp only); omega) (by intros; (try dsimp only); omega)
  refine res_c (P2 := (ppK (bkK P.b.f P.b.n P.b.o P.b.A P.b.D P.b.W x P.b.J) P.N P.T P.g P.im P.l P.bt P.tS P.qS P.sL P.S P.E P.SI P.B P.ID)) rfl K.F im1 (fun F1 im1 => zX9_seed X F1 x) (fun v2 h2 q2 => ?_)
  obtain ⟨rfl, rfl⟩ := q2
  have S : Sf (fun a i => a = 109 ∧ i = 3) (wI h 33 5 x) (wI (wI h 33 5 x) 109 3 x) := (Sf.rf _).wI ⟨rfl, rfl⟩
  have e9 := S.2
  have eL : ∀ i, hL (wI (wI h 33 5 x) 109 3 x) 124 i = hL (wI h 33 5 x) 124 i := fun _ => rfl
  refine ⟨congrArg (fun j => some (vI j)) (im.mb.2.2.2.1.trans ic.cb.2.2.2.symm), ic1.sf pu.g6 S (by intros; (try dsimp only); omega), ?_, pu.s⟩
  have im := im1
  exact ⟨im.mb.at (fun a i z => e9 a i (by intros; (try dsimp only); omega)) (fun i hi => (e9 _ _ (by intros; (try dsimp only); omega)).trans (im.mb.2.2.1 i hi)) wI_s, fun k hk => (e9 _ _ (by intros; (try dsimp only); omega)).trans (im.fn k hk), fun k hk => (e9 _ _ (by intros; (try dsimp only); omega)).trans (im.tl k hk), (e9 _ _ (by intros; (try dsimp only); omega)).trans im.pg, fun j hj => (im.pi j hj).elim (fun h3 q => ⟨h3, q.1.go (fun a i z => e9 a i (by intros; (try dsimp only); omega)), q.2⟩), im.tb.go (fun a i z => e9 a i (by intros; (try dsimp only); omega)), im.sh.go (fun a i z => e9 a i (by intros; (try dsimp only); omega)), fun s hs i hi => (eL _).trans (im.sl s hs i hi), fun i hi => (im.sp i hi).go (fun a z => e9 a i (by intros; (try dsimp only); omega)), (e9 _ _ (by intros; (try dsimp only); omega)).trans im.bn⟩
theorem op_draw (X : EX) {c : Nat} {h : HP} (I : Inv c h)  : Ct X mX8_draw 1 0 0 ([vR (some 32)]) h (RES X c mX9_draw 1 []) := by
  obtain ⟨P, ic, im, pu⟩ := I
  have bf : BkF h P.b.f P.b.o := ic.cb.1
  have b : BkD h P.b.n P.b.A P.b.D := ic.cb.2.1
  refine ct_post (zX8_draw X ic.F bf) (fun v h1 q => ?_)
  obtain ⟨Z, hZ9⟩ : ∃ Z, Z = hI h 33 5 * 1103515245 + 12345 := ⟨_, rfl⟩
  rw [← hZ9] at q
  obtain ⟨rfl, rfl⟩ := q
  have ez : hI (wI h 33 5 Z) 109 3 = hI h 33 5 := (im.mb.2.2.2.1.trans ic.cb.2.2.2.symm)
  have K : Kc (fun a i => a = 33 ∧ i = 5) (fun a _ => a = 0) (fun a => a = 0) h (wI h 33 5 Z) := (Kc.rf ic.F).wI (by decide) ⟨rfl, rfl⟩
  have ic1 : IC (ppK (bkK P.b.f P.b.n P.b.o P.b.A P.b.D P.b.W Z P.b.J) P.N P.T P.g P.im P.l P.bt P.tS P.qS P.sL P.S P.E P.SI P.B P.ID) (wI h 33 5 Z) := ⟨K.F, ic.cb.at K.up (fun i hi => wI_i hi) (wI_s) (fun i => wI_a (by decide)) (fun i hi => (wI_a (by decide)).trans (ic.cb.2.2.1 i hi)) (fun i => rfl), ic.ow.k K (by intros; (try dsimp only); omega), fun k hk => (K.i _ (by decide) _ (by intros; (try dsimp only); omega)).trans (ic.fn k hk), fun k hk => (K.i _ (by decide) _ (by intros; (try dsimp only); omega)).trans (ic.tl k hk), (K.i _ (by decide) _ (by intros; (try dsimp only); omega)).trans ic.pg, pi.k ic.pi pu.g6 K (by intros; (try dsimp only); omega), ⟨(K.i _ (by decide) _ (by intros; (try dsimp only); omega)).trans ic.tp.1, ic.tp.2⟩, fun i hi => (K.i _ (by decide) _ (by intros; (try dsimp only); omega)).trans (ic.tb i hi), ic.sh.k K (by intros; (try dsimp only); omega), fun s hs i hi => (K.l _ (by omega) (by intros; (try dsimp only); omega) _).trans (ic.sl s hs i hi), ic.sp.k K (by intros; (try dsimp only); omega), fun a j e => Nat.lt_of_lt_of_le (ic.id a j e) K.up.1⟩
  have im1 : IM P (wI h 33 5 Z) := im.kc K (by intros; (try dsimp only); omega) (by intros; (try dsimp only); omega)
  refine res_c (P2 := (ppK (bkK P.b.f P.b.n P.b.o P.b.A P.b.D P.b.W Z P.b.J) P.N P.T P.g P.im P.l P.bt P.tS P.qS P.sL P.S P.E P.SI P.B P.ID)) rfl K.F im1 (fun F1 im1 => zX9_draw X F1 im1.mb.1) (fun v2 h2 q2 => ?_)
  rw [ez, ← hZ9] at q2
  obtain ⟨rfl, rfl⟩ := q2
  have S : Sf (fun a i => a = 109 ∧ i = 3) (wI h 33 5 Z) (wI (wI h 33 5 Z) 109 3 Z) := (Sf.rf _).wI ⟨rfl, rfl⟩
  have e9 := S.2
  have eL : ∀ i, hL (wI (wI h 33 5 Z) 109 3 Z) 124 i = hL (wI h 33 5 Z) 124 i := fun _ => rfl
  refine ⟨rfl, ic1.sf pu.g6 S (by intros; (try dsimp only); omega), ?_, pu.s⟩
  have im := im1
  exact ⟨im.mb.at (fun a i z => e9 a i (by intros; (try dsimp only); omega)) (fun i hi => (e9 _ _ (by intros; (try dsimp only); omega)).trans (im.mb.2.2.1 i hi)) wI_s, fun k hk => (e9 _ _ (by intros; (try dsimp only); omega)).trans (im.fn k hk), fun k hk => (e9 _ _ (by intros; (try dsimp only); omega)).trans (im.tl k hk), (e9 _ _ (by intros; (try dsimp only); omega)).trans im.pg, fun j hj => (im.pi j hj).elim (fun h3 q => ⟨h3, q.1.go (fun a i z => e9 a i (by intros; (try dsimp only); omega)), q.2⟩), im.tb.go (fun a i z => e9 a i (by intros; (try dsimp only); omega)), im.sh.go (fun a i z => e9 a i (by intros; (try dsimp only); omega)), fun s hs i hi => (eL _).trans (im.sl s hs i hi), fun i hi => (im.sp i hi).go (fun a z => e9 a i (by intros; (try dsimp only); omega)), (e9 _ _ (by intros; (try dsimp only); omega)).trans im.bn⟩
theorem op_price (X : EX) {c : Nat} {h : HP} (I : Inv c h) (x y : Int32) : Ct X mX8_price 1 0 0 ([vR (some 32), vI x, vI y]) h (RES X c mX9_price 1 [vI x, vI y]) := by
  obtain ⟨P, ic, im, pu⟩ := I
  have bf : BkF h P.b.f P.b.o := ic.cb.1
  have b : BkD h P.b.n P.b.A P.b.D := ic.cb.2.1
  refine ct_post (zX8_price X ic.F x y) (fun v h1 q => ?_)
  skip
  by_cases z1 : x < 0 ∨ 3 ≤ x
  · rw [if_pos z1] at q
    exact res_f ic im pu (k := 0) (by decide) q (fun F1 im1 => zX9_price X F1 x y) (fun v2 h2 q2 => by
        rw [if_pos z1] at q2
        exact fq_M q2)
  · rw [if_neg z1] at q
    by_cases z2 : y < 0 ∨ 1000 ≤ y
    · rw [if_pos z2] at q
      exact res_f ic im pu (k := 0) (by decide) q (fun F1 im1 => zX9_price X F1 x y) (fun v2 h2 q2 => by
          rw [if_neg z1, if_pos z2] at q2
          exact fq_M q2)
    · rw [if_neg z2] at q
      obtain ⟨rfl, rfl⟩ := q
      skip
      have K : Kc (fun a _ => a = 36) (fun a _ => a = 0) (fun a => a = 0) h (wI h 36 x.toNatClampNeg y) := (Kc.rf ic.F).wI (by decide) rfl
      have ic1 : IC (ppK (bkK P.b.f P.b.n P.b.o P.b.A P.b.D (fun j => if j = x.toNatClampNeg then y else P.b.W j) P.b.z P.b.J) P.N P.T P.g P.im P.l P.bt P.tS P.qS P.sL P.S P.E P.SI P.B P.ID) (wI h 36 x.toNatClampNeg y) := ⟨K.F, ic.cb.at K.up (fun i hi => wI_a (by decide)) ((wI_a (by decide)).trans ic.cb.2.2.2) (fun i => wI_a (by decide)) (fun i hi => (show (if _ ∧ i = x.toNatClampNeg then y else _) = (if i = x.toNatClampNeg then y else P.b.W i) by by_cases e : i = x.toNatClampNeg; rw [if_pos ⟨rfl, e⟩, if_pos e]; rw [if_neg (fun q => e q.2), if_neg e]; exact ic.cb.2.2.1 i hi)) (fun i => rfl), ic.ow.k K (by intros; (try dsimp only); omega), fun k hk => (K.i _ (by decide) _ (by intros; (try dsimp only); omega)).trans (ic.fn k hk), fun k hk => (K.i _ (by decide) _ (by intros; (try dsimp only); omega)).trans (ic.tl k hk), (K.i _ (by decide) _ (by intros; (try dsimp only); omega)).trans ic.pg, pi.k ic.pi pu.g6 K (by intros; (try dsimp only); omega), ⟨(K.i _ (by decide) _ (by intros; (try dsimp only); omega)).trans ic.tp.1, ic.tp.2⟩, fun i hi => (K.i _ (by decide) _ (by intros; (try dsimp only); omega)).trans (ic.tb i hi), ic.sh.k K (by intros; (try dsimp only); omega), fun s hs i hi => (K.l _ (by omega) (by intros; (try dsimp only); omega) _).trans (ic.sl s hs i hi), ic.sp.k K (by intros; (try dsimp only); omega), fun a j e => Nat.lt_of_lt_of_le (ic.id a j e) K.up.1⟩
      have im1 : IM P (wI h 36 x.toNatClampNeg y) := im.kc K (by intros; (try dsimp only); omega) (by intros; (try dsimp only); omega)
      refine res_c (P2 := (ppK (bkK P.b.f P.b.n P.b.o P.b.A P.b.D (fun j => if j = x.toNatClampNeg then y else P.b.W j) P.b.z P.b.J) P.N P.T P.g P.im P.l P.bt P.tS P.qS P.sL P.S P.E P.SI P.B P.ID)) rfl K.F im1 (fun F1 im1 => zX9_price X F1 x y) (fun v2 h2 q2 => ?_)
      rw [if_neg z1, if_neg z2] at q2
      obtain ⟨rfl, rfl⟩ := q2
      have S : Sf (fun a _ => a = 117) (wI h 36 x.toNatClampNeg y) (wI (wI h 36 x.toNatClampNeg y) 117 x.toNatClampNeg y) := (Sf.rf _).wI rfl
      have e9 := S.2
      have eL : ∀ i, hL (wI (wI h 36 x.toNatClampNeg y) 117 x.toNatClampNeg y) 124 i = hL (wI h 36 x.toNatClampNeg y) 124 i := fun _ => rfl
      refine ⟨congrArg (fun j => some (vI j)) ((im.mb.2.2.1 _ (cl_lt (N := 3) (by decide) z1)).trans (ic.cb.2.2.1 _ (cl_lt (N := 3) (by decide) z1)).symm), ic1.sf pu.g6 S (by intros; (try dsimp only); omega), ?_, pu.s⟩
      have im := im1
      exact ⟨im.mb.at (fun a i z => e9 a i (by intros; (try dsimp only); omega)) (fun i hi => (show (if _ ∧ i = x.toNatClampNeg then y else _) = (if i = x.toNatClampNeg then y else P.b.W i) by by_cases e : i = x.toNatClampNeg; rw [if_pos ⟨rfl, e⟩, if_pos e]; rw [if_neg (fun q => e q.2), if_neg e]; exact im.mb.2.2.1 i hi)) ((e9 _ _ (by intros; (try dsimp only); omega)).trans im.mb.2.2.2.1), fun k hk => (e9 _ _ (by intros; (try dsimp only); omega)).trans (im.fn k hk), fun k hk => (e9 _ _ (by intros; (try dsimp only); omega)).trans (im.tl k hk), (e9 _ _ (by intros; (try dsimp only); omega)).trans im.pg, fun j hj => (im.pi j hj).elim (fun h3 q => ⟨h3, q.1.go (fun a i z => e9 a i (by intros; (try dsimp only); omega)), q.2⟩), im.tb.go (fun a i z => e9 a i (by intros; (try dsimp only); omega)), im.sh.go (fun a i z => e9 a i (by intros; (try dsimp only); omega)), fun s hs i hi => (eL _).trans (im.sl s hs i hi), fun i hi => (im.sp i hi).go (fun a z => e9 a i (by intros; (try dsimp only); omega)), (e9 _ _ (by intros; (try dsimp only); omega)).trans im.bn⟩
theorem op_wipe (X : EX) {c : Nat} {h : HP} (I : Inv c h)  : Ct X mX8_wipe 0 0 0 ([vR (some 32)]) h (RES X c mX9_wipe 0 []) := by
  obtain ⟨P, ic, im, pu⟩ := I
  have bf : BkF h P.b.f P.b.o := ic.cb.1
  have b : BkD h P.b.n P.b.A P.b.D := ic.cb.2.1
  refine ct_post (zX8_wipe X ic.F) (fun v h1 q => ?_)
  obtain ⟨rfl, rfl⟩ := q
  skip
  have K : Kc (fun a i => a = 41 ∧ i = 1) (fun a _ => a = 0) (fun a => a = 0) h (wI h 41 1 0) := (Kc.rf ic.F).wI (by decide) ⟨rfl, rfl⟩
  have ic1 : IC (ppK P.b P.N P.T P.g P.im 0 P.bt P.tS P.qS P.sL P.S P.E P.SI P.B P.ID) (wI h 41 1 0) := ⟨K.F, ic.cb.k K (by decide) (by intros; (try dsimp only); omega), ic.ow.k K (by intros; (try dsimp only); omega), fun k hk => (K.i _ (by decide) _ (by intros; (try dsimp only); omega)).trans (ic.fn k hk), fun k hk => (K.i _ (by decide) _ (by intros; (try dsimp only); omega)).trans (ic.tl k hk), (K.i _ (by decide) _ (by intros; (try dsimp only); omega)).trans ic.pg, pi.k ic.pi pu.g6 K (by intros; (try dsimp only); omega), ⟨wI_s, Nat.zero_le _⟩, fun i hi => absurd hi (Nat.not_lt_zero _), ic.sh.k K (by intros; (try dsimp only); omega), fun s hs i hi => (K.l _ (by omega) (by intros; (try dsimp only); omega) _).trans (ic.sl s hs i hi), ic.sp.k K (by intros; (try dsimp only); omega), fun a j e => Nat.lt_of_lt_of_le (ic.id a j e) K.up.1⟩
  have im1 : IM P (wI h 41 1 0) := im.kc K (by intros; (try dsimp only); omega) (by intros; (try dsimp only); omega)
  refine res_c (P2 := (ppK P.b P.N P.T P.g P.im 0 P.bt P.tS P.qS P.sL P.S P.E P.SI P.B P.ID)) rfl K.F im1 (fun F1 im1 => zX9_wipe X F1) (fun v2 h2 q2 => ?_)
  obtain ⟨rfl, rfl⟩ := q2
  have S : Sf (fun a i => a = 109 ∧ i = 14) (wI h 41 1 0) (wI (wI h 41 1 0) 109 14 0) := (Sf.rf _).wI ⟨rfl, rfl⟩
  have e9 := S.2
  have eL : ∀ i, hL (wI (wI h 41 1 0) 109 14 0) 124 i = hL (wI h 41 1 0) 124 i := fun _ => rfl
  refine ⟨congrArg (fun j => some (vI j)) (im.tb.1.trans ic.tp.1.symm), ic1.sf pu.g6 S (by intros; (try dsimp only); omega), ?_, pu.s⟩
  have im := im1
  exact ⟨im.mb.go (fun a i z => e9 a i (by intros; (try dsimp only); omega)), fun k hk => (e9 _ _ (by intros; (try dsimp only); omega)).trans (im.fn k hk), fun k hk => (e9 _ _ (by intros; (try dsimp only); omega)).trans (im.tl k hk), (e9 _ _ (by intros; (try dsimp only); omega)).trans im.pg, fun j hj => (im.pi j hj).elim (fun h3 q => ⟨h3, q.1.go (fun a i z => e9 a i (by intros; (try dsimp only); omega)), q.2⟩), ⟨wI_s, Nat.zero_le _, fun i hi => absurd hi (Nat.not_lt_zero _), fun i hi => (e9 _ _ (by intros; (try dsimp only); omega)).trans (im.tb.2.2.2 i hi)⟩, im.sh.go (fun a i z => e9 a i (by intros; (try dsimp only); omega)), fun s hs i hi => (eL _).trans (im.sl s hs i hi), fun i hi => (im.sp i hi).go (fun a z => e9 a i (by intros; (try dsimp only); omega)), (e9 _ _ (by intros; (try dsimp only); omega)).trans im.bn⟩
theorem op_hold (X : EX) {c : Nat} {h : HP} (I : Inv c h) (x y : Int32) : Ct X mX8_hold 2 0 0 ([vR (some 32), vI x, vI y]) h (RES X c mX9_hold 2 [vI x, vI y]) := by
  obtain ⟨P, ic, im, pu⟩ := I
  have bf : BkF h P.b.f P.b.o := ic.cb.1
  have b : BkD h P.b.n P.b.A P.b.D := ic.cb.2.1
  refine ct_post (zX8_hold X ic.F b x y) (fun v h1 q => ?_)
  skip
  by_cases z1 : x < 0 ∨ 4 ≤ x
  · rw [if_pos z1] at q
    exact res_f ic im pu (k := 0) (by decide) q (fun F1 im1 => zX9_hold X F1 im1.mb.2.1 x y) (fun v2 h2 q2 => by
        rw [if_pos z1] at q2
        exact fq_M q2)
  · rw [if_neg z1] at q
    by_cases z2 : y < 0 ∨ nI P.b.n ≤ y
    · rw [if_pos z2] at q
      exact res_f ic im pu (k := 0) (by decide) q (fun F1 im1 => zX9_hold X F1 im1.mb.2.1 x y) (fun v2 h2 q2 => by
          rw [if_neg z1, if_pos z2] at q2
          exact fq_M q2)
    · rw [if_neg z2] at q
      obtain ⟨rfl, rfl⟩ := q
      have hy : y.toNatClampNeg < P.b.n := cl_lt (by have := b.2.1; omega) z2
      have K : Kc (fun a _ => a = 0) (fun a _ => a = 74) (fun a => a = 0) h (wR h 74 x.toNatClampNeg (some (P.b.A y.toNatClampNeg))) := (Kc.rf ic.F).wR (by decide) (Fx.wR ic.F (by decide)) rfl
      have ic1 : IC (ppK P.b P.N P.T P.g P.im P.l P.bt P.tS P.qS P.sL (fun i => if i = x.toNatClampNeg then some (P.b.A y.toNatClampNeg) else P.S i) (fun i => if i = x.toNatClampNeg then P.b.D y.toNatClampNeg else P.E i) (fun i => if i = x.toNatClampNeg then P.b.J y.toNatClampNeg else P.SI i) P.B P.ID) (wR h 74 x.toNatClampNeg (some (P.b.A y.toNatClampNeg))) := ⟨K.F, ic.cb.k K (by decide) (by intros; (try dsimp only); omega), ic.ow.k K (by intros; (try dsimp only); omega), fun k hk => (K.i _ (by decide) _ (by intros; (try dsimp only); omega)).trans (ic.fn k hk), fun k hk => (K.i _ (by decide) _ (by intros; (try dsimp only); omega)).trans (ic.tl k hk), (K.i _ (by decide) _ (by intros; (try dsimp only); omega)).trans ic.pg, pi.k ic.pi pu.g6 K (by intros; (try dsimp only); omega), ⟨(K.i _ (by decide) _ (by intros; (try dsimp only); omega)).trans ic.tp.1, ic.tp.2⟩, fun i hi => (K.i _ (by decide) _ (by intros; (try dsimp only); omega)).trans (ic.tb i hi), ic.sh.k K (by intros; (try dsimp only); omega), fun s hs i hi => (K.l _ (by omega) (by intros; (try dsimp only); omega) _).trans (ic.sl s hs i hi), fun i hi => by
            show (if 74 = 74 ∧ i = x.toNatClampNeg then some (P.b.A y.toNatClampNeg) else hR h 74 i) = (if i = x.toNatClampNeg then some (P.b.A y.toNatClampNeg) else P.S i) ∧ ∀ a, (if i = x.toNatClampNeg then some (P.b.A y.toNatClampNeg) else P.S i) = some a → DealC _ a (if i = x.toNatClampNeg then P.b.D y.toNatClampNeg else P.E i)
            by_cases e : i = x.toNatClampNeg
            · rw [if_pos ⟨rfl, e⟩, if_pos e, if_pos e]
              exact ⟨rfl, fun a ha => by injection ha with ha; rw [← ha]; exact (b.2.2 _ hy).2.up K.up⟩
            · rw [if_neg (fun q => e q.2), if_neg e, if_neg e]
              exact ⟨(ic.sp i hi).1, fun a ha => ((ic.sp i hi).2 a ha).up K.up⟩, fun a j e => Nat.lt_of_lt_of_le (ic.id a j e) K.up.1⟩
      have im1 : IM P (wR h 74 x.toNatClampNeg (some (P.b.A y.toNatClampNeg))) := im.kc K (by intros; (try dsimp only); omega) (by intros; (try dsimp only); omega)
      refine res_c (P2 := (ppK P.b P.N P.T P.g P.im P.l P.bt P.tS P.qS P.sL (fun i => if i = x.toNatClampNeg then some (P.b.A y.toNatClampNeg) else P.S i) (fun i => if i = x.toNatClampNeg then P.b.D y.toNatClampNeg else P.E i) (fun i => if i = x.toNatClampNeg then P.b.J y.toNatClampNeg else P.SI i) P.B P.ID)) rfl K.F im1 (fun F1 im1 => zX9_hold X F1 im1.mb.2.1 x y) (fun v2 h2 q2 => ?_)
      rw [if_neg z1, if_neg z2] at q2
      obtain ⟨rfl, rfl⟩ := q2
      have S : Sf (fun a _ => a = 128 ∨ a = 129 ∨ a = 130) (wR h 74 x.toNatClampNeg (some (P.b.A y.toNatClampNeg))) (wI (wI (wI (wR h 74 x.toNatClampNeg (some (P.b.A y.toNatClampNeg))) 128 x.toNatClampNeg 1) 129 x.toNatClampNeg (hI (wR h 74 x.toNatClampNeg (some (P.b.A y.toNatClampNeg))) 112 (8 * y.toNatClampNeg + 7))) 130 x.toNatClampNeg (nI (dK (P.b.D y.toNatClampNeg)))) := (((Sf.rf _).wI (Or.inl rfl)).wI (Or.inr (Or.inl rfl))).wI (Or.inr (Or.inr rfl))
      have e9 := S.2
      have eL : ∀ i, hL (wI (wI (wI (wR h 74 x.toNatClampNeg (some (P.b.A y.toNatClampNeg))) 128 x.toNatClampNeg 1) 129 x.toNatClampNeg (hI (wR h 74 x.toNatClampNeg (some (P.b.A y.toNatClampNeg))) 112 (8 * y.toNatClampNeg + 7))) 130 x.toNatClampNeg (nI (dK (P.b.D y.toNatClampNeg)))) 124 i = hL (wR h 74 x.toNatClampNeg (some (P.b.A y.toNatClampNeg))) 124 i := fun _ => rfl
      refine ⟨rfl, ic1.sf pu.g6 S (by intros; (try dsimp only); omega), ?_, ⟨pu.g6, pu.ok, pu.oki, pu.jb, pu.ji, fun i hi a ha => by
          have ha : (if i = x.toNatClampNeg then some (P.b.A y.toNatClampNeg) else P.S i) = some a := ha
          show P.ID a = some (if i = x.toNatClampNeg then P.b.J y.toNatClampNeg else P.SI i)
          by_cases e : i = x.toNatClampNeg
          · rw [if_pos e] at ha ⊢
            injection ha with ha
            rw [← ha]
            exact pu.jb _ hy
          · rw [if_neg e] at ha ⊢
            exact pu.js i hi a ha, pu.inj, pu.lt, pu.aj, pu.aji, by have := pu.bc; show P.B ≤ _; omega⟩⟩
      have im := im1
      exact ⟨im.mb.go (fun a i z => e9 a i (by intros; (try dsimp only); omega)), fun k hk => (e9 _ _ (by intros; (try dsimp only); omega)).trans (im.fn k hk), fun k hk => (e9 _ _ (by intros; (try dsimp only); omega)).trans (im.tl k hk), (e9 _ _ (by intros; (try dsimp only); omega)).trans im.pg, fun j hj => (im.pi j hj).elim (fun h3 q => ⟨h3, q.1.go (fun a i z => e9 a i (by intros; (try dsimp only); omega)), q.2⟩), im.tb.go (fun a i z => e9 a i (by intros; (try dsimp only); omega)), im.sh.go (fun a i z => e9 a i (by intros; (try dsimp only); omega)), fun s hs i hi => (eL _).trans (im.sl s hs i hi), fun i hi => by
        have q9 := im.sp i hi
        have e28 : hI (wI (wI (wI (wR h 74 x.toNatClampNeg (some (P.b.A y.toNatClampNeg))) 128 x.toNatClampNeg 1) 129 x.toNatClampNeg (hI (wR h 74 x.toNatClampNeg (some (P.b.A y.toNatClampNeg))) 112 (8 * y.toNatClampNeg + 7))) 130 x.toNatClampNeg (nI (dK (P.b.D y.toNatClampNeg)))) 128 i = if i = x.toNatClampNeg then 1 else hI (wR h 74 x.toNatClampNeg (some (P.b.A y.toNatClampNeg))) 128 i := by
          by_cases e : i = x.toNatClampNeg
          · rw [if_pos e, e]; exact (wI_a (by decide)).trans ((wI_a (by decide)).trans wI_s)
          · rw [if_neg e]; exact (wI_a (by decide)).trans ((wI_a (by decide)).trans (wI_i e))
        have e29 : hI (wI (wI (wI (wR h 74 x.toNatClampNeg (some (P.b.A y.toNatClampNeg))) 128 x.toNatClampNeg 1) 129 x.toNatClampNeg (hI (wR h 74 x.toNatClampNeg (some (P.b.A y.toNatClampNeg))) 112 (8 * y.toNatClampNeg + 7))) 130 x.toNatClampNeg (nI (dK (P.b.D y.toNatClampNeg)))) 129 i = if i = x.toNatClampNeg then nI (P.b.J y.toNatClampNeg) else hI (wR h 74 x.toNatClampNeg (some (P.b.A y.toNatClampNeg))) 129 i := by
          by_cases e : i = x.toNatClampNeg
          · rw [if_pos e, e]; exact (wI_a (by decide)).trans (wI_s.trans (im.mb.2.2.2.2 _ hy))
          · rw [if_neg e]; exact (wI_a (by decide)).trans ((wI_i e).trans (wI_a (by decide)))
        have e30 : hI (wI (wI (wI (wR h 74 x.toNatClampNeg (some (P.b.A y.toNatClampNeg))) 128 x.toNatClampNeg 1) 129 x.toNatClampNeg (hI (wR h 74 x.toNatClampNeg (some (P.b.A y.toNatClampNeg))) 112 (8 * y.toNatClampNeg + 7))) 130 x.toNatClampNeg (nI (dK (P.b.D y.toNatClampNeg)))) 130 i = if i = x.toNatClampNeg then nI (dK (P.b.D y.toNatClampNeg)) else hI (wR h 74 x.toNatClampNeg (some (P.b.A y.toNatClampNeg))) 130 i := by
          by_cases e : i = x.toNatClampNeg
          · rw [if_pos e, e]; exact wI_s
          · rw [if_neg e]; exact (wI_i e).trans ((wI_a (by decide)).trans (wI_a (by decide)))
        show SpM (wI (wI (wI (wR h 74 x.toNatClampNeg (some (P.b.A y.toNatClampNeg))) 128 x.toNatClampNeg 1) 129 x.toNatClampNeg (hI (wR h 74 x.toNatClampNeg (some (P.b.A y.toNatClampNeg))) 112 (8 * y.toNatClampNeg + 7))) 130 x.toNatClampNeg (nI (dK (P.b.D y.toNatClampNeg)))) i (if i = x.toNatClampNeg then some (P.b.A y.toNatClampNeg) else P.S i) (if i = x.toNatClampNeg then P.b.D y.toNatClampNeg else P.E i) (if i = x.toNatClampNeg then P.b.J y.toNatClampNeg else P.SI i)
        by_cases e : i = x.toNatClampNeg
        · rw [if_pos e, if_pos e, if_pos e]
          rw [if_pos e] at e28 e29 e30
          exact ⟨e28, e30, e29⟩
        · rw [if_neg e, if_neg e, if_neg e]
          rw [if_neg e] at e28 e29 e30
          unfold SpM at q9 ⊢
          rcases eS : P.S i with _ | a
          · rw [eS] at q9
            exact e28.trans q9
          · rw [eS] at q9
            exact ⟨e28.trans q9.1, e30.trans q9.2.1, e29.trans q9.2.2⟩, (e9 _ _ (by intros; (try dsimp only); omega)).trans im.bn⟩
theorem op_write (X : EX) {c : Nat} {h : HP} (I : Inv c h) (x y : Int32) (v9 : Int64) : Ct X mX8_write 1 0 0 ([vR (some 32), vI x, vI y, vL v9]) h (RES X c mX9_write 2 [vI x, vI y, vL v9]) := by
  obtain ⟨P, ic, im, pu⟩ := I
  have bf : BkF h P.b.f P.b.o := ic.cb.1
  have b : BkD h P.b.n P.b.A P.b.D := ic.cb.2.1
  refine ct_post (zX8_write X ic.F ic.sh x y v9) (fun v h1 q => ?_)
  by_cases z1 : x < 0 ∨ 4 ≤ x
  · rw [if_pos z1] at q
    exact res_f ic im pu (k := 0) (by decide) q (fun F1 im1 => zX9_write X F1 im1.sh x y v9) (fun v2 h2 q2 => by
      rw [if_pos z1] at q2
      exact fq_M q2)
  · rw [if_neg z1] at q
    by_cases z2 : P.tS x.toNatClampNeg = -1
    · rw [if_pos z2] at q
      exact res_f ic im pu (k := 5) (by decide) q (fun F1 im1 => zX9_write X F1 im1.sh x y v9) (fun v2 h2 q2 => by
        rw [if_neg z1, if_pos z2] at q2
        exact fq_M q2)
    · rw [if_neg z2] at q
      by_cases z3 : y < 0 ∨ nI (P.qS x.toNatClampNeg) ≤ y
      · rw [if_pos z3] at q
        exact res_f ic im pu (k := 0) (by decide) q (fun F1 im1 => zX9_write X F1 im1.sh x y v9) (fun v2 h2 q2 => by
          rw [if_neg z1, if_neg z2, if_pos z3] at q2
          exact fq_M q2)
      · rw [if_neg z3] at q
        obtain ⟨rfl, rfl⟩ := q
        have hx4 : x.toNatClampNeg < 4 := cl_lt (N := 4) (by decide) z1
        have hq40 := (ic.sh _ hx4).2.2.2
        have hyq : y.toNatClampNeg < P.qS x.toNatClampNeg := cl_lt (by omega) z3
        have K : Kc (fun a _ => a = 0) (fun a _ => a = 0) (fun a => a = 102 + 2 * x.toNatClampNeg) h (wL h (102 + 2 * x.toNatClampNeg) y.toNatClampNeg (pvR (P.tS x.toNatClampNeg) v9)) := (Kc.rf ic.F).wL (by omega) rfl
        have ic1 : IC (ppK P.b P.N P.T P.g P.im P.l P.bt P.tS P.qS (fun s i => if s = x.toNatClampNeg ∧ i = y.toNatClampNeg then pvR (P.tS x.toNatClampNeg) v9 else P.sL s i) P.S P.E P.SI P.B P.ID) (wL h (102 + 2 * x.toNatClampNeg) y.toNatClampNeg (pvR (P.tS x.toNatClampNeg) v9)) := ⟨K.F, ic.cb.k K (by decide) (by intros; (try dsimp only); omega), ic.ow.k K (by intros; (try dsimp only); omega), fun k hk => (K.i _ (by decide) _ (by intros; (try dsimp only); omega)).trans (ic.fn k hk), fun k hk => (K.i _ (by decide) _ (by intros; (try dsimp only); omega)).trans (ic.tl k hk), (K.i _ (by decide) _ (by intros; (try dsimp only); omega)).trans ic.pg, pi.k ic.pi pu.g6 K (by intros; (try dsimp only); omega), ⟨(K.i _ (by decide) _ (by intros; (try dsimp only); omega)).trans ic.tp.1, ic.tp.2⟩, fun i hi => (K.i _ (by decide) _ (by intros; (try dsimp only); omega)).trans (ic.tb i hi), ic.sh.k K (by intros; (try dsimp only); omega), fun s hs i hi => (show (if 102 + 2 * s = 102 + 2 * x.toNatClampNeg ∧ i = y.toNatClampNeg then pvR (P.tS x.toNatClampNeg) v9 else _) = (if s = x.toNatClampNeg ∧ i = y.toNatClampNeg then pvR (P.tS x.toNatClampNeg) v9 else P.sL s i) by have hi9 : i < P.qS s := hi; have := (ic.sh s hs).2.2.2; by_cases e : s = x.toNatClampNeg ∧ i = y.toNatClampNeg; rw [if_pos (by omega), if_pos e]; rw [if_neg (fun q => e (by omega)), if_neg e]; exact ic.sl s hs i hi), ic.sp.k K (by intros; (try dsimp only); omega), fun a j e => Nat.lt_of_lt_of_le (ic.id a j e) K.up.1⟩
        have im1 : IM P (wL h (102 + 2 * x.toNatClampNeg) y.toNatClampNeg (pvR (P.tS x.toNatClampNeg) v9)) := im.kc K (by intros; (try dsimp only); omega) (by intros; (try dsimp only); omega)
        refine res_c (P2 := (ppK P.b P.N P.T P.g P.im P.l P.bt P.tS P.qS (fun s i => if s = x.toNatClampNeg ∧ i = y.toNatClampNeg then pvR (P.tS x.toNatClampNeg) v9 else P.sL s i) P.S P.E P.SI P.B P.ID)) rfl K.F im1 (fun F1 im1 => zX9_write X F1 im1.sh x y v9) (fun v2 h2 q2 => ?_)
        rw [if_neg z1, if_neg z2, if_neg z3] at q2
        obtain ⟨rfl, rfl⟩ := q2
        have e9 : ∀ a i, ¬ (fun a _ => a = 999) a i → hI (wL (wL h (102 + 2 * x.toNatClampNeg) y.toNatClampNeg (pvR (P.tS x.toNatClampNeg) v9)) 124 (40 * x.toNatClampNeg + y.toNatClampNeg) (pvR (P.tS x.toNatClampNeg) v9)) a i = hI (wL h (102 + 2 * x.toNatClampNeg) y.toNatClampNeg (pvR (P.tS x.toNatClampNeg) v9)) a i := fun _ _ _ => rfl
        refine ⟨rfl, ic1.fr pu.g6 rfl (fun _ _ _ => rfl) (fun a z i => if_neg (fun y => z (by omega))), ?_, pu.s⟩
        have im := im1
        exact ⟨im.mb.go (fun a i z => e9 a i (by intros; (try dsimp only); omega)), fun k hk => (e9 _ _ (by intros; (try dsimp only); omega)).trans (im.fn k hk), fun k hk => (e9 _ _ (by intros; (try dsimp only); omega)).trans (im.tl k hk), (e9 _ _ (by intros; (try dsimp only); omega)).trans im.pg, fun j hj => (im.pi j hj).elim (fun h3 q => ⟨h3, q.1.go (fun a i z => e9 a i (by intros; (try dsimp only); omega)), q.2⟩), im.tb.go (fun a i z => e9 a i (by intros; (try dsimp only); omega)), im.sh.go (fun a i z => e9 a i (by intros; (try dsimp only); omega)), fun s hs i hi => (show (if 124 = 124 ∧ 40 * s + i = 40 * x.toNatClampNeg + y.toNatClampNeg then pvR (P.tS x.toNatClampNeg) v9 else _) = (if s = x.toNatClampNeg ∧ i = y.toNatClampNeg then pvR (P.tS x.toNatClampNeg) v9 else P.sL s i) by have hi9 : i < P.qS s := hi; have := (ic.sh s hs).2.2.2; by_cases e : s = x.toNatClampNeg ∧ i = y.toNatClampNeg; rw [if_pos (by omega), if_pos e]; rw [if_neg (fun q => e (by omega)), if_neg e]; exact im.sl s hs i hi), fun i hi => (im.sp i hi).go (fun a z => e9 a i (by intros; (try dsimp only); omega)), (e9 _ _ (by intros; (try dsimp only); omega)).trans im.bn⟩
