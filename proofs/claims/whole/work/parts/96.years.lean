/-! calls that change YEARS, deals left, sheets, THE TAPE (written by wip/whole/g96.py) -/
theorem Kc.rw {M MR : Nat → Nat → Prop} {ML : Nat → Prop} {h h2 : HP} (k : Kc M MR ML h h2) {r : Nat → Int32} (hm : ∀ j, M 39 j) : Kc M MR ML h (rwR h2 r) := ⟨k.up.tr Up.rw, k.F, fun x hx i z => (rwR_I (fun e => z (by rw [e]; exact hm i))).trans (k.i x hx i z), k.r, k.l⟩
theorem fo_cg {o o2 : Nat → Nat} : ∀ {f : Nat}, (∀ y, y < f → o2 y = o y) → fo o2 f = fo o f := by
  intro f
  induction f with
  | zero => intro _; rfl
  | succ f ih =>
    intro h
    unfold fo
    rw [ih (fun y hy => h y (by omega)), h f (by omega)]
theorem om_st : ∀ f, f < 4 → om (f + 1) = stp f ∧ om f = 6 * stp f := by decide
theorem fall_in {o : Nat → Nat} {f x : Nat} (hf : f < 4) (hx : x < 6) {s : Nat} (h1 : fo (fun y => if y = f then x else o y) (f + 1) ≤ s) (h2 : s < fo (fun y => if y = f then x else o y) (f + 1) + om (f + 1)) : fo o f ≤ s ∧ s < fo o f + om f := by
  have e : fo (fun y => if y = f then x else o y) (f + 1) = fo o f + x * stp f := by
    show fo (fun y => if y = f then x else o y) f + (if f = f then x else o f) * stp f = _
    rw [if_pos rfl, fo_cg (o := o) (fun y hy => if_neg (by omega))]
  obtain ⟨a, b⟩ := om_st f hf
  rw [e, a] at h2
  rw [e] at h1
  have : x * stp f ≤ 5 * stp f := Nat.mul_le_mul_right _ (by omega)
  omega
theorem op_fall (X : EX) {c : Nat} {h : HP} (I : Inv c h) (x : Int32) : Ct X mX8_fall 1 0 0 ([vR (some 32), vI x]) h (RES X c mX9_fall 1 [vI x]) := by
  obtain ⟨P, ic, im, pu⟩ := I
  have bf : BkF h P.b.f P.b.o := ic.cb.1
  have b : BkD h P.b.n P.b.A P.b.D := ic.cb.2.1
  refine ct_post (zX8_fall X ic.F bf x) (fun v h1 q => ?_)
  skip
  by_cases z1 : x < 0 ∨ 6 ≤ x
  · rw [if_pos z1] at q
    exact res_f ic im pu (k := 0) (by decide) q (fun F1 im1 => zX9_fall X F1 im1.mb.1 x) (fun v2 h2 q2 => by
        rw [if_pos z1] at q2
        exact fq_M q2)
  · rw [if_neg z1] at q
    by_cases z2 : 4 ≤ P.b.f
    · rw [if_pos z2] at q
      exact res_f ic im pu (k := 3) (by decide) q (fun F1 im1 => zX9_fall X F1 im1.mb.1 x) (fun v2 h2 q2 => by
          rw [if_neg z1, if_pos z2] at q2
          exact fq_M q2)
    · rw [if_neg z2] at q
      obtain ⟨rfl, rfl⟩ := q
      have hf4 : P.b.f < 4 := by omega
      have hx6 : x.toNatClampNeg < 6 := cl_lt (N := 6) (by decide) z1
      have hxx : x = nI x.toNatClampNeg := by obtain ⟨j, hj, rfl⟩ := ou_of 6 (by decide) z1; rw [cl (by omega)]
      have K : Kc (fun a i => (a = 33 ∧ i = 3) ∨ a = 35) (fun a _ => a = 0) (fun a => a = 0) h (wI (wI h 35 P.b.f x) 33 3 (nI (P.b.f + 1))) := ((Kc.rf ic.F).wI (by decide) (Or.inr rfl)).wI (by decide) (Or.inl ⟨rfl, rfl⟩)
      have ic1 : IC (ppK (bkK (P.b.f + 1) P.b.n (fun y => if y = P.b.f then x.toNatClampNeg else P.b.o y) P.b.A P.b.D P.b.W P.b.z P.b.J) P.N P.T P.g P.im P.l P.bt P.tS P.qS P.sL P.S P.E P.SI P.B P.ID) (wI (wI h 35 P.b.f x) 33 3 (nI (P.b.f + 1))) := ⟨K.F, ⟨⟨wI_s, by show P.b.f + 1 ≤ 4; omega, fun y hy => (show _ = nI (if y = P.b.f then x.toNatClampNeg else P.b.o y) by by_cases e : y = P.b.f; rw [if_pos e, e]; exact ((wI_a (by decide)).trans (wI_s.trans hxx)); rw [if_neg e]; exact (wI_a (by decide)).trans ((wI_i e).trans (bf.2.2.1 y (by have hy : y < P.b.f + 1 := hy; omega)))), fun y hy => (show (if y = P.b.f then x.toNatClampNeg else P.b.o y) < 6 by by_cases e : y = P.b.f; rw [if_pos e]; exact hx6; rw [if_neg e]; exact bf.2.2.2 y (by have hy : y < P.b.f + 1 := hy; omega))⟩, ⟨(wI_i (by decide)).trans ((wI_a (by decide)).trans b.1), b.2.1, fun k hk => ⟨(b.2.2 k hk).1, (b.2.2 k hk).2.up K.up⟩⟩, fun i hi => (wI_a (by decide)).trans ((wI_a (by decide)).trans (ic.cb.2.2.1 i hi)), (wI_i (by decide)).trans ((wI_a (by decide)).trans ic.cb.2.2.2)⟩, fun s h1 h2 p hp => (show dgt (hI (wI (wI h 35 P.b.f x) 33 3 (nI (P.b.f + 1))) 39 s) p = _ by rw [show hI (wI (wI h 35 P.b.f x) 33 3 (nI (P.b.f + 1))) 39 s = hI h 39 s from (wI_a (by decide)).trans (wI_a (by decide))]; exact ic.ow s (fall_in hf4 hx6 h1 h2).1 (fall_in hf4 hx6 h1 h2).2 p hp), fun k hk => (K.i _ (by decide) _ (by intros; (try dsimp only); omega)).trans (ic.fn k hk), fun k hk => (K.i _ (by decide) _ (by intros; (try dsimp only); omega)).trans (ic.tl k hk), (K.i _ (by decide) _ (by intros; (try dsimp only); omega)).trans ic.pg, pi.k ic.pi pu.g6 K (by intros; (try dsimp only); omega), ⟨(K.i _ (by decide) _ (by intros; (try dsimp only); omega)).trans ic.tp.1, ic.tp.2⟩, fun i hi => (K.i _ (by decide) _ (by intros; (try dsimp only); omega)).trans (ic.tb i hi), ic.sh.k K (by intros; (try dsimp only); omega), fun s hs i hi => (K.l _ (by omega) (by intros; (try dsimp only); omega) _).trans (ic.sl s hs i hi), ic.sp.k K (by intros; (try dsimp only); omega), fun a j e => Nat.lt_of_lt_of_le (ic.id a j e) K.up.1⟩
      have im1 : IM P (wI (wI h 35 P.b.f x) 33 3 (nI (P.b.f + 1))) := im.kc K (by intros; (try dsimp only); omega) (by intros; (try dsimp only); omega)
      refine res_c (P2 := (ppK (bkK (P.b.f + 1) P.b.n (fun y => if y = P.b.f then x.toNatClampNeg else P.b.o y) P.b.A P.b.D P.b.W P.b.z P.b.J) P.N P.T P.g P.im P.l P.bt P.tS P.qS P.sL P.S P.E P.SI P.B P.ID)) rfl K.F im1 (fun F1 im1 => zX9_fall X F1 im1.mb.1 x) (fun v2 h2 q2 => ?_)
      rw [if_neg z1, if_neg z2] at q2
      obtain ⟨rfl, rfl⟩ := q2
      have S : Sf (fun a i => (a = 109 ∧ i = 1) ∨ a = 111) (wI (wI h 35 P.b.f x) 33 3 (nI (P.b.f + 1))) (wI (wI (wI (wI h 35 P.b.f x) 33 3 (nI (P.b.f + 1))) 111 P.b.f x) 109 1 (nI (P.b.f + 1))) := ((Sf.rf _).wI (Or.inr rfl)).wI (Or.inl ⟨rfl, rfl⟩)
      have e9 := S.2
      have eL : ∀ i, hL (wI (wI (wI (wI h 35 P.b.f x) 33 3 (nI (P.b.f + 1))) 111 P.b.f x) 109 1 (nI (P.b.f + 1))) 124 i = hL (wI (wI h 35 P.b.f x) 33 3 (nI (P.b.f + 1))) 124 i := fun _ => rfl
      refine ⟨rfl, ic1.sf pu.g6 S (by intros; (try dsimp only); omega), ?_, ⟨pu.g6, fun s h1 h2 => pu.ok s (fall_in hf4 hx6 h1 h2).1 (fall_in hf4 hx6 h1 h2).2, pu.oki, pu.jb, pu.ji, pu.js, pu.inj, pu.lt, pu.aj, pu.aji, by have := pu.bc; show P.B ≤ _; omega⟩⟩
      have im := im1
      exact ⟨⟨⟨wI_s, by show P.b.f + 1 ≤ 4; omega, fun y hy => (show _ = nI (if y = P.b.f then x.toNatClampNeg else P.b.o y) by by_cases e : y = P.b.f; rw [if_pos e, e]; exact ((wI_a (by decide)).trans (wI_s.trans hxx)); rw [if_neg e]; exact (wI_a (by decide)).trans ((wI_i e).trans (im.mb.1.2.2.1 y (by have hy : y < P.b.f + 1 := hy; omega)))), fun y hy => (show (if y = P.b.f then x.toNatClampNeg else P.b.o y) < 6 by by_cases e : y = P.b.f; rw [if_pos e]; exact hx6; rw [if_neg e]; exact bf.2.2.2 y (by have hy : y < P.b.f + 1 := hy; omega))⟩, im.mb.2.1.keep ((e9 _ _ (by intros; (try dsimp only); omega)).trans im.mb.2.1.1) (fun i _ => e9 _ _ (by intros; (try dsimp only); omega)) (fun i _ => e9 _ _ (by intros; (try dsimp only); omega)), fun i hi => (e9 _ _ (by intros; (try dsimp only); omega)).trans (im.mb.2.2.1 i hi), (e9 _ _ (by intros; (try dsimp only); omega)).trans im.mb.2.2.2.1, fun k hk => (e9 _ _ (by intros; (try dsimp only); omega)).trans (im.mb.2.2.2.2 k hk)⟩, fun k hk => (e9 _ _ (by intros; (try dsimp only); omega)).trans (im.fn k hk), fun k hk => (e9 _ _ (by intros; (try dsimp only); omega)).trans (im.tl k hk), (e9 _ _ (by intros; (try dsimp only); omega)).trans im.pg, fun j hj => (im.pi j hj).elim (fun h3 q => ⟨h3, q.1.go (fun a i z => e9 a i (by intros; (try dsimp only); omega)), q.2⟩), im.tb.go (fun a i z => e9 a i (by intros; (try dsimp only); omega)), im.sh.go (fun a i z => e9 a i (by intros; (try dsimp only); omega)), fun s hs i hi => (eL _).trans (im.sl s hs i hi), fun i hi => (im.sp i hi).go (fun a z => e9 a i (by intros; (try dsimp only); omega)), (e9 _ _ (by intros; (try dsimp only); omega)).trans im.bn⟩
theorem op_drop (X : EX) {c : Nat} {h : HP} (I : Inv c h)  : Ct X mX8_drop 4 0 0 ([vR (some 32)]) h (RES X c mX9_drop 1 []) := by
  obtain ⟨P, ic, im, pu⟩ := I
  have bf : BkF h P.b.f P.b.o := ic.cb.1
  have b : BkD h P.b.n P.b.A P.b.D := ic.cb.2.1
  refine ct_post (zX8_drop X ic.F bf b) (fun v h1 q => ?_)
  skip
  by_cases z1 : P.b.n = 0
  · rw [if_pos z1] at q
    exact res_f ic im pu (k := 3) (by decide) q (fun F1 im1 => zX9_drop X F1 im1.mb.2.1) (fun v2 h2 q2 => by
        rw [if_pos z1] at q2
        exact fq_M q2)
  · rw [if_neg z1] at q
    obtain ⟨rfl, r, rfl, hr⟩ := q
    skip
    have K : Kc (fun a i => (a = 33 ∧ i = 1) ∨ a = 39) (fun a _ => a = 0) (fun a => a = 0) h (rwR (wI h 33 1 (nI (P.b.n - 1))) r) := ((Kc.rf ic.F).wI (by decide) (Or.inl ⟨rfl, rfl⟩)).rw (fun _ => Or.inr rfl)
    have ic1 : IC (ppK (bkK P.b.f (P.b.n - 1) P.b.o P.b.A P.b.D P.b.W P.b.z P.b.J) P.N P.T P.g P.im P.l P.bt P.tS P.qS P.sL P.S P.E P.SI P.B P.ID) (rwR (wI h 33 1 (nI (P.b.n - 1))) r) := ⟨K.F, ⟨⟨(rwR_I (by decide)).trans ((wI_i (by decide)).trans bf.1), bf.2.1, fun y hy => (rwR_I (by decide)).trans ((wI_a (by decide)).trans (bf.2.2.1 y hy)), bf.2.2.2⟩, ⟨(rwR_I (by decide)).trans wI_s, by show P.b.n - 1 ≤ 12; have := b.2.1; omega, fun k hk => ⟨(b.2.2 k (by have hk : k < P.b.n - 1 := hk; omega)).1, (b.2.2 k (by have hk : k < P.b.n - 1 := hk; omega)).2.up K.up⟩⟩, fun i hi => (rwR_I (by decide)).trans ((wI_a (by decide)).trans (ic.cb.2.2.1 i hi)), (rwR_I (by decide)).trans ((wI_i (by decide)).trans ic.cb.2.2.2)⟩, fun s h1 h2 p hp => (show dgt (hI (rwR (wI h 33 1 (nI (P.b.n - 1))) r) 39 s) p = _ by rw [rwR_39]; exact hr s h1 h2 p hp), fun k hk => (K.i _ (by decide) _ (by intros; (try dsimp only); omega)).trans (ic.fn k hk), fun k hk => (K.i _ (by decide) _ (by intros; (try dsimp only); omega)).trans (ic.tl k hk), (K.i _ (by decide) _ (by intros; (try dsimp only); omega)).trans ic.pg, pi.k ic.pi pu.g6 K (by intros; (try dsimp only); omega), ⟨(K.i _ (by decide) _ (by intros; (try dsimp only); omega)).trans ic.tp.1, ic.tp.2⟩, fun i hi => (K.i _ (by decide) _ (by intros; (try dsimp only); omega)).trans (ic.tb i hi), ic.sh.k K (by intros; (try dsimp only); omega), fun s hs i hi => (K.l _ (by omega) (by intros; (try dsimp only); omega) _).trans (ic.sl s hs i hi), ic.sp.k K (by intros; (try dsimp only); omega), fun a j e => Nat.lt_of_lt_of_le (ic.id a j e) K.up.1⟩
    have im1 : IM P (rwR (wI h 33 1 (nI (P.b.n - 1))) r) := im.kc K (by intros; (try dsimp only); omega) (by intros; (try dsimp only); omega)
    refine res_c (P2 := (ppK (bkK P.b.f (P.b.n - 1) P.b.o P.b.A P.b.D P.b.W P.b.z P.b.J) P.N P.T P.g P.im P.l P.bt P.tS P.qS P.sL P.S P.E P.SI P.B P.ID)) rfl K.F im1 (fun F1 im1 => zX9_drop X F1 im1.mb.2.1) (fun v2 h2 q2 => ?_)
    rw [if_neg z1] at q2
    obtain ⟨rfl, rfl⟩ := q2
    have S : Sf (fun a i => a = 109 ∧ i = 4) (rwR (wI h 33 1 (nI (P.b.n - 1))) r) (wI (rwR (wI h 33 1 (nI (P.b.n - 1))) r) 109 4 (nI (P.b.n - 1))) := (Sf.rf _).wI ⟨rfl, rfl⟩
    have e9 := S.2
    have eL : ∀ i, hL (wI (rwR (wI h 33 1 (nI (P.b.n - 1))) r) 109 4 (nI (P.b.n - 1))) 124 i = hL (rwR (wI h 33 1 (nI (P.b.n - 1))) r) 124 i := fun _ => rfl
    refine ⟨rfl, ic1.sf pu.g6 S (by intros; (try dsimp only); omega), ?_, ⟨pu.g6, fun s h1 h2 p hp => (pu.ok s h1 h2 p hp).le (Nat.sub_le _ _), pu.oki, fun k hk => pu.jb k (Nat.lt_of_lt_of_le hk (Nat.sub_le _ _)), pu.ji, pu.js, pu.inj, pu.lt, fun j k hj hk => pu.aj j k hj (Nat.lt_of_lt_of_le hk (Nat.sub_le _ _)), pu.aji, by have := pu.bc; show P.B ≤ _; omega⟩⟩
    have im := im1
    exact ⟨⟨⟨(e9 _ _ (by intros; (try dsimp only); omega)).trans im.mb.1.1, im.mb.1.2.1, fun y hy => (e9 _ _ (by intros; (try dsimp only); omega)).trans (im.mb.1.2.2.1 y hy), im.mb.1.2.2.2⟩, ⟨wI_s, by show P.b.n - 1 ≤ 12; have := b.2.1; omega, fun k hk => (im.mb.2.1.2.2 k (by have hk : k < P.b.n - 1 := hk; omega)).at (fun j hj => e9 _ _ (by intros; (try dsimp only); omega)) (fun j hj => e9 _ _ (by intros; (try dsimp only); omega))⟩, fun i hi => (e9 _ _ (by intros; (try dsimp only); omega)).trans (im.mb.2.2.1 i hi), (e9 _ _ (by intros; (try dsimp only); omega)).trans im.mb.2.2.2.1, fun k hk => (e9 _ _ (by intros; (try dsimp only); omega)).trans (im.mb.2.2.2.2 k (by have hk : k < P.b.n - 1 := hk; omega))⟩, fun k hk => (e9 _ _ (by intros; (try dsimp only); omega)).trans (im.fn k hk), fun k hk => (e9 _ _ (by intros; (try dsimp only); omega)).trans (im.tl k hk), (e9 _ _ (by intros; (try dsimp only); omega)).trans im.pg, fun j hj => (im.pi j hj).elim (fun h3 q => ⟨h3, q.1.go (fun a i z => e9 a i (by intros; (try dsimp only); omega)), q.2⟩), im.tb.go (fun a i z => e9 a i (by intros; (try dsimp only); omega)), im.sh.go (fun a i z => e9 a i (by intros; (try dsimp only); omega)), fun s hs i hi => (eL _).trans (im.sl s hs i hi), fun i hi => (im.sp i hi).go (fun a z => e9 a i (by intros; (try dsimp only); omega)), (e9 _ _ (by intros; (try dsimp only); omega)).trans im.bn⟩
theorem zrL_L {h : HP} {a b i : Nat} : ∀ k, hL (zrL h a k) b i = if b = a ∧ i < k then 0 else hL h b i := by
  intro k
  induction k with
  | zero => rw [if_neg (by omega)]; rfl
  | succ k ih =>
    show (if b = a ∧ i = k then 0 else hL (zrL h a k) b i) = _
    by_cases z : b = a ∧ i = k
    · rw [if_pos z, if_pos (by omega)]
    · rw [if_neg z, ih]
      by_cases w : b = a ∧ i < k
      · rw [if_pos w, if_pos (by omega)]
      · rw [if_neg w, if_neg (by omega)]
theorem zrL_I {h : HP} {a : Nat} : ∀ k, hI (zrL h a k) = hI h ∧ (zrL h a k).2.2 = h.2.2 := by
  intro k
  induction k with
  | zero => exact ⟨rfl, rfl⟩
  | succ k ih => exact ih
theorem zrL_K {M MR : Nat → Nat → Prop} {ML : Nat → Prop} {h h2 : HP} (k0 : Kc M MR ML h h2) {a : Nat} (ha : a < 134) (hm : ML a) : ∀ k, Kc M MR ML h (zrL h2 a k) := by
  intro k
  induction k with
  | zero => exact k0
  | succ k ih => exact ih.wL ha hm
theorem y40 {y : Int32} (h1 : ¬ y < 0) (h2 : y ≤ 40) : y.toNatClampNeg ≤ 40 := by
  obtain ⟨j, hj, rfl⟩ := nI_of h1
  rw [nI_clamp hj]
  exact (nI_leI (b := 40) hj (by decide)).mp h2
theorem y41 {y : Int32} (h1 : ¬ y < 0) (h2 : y ≤ 40) : y = nI y.toNatClampNeg := by
  obtain ⟨j, hj, rfl⟩ := nI_of h1
  rw [nI_clamp hj]
theorem t3_of {t : Int32} (h1 : ¬ t < -1) (h2 : t ≤ 2) : t = -1 ∨ t = 0 ∨ t = 1 ∨ t = 2 := by
  rw [Int32.lt_iff_toInt_lt] at h1
  rw [Int32.le_iff_toInt_le] at h2
  have e0 : (0 : Int32).toInt = 0 := rfl
  have e1 : (-1 : Int32).toInt = -1 := rfl
  have e2 : (1 : Int32).toInt = 1 := rfl
  have e3 : (2 : Int32).toInt = 2 := rfl
  rcases (show t.toInt = -1 ∨ t.toInt = 0 ∨ t.toInt = 1 ∨ t.toInt = 2 by omega) with h | h | h | h
  · exact Or.inl (Int32.toInt_inj.mp (h.trans e1.symm))
  · exact Or.inr (Or.inl (Int32.toInt_inj.mp (h.trans e0.symm)))
  · exact Or.inr (Or.inr (Or.inl (Int32.toInt_inj.mp (h.trans e2.symm))))
  · exact Or.inr (Or.inr (Or.inr (Int32.toInt_inj.mp (h.trans e3.symm))))
theorem op_sheet (X : EX) {c : Nat} {h : HP} (I : Inv c h) (x t y : Int32) : Ct X mX8_sheet 1 0 0 ([vR (some 32), vI x, vI t, vI y]) h (RES X c mX9_sheet 2 [vI x, vI t, vI y]) := by
  obtain ⟨P, ic, im, pu⟩ := I
  have bf : BkF h P.b.f P.b.o := ic.cb.1
  have b : BkD h P.b.n P.b.A P.b.D := ic.cb.2.1
  refine ct_post (zX8_sheet X ic.F x t y) (fun v h1 q => ?_)
  skip
  by_cases z1 : x < 0 ∨ 4 ≤ x
  · rw [if_pos z1] at q
    exact res_f ic im pu (k := 0) (by decide) q (fun F1 im1 => zX9_sheet X F1 x t y) (fun v2 h2 q2 => by
        rw [if_pos z1] at q2
        exact fq_M q2)
  · rw [if_neg z1] at q
    by_cases z2 : t < -1
    · rw [if_pos z2] at q
      exact res_f ic im pu (k := 0) (by decide) q (fun F1 im1 => zX9_sheet X F1 x t y) (fun v2 h2 q2 => by
          rw [if_neg z1, if_pos z2] at q2
          exact fq_M q2)
    · rw [if_neg z2] at q
      by_cases z3 : t ≤ 2
      · rw [if_pos z3] at q
        by_cases z4 : t = -1
        · rw [if_pos z4] at q
          have ht9 : (-1 : Int32) = -1 ∨ (-1 : Int32) = 0 ∨ (-1 : Int32) = 1 ∨ (-1 : Int32) = 2 := Or.inl rfl
          have hq9 : 0 ≤ 40 := by decide
          have hyq : (0 : Int32) = nI 0 := rfl
          obtain ⟨rfl, rfl⟩ := q
          have hx4 : x.toNatClampNeg < 4 := cl_lt (N := 4) (by decide) z1
          have hb1 : 101 + 2 * x.toNatClampNeg < 134 := by omega
          have hb2 : 102 + 2 * x.toNatClampNeg < 134 := by omega
          have K : Kc (fun a _ => a = 101 + 2 * x.toNatClampNeg) (fun a _ => a = 0) (fun a => a = 102 + 2 * x.toNatClampNeg) h (shB h x.toNatClampNeg (-1) 0) := by unfold shB; refine zrL_K (Kc.wI (Kc.wI (Kc.rf ic.F) hb1 ?_) hb1 ?_) hb2 ?_ _ <;> rfl
          have ic1 : IC (ppK P.b P.N P.T P.g P.im P.l P.bt (fun s => if s = x.toNatClampNeg then -1 else P.tS s) (fun s => if s = x.toNatClampNeg then 0 else P.qS s) (fun s i => if s = x.toNatClampNeg then 0 else P.sL s i) P.S P.E P.SI P.B P.ID) (shB h x.toNatClampNeg (-1) 0) := ⟨K.F, ic.cb.k K (by decide) (by intros; (try dsimp only); omega), ic.ow.k K (by intros; (try dsimp only); omega), fun k hk => (K.i _ (by decide) _ (by intros; (try dsimp only); omega)).trans (ic.fn k hk), fun k hk => (K.i _ (by decide) _ (by intros; (try dsimp only); omega)).trans (ic.tl k hk), (K.i _ (by decide) _ (by intros; (try dsimp only); omega)).trans ic.pg, pi.k ic.pi pu.g6 K (by intros; (try dsimp only); omega), ⟨(K.i _ (by decide) _ (by intros; (try dsimp only); omega)).trans ic.tp.1, ic.tp.2⟩, fun i hi => (K.i _ (by decide) _ (by intros; (try dsimp only); omega)).trans (ic.tb i hi), fun s hs => by
            show hI (shB h x.toNatClampNeg (-1) 0) (101 + 2 * s) 1 = (if s = x.toNatClampNeg then -1 else P.tS s) ∧ ((if s = x.toNatClampNeg then -1 else P.tS s) = -1 ∨ (if s = x.toNatClampNeg then -1 else P.tS s) = 0 ∨ (if s = x.toNatClampNeg then -1 else P.tS s) = 1 ∨ (if s = x.toNatClampNeg then -1 else P.tS s) = 2) ∧ hI (shB h x.toNatClampNeg (-1) 0) (101 + 2 * s) 2 = nI (if s = x.toNatClampNeg then 0 else P.qS s) ∧ (if s = x.toNatClampNeg then 0 else P.qS s) ≤ 40
            unfold shB
            rw [(zrL_I _).1]
            by_cases e : s = x.toNatClampNeg
            · rw [if_pos e, if_pos e, e]
              exact ⟨(wI_i (by decide)).trans wI_s, ht9, wI_s, hq9⟩
            · rw [if_neg e, if_neg e]
              obtain ⟨a1, a2, a3, a4⟩ := ic.sh s hs
              exact ⟨(wI_a (by omega)).trans ((wI_a (by omega)).trans a1), a2, (wI_a (by omega)).trans ((wI_a (by omega)).trans a3), a4⟩, fun s hs i hi => by
            have hi : i < (if s = x.toNatClampNeg then 0 else P.qS s) := hi
            show hL (shB h x.toNatClampNeg (-1) 0) (102 + 2 * s) i = (if s = x.toNatClampNeg then 0 else P.sL s i)
            unfold shB
            rw [zrL_L]
            by_cases e : s = x.toNatClampNeg
            · rw [if_pos e] at hi ⊢
              rw [if_pos (by omega)]
            · rw [if_neg e] at hi ⊢
              rw [if_neg (by omega)]
              exact ic.sl s hs i hi, ic.sp.k K (by intros; (try dsimp only); omega), fun a j e => Nat.lt_of_lt_of_le (ic.id a j e) K.up.1⟩
          have im1 : IM P (shB h x.toNatClampNeg (-1) 0) := im.kc K (by intros; (try dsimp only); omega) (by intros; (try dsimp only); omega)
          refine res_c (P2 := (ppK P.b P.N P.T P.g P.im P.l P.bt (fun s => if s = x.toNatClampNeg then -1 else P.tS s) (fun s => if s = x.toNatClampNeg then 0 else P.qS s) (fun s i => if s = x.toNatClampNeg then 0 else P.sL s i) P.S P.E P.SI P.B P.ID)) rfl K.F im1 (fun F1 im1 => zX9_sheet X F1 x t y) (fun v2 h2 q2 => ?_)
          rw [if_neg z1, if_neg z2, if_pos z3, if_pos z4] at q2
          obtain ⟨rfl, rfl⟩ := q2
          have e9 : ∀ a i, ¬ (fun a _ => a = 122 ∨ a = 123) a i → hI (shM (shB h x.toNatClampNeg (-1) 0) x.toNatClampNeg (-1) 0) a i = hI (shB h x.toNatClampNeg (-1) 0) a i := fun a i z => by
            unfold shM
            rw [zrM_I]
            exact (if_neg (by omega)).trans (if_neg (by omega))
          refine ⟨rfl, ic1.fr pu.g6 (by unfold shM; rw [zrM_2]; rfl) (fun a z i => e9 a i (by intros; (try dsimp only); omega)) (fun a z i => by unfold shM; rw [zrM_L, if_neg (by omega)]; rfl), ?_, pu.s⟩
          have im := im1
          exact ⟨im.mb.go (fun a i z => e9 a i (by intros; (try dsimp only); omega)), fun k hk => (e9 _ _ (by intros; (try dsimp only); omega)).trans (im.fn k hk), fun k hk => (e9 _ _ (by intros; (try dsimp only); omega)).trans (im.tl k hk), (e9 _ _ (by intros; (try dsimp only); omega)).trans im.pg, fun j hj => (im.pi j hj).elim (fun h3 q => ⟨h3, q.1.go (fun a i z => e9 a i (by intros; (try dsimp only); omega)), q.2⟩), im.tb.go (fun a i z => e9 a i (by intros; (try dsimp only); omega)), fun s hs => by
            show hI (shM (shB h x.toNatClampNeg (-1) 0) x.toNatClampNeg (-1) 0) 122 s = (if s = x.toNatClampNeg then -1 else P.tS s) ∧ hI (shM (shB h x.toNatClampNeg (-1) 0) x.toNatClampNeg (-1) 0) 123 s = nI (if s = x.toNatClampNeg then 0 else P.qS s) ∧ ((if s = x.toNatClampNeg then -1 else P.tS s) = -1 ∨ (if s = x.toNatClampNeg then -1 else P.tS s) = 0 ∨ (if s = x.toNatClampNeg then -1 else P.tS s) = 1 ∨ (if s = x.toNatClampNeg then -1 else P.tS s) = 2) ∧ (if s = x.toNatClampNeg then 0 else P.qS s) ≤ 40
            unfold shM
            rw [zrM_I]
            by_cases e : s = x.toNatClampNeg
            · rw [if_pos e, if_pos e, e]
              exact ⟨(wI_a (by decide)).trans wI_s, wI_s.trans hyq, ht9, hq9⟩
            · rw [if_neg e, if_neg e]
              obtain ⟨a1, a2, a3, a4⟩ := im.sh s hs
              exact ⟨(wI_a (by decide)).trans ((wI_i e).trans a1), (wI_i e).trans ((wI_a (by decide)).trans a2), a3, a4⟩, fun s hs i hi => by
            have hi : i < (if s = x.toNatClampNeg then 0 else P.qS s) := hi
            show hL (shM (shB h x.toNatClampNeg (-1) 0) x.toNatClampNeg (-1) 0) 124 (40 * s + i) = (if s = x.toNatClampNeg then 0 else P.sL s i)
            unfold shM
            rw [zrM_L]
            by_cases e : s = x.toNatClampNeg
            · rw [if_pos e] at hi ⊢
              rw [if_pos (by omega)]
            · rw [if_neg e] at hi ⊢
              have := (im.sh s hs).2.2.2
              rw [if_neg (by omega)]
              exact im.sl s hs i hi, fun i hi => (im.sp i hi).go (fun a z => e9 a i (by intros; (try dsimp only); omega)), (e9 _ _ (by intros; (try dsimp only); omega)).trans im.bn⟩
        · rw [if_neg z4] at q
          by_cases z5 : y < 0
          · rw [if_pos z5] at q
            exact res_f ic im pu (k := 6) (by decide) q (fun F1 im1 => zX9_sheet X F1 x t y) (fun v2 h2 q2 => by
                rw [if_neg z1, if_neg z2, if_pos z3, if_neg z4, if_pos z5] at q2
                exact fq_M q2)
          · rw [if_neg z5] at q
            by_cases z6 : y ≤ 40
            · rw [if_pos z6] at q
              have hq9 : y.toNatClampNeg ≤ 40 := y40 z5 z6
              have hyq : y = nI y.toNatClampNeg := y41 z5 z6
              have ht9 := t3_of z2 z3
              obtain ⟨rfl, rfl⟩ := q
              have hx4 : x.toNatClampNeg < 4 := cl_lt (N := 4) (by decide) z1
              have hb1 : 101 + 2 * x.toNatClampNeg < 134 := by omega
              have hb2 : 102 + 2 * x.toNatClampNeg < 134 := by omega
              have K : Kc (fun a _ => a = 101 + 2 * x.toNatClampNeg) (fun a _ => a = 0) (fun a => a = 102 + 2 * x.toNatClampNeg) h (shB h x.toNatClampNeg (t) y.toNatClampNeg) := by unfold shB; refine zrL_K (Kc.wI (Kc.wI (Kc.rf ic.F) hb1 ?_) hb1 ?_) hb2 ?_ _ <;> rfl
              have ic1 : IC (ppK P.b P.N P.T P.g P.im P.l P.bt (fun s => if s = x.toNatClampNeg then t else P.tS s) (fun s => if s = x.toNatClampNeg then y.toNatClampNeg else P.qS s) (fun s i => if s = x.toNatClampNeg then 0 else P.sL s i) P.S P.E P.SI P.B P.ID) (shB h x.toNatClampNeg (t) y.toNatClampNeg) := ⟨K.F, ic.cb.k K (by decide) (by intros; (try dsimp only); omega), ic.ow.k K (by intros; (try dsimp only); omega), fun k hk => (K.i _ (by decide) _ (by intros; (try dsimp only); omega)).trans (ic.fn k hk), fun k hk => (K.i _ (by decide) _ (by intros; (try dsimp only); omega)).trans (ic.tl k hk), (K.i _ (by decide) _ (by intros; (try dsimp only); omega)).trans ic.pg, pi.k ic.pi pu.g6 K (by intros; (try dsimp only); omega), ⟨(K.i _ (by decide) _ (by intros; (try dsimp only); omega)).trans ic.tp.1, ic.tp.2⟩, fun i hi => (K.i _ (by decide) _ (by intros; (try dsimp only); omega)).trans (ic.tb i hi), fun s hs => by
                show hI (shB h x.toNatClampNeg (t) y.toNatClampNeg) (101 + 2 * s) 1 = (if s = x.toNatClampNeg then t else P.tS s) ∧ ((if s = x.toNatClampNeg then t else P.tS s) = -1 ∨ (if s = x.toNatClampNeg then t else P.tS s) = 0 ∨ (if s = x.toNatClampNeg then t else P.tS s) = 1 ∨ (if s = x.toNatClampNeg then t else P.tS s) = 2) ∧ hI (shB h x.toNatClampNeg (t) y.toNatClampNeg) (101 + 2 * s) 2 = nI (if s = x.toNatClampNeg then y.toNatClampNeg else P.qS s) ∧ (if s = x.toNatClampNeg then y.toNatClampNeg else P.qS s) ≤ 40
                unfold shB
                rw [(zrL_I _).1]
                by_cases e : s = x.toNatClampNeg
                · rw [if_pos e, if_pos e, e]
                  exact ⟨(wI_i (by decide)).trans wI_s, ht9, wI_s, hq9⟩
                · rw [if_neg e, if_neg e]
                  obtain ⟨a1, a2, a3, a4⟩ := ic.sh s hs
                  exact ⟨(wI_a (by omega)).trans ((wI_a (by omega)).trans a1), a2, (wI_a (by omega)).trans ((wI_a (by omega)).trans a3), a4⟩, fun s hs i hi => by
                have hi : i < (if s = x.toNatClampNeg then y.toNatClampNeg else P.qS s) := hi
                show hL (shB h x.toNatClampNeg (t) y.toNatClampNeg) (102 + 2 * s) i = (if s = x.toNatClampNeg then 0 else P.sL s i)
                unfold shB
                rw [zrL_L]
                by_cases e : s = x.toNatClampNeg
                · rw [if_pos e] at hi ⊢
                  rw [if_pos (by omega)]
                · rw [if_neg e] at hi ⊢
                  rw [if_neg (by omega)]
                  exact ic.sl s hs i hi, ic.sp.k K (by intros; (try dsimp only); omega), fun a j e => Nat.lt_of_lt_of_le (ic.id a j e) K.up.1⟩
              have im1 : IM P (shB h x.toNatClampNeg (t) y.toNatClampNeg) := im.kc K (by intros; (try dsimp only); omega) (by intros; (try dsimp only); omega)
              refine res_c (P2 := (ppK P.b P.N P.T P.g P.im P.l P.bt (fun s => if s = x.toNatClampNeg then t else P.tS s) (fun s => if s = x.toNatClampNeg then y.toNatClampNeg else P.qS s) (fun s i => if s = x.toNatClampNeg then 0 else P.sL s i) P.S P.E P.SI P.B P.ID)) rfl K.F im1 (fun F1 im1 => zX9_sheet X F1 x t y) (fun v2 h2 q2 => ?_)
              rw [if_neg z1, if_neg z2, if_pos z3, if_neg z4, if_neg z5, if_pos z6] at q2
              obtain ⟨rfl, rfl⟩ := q2
              have e9 : ∀ a i, ¬ (fun a _ => a = 122 ∨ a = 123) a i → hI (shM (shB h x.toNatClampNeg (t) y.toNatClampNeg) x.toNatClampNeg (t) y) a i = hI (shB h x.toNatClampNeg (t) y.toNatClampNeg) a i := fun a i z => by
                unfold shM
                rw [zrM_I]
                exact (if_neg (by omega)).trans (if_neg (by omega))
              refine ⟨rfl, ic1.fr pu.g6 (by unfold shM; rw [zrM_2]; rfl) (fun a z i => e9 a i (by intros; (try dsimp only); omega)) (fun a z i => by unfold shM; rw [zrM_L, if_neg (by omega)]; rfl), ?_, pu.s⟩
              have im := im1
              exact ⟨im.mb.go (fun a i z => e9 a i (by intros; (try dsimp only); omega)), fun k hk => (e9 _ _ (by intros; (try dsimp only); omega)).trans (im.fn k hk), fun k hk => (e9 _ _ (by intros; (try dsimp only); omega)).trans (im.tl k hk), (e9 _ _ (by intros; (try dsimp only); omega)).trans im.pg, fun j hj => (im.pi j hj).elim (fun h3 q => ⟨h3, q.1.go (fun a i z => e9 a i (by intros; (try dsimp only); omega)), q.2⟩), im.tb.go (fun a i z => e9 a i (by intros; (try dsimp only); omega)), fun s hs => by
                show hI (shM (shB h x.toNatClampNeg (t) y.toNatClampNeg) x.toNatClampNeg (t) y) 122 s = (if s = x.toNatClampNeg then t else P.tS s) ∧ hI (shM (shB h x.toNatClampNeg (t) y.toNatClampNeg) x.toNatClampNeg (t) y) 123 s = nI (if s = x.toNatClampNeg then y.toNatClampNeg else P.qS s) ∧ ((if s = x.toNatClampNeg then t else P.tS s) = -1 ∨ (if s = x.toNatClampNeg then t else P.tS s) = 0 ∨ (if s = x.toNatClampNeg then t else P.tS s) = 1 ∨ (if s = x.toNatClampNeg then t else P.tS s) = 2) ∧ (if s = x.toNatClampNeg then y.toNatClampNeg else P.qS s) ≤ 40
                unfold shM
                rw [zrM_I]
                by_cases e : s = x.toNatClampNeg
                · rw [if_pos e, if_pos e, e]
                  exact ⟨(wI_a (by decide)).trans wI_s, wI_s.trans hyq, ht9, hq9⟩
                · rw [if_neg e, if_neg e]
                  obtain ⟨a1, a2, a3, a4⟩ := im.sh s hs
                  exact ⟨(wI_a (by decide)).trans ((wI_i e).trans a1), (wI_i e).trans ((wI_a (by decide)).trans a2), a3, a4⟩, fun s hs i hi => by
                have hi : i < (if s = x.toNatClampNeg then y.toNatClampNeg else P.qS s) := hi
                show hL (shM (shB h x.toNatClampNeg (t) y.toNatClampNeg) x.toNatClampNeg (t) y) 124 (40 * s + i) = (if s = x.toNatClampNeg then 0 else P.sL s i)
                unfold shM
                rw [zrM_L]
                by_cases e : s = x.toNatClampNeg
                · rw [if_pos e] at hi ⊢
                  rw [if_pos (by omega)]
                · rw [if_neg e] at hi ⊢
                  have := (im.sh s hs).2.2.2
                  rw [if_neg (by omega)]
                  exact im.sl s hs i hi, fun i hi => (im.sp i hi).go (fun a z => e9 a i (by intros; (try dsimp only); omega)), (e9 _ _ (by intros; (try dsimp only); omega)).trans im.bn⟩
            · rw [if_neg z6] at q
              exact res_f ic im pu (k := 0) (by decide) q (fun F1 im1 => zX9_sheet X F1 x t y) (fun v2 h2 q2 => by
                  rw [if_neg z1, if_neg z2, if_pos z3, if_neg z4, if_neg z5, if_neg z6] at q2
                  exact fq_M q2)
      · rw [if_neg z3] at q
        exact res_f ic im pu (k := 0) (by decide) q (fun F1 im1 => zX9_sheet X F1 x t y) (fun v2 h2 q2 => by
            rw [if_neg z1, if_neg z2, if_neg z3] at q2
            exact fq_M q2)
