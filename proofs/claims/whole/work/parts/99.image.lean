/-! calls: image, back (written by wip/whole/g99.py) -/
theorem bmH_cb {h : HP} {a b : Nat} {k : BK} (ha : a ∈ bkL) (hb : b ∈ bkL) (hab : a ≠ b) (q : CB h b k) : CB (bmH h a b k.n k.A) a k := by
  obtain ⟨x1, x2, x3, x4, x5, x6⟩ := bk12 a ha b hb
  obtain ⟨y1, y2, y3, y4, y5, y6⟩ := bk12 b hb a ha
  have z := x4 hab
  exact ⟨bmH_C (by omega) (by omega) (by omega) q.1, bmH_B (by omega) q.2.1, fun i hi => (bmH_w (by omega) (by omega) hi).trans (q.2.2.1 i hi), (bmH_5 (by omega) (by omega) (by omega)).trans q.2.2.2⟩
theorem bmH_K {M MR : Nat → Nat → Prop} {ML : Nat → Prop} {h h2 : HP} (k0 : Kc M MR ML h h2) {a b n : Nat} {A : Nat → Nat} (ha : a ∈ bkL) (hm : ∀ j, M a j ∧ M (a + 2) j ∧ M (a + 3) j ∧ MR (a + 1) j) : Kc M MR ML h (bmH h2 a b n A) := ⟨k0.up.tr (bmH_U (bk12 a ha a ha).2.2.2.2.1), bmH_F k0.F ha, fun x hx i z => (congrFun (bmH_I (fun e => z (by rw [e]; exact (hm i).1)) (fun e => z (by rw [e]; exact (hm i).2.1)) (fun e => z (by rw [e]; exact (hm i).2.2.1))) i).trans (k0.i x hx i z), fun x hx i z => (congrFun (bmH_R (fun e => z (by rw [e]; exact (hm i).2.2.2))) i).trans (k0.r x hx i z), fun x hx z i => (congrFun (congrFun bmH_r.1 x) i).trans (k0.l x hx z i)⟩
theorem ImE.at {h h2 h3 : HP} {j : Nat} (q : ImE h j h3) (e : ∀ a i, scI j a i → hI h2 a i = hI h a i) : ImE h2 j h3 := by
  unfold ImE at q ⊢
  unfold scI at e
  obtain ⟨a, b, c, d, f, g, w⟩ := q
  exact ⟨fun i hi => (e _ _ (by omega)).trans (a i hi), fun i hi => (e _ _ (by omega)).trans (b i hi), (e _ _ (by omega)).trans c, (e _ _ (by omega)).trans d, (e _ _ (by omega)).trans f, fun i hi => (e _ _ (by omega)).trans (g i hi), fun i hi => (e _ _ (by omega)).trans (w i hi)⟩
theorem scI_ne {g j a i : Nat} (h : j ≠ g) (z : scI j a i) : ¬ scJ g a i := by
  unfold scI at z
  unfold scJ scI
  omega
/-- what two images of one place hold is alike -/
theorem MB.im {h h2 h3 : HP} {j : Nat} {b : BK} (a : ImE h j h2) (c : ImE h j h3) (q : MB h3 b) : MB h2 b := by
  obtain ⟨⟨f1, f2, f3, f4⟩, d, w, z, jj⟩ := q
  obtain ⟨a1, a2, a3, a4, a5, a6, a7⟩ := a
  obtain ⟨c1, c2, c3, c4, c5, c6, c7⟩ := c
  have hn := d.2.1
  have e2 : ∀ i, i < 96 → hI h2 112 i = hI h3 112 i := fun i hi => (a1 i hi).symm.trans (c1 i hi)
  have e3 : ∀ i, i < 492 → hI h2 113 i = hI h3 113 i := fun i hi => (a2 i hi).symm.trans (c2 i hi)
  exact ⟨⟨(a4.symm.trans c4).trans f1, f2, fun y hy => ((a6 y (by omega)).symm.trans (c6 y (by omega))).trans (f3 y hy), f4⟩, d.keep ((a3.symm.trans c3).trans d.1) (fun i hi => e2 i (by omega)) (fun i hi => e3 i (by omega)), fun i hi => ((a7 i hi).symm.trans (c7 i hi)).trans (w i hi), (a5.symm.trans c5).trans z, fun k hk => (e2 _ (by omega)).trans (jj k hk)⟩
theorem zX8_back0 (X : EX) {h : HP} (F : Fx h) (hg : hI h 32 2 = nI 0) : Ct X mX8_back 4 0 0 [vR (some 32)] h (RF h 3) := by
  refine ct_of rfl (Nat.le_of_ble_eq_true rfl) ?_
  refine e_aload_n aX8_back_0 rfl ?_
  refine e_getIF aX8_back_1 fX8_254 rfl (fx_is F rfl) hg ?_
  refine e_if_gt aX8_back_4 (fun c4 => ?_) (fun c4 => ?_)
  · exact absurd c4 (by decide)
  · refine e_aload_n aX8_back_7 rfl ?_
    refine e_iconst (v := 3) aX8_back_8 (by decide) ?_
    refine e_invvT aX8_back_9 kX8_62 (zfin X (k := 3) F (by decide)) rfl rfl (fx_is F rfl) (Nat.le_of_ble_eq_true rfl) (Nat.le_of_ble_eq_true rfl) (Nat.le_refl _) (Nat.le_refl _) (Nat.le_of_ble_eq_true rfl) ?_
    refine e_ireturn aX8_back_12 rfl (Nat.le_refl _) (Nat.le_refl _) ?_
    exact ⟨rfl, rfl⟩
theorem op_image (X : EX) {c : Nat} {h : HP} (I : Inv c h)  : Ct X mX8_image 2 0 0 ([vR (some 32)]) h (RES X c mX9_image 1 []) := by
  obtain ⟨P, ic, im, pu⟩ := I
  have bf : BkF h P.b.f P.b.o := ic.cb.1
  have b : BkD h P.b.n P.b.A P.b.D := ic.cb.2.1
  refine ct_post (zX8_image X ic.F ic.pg pu.g6 ic.cb.2.1) (fun v h1 q => ?_)
  skip
  by_cases z1 : 6 ≤ P.g
  · rw [if_pos z1] at q
    exact res_f ic im pu (k := 1) (by decide) q (fun F1 im1 => zX9_image X F1 im1.pg pu.g6) (fun v2 h2 q2 => by
        rw [if_pos z1] at q2
        exact fq_M q2)
  · rw [if_neg z1] at q
    obtain ⟨rfl, rfl⟩ := q
    have hg9 : P.g < 6 := by omega
    have Kw : Kc (fun a i => a = 32 ∧ i = 2) (fun a _ => a = 0) (fun a => a = 0) (bmH h (77 + 4 * P.g) 33 P.b.n P.b.A) (wI (bmH h (77 + 4 * P.g) 33 P.b.n P.b.A) 32 2 (nI (P.g + 1))) := (Kc.rf (bmH_F ic.F (bk13 _ hg9))).wI (by decide) ⟨rfl, rfl⟩
    have K : Kc (fun a i => (a = 77 + 4 * P.g ∨ a = 77 + 4 * P.g + 2 ∨ a = 77 + 4 * P.g + 3) ∨ (a = 32 ∧ i = 2)) (fun a _ => a = 77 + 4 * P.g + 1) (fun a => a = 0) h (wI (bmH h (77 + 4 * P.g) 33 P.b.n P.b.A) 32 2 (nI (P.g + 1))) := (bmH_K (Kc.rf ic.F) (bk13 _ hg9) (fun j => ⟨Or.inl (Or.inl rfl), Or.inl (Or.inr (Or.inl rfl)), Or.inl (Or.inr (Or.inr rfl)), rfl⟩)).wI (by decide) (Or.inr ⟨rfl, rfl⟩)
    have ic1 : IC (ppK P.b P.N P.T (P.g + 1) (fun j => if j = P.g then P.b else P.im j) P.l P.bt P.tS P.qS P.sL P.S P.E P.SI P.B P.ID) (wI (bmH h (77 + 4 * P.g) 33 P.b.n P.b.A) 32 2 (nI (P.g + 1))) := ⟨K.F, ic.cb.k K (by decide) (by intros; (try dsimp only); omega), ic.ow.k K (by intros; (try dsimp only); omega), fun k hk => (K.i _ (by decide) _ (by intros; (try dsimp only); omega)).trans (ic.fn k hk), fun k hk => (K.i _ (by decide) _ (by intros; (try dsimp only); omega)).trans (ic.tl k hk), wI_s, fun j hj => by
      have hj : j < P.g + 1 := hj
      show CB (wI (bmH h (77 + 4 * P.g) 33 P.b.n P.b.A) 32 2 (nI (P.g + 1))) (77 + 4 * j) (if j = P.g then P.b else P.im j)
      by_cases e : j = P.g
      · rw [if_pos e]
        rw [e]
        exact (bmH_cb (bk13 _ hg9) (by decide) (by omega) ic.cb).k Kw (by omega) (by intros; (try dsimp only); omega)
      · rw [if_neg e]
        exact (ic.pi j (by omega)).k K (by omega) (by intros; (try dsimp only); omega), ⟨(K.i _ (by decide) _ (by intros; (try dsimp only); omega)).trans ic.tp.1, ic.tp.2⟩, fun i hi => (K.i _ (by decide) _ (by intros; (try dsimp only); omega)).trans (ic.tb i hi), ic.sh.k K (by intros; (try dsimp only); omega), fun s hs i hi => (K.l _ (by omega) (by intros; (try dsimp only); omega) _).trans (ic.sl s hs i hi), ic.sp.k K (by intros; (try dsimp only); omega), fun a j e => Nat.lt_of_lt_of_le (ic.id a j e) K.up.1⟩
    have im1 : IM P (wI (bmH h (77 + 4 * P.g) 33 P.b.n P.b.A) 32 2 (nI (P.g + 1))) := im.kc K (by intros; (try dsimp only); omega) (by intros; (try dsimp only); omega)
    refine res_c (P2 := (ppK P.b P.N P.T (P.g + 1) (fun j => if j = P.g then P.b else P.im j) P.l P.bt P.tS P.qS P.sL P.S P.E P.SI P.B P.ID)) rfl K.F im1 (fun F1 im1 => zX9_image X F1 im1.pg pu.g6) (fun v2 h2 q2 => ?_)
    rw [if_neg z1] at q2
    obtain ⟨rfl, S0, hg5, hE⟩ := q2
    have S : Sf (fun a i => (a = 131 ∨ a = 132 ∨ a = 133) ∨ (a = 109 ∧ i = 35)) (wI (bmH h (77 + 4 * P.g) 33 P.b.n P.b.A) 32 2 (nI (P.g + 1))) h2 := S0.mono (fun a i z => by unfold scJ scI at z; omega)
    have e9 := S.2
    have eL : ∀ i, hL h2 124 i = hL (wI (bmH h (77 + 4 * P.g) 33 P.b.n P.b.A) 32 2 (nI (P.g + 1))) 124 i := fun i => congrFun (congrFun (congrArg (fun z => z.1) S.1) 124) i
    refine ⟨rfl, ic1.sf (show P.g + 1 ≤ 6 by omega) S (by intros; (try dsimp only); omega), ?_, ⟨(show P.g + 1 ≤ 6 by omega), pu.ok, fun j hj => by
      have hj : j < P.g + 1 := hj
      show okB (if j = P.g then P.b else P.im j)
      by_cases e : j = P.g
      · rw [if_pos e]
        exact pu.ok
      · rw [if_neg e]
        exact pu.oki j (by omega), pu.jb, fun j hj k hk => by
      have hj : j < P.g + 1 := hj
      have hk : k < (if j = P.g then P.b else P.im j).n := hk
      show P.ID ((if j = P.g then P.b else P.im j).A k) = some ((if j = P.g then P.b else P.im j).J k)
      by_cases e : j = P.g
      · rw [if_pos e] at hk ⊢
        exact pu.jb k hk
      · rw [if_neg e] at hk ⊢
        exact pu.ji j (by omega) k hk, pu.js, pu.inj, pu.lt, pu.aj, fun j hj => by
      have hj : j < P.g + 1 := hj
      show dB9 (if j = P.g then P.b else P.im j)
      by_cases e : j = P.g
      · rw [if_pos e]
        exact pu.aj
      · rw [if_neg e]
        exact pu.aji j (by omega), by have := pu.bc; show P.B ≤ _; omega⟩⟩
    have im := im1
    exact ⟨im.mb.go (fun a i z => e9 a i (by intros; (try dsimp only); omega)), fun k hk => (e9 _ _ (by intros; (try dsimp only); omega)).trans (im.fn k hk), fun k hk => (e9 _ _ (by intros; (try dsimp only); omega)).trans (im.tl k hk), hg5, fun j hj => by
      have hj : j < P.g + 1 := hj
      show ∃ h3, ImE h2 j h3 ∧ MB h3 (if j = P.g then P.b else P.im j)
      by_cases e : j = P.g
      · rw [if_pos e]
        rw [e]
        exact ⟨(wI (bmH h (77 + 4 * P.g) 33 P.b.n P.b.A) 32 2 (nI (P.g + 1))), hE, im.mb⟩
      · rw [if_neg e]
        obtain ⟨h3, a, b⟩ := im.pi j (by omega)
        exact ⟨h3, a.at (fun a i z => S0.2 a i (scI_ne e z)), b⟩, im.tb.go (fun a i z => e9 a i (by intros; (try dsimp only); omega)), im.sh.go (fun a i z => e9 a i (by intros; (try dsimp only); omega)), fun s hs i hi => (eL _).trans (im.sl s hs i hi), fun i hi => (im.sp i hi).go (fun a z => e9 a i (by intros; (try dsimp only); omega)), (e9 _ _ (by intros; (try dsimp only); omega)).trans im.bn⟩
theorem op_back (X : EX) {c : Nat} {h : HP} (I : Inv c h) : Ct X mX8_back 4 0 0 ([vR (some 32)]) h (RES X c mX9_back 1 []) := by
  obtain ⟨P, ic, im, pu⟩ := I
  by_cases z1 : P.g = 0
  · refine ct_post (zX8_back0 X ic.F (by rw [ic.pg, z1])) (fun v h1 q => ?_)
    exact res_f ic im pu (k := 3) (by decide) q (fun F1 im1 => zX9_back X F1 im1.pg pu.g6) (fun v2 h2 q2 => by
      rw [if_pos z1] at q2
      exact fq_M q2)
  · have hG : P.g - 1 < P.g := by omega
    have hG6 : P.g - 1 < 6 := by have := pu.g6; omega
    have cb0 := ic.pi (P.g - 1) hG
    refine ct_post (zX8_back X ic.F ic.pg pu.g6 cb0.2.1 cb0.1) (fun v h1 q => ?_)
    rw [if_neg z1] at q
    obtain ⟨rfl, r, rfl, hr⟩ := q
    have Kw : Kc (fun a i => a = 32 ∧ i = 2) (fun a _ => a = 0) (fun a => a = 0) h (wI h 32 2 (nI (P.g - 1))) := (Kc.rf ic.F).wI (by decide) ⟨rfl, rfl⟩
    have qb : CB (wI h 32 2 (nI (P.g - 1))) (77 + 4 * (P.g - 1)) (P.im (P.g - 1)) := (ic.pi (P.g - 1) hG).k Kw (by omega) (by intros; (try dsimp only); omega)
    have qc : CB (bmH (wI h 32 2 (nI (P.g - 1))) 33 (77 + 4 * (P.g - 1)) (P.im (P.g - 1)).n (P.im (P.g - 1)).A) 33 (P.im (P.g - 1)) := bmH_cb (by decide) (bk13 _ hG6) (by omega) qb
    have Kr : Kc (fun a i => a = 39) (fun a _ => a = 0) (fun a => a = 0) (bmH (wI h 32 2 (nI (P.g - 1))) 33 (77 + 4 * (P.g - 1)) (P.im (P.g - 1)).n (P.im (P.g - 1)).A) (rwR (bmH (wI h 32 2 (nI (P.g - 1))) 33 (77 + 4 * (P.g - 1)) (P.im (P.g - 1)).n (P.im (P.g - 1)).A) r) := (Kc.rf (bmH_F Kw.F (by decide))).rw (fun _ => rfl)
    have K : Kc (fun a i => (a = 33 ∨ a = 33 + 2 ∨ a = 33 + 3) ∨ (a = 32 ∧ i = 2) ∨ a = 39) (fun a _ => a = 33 + 1) (fun a => a = 0) h (rwR (bmH (wI h 32 2 (nI (P.g - 1))) 33 (77 + 4 * (P.g - 1)) (P.im (P.g - 1)).n (P.im (P.g - 1)).A) r) := (bmH_K ((Kc.rf ic.F).wI (by decide) (Or.inr (Or.inl ⟨rfl, rfl⟩))) (by decide) (fun j => ⟨Or.inl (Or.inl rfl), Or.inl (Or.inr (Or.inl rfl)), Or.inl (Or.inr (Or.inr rfl)), rfl⟩)).rw (fun _ => Or.inr (Or.inr rfl))
    have ic1 : IC (ppK (P.im (P.g - 1)) P.N P.T (P.g - 1) P.im P.l P.bt P.tS P.qS P.sL P.S P.E P.SI P.B P.ID) (rwR (bmH (wI h 32 2 (nI (P.g - 1))) 33 (77 + 4 * (P.g - 1)) (P.im (P.g - 1)).n (P.im (P.g - 1)).A) r) := ⟨K.F, qc.k Kr (by decide) (by intros; (try dsimp only); omega), fun s h1 h2 p hp => by
      show dgt (hI (rwR (bmH (wI h 32 2 (nI (P.g - 1))) 33 (77 + 4 * (P.g - 1)) (P.im (P.g - 1)).n (P.im (P.g - 1)).A) r) 39 s) p = _
      rw [rwR_39]
      exact hr s h1 h2 p hp, fun k hk => (K.i _ (by decide) _ (by intros; (try dsimp only); omega)).trans (ic.fn k hk), fun k hk => (K.i _ (by decide) _ (by intros; (try dsimp only); omega)).trans (ic.tl k hk), (rwR_I (by decide)).trans ((congrFun (bmH_I (by decide) (by decide) (by decide)) 2).trans wI_s), fun j hj => (ic.pi j (by have hj : j < P.g - 1 := hj; omega)).k K (by have hj : j < P.g - 1 := hj; omega) (by have hj : j < P.g - 1 := hj; intros; (try dsimp only); omega), ⟨(K.i _ (by decide) _ (by intros; (try dsimp only); omega)).trans ic.tp.1, ic.tp.2⟩, fun i hi => (K.i _ (by decide) _ (by intros; (try dsimp only); omega)).trans (ic.tb i hi), ic.sh.k K (by intros; (try dsimp only); omega), fun s hs i hi => (K.l _ (by omega) (by intros; (try dsimp only); omega) _).trans (ic.sl s hs i hi), ic.sp.k K (by intros; (try dsimp only); omega), fun a j e => Nat.lt_of_lt_of_le (ic.id a j e) K.up.1⟩
    have im1 : IM P (rwR (bmH (wI h 32 2 (nI (P.g - 1))) 33 (77 + 4 * (P.g - 1)) (P.im (P.g - 1)).n (P.im (P.g - 1)).A) r) := im.kc K (by intros; (try dsimp only); omega) (by intros; (try dsimp only); omega)
    refine res_c (P2 := (ppK (P.im (P.g - 1)) P.N P.T (P.g - 1) P.im P.l P.bt P.tS P.qS P.sL P.S P.E P.SI P.B P.ID)) rfl K.F im1 (fun F1 im1 => zX9_back X F1 im1.pg pu.g6) (fun v2 h2 q2 => ?_)
    rw [if_neg z1] at q2
    obtain ⟨rfl, S0, hg5, hE⟩ := q2
    obtain ⟨h3, e3, m3⟩ := im1.pi (P.g - 1) hG
    have S : Sf (fun a i => a = 112 ∨ a = 113 ∨ a = 111 ∨ a = 117 ∨ (a = 109 ∧ (i = 1 ∨ i = 3 ∨ i = 4 ∨ i = 35))) (rwR (bmH (wI h 32 2 (nI (P.g - 1))) 33 (77 + 4 * (P.g - 1)) (P.im (P.g - 1)).n (P.im (P.g - 1)).A) r) h2 := S0
    have e9 := S.2
    have eL : ∀ i, hL h2 124 i = hL (rwR (bmH (wI h 32 2 (nI (P.g - 1))) 33 (77 + 4 * (P.g - 1)) (P.im (P.g - 1)).n (P.im (P.g - 1)).A) r) 124 i := fun i => congrFun (congrFun (congrArg (fun z => z.1) S.1) 124) i
    refine ⟨congrArg (fun j => some (vI j)) (e3.2.2.1.trans m3.2.1.1), ic1.sf (show P.g - 1 ≤ 6 by omega) S (by intros; (try dsimp only); omega), ?_, ⟨(show P.g - 1 ≤ 6 by omega), pu.oki _ hG, fun j hj => pu.oki j (by have hj : j < P.g - 1 := hj; omega), pu.ji _ hG, fun j hj => pu.ji j (by have hj : j < P.g - 1 := hj; omega), pu.js, pu.inj, pu.lt, pu.aji _ hG, fun j hj => pu.aji j (by have hj : j < P.g - 1 := hj; omega), by have := pu.bc; show P.B ≤ _; omega⟩⟩
    have im := im1
    exact ⟨MB.im hE e3 m3, fun k hk => (e9 _ _ (by intros; (try dsimp only); omega)).trans (im.fn k hk), fun k hk => (e9 _ _ (by intros; (try dsimp only); omega)).trans (im.tl k hk), hg5, fun j hj => (im.pi j (by have hj : j < P.g - 1 := hj; omega)).elim (fun h3 q => ⟨h3, q.1.go (fun a i z => e9 a i (by intros; (try dsimp only); omega)), q.2⟩), im.tb.go (fun a i z => e9 a i (by intros; (try dsimp only); omega)), im.sh.go (fun a i z => e9 a i (by intros; (try dsimp only); omega)), fun s hs i hi => (eL _).trans (im.sl s hs i hi), fun i hi => (im.sp i hi).go (fun a z => e9 a i (by intros; (try dsimp only); omega)), (e9 _ _ (by intros; (try dsimp only); omega)).trans im.bn⟩
