/-! the class: its pile, its sheets (written by wip/p45/g92.py, much of it out of claims/whole) -/
theorem lgc_lt {a b : Int64} : lg_cmp a b < 0 ↔ a < b := by
  unfold lg_cmp
  by_cases z : a > b
  · rw [if_pos z]
    refine ⟨fun q => absurd q (by decide), fun q => ?_⟩
    have z1 := Int64.lt_iff_toInt_lt.mp z
    have z2 := Int64.lt_iff_toInt_lt.mp q
    omega
  · rw [if_neg z]
    by_cases w : a = b
    · rw [if_pos w]
      subst w
      refine ⟨fun q => absurd q (by decide), fun q => absurd q z⟩
    · rw [if_neg w]
      refine ⟨fun _ => ?_, fun _ => by decide⟩
      have z1 : ¬ b.toInt < a.toInt := fun q => z (Int64.lt_iff_toInt_lt.mpr q)
      have w1 : ¬ a.toInt = b.toInt := fun q => w (Int64.toInt_inj.mp q)
      exact Int64.lt_iff_toInt_lt.mpr (by omega)
theorem bt0 : ∀ j, j < 32 → btI 0 j = false := by decide +kernel
theorem bt1 : ∀ j, j < 32 → btI 1 j = decide (j = 0) := by decide +kernel
theorem bt_or1 {x : Int32} {j k : Nat} (hj : j < 12) (hk : k < 12) : btI (x ||| ((1 : Int32) <<< (nI j &&& 31))) k = if k = j then true else btI x k := by
  rw [btI_or, btI_shl (by omega) (by omega), bt1 _ (by omega)]
  by_cases e : k = j
  · rw [if_pos e, e]
    simp
  · rw [if_neg e]
    by_cases z : j ≤ k
    · rw [decide_eq_false (show ¬ k - j = 0 by omega)]; simp
    · rw [decide_eq_false z]; simp
theorem lg_0e {x y : Int64} (h : x = y) : lg_cmp x y = 0 := by
  rw [h]
  unfold lg_cmp
  rw [if_neg (fun z => by have := Int64.lt_iff_toInt_lt.mp z; omega), if_pos rfl]
theorem bmH_cb {h : HP} {a b : Nat} {k : BQ} (ha : a ∈ bkL) (hb : b ∈ bkL) (hab : a ≠ b) (q : CB h b k) : CB (bmH h a b k.2.1 k.2.2.2.1) a k := by
  obtain ⟨x1, x2, x3, x4, x5, x6⟩ := bk12 a ha b hb
  obtain ⟨y1, y2, y3, y4, y5, y6⟩ := bk12 b hb a ha
  have z := x4 hab
  exact ⟨bmH_C (by omega) (by omega) (by omega) q.1, bmH_B (by omega) q.2.1, fun i hi => (bmH_w (by omega) (by omega) hi).trans (q.2.2 i hi)⟩
theorem s_image (X : EX) {h : HP} {b c : BQ} {g : Nat} {tS : Nat → Int32} {qS : Nat → Nat} (cx : CX h b g c tS qS) (ow : OwB h b) (hg2 : g < 2) (hc : g = 0 ∨ c = b) : Ct X mX8_image 2 0 0 [vR (some 32)] h (fun v h' => v = some (vI (nI (g + 1))) ∧ CX h' b (g + 1) b tS qS ∧ OwB h' b ∧ CF h h' ∧ CL h h') := by
  obtain ⟨F, cb, pg, hg, pis, sh⟩ := cx
  refine ct_post (zX8_image X F pg (by omega) cb.2.1) (fun v h1 q => ?_)
  rw [if_neg (by omega)] at q
  obtain ⟨rfl, rfl⟩ := q
  have hk := bk13 g (by omega)
  have Kw : Kc (fun a i => a = 32 ∧ i = 2) (fun a _ => a = 0) (fun a => a = 0) (bmH h (77 + 4 * g) 33 b.2.1 b.2.2.2.1) (wI (bmH h (77 + 4 * g) 33 b.2.1 b.2.2.2.1) 32 2 (nI (g + 1))) := (Kc.rf (bmH_F F hk)).wI (by decide) ⟨rfl, rfl⟩
  have K : Kc (fun a i => (a = 77 + 4 * g ∨ a = 77 + 4 * g + 2 ∨ a = 77 + 4 * g + 3) ∨ (a = 32 ∧ i = 2)) (fun a _ => a = 77 + 4 * g + 1) (fun a => a = 0) h (wI (bmH h (77 + 4 * g) 33 b.2.1 b.2.2.2.1) 32 2 (nI (g + 1))) := (bmH_K (Kc.rf F) hk (fun j => ⟨Or.inl (Or.inl rfl), Or.inl (Or.inr (Or.inl rfl)), Or.inl (Or.inr (Or.inr rfl)), rfl⟩)).wI (by decide) (Or.inr ⟨rfl, rfl⟩)
  refine ⟨rfl, ⟨K.F, cb.k K (by decide) (by intros; (try dsimp only); omega), wI_s, by omega, fun j hj => ?_, sh.k K (by intros; (try dsimp only); omega)⟩, ow.k K (by intros; (try dsimp only); omega), CF.k K (by intros; (try dsimp only); omega) (by intros; (try dsimp only); omega), CL.k K (by decide)⟩
  by_cases e : j = g
  · rw [e]
    exact (bmH_cb hk (by decide) (by omega) cb).k Kw (by omega) (by intros; (try dsimp only); omega)
  · have h0 : c = b := by
      rcases hc with z | z
      · omega
      · exact z
    have k9 := (pis j (by omega)).k K (by omega) (by intros; (try dsimp only); omega)
    rw [h0] at k9
    exact k9
theorem s_back (X : EX) {h : HP} {b c : BQ} {g : Nat} {tS : Nat → Int32} {qS : Nat → Nat} (cx : CX h b (g + 1) c tS qS) : Ct X mX8_back 4 0 0 [vR (some 32)] h (fun v h' => v = some (vI (nI c.2.1)) ∧ CX h' c g c tS qS ∧ OwB h' c ∧ CF h h' ∧ CL h h') := by
  obtain ⟨F, cb, pg, hg, pis, sh⟩ := cx
  have cb0 := pis g (by omega)
  refine ct_post (zX8_back X F pg (by omega) (by rw [Nat.add_sub_cancel]; exact cb0.2.1) (by rw [Nat.add_sub_cancel]; exact cb0.1)) (fun v h1 q => ?_)
  rw [if_neg (by omega), Nat.add_sub_cancel] at q
  obtain ⟨rfl, r, rfl, hr⟩ := q
  have hk := bk13 g (by omega)
  have Kw : Kc (fun a i => a = 32 ∧ i = 2) (fun a _ => a = 0) (fun a => a = 0) h (wI h 32 2 (nI g)) := (Kc.rf F).wI (by decide) ⟨rfl, rfl⟩
  have qb : CB (wI h 32 2 (nI g)) (77 + 4 * g) c := cb0.k Kw (by omega) (by intros; (try dsimp only); omega)
  have qc : CB (bmH (wI h 32 2 (nI g)) 33 (77 + 4 * g) c.2.1 c.2.2.2.1) 33 c := bmH_cb (by decide) hk (by omega) qb
  have Kr : Kc (fun a i => a = 39) (fun a _ => a = 0) (fun a => a = 0) (bmH (wI h 32 2 (nI g)) 33 (77 + 4 * g) c.2.1 c.2.2.2.1) (rwR (bmH (wI h 32 2 (nI g)) 33 (77 + 4 * g) c.2.1 c.2.2.2.1) r) := (Kc.rf (bmH_F Kw.F (by decide))).rw (fun _ => rfl)
  have K : Kc (fun a i => (a = 33 ∨ a = 33 + 2 ∨ a = 33 + 3) ∨ (a = 32 ∧ i = 2) ∨ a = 39) (fun a _ => a = 33 + 1) (fun a => a = 0) h (rwR (bmH (wI h 32 2 (nI g)) 33 (77 + 4 * g) c.2.1 c.2.2.2.1) r) := (bmH_K ((Kc.rf F).wI (by decide) (Or.inr (Or.inl ⟨rfl, rfl⟩))) (by decide) (fun j => ⟨Or.inl (Or.inl rfl), Or.inl (Or.inr (Or.inl rfl)), Or.inl (Or.inr (Or.inr rfl)), rfl⟩)).rw (fun _ => Or.inr (Or.inr rfl))
  refine ⟨rfl, ⟨K.F, qc.k Kr (by decide) (by intros; (try dsimp only); omega), (rwR_I (by decide)).trans ((congrFun (bmH_I (by decide) (by decide) (by decide)) 2).trans wI_s), by omega, fun j hj => (pis j (by omega)).k K (by omega) (by intros; (try dsimp only); omega), sh.k K (by intros; (try dsimp only); omega)⟩, fun s h1 h2 p hp => ?_, CF.k K (by intros; (try dsimp only); omega) (by intros; (try dsimp only); omega), CL.k K (by decide)⟩
  rw [rwR_39]
  exact hr s h1 h2 p hp
theorem s_prune (X : EX) {h : HP} {f n g : Nat} {o A : Nat → Nat} {D : Nat → DD} {c : BQ} {tS : Nat → Int32} {qS : Nat → Nat} (cx : CX h (f, n, o, A, D) g c tS qS) : Ct X mX8_prune 3 0 0 [vR (some 32)] h (fun v h' => ∃ k A2 D2, k ≤ n ∧ v = some (vI (nI (n - k))) ∧ CX h' (f, k, o, A2, D2) g c tS qS ∧ CF h h' ∧ CL h h') := by
  obtain ⟨F, cb, pg, hg, pis, sh⟩ := cx
  have bf : BkF h f o := cb.1
  have b : BkD h n A D := cb.2.1
  refine ct_post (zX8_prune X F bf b) (fun v h1 q => ?_)
  obtain ⟨kp, hkp⟩ : ∃ kp, kp = kpP D (fo o f) (om f) := ⟨_, rfl⟩
  rw [← hkp] at q
  obtain ⟨rfl, rfl⟩ := q
  have hc := cnW_le (P := kp) (a := 0) n
  have hn := b.2.1
  have pb : BkD (prH h kp A n) n (kA kp A n) (kA kp D n) := prH_B b n (Nat.le_refl _)
  have K : Kc (fun a i => a = 33 ∧ i = 1) (fun a _ => a = 34) (fun a => a = 0) h (wI (prH h kp A n) 33 1 (nI (cnW kp 0 n))) := (prH_K (Kc.rf F) (fun _ => rfl) n).wI (by decide) ⟨rfl, rfl⟩
  exact ⟨cnW kp 0 n, kA kp A n, kA kp D n, hc, rfl, ⟨K.F, ⟨⟨(K.i 33 (by decide) 3 (by intros; (try dsimp only); omega)).trans bf.1, bf.2.1, fun y hy => (K.i 35 (by decide) y (by intros; (try dsimp only); omega)).trans (bf.2.2.1 y hy), bf.2.2.2⟩, ⟨wI_s, (show cnW kp 0 n ≤ 12 by omega), fun k hk => by
    have hk : k < cnW kp 0 n := hk
    have pk := pb.2.2 k (by omega)
    exact ⟨pk.1, pk.2.up (Up.wI (by decide))⟩⟩, fun i hi => (K.i 36 (by decide) i (by intros; (try dsimp only); omega)).trans (cb.2.2 i hi)⟩, (K.i _ (by decide) _ (by intros; (try dsimp only); omega)).trans pg, hg, pi.k pis hg K (by intros; (try dsimp only); omega), sh.k K (by intros; (try dsimp only); omega)⟩, CF.k K (by intros; (try dsimp only); omega) (by intros; (try dsimp only); omega), CL.k K (by decide)⟩
/-! sheets -/
theorem s_sheet (X : EX) {h : HP} {b c : BQ} {g s t n : Nat} {tS : Nat → Int32} {qS : Nat → Nat} (cx : CX h b g c tS qS) (ow : OwB h b) (hs : s < 4) (ht : t < 2) (hn : n ≤ 40) : Ct X mX8_sheet 1 0 0 [vR (some 32), vI (nI s), vI (nI t), vI (nI n)] h (fun v h' => v = some (vI (nI n)) ∧ CX h' b g c (upF tS s (nI t)) (upF qS s n) ∧ OwB h' b ∧ CF h h') := by
  have ht2 : t = 0 ∨ t = 1 := by omega
  refine ct_post (zX8_sheet X cx.1 (nI s) (nI t) (nI n)) (fun v h1 q => ?_)
  rw [if_neg (show ¬ (nI s < 0 ∨ 4 ≤ nI s) from nI_nx (N := 4) hs (by decide)), if_neg (show ¬ nI t < -1 by rcases ht2 with rfl | rfl <;> decide), if_pos (show nI t ≤ 2 by rcases ht2 with rfl | rfl <;> decide), if_neg (show ¬ nI t = -1 by rcases ht2 with rfl | rfl <;> decide), if_neg (show ¬ nI n < 0 from nI_pos (by omega)), if_pos (show nI n ≤ 40 from nI_le (b := 40) hn (by decide)), cl (by omega), cl (by omega)] at q
  obtain ⟨rfl, rfl⟩ := q
  have K : Kc (fun a i => a = 101 + 2 * s ∧ (i = 1 ∨ i = 2)) (fun a _ => a = 0) (fun a => a = 102 + 2 * s) h (shB h s (nI t) n) := by
    have K1 : Kc (fun a i => a = 101 + 2 * s ∧ (i = 1 ∨ i = 2)) (fun a _ => a = 0) (fun a => a = 102 + 2 * s) h (wI h (101 + 2 * s) 1 (nI t)) := (Kc.rf cx.1).wI (by omega) ⟨rfl, Or.inl rfl⟩
    have K2 : Kc (fun a i => a = 101 + 2 * s ∧ (i = 1 ∨ i = 2)) (fun a _ => a = 0) (fun a => a = 102 + 2 * s) h (wI (wI h (101 + 2 * s) 1 (nI t)) (101 + 2 * s) 2 (nI n)) := K1.wI (by omega) ⟨rfl, Or.inr rfl⟩
    exact zrL_K K2 (by omega) rfl n
  obtain ⟨F, cb, pg, hg, pis, sh⟩ := cx
  refine ⟨rfl, ⟨K.F, cb.k K (by decide) (by intros; (try dsimp only); omega), (K.i _ (by decide) _ (by intros; (try dsimp only); omega)).trans pg, hg, pi.k pis hg K (by intros; (try dsimp only); omega), fun s9 hs9 => ?_⟩, ow.k K (by intros; (try dsimp only); omega), CF.k K (by intros; (try dsimp only); omega) (by intros; (try dsimp only); omega)⟩
  have eI : hI (shB h s (nI t) n) = hI (wI (wI h (101 + 2 * s) 1 (nI t)) (101 + 2 * s) 2 (nI n)) := (zrL_I n).1
  unfold ShC
  rw [eI]
  by_cases e : s9 = s
  · rw [e, upF_s, upF_s]
    exact ⟨(wI_i (by decide)).trans wI_s, by rcases ht2 with rfl | rfl <;> decide, wI_s, hn⟩
  · rw [upF_o e, upF_o e]
    obtain ⟨x1, x2, x3, x4⟩ := sh s9 hs9
    exact ⟨(wI_a (by omega)).trans ((wI_a (by omega)).trans x1), x2, (wI_a (by omega)).trans ((wI_a (by omega)).trans x3), x4⟩
theorem pv0 : ∀ w, w < 12 → pvR 0 (lN w) = lN w := by decide +kernel
theorem s_write (X : EX) {h : HP} {b c : BQ} {g i k : Nat} {tS : Nat → Int32} {qS : Nat → Nat} (cx : CX h b g c tS qS) (ow : OwB h b) (h0 : tS 0 = 0) (hi : i < qS 0) (hk : k < 12) : Ct X mX8_write 1 0 0 [vR (some 32), vI (nI 0), vI (nI i), vL (lN k)] h (fun v h' => v = some (vI 1) ∧ CX h' b g c tS qS ∧ OwB h' b ∧ CF h h' ∧ hL h' 102 i = lN k ∧ ∀ j, j ≠ i → hL h' 102 j = hL h 102 j) := by
  have hq := (cx.2.2.2.2.2 0 (by decide)).2.2.2
  refine ct_post (zX8_write X cx.1 cx.2.2.2.2.2 (nI 0) (nI i) (lN k)) (fun v h1 q => ?_)
  rw [if_neg (show ¬ (nI 0 < 0 ∨ 4 ≤ nI 0) from nI_nx (N := 4) (by decide) (by decide)), cl (by decide), h0, if_neg (by decide), if_neg (nI_nx hi (by omega)), cl (by omega), pv0 k hk] at q
  obtain ⟨rfl, rfl⟩ := q
  have K : Kc (fun a i => a = 0 ∧ False) (fun a _ => a = 0 ∧ False) (fun a => a = 102) h (wL h (102 + 2 * 0) i (lN k)) := Kc.wL (Kc.rf cx.1) (b := 102) (j := i) (v := lN k) (by decide) rfl
  exact ⟨rfl, cx.k K (fun a j _ z => z.2.elim) (fun a j _ z => z.2), ow.k K (fun j z => z.2), CF.k K (fun a j _ z => z.2) (fun a j _ z => z.2), up2_s, fun j hj => up2_i hj⟩
theorem s_lays (X : EX) {h : HP} {f n g s : Nat} {o A : Nat → Nat} {D : Nat → DD} {c : BQ} {tS : Nat → Int32} {qS : Nat → Nat} (cx : CX h (f, n, o, A, D) g c tS qS) (ow : OwB h (f, n, o, A, D)) (h1 : fo o f ≤ s) (h2 : s < fo o f + om f) (t1 : tS 1 = 1) (q1 : qS 1 = 12) : Ct X mX8_lays 3 0 0 [vR (some 32), vI (nI 1), vI (nI s)] h (fun v h' => v = some (vI (nI 12)) ∧ CX h' (f, n, o, A, D) g c tS qS ∧ OwB h' (f, n, o, A, D) ∧ CF h h' ∧ CL h h' ∧ ∀ p, p < 12 → hL h' 104 p = (dgt (hI h' 39 s) p).toInt64) := by
  have bf : BkF h f o := cx.2.1.1
  have hb6 := om_fo bf.2.1 bf.2.2.2
  have wD : ∀ k, k < n → dWf (D k) := fun k hk => (cx.2.1.2.1.2.2 k hk).2.2.2.1
  refine ct_post (zX8_lays X cx.1 bf cx.2.2.2.2.2 (nI 1) (nI s)) (fun v h9 q => ?_)
  rw [if_neg (show ¬ (nI 1 < 0 ∨ 4 ≤ nI 1) from nI_nx (N := 4) (by decide) (by decide)), if_pos ⟨nI_le h1 (by omega), nI_lt h2 (by omega)⟩, cl (by decide), t1, if_neg (by decide), q1, cl (by omega)] at q
  obtain ⟨rfl, rfl⟩ := q
  have K : Kc (fun a i => a = 0 ∧ False) (fun a _ => a = 0 ∧ False) (fun a => a = 104) h (layH h (102 + 2 * 1) s 1 (min 12 12)) := layH_K (ML := fun a => a = 104) (Kc.rf cx.1) (a := 102 + 2 * 1) (by decide) rfl _
  refine ⟨rfl, cx.k K (fun a j _ z => z.2.elim) (fun a j _ z => z.2), ow.k K (fun j z => z.2), CF.k K (fun a j _ z => z.2) (fun a j _ z => z.2), CL.k K (by decide), fun p hp => ?_⟩
  rw [K.i 39 (by decide) s (fun z => z.2), layH_L (a := 102 + 2 * 1) (b := 104), if_pos ⟨rfl, hp⟩, ow s h1 h2 p hp]
  exact pv3 _ (ow_lt wD) 1 (by decide)
theorem s_judge (X : EX) {h : HP} {f n g s : Nat} {o A : Nat → Nat} {D : Nat → DD} {c : BQ} {tS : Nat → Int32} {qS : Nat → Nat} (cx : CX h (f, n, o, A, D) g c tS qS) (h1 : fo o f ≤ s) (h2 : s < fo o f + om f) (t1 : tS 1 = 1) (q1 : qS 1 = 12) (e : ∀ p, p < 12 → hL h 104 p = (dgt (hI h 39 s) p).toInt64) : Ct X mX8_judge 3 0 0 [vR (some 32), vI (nI 1), vI (nI s)] h (Rt (vI 0) h) := by
  have bf : BkF h f o := cx.2.1.1
  have hb6 := om_fo bf.2.1 bf.2.2.2
  refine ct_post (zX8_judge X cx.1 bf cx.2.2.2.2.2 (nI 1) (nI s)) (fun v h9 q => ?_)
  rw [if_neg (show ¬ (nI 1 < 0 ∨ 4 ≤ nI 1) from nI_nx (N := 4) (by decide) (by decide)), if_pos ⟨nI_le h1 (by omega), nI_lt h2 (by omega)⟩, cl (by decide), t1, if_neg (by decide), q1, cl (by omega)] at q
  have e9 : jdR h (102 + 2 * 1) s 12 = 0 := by
    unfold jdR
    rw [show frW (jdB h (102 + 2 * 1) s) 0 (min 12 12) = none from frW_no (fun p _ hp => decide_eq_false (fun z => z (lg_0e (e p (by omega)))))]
    rfl
  rw [e9] at q
  exact q
/-! the DEALS told one by one -/
theorem goR_cg {D : Nat → DD} {s : Nat} {σ τ : Nat → Nat} {t : RS} : ∀ {i : Nat}, (∀ j, j < i → σ j = τ j) → goR D s σ i t = goR D s τ i t := by
  intro i
  induction i with
  | zero => intro _; rfl
  | succ i ih =>
    intro h
    unfold goR
    rw [ih (fun j hj => h j (by omega)), h i (by omega)]
theorem crR_cg {D : Nat → DD} {s q : Nat} {σ τ : Nat → Nat} (h : ∀ j, j < q → σ j = τ j) : ∀ {m u : Nat} {t : RS}, crR D s σ q m u t = crR D s τ q m u t := by
  intro m
  induction m with
  | zero => intro u t; rfl
  | succ m ih =>
    intro u t
    rw [crR_s, crR_s, goR_cg h, ih]
theorem ted_ok {h : HP} {a n : Nat} {σ : Nat → Nat} (hn : n ≤ 12) (hσ : ∀ i, i < n → hL h a i = lN (σ i) ∧ σ i < n) (hj : ∀ i j, i < n → j < n → σ i = σ j → i = j) : ∀ (m i : Nat) (g : Int32), i + m = n → (∀ k, k < 12 → btI g k = true → ∃ j, j < i ∧ σ j = k) → tedR h a n i m g = true := by
  intro m
  induction m with
  | zero => intro i g _ _; rfl
  | succ m ih =>
    intro i g hi hg
    obtain ⟨e, hlt⟩ := hσ i (by omega)
    have hb : btI g (σ i) = false := Bool.eq_false_iff.mpr (fun z => by
      obtain ⟨j, h1, h2⟩ := hg (σ i) (by omega) z
      have := hj j i (by omega) (by omega) h2
      omega)
    have h1 : ¬ lg_cmp (lN (σ i)) 0 < 0 := fun z => by
      have := lgc_lt.mp z
      rw [show (0 : Int64) = lN 0 from rfl, lN_lt (by omega) (by decide)] at this
      omega
    have h2 : lg_cmp (lN (σ i)) (nI n).toInt64 < 0 := lgc_lt.mpr (by rw [nI_l (by omega), lN_lt (by omega) (by omega)]; exact hlt)
    have h3 : (g >>> (nI (σ i) &&& 31)) &&& 1 = 0 := by rw [btI_and1 (by omega), if_neg (by rw [hb]; decide)]
    rw [tedR_s, if_pos, e, lN_i]
    · refine ih (i + 1) _ (by omega) (fun k hk z => ?_)
      rw [bt_or1 (by omega) hk] at z
      by_cases y : k = σ i
      · exact ⟨i, by omega, y.symm⟩
      · rw [if_neg y] at z
        obtain ⟨j, g1, g2⟩ := hg k hk z
        exact ⟨j, by omega, g2⟩
    · unfold tedB
      rw [e, lN_i]
      exact decide_eq_true ⟨h1, h2, h3⟩
theorem s_rounds (X : EX) {h : HP} {f n g s : Nat} {o A σ : Nat → Nat} {D : Nat → DD} {c : BQ} {tS : Nat → Int32} {qS : Nat → Nat} (cx : CX h (f, n, o, A, D) g c tS qS) (ow : OwB h (f, n, o, A, D)) (h1 : fo o f ≤ s) (h2 : s < fo o f + om f) (t0 : tS 0 = 0) (q0 : qS 0 = n) (hσ : ∀ i, i < n → hL h 102 i = lN (σ i) ∧ σ i < n) (hj : ∀ i j, i < n → j < n → σ i = σ j → i = j) : Ct X mX8_rounds 6 2 16 [vR (some 32), vI (nI 0), vI (nI s)] h (fun v h' => v = some (vI (nI (crR D s σ n 24 1 rd0))) ∧ CX h' (f, n, o, A, D) g c tS qS ∧ OwB h' (f, n, o, A, D) ∧ CF h h' ∧ CL h h') := by
  have bf : BkF h f o := cx.2.1.1
  have b : BkD h n A D := cx.2.1.2.1
  have hb6 := om_fo bf.2.1 bf.2.2.2
  have hn12 := b.2.1
  refine ct_post (zX8_rounds X cx.1 bf b cx.2.2.2.2.2 (nI 0) (nI s)) (fun v h9 q => ?_)
  rw [if_neg (show ¬ (nI 0 < 0 ∨ 4 ≤ nI 0) from nI_nx (N := 4) (by decide) (by decide)), if_pos ⟨nI_le h1 (by omega), nI_lt h2 (by omega)⟩, cl (by decide), t0, if_neg (by decide), q0, if_pos rfl, if_pos (ted_ok hn12 hσ hj n 0 0 (by omega) (fun k hk z => by rw [bt0 k (by omega)] at z; cases z)), cl (by omega)] at q
  obtain ⟨rfl, G⟩ := q
  have K : Kc (fun a _ => a = 0 ∧ False) (fun a _ => a = 0 ∧ False) (fun a => a = 0 ∧ False) h h9 := Kc.gb cx.1 G
  refine ⟨?_, cx.k K (fun a j _ z => z.2.elim) (fun a j _ z => z.2), ow.k K (fun j z => z.2), CF.k K (fun a j _ z => z.2) (fun a j _ z => z.2), CL.k K (fun z => z.2)⟩
  rw [crR_cg (σ := sgR h (102 + 2 * 0)) (τ := σ) (fun j hj => by
    show (hL h 102 j).toInt32.toNatClampNeg = σ j
    obtain ⟨e, hl⟩ := hσ j hj
    rw [e, lN_i, cl (by omega)])]
