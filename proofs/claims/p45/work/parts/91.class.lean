/-! the class between calls: what holds, steps (written by wip/p45/g91.py, much of it out of claims/whole) -/
def Kc (M MR : Nat → Nat → Prop) (ML : Nat → Prop) (h h2 : HP) : Prop := (Up h h2) ∧ (Fx h2) ∧ (∀ a, a < 116 → ∀ j, ¬ M a j → hI h2 a j = hI h a j) ∧ (∀ a, a < 116 → ∀ j, ¬ MR a j → hR h2 a j = hR h a j) ∧ (∀ a, a < 116 → ¬ ML a → ∀ j, hL h2 a j = hL h a j)
theorem Kc.up {M MR : Nat → Nat → Prop} {ML : Nat → Prop} {h h2 : HP} (k : Kc M MR ML h h2) : Up h h2 := k.1
theorem Kc.F {M MR : Nat → Nat → Prop} {ML : Nat → Prop} {h h2 : HP} (k : Kc M MR ML h h2) : Fx h2 := k.2.1
theorem Kc.i {M MR : Nat → Nat → Prop} {ML : Nat → Prop} {h h2 : HP} (k : Kc M MR ML h h2) : ∀ a, a < 116 → ∀ j, ¬ M a j → hI h2 a j = hI h a j := k.2.2.1
theorem Kc.r {M MR : Nat → Nat → Prop} {ML : Nat → Prop} {h h2 : HP} (k : Kc M MR ML h h2) : ∀ a, a < 116 → ∀ j, ¬ MR a j → hR h2 a j = hR h a j := k.2.2.2.1
theorem Kc.l {M MR : Nat → Nat → Prop} {ML : Nat → Prop} {h h2 : HP} (k : Kc M MR ML h h2) : ∀ a, a < 116 → ¬ ML a → ∀ j, hL h2 a j = hL h a j := k.2.2.2.2
theorem Kc.rf {h : HP} (F : Fx h) {M MR : Nat → Nat → Prop} {ML : Nat → Prop} : Kc M MR ML h h := ⟨Up.rf h, F, fun _ _ _ _ => rfl, fun _ _ _ _ => rfl, fun _ _ _ _ => rfl⟩
theorem Kc.tr {M MR : Nat → Nat → Prop} {ML : Nat → Prop} {h1 h2 h3 : HP} (a : Kc M MR ML h1 h2) (b : Kc M MR ML h2 h3) : Kc M MR ML h1 h3 := ⟨a.up.tr b.up, b.F, fun x hx j z => (b.i x hx j z).trans (a.i x hx j z), fun x hx j z => (b.r x hx j z).trans (a.r x hx j z), fun x hx z j => (b.l x hx z j).trans (a.l x hx z j)⟩
theorem Kc.wI {M MR : Nat → Nat → Prop} {ML : Nat → Prop} {h h2 : HP} (k : Kc M MR ML h h2) {b j : Nat} {v : Int32} (hb : b < 116) (hm : M b j) : Kc M MR ML h (wI h2 b j v) := ⟨k.up.tr (Up.wI hb), k.F, fun x hx i z => (if_neg (fun q => z (by rw [q.1, q.2]; exact hm))).trans (k.i x hx i z), k.r, k.l⟩
theorem Kc.wL {M MR : Nat → Nat → Prop} {ML : Nat → Prop} {h h2 : HP} (k : Kc M MR ML h h2) {b j : Nat} {v : Int64} (hb : b < 116) (hm : ML b) : Kc M MR ML h (wL h2 b j v) := ⟨k.up.tr (Up.wL hb), k.F, k.i, k.r, fun x hx z i => (if_neg (fun q => z (by rw [q.1]; exact hm))).trans (k.l x hx z i)⟩
theorem Kc.wR {M MR : Nat → Nat → Prop} {ML : Nat → Prop} {h h2 : HP} (k : Kc M MR ML h h2) {b j : Nat} {v : Option Nat} (hb : b < 116) (hF : Fx (wR h2 b j v)) (hm : MR b j) : Kc M MR ML h (wR h2 b j v) := ⟨k.up.tr (Up.wR hb), hF, k.i, fun x hx i z => (if_neg (fun q => z (by rw [q.1, q.2]; exact hm))).trans (k.r x hx i z), k.l⟩
theorem Kc.gb {M MR : Nat → Nat → Prop} {ML : Nat → Prop} {h h2 : HP} (F : Fx h) (g : Gb h h2) : Kc M MR ML h h2 := ⟨g.up, g.F F, fun a ha j _ => ((g.2 a (Nat.lt_of_lt_of_le ha F.1)).1 j).1, fun a ha j _ => ((g.2 a (Nat.lt_of_lt_of_le ha F.1)).1 j).2.2, fun a ha _ j => ((g.2 a (Nat.lt_of_lt_of_le ha F.1)).1 j).2.1⟩
theorem Kc.rw {M MR : Nat → Nat → Prop} {ML : Nat → Prop} {h h2 : HP} (k : Kc M MR ML h h2) {r : Nat → Int32} (hm : ∀ j, M 39 j) : Kc M MR ML h (rwR h2 r) := ⟨k.up.tr Up.rw, k.F, fun x hx i z => (rwR_I (fun e => z (by rw [e]; exact hm i))).trans (k.i x hx i z), k.r, k.l⟩
theorem fo_cg {o o2 : Nat → Nat} : ∀ {f : Nat}, (∀ y, y < f → o2 y = o y) → fo o2 f = fo o f := by
  intro f
  induction f with
  | zero => intro _; rfl
  | succ f ih =>
    intro h
    unfold fo
    rw [ih (fun y hy => h y (by omega)), h f (by omega)]
theorem om_st : ∀ f, f < 4 → om (f + 1) = stp f ∧ om f = 6 * stp f := by decide
theorem fall_in {o : Nat → Nat} {f x : Nat} (hf : f < 4) (hx : x < 6) {s : Nat} (h1 : fo (fun y => if y = f then x else o y) (f + 1) ≤ s) (h2 : s < fo (fun y => if y = f then x else o y) (f + 1) + om (f + 1)) : fo o f ≤ s ∧ s < fo o f + om f := by
  have e : fo (fun y => if y = f then x else o y) (f + 1) = fo o f + x * stp f := by
    show fo (fun y => if y = f then x else o y) f + (if f = f then x else o f) * stp f = _
    rw [if_pos rfl, fo_cg (o := o) (fun y hy => if_neg (by omega))]
  obtain ⟨a, b⟩ := om_st f hf
  rw [e, a] at h2
  rw [e] at h1
  have : x * stp f ≤ 5 * stp f := Nat.mul_le_mul_right _ (by omega)
  omega
theorem zrL_L {h : HP} {a b i : Nat} : ∀ k, hL (zrL h a k) b i = if b = a ∧ i < k then 0 else hL h b i := by
  intro k
  induction k with
  | zero => rw [if_neg (by omega)]; rfl
  | succ k ih =>
    show (if b = a ∧ i = k then 0 else hL (zrL h a k) b i) = _
    by_cases z : b = a ∧ i = k
    · rw [if_pos z, if_pos (by omega)]
    · rw [if_neg z, ih]
      by_cases w : b = a ∧ i < k
      · rw [if_pos w, if_pos (by omega)]
      · rw [if_neg w, if_neg (by omega)]
theorem zrL_I {h : HP} {a : Nat} : ∀ k, hI (zrL h a k) = hI h ∧ (zrL h a k).2.2 = h.2.2 := by
  intro k
  induction k with
  | zero => exact ⟨rfl, rfl⟩
  | succ k ih => exact ih
theorem zrL_K {M MR : Nat → Nat → Prop} {ML : Nat → Prop} {h h2 : HP} (k0 : Kc M MR ML h h2) {a : Nat} (ha : a < 116) (hm : ML a) : ∀ k, Kc M MR ML h (zrL h2 a k) := by
  intro k
  induction k with
  | zero => exact k0
  | succ k ih => exact ih.wL ha hm
theorem layH_L {h : HP} {a s b i : Nat} {t : Int32} : ∀ k, hL (layH h a s t k) b i = if b = a ∧ i < k then pvR t (dgt (hI h 39 s) i).toInt64 else hL h b i := by
  intro k
  induction k with
  | zero => rw [if_neg (by omega)]; rfl
  | succ k ih =>
    show (if b = a ∧ i = k then _ else hL (layH h a s t k) b i) = _
    rw [ih]
    by_cases e : b = a ∧ i = k
    · rw [if_pos e, if_pos (by omega), e.2]
    · rw [if_neg e]
      by_cases e2 : b = a ∧ i < k
      · rw [if_pos e2, if_pos (by omega)]
      · rw [if_neg e2, if_neg (by omega)]
theorem layH_K {M MR : Nat → Nat → Prop} {ML : Nat → Prop} {h h2 : HP} (k0 : Kc M MR ML h h2) {a s : Nat} {t : Int32} (ha : a < 116) (hm : ML a) : ∀ k, Kc M MR ML h (layH h2 a s t k) := by
  intro k
  induction k with
  | zero => exact k0
  | succ k ih => exact ih.wL ha hm
theorem pv3 : ∀ w, w < 3 → ∀ t : Int32, (t = 0 ∨ t = 1 ∨ t = 2) → pvR t (nI w).toInt64 = (nI w).toInt64 := by
  intro w hw t ht
  have h3 : ∀ w, w < 3 → pvR 0 (nI w).toInt64 = (nI w).toInt64 ∧ pvR 1 (nI w).toInt64 = (nI w).toInt64 ∧ pvR 2 (nI w).toInt64 = (nI w).toInt64 := by decide
  obtain ⟨a, b, d⟩ := h3 w hw
  rcases ht with rfl | rfl | rfl
  · exact a
  · exact b
  · exact d
theorem Own.cg {h : HP} {f n : Nat} {o : Nat → Nat} {D D2 : Nat → DD} (w : Own h f o n D) (hD : ∀ k, k < n → D2 k = D k) : Own h f o n D2 := fun s h1 h2 p hp => (w s h1 h2 p hp).trans (congrArg nI (ow_cg hD).symm)
theorem tkn_up {h : HP} {n a s0 m : Nat} {d : DD} : Up h (tkn h n a d s0 m) := ((Up.wR (by decide)).tr (Up.wI (by decide))).tr Up.rw
theorem tkn_I {h : HP} {n a s0 m b i : Nat} {d : DD} (h1 : b ≠ 39) (h2 : ¬ (b = 33 ∧ i = 1)) : hI (tkn h n a d s0 m) b i = hI h b i := (rwR_I h1).trans (if_neg h2)
theorem tkn_R {h : HP} {n a s0 m b i : Nat} {d : DD} (h1 : ¬ (b = 34 ∧ i = n)) : hR (tkn h n a d s0 m) b i = hR h b i := if_neg h1
theorem tkn_bd {h : HP} {n a s0 m : Nat} {A : Nat → Nat} {D : Nat → DD} {d : DD} (b : BkD h n A D) (hn : n < 12) (kd : DealC h a d) (hA : A n = a) (hD : D n = d) : BkD (tkn h n a d s0 m) (n + 1) A D := ⟨tkn_33, hn, fun k hk => by
  by_cases e : k = n
  · rw [e, hA, hD]
    exact ⟨up2_s, kd.up tkn_up⟩
  · have := b.2.2 k (by omega)
    exact ⟨(tkn_R (by omega)).trans this.1, this.2.up tkn_up⟩⟩
theorem tkn_ow {h : HP} {n a f : Nat} {o : Nat → Nat} {D : Nat → DD} {d : DD} (w : dWf d) (O : Own h f o n D) (hD : D n = d) : Own (tkn h n a d (fo o f) (om f)) f o (n + 1) D := fun s h1 h2 p hp => by
  have e : hI (tkn h n a d (fo o f) (om f)) 39 s = stl d s (hI h 39 s) := by
    unfold tkn
    rw [rwR_39]
    unfold rng
    rw [if_pos ⟨h1, h2⟩]
    exact congrArg (stl d s) (wI_a (by decide))
  rw [e]
  exact own_step w hp hD (O s h1 h2 p hp)
theorem prH_K {M MR : Nat → Nat → Prop} {ML : Nat → Prop} {h h2 : HP} (k0 : Kc M MR ML h h2) {P : Nat → Bool} {A : Nat → Nat} (hm : ∀ j, MR 34 j) : ∀ k, Kc M MR ML h (prH h2 P A k) := by
  intro k
  induction k with
  | zero => exact k0
  | succ k ih =>
    unfold prH
    split
    · exact ih.wR (by decide) (ih.F.wR rfl) (hm _)
    · exact ih
theorem bmH_K {M MR : Nat → Nat → Prop} {ML : Nat → Prop} {h h2 : HP} (k0 : Kc M MR ML h h2) {a b n : Nat} {A : Nat → Nat} (ha : a ∈ bkL) (hm : ∀ j, M a j ∧ M (a + 2) j ∧ M (a + 3) j ∧ MR (a + 1) j) : Kc M MR ML h (bmH h2 a b n A) := ⟨k0.up.tr (bmH_U (bk12 a ha a ha).2.2.2.2.1), bmH_F k0.F ha, fun x hx i z => (congrFun (bmH_I (fun e => z (by rw [e]; exact (hm i).1)) (fun e => z (by rw [e]; exact (hm i).2.1)) (fun e => z (by rw [e]; exact (hm i).2.2.1))) i).trans (k0.i x hx i z), fun x hx i z => (congrFun (bmH_R (fun e => z (by rw [e]; exact (hm i).2.2.2))) i).trans (k0.r x hx i z), fun x hx z i => (congrFun (congrFun bmH_r.1 x) i).trans (k0.l x hx z i)⟩
/-- the prices as they are at first -/
def W3 (i : Nat) : Nat := [8, 4, 2].getD i 0
/-- a book: FALLEN YEARS, how many deals, ORDERS, the deals' cells, the deals -/
abbrev BQ : Type := Nat × Nat × (Nat → Nat) × (Nat → Nat) × (Nat → DD)
def CB (h : HP) (a : Nat) (b : BQ) : Prop := BkFg h a b.1 b.2.2.1 ∧ BkDg h a b.2.1 b.2.2.2.1 b.2.2.2.2 ∧ ∀ i, i < 3 → hI h (a + 3) i = nI (W3 i)
/-- the class: its book, its pile, its sheets -/
def CX (h : HP) (b : BQ) (g : Nat) (c : BQ) (tS : Nat → Int32) (qS : Nat → Nat) : Prop := Fx h ∧ CB h 33 b ∧ hI h 32 2 = nI g ∧ g ≤ 2 ∧ (∀ j, j < g → CB h (77 + 4 * j) c) ∧ ShA h tS qS
def OwB (h : HP) (b : BQ) : Prop := Own h b.1 b.2.2.1 b.2.1 b.2.2.2.2
/-- no deal clashes -/
def okQ (b : BQ) : Prop := ∀ s, fo b.2.2.1 b.1 ≤ s → s < fo b.2.2.1 b.1 + om b.1 → okD b.2.2.2.2 b.2.1 s
/-- what a step of the class leaves: all that is the law's -/
def CF (h h2 : HP) : Prop := Up h h2 ∧ Fx h2 ∧ ∀ a, 109 ≤ a → a < 116 → ∀ j, hI h2 a j = hI h a j ∧ hR h2 a j = hR h a j
theorem CF.rf {h : HP} (F : Fx h) : CF h h := ⟨Up.rf h, F, fun _ _ _ _ => ⟨rfl, rfl⟩⟩
theorem CF.tr {h1 h2 h3 : HP} (a : CF h1 h2) (b : CF h2 h3) : CF h1 h3 := ⟨a.1.tr b.1, b.2.1, fun x y z j => ⟨(b.2.2 x y z j).1.trans (a.2.2 x y z j).1, (b.2.2 x y z j).2.trans (a.2.2 x y z j).2⟩⟩
/-- the numbers of the first sheet stay -/
def CL (h h2 : HP) : Prop := ∀ i, hL h2 102 i = hL h 102 i
section KC
variable {M MR : Nat → Nat → Prop} {ML : Nat → Prop} {h h2 : HP}
theorem CF.k (K : Kc M MR ML h h2) (c1 : ∀ a j, 109 ≤ a → ¬ M a j) (c2 : ∀ a j, 109 ≤ a → ¬ MR a j) : CF h h2 := ⟨K.up, K.F, fun a h1 h2 j => ⟨K.i a h2 j (c1 a j h1), K.r a h2 j (c2 a j h1)⟩⟩
theorem CL.k (K : Kc M MR ML h h2) (c : ¬ ML 102) : CL h h2 := fun i => K.l 102 (by decide) c i
theorem CB.k {a : Nat} {b : BQ} (q : CB h a b) (K : Kc M MR ML h h2) (ha : a + 3 < 116) (c : ∀ j, ¬ M a j ∧ ¬ M (a + 2) j ∧ ¬ M (a + 3) j ∧ ¬ MR (a + 1) j) : CB h2 a b := by
  obtain ⟨⟨f1, f2, f3, f4⟩, ⟨d1, d2, d3⟩, w⟩ := q
  exact ⟨⟨(K.i _ (by omega) _ (c _).1).trans f1, f2, fun y hy => (K.i _ (by omega) _ (c _).2.1).trans (f3 y hy), f4⟩, ⟨(K.i _ (by omega) _ (c _).1).trans d1, d2, fun k hk => ⟨(K.r _ (by omega) _ (c _).2.2.2).trans (d3 k hk).1, (d3 k hk).2.up K.up⟩⟩, fun i hi => (K.i _ (by omega) _ (c _).2.2.1).trans (w i hi)⟩
theorem Own.k {f n : Nat} {o : Nat → Nat} {D : Nat → DD} (q : Own h f o n D) (K : Kc M MR ML h h2) (c : ∀ j, ¬ M 39 j) : Own h2 f o n D := fun s h1 h2 p hp => by
  rw [K.i 39 (by decide) s (c s)]
  exact q s h1 h2 p hp
theorem pi.k {g : Nat} {b : BQ} (q : ∀ j, j < g → CB h (77 + 4 * j) b) (hg : g ≤ 2) (K : Kc M MR ML h h2) (c : ∀ a, 77 ≤ a → a < 101 → ∀ j, ¬ M a j ∧ ¬ MR a j) : ∀ j, j < g → CB h2 (77 + 4 * j) b := fun j hj => (q j hj).k K (by omega) (fun i => ⟨(c _ (by omega) (by omega) i).1, (c _ (by omega) (by omega) i).1, (c _ (by omega) (by omega) i).1, (c _ (by omega) (by omega) i).2⟩)
theorem ShA.k {tS : Nat → Int32} {qS : Nat → Nat} (q : ShA h tS qS) (K : Kc M MR ML h h2) (c : ∀ a, 101 ≤ a → a < 109 → ∀ j, ¬ M a j) : ShA h2 tS qS := fun s hs => by
  obtain ⟨a, b, d, e⟩ := q s hs
  exact ⟨(K.i _ (by omega) _ (c _ (by omega) (by omega) _)).trans a, b, (K.i _ (by omega) _ (c _ (by omega) (by omega) _)).trans d, e⟩
/-- a step that changes nothing of it -/
theorem CX.k {b c : BQ} {g : Nat} {tS : Nat → Int32} {qS : Nat → Nat} (q : CX h b g c tS qS) (K : Kc M MR ML h h2) (c1 : ∀ a j, a < 109 → M a j → a = 75 ∨ a = 76) (c2 : ∀ a j, a < 109 → ¬ MR a j) : CX h2 b g c tS qS := by
  obtain ⟨q1, q2, q3, q4, q5, q6⟩ := q
  have n1 : ∀ a, a < 109 → a ≠ 75 → a ≠ 76 → ∀ j, ¬ M a j := fun a h1 h2 h3 j z => by have := c1 a j h1 z; omega
  exact ⟨K.F, q2.k K (by decide) (fun j => ⟨n1 _ (by decide) (by decide) (by decide) j, n1 _ (by decide) (by decide) (by decide) j, n1 _ (by decide) (by decide) (by decide) j, c2 _ _ (by decide)⟩), (K.i _ (by decide) _ (n1 _ (by decide) (by decide) (by decide) _)).trans q3, q4, pi.k q5 q4 K (fun a h1 h2 j => ⟨n1 a (by omega) (by omega) (by omega) j, c2 a j (by omega)⟩), q6.k K (fun a h1 h2 j => n1 a (by omega) (by omega) (by omega) j)⟩
theorem OwB.k {b : BQ} (q : OwB h b) (K : Kc M MR ML h h2) (c : ∀ j, ¬ M 39 j) : OwB h2 b := Own.k q K c
end KC
/-! steps of the law leave the class -/
theorem DealC.lf {h h2 : HP} {a : Nat} {d : DD} (q : DealC h a d) (k : LF h h2) : DealC h2 a d := by
  obtain ⟨k0, k1, k2, e0, e1, e2, e3, e4, e5, k3⟩ := q
  obtain ⟨p1, p2, p3, p4, p5⟩ := k.2 a k1.2.1
  have p4 := p4 (by omega)
  have p5 := p5 (by omega) (by have := k1.2.2; omega)
  refine ⟨k0, k.is k1, k2, (p4 _).trans e0, (p4 _).trans e1, (p4 _).trans e2, (p4 _).trans e3, (p4 _).trans e4, (p4 _).trans e5, ?_⟩
  rcases k3 with ⟨c1, c2⟩ | ⟨c1, sb, c2, c3, c4, c5⟩
  · exact Or.inl ⟨c1, (p5 _).trans c2⟩
  · obtain ⟨s1, wb, s2, s3, s4, s5⟩ := c4
    have r1 := (k.2 sb s1.2.1).2.2.2.2 (by omega) (by have := s1.2.2; omega)
    exact Or.inr ⟨c1, sb, (p5 _).trans c2, c3, ⟨k.is s1, wb, (r1 _).trans s2, k.is s3, (k.2 wb s3.2.1).2.1.trans s4, fun s hs => by rw [(k.2 wb s3.2.1).2.2.1]; exact s5 s hs⟩, fun wb hw => c5 wb ((r1 _).symm.trans hw)⟩
theorem CB.lf {h h2 : HP} {a : Nat} {b : BQ} (q : CB h a b) (k : LF h h2) (F : Fx h) (ha : a + 3 < 109) : CB h2 a b := by
  have hz : 116 ≤ hZ h := F.1
  obtain ⟨⟨f1, f2, f3, f4⟩, ⟨d1, d2, d3⟩, w⟩ := q
  have eI : ∀ x, x < 109 → ∀ i, hI h2 x i = hI h x i := fun x hx => (k.2 x (by omega)).2.2.2.1 (by omega)
  have eR : ∀ x, x < 109 → ∀ i, hR h2 x i = hR h x i := fun x hx => (k.2 x (by omega)).2.2.2.2 (by omega) (by omega)
  exact ⟨⟨(eI _ (by omega) _).trans f1, f2, fun y hy => (eI _ (by omega) _).trans (f3 y hy), f4⟩, ⟨(eI _ (by omega) _).trans d1, d2, fun j hj => ⟨(eR _ (by omega) _).trans (d3 j hj).1, (d3 j hj).2.lf k⟩⟩, fun i hi => (eI _ (by omega) _).trans (w i hi)⟩
theorem OwB.lf {h h2 : HP} {b : BQ} (q : OwB h b) (k : LF h h2) (F : Fx h) : OwB h2 b := fun s h1 h3 p hp => by
  have hz : 116 ≤ hZ h := F.1
  rw [(k.2 39 (by omega)).2.2.2.1 (by omega)]
  exact q s h1 h3 p hp
theorem CX.lf {h h2 : HP} {b c : BQ} {g : Nat} {tS : Nat → Int32} {qS : Nat → Nat} (q : CX h b g c tS qS) (k : LF h h2) : CX h2 b g c tS qS := by
  obtain ⟨q1, q2, q3, q4, q5, q6⟩ := q
  have hz : 116 ≤ hZ h := q1.1
  have eI : ∀ x, x < 109 → ∀ i, hI h2 x i = hI h x i := fun x hx => (k.2 x (by omega)).2.2.2.1 (by omega)
  exact ⟨k.F q1, q2.lf k q1 (by decide), (eI _ (by decide) _).trans q3, q4, fun j hj => (q5 j hj).lf k q1 (by omega), fun s hs => by
    obtain ⟨a, b, d, e⟩ := q6 s hs
    exact ⟨(eI _ (by omega) _).trans a, b, (eI _ (by omega) _).trans d, e⟩⟩
/-! steps of the class leave the law's -/
theorem CF.is {h h2 : HP} (k : CF h h2) (F : Fx h) {a t : Nat} (ha : 109 ≤ a) (q : Is h a t) : Is h2 a t := by
  rcases Nat.lt_or_ge a 116 with z | z
  · have e1 := (F.2.1 a q.1 z).1
    have e2 := (k.2.1.2.1 a q.1 z).1
    exact ⟨q.1, Nat.lt_of_lt_of_le q.2.1 k.1.1, e2.trans (e1.symm.trans q.2.2)⟩
  · exact q.up k.1 z
theorem AL.cf {h h2 : HP} {a m e : Nat} {g : Nat → Option Nat} (L : AL h a m e g) (k : CF h h2) (z1 : 109 ≤ a) (z2 : a < 116) : AL h2 a m e g := by
  obtain ⟨l1, l2, l3, l4⟩ := L
  have e := k.2.2 a z1 z2
  refine ⟨(e _).1.trans l1, l2, ?_, fun i hi => ?_⟩
  · rcases l3 with ⟨z, l5⟩ | ⟨l5, l6, l7, l8, l9⟩
    · exact Or.inl ⟨z, (e _).2.trans l5⟩
    · exact Or.inr ⟨l5, (e _).2.trans l6, l7, l8.up k.1 l7, (k.1.2 _ l7 l8.2.1).2.2.trans l9⟩
  · rcases l3 with ⟨z, l5⟩ | ⟨l5, l6, l7, l8, l9⟩
    · omega
    · exact ((k.1.2 _ l7 l8.2.1).1 i).2.2.trans (l4 i hi)
theorem FaC.up {h h2 : HP} {a : Nat} {d : DD} (q : FaC h a d) (u : Up h h2) : FaC h2 a d := by
  obtain ⟨k0, kf, kn, w, hc, e0, e1, e2, e3, e4, e5⟩ := q
  have p := (u.2 a k0 kf.2.1).1
  exact ⟨k0, kf.up u k0, (u.2 a k0 kf.2.1).2.2.trans kn, w, hc, (p _).1.trans e0, (p _).1.trans e1, (p _).1.trans e2, (p _).1.trans e3, (p _).1.trans e4, (p _).1.trans e5⟩
theorem LL.cf {h h2 : HP} {m e1 e2 : Nat} {fa : Nat → Nat} {E : Nat → DD} (q : LL h m e1 e2 fa E) (k : CF h h2) : LL h2 m e1 e2 fa E := ⟨q.1.cf k (by decide) (by decide), q.2.1.cf k (by decide) (by decide), q.2.2.1, fun i hi => (q.2.2.2 i hi).up k.1⟩
theorem LT.cf {h h2 : HP} {m n : Nat} {τ : Nat → Nat} {E D : Nat → DD} (q : LT h m n τ E D) (k : CF h h2) : LT h2 m n τ E D := ⟨(k.2.2 109 (by decide) (by decide) _).1.trans q.1, q.2.1, fun j hj => ⟨(k.2.2 112 (by decide) (by decide) _).1.trans (q.2.2 j hj).1, (q.2.2 j hj).2⟩⟩
theorem LY.cf {h h2 : HP} {f : Nat} {o : Nat → Nat} (q : LY h f o) (k : CF h h2) : LY h2 f o := ⟨(k.2.2 109 (by decide) (by decide) _).1.trans q.1, q.2.1, fun y hy => (k.2.2 113 (by decide) (by decide) _).1.trans (q.2.2.1 y hy), q.2.2.2⟩
/-! a YEAR falls -/
theorem okQ.fall {f n x : Nat} {o A : Nat → Nat} {D : Nat → DD} (q : okQ (f, n, o, A, D)) (hf : f < 4) (hx : x < 6) : okQ (f + 1, n, upF o f x, A, D) := fun s h1 h2 => q s (fall_in hf hx h1 h2).1 (fall_in hf hx h1 h2).2
theorem nI_nx {x N : Nat} (h : x < N) (hN : N ≤ 1073741824) : ¬ (nI x < 0 ∨ nI N ≤ nI x) := fun z => z.elim (nI_pos (by omega)) (nI_ge h (by omega))
theorem s_fall (X : EX) {h : HP} {f n g x : Nat} {o A : Nat → Nat} {D : Nat → DD} {c : BQ} {tS : Nat → Int32} {qS : Nat → Nat} (cx : CX h (f, n, o, A, D) g c tS qS) (ow : OwB h (f, n, o, A, D)) (hf : f < 4) (hx : x < 6) : Ct X mX8_fall 1 0 0 [vR (some 32), vI (nI x)] h (fun v h' => v = some (vI (nI (f + 1))) ∧ CX h' (f + 1, n, upF o f x, A, D) g c tS qS ∧ OwB h' (f + 1, n, upF o f x, A, D) ∧ CF h h' ∧ CL h h') := by
  obtain ⟨F, cb, pg, hg, pis, sh⟩ := cx
  have bf : BkF h f o := cb.1
  have b : BkD h n A D := cb.2.1
  refine ct_post (zX8_fall X F bf (nI x)) (fun v h1 q => ?_)
  rw [if_neg (show ¬ (nI x < 0 ∨ 6 ≤ nI x) from nI_nx (N := 6) hx (by decide)), if_neg (by omega)] at q
  obtain ⟨rfl, rfl⟩ := q
  have K : Kc (fun a i => (a = 33 ∧ i = 3) ∨ a = 35) (fun a _ => a = 0) (fun a => a = 0) h (wI (wI h 35 f (nI x)) 33 3 (nI (f + 1))) := ((Kc.rf F).wI (by decide) (Or.inr rfl)).wI (by decide) (Or.inl ⟨rfl, rfl⟩)
  refine ⟨rfl, ⟨K.F, ⟨⟨wI_s, (show f + 1 ≤ 4 by omega), fun y hy => ?_, fun y hy => ?_⟩, ⟨(wI_i (by decide)).trans ((wI_a (by decide)).trans b.1), b.2.1, fun k hk => ⟨(b.2.2 k hk).1, (b.2.2 k hk).2.up K.up⟩⟩, fun i hi => (wI_a (by decide)).trans ((wI_a (by decide)).trans (cb.2.2 i hi))⟩, (wI_a (by decide)).trans ((wI_a (by decide)).trans pg), hg, pi.k pis hg K (by intros; (try dsimp only); omega), sh.k K (by intros; (try dsimp only); omega)⟩, fun s h1 h2 p hp => ?_, CF.k K (by intros; (try dsimp only); omega) (by intros; (try dsimp only); omega), CL.k K (by decide)⟩
  · show _ = nI (upF o f x y)
    by_cases e : y = f
    · rw [e, upF_s]
      exact (wI_a (by decide)).trans wI_s
    · rw [upF_o e]
      exact (wI_a (by decide)).trans ((wI_i e).trans (bf.2.2.1 y (by have hy : y < f + 1 := hy; omega)))
  · show upF o f x y < 6
    by_cases e : y = f
    · rw [e, upF_s]; exact hx
    · rw [upF_o e]; exact bf.2.2.2 y (by have hy : y < f + 1 := hy; omega)
  · have q := fall_in (o := o) hf hx h1 h2
    exact (ow.k K (by intros; (try dsimp only); omega)) s q.1 q.2 p hp
/-! a deal comes, or clashes, or is late -/
/-- what a deal that is told does to the class -/
def enQ (h : HP) (f n : Nat) (o A : Nat → Nat) (D : Nat → DD) (g : Nat) (c : BQ) (tS : Nat → Int32) (qS : Nat → Nat) (d : DD) : Option VV → HP → Prop := fun v h' => CF h h' ∧ if dP d / 3 < f then v = some (fv 3) ∧ CX h' (f, n, o, A, D) g c tS qS ∧ OwB h' (f, n, o, A, D) else match rfs (upF D n d) (n + 1) (fo o f) (om f) with
  | none => v = some (vI (nI n)) ∧ okQ (f, n + 1, o, A, upF D n d) ∧ ∃ A2, CX h' (f, n + 1, o, A2, upF D n d) g c tS qS ∧ OwB h' (f, n + 1, o, A2, upF D n d)
  | some s => v = some (fv 4) ∧ CX h' (f, n, o, A, D) g c tS qS ∧ OwB h' (f, n, o, A, D) ∧ ∃ p, rfc (upF D n d) (n + 1) s = some p ∧ hI h' 75 0 = nI s ∧ hI h' 75 1 = nI p ∧ hI h' 75 2 = rclV (upF D n d) (n + 1) s p
theorem BkD.cg {h : HP} {n : Nat} {A A2 : Nat → Nat} {D D2 : Nat → DD} (b : BkD h n A D) (h1 : ∀ k, k < n → A2 k = A k) (h2 : ∀ k, k < n → D2 k = D k) : BkD h n A2 D2 := ⟨b.1, b.2.1, fun k hk => by rw [h1 k hk, h2 k hk]; exact b.2.2 k hk⟩
theorem s_ent {h h1 : HP} {f n g : Nat} {o A : Nat → Nat} {D : Nat → DD} {c : BQ} {tS : Nat → Int32} {qS : Nat → Nat} {d : DD} {x y t p q m : Int32} {v : Option VV} (cx : CX h (f, n, o, A, D) g c tS qS) (ow : OwB h (f, n, o, A, D)) (ok : okQ (f, n, o, A, D)) (hn : n < 12) (w : dWf d) (kd : DealC (dlH (nw h 2 0) (hZ h) x y t p q m none) (hZ h) d) (q9 : entR h D n f o x y t p q m d v h1) : enQ h f n o A D g c tS qS d v h1 := by
  have G1 : Gb h (dlH (nw h 2 0) (hZ h) x y t p q m none) := dlH_G
  unfold entR at q9
  generalize dlH (nw h 2 0) (hZ h) x y t p q m none = hd at kd q9 G1
  have Kg : Kc (fun a _ => a = 0 ∧ False) (fun a _ => a = 0 ∧ False) (fun a => a = 0 ∧ False) h hd := Kc.gb cx.1 G1
  have cxd : CX hd (f, n, o, A, D) g c tS qS := cx.k Kg (fun a j _ z => z.2.elim) (fun a j _ z => z.2)
  have owd : OwB hd (f, n, o, A, D) := ow.k Kg (fun j z => z.2)
  have cfd : CF h hd := CF.k Kg (fun a j _ z => z.2) (fun a j _ z => z.2)
  have b : BkD hd n A D := cxd.2.1.2.1
  by_cases y1 : dP d / 3 < f
  · unfold entV entH at q9
    rw [if_pos y1, if_pos y1] at q9
    obtain ⟨rfl, rfl⟩ := q9
    have K : Kc (fun a i => a = 76) (fun a _ => a = 0 ∧ False) (fun a => a = 0) hd (fnd hd 3) := (Kc.rf cxd.1).wI (by decide) rfl
    refine ⟨cfd.tr (CF.k K (by intros; (try dsimp only); omega) (fun a j _ z => z.2)), ?_⟩
    rw [if_pos y1]
    exact ⟨rfl, cxd.k K (fun a j _ z => Or.inr z) (fun a j _ z => z.2), owd.k K (by intros; (try dsimp only); omega)⟩
  have wD : ∀ k, k < n → dWf (D k) := fun k hk => (b.2.2 k hk).2.2.2.1
  have wu : ∀ k, k < n + 1 → dWf (upF D n d k) := fun k hk => by
    by_cases e : k = n
    · rw [e, upF_s]
      exact w
    · rw [upF_o e]
      exact wD k (by omega)
  have cg : ∀ k, k < n → upF D n d k = D k := fun k hk => upF_o (by omega)
  have fc := rfs_F (D := upF D n d) (n := n) (d := d) wu upF_s (m := om f) (a := fo o f) (fun s h1 h2 => (ok s h1 h2).cg cg)
  rw [fcl_cg cg] at fc
  unfold entV entH at q9
  rw [if_neg y1, if_neg y1, if_neg (by omega), if_neg (by omega)] at q9
  rcases fc with ⟨f1, f2, f3⟩ | ⟨s, pp, qq, f1, f2, f3, f4⟩
  · rw [f1] at q9
    have q9 : Rt (vI (nI n)) (tkn hd n (hZ h) d (fo o f) (om f)) v h1 := q9
    obtain ⟨rfl, rfl⟩ := q9
    have K : Kc (fun a i => (a = 33 ∧ i = 1) ∨ a = 39) (fun a _ => a = 34) (fun a => a = 0) hd (tkn hd n (hZ h) d (fo o f) (om f)) := by
      have K1 : Kc (fun a i => (a = 33 ∧ i = 1) ∨ a = 39) (fun a _ => a = 34) (fun a => a = 0) hd (wR hd 34 n (some (hZ h))) := (Kc.rf cxd.1).wR (by decide) (cxd.1.wR (b := 34) rfl) rfl
      have K2 : Kc (fun a i => (a = 33 ∧ i = 1) ∨ a = 39) (fun a _ => a = 34) (fun a => a = 0) hd (wI (wR hd 34 n (some (hZ h))) 33 1 (nI (n + 1))) := K1.wI (by decide) (Or.inl ⟨rfl, rfl⟩)
      exact K2.rw (fun _ => Or.inr rfl)
    refine ⟨cfd.tr (CF.k K (by intros; (try dsimp only); omega) (by intros; (try dsimp only); omega)), ?_⟩
    rw [if_neg y1, f2]
    have cgA : ∀ k, k < n → upF A n (hZ h) k = A k := fun k hk => upF_o (by omega)
    have bd := tkn_bd (s0 := fo o f) (m := om f) (b.cg cgA cg) hn kd upF_s upF_s
    have ow2 := tkn_ow (n := n) (a := hZ h) w (Own.cg owd cg) (upF_s (g := D) (k := n) (x := d))
    obtain ⟨q1, q2, q3, q4, q5, q6⟩ := cxd
    have q25 := q2.2.2
    have q21 := q2.1
    refine ⟨rfl, f3, upF A n (hZ h), ⟨K.F, ⟨⟨(tkn_I (by decide) (by decide)).trans q21.1, q21.2.1, fun y hy => (tkn_I (by decide) (by omega)).trans (q21.2.2.1 y hy), q21.2.2.2⟩, bd, fun i hi => (tkn_I (by decide) (by omega)).trans (q25 i hi)⟩, (tkn_I (by decide) (by decide)).trans q3, q4, pi.k q5 q4 K (by intros; (try dsimp only); omega), q6.k K (by intros; (try dsimp only); omega)⟩, ow2⟩
  · rw [f1] at q9
    have q9 : Rt (fv 4) (fnd (tl hd s pp qq) 4) v h1 := q9
    obtain ⟨rfl, rfl⟩ := q9
    have K : Kc (fun a i => a = 75 ∨ a = 76) (fun a _ => a = 0 ∧ False) (fun a => a = 0) hd (fnd (tl hd s pp qq) 4) := ((((Kc.rf cxd.1).wI (by decide) (Or.inl rfl)).wI (by decide) (Or.inl rfl)).wI (by decide) (Or.inl rfl)).wI (by decide) (Or.inr rfl)
    refine ⟨cfd.tr (CF.k K (by intros; (try dsimp only); omega) (fun a j _ z => z.2)), ?_⟩
    rw [if_neg y1, f2]
    exact ⟨rfl, cxd.k K (fun a j _ z => z) (fun a j _ z => z.2), owd.k K (by intros; (try dsimp only); omega), pp, f3, (wI_a (by decide)).trans ((wI_i (by decide)).trans ((wI_i (by decide)).trans wI_s)), (wI_a (by decide)).trans ((wI_i (by decide)).trans wI_s), ((wI_a (by decide)).trans wI_s).trans f4.symm⟩
