/-! calls: what one is on both sides; findings, answers that change nothing (written by wip/whole/g92.py) -/
/-- one finding more -/
def PP.fN (P : PP) (k : Nat) : PP := (ppK P.b (fun j => if j = k then P.N k + 1 else P.N j) P.T P.g P.im P.l P.bt P.tS P.qS P.sL P.S P.E P.SI P.B P.ID)
theorem ic_fnd {P : PP} {h : HP} {c k : Nat} (ic : IC P h) (pu : PU P c) (hk8 : k < 8) : IC (P.fN k) (fnd h k) := by
  have K : Kc (fun a _ => a = 76) (fun a _ => a = 999) (fun a => a = 999) h (fnd h k) := (Kc.rf ic.F).wI (by decide) rfl
  exact ⟨K.F, ic.cb.k K (by decide) (by intros; (try dsimp only); omega), ic.ow.k K (by intros; (try dsimp only); omega), fun j hj => (show (if 76 = 76 ∧ j = k then hI h 76 k + 1 else hI h 76 j) = (if j = k then P.N k + 1 else P.N j) by rw [ic.fn k hk8, ic.fn j hj]; by_cases z : j = k; rw [if_pos ⟨rfl, z⟩, if_pos z]; rw [if_neg (fun q => z q.2), if_neg z]), fun k hk => (K.i _ (by decide) _ (by intros; (try dsimp only); omega)).trans (ic.tl k hk), (K.i _ (by decide) _ (by intros; (try dsimp only); omega)).trans ic.pg, pi.k ic.pi pu.g6 K (by intros; (try dsimp only); omega), ⟨(K.i _ (by decide) _ (by intros; (try dsimp only); omega)).trans ic.tp.1, ic.tp.2⟩, fun i hi => (K.i _ (by decide) _ (by intros; (try dsimp only); omega)).trans (ic.tb i hi), ic.sh.k K (by intros; (try dsimp only); omega), fun s hs i hi => (K.l _ (by omega) (by intros; (try dsimp only); omega) _).trans (ic.sl s hs i hi), ic.sp.k K (by intros; (try dsimp only); omega), fun a j e => Nat.lt_of_lt_of_le (ic.id a j e) K.up.1⟩
theorem im_fdM {P : PP} {h : HP} {k : Nat} (im : IM P h) (hk8 : k < 8) : IM (P.fN k) (fdM h k) := by
  have e9 : ∀ a i, ¬ (fun a _ => a = 110) a i → hI (fdM h k) a i = hI h a i := fun a i z => if_neg (fun q => z q.1)
  have eL : ∀ i, hL (fdM h k) 124 i = hL h 124 i := fun _ => rfl
  exact ⟨im.mb.go (fun a i z => e9 a i (by intros; (try dsimp only); omega)), fun j hj => (show (if 110 = 110 ∧ j = k then hI h 110 k + 1 else hI h 110 j) = (if j = k then P.N k + 1 else P.N j) by rw [im.fn k hk8, im.fn j hj]; by_cases z : j = k; rw [if_pos ⟨rfl, z⟩, if_pos z]; rw [if_neg (fun q => z q.2), if_neg z]), fun k hk => (e9 _ _ (by intros; (try dsimp only); omega)).trans (im.tl k hk), (e9 _ _ (by intros; (try dsimp only); omega)).trans im.pg, fun j hj => (im.pi j hj).elim (fun h3 q => ⟨h3, q.1.go (fun a i z => e9 a i (by intros; (try dsimp only); omega)), q.2⟩), im.tb.go (fun a i z => e9 a i (by intros; (try dsimp only); omega)), im.sh.go (fun a i z => e9 a i (by intros; (try dsimp only); omega)), fun s hs i hi => (eL _).trans (im.sl s hs i hi), fun i hi => (im.sp i hi).go (fun a z => e9 a i (by intros; (try dsimp only); omega)), (e9 _ _ (by intros; (try dsimp only); omega)).trans im.bn⟩
theorem pu_fN {P : PP} {c k : Nat} (pu : PU P c) : PU (P.fN k) (c + 1) := pu.s
/-- the reference's half of a call -/
def RES (X : EX) (c : Nat) (m9 : MD) (d9 : Nat) (as : List VV) (v : Option VV) (h1 : HP) : Prop := ∃ x : Int32, v = some (vI x) ∧ Fx h1 ∧ Ct X m9 d9 0 0 (vR (some 109) :: as) h1 (fun v2 h2 => v2 = some (vI x) ∧ Inv (c + 1) h2)
def RESL (X : EX) (c : Nat) (m9 : MD) (d9 : Nat) (as : List VV) (v : Option VV) (h1 : HP) : Prop := ∃ x : Int64, v = some (vL x) ∧ Fx h1 ∧ Ct X m9 d9 0 0 (vR (some 109) :: as) h1 (fun v2 h2 => v2 = some (vL x) ∧ Inv (c + 1) h2)
/-- a finding behind scratch -/
def FQ (r : VV) (h : HP) (k : Nat) (v : Option VV) (h2 : HP) : Prop := v = some r ∧ ∃ h3, Sf scr h h3 ∧ h2 = fdM h3 k
theorem fq_M {h h2 : HP} {k : Nat} {v : Option VV} (q : RM h k v h2) : FQ (fv k) h k v h2 := ⟨q.1, h, Sf.rf h, q.2⟩
theorem fq_L {h h2 : HP} {k : Nat} {v : Option VV} (q : RML h k v h2) : FQ (vL (-1000000000000000001 - lN k)) h k v h2 := ⟨q.1, h, Sf.rf h, q.2⟩
theorem sc0_r {a i : Nat} (z : sc0 a i) : scr a i := by unfold sc0 at z; unfold scr; omega
theorem fq_S {h h2 : HP} {k : Nat} {v : Option VV} (q : RMS h k v h2) : FQ (fv k) h k v h2 := by
  obtain ⟨a, h3, b, c⟩ := q
  exact ⟨a, h3, b.mono (fun _ _ => sc0_r), c⟩
section RES
variable {X : EX} {P : PP} {c : Nat} {h h1 : HP} {m9 : MD} {d9 : Nat} {as : List VV} {v : Option VV} {Q9 : Option VV → HP → Prop}
theorem mid_f {k : Nat} (ic : IC P h) (im : IM P h) : IM P (fnd h k) := im.kc (M := fun a _ => a = 76) (MR := fun a _ => a = 999) (ML := fun a => a = 999) ((Kc.rf ic.F).wI (by decide) rfl) (by intros; (try dsimp only); omega) (by decide)
theorem inv_f {h3 h2 : HP} {k : Nat} (ic : IC P h) (im : IM P h) (pu : PU P c) (hk8 : k < 8) (s : Sf scr (fnd h k) h3) (e : h2 = fdM h3 k) : Inv (c + 1) h2 := by
  subst e
  have ic1 := ic_fnd ic pu hk8
  have s2 : Sf (fun a _ => 109 ≤ a ∧ a < 134) (fnd h k) (fdM h3 k) := (s.mono (fun a i z => by unfold scr at z; omega)).wI (by decide)
  exact ⟨_, ic1.sf pu.g6 s2 (fun _ _ z => z), im_fdM ((mid_f ic im).sf s (fun _ _ z => z)) hk8, pu_fN pu⟩
theorem res_f {k : Nat} (ic : IC P h) (im : IM P h) (pu : PU P c) (hk8 : k < 8) (q : RF h k v h1) (c9 : Fx h1 → IM P h1 → Ct X m9 d9 0 0 (vR (some 109) :: as) h1 Q9) (e : ∀ v2 h2, Q9 v2 h2 → FQ (fv k) h1 k v2 h2) : RES X c m9 d9 as v h1 := by
  obtain ⟨rfl, rfl⟩ := q
  have F1 : Fx (fnd h k) := ic.F
  refine ⟨-1000001 - nI k, rfl, F1, ct_post (c9 F1 (mid_f ic im)) (fun v2 h2 q2 => ?_)⟩
  obtain ⟨a, h3, b, d⟩ := e v2 h2 q2
  exact ⟨a, inv_f ic im pu hk8 b d⟩
theorem res_fL {k : Nat} (ic : IC P h) (im : IM P h) (pu : PU P c) (hk8 : k < 8) (q : RFL h k v h1) (c9 : Fx h1 → IM P h1 → Ct X m9 d9 0 0 (vR (some 109) :: as) h1 Q9) (e : ∀ v2 h2, Q9 v2 h2 → FQ (vL (-1000000000000000001 - lN k)) h1 k v2 h2) : RESL X c m9 d9 as v h1 := by
  obtain ⟨rfl, rfl⟩ := q
  have F1 : Fx (fnd h k) := ic.F
  refine ⟨-1000000000000000001 - lN k, rfl, F1, ct_post (c9 F1 (mid_f ic im)) (fun v2 h2 q2 => ?_)⟩
  obtain ⟨a, h3, b, d⟩ := e v2 h2 q2
  exact ⟨a, inv_f ic im pu hk8 b d⟩
/-- an answer behind scratch -/
def VQ (r : VV) (h : HP) (v : Option VV) (h2 : HP) : Prop := v = some r ∧ Sf scr h h2
theorem vq_t {r r2 : VV} {h2 : HP} (q : Rt r h v h2) (e : r = r2) : VQ r2 h v h2 := by
  obtain ⟨rfl, rfl⟩ := q
  exact ⟨by rw [e], Sf.rf _⟩
theorem vq_s {r r2 : VV} {h2 : HP} (q : RSc r h v h2) (e : r = r2) : VQ r2 h v h2 := ⟨by rw [q.1, e], q.2.mono (fun _ _ => sc0_r)⟩
theorem inv_v {h2 : HP} (ic : IC P h) (im : IM P h) (pu : PU P c) (s : Sf scr h h2) : Inv (c + 1) h2 := ⟨P, ic.sf pu.g6 s (fun a i z => by unfold scr at z; omega), im.sf s (fun _ _ z => z), pu.s⟩
theorem res_v {x : Int32} (ic : IC P h) (im : IM P h) (pu : PU P c) (q : Rt (vI x) h v h1) (c9 : Fx h1 → IM P h1 → Ct X m9 d9 0 0 (vR (some 109) :: as) h1 Q9) (e : ∀ v2 h2, Q9 v2 h2 → VQ (vI x) h1 v2 h2) : RES X c m9 d9 as v h1 := by
  obtain ⟨rfl, rfl⟩ := q
  refine ⟨x, rfl, ic.F, ct_post (c9 ic.F im) (fun v2 h2 q2 => ?_)⟩
  obtain ⟨a, b⟩ := e v2 h2 q2
  exact ⟨a, inv_v ic im pu b⟩
theorem res_vL {x : Int64} (ic : IC P h) (im : IM P h) (pu : PU P c) (q : Rt (vL x) h v h1) (c9 : Fx h1 → IM P h1 → Ct X m9 d9 0 0 (vR (some 109) :: as) h1 Q9) (e : ∀ v2 h2, Q9 v2 h2 → VQ (vL x) h1 v2 h2) : RESL X c m9 d9 as v h1 := by
  obtain ⟨rfl, rfl⟩ := q
  refine ⟨x, rfl, ic.F, ct_post (c9 ic.F im) (fun v2 h2 q2 => ?_)⟩
  obtain ⟨a, b⟩ := e v2 h2 q2
  exact ⟨a, inv_v ic im pu b⟩
/-- an answer that changes both sides -/
theorem res_c {x : Int32} {P2 : PP} (hv : v = some (vI x)) (F1 : Fx h1) (im1 : IM P h1) (c9 : Fx h1 → IM P h1 → Ct X m9 d9 0 0 (vR (some 109) :: as) h1 Q9) (e : ∀ v2 h2, Q9 v2 h2 → v2 = some (vI x) ∧ IC P2 h2 ∧ IM P2 h2 ∧ PU P2 (c + 1)) : RES X c m9 d9 as v h1 := ⟨x, hv, F1, ct_post (c9 F1 im1) (fun v2 h2 q2 => by
  obtain ⟨a, b, d, f⟩ := e v2 h2 q2
  exact ⟨a, P2, b, d, f⟩)⟩
theorem wfD (ic : IC P h) : ∀ k, k < P.b.n → dWf (P.b.D k) := fun k hk => (ic.cb.2.1.2.2 k hk).2.2.2.1
theorem owR9 (ic : IC P h) (pu : PU P c) : OwR h P.b.f P.b.o P.b.n P.b.D := OwR_of (wfD ic) ic.ow pu.ok
end RES
