/-! calls: prune (written by wip/whole/g98.py) -/
theorem cnS {P : Nat → Bool} {k : Nat} : cnW P 0 (k + 1) = cnW P 0 k + (if P k = true then 1 else 0) := by
  show cnW P 0 k + (if P (0 + k) = true then 1 else 0) = _
  rw [Nat.zero_add]
theorem cnM {P : Nat → Bool} {j : Nat} : ∀ m, cnW P 0 j ≤ cnW P 0 (j + m) := by
  intro m
  induction m with
  | zero => exact Nat.le_refl _
  | succ m ih =>
    show cnW P 0 j ≤ cnW P 0 (j + m + 1)
    rw [cnS]
    omega
theorem cnMo {P : Nat → Bool} {j k : Nat} (h : j ≤ k) : cnW P 0 j ≤ cnW P 0 k := by
  have e : j + (k - j) = k := by omega
  rw [← e]
  exact cnM _
theorem kA_at {α β : Type} {P : Nat → Bool} {A : Nat → α} {J : Nat → β} : ∀ k j, j < cnW P 0 k → ∃ i, i < k ∧ P i = true ∧ cnW P 0 i = j ∧ kA P A k j = A i ∧ kA P J k j = J i := by
  intro k
  induction k with
  | zero => intro j h; exact absurd h (Nat.not_lt_zero _)
  | succ k ih =>
    intro j h
    rw [cnS] at h
    by_cases z : P k = true
    · rw [if_pos z] at h
      rw [kA_s, if_pos z, kA_s, if_pos z]
      by_cases e : j = cnW P 0 k
      · exact ⟨k, by omega, z, e.symm, if_pos e, if_pos e⟩
      · obtain ⟨i, h1, h2, h3, h4, h5⟩ := ih j (by omega)
        exact ⟨i, by omega, h2, h3, (if_neg e).trans h4, (if_neg e).trans h5⟩
    · rw [if_neg z] at h
      rw [kA_s, if_neg z, kA_s, if_neg z]
      obtain ⟨i, h1, h2, h3, h4, h5⟩ := ih j h
      exact ⟨i, by omega, h2, h3, h4, h5⟩
theorem kA_dB {P : Nat → Bool} {A : Nat → Nat} {n : Nat} (hd : ∀ j k, j < k → k < n → ¬ A j = A k) {j k : Nat} (h1 : j < k) (h2 : k < cnW P 0 n) : ¬ kA P A n j = kA P A n k := by
  obtain ⟨x, a1, a2, a3, a4, _⟩ := kA_at (P := P) (A := A) (J := A) n j (by omega)
  obtain ⟨y, b1, b2, b3, b4, _⟩ := kA_at (P := P) (A := A) (J := A) n k h2
  rw [a4, b4]
  refine hd x y ?_ b1
  by_cases e : y ≤ x
  · have := cnMo (P := P) e
    omega
  · omega
theorem kA_map {α β : Type} {P : Nat → Bool} {A : Nat → α} {g : α → β} : ∀ k j, kA P (fun i => g (A i)) k j = g (kA P A k j) := by
  intro k
  induction k with
  | zero => intro j; rfl
  | succ k ih =>
    intro j
    rw [kA_s, kA_s]
    by_cases z : P k = true
    · rw [if_pos z, if_pos z]
      by_cases e : j = cnW P 0 k
      · simp only [if_pos e]
      · simp only [if_neg e]
        exact ih j
    · rw [if_neg z, if_neg z]
      exact ih j
theorem cn_0 {P : Nat → Bool} {a : Nat} : ∀ {m : Nat}, cnW P a m = 0 → ∀ s, a ≤ s → s < a + m → P s = false := by
  intro m
  induction m with
  | zero => intro _ s h1 h2; omega
  | succ m ih =>
    intro h s h1 h2
    have h : cnW P a m + (if P (a + m) = true then 1 else 0) = 0 := h
    by_cases z : P (a + m) = true
    · rw [if_pos z] at h
      omega
    · rw [if_neg z] at h
      by_cases e : s = a + m
      · rw [e]
        exact Bool.eq_false_iff.mpr z
      · exact ih h s h1 (by omega)
theorem gvS_tk {d : DD} {s p : Nat} (h : gvS d s = false) : tk d s p = none := by
  have h : (gv d s).isSome = false := h
  have hg : gv d s = none := by
    cases e : gv d s with
    | none => rfl
    | some g => rw [e] at h; cases h
  unfold tk
  rw [hg]
  by_cases z : dO d = some p
  · rw [if_pos z]
    rfl
  · rw [if_neg z]
    rfl
/-- deals that convey nothing leave OWNERS as they are -/
theorem prn {D : Nat → DD} {a m s p : Nat} {P : Nat → Bool} (hP : P = kpP D a m) (h1 : a ≤ s) (h2 : s < a + m) : ∀ k, ow (kA P D k) s p (cnW P 0 k) = ow D s p k ∧ (∀ c, vs (kA P D k) s p (cnW P 0 k) c = vs D s p k c) ∧ (okP D k s p → okP (kA P D k) (cnW P 0 k) s p) := by
  intro k
  induction k with
  | zero => exact ⟨rfl, fun _ => rfl, fun h => h⟩
  | succ k ih =>
    obtain ⟨i1, i2, i3⟩ := ih
    rw [kA_s, cnS]
    by_cases z : P k = true
    · rw [if_pos z, if_pos z]
      have cg : ∀ j, j < cnW P 0 k → (fun j => if j = cnW P 0 k then D k else kA P D k j) j = kA P D k j := fun j hj => if_neg (by omega)
      have e : (fun j => if j = cnW P 0 k then D k else kA P D k j) (cnW P 0 k) = D k := if_pos rfl
      generalize (fun j => if j = cnW P 0 k then D k else kA P D k j) = D2 at cg e
      have o1 : ow D2 s p (cnW P 0 k) = ow D s p k := (ow_cg cg).trans i1
      have o2 : ∀ c, vs D2 s p (cnW P 0 k) c = vs D s p k c := fun c => (vs_cg cg).trans (i2 c)
      refine ⟨?_, fun c => ?_, fun h q hq t ht => ?_⟩
      · show (tk (D2 (cnW P 0 k)) s p).getD (ow D2 s p (cnW P 0 k)) = (tk (D k) s p).getD (ow D s p k)
        rw [e, o1]
      · show (vs D2 s p (cnW P 0 k) c || decide (tk (D2 (cnW P 0 k)) s p = some c)) = (vs D s p k c || decide (tk (D k) s p = some c))
        rw [e, o2]
      · by_cases w : q = cnW P 0 k
        · subst w
          rw [e] at ht ⊢
          rw [o1, o2]
          exact h k (Nat.lt_succ_self k) t ht
        · exact ((i3 (h.le (Nat.le_succ k))).cg cg) q (by omega) t ht
    · rw [if_neg z, if_neg z]
      have g0 : tk (D k) s p = none := by
        refine gvS_tk (cn_0 (a := a) (m := m) ?_ s h1 h2)
        have z : ¬ kpP D a m k = true := by rw [← hP]; exact z
        unfold kpP at z
        have z : ¬ 0 < cnW (gvS (D k)) a m := fun h => z (decide_eq_true h)
        omega
      refine ⟨?_, fun c => ?_, fun h => i3 (h.le (Nat.le_succ k))⟩
      · rw [ow_n g0]
        exact i1
      · show vs (kA P D k) s p (cnW P 0 k) c = (vs D s p k c || decide (tk (D k) s p = some c))
        rw [g0, ← i2 c]
        simp
theorem prH_K {M MR : Nat → Nat → Prop} {ML : Nat → Prop} {h h2 : HP} (k0 : Kc M MR ML h h2) {P : Nat → Bool} {A : Nat → Nat} (hm : ∀ j, MR 34 j) : ∀ k, Kc M MR ML h (prH h2 P A k) := by
  intro k
  induction k with
  | zero => exact k0
  | succ k ih =>
    unfold prH
    split
    · exact ih.wR (by decide) (ih.F.wR rfl) (hm _)
    · exact ih
theorem op_prune (X : EX) {c : Nat} {h : HP} (I : Inv c h)  : Ct X mX8_prune 3 0 0 ([vR (some 32)]) h (RES X c mX9_prune 8 []) := by
  obtain ⟨P, ic, im, pu⟩ := I
  have bf : BkF h P.b.f P.b.o := ic.cb.1
  have b : BkD h P.b.n P.b.A P.b.D := ic.cb.2.1
  refine ct_post (zX8_prune X ic.F bf b) (fun v h1 q => ?_)
  obtain ⟨kp, hkp⟩ : ∃ kp, kp = kpP P.b.D (fo P.b.o P.b.f) (om P.b.f) := ⟨_, rfl⟩
  rw [← hkp] at q
  obtain ⟨rfl, rfl⟩ := q
  have hc := cnW_le (P := kp) (a := 0) P.b.n
  have hn := b.2.1
  have pb : BkD (prH h kp P.b.A P.b.n) P.b.n (kA kp P.b.A P.b.n) (kA kp P.b.D P.b.n) := prH_B b P.b.n (Nat.le_refl _)
  have K : Kc (fun a i => a = 33 ∧ i = 1) (fun a _ => a = 34) (fun a => a = 0) h (wI (prH h kp P.b.A P.b.n) 33 1 (nI (cnW kp 0 P.b.n))) := (prH_K (Kc.rf ic.F) (fun _ => rfl) P.b.n).wI (by decide) ⟨rfl, rfl⟩
  have ic1 : IC (ppK (bkK P.b.f (cnW kp 0 P.b.n) P.b.o (kA kp P.b.A P.b.n) (kA kp P.b.D P.b.n) P.b.W P.b.z (kA kp P.b.J P.b.n)) P.N P.T P.g P.im P.l P.bt P.tS P.qS P.sL P.S P.E P.SI P.B P.ID) (wI (prH h kp P.b.A P.b.n) 33 1 (nI (cnW kp 0 P.b.n))) := ⟨K.F, ⟨⟨(K.i 33 (by decide) 3 (by intros; (try dsimp only); omega)).trans bf.1, bf.2.1, fun y hy => (K.i 35 (by decide) y (by intros; (try dsimp only); omega)).trans (bf.2.2.1 y hy), bf.2.2.2⟩, ⟨wI_s, (show (cnW kp 0 P.b.n) ≤ 12 by omega), fun k hk => by
    have hk : k < (cnW kp 0 P.b.n) := hk
    have pk := pb.2.2 k (by omega)
    exact ⟨pk.1, pk.2.up (Up.wI (by decide))⟩⟩, fun i hi => (K.i 36 (by decide) i (by intros; (try dsimp only); omega)).trans (ic.cb.2.2.1 i hi), (K.i 33 (by decide) 5 (by intros; (try dsimp only); omega)).trans ic.cb.2.2.2⟩, fun s h1 h2 p hp => by
    show dgt (hI (wI (prH h kp P.b.A P.b.n) 33 1 (nI (cnW kp 0 P.b.n))) 39 s) p = nI (ow (kA kp P.b.D P.b.n) s p (cnW kp 0 P.b.n))
    rw [(prn hkp h1 h2 P.b.n).1, (K.i 39 (by decide) s (by intros; (try dsimp only); omega))]
    exact ic.ow s h1 h2 p hp, fun k hk => (K.i _ (by decide) _ (by intros; (try dsimp only); omega)).trans (ic.fn k hk), fun k hk => (K.i _ (by decide) _ (by intros; (try dsimp only); omega)).trans (ic.tl k hk), (K.i _ (by decide) _ (by intros; (try dsimp only); omega)).trans ic.pg, pi.k ic.pi pu.g6 K (by intros; (try dsimp only); omega), ⟨(K.i _ (by decide) _ (by intros; (try dsimp only); omega)).trans ic.tp.1, ic.tp.2⟩, fun i hi => (K.i _ (by decide) _ (by intros; (try dsimp only); omega)).trans (ic.tb i hi), ic.sh.k K (by intros; (try dsimp only); omega), fun s hs i hi => (K.l _ (by omega) (by intros; (try dsimp only); omega) _).trans (ic.sl s hs i hi), ic.sp.k K (by intros; (try dsimp only); omega), fun a j e => Nat.lt_of_lt_of_le (ic.id a j e) K.up.1⟩
  have im1 : IM P (wI (prH h kp P.b.A P.b.n) 33 1 (nI (cnW kp 0 P.b.n))) := im.kc K (by intros; (try dsimp only); omega) (by intros; (try dsimp only); omega)
  refine res_c (P2 := (ppK (bkK P.b.f (cnW kp 0 P.b.n) P.b.o (kA kp P.b.A P.b.n) (kA kp P.b.D P.b.n) P.b.W P.b.z (kA kp P.b.J P.b.n)) P.N P.T P.g P.im P.l P.bt P.tS P.qS P.sL P.S P.E P.SI P.B P.ID)) rfl K.F im1 (fun F1 im1 => zX9_prune X F1 im1.mb.1 im1.mb.2.1 im1.mb.2.2.2.2) (fun v2 h2 q2 => ?_)
  rw [← hkp] at q2
  obtain ⟨rfl, h3, ⟨S3, md, mj⟩, rfl⟩ := q2
  have S : Sf (fun a i => (a = 112 ∨ a = 113) ∨ (a = 109 ∧ i = 4)) (wI (prH h kp P.b.A P.b.n) 33 1 (nI (cnW kp 0 P.b.n))) (wI h3 109 4 (nI (cnW kp 0 P.b.n))) := (S3.mono (fun _ _ z => Or.inl z)).wI (Or.inr ⟨rfl, rfl⟩)
  have e9 := S.2
  have eL : ∀ i, hL (wI h3 109 4 (nI (cnW kp 0 P.b.n))) 124 i = hL (wI (prH h kp P.b.A P.b.n) 33 1 (nI (cnW kp 0 P.b.n))) 124 i := fun i => congrFun (congrFun (congrArg (fun z => z.1) S.1) 124) i
  refine ⟨rfl, ic1.sf pu.g6 S (by intros; (try dsimp only); omega), ?_, ⟨pu.g6, fun s h1 h2 p hp => (prn hkp h1 h2 P.b.n).2.2 (pu.ok s h1 h2 p hp), pu.oki, fun k hk => by
    have hk : k < (cnW kp 0 P.b.n) := hk
    obtain ⟨i, a1, a2, a3, a4, a5⟩ := kA_at (A := P.b.A) (J := P.b.J) P.b.n k hk
    show P.ID (kA kp P.b.A P.b.n k) = some (kA kp P.b.J P.b.n k)
    rw [a4, a5]
    exact pu.jb i a1, pu.ji, pu.js, pu.inj, pu.lt, fun j k h1 h2 => kA_dB pu.aj h1 h2, pu.aji, by have := pu.bc; show P.B ≤ _; omega⟩⟩
  have im := im1
  have mf : MkF (wI h3 109 4 (nI (cnW kp 0 P.b.n))) P.b.f P.b.o := im.mb.1.sf S (by intros; (try dsimp only); omega) (by intros; (try dsimp only); omega)
  exact ⟨⟨mf, ⟨wI_s, (show (cnW kp 0 P.b.n) ≤ 12 by omega), fun k hk => by
    have hk : k < (cnW kp 0 P.b.n) := hk
    exact (md.2.2 k (by omega)).at (fun j hj => wI_a (by decide)) (fun j hj => wI_a (by decide))⟩, fun i hi => (e9 _ _ (by intros; (try dsimp only); omega)).trans (im.mb.2.2.1 i hi), (e9 _ _ (by intros; (try dsimp only); omega)).trans im.mb.2.2.2.1, fun k hk => by
    have hk : k < (cnW kp 0 P.b.n) := hk
    refine (wI_a (by decide)).trans ((mj k (by omega)).trans ?_)
    exact kA_map P.b.n k⟩, fun k hk => (e9 _ _ (by intros; (try dsimp only); omega)).trans (im.fn k hk), fun k hk => (e9 _ _ (by intros; (try dsimp only); omega)).trans (im.tl k hk), (e9 _ _ (by intros; (try dsimp only); omega)).trans im.pg, fun j hj => (im.pi j hj).elim (fun h3 q => ⟨h3, q.1.go (fun a i z => e9 a i (by intros; (try dsimp only); omega)), q.2⟩), im.tb.go (fun a i z => e9 a i (by intros; (try dsimp only); omega)), im.sh.go (fun a i z => e9 a i (by intros; (try dsimp only); omega)), fun s hs i hi => (eL _).trans (im.sl s hs i hi), fun i hi => (im.sp i hi).go (fun a z => e9 a i (by intros; (try dsimp only); omega)), (e9 _ _ (by intros; (try dsimp only); omega)).trans im.bn⟩
