/-! calls: text (written by wip/whole/g99c.py) -/
theorem tx_ok {D G : Nat → DD} {n g a m : Nat} (w : ∀ k, k < n + g → dWf (jnD D n G k)) (ok0 : ∀ s, a ≤ s → s < a + m → okD (jnD D n G) n s) : ∀ i, i ≤ g → (∀ j, j < i → fcl (jnD D n G) (n + j) (G j) a m = none) → (∀ s, a ≤ s → s < a + m → okD (jnD D n G) (n + i) s) ∧ ∀ j, j < i → rfs (jnD D n G) (n + j + 1) a m = none := by
  intro i
  induction i with
  | zero => exact fun _ _ => ⟨ok0, fun j hj => absurd hj (Nat.not_lt_zero _)⟩
  | succ i ih =>
    intro hi hf
    obtain ⟨a1, a2⟩ := ih (by omega) (fun j hj => hf j (by omega))
    rcases rfs_F (D := jnD D n G) (n := n + i) (d := G i) (fun k hk => w k (by omega)) jnD_r a1 with ⟨f1, f2, f3⟩ | ⟨s, p, q, f1, _⟩
    · refine ⟨f3, fun j hj => ?_⟩
      by_cases e : j = i
      · rw [e]
        exact f2
      · exact a2 j (by omega)
    · rw [hf i (by omega)] at f1
      cases f1
theorem op_text (X : EX) {c : Nat} {h : HP} (I : Inv c h) : Ct X mX8_text 23 39 377 ([vR (some 32)]) h (RES X c mX9_text 29 []) := by
  obtain ⟨P, ic, im, pu⟩ := I
  have bf : BkF h P.b.f P.b.o := ic.cb.1
  have b : BkD h P.b.n P.b.A P.b.D := ic.cb.2.1
  have hn := b.2.1
  obtain ⟨R, hR⟩ : ∃ R, (txF (hI h 42) P.l P.b.D P.b.n P.b.f 13 (nxT (hI h 42) P.l (0, 0)) 0 P.b.D) = R := ⟨_, rfl⟩
  refine ct_post (zX8_text X ic.F ic.tp bf b hR) (fun v h1 q => ?_)
  obtain ⟨rx, e41, q⟩ := q
  have im1 : IM P h1 := im.kc (Kc.rx rx) (by intros; (try dsimp only); omega) (by intros; (try dsimp only); omega)
  have c9 : Fx h1 → IM P h1 → Ct X mX9_text 29 0 0 (vR (some 109) :: []) h1 (teQ h1 P.b.n P.b.D P.b.f P.b.o P.l R) := fun F1 im1 => by
    rw [← hR]
    exact zX9_text X F1 (E := P.b.D) (bt := hI h 42) ⟨im1.tb.1, im1.tb.2.1, fun i hi => by rw [ic.tb i hi]; exact im1.tb.2.2.1 i hi, im1.tb.2.2.2⟩ im1.mb.2.1 im1.mb.1
  have sc : ∀ {h2 h3 : HP}, Sf scY h2 h3 → Sf (fun a i => a = 110 ∨ a = 112 ∨ a = 113 ∨ a = 114 ∨ a = 115 ∨ a = 116 ∨ a = 119 ∨ a = 120 ∨ (a = 109 ∧ ¬ i = 1 ∧ ¬ i = 3 ∧ ¬ i = 35)) h2 h3 := fun S => S.mono (fun a i z => by unfold scY scX scW at z; omega)
  rcases q with ⟨hw, rfl, e33, e39, e75, e76, e34⟩ | ⟨hw, g, G, BA, hR1, hg, wG, q⟩
  · have ic1 := ic_take (N2 := P.N) (T2 := P.T) (l2 := 0) (B2 := P.B + 0) (J2 := P.b.J) (ID2 := P.ID) ic pu.g6 rx (b.up rx.1 e33 e34) (fun s h1 h2 p hp => by rw [e39]; exact ic.ow s h1 h2 p hp) (fun k hk => (e76 k).trans (ic.fn k hk)) (fun k hk => (e75 k).trans (ic.tl k hk)) e41 (Nat.zero_le _) (fun a j h => Nat.lt_of_lt_of_le (ic.id a j h) rx.1.1)
    refine res_c (P2 := (ppK (bkK P.b.f P.b.n P.b.o P.b.A P.b.D P.b.W P.b.z P.b.J) P.N P.T P.g P.im 0 P.bt P.tS P.qS P.sL P.S P.E P.SI (P.B + 0) P.ID)) rfl rx.2.1 im1 c9 (fun v2 h2 q2 => ?_)
    obtain ⟨S, e14, q2⟩ := q2
    rcases q2 with ⟨_, rfl, md, k0, k2, k4, k7⟩ | ⟨hw2, _⟩
    · refine ⟨rfl, ic1.sf pu.g6 (sc S) (by intros; (try dsimp only); omega), ?_, pu_more pu (by decide)⟩
      exact im_take im1 (sc S) md (fun k hk => (k2 _).trans (im1.mb.2.2.2.2 k hk)) (fun k hk => (k0 k).trans (im1.fn k hk)) (fun k hk => (k4 k).trans (im1.tl k hk)) e14 (Nat.zero_le _) (k7.trans im1.bn)
    · rw [hw] at hw2
      cases hw2
  · have wj : ∀ k, k < P.b.n + g → dWf (jnD P.b.D P.b.n G k) := fun k hk => by
      by_cases e : k < P.b.n
      · rw [jnD_l e]
        exact wfD ic k e
      · have e2 : k = P.b.n + (k - P.b.n) := by omega
        rw [e2, jnD_r]
        exact wG _ (by omega)
    have ok0 : ∀ s, fo P.b.o P.b.f ≤ s → s < fo P.b.o P.b.f + om P.b.f → okD (jnD P.b.D P.b.n G) P.b.n s := fun s h1 h2 => (pu.ok s h1 h2).cg (fun k hk => jnD_l hk)
    have tk9 := tx_ok wj ok0
    have g12 : g ≤ 12 := by omega
    rcases q with ⟨rfl, tx⟩ | ⟨rfl, bd, ow2, e76, j, q3, hj, f1, f2, f3, f4, f5⟩
    · obtain ⟨_, _, bd, ow2, e75, e76, _, nb, hf⟩ := tx
      have ow2 := ow2 ic.ow
      have ok9 := tk9 g (Nat.le_refl _) hf
      have ic1 := ic_take (N2 := P.N) (T2 := P.T) (l2 := 0) (B2 := P.B + g) (J2 := jnJ P.b.J P.b.n P.B) (ID2 := idX P.ID BA P.B g) ic pu.g6 rx bd ow2 (fun k hk => (e76 k).trans (ic.fn k hk)) (fun k hk => (e75 k).trans (ic.tl k hk)) e41 (Nat.zero_le _) (idX_b ic.id rx.1.1 (fun j hj => (nb.1 j hj).2))
      refine res_c (P2 := (ppK (bkK P.b.f (P.b.n + g) P.b.o (jnA P.b.A P.b.n BA) (jnD P.b.D P.b.n G) P.b.W P.b.z (jnJ P.b.J P.b.n P.B)) P.N P.T P.g P.im 0 P.bt P.tS P.qS P.sL P.S P.E P.SI (P.B + g) (idX P.ID BA P.B g))) rfl rx.2.1 im1 c9 (fun v2 h2 q2 => ?_)
      obtain ⟨S, e14, q2⟩ := q2
      rcases q2 with ⟨hw2, _⟩ | ⟨_, g2, G2, hR2, _, q2⟩
      · rw [hw] at hw2
        cases hw2
      · rw [hR1] at hR2
        injection hR2 with hR2
        injection hR2 with x1 x2
        subst x1 x2
        rcases q2 with ⟨rfl, md, k7, k2, k22, k4, k0, _⟩ | ⟨_, _, _, _, j, s, hj, _, _, k9, _⟩
        · refine ⟨rfl, ic1.sf pu.g6 (sc S) (by intros; (try dsimp only); omega), ?_, pu_take pu ic.id (fun j hj => (nb.1 j hj).1) nb.2 g12 ok9.1⟩
          refine im_take im1 (sc S) md (fun k hk => ?_) (fun k hk => (k0 k).trans (im1.fn k hk)) (fun k hk => (k4 k).trans (im1.tl k hk)) e14 (Nat.zero_le _) (by rw [k7, im1.bn, nI_add])
          by_cases ek : k < P.b.n
          · rw [k2 _ (by omega), im1.mb.2.2.2.2 k ek]
            exact congrArg nI (if_pos ek).symm
          · have e2 : k = P.b.n + (k - P.b.n) := by omega
            have k3 := k22 (k - P.b.n) (by omega)
            rw [← e2] at k3
            rw [k3, im1.bn, nI_add]
            exact congrArg nI (if_neg ek).symm
        · rw [ok9.2 j hj] at k9
          cases k9
    · have okj := tk9 j (by omega) f1
      rcases rfs_F (D := jnD P.b.D P.b.n G) (n := P.b.n + j) (d := G j) (fun k hk => wj k (by omega)) jnD_r okj.1 with ⟨y1, _⟩ | ⟨s, pp, qq, y1, y2, y3, y4⟩
      · rw [f2] at y1
        cases y1
      · rw [f2] at y1
        injection y1 with y1
        subst y1
        have t75 : ∀ i, i < 3 → hI h1 75 i = tT s pp qq i := e3 f3 f4 f5
        have t76 : ∀ k, k < 8 → hI h1 76 k = (if k = 4 then P.N 4 + 1 else P.N k) := fun k hk => (e76 k).trans (by
          by_cases e : k = 4
          · rw [if_pos e, e]
            exact wI_s.trans (by rw [ic.fn 4 (by decide)])
          · rw [if_neg e]
            exact (wI_i e).trans (ic.fn k hk))
        have ic1 := ic_take (N2 := (fun k => if k = 4 then P.N 4 + 1 else P.N k)) (T2 := tT s pp qq) (l2 := 0) (B2 := P.B + (j + 1)) (J2 := P.b.J) (ID2 := P.ID) ic pu.g6 rx bd ow2 t76 t75 e41 (Nat.zero_le _) (fun a j h => Nat.lt_of_lt_of_le (ic.id a j h) rx.1.1)
        refine res_c (P2 := (ppK P.b (fun k => if k = 4 then P.N 4 + 1 else P.N k) (tT s pp qq) P.g P.im 0 P.bt P.tS P.qS P.sL P.S P.E P.SI (P.B + (j + 1)) P.ID)) rfl rx.2.1 im1 c9 (fun v2 h2 q2 => ?_)
        obtain ⟨S, e14, q2⟩ := q2
        rcases q2 with ⟨hw2, _⟩ | ⟨_, g2, G2, hR2, _, q2⟩
        · rw [hw] at hw2
          cases hw2
        · rw [hR1] at hR2
          injection hR2 with hR2
          injection hR2 with x1 x2
          subst x1 x2
          rcases q2 with ⟨_, _, _, _, _, _, _, k9⟩ | ⟨rfl, md, k0, k2, j2, s2, hj2, k7, k8, k9, p3, g4, g5, g6, g7⟩
          · rw [k9 j hj] at y2
            cases y2
          · have ej : j2 = j := by
              rcases Nat.lt_trichotomy j2 j with z | z | z
              · rw [okj.2 j2 z] at k9
                cases k9
              · exact z
              · rw [k8 j z] at y2
                cases y2
            subst ej
            rw [y2] at k9
            injection k9 with k9
            subst k9
            rw [y3] at g4
            injection g4 with g4
            subst g4
            refine ⟨rfl, ic1.sf pu.g6 (sc S) (by intros; (try dsimp only); omega), ?_, pu_more pu (by omega)⟩
            refine im_take im1 (sc S) md (fun k hk => (k2 _ (by have hk : k < P.b.n := hk; omega)).trans (im1.mb.2.2.2.2 k hk)) (fun k hk => ?_) (e3 g5 g6 (g7.trans y4)) e14 (Nat.zero_le _) (by rw [k7, im1.bn, nI_add])
            refine (k0 k).trans ?_
            by_cases e : k = 4
            · rw [if_pos e, e]
              exact wI_s.trans (by rw [im1.fn 4 (by decide)])
            · rw [if_neg e]
              exact (wI_i e).trans (im1.fn k hk)
