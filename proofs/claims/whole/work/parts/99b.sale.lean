/-! calls: deals that come: sale, swap (written by wip/whole/g99b.py) -/
/-- ids of deals that have come, at the addresses BA -/
def idX (ID : Nat → Option Nat) (BA : Nat → Nat) (B : Nat) : Nat → Nat → Option Nat
  | 0 => ID
  | g + 1 => fun a => if a = BA g then some (B + g) else idX ID BA B g a
theorem idX_inv {ID : Nat → Option Nat} {BA : Nat → Nat} {B a j : Nat} : ∀ g, idX ID BA B g a = some j → ID a = some j ∨ ∃ i, i < g ∧ a = BA i ∧ j = B + i := by
  intro g
  induction g with
  | zero => intro h; exact Or.inl h
  | succ g ih =>
    intro h
    have h : (if a = BA g then some (B + g) else idX ID BA B g a) = some j := h
    by_cases e : a = BA g
    · rw [if_pos e] at h
      injection h with h
      exact Or.inr ⟨g, Nat.lt_succ_self g, e, h.symm⟩
    · rw [if_neg e] at h
      rcases ih h with k | ⟨i, h1, h2, h3⟩
      · exact Or.inl k
      · exact Or.inr ⟨i, Nat.lt_succ_of_lt h1, h2, h3⟩
theorem idX_old {ID : Nat → Option Nat} {BA : Nat → Nat} {B Z a j : Nat} (id : ∀ a j, ID a = some j → a < Z) (h : ID a = some j) : ∀ g, (∀ j, j < g → Z ≤ BA j) → idX ID BA B g a = some j := by
  intro g
  induction g with
  | zero => intro _; exact h
  | succ g ih =>
    intro nb
    show (if a = BA g then some (B + g) else idX ID BA B g a) = some j
    have h1 := id a j h
    have h2 := nb g (Nat.lt_succ_self g)
    rw [if_neg (by omega)]
    exact ih (fun j hj => nb j (Nat.lt_succ_of_lt hj))
theorem idX_new {ID : Nat → Option Nat} {BA : Nat → Nat} {B i : Nat} : ∀ g, (∀ i j, i < j → j < g → BA i < BA j) → i < g → idX ID BA B g (BA i) = some (B + i) := by
  intro g
  induction g with
  | zero => intro _ h; exact absurd h (Nat.not_lt_zero _)
  | succ g ih =>
    intro nb h
    show (if BA i = BA g then some (B + g) else idX ID BA B g (BA i)) = some (B + i)
    by_cases e : i = g
    · rw [e, if_pos rfl]
    · have h2 := nb i g (by omega) (Nat.lt_succ_self g)
      rw [if_neg (by omega)]
      exact ih (fun i j h3 h4 => nb i j h3 (Nat.lt_succ_of_lt h4)) (by omega)
def jnJ (J : Nat → Nat) (n B k : Nat) : Nat := if k < n then J k else B + (k - n)

theorem pu_take {P : PP} {c Z g l : Nat} {N T : Nat → Int32} {BA : Nat → Nat} {D2 : Nat → DD} (pu : PU P c) (id : ∀ a j, P.ID a = some j → a < Z) (nb : ∀ j, j < g → Z ≤ BA j) (nbi : ∀ i j, i < j → j < g → BA i < BA j) (hg : g ≤ 12) (ok : ∀ s, fo P.b.o P.b.f ≤ s → s < fo P.b.o P.b.f + om P.b.f → okD D2 (P.b.n + g) s) : PU (ppK (bkK P.b.f (P.b.n + g) P.b.o (jnA P.b.A P.b.n BA) D2 P.b.W P.b.z (jnJ P.b.J P.b.n P.B)) N T P.g P.im l P.bt P.tS P.qS P.sL P.S P.E P.SI (P.B + g) (idX P.ID BA P.B g)) (c + 1) := by
  have hold : ∀ {a j}, P.ID a = some j → idX P.ID BA P.B g a = some j := fun h => idX_old id h g nb
  refine ⟨pu.g6, ok, pu.oki, fun k hk => ?_, fun j hj k hk => hold (pu.ji j hj k hk), fun i hi a ha => hold (pu.js i hi a ha), fun a b j ha hb => ?_, fun a j ha => ?_, fun j k hjk hk => ?_, pu.aji, by have := pu.bc; show P.B + g ≤ _; omega⟩
  · have hk : k < P.b.n + g := hk
    show idX P.ID BA P.B g (if k < P.b.n then P.b.A k else BA (k - P.b.n)) = some (if k < P.b.n then P.b.J k else P.B + (k - P.b.n))
    by_cases e : k < P.b.n
    · rw [if_pos e, if_pos e]
      exact hold (pu.jb k e)
    · rw [if_neg e, if_neg e]
      exact idX_new g nbi (by omega)
  · rcases idX_inv g ha with x | ⟨i, x1, x2, x3⟩
    · rcases idX_inv g hb with y | ⟨i2, y1, y2, y3⟩
      · exact pu.inj a b j x y
      · have := pu.lt a j x
        omega
    · rcases idX_inv g hb with y | ⟨i2, y1, y2, y3⟩
      · have := pu.lt b j y
        omega
      · rw [x2, y2, show i = i2 by omega]
  · show j < P.B + g
    rcases idX_inv g ha with x | ⟨i, x1, x2, x3⟩
    · have := pu.lt a j x
      omega
    · omega
  · have hk : k < P.b.n + g := hk
    show ¬ (if j < P.b.n then P.b.A j else BA (j - P.b.n)) = (if k < P.b.n then P.b.A k else BA (k - P.b.n))
    by_cases e : k < P.b.n
    · rw [if_pos e, if_pos (by omega)]
      exact pu.aj j k hjk e
    · rw [if_neg e]
      by_cases e2 : j < P.b.n
      · rw [if_pos e2]
        have h1 := id _ _ (pu.jb j e2)
        have h2 := nb (k - P.b.n) (by omega)
        omega
      · rw [if_neg e2]
        have h2 := nbi (j - P.b.n) (k - P.b.n) (by omega) (by omega)
        omega
theorem pu_more {P : PP} {c m l : Nat} {N T : Nat → Int32} (pu : PU P c) (hm : m ≤ 12) : PU (ppK P.b N T P.g P.im l P.bt P.tS P.qS P.sL P.S P.E P.SI (P.B + m) P.ID) (c + 1) := ⟨pu.g6, pu.ok, pu.oki, pu.jb, pu.ji, pu.js, pu.inj, fun a j h => Nat.lt_of_lt_of_le (pu.lt a j h) (Nat.le_add_right _ _), pu.aj, pu.aji, by have := pu.bc; show P.B + m ≤ _; omega⟩
theorem idX_b {ID : Nat → Option Nat} {BA : Nat → Nat} {B Z Z2 g : Nat} (id : ∀ a j, ID a = some j → a < Z) (hZ2 : Z ≤ Z2) (nb : ∀ j, j < g → BA j < Z2) : ∀ a j, idX ID BA B g a = some j → a < Z2 := fun a j h => by
  rcases idX_inv g h with x | ⟨i, x1, x2, x3⟩
  · exact Nat.lt_of_lt_of_le (id a j x) hZ2
  · rw [x2]
    exact nb i x1
theorem ic_take {P : PP} {h h1 : HP} {n2 l2 B2 : Nat} {A2 J2 : Nat → Nat} {D2 : Nat → DD} {N2 T2 : Nat → Int32} {ID2 : Nat → Option Nat} (ic : IC P h) (hg : P.g ≤ 6) (rx : Rx h h1) (bd : BkD h1 n2 A2 D2) (ow : Own h1 P.b.f P.b.o n2 D2) (fn : ∀ k, k < 8 → hI h1 76 k = N2 k) (tl9 : ∀ i, i < 3 → hI h1 75 i = T2 i) (tp : hI h1 41 1 = nI l2) (hl : l2 ≤ P.l) (id : ∀ a j, ID2 a = some j → a < hZ h1) : IC (ppK (bkK P.b.f n2 P.b.o A2 D2 P.b.W P.b.z J2) N2 T2 P.g P.im l2 P.bt P.tS P.qS P.sL P.S P.E P.SI B2 ID2) h1 := by
  have K : Kc (fun a j => (a = 33 ∧ j = 1) ∨ (a = 40 ∧ j = 2) ∨ a = 39 ∨ (a = 41 ∧ (j = 1 ∨ j = 2 ∨ j = 3)) ∨ a = 75 ∨ a = 76) (fun a _ => a = 43 ∨ a = 34) (fun a => 45 ≤ a ∧ a ≤ 72) h h1 := Kc.rx rx
  have h120 := ic.tp.2
  exact ⟨K.F, ⟨⟨(K.i 33 (by decide) 3 (by intros; (try dsimp only); omega)).trans ic.cb.1.1, ic.cb.1.2.1, fun y hy => (K.i 35 (by decide) y (by intros; (try dsimp only); omega)).trans (ic.cb.1.2.2.1 y hy), ic.cb.1.2.2.2⟩, bd, fun i hi => (K.i 36 (by decide) i (by intros; (try dsimp only); omega)).trans (ic.cb.2.2.1 i hi), (K.i 33 (by decide) 5 (by intros; (try dsimp only); omega)).trans ic.cb.2.2.2⟩, ow, fn, tl9, (K.i _ (by decide) _ (by intros; (try dsimp only); omega)).trans ic.pg, pi.k ic.pi hg K (by intros; (try dsimp only); omega), ⟨tp, (show l2 ≤ 120 by omega)⟩, fun i hi => (K.i _ (by decide) _ (by intros; (try dsimp only); omega)).trans (ic.tb i (Nat.lt_of_lt_of_le hi hl)), ic.sh.k K (by intros; (try dsimp only); omega), fun s hs i hi => (K.l _ (by omega) (by intros; (try dsimp only); omega) _).trans (ic.sl s hs i hi), ic.sp.k K (by intros; (try dsimp only); omega), id⟩
theorem im_take {P : PP} {h h1 : HP} {n2 l2 B2 : Nat} {A2 J2 : Nat → Nat} {D2 : Nat → DD} {N2 T2 : Nat → Int32} {ID2 : Nat → Option Nat} (im : IM P h) (S : Sf (fun a i => a = 110 ∨ a = 112 ∨ a = 113 ∨ a = 114 ∨ a = 115 ∨ a = 116 ∨ a = 119 ∨ a = 120 ∨ (a = 109 ∧ ¬ i = 1 ∧ ¬ i = 3 ∧ ¬ i = 35)) h h1) (md : MkD h1 n2 D2) (mj : ∀ k, k < n2 → hI h1 112 (8 * k + 7) = nI (J2 k)) (fn : ∀ k, k < 8 → hI h1 110 k = N2 k) (tl9 : ∀ i, i < 3 → hI h1 114 i = T2 i) (tp : hI h1 109 14 = nI l2) (hl : l2 ≤ P.l) (bn : hI h1 109 7 = nI B2) : IM (ppK (bkK P.b.f n2 P.b.o A2 D2 P.b.W P.b.z J2) N2 T2 P.g P.im l2 P.bt P.tS P.qS P.sL P.S P.E P.SI B2 ID2) h1 := by
  have e9 := S.2
  have h120 := im.tb.2.1
  have eL : ∀ i, hL h1 124 i = hL h 124 i := fun i => congrFun (congrFun (congrArg (fun z => z.1) S.1) 124) i
  have mf : MkF h1 P.b.f P.b.o := im.mb.1.sf S (by intros; (try dsimp only); omega) (by intros; (try dsimp only); omega)
  exact ⟨⟨mf, md, fun i hi => (e9 _ _ (by intros; (try dsimp only); omega)).trans (im.mb.2.2.1 i hi), (e9 _ _ (by intros; (try dsimp only); omega)).trans im.mb.2.2.2.1, mj⟩, fn, tl9, (e9 _ _ (by intros; (try dsimp only); omega)).trans im.pg, fun j hj => (im.pi j hj).elim (fun h3 q => ⟨h3, q.1.go (fun a i z => e9 a i (by intros; (try dsimp only); omega)), q.2⟩), ⟨tp, (show l2 ≤ 120 by omega), fun i hi => ⟨(e9 _ _ (by intros; (try dsimp only); omega)).trans (im.tb.2.2.1 i (Nat.lt_of_lt_of_le hi hl)).1, (im.tb.2.2.1 i (Nat.lt_of_lt_of_le hi hl)).2⟩, fun i hi => (e9 _ _ (by intros; (try dsimp only); omega)).trans (im.tb.2.2.2 i hi)⟩, im.sh.go (fun a i z => e9 a i (by intros; (try dsimp only); omega)), fun s hs i hi => (eL _).trans (im.sl s hs i hi), fun i hi => (im.sp i hi).go (fun a z => e9 a i (by intros; (try dsimp only); omega)), bn⟩
theorem Rx.gb {h h2 : HP} (F : Fx h) (g : Gb h h2) : Rx h h2 := ⟨g.up, g.F F, fun a ha j => ⟨fun _ _ _ _ _ _ => ((g.2 a (Nat.lt_of_lt_of_le ha F.1)).1 j).1, fun _ => ((g.2 a (Nat.lt_of_lt_of_le ha F.1)).1 j).2.1, fun _ _ => ((g.2 a (Nat.lt_of_lt_of_le ha F.1)).1 j).2.2⟩⟩
theorem upj {D : Nat → DD} {n : Nat} {d : DD} : ∀ k, k < n + 1 → upD D n d k = jnD D n (fun _ => d) k := fun k hk => by
  by_cases e : k = n
  · rw [e, upD_s]
    exact (jnD_r (D := D) (G := fun _ => d) (n := n) (i := 0)).symm
  · rw [upD_o e, jnD_l (by omega)]
theorem e3 {f g : Nat → Int32} (h0 : f 0 = g 0) (h1 : f 1 = g 1) (h2 : f 2 = g 2) : ∀ i, i < 3 → f i = g i := fun i hi => by
  match i, hi with
  | 0, _ => exact h0
  | 1, _ => exact h1
  | 2, _ => exact h2
/-- how a clash is told -/
def tT (s p q : Nat) (i : Nat) : Int32 := if i = 0 then nI s else if i = 1 then nI p else nI q
theorem res_ent {X : EX} {P : PP} {c : Nat} {h h1 : HP} {m9 : MD} {d9 : Nat} {as : List VV} {v : Option VV} {Q9 : Option VV → HP → Prop} {d : DD} {x y t p q m : Int32} (ic : IC P h) (im : IM P h) (pu : PU P c) (w : dWf d) (kd : DealC (dlH (nw h 2 0) (hZ h) x y t p q m none) (hZ h) d) (q9 : entR h P.b.D P.b.n P.b.f P.b.o x y t p q m d v h1) (c9 : Fx h1 → IM P h1 → Ct X m9 d9 0 0 (vR (some 109) :: as) h1 Q9) (e : ∀ v2 h2, Q9 v2 h2 → cmQ P.b.D P.b.n d P.b.f P.b.o h1 v2 h2) : RES X c m9 d9 as v h1 := by
  have G1 : Gb h (dlH (nw h 2 0) (hZ h) x y t p q m none) := dlH_G
  unfold entR at q9
  generalize dlH (nw h 2 0) (hZ h) x y t p q m none = hd at kd q9 G1
  have Kg : Kc (fun a _ => a = 0 ∧ False) (fun a _ => a = 0 ∧ False) (fun a => a = 0 ∧ False) h hd := Kc.gb ic.F G1
  have icd : IC P hd := ic.k pu.g6 Kg (fun a _ j => ⟨fun z => z.2.elim, fun z => z.2.elim⟩) (fun a _ _ z => z.2.elim)
  have imd : IM P hd := im.kc Kg (fun a i _ z => z.2) (fun z => z.2)
  have b : BkD hd P.b.n P.b.A P.b.D := icd.cb.2.1
  have hn := b.2.1
  have hzz : hZ h < hZ hd := kd.2.1.2.1
  by_cases y1 : dP d / 3 < P.b.f
  · have qf : RF hd 3 v h1 := by
      unfold entV entH at q9
      rw [if_pos y1, if_pos y1] at q9
      exact q9
    exact res_f icd imd pu (k := 3) (by decide) qf c9 (fun v2 h2 q2 => by
      have k := e v2 h2 q2
      unfold cmQ at k
      rw [if_pos y1] at k
      exact fq_M k)
  by_cases y2 : 12 ≤ P.b.n
  · have qf : RF hd 1 v h1 := by
      unfold entV entH at q9
      rw [if_neg y1, if_neg y1, if_pos y2, if_pos y2] at q9
      exact q9
    exact res_f icd imd pu (k := 1) (by decide) qf c9 (fun v2 h2 q2 => by
      have k := e v2 h2 q2
      unfold cmQ at k
      rw [if_neg y1, if_pos y2] at k
      exact fq_M k)
  have wu : ∀ k, k < P.b.n + 1 → dWf (upD P.b.D P.b.n d k) := fun k hk => by
    by_cases e : k = P.b.n
    · rw [e, upD_s]
      exact w
    · rw [upD_o e]
      exact wfD ic k (by omega)
  have cg : ∀ k, k < P.b.n → upD P.b.D P.b.n d k = P.b.D k := fun k hk => upD_o (by omega)
  have fc := rfs_F (D := upD P.b.D P.b.n d) (n := P.b.n) (d := d) wu upD_s (m := om P.b.f) (a := fo P.b.o P.b.f) (fun s h1 h2 => (pu.ok s h1 h2).cg cg)
  rw [fcl_cg cg] at fc
  have e' : ∀ v2 h2, Q9 v2 h2 → comQ P.b.D P.b.n d P.b.f P.b.o h1 v2 h2 := fun v2 h2 q2 => by
    have k := e v2 h2 q2
    unfold cmQ at k
    rw [if_neg y1, if_neg y2] at k
    exact k
  have sc : ∀ {h2 h3 : HP}, Sf scM h2 h3 → Sf (fun a i => a = 110 ∨ a = 112 ∨ a = 113 ∨ a = 114 ∨ a = 115 ∨ a = 116 ∨ a = 119 ∨ a = 120 ∨ (a = 109 ∧ ¬ i = 1 ∧ ¬ i = 3 ∧ ¬ i = 35)) h2 h3 := fun S => S.mono (fun a i z => by unfold scM at z; omega)
  rcases fc with ⟨f1, f2, f3⟩ | ⟨s, pp, qq, f1, f2, f3, f4⟩
  · have qr : Rt (vI (nI P.b.n)) (tkn hd P.b.n (hZ h) d (fo P.b.o P.b.f) (om P.b.f)) v h1 := by
      unfold entV entH at q9
      rw [if_neg y1, if_neg y1, if_neg y2, if_neg y2, f1] at q9
      exact q9
    obtain ⟨rfl, rfl⟩ := qr
    have rx : Rx h (tkn hd P.b.n (hZ h) d (fo P.b.o P.b.f) (om P.b.f)) := (Rx.gb ic.F G1).tr (Rx.tkn icd.F)
    have tI : ∀ a i, ¬ (a = 39 ∨ (a = 33 ∧ i = 1)) → hI (tkn hd P.b.n (hZ h) d (fo P.b.o P.b.f) (om P.b.f)) a i = hI hd a i := fun a i z => tkn_I (fun q => z (Or.inl q)) (fun q => z (Or.inr q))
    have cgA : ∀ k, k < P.b.n → jnA P.b.A P.b.n (fun _ => hZ h) k = P.b.A k := fun k hk => jnA_l hk
    have cgD : ∀ k, k < P.b.n → jnD P.b.D P.b.n (fun _ => d) k = P.b.D k := fun k hk => jnD_l hk
    have b2 : BkD hd P.b.n (jnA P.b.A P.b.n (fun _ => hZ h)) (jnD P.b.D P.b.n (fun _ => d)) := b.cg cgA cgD
    have bd := tkn_bd (s0 := fo P.b.o P.b.f) (m := om P.b.f) b2 (by omega) kd (jnA_r (i := 0)) (jnD_r (i := 0))
    have ow2 : Own (tkn hd P.b.n (hZ h) d (fo P.b.o P.b.f) (om P.b.f)) P.b.f P.b.o (P.b.n + 1) (jnD P.b.D P.b.n (fun _ => d)) := tkn_ow w (icd.ow.cg cgD) (jnD_r (i := 0))
    have im1 : IM P (tkn hd P.b.n (hZ h) d (fo P.b.o P.b.f) (om P.b.f)) := im.kc (Kc.rx rx) (by intros; (try dsimp only); omega) (by intros; (try dsimp only); omega)
    have ic1 := ic_take (N2 := P.N) (T2 := P.T) (l2 := P.l) (B2 := P.B + 1) (J2 := jnJ P.b.J P.b.n P.B) (ID2 := idX P.ID (fun _ => hZ h) P.B 1) ic pu.g6 rx bd ow2 (fun k hk => (tI _ _ (by omega)).trans (icd.fn k hk)) (fun i hi => (tI _ _ (by omega)).trans (icd.tl i hi)) ((tI _ _ (by omega)).trans icd.tp.1) (Nat.le_refl _) (idX_b ic.id rx.1.1 (fun j _ => Nat.lt_of_lt_of_le hzz tkn_up.1))
    refine res_c (P2 := (ppK (bkK P.b.f (P.b.n + 1) P.b.o (jnA P.b.A P.b.n (fun _ => hZ h)) (jnD P.b.D P.b.n (fun _ => d)) P.b.W P.b.z (jnJ P.b.J P.b.n P.B)) P.N P.T P.g P.im P.l P.bt P.tS P.qS P.sL P.S P.E P.SI (P.B + 1) (idX P.ID (fun _ => hZ h) P.B 1))) rfl rx.2.1 im1 c9 (fun v2 h2 q2 => ?_)
    obtain ⟨S, g1, g2, g3⟩ := e' v2 h2 q2
    rw [f2] at g3
    obtain ⟨rfl, md, g4, g5, g6⟩ := g3
    have hb7 : hI h2 109 7 = nI (P.B + 1) := by rw [g2, im1.bn, nI_1]
    refine ⟨rfl, ic1.sf pu.g6 (sc S) (by intros; (try dsimp only); omega), ?_, pu_take pu ic.id (fun j _ => Nat.le_refl _) (fun i j h1 h2 => by omega) (by decide) (fun s h1 h2 => (f3 s h1 h2).cg (fun k hk => (upj k hk).symm))⟩
    refine im_take im1 (sc S) ⟨md.1, md.2.1, fun k hk => (upj (D := P.b.D) (d := d) k hk) ▸ md.2.2 k hk⟩ (fun k hk => ?_) (fun k hk => (g6 k).trans (im1.fn k hk)) (fun k hk => (g5 k).trans (im1.tl k hk)) ((S.2 _ _ (by unfold scM; omega)).trans im1.tb.1) (Nat.le_refl _) hb7
    by_cases ek : k < P.b.n
    · rw [g1 _ (by omega), im1.mb.2.2.2.2 k ek]
      exact congrArg nI (if_pos ek).symm
    · have ek2 : k = P.b.n := by omega
      subst ek2
      rw [g4, im1.bn]
      refine congrArg nI ((if_neg ek).trans ?_).symm
      omega
  · have qr : Rt (fv 4) (fnd (tl hd s pp qq) 4) v h1 := by
      unfold entV entH at q9
      rw [if_neg y1, if_neg y1, if_neg y2, if_neg y2, f1] at q9
      exact q9
    obtain ⟨rfl, rfl⟩ := qr
    have rx : Rx h (fnd (tl hd s pp qq) 4) := ((((Rx.gb ic.F G1).tr (Rx.wI icd.F (by omega))).tr (Rx.wI (h := wI hd 75 0 (nI s)) icd.F (by omega))).tr (Rx.wI (h := wI (wI hd 75 0 (nI s)) 75 1 (nI pp)) icd.F (by omega))).tr (Rx.wI (h := tl hd s pp qq) icd.F (by omega))
    have tI : ∀ a i, ¬ (a = 75 ∨ a = 76) → hI (fnd (tl hd s pp qq) 4) a i = hI hd a i := fun a i z => (wI_a (fun q => z (Or.inr q))).trans ((wI_a (fun q => z (Or.inl q))).trans ((wI_a (fun q => z (Or.inl q))).trans (wI_a (fun q => z (Or.inl q)))))
    have t75 : ∀ i, i < 3 → hI (fnd (tl hd s pp qq) 4) 75 i = tT s pp qq i := e3 ((wI_a (by decide)).trans ((wI_i (by decide)).trans ((wI_i (by decide)).trans wI_s))) ((wI_a (by decide)).trans ((wI_i (by decide)).trans wI_s)) ((wI_a (by decide)).trans wI_s)
    have t76 : ∀ k, k < 8 → hI (fnd (tl hd s pp qq) 4) 76 k = (if k = 4 then P.N 4 + 1 else P.N k) := fun k hk => by
      have e0 : ∀ j, j < 8 → hI (tl hd s pp qq) 76 j = P.N j := fun j hj => (wI_a (by decide)).trans ((wI_a (by decide)).trans ((wI_a (by decide)).trans (icd.fn j hj)))
      by_cases e : k = 4
      · rw [if_pos e, e]
        exact wI_s.trans (by rw [e0 4 (by decide)])
      · rw [if_neg e]
        exact (wI_i e).trans (e0 k hk)
    have bd : BkD (fnd (tl hd s pp qq) 4) P.b.n P.b.A P.b.D := ⟨(tI _ _ (by omega)).trans b.1, b.2.1, fun k hk => ⟨(b.2.2 k hk).1, (b.2.2 k hk).2.up ((((Up.wI (by decide)).tr (Up.wI (by decide))).tr (Up.wI (by decide))).tr (Up.wI (by decide)))⟩⟩
    have ow2 : Own (fnd (tl hd s pp qq) 4) P.b.f P.b.o P.b.n P.b.D := fun s h1 h2 p hp => by
      rw [tI 39 s (by omega)]
      exact icd.ow s h1 h2 p hp
    have im1 : IM P (fnd (tl hd s pp qq) 4) := im.kc (Kc.rx rx) (by intros; (try dsimp only); omega) (by intros; (try dsimp only); omega)
    have ic1 := ic_take (N2 := fun k => if k = 4 then P.N 4 + 1 else P.N k) (T2 := tT s pp qq) (l2 := P.l) (B2 := P.B + 1) (J2 := P.b.J) (ID2 := P.ID) ic pu.g6 rx bd ow2 t76 t75 ((tI _ _ (by omega)).trans icd.tp.1) (Nat.le_refl _) (fun a j h => Nat.lt_of_lt_of_le (ic.id a j h) rx.1.1)
    refine res_c (P2 := (ppK P.b (fun k => if k = 4 then P.N 4 + 1 else P.N k) (tT s pp qq) P.g P.im P.l P.bt P.tS P.qS P.sL P.S P.E P.SI (P.B + 1) P.ID)) rfl rx.2.1 im1 c9 (fun v2 h2 q2 => ?_)
    obtain ⟨S, g1, g2, g3⟩ := e' v2 h2 q2
    rw [f2] at g3
    obtain ⟨rfl, md, ⟨p3, g4, g5, g6, g7⟩, g8⟩ := g3
    rw [f3] at g4
    injection g4 with g4
    subst g4
    have hb7 : hI h2 109 7 = nI (P.B + 1) := by rw [g2, im1.bn, nI_1]
    refine ⟨rfl, ic1.sf pu.g6 (sc S) (by intros; (try dsimp only); omega), ?_, pu_more pu (by decide)⟩
    refine im_take im1 (sc S) md (fun k hk => (g1 _ (by have hk : k < P.b.n := hk; omega)).trans (im1.mb.2.2.2.2 k hk)) (fun k hk => ?_) (e3 g5 g6 (g7.trans f4)) ((S.2 _ _ (by unfold scM; omega)).trans im1.tb.1) (Nat.le_refl _) hb7
    refine (g8 k).trans ?_
    by_cases e : k = 4
    · rw [if_pos e, e]
      exact wI_s.trans (by rw [im1.fn 4 (by decide)])
    · rw [if_neg e]
      exact (wI_i e).trans (im1.fn k hk)
theorem nI_cl {x : Int32} {N : Nat} (hN : N ≤ 1073741824) (z : ¬ (x < 0 ∨ nI N ≤ x)) : x = nI x.toNatClampNeg ∧ x.toNatClampNeg < N := by
  obtain ⟨i, hi, rfl⟩ := ou_of N hN z
  rw [cl (by omega)]
  exact ⟨rfl, hi⟩
theorem op_sale (X : EX) {c : Nat} {h : HP} (I : Inv c h) (x y t p q1 : Int32) : Ct X mX8_sale 7 1 7 ([vR (some 32), vI x, vI y, vI t, vI p, vI q1]) h (RES X c mX9_sale 9 [vI x, vI y, vI t, vI p, vI q1]) := by
  obtain ⟨P, ic, im, pu⟩ := I
  have bf : BkF h P.b.f P.b.o := ic.cb.1
  have b : BkD h P.b.n P.b.A P.b.D := ic.cb.2.1
  refine ct_post (zX8_sale X ic.F bf b x y t p q1) (fun v h1 q => ?_)
  skip
  by_cases z1 : slK x
  · rw [if_pos z1] at q
    by_cases z2 : (y < 0 ∨ 3 ≤ y) ∨ (t < 0 ∨ 3 ≤ t) ∨ y = t
    · rw [if_pos z2] at q
      exact res_f ic im pu (k := 0) (by decide) q (fun F1 im1 => zX9_sale X F1 im1.mb.1 im1.mb.2.1 x y t p q1) (fun v2 h2 q2 => by
          rw [if_pos z1, if_pos z2] at q2
          exact fq_M q2)
    · rw [if_neg z2] at q
      by_cases z3 : p < 0 ∨ 12 ≤ p
      · rw [if_pos z3] at q
        exact res_f ic im pu (k := 0) (by decide) q (fun F1 im1 => zX9_sale X F1 im1.mb.1 im1.mb.2.1 x y t p q1) (fun v2 h2 q2 => by
            rw [if_pos z1, if_neg z2, if_pos z3] at q2
            exact fq_M q2)
      · rw [if_neg z3] at q
        by_cases z4 : x = 0
        · rw [if_pos z4] at q
          have ey := nI_cl (N := 3) (by decide) (fun e => z2 (Or.inl e))
          have et := nI_cl (N := 3) (by decide) (fun e => z2 (Or.inr (Or.inl e)))
          have eyt : ¬ y.toNatClampNeg = t.toNatClampNeg := fun e => z2 (Or.inr (Or.inr (ey.1.trans ((congrArg nI e).trans et.1.symm))))
          have ep := nI_cl (N := 12) (by decide) z3
          have w : dWf (dNo 0 y.toNatClampNeg t.toNatClampNeg p.toNatClampNeg none 0) := dNo_1 (Or.inl rfl) ey.2 et.2 eyt ep.2 (by decide) ⟨fun _ => rfl, fun _ => rfl⟩
          have kd := dlH_C (F := ic.F) (q := none) w
          rw [← ey.1, ← et.1, ← ep.1] at kd
          exact res_ent ic im pu w kd q (fun F1 im1 => zX9_sale X F1 im1.mb.1 im1.mb.2.1 x y t p q1) (fun v2 h2 q2 => by rw [if_pos z1, if_neg z2, if_neg z3, if_pos z4] at q2; exact q2)
        · rw [if_neg z4] at q
          by_cases z5 : q1 < 1
          · rw [if_pos z5] at q
            exact res_f ic im pu (k := 0) (by decide) q (fun F1 im1 => zX9_sale X F1 im1.mb.1 im1.mb.2.1 x y t p q1) (fun v2 h2 q2 => by
                rw [if_pos z1, if_neg z2, if_neg z3, if_neg z4, if_pos z5] at q2
                exact fq_M q2)
          · rw [if_neg z5] at q
            by_cases z6 : q1 ≤ 2
            · rw [if_pos z6] at q
              have ey := nI_cl (N := 3) (by decide) (fun e => z2 (Or.inl e))
              have et := nI_cl (N := 3) (by decide) (fun e => z2 (Or.inr (Or.inl e)))
              have eyt : ¬ y.toNatClampNeg = t.toNatClampNeg := fun e => z2 (Or.inr (Or.inr (ey.1.trans ((congrArg nI e).trans et.1.symm))))
              have ep := nI_cl (N := 12) (by decide) z3
              obtain ⟨kz, hk, ex⟩ := slK_of z1
              have ex2 : x.toNatClampNeg = kz := by rw [ex, cl (by omega)]
              have hk0 : ¬ kz = 0 := fun e => z4 (by rw [ex, e]; rfl)
              have eq := nI_cl (N := 3) (x := q1) (by decide) (fun e => e.elim (fun e => z5 (Int32.lt_trans e (by decide))) (fun e => absurd (Int32.le_trans e z6) (by decide)))
              have hq1 : ¬ q1.toNatClampNeg = 0 := fun e => z5 (by rw [eq.1, e]; decide)
              have w : dWf (dNo kz y.toNatClampNeg t.toNatClampNeg p.toNatClampNeg none q1.toNatClampNeg) := dNo_1 hk ey.2 et.2 eyt ep.2 (by omega) ⟨fun e => absurd e hk0, fun e => absurd e hq1⟩
              have kd := dlH_C (F := ic.F) (q := none) w
              rw [← ey.1, ← et.1, ← ep.1, ← eq.1, ← ex] at kd
              rw [← ex2] at w kd
              exact res_ent ic im pu w kd q (fun F1 im1 => zX9_sale X F1 im1.mb.1 im1.mb.2.1 x y t p q1) (fun v2 h2 q2 => by rw [if_pos z1, if_neg z2, if_neg z3, if_neg z4, if_neg z5, if_pos z6] at q2; exact q2)
            · rw [if_neg z6] at q
              exact res_f ic im pu (k := 0) (by decide) q (fun F1 im1 => zX9_sale X F1 im1.mb.1 im1.mb.2.1 x y t p q1) (fun v2 h2 q2 => by
                  rw [if_pos z1, if_neg z2, if_neg z3, if_neg z4, if_neg z5, if_neg z6] at q2
                  exact fq_M q2)
  · rw [if_neg z1] at q
    exact res_f ic im pu (k := 0) (by decide) q (fun F1 im1 => zX9_sale X F1 im1.mb.1 im1.mb.2.1 x y t p q1) (fun v2 h2 q2 => by
        rw [if_neg z1] at q2
        exact fq_M q2)
theorem op_swap (X : EX) {c : Nat} {h : HP} (I : Inv c h) (x y p q1 m : Int32) : Ct X mX8_swap 7 1 7 ([vR (some 32), vI x, vI y, vI p, vI q1, vI m]) h (RES X c mX9_swap 9 [vI x, vI y, vI p, vI q1, vI m]) := by
  obtain ⟨P, ic, im, pu⟩ := I
  have bf : BkF h P.b.f P.b.o := ic.cb.1
  have b : BkD h P.b.n P.b.A P.b.D := ic.cb.2.1
  refine ct_post (zX8_swap X ic.F bf b x y p q1 m) (fun v h1 q => ?_)
  skip
  by_cases z1 : (x < 0 ∨ 3 ≤ x) ∨ (y < 0 ∨ 3 ≤ y) ∨ x = y
  · rw [if_pos z1] at q
    exact res_f ic im pu (k := 0) (by decide) q (fun F1 im1 => zX9_swap X F1 im1.mb.1 im1.mb.2.1 x y p q1 m) (fun v2 h2 q2 => by
        rw [if_pos z1] at q2
        exact fq_M q2)
  · rw [if_neg z1] at q
    by_cases z2 : p < 0 ∨ 12 ≤ p
    · rw [if_pos z2] at q
      exact res_f ic im pu (k := 0) (by decide) q (fun F1 im1 => zX9_swap X F1 im1.mb.1 im1.mb.2.1 x y p q1 m) (fun v2 h2 q2 => by
          rw [if_neg z1, if_pos z2] at q2
          exact fq_M q2)
    · rw [if_neg z2] at q
      by_cases z3 : q1 < 0 ∨ 12 ≤ q1
      · rw [if_pos z3] at q
        exact res_f ic im pu (k := 0) (by decide) q (fun F1 im1 => zX9_swap X F1 im1.mb.1 im1.mb.2.1 x y p q1 m) (fun v2 h2 q2 => by
            rw [if_neg z1, if_neg z2, if_pos z3] at q2
            exact fq_M q2)
      · rw [if_neg z3] at q
        by_cases z4 : p.toNatClampNeg = q1.toNatClampNeg
        · rw [if_pos z4] at q
          exact res_f ic im pu (k := 0) (by decide) q (fun F1 im1 => zX9_swap X F1 im1.mb.1 im1.mb.2.1 x y p q1 m) (fun v2 h2 q2 => by
              rw [if_neg z1, if_neg z2, if_neg z3, if_pos z4] at q2
              exact fq_M q2)
        · rw [if_neg z4] at q
          by_cases z5 : p.toNatClampNeg / 3 = q1.toNatClampNeg / 3
          · rw [if_pos z5] at q
            by_cases z6 : m < 0
            · rw [if_pos z6] at q
              exact res_f ic im pu (k := 0) (by decide) q (fun F1 im1 => zX9_swap X F1 im1.mb.1 im1.mb.2.1 x y p q1 m) (fun v2 h2 q2 => by
                  rw [if_neg z1, if_neg z2, if_neg z3, if_neg z4, if_pos z5, if_pos z6] at q2
                  exact fq_M q2)
            · rw [if_neg z6] at q
              by_cases z7 : m ≤ 2
              · rw [if_pos z7] at q
                have ex := nI_cl (N := 3) (by decide) (fun e => z1 (Or.inl e))
                have ey := nI_cl (N := 3) (by decide) (fun e => z1 (Or.inr (Or.inl e)))
                have exy : ¬ x.toNatClampNeg = y.toNatClampNeg := fun e => z1 (Or.inr (Or.inr (ex.1.trans ((congrArg nI e).trans ey.1.symm))))
                have ep := nI_cl (N := 12) (by decide) z2
                have eq := nI_cl (N := 12) (x := q1) (by decide) z3
                have em := nI_cl (N := 3) (x := m) (by decide) (fun e => e.elim z6 (fun e => absurd (Int32.le_trans e z7) (by decide)))
                have w : dWf (dNo (if m.toNatClampNeg = 0 then 2 else 5) x.toNatClampNeg y.toNatClampNeg p.toNatClampNeg (some q1.toNatClampNeg) m.toNatClampNeg) := dNo_2 ex.2 ey.2 exy ep.2 eq.2 z4 z5 (by omega)
                have kd := dlH_C (F := ic.F) (q := some q1.toNatClampNeg) w
                have eo : oI (some q1.toNatClampNeg) = q1 := eq.1.symm
                rw [eo, ← ex.1, ← ey.1, ← ep.1, ← em.1] at kd
                have ek : nI (if m.toNatClampNeg = 0 then 2 else 5) = (if m.toNatClampNeg = 0 then (2 : Int32) else 5) := by
                  by_cases e : m.toNatClampNeg = 0
                  · rw [if_pos e, if_pos e]; rfl
                  · rw [if_neg e, if_neg e]; rfl
                rw [ek] at kd
                exact res_ent ic im pu w kd q (fun F1 im1 => zX9_swap X F1 im1.mb.1 im1.mb.2.1 x y p q1 m) (fun v2 h2 q2 => by rw [if_neg z1, if_neg z2, if_neg z3, if_neg z4, if_pos z5, if_neg z6, if_pos z7] at q2; exact q2)
              · rw [if_neg z7] at q
                exact res_f ic im pu (k := 0) (by decide) q (fun F1 im1 => zX9_swap X F1 im1.mb.1 im1.mb.2.1 x y p q1 m) (fun v2 h2 q2 => by
                    rw [if_neg z1, if_neg z2, if_neg z3, if_neg z4, if_pos z5, if_neg z6, if_neg z7] at q2
                    exact fq_M q2)
          · rw [if_neg z5] at q
            exact res_f ic im pu (k := 0) (by decide) q (fun F1 im1 => zX9_swap X F1 im1.mb.1 im1.mb.2.1 x y p q1 m) (fun v2 h2 q2 => by
                rw [if_neg z1, if_neg z2, if_neg z3, if_neg z4, if_neg z5] at q2
                exact fq_M q2)
