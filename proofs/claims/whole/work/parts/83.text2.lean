/-! contracts: text (written by wip/whole/g83.py) -/
def jnA (A : Nat → Nat) (n : Nat) (B : Nat → Nat) (k : Nat) : Nat := if k < n then A k else B (k - n)
theorem jnA_r {A B : Nat → Nat} {n i : Nat} : jnA A n B (n + i) = B i := by
  unfold jnA
  rw [if_neg (by omega), Nat.add_sub_cancel_left]
theorem jnD_r {D G : Nat → DD} {n i : Nat} : (jnD D n G) (n + i) = G i := by
  unfold jnD
  rw [if_neg (by omega), Nat.add_sub_cancel_left]
theorem jnA_l {A B : Nat → Nat} {n k : Nat} (h : k < n) : jnA A n B k = A k := if_pos h
theorem jnD_l {D G : Nat → DD} {n k : Nat} (h : k < n) : (jnD D n G) k = D k := if_pos h
theorem BkD.cg {h : HP} {n : Nat} {A A2 : Nat → Nat} {D D2 : Nat → DD} (b : BkD h n A D) (hA : ∀ k, k < n → A2 k = A k) (hD : ∀ k, k < n → D2 k = D k) : BkD h n A2 D2 := ⟨b.1, b.2.1, fun k hk => by
  rw [hA k hk, hD k hk]
  exact b.2.2 k hk⟩
theorem ow_cg {D D2 : Nat → DD} {s p : Nat} : ∀ {n : Nat}, (∀ k, k < n → D2 k = D k) → ow D2 s p n = ow D s p n := by
  intro n
  induction n with
  | zero => intro _; rfl
  | succ n ih =>
    intro h
    unfold ow
    rw [h n (by omega), ih (fun k hk => h k (by omega))]
theorem Own.cg {h : HP} {f n : Nat} {o : Nat → Nat} {D D2 : Nat → DD} (w : Own h f o n D) (hD : ∀ k, k < n → D2 k = D k) : Own h f o n D2 := fun s h1 h2 p hp => (w s h1 h2 p hp).trans (congrArg nI (ow_cg hD).symm)
theorem tkn_up {h : HP} {n a s0 m : Nat} {d : DD} : Up h (tkn h n a d s0 m) := ((Up.wR (by decide)).tr (Up.wI (by decide))).tr Up.rw
theorem tkn_I {h : HP} {n a s0 m b i : Nat} {d : DD} (h1 : b ≠ 39) (h2 : ¬ (b = 33 ∧ i = 1)) : hI (tkn h n a d s0 m) b i = hI h b i := (rwR_I h1).trans (if_neg h2)
theorem tkn_R {h : HP} {n a s0 m b i : Nat} {d : DD} (h1 : ¬ (b = 34 ∧ i = n)) : hR (tkn h n a d s0 m) b i = hR h b i := if_neg h1
theorem tkn_bd {h : HP} {n a s0 m : Nat} {A : Nat → Nat} {D : Nat → DD} {d : DD} (b : BkD h n A D) (hn : n < 12) (kd : DealC h a d) (hA : A n = a) (hD : D n = d) : BkD (tkn h n a d s0 m) (n + 1) A D := ⟨tkn_33, hn, fun k hk => by
  by_cases e : k = n
  · rw [e, hA, hD]
    exact ⟨up2_s, kd.up tkn_up⟩
  · have := b.2.2 k (by omega)
    exact ⟨(tkn_R (by omega)).trans this.1, this.2.up tkn_up⟩⟩
theorem tkn_ow {h : HP} {n a f : Nat} {o : Nat → Nat} {D : Nat → DD} {d : DD} (w : dWf d) (O : Own h f o n D) (hD : D n = d) : Own (tkn h n a d (fo o f) (om f)) f o (n + 1) D := fun s h1 h2 p hp => by
  have e : hI (tkn h n a d (fo o f) (om f)) 39 s = stl d s (hI h 39 s) := by
    unfold tkn
    rw [rwR_39]
    unfold rng
    rw [if_pos ⟨h1, h2⟩]
    exact congrArg (stl d s) (wI_a (by decide))
  rw [e]
  exact own_step w hp hD (O s h1 h2 p hp)
/-- what text may change -/
def Rx (h h' : HP) : Prop := Up h h' ∧ Fx h' ∧ ∀ a, a < 134 → ∀ i, (¬ (a = 33 ∧ i = 1) → ¬ (a = 40 ∧ i = 2) → ¬ a = 39 → ¬ (a = 41 ∧ (i = 1 ∨ i = 2 ∨ i = 3)) → ¬ a = 75 → ¬ a = 76 → hI h' a i = hI h a i) ∧ ((a < 45 ∨ 72 < a) → hL h' a i = hL h a i) ∧ (a ≠ 43 → a ≠ 34 → hR h' a i = hR h a i)
theorem Rx.tr {h1 h2 h3 : HP} (a : Rx h1 h2) (b : Rx h2 h3) : Rx h1 h3 := ⟨a.1.tr b.1, b.2.1, fun x hx i => ⟨fun z1 z2 z3 z4 z5 z6 => ((b.2.2 x hx i).1 z1 z2 z3 z4 z5 z6).trans ((a.2.2 x hx i).1 z1 z2 z3 z4 z5 z6), fun z => ((b.2.2 x hx i).2.1 z).trans ((a.2.2 x hx i).2.1 z), fun z1 z2 => ((b.2.2 x hx i).2.2 z1 z2).trans ((a.2.2 x hx i).2.2 z1 z2)⟩⟩
theorem Rd.x {h h' : HP} (a : Rd h h') : Rx h h' := ⟨a.1, a.2.1, fun x hx i => ⟨fun _ z2 _ z4 _ _ => (a.2.2 x hx i).1 z2 (fun e => z4 ⟨e.1, Or.inr e.2⟩), (a.2.2 x hx i).2.1, fun z _ => (a.2.2 x hx i).2.2 z⟩⟩
theorem Rx.wI {h : HP} (F : Fx h) {b j : Nat} {v : Int32} (hb : (b = 33 ∧ j = 1) ∨ (b = 41 ∧ j = 1) ∨ b = 75 ∨ b = 76) : Rx h (wI h b j v) := ⟨Up.wI (by omega), F, fun a _ i => ⟨fun _ _ _ _ _ _ => if_neg (by omega), fun _ => rfl, fun _ _ => rfl⟩⟩
theorem Rx.rw {h : HP} (F : Fx h) {r : Nat → Int32} : Rx h (rwR h r) := ⟨Up.rw, F, fun a _ i => ⟨fun _ _ z _ _ _ => rwR_I z, fun _ => rfl, fun _ _ => rfl⟩⟩
theorem Rx.tkn {h : HP} (F : Fx h) {n a s0 m : Nat} {d : DD} : Rx h (tkn h n a d s0 m) := ⟨tkn_up, Fx.wR F (by decide), fun b _ i => ⟨fun z1 _ z3 _ _ _ => tkn_I z3 z1, fun _ => rfl, fun _ z => tkn_R (fun e => z e.1)⟩⟩
theorem BkF.rx {h h' : HP} {f : Nat} {o : Nat → Nat} (b : BkF h f o) (r : Rx h h') : BkF h' f o := ⟨((r.2.2 33 (by decide) 3).1 (by omega) (by omega) (by omega) (by omega) (by omega) (by omega)).trans b.1, b.2.1, fun y hy => ((r.2.2 35 (by decide) y).1 (by omega) (by omega) (by omega) (by omega) (by omega) (by omega)).trans (b.2.2.1 y hy), b.2.2.2⟩
/-- i deals of a TEXT are taken -/
def TxS (h0 : HP) (n f : Nat) (o : Nat → Nat) (A : Nat → Nat) (D : Nat → DD) (B : Nat → Nat) (G : Nat → DD) (g i : Nat) (h : HP) : Prop := Rx h0 h ∧ hI h 41 1 = 0 ∧ BkD h (n + i) (jnA A n B) (jnD D n G) ∧ (Own h0 f o n D → Own h f o (n + i) (jnD D n G)) ∧ (∀ j, hI h 75 j = hI h0 75 j) ∧ (∀ j, hI h 76 j = hI h0 76 j) ∧ CmC h g B G ∧ NewB (hZ h0) h g B ∧ ∀ j, j < i → fcl (jnD D n G) (n + j) (G j) (fo o f) (om f) = none
theorem TxS.s {h0 h : HP} {n f g i : Nat} {o : Nat → Nat} {A B : Nat → Nat} {D G : Nat → DD} (k : TxS h0 n f o A D B G g i h) (hi : i < g) (hn : n + i < 12) (e : fcl (jnD D n G) (n + i) (G i) (fo o f) (om f) = none) : TxS h0 n f o A D B G g (i + 1) (tkn h (n + i) (B i) (G i) (fo o f) (om f)) := by
  obtain ⟨a1, a2, a3, a4, a5, a6, a7, a8, a9⟩ := k
  have kd := (a7.2.2 i hi).2
  have rx : Rx h (tkn h (n + i) (B i) (G i) (fo o f) (om f)) := Rx.tkn a1.2.1
  refine ⟨a1.tr rx, (tkn_I (by decide) (by decide)).trans a2, tkn_bd a3 hn kd jnA_r jnD_r, fun O => tkn_ow kd.2.2.1 (a4 O) jnD_r, fun j => (tkn_I (by decide) (by omega)).trans (a5 j), fun j => (tkn_I (by decide) (by omega)).trans (a6 j), ⟨(tkn_I (by decide) (by decide)).trans a7.1, a7.2.1, fun j hj => ⟨(tkn_R (by omega)).trans (a7.2.2 j hj).1, (a7.2.2 j hj).2.up tkn_up⟩⟩, a8, fun j hj => ?_⟩
  by_cases x : j = i
  · rw [x]; exact e
  · exact a9 j (by omega)
/-- what text leaves -/
def cxQ (h0 : HP) (n f : Nat) (o : Nat → Nat) (A : Nat → Nat) (D : Nat → DD) (l : Nat) (R : Option (Nat × (Nat → DD)) × PT) : Option VV → HP → Prop := fun v h => Rx h0 h ∧ hI h 41 1 = 0 ∧ ((rsW l R = true ∧ v = some (vI (-1 - nI R.2.1)) ∧ hI h 33 1 = hI h0 33 1 ∧ (∀ i, hI h 39 i = hI h0 39 i) ∧ (∀ i, hI h 75 i = hI h0 75 i) ∧ (∀ i, hI h 76 i = hI h0 76 i) ∧ ∀ i, hR h 34 i = hR h0 34 i) ∨ (rsW l R = false ∧ ∃ g G B, R.1 = some (g, G) ∧ n + g ≤ 12 ∧ (∀ j, j < g → dWf (G j)) ∧ ((v = some (vI (nI g)) ∧ TxS h0 n f o A D B G g g h) ∨ (v = some (fv 4) ∧ BkD h n A D ∧ Own h f o n D ∧ (∀ i, hI h 76 i = hI (fnd h0 4) 76 i) ∧ ∃ j q, j < g ∧ (∀ i, i < j → fcl (jnD D n G) (n + i) (G i) (fo o f) (om f) = none) ∧ fcl (jnD D n G) (n + j) (G j) (fo o f) (om f) = some q ∧ hI h 75 0 = nI q.1 ∧ hI h 75 1 = nI q.2.1 ∧ hI h 75 2 = nI q.2.2))))
theorem cx_clash {h0 hz : HP} {n f g i l : Nat} {o : Nat → Nat} {A B : Nat → Nat} {D G : Nat → DD} {R : Option (Nat × (Nat → DD)) × PT} {q : Nat × Nat × Nat} (k : TxS h0 n f o A D B G g i hz) (b0 : BkD h0 n A D) (hw : rsW l R = false) (hR : R.1 = some (g, G)) (hg : n + g ≤ 12) (hi : i < g) (e : fcl (jnD D n G) (n + i) (G i) (fo o f) (om f) = some q) {r : Nat → Int32} (hr : ∀ s, fo o f ≤ s → s < fo o f + om f → ∀ p, p < 12 → dgt (r s) p = nI (ow D s p n)) : cxQ h0 n f o A D l R (some (fv 4)) (fnd (rwR (wI (tl hz q.1 q.2.1 q.2.2) 33 1 (nI n)) r) 4) := by
  obtain ⟨a1, a2, a3, a4, a5, a6, a7, a8, a9⟩ := k
  have F := a1.2.1
  have w9 : ∀ a j, ¬ (a = 39 ∨ a = 75 ∨ a = 76 ∨ (a = 33 ∧ j = 1)) → hI (fnd (rwR (wI (tl hz q.1 q.2.1 q.2.2) 33 1 (nI n)) r) 4) a j = hI hz a j := fun a j z => (wI_a (by omega)).trans ((rwR_I (by omega)).trans ((if_neg (by omega)).trans ((wI_a (by omega)).trans ((wI_a (by omega)).trans (wI_a (by omega))))))
  have rx : Rx hz (fnd (rwR (wI (tl hz q.1 q.2.1 q.2.2) 33 1 (nI n)) r) 4) := (((((Rx.wI F (by omega)).tr (Rx.wI (h := wI hz 75 0 (nI q.1)) F (by omega))).tr (Rx.wI (h := wI (wI hz 75 0 (nI q.1)) 75 1 (nI q.2.1)) F (by omega))).tr (Rx.wI (h := tl hz q.1 q.2.1 q.2.2) F (by omega))).tr (Rx.rw (h := wI (tl hz q.1 q.2.1 q.2.2) 33 1 (nI n)) F)).tr (Rx.wI (h := rwR (wI (tl hz q.1 q.2.1 q.2.2) 33 1 (nI n)) r) F (by omega))
  have t9 : ∀ j, hI (fnd (rwR (wI (tl hz q.1 q.2.1 q.2.2) 33 1 (nI n)) r) 4) 75 j = hI (tl hz q.1 q.2.1 q.2.2) 75 j := fun j => (wI_a (by decide)).trans ((rwR_I (by decide)).trans (wI_a (by decide)))
  refine ⟨a1.tr rx, (w9 _ _ (by omega)).trans a2, Or.inr ⟨hw, g, G, B, hR, hg, (fun j hj => (a7.2.2 j hj).2.2.2.1), Or.inr ⟨rfl, ?_, fun s h1 h2 p hp => ?_, fun j => ?_, i, q, hi, a9, e, ?_, ?_, ?_⟩⟩⟩
  · refine ⟨(wI_a (by decide)).trans ((rwR_I (by decide)).trans wI_s), b0.2.1, fun k hk => ?_⟩
    have := a3.2.2 k (by omega)
    rw [jnA_l hk, jnD_l hk] at this
    exact ⟨this.1, this.2.up rx.1⟩
  · rw [show hI (fnd (rwR (wI (tl hz q.1 q.2.1 q.2.2) 33 1 (nI n)) r) 4) 39 s = r s from (wI_a (by decide)).trans rwR_39]
    exact hr s h1 h2 p hp
  · have e76 : ∀ j, hI (rwR (wI (tl hz q.1 q.2.1 q.2.2) 33 1 (nI n)) r) 76 j = hI h0 76 j := fun j => (rwR_I (by decide)).trans ((wI_a (by decide)).trans ((wI_a (by decide)).trans ((wI_a (by decide)).trans ((wI_a (by decide)).trans (a6 j)))))
    show (if 76 = 76 ∧ j = 4 then hI (rwR (wI (tl hz q.1 q.2.1 q.2.2) 33 1 (nI n)) r) 76 4 + 1 else hI (rwR (wI (tl hz q.1 q.2.1 q.2.2) 33 1 (nI n)) r) 76 j) = (if 76 = 76 ∧ j = 4 then hI h0 76 4 + 1 else hI h0 76 j)
    rw [e76, e76]
  · exact (t9 0).trans ((wI_i (by decide)).trans ((wI_i (by decide)).trans wI_s))
  · exact (t9 1).trans ((wI_i (by decide)).trans wI_s)
  · exact (t9 2).trans wI_s
theorem ev_tx (X : EX) {h0 : HP} {l n f g : Nat} {A B : Nat → Nat} {D G : Nat → DD} {o : Nat → Nat} (bf0 : BkF h0 f o) (b0 : BkD h0 n A D) {R : Option (Nat × (Nat → DD)) × PT} (hw : rsW l R = false) (hR1 : R.1 = some (g, G)) (hg : n + g ≤ 12) : ∀ (m i : Nat) (hz : HP), i + m = g → TxS h0 n f o A D B G g i hz → Ev X mX8_text 23 39 377 (cxQ h0 n f o A D l R) 39 377 33 [(0, some (vR (some 32))), (1, some (vI (nI n))), (2, some (vI (nI g))), (3, some (vI (nI i)))] [] hz := by
  have hn12 := b0.2.1
  have loop : ∀ (m : Nat) (i : Nat) (hz : HP), i + m = g → TxS h0 n f o A D B G g i hz → Ev X mX8_text 23 39 377 (cxQ h0 n f o A D l R) 39 377 33 [(0, some (vR (some 32))), (1, some (vI (nI n))), (2, some (vI (nI g))), (3, some (vI (nI i)))] [] hz := by
    intro m
    induction m with
    | zero =>
      intro i hz hk k
      refine e_iload_n aX8_text_33 rfl ?_
      refine e_iload_n aX8_text_34 rfl ?_
      refine e_icmp_ge aX8_text_35 (fun c35 => ?_) (fun c35 => ?_)
      · -- 35: taken
        refine e_iload_n aX8_text_77 rfl ?_
        refine e_ireturn aX8_text_78 rfl (Nat.le_of_ble_eq_true rfl) (Nat.le_of_ble_eq_true rfl) ?_
        obtain rfl : i = g := by omega
        exact ⟨k.1, k.2.1, Or.inr ⟨hw, i, G, B, hR1, hg, (fun j hj => (k.2.2.2.2.2.2.1.2.2 j hj).2.2.2.1), Or.inl ⟨rfl, k⟩⟩⟩
      · -- 35: not taken
        exact absurd (nI_le (by omega) (by omega)) c35
    | succ m ih =>
      intro i hz hk k
      have hi : i < g := by omega
      have F := k.1.2.1
      have bf := bf0.rx k.1
      have kd := (k.2.2.2.2.2.2.1.2.2 i hi).2
      have cm := k.2.2.2.2.2.2.1
      have bd := k.2.2.1
      refine e_iload_n aX8_text_33 rfl ?_
      refine e_iload_n aX8_text_34 rfl ?_
      refine e_icmp_ge aX8_text_35 (fun c35 => ?_) (fun c35 => ?_)
      · -- 35: taken
        exact absurd c35 (nI_ge (by omega) (by omega))
      · -- 35: not taken
        refine e_aload_n aX8_text_38 rfl ?_
        refine e_aload_n aX8_text_39 rfl ?_
        refine e_getRF aX8_text_40 fX8_30 rfl (fx_is F rfl) (fx_r (b := 40) F rfl) ?_
        refine e_iload_n aX8_text_43 rfl ?_
        refine e_invvT aX8_text_44 kX8_117 (zX3_cameAt X F cm (nI i)) rfl rfl (fx_is F rfl) (Nat.le_of_ble_eq_true rfl) (Nat.le_of_ble_eq_true rfl) (Nat.le_of_ble_eq_true rfl) (Nat.le_of_ble_eq_true rfl) (Nat.le_of_ble_eq_true rfl) ?_
        refine e_topR (v := some (B i)) (by unfold dl; rw [if_neg (fun y => y.elim (nI_pos (by omega)) (nI_ge hi (by omega))), cl (by omega)]) ?_
        refine e_invvT aX8_text_47 kX8_121 (zX8_takes X F bf bd (show n + i < 12 by omega) kd) rfl rfl (fx_is F rfl) (Nat.le_of_ble_eq_true rfl) (Nat.le_of_ble_eq_true rfl) (Nat.le_of_ble_eq_true rfl) (Nat.le_of_ble_eq_true rfl) (Nat.le_of_ble_eq_true rfl) ?_
        refine e_if_ne aX8_text_50 (fun c50 => ?_) (fun c50 => ?_)
        · -- 50: taken
          have q50 := Option.isNone_iff_eq_none.mp (Decidable.of_not_not (fun z => c50 (b2_0.mpr z)))
          refine e_hp (h2 := tkn hz (n + i) (B i) (G i) (fo o f) (om f)) (by rw [q50]) ?_
          refine e_iinc aX8_text_71 rfl rfl (Nat.le_of_ble_eq_true rfl) ?_
          refine e_goto aX8_text_74 ?_
          refine e_ls (ls' := [(0, some (vR (some 32))), (1, some (vI (nI n))), (2, some (vI (nI g))), (3, some (vI (nI (i + 1))))]) ⟨rfl, rfl, rfl, congrArg (fun x => some (vI x)) (nI_1 i), trivial⟩ ?_
          exact ih (i + 1) _ (by omega) (k.s hi (by omega) q50)
        · -- 50: not taken
          obtain ⟨q, q50⟩ := Option.ne_none_iff_exists'.mp (fun z => b2_0.mp c50 (Option.isNone_iff_eq_none.mpr z))
          refine e_hp (h2 := tl hz q.1 q.2.1 q.2.2) (by rw [q50]) ?_
          refine e_aload_n aX8_text_53 rfl ?_
          refine e_getRF aX8_text_54 fX8_10 rfl (fx_is F rfl) (fx_r (b := 33) F rfl) ?_
          refine e_iload_n aX8_text_57 rfl ?_
          refine e_putI aX8_text_58 fX8_101 rfl (fx_is F rfl) (Or.inl rfl) ?_
          have rx2 : Rx hz (wI (tl hz q.1 q.2.1 q.2.2) 33 1 (nI n)) := ((((Rx.wI F (by omega)).tr (Rx.wI (h := wI hz 75 0 (nI q.1)) F (by omega))).tr (Rx.wI (h := wI (wI hz 75 0 (nI q.1)) 75 1 (nI q.2.1)) F (by omega))).tr (Rx.wI (h := tl hz q.1 q.2.1 q.2.2) F (by omega)))
          have bf2 := bf.rx rx2
          have bd2 : BkD (wI (tl hz q.1 q.2.1 q.2.2) 33 1 (nI n)) n A D := ⟨wI_s, b0.2.1, fun y hy => by
            have := bd.2.2 y (by omega)
            rw [jnA_l hy, jnD_l hy] at this
            exact ⟨this.1, this.2.up rx2.1⟩⟩
          refine e_aload_n aX8_text_61 rfl ?_
          refine e_invv aX8_text_62 kX8_125 (zX8_settleAll X (h := wI (tl hz q.1 q.2.1 q.2.2) 33 1 (nI n)) F (n := n) (A := A) (D := D) bf2 bd2) rfl rfl (fx_is F rfl) (Nat.le_of_ble_eq_true rfl) (Nat.le_of_ble_eq_true rfl) (Nat.le_of_ble_eq_true rfl) (Nat.le_of_ble_eq_true rfl) (Nat.le_of_ble_eq_true rfl) ?_
          rintro v h2 ⟨rfl, r, rfl, hr⟩
          refine e_aload_n aX8_text_65 rfl ?_
          refine e_iconst (v := 4) aX8_text_66 (by decide) ?_
          refine e_invvT aX8_text_67 kX8_62 (zfin X (k := 4) (h := rwR (wI (tl hz q.1 q.2.1 q.2.2) 33 1 (nI n)) r) F (by decide)) rfl rfl (fx_is F rfl) (Nat.le_of_ble_eq_true rfl) (Nat.le_of_ble_eq_true rfl) (Nat.le_of_ble_eq_true rfl) (Nat.le_of_ble_eq_true rfl) (Nat.le_of_ble_eq_true rfl) ?_
          refine e_ireturn aX8_text_70 rfl (Nat.le_of_ble_eq_true rfl) (Nat.le_of_ble_eq_true rfl) ?_
          exact cx_clash k b0 hw hR1 hg hi q50 hr
  exact loop
theorem txF_o {bt : Nat → Int32} {l n f : Nat} {D : Nat → DD} : ∀ m p c E, okp l p → okp l (txF bt l D n f m p c E).2 := by
  intro m
  induction m with
  | zero => intro p c E z; exact z
  | succ m ih =>
    intro p c E z
    rcases e : (itF bt l D n E c f p).1 with _ | d
    · rw [txF_n e]; exact okp_I z
    · rw [txF_d e]
      split
      · exact ih _ _ _ (okp_n (okp_I z))
      · exact okp_I z
theorem neg_le {a : Nat} (h : a < 1000) : (-1 - nI a : Int32) ≤ nI 0 := by
  rw [Int32.le_iff_toInt_le, Int32.toInt_sub, nI_toInt (by omega), nI_toInt (by decide), show ((-1 : Int32)).toInt = -1 from rfl, Int.bmod_def]
  omega
theorem txF_p {h0 : HP} {l n f : Nat} {D E0 : Nat → DD} (hl : l ≤ 120) (R : Option (Nat × (Nat → DD)) × PT) (hR : txF (hI h0 42) l D n f 13 (nxT (hI h0 42) l (0, 0)) 0 E0 = R) : R.2.1 < 1000 := by
  have z := txF_o (bt := hI h0 42) (n := n) (f := f) (D := D) 13 (nxT (hI h0 42) l (0, 0)) 0 E0 (okp_n (p := (0, 0)) ⟨Nat.le_refl _, Nat.zero_le _⟩)
  rw [hR] at z
  have z1 : R.2.1 ≤ R.2.2 := z.1
  have z2 : R.2.2 ≤ l := z.2
  omega
theorem zX8_text (X : EX) {h0 : HP} (F0 : Fx h0) {l n f : Nat} {A : Nat → Nat} {D E0 : Nat → DD} {o : Nat → Nat} (t : TpL h0 l) (bf : BkF h0 f o) (b : BkD h0 n A D) {R : Option (Nat × (Nat → DD)) × PT} (hR : txF (hI h0 42) l D n f 13 (nxT (hI h0 42) l (0, 0)) 0 E0 = R) : Ct X mX8_text 23 39 377 [vR (some 32)] h0 (cxQ h0 n f o A D l R) := by
  refine ct_of rfl (Nat.le_of_ble_eq_true rfl) ?_
  have F := F0
  refine e_aload_n aX8_text_0 rfl ?_
  refine e_getRF aX8_text_1 fX8_10 rfl (fx_is F rfl) (fx_r (b := 33) F rfl) ?_
  refine e_getIF aX8_text_4 fX8_101 rfl (fx_is F rfl) b.1 ?_
  refine e_istore_n aX8_text_7 (Nat.le_of_ble_eq_true rfl) ?_
  refine e_aload_n aX8_text_8 rfl ?_
  refine e_getRF aX8_text_9 fX8_30 rfl (fx_is F rfl) (fx_r (b := 40) F rfl) ?_
  refine e_aload_n aX8_text_12 rfl ?_
  refine e_getRF aX8_text_13 fX8_10 rfl (fx_is F rfl) (fx_r (b := 33) F rfl) ?_
  refine e_invv aX8_text_16 kX8_104 (zX3_readText X (E0 := E0) F t bf b hR) rfl rfl (fx_is F rfl) (Nat.le_of_ble_eq_true rfl) (Nat.le_of_ble_eq_true rfl) (Nat.le_of_ble_eq_true rfl) (Nat.le_of_ble_eq_true rfl) (Nat.le_of_ble_eq_true rfl) ?_
  rintro v h1 ⟨r1, H0⟩
  obtain ⟨x, rfl, H⟩ : ∃ x, v = some (vI x) ∧ ((rsW l R = true ∧ x = -1 - nI R.2.1) ∨ (rsW l R = false ∧ ∃ g G B, R.1 = some (g, G) ∧ x = nI g ∧ CmC h1 g B G ∧ NewB (hZ h0) h1 g B)) := by
    rcases H0 with ⟨e1, e2⟩ | ⟨e1, g, G, B, e2, e3, e4, e5⟩
    · exact ⟨_, e2, Or.inl ⟨e1, rfl⟩⟩
    · exact ⟨_, e3, Or.inr ⟨e1, g, G, B, e2, rfl, e4, e5⟩⟩
  have F1 := r1.2.1
  have F := F1
  refine e_istore_n aX8_text_19 (Nat.le_of_ble_eq_true rfl) ?_
  refine e_aload_n aX8_text_20 rfl ?_
  refine e_getRF aX8_text_21 fX8_30 rfl (fx_is F rfl) (fx_r (b := 40) F rfl) ?_
  refine e_getRF aX8_text_24 fX8_108 rfl (fx_is F rfl) (fx_r (b := 41) F rfl) ?_
  refine e_iconst (v := 0) aX8_text_27 (by decide) ?_
  refine e_putI aX8_text_28 fX8_112 rfl (fx_is F rfl) (Or.inl rfl) ?_
  refine e_iconst (v := 0) aX8_text_31 (by decide) ?_
  refine e_istore_n aX8_text_32 (Nat.le_of_ble_eq_true rfl) ?_
  rcases H with ⟨hw, rfl⟩ | ⟨hw, g, G, B, hR1, rfl, cm, nb⟩
  · refine e_ls (ls' := [(0, some (vR (some 32))), (1, some (vI (nI n))), (2, some (vI (-1 - nI R.2.1))), (3, some (vI (nI 0)))]) ⟨rfl, rfl, rfl, rfl, trivial⟩ ?_
    have hp := txF_p t.2 R hR
    refine e_iload_n aX8_text_33 rfl ?_
    refine e_iload_n aX8_text_34 rfl ?_
    refine e_icmp_ge aX8_text_35 (fun c35 => ?_) (fun c35 => ?_)
    · -- 35: taken
      refine e_iload_n aX8_text_77 rfl ?_
      refine e_ireturn aX8_text_78 rfl (Nat.le_of_ble_eq_true rfl) (Nat.le_of_ble_eq_true rfl) ?_
      exact ⟨r1.x.tr (Rx.wI (h := h1) F1 (by omega)), wI_s, Or.inl ⟨hw, rfl, (wI_a (by decide)).trans ((r1.2.2 33 (by decide) 1).1 (by omega) (by omega)), fun i => (wI_a (by decide)).trans ((r1.2.2 39 (by decide) i).1 (by omega) (by omega)), fun i => (wI_a (by decide)).trans ((r1.2.2 75 (by decide) i).1 (by omega) (by omega)), fun i => (wI_a (by decide)).trans ((r1.2.2 76 (by decide) i).1 (by omega) (by omega)), fun i => (r1.2.2 34 (by decide) i).2.2 (by decide)⟩⟩
    · -- 35: not taken
      exact absurd (neg_le hp) c35
  · refine e_ls (ls' := [(0, some (vR (some 32))), (1, some (vI (nI n))), (2, some (vI (nI g))), (3, some (vI (nI 0)))]) ⟨rfl, rfl, rfl, rfl, trivial⟩ ?_
    obtain ⟨q, eq9⟩ : ∃ q, R = (some (g, G), q) := ⟨R.2, by rw [← hR1]⟩
    have hg := (txP_le _ _ _ (txF_P 13 (nxT (hI h0 42) l (0, 0)) 0 E0 (hR.trans eq9)).2).2
    have rx := r1.x.tr (Rx.wI (h := h1) (b := 41) (j := 1) (v := 0) F1 (by omega))
    exact ev_tx X bf b hw hR1 hg g 0 (wI h1 41 1 0) (by omega) ⟨rx, wI_s, ((b.rd r1).up (Up.wI (by decide)) (wI_a (by decide)) (fun _ => rfl)).cg (fun k hk => jnA_l hk) (fun k hk => jnD_l hk), fun O => (show Own (wI h1 41 1 0) f o n D from fun s x1 x2 p hp => by
      rw [show hI (wI h1 41 1 0) 39 s = hI h0 39 s from (wI_a (by decide)).trans ((r1.2.2 39 (by decide) s).1 (by omega) (by omega))]
      exact O s x1 x2 p hp).cg (fun k hk => jnD_l hk), fun j => (wI_a (by decide)).trans ((r1.2.2 75 (by decide) j).1 (by omega) (by omega)), fun j => (wI_a (by decide)).trans ((r1.2.2 76 (by decide) j).1 (by omega) (by omega)), ⟨(wI_a (by decide)).trans cm.1, cm.2.1, fun j hj => ⟨(cm.2.2 j hj).1, (cm.2.2 j hj).2.up (Up.wI (by decide))⟩⟩, nb, fun j hj => absurd hj (Nat.not_lt_zero _)⟩
