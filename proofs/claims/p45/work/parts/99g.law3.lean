/-! THE LAW: what all is worth, what is sure (written by wip/p45/g99g.py) -/
/-- findings, and what is new -/
def FZ (h0 hz : HP) : Prop := hZ h0 ≤ hZ hz ∧ ∀ a, a < hZ h0 → (∀ i, (a ≠ 76 → hI hz a i = hI h0 a i) ∧ hL hz a i = hL h0 a i ∧ hR hz a i = hR h0 a i) ∧ hT hz a = hT h0 a ∧ hN hz a = hN h0 a
theorem FZ.gb {h0 hz : HP} (g : Gb h0 hz) : FZ h0 hz := ⟨g.1, fun a ha => ⟨fun i => ⟨fun _ => ((g.2 a ha).1 i).1, ((g.2 a ha).1 i).2⟩, (g.2 a ha).2⟩⟩
theorem FZ.w {h0 hz : HP} (q : FZ h0 hz) {b j : Nat} {v : Int32} (hb : b = 76 ∨ hZ h0 ≤ b) : FZ h0 (wI hz b j v) := ⟨q.1, fun a ha => ⟨fun i => ⟨fun y => (wI_a (by omega)).trans (((q.2 a ha).1 i).1 y), ((q.2 a ha).1 i).2⟩, (q.2 a ha).2⟩⟩
theorem FZ.fn {h0 hz h2 : HP} (q : FZ h0 hz) (k : FN hz h2) : FZ h0 h2 := by
  rcases k with rfl | rfl
  · exact q
  · exact q.w (Or.inl rfl)
theorem FZ.W {h hz : HP} {f n : Nat} {o A : Nat → Nat} {D : Nat → DD} {tS : Nat → Int32} {qS σ : Nat → Nat} (q : FZ h hz) (W : WW h f n o A D tS qS σ) : WW hz f n o A D tS qS σ := by
  have F : Fx h := W.cx.1
  have K : FK h (fun a i => if a = 76 then hI hz a i else hI h a i, h.2) := ⟨⟨Nat.le_refl _, fun a ha _ => ⟨fun i => ⟨if_neg (by omega), rfl, rfl⟩, rfl, rfl⟩⟩, F, fun x _ j z => if_neg z, fun _ _ _ _ => rfl, fun _ _ _ _ => rfl⟩
  have G : Gb (fun a i => if a = 76 then hI hz a i else hI h a i, h.2) hz := ⟨q.1, fun a ha => ⟨fun i => ⟨by
    show hI hz a i = if a = 76 then hI hz a i else hI h a i
    by_cases y : a = 76
    · rw [if_pos y]
    · rw [if_neg y]; exact ((q.2 a ha).1 i).1 y, ((q.2 a ha).1 i).2⟩, (q.2 a ha).2⟩⟩
  exact (W.fk K).gb G
/-- the row of what is sure -/
def ZA (h : HP) (z : Nat) (f n : Nat) (o : Nat → Nat) (D : Nat → DD) (m : Nat) : Prop := 116 ≤ z ∧ Is h z 13 ∧ hN h z = 12 ∧ ∀ j, j < m → hI h z j = oN (sU D n j (fo o f) (om f))
theorem ZA.fn {h h2 : HP} {z f n m : Nat} {o : Nat → Nat} {D : Nat → DD} (q : ZA h z f n o D m) (k : FN h h2) : ZA h2 z f n o D m := by
  rcases k with rfl | rfl
  · exact q
  · exact ⟨q.1, q.2.1, q.2.2.1, fun j hj => (wI_a (by have := q.1; omega)).trans (q.2.2.2 j hj)⟩
theorem ZA.up {h h2 : HP} {z f n m : Nat} {o : Nat → Nat} {D : Nat → DD} (q : ZA h z f n o D m) (u : Up h h2) : ZA h2 z f n o D m := ⟨q.1, q.2.1.up u q.1, (u.2 z q.1 q.2.1.2.1).2.2.trans q.2.2.1, fun j hj => ((u.2 z q.1 q.2.1.2.1).1 j).1.trans (q.2.2.2 j hj)⟩
theorem cnW_z {P : Nat → Bool} {a : Nat} : ∀ m, (∀ c, a ≤ c → c < a + m → P c = false) → cnW P a m = 0 := by
  intro m
  induction m with
  | zero => intro _; rfl
  | succ m ih => intro h; rw [cnW_f (h (a + m) (by omega) (by omega))]; exact ih (fun c h1 h2 => h c h1 (by omega))
theorem cnW_p {P : Nat → Bool} {a s : Nat} (h1 : P s = true) (h2 : a ≤ s) : ∀ m, s < a + m → 0 < cnW P a m := by
  intro m
  induction m with
  | zero => intro h; omega
  | succ m ih =>
    intro h
    rcases e : P (a + m) with _ | _
    · rw [cnW_f e]
      refine ih ?_
      rcases Nat.lt_or_ge s (a + m) with y | y
      · exact y
      · rw [show a + m = s by omega, h1] at e
        cases e
    · rw [cnW_t e]; exact Nat.succ_pos _
theorem frW_cN {D : Nat → DD} {n p c a m : Nat} : frW (fun s => decide (ow D s p n = c)) a m = none ↔ cN D n p c a m = 0 := by
  refine ⟨fun h => cnW_z m (frW_nn h), fun h => ?_⟩
  rcases e : frW (fun s => decide (ow D s p n = c)) a m with _ | s
  · rfl
  · obtain ⟨h1, h2, h3⟩ := frW_some e
    have := cnW_p (P := fun s => decide (ow D s p n = c)) h1 h2 m h3
    have h : cnW (fun s => decide (ow D s p n = c)) a m = 0 := h
    omega
theorem law_value {X : EX} {nm : String} {cells slots f n : Nat} {o A : Nat → Nat} {D : Nat → DD} {tS : Nat → Int32} {qS σ : Nat → Nat} {h : HP} (W : WW h f n o A D tS qS σ) (hc0 : cells + 1 ≤ 400000) (hs0 : slots + 12 ≤ 4000000) (k : ∀ hz z, WW hz f n o A D tS qS σ → FZ h hz → ZA hz z f n o D 0 → hZ h ≤ z → Ev X (mL nm) 40 400000 4000000 QL (cells + 1) (slots + 12) 552 [(0, some (vR (some 6))), (1, some (vR (some 32))), (2, some (vR (some 109))), (3, some (vI (nI n))), (5, some (vL (lN (56 * om f)))), (7, some (vR (some z))), (8, some (vI (nI 0)))] [] hz) : Ev X (mL nm) 40 400000 4000000 QL cells slots 507 [(0, some (vR (some 6))), (1, some (vR (some 32))), (2, some (vR (some 109))), (3, some (vI (nI n)))] [] h := by
  have F := W.cx.1
  have hb := cx_b W.cx
  have hz : 116 ≤ hZ h := F.1
  have h32 : 32 ≤ hZ h := by omega
  have G : Gb h (nw h 13 12) := (Gb.rf h).nw
  refine e_aload_n aL_law_507 rfl ?_
  refine e_iconst (v := 0) aL_law_508 (by decide) ?_
  refine e_invvT aL_law_509 kL_156 (a_value W.cx W.2 (c := 0) (by decide)) rfl rfl (fx_is F rfl) (Nat.le_of_ble_eq_true rfl) (Nat.le_of_ble_eq_true rfl) (by omega) (by omega) (Nat.le_of_ble_eq_true rfl) ?_
  refine e_aload_n aL_law_512 rfl ?_
  refine e_iconst (v := 1) aL_law_513 (by decide) ?_
  refine e_invvT aL_law_514 kL_156 (a_value W.cx W.2 (c := 1) (by decide)) rfl rfl (fx_is F rfl) (Nat.le_of_ble_eq_true rfl) (Nat.le_of_ble_eq_true rfl) (by omega) (by omega) (Nat.le_of_ble_eq_true rfl) ?_
  refine e_ladd aL_law_517 ?_
  refine e_aload_n aL_law_518 rfl ?_
  refine e_iconst (v := 2) aL_law_519 (by decide) ?_
  refine e_invvT aL_law_520 kL_156 (a_value W.cx W.2 (c := 2) (by decide)) rfl rfl (fx_is F rfl) (Nat.le_of_ble_eq_true rfl) (Nat.le_of_ble_eq_true rfl) (by omega) (by omega) (Nat.le_of_ble_eq_true rfl) ?_
  refine e_ladd aL_law_523 ?_
  refine e_topL (v := lN (56 * om f)) (by rw [lN_add, lN_add, v3_sum (cx_o W.cx)]) ?_
  refine e_lstore aL_law_524 (Nat.le_of_ble_eq_true rfl) ?_
  refine e_lload aL_law_526 rfl ?_
  refine e_ldc2 aL_law_528 lL_160 ?_
  refine e_aload_n aL_law_531 rfl ?_
  refine e_invvT aL_law_532 kL_104 (zX9_size X F W.ly) rfl rfl (fx_is F rfl) (Nat.le_of_ble_eq_true rfl) (Nat.le_of_ble_eq_true rfl) (by omega) (by omega) (Nat.le_of_ble_eq_true rfl) ?_
  refine e_i2l aL_law_535 ?_
  refine e_lmul aL_law_536 ?_
  refine e_topL (v := lN (56 * om f)) (by rw [nI_l (by omega)]; exact lN_mul 56 _) ?_
  refine e_lcmp aL_law_537 ?_
  refine e_if_eq aL_law_538 (fun c538 => ?_) (fun c538 => ?_)
  · -- 538: taken
    skip
    refine e_bipush (v := 12) aL_law_543 (by decide) ?_
    refine e_newI (N' := 12) aL_law_545 wa_int (by decide) rfl (by decide) (by omega) (by omega) ?_
    refine e_astore aL_law_547 (Nat.le_of_ble_eq_true rfl) ?_
    refine e_iconst (v := 0) aL_law_549 (by decide) ?_
    refine e_istore aL_law_550 (Nat.le_of_ble_eq_true rfl) ?_
    refine e_ls (ls' := [(0, some (vR (some 6))), (1, some (vR (some 32))), (2, some (vR (some 109))), (3, some (vI (nI n))), (5, some (vL (lN (56 * om f)))), (7, some (vR (some (hZ h)))), (8, some (vI (nI 0)))]) ⟨rfl, rfl, rfl, rfl, rfl, rfl, rfl, trivial⟩ ?_
    exact k _ _ (W.gb G) (FZ.gb G) ⟨hz, is_nsW h32, if_pos rfl, fun j hj => absurd hj (Nat.not_lt_zero j)⟩ (Nat.le_refl _)
  · -- 538: not taken
    exact absurd (lg_0e rfl) c538
theorem law_sure {X : EX} {nm : String} {cells slots f n : Nat} {o A : Nat → Nat} {D : Nat → DD} {tS : Nat → Int32} {qS σ : Nat → Nat} {h : HP} {z : Nat} (W0 : WW h f n o A D tS qS σ) (hz0 : hZ h ≤ z) (hc0 : cells ≤ 400000) (hs0 : slots ≤ 4000000) (k : ∀ hz, WW hz f n o A D tS qS σ → FZ h hz → ZA hz z f n o D 12 → Ev X (mL nm) 40 400000 4000000 QL cells slots 771 [(0, some (vR (some 6))), (1, some (vR (some 32))), (2, some (vR (some 109))), (3, some (vI (nI n))), (5, some (vL (lN (56 * om f)))), (7, some (vR (some z)))] [] hz) (hz : HP) (q : FZ h hz) (za : ZA hz z f n o D 0) : Ev X (mL nm) 40 400000 4000000 QL cells slots 552 [(0, some (vR (some 6))), (1, some (vR (some 32))), (2, some (vR (some 109))), (3, some (vI (nI n))), (5, some (vL (lN (56 * om f)))), (7, some (vR (some z))), (8, some (vI (nI 0)))] [] hz := by
  have hb := cx_b W0.cx
  have wo := cx_o W0.cx
  have hm : 0 < om f := hb.2.2.2
  have hl : ∀ p c, (cN D n p c (fo o f) (om f)) ≤ om f := fun p c => cnW_le (om f)
  have lp : ∀ (mp p : Nat) (hz : HP), p + mp = 12 → FZ h hz → ZA hz z f n o D p → Ev X (mL nm) 40 400000 4000000 QL cells slots 552 [(0, some (vR (some 6))), (1, some (vR (some 32))), (2, some (vR (some 109))), (3, some (vI (nI n))), (5, some (vL (lN (56 * om f)))), (7, some (vR (some z))), (8, some (vI (nI p)))] [] hz := by
    intro mp
    induction mp with
    | zero =>
      intro p hz hk q za
      have F := (q.W W0).cx.1
      obtain rfl : p = 12 := by omega
      refine e_iload aL_law_552 rfl ?_
      refine e_bipush (v := 12) aL_law_554 (by decide) ?_
      refine e_icmp_ge aL_law_556 (fun c556 => ?_) (fun c556 => ?_)
      · -- 556: taken
        refine e_ls (ls' := [(0, some (vR (some 6))), (1, some (vR (some 32))), (2, some (vR (some 109))), (3, some (vI (nI n))), (5, some (vL (lN (56 * om f)))), (7, some (vR (some z)))]) ⟨rfl, rfl, rfl, rfl, rfl, rfl, trivial⟩ ?_
        exact k hz (q.W W0) q za
      · -- 556: not taken
        exact absurd (nI_le (a := 12) (by omega) (by omega)) c556
    | succ mp ih =>
      intro p hz hk q za
      have W := q.W W0
      have F := W.cx.1
      have hp : p < 12 := by omega
      have clu : ∀ (mc c : Nat) (hz : HP), c + mc = 3 → FZ h hz → ZA hz z f n o D (p + 1) → Ev X (mL nm) 40 400000 4000000 QL cells slots 670 [(0, some (vR (some 6))), (1, some (vR (some 32))), (2, some (vR (some 109))), (3, some (vI (nI n))), (5, some (vL (lN (56 * om f)))), (7, some (vR (some z))), (8, some (vI (nI p))), (10, some (vI (nI c)))] [] hz := by
        intro mc
        induction mc with
        | zero =>
          intro c hz hk2 q za
          have F := (q.W W0).cx.1
          refine e_iload aL_law_670 rfl ?_
          refine e_iconst (v := 3) aL_law_672 (by decide) ?_
          refine e_icmp_ge aL_law_673 (fun c673 => ?_) (fun c673 => ?_)
          · -- 673: taken
            refine e_iinc aL_law_765 rfl rfl (Nat.le_of_ble_eq_true rfl) ?_
            refine e_goto aL_law_768 ?_
            refine e_ls (ls' := [(0, some (vR (some 6))), (1, some (vR (some 32))), (2, some (vR (some 109))), (3, some (vI (nI n))), (5, some (vL (lN (56 * om f)))), (7, some (vR (some z))), (8, some (vI (nI (p + 1))))]) ⟨rfl, rfl, rfl, rfl, rfl, rfl, congrArg (fun x => some (vI x)) (nI_1 p), trivial⟩ ?_
            exact ih (p + 1) hz (by omega) q za
          · -- 673: not taken
            exact absurd (nI_le (a := 3) (by omega) (by omega)) c673
        | succ mc clu =>
          intro c hz hk2 q za
          have W := q.W W0
          have F := W.cx.1
          have hc : c < 3 := by omega
          have hl := hl p c
          refine e_iload aL_law_670 rfl ?_
          refine e_iconst (v := 3) aL_law_672 (by decide) ?_
          refine e_icmp_ge aL_law_673 (fun c673 => ?_) (fun c673 => ?_)
          · -- 673: taken
            exact absurd c673 (nI_ge (b := 3) (by omega) (by omega))
          · -- 673: not taken
            refine e_aload_n aL_law_676 rfl ?_
            refine e_iload aL_law_677 rfl ?_
            refine e_iload aL_law_679 rfl ?_
            refine e_invv aL_law_681 kL_176 (a_least W.cx W.2 hp hc) rfl rfl (fx_is F rfl) (Nat.le_of_ble_eq_true rfl) (Nat.le_of_ble_eq_true rfl) (by omega) (by omega) (Nat.le_of_ble_eq_true rfl) ?_
            rintro v2 h2 ⟨rfl, fn⟩
            have q2 := q.fn fn
            have za2 := za.fn fn
            have W2 := q2.W W0
            have F := W2.cx.1
            refine e_istore aL_law_684 (Nat.le_of_ble_eq_true rfl) ?_
            refine e_iload aL_law_686 rfl ?_
            refine e_if_ge aL_law_688 (fun c688 => ?_) (fun c688 => ?_)
            · -- 688: taken
              obtain ⟨s, e9⟩ : ∃ s, (frW (fun s => decide (ow D s p n = c)) (fo o f) (om f)) = some s := by
                rcases e9 : (frW (fun s => decide (ow D s p n = c)) (fo o f) (om f)) with _ | s
                · rw [e9] at c688
                  exact absurd c688 (by decide)
                · exact ⟨s, rfl⟩
              obtain ⟨g1, g2, g3⟩ := frW_some e9
              have g1 := of_decide_eq_true g1
              have g4 : ¬ (cN D n p c (fo o f) (om f)) = 0 := fun z => by rw [frW_cN.mpr z] at e9; cases e9
              rw [e9]
              refine e_iconst (v := 0) aL_law_695 (by decide) ?_
              refine e_aload_n aL_law_696 rfl ?_
              refine e_iload aL_law_697 rfl ?_
              refine e_iload aL_law_699 rfl ?_
              refine e_invvT aL_law_701 kL_162 (a_chance W2.cx W2.2 hp hc) rfl rfl (fx_is F rfl) (Nat.le_of_ble_eq_true rfl) (Nat.le_of_ble_eq_true rfl) (by omega) (by omega) (Nat.le_of_ble_eq_true rfl) ?_
              refine e_if_ne aL_law_704 (fun c704 => ?_) (fun c704 => ?_)
              · -- 704: taken
                skip
                refine e_iconst (v := 0) aL_law_711 (by decide) ?_
                refine e_icmp_ne aL_law_712 (fun c712 => ?_) (fun c712 => ?_)
                · -- 712: taken
                  exact absurd rfl c712
                · -- 712: not taken
                  skip
                  refine e_iload aL_law_715 rfl ?_
                  refine e_if_lt aL_law_717 (fun c717 => ?_) (fun c717 => ?_)
                  · -- 717: taken
                    exact absurd c717 (nI_pos (by omega))
                  · -- 717: not taken
                    skip
                    refine e_aload_n aL_law_720 rfl ?_
                    refine e_iload aL_law_721 rfl ?_
                    refine e_top (v := nI s) rfl ?_
                    refine e_iload aL_law_723 rfl ?_
                    refine e_invvT aL_law_725 kL_150 (a_owner W2.cx W2.2 g2 g3 hp) rfl rfl (fx_is F rfl) (Nat.le_of_ble_eq_true rfl) (Nat.le_of_ble_eq_true rfl) (by omega) (by omega) (Nat.le_of_ble_eq_true rfl) ?_
                    refine e_iload aL_law_728 rfl ?_
                    refine e_icmp_ne aL_law_730 (fun c730 => ?_) (fun c730 => ?_)
                    · -- 730: taken
                      exact absurd (congrArg nI g1) c730
                    · -- 730: not taken
                      skip
                      refine e_aload_n aL_law_733 rfl ?_
                      refine e_iload aL_law_734 rfl ?_
                      refine e_invvT aL_law_736 kL_168 (a_owners W2.cx W2.2 hp) rfl rfl (fx_is F rfl) (Nat.le_of_ble_eq_true rfl) (Nat.le_of_ble_eq_true rfl) (by omega) (by omega) (Nat.le_of_ble_eq_true rfl) ?_
                      refine e_iload aL_law_739 rfl ?_
                      refine e_ishr aL_law_741 ?_
                      refine e_iconst (v := 1) aL_law_742 (by decide) ?_
                      refine e_iand aL_law_743 ?_
                      refine e_top (v := 1) ((hB_sh _ _ _ c hc).trans (by rw [oB_if hc]; exact if_pos (decide_eq_true (by omega)))) ?_
                      refine e_iload aL_law_744 rfl ?_
                      refine e_if_ge aL_law_746 (fun c746 => ?_) (fun c746 => ?_)
                      · -- 746: taken
                        skip
                        refine e_iconst (v := 1) aL_law_753 (by decide) ?_
                        refine e_icmp_eq aL_law_754 (fun c754 => ?_) (fun c754 => ?_)
                        · -- 754: taken
                          skip
                          refine e_iinc aL_law_759 rfl rfl (Nat.le_of_ble_eq_true rfl) ?_
                          refine e_goto aL_law_762 ?_
                          refine e_ls (ls' := [(0, some (vR (some 6))), (1, some (vR (some 32))), (2, some (vR (some 109))), (3, some (vI (nI n))), (5, some (vL (lN (56 * om f)))), (7, some (vR (some z))), (8, some (vI (nI p))), (10, some (vI (nI (c + 1))))]) ⟨rfl, rfl, rfl, rfl, rfl, rfl, rfl, congrArg (fun x => some (vI x)) (nI_1 c), trivial⟩ ?_
                          exact clu (c + 1) h2 (by omega) q2 za2
                        · -- 754: not taken
                          exact absurd rfl c754
                      · -- 746: not taken
                        exact absurd (nI_pos' (by omega)) c746
              · -- 704: not taken
                exact absurd ((nI_eq (b := 0) (by omega) (by decide)).mp c704) g4
            · -- 688: not taken
              have e9 : (frW (fun s => decide (ow D s p n = c)) (fo o f) (om f)) = none := by
                rcases e9 : (frW (fun s => decide (ow D s p n = c)) (fo o f) (om f)) with _ | s
                · rfl
                · rw [e9] at c688
                  have := (frW_some e9).2.2
                  exact absurd (nI_pos' (by omega)) c688
              have g4 : (cN D n p c (fo o f) (om f)) = 0 := frW_cN.mp e9
              rw [e9]
              refine e_iconst (v := 1) aL_law_691 (by decide) ?_
              refine e_goto aL_law_692 ?_
              refine e_aload_n aL_law_696 rfl ?_
              refine e_iload aL_law_697 rfl ?_
              refine e_iload aL_law_699 rfl ?_
              refine e_invvT aL_law_701 kL_162 (a_chance W2.cx W2.2 hp hc) rfl rfl (fx_is F rfl) (Nat.le_of_ble_eq_true rfl) (Nat.le_of_ble_eq_true rfl) (by omega) (by omega) (Nat.le_of_ble_eq_true rfl) ?_
              refine e_if_ne aL_law_704 (fun c704 => ?_) (fun c704 => ?_)
              · -- 704: taken
                exact absurd (congrArg nI g4) c704
              · -- 704: not taken
                skip
                refine e_iconst (v := 1) aL_law_707 (by decide) ?_
                refine e_goto aL_law_708 ?_
                refine e_icmp_ne aL_law_712 (fun c712 => ?_) (fun c712 => ?_)
                · -- 712: taken
                  exact absurd rfl c712
                · -- 712: not taken
                  skip
                  refine e_iload aL_law_715 rfl ?_
                  refine e_if_lt aL_law_717 (fun c717 => ?_) (fun c717 => ?_)
                  · -- 717: taken
                    skip
                    refine e_aload_n aL_law_733 rfl ?_
                    refine e_iload aL_law_734 rfl ?_
                    refine e_invvT aL_law_736 kL_168 (a_owners W2.cx W2.2 hp) rfl rfl (fx_is F rfl) (Nat.le_of_ble_eq_true rfl) (Nat.le_of_ble_eq_true rfl) (by omega) (by omega) (Nat.le_of_ble_eq_true rfl) ?_
                    refine e_iload aL_law_739 rfl ?_
                    refine e_ishr aL_law_741 ?_
                    refine e_iconst (v := 1) aL_law_742 (by decide) ?_
                    refine e_iand aL_law_743 ?_
                    refine e_top (v := 0) ((hB_sh _ _ _ c hc).trans (by rw [oB_if hc]; exact if_neg (fun y => by have := of_decide_eq_true y; omega))) ?_
                    refine e_iload aL_law_744 rfl ?_
                    refine e_if_ge aL_law_746 (fun c746 => ?_) (fun c746 => ?_)
                    · -- 746: taken
                      exact absurd c746 (by decide)
                    · -- 746: not taken
                      skip
                      refine e_iconst (v := 0) aL_law_749 (by decide) ?_
                      refine e_goto aL_law_750 ?_
                      refine e_icmp_eq aL_law_754 (fun c754 => ?_) (fun c754 => ?_)
                      · -- 754: taken
                        skip
                        refine e_iinc aL_law_759 rfl rfl (Nat.le_of_ble_eq_true rfl) ?_
                        refine e_goto aL_law_762 ?_
                        refine e_ls (ls' := [(0, some (vR (some 6))), (1, some (vR (some 32))), (2, some (vR (some 109))), (3, some (vI (nI n))), (5, some (vL (lN (56 * om f)))), (7, some (vR (some z))), (8, some (vI (nI p))), (10, some (vI (nI (c + 1))))]) ⟨rfl, rfl, rfl, rfl, rfl, rfl, rfl, congrArg (fun x => some (vI x)) (nI_1 c), trivial⟩ ?_
                        exact clu (c + 1) h2 (by omega) q2 za2
                      · -- 754: not taken
                        exact absurd rfl c754
                  · -- 717: not taken
                    exact absurd (by decide) c717
      have rest : ∀ (hz : HP), FZ h hz → ZA hz z f n o D (p + 1) → Ev X (mL nm) 40 400000 4000000 QL cells slots 595 [(0, some (vR (some 6))), (1, some (vR (some 32))), (2, some (vR (some 109))), (3, some (vI (nI n))), (5, some (vL (lN (56 * om f)))), (7, some (vR (some z))), (8, some (vI (nI p))), (9, some (vI (nI (om f))))] [] hz := by
        intro hz q za
        have W := q.W W0
        have F := W.cx.1
        refine e_iload aL_law_595 rfl ?_
        refine e_aload_n aL_law_597 rfl ?_
        refine e_invvT aL_law_598 kL_104 (zX9_size X F W.ly) rfl rfl (fx_is F rfl) (Nat.le_of_ble_eq_true rfl) (Nat.le_of_ble_eq_true rfl) (by omega) (by omega) (Nat.le_of_ble_eq_true rfl) ?_
        refine e_icmp_ne aL_law_601 (fun c601 => ?_) (fun c601 => ?_)
        · -- 601: taken
          exact absurd rfl c601
        · -- 601: not taken
          skip
          refine e_aload aL_law_604 rfl ?_
          refine e_iload aL_law_606 rfl ?_
          refine e_ialoadF aL_law_608 za.2.1 za.2.2.1 (vin (N := 12) (by omega)) (show hI hz z (nI p).toNatClampNeg = oN (sU D n p (fo o f) (om f)) by rw [cl (by omega)]; exact za.2.2.2 p (by omega)) ?_
          refine e_if_lt aL_law_609 (fun c609 => ?_) (fun c609 => ?_)
          · -- 609: taken
            have e9 : (sU D n p (fo o f) (om f)) = none := by
              rcases e9 : (sU D n p (fo o f) (om f)) with _ | k
              · rfl
              · rw [e9] at c609
                exact absurd c609 (nI_pos (by have := (sU_s wo e9).1; omega))
            have eK : hI hz z (nI p).toNatClampNeg = -1000004 := by rw [cl (by omega), za.2.2.2 p (by omega), e9]; rfl
            refine e_aload aL_law_644 rfl ?_
            refine e_iload aL_law_646 rfl ?_
            refine e_ialoadF aL_law_648 za.2.1 za.2.2.1 (vin (N := 12) (by omega)) eK ?_
            refine e_if_ge aL_law_649 (fun c649 => ?_) (fun c649 => ?_)
            · -- 649: taken
              exact absurd c649 (by decide)
            · -- 649: not taken
              skip
              refine e_aload_n aL_law_652 rfl ?_
              refine e_iload aL_law_653 rfl ?_
              refine e_invvT aL_law_655 kL_168 (a_owners W.cx W.2 hp) rfl rfl (fx_is F rfl) (Nat.le_of_ble_eq_true rfl) (Nat.le_of_ble_eq_true rfl) (by omega) (by omega) (Nat.le_of_ble_eq_true rfl) ?_
              refine e_invsT aL_law_658 kL_171 (zJ6_bitCount_0f7a4 X _) rfl rfl (Nat.le_of_ble_eq_true rfl) (Nat.le_of_ble_eq_true rfl) (by omega) (by omega) (Nat.le_of_ble_eq_true rfl) ?_
              refine e_iconst (v := 2) aL_law_661 (by decide) ?_
              refine e_icmp_ge aL_law_662 (fun c662 => ?_) (fun c662 => ?_)
              · -- 662: taken
                skip
                refine e_iconst (v := 0) aL_law_667 (by decide) ?_
                refine e_istore aL_law_668 (Nat.le_of_ble_eq_true rfl) ?_
                refine e_ls (ls' := [(0, some (vR (some 6))), (1, some (vR (some 32))), (2, some (vR (some 109))), (3, some (vI (nI n))), (5, some (vL (lN (56 * om f)))), (7, some (vR (some z))), (8, some (vI (nI p))), (10, some (vI (nI 0)))]) ⟨rfl, rfl, rfl, rfl, rfl, rfl, rfl, rfl, trivial⟩ ?_
                exact clu 3 0 hz rfl q za
              · -- 662: not taken
                exact absurd (sU_n wo hm e9) c662
          · -- 609: not taken
            obtain ⟨k, e9⟩ : ∃ k, (sU D n p (fo o f) (om f)) = some k := by
              rcases e9 : (sU D n p (fo o f) (om f)) with _ | k
              · rw [e9] at c609
                exact absurd (by decide) c609
              · exact ⟨k, rfl⟩
            obtain ⟨k1, k2, k3⟩ := sU_s wo e9
            have eK : hI hz z (nI p).toNatClampNeg = nI k := by rw [cl (by omega), za.2.2.2 p (by omega), e9]; rfl
            refine e_aload_n aL_law_612 rfl ?_
            refine e_iload aL_law_613 rfl ?_
            refine e_aload aL_law_615 rfl ?_
            refine e_iload aL_law_617 rfl ?_
            refine e_ialoadF aL_law_619 za.2.1 za.2.2.1 (vin (N := 12) (by omega)) eK ?_
            refine e_invvT aL_law_620 kL_162 (a_chance W.cx W.2 (c := k) hp k1) rfl rfl (fx_is F rfl) (Nat.le_of_ble_eq_true rfl) (Nat.le_of_ble_eq_true rfl) (by omega) (by omega) (Nat.le_of_ble_eq_true rfl) ?_
            refine e_iload aL_law_623 rfl ?_
            refine e_icmp_ne aL_law_625 (fun c625 => ?_) (fun c625 => ?_)
            · -- 625: taken
              exact absurd (congrArg nI k3) c625
            · -- 625: not taken
              skip
              refine e_aload_n aL_law_628 rfl ?_
              refine e_iload aL_law_629 rfl ?_
              refine e_invvT aL_law_631 kL_168 (a_owners W.cx W.2 hp) rfl rfl (fx_is F rfl) (Nat.le_of_ble_eq_true rfl) (Nat.le_of_ble_eq_true rfl) (by omega) (by omega) (Nat.le_of_ble_eq_true rfl) ?_
              refine e_iconst (v := 1) aL_law_634 (by decide) ?_
              refine e_aload aL_law_635 rfl ?_
              refine e_iload aL_law_637 rfl ?_
              refine e_ialoadF aL_law_639 za.2.1 za.2.2.1 (vin (N := 12) (by omega)) eK ?_
              refine e_ishl aL_law_640 ?_
              refine e_icmp_ne aL_law_641 (fun c641 => ?_) (fun c641 => ?_)
              · -- 641: taken
                exact absurd k2 c641
              · -- 641: not taken
                skip
                refine e_aload aL_law_644 rfl ?_
                refine e_iload aL_law_646 rfl ?_
                refine e_ialoadF aL_law_648 za.2.1 za.2.2.1 (vin (N := 12) (by omega)) eK ?_
                refine e_if_ge aL_law_649 (fun c649 => ?_) (fun c649 => ?_)
                · -- 649: taken
                  skip
                  refine e_iconst (v := 0) aL_law_667 (by decide) ?_
                  refine e_istore aL_law_668 (Nat.le_of_ble_eq_true rfl) ?_
                  refine e_ls (ls' := [(0, some (vR (some 6))), (1, some (vR (some 32))), (2, some (vR (some 109))), (3, some (vI (nI n))), (5, some (vL (lN (56 * om f)))), (7, some (vR (some z))), (8, some (vI (nI p))), (10, some (vI (nI 0)))]) ⟨rfl, rfl, rfl, rfl, rfl, rfl, rfl, rfl, trivial⟩ ?_
                  exact clu 3 0 hz rfl q za
                · -- 649: not taken
                  exact absurd (nI_pos' (by omega)) c649
      refine e_iload aL_law_552 rfl ?_
      refine e_bipush (v := 12) aL_law_554 (by decide) ?_
      refine e_icmp_ge aL_law_556 (fun c556 => ?_) (fun c556 => ?_)
      · -- 556: taken
        exact absurd c556 (nI_ge (b := 12) (by omega) (by omega))
      · -- 556: not taken
        refine e_aload_n aL_law_559 rfl ?_
        refine e_iload aL_law_560 rfl ?_
        refine e_iconst (v := 0) aL_law_562 (by decide) ?_
        refine e_invvT aL_law_563 kL_162 (a_chance W.cx W.2 (c := 0) hp (by decide)) rfl rfl (fx_is F rfl) (Nat.le_of_ble_eq_true rfl) (Nat.le_of_ble_eq_true rfl) (by omega) (by omega) (Nat.le_of_ble_eq_true rfl) ?_
        refine e_aload_n aL_law_566 rfl ?_
        refine e_iload aL_law_567 rfl ?_
        refine e_iconst (v := 1) aL_law_569 (by decide) ?_
        refine e_invvT aL_law_570 kL_162 (a_chance W.cx W.2 (c := 1) hp (by decide)) rfl rfl (fx_is F rfl) (Nat.le_of_ble_eq_true rfl) (Nat.le_of_ble_eq_true rfl) (by omega) (by omega) (Nat.le_of_ble_eq_true rfl) ?_
        refine e_iadd aL_law_573 ?_
        refine e_aload_n aL_law_574 rfl ?_
        refine e_iload aL_law_575 rfl ?_
        refine e_iconst (v := 2) aL_law_577 (by decide) ?_
        refine e_invvT aL_law_578 kL_162 (a_chance W.cx W.2 (c := 2) hp (by decide)) rfl rfl (fx_is F rfl) (Nat.le_of_ble_eq_true rfl) (Nat.le_of_ble_eq_true rfl) (by omega) (by omega) (Nat.le_of_ble_eq_true rfl) ?_
        refine e_iadd aL_law_581 ?_
        refine e_top (v := nI (om f)) (by rw [nI_add, nI_add, cN_sum (cx_o W.cx)]) ?_
        refine e_istore aL_law_582 (Nat.le_of_ble_eq_true rfl) ?_
        refine e_aload aL_law_584 rfl ?_
        refine e_iload aL_law_586 rfl ?_
        refine e_aload_n aL_law_588 rfl ?_
        refine e_iload aL_law_589 rfl ?_
        refine e_invv aL_law_591 kL_165 (a_sure W.cx W.2 hp) rfl rfl (fx_is F rfl) (Nat.le_of_ble_eq_true rfl) (Nat.le_of_ble_eq_true rfl) (by omega) (by omega) (Nat.le_of_ble_eq_true rfl) ?_
        rintro v2 h2 ⟨rfl, fn⟩
        have q2 := q.fn fn
        have za2 := za.fn fn
        have F := (q2.W W0).cx.1
        refine e_iastoreF aL_law_594 za2.2.1 za2.2.2.1 (vin (N := 12) (by omega)) ?_
        rw [cl (n := p) (by omega)]
        refine e_ls (ls' := [(0, some (vR (some 6))), (1, some (vR (some 32))), (2, some (vR (some 109))), (3, some (vI (nI n))), (5, some (vL (lN (56 * om f)))), (7, some (vR (some z))), (8, some (vI (nI p))), (9, some (vI (nI (om f))))]) ⟨rfl, rfl, rfl, rfl, rfl, rfl, rfl, rfl, trivial⟩ ?_
        refine rest _ (q2.w (Or.inr hz0)) ⟨za2.1, za2.2.1, za2.2.2.1, fun j hj => ?_⟩
        by_cases y : j = p
        · rw [y]; exact wI_s
        · exact (wI_i y).trans (za2.2.2.2 j (by omega))
  exact lp 12 0 hz rfl q za
