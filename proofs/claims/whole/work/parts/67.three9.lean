/-! the reference: three numbers; codes of conditions (written by wip/whole/g67.py) -/
theorem TkI_mF {bt : Nat → Int32} {l : Nat} {q : Bool} {u : SM} (tk : TkI bt l u.2) : TkI bt l (mF bt l q u).2 := by
  unfold mF
  split
  · exact tk
  · split
    · exact TkI_n tk.1.2
    · exact tk
theorem mF_a {bt : Nat → Int32} {l : Nat} {p : PT} : mF bt l true (false, p) = (false, nxT bt l p) := rfl
theorem mF_b {bt : Nat → Int32} {l : Nat} {p : PT} : mF bt l false (false, p) = (true, p) := rfl
theorem nmF_t {bt : Nat → Int32} {l : Nat} {lo hi9 : Int32} {u : SM} (h : u.1 = true) : nmF bt l lo hi9 u = u := mF_t h
theorem tnV_n {bt : Nat → Int32} {l : Nat} {p : PT} {lo hi9 w : Int32} (h0 : 0 ≤ lo) : (tnB bt l p lo hi9 w = true ∧ tnV bt l p lo hi9 w = -1 ∧ tnX bt l p lo hi9 w = p) ∨ (tnB bt l p lo hi9 w = false ∧ tnV bt l p lo hi9 w = tkN bt l p.1 p.2 ∧ ¬ tkN bt l p.1 p.2 < 0 ∧ tnX bt l p lo hi9 w = nxT bt l p) := by
  unfold tnV tnX
  by_cases z : tnB bt l p lo hi9 w = true
  · exact Or.inl ⟨z, if_pos z, if_pos z⟩
  · refine Or.inr ⟨Bool.eq_false_iff.mpr z, if_neg z, fun q => z (decide_eq_true (Or.inl (Int32.lt_of_lt_of_le q h0))), if_neg z⟩
theorem nm_f {bt : Nat → Int32} {l : Nat} {p : PT} {lo hi9 : Int32} (h0 : 0 ≤ lo) : nmF bt l lo hi9 (false, p) = (decide (tnV bt l p lo hi9 (-1) < 0), tnX bt l p lo hi9 (-1)) ∧ (¬ tnV bt l p lo hi9 (-1) < 0 → nmV bt l lo hi9 (false, p) = tnV bt l p lo hi9 (-1)) := by
  unfold nmV nmF
  rcases tnV_n (bt := bt) (l := l) (p := p) (hi9 := hi9) (w := -1) h0 with ⟨z1, z2, z3⟩ | ⟨z1, z2, z3, z4⟩
  · show mF bt l (!tnB bt l p lo hi9 (-1)) (false, p) = _ ∧ _
    rw [z1, z2, z3]
    exact ⟨rfl, fun w => absurd (by decide) w⟩
  · show mF bt l (!tnB bt l p lo hi9 (-1)) (false, p) = _ ∧ (_ → (if (mF bt l (!tnB bt l p lo hi9 (-1)) (false, p)).1 = true then 0 else tkN bt l p.1 p.2) = _)
    rw [z1, z2, z4, decide_eq_false z3]
    exact ⟨rfl, fun _ => rfl⟩
theorem three_e {bt : Nat → Int32} {l : Nat} {p : PT} (tk : TkI bt l p) (ac : Bool) : mF bt l (decide (0 ≤ nhV bt l (nmF bt l 0 2 (nmF bt l 0 3 (false, p))) ∧ nhV bt l (nmF bt l 0 2 (nmF bt l 0 3 (false, p))) ≤ 2) && !(ac && decide (nmV bt l 0 2 (nmF bt l 0 3 (false, p)) = nhV bt l (nmF bt l 0 2 (nmF bt l 0 3 (false, p)))))) (nmF bt l 0 2 (nmF bt l 0 3 (false, p))) = (decide (ahL bt l p ac < 0), ahP3 bt l p ac) ∧ (¬ ahL bt l p ac < 0 → nmV bt l 0 3 (false, p) = ahY bt l p ∧ nmV bt l 0 2 (nmF bt l 0 3 (false, p)) = ahC bt l p ∧ nhV bt l (nmF bt l 0 2 (nmF bt l 0 3 (false, p))) = ahL bt l p ac) := by
  obtain ⟨e1, v1⟩ := nm_f (bt := bt) (l := l) (p := p) (lo := 0) (hi9 := 3) (by decide)
  by_cases z1 : ahY bt l p < 0
  · have hC : ahC bt l p = -1 := if_pos z1
    have hL : ahL bt l p ac = -1 := if_pos (by rw [hC]; decide)
    have hP2 : ahP2 bt l p = ahP1 bt l p := if_pos z1
    have hP3 : ahP3 bt l p ac = ahP2 bt l p := if_pos (by rw [hC]; decide)
    have eu : nmF bt l 0 3 (false, p) = (true, ahP1 bt l p) := by rw [e1]; exact congrArg (fun b => (b, ahP1 bt l p)) (decide_eq_true z1)
    rw [eu, nmF_t rfl, mF_t rfl, hL, hP3, hP2]
    exact ⟨rfl, fun w => absurd (by decide) w⟩
  · have eu : nmF bt l 0 3 (false, p) = (false, ahP1 bt l p) := by rw [e1]; exact congrArg (fun b => (b, ahP1 bt l p)) (decide_eq_false z1)
    rw [eu]
    obtain ⟨e2, v2⟩ := nm_f (bt := bt) (l := l) (p := ahP1 bt l p) (lo := 0) (hi9 := 2) (by decide)
    have hCe : ahC bt l p = tnV bt l (ahP1 bt l p) 0 2 (-1) := if_neg z1
    have hP2 : ahP2 bt l p = tnX bt l (ahP1 bt l p) 0 2 (-1) := if_neg z1
    rw [← hCe] at v2 e2
    rw [← hP2] at e2
    by_cases z2 : ahC bt l p < 0
    · have hL : ahL bt l p ac = -1 := if_pos z2
      have hP3 : ahP3 bt l p ac = ahP2 bt l p := if_pos z2
      have eu2 : nmF bt l 0 2 (false, ahP1 bt l p) = (true, ahP2 bt l p) := by rw [e2, decide_eq_true z2]
      rw [eu2, mF_t rfl, hL, hP3]
      exact ⟨rfl, fun w => absurd (by decide) w⟩
    · have eu2 : nmF bt l 0 2 (false, ahP1 bt l p) = (false, ahP2 bt l p) := by rw [e2, decide_eq_false z2]
      rw [eu2, v2 z2]
      have hLe : ahL bt l p ac = tnV bt l (ahP2 bt l p) 0 2 (if ac = true then ahC bt l p else -1) := if_neg z2
      have hP3 : ahP3 bt l p ac = tnX bt l (ahP2 bt l p) 0 2 (if ac = true then ahC bt l p else -1) := if_neg z2
      have tk2 : TkI bt l (ahP2 bt l p) := by
        have h1 : TkI bt l (ahP1 bt l p) := by
          rcases tnV_n (bt := bt) (l := l) (p := p) (lo := 0) (hi9 := 3) (w := -1) (by decide) with w | w
          · rw [show ahP1 bt l p = p from w.2.2]; exact tk
          · rw [show ahP1 bt l p = nxT bt l p from w.2.2.2]; exact TkI_n tk.1.2
        rw [hP2]
        rcases tnV_n (bt := bt) (l := l) (p := ahP1 bt l p) (lo := 0) (hi9 := 2) (w := -1) (by decide) with w | w
        · rw [w.2.2]; exact h1
        · rw [w.2.2.2]; exact TkI_n h1.1.2
      have hn : nhV bt l (false, ahP2 bt l p) = if tkN bt l (ahP2 bt l p).1 (ahP2 bt l p).2 < 0 then 100 else tkN bt l (ahP2 bt l p).1 (ahP2 bt l p).2 := rfl
      have key : (decide (0 ≤ nhV bt l (false, ahP2 bt l p) ∧ nhV bt l (false, ahP2 bt l p) ≤ 2) && !(ac && decide (ahC bt l p = nhV bt l (false, ahP2 bt l p)))) = !tnB bt l (ahP2 bt l p) 0 2 (if ac = true then ahC bt l p else -1) := by
        rw [hn]
        unfold tnB
        rcases tkN_i tk2 with w | w
        · rw [w, if_pos (by decide), decide_eq_true (Or.inl (by decide))]
          rfl
        · rw [if_neg (Int32.not_lt.mpr w)]
          generalize tkN bt l (ahP2 bt l p).1 (ahP2 bt l p).2 = x at w
          have w1 : ¬ x < 0 := Int32.not_lt.mpr w
          cases ac
          · rw [if_neg Bool.false_ne_true, Bool.false_and, Bool.not_false, Bool.and_true]
            have e9 : (0 ≤ x ∧ x ≤ 2) ↔ ¬ (x < 0 ∨ 2 < x ∨ x = -1) := ⟨fun q r => r.elim w1 (fun r => r.elim (fun r => absurd q.2 (Int32.not_le.mpr r)) (fun r => absurd w (by rw [r]; decide))), fun q => ⟨w, Int32.not_lt.mp (fun r => q (Or.inr (Or.inl r)))⟩⟩
            rw [decide_eq_decide.mpr e9, decide_not]
          · rw [if_pos rfl, Bool.true_and]
            by_cases q1 : ahC bt l p = x
            · rw [decide_eq_true q1, Bool.not_true, Bool.and_false, decide_eq_true (Or.inr (Or.inr q1.symm))]
              rfl
            · rw [decide_eq_false q1, Bool.not_false, Bool.and_true]
              have e9 : (0 ≤ x ∧ x ≤ 2) ↔ ¬ (x < 0 ∨ 2 < x ∨ x = ahC bt l p) := ⟨fun q r => r.elim w1 (fun r => r.elim (fun r => absurd q.2 (Int32.not_le.mpr r)) (fun r => q1 r.symm)), fun q => ⟨w, Int32.not_lt.mp (fun r => q (Or.inr (Or.inl r)))⟩⟩
              rw [decide_eq_decide.mpr e9, decide_not]
      rw [key, hLe, hP3]
      rcases tnV_n (bt := bt) (l := l) (p := ahP2 bt l p) (lo := 0) (hi9 := 2) (w := if ac = true then ahC bt l p else -1) (by decide) with ⟨w1, w2, w3⟩ | ⟨w1, w2, w3, w4⟩
      · rw [w1, w2, w3]
        exact ⟨rfl, fun w => absurd (by decide) w⟩
      · rw [w1, w2, w4, decide_eq_false w3]
        exact ⟨rfl, fun _ => ⟨v1 z1, rfl, by rw [hn, if_neg w3]⟩⟩
theorem ah_b {bt : Nat → Int32} {l : Nat} {p : PT} {w : Bool} (h : ¬ ahL bt l p w < 0) : ∃ yz cz lz, yz ≤ 3 ∧ cz ≤ 2 ∧ lz ≤ 2 ∧ ahY bt l p = nI yz ∧ ahC bt l p = nI cz ∧ ahL bt l p w = nI lz := by
  have n1 : ¬ ahC bt l p < 0 := fun z => h (by unfold ahL; rw [if_pos z]; decide)
  have n2 : ¬ ahY bt l p < 0 := fun z => n1 (by unfold ahC; rw [if_pos z]; decide)
  obtain ⟨yz, hy3, ey⟩ := tn_of (bt := bt) (l := l) (p := p) (w := -1) 3 (by decide) n2
  obtain ⟨cz, hc2, ec⟩ : ∃ j, j ≤ 2 ∧ ahC bt l p = nI j := by
    have e : ahC bt l p = tnV bt l (ahP1 bt l p) 0 2 (-1) := if_neg n2
    rw [e] at n1 ⊢
    exact tn_of 2 (by decide) n1
  obtain ⟨lz, hl2, el⟩ : ∃ j, j ≤ 2 ∧ ahL bt l p w = nI j := by
    have e : ahL bt l p w = tnV bt l (ahP2 bt l p) 0 2 (if w = true then ahC bt l p else -1) := if_neg n1
    rw [e] at h ⊢
    exact tn_of 2 (by decide) h
  exact ⟨yz, cz, lz, hy3, hc2, hl2, ey, ec, el⟩
theorem TkI_ah {bt : Nat → Int32} {l : Nat} {p : PT} (tk : TkI bt l p) (ac : Bool) : TkI bt l (ahP3 bt l p ac) := by
  have e := congrArg (fun u => u.2) (three_e tk ac).1
  have e : _ = ahP3 bt l p ac := e
  rw [← e]
  exact TkI_mF (TkI_mF (TkI_mF tk))
theorem zX9_three (X : EX) {h0 : HP} (F0 : Fx h0) {l : Nat} {bt : Nat → Int32} (t0 : TbM h0 l bt) {p : PT} (ps0 : PsM h0 (false, p)) (tk : TkI bt l p) {j : Nat} (hc : hI h0 109 23 = nI j) (hj : j < 130) (B9 : Nat) (ac : Bool) : Ct X mX9_three 5 0 0 [vR (some 109), vI (nI B9), vI (b2 (ac = true))] h0 (fun v h' => v = none ∧ ∃ h2, Sf scP h0 h2 ∧ PsM h2 (decide (ahL bt l p ac < 0), ahP3 bt l p ac) ∧ h' = (if ahL bt l p ac < 0 then h2 else wI (wI h2 119 j (nI (B9 + 9 * (ahY bt l p).toNatClampNeg + 3 * (ahC bt l p).toNatClampNeg + (ahL bt l p ac).toNatClampNeg))) 109 23 (nI (j + 1)))) := by
  refine ct_of rfl (Nat.le_of_ble_eq_true rfl) ?_
  have F := F0
  have t := t0
  have ps := ps0
  have tail : ∀ (h3 : HP), Fx h3 → TbM h3 l bt → Sf scP h0 h3 → PsM h3 (nmF bt l 0 2 (nmF bt l 0 3 (false, p))) → Ev X mX9_three 5 0 0 (fun v h' => v = none ∧ ∃ h2, Sf scP h0 h2 ∧ PsM h2 (decide (ahL bt l p ac < 0), ahP3 bt l p ac) ∧ h' = (if ahL bt l p ac < 0 then h2 else wI (wI h2 119 j (nI (B9 + 9 * (ahY bt l p).toNatClampNeg + 3 * (ahC bt l p).toNatClampNeg + (ahL bt l p ac).toNatClampNeg))) 109 23 (nI (j + 1)))) 0 0 51 [(0, some (vR (some 109))), (1, some (vI (nI B9))), (3, some (vI (nmV bt l 0 3 (false, p)))), (4, some (vI (nmV bt l 0 2 (nmF bt l 0 3 (false, p))))), (5, some (vI (nhV bt l (nmF bt l 0 2 (nmF bt l 0 3 (false, p))))))] [vI (b2 ((decide (0 ≤ nhV bt l (nmF bt l 0 2 (nmF bt l 0 3 (false, p))) ∧ nhV bt l (nmF bt l 0 2 (nmF bt l 0 3 (false, p))) ≤ 2) && !(ac && decide (nmV bt l 0 2 (nmF bt l 0 3 (false, p)) = nhV bt l (nmF bt l 0 2 (nmF bt l 0 3 (false, p)))))) = true)), vR (some 109)] h3 := by
    intro h3 F t S2 ps2
    skip
    refine e_invv aX9_three_51 kX9_287 (zX9_must X F t ps2 (TkI_mF (TkI_mF tk)).1.2 (decide (0 ≤ nhV bt l (nmF bt l 0 2 (nmF bt l 0 3 (false, p))) ∧ nhV bt l (nmF bt l 0 2 (nmF bt l 0 3 (false, p))) ≤ 2) && !(ac && decide (nmV bt l 0 2 (nmF bt l 0 3 (false, p)) = nhV bt l (nmF bt l 0 2 (nmF bt l 0 3 (false, p))))))) rfl rfl (fx_is F rfl) (Nat.le_of_ble_eq_true rfl) (Nat.le_of_ble_eq_true rfl) (Nat.le_refl _) (Nat.le_refl _) (Nat.le_of_ble_eq_true rfl) ?_
    rintro v h4 ⟨rfl, S4, ps4⟩
    have F := S4.F F
    have t := S4.tbP t
    obtain ⟨e9, v9⟩ := three_e tk ac
    rw [e9] at ps4
    have S5 := S2.tr S4
    have p18 : hI h4 109 18 = b2 (decide (ahL bt l p ac < 0) = true) := ps4.2.2
    clear e9
    refine e_aload_n aX9_three_54 rfl ?_
    refine e_getIF aX9_three_55 fX9_274 rfl (fx_is F rfl) p18 ?_
    refine e_if_ne aX9_three_58 (fun c58 => ?_) (fun c58 => ?_)
    · -- 58: taken
      have q57 : decide (ahL bt l p ac < 0) = true := Decidable.of_not_not (fun z => c58 (b2_0.mpr z))
      have q58 : ahL bt l p ac < 0 := of_decide_eq_true q57
      refine e_return aX9_three_79 rfl (Nat.le_refl _) (Nat.le_refl _) ?_
      exact ⟨rfl, h4, S5, ps4, (if_pos q58).symm⟩
    · -- 58: not taken
      have q57 : ¬ decide (ahL bt l p ac < 0) = true := b2_0.mp c58
      have q58 : ¬ ahL bt l p ac < 0 := fun z => q57 (decide_eq_true z)
      obtain ⟨v1, v2, v3⟩ := v9 q58
      obtain ⟨yz, cz, lz, hy, hcz, hlz, ey, ec, el⟩ := ah_b q58
      rw [ey] at v1
      rw [ec] at v2
      rw [el] at v3
      rw [v1, v2, v3]
      refine e_aload_n aX9_three_61 rfl ?_
      refine e_iload_n aX9_three_62 rfl ?_
      refine e_bipush (v := 9) aX9_three_63 (by decide) ?_
      refine e_iload_n aX9_three_65 rfl ?_
      refine e_imul aX9_three_66 ?_
      refine e_top (nI_mul 9 yz) ?_
      refine e_iadd aX9_three_67 ?_
      refine e_top (nI_add B9 _) ?_
      refine e_iconst (v := 3) aX9_three_68 (by decide) ?_
      refine e_iload aX9_three_69 rfl ?_
      refine e_imul aX9_three_71 ?_
      refine e_top (nI_mul 3 cz) ?_
      refine e_iadd aX9_three_72 ?_
      refine e_top (nI_add _ _) ?_
      refine e_iload aX9_three_73 rfl ?_
      refine e_iadd aX9_three_75 ?_
      refine e_top (nI_add _ _) ?_
      refine e_invvV aX9_three_76 kX9_297 (zX9_codes X F ((S5.2 _ _ (by unfold scP; omega)).trans hc) hj _) rfl rfl (fx_is F rfl) (Nat.le_of_ble_eq_true rfl) (Nat.le_of_ble_eq_true rfl) (Nat.le_refl _) (Nat.le_refl _) (Nat.le_of_ble_eq_true rfl) ?_
      refine e_return aX9_three_79 rfl (Nat.le_refl _) (Nat.le_refl _) ?_
      exact ⟨rfl, h4, S5, ps4, by rw [if_neg q58, ey, ec, el, cl (n := yz) (by omega), cl (n := cz) (by omega), cl (n := lz) (by omega)]⟩
  refine e_aload_n aX9_three_0 rfl ?_
  refine e_iconst (v := 0) aX9_three_1 (by decide) ?_
  refine e_iconst (v := 3) aX9_three_2 (by decide) ?_
  refine e_invv aX9_three_3 kX9_294 (zX9_number X F t ps tk (lo := 0) (hi9 := 3) (by decide) (by decide)) rfl rfl (fx_is F rfl) (Nat.le_of_ble_eq_true rfl) (Nat.le_of_ble_eq_true rfl) (Nat.le_refl _) (Nat.le_refl _) (Nat.le_of_ble_eq_true rfl) ?_
  rintro v h2 ⟨rfl, S1, ps1⟩
  have F := S1.F F
  have t := S1.tbP t
  have tk1 : TkI bt l (nmF bt l 0 3 (false, p)).2 := TkI_mF tk
  refine e_istore_n aX9_three_6 (Nat.le_of_ble_eq_true rfl) ?_
  refine e_aload_n aX9_three_7 rfl ?_
  refine e_iconst (v := 0) aX9_three_8 (by decide) ?_
  refine e_iconst (v := 2) aX9_three_9 (by decide) ?_
  refine e_invv aX9_three_10 kX9_294 (zX9_number X F t ps1 tk1 (lo := 0) (hi9 := 2) (by decide) (by decide)) rfl rfl (fx_is F rfl) (Nat.le_of_ble_eq_true rfl) (Nat.le_of_ble_eq_true rfl) (Nat.le_refl _) (Nat.le_refl _) (Nat.le_of_ble_eq_true rfl) ?_
  rintro v h3 ⟨rfl, S3, ps2⟩
  have F := S3.F F
  have t := S3.tbP t
  have S2 := S1.tr S3
  refine e_istore aX9_three_13 (Nat.le_of_ble_eq_true rfl) ?_
  refine e_aload_n aX9_three_15 rfl ?_
  refine e_invvT aX9_three_16 kX9_284 (zX9_numberHere X F t ps2 (TkI_mF tk1)) rfl rfl (fx_is F rfl) (Nat.le_of_ble_eq_true rfl) (Nat.le_of_ble_eq_true rfl) (Nat.le_refl _) (Nat.le_refl _) (Nat.le_of_ble_eq_true rfl) ?_
  refine e_istore aX9_three_19 (Nat.le_of_ble_eq_true rfl) ?_
  refine e_aload_n aX9_three_21 rfl ?_
  refine e_iload aX9_three_22 rfl ?_
  refine e_i2l aX9_three_24 ?_
  refine e_lconst (v := 0) aX9_three_25 rfl ?_
  refine e_ldc2 aX9_three_26 lX9_114 ?_
  refine e_invsT aX9_three_29 kX9_108 (zin X _ 0 2 rfl rfl) rfl rfl (Nat.le_of_ble_eq_true rfl) (Nat.le_of_ble_eq_true rfl) (Nat.le_refl _) (Nat.le_refl _) (Nat.le_of_ble_eq_true rfl) ?_
  refine e_if_eq aX9_three_32 (fun c32 => ?_) (fun c32 => ?_)
  · -- 32: taken
    have q32 := b2_0.mp c32
    refine e_iconst (v := 0) aX9_three_50 (by decide) ?_
    refine e_top (v := b2 ((decide (0 ≤ nhV bt l (nmF bt l 0 2 (nmF bt l 0 3 (false, p))) ∧ nhV bt l (nmF bt l 0 2 (nmF bt l 0 3 (false, p))) ≤ 2) && !(ac && decide (nmV bt l 0 2 (nmF bt l 0 3 (false, p)) = nhV bt l (nmF bt l 0 2 (nmF bt l 0 3 (false, p)))))) = true)) (b2_f (p := (decide (0 ≤ nhV bt l (nmF bt l 0 2 (nmF bt l 0 3 (false, p))) ∧ nhV bt l (nmF bt l 0 2 (nmF bt l 0 3 (false, p))) ≤ 2) && !(ac && decide (nmV bt l 0 2 (nmF bt l 0 3 (false, p)) = nhV bt l (nmF bt l 0 2 (nmF bt l 0 3 (false, p)))))) = true) (fun w => q32 (of_decide_eq_true (Bool.and_eq_true_iff.mp w).1))).symm ?_
    refine e_ls (ls' := [(0, some (vR (some 109))), (1, some (vI (nI B9))), (3, some (vI (nmV bt l 0 3 (false, p)))), (4, some (vI (nmV bt l 0 2 (nmF bt l 0 3 (false, p))))), (5, some (vI (nhV bt l (nmF bt l 0 2 (nmF bt l 0 3 (false, p))))))]) ⟨rfl, rfl, rfl, rfl, rfl, trivial⟩ ?_
    exact tail h3 F t S2 ps2
  · -- 32: not taken
    have q32 := Decidable.of_not_not (fun z => c32 (b2_0.mpr z))
    refine e_iload_n aX9_three_35 rfl ?_
    refine e_if_eq aX9_three_36 (fun c36 => ?_) (fun c36 => ?_)
    · -- 36: taken
      have q36 : ¬ ac = true := b2_0.mp c36
      refine e_iconst (v := 1) aX9_three_46 (by decide) ?_
      refine e_goto aX9_three_47 ?_
      refine e_top (v := b2 ((decide (0 ≤ nhV bt l (nmF bt l 0 2 (nmF bt l 0 3 (false, p))) ∧ nhV bt l (nmF bt l 0 2 (nmF bt l 0 3 (false, p))) ≤ 2) && !(ac && decide (nmV bt l 0 2 (nmF bt l 0 3 (false, p)) = nhV bt l (nmF bt l 0 2 (nmF bt l 0 3 (false, p)))))) = true)) (b2_t (p := (decide (0 ≤ nhV bt l (nmF bt l 0 2 (nmF bt l 0 3 (false, p))) ∧ nhV bt l (nmF bt l 0 2 (nmF bt l 0 3 (false, p))) ≤ 2) && !(ac && decide (nmV bt l 0 2 (nmF bt l 0 3 (false, p)) = nhV bt l (nmF bt l 0 2 (nmF bt l 0 3 (false, p)))))) = true) (by rw [decide_eq_true q32, Bool.eq_false_iff.mpr q36]; rfl)).symm ?_
      refine e_ls (ls' := [(0, some (vR (some 109))), (1, some (vI (nI B9))), (3, some (vI (nmV bt l 0 3 (false, p)))), (4, some (vI (nmV bt l 0 2 (nmF bt l 0 3 (false, p))))), (5, some (vI (nhV bt l (nmF bt l 0 2 (nmF bt l 0 3 (false, p))))))]) ⟨rfl, rfl, rfl, rfl, rfl, trivial⟩ ?_
      exact tail h3 F t S2 ps2
    · -- 36: not taken
      have q36 : ac = true := Decidable.of_not_not (fun z => c36 (b2_0.mpr z))
      refine e_iload aX9_three_39 rfl ?_
      refine e_iload aX9_three_41 rfl ?_
      refine e_icmp_eq aX9_three_43 (fun c43 => ?_) (fun c43 => ?_)
      · -- 43: taken
        refine e_iconst (v := 0) aX9_three_50 (by decide) ?_
        refine e_top (v := b2 ((decide (0 ≤ nhV bt l (nmF bt l 0 2 (nmF bt l 0 3 (false, p))) ∧ nhV bt l (nmF bt l 0 2 (nmF bt l 0 3 (false, p))) ≤ 2) && !(ac && decide (nmV bt l 0 2 (nmF bt l 0 3 (false, p)) = nhV bt l (nmF bt l 0 2 (nmF bt l 0 3 (false, p)))))) = true)) (b2_f (p := (decide (0 ≤ nhV bt l (nmF bt l 0 2 (nmF bt l 0 3 (false, p))) ∧ nhV bt l (nmF bt l 0 2 (nmF bt l 0 3 (false, p))) ≤ 2) && !(ac && decide (nmV bt l 0 2 (nmF bt l 0 3 (false, p)) = nhV bt l (nmF bt l 0 2 (nmF bt l 0 3 (false, p)))))) = true) (by rw [q36, decide_eq_true c43]; simp)).symm ?_
        refine e_ls (ls' := [(0, some (vR (some 109))), (1, some (vI (nI B9))), (3, some (vI (nmV bt l 0 3 (false, p)))), (4, some (vI (nmV bt l 0 2 (nmF bt l 0 3 (false, p))))), (5, some (vI (nhV bt l (nmF bt l 0 2 (nmF bt l 0 3 (false, p))))))]) ⟨rfl, rfl, rfl, rfl, rfl, trivial⟩ ?_
        exact tail h3 F t S2 ps2
      · -- 43: not taken
        refine e_iconst (v := 1) aX9_three_46 (by decide) ?_
        refine e_goto aX9_three_47 ?_
        refine e_top (v := b2 ((decide (0 ≤ nhV bt l (nmF bt l 0 2 (nmF bt l 0 3 (false, p))) ∧ nhV bt l (nmF bt l 0 2 (nmF bt l 0 3 (false, p))) ≤ 2) && !(ac && decide (nmV bt l 0 2 (nmF bt l 0 3 (false, p)) = nhV bt l (nmF bt l 0 2 (nmF bt l 0 3 (false, p)))))) = true)) (b2_t (p := (decide (0 ≤ nhV bt l (nmF bt l 0 2 (nmF bt l 0 3 (false, p))) ∧ nhV bt l (nmF bt l 0 2 (nmF bt l 0 3 (false, p))) ≤ 2) && !(ac && decide (nmV bt l 0 2 (nmF bt l 0 3 (false, p)) = nhV bt l (nmF bt l 0 2 (nmF bt l 0 3 (false, p)))))) = true) (by rw [decide_eq_true q32, q36, decide_eq_false c43]; rfl)).symm ?_
        refine e_ls (ls' := [(0, some (vR (some 109))), (1, some (vI (nI B9))), (3, some (vI (nmV bt l 0 3 (false, p)))), (4, some (vI (nmV bt l 0 2 (nmF bt l 0 3 (false, p))))), (5, some (vI (nhV bt l (nmF bt l 0 2 (nmF bt l 0 3 (false, p))))))]) ⟨rfl, rfl, rfl, rfl, rfl, trivial⟩ ?_
        exact tail h3 F t S2 ps2
/-- what a test says; a stack of truths behind codes -/
def tsN (DE : Nat → DD) (m s : Nat) : Bool := if 3000 ≤ m then decide (gv (DE (m - 3000)) s = none) else if m < 2000 then decide (pl s (3 * (m % 1000 / 9) + m % 1000 / 3 % 3) < pl s (3 * (m % 1000 / 9) + m % 1000 % 3)) else decide (pl s (3 * (m % 1000 / 9) + m % 1000 / 3 % 3) = m % 1000 % 3)
def evS (DE : Nat → DD) (s : Nat) : List Int32 → List Bool → Option (List Bool)
  | [], st => some st
  | k :: cs, st => if 0 ≤ k then evS DE s cs (tsN DE k.toNatClampNeg s :: st) else if k = -1 then (match st with | b :: r => evS DE s cs ((!b) :: r) | [] => none) else (match st with | b :: a :: r => evS DE s cs ((if k = -2 then a && b else a || b) :: r) | _ => none)
theorem evS_s {DE : Nat → DD} {s : Nat} {k : Int32} {cs : List Int32} {st : List Bool} : evS DE s (k :: cs) st = if 0 ≤ k then evS DE s cs (tsN DE k.toNatClampNeg s :: st) else if k = -1 then (match st with | b :: r => evS DE s cs ((!b) :: r) | [] => none) else (match st with | b :: a :: r => evS DE s cs ((if k = -2 then a && b else a || b) :: r) | _ => none) := rfl
theorem evS_app {DE : Nat → DD} {s : Nat} {ds : List Int32} : ∀ (cs : List Int32) (st : List Bool), evS DE s (cs ++ ds) st = (evS DE s cs st).bind (evS DE s ds)
  | [], st => rfl
  | k :: cs, st => by
    rw [List.cons_append, evS_s, evS_s]
    by_cases z : 0 ≤ k
    · rw [if_pos z, if_pos z]; exact evS_app cs _
    · rw [if_neg z, if_neg z]
      by_cases w : k = -1
      · rw [if_pos w, if_pos w]
        cases st with
        | nil => rfl
        | cons b r => exact evS_app cs _
      · rw [if_neg w, if_neg w]
        match st with
        | [] => rfl
        | [b] => rfl
        | b :: a :: r => exact evS_app cs _
def EvP (DE : Nat → DD) (cs : List Int32) (S : Nat → Bool) : Prop := ∀ s, s < 1296 → ∀ st, evS DE s cs st = some (S s :: st)
theorem EvP_c {DE : Nat → DD} {cs : List Int32} {S T9 : Nat → Bool} (h : EvP DE cs S) (e : ∀ s, s < 1296 → S s = T9 s) : EvP DE cs T9 := fun s hs st => by rw [← e s hs]; exact h s hs st
theorem EvP_1 {DE : Nat → DD} {m : Nat} (hm : m < 1073741824) : EvP DE [nI m] (tsN DE m) := fun s hs st => by
  show (if (0 : Int32) ≤ nI m then evS DE s [] (tsN DE (nI m).toNatClampNeg s :: st) else _) = _
  rw [if_pos (nI_pos' (by omega)), cl hm]
  rfl
theorem EvP_n {DE : Nat → DD} {cs : List Int32} {S : Nat → Bool} (h : EvP DE cs S) : EvP DE (cs ++ [-1]) (fun u => !S u) := fun s hs st => by
  rw [evS_app, h s hs st]
  rfl
theorem EvP_a {DE : Nat → DD} {cs ds : List Int32} {S T9 : Nat → Bool} (h : EvP DE cs S) (h2 : EvP DE ds T9) : EvP DE (cs ++ ds ++ [-2]) (fun u => S u && T9 u) := fun s hs st => by
  rw [evS_app, evS_app, h s hs st, Option.bind_some, h2 s hs]
  rfl
theorem EvP_o {DE : Nat → DD} {cs ds : List Int32} {S T9 : Nat → Bool} (h : EvP DE cs S) (h2 : EvP DE ds T9) : EvP DE (cs ++ ds ++ [-3]) (fun u => S u || T9 u) := fun s hs st => by
  rw [evS_app, evS_app, h s hs st, Option.bind_some, h2 s hs]
  rfl
/-- codes that can be gone through, N deals being there -/
def VaC (N : Nat) (cs : List Int32) : Prop := ∀ k, k ∈ cs → k = -1 ∨ k = -2 ∨ k = -3 ∨ ∃ m, k = nI m ∧ ((1000 ≤ m ∧ m < 1036) ∨ (2000 ≤ m ∧ m < 2036) ∨ (3000 ≤ m ∧ m < 3000 + N))
theorem VaC_app {N : Nat} {cs ds : List Int32} (h : VaC N cs) (h2 : VaC N ds) : VaC N (cs ++ ds) := fun k hk => (List.mem_append.mp hk).elim (h k) (h2 k)
theorem VaC_1 {N : Nat} {k : Int32} (h : k = -1 ∨ k = -2 ∨ k = -3 ∨ ∃ m, k = nI m ∧ ((1000 ≤ m ∧ m < 1036) ∨ (2000 ≤ m ∧ m < 2036) ∨ (3000 ≤ m ∧ m < 3000 + N))) : VaC N [k] := fun x hx => by
  rw [List.mem_singleton] at hx
  subst hx
  exact h
/-- the codes as the cells hold them -/
def CdC (h : HP) (L : List Int32) : Prop := hI h 109 23 = nI L.length ∧ ∀ i, i < L.length → hI h 119 i = L.getD i 0
theorem CdC.s {h : HP} {L : List Int32} {k : Int32} (q : CdC h L) : CdC (wI (wI h 119 L.length k) 109 23 (nI (L.length + 1))) (L ++ [k]) := by
  refine ⟨wI_s.trans (by rw [List.length_append]; rfl), fun i hi => ?_⟩
  rw [List.length_append] at hi
  have hi : i < L.length + 1 := hi
  refine (wI_a (by decide)).trans ?_
  by_cases e : i = L.length
  · subst e
    refine wI_s.trans ?_
    rw [List.getD_eq_getElem?_getD, List.getElem?_append_right (Nat.le_refl _), Nat.sub_self]
    rfl
  · refine (wI_i e).trans ((q.2 i (by omega)).trans ?_)
    rw [List.getD_eq_getElem?_getD, List.getD_eq_getElem?_getD, List.getElem?_append_left (by omega)]
theorem CdC.sf {P : Nat → Nat → Prop} {h h2 : HP} {L : List Int32} (q : CdC h L) (S : Sf P h h2) (n1 : ¬ P 109 23) (n2 : ∀ i, ¬ P 119 i) : CdC h2 L := ⟨(S.2 _ _ n1).trans q.1, fun i hi => (S.2 _ _ (n2 i)).trans (q.2 i hi)⟩
