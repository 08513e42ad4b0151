/-! the law's Book is made; the first state (written by wip/p45/g99j.py) -/
theorem zJxa1e45_init_da8c8 (X : EX) {h : HP} {a : Nat} : Ct X mJxa1e45_init_da8c8 1 0 0 [vR (some a)] h (Rv h) := by
  refine ct_of rfl (Nat.le_of_ble_eq_true rfl) ?_
  refine e_aload_n aJxa1e45_init_da8c8_0 rfl ?_
  refine e_objInit aJxa1e45_init_da8c8_1 kJxa1e45_1 w_objI w_objC (Nat.le_of_ble_eq_true rfl) (Nat.le_of_ble_eq_true rfl) ?_
  refine e_return aJxa1e45_init_da8c8_4 rfl (Nat.le_refl _) (Nat.le_refl _) ?_
  exact ⟨rfl, rfl⟩
theorem zJxc12de_init_da8c8 (X : EX) {h : HP} {a : Nat} (ka : Is h a 11) : Ct X mJxc12de_init_da8c8 2 0 0 [vR (some a)] h (Rv (wI h a 0 0)) := by
  refine ct_of rfl (Nat.le_of_ble_eq_true rfl) ?_
  refine e_aload_n aJxc12de_init_da8c8_0 rfl ?_
  refine e_invi aJxc12de_init_da8c8_1 kJxc12de_1 (zJxa1e45_init_da8c8 X) rfl rfl (Nat.le_of_ble_eq_true rfl) (Nat.le_of_ble_eq_true rfl) (Nat.le_refl _) (Nat.le_refl _) (Nat.le_of_ble_eq_true rfl) ?_
  rintro v h2 ⟨rfl, rfl⟩
  refine e_aload_n aJxc12de_init_da8c8_4 rfl ?_
  refine e_iconst (v := 0) aJxc12de_init_da8c8_5 (by decide) ?_
  refine e_putI aJxc12de_init_da8c8_6 fJxc12de_7 rfl ka (Or.inl rfl) ?_
  refine e_return aJxc12de_init_da8c8_9 rfl (Nat.le_refl _) (Nat.le_refl _) ?_
  exact ⟨rfl, rfl⟩
def alH (h : HP) (a : Nat) : HP := wR (wI h a 0 0) a 1 (some 14)
theorem zJx4a65c_init_da8c8 (X : EX) {h : HP} {a : Nat} (ka : Is h a 11) : Ct X mJx4a65c_init_da8c8 3 0 0 [vR (some a)] h (Rv (alH h a)) := by
  refine ct_of rfl (Nat.le_of_ble_eq_true rfl) ?_
  refine e_aload_n aJx4a65c_init_da8c8_0 rfl ?_
  refine e_invi aJx4a65c_init_da8c8_1 kJx4a65c_1 (zJxc12de_init_da8c8 X ka) rfl rfl (Nat.le_of_ble_eq_true rfl) (Nat.le_of_ble_eq_true rfl) (Nat.le_refl _) (Nat.le_refl _) (Nat.le_of_ble_eq_true rfl) ?_
  rintro v h2 ⟨rfl, rfl⟩
  refine e_aload_n aJx4a65c_init_da8c8_4 rfl ?_
  refine e_getsD aJx4a65c_init_da8c8_5 gJx4a65c_39 ?_
  refine e_putR aJx4a65c_init_da8c8_8 fJx4a65c_9 rfl ka (Or.inl rfl) ?_
  refine e_return aJx4a65c_init_da8c8_11 rfl (Nat.le_refl _) (Nat.le_refl _) ?_
  exact ⟨rfl, rfl⟩
def b1H (h : HP) : HP := wR (alH (nwk 110 h 11 0) 110) 109 0 (some 110)
def b2H (h : HP) : HP := wR (alH (nwk 111 (b1H h) 11 0) 111) 109 1 (some 111)
def b9H (h : HP) : HP := wR (nwk 115 (wR (nwk 114 (wR (nwk 113 (wR (nwk 112 (b2H h) 13 13) 109 2 (some 112)) 13 4) 109 5 (some 113)) 13 4) 109 6 (some 114)) 13 3) 109 7 (some 115)
theorem b9_P {h : HP} (P : Pz 110 h) : Pz 116 (b9H h) := (((((P.n (t := 11) (n := 0) rfl rfl).n (t := 11) (n := 0) rfl rfl).n (t := 13) (n := 13) rfl rfl).n (t := 13) (n := 4) rfl rfl).n (t := 13) (n := 4) rfl rfl).n (t := 13) (n := 3) rfl rfl
theorem zX9_init (X : EX) {h : HP} (P0 : Pz 110 h) : Ct X mX9_init 4 6 30 [vR (some 109)] h (Rv (b9H h)) := by
  refine ct_of rfl (Nat.le_of_ble_eq_true rfl) ?_
  have P := P0
  refine e_aload_n aX9_init_0 rfl ?_
  refine e_objInit aX9_init_1 kX9_1 w_objI w_objC (Nat.le_of_ble_eq_true rfl) (Nat.le_of_ble_eq_true rfl) ?_
  refine e_aload_n aX9_init_4 rfl ?_
  refine e_new aX9_init_5 nX9_7 (Nat.le_of_ble_eq_true rfl) (Nat.le_of_ble_eq_true rfl) ?_
  refine e_topR (v := some (110)) (congrArg some P.1) ?_
  refine e_hp (h2 := nwk (110) _ 11 0) (nwk_e P.1) ?_
  refine e_pz (P.n rfl rfl) ?_
  intro P
  refine e_dup aX9_init_8 rfl ?_
  refine e_invi aX9_init_9 kX9_9 (zJx4a65c_init_da8c8 X (pz_is P rfl)) rfl rfl (Nat.le_of_ble_eq_true rfl) (Nat.le_of_ble_eq_true rfl) (Nat.le_of_ble_eq_true rfl) (Nat.le_of_ble_eq_true rfl) (Nat.le_of_ble_eq_true rfl) ?_
  rintro v h2 ⟨rfl, rfl⟩
  refine e_pz P.i.r ?_
  intro P
  refine e_putR aX9_init_12 fX9_10 rfl (pz_is P rfl) (Or.inr ⟨rfl, fun r q => by cases q; rfl⟩) ?_
  refine e_hp (h2 := b1H h) rfl ?_
  refine e_pz (h := b1H h) P.r ?_
  intro P
  refine e_aload_n aX9_init_15 rfl ?_
  refine e_new aX9_init_16 nX9_7 (Nat.le_of_ble_eq_true rfl) (Nat.le_of_ble_eq_true rfl) ?_
  refine e_topR (v := some (111)) (congrArg some P.1) ?_
  refine e_hp (h2 := nwk (111) _ 11 0) (nwk_e P.1) ?_
  refine e_pz (P.n rfl rfl) ?_
  intro P
  refine e_dup aX9_init_19 rfl ?_
  refine e_invi aX9_init_20 kX9_9 (zJx4a65c_init_da8c8 X (pz_is P rfl)) rfl rfl (Nat.le_of_ble_eq_true rfl) (Nat.le_of_ble_eq_true rfl) (Nat.le_of_ble_eq_true rfl) (Nat.le_of_ble_eq_true rfl) (Nat.le_of_ble_eq_true rfl) ?_
  rintro v h2 ⟨rfl, rfl⟩
  refine e_pz P.i.r ?_
  intro P
  refine e_putR aX9_init_23 fX9_16 rfl (pz_is P rfl) (Or.inr ⟨rfl, fun r q => by cases q; rfl⟩) ?_
  refine e_hp (h2 := b2H h) rfl ?_
  refine e_pz (h := b2H h) P.r ?_
  intro P
  refine e_aload_n aX9_init_26 rfl ?_
  refine e_bipush (v := 13) aX9_init_27 (by decide) ?_
  refine e_newI aX9_init_29 wa_int (by decide) rfl (Nat.le_of_ble_eq_true rfl) (Nat.le_of_ble_eq_true rfl) (Nat.le_of_ble_eq_true rfl) ?_
  refine e_topR (v := some (112)) (congrArg some P.1) ?_
  refine e_hp (h2 := nwk (112) _ 13 13) (nwk_e P.1) ?_
  refine e_pz (P.n rfl rfl) ?_
  intro P
  refine e_putR aX9_init_31 fX9_19 rfl (pz_is P rfl) (Or.inr ⟨rfl, fun r q => by cases q; rfl⟩) ?_
  refine e_pz P.r ?_
  intro P
  refine e_aload_n aX9_init_34 rfl ?_
  refine e_iconst (v := 4) aX9_init_35 (by decide) ?_
  refine e_newI aX9_init_36 wa_int (by decide) rfl (Nat.le_of_ble_eq_true rfl) (Nat.le_of_ble_eq_true rfl) (Nat.le_of_ble_eq_true rfl) ?_
  refine e_topR (v := some (113)) (congrArg some P.1) ?_
  refine e_hp (h2 := nwk (113) _ 13 4) (nwk_e P.1) ?_
  refine e_pz (P.n rfl rfl) ?_
  intro P
  refine e_putR aX9_init_38 fX9_23 rfl (pz_is P rfl) (Or.inr ⟨rfl, fun r q => by cases q; rfl⟩) ?_
  refine e_pz P.r ?_
  intro P
  refine e_aload_n aX9_init_41 rfl ?_
  refine e_iconst (v := 4) aX9_init_42 (by decide) ?_
  refine e_newI aX9_init_43 wa_int (by decide) rfl (Nat.le_of_ble_eq_true rfl) (Nat.le_of_ble_eq_true rfl) (Nat.le_of_ble_eq_true rfl) ?_
  refine e_topR (v := some (114)) (congrArg some P.1) ?_
  refine e_hp (h2 := nwk (114) _ 13 4) (nwk_e P.1) ?_
  refine e_pz (P.n rfl rfl) ?_
  intro P
  refine e_putR aX9_init_45 fX9_26 rfl (pz_is P rfl) (Or.inr ⟨rfl, fun r q => by cases q; rfl⟩) ?_
  refine e_pz P.r ?_
  intro P
  refine e_aload_n aX9_init_48 rfl ?_
  refine e_iconst (v := 3) aX9_init_49 (by decide) ?_
  refine e_newI aX9_init_50 wa_int (by decide) rfl (Nat.le_of_ble_eq_true rfl) (Nat.le_of_ble_eq_true rfl) (Nat.le_of_ble_eq_true rfl) ?_
  refine e_topR (v := some (115)) (congrArg some P.1) ?_
  refine e_hp (h2 := nwk (115) _ 13 3) (nwk_e P.1) ?_
  refine e_pz (P.n rfl rfl) ?_
  intro P
  refine e_putR aX9_init_52 fX9_29 rfl (pz_is P rfl) (Or.inr ⟨rfl, fun r q => by cases q; rfl⟩) ?_
  refine e_pz P.r ?_
  intro P
  refine e_return aX9_init_55 rfl (Nat.le_of_ble_eq_true rfl) (Nat.le_of_ble_eq_true rfl) ?_
  exact ⟨rfl, rfl⟩
def HH0 : HP := (fun _ _ => 0, fun _ _ => 0, fun _ i => if R0 32 i = 0 then none else some (R0 32 i), fun _ => 0, fun _ => 0, 32)
def h1H : HP := nwk 32 HH0 9 0
def h2H : HP := nwk 109 (c9H h1H) 10 0
def GG0 : HP := b9H h2H
theorem pz1 : Pz 33 h1H := Pz.n (k := 32) (h := HH0) (t := 9) (n := 0) ⟨rfl, fun a h1 h2 => by omega⟩ rfl rfl
theorem pz2 : Pz 110 h2H := Pz.n (k := 109) (h := c9H h1H) (t := 10) (n := 0) (show Pz 109 (c9H h1H) from c8_P pz1) rfl rfl
theorem pz3 : Pz 116 GG0 := b9_P pz2
theorem rf_ok : ((List.range 116).all fun a => (List.range 40).all fun i => R0 a i == 0 || hR GG0 a i == some (R0 a i)) = true := by decide +kernel
theorem r0_len : ∀ a, a < 116 → (R0l.getD (a - 32) []).length ≤ 39 := by decide +kernel
theorem r0_b {a i : Nat} (h : R0 a i ≠ 0) : a < 116 ∧ i < 40 := by
  have ha : a < 116 := by
    by_cases z : a < 116
    · exact z
    · refine absurd ?_ h
      have hl : R0l.length = 84 := rfl
      unfold R0
      rw [List.getD_eq_getElem?_getD (l := R0l), List.getElem?_eq_none (by omega)]
      rfl
  refine ⟨ha, ?_⟩
  by_cases z : i < 40
  · exact z
  · refine absurd ?_ h
    have hl := r0_len a ha
    unfold R0
    rw [List.getD_eq_getElem?_getD, List.getElem?_eq_none (by omega)]
    rfl
theorem fx0 : Fx GG0 := by
  refine ⟨Nat.le_of_eq pz3.1.symm, fun a h1 h2 => pz3.2 a h1 h2, fun a i hr => ?_⟩
  obtain ⟨h1, h2⟩ := r0_b hr
  have k := List.all_eq_true.mp (List.all_eq_true.mp rf_ok a (List.mem_range.mpr h1)) i (List.mem_range.mpr h2)
  rcases Bool.or_eq_true_iff.mp k with z | z
  · exact absurd (beq_iff_eq.mp z) hr
  · exact beq_iff_eq.mp z
theorem nwk_J {k : Nat} {h : HP} {t n a i : Nat} (h1 : a ≠ k) : hI (nwk k h t n) a i = hI h a i := if_neg h1
def Lo9 (h h2 : HP) : Prop := ∀ a, a < 109 → ∀ i, hI h2 a i = hI h a i
theorem lo_0 {h : HP} : Lo9 h h := fun _ _ _ => rfl
theorem lo_n {h h2 : HP} {k t n : Nat} (q : Lo9 h h2) (hk : 109 ≤ k) : Lo9 h (nwk k h2 t n) := fun a ha i => (if_neg (by omega)).trans (q a ha i)
theorem lo_i {h h2 : HP} {b j : Nat} {v : Int32} (q : Lo9 h h2) (hb : 109 ≤ b) : Lo9 h (wI h2 b j v) := fun a ha i => (wI_a (by omega)).trans (q a ha i)
theorem lo_r {h h2 : HP} {b j : Nat} {v : Option Nat} (q : Lo9 h h2) : Lo9 h (wR h2 b j v) := q
theorem lo_b {h : HP} : Lo9 h (b9H h) := by
  unfold b9H b2H b1H alH
  repeat (first | exact lo_0 | refine lo_r ?_ | refine lo_i ?_ (by decide) | refine lo_n ?_ (by decide))
theorem b9_I {h : HP} {a : Nat} (ha : a < 109) (i : Nat) : hI (b9H h) a i = hI h a i := lo_b a ha i
theorem g39 (s : Nat) (hs : s < 1296) : hI GG0 39 s = 9586980 := by
  have e1 : hI h2H 39 s = hI (c9H h1H) 39 s := nwk_J (h := c9H h1H) (k := 109) (t := 10) (n := 0) (a := 39) (i := s) (by decide)
  have e2 : hI (c9H h1H) 39 s = rng 0 1296 (fun _ _ => 9586980) (hI (c8H h1H) 39) s := rwR_39
  rw [show hI GG0 39 s = hI h2H 39 s from b9_I (by decide) s, e1, e2]
  unfold rng
  rw [if_pos ⟨Nat.zero_le s, hs⟩]
theorem dg0 : ∀ p, p < 12 → dgt 9586980 p = nI (p % 3) := by decide +kernel
theorem gi_a : hI GG0 33 1 = 0 ∧ hI GG0 33 3 = 0 ∧ hI GG0 32 2 = 0 := by decide +kernel
theorem gi_w : ∀ i, i < 3 → hI GG0 36 i = nI (W3 i) := by decide +kernel
theorem gi_sh : ∀ s, s < 4 → hI GG0 (101 + 2 * s) 1 = -1 ∧ hI GG0 (101 + 2 * s) 2 = 0 := by decide +kernel
theorem gm_a : hI GG0 109 3 = 0 ∧ hI GG0 109 4 = 0 ∧ hI GG0 110 2 = 0 ∧ hI GG0 111 2 = 0 ∧ hR GG0 110 1 = some 14 ∧ hR GG0 111 1 = some 14 := by decide +kernel
def dd0 : DD := dNo 0 0 0 0 none 0
def bq0 : BQ := (0, 0, fun _ => 0, fun _ => 0, fun _ => dd0)
theorem jm0 : JM GG0 0 0 0 (fun _ => 0) (fun _ => 0) (fun _ => dd0) bq0 (fun _ => -1) (fun _ => 0) := by
  obtain ⟨a1, a2, a3⟩ := gi_a
  obtain ⟨m1, m2, m3, m4, m5, m6⟩ := gm_a
  have nz : ∀ {p : Prop} {k : Nat}, k < 0 → p := fun hk => absurd hk (Nat.not_lt_zero _)
  refine ⟨⟨fx0, ⟨⟨a2, Nat.zero_le _, fun y hy => nz hy, fun y hy => nz hy⟩, ⟨a1, Nat.zero_le _, fun k hk => nz hk⟩, gi_w⟩, a3, Nat.zero_le _, fun j hj => nz hj, fun s hs => ⟨(gi_sh s hs).1, Or.inl rfl, (gi_sh s hs).2, Nat.zero_le _⟩⟩, fun s h1 h2 p hp => ?_, fun s h1 h2 p hp k hk => nz hk, 0, 0, fun _ => 0, fun _ => 0, fun _ => dd0, ⟨⟨m3, Nat.zero_le _, Or.inl ⟨rfl, m5⟩, fun i hi => nz hi⟩, ⟨m4, Nat.zero_le _, Or.inl ⟨rfl, m6⟩, fun i hi => nz hi⟩, fun z => absurd rfl z, fun i hi => nz hi⟩, ⟨m1, Nat.zero_le _, fun k hk => nz hk⟩, ⟨m2, Nat.zero_le _, fun y hy => nz hy, fun y hy => nz hy⟩⟩
  have h2 : s < 0 + 1296 := h2
  rw [g39 s (by omega)]
  exact dg0 p hp
