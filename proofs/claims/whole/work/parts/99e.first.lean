/-! the first state (written by wip/whole/g99e.py) -/
def HH0 : HP := (fun _ _ => 0, fun _ _ => 0, fun _ i => if R0 32 i = 0 then none else some (R0 32 i), fun _ => 0, fun _ => 0, 32)
def h1H : HP := nwk 32 HH0 9 0
def h2H : HP := nwk 109 (c9H h1H) 10 0
def GG0 : HP := m4H h2H
theorem pz1 : Pz 33 h1H := Pz.n (k := 32) (h := HH0) (t := 9) (n := 0) ⟨rfl, fun a h1 h2 => by omega⟩ rfl rfl
theorem pz2 : Pz 110 h2H := Pz.n (k := 109) (h := c9H h1H) (t := 10) (n := 0) (show Pz 109 (c9H h1H) from c8_P pz1) rfl rfl
theorem pz3 : Pz 134 GG0 := m4_P pz2
theorem rf_ok : ((List.range 134).all fun a => (List.range 40).all fun i => R0 a i == 0 || hR GG0 a i == some (R0 a i)) = true := by decide +kernel
theorem r0_len : ∀ a, a < 134 → (R0l.getD (a - 32) []).length ≤ 39 := by decide +kernel
theorem r0_b {a i : Nat} (h : R0 a i ≠ 0) : a < 134 ∧ i < 40 := by
  have ha : a < 134 := by
    by_cases z : a < 134
    · exact z
    · refine absurd ?_ h
      have hl : R0l.length = 102 := rfl
      unfold R0
      rw [List.getD_eq_getElem?_getD (l := R0l), List.getElem?_eq_none (by omega)]
      rfl
  refine ⟨ha, ?_⟩
  by_cases z : i < 40
  · exact z
  · refine absurd ?_ h
    have hl := r0_len a ha
    unfold R0
    rw [List.getD_eq_getElem?_getD, List.getElem?_eq_none (by omega)]
    rfl
theorem fx0 : Fx GG0 := by
  refine ⟨Nat.le_of_eq pz3.1.symm, fun a h1 h2 => pz3.2 a h1 h2, fun a i hr => ?_⟩
  obtain ⟨h1, h2⟩ := r0_b hr
  have k := List.all_eq_true.mp (List.all_eq_true.mp rf_ok a (List.mem_range.mpr h1)) i (List.mem_range.mpr h2)
  rcases Bool.or_eq_true_iff.mp k with z | z
  · exact absurd (beq_iff_eq.mp z) hr
  · exact beq_iff_eq.mp z
def Lo9 (h h2 : HP) : Prop := ∀ a, a < 109 → ∀ i, hI h2 a i = hI h a i
theorem lo_0 {h : HP} : Lo9 h h := fun _ _ _ => rfl
theorem lo_n {h h2 : HP} {k t n : Nat} (q : Lo9 h h2) (hk : 109 ≤ k) : Lo9 h (nwk k h2 t n) := fun a ha i => (if_neg (by omega)).trans (q a ha i)
theorem lo_i {h h2 : HP} {b j : Nat} {v : Int32} (q : Lo9 h h2) (hb : 109 ≤ b) : Lo9 h (wI h2 b j v) := fun a ha i => (wI_a (by omega)).trans (q a ha i)
theorem lo_r {h h2 : HP} {b j : Nat} {v : Option Nat} (q : Lo9 h h2) : Lo9 h (wR h2 b j v) := q
theorem lo_w {h h2 : HP} (q : Lo9 h h2) (k : Nat) : Lo9 h (wdH h2 k) := fun a ha i => (wdH_o (by omega) k).trans (q a ha i)
theorem lo_m1 {h : HP} : Lo9 h (m1H h) := by
  unfold m1H
  repeat (first | exact lo_0 | refine lo_r ?_ | refine lo_i ?_ (by decide) | refine lo_n ?_ (by decide))
theorem lo_m2 {h : HP} : Lo9 h (m2H h) := by
  unfold m2H
  repeat (first | exact lo_m1 | refine lo_r ?_ | refine lo_i ?_ (by decide) | refine lo_n ?_ (by decide))
theorem lo_m3 {h : HP} : Lo9 h (m3H h) := by
  unfold m3H
  repeat (first | exact lo_m2 | refine lo_w ?_ 90 | refine lo_r ?_ | refine lo_i ?_ (by decide) | refine lo_n ?_ (by decide))
theorem lo_m4 {h : HP} : Lo9 h (m4H h) := by
  unfold m4H
  repeat (first | exact lo_m3 | refine lo_r ?_ | refine lo_i ?_ (by decide) | refine lo_n ?_ (by decide))
theorem nwk_J {k : Nat} {h : HP} {t n a i : Nat} (h1 : a ≠ k) : hI (nwk k h t n) a i = hI h a i := if_neg h1
theorem g39 (s : Nat) (hs : s < 1296) : hI GG0 39 s = 9586980 := by
  have e1 : hI h2H 39 s = hI (c9H h1H) 39 s := nwk_J (h := c9H h1H) (k := 109) (t := 10) (n := 0) (a := 39) (i := s) (by decide)
  have e2 : hI (c9H h1H) 39 s = rng 0 1296 (fun _ _ => 9586980) (hI (c8H h1H) 39) s := rwR_39
  rw [show hI GG0 39 s = hI h2H 39 s from lo_m4 39 (by decide) s, e1, e2]
  unfold rng
  rw [if_pos ⟨Nat.zero_le s, hs⟩]
theorem dg0 : ∀ p, p < 12 → dgt 9586980 p = nI (p % 3) := by decide +kernel
theorem gi_a : hI GG0 33 1 = 0 ∧ hI GG0 33 3 = 0 ∧ hI GG0 33 5 = 1 ∧ hI GG0 32 2 = 0 ∧ hI GG0 41 1 = 0 := by decide +kernel
theorem gi_w : ∀ i, i < 3 → hI GG0 36 i = (if i = 0 then 8 else if i = 1 then 4 else 2) := by decide +kernel
theorem gi_76 : ∀ k, k < 8 → hI GG0 76 k = 0 := by decide +kernel
theorem gi_75 : ∀ k, k < 3 → hI GG0 75 k = -1 := by decide +kernel
theorem gi_sh : ∀ s, s < 4 → hI GG0 (101 + 2 * s) 1 = -1 ∧ hI GG0 (101 + 2 * s) 2 = 0 := by decide +kernel
theorem gr_74 : ∀ i, i < 4 → hR GG0 74 i = none := by decide +kernel
theorem gm_a : hI GG0 109 1 = 0 ∧ hI GG0 109 4 = 0 ∧ hI GG0 109 3 = 1 ∧ hI GG0 109 35 = 0 ∧ hI GG0 109 14 = 0 ∧ hI GG0 109 7 = 0 := by decide +kernel
theorem gm_w : ∀ i, i < 3 → hI GG0 117 i = (if i = 0 then 8 else if i = 1 then 4 else 2) := by decide +kernel
theorem gm_110 : ∀ k, k < 8 → hI GG0 110 k = 0 := by decide +kernel
theorem gm_114 : ∀ k, k < 3 → hI GG0 114 k = -1 := by decide +kernel
theorem gm_121 : ∀ i, i < 90 → hI GG0 121 i = wdL.getD i 0 := by decide +kernel
theorem gm_sh : ∀ s, s < 4 → hI GG0 122 s = -1 ∧ hI GG0 123 s = 0 := by decide +kernel
theorem gm_sp : ∀ s, s < 4 → hI GG0 128 s = 0 := by decide +kernel
def dd0 : DD := dNo 0 0 0 0 none 0
def bk00 : BK := bkK 0 0 (fun _ => 0) (fun _ => 0) (fun _ => dd0) (fun i => if i = 0 then 8 else if i = 1 then 4 else 2) 1 (fun _ => 0)
def pp00 : PP := ppK bk00 (fun _ => 0) (fun _ => -1) 0 (fun _ => bk00) 0 (fun _ => 0) (fun _ => -1) (fun _ => 0) (fun _ _ => 0) (fun _ => none) (fun _ => dd0) (fun _ => 0) 0 (fun _ => none)
theorem ic00 : IC pp00 GG0 := by
  obtain ⟨a1, a2, a3, a4, a5⟩ := gi_a
  refine ⟨fx0, ⟨⟨a2, Nat.zero_le _, fun y hy => absurd hy (Nat.not_lt_zero _), fun y hy => absurd hy (Nat.not_lt_zero _)⟩, ⟨a1, Nat.zero_le _, fun k hk => absurd hk (Nat.not_lt_zero _)⟩, gi_w, a3⟩, fun s h1 h2 p hp => ?_, gi_76, gi_75, a4, fun j hj => absurd hj (Nat.not_lt_zero _), ⟨a5, Nat.zero_le _⟩, fun i hi => absurd hi (Nat.not_lt_zero _), fun s hs => ⟨(gi_sh s hs).1, Or.inl rfl, (gi_sh s hs).2, Nat.zero_le _⟩, fun s hs i hi => absurd hi (Nat.not_lt_zero _), fun i hi => ⟨gr_74 i hi, fun a h => (by cases h)⟩, fun a j h => (by cases h)⟩
  have h2 : s < 0 + 1296 := h2
  rw [g39 s (by omega)]
  exact dg0 p hp
theorem im00 : IM pp00 GG0 := by
  obtain ⟨a1, a2, a3, a4, a5, a6⟩ := gm_a
  exact ⟨⟨⟨a1, Nat.zero_le _, fun y hy => absurd hy (Nat.not_lt_zero _), fun y hy => absurd hy (Nat.not_lt_zero _)⟩, ⟨a2, Nat.zero_le _, fun k hk => absurd hk (Nat.not_lt_zero _)⟩, gm_w, a3, fun k hk => absurd hk (Nat.not_lt_zero _)⟩, gm_110, gm_114, a4, fun j hj => absurd hj (Nat.not_lt_zero _), ⟨a5, Nat.zero_le _, fun i hi => absurd hi (Nat.not_lt_zero _), gm_121⟩, fun s hs => ⟨(gm_sh s hs).1, (gm_sh s hs).2, Or.inl rfl, Nat.zero_le _⟩, fun s hs i hi => absurd hi (Nat.not_lt_zero _), fun i hi => gm_sp i hi, a6⟩
theorem inv00 : Inv 0 GG0 := ⟨pp00, ic00, im00, Nat.zero_le _, fun s h1 h2 p hp k hk => absurd hk (Nat.not_lt_zero _), fun j hj => absurd hj (Nat.not_lt_zero _), fun k hk => absurd hk (Nat.not_lt_zero _), fun j hj => absurd hj (Nat.not_lt_zero _), fun i hi a h => (by cases h), fun a b j h => (by cases h), fun a j h => (by cases h), fun j k h1 hk => absurd hk (Nat.not_lt_zero _), fun j hj => absurd hj (Nat.not_lt_zero _), Nat.le_refl _⟩
