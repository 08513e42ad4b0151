/-! THE CLASH: the reference's is the class's (by hand) -/
theorem frW_no {P : Nat → Bool} : ∀ {m a : Nat}, (∀ c, a ≤ c → c < a + m → P c = false) → frW P a m = none := by
  intro m
  induction m with
  | zero => intro a _; rfl
  | succ m ih =>
    intro a h
    rw [frW_s, if_neg (by rw [h a (Nat.le_refl _) (by omega)]; decide)]
    exact ih (fun c h1 h2 => h c (by omega) (by omega))
theorem frW_at {P : Nat → Bool} {x : Nat} (hx : P x = true) : ∀ {m a : Nat}, a ≤ x → x < a + m → (∀ c, a ≤ c → c < x → P c = false) → frW P a m = some x := by
  intro m
  induction m with
  | zero => intro a h1 h2; omega
  | succ m ih =>
    intro a h1 h2 h
    rw [frW_s]
    by_cases e : a = x
    · rw [e, if_pos hx]
    · rw [if_neg (by rw [h a (Nat.le_refl _) (by omega)]; decide)]
      exact ih (by omega) (by omega) (fun c h3 h4 => h c (by omega) h4)
theorem frW_cg {P Q : Nat → Bool} : ∀ {m a : Nat}, (∀ c, a ≤ c → c < a + m → P c = Q c) → frW P a m = frW Q a m := by
  intro m
  induction m with
  | zero => intro a _; rfl
  | succ m ih =>
    intro a h
    rw [frW_s, frW_s, h a (Nat.le_refl _) (by omega), ih (fun c h1 h2 => h c (by omega) (by omega))]
theorem vs_cg {D D2 : Nat → DD} {s p c : Nat} : ∀ {n : Nat}, (∀ k, k < n → D2 k = D k) → vs D2 s p n c = vs D s p n c := by
  intro n
  induction n with
  | zero => intro _; rfl
  | succ n ih =>
    intro h
    unfold vs
    rw [h n (by omega), ih (fun k hk => h k (by omega))]
theorem cls_cg {D D2 : Nat → DD} {n s p g t : Nat} (h : ∀ k, k < n → D2 k = D k) : cls D2 n s p g t = cls D n s p g t := by
  unfold cls
  rw [vs_cg h, vs_cg h, ow_cg h]
theorem ncl_cg {D D2 : Nat → DD} {n s : Nat} {d : DD} (h : ∀ k, k < n → D2 k = D k) : ncl D2 n d s = ncl D n d s := by
  have e : (fun b => (cls D2 n s b (dT d) (dF d)).map (fun w => (b, w))) = fun b => (cls D n s b (dT d) (dF d)).map (fun w => (b, w)) := funext fun b => by rw [cls_cg h]
  unfold ncl
  cases gv d s with
  | none => rfl
  | some g =>
    show (match cls D2 n s g (dF d) (dT d), (gb d s).bind (fun b => (cls D2 n s b (dT d) (dF d)).map (fun w => (b, w))) with
      | none, none => none
      | some w, none => some (g, w)
      | none, some q => some q
      | some w, some q => if g < q.1 then some (g, w) else some q) = _
    rw [cls_cg h, e]
    rfl
theorem fcl_cg {D D2 : Nat → DD} {n : Nat} {d : DD} (h : ∀ k, k < n → D2 k = D k) : ∀ {m a : Nat}, fcl D2 n d a m = fcl D n d a m := by
  intro m
  induction m with
  | zero => intro a; rfl
  | succ m ih =>
    intro a
    unfold fcl
    rw [ncl_cg h, ih]
theorem okP.cg {D D2 : Nat → DD} {n s p : Nat} (ok : okP D n s p) (h : ∀ k, k < n → D2 k = D k) : okP D2 n s p := fun k hk t ht => by
  rw [h k hk] at ht ⊢
  obtain ⟨a, b⟩ := ok k hk t ht
  exact ⟨(ow_cg (fun j hj => h j (by omega))).trans a, (vs_cg (fun j hj => h j (by omega))).trans b⟩
theorem okD.cg {D D2 : Nat → DD} {n s : Nat} (ok : okD D n s) (h : ∀ k, k < n → D2 k = D k) : okD D2 n s := fun p hp => (ok p hp).cg h
/-- how a deal more would clash for a PICK -/
def clP (D : Nat → DD) (n s p : Nat) : Option Nat := match tk (D n) s p with
  | none => none
  | some t => cls D n s p (gr (D n) p) t
theorem clP_3 {D : Nat → DD} {n s p w : Nat} (h : clP D n s p = some w) : w < 3 := by
  unfold clP at h
  split at h
  · cases h
  · unfold cls at h
    split at h
    · cases h; decide
    · split at h
      · cases h; decide
      · split at h
        · cases h; decide
        · cases h
theorem rcl_P {D : Nat → DD} {n s p : Nat} (w : ∀ k, k < n + 1 → dWf (D k)) (ok : okP D n s p) : rclV D (n + 1) s p = match clP D n s p with
    | none => -1
    | some q => nI q := by
  unfold clP
  rcases e : tk (D n) s p with _ | t
  · exact rcl_old w ok e
  · exact rcl_new w ok e
theorem rfP_P {D : Nat → DD} {n s p : Nat} (w : ∀ k, k < n + 1 → dWf (D k)) (ok : okP D n s p) : rfP D (n + 1) s p = (clP D n s p).isSome := by
  unfold rfP
  rw [rcl_P w ok]
  rcases e : clP D n s p with _ | q
  · rfl
  · have := clP_3 e
    exact decide_eq_true (fun y => by
      have y : nI q = -1 := y
      exact absurd (y ▸ nI_pos' (n := q) (by omega)) (by decide))
theorem tk_o {d : DD} {s p : Nat} (h1 : dO d ≠ some p) (h2 : gv d s ≠ some p) : tk d s p = none := by
  unfold tk
  rw [if_neg h1, if_neg h2]
theorem tk_0 {d : DD} {s p : Nat} (h : gv d s = none) : tk d s p = none := by
  unfold tk
  rw [h]
  split <;> rfl
/-- what the class tells of one STANDING -/
theorem ncl_P {D : Nat → DD} {n s : Nat} {d : DD} (w : ∀ k, k < n + 1 → dWf (D k)) (hd : D n = d) : (ncl D n d s = none ∧ ∀ p, clP D n s p = none) ∨ ∃ p q, ncl D n d s = some (p, q) ∧ p < 12 ∧ clP D n s p = some q ∧ ∀ x, x < p → clP D n s x = none := by
  have wd := w n (by omega)
  rw [hd] at wd
  rcases eg : gv d s with _ | g
  · refine Or.inl ⟨?_, fun p => ?_⟩
    · unfold ncl
      rw [eg]
    · unfold clP
      rw [hd, tk_0 eg]
  · have g12 := (gv_ok wd eg).1
    have cg : dO d ≠ some g := fun z => by
      have h1 := wd.2.2.2.2.2.2.1 g z
      rcases (gv_ok wd eg).2 with e | ⟨e, _⟩
      · exact h1.2.1 e
      · have := wd.2.2.2.2.2.1.mpr (by rw [z]; rfl)
        omega
    have cG : clP D n s g = cls D n s g (dF d) (dT d) := by
      unfold clP gr
      rw [hd, show tk d s g = some (dT d) by unfold tk; rw [if_neg cg, if_pos eg], if_neg cg]
    have cO : ∀ p, p ≠ g → dO d ≠ some p → clP D n s p = none := fun p h1 h2 => by
      unfold clP
      rw [hd, tk_o h2 (fun z => h1 (by rw [eg] at z; injection z with z; exact z.symm))]
    have hb : gb d s = dO d := by
      unfold gb
      rw [eg]
      rfl
    rcases eo : dO d with _ | b
    · have en : ncl D n d s = match cls D n s g (dF d) (dT d) with
        | none => none
        | some q => some (g, q) := by
        unfold ncl
        rw [eg, hb, eo]
        show (match cls D n s g (dF d) (dT d), (none : Option (Nat × Nat)) with
          | none, none => none
          | some w, none => some (g, w)
          | none, some q => some q
          | some w, some q => if g < q.1 then some (g, w) else some q) = _
        cases cls D n s g (dF d) (dT d) <;> rfl
      rcases ec : cls D n s g (dF d) (dT d) with _ | q
      · refine Or.inl ⟨by rw [en, ec], fun p => ?_⟩
        by_cases z : p = g
        · rw [z, cG, ec]
        · exact cO p z (by rw [eo]; exact fun y => by cases y)
      · exact Or.inr ⟨g, q, by rw [en, ec], g12, by rw [cG, ec], fun x hx => cO x (by omega) (by rw [eo]; exact fun y => by cases y)⟩
    · have b12 := (wd.2.2.2.2.2.2.1 b eo).1
      have hbg : b ≠ g := fun z => cg (by rw [eo, z])
      have cB : clP D n s b = cls D n s b (dT d) (dF d) := by
        unfold clP gr
        rw [hd, show tk d s b = some (dF d) by unfold tk; rw [if_pos eo, eg]; rfl, if_pos eo]
      have cO2 : ∀ p, p ≠ g → p ≠ b → clP D n s p = none := fun p h1 h2 => cO p h1 (by rw [eo]; exact fun y => h2 (by injection y with y; exact y.symm))
      have en : ncl D n d s = match cls D n s g (dF d) (dT d), (cls D n s b (dT d) (dF d)).map (fun w => (b, w)) with
        | none, none => none
        | some w, none => some (g, w)
        | none, some q => some q
        | some w, some q => if g < q.1 then some (g, w) else some q := by
        unfold ncl
        rw [eg, hb, eo]
        rfl
      rcases ec : cls D n s g (dF d) (dT d) with _ | q
      · rcases eb : cls D n s b (dT d) (dF d) with _ | q2
        · refine Or.inl ⟨by rw [en, ec, eb]; rfl, fun p => ?_⟩
          by_cases z : p = g
          · rw [z, cG, ec]
          · by_cases y : p = b
            · rw [y, cB, eb]
            · exact cO2 p z y
        · refine Or.inr ⟨b, q2, by rw [en, ec, eb]; rfl, b12, by rw [cB, eb], fun x hx => ?_⟩
          by_cases z : x = g
          · rw [z, cG, ec]
          · exact cO2 x z (by omega)
      · rcases eb : cls D n s b (dT d) (dF d) with _ | q2
        · refine Or.inr ⟨g, q, by rw [en, ec, eb]; rfl, g12, by rw [cG, ec], fun x hx => ?_⟩
          by_cases z : x = b
          · rw [z, cB, eb]
          · exact cO2 x (by omega) z
        · by_cases hlt : g < b
          · exact Or.inr ⟨g, q, by rw [en, ec, eb]; exact if_pos hlt, g12, by rw [cG, ec], fun x hx => cO2 x (by omega) (by omega)⟩
          · exact Or.inr ⟨b, q2, by rw [en, ec, eb]; exact if_neg hlt, b12, by rw [cB, eb], fun x hx => cO2 x (by omega) (by omega)⟩
/-- the same of one STANDING, in the reference's words -/
theorem rfc_N {D : Nat → DD} {n s : Nat} {d : DD} (w : ∀ k, k < n + 1 → dWf (D k)) (ok : okD D n s) (hd : D n = d) : (ncl D n d s = none ∧ rfc D (n + 1) s = none ∧ okD D (n + 1) s) ∨ ∃ p q, ncl D n d s = some (p, q) ∧ rfc D (n + 1) s = some p ∧ rclV D (n + 1) s p = nI q := by
  rcases ncl_P (s := s) w hd with ⟨h1, h2⟩ | ⟨p, q, h1, h2, h3, h4⟩
  · refine Or.inl ⟨h1, ?_, fun p hp k hk t ht => ?_⟩
    · unfold rfc
      exact frW_no (fun p _ hp => by rw [rfP_P w (ok p (by omega)), h2]; rfl)
    · by_cases z : k = n
      · subst z
        have h9 := h2 p
        unfold clP at h9
        rw [ht] at h9
        have h9 : cls D k s p (gr (D k) p) t = none := h9
        unfold cls at h9
        split at h9
        · cases h9
        · split at h9
          · cases h9
          · next c2 =>
            split at h9
            · cases h9
            · next c3 => exact ⟨Decidable.of_not_not c2, Bool.eq_false_iff.mpr c3⟩
      · exact ok p hp k (by omega) t ht
  · refine Or.inr ⟨p, q, h1, ?_, ?_⟩
    · unfold rfc
      exact frW_at (by rw [rfP_P w (ok p h2), h3]; rfl) (Nat.zero_le _) (by omega) (fun x _ hx => by rw [rfP_P w (ok x (by omega)), h4 x hx]; rfl)
    · rw [rcl_P w (ok p h2), h3]
/-- of all OPEN STANDINGS -/
theorem rfs_F {D : Nat → DD} {n : Nat} {d : DD} (w : ∀ k, k < n + 1 → dWf (D k)) (hd : D n = d) : ∀ {m a : Nat}, (∀ s, a ≤ s → s < a + m → okD D n s) → (fcl D n d a m = none ∧ rfs D (n + 1) a m = none ∧ ∀ s, a ≤ s → s < a + m → okD D (n + 1) s) ∨ ∃ s p q, fcl D n d a m = some (s, p, q) ∧ rfs D (n + 1) a m = some s ∧ rfc D (n + 1) s = some p ∧ rclV D (n + 1) s p = nI q := by
  intro m
  induction m with
  | zero => intro a _; exact Or.inl ⟨rfl, rfl, fun s h1 h2 => by omega⟩
  | succ m ih =>
    intro a ok
    have ef : fcl D n d a (m + 1) = match ncl D n d a with
      | some q => some (a, q.1, q.2)
      | none => fcl D n d (a + 1) m := rfl
    have er : rfs D (n + 1) a (m + 1) = if (rfc D (n + 1) a).isSome = true then some a else rfs D (n + 1) (a + 1) m := rfl
    rcases rfc_N w (ok a (Nat.le_refl _) (by omega)) hd with ⟨h1, h2, h3⟩ | ⟨p, q, h1, h2, h3⟩
    · rw [ef, er, h1, h2]
      rcases ih (a := a + 1) (fun s h4 h5 => ok s (by omega) (by omega)) with ⟨g1, g2, g3⟩ | ⟨s, p, q, g1, g2, g3, g4⟩
      · refine Or.inl ⟨g1, g2, fun s h4 h5 => ?_⟩
        by_cases z : s = a
        · rw [z]; exact h3
        · exact g3 s (by omega) (by omega)
      · exact Or.inr ⟨s, p, q, g1, g2, g3, g4⟩
    · exact Or.inr ⟨a, p, q, by rw [ef, h1], by rw [er, h2]; rfl, h2, h3⟩
