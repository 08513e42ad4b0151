/-! best, hope, rounds: as numbers (written by wip/p45/g97.py) -/
theorem lgc_gt {a b : Int64} : 0 < lg_cmp a b ↔ b < a := by
  unfold lg_cmp
  by_cases z : a > b
  · rw [if_pos z]
    exact ⟨fun _ => z, fun _ => by decide⟩
  · rw [if_neg z]
    refine ⟨fun q => ?_, fun q => absurd q z⟩
    by_cases w : a = b
    · rw [if_pos w] at q
      exact absurd q (by decide)
    · rw [if_neg w] at q
      exact absurd q (by decide)
theorem bs_0 {h : HP} {D : Nat → DD} {n c a : Nat} (hc : c < 3) (wo : ∀ s p, ow D s p n < 3) : ∀ (m k z : Nat), (∀ s, k ≤ s → s < k + m → wuR h s (nI c) 12 = nI (wS D n s c 12)) → a ≤ z → z < k → (∀ s, a ≤ s → s < k → wS D n s c 12 ≤ wS D n z c 12) → ∃ r, bsR h (nI c) 0 k m z (nI (wS D n z c 12)) = r ∧ a ≤ r ∧ r < k + m ∧ ∀ s, a ≤ s → s < k + m → wS D n s c 12 ≤ wS D n r c 12 := by
  intro m
  induction m with
  | zero => intro k z _ h1 h2 h3; exact ⟨z, rfl, h1, h2, h3⟩
  | succ m ih =>
    intro k z O h1 h2 h3
    have wz := w_le (D := D) (n := n) (s := z) (wo z) hc
    have wk := w_le (D := D) (n := n) (s := k) (wo k) hc
    rw [bsR_s, O k (Nat.le_refl _) (by omega)]
    have hi : (if (0 : Int32) = 0 then nI (wS D n z c 12) < nI (wS D n k c 12) else nI (wS D n k c 12) < nI (wS D n z c 12)) ↔ nI (wS D n z c 12) < nI (wS D n k c 12) := iff_of_eq (if_pos rfl)
    by_cases y : wS D n z c 12 < wS D n k c 12
    · rw [if_pos (hi.mpr (nI_lt y (by omega)))]
      obtain ⟨r, g1, g2, g3, g4⟩ := ih (k + 1) k (fun s x1 x2 => O s (by omega) (by omega)) (by omega) (by omega) (fun s x1 x2 => by
        by_cases e : s = k
        · rw [e]; exact Nat.le_refl _
        · have := h3 s x1 (by omega)
          omega)
      exact ⟨r, g1, g2, by omega, fun s x1 x2 => g4 s x1 (by omega)⟩
    · rw [if_neg (fun q => y ((nI_ltI (by omega) (by omega)).mp (hi.mp q)))]
      obtain ⟨r, g1, g2, g3, g4⟩ := ih (k + 1) z (fun s x1 x2 => O s (by omega) (by omega)) h1 (by omega) (fun s x1 x2 => by
        by_cases e : s = k
        · rw [e]; omega
        · exact h3 s x1 (by omega))
      exact ⟨r, g1, g2, by omega, fun s x1 x2 => g4 s x1 (by omega)⟩
theorem bs_1 {h : HP} {D : Nat → DD} {n c a : Nat} (hc : c < 3) (wo : ∀ s p, ow D s p n < 3) : ∀ (m k z : Nat), (∀ s, k ≤ s → s < k + m → wuR h s (nI c) 12 = nI (wS D n s c 12)) → a ≤ z → z < k → (∀ s, a ≤ s → s < k → wS D n z c 12 ≤ wS D n s c 12) → ∃ r, bsR h (nI c) 1 k m z (nI (wS D n z c 12)) = r ∧ a ≤ r ∧ r < k + m ∧ ∀ s, a ≤ s → s < k + m → wS D n r c 12 ≤ wS D n s c 12 := by
  intro m
  induction m with
  | zero => intro k z _ h1 h2 h3; exact ⟨z, rfl, h1, h2, h3⟩
  | succ m ih =>
    intro k z O h1 h2 h3
    have wz := w_le (D := D) (n := n) (s := z) (wo z) hc
    have wk := w_le (D := D) (n := n) (s := k) (wo k) hc
    rw [bsR_s, O k (Nat.le_refl _) (by omega)]
    have hi : (if (1 : Int32) = 0 then nI (wS D n z c 12) < nI (wS D n k c 12) else nI (wS D n k c 12) < nI (wS D n z c 12)) ↔ nI (wS D n k c 12) < nI (wS D n z c 12) := iff_of_eq (if_neg (by decide))
    by_cases y : wS D n k c 12 < wS D n z c 12
    · rw [if_pos (hi.mpr (nI_lt y (by omega)))]
      obtain ⟨r, g1, g2, g3, g4⟩ := ih (k + 1) k (fun s x1 x2 => O s (by omega) (by omega)) (by omega) (by omega) (fun s x1 x2 => by
        by_cases e : s = k
        · rw [e]; exact Nat.le_refl _
        · have := h3 s x1 (by omega)
          omega)
      exact ⟨r, g1, g2, by omega, fun s x1 x2 => g4 s x1 (by omega)⟩
    · rw [if_neg (fun q => y ((nI_ltI (by omega) (by omega)).mp (hi.mp q)))]
      obtain ⟨r, g1, g2, g3, g4⟩ := ih (k + 1) z (fun s x1 x2 => O s (by omega) (by omega)) h1 (by omega) (fun s x1 x2 => by
        by_cases e : s = k
        · rw [e]; omega
        · exact h3 s x1 (by omega))
      exact ⟨r, g1, g2, by omega, fun s x1 x2 => g4 s x1 (by omega)⟩
theorem lgc_le {a b : Int64} : lg_cmp a b ≤ 0 ↔ ¬ b < a := by
  rw [← lgc_gt]
  exact Int32.not_lt.symm
theorem hp_ok {h : HP} {y : Int32} {a q : Nat} {V : Nat → Nat} : ∀ (m k z : Nat) (v : Int64), k + m = 6 → (∀ i, i < 6 → woR h y (a + i * q) q = lN (V i) ∧ V i < 1073741824) → ((k = 0 ∧ v = -1) ∨ (z < k ∧ v = lN (V z) ∧ ∀ i, i < k → V i ≤ V z ∧ (i < z → V i < V z))) → ∃ r, hpR h y a q k m z v = r ∧ r < 6 ∧ ∀ i, i < 6 → V i ≤ V r ∧ (i < r → V i < V r) := by
  intro m
  induction m with
  | zero =>
    intro k z v hk O hz
    rcases hz with ⟨z1, -⟩ | ⟨z1, z2, z3⟩
    · omega
    · exact ⟨z, rfl, by omega, fun i hi => z3 i (by omega)⟩
  | succ m ih =>
    intro k z v hk O hz
    obtain ⟨e, hb⟩ := O k (by omega)
    rw [hpR_s, e]
    rcases hz with ⟨z1, z2⟩ | ⟨z1, z2, z3⟩
    · subst z2
      rw [if_neg (fun w => lgc_le.mp w (Int64.lt_iff_toInt_lt.mpr (by rw [lN_toInt (by omega)]; have : (-1 : Int64).toInt = -1 := rfl; omega)))]
      exact ih (k + 1) k _ (by omega) O (Or.inr ⟨Nat.lt_succ_self k, rfl, fun i hi => by
        obtain rfl : i = k := by omega
        exact ⟨Nat.le_refl _, fun w => absurd w (Nat.lt_irrefl _)⟩⟩)
    · subst z2
      have hbz := (O z (by omega)).2
      by_cases w : V z < V k
      · rw [if_neg (fun x => lgc_le.mp x ((lN_lt (by omega) (by omega)).mpr w))]
        exact ih (k + 1) k _ (by omega) O (Or.inr ⟨Nat.lt_succ_self k, rfl, fun i hi => by
          by_cases e : i = k
          · rw [e]; exact ⟨Nat.le_refl _, fun w => absurd w (Nat.lt_irrefl _)⟩
          · have := (z3 i (by omega)).1
            exact ⟨by omega, fun _ => by omega⟩⟩)
      · rw [if_pos (lgc_le.mpr (fun x => w ((lN_lt (by omega) (by omega)).mp x)))]
        exact ih (k + 1) z _ (by omega) O (Or.inr ⟨by omega, rfl, fun i hi => by
          by_cases e : i = k
          · rw [e]; exact ⟨by omega, fun _ => by omega⟩
          · exact z3 i (by omega)⟩)
/-! rounds -/
theorem tk_gv {d : DD} (w9 : dWf d) {s p : Nat} (h : gv d s = some p) : tk d s p = some (dT d) ∧ gr d p = dF d := by
  have ho : dO d ≠ some p := fun z => by
    have h1 := w9.2.2.2.2.2.2.1 p z
    rcases (gv_ok w9 h).2 with e | ⟨e, _⟩
    · exact h1.2.1 e
    · have := w9.2.2.2.2.2.1.mpr (by rw [z]; rfl)
      omega
  exact ⟨by unfold tk; rw [if_neg ho, if_pos h], by unfold gr; rw [if_neg ho]⟩
theorem tk_gb {d : DD} {s p : Nat} (h : gb d s = some p) : tk d s p = some (dF d) ∧ gr d p = dT d := by
  unfold gb at h
  split at h
  · next hs => exact ⟨by unfold tk; rw [if_pos h, if_pos hs], by unfold gr; rw [if_pos h]⟩
  · cases h
theorem tk_or {d : DD} {s p u : Nat} (h : tk d s p = some u) : (gv d s = some p ∧ u = dT d ∧ gr d p = dF d) ∨ (gb d s = some p ∧ u = dF d ∧ gr d p = dT d) := by
  unfold tk at h
  unfold gr gb
  by_cases ho : dO d = some p
  · rw [if_pos ho] at h
    by_cases hs : (gv d s).isSome = true
    · rw [if_pos hs] at h
      injection h with h
      exact Or.inr ⟨by rw [if_pos hs]; exact ho, h.symm, if_pos ho⟩
    · rw [if_neg hs] at h; cases h
  · rw [if_neg ho] at h
    by_cases hg : gv d s = some p
    · rw [if_pos hg] at h
      injection h with h
      exact Or.inl ⟨hg, h.symm, if_neg ho⟩
    · rw [if_neg hg] at h; cases h
theorem ch_k {D : Nat → DD} {n s p k u : Nat} (ok : okP D n s p) (hk : k < n) (e : tk (D k) s p = some u) : ∃ j, j + 1 < (chL D s p n).length ∧ (chL D s p n).getD j 0 = gr (D k) p ∧ (chL D s p n).getD (j + 1) 0 = u := by
  have hp := chL_pre (D := D) (s := s) (p := p) (k := k + 1) (n - (k + 1))
  rw [show k + 1 + (n - (k + 1)) = n by omega] at hp
  obtain ⟨p1, p2⟩ := hp
  have b := chL_lt (D := D) (s := s) (p := p) k
  rw [chL_t e] at p1 p2
  have hl : (chL D s p k ++ [u]).length = (chL D s p k).length + 1 := List.length_append
  refine ⟨(chL D s p k).length - 1, by omega, ?_, ?_⟩
  · rw [p2 _ (by omega), getD_app, if_pos (by omega), b.2.2]
    exact (ok k hk u e).1
  · rw [show (chL D s p k).length - 1 + 1 = (chL D s p k).length by omega, p2 _ (by omega), getD_app, if_neg (by omega), if_pos rfl]
theorem ch_j {D : Nat → DD} {s p : Nat} : ∀ {n : Nat}, okP D n s p → ∀ j, j + 1 < (chL D s p n).length → ∃ k, k < n ∧ tk (D k) s p = some ((chL D s p n).getD (j + 1) 0) ∧ gr (D k) p = (chL D s p n).getD j 0 := by
  intro n
  induction n with
  | zero => intro _ j hj; exact absurd hj (by show ¬ j + 1 < 1; omega)
  | succ n ih =>
    intro ok j hj
    have ih := ih (ok.le (by omega))
    rcases e : tk (D n) s p with _ | t
    · rw [chL_n e] at hj ⊢
      obtain ⟨k, h1, h2, h3⟩ := ih j hj
      exact ⟨k, by omega, h2, h3⟩
    · have hl : (chL D s p n ++ [t]).length = (chL D s p n).length + 1 := List.length_append
      have b := chL_lt (D := D) (s := s) (p := p) n
      rw [chL_t e] at hj ⊢
      by_cases z : j + 1 < (chL D s p n).length
      · obtain ⟨k, h1, h2, h3⟩ := ih j z
        exact ⟨k, by omega, by rw [getD_app, if_pos z]; exact h2, by rw [getD_app, if_pos (by omega)]; exact h3⟩
      · refine ⟨n, by omega, ?_, ?_⟩
        · rw [getD_app, if_neg z, if_pos (by omega)]; exact e
        · rw [getD_app, if_pos (by omega), show j = (chL D s p n).length - 1 by omega, b.2.2]
          exact (ok n (by omega) t e).1.symm
theorem nd_eq {L : List Nat} (nd : L.Nodup) {i j : Nat} (hi : i < L.length) (hj : j < L.length) (e : L.getD i 0 = L.getD j 0) : i = j := by
  have a1 : L.getD i 0 = L[i]'hi := by rw [List.getD_eq_getElem?_getD, List.getElem?_eq_getElem hi]; rfl
  have a2 : L.getD j 0 = L[j]'hj := by rw [List.getD_eq_getElem?_getD, List.getElem?_eq_getElem hj]; rfl
  exact (List.getElem_inj nd (h₀ := hi) (h₁ := hj)).mp (by rw [← a1, ← a2]; exact e)
/-- where each PICK stands on its chain; a deal that has moved it stands behind -/
def RI (D : Nat → DD) (n s : Nat) (t : RS) (i : Nat → Nat) : Prop := (∀ p, p < 12 → i p < (chL D s p n).length ∧ t.1 p = (chL D s p n).getD (i p) 0) ∧ ∀ k, k < n → ∀ p, p < 12 → (gv (D k) s = some p → btI t.2.1 k = true → ∀ j, j < (chL D s p n).length → (chL D s p n).getD j 0 = dF (D k) → j < i p) ∧ (gb (D k) s = some p → btI t.2.2 k = true → ∀ j, j < (chL D s p n).length → (chL D s p n).getD j 0 = dT (D k) → j < i p)
section RD
variable {D : Nat → DD} {n s : Nat}
theorem mvA_R (hn : n ≤ 12) (w9 : ∀ k, k < n → dWf (D k)) (ok : okD D n s) {t : RS} {i : Nat → Nat} (R : RI D n s t i) {k : Nat} (hk : k < n) : ∃ i2, RI D n s ((mvA (D k) s k t).getD t) i2 ∧ (∀ p, p < 12 → i p ≤ i2 p) ∧ (∀ p, p < 12 → gv (D k) s = some p → t.1 p = dF (D k) → i p + 1 ≤ i2 p) ∧ ((mvA (D k) s k t).isSome = true → ∃ p, p < 12 ∧ i p + 1 < (chL D s p n).length) := by
  have wk := w9 k hk
  rcases e : gv (D k) s with _ | p
  · have em : mvA (D k) s k t = none := by unfold mvA; rw [e]
    rw [em]
    exact ⟨i, R, fun _ _ => Nat.le_refl _, fun p _ h => (by cases h), fun h => (by cases h)⟩
  · have hp := (gv_ok wk e).1
    obtain ⟨e1, e2⟩ := tk_gv wk e
    obtain ⟨j, j1, j2, j3⟩ := ch_k (ok p hp) hk e1
    rw [e2] at j2
    have nd := (chL_I w9 (ok p hp)).1
    obtain ⟨r1, r2⟩ := R.1 p hp
    by_cases z : t.1 p = dF (D k)
    · have hij : i p = j := nd_eq nd r1 (by omega) (by rw [← r2, z, j2])
      have hb : btI t.2.1 k = false := Bool.eq_false_iff.mpr (fun y => by
        have := (R.2 k hk p hp).1 e y j (by omega) j2
        omega)
      have em : mvA (D k) s k t = some (updN t.1 p (dT (D k)), t.2.1 ||| ((1 : Int32) <<< (nI k &&& 31)), t.2.2) := by
        unfold mvA
        rw [e]
        show (if t.1 p = dF (D k) then (if (t.2.1 >>> (nI k &&& 31)) &&& 1 = 0 then some (updN t.1 p (dT (D k)), t.2.1 ||| ((1 : Int32) <<< (nI k &&& 31)), t.2.2) else none) else none : Option RS) = _
        rw [if_pos z, if_pos (by rw [btI_and1 (by omega), hb]; rfl)]
      rw [em]
      refine ⟨upF i p (j + 1), ⟨fun q hq => ?_, fun k2 hk2 q hq => ⟨fun g1 g2 => ?_, fun g1 g2 => ?_⟩⟩, fun q hq => ?_, fun q hq g1 g2 => ?_, fun _ => ⟨p, hp, by omega⟩⟩
      · by_cases y : q = p
        · rw [y, upF_s]
          exact ⟨j1, (if_pos rfl).trans j3.symm⟩
        · rw [upF_o y]
          exact ⟨(R.1 q hq).1, (if_neg y).trans (R.1 q hq).2⟩
      · have g2 : btI (t.2.1 ||| ((1 : Int32) <<< (nI k &&& 31))) k2 = true := g2
        rw [bt_or1 (by omega) (by omega)] at g2
        intro j9 h9 h10
        by_cases y : q = p
        · rw [y, upF_s]
          rw [y] at h9 h10 g1
          by_cases x : k2 = k
          · rw [x] at h10
            have := nd_eq nd h9 (show j < _ by omega) (h10.trans j2.symm)
            omega
          · rw [if_neg x] at g2
            have := (R.2 k2 hk2 p hp).1 g1 g2 j9 h9 h10
            omega
        · rw [upF_o y]
          by_cases x : k2 = k
          · rw [x, e] at g1
            injection g1 with g1
            exact absurd g1.symm y
          · rw [if_neg x] at g2
            exact (R.2 k2 hk2 q hq).1 g1 g2 j9 h9 h10
      · intro j9 h9 h10
        have := (R.2 k2 hk2 q hq).2 g1 g2 j9 h9 h10
        by_cases y : q = p
        · rw [y, upF_s]
          rw [y] at this
          omega
        · rw [upF_o y]
          exact this
      · by_cases y : q = p
        · rw [y, upF_s]; omega
        · rw [upF_o y]; exact Nat.le_refl _
      · injection g1 with g1
        rw [← g1, upF_s]
        omega
    · have em : mvA (D k) s k t = none := by
        unfold mvA
        rw [e]
        exact if_neg z
      rw [em]
      exact ⟨i, R, fun _ _ => Nat.le_refl _, fun q hq g1 g2 => (by injection g1 with g1; rw [← g1] at g2; exact absurd g2 z), fun h => (by cases h)⟩
theorem mvB_R (hn : n ≤ 12) (w9 : ∀ k, k < n → dWf (D k)) (ok : okD D n s) {t : RS} {i : Nat → Nat} (R : RI D n s t i) {k : Nat} (hk : k < n) : ∃ i2, RI D n s ((mvB (D k) s k t).getD t) i2 ∧ (∀ p, p < 12 → i p ≤ i2 p) ∧ (∀ p, p < 12 → gb (D k) s = some p → t.1 p = dT (D k) → i p + 1 ≤ i2 p) ∧ ((mvB (D k) s k t).isSome = true → ∃ p, p < 12 ∧ i p + 1 < (chL D s p n).length) := by
  have wk := w9 k hk
  rcases e : gb (D k) s with _ | p
  · have em : mvB (D k) s k t = none := by unfold mvB; rw [e]
    rw [em]
    exact ⟨i, R, fun _ _ => Nat.le_refl _, fun p _ h => (by cases h), fun h => (by cases h)⟩
  · have hp := (gb_ok wk e).1
    obtain ⟨e1, e2⟩ := tk_gb e
    obtain ⟨j, j1, j2, j3⟩ := ch_k (ok p hp) hk e1
    rw [e2] at j2
    have nd := (chL_I w9 (ok p hp)).1
    obtain ⟨r1, r2⟩ := R.1 p hp
    by_cases z : t.1 p = dT (D k)
    · have hij : i p = j := nd_eq nd r1 (by omega) (by rw [← r2, z, j2])
      have hb : btI t.2.2 k = false := Bool.eq_false_iff.mpr (fun y => by
        have := (R.2 k hk p hp).2 e y j (by omega) j2
        omega)
      have em : mvB (D k) s k t = some (updN t.1 p (dF (D k)), t.2.1, t.2.2 ||| ((1 : Int32) <<< (nI k &&& 31))) := by
        unfold mvB
        rw [e]
        show (if t.1 p = dT (D k) then (if (t.2.2 >>> (nI k &&& 31)) &&& 1 = 0 then some (updN t.1 p (dF (D k)), t.2.1, t.2.2 ||| ((1 : Int32) <<< (nI k &&& 31))) else none) else none : Option RS) = _
        rw [if_pos z, if_pos (by rw [btI_and1 (by omega), hb]; rfl)]
      rw [em]
      refine ⟨upF i p (j + 1), ⟨fun q hq => ?_, fun k2 hk2 q hq => ⟨fun g1 g2 => ?_, fun g1 g2 => ?_⟩⟩, fun q hq => ?_, fun q hq g1 g2 => ?_, fun _ => ⟨p, hp, by omega⟩⟩
      · by_cases y : q = p
        · rw [y, upF_s]
          exact ⟨j1, (if_pos rfl).trans j3.symm⟩
        · rw [upF_o y]
          exact ⟨(R.1 q hq).1, (if_neg y).trans (R.1 q hq).2⟩
      · intro j9 h9 h10
        have := (R.2 k2 hk2 q hq).1 g1 g2 j9 h9 h10
        by_cases y : q = p
        · rw [y, upF_s]
          rw [y] at this
          omega
        · rw [upF_o y]
          exact this
      · have g2 : btI (t.2.2 ||| ((1 : Int32) <<< (nI k &&& 31))) k2 = true := g2
        rw [bt_or1 (by omega) (by omega)] at g2
        intro j9 h9 h10
        by_cases y : q = p
        · rw [y, upF_s]
          rw [y] at h9 h10 g1
          by_cases x : k2 = k
          · rw [x] at h10
            have := nd_eq nd h9 (show j < _ by omega) (h10.trans j2.symm)
            omega
          · rw [if_neg x] at g2
            have := (R.2 k2 hk2 p hp).2 g1 g2 j9 h9 h10
            omega
        · rw [upF_o y]
          by_cases x : k2 = k
          · rw [x, e] at g1
            injection g1 with g1
            exact absurd g1.symm y
          · rw [if_neg x] at g2
            exact (R.2 k2 hk2 q hq).2 g1 g2 j9 h9 h10
      · by_cases y : q = p
        · rw [y, upF_s]; omega
        · rw [upF_o y]; exact Nat.le_refl _
      · injection g1 with g1
        rw [← g1, upF_s]
        omega
    · have em : mvB (D k) s k t = none := by
        unfold mvB
        rw [e]
        exact if_neg z
      rw [em]
      exact ⟨i, R, fun _ _ => Nat.le_refl _, fun q hq g1 g2 => (by injection g1 with g1; rw [← g1] at g2; exact absurd g2 z), fun h => (by cases h)⟩
/-- one round, as far as the deals σ 0 .. -/
theorem goR_R (hn : n ≤ 12) (w9 : ∀ k, k < n → dWf (D k)) (ok : okD D n s) {σ : Nat → Nat} {t : RS} {i : Nat → Nat} (R : RI D n s t i) : ∀ m, (∀ a, a < m → σ a < n) → ∃ i2, RI D n s (goR D s σ m t).1 i2 ∧ (∀ p, p < 12 → i p ≤ i2 p) ∧ (∀ a, a < m → ∀ p, p < 12 → (gv (D (σ a)) s = some p → dF (D (σ a)) = (chL D s p n).getD (i p) 0 → i p + 1 ≤ i2 p) ∧ (gb (D (σ a)) s = some p → dT (D (σ a)) = (chL D s p n).getD (i p) 0 → i p + 1 ≤ i2 p)) ∧ ((goR D s σ m t).2 = true → ∃ p, p < 12 ∧ i p + 1 < (chL D s p n).length) := by
  intro m
  induction m with
  | zero => intro _; exact ⟨i, R, fun _ _ => Nat.le_refl _, fun a ha => absurd ha (Nat.not_lt_zero a), fun h => (by cases h)⟩
  | succ m ih =>
    intro hσ
    obtain ⟨i1, R1, m1, s1, v1⟩ := ih (fun a ha => hσ a (by omega))
    have hk := hσ m (by omega)
    obtain ⟨i2, R2, m2, s2, v2⟩ := mvA_R hn w9 ok R1 hk
    obtain ⟨i3, R3, m3, s3, v3⟩ := mvB_R hn w9 ok R2 hk
    have ge : ∀ p, p < 12 → i p ≤ i3 p := fun p hp => by have := m1 p hp; have := m2 p hp; have := m3 p hp; omega
    refine ⟨i3, R3, ge, fun a ha p hp => ?_, fun h => ?_⟩
    · by_cases y : a = m
      · subst y
        refine ⟨fun g1 g2 => ?_, fun g1 g2 => ?_⟩
        · have b1 := m1 p hp
          have b3 := m3 p hp
          by_cases x : i1 p = i p
          · have := s2 p hp g1 (by rw [(R1.1 p hp).2, x]; exact g2.symm)
            omega
          · have b2 := m2 p hp
            omega
        · have b1 := m1 p hp
          have b2 := m2 p hp
          have b3 := m3 p hp
          by_cases x : i2 p = i p
          · have := s3 p hp g1 (by rw [(R2.1 p hp).2, x]; exact g2.symm)
            omega
          · omega
      · have q := s1 a (by omega) p hp
        have b2 := m2 p hp
        have b3 := m3 p hp
        exact ⟨fun g1 g2 => by have := q.1 g1 g2; omega, fun g1 g2 => by have := q.2 g1 g2; omega⟩
    · have h : ((goR D s σ m t).2 || ((mvA (D (σ m)) s (σ m) (goR D s σ m t).1).isSome || (mvB (D (σ m)) s (σ m) ((mvA (D (σ m)) s (σ m) (goR D s σ m t).1).getD (goR D s σ m t).1)).isSome)) = true := h
      rw [Bool.or_eq_true, Bool.or_eq_true] at h
      rcases h with h | h | h
      · exact v1 h
      · obtain ⟨p, hp, e⟩ := v2 h
        have := m1 p hp
        exact ⟨p, hp, by omega⟩
      · obtain ⟨p, hp, e⟩ := v3 h
        have := m1 p hp
        have := m2 p hp
        exact ⟨p, hp, by omega⟩
theorem crR_B (hn : n ≤ 12) (w9 : ∀ k, k < n → dWf (D k)) (ok : okD D n s) {σ : Nat → Nat} (hσ : ∀ a, a < n → σ a < n) (hs : ∀ k, k < n → ∃ a, a < n ∧ σ a = k) {B : Nat} (hB : ∀ p, p < 12 → (chL D s p n).length ≤ B) : ∀ (m r : Nat) (t : RS) (i : Nat → Nat), RI D n s t i → (∀ p, p < 12 → r ≤ i p ∨ i p + 1 = (chL D s p n).length) → r + 1 ≤ B → 1 ≤ crR D s σ n m (r + 1) t ∧ crR D s σ n m (r + 1) t ≤ B := by
  intro m
  induction m with
  | zero => intro r t i _ _ h; exact ⟨Nat.succ_pos r, h⟩
  | succ m ih =>
    intro r t i R hr hB2
    obtain ⟨i2, R2, m2, s2, v2⟩ := goR_R hn w9 ok (σ := σ) R n hσ
    rw [crR_s]
    by_cases y : (goR D s σ n t).2 = true
    · rw [if_pos y]
      obtain ⟨p, hp, e⟩ := v2 y
      have hb := hB p hp
      refine ih (r + 1) _ i2 R2 (fun q hq => ?_) (by
        rcases hr p hp with z | z
        · omega
        · omega)
      obtain ⟨x1, x2⟩ := R2.1 q hq
      have x3 := m2 q hq
      by_cases z : i q + 1 < (chL D s q n).length
      · obtain ⟨k, k1, k2, k3⟩ := ch_j (ok q hq) (i q) z
        obtain ⟨a, a1, a2⟩ := hs k k1
        have q9 := s2 a a1 q hq
        rw [a2] at q9
        have : i q + 1 ≤ i2 q := by
          rcases tk_or k2 with ⟨g1, g2, g3⟩ | ⟨g1, g2, g3⟩
          · exact q9.1 g1 (g3.symm.trans k3)
          · exact q9.2 g1 (g3.symm.trans k3)
        rcases hr q hq with w | w
        · exact Or.inl (by omega)
        · omega
      · exact Or.inr (by omega)
    · rw [if_neg y]
      exact ⟨Nat.succ_pos r, hB2⟩
theorem rounds_ok (hn : n ≤ 12) (w9 : ∀ k, k < n → dWf (D k)) (ok : okD D n s) {σ : Nat → Nat} (hσ : ∀ a, a < n → σ a < n) (hs : ∀ k, k < n → ∃ a, a < n ∧ σ a = k) : 1 ≤ crR D s σ n 24 1 rd0 ∧ crR D s σ n 24 1 rd0 ≤ n + 1 := by
  refine crR_B hn w9 ok hσ hs (B := n + 1) (fun p hp => (chL_lt n).2.1) 24 0 rd0 (fun _ => 0) ⟨fun p hp => ⟨(chL_lt n).1, ?_⟩, fun k hk p hp => ⟨fun _ g => ?_, fun _ g => ?_⟩⟩ (fun p hp => Or.inl (Nat.le_refl 0)) (by omega)
  · exact (chL_I w9 (ok p hp)).2.2.2.1.symm
  · have g : btI 0 k = true := g
    rw [bt0 k (by omega)] at g
    cases g
  · have g : btI 0 k = true := g
    rw [bt0 k (by omega)] at g
    cases g
end RD
