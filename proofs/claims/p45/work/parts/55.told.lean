/-! chains told (out of claims/whole, part 90) -/
theorem chL_lt {D : Nat → DD} {s p : Nat} : ∀ n, 1 ≤ (chL D s p n).length ∧ (chL D s p n).length ≤ n + 1 ∧ (chL D s p n).getD ((chL D s p n).length - 1) 0 = ow D s p n := by
  intro n
  induction n with
  | zero => exact ⟨Nat.le_refl _, Nat.le_refl _, rfl⟩
  | succ n ih =>
    rcases e : tk (D n) s p with _ | t
    · rw [chL_n e, ow_n e]
      omega
    · rw [chL_t e, ow_t e]
      have hl : (chL D s p n ++ [t]).length = (chL D s p n).length + 1 := List.length_append
      exact ⟨by omega, by omega, by rw [hl, Nat.add_sub_cancel, getD_app, if_neg (by omega), if_pos rfl]⟩
theorem chL_pre {D : Nat → DD} {s p k : Nat} : ∀ m, (chL D s p k).length ≤ (chL D s p (k + m)).length ∧ ∀ i, i < (chL D s p k).length → (chL D s p (k + m)).getD i 0 = (chL D s p k).getD i 0 := by
  intro m
  induction m with
  | zero => exact ⟨Nat.le_refl _, fun _ _ => rfl⟩
  | succ m ih =>
    obtain ⟨i1, i2⟩ := ih
    rcases e : tk (D (k + m)) s p with _ | t
    · rw [show k + (m + 1) = (k + m) + 1 from rfl, chL_n e]
      exact ⟨i1, i2⟩
    · rw [show k + (m + 1) = (k + m) + 1 from rfl, chL_t e]
      have hl : (chL D s p (k + m) ++ [t]).length = (chL D s p (k + m)).length + 1 := List.length_append
      exact ⟨by omega, fun i hi => by rw [getD_app, if_pos (by omega)]; exact i2 i hi⟩
theorem chn_L {D : Nat → DD} {s p n : Nat} {x : Int32} : ∀ m k, k + m = n → n ≤ 12 → (∀ j, (chL D s p k).length ≤ j → j ≤ (chL D s p n).length → x = nI j → chn D s p x k m (ow D s p k) (chL D s p k).length = ((chL D s p n).getD (j - 1) 0, j)) ∧ ((∀ j, (chL D s p k).length ≤ j → j < (chL D s p n).length → ¬ x = nI j) → chn D s p x k m (ow D s p k) (chL D s p k).length = (ow D s p n, (chL D s p n).length)) := by
  intro m
  induction m with
  | zero =>
    intro k hk hn
    obtain rfl : k = n := by omega
    refine ⟨fun j h1 h2 _ => ?_, fun _ => rfl⟩
    have : j = (chL D s p k).length := by omega
    rw [this, (chL_lt k).2.2]
    rfl
  | succ m ih =>
    intro k hk hn
    have hp := chL_pre (D := D) (s := s) (p := p) (k := k) (n - k)
    rw [show k + (n - k) = n by omega] at hp
    obtain ⟨p1, p2⟩ := hp
    have b1 := (chL_lt (D := D) (s := s) (p := p) k)
    have b2 := (chL_lt (D := D) (s := s) (p := p) n)
    obtain ⟨i1, i2⟩ := ih (k + 1) (by omega) hn
    rw [chn_s]
    by_cases z : nI (chL D s p k).length = x
    · rw [if_pos z]
      refine ⟨fun j h1 h2 h3 => ?_, fun h => ?_⟩
      · have e : (chL D s p k).length = j := (nI_eq (by omega) (by omega)).mp (z.trans h3)
        rw [← e, p2 _ (by omega), b1.2.2]
      · have : ¬ (chL D s p k).length < (chL D s p n).length := fun y => h _ (Nat.le_refl _) y z.symm
        have e : (chL D s p n).length = (chL D s p k).length := by omega
        rw [e]
        have e9 : (chL D s p n).getD ((chL D s p n).length - 1) 0 = (chL D s p k).getD ((chL D s p k).length - 1) 0 := by rw [e]; exact p2 _ (by omega)
        rw [b2.2.2, b1.2.2] at e9
        rw [e9]
    · rw [if_neg z]
      rcases e : tk (D k) s p with _ | t
      · rw [chL_n e, ow_n e] at i1 i2
        exact ⟨i1, i2⟩
      · have hl : (chL D s p k ++ [t]).length = (chL D s p k).length + 1 := List.length_append
        rw [chL_t e, ow_t e, hl] at i1 i2
        refine ⟨fun j h1 h2 h3 => i1 j ?_ h2 h3, fun h => i2 (fun j h1 h2 => h j (by omega) h2)⟩
        rcases Nat.lt_or_ge (chL D s p k).length j with y | y
        · exact y
        · exact absurd (by rw [h3, show j = (chL D s p k).length by omega]) z
