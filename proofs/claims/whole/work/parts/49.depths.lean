/-! Reader: all depths (written by wip/whole/g49.py) -/
theorem zread (X : EX) {h : HP} (F : Fx h) {l n c : Nat} {V : Nat → Prop} {A B : Nat → Nat} {D E : Nat → DD} (t : TpL h l) (k0 : RdP h V n A D c B E) (hVs : ∀ x, 45 ≤ x → x ≤ 72 → V x) : ∀ k, k ≤ 6 → C1 X h l V n D c E k ∧ C2 X h l V n D c E k := by
  intro k
  induction k with
  | zero =>
    intro _
    have z := zone_0 X F t k0
    exact ⟨z, zany X F t k0 (by omega) hVs z⟩
  | succ k ih =>
    intro hk
    have w := ih (by omega)
    have z := zone_s X F t k0 (by omega) w.1 w.2
    exact ⟨z, zany X F t k0 hk hVs z⟩
