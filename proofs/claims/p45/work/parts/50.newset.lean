/-! Standings, made new (written by wip/p45/g50.py) -/
theorem zX6_init (X : EX) {h : HP} {r : Nat} (kr : Is h r 7) (hz : hZ h = r + 1) : Ct X mX6_init 1 1 21 [vR (some r)] h (Rv (wR (nw h 14 21) r 0 (some (r + 1)))) := by
  refine ct_of rfl (Nat.le_of_ble_eq_true rfl) ?_
  refine e_aload_n aX6_init_0 rfl ?_
  refine e_objInit aX6_init_1 kX6_3 w_objI w_objC (Nat.le_of_ble_eq_true rfl) (Nat.le_of_ble_eq_true rfl) ?_
  refine e_aload_n aX6_init_4 rfl ?_
  refine e_bipush (v := 21) aX6_init_5 (by decide) ?_
  refine e_newL aX6_init_7 wa_long (by decide) rfl (Nat.le_of_ble_eq_true rfl) (Nat.le_of_ble_eq_true rfl) (Nat.le_of_ble_eq_true rfl) ?_
  refine e_topR (v := some (r + 1)) (by rw [hz]) ?_
  refine e_putR aX6_init_9 fX6_11 rfl (is_nw kr) (Or.inr ⟨rfl, fun r q => by cases q; rfl⟩) ?_
  refine e_return aX6_init_12 rfl (Nat.le_refl _) (Nat.le_refl _) ?_
  exact ⟨rfl, rfl⟩
