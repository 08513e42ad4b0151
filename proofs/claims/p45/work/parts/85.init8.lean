/-! constructors: RolledPicks (written by wip/p45/g85.py) -/
theorem zstartP (X : EX) {h : HP} {k : Nat} (P : Pz k h) (hk40 : 40 ≤ k) (hr : hR h 38 0 = some 39) : Ct X mX2_startAll 0 0 0 [vR (some 38), vI (nI 0), vI (nI 1296)] h (Rv (rwR h (rng 0 1296 (fun _ _ => 9586980) (hI h 39)))) := by
  refine ct_of rfl (Nat.le_of_ble_eq_true rfl) ?_
  have loop : ∀ (m : Nat) (i : Nat), i + m = 1296 → Ev X mX2_startAll 0 0 0 (Rv (rwR h (rng 0 1296 (fun _ _ => 9586980) (hI h 39)))) 0 0 2 [(0, some (vR (some 38))), (1, some (vI (nI 0))), (2, some (vI (nI 1296))), (3, some (vI (nI i)))] [] (rwR h (rng 0 i (fun _ _ => 9586980) (hI h 39))) := by
    intro m
    induction m with
    | zero =>
      intro i hk
      have k38 : Is (rwR h (rng 0 i (fun _ _ => 9586980) (hI h 39))) 38 3 := P.is9 (by decide) (by omega) rfl
      have k39 : Is (rwR h (rng 0 i (fun _ _ => 9586980) (hI h 39))) 39 13 := P.is9 (by decide) (by omega) rfl
      have n39 : hN (rwR h (rng 0 i (fun _ _ => 9586980) (hI h 39))) 39 = 1296 := P.n9 (by decide) (by omega) rfl
      have r38 : hR (rwR h (rng 0 i (fun _ _ => 9586980) (hI h 39))) 38 0 = some 39 := hr
      refine e_iload_n aX2_startAll_2 rfl ?_
      refine e_iload_n aX2_startAll_3 rfl ?_
      refine e_icmp_ge aX2_startAll_4 (fun c4 => ?_) (fun c4 => ?_)
      · -- 4: taken
        refine e_return aX2_startAll_21 rfl (Nat.le_refl _) (Nat.le_refl _) ?_
        obtain rfl : i = 1296 := by omega
        exact ⟨rfl, rfl⟩
      · -- 4: not taken
        exact absurd (nI_le (a := 1296) (b := i) (by omega) (by omega)) c4
    | succ m ih =>
      intro i hk
      have k38 : Is (rwR h (rng 0 i (fun _ _ => 9586980) (hI h 39))) 38 3 := P.is9 (by decide) (by omega) rfl
      have k39 : Is (rwR h (rng 0 i (fun _ _ => 9586980) (hI h 39))) 39 13 := P.is9 (by decide) (by omega) rfl
      have n39 : hN (rwR h (rng 0 i (fun _ _ => 9586980) (hI h 39))) 39 = 1296 := P.n9 (by decide) (by omega) rfl
      have r38 : hR (rwR h (rng 0 i (fun _ _ => 9586980) (hI h 39))) 38 0 = some 39 := hr
      refine e_iload_n aX2_startAll_2 rfl ?_
      refine e_iload_n aX2_startAll_3 rfl ?_
      refine e_icmp_ge aX2_startAll_4 (fun c4 => ?_) (fun c4 => ?_)
      · -- 4: taken
        exact absurd c4 (nI_ge (a := i) (b := 1296) (by omega) (by decide))
      · -- 4: not taken
        refine e_aload_n aX2_startAll_7 rfl ?_
        refine e_getRF aX2_startAll_8 fX2_9 rfl k38 r38 ?_
        refine e_iload_n aX2_startAll_11 rfl ?_
        refine e_ldc aX2_startAll_12 lX2_15 ?_
        refine e_iastoreF aX2_startAll_14 k39 n39 (vin (N := 1296) (by omega)) ?_
        rw [cl (n := i) (by omega)]
        refine e_hp (h2 := (rwR h (rng 0 (i + 1) (fun _ _ => 9586980) (hI h 39)))) (rwR_w (rng_s (Nat.zero_le i) _ _)) ?_
        refine e_iinc aX2_startAll_15 rfl rfl (Nat.le_of_ble_eq_true rfl) ?_
        refine e_goto aX2_startAll_18 ?_
        refine e_ls (ls' := [(0, some (vR (some 38))), (1, some (vI (nI 0))), (2, some (vI (nI 1296))), (3, some (vI (nI (i + 1))))]) ⟨rfl, rfl, rfl, congrArg (fun x => some (vI x)) (nI_1 i), trivial⟩ ?_
        exact ih (i + 1) (by omega)
  refine e_iload_n aX2_startAll_0 rfl ?_
  refine e_istore_n aX2_startAll_1 (Nat.le_of_ble_eq_true rfl) ?_
  refine e_ls (ls' := [(0, some (vR (some 38))), (1, some (vI (nI 0))), (2, some (vI (nI 1296))), (3, some (vI (nI 0)))]) ⟨rfl, rfl, rfl, rfl, trivial⟩ ?_
  refine e_hp (h2 := rwR h (rng 0 0 (fun _ _ => 9586980) (hI h 39))) (rwR_0 (rng_0 _ _ _)) ?_
  exact loop 1296 0 rfl
/-- the pile's Books; the sheets -/
def plI (h : HP) : Nat → HP
  | 0 => h
  | k + 1 => wR (bk0 (nwk (77 + 4 * k) (plI h k) 1 0) (77 + 4 * k)) 37 k (some (77 + 4 * k))
def shI (h : HP) : Nat → HP
  | 0 => h
  | k + 1 => wR (wI (wR (nwk (102 + 2 * k) (nwk (101 + 2 * k) (shI h k) 6 0) 14 40) (101 + 2 * k) 0 (some (102 + 2 * k))) (101 + 2 * k) 1 (-1)) 73 k (some (101 + 2 * k))
theorem pl_T : ∀ k, k < 6 → N0 (77 + 4 * k) = 0 ∧ (T0 (77 + 4 * k) = 1 ∧ T0 (77 + 4 * k + 1) = 17 ∧ N0 (77 + 4 * k + 1) = 12 ∧ T0 (77 + 4 * k + 2) = 13 ∧ N0 (77 + 4 * k + 2) = 4 ∧ T0 (77 + 4 * k + 3) = 13 ∧ N0 (77 + 4 * k + 3) = 3) := by decide
theorem sh_T : ∀ k, k < 4 → N0 (101 + 2 * k) = 0 ∧ (T0 (101 + 2 * k) = 6 ∧ T0 (101 + 2 * k + 1) = 14 ∧ N0 (101 + 2 * k + 1) = 40) := by decide
theorem plI_P {h : HP} (P : Pz 77 h) : ∀ k, k ≤ 6 → Pz (77 + 4 * k) (plI h k) := by
  intro k
  induction k with
  | zero => exact fun _ => P
  | succ k ih =>
    intro hk
    have q := pl_T k (by omega)
    exact (bk0_P ((ih (by omega)).n q.2.1 q.1) q.2).r
theorem shI_P {h : HP} (P : Pz 101 h) : ∀ k, k ≤ 4 → Pz (101 + 2 * k) (shI h k) := by
  intro k
  induction k with
  | zero => exact fun _ => P
  | succ k ih =>
    intro hk
    have q := sh_T k (by omega)
    have h9 := (((ih (by omega)).n q.2.1 q.1).n q.2.2.1 q.2.2.2)
    rw [show 101 + 2 * k + 1 = 102 + 2 * k by omega] at h9
    rw [show 101 + 2 * (k + 1) = 102 + 2 * k + 1 by omega]
    exact h9
theorem bk0_R {h : HP} {r a i : Nat} (ha : a < r) : hR (bk0 h r) a i = hR h a i := (up2_a (by omega)).trans ((if_neg (by omega)).trans ((up2_a (by omega)).trans ((if_neg (by omega)).trans ((up2_a (by omega)).trans (if_neg (by omega))))))
theorem plI_R {h : HP} {a i : Nat} (ha : a < 77) (h7 : a ≠ 37) : ∀ k, hR (plI h k) a i = hR h a i := by
  intro k
  induction k with
  | zero => rfl
  | succ k ih => exact (up2_a h7).trans ((bk0_R (by omega)).trans ((if_neg (by omega)).trans ih))
theorem shI_R {h : HP} {a i : Nat} (ha : a < 101) (h7 : a ≠ 73) : ∀ k, hR (shI h k) a i = hR h a i := by
  intro k
  induction k with
  | zero => rfl
  | succ k ih => exact (up2_a h7).trans ((up2_a (by omega)).trans ((if_neg (by omega)).trans ((if_neg (by omega)).trans ih)))
def c1H (h : HP) : HP := wR (bk0 (nwk 33 h 1 0) 33) 32 0 (some 33)
def c2H (h : HP) : HP := wR (nwk 37 (c1H h) 16 6) 32 1 (some 37)
def c3H (h : HP) : HP := wR (wR (nwk 39 (nwk 38 (c2H h) 3 0) 13 1296) 38 0 (some 39)) 32 3 (some 38)
def c4H (h : HP) : HP := wR (spH (rdI (nwk 40 (c3H h) 4 0)) 14) 32 4 (some 40)
def c5H (h : HP) : HP := wR (nwk 74 (wR (nwk 73 (c4H h) 18 4) 32 5 (some 73)) 17 4) 32 6 (some 74)
def c6H (h : HP) : HP := wR (wI (wI (wI (nwk 75 (c5H h) 13 3) 75 0 (-1)) 75 1 (-1)) 75 2 (-1)) 32 7 (some 75)
def c7H (h : HP) : HP := wR (nwk 76 (c6H h) 13 8) 32 8 (some 76)
def c8H (h : HP) : HP := shI (plI (c7H h) 6) 4
def c9H (h : HP) : HP := rwR (c8H h) (rng 0 1296 (fun _ _ => 9586980) (hI (c8H h) 39))
theorem c4_P {h : HP} (P : Pz 33 h) : Pz 73 (c4H h) := by
  have P1 : Pz 37 (c1H h) := bk0_P (r := 33) (P.n rfl rfl) ⟨rfl, rfl, rfl, rfl, rfl, rfl, rfl⟩
  have P3 : Pz 40 (c3H h) := ((P1.n (t := 16) (n := 6) rfl rfl).n (t := 3) (n := 0) rfl rfl).n (t := 13) (n := 1296) rfl rfl
  exact spH_P (rdI_P (P3.n (t := 4) (n := 0) rfl rfl)) 14 (Nat.le_refl _)
theorem c7_P {h : HP} (P : Pz 33 h) : Pz 77 (c7H h) := ((((c4_P P).n (t := 18) (n := 4) rfl rfl).n (t := 17) (n := 4) rfl rfl).n (t := 13) (n := 3) rfl rfl).n (t := 13) (n := 8) rfl rfl
theorem c8_P {h : HP} (P : Pz 33 h) : Pz 109 (c8H h) := shI_P (plI_P (c7_P P) 6 (Nat.le_refl _)) 4 (Nat.le_refl _)
theorem zX8_init (X : EX) {h : HP} (P0 : Pz 33 h) : Ct X mX8_init 3 78 3200 [vR (some 32)] h (Rv (c9H h)) := by
  refine ct_of rfl (Nat.le_of_ble_eq_true rfl) ?_
  have lsh : ∀ (m i : Nat), i + m = 4 → Ev X mX8_init 3 78 3200 (Rv (c9H h)) (68 + 2 * i) (1959 + 43 * i) 118 [(0, some (vR (some 32))), (1, some (vI (nI i)))] [] (shI (plI (c7H h) 6) i) := by
    intro m
    induction m with
    | zero =>
      intro i hk
      have P : Pz (101 + 2 * i) (shI (plI (c7H h) 6) i) := shI_P (plI_P (c7_P P0) 6 (Nat.le_refl _)) i (by omega)
      have k32 : Is (shI (plI (c7H h) 6) i) 32 9 := P.is9 (by decide) (by omega) rfl
      have r73 : hR (shI (plI (c7H h) 6) i) 32 5 = some 73 := (shI_R (by decide) (by decide) i).trans ((plI_R (by decide) (by decide) 6).trans rfl)
      have r38 : hR (shI (plI (c7H h) 6) i) 32 3 = some 38 := (shI_R (by decide) (by decide) i).trans ((plI_R (by decide) (by decide) 6).trans rfl)
      refine e_iload_n aX8_init_118 rfl ?_
      refine e_iconst (v := 4) aX8_init_119 (by decide) ?_
      refine e_icmp_ge aX8_init_120 (fun c120 => ?_) (fun c120 => ?_)
      · -- 120: taken
        obtain rfl : i = 4 := by omega
        refine e_aload_n aX8_init_142 rfl ?_
        refine e_getRF aX8_init_143 fX8_23 rfl k32 r38 ?_
        refine e_iconst (v := 0) aX8_init_146 (by decide) ?_
        refine e_sipush (v := 1296) aX8_init_147 (by decide) ?_
        refine e_invvV aX8_init_150 kX8_54 (zstartP X P (by decide) ((shI_R (by decide) (by decide) 4).trans ((plI_R (by decide) (by decide) 6).trans rfl))) rfl rfl (P.is9 (by decide) (by decide) rfl) (Nat.le_of_ble_eq_true rfl) (Nat.le_of_ble_eq_true rfl) (by decide) (by decide) (Nat.le_of_ble_eq_true rfl) ?_
        refine e_return aX8_init_153 rfl (by omega) (by omega) ?_
        exact ⟨rfl, rfl⟩
      · -- 120: not taken
        exact absurd (nI_le (a := 4) (b := i) (by omega) (by omega)) c120
    | succ m ih =>
      intro i hk
      have q := sh_T i (by omega)
      have P : Pz (101 + 2 * i) (shI (plI (c7H h) 6) i) := shI_P (plI_P (c7_P P0) 6 (Nat.le_refl _)) i (by omega)
      have k32 : Is (shI (plI (c7H h) 6) i) 32 9 := P.is9 (by decide) (by omega) rfl
      have r73 : hR (shI (plI (c7H h) 6) i) 32 5 = some 73 := (shI_R (by decide) (by decide) i).trans ((plI_R (by decide) (by decide) 6).trans rfl)
      have r38 : hR (shI (plI (c7H h) 6) i) 32 3 = some 38 := (shI_R (by decide) (by decide) i).trans ((plI_R (by decide) (by decide) 6).trans rfl)
      refine e_iload_n aX8_init_118 rfl ?_
      refine e_iconst (v := 4) aX8_init_119 (by decide) ?_
      refine e_icmp_ge aX8_init_120 (fun c120 => ?_) (fun c120 => ?_)
      · -- 120: taken
        exact absurd c120 (nI_ge (a := i) (b := 4) (by omega) (by decide))
      · -- 120: not taken
        refine e_aload_n aX8_init_123 rfl ?_
        refine e_getRF aX8_init_124 fX8_36 rfl k32 r73 ?_
        refine e_iload_n aX8_init_127 rfl ?_
        refine e_new aX8_init_128 nX8_34 (by omega) (show 1959 + 43 * i + 3 ≤ 3200 by omega) ?_
        refine e_topR (v := some (101 + 2 * i)) (congrArg some P.1) ?_
        refine e_hp (h2 := nwk (101 + 2 * i) _ 6 0) (nwk_e P.1) ?_
        refine e_pz (P.n q.2.1 q.1) ?_
        intro P
        refine e_dup aX8_init_131 rfl ?_
        refine e_inviN aX8_init_132 kX8_53 (zX5_init X (r := 101 + 2 * i) P (by omega) q.2) rfl rfl (Nat.le_of_ble_eq_true rfl) (Nat.le_of_ble_eq_true rfl) (by omega) (show 1959 + 43 * i + 3 + 40 ≤ 3200 by omega) (Nat.le_of_ble_eq_true rfl) ?_
        rintro v h2 ⟨rfl, rfl⟩
        refine e_hp (h2 := wI (wR (nwk (102 + 2 * i) (nwk (101 + 2 * i) (shI (plI (c7H h) 6) i) 6 0) 14 40) (101 + 2 * i) 0 (some (102 + 2 * i))) (101 + 2 * i) 1 (-1)) (by rw [show 101 + 2 * i + 1 = 102 + 2 * i by omega]) ?_
        have P2 := P.n q.2.2.1 q.2.2.2
        rw [show 101 + 2 * i + 1 = 102 + 2 * i by omega] at P2
        refine e_pz (k := 102 + 2 * i + 1) P2.r.i ?_
        intro P
        refine e_aastoreF (t := 18) aX8_init_135 (P.is9 (by decide) (by omega) rfl) (by decide) (by decide) (P.is9 (by omega) (by omega) q.2.1) (P.n9 (by decide) (by omega) rfl) (vin (N := 4) (by omega)) ?_
        rw [cl (n := i) (by omega)]
        refine e_iinc aX8_init_136 rfl rfl (Nat.le_of_ble_eq_true rfl) ?_
        refine e_goto aX8_init_139 ?_
        refine e_ls (ls' := [(0, some (vR (some 32))), (1, some (vI (nI (i + 1))))]) ⟨rfl, congrArg (fun x => some (vI x)) (nI_1 i), trivial⟩ ?_
        exact ih (i + 1) (by omega)
  have lpl : ∀ (m i : Nat), i + m = 6 → Ev X mX8_init 3 78 3200 (Rv (c9H h)) (44 + 4 * i) (1809 + 25 * i) 91 [(0, some (vR (some 32))), (1, some (vI (nI i)))] [] (plI (c7H h) i) := by
    intro m
    induction m with
    | zero =>
      intro i hk
      have P : Pz (77 + 4 * i) (plI (c7H h) i) := plI_P (c7_P P0) i (by omega)
      have k32 : Is (plI (c7H h) i) 32 9 := P.is9 (by decide) (by omega) rfl
      have r37 : hR (plI (c7H h) i) 32 1 = some 37 := (plI_R (by decide) (by decide) i).trans rfl
      refine e_iload_n aX8_init_91 rfl ?_
      refine e_bipush (v := 6) aX8_init_92 (by decide) ?_
      refine e_icmp_ge aX8_init_94 (fun c94 => ?_) (fun c94 => ?_)
      · -- 94: taken
        refine e_iconst (v := 0) aX8_init_116 (by decide) ?_
        refine e_istore_n aX8_init_117 (Nat.le_of_ble_eq_true rfl) ?_
        obtain rfl : i = 6 := by omega
        refine e_ls (ls' := [(0, some (vR (some 32))), (1, some (vI (nI 0)))]) ⟨rfl, rfl, trivial⟩ ?_
        exact lsh 4 0 rfl
      · -- 94: not taken
        exact absurd (nI_le (a := 6) (b := i) (by omega) (by omega)) c94
    | succ m ih =>
      intro i hk
      have q := pl_T i (by omega)
      have P : Pz (77 + 4 * i) (plI (c7H h) i) := plI_P (c7_P P0) i (by omega)
      have k32 : Is (plI (c7H h) i) 32 9 := P.is9 (by decide) (by omega) rfl
      have r37 : hR (plI (c7H h) i) 32 1 = some 37 := (plI_R (by decide) (by decide) i).trans rfl
      refine e_iload_n aX8_init_91 rfl ?_
      refine e_bipush (v := 6) aX8_init_92 (by decide) ?_
      refine e_icmp_ge aX8_init_94 (fun c94 => ?_) (fun c94 => ?_)
      · -- 94: taken
        exact absurd c94 (nI_ge (a := i) (b := 6) (by omega) (by decide))
      · -- 94: not taken
        refine e_aload_n aX8_init_97 rfl ?_
        refine e_getRF aX8_init_98 fX8_16 rfl k32 r37 ?_
        refine e_iload_n aX8_init_101 rfl ?_
        refine e_new aX8_init_102 nX8_7 (by omega) (show 1809 + 25 * i + 6 ≤ 3200 by omega) ?_
        refine e_topR (v := some (77 + 4 * i)) (congrArg some P.1) ?_
        refine e_hp (h2 := nwk (77 + 4 * i) _ 1 0) (nwk_e P.1) ?_
        refine e_pz (P.n q.2.1 q.1) ?_
        intro P
        refine e_dup aX8_init_105 rfl ?_
        refine e_inviN aX8_init_106 kX8_9 (zX0_init X (r := 77 + 4 * i) P (by omega) q.2) rfl rfl (Nat.le_of_ble_eq_true rfl) (Nat.le_of_ble_eq_true rfl) (by omega) (show 1809 + 25 * i + 6 + 19 ≤ 3200 by omega) (Nat.le_of_ble_eq_true rfl) ?_
        rintro v h2 ⟨rfl, rfl⟩
        refine e_pz (bk0_P P q.2) ?_
        intro P
        refine e_aastoreF (t := 16) aX8_init_109 (P.is9 (by decide) (by omega) rfl) (by decide) (by decide) (P.is9 (by omega) (by omega) q.2.1) (P.n9 (by decide) (by omega) rfl) (vin (N := 6) (by omega)) ?_
        rw [cl (n := i) (by omega)]
        refine e_iinc aX8_init_110 rfl rfl (Nat.le_of_ble_eq_true rfl) ?_
        refine e_goto aX8_init_113 ?_
        refine e_ls (ls' := [(0, some (vR (some 32))), (1, some (vI (nI (i + 1))))]) ⟨rfl, congrArg (fun x => some (vI x)) (nI_1 i), trivial⟩ ?_
        exact ih (i + 1) (by omega)
  have P := P0
  refine e_aload_n aX8_init_0 rfl ?_
  refine e_objInit aX8_init_1 kX8_1 w_objI w_objC (Nat.le_of_ble_eq_true rfl) (Nat.le_of_ble_eq_true rfl) ?_
  refine e_aload_n aX8_init_4 rfl ?_
  refine e_new aX8_init_5 nX8_7 (Nat.le_of_ble_eq_true rfl) (Nat.le_of_ble_eq_true rfl) ?_
  refine e_topR (v := some (33)) (congrArg some P.1) ?_
  refine e_hp (h2 := nwk (33) _ 1 0) (nwk_e P.1) ?_
  refine e_pz (P.n rfl rfl) ?_
  intro P
  refine e_dup aX8_init_8 rfl ?_
  refine e_inviN aX8_init_9 kX8_9 (zX0_init X (h := nwk 33 h 1 0) (r := 33) P (by decide) ⟨rfl, rfl, rfl, rfl, rfl, rfl, rfl⟩) rfl rfl (Nat.le_of_ble_eq_true rfl) (Nat.le_of_ble_eq_true rfl) (Nat.le_of_ble_eq_true rfl) (Nat.le_of_ble_eq_true rfl) (Nat.le_of_ble_eq_true rfl) ?_
  rintro v h2 ⟨rfl, rfl⟩
  refine e_pz (k := 37) (bk0_P (r := 33) P ⟨rfl, rfl, rfl, rfl, rfl, rfl, rfl⟩) ?_
  intro P
  refine e_putR aX8_init_12 fX8_10 rfl (pz_is P rfl) (Or.inr ⟨rfl, fun r q => by cases q; rfl⟩) ?_
  refine e_hp (h2 := (c1H h)) rfl ?_
  refine e_pz (h := (c1H h)) P.r ?_
  intro P
  refine e_aload_n aX8_init_15 rfl ?_
  refine e_bipush (v := 6) aX8_init_16 (by decide) ?_
  refine e_newR (t := 16) aX8_init_18 (Nat.le_of_ble_eq_true rfl) (Nat.le_of_ble_eq_true rfl) cX8_7 (by decide) rfl (Nat.le_of_ble_eq_true rfl) (Nat.le_of_ble_eq_true rfl) (Nat.le_of_ble_eq_true rfl) ?_
  refine e_topR (v := some (37)) (congrArg some P.1) ?_
  refine e_hp (h2 := nwk (37) _ 16 6) (nwk_e P.1) ?_
  refine e_pz (P.n rfl rfl) ?_
  intro P
  refine e_putR aX8_init_21 fX8_16 rfl (pz_is P rfl) (Or.inr ⟨rfl, fun r q => by cases q; rfl⟩) ?_
  refine e_hp (h2 := (c2H h)) rfl ?_
  refine e_pz (h := (c2H h)) P.r ?_
  intro P
  refine e_aload_n aX8_init_24 rfl ?_
  refine e_new aX8_init_25 nX8_20 (Nat.le_of_ble_eq_true rfl) (Nat.le_of_ble_eq_true rfl) ?_
  refine e_topR (v := some (38)) (congrArg some P.1) ?_
  refine e_hp (h2 := nwk (38) _ 3 0) (nwk_e P.1) ?_
  refine e_pz (P.n rfl rfl) ?_
  intro P
  refine e_dup aX8_init_28 rfl ?_
  refine e_inviN aX8_init_29 kX8_22 (zX2_init X (h := nwk 38 (c2H h) 3 0) P) rfl rfl (Nat.le_of_ble_eq_true rfl) (Nat.le_of_ble_eq_true rfl) (Nat.le_of_ble_eq_true rfl) (Nat.le_of_ble_eq_true rfl) (Nat.le_of_ble_eq_true rfl) ?_
  rintro v h2 ⟨rfl, rfl⟩
  refine e_pz (k := 40) (P.n rfl rfl).r ?_
  intro P
  refine e_putR aX8_init_32 fX8_23 rfl (pz_is P rfl) (Or.inr ⟨rfl, fun r q => by cases q; rfl⟩) ?_
  refine e_hp (h2 := (c3H h)) rfl ?_
  refine e_pz (h := (c3H h)) P.r ?_
  intro P
  refine e_aload_n aX8_init_35 rfl ?_
  refine e_new aX8_init_36 nX8_27 (Nat.le_of_ble_eq_true rfl) (Nat.le_of_ble_eq_true rfl) ?_
  refine e_topR (v := some (40)) (congrArg some P.1) ?_
  refine e_hp (h2 := nwk (40) _ 4 0) (nwk_e P.1) ?_
  refine e_pz (P.n rfl rfl) ?_
  intro P
  refine e_dup aX8_init_39 rfl ?_
  refine e_invi aX8_init_40 kX8_29 (zX3_init X (h := nwk 40 (c3H h) 4 0) P) rfl rfl (Nat.le_of_ble_eq_true rfl) (Nat.le_of_ble_eq_true rfl) (Nat.le_of_ble_eq_true rfl) (Nat.le_of_ble_eq_true rfl) (Nat.le_of_ble_eq_true rfl) ?_
  rintro v h2 ⟨rfl, rfl⟩
  refine e_pz (k := 73) (spH_P (rdI_P P) 14 (Nat.le_refl _)) ?_
  intro P
  refine e_putR aX8_init_43 fX8_30 rfl (pz_is P rfl) (Or.inr ⟨rfl, fun r q => by cases q; rfl⟩) ?_
  refine e_hp (h2 := (c4H h)) rfl ?_
  refine e_pz (h := (c4H h)) P.r ?_
  intro P
  refine e_aload_n aX8_init_46 rfl ?_
  refine e_iconst (v := 4) aX8_init_47 (by decide) ?_
  refine e_newR (t := 18) aX8_init_48 (Nat.le_of_ble_eq_true rfl) (Nat.le_of_ble_eq_true rfl) cX8_34 (by decide) rfl (Nat.le_of_ble_eq_true rfl) (Nat.le_of_ble_eq_true rfl) (Nat.le_of_ble_eq_true rfl) ?_
  refine e_topR (v := some (73)) (congrArg some P.1) ?_
  refine e_hp (h2 := nwk (73) _ 18 4) (nwk_e P.1) ?_
  refine e_pz (P.n rfl rfl) ?_
  intro P
  refine e_putR aX8_init_51 fX8_36 rfl (pz_is P rfl) (Or.inr ⟨rfl, fun r q => by cases q; rfl⟩) ?_
  refine e_pz P.r ?_
  intro P
  refine e_aload_n aX8_init_54 rfl ?_
  refine e_iconst (v := 4) aX8_init_55 (by decide) ?_
  refine e_newR (t := 17) aX8_init_56 (Nat.le_of_ble_eq_true rfl) (Nat.le_of_ble_eq_true rfl) cX8_40 (by decide) rfl (Nat.le_of_ble_eq_true rfl) (Nat.le_of_ble_eq_true rfl) (Nat.le_of_ble_eq_true rfl) ?_
  refine e_topR (v := some (74)) (congrArg some P.1) ?_
  refine e_hp (h2 := nwk (74) _ 17 4) (nwk_e P.1) ?_
  refine e_pz (P.n rfl rfl) ?_
  intro P
  refine e_putR aX8_init_59 fX8_42 rfl (pz_is P rfl) (Or.inr ⟨rfl, fun r q => by cases q; rfl⟩) ?_
  refine e_hp (h2 := (c5H h)) rfl ?_
  refine e_pz (h := (c5H h)) P.r ?_
  intro P
  refine e_aload_n aX8_init_62 rfl ?_
  refine e_iconst (v := 3) aX8_init_63 (by decide) ?_
  refine e_newI aX8_init_64 wa_int (by decide) rfl (Nat.le_of_ble_eq_true rfl) (Nat.le_of_ble_eq_true rfl) (Nat.le_of_ble_eq_true rfl) ?_
  refine e_topR (v := some (75)) (congrArg some P.1) ?_
  refine e_hp (h2 := nwk (75) _ 13 3) (nwk_e P.1) ?_
  refine e_pz (P.n rfl rfl) ?_
  intro P
  refine e_dup aX8_init_66 rfl ?_
  refine e_iconst (v := 0) aX8_init_67 (by decide) ?_
  refine e_iconst (v := -1) aX8_init_68 (by decide) ?_
  refine e_iastoreF aX8_init_69 (pz_is P rfl) (pz_n (n := 3) P rfl) (vin (n := 0) (N := 3) (by decide)) ?_
  refine e_pz P.i ?_
  intro P
  refine e_dup aX8_init_70 rfl ?_
  refine e_iconst (v := 1) aX8_init_71 (by decide) ?_
  refine e_iconst (v := -1) aX8_init_72 (by decide) ?_
  refine e_iastoreF aX8_init_73 (pz_is P rfl) (pz_n (n := 3) P rfl) (vin (n := 1) (N := 3) (by decide)) ?_
  refine e_pz P.i ?_
  intro P
  refine e_dup aX8_init_74 rfl ?_
  refine e_iconst (v := 2) aX8_init_75 (by decide) ?_
  refine e_iconst (v := -1) aX8_init_76 (by decide) ?_
  refine e_iastoreF aX8_init_77 (pz_is P rfl) (pz_n (n := 3) P rfl) (vin (n := 2) (N := 3) (by decide)) ?_
  refine e_pz P.i ?_
  intro P
  refine e_putR aX8_init_78 fX8_46 rfl (pz_is P rfl) (Or.inr ⟨rfl, fun r q => by cases q; rfl⟩) ?_
  refine e_pz P.r ?_
  intro P
  refine e_aload_n aX8_init_81 rfl ?_
  refine e_bipush (v := 8) aX8_init_82 (by decide) ?_
  refine e_newI aX8_init_84 wa_int (by decide) rfl (Nat.le_of_ble_eq_true rfl) (Nat.le_of_ble_eq_true rfl) (Nat.le_of_ble_eq_true rfl) ?_
  refine e_topR (v := some (76)) (congrArg some P.1) ?_
  refine e_hp (h2 := nwk (76) _ 13 8) (nwk_e P.1) ?_
  refine e_pz (P.n rfl rfl) ?_
  intro P
  refine e_putR aX8_init_86 fX8_50 rfl (pz_is P rfl) (Or.inr ⟨rfl, fun r q => by cases q; rfl⟩) ?_
  refine e_pz P.r ?_
  intro P
  refine e_iconst (v := 0) aX8_init_89 (by decide) ?_
  refine e_istore_n aX8_init_90 (Nat.le_of_ble_eq_true rfl) ?_
  refine e_hp (h2 := c7H h) rfl ?_
  refine e_ls (ls' := [(0, some (vR (some 32))), (1, some (vI (nI 0)))]) ⟨rfl, rfl, trivial⟩ ?_
  exact lpl 6 0 rfl
