/-! CHAINS told, ROUNDS, KINDS: the class's and the reference's tell the same (by hand) -/
theorem chL_lt {D : Nat → DD} {s p : Nat} : ∀ n, 1 ≤ (chL D s p n).length ∧ (chL D s p n).length ≤ n + 1 ∧ (chL D s p n).getD ((chL D s p n).length - 1) 0 = ow D s p n := by
  intro n
  induction n with
  | zero => exact ⟨Nat.le_refl _, Nat.le_refl _, rfl⟩
  | succ n ih =>
    rcases e : tk (D n) s p with _ | t
    · rw [chL_n e, ow_n e]
      omega
    · rw [chL_t e, ow_t e]
      have hl : (chL D s p n ++ [t]).length = (chL D s p n).length + 1 := List.length_append
      exact ⟨by omega, by omega, by rw [hl, Nat.add_sub_cancel, getD_app, if_neg (by omega), if_pos rfl]⟩
theorem chL_pre {D : Nat → DD} {s p k : Nat} : ∀ m, (chL D s p k).length ≤ (chL D s p (k + m)).length ∧ ∀ i, i < (chL D s p k).length → (chL D s p (k + m)).getD i 0 = (chL D s p k).getD i 0 := by
  intro m
  induction m with
  | zero => exact ⟨Nat.le_refl _, fun _ _ => rfl⟩
  | succ m ih =>
    obtain ⟨i1, i2⟩ := ih
    rcases e : tk (D (k + m)) s p with _ | t
    · rw [show k + (m + 1) = (k + m) + 1 from rfl, chL_n e]
      exact ⟨i1, i2⟩
    · rw [show k + (m + 1) = (k + m) + 1 from rfl, chL_t e]
      have hl : (chL D s p (k + m) ++ [t]).length = (chL D s p (k + m)).length + 1 := List.length_append
      exact ⟨by omega, fun i hi => by rw [getD_app, if_pos (by omega)]; exact i2 i hi⟩
theorem chn_L {D : Nat → DD} {s p n : Nat} {x : Int32} : ∀ m k, k + m = n → n ≤ 12 → (∀ j, (chL D s p k).length ≤ j → j ≤ (chL D s p n).length → x = nI j → chn D s p x k m (ow D s p k) (chL D s p k).length = ((chL D s p n).getD (j - 1) 0, j)) ∧ ((∀ j, (chL D s p k).length ≤ j → j < (chL D s p n).length → ¬ x = nI j) → chn D s p x k m (ow D s p k) (chL D s p k).length = (ow D s p n, (chL D s p n).length)) := by
  intro m
  induction m with
  | zero =>
    intro k hk hn
    obtain rfl : k = n := by omega
    refine ⟨fun j h1 h2 _ => ?_, fun _ => rfl⟩
    have : j = (chL D s p k).length := by omega
    rw [this, (chL_lt k).2.2]
    rfl
  | succ m ih =>
    intro k hk hn
    have hp := chL_pre (D := D) (s := s) (p := p) (k := k) (n - k)
    rw [show k + (n - k) = n by omega] at hp
    obtain ⟨p1, p2⟩ := hp
    have b1 := (chL_lt (D := D) (s := s) (p := p) k)
    have b2 := (chL_lt (D := D) (s := s) (p := p) n)
    obtain ⟨i1, i2⟩ := ih (k + 1) (by omega) hn
    rw [chn_s]
    by_cases z : nI (chL D s p k).length = x
    · rw [if_pos z]
      refine ⟨fun j h1 h2 h3 => ?_, fun h => ?_⟩
      · have e : (chL D s p k).length = j := (nI_eq (by omega) (by omega)).mp (z.trans h3)
        rw [← e, p2 _ (by omega), b1.2.2]
      · have : ¬ (chL D s p k).length < (chL D s p n).length := fun y => h _ (Nat.le_refl _) y z.symm
        have e : (chL D s p n).length = (chL D s p k).length := by omega
        rw [e]
        have e9 : (chL D s p n).getD ((chL D s p n).length - 1) 0 = (chL D s p k).getD ((chL D s p k).length - 1) 0 := by rw [e]; exact p2 _ (by omega)
        rw [b2.2.2, b1.2.2] at e9
        rw [e9]
    · rw [if_neg z]
      rcases e : tk (D k) s p with _ | t
      · rw [chL_n e, ow_n e] at i1 i2
        exact ⟨i1, i2⟩
      · have hl : (chL D s p k ++ [t]).length = (chL D s p k).length + 1 := List.length_append
        rw [chL_t e, ow_t e, hl] at i1 i2
        refine ⟨fun j h1 h2 h3 => i1 j ?_ h2 h3, fun h => i2 (fun j h1 h2 => h j (by omega) h2)⟩
        rcases Nat.lt_or_ge (chL D s p k).length j with y | y
        · exact y
        · exact absurd (by rw [h3, show j = (chL D s p k).length by omega]) z
/-- what chain answers, on both sides -/
theorem chain_e {D : Nat → DD} {n s p : Nat} (w9 : ∀ k, k < n → dWf (D k)) (hn : n ≤ 12) (ok : okP D n s p) (w : Int32) : (w = -1 → (chn D s p (w + 1) 0 n (p % 3) 1).2 = (chF D n s p).2.length) ∧ (w < 0 ∨ nI (chF D n s p).2.length ≤ w → ¬ w = -1 → ¬ nI (chn D s p (w + 1) 0 n (p % 3) 1).2 = w + 1) ∧ (¬ (w < 0 ∨ nI (chF D n s p).2.length ≤ w) → nI (chn D s p (w + 1) 0 n (p % 3) 1).2 = w + 1 ∧ (chn D s p (w + 1) 0 n (p % 3) 1).1 = (chF D n s p).2.getD w.toNatClampNeg 0) := by
  rw [chF_L w9 ok]
  obtain ⟨c1, c2⟩ := chn_L (D := D) (s := s) (p := p) (x := w + 1) n 0 (by omega) hn
  have c1 : ∀ j, 1 ≤ j → j ≤ (chL D s p n).length → w + 1 = nI j → chn D s p (w + 1) 0 n (p % 3) 1 = ((chL D s p n).getD (j - 1) 0, j) := c1
  have c2 : (∀ j, 1 ≤ j → j < (chL D s p n).length → ¬ w + 1 = nI j) → chn D s p (w + 1) 0 n (p % 3) 1 = (ow D s p n, (chL D s p n).length) := c2
  have b := (chL_lt (D := D) (s := s) (p := p) n)
  have key : ∀ j, 1 ≤ j → w + 1 = nI j → w = nI (j - 1) := fun j h1 h => by
    have : w + 1 - 1 = nI j - 1 := by rw [h]
    rw [Int32.add_sub_cancel, nI_pred9 h1] at this
    exact this
  refine ⟨fun e => ?_, fun h hne => ?_, fun h => ?_⟩
  · rw [c2 (fun j h1 h2 y => by
      have := key j h1 y
      rw [e] at this
      exact absurd (this ▸ nI_pos' (n := j - 1) (by omega)) (by decide))]
  · have no : ∀ j, 1 ≤ j → j ≤ (chL D s p n).length → ¬ w + 1 = nI j := fun j h1 h2 y => by
      have := key j h1 y
      rw [this] at h
      exact h.elim (nI_pos (by omega)) (nI_ge (by show j - 1 < (chL D s p n).length; omega) (by show (chL D s p n).length < 2 ^ 31; omega))
    rw [c2 (fun j h1 h2 => no j h1 (by omega))]
    exact fun y => no _ b.1 (Nat.le_refl _) y.symm
  · obtain ⟨j, hj, rfl⟩ := ou_of (chL D s p n).length (by omega) h
    rw [c1 (j + 1) (by omega) (by omega) (nI_succ j).symm, cl (by omega)]
    exact ⟨nI_succ j, rfl⟩
/-- a KIND under a KIND -/
theorem un_e : ∀ y, y < 6 → ∀ k, k < 6 → unR y 6 (some k) = decide (y = 0 ∨ k = y ∨ (y = 1 ∧ (k = 3 ∨ k = 4)) ∨ y = 2 ∧ k = 5) := by decide +kernel
/-- the one place where it is -/
theorem lt_e {P : Nat → Bool} : ∀ {n : Nat}, n < 1073741824 → (∀ j k, j < n → k < n → P j = true → P k = true → j = k) → oI (frW P 0 n) = ltR P n := by
  intro n
  induction n with
  | zero => intro _ _; rfl
  | succ n ih =>
    intro hn hu
    have i1 := ih (by omega) (fun j k h1 h2 => hu j k (by omega) (by omega))
    show _ = if P n = true then nI n else ltR P n
    by_cases z : P n = true
    · rw [if_pos z, frW_at z (Nat.zero_le _) (by omega) (fun c _ hc => Bool.eq_false_iff.mpr (fun y => by have := hu c n (by omega) (by omega) y z; omega))]
      rfl
    · rw [if_neg z, ← i1]
      rcases e : frW P 0 n with _ | x
      · have hno : ∀ c, c < n → P c = false := fun c hc => Bool.eq_false_iff.mpr (fun y => by
          have : frc P n = true := frc_t hc y
          unfold frc at this
          rw [e] at this
          cases this)
        rw [frW_no (fun c _ hc => by
          by_cases q : c = n
          · rw [q]; exact Bool.eq_false_iff.mpr z
          · exact hno c (by omega))]
      · obtain ⟨x1, _, x3⟩ := frW_some e
        have : ∀ c, c < x → P c = false := fun c hc => Bool.eq_false_iff.mpr (fun y => by have := hu c x (by omega) (by omega) y x1; omega)
        rw [frW_at x1 (Nat.zero_le _) (by omega) (fun c _ hc => this c hc)]
/-- how many are marked -/
def crd (n s : Nat) : Nat := cnW (fun k => s.testBit k) 0 n
theorem crd_le {n s : Nat} : crd n s ≤ n := cnW_le n
theorem crd_or {s v : Nat} : ∀ n, crd n (s ||| 2 ^ v) = crd n s + (if v < n ∧ s.testBit v = false then 1 else 0) := by
  intro n
  induction n with
  | zero => rw [if_neg (by omega)]; rfl
  | succ n ih =>
    have e1 : ∀ t, crd (n + 1) t = crd n t + (if t.testBit n = true then 1 else 0) := fun t => by
      show cnW _ 0 n + (if t.testBit (0 + n) = true then 1 else 0) = _
      rw [Nat.zero_add]
      rfl
    rw [e1, e1, ih, Nat.testBit_or, Nat.testBit_two_pow]
    by_cases z : v = n
    · rw [z]
      cases s.testBit n <;> simp
    · have : decide (v = n) = false := decide_eq_false z
      rw [this, Bool.or_false]
      by_cases y : v < n ∧ s.testBit v = false
      · have e2 : (if v < n + 1 ∧ s.testBit v = false then 1 else 0) = 1 := if_pos ⟨by omega, y.2⟩
        rw [if_pos y, e2]; omega
      · have e2 : (if v < n + 1 ∧ s.testBit v = false then 1 else 0) = 0 := if_neg (fun q => y ⟨by omega, q.2⟩)
        rw [if_neg y, e2]; omega
theorem crd_full {n s : Nat} (hs : s < 2 ^ n) : crd n s = n ↔ s = 2 ^ n - 1 := by
  have a1 : ∀ m t, (∀ k, k < m → t.testBit k = true) → crd m t = m := fun m => by
    induction m with
    | zero => intro t _; rfl
    | succ m ih =>
      intro t h
      show cnW _ 0 m + (if t.testBit (0 + m) = true then 1 else 0) = _
      rw [Nat.zero_add, if_pos (h m (by omega))]
      exact congrArg (· + 1) (ih t (fun k hk => h k (by omega)))
  have a2 : ∀ m t, crd m t = m → ∀ k, k < m → t.testBit k = true := fun m => by
    induction m with
    | zero => intro t _ k hk; omega
    | succ m ih =>
      intro t h k hk
      have h : cnW (fun k => t.testBit k) 0 m + (if t.testBit (0 + m) = true then 1 else 0) = m + 1 := h
      rw [Nat.zero_add] at h
      have := crd_le (n := m) (s := t)
      have e : cnW (fun k => t.testBit k) 0 m = crd m t := rfl
      by_cases z : t.testBit m = true
      · rw [if_pos z] at h
        by_cases y : k = m
        · rw [y]; exact z
        · exact ih t (by omega) k (by omega)
      · rw [if_neg z] at h
        omega
  refine ⟨fun h => Nat.eq_of_testBit_eq (fun k => ?_), fun h => a1 n s (fun k hk => ?_)⟩
  · rw [Nat.testBit_two_pow_sub_one]
    by_cases z : k < n
    · rw [a2 n s h k z, decide_eq_true z]
    · rw [decide_eq_false z]
      exact Nat.testBit_lt_two_pow (Nat.lt_of_lt_of_le hs (Nat.pow_le_pow_right (by decide) (by omega)))
  · rw [h, Nat.testBit_two_pow_sub_one, decide_eq_true hk]
theorem ar_no {g : Nat → Int64} {n : Nat} (hn : n ≤ 12) : ∀ {m i s : Nat}, s < 2 ^ n → crd n s + m < n → arR g n i m s = false := by
  intro m
  induction m with
  | zero =>
    intro i s hs h
    show decide (s = 2 ^ n - 1) = false
    exact decide_eq_false (fun e => by have := (crd_full hs).mpr e; omega)
  | succ m ih =>
    intro i s hs h
    rw [arR_s]
    by_cases z : rgB n (g i) = true
    · rw [if_pos z]
      have hv := (rgB_k hn z).1
      refine ih (Nat.or_lt_two_pow hs (Nat.pow_lt_pow_right (by decide) hv)) ?_
      rw [crd_or]
      split <;> omega
    · rw [if_neg z]
theorem ted_ar {h : HP} {a n : Nat} {g : Nat → Int64} (hn : n ≤ 12) : ∀ {m i s : Nat}, (∀ j, i ≤ j → j < i + m → hL h a j = g j) → s < 2 ^ n → crd n s + m = n → tedR h a n i m (nI s) = arR g n i m s := by
  intro m
  induction m with
  | zero =>
    intro i s _ hs hc
    show true = decide (s = 2 ^ n - 1)
    exact (decide_eq_true ((crd_full hs).mp (by omega))).symm
  | succ m ih =>
    intro i s hg hs hc
    rw [arR_s, tedR_s]
    have hgi := hg i (Nat.le_refl _) (by omega)
    by_cases z : rgB n (g i) = true
    · rw [if_pos z]
      obtain ⟨k1, k2, _⟩ := rgB_k hn z
      have z2 := of_decide_eq_true z
      have eb : (nI s >>> (nI (g i).toInt32.toNatClampNeg &&& 31)) &&& 1 = 0 ↔ s.testBit (g i).toInt32.toNatClampNeg = false := by
        rw [btI_and1 (by omega), btI_nI (by omega)]
        cases s.testBit (g i).toInt32.toNatClampNeg
        · exact ⟨fun _ => rfl, fun _ => rfl⟩
        · exact ⟨fun y => absurd y (by decide), fun y => absurd y (by decide)⟩
      have et : tedB h a n i (nI s) = decide (s.testBit (g i).toInt32.toNatClampNeg = false) := by
        unfold tedB
        rw [hgi]
        refine decide_eq_decide.mpr ?_
        rw [k2]
        exact ⟨fun y => by rw [cl (by omega)]; exact eb.mp y.2.2, fun y => ⟨z2.1, z2.2, eb.mpr (by rw [cl (by omega)] at y; exact y)⟩⟩
      rw [et]
      have hs2 : (s ||| 2 ^ (g i).toInt32.toNatClampNeg) < 2 ^ n := Nat.or_lt_two_pow hs (Nat.pow_lt_pow_right (by decide) k1)
      by_cases y : s.testBit (g i).toInt32.toNatClampNeg = false
      · rw [if_pos (decide_eq_true y), hgi, k2, shl12 _ (by omega), or_8, cl (by omega)]
        exact ih (fun j h1 h2 => hg j (by omega) (by omega)) hs2 (by rw [crd_or, if_pos ⟨k1, y⟩]; omega)
      · rw [if_neg (fun q => y (of_decide_eq_true q))]
        exact (ar_no hn hs2 (by rw [crd_or, if_neg (fun q => y q.2)]; omega)).symm
    · rw [if_neg z, if_neg]
      intro y
      unfold tedB at y
      rw [hgi] at y
      have y := of_decide_eq_true y
      exact z (decide_eq_true ⟨y.1, y.2.1⟩)
/-- one of the class's ROUNDS and one of the reference's -/
def RRl (t : RS) (u : RT) : Prop := t.1 = u.1 ∧ ∀ k, k < 12 → btI t.2.1 k = u.2 (2 * k) ∧ btI t.2.2 k = u.2 (2 * k + 1)
theorem bt_or1 {x : Int32} {j k : Nat} (hj : j < 12) (hk : k < 12) : btI (x ||| ((1 : Int32) <<< (nI j &&& 31))) k = if k = j then true else btI x k := by
  rw [btI_or, btI_shl (by omega) (by omega), bt1 _ (by omega)]
  by_cases e : k = j
  · rw [if_pos e, e]
    simp
  · rw [if_neg e]
    by_cases z : j ≤ k
    · rw [decide_eq_false (show ¬ k - j = 0 by omega)]; simp
    · rw [decide_eq_false z]; simp
theorem bt_z {x : Int32} {k : Nat} (hk : k < 12) : (x >>> (nI k &&& 31)) &&& 1 = 0 ↔ btI x k = false := by
  rw [btI_and1 (by omega)]
  cases btI x k
  · exact ⟨fun _ => rfl, fun _ => rfl⟩
  · exact ⟨fun y => absurd y (by decide), fun y => absurd y (by decide)⟩
theorem mvA_e {D : Nat → DD} {s k : Nat} (hk : k < 12) {t : RS} {u : RT} (r : RRl t u) : (mvA (D k) s k t).isSome = (gyM D s k 0 u).isSome ∧ RRl ((mvA (D k) s k t).getD t) ((gyM D s k 0 u).getD u) := by
  unfold mvA gyM
  rw [show cvW (D k) s 0 = gv (D k) s from rfl]
  rcases gv (D k) s with _ | p
  · exact ⟨rfl, r⟩
  · show (if t.1 p = dF (D k) then (if (t.2.1 >>> (nI k &&& 31)) &&& 1 = 0 then some (updN t.1 p (dT (D k)), t.2.1 ||| ((1 : Int32) <<< (nI k &&& 31)), t.2.2) else none) else none : Option RS).isSome = (if u.2 (2 * k + 0) = true then none else if u.1 p = dFw (D k) 0 then some (updN u.1 p (dTw (D k) 0), updB u.2 (2 * k + 0)) else none : Option RT).isSome ∧ RRl ((if t.1 p = dF (D k) then (if (t.2.1 >>> (nI k &&& 31)) &&& 1 = 0 then some (updN t.1 p (dT (D k)), t.2.1 ||| ((1 : Int32) <<< (nI k &&& 31)), t.2.2) else none) else none : Option RS).getD t) ((if u.2 (2 * k + 0) = true then none else if u.1 p = dFw (D k) 0 then some (updN u.1 p (dTw (D k) 0), updB u.2 (2 * k + 0)) else none : Option RT).getD u)
    rw [show dFw (D k) 0 = dF (D k) from rfl, show dTw (D k) 0 = dT (D k) from rfl, Nat.add_zero, r.1]
    have q := bt_z (x := t.2.1) hk
    rw [(r.2 k hk).1] at q
    by_cases z : u.1 p = dF (D k)
    · rw [if_pos z]
      by_cases y : u.2 (2 * k) = true
      · rw [if_pos y, if_neg (fun x => by rw [q.mp x] at y; cases y)]
        exact ⟨rfl, r⟩
      · rw [if_neg y, if_pos (q.mpr (Bool.eq_false_iff.mpr y)), if_pos z]
        refine ⟨rfl, rfl, fun j hj => ⟨?_, ?_⟩⟩
        · show btI (t.2.1 ||| _) j = (if 2 * j = 2 * k then true else u.2 (2 * j))
          rw [bt_or1 hk hj, (r.2 j hj).1]
          by_cases e : j = k
          · rw [if_pos e, if_pos (by omega)]
          · rw [if_neg e, if_neg (by omega)]
        · show btI t.2.2 j = (if 2 * j + 1 = 2 * k then true else u.2 (2 * j + 1))
          rw [if_neg (by omega)]
          exact (r.2 j hj).2
    · rw [if_neg z]
      by_cases y : u.2 (2 * k) = true
      · rw [if_pos y]
        exact ⟨rfl, r⟩
      · rw [if_neg y, if_neg z]
        exact ⟨rfl, r⟩
theorem mvB_e {D : Nat → DD} {s k : Nat} (hk : k < 12) {t : RS} {u : RT} (r : RRl t u) : (mvB (D k) s k t).isSome = (gyM D s k 1 u).isSome ∧ RRl ((mvB (D k) s k t).getD t) ((gyM D s k 1 u).getD u) := by
  unfold mvB gyM
  rw [show cvW (D k) s 1 = gb (D k) s from rfl]
  rcases gb (D k) s with _ | p
  · exact ⟨rfl, r⟩
  · show (if t.1 p = dT (D k) then (if (t.2.2 >>> (nI k &&& 31)) &&& 1 = 0 then some (updN t.1 p (dF (D k)), t.2.1, t.2.2 ||| ((1 : Int32) <<< (nI k &&& 31))) else none) else none : Option RS).isSome = (if u.2 (2 * k + 1) = true then none else if u.1 p = dFw (D k) 1 then some (updN u.1 p (dTw (D k) 1), updB u.2 (2 * k + 1)) else none : Option RT).isSome ∧ RRl ((if t.1 p = dT (D k) then (if (t.2.2 >>> (nI k &&& 31)) &&& 1 = 0 then some (updN t.1 p (dF (D k)), t.2.1, t.2.2 ||| ((1 : Int32) <<< (nI k &&& 31))) else none) else none : Option RS).getD t) ((if u.2 (2 * k + 1) = true then none else if u.1 p = dFw (D k) 1 then some (updN u.1 p (dTw (D k) 1), updB u.2 (2 * k + 1)) else none : Option RT).getD u)
    rw [show dFw (D k) 1 = dT (D k) from rfl, show dTw (D k) 1 = dF (D k) from rfl, r.1]
    have q := bt_z (x := t.2.2) hk
    rw [(r.2 k hk).2] at q
    by_cases z : u.1 p = dT (D k)
    · rw [if_pos z]
      by_cases y : u.2 (2 * k + 1) = true
      · rw [if_pos y, if_neg (fun x => by rw [q.mp x] at y; cases y)]
        exact ⟨rfl, r⟩
      · rw [if_neg y, if_pos (q.mpr (Bool.eq_false_iff.mpr y)), if_pos z]
        refine ⟨rfl, rfl, fun j hj => ⟨?_, ?_⟩⟩
        · show btI t.2.1 j = (if 2 * j = 2 * k + 1 then true else u.2 (2 * j))
          rw [if_neg (by omega)]
          exact (r.2 j hj).1
        · show btI (t.2.2 ||| _) j = (if 2 * j + 1 = 2 * k + 1 then true else u.2 (2 * j + 1))
          rw [bt_or1 hk hj, (r.2 j hj).2]
          by_cases e : j = k
          · rw [if_pos e, if_pos (by omega)]
          · rw [if_neg e, if_neg (by omega)]
    · rw [if_neg z]
      by_cases y : u.2 (2 * k + 1) = true
      · rw [if_pos y]
        exact ⟨rfl, r⟩
      · rw [if_neg y, if_neg z]
        exact ⟨rfl, r⟩
theorem go_e {D : Nat → DD} {s : Nat} {σ τ : Nat → Nat} {t : RS} {u : RT} (r : RRl t u) : ∀ {i : Nat}, (∀ j, j < i → σ j = τ j ∧ τ j < 12) → (goR D s σ i t).2 = (goM D s τ i u).2 ∧ RRl (goR D s σ i t).1 (goM D s τ i u).1 := by
  intro i
  induction i with
  | zero => intro _; exact ⟨rfl, r⟩
  | succ i ih =>
    intro h
    obtain ⟨i1, i2⟩ := ih (fun j hj => h j (by omega))
    obtain ⟨e, hk⟩ := h i (by omega)
    unfold goR goM mvR
    rw [e, i1]
    obtain ⟨a1, a2⟩ := mvA_e (D := D) (s := s) hk i2
    obtain ⟨b1, b2⟩ := mvB_e (D := D) (s := s) hk a2
    refine ⟨?_, b2⟩
    show ((goM D s τ i u).2 || ((mvA (D (τ i)) s (τ i) (goR D s σ i t).1).isSome || (mvB (D (τ i)) s (τ i) ((mvA (D (τ i)) s (τ i) (goR D s σ i t).1).getD (goR D s σ i t).1)).isSome)) = _
    rw [a1, b1, Bool.or_assoc]
theorem cr_e {D : Nat → DD} {s q : Nat} {σ τ : Nat → Nat} (h : ∀ j, j < q → σ j = τ j ∧ τ j < 12) : ∀ {m c : Nat} {t : RS} {u : RT}, RRl t u → crR D s σ q m c t = crM D s τ q m c u := by
  intro m
  induction m with
  | zero => intro c t u _; rfl
  | succ m ih =>
    intro c t u r
    obtain ⟨g1, g2⟩ := go_e (D := D) (s := s) r h
    rw [crR_s, crM_s, g1, ih g2]
theorem rr_0 : RRl rd0 rt0 := ⟨rfl, fun k hk => ⟨bt0 k (by omega), bt0 k (by omega)⟩⟩
