/-! WHO HAS WHAT: the class's rows and the reference's chains tell the same (by hand) -/
/-- the rows are the owners of the reference -/
def OwR (h : HP) (f : Nat) (o : Nat → Nat) (n : Nat) (D : Nat → DD) : Prop := ∀ s, fo o f ≤ s → s < fo o f + om f → ∀ p, p < 12 → dgt (hI h 39 s) p = nI (owR D n s p) ∧ owR D n s p < 3
theorem OwR_of {h : HP} {f n : Nat} {o : Nat → Nat} {D : Nat → DD} (w : ∀ k, k < n → dWf (D k)) (O : Own h f o n D) (ok : ∀ s, fo o f ≤ s → s < fo o f + om f → okD D n s) : OwR h f o n D := fun s h1 h2 p hp => by
  rw [owR_ow w (ok s h1 h2 p hp)]
  exact ⟨O s h1 h2 p hp, ow_lt w⟩
theorem cnW_cg {P Q : Nat → Bool} {a : Nat} : ∀ {m : Nat}, (∀ c, a ≤ c → c < a + m → P c = Q c) → cnW P a m = cnW Q a m := by
  intro m
  induction m with
  | zero => intro _; rfl
  | succ m ih =>
    intro h
    unfold cnW
    rw [ih (fun c h1 h2 => h c h1 (by omega)), h (a + m) (by omega) (by omega)]
theorem hnR_cg {P Q : Nat → Bool} : ∀ {m : Nat}, (∀ c, c < m → P c = Q c) → hnR P m = hnR Q m := by
  intro m
  induction m with
  | zero => intro _; rfl
  | succ m ih =>
    intro h
    unfold hnR
    rw [ih (fun c hc => h c (by omega)), h m (by omega)]
section WHO
variable {h : HP} {f n : Nat} {o : Nat → Nat} {D : Nat → DD}
theorem at_ow (O : OwR h f o n D) {s p : Nat} (h1 : fo o f ≤ s) (h2 : s < fo o f + om f) (hp : p < 12) (y : Int32) : decide (dgt (hI h 39 s) p = y) = owP D n y s p := by
  unfold owP
  rw [(O s h1 h2 p hp).1]
theorem hand_e (O : OwR h f o n D) {s : Nat} (h1 : fo o f ≤ s) (h2 : s < fo o f + om f) (y : Int32) : hnR (atB h s y) 12 = hnR (owP D n y s) 12 := hnR_cg (fun p hp => at_ow O h1 h2 hp y)
theorem chance_e (O : OwR h f o n D) {p : Nat} (hp : p < 12) (y : Int32) : cnW (atS h p y) (fo o f) (om f) = cnW (fun s => owP D n y s p) (fo o f) (om f) := cnW_cg (fun s h1 h2 => at_ow O h1 h2 hp y)
theorem least_e (O : OwR h f o n D) {p : Nat} (hp : p < 12) (y : Int32) : frW (atS h p y) (fo o f) (om f) = frW (fun s => owP D n y s p) (fo o f) (om f) := frW_cg (fun s h1 h2 => at_ow O h1 h2 hp y)
theorem wu_e {pr : Nat → Int32} (hw : ∀ i, i < 3 → hI h 36 i = pr i) (O : OwR h f o n D) {s : Nat} (h1 : fo o f ≤ s) (h2 : s < fo o f + om f) (y : Int32) : ∀ {m : Nat}, m ≤ 12 → wuR h s y m = wuG (fun p => nI (owR D n s p)) pr s y m := by
  intro m
  induction m with
  | zero => intro _; rfl
  | succ m ih =>
    intro hm
    unfold wuR wuG
    rw [ih (by omega), (O s h1 h2 m (by omega)).1, hw _ (pl_lt s m)]
theorem wr_e {pr : Nat → Int32} (hw : ∀ i, i < 3 → hI h 36 i = pr i) (O : OwR h f o n D) {s : Nat} (h1 : fo o f ≤ s) (h2 : s < fo o f + om f) (y : Int32) : wuR h s y 12 = wrM D n pr y s := wu_e hw O h1 h2 y (Nat.le_refl _)
theorem wo_e {pr : Nat → Int32} (hw : ∀ i, i < 3 → hI h 36 i = pr i) (O : OwR h f o n D) (y : Int32) {a : Nat} (ha : fo o f ≤ a) : ∀ {m : Nat}, a + m ≤ fo o f + om f → woR h y a m = woG (wrM D n pr y) a m := by
  intro m
  induction m with
  | zero => intro _; rfl
  | succ m ih =>
    intro hm
    unfold woR woG
    rw [ih (by omega), wr_e hw O (by omega) (by omega) y]
theorem bs_e {pr : Nat → Int32} (hw : ∀ i, i < 3 → hI h 36 i = pr i) (O : OwR h f o n D) (y w : Int32) : ∀ {m k c : Nat} {v : Int32}, fo o f ≤ k → k + m ≤ fo o f + om f → bsR h y w k m c v = bsG (wrM D n pr y) w k m c v := by
  intro m
  induction m with
  | zero => intro k c v _ _; rfl
  | succ m ih =>
    intro k c v h1 h2
    unfold bsR bsG
    rw [wr_e hw O h1 (by omega) y, ih (by omega) (by omega), ih (by omega) (by omega)]
theorem hp_e {pr : Nat → Int32} (hw : ∀ i, i < 3 → hI h 36 i = pr i) (O : OwR h f o n D) (y : Int32) {q : Nat} : ∀ {m k c : Nat} {v : Int64}, fo o f + (k + m) * q ≤ fo o f + om f → hpR h y (fo o f) q k m c v = hpG (wrM D n pr y) (fo o f) q k m c v := by
  intro m
  induction m with
  | zero => intro k c v _; rfl
  | succ m ih =>
    intro k c v h2
    have e1 : (k + (m + 1)) * q = k * q + q + m * q := by rw [Nat.add_mul, Nat.add_mul, Nat.one_mul]; omega
    have e2 : (k + 1 + m) * q = k * q + q + m * q := by rw [Nat.add_mul, Nat.add_mul, Nat.one_mul]
    unfold hpR hpG
    rw [wo_e hw O y (by omega) (m := q) (by omega), ih (by omega), ih (by omega)]
/-- three marks as a set -/
def hB (b0 b1 b2 : Bool) : Int32 := hnR (fun c => if c = 0 then b0 else if c = 1 then b1 else b2) 3
theorem hB_P {P : Nat → Bool} : hnR P 3 = hB (P 0) (P 1) (P 2) := hnR_cg (fun c hc => by
  rcases (show c = 0 ∨ c = 1 ∨ c = 2 by omega) with rfl | rfl | rfl <;> rfl)
theorem hB_0 : ∀ b0 b1 b2 : Bool, hB b0 b1 b2 ||| ((1 : Int32) <<< (nI 0 &&& 31)) = hB true b1 b2 := by decide +kernel
theorem hB_1 : ∀ b0 b1 b2 : Bool, hB b0 b1 b2 ||| ((1 : Int32) <<< (nI 1 &&& 31)) = hB b0 true b2 := by decide +kernel
theorem hB_2 : ∀ b0 b1 b2 : Bool, hB b0 b1 b2 ||| ((1 : Int32) <<< (nI 2 &&& 31)) = hB b0 b1 true := by decide +kernel
theorem hB_q : ∀ b0 b1 b2 : Bool, (hB b0 b1 b2 = (1 : Int32) <<< (nI 0 &&& 31) ↔ (b0 = true ∧ b1 = false ∧ b2 = false)) ∧ (hB b0 b1 b2 = (1 : Int32) <<< (nI 1 &&& 31) ↔ (b0 = false ∧ b1 = true ∧ b2 = false)) ∧ (hB b0 b1 b2 = (1 : Int32) <<< (nI 2 &&& 31) ↔ (b0 = false ∧ b1 = false ∧ b2 = true)) := by decide +kernel
theorem ev_hB {g : Nat → Int32} {w : Nat → Nat} {a : Nat} : ∀ {m : Nat}, (∀ s, a ≤ s → s < a + m → g s = nI (w s) ∧ w s < 3) → evR g a m = hB (decide (0 < cnW (fun s => decide (w s = 0)) a m)) (decide (0 < cnW (fun s => decide (w s = 1)) a m)) (decide (0 < cnW (fun s => decide (w s = 2)) a m)) ∧ cnW (fun s => decide (w s = 0)) a m + cnW (fun s => decide (w s = 1)) a m + cnW (fun s => decide (w s = 2)) a m = m := by
  intro m
  induction m with
  | zero => intro _; exact ⟨(show (0 : Int32) = hB false false false by decide +kernel), rfl⟩
  | succ m ih =>
    intro hg
    obtain ⟨i1, i2⟩ := ih (fun s h1 h2 => hg s h1 (by omega))
    obtain ⟨e, hw⟩ := hg (a + m) (by omega) (by omega)
    have c0 : ∀ k, cnW (fun s => decide (w s = k)) a (m + 1) = cnW (fun s => decide (w s = k)) a m + (if decide (w (a + m) = k) = true then 1 else 0) := fun k => rfl
    have ee : evR g a (m + 1) = evR g a m ||| ((1 : Int32) <<< (g (a + m) &&& 31)) := rfl
    rw [ee, i1, e, c0, c0, c0]
    rcases (show w (a + m) = 0 ∨ w (a + m) = 1 ∨ w (a + m) = 2 by omega) with q | q | q
    · rw [q, hB_0]
      exact ⟨by simp, by simp; omega⟩
    · rw [q, hB_1]
      exact ⟨by simp, by simp; omega⟩
    · rw [q, hB_2]
      exact ⟨by simp, by simp; omega⟩
theorem owSt_w {p c : Nat} (O : OwR h f o n D) (hp : p < 12) (hc : c < 3) : owSt D n f o p c = cnW (fun s => decide (owR D n s p = c)) (fo o f) (om f) := cnW_cg (fun s h1 h2 => by
  have := (O s h1 h2 p hp).2
  unfold owP
  exact decide_eq_decide.mpr (nI_eq (by omega) (by omega)))
theorem ev_w {p : Nat} (O : OwR h f o n D) (hp : p < 12) : evR (fun s => dgt (hI h 39 s) p) (fo o f) (om f) = hB (decide (0 < owSt D n f o p 0)) (decide (0 < owSt D n f o p 1)) (decide (0 < owSt D n f o p 2)) ∧ owSt D n f o p 0 + owSt D n f o p 1 + owSt D n f o p 2 = om f := by
  rw [owSt_w O hp (by decide), owSt_w O hp (by decide), owSt_w O hp (by decide)]
  exact ev_hB (w := fun s => owR D n s p) (fun s h1 h2 => O s h1 h2 p hp)
theorem owners_e {p : Nat} (O : OwR h f o n D) (hp : p < 12) : evR (fun s => dgt (hI h 39 s) p) (fo o f) (om f) = hnR (fun c => decide (0 < owSt D n f o p c)) 3 := (ev_w O hp).1.trans (hB_P (P := fun c => decide (0 < owSt D n f o p c))).symm
theorem om_p : ∀ f, f ≤ 4 → 0 < om f := by decide
theorem sure_e {p : Nat} (O : OwR h f o n D) (hf : f ≤ 4) (hp : p < 12) : frW (fun k => decide (evR (fun s => dgt (hI h 39 s) p) (fo o f) (om f) = (1 : Int32) <<< (nI k &&& 31))) 0 3 = frW (fun c => decide (owSt D n f o p c = om f)) 0 3 := by
  obtain ⟨e, hs⟩ := ev_w O hp
  have h0 := om_p f hf
  refine frW_cg (fun c _ hc => ?_)
  rw [e]
  have q := hB_q (decide (0 < owSt D n f o p 0)) (decide (0 < owSt D n f o p 1)) (decide (0 < owSt D n f o p 2))
  rcases (show c = 0 ∨ c = 1 ∨ c = 2 by omega) with rfl | rfl | rfl
  · refine decide_eq_decide.mpr (q.1.trans ?_)
    rw [decide_eq_true_iff, decide_eq_false_iff_not, decide_eq_false_iff_not]
    omega
  · refine decide_eq_decide.mpr (q.2.1.trans ?_)
    rw [decide_eq_true_iff, decide_eq_false_iff_not, decide_eq_false_iff_not]
    omega
  · refine decide_eq_decide.mpr (q.2.2.trans ?_)
    rw [decide_eq_true_iff, decide_eq_false_iff_not, decide_eq_false_iff_not]
    omega
theorem judge_e (O : OwR h f o n D) {s x q : Nat} (h1 : fo o f ≤ s) (h2 : s < fo o f + om f) (hL9 : ∀ i, i < q → hL h (102 + 2 * x) i = hL h 124 (40 * x + i)) : jdR h (102 + 2 * x) s q = jgR h x q (fun p => owR D n s p) := by
  unfold jdR jgR
  rw [frW_cg (P := jdB h (102 + 2 * x) s) (Q := jgB h x (fun p => owR D n s p)) (fun p _ hp => by
    unfold jdB jgB
    rw [hL9 p (by omega), (O s h1 h2 p (by omega)).1])]
  rfl
end WHO
