/-! what is worth, hands, chains, who is how likely: as numbers (written by wip/p45/g96.py) -/
theorem cnW_cg {P Q : Nat → Bool} {a : Nat} : ∀ {m : Nat}, (∀ c, a ≤ c → c < a + m → P c = Q c) → cnW P a m = cnW Q a m := by
  intro m
  induction m with
  | zero => intro _; rfl
  | succ m ih =>
    intro h
    unfold cnW
    rw [ih (fun c h1 h2 => h c h1 (by omega)), h (a + m) (by omega) (by omega)]
theorem hnR_cg {P Q : Nat → Bool} : ∀ {m : Nat}, (∀ c, c < m → P c = Q c) → hnR P m = hnR Q m := by
  intro m
  induction m with
  | zero => intro _; rfl
  | succ m ih =>
    intro h
    unfold hnR
    rw [ih (fun c hc => h c (by omega)), h m (by omega)]
def hB (b0 b1 b2 : Bool) : Int32 := hnR (fun c => if c = 0 then b0 else if c = 1 then b1 else b2) 3
theorem hB_P {P : Nat → Bool} : hnR P 3 = hB (P 0) (P 1) (P 2) := hnR_cg (fun c hc => by
  rcases (show c = 0 ∨ c = 1 ∨ c = 2 by omega) with rfl | rfl | rfl <;> rfl)
theorem hB_0 : ∀ b0 b1 b2 : Bool, hB b0 b1 b2 ||| ((1 : Int32) <<< (nI 0 &&& 31)) = hB true b1 b2 := by decide +kernel
theorem hB_1 : ∀ b0 b1 b2 : Bool, hB b0 b1 b2 ||| ((1 : Int32) <<< (nI 1 &&& 31)) = hB b0 true b2 := by decide +kernel
theorem hB_2 : ∀ b0 b1 b2 : Bool, hB b0 b1 b2 ||| ((1 : Int32) <<< (nI 2 &&& 31)) = hB b0 b1 true := by decide +kernel
theorem hB_q : ∀ b0 b1 b2 : Bool, (hB b0 b1 b2 = (1 : Int32) <<< (nI 0 &&& 31) ↔ (b0 = true ∧ b1 = false ∧ b2 = false)) ∧ (hB b0 b1 b2 = (1 : Int32) <<< (nI 1 &&& 31) ↔ (b0 = false ∧ b1 = true ∧ b2 = false)) ∧ (hB b0 b1 b2 = (1 : Int32) <<< (nI 2 &&& 31) ↔ (b0 = false ∧ b1 = false ∧ b2 = true)) := by decide +kernel
theorem ev_hB {g : Nat → Int32} {w : Nat → Nat} {a : Nat} : ∀ {m : Nat}, (∀ s, a ≤ s → s < a + m → g s = nI (w s) ∧ w s < 3) → evR g a m = hB (decide (0 < cnW (fun s => decide (w s = 0)) a m)) (decide (0 < cnW (fun s => decide (w s = 1)) a m)) (decide (0 < cnW (fun s => decide (w s = 2)) a m)) ∧ cnW (fun s => decide (w s = 0)) a m + cnW (fun s => decide (w s = 1)) a m + cnW (fun s => decide (w s = 2)) a m = m := by
  intro m
  induction m with
  | zero => intro _; exact ⟨(show (0 : Int32) = hB false false false by decide +kernel), rfl⟩
  | succ m ih =>
    intro hg
    obtain ⟨i1, i2⟩ := ih (fun s h1 h2 => hg s h1 (by omega))
    obtain ⟨e, hw⟩ := hg (a + m) (by omega) (by omega)
    have c0 : ∀ k, cnW (fun s => decide (w s = k)) a (m + 1) = cnW (fun s => decide (w s = k)) a m + (if decide (w (a + m) = k) = true then 1 else 0) := fun k => rfl
    have ee : evR g a (m + 1) = evR g a m ||| ((1 : Int32) <<< (g (a + m) &&& 31)) := rfl
    rw [ee, i1, e, c0, c0, c0]
    rcases (show w (a + m) = 0 ∨ w (a + m) = 1 ∨ w (a + m) = 2 by omega) with q | q | q
    · rw [q, hB_0]
      exact ⟨by simp, by simp; omega⟩
    · rw [q, hB_1]
      exact ⟨by simp, by simp; omega⟩
    · rw [q, hB_2]
      exact ⟨by simp, by simp; omega⟩
theorem om_p : ∀ f, f ≤ 4 → 0 < om f := by decide
/-- what a club's hand is worth, as far as m PICKS; of all clubs; of STANDINGS -/
def wS (D : Nat → DD) (n s c : Nat) : Nat → Nat
  | 0 => 0
  | p + 1 => if ow D s p n = c then wS D n s c p + W3 (pl s p) else wS D n s c p
def tW (s : Nat) : Nat → Nat
  | 0 => 0
  | p + 1 => tW s p + W3 (pl s p)
def vS (D : Nat → DD) (n c a : Nat) : Nat → Nat
  | 0 => 0
  | m + 1 => vS D n c a m + wS D n (a + m) c 12
theorem W3_le (i : Nat) : W3 i ≤ 8 := by
  unfold W3
  rcases (show i = 0 ∨ i = 1 ∨ i = 2 ∨ 3 ≤ i by omega) with z | z | z | z
  · rw [z]; decide
  · rw [z]; decide
  · rw [z]; decide
  · rw [List.getD_eq_getElem?_getD, List.getElem?_eq_none (by show 3 ≤ i; exact z)]
    decide
theorem wu_S {h : HP} {s n c : Nat} {D : Nat → DD} (O : ∀ p, p < 12 → dgt (hI h 39 s) p = nI (ow D s p n)) (wo : ∀ p, ow D s p n < 3) (W : ∀ i, i < 3 → hI h 36 i = nI (W3 i)) (hc : c < 3) : ∀ m, m ≤ 12 → wuR h s (nI c) m = nI (wS D n s c m) := by
  intro m
  induction m with
  | zero => intro _; rfl
  | succ m ih =>
    intro hm
    rw [wuR_s, ih (by omega), O m (by omega), W _ (pl_lt s m)]
    have hw := wo m
    have e : wS D n s c (m + 1) = if ow D s m n = c then wS D n s c m + W3 (pl s m) else wS D n s c m := rfl
    rw [e]
    by_cases z : ow D s m n = c
    · rw [if_pos (by rw [z]), if_pos z, nI_add]
    · rw [if_neg (fun q => z ((nI_eq (by omega) (by omega)).mp q)), if_neg z]
theorem w3_sum {D : Nat → DD} {n s : Nat} (wo : ∀ p, ow D s p n < 3) : ∀ m, wS D n s 0 m + wS D n s 1 m + wS D n s 2 m = tW s m := by
  intro m
  induction m with
  | zero => rfl
  | succ m ih =>
    have e : ∀ c, wS D n s c (m + 1) = if ow D s m n = c then wS D n s c m + W3 (pl s m) else wS D n s c m := fun c => rfl
    have et : tW s (m + 1) = tW s m + W3 (pl s m) := rfl
    have hw := wo m
    rw [e, e, e, et]
    rcases (show ow D s m n = 0 ∨ ow D s m n = 1 ∨ ow D s m n = 2 by omega) with z | z | z
    · rw [z, if_pos rfl, if_neg (by decide), if_neg (by decide)]; omega
    · rw [z, if_pos rfl, if_neg (by decide), if_neg (by decide)]; omega
    · rw [z, if_pos rfl, if_neg (by decide), if_neg (by decide)]; omega
theorem y14 (s y : Nat) : W3 (pl s (y * 3 + 0)) + W3 (pl s (y * 3 + 1)) + W3 (pl s (y * 3 + 2)) = 14 := by
  rw [pl_y (by decide), pl_y (by decide), pl_y (by decide)]
  have key : ∀ q, q < 6 → W3 ([0, 1, 2, 0, 2, 1, 1, 0, 2, 2, 0, 1, 1, 2, 0, 2, 1, 0].getD (q * 3 + 0) 0) + W3 ([0, 1, 2, 0, 2, 1, 1, 0, 2, 2, 0, 1, 1, 2, 0, 2, 1, 0].getD (q * 3 + 1) 0) + W3 ([0, 1, 2, 0, 2, 1, 1, 0, 2, 2, 0, 1, 1, 2, 0, 2, 1, 0].getD (q * 3 + 2) 0) = 14 := by decide
  exact key _ (Nat.mod_lt _ (by decide))
theorem tW_56 (s : Nat) : tW s 12 = 56 := by
  have a0 : W3 (pl s 0) + W3 (pl s 1) + W3 (pl s 2) = 14 := y14 s 0
  have a1 : W3 (pl s 3) + W3 (pl s 4) + W3 (pl s 5) = 14 := y14 s 1
  have a2 : W3 (pl s 6) + W3 (pl s 7) + W3 (pl s 8) = 14 := y14 s 2
  have a3 : W3 (pl s 9) + W3 (pl s 10) + W3 (pl s 11) = 14 := y14 s 3
  simp only [tW]
  omega
theorem w56 {D : Nat → DD} {n s : Nat} (wo : ∀ p, ow D s p n < 3) : wS D n s 0 12 + wS D n s 1 12 + wS D n s 2 12 = 56 := (w3_sum wo 12).trans (tW_56 s)
theorem w_le {D : Nat → DD} {n s c : Nat} (wo : ∀ p, ow D s p n < 3) (hc : c < 3) : wS D n s c 12 ≤ 56 := by
  have := w56 (s := s) wo
  rcases (show c = 0 ∨ c = 1 ∨ c = 2 by omega) with rfl | rfl | rfl <;> omega
theorem wo_S {h : HP} {n c a : Nat} {D : Nat → DD} (W : ∀ i, i < 3 → hI h 36 i = nI (W3 i)) (hc : c < 3) (wo : ∀ s p, ow D s p n < 3) : ∀ m, (∀ s, a ≤ s → s < a + m → ∀ p, p < 12 → dgt (hI h 39 s) p = nI (ow D s p n)) → woR h (nI c) a m = lN (vS D n c a m) := by
  intro m
  induction m with
  | zero => intro _; rfl
  | succ m ih =>
    intro O
    have e1 : woR h (nI c) a (m + 1) = woR h (nI c) a m + (wuR h (a + m) (nI c) 12).toInt64 := rfl
    have e2 : vS D n c a (m + 1) = vS D n c a m + wS D n (a + m) c 12 := rfl
    have hl := w_le (s := a + m) (wo _) hc
    rw [e1, e2, ih (fun s h1 h2 => O s h1 (by omega)), wu_S (O (a + m) (by omega) (by omega)) (wo _) W hc 12 (Nat.le_refl _), nI_l (by omega), lN_add]
theorem v3_sum {D : Nat → DD} {n a : Nat} (wo : ∀ s p, ow D s p n < 3) : ∀ m, vS D n 0 a m + vS D n 1 a m + vS D n 2 a m = 56 * m := by
  intro m
  induction m with
  | zero => rfl
  | succ m ih =>
    have e : ∀ c, vS D n c a (m + 1) = vS D n c a m + wS D n (a + m) c 12 := fun c => rfl
    have := w56 (s := a + m) (wo _)
    rw [e, e, e]
    omega
theorem v_le {D : Nat → DD} {n a c m : Nat} (wo : ∀ s p, ow D s p n < 3) (hc : c < 3) : vS D n c a m ≤ 56 * m := by
  have := v3_sum (n := n) (a := a) wo m
  rcases (show c = 0 ∨ c = 1 ∨ c = 2 by omega) with rfl | rfl | rfl <;> omega
/-- never below nothing -/
theorem wu_pos {h : HP} {s : Nat} {y : Int32} (W : ∀ i, i < 3 → hI h 36 i = nI (W3 i)) : ∀ m, ∃ k, k ≤ 8 * m ∧ wuR h s y m = nI k := by
  intro m
  induction m with
  | zero => exact ⟨0, Nat.le_refl _, rfl⟩
  | succ m ih =>
    obtain ⟨k, h1, h2⟩ := ih
    rw [wuR_s, h2, W _ (pl_lt s m)]
    have := W3_le (pl s m)
    by_cases z : dgt (hI h 39 s) m = y
    · exact ⟨k + W3 (pl s m), by omega, by rw [if_pos z, nI_add]⟩
    · exact ⟨k, by omega, by rw [if_neg z]⟩
theorem wo_pos {h : HP} {a : Nat} {y : Int32} (W : ∀ i, i < 3 → hI h 36 i = nI (W3 i)) : ∀ m, m ≤ 1296 → ∃ k, k ≤ 96 * m ∧ woR h y a m = lN k := by
  intro m
  induction m with
  | zero => intro _; exact ⟨0, Nat.le_refl _, rfl⟩
  | succ m ih =>
    intro hm
    obtain ⟨k, h1, h2⟩ := ih (by omega)
    obtain ⟨j, h3, h4⟩ := wu_pos (h := h) (s := a + m) (y := y) W 12
    have e1 : woR h y a (m + 1) = woR h y a m + (wuR h (a + m) y 12).toInt64 := rfl
    exact ⟨k + j, by omega, by rw [e1, h2, h4, nI_l (by omega), lN_add]⟩
/-! hands -/
theorem hn_bit {P : Nat → Bool} : ∀ m, m ≤ 12 → ∀ k, k < 32 → btI (hnR P m) k = (decide (k < m) && P k) := by
  intro m
  induction m with
  | zero => intro _ k hk; rw [show hnR P 0 = 0 from rfl, bt0 k hk]; rfl
  | succ m ih =>
    intro hm k hk
    rw [hnR_s]
    by_cases z : P m = true
    · rw [if_pos z, btI_or, ih (by omega) k hk, btI_shl (by omega) hk, bt1 (k - m) (by omega)]
      by_cases e : k = m
      · rw [e, z]
        simp
      · by_cases y : k < m
        · rw [decide_eq_true y, decide_eq_true (show k < m + 1 by omega), decide_eq_false (show ¬ m ≤ k by omega)]
          simp
        · rw [decide_eq_false y, decide_eq_false (show ¬ k < m + 1 by omega), decide_eq_false (show ¬ k - m = 0 by omega)]
          simp
    · rw [if_neg z, ih (by omega) k hk]
      by_cases e : k = m
      · rw [e, Bool.eq_false_iff.mpr z]
        simp
      · by_cases y : k < m
        · rw [decide_eq_true y, decide_eq_true (show k < m + 1 by omega)]
        · rw [decide_eq_false y, decide_eq_false (show ¬ k < m + 1 by omega)]
/-- hands of clubs, one after another -/
def hP (D : Nat → DD) (n s c p : Nat) : Bool := decide (ow D s p n = c)
def aH (D : Nat → DD) (n s : Nat) : Nat → Int32
  | 0 => 0
  | c + 1 => aH D n s c ||| hnR (hP D n s c) 12
theorem aH_bit {D : Nat → DD} {n s : Nat} : ∀ c k, k < 32 → btI (aH D n s c) k = (decide (k < 12) && decide (ow D s k n < c)) := by
  intro c
  induction c with
  | zero =>
    intro k hk
    rw [show aH D n s 0 = 0 from rfl, bt0 k hk, decide_eq_false (Nat.not_lt_zero _), Bool.and_false]
  | succ c ih =>
    intro k hk
    rw [show aH D n s (c + 1) = aH D n s c ||| hnR (hP D n s c) 12 from rfl, btI_or, ih k hk, hn_bit 12 (Nat.le_refl _) k hk, ← Bool.and_or_distrib_left]
    congr 1
    unfold hP
    rw [← Bool.decide_or]
    exact decide_eq_decide.mpr (by omega)
theorem aH_and {D : Nat → DD} {n s c : Nat} : aH D n s c &&& hnR (hP D n s c) 12 = 0 := btI_ext (fun k hk => by
  rw [btI_and, aH_bit c k hk, hn_bit 12 (Nat.le_refl _) k hk, bt0 k hk]
  unfold hP
  by_cases z : ow D s k n < c
  · rw [decide_eq_false (show ¬ ow D s k n = c by omega)]
    simp
  · rw [decide_eq_false z]
    simp)
theorem bt4095 : ∀ k, k < 32 → btI 4095 k = decide (k < 12) := by decide +kernel
theorem aH_3 {D : Nat → DD} {n s : Nat} (wo : ∀ p, ow D s p n < 3) : aH D n s 3 = 4095 := btI_ext (fun k hk => by
  rw [aH_bit 3 k hk, bt4095 k hk, decide_eq_true (wo k), Bool.and_true])
/-- what clubs' hands are worth, one after another -/
def sW (D : Nat → DD) (n s : Nat) : Nat → Nat
  | 0 => 0
  | c + 1 => sW D n s c + wS D n s c 12
theorem sW_3 {D : Nat → DD} {n s : Nat} (wo : ∀ p, ow D s p n < 3) : sW D n s 3 = 56 := by
  have := w56 (s := s) wo
  simp only [sW]
  omega
/-! how often a club of a chain gives -/
def bW (d : DD) (s p c w : Nat) : Nat := if cvW d s w = some p ∧ (if w = 0 then dF d else dT d) = c then 1 else 0
def byN (D : Nat → DD) (s p c : Nat) : Nat → Nat
  | 0 => 0
  | q + 1 => byN D s p c q + bW (D q) s p c 0 + bW (D q) s p c 1
def gN (v : Int32) (N : Nat) : Prop := (v = -1 ∧ N = 0) ∨ (∃ t, t < 3 ∧ v = nI t ∧ N = 1) ∨ (v = 3 ∧ 2 ≤ N)
theorem gN_s {d : DD} (w9 : dWf d) {s p c w N : Nat} {v : Int32} (g : gN v N) : gN (gwQ d s p c w v) (N + bW d s p c w) := by
  unfold gwQ bW
  by_cases z : cvW d s w = some p ∧ (if w = 0 then dF d else dT d) = c
  · rw [if_pos z, if_pos z]
    rcases g with ⟨e1, e2⟩ | ⟨t, ht, e1, e2⟩ | ⟨e1, e2⟩
    · rw [if_pos e1]
      refine Or.inr (Or.inl ⟨_, ?_, rfl, by omega⟩)
      have h1 := w9.2.1
      have h2 := w9.2.2.1
      split <;> omega
    · rw [if_neg (fun y => absurd ((e1.symm.trans y) ▸ nI_pos' (n := t) (by omega)) (by decide))]
      exact Or.inr (Or.inr ⟨rfl, by omega⟩)
    · rw [if_neg (by rw [e1]; decide)]
      exact Or.inr (Or.inr ⟨rfl, by omega⟩)
  · rw [if_neg z, if_neg z]
    exact g
theorem gN_n {D : Nat → DD} {s p c : Nat} : ∀ n, (∀ k, k < n → dWf (D k)) → gN (gtV D s p c n) (byN D s p c n) := by
  intro n
  induction n with
  | zero => intro _; exact Or.inl ⟨rfl, rfl⟩
  | succ n ih =>
    intro w9
    rw [gtV_s]
    exact gN_s (w9 n (by omega)) (gN_s (w9 n (by omega)) (ih (fun k hk => w9 k (by omega))))
theorem by_L {D : Nat → DD} {n s p i : Nat} (w9 : ∀ k, k < n → dWf (D k)) (ok : okP D n s p) (hi : i < (chL D s p n).length) : byN D s p ((chL D s p n).getD i 0) n = if i + 1 < (chL D s p n).length then 1 else 0 := by
  obtain ⟨i1, i2, i3, i4, i5, i6, i7, i8⟩ := chL_I w9 ok
  have g := gN_n (s := s) (p := p) (c := (chL D s p n).getD i 0) n w9
  by_cases z : i + 1 < (chL D s p n).length
  · rw [if_pos z]
    have e := i7 i z
    have ht := i3 _ (getD_mem z)
    rcases g with ⟨e1, e2⟩ | ⟨t, ht2, e1, e2⟩ | ⟨e1, e2⟩
    · exact absurd ((e.symm.trans e1) ▸ nI_pos' (n := (chL D s p n).getD (i + 1) 0) (by omega)) (by decide)
    · exact e2
    · exact absurd ((nI_eq (b := 3) (by omega) (by decide)).mp (e.symm.trans e1)) (by omega)
  · rw [if_neg z]
    have e : gtV D s p ((chL D s p n).getD i 0) n = -1 := i8 _ (Or.inr (by rw [← i6, show i = (chL D s p n).length - 1 by omega]))
    rcases g with ⟨e1, e2⟩ | ⟨t, ht2, e1, e2⟩ | ⟨e1, e2⟩
    · exact e2
    · exact absurd ((e.symm.trans e1) ▸ nI_pos' (n := t) (by omega)) (by decide)
    · rw [e] at e1; exact absurd e1 (by decide)
/-! how likely, how sure -/
def cN (D : Nat → DD) (n p c a m : Nat) : Nat := cnW (fun s => decide (ow D s p n = c)) a m
theorem cN_sum {D : Nat → DD} {n p a m : Nat} (wo : ∀ s p, ow D s p n < 3) : cN D n p 0 a m + cN D n p 1 a m + cN D n p 2 a m = m := (ev_hB (g := fun s => nI (ow D s p n)) (w := fun s => ow D s p n) (fun s _ _ => ⟨rfl, wo s p⟩)).2
def oB (D : Nat → DD) (n p a m c : Nat) : Bool := decide (0 < cN D n p c a m)
theorem ev_oB {h : HP} {D : Nat → DD} {n p a m : Nat} (wo : ∀ s p, ow D s p n < 3) (O : ∀ s, a ≤ s → s < a + m → dgt (hI h 39 s) p = nI (ow D s p n)) : evR (fun s => dgt (hI h 39 s) p) a m = hB (oB D n p a m 0) (oB D n p a m 1) (oB D n p a m 2) := (ev_hB (w := fun s => ow D s p n) (fun s h1 h2 => ⟨O s h1 h2, wo s p⟩)).1
/-- the club that is sure -/
def sU (D : Nat → DD) (n p a m : Nat) : Option Nat := frW (fun k => decide (hB (oB D n p a m 0) (oB D n p a m 1) (oB D n p a m 2) = (1 : Int32) <<< (nI k &&& 31))) 0 3
theorem hB_sh : ∀ b0 b1 b2 : Bool, ∀ c, c < 3 → (hB b0 b1 b2 >>> (nI c &&& 31)) &&& 1 = if (if c = 0 then b0 else if c = 1 then b1 else b2) = true then 1 else 0 := by decide +kernel
theorem hB_bc : ∀ b0 b1 b2 : Bool, (b0 = true ∨ b1 = true ∨ b2 = true) → (∀ k, k < 3 → ¬ hB b0 b1 b2 = (1 : Int32) <<< (nI k &&& 31)) → 2 ≤ bcV (hB b0 b1 b2) := by decide +kernel
theorem hB_k : ∀ b0 b1 b2 : Bool, ∀ k, k < 3 → hB b0 b1 b2 = (1 : Int32) <<< (nI k &&& 31) → (∀ c, c < 3 → c ≠ k → (if c = 0 then b0 else if c = 1 then b1 else b2) = false) := by decide +kernel
theorem frW_nn {P : Nat → Bool} : ∀ {m a : Nat}, frW P a m = none → ∀ c, a ≤ c → c < a + m → P c = false := by
  intro m
  induction m with
  | zero => intro a _ c h1 h2; omega
  | succ m ih =>
    intro a h c h1 h2
    rw [frW_s] at h
    by_cases z : P a = true
    · rw [if_pos z] at h; cases h
    · rw [if_neg z] at h
      by_cases e : c = a
      · rw [e]; exact Bool.eq_false_iff.mpr z
      · exact ih h c (by omega) (by omega)
theorem oB_if {D : Nat → DD} {n p a m c : Nat} (hc : c < 3) : (if c = 0 then oB D n p a m 0 else if c = 1 then oB D n p a m 1 else oB D n p a m 2) = oB D n p a m c := by
  rcases (show c = 0 ∨ c = 1 ∨ c = 2 by omega) with rfl | rfl | rfl <;> rfl
theorem sU_s {D : Nat → DD} {n p a m k : Nat} (wo : ∀ s p, ow D s p n < 3) (h : sU D n p a m = some k) : k < 3 ∧ hB (oB D n p a m 0) (oB D n p a m 1) (oB D n p a m 2) = (1 : Int32) <<< (nI k &&& 31) ∧ cN D n p k a m = m := by
  obtain ⟨h1, _, h3⟩ := frW_some h
  have h1 := of_decide_eq_true h1
  have hk : k < 3 := by omega
  refine ⟨hk, h1, ?_⟩
  have q := hB_k _ _ _ k hk h1
  have s3 := cN_sum (n := n) (p := p) (a := a) (m := m) wo
  have z : ∀ c, c < 3 → c ≠ k → cN D n p c a m = 0 := fun c hc hck => by
    have := q c hc hck
    rw [oB_if hc] at this
    have := of_decide_eq_false this
    omega
  rcases (show k = 0 ∨ k = 1 ∨ k = 2 by omega) with rfl | rfl | rfl
  · have := z 1 (by decide) (by decide); have := z 2 (by decide) (by decide); omega
  · have := z 0 (by decide) (by decide); have := z 2 (by decide) (by decide); omega
  · have := z 0 (by decide) (by decide); have := z 1 (by decide) (by decide); omega
theorem sU_n {D : Nat → DD} {n p a m : Nat} (wo : ∀ s p, ow D s p n < 3) (hm : 0 < m) (h : sU D n p a m = none) : 2 ≤ bcV (hB (oB D n p a m 0) (oB D n p a m 1) (oB D n p a m 2)) := by
  have s3 := cN_sum (n := n) (p := p) (a := a) (m := m) wo
  refine hB_bc _ _ _ ?_ (fun k hk z => ?_)
  · by_cases z0 : 0 < cN D n p 0 a m
    · exact Or.inl (decide_eq_true z0)
    · by_cases z1 : 0 < cN D n p 1 a m
      · exact Or.inr (Or.inl (decide_eq_true z1))
      · exact Or.inr (Or.inr (decide_eq_true (show 0 < cN D n p 2 a m by omega)))
  · have := frW_nn h k (by omega) (by omega)
    exact absurd z (of_decide_eq_false this)
/-- what was sure stays so over fewer STANDINGS -/
theorem cN_all {D : Nat → DD} {n p k a : Nat} : ∀ m, cN D n p k a m = m → ∀ s, a ≤ s → s < a + m → ow D s p n = k := by
  intro m
  induction m with
  | zero => intro _ s h1 h2; omega
  | succ m ih =>
    intro h s h1 h2
    have hl : cN D n p k a m ≤ m := cnW_le m
    by_cases z : ow D (a + m) p n = k
    · have e : cN D n p k a (m + 1) = cN D n p k a m + 1 := cnW_t (decide_eq_true z)
      by_cases y : s = a + m
      · rw [y]; exact z
      · exact ih (by omega) s h1 (by omega)
    · have e : cN D n p k a (m + 1) = cN D n p k a m := cnW_f (decide_eq_false z)
      omega
theorem cN_of {D : Nat → DD} {n p k c a : Nat} : ∀ m, (∀ s, a ≤ s → s < a + m → ow D s p n = k) → cN D n p c a m = if c = k then m else 0 := by
  intro m
  induction m with
  | zero => intro _; show 0 = _; split <;> rfl
  | succ m ih =>
    intro h
    have i := ih (fun s h1 h2 => h s h1 (by omega))
    have z := h (a + m) (by omega) (by omega)
    by_cases y : c = k
    · have e : cN D n p c a (m + 1) = cN D n p c a m + 1 := cnW_t (decide_eq_true (z.trans y.symm))
      rw [e, i, if_pos y, if_pos y]
    · have e : cN D n p c a (m + 1) = cN D n p c a m := cnW_f (decide_eq_false (fun q => y (q.symm.trans z)))
      rw [e, i, if_neg y, if_neg y]
theorem sU_sub {D : Nat → DD} {n p k a m a2 m2 : Nat} (wo : ∀ s p, ow D s p n < 3) (h : sU D n p a m = some k) (h1 : a ≤ a2) (h2 : a2 + m2 ≤ a + m) (h3 : 0 < m2) : sU D n p a2 m2 = some k := by
  obtain ⟨hk, _, hc⟩ := sU_s wo h
  have hall := cN_all m hc
  have e : ∀ c, oB D n p a2 m2 c = decide (c = k) := fun c => by
    unfold oB
    rw [cN_of m2 (fun s g1 g2 => hall s (by omega) (by omega))]
    by_cases y : c = k
    · rw [if_pos y]; exact decide_eq_decide.mpr ⟨fun _ => y, fun _ => h3⟩
    · rw [if_neg y]; exact decide_eq_decide.mpr ⟨fun q => absurd q (Nat.lt_irrefl 0), fun q => absurd q y⟩
  unfold sU
  rw [e, e, e]
  have key : ∀ k, k < 3 → frW (fun j => decide (hB (decide (0 = k)) (decide (1 = k)) (decide (2 = k)) = (1 : Int32) <<< (nI j &&& 31))) 0 3 = some k := by decide +kernel
  exact key k hk
