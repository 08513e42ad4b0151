/-! one item of a TEXT, as a function of THE TAPE (written by wip/whole/g72.py) -/
abbrev IR : Type := Option DD × PT
def it6 (bt : Nat → Int32) (l : Nat) (D : Nat → DD) (n : Nat) (E : Nat → DD) (c : Nat) (a b pk k : Nat) (q : Option Nat) (m : Nat) (p : PT) : IR := if tkQ bt p 8 = true then (if (anyF (oneF bt l D n E c 6) bt l (nxT bt l p)).1 = true then (some (k, a, b, pk, q, m, true, (anyF (oneF bt l D n E c 6) bt l (nxT bt l p)).2.2), (anyF (oneF bt l D n E c 6) bt l (nxT bt l p)).2.1) else (none, (anyF (oneF bt l D n E c 6) bt l (nxT bt l p)).2.1)) else (some (dNo k a b pk q m), p)
def it5 (bt : Nat → Int32) (l : Nat) (D : Nat → DD) (n : Nat) (E : Nat → DD) (c : Nat) (a b pk k : Nat) (q : Option Nat) (p : PT) : IR := if k = 0 ∨ k = 2 then it6 bt l D n E c a b pk k q 0 p else if tnV bt l p (nI 1) (nI 2) (-1) < 0 then (none, tnX bt l p (nI 1) (nI 2) (-1)) else it6 bt l D n E c a b pk k q (tnV bt l p (nI 1) (nI 2) (-1)).toNatClampNeg (tnX bt l p (nI 1) (nI 2) (-1))
def it4 (bt : Nat → Int32) (l : Nat) (D : Nat → DD) (n : Nat) (E : Nat → DD) (c : Nat) (a b pk k : Nat) (p : PT) : IR := if k = 2 ∨ k = 5 then (if tnV bt l p (nI (pk / 3 * 3)) (nI (pk / 3 * 3 + 2)) (nI pk) < 0 then (none, tnX bt l p (nI (pk / 3 * 3)) (nI (pk / 3 * 3 + 2)) (nI pk)) else it5 bt l D n E c a b pk k (some (tnV bt l p (nI (pk / 3 * 3)) (nI (pk / 3 * 3 + 2)) (nI pk)).toNatClampNeg) (tnX bt l p (nI (pk / 3 * 3)) (nI (pk / 3 * 3 + 2)) (nI pk))) else it5 bt l D n E c a b pk k none p
def it3 (bt : Nat → Int32) (l : Nat) (D : Nat → DD) (n : Nat) (E : Nat → DD) (c : Nat) (f a b : Nat) (p : PT) : IR := if tnV bt l p (nI (f * 3)) (nI 11) (-1) < 0 then (none, tnX bt l p (nI (f * 3)) (nI 11) (-1)) else it4 bt l D n E c a b (tnV bt l p (nI (f * 3)) (nI 11) (-1)).toNatClampNeg (krd bt l (tnX bt l p (nI (f * 3)) (nI 11) (-1))).1 (krd bt l (tnX bt l p (nI (f * 3)) (nI 11) (-1))).2
def it2 (bt : Nat → Int32) (l : Nat) (D : Nat → DD) (n : Nat) (E : Nat → DD) (c : Nat) (f a : Nat) (p : PT) : IR := if tnV bt l p (nI 0) (nI 2) (nI a) < 0 then (none, tnX bt l p (nI 0) (nI 2) (nI a)) else if tkQ bt (tnX bt l p (nI 0) (nI 2) (nI a)) 2 = true then it3 bt l D n E c f a (tnV bt l p (nI 0) (nI 2) (nI a)).toNatClampNeg (nxT bt l (tnX bt l p (nI 0) (nI 2) (nI a))) else (none, tnX bt l p (nI 0) (nI 2) (nI a))
def it1 (bt : Nat → Int32) (l : Nat) (D : Nat → DD) (n : Nat) (E : Nat → DD) (c : Nat) (f : Nat) (p : PT) : IR := if tnV bt l p (nI 0) (nI 2) (-1) < 0 then (none, tnX bt l p (nI 0) (nI 2) (-1)) else if tkQ bt (tnX bt l p (nI 0) (nI 2) (-1)) 1 = true then it2 bt l D n E c f (tnV bt l p (nI 0) (nI 2) (-1)).toNatClampNeg (nxT bt l (tnX bt l p (nI 0) (nI 2) (-1))) else (none, tnX bt l p (nI 0) (nI 2) (-1))
def itF (bt : Nat → Int32) (l : Nat) (D : Nat → DD) (n : Nat) (E : Nat → DD) (c : Nat) (f : Nat) (p : PT) : IR := if 12 ≤ n + c then (none, p) else if tkQ bt p 0 = true then it1 bt l D n E c f (nxT bt l p) else (none, p)
/-- what the numbers of an item are -/
def itW (a b pk k : Nat) (q : Option Nat) (m : Nat) : Prop := k < 6 ∧ a < 3 ∧ b < 3 ∧ a ≠ b ∧ pk < 12 ∧ ((k = 2 ∨ k = 5) ↔ q.isSome = true) ∧ (∀ x, q = some x → x < 12 ∧ x ≠ pk ∧ x / 3 = pk / 3) ∧ m ≤ 2 ∧ (k = 0 ∨ k = 2 ↔ m = 0)
theorem itW_n {a b pk k m : Nat} {q : Option Nat} (w : itW a b pk k q m) : dWf (dNo k a b pk q m) := ⟨w.1, w.2.1, w.2.2.1, w.2.2.2.1, w.2.2.2.2.1, w.2.2.2.2.2.1, w.2.2.2.2.2.2.1, w.2.2.2.2.2.2.2.1, w.2.2.2.2.2.2.2.2, fun _ _ => rfl⟩
theorem itW_c {a b pk k m : Nat} {q : Option Nat} {S : Nat → Bool} (w : itW a b pk k q m) : dWf (k, a, b, pk, q, m, true, S) := ⟨w.1, w.2.1, w.2.2.1, w.2.2.2.1, w.2.2.2.2.1, w.2.2.2.2.2.1, w.2.2.2.2.2.2.1, w.2.2.2.2.2.2.2.1, w.2.2.2.2.2.2.2.2, fun e => Bool.noConfusion e⟩
theorem tn_R {bt : Nat → Int32} {l : Nat} {p : PT} {w : Int32} {lo hi9 : Nat} (h1 : lo < 1000) (h2 : hi9 < 1000) (z : ¬ tnV bt l p (nI lo) (nI hi9) w < 0) : ∃ j, lo ≤ j ∧ j ≤ hi9 ∧ tnV bt l p (nI lo) (nI hi9) w = nI j ∧ ¬ nI j = w ∧ tkN bt l p.1 p.2 = nI j ∧ tnX bt l p (nI lo) (nI hi9) w = nxT bt l p := by
  unfold tnV at z ⊢
  unfold tnX
  by_cases q : tnB bt l p (nI lo) (nI hi9) w = true
  · rw [if_pos q] at z
    exact absurd (by decide) z
  · rw [if_neg q] at z ⊢
    rw [if_neg q]
    have q2 : ¬ (tkN bt l p.1 p.2 < nI lo ∨ nI hi9 < tkN bt l p.1 p.2 ∨ tkN bt l p.1 p.2 = w) := fun y => q (decide_eq_true y)
    obtain ⟨j, hj, e⟩ := nI_of z
    rw [e] at q2 ⊢
    refine ⟨j, Nat.not_lt.mp (fun y => q2 (Or.inl (nI_lt y (by omega)))), Nat.not_lt.mp (fun y => q2 (Or.inr (Or.inl (nI_lt y hj)))), rfl, fun y => q2 (Or.inr (Or.inr y)), rfl, rfl⟩
theorem krd_6 {bt : Nat → Int32} {l : Nat} {p : PT} : (krd bt l p).1 < 6 := by
  unfold krd
  repeat' split
  all_goals exact Nat.le_of_ble_eq_true rfl
theorem okp_k {bt : Nat → Int32} {l : Nat} {p : PT} (z : okp l p) : okp l (krd bt l p).2 := by
  unfold krd
  repeat' split
  all_goals first | exact okp_n z | exact z
theorem TkI_k {bt : Nat → Int32} {l : Nat} {p : PT} (z : TkI bt l p) : TkI bt l (krd bt l p).2 := by
  unfold krd
  repeat' split
  all_goals first | exact TkI_n z.1.2 | exact z
theorem okp_6 {bt : Nat → Int32} {l n c : Nat} {D E : Nat → DD} {a b pk k m : Nat} {q : Option Nat} {p : PT} (z : okp l p) : okp l (it6 bt l D n E c a b pk k q m p).2 := by
  unfold it6
  have h := okF_any (bt := bt) (okF_one (bt := bt) (l := l) (D := D) (n := n) (E := E) (c := c) 6) (nxT bt l p) (okp_n z)
  split
  · split <;> exact h
  · exact z
theorem okp_5 {bt : Nat → Int32} {l n c : Nat} {D E : Nat → DD} {a b pk k : Nat} {q : Option Nat} {p : PT} (z : okp l p) : okp l (it5 bt l D n E c a b pk k q p).2 := by
  unfold it5
  split
  · exact okp_6 z
  · split
    · exact okp_t z
    · exact okp_6 (okp_t z)
theorem okp_4 {bt : Nat → Int32} {l n c : Nat} {D E : Nat → DD} {a b pk k : Nat} {p : PT} (z : okp l p) : okp l (it4 bt l D n E c a b pk k p).2 := by
  unfold it4
  split
  · split
    · exact okp_t z
    · exact okp_5 (okp_t z)
  · exact okp_5 z
theorem okp_3 {bt : Nat → Int32} {l n c : Nat} {D E : Nat → DD} {f a b : Nat} {p : PT} (z : okp l p) : okp l (it3 bt l D n E c f a b p).2 := by
  unfold it3
  split
  · exact okp_t z
  · exact okp_4 (okp_k (okp_t z))
theorem okp_2 {bt : Nat → Int32} {l n c : Nat} {D E : Nat → DD} {f a : Nat} {p : PT} (z : okp l p) : okp l (it2 bt l D n E c f a p).2 := by
  unfold it2
  split
  · exact okp_t z
  · split
    · exact okp_3 (okp_n (okp_t z))
    · exact okp_t z
theorem okp_1 {bt : Nat → Int32} {l n c : Nat} {D E : Nat → DD} {f : Nat} {p : PT} (z : okp l p) : okp l (it1 bt l D n E c f p).2 := by
  unfold it1
  split
  · exact okp_t z
  · split
    · exact okp_2 (okp_n (okp_t z))
    · exact okp_t z
theorem okp_I {bt : Nat → Int32} {l n c : Nat} {D E : Nat → DD} {f : Nat} {p : PT} (z : okp l p) : okp l (itF bt l D n E c f p).2 := by
  unfold itF
  split
  · exact z
  · split
    · exact okp_1 (okp_n z)
    · exact z
theorem it6_W {bt : Nat → Int32} {l n c : Nat} {D E : Nat → DD} {a b pk k m : Nat} {q : Option Nat} {p : PT} (w : itW a b pk k q m) : ∀ d, (it6 bt l D n E c a b pk k q m p).1 = some d → dWf d := by
  intro d
  unfold it6
  split
  · split
    · intro e; injection e with e; rw [← e]; exact itW_c w
    · intro e; cases e
  · intro e; injection e with e; rw [← e]; exact itW_n w
/-- a state that may be wrong already -/
def wIt (u : SM) (g : PT → IR) : IR := if u.1 = true then (none, u.2) else g u.2
theorem wIt_t {p : PT} {g : PT → IR} : wIt (true, p) g = (none, p) := rfl
theorem wIt_f {p : PT} {g : PT → IR} : wIt (false, p) g = g p := rfl
theorem wIt_d {x : Bool} {p : PT} {g : PT → IR} (h : x = true) : wIt (x, p) g = (none, p) := if_pos h
theorem wIt_e {x : Bool} {p : PT} {g : PT → IR} (h : ¬ x = true) : wIt (x, p) g = g p := if_neg h
/-- NUMBERS and what must stand next, from a state on -/
theorem st_n {bt : Nat → Int32} {l : Nat} {p : PT} {lo hi9 : Nat} (h1 : lo < 1000) (h2 : hi9 < 1000) : (tnV bt l p (nI lo) (nI hi9) (-1) < 0 ∧ nmF bt l (nI lo) (nI hi9) (false, p) = (true, tnX bt l p (nI lo) (nI hi9) (-1))) ∨ ∃ j, lo ≤ j ∧ j ≤ hi9 ∧ ¬ tnV bt l p (nI lo) (nI hi9) (-1) < 0 ∧ (tnV bt l p (nI lo) (nI hi9) (-1)).toNatClampNeg = j ∧ nmF bt l (nI lo) (nI hi9) (false, p) = (false, tnX bt l p (nI lo) (nI hi9) (-1)) ∧ nmV bt l (nI lo) (nI hi9) (false, p) = nI j := by
  obtain ⟨e1, e2⟩ := nm_f (bt := bt) (l := l) (p := p) (lo := nI lo) (hi9 := nI hi9) (nI_pos' (by omega))
  by_cases z : tnV bt l p (nI lo) (nI hi9) (-1) < 0
  · exact Or.inl ⟨z, by rw [e1, decide_eq_true z]⟩
  · obtain ⟨j, j1, j2, j3, _⟩ := tn_R h1 h2 z
    exact Or.inr ⟨j, j1, j2, z, by rw [j3, cl (by omega)], by rw [e1, decide_eq_false z], (e2 z).trans j3⟩
theorem st_m {bt : Nat → Int32} {l : Nat} {q : Bool} {u : SM} {g : PT → IR} : wIt (mF bt l q u) g = wIt u (fun p => if q = true then g (nxT bt l p) else (none, p)) := by
  obtain ⟨w, p⟩ := u
  cases w
  · cases q
    · rfl
    · rfl
  · rfl
