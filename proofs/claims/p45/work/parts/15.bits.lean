/-! bits of longs -/
def bitL (x : Int64) (j : Nat) : Bool := x.toBitVec.getLsbD j
theorem sm64 : ∀ j, j < 64 → (((nI j).toInt64 &&& 63).toBitVec.smod 64).toNat = j := by decide +kernel
theorem bitL_and {x : Int64} {j : Nat} (hj : j < 64) : (x >>> ((nI j).toInt64 &&& 63)) &&& 1 = if bitL x j = true then 1 else 0 := by
  apply Int64.toBitVec_inj.mp
  rw [Int64.toBitVec_and, Int64.toBitVec_shiftRight]
  have h1 : (1 : Int64).toBitVec = 1#64 := rfl
  have hs := sm64 j hj
  apply BitVec.eq_of_getLsbD_eq
  intro i hi
  have e0 : ((if bitL x j = true then (1 : Int64) else 0).toBitVec).getLsbD i = (decide (i = 0) && bitL x j) := by
    by_cases hb : bitL x j = true
    · rw [if_pos hb, h1, hb, BitVec.getLsbD_one]
      simp [hi]
    · rw [if_neg hb]
      have : bitL x j = false := by simpa using hb
      rw [this, Bool.and_false]
      show (0#64).getLsbD i = false
      simp
  rw [e0, h1, BitVec.getLsbD_and, BitVec.getLsbD_one]
  by_cases hi0 : i = 0
  · subst hi0
    have e1 : (x.toBitVec.sshiftRight' (((nI j).toInt64 &&& 63).toBitVec.smod 64)).getLsbD 0 = bitL x j := by
      unfold BitVec.sshiftRight'
      rw [hs, BitVec.getLsbD_sshiftRight]
      have : j < 64 := hj
      simp [bitL, hj]
    rw [e1]
    simp
  · simp [hi0]
theorem lg_0 {x : Int64} : lg_cmp x 0 = 0 ↔ x = 0 := by
  unfold lg_cmp
  by_cases h1 : x > 0
  · rw [if_pos h1]
    refine ⟨fun h => absurd h (by decide), fun h => ?_⟩
    subst h
    exact absurd h1 (by decide)
  · rw [if_neg h1]
    by_cases h2 : x = 0
    · rw [if_pos h2]; exact ⟨fun _ => h2, fun _ => rfl⟩
    · rw [if_neg h2]
      exact ⟨fun h => absurd h (by decide), fun h => absurd h h2⟩
theorem bit_q {b : Bool} : lg_cmp (if b = true then (1 : Int64) else 0) 0 = 0 ↔ b = false := by
  rw [lg_0]
  cases b
  · exact ⟨fun _ => rfl, fun _ => rfl⟩
  · exact ⟨fun h => absurd h (by decide), fun h => absurd h (by decide)⟩
/-- a set of STANDINGS at sb -/
def StC (h : HP) (sb : Nat) (b : Nat → Bool) : Prop := Is h sb 7 ∧ ∃ wb, hR h sb 0 = some wb ∧ Is h wb 14 ∧ hN h wb = 21 ∧ ∀ s, s < 1296 → bitL (hL h wb (s / 64)) (s % 64) = b s
/-- a deal's object at a -/
def DealC (h : HP) (a : Nat) (d : DD) : Prop := 116 ≤ a ∧ Is h a 2 ∧ dWf d ∧ hI h a 0 = nI (dK d) ∧ hI h a 1 = nI (dF d) ∧ hI h a 2 = nI (dT d) ∧ hI h a 3 = nI (dP d) ∧ hI h a 4 = oI (dO d) ∧ hI h a 5 = nI (dN d) ∧
  ((dC d = false ∧ hR h a 6 = none) ∨ (dC d = true ∧ ∃ sb, hR h a 6 = some sb ∧ 116 ≤ sb ∧ StC h sb (dB d) ∧ ∀ wb, hR h sb 0 = some wb → 116 ≤ wb))
/-- what lies from 116 on stays -/
def Up (h h' : HP) : Prop := hZ h ≤ hZ h' ∧ ∀ a, 116 ≤ a → a < hZ h → (∀ i, hI h' a i = hI h a i ∧ hL h' a i = hL h a i ∧ hR h' a i = hR h a i) ∧ hT h' a = hT h a ∧ hN h' a = hN h a
theorem Up.rf (h : HP) : Up h h := ⟨Nat.le_refl _, fun _ _ _ => ⟨fun _ => ⟨rfl, rfl, rfl⟩, rfl, rfl⟩⟩
theorem Up.tr {h1 h2 h3 : HP} (a : Up h1 h2) (b : Up h2 h3) : Up h1 h3 := by
  refine ⟨Nat.le_trans a.1 b.1, fun x hx hx2 => ?_⟩
  obtain ⟨p1, p2, p3⟩ := a.2 x hx hx2
  obtain ⟨q1, q2, q3⟩ := b.2 x hx (Nat.lt_of_lt_of_le hx2 a.1)
  exact ⟨fun i => ⟨(q1 i).1.trans (p1 i).1, (q1 i).2.1.trans (p1 i).2.1, (q1 i).2.2.trans (p1 i).2.2⟩, q2.trans p2, q3.trans p3⟩
theorem Up.wI {h : HP} {b i : Nat} {v : Int32} (hb : b < 116) : Up h (wI h b i v) := ⟨Nat.le_refl _, fun a ha _ => ⟨fun j => ⟨up2_a (by omega), rfl, rfl⟩, rfl, rfl⟩⟩
theorem Up.wL {h : HP} {b i : Nat} {v : Int64} (hb : b < 116) : Up h (wL h b i v) := ⟨Nat.le_refl _, fun a ha _ => ⟨fun j => ⟨rfl, up2_a (by omega), rfl⟩, rfl, rfl⟩⟩
theorem Up.wR {h : HP} {b i : Nat} {v : Option Nat} (hb : b < 116) : Up h (wR h b i v) := ⟨Nat.le_refl _, fun a ha _ => ⟨fun j => ⟨rfl, rfl, up2_a (by omega)⟩, rfl, rfl⟩⟩
theorem Is.up {h h' : HP} (u : Up h h') {a t : Nat} (ha : 116 ≤ a) (k : Is h a t) : Is h' a t := ⟨k.1, Nat.lt_of_lt_of_le k.2.1 u.1, (u.2 a ha k.2.1).2.1.trans k.2.2⟩
theorem StC.up {h h' : HP} (u : Up h h') {sb : Nat} {b : Nat → Bool} (h1 : 116 ≤ sb) (h2 : ∀ wb, hR h sb 0 = some wb → 116 ≤ wb) (k : StC h sb b) : StC h' sb b := by
  obtain ⟨k1, wb, k2, k3, k4, k5⟩ := k
  have hw := h2 wb k2
  refine ⟨k1.up u h1, wb, ((u.2 sb h1 k1.2.1).1 0).2.2.trans k2, k3.up u hw, (u.2 wb hw k3.2.1).2.2.trans k4, fun s hs => ?_⟩
  rw [((u.2 wb hw k3.2.1).1 _).2.1]
  exact k5 s hs
theorem DealC.up {h h' : HP} (u : Up h h') {a : Nat} {d : DD} (k : DealC h a d) : DealC h' a d := by
  obtain ⟨k0, k1, k2, e0, e1, e2, e3, e4, e5, k3⟩ := k
  have q := (u.2 a k0 k1.2.1).1
  refine ⟨k0, k1.up u k0, k2, (q 0).1.trans e0, (q 1).1.trans e1, (q 2).1.trans e2, (q 3).1.trans e3, (q 4).1.trans e4, (q 5).1.trans e5, ?_⟩
  rcases k3 with ⟨c1, c2⟩ | ⟨c1, sb, c2, c3, c4, c5⟩
  · exact Or.inl ⟨c1, (q 6).2.2.trans c2⟩
  · refine Or.inr ⟨c1, sb, (q 6).2.2.trans c2, c3, c4.up u c3 c5, fun wb hw => c5 wb ?_⟩
    rw [← ((u.2 sb c3 c4.1.2.1).1 0).2.2]
    exact hw
