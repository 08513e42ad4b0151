/-! deals, as mathematics -/
/-- KIND, FROM, TO, PICK, the other PICK, n, whether a CONDITION was told, where it holds -/
abbrev DD : Type := Nat × Nat × Nat × Nat × Option Nat × Nat × Bool × (Nat → Bool)
abbrev dK (d : DD) : Nat := d.1
abbrev dF (d : DD) : Nat := d.2.1
abbrev dT (d : DD) : Nat := d.2.2.1
abbrev dP (d : DD) : Nat := d.2.2.2.1
abbrev dO (d : DD) : Option Nat := d.2.2.2.2.1
abbrev dN (d : DD) : Nat := d.2.2.2.2.2.1
abbrev dC (d : DD) : Bool := d.2.2.2.2.2.2.1
abbrev dB (d : DD) : Nat → Bool := d.2.2.2.2.2.2.2
abbrev dV (d : DD) : Nat := (dO d).getD 0
/-- a deal as the acts make them -/
def dWf (d : DD) : Prop := dK d < 6 ∧ dF d < 3 ∧ dT d < 3 ∧ dF d ≠ dT d ∧ dP d < 12 ∧ ((dK d = 2 ∨ dK d = 5) ↔ (dO d).isSome = true) ∧ (∀ q, dO d = some q → q < 12 ∧ q ≠ dP d ∧ q / 3 = dP d / 3) ∧ dN d ≤ 2 ∧ (dK d = 0 ∨ dK d = 2 ↔ dN d = 0) ∧ (dC d = false → ∀ s, dB d s = true)
def roll (s : Nat) : Nat → Nat → Nat → Option Nat
  | 0, _, _ => none
  | k + 1, p, n => if 12 ≤ p then none else if n ≤ pl s p then some p else roll s k (p + 3) (n - 1)
/-- what a deal gives with a CONDITION that holds -/
def gvk (d : DD) (s : Nat) : Option Nat :=
  if dK d = 1 then (if dN d ≤ pl s (dP d) then some (dP d) else none)
  else if dK d = 2 then (if pl s (dV d) + 1 ≤ pl s (dP d) then some (dP d) else none)
  else if dK d = 3 then roll s 4 (dP d) (dN d)
  else if dK d = 4 then (if pl s (dP d) < dN d then some (dP d) else none)
  else if dK d = 5 then (if pl s (dV d) + dN d ≤ pl s (dP d) then some (dP d) else none)
  else some (dP d)
def gv (d : DD) (s : Nat) : Option Nat := if dB d s = true then gvk d s else none
def gb (d : DD) (s : Nat) : Option Nat := if (gv d s).isSome = true then dO d else none
/-- to whom it conveys a PICK, and from whom -/
def tk (d : DD) (s p : Nat) : Option Nat := if dO d = some p then (if (gv d s).isSome = true then some (dF d) else none) else if gv d s = some p then some (dT d) else none
def gr (d : DD) (p : Nat) : Nat := if dO d = some p then dT d else dF d
theorem roll_lt {s : Nat} : ∀ {k p n q : Nat}, roll s k p n = some q → q < 12 ∧ p ≤ q ∧ q % 3 = p % 3
  | 0, _, _, _, h => by cases h
  | k + 1, p, n, q, h => by
    unfold roll at h
    split at h
    · cases h
    · split at h
      · cases h; omega
      · have := roll_lt h; omega
theorem gv_ok {d : DD} (w : dWf d) {s q : Nat} (h : gv d s = some q) : q < 12 ∧ (q = dP d ∨ (dK d = 3 ∧ dP d ≤ q ∧ q % 3 = dP d % 3)) := by
  obtain ⟨w1, w2, w3, w4, w5, w6, w7, w8, w9⟩ := w
  unfold gv at h
  split at h
  · unfold gvk at h
    split at h
    · split at h
      · cases h; exact ⟨w5, Or.inl rfl⟩
      · cases h
    · split at h
      · split at h
        · cases h; exact ⟨w5, Or.inl rfl⟩
        · cases h
      · split at h
        · next h3 =>
          have := roll_lt h
          exact ⟨this.1, Or.inr ⟨h3, this.2⟩⟩
        · split at h
          · split at h
            · cases h; exact ⟨w5, Or.inl rfl⟩
            · cases h
          · split at h
            · split at h
              · cases h; exact ⟨w5, Or.inl rfl⟩
              · cases h
            · cases h; exact ⟨w5, Or.inl rfl⟩
  · cases h
theorem gb_ok {d : DD} (w : dWf d) {s q : Nat} (h : gb d s = some q) : q < 12 ∧ dO d = some q ∧ ∃ g, gv d s = some g ∧ g = dP d ∧ g ≠ q := by
  unfold gb at h
  split at h
  · next hs =>
    obtain ⟨g, hg⟩ := Option.isSome_iff_exists.mp hs
    have h1 := w.2.2.2.2.2.2.1 q h
    refine ⟨h1.1, h, g, hg, ?_⟩
    rcases (gv_ok w hg).2 with e | ⟨e, -⟩
    · exact ⟨e, fun z => h1.2.1 (by rw [← z, e])⟩
    · have := w.2.2.2.2.2.1.mpr (by rw [h]; rfl)
      omega
  · cases h
theorem tk_lt {d : DD} (w : dWf d) {s p t : Nat} (h : tk d s p = some t) : t < 3 ∧ gr d p < 3 ∧ gr d p ≠ t := by
  unfold tk at h
  unfold gr
  split at h
  · next ho =>
    split at h
    · cases h
      rw [if_pos ho]
      exact ⟨w.2.1, w.2.2.1, fun z => w.2.2.2.1 z.symm⟩
    · cases h
  · next ho =>
    split at h
    · cases h
      rw [if_neg ho]
      exact ⟨w.2.2.1, w.2.1, w.2.2.2.1⟩
    · cases h
/-- the last of the CHAIN, and who was in it, as the first k deals have it; the latter as a set -/
def ow (D : Nat → DD) (s p : Nat) : Nat → Nat
  | 0 => p % 3
  | k + 1 => (tk (D k) s p).getD (ow D s p k)
def vs (D : Nat → DD) (s p : Nat) : Nat → Nat → Bool
  | 0, c => decide (c = p % 3)
  | k + 1, c => vs D s p k c || decide (tk (D k) s p = some c)
def hm (D : Nat → DD) (s p : Nat) : Nat → Nat
  | 0 => 2 ^ (p % 3)
  | k + 1 => match tk (D k) s p with
    | some t => hm D s p k ||| 2 ^ t
    | none => hm D s p k
theorem ow_lt {D : Nat → DD} {s p : Nat} : ∀ {k : Nat}, (∀ j, j < k → dWf (D j)) → ow D s p k < 3
  | 0, _ => Nat.mod_lt _ (by decide)
  | k + 1, w => by
    unfold ow
    cases h : tk (D k) s p with
    | none => exact ow_lt (fun j hj => w j (by omega))
    | some t => exact (tk_lt (w k (by omega)) h).1
theorem hm_lt {D : Nat → DD} {s p : Nat} : ∀ {k : Nat}, (∀ j, j < k → dWf (D j)) → hm D s p k < 8
  | 0, _ => by
    have h1 : p % 3 < 3 := Nat.mod_lt _ (by decide)
    unfold hm
    have : p % 3 = 0 ∨ p % 3 = 1 ∨ p % 3 = 2 := by omega
    rcases this with h | h | h <;> rw [h] <;> decide
  | k + 1, w => by
    have ih := hm_lt (D := D) (s := s) (p := p) (k := k) (fun j hj => w j (by omega))
    unfold hm
    cases h : tk (D k) s p with
    | none => exact ih
    | some t =>
      have ht := (tk_lt (w k (by omega)) h).1
      exact Nat.or_lt_two_pow (n := 3) ih (Nat.pow_lt_pow_right (by decide) ht)
theorem hm_vs {D : Nat → DD} {s p c : Nat} : ∀ {k : Nat}, (hm D s p k).testBit c = vs D s p k c
  | 0 => by
    unfold hm vs
    rw [Nat.testBit_two_pow]
    exact decide_eq_decide.mpr ⟨fun h => h.symm, fun h => h.symm⟩
  | k + 1 => by
    have ih := hm_vs (D := D) (s := s) (p := p) (c := c) (k := k)
    unfold hm vs
    cases h : tk (D k) s p with
    | none => simp [ih]
    | some t =>
      rw [Nat.testBit_or, ih, Nat.testBit_two_pow]
      congr 1
      simp
/-- how one more move of p from g to t would CLASH -/
def cls (D : Nat → DD) (n s p g t : Nat) : Option Nat := if vs D s p n g = false then some 2 else if ow D s p n ≠ g then some 0 else if vs D s p n t = true then some 1 else none
