/-! the rows of Owners: two bits a PICK -/
def btI (x : Int32) (i : Nat) : Bool := x.toBitVec.getLsbD i
theorem sm32 : ∀ j, j < 32 → ((nI j &&& 31).toBitVec.smod 32).toNat = j := by decide +kernel
theorem btI_ext {x y : Int32} (h : ∀ i, i < 32 → btI x i = btI y i) : x = y := Int32.toBitVec_inj.mp (BitVec.eq_of_getLsbD_eq (fun i hi => h i hi))
theorem btI_or {x y : Int32} {i : Nat} : btI (x ||| y) i = (btI x i || btI y i) := by unfold btI; rw [Int32.toBitVec_or, BitVec.getLsbD_or]
theorem btI_and {x y : Int32} {i : Nat} : btI (x &&& y) i = (btI x i && btI y i) := by unfold btI; rw [Int32.toBitVec_and, BitVec.getLsbD_and]
theorem btI_xor {x y : Int32} {i : Nat} : btI (x ^^^ y) i = (btI x i ^^ btI y i) := by unfold btI; rw [Int32.toBitVec_xor, BitVec.getLsbD_xor]
theorem btI_shl {x : Int32} {j i : Nat} (hj : j < 32) (hi : i < 32) : btI (x <<< (nI j &&& 31)) i = (decide (j ≤ i) && btI x (i - j)) := by
  unfold btI
  rw [Int32.toBitVec_shiftLeft]
  show (x.toBitVec <<< ((nI j &&& 31).toBitVec.smod 32)).getLsbD i = _
  rw [BitVec.shiftLeft_eq', sm32 j hj, BitVec.getLsbD_shiftLeft]
  by_cases h : j ≤ i
  · simp [h, hi, Nat.not_lt.mpr h]
  · simp [h, Nat.lt_of_not_le h]
theorem btI_shr {x : Int32} {j i : Nat} (hj : j < 32) (hi : j + i < 32) : btI (x >>> (nI j &&& 31)) i = btI x (j + i) := by
  unfold btI
  rw [Int32.toBitVec_shiftRight]
  unfold BitVec.sshiftRight'
  rw [sm32 j hj, BitVec.getLsbD_sshiftRight]
  have : i < 32 := by omega
  simp [this, hi]
theorem btI_nI {n i : Nat} (hi : i < 32) : btI (nI n) i = n.testBit i := by
  unfold btI
  show (BitVec.ofNat 32 n).getLsbD i = _
  rw [BitVec.getLsbD_ofNat]
  simp [hi]
theorem btI_m1 : ∀ i, i < 32 → btI (-1) i = true := by decide +kernel
/-- the two bits of PICK p -/
def dgt (x : Int32) (p : Nat) : Int32 := (x >>> (nI (2 * p) &&& 31)) &&& 3
theorem dgt_bits {x y : Int32} {p q : Nat} (hp : p < 12) (hq : q < 12) (h0 : btI x (2 * p) = btI y (2 * q)) (h1 : btI x (2 * p + 1) = btI y (2 * q + 1)) : dgt x p = dgt y q := by
  unfold dgt
  apply btI_ext
  intro i hi
  rw [btI_and, btI_and]
  have h3 : btI 3 i = decide (i < 2) := by
    have key : ∀ i, i < 32 → btI 3 i = decide (i < 2) := by decide +kernel
    exact key i hi
  rw [h3]
  by_cases hi2 : i < 2
  · rw [btI_shr (by omega) (by omega), btI_shr (by omega) (by omega)]
    have : i = 0 ∨ i = 1 := by omega
    rcases this with rfl | rfl
    · rw [Nat.add_zero, Nat.add_zero, h0]
    · rw [h1]
  · simp [hi2]
/-- what give leaves of a row -/
def gvr (x : Int32) (q c : Nat) : Int32 := (x &&& (((3 : Int32) <<< (nI (2 * q) &&& 31)) ^^^ (-1))) ||| (nI c <<< (nI (2 * q) &&& 31))
theorem gvr_bit {x : Int32} {q c i : Nat} (hq : q < 12) (hc : c < 3) (hi : i < 24) : btI (gvr x q c) i = if i / 2 = q then c.testBit (i - 2 * q) else btI x i := by
  unfold gvr
  rw [btI_or, btI_and, btI_xor, btI_shl (by omega) (by omega), btI_shl (by omega) (by omega), btI_m1 i (by omega), btI_nI (by omega)]
  have h3 : ∀ j, j < 32 → btI 3 j = decide (j < 2) := by decide +kernel
  rw [h3 _ (by omega)]
  by_cases h : i / 2 = q
  · rw [if_pos h]
    have e1 : decide (2 * q ≤ i) = true := decide_eq_true (by omega)
    have e2 : decide (i - 2 * q < 2) = true := decide_eq_true (by omega)
    rw [e1, e2]
    simp
  · rw [if_neg h]
    by_cases h2 : 2 * q ≤ i
    · have e1 : decide (2 * q ≤ i) = true := decide_eq_true h2
      have e2 : decide (i - 2 * q < 2) = false := decide_eq_false (by omega)
      have e3 : c.testBit (i - 2 * q) = false := Nat.testBit_lt_two_pow (Nat.lt_of_lt_of_le (show c < 2 ^ 2 by omega) (Nat.pow_le_pow_right (by decide) (by omega)))
      rw [e1, e2, e3]
      simp
    · have e1 : decide (2 * q ≤ i) = false := decide_eq_false h2
      rw [e1]
      simp
theorem dgt_give {x : Int32} {q c p : Nat} (hq : q < 12) (hc : c < 3) (hp : p < 12) : dgt (gvr x q c) p = if p = q then nI c else dgt x p := by
  by_cases h : p = q
  · subst h
    rw [if_pos rfl]
    have e : dgt (gvr x p c) p = dgt (nI c) 0 := dgt_bits hp (by decide) (by
      rw [gvr_bit hp hc (by omega), if_pos (by omega), btI_nI (by omega)]; congr 1; omega) (by
      rw [gvr_bit hp hc (by omega), if_pos (by omega), btI_nI (by omega)]; congr 1; omega)
    rw [e]
    have key : ∀ c, c < 3 → dgt (nI c) 0 = nI c := by decide +kernel
    exact key c hc
  · rw [if_neg h]
    exact dgt_bits hp hp (by rw [gvr_bit hq hc (by omega), if_neg (by omega)]) (by rw [gvr_bit hq hc (by omega), if_neg (by omega)])
theorem dgt_start : ∀ p, p < 12 → dgt 9586980 p = nI (p % 3) := by decide +kernel
/-- a row holds OWNERS -/
def RowC (h : HP) (s : Nat) (g : Nat → Nat) : Prop := ∀ p, p < 12 → dgt (hI h 39 s) p = nI (g p)
