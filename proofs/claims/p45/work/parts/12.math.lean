/-! numbers and words of the document, as mathematics -/
/-- fewer locals -/
def subL : ZL → ZL → Prop
  | [], _ => True
  | (i, v) :: r, ls => gL ls i = v ∧ subL r ls
theorem subL_ok {ls' ls : ZL} (h : subL ls' ls) : ∀ i v, gL ls' i = some v → gL ls i = some v := by
  induction ls' with
  | nil => intro i v h; cases h
  | cons q r ih =>
    intro i v hv
    obtain ⟨j, w⟩ := q
    obtain ⟨h1, h2⟩ := h
    simp only [gL] at hv
    by_cases hi : i = j
    · subst hi
      rw [if_pos rfl] at hv
      rw [h1, hv]
    · rw [if_neg hi] at hv
      exact ih h2 i v hv
theorem e_ls {X : EX} {y : MD} {d mc ms : Nat} {Q : Option VV → HP → Prop} {cells slots pc : Nat} {ls ls' : ZL} {st : List VV} {h : HP} (hs : subL ls' ls) (k : Ev X y d mc ms Q cells slots pc ls' st h) : Ev X y d mc ms Q cells slots pc ls st h := by
  intro p e s m args below meth c H locs lsr C hC hS hl
  obtain ⟨lv, hv, hg⟩ := hl
  exact k p e s m args below meth c H locs lsr C hC hS ⟨lv, hv, fun i v q => hg i v (subL_ok hs i v q)⟩
theorem nI_small {n N : Nat} (h : n < N) (hN : N ≤ 2147483648) : n < 2 ^ 31 := Nat.lt_of_lt_of_le h hN
theorem vin {n N : Nat} (h : n < N) (hN : N ≤ 1073741824 := by decide) : vp_in (nI n) N := vp_in_nI h (Nat.lt_of_le_of_lt hN (by decide))
theorem cl {n : Nat} (h : n < 1073741824) : (nI n).toNatClampNeg = n := nI_clamp (Nat.lt_trans h (by decide))
/-- a place's number, or -1 -/
def oI : Option Nat → Int32
  | some p => nI p
  | none => -1
/-- what one ORDER more of a YEAR adds; how many STANDINGS are OPEN -/
def stp (y : Nat) : Nat := [216, 36, 6, 1].getD y 0
def om (f : Nat) : Nat := [1296, 216, 36, 6, 1].getD f 0
/-- the first OPEN STANDING -/
def fo (o : Nat → Nat) : Nat → Nat
  | 0 => 0
  | f + 1 => fo o f + o f * stp f
/-- the place of a PICK under a STANDING -/
def pl (s p : Nat) : Nat := [0, 1, 2, 0, 2, 1, 1, 0, 2, 2, 0, 1, 1, 2, 0, 2, 1, 0].getD (s / stp (p / 3) % 6 * 3 + p % 3) 0
theorem om_fo {o : Nat → Nat} : ∀ {f : Nat}, f ≤ 4 → (∀ y, y < f → o y < 6) → fo o f + om f ≤ 1296
  | 0, _, _ => by show 0 + om 0 ≤ 1296; decide
  | f + 1, h, ho => by
    have h1 := om_fo (f := f) (by omega) (fun y hy => ho y (by omega))
    have h2 := ho f (by omega)
    have hf : f = 0 ∨ f = 1 ∨ f = 2 ∨ f = 3 := by omega
    unfold fo
    rcases hf with rfl | rfl | rfl | rfl <;> simp [om, stp] at h1 ⊢ <;> omega
theorem om_pos {f : Nat} (h : f ≤ 4) : 0 < om f := by
  have hf : f = 0 ∨ f = 1 ∨ f = 2 ∨ f = 3 ∨ f = 4 := by omega
  rcases hf with rfl | rfl | rfl | rfl | rfl <;> decide
theorem stp_om {f : Nat} (h : f < 4) : stp f = om (f + 1) ∧ om f = 6 * om (f + 1) := by
  have hf : f = 0 ∨ f = 1 ∨ f = 2 ∨ f = 3 := by omega
  rcases hf with rfl | rfl | rfl | rfl <;> decide
theorem stp_pos {y : Nat} (h : y < 4) : 0 < stp y ∧ stp y ≤ 216 := by
  have hf : y = 0 ∨ y = 1 ∨ y = 2 ∨ y = 3 := by omega
  rcases hf with rfl | rfl | rfl | rfl <;> decide
theorem pl_lt (s p : Nat) : pl s p < 3 := by
  unfold pl
  have h1 : s / stp (p / 3) % 6 < 6 := Nat.mod_lt _ (by decide)
  have h2 : p % 3 < 3 := Nat.mod_lt _ (by decide)
  generalize s / stp (p / 3) % 6 = a at h1
  generalize p % 3 = b at h2
  have key : ∀ a, a < 6 → ∀ b, b < 3 → [0, 1, 2, 0, 2, 1, 1, 0, 2, 2, 0, 1, 1, 2, 0, 2, 1, 0].getD (a * 3 + b) 0 < 3 := by decide
  exact key a h1 b h2
theorem nI_div {a b : Nat} (ha : a < 1073741824) (h0 : 0 < b) (hb : b < 1073741824) : nI a / nI b = nI (a / b) := pk_div (by omega) h0 (by omega)
theorem nI_rem {a b : Nat} (ha : a < 1073741824) (h0 : 0 < b) (hb : b < 1073741824) : nI a - nI a / nI b * nI b = nI (a % b) := pk_rem (by omega) h0 (by omega)
theorem nI_mul (a b : Nat) : nI a * nI b = nI (a * b) := pk_mul a b
theorem nI_subN {a b : Nat} (h : b ≤ a) : nI a - nI b = nI (a - b) := pk_sub h
section R13
variable {X : EX} {y : MD} {d mc ms : Nat} {Q : Option VV → HP → Prop} {cells slots pc pc' : Nat} {ls : ZL} {st : List VV} {h : HP}
theorem e_top {x v : Int32} (he : x = v) (k : Ev X y d mc ms Q cells slots pc ls (vI v :: st) h) : Ev X y d mc ms Q cells slots pc ls (vI x :: st) h := by rw [he]; exact k
theorem e_topL {x v : Int64} (he : x = v) (k : Ev X y d mc ms Q cells slots pc ls (vL v :: st) h) : Ev X y d mc ms Q cells slots pc ls (vL x :: st) h := by rw [he]; exact k
theorem e_topR {x v : Option Nat} (he : x = v) (k : Ev X y d mc ms Q cells slots pc ls (vR v :: st) h) : Ev X y d mc ms Q cells slots pc ls (vR x :: st) h := by rw [he]; exact k
theorem e_hp {h2 : HP} (he : h = h2) (k : Ev X y d mc ms Q cells slots pc ls st h2) : Ev X y d mc ms Q cells slots pc ls st h := by rw [he]; exact k
end R13
/-- the elements of a static array -/
theorem st_step {i : Nat} (h : i < 4) : ([216, 36, 6, 1] : List Int32).getD (nI i).toNatClampNeg 0 = nI (stp i) := by
  rw [cl (by omega)]
  have : i = 0 ∨ i = 1 ∨ i = 2 ∨ i = 3 := by omega
  rcases this with rfl | rfl | rfl | rfl <;> rfl
theorem st_left {i : Nat} (h : i ≤ 4) : ([1296, 216, 36, 6, 1] : List Int32).getD (nI i).toNatClampNeg 0 = nI (om i) := by
  rw [cl (by omega)]
  have : i = 0 ∨ i = 1 ∨ i = 2 ∨ i = 3 ∨ i = 4 := by omega
  rcases this with rfl | rfl | rfl | rfl | rfl <;> rfl
theorem st_place {i : Nat} (h : i < 18) : ([0, 1, 2, 0, 2, 1, 1, 0, 2, 2, 0, 1, 1, 2, 0, 2, 1, 0] : List Int32).getD (nI i).toNatClampNeg 0 = nI ([0, 1, 2, 0, 2, 1, 1, 0, 2, 2, 0, 1, 1, 2, 0, 2, 1, 0].getD i 0) := by
  rw [cl (by omega)]
  have key : ∀ i, i < 18 → ([0, 1, 2, 0, 2, 1, 1, 0, 2, 2, 0, 1, 1, 2, 0, 2, 1, 0] : List Int32).getD i 0 = nI ([0, 1, 2, 0, 2, 1, 1, 0, 2, 2, 0, 1, 1, 2, 0, 2, 1, 0].getD i 0) := by decide
  exact key i h
theorem st_club {i : Nat} (h : i < 18) : ([0, 1, 2, 0, 2, 1, 1, 0, 2, 1, 2, 0, 2, 0, 1, 2, 1, 0] : List Int32).getD (nI i).toNatClampNeg 0 = nI ([0, 1, 2, 0, 2, 1, 1, 0, 2, 1, 2, 0, 2, 0, 1, 2, 1, 0].getD i 0) := by
  rw [cl (by omega)]
  have key : ∀ i, i < 18 → ([0, 1, 2, 0, 2, 1, 1, 0, 2, 1, 2, 0, 2, 0, 1, 2, 1, 0] : List Int32).getD i 0 = nI ([0, 1, 2, 0, 2, 1, 1, 0, 2, 1, 2, 0, 2, 0, 1, 2, 1, 0].getD i 0) := by decide
  exact key i h
