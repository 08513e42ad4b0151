/-! THE FIXED CELLS: what the two constructors make, in the order in which they make it (written by wip/p45/gen11.py) -/
def T0l : List Nat := [9, 1, 17, 13, 13, 16, 3, 13, 4, 8, 12, 17, 19, 7, 14, 7, 14, 7, 14, 7, 14, 7, 14, 7, 14, 7, 14, 7, 14, 7, 14, 7, 14, 7, 14, 7, 14, 7, 14, 7, 14, 18, 17, 13, 13, 1, 17, 13, 13, 1, 17, 13, 13, 1, 17, 13, 13, 1, 17, 13, 13, 1, 17, 13, 13, 1, 17, 13, 13, 6, 14, 6, 14, 6, 14, 6, 14, 10, 11, 11, 13, 13, 13, 13]
def N0l : List Nat := [0, 0, 12, 4, 3, 6, 0, 1296, 0, 0, 120, 12, 14, 0, 21, 0, 21, 0, 21, 0, 21, 0, 21, 0, 21, 0, 21, 0, 21, 0, 21, 0, 21, 0, 21, 0, 21, 0, 21, 0, 21, 4, 4, 3, 8, 0, 12, 4, 3, 0, 12, 4, 3, 0, 12, 4, 3, 0, 12, 4, 3, 0, 12, 4, 3, 0, 12, 4, 3, 0, 40, 0, 40, 0, 40, 0, 40, 0, 0, 0, 13, 4, 4, 3]
/-- references that never change: 0, none of these -/
def R0l : List (List Nat) := [[33, 37, 0, 38, 40, 73, 74, 75, 76], [34, 0, 35, 0, 36], [], [], [], [77, 81, 85, 89, 93, 97], [39], [], [41, 43, 0, 44], [42], [], [], [45, 47, 49, 51, 53, 55, 57, 59, 61, 63, 65, 67, 69, 71], [46], [], [48], [], [50], [], [52], [], [54], [], [56], [], [58], [], [60], [], [62], [], [64], [], [66], [], [68], [], [70], [], [72], [], [101, 103, 105, 107], [], [], [], [78, 0, 79, 0, 80], [], [], [], [82, 0, 83, 0, 84], [], [], [], [86, 0, 87, 0, 88], [], [], [], [90, 0, 91, 0, 92], [], [], [], [94, 0, 95, 0, 96], [], [], [], [98, 0, 99, 0, 100], [], [], [], [102], [], [104], [], [106], [], [108], [], [110, 111, 112, 0, 0, 113, 114, 115], [], [], [], [], [], []]
def T0 (a : Nat) : Nat := T0l.getD (a - 32) 0
def N0 (a : Nat) : Nat := N0l.getD (a - 32) 0
def R0 (a i : Nat) : Nat := (R0l.getD (a - 32) []).getD i 0
def NF : Nat := 116
def FxS (z : (Nat → Nat → Option Nat) × (Nat → Nat) × (Nat → Nat) × Nat) : Prop := NF ≤ z.2.2.2 ∧ (∀ a, 32 ≤ a → a < NF → z.2.1 a = T0 a ∧ z.2.2.1 a = N0 a) ∧ ∀ a i, R0 a i ≠ 0 → z.1 a i = some (R0 a i)
/-- the fixed cells stand -/
def Fx (h : HP) : Prop := FxS h.2.2
theorem fx_is {h : HP} (F : Fx h) {a t : Nat} (h1 : (Nat.ble 32 a && Nat.blt a NF && Nat.beq (T0 a) t) = true) : Is h a t := by
  simp only [Bool.and_eq_true] at h1
  obtain ⟨⟨h1, h2⟩, h3⟩ := h1
  have h1 := Nat.le_of_ble_eq_true h1
  have h2 : a < NF := Nat.le_of_ble_eq_true h2
  exact ⟨h1, Nat.lt_of_lt_of_le h2 F.1, (F.2.1 a h1 h2).1.trans (Nat.eq_of_beq_eq_true h3)⟩
theorem fx_n {h : HP} (F : Fx h) {a n : Nat} (h1 : (Nat.ble 32 a && Nat.blt a NF && Nat.beq (N0 a) n) = true) : hN h a = n := by
  simp only [Bool.and_eq_true] at h1
  obtain ⟨⟨h1, h2⟩, h3⟩ := h1
  exact (F.2.1 a (Nat.le_of_ble_eq_true h1) (Nat.le_of_ble_eq_true h2)).2.trans (Nat.eq_of_beq_eq_true h3)
theorem fx_r {h : HP} (F : Fx h) {a i b : Nat} (h1 : (!Nat.beq b 0 && Nat.beq (R0 a i) b) = true) : hR h a i = some b := by
  simp only [Bool.and_eq_true, Bool.not_eq_true'] at h1
  have h2 := Nat.eq_of_beq_eq_true h1.2
  have h3 : R0 a i ≠ 0 := by
    intro h
    rw [h] at h2
    subst h2
    exact absurd h1.1 (by decide)
  exact (F.2.2 a i h3).trans (by rw [h2])
section R11
variable {X : EX} {y : MD} {d mc ms : Nat} {Q : Option VV → HP → Prop} {cells slots pc pc' : Nat} {ls : ZL} {st : List VV} {h : HP} {ix ci kf a : Nat}
theorem e_getRF {ty : FieldType} {fin : Bool} {r0 : Option Nat} (hd : At y.2.1 pc (.getfield ix) 3 pc') (F : Fld y.1.cls ix ci kf ty fin) (hr : isR ci kf = true) (ok : Is h a (ci + 1)) (hv : hR h a kf = r0) (k : Ev X y d mc ms Q cells slots pc' ls (vR r0 :: st) h) : Ev X y d mc ms Q cells slots pc ls (vR (some a) :: st) h := e_getR hd F hr ok (by rw [hv]; exact k)
theorem e_getRNF {ty : FieldType} {fin : Bool} {r0 : Option Nat} (hd : At y.2.1 pc (.getfield ix) 3 pc') (F : FldN y.1.cls ix ci kf ty fin) (hr : isR ci kf = true) (ok : Is h a (ci + 1)) (hv : hR h a kf = r0) (k : Ev X y d mc ms Q cells slots pc' ls (vR r0 :: st) h) : Ev X y d mc ms Q cells slots pc ls (vR (some a) :: st) h := e_getRN hd F hr ok (by rw [hv]; exact k)
theorem e_getIF {ty : FieldType} {fin : Bool} {x : Int32} (hd : At y.2.1 pc (.getfield ix) 3 pc') (F : Fld y.1.cls ix ci kf ty fin) (hr : isR ci kf = false) (ok : Is h a (ci + 1)) (hv : hI h a kf = x) (k : Ev X y d mc ms Q cells slots pc' ls (vI x :: st) h) : Ev X y d mc ms Q cells slots pc ls (vR (some a) :: st) h := e_getI hd F hr ok (by rw [hv]; exact k)
theorem e_getINF {ty : FieldType} {fin : Bool} {x : Int32} (hd : At y.2.1 pc (.getfield ix) 3 pc') (F : FldN y.1.cls ix ci kf ty fin) (hr : isR ci kf = false) (ok : Is h a (ci + 1)) (hv : hI h a kf = x) (k : Ev X y d mc ms Q cells slots pc' ls (vI x :: st) h) : Ev X y d mc ms Q cells slots pc ls (vR (some a) :: st) h := e_getIN hd F hr ok (by rw [hv]; exact k)
theorem e_ialoadF {i x : Int32} {N : Nat} (hd : At y.2.1 pc (.iaload) 1 pc') (ok : Is h a 13) (hn : hN h a = N) (hin : vp_in i N) (hv : hI h a i.toNatClampNeg = x) (k : Ev X y d mc ms Q cells slots pc' ls (vI x :: st) h) : Ev X y d mc ms Q cells slots pc ls (vI i :: vR (some a) :: st) h := e_iaload hd ok (by rw [hn]; exact hin) (by rw [hv]; exact k)
theorem e_laloadF {i : Int32} {x : Int64} {N : Nat} (hd : At y.2.1 pc (.laload) 1 pc') (ok : Is h a 14) (hn : hN h a = N) (hin : vp_in i N) (hv : hL h a i.toNatClampNeg = x) (k : Ev X y d mc ms Q cells slots pc' ls (vL x :: st) h) : Ev X y d mc ms Q cells slots pc ls (vI i :: vR (some a) :: st) h := e_laload hd ok (by rw [hn]; exact hin) (by rw [hv]; exact k)
theorem e_aaloadF {i : Int32} {t N : Nat} {r0 : Option Nat} (hd : At y.2.1 pc (.aaload) 1 pc') (ok : Is h a t) (h1 : 16 ≤ t) (h2 : t ≤ 20) (hn : hN h a = N) (hin : vp_in i N) (hv : hR h a i.toNatClampNeg = r0) (k : Ev X y d mc ms Q cells slots pc' ls (vR r0 :: st) h) : Ev X y d mc ms Q cells slots pc ls (vI i :: vR (some a) :: st) h := e_aaload hd ok h1 h2 (by rw [hn]; exact hin) (by rw [hv]; exact k)
theorem e_iastoreF {i x : Int32} {N : Nat} (hd : At y.2.1 pc (.iastore) 1 pc') (ok : Is h a 13) (hn : hN h a = N) (hin : vp_in i N) (k : Ev X y d mc ms Q cells slots pc' ls st (wI h a i.toNatClampNeg x)) : Ev X y d mc ms Q cells slots pc ls (vI x :: vI i :: vR (some a) :: st) h := e_iastore hd ok (by rw [hn]; exact hin) k
theorem e_lastoreF {i : Int32} {x : Int64} {N : Nat} (hd : At y.2.1 pc (.lastore) 1 pc') (ok : Is h a 14) (hn : hN h a = N) (hin : vp_in i N) (k : Ev X y d mc ms Q cells slots pc' ls st (wL h a i.toNatClampNeg x)) : Ev X y d mc ms Q cells slots pc ls (vL x :: vI i :: vR (some a) :: st) h := e_lastore hd ok (by rw [hn]; exact hin) k
/-- a call that answers one value and leaves the heap as h2 -/
theorem e_eq {pc2 : Nat} {ls2 : ZL} {st2 : List VV} {h2 : HP} (e1 : pc = pc2) (e2 : ls = ls2) (e3 : st = st2) (e4 : h = h2) (k : Ev X y d mc ms Q cells slots pc2 ls2 st2 h2) : Ev X y d mc ms Q cells slots pc ls st h := by
  subst e1; subst e2; subst e3; subst e4; exact k
end R11
/-- a truth as an int -/
def b2 (p : Prop) [Decidable p] : Int32 := if p then 1 else 0
theorem b2_t {p : Prop} [Decidable p] (h : p) : b2 p = 1 := if_pos h
theorem b2_f {p : Prop} [Decidable p] (h : ¬ p) : b2 p = 0 := if_neg h
theorem b2_0 {p : Prop} [Decidable p] : b2 p = 0 ↔ ¬ p := by
  by_cases h : p
  · rw [b2_t h]; exact ⟨fun q => absurd q (by decide), fun q => absurd h q⟩
  · rw [b2_f h]; exact ⟨fun _ => h, fun _ => rfl⟩
theorem b2_b {p : Prop} [Decidable p] : b2 p = 0 ∨ b2 p = 1 := by
  by_cases h : p
  · exact Or.inr (b2_t h)
  · exact Or.inl (b2_f h)
/-- a contract of a method that answers r and leaves the heap as it was / as h2 -/
def Rt (r : VV) (h2 : HP) : Option VV → HP → Prop := fun v h' => v = some r ∧ h' = h2
def Rv (h2 : HP) : Option VV → HP → Prop := fun v h' => v = none ∧ h' = h2
section R12
variable {X : EX} {y : MD} {d mc ms : Nat} {Q : Option VV → HP → Prop} {cells slots pc pc' : Nat} {ls : ZL} {st rest : List VV} {h h2 : HP} {y' : MD} {d' n ix ci : Nat} {as : List VV} {r : VV}
theorem e_invvT {a : Nat} (hd : At y.2.1 pc (.invokevirtual ix) 3 pc') (cal : CalV y.1.cls ix ci y' n) (hc : Ct X y' d' 0 0 (vR (some a) :: as) h (Rt r h2)) (hst : st = as.reverse ++ vR (some a) :: rest) (hn : as.length = n) (hT : Is h a (ci + 1)) (hml : y'.2.2.1 ≤ 12) (hdd : d' + 1 ≤ d) (hcc : cells ≤ mc) (hss : slots ≤ ms) (hcat : catL rest ≤ 8)
    (k : Ev X y d mc ms Q cells slots pc' ls (r :: rest) h2) : Ev X y d mc ms Q cells slots pc ls st h :=
  e_invv hd cal hc hst hn hT hml hdd hcc hss hcat (fun v h' q => by obtain ⟨rfl, rfl⟩ := q; exact k)
theorem e_invvV {a : Nat} (hd : At y.2.1 pc (.invokevirtual ix) 3 pc') (cal : CalV y.1.cls ix ci y' n) (hc : Ct X y' d' 0 0 (vR (some a) :: as) h (Rv h2)) (hst : st = as.reverse ++ vR (some a) :: rest) (hn : as.length = n) (hT : Is h a (ci + 1)) (hml : y'.2.2.1 ≤ 12) (hdd : d' + 1 ≤ d) (hcc : cells ≤ mc) (hss : slots ≤ ms) (hcat : catL rest ≤ 8)
    (k : Ev X y d mc ms Q cells slots pc' ls rest h2) : Ev X y d mc ms Q cells slots pc ls st h :=
  e_invv hd cal hc hst hn hT hml hdd hcc hss hcat (fun v h' q => by obtain ⟨rfl, rfl⟩ := q; exact k)
theorem e_invsT (hd : At y.2.1 pc (.invokestatic ix) 3 pc') (cal : CalS y.1.cls ix y' n) (hc : Ct X y' d' 0 0 as h (Rt r h2)) (hst : st = as.reverse ++ rest) (hn : as.length = n) (hml : y'.2.2.1 ≤ 12) (hdd : d' + 1 ≤ d) (hcc : cells ≤ mc) (hss : slots ≤ ms) (hcat : catL rest ≤ 8)
    (k : Ev X y d mc ms Q cells slots pc' ls (r :: rest) h2) : Ev X y d mc ms Q cells slots pc ls st h :=
  e_invs hd cal hc hst hn hml hdd hcc hss hcat (fun v h' q => by obtain ⟨rfl, rfl⟩ := q; exact k)
theorem e_invsV (hd : At y.2.1 pc (.invokestatic ix) 3 pc') (cal : CalS y.1.cls ix y' n) (hc : Ct X y' d' 0 0 as h (Rv h2)) (hst : st = as.reverse ++ rest) (hn : as.length = n) (hml : y'.2.2.1 ≤ 12) (hdd : d' + 1 ≤ d) (hcc : cells ≤ mc) (hss : slots ≤ ms) (hcat : catL rest ≤ 8)
    (k : Ev X y d mc ms Q cells slots pc' ls rest h2) : Ev X y d mc ms Q cells slots pc ls st h :=
  e_invs hd cal hc hst hn hml hdd hcc hss hcat (fun v h' q => by obtain ⟨rfl, rfl⟩ := q; exact k)
theorem e_invsNT (hd : At y.2.1 pc (.invokestatic ix) 3 pc') (cal : CalSN y.1.cls ix y' n) (hc : Ct X y' d' 0 0 as h (Rt r h2)) (hst : st = as.reverse ++ rest) (hn : as.length = n) (hml : y'.2.2.1 ≤ 12) (hdd : d' + 1 ≤ d) (hcc : cells ≤ mc) (hss : slots ≤ ms) (hcat : catL rest ≤ 8)
    (k : Ev X y d mc ms Q cells slots pc' ls (r :: rest) h2) : Ev X y d mc ms Q cells slots pc ls st h :=
  e_invsN hd cal hc hst hn hml hdd hcc hss hcat (fun v h' q => by obtain ⟨rfl, rfl⟩ := q; exact k)
theorem e_invsNV (hd : At y.2.1 pc (.invokestatic ix) 3 pc') (cal : CalSN y.1.cls ix y' n) (hc : Ct X y' d' 0 0 as h (Rv h2)) (hst : st = as.reverse ++ rest) (hn : as.length = n) (hml : y'.2.2.1 ≤ 12) (hdd : d' + 1 ≤ d) (hcc : cells ≤ mc) (hss : slots ≤ ms) (hcat : catL rest ≤ 8)
    (k : Ev X y d mc ms Q cells slots pc' ls rest h2) : Ev X y d mc ms Q cells slots pc ls st h :=
  e_invsN hd cal hc hst hn hml hdd hcc hss hcat (fun v h' q => by obtain ⟨rfl, rfl⟩ := q; exact k)
end R12
