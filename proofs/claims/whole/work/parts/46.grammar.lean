/-! Reader: the grammar as functions, the spare sets (written by wip/whole/g46.py) -/
/-- parts between and, parts between or -/
def andL (one : PT → Bool × PT × (Nat → Bool)) (bt : Nat → Int32) (l : Nat) : Nat → PT → (Nat → Bool) → Bool × PT × (Nat → Bool)
  | 0, p, g => (true, p, g)
  | m + 1, p, g => if tkQ bt p 15 = true then (if (one (nxT bt l p)).1 = true then andL one bt l m (one (nxT bt l p)).2.1 (fun u => g u && (one (nxT bt l p)).2.2 u) else (false, (one (nxT bt l p)).2.1, g)) else (true, p, g)
theorem andL_s {one : PT → Bool × PT × (Nat → Bool)} {bt : Nat → Int32} {l m : Nat} {p : PT} {g : Nat → Bool} : andL one bt l (m + 1) p g = if tkQ bt p 15 = true then (if (one (nxT bt l p)).1 = true then andL one bt l m (one (nxT bt l p)).2.1 (fun u => g u && (one (nxT bt l p)).2.2 u) else (false, (one (nxT bt l p)).2.1, g)) else (true, p, g) := rfl
/-- one part between or -/
def allF (one : PT → Bool × PT × (Nat → Bool)) (bt : Nat → Int32) (l : Nat) (p : PT) : Bool × PT × (Nat → Bool) := if (one p).1 = true then andL one bt l 120 (one p).2.1 (one p).2.2 else (false, (one p).2.1, fun _ => false)
def orL (one : PT → Bool × PT × (Nat → Bool)) (bt : Nat → Int32) (l : Nat) : Nat → PT → (Nat → Bool) → Bool × PT × (Nat → Bool)
  | 0, p, g => (true, p, g)
  | m + 1, p, g => if (allF one bt l p).1 = true then (if tkQ bt (allF one bt l p).2.1 16 = true then orL one bt l m (nxT bt l (allF one bt l p).2.1) (fun u => g u || (allF one bt l p).2.2 u) else (true, (allF one bt l p).2.1, fun u => g u || (allF one bt l p).2.2 u)) else (false, (allF one bt l p).2.1, g)
theorem orL_s {one : PT → Bool × PT × (Nat → Bool)} {bt : Nat → Int32} {l m : Nat} {p : PT} {g : Nat → Bool} : orL one bt l (m + 1) p g = if (allF one bt l p).1 = true then (if tkQ bt (allF one bt l p).2.1 16 = true then orL one bt l m (nxT bt l (allF one bt l p).2.1) (fun u => g u || (allF one bt l p).2.2 u) else (true, (allF one bt l p).2.1, fun u => g u || (allF one bt l p).2.2 u)) else (false, (allF one bt l p).2.1, g) := rfl
/-- E -/
def anyF (one : PT → Bool × PT × (Nat → Bool)) (bt : Nat → Int32) (l : Nat) (p : PT) : Bool × PT × (Nat → Bool) := orL one bt l 120 p (fun _ => false)
/-- F, k more depths being left -/
def oneF (bt : Nat → Int32) (l : Nat) (D : Nat → DD) (n : Nat) (E : Nat → DD) (c : Nat) : Nat → PT → Bool × PT × (Nat → Bool)
  | 0, p => bsF bt l D n E c p
  | k + 1, p => if tkQ bt p 9 = true then ((oneF bt l D n E c k (nxT bt l p)).1, (oneF bt l D n E c k (nxT bt l p)).2.1, fun u => !(oneF bt l D n E c k (nxT bt l p)).2.2 u) else if tkQ bt p 10 = true then (if (anyF (oneF bt l D n E c k) bt l (nxT bt l p)).1 = true then (tkQ bt (anyF (oneF bt l D n E c k) bt l (nxT bt l p)).2.1 11, tkX bt l (anyF (oneF bt l D n E c k) bt l (nxT bt l p)).2.1 11, (anyF (oneF bt l D n E c k) bt l (nxT bt l p)).2.2) else (false, (anyF (oneF bt l D n E c k) bt l (nxT bt l p)).2.1, fun _ => false)) else bsF bt l D n E c p
def OkF (l : Nat) (one : PT → Bool × PT × (Nat → Bool)) : Prop := ∀ p, okp l p → okp l (one p).2.1
theorem okF_bs {bt : Nat → Int32} {l n c : Nat} {D E : Nat → DD} : OkF l (bsF bt l D n E c) := by
  intro p z
  unfold bsF
  split
  · exact okp_t (okp_n z)
  · split
    · exact ok3 (okp_n z)
    · split
      · exact ok3 (okp_n z)
      · exact z
theorem okF_and {one : PT → Bool × PT × (Nat → Bool)} {bt : Nat → Int32} {l : Nat} (k : OkF l one) : ∀ m p g, okp l p → okp l (andL one bt l m p g).2.1 := by
  intro m
  induction m with
  | zero => intro p g z; exact z
  | succ m ih =>
    intro p g z
    rw [andL_s]
    split
    · split
      · exact ih _ _ (k _ (okp_n z))
      · exact k _ (okp_n z)
    · exact z
theorem okF_all {one : PT → Bool × PT × (Nat → Bool)} {bt : Nat → Int32} {l : Nat} (k : OkF l one) : OkF l (allF one bt l) := by
  intro p z
  unfold allF
  split
  · exact okF_and k _ _ _ (k _ z)
  · exact k _ z
theorem okF_or {one : PT → Bool × PT × (Nat → Bool)} {bt : Nat → Int32} {l : Nat} (k : OkF l one) : ∀ m p g, okp l p → okp l (orL one bt l m p g).2.1 := by
  intro m
  induction m with
  | zero => intro p g z; exact z
  | succ m ih =>
    intro p g z
    have ka := okF_all (bt := bt) k p z
    rw [orL_s]
    split
    · split
      · exact ih _ _ (okp_n ka)
      · exact ka
    · exact ka
theorem okF_any {one : PT → Bool × PT × (Nat → Bool)} {bt : Nat → Int32} {l : Nat} (k : OkF l one) : OkF l (anyF one bt l) := fun p z => okF_or k _ _ _ z
theorem okF_one {bt : Nat → Int32} {l n c : Nat} {D E : Nat → DD} : ∀ k, OkF l (oneF bt l D n E c k) := by
  intro k
  induction k with
  | zero => exact okF_bs
  | succ k ih =>
    intro p z
    unfold oneF
    split
    · exact ih _ (okp_n z)
    · split
      · split
        · exact okp_x (okF_any ih _ (okp_n z))
        · exact okF_any ih _ (okp_n z)
      · exact okF_bs p z
theorem sp1 : ∀ i, i < 14 → (!Nat.beq (45 + 2 * i) 0 && Nat.beq (R0 44 i) (45 + 2 * i)) = true := by decide
theorem sp2 : ∀ i, i < 14 → (Nat.ble 32 (45 + 2 * i) && Nat.blt (45 + 2 * i) NF && Nat.beq (T0 (45 + 2 * i)) 7) = true := by decide
theorem sp3 : ∀ i, i < 14 → (!Nat.beq (46 + 2 * i) 0 && Nat.beq (R0 (45 + 2 * i) 0) (46 + 2 * i)) = true := by decide
theorem sp4 : ∀ i, i < 14 → (Nat.ble 32 (46 + 2 * i) && Nat.blt (46 + 2 * i) NF && Nat.beq (T0 (46 + 2 * i)) 14) = true := by decide
theorem sp5 : ∀ i, i < 14 → (Nat.ble 32 (46 + 2 * i) && Nat.blt (46 + 2 * i) NF && Nat.beq (N0 (46 + 2 * i)) 21) = true := by decide
/-- the spare sets -/
theorem sp_S {h : HP} (F : Fx h) {i : Nat} (hi9 : i < 14) : StS h (45 + 2 * i) (46 + 2 * i) := ⟨fx_is F (sp2 i hi9), fx_r F (sp3 i hi9), fx_is F (sp4 i hi9), fx_n F (sp5 i hi9)⟩
theorem wk_q {h : HP} {V W : Nat → Prop} {L L' : Nat → Nat → Int64} {wb : Nat} (hw : WkL h V L) (hv : V wb) (hW : ∀ x, W x → V x) (k : ∀ x, x ≠ wb → ¬ W x → L' x = L x) : WkL h V L' := fun x hx => (k x (fun e => hx (e ▸ hv)) (fun e => hx (hW x e))).trans (hw x hx)
