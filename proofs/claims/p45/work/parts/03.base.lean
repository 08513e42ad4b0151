/-! THE LOGIC: a heap of my own (typed contents by address), values of my own, and 'Ev': from here the machine comes to the method's end with Q. One rule an instruction (part 04), out of the kit's rows. -/
def TT : List Cond := lw_tbl.filter goodWord
theorem tt_of {w : Cond} (i : Nat) (h : lw_tbl[i]? = some w) (g : goodWord w = true) : w ∈ TT := List.mem_filter.mpr ⟨List.mem_of_getElem? h, g⟩
theorem tt_in {w : Cond} (h : w ∈ TT) : w ∈ lw_tbl := (List.mem_filter.mp h).1
theorem tt_good {w : Cond} (h : w ∈ TT) : goodWord w = true := (List.mem_filter.mp h).2
theorem tt_goodIn {ws : List Cond} (h : ∀ w ∈ ws, w ∈ TT) : GoodIn TT ws := fun w hw => ⟨h w hw, good_of_word (tt_good (h w hw))⟩
/-- values: ints, longs, references (none: null; else an address of mine) -/
abbrev VV : Type := Int32 ⊕ (Int64 ⊕ (Option Nat ⊕ Option Nat))
abbrev vI (x : Int32) : VV := .inl x
abbrev vL (x : Int64) : VV := .inr (.inl x)
abbrev vR (r : Option Nat) : VV := .inr (.inr (.inl r))
/-- a reference by the machine's own address -/
abbrev vX (r : Option Nat) : VV := .inr (.inr (.inr r))
/-- a heap: ints, longs, references by address and place; the kind of each address, its length, the next address -/
abbrev HP : Type := (Nat → Nat → Int32) × (Nat → Nat → Int64) × (Nat → Nat → Option Nat) × (Nat → Nat) × (Nat → Nat) × Nat
abbrev hI (h : HP) : Nat → Nat → Int32 := h.1
abbrev hL (h : HP) : Nat → Nat → Int64 := h.2.1
abbrev hR (h : HP) : Nat → Nat → Option Nat := h.2.2.1
abbrev hT (h : HP) : Nat → Nat := h.2.2.2.1
abbrev hN (h : HP) : Nat → Nat := h.2.2.2.2.1
abbrev hZ (h : HP) : Nat := h.2.2.2.2.2
def up2 {α : Type} (f : Nat → Nat → α) (a i : Nat) (v : α) : Nat → Nat → α := fun b j => if b = a ∧ j = i then v else f b j
def wI (h : HP) (a i : Nat) (v : Int32) : HP := (up2 h.1 a i v, h.2)
def wL (h : HP) (a i : Nat) (v : Int64) : HP := (h.1, up2 h.2.1 a i v, h.2.2)
def wR (h : HP) (a i : Nat) (v : Option Nat) : HP := (h.1, h.2.1, up2 h.2.2.1 a i v, h.2.2.2)
/-- one more cell, of kind t and length n, all 0 -/
def nw (h : HP) (t n : Nat) : HP :=
  (fun b j => if b = hZ h then 0 else hI h b j, fun b j => if b = hZ h then 0 else hL h b j, fun b j => if b = hZ h then none else hR h b j,
   fun b => if b = hZ h then t else hT h b, fun b => if b = hZ h then n else hN h b, hZ h + 1)
theorem up2_s {α : Type} {f : Nat → Nat → α} {a i : Nat} {v : α} : up2 f a i v a i = v := if_pos ⟨rfl, rfl⟩
theorem up2_a {α : Type} {f : Nat → Nat → α} {a i b j : Nat} {v : α} (h : b ≠ a) : up2 f a i v b j = f b j := if_neg (fun q => h q.1)
theorem up2_i {α : Type} {f : Nat → Nat → α} {a i b j : Nat} {v : α} (h : j ≠ i) : up2 f a i v b j = f b j := if_neg (fun q => h q.2)
/-- what stays through the whole run: the launch; the first address of the machine's that is ours; those of statics and strings; the classes' numbers and slots; the array classes' numbers; the script -/
abbrev EX : Type := Launch × Nat × (Nat → Nat) × va_G × (Nat → ClassId) × Nat × (Nat → Int32) × (Nat → Nat) × Option Nat
abbrev xl (X : EX) : Launch := X.1
abbrev xb (X : EX) : Nat := X.2.1
abbrev xS (X : EX) : Nat → Nat := X.2.2.1
abbrev xD (X : EX) : va_G := X.2.2.2.1
abbrev xA (X : EX) : Nat → ClassId := X.2.2.2.2.1
abbrev xN (X : EX) : Nat := X.2.2.2.2.2.1
abbrev xs (X : EX) : Nat → Int32 := X.2.2.2.2.2.2.1
/-- where the letters of the strings lie, and a static of the platform -/
abbrev xV (X : EX) : Nat → Nat := X.2.2.2.2.2.2.2.1
abbrev xF (X : EX) : Option Nat := X.2.2.2.2.2.2.2.2
/-- where an address of mine lies in the machine -/
def ad (X : EX) (k : Nat) : Nat := if k < 32 then xS X k else xb X + (k - 32)
def cv (X : EX) : VV → Value
  | .inl x => .int x
  | .inr (.inl x) => .long x
  | .inr (.inr (.inl r)) => va_rf (r.map (ad X))
  | .inr (.inr (.inr r)) => va_rf r
/-- how many fields, and whether a field is a reference -/
def nF : Nat → Nat
  | 0 => 6 | 1 => 7 | 2 => 1 | 3 => 4 | 4 => 4 | 5 => 3 | 6 => 1 | 7 => 4 | 8 => 9 | 9 => 11 | _ => 3
def tyF : Nat → Nat → FieldType
  | 0 => tyX0 | 1 => tyX1 | 2 => tyX2 | 3 => tyX3 | 4 => tyX4 | 5 => tyX5 | 6 => tyX6 | 7 => tyX7 | 8 => tyX8 | 9 => tyX9 | _ => tyJx4a65c
def isR (c k : Nat) : Bool := match tyF c k with
  | .object _ => true
  | .array _ => true
  | _ => false
/-- a cell's picture, as the kit's worlds have it: kinds 1 to 11 objects of vwCl, 12 to 14 arrays of bytes, ints, longs, 16 to 20 arrays of references -/
def ent (X : EX) (h : HP) (k : Nat) : va_E :=
  if hT h k ≤ 11 then .inr (hT h k - 1, (List.range (nF (hT h k - 1))).map (fun i => if isR (hT h k - 1) i then va_rf ((hR h k i).map (ad X)) else .int (hI h k i)))
  else if hT h k = 14 then .inl (xA X 14, hN h k, .inr (.inl (hL h k)))
  else if hT h k ≤ 15 then .inl (xA X (hT h k), hN h k, .inl (hI h k))
  else .inl (xA X (hT h k), hN h k, .inr (.inr (.inr (.inr (fun i => (hR h k i).map (ad X))))))
def wl (X : EX) (h : HP) : va_W := (List.range (hZ h - 32)).map (fun j => (xb X + j, ent X h (j + 32)))
def tys (X : EX) : List (ClassId × FieldType) := [(xA X 12, .byte), (xA X 12, .byte), (xA X 13, .int), (xA X 14, .long), (xA X 13, .int), (xA X 16, .object RX0), (xA X 17, .object RX1), (xA X 18, .object RX5), (xA X 19, .object RX6), (xA X 20, .object "java/lang/Object")]
/-- what is ours in the machine's heap -/
def AA (X : EX) : Nat → Prop := fun q => xb X ≤ q
theorem wl_get {X : EX} {h : HP} {a : Nat} (h1 : 32 ≤ a) (h2 : a < hZ h) : (wl X h)[a - 32]? = some (ad X a, ent X h a) := by
  unfold wl ad
  rw [List.getElem?_map, List.getElem?_range (by omega), if_neg (by omega)]
  show some (xb X + (a - 32), ent X h (a - 32 + 32)) = _
  rw [show a - 32 + 32 = a by omega]
theorem wl_len {X : EX} {h : HP} : (wl X h).length = hZ h - 32 := by simp [wl]
theorem wl_set {X : EX} {h h' : HP} {a : Nat} {E : va_E} (h1 : 32 ≤ a) (h2 : a < hZ h) (hz : hZ h' = hZ h) (he : ent X h' a = E) (ho : ∀ k, k ≠ a → ent X h' k = ent X h k) : (wl X h).set (a - 32) (ad X a, E) = wl X h' := by
  apply List.ext_getElem?
  intro j
  rw [List.getElem?_set]
  by_cases hj : j < hZ h - 32
  · have g := wl_get (X := X) (h := h) (a := j + 32) (by omega) (by omega)
    have g' := wl_get (X := X) (h := h') (a := j + 32) (by omega) (by omega)
    rw [Nat.add_sub_cancel] at g g'
    rw [g, g', wl_len]
    by_cases hja : a - 32 = j
    · have : a = j + 32 := by omega
      subst this
      rw [if_pos (by omega), if_pos (by omega), he]
    · rw [if_neg hja, ho _ (by omega)]
  · rw [if_neg (by omega), List.getElem?_eq_none (by rw [wl_len]; omega), List.getElem?_eq_none (by rw [wl_len]; omega)]
theorem wl_push {X : EX} {h h' : HP} {E : va_E} (h1 : 32 ≤ hZ h) (hz : hZ h' = hZ h + 1) (he : ent X h' (hZ h) = E) (ho : ∀ k, k < hZ h → ent X h' k = ent X h k) : wl X h ++ [(ad X (hZ h), E)] = wl X h' := by
  apply List.ext_getElem?
  intro j
  by_cases hj : j < hZ h - 32
  · have g := wl_get (X := X) (h := h) (a := j + 32) (by omega) (by omega)
    have g' := wl_get (X := X) (h := h') (a := j + 32) (by omega) (by omega)
    rw [Nat.add_sub_cancel] at g g'
    rw [List.getElem?_append_left (by rw [wl_len]; exact hj), g, g', ho _ (by omega)]
  · rw [List.getElem?_append_right (by rw [wl_len]; omega), wl_len]
    by_cases hj2 : j = hZ h - 32
    · subst hj2
      have g' := wl_get (X := X) (h := h') (a := hZ h) (by omega) (by omega)
      rw [g', he, Nat.sub_self]
      rfl
    · rw [List.getElem?_eq_none (by simp; omega), List.getElem?_eq_none (by rw [wl_len]; omega)]
theorem wl_D (X : EX) (h : HP) : va_D (AA X) (wl X h) := by
  have key : ∀ (i : Nat) (p : Nat × va_E), (wl X h)[i]? = some p → p.1 = xb X + i := by
    intro i p hp
    unfold wl at hp
    rw [List.getElem?_map] at hp
    cases hq : (List.range (hZ h - 32))[i]? with
    | none => rw [hq] at hp; cases hp
    | some j =>
      rw [hq] at hp
      have hij : j = i := by
        obtain ⟨h3, h4⟩ := List.getElem?_eq_some_iff.mp hq
        simpa using h4.symm
      subst hij
      cases hp
      rfl
  refine ⟨fun i j p q hp hq e => ?_, fun k q hq => ?_⟩
  · have e1 := key i p hp
    have e2 := key j q hq
    omega
  · show xb X ≤ q.1
    rw [key k q hq]
    omega
/-- my heap is the machine's -/
def CorH (X : EX) (h : HP) (H : Heap) : Prop := H.size = xb X + (hZ h - 32) ∧ 32 ≤ hZ h ∧ va_P (xD X) vwCl (wl X h) H
/-- words of nest mates: good at every warmed state -/
def nestW : List Cond := [.methodLinkNest RX8 9 yX0_init RX8, .methodLinkNest RX8 22 yX2_init RX8, .methodLinkNest RX3 11 yX7_init RX8, .methodLinkNest RX3 30 yX6_init RX8, .methodLinkNest RX8 53 yX5_init RX8, .methodLinkNest RX0 56 yX8_isOutside RX8, .fieldLinkNest RX0 40 RX8 "YEAR_STEP" "[I" RX8, .fieldLinkNest RX0 43 RX8 "OPEN_LEFT" "[I" RX8, .methodLinkNest RX1 40 yX8_placeUnder RX8, .methodLinkNest RL 117 yX9_init RL, .fieldLinkNest RL 83 RX9 "ever" "Ljava/util/ArrayList;" RL, .fieldLinkNest RL 111 RX9 "when" "Ljava/util/ArrayList;" RL, .fieldLinkNest RL 87 RX9 "there" "[I" RL, .fieldLinkNest RL 43 RX9 "many" "I" RL, .fieldLinkNest RL 40 RX9 "fallen" "I" RL, .fieldLinkNest RL 64 RX9 "orders" "[I" RL, .fieldLinkNest RL 28 RX9 "clashS" "I" RL, .fieldLinkNest RL 34 RX9 "clashP" "I" RL, .fieldLinkNest RL 37 RX9 "clashHow" "I" RL, .methodLinkNest RX9 45 yL_placeIn RL, .methodLinkNest RX9 54 yL_place RL]
def aoW : List String := [RX0, RX1, RX5, RX6, "java/lang/Object"]
/-- the static arrays -/
def stW : List (String × List Int32) := [("OPEN_LEFT", [1296, 216, 36, 6, 1]), ("PLACE_OF", [0, 1, 2, 0, 2, 1, 1, 0, 2, 2, 0, 1, 1, 2, 0, 2, 1, 0]), ("YEAR_STEP", [216, 36, 6, 1])]
/-- the law's ORDERS -/
def orW : List (List Int32) := [[0, 1, 2], [0, 2, 1], [1, 0, 2], [1, 2, 0], [2, 0, 1], [2, 1, 0]]
/-- what the tables say of classes, at any state of the run -/
def Kn (X : EX) (U : State) : Prop := va_K (xD X) vwCl (tys X) U ∧ (∀ w ∈ nestW, va_Nw w U) ∧ (∀ C ∈ aoW, va_AO C U) ∧ va_Nw (.castable "[I" "java/lang/Object") U
/-- what lies below our cells, and is never written -/
def Pre (X : EX) (U : State) (H : Heap) : Prop :=
  (∀ i q, stW[i]? = some q → va_Z RX8 q.1 "[I" (.ref (xS X (i + 1))) (AA X) U H ∧ va_T .int (xS X (i + 1)) q.2.length (fun j => .int (q.2.getD j 0)) (AA X) U H) ∧
  va_T .int (xS X 6) (xN X) (fun j => .int (xs X j)) (AA X) U H ∧
  (va_Z RL "ORDERS" "[[I" (.ref (xS X 7)) (AA X) U H ∧ va_T (.array .int) (xS X 7) 6 (fun j => .ref (xS X (j + 8))) (AA X) U H) ∧
  (∀ i q, orW[i]? = some q → va_T .int (xS X (i + 8)) q.length (fun j => .int (q.getD j 0)) (AA X) U H) ∧
  va_Z RJx4a65c "DEFAULTCAPACITY_EMPTY_ELEMENTDATA" "[Ljava/lang/Object;" (.ref (xS X 14)) (AA X) U H ∧ va_T (.object "java/lang/Object") (xS X 14) 0 (fun _ => .null) (AA X) U H
/-- all of it -/
def Cor (X : EX) (h : HP) (U : State) : Prop := CorH X h U.heap ∧ Kn X U ∧ Pre X U U.heap
def rmd (d mc ms : Nat) : Room := { frames := d, cells := mc, slots := ms, locals := 40 * d }
def cw (y : MD) : Cond := .code y.1 y.2.1 y.2.2.1 y.2.2.2
def wsM (y : MD) : List Cond := cw y :: TT
def Qm (X : EX) (Q : Option VV → HP → Prop) : Array Value → State → Outcome → State → Prop := fun _ st oc t => (∃ (v : Option VV) (h' : HP), oc = .returned (v.map (cv X)) ∧ Q v h' ∧ Cor X h' t) ∧ va_F (AA X) st t
/-- A CONTRACT: y, begun with the arguments av over the heap h, returns with Q, at a depth of d calls, making mc cells of ms slots at most -/
def Ct (X : EX) (y : MD) (d mc ms : Nat) (av : List VV) (h : HP) (Q : Option VV → HP → Prop) : Prop :=
  Met (xl X) y.1 (wsM y) (rmd d mc ms) (va_Pc (av.map (cv X)) (fun U => Cor X h U)) (Qm X Q) mc ms (AA X)
/-- what holds of the method's own frame all the while -/
def Cx (X : EX) (y : MD) (p : Program) (s : State) (m : MethodId) (args : Array Value) (meth : Method) (c : Code) : Prop :=
  p.tables.exec = Jvm.exec ∧ c.code = y.2.1 ∧ c.maxLocals = y.2.2.1 ∧ meth.sig.returnType = y.2.2.2 ∧ s.vm.findClass y.1.cls = some m.cls ∧ (∀ w ∈ TT, w.before args s = true) ∧ meth.locks = false ∧ meth.name = y.1.name ∧ Kn X s ∧ Pre X s s.heap ∧ xb X ≤ s.heap.size
/-- the locals: the newest entry of a place counts; none: dead -/
abbrev ZL : Type := List (Nat × Option VV)
def gL : ZL → Nat → Option VV
  | [], _ => none
  | (j, v) :: r, i => if i = j then v else gL r i
def is2 : Option VV → Bool
  | some (.inr (.inl _)) => true
  | _ => false
/-- a store at i: a long that begins one place before dies -/
def stL (ls : ZL) (i : Nat) (v : VV) : ZL := match i with
  | 0 => (0, some v) :: ls
  | k + 1 => if is2 (gL ls k) then (k + 1, some v) :: (k, none) :: ls else (k + 1, some v) :: ls
def stL2 (ls : ZL) (i : Nat) (v : VV) : ZL := (i + 1, none) :: stL ls i v
def Lok (X : EX) (nL : Nat) (ls : ZL) (lsr : Array Slot) : Prop := ∃ lv : List (Nat × Value), lv_has lsr nL lv ∧ ∀ i v, gL ls i = some v → (i, cv X v) ∈ lv
def Ev (X : EX) (y : MD) (d mc ms : Nat) (Q : Option VV → HP → Prop) (cells slots pc : Nat) (ls : ZL) (st : List VV) (h : HP) : Prop :=
  ∀ (p : Program) (e : Env) (s : State) (m : MethodId) (args : Array Value) (below : List Frame) (meth : Method) (c : Code) (H : Heap) (locs : List Loc) (lsr : Array Slot),
    Cx X y p s m args meth c → CorH X h H → va_S (AA X) s.heap H locs → Lok X y.2.2.1 ls lsr →
    W p (xl X) e (rmd d mc ms) s m args below meth c H locs cells slots (MQ below (Qm X Q) args s mc ms (AA X)) (F0 m pc lsr (st.map (cv X)))
/-- an instruction, its length, the next place -/
def At (b : ByteArray) (pc : Nat) (i : Instr) (n pc' : Nat) : Prop := decode b pc = .ok (i, n) ∧ pc' = pc + n
def Br (b : ByteArray) (pc : Nat) (i : Instr) (off : Int) (pc' tgt : Nat) : Prop := decode b pc = .ok (i, 3) ∧ pc' = pc + 3 ∧ (pc : Int) + off = (tgt : Int)
