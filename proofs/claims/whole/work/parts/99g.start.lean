/-! THE START: what the tables and the Statement say, as the logic has it (written by wip/whole/g99g.py) -/
def AT : List Cond := flatC (Jvm.Cond.and given_1 narrow_1)
theorem at_w {args : Array Value} {s : State} (h : (Jvm.Cond.and given_1 narrow_1).before args s = true) {i : Nat} {w : Cond} (hw : AT[i]? = some w) : w.before args s = true := flat_of_before _ h w (List.mem_of_getElem? hw)
theorem hr_mono {s : State} {pl : Platform} {R R2 : Room} (h : s.hasRoom pl R = true) (h1 : R2.frames ≤ R.frames) (h2 : R2.locals ≤ R.locals) (h3 : R2.cells ≤ R.cells) (h4 : R2.slots ≤ R.slots) : s.hasRoom pl R2 = true := by
  simp only [State.hasRoom, Bool.and_eq_true, decide_eq_true_eq] at h ⊢
  obtain ⟨⟨⟨⟨a, b1, b2, b3, b4, b5⟩, g⟩, i⟩, j⟩ := h
  exact ⟨⟨⟨⟨by omega, by omega, by omega, by omega, by omega, b5⟩, by omega⟩, by omega⟩, j⟩
theorem arr_pr {args : Array Value} {s : State} {ty : FieldType} (h : (Cond.arrayClass ty).before args s = true) : ∃ c : ClassId, ArrOfT s c ty ∧ s.vm.findClass ("[" ++ ty.toString) = some c := by
  obtain ⟨c, k, comp, h1, h2, h3⟩ := Cond.arrayClass_spec (args := args) (first := s) (o := none) (idx := []) h
  exact ⟨c, fun n z => ⟨fun k e => (by cases e), k, h2, comp, h3⟩, h1⟩
theorem arr_ob {args : Array Value} {s : State} {C : String} (h : (Cond.arrayOver (.object C)).before args s = true) : ∃ c : ClassId, ArrOfT s c (.object C) ∧ va_RA s c (.object C) := by
  obtain ⟨comp, c, k, h1, h2, h3, h4, h5⟩ := Cond.arrayOver_spec (args := args) (first := s) (o := none) (idx := []) h
  exact ⟨c, fun n z => ⟨fun k e => (by cases e), k, h3, comp, h4⟩, k, comp, h3, h4, h1, h5⟩
theorem ix_D {α : Type} {L : List α} (d : α) {P : Nat → α → Prop} (h : ∀ i, i < L.length → P i (L.getD i d)) : ∀ i q, L[i]? = some q → P i q := by
  intro i q hq
  obtain ⟨hi, e⟩ := List.getElem?_eq_some_iff.mp hq
  have k := h i hi
  rw [List.getD_eq_getElem?_getD, hq] at k
  exact k
def bS : List Nat := [115, 123, 130, 140, 152, 164, 177, 191, 208, 222, 238, 253, 269, 291, 313, 333, 355, 377]
def wS9 : List Nat := [434, 502, 503, 508, 509, 510, 511, 512, 513, 526, 532, 533, 534, 554, 555, 565, 574, 580]
def bT : List Nat := [4, 66, 53, 32, 25]
def wT9 : List Nat := [264, 805, 299, 275, 273]
def wN9 : List Nat := [98, 135, 151, 174, 201, 372, 386, 544, 560, 293, 298]
def wO9 : List Nat := [132, 103, 198, 172]
def s9 (i : Nat) : Nat × String := strs.getD i (0, "")
def tmS (i : Nat) : Term := Jvm.Term.string RX3 (s9 i).1
abbrev lnS : List Nat := strs.map (fun q => q.2.length)
abbrev byS : List (List Int32) := strs.map (fun q => q.2.toList.map (fun c => Int32.ofNat c.toNat))
def vS (i : Nat) : Term := Jvm.Term.field (tmS i) "java/lang/String" "value" "[B"
theorem sa_1 : ∀ i, i < 18 → AT[bS.getD i 0]? = some (Jvm.Cond.exactly (tmS i) "java/lang/String") := by decide +kernel
theorem sa_2 : ∀ i, i < 18 → AT[bS.getD i 0 + 1]? = some (Jvm.Cond.eq (.field (tmS i) "java/lang/String" "coder" "B") (.int 0)) := by decide +kernel
theorem sa_3 : ∀ i, i < 18 → AT[bS.getD i 0 + 2]? = some (Jvm.Cond.arrayOf (vS i) .byte) := by decide +kernel
theorem sa_4 : ∀ i, i < 18 → AT[bS.getD i 0 + 3]? = some (Jvm.Cond.eq (.length (vS i)) (.int (Int32.ofNat (lnS.getD i 0)))) := by decide +kernel
theorem sa_5 : ∀ i, i < 18 → ∀ j, j < lnS.getD i 0 → AT[bS.getD i 0 + 4 + j]? = some (Jvm.Cond.eq (.elem (vS i) (.int (Int32.ofNat j))) (.int ((byS.getD i []).getD j 0))) := by decide +kernel
theorem sa_6 : ∀ j, j < 18 → ∀ i, i < j → AT[bS.getD j 0 + 4 + lnS.getD j 0 + i]? = some (Jvm.Cond.not (Jvm.Cond.eq (tmS i) (tmS j))) := by decide +kernel
theorem sa_7 : ∀ i, i < 18 → lnS.getD i 0 < 2147483648 := by decide +kernel
theorem sw_1 : ∀ i, i < 18 → lw_tbl[wS9.getD i 0]? = some (Jvm.Cond.stringRef RX3 (s9 i).1 (s9 i).2) := by decide +kernel
def t9 (i : Nat) : String × List Int32 := stW.getD i ("", [])
def tmT (i : Nat) : Term := Jvm.Term.static RX8 (t9 i).1 "[I"
theorem ta_1 : ∀ i, i < 5 → AT[bT.getD i 0 + 1]? = some (Jvm.Cond.arrayOf (tmT i) .int) := by decide +kernel
theorem ta_2 : ∀ i, i < 5 → AT[bT.getD i 0 + 2]? = some (Jvm.Cond.eq (.length (tmT i)) (.int (Int32.ofNat (t9 i).2.length))) := by decide +kernel
theorem ta_3 : ∀ i, i < 5 → ∀ j, j < (t9 i).2.length → AT[bT.getD i 0 + 3 + j]? = some (Jvm.Cond.eq (.elem (tmT i) (.int (Int32.ofNat j))) (.int ((t9 i).2.getD j 0))) := by decide +kernel
theorem ta_4 : ∀ i, i < 5 → (t9 i).2.length < 2147483648 := by decide +kernel
theorem tw_1 : ∀ i, i < 5 → lw_tbl[wT9.getD i 0]? = some (Jvm.Cond.laysStatic RX8 (t9 i).1 "[I") := by decide +kernel
theorem nw_1 : ∀ i, i < 11 → lw_tbl[wN9.getD i 0]? = nestW[i]? := by decide +kernel
theorem ow_1 : ∀ i, i < 4 → lw_tbl[wO9.getD i 0]? = some (Jvm.Cond.arrayOver (.object (aoW.getD i ""))) := by decide +kernel
theorem kn_D {s : State} {b : Nat} (hts : ∀ w ∈ lw_tbl, w.before #[Value.ref b] s = true) : ∃ D : va_G, ∀ c q, vwCl[c]? = some q → u_Kn s q.1 q.2.1 q.2.2 (D.1 c) (D.2 c) := by
  have hT : ∀ w ∈ TT, w.before #[Value.ref b] s = true := fun w hw => hts w (tt_in hw)
  have h : ∀ c : Nat, ∃ d : ClassId × (Nat → Nat), c < 10 → ∀ q, vwCl[c]? = some q → u_Kn s q.1 q.2.1 q.2.2 d.1 d.2 := by
    intro c
    match c with
    | 0 =>
      obtain ⟨x, y, k⟩ := u_known hT uv_0 (hts (.instantiable RX0 6) (List.mem_of_getElem? (i := 97) (by decide +kernel)))
      exact ⟨(x, y), fun _ q hq => by
        obtain rfl := Option.some.inj (show some (RX0, TX0, nF 0) = some q from hq)
        exact k⟩
    | 1 =>
      obtain ⟨x, y, k⟩ := u_known hT uv_1 (hts (.instantiable RX1 7) (List.mem_of_getElem? (i := 307) (by decide +kernel)))
      exact ⟨(x, y), fun _ q hq => by
        obtain rfl := Option.some.inj (show some (RX1, TX1, nF 1) = some q from hq)
        exact k⟩
    | 2 =>
      obtain ⟨x, y, k⟩ := u_known hT uv_2 (hts (.instantiable RX2 1) (List.mem_of_getElem? (i := 134) (by decide +kernel)))
      exact ⟨(x, y), fun _ q hq => by
        obtain rfl := Option.some.inj (show some (RX2, TX2, nF 2) = some q from hq)
        exact k⟩
    | 3 =>
      obtain ⟨x, y, k⟩ := u_known hT uv_3 (hts (.instantiable RX3 4) (List.mem_of_getElem? (i := 144) (by decide +kernel)))
      exact ⟨(x, y), fun _ q hq => by
        obtain rfl := Option.some.inj (show some (RX3, TX3, nF 3) = some q from hq)
        exact k⟩
    | 4 =>
      obtain ⟨x, y, k⟩ := u_known hT uv_4 (hts (.instantiable RX4 4) (List.mem_of_getElem? (i := 713) (by decide +kernel)))
      exact ⟨(x, y), fun _ q hq => by
        obtain rfl := Option.some.inj (show some (RX4, TX4, nF 4) = some q from hq)
        exact k⟩
    | 5 =>
      obtain ⟨x, y, k⟩ := u_known hT uv_5 (hts (.instantiable RX5 3) (List.mem_of_getElem? (i := 200) (by decide +kernel)))
      exact ⟨(x, y), fun _ q hq => by
        obtain rfl := Option.some.inj (show some (RX5, TX5, nF 5) = some q from hq)
        exact k⟩
    | 6 =>
      obtain ⟨x, y, k⟩ := u_known hT uv_6 (hts (.instantiable RX6 1) (List.mem_of_getElem? (i := 173) (by decide +kernel)))
      exact ⟨(x, y), fun _ q hq => by
        obtain rfl := Option.some.inj (show some (RX6, TX6, nF 6) = some q from hq)
        exact k⟩
    | 7 =>
      obtain ⟨x, y, k⟩ := u_known hT uv_7 (hts (.instantiable RX7 4) (List.mem_of_getElem? (i := 150) (by decide +kernel)))
      exact ⟨(x, y), fun _ q hq => by
        obtain rfl := Option.some.inj (show some (RX7, TX7, nF 7) = some q from hq)
        exact k⟩
    | 8 =>
      obtain ⟨x, y, k⟩ := u_known hT uv_8 (hts (.instantiable RX8 9) (List.mem_of_getElem? (i := 89) (by decide +kernel)))
      exact ⟨(x, y), fun _ q hq => by
        obtain rfl := Option.some.inj (show some (RX8, TX8, nF 8) = some q from hq)
        exact k⟩
    | 9 =>
      obtain ⟨x, y, k⟩ := u_known hT uv_9 (hts (.instantiable RX9 39) (List.mem_of_getElem? (i := 840) (by decide +kernel)))
      exact ⟨(x, y), fun _ q hq => by
        obtain rfl := Option.some.inj (show some (RX9, TX9, nF 9) = some q from hq)
        exact k⟩
    | n + 10 =>
      obtain ⟨x, y, k⟩ := u_known hT uv_0 (hts (.instantiable RX0 6) (List.mem_of_getElem? (i := 97) (by decide +kernel)))
      exact ⟨(x, y), fun h => by omega⟩
  obtain ⟨f, hf⟩ := Classical.axiomOfChoice h
  refine ⟨(fun c => (f c).1, fun c => (f c).2), fun c q hq => hf c ?_ q hq⟩
  exact (List.getElem?_eq_some_iff.mp hq).1
theorem kn_A {s : State} {b : Nat} (hts : ∀ w ∈ lw_tbl, w.before #[Value.ref b] s = true) : ∃ cA : Nat → ClassId, ∀ (k : Nat) (q : ClassId × FieldType), ([(cA 11, FieldType.byte), (cA 12, .char), (cA 13, .int), (cA 14, .long), (cA 15, .boolean), (cA 16, .object RX0), (cA 17, .object RX1), (cA 18, .object RX5), (cA 19, .object RX6)] : List (ClassId × FieldType))[k]? = some q → ArrOfT s q.1 q.2 ∧ va_RA s q.1 q.2 := by
  obtain ⟨c11, a11, r11⟩ := arr_pr (hts (.arrayClass .byte) (List.mem_of_getElem? (i := 169) (by decide +kernel)))
  obtain ⟨c12, a12, r12⟩ := arr_pr (hts (.arrayClass .char) (List.mem_of_getElem? (i := 963) (by decide +kernel)))
  obtain ⟨c13, a13, r13⟩ := arr_pr (hts (.arrayClass .int) (List.mem_of_getElem? (i := 131) (by decide +kernel)))
  obtain ⟨c14, a14, r14⟩ := arr_pr (hts (.arrayClass .long) (List.mem_of_getElem? (i := 182) (by decide +kernel)))
  obtain ⟨c15, a15, r15⟩ := arr_pr (hts (.arrayClass .boolean) (List.mem_of_getElem? (i := 962) (by decide +kernel)))
  obtain ⟨c16, a16, r16⟩ := arr_ob (hts (.arrayOver (.object RX0)) (List.mem_of_getElem? (i := 132) (by decide +kernel)))
  obtain ⟨c17, a17, r17⟩ := arr_ob (hts (.arrayOver (.object RX1)) (List.mem_of_getElem? (i := 103) (by decide +kernel)))
  obtain ⟨c18, a18, r18⟩ := arr_ob (hts (.arrayOver (.object RX5)) (List.mem_of_getElem? (i := 198) (by decide +kernel)))
  obtain ⟨c19, a19, r19⟩ := arr_ob (hts (.arrayOver (.object RX6)) (List.mem_of_getElem? (i := 172) (by decide +kernel)))
  refine ⟨fun k => if k = 11 then c11 else if k = 12 then c12 else if k = 13 then c13 else if k = 14 then c14 else if k = 15 then c15 else if k = 16 then c16 else if k = 17 then c17 else if k = 18 then c18 else c19, fun k q hq => ?_⟩
  have hk : k < 9 := (List.getElem?_eq_some_iff.mp hq).1
  match k, hk with
  | 0, _ =>
    obtain rfl := Option.some.inj (show some (c11, FieldType.byte) = some q from hq)
    exact ⟨a11, r11⟩
  | 1, _ =>
    obtain rfl := Option.some.inj (show some (c12, FieldType.char) = some q from hq)
    exact ⟨a12, r12⟩
  | 2, _ =>
    obtain rfl := Option.some.inj (show some (c13, FieldType.int) = some q from hq)
    exact ⟨a13, r13⟩
  | 3, _ =>
    obtain rfl := Option.some.inj (show some (c14, FieldType.long) = some q from hq)
    exact ⟨a14, r14⟩
  | 4, _ =>
    obtain rfl := Option.some.inj (show some (c15, FieldType.boolean) = some q from hq)
    exact ⟨a15, r15⟩
  | 5, _ =>
    obtain rfl := Option.some.inj (show some (c16, FieldType.object RX0) = some q from hq)
    exact ⟨a16, r16⟩
  | 6, _ =>
    obtain rfl := Option.some.inj (show some (c17, FieldType.object RX1) = some q from hq)
    exact ⟨a17, r17⟩
  | 7, _ =>
    obtain rfl := Option.some.inj (show some (c18, FieldType.object RX5) = some q from hq)
    exact ⟨a18, r18⟩
  | 8, _ =>
    obtain rfl := Option.some.inj (show some (c19, FieldType.object RX6) = some q from hq)
    exact ⟨a19, r19⟩
theorem kn_T {s : State} {b : Nat} (hts : ∀ w ∈ lw_tbl, w.before #[Value.ref b] s = true) (hgv : (Jvm.Cond.and given_1 narrow_1).before #[Value.ref b] s = true) {A : Nat → Prop} (hA : ∀ a : Nat, a < s.heap.size → ¬ A a) : ∃ tS : Nat → Nat, ∀ i, i < 5 → va_Z RX8 (t9 i).1 "[I" (.ref (tS i)) A s s.heap ∧ va_T .int (tS i) (t9 i).2.length (fun j => .int ((t9 i).2.getD j 0)) A s s.heap := by
  have h : ∀ i : Nat, ∃ t : Nat, i < 5 → va_Z RX8 (t9 i).1 "[I" (.ref t) A s s.heap ∧ va_T .int t (t9 i).2.length (fun j => .int ((t9 i).2.getD j 0)) A s s.heap := by
    intro i
    by_cases hi : i < 5
    · obtain ⟨t, h1, h2⟩ := va_Tof (tm := tmT i) (ty := .int) (N := (t9 i).2.length) (f := fun j => .int ((t9 i).2.getD j 0)) (A := A) (ta_4 i hi) (at_w hgv (ta_1 i hi)) (va_eqt (at_w hgv (ta_2 i hi))) (fun j hj => va_eqt (at_w hgv (ta_3 i hi j hj))) hA
      exact ⟨t, fun _ => ⟨va_Zref (hts _ (List.mem_of_getElem? (tw_1 i hi))) (hts (.initialized RX8) (List.mem_of_getElem? (i := 72) (by decide +kernel))) h1 hA, h2⟩⟩
    · exact ⟨0, fun z => absurd z hi⟩
  obtain ⟨f, hf⟩ := Classical.axiomOfChoice h
  exact ⟨f, hf⟩
