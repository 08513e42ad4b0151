/-! THE START: what the tables and the Statement say, as the logic has it (written by wip/p45/g99l.py) -/
def AT : List Cond := flatC (Jvm.Cond.and given_1 narrow_1)
theorem at_w {args : Array Value} {s : State} (h : (Jvm.Cond.and given_1 narrow_1).before args s = true) {i : Nat} {w : Cond} (hw : AT[i]? = some w) : w.before args s = true := flat_of_before _ h w (List.mem_of_getElem? hw)
theorem hr_mono {s : State} {pl : Platform} {R R2 : Room} (h : s.hasRoom pl R = true) (h1 : R2.frames ≤ R.frames) (h2 : R2.locals ≤ R.locals) (h3 : R2.cells ≤ R.cells) (h4 : R2.slots ≤ R.slots) : s.hasRoom pl R2 = true := by
  simp only [State.hasRoom, Bool.and_eq_true, decide_eq_true_eq] at h ⊢
  obtain ⟨⟨⟨⟨a, b1, b2, b3, b4, b5⟩, g⟩, i⟩, j⟩ := h
  exact ⟨⟨⟨⟨by omega, by omega, by omega, by omega, by omega, b5⟩, by omega⟩, by omega⟩, j⟩
theorem arr_pr {args : Array Value} {s : State} {ty : FieldType} (h : (Cond.arrayClass ty).before args s = true) : ∃ c : ClassId, ArrOfT s c ty ∧ s.vm.findClass ("[" ++ ty.toString) = some c := by
  obtain ⟨c, k, comp, h1, h2, h3⟩ := Cond.arrayClass_spec (args := args) (first := s) (o := none) (idx := []) h
  exact ⟨c, fun n z => ⟨fun k e => (by cases e), k, h2, comp, h3⟩, h1⟩
theorem arr_ob {args : Array Value} {s : State} {C : String} (h : (Cond.arrayOver (.object C)).before args s = true) : ∃ c : ClassId, ArrOfT s c (.object C) ∧ va_RA s c (.object C) := by
  obtain ⟨comp, c, k, h1, h2, h3, h4, h5⟩ := Cond.arrayOver_spec (args := args) (first := s) (o := none) (idx := []) h
  exact ⟨c, fun n z => ⟨fun k e => (by cases e), k, h3, comp, h4⟩, k, comp, h3, h4, h1, h5⟩
theorem ix_D {α : Type} {L : List α} (d : α) {P : Nat → α → Prop} (h : ∀ i, i < L.length → P i (L.getD i d)) : ∀ i q, L[i]? = some q → P i q := by
  intro i q hq
  obtain ⟨hi, e⟩ := List.getElem?_eq_some_iff.mp hq
  have k := h i hi
  rw [List.getD_eq_getElem?_getD, hq] at k
  exact k
def bT : List Nat := [11, 19, 4]
def wT9 : List Nat := [236, 251, 230]
def wN9 : List Nat := [50, 85, 101, 121, 147, 216, 229, 235, 246, 457, 488, 490, 492, 494, 496, 498, 501, 503, 505, 658, 663]
def wO9 : List Nat := [82, 55, 144, 119, 624]
def bO9 : List Nat := [47, 53, 60, 68, 77, 87]
def t9 (i : Nat) : String × List Int32 := stW.getD i ("", [])
def tmT (i : Nat) : Term := Jvm.Term.static RX8 (t9 i).1 "[I"
theorem ta_1 : ∀ i, i < 3 → AT[bT.getD i 0 + 1]? = some (Jvm.Cond.arrayOf (tmT i) .int) := by decide +kernel
theorem ta_2 : ∀ i, i < 3 → AT[bT.getD i 0 + 2]? = some (Jvm.Cond.eq (.length (tmT i)) (.int (Int32.ofNat (t9 i).2.length))) := by decide +kernel
theorem ta_3 : ∀ i, i < 3 → ∀ j, j < (t9 i).2.length → AT[bT.getD i 0 + 3 + j]? = some (Jvm.Cond.eq (.elem (tmT i) (.int (Int32.ofNat j))) (.int ((t9 i).2.getD j 0))) := by decide +kernel
theorem ta_4 : ∀ i, i < 3 → (t9 i).2.length < 2147483648 := by decide +kernel
theorem tw_1 : ∀ i, i < 3 → lw_tbl[wT9.getD i 0]? = some (Jvm.Cond.laysStatic RX8 (t9 i).1 "[I") := by decide +kernel
theorem nw_1 : ∀ i, i < 21 → lw_tbl[wN9.getD i 0]? = nestW[i]? := by decide +kernel
theorem ow_1 : ∀ i, i < 5 → lw_tbl[wO9.getD i 0]? = some (Jvm.Cond.arrayOver (.object (aoW.getD i ""))) := by decide +kernel
/-- the law's ORDERS -/
def tmO : Term := Jvm.Term.static RL "ORDERS" "[[I"
def tmR (i : Nat) : Term := Jvm.Term.elem tmO (.int (Int32.ofNat i))
def o9 (i : Nat) : List Int32 := orW.getD i []
theorem oa_1 : ∀ i, i < 6 → AT[bO9.getD i 0 + 1]? = some (Jvm.Cond.arrayOf (tmR i) .int) := by decide +kernel
theorem oa_2 : ∀ i, i < 6 → AT[bO9.getD i 0 + 2]? = some (Jvm.Cond.eq (.length (tmR i)) (.int (Int32.ofNat (o9 i).length))) := by decide +kernel
theorem oa_3 : ∀ i, i < 6 → ∀ j, j < (o9 i).length → AT[bO9.getD i 0 + 3 + j]? = some (Jvm.Cond.eq (.elem (tmR i) (.int (Int32.ofNat j))) (.int ((o9 i).getD j 0))) := by decide +kernel
theorem oa_4 : ∀ i, i < 6 → (o9 i).length < 2147483648 := by decide +kernel
theorem oa_5 : AT[45]? = some (Jvm.Cond.arrayOf tmO (.array .int)) ∧ AT[46]? = some (Jvm.Cond.eq (.length tmO) (.int 6)) := by decide +kernel
def tmE : Term := Jvm.Term.static RJx4a65c "DEFAULTCAPACITY_EMPTY_ELEMENTDATA" "[Ljava/lang/Object;"
theorem oa_6 : AT[41]? = some (Jvm.Cond.arrayOf tmE (.object "java/lang/Object")) ∧ AT[43]? = some (Jvm.Cond.eq (.length tmE) (.int 0)) := by decide +kernel
theorem ow_2 : lw_tbl[662]? = some (Jvm.Cond.laysStatic RL "ORDERS" "[[I") ∧ lw_tbl[474]? = some (Jvm.Cond.laysStatic RJx4a65c "DEFAULTCAPACITY_EMPTY_ELEMENTDATA" "[Ljava/lang/Object;") ∧ lw_tbl[775]? = some (Jvm.Cond.castable "[I" "java/lang/Object") := by decide +kernel
theorem kn_D {s : State} {b : Nat} (hts : ∀ w ∈ lw_tbl, w.before #[Value.ref b] s = true) : ∃ D : va_G, ∀ c q, vwCl[c]? = some q → u_Kn s q.1 q.2.1 q.2.2 (D.1 c) (D.2 c) := by
  have hT : ∀ w ∈ TT, w.before #[Value.ref b] s = true := fun w hw => hts w (tt_in hw)
  have h : ∀ c : Nat, ∃ d : ClassId × (Nat → Nat), c < 11 → ∀ q, vwCl[c]? = some q → u_Kn s q.1 q.2.1 q.2.2 d.1 d.2 := by
    intro c
    match c with
    | 0 =>
      obtain ⟨x, y, k⟩ := u_known hT uv_0 (hts (.instantiable RX0 6) (List.mem_of_getElem? (i := 49) (by decide +kernel)))
      exact ⟨(x, y), fun _ q hq => by
        obtain rfl := Option.some.inj (show some (RX0, TX0, nF 0) = some q from hq)
        exact k⟩
    | 1 =>
      obtain ⟨x, y, k⟩ := u_known hT uv_1 (hts (.instantiable RX1 7) (List.mem_of_getElem? (i := 289) (by decide +kernel)))
      exact ⟨(x, y), fun _ q hq => by
        obtain rfl := Option.some.inj (show some (RX1, TX1, nF 1) = some q from hq)
        exact k⟩
    | 2 =>
      obtain ⟨x, y, k⟩ := u_known hT uv_2 (hts (.instantiable RX2 1) (List.mem_of_getElem? (i := 84) (by decide +kernel)))
      exact ⟨(x, y), fun _ q hq => by
        obtain rfl := Option.some.inj (show some (RX2, TX2, nF 2) = some q from hq)
        exact k⟩
    | 3 =>
      obtain ⟨x, y, k⟩ := u_known hT uv_3 (hts (.instantiable RX3 4) (List.mem_of_getElem? (i := 94) (by decide +kernel)))
      exact ⟨(x, y), fun _ q hq => by
        obtain rfl := Option.some.inj (show some (RX3, TX3, nF 3) = some q from hq)
        exact k⟩
    | 4 =>
      obtain ⟨x, y, k⟩ := u_known hT uv_4 (hts (.instantiable RX4 4) (List.mem_of_getElem? (i := 363) (by decide +kernel)))
      exact ⟨(x, y), fun _ q hq => by
        obtain rfl := Option.some.inj (show some (RX4, TX4, nF 4) = some q from hq)
        exact k⟩
    | 5 =>
      obtain ⟨x, y, k⟩ := u_known hT uv_5 (hts (.instantiable RX5 3) (List.mem_of_getElem? (i := 146) (by decide +kernel)))
      exact ⟨(x, y), fun _ q hq => by
        obtain rfl := Option.some.inj (show some (RX5, TX5, nF 5) = some q from hq)
        exact k⟩
    | 6 =>
      obtain ⟨x, y, k⟩ := u_known hT uv_6 (hts (.instantiable RX6 1) (List.mem_of_getElem? (i := 120) (by decide +kernel)))
      exact ⟨(x, y), fun _ q hq => by
        obtain rfl := Option.some.inj (show some (RX6, TX6, nF 6) = some q from hq)
        exact k⟩
    | 7 =>
      obtain ⟨x, y, k⟩ := u_known hT uv_7 (hts (.instantiable RX7 4) (List.mem_of_getElem? (i := 100) (by decide +kernel)))
      exact ⟨(x, y), fun _ q hq => by
        obtain rfl := Option.some.inj (show some (RX7, TX7, nF 7) = some q from hq)
        exact k⟩
    | 8 =>
      obtain ⟨x, y, k⟩ := u_known hT uv_8 (hts (.instantiable RX8 9) (List.mem_of_getElem? (i := 41) (by decide +kernel)))
      exact ⟨(x, y), fun _ q hq => by
        obtain rfl := Option.some.inj (show some (RX8, TX8, nF 8) = some q from hq)
        exact k⟩
    | 9 =>
      obtain ⟨x, y, k⟩ := u_known hT uv_9 (hts (.instantiable RX9 11) (List.mem_of_getElem? (i := 456) (by decide +kernel)))
      exact ⟨(x, y), fun _ q hq => by
        obtain rfl := Option.some.inj (show some (RX9, TX9, nF 9) = some q from hq)
        exact k⟩
    | 10 =>
      obtain ⟨x, y, k⟩ := u_known hT uv_10 (hts (.instantiable RJx4a65c 3) (List.mem_of_getElem? (i := 462) (by decide +kernel)))
      exact ⟨(x, y), fun _ q hq => by
        obtain rfl := Option.some.inj (show some (RJx4a65c, TJx4a65c, nF 10) = some q from hq)
        exact k⟩
    | n + 11 =>
      obtain ⟨x, y, k⟩ := u_known hT uv_0 (hts (.instantiable RX0 6) (List.mem_of_getElem? (i := 49) (by decide +kernel)))
      exact ⟨(x, y), fun h => by omega⟩
  obtain ⟨f, hf⟩ := Classical.axiomOfChoice h
  refine ⟨(fun c => (f c).1, fun c => (f c).2), fun c q hq => hf c ?_ q hq⟩
  exact (List.getElem?_eq_some_iff.mp hq).1
theorem kn_A {s : State} {b : Nat} (hts : ∀ w ∈ lw_tbl, w.before #[Value.ref b] s = true) : ∃ cA : Nat → ClassId, ∀ (k : Nat) (q : ClassId × FieldType), ([(cA 12, FieldType.byte), (cA 12, FieldType.byte), (cA 13, FieldType.int), (cA 14, FieldType.long), (cA 13, FieldType.int), (cA 16, FieldType.object RX0), (cA 17, FieldType.object RX1), (cA 18, FieldType.object RX5), (cA 19, FieldType.object RX6), (cA 20, FieldType.object "java/lang/Object")] : List (ClassId × FieldType))[k]? = some q → ArrOfT s q.1 q.2 ∧ va_RA s q.1 q.2 := by
  obtain ⟨c12, a12, r12⟩ := arr_pr (hts (.arrayClass .byte) (List.mem_of_getElem? (i := 116) (by decide +kernel)))
  obtain ⟨c13, a13, r13⟩ := arr_pr (hts (.arrayClass .int) (List.mem_of_getElem? (i := 81) (by decide +kernel)))
  obtain ⟨c14, a14, r14⟩ := arr_pr (hts (.arrayClass .long) (List.mem_of_getElem? (i := 129) (by decide +kernel)))
  obtain ⟨c16, a16, r16⟩ := arr_ob (hts (.arrayOver (.object RX0)) (List.mem_of_getElem? (i := 82) (by decide +kernel)))
  obtain ⟨c17, a17, r17⟩ := arr_ob (hts (.arrayOver (.object RX1)) (List.mem_of_getElem? (i := 55) (by decide +kernel)))
  obtain ⟨c18, a18, r18⟩ := arr_ob (hts (.arrayOver (.object RX5)) (List.mem_of_getElem? (i := 144) (by decide +kernel)))
  obtain ⟨c19, a19, r19⟩ := arr_ob (hts (.arrayOver (.object RX6)) (List.mem_of_getElem? (i := 119) (by decide +kernel)))
  obtain ⟨c20, a20, r20⟩ := arr_ob (hts (.arrayOver (.object "java/lang/Object")) (List.mem_of_getElem? (i := 624) (by decide +kernel)))
  refine ⟨fun k => if k = 12 then c12 else if k = 13 then c13 else if k = 14 then c14 else if k = 16 then c16 else if k = 17 then c17 else if k = 18 then c18 else if k = 19 then c19 else c20, fun k q hq => ?_⟩
  have hk : k < 10 := (List.getElem?_eq_some_iff.mp hq).1
  match k, hk with
  | 0, _ =>
    obtain rfl := Option.some.inj (show some (c12, FieldType.byte) = some q from hq)
    exact ⟨a12, r12⟩
  | 1, _ =>
    obtain rfl := Option.some.inj (show some (c12, FieldType.byte) = some q from hq)
    exact ⟨a12, r12⟩
  | 2, _ =>
    obtain rfl := Option.some.inj (show some (c13, FieldType.int) = some q from hq)
    exact ⟨a13, r13⟩
  | 3, _ =>
    obtain rfl := Option.some.inj (show some (c14, FieldType.long) = some q from hq)
    exact ⟨a14, r14⟩
  | 4, _ =>
    obtain rfl := Option.some.inj (show some (c13, FieldType.int) = some q from hq)
    exact ⟨a13, r13⟩
  | 5, _ =>
    obtain rfl := Option.some.inj (show some (c16, FieldType.object RX0) = some q from hq)
    exact ⟨a16, r16⟩
  | 6, _ =>
    obtain rfl := Option.some.inj (show some (c17, FieldType.object RX1) = some q from hq)
    exact ⟨a17, r17⟩
  | 7, _ =>
    obtain rfl := Option.some.inj (show some (c18, FieldType.object RX5) = some q from hq)
    exact ⟨a18, r18⟩
  | 8, _ =>
    obtain rfl := Option.some.inj (show some (c19, FieldType.object RX6) = some q from hq)
    exact ⟨a19, r19⟩
  | 9, _ =>
    obtain rfl := Option.some.inj (show some (c20, FieldType.object "java/lang/Object") = some q from hq)
    exact ⟨a20, r20⟩
theorem kn_T {s : State} {b : Nat} (hts : ∀ w ∈ lw_tbl, w.before #[Value.ref b] s = true) (hgv : (Jvm.Cond.and given_1 narrow_1).before #[Value.ref b] s = true) {A : Nat → Prop} (hA : ∀ a : Nat, a < s.heap.size → ¬ A a) : ∃ tS : Nat → Nat, ∀ i, i < 3 → va_Z RX8 (t9 i).1 "[I" (.ref (tS i)) A s s.heap ∧ va_T .int (tS i) (t9 i).2.length (fun j => .int ((t9 i).2.getD j 0)) A s s.heap := by
  have h : ∀ i : Nat, ∃ t : Nat, i < 3 → va_Z RX8 (t9 i).1 "[I" (.ref t) A s s.heap ∧ va_T .int t (t9 i).2.length (fun j => .int ((t9 i).2.getD j 0)) A s s.heap := by
    intro i
    by_cases hi : i < 3
    · obtain ⟨t, h1, h2⟩ := va_Tof (tm := tmT i) (ty := .int) (N := (t9 i).2.length) (f := fun j => .int ((t9 i).2.getD j 0)) (A := A) (ta_4 i hi) (at_w hgv (ta_1 i hi)) (va_eqt (at_w hgv (ta_2 i hi))) (fun j hj => va_eqt (at_w hgv (ta_3 i hi j hj))) hA
      exact ⟨t, fun _ => ⟨va_Zref (hts _ (List.mem_of_getElem? (tw_1 i hi))) (hts (.initialized RX8) (List.mem_of_getElem? (i := 20) (by decide +kernel))) h1 hA, h2⟩⟩
    · exact ⟨0, fun z => absurd z hi⟩
  obtain ⟨f, hf⟩ := Classical.axiomOfChoice h
  exact ⟨f, hf⟩
theorem kn_O {s : State} {b : Nat} (hts : ∀ w ∈ lw_tbl, w.before #[Value.ref b] s = true) (hgv : (Jvm.Cond.and given_1 narrow_1).before #[Value.ref b] s = true) {A : Nat → Prop} (hA : ∀ a : Nat, a < s.heap.size → ¬ A a) : ∃ (t7 : Nat) (tO : Nat → Nat), (va_Z RL "ORDERS" "[[I" (.ref t7) A s s.heap ∧ va_T (.array .int) t7 6 (fun j => .ref (tO j)) A s s.heap) ∧ ∀ i, i < 6 → va_T .int (tO i) (o9 i).length (fun j => .int ((o9 i).getD j 0)) A s s.heap := by
  have h : ∀ i : Nat, ∃ t : Nat, i < 6 → (tmR i).eval #[Value.ref b] s none [] s = some (.ref t) ∧ va_T .int t (o9 i).length (fun j => .int ((o9 i).getD j 0)) A s s.heap := by
    intro i
    by_cases hi : i < 6
    · obtain ⟨t, h1, h2⟩ := va_Tof (tm := tmR i) (ty := .int) (N := (o9 i).length) (f := fun j => .int ((o9 i).getD j 0)) (A := A) (oa_4 i hi) (at_w hgv (oa_1 i hi)) (va_eqt (at_w hgv (oa_2 i hi))) (fun j hj => va_eqt (at_w hgv (oa_3 i hi j hj))) hA
      exact ⟨t, fun _ => ⟨h1, h2⟩⟩
    · exact ⟨0, fun z => absurd z hi⟩
  obtain ⟨tO, hO⟩ := Classical.axiomOfChoice h
  obtain ⟨t7, h1, h2⟩ := va_Tof (tm := tmO) (ty := .array .int) (N := 6) (f := fun j => .ref (tO j)) (A := A) (by decide) (at_w hgv oa_5.1) (va_eqt (at_w hgv oa_5.2)) (fun j hj => (hO j hj).1) hA
  exact ⟨t7, tO, ⟨va_Zref (hts _ (List.mem_of_getElem? ow_2.1)) (hts (.initialized RL) (List.mem_of_getElem? (i := 19) (by decide +kernel))) h1 hA, h2⟩, fun i hi => (hO i hi).2⟩
theorem kn_E {s : State} {b : Nat} (hts : ∀ w ∈ lw_tbl, w.before #[Value.ref b] s = true) (hgv : (Jvm.Cond.and given_1 narrow_1).before #[Value.ref b] s = true) {A : Nat → Prop} (hA : ∀ a : Nat, a < s.heap.size → ¬ A a) : ∃ t : Nat, va_Z RJx4a65c "DEFAULTCAPACITY_EMPTY_ELEMENTDATA" "[Ljava/lang/Object;" (.ref t) A s s.heap ∧ va_T (.object "java/lang/Object") t 0 (fun _ => .null) A s s.heap := by
  obtain ⟨t, h1, h2⟩ := va_Tof (tm := tmE) (ty := .object "java/lang/Object") (N := 0) (f := fun _ => .null) (A := A) (by decide) (at_w hgv oa_6.1) (va_eqt (at_w hgv oa_6.2)) (fun j hj => absurd hj (Nat.not_lt_zero j)) hA
  exact ⟨t, va_Zref (hts _ (List.mem_of_getElem? ow_2.2.1)) (hts (.initialized RJx4a65c) (List.mem_of_getElem? (i := 30) (by decide +kernel))) h1 hA, h2⟩
