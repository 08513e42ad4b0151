/-! what stays while the machine goes on; returns; contracts; calls -/
theorem Kn.warm {X : EX} {s U : State} (hW : s.WarmedH U.vm) (h : Kn X s) : Kn X U := by
  obtain ⟨h1, h2, h3, h4⟩ := h
  refine ⟨h1.moved hW.alike, fun w hw => ?_, fun C hC => (h3 C hC).moved hW.alike, va_Nw.warmC hW h4⟩
  have h5 := h2 w hw
  simp only [nestW, List.mem_cons, List.not_mem_nil, or_false] at hw
  rcases hw with rfl | rfl | rfl | rfl | rfl | rfl | rfl | rfl | rfl | rfl | rfl | rfl | rfl | rfl | rfl | rfl | rfl | rfl | rfl | rfl | rfl <;> first | exact va_Nw.warmM hW h5 | exact va_Nw.warmF hW h5
theorem Kn.same {X : EX} {u U : State} (hv : U.vm = u.vm) (h : Kn X u) : Kn X U := by
  obtain ⟨h1, h2, h3, h4⟩ := h
  have hal : u.vm.Alike U.vm := by rw [hv]; exact Vm.Alike.refl _
  refine ⟨h1.moved hal, fun w hw => ?_, fun C hC => (h3 C hC).moved hal, va_Nw.same rfl hv.symm h4⟩
  have h5 := h2 w hw
  simp only [nestW, List.mem_cons, List.not_mem_nil, or_false] at hw
  rcases hw with rfl | rfl | rfl | rfl | rfl | rfl | rfl | rfl | rfl | rfl | rfl | rfl | rfl | rfl | rfl | rfl | rfl | rfl | rfl | rfl | rfl <;> exact va_Nw.same rfl hv.symm h5
theorem Pre.moved {X : EX} {u U : State} {H : Heap} (hvm : u.vm.Alike U.vm) (h : Pre X u H) : Pre X U H := by
  obtain ⟨h1, h2, h3, h4, h5, h6⟩ := h
  exact ⟨fun i q hq => ⟨va_Z.moved hvm (h1 i q hq).1, va_T.moved hvm (h1 i q hq).2⟩, va_T.moved hvm h2, ⟨va_Z.moved hvm h3.1, va_T.moved hvm h3.2⟩, fun i q hq => va_T.moved hvm (h4 i q hq), va_Z.moved hvm h5, va_T.moved hvm h6⟩
theorem Pre.kept {X : EX} {U : State} {H H1 : Heap} (h : Pre X U H) (hq : ∀ a : Nat, a < H.size → ¬ AA X a → H1[a]? = H[a]?) : Pre X U H1 := by
  obtain ⟨h1, h2, h3, h4, h5, h6⟩ := h
  exact ⟨fun i q hi => ⟨va_Z.kept (h1 i q hi).1 hq, va_T.kept (h1 i q hi).2 hq⟩, va_T.kept h2 hq, ⟨va_Z.kept h3.1 hq, va_T.kept h3.2 hq⟩, fun i q hi => va_T.kept (h4 i q hi) hq, va_Z.kept h5 hq, va_T.kept h6 hq⟩
theorem cor_of {X : EX} {h : HP} {s t : State} {H : Heap} {locs : List Loc} (hK : Kn X s) (hP : Pre X s s.heap) (hC : CorH X h H) (hS : va_S (AA X) s.heap H locs) (ht : t.heap = H) (hW : s.WarmedH t.vm) : Cor X h t := by
  subst ht
  exact ⟨hC, hK.warm hW, (hP.moved hW.alike).kept hS.2.1⟩
theorem blind {X : EX} {h : HP} (av : List Value) : FrameBlind (va_Pc av (fun U => Cor X h U)) := fun a U g mk q => by
  obtain ⟨q1, q2, q3, q4⟩ := q
  exact ⟨q1, q2, Kn.same (u := U) (U := U.calling g mk a) rfl q3, q4.moved (U := U.calling g mk a) (Vm.Alike.refl _)⟩
/-- the locals at the beginning -/
def arL : Nat → List VV → ZL
  | _, [] => []
  | i, v :: vs => (i, some v) :: arL (if is2 (some v) then i + 2 else i + 1) vs
def szL : List VV → Nat
  | [] => 0
  | v :: vs => (if is2 (some v) then 2 else 1) + szL vs
theorem szL_eq {X : EX} (av : List VV) : (lg_sl (av.map (cv X))).length = szL av := by
  induction av with
  | nil => rfl
  | cons v vs ih =>
    unfold lg_sl at ih ⊢
    rw [List.map_cons, List.flatMap_cons, List.length_append, ih, cv_cat]
    show _ = (if is2 (some v) then 2 else 1) + szL vs
    cases is2 (some v) <;> simp
theorem arL_in {X : EX} (av : List VV) : ∀ (i0 i : Nat) (v : VV), gL (arL i0 av) i = some v → (i, cv X v) ∈ lv_args i0 (av.map (cv X)) := by
  induction av with
  | nil => intro i0 i v h; cases h
  | cons w vs ih =>
    intro i0 i v h
    unfold arL at h
    simp only [gL] at h
    rw [List.map_cons]
    unfold lv_args
    by_cases hi : i = i0
    · subst hi
      rw [if_pos rfl] at h
      cases h
      exact List.mem_cons_self
    · rw [if_neg hi] at h
      refine List.mem_cons_of_mem _ ?_
      have h2 := ih _ _ _ h
      rw [cv_cat]
      cases hw : is2 (some w)
      · rw [hw] at h2; exact h2
      · rw [hw] at h2; exact h2
theorem ct_of {X : EX} {y : MD} {d mc ms : Nat} {av : List VV} {h : HP} {Q : Option VV → HP → Prop} (hpl : plainName y.1.cls = true) (hlen : szL av ≤ y.2.2.1) (k : Ev X y d mc ms Q 0 0 0 (arL 0 av) [] h) : Ct X y d mc ms av h Q := by
  refine Met.ofW (cc := y.2.1) (maxL := y.2.2.1) (ret := y.2.2.2) (ws' := TT) hpl rfl ?_
  intro p e s m args below meth c s₁ B hml hv
  obtain ⟨rfl, hcor⟩ := hv
  have hts := atoms_spec (ws := wsM y) B.pre
  have hin := (name_of_methodNamed B.named B.method).1
  have hown : s.vm.findClass y.1.cls = some m.cls := findClass_of_methodNamed B.named
  rw [lg_entry_eq]
  refine k p e s m _ below meth c s.heap [] _ ⟨B.exec, B.bytes, hml, B.returns, hown, fun w hw => hts w (List.mem_cons_of_mem _ hw), B.notSynchronized, hin, hcor.2.1, hcor.2.2, ?_⟩ hcor.1 va_S.rf ⟨_, lv_entry (av.map (cv X)) (by rw [szL_eq]; exact hlen), arL_in av 0⟩
  rw [hcor.1.1]
  omega
section R5
variable {X : EX} {y : MD} {d mc ms : Nat} {Q : Option VV → HP → Prop} {cells slots pc pc' : Nat} {ls : ZL} {st : List VV} {h : HP}
theorem e_nret {x : Int32} {ty : FieldType} (hd : At y.2.1 pc .ireturn 1 pc') (hr : y.2.2.2 = some ty) (hn : narrow ty (.int x) = .int x) (hc : cells ≤ mc) (hs : slots ≤ ms) (hQ : Q (some (vI x)) h) : Ev X y d mc ms Q cells slots pc ls [vI x] h := by
  obtain ⟨hd, rfl⟩ := hd
  intro p e s m args below meth c H locs lsr C hC hS hl
  obtain ⟨hx, hb, hml, hret, hown, hts, hlk, hnm, hK, hP, hsz⟩ := C
  refine W.widen hc hs ?_
  exact W.zret (ty := ty) hx hb (hret.trans hr) hn (fun t ht hW => ⟨⟨some (vI x), h, rfl, hQ, cor_of hK hP hC hS ht hW⟩, hS.F ht⟩) hS.2.2 hd
theorem e_ireturn {x : Int32} (hd : At y.2.1 pc .ireturn 1 pc') (hr : y.2.2.2 = some .int) (hc : cells ≤ mc) (hs : slots ≤ ms) (hQ : Q (some (vI x)) h) : Ev X y d mc ms Q cells slots pc ls [vI x] h := e_nret hd hr rfl hc hs hQ
theorem e_zreturn {x : Int32} (hd : At y.2.1 pc .ireturn 1 pc') (hr : y.2.2.2 = some .boolean) (hx : x = 0 ∨ x = 1) (hc : cells ≤ mc) (hs : slots ≤ ms) (hQ : Q (some (vI x)) h) : Ev X y d mc ms Q cells slots pc ls [vI x] h := e_nret hd hr (by rcases hx with rfl | rfl <;> decide) hc hs hQ
theorem e_lreturn {x : Int64} (hd : At y.2.1 pc .lreturn 1 pc') (hr : y.2.2.2 = some .long) (hc : cells ≤ mc) (hs : slots ≤ ms) (hQ : Q (some (vL x)) h) : Ev X y d mc ms Q cells slots pc ls [vL x] h := by
  obtain ⟨hd, rfl⟩ := hd
  intro p e s m args below meth c H locs lsr C hC hS hl
  obtain ⟨hx, hb, hml, hret, hown, hts, hlk, hnm, hK, hP, hsz⟩ := C
  refine W.widen hc hs ?_
  exact W.lret hx hb (hret.trans hr) (fun t ht hW => ⟨⟨some (vL x), h, rfl, hQ, cor_of hK hP hC hS ht hW⟩, hS.F ht⟩) hS.2.2 hd
theorem e_areturn {r : Option Nat} {C0 : String} (hd : At y.2.1 pc .areturn 1 pc') (hr : y.2.2.2 = some (.object C0)) (hc : cells ≤ mc) (hs : slots ≤ ms) (hQ : Q (some (vR r)) h) : Ev X y d mc ms Q cells slots pc ls [vR r] h := by
  obtain ⟨hd, rfl⟩ := hd
  intro p e s m args below meth c H locs lsr C hC hS hl
  obtain ⟨hx, hb, hml, hret, hown, hts, hlk, hnm, hK, hP, hsz⟩ := C
  refine W.widen hc hs ?_
  refine W.aret (v := cv X (vR r)) hx hb (hret.trans hr) (Or.inl ⟨_, rfl⟩) ?_ (fun t ht hW => ⟨⟨some (vR r), h, rfl, hQ, cor_of hK hP hC hS ht hW⟩, hS.F ht⟩) hS.2.2 hd
  cases r with
  | none => exact Or.inl rfl
  | some a => exact Or.inr ⟨_, rfl⟩
theorem e_areturnA {r : Option Nat} {C0 : FieldType} (hd : At y.2.1 pc .areturn 1 pc') (hr : y.2.2.2 = some (.array C0)) (hc : cells ≤ mc) (hs : slots ≤ ms) (hQ : Q (some (vR r)) h) : Ev X y d mc ms Q cells slots pc ls [vR r] h := by
  obtain ⟨hd, rfl⟩ := hd
  intro p e s m args below meth c H locs lsr C hC hS hl
  obtain ⟨hx, hb, hml, hret, hown, hts, hlk, hnm, hK, hP, hsz⟩ := C
  refine W.widen hc hs ?_
  refine W.aret (v := cv X (vR r)) hx hb (hret.trans hr) (Or.inr ⟨_, rfl⟩) ?_ (fun t ht hW => ⟨⟨some (vR r), h, rfl, hQ, cor_of hK hP hC hS ht hW⟩, hS.F ht⟩) hS.2.2 hd
  cases r with
  | none => exact Or.inl rfl
  | some a => exact Or.inr ⟨_, rfl⟩
theorem e_return (hd : At y.2.1 pc .return_ 1 pc') (hr : y.2.2.2 = none) (hc : cells ≤ mc) (hs : slots ≤ ms) (hQ : Q none h) : Ev X y d mc ms Q cells slots pc ls [] h := by
  obtain ⟨hd, rfl⟩ := hd
  intro p e s m args below meth c H locs lsr C hC hS hl
  obtain ⟨hx, hb, hml, hret, hown, hts, hlk, hnm, hK, hP, hsz⟩ := C
  refine W.widen hc hs ?_
  exact W.vret hx hb (hret.trans hr) (fun t ht hW => ⟨⟨none, h, rfl, hQ, cor_of hK hP hC hS ht hW⟩, hS.F ht⟩) hS.2.2 hd
theorem e_widen {k n : Nat} (h1 : cells ≤ k) (h2 : slots ≤ n) (kk : Ev X y d mc ms Q k n pc ls st h) : Ev X y d mc ms Q cells slots pc ls st h := by
  intro p e s m args below meth c H locs lsr C hC hS hl
  exact W.widen h1 h2 (kk p e s m args below meth c H locs lsr C hC hS hl)
end R5
/-- an object or array of kind t of ours -/
def Is (h : HP) (a t : Nat) : Prop := 32 ≤ a ∧ a < hZ h ∧ hT h a = t
theorem ent_obj {X : EX} {h : HP} {a ci : Nat} (hc : ci < 11) (h1 : hT h a = ci + 1) : ent X h a = .inr (ci, (List.range (nF ci)).map (fun i => if isR ci i then va_rf ((hR h a i).map (ad X)) else .int (hI h a i))) := by
  unfold ent
  rw [h1, if_pos (by omega)]
  rfl
theorem ent_int {X : EX} {h : HP} {a t : Nat} (ht : t = 12 ∨ t = 13) (h1 : hT h a = t) : ent X h a = .inl (xA X t, hN h a, .inl (hI h a)) := by
  unfold ent
  rw [h1, if_neg (by omega), if_neg (by omega), if_pos (by omega)]
theorem ent_long {X : EX} {h : HP} {a : Nat} (h1 : hT h a = 14) : ent X h a = .inl (xA X 14, hN h a, .inr (.inl (hL h a))) := by
  unfold ent
  rw [h1, if_neg (by omega), if_pos rfl]
theorem ent_ref {X : EX} {h : HP} {a t : Nat} (ht : 16 ≤ t) (h1 : hT h a = t) : ent X h a = .inl (xA X t, hN h a, .inr (.inr (.inr (.inr (fun i => (hR h a i).map (ad X)))))) := by
  unfold ent
  rw [h1, if_neg (by omega), if_neg (by omega), if_neg (by omega)]
/-- a class of the table -/
def Cl (ci : Nat) (C : String) : Prop := ci < 11 ∧ ∃ r, vwCl[ci]? = some r ∧ r.1 = C
/-- links of calls, and what the tables say of the callee -/
def MdOk (y : MD) : Prop := cw y ∈ TT ∧ (y.1.cls ≠ "java/lang/invoke/MethodHandle" ∧ y.1.cls ≠ "java/lang/invoke/VarHandle") ∧ .initialized y.1.cls ∈ TT
def npar (y : MD) (n : Nat) : Prop := (parseMethodDescriptor y.1.desc).map (fun d => d.parameters.length) = some n
def CalV (own : String) (ix ci : Nat) (y : MD) (n : Nat) : Prop := MdOk y ∧ npar y n ∧ Cl ci y.1.cls ∧ .methodLink own ix y.1 ∈ TT ∧ .instanceMethod y.1 ∈ TT ∧ .selects y.1.cls y.1 y.1 ∈ TT
def CalS (own : String) (ix : Nat) (y : MD) (n : Nat) : Prop := MdOk y ∧ npar y n ∧ .methodLink own ix y.1 ∈ TT ∧ .static y.1 ∈ TT
def CalSN (own : String) (ix : Nat) (y : MD) (n : Nat) : Prop := MdOk y ∧ npar y n ∧ (∃ H : String, .methodLinkNest own ix y.1 H ∈ nestW) ∧ .static y.1 ∈ TT
def CalI (own : String) (ix : Nat) (y : MD) (n : Nat) : Prop := MdOk y ∧ npar y n ∧ y.2.2.2 = none ∧ y.1.name = "<init>" ∧ .methodLink own ix y.1 ∈ TT ∧ .instanceMethod y.1 ∈ TT
def CalIN (own : String) (ix : Nat) (y : MD) (n : Nat) : Prop := MdOk y ∧ npar y n ∧ y.2.2.2 = none ∧ y.1.name = "<init>" ∧ (∃ H : String, .methodLinkNest own ix y.1 H ∈ nestW) ∧ .instanceMethod y.1 ∈ TT
theorem goodM {y : MD} (h : MdOk y) : ∀ w ∈ wsM y, w ∈ TT := fun w hw => by
  rcases List.mem_cons.mp hw with rfl | hw
  · exact h.1
  · exact hw
/-- categories of the stack below a call -/
def catL (st : List VV) : Nat := (st.map (fun v => if is2 (some v) then 2 else 1)).sum
theorem catL_eq {X : EX} (st : List VV) : ((st.map (cv X)).map fun v => v.category).sum = catL st := by
  unfold catL
  rw [List.map_map]
  congr 1
  apply List.map_congr_left
  intro v _
  exact cv_cat
section R6
variable {p : Program} {l : Launch} {e : Env} {R : Room} {s : State} {m : MethodId} {args : Array Value} {below : List Frame} {meth : Method} {c : Code} {H : Heap} {locs : List Loc} {cells slots : Nat} {Qs : State → Prop}
theorem ev_call {X : EX} {Q' : Option VV → HP → Prop} {pc : Nat} {lsr : Array Slot} {st0 rest : List Value} {mc ms : Nat} {a : Array Value} (hr : va_Run p l e R s m args below meth c H locs cells slots mc ms (F0 m pc lsr st0) rest (Qm X Q' a) (AA X)) (hS : va_S (AA X) s.heap H locs)
    (kk : ∀ (v : Option VV) (h' : HP) (H1 : Heap) (locs1 : List Loc), Q' v h' → CorH X h' H1 → va_S (AA X) s.heap H1 locs1 → W p l e R s m args below meth c H1 locs1 (cells + mc) (slots + ms) Qs (F0 m (pc + 3) lsr ((v.map (cv X)).toList ++ rest))) : W p l e R s m args below meth c H locs cells slots Qs (F0 m pc lsr st0) := by
  intro T hT X0
  obtain ⟨v, st₀, t, T', L, h0, X', hL, e1, e2, ⟨⟨v', h', hv, hq, hc⟩, hz, hk⟩, st⟩ := hr T hT X0
  cases hv
  rw [h0] at hz hk
  obtain ⟨t2, a1, b1⟩ := kk v' h' T'.heap (locs ++ L) hq (by rw [e1]; exact hc.1)
    ⟨Nat.le_trans hS.1 (by rw [e1]; exact hz), fun q h1 h2 => by rw [e1, hk q (Nat.lt_of_lt_of_le h1 hS.1) h2]; exact hS.2.1 q h1 h2, fun q hq => by
      rcases List.mem_append.mp hq with h | h
      · exact hS.2.2 q h
      · exact hL q h⟩ T' rfl X'
  exact ⟨t2, st t2 a1, b1⟩
end R6
section R7
variable {X : EX} {y : MD} {d mc ms : Nat} {Q : Option VV → HP → Prop} {cells slots pc pc' : Nat} {ls : ZL} {st rest : List VV} {h : HP} {y' : MD} {d' mc' ms' n ix ci : Nat} {as : List VV} {Q' : Option VV → HP → Prop}
theorem rest_cons {X : EX} (v : Option VV) (rest : List VV) : (v.map (cv X)).toList ++ rest.map (cv X) = (v.toList ++ rest).map (cv X) := by
  cases v <;> rfl
theorem cor_call {X : EX} {h : HP} {s : State} {H : Heap} {locs : List Loc} (hK : Kn X s) (hP : Pre X s s.heap) (hC : CorH X h H) (hS : va_S (AA X) s.heap H locs) (As : List Value) : PreS s H (va_Pc As (fun U => Cor X h U)) As :=
  ⟨blind As, fun U hU hW => ⟨rfl, cor_of hK hP hC hS hU hW⟩⟩
theorem room_ok {y' : MD} (hml : y'.2.2.1 ≤ 12) (hdd : d' + 1 ≤ d) : (rmd d' mc' ms').frames + 1 ≤ (rmd d mc ms).frames ∧ 8 + (y'.2.2.1 + 11) + (rmd d' mc' ms').locals ≤ (rmd d mc ms).locals := by
  refine ⟨hdd, ?_⟩
  show 8 + (y'.2.2.1 + 11) + 40 * d' ≤ 40 * d
  omega
theorem e_invv {a : Nat} (hd : At y.2.1 pc (.invokevirtual ix) 3 pc') (cal : CalV y.1.cls ix ci y' n) (hc : Ct X y' d' mc' ms' (vR (some a) :: as) h Q') (hst : st = as.reverse ++ vR (some a) :: rest) (hn : as.length = n) (hT : Is h a (ci + 1)) (hml : y'.2.2.1 ≤ 12) (hdd : d' + 1 ≤ d) (hcc : cells + mc' ≤ mc) (hss : slots + ms' ≤ ms) (hcat : catL rest ≤ 8)
    (k : ∀ v h', Q' v h' → Ev X y d mc ms Q (cells + mc') (slots + ms') pc' ls (v.toList ++ rest) h') : Ev X y d mc ms Q cells slots pc ls st h := by
  obtain ⟨hd, rfl⟩ := hd
  intro p e s m args below meth c H locs lsr C hC hS hl
  obtain ⟨lv, hv, -⟩ := id hl
  obtain ⟨hx, hb, hmx, hret, hown, hts, hlk, hnm, hK, hP, hsz⟩ := id C
  obtain ⟨hok, hnp, ⟨hci, r, hr, hrc⟩, w1, w2, w3⟩ := cal
  have he := wl_get (X := X) hT.1 hT.2.1
  rw [ent_obj hci hT.2.2] at he
  have hgood : GoodIn TT (wsV y.1.cls ix y'.1.cls y'.1 (wsM y')) := tt_goodIn (fun w hw => by
    rcases List.mem_append.mp hw with hw | hw
    · simp only [List.mem_cons, List.not_mem_nil, or_false] at hw
      rcases hw with rfl | rfl | rfl | rfl
      · exact w1
      · exact w2
      · exact w3
      · exact hok.2.2
    · exact goodM hok w hw)
  have hrv := va_recv hK.1 hC.2.2 hr he
  rw [hrc] at hrv
  have hpr : PreV s H y'.1.cls (ad X a) (va_Pc ((vR (some a) :: as).map (cv X)) (fun U => Cor X h U)) (as.map (cv X)) := ⟨blind _, hrv, fun U hU hW => ⟨rfl, cor_of hK hP hC hS hU hW⟩⟩
  have hstk : st.map (cv X) = (as.map (cv X)).reverse ++ .ref (ad X a) :: rest.map (cv X) := by
    rw [hst, List.map_append, List.map_reverse]
    rfl
  have run := va_runV (l := xl X) (e := e) (R := rmd d mc ms) (below := below) (meth := meth) (locs := locs) (cells := cells) (slots := slots) (rest := rest.map (cv X)) (g := F0 m pc lsr (st.map (cv X))) ⟨hx, hb, hmx, hown, hts⟩ hc
    (cwV n hts hgood rfl rfl rfl ⟨rfl, hok.2.1.1, hok.2.1.2, hnp⟩ (room_ok hml hdd)) hpr rfl (by rw [List.length_map]; exact hn) hv.1 hstk (lv_room (by rw [catL_eq]; exact hcat)) (by rw [hb] at *; exact hd) ⟨hcc, hss⟩
  refine ev_call run hS (fun v h' H1 locs1 q hC' hS' => ?_)
  rw [rest_cons]
  exact k v h' q p e s m args below meth c H1 locs1 lsr C hC' hS' hl
theorem e_invs (hd : At y.2.1 pc (.invokestatic ix) 3 pc') (cal : CalS y.1.cls ix y' n) (hc : Ct X y' d' mc' ms' as h Q') (hst : st = as.reverse ++ rest) (hn : as.length = n) (hml : y'.2.2.1 ≤ 12) (hdd : d' + 1 ≤ d) (hcc : cells + mc' ≤ mc) (hss : slots + ms' ≤ ms) (hcat : catL rest ≤ 8)
    (k : ∀ v h', Q' v h' → Ev X y d mc ms Q (cells + mc') (slots + ms') pc' ls (v.toList ++ rest) h') : Ev X y d mc ms Q cells slots pc ls st h := by
  obtain ⟨hd, rfl⟩ := hd
  intro p e s m args below meth c H locs lsr C hC hS hl
  obtain ⟨lv, hv, -⟩ := id hl
  obtain ⟨hx, hb, hmx, hret, hown, hts, hlk, hnm, hK, hP, hsz⟩ := id C
  obtain ⟨hok, hnp, w1, w2⟩ := cal
  have hgood : GoodIn TT (va_wsS y.1.cls ix y'.1 (wsM y')) := tt_goodIn (fun w hw => by
    rcases List.mem_append.mp hw with hw | hw
    · simp only [List.mem_cons, List.not_mem_nil, or_false] at hw
      rcases hw with rfl | rfl | rfl
      · exact w1
      · exact w2
      · exact hok.2.2
    · exact goodM hok w hw)
  have hstk : st.map (cv X) = (as.map (cv X)).reverse ++ rest.map (cv X) := by
    rw [hst, List.map_append, List.map_reverse]
  have run := va_runS (l := xl X) (e := e) (R := rmd d mc ms) (below := below) (meth := meth) (locs := locs) (cells := cells) (slots := slots) (rest := rest.map (cv X)) (g := F0 m pc lsr (st.map (cv X))) ⟨hx, hb, hmx, hown, hts⟩ hc
    (va_cwS n hts hgood rfl rfl rfl ⟨hok.2.1.1, hok.2.1.2, hnp⟩ (room_ok hml hdd)) (cor_call hK hP hC hS _) rfl (by rw [List.length_map]; exact hn) hv.1 hstk (lv_room (by rw [catL_eq]; exact hcat)) hd ⟨hcc, hss⟩
  refine ev_call run hS (fun v h' H1 locs1 q hC' hS' => ?_)
  rw [rest_cons]
  exact k v h' q p e s m args below meth c H1 locs1 lsr C hC' hS' hl
theorem e_invsN (hd : At y.2.1 pc (.invokestatic ix) 3 pc') (cal : CalSN y.1.cls ix y' n) (hc : Ct X y' d' mc' ms' as h Q') (hst : st = as.reverse ++ rest) (hn : as.length = n) (hml : y'.2.2.1 ≤ 12) (hdd : d' + 1 ≤ d) (hcc : cells + mc' ≤ mc) (hss : slots + ms' ≤ ms) (hcat : catL rest ≤ 8)
    (k : ∀ v h', Q' v h' → Ev X y d mc ms Q (cells + mc') (slots + ms') pc' ls (v.toList ++ rest) h') : Ev X y d mc ms Q cells slots pc ls st h := by
  obtain ⟨hd, rfl⟩ := hd
  intro p e s m args below meth c H locs lsr C hC hS hl
  obtain ⟨lv, hv, -⟩ := id hl
  obtain ⟨hx, hb, hmx, hret, hown, hts, hlk, hnm, hK, hP, hsz⟩ := id C
  obtain ⟨hok, hnp, ⟨_, w1⟩, w2⟩ := cal
  have hstk : st.map (cv X) = (as.map (cv X)).reverse ++ rest.map (cv X) := by
    rw [hst, List.map_append, List.map_reverse]
  have run := va_runSN (l := xl X) (e := e) (R := rmd d mc ms) (below := below) (meth := meth) (locs := locs) (cells := cells) (slots := slots) (rest := rest.map (cv X)) (g := F0 m pc lsr (st.map (cv X))) ⟨hx, hb, hmx, hown, hts⟩ hc
    ⟨va_cnB (y := y'.1) n hts (tt_goodIn (goodM hok)) rfl rfl rfl (hK.2.1 _ w1) (hts _ hok.2.2) ⟨hok.2.1.1, hok.2.1.2, hnp⟩ (room_ok hml hdd), hts _ w2, trivial⟩ (cor_call hK hP hC hS _) rfl (by rw [List.length_map]; exact hn) hv.1 hstk (lv_room (by rw [catL_eq]; exact hcat)) hd ⟨hcc, hss⟩
  refine ev_call run hS (fun v h' H1 locs1 q hC' hS' => ?_)
  rw [rest_cons]
  exact k v h' q p e s m args below meth c H1 locs1 lsr C hC' hS' hl
theorem e_invi {a : Nat} (hd : At y.2.1 pc (.invokespecial ix) 3 pc') (cal : CalI y.1.cls ix y' n) (hc : Ct X y' d' mc' ms' (vR (some a) :: as) h Q') (hst : st = as.reverse ++ vR (some a) :: rest) (hn : as.length = n) (hml : y'.2.2.1 ≤ 12) (hdd : d' + 1 ≤ d) (hcc : cells + mc' ≤ mc) (hss : slots + ms' ≤ ms) (hcat : catL rest ≤ 8)
    (k : ∀ v h', Q' v h' → Ev X y d mc ms Q (cells + mc') (slots + ms') pc' ls (v.toList ++ rest) h') : Ev X y d mc ms Q cells slots pc ls st h := by
  obtain ⟨hd, rfl⟩ := hd
  intro p e s m args below meth c H locs lsr C hC hS hl
  obtain ⟨lv, hv, -⟩ := id hl
  obtain ⟨hx, hb, hmx, hret, hown, hts, hlk, hnm, hK, hP, hsz⟩ := id C
  obtain ⟨hok, hnp, hrn, hy1, w1, w2⟩ := cal
  have hstk : st.map (cv X) = (as.map (cv X)).reverse ++ .ref (ad X a) :: rest.map (cv X) := by
    rw [hst, List.map_append, List.map_reverse]
    rfl
  have hcw : wsM y' = Cond.code y'.1 y'.2.1 y'.2.2.1 none :: TT := by unfold wsM cw; rw [hrn]
  have run := va_runI (l := xl X) (e := e) (R := rmd d mc ms) (below := below) (meth := meth) (locs := locs) (cells := cells) (slots := slots) (b := ad X a) (As := as.map (cv X)) (rest := rest.map (cv X)) (g := F0 m pc lsr (st.map (cv X))) ⟨hx, hb, hmx, hown, hts⟩ hc
    (cwI n hts (tt_goodIn (goodM hok)) hcw rfl rfl (hts _ hok.2.2) (hts _ w1) (hts _ w2) hy1 ⟨hok.2.1.1, hok.2.1.2, hnp⟩ (room_ok hml hdd)) (cor_call hK hP hC hS _) rfl (by rw [List.length_map]; exact hn) hv.1 hstk (lv_room (by rw [catL_eq]; exact hcat)) hd ⟨hcc, hss⟩
  refine ev_call run hS (fun v h' H1 locs1 q hC' hS' => ?_)
  rw [rest_cons]
  exact k v h' q p e s m args below meth c H1 locs1 lsr C hC' hS' hl
theorem e_inviN {a : Nat} (hd : At y.2.1 pc (.invokespecial ix) 3 pc') (cal : CalIN y.1.cls ix y' n) (hc : Ct X y' d' mc' ms' (vR (some a) :: as) h Q') (hst : st = as.reverse ++ vR (some a) :: rest) (hn : as.length = n) (hml : y'.2.2.1 ≤ 12) (hdd : d' + 1 ≤ d) (hcc : cells + mc' ≤ mc) (hss : slots + ms' ≤ ms) (hcat : catL rest ≤ 8)
    (k : ∀ v h', Q' v h' → Ev X y d mc ms Q (cells + mc') (slots + ms') pc' ls (v.toList ++ rest) h') : Ev X y d mc ms Q cells slots pc ls st h := by
  obtain ⟨hd, rfl⟩ := hd
  intro p e s m args below meth c H locs lsr C hC hS hl
  obtain ⟨lv, hv, -⟩ := id hl
  obtain ⟨hx, hb, hmx, hret, hown, hts, hlk, hnm, hK, hP, hsz⟩ := id C
  obtain ⟨hok, hnp, hrn, hy1, ⟨_, w1⟩, w2⟩ := cal
  have hstk : st.map (cv X) = (as.map (cv X)).reverse ++ .ref (ad X a) :: rest.map (cv X) := by
    rw [hst, List.map_append, List.map_reverse]
    rfl
  have hcw : wsM y' = Cond.code y'.1 y'.2.1 y'.2.2.1 none :: TT := by unfold wsM cw; rw [hrn]
  have run := va_runIN (l := xl X) (e := e) (R := rmd d mc ms) (below := below) (meth := meth) (locs := locs) (cells := cells) (slots := slots) (b := ad X a) (As := as.map (cv X)) (rest := rest.map (cv X)) (g := F0 m pc lsr (st.map (cv X))) ⟨hx, hb, hmx, hown, hts⟩ hc
    ⟨va_cnB (y := y'.1) n hts (tt_goodIn (goodM hok)) hcw rfl rfl (hK.2.1 _ w1) (hts _ hok.2.2) ⟨hok.2.1.1, hok.2.1.2, hnp⟩ (room_ok hml hdd), hy1, hts _ w2⟩ (cor_call hK hP hC hS _) rfl (by rw [List.length_map]; exact hn) hv.1 hstk (lv_room (by rw [catL_eq]; exact hcat)) hd ⟨hcc, hss⟩
  refine ev_call run hS (fun v h' H1 locs1 q hC' hS' => ?_)
  rw [rest_cons]
  exact k v h' q p e s m args below meth c H1 locs1 lsr C hC' hS' hl
/-- invokespecial java/lang/Object.<init> -/
theorem e_objInit {a : Nat} (hd : At y.2.1 pc (.invokespecial ix) 3 pc') (w1 : .methodLink y.1.cls ix Lib.objectInit ∈ TT) (w2 : .instanceMethod Lib.objectInit ∈ TT) (w3 : .code Lib.objectInit ⟨#[0xb1]⟩ 1 none ∈ TT) (hdd : 1 ≤ d) (hcat : catL st ≤ 8)
    (k : Ev X y d mc ms Q cells slots pc' ls st h) : Ev X y d mc ms Q cells slots pc ls (vR (some a) :: st) h := by
  obtain ⟨hd, rfl⟩ := hd
  intro p e s m args below meth c H locs lsr C hC hS hl
  obtain ⟨lv, hv, -⟩ := id hl
  obtain ⟨hx, hb, hmx, hret, hown, hts, hlk, hnm, hK, hP, hsz⟩ := id C
  refine W.objInit hx hb hown (hts _ w1) (hts _ w2) (hts _ w3) rfl (by rw [hmx]; exact hv.1) rfl hd hdd ?_ (k p e s m args below meth c H locs lsr C hC hS hl)
  rw [catL_eq]
  show 2 * 0 + catL st + 12 ≤ 40 * d
  omega
end R7
