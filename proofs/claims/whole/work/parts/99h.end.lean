/-! THE CLAIM OUT OF ONE WALK OF THE LAW'S BODY. Your part is whole_start (and what it stands on); all else here is the same for every law, but numbers. -/
def R_law : String := "RolledPicksLaw"
def lw_P (b : Addr) (xs : List Int32) (args : Array Value) (s : State) : Prop := args = #[.ref b] ∧ s.IntsAt b xs ∧ xs.length ≤ 3072 ∧ (Jvm.Cond.and given_1 narrow_1).before args s = true
def lw_Q (_ : Array Value) (s : State) (o : Outcome) (t : State) : Prop := o = .returned (some (.int 1)) ∧ Framed s o t [] room_1.cells room_1.slots
def lw_Z (below : List Frame) (a : Array Value) (s : State) : State → Prop := fun t => ∃ o, t.status = .running ∧ Ended t below o ∧ lw_Q a s o t
/-- the law's own end, with 1 on the stack, nothing written that was there before, its room as the claim has it -/
theorem lw_ret {p : Program} {l : Launch} {e : Env} {s : State} {m : MethodId} {below : List Frame} {meth : Method} {c : Code} {b : Nat} (hx : p.tables.exec = Jvm.exec) (hb : c.code = code) (hr : meth.sig.returnType = ret) (hlocks : meth.locks = false) {pc : Nat} {H : Heap} {ls : Array Slot} (hdg : decode code pc = .ok (.ireturn, 1)) : W p l e room_1 s m #[Value.ref b] below meth c H [] room_1.cells room_1.slots (lw_Z below #[Value.ref b] s) (F0 m pc ls [.int 1]) := by
  intro T hT X
  obtain ⟨fs, hret, hrun, hended, hW, hframe⟩ := X.leave (v := some (.int 1)) (hlocks := hlocks) (fun h => by rw [hr] at h; cases h)
  have hmeth' : T.vm.method? m = some meth := X.method'
  refine ⟨T.setFrames fs, ?_, .returned (some (.int 1)), hrun, hended, rfl, ⟨_, rfl⟩, hW, hframe⟩
  jvm_step X.here [X.here.top, hx, hb, hdg, hmeth', hr, ret, narrow_b1]
  (try refine ⟨rfl, ?_⟩); (try refine ⟨rfl, ?_⟩)
  first | (intro acts; rw [hret _ acts rfl rfl rfl]) | rw [hret _ _ rfl rfl rfl]
  exact Steps.refl _
/-- what holds at the law's entry: the machine, the code, the tables' words (any of lw_tbl by 'hts w (by decide +kernel)'), the script of L ints xs at the cell b, what the Statement gives of the start (any of its parts by flat_of_before) -/
def lw_At (p : Program) (s : State) (m : MethodId) (meth : Method) (c : Code) (b L : Nat) (xs : Nat → Int32) : Prop :=
  p.tables.exec = Jvm.exec ∧ c.code = code ∧ meth.sig.returnType = ret ∧ c.maxLocals = 4 ∧ s.vm.findClass R_law = some m.cls ∧ (∀ w ∈ lw_tbl, w.before #[Value.ref b] s = true) ∧ va_X b L xs s s.heap ∧ b < s.heap.size ∧ meth.locks = false ∧ (Jvm.Cond.and given_1 narrow_1).before #[Value.ref b] s = true
theorem whole_start {p : Program} {e : Env} {s : State} {m : MethodId} {below : List Frame} {meth : Method} {c : Code} (l : Launch) (hflags : l.flags = flags0) {b L : Nat} {xs : Nat → Int32} (hL : L ≤ 3072) (C0 : lw_At p s m meth c b L xs) : W p l e room_1 s m #[Value.ref b] below meth c s.heap [] 0 0 (lw_Z below #[Value.ref b] s) (entryFrame m ([Value.ref b] : List Value).toArray 4) := by
  obtain ⟨hx, hb, hret, hml, hown, hts, hX, hbl, hlk, hgv⟩ := C0
  have hA : ∀ a : Nat, a < s.heap.size → ¬ (fun q => s.heap.size ≤ q) a := fun a h => Nat.not_le.mpr h
  obtain ⟨D, hD⟩ := kn_D hts
  obtain ⟨cA, hK⟩ := kn_A hts
  obtain ⟨tS, hS⟩ := kn_T hts hgv hA
  obtain ⟨adK, adV, hV, hE⟩ := vk_Sof (N := 18) (tm := tmS) (len := lnS) (byt := byS) sa_7 (fun i hi => at_w hgv (sa_1 i hi)) (fun i hi => at_w hgv (sa_2 i hi)) (fun i hi => at_w hgv (sa_3 i hi)) (fun i hi => at_w hgv (sa_4 i hi)) (fun i hi j hj => at_w hgv (sa_5 i hi j hj)) (fun i j hi hj hij => (Nat.lt_or_gt_of_ne hij).elim (fun z => Or.inl (at_w hgv (sa_6 j hj i z))) (fun z => Or.inr (at_w hgv (sa_6 i hi j z)))) hA
  have hC : va_Z "java/lang/String" "COMPACT_STRINGS" "Z" (.int 1) (fun q => s.heap.size ≤ q) s s.heap := va_Zof (hts (.laysStatic "java/lang/String" "COMPACT_STRINGS" "Z") (List.mem_of_getElem? (i := 448) (by decide +kernel))) (hts (.initialized "java/lang/String") (List.mem_of_getElem? (i := 81) (by decide +kernel))) (va_eqt (at_w hgv (i := 61) (by decide +kernel))) hA
  obtain ⟨rF, hF⟩ : ∃ rF : Option Nat, va_Z "jdk/internal/util/Preconditions" "SIOOBE_FORMATTER" "Ljava/util/function/BiFunction;" (va_rf rF) (fun q => s.heap.size ≤ q) s s.heap := by
    rcases va_Zqof (hts (.laysStatic "jdk/internal/util/Preconditions" "SIOOBE_FORMATTER" "Ljava/util/function/BiFunction;") (List.mem_of_getElem? (i := 464) (by decide +kernel))) (hts (.initialized "jdk/internal/util/Preconditions") (List.mem_of_getElem? (i := 83) (by decide +kernel))) (at_w hgv (i := 62) (by decide +kernel)) hA with z | ⟨t, z⟩
    · exact ⟨none, z⟩
    · exact ⟨some t, z⟩
  obtain ⟨X, hX9⟩ : ∃ X : EX, X = (l, s.heap.size, (fun k => if k < 6 then tS (k - 1) else if k = 6 then b else adK (k - 8)), D, cA, L, xs, adV, rF) := ⟨_, rfl⟩
  have x1 : xl X = l := by rw [hX9]
  have x2 : xb X = s.heap.size := by rw [hX9]
  have x3 : xD X = D := by rw [hX9]
  have x4 : xA X = cA := by rw [hX9]
  have x5 : xN X = L := by rw [hX9]
  have x6 : Jvm.Pilot.CRolledPicksLaw_law_r8318_5be909.xs X = xs := by rw [hX9]
  have x7 : xV X = adV := by rw [hX9]
  have x8 : xF X = rF := by rw [hX9]
  have y1 : ∀ i, i < 5 → xS X (i + 1) = tS i := fun i hi => by
    rw [hX9]
    show (if i + 1 < 6 then tS (i + 1 - 1) else _) = _
    rw [if_pos (by omega), Nat.add_sub_cancel]
  have y2 : xS X 6 = b := by rw [hX9]; rfl
  have y3 : (fun i => xS X (i + 8)) = adK := by
    funext i
    rw [hX9]
    show (if i + 8 < 6 then tS (i + 8 - 1) else if i + 8 = 6 then b else adK (i + 8 - 8)) = _
    rw [if_neg (by omega), if_neg (by omega), Nat.add_sub_cancel]
  have y4 : AA X = fun q => s.heap.size ≤ q := by
    unfold AA
    rw [x2]
  have KN : Kn X s := by
    refine ⟨⟨by rw [x3]; exact hD, by unfold tys; rw [x4]; exact hK⟩, fun w hw => ?_, fun C hC => ?_, fun i q hq => ?_⟩
    · obtain ⟨i, hi⟩ := List.getElem?_of_mem hw
      have hi9 : i < 11 := (List.getElem?_eq_some_iff.mp hi).1
      have k := hts w (List.mem_of_getElem? ((nw_1 i hi9).trans hi))
      simp only [nestW, List.mem_cons, List.not_mem_nil, or_false] at hw
      rcases hw with rfl | rfl | rfl | rfl | rfl | rfl | rfl | rfl | rfl | rfl | rfl <;> exact k
    · obtain ⟨i, hi⟩ := List.getElem?_of_mem hC
      have hi9 : i < 4 := (List.getElem?_eq_some_iff.mp hi).1
      have k := hts _ (List.mem_of_getElem? (ow_1 i hi9))
      rw [List.getD_eq_getElem?_getD, hi] at k
      exact k
    · refine ix_D (0, "") (P := fun i q => vk_R RX3 q.1 q.2 (xS X (i + 8)) s) (fun i hi => ?_) i q hq
      rw [show xS X (i + 8) = adK i from congrFun y3 i]
      exact vk_R.of (hts _ (List.mem_of_getElem? (sw_1 i hi))) (hE i hi)
  have PR : Pre X s s.heap := by
    refine ⟨fun i q hq => ?_, ?_, ?_, by rw [y4]; exact hC, by rw [y4, x8]; exact hF⟩
    · refine ix_D ("", []) (P := fun i q => va_Z RX8 q.1 "[I" (.ref (xS X (i + 1))) (AA X) s s.heap ∧ va_T .int (xS X (i + 1)) q.2.length (fun j => .int (q.2.getD j 0)) (AA X) s s.heap) (fun i hi => ?_) i q hq
      rw [y1 i hi, y4]
      exact hS i hi
    · obtain ⟨scr, g1, g2, g3, g4, g5⟩ := hX
      rw [y2, y4, x5, x6]
      exact ⟨scr, g1, g2, g3, Nat.le_of_eq g4.symm, by rw [g4], g5, hA b hbl⟩
    · rw [y3, x7, y4]
      exact hV
  have CH : CorH X HH0 s.heap := ⟨by rw [x2]; rfl, Nat.le_refl _, fun k q hq => by
    have e : wl X HH0 = [] := rfl
    rw [e] at hq
    cases hq⟩
  have K := law_top (nm := meth.name) X (by rw [x5]; exact hL)
  have LK : Lok X 4 (arL 0 [vR (some 6)]) (entryFrame m ([Value.ref b] : List Value).toArray 4).locals := by
    have k := lv_entry (([vR (some 6)] : List VV).map (cv X)) (n := 4) (by rw [szL_eq]; decide)
    have e : ([vR (some 6)] : List VV).map (cv X) = [Value.ref b] := by
      show [va_rf (some (ad X 6))] = _
      rw [show ad X 6 = b from y2]
      rfl
    rw [e] at k
    exact ⟨_, k, fun i v h => by
      have := arL_in (X := X) [vR (some 6)] 0 i v h
      rw [e] at this
      exact this⟩
  have Kw := K p e s m #[Value.ref b] below meth c s.heap [] _ ⟨hx, hb, hml, hret, hown, fun w hw => hts w (tt_in hw), hlk, rfl, KN, PR, by rw [x2]; exact Nat.le_refl _⟩ CH va_S.rf LK
  rw [x1] at Kw
  intro T hT X0
  obtain ⟨t, a1, oc, b1, b2, ⟨⟨v, h9, d1, d2, d3⟩, d4⟩, Lc, d5, d6⟩ := Kw T hT ⟨X0.admits, X0.cas, X0.clock, X0.frames, hr_mono X0.room (Nat.le_of_ble_eq_true rfl) (Nat.le_of_ble_eq_true rfl) (Nat.le_of_ble_eq_true rfl) (Nat.le_of_ble_eq_true rfl), X0.hears, X0.method, X0.code, X0.here, X0.tail, X0.warmed, X0.limits, X0.bytes, X0.same⟩
  have d2 : v = some (vI 1) := d2
  subst d2
  refine ⟨t, a1, oc, b1, b2, d1, d5.1, d5.2.1, ?_⟩
  refine d5.2.2.weaken (fun y hy hlt => ?_) (Nat.le_of_ble_eq_true rfl) (Nat.le_of_ble_eq_true rfl)
  have z := d6 y hy
  rw [y4] at z
  exact absurd hlt (Nat.not_lt.mpr z)
set_option maxHeartbeats 4000000 in
theorem lw_walk (l : Launch) (hflags : l.flags = flags0) (b : Addr) (xs : List Int32) : MetFree l x (headSpec (Jvm.Cond.code x code maxLocals ret :: tables_1) room_1) (lw_P b xs) (fun _ _ _ _ _ => True) lw_Q := by
  refine MetFree.of_bodyS (code := code) (maxLocals := maxLocals) (ret := ret) (by decide) ?_ ?_
  · intro args s m h hn
    obtain ⟨meth, c, h1, h2, h3, h4, h5, h6, -, -⟩ := Cond.code_spec hn (atoms_spec (ws := Jvm.Cond.code x code maxLocals ret :: tables_1) h _ List.mem_cons_self)
    exact ⟨meth, c, h1, h2, h3, h4, h5, h6⟩
  · intro p e s m args below meth c s₁ B hml0 hP _
    obtain ⟨rfl, hx, hbd, hgv⟩ := hP
    obtain ⟨scr, harrAt, hlist, hof, hsmall⟩ := hx
    obtain ⟨hcb, hkn, -, -⟩ := State.arrayAt?_spec harrAt
    have hown : s.vm.findClass R_law = some m.cls := findClass_of_methodNamed B.named
    have hts0 : ∀ c ∈ (Jvm.Cond.code x code maxLocals ret :: tables_1), c.before #[Value.ref b] s = true := atoms_spec (ws := Jvm.Cond.code x code maxLocals ret :: tables_1) B.pre
    have hts : ∀ w ∈ lw_tbl, w.before #[Value.ref b] s = true := k2_hts_sels lw_privs (fun w hw => hts0 w (List.mem_cons_of_mem _ hw)) lw_privs_ok
    have hml : c.maxLocals = 4 := B.maxLocals_eq (hts0 _ List.mem_cons_self)
    have X₀ : Stand p l e room_1 s m #[Value.ref b] below meth c s₁ [] 0 0 := Stand.of_body B
    have hh0 : s₁.heap = s.heap := by rw [B.state]; rfl
    have hsz : scr.slots.size = xs.length := by rw [← Array.length_toList, hlist, List.length_map]
    have hval : ∀ j : Nat, j < xs.length → scr.slots[j]? = some (.int (xs.getD j 0)) := fun j hj => by
      rw [← Array.getElem?_toList, hlist]
      simp [hj]
    have hbl : b < s.heap.size := (Array.getElem?_eq_some_iff.mp hcb).1
    have hX : va_X b xs.length (fun j => xs.getD j 0) s s.heap := ⟨scr, hcb, hof, hkn, hsz, hval⟩
    have K : W p l e room_1 s m #[Value.ref b] below meth c s₁.heap [] 0 0 (lw_Z below #[Value.ref b] s) (entryFrame m ([Value.ref b] : List Value).toArray 4) := by
      rw [hh0]
      exact whole_start l hflags hbd ⟨B.exec, B.bytes, B.returns, hml, hown, hts, hX, hbl, B.notSynchronized, hgv⟩
    obtain ⟨t, a1, o, b1, b2, b3⟩ := K s₁ rfl X₀
    exact ⟨t, o, a1, b1, b2, b3⟩
theorem lw_pre_spec {args : Array Value} {s : State} (h : (Jvm.Cond.and given_1 narrow_1).before args s = true) (hr : rest_1_c.before args s = true) : ∃ (b : Addr) (xs : List Int32), lw_P b xs args s := by
  have hs := flat_of_before _ h
  have hq := flat_of_before _ hr
  have hc : (Cond.count 1).before args s = true := hs _ (by decide +kernel)
  have harr : (Cond.arrayOf (.arg 0) .int).before args s = true := hs _ (by decide +kernel)
  have hle : (Cond.le (.length (.arg 0)) (.int 3072)).before args s = true := hs _ (by decide +kernel)
  have hlen : (Cond.isInt (.length (.arg 0))).before args s = true := hq _ (by decide +kernel)
  have hall : (Cond.all (.arg 0) (.isInt (.elem (.arg 0) (.index 0)))).before args s = true := hq _ (by decide +kernel)
  obtain ⟨b, xs, hb, hx⟩ := State.ints_of_pre rfl harr hlen hall
  have hsm : xs.length < 2 ^ 31 := hx.choose_spec.2.2.2
  have hev : (Term.length (.arg 0)).eval args s none [] s = some (.int xs.length.toInt32) := hx.length_eval hb
  have hv := Cond.le_ints hev (show (Term.int 3072).eval args s none [] s = some (.int 3072) from rfl)
  have hd : xs.length.toInt32 ≤ 3072 := by
    simpa [Cond.before, Cond.holds, hv] using hle
  have hN : xs.length ≤ 3072 := (Int32.ofNat_le_ofNat hsm (by decide)).mp (show Int32.ofNat xs.length ≤ Int32.ofNat 3072 from hd)
  exact ⟨b, xs, Cond.one_arg hc (show args[0]? = some (.ref b) from hb), hx, hN, h⟩
theorem lw_comes (l : Launch) (hflags : l.flags = flags0) : Comes l x (Jvm.Cond.code x code maxLocals ret :: tables_1) room_1 (fun tb e args s => Calls_1 tb e args s ∧ rest_1 tb e args s ∧ Pre_1 tb e args s)
    (fun _ _ args s o t => lw_Q args s o t) := by
  intro p e ha hc hk s m args below hf hfit hheap happ hpre
  obtain ⟨b, xs, hP⟩ := lw_pre_spec hpre.2.2 hpre.2.1
  obtain ⟨k, o, h1, h2, h3, hQ⟩ := lw_walk l hflags b xs p e ha hc hk s m args below hf ((Spec.applies_iff_loose hf).mp happ).1 hP trivial
  exact ⟨k, o, h1, h2, h3, hQ⟩
theorem lw_frame {s t : State} {o : Outcome} {args : Array Value} (h : Framed s o t [] room_1.cells room_1.slots) :
    Framed s o t (fieldLocs frame_1_writes args s ++ arrayLocs frame_1_arrays args s ++ staticLocs frame_1_statics s) room_1.cells room_1.slots := h
theorem lw_limb (L : Cond) (hL : ∀ (args : Array Value) (s t : State), L.after args s (.returned (some (.int 1))) t = true) :
    ArmFor flags0 classFile x code maxLocals ret World_1 tables_1 room_1 Calls_1 rest_1 Pre_1
      (fun tb e a s o t => postC L tb e a s o t ∧ Framed s o t (fieldLocs frame_1_writes a s ++ arrayLocs frame_1_arrays a s ++ staticLocs frame_1_statics s) room_1.cells room_1.slots) := by
  intro l hflags _ _ p e ha hc hk s m args below hf hfit hheap happ hpre
  obtain ⟨k, o, h1, h2, h3, rfl, hF⟩ := lw_comes l hflags p e ha hc hk s m args below hf hfit hheap happ hpre
  exact ⟨k, _, h1, h2, h3, hL args s _, lw_frame hF⟩
theorem i_vc : Claimed_1_1 ∧ Claimed_1_2 := ⟨lw_limb limb_1_1 (fun args s t => by simp [limb_1_1, Cond.after, Cond.holds, Cond.value]), lw_limb limb_1_2 (fun args s t => Cond.after_iff.mpr (by
  first | (rw [show limb_1_2 = Cond.eq .result (.int 1) from rfl, Cond.eq_ints (x := 1) (y := 1) rfl rfl]; simp; done) | (simp [limb_1_2, Cond.value, Term.eval]; done)))⟩
