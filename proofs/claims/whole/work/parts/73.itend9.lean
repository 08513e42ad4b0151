/-! the reference: the end of an item (written by wip/whole/g73.py) -/
/-- what an item's reading works on: ps: deals come true -/
def ItH (h0 : HP) (bt : Nat → Int32) (l n c : Nat) (D E : Nat → DD) (f : Nat) (o : Nat → Nat) (ps : Bool) : Prop := Fx h0 ∧ TbM h0 l bt ∧ n + c ≤ 12 ∧ (∃ a b, hI h0 109 4 = nI a ∧ hI h0 109 20 = nI b ∧ a + b = n + c) ∧ hI h0 109 19 = b2 (ps = true) ∧ (ps = true → MkD h0 (n + c) (jnD D n E)) ∧ MkF h0 f o
def scT (a i : Nat) : Prop := scF a i ∨ (a = 109 ∧ i = 20)
def scW (a i : Nat) : Prop := a = 112 ∨ a = 113 ∨ a = 114 ∨ a = 115 ∨ a = 116 ∨ a = 119 ∨ a = 120 ∨ (a = 109 ∧ (i = 4 ∨ i = 7 ∨ i = 11 ∨ i = 15 ∨ i = 16 ∨ i = 18 ∨ i = 21 ∨ i = 23))
/-- a deal is laid -/
def laQ (bt : Nat → Int32) (l n c : Nat) (D E : Nat → DD) (f : Nat) (o : Nat → Nat) (h0 : HP) (d : DD) (p : PT) : Option VV → HP → Prop := fun v h' => Sf scW h0 h' ∧ PsM h' (false, p) ∧ TkI bt l p ∧ (∀ i, i < 8 * (n + c) → hI h' 112 i = hI h0 112 i) ∧ hI h' 112 (8 * (n + c) + 7) = hI h0 109 7 ∧ hI h' 109 7 = hI h0 109 7 + 1 ∧ MkD h' (n + c + 1) (upD (jnD D n E) (n + c) d) ∧ dWf d ∧ match rfs (upD (jnD D n E) (n + c) d) (n + c + 1) (fo o f) (om f) with
  | none => v = some (vI 0) ∧ ∀ i, hI h' 114 i = hI h0 114 i
  | some s => v = some (vI 1) ∧ tldM h' (upD (jnD D n E) (n + c) d) (n + c + 1) s
/-- what an item's reading leaves -/
def riQ (bt : Nat → Int32) (l n c : Nat) (D E : Nat → DD) (f : Nat) (o : Nat → Nat) (ps : Bool) (h0 : HP) (r : IR) : Option VV → HP → Prop := fun v h' => if r.1.isSome = true ∧ ps = true then ∃ d, r.1 = some d ∧ laQ bt l n c D E f o h0 d r.2 v h' else (v = some (vI 0) ∧ Sf scT h0 h' ∧ PsM h' (r.1.isNone, r.2) ∧ TkI bt l r.2 ∧ hI h' 109 20 = hI h0 109 20 + 1)
theorem Sf.FT {h h2 : HP} (S : Sf scF h h2) : Sf scT h h2 := S.mono (fun _ _ q => Or.inl q)
theorem riQ_o {bt : Nat → Int32} {l n c f : Nat} {D E : Nat → DD} {o : Nat → Nat} {ps : Bool} {h0 h : HP} {d : DD} {u : SM} {r : IR} (hr : wIt u (fun p => (some d, p)) = r) (z : u.1 = true ∨ ¬ ps = true) (S : Sf scF h0 h) (pt : PsM h u) (tk : TkI bt l u.2) : riQ bt l n c D E f o ps h0 r (some (vI 0)) (wI h 109 20 (hI h 109 20 + 1)) := by
  have e2 : r.2 = u.2 ∧ r.1.isNone = u.1 := by
    rw [← hr]
    obtain ⟨w, p⟩ := u
    cases w <;> exact ⟨rfl, rfl⟩
  have hn9 : ¬ (r.1.isSome = true ∧ ps = true) := by
    rintro ⟨q1, q2⟩
    rcases z with z | z
    · have := e2.2
      rw [z] at this
      rw [Option.isNone_iff_eq_none.mp this] at q1
      cases q1
    · exact z q2
  unfold riQ
  rw [if_neg hn9, e2.1, e2.2]
  refine ⟨rfl, S.FT.wI (Or.inr ⟨rfl, rfl⟩), ⟨(wI_i (by decide)).trans pt.1, (wI_i (by decide)).trans pt.2.1, (wI_i (by decide)).trans pt.2.2⟩, tk, wI_s.trans ?_⟩
  rw [S.2 _ _ (by unfold scF; omega)]
theorem lyH_C {h h2 : HP} {n : Nat} {D : Nat → DD} {d : DD} (md : MkD h n D) (hn : n < 12) (w : dWf d) (S : Sf (scV n) h h2) (mb : MdB h2 n (dB d)) : MkD (lyH h2 n (nI (dK d)) (nI (dF d)) (nI (dT d)) (nI (dP d)) (oI (dO d)) (nI (dN d)) (b2 (dC d = true))) (n + 1) (upD D n d) := by
  refine md.push hn lyH_n (fun i hi => (lyH_o hi).trans (S.2 _ _ (by unfold scV; omega))) (fun i hi => (lyH_a (by decide) (by decide)).trans (S.2 _ _ (by unfold scV; omega))) ⟨w, lyH_c0, lyH_c1, lyH_c2, lyH_c3, lyH_c4, lyH_c5, lyH_c6, fun u hu => ?_⟩
  rw [lyH_a (by decide) (by decide)]
  exact mb u hu
theorem lyH_W {h2 : HP} {n : Nat} {k f t p q m w : Int32} : Sf scW h2 (lyH h2 n k f t p q m w) := ⟨rfl, fun a i z => by
  by_cases e : a = 109
  · subst e
    exact lyH_9 (fun e => z (by unfold scW; omega)) (fun e => z (by unfold scW; omega))
  · exact lyH_a (fun e => z (by unfold scW; omega)) e⟩
theorem la_fin {bt : Nat → Int32} {l n c f : Nat} {D E : Nat → DD} {o : Nat → Nat} {ps : Bool} {h0 h h2 h4 : HP} {d : DD} {p : PT} {v : Option VV} (hN : n + c < 12) (S : Sf scF h0 h) (pt : PsM h (false, p)) (tk : TkI bt l p) (md : MkD h (n + c) (jnD D n E)) (w : dWf d) (S2 : Sf (scV (n + c)) h h2) (mb : MdB h2 (n + c) (dB d)) (H : icQ (upD (jnD D n E) (n + c) d) (n + c + 1) (lyH h2 (n + c) (nI (dK d)) (nI (dF d)) (nI (dT d)) (nI (dP d)) (oI (dO d)) (nI (dN d)) (b2 (dC d = true))) (rfs (upD (jnD D n E) (n + c) d) (n + c + 1) (fo o f) (om f)) v h4) : laQ bt l n c D E f o h0 d p v h4 := by
  have md3 := lyH_C md hN w S2 mb
  have e7 : hI h2 109 7 = hI h0 109 7 := (S2.2 _ _ (by unfold scV; omega)).trans (S.2 _ _ (by unfold scF; omega))
  have c7 := lyH_c7 (h := h2) (n := n + c) (k := nI (dK d)) (f := nI (dF d)) (t := nI (dT d)) (p := nI (dP d)) (q := oI (dO d)) (m := nI (dN d)) (w := b2 (dC d = true))
  have b7 := lyH_b (h := h2) (n := n + c) (k := nI (dK d)) (f := nI (dF d)) (t := nI (dT d)) (p := nI (dP d)) (q := oI (dO d)) (m := nI (dN d)) (w := b2 (dC d = true))
  have o7 : ∀ i, i < 8 * (n + c) → _ := fun i hi => lyH_o (h := h2) (n := n + c) (k := nI (dK d)) (f := nI (dF d)) (t := nI (dT d)) (p := nI (dP d)) (q := oI (dO d)) (m := nI (dN d)) (w := b2 (dC d = true)) hi
  have p7 : ∀ i, i ≠ 4 → i ≠ 7 → _ := fun i h1 h3 => lyH_9 (h := h2) (n := n + c) (k := nI (dK d)) (f := nI (dF d)) (t := nI (dT d)) (p := nI (dP d)) (q := oI (dO d)) (m := nI (dN d)) (w := b2 (dC d = true)) (i := i) h1 h3
  have SM9 : Sf scW h2 (lyH h2 (n + c) (nI (dK d)) (nI (dF d)) (nI (dT d)) (nI (dP d)) (oI (dO d)) (nI (dN d)) (b2 (dC d = true))) := ⟨rfl, fun a i z => by
    by_cases e : a = 109
    · subst e
      exact lyH_9 (fun e => z (by unfold scW; omega)) (fun e => z (by unfold scW; omega))
    · exact lyH_a (fun e => z (by unfold scW; omega)) e⟩
  have a14 : ∀ i, hI (lyH h2 (n + c) (nI (dK d)) (nI (dF d)) (nI (dT d)) (nI (dP d)) (oI (dO d)) (nI (dN d)) (b2 (dC d = true))) 114 i = hI h0 114 i := fun i => (lyH_a (by decide) (by decide)).trans ((S2.2 _ _ (by unfold scV; omega)).trans (S.2 _ _ (by unfold scF; omega)))
  generalize lyH h2 (n + c) (nI (dK d)) (nI (dF d)) (nI (dT d)) (nI (dP d)) (oI (dO d)) (nI (dN d)) (b2 (dC d = true)) = h3 at md3 c7 b7 o7 p7 SM9 a14 H
  have S03 : Sf scW h0 h3 := ((S.mono (fun a i q => by unfold scF at q; unfold scW; omega)).tr (S2.mono (fun a i q => by unfold scV at q; unfold scW; omega))).tr SM9
  have key : ∀ P : Nat → Nat → Prop, Sf P h3 h4 → (∀ a i, P a i → a = 114 ∨ a = 115 ∨ a = 116 ∨ (a = 109 ∧ i = 11)) → Sf scW h0 h4 ∧ PsM h4 (false, p) ∧ TkI bt l p ∧ (∀ i, i < 8 * (n + c) → hI h4 112 i = hI h0 112 i) ∧ hI h4 112 (8 * (n + c) + 7) = hI h0 109 7 ∧ hI h4 109 7 = hI h0 109 7 + 1 ∧ MkD h4 (n + c + 1) (upD (jnD D n E) (n + c) d) ∧ dWf d := by
    intro P S4 hP
    have n9 : ∀ i, i ≠ 11 → hI h4 109 i = hI h3 109 i := fun i hi => S4.2 _ _ (fun q => by have := hP _ _ q; omega)
    have q9 : ∀ i, i = 15 ∨ i = 16 ∨ i = 18 → hI h4 109 i = hI h 109 i := fun i hi => (n9 i (by omega)).trans ((p7 i (by omega) (by omega)).trans (S2.2 _ _ (by unfold scV; omega)))
    refine ⟨S03.tr (S4.mono (fun a i q => by have := hP _ _ q; unfold scW; omega)), ⟨(q9 15 (by decide)).trans pt.1, (q9 16 (by decide)).trans pt.2.1, (q9 18 (by decide)).trans pt.2.2⟩, tk, fun i hi => ?_, ?_, ?_, md3.sf S4 (fun q => by have := hP _ _ q; omega) (fun i => ⟨fun q => by have := hP _ _ q; omega, fun q => by have := hP _ _ q; omega⟩), w⟩
    · exact (S4.2 _ _ (fun q => by have := hP _ _ q; omega)).trans ((o7 i hi).trans ((S2.2 _ _ (by unfold scV; omega)).trans (S.2 _ _ (by unfold scF; omega))))
    · exact (S4.2 _ _ (fun q => by have := hP _ _ q; omega)).trans (c7.trans e7)
    · exact (n9 7 (by decide)).trans (b7.trans (by rw [e7]))
  unfold laQ
  obtain ⟨hv, H⟩ := H
  rcases e9 : rfs (upD (jnD D n E) (n + c) d) (n + c + 1) (fo o f) (om f) with _ | s
  · rw [e9] at H hv
    have H : Sf sc0 h3 h4 := H
    obtain ⟨k1, k2, k3, k4, k5, k6, k7, k8⟩ := key sc0 H (fun a i q => by unfold sc0 at q; omega)
    exact ⟨k1, k2, k3, k4, k5, k6, k7, k8, hv, fun i => (H.2 _ _ (by unfold sc0; omega)).trans (a14 i)⟩
  · rw [e9] at H hv
    obtain ⟨p9, r1, S4, r2, r3, r4⟩ := H
    obtain ⟨k1, k2, k3, k4, k5, k6, k7, k8⟩ := key sc4 S4 (fun a i q => by unfold sc4 at q; omega)
    exact ⟨k1, k2, k3, k4, k5, k6, k7, k8, hv, p9, r1, r2, r3, r4⟩
theorem ev_lay (X : EX) {h0 h h2 : HP} {bt : Nat → Int32} {l n c f : Nat} {D E : Nat → DD} {o : Nat → Nat} (F : Fx h2) (mf : MkF h0 f o) {d : DD} {p : PT} {r : IR} (hr : wIt (false, p) (fun p => (some d, p)) = r) (hN : n + c < 12) (S : Sf scF h0 h) (pt : PsM h (false, p)) (tk : TkI bt l p) (md : MkD h (n + c) (jnD D n E)) (w : dWf d) (S2 : Sf (scV (n + c)) h h2) (mb : MdB h2 (n + c) (dB d)) : Ev X mX9_isItemClashing 27 0 0 (riQ bt l n c D E f o true h0 r) 0 0 291 [(0, some (vR (some 109))), (1, some (vI (nI (dF d)))), (2, some (vI (nI (dT d)))), (3, some (vI (nI (dP d)))), (4, some (vI (nI (dK d)))), (5, some (vI (oI (dO d)))), (6, some (vI (nI (dN d)))), (7, some (vI (b2 (dC d = true))))] [] h2 := by
  refine e_aload_n aX9_isItemClashing_291 rfl ?_
  refine e_iload aX9_isItemClashing_292 rfl ?_
  refine e_iload_n aX9_isItemClashing_294 rfl ?_
  refine e_iload_n aX9_isItemClashing_295 rfl ?_
  refine e_iload_n aX9_isItemClashing_296 rfl ?_
  refine e_iload aX9_isItemClashing_297 rfl ?_
  refine e_iload aX9_isItemClashing_299 rfl ?_
  refine e_iload aX9_isItemClashing_301 rfl ?_
  refine e_invvV aX9_isItemClashing_303 kX9_183 (zX9_lays X F (n := n + c) ((S2.2 _ _ (by unfold scV; omega)).trans md.1) hN _ _ _ _ _ _ _) rfl rfl (fx_is F rfl) (Nat.le_of_ble_eq_true rfl) (Nat.le_of_ble_eq_true rfl) (Nat.le_refl _) (Nat.le_refl _) (Nat.le_of_ble_eq_true rfl) ?_
  have md3 := lyH_C md hN w S2 mb
  have mf3 : MkF (lyH h2 (n + c) (nI (dK d)) (nI (dF d)) (nI (dT d)) (nI (dP d)) (oI (dO d)) (nI (dN d)) (b2 (dC d = true))) f o := MkF.sf (P := scW) mf (((S.mono (fun a i q => by unfold scF at q; unfold scW; omega)).tr (S2.mono (fun a i q => by unfold scV at q; unfold scW; omega))).tr lyH_W) (by unfold scW; omega) (fun y => by unfold scW; omega)
  refine e_aload_n aX9_isItemClashing_306 rfl ?_
  refine e_invv aX9_isItemClashing_307 kX9_187 (zX9_isClashing X (h0 := lyH h2 (n + c) (nI (dK d)) (nI (dF d)) (nI (dT d)) (nI (dP d)) (oI (dO d)) (nI (dN d)) (b2 (dC d = true))) F md3 mf3) rfl rfl (fx_is F rfl) (Nat.le_of_ble_eq_true rfl) (Nat.le_of_ble_eq_true rfl) (Nat.le_refl _) (Nat.le_refl _) (Nat.le_of_ble_eq_true rfl) ?_
  rintro v h4 ⟨rfl, H⟩
  refine e_zreturn aX9_isItemClashing_310 rfl b2_b (Nat.le_refl _) (Nat.le_refl _) ?_
  unfold riQ
  rw [if_pos ⟨by rw [← hr]; rfl, rfl⟩]
  refine ⟨d, by rw [← hr]; rfl, ?_⟩
  rw [show r.2 = p by rw [← hr]; rfl]
  exact la_fin (ps := true) hN S pt tk md w S2 mb ⟨rfl, H⟩
theorem ev_r0 (X : EX) {h0 h : HP} {bt : Nat → Int32} {l n c f : Nat} {D E : Nat → DD} {o : Nat → Nat} {ps : Bool} (H0 : ItH h0 bt l n c D E f o ps) (S : Sf scF h0 h) {u : SM} (pt : PsM h u) (tk : TkI bt l u.2) {r : IR} {d : DD} {one b9 pk9 sec9 m9 told : Int32} {k : Nat} (hd : u.1 = false → (dWf d ∧ one = nI (dF d) ∧ b9 = nI (dT d) ∧ pk9 = nI (dP d) ∧ k = dK d ∧ sec9 = oI (dO d) ∧ m9 = nI (dN d) ∧ told = b2 (dC d = true) ∧ n + c < 12 ∧ (dC d = true → ∃ cs, CdC h cs ∧ cs.length ≤ 130 ∧ EvP (jnD D n E) cs (dB d) ∧ VaC (n + c) cs))) (hr : wIt u (fun p => (some d, p)) = r) : Ev X mX9_isItemClashing 27 0 0 (riQ bt l n c D E f o ps h0 r) 0 0 248 [(0, some (vR (some 109))), (1, some (vI one)), (2, some (vI b9)), (3, some (vI pk9)), (4, some (vI (nI k))), (5, some (vI sec9)), (6, some (vI m9)), (7, some (vI told))] [] h := by
  obtain ⟨F0, t0, hnc, -, hps, mk, mf⟩ := H0
  obtain ⟨w0, p⟩ := u
  have F := S.F F0
  refine e_aload_n aX9_isItemClashing_248 rfl ?_
  refine e_getIF aX9_isItemClashing_249 fX9_274 rfl (fx_is F rfl) pt.2.2 ?_
  refine e_if_ne aX9_isItemClashing_252 (fun c252 => ?_) (fun c252 => ?_)
  · -- 252: taken
    have q252 : w0 = true := Decidable.of_not_not (fun z => c252 (b2_f z))
    refine e_aload_n aX9_isItemClashing_262 rfl ?_
    refine e_dup aX9_isItemClashing_263 rfl ?_
    refine e_getI aX9_isItemClashing_264 fX9_319 rfl (fx_is F rfl) ?_
    refine e_iconst (v := 1) aX9_isItemClashing_267 (by decide) ?_
    refine e_iadd aX9_isItemClashing_268 ?_
    refine e_putI aX9_isItemClashing_269 fX9_319 rfl (fx_is F rfl) (Or.inl rfl) ?_
    refine e_iconst (v := 0) aX9_isItemClashing_272 (by decide) ?_
    refine e_zreturn aX9_isItemClashing_273 rfl (by decide) (Nat.le_refl _) (Nat.le_refl _) ?_
    exact riQ_o (d := d) hr (Or.inl q252) S pt tk
  · -- 252: not taken
    have q252 : ¬ w0 = true := b2_0.mp c252
    refine e_aload_n aX9_isItemClashing_255 rfl ?_
    refine e_getIF aX9_isItemClashing_256 fX9_331 rfl (fx_is F rfl) ((S.2 _ _ (by unfold scF; omega)).trans hps) ?_
    refine e_if_ne aX9_isItemClashing_259 (fun c259 => ?_) (fun c259 => ?_)
    · -- 259: taken
      have q259 : ps = true := Decidable.of_not_not (fun z => c259 (b2_f z))
      obtain rfl : w0 = false := Bool.eq_false_iff.mpr q252
      obtain ⟨w, rfl, rfl, rfl, rfl, rfl, rfl, rfl, hN, hcd⟩ := hd rfl
      subst q259
      have md : MkD h (n + c) (jnD D n E) := (mk rfl).sf S (by unfold scF; omega) (fun i => by unfold scF; omega)
      refine e_iload aX9_isItemClashing_274 rfl ?_
      refine e_iconst (v := 1) aX9_isItemClashing_276 (by decide) ?_
      refine e_icmp_ne aX9_isItemClashing_277 (fun c277 => ?_) (fun c277 => ?_)
      · -- 277: taken
        have q277 : ¬ dC d = true := fun z => c277 (b2_t z)
        refine e_aload_n aX9_isItemClashing_287 rfl ?_
        refine e_invv aX9_isItemClashing_288 kX9_180 (zX9_holdsAlways X F (n := n + c) md.1 hN) rfl rfl (fx_is F rfl) (Nat.le_of_ble_eq_true rfl) (Nat.le_of_ble_eq_true rfl) (Nat.le_refl _) (Nat.le_refl _) (Nat.le_of_ble_eq_true rfl) ?_
        rintro v h2 ⟨rfl, S2, hW⟩
        have F2 := S2.F F
        have S2 : Sf (scV (n + c)) h h2 := S2.mono (fun a i q => by unfold scB at q; unfold scV; omega)
        have mb : MdB h2 (n + c) (dB d) := fun s hs => by
          rw [hW _ (by omega), btI_m1 _ (by omega), w.2.2.2.2.2.2.2.2.2 (Bool.eq_false_iff.mpr q277)]
        refine e_ls (ls' := [(0, some (vR (some 109))), (1, some (vI (nI (dF d)))), (2, some (vI (nI (dT d)))), (3, some (vI (nI (dP d)))), (4, some (vI (nI (dK d)))), (5, some (vI (oI (dO d)))), (6, some (vI (nI (dN d)))), (7, some (vI (b2 (dC d = true))))]) ⟨rfl, rfl, rfl, rfl, rfl, rfl, rfl, rfl, trivial⟩ ?_
        exact ev_lay X F2 mf hr hN S pt tk md w S2 mb
      · -- 277: not taken
        have q277 : dC d = true := Decidable.of_not_not (fun z => absurd (c277.symm.trans (b2_f z)) (by decide))
        obtain ⟨cs, cd, hL, ev, va⟩ := hcd q277
        refine e_aload_n aX9_isItemClashing_280 rfl ?_
        refine e_invv aX9_isItemClashing_281 kX9_334 (zX9_laysCondition X F md cd hL va ev hN) rfl rfl (fx_is F rfl) (Nat.le_of_ble_eq_true rfl) (Nat.le_of_ble_eq_true rfl) (Nat.le_refl _) (Nat.le_refl _) (Nat.le_of_ble_eq_true rfl) ?_
        rintro v h2 ⟨rfl, S2, mb⟩
        have F2 := S2.F F
        refine e_goto aX9_isItemClashing_284 ?_
        refine e_ls (ls' := [(0, some (vR (some 109))), (1, some (vI (nI (dF d)))), (2, some (vI (nI (dT d)))), (3, some (vI (nI (dP d)))), (4, some (vI (nI (dK d)))), (5, some (vI (oI (dO d)))), (6, some (vI (nI (dN d)))), (7, some (vI (b2 (dC d = true))))]) ⟨rfl, rfl, rfl, rfl, rfl, rfl, rfl, rfl, trivial⟩ ?_
        exact ev_lay X F2 mf hr hN S pt tk md w S2 mb
    · -- 259: not taken
      have q259 : ¬ ps = true := b2_0.mp c259
      refine e_aload_n aX9_isItemClashing_262 rfl ?_
      refine e_dup aX9_isItemClashing_263 rfl ?_
      refine e_getI aX9_isItemClashing_264 fX9_319 rfl (fx_is F rfl) ?_
      refine e_iconst (v := 1) aX9_isItemClashing_267 (by decide) ?_
      refine e_iadd aX9_isItemClashing_268 ?_
      refine e_putI aX9_isItemClashing_269 fX9_319 rfl (fx_is F rfl) (Or.inl rfl) ?_
      refine e_iconst (v := 0) aX9_isItemClashing_272 (by decide) ?_
      refine e_zreturn aX9_isItemClashing_273 rfl (by decide) (Nat.le_refl _) (Nat.le_refl _) ?_
      exact riQ_o (d := d) hr (Or.inr q259) S pt tk
