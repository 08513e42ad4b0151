/-! the reference: an item, stage by stage (written by wip/whole/g74.py) -/
theorem ev_r6 (X : EX) {h0 h : HP} {bt : Nat → Int32} {l n c f : Nat} {D E : Nat → DD} {o : Nat → Nat} {ps : Bool} (H0 : ItH h0 bt l n c D E f o ps) (S : Sf scF h0 h) {u : SM} (pt : PsM h u) (tk : TkI bt l u.2) {r : IR} {a b pk k m : Nat} {q : Option Nat} {one b9 pk9 sec9 m9 : Int32} (hd : u.1 = false → (one = nI a ∧ b9 = nI b ∧ pk9 = nI pk ∧ sec9 = oI q ∧ m9 = nI m ∧ itW a b pk k q m ∧ n + c < 12)) (hr : wIt u (it6 bt l D n E c a b pk k q m) = r) : Ev X mX9_isItemClashing 27 0 0 (riQ bt l n c D E f o ps h0 r) 0 0 219 [(0, some (vR (some 109))), (1, some (vI one)), (2, some (vI b9)), (3, some (vI pk9)), (4, some (vI (nI k))), (5, some (vI sec9)), (6, some (vI m9))] [] h := by
  have H9 := H0
  obtain ⟨F0, t0, hnc, ⟨a4, b4, hm, hf, hab⟩, hps, mk, mf⟩ := H0
  obtain ⟨w0, p⟩ := u
  have F := S.F F0
  have t := S.tbF t0
  refine e_aload_n aX9_isItemClashing_219 rfl ?_
  refine e_iconst (v := 0) aX9_isItemClashing_220 (by decide) ?_
  refine e_putI aX9_isItemClashing_221 fX9_291 rfl (fx_is F rfl) (Or.inl rfl) ?_
  refine e_aload_n aX9_isItemClashing_224 rfl ?_
  refine e_iconst (v := 0) aX9_isItemClashing_225 (by decide) ?_
  refine e_putI aX9_isItemClashing_226 fX9_303 rfl (fx_is F rfl) (Or.inl rfl) ?_
  have S1 : Sf scF h0 (wI (wI h 109 23 0) 109 21 0) := (S.wI (Or.inr ⟨rfl, by omega⟩)).wI (Or.inr ⟨rfl, by omega⟩)
  have ps1 : PsM (wI (wI h 109 23 0) 109 21 0) (w0, p) := ⟨(wI_i (by decide)).trans ((wI_i (by decide)).trans pt.1), (wI_i (by decide)).trans ((wI_i (by decide)).trans pt.2.1), (wI_i (by decide)).trans ((wI_i (by decide)).trans pt.2.2)⟩
  have t1 := S1.tbF t0
  refine e_iconst (v := 0) aX9_isItemClashing_229 (by decide) ?_
  refine e_istore aX9_isItemClashing_230 (Nat.le_of_ble_eq_true rfl) ?_
  refine e_aload_n aX9_isItemClashing_232 rfl ?_
  refine e_bipush (v := 8) aX9_isItemClashing_233 (by decide) ?_
  refine e_invv aX9_isItemClashing_235 kX9_312 (zX9_takes X (h0 := wI (wI h 109 23 0) 109 21 0) F t1 ps1 tk (w9 := 8) (by decide)) rfl rfl (fx_is F rfl) (Nat.le_of_ble_eq_true rfl) (Nat.le_of_ble_eq_true rfl) (Nat.le_refl _) (Nat.le_refl _) (Nat.le_of_ble_eq_true rfl) ?_
  rintro v h2 ⟨rfl, S2, ps2⟩
  have F := S2.F F
  refine e_if_eq aX9_isItemClashing_238 (fun c238 => ?_) (fun c238 => ?_)
  · -- 238: taken
    have q238 := b2_0.mp c238
    have e9 : tkW bt l 8 (w0, p) = (w0, p) := if_neg q238
    have ps2 : PsM h2 (w0, p) := e9 ▸ ps2
    refine e_ls (ls' := [(0, some (vR (some 109))), (1, some (vI one)), (2, some (vI b9)), (3, some (vI pk9)), (4, some (vI (nI k))), (5, some (vI sec9)), (6, some (vI m9)), (7, some (vI 0))]) ⟨rfl, rfl, rfl, rfl, rfl, rfl, rfl, rfl, trivial⟩ ?_
    refine ev_r0 X H9 (S1.tr S2.QF) (u := (w0, p)) (d := dNo k a b pk q m) ps2 tk (fun z => ?_) ?_
    · obtain ⟨x1, x2, x3, x4, x5, x6, x7⟩ := hd z
      exact ⟨itW_n x6, x1, x2, x3, rfl, x4, x5, rfl, x7, fun z => Bool.noConfusion z⟩
    · rw [← hr]
      by_cases z : w0 = true
      · rw [wIt_d z, wIt_d z]
      · rw [wIt_e z, wIt_e z]
        unfold it6
        rw [if_neg (show ¬ tkQ bt p 8 = true from fun y => q238 (by rw [Bool.eq_false_iff.mpr z]; exact y))]
  · -- 238: not taken
    have q238 := Decidable.of_not_not (fun z => c238 (b2_0.mpr z))
    obtain ⟨rfl, q9⟩ : w0 = false ∧ tkQ bt p 8 = true := by
      have q9 : (!w0 && tkQ bt p 8) = true := q238
      cases w0
      · exact ⟨rfl, q9⟩
      · exact absurd q9 (by simp)
    have e9 : tkW bt l 8 (false, p) = (false, nxT bt l p) := if_pos q238
    have ps2 : PsM h2 (false, nxT bt l p) := e9 ▸ ps2
    have g9 := nx_ge (bt := bt) tk.1.2
    have g8 := tkQ_ln q9
    have g7 : sLn 8 = 2 := by decide +kernel
    have z9 := tk.1
    have z9 : p.1 ≤ p.2 ∧ p.2 ≤ l := z9
    have S3 := S1.tr S2.QF
    have cd2 : CdC h2 [] := ⟨(S2.2 _ _ (by unfold scQ; omega)).trans ((wI_i (by decide)).trans wI_s), fun i hi => absurd hi (Nat.not_lt_zero _)⟩
    have t2 := S2.tbQ t1
    have P3 : FcP bt l h2 [] (nxT bt l p) (n + c) := ⟨F, t2, ps2, TkI_n z9.2, cd2, Nat.zero_le _, (show 2 ≤ (nxT bt l p).1 by have g9 : p.2 ≤ (nxT bt l p).1 := g9; omega), a4, b4, (S3.2 _ _ (by unfold scF; omega)).trans hm, (S3.2 _ _ (by unfold scF; omega)).trans hf, hab, by omega⟩
    have h120 := t2.2.1
    have o3 : hI h2 109 21 = nI (6 - 6) := (S2.2 _ _ (by unfold scQ; omega)).trans wI_s
    refine e_aload_n aX9_isItemClashing_241 rfl ?_
    refine e_invv aX9_isItemClashing_242 kX9_309 ((zcond X (bt := bt) (l := l) (D := D) (E := E) (show n ≤ 12 by omega) (show c ≤ 12 by omega) 6 (Nat.le_refl _)).2 h2 [] (nxT bt l p) P3 o3) rfl rfl (fx_is F rfl) (Nat.le_of_ble_eq_true rfl) (Nat.le_of_ble_eq_true rfl) (Nat.le_refl _) (Nat.le_refl _) (Nat.le_of_ble_eq_true rfl) ?_
    rintro v h3 ⟨rfl, S4, o4, ps4, tk4, g4, cs, cd4, l4, ev4⟩
    have F := S4.F F
    refine e_iconst (v := 1) aX9_isItemClashing_245 (by decide) ?_
    refine e_istore aX9_isItemClashing_246 (Nat.le_of_ble_eq_true rfl) ?_
    refine e_ls (ls' := [(0, some (vR (some 109))), (1, some (vI one)), (2, some (vI b9)), (3, some (vI pk9)), (4, some (vI (nI k))), (5, some (vI sec9)), (6, some (vI m9)), (7, some (vI 1))]) ⟨rfl, rfl, rfl, rfl, rfl, rfl, rfl, rfl, trivial⟩ ?_
    refine ev_r0 X H9 ((S1.tr S2.QF).tr S4) (u := (!(anyF (oneF bt l D n E c 6) bt l (nxT bt l p)).1, (anyF (oneF bt l D n E c 6) bt l (nxT bt l p)).2.1)) (d := (k, a, b, pk, q, m, true, (anyF (oneF bt l D n E c 6) bt l (nxT bt l p)).2.2)) ps4 tk4 (fun z => ?_) ?_
    · obtain ⟨x1, x2, x3, x4, x5, x6, x7⟩ := hd rfl
      have z1 : (anyF (oneF bt l D n E c 6) bt l (nxT bt l p)).1 = true := by
        have z : (!(anyF (oneF bt l D n E c 6) bt l (nxT bt l p)).1) = false := z
        rw [Bool.not_eq_false'] at z
        exact z
      have l9 : cs.length + (nxT bt l p).1 ≤ (anyF (oneF bt l D n E c 6) bt l (nxT bt l p)).2.1.1 + (if (anyF (oneF bt l D n E c 6) bt l (nxT bt l p)).1 = true then 0 else 1) := l4
      rw [if_pos z1] at l9
      have l8 := tk4.1.1
      have l7 := tk4.1.2
      exact ⟨itW_c x6, x1, x2, x3, rfl, x4, x5, rfl, x7, fun _ => ⟨cs, cd4, by omega, ev4 z1⟩⟩
    · rw [← hr]
      show _ = it6 bt l D n E c a b pk k q m p
      unfold it6
      rw [if_pos q9]
      by_cases z : (anyF (oneF bt l D n E c 6) bt l (nxT bt l p)).1 = true
      · rw [if_pos z, wIt_e (by rw [z]; decide)]
      · rw [if_neg z, wIt_d (by rw [Bool.eq_false_iff.mpr z]; rfl)]
theorem ev_r5 (X : EX) {h0 h : HP} {bt : Nat → Int32} {l n c f : Nat} {D E : Nat → DD} {o : Nat → Nat} {ps : Bool} (H0 : ItH h0 bt l n c D E f o ps) (S : Sf scF h0 h) {u : SM} (pt : PsM h u) (tk : TkI bt l u.2) {r : IR} {a b pk k : Nat} (hk6 : k < 6) {q : Option Nat} {one b9 pk9 sec9 : Int32} (hd : u.1 = false → (one = nI a ∧ b9 = nI b ∧ pk9 = nI pk ∧ sec9 = oI q ∧ (∀ m, m ≤ 2 → (k = 0 ∨ k = 2 ↔ m = 0) → itW a b pk k q m) ∧ n + c < 12)) (hr : wIt u (it5 bt l D n E c a b pk k q) = r) : Ev X mX9_isItemClashing 27 0 0 (riQ bt l n c D E f o ps h0 r) 0 0 196 [(0, some (vR (some 109))), (1, some (vI one)), (2, some (vI b9)), (3, some (vI pk9)), (4, some (vI (nI k))), (5, some (vI sec9))] [] h := by
  have H9 := H0
  obtain ⟨F0, t0, hnc, ⟨a4, b4, hm, hf, hab⟩, hps, mk, mf⟩ := H0
  obtain ⟨w0, p⟩ := u
  have F := S.F F0
  have t := S.tbF t0
  refine e_iload aX9_isItemClashing_196 rfl ?_
  refine e_if_eq aX9_isItemClashing_198 (fun c198 => ?_) (fun c198 => ?_)
  · -- 198: taken
    have q198 : k = 0 := (nI_eq (b := 0) (by omega) (by decide)).mp c198
    refine e_iconst (v := 0) aX9_isItemClashing_207 (by decide) ?_
    refine e_goto aX9_isItemClashing_208 ?_
    refine e_istore aX9_isItemClashing_217 (Nat.le_of_ble_eq_true rfl) ?_
    have qk : k = 0 ∨ k = 2 := Or.inl q198
    refine e_ls (ls' := [(0, some (vR (some 109))), (1, some (vI one)), (2, some (vI b9)), (3, some (vI pk9)), (4, some (vI (nI k))), (5, some (vI sec9)), (6, some (vI 0))]) ⟨rfl, rfl, rfl, rfl, rfl, rfl, rfl, trivial⟩ ?_
    refine ev_r6 X H9 S (u := (w0, p)) (a := a) (b := b) (pk := pk) (m := 0) (q := q) pt tk (fun z => ?_) ?_
    · obtain ⟨x1, x2, x3, x4, x6, x7⟩ := hd z
      exact ⟨x1, x2, x3, x4, rfl, x6 0 (by decide) (by omega), x7⟩
    · rw [← hr]
      by_cases z : w0 = true
      · rw [wIt_d z, wIt_d z]
      · rw [wIt_e z, wIt_e z]
        unfold it5
        rw [if_pos qk]
  · -- 198: not taken
    have q198 : ¬ k = 0 := fun z => c198 (by rw [z]; rfl)
    refine e_iload aX9_isItemClashing_201 rfl ?_
    refine e_iconst (v := 2) aX9_isItemClashing_203 (by decide) ?_
    refine e_icmp_ne aX9_isItemClashing_204 (fun c204 => ?_) (fun c204 => ?_)
    · -- 204: taken
      have q204 : ¬ k = 2 := fun z => c204 (by rw [z]; rfl)
      refine e_aload_n aX9_isItemClashing_211 rfl ?_
      refine e_iconst (v := 1) aX9_isItemClashing_212 (by decide) ?_
      refine e_iconst (v := 2) aX9_isItemClashing_213 (by decide) ?_
      refine e_invv aX9_isItemClashing_214 kX9_294 (zX9_number X F t pt tk (lo := nI 1) (hi9 := nI 2) (by decide) (by decide)) rfl rfl (fx_is F rfl) (Nat.le_of_ble_eq_true rfl) (Nat.le_of_ble_eq_true rfl) (Nat.le_refl _) (Nat.le_refl _) (Nat.le_of_ble_eq_true rfl) ?_
      rintro v h2 ⟨rfl, S2, ps2⟩
      have F := S2.F F
      refine e_istore aX9_isItemClashing_217 (Nat.le_of_ble_eq_true rfl) ?_
      have qk : ¬ (k = 0 ∨ k = 2) := fun z => z.elim q198 q204
      refine e_ls (ls' := [(0, some (vR (some 109))), (1, some (vI one)), (2, some (vI b9)), (3, some (vI pk9)), (4, some (vI (nI k))), (5, some (vI sec9)), (6, some (vI (nmV bt l (nI 1) (nI 2) (w0, p))))]) ⟨rfl, rfl, rfl, rfl, rfl, rfl, rfl, trivial⟩ ?_
      refine ev_r6 X H9 (S.tr S2.PF) (u := nmF bt l (nI 1) (nI 2) (w0, p)) (a := a) (b := b) (pk := pk) (m := (tnV bt l p (nI 1) (nI 2) (-1)).toNatClampNeg) (q := q) ps2 (TkI_mF tk) (fun z => ?_) ?_
      · cases w0
        · obtain ⟨x1, x2, x3, x4, x6, x7⟩ := hd rfl
          rcases st_n (bt := bt) (l := l) (p := p) (lo := 1) (hi9 := 2) (by decide) (by decide) with ⟨z1, z2⟩ | ⟨j, j1, j2, z1, z2, z3, z4⟩
          · rw [z2] at z
            exact Bool.noConfusion z
          · rw [z2]
            exact ⟨x1, x2, x3, x4, z4, x6 j j2 (by omega), x7⟩
        · exact Bool.noConfusion z
      · rw [← hr]
        cases w0
        · show _ = it5 bt l D n E c a b pk k q p
          unfold it5
          rw [if_neg qk]
          rcases st_n (bt := bt) (l := l) (p := p) (lo := 1) (hi9 := 2) (by decide) (by decide) with ⟨z1, z2⟩ | ⟨j, j1, j2, z1, z2, z3, z4⟩
          · rw [z2, wIt_t]
            exact (if_pos z1).symm
          · rw [z3, wIt_f]
            exact (if_neg z1).symm
        · rfl
    · -- 204: not taken
      have q204 : k = 2 := (nI_eq (b := 2) (by omega) (by decide)).mp c204
      refine e_iconst (v := 0) aX9_isItemClashing_207 (by decide) ?_
      refine e_goto aX9_isItemClashing_208 ?_
      refine e_istore aX9_isItemClashing_217 (Nat.le_of_ble_eq_true rfl) ?_
      have qk : k = 0 ∨ k = 2 := Or.inr q204
      refine e_ls (ls' := [(0, some (vR (some 109))), (1, some (vI one)), (2, some (vI b9)), (3, some (vI pk9)), (4, some (vI (nI k))), (5, some (vI sec9)), (6, some (vI 0))]) ⟨rfl, rfl, rfl, rfl, rfl, rfl, rfl, trivial⟩ ?_
      refine ev_r6 X H9 S (u := (w0, p)) (a := a) (b := b) (pk := pk) (m := 0) (q := q) pt tk (fun z => ?_) ?_
      · obtain ⟨x1, x2, x3, x4, x6, x7⟩ := hd z
        exact ⟨x1, x2, x3, x4, rfl, x6 0 (by decide) (by omega), x7⟩
      · rw [← hr]
        by_cases z : w0 = true
        · rw [wIt_d z, wIt_d z]
        · rw [wIt_e z, wIt_e z]
          unfold it5
          rw [if_pos qk]
theorem nh_Y {bt : Nat → Int32} {l pk : Nat} {p : PT} (tk : TkI bt l p) (hp : pk < 12) : (tnV bt l p (nI (pk / 3 * 3)) (nI (pk / 3 * 3 + 2)) (nI pk) < 0 ∧ tnX bt l p (nI (pk / 3 * 3)) (nI (pk / 3 * 3 + 2)) (nI pk) = p ∧ ¬ (¬ ((nI pk) < 0 ∨ 12 ≤ (nI pk)) ∧ ¬ ((nhV bt l (false, p)) < 0 ∨ 12 ≤ (nhV bt l (false, p))) ∧ ¬ (nI pk) = (nhV bt l (false, p)) ∧ (nI pk).toNatClampNeg / 3 = (nhV bt l (false, p)).toNatClampNeg / 3)) ∨ ∃ j, j < 12 ∧ j ≠ pk ∧ j / 3 = pk / 3 ∧ ¬ tnV bt l p (nI (pk / 3 * 3)) (nI (pk / 3 * 3 + 2)) (nI pk) < 0 ∧ (tnV bt l p (nI (pk / 3 * 3)) (nI (pk / 3 * 3 + 2)) (nI pk)).toNatClampNeg = j ∧ tnX bt l p (nI (pk / 3 * 3)) (nI (pk / 3 * 3 + 2)) (nI pk) = nxT bt l p ∧ (¬ ((nI pk) < 0 ∨ 12 ≤ (nI pk)) ∧ ¬ ((nhV bt l (false, p)) < 0 ∨ 12 ≤ (nhV bt l (false, p))) ∧ ¬ (nI pk) = (nhV bt l (false, p)) ∧ (nI pk).toNatClampNeg / 3 = (nhV bt l (false, p)).toNatClampNeg / 3) ∧ nhV bt l (false, p) = nI j := by
  by_cases z : tnV bt l p (nI (pk / 3 * 3)) (nI (pk / 3 * 3 + 2)) (nI pk) < 0
  · refine Or.inl ⟨z, ?_, ?_⟩
    · unfold tnX
      unfold tnV at z
      by_cases y : tnB bt l p (nI (pk / 3 * 3)) (nI (pk / 3 * 3 + 2)) (nI pk) = true
      · exact if_pos y
      · rw [if_neg y] at z
        exact absurd (decide_eq_true (Or.inl (Int32.lt_of_lt_of_le z (nI_pos' (by omega))))) y
    · rintro ⟨x1, x2, x3, x4⟩
      by_cases y : tkN bt l p.1 p.2 < 0
      · have e : nhV bt l (false, p) = 100 := (if_neg Bool.false_ne_true).trans (if_pos y)
        rw [e] at x2
        exact x2 (Or.inr (by decide))
      · have e : nhV bt l (false, p) = tkN bt l p.1 p.2 := (if_neg Bool.false_ne_true).trans (if_neg y)
        obtain ⟨j, hj, ej⟩ := nI_of y
        rw [e, ej] at x2 x3 x4
        have hj12 : j < 12 := Nat.not_le.mp (fun w => x2 (Or.inr (nI_le (a := 12) w hj)))
        rw [cl (by omega), cl (by omega)] at x4
        unfold tnV at z
        rw [if_neg (fun w => by
          rcases of_decide_eq_true w with w | w | w
          · rw [ej] at w
            exact absurd ((nI_ltI (by omega) (by omega)).mp w) (by omega)
          · rw [ej] at w
            exact absurd ((nI_ltI (by omega) (by omega)).mp w) (by omega)
          · rw [ej] at w
            exact x3 w.symm)] at z
        exact y z
  · obtain ⟨j, j1, j2, j3, j4, j5, j6⟩ := tn_R (by omega) (by omega) z
    have e : nhV bt l (false, p) = nI j := by
      refine (if_neg Bool.false_ne_true).trans ?_
      show (if tkN bt l p.1 p.2 < 0 then (100 : Int32) else tkN bt l p.1 p.2) = _
      rw [j5, if_neg (nI_pos (by omega))]
    have hne : j ≠ pk := fun w => j4 (by rw [w])
    refine Or.inr ⟨j, by omega, hne, by omega, z, by rw [j3, cl (by omega)], j6, ?_, e⟩
    rw [e]
    refine ⟨fun w => w.elim (nI_pos (by omega)) (nI_ge (b := 12) hp (by decide)), fun w => w.elim (nI_pos (by omega)) (nI_ge (b := 12) (by omega) (by decide)), fun w => hne ((nI_eq (by omega) (by omega)).mp w).symm, ?_⟩
    rw [cl (by omega), cl (by omega)]
    omega
theorem ev_r4 (X : EX) {h0 h : HP} {bt : Nat → Int32} {l n c f : Nat} {D E : Nat → DD} {o : Nat → Nat} {ps : Bool} (H0 : ItH h0 bt l n c D E f o ps) (S : Sf scF h0 h) {u : SM} (pt : PsM h u) (tk : TkI bt l u.2) {r : IR} {a b pk k : Nat} (hk6 : k < 6) {one b9 pk9 : Int32} (hd : u.1 = false → (one = nI a ∧ b9 = nI b ∧ pk9 = nI pk ∧ pk < 12 ∧ (∀ q m, ((k = 2 ∨ k = 5) ↔ q.isSome = true) → (∀ x, q = some x → x < 12 ∧ x ≠ pk ∧ x / 3 = pk / 3) → m ≤ 2 → (k = 0 ∨ k = 2 ↔ m = 0) → itW a b pk k q m) ∧ n + c < 12)) (hr : wIt u (it4 bt l D n E c a b pk k) = r) : Ev X mX9_isItemClashing 27 0 0 (riQ bt l n c D E f o ps h0 r) 0 0 163 [(0, some (vR (some 109))), (1, some (vI one)), (2, some (vI b9)), (3, some (vI pk9))] [vI (nI k)] h := by
  have H9 := H0
  obtain ⟨F0, t0, hnc, ⟨a4, b4, hm, hf, hab⟩, hps, mk, mf⟩ := H0
  obtain ⟨w0, p⟩ := u
  have F := S.F F0
  have t := S.tbF t0
  refine e_istore aX9_isItemClashing_163 (Nat.le_of_ble_eq_true rfl) ?_
  refine e_iconst (v := -1) aX9_isItemClashing_165 (by decide) ?_
  refine e_istore aX9_isItemClashing_166 (Nat.le_of_ble_eq_true rfl) ?_
  refine e_iload aX9_isItemClashing_168 rfl ?_
  refine e_iconst (v := 2) aX9_isItemClashing_170 (by decide) ?_
  refine e_icmp_eq aX9_isItemClashing_171 (fun c171 => ?_) (fun c171 => ?_)
  · -- 171: taken
    have q171 : k = 2 := (nI_eq (b := 2) (by omega) (by decide)).mp c171
    refine e_aload_n aX9_isItemClashing_180 rfl ?_
    refine e_invvT aX9_isItemClashing_181 kX9_284 (zX9_numberHere X F t pt tk) rfl rfl (fx_is F rfl) (Nat.le_of_ble_eq_true rfl) (Nat.le_of_ble_eq_true rfl) (Nat.le_refl _) (Nat.le_refl _) (Nat.le_of_ble_eq_true rfl) ?_
    refine e_istore aX9_isItemClashing_184 (Nat.le_of_ble_eq_true rfl) ?_
    refine e_aload_n aX9_isItemClashing_186 rfl ?_
    refine e_iload_n aX9_isItemClashing_187 rfl ?_
    refine e_iload aX9_isItemClashing_188 rfl ?_
    refine e_invsT aX9_isItemClashing_190 kX9_201 (zX9_areOfYear X _ _) rfl rfl (Nat.le_of_ble_eq_true rfl) (Nat.le_of_ble_eq_true rfl) (Nat.le_refl _) (Nat.le_refl _) (Nat.le_of_ble_eq_true rfl) ?_
    refine e_top (b2_c (q := decide (¬ (pk9 < 0 ∨ 12 ≤ pk9) ∧ ¬ ((nhV bt l (w0, p)) < 0 ∨ 12 ≤ (nhV bt l (w0, p))) ∧ ¬ pk9 = (nhV bt l (w0, p)) ∧ pk9.toNatClampNeg / 3 = (nhV bt l (w0, p)).toNatClampNeg / 3) = true) decide_eq_true_iff.symm) ?_
    refine e_invv aX9_isItemClashing_193 kX9_287 (zX9_must X F t pt tk.1.2 (decide (¬ (pk9 < 0 ∨ 12 ≤ pk9) ∧ ¬ ((nhV bt l (w0, p)) < 0 ∨ 12 ≤ (nhV bt l (w0, p))) ∧ ¬ pk9 = (nhV bt l (w0, p)) ∧ pk9.toNatClampNeg / 3 = (nhV bt l (w0, p)).toNatClampNeg / 3))) rfl rfl (fx_is F rfl) (Nat.le_of_ble_eq_true rfl) (Nat.le_of_ble_eq_true rfl) (Nat.le_refl _) (Nat.le_refl _) (Nat.le_of_ble_eq_true rfl) ?_
    rintro v h2 ⟨rfl, S2, ps2⟩
    have F := S2.F F
    have qk : k = 2 ∨ k = 5 := Or.inl q171
    refine e_ls (ls' := [(0, some (vR (some 109))), (1, some (vI one)), (2, some (vI b9)), (3, some (vI pk9)), (4, some (vI (nI k))), (5, some (vI (nhV bt l (w0, p))))]) ⟨rfl, rfl, rfl, rfl, rfl, rfl, trivial⟩ ?_
    refine ev_r5 X H9 (S.tr S2.PF) (u := mF bt l (decide (¬ (pk9 < 0 ∨ 12 ≤ pk9) ∧ ¬ ((nhV bt l (w0, p)) < 0 ∨ 12 ≤ (nhV bt l (w0, p))) ∧ ¬ pk9 = (nhV bt l (w0, p)) ∧ pk9.toNatClampNeg / 3 = (nhV bt l (w0, p)).toNatClampNeg / 3)) (w0, p)) (a := a) (b := b) (pk := pk) (hk6 := hk6) (q := some (tnV bt l p (nI (pk / 3 * 3)) (nI (pk / 3 * 3 + 2)) (nI pk)).toNatClampNeg) ps2 (TkI_mF tk) (fun z => ?_) ?_
    · cases w0
      · obtain ⟨x1, x2, x3, x4, x6, x7⟩ := hd rfl
        rw [x3] at z
        rcases nh_Y tk x4 with ⟨z1, z2, z3⟩ | ⟨j, j1, j2, j3, z1, z2, z3, z4, z5⟩
        · rw [decide_eq_false z3] at z
          exact Bool.noConfusion z
        · rw [z2]
          exact ⟨x1, x2, x3, z5, fun m m1 m2 => x6 (some j) m ⟨fun _ => rfl, fun _ => qk⟩ (fun x y => by injection y with y; subst y; exact ⟨j1, j2, j3⟩) m1 m2, x7⟩
      · exact Bool.noConfusion z
    · rw [← hr]
      cases w0
      · obtain ⟨x1, x2, x3, x4, x6, x7⟩ := hd rfl
        show _ = it4 bt l D n E c a b pk k p
        unfold it4
        rw [if_pos qk, x3]
        rcases nh_Y tk x4 with ⟨z1, z2, z3⟩ | ⟨j, j1, j2, j3, z1, z2, z3, z4, z5⟩
        · rw [decide_eq_false z3, if_pos z1, z2]
          rfl
        · rw [decide_eq_true z4, if_neg z1, z3]
          rfl
      · rfl
  · -- 171: not taken
    have q171 : ¬ k = 2 := fun z => c171 (by rw [z]; rfl)
    refine e_iload aX9_isItemClashing_174 rfl ?_
    refine e_iconst (v := 5) aX9_isItemClashing_176 (by decide) ?_
    refine e_icmp_ne aX9_isItemClashing_177 (fun c177 => ?_) (fun c177 => ?_)
    · -- 177: taken
      have q177 : ¬ k = 5 := fun z => c177 (by rw [z]; rfl)
      have qk : ¬ (k = 2 ∨ k = 5) := fun z => z.elim q171 q177
      refine e_ls (ls' := [(0, some (vR (some 109))), (1, some (vI one)), (2, some (vI b9)), (3, some (vI pk9)), (4, some (vI (nI k))), (5, some (vI (-1)))]) ⟨rfl, rfl, rfl, rfl, rfl, rfl, trivial⟩ ?_
      refine ev_r5 X H9 S (u := (w0, p)) (a := a) (b := b) (pk := pk) (hk6 := hk6) (q := none) pt tk (fun z => ?_) ?_
      · obtain ⟨x1, x2, x3, x4, x6, x7⟩ := hd z
        exact ⟨x1, x2, x3, rfl, fun m m1 m2 => x6 none m ⟨fun y => absurd y qk, fun y => by cases y⟩ (fun x y => by cases y) m1 m2, x7⟩
      · rw [← hr]
        by_cases z : w0 = true
        · rw [wIt_d z, wIt_d z]
        · rw [wIt_e z, wIt_e z]
          unfold it4
          rw [if_neg qk]
    · -- 177: not taken
      have q177 : k = 5 := (nI_eq (b := 5) (by omega) (by decide)).mp c177
      refine e_aload_n aX9_isItemClashing_180 rfl ?_
      refine e_invvT aX9_isItemClashing_181 kX9_284 (zX9_numberHere X F t pt tk) rfl rfl (fx_is F rfl) (Nat.le_of_ble_eq_true rfl) (Nat.le_of_ble_eq_true rfl) (Nat.le_refl _) (Nat.le_refl _) (Nat.le_of_ble_eq_true rfl) ?_
      refine e_istore aX9_isItemClashing_184 (Nat.le_of_ble_eq_true rfl) ?_
      refine e_aload_n aX9_isItemClashing_186 rfl ?_
      refine e_iload_n aX9_isItemClashing_187 rfl ?_
      refine e_iload aX9_isItemClashing_188 rfl ?_
      refine e_invsT aX9_isItemClashing_190 kX9_201 (zX9_areOfYear X _ _) rfl rfl (Nat.le_of_ble_eq_true rfl) (Nat.le_of_ble_eq_true rfl) (Nat.le_refl _) (Nat.le_refl _) (Nat.le_of_ble_eq_true rfl) ?_
      refine e_top (b2_c (q := decide (¬ (pk9 < 0 ∨ 12 ≤ pk9) ∧ ¬ ((nhV bt l (w0, p)) < 0 ∨ 12 ≤ (nhV bt l (w0, p))) ∧ ¬ pk9 = (nhV bt l (w0, p)) ∧ pk9.toNatClampNeg / 3 = (nhV bt l (w0, p)).toNatClampNeg / 3) = true) decide_eq_true_iff.symm) ?_
      refine e_invv aX9_isItemClashing_193 kX9_287 (zX9_must X F t pt tk.1.2 (decide (¬ (pk9 < 0 ∨ 12 ≤ pk9) ∧ ¬ ((nhV bt l (w0, p)) < 0 ∨ 12 ≤ (nhV bt l (w0, p))) ∧ ¬ pk9 = (nhV bt l (w0, p)) ∧ pk9.toNatClampNeg / 3 = (nhV bt l (w0, p)).toNatClampNeg / 3))) rfl rfl (fx_is F rfl) (Nat.le_of_ble_eq_true rfl) (Nat.le_of_ble_eq_true rfl) (Nat.le_refl _) (Nat.le_refl _) (Nat.le_of_ble_eq_true rfl) ?_
      rintro v h2 ⟨rfl, S2, ps2⟩
      have F := S2.F F
      have qk : k = 2 ∨ k = 5 := Or.inr q177
      refine e_ls (ls' := [(0, some (vR (some 109))), (1, some (vI one)), (2, some (vI b9)), (3, some (vI pk9)), (4, some (vI (nI k))), (5, some (vI (nhV bt l (w0, p))))]) ⟨rfl, rfl, rfl, rfl, rfl, rfl, trivial⟩ ?_
      refine ev_r5 X H9 (S.tr S2.PF) (u := mF bt l (decide (¬ (pk9 < 0 ∨ 12 ≤ pk9) ∧ ¬ ((nhV bt l (w0, p)) < 0 ∨ 12 ≤ (nhV bt l (w0, p))) ∧ ¬ pk9 = (nhV bt l (w0, p)) ∧ pk9.toNatClampNeg / 3 = (nhV bt l (w0, p)).toNatClampNeg / 3)) (w0, p)) (a := a) (b := b) (pk := pk) (hk6 := hk6) (q := some (tnV bt l p (nI (pk / 3 * 3)) (nI (pk / 3 * 3 + 2)) (nI pk)).toNatClampNeg) ps2 (TkI_mF tk) (fun z => ?_) ?_
      · cases w0
        · obtain ⟨x1, x2, x3, x4, x6, x7⟩ := hd rfl
          rw [x3] at z
          rcases nh_Y tk x4 with ⟨z1, z2, z3⟩ | ⟨j, j1, j2, j3, z1, z2, z3, z4, z5⟩
          · rw [decide_eq_false z3] at z
            exact Bool.noConfusion z
          · rw [z2]
            exact ⟨x1, x2, x3, z5, fun m m1 m2 => x6 (some j) m ⟨fun _ => rfl, fun _ => qk⟩ (fun x y => by injection y with y; subst y; exact ⟨j1, j2, j3⟩) m1 m2, x7⟩
        · exact Bool.noConfusion z
      · rw [← hr]
        cases w0
        · obtain ⟨x1, x2, x3, x4, x6, x7⟩ := hd rfl
          show _ = it4 bt l D n E c a b pk k p
          unfold it4
          rw [if_pos qk, x3]
          rcases nh_Y tk x4 with ⟨z1, z2, z3⟩ | ⟨j, j1, j2, j3, z1, z2, z3, z4, z5⟩
          · rw [decide_eq_false z3, if_pos z1, z2]
            rfl
          · rw [decide_eq_true z4, if_neg z1, z3]
            rfl
        · rfl
