/-! the reference: a TEXT comes true, or clashes (written by wip/whole/g77.py) -/
def scX (a i : Nat) : Prop := scW a i ∨ (a = 109 ∧ i = 20)
/-- c deals have come true -/
def P2S (hb : HP) (D : Nat → DD) (n : Nat) (G : Nat → DD) (f : Nat) (o : Nat → Nat) (c : Nat) (h : HP) : Prop := Sf scX hb h ∧ MkD h (n + c) (jnD D n G) ∧ hI h 109 20 = 0 ∧ hI h 109 7 = hI hb 109 7 + nI c ∧ (∀ i, i < 8 * n → hI h 112 i = hI hb 112 i) ∧ (∀ i, i < c → hI h 112 (8 * (n + i) + 7) = hI hb 109 7 + nI i) ∧ (∀ i, hI h 114 i = hI hb 114 i) ∧ ∀ i, i < c → rfs (jnD D n G) (n + i + 1) (fo o f) (om f) = none
/-- one of them clashed -/
def P2C (hb : HP) (D : Nat → DD) (n : Nat) (G : Nat → DD) (f : Nat) (o : Nat → Nat) (g : Nat) (h : HP) : Prop := ∃ j s, j < g ∧ Sf scX hb h ∧ MkD h (n + j + 1) (jnD D n G) ∧ hI h 109 7 = hI hb 109 7 + nI (j + 1) ∧ (∀ i, i < 8 * n → hI h 112 i = hI hb 112 i) ∧ (∀ i, i < j → rfs (jnD D n G) (n + i + 1) (fo o f) (om f) = none) ∧ rfs (jnD D n G) (n + j + 1) (fo o f) (om f) = some s ∧ tldM h (jnD D n G) (n + j + 1) s
def scR3 (a i : Nat) : Prop := a = 109 ∧ (i = 14 ∨ i = 15 ∨ i = 16 ∨ i = 18)
theorem P2S.sf {hb h h2 : HP} {D G : Nat → DD} {n f c : Nat} {o : Nat → Nat} (A : P2S hb D n G f o c h) (S : Sf scP h h2) : P2S hb D n G f o c h2 := by
  obtain ⟨a1, a2, a3, a4, a5, a6, a7, a8⟩ := A
  exact ⟨a1.tr (S.mono (fun a i q => Or.inl (by unfold scP at q; unfold scW; omega))), a2.sf S (by unfold scP; omega) (fun i => by unfold scP; omega), (S.2 _ _ (by unfold scP; omega)).trans a3, (S.2 _ _ (by unfold scP; omega)).trans a4, fun i hi => (S.2 _ _ (by unfold scP; omega)).trans (a5 i hi), fun i hi => (S.2 _ _ (by unfold scP; omega)).trans (a6 i hi), fun i => (S.2 _ _ (by unfold scP; omega)).trans (a7 i), a8⟩
theorem P2C.sf {hb h h2 : HP} {D G : Nat → DD} {n f g : Nat} {o : Nat → Nat} (A : P2C hb D n G f o g h) (S : Sf scP h h2) : P2C hb D n G f o g h2 := by
  obtain ⟨j, s, a0, a1, a2, a4, a5, a6, a7, p9, b1, b2, b3, b4⟩ := A
  exact ⟨j, s, a0, a1.tr (S.mono (fun a i q => Or.inl (by unfold scP at q; unfold scW; omega))), a2.sf S (by unfold scP; omega) (fun i => by unfold scP; omega), (S.2 _ _ (by unfold scP; omega)).trans a4, fun i hi => (S.2 _ _ (by unfold scP; omega)).trans (a5 i hi), a6, a7, p9, b1, (S.2 _ _ (by unfold scP; omega)).trans b2, (S.2 _ _ (by unfold scP; omega)).trans b3, (S.2 _ _ (by unfold scP; omega)).trans b4⟩
theorem la_step {bt : Nat → Int32} {l n f c g : Nat} {D G : Nat → DD} {o : Nat → Nat} {hb h2 h3 : HP} {p : PT} {v : Option VV} (A : P2S hb D n G f o c h2) (hc : c < g) (H : laQ bt l n c D G f o h2 (G c) p v h3) : ∃ v9, v = some (vI v9) ∧ ((v9 = 0 ∧ P2S hb D n G f o (c + 1) h3) ∨ (v9 = 1 ∧ P2C hb D n G f o g h3)) ∧ PsM h3 (false, p) ∧ TkI bt l p ∧ Sf scX hb h3 := by
  obtain ⟨a1, a2, a3, a4, a5, a6, a7, a8⟩ := A
  obtain ⟨b1, b2, b3, b4, b5, b6, b7, -, b8⟩ := H
  rw [jnD_u] at b7 b8
  have S3 : Sf scX hb h3 := a1.tr (b1.mono (fun _ _ q => Or.inl q))
  have e7 : hI h3 109 7 = hI hb 109 7 + nI (c + 1) := by rw [b6, a4, Int32.add_assoc, nI_succ]
  have e12 : ∀ i, i < 8 * n → hI h3 112 i = hI hb 112 i := fun i hi => (b4 i (by omega)).trans (a5 i hi)
  rcases e9 : rfs (jnD D n G) (n + c + 1) (fo o f) (om f) with _ | s
  · rw [e9] at b8
    refine ⟨0, b8.1, Or.inl ⟨rfl, S3, b7, (b1.2 _ _ (by unfold scW; omega)).trans a3, e7, e12, fun i hi => ?_, fun i => (b8.2 i).trans (a7 i), fun i hi => ?_⟩, b2, b3, S3⟩
    · by_cases z : i = c
      · rw [z, b5, a4]
      · exact (b4 _ (by omega)).trans (a6 i (by omega))
    · by_cases z : i = c
      · rw [z]; exact e9
      · exact a8 i (by omega)
  · rw [e9] at b8
    exact ⟨1, b8.1, Or.inr ⟨rfl, c, s, hc, S3, b7, e7, e12, a8, e9, b8.2⟩, b2, b3, S3⟩
theorem ItH.go2 {hb h : HP} {bt : Nat → Int32} {l n c f : Nat} {D G : Nat → DD} {o : Nat → Nat} (Fb : Fx hb) (tb : TbM hb l bt) (hps : hI hb 109 19 = 1) (mf : MkF hb f o) (hc : n + c ≤ 12) (A : P2S hb D n G f o c h) : ItH h bt l n c D G f o true :=
  ⟨A.1.F Fb, tb.sf A.1 (by unfold scX scW; omega) (fun i => by unfold scX scW; omega) (fun i => by unfold scX scW; omega), hc, ⟨n + c, 0, A.2.1.1, A.2.2.1, rfl⟩, (A.1.2 _ _ (by unfold scX scW; omega)).trans hps, fun _ => A.2.1, mf.sf A.1 (by unfold scX scW; omega) (fun y => by unfold scX scW; omega)⟩
theorem riQ_2 {bt : Nat → Int32} {l n c f : Nat} {D G : Nat → DD} {o : Nat → Nat} {h0 h' : HP} {r : IR} {v : Option VV} {d : DD} (hr : r.1 = some d) (H : riQ bt l n c D G f o true h0 r v h') : laQ bt l n c D G f o h0 d r.2 v h' := by
  unfold riQ at H
  rw [if_pos ⟨by rw [hr]; rfl, rfl⟩] at H
  obtain ⟨d2, e, H⟩ := H
  rw [hr] at e
  injection e with e
  rw [e]
  exact H
theorem ev_w2 (X : EX) {Q : Option VV → HP → Prop} {h : HP} {bt : Nat → Int32} {l : Nat} (F : Fx h) (t : TbM h l bt) {p1 : PT} (ps1 : PsM h (false, p1)) (tk1 : TkI bt l p1) {v9 : Int32} (hv : v9 = 1 ∨ (v9 = 0 ∧ l ≤ p1.1)) (hq : Q (some (vI v9)) (wI h 109 18 0)) : Ev X mX9_isTextClashing 28 0 0 Q 0 0 44 [(0, some (vR (some 109))), (1, some (vI v9))] [] h := by
  have hb9 : v9 = 0 ∨ v9 = 1 := hv.elim Or.inr (fun z => Or.inl z.1)
  refine e_aload_n aX9_isTextClashing_44 rfl ?_
  refine e_aload_n aX9_isTextClashing_45 rfl ?_
  refine e_getIF aX9_isTextClashing_46 fX9_274 rfl (fx_is F rfl) ps1.2.2 ?_
  refine e_if_ne aX9_isTextClashing_49 (fun c49 => ?_) (fun c49 => ?_)
  · -- 49: taken
    exact absurd (b2_f Bool.false_ne_true) c49
  · -- 49: not taken
    refine e_iload_n aX9_isTextClashing_52 rfl ?_
    refine e_if_ne aX9_isTextClashing_53 (fun c53 => ?_) (fun c53 => ?_)
    · -- 53: taken
      skip
      refine e_iconst (v := 0) aX9_isTextClashing_71 (by decide) ?_
      refine e_putZ aX9_isTextClashing_72 fX9_274 rfl (fx_is F rfl) (Or.inl rfl) (by decide) ?_
      refine e_iload_n aX9_isTextClashing_75 rfl ?_
      refine e_zreturn aX9_isTextClashing_76 rfl hb9 (Nat.le_refl _) (Nat.le_refl _) ?_
      exact hq
    · -- 53: not taken
      obtain ⟨z1, z2⟩ := hv.resolve_left (fun z => absurd (c53.symm.trans z) (by decide))
      refine e_aload_n aX9_isTextClashing_56 rfl ?_
      refine e_getIF aX9_isTextClashing_57 fX9_262 rfl (fx_is F rfl) ps1.1 ?_
      refine e_aload_n aX9_isTextClashing_60 rfl ?_
      refine e_getIF aX9_isTextClashing_61 fX9_248 rfl (fx_is F rfl) t.1 ?_
      refine e_icmp_ge aX9_isTextClashing_64 (fun c64 => ?_) (fun c64 => ?_)
      · -- 64: taken
        refine e_iconst (v := 0) aX9_isTextClashing_71 (by decide) ?_
        refine e_putZ aX9_isTextClashing_72 fX9_274 rfl (fx_is F rfl) (Or.inl rfl) (by decide) ?_
        refine e_iload_n aX9_isTextClashing_75 rfl ?_
        refine e_zreturn aX9_isTextClashing_76 rfl hb9 (Nat.le_refl _) (Nat.le_refl _) ?_
        exact hq
      · -- 64: not taken
        exact absurd (nI_le z2 (by have x1 : p1.1 ≤ p1.2 := tk1.1.1; have x2 : p1.2 ≤ l := tk1.1.2; have := t.2.1; show p1.1 < _; omega)) c64
theorem txP_1 {bt : Nat → Int32} {l n f g m c : Nat} {D G : Nat → DD} {q p : PT} (h : txP bt l D n f G g q (m + 1) p c) : (itF bt l D n G c f p).1 = some (G c) := h.1
theorem ev_p2 (X : EX) {hb : HP} {bt : Nat → Int32} {l n f g : Nat} {D G : Nat → DD} {o : Nat → Nat} {q : PT} (Fb : Fx hb) (tb : TbM hb l bt) (hps : hI hb 109 19 = 1) (mf : MkF hb f o) (hq9 : l ≤ q.1) : ∀ (m c : Nat) (p : PT) (hz : HP) (v9 : Int32), txP bt l D n f G g q (m + 1) p c → ((v9 = 0 ∧ P2S hb D n G f o (c + 1) hz) ∨ (v9 = 1 ∧ P2C hb D n G f o g hz)) → PsM hz (false, (itF bt l D n G c f p).2) → TkI bt l (itF bt l D n G c f p).2 → Sf scX hb hz → Ev X mX9_isTextClashing 28 0 0 (fun v h' => hI h' 109 18 = 0 ∧ ((v = some (vI 0) ∧ P2S hb D n G f o g h') ∨ (v = some (vI 1) ∧ P2C hb D n G f o g h'))) 0 0 19 [(0, some (vR (some 109))), (1, some (vI v9))] [] hz := by
  have loop : ∀ (m : Nat) (c : Nat) (p : PT) (hz : HP) (v9 : Int32), txP bt l D n f G g q (m + 1) p c → ((v9 = 0 ∧ P2S hb D n G f o (c + 1) hz) ∨ (v9 = 1 ∧ P2C hb D n G f o g hz)) → PsM hz (false, (itF bt l D n G c f p).2) → TkI bt l (itF bt l D n G c f p).2 → Sf scX hb hz → Ev X mX9_isTextClashing 28 0 0 (fun v h' => hI h' 109 18 = 0 ∧ ((v = some (vI 0) ∧ P2S hb D n G f o g h') ∨ (v = some (vI 1) ∧ P2C hb D n G f o g h'))) 0 0 19 [(0, some (vR (some 109))), (1, some (vI v9))] [] hz := by
    intro m
    induction m with
    | zero =>
      intro c p hz v9 hx hv ps1 tk1 S1
      have F := S1.F Fb
      have t := tb.sf S1 (by unfold scX scW; omega) (fun i => by unfold scX scW; omega) (fun i => by unfold scX scW; omega)
      refine e_iload_n aX9_isTextClashing_19 rfl ?_
      refine e_if_ne aX9_isTextClashing_20 (fun c20 => ?_) (fun c20 => ?_)
      · -- 20: taken
        obtain ⟨z1, z2⟩ := hv.resolve_left (fun z => c20 z.1)
        refine ev_w2 X F t ps1 tk1 (Or.inl z1) ⟨wI_s, Or.inr ⟨by rw [z1], z2.sf ((Sf.rf hz).wI ⟨rfl, Or.inr (Or.inr rfl)⟩)⟩⟩
      · -- 20: not taken
        obtain ⟨z1, z2⟩ := hv.resolve_right (fun z => absurd (c20.symm.trans z.1) (by decide))
        refine e_aload_n aX9_isTextClashing_23 rfl ?_
        refine e_bipush (v := 59) aX9_isTextClashing_24 (by decide) ?_
        refine e_invvT aX9_isTextClashing_26 kX9_300 (zsg X F t ps1 tk1 (u := (false, (itF bt l D n G c f p).2)) (i9 := 17) (x := 59) (by decide +kernel) sCh_v.2.2 (by decide)) rfl rfl (fx_is F rfl) (Nat.le_of_ble_eq_true rfl) (Nat.le_of_ble_eq_true rfl) (Nat.le_refl _) (Nat.le_refl _) (Nat.le_of_ble_eq_true rfl) ?_
        refine e_if_eq aX9_isTextClashing_29 (fun c29 => ?_) (fun c29 => ?_)
        · -- 29: taken
          have q29 := b2_0.mp c29
          obtain ⟨-, y2⟩ := hx
          rcases y2 with ⟨y2, -⟩ | ⟨y2, y3, y4⟩
          · exact absurd y2 q29
          · refine ev_w2 X F t ps1 tk1 (Or.inr ⟨z1, by rw [← y4]; exact hq9⟩) ⟨wI_s, Or.inl ⟨by rw [z1], y3 ▸ z2.sf ((Sf.rf hz).wI ⟨rfl, Or.inr (Or.inr rfl)⟩)⟩⟩
        · -- 29: not taken
          have q29 := Decidable.of_not_not (fun z => c29 (b2_0.mpr z))
          have q9 : tkQ bt (itF bt l D n G c f p).2 17 = true := q29
          obtain ⟨-, y2⟩ := hx
          obtain ⟨-, y2⟩ := y2.resolve_right (fun z => z.1 q9)
          exact y2.elim
    | succ m ih =>
      intro c p hz v9 hx hv ps1 tk1 S1
      have F := S1.F Fb
      have t := tb.sf S1 (by unfold scX scW; omega) (fun i => by unfold scX scW; omega) (fun i => by unfold scX scW; omega)
      refine e_iload_n aX9_isTextClashing_19 rfl ?_
      refine e_if_ne aX9_isTextClashing_20 (fun c20 => ?_) (fun c20 => ?_)
      · -- 20: taken
        obtain ⟨z1, z2⟩ := hv.resolve_left (fun z => c20 z.1)
        refine ev_w2 X F t ps1 tk1 (Or.inl z1) ⟨wI_s, Or.inr ⟨by rw [z1], z2.sf ((Sf.rf hz).wI ⟨rfl, Or.inr (Or.inr rfl)⟩)⟩⟩
      · -- 20: not taken
        obtain ⟨z1, z2⟩ := hv.resolve_right (fun z => absurd (c20.symm.trans z.1) (by decide))
        refine e_aload_n aX9_isTextClashing_23 rfl ?_
        refine e_bipush (v := 59) aX9_isTextClashing_24 (by decide) ?_
        refine e_invvT aX9_isTextClashing_26 kX9_300 (zsg X F t ps1 tk1 (u := (false, (itF bt l D n G c f p).2)) (i9 := 17) (x := 59) (by decide +kernel) sCh_v.2.2 (by decide)) rfl rfl (fx_is F rfl) (Nat.le_of_ble_eq_true rfl) (Nat.le_of_ble_eq_true rfl) (Nat.le_refl _) (Nat.le_refl _) (Nat.le_of_ble_eq_true rfl) ?_
        refine e_if_eq aX9_isTextClashing_29 (fun c29 => ?_) (fun c29 => ?_)
        · -- 29: taken
          have q29 := b2_0.mp c29
          obtain ⟨-, y2⟩ := hx
          rcases y2 with ⟨y2, -⟩ | ⟨y2, y3, y4⟩
          · exact absurd y2 q29
          · refine ev_w2 X F t ps1 tk1 (Or.inr ⟨z1, by rw [← y4]; exact hq9⟩) ⟨wI_s, Or.inl ⟨by rw [z1], y3 ▸ z2.sf ((Sf.rf hz).wI ⟨rfl, Or.inr (Or.inr rfl)⟩)⟩⟩
        · -- 29: not taken
          have q29 := Decidable.of_not_not (fun z => c29 (b2_0.mpr z))
          have q9 : tkQ bt (itF bt l D n G c f p).2 17 = true := q29
          obtain ⟨-, y2⟩ := hx
          obtain ⟨-, y2⟩ := y2.resolve_right (fun z => z.1 q9)
          have hle := txP_le _ _ _ y2
          refine e_aload_n aX9_isTextClashing_32 rfl ?_
          refine e_invv aX9_isTextClashing_33 kX9_278 (zX9_token X F t (p := (itF bt l D n G c f p).2) ps1.2.1 tk1.1.2) rfl rfl (fx_is F rfl) (Nat.le_of_ble_eq_true rfl) (Nat.le_of_ble_eq_true rfl) (Nat.le_refl _) (Nat.le_refl _) (Nat.le_of_ble_eq_true rfl) ?_
          rintro v h2 ⟨rfl, S2, e15, e16⟩
          have F := S2.F F
          have ps2 : PsM h2 (false, nxT bt l (itF bt l D n G c f p).2) := ⟨e15, e16, (S2.2 _ _ (by unfold scQ; omega)).trans ps1.2.2⟩
          have A2 := z2.sf S2.QP
          have H2 := ItH.go2 Fb tb hps mf (by omega) A2
          refine e_aload_n aX9_isTextClashing_36 rfl ?_
          refine e_invv aX9_isTextClashing_37 kX9_337 (zX9_isItemClashing X H2 ps2 (TkI_n tk1.1.2)) rfl rfl (fx_is F rfl) (Nat.le_of_ble_eq_true rfl) (Nat.le_of_ble_eq_true rfl) (Nat.le_refl _) (Nat.le_refl _) (Nat.le_of_ble_eq_true rfl) ?_
          rintro v h3 H3
          obtain ⟨v3, rfl, hv3, ps3, tk3, S3⟩ := la_step A2 hle.1 (riQ_2 (txP_1 y2) H3)
          have F := S3.F Fb
          refine e_istore_n aX9_isTextClashing_40 (Nat.le_of_ble_eq_true rfl) ?_
          refine e_goto aX9_isTextClashing_41 ?_
          refine e_ls (ls' := [(0, some (vR (some 109))), (1, some (vI v3))]) ⟨rfl, rfl, trivial⟩ ?_
          exact ih (c + 1) (nxT bt l (itF bt l D n G c f p).2) h3 v3 y2 hv3 ps3 tk3 S3
  exact loop
theorem MkD.cj {h : HP} {n : Nat} {D G : Nat → DD} (md : MkD h n D) : MkD h (n + 0) (jnD D n G) := ⟨md.1, md.2.1, fun k hk => by
  have e : jnD D n G k = D k := if_pos hk
  rw [e]
  exact md.2.2 k hk⟩
theorem MkD.dj {h : HP} {n m : Nat} {D G : Nat → DD} (md : MkD h (n + m) (jnD D n G)) : ∀ k, k < n → MdC h k (D k) := fun k hk => by
  have e : jnD D n G k = D k := if_pos hk
  rw [← e]
  exact md.2.2 k (by omega)
theorem zX9_isText2 (X : EX) {hb : HP} {bt : Nat → Int32} {l n f g : Nat} {D G : Nat → DD} {o : Nat → Nat} {q : PT} (Fb : Fx hb) (tb : TbM hb l bt) (md : MkD hb n D) (hw : hI hb 109 18 = 0) (hps : hI hb 109 19 = 1) (mf : MkF hb f o) (hq9 : l ≤ q.1) (hx : txP bt l D n f G g q 13 (nxT bt l (0, 0)) 0) : Ct X mX9_isTextClashing 28 0 0 [vR (some 109)] hb (fun v h' => hI h' 109 18 = 0 ∧ ((v = some (vI 0) ∧ P2S hb D n G f o g h') ∨ (v = some (vI 1) ∧ P2C hb D n G f o g h'))) := by
  refine ct_of rfl (Nat.le_of_ble_eq_true rfl) ?_
  have F := Fb
  refine e_aload_n aX9_isTextClashing_0 rfl ?_
  refine e_iconst (v := 0) aX9_isTextClashing_1 (by decide) ?_
  refine e_putI aX9_isTextClashing_2 fX9_259 rfl (fx_is F rfl) (Or.inl rfl) ?_
  refine e_aload_n aX9_isTextClashing_5 rfl ?_
  refine e_iconst (v := 0) aX9_isTextClashing_6 (by decide) ?_
  refine e_putI aX9_isTextClashing_7 fX9_319 rfl (fx_is F rfl) (Or.inl rfl) ?_
  have S01 : Sf scX hb (wI (wI hb 109 16 0) 109 20 0) := ((Sf.rf hb).wI (Or.inl (by unfold scW; omega))).wI (Or.inr ⟨rfl, rfl⟩)
  have t1 : TbM (wI (wI hb 109 16 0) 109 20 0) l bt := tb.sf S01 (by unfold scX scW; omega) (fun i => by unfold scX scW; omega) (fun i => by unfold scX scW; omega)
  have e0 : hI (wI (wI hb 109 16 0) 109 20 0) 109 16 = nI ((0, 0) : PT).2 := (wI_i (by decide)).trans wI_s
  have A1 : P2S hb D n G f o 0 (wI (wI hb 109 16 0) 109 20 0) := ⟨S01, (MkD.cj md).keep ((wI_i (by decide)).trans ((wI_i (by decide)).trans md.1)) (fun i _ => (wI_a (by decide)).trans (wI_a (by decide))) (fun i _ => (wI_a (by decide)).trans (wI_a (by decide))), wI_s, (wI_i (by decide)).trans ((wI_i (by decide)).trans (Int32.add_zero _).symm), fun i _ => (wI_a (by decide)).trans (wI_a (by decide)), fun i hi => absurd hi (Nat.not_lt_zero _), fun i => (wI_a (by decide)).trans (wI_a (by decide)), fun i hi => absurd hi (Nat.not_lt_zero _)⟩
  have hle := txP_le _ _ _ hx
  refine e_aload_n aX9_isTextClashing_10 rfl ?_
  refine e_invv aX9_isTextClashing_11 kX9_278 (zX9_token X (h0 := (wI (wI hb 109 16 0) 109 20 0)) F t1 (p := (0, 0)) e0 (Nat.zero_le _)) rfl rfl (fx_is F rfl) (Nat.le_of_ble_eq_true rfl) (Nat.le_of_ble_eq_true rfl) (Nat.le_refl _) (Nat.le_refl _) (Nat.le_of_ble_eq_true rfl) ?_
  rintro v h2 ⟨rfl, S2, e15, e16⟩
  have F := S2.F F
  have ps2 : PsM h2 (false, nxT bt l (0, 0)) := ⟨e15, e16, (S2.2 _ _ (by unfold scQ; omega)).trans ((wI_i (by decide)).trans ((wI_i (by decide)).trans hw))⟩
  have A2 := A1.sf S2.QP
  have H2 := ItH.go2 Fb tb hps mf md.2.1 A2
  refine e_aload_n aX9_isTextClashing_14 rfl ?_
  refine e_invv aX9_isTextClashing_15 kX9_337 (zX9_isItemClashing X H2 ps2 (TkI_n (Nat.zero_le _))) rfl rfl (fx_is F rfl) (Nat.le_of_ble_eq_true rfl) (Nat.le_of_ble_eq_true rfl) (Nat.le_refl _) (Nat.le_refl _) (Nat.le_of_ble_eq_true rfl) ?_
  rintro v h3 H3
  obtain ⟨v3, rfl, hv3, ps3, tk3, S3⟩ := la_step A2 hle.1 (riQ_2 (txP_1 hx) H3)
  have F := S3.F Fb
  refine e_istore_n aX9_isTextClashing_18 (Nat.le_of_ble_eq_true rfl) ?_
  refine e_ls (ls' := [(0, some (vR (some 109))), (1, some (vI v3))]) ⟨rfl, rfl, trivial⟩ ?_
  exact ev_p2 X Fb tb hps mf hq9 12 0 (nxT bt l (0, 0)) h3 v3 hx hv3 ps3 tk3 S3
