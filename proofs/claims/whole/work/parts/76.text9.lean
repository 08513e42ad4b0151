/-! the reference: all items of a TEXT, read and come true (written by wip/whole/g76.py) -/
/-- the parts depend on the deals that came alone -/
theorem ldE_E {D E G : Nat → DD} {n c : Nat} {x : Int32} (hc : c ≤ 12) (h : ∀ k, k < c → E k = G k) : ldE D n E c x = ldE D n G c x := by
  unfold ldE
  split
  · rfl
  · unfold dlE
    split
    · rfl
    · rename_i z
      refine congrArg some (h _ ?_)
      have z1 : ¬ x - nI n < 0 := fun y => z (Or.inl y)
      obtain ⟨j, hj, e⟩ := nI_of z1
      rw [e] at z ⊢
      rw [nI_clamp hj]
      exact Nat.not_le.mp (fun y => z (Or.inr (nI_le y hj)))
theorem bsF_E {bt : Nat → Int32} {l n c : Nat} {D E G : Nat → DD} (hc : c ≤ 12) (h : ∀ k, k < c → E k = G k) : bsF bt l D n E c = bsF bt l D n G c := by
  funext p
  have e : lpR bt l D n E c = lpR bt l D n G c := funext fun p => by
    unfold lpR
    rw [ldE_E hc h]
  unfold bsF
  rw [e]
theorem oneF_E {bt : Nat → Int32} {l n c : Nat} {D E G : Nat → DD} (hc : c ≤ 12) (h : ∀ k, k < c → E k = G k) : ∀ k, oneF bt l D n E c k = oneF bt l D n G c k := by
  intro k
  induction k with
  | zero => exact bsF_E hc h
  | succ k ih =>
    funext p
    rw [oneF_s, oneF_s, ih, bsF_E hc h]
theorem itF_E {bt : Nat → Int32} {l n c f : Nat} {D E G : Nat → DD} {p : PT} (hc : c ≤ 12) (h : ∀ k, k < c → E k = G k) : itF bt l D n E c f p = itF bt l D n G c f p := by
  unfold itF it1 it2 it3 it4 it5 it6
  rw [oneF_E hc h 6]
theorem itF_lt {bt : Nat → Int32} {l n c f : Nat} {D E : Nat → DD} {p : PT} {d : DD} (h : (itF bt l D n E c f p).1 = some d) : n + c < 12 := by
  unfold itF at h
  by_cases z : 12 ≤ n + c
  · rw [if_pos z] at h
    cases h
  · omega
/-- all items -/
def txF (bt : Nat → Int32) (l : Nat) (D : Nat → DD) (n f : Nat) : Nat → PT → Nat → (Nat → DD) → Option (Nat × (Nat → DD)) × PT
  | 0, p, _, _ => (none, p)
  | m + 1, p, c, E => match (itF bt l D n E c f p).1 with
    | none => (none, (itF bt l D n E c f p).2)
    | some d => if tkQ bt (itF bt l D n E c f p).2 17 = true then txF bt l D n f m (nxT bt l (itF bt l D n E c f p).2) (c + 1) (upD E c d) else (some (c + 1, upD E c d), (itF bt l D n E c f p).2)
theorem txF_n {bt : Nat → Int32} {l n c f m : Nat} {D E : Nat → DD} {p : PT} (h : (itF bt l D n E c f p).1 = none) : txF bt l D n f (m + 1) p c E = (none, (itF bt l D n E c f p).2) := by
  show (match (itF bt l D n E c f p).1 with
    | none => (none, (itF bt l D n E c f p).2)
    | some d => if tkQ bt (itF bt l D n E c f p).2 17 = true then txF bt l D n f m (nxT bt l (itF bt l D n E c f p).2) (c + 1) (upD E c d) else (some (c + 1, upD E c d), (itF bt l D n E c f p).2)) = _
  rw [h]
theorem txF_d {bt : Nat → Int32} {l n c f m : Nat} {D E : Nat → DD} {p : PT} {d : DD} (h : (itF bt l D n E c f p).1 = some d) : txF bt l D n f (m + 1) p c E = if tkQ bt (itF bt l D n E c f p).2 17 = true then txF bt l D n f m (nxT bt l (itF bt l D n E c f p).2) (c + 1) (upD E c d) else (some (c + 1, upD E c d), (itF bt l D n E c f p).2) := by
  show (match (itF bt l D n E c f p).1 with
    | none => (none, (itF bt l D n E c f p).2)
    | some d => if tkQ bt (itF bt l D n E c f p).2 17 = true then txF bt l D n f m (nxT bt l (itF bt l D n E c f p).2) (c + 1) (upD E c d) else (some (c + 1, upD E c d), (itF bt l D n E c f p).2)) = _
  rw [h]
/-- all items are those of G, g of them, the last one ends at q -/
def txP (bt : Nat → Int32) (l : Nat) (D : Nat → DD) (n f : Nat) (G : Nat → DD) (g : Nat) (q : PT) : Nat → PT → Nat → Prop
  | 0, _, _ => False
  | m + 1, p, c => (itF bt l D n G c f p).1 = some (G c) ∧ ((tkQ bt (itF bt l D n G c f p).2 17 = true ∧ txP bt l D n f G g q m (nxT bt l (itF bt l D n G c f p).2) (c + 1)) ∨ (¬ tkQ bt (itF bt l D n G c f p).2 17 = true ∧ g = c + 1 ∧ q = (itF bt l D n G c f p).2))
theorem txF_P {bt : Nat → Int32} {l n f g : Nat} {D G : Nat → DD} {q : PT} : ∀ m p c E, txF bt l D n f m p c E = (some (g, G), q) → (∀ k, k < c → E k = G k) ∧ txP bt l D n f G g q m p c := by
  intro m
  induction m with
  | zero =>
    intro p c E h
    cases h
  | succ m ih =>
    intro p c E h
    rcases e : (itF bt l D n E c f p).1 with _ | d
    · rw [txF_n e] at h
      cases h
    · have hl := itF_lt e
      rw [txF_d e] at h
      by_cases z : tkQ bt (itF bt l D n E c f p).2 17 = true
      · rw [if_pos z] at h
        obtain ⟨h1, h2⟩ := ih _ _ _ h
        have hE : ∀ k, k < c → E k = G k := fun k hk => by
          have := h1 k (by omega)
          rw [upD_o (by omega)] at this
          exact this
        have hd : G c = d := by
          have := h1 c (by omega)
          rw [upD_s] at this
          exact this.symm
        refine ⟨hE, ?_⟩
        rw [itF_E (by omega) hE] at e z h2
        exact ⟨by rw [e, hd], Or.inl ⟨z, h2⟩⟩
      · rw [if_neg z] at h
        injection h with h1 h2
        injection h1 with h1
        injection h1 with h1 h3
        have hE : ∀ k, k < c → E k = G k := fun k hk => by rw [← h3, upD_o (by omega)]
        have hd : G c = d := by rw [← h3, upD_s]
        refine ⟨hE, ?_⟩
        rw [itF_E (by omega) hE] at e z h2
        exact ⟨by rw [e, hd], Or.inr ⟨z, h1.symm, h2.symm⟩⟩
theorem txP_le {bt : Nat → Int32} {l n f g : Nat} {D G : Nat → DD} {q : PT} : ∀ m p c, txP bt l D n f G g q m p c → c < g ∧ n + g ≤ 12 := by
  intro m
  induction m with
  | zero => intro p c h; exact h.elim
  | succ m ih =>
    intro p c h
    have hl := itF_lt h.1
    rcases h.2 with ⟨_, h2⟩ | ⟨_, h2, _⟩
    · have := ih _ _ h2
      omega
    · omega
theorem jnD_u {D G : Nat → DD} {n c : Nat} : upD (jnD D n G) (n + c) (G c) = (jnD D n G) := by
  funext k
  unfold upD
  by_cases z : k = n + c
  · rw [if_pos z, z]
    unfold jnD
    rw [if_neg (by omega), Nat.add_sub_cancel_left]
  · rw [if_neg z]
/-- where a reading ends, and whether it went wrong -/
def rsW (l : Nat) (r : Option (Nat × (Nat → DD)) × PT) : Bool := r.1.isNone || decide (r.2.1 < l)
theorem ItH.tok {bt : Nat → Int32} {l n c f : Nat} {D E : Nat → DD} {o : Nat → Nat} {h0 h h2 : HP} (H : ItH h0 bt l n c D E f o false) (S : Sf scT h0 h) (S2 : Sf scQ h h2) (E2 : Nat → DD) {c2 : Nat} (hc : n + c2 ≤ 12) (hf : ∃ a b, hI h0 109 4 = nI a ∧ hI h 109 20 = nI b ∧ a + b = n + c2) : ItH h2 bt l n c2 D E2 f o false := by
  obtain ⟨F0, t0, -, -, hps, -, mf⟩ := H
  obtain ⟨a, b, ha, hb, hab⟩ := hf
  have S3 : Sf scT h0 h2 := S.tr (S2.QF.FT)
  exact ⟨S3.F F0, t0.sf S3 (by unfold scT scF; omega) (fun i => by unfold scT scF; omega) (fun i => by unfold scT scF; omega), hc, ⟨a, b, (S3.2 _ _ (by unfold scT scF; omega)).trans ha, (S2.2 _ _ (by unfold scQ; omega)).trans hb, hab⟩, (S3.2 _ _ (by unfold scT scF; omega)).trans hps, fun z => Bool.noConfusion z, mf.sf S3 (by unfold scT scF; omega) (fun y => by unfold scT scF; omega)⟩
theorem riQ_1 {bt : Nat → Int32} {l n c f : Nat} {D E : Nat → DD} {o : Nat → Nat} {h0 h' : HP} {r : IR} {v : Option VV} (H : riQ bt l n c D E f o false h0 r v h') : v = some (vI 0) ∧ Sf scT h0 h' ∧ PsM h' (r.1.isNone, r.2) ∧ TkI bt l r.2 ∧ hI h' 109 20 = hI h0 109 20 + 1 := by
  unfold riQ at H
  rw [if_neg (fun z => Bool.noConfusion z.2)] at H
  exact H
theorem ev_w1 (X : EX) {h0 h : HP} {bt : Nat → Int32} {l : Nat} (F0 : Fx h0) (t0 : TbM h0 l bt) (S1 : Sf scT h0 h) {w1 : Bool} {p1 : PT} (ps1 : PsM h (w1, p1)) (tk1 : TkI bt l p1) {r : Option (Nat × (Nat → DD)) × PT} (hr : (w1 || decide (p1.1 < l), p1) = (rsW l r, r.2)) : Ev X mX9_isTextClashing 28 0 0 (fun v h' => v = some (vI 0) ∧ Sf scT h0 h' ∧ PsM h' (rsW l r, r.2)) 0 0 44 [(0, some (vR (some 109))), (1, some (vI 0))] [] h := by
  have F := S1.F F0
  have t := t0.sf S1 (by unfold scT scF; omega) (fun i => by unfold scT scF; omega) (fun i => by unfold scT scF; omega)
  refine e_aload_n aX9_isTextClashing_44 rfl ?_
  refine e_aload_n aX9_isTextClashing_45 rfl ?_
  refine e_getIF aX9_isTextClashing_46 fX9_274 rfl (fx_is F rfl) ps1.2.2 ?_
  refine e_if_ne aX9_isTextClashing_49 (fun c49 => ?_) (fun c49 => ?_)
  · -- 49: taken
    have q49 : w1 = true := Decidable.of_not_not (fun z => c49 (b2_f z))
    refine e_iconst (v := 1) aX9_isTextClashing_67 (by decide) ?_
    refine e_goto aX9_isTextClashing_68 ?_
    refine e_putZ aX9_isTextClashing_72 fX9_274 rfl (fx_is F rfl) (Or.inl rfl) (by decide) ?_
    refine e_iload_n aX9_isTextClashing_75 rfl ?_
    refine e_zreturn aX9_isTextClashing_76 rfl (Or.inl rfl) (Nat.le_refl _) (Nat.le_refl _) ?_
    have e9 : (w1 || decide (p1.1 < l)) = true := by rw [q49]; rfl
    rw [← hr]
    refine ⟨rfl, S1.wI (Or.inl (Or.inr ⟨rfl, by omega⟩)), (wI_i (by decide)).trans ps1.1, (wI_i (by decide)).trans ps1.2.1, wI_s.trans ?_⟩
    show _ = b2 ((w1 || decide (p1.1 < l)) = true)
    rw [e9]
    decide
  · -- 49: not taken
    have q49 : ¬ w1 = true := b2_0.mp c49
    refine e_iload_n aX9_isTextClashing_52 rfl ?_
    refine e_if_ne aX9_isTextClashing_53 (fun c53 => absurd c53 (by decide)) (fun c53 => ?_)
    refine e_aload_n aX9_isTextClashing_56 rfl ?_
    refine e_getIF aX9_isTextClashing_57 fX9_262 rfl (fx_is F rfl) ps1.1 ?_
    refine e_aload_n aX9_isTextClashing_60 rfl ?_
    refine e_getIF aX9_isTextClashing_61 fX9_248 rfl (fx_is F rfl) t.1 ?_
    refine e_icmp_ge aX9_isTextClashing_64 (fun c64 => ?_) (fun c64 => ?_)
    · -- 64: taken
      have q64 : ¬ p1.1 < l := fun z => absurd c64 (nI_ge z (by have := t.2.1; omega))
      refine e_iconst (v := 0) aX9_isTextClashing_71 (by decide) ?_
      refine e_putZ aX9_isTextClashing_72 fX9_274 rfl (fx_is F rfl) (Or.inl rfl) (by decide) ?_
      refine e_iload_n aX9_isTextClashing_75 rfl ?_
      refine e_zreturn aX9_isTextClashing_76 rfl (Or.inl rfl) (Nat.le_refl _) (Nat.le_refl _) ?_
      have e9 : (w1 || decide (p1.1 < l)) = false := by rw [Bool.eq_false_iff.mpr q49, decide_eq_false q64]; rfl
      rw [← hr]
      refine ⟨rfl, S1.wI (Or.inl (Or.inr ⟨rfl, by omega⟩)), (wI_i (by decide)).trans ps1.1, (wI_i (by decide)).trans ps1.2.1, wI_s.trans ?_⟩
      show _ = b2 ((w1 || decide (p1.1 < l)) = true)
      rw [e9]
      decide
    · -- 64: not taken
      have q64 : p1.1 < l := Nat.not_le.mp (fun z => c64 (nI_le (b := p1.1) z (by have x1 : p1.1 ≤ p1.2 := tk1.1.1; have x2 : p1.2 ≤ l := tk1.1.2; have := t.2.1; omega)))
      refine e_iconst (v := 1) aX9_isTextClashing_67 (by decide) ?_
      refine e_goto aX9_isTextClashing_68 ?_
      refine e_putZ aX9_isTextClashing_72 fX9_274 rfl (fx_is F rfl) (Or.inl rfl) (by decide) ?_
      refine e_iload_n aX9_isTextClashing_75 rfl ?_
      refine e_zreturn aX9_isTextClashing_76 rfl (Or.inl rfl) (Nat.le_refl _) (Nat.le_refl _) ?_
      have e9 : (w1 || decide (p1.1 < l)) = true := by rw [decide_eq_true q64, Bool.or_true]
      rw [← hr]
      refine ⟨rfl, S1.wI (Or.inl (Or.inr ⟨rfl, by omega⟩)), (wI_i (by decide)).trans ps1.1, (wI_i (by decide)).trans ps1.2.1, wI_s.trans ?_⟩
      show _ = b2 ((w1 || decide (p1.1 < l)) = true)
      rw [e9]
      decide
theorem ev_p1 (X : EX) {h0 : HP} {bt : Nat → Int32} {l n f : Nat} {D E0 : Nat → DD} {o : Nat → Nat} (H0 : ItH h0 bt l n 0 D E0 f o false) (hm : hI h0 109 4 = nI n) {hb : HP} (Fb : Fx hb) (tb : TbM hb l bt) (Sb : Sf scT hb h0) {R : Option (Nat × (Nat → DD)) × PT} : ∀ (m c : Nat) (E : Nat → DD) (p : PT) (hz : HP), c + m = 12 → Sf scT h0 hz → PsM hz ((itF bt l D n E c f p).1.isNone, (itF bt l D n E c f p).2) → TkI bt l (itF bt l D n E c f p).2 → hI hz 109 20 = nI (c + 1) → txF bt l D n f (m + 1) p c E = R → Ev X mX9_isTextClashing 28 0 0 (fun v h' => v = some (vI 0) ∧ Sf scT hb h' ∧ PsM h' (rsW l R, R.2)) 0 0 19 [(0, some (vR (some 109))), (1, some (vI 0))] [] hz := by
  have F0 := H0.1
  have t0 := H0.2.1
  have loop : ∀ (m : Nat) (c : Nat) (E : Nat → DD) (p : PT) (hz : HP), c + m = 12 → Sf scT h0 hz → PsM hz ((itF bt l D n E c f p).1.isNone, (itF bt l D n E c f p).2) → TkI bt l (itF bt l D n E c f p).2 → hI hz 109 20 = nI (c + 1) → txF bt l D n f (m + 1) p c E = R → Ev X mX9_isTextClashing 28 0 0 (fun v h' => v = some (vI 0) ∧ Sf scT hb h' ∧ PsM h' (rsW l R, R.2)) 0 0 19 [(0, some (vR (some 109))), (1, some (vI 0))] [] hz := by
    intro m
    induction m with
    | zero =>
      intro c E p hz hk S1 ps1 tk1 hf hR
      have F := S1.F F0
      have t := t0.sf S1 (by unfold scT scF; omega) (fun i => by unfold scT scF; omega) (fun i => by unfold scT scF; omega)
      refine e_iload_n aX9_isTextClashing_19 rfl ?_
      refine e_if_ne aX9_isTextClashing_20 (fun c20 => absurd c20 (by decide)) (fun c20 => ?_)
      refine e_aload_n aX9_isTextClashing_23 rfl ?_
      refine e_bipush (v := 59) aX9_isTextClashing_24 (by decide) ?_
      refine e_invvT aX9_isTextClashing_26 kX9_300 (zsg X F t ps1 tk1 (u := ((itF bt l D n E c f p).1.isNone, (itF bt l D n E c f p).2)) (i9 := 17) (x := 59) (by decide +kernel) sCh_v.2.2 (by decide)) rfl rfl (fx_is F rfl) (Nat.le_of_ble_eq_true rfl) (Nat.le_of_ble_eq_true rfl) (Nat.le_refl _) (Nat.le_refl _) (Nat.le_of_ble_eq_true rfl) ?_
      refine e_if_eq aX9_isTextClashing_29 (fun c29 => ?_) (fun c29 => ?_)
      · -- 29: taken
        have q29 := b2_0.mp c29
        refine ev_w1 X Fb tb (Sb.tr S1) ps1 tk1 ?_
        rw [← hR]
        rcases e9 : (itF bt l D n E c f p).1 with _ | d
        · rw [txF_n e9]
          rfl
        · rw [e9] at q29
          rw [txF_d e9, if_neg (show ¬ tkQ bt (itF bt l D n E c f p).2 17 = true from q29)]
          rfl
      · -- 29: not taken
        have q29 := Decidable.of_not_not (fun z => c29 (b2_0.mpr z))
        obtain ⟨d, e9⟩ : ∃ d, (itF bt l D n E c f p).1 = some d := by
          rcases e9 : (itF bt l D n E c f p).1 with _ | d
          · rw [e9] at q29
            exact absurd q29 (by intro y; exact Bool.noConfusion y)
          · exact ⟨d, rfl⟩
        rw [e9] at q29 ps1
        have q9 : tkQ bt (itF bt l D n E c f p).2 17 = true := q29
        have hlt := itF_lt e9
        exact absurd hlt (by omega)
    | succ m ih =>
      intro c E p hz hk S1 ps1 tk1 hf hR
      have F := S1.F F0
      have t := t0.sf S1 (by unfold scT scF; omega) (fun i => by unfold scT scF; omega) (fun i => by unfold scT scF; omega)
      refine e_iload_n aX9_isTextClashing_19 rfl ?_
      refine e_if_ne aX9_isTextClashing_20 (fun c20 => absurd c20 (by decide)) (fun c20 => ?_)
      refine e_aload_n aX9_isTextClashing_23 rfl ?_
      refine e_bipush (v := 59) aX9_isTextClashing_24 (by decide) ?_
      refine e_invvT aX9_isTextClashing_26 kX9_300 (zsg X F t ps1 tk1 (u := ((itF bt l D n E c f p).1.isNone, (itF bt l D n E c f p).2)) (i9 := 17) (x := 59) (by decide +kernel) sCh_v.2.2 (by decide)) rfl rfl (fx_is F rfl) (Nat.le_of_ble_eq_true rfl) (Nat.le_of_ble_eq_true rfl) (Nat.le_refl _) (Nat.le_refl _) (Nat.le_of_ble_eq_true rfl) ?_
      refine e_if_eq aX9_isTextClashing_29 (fun c29 => ?_) (fun c29 => ?_)
      · -- 29: taken
        have q29 := b2_0.mp c29
        refine ev_w1 X Fb tb (Sb.tr S1) ps1 tk1 ?_
        rw [← hR]
        rcases e9 : (itF bt l D n E c f p).1 with _ | d
        · rw [txF_n e9]
          rfl
        · rw [e9] at q29
          rw [txF_d e9, if_neg (show ¬ tkQ bt (itF bt l D n E c f p).2 17 = true from q29)]
          rfl
      · -- 29: not taken
        have q29 := Decidable.of_not_not (fun z => c29 (b2_0.mpr z))
        obtain ⟨d, e9⟩ : ∃ d, (itF bt l D n E c f p).1 = some d := by
          rcases e9 : (itF bt l D n E c f p).1 with _ | d
          · rw [e9] at q29
            exact absurd q29 (by intro y; exact Bool.noConfusion y)
          · exact ⟨d, rfl⟩
        rw [e9] at q29 ps1
        have q9 : tkQ bt (itF bt l D n E c f p).2 17 = true := q29
        have hlt := itF_lt e9
        refine e_aload_n aX9_isTextClashing_32 rfl ?_
        refine e_invv aX9_isTextClashing_33 kX9_278 (zX9_token X F t (p := (itF bt l D n E c f p).2) ps1.2.1 tk1.1.2) rfl rfl (fx_is F rfl) (Nat.le_of_ble_eq_true rfl) (Nat.le_of_ble_eq_true rfl) (Nat.le_refl _) (Nat.le_refl _) (Nat.le_of_ble_eq_true rfl) ?_
        rintro v h2 ⟨rfl, S2, e15, e16⟩
        have F := S2.F F
        have ps2 : PsM h2 (false, nxT bt l (itF bt l D n E c f p).2) := ⟨e15, e16, (S2.2 _ _ (by unfold scQ; omega)).trans ps1.2.2⟩
        have H2 := H0.tok S1 S2 (upD E c d) (c2 := c + 1) (by omega) ⟨n, c + 1, hm, hf, by omega⟩
        refine e_aload_n aX9_isTextClashing_36 rfl ?_
        refine e_invv aX9_isTextClashing_37 kX9_337 (zX9_isItemClashing X H2 ps2 (TkI_n tk1.1.2)) rfl rfl (fx_is F rfl) (Nat.le_of_ble_eq_true rfl) (Nat.le_of_ble_eq_true rfl) (Nat.le_refl _) (Nat.le_refl _) (Nat.le_of_ble_eq_true rfl) ?_
        rintro v h3 H3
        obtain ⟨rfl, S3, ps3, tk3, f3⟩ := riQ_1 H3
        have F := S3.F F
        refine e_istore_n aX9_isTextClashing_40 (Nat.le_of_ble_eq_true rfl) ?_
        refine e_goto aX9_isTextClashing_41 ?_
        refine e_ls (ls' := [(0, some (vR (some 109))), (1, some (vI 0))]) ⟨rfl, rfl, trivial⟩ ?_
        refine ih (c + 1) (upD E c d) (nxT bt l (itF bt l D n E c f p).2) h3 (by omega) ((S1.tr S2.QF.FT).tr S3) ps3 tk3 ?_ ?_
        · rw [f3, S2.2 _ _ (by unfold scQ; omega), hf]
          exact nI_1 (c + 1)
        · rw [← hR, txF_d e9, if_pos q9]
  exact loop
theorem zX9_isText1 (X : EX) {h0 : HP} (F0 : Fx h0) {bt : Nat → Int32} {l n f : Nat} {D E : Nat → DD} {o : Nat → Nat} (t0 : TbM h0 l bt) (hn : n ≤ 12) (hm : hI h0 109 4 = nI n) (hw : hI h0 109 18 = 0) (hps : hI h0 109 19 = 0) (mf : MkF h0 f o) : Ct X mX9_isTextClashing 28 0 0 [vR (some 109)] h0 (fun v h' => v = some (vI 0) ∧ Sf scT h0 h' ∧ PsM h' (rsW l (txF bt l D n f 13 (nxT bt l (0, 0)) 0 E), (txF bt l D n f 13 (nxT bt l (0, 0)) 0 E).2)) := by
  refine ct_of rfl (Nat.le_of_ble_eq_true rfl) ?_
  have F := F0
  refine e_aload_n aX9_isTextClashing_0 rfl ?_
  refine e_iconst (v := 0) aX9_isTextClashing_1 (by decide) ?_
  refine e_putI aX9_isTextClashing_2 fX9_259 rfl (fx_is F rfl) (Or.inl rfl) ?_
  refine e_aload_n aX9_isTextClashing_5 rfl ?_
  refine e_iconst (v := 0) aX9_isTextClashing_6 (by decide) ?_
  refine e_putI aX9_isTextClashing_7 fX9_319 rfl (fx_is F rfl) (Or.inl rfl) ?_
  have S01 : Sf scT h0 (wI (wI h0 109 16 0) 109 20 0) := ((Sf.rf h0).wI (Or.inl (Or.inr ⟨rfl, by omega⟩))).wI (Or.inr ⟨rfl, rfl⟩)
  have t1 : TbM (wI (wI h0 109 16 0) 109 20 0) l bt := t0.sf S01 (by unfold scT scF; omega) (fun i => by unfold scT scF; omega) (fun i => by unfold scT scF; omega)
  have e0 : hI (wI (wI h0 109 16 0) 109 20 0) 109 16 = nI ((0, 0) : PT).2 := (wI_i (by decide)).trans wI_s
  have hm1 : hI (wI (wI h0 109 16 0) 109 20 0) 109 4 = nI n := (S01.2 _ _ (by unfold scT scF; omega)).trans hm
  have H1 : ItH (wI (wI h0 109 16 0) 109 20 0) bt l n 0 D E f o false := ⟨F, t1, hn, ⟨n, 0, hm1, wI_s, rfl⟩, (S01.2 _ _ (by unfold scT scF; omega)).trans hps, fun z => Bool.noConfusion z, mf.sf S01 (by unfold scT scF; omega) (fun y => by unfold scT scF; omega)⟩
  refine e_aload_n aX9_isTextClashing_10 rfl ?_
  refine e_invv aX9_isTextClashing_11 kX9_278 (zX9_token X (h0 := (wI (wI h0 109 16 0) 109 20 0)) F t1 (p := (0, 0)) e0 (Nat.zero_le _)) rfl rfl (fx_is F rfl) (Nat.le_of_ble_eq_true rfl) (Nat.le_of_ble_eq_true rfl) (Nat.le_refl _) (Nat.le_refl _) (Nat.le_of_ble_eq_true rfl) ?_
  rintro v h2 ⟨rfl, S2, e15, e16⟩
  have F := S2.F F
  have ps2 : PsM h2 (false, nxT bt l (0, 0)) := ⟨e15, e16, (S2.2 _ _ (by unfold scQ; omega)).trans ((wI_i (by decide)).trans ((wI_i (by decide)).trans hw))⟩
  have H2 := H1.tok (Sf.rf _) S2 E (c2 := 0) (by omega) ⟨n, 0, hm1, wI_s, rfl⟩
  refine e_aload_n aX9_isTextClashing_14 rfl ?_
  refine e_invv aX9_isTextClashing_15 kX9_337 (zX9_isItemClashing X H2 ps2 (TkI_n (Nat.zero_le _))) rfl rfl (fx_is F rfl) (Nat.le_of_ble_eq_true rfl) (Nat.le_of_ble_eq_true rfl) (Nat.le_refl _) (Nat.le_refl _) (Nat.le_of_ble_eq_true rfl) ?_
  rintro v h3 H3
  obtain ⟨rfl, S3, ps3, tk3, f3⟩ := riQ_1 H3
  have F := S3.F F
  refine e_istore_n aX9_isTextClashing_18 (Nat.le_of_ble_eq_true rfl) ?_
  refine e_ls (ls' := [(0, some (vR (some 109))), (1, some (vI 0))]) ⟨rfl, rfl, trivial⟩ ?_
  refine ev_p1 X H1 hm1 F0 t0 S01 12 0 E (nxT bt l (0, 0)) h3 (by decide) (S2.QF.FT.tr S3) ps3 tk3 ?_ rfl
  rw [f3, S2.2 _ _ (by unfold scQ; omega)]
  exact congrArg (· + 1) wI_s
