/-! contracts: Reader, a TEXT (written by wip/whole/g82.py) -/
/-- the deals that came are new -/
def NewB (z0 : Nat) (h : HP) (c : Nat) (B : Nat → Nat) : Prop := (∀ j, j < c → z0 ≤ B j ∧ B j < hZ h) ∧ ∀ i j, i < j → j < c → B i < B j
theorem NewB.s {z0 z : Nat} {h h2 : HP} {c : Nat} {B : Nat → Nat} (k : NewB z0 h c B) (h0 : z0 ≤ hZ h) (h1 : hZ h ≤ z) (h2z : z < hZ h2) : NewB z0 h2 (c + 1) (upD B c z) := by
  refine ⟨fun j hj => ?_, fun i j hij hj => ?_⟩
  · by_cases e : j = c
    · rw [e, upD_s]; omega
    · rw [upD_o e]
      have := k.1 j (by omega)
      omega
  · by_cases e : j = c
    · rw [e, upD_s, upD_o (by omega)]
      have := k.1 i (by omega)
      omega
    · rw [upD_o e, upD_o (by omega)]
      exact k.2 i j hij (by omega)
/-- what a TEXT read leaves -/
def rtQ (h0 : HP) (l : Nat) (R : Option (Nat × (Nat → DD)) × PT) : Option VV → HP → Prop := fun v h => Rd h0 h ∧ ((rsW l R = true ∧ v = some (vI (-1 - nI R.2.1))) ∨ (rsW l R = false ∧ ∃ g G B, R.1 = some (g, G) ∧ v = some (vI (nI g)) ∧ CmC h g B G ∧ NewB (hZ h0) h g B))
theorem rt_no {h0 h : HP} {l : Nat} {R : Option (Nat × (Nat → DD)) × PT} {p : PT} (r : Rd h0 h) (hR : (none, p) = R) : rtQ h0 l R (some (vI (-1 - nI p.1))) h := by
  rw [← hR]
  exact ⟨r, Or.inl ⟨rfl, rfl⟩⟩
theorem rt_out {h0 h : HP} {l : Nat} {R : Option (Nat × (Nat → DD)) × PT} {p : PT} {g : Nat × (Nat → DD)} (r : Rd h0 h) (hR : (some g, p) = R) (hl : ¬ l ≤ p.1) : rtQ h0 l R (some (vI (-1 - nI p.1))) h := by
  rw [← hR]
  exact ⟨r, Or.inl ⟨decide_eq_true (Nat.not_le.mp hl), rfl⟩⟩
theorem rt_in {h0 h : HP} {l g : Nat} {G : Nat → DD} {B : Nat → Nat} {R : Option (Nat × (Nat → DD)) × PT} {p : PT} (r : Rd h0 h) (hR : (some (g, G), p) = R) (hl : l ≤ p.1) (cm : CmC h g B G) (nb : NewB (hZ h0) h g B) : rtQ h0 l R (some (vI (nI g))) h := by
  rw [← hR]
  exact ⟨r, Or.inr ⟨decide_eq_false (by show ¬ p.1 < l; omega), g, G, B, rfl, rfl, cm, nb⟩⟩
theorem ev_rte (X : EX) {h0 h : HP} (F : Fx h) {l c : Nat} {B : Nat → Nat} {E : Nat → DD} (t : TpL h l) {p : PT} (z : okp l p) {R : Option (Nat × (Nat → DD)) × PT} (r0 : Rd h0 h) (cm : CmC h c B E) (nb : NewB (hZ h0) h c B) (hR : (some (c, E), p) = R) {cells slots : Nat} (hcc : cells ≤ 39) (hss : slots ≤ 377) : Ev X mX3_readText 22 39 377 (rtQ h0 l R) cells slots 60 [(0, some (vR (some 40)))] [] (tH h p) := by
  refine e_aload_n aX3_readText_60 rfl ?_
  refine e_getRF aX3_readText_61 fX3_12 rfl (fx_is F rfl) (fx_r (b := 41) F rfl) ?_
  refine e_invvT aX3_readText_64 kX3_56 (zX7_isAtEnd X (h := tH h p) F (tpc_of t z)) rfl rfl (fx_is F rfl) (Nat.le_of_ble_eq_true rfl) (Nat.le_of_ble_eq_true rfl) hcc hss (Nat.le_of_ble_eq_true rfl) ?_
  refine e_if_eq aX3_readText_67 (fun c67 => ?_) (fun c67 => ?_)
  · -- 67: taken
    have q67 := b2_0.mp c67
    refine e_iconst (v := -1) aX3_readText_77 (by decide) ?_
    refine e_aload_n aX3_readText_78 rfl ?_
    refine e_getRF aX3_readText_79 fX3_12 rfl (fx_is F rfl) (fx_r (b := 41) F rfl) ?_
    refine e_invvT aX3_readText_82 kX3_46 (zX7_tokenPlace X (h := tH h p) F (tpc_of t z)) rfl rfl (fx_is F rfl) (Nat.le_of_ble_eq_true rfl) (Nat.le_of_ble_eq_true rfl) hcc hss (Nat.le_of_ble_eq_true rfl) ?_
    refine e_isub aX3_readText_85 ?_
    refine e_ireturn aX3_readText_86 rfl hcc hss ?_
    exact rt_out (r0.tr (Rd.tH F)) hR q67
  · -- 67: not taken
    have q67 := Decidable.of_not_not (fun z => c67 (b2_0.mpr z))
    refine e_aload_n aX3_readText_70 rfl ?_
    refine e_getIF aX3_readText_71 fX3_31 rfl (fx_is F rfl) ((tkH_b (by decide)).trans cm.1) ?_
    refine e_goto aX3_readText_74 ?_
    refine e_ireturn aX3_readText_86 rfl hcc hss ?_
    exact rt_in (r0.tr (Rd.tH F)) hR q67 (cm.rd (Rd.tH F) (tkH_b (by decide)) (fun _ => rfl)) nb
theorem zX3_readText (X : EX) {h0 : HP} (F0 : Fx h0) {l n f : Nat} {A : Nat → Nat} {D E0 : Nat → DD} {o : Nat → Nat} (t0 : TpL h0 l) (bf0 : BkF h0 f o) (b0 : BkD h0 n A D) {R : Option (Nat × (Nat → DD)) × PT} (hR : txF (hI h0 42) l D n f 13 (nxT (hI h0 42) l (0, 0)) 0 E0 = R) : Ct X mX3_readText 22 39 377 [vR (some 40), vR (some 33)] h0 (rtQ h0 l R) := by
  refine ct_of rfl (Nat.le_of_ble_eq_true rfl) ?_
  have F := F0
  have loop : ∀ (m c : Nat) (E : Nat → DD) (B : Nat → Nat) (p : PT) (hz : HP), c + m = 13 → Rd h0 hz → CmC hz c B E → NewB (hZ h0) hz c B → okp l p → txF (hI h0 42) l D n f m p c E = R → Ev X mX3_readText 22 39 377 (rtQ h0 l R) (3 * c) (29 * c) 16 [(0, some (vR (some 40))), (1, some (vR (some 33))), (2, some (vI 1)), (3, some (vI (nI c)))] [] (tH hz p) := by
    intro m
    induction m with
    | zero =>
      intro c E B p hz hk r1 cm nb z hR
      have := cm.2.1
      omega
    | succ m ih =>
      intro c E B p hz hk r1 cm nb z hR
      have F := r1.2.1
      have t := t0.rd r1
      have b := b0.rd r1
      have bf := bf0.rd r1
      have e42 := r1.b42
      have hc12 := cm.2.1
      refine e_iload_n aX3_readText_16 rfl ?_
      refine e_bipush (v := 12) aX3_readText_17 (by decide) ?_
      refine e_icmp_gt aX3_readText_19 (fun c19 => ?_) (fun c19 => ?_)
      · -- 19: taken
        exact absurd c19 (Int32.not_lt.mpr (nI_le (b := 12) (show c ≤ 12 by omega) (by decide)))
      · -- 19: not taken
        refine e_iload_n aX3_readText_22 rfl ?_
        refine e_if_eq aX3_readText_23 (fun c23 => absurd c23 (by decide)) (fun c23 => ?_)
        refine e_aload_n aX3_readText_26 rfl ?_
        refine e_aload_n aX3_readText_27 rfl ?_
        refine e_invv aX3_readText_28 kX3_42 (zX3_readItem X F t bf b cm z rfl) rfl rfl (fx_is F rfl) (Nat.le_of_ble_eq_true rfl) (Nat.le_of_ble_eq_true rfl) (by omega) (by omega) (Nat.le_of_ble_eq_true rfl) ?_
        rintro v h3 ⟨rfl, rd3, tk3, hno, hyes⟩
        rw [e42] at hno hyes tk3 ⊢
        have r03 := r1.tr rd3
        have F := rd3.2.1
        have eh : tH h3 (itF (hI h0 42) l D n E c f p).2 = h3 := tH_id tk3
        have F3 := rd3.2.1
        have t3 := t0.rd r03
        have b3 := b0.rd r03
        have bf3 := bf0.rd r03
        have e423 : hI h3 42 = hI h0 42 := r03.b42
        refine e_if_ne aX3_readText_31 (fun c31 => ?_) (fun c31 => ?_)
        · -- 31: taken
          have q31 : (itF (hI h0 42) l D n E c f p).1.isSome = true := Decidable.of_not_not (fun y => c31 (b2_f y))
          refine e_aload_n aX3_readText_44 rfl ?_
          refine e_getRF aX3_readText_45 fX3_12 rfl (fx_is F rfl) (fx_r (b := 41) F rfl) ?_
          refine e_ldcS (i := 17) aX3_readText_48 rfl rfl rfl ?_
          refine e_invvT aX3_readText_50 kX3_52 (eh ▸ ztk X (h := h3) F t3 (okp_I (f := f) (c := c) (D := D) (n := n) (E := E) (bt := hI h0 42) z) (i := 17) (by decide)) rfl rfl (fx_is F rfl) (Nat.le_of_ble_eq_true rfl) (Nat.le_of_ble_eq_true rfl) (by omega) (by omega) (Nat.le_of_ble_eq_true rfl) ?_
          refine e_istore_n aX3_readText_53 (Nat.le_of_ble_eq_true rfl) ?_
          refine e_iinc aX3_readText_54 rfl rfl (Nat.le_of_ble_eq_true rfl) ?_
          refine e_goto aX3_readText_57 ?_
          obtain ⟨d, e9⟩ : ∃ d, (itF (hI h0 42) l D n E c f p).1 = some d := Option.isSome_iff_exists.mp q31
          obtain ⟨zn, z1, z2, cm3⟩ := hyes d e9
          have nb3 := nb.s r1.1.1 z1 z2
          by_cases q9 : tkQ (hI h0 42) (itF (hI h0 42) l D n E c f p).2 17 = true
          · rw [tkX_t (show tkQ (hI h3 42) (itF (hI h0 42) l D n E c f p).2 17 = true from e423 ▸ q9), e423]
            refine e_ls (ls' := [(0, some (vR (some 40))), (1, some (vR (some 33))), (2, some (vI 1)), (3, some (vI (nI (c + 1))))]) ⟨rfl, rfl, congrArg (fun x => some (vI x)) (b2_t (e423 ▸ q9)), congrArg (fun x => some (vI x)) (nI_1 c), trivial⟩ ?_
            have hl := itF_lt e9
            exact ih (c + 1) (upD E c d) (upD B c zn) (nxT (hI h0 42) l (itF (hI h0 42) l D n E c f p).2) h3 (by omega) r03 cm3 nb3 (okp_n (okp_I z)) (by rw [← hR, txF_d e9, if_pos q9])
          · rw [tkX_f (show ¬ tkQ (hI h3 42) (itF (hI h0 42) l D n E c f p).2 17 = true from e423 ▸ q9)]
            have hl := itF_lt e9
            refine e_ls (ls' := [(0, some (vR (some 40))), (1, some (vR (some 33))), (2, some (vI 0)), (3, some (vI (nI (c + 1))))]) ⟨rfl, rfl, congrArg (fun x => some (vI x)) (b2_f (e423 ▸ q9)), congrArg (fun x => some (vI x)) (nI_1 c), trivial⟩ ?_
            refine e_iload_n aX3_readText_16 rfl ?_
            refine e_bipush (v := 12) aX3_readText_17 (by decide) ?_
            refine e_icmp_gt aX3_readText_19 (fun c19 => absurd c19 (Int32.not_lt.mpr (nI_le (b := 12) (show c + 1 ≤ 12 by omega) (by decide)))) (fun c19 => ?_)
            refine e_iload_n aX3_readText_22 rfl ?_
            refine e_if_eq aX3_readText_23 (fun c23 => ?_) (fun c23 => absurd rfl c23)
            refine e_ls (ls' := [(0, some (vR (some 40)))]) ⟨rfl, trivial⟩ ?_
            exact ev_rte X F t3 (okp_I z) r03 cm3 nb3 (by rw [← hR, txF_d e9, if_neg q9]) (by omega) (by omega)
        · -- 31: not taken
          have q31 : ¬ (itF (hI h0 42) l D n E c f p).1.isSome = true := b2_0.mp c31
          refine e_iconst (v := -1) aX3_readText_34 (by decide) ?_
          refine e_aload_n aX3_readText_35 rfl ?_
          refine e_getRF aX3_readText_36 fX3_12 rfl (fx_is F rfl) (fx_r (b := 41) F rfl) ?_
          refine e_invvT aX3_readText_39 kX3_46 (zX7_tokenPlace X (h := h3) F (show TpC h3 l (itF (hI h0 42) l D n E c f p).2.1 (itF (hI h0 42) l D n E c f p).2.2 from eh ▸ tpc_of t3 (okp_I z))) rfl rfl (fx_is F rfl) (Nat.le_of_ble_eq_true rfl) (Nat.le_of_ble_eq_true rfl) (by omega) (by omega) (Nat.le_of_ble_eq_true rfl) ?_
          refine e_isub aX3_readText_42 ?_
          refine e_ireturn aX3_readText_43 rfl (by omega) (by omega) ?_
          rw [show txF (hI h0 42) l D n f (m + 1) p c E = _ from txF_n (Option.not_isSome_iff_eq_none.mp q31)] at hR
          exact rt_no r03 hR
  refine e_aload_n aX3_readText_0 rfl ?_
  refine e_iconst (v := 0) aX3_readText_1 (by decide) ?_
  refine e_putI aX3_readText_2 fX3_31 rfl (fx_is F rfl) (Or.inl rfl) ?_
  refine e_aload_n aX3_readText_5 rfl ?_
  refine e_getRF aX3_readText_6 fX3_12 rfl (fx_is F rfl) (fx_r (b := 41) F rfl) ?_
  refine e_invvV aX3_readText_9 kX3_39 (zX7_start X (h := wI h0 40 2 0) F ((wI_a (by decide)).trans t0.1) t0.2) rfl rfl (fx_is F rfl) (Nat.le_of_ble_eq_true rfl) (Nat.le_of_ble_eq_true rfl) (by omega) (by omega) (Nat.le_of_ble_eq_true rfl) ?_
  have r1 : Rd h0 (wI (wI h0 40 2 0) 41 3 0) := ⟨(Up.wI (by decide)).tr (Up.wI (by decide)), F0, fun a _ i => ⟨fun y1 y2 => (if_neg (by omega)).trans (if_neg (by omega)), fun _ => rfl, fun _ => rfl⟩⟩
  have e42 := r1.b42
  refine e_iconst (v := 1) aX3_readText_12 (by decide) ?_
  refine e_istore_n aX3_readText_13 (Nat.le_of_ble_eq_true rfl) ?_
  refine e_iconst (v := 0) aX3_readText_14 (by decide) ?_
  refine e_istore_n aX3_readText_15 (Nat.le_of_ble_eq_true rfl) ?_
  refine e_ls (ls' := [(0, some (vR (some 40))), (1, some (vR (some 33))), (2, some (vI 1)), (3, some (vI (nI 0)))]) ⟨rfl, rfl, rfl, rfl, trivial⟩ ?_
  rw [show hI (wI (wI h0 40 2 0) 41 3 0) 42 = hI h0 42 from e42]
  exact loop 13 0 E0 (fun _ => 0) (nxT (hI h0 42) l (0, 0)) (wI (wI h0 40 2 0) 41 3 0) rfl r1 ⟨(wI_a (by decide)).trans wI_s, Nat.zero_le _, fun j hj => absurd hj (Nat.not_lt_zero _)⟩ ⟨fun j hj => absurd hj (Nat.not_lt_zero _), fun i j _ hj => absurd hj (Nat.not_lt_zero _)⟩ (okp_n (p := (0, 0)) ⟨Nat.le_refl _, Nat.zero_le _⟩) hR
