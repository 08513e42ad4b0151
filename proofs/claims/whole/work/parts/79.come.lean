/-! contracts: Reader, the end of an item (written by wip/whole/g79.py) -/
/-- what a reading may change -/
def Rd (h h' : HP) : Prop := Up h h' ∧ Fx h' ∧ ∀ a, a < 134 → ∀ i, (¬ (a = 40 ∧ i = 2) → ¬ (a = 41 ∧ (i = 2 ∨ i = 3)) → hI h' a i = hI h a i) ∧ ((a < 45 ∨ 72 < a) → hL h' a i = hL h a i) ∧ (a ≠ 43 → hR h' a i = hR h a i)
theorem Rd.rf {h : HP} (F : Fx h) : Rd h h := ⟨Up.rf h, F, fun _ _ _ => ⟨fun _ _ => rfl, fun _ => rfl, fun _ => rfl⟩⟩
theorem Rd.tr {h1 h2 h3 : HP} (a : Rd h1 h2) (b : Rd h2 h3) : Rd h1 h3 := ⟨a.1.tr b.1, b.2.1, fun x hx i => ⟨fun z1 z2 => ((b.2.2 x hx i).1 z1 z2).trans ((a.2.2 x hx i).1 z1 z2), fun z => ((b.2.2 x hx i).2.1 z).trans ((a.2.2 x hx i).2.1 z), fun z => ((b.2.2 x hx i).2.2 z).trans ((a.2.2 x hx i).2.2 z)⟩⟩
theorem Rd.gb {h h' : HP} (F : Fx h) (g : Gb h h') : Rd h h' := ⟨g.up, g.F F, fun a ha i => by
  have e := (g.2 a (Nat.lt_of_lt_of_le ha F.1)).1 i
  exact ⟨fun _ _ => e.1, fun _ => e.2.1, fun _ => e.2.2⟩⟩
theorem Rd.tH {h : HP} (F : Fx h) {p : PT} : Rd h (tH h p) := ⟨(Up.wI (by decide)).tr (Up.wI (by decide)), F, fun a _ i => ⟨fun _ z => (if_neg (by omega)).trans (if_neg (by omega)), fun _ => rfl, fun _ => rfl⟩⟩
theorem Rd.lsH {h : HP} (F : Fx h) {L : Nat → Nat → Int64} (hL9 : ∀ a, (a < 45 ∨ 72 < a) → a < hZ h → L a = hL h a) : Rd h (lsH h L) := ⟨⟨Nat.le_refl _, fun a h1 h2 => ⟨fun i => ⟨rfl, congrFun (hL9 a (by omega) h2) i, rfl⟩, rfl, rfl⟩⟩, F, fun a ha i => ⟨fun _ _ => rfl, fun z => congrFun (hL9 a z (Nat.lt_of_lt_of_le ha F.1)) i, fun _ => rfl⟩⟩
/-- the TOKEN that is looked at -/
def TokC (h : HP) (p : PT) : Prop := hI h 41 2 = nI p.1 ∧ hI h 41 3 = nI p.2
theorem tH_tok {h : HP} {p : PT} : TokC (tH h p) p := ⟨tkH_2, wI_s⟩
theorem tH_id {h : HP} {p : PT} (k : TokC h p) : tH h p = h := by
  have e : up2 (up2 h.1 41 2 (nI p.1)) 41 3 (nI p.2) = h.1 := by
    funext a i
    unfold up2
    by_cases z : a = 41 ∧ i = 3
    · rw [if_pos z, z.1, z.2]; exact k.2.symm
    · rw [if_neg z]
      by_cases w : a = 41 ∧ i = 2
      · rw [if_pos w, w.1, w.2]; exact k.1.symm
      · rw [if_neg w]
  show (up2 (up2 h.1 41 2 (nI p.1)) 41 3 (nI p.2), h.2) = h
  rw [e]
theorem CmC.rd {h h' : HP} {c : Nat} {B : Nat → Nat} {E : Nat → DD} (cm : CmC h c B E) (r : Rd h h') (e1 : hI h' 40 2 = hI h 40 2) (e2 : ∀ j, hR h' 43 j = hR h 43 j) : CmC h' c B E := ⟨e1.trans cm.1, cm.2.1, fun j hj => ⟨(e2 j).trans (cm.2.2 j hj).1, (cm.2.2 j hj).2.up r.1⟩⟩
theorem BkD.rd {h h' : HP} {n : Nat} {A : Nat → Nat} {D : Nat → DD} (b : BkD h n A D) (r : Rd h h') : BkD h' n A D := b.up r.1 ((r.2.2 33 (by decide) 1).1 (by omega) (by omega)) (fun i => (r.2.2 34 (by decide) i).2.2 (by decide))
theorem BkF.rd {h h' : HP} {f : Nat} {o : Nat → Nat} (b : BkF h f o) (r : Rd h h') : BkF h' f o := b.up (fun i => (r.2.2 33 (by decide) i).1 (by omega) (by omega)) (fun i => (r.2.2 35 (by decide) i).1 (by omega) (by omega))
theorem TpL.rd {h h' : HP} {l : Nat} (t : TpL h l) (r : Rd h h') : TpL h' l := ⟨((r.2.2 41 (by decide) 1).1 (by omega) (by omega)).trans t.1, t.2⟩
theorem Rd.b42 {h h' : HP} (r : Rd h h') : hI h' 42 = hI h 42 := funext fun i => (r.2.2 42 (by decide) i).1 (by omega) (by omega)
theorem dlH_D {h : HP} (F : Fx h) {d : DD} {cn : Option Nat} (w : dWf d) (hcn : (dC d = false ∧ cn = none) ∨ (dC d = true ∧ ∃ sb, cn = some sb ∧ 134 ≤ sb ∧ StC h sb (dB d) ∧ ∀ wb, hR h sb 0 = some wb → 134 ≤ wb)) : DealC (dlH (nw h 2 0) (hZ h) (nI (dK d)) (nI (dF d)) (nI (dT d)) (nI (dP d)) (oI (dO d)) (nI (dN d)) cn) (hZ h) d := by
  have h134 : 134 ≤ hZ h := F.1
  have g := dlH_G (h := h) (k := nI (dK d)) (f := nI (dF d)) (t := nI (dT d)) (p := nI (dP d)) (q := oI (dO d)) (m := nI (dN d)) (c := cn)
  refine ⟨h134, is_ns (by omega), w, ?_, ?_, ?_, ?_, ?_, ?_, ?_⟩
  · exact (up2_i (by decide)).trans ((up2_i (by decide)).trans ((up2_i (by decide)).trans ((up2_i (by decide)).trans ((up2_i (by decide)).trans up2_s))))
  · exact (up2_i (by decide)).trans ((up2_i (by decide)).trans ((up2_i (by decide)).trans ((up2_i (by decide)).trans up2_s)))
  · exact (up2_i (by decide)).trans ((up2_i (by decide)).trans ((up2_i (by decide)).trans up2_s))
  · exact (up2_i (by decide)).trans ((up2_i (by decide)).trans up2_s)
  · exact (up2_i (by decide)).trans up2_s
  · exact up2_s
  · rcases hcn with ⟨c1, c2⟩ | ⟨c1, sb, c2, c3, c4, c5⟩
    · exact Or.inl ⟨c1, up2_s.trans c2⟩
    · refine Or.inr ⟨c1, sb, up2_s.trans c2, c3, c4.up g.up c3 c5, fun wb hw => c5 wb ?_⟩
      rw [← ((g.2 sb c4.1.2.1).1 0).2.2]
      exact hw
/-- a DEAL has come -/
def cmH (h : HP) (c : Nat) (d : DD) (cn : Option Nat) : HP := wI (wR (dlH (nw h 2 0) (hZ h) (nI (dK d)) (nI (dF d)) (nI (dT d)) (nI (dP d)) (oI (dO d)) (nI (dN d)) cn) 43 c (some (hZ h))) 40 2 (nI (c + 1))
theorem cmH_F {h : HP} (F : Fx h) {c : Nat} {d : DD} {cn : Option Nat} : Fx (cmH h c d cn) := Fx.wR (dlH_G.F F) (by decide)
theorem cmH_R {h : HP} (F : Fx h) {c : Nat} {d : DD} {cn : Option Nat} : Rd h (cmH h c d cn) := (Rd.gb F dlH_G).tr ⟨(Up.wR (by decide)).tr (Up.wI (by decide)), cmH_F F, fun a _ i => ⟨fun z _ => if_neg z, fun _ => rfl, fun z => if_neg (by omega)⟩⟩
theorem cmH_C {h : HP} (F : Fx h) {c : Nat} {d : DD} {cn : Option Nat} {B : Nat → Nat} {E : Nat → DD} (cm : CmC h c B E) (hc : c < 12) (w : dWf d) (hcn : (dC d = false ∧ cn = none) ∨ (dC d = true ∧ ∃ sb, cn = some sb ∧ 134 ≤ sb ∧ StC h sb (dB d) ∧ ∀ wb, hR h sb 0 = some wb → 134 ≤ wb)) : CmC (cmH h c d cn) (c + 1) (upD B c (hZ h)) (upD E c d) := by
  have u9 : Up (dlH (nw h 2 0) (hZ h) (nI (dK d)) (nI (dF d)) (nI (dT d)) (nI (dP d)) (oI (dO d)) (nI (dN d)) cn) (cmH h c d cn) := (Up.wR (by decide)).tr (Up.wI (by decide))
  refine ⟨wI_s, hc, fun j hj => ?_⟩
  by_cases z : j = c
  · rw [z, upD_s, upD_s]
    exact ⟨up2_s, (dlH_D F w hcn).up u9⟩
  · rw [upD_o z, upD_o z]
    have := (cm.2.2 j (by omega))
    refine ⟨(up2_i z).trans ((((dlH_G (h := h) (k := nI (dK d)) (f := nI (dF d)) (t := nI (dT d)) (p := nI (dP d)) (q := oI (dO d)) (m := nI (dN d)) (c := cn)).2 43 (Nat.lt_of_lt_of_le (by decide) F.1)).1 j).2.2.trans this.1), this.2.up (dlH_G.up.tr u9)⟩
theorem cmH_Z {h : HP} {c : Nat} {d : DD} {cn : Option Nat} : hZ (cmH h c d cn) = hZ h + 1 := rfl
theorem cmH_T {h : HP} (F : Fx h) {c : Nat} {d : DD} {cn : Option Nat} {p : PT} (k : TokC h p) : TokC (cmH h c d cn) p := by
  have g := (dlH_G (h := h) (k := nI (dK d)) (f := nI (dF d)) (t := nI (dT d)) (p := nI (dP d)) (q := oI (dO d)) (m := nI (dN d)) (c := cn)).2 41 (Nat.lt_of_lt_of_le (by decide) F.1)
  exact ⟨(wI_a (by decide)).trans ((g.1 2).1.trans k.1), (wI_a (by decide)).trans ((g.1 3).1.trans k.2)⟩
/-- what a reading of an item leaves -/
def rcQ (h : HP) (c : Nat) (B : Nat → Nat) (E : Nat → DD) (r : IR) : Option VV → HP → Prop := fun v h' => v = some (vI (b2 (r.1.isSome = true))) ∧ Rd h h' ∧ TokC h' r.2 ∧ (r.1 = none → CmC h' c B E) ∧ ∀ d, r.1 = some d → ∃ z, hZ h ≤ z ∧ z < hZ h' ∧ CmC h' (c + 1) (upD B c z) (upD E c d)
theorem ev_cm (X : EX) {h : HP} (F : Fx h) {Q : Option VV → HP → Prop} {d2 cells slots mc ms c : Nat} {d : DD} {cn : Option Nat} {B : Nat → Nat} {E : Nat → DD} (hd2 : 2 ≤ d2) (cm : CmC h c B E) (hc : c < 12) (hc1 : cells + 1 ≤ mc) (hs1 : slots + 7 ≤ ms) (hq : Q (some (vI 1)) (cmH h c d cn)) : Ev X mX3_readItem d2 mc ms Q cells slots 261 [(0, some (vR (some 40))), (1, some (vR (some 33))), (2, some (vI (nI (dF d)))), (3, some (vI (nI (dT d)))), (4, some (vI (nI (dP d)))), (5, some (vI (nI (dK d)))), (8, some (vI (oI (dO d)))), (9, some (vI (nI (dN d)))), (10, some (vR cn))] [] h := by
  have h32 : 32 ≤ hZ h := Nat.le_trans (by decide) F.1
  refine e_aload_n aX3_readItem_261 rfl ?_
  refine e_getRF aX3_readItem_262 fX3_20 rfl (fx_is F rfl) (fx_r (b := 43) F rfl) ?_
  refine e_aload_n aX3_readItem_265 rfl ?_
  refine e_getIF aX3_readItem_266 fX3_31 rfl (fx_is F rfl) cm.1 ?_
  refine e_new aX3_readItem_269 nX3_18 hc1 hs1 ?_
  refine e_dup aX3_readItem_272 rfl ?_
  refine e_iload aX3_readItem_273 rfl ?_
  refine e_iload_n aX3_readItem_275 rfl ?_
  refine e_iload_n aX3_readItem_276 rfl ?_
  refine e_iload aX3_readItem_277 rfl ?_
  refine e_iload aX3_readItem_279 rfl ?_
  refine e_iload aX3_readItem_281 rfl ?_
  refine e_aload aX3_readItem_283 rfl ?_
  refine e_invi aX3_readItem_285 kX3_87 (zX1_init X (h := nw h 2 0) (z := hZ h) (is_ns h32) _ _ _ _ _ _ _) rfl rfl (Nat.le_of_ble_eq_true rfl) (by omega) hc1 hs1 (Nat.le_of_ble_eq_true rfl) ?_
  rintro v h2 ⟨rfl, rfl⟩
  have g1 := dlH_G (h := h) (k := nI (dK d)) (f := nI (dF d)) (t := nI (dT d)) (p := nI (dP d)) (q := oI (dO d)) (m := nI (dN d)) (c := cn)
  have e40 : hI (dlH (nw h 2 0) (hZ h) (nI (dK d)) (nI (dF d)) (nI (dT d)) (nI (dP d)) (oI (dO d)) (nI (dN d)) cn) 40 2 = nI c := ((g1.2 40 (Nat.lt_of_lt_of_le (by decide) F.1)).1 2).1.trans cm.1
  have kz : Is (dlH (nw h 2 0) (hZ h) (nI (dK d)) (nI (dF d)) (nI (dT d)) (nI (dP d)) (oI (dO d)) (nI (dN d)) cn) (hZ h) 2 := is_ns (h := h) h32
  have F := g1.F F
  refine e_aastoreF (t := 17) aX3_readItem_288 (fx_is F rfl) (by decide) (by decide) kz (fx_n (n := 12) F rfl) (vin (N := 12) hc) ?_
  rw [cl (n := c) (by omega)]
  have F := Fx.wR (b := 43) (i := c) (v := some (hZ h)) F (by decide)
  refine e_aload_n aX3_readItem_289 rfl ?_
  refine e_dup aX3_readItem_290 rfl ?_
  refine e_getIF aX3_readItem_291 fX3_31 rfl (fx_is F rfl) e40 ?_
  refine e_iconst (v := 1) aX3_readItem_294 (by decide) ?_
  refine e_iadd aX3_readItem_295 ?_
  refine e_top (nI_1 c) ?_
  refine e_putI aX3_readItem_296 fX3_31 rfl (fx_is F rfl) (Or.inl rfl) ?_
  refine e_iconst (v := 1) aX3_readItem_299 (by decide) ?_
  refine e_zreturn aX3_readItem_300 rfl (Or.inr rfl) hc1 hs1 ?_
  exact hq
