/-! contracts: Reader, an item (written by wip/whole/g80.py) -/
theorem rd_al {h g : HP} (F : Fx h) (r : Rd h g) {L : Nat → Nat → Int64} (hL9 : ∀ a, (a < 45 ∨ 72 < a) → a < hZ h → L a = hL g a) : Rd h (lsH g L) := ⟨⟨r.1.1, fun a h1 h2 => ⟨fun i => ⟨((r.1.2 a h1 h2).1 i).1, (congrFun (hL9 a (by omega) h2) i).trans ((r.1.2 a h1 h2).1 i).2.1, ((r.1.2 a h1 h2).1 i).2.2⟩, (r.1.2 a h1 h2).2⟩⟩, r.2.1, fun a ha i => ⟨(r.2.2 a ha i).1, fun q => (congrFun (hL9 a q (Nat.lt_of_lt_of_le ha F.1)) i).trans ((r.2.2 a ha i).2.1 q), (r.2.2 a ha i).2.2⟩⟩
theorem rc_no {h : HP} (F : Fx h) {c : Nat} {B : Nat → Nat} {E : Nat → DD} (cm : CmC h c B E) {p : PT} {r : IR} (hr : (none, p) = r) : rcQ h c B E r (some (vI 0)) (tH h p) := by
  rw [← hr]
  exact ⟨rfl, Rd.tH F, tH_tok, fun _ => cm.rd (Rd.tH F) (tkH_b (by decide)) (fun _ => rfl), (fun d e => by cases e)⟩
theorem rc_yes {h H : HP} {c : Nat} {B : Nat → Nat} {E : Nat → DD} {p : PT} {r : IR} {d : DD} {cn : Option Nat} (rd : Rd h H) (cm : CmC H c B E) (hc : c < 12) (tk : TokC H p) (hr : (some d, p) = r) (w : dWf d) (hcn : (dC d = false ∧ cn = none) ∨ (dC d = true ∧ ∃ sb, cn = some sb ∧ 134 ≤ sb ∧ StC H sb (dB d) ∧ ∀ wb, hR H sb 0 = some wb → 134 ≤ wb)) : rcQ h c B E r (some (vI 1)) (cmH H c d cn) := by
  rw [← hr]
  refine ⟨rfl, rd.tr (cmH_R rd.2.1), cmH_T rd.2.1 tk, (fun e => by cases e), fun d2 e => ?_⟩
  injection e with e
  rw [← e]
  exact ⟨hZ H, rd.1.1, Nat.lt_succ_self _, cmH_C rd.2.1 cm hc w hcn⟩
theorem ev_c6 (X : EX) {h : HP} (F : Fx h) {l n c f : Nat} {A B : Nat → Nat} {D E : Nat → DD} {o : Nat → Nat} (t : TpL h l) (bf : BkF h f o) (b : BkD h n A D) (cm : CmC h c B E) {p : PT} (z : okp l p) {r : IR} (hc : c < 12) {a b9 pk k m : Nat} {q : Option Nat} (w : itW a b9 pk k q m) (hr : it6 (hI h 42) l D n E c a b9 pk k q m p = r) : Ev X mX3_readItem 21 3 29 (rcQ h c B E r) 0 0 218 [(0, some (vR (some 40))), (1, some (vR (some 33))), (2, some (vI (nI a))), (3, some (vI (nI b9))), (4, some (vI (nI pk))), (5, some (vI (nI k))), (8, some (vI (oI q))), (9, some (vI (nI m)))] [] (tH h p) := by
  have h134 : 134 ≤ hZ h := F.1
  have h32 : 32 ≤ hZ h := Nat.le_trans (by decide) F.1
  have F0 := F
  refine e_aload_n aX3_readItem_218 rfl ?_
  refine e_getRF aX3_readItem_219 fX3_12 rfl (fx_is F rfl) (fx_r (b := 41) F rfl) ?_
  refine e_ldcS (i := 8) aX3_readItem_222 rfl rfl rfl ?_
  refine e_invvT aX3_readItem_224 kX3_52 (ztk X F t z (i := 8) (by decide)) rfl rfl (fx_is F rfl) (Nat.le_of_ble_eq_true rfl) (Nat.le_of_ble_eq_true rfl) (Nat.le_of_ble_eq_true rfl) (Nat.le_of_ble_eq_true rfl) (Nat.le_of_ble_eq_true rfl) ?_
  refine e_if_eq aX3_readItem_227 (fun c227 => ?_) (fun c227 => ?_)
  · -- 227: taken
    have q227 := b2_0.mp c227
    refine e_aconst_null aX3_readItem_240 ?_
    refine e_astore aX3_readItem_241 (Nat.le_of_ble_eq_true rfl) ?_
    refine e_aload aX3_readItem_243 rfl ?_
    refine e_ifnull aX3_readItem_245 (fun c245 => ?_) (fun r245 c245 => ?_)
    · -- 245: taken
      skip
      have eX : tkX (hI h 42) l p 8 = p := if_neg q227
      rw [eX]
      have F : Fx (tH h p) := F
      refine e_ls (ls' := [(0, some (vR (some 40))), (1, some (vR (some 33))), (2, some (vI (nI a))), (3, some (vI (nI b9))), (4, some (vI (nI pk))), (5, some (vI (nI k))), (8, some (vI (oI q))), (9, some (vI (nI m))), (10, some (vR none))]) ⟨rfl, rfl, rfl, rfl, rfl, rfl, rfl, rfl, rfl, trivial⟩ ?_
      refine ev_cm X F (d := dNo k a b9 pk q m) (cn := none) (E := E) (Nat.le_of_ble_eq_true rfl) (cm.rd (Rd.tH F0) (tkH_b (by decide)) (fun _ => rfl)) hc (Nat.le_of_ble_eq_true rfl) (Nat.le_of_ble_eq_true rfl) ?_
      refine rc_yes (Rd.tH F0) (cm.rd (Rd.tH F0) (tkH_b (by decide)) (fun _ => rfl)) hc tH_tok ?_ (itW_n w) (Or.inl ⟨rfl, rfl⟩)
      rw [← hr]
      unfold it6
      rw [if_neg q227]
    · -- 245: not taken
      exact absurd c245 (by intro w; cases w)
  · -- 227: not taken
    have q227 := Decidable.of_not_not (fun z => c227 (b2_0.mpr z))
    refine e_new aX3_readItem_230 nX3_24 (Nat.le_of_ble_eq_true rfl) (Nat.le_of_ble_eq_true rfl) ?_
    refine e_dup aX3_readItem_233 rfl ?_
    refine e_inviN aX3_readItem_234 kX3_30 (zX6_init X (h := nw (tH h (tkX (hI h 42) l p 8)) 7 0) (r := hZ h) (is_ns (h := tH h (tkX (hI h 42) l p 8)) h32) rfl) rfl rfl (Nat.le_of_ble_eq_true rfl) (Nat.le_of_ble_eq_true rfl) (Nat.le_of_ble_eq_true rfl) (Nat.le_of_ble_eq_true rfl) (Nat.le_of_ble_eq_true rfl) ?_
    rintro v h2 ⟨rfl, rfl⟩
    obtain ⟨g, eg⟩ : ∃ g, g = (wR (nw (nw (tH h (nxT (hI h 42) l p)) 7 0) 14 21) (hZ h) 0 (some (hZ h + 1))) := ⟨_, rfl⟩
    rw [show (wR (nw (nw (tH h (tkX (hI h 42) l p 8)) 7 0) 14 21) (hZ h) 0 (some (hZ h + 1))) = g by rw [eg, tkX_t q227]]
    have gb : Gb (tH h (nxT (hI h 42) l p)) g := by
      rw [eg]
      exact ((((Gb.rf (tH h (nxT (hI h 42) l p))).nw).nw).wR (Nat.le_refl _))
    have hz : hZ g = hZ h + 2 := by rw [eg]; rfl
    have kS : StS g (hZ h) (hZ h + 1) := by
      rw [eg]
      exact stS_new (h := nw (tH h (nxT (hI h 42) l p)) 7 0) h32 (is_ns (h := tH h (nxT (hI h 42) l p)) h32) rfl
    have rg : Rd h g := (Rd.tH F).tr (Rd.gb (h := tH h (nxT (hI h 42) l p)) F gb)
    have g41 := (gb.2 41 (Nat.lt_of_lt_of_le (by decide) F.1)).1
    have tg : TokC g (nxT (hI h 42) l p) := ⟨(g41 2).1.trans tkH_2, (g41 3).1.trans wI_s⟩
    have e40 : hI g 40 2 = hI h 40 2 := ((gb.2 40 (Nat.lt_of_lt_of_le (by decide) F.1)).1 2).1.trans (tkH_b (by decide))
    have e43 : ∀ j, hR g 43 j = hR h 43 j := fun j => ((gb.2 43 (Nat.lt_of_lt_of_le (by decide) F.1)).1 j).2.2
    have F1 : Fx g := rg.2.1
    have fr : ∀ L p3, WkL g (fun x => (45 ≤ x ∧ x ≤ 72) ∨ x = hZ h + 1) L → Rd h (tH (lsH g L) p3) := fun L p3 hw => (rd_al F rg (L := L) (fun x hx hx2 => hw x (by omega))).tr (Rd.tH (h := lsH g L) F1)
    have k0 : RdP g (fun x => (45 ≤ x ∧ x ≤ 72) ∨ x = hZ h + 1) n A D c B E := fun L p3 hw => ⟨b.rd (fr L p3 hw), cm.rd (fr L p3 hw) ((tkH_b (by decide)).trans e40) e43⟩
    have zr := (zread X F1 (V := (fun x => (45 ≤ x ∧ x ≤ 72) ∨ x = hZ h + 1)) (t.rd rg) k0 (fun x h1 h2 => Or.inl ⟨h1, h2⟩) 6 (Nat.le_refl _)).2 (hL g) (nxT (hI h 42) l p) (hZ h) (hZ h + 1) (fun _ _ => rfl) (okp_n z) kS (Or.inr rfl) (Or.inr (by omega))
    rw [rg.b42, show tH (lsH g (hL g)) (nxT (hI h 42) l p) = g from tH_id tg] at zr
    clear eg k0
    have F := F1
    refine e_goto aX3_readItem_237 ?_
    refine e_astore aX3_readItem_241 (Nat.le_of_ble_eq_true rfl) ?_
    refine e_aload aX3_readItem_243 rfl ?_
    refine e_ifnull aX3_readItem_245 (fun c245 => ?_) (fun r245 c245 => ?_)
    · -- 245: taken
      exact absurd c245 (by intro w; cases w)
    · -- 245: not taken
      skip
      refine e_aload_n aX3_readItem_248 rfl ?_
      refine e_aload_n aX3_readItem_249 rfl ?_
      refine e_aload aX3_readItem_250 rfl ?_
      refine e_iconst (v := 0) aX3_readItem_252 (by decide) ?_
      refine e_invv aX3_readItem_253 kX3_83 zr rfl rfl (fx_is F rfl) (Nat.le_of_ble_eq_true rfl) (Nat.le_of_ble_eq_true rfl) (Nat.le_of_ble_eq_true rfl) (Nat.le_of_ble_eq_true rfl) (Nat.le_of_ble_eq_true rfl) ?_
      rintro v h3 ⟨rfl, L2, rfl, hLa, hLb⟩
      have rd3 : Rd h (tH (lsH g L2) (anyF (oneF (hI h 42) l D n E c 6) (hI h 42) l (nxT (hI h 42) l p)).2.1) := fr L2 (anyF (oneF (hI h 42) l D n E c 6) (hI h 42) l (nxT (hI h 42) l p)).2.1 (fun x hx => hLa x (fun e => hx (Or.inr e)) (fun e => hx (Or.inl (by omega))))
      refine e_if_ne aX3_readItem_256 (fun c256 => ?_) (fun c256 => ?_)
      · -- 256: taken
        have q256 := Decidable.of_not_not (fun z => c256 (b2_0.mpr z))
        refine e_ls (ls' := [(0, some (vR (some 40))), (1, some (vR (some 33))), (2, some (vI (nI a))), (3, some (vI (nI b9))), (4, some (vI (nI pk))), (5, some (vI (nI k))), (8, some (vI (oI q))), (9, some (vI (nI m))), (10, some (vR (some (hZ h))))]) ⟨rfl, rfl, rfl, rfl, rfl, rfl, rfl, rfl, rfl, trivial⟩ ?_
        have cm3 : CmC (tH (lsH g L2) (anyF (oneF (hI h 42) l D n E c 6) (hI h 42) l (nxT (hI h 42) l p)).2.1) c B E := cm.rd rd3 ((tkH_b (by decide)).trans e40) e43
        refine ev_cm X rd3.2.1 (d := (k, a, b9, pk, q, m, true, (anyF (oneF (hI h 42) l D n E c 6) (hI h 42) l (nxT (hI h 42) l p)).2.2)) (cn := some (hZ h)) (Nat.le_of_ble_eq_true rfl) cm3 hc (Nat.le_of_ble_eq_true rfl) (Nat.le_of_ble_eq_true rfl) ?_
        refine rc_yes rd3 cm3 hc tH_tok ?_ (itW_c w) (Or.inr ⟨rfl, hZ h, rfl, F0.1, ⟨kS.1, hZ h + 1, kS.2.1, kS.2.2.1, kS.2.2.2, fun s hs => hLb q256 s hs⟩, fun wb hw => ?_⟩)
        · rw [← hr]
          unfold it6
          rw [if_pos q227, if_pos q256]
        · have e9 : some (hZ h + 1) = some wb := kS.2.1.symm.trans hw
          injection e9 with e9
          have := F0.1
          omega
      · -- 256: not taken
        have q256 := b2_0.mp c256
        refine e_iconst (v := 0) aX3_readItem_259 (by decide) ?_
        refine e_zreturn aX3_readItem_260 rfl (Or.inl rfl) (Nat.le_of_ble_eq_true rfl) (Nat.le_of_ble_eq_true rfl) ?_
        have er : r = (none, (anyF (oneF (hI h 42) l D n E c 6) (hI h 42) l (nxT (hI h 42) l p)).2.1) := by
          rw [← hr]
          unfold it6
          rw [if_pos q227, if_neg q256]
        subst er
        exact ⟨rfl, rd3, tH_tok, fun _ => cm.rd rd3 ((tkH_b (by decide)).trans e40) e43, (fun d e => by cases e)⟩
