/-! Reader.readOne, one depth (written by wip/whole/g47.py) -/
def C1 (X : EX) (h : HP) (l : Nat) (V : Nat → Prop) (n : Nat) (D : Nat → DD) (c : Nat) (E : Nat → DD) (k : Nat) : Prop := ∀ (L : Nat → Nat → Int64) (p : PT) (sb wb : Nat), WkL h V L → okp l p → StS h sb wb → V wb → (wb < 74 - 4 * k ∨ 73 ≤ wb) → Ct X mX3_readOne (7 + 2 * k) 0 0 [vR (some 40), vR (some 33), vR (some sb), vI (nI (6 - k))] (tH (lsH h L) p) (rdQ h L wb (fun x => 74 - 4 * k ≤ x ∧ x ≤ 72) (oneF (hI h 42) l D n E c k p))
def C2 (X : EX) (h : HP) (l : Nat) (V : Nat → Prop) (n : Nat) (D : Nat → DD) (c : Nat) (E : Nat → DD) (k : Nat) : Prop := ∀ (L : Nat → Nat → Int64) (p : PT) (sb wb : Nat), WkL h V L → okp l p → StS h sb wb → V wb → (wb < 70 - 4 * k ∨ 73 ≤ wb) → Ct X mX3_readAny (8 + 2 * k) 0 0 [vR (some 40), vR (some 33), vR (some sb), vI (nI (6 - k))] (tH (lsH h L) p) (rdQ h L wb (fun x => 70 - 4 * k ≤ x ∧ x ≤ 72) (anyF (oneF (hI h 42) l D n E c k) (hI h 42) l p))
theorem zone_0 (X : EX) {h : HP} (F : Fx h) {l n c : Nat} {V : Nat → Prop} {A B : Nat → Nat} {D E : Nat → DD} (t : TpL h l) (k0 : RdP h V n A D c B E) : C1 X h l V n D c E 0 := by
  intro L p sb wb hw z kS hv hwb
  refine ct_of rfl (Nat.le_of_ble_eq_true rfl) ?_
  refine e_iload_n aX3_readOne_0 rfl ?_
  refine e_bipush (v := 6) aX3_readOne_1 (by decide) ?_
  refine e_icmp_ge aX3_readOne_3 (fun c3 => ?_) (fun c3 => ?_)
  · -- 3: taken
    refine e_iload_n aX3_readOne_36 rfl ?_
    refine e_bipush (v := 6) aX3_readOne_37 (by decide) ?_
    refine e_icmp_ge aX3_readOne_39 (fun c39 => ?_) (fun c39 => ?_)
    · -- 39: taken
      refine e_ls (ls' := [(0, some (vR (some 40))), (1, some (vR (some 33))), (2, some (vR (some sb)))]) ⟨rfl, rfl, rfl, trivial⟩ ?_
      exact ev_base X F (by omega) kS t z k0 hw hv
    · -- 39: not taken
      exact absurd (by decide) c39
  · -- 3: not taken
    exact absurd (by decide) c3
theorem oneF_s {bt : Nat → Int32} {l n c k : Nat} {D E : Nat → DD} {p : PT} : oneF bt l D n E c (k + 1) p = if tkQ bt p 9 = true then ((oneF bt l D n E c k (nxT bt l p)).1, (oneF bt l D n E c k (nxT bt l p)).2.1, fun u => !(oneF bt l D n E c k (nxT bt l p)).2.2 u) else if tkQ bt p 10 = true then (if (anyF (oneF bt l D n E c k) bt l (nxT bt l p)).1 = true then (tkQ bt (anyF (oneF bt l D n E c k) bt l (nxT bt l p)).2.1 11, tkX bt l (anyF (oneF bt l D n E c k) bt l (nxT bt l p)).2.1 11, (anyF (oneF bt l D n E c k) bt l (nxT bt l p)).2.2) else (false, (anyF (oneF bt l D n E c k) bt l (nxT bt l p)).2.1, fun _ => false)) else bsF bt l D n E c p := rfl
theorem zone_s (X : EX) {h : HP} (F : Fx h) {l n c : Nat} {V : Nat → Prop} {A B : Nat → Nat} {D E : Nat → DD} (t : TpL h l) (k0 : RdP h V n A D c B E) {k : Nat} (hk : k < 6) (k1 : C1 X h l V n D c E k) (k2 : C2 X h l V n D c E k) : C1 X h l V n D c E (k + 1) := by
  intro L p sb wb hw z kS hv hwb
  refine ct_of rfl (Nat.le_of_ble_eq_true rfl) ?_
  refine e_iload_n aX3_readOne_0 rfl ?_
  refine e_bipush (v := 6) aX3_readOne_1 (by decide) ?_
  refine e_icmp_ge aX3_readOne_3 (fun c3 => ?_) (fun c3 => ?_)
  · -- 3: taken
    exact absurd c3 (nI_ge (a := 6 - (k + 1)) (b := 6) (by omega) (by decide))
  · -- 3: not taken
    refine e_aload_n aX3_readOne_6 rfl ?_
    refine e_getRF aX3_readOne_7 fX3_12 rfl (fx_is F rfl) (fx_r (b := 41) F rfl) ?_
    refine e_ldcS (i := 9) aX3_readOne_10 rfl rfl rfl ?_
    refine e_invvT aX3_readOne_12 kX3_52 (ztkL X (L := L) F (l := l) (p := p) t z (i := 9) (by decide)) rfl rfl (fx_is F rfl) (Nat.le_of_ble_eq_true rfl) (by omega) (Nat.le_refl _) (Nat.le_refl _) (Nat.le_of_ble_eq_true rfl) ?_
    refine e_if_eq aX3_readOne_15 (fun c15 => ?_) (fun c15 => ?_)
    · -- 15: taken
      have q15 := b2_0.mp c15
      refine e_hp (h2 := (tH (lsH h L) p)) (congrArg (tH (lsH h L)) (if_neg q15)) ?_
      refine e_iload_n aX3_readOne_36 rfl ?_
      refine e_bipush (v := 6) aX3_readOne_37 (by decide) ?_
      refine e_icmp_ge aX3_readOne_39 (fun c39 => ?_) (fun c39 => ?_)
      · -- 39: taken
        exact absurd c39 (nI_ge (a := 6 - (k + 1)) (b := 6) (by omega) (by decide))
      · -- 39: not taken
        refine e_aload_n aX3_readOne_42 rfl ?_
        refine e_getRF aX3_readOne_43 fX3_12 rfl (fx_is F rfl) (fx_r (b := 41) F rfl) ?_
        refine e_ldcS (i := 10) aX3_readOne_46 rfl rfl rfl ?_
        refine e_invvT aX3_readOne_48 kX3_52 (ztkL X (L := L) F (l := l) (p := p) t z (i := 10) (by decide)) rfl rfl (fx_is F rfl) (Nat.le_of_ble_eq_true rfl) (by omega) (Nat.le_refl _) (Nat.le_refl _) (Nat.le_of_ble_eq_true rfl) ?_
        refine e_if_eq aX3_readOne_51 (fun c51 => ?_) (fun c51 => ?_)
        · -- 51: taken
          have q51 := b2_0.mp c51
          refine e_hp (h2 := (tH (lsH h L) p)) (congrArg (tH (lsH h L)) (if_neg q51)) ?_
          have eR : oneF (hI h 42) l D n E c (k + 1) p = bsF (hI h 42) l D n E c p := by rw [oneF_s, if_neg q15, if_neg q51]
          rw [eR]
          refine e_ls (ls' := [(0, some (vR (some 40))), (1, some (vR (some 33))), (2, some (vR (some sb)))]) ⟨rfl, rfl, rfl, trivial⟩ ?_
          exact ev_base X F (by omega) kS t z k0 hw hv
        · -- 51: not taken
          have q51 := Decidable.of_not_not (fun z => c51 (b2_0.mpr z))
          refine e_hp (h2 := (tH (lsH h L) (nxT (hI h 42) l p))) (congrArg (tH (lsH h L)) (if_pos q51)) ?_
          refine e_aload_n aX3_readOne_54 rfl ?_
          refine e_aload_n aX3_readOne_55 rfl ?_
          refine e_aload_n aX3_readOne_56 rfl ?_
          refine e_iload_n aX3_readOne_57 rfl ?_
          refine e_iconst (v := 1) aX3_readOne_58 (by decide) ?_
          refine e_iadd aX3_readOne_59 ?_
          refine e_top (v := nI (6 - k)) ((nI_1 _).trans (congrArg nI (by omega))) ?_
          refine e_invv aX3_readOne_60 kX3_83 (k2 L (nxT (hI h 42) l p) sb wb hw (okp_n z) kS hv (by omega)) rfl rfl (fx_is F rfl) (Nat.le_of_ble_eq_true rfl) (by omega) (Nat.le_refl _) (Nat.le_refl _) (Nat.le_of_ble_eq_true rfl) ?_
          rintro v h2 ⟨rfl, L2, rfl, hL2, hs2⟩
          refine e_if_eq aX3_readOne_63 (fun c63 => ?_) (fun c63 => ?_)
          · -- 63: taken
            have q63 : ¬ (anyF (oneF (hI h 42) l D n E c k) (hI h 42) l (nxT (hI h 42) l p)).1 = true := b2_0.mp c63
            refine e_iconst (v := 0) aX3_readOne_82 (by decide) ?_
            refine e_zreturn aX3_readOne_83 rfl (by decide) (Nat.le_refl _) (Nat.le_refl _) ?_
            rw [oneF_s, if_neg q15, if_pos q51, if_neg q63]
            exact ⟨rfl, L2, rfl, (fun x hx hx2 => hL2 x hx (fun y => hx2 ⟨by have : 70 - 4 * k ≤ x := y.1; omega, y.2⟩)), fun y => by cases y⟩
          · -- 63: not taken
            have q63 : (anyF (oneF (hI h 42) l D n E c k) (hI h 42) l (nxT (hI h 42) l p)).1 = true := Decidable.of_not_not (fun y => c63 (b2_0.mpr y))
            refine e_aload_n aX3_readOne_66 rfl ?_
            refine e_getRF aX3_readOne_67 fX3_12 rfl (fx_is F rfl) (fx_r (b := 41) F rfl) ?_
            refine e_ldcS (i := 11) aX3_readOne_70 rfl rfl rfl ?_
            refine e_invvT aX3_readOne_72 kX3_52 (ztkL X (L := L2) F (l := l) (p := (anyF (oneF (hI h 42) l D n E c k) (hI h 42) l (nxT (hI h 42) l p)).2.1) t (okF_any (okF_one k) _ (okp_n z)) (i := 11) (by decide)) rfl rfl (fx_is F rfl) (Nat.le_of_ble_eq_true rfl) (by omega) (Nat.le_refl _) (Nat.le_refl _) (Nat.le_of_ble_eq_true rfl) ?_
            refine e_if_eq aX3_readOne_75 (fun c75 => ?_) (fun c75 => ?_)
            · -- 75: taken
              have q75 := b2_0.mp c75
              refine e_iconst (v := 0) aX3_readOne_82 (by decide) ?_
              refine e_zreturn aX3_readOne_83 rfl (by decide) (Nat.le_refl _) (Nat.le_refl _) ?_
              rw [oneF_s, if_neg q15, if_pos q51, if_pos q63]
              exact ⟨by show _ = some (vI (b2 (tkQ (hI h 42) (anyF (oneF (hI h 42) l D n E c k) (hI h 42) l (nxT (hI h 42) l p)).2.1 11 = true))); rw [b2_f q75] <;> rfl, L2, rfl, (fun x hx hx2 => hL2 x hx (fun y => hx2 ⟨by have : 70 - 4 * k ≤ x := y.1; omega, y.2⟩)), fun y => absurd y q75⟩
            · -- 75: not taken
              have q75 := Decidable.of_not_not (fun z => c75 (b2_0.mpr z))
              refine e_iconst (v := 1) aX3_readOne_78 (by decide) ?_
              refine e_goto aX3_readOne_79 ?_
              refine e_zreturn aX3_readOne_83 rfl (by decide) (Nat.le_refl _) (Nat.le_refl _) ?_
              rw [oneF_s, if_neg q15, if_pos q51, if_pos q63]
              exact ⟨by show _ = some (vI (b2 (tkQ (hI h 42) (anyF (oneF (hI h 42) l D n E c k) (hI h 42) l (nxT (hI h 42) l p)).2.1 11 = true))); rw [b2_t q75] <;> rfl, L2, rfl, (fun x hx hx2 => hL2 x hx (fun y => hx2 ⟨by have : 70 - 4 * k ≤ x := y.1; omega, y.2⟩)), fun y u hu => hs2 q63 u hu⟩
    · -- 15: not taken
      have q15 := Decidable.of_not_not (fun z => c15 (b2_0.mpr z))
      refine e_hp (h2 := (tH (lsH h L) (nxT (hI h 42) l p))) (congrArg (tH (lsH h L)) (if_pos q15)) ?_
      refine e_aload_n aX3_readOne_18 rfl ?_
      refine e_aload_n aX3_readOne_19 rfl ?_
      refine e_aload_n aX3_readOne_20 rfl ?_
      refine e_iload_n aX3_readOne_21 rfl ?_
      refine e_iconst (v := 1) aX3_readOne_22 (by decide) ?_
      refine e_iadd aX3_readOne_23 ?_
      refine e_top (v := nI (6 - k)) ((nI_1 _).trans (congrArg nI (by omega))) ?_
      refine e_invv aX3_readOne_24 kX3_103 (k1 L (nxT (hI h 42) l p) sb wb hw (okp_n z) kS hv (by omega)) rfl rfl (fx_is F rfl) (Nat.le_of_ble_eq_true rfl) (by omega) (Nat.le_refl _) (Nat.le_refl _) (Nat.le_of_ble_eq_true rfl) ?_
      rintro v h2 ⟨rfl, L2, rfl, hL2, hs2⟩
      refine e_istore aX3_readOne_27 (Nat.le_of_ble_eq_true rfl) ?_
      refine e_aload_n aX3_readOne_29 rfl ?_
      refine e_invv aX3_readOne_30 kX3_119 (zX6_turn X (h := tH (lsH h L2) (oneF (hI h 42) l D n E c k (nxT (hI h 42) l p)).2.1) (sb := sb) (wb := wb) kS) rfl rfl kS.1 (Nat.le_of_ble_eq_true rfl) (by omega) (Nat.le_refl _) (Nat.le_refl _) (Nat.le_of_ble_eq_true rfl) ?_
      rintro v h2 ⟨rfl, g, rfl, hg⟩
      refine e_iload aX3_readOne_33 rfl ?_
      refine e_zreturn aX3_readOne_35 rfl b2_b (Nat.le_refl _) (Nat.le_refl _) ?_
      rw [oneF_s, if_pos q15]
      refine ⟨rfl, (fun a i => if a = wb then g i else L2 a i), rfl, fun x hx hx2 => (funext fun i => if_neg hx).trans (hL2 x hx (fun y => hx2 ⟨by omega, y.2⟩)), fun y u hu => ?_⟩
      show bitL (if wb = wb then g (u / 64) else L2 wb (u / 64)) (u % 64) = !(oneF (hI h 42) l D n E c k (nxT (hI h 42) l p)).2.2 u
      rw [if_pos rfl]
      exact (hg u hu).trans (congrArg (fun b => !b) (hs2 y u hu))
