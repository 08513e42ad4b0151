/-! the reference: factor at every depth (written by wip/whole/g70.py) -/
theorem oneF_0 {bt : Nat → Int32} {l n c : Nat} {D E : Nat → DD} {p : PT} : oneF bt l D n E c 0 p = bsF bt l D n E c p := rfl
theorem zfac_0 (X : EX) {l n c : Nat} {bt : Nat → Int32} {D E : Nat → DD} (hn : n ≤ 12) (hc : c ≤ 12) : N1 X bt l n c D E 0 := by
  intro h0 L p P0 ho
  have ho : hI h0 109 21 = nI 6 := ho
  refine ct_of rfl (Nat.le_of_ble_eq_true rfl) ?_
  have P := P0
  obtain ⟨F, t, ps, tk, cd, hL, hp2, a9, b9, hm, hf, hab, hN⟩ := P0
  have ok1 := tk.1.1
  have ok2 := tk.1.2
  have h120 := t.2.1
  refine e_aload_n aX9_factor_0 rfl ?_
  refine e_bipush (v := 11) aX9_factor_1 (by decide) ?_
  refine e_invvT aX9_factor_3 kX9_281 (zwd X F t ps tk (w9 := 11) (i9 := 9) (by decide) rfl) rfl rfl (fx_is F rfl) (Nat.le_of_ble_eq_true rfl) (by omega) (Nat.le_refl _) (Nat.le_refl _) (Nat.le_of_ble_eq_true rfl) ?_
  refine e_if_ne aX9_factor_6 (fun c6 => ?_) (fun c6 => ?_)
  · -- 6: taken
    have q6 := Decidable.of_not_not (fun z => c6 (b2_0.mpr z))
    refine e_aload_n aX9_factor_18 rfl ?_
    refine e_bipush (v := 11) aX9_factor_19 (by decide) ?_
    refine e_invvT aX9_factor_21 kX9_281 (zwd X F t ps tk (w9 := 11) (i9 := 9) (by decide) rfl) rfl rfl (fx_is F rfl) (Nat.le_of_ble_eq_true rfl) (by omega) (Nat.le_refl _) (Nat.le_refl _) (Nat.le_of_ble_eq_true rfl) ?_
    refine e_istore_n aX9_factor_24 (Nat.le_of_ble_eq_true rfl) ?_
    refine e_aload_n aX9_factor_25 rfl ?_
    refine e_aload_n aX9_factor_26 rfl ?_
    refine e_getIF aX9_factor_27 fX9_303 rfl (fx_is F rfl) ho ?_
    refine e_bipush (v := 6) aX9_factor_30 (by decide) ?_
    refine e_icmp_ge aX9_factor_32 (fun c32 => ?_) (fun c32 => ?_)
    · -- 32: taken
      refine e_iconst (v := 0) aX9_factor_39 (by decide) ?_
      refine e_top (v := b2 (false = true)) rfl ?_
      refine e_invv aX9_factor_40 kX9_287 (zX9_must X F t (u := (false, p)) ps ok2 false) rfl rfl (fx_is F rfl) (Nat.le_of_ble_eq_true rfl) (by omega) (Nat.le_refl _) (Nat.le_refl _) (Nat.le_of_ble_eq_true rfl) ?_
      rintro v h2 ⟨rfl, S2, ps2⟩
      have ps2 : PsM h2 (true, p) := ps2
      have F := S2.F F
      refine e_aload_n aX9_factor_43 rfl ?_
      refine e_getIF aX9_factor_44 fX9_274 rfl (fx_is F rfl) ps2.2.2 ?_
      refine e_if_eq aX9_factor_47 (fun c47 => ?_) (fun c47 => ?_)
      · -- 47: taken
        exact absurd rfl (b2_0.mp c47)
      · -- 47: not taken
        refine e_return aX9_factor_50 rfl (Nat.le_refl _) (Nat.le_refl _) ?_
        have q9 : tkQ bt p 9 = true ∨ tkQ bt p 10 = true := Or.inl q6
        rw [oneF_0, bsF_n q9]
        exact ⟨rfl, S2.PF, S2.2 _ _ (by unfold scP; omega), ps2, tk, Nat.le_refl _, [], CdC_0 (cd.sf S2 (by unfold scP; omega) (fun i => by unfold scP; omega)), by show 0 + p.1 ≤ p.1 + 1; omega, fun w => absurd w Bool.false_ne_true⟩
    · -- 32: not taken
      exact absurd (by decide) c32
  · -- 6: not taken
    have q6 := b2_0.mp c6
    refine e_aload_n aX9_factor_9 rfl ?_
    refine e_bipush (v := 40) aX9_factor_10 (by decide) ?_
    refine e_invvT aX9_factor_12 kX9_300 (zsg X F t (u := (false, p)) ps tk (i9 := 10) (by decide +kernel) sCh_v.1 (by decide)) rfl rfl (fx_is F rfl) (Nat.le_of_ble_eq_true rfl) (by omega) (Nat.le_refl _) (Nat.le_refl _) (Nat.le_of_ble_eq_true rfl) ?_
    refine e_if_eq aX9_factor_15 (fun c15 => ?_) (fun c15 => ?_)
    · -- 15: taken
      have q15 := b2_0.mp c15
      refine e_ls (ls' := [(0, some (vR (some 109)))]) ⟨rfl, trivial⟩ ?_
      exact ev_b9 X hn hc P (by omega)
    · -- 15: not taken
      have q15 := Decidable.of_not_not (fun z => c15 (b2_0.mpr z))
      refine e_aload_n aX9_factor_18 rfl ?_
      refine e_bipush (v := 11) aX9_factor_19 (by decide) ?_
      refine e_invvT aX9_factor_21 kX9_281 (zwd X F t ps tk (w9 := 11) (i9 := 9) (by decide) rfl) rfl rfl (fx_is F rfl) (Nat.le_of_ble_eq_true rfl) (by omega) (Nat.le_refl _) (Nat.le_refl _) (Nat.le_of_ble_eq_true rfl) ?_
      refine e_istore_n aX9_factor_24 (Nat.le_of_ble_eq_true rfl) ?_
      refine e_aload_n aX9_factor_25 rfl ?_
      refine e_aload_n aX9_factor_26 rfl ?_
      refine e_getIF aX9_factor_27 fX9_303 rfl (fx_is F rfl) ho ?_
      refine e_bipush (v := 6) aX9_factor_30 (by decide) ?_
      refine e_icmp_ge aX9_factor_32 (fun c32 => ?_) (fun c32 => ?_)
      · -- 32: taken
        refine e_iconst (v := 0) aX9_factor_39 (by decide) ?_
        refine e_top (v := b2 (false = true)) rfl ?_
        refine e_invv aX9_factor_40 kX9_287 (zX9_must X F t (u := (false, p)) ps ok2 false) rfl rfl (fx_is F rfl) (Nat.le_of_ble_eq_true rfl) (by omega) (Nat.le_refl _) (Nat.le_refl _) (Nat.le_of_ble_eq_true rfl) ?_
        rintro v h2 ⟨rfl, S2, ps2⟩
        have ps2 : PsM h2 (true, p) := ps2
        have F := S2.F F
        refine e_aload_n aX9_factor_43 rfl ?_
        refine e_getIF aX9_factor_44 fX9_274 rfl (fx_is F rfl) ps2.2.2 ?_
        refine e_if_eq aX9_factor_47 (fun c47 => ?_) (fun c47 => ?_)
        · -- 47: taken
          exact absurd rfl (b2_0.mp c47)
        · -- 47: not taken
          refine e_return aX9_factor_50 rfl (Nat.le_refl _) (Nat.le_refl _) ?_
          have q9 : tkQ bt p 9 = true ∨ tkQ bt p 10 = true := Or.inr q15
          rw [oneF_0, bsF_n q9]
          exact ⟨rfl, S2.PF, S2.2 _ _ (by unfold scP; omega), ps2, tk, Nat.le_refl _, [], CdC_0 (cd.sf S2 (by unfold scP; omega) (fun i => by unfold scP; omega)), by show 0 + p.1 ≤ p.1 + 1; omega, fun w => absurd w Bool.false_ne_true⟩
      · -- 32: not taken
        exact absurd (by decide) c32
theorem zfac_s (X : EX) {l n c : Nat} {bt : Nat → Int32} {D E : Nat → DD} (hn : n ≤ 12) (hc : c ≤ 12) {k : Nat} (hk : k < 6) (hF : N1 X bt l n c D E k) (hA : N3 X bt l n c D E k) : N1 X bt l n c D E (k + 1) := by
  intro h0 L p P0 ho
  refine ct_of rfl (Nat.le_of_ble_eq_true rfl) ?_
  have P := P0
  obtain ⟨F, t, ps, tk, cd, hL, hp2, a9, b9, hm, hf, hab, hN⟩ := P0
  have ok1 := tk.1.1
  have ok2 := tk.1.2
  have h120 := t.2.1
  refine e_aload_n aX9_factor_0 rfl ?_
  refine e_bipush (v := 11) aX9_factor_1 (by decide) ?_
  refine e_invvT aX9_factor_3 kX9_281 (zwd X F t ps tk (w9 := 11) (i9 := 9) (by decide) rfl) rfl rfl (fx_is F rfl) (Nat.le_of_ble_eq_true rfl) (by omega) (Nat.le_refl _) (Nat.le_refl _) (Nat.le_of_ble_eq_true rfl) ?_
  refine e_if_ne aX9_factor_6 (fun c6 => ?_) (fun c6 => ?_)
  · -- 6: taken
    have q6 := Decidable.of_not_not (fun z => c6 (b2_0.mpr z))
    refine e_aload_n aX9_factor_18 rfl ?_
    refine e_bipush (v := 11) aX9_factor_19 (by decide) ?_
    refine e_invvT aX9_factor_21 kX9_281 (zwd X F t ps tk (w9 := 11) (i9 := 9) (by decide) rfl) rfl rfl (fx_is F rfl) (Nat.le_of_ble_eq_true rfl) (by omega) (Nat.le_refl _) (Nat.le_refl _) (Nat.le_of_ble_eq_true rfl) ?_
    refine e_istore_n aX9_factor_24 (Nat.le_of_ble_eq_true rfl) ?_
    refine e_aload_n aX9_factor_25 rfl ?_
    refine e_aload_n aX9_factor_26 rfl ?_
    refine e_getIF aX9_factor_27 fX9_303 rfl (fx_is F rfl) ho ?_
    refine e_bipush (v := 6) aX9_factor_30 (by decide) ?_
    refine e_icmp_ge aX9_factor_32 (fun c32 => ?_) (fun c32 => ?_)
    · -- 32: taken
      exact absurd ((nI_leI (a := 6) (by decide) (by omega)).mp c32) (by omega)
    · -- 32: not taken
      refine e_iconst (v := 1) aX9_factor_35 (by decide) ?_
      refine e_goto aX9_factor_36 ?_
      refine e_top (v := b2 (true = true)) rfl ?_
      refine e_invv aX9_factor_40 kX9_287 (zX9_must X F t (u := (false, p)) ps ok2 true) rfl rfl (fx_is F rfl) (Nat.le_of_ble_eq_true rfl) (by omega) (Nat.le_refl _) (Nat.le_refl _) (Nat.le_of_ble_eq_true rfl) ?_
      rintro v h2 ⟨rfl, S2, ps2⟩
      have ps2 : PsM h2 (false, nxT bt l p) := ps2
      have F := S2.F F
      have o2 : hI h2 109 21 = nI (6 - (k + 1)) := (S2.2 _ _ (by unfold scP; omega)).trans ho
      refine e_aload_n aX9_factor_43 rfl ?_
      refine e_getIF aX9_factor_44 fX9_274 rfl (fx_is F rfl) ps2.2.2 ?_
      refine e_if_eq aX9_factor_47 (fun c47 => ?_) (fun c47 => ?_)
      · -- 47: taken
        have q9 : tkQ bt p 9 = true ∨ tkQ bt p 10 = true := Or.inl q6
        have g1 : p.1 + 1 ≤ (nxT bt l p).1 := by
          have := nx_ge (bt := bt) ok2
          have e4 := sLn_v
          rcases q9 with q | q <;> have := tkQ_ln q <;> omega
        refine e_aload_n aX9_factor_51 rfl ?_
        refine e_dup aX9_factor_52 rfl ?_
        refine e_getIF aX9_factor_53 fX9_303 rfl (fx_is F rfl) o2 ?_
        refine e_iconst (v := 1) aX9_factor_56 (by decide) ?_
        refine e_iadd aX9_factor_57 ?_
        refine e_top (nI_1 (6 - (k + 1))) ?_
        rw [show 6 - (k + 1) + 1 = 6 - k by omega]
        have S3 : Sf scF h0 (wI h2 109 21 (nI (6 - k))) := S2.PF.wI (Or.inr ⟨rfl, by omega⟩)
        have ps3 : PsM (wI h2 109 21 (nI (6 - k))) (false, nxT bt l p) := ⟨(wI_i (by decide)).trans ps2.1, (wI_i (by decide)).trans ps2.2.1, (wI_i (by decide)).trans ps2.2.2⟩
        have cd3 : CdC (wI h2 109 21 (nI (6 - k))) L := cd.sf (P := fun a i => scP a i ∨ (a = 109 ∧ i = 21)) ((S2.mono (fun _ _ q => Or.inl q)).wI (Or.inr ⟨rfl, rfl⟩)) (by unfold scP; omega) (fun i => by unfold scP; omega)
        have P3 : FcP bt l (wI h2 109 21 (nI (6 - k))) L (nxT bt l p) (n + c) := P.go S3 ps3 (TkI_n ok2) cd3 (by omega) (by omega)
        have o3 : hI (wI h2 109 21 (nI (6 - k))) 109 21 = nI (6 - k) := wI_s
        have F := P3.1
        refine e_putI aX9_factor_58 fX9_303 rfl (fx_is F rfl) (Or.inl rfl) ?_
        refine e_iload_n aX9_factor_61 rfl ?_
        refine e_if_eq aX9_factor_62 (fun c62 => ?_) (fun c62 => ?_)
        · -- 62: taken
          exact absurd q6 (b2_0.mp c62)
        · -- 62: not taken
          skip
          refine e_aload_n aX9_factor_65 rfl ?_
          refine e_invv aX9_factor_66 kX9_306 (hF _ L (nxT bt l p) P3 o3) rfl rfl (fx_is F rfl) (Nat.le_of_ble_eq_true rfl) (by omega) (Nat.le_refl _) (Nat.le_refl _) (Nat.le_of_ble_eq_true rfl) ?_
          rintro v h3 ⟨rfl, S4, o4, ps4, tk4, g4, cs, cd4, l4, ev4⟩
          have F := S4.F F
          have e7 := tk4.1.1
          have e8 := tk4.1.2
          have hlen : (L ++ cs).length = L.length + cs.length := List.length_append
          have hb3 : cs.length + (nxT bt l p).1 ≤ (oneF bt l D n E c k (nxT bt l p)).2.1.1 + 1 := Nat.le_trans l4 (Nat.add_le_add_left (by split <;> decide) _)
          refine e_aload_n aX9_factor_69 rfl ?_
          refine e_iconst (v := -1) aX9_factor_70 (by decide) ?_
          refine e_invvV aX9_factor_71 kX9_297 (zX9_codes X F (j := (L ++ cs).length) cd4.1 (by omega) (-1)) rfl rfl (fx_is F rfl) (Nat.le_of_ble_eq_true rfl) (by omega) (Nat.le_refl _) (Nat.le_refl _) (Nat.le_of_ble_eq_true rfl) ?_
          refine e_goto aX9_factor_74 ?_
          refine e_aload_n aX9_factor_91 rfl ?_
          refine e_dup aX9_factor_92 rfl ?_
          refine e_getIF aX9_factor_93 fX9_303 rfl (fx_is F rfl) ((wI_i (by decide)).trans ((wI_a (by decide)).trans (o4.trans o3))) ?_
          refine e_iconst (v := 1) aX9_factor_96 (by decide) ?_
          refine e_isub aX9_factor_97 ?_
          refine e_top (nI_subN (a := 6 - k) (b := 1) (by omega)) ?_
          rw [show 6 - k - 1 = 6 - (k + 1) by omega]
          refine e_putI aX9_factor_98 fX9_303 rfl (fx_is F rfl) (Or.inl rfl) ?_
          refine e_goto aX9_factor_101 ?_
          refine e_return aX9_factor_180 rfl (Nat.le_refl _) (Nat.le_refl _) ?_
          rw [oneF_s, if_pos q6]
          have cd5 := cd4.s (k := (-1))
          rw [show L ++ cs ++ [(-1 : Int32)] = L ++ (cs ++ [-1]) from List.append_assoc _ _ _] at cd5
          have hlen3 : (cs ++ [(-1 : Int32)]).length = cs.length + 1 := List.length_append
          have ps5 := psC (j := (L ++ cs).length) (k := (-1)) ps4
          refine ⟨rfl, (sfcF (S3.tr S4)).wI (Or.inr ⟨rfl, by omega⟩), wI_s.trans ho.symm, ⟨(wI_i (by decide)).trans ps5.1, (wI_i (by decide)).trans ps5.2.1, (wI_i (by decide)).trans ps5.2.2⟩, tk4, ?_, cs ++ [-1], ⟨(wI_i (by decide)).trans cd5.1, fun i hi => (wI_a (by decide)).trans (cd5.2 i hi)⟩, ?_, fun z => ⟨EvP_n (ev4 z).1, VaC_n (ev4 z).2 (Or.inl rfl)⟩⟩
          · show p.1 + (if (oneF bt l D n E c k (nxT bt l p)).1 = true then 1 else 0) ≤ (oneF bt l D n E c k (nxT bt l p)).2.1.1
            omega
          · show _ ≤ (oneF bt l D n E c k (nxT bt l p)).2.1.1 + (if (oneF bt l D n E c k (nxT bt l p)).1 = true then 0 else 1)
            rw [hlen3]
            omega
      · -- 47: not taken
        exact absurd rfl c47
  · -- 6: not taken
    have q6 := b2_0.mp c6
    refine e_aload_n aX9_factor_9 rfl ?_
    refine e_bipush (v := 40) aX9_factor_10 (by decide) ?_
    refine e_invvT aX9_factor_12 kX9_300 (zsg X F t (u := (false, p)) ps tk (i9 := 10) (by decide +kernel) sCh_v.1 (by decide)) rfl rfl (fx_is F rfl) (Nat.le_of_ble_eq_true rfl) (by omega) (Nat.le_refl _) (Nat.le_refl _) (Nat.le_of_ble_eq_true rfl) ?_
    refine e_if_eq aX9_factor_15 (fun c15 => ?_) (fun c15 => ?_)
    · -- 15: taken
      have q15 := b2_0.mp c15
      refine e_ls (ls' := [(0, some (vR (some 109)))]) ⟨rfl, trivial⟩ ?_
      rw [oneF_s, if_neg q6, if_neg (show ¬ tkQ bt p 10 = true from q15)]
      exact ev_b9 X hn hc P (by omega)
    · -- 15: not taken
      have q15 := Decidable.of_not_not (fun z => c15 (b2_0.mpr z))
      refine e_aload_n aX9_factor_18 rfl ?_
      refine e_bipush (v := 11) aX9_factor_19 (by decide) ?_
      refine e_invvT aX9_factor_21 kX9_281 (zwd X F t ps tk (w9 := 11) (i9 := 9) (by decide) rfl) rfl rfl (fx_is F rfl) (Nat.le_of_ble_eq_true rfl) (by omega) (Nat.le_refl _) (Nat.le_refl _) (Nat.le_of_ble_eq_true rfl) ?_
      refine e_istore_n aX9_factor_24 (Nat.le_of_ble_eq_true rfl) ?_
      refine e_aload_n aX9_factor_25 rfl ?_
      refine e_aload_n aX9_factor_26 rfl ?_
      refine e_getIF aX9_factor_27 fX9_303 rfl (fx_is F rfl) ho ?_
      refine e_bipush (v := 6) aX9_factor_30 (by decide) ?_
      refine e_icmp_ge aX9_factor_32 (fun c32 => ?_) (fun c32 => ?_)
      · -- 32: taken
        exact absurd ((nI_leI (a := 6) (by decide) (by omega)).mp c32) (by omega)
      · -- 32: not taken
        refine e_iconst (v := 1) aX9_factor_35 (by decide) ?_
        refine e_goto aX9_factor_36 ?_
        refine e_top (v := b2 (true = true)) rfl ?_
        refine e_invv aX9_factor_40 kX9_287 (zX9_must X F t (u := (false, p)) ps ok2 true) rfl rfl (fx_is F rfl) (Nat.le_of_ble_eq_true rfl) (by omega) (Nat.le_refl _) (Nat.le_refl _) (Nat.le_of_ble_eq_true rfl) ?_
        rintro v h2 ⟨rfl, S2, ps2⟩
        have ps2 : PsM h2 (false, nxT bt l p) := ps2
        have F := S2.F F
        have o2 : hI h2 109 21 = nI (6 - (k + 1)) := (S2.2 _ _ (by unfold scP; omega)).trans ho
        refine e_aload_n aX9_factor_43 rfl ?_
        refine e_getIF aX9_factor_44 fX9_274 rfl (fx_is F rfl) ps2.2.2 ?_
        refine e_if_eq aX9_factor_47 (fun c47 => ?_) (fun c47 => ?_)
        · -- 47: taken
          have q9 : tkQ bt p 9 = true ∨ tkQ bt p 10 = true := Or.inr q15
          have g1 : p.1 + 1 ≤ (nxT bt l p).1 := by
            have := nx_ge (bt := bt) ok2
            have e4 := sLn_v
            rcases q9 with q | q <;> have := tkQ_ln q <;> omega
          refine e_aload_n aX9_factor_51 rfl ?_
          refine e_dup aX9_factor_52 rfl ?_
          refine e_getIF aX9_factor_53 fX9_303 rfl (fx_is F rfl) o2 ?_
          refine e_iconst (v := 1) aX9_factor_56 (by decide) ?_
          refine e_iadd aX9_factor_57 ?_
          refine e_top (nI_1 (6 - (k + 1))) ?_
          rw [show 6 - (k + 1) + 1 = 6 - k by omega]
          have S3 : Sf scF h0 (wI h2 109 21 (nI (6 - k))) := S2.PF.wI (Or.inr ⟨rfl, by omega⟩)
          have ps3 : PsM (wI h2 109 21 (nI (6 - k))) (false, nxT bt l p) := ⟨(wI_i (by decide)).trans ps2.1, (wI_i (by decide)).trans ps2.2.1, (wI_i (by decide)).trans ps2.2.2⟩
          have cd3 : CdC (wI h2 109 21 (nI (6 - k))) L := cd.sf (P := fun a i => scP a i ∨ (a = 109 ∧ i = 21)) ((S2.mono (fun _ _ q => Or.inl q)).wI (Or.inr ⟨rfl, rfl⟩)) (by unfold scP; omega) (fun i => by unfold scP; omega)
          have P3 : FcP bt l (wI h2 109 21 (nI (6 - k))) L (nxT bt l p) (n + c) := P.go S3 ps3 (TkI_n ok2) cd3 (by omega) (by omega)
          have o3 : hI (wI h2 109 21 (nI (6 - k))) 109 21 = nI (6 - k) := wI_s
          have F := P3.1
          refine e_putI aX9_factor_58 fX9_303 rfl (fx_is F rfl) (Or.inl rfl) ?_
          refine e_iload_n aX9_factor_61 rfl ?_
          refine e_if_eq aX9_factor_62 (fun c62 => ?_) (fun c62 => ?_)
          · -- 62: taken
            skip
            refine e_aload_n aX9_factor_77 rfl ?_
            refine e_invv aX9_factor_78 kX9_309 (hA _ L (nxT bt l p) P3 o3) rfl rfl (fx_is F rfl) (Nat.le_of_ble_eq_true rfl) (by omega) (Nat.le_refl _) (Nat.le_refl _) (Nat.le_of_ble_eq_true rfl) ?_
            rintro v h3 ⟨rfl, S4, o4, ps4, tk4, g4, cs, cd4, l4, ev4⟩
            have F := S4.F F
            have t3 := (S3.tr S4).tbF t
            refine e_aload_n aX9_factor_81 rfl ?_
            refine e_aload_n aX9_factor_82 rfl ?_
            refine e_bipush (v := 41) aX9_factor_83 (by decide) ?_
            refine e_invvT aX9_factor_85 kX9_300 (zsg X F t3 ps4 tk4 (i9 := 11) (by decide +kernel) sCh_v.2.1 (by decide)) rfl rfl (fx_is F rfl) (Nat.le_of_ble_eq_true rfl) (by omega) (Nat.le_refl _) (Nat.le_refl _) (Nat.le_of_ble_eq_true rfl) ?_
            refine e_invv aX9_factor_88 kX9_287 (zX9_must X F t3 ps4 tk4.1.2 (!(!(anyF (oneF bt l D n E c k) bt l (nxT bt l p)).1) && tkQ bt (anyF (oneF bt l D n E c k) bt l (nxT bt l p)).2.1 11)) rfl rfl (fx_is F rfl) (Nat.le_of_ble_eq_true rfl) (by omega) (Nat.le_refl _) (Nat.le_refl _) (Nat.le_of_ble_eq_true rfl) ?_
            rintro v h4 ⟨rfl, S6, ps6⟩
            have F := S6.F F
            refine e_aload_n aX9_factor_91 rfl ?_
            refine e_dup aX9_factor_92 rfl ?_
            refine e_getIF aX9_factor_93 fX9_303 rfl (fx_is F rfl) ((S6.2 _ _ (by unfold scP; omega)).trans (o4.trans o3)) ?_
            refine e_iconst (v := 1) aX9_factor_96 (by decide) ?_
            refine e_isub aX9_factor_97 ?_
            refine e_top (nI_subN (a := 6 - k) (b := 1) (by omega)) ?_
            rw [show 6 - k - 1 = 6 - (k + 1) by omega]
            refine e_putI aX9_factor_98 fX9_303 rfl (fx_is F rfl) (Or.inl rfl) ?_
            refine e_goto aX9_factor_101 ?_
            refine e_return aX9_factor_180 rfl (Nat.le_refl _) (Nat.le_refl _) ?_
            rw [oneF_s, if_neg q6, if_pos (show tkQ bt p 10 = true from q15)]
            have S7 : Sf scF h0 (wI h4 109 21 (nI (6 - (k + 1)))) := ((S3.tr S4).tr S6.PF).wI (Or.inr ⟨rfl, by omega⟩)
            have cd7 : CdC (wI h4 109 21 (nI (6 - (k + 1)))) (L ++ cs) := cd4.sf (P := fun a i => scP a i ∨ (a = 109 ∧ i = 21)) ((S6.mono (fun _ _ q => Or.inl q)).wI (Or.inr ⟨rfl, rfl⟩)) (by unfold scP; omega) (fun i => by unfold scP; omega)
            have ps7 : PsM (wI h4 109 21 (nI (6 - (k + 1)))) (mF bt l (!(!(anyF (oneF bt l D n E c k) bt l (nxT bt l p)).1) && tkQ bt (anyF (oneF bt l D n E c k) bt l (nxT bt l p)).2.1 11) (!(anyF (oneF bt l D n E c k) bt l (nxT bt l p)).1, (anyF (oneF bt l D n E c k) bt l (nxT bt l p)).2.1)) := ⟨(wI_i (by decide)).trans ps6.1, (wI_i (by decide)).trans ps6.2.1, (wI_i (by decide)).trans ps6.2.2⟩
            have o7 : hI (wI h4 109 21 (nI (6 - (k + 1)))) 109 21 = hI h0 109 21 := wI_s.trans ho.symm
            generalize wI h4 109 21 (nI (6 - (k + 1))) = hZ9 at S7 cd7 ps7 o7 ⊢
            by_cases z : (anyF (oneF bt l D n E c k) bt l (nxT bt l p)).1 = true
            · rw [if_pos z] at g4 l4
              rw [if_pos z]
              rw [z] at ps7
              by_cases z2 : tkQ bt (anyF (oneF bt l D n E c k) bt l (nxT bt l p)).2.1 11 = true
              · rw [z2] at ps7 ⊢
                rw [tkX_t z2]
                have e4 := tkQ_ln z2
                have e5 := sLn_v
                have e6 := nx_ge (bt := bt) tk4.1.2
                exact ⟨rfl, S7, o7, ps7, TkI_n tk4.1.2, by show p.1 + 1 ≤ (nxT bt l (anyF (oneF bt l D n E c k) bt l (nxT bt l p)).2.1).1; omega, cs, cd7, by show cs.length + p.1 ≤ (nxT bt l (anyF (oneF bt l D n E c k) bt l (nxT bt l p)).2.1).1 + 0; omega, fun _ => ev4 z⟩
              · rw [Bool.eq_false_iff.mpr z2] at ps7 ⊢
                rw [tkX_f z2]
                exact ⟨rfl, S7, o7, ps7, tk4, by show p.1 + 0 ≤ (anyF (oneF bt l D n E c k) bt l (nxT bt l p)).2.1.1; omega, cs, cd7, by show cs.length + p.1 ≤ (anyF (oneF bt l D n E c k) bt l (nxT bt l p)).2.1.1 + 1; omega, fun w => absurd w Bool.false_ne_true⟩
            · rw [if_neg z] at g4 l4
              rw [if_neg z]
              rw [Bool.eq_false_iff.mpr z] at ps7
              exact ⟨rfl, S7, o7, ps7, tk4, by show p.1 + 0 ≤ (anyF (oneF bt l D n E c k) bt l (nxT bt l p)).2.1.1; omega, cs, cd7, by show cs.length + p.1 ≤ (anyF (oneF bt l D n E c k) bt l (nxT bt l p)).2.1.1 + 1; omega, fun w => absurd w Bool.false_ne_true⟩
          · -- 62: not taken
            exact absurd (Decidable.of_not_not (fun z => c62 (b2_0.mpr z))) q6
        · -- 47: not taken
          exact absurd rfl c47
theorem zcond (X : EX) {l n c : Nat} {bt : Nat → Int32} {D E : Nat → DD} (hn : n ≤ 12) (hc : c ≤ 12) : ∀ k, k ≤ 6 → N1 X bt l n c D E k ∧ N3 X bt l n c D E k := by
  intro k
  induction k with
  | zero =>
    intro _
    have h1 := zfac_0 X (bt := bt) (l := l) (D := D) (E := E) hn hc
    exact ⟨h1, zeither X hn hc (zboth X hn hc h1)⟩
  | succ k ih =>
    intro hk
    obtain ⟨i1, i2⟩ := ih (by omega)
    have h1 := zfac_s X hn hc (by omega) i1 i2
    exact ⟨h1, zeither X hn hc (zboth X hn hc h1)⟩
