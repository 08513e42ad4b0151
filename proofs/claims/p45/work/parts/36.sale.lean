/-! contracts: Deal, sale, swap (written by wip/p45/g36.py) -/
def dlH (h : HP) (z : Nat) (k f t p q m : Int32) (c : Option Nat) : HP := wR (wI (wI (wI (wI (wI (wI h z 0 k) z 1 f) z 2 t) z 3 p) z 4 q) z 5 m) z 6 c
theorem zX1_init (X : EX) {h : HP} {z : Nat} (kz : Is h z 2) (k f t p q m : Int32) (c : Option Nat) : Ct X mX1_init 1 0 0 [vR (some z), vI k, vI f, vI t, vI p, vI q, vI m, vR c] h (Rv (dlH h z k f t p q m c)) := by
  refine ct_of rfl (Nat.le_of_ble_eq_true rfl) ?_
  refine e_aload_n aX1_init_0 rfl ?_
  refine e_objInit aX1_init_1 kX1_3 w_objI w_objC (Nat.le_of_ble_eq_true rfl) (Nat.le_of_ble_eq_true rfl) ?_
  refine e_aload_n aX1_init_4 rfl ?_
  refine e_iload_n aX1_init_5 rfl ?_
  refine e_putI aX1_init_6 fX1_9 rfl kz (Or.inr ⟨rfl, fun r q => by cases q; rfl⟩) ?_
  refine e_aload_n aX1_init_9 rfl ?_
  refine e_iload_n aX1_init_10 rfl ?_
  refine e_putI aX1_init_11 fX1_15 rfl kz (Or.inr ⟨rfl, fun r q => by cases q; rfl⟩) ?_
  refine e_aload_n aX1_init_14 rfl ?_
  refine e_iload_n aX1_init_15 rfl ?_
  refine e_putI aX1_init_16 fX1_18 rfl kz (Or.inr ⟨rfl, fun r q => by cases q; rfl⟩) ?_
  refine e_aload_n aX1_init_19 rfl ?_
  refine e_iload aX1_init_20 rfl ?_
  refine e_putI aX1_init_22 fX1_21 rfl kz (Or.inr ⟨rfl, fun r q => by cases q; rfl⟩) ?_
  refine e_aload_n aX1_init_25 rfl ?_
  refine e_iload aX1_init_26 rfl ?_
  refine e_putI aX1_init_28 fX1_24 rfl kz (Or.inr ⟨rfl, fun r q => by cases q; rfl⟩) ?_
  refine e_aload_n aX1_init_31 rfl ?_
  refine e_iload aX1_init_32 rfl ?_
  refine e_putI aX1_init_34 fX1_27 rfl kz (Or.inr ⟨rfl, fun r q => by cases q; rfl⟩) ?_
  refine e_aload_n aX1_init_37 rfl ?_
  refine e_aload aX1_init_38 rfl ?_
  refine e_putR aX1_init_40 fX1_30 rfl kz (Or.inr ⟨rfl, fun r q => by cases q; rfl⟩) ?_
  refine e_return aX1_init_43 rfl (Nat.le_refl _) (Nat.le_refl _) ?_
  exact ⟨rfl, rfl⟩
theorem dlH_G {h : HP} {k f t p q m : Int32} {c : Option Nat} : Gb h (dlH (nw h 2 0) (hZ h) k f t p q m c) := (((((((Gb.rf h).nw.wI (Nat.le_refl _)).wI (Nat.le_refl _)).wI (Nat.le_refl _)).wI (Nat.le_refl _)).wI (Nat.le_refl _)).wI (Nat.le_refl _)).wR (Nat.le_refl _)
/-- a DEAL without a CONDITION -/
def dNo (k f t p : Nat) (q : Option Nat) (m : Nat) : DD := (k, f, t, p, q, m, false, fun _ => true)
theorem dlH_C {h : HP} (F : Fx h) {k f t p m : Nat} {q : Option Nat} (w : dWf (dNo k f t p q m)) : DealC (dlH (nw h 2 0) (hZ h) (nI k) (nI f) (nI t) (nI p) (oI q) (nI m) none) (hZ h) (dNo k f t p q m) := by
  have h134 : 116 ≤ hZ h := F.1
  refine ⟨h134, is_ns (by omega), w, ?_, ?_, ?_, ?_, ?_, ?_, Or.inl ⟨rfl, up2_s⟩⟩
  · exact (up2_i (by decide)).trans ((up2_i (by decide)).trans ((up2_i (by decide)).trans ((up2_i (by decide)).trans ((up2_i (by decide)).trans up2_s))))
  · exact (up2_i (by decide)).trans ((up2_i (by decide)).trans ((up2_i (by decide)).trans ((up2_i (by decide)).trans up2_s)))
  · exact (up2_i (by decide)).trans ((up2_i (by decide)).trans ((up2_i (by decide)).trans up2_s))
  · exact (up2_i (by decide)).trans ((up2_i (by decide)).trans up2_s)
  · exact (up2_i (by decide)).trans up2_s
  · exact up2_s
theorem np_of {x y : Int32} (z : ¬ ((x < 0 ∨ 3 ≤ x) ∨ (y < 0 ∨ 3 ≤ y) ∨ x = y)) : ∃ a b, a < 3 ∧ b < 3 ∧ a ≠ b ∧ x = nI a ∧ y = nI b := by
  obtain ⟨a, ha, rfl⟩ := ou_of 3 (by decide) (fun w => z (Or.inl w))
  obtain ⟨b, hb, rfl⟩ := ou_of 3 (by decide) (fun w => z (Or.inr (Or.inl w)))
  exact ⟨a, b, ha, hb, fun e => z (Or.inr (Or.inr (by rw [e]))), rfl, rfl⟩
abbrev slK (x : Int32) : Prop := x = 0 ∨ x = 1 ∨ x = 3 ∨ x = 4
theorem slK_of {x : Int32} (z : slK x) : ∃ k, (k = 0 ∨ k = 1 ∨ k = 3 ∨ k = 4) ∧ x = nI k := by
  rcases z with rfl | rfl | rfl | rfl
  · exact ⟨0, Or.inl rfl, rfl⟩
  · exact ⟨1, Or.inr (Or.inl rfl), rfl⟩
  · exact ⟨3, Or.inr (Or.inr (Or.inl rfl)), rfl⟩
  · exact ⟨4, Or.inr (Or.inr (Or.inr rfl)), rfl⟩
theorem dNo_1 {k f t p m : Nat} (hk : k = 0 ∨ k = 1 ∨ k = 3 ∨ k = 4) (hf : f < 3) (ht : t < 3) (e : f ≠ t) (hp : p < 12) (hm : m ≤ 2) (hkm : k = 0 ↔ m = 0) : dWf (dNo k f t p none m) := by
  refine ⟨by show k < 6; omega, hf, ht, e, hp, ⟨fun z => ?_, fun z => by cases z⟩, (fun q z => by cases z), hm, ⟨fun z => ?_, fun z => ?_⟩, fun _ _ => rfl⟩
  · have z : k = 2 ∨ k = 5 := z
    omega
  · have z : k = 0 ∨ k = 2 := z
    show m = 0
    omega
  · have z : m = 0 := z
    show k = 0 ∨ k = 2
    omega
theorem dNo_2 {f t p q m : Nat} (hf : f < 3) (ht : t < 3) (e : f ≠ t) (hp : p < 12) (hq : q < 12) (e2 : p ≠ q) (e3 : p / 3 = q / 3) (hm : m ≤ 2) : dWf (dNo (if m = 0 then 2 else 5) f t p (some q) m) := by
  have hk : (if m = 0 then 2 else 5) = 2 ∧ m = 0 ∨ (if m = 0 then 2 else 5) = 5 ∧ m ≠ 0 := by
    by_cases z : m = 0
    · exact Or.inl ⟨if_pos z, z⟩
    · exact Or.inr ⟨if_neg z, z⟩
  refine ⟨by show (if m = 0 then 2 else 5) < 6; omega, hf, ht, e, hp, ⟨fun _ => rfl, fun _ => by show (if m = 0 then 2 else 5) = 2 ∨ (if m = 0 then 2 else 5) = 5; omega⟩, fun r z => ?_, hm, ⟨fun z => ?_, fun z => ?_⟩, fun _ _ => rfl⟩
  · cases z
    exact ⟨hq, Ne.symm e2, e3.symm⟩
  · have z : (if m = 0 then 2 else 5) = 0 ∨ (if m = 0 then 2 else 5) = 2 := z
    show m = 0
    omega
  · have z : m = 0 := z
    show (if m = 0 then 2 else 5) = 0 ∨ (if m = 0 then 2 else 5) = 2
    omega
/-- what a DEAL entered answers -/
def entR (h : HP) (D : Nat → DD) (n f : Nat) (o : Nat → Nat) (x y t p q m : Int32) (d : DD) : Option VV → HP → Prop := Rt (entV D n d f o) (entH (dlH (nw h 2 0) (hZ h) x y t p q m none) (hZ h) D n d f o)
theorem entV_I (D : Nat → DD) (n : Nat) (d : DD) (f : Nat) (o : Nat → Nat) : ∃ x, entV D n d f o = vI x := by
  unfold entV
  split
  · exact ⟨_, rfl⟩
  · split
    · exact ⟨_, rfl⟩
    · split
      · exact ⟨_, rfl⟩
      · exact ⟨_, rfl⟩
theorem e_retE {X : EX} {y : MD} {d1 mc ms : Nat} {Q : Option VV → HP → Prop} {cells slots pc pc' : Nat} {ls : ZL} {h : HP} {D : Nat → DD} {n : Nat} {d : DD} {f : Nat} {o : Nat → Nat} (hd : At y.2.1 pc .ireturn 1 pc') (hr : y.2.2.2 = some .int) (hc : cells ≤ mc) (hs : slots ≤ ms) (hQ : Q (some (entV D n d f o)) h) : Ev X y d1 mc ms Q cells slots pc ls [entV D n d f o] h := by
  obtain ⟨x, e⟩ := entV_I D n d f o
  rw [e] at hQ ⊢
  exact e_ireturn hd hr hc hs hQ
theorem zX8_sale (X : EX) {h : HP} (F : Fx h) {f n : Nat} {o : Nat → Nat} {A : Nat → Nat} {D : Nat → DD} (bf : BkF h f o) (b : BkD h n A D) (x y t p q : Int32) : Ct X mX8_sale 7 1 7 [vR (some 32), vI x, vI y, vI t, vI p, vI q] h (if slK x then (if (y < 0 ∨ 3 ≤ y) ∨ (t < 0 ∨ 3 ≤ t) ∨ y = t then RF h 0 else if p < 0 ∨ 12 ≤ p then RF h 0 else if x = 0 then entR h D n f o 0 y t p (-1) 0 (dNo 0 y.toNatClampNeg t.toNatClampNeg p.toNatClampNeg none 0) else if q < 1 then RF h 0 else if q ≤ 2 then entR h D n f o x y t p (-1) q (dNo x.toNatClampNeg y.toNatClampNeg t.toNatClampNeg p.toNatClampNeg none q.toNatClampNeg) else RF h 0) else RF h 0) := by
  refine ct_of rfl (Nat.le_of_ble_eq_true rfl) ?_
  have h32 : 32 ≤ hZ h := by have : 116 ≤ hZ h := F.1; omega
  have tail : Ev X mX8_sale 7 1 7 (if slK x then (if (y < 0 ∨ 3 ≤ y) ∨ (t < 0 ∨ 3 ≤ t) ∨ y = t then RF h 0 else if p < 0 ∨ 12 ≤ p then RF h 0 else if x = 0 then entR h D n f o 0 y t p (-1) 0 (dNo 0 y.toNatClampNeg t.toNatClampNeg p.toNatClampNeg none 0) else if q < 1 then RF h 0 else if q ≤ 2 then entR h D n f o x y t p (-1) q (dNo x.toNatClampNeg y.toNatClampNeg t.toNatClampNeg p.toNatClampNeg none q.toNatClampNeg) else RF h 0) else RF h 0) 0 0 26 [(0, some (vR (some 32))), (1, some (vI x)), (2, some (vI y)), (3, some (vI t)), (4, some (vI p)), (5, some (vI q)), (6, some (vI (b2 (slK x))))] [] h := by
    refine e_iload aX8_sale_26 rfl ?_
    refine e_if_eq aX8_sale_28 (fun c28 => ?_) (fun c28 => ?_)
    · -- 28: taken
      have q28 := b2_0.mp c28
      refine e_aload_n aX8_sale_49 rfl ?_
      refine e_iconst (v := 0) aX8_sale_50 (by decide) ?_
      refine e_invvT aX8_sale_51 kX8_62 (zfin X (k := 0) F (by decide)) rfl rfl (fx_is F rfl) (Nat.le_of_ble_eq_true rfl) (Nat.le_of_ble_eq_true rfl) (Nat.le_of_ble_eq_true rfl) (Nat.le_of_ble_eq_true rfl) (Nat.le_of_ble_eq_true rfl) ?_
      refine e_ireturn aX8_sale_54 rfl (Nat.le_of_ble_eq_true rfl) (Nat.le_of_ble_eq_true rfl) ?_
      rw [if_neg q28]
      exact ⟨rfl, rfl⟩
    · -- 28: not taken
      have q28 := Decidable.of_not_not (fun z => c28 (b2_0.mpr z))
      refine e_iload_n aX8_sale_31 rfl ?_
      refine e_iload_n aX8_sale_32 rfl ?_
      refine e_invsT aX8_sale_33 kX8_91 (zX8_areNoPair X _ _) rfl rfl (Nat.le_of_ble_eq_true rfl) (Nat.le_of_ble_eq_true rfl) (Nat.le_of_ble_eq_true rfl) (Nat.le_of_ble_eq_true rfl) (Nat.le_of_ble_eq_true rfl) ?_
      refine e_if_ne aX8_sale_36 (fun c36 => ?_) (fun c36 => ?_)
      · -- 36: taken
        have q36 := Decidable.of_not_not (fun z => c36 (b2_0.mpr z))
        refine e_aload_n aX8_sale_49 rfl ?_
        refine e_iconst (v := 0) aX8_sale_50 (by decide) ?_
        refine e_invvT aX8_sale_51 kX8_62 (zfin X (k := 0) F (by decide)) rfl rfl (fx_is F rfl) (Nat.le_of_ble_eq_true rfl) (Nat.le_of_ble_eq_true rfl) (Nat.le_of_ble_eq_true rfl) (Nat.le_of_ble_eq_true rfl) (Nat.le_of_ble_eq_true rfl) ?_
        refine e_ireturn aX8_sale_54 rfl (Nat.le_of_ble_eq_true rfl) (Nat.le_of_ble_eq_true rfl) ?_
        rw [if_pos q28, if_pos q36]
        exact ⟨rfl, rfl⟩
      · -- 36: not taken
        have q36 := b2_0.mp c36
        obtain ⟨az, bz, haz, hbz, habz, rfl, rfl⟩ := np_of q36
        refine e_iload aX8_sale_39 rfl ?_
        refine e_bipush (v := 12) aX8_sale_41 (by decide) ?_
        refine e_invsT aX8_sale_43 kX8_58 (zX8_isOutside X _ _) rfl rfl (Nat.le_of_ble_eq_true rfl) (Nat.le_of_ble_eq_true rfl) (Nat.le_of_ble_eq_true rfl) (Nat.le_of_ble_eq_true rfl) (Nat.le_of_ble_eq_true rfl) ?_
        refine e_if_eq aX8_sale_46 (fun c46 => ?_) (fun c46 => ?_)
        · -- 46: taken
          have q46 := b2_0.mp c46
          obtain ⟨pz, hpz, rfl⟩ := ou_of 12 (by decide) q46
          refine e_iload_n aX8_sale_55 rfl ?_
          refine e_if_eq aX8_sale_56 (fun c56 => ?_) (fun c56 => ?_)
          · -- 56: taken
            have q56 : x = 0 := c56
            subst q56
            refine e_aload_n aX8_sale_77 rfl ?_
            refine e_new aX8_sale_78 nX8_40 (Nat.le_of_ble_eq_true rfl) (Nat.le_of_ble_eq_true rfl) ?_
            refine e_dup aX8_sale_81 rfl ?_
            refine e_iload_n aX8_sale_82 rfl ?_
            refine e_iload_n aX8_sale_83 rfl ?_
            refine e_iload_n aX8_sale_84 rfl ?_
            refine e_iload aX8_sale_85 rfl ?_
            refine e_iconst (v := -1) aX8_sale_87 (by decide) ?_
            refine e_iload_n aX8_sale_88 rfl ?_
            refine e_if_ne aX8_sale_89 (fun c89 => ?_) (fun c89 => ?_)
            · -- 89: taken
              exact absurd rfl c89
            · -- 89: not taken
              have wf : dWf (dNo 0 az bz pz none 0) := dNo_1 (Or.inl rfl) haz hbz habz hpz (by decide) ⟨fun _ => rfl, fun _ => rfl⟩
              have G1 : Gb h (dlH (nw h 2 0) (hZ h) 0 (nI az) (nI bz) (nI pz) (-1) 0 none) := dlH_G
              have kd : DealC (dlH (nw h 2 0) (hZ h) 0 (nI az) (nI bz) (nI pz) (-1) 0 none) (hZ h) (dNo 0 az bz pz none 0) := dlH_C (k := 0) (m := 0) (q := none) F wf
              refine e_iconst (v := 0) aX8_sale_92 (by decide) ?_
              refine e_goto aX8_sale_93 ?_
              refine e_aconst_null aX8_sale_98 ?_
              skip
              refine e_invi aX8_sale_99 kX8_94 (zX1_init X (h := nw h 2 0) (z := hZ h) (is_ns h32) _ _ _ _ _ _ _) rfl rfl (Nat.le_of_ble_eq_true rfl) (Nat.le_of_ble_eq_true rfl) (Nat.le_of_ble_eq_true rfl) (Nat.le_of_ble_eq_true rfl) (Nat.le_of_ble_eq_true rfl) ?_
              rintro v h2 ⟨rfl, rfl⟩
              have bf1 := G1.bf F bf
              have b1 := G1.bd F b
              have F := G1.F F
              refine e_invvT aX8_sale_102 kX8_97 (zX8_enter X F bf1 b1 kd) rfl rfl (fx_is F rfl) (Nat.le_of_ble_eq_true rfl) (Nat.le_of_ble_eq_true rfl) (Nat.le_of_ble_eq_true rfl) (Nat.le_of_ble_eq_true rfl) (Nat.le_of_ble_eq_true rfl) ?_
              refine e_retE aX8_sale_105 rfl (Nat.le_of_ble_eq_true rfl) (Nat.le_of_ble_eq_true rfl) ?_
              rw [if_pos q28, if_neg q36, if_neg q46, if_pos rfl, cl (n := az) (by omega), cl (n := bz) (by omega), cl (n := pz) (by omega)]
              exact ⟨rfl, rfl⟩
          · -- 56: not taken
            have q56 : ¬ x = 0 := c56
            refine e_iload aX8_sale_59 rfl ?_
            refine e_iconst (v := 1) aX8_sale_61 (by decide) ?_
            refine e_icmp_lt aX8_sale_62 (fun c62 => ?_) (fun c62 => ?_)
            · -- 62: taken
              have q62 : q < 1 := c62
              refine e_aload_n aX8_sale_71 rfl ?_
              refine e_iconst (v := 0) aX8_sale_72 (by decide) ?_
              refine e_invvT aX8_sale_73 kX8_62 (zfin X (k := 0) F (by decide)) rfl rfl (fx_is F rfl) (Nat.le_of_ble_eq_true rfl) (Nat.le_of_ble_eq_true rfl) (Nat.le_of_ble_eq_true rfl) (Nat.le_of_ble_eq_true rfl) (Nat.le_of_ble_eq_true rfl) ?_
              refine e_ireturn aX8_sale_76 rfl (Nat.le_of_ble_eq_true rfl) (Nat.le_of_ble_eq_true rfl) ?_
              rw [if_pos q28, if_neg q36, if_neg q46, if_neg q56, if_pos q62]
              exact ⟨rfl, rfl⟩
            · -- 62: not taken
              have q62 : ¬ q < 1 := c62
              refine e_iload aX8_sale_65 rfl ?_
              refine e_iconst (v := 2) aX8_sale_67 (by decide) ?_
              refine e_icmp_le aX8_sale_68 (fun c68 => ?_) (fun c68 => ?_)
              · -- 68: taken
                have q68 : q ≤ 2 := c68
                obtain ⟨kz, hkz, rfl⟩ := slK_of q28
                obtain ⟨nz, hnz, rfl⟩ := ou_of 3 (by decide) (v := q) (fun z => z.elim (fun z => q62 (Int32.lt_trans z (by decide))) (fun z => absurd (Int32.le_trans z q68) (by decide)))
                have hn1 : 1 ≤ nz := by
                  rcases Nat.eq_zero_or_pos nz with z | z
                  · subst z; exact absurd (by decide) q62
                  · exact z
                refine e_aload_n aX8_sale_77 rfl ?_
                refine e_new aX8_sale_78 nX8_40 (Nat.le_of_ble_eq_true rfl) (Nat.le_of_ble_eq_true rfl) ?_
                refine e_dup aX8_sale_81 rfl ?_
                refine e_iload_n aX8_sale_82 rfl ?_
                refine e_iload_n aX8_sale_83 rfl ?_
                refine e_iload_n aX8_sale_84 rfl ?_
                refine e_iload aX8_sale_85 rfl ?_
                refine e_iconst (v := -1) aX8_sale_87 (by decide) ?_
                refine e_iload_n aX8_sale_88 rfl ?_
                refine e_if_ne aX8_sale_89 (fun c89 => ?_) (fun c89 => ?_)
                · -- 89: taken
                  have wf : dWf (dNo kz az bz pz none nz) := dNo_1 hkz haz hbz habz hpz (by omega) ⟨fun e => absurd (by rw [e]; rfl) q56, fun e => by omega⟩
                  have G1 : Gb h (dlH (nw h 2 0) (hZ h) (nI kz) (nI az) (nI bz) (nI pz) (-1) (nI nz) none) := dlH_G
                  have kd : DealC (dlH (nw h 2 0) (hZ h) (nI kz) (nI az) (nI bz) (nI pz) (-1) (nI nz) none) (hZ h) (dNo kz az bz pz none nz) := dlH_C (q := none) F wf
                  refine e_iload aX8_sale_96 rfl ?_
                  refine e_aconst_null aX8_sale_98 ?_
                  skip
                  refine e_invi aX8_sale_99 kX8_94 (zX1_init X (h := nw h 2 0) (z := hZ h) (is_ns h32) _ _ _ _ _ _ _) rfl rfl (Nat.le_of_ble_eq_true rfl) (Nat.le_of_ble_eq_true rfl) (Nat.le_of_ble_eq_true rfl) (Nat.le_of_ble_eq_true rfl) (Nat.le_of_ble_eq_true rfl) ?_
                  rintro v h2 ⟨rfl, rfl⟩
                  have bf1 := G1.bf F bf
                  have b1 := G1.bd F b
                  have F := G1.F F
                  refine e_invvT aX8_sale_102 kX8_97 (zX8_enter X F bf1 b1 kd) rfl rfl (fx_is F rfl) (Nat.le_of_ble_eq_true rfl) (Nat.le_of_ble_eq_true rfl) (Nat.le_of_ble_eq_true rfl) (Nat.le_of_ble_eq_true rfl) (Nat.le_of_ble_eq_true rfl) ?_
                  refine e_retE aX8_sale_105 rfl (Nat.le_of_ble_eq_true rfl) (Nat.le_of_ble_eq_true rfl) ?_
                  rw [if_pos q28, if_neg q36, if_neg q46, if_neg q56, if_neg q62, if_pos q68, cl (n := kz) (by omega), cl (n := az) (by omega), cl (n := bz) (by omega), cl (n := pz) (by omega), cl (n := nz) (by omega)]
                  exact ⟨rfl, rfl⟩
                · -- 89: not taken
                  exact absurd c89 q56
              · -- 68: not taken
                have q68 : ¬ q ≤ 2 := c68
                refine e_aload_n aX8_sale_71 rfl ?_
                refine e_iconst (v := 0) aX8_sale_72 (by decide) ?_
                refine e_invvT aX8_sale_73 kX8_62 (zfin X (k := 0) F (by decide)) rfl rfl (fx_is F rfl) (Nat.le_of_ble_eq_true rfl) (Nat.le_of_ble_eq_true rfl) (Nat.le_of_ble_eq_true rfl) (Nat.le_of_ble_eq_true rfl) (Nat.le_of_ble_eq_true rfl) ?_
                refine e_ireturn aX8_sale_76 rfl (Nat.le_of_ble_eq_true rfl) (Nat.le_of_ble_eq_true rfl) ?_
                rw [if_pos q28, if_neg q36, if_neg q46, if_neg q56, if_neg q62, if_neg q68]
                exact ⟨rfl, rfl⟩
        · -- 46: not taken
          have q46 := Decidable.of_not_not (fun z => c46 (b2_0.mpr z))
          refine e_aload_n aX8_sale_49 rfl ?_
          refine e_iconst (v := 0) aX8_sale_50 (by decide) ?_
          refine e_invvT aX8_sale_51 kX8_62 (zfin X (k := 0) F (by decide)) rfl rfl (fx_is F rfl) (Nat.le_of_ble_eq_true rfl) (Nat.le_of_ble_eq_true rfl) (Nat.le_of_ble_eq_true rfl) (Nat.le_of_ble_eq_true rfl) (Nat.le_of_ble_eq_true rfl) ?_
          refine e_ireturn aX8_sale_54 rfl (Nat.le_of_ble_eq_true rfl) (Nat.le_of_ble_eq_true rfl) ?_
          rw [if_pos q28, if_neg q36, if_pos q46]
          exact ⟨rfl, rfl⟩
  refine e_iload_n aX8_sale_0 rfl ?_
  refine e_if_eq aX8_sale_1 (fun c1 => ?_) (fun c1 => ?_)
  · -- 1: taken
    refine e_iconst (v := 1) aX8_sale_19 (by decide) ?_
    refine e_goto aX8_sale_20 ?_
    refine e_istore aX8_sale_24 (Nat.le_of_ble_eq_true rfl) ?_
    refine e_ls (ls' := [(0, some (vR (some 32))), (1, some (vI x)), (2, some (vI y)), (3, some (vI t)), (4, some (vI p)), (5, some (vI q)), (6, some (vI (b2 (slK x))))]) ⟨rfl, rfl, rfl, rfl, rfl, rfl, congrArg (fun x => some (vI x)) ((b2_t (Or.inl c1)).symm), trivial⟩ ?_
    exact tail
  · -- 1: not taken
    refine e_iload_n aX8_sale_4 rfl ?_
    refine e_iconst (v := 1) aX8_sale_5 (by decide) ?_
    refine e_icmp_eq aX8_sale_6 (fun c6 => ?_) (fun c6 => ?_)
    · -- 6: taken
      refine e_iconst (v := 1) aX8_sale_19 (by decide) ?_
      refine e_goto aX8_sale_20 ?_
      refine e_istore aX8_sale_24 (Nat.le_of_ble_eq_true rfl) ?_
      refine e_ls (ls' := [(0, some (vR (some 32))), (1, some (vI x)), (2, some (vI y)), (3, some (vI t)), (4, some (vI p)), (5, some (vI q)), (6, some (vI (b2 (slK x))))]) ⟨rfl, rfl, rfl, rfl, rfl, rfl, congrArg (fun x => some (vI x)) ((b2_t (Or.inr (Or.inl c6))).symm), trivial⟩ ?_
      exact tail
    · -- 6: not taken
      refine e_iload_n aX8_sale_9 rfl ?_
      refine e_iconst (v := 3) aX8_sale_10 (by decide) ?_
      refine e_icmp_eq aX8_sale_11 (fun c11 => ?_) (fun c11 => ?_)
      · -- 11: taken
        refine e_iconst (v := 1) aX8_sale_19 (by decide) ?_
        refine e_goto aX8_sale_20 ?_
        refine e_istore aX8_sale_24 (Nat.le_of_ble_eq_true rfl) ?_
        refine e_ls (ls' := [(0, some (vR (some 32))), (1, some (vI x)), (2, some (vI y)), (3, some (vI t)), (4, some (vI p)), (5, some (vI q)), (6, some (vI (b2 (slK x))))]) ⟨rfl, rfl, rfl, rfl, rfl, rfl, congrArg (fun x => some (vI x)) ((b2_t (Or.inr (Or.inr (Or.inl c11)))).symm), trivial⟩ ?_
        exact tail
      · -- 11: not taken
        refine e_iload_n aX8_sale_14 rfl ?_
        refine e_iconst (v := 4) aX8_sale_15 (by decide) ?_
        refine e_icmp_ne aX8_sale_16 (fun c16 => ?_) (fun c16 => ?_)
        · -- 16: taken
          refine e_iconst (v := 0) aX8_sale_23 (by decide) ?_
          refine e_istore aX8_sale_24 (Nat.le_of_ble_eq_true rfl) ?_
          refine e_ls (ls' := [(0, some (vR (some 32))), (1, some (vI x)), (2, some (vI y)), (3, some (vI t)), (4, some (vI p)), (5, some (vI q)), (6, some (vI (b2 (slK x))))]) ⟨rfl, rfl, rfl, rfl, rfl, rfl, congrArg (fun x => some (vI x)) ((b2_f (fun z => z.elim c1 (fun z => z.elim c6 (fun z => z.elim c11 c16)))).symm), trivial⟩ ?_
          exact tail
        · -- 16: not taken
          refine e_iconst (v := 1) aX8_sale_19 (by decide) ?_
          refine e_goto aX8_sale_20 ?_
          refine e_istore aX8_sale_24 (Nat.le_of_ble_eq_true rfl) ?_
          refine e_ls (ls' := [(0, some (vR (some 32))), (1, some (vI x)), (2, some (vI y)), (3, some (vI t)), (4, some (vI p)), (5, some (vI q)), (6, some (vI (b2 (slK x))))]) ⟨rfl, rfl, rfl, rfl, rfl, rfl, congrArg (fun x => some (vI x)) ((b2_t (Or.inr (Or.inr (Or.inr c16)))).symm), trivial⟩ ?_
          exact tail
theorem zX8_swap (X : EX) {h : HP} (F : Fx h) {f n : Nat} {o : Nat → Nat} {A : Nat → Nat} {D : Nat → DD} (bf : BkF h f o) (b : BkD h n A D) (x y p q m : Int32) : Ct X mX8_swap 7 1 7 [vR (some 32), vI x, vI y, vI p, vI q, vI m] h (if (x < 0 ∨ 3 ≤ x) ∨ (y < 0 ∨ 3 ≤ y) ∨ x = y then RF h 0 else if p < 0 ∨ 12 ≤ p then RF h 0 else if q < 0 ∨ 12 ≤ q then RF h 0 else if p.toNatClampNeg = q.toNatClampNeg then RF h 0 else if p.toNatClampNeg / 3 = q.toNatClampNeg / 3 then (if m < 0 then RF h 0 else if m ≤ 2 then entR h D n f o (if m.toNatClampNeg = 0 then 2 else 5) x y p q m (dNo (if m.toNatClampNeg = 0 then 2 else 5) x.toNatClampNeg y.toNatClampNeg p.toNatClampNeg (some q.toNatClampNeg) m.toNatClampNeg) else RF h 0) else RF h 0) := by
  refine ct_of rfl (Nat.le_of_ble_eq_true rfl) ?_
  have h32 : 32 ≤ hZ h := by have : 116 ≤ hZ h := F.1; omega
  refine e_iload_n aX8_swap_0 rfl ?_
  refine e_iload_n aX8_swap_1 rfl ?_
  refine e_invsT aX8_swap_2 kX8_91 (zX8_areNoPair X _ _) rfl rfl (Nat.le_of_ble_eq_true rfl) (Nat.le_of_ble_eq_true rfl) (Nat.le_of_ble_eq_true rfl) (Nat.le_of_ble_eq_true rfl) (Nat.le_of_ble_eq_true rfl) ?_
  refine e_if_ne aX8_swap_5 (fun c5 => ?_) (fun c5 => ?_)
  · -- 5: taken
    have q5 := Decidable.of_not_not (fun z => c5 (b2_0.mpr z))
    refine e_aload_n aX8_swap_27 rfl ?_
    refine e_iconst (v := 0) aX8_swap_28 (by decide) ?_
    refine e_invvT aX8_swap_29 kX8_62 (zfin X (k := 0) F (by decide)) rfl rfl (fx_is F rfl) (Nat.le_of_ble_eq_true rfl) (Nat.le_of_ble_eq_true rfl) (Nat.le_of_ble_eq_true rfl) (Nat.le_of_ble_eq_true rfl) (Nat.le_of_ble_eq_true rfl) ?_
    refine e_ireturn aX8_swap_32 rfl (Nat.le_of_ble_eq_true rfl) (Nat.le_of_ble_eq_true rfl) ?_
    rw [if_pos q5]
    exact ⟨rfl, rfl⟩
  · -- 5: not taken
    have q5 := b2_0.mp c5
    obtain ⟨az, bz, haz, hbz, habz, rfl, rfl⟩ := np_of q5
    refine e_iload_n aX8_swap_8 rfl ?_
    refine e_bipush (v := 12) aX8_swap_9 (by decide) ?_
    refine e_invsT aX8_swap_11 kX8_58 (zX8_isOutside X _ _) rfl rfl (Nat.le_of_ble_eq_true rfl) (Nat.le_of_ble_eq_true rfl) (Nat.le_of_ble_eq_true rfl) (Nat.le_of_ble_eq_true rfl) (Nat.le_of_ble_eq_true rfl) ?_
    refine e_if_ne aX8_swap_14 (fun c14 => ?_) (fun c14 => ?_)
    · -- 14: taken
      have q14 := Decidable.of_not_not (fun z => c14 (b2_0.mpr z))
      refine e_aload_n aX8_swap_27 rfl ?_
      refine e_iconst (v := 0) aX8_swap_28 (by decide) ?_
      refine e_invvT aX8_swap_29 kX8_62 (zfin X (k := 0) F (by decide)) rfl rfl (fx_is F rfl) (Nat.le_of_ble_eq_true rfl) (Nat.le_of_ble_eq_true rfl) (Nat.le_of_ble_eq_true rfl) (Nat.le_of_ble_eq_true rfl) (Nat.le_of_ble_eq_true rfl) ?_
      refine e_ireturn aX8_swap_32 rfl (Nat.le_of_ble_eq_true rfl) (Nat.le_of_ble_eq_true rfl) ?_
      rw [if_neg q5, if_pos q14]
      exact ⟨rfl, rfl⟩
    · -- 14: not taken
      have q14 := b2_0.mp c14
      obtain ⟨pz, hpz, rfl⟩ := ou_of 12 (by decide) q14
      refine e_iload aX8_swap_17 rfl ?_
      refine e_bipush (v := 12) aX8_swap_19 (by decide) ?_
      refine e_invsT aX8_swap_21 kX8_58 (zX8_isOutside X _ _) rfl rfl (Nat.le_of_ble_eq_true rfl) (Nat.le_of_ble_eq_true rfl) (Nat.le_of_ble_eq_true rfl) (Nat.le_of_ble_eq_true rfl) (Nat.le_of_ble_eq_true rfl) ?_
      refine e_if_eq aX8_swap_24 (fun c24 => ?_) (fun c24 => ?_)
      · -- 24: taken
        have q24 := b2_0.mp c24
        obtain ⟨qz, hqz, rfl⟩ := ou_of 12 (by decide) q24
        refine e_iload_n aX8_swap_33 rfl ?_
        refine e_iload aX8_swap_34 rfl ?_
        refine e_icmp_eq aX8_swap_36 (fun c36 => ?_) (fun c36 => ?_)
        · -- 36: taken
          have q36 : pz = qz := (nI_eq (by omega) (by omega)).mp c36
          refine e_aload_n aX8_swap_60 rfl ?_
          refine e_iconst (v := 0) aX8_swap_61 (by decide) ?_
          refine e_invvT aX8_swap_62 kX8_62 (zfin X (k := 0) F (by decide)) rfl rfl (fx_is F rfl) (Nat.le_of_ble_eq_true rfl) (Nat.le_of_ble_eq_true rfl) (Nat.le_of_ble_eq_true rfl) (Nat.le_of_ble_eq_true rfl) (Nat.le_of_ble_eq_true rfl) ?_
          refine e_ireturn aX8_swap_65 rfl (Nat.le_of_ble_eq_true rfl) (Nat.le_of_ble_eq_true rfl) ?_
          rw [if_neg q5, if_neg q14, if_neg q24, cl (n := pz) (by omega), cl (n := qz) (by omega), if_pos q36]
          exact ⟨rfl, rfl⟩
        · -- 36: not taken
          have q36 : ¬ pz = qz := fun z => c36 (by rw [z])
          refine e_iload_n aX8_swap_39 rfl ?_
          refine e_iconst (v := 3) aX8_swap_40 (by decide) ?_
          refine e_idiv aX8_swap_41 (by decide) ?_
          refine e_top (nI_div (a := pz) (b := 3) (by omega) (by decide) (by decide)) ?_
          refine e_iload aX8_swap_42 rfl ?_
          refine e_iconst (v := 3) aX8_swap_44 (by decide) ?_
          refine e_idiv aX8_swap_45 (by decide) ?_
          refine e_top (nI_div (a := qz) (b := 3) (by omega) (by decide) (by decide)) ?_
          refine e_icmp_ne aX8_swap_46 (fun c46 => ?_) (fun c46 => ?_)
          · -- 46: taken
            have q46 : ¬ pz / 3 = qz / 3 := fun z => c46 (by rw [z])
            refine e_aload_n aX8_swap_60 rfl ?_
            refine e_iconst (v := 0) aX8_swap_61 (by decide) ?_
            refine e_invvT aX8_swap_62 kX8_62 (zfin X (k := 0) F (by decide)) rfl rfl (fx_is F rfl) (Nat.le_of_ble_eq_true rfl) (Nat.le_of_ble_eq_true rfl) (Nat.le_of_ble_eq_true rfl) (Nat.le_of_ble_eq_true rfl) (Nat.le_of_ble_eq_true rfl) ?_
            refine e_ireturn aX8_swap_65 rfl (Nat.le_of_ble_eq_true rfl) (Nat.le_of_ble_eq_true rfl) ?_
            rw [if_neg q5, if_neg q14, if_neg q24, cl (n := pz) (by omega), cl (n := qz) (by omega), if_neg q36, if_neg q46]
            exact ⟨rfl, rfl⟩
          · -- 46: not taken
            have q46 : pz / 3 = qz / 3 := (nI_eq (by omega) (by omega)).mp c46
            refine e_iload aX8_swap_49 rfl ?_
            refine e_if_lt aX8_swap_51 (fun c51 => ?_) (fun c51 => ?_)
            · -- 51: taken
              have q51 : m < 0 := c51
              refine e_aload_n aX8_swap_60 rfl ?_
              refine e_iconst (v := 0) aX8_swap_61 (by decide) ?_
              refine e_invvT aX8_swap_62 kX8_62 (zfin X (k := 0) F (by decide)) rfl rfl (fx_is F rfl) (Nat.le_of_ble_eq_true rfl) (Nat.le_of_ble_eq_true rfl) (Nat.le_of_ble_eq_true rfl) (Nat.le_of_ble_eq_true rfl) (Nat.le_of_ble_eq_true rfl) ?_
              refine e_ireturn aX8_swap_65 rfl (Nat.le_of_ble_eq_true rfl) (Nat.le_of_ble_eq_true rfl) ?_
              rw [if_neg q5, if_neg q14, if_neg q24, cl (n := pz) (by omega), cl (n := qz) (by omega), if_neg q36, if_pos q46, if_pos q51]
              exact ⟨rfl, rfl⟩
            · -- 51: not taken
              have q51 : ¬ m < 0 := c51
              refine e_iload aX8_swap_54 rfl ?_
              refine e_iconst (v := 2) aX8_swap_56 (by decide) ?_
              refine e_icmp_le aX8_swap_57 (fun c57 => ?_) (fun c57 => ?_)
              · -- 57: taken
                have q57 : m ≤ 2 := c57
                obtain ⟨mz, hmz, rfl⟩ := ou_of 3 (by decide) (v := m) (fun z => z.elim q51 (fun z => absurd (Int32.le_trans z q57) (by decide)))
                have wf : dWf (dNo (if mz = 0 then 2 else 5) az bz pz (some qz) mz) := dNo_2 haz hbz habz hpz hqz q36 q46 (by omega)
                have hkk : nI (if mz = 0 then 2 else 5) = if mz = 0 then 2 else 5 := by split <;> rfl
                have G1 : Gb h (dlH (nw h 2 0) (hZ h) (nI (if mz = 0 then 2 else 5)) (nI az) (nI bz) (nI pz) (nI qz) (nI mz) none) := dlH_G
                have kd : DealC (dlH (nw h 2 0) (hZ h) (nI (if mz = 0 then 2 else 5)) (nI az) (nI bz) (nI pz) (nI qz) (nI mz) none) (hZ h) (dNo (if mz = 0 then 2 else 5) az bz pz (some qz) mz) := dlH_C (q := some qz) F wf
                rw [hkk] at G1 kd
                refine e_aload_n aX8_swap_66 rfl ?_
                refine e_new aX8_swap_67 nX8_40 (Nat.le_of_ble_eq_true rfl) (Nat.le_of_ble_eq_true rfl) ?_
                refine e_dup aX8_swap_70 rfl ?_
                refine e_iload aX8_swap_71 rfl ?_
                refine e_if_ne aX8_swap_73 (fun c73 => ?_) (fun c73 => ?_)
                · -- 73: taken
                  have q73 : ¬ mz = 0 := fun z => c73 (by rw [z]; rfl)
                  rw [if_neg q73] at G1 kd
                  refine e_iconst (v := 5) aX8_swap_80 (by decide) ?_
                  refine e_iload_n aX8_swap_81 rfl ?_
                  refine e_iload_n aX8_swap_82 rfl ?_
                  refine e_iload_n aX8_swap_83 rfl ?_
                  refine e_iload aX8_swap_84 rfl ?_
                  refine e_iload aX8_swap_86 rfl ?_
                  refine e_aconst_null aX8_swap_88 ?_
                  refine e_invi aX8_swap_89 kX8_94 (zX1_init X (h := nw h 2 0) (z := hZ h) (is_ns h32) _ _ _ _ _ _ _) rfl rfl (Nat.le_of_ble_eq_true rfl) (Nat.le_of_ble_eq_true rfl) (Nat.le_of_ble_eq_true rfl) (Nat.le_of_ble_eq_true rfl) (Nat.le_of_ble_eq_true rfl) ?_
                  rintro v h2 ⟨rfl, rfl⟩
                  have bf1 := G1.bf F bf
                  have b1 := G1.bd F b
                  have F := G1.F F
                  refine e_invvT aX8_swap_92 kX8_97 (zX8_enter X F bf1 b1 kd) rfl rfl (fx_is F rfl) (Nat.le_of_ble_eq_true rfl) (Nat.le_of_ble_eq_true rfl) (Nat.le_of_ble_eq_true rfl) (Nat.le_of_ble_eq_true rfl) (Nat.le_of_ble_eq_true rfl) ?_
                  refine e_retE aX8_swap_95 rfl (Nat.le_of_ble_eq_true rfl) (Nat.le_of_ble_eq_true rfl) ?_
                  rw [if_neg q5, if_neg q14, if_neg q24, cl (n := pz) (by omega), cl (n := qz) (by omega), if_neg q36, if_pos q46, if_neg q51, if_pos q57, cl (n := az) (by omega), cl (n := bz) (by omega), cl (n := mz) (by omega)]
                  unfold entR
                  rw [if_neg q73, if_neg q73]
                  exact ⟨rfl, rfl⟩
                · -- 73: not taken
                  have q73 : mz = 0 := (nI_eq (b := 0) (by omega) (by decide)).mp c73
                  rw [if_pos q73] at G1 kd
                  refine e_iconst (v := 2) aX8_swap_76 (by decide) ?_
                  refine e_goto aX8_swap_77 ?_
                  refine e_iload_n aX8_swap_81 rfl ?_
                  refine e_iload_n aX8_swap_82 rfl ?_
                  refine e_iload_n aX8_swap_83 rfl ?_
                  refine e_iload aX8_swap_84 rfl ?_
                  refine e_iload aX8_swap_86 rfl ?_
                  refine e_aconst_null aX8_swap_88 ?_
                  refine e_invi aX8_swap_89 kX8_94 (zX1_init X (h := nw h 2 0) (z := hZ h) (is_ns h32) _ _ _ _ _ _ _) rfl rfl (Nat.le_of_ble_eq_true rfl) (Nat.le_of_ble_eq_true rfl) (Nat.le_of_ble_eq_true rfl) (Nat.le_of_ble_eq_true rfl) (Nat.le_of_ble_eq_true rfl) ?_
                  rintro v h2 ⟨rfl, rfl⟩
                  have bf1 := G1.bf F bf
                  have b1 := G1.bd F b
                  have F := G1.F F
                  refine e_invvT aX8_swap_92 kX8_97 (zX8_enter X F bf1 b1 kd) rfl rfl (fx_is F rfl) (Nat.le_of_ble_eq_true rfl) (Nat.le_of_ble_eq_true rfl) (Nat.le_of_ble_eq_true rfl) (Nat.le_of_ble_eq_true rfl) (Nat.le_of_ble_eq_true rfl) ?_
                  refine e_retE aX8_swap_95 rfl (Nat.le_of_ble_eq_true rfl) (Nat.le_of_ble_eq_true rfl) ?_
                  rw [if_neg q5, if_neg q14, if_neg q24, cl (n := pz) (by omega), cl (n := qz) (by omega), if_neg q36, if_pos q46, if_neg q51, if_pos q57, cl (n := az) (by omega), cl (n := bz) (by omega), cl (n := mz) (by omega)]
                  unfold entR
                  rw [if_pos q73, if_pos q73]
                  exact ⟨rfl, rfl⟩
              · -- 57: not taken
                have q57 : ¬ m ≤ 2 := c57
                refine e_aload_n aX8_swap_60 rfl ?_
                refine e_iconst (v := 0) aX8_swap_61 (by decide) ?_
                refine e_invvT aX8_swap_62 kX8_62 (zfin X (k := 0) F (by decide)) rfl rfl (fx_is F rfl) (Nat.le_of_ble_eq_true rfl) (Nat.le_of_ble_eq_true rfl) (Nat.le_of_ble_eq_true rfl) (Nat.le_of_ble_eq_true rfl) (Nat.le_of_ble_eq_true rfl) ?_
                refine e_ireturn aX8_swap_65 rfl (Nat.le_of_ble_eq_true rfl) (Nat.le_of_ble_eq_true rfl) ?_
                rw [if_neg q5, if_neg q14, if_neg q24, cl (n := pz) (by omega), cl (n := qz) (by omega), if_neg q36, if_pos q46, if_neg q51, if_neg q57]
                exact ⟨rfl, rfl⟩
      · -- 24: not taken
        have q24 := Decidable.of_not_not (fun z => c24 (b2_0.mpr z))
        refine e_aload_n aX8_swap_27 rfl ?_
        refine e_iconst (v := 0) aX8_swap_28 (by decide) ?_
        refine e_invvT aX8_swap_29 kX8_62 (zfin X (k := 0) F (by decide)) rfl rfl (fx_is F rfl) (Nat.le_of_ble_eq_true rfl) (Nat.le_of_ble_eq_true rfl) (Nat.le_of_ble_eq_true rfl) (Nat.le_of_ble_eq_true rfl) (Nat.le_of_ble_eq_true rfl) ?_
        refine e_ireturn aX8_swap_32 rfl (Nat.le_of_ble_eq_true rfl) (Nat.le_of_ble_eq_true rfl) ?_
        rw [if_neg q5, if_neg q14, if_pos q24]
        exact ⟨rfl, rfl⟩
