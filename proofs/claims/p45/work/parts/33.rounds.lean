/-! contracts: Rounds (written by wip/p45/g33.py) -/
/-- all that lay in h lies in h' -/
def Gb (h h' : HP) : Prop := hZ h ≤ hZ h' ∧ ∀ a, a < hZ h → (∀ i, hI h' a i = hI h a i ∧ hL h' a i = hL h a i ∧ hR h' a i = hR h a i) ∧ hT h' a = hT h a ∧ hN h' a = hN h a
theorem Gb.rf (h : HP) : Gb h h := ⟨Nat.le_refl _, fun _ _ => ⟨fun _ => ⟨rfl, rfl, rfl⟩, rfl, rfl⟩⟩
theorem Gb.wI {h0 h : HP} (g : Gb h0 h) {b i : Nat} {v : Int32} (hb : hZ h0 ≤ b) : Gb h0 (wI h b i v) := ⟨g.1, fun a ha => ⟨fun j => ⟨(up2_a (by omega)).trans ((g.2 a ha).1 j).1, ((g.2 a ha).1 j).2⟩, (g.2 a ha).2⟩⟩
theorem Gb.wL {h0 h : HP} (g : Gb h0 h) {b i : Nat} {v : Int64} (hb : hZ h0 ≤ b) : Gb h0 (wL h b i v) := ⟨g.1, fun a ha => ⟨fun j => ⟨((g.2 a ha).1 j).1, (up2_a (by omega)).trans ((g.2 a ha).1 j).2.1, ((g.2 a ha).1 j).2.2⟩, (g.2 a ha).2⟩⟩
theorem Gb.wR {h0 h : HP} (g : Gb h0 h) {b i : Nat} {v : Option Nat} (hb : hZ h0 ≤ b) : Gb h0 (wR h b i v) := ⟨g.1, fun a ha => ⟨fun j => ⟨((g.2 a ha).1 j).1, ((g.2 a ha).1 j).2.1, (up2_a (by omega)).trans ((g.2 a ha).1 j).2.2⟩, (g.2 a ha).2⟩⟩
theorem Gb.nw {h0 h : HP} (g : Gb h0 h) {t n : Nat} : Gb h0 (nw h t n) := by
  have g1 := g.1
  refine ⟨Nat.le_succ_of_le g1, fun a ha => ⟨fun j => ⟨(if_neg (by omega)).trans ((g.2 a ha).1 j).1, (if_neg (by omega)).trans ((g.2 a ha).1 j).2.1, (if_neg (by omega)).trans ((g.2 a ha).1 j).2.2⟩, (if_neg (by omega)).trans (g.2 a ha).2.1, (if_neg (by omega)).trans (g.2 a ha).2.2⟩⟩
theorem Gb.tr {h1 h2 h3 : HP} (a : Gb h1 h2) (b : Gb h2 h3) : Gb h1 h3 := ⟨Nat.le_trans a.1 b.1, fun x hx => by
  have z1 := a.2 x hx
  have z2 := b.2 x (Nat.lt_of_lt_of_le hx a.1)
  exact ⟨fun i => ⟨(z2.1 i).1.trans (z1.1 i).1, (z2.1 i).2.1.trans (z1.1 i).2.1, (z2.1 i).2.2.trans (z1.1 i).2.2⟩, z2.2.1.trans z1.2.1, z2.2.2.trans z1.2.2⟩⟩
theorem Gb.F {h h' : HP} (g : Gb h h') (F : Fx h) : Fx h' := by
  have h1 := F.1
  refine ⟨Nat.le_trans F.1 g.1, fun a ha hb => ?_, fun a i hr => ?_⟩
  · have z := g.2 a (Nat.lt_of_lt_of_le hb h1)
    exact ⟨z.2.1.trans (F.2.1 a ha hb).1, z.2.2.trans (F.2.1 a ha hb).2⟩
  · have ha : a < NF := by
      rcases Nat.lt_or_ge a NF with q | q
      · exact q
      · exact absurd (by
          unfold R0
          rw [List.getD_eq_getElem?_getD (l := R0l), List.getElem?_eq_none (by have e : R0l.length = NF - 32 := rfl; omega)]
          rfl) hr
    exact ((g.2 a (Nat.lt_of_lt_of_le ha h1)).1 i).2.2.trans (F.2.2 a i hr)
theorem Gb.up {h h' : HP} (g : Gb h h') : Up h h' := ⟨g.1, fun a _ ha => g.2 a ha⟩
theorem Gb.is {h h' : HP} (g : Gb h h') {a t : Nat} (k : Is h a t) : Is h' a t := ⟨k.1, Nat.lt_of_lt_of_le k.2.1 g.1, (g.2 a k.2.1).2.1.trans k.2.2⟩
theorem Gb.bd {h h' : HP} (g : Gb h h') (F : Fx h) {n : Nat} {A : Nat → Nat} {D : Nat → DD} (b : BkD h n A D) : BkD h' n A D := by
  have h1 : 116 ≤ hZ h := F.1
  exact b.up g.up ((g.2 33 (by omega)).1 1).1 (fun i => ((g.2 34 (by omega)).1 i).2.2)
theorem Gb.bf {h h' : HP} (g : Gb h h') (F : Fx h) {f : Nat} {o : Nat → Nat} (b : BkF h f o) : BkF h' f o := by
  have h1 : 116 ≤ hZ h := F.1
  exact b.up (fun i => ((g.2 33 (by omega)).1 i).1) (fun i => ((g.2 35 (by omega)).1 i).1)
theorem is_nw {h : HP} {a t u n : Nat} (k : Is h a t) : Is (nw h u n) a t := ⟨k.1, Nat.lt_succ_of_lt k.2.1, (if_neg (by have := k.2.1; omega)).trans k.2.2⟩
theorem is_ns {h : HP} {t n : Nat} (z : 32 ≤ hZ h) : Is (nw h t n) (hZ h) t := ⟨z, Nat.lt_succ_self _, if_pos rfl⟩
/-- who has each PICK, and which DEALs have gone over -/
abbrev RS : Type := (Nat → Nat) × Int32 × Int32
def RdC (h : HP) (r s : Nat) (t : RS) : Prop := 116 ≤ r ∧ Is h r 5 ∧ hI h r 0 = nI s ∧ hR h r 1 = some (r + 1) ∧ Is h (r + 1) 13 ∧ hN h (r + 1) = 12 ∧ (∀ p, p < 12 → hI h (r + 1) p = nI (t.1 p) ∧ t.1 p < 3) ∧ hI h r 2 = t.2.1 ∧ hI h r 3 = t.2.2
def updN (W : Nat → Nat) (p c : Nat) : Nat → Nat := fun x => if x = p then c else W x
theorem RdC.w1 {h : HP} {r s p k : Nat} {t : RS} (z : RdC h r s t) (hk : k < 3) : RdC (wI h (r + 1) p (nI k)) r s (updN t.1 p k, t.2) := by
  obtain ⟨z1, z2, z3, z4, z5, z6, z7, z8, z9⟩ := z
  refine ⟨z1, z2, (up2_a (by omega)).trans z3, z4, z5, z6, fun x hx => ?_, (up2_a (by omega)).trans z8, (up2_a (by omega)).trans z9⟩
  by_cases q : x = p
  · subst q
    exact ⟨up2_s.trans (by show nI k = nI (if x = x then k else _); rw [if_pos rfl]), by show (if x = x then k else _) < 3; rw [if_pos rfl]; exact hk⟩
  · exact ⟨(up2_i q).trans ((z7 x hx).1.trans (by show nI _ = nI (if x = p then k else _); rw [if_neg q])), by show (if x = p then k else _) < 3; rw [if_neg q]; exact (z7 x hx).2⟩
theorem RdC.w2 {h : HP} {r s : Nat} {t : RS} {g : Int32} (z : RdC h r s t) : RdC (wI h r 2 g) r s (t.1, g, t.2.2) := by
  obtain ⟨z1, z2, z3, z4, z5, z6, z7, z8, z9⟩ := z
  exact ⟨z1, z2, (up2_i (by decide)).trans z3, z4, z5, z6, fun x hx => ⟨(up2_a (by omega)).trans (z7 x hx).1, (z7 x hx).2⟩, up2_s, (up2_i (by decide)).trans z9⟩
theorem RdC.w3 {h : HP} {r s : Nat} {t : RS} {g : Int32} (z : RdC h r s t) : RdC (wI h r 3 g) r s (t.1, t.2.1, g) := by
  obtain ⟨z1, z2, z3, z4, z5, z6, z7, z8, z9⟩ := z
  exact ⟨z1, z2, (up2_i (by decide)).trans z3, z4, z5, z6, fun x hx => ⟨(up2_a (by omega)).trans (z7 x hx).1, (z7 x hx).2⟩, (up2_i (by decide)).trans z8, up2_s⟩
def mvA (d : DD) (s k : Nat) (t : RS) : Option RS := match gv d s with
  | none => none
  | some p => if t.1 p = dF d then (if (t.2.1 >>> (nI k &&& 31)) &&& 1 = 0 then some (updN t.1 p (dT d), t.2.1 ||| ((1 : Int32) <<< (nI k &&& 31)), t.2.2) else none) else none
def mvB (d : DD) (s k : Nat) (t : RS) : Option RS := match gb d s with
  | none => none
  | some p => if t.1 p = dT d then (if (t.2.2 >>> (nI k &&& 31)) &&& 1 = 0 then some (updN t.1 p (dF d), t.2.1, t.2.2 ||| ((1 : Int32) <<< (nI k &&& 31))) else none) else none
/-- one DEAL goes over -/
def mvR (d : DD) (s k : Nat) (t : RS) : RS × Bool := ((mvB d s k ((mvA d s k t).getD t)).getD ((mvA d s k t).getD t), (mvA d s k t).isSome || (mvB d s k ((mvA d s k t).getD t)).isSome)
theorem zX4_move (X : EX) {h0 h : HP} (G1 : Gb h0 h) {a s k : Nat} {d : DD} (kd : DealC h0 a d) (hs : s < 1296) {t : RS} (R1 : RdC h (hZ h0) s t) : Ct X mX4_move 3 0 0 [vR (some (hZ h0)), vR (some a), vI (nI k)] h (fun v h' => v = some (vI (b2 ((mvR d s k t).2 = true))) ∧ Gb h0 h' ∧ RdC h' (hZ h0) s (mvR d s k t).1) := by
  refine ct_of rfl (Nat.le_of_ble_eq_true rfl) ?_
  have kd1 := kd.up G1.up
  have wf := kd.2.2.1
  have hdF := wf.2.1
  have hdT := wf.2.2.1
  have hgv : ∀ p, gv d s = some p → p < 1073741824 := fun p q => by have := (gv_ok wf q).1; omega
  have hgb : ∀ p, gb d s = some p → p < 1073741824 := fun p q => by have := (gb_ok wf q).1; omega
  have tail : ∀ (h1 : HP) (t1 : RS) (w1 : Bool), Gb h0 h1 → RdC h1 (hZ h0) s t1 → Ev X mX4_move 3 0 0 (fun v h' => v = some (vI (b2 ((w1 || (mvB d s k t1).isSome) = true))) ∧ Gb h0 h' ∧ RdC h' (hZ h0) s ((mvB d s k t1).getD t1)) 0 0 67 [(0, some (vR (some (hZ h0)))), (1, some (vR (some a))), (2, some (vI (nI k))), (3, some (vI (b2 (w1 = true))))] [] h1 := by
    intro h1 t1 w1 G1 R1
    have kd1 := kd.up G1.up
    refine e_aload_n aX4_move_67 rfl ?_
    refine e_aload_n aX4_move_68 rfl ?_
    refine e_getIF aX4_move_69 fX4_15 rfl R1.2.1 R1.2.2.1 ?_
    refine e_invvT aX4_move_72 kX4_34 (zX1_getsBack X kd1 hs) rfl rfl kd1.2.1 (Nat.le_of_ble_eq_true rfl) (Nat.le_of_ble_eq_true rfl) (Nat.le_refl _) (Nat.le_refl _) (Nat.le_of_ble_eq_true rfl) ?_
    refine e_istore aX4_move_75 (Nat.le_of_ble_eq_true rfl) ?_
    refine e_iload aX4_move_77 rfl ?_
    refine e_if_lt aX4_move_79 (fun c79 => ?_) (fun c79 => ?_)
    · -- 79: taken
      have q79 := (oI_neg hgb).mp c79
      refine e_iload_n aX4_move_132 rfl ?_
      refine e_zreturn aX4_move_133 rfl (by first | exact b2_b | decide) (Nat.le_refl _) (Nat.le_refl _) ?_
      have e9 : mvB d s k t1 = none := by unfold mvB; rw [q79]
      rw [e9]
      exact ⟨by show _ = some (vI (b2 ((w1 || false) = true))); rw [Bool.or_false], G1, R1⟩
    · -- 79: not taken
      obtain ⟨p, q80⟩ := Option.ne_none_iff_exists'.mp ((not_congr (oI_neg hgb)).mp c79)
      have hp := (gb_ok wf q80).1
      rw [q80, show oI (some p) = nI p from rfl]
      refine e_aload_n aX4_move_82 rfl ?_
      refine e_getRF aX4_move_83 fX4_9 rfl R1.2.1 R1.2.2.2.1 ?_
      refine e_iload aX4_move_86 rfl ?_
      refine e_ialoadF aX4_move_88 R1.2.2.2.2.1 R1.2.2.2.2.2.1 (vin (N := 12) hp) (show hI h1 (hZ h0 + 1) (nI p).toNatClampNeg = nI (t1.1 p) by rw [cl (by omega)]; exact (R1.2.2.2.2.2.2.1 p hp).1) ?_
      refine e_aload_n aX4_move_89 rfl ?_
      refine e_getIF aX4_move_90 fX4_31 rfl kd1.2.1 kd1.2.2.2.2.2.1 ?_
      refine e_icmp_ne aX4_move_93 (fun c93 => ?_) (fun c93 => ?_)
      · -- 93: taken
        have q93 : ¬ t1.1 p = dT d := fun z => c93 (by rw [z])
        refine e_iload_n aX4_move_132 rfl ?_
        refine e_zreturn aX4_move_133 rfl (by first | exact b2_b | decide) (Nat.le_refl _) (Nat.le_refl _) ?_
        have e9 : mvB d s k t1 = none := by unfold mvB; rw [q80]; exact if_neg q93
        rw [e9]
        exact ⟨by show _ = some (vI (b2 ((w1 || false) = true))); rw [Bool.or_false], G1, R1⟩
      · -- 93: not taken
        have q93 : t1.1 p = dT d := (nI_eq (by have := (R1.2.2.2.2.2.2.1 p hp).2; omega) (by omega)).mp c93
        refine e_aload_n aX4_move_96 rfl ?_
        refine e_getIF aX4_move_97 fX4_37 rfl R1.2.1 R1.2.2.2.2.2.2.2.2 ?_
        refine e_iload_n aX4_move_100 rfl ?_
        refine e_ishr aX4_move_101 ?_
        refine e_iconst (v := 1) aX4_move_102 (by decide) ?_
        refine e_iand aX4_move_103 ?_
        refine e_if_ne aX4_move_104 (fun c104 => ?_) (fun c104 => ?_)
        · -- 104: taken
          refine e_iload_n aX4_move_132 rfl ?_
          refine e_zreturn aX4_move_133 rfl (by first | exact b2_b | decide) (Nat.le_refl _) (Nat.le_refl _) ?_
          have e9 : mvB d s k t1 = none := by unfold mvB; rw [q80]; exact (if_pos q93).trans (if_neg c104)
          rw [e9]
          exact ⟨by show _ = some (vI (b2 ((w1 || false) = true))); rw [Bool.or_false], G1, R1⟩
        · -- 104: not taken
          refine e_aload_n aX4_move_107 rfl ?_
          refine e_getRF aX4_move_108 fX4_9 rfl R1.2.1 R1.2.2.2.1 ?_
          refine e_iload aX4_move_111 rfl ?_
          refine e_aload_n aX4_move_113 rfl ?_
          refine e_getIF aX4_move_114 fX4_25 rfl kd1.2.1 kd1.2.2.2.2.1 ?_
          refine e_iastoreF aX4_move_117 R1.2.2.2.2.1 R1.2.2.2.2.2.1 (vin (N := 12) hp) ?_
          rw [cl (by omega)]
          have R2 := R1.w1 (p := p) hdF
          refine e_aload_n aX4_move_118 rfl ?_
          refine e_dup aX4_move_119 rfl ?_
          refine e_getIF aX4_move_120 fX4_37 rfl R2.2.1 R2.2.2.2.2.2.2.2.2 ?_
          refine e_iconst (v := 1) aX4_move_123 (by decide) ?_
          refine e_iload_n aX4_move_124 rfl ?_
          refine e_ishl aX4_move_125 ?_
          refine e_ior aX4_move_126 ?_
          refine e_putI aX4_move_127 fX4_37 rfl R2.2.1 (Or.inl rfl) ?_
          refine e_iconst (v := 1) aX4_move_130 (by decide) ?_
          refine e_istore_n aX4_move_131 (Nat.le_of_ble_eq_true rfl) ?_
          refine e_iload_n aX4_move_132 rfl ?_
          refine e_zreturn aX4_move_133 rfl (by first | exact b2_b | decide) (Nat.le_refl _) (Nat.le_refl _) ?_
          have e9 : mvB d s k t1 = some (updN t1.1 p (dF d), t1.2.1, t1.2.2 ||| ((1 : Int32) <<< (nI k &&& 31))) := by unfold mvB; rw [q80]; exact (if_pos q93).trans (if_pos c104)
          rw [e9]
          exact ⟨by show _ = some (vI (b2 ((w1 || true) = true))); rw [Bool.or_true]; rfl, (G1.wI (by omega)).wI (Nat.le_refl _), (R1.w1 hdF).w3⟩
  refine e_iconst (v := 0) aX4_move_0 (by decide) ?_
  refine e_istore_n aX4_move_1 (Nat.le_of_ble_eq_true rfl) ?_
  refine e_aload_n aX4_move_2 rfl ?_
  refine e_aload_n aX4_move_3 rfl ?_
  refine e_getIF aX4_move_4 fX4_15 rfl R1.2.1 R1.2.2.1 ?_
  refine e_invvT aX4_move_7 kX4_19 (zX1_gives X kd1 hs) rfl rfl kd1.2.1 (Nat.le_of_ble_eq_true rfl) (Nat.le_of_ble_eq_true rfl) (Nat.le_refl _) (Nat.le_refl _) (Nat.le_of_ble_eq_true rfl) ?_
  refine e_istore aX4_move_10 (Nat.le_of_ble_eq_true rfl) ?_
  refine e_iload aX4_move_12 rfl ?_
  refine e_if_lt aX4_move_14 (fun c14 => ?_) (fun c14 => ?_)
  · -- 14: taken
    have q14 := (oI_neg hgv).mp c14
    have e9 : mvA d s k t = none := by unfold mvA; rw [q14]
    refine e_ls (ls' := [(0, some (vR (some (hZ h0)))), (1, some (vR (some a))), (2, some (vI (nI k))), (3, some (vI (b2 (false = true))))]) ⟨rfl, rfl, rfl, rfl, trivial⟩ ?_
    unfold mvR
    rw [e9]
    exact tail h t false G1 R1
  · -- 14: not taken
    obtain ⟨p, q15⟩ := Option.ne_none_iff_exists'.mp ((not_congr (oI_neg hgv)).mp c14)
    have hp := (gv_ok wf q15).1
    rw [q15, show oI (some p) = nI p from rfl]
    refine e_aload_n aX4_move_17 rfl ?_
    refine e_getRF aX4_move_18 fX4_9 rfl R1.2.1 R1.2.2.2.1 ?_
    refine e_iload aX4_move_21 rfl ?_
    refine e_ialoadF aX4_move_23 R1.2.2.2.2.1 R1.2.2.2.2.2.1 (vin (N := 12) hp) (show hI h (hZ h0 + 1) (nI p).toNatClampNeg = nI (t.1 p) by rw [cl (by omega)]; exact (R1.2.2.2.2.2.2.1 p hp).1) ?_
    refine e_aload_n aX4_move_24 rfl ?_
    refine e_getIF aX4_move_25 fX4_25 rfl kd1.2.1 kd1.2.2.2.2.1 ?_
    refine e_icmp_ne aX4_move_28 (fun c28 => ?_) (fun c28 => ?_)
    · -- 28: taken
      have q28 : ¬ t.1 p = dF d := fun z => c28 (by rw [z])
      have e9 : mvA d s k t = none := by unfold mvA; rw [q15]; exact if_neg q28
      refine e_ls (ls' := [(0, some (vR (some (hZ h0)))), (1, some (vR (some a))), (2, some (vI (nI k))), (3, some (vI (b2 (false = true))))]) ⟨rfl, rfl, rfl, rfl, trivial⟩ ?_
      unfold mvR
      rw [e9]
      exact tail h t false G1 R1
    · -- 28: not taken
      have q28 : t.1 p = dF d := (nI_eq (by have := (R1.2.2.2.2.2.2.1 p hp).2; omega) (by omega)).mp c28
      refine e_aload_n aX4_move_31 rfl ?_
      refine e_getIF aX4_move_32 fX4_28 rfl R1.2.1 R1.2.2.2.2.2.2.2.1 ?_
      refine e_iload_n aX4_move_35 rfl ?_
      refine e_ishr aX4_move_36 ?_
      refine e_iconst (v := 1) aX4_move_37 (by decide) ?_
      refine e_iand aX4_move_38 ?_
      refine e_if_ne aX4_move_39 (fun c39 => ?_) (fun c39 => ?_)
      · -- 39: taken
        have e9 : mvA d s k t = none := by unfold mvA; rw [q15]; exact (if_pos q28).trans (if_neg c39)
        refine e_ls (ls' := [(0, some (vR (some (hZ h0)))), (1, some (vR (some a))), (2, some (vI (nI k))), (3, some (vI (b2 (false = true))))]) ⟨rfl, rfl, rfl, rfl, trivial⟩ ?_
        unfold mvR
        rw [e9]
        exact tail h t false G1 R1
      · -- 39: not taken
        refine e_aload_n aX4_move_42 rfl ?_
        refine e_getRF aX4_move_43 fX4_9 rfl R1.2.1 R1.2.2.2.1 ?_
        refine e_iload aX4_move_46 rfl ?_
        refine e_aload_n aX4_move_48 rfl ?_
        refine e_getIF aX4_move_49 fX4_31 rfl kd1.2.1 kd1.2.2.2.2.2.1 ?_
        refine e_iastoreF aX4_move_52 R1.2.2.2.2.1 R1.2.2.2.2.2.1 (vin (N := 12) hp) ?_
        rw [cl (by omega)]
        have R2 := R1.w1 (p := p) hdT
        refine e_aload_n aX4_move_53 rfl ?_
        refine e_dup aX4_move_54 rfl ?_
        refine e_getIF aX4_move_55 fX4_28 rfl R2.2.1 R2.2.2.2.2.2.2.2.1 ?_
        refine e_iconst (v := 1) aX4_move_58 (by decide) ?_
        refine e_iload_n aX4_move_59 rfl ?_
        refine e_ishl aX4_move_60 ?_
        refine e_ior aX4_move_61 ?_
        refine e_putI aX4_move_62 fX4_28 rfl R2.2.1 (Or.inl rfl) ?_
        refine e_iconst (v := 1) aX4_move_65 (by decide) ?_
        refine e_istore_n aX4_move_66 (Nat.le_of_ble_eq_true rfl) ?_
        have e9 : mvA d s k t = some (updN t.1 p (dT d), t.2.1 ||| ((1 : Int32) <<< (nI k &&& 31)), t.2.2) := by unfold mvA; rw [q15]; exact (if_pos q28).trans (if_pos c39)
        refine e_ls (ls' := [(0, some (vR (some (hZ h0)))), (1, some (vR (some a))), (2, some (vI (nI k))), (3, some (vI (b2 (true = true))))]) ⟨rfl, rfl, rfl, rfl, trivial⟩ ?_
        unfold mvR
        rw [e9]
        exact tail _ _ true ((G1.wI (by omega)).wI (Nat.le_refl _)) ((R1.w1 hdT).w2)
