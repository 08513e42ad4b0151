/-! the law: deals told to both (written by wip/p45/g93.py) -/
theorem nI_cl {x : Int32} {N : Nat} (hN : N ≤ 1073741824) (z : ¬ (x < 0 ∨ nI N ≤ x)) : x = nI x.toNatClampNeg ∧ x.toNatClampNeg < N := by
  obtain ⟨i, hi, rfl⟩ := ou_of N hN z
  rw [cl (by omega)]
  exact ⟨rfl, hi⟩
theorem d_eq {d : DD} (w : dWf d) (hc : dC d = false) : d = dNo (dK d) (dF d) (dT d) (dP d) (dO d) (dN d) := by
  have hb := w.2.2.2.2.2.2.2.2.2 hc
  obtain ⟨k, f, t, p, q, n, c, B⟩ := d
  have hc : c = false := hc
  have hB : B = fun _ => true := funext hb
  rw [hc, hB]
  rfl
section SALE
variable {X : EX} {h : HP} {f n g : Nat} {o A : Nat → Nat} {D : Nat → DD} {c : BQ} {tS : Nat → Int32} {qS : Nat → Nat} {d : DD}
theorem kd_of (F : Fx h) (w : dWf d) (hc : dC d = false) : DealC (dlH (nw h 2 0) (hZ h) (nI (dK d)) (nI (dF d)) (nI (dT d)) (nI (dP d)) (oI (dO d)) (nI (dN d)) none) (hZ h) d := by
  have e := d_eq w hc
  have w2 := w
  rw [e] at w2
  have k := dlH_C F w2
  rw [← e] at k
  exact k
theorem s_sale (cx : CX h (f, n, o, A, D) g c tS qS) (ow : OwB h (f, n, o, A, D)) (ok : okQ (f, n, o, A, D)) (hn : n < 12) (w : dWf d) (hc : dC d = false) (ho : dO d = none) : Ct X mX8_sale 7 1 7 [vR (some 32), vI (nI (dK d)), vI (nI (dF d)), vI (nI (dT d)), vI (nI (dP d)), vI (nI (dN d))] h (enQ h f n o A D g c tS qS d) := by
  have bf : BkF h f o := cx.2.1.1
  have b : BkD h n A D := cx.2.1.2.1
  have kd := kd_of cx.1 w hc
  have e := d_eq w hc
  obtain ⟨w1, w2, w3, w4, w5, w6, w7, w8, w9, w10⟩ := id w
  have hk : ¬ (dK d = 2 ∨ dK d = 5) := fun z => by
    have := w6.mp z
    rw [ho] at this
    cases this
  refine ct_post (zX8_sale X cx.1 bf b (nI (dK d)) (nI (dF d)) (nI (dT d)) (nI (dP d)) (nI (dN d))) (fun v h1 q => ?_)
  have z1 : slK (nI (dK d)) := by
    rcases (show dK d = 0 ∨ dK d = 1 ∨ dK d = 3 ∨ dK d = 4 by omega) with z | z | z | z <;> rw [z] <;> decide
  have z2 : ¬ ((nI (dF d) < 0 ∨ 3 ≤ nI (dF d)) ∨ (nI (dT d) < 0 ∨ 3 ≤ nI (dT d)) ∨ nI (dF d) = nI (dT d)) := fun z => by
    rcases z with z | z | z
    · exact nI_nx (N := 3) w2 (by decide) z
    · exact nI_nx (N := 3) w3 (by decide) z
    · exact w4 ((nI_eq (by omega) (by omega)).mp z)
  rw [if_pos z1, if_neg z2, if_neg (show ¬ (nI (dP d) < 0 ∨ 12 ≤ nI (dP d)) from nI_nx (N := 12) w5 (by decide)), cl (by omega), cl (by omega), cl (by omega)] at q
  rw [ho] at kd e
  by_cases k0 : dK d = 0
  · have n0 : dN d = 0 := w9.mp (Or.inl k0)
    rw [if_pos (show nI (dK d) = 0 by rw [k0]; rfl)] at q
    have e2 : d = dNo 0 (dF d) (dT d) (dP d) none 0 := by
      rw [k0, n0] at e
      exact e
    rw [← e2] at q
    rw [k0, n0] at kd
    exact s_ent cx ow ok hn w kd q
  · have n0 : ¬ dN d = 0 := fun z => by
      have := w9.mpr z
      omega
    rw [if_neg (show ¬ nI (dK d) = 0 from fun z => k0 ((nI_eq (b := 0) (by omega) (by decide)).mp z)), if_neg (show ¬ nI (dN d) < 1 from fun z => by have := (nI_ltI (b := 1) (by omega) (by decide)).mp z; omega), if_pos (show nI (dN d) ≤ 2 from (nI_leI (b := 2) (by omega) (by decide)).mpr w8), cl (by omega), cl (by omega), ← e] at q
    exact s_ent cx ow ok hn w kd q
theorem s_swap {v0 : Nat} (cx : CX h (f, n, o, A, D) g c tS qS) (ow : OwB h (f, n, o, A, D)) (ok : okQ (f, n, o, A, D)) (hn : n < 12) (w : dWf d) (hc : dC d = false) (ho : dO d = some v0) : Ct X mX8_swap 7 1 7 [vR (some 32), vI (nI (dF d)), vI (nI (dT d)), vI (nI (dP d)), vI (nI v0), vI (nI (dN d))] h (enQ h f n o A D g c tS qS d) := by
  have bf : BkF h f o := cx.2.1.1
  have b : BkD h n A D := cx.2.1.2.1
  have kd := kd_of cx.1 w hc
  have e := d_eq w hc
  obtain ⟨w1, w2, w3, w4, w5, w6, w7, w8, w9, w10⟩ := id w
  have hk : dK d = 2 ∨ dK d = 5 := w6.mpr (by rw [ho]; rfl)
  have w7 := w7 v0 ho
  refine ct_post (zX8_swap X cx.1 bf b (nI (dF d)) (nI (dT d)) (nI (dP d)) (nI v0) (nI (dN d))) (fun v h1 q => ?_)
  have z2 : ¬ ((nI (dF d) < 0 ∨ 3 ≤ nI (dF d)) ∨ (nI (dT d) < 0 ∨ 3 ≤ nI (dT d)) ∨ nI (dF d) = nI (dT d)) := fun z => by
    rcases z with z | z | z
    · exact nI_nx (N := 3) w2 (by decide) z
    · exact nI_nx (N := 3) w3 (by decide) z
    · exact w4 ((nI_eq (by omega) (by omega)).mp z)
  rw [if_neg z2, if_neg (show ¬ (nI (dP d) < 0 ∨ 12 ≤ nI (dP d)) from nI_nx (N := 12) w5 (by decide)), if_neg (show ¬ (nI v0 < 0 ∨ 12 ≤ nI v0) from nI_nx (N := 12) w7.1 (by decide)), cl (by omega), cl (by omega), cl (by omega), cl (by omega), cl (by omega), if_neg (fun z => w7.2.1 z.symm), if_pos w7.2.2.symm, if_neg (show ¬ nI (dN d) < 0 from nI_pos (by omega)), if_pos (show nI (dN d) ≤ 2 from (nI_leI (b := 2) (by omega) (by decide)).mpr w8)] at q
  rw [ho] at kd e
  have e9 : (if dN d = 0 then (2 : Nat) else 5) = dK d := by
    by_cases z : dN d = 0
    · rw [if_pos z]
      have := w9.mpr z
      omega
    · rw [if_neg z]
      have := (not_congr w9).mpr z
      omega
  have e8 : (if dN d = 0 then (2 : Int32) else 5) = nI (dK d) := by
    rw [← e9]
    by_cases z : dN d = 0
    · rw [if_pos z, if_pos z]; rfl
    · rw [if_neg z, if_neg z]; rfl
  rw [e8, e9, ← e] at q
  exact s_ent cx ow ok hn w kd q
end SALE
/-- both sides as deals come: the class, the law's Book -/
def JM (h : HP) (f n m : Nat) (o A : Nat → Nat) (D : Nat → DD) (c : BQ) (tS : Nat → Int32) (qS : Nat → Nat) : Prop := CX h (f, n, o, A, D) 0 c tS qS ∧ OwB h (f, n, o, A, D) ∧ okQ (f, n, o, A, D) ∧ ∃ e1 e2 fa τ E, LL h m e1 e2 fa E ∧ LT h m n τ E D ∧ LY h f o
theorem fn32 : fv 3 = vI (-1000004) := by decide
theorem fn34 : fv 4 = vI (-1000005) := by decide
theorem and1 (x : Int32) : ∃ k, k < 2 ∧ x &&& 1 = nI k := by
  by_cases z : btI x 0 = true
  · refine ⟨1, by decide, btI_ext (fun i hi => ?_)⟩
    rw [btI_and, bt1 i (by omega), show btI (nI 1) i = btI 1 i from rfl, bt1 i (by omega)]
    by_cases e : i = 0
    · rw [e, z]; rfl
    · rw [decide_eq_false e, Bool.and_false]
  · refine ⟨0, by decide, btI_ext (fun i hi => ?_)⟩
    rw [btI_and, bt1 i (by omega), show btI (nI 0) i = btI 0 i from rfl, bt0 i (by omega)]
    by_cases e : i = 0
    · rw [e, Bool.eq_false_iff.mpr z]; rfl
    · rw [decide_eq_false e, Bool.and_false]
theorem zL_isClash (X : EX) {h : HP} (F : Fx h) (e8 : hI h 109 8 = hI h 75 0) (e9 : hI h 109 9 = hI h 75 1) (e10 : hI h 109 10 = hI h 75 2) : Ct X mL_isClash 2 0 0 [vR (some 32), vR (some 109)] h (Rt (vI 1) h) := by
  refine ct_of rfl (Nat.le_of_ble_eq_true rfl) ?_
  refine e_aload_n aL_isClash_0 rfl ?_
  refine e_iconst (v := 0) aL_isClash_1 (by decide) ?_
  refine e_invv aL_isClash_2 kL_22 (zX8_clash X F 0) rfl rfl (fx_is F rfl) (Nat.le_of_ble_eq_true rfl) (Nat.le_of_ble_eq_true rfl) (Nat.le_refl _) (Nat.le_refl _) (Nat.le_of_ble_eq_true rfl) ?_
  intro v h2 q2
  rw [if_neg (by decide)] at q2
  obtain ⟨rfl, rfl⟩ := q2
  refine e_aload_n aL_isClash_5 rfl ?_
  refine e_getINF aL_isClash_6 fL_28 rfl (fx_is F rfl) e8 ?_
  refine e_icmp_ne aL_isClash_9 (fun c9 => ?_) (fun c9 => ?_)
  · -- 9: taken
    exact absurd rfl c9
  · -- 9: not taken
    refine e_aload_n aL_isClash_12 rfl ?_
    refine e_iconst (v := 1) aL_isClash_13 (by decide) ?_
    refine e_invv aL_isClash_14 kL_22 (zX8_clash X F 1) rfl rfl (fx_is F rfl) (Nat.le_of_ble_eq_true rfl) (Nat.le_of_ble_eq_true rfl) (Nat.le_refl _) (Nat.le_refl _) (Nat.le_of_ble_eq_true rfl) ?_
    intro v h2 q2
    rw [if_neg (by decide)] at q2
    obtain ⟨rfl, rfl⟩ := q2
    refine e_aload_n aL_isClash_17 rfl ?_
    refine e_getINF aL_isClash_18 fL_34 rfl (fx_is F rfl) e9 ?_
    refine e_icmp_ne aL_isClash_21 (fun c21 => ?_) (fun c21 => ?_)
    · -- 21: taken
      exact absurd rfl c21
    · -- 21: not taken
      refine e_aload_n aL_isClash_24 rfl ?_
      refine e_iconst (v := 2) aL_isClash_25 (by decide) ?_
      refine e_invv aL_isClash_26 kL_22 (zX8_clash X F 2) rfl rfl (fx_is F rfl) (Nat.le_of_ble_eq_true rfl) (Nat.le_of_ble_eq_true rfl) (Nat.le_refl _) (Nat.le_refl _) (Nat.le_of_ble_eq_true rfl) ?_
      intro v h2 q2
      rw [if_neg (by decide)] at q2
      obtain ⟨rfl, rfl⟩ := q2
      refine e_aload_n aL_isClash_29 rfl ?_
      refine e_getINF aL_isClash_30 fL_37 rfl (fx_is F rfl) e10 ?_
      refine e_icmp_ne aL_isClash_33 (fun c33 => ?_) (fun c33 => ?_)
      · -- 33: taken
        exact absurd rfl c33
      · -- 33: not taken
        refine e_iconst (v := 1) aL_isClash_36 (by decide) ?_
        refine e_goto aL_isClash_37 ?_
        refine e_zreturn aL_isClash_41 rfl (Or.inr rfl) (Nat.le_refl _) (Nat.le_refl _) ?_
        exact ⟨rfl, rfl⟩
theorem zL_falls (X : EX) {h : HP} {f n m : Nat} {o A : Nat → Nat} {D : Nat → DD} {c : BQ} {tS : Nat → Int32} {qS : Nat → Nat} (J : JM h f n m o A D c tS qS) {x : Nat} (hx : x < 6) (hf3 : f < 3) : Ct X mL_falls 2 0 0 [vR (some 32), vR (some 109), vI (nI x)] h (fun v h' => v = some (vI 1) ∧ JM h' (f + 1) n m (upF o f x) A D c tS qS) := by
  refine ct_of rfl (Nat.le_of_ble_eq_true rfl) ?_
  obtain ⟨cx, ow, ok, e1, e2, fa, τ, E, ll, lt, ly⟩ := J
  have F := cx.1
  have hf : LF h (wI (wI h 113 f (nI x)) 109 4 (nI (f + 1))) := (LF.wI (by decide)).tr (LF.wI (by decide))
  refine e_aload_n aL_falls_0 rfl ?_
  refine e_getRNF aL_falls_1 fL_64 rfl (fx_is F rfl) (fx_r (b := 113) F rfl) ?_
  refine e_aload_n aL_falls_4 rfl ?_
  refine e_getINF aL_falls_5 fL_40 rfl (fx_is F rfl) ly.1 ?_
  refine e_iload_n aL_falls_8 rfl ?_
  refine e_iastoreF aL_falls_9 (fx_is F rfl) (fx_n (n := 4) F rfl) (vin (N := 4) (by omega)) ?_
  rw [cl (n := f) (by omega)]
  refine e_aload_n aL_falls_10 rfl ?_
  refine e_dup aL_falls_11 rfl ?_
  refine e_getINF aL_falls_12 fL_40 rfl (fx_is F rfl) ((wI_a (by decide)).trans ly.1) ?_
  refine e_iconst (v := 1) aL_falls_15 (by decide) ?_
  refine e_iadd aL_falls_16 ?_
  refine e_top (nI_1 f) ?_
  refine e_putIN aL_falls_17 fL_40 rfl (fx_is F rfl) ?_
  refine e_aload_n aL_falls_20 rfl ?_
  refine e_iload_n aL_falls_21 rfl ?_
  refine e_invv aL_falls_22 kL_68 (s_fall X (h := wI (wI h 113 f (nI x)) 109 4 (nI (f + 1))) (cx.lf hf) (ow.lf hf F) (by omega) hx) rfl rfl (fx_is F rfl) (Nat.le_of_ble_eq_true rfl) (Nat.le_of_ble_eq_true rfl) (Nat.le_refl _) (Nat.le_refl _) (Nat.le_of_ble_eq_true rfl) ?_
  rintro v h2 ⟨rfl, cx2, ow2, cf, -⟩
  have F := cx2.1
  refine e_aload_n aL_falls_25 rfl ?_
  refine e_getINF aL_falls_26 fL_40 rfl (fx_is F rfl) ((cf.2.2 109 (by decide) (by decide) _).1.trans wI_s) ?_
  refine e_icmp_ne aL_falls_29 (fun c29 => ?_) (fun c29 => ?_)
  · -- 29: taken
    exact absurd rfl c29
  · -- 29: not taken
    refine e_iconst (v := 1) aL_falls_32 (by decide) ?_
    refine e_goto aL_falls_33 ?_
    refine e_zreturn aL_falls_37 rfl (Or.inr rfl) (Nat.le_refl _) (Nat.le_refl _) ?_
    refine ⟨rfl, cx2, ow2, ok.fall (by omega) hx, e1, e2, fa, τ, E, ((ll.wI (by decide) (by decide) (by decide)).wI (by decide) (by decide) (by decide)).cf cf, ?_, ?_⟩
    · have l1 : LT (wI (wI h 113 f (nI x)) 109 4 (nI (f + 1))) m n τ E D := ⟨(wI_i (by decide)).trans ((wI_a (by decide)).trans lt.1), lt.2.1, fun j hj => ⟨(wI_a (by decide)).trans ((wI_a (by decide)).trans (lt.2.2 j hj).1), (lt.2.2 j hj).2⟩⟩
      exact l1.cf cf
    · have l1 : LY (wI (wI h 113 f (nI x)) 109 4 (nI (f + 1))) (f + 1) (upF o f x) := ⟨wI_s, by omega, fun y hy => ?_, fun y hy => ?_⟩
      · exact l1.cf cf
      · by_cases e : y = f
        · rw [e, upF_s]
          exact (wI_a (by decide)).trans wI_s
        · rw [upF_o e]
          exact (wI_a (by decide)).trans ((wI_i e).trans (ly.2.2.1 y (by omega)))
      · by_cases e : y = f
        · rw [e, upF_s]; exact hx
        · rw [upF_o e]; exact ly.2.2.2 y (by omega)
theorem zL_told (X : EX) {h : HP} {f n m : Nat} {o A : Nat → Nat} {D : Nat → DD} {c : BQ} {tS : Nat → Int32} {qS : Nat → Nat} (J : JM h f n m o A D c tS qS) {fb : Nat} {d : DD} (kd : FaC h fb d) (hm : m < 10) (hn : n < 12) (hnm : n ≤ m) : Ct X mL_told 8 3 27 [vR (some 32), vR (some 109), vR (some fb)] h (fun v h' => v = some (vI 1) ∧ ∃ n2 m2 A2 D2, n2 ≤ n + 1 ∧ m2 ≤ m + 1 ∧ n2 ≤ m2 ∧ JM h' f n2 m2 o A2 D2 c tS qS) := by
  refine ct_of rfl (Nat.le_of_ble_eq_true rfl) ?_
  obtain ⟨cx, ow, ok, e1, e2, fa, τ, E, ll, lt, ly⟩ := J
  have F := cx.1
  obtain ⟨k0, kf, kn, w, hcf, f0, f1, f2, f3, f4, f5⟩ := id kd
  have hp12 := w.2.2.2.2.1
  have hf4 := ly.2.1
  by_cases hlate : dP d / 3 < f
  · have eL : ∀ hz, hz = h → Ev X mL_told 8 3 27 (fun v h' => v = some (vI 1) ∧ ∃ n2 m2 A2 D2, n2 ≤ n + 1 ∧ m2 ≤ m + 1 ∧ n2 ≤ m2 ∧ JM h' f n2 m2 o A2 D2 c tS qS) 0 0 96 [(0, some (vR (some 32))), (1, some (vR (some 109))), (2, some (vR (some fb))), (6, some (vI (-1000004)))] [] hz := by
      intro hz hzz
      subst hzz
      have cxz := cx
      have owz := ow
      refine e_aload_n aL_told_96 rfl ?_
      refine e_iconst (v := 4) aL_told_97 (by decide) ?_
      refine e_ialoadF aL_told_98 kf kn (vin (n := 4) (N := 6) (by decide)) f4 ?_
      refine e_if_ge aL_told_99 (fun c99 => ?_) (fun c99 => ?_)
      · -- 99: taken
        obtain ⟨v0, hv0⟩ : ∃ v0, dO d = some v0 := by
          rcases e9 : dO d with _ | v0
          · rw [e9] at c99; exact absurd c99 (by decide)
          · exact ⟨v0, rfl⟩
        rw [hv0] at f4
        have f4 : hI hz fb 4 = nI v0 := f4
        refine e_aload_n aL_told_124 rfl ?_
        refine e_aload_n aL_told_125 rfl ?_
        refine e_iconst (v := 1) aL_told_126 (by decide) ?_
        refine e_ialoadF aL_told_127 kf kn (vin (n := 1) (N := 6) (by decide)) f1 ?_
        refine e_aload_n aL_told_128 rfl ?_
        refine e_iconst (v := 2) aL_told_129 (by decide) ?_
        refine e_ialoadF aL_told_130 kf kn (vin (n := 2) (N := 6) (by decide)) f2 ?_
        refine e_aload_n aL_told_131 rfl ?_
        refine e_iconst (v := 3) aL_told_132 (by decide) ?_
        refine e_ialoadF aL_told_133 kf kn (vin (n := 3) (N := 6) (by decide)) f3 ?_
        refine e_aload_n aL_told_134 rfl ?_
        refine e_iconst (v := 4) aL_told_135 (by decide) ?_
        refine e_ialoadF aL_told_136 kf kn (vin (n := 4) (N := 6) (by decide)) f4 ?_
        refine e_aload_n aL_told_137 rfl ?_
        refine e_iconst (v := 5) aL_told_138 (by decide) ?_
        refine e_ialoadF aL_told_139 kf kn (vin (n := 5) (N := 6) (by decide)) f5 ?_
        refine e_invv aL_told_140 kL_57 (s_swap (X := X) (v0 := v0) cxz owz ok hn w hcf hv0) rfl rfl (fx_is F rfl) (Nat.le_of_ble_eq_true rfl) (Nat.le_of_ble_eq_true rfl) (Nat.le_of_ble_eq_true rfl) (Nat.le_of_ble_eq_true rfl) (Nat.le_of_ble_eq_true rfl) ?_
        rintro v h2 q2
        obtain ⟨cf, q2⟩ := q2
        rw [if_pos hlate] at q2
        obtain ⟨rfl, cx2, ow2⟩ := q2
        rw [fn32]
        have F := cx2.1
        refine e_istore aL_told_143 (Nat.le_of_ble_eq_true rfl) ?_
        refine e_iload aL_told_145 rfl ?_
        refine e_iload aL_told_147 rfl ?_
        refine e_icmp_ne aL_told_149 (fun c149 => ?_) (fun c149 => ?_)
        · -- 149: taken
          exact absurd rfl c149
        · -- 149: not taken
          refine e_iload aL_told_152 rfl ?_
          refine e_ldc aL_told_154 lL_52 ?_
          refine e_icmp_ne aL_told_156 (fun c156 => ?_) (fun c156 => ?_)
          · -- 156: taken
            refine e_iconst (v := 1) aL_told_167 (by decide) ?_
            refine e_goto aL_told_168 ?_
            refine e_zreturn aL_told_172 rfl (Or.inr rfl) (Nat.le_of_ble_eq_true rfl) (Nat.le_of_ble_eq_true rfl) ?_
            exact ⟨rfl, n, m, A, D, by omega, by omega, hnm, cx2, ow2, ok, e1, e2, fa, τ, E, ll.cf cf, lt.cf cf, ly.cf cf⟩
          · -- 156: not taken
            exact absurd c156 (by decide)
      · -- 99: not taken
        have ho : dO d = none := by
          rcases e9 : dO d with _ | v0
          · rfl
          · rw [e9] at c99; exact absurd (nI_pos' (n := v0) (by have := (w.2.2.2.2.2.2.1 v0 e9).1; omega)) c99
        refine e_aload_n aL_told_102 rfl ?_
        refine e_aload_n aL_told_103 rfl ?_
        refine e_iconst (v := 0) aL_told_104 (by decide) ?_
        refine e_ialoadF aL_told_105 kf kn (vin (n := 0) (N := 6) (by decide)) f0 ?_
        refine e_aload_n aL_told_106 rfl ?_
        refine e_iconst (v := 1) aL_told_107 (by decide) ?_
        refine e_ialoadF aL_told_108 kf kn (vin (n := 1) (N := 6) (by decide)) f1 ?_
        refine e_aload_n aL_told_109 rfl ?_
        refine e_iconst (v := 2) aL_told_110 (by decide) ?_
        refine e_ialoadF aL_told_111 kf kn (vin (n := 2) (N := 6) (by decide)) f2 ?_
        refine e_aload_n aL_told_112 rfl ?_
        refine e_iconst (v := 3) aL_told_113 (by decide) ?_
        refine e_ialoadF aL_told_114 kf kn (vin (n := 3) (N := 6) (by decide)) f3 ?_
        refine e_aload_n aL_told_115 rfl ?_
        refine e_iconst (v := 5) aL_told_116 (by decide) ?_
        refine e_ialoadF aL_told_117 kf kn (vin (n := 5) (N := 6) (by decide)) f5 ?_
        refine e_invv aL_told_118 kL_53 (s_sale (X := X) cxz owz ok hn w hcf ho) rfl rfl (fx_is F rfl) (Nat.le_of_ble_eq_true rfl) (Nat.le_of_ble_eq_true rfl) (Nat.le_of_ble_eq_true rfl) (Nat.le_of_ble_eq_true rfl) (Nat.le_of_ble_eq_true rfl) ?_
        rintro v h2 q2
        obtain ⟨cf, q2⟩ := q2
        rw [if_pos hlate] at q2
        obtain ⟨rfl, cx2, ow2⟩ := q2
        rw [fn32]
        have F := cx2.1
        refine e_goto aL_told_121 ?_
        refine e_istore aL_told_143 (Nat.le_of_ble_eq_true rfl) ?_
        refine e_iload aL_told_145 rfl ?_
        refine e_iload aL_told_147 rfl ?_
        refine e_icmp_ne aL_told_149 (fun c149 => ?_) (fun c149 => ?_)
        · -- 149: taken
          exact absurd rfl c149
        · -- 149: not taken
          refine e_iload aL_told_152 rfl ?_
          refine e_ldc aL_told_154 lL_52 ?_
          refine e_icmp_ne aL_told_156 (fun c156 => ?_) (fun c156 => ?_)
          · -- 156: taken
            refine e_iconst (v := 1) aL_told_167 (by decide) ?_
            refine e_goto aL_told_168 ?_
            refine e_zreturn aL_told_172 rfl (Or.inr rfl) (Nat.le_of_ble_eq_true rfl) (Nat.le_of_ble_eq_true rfl) ?_
            exact ⟨rfl, n, m, A, D, by omega, by omega, hnm, cx2, ow2, ok, e1, e2, fa, τ, E, ll.cf cf, lt.cf cf, ly.cf cf⟩
          · -- 156: not taken
            exact absurd c156 (by decide)
    refine e_aload_n aL_told_0 rfl ?_
    refine e_iconst (v := 3) aL_told_1 (by decide) ?_
    refine e_ialoadF aL_told_2 kf kn (vin (n := 3) (N := 6) (by decide)) f3 ?_
    refine e_iconst (v := 3) aL_told_3 (by decide) ?_
    refine e_idiv aL_told_4 (by decide) ?_
    refine e_top (nI_div (b := 3) (by omega) (by decide) (by decide)) ?_
    refine e_aload_n aL_told_5 rfl ?_
    refine e_getINF aL_told_6 fL_40 rfl (fx_is F rfl) ly.1 ?_
    refine e_icmp_ge aL_told_9 (fun c9 => ?_) (fun c9 => ?_)
    · -- 9: taken
      exact absurd c9 (nI_ge (by omega) (by omega))
    · -- 9: not taken
      refine e_iconst (v := 1) aL_told_12 (by decide) ?_
      refine e_goto aL_told_13 ?_
      refine e_istore_n aL_told_17 (Nat.le_of_ble_eq_true rfl) ?_
      refine e_aload_n aL_told_18 rfl ?_
      refine e_getINF aL_told_19 fL_43 rfl (fx_is F rfl) lt.1 ?_
      refine e_bipush (v := 12) aL_told_22 (by decide) ?_
      refine e_icmp_ne aL_told_24 (fun c24 => ?_) (fun c24 => ?_)
      · -- 24: taken
        skip
        refine e_iconst (v := 0) aL_told_31 (by decide) ?_
        refine e_istore aL_told_32 (Nat.le_of_ble_eq_true rfl) ?_
        refine e_iload_n aL_told_34 rfl ?_
        refine e_if_ne aL_told_35 (fun c35 => ?_) (fun c35 => absurd c35 (by decide))
        refine e_iconst (v := 0) aL_told_56 (by decide) ?_
        refine e_istore aL_told_57 (Nat.le_of_ble_eq_true rfl) ?_
        refine e_iload_n aL_told_59 rfl ?_
        refine e_if_eq aL_told_60 (fun c60 => absurd c60 (by decide)) (fun c60 => ?_)
        refine e_ldc aL_told_63 lL_50 ?_
        refine e_goto aL_told_65 ?_
        refine e_istore aL_told_94 (Nat.le_of_ble_eq_true rfl) ?_
        refine e_ls (ls' := [(0, some (vR (some 32))), (1, some (vR (some 109))), (2, some (vR (some fb))), (6, some (vI (-1000004)))]) ⟨rfl, rfl, rfl, rfl, trivial⟩ ?_
        exact eL h rfl
      · -- 24: not taken
        exact absurd ((nI_eq (a := n) (b := 12) (by omega) (by decide)).mp c24) (by omega)
  · have eN : ∀ (hz : HP) (x1 x2 : Nat), Fx hz → CX hz (f, n, o, A, D) 0 c tS qS → OwB hz (f, n, o, A, D) → FaC hz fb d → rfs (upF D n d) (n + 1) (fo o f) (om f) = none → LL hz (m + 1) x1 x2 (upF fa m fb) (upF E m d) → LT hz (m + 1) (n + 1) (upF τ n m) (upF E m d) (upF D n d) → LY hz f o → Ev X mL_told 8 3 27 (fun v h' => v = some (vI 1) ∧ ∃ n2 m2 A2 D2, n2 ≤ n + 1 ∧ m2 ≤ m + 1 ∧ n2 ≤ m2 ∧ JM h' f n2 m2 o A2 D2 c tS qS) 2 20 96 [(0, some (vR (some 32))), (1, some (vR (some 109))), (2, some (vR (some fb))), (6, some (vI (nI n)))] [] hz := by
      intro hz x1 x2 F cxz owz kdz hr llz ltz lyz
      obtain ⟨k0, kf, kn, w, hcf, f0, f1, f2, f3, f4, f5⟩ := kdz
      refine e_aload_n aL_told_96 rfl ?_
      refine e_iconst (v := 4) aL_told_97 (by decide) ?_
      refine e_ialoadF aL_told_98 kf kn (vin (n := 4) (N := 6) (by decide)) f4 ?_
      refine e_if_ge aL_told_99 (fun c99 => ?_) (fun c99 => ?_)
      · -- 99: taken
        obtain ⟨v0, hv0⟩ : ∃ v0, dO d = some v0 := by
          rcases e9 : dO d with _ | v0
          · rw [e9] at c99; exact absurd c99 (by decide)
          · exact ⟨v0, rfl⟩
        rw [hv0] at f4
        have f4 : hI hz fb 4 = nI v0 := f4
        refine e_aload_n aL_told_124 rfl ?_
        refine e_aload_n aL_told_125 rfl ?_
        refine e_iconst (v := 1) aL_told_126 (by decide) ?_
        refine e_ialoadF aL_told_127 kf kn (vin (n := 1) (N := 6) (by decide)) f1 ?_
        refine e_aload_n aL_told_128 rfl ?_
        refine e_iconst (v := 2) aL_told_129 (by decide) ?_
        refine e_ialoadF aL_told_130 kf kn (vin (n := 2) (N := 6) (by decide)) f2 ?_
        refine e_aload_n aL_told_131 rfl ?_
        refine e_iconst (v := 3) aL_told_132 (by decide) ?_
        refine e_ialoadF aL_told_133 kf kn (vin (n := 3) (N := 6) (by decide)) f3 ?_
        refine e_aload_n aL_told_134 rfl ?_
        refine e_iconst (v := 4) aL_told_135 (by decide) ?_
        refine e_ialoadF aL_told_136 kf kn (vin (n := 4) (N := 6) (by decide)) f4 ?_
        refine e_aload_n aL_told_137 rfl ?_
        refine e_iconst (v := 5) aL_told_138 (by decide) ?_
        refine e_ialoadF aL_told_139 kf kn (vin (n := 5) (N := 6) (by decide)) f5 ?_
        refine e_invv aL_told_140 kL_57 (s_swap (X := X) (v0 := v0) cxz owz ok hn w hcf hv0) rfl rfl (fx_is F rfl) (Nat.le_of_ble_eq_true rfl) (Nat.le_of_ble_eq_true rfl) (Nat.le_of_ble_eq_true rfl) (Nat.le_of_ble_eq_true rfl) (Nat.le_of_ble_eq_true rfl) ?_
        rintro v h2 q2
        obtain ⟨cf, q2⟩ := q2
        rw [if_neg hlate, hr] at q2
        obtain ⟨rfl, ok2, A2, cx2, ow2⟩ := q2
        have F := cx2.1
        refine e_istore aL_told_143 (Nat.le_of_ble_eq_true rfl) ?_
        refine e_iload aL_told_145 rfl ?_
        refine e_iload aL_told_147 rfl ?_
        refine e_icmp_ne aL_told_149 (fun c149 => ?_) (fun c149 => ?_)
        · -- 149: taken
          exact absurd rfl c149
        · -- 149: not taken
          refine e_iload aL_told_152 rfl ?_
          refine e_ldc aL_told_154 lL_52 ?_
          refine e_icmp_ne aL_told_156 (fun c156 => ?_) (fun c156 => ?_)
          · -- 156: taken
            refine e_iconst (v := 1) aL_told_167 (by decide) ?_
            refine e_goto aL_told_168 ?_
            refine e_zreturn aL_told_172 rfl (Or.inr rfl) (Nat.le_of_ble_eq_true rfl) (Nat.le_of_ble_eq_true rfl) ?_
            exact ⟨rfl, n + 1, m + 1, A2, upF D n d, Nat.le_refl _, Nat.le_refl _, by omega, cx2, ow2, ok2, x1, x2, _, _, _, llz.cf cf, ltz.cf cf, lyz.cf cf⟩
          · -- 156: not taken
            exact absurd (c156 ▸ nI_pos' (n := n) (by omega)) (by decide)
      · -- 99: not taken
        have ho : dO d = none := by
          rcases e9 : dO d with _ | v0
          · rfl
          · rw [e9] at c99; exact absurd (nI_pos' (n := v0) (by have := (w.2.2.2.2.2.2.1 v0 e9).1; omega)) c99
        refine e_aload_n aL_told_102 rfl ?_
        refine e_aload_n aL_told_103 rfl ?_
        refine e_iconst (v := 0) aL_told_104 (by decide) ?_
        refine e_ialoadF aL_told_105 kf kn (vin (n := 0) (N := 6) (by decide)) f0 ?_
        refine e_aload_n aL_told_106 rfl ?_
        refine e_iconst (v := 1) aL_told_107 (by decide) ?_
        refine e_ialoadF aL_told_108 kf kn (vin (n := 1) (N := 6) (by decide)) f1 ?_
        refine e_aload_n aL_told_109 rfl ?_
        refine e_iconst (v := 2) aL_told_110 (by decide) ?_
        refine e_ialoadF aL_told_111 kf kn (vin (n := 2) (N := 6) (by decide)) f2 ?_
        refine e_aload_n aL_told_112 rfl ?_
        refine e_iconst (v := 3) aL_told_113 (by decide) ?_
        refine e_ialoadF aL_told_114 kf kn (vin (n := 3) (N := 6) (by decide)) f3 ?_
        refine e_aload_n aL_told_115 rfl ?_
        refine e_iconst (v := 5) aL_told_116 (by decide) ?_
        refine e_ialoadF aL_told_117 kf kn (vin (n := 5) (N := 6) (by decide)) f5 ?_
        refine e_invv aL_told_118 kL_53 (s_sale (X := X) cxz owz ok hn w hcf ho) rfl rfl (fx_is F rfl) (Nat.le_of_ble_eq_true rfl) (Nat.le_of_ble_eq_true rfl) (Nat.le_of_ble_eq_true rfl) (Nat.le_of_ble_eq_true rfl) (Nat.le_of_ble_eq_true rfl) ?_
        rintro v h2 q2
        obtain ⟨cf, q2⟩ := q2
        rw [if_neg hlate, hr] at q2
        obtain ⟨rfl, ok2, A2, cx2, ow2⟩ := q2
        have F := cx2.1
        refine e_goto aL_told_121 ?_
        refine e_istore aL_told_143 (Nat.le_of_ble_eq_true rfl) ?_
        refine e_iload aL_told_145 rfl ?_
        refine e_iload aL_told_147 rfl ?_
        refine e_icmp_ne aL_told_149 (fun c149 => ?_) (fun c149 => ?_)
        · -- 149: taken
          exact absurd rfl c149
        · -- 149: not taken
          refine e_iload aL_told_152 rfl ?_
          refine e_ldc aL_told_154 lL_52 ?_
          refine e_icmp_ne aL_told_156 (fun c156 => ?_) (fun c156 => ?_)
          · -- 156: taken
            refine e_iconst (v := 1) aL_told_167 (by decide) ?_
            refine e_goto aL_told_168 ?_
            refine e_zreturn aL_told_172 rfl (Or.inr rfl) (Nat.le_of_ble_eq_true rfl) (Nat.le_of_ble_eq_true rfl) ?_
            exact ⟨rfl, n + 1, m + 1, A2, upF D n d, Nat.le_refl _, Nat.le_refl _, by omega, cx2, ow2, ok2, x1, x2, _, _, _, llz.cf cf, ltz.cf cf, lyz.cf cf⟩
          · -- 156: not taken
            exact absurd (c156 ▸ nI_pos' (n := n) (by omega)) (by decide)
    have eS : ∀ (hz : HP) (x1 x2 sx p1 : Nat), Fx hz → CX hz (f, n, o, A, D) 0 c tS qS → OwB hz (f, n, o, A, D) → FaC hz fb d → rfs (upF D n d) (n + 1) (fo o f) (om f) = some sx → rfc (upF D n d) (n + 1) sx = some p1 → hI hz 109 8 = nI sx → hI hz 109 9 = nI p1 → hI hz 109 10 = rclV (upF D n d) (n + 1) sx p1 → LL hz (m + 1) x1 x2 (upF fa m fb) (upF E m d) → LT hz (m + 1) n (upF τ n m) (upF E m d) D → LY hz f o → Ev X mL_told 8 3 27 (fun v h' => v = some (vI 1) ∧ ∃ n2 m2 A2 D2, n2 ≤ n + 1 ∧ m2 ≤ m + 1 ∧ n2 ≤ m2 ∧ JM h' f n2 m2 o A2 D2 c tS qS) 2 20 96 [(0, some (vR (some 32))), (1, some (vR (some 109))), (2, some (vR (some fb))), (6, some (vI (-1000005)))] [] hz := by
      intro hz x1 x2 sx p1 F cxz owz kdz hr g0 g1 g2 g3 llz ltz lyz
      obtain ⟨k0, kf, kn, w, hcf, f0, f1, f2, f3, f4, f5⟩ := kdz
      refine e_aload_n aL_told_96 rfl ?_
      refine e_iconst (v := 4) aL_told_97 (by decide) ?_
      refine e_ialoadF aL_told_98 kf kn (vin (n := 4) (N := 6) (by decide)) f4 ?_
      refine e_if_ge aL_told_99 (fun c99 => ?_) (fun c99 => ?_)
      · -- 99: taken
        obtain ⟨v0, hv0⟩ : ∃ v0, dO d = some v0 := by
          rcases e9 : dO d with _ | v0
          · rw [e9] at c99; exact absurd c99 (by decide)
          · exact ⟨v0, rfl⟩
        rw [hv0] at f4
        have f4 : hI hz fb 4 = nI v0 := f4
        refine e_aload_n aL_told_124 rfl ?_
        refine e_aload_n aL_told_125 rfl ?_
        refine e_iconst (v := 1) aL_told_126 (by decide) ?_
        refine e_ialoadF aL_told_127 kf kn (vin (n := 1) (N := 6) (by decide)) f1 ?_
        refine e_aload_n aL_told_128 rfl ?_
        refine e_iconst (v := 2) aL_told_129 (by decide) ?_
        refine e_ialoadF aL_told_130 kf kn (vin (n := 2) (N := 6) (by decide)) f2 ?_
        refine e_aload_n aL_told_131 rfl ?_
        refine e_iconst (v := 3) aL_told_132 (by decide) ?_
        refine e_ialoadF aL_told_133 kf kn (vin (n := 3) (N := 6) (by decide)) f3 ?_
        refine e_aload_n aL_told_134 rfl ?_
        refine e_iconst (v := 4) aL_told_135 (by decide) ?_
        refine e_ialoadF aL_told_136 kf kn (vin (n := 4) (N := 6) (by decide)) f4 ?_
        refine e_aload_n aL_told_137 rfl ?_
        refine e_iconst (v := 5) aL_told_138 (by decide) ?_
        refine e_ialoadF aL_told_139 kf kn (vin (n := 5) (N := 6) (by decide)) f5 ?_
        refine e_invv aL_told_140 kL_57 (s_swap (X := X) (v0 := v0) cxz owz ok hn w hcf hv0) rfl rfl (fx_is F rfl) (Nat.le_of_ble_eq_true rfl) (Nat.le_of_ble_eq_true rfl) (Nat.le_of_ble_eq_true rfl) (Nat.le_of_ble_eq_true rfl) (Nat.le_of_ble_eq_true rfl) ?_
        rintro v h2 q2
        obtain ⟨cf, q2⟩ := q2
        rw [if_neg hlate, hr] at q2
        obtain ⟨rfl, cx2, ow2, p2, r1, r2, r3, r4⟩ := q2
        rw [fn34]
        have F := cx2.1
        obtain rfl : p1 = p2 := Option.some.inj (g0.symm.trans r1)
        refine e_istore aL_told_143 (Nat.le_of_ble_eq_true rfl) ?_
        refine e_iload aL_told_145 rfl ?_
        refine e_iload aL_told_147 rfl ?_
        refine e_icmp_ne aL_told_149 (fun c149 => ?_) (fun c149 => ?_)
        · -- 149: taken
          exact absurd rfl c149
        · -- 149: not taken
          refine e_iload aL_told_152 rfl ?_
          refine e_ldc aL_told_154 lL_52 ?_
          refine e_icmp_ne aL_told_156 (fun c156 => ?_) (fun c156 => ?_)
          · -- 156: taken
            exact absurd (show (-1000005 : Int32) = -1000005 from rfl) c156
          · -- 156: not taken
            refine e_aload_n aL_told_159 rfl ?_
            refine e_aload_n aL_told_160 rfl ?_
            refine e_invsT aL_told_161 kL_60 (zL_isClash X F ((cf.2.2 109 (by decide) (by decide) _).1.trans (g1.trans r2.symm)) ((cf.2.2 109 (by decide) (by decide) _).1.trans (g2.trans r3.symm)) ((cf.2.2 109 (by decide) (by decide) _).1.trans (g3.trans r4.symm))) rfl rfl (Nat.le_of_ble_eq_true rfl) (Nat.le_of_ble_eq_true rfl) (Nat.le_of_ble_eq_true rfl) (Nat.le_of_ble_eq_true rfl) (Nat.le_of_ble_eq_true rfl) ?_
            refine e_if_eq aL_told_164 (fun c164 => ?_) (fun c164 => ?_)
            · -- 164: taken
              exact absurd c164 (by decide)
            · -- 164: not taken
              skip
              refine e_iconst (v := 1) aL_told_167 (by decide) ?_
              refine e_goto aL_told_168 ?_
              refine e_zreturn aL_told_172 rfl (Or.inr rfl) (Nat.le_of_ble_eq_true rfl) (Nat.le_of_ble_eq_true rfl) ?_
              exact ⟨rfl, n, m + 1, A, D, by omega, Nat.le_refl _, by omega, cx2, ow2, ok, x1, x2, _, _, _, llz.cf cf, ltz.cf cf, lyz.cf cf⟩
      · -- 99: not taken
        have ho : dO d = none := by
          rcases e9 : dO d with _ | v0
          · rfl
          · rw [e9] at c99; exact absurd (nI_pos' (n := v0) (by have := (w.2.2.2.2.2.2.1 v0 e9).1; omega)) c99
        refine e_aload_n aL_told_102 rfl ?_
        refine e_aload_n aL_told_103 rfl ?_
        refine e_iconst (v := 0) aL_told_104 (by decide) ?_
        refine e_ialoadF aL_told_105 kf kn (vin (n := 0) (N := 6) (by decide)) f0 ?_
        refine e_aload_n aL_told_106 rfl ?_
        refine e_iconst (v := 1) aL_told_107 (by decide) ?_
        refine e_ialoadF aL_told_108 kf kn (vin (n := 1) (N := 6) (by decide)) f1 ?_
        refine e_aload_n aL_told_109 rfl ?_
        refine e_iconst (v := 2) aL_told_110 (by decide) ?_
        refine e_ialoadF aL_told_111 kf kn (vin (n := 2) (N := 6) (by decide)) f2 ?_
        refine e_aload_n aL_told_112 rfl ?_
        refine e_iconst (v := 3) aL_told_113 (by decide) ?_
        refine e_ialoadF aL_told_114 kf kn (vin (n := 3) (N := 6) (by decide)) f3 ?_
        refine e_aload_n aL_told_115 rfl ?_
        refine e_iconst (v := 5) aL_told_116 (by decide) ?_
        refine e_ialoadF aL_told_117 kf kn (vin (n := 5) (N := 6) (by decide)) f5 ?_
        refine e_invv aL_told_118 kL_53 (s_sale (X := X) cxz owz ok hn w hcf ho) rfl rfl (fx_is F rfl) (Nat.le_of_ble_eq_true rfl) (Nat.le_of_ble_eq_true rfl) (Nat.le_of_ble_eq_true rfl) (Nat.le_of_ble_eq_true rfl) (Nat.le_of_ble_eq_true rfl) ?_
        rintro v h2 q2
        obtain ⟨cf, q2⟩ := q2
        rw [if_neg hlate, hr] at q2
        obtain ⟨rfl, cx2, ow2, p2, r1, r2, r3, r4⟩ := q2
        rw [fn34]
        have F := cx2.1
        obtain rfl : p1 = p2 := Option.some.inj (g0.symm.trans r1)
        refine e_goto aL_told_121 ?_
        refine e_istore aL_told_143 (Nat.le_of_ble_eq_true rfl) ?_
        refine e_iload aL_told_145 rfl ?_
        refine e_iload aL_told_147 rfl ?_
        refine e_icmp_ne aL_told_149 (fun c149 => ?_) (fun c149 => ?_)
        · -- 149: taken
          exact absurd rfl c149
        · -- 149: not taken
          refine e_iload aL_told_152 rfl ?_
          refine e_ldc aL_told_154 lL_52 ?_
          refine e_icmp_ne aL_told_156 (fun c156 => ?_) (fun c156 => ?_)
          · -- 156: taken
            exact absurd (show (-1000005 : Int32) = -1000005 from rfl) c156
          · -- 156: not taken
            refine e_aload_n aL_told_159 rfl ?_
            refine e_aload_n aL_told_160 rfl ?_
            refine e_invsT aL_told_161 kL_60 (zL_isClash X F ((cf.2.2 109 (by decide) (by decide) _).1.trans (g1.trans r2.symm)) ((cf.2.2 109 (by decide) (by decide) _).1.trans (g2.trans r3.symm)) ((cf.2.2 109 (by decide) (by decide) _).1.trans (g3.trans r4.symm))) rfl rfl (Nat.le_of_ble_eq_true rfl) (Nat.le_of_ble_eq_true rfl) (Nat.le_of_ble_eq_true rfl) (Nat.le_of_ble_eq_true rfl) (Nat.le_of_ble_eq_true rfl) ?_
            refine e_if_eq aL_told_164 (fun c164 => ?_) (fun c164 => ?_)
            · -- 164: taken
              exact absurd c164 (by decide)
            · -- 164: not taken
              skip
              refine e_iconst (v := 1) aL_told_167 (by decide) ?_
              refine e_goto aL_told_168 ?_
              refine e_zreturn aL_told_172 rfl (Or.inr rfl) (Nat.le_of_ble_eq_true rfl) (Nat.le_of_ble_eq_true rfl) ?_
              exact ⟨rfl, n, m + 1, A, D, by omega, Nat.le_refl _, by omega, cx2, ow2, ok, x1, x2, _, _, _, llz.cf cf, ltz.cf cf, lyz.cf cf⟩
    refine e_aload_n aL_told_0 rfl ?_
    refine e_iconst (v := 3) aL_told_1 (by decide) ?_
    refine e_ialoadF aL_told_2 kf kn (vin (n := 3) (N := 6) (by decide)) f3 ?_
    refine e_iconst (v := 3) aL_told_3 (by decide) ?_
    refine e_idiv aL_told_4 (by decide) ?_
    refine e_top (nI_div (b := 3) (by omega) (by decide) (by decide)) ?_
    refine e_aload_n aL_told_5 rfl ?_
    refine e_getINF aL_told_6 fL_40 rfl (fx_is F rfl) ly.1 ?_
    refine e_icmp_ge aL_told_9 (fun c9 => ?_) (fun c9 => ?_)
    · -- 9: taken
      skip
      refine e_iconst (v := 0) aL_told_16 (by decide) ?_
      refine e_istore_n aL_told_17 (Nat.le_of_ble_eq_true rfl) ?_
      refine e_aload_n aL_told_18 rfl ?_
      refine e_getINF aL_told_19 fL_43 rfl (fx_is F rfl) lt.1 ?_
      refine e_bipush (v := 12) aL_told_22 (by decide) ?_
      refine e_icmp_ne aL_told_24 (fun c24 => ?_) (fun c24 => ?_)
      · -- 24: taken
        skip
        refine e_iconst (v := 0) aL_told_31 (by decide) ?_
        refine e_istore aL_told_32 (Nat.le_of_ble_eq_true rfl) ?_
        refine e_iload_n aL_told_34 rfl ?_
        refine e_if_ne aL_told_35 (fun c35 => absurd c35 (by decide)) (fun c35 => ?_)
        refine e_iload aL_told_38 rfl ?_
        refine e_if_ne aL_told_40 (fun c40 => absurd c40 (by decide)) (fun c40 => ?_)
        refine e_aload_n aL_told_43 rfl ?_
        refine e_aload_n aL_told_44 rfl ?_
        refine e_aconst_null aL_told_45 ?_
        refine e_invv aL_told_46 kL_46 (zX9_comes X F ll lt ly kd hm hn) rfl rfl (fx_is F rfl) (Nat.le_of_ble_eq_true rfl) (Nat.le_of_ble_eq_true rfl) (Nat.le_of_ble_eq_true rfl) (Nat.le_of_ble_eq_true rfl) (Nat.le_of_ble_eq_true rfl) ?_
        rintro v h2 ⟨lf, F2, ⟨x1, x2, llz⟩, lyz, q2⟩
        rcases hr : rfs (upF D n d) (n + 1) (fo o f) (om f) with _ | sx
        · rw [hr] at q2
          obtain ⟨rfl, ltz⟩ := q2
          refine e_if_eq aL_told_49 (fun c49 => ?_) (fun c49 => ?_)
          · -- 49: taken
            exact absurd c49 (by decide)
          · -- 49: not taken
            skip
            refine e_iconst (v := 1) aL_told_52 (by decide) ?_
            refine e_goto aL_told_53 ?_
            refine e_istore aL_told_57 (Nat.le_of_ble_eq_true rfl) ?_
            refine e_iload_n aL_told_59 rfl ?_
            refine e_if_eq aL_told_60 (fun c60 => ?_) (fun c60 => absurd c60 (by decide))
            refine e_iload aL_told_68 rfl ?_
            refine e_if_eq aL_told_70 (fun c70 => ?_) (fun c70 => absurd c70 (by decide))
            refine e_iload aL_told_78 rfl ?_
            refine e_if_eq aL_told_80 (fun c80 => absurd c80 (by decide)) (fun c80 => ?_)
            refine e_aload_n aL_told_83 rfl ?_
            refine e_getINF aL_told_84 fL_43 rfl (fx_is F2 rfl) ltz.1 ?_
            refine e_iconst (v := 1) aL_told_87 (by decide) ?_
            refine e_isub aL_told_88 ?_
            refine e_top (nI_pred n) ?_
            refine e_goto aL_told_89 ?_
            refine e_istore aL_told_94 (Nat.le_of_ble_eq_true rfl) ?_
            refine e_ls (ls' := [(0, some (vR (some 32))), (1, some (vR (some 109))), (2, some (vR (some fb))), (6, some (vI (nI n)))]) ⟨rfl, rfl, rfl, rfl, trivial⟩ ?_
            exact eN h2 x1 x2 F2 (cx.lf lf) (ow.lf lf F) (kd.lf lf) hr llz ltz lyz
        · rw [hr] at q2
          obtain ⟨rfl, ltz, p1, g0, g1, g2, g3⟩ := q2
          refine e_if_eq aL_told_49 (fun c49 => ?_) (fun c49 => ?_)
          · -- 49: taken
            skip
            refine e_iconst (v := 0) aL_told_56 (by decide) ?_
            refine e_istore aL_told_57 (Nat.le_of_ble_eq_true rfl) ?_
            refine e_iload_n aL_told_59 rfl ?_
            refine e_if_eq aL_told_60 (fun c60 => ?_) (fun c60 => absurd c60 (by decide))
            refine e_iload aL_told_68 rfl ?_
            refine e_if_eq aL_told_70 (fun c70 => ?_) (fun c70 => absurd c70 (by decide))
            refine e_iload aL_told_78 rfl ?_
            refine e_if_eq aL_told_80 (fun c80 => ?_) (fun c80 => absurd c80 (by decide))
            refine e_ldc aL_told_92 lL_52 ?_
            refine e_istore aL_told_94 (Nat.le_of_ble_eq_true rfl) ?_
            refine e_ls (ls' := [(0, some (vR (some 32))), (1, some (vR (some 109))), (2, some (vR (some fb))), (6, some (vI (-1000005)))]) ⟨rfl, rfl, rfl, rfl, trivial⟩ ?_
            exact eS h2 x1 x2 sx p1 F2 (cx.lf lf) (ow.lf lf F) (kd.lf lf) hr g0 g1 g2 g3 llz ltz lyz
          · -- 49: not taken
            exact absurd c49 (by decide)
      · -- 24: not taken
        exact absurd ((nI_eq (a := n) (b := 12) (by omega) (by decide)).mp c24) (by omega)
    · -- 9: not taken
      exact absurd ((nI_ltI (a := dP d / 3) (b := f) (by omega) (by omega)).mp (Int32.not_le.mp c9)) hlate
