/-! rows of Object that grow; small ones of the platform (written by wip/p45/g56.py) -/
/-- a list at a: m things g, in the row e -/
def AL (h : HP) (a m e : Nat) (g : Nat → Option Nat) : Prop := hI h a 2 = nI m ∧ m ≤ 10 ∧ ((m = 0 ∧ hR h a 1 = some 14) ∨ (0 < m ∧ hR h a 1 = some e ∧ 116 ≤ e ∧ Is h e 20 ∧ hN h e = 10)) ∧ ∀ i, i < m → hR h e i = g i
/-- what putting in at a may change: the list's own cell, its row, one new row -/
def Af (h h' : HP) (a e : Nat) : Prop := hZ h ≤ hZ h' ∧ ∀ b, b < hZ h → hT h' b = hT h b ∧ hN h' b = hN h b ∧ (∀ i, hL h' b i = hL h b i) ∧ (b ≠ a → ∀ i, hI h' b i = hI h b i) ∧ (b ≠ a → ¬ (b = e ∧ 116 ≤ b ∧ hT h b = 20) → ∀ i, hR h' b i = hR h b i)
def ADp (h h' : HP) (a m e : Nat) (x : Option Nat) (g : Nat → Option Nat) : Prop := Af h h' a (if m = 0 then 0 else e) ∧ ∃ e', (m = 0 → e' = hZ h) ∧ (m ≠ 0 → e' = e) ∧ AL h' a (m + 1) e' (fun i => if i = m then x else g i)
theorem ad_0 {h : HP} {a e : Nat} {x : Option Nat} {g : Nat → Option Nat} (ha : a < hZ h) (z : 116 ≤ hZ h) {v0 : Int32} : ADp h (wI (wR (wR (nw (wI h a 0 v0) 20 10) a 1 (some (hZ h))) (hZ h) 0 x) a 2 (nI (0 + 1))) a 0 e x g := by
  refine ⟨⟨Nat.le_succ _, fun b hb => ⟨if_neg (Nat.ne_of_lt hb), if_neg (Nat.ne_of_lt hb), fun i => if_neg (Nat.ne_of_lt hb), fun n1 i => ?_, fun n1 n2 i => ?_⟩⟩, hZ h, fun _ => rfl, fun q => absurd rfl q, ⟨up2_s, by decide, Or.inr ⟨by decide, ?_, z, ⟨by show 32 ≤ hZ h; omega, Nat.lt_succ_self _, if_pos rfl⟩, if_pos rfl⟩, fun i hi => ?_⟩⟩
  · exact (up2_a n1).trans ((if_neg (Nat.ne_of_lt hb)).trans (up2_a n1))
  · exact (up2_a (Nat.ne_of_lt hb)).trans ((up2_a n1).trans (if_neg (Nat.ne_of_lt hb)))
  · exact (up2_a (Nat.ne_of_lt ha)).trans up2_s
  · obtain rfl : i = 0 := by omega
    exact up2_s.trans (if_pos rfl).symm
theorem ad_1 {h : HP} {a m e : Nat} {x : Option Nat} {g : Nat → Option Nat} (ka : Is h a 11) (L : AL h a m e g) (hm : m < 10) (h0 : m ≠ 0) {v0 : Int32} : ADp h (wI (wR (wI h a 0 v0) e m x) a 2 (nI (m + 1))) a m e x g := by
  obtain ⟨l1, l2, l3, l4⟩ := L
  rcases l3 with ⟨z, -⟩ | ⟨l5, l6, l7, l8, l9⟩
  · exact absurd z h0
  have hae : a ≠ e := fun q => by
    have h1 := ka.2.2
    have h2 := l8.2.2
    rw [q] at h1
    omega
  rw [ADp, if_neg h0]
  refine ⟨⟨Nat.le_refl _, fun b hb => ⟨rfl, rfl, fun i => rfl, fun n1 i => (up2_a n1).trans (up2_a n1), fun n1 n2 i => ?_⟩⟩, e, fun q => absurd q h0, fun _ => rfl, ⟨up2_s, hm, Or.inr ⟨Nat.succ_pos _, (up2_a hae).trans l6, l7, l8, l9⟩, fun i hi => ?_⟩⟩
  · refine up2_a (fun q => n2 ⟨q, ?_, ?_⟩)
    · rw [q]; exact l7
    · rw [q]; exact l8.2.2
  · by_cases q : i = m
    · rw [q]
      exact up2_s.trans (if_pos rfl).symm
    · exact (up2_i q).trans ((l4 i (by omega)).trans (if_neg q).symm)
theorem zJ3_checkIndex_8e157 (X : EX) {h : HP} {i n : Nat} (hi : i < n) (hn : n < 1073741824) : Ct X mJ3_checkIndex_8e157 0 0 0 [vI (nI i), vI (nI n), vR none] h (Rt (vI (nI i)) h) := by
  refine ct_of rfl (Nat.le_of_ble_eq_true rfl) ?_
  refine e_iload_n aJ3_checkIndex_8e157_0 rfl ?_
  refine e_if_lt aJ3_checkIndex_8e157_1 (fun c1 => ?_) (fun c1 => ?_)
  · -- 1: taken
    exact absurd c1 (nI_pos (by omega))
  · -- 1: not taken
    refine e_iload_n aJ3_checkIndex_8e157_4 rfl ?_
    refine e_iload_n aJ3_checkIndex_8e157_5 rfl ?_
    refine e_icmp_lt aJ3_checkIndex_8e157_6 (fun c6 => ?_) (fun c6 => ?_)
    · -- 6: taken
      refine e_iload_n aJ3_checkIndex_8e157_16 rfl ?_
      refine e_ireturn aJ3_checkIndex_8e157_17 rfl (Nat.le_refl _) (Nat.le_refl _) ?_
      exact ⟨rfl, rfl⟩
    · -- 6: not taken
      exact absurd (nI_lt (a := i) (b := n) hi (by omega)) c6
theorem zJ15_checkIndex_7cf53 (X : EX) {h : HP} {i n : Nat} (hi : i < n) (hn : n < 1073741824) : Ct X mJ15_checkIndex_7cf53 1 0 0 [vI (nI i), vI (nI n)] h (Rt (vI (nI i)) h) := by
  refine ct_of rfl (Nat.le_of_ble_eq_true rfl) ?_
  refine e_iload_n aJ15_checkIndex_7cf53_0 rfl ?_
  refine e_iload_n aJ15_checkIndex_7cf53_1 rfl ?_
  refine e_aconst_null aJ15_checkIndex_7cf53_2 ?_
  refine e_invsT aJ15_checkIndex_7cf53_3 kJ15_105 (zJ3_checkIndex_8e157 X hi hn) rfl rfl (Nat.le_of_ble_eq_true rfl) (Nat.le_of_ble_eq_true rfl) (Nat.le_refl _) (Nat.le_refl _) (Nat.le_of_ble_eq_true rfl) ?_
  refine e_ireturn aJ15_checkIndex_7cf53_6 rfl (Nat.le_refl _) (Nat.le_refl _) ?_
  exact ⟨rfl, rfl⟩
theorem zJx4a65c_elementData_915e3 (X : EX) {h : HP} {a m e : Nat} {g : Nat → Option Nat} (ka : Is h a 11) (L : AL h a m e g) {i : Nat} (hi : i < m) : Ct X mJx4a65c_elementData_915e3 0 0 0 [vR (some a), vI (nI i)] h (Rt (vR (g i)) h) := by
  refine ct_of rfl (Nat.le_of_ble_eq_true rfl) ?_
  obtain ⟨l1, l2, l3, l4⟩ := L
  rcases l3 with ⟨z, -⟩ | ⟨l5, l6, l7, l8, l9⟩
  · exact absurd z (by omega)
  refine e_aload_n aJx4a65c_elementData_915e3_0 rfl ?_
  refine e_getRF aJx4a65c_elementData_915e3_1 fJx4a65c_9 rfl ka l6 ?_
  refine e_iload_n aJx4a65c_elementData_915e3_4 rfl ?_
  refine e_aaloadF (t := 20) aJx4a65c_elementData_915e3_5 l8 (by decide) (by decide) l9 (vin (N := 10) (by omega)) (show hR h e (nI i).toNatClampNeg = g i by rw [cl (by omega)]; exact l4 i hi) ?_
  refine e_areturn aJx4a65c_elementData_915e3_6 rfl (Nat.le_refl _) (Nat.le_refl _) ?_
  exact ⟨rfl, rfl⟩
theorem zJx4a65c_get_915e3 (X : EX) {h : HP} {a m e : Nat} {g : Nat → Option Nat} (ka : Is h a 11) (L : AL h a m e g) {i : Nat} (hi : i < m) : Ct X mJx4a65c_get_915e3 2 0 0 [vR (some a), vI (nI i)] h (Rt (vR (g i)) h) := by
  refine ct_of rfl (Nat.le_of_ble_eq_true rfl) ?_
  have hm10 := L.2.1
  refine e_iload_n aJx4a65c_get_915e3_0 rfl ?_
  refine e_aload_n aJx4a65c_get_915e3_1 rfl ?_
  refine e_getIF aJx4a65c_get_915e3_2 fJx4a65c_48 rfl ka L.1 ?_
  refine e_invsT aJx4a65c_get_915e3_5 kJx4a65c_118 (zJ15_checkIndex_7cf53 X hi (by omega)) rfl rfl (Nat.le_of_ble_eq_true rfl) (Nat.le_of_ble_eq_true rfl) (Nat.le_refl _) (Nat.le_refl _) (Nat.le_of_ble_eq_true rfl) ?_
  refine e_pop aJx4a65c_get_915e3_8 rfl ?_
  refine e_aload_n aJx4a65c_get_915e3_9 rfl ?_
  refine e_iload_n aJx4a65c_get_915e3_10 rfl ?_
  refine e_invvT aJx4a65c_get_915e3_11 kJx4a65c_123 (zJx4a65c_elementData_915e3 X ka L hi) rfl rfl ka (Nat.le_of_ble_eq_true rfl) (Nat.le_of_ble_eq_true rfl) (Nat.le_refl _) (Nat.le_refl _) (Nat.le_of_ble_eq_true rfl) ?_
  refine e_areturn aJx4a65c_get_915e3_14 rfl (Nat.le_refl _) (Nat.le_refl _) ?_
  exact ⟨rfl, rfl⟩
theorem zJx4a65c_size_8abf5 (X : EX) {h : HP} {a m e : Nat} {g : Nat → Option Nat} (ka : Is h a 11) (L : AL h a m e g) : Ct X mJx4a65c_size_8abf5 0 0 0 [vR (some a)] h (Rt (vI (nI m)) h) := by
  refine ct_of rfl (Nat.le_of_ble_eq_true rfl) ?_
  refine e_aload_n aJx4a65c_size_8abf5_0 rfl ?_
  refine e_getIF aJx4a65c_size_8abf5_1 fJx4a65c_48 rfl ka L.1 ?_
  refine e_ireturn aJx4a65c_size_8abf5_4 rfl (Nat.le_refl _) (Nat.le_refl _) ?_
  exact ⟨rfl, rfl⟩
theorem zJx4a65c_grow_92f84 (X : EX) {h : HP} {a : Nat} (ka : Is h a 11) (hr : hR h a 1 = some 14) : Ct X mJx4a65c_grow_92f84 1 1 10 [vR (some a), vI 1] h (Rt (vR (some (hZ h))) (wR (nw h 20 10) a 1 (some (hZ h)))) := by
  refine ct_of rfl (Nat.le_of_ble_eq_true rfl) ?_
  refine e_aload_n aJx4a65c_grow_92f84_0 rfl ?_
  refine e_getRF aJx4a65c_grow_92f84_1 fJx4a65c_9 rfl ka hr ?_
  refine e_alenD aJx4a65c_grow_92f84_4 ?_
  refine e_istore_n aJx4a65c_grow_92f84_5 (Nat.le_of_ble_eq_true rfl) ?_
  refine e_iload_n aJx4a65c_grow_92f84_6 rfl ?_
  refine e_if_gt aJx4a65c_grow_92f84_7 (fun c7 => ?_) (fun c7 => ?_)
  · -- 7: taken
    exact absurd c7 (by decide)
  · -- 7: not taken
    refine e_aload_n aJx4a65c_grow_92f84_10 rfl ?_
    refine e_getRF aJx4a65c_grow_92f84_11 fJx4a65c_9 rfl ka hr ?_
    refine e_getsD aJx4a65c_grow_92f84_14 gJx4a65c_39 ?_
    refine e_acmpeqT aJx4a65c_grow_92f84_17 ?_
    refine e_aload_n aJx4a65c_grow_92f84_45 rfl ?_
    refine e_bipush (v := 10) aJx4a65c_grow_92f84_46 (by decide) ?_
    refine e_iload_n aJx4a65c_grow_92f84_48 rfl ?_
    refine e_max aJx4a65c_grow_92f84_49 kJx4a65c_79 (Nat.le_of_ble_eq_true rfl) (Nat.le_of_ble_eq_true rfl) (Nat.le_of_ble_eq_true rfl) (Nat.le_of_ble_eq_true rfl) ?_
    refine e_top (v := 10) (by decide) ?_
    refine e_newR (t := 20) aJx4a65c_grow_92f84_52 (Nat.le_of_ble_eq_true rfl) (Nat.le_of_ble_eq_true rfl) cJx4a65c_7 (by decide) rfl (Nat.le_of_ble_eq_true rfl) (Nat.le_of_ble_eq_true rfl) (Nat.le_of_ble_eq_true rfl) ?_
    refine e_dup_x1 aJx4a65c_grow_92f84_55 rfl rfl ?_
    refine e_putR aJx4a65c_grow_92f84_56 fJx4a65c_9 rfl (is_nw ka) (Or.inl rfl) ?_
    refine e_areturnA aJx4a65c_grow_92f84_59 rfl (Nat.le_refl _) (Nat.le_refl _) ?_
    exact ⟨rfl, rfl⟩
theorem zJx4a65c_grow_d5877 (X : EX) {h : HP} {a : Nat} (ka : Is h a 11) (hr : hR h a 1 = some 14) (hs : hI h a 2 = 0) : Ct X mJx4a65c_grow_d5877 2 1 10 [vR (some a)] h (Rt (vR (some (hZ h))) (wR (nw h 20 10) a 1 (some (hZ h)))) := by
  refine ct_of rfl (Nat.le_of_ble_eq_true rfl) ?_
  refine e_aload_n aJx4a65c_grow_d5877_0 rfl ?_
  refine e_aload_n aJx4a65c_grow_d5877_1 rfl ?_
  refine e_getIF aJx4a65c_grow_d5877_2 fJx4a65c_48 rfl ka hs ?_
  refine e_iconst (v := 1) aJx4a65c_grow_d5877_5 (by decide) ?_
  refine e_iadd aJx4a65c_grow_d5877_6 ?_
  refine e_top (v := 1) (by decide) ?_
  refine e_invv aJx4a65c_grow_d5877_7 kJx4a65c_69 (zJx4a65c_grow_92f84 X ka hr) rfl rfl ka (Nat.le_of_ble_eq_true rfl) (Nat.le_of_ble_eq_true rfl) (Nat.le_of_ble_eq_true rfl) (Nat.le_of_ble_eq_true rfl) (Nat.le_of_ble_eq_true rfl) ?_
  rintro v h2 ⟨rfl, rfl⟩
  refine e_areturnA aJx4a65c_grow_d5877_10 rfl (Nat.le_of_ble_eq_true rfl) (Nat.le_of_ble_eq_true rfl) ?_
  exact ⟨rfl, rfl⟩
theorem zaddI0 (X : EX) {h : HP} {a : Nat} (ka : Is h a 11) (hr : hR h a 1 = some 14) (hs : hI h a 2 = 0) (z : 116 ≤ hZ h) {x : Option Nat} (hx : ∀ b, x = some b → Is h b 13) : Ct X mJx4a65c_add_72be8 3 1 10 [vR (some a), vR x, vR (some 14), vI (nI 0)] h (Rv (wI (wR (wR (nw h 20 10) a 1 (some (hZ h))) (hZ h) 0 x) a 2 (nI (0 + 1)))) := by
  refine ct_of rfl (Nat.le_of_ble_eq_true rfl) ?_
  refine e_iload_n aJx4a65c_add_72be8_0 rfl ?_
  refine e_aload_n aJx4a65c_add_72be8_1 rfl ?_
  refine e_alenD aJx4a65c_add_72be8_2 ?_
  refine e_icmp_ne aJx4a65c_add_72be8_3 (fun c3 => ?_) (fun c3 => ?_)
  · -- 3: taken
    exact absurd (show (0 : Int32) = 0 from rfl) c3
  · -- 3: not taken
    refine e_aload_n aJx4a65c_add_72be8_6 rfl ?_
    refine e_invv aJx4a65c_add_72be8_7 kJx4a65c_129 (zJx4a65c_grow_d5877 X ka hr hs) rfl rfl ka (Nat.le_of_ble_eq_true rfl) (Nat.le_of_ble_eq_true rfl) (Nat.le_of_ble_eq_true rfl) (Nat.le_of_ble_eq_true rfl) (Nat.le_of_ble_eq_true rfl) ?_
    rintro v h2 ⟨rfl, rfl⟩
    refine e_astore_n aJx4a65c_add_72be8_10 (Nat.le_of_ble_eq_true rfl) ?_
    refine e_aload_n aJx4a65c_add_72be8_11 rfl ?_
    refine e_iload_n aJx4a65c_add_72be8_12 rfl ?_
    refine e_aload_n aJx4a65c_add_72be8_13 rfl ?_
    refine e_aastoreX aJx4a65c_add_72be8_14 (is_ns (t := 20) (n := 10) (by omega)) (fun b q => is_nw (hx b q)) (if_pos rfl) (vin (n := 0) (N := 10) (by decide)) ?_
    refine e_aload_n aJx4a65c_add_72be8_15 rfl ?_
    refine e_iload_n aJx4a65c_add_72be8_16 rfl ?_
    refine e_iconst (v := 1) aJx4a65c_add_72be8_17 (by decide) ?_
    refine e_iadd aJx4a65c_add_72be8_18 ?_
    refine e_top (nI_1 0) ?_
    refine e_putI aJx4a65c_add_72be8_19 fJx4a65c_48 rfl (is_nw ka) (Or.inl rfl) ?_
    refine e_return aJx4a65c_add_72be8_22 rfl (Nat.le_of_ble_eq_true rfl) (Nat.le_of_ble_eq_true rfl) ?_
    exact ⟨rfl, rfl⟩
theorem zaddI1 (X : EX) {h : HP} {a m e : Nat} (ka : Is h a 11) (l8 : Is h e 20) (l9 : hN h e = 10) (hm : m < 10) {x : Option Nat} (hx : ∀ b, x = some b → Is h b 13) : Ct X mJx4a65c_add_72be8 3 0 0 [vR (some a), vR x, vR (some e), vI (nI m)] h (Rv (wI (wR h e m x) a 2 (nI (m + 1)))) := by
  refine ct_of rfl (Nat.le_of_ble_eq_true rfl) ?_
  refine e_iload_n aJx4a65c_add_72be8_0 rfl ?_
  refine e_aload_n aJx4a65c_add_72be8_1 rfl ?_
  refine e_alen aJx4a65c_add_72be8_2 l8 (Nat.le_of_ble_eq_true rfl) (Nat.le_of_ble_eq_true rfl) (by decide) ?_
  refine e_top (v := nI 10) (congrArg Int32.ofNat l9) ?_
  refine e_icmp_ne aJx4a65c_add_72be8_3 (fun c3 => ?_) (fun c3 => ?_)
  · -- 3: taken
    refine e_aload_n aJx4a65c_add_72be8_11 rfl ?_
    refine e_iload_n aJx4a65c_add_72be8_12 rfl ?_
    refine e_aload_n aJx4a65c_add_72be8_13 rfl ?_
    refine e_aastoreX aJx4a65c_add_72be8_14 l8 hx l9 (vin (n := m) (N := 10) hm) ?_
    rw [cl (n := m) (by omega)]
    refine e_aload_n aJx4a65c_add_72be8_15 rfl ?_
    refine e_iload_n aJx4a65c_add_72be8_16 rfl ?_
    refine e_iconst (v := 1) aJx4a65c_add_72be8_17 (by decide) ?_
    refine e_iadd aJx4a65c_add_72be8_18 ?_
    refine e_top (nI_1 m) ?_
    refine e_putI aJx4a65c_add_72be8_19 fJx4a65c_48 rfl ka (Or.inl rfl) ?_
    refine e_return aJx4a65c_add_72be8_22 rfl (Nat.le_refl _) (Nat.le_refl _) ?_
    exact ⟨rfl, rfl⟩
  · -- 3: not taken
    exact absurd ((nI_eq (a := m) (b := 10) (by omega) (by decide)).mp c3) (by omega)
theorem zJx4a65c_add_9ea2d (X : EX) {h : HP} {a m e : Nat} {g : Nat → Option Nat} (ka : Is h a 11) (L : AL h a m e g) (hm : m < 10) (hz : 116 ≤ hZ h) {x : Option Nat} (hx : ∀ b, x = some b → Is h b 13) : Ct X mJx4a65c_add_9ea2d 4 1 10 [vR (some a), vR x] h (fun v h' => v = some (vI 1) ∧ ADp h h' a m e x g) := by
  refine ct_of rfl (Nat.le_of_ble_eq_true rfl) ?_
  obtain ⟨l1, l2, l3, l4⟩ := id L
  rcases l3 with ⟨z, l6⟩ | ⟨l5, l6, l7, l8, l9⟩
  · obtain rfl := z
    refine e_aload_n aJx4a65c_add_9ea2d_0 rfl ?_
    refine e_dup aJx4a65c_add_9ea2d_1 rfl ?_
    refine e_getIF aJx4a65c_add_9ea2d_2 fJx4a65c_63 rfl ka rfl ?_
    refine e_iconst (v := 1) aJx4a65c_add_9ea2d_5 (by decide) ?_
    refine e_iadd aJx4a65c_add_9ea2d_6 ?_
    refine e_putI aJx4a65c_add_9ea2d_7 fJx4a65c_63 rfl ka (Or.inl rfl) ?_
    refine e_aload_n aJx4a65c_add_9ea2d_10 rfl ?_
    refine e_aload_n aJx4a65c_add_9ea2d_11 rfl ?_
    refine e_aload_n aJx4a65c_add_9ea2d_12 rfl ?_
    refine e_getRF aJx4a65c_add_9ea2d_13 fJx4a65c_9 rfl ka l6 ?_
    refine e_aload_n aJx4a65c_add_9ea2d_16 rfl ?_
    refine e_getIF aJx4a65c_add_9ea2d_17 fJx4a65c_48 rfl ka ((up2_i (by decide)).trans l1) ?_
    refine e_invv aJx4a65c_add_9ea2d_20 kJx4a65c_131 (zaddI0 X (h := wI h a 0 (hI h a 0 + 1)) ka l6 ((up2_i (by decide)).trans l1) hz hx) rfl rfl ka (Nat.le_of_ble_eq_true rfl) (Nat.le_of_ble_eq_true rfl) (Nat.le_of_ble_eq_true rfl) (Nat.le_of_ble_eq_true rfl) (Nat.le_of_ble_eq_true rfl) ?_
    rintro v h2 ⟨rfl, rfl⟩
    refine e_iconst (v := 1) aJx4a65c_add_9ea2d_23 (by decide) ?_
    refine e_zreturn aJx4a65c_add_9ea2d_24 rfl (Or.inr rfl) (Nat.le_of_ble_eq_true rfl) (Nat.le_of_ble_eq_true rfl) ?_
    exact ⟨rfl, ad_0 ka.2.1 hz⟩
  · skip
    refine e_aload_n aJx4a65c_add_9ea2d_0 rfl ?_
    refine e_dup aJx4a65c_add_9ea2d_1 rfl ?_
    refine e_getIF aJx4a65c_add_9ea2d_2 fJx4a65c_63 rfl ka rfl ?_
    refine e_iconst (v := 1) aJx4a65c_add_9ea2d_5 (by decide) ?_
    refine e_iadd aJx4a65c_add_9ea2d_6 ?_
    refine e_putI aJx4a65c_add_9ea2d_7 fJx4a65c_63 rfl ka (Or.inl rfl) ?_
    refine e_aload_n aJx4a65c_add_9ea2d_10 rfl ?_
    refine e_aload_n aJx4a65c_add_9ea2d_11 rfl ?_
    refine e_aload_n aJx4a65c_add_9ea2d_12 rfl ?_
    refine e_getRF aJx4a65c_add_9ea2d_13 fJx4a65c_9 rfl ka l6 ?_
    refine e_aload_n aJx4a65c_add_9ea2d_16 rfl ?_
    refine e_getIF aJx4a65c_add_9ea2d_17 fJx4a65c_48 rfl ka ((up2_i (by decide)).trans l1) ?_
    refine e_invv aJx4a65c_add_9ea2d_20 kJx4a65c_131 (zaddI1 X (h := wI h a 0 (hI h a 0 + 1)) ka l8 l9 hm hx) rfl rfl ka (Nat.le_of_ble_eq_true rfl) (Nat.le_of_ble_eq_true rfl) (Nat.le_of_ble_eq_true rfl) (Nat.le_of_ble_eq_true rfl) (Nat.le_of_ble_eq_true rfl) ?_
    rintro v h2 ⟨rfl, rfl⟩
    refine e_iconst (v := 1) aJx4a65c_add_9ea2d_23 (by decide) ?_
    refine e_zreturn aJx4a65c_add_9ea2d_24 rfl (Or.inr rfl) (Nat.le_of_ble_eq_true rfl) (Nat.le_of_ble_eq_true rfl) ?_
    exact ⟨rfl, ad_1 ka L hm (by omega)⟩
/-- the script, and what comes behind it -/
def atV (X : EX) (k : Nat) : Int32 := if k < xN X then xs X k else 104729 * nI k + 77
theorem zL_at (X : EX) {h : HP} {k : Nat} (hx31 : xN X < 2 ^ 31) (hk : k < 1073741824) : Ct X mL_at 0 0 0 [vR (some 6), vI (nI k)] h (Rt (vI (atV X k)) h) := by
  refine ct_of rfl (Nat.le_of_ble_eq_true rfl) ?_
  refine e_iload_n aL_at_0 rfl ?_
  refine e_aload_n aL_at_1 rfl ?_
  refine e_alenX aL_at_2 ?_
  refine e_icmp_ge aL_at_3 (fun c3 => ?_) (fun c3 => ?_)
  · -- 3: taken
    have q3 : ¬ k < xN X := fun z => absurd c3 (nI_ge z hx31)
    refine e_ldc aL_at_12 lL_7 ?_
    refine e_iload_n aL_at_14 rfl ?_
    refine e_imul aL_at_15 ?_
    refine e_bipush (v := 77) aL_at_16 (by decide) ?_
    refine e_iadd aL_at_18 ?_
    refine e_ireturn aL_at_19 rfl (Nat.le_refl _) (Nat.le_refl _) ?_
    exact ⟨by unfold atV; rw [if_neg q3], rfl⟩
  · -- 3: not taken
    have q3 : k < xN X := by
      rcases Nat.lt_or_ge k (xN X) with z | z
      · exact z
      · exact absurd (nI_le (a := xN X) (b := k) z (by omega)) c3
    refine e_aload_n aL_at_6 rfl ?_
    refine e_iload_n aL_at_7 rfl ?_
    refine e_ialoadX aL_at_8 (vp_in_nI q3 hx31) ?_
    rw [nI_clamp (n := k) (by omega)]
    refine e_goto aL_at_9 ?_
    refine e_ireturn aL_at_19 rfl (Nat.le_refl _) (Nat.le_refl _) ?_
    exact ⟨by unfold atV; rw [if_pos q3], rfl⟩
