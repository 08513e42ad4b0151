/-! contracts: image, back, feed (written by wip/p45/g32.py) -/
theorem bmH_F {h : HP} (F : Fx h) {a b n : Nat} {A : Nat → Nat} (ha : a ∈ bkL) : Fx (bmH h a b n A) := rcp_F (h := wI h a 1 (nI n)) F (bk11 a ha) n
theorem bmH_I {h : HP} {a b n x : Nat} {A : Nat → Nat} (h1 : x ≠ a) (h2 : x ≠ a + 2) (h3 : x ≠ a + 3) : hI (bmH h a b n A) x = hI h x := by
  have e1 : hI (bm1 h a b n A) x = hI h x := (cpI_o h2).trans ((congrFun (rcp_I (h := wI h a 1 (nI n)) (a := a + 1) (A := A) n).1 x).trans (funext fun j => wI_a h1))
  have e2 : hI (bm2 h a b n A) x = hI h x := (funext fun j => wI_a h1).trans e1
  have e3 : hI (bm3 h a b n A) x = hI h x := (cpI_o h3).trans e2
  exact (funext fun j => wI_a h1).trans e3
theorem bm1_a {h : HP} {a b n : Nat} {A : Nat → Nat} : hI (bm1 h a b n A) a 1 = nI n := (congrFun (cpI_o (by omega)) 1).trans ((congrFun (congrFun (rcp_I (h := wI h a 1 (nI n)) (a := a + 1) (A := A) n).1 a) 1).trans wI_s)
theorem bmH_1 {h : HP} {a b n : Nat} {A : Nat → Nat} : hI (bmH h a b n A) a 1 = nI n := by
  refine (wI_i (by decide)).trans ?_
  refine (congrFun (cpI_o (by omega)) 1).trans ?_
  refine (wI_i (by decide)).trans ?_
  exact bm1_a
theorem bm1_o {h : HP} {a b n x : Nat} {A : Nat → Nat} (h1 : x ≠ a) (h2 : x ≠ a + 2) : hI (bm1 h a b n A) x = hI h x := (cpI_o h2).trans ((congrFun (rcp_I (h := wI h a 1 (nI n)) (a := a + 1) (A := A) n).1 x).trans (funext fun j => wI_a h1))
theorem bmH_3 {h : HP} {a b n : Nat} {A : Nat → Nat} (h1 : b ≠ a) (h2 : b ≠ a + 2) : hI (bmH h a b n A) a 3 = hI h b 3 := by
  refine (wI_i (by decide)).trans ?_
  refine (congrFun (cpI_o (by omega)) 3).trans ?_
  refine wI_s.trans ?_
  exact congrFun (bm1_o h1 h2) 3
theorem bmH_5 {h : HP} {a b n : Nat} {A : Nat → Nat} (h1 : b ≠ a) (h2 : b ≠ a + 2) (h3 : b ≠ a + 3) : hI (bmH h a b n A) a 5 = hI h b 5 := by
  refine wI_s.trans ?_
  refine (congrFun (cpI_o h3) 5).trans ?_
  refine (wI_a h1).trans ?_
  exact congrFun (bm1_o h1 h2) 5
theorem bmH_o {h : HP} {a b n : Nat} {A : Nat → Nat} (h1 : b + 2 ≠ a) {j : Nat} (hj : j < 4) : hI (bmH h a b n A) (a + 2) j = hI h (b + 2) j := by
  refine (wI_a (by omega)).trans ?_
  refine (congrFun (cpI_o (by omega)) j).trans ?_
  refine (wI_a (by omega)).trans ?_
  refine (cpI_s hj).trans ?_
  exact (congrFun (congrFun (rcp_I (h := wI h a 1 (nI n)) (a := a + 1) (A := A) n).1 (b + 2)) j).trans (wI_a h1)
theorem bmH_w {h : HP} {a b n : Nat} {A : Nat → Nat} (h1 : b + 3 ≠ a) (h2 : b + 3 ≠ a + 2) {j : Nat} (hj : j < 3) : hI (bmH h a b n A) (a + 3) j = hI h (b + 3) j := by
  refine (wI_a (by omega)).trans ?_
  refine (cpI_s hj).trans ?_
  refine (wI_a h1).trans ?_
  exact congrFun (bm1_o h1 h2) j
theorem bmH_R {h : HP} {a b n x : Nat} {A : Nat → Nat} (h1 : x ≠ a + 1) : hR (bmH h a b n A) x = hR h x := rcp_o h1 n
theorem bmH_d {h : HP} {a b n j : Nat} {A : Nat → Nat} (hj : j < n) : hR (bmH h a b n A) (a + 1) j = some (A j) := rcp_s n j hj
theorem bmH_r {h : HP} {a b n : Nat} {A : Nat → Nat} : hL (bmH h a b n A) = hL h ∧ hT (bmH h a b n A) = hT h ∧ hN (bmH h a b n A) = hN h ∧ hZ (bmH h a b n A) = hZ h := (rcp_I (h := wI h a 1 (nI n)) (a := a + 1) (A := A) n).2
theorem bmH_U {h : HP} {a b n : Nat} {A : Nat → Nat} (ha : a + 3 < 116) : Up h (bmH h a b n A) := by
  have r := bmH_r (h := h) (a := a) (b := b) (n := n) (A := A)
  refine ⟨by rw [r.2.2.2]; exact Nat.le_refl _, fun x hx _ => ⟨fun i => ⟨congrFun (bmH_I (by omega) (by omega) (by omega)) i, by rw [r.1], congrFun (bmH_R (by omega)) i⟩, by rw [r.2.1], by rw [r.2.2.1]⟩⟩
theorem bmH_B {h : HP} {a b n : Nat} {A : Nat → Nat} {D : Nat → DD} (ha : a + 3 < 116) (hB : BkDg h b n A D) : BkDg (bmH h a b n A) a n A D := ⟨bmH_1, hB.2.1, fun k hk => ⟨bmH_d hk, (hB.2.2 k hk).2.up (bmH_U ha)⟩⟩
theorem bmH_C {h : HP} {a b n f : Nat} {A o : Nat → Nat} (h1 : b ≠ a) (h2 : b ≠ a + 2) (h3 : b + 2 ≠ a) (hB : BkFg h b f o) : BkFg (bmH h a b n A) a f o := ⟨(bmH_3 h1 h2).trans hB.1, hB.2.1, fun y hy => (bmH_o h3 (by have := hB.2.1; omega)).trans (hB.2.2.1 y hy), hB.2.2.2⟩
theorem zX8_image (X : EX) {h : HP} (F : Fx h) {g n : Nat} {A : Nat → Nat} {D : Nat → DD} (hg : hI h 32 2 = nI g) (hg6 : g ≤ 6) (b : BkDg h 33 n A D) : Ct X mX8_image 2 0 0 [vR (some 32)] h (if 6 ≤ g then RF h 1 else Rt (vI (nI (g + 1))) (wI (bmH h (77 + 4 * g) 33 n A) 32 2 (nI (g + 1)))) := by
  refine ct_of rfl (Nat.le_of_ble_eq_true rfl) ?_
  refine e_aload_n aX8_image_0 rfl ?_
  refine e_getIF aX8_image_1 fX8_254 rfl (fx_is F rfl) hg ?_
  refine e_bipush (v := 6) aX8_image_4 (by decide) ?_
  refine e_icmp_lt aX8_image_6 (fun c6 => ?_) (fun c6 => ?_)
  · -- 6: taken
    have q6 : ¬ 6 ≤ g := Nat.not_le.mpr ((nI_ltI (a := g) (b := 6) (by omega) (by decide)).mp c6)
    refine e_aload_n aX8_image_15 rfl ?_
    refine e_getRF aX8_image_16 fX8_16 rfl (fx_is F rfl) (fx_r (b := 37) F rfl) ?_
    refine e_aload_n aX8_image_19 rfl ?_
    refine e_getIF aX8_image_20 fX8_254 rfl (fx_is F rfl) hg ?_
    refine e_aaloadF (t := 16) aX8_image_23 (fx_is F rfl) (by decide) (by decide) (fx_n (n := 6) F rfl) (vin (N := 6) (by omega)) (show hR h 37 (nI g).toNatClampNeg = some (77 + 4 * g) by rw [cl (by omega)]; exact fx_r F (bk14 g (by omega))) ?_
    refine e_aload_n aX8_image_24 rfl ?_
    refine e_getRF aX8_image_25 fX8_10 rfl (fx_is F rfl) (fx_r (b := 33) F rfl) ?_
    refine e_invvV aX8_image_28 kX8_257 (zX0_become X F (bk13 g (by omega)) (by decide) (by omega) b) rfl rfl (fx_is F (bk1 _ (bk13 g (by omega)))) (Nat.le_of_ble_eq_true rfl) (Nat.le_of_ble_eq_true rfl) (Nat.le_refl _) (Nat.le_refl _) (Nat.le_of_ble_eq_true rfl) ?_
    have F : Fx (bmH h (77 + 4 * g) 33 n A) := bmH_F F (bk13 g (by omega))
    refine e_aload_n aX8_image_31 rfl ?_
    refine e_dup aX8_image_32 rfl ?_
    refine e_getIF aX8_image_33 fX8_254 rfl (fx_is F rfl) ((congrFun (bmH_I (by omega) (by omega) (by omega)) 2).trans hg) ?_
    refine e_iconst (v := 1) aX8_image_36 (by decide) ?_
    refine e_iadd aX8_image_37 ?_
    refine e_top (nI_1 g) ?_
    refine e_putI aX8_image_38 fX8_254 rfl (fx_is F rfl) (Or.inl rfl) ?_
    refine e_aload_n aX8_image_41 rfl ?_
    refine e_getIF aX8_image_42 fX8_254 rfl (fx_is F rfl) wI_s ?_
    refine e_ireturn aX8_image_45 rfl (Nat.le_refl _) (Nat.le_refl _) ?_
    rw [if_neg q6]
    exact ⟨rfl, rfl⟩
  · -- 6: not taken
    have q6 : 6 ≤ g := Nat.not_lt.mp ((not_congr (nI_ltI (a := g) (b := 6) (by omega) (by decide))).mp c6)
    refine e_aload_n aX8_image_9 rfl ?_
    refine e_iconst (v := 1) aX8_image_10 (by decide) ?_
    refine e_invvT aX8_image_11 kX8_62 (zfin X (k := 1) F (by decide)) rfl rfl (fx_is F rfl) (Nat.le_of_ble_eq_true rfl) (Nat.le_of_ble_eq_true rfl) (Nat.le_refl _) (Nat.le_refl _) (Nat.le_of_ble_eq_true rfl) ?_
    refine e_ireturn aX8_image_14 rfl (Nat.le_refl _) (Nat.le_refl _) ?_
    rw [if_pos q6]
    exact ⟨rfl, rfl⟩
theorem zX8_back (X : EX) {h : HP} (F : Fx h) {g n f : Nat} {A o : Nat → Nat} {D : Nat → DD} (hg : hI h 32 2 = nI g) (hg6 : g ≤ 6) (b : BkDg h (77 + 4 * (g - 1)) n A D) (bf : BkFg h (77 + 4 * (g - 1)) f o) : Ct X mX8_back 4 0 0 [vR (some 32)] h (if g = 0 then RF h 3 else fun v h' => v = some (vI (nI n)) ∧ setH (bmH (wI h 32 2 (nI (g - 1))) 33 (77 + 4 * (g - 1)) n A) f n o D h') := by
  refine ct_of rfl (Nat.le_of_ble_eq_true rfl) ?_
  refine e_aload_n aX8_back_0 rfl ?_
  refine e_getIF aX8_back_1 fX8_254 rfl (fx_is F rfl) hg ?_
  refine e_if_gt aX8_back_4 (fun c4 => ?_) (fun c4 => ?_)
  · -- 4: taken
    have q4 : ¬ g = 0 := fun z => by subst z; exact absurd c4 (by decide)
    refine e_aload_n aX8_back_13 rfl ?_
    refine e_dup aX8_back_14 rfl ?_
    refine e_getIF aX8_back_15 fX8_254 rfl (fx_is F rfl) hg ?_
    refine e_iconst (v := 1) aX8_back_18 (by decide) ?_
    refine e_isub aX8_back_19 ?_
    refine e_top (nI_pred9 (by omega)) ?_
    refine e_putI aX8_back_20 fX8_254 rfl (fx_is F rfl) (Or.inl rfl) ?_
    refine e_aload_n aX8_back_23 rfl ?_
    refine e_getRF aX8_back_24 fX8_10 rfl (fx_is F rfl) (fx_r (b := 33) F rfl) ?_
    refine e_aload_n aX8_back_27 rfl ?_
    refine e_getRF aX8_back_28 fX8_16 rfl (fx_is F rfl) (fx_r (b := 37) F rfl) ?_
    refine e_aload_n aX8_back_31 rfl ?_
    refine e_getIF aX8_back_32 fX8_254 rfl (fx_is F rfl) wI_s ?_
    refine e_aaloadF (t := 16) aX8_back_35 (fx_is F rfl) (by decide) (by decide) (fx_n (n := 6) F rfl) (vin (N := 6) (by omega)) (show hR (wI h 32 2 (nI (g - 1))) 37 (nI (g - 1)).toNatClampNeg = some (77 + 4 * (g - 1)) by rw [cl (by omega)]; exact fx_r F (bk14 (g - 1) (by omega))) ?_
    have hb : BkDg (wI h 32 2 (nI (g - 1))) (77 + 4 * (g - 1)) n A D := ⟨(wI_a (by omega)).trans b.1, b.2.1, fun k q => ⟨(b.2.2 k q).1, (b.2.2 k q).2.up (Up.wI (by decide))⟩⟩
    have hc : BkFg (wI h 32 2 (nI (g - 1))) (77 + 4 * (g - 1)) f o := ⟨(wI_a (by omega)).trans bf.1, bf.2.1, fun y q => (wI_a (by omega)).trans (bf.2.2.1 y q), bf.2.2.2⟩
    refine e_invvV aX8_back_36 kX8_257 (zX0_become X (h := (wI h 32 2 (nI (g - 1)))) F (by decide) (bk13 (g - 1) (by omega)) (by omega) hb) rfl rfl (fx_is F rfl) (Nat.le_of_ble_eq_true rfl) (Nat.le_of_ble_eq_true rfl) (Nat.le_refl _) (Nat.le_refl _) (Nat.le_of_ble_eq_true rfl) ?_
    have F : Fx (bmH (wI h 32 2 (nI (g - 1))) 33 (77 + 4 * (g - 1)) n A) := bmH_F (h := (wI h 32 2 (nI (g - 1)))) F (by decide)
    refine e_aload_n aX8_back_39 rfl ?_
    have hbD : BkDg (bmH (wI h 32 2 (nI (g - 1))) 33 (77 + 4 * (g - 1)) n A) 33 n A D := bmH_B (by decide) hb
    have hbF : BkFg (bmH (wI h 32 2 (nI (g - 1))) 33 (77 + 4 * (g - 1)) n A) 33 f o := bmH_C (by omega) (by omega) (by omega) hc
    refine e_invv aX8_back_40 kX8_125 (zX8_settleAll X F hbF hbD) rfl rfl (fx_is F rfl) (Nat.le_of_ble_eq_true rfl) (Nat.le_of_ble_eq_true rfl) (Nat.le_refl _) (Nat.le_refl _) (Nat.le_of_ble_eq_true rfl) ?_
    rintro v h2 ⟨rfl, r, rfl, hr⟩
    have F := F
    refine e_aload_n aX8_back_43 rfl ?_
    refine e_getRF aX8_back_44 fX8_10 rfl (fx_is F rfl) (fx_r (b := 33) F rfl) ?_
    refine e_getIF aX8_back_47 fX8_101 rfl (fx_is F rfl) ((rwR_I (by decide)).trans bmH_1) ?_
    refine e_ireturn aX8_back_50 rfl (Nat.le_refl _) (Nat.le_refl _) ?_
    rw [if_neg q4]
    exact ⟨rfl, r, rfl, hr⟩
  · -- 4: not taken
    have q4 : g = 0 := by
      rcases Nat.eq_zero_or_pos g with z | z
      · exact z
      · exact absurd (nI_lt (a := 0) z (by omega)) c4
    refine e_aload_n aX8_back_7 rfl ?_
    refine e_iconst (v := 3) aX8_back_8 (by decide) ?_
    refine e_invvT aX8_back_9 kX8_62 (zfin X (k := 3) F (by decide)) rfl rfl (fx_is F rfl) (Nat.le_of_ble_eq_true rfl) (Nat.le_of_ble_eq_true rfl) (Nat.le_refl _) (Nat.le_refl _) (Nat.le_of_ble_eq_true rfl) ?_
    refine e_ireturn aX8_back_12 rfl (Nat.le_refl _) (Nat.le_refl _) ?_
    rw [if_pos q4]
    exact ⟨rfl, rfl⟩
/-- the bytes of a number, from the last -/
def byI (x : Int32) (i : Nat) : Int32 := (x.toUInt32 >>> ((8 * nI i).toUInt32 &&& Int32.toUInt32 31)).toInt32.toInt8.toInt32
def fdH (h : HP) (l : Nat) (x : Int32) (n : Nat) : Nat → HP
  | 0 => h
  | k + 1 => wI (wI (fdH h l x n k) 42 (l + k) (vp_nar .byte (byI x (n - 1 - k)))) 41 1 (nI (l + k + 1))
theorem fdH_F {h : HP} (F : Fx h) {l : Nat} {x : Int32} {n : Nat} : ∀ k, Fx (fdH h l x n k) := by
  intro k
  induction k with
  | zero => exact F
  | succ k ih => exact ih
theorem fdH_1 {h : HP} {l : Nat} {x : Int32} {n : Nat} (hl : hI h 41 1 = nI l) : ∀ k, hI (fdH h l x n k) 41 1 = nI (l + k) := by
  intro k
  cases k with
  | zero => exact hl
  | succ k => exact wI_s
theorem nI_m1 (m : Nat) : nI m + Int32.ofInt (-1) = nI m - 1 := by rw [Int32.sub_eq_add_neg]; rfl
