/-! contracts: rounds (written by wip/p45/g34.py) -/
def rd0 : RS := (fun p => p % 3, 0, 0)
def rdB (h : HP) (r s : Nat) : HP := wI (wR (nw h 13 12) r 1 (some (r + 1))) r 0 (nI s)
def rdH (h : HP) (r s : Nat) : Nat → HP
  | 0 => rdB h r s
  | k + 1 => wI (rdH h r s k) (r + 1) k (nI (k % 3))
theorem rdH_T {h : HP} {r s : Nat} : ∀ k, (rdH h r s k).2 = (rdB h r s).2 := by
  intro k
  induction k with
  | zero => rfl
  | succ k ih => exact ih
theorem rdH_a {h : HP} {r s x i : Nat} (q : x ≠ r + 1) : ∀ k, hI (rdH h r s k) x i = hI (rdB h r s) x i := by
  intro k
  induction k with
  | zero => rfl
  | succ k ih => exact (up2_a q).trans ih
theorem rdH_s {h : HP} {r s : Nat} : ∀ k j, j < k → hI (rdH h r s k) (r + 1) j = nI (j % 3) := by
  intro k
  induction k with
  | zero => intro j hj; omega
  | succ k ih =>
    intro j hj
    by_cases q : j = k
    · subst q
      exact up2_s
    · exact (up2_i q).trans (ih j (by omega))
theorem zX4_init (X : EX) {h : HP} {r s : Nat} (hr : 116 ≤ r) (kr : Is h r 5) (hz : hZ h = r + 1) : Ct X mX4_init 1 1 12 [vR (some r), vI (nI s)] h (Rv (rdH h r s 12)) := by
  refine ct_of rfl (Nat.le_of_ble_eq_true rfl) ?_
  have kB : Is (rdB h r s) r 5 := is_nw kr
  have kC : Is (rdB h r s) (r + 1) 13 := by
    have e := is_ns (h := h) (t := 13) (n := 12) (by omega)
    rw [hz] at e
    exact e
  have loop : ∀ (m : Nat) (k : Nat), k + m = 12 → Ev X mX4_init 1 1 12 (Rv (rdH h r s 12)) 1 12 19 [(0, some (vR (some r))), (2, some (vI (nI k)))] [] (rdH h r s k) := by
    intro m
    induction m with
    | zero =>
      intro k hk
      obtain rfl : k = 12 := by omega
      refine e_iload_n aX4_init_19 rfl ?_
      refine e_bipush (v := 12) aX4_init_20 (by decide) ?_
      refine e_icmp_ge aX4_init_22 (fun c22 => ?_) (fun c22 => ?_)
      · -- 22: taken
        refine e_return aX4_init_40 rfl (Nat.le_refl _) (Nat.le_refl _) ?_
        exact ⟨rfl, rfl⟩
      · -- 22: not taken
        exact absurd (nI_le (a := 12) (b := 12) (by decide) (by decide)) c22
    | succ m ih =>
      intro k hk
      refine e_iload_n aX4_init_19 rfl ?_
      refine e_bipush (v := 12) aX4_init_20 (by decide) ?_
      refine e_icmp_ge aX4_init_22 (fun c22 => ?_) (fun c22 => ?_)
      · -- 22: taken
        exact absurd c22 (nI_ge (a := k) (b := 12) (by omega) (by decide))
      · -- 22: not taken
        refine e_aload_n aX4_init_25 rfl ?_
        refine e_getRF aX4_init_26 fX4_9 rfl (show Is (rdH h r s k) r 5 from ⟨kB.1, by rw [hZ, rdH_T]; exact kB.2.1, by rw [hT, rdH_T]; exact kB.2.2⟩) (show hR (rdH h r s k) r 1 = some (r + 1) by rw [hR, rdH_T]; exact up2_s) ?_
        refine e_iload_n aX4_init_29 rfl ?_
        refine e_iload_n aX4_init_30 rfl ?_
        refine e_iconst (v := 3) aX4_init_31 (by decide) ?_
        refine e_irem aX4_init_32 (by decide) ?_
        refine e_top (nI_rem (a := k) (b := 3) (by omega) (by decide) (by decide)) ?_
        refine e_iastoreF aX4_init_33 (show Is (rdH h r s k) (r + 1) 13 from ⟨kC.1, by rw [hZ, rdH_T]; exact kC.2.1, by rw [hT, rdH_T]; exact kC.2.2⟩) (show hN (rdH h r s k) (r + 1) = 12 by rw [hN, rdH_T]; exact if_pos hz.symm) (vin (N := 12) (by omega)) ?_
        rw [cl (by omega)]
        refine e_iinc aX4_init_34 rfl rfl (Nat.le_of_ble_eq_true rfl) ?_
        refine e_goto aX4_init_37 ?_
        refine e_ls (ls' := [(0, some (vR (some r))), (2, some (vI (nI (k + 1))))]) ⟨rfl, congrArg (fun x => some (vI x)) (nI_1 k), trivial⟩ ?_
        exact ih (k + 1) (by omega)
  refine e_aload_n aX4_init_0 rfl ?_
  refine e_objInit aX4_init_1 kX4_3 w_objI w_objC (Nat.le_of_ble_eq_true rfl) (Nat.le_of_ble_eq_true rfl) ?_
  refine e_aload_n aX4_init_4 rfl ?_
  refine e_bipush (v := 12) aX4_init_5 (by decide) ?_
  refine e_newI aX4_init_7 wa_int (by decide) rfl (Nat.le_of_ble_eq_true rfl) (Nat.le_of_ble_eq_true rfl) (Nat.le_of_ble_eq_true rfl) ?_
  refine e_topR (v := some (r + 1)) (by rw [hz]) ?_
  refine e_putR aX4_init_9 fX4_9 rfl (is_nw kr) (Or.inr ⟨rfl, fun r q => by cases q; rfl⟩) ?_
  refine e_aload_n aX4_init_12 rfl ?_
  refine e_iload_n aX4_init_13 rfl ?_
  refine e_putI aX4_init_14 fX4_15 rfl (is_nw kr) (Or.inr ⟨rfl, fun r q => by cases q; rfl⟩) ?_
  refine e_iconst (v := 0) aX4_init_17 (by decide) ?_
  refine e_istore_n aX4_init_18 (Nat.le_of_ble_eq_true rfl) ?_
  refine e_ls (ls' := [(0, some (vR (some r))), (2, some (vI (nI 0)))]) ⟨rfl, rfl, trivial⟩ ?_
  exact loop 12 0 rfl
theorem rdH_R {h : HP} {r s : Nat} (hr : 116 ≤ r) (kr : Is h r 5) (hz : hZ h = r + 1) (i2 : hI h r 2 = 0) (i3 : hI h r 3 = 0) : RdC (rdH h r s 12) r s rd0 := by
  have kB : Is (rdB h r s) r 5 := is_nw kr
  have kC : Is (rdB h r s) (r + 1) 13 := by
    have e := is_ns (h := h) (t := 13) (n := 12) (by omega)
    rw [hz] at e
    exact e
  have e2 : (rdH h r s 12).2 = (rdB h r s).2 := rdH_T 12
  refine ⟨hr, ⟨kB.1, by rw [hZ, e2]; exact kB.2.1, by rw [hT, e2]; exact kB.2.2⟩, (rdH_a (by omega) 12).trans up2_s, by rw [hR, e2]; exact up2_s, ⟨kC.1, by rw [hZ, e2]; exact kC.2.1, by rw [hT, e2]; exact kC.2.2⟩, by rw [hN, e2]; exact if_pos hz.symm, fun p hp => ⟨rdH_s 12 p hp, Nat.mod_lt _ (by decide)⟩, ?_, ?_⟩
  · exact ((rdH_a (by omega) 12).trans (up2_i (by decide))).trans ((if_neg (by omega)).trans i2)
  · exact ((rdH_a (by omega) 12).trans (up2_i (by decide))).trans ((if_neg (by omega)).trans i3)
theorem rdH_G {h0 h : HP} {r s : Nat} (g : Gb h0 h) (hr : hZ h0 ≤ r) : ∀ k, Gb h0 (rdH h r s k) := by
  intro k
  induction k with
  | zero => exact (g.nw.wR hr).wI hr
  | succ k ih => exact ih.wI (by omega)
/-- a sheet tells each DEAL once -/
def tedB (h : HP) (a n i : Nat) (g : Int32) : Bool := decide (¬ lg_cmp (hL h a i) 0 < 0 ∧ lg_cmp (hL h a i) (nI n).toInt64 < 0 ∧ (g >>> ((hL h a i).toInt32 &&& 31)) &&& 1 = 0)
def tedR (h : HP) (a n : Nat) : Nat → Nat → Int32 → Bool
  | _, 0, _ => true
  | i, m + 1, g => if tedB h a n i g = true then tedR h a n (i + 1) m (g ||| ((1 : Int32) <<< ((hL h a i).toInt32 &&& 31))) else false
theorem tedR_s {h : HP} {a n i m : Nat} {g : Int32} : tedR h a n i (m + 1) g = if tedB h a n i g = true then tedR h a n (i + 1) m (g ||| ((1 : Int32) <<< ((hL h a i).toInt32 &&& 31))) else false := rfl
theorem lgx {v : Int64} {n : Nat} (hn : n ≤ 12) (h1 : ¬ lg_cmp v 0 < 0) (h2 : lg_cmp v (nI n).toInt64 < 0) : ∃ k, k < n ∧ v = lN k := by
  rw [nI_l (by omega)] at h2
  unfold lg_cmp at h1 h2
  have a1 : ¬ v < 0 := by
    intro z
    have z1 := Int64.lt_iff_toInt_lt.mp z
    rw [if_neg (fun w => by have := Int64.lt_iff_toInt_lt.mp w; omega), if_neg (fun w => by subst w; exact absurd z1 (by decide))] at h1
    exact h1 (by decide)
  have a2 : v < lN n := by
    by_cases z : v > lN n
    · rw [if_pos z] at h2
      exact absurd h2 (by decide)
    · rw [if_neg z] at h2
      by_cases w : v = lN n
      · rw [if_pos w] at h2
        exact absurd h2 (by decide)
      · have z1 : ¬ (lN n).toInt < v.toInt := fun q => z (Int64.lt_iff_toInt_lt.mpr q)
        have w1 : ¬ v.toInt = (lN n).toInt := fun q => w (Int64.toInt_inj.mp q)
        exact Int64.lt_iff_toInt_lt.mpr (by omega)
  have b1 : ¬ v.toInt < (0 : Int64).toInt := fun q => a1 (Int64.lt_iff_toInt_lt.mpr q)
  have b2 := Int64.lt_iff_toInt_lt.mp a2
  rw [lN_toInt (by omega)] at b2
  have b3 : (0 : Int64).toInt = 0 := rfl
  rw [b3] at b1
  refine ⟨v.toInt.toNat, by omega, Int64.toInt_inj.mp ?_⟩
  rw [lN_toInt (by omega)]
  omega
def sgR (h : HP) (a i : Nat) : Nat := (hL h a i).toInt32.toNatClampNeg
theorem tedR_k {h : HP} {a n : Nat} (hn : n ≤ 12) : ∀ {m i : Nat} {g : Int32}, tedR h a n i m g = true → ∀ j, i ≤ j → j < i + m → sgR h a j < n ∧ hL h a j = lN (sgR h a j) := by
  intro m
  induction m with
  | zero => intro i g _ j h1 h2; omega
  | succ m ih =>
    intro i g z j h1 h2
    rw [tedR_s] at z
    by_cases w : tedB h a n i g = true
    · rw [if_pos w] at z
      by_cases e : j = i
      · subst e
        have w1 := of_decide_eq_true w
        obtain ⟨k, hk, hv⟩ := lgx hn w1.1 w1.2.1
        have e2 : sgR h a j = k := by
          unfold sgR
          rw [hv, lN_i, cl (by omega)]
        exact ⟨by omega, by rw [e2]; exact hv⟩
      · exact ih z j (by omega) (by omega)
    · rw [if_neg w] at z
      exact absurd z (by decide)
theorem zX8_tellsEachDeal (X : EX) {h : HP} (F : Fx h) {n : Nat} {A : Nat → Nat} {D : Nat → DD} (b : BkD h n A D) {sz q : Nat} {ty : Int32} (hs : sz < 4) (hsh : ShC h sz ty q) : Ct X mX8_tellsEachDeal 0 0 0 [vR (some 32), vR (some (101 + 2 * sz))] h (Rt (vI (b2 ((tedR h (102 + 2 * sz) n 0 q 0) = true))) h) := by
  refine ct_of rfl (Nat.le_of_ble_eq_true rfl) ?_
  have hq40 := hsh.2.2.2
  have hn12 := b.2.1
  have loop : ∀ (m : Nat) (k : Nat) (g : Int32), k + m = q → tedR h (102 + 2 * sz) n k m g = (tedR h (102 + 2 * sz) n 0 q 0) → Ev X mX8_tellsEachDeal 0 0 0 (Rt (vI (b2 ((tedR h (102 + 2 * sz) n 0 q 0) = true))) h) 0 0 4 [(0, some (vR (some 32))), (1, some (vR (some (101 + 2 * sz)))), (2, some (vI g)), (3, some (vI (nI k)))] [] h := by
    intro m
    induction m with
    | zero =>
      intro k g hk hR9
      obtain rfl : q = k := by omega
      refine e_iload_n aX8_tellsEachDeal_4 rfl ?_
      refine e_aload_n aX8_tellsEachDeal_5 rfl ?_
      refine e_getIF aX8_tellsEachDeal_6 fX8_207 rfl (sh_is F hs) hsh.2.2.1 ?_
      refine e_icmp_ge aX8_tellsEachDeal_9 (fun c9 => ?_) (fun c9 => ?_)
      · -- 9: taken
        refine e_iconst (v := 1) aX8_tellsEachDeal_67 (by decide) ?_
        refine e_zreturn aX8_tellsEachDeal_68 rfl (by decide) (Nat.le_refl _) (Nat.le_refl _) ?_
        exact ⟨by rw [← hR9]; rfl, rfl⟩
      · -- 9: not taken
        exact absurd (nI_le (by omega) (by omega)) c9
    | succ m ih =>
      intro k g hk hR9
      refine e_iload_n aX8_tellsEachDeal_4 rfl ?_
      refine e_aload_n aX8_tellsEachDeal_5 rfl ?_
      refine e_getIF aX8_tellsEachDeal_6 fX8_207 rfl (sh_is F hs) hsh.2.2.1 ?_
      refine e_icmp_ge aX8_tellsEachDeal_9 (fun c9 => ?_) (fun c9 => ?_)
      · -- 9: taken
        exact absurd c9 (nI_ge (by omega) (by omega))
      · -- 9: not taken
        refine e_aload_n aX8_tellsEachDeal_12 rfl ?_
        refine e_getRF aX8_tellsEachDeal_13 fX8_225 rfl (sh_is F hs) (sh_r F hs) ?_
        refine e_iload_n aX8_tellsEachDeal_16 rfl ?_
        refine e_laloadF aX8_tellsEachDeal_17 (sn_is F hs) (sn_n F hs) (vin (N := 40) (by omega)) (show hL h (102 + 2 * sz) (nI k).toNatClampNeg = hL h (102 + 2 * sz) k by rw [cl (by omega)]) ?_
        refine e_lstore aX8_tellsEachDeal_18 (Nat.le_of_ble_eq_true rfl) ?_
        refine e_lload aX8_tellsEachDeal_20 rfl ?_
        refine e_lconst (v := 0) aX8_tellsEachDeal_22 rfl ?_
        refine e_lcmp aX8_tellsEachDeal_23 ?_
        refine e_if_lt aX8_tellsEachDeal_24 (fun c24 => ?_) (fun c24 => ?_)
        · -- 24: taken
          refine e_iconst (v := 0) aX8_tellsEachDeal_51 (by decide) ?_
          refine e_zreturn aX8_tellsEachDeal_52 rfl (by decide) (Nat.le_refl _) (Nat.le_refl _) ?_
          have e9 : ¬ tedB h (102 + 2 * sz) n k g = true := fun z => by
            have w := of_decide_eq_true z
            exact w.1 c24
          exact ⟨by rw [← hR9, tedR_s, if_neg e9, b2_f (by decide)], rfl⟩
        · -- 24: not taken
          refine e_lload aX8_tellsEachDeal_27 rfl ?_
          refine e_aload_n aX8_tellsEachDeal_29 rfl ?_
          refine e_getRF aX8_tellsEachDeal_30 fX8_10 rfl (fx_is F rfl) (fx_r (b := 33) F rfl) ?_
          refine e_getIF aX8_tellsEachDeal_33 fX8_101 rfl (fx_is F rfl) b.1 ?_
          refine e_i2l aX8_tellsEachDeal_36 ?_
          refine e_lcmp aX8_tellsEachDeal_37 ?_
          refine e_if_ge aX8_tellsEachDeal_38 (fun c38 => ?_) (fun c38 => ?_)
          · -- 38: taken
            refine e_iconst (v := 0) aX8_tellsEachDeal_51 (by decide) ?_
            refine e_zreturn aX8_tellsEachDeal_52 rfl (by decide) (Nat.le_refl _) (Nat.le_refl _) ?_
            have e9 : ¬ tedB h (102 + 2 * sz) n k g = true := fun z => by
              have w := of_decide_eq_true z
              exact absurd (Int32.lt_of_lt_of_le w.2.1 c38) Int32.lt_irrefl
            exact ⟨by rw [← hR9, tedR_s, if_neg e9, b2_f (by decide)], rfl⟩
          · -- 38: not taken
            refine e_iload_n aX8_tellsEachDeal_41 rfl ?_
            refine e_lload aX8_tellsEachDeal_42 rfl ?_
            refine e_l2i aX8_tellsEachDeal_44 ?_
            refine e_ishr aX8_tellsEachDeal_45 ?_
            refine e_iconst (v := 1) aX8_tellsEachDeal_46 (by decide) ?_
            refine e_iand aX8_tellsEachDeal_47 ?_
            refine e_if_eq aX8_tellsEachDeal_48 (fun c48 => ?_) (fun c48 => ?_)
            · -- 48: taken
              refine e_iload_n aX8_tellsEachDeal_53 rfl ?_
              refine e_iconst (v := 1) aX8_tellsEachDeal_54 (by decide) ?_
              refine e_lload aX8_tellsEachDeal_55 rfl ?_
              refine e_l2i aX8_tellsEachDeal_57 ?_
              refine e_ishl aX8_tellsEachDeal_58 ?_
              refine e_ior aX8_tellsEachDeal_59 ?_
              refine e_istore_n aX8_tellsEachDeal_60 (Nat.le_of_ble_eq_true rfl) ?_
              refine e_iinc aX8_tellsEachDeal_61 rfl rfl (Nat.le_of_ble_eq_true rfl) ?_
              refine e_goto aX8_tellsEachDeal_64 ?_
              have e9 : tedB h (102 + 2 * sz) n k g = true := decide_eq_true ⟨c24, Int32.not_le.mp c38, c48⟩
              refine e_ls (ls' := [(0, some (vR (some 32))), (1, some (vR (some (101 + 2 * sz)))), (2, some (vI (g ||| ((1 : Int32) <<< ((hL h (102 + 2 * sz) k).toInt32 &&& 31))))), (3, some (vI (nI (k + 1))))]) ⟨rfl, rfl, rfl, congrArg (fun x => some (vI x)) (nI_1 k), trivial⟩ ?_
              exact ih (k + 1) _ (by omega) (by rw [← hR9, tedR_s, if_pos e9])
            · -- 48: not taken
              refine e_iconst (v := 0) aX8_tellsEachDeal_51 (by decide) ?_
              refine e_zreturn aX8_tellsEachDeal_52 rfl (by decide) (Nat.le_refl _) (Nat.le_refl _) ?_
              have e9 : ¬ tedB h (102 + 2 * sz) n k g = true := fun z => by
                have w := of_decide_eq_true z
                exact c48 w.2.2
              exact ⟨by rw [← hR9, tedR_s, if_neg e9, b2_f (by decide)], rfl⟩
  refine e_iconst (v := 0) aX8_tellsEachDeal_0 (by decide) ?_
  refine e_istore_n aX8_tellsEachDeal_1 (Nat.le_of_ble_eq_true rfl) ?_
  refine e_iconst (v := 0) aX8_tellsEachDeal_2 (by decide) ?_
  refine e_istore_n aX8_tellsEachDeal_3 (Nat.le_of_ble_eq_true rfl) ?_
  refine e_ls (ls' := [(0, some (vR (some 32))), (1, some (vR (some (101 + 2 * sz)))), (2, some (vI 0)), (3, some (vI (nI 0)))]) ⟨rfl, rfl, rfl, rfl, trivial⟩ ?_
  exact loop q 0 0 (by omega) rfl
/-- the DEALs of a sheet go over, one after another -/
def goR (D : Nat → DD) (s : Nat) (σ : Nat → Nat) : Nat → RS → RS × Bool
  | 0, t => (t, false)
  | i + 1, t => ((mvR (D (σ i)) s (σ i) (goR D s σ i t).1).1, (goR D s σ i t).2 || (mvR (D (σ i)) s (σ i) (goR D s σ i t).1).2)
def crR (D : Nat → DD) (s : Nat) (σ : Nat → Nat) (q : Nat) : Nat → Nat → RS → Nat
  | 0, u, _ => u
  | m + 1, u, t => if (goR D s σ q t).2 = true then crR D s σ q m (u + 1) (goR D s σ q t).1 else u
theorem crR_s {D : Nat → DD} {s q m u : Nat} {σ : Nat → Nat} {t : RS} : crR D s σ q (m + 1) u t = if (goR D s σ q t).2 = true then crR D s σ q m (u + 1) (goR D s σ q t).1 else u := rfl
theorem Gb.sh {h h' : HP} (g : Gb h h') (F : Fx h) {sz q : Nat} {ty : Int32} (hs : sz < 4) (k : ShC h sz ty q) : ShC h' sz ty q := by
  have h1 : 116 ≤ hZ h := F.1
  have z := g.2 (101 + 2 * sz) (by omega)
  exact ⟨(z.1 1).1.trans k.1, k.2.1, (z.1 2).1.trans k.2.2.1, k.2.2.2⟩
theorem zX8_goesOver (X : EX) {h0 h : HP} (F0 : Fx h0) (G1 : Gb h0 h) {n : Nat} {A : Nat → Nat} {D : Nat → DD} (b : BkD h0 n A D) {sz q : Nat} {ty : Int32} (hs : sz < 4) (hsh : ShC h0 sz ty q) {σ : Nat → Nat} (hσ : ∀ i, i < q → σ i < n ∧ hL h0 (102 + 2 * sz) i = lN (σ i)) {s : Nat} (h1296 : s < 1296) {t : RS} (R1 : RdC h (hZ h0) s t) : Ct X mX8_goesOver 4 0 0 [vR (some 32), vR (some (101 + 2 * sz)), vR (some (hZ h0))] h (fun v h' => v = some (vI (b2 ((goR D s σ q t).2 = true))) ∧ Gb h0 h' ∧ RdC h' (hZ h0) s (goR D s σ q t).1) := by
  refine ct_of rfl (Nat.le_of_ble_eq_true rfl) ?_
  have hq40 := hsh.2.2.2
  have loop : ∀ (m : Nat) (k : Nat) (hz : HP), k + m = q → Gb h0 hz → RdC hz (hZ h0) s (goR D s σ k t).1 → Ev X mX8_goesOver 4 0 0 (fun v h' => v = some (vI (b2 ((goR D s σ q t).2 = true))) ∧ Gb h0 h' ∧ RdC h' (hZ h0) s (goR D s σ q t).1) 0 0 5 [(0, some (vR (some 32))), (1, some (vR (some (101 + 2 * sz)))), (2, some (vR (some (hZ h0)))), (3, some (vI (b2 ((goR D s σ k t).2 = true)))), (4, some (vI (nI k)))] [] hz := by
    intro m
    induction m with
    | zero =>
      intro k hz hk GZ RZ
      obtain rfl : q = k := by omega
      have F : Fx hz := GZ.F F0
      have hshZ := GZ.sh F0 hs hsh
      refine e_iload aX8_goesOver_5 rfl ?_
      refine e_aload_n aX8_goesOver_7 rfl ?_
      refine e_getIF aX8_goesOver_8 fX8_207 rfl (sh_is F hs) hshZ.2.2.1 ?_
      refine e_icmp_ge aX8_goesOver_11 (fun c11 => ?_) (fun c11 => ?_)
      · -- 11: taken
        refine e_iload_n aX8_goesOver_59 rfl ?_
        refine e_zreturn aX8_goesOver_60 rfl b2_b (Nat.le_refl _) (Nat.le_refl _) ?_
        exact ⟨rfl, GZ, RZ⟩
      · -- 11: not taken
        exact absurd (nI_le (by omega) (by omega)) c11
    | succ m ih =>
      intro k hz hk GZ RZ
      have F : Fx hz := GZ.F F0
      have hshZ := GZ.sh F0 hs hsh
      have h134 : 116 ≤ hZ h0 := F0.1
      refine e_iload aX8_goesOver_5 rfl ?_
      refine e_aload_n aX8_goesOver_7 rfl ?_
      refine e_getIF aX8_goesOver_8 fX8_207 rfl (sh_is F hs) hshZ.2.2.1 ?_
      refine e_icmp_ge aX8_goesOver_11 (fun c11 => ?_) (fun c11 => ?_)
      · -- 11: taken
        exact absurd c11 (nI_ge (by omega) (by omega))
      · -- 11: not taken
        refine e_aload_n aX8_goesOver_14 rfl ?_
        refine e_getRF aX8_goesOver_15 fX8_225 rfl (sh_is F hs) (sh_r F hs) ?_
        refine e_iload aX8_goesOver_18 rfl ?_
        refine e_laloadF aX8_goesOver_20 (sn_is F hs) (sn_n F hs) (vin (N := 40) (by omega)) (show hL hz (102 + 2 * sz) (nI k).toNatClampNeg = lN (σ k) by rw [cl (by omega)]; exact (((GZ.2 (102 + 2 * sz) (by omega)).1 k).2.1).trans (hσ k (by omega)).2) ?_
        refine e_l2i aX8_goesOver_21 ?_
        refine e_top (lN_i _) ?_
        refine e_istore aX8_goesOver_22 (Nat.le_of_ble_eq_true rfl) ?_
        refine e_aload_n aX8_goesOver_24 rfl ?_
        refine e_getRF aX8_goesOver_25 fX8_10 rfl (fx_is F rfl) (fx_r (b := 33) F rfl) ?_
        refine e_iload aX8_goesOver_28 rfl ?_
        refine e_invvT aX8_goesOver_30 kX8_128 (zX0_dealAt_in X F (GZ.bd F0 b) (k := σ k) (hσ k (by omega)).1) rfl rfl (fx_is F rfl) (Nat.le_of_ble_eq_true rfl) (Nat.le_of_ble_eq_true rfl) (Nat.le_refl _) (Nat.le_refl _) (Nat.le_of_ble_eq_true rfl) ?_
        refine e_astore aX8_goesOver_33 (Nat.le_of_ble_eq_true rfl) ?_
        refine e_aload aX8_goesOver_35 rfl ?_
        refine e_ifnull aX8_goesOver_37 (fun c37 => ?_) (fun r37 c37 => ?_)
        · -- 37: taken
          exact absurd c37 (by simp)
        · -- 37: not taken
          refine e_aload_n aX8_goesOver_40 rfl ?_
          refine e_aload aX8_goesOver_41 rfl ?_
          refine e_iload aX8_goesOver_43 rfl ?_
          refine e_invv aX8_goesOver_45 kX8_293 (zX4_move X GZ (b.2.2 (σ k) (hσ k (by omega)).1).2 h1296 RZ) rfl rfl RZ.2.1 (Nat.le_of_ble_eq_true rfl) (Nat.le_of_ble_eq_true rfl) (Nat.le_refl _) (Nat.le_refl _) (Nat.le_of_ble_eq_true rfl) ?_
          rintro v h2 ⟨rfl, G2, R2⟩
          have F : Fx h2 := G2.F F0
          refine e_if_eq aX8_goesOver_48 (fun c48 => ?_) (fun c48 => ?_)
          · -- 48: taken
            have q48 : (mvR (D (σ k)) s (σ k) (goR D s σ k t).1).2 = false := by
              have z := b2_0.mp c48
              cases e : (mvR (D (σ k)) s (σ k) (goR D s σ k t).1).2
              · rfl
              · exact absurd e z
            refine e_iinc aX8_goesOver_53 rfl rfl (Nat.le_of_ble_eq_true rfl) ?_
            refine e_goto aX8_goesOver_56 ?_
            refine e_ls (ls' := [(0, some (vR (some 32))), (1, some (vR (some (101 + 2 * sz)))), (2, some (vR (some (hZ h0)))), (3, some (vI (b2 ((goR D s σ (k + 1) t).2 = true)))), (4, some (vI (nI (k + 1))))]) ⟨rfl, rfl, rfl, (show some (vI (b2 _)) = some (vI (b2 ((_ || _) = true))) by rw [q48, Bool.or_false]), congrArg (fun x => some (vI x)) (nI_1 k), trivial⟩ ?_
            exact ih (k + 1) _ (by omega) G2 R2
          · -- 48: not taken
            have q48 : (mvR (D (σ k)) s (σ k) (goR D s σ k t).1).2 = true := Decidable.of_not_not (fun z => c48 (b2_0.mpr z))
            refine e_iconst (v := 1) aX8_goesOver_51 (by decide) ?_
            refine e_istore_n aX8_goesOver_52 (Nat.le_of_ble_eq_true rfl) ?_
            refine e_iinc aX8_goesOver_53 rfl rfl (Nat.le_of_ble_eq_true rfl) ?_
            refine e_goto aX8_goesOver_56 ?_
            refine e_ls (ls' := [(0, some (vR (some 32))), (1, some (vR (some (101 + 2 * sz)))), (2, some (vR (some (hZ h0)))), (3, some (vI (b2 ((goR D s σ (k + 1) t).2 = true)))), (4, some (vI (nI (k + 1))))]) ⟨rfl, rfl, rfl, (show some (vI 1) = some (vI (b2 ((_ || _) = true))) by rw [q48, Bool.or_true]; rfl), congrArg (fun x => some (vI x)) (nI_1 k), trivial⟩ ?_
            exact ih (k + 1) _ (by omega) G2 R2
  refine e_iconst (v := 0) aX8_goesOver_0 (by decide) ?_
  refine e_istore_n aX8_goesOver_1 (Nat.le_of_ble_eq_true rfl) ?_
  refine e_iconst (v := 0) aX8_goesOver_2 (by decide) ?_
  refine e_istore aX8_goesOver_3 (Nat.le_of_ble_eq_true rfl) ?_
  refine e_ls (ls' := [(0, some (vR (some 32))), (1, some (vR (some (101 + 2 * sz)))), (2, some (vR (some (hZ h0)))), (3, some (vI (b2 ((goR D s σ 0 t).2 = true)))), (4, some (vI (nI 0)))]) ⟨rfl, rfl, rfl, rfl, rfl, trivial⟩ ?_
  exact loop q 0 h (by omega) G1 R1
