/-! contracts: settleAll, clashesUnder, takes, enter (written by wip/p45/g20.py) -/
/-- how one more deal would CLASH under a STANDING: the PICK and the kind -/
def ncl (D : Nat → DD) (n : Nat) (d : DD) (s : Nat) : Option (Nat × Nat) := match gv d s with
  | none => none
  | some g => match cls D n s g (dF d) (dT d), (gb d s).bind (fun b => (cls D n s b (dT d) (dF d)).map (fun w => (b, w))) with
    | none, none => none
    | some w, none => some (g, w)
    | none, some q => some q
    | some w, some q => if g < q.1 then some (g, w) else some q
/-- THE CLASH is told -/
def tl (h : HP) (s p w : Nat) : HP := wI (wI (wI h 75 0 (nI s)) 75 1 (nI p)) 75 2 (nI w)
theorem cls_b {D : Nat → DD} {n s p g t : Nat} : ∀ w, cls D n s p g t = some w → w < 1073741824 := by
  intro w h
  unfold cls at h
  split at h
  · cases h; decide
  · split at h
    · cases h; decide
    · split at h
      · cases h; decide
      · cases h
theorem BkF.up {h h' : HP} {f : Nat} {o : Nat → Nat} (b : BkF h f o) (e1 : ∀ i, hI h' 33 i = hI h 33 i) (e2 : ∀ i, hI h' 35 i = hI h 35 i) : BkF h' f o := ⟨(e1 3).trans b.1, b.2.1, fun y hy => (e2 y).trans (b.2.2.1 y hy), b.2.2.2⟩
theorem BkD.up {h h' : HP} {n : Nat} {A : Nat → Nat} {D : Nat → DD} (b : BkD h n A D) (u : Up h h') (e1 : hI h' 33 1 = hI h 33 1) (e2 : ∀ i, hR h' 34 i = hR h 34 i) : BkD h' n A D := ⟨e1.trans b.1, b.2.1, fun k hk => ⟨(e2 k).trans (b.2.2 k hk).1, (b.2.2 k hk).2.up u⟩⟩
theorem BkF.rw {h : HP} {f : Nat} {o : Nat → Nat} {r : Nat → Int32} (b : BkF h f o) : BkF (rwR h r) f o := b.up (fun _ => rwR_I (by decide)) (fun _ => rwR_I (by decide))
theorem BkD.rw {h : HP} {n : Nat} {A : Nat → Nat} {D : Nat → DD} {r : Nat → Int32} (b : BkD h n A D) : BkD (rwR h r) n A D := b.up Up.rw (rwR_I (by decide)) (fun _ => rfl)
/-- rows of the OPEN STANDINGS hold OWNERS -/
def Own (h : HP) (f : Nat) (o : Nat → Nat) (n : Nat) (D : Nat → DD) : Prop := ∀ s, fo o f ≤ s → s < fo o f + om f → RowC h s (fun p => ow D s p n)
theorem own_step {d : DD} (w : dWf d) {D : Nat → DD} {n s p : Nat} {x : Int32} (hp : p < 12) (e : D n = d) (hx : dgt x p = nI (ow D s p n)) : dgt (stl d s x) p = nI (ow D s p (n + 1)) := by
  rw [stl_dgt w hp]
  conv => rhs; unfold ow
  rw [e]
  cases tk d s p with
  | none => exact hx
  | some t => rfl
theorem DealC.rw {h : HP} {a : Nat} {d : DD} {r : Nat → Int32} (k : DealC h a d) : DealC (rwR h r) a d := k.up Up.rw
theorem rwR_rw {h : HP} {r : Nat → Int32} {f e : Nat} {g : Nat → Int32 → Int32} : rwR (rwR h r) (rng f e g (hI (rwR h r) 39)) = rwR h (rng f e g r) := by
  have e1 : hI (rwR h r) 39 = r := funext fun i => rwR_39
  rw [e1]
  unfold rwR
  congr 1
  funext a i
  by_cases ha : a = 39
  · rw [if_pos ha, if_pos ha]
  · simp [ha]
theorem zX8_settleAll (X : EX) {h : HP} (F : Fx h) {f n : Nat} {o : Nat → Nat} {A : Nat → Nat} {D : Nat → DD} (bf : BkF h f o) (b : BkD h n A D) : Ct X mX8_settleAll 3 0 0 [vR (some 32)] h (fun v h' => v = none ∧ ∃ r, h' = rwR h r ∧ ∀ s, fo o f ≤ s → s < fo o f + om f → ∀ p, p < 12 → dgt (r s) p = nI (ow D s p n)) := by
  refine ct_of rfl (Nat.le_of_ble_eq_true rfl) ?_
  have hb6 := om_fo bf.2.1 bf.2.2.2
  have hn12 := b.2.1
  have loop : ∀ (m : Nat) (k : Nat) (r : Nat → Int32), k + m = n → (∀ s, fo o f ≤ s → s < fo o f + om f → ∀ p, p < 12 → dgt (r s) p = nI (ow D s p k)) → Ev X mX8_settleAll 3 0 0 (fun v h' => v = none ∧ ∃ r, h' = rwR h r ∧ ∀ s, fo o f ≤ s → s < fo o f + om f → ∀ p, p < 12 → dgt (r s) p = nI (ow D s p n)) 0 0 27 [(0, some (vR (some 32))), (1, some (vI (nI (fo o f)))), (2, some (vI (nI (fo o f + om f)))), (3, some (vI (nI k)))] [] (rwR h r) := by
    intro m
    induction m with
    | zero =>
      intro k r hk hr
      obtain rfl : n = k := by omega
      refine e_iload_n aX8_settleAll_27 rfl ?_
      refine e_aload_n aX8_settleAll_28 rfl ?_
      refine e_getRF aX8_settleAll_29 fX8_10 rfl (fx_is F rfl) (fx_r (b := 33) F rfl) ?_
      refine e_getIF aX8_settleAll_32 fX8_101 rfl (fx_is F rfl) ((rwR_I (by decide)).trans b.1) ?_
      refine e_icmp_ge aX8_settleAll_35 (fun c35 => ?_) (fun c35 => ?_)
      · -- 35: taken
        refine e_return aX8_settleAll_61 rfl (Nat.le_refl _) (Nat.le_refl _) ?_
        exact ⟨rfl, r, rfl, hr⟩
      · -- 35: not taken
        exact absurd (nI_le (by omega) (by omega)) c35
    | succ m ih =>
      intro k r hk hr
      refine e_iload_n aX8_settleAll_27 rfl ?_
      refine e_aload_n aX8_settleAll_28 rfl ?_
      refine e_getRF aX8_settleAll_29 fX8_10 rfl (fx_is F rfl) (fx_r (b := 33) F rfl) ?_
      refine e_getIF aX8_settleAll_32 fX8_101 rfl (fx_is F rfl) ((rwR_I (by decide)).trans b.1) ?_
      refine e_icmp_ge aX8_settleAll_35 (fun c35 => ?_) (fun c35 => ?_)
      · -- 35: taken
        exact absurd c35 (nI_ge (by omega) (by omega))
      · -- 35: not taken
        refine e_aload_n aX8_settleAll_38 rfl ?_
        refine e_getRF aX8_settleAll_39 fX8_23 rfl (fx_is F rfl) (fx_r (b := 38) F rfl) ?_
        refine e_aload_n aX8_settleAll_42 rfl ?_
        refine e_getRF aX8_settleAll_43 fX8_10 rfl (fx_is F rfl) (fx_r (b := 33) F rfl) ?_
        refine e_iload_n aX8_settleAll_46 rfl ?_
        refine e_invvT aX8_settleAll_47 kX8_128 (zX0_dealAt_in X (h := rwR h r) F b.rw (by omega)) rfl rfl (fx_is F rfl) (Nat.le_of_ble_eq_true rfl) (Nat.le_of_ble_eq_true rfl) (Nat.le_refl _) (Nat.le_refl _) (Nat.le_of_ble_eq_true rfl) ?_
        refine e_iload_n aX8_settleAll_50 rfl ?_
        refine e_iload_n aX8_settleAll_51 rfl ?_
        refine e_invvV aX8_settleAll_52 kX8_276 (zX2_settle X (h := rwR h r) F (b.2.2 k (by omega)).2.rw (Nat.le_add_right _ _) hb6) rfl rfl (fx_is F rfl) (Nat.le_of_ble_eq_true rfl) (Nat.le_of_ble_eq_true rfl) (Nat.le_refl _) (Nat.le_refl _) (Nat.le_of_ble_eq_true rfl) ?_
        refine e_iinc aX8_settleAll_55 rfl rfl (Nat.le_of_ble_eq_true rfl) ?_
        refine e_goto aX8_settleAll_58 ?_
        refine e_hp (h2 := rwR h (rng (fo o f) (fo o f + om f) (stl (D k)) r)) rwR_rw ?_
        refine e_ls (ls' := [(0, some (vR (some 32))), (1, some (vI (nI (fo o f)))), (2, some (vI (nI (fo o f + om f)))), (3, some (vI (nI (k + 1))))]) ⟨rfl, rfl, rfl, congrArg (fun x => some (vI x)) (nI_1 k), trivial⟩ ?_
        refine ih (k + 1) _ (by omega) (fun s hs1 hs2 p hp => ?_)
        unfold rng
        rw [if_pos ⟨hs1, hs2⟩]
        exact own_step (b.2.2 k (by omega)).2.2.2.1 hp rfl (hr s hs1 hs2 p hp)
  refine e_aload_n aX8_settleAll_0 rfl ?_
  refine e_getRF aX8_settleAll_1 fX8_10 rfl (fx_is F rfl) (fx_r (b := 33) F rfl) ?_
  refine e_invvT aX8_settleAll_4 kX8_84 (zX0_firstOpen X F bf) rfl rfl (fx_is F rfl) (Nat.le_of_ble_eq_true rfl) (Nat.le_of_ble_eq_true rfl) (Nat.le_refl _) (Nat.le_refl _) (Nat.le_of_ble_eq_true rfl) ?_
  refine e_istore_n aX8_settleAll_7 (Nat.le_of_ble_eq_true rfl) ?_
  refine e_aload_n aX8_settleAll_8 rfl ?_
  refine e_getRF aX8_settleAll_9 fX8_10 rfl (fx_is F rfl) (fx_r (b := 33) F rfl) ?_
  refine e_invvT aX8_settleAll_12 kX8_181 (zX0_endOpen X F bf) rfl rfl (fx_is F rfl) (Nat.le_of_ble_eq_true rfl) (Nat.le_of_ble_eq_true rfl) (Nat.le_refl _) (Nat.le_refl _) (Nat.le_of_ble_eq_true rfl) ?_
  refine e_istore_n aX8_settleAll_15 (Nat.le_of_ble_eq_true rfl) ?_
  refine e_aload_n aX8_settleAll_16 rfl ?_
  refine e_getRF aX8_settleAll_17 fX8_23 rfl (fx_is F rfl) (fx_r (b := 38) F rfl) ?_
  refine e_iload_n aX8_settleAll_20 rfl ?_
  refine e_iload_n aX8_settleAll_21 rfl ?_
  refine e_invvV aX8_settleAll_22 kX8_54 (zX2_startAll X F (Nat.le_add_right _ _) hb6) rfl rfl (fx_is F rfl) (Nat.le_of_ble_eq_true rfl) (Nat.le_of_ble_eq_true rfl) (Nat.le_refl _) (Nat.le_refl _) (Nat.le_of_ble_eq_true rfl) ?_
  refine e_iconst (v := 0) aX8_settleAll_25 (by decide) ?_
  refine e_istore_n aX8_settleAll_26 (Nat.le_of_ble_eq_true rfl) ?_
  refine e_ls (ls' := [(0, some (vR (some 32))), (1, some (vI (nI (fo o f)))), (2, some (vI (nI (fo o f + om f)))), (3, some (vI (nI 0)))]) ⟨rfl, rfl, rfl, rfl, trivial⟩ ?_
  refine loop n 0 _ (by omega) (fun s hs1 hs2 p hp => ?_)
  unfold rng
  rw [if_pos ⟨hs1, hs2⟩]
  exact dgt_start p hp
theorem oI_ge {q : Option Nat} (h : ∀ p, q = some p → p < 1073741824) : 0 ≤ oI q ↔ ∃ p, q = some p := by
  rw [← Int32.not_lt, oI_lt h]
  cases q <;> simp
theorem zX8_clashesUnder (X : EX) {h : HP} (F : Fx h) {n : Nat} {A : Nat → Nat} {D : Nat → DD} (b : BkD h n A D) {a : Nat} {d : DD} (kd : DealC h a d) {s : Nat} (hs : s < 1296) : Ct X mX8_clashesUnder 4 0 0 [vR (some 32), vI (nI s), vR (some a)] h (Rt (vI (b2 ((ncl D n d s).isSome = true))) (match ncl D n d s with | none => h | some q => tl h s q.1 q.2)) := by
  refine ct_of rfl (Nat.le_of_ble_eq_true rfl) ?_
  have w := kd.2.2.1
  refine e_aload_n aX8_clashesUnder_0 rfl ?_
  refine e_iload_n aX8_clashesUnder_1 rfl ?_
  refine e_invvT aX8_clashesUnder_2 kX8_160 (zX1_gives X kd hs) rfl rfl kd.2.1 (Nat.le_of_ble_eq_true rfl) (Nat.le_of_ble_eq_true rfl) (Nat.le_refl _) (Nat.le_refl _) (Nat.le_of_ble_eq_true rfl) ?_
  refine e_istore_n aX8_clashesUnder_5 (Nat.le_of_ble_eq_true rfl) ?_
  refine e_iload_n aX8_clashesUnder_6 rfl ?_
  refine e_if_ge aX8_clashesUnder_7 (fun c7 => ?_) (fun c7 => ?_)
  · -- 7: taken
    have q7 := (oI_ge (gv_b w)).mp c7
    obtain ⟨g, hg⟩ := q7
    rw [hg]
    have hgl := (gv_ok w hg).1
    refine e_aload_n aX8_clashesUnder_12 rfl ?_
    refine e_iload_n aX8_clashesUnder_13 rfl ?_
    refine e_invvT aX8_clashesUnder_14 kX8_163 (zX1_getsBack X kd hs) rfl rfl kd.2.1 (Nat.le_of_ble_eq_true rfl) (Nat.le_of_ble_eq_true rfl) (Nat.le_refl _) (Nat.le_refl _) (Nat.le_of_ble_eq_true rfl) ?_
    refine e_istore aX8_clashesUnder_17 (Nat.le_of_ble_eq_true rfl) ?_
    refine e_aload_n aX8_clashesUnder_19 rfl ?_
    refine e_getRF aX8_clashesUnder_20 fX8_10 rfl (fx_is F rfl) (fx_r (b := 33) F rfl) ?_
    refine e_iload_n aX8_clashesUnder_23 rfl ?_
    refine e_iload_n aX8_clashesUnder_24 rfl ?_
    refine e_aload_n aX8_clashesUnder_25 rfl ?_
    refine e_getIF aX8_clashesUnder_26 fX8_134 rfl kd.2.1 kd.2.2.2.2.1 ?_
    refine e_aload_n aX8_clashesUnder_29 rfl ?_
    refine e_getIF aX8_clashesUnder_30 fX8_137 rfl kd.2.1 kd.2.2.2.2.2.1 ?_
    refine e_invvT aX8_clashesUnder_33 kX8_280 (zX0_clashOf X F b hs hgl w.2.1 w.2.2.1) rfl rfl (fx_is F rfl) (Nat.le_of_ble_eq_true rfl) (Nat.le_of_ble_eq_true rfl) (Nat.le_refl _) (Nat.le_refl _) (Nat.le_of_ble_eq_true rfl) ?_
    refine e_istore aX8_clashesUnder_36 (Nat.le_of_ble_eq_true rfl) ?_
    refine e_iload aX8_clashesUnder_38 rfl ?_
    refine e_if_ge aX8_clashesUnder_40 (fun c40 => ?_) (fun c40 => ?_)
    · -- 40: taken
      have q40 := (oI_ge (fun q hq => by have := (gb_ok w hq).1; omega)).mp c40
      obtain ⟨bz, hbz⟩ := q40
      rw [hbz]
      have hbl := (gb_ok w hbz).1
      refine e_aload_n aX8_clashesUnder_47 rfl ?_
      refine e_getRF aX8_clashesUnder_48 fX8_10 rfl (fx_is F rfl) (fx_r (b := 33) F rfl) ?_
      refine e_iload_n aX8_clashesUnder_51 rfl ?_
      refine e_iload aX8_clashesUnder_52 rfl ?_
      refine e_aload_n aX8_clashesUnder_54 rfl ?_
      refine e_getIF aX8_clashesUnder_55 fX8_137 rfl kd.2.1 kd.2.2.2.2.2.1 ?_
      refine e_aload_n aX8_clashesUnder_58 rfl ?_
      refine e_getIF aX8_clashesUnder_59 fX8_134 rfl kd.2.1 kd.2.2.2.2.1 ?_
      refine e_invvT aX8_clashesUnder_62 kX8_280 (zX0_clashOf X F b hs hbl w.2.2.1 w.2.1) rfl rfl (fx_is F rfl) (Nat.le_of_ble_eq_true rfl) (Nat.le_of_ble_eq_true rfl) (Nat.le_refl _) (Nat.le_refl _) (Nat.le_of_ble_eq_true rfl) ?_
      refine e_istore aX8_clashesUnder_65 (Nat.le_of_ble_eq_true rfl) ?_
      refine e_iload aX8_clashesUnder_67 rfl ?_
      refine e_if_ge aX8_clashesUnder_69 (fun c69 => ?_) (fun c69 => ?_)
      · -- 69: taken
        obtain ⟨w1, hw1⟩ := (oI_ge cls_b).mp c69
        refine e_iload aX8_clashesUnder_79 rfl ?_
        refine e_if_lt aX8_clashesUnder_81 (fun c81 => ?_) (fun c81 => ?_)
        · -- 81: taken
          exact absurd c69 (Int32.not_le.mpr c81)
        · -- 81: not taken
          skip
          refine e_iload aX8_clashesUnder_84 rfl ?_
          refine e_if_lt aX8_clashesUnder_86 (fun c86 => ?_) (fun c86 => ?_)
          · -- 86: taken
            have hw2 := (oI_lt cls_b).mp c86
            have hn : ncl D n d s = some (g, w1) := by simp [ncl, hg, hw1, hbz, hw2]
            refine e_iconst (v := 1) aX8_clashesUnder_95 (by decide) ?_
            refine e_goto aX8_clashesUnder_96 ?_
            refine e_istore aX8_clashesUnder_100 (Nat.le_of_ble_eq_true rfl) ?_
            refine e_aload_n aX8_clashesUnder_102 rfl ?_
            refine e_getRF aX8_clashesUnder_103 fX8_46 rfl (fx_is F rfl) (fx_r (b := 75) F rfl) ?_
            refine e_iconst (v := 0) aX8_clashesUnder_106 (by decide) ?_
            refine e_iload_n aX8_clashesUnder_107 rfl ?_
            refine e_iastoreF aX8_clashesUnder_108 (fx_is F rfl) (fx_n (n := 3) F rfl) (vin (n := 0) (by decide)) ?_
            refine e_aload_n aX8_clashesUnder_109 rfl ?_
            refine e_getRF aX8_clashesUnder_110 fX8_46 rfl (fx_is F rfl) (fx_r (b := 75) F rfl) ?_
            refine e_iconst (v := 1) aX8_clashesUnder_113 (by decide) ?_
            refine e_iload aX8_clashesUnder_114 rfl ?_
            refine e_if_eq aX8_clashesUnder_116 (fun c116 => absurd c116 (by decide)) (fun c116 => ?_)
            refine e_iload_n aX8_clashesUnder_119 rfl ?_
            refine e_goto aX8_clashesUnder_120 ?_
            refine e_iastoreF aX8_clashesUnder_125 (fx_is F rfl) (fx_n (n := 3) F rfl) (vin (n := 1) (by decide)) ?_
            refine e_aload_n aX8_clashesUnder_126 rfl ?_
            refine e_getRF aX8_clashesUnder_127 fX8_46 rfl (fx_is F rfl) (fx_r (b := 75) F rfl) ?_
            refine e_iconst (v := 2) aX8_clashesUnder_130 (by decide) ?_
            refine e_iload aX8_clashesUnder_131 rfl ?_
            refine e_if_eq aX8_clashesUnder_133 (fun c133 => absurd c133 (by decide)) (fun c133 => ?_)
            refine e_iload aX8_clashesUnder_136 rfl ?_
            refine e_goto aX8_clashesUnder_138 ?_
            refine e_iastoreF aX8_clashesUnder_143 (fx_is F rfl) (fx_n (n := 3) F rfl) (vin (n := 2) (by decide)) ?_
            refine e_iconst (v := 1) aX8_clashesUnder_144 (by decide) ?_
            refine e_zreturn aX8_clashesUnder_145 rfl (by decide) (Nat.le_refl _) (Nat.le_refl _) ?_
            exact ⟨by rw [hn]; rfl, by rw [hn]; simp only [hw1]; rfl⟩
          · -- 86: not taken
            obtain ⟨w2, hw2⟩ := (oI_ge cls_b).mp (Int32.not_lt.mp c86)
            refine e_iload_n aX8_clashesUnder_89 rfl ?_
            refine e_iload aX8_clashesUnder_90 rfl ?_
            refine e_icmp_ge aX8_clashesUnder_92 (fun c92 => ?_) (fun c92 => ?_)
            · -- 92: taken
              have q92 := (nI_leI (by omega) (by omega)).mp c92
              have hn : ncl D n d s = some (bz, w2) := by simp [ncl, hg, hw1, hbz, hw2, Nat.not_lt.mpr q92]
              refine e_iconst (v := 0) aX8_clashesUnder_99 (by decide) ?_
              refine e_istore aX8_clashesUnder_100 (Nat.le_of_ble_eq_true rfl) ?_
              refine e_aload_n aX8_clashesUnder_102 rfl ?_
              refine e_getRF aX8_clashesUnder_103 fX8_46 rfl (fx_is F rfl) (fx_r (b := 75) F rfl) ?_
              refine e_iconst (v := 0) aX8_clashesUnder_106 (by decide) ?_
              refine e_iload_n aX8_clashesUnder_107 rfl ?_
              refine e_iastoreF aX8_clashesUnder_108 (fx_is F rfl) (fx_n (n := 3) F rfl) (vin (n := 0) (by decide)) ?_
              refine e_aload_n aX8_clashesUnder_109 rfl ?_
              refine e_getRF aX8_clashesUnder_110 fX8_46 rfl (fx_is F rfl) (fx_r (b := 75) F rfl) ?_
              refine e_iconst (v := 1) aX8_clashesUnder_113 (by decide) ?_
              refine e_iload aX8_clashesUnder_114 rfl ?_
              refine e_if_eq aX8_clashesUnder_116 (fun c116 => ?_) (fun c116 => absurd c116 (by decide))
              refine e_iload aX8_clashesUnder_123 rfl ?_
              refine e_iastoreF aX8_clashesUnder_125 (fx_is F rfl) (fx_n (n := 3) F rfl) (vin (n := 1) (by decide)) ?_
              refine e_aload_n aX8_clashesUnder_126 rfl ?_
              refine e_getRF aX8_clashesUnder_127 fX8_46 rfl (fx_is F rfl) (fx_r (b := 75) F rfl) ?_
              refine e_iconst (v := 2) aX8_clashesUnder_130 (by decide) ?_
              refine e_iload aX8_clashesUnder_131 rfl ?_
              refine e_if_eq aX8_clashesUnder_133 (fun c133 => ?_) (fun c133 => absurd c133 (by decide))
              refine e_iload aX8_clashesUnder_141 rfl ?_
              refine e_iastoreF aX8_clashesUnder_143 (fx_is F rfl) (fx_n (n := 3) F rfl) (vin (n := 2) (by decide)) ?_
              refine e_iconst (v := 1) aX8_clashesUnder_144 (by decide) ?_
              refine e_zreturn aX8_clashesUnder_145 rfl (by decide) (Nat.le_refl _) (Nat.le_refl _) ?_
              exact ⟨by rw [hn]; rfl, by rw [hn]; simp only [hbz, hw2]; rfl⟩
            · -- 92: not taken
              have q92 := (not_congr (nI_leI (by omega) (by omega))).mp c92
              have hn : ncl D n d s = some (g, w1) := by simp [ncl, hg, hw1, hbz, hw2, Nat.lt_of_not_le q92]
              refine e_iconst (v := 1) aX8_clashesUnder_95 (by decide) ?_
              refine e_goto aX8_clashesUnder_96 ?_
              refine e_istore aX8_clashesUnder_100 (Nat.le_of_ble_eq_true rfl) ?_
              refine e_aload_n aX8_clashesUnder_102 rfl ?_
              refine e_getRF aX8_clashesUnder_103 fX8_46 rfl (fx_is F rfl) (fx_r (b := 75) F rfl) ?_
              refine e_iconst (v := 0) aX8_clashesUnder_106 (by decide) ?_
              refine e_iload_n aX8_clashesUnder_107 rfl ?_
              refine e_iastoreF aX8_clashesUnder_108 (fx_is F rfl) (fx_n (n := 3) F rfl) (vin (n := 0) (by decide)) ?_
              refine e_aload_n aX8_clashesUnder_109 rfl ?_
              refine e_getRF aX8_clashesUnder_110 fX8_46 rfl (fx_is F rfl) (fx_r (b := 75) F rfl) ?_
              refine e_iconst (v := 1) aX8_clashesUnder_113 (by decide) ?_
              refine e_iload aX8_clashesUnder_114 rfl ?_
              refine e_if_eq aX8_clashesUnder_116 (fun c116 => absurd c116 (by decide)) (fun c116 => ?_)
              refine e_iload_n aX8_clashesUnder_119 rfl ?_
              refine e_goto aX8_clashesUnder_120 ?_
              refine e_iastoreF aX8_clashesUnder_125 (fx_is F rfl) (fx_n (n := 3) F rfl) (vin (n := 1) (by decide)) ?_
              refine e_aload_n aX8_clashesUnder_126 rfl ?_
              refine e_getRF aX8_clashesUnder_127 fX8_46 rfl (fx_is F rfl) (fx_r (b := 75) F rfl) ?_
              refine e_iconst (v := 2) aX8_clashesUnder_130 (by decide) ?_
              refine e_iload aX8_clashesUnder_131 rfl ?_
              refine e_if_eq aX8_clashesUnder_133 (fun c133 => absurd c133 (by decide)) (fun c133 => ?_)
              refine e_iload aX8_clashesUnder_136 rfl ?_
              refine e_goto aX8_clashesUnder_138 ?_
              refine e_iastoreF aX8_clashesUnder_143 (fx_is F rfl) (fx_n (n := 3) F rfl) (vin (n := 2) (by decide)) ?_
              refine e_iconst (v := 1) aX8_clashesUnder_144 (by decide) ?_
              refine e_zreturn aX8_clashesUnder_145 rfl (by decide) (Nat.le_refl _) (Nat.le_refl _) ?_
              exact ⟨by rw [hn]; rfl, by rw [hn]; simp only [hw1]; rfl⟩
      · -- 69: not taken
        have hw1 := (oI_lt cls_b).mp (Int32.not_le.mp c69)
        refine e_iload aX8_clashesUnder_72 rfl ?_
        refine e_if_ge aX8_clashesUnder_74 (fun c74 => ?_) (fun c74 => ?_)
        · -- 74: taken
          obtain ⟨w2, hw2⟩ := (oI_ge cls_b).mp c74
          refine e_iload aX8_clashesUnder_79 rfl ?_
          refine e_if_lt aX8_clashesUnder_81 (fun c81 => ?_) (fun c81 => ?_)
          · -- 81: taken
            skip
            refine e_iconst (v := 0) aX8_clashesUnder_99 (by decide) ?_
            refine e_istore aX8_clashesUnder_100 (Nat.le_of_ble_eq_true rfl) ?_
            refine e_aload_n aX8_clashesUnder_102 rfl ?_
            refine e_getRF aX8_clashesUnder_103 fX8_46 rfl (fx_is F rfl) (fx_r (b := 75) F rfl) ?_
            refine e_iconst (v := 0) aX8_clashesUnder_106 (by decide) ?_
            refine e_iload_n aX8_clashesUnder_107 rfl ?_
            refine e_iastoreF aX8_clashesUnder_108 (fx_is F rfl) (fx_n (n := 3) F rfl) (vin (n := 0) (by decide)) ?_
            refine e_aload_n aX8_clashesUnder_109 rfl ?_
            refine e_getRF aX8_clashesUnder_110 fX8_46 rfl (fx_is F rfl) (fx_r (b := 75) F rfl) ?_
            refine e_iconst (v := 1) aX8_clashesUnder_113 (by decide) ?_
            refine e_iload aX8_clashesUnder_114 rfl ?_
            refine e_if_eq aX8_clashesUnder_116 (fun c116 => ?_) (fun c116 => absurd c116 (by decide))
            refine e_iload aX8_clashesUnder_123 rfl ?_
            refine e_iastoreF aX8_clashesUnder_125 (fx_is F rfl) (fx_n (n := 3) F rfl) (vin (n := 1) (by decide)) ?_
            refine e_aload_n aX8_clashesUnder_126 rfl ?_
            refine e_getRF aX8_clashesUnder_127 fX8_46 rfl (fx_is F rfl) (fx_r (b := 75) F rfl) ?_
            refine e_iconst (v := 2) aX8_clashesUnder_130 (by decide) ?_
            refine e_iload aX8_clashesUnder_131 rfl ?_
            refine e_if_eq aX8_clashesUnder_133 (fun c133 => ?_) (fun c133 => absurd c133 (by decide))
            refine e_iload aX8_clashesUnder_141 rfl ?_
            refine e_iastoreF aX8_clashesUnder_143 (fx_is F rfl) (fx_n (n := 3) F rfl) (vin (n := 2) (by decide)) ?_
            refine e_iconst (v := 1) aX8_clashesUnder_144 (by decide) ?_
            refine e_zreturn aX8_clashesUnder_145 rfl (by decide) (Nat.le_refl _) (Nat.le_refl _) ?_
            have hn : ncl D n d s = some (bz, w2) := by simp [ncl, hg, hw1, hbz, hw2]
            exact ⟨by rw [hn]; rfl, by rw [hn]; simp only [hbz, hw2]; rfl⟩
          · -- 81: not taken
            exact absurd (Int32.not_lt.mp c81) c69
        · -- 74: not taken
          have hw2 := (oI_lt cls_b).mp (Int32.not_le.mp c74)
          have hn : ncl D n d s = none := by simp [ncl, hg, hw1, hbz, hw2]
          refine e_iconst (v := 0) aX8_clashesUnder_77 (by decide) ?_
          refine e_zreturn aX8_clashesUnder_78 rfl (by decide) (Nat.le_refl _) (Nat.le_refl _) ?_
          exact ⟨by rw [hn]; rfl, by rw [hn]⟩
    · -- 40: not taken
      have q40 := (oI_lt (fun q hq => by have := (gb_ok w hq).1; omega)).mp (Int32.not_le.mp c40)
      refine e_iconst (v := -1) aX8_clashesUnder_43 (by decide) ?_
      refine e_goto aX8_clashesUnder_44 ?_
      refine e_istore aX8_clashesUnder_65 (Nat.le_of_ble_eq_true rfl) ?_
      refine e_iload aX8_clashesUnder_67 rfl ?_
      refine e_if_ge aX8_clashesUnder_69 (fun c69 => ?_) (fun c69 => ?_)
      · -- 69: taken
        obtain ⟨w1, hw1⟩ := (oI_ge cls_b).mp c69
        refine e_iload aX8_clashesUnder_79 rfl ?_
        refine e_if_lt aX8_clashesUnder_81 (fun c81 => ?_) (fun c81 => ?_)
        · -- 81: taken
          exact absurd c69 (Int32.not_le.mpr c81)
        · -- 81: not taken
          skip
          refine e_iload aX8_clashesUnder_84 rfl ?_
          refine e_if_lt aX8_clashesUnder_86 (fun c86 => ?_) (fun c86 => absurd c86 (by decide))
          have hn : ncl D n d s = some (g, w1) := by simp [ncl, hg, hw1, q40]
          refine e_iconst (v := 1) aX8_clashesUnder_95 (by decide) ?_
          refine e_goto aX8_clashesUnder_96 ?_
          refine e_istore aX8_clashesUnder_100 (Nat.le_of_ble_eq_true rfl) ?_
          refine e_aload_n aX8_clashesUnder_102 rfl ?_
          refine e_getRF aX8_clashesUnder_103 fX8_46 rfl (fx_is F rfl) (fx_r (b := 75) F rfl) ?_
          refine e_iconst (v := 0) aX8_clashesUnder_106 (by decide) ?_
          refine e_iload_n aX8_clashesUnder_107 rfl ?_
          refine e_iastoreF aX8_clashesUnder_108 (fx_is F rfl) (fx_n (n := 3) F rfl) (vin (n := 0) (by decide)) ?_
          refine e_aload_n aX8_clashesUnder_109 rfl ?_
          refine e_getRF aX8_clashesUnder_110 fX8_46 rfl (fx_is F rfl) (fx_r (b := 75) F rfl) ?_
          refine e_iconst (v := 1) aX8_clashesUnder_113 (by decide) ?_
          refine e_iload aX8_clashesUnder_114 rfl ?_
          refine e_if_eq aX8_clashesUnder_116 (fun c116 => absurd c116 (by decide)) (fun c116 => ?_)
          refine e_iload_n aX8_clashesUnder_119 rfl ?_
          refine e_goto aX8_clashesUnder_120 ?_
          refine e_iastoreF aX8_clashesUnder_125 (fx_is F rfl) (fx_n (n := 3) F rfl) (vin (n := 1) (by decide)) ?_
          refine e_aload_n aX8_clashesUnder_126 rfl ?_
          refine e_getRF aX8_clashesUnder_127 fX8_46 rfl (fx_is F rfl) (fx_r (b := 75) F rfl) ?_
          refine e_iconst (v := 2) aX8_clashesUnder_130 (by decide) ?_
          refine e_iload aX8_clashesUnder_131 rfl ?_
          refine e_if_eq aX8_clashesUnder_133 (fun c133 => absurd c133 (by decide)) (fun c133 => ?_)
          refine e_iload aX8_clashesUnder_136 rfl ?_
          refine e_goto aX8_clashesUnder_138 ?_
          refine e_iastoreF aX8_clashesUnder_143 (fx_is F rfl) (fx_n (n := 3) F rfl) (vin (n := 2) (by decide)) ?_
          refine e_iconst (v := 1) aX8_clashesUnder_144 (by decide) ?_
          refine e_zreturn aX8_clashesUnder_145 rfl (by decide) (Nat.le_refl _) (Nat.le_refl _) ?_
          exact ⟨by rw [hn]; rfl, by rw [hn]; simp only [hw1]; rfl⟩
      · -- 69: not taken
        have hw1 := (oI_lt cls_b).mp (Int32.not_le.mp c69)
        refine e_iload aX8_clashesUnder_72 rfl ?_
        refine e_if_ge aX8_clashesUnder_74 (fun c74 => absurd c74 (by decide)) (fun c74 => ?_)
        have hn : ncl D n d s = none := by simp [ncl, hg, hw1, q40]
        refine e_iconst (v := 0) aX8_clashesUnder_77 (by decide) ?_
        refine e_zreturn aX8_clashesUnder_78 rfl (by decide) (Nat.le_refl _) (Nat.le_refl _) ?_
        exact ⟨by rw [hn]; rfl, by rw [hn]⟩
  · -- 7: not taken
    have q7 := (oI_lt (gv_b w)).mp (Int32.not_le.mp c7)
    have hn : ncl D n d s = none := by simp [ncl, q7]
    refine e_iconst (v := 0) aX8_clashesUnder_10 (by decide) ?_
    refine e_zreturn aX8_clashesUnder_11 rfl (by decide) (Nat.le_refl _) (Nat.le_refl _) ?_
    exact ⟨by rw [hn]; rfl, by rw [hn]⟩
