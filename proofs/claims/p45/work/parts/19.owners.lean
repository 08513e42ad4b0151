/-! contracts: Owners (written by wip/p45/g19.py) -/
/-- other rows of Owners -/
def rwR (h : HP) (r : Nat → Int32) : HP := (fun a i => if a = 39 then r i else h.1 a i, h.2)
theorem rwR_I {h : HP} {r : Nat → Int32} {a i : Nat} (ha : a ≠ 39) : hI (rwR h r) a i = hI h a i := if_neg ha
theorem rwR_39 {h : HP} {r : Nat → Int32} {i : Nat} : hI (rwR h r) 39 i = r i := by unfold rwR; simp [hI]
theorem rwR_w {h : HP} {r r' : Nat → Int32} {j : Nat} {v : Int32} (e : ∀ i, r' i = if i = j then v else r i) : wI (rwR h r) 39 j v = rwR h r' := by
  unfold wI rwR
  congr 1
  funext a i
  unfold up2
  by_cases ha : a = 39
  · subst ha
    by_cases hi : i = j
    · subst hi; simp [e]
    · simp [hi, e]
  · simp [ha]
theorem rwR_0 {h : HP} {r : Nat → Int32} (e : ∀ i, r i = hI h 39 i) : h = rwR h r := by
  unfold rwR
  show (h.1, h.2) = _
  congr 1
  funext a i
  by_cases ha : a = 39
  · subst ha; rw [if_pos rfl, e]
  · rw [if_neg ha]
theorem Up.rw {h : HP} {r : Nat → Int32} : Up h (rwR h r) := ⟨Nat.le_refl _, fun a ha _ => ⟨fun j => ⟨if_neg (by omega), rfl, rfl⟩, rfl, rfl⟩⟩
/-- what a deal that comes leaves of a row -/
def stl (d : DD) (s : Nat) (x : Int32) : Int32 := match gv d s with
  | none => x
  | some g => match dO d with
    | none => gvr x g (dT d)
    | some b => gvr (gvr x g (dT d)) b (dF d)
/-- a run of rows -/
def rng (f e : Nat) (g : Nat → Int32 → Int32) (r : Nat → Int32) : Nat → Int32 := fun i => if f ≤ i ∧ i < e then g i (r i) else r i
theorem rng_s {f j : Nat} (hf : f ≤ j) (g : Nat → Int32 → Int32) (r : Nat → Int32) : ∀ i, rng f (j + 1) g r i = if i = j then g j (rng f j g r j) else rng f j g r i := by
  intro i
  unfold rng
  by_cases hi : i = j
  · subst hi
    rw [if_pos ⟨hf, by omega⟩, if_pos rfl, if_neg (by omega)]
  · rw [if_neg hi]
    by_cases h1 : f ≤ i ∧ i < j
    · rw [if_pos h1, if_pos ⟨h1.1, by omega⟩]
    · rw [if_neg h1, if_neg (by omega)]
theorem rng_0 (f : Nat) (g : Nat → Int32 → Int32) (r : Nat → Int32) : ∀ i, rng f f g r i = r i := fun i => if_neg (by omega)
theorem stl_dgt {d : DD} (w : dWf d) {s p : Nat} {x : Int32} (hp : p < 12) : dgt (stl d s x) p = match tk d s p with
  | some t => nI t
  | none => dgt x p := by
  unfold stl
  cases hg : gv d s with
  | none =>
    have : tk d s p = none := by
      unfold tk
      rw [hg]
      split <;> rfl
    rw [this]
  | some g =>
    have hgo := gv_ok w hg
    cases ho : dO d with
    | none =>
      have e : tk d s p = if g = p then some (dT d) else none := by
        unfold tk
        rw [ho, hg, if_neg (by simp)]
        by_cases h9 : g = p
        · rw [if_pos (by rw [h9]), if_pos h9]
        · rw [if_neg (fun z => h9 (Option.some.inj z)), if_neg h9]
      rw [e]
      dsimp only
      rw [dgt_give hgo.1 w.2.2.1 hp]
      by_cases h9 : g = p
      · rw [if_pos h9.symm, if_pos h9]
      · rw [if_neg (fun z => h9 z.symm), if_neg h9]
    | some b =>
      have hb := w.2.2.2.2.2.2.1 b ho
      have hgb : g ≠ b := by
        rcases hgo.2 with e | ⟨e, -⟩
        · rw [e]; exact fun z => hb.2.1 z.symm
        · have := w.2.2.2.2.2.1.mpr (by rw [ho]; rfl)
          omega
      dsimp only
      rw [dgt_give hb.1 w.2.1 hp, dgt_give hgo.1 w.2.2.1 hp]
      unfold tk
      rw [ho, hg]
      by_cases h9 : b = p
      · subst h9
        rw [if_pos rfl, if_pos rfl]
        rfl
      · rw [if_neg (fun z => h9 z.symm), if_neg (fun z => h9 (Option.some.inj z))]
        by_cases h8 : g = p
        · rw [if_pos h8.symm, if_pos (by rw [h8])]
        · rw [if_neg (fun z => h8 z.symm), if_neg (fun z => h8 (Option.some.inj z))]
theorem zX2_at (X : EX) {h : HP} (F : Fx h) {s p : Nat} (hs : s < 1296) (hp : p < 12) : Ct X mX2_at 0 0 0 [vR (some 38), vI (nI s), vI (nI p)] h (Rt (vI (dgt (hI h 39 s) p)) h) := by
  refine ct_of rfl (Nat.le_of_ble_eq_true rfl) ?_
  refine e_aload_n aX2_at_0 rfl ?_
  refine e_getRF aX2_at_1 fX2_9 rfl (fx_is F rfl) (fx_r (b := 39) F rfl) ?_
  refine e_iload_n aX2_at_4 rfl ?_
  refine e_ialoadF (x := hI h 39 s) aX2_at_5 (fx_is F rfl) (fx_n (n := 1296) F rfl) (vin (N := 1296) (by omega)) (by rw [cl (by omega)]) ?_
  refine e_iconst (v := 2) aX2_at_6 (by decide) ?_
  refine e_iload_n aX2_at_7 rfl ?_
  refine e_imul aX2_at_8 ?_
  refine e_top (nI_mul 2 _) ?_
  refine e_ishr aX2_at_9 ?_
  refine e_iconst (v := 3) aX2_at_10 (by decide) ?_
  refine e_iand aX2_at_11 ?_
  refine e_ireturn aX2_at_12 rfl (Nat.le_refl _) (Nat.le_refl _) ?_
  exact ⟨rfl, rfl⟩
theorem zX2_give (X : EX) {h : HP} (F : Fx h) {s p cz : Nat} (hs : s < 1296) (hp : p < 12) (hc : cz < 3) : Ct X mX2_give 0 0 0 [vR (some 38), vI (nI s), vI (nI p), vI (nI cz)] h (Rv (wI h 39 s (gvr (hI h 39 s) p cz))) := by
  refine ct_of rfl (Nat.le_of_ble_eq_true rfl) ?_
  refine e_aload_n aX2_give_0 rfl ?_
  refine e_getRF aX2_give_1 fX2_9 rfl (fx_is F rfl) (fx_r (b := 39) F rfl) ?_
  refine e_iload_n aX2_give_4 rfl ?_
  refine e_aload_n aX2_give_5 rfl ?_
  refine e_getRF aX2_give_6 fX2_9 rfl (fx_is F rfl) (fx_r (b := 39) F rfl) ?_
  refine e_iload_n aX2_give_9 rfl ?_
  refine e_ialoadF (x := hI h 39 s) aX2_give_10 (fx_is F rfl) (fx_n (n := 1296) F rfl) (vin (N := 1296) (by omega)) (by rw [cl (by omega)]) ?_
  refine e_iconst (v := 3) aX2_give_11 (by decide) ?_
  refine e_iconst (v := 2) aX2_give_12 (by decide) ?_
  refine e_iload_n aX2_give_13 rfl ?_
  refine e_imul aX2_give_14 ?_
  refine e_top (nI_mul 2 _) ?_
  refine e_ishl aX2_give_15 ?_
  refine e_iconst (v := -1) aX2_give_16 (by decide) ?_
  refine e_ixor aX2_give_17 ?_
  refine e_iand aX2_give_18 ?_
  refine e_iload_n aX2_give_19 rfl ?_
  refine e_iconst (v := 2) aX2_give_20 (by decide) ?_
  refine e_iload_n aX2_give_21 rfl ?_
  refine e_imul aX2_give_22 ?_
  refine e_top (nI_mul 2 _) ?_
  refine e_ishl aX2_give_23 ?_
  refine e_ior aX2_give_24 ?_
  refine e_iastoreF aX2_give_25 (fx_is F rfl) (fx_n (n := 1296) F rfl) (vin (N := 1296) (by omega)) ?_
  rw [cl (by omega)]
  refine e_return aX2_give_26 rfl (Nat.le_refl _) (Nat.le_refl _) ?_
  exact ⟨rfl, rfl⟩
theorem zX2_startAll (X : EX) {h : HP} (F : Fx h) {fz ez : Nat} (hf : fz ≤ ez) (he : ez ≤ 1296) : Ct X mX2_startAll 0 0 0 [vR (some 38), vI (nI fz), vI (nI ez)] h (Rv (rwR h (rng fz ez (fun _ _ => 9586980) (hI h 39)))) := by
  refine ct_of rfl (Nat.le_of_ble_eq_true rfl) ?_
  have loop : ∀ (m : Nat) (j : Nat), j + m = ez → fz ≤ j → Ev X mX2_startAll 0 0 0 (Rv (rwR h (rng fz ez (fun _ _ => 9586980) (hI h 39)))) 0 0 2 [(0, some (vR (some 38))), (1, some (vI (nI fz))), (2, some (vI (nI ez))), (3, some (vI (nI j)))] [] (rwR h (rng fz j (fun _ _ => 9586980) (hI h 39))) := by
    intro m
    induction m with
    | zero =>
      intro j hj hfj
      obtain rfl : ez = j := by omega
      refine e_iload_n aX2_startAll_2 rfl ?_
      refine e_iload_n aX2_startAll_3 rfl ?_
      refine e_icmp_ge aX2_startAll_4 (fun c4 => ?_) (fun c4 => ?_)
      · -- 4: taken
        refine e_return aX2_startAll_21 rfl (Nat.le_refl _) (Nat.le_refl _) ?_
        exact ⟨rfl, rfl⟩
      · -- 4: not taken
        exact absurd (nI_le (by omega) (by omega)) c4
    | succ m ih =>
      intro j hj hfj
      refine e_iload_n aX2_startAll_2 rfl ?_
      refine e_iload_n aX2_startAll_3 rfl ?_
      refine e_icmp_ge aX2_startAll_4 (fun c4 => ?_) (fun c4 => ?_)
      · -- 4: taken
        exact absurd c4 (nI_ge (by omega) (by omega))
      · -- 4: not taken
        refine e_aload_n aX2_startAll_7 rfl ?_
        refine e_getRF aX2_startAll_8 fX2_9 rfl (fx_is F rfl) (fx_r (b := 39) F rfl) ?_
        refine e_iload_n aX2_startAll_11 rfl ?_
        refine e_ldc aX2_startAll_12 lX2_15 ?_
        refine e_iastoreF aX2_startAll_14 (fx_is F rfl) (fx_n (n := 1296) F rfl) (vin (N := 1296) (by omega)) ?_
        rw [cl (by omega)]
        refine e_hp (h2 := (rwR h (rng fz (j + 1) (fun _ _ => 9586980) (hI h 39)))) (rwR_w (rng_s (by omega) _ _)) ?_
        refine e_iinc aX2_startAll_15 rfl rfl (Nat.le_of_ble_eq_true rfl) ?_
        refine e_goto aX2_startAll_18 ?_
        refine e_ls (ls' := [(0, some (vR (some 38))), (1, some (vI (nI fz))), (2, some (vI (nI ez))), (3, some (vI (nI (j + 1))))]) ⟨rfl, rfl, rfl, congrArg (fun x => some (vI x)) (nI_1 j), trivial⟩ ?_
        exact ih (j + 1) (by omega) (by omega)
  refine e_iload_n aX2_startAll_0 rfl ?_
  refine e_istore_n aX2_startAll_1 (Nat.le_of_ble_eq_true rfl) ?_
  refine e_ls (ls' := [(0, some (vR (some 38))), (1, some (vI (nI fz))), (2, some (vI (nI ez))), (3, some (vI (nI fz)))]) ⟨rfl, rfl, rfl, rfl, trivial⟩ ?_
  refine e_hp (h2 := (rwR h (rng fz fz (fun _ _ => 9586980) (hI h 39)))) (rwR_0 (rng_0 _ _ _)) ?_
  exact loop (ez - fz) fz (by omega) (Nat.le_refl _)
theorem zX2_settle (X : EX) {h : HP} (F : Fx h) {a : Nat} {d : DD} (k : DealC h a d) {fz ez : Nat} (hf : fz ≤ ez) (he : ez ≤ 1296) : Ct X mX2_settle 2 0 0 [vR (some 38), vR (some a), vI (nI fz), vI (nI ez)] h (Rv (rwR h (rng fz ez (stl d) (hI h 39)))) := by
  refine ct_of rfl (Nat.le_of_ble_eq_true rfl) ?_
  have w := k.2.2.1
  have loop : ∀ (m : Nat) (j : Nat), j + m = ez → fz ≤ j → Ev X mX2_settle 2 0 0 (Rv (rwR h (rng fz ez (stl d) (hI h 39)))) 0 0 8 [(0, some (vR (some 38))), (1, some (vR (some a))), (2, some (vI (nI fz))), (3, some (vI (nI ez))), (4, some (vI (nI j)))] [] (rwR h (rng fz j (stl d) (hI h 39))) := by
    intro m
    induction m with
    | zero =>
      intro j hj hfj
      obtain rfl : ez = j := by omega
      refine e_iload aX2_settle_8 rfl ?_
      refine e_iload_n aX2_settle_10 rfl ?_
      refine e_icmp_ge aX2_settle_11 (fun c11 => ?_) (fun c11 => ?_)
      · -- 11: taken
        refine e_return aX2_settle_66 rfl (Nat.le_refl _) (Nat.le_refl _) ?_
        exact ⟨rfl, rfl⟩
      · -- 11: not taken
        exact absurd (nI_le (by omega) (by omega)) c11
    | succ m ih =>
      intro j hj hfj
      have kd : DealC (rwR h (rng fz j (stl d) (hI h 39))) a d := k.up Up.rw
      refine e_iload aX2_settle_8 rfl ?_
      refine e_iload_n aX2_settle_10 rfl ?_
      refine e_icmp_ge aX2_settle_11 (fun c11 => ?_) (fun c11 => ?_)
      · -- 11: taken
        exact absurd c11 (nI_ge (by omega) (by omega))
      · -- 11: not taken
        refine e_aload_n aX2_settle_14 rfl ?_
        refine e_iload aX2_settle_15 rfl ?_
        refine e_invvT aX2_settle_17 kX2_16 (zX1_gives X kd (by omega)) rfl rfl kd.2.1 (Nat.le_of_ble_eq_true rfl) (Nat.le_of_ble_eq_true rfl) (Nat.le_refl _) (Nat.le_refl _) (Nat.le_of_ble_eq_true rfl) ?_
        refine e_istore aX2_settle_20 (Nat.le_of_ble_eq_true rfl) ?_
        refine e_iload aX2_settle_22 rfl ?_
        refine e_if_lt aX2_settle_24 (fun c24 => ?_) (fun c24 => ?_)
        · -- 24: taken
          have q24 := (oI_lt (gv_b w)).mp c24
          have hfin : (rwR h (rng fz j (stl d) (hI h 39))) = (rwR h (rng fz (j + 1) (stl d) (hI h 39))) := by
            congr 1
            funext i
            rw [rng_s (by omega)]
            by_cases hi9 : i = j
            · subst hi9
              rw [if_pos rfl]
              unfold stl
              rw [q24]
            · rw [if_neg hi9]
          refine e_iinc aX2_settle_60 rfl rfl (Nat.le_of_ble_eq_true rfl) ?_
          refine e_goto aX2_settle_63 ?_
          refine e_hp (h2 := (rwR h (rng fz (j + 1) (stl d) (hI h 39)))) hfin ?_
          refine e_ls (ls' := [(0, some (vR (some 38))), (1, some (vR (some a))), (2, some (vI (nI fz))), (3, some (vI (nI ez))), (4, some (vI (nI (j + 1))))]) ⟨rfl, rfl, rfl, rfl, congrArg (fun x => some (vI x)) (nI_1 j), trivial⟩ ?_
          exact ih (j + 1) (by omega) (by omega)
        · -- 24: not taken
          have q24 := (not_congr (oI_lt (gv_b w))).mp c24
          obtain ⟨g, hg⟩ := Option.ne_none_iff_exists'.mp q24
          rw [hg]
          have hgl := (gv_ok w hg).1
          refine e_aload_n aX2_settle_27 rfl ?_
          refine e_iload aX2_settle_28 rfl ?_
          refine e_iload aX2_settle_30 rfl ?_
          refine e_aload_n aX2_settle_32 rfl ?_
          refine e_getIF aX2_settle_33 fX2_22 rfl kd.2.1 kd.2.2.2.2.2.1 ?_
          refine e_invvV aX2_settle_36 kX2_26 (zX2_give X (h := (rwR h (rng fz j (stl d) (hI h 39)))) F (by omega) hgl w.2.2.1) rfl rfl (fx_is F rfl) (Nat.le_of_ble_eq_true rfl) (Nat.le_of_ble_eq_true rfl) (Nat.le_refl _) (Nat.le_refl _) (Nat.le_of_ble_eq_true rfl) ?_
          have kd2 := DealC.up (Up.wI (h := (rwR h (rng fz j (stl d) (hI h 39)))) (b := 39) (i := j) (v := gvr (hI (rwR h (rng fz j (stl d) (hI h 39))) 39 j) g (dT d)) (by decide)) kd
          refine e_aload_n aX2_settle_39 rfl ?_
          refine e_getIF aX2_settle_40 fX2_30 rfl kd2.2.1 kd2.2.2.2.2.2.2.2.1 ?_
          refine e_if_lt aX2_settle_43 (fun c43 => ?_) (fun c43 => ?_)
          · -- 43: taken
            have q43 := (oI_lt (dO_b w)).mp c43
            have hfin : wI (rwR h (rng fz j (stl d) (hI h 39))) 39 j (gvr (hI (rwR h (rng fz j (stl d) (hI h 39))) 39 j) g (dT d)) = (rwR h (rng fz (j + 1) (stl d) (hI h 39))) := by
              refine rwR_w (fun i => ?_)
              rw [rng_s (by omega)]
              by_cases hi9 : i = j
              · subst hi9
                rw [if_pos rfl, if_pos rfl, rwR_39]
                unfold stl
                rw [hg, q43]
              · rw [if_neg hi9, if_neg hi9]
            refine e_iinc aX2_settle_60 rfl rfl (Nat.le_of_ble_eq_true rfl) ?_
            refine e_goto aX2_settle_63 ?_
            refine e_hp (h2 := (rwR h (rng fz (j + 1) (stl d) (hI h 39)))) hfin ?_
            refine e_ls (ls' := [(0, some (vR (some 38))), (1, some (vR (some a))), (2, some (vI (nI fz))), (3, some (vI (nI ez))), (4, some (vI (nI (j + 1))))]) ⟨rfl, rfl, rfl, rfl, congrArg (fun x => some (vI x)) (nI_1 j), trivial⟩ ?_
            exact ih (j + 1) (by omega) (by omega)
          · -- 43: not taken
            have q43 := (not_congr (oI_lt (dO_b w))).mp c43
            obtain ⟨b, hb⟩ := Option.ne_none_iff_exists'.mp q43
            have hbl := (w.2.2.2.2.2.2.1 b hb).1
            refine e_aload_n aX2_settle_46 rfl ?_
            refine e_iload aX2_settle_47 rfl ?_
            refine e_aload_n aX2_settle_49 rfl ?_
            refine e_getIF aX2_settle_50 fX2_30 rfl kd2.2.1 (kd2.2.2.2.2.2.2.2.1.trans (congrArg oI hb)) ?_
            refine e_aload_n aX2_settle_53 rfl ?_
            refine e_getIF aX2_settle_54 fX2_33 rfl kd2.2.1 kd2.2.2.2.2.1 ?_
            refine e_invvV aX2_settle_57 kX2_26 (zX2_give X (h := wI (rwR h (rng fz j (stl d) (hI h 39))) 39 j (gvr (hI (rwR h (rng fz j (stl d) (hI h 39))) 39 j) g (dT d))) F (by omega) hbl w.2.1) rfl rfl (fx_is F rfl) (Nat.le_of_ble_eq_true rfl) (Nat.le_of_ble_eq_true rfl) (Nat.le_refl _) (Nat.le_refl _) (Nat.le_of_ble_eq_true rfl) ?_
            have hfin : wI (wI (rwR h (rng fz j (stl d) (hI h 39))) 39 j (gvr (hI (rwR h (rng fz j (stl d) (hI h 39))) 39 j) g (dT d))) 39 j (gvr (hI (wI (rwR h (rng fz j (stl d) (hI h 39))) 39 j (gvr (hI (rwR h (rng fz j (stl d) (hI h 39))) 39 j) g (dT d))) 39 j) b (dF d)) = (rwR h (rng fz (j + 1) (stl d) (hI h 39))) := by
              have e1 : wI (rwR h (rng fz j (stl d) (hI h 39))) 39 j (gvr (hI (rwR h (rng fz j (stl d) (hI h 39))) 39 j) g (dT d)) = rwR h (fun i => if i = j then gvr (hI (rwR h (rng fz j (stl d) (hI h 39))) 39 j) g (dT d) else rng fz j (stl d) (hI h 39) i) := rwR_w (fun _ => rfl)
              rw [e1]
              refine rwR_w (fun i => ?_)
              rw [rng_s (by omega)]
              by_cases hi9 : i = j
              · subst hi9
                rw [if_pos rfl, if_pos rfl, rwR_39, if_pos rfl, rwR_39]
                unfold stl
                rw [hg, hb]
              · rw [if_neg hi9, if_neg hi9, if_neg hi9]
            refine e_iinc aX2_settle_60 rfl rfl (Nat.le_of_ble_eq_true rfl) ?_
            refine e_goto aX2_settle_63 ?_
            refine e_hp (h2 := (rwR h (rng fz (j + 1) (stl d) (hI h 39)))) hfin ?_
            refine e_ls (ls' := [(0, some (vR (some 38))), (1, some (vR (some a))), (2, some (vI (nI fz))), (3, some (vI (nI ez))), (4, some (vI (nI (j + 1))))]) ⟨rfl, rfl, rfl, rfl, congrArg (fun x => some (vI x)) (nI_1 j), trivial⟩ ?_
            exact ih (j + 1) (by omega) (by omega)
  refine e_aload_n aX2_settle_0 rfl ?_
  refine e_ifnonnull aX2_settle_1 (fun r1 c1 => ?_) (fun c1 => ?_)
  · -- 1: taken
    refine e_iload_n aX2_settle_5 rfl ?_
    refine e_istore aX2_settle_6 (Nat.le_of_ble_eq_true rfl) ?_
    refine e_ls (ls' := [(0, some (vR (some 38))), (1, some (vR (some a))), (2, some (vI (nI fz))), (3, some (vI (nI ez))), (4, some (vI (nI fz)))]) ⟨rfl, rfl, rfl, rfl, rfl, trivial⟩ ?_
    refine e_hp (h2 := (rwR h (rng fz fz (stl d) (hI h 39)))) (rwR_0 (rng_0 _ _ _)) ?_
    exact loop (ez - fz) fz (by omega) (Nat.le_refl _)
  · -- 1: not taken
    exact absurd c1 (by simp)
