/-! the reference: owners laid and judged, spots, the tape fed (written by wip/whole/g62.py) -/
/-- owners laid in a sheet: ints change as scratch alone, numbers of the sheet become owners -/
def lyQ (h0 h : HP) (x : Nat) (W : Nat → Nat) (k : Nat) : Prop := (∀ a i, ¬ sc0 a i → hI h a i = hI h0 a i) ∧ h.2.2 = h0.2.2 ∧ ∀ a i, hL h a i = if a = 124 ∧ 40 * x ≤ i ∧ i < 40 * x + k then (nI (W (i - 40 * x))).toInt64 else hL h0 a i
theorem lyQ_s {h0 h h2 : HP} {x k : Nat} {W : Nat → Nat} (q : lyQ h0 h x W k) (S : Sf sc1 h h2) : lyQ h0 (wL h2 124 (40 * x + k) (nI (W k)).toInt64) x W (k + 1) := by
  obtain ⟨q1, q2, q3⟩ := q
  have e2 : hL h2 = hL h := congrArg (fun z => z.1) S.1
  refine ⟨fun a i z => (S.2 a i (fun w => z (Or.inr w))).trans (q1 a i z), (congrArg (fun z => z.2) S.1).trans q2, fun a i => ?_⟩
  show (if a = 124 ∧ i = 40 * x + k then (nI (W k)).toInt64 else hL h2 a i) = _
  by_cases z : a = 124 ∧ i = 40 * x + k
  · rw [if_pos z, if_pos (by omega), z.2, Nat.add_sub_cancel_left]
  · rw [if_neg z, e2, q3]
    by_cases w : a = 124 ∧ 40 * x ≤ i ∧ i < 40 * x + k
    · rw [if_pos w, if_pos (by omega)]
    · rw [if_neg w, if_neg (by omega)]
theorem lyQ_F {h0 h : HP} {x k : Nat} {W : Nat → Nat} (q : lyQ h0 h x W k) (F : Fx h0) : Fx h := by
  unfold Fx
  rw [q.2.1]
  exact F
theorem lyQ_0 {h0 h : HP} {x : Nat} {W : Nat → Nat} (S : Sc h0 h) : lyQ h0 h x W 0 := ⟨S.2, congrArg (fun z => z.2) S.1, fun a i => by
  rw [if_neg (by omega)]
  exact congrFun (congrFun (congrArg (fun z => z.1) S.1) a) i⟩
theorem MkD.cg {h h2 : HP} {n : Nat} {D : Nat → DD} (q : MkD h n D) (e : ∀ a i, ¬ sc0 a i → hI h2 a i = hI h a i) : MkD h2 n D := q.keep ((e _ _ (by unfold sc0; omega)).trans q.1) (fun i _ => e _ _ (by unfold sc0; omega)) (fun i _ => e _ _ (by unfold sc0; omega))
theorem zX9_lays_ (X : EX) {h0 : HP} (F0 : Fx h0) {f n : Nat} {o : Nat → Nat} {D : Nat → DD} (mf0 : MkF h0 f o) (md0 : MkD h0 n D) {tS : Nat → Int32} {qS : Nat → Nat} (hS : ShM h0 tS qS) (x y : Int32) : Ct X mX9_lays_ 7 0 0 [vR (some 109), vI x, vI y] h0 (if x < 0 ∨ 4 ≤ x then RM h0 0 else if nI (fo o f) ≤ y ∧ y < nI (fo o f + om f) then (if tS x.toNatClampNeg = -1 then RM h0 5 else fun v h' => v = some (vI (nI (min (qS x.toNatClampNeg) 12))) ∧ lyQ h0 h' x.toNatClampNeg (fun p => owR D n y.toNatClampNeg p) (min (qS x.toNatClampNeg) 12)) else RM h0 0) := by
  refine ct_of rfl (Nat.le_of_ble_eq_true rfl) ?_
  have F := F0
  have md := md0
  have mf := mf0
  have hn12 := md0.2.1
  have hf4 := mf0.2.1
  have hb6 := om_fo mf0.2.1 mf0.2.2.2
  have hom := om_pos mf0.2.1
  refine e_iload_n aX9_lays__0 rfl ?_
  refine e_invsT aX9_lays__1 kX9_343 (zX9_isSheet X _) rfl rfl (Nat.le_of_ble_eq_true rfl) (Nat.le_of_ble_eq_true rfl) (Nat.le_refl _) (Nat.le_refl _) (Nat.le_of_ble_eq_true rfl) ?_
  refine e_if_eq aX9_lays__4 (fun c4 => ?_) (fun c4 => ?_)
  · -- 4: taken
    have q4 := Decidable.of_not_not (b2_0.mp c4)
    refine e_aload_n aX9_lays__15 rfl ?_
    refine e_iconst (v := 0) aX9_lays__16 (by decide) ?_
    refine e_invvT aX9_lays__17 kX9_128 (zX9_finds X F (k := 0) (by decide)) rfl rfl (fx_is F rfl) (Nat.le_of_ble_eq_true rfl) (Nat.le_of_ble_eq_true rfl) (Nat.le_refl _) (Nat.le_refl _) (Nat.le_of_ble_eq_true rfl) ?_
    refine e_ireturn aX9_lays__20 rfl (Nat.le_refl _) (Nat.le_refl _) ?_
    rw [if_pos q4]
    exact ⟨rfl, rfl⟩
  · -- 4: not taken
    have q4 := Decidable.of_not_not (fun z => c4 (b2_0.mpr z))
    refine e_aload_n aX9_lays__7 rfl ?_
    refine e_iload_n aX9_lays__8 rfl ?_
    refine e_invvT aX9_lays__9 kX9_222 (zX9_isOpen X F mf _) rfl rfl (fx_is F rfl) (Nat.le_of_ble_eq_true rfl) (Nat.le_of_ble_eq_true rfl) (Nat.le_refl _) (Nat.le_refl _) (Nat.le_of_ble_eq_true rfl) ?_
    refine e_if_ne aX9_lays__12 (fun c12 => ?_) (fun c12 => ?_)
    · -- 12: taken
      have q12 := Decidable.of_not_not (fun z => c12 (b2_0.mpr z))
      obtain ⟨xz, hx4, rfl⟩ := ou_of 4 (by decide) q4
      obtain ⟨e1, e2, e3, e4⟩ := hS xz hx4
      obtain ⟨sz, hs1, hs2, rfl⟩ := opn_of (Nat.le_add_right _ _) hb6 q12
      refine e_aload_n aX9_lays__21 rfl ?_
      refine e_getRF aX9_lays__22 fX9_52 rfl (fx_is F rfl) (fx_r (b := 122) F rfl) ?_
      refine e_iload_n aX9_lays__25 rfl ?_
      refine e_ialoadF aX9_lays__26 (fx_is F rfl) (fx_n (n := 4) F rfl) (vin (N := 4) hx4) (show hI h0 122 (nI xz).toNatClampNeg = tS xz by rw [cl (by omega)]; exact e1) ?_
      refine e_if_ge aX9_lays__27 (fun c27 => ?_) (fun c27 => ?_)
      · -- 27: taken
        have q27 : ¬ tS xz = -1 := fun z => absurd (show ¬ (0 : Int32) ≤ tS xz by rw [z]; decide) (fun w => w c27)
        rw [if_neg q4, if_pos q12, cl (n := xz) (by omega), cl (n := sz) (by omega), if_neg q27]
        have loop : ∀ (m : Nat) (k : Nat) (hz : HP), k + m = min (qS xz) 12 → lyQ h0 hz xz (fun p => owR D n sz p) k → LsC hz n D sz → Ev X mX9_lays_ 7 0 0 (fun v h' => v = some (vI (nI (min (qS xz) 12))) ∧ lyQ h0 h' xz (fun p => owR D n sz p) (min (qS xz) 12)) 0 0 43 [(0, some (vR (some 109))), (1, some (vI (nI xz))), (2, some (vI (nI sz))), (3, some (vI (nI k)))] [] hz := by
          intro m
          induction m with
          | zero =>
            intro k hz hk q LZ
            rw [Nat.add_zero] at hk
            have F := lyQ_F q F0
            refine e_iload_n aX9_lays__43 rfl ?_
            refine e_bipush (v := 12) aX9_lays__44 (by decide) ?_
            refine e_icmp_ge aX9_lays__46 (fun c46 => ?_) (fun c46 => ?_)
            · -- 46: taken
              refine e_iload_n aX9_lays__82 rfl ?_
              refine e_ireturn aX9_lays__83 rfl (Nat.le_refl _) (Nat.le_refl _) ?_
              exact ⟨congrArg (fun j => some (vI (nI j))) hk, by rw [← hk]; exact q⟩
            · -- 46: not taken
              have hk12 : k < 12 := by
                rcases Nat.lt_or_ge k 12 with z | z
                · exact z
                · exact absurd (nI_le (a := 12) (b := k) (by omega) (by omega)) c46
              refine e_iload_n aX9_lays__49 rfl ?_
              refine e_aload_n aX9_lays__50 rfl ?_
              refine e_getRF aX9_lays__51 fX9_55 rfl (fx_is F rfl) (fx_r (b := 123) F rfl) ?_
              refine e_iload_n aX9_lays__54 rfl ?_
              refine e_ialoadF aX9_lays__55 (fx_is F rfl) (fx_n (n := 4) F rfl) (vin (N := 4) hx4) (show hI hz 123 (nI xz).toNatClampNeg = nI (qS xz) by rw [cl (by omega)]; exact (q.1 _ _ (by unfold sc0; omega)).trans e2) ?_
              refine e_icmp_ge aX9_lays__56 (fun c56 => ?_) (fun c56 => ?_)
              · -- 56: taken
                refine e_iload_n aX9_lays__82 rfl ?_
                refine e_ireturn aX9_lays__83 rfl (Nat.le_refl _) (Nat.le_refl _) ?_
                exact ⟨congrArg (fun j => some (vI (nI j))) hk, by rw [← hk]; exact q⟩
              · -- 56: not taken
                exact absurd (nI_le (a := qS xz) (b := k) (by omega) (by omega)) c56
          | succ m ih =>
            intro k hz hk q LZ
            have F := lyQ_F q F0
            have md := md0.cg q.1
            refine e_iload_n aX9_lays__43 rfl ?_
            refine e_bipush (v := 12) aX9_lays__44 (by decide) ?_
            refine e_icmp_ge aX9_lays__46 (fun c46 => ?_) (fun c46 => ?_)
            · -- 46: taken
              exact absurd c46 (nI_ge (a := k) (b := 12) (by omega) (by decide))
            · -- 46: not taken
              refine e_iload_n aX9_lays__49 rfl ?_
              refine e_aload_n aX9_lays__50 rfl ?_
              refine e_getRF aX9_lays__51 fX9_55 rfl (fx_is F rfl) (fx_r (b := 123) F rfl) ?_
              refine e_iload_n aX9_lays__54 rfl ?_
              refine e_ialoadF aX9_lays__55 (fx_is F rfl) (fx_n (n := 4) F rfl) (vin (N := 4) hx4) (show hI hz 123 (nI xz).toNatClampNeg = nI (qS xz) by rw [cl (by omega)]; exact (q.1 _ _ (by unfold sc0; omega)).trans e2) ?_
              refine e_icmp_ge aX9_lays__56 (fun c56 => ?_) (fun c56 => ?_)
              · -- 56: taken
                exact absurd c56 (nI_ge (by omega) (by omega))
              · -- 56: not taken
                refine e_aload_n aX9_lays__59 rfl ?_
                refine e_getRF aX9_lays__60 fX9_58 rfl (fx_is F rfl) (fx_r (b := 124) F rfl) ?_
                refine e_bipush (v := 40) aX9_lays__63 (by decide) ?_
                refine e_iload_n aX9_lays__65 rfl ?_
                refine e_imul aX9_lays__66 ?_
                refine e_top (nI_mul 40 xz) ?_
                refine e_iload_n aX9_lays__67 rfl ?_
                refine e_iadd aX9_lays__68 ?_
                refine e_top (nI_add _ _) ?_
                refine e_aload_n aX9_lays__69 rfl ?_
                refine e_iload_n aX9_lays__70 rfl ?_
                refine e_invv aX9_lays__71 kX9_219 (zX9_ownerOf X F md LZ (p := k) (by omega)) rfl rfl (fx_is F rfl) (Nat.le_of_ble_eq_true rfl) (Nat.le_of_ble_eq_true rfl) (Nat.le_refl _) (Nat.le_refl _) (Nat.le_of_ble_eq_true rfl) ?_
                rintro v h2 ⟨rfl, S1⟩
                have F := S1.F F
                refine e_i2l aX9_lays__74 ?_
                refine e_lastoreF aX9_lays__75 (fx_is F rfl) (fx_n (n := 160) F rfl) (vin (N := 160) (by omega)) ?_
                rw [cl (by omega)]
                refine e_iinc aX9_lays__76 rfl rfl (Nat.le_of_ble_eq_true rfl) ?_
                refine e_goto aX9_lays__79 ?_
                refine e_ls (ls' := [(0, some (vR (some 109))), (1, some (vI (nI xz))), (2, some (vI (nI sz))), (3, some (vI (nI (k + 1))))]) ⟨rfl, rfl, rfl, congrArg (fun x => some (vI x)) (nI_1 k), trivial⟩ ?_
                exact ih (k + 1) (wL h2 124 (40 * xz + k) (nI (owR D n sz k)).toInt64) (by omega) (lyQ_s q S1) (fun j hj w hw => (LZ.c1 S1) j hj w hw)
        refine e_aload_n aX9_lays__36 rfl ?_
        refine e_iload_n aX9_lays__37 rfl ?_
        refine e_invv aX9_lays__38 kX9_170 (zX9_laysOut X F md (s := sz) (by omega)) rfl rfl (fx_is F rfl) (Nat.le_of_ble_eq_true rfl) (Nat.le_of_ble_eq_true rfl) (Nat.le_refl _) (Nat.le_refl _) (Nat.le_of_ble_eq_true rfl) ?_
        rintro v h2 ⟨rfl, S, LZ⟩
        have F := S.F F0
        refine e_iconst (v := 0) aX9_lays__41 (by decide) ?_
        refine e_istore_n aX9_lays__42 (Nat.le_of_ble_eq_true rfl) ?_
        refine e_ls (ls' := [(0, some (vR (some 109))), (1, some (vI (nI xz))), (2, some (vI (nI sz))), (3, some (vI (nI 0)))]) ⟨rfl, rfl, rfl, rfl, trivial⟩ ?_
        exact loop (min (qS xz) 12) 0 h2 (by omega) (lyQ_0 S) LZ
      · -- 27: not taken
        have q27 : tS xz = -1 := by
          rcases e3 with z | z | z | z
          · exact z
          all_goals exact absurd (show (0 : Int32) ≤ tS xz by rw [z]; decide) c27
        refine e_aload_n aX9_lays__30 rfl ?_
        refine e_iconst (v := 5) aX9_lays__31 (by decide) ?_
        refine e_invvT aX9_lays__32 kX9_128 (zX9_finds X F (k := 5) (by decide)) rfl rfl (fx_is F rfl) (Nat.le_of_ble_eq_true rfl) (Nat.le_of_ble_eq_true rfl) (Nat.le_refl _) (Nat.le_refl _) (Nat.le_of_ble_eq_true rfl) ?_
        refine e_ireturn aX9_lays__35 rfl (Nat.le_refl _) (Nat.le_refl _) ?_
        rw [if_neg q4, if_pos q12, cl (n := xz) (by omega), if_pos q27]
        exact ⟨rfl, rfl⟩
    · -- 12: not taken
      have q12 := b2_0.mp c12
      refine e_aload_n aX9_lays__15 rfl ?_
      refine e_iconst (v := 0) aX9_lays__16 (by decide) ?_
      refine e_invvT aX9_lays__17 kX9_128 (zX9_finds X F (k := 0) (by decide)) rfl rfl (fx_is F rfl) (Nat.le_of_ble_eq_true rfl) (Nat.le_of_ble_eq_true rfl) (Nat.le_refl _) (Nat.le_refl _) (Nat.le_of_ble_eq_true rfl) ?_
      refine e_ireturn aX9_lays__20 rfl (Nat.le_refl _) (Nat.le_refl _) ?_
      rw [if_neg q4, if_neg q12]
      exact ⟨rfl, rfl⟩
/-- the first number that isn't the owner -/
def jgB (h : HP) (x : Nat) (W : Nat → Nat) (p : Nat) : Bool := decide (¬ lg_cmp (hL h 124 (40 * x + p)) (nI (W p)).toInt64 = 0)
def jgR (h : HP) (x q : Nat) (W : Nat → Nat) : Int32 := match frW (jgB h x W) 0 (min q 12) with
  | some p => nI (1 + p)
  | none => if q = 12 then 0 else nI (1 + min q 12)
theorem zX9_judge (X : EX) {h0 : HP} (F0 : Fx h0) {f n : Nat} {o : Nat → Nat} {D : Nat → DD} (mf0 : MkF h0 f o) (md0 : MkD h0 n D) {tS : Nat → Int32} {qS : Nat → Nat} (hS : ShM h0 tS qS) (x y : Int32) : Ct X mX9_judge 7 0 0 [vR (some 109), vI x, vI y] h0 (if x < 0 ∨ 4 ≤ x then RM h0 0 else if nI (fo o f) ≤ y ∧ y < nI (fo o f + om f) then (if tS x.toNatClampNeg = -1 then RM h0 5 else RSc (vI (jgR h0 x.toNatClampNeg (qS x.toNatClampNeg) (fun p => owR D n y.toNatClampNeg p))) h0) else RM h0 0) := by
  refine ct_of rfl (Nat.le_of_ble_eq_true rfl) ?_
  have F := F0
  have md := md0
  have mf := mf0
  have hn12 := md0.2.1
  have hf4 := mf0.2.1
  have hb6 := om_fo mf0.2.1 mf0.2.2.2
  have hom := om_pos mf0.2.1
  refine e_iload_n aX9_judge_0 rfl ?_
  refine e_invsT aX9_judge_1 kX9_343 (zX9_isSheet X _) rfl rfl (Nat.le_of_ble_eq_true rfl) (Nat.le_of_ble_eq_true rfl) (Nat.le_refl _) (Nat.le_refl _) (Nat.le_of_ble_eq_true rfl) ?_
  refine e_if_eq aX9_judge_4 (fun c4 => ?_) (fun c4 => ?_)
  · -- 4: taken
    have q4 := Decidable.of_not_not (b2_0.mp c4)
    refine e_aload_n aX9_judge_15 rfl ?_
    refine e_iconst (v := 0) aX9_judge_16 (by decide) ?_
    refine e_invvT aX9_judge_17 kX9_128 (zX9_finds X F (k := 0) (by decide)) rfl rfl (fx_is F rfl) (Nat.le_of_ble_eq_true rfl) (Nat.le_of_ble_eq_true rfl) (Nat.le_refl _) (Nat.le_refl _) (Nat.le_of_ble_eq_true rfl) ?_
    refine e_ireturn aX9_judge_20 rfl (Nat.le_refl _) (Nat.le_refl _) ?_
    rw [if_pos q4]
    exact ⟨rfl, rfl⟩
  · -- 4: not taken
    have q4 := Decidable.of_not_not (fun z => c4 (b2_0.mpr z))
    refine e_aload_n aX9_judge_7 rfl ?_
    refine e_iload_n aX9_judge_8 rfl ?_
    refine e_invvT aX9_judge_9 kX9_222 (zX9_isOpen X F mf _) rfl rfl (fx_is F rfl) (Nat.le_of_ble_eq_true rfl) (Nat.le_of_ble_eq_true rfl) (Nat.le_refl _) (Nat.le_refl _) (Nat.le_of_ble_eq_true rfl) ?_
    refine e_if_ne aX9_judge_12 (fun c12 => ?_) (fun c12 => ?_)
    · -- 12: taken
      have q12 := Decidable.of_not_not (fun z => c12 (b2_0.mpr z))
      obtain ⟨xz, hx4, rfl⟩ := ou_of 4 (by decide) q4
      obtain ⟨e1, e2, e3, e4⟩ := hS xz hx4
      obtain ⟨sz, hs1, hs2, rfl⟩ := opn_of (Nat.le_add_right _ _) hb6 q12
      refine e_aload_n aX9_judge_21 rfl ?_
      refine e_getRF aX9_judge_22 fX9_52 rfl (fx_is F rfl) (fx_r (b := 122) F rfl) ?_
      refine e_iload_n aX9_judge_25 rfl ?_
      refine e_ialoadF aX9_judge_26 (fx_is F rfl) (fx_n (n := 4) F rfl) (vin (N := 4) hx4) (show hI h0 122 (nI xz).toNatClampNeg = tS xz by rw [cl (by omega)]; exact e1) ?_
      refine e_if_ge aX9_judge_27 (fun c27 => ?_) (fun c27 => ?_)
      · -- 27: taken
        have q27 : ¬ tS xz = -1 := fun z => absurd (show ¬ (0 : Int32) ≤ tS xz by rw [z]; decide) (fun w => w c27)
        rw [if_neg q4, if_pos q12, cl (n := xz) (by omega), cl (n := sz) (by omega), if_neg q27]
        have loop : ∀ (m : Nat) (k : Nat) (hz : HP), k + m = min (qS xz) 12 → Sc h0 hz → LsC hz n D sz → frW (jgB h0 xz (fun p => owR D n sz p)) k m = frW (jgB h0 xz (fun p => owR D n sz p)) 0 (min (qS xz) 12) → Ev X mX9_judge 7 0 0 (RSc (vI (jgR h0 xz (qS xz) (fun p => owR D n sz p))) h0) 0 0 43 [(0, some (vR (some 109))), (1, some (vI (nI xz))), (2, some (vI (nI sz))), (3, some (vI (nI k)))] [] hz := by
          intro m
          induction m with
          | zero =>
            intro k hz hk S LZ hR
            rw [Nat.add_zero] at hk
            have F := S.F F0
            refine e_iload_n aX9_judge_43 rfl ?_
            refine e_bipush (v := 12) aX9_judge_44 (by decide) ?_
            refine e_icmp_ge aX9_judge_46 (fun c46 => ?_) (fun c46 => ?_)
            · -- 46: taken
              refine e_iload_n aX9_judge_86 rfl ?_
              refine e_bipush (v := 12) aX9_judge_87 (by decide) ?_
              refine e_icmp_ne aX9_judge_89 (fun c89 => ?_) (fun c89 => ?_)
              · -- 89: taken
                refine e_iconst (v := 1) aX9_judge_106 (by decide) ?_
                refine e_iload_n aX9_judge_107 rfl ?_
                refine e_iadd aX9_judge_108 ?_
                refine e_top (nI_add 1 k) ?_
                refine e_ireturn aX9_judge_109 rfl (Nat.le_refl _) (Nat.le_refl _) ?_
                have n12 : ¬ k = 12 := fun z => c89 (by rw [z]; rfl)
                exact ⟨by unfold jgR; rw [← hR]; show _ = some (vI (if qS xz = 12 then 0 else nI (1 + min (qS xz) 12))); rw [if_neg (by omega), ← hk], S⟩
              · -- 89: not taken
                refine e_iload_n aX9_judge_92 rfl ?_
                refine e_aload_n aX9_judge_93 rfl ?_
                refine e_getRF aX9_judge_94 fX9_55 rfl (fx_is F rfl) (fx_r (b := 123) F rfl) ?_
                refine e_iload_n aX9_judge_97 rfl ?_
                refine e_ialoadF aX9_judge_98 (fx_is F rfl) (fx_n (n := 4) F rfl) (vin (N := 4) hx4) (show hI hz 123 (nI xz).toNatClampNeg = nI (qS xz) by rw [cl (by omega)]; exact (S.2 _ _ (by unfold sc0; omega)).trans e2) ?_
                refine e_icmp_ne aX9_judge_99 (fun c99 => ?_) (fun c99 => ?_)
                · -- 99: taken
                  refine e_iconst (v := 1) aX9_judge_106 (by decide) ?_
                  refine e_iload_n aX9_judge_107 rfl ?_
                  refine e_iadd aX9_judge_108 ?_
                  refine e_top (nI_add 1 k) ?_
                  refine e_ireturn aX9_judge_109 rfl (Nat.le_refl _) (Nat.le_refl _) ?_
                  have n12 : k = 12 := (nI_eq (b := 12) (by omega) (by decide)).mp c89
                  have nq : ¬ k = qS xz := fun z => c99 (by rw [z])
                  exact ⟨by unfold jgR; rw [← hR]; show _ = some (vI (if qS xz = 12 then 0 else nI (1 + min (qS xz) 12))); rw [if_neg (by omega), ← hk], S⟩
                · -- 99: not taken
                  refine e_iconst (v := 0) aX9_judge_102 (by decide) ?_
                  refine e_goto aX9_judge_103 ?_
                  refine e_ireturn aX9_judge_109 rfl (Nat.le_refl _) (Nat.le_refl _) ?_
                  have n12 : k = 12 := (nI_eq (b := 12) (by omega) (by decide)).mp c89
                  have nq : k = qS xz := (nI_eq (by omega) (by omega)).mp c99
                  exact ⟨by unfold jgR; rw [← hR]; show _ = some (vI (if qS xz = 12 then 0 else _)); rw [if_pos (by omega)], S⟩
            · -- 46: not taken
              have hk12 : k < 12 := by
                rcases Nat.lt_or_ge k 12 with z | z
                · exact z
                · exact absurd (nI_le (a := 12) (b := k) (by omega) (by omega)) c46
              refine e_iload_n aX9_judge_49 rfl ?_
              refine e_aload_n aX9_judge_50 rfl ?_
              refine e_getRF aX9_judge_51 fX9_55 rfl (fx_is F rfl) (fx_r (b := 123) F rfl) ?_
              refine e_iload_n aX9_judge_54 rfl ?_
              refine e_ialoadF aX9_judge_55 (fx_is F rfl) (fx_n (n := 4) F rfl) (vin (N := 4) hx4) (show hI hz 123 (nI xz).toNatClampNeg = nI (qS xz) by rw [cl (by omega)]; exact (S.2 _ _ (by unfold sc0; omega)).trans e2) ?_
              refine e_icmp_ge aX9_judge_56 (fun c56 => ?_) (fun c56 => ?_)
              · -- 56: taken
                refine e_iload_n aX9_judge_86 rfl ?_
                refine e_bipush (v := 12) aX9_judge_87 (by decide) ?_
                refine e_icmp_ne aX9_judge_89 (fun c89 => ?_) (fun c89 => ?_)
                · -- 89: taken
                  refine e_iconst (v := 1) aX9_judge_106 (by decide) ?_
                  refine e_iload_n aX9_judge_107 rfl ?_
                  refine e_iadd aX9_judge_108 ?_
                  refine e_top (nI_add 1 k) ?_
                  refine e_ireturn aX9_judge_109 rfl (Nat.le_refl _) (Nat.le_refl _) ?_
                  have n12 : ¬ k = 12 := fun z => c89 (by rw [z]; rfl)
                  exact ⟨by unfold jgR; rw [← hR]; show _ = some (vI (if qS xz = 12 then 0 else nI (1 + min (qS xz) 12))); rw [if_neg (by omega), ← hk], S⟩
                · -- 89: not taken
                  refine e_iload_n aX9_judge_92 rfl ?_
                  refine e_aload_n aX9_judge_93 rfl ?_
                  refine e_getRF aX9_judge_94 fX9_55 rfl (fx_is F rfl) (fx_r (b := 123) F rfl) ?_
                  refine e_iload_n aX9_judge_97 rfl ?_
                  refine e_ialoadF aX9_judge_98 (fx_is F rfl) (fx_n (n := 4) F rfl) (vin (N := 4) hx4) (show hI hz 123 (nI xz).toNatClampNeg = nI (qS xz) by rw [cl (by omega)]; exact (S.2 _ _ (by unfold sc0; omega)).trans e2) ?_
                  refine e_icmp_ne aX9_judge_99 (fun c99 => ?_) (fun c99 => ?_)
                  · -- 99: taken
                    refine e_iconst (v := 1) aX9_judge_106 (by decide) ?_
                    refine e_iload_n aX9_judge_107 rfl ?_
                    refine e_iadd aX9_judge_108 ?_
                    refine e_top (nI_add 1 k) ?_
                    refine e_ireturn aX9_judge_109 rfl (Nat.le_refl _) (Nat.le_refl _) ?_
                    have n12 : k = 12 := (nI_eq (b := 12) (by omega) (by decide)).mp c89
                    have nq : ¬ k = qS xz := fun z => c99 (by rw [z])
                    exact ⟨by unfold jgR; rw [← hR]; show _ = some (vI (if qS xz = 12 then 0 else nI (1 + min (qS xz) 12))); rw [if_neg (by omega), ← hk], S⟩
                  · -- 99: not taken
                    refine e_iconst (v := 0) aX9_judge_102 (by decide) ?_
                    refine e_goto aX9_judge_103 ?_
                    refine e_ireturn aX9_judge_109 rfl (Nat.le_refl _) (Nat.le_refl _) ?_
                    have n12 : k = 12 := (nI_eq (b := 12) (by omega) (by decide)).mp c89
                    have nq : k = qS xz := (nI_eq (by omega) (by omega)).mp c99
                    exact ⟨by unfold jgR; rw [← hR]; show _ = some (vI (if qS xz = 12 then 0 else _)); rw [if_pos (by omega)], S⟩
              · -- 56: not taken
                exact absurd (nI_le (a := qS xz) (b := k) (by omega) (by omega)) c56
          | succ m ih =>
            intro k hz hk S LZ hR
            have F := S.F F0
            have md := S.md md0
            refine e_iload_n aX9_judge_43 rfl ?_
            refine e_bipush (v := 12) aX9_judge_44 (by decide) ?_
            refine e_icmp_ge aX9_judge_46 (fun c46 => ?_) (fun c46 => ?_)
            · -- 46: taken
              exact absurd c46 (nI_ge (a := k) (b := 12) (by omega) (by decide))
            · -- 46: not taken
              refine e_iload_n aX9_judge_49 rfl ?_
              refine e_aload_n aX9_judge_50 rfl ?_
              refine e_getRF aX9_judge_51 fX9_55 rfl (fx_is F rfl) (fx_r (b := 123) F rfl) ?_
              refine e_iload_n aX9_judge_54 rfl ?_
              refine e_ialoadF aX9_judge_55 (fx_is F rfl) (fx_n (n := 4) F rfl) (vin (N := 4) hx4) (show hI hz 123 (nI xz).toNatClampNeg = nI (qS xz) by rw [cl (by omega)]; exact (S.2 _ _ (by unfold sc0; omega)).trans e2) ?_
              refine e_icmp_ge aX9_judge_56 (fun c56 => ?_) (fun c56 => ?_)
              · -- 56: taken
                exact absurd c56 (nI_ge (by omega) (by omega))
              · -- 56: not taken
                refine e_aload_n aX9_judge_59 rfl ?_
                refine e_getRF aX9_judge_60 fX9_58 rfl (fx_is F rfl) (fx_r (b := 124) F rfl) ?_
                refine e_bipush (v := 40) aX9_judge_63 (by decide) ?_
                refine e_iload_n aX9_judge_65 rfl ?_
                refine e_imul aX9_judge_66 ?_
                refine e_top (nI_mul 40 xz) ?_
                refine e_iload_n aX9_judge_67 rfl ?_
                refine e_iadd aX9_judge_68 ?_
                refine e_top (nI_add _ _) ?_
                refine e_laloadF aX9_judge_69 (fx_is F rfl) (fx_n (n := 160) F rfl) (vin (N := 160) (by omega)) (show hL hz 124 (nI (40 * xz + k)).toNatClampNeg = hL h0 124 (40 * xz + k) by rw [cl (by omega)]; exact congrFun (congrFun (congrArg (fun z => z.1) S.1) 124) _) ?_
                refine e_aload_n aX9_judge_70 rfl ?_
                refine e_iload_n aX9_judge_71 rfl ?_
                refine e_invv aX9_judge_72 kX9_219 (zX9_ownerOf X F md LZ (p := k) (by omega)) rfl rfl (fx_is F rfl) (Nat.le_of_ble_eq_true rfl) (Nat.le_of_ble_eq_true rfl) (Nat.le_refl _) (Nat.le_refl _) (Nat.le_of_ble_eq_true rfl) ?_
                rintro v h2 ⟨rfl, S1⟩
                have F := S1.F F
                refine e_i2l aX9_judge_75 ?_
                refine e_lcmp aX9_judge_76 ?_
                refine e_if_ne aX9_judge_77 (fun c77 => ?_) (fun c77 => ?_)
                · -- 77: taken
                  have qB : (jgB h0 xz (fun p => owR D n sz p)) k = true := decide_eq_true c77
                  refine e_iload_n aX9_judge_86 rfl ?_
                  refine e_bipush (v := 12) aX9_judge_87 (by decide) ?_
                  refine e_icmp_ne aX9_judge_89 (fun c89 => ?_) (fun c89 => ?_)
                  · -- 89: taken
                    refine e_iconst (v := 1) aX9_judge_106 (by decide) ?_
                    refine e_iload_n aX9_judge_107 rfl ?_
                    refine e_iadd aX9_judge_108 ?_
                    refine e_top (nI_add 1 k) ?_
                    refine e_ireturn aX9_judge_109 rfl (Nat.le_refl _) (Nat.le_refl _) ?_
                    have n12 : ¬ k = 12 := fun z => c89 (by rw [z]; rfl)
                    exact ⟨by unfold jgR; rw [← hR, frW_t qB], S.tr S1.up⟩
                  · -- 89: not taken
                    refine e_iload_n aX9_judge_92 rfl ?_
                    refine e_aload_n aX9_judge_93 rfl ?_
                    refine e_getRF aX9_judge_94 fX9_55 rfl (fx_is F rfl) (fx_r (b := 123) F rfl) ?_
                    refine e_iload_n aX9_judge_97 rfl ?_
                    refine e_ialoadF aX9_judge_98 (fx_is F rfl) (fx_n (n := 4) F rfl) (vin (N := 4) hx4) (show hI h2 123 (nI xz).toNatClampNeg = nI (qS xz) by rw [cl (by omega)]; exact ((S.tr S1.up).2 _ _ (by unfold sc0; omega)).trans e2) ?_
                    refine e_icmp_ne aX9_judge_99 (fun c99 => ?_) (fun c99 => ?_)
                    · -- 99: taken
                      refine e_iconst (v := 1) aX9_judge_106 (by decide) ?_
                      refine e_iload_n aX9_judge_107 rfl ?_
                      refine e_iadd aX9_judge_108 ?_
                      refine e_top (nI_add 1 k) ?_
                      refine e_ireturn aX9_judge_109 rfl (Nat.le_refl _) (Nat.le_refl _) ?_
                      have n12 : k = 12 := (nI_eq (b := 12) (by omega) (by decide)).mp c89
                      have nq : ¬ k = qS xz := fun z => c99 (by rw [z])
                      exact ⟨by unfold jgR; rw [← hR, frW_t qB], S.tr S1.up⟩
                    · -- 99: not taken
                      refine e_iconst (v := 0) aX9_judge_102 (by decide) ?_
                      refine e_goto aX9_judge_103 ?_
                      refine e_ireturn aX9_judge_109 rfl (Nat.le_refl _) (Nat.le_refl _) ?_
                      have n12 : k = 12 := (nI_eq (b := 12) (by omega) (by decide)).mp c89
                      have nq : k = qS xz := (nI_eq (by omega) (by omega)).mp c99
                      omega
                · -- 77: not taken
                  have qB : ¬ (jgB h0 xz (fun p => owR D n sz p)) k = true := fun z => of_decide_eq_true z c77
                  refine e_iinc aX9_judge_80 rfl rfl (Nat.le_of_ble_eq_true rfl) ?_
                  refine e_goto aX9_judge_83 ?_
                  refine e_ls (ls' := [(0, some (vR (some 109))), (1, some (vI (nI xz))), (2, some (vI (nI sz))), (3, some (vI (nI (k + 1))))]) ⟨rfl, rfl, rfl, congrArg (fun x => some (vI x)) (nI_1 k), trivial⟩ ?_
                  exact ih (k + 1) h2 (by omega) (S.tr S1.up) (LZ.c1 S1) (by rw [← hR, frW_f qB])
        refine e_aload_n aX9_judge_36 rfl ?_
        refine e_iload_n aX9_judge_37 rfl ?_
        refine e_invv aX9_judge_38 kX9_170 (zX9_laysOut X F md (s := sz) (by omega)) rfl rfl (fx_is F rfl) (Nat.le_of_ble_eq_true rfl) (Nat.le_of_ble_eq_true rfl) (Nat.le_refl _) (Nat.le_refl _) (Nat.le_of_ble_eq_true rfl) ?_
        rintro v h2 ⟨rfl, S, LZ⟩
        have F := S.F F0
        refine e_iconst (v := 0) aX9_judge_41 (by decide) ?_
        refine e_istore_n aX9_judge_42 (Nat.le_of_ble_eq_true rfl) ?_
        refine e_ls (ls' := [(0, some (vR (some 109))), (1, some (vI (nI xz))), (2, some (vI (nI sz))), (3, some (vI (nI 0)))]) ⟨rfl, rfl, rfl, rfl, trivial⟩ ?_
        exact loop (min (qS xz) 12) 0 h2 (by omega) S LZ rfl
      · -- 27: not taken
        have q27 : tS xz = -1 := by
          rcases e3 with z | z | z | z
          · exact z
          all_goals exact absurd (show (0 : Int32) ≤ tS xz by rw [z]; decide) c27
        refine e_aload_n aX9_judge_30 rfl ?_
        refine e_iconst (v := 5) aX9_judge_31 (by decide) ?_
        refine e_invvT aX9_judge_32 kX9_128 (zX9_finds X F (k := 5) (by decide)) rfl rfl (fx_is F rfl) (Nat.le_of_ble_eq_true rfl) (Nat.le_of_ble_eq_true rfl) (Nat.le_refl _) (Nat.le_refl _) (Nat.le_of_ble_eq_true rfl) ?_
        refine e_ireturn aX9_judge_35 rfl (Nat.le_refl _) (Nat.le_refl _) ?_
        rw [if_neg q4, if_pos q12, cl (n := xz) (by omega), if_pos q27]
        exact ⟨rfl, rfl⟩
    · -- 12: not taken
      have q12 := b2_0.mp c12
      refine e_aload_n aX9_judge_15 rfl ?_
      refine e_iconst (v := 0) aX9_judge_16 (by decide) ?_
      refine e_invvT aX9_judge_17 kX9_128 (zX9_finds X F (k := 0) (by decide)) rfl rfl (fx_is F rfl) (Nat.le_of_ble_eq_true rfl) (Nat.le_of_ble_eq_true rfl) (Nat.le_refl _) (Nat.le_refl _) (Nat.le_of_ble_eq_true rfl) ?_
      refine e_ireturn aX9_judge_20 rfl (Nat.le_refl _) (Nat.le_refl _) ?_
      rw [if_neg q4, if_neg q12]
      exact ⟨rfl, rfl⟩
theorem zX9_hold (X : EX) {h : HP} (F : Fx h) {n : Nat} {D : Nat → DD} (md : MkD h n D) (x y : Int32) : Ct X mX9_hold 2 0 0 [vR (some 109), vI x, vI y] h (if x < 0 ∨ 4 ≤ x then RM h 0 else if y < 0 ∨ nI n ≤ y then RM h 0 else Rt (vI 1) (wI (wI (wI h 128 x.toNatClampNeg 1) 129 x.toNatClampNeg (hI h 112 (8 * y.toNatClampNeg + 7))) 130 x.toNatClampNeg (nI (dK (D y.toNatClampNeg))))) := by
  refine ct_of rfl (Nat.le_of_ble_eq_true rfl) ?_
  have hn12 := md.2.1
  refine e_iload_n aX9_hold_0 rfl ?_
  refine e_invsT aX9_hold_1 kX9_359 (zX9_isSpot X _) rfl rfl (Nat.le_of_ble_eq_true rfl) (Nat.le_of_ble_eq_true rfl) (Nat.le_refl _) (Nat.le_refl _) (Nat.le_of_ble_eq_true rfl) ?_
  refine e_if_eq aX9_hold_4 (fun c4 => ?_) (fun c4 => ?_)
  · -- 4: taken
    have q4 := Decidable.of_not_not (b2_0.mp c4)
    refine e_aload_n aX9_hold_15 rfl ?_
    refine e_iconst (v := 0) aX9_hold_16 (by decide) ?_
    refine e_invvT aX9_hold_17 kX9_128 (zX9_finds X F (k := 0) (by decide)) rfl rfl (fx_is F rfl) (Nat.le_of_ble_eq_true rfl) (Nat.le_of_ble_eq_true rfl) (Nat.le_refl _) (Nat.le_refl _) (Nat.le_of_ble_eq_true rfl) ?_
    refine e_ireturn aX9_hold_20 rfl (Nat.le_refl _) (Nat.le_refl _) ?_
    rw [if_pos q4]
    exact ⟨rfl, rfl⟩
  · -- 4: not taken
    have q4 := Decidable.of_not_not (fun z => c4 (b2_0.mpr z))
    refine e_aload_n aX9_hold_7 rfl ?_
    refine e_iload_n aX9_hold_8 rfl ?_
    refine e_invvT aX9_hold_9 kX9_207 (zX9_isDeal X F md _) rfl rfl (fx_is F rfl) (Nat.le_of_ble_eq_true rfl) (Nat.le_of_ble_eq_true rfl) (Nat.le_refl _) (Nat.le_refl _) (Nat.le_of_ble_eq_true rfl) ?_
    refine e_if_ne aX9_hold_12 (fun c12 => ?_) (fun c12 => ?_)
    · -- 12: taken
      have q12 := Decidable.of_not_not (fun z => c12 (b2_0.mpr z))
      obtain ⟨xz, hx4, rfl⟩ := ou_of 4 (by decide) q4
      obtain ⟨kz, hk, rfl⟩ := ou_of n (by omega) q12
      refine e_aload_n aX9_hold_21 rfl ?_
      refine e_getRF aX9_hold_22 fX9_71 rfl (fx_is F rfl) (fx_r (b := 128) F rfl) ?_
      refine e_iload_n aX9_hold_25 rfl ?_
      refine e_iconst (v := 1) aX9_hold_26 (by decide) ?_
      refine e_iastoreF aX9_hold_27 (fx_is F rfl) (fx_n (n := 4) F rfl) (vin (N := 4) hx4) ?_
      rw [cl (n := xz) (by omega)]
      refine e_aload_n aX9_hold_28 rfl ?_
      refine e_getRF aX9_hold_29 fX9_74 rfl (fx_is F rfl) (fx_r (b := 129) F rfl) ?_
      refine e_iload_n aX9_hold_32 rfl ?_
      refine e_aload_n aX9_hold_33 rfl ?_
      refine e_iload_n aX9_hold_34 rfl ?_
      refine e_bipush (v := 7) aX9_hold_35 (by decide) ?_
      refine e_invvT aX9_hold_37 kX9_145 (zits X (h := wI h 128 xz 1) F (k := kz) (j := 7) (by omega) (by decide) (wI_a (by decide))) rfl rfl (fx_is F rfl) (Nat.le_of_ble_eq_true rfl) (Nat.le_of_ble_eq_true rfl) (Nat.le_refl _) (Nat.le_refl _) (Nat.le_of_ble_eq_true rfl) ?_
      refine e_iastoreF aX9_hold_40 (fx_is F rfl) (fx_n (n := 4) F rfl) (vin (N := 4) hx4) ?_
      rw [cl (n := xz) (by omega)]
      refine e_aload_n aX9_hold_41 rfl ?_
      refine e_getRF aX9_hold_42 fX9_77 rfl (fx_is F rfl) (fx_r (b := 130) F rfl) ?_
      refine e_iload_n aX9_hold_45 rfl ?_
      refine e_aload_n aX9_hold_46 rfl ?_
      refine e_iload_n aX9_hold_47 rfl ?_
      refine e_iconst (v := 0) aX9_hold_48 (by decide) ?_
      refine e_invvT aX9_hold_49 kX9_145 (zits X (h := wI (wI h 128 xz 1) 129 xz (hI h 112 (8 * kz + 7))) F (k := kz) (j := 0) (by omega) (by decide) ((wI_a (by decide)).trans ((wI_a (by decide)).trans (md.2.2 kz hk).2.1))) rfl rfl (fx_is F rfl) (Nat.le_of_ble_eq_true rfl) (Nat.le_of_ble_eq_true rfl) (Nat.le_refl _) (Nat.le_refl _) (Nat.le_of_ble_eq_true rfl) ?_
      refine e_iastoreF aX9_hold_52 (fx_is F rfl) (fx_n (n := 4) F rfl) (vin (N := 4) hx4) ?_
      rw [cl (n := xz) (by omega)]
      refine e_iconst (v := 1) aX9_hold_53 (by decide) ?_
      refine e_ireturn aX9_hold_54 rfl (Nat.le_refl _) (Nat.le_refl _) ?_
      rw [if_neg q4, if_neg q12]
      rw [cl (n := kz) (by omega)]
      exact ⟨rfl, rfl⟩
    · -- 12: not taken
      have q12 := Decidable.of_not_not (b2_0.mp c12)
      refine e_aload_n aX9_hold_15 rfl ?_
      refine e_iconst (v := 0) aX9_hold_16 (by decide) ?_
      refine e_invvT aX9_hold_17 kX9_128 (zX9_finds X F (k := 0) (by decide)) rfl rfl (fx_is F rfl) (Nat.le_of_ble_eq_true rfl) (Nat.le_of_ble_eq_true rfl) (Nat.le_refl _) (Nat.le_refl _) (Nat.le_of_ble_eq_true rfl) ?_
      refine e_ireturn aX9_hold_20 rfl (Nat.le_refl _) (Nat.le_refl _) ?_
      rw [if_neg q4, if_pos q12]
      exact ⟨rfl, rfl⟩
theorem zX9_isUnder (X : EX) {h : HP} (x y : Int32) : Ct X mX9_isUnder 0 0 0 [vI x, vI y] h (Rt (vI (b2 (y = 0 ∨ x = y ∨ (y = 1 ∧ (x = 3 ∨ x = 4)) ∨ y = 2 ∧ x = 5))) h) := by
  refine ct_of rfl (Nat.le_of_ble_eq_true rfl) ?_
  refine e_iload_n aX9_isUnder_0 rfl ?_
  refine e_if_eq aX9_isUnder_1 (fun c1 => ?_) (fun c1 => ?_)
  · -- 1: taken
    refine e_iconst (v := 1) aX9_isUnder_34 (by decide) ?_
    refine e_goto aX9_isUnder_35 ?_
    refine e_zreturn aX9_isUnder_39 rfl (by decide) (Nat.le_refl _) (Nat.le_refl _) ?_
    exact ⟨by rw [b2_t (show y = 0 ∨ x = y ∨ (y = 1 ∧ (x = 3 ∨ x = 4)) ∨ y = 2 ∧ x = 5 by grind)], rfl⟩
  · -- 1: not taken
    refine e_iload_n aX9_isUnder_4 rfl ?_
    refine e_iload_n aX9_isUnder_5 rfl ?_
    refine e_icmp_eq aX9_isUnder_6 (fun c6 => ?_) (fun c6 => ?_)
    · -- 6: taken
      refine e_iconst (v := 1) aX9_isUnder_34 (by decide) ?_
      refine e_goto aX9_isUnder_35 ?_
      refine e_zreturn aX9_isUnder_39 rfl (by decide) (Nat.le_refl _) (Nat.le_refl _) ?_
      exact ⟨by rw [b2_t (show y = 0 ∨ x = y ∨ (y = 1 ∧ (x = 3 ∨ x = 4)) ∨ y = 2 ∧ x = 5 by grind)], rfl⟩
    · -- 6: not taken
      refine e_iload_n aX9_isUnder_9 rfl ?_
      refine e_iconst (v := 1) aX9_isUnder_10 (by decide) ?_
      refine e_icmp_ne aX9_isUnder_11 (fun c11 => ?_) (fun c11 => ?_)
      · -- 11: taken
        refine e_iload_n aX9_isUnder_24 rfl ?_
        refine e_iconst (v := 2) aX9_isUnder_25 (by decide) ?_
        refine e_icmp_ne aX9_isUnder_26 (fun c26 => ?_) (fun c26 => ?_)
        · -- 26: taken
          refine e_iconst (v := 0) aX9_isUnder_38 (by decide) ?_
          refine e_zreturn aX9_isUnder_39 rfl (by decide) (Nat.le_refl _) (Nat.le_refl _) ?_
          exact ⟨by rw [b2_f (show ¬ (y = 0 ∨ x = y ∨ (y = 1 ∧ (x = 3 ∨ x = 4)) ∨ y = 2 ∧ x = 5) by grind)], rfl⟩
        · -- 26: not taken
          refine e_iload_n aX9_isUnder_29 rfl ?_
          refine e_iconst (v := 5) aX9_isUnder_30 (by decide) ?_
          refine e_icmp_ne aX9_isUnder_31 (fun c31 => ?_) (fun c31 => ?_)
          · -- 31: taken
            refine e_iconst (v := 0) aX9_isUnder_38 (by decide) ?_
            refine e_zreturn aX9_isUnder_39 rfl (by decide) (Nat.le_refl _) (Nat.le_refl _) ?_
            exact ⟨by rw [b2_f (show ¬ (y = 0 ∨ x = y ∨ (y = 1 ∧ (x = 3 ∨ x = 4)) ∨ y = 2 ∧ x = 5) by grind)], rfl⟩
          · -- 31: not taken
            refine e_iconst (v := 1) aX9_isUnder_34 (by decide) ?_
            refine e_goto aX9_isUnder_35 ?_
            refine e_zreturn aX9_isUnder_39 rfl (by decide) (Nat.le_refl _) (Nat.le_refl _) ?_
            exact ⟨by rw [b2_t (show y = 0 ∨ x = y ∨ (y = 1 ∧ (x = 3 ∨ x = 4)) ∨ y = 2 ∧ x = 5 by grind)], rfl⟩
      · -- 11: not taken
        refine e_iload_n aX9_isUnder_14 rfl ?_
        refine e_iconst (v := 3) aX9_isUnder_15 (by decide) ?_
        refine e_icmp_eq aX9_isUnder_16 (fun c16 => ?_) (fun c16 => ?_)
        · -- 16: taken
          refine e_iconst (v := 1) aX9_isUnder_34 (by decide) ?_
          refine e_goto aX9_isUnder_35 ?_
          refine e_zreturn aX9_isUnder_39 rfl (by decide) (Nat.le_refl _) (Nat.le_refl _) ?_
          exact ⟨by rw [b2_t (show y = 0 ∨ x = y ∨ (y = 1 ∧ (x = 3 ∨ x = 4)) ∨ y = 2 ∧ x = 5 by grind)], rfl⟩
        · -- 16: not taken
          refine e_iload_n aX9_isUnder_19 rfl ?_
          refine e_iconst (v := 4) aX9_isUnder_20 (by decide) ?_
          refine e_icmp_eq aX9_isUnder_21 (fun c21 => ?_) (fun c21 => ?_)
          · -- 21: taken
            refine e_iconst (v := 1) aX9_isUnder_34 (by decide) ?_
            refine e_goto aX9_isUnder_35 ?_
            refine e_zreturn aX9_isUnder_39 rfl (by decide) (Nat.le_refl _) (Nat.le_refl _) ?_
            exact ⟨by rw [b2_t (show y = 0 ∨ x = y ∨ (y = 1 ∧ (x = 3 ∨ x = 4)) ∨ y = 2 ∧ x = 5 by grind)], rfl⟩
          · -- 21: not taken
            refine e_iload_n aX9_isUnder_24 rfl ?_
            refine e_iconst (v := 2) aX9_isUnder_25 (by decide) ?_
            refine e_icmp_ne aX9_isUnder_26 (fun c26 => ?_) (fun c26 => ?_)
            · -- 26: taken
              refine e_iconst (v := 0) aX9_isUnder_38 (by decide) ?_
              refine e_zreturn aX9_isUnder_39 rfl (by decide) (Nat.le_refl _) (Nat.le_refl _) ?_
              exact ⟨by rw [b2_f (show ¬ (y = 0 ∨ x = y ∨ (y = 1 ∧ (x = 3 ∨ x = 4)) ∨ y = 2 ∧ x = 5) by grind)], rfl⟩
            · -- 26: not taken
              refine e_iload_n aX9_isUnder_29 rfl ?_
              refine e_iconst (v := 5) aX9_isUnder_30 (by decide) ?_
              refine e_icmp_ne aX9_isUnder_31 (fun c31 => ?_) (fun c31 => ?_)
              · -- 31: taken
                refine e_iconst (v := 0) aX9_isUnder_38 (by decide) ?_
                refine e_zreturn aX9_isUnder_39 rfl (by decide) (Nat.le_refl _) (Nat.le_refl _) ?_
                exact ⟨by rw [b2_f (show ¬ (y = 0 ∨ x = y ∨ (y = 1 ∧ (x = 3 ∨ x = 4)) ∨ y = 2 ∧ x = 5) by grind)], rfl⟩
              · -- 31: not taken
                refine e_iconst (v := 1) aX9_isUnder_34 (by decide) ?_
                refine e_goto aX9_isUnder_35 ?_
                refine e_zreturn aX9_isUnder_39 rfl (by decide) (Nat.le_refl _) (Nat.le_refl _) ?_
                exact ⟨by rw [b2_t (show y = 0 ∨ x = y ∨ (y = 1 ∧ (x = 3 ∨ x = 4)) ∨ y = 2 ∧ x = 5 by grind)], rfl⟩
def ltR (P : Nat → Bool) : Nat → Int32
  | 0 => -1
  | k + 1 => if P k = true then nI k else ltR P k
theorem ltR_s {P : Nat → Bool} {k : Nat} : ltR P (k + 1) = if P k = true then nI k else ltR P k := rfl
theorem zX9_taken (X : EX) {h : HP} (F : Fx h) {n : Nat} {D : Nat → DD} (md : MkD h n D) (x y : Int32) : Ct X mX9_taken 2 0 0 [vR (some 109), vI x, vI y] h (if x < 0 ∨ 4 ≤ x then RM h 0 else if y < 0 ∨ 6 ≤ y then RM h 0 else if hI h 128 x.toNatClampNeg = 0 then RM h 5 else if (y = 0 ∨ hI h 130 x.toNatClampNeg = y ∨ (y = 1 ∧ (hI h 130 x.toNatClampNeg = 3 ∨ hI h 130 x.toNatClampNeg = 4)) ∨ y = 2 ∧ hI h 130 x.toNatClampNeg = 5) then Rt (vI (ltR (fun k => decide (hI h 112 (8 * k + 7) = hI h 129 x.toNatClampNeg)) n)) h else RM h 2) := by
  refine ct_of rfl (Nat.le_of_ble_eq_true rfl) ?_
  have hn12 := md.2.1
  refine e_iload_n aX9_taken_0 rfl ?_
  refine e_invsT aX9_taken_1 kX9_359 (zX9_isSpot X _) rfl rfl (Nat.le_of_ble_eq_true rfl) (Nat.le_of_ble_eq_true rfl) (Nat.le_refl _) (Nat.le_refl _) (Nat.le_of_ble_eq_true rfl) ?_
  refine e_if_eq aX9_taken_4 (fun c4 => ?_) (fun c4 => ?_)
  · -- 4: taken
    have q4 := Decidable.of_not_not (b2_0.mp c4)
    refine e_aload_n aX9_taken_19 rfl ?_
    refine e_iconst (v := 0) aX9_taken_20 (by decide) ?_
    refine e_invvT aX9_taken_21 kX9_128 (zX9_finds X F (k := 0) (by decide)) rfl rfl (fx_is F rfl) (Nat.le_of_ble_eq_true rfl) (Nat.le_of_ble_eq_true rfl) (Nat.le_refl _) (Nat.le_refl _) (Nat.le_of_ble_eq_true rfl) ?_
    refine e_ireturn aX9_taken_24 rfl (Nat.le_refl _) (Nat.le_refl _) ?_
    rw [if_pos q4]
    exact ⟨rfl, rfl⟩
  · -- 4: not taken
    have q4 := Decidable.of_not_not (fun z => c4 (b2_0.mpr z))
    refine e_iload_n aX9_taken_7 rfl ?_
    refine e_i2l aX9_taken_8 ?_
    refine e_lconst (v := 0) aX9_taken_9 rfl ?_
    refine e_ldc2 aX9_taken_10 lX9_126 ?_
    refine e_invsT aX9_taken_13 kX9_108 (zic X _ 6 (N := 6) rfl (by decide) (by decide) rfl) rfl rfl (Nat.le_of_ble_eq_true rfl) (Nat.le_of_ble_eq_true rfl) (Nat.le_refl _) (Nat.le_refl _) (Nat.le_of_ble_eq_true rfl) ?_
    refine e_if_ne aX9_taken_16 (fun c16 => ?_) (fun c16 => ?_)
    · -- 16: taken
      have q16 := Decidable.of_not_not (fun z => c16 (b2_0.mpr z))
      obtain ⟨xz, hx4, rfl⟩ := ou_of 4 (by decide) q4
      refine e_aload_n aX9_taken_25 rfl ?_
      refine e_getRF aX9_taken_26 fX9_71 rfl (fx_is F rfl) (fx_r (b := 128) F rfl) ?_
      refine e_iload_n aX9_taken_29 rfl ?_
      refine e_ialoadF aX9_taken_30 (fx_is F rfl) (fx_n (n := 4) F rfl) (vin (N := 4) hx4) (show hI h 128 (nI xz).toNatClampNeg = hI h 128 xz by rw [cl (by omega)]) ?_
      refine e_if_ne aX9_taken_31 (fun c31 => ?_) (fun c31 => ?_)
      · -- 31: taken
        have q31 : ¬ hI h 128 xz = 0 := c31
        refine e_aload_n aX9_taken_40 rfl ?_
        refine e_getRF aX9_taken_41 fX9_77 rfl (fx_is F rfl) (fx_r (b := 130) F rfl) ?_
        refine e_iload_n aX9_taken_44 rfl ?_
        refine e_ialoadF aX9_taken_45 (fx_is F rfl) (fx_n (n := 4) F rfl) (vin (N := 4) hx4) (show hI h 130 (nI xz).toNatClampNeg = hI h 130 xz by rw [cl (by omega)]) ?_
        refine e_iload_n aX9_taken_46 rfl ?_
        refine e_invsT aX9_taken_47 kX9_362 (zX9_isUnder X _ _) rfl rfl (Nat.le_of_ble_eq_true rfl) (Nat.le_of_ble_eq_true rfl) (Nat.le_refl _) (Nat.le_refl _) (Nat.le_of_ble_eq_true rfl) ?_
        refine e_if_ne aX9_taken_50 (fun c50 => ?_) (fun c50 => ?_)
        · -- 50: taken
          have q50 := Decidable.of_not_not (fun z => c50 (b2_0.mpr z))
          rw [if_neg q4, if_neg q16, cl (n := xz) (by omega), if_neg q31, if_pos q50]
          have loop : ∀ (m : Nat) (k : Nat), k + m = n → Ev X mX9_taken 2 0 0 (Rt (vI (ltR (fun k => decide (hI h 112 (8 * k + 7) = hI h 129 xz)) n)) h) 0 0 64 [(0, some (vR (some 109))), (1, some (vI (nI xz))), (3, some (vI (ltR (fun k => decide (hI h 112 (8 * k + 7) = hI h 129 xz)) k))), (4, some (vI (nI k)))] [] h := by
            intro m
            induction m with
            | zero =>
              intro k hk
              obtain rfl : k = n := by omega
              refine e_iload aX9_taken_64 rfl ?_
              refine e_aload_n aX9_taken_66 rfl ?_
              refine e_getIF aX9_taken_67 fX9_89 rfl (fx_is F rfl) md.1 ?_
              refine e_icmp_ge aX9_taken_70 (fun c70 => ?_) (fun c70 => ?_)
              · -- 70: taken
                refine e_iload_n aX9_taken_103 rfl ?_
                refine e_ireturn aX9_taken_104 rfl (Nat.le_refl _) (Nat.le_refl _) ?_
                exact ⟨rfl, rfl⟩
              · -- 70: not taken
                exact absurd (nI_le (by omega) (by omega)) c70
            | succ m ih =>
              intro k hk
              refine e_iload aX9_taken_64 rfl ?_
              refine e_aload_n aX9_taken_66 rfl ?_
              refine e_getIF aX9_taken_67 fX9_89 rfl (fx_is F rfl) md.1 ?_
              refine e_icmp_ge aX9_taken_70 (fun c70 => ?_) (fun c70 => ?_)
              · -- 70: taken
                exact absurd c70 (nI_ge (by omega) (by omega))
              · -- 70: not taken
                refine e_aload_n aX9_taken_73 rfl ?_
                refine e_iload aX9_taken_74 rfl ?_
                refine e_bipush (v := 7) aX9_taken_76 (by decide) ?_
                refine e_invvT aX9_taken_78 kX9_145 (zits X F (k := k) (j := 7) (by omega) (by decide) rfl) rfl rfl (fx_is F rfl) (Nat.le_of_ble_eq_true rfl) (Nat.le_of_ble_eq_true rfl) (Nat.le_refl _) (Nat.le_refl _) (Nat.le_of_ble_eq_true rfl) ?_
                refine e_aload_n aX9_taken_81 rfl ?_
                refine e_getRF aX9_taken_82 fX9_74 rfl (fx_is F rfl) (fx_r (b := 129) F rfl) ?_
                refine e_iload_n aX9_taken_85 rfl ?_
                refine e_ialoadF aX9_taken_86 (fx_is F rfl) (fx_n (n := 4) F rfl) (vin (N := 4) hx4) (show hI h 129 (nI xz).toNatClampNeg = hI h 129 xz by rw [cl (by omega)]) ?_
                refine e_icmp_ne aX9_taken_87 (fun c87 => ?_) (fun c87 => ?_)
                · -- 87: taken
                  refine e_iload_n aX9_taken_95 rfl ?_
                  refine e_istore_n aX9_taken_96 (Nat.le_of_ble_eq_true rfl) ?_
                  refine e_iinc aX9_taken_97 rfl rfl (Nat.le_of_ble_eq_true rfl) ?_
                  refine e_goto aX9_taken_100 ?_
                  refine e_ls (ls' := [(0, some (vR (some 109))), (1, some (vI (nI xz))), (3, some (vI (ltR (fun k => decide (hI h 112 (8 * k + 7) = hI h 129 xz)) (k + 1)))), (4, some (vI (nI (k + 1))))]) ⟨rfl, rfl, congrArg (fun x => some (vI x)) ((ltR_s.trans (if_neg (fun z => c87 (of_decide_eq_true z)))).symm), congrArg (fun x => some (vI x)) (nI_1 k), trivial⟩ ?_
                  exact ih (k + 1) (by omega)
                · -- 87: not taken
                  refine e_iload aX9_taken_90 rfl ?_
                  refine e_goto aX9_taken_92 ?_
                  refine e_istore_n aX9_taken_96 (Nat.le_of_ble_eq_true rfl) ?_
                  refine e_iinc aX9_taken_97 rfl rfl (Nat.le_of_ble_eq_true rfl) ?_
                  refine e_goto aX9_taken_100 ?_
                  refine e_ls (ls' := [(0, some (vR (some 109))), (1, some (vI (nI xz))), (3, some (vI (ltR (fun k => decide (hI h 112 (8 * k + 7) = hI h 129 xz)) (k + 1)))), (4, some (vI (nI (k + 1))))]) ⟨rfl, rfl, congrArg (fun x => some (vI x)) ((ltR_s.trans (if_pos (decide_eq_true c87))).symm), congrArg (fun x => some (vI x)) (nI_1 k), trivial⟩ ?_
                  exact ih (k + 1) (by omega)
          refine e_iconst (v := -1) aX9_taken_59 (by decide) ?_
          refine e_istore_n aX9_taken_60 (Nat.le_of_ble_eq_true rfl) ?_
          refine e_iconst (v := 0) aX9_taken_61 (by decide) ?_
          refine e_istore aX9_taken_62 (Nat.le_of_ble_eq_true rfl) ?_
          refine e_ls (ls' := [(0, some (vR (some 109))), (1, some (vI (nI xz))), (3, some (vI (ltR (fun k => decide (hI h 112 (8 * k + 7) = hI h 129 xz)) 0))), (4, some (vI (nI 0)))]) ⟨rfl, rfl, rfl, rfl, trivial⟩ ?_
          exact loop n 0 (by omega)
        · -- 50: not taken
          have q50 := b2_0.mp c50
          refine e_aload_n aX9_taken_53 rfl ?_
          refine e_iconst (v := 2) aX9_taken_54 (by decide) ?_
          refine e_invvT aX9_taken_55 kX9_128 (zX9_finds X F (k := 2) (by decide)) rfl rfl (fx_is F rfl) (Nat.le_of_ble_eq_true rfl) (Nat.le_of_ble_eq_true rfl) (Nat.le_refl _) (Nat.le_refl _) (Nat.le_of_ble_eq_true rfl) ?_
          refine e_ireturn aX9_taken_58 rfl (Nat.le_refl _) (Nat.le_refl _) ?_
          rw [if_neg q4, if_neg q16, cl (n := xz) (by omega), if_neg q31, if_neg q50]
          exact ⟨rfl, rfl⟩
      · -- 31: not taken
        have q31 : hI h 128 xz = 0 := c31
        refine e_aload_n aX9_taken_34 rfl ?_
        refine e_iconst (v := 5) aX9_taken_35 (by decide) ?_
        refine e_invvT aX9_taken_36 kX9_128 (zX9_finds X F (k := 5) (by decide)) rfl rfl (fx_is F rfl) (Nat.le_of_ble_eq_true rfl) (Nat.le_of_ble_eq_true rfl) (Nat.le_refl _) (Nat.le_refl _) (Nat.le_of_ble_eq_true rfl) ?_
        refine e_ireturn aX9_taken_39 rfl (Nat.le_refl _) (Nat.le_refl _) ?_
        rw [if_neg q4, if_neg q16, cl (n := xz) (by omega), if_pos q31]
        exact ⟨rfl, rfl⟩
    · -- 16: not taken
      have q16 := Decidable.of_not_not (b2_0.mp c16)
      refine e_aload_n aX9_taken_19 rfl ?_
      refine e_iconst (v := 0) aX9_taken_20 (by decide) ?_
      refine e_invvT aX9_taken_21 kX9_128 (zX9_finds X F (k := 0) (by decide)) rfl rfl (fx_is F rfl) (Nat.le_of_ble_eq_true rfl) (Nat.le_of_ble_eq_true rfl) (Nat.le_refl _) (Nat.le_refl _) (Nat.le_of_ble_eq_true rfl) ?_
      refine e_ireturn aX9_taken_24 rfl (Nat.le_refl _) (Nat.le_refl _) ?_
      rw [if_neg q4, if_pos q16]
      exact ⟨rfl, rfl⟩
/-- the bytes of a number, 0 to 255 -/
def ubI (x : Int32) (i : Nat) : Int32 := (x >>> ((8 * nI i) &&& 31)) &&& 255
def feH (h : HP) (l : Nat) (x : Int32) (n : Nat) : Nat → HP
  | 0 => h
  | k + 1 => wI (wI (feH h l x n k) 118 (l + k) (ubI x (n - 1 - k))) 109 14 (nI (l + k + 1))
theorem feH_2 {h : HP} {l : Nat} {x : Int32} {n : Nat} : ∀ k, (feH h l x n k).2 = h.2 := by
  intro k
  induction k with
  | zero => rfl
  | succ k ih => exact ih
theorem feH_F {h : HP} (F : Fx h) {l : Nat} {x : Int32} {n : Nat} (k : Nat) : Fx (feH h l x n k) := by
  unfold Fx
  rw [feH_2]
  exact F
theorem feH_l {h : HP} {l : Nat} {x : Int32} {n : Nat} (hl : hI h 109 14 = nI l) : ∀ k, hI (feH h l x n k) 109 14 = nI (l + k)
  | 0 => hl
  | _ + 1 => wI_s
theorem zX9_feed (X : EX) {h : HP} (F : Fx h) {l : Nat} (hl : hI h 109 14 = nI l) (h120 : l ≤ 120) (x y : Int32) : Ct X mX9_feed 1 0 0 [vR (some 109), vI x, vI y] h (if y < 1 then RM h 0 else if y ≤ 4 then (if l + y.toNatClampNeg ≤ 120 then Rt (vI (nI (l + y.toNatClampNeg))) (feH h l x y.toNatClampNeg y.toNatClampNeg) else RM h 1) else RM h 0) := by
  refine ct_of rfl (Nat.le_of_ble_eq_true rfl) ?_
  refine e_iload_n aX9_feed_0 rfl ?_
  refine e_i2l aX9_feed_1 ?_
  refine e_lconst (v := 1) aX9_feed_2 rfl ?_
  refine e_ldc2 aX9_feed_3 lX9_246 ?_
  refine e_invsT aX9_feed_6 kX9_108 (zib X y 1 4 rfl rfl) rfl rfl (Nat.le_of_ble_eq_true rfl) (Nat.le_of_ble_eq_true rfl) (Nat.le_refl _) (Nat.le_refl _) (Nat.le_of_ble_eq_true rfl) ?_
  refine e_if_ne aX9_feed_9 (fun c9 => ?_) (fun c9 => ?_)
  · -- 9: taken
    have q9 := Decidable.of_not_not (fun z => c9 (b2_0.mpr z))
    have q10 : ¬ y < 1 := fun z => q9 (Or.inl z)
    have q11 : y ≤ 4 := Int32.not_lt.mp (fun z => q9 (Or.inr z))
    obtain ⟨yz, hy5, rfl⟩ := ou_of 5 (by decide) (v := y) (fun z => z.elim (fun z => q10 (Int32.lt_trans z (by decide))) (fun z => absurd (Int32.le_trans z q11) (by decide)))
    refine e_aload_n aX9_feed_18 rfl ?_
    refine e_getIF aX9_feed_19 fX9_248 rfl (fx_is F rfl) hl ?_
    refine e_iload_n aX9_feed_22 rfl ?_
    refine e_iadd aX9_feed_23 ?_
    refine e_top (nI_add _ _) ?_
    refine e_bipush (v := 120) aX9_feed_24 (by decide) ?_
    refine e_icmp_le aX9_feed_26 (fun c26 => ?_) (fun c26 => ?_)
    · -- 26: taken
      have q26 : l + yz ≤ 120 := (nI_leI (b := 120) (by omega) (by decide)).mp c26
      rw [if_neg q10, if_pos q11, cl (n := yz) (by omega), if_pos q26]
      have loop : ∀ (m : Nat) (k : Nat), k + m = yz → Ev X mX9_feed 1 0 0 (Rt (vI (nI (l + yz))) (feH h l x yz yz)) 0 0 39 [(0, some (vR (some 109))), (1, some (vI x)), (2, some (vI (nI yz))), (3, some (vI (nI m - 1)))] [] (feH h l x yz k) := by
        intro m
        induction m with
        | zero =>
          intro k hk
          have F := feH_F F (l := l) (x := x) (n := yz) k
          refine e_iload_n aX9_feed_39 rfl ?_
          refine e_if_lt aX9_feed_40 (fun c40 => ?_) (fun c40 => ?_)
          · -- 40: taken
            refine e_aload_n aX9_feed_78 rfl ?_
            refine e_getIF aX9_feed_79 fX9_248 rfl (fx_is F rfl) (feH_l hl _) ?_
            refine e_ireturn aX9_feed_82 rfl (Nat.le_refl _) (Nat.le_refl _) ?_
            obtain rfl : k = yz := by omega
            exact ⟨rfl, rfl⟩
          · -- 40: not taken
            exact absurd (show (nI 0 - 1 : Int32) < 0 by decide) c40
        | succ m ih =>
          intro k hk
          have F := feH_F F (l := l) (x := x) (n := yz) k
          refine e_ls (ls' := [(0, some (vR (some 109))), (1, some (vI x)), (2, some (vI (nI yz))), (3, some (vI (nI m)))]) ⟨rfl, rfl, rfl, congrArg (fun x => some (vI x)) (by rw [nI_pred9 (by omega), Nat.add_sub_cancel]), trivial⟩ ?_
          refine e_iload_n aX9_feed_39 rfl ?_
          refine e_if_lt aX9_feed_40 (fun c40 => ?_) (fun c40 => ?_)
          · -- 40: taken
            exact absurd c40 (Int32.not_lt.mpr (nI_pos' (by omega)))
          · -- 40: not taken
            refine e_aload_n aX9_feed_43 rfl ?_
            refine e_getRF aX9_feed_44 fX9_38 rfl (fx_is F rfl) (fx_r (b := 118) F rfl) ?_
            refine e_aload_n aX9_feed_47 rfl ?_
            refine e_getIF aX9_feed_48 fX9_248 rfl (fx_is F rfl) (feH_l hl _) ?_
            refine e_iload_n aX9_feed_51 rfl ?_
            refine e_bipush (v := 8) aX9_feed_52 (by decide) ?_
            refine e_iload_n aX9_feed_54 rfl ?_
            refine e_imul aX9_feed_55 ?_
            refine e_ishr aX9_feed_56 ?_
            refine e_sipush (v := 255) aX9_feed_57 (by decide) ?_
            refine e_iand aX9_feed_60 ?_
            refine e_iastoreF aX9_feed_61 (fx_is F rfl) (fx_n (n := 120) F rfl) (vin (N := 120) (by omega)) ?_
            rw [cl (n := l + k) (by omega)]
            refine e_aload_n aX9_feed_62 rfl ?_
            refine e_dup aX9_feed_63 rfl ?_
            refine e_getIF aX9_feed_64 fX9_248 rfl (fx_is F rfl) ((wI_a (by decide)).trans (feH_l hl _)) ?_
            refine e_iconst (v := 1) aX9_feed_67 (by decide) ?_
            refine e_iadd aX9_feed_68 ?_
            refine e_top (nI_1 (l + k)) ?_
            refine e_putI aX9_feed_69 fX9_248 rfl (fx_is F rfl) (Or.inl rfl) ?_
            refine e_iinc aX9_feed_72 rfl rfl (Nat.le_of_ble_eq_true rfl) ?_
            refine e_goto aX9_feed_75 ?_
            refine e_ls (ls' := [(0, some (vR (some 109))), (1, some (vI x)), (2, some (vI (nI yz))), (3, some (vI (nI m - 1)))]) ⟨rfl, rfl, rfl, congrArg (fun x => some (vI x)) (nI_m1 m), trivial⟩ ?_
            refine e_hp ?_ (ih (k + 1) (by omega))
            show _ = wI (wI (feH h l x yz k) 118 (l + k) (ubI x (yz - 1 - k))) 109 14 (nI (l + k + 1))
            rw [show yz - 1 - k = m by omega]
            rfl
      refine e_iload_n aX9_feed_35 rfl ?_
      refine e_iconst (v := 1) aX9_feed_36 (by decide) ?_
      refine e_isub aX9_feed_37 ?_
      refine e_istore_n aX9_feed_38 (Nat.le_of_ble_eq_true rfl) ?_
      refine e_ls (ls' := [(0, some (vR (some 109))), (1, some (vI x)), (2, some (vI (nI yz))), (3, some (vI (nI yz - 1)))]) ⟨rfl, rfl, rfl, rfl, trivial⟩ ?_
      exact loop yz 0 (by omega)
    · -- 26: not taken
      have q26 : ¬ l + yz ≤ 120 := (not_congr (nI_leI (b := 120) (by omega) (by decide))).mp c26
      refine e_aload_n aX9_feed_29 rfl ?_
      refine e_iconst (v := 1) aX9_feed_30 (by decide) ?_
      refine e_invvT aX9_feed_31 kX9_128 (zX9_finds X F (k := 1) (by decide)) rfl rfl (fx_is F rfl) (Nat.le_of_ble_eq_true rfl) (Nat.le_of_ble_eq_true rfl) (Nat.le_refl _) (Nat.le_refl _) (Nat.le_of_ble_eq_true rfl) ?_
      refine e_ireturn aX9_feed_34 rfl (Nat.le_refl _) (Nat.le_refl _) ?_
      rw [if_neg q10, if_pos q11, cl (n := yz) (by omega), if_neg q26]
      exact ⟨rfl, rfl⟩
  · -- 9: not taken
    have q9 := Decidable.of_not_not (b2_0.mp c9)
    refine e_aload_n aX9_feed_12 rfl ?_
    refine e_iconst (v := 0) aX9_feed_13 (by decide) ?_
    refine e_invvT aX9_feed_14 kX9_128 (zX9_finds X F (k := 0) (by decide)) rfl rfl (fx_is F rfl) (Nat.le_of_ble_eq_true rfl) (Nat.le_of_ble_eq_true rfl) (Nat.le_refl _) (Nat.le_refl _) (Nat.le_of_ble_eq_true rfl) ?_
    refine e_ireturn aX9_feed_17 rfl (Nat.le_refl _) (Nat.le_refl _) ?_
    rcases q9 with z | z
    · rw [if_pos z]
      exact ⟨rfl, rfl⟩
    · rw [if_neg (fun w => absurd (Int32.lt_trans z w) (by decide)), if_neg (Int32.not_le.mpr z)]
      exact ⟨rfl, rfl⟩
