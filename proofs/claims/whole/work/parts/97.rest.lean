/-! calls: lays, copy, feed (written by wip/whole/g97.py) -/
theorem layH_L {h : HP} {a s b i : Nat} {t : Int32} : ∀ k, hL (layH h a s t k) b i = if b = a ∧ i < k then pvR t (dgt (hI h 39 s) i).toInt64 else hL h b i := by
  intro k
  induction k with
  | zero => rw [if_neg (by omega)]; rfl
  | succ k ih =>
    show (if b = a ∧ i = k then _ else hL (layH h a s t k) b i) = _
    rw [ih]
    by_cases e : b = a ∧ i = k
    · rw [if_pos e, if_pos (by omega), e.2]
    · rw [if_neg e]
      by_cases e2 : b = a ∧ i < k
      · rw [if_pos e2, if_pos (by omega)]
      · rw [if_neg e2, if_neg (by omega)]
theorem layH_K {M MR : Nat → Nat → Prop} {ML : Nat → Prop} {h h2 : HP} (k0 : Kc M MR ML h h2) {a s : Nat} {t : Int32} (ha : a < 134) (hm : ML a) : ∀ k, Kc M MR ML h (layH h2 a s t k) := by
  intro k
  induction k with
  | zero => exact k0
  | succ k ih => exact ih.wL ha hm
theorem pv3 : ∀ w, w < 3 → ∀ t : Int32, (t = 0 ∨ t = 1 ∨ t = 2) → pvR t (nI w).toInt64 = (nI w).toInt64 := by
  intro w hw t ht
  have h3 : ∀ w, w < 3 → pvR 0 (nI w).toInt64 = (nI w).toInt64 ∧ pvR 1 (nI w).toInt64 = (nI w).toInt64 ∧ pvR 2 (nI w).toInt64 = (nI w).toInt64 := by decide
  obtain ⟨a, b, d⟩ := h3 w hw
  rcases ht with rfl | rfl | rfl
  · exact a
  · exact b
  · exact d
theorem cpL_K {M MR : Nat → Nat → Prop} {ML : Nat → Prop} {h h2 : HP} (k : Kc M MR ML h h2) {a b sp dp m : Nat} (hb : b < 134) (hm : ML b) : Kc M MR ML h (cpL h2 a b sp dp m) := ⟨k.up.tr ⟨Nat.le_refl _, fun q hq _ => ⟨fun j => ⟨rfl, if_neg (by omega), rfl⟩, rfl, rfl⟩⟩, k.F, k.i, k.r, fun q hq z j => (if_neg (fun e => z (by rw [e]; exact hm))).trans (k.l q hq z j)⟩
theorem by8 : ∀ b, b < 256 → (-128 ≤ (nI b).toInt8.toInt32 ∧ (nI b).toInt8.toInt32 ≤ 127) ∧ ubv ((nI b).toInt8.toInt32) = nI b := by decide +kernel
theorem by_lo (Z : Int32) : Z.toInt8 = (nI (Z.toBitVec.toNat % 256)).toInt8 := by
  apply Int8.toInt_inj.mp
  rw [Int32.toInt_toInt8, Int32.toInt_toInt8]
  have h1 : Z.toBitVec.toNat % 256 < 256 := Nat.mod_lt _ (by decide)
  rw [nI_toInt (by omega)]
  have z1 : Z.toInt = (Z.toBitVec.toNat : Int).bmod (2 ^ 32) := BitVec.toInt_eq_toNat_bmod _
  rw [z1, Int.bmod_bmod_of_dvd (by decide)]
  exact (Int.emod_bmod _ _).symm
theorem byt_ub (x : Int32) {j : Nat} (hj : j < 4) : inB (vp_nar .byte (byI x j)) ∧ ubI x j = ubv (vp_nar .byte (byI x j)) := by
  have hk : ∀ j, j < 4 → (((8 * nI j) &&& 31).toBitVec.smod 32).toNat = 8 * j := by decide
  have hk2 : ∀ j, j < 4 → (((8 * nI j).toUInt32 &&& Int32.toUInt32 31).toBitVec % 32).toNat = 8 * j := by decide
  have e2 := pk_ushr x (8 * nI j) (8 * j) (hk2 j hj)
  have e3 : ubI x j = nI ((x >>> ((8 * nI j) &&& 31)).toBitVec.toNat % 2 ^ 8) := pk_and _ 8 rfl
  have e5 : (x >>> ((8 * nI j) &&& 31)).toBitVec = x.toBitVec.sshiftRight (8 * j) := by
    rw [Int32.toBitVec_shiftRight]
    show x.toBitVec.sshiftRight ((((8 * nI j) &&& 31).toBitVec.smod 32).toNat) = _
    rw [hk j hj]
  have e6 : (x.toBitVec.sshiftRight (8 * j)).toNat % 2 ^ 8 = x.toBitVec.toNat / 2 ^ (8 * j) % 2 ^ 8 := by
    apply Nat.eq_of_testBit_eq
    intro i
    rw [Nat.testBit_mod_two_pow, Nat.testBit_mod_two_pow, Nat.testBit_div_two_pow, BitVec.testBit_toNat, BitVec.testBit_toNat, BitVec.getLsbD_sshiftRight]
    by_cases hi : i < 8
    · rw [if_pos (by omega), decide_eq_false (by omega : ¬ 32 ≤ i), Nat.add_comm]
      simp
    · rw [decide_eq_false hi]
      simp
  have e4 : vp_nar .byte (byI x j) = ((x.toUInt32 >>> ((8 * nI j).toUInt32 &&& Int32.toUInt32 31)).toInt32.toInt8.toInt32).toInt8.toInt32 := rfl
  generalize (x.toUInt32 >>> ((8 * nI j).toUInt32 &&& Int32.toUInt32 31)).toInt32 = Z at e2 e4
  have e7 : (Z.toInt8.toInt32).toInt8 = Z.toInt8 := by
    apply Int8.toInt_inj.mp
    rw [Int32.toInt_toInt8, Int8.toInt_toInt32, Int32.toInt_toInt8]
    exact Int.bmod_bmod
  rw [e7, by_lo, e2] at e4
  rw [e5, e6] at e3
  have h1 : x.toBitVec.toNat / 2 ^ (8 * j) % 256 < 256 := Nat.mod_lt _ (by decide)
  obtain ⟨k1, k2⟩ := by8 _ h1
  rw [e4, e3]
  exact ⟨k1, k2.symm⟩
theorem fdH_I {h : HP} {l m a i : Nat} {x : Int32} : ∀ k, hI (fdH h l x m k) a i = if a = 42 ∧ l ≤ i ∧ i < l + k then vp_nar .byte (byI x (m - 1 - (i - l))) else if a = 41 ∧ i = 1 ∧ 0 < k then nI (l + k) else hI h a i := by
  intro k
  induction k with
  | zero => rw [if_neg (by omega), if_neg (by omega)]; rfl
  | succ k ih =>
    show (if a = 41 ∧ i = 1 then nI (l + k + 1) else if a = 42 ∧ i = l + k then vp_nar .byte (byI x (m - 1 - k)) else hI (fdH h l x m k) a i) = _
    rw [ih]
    by_cases e : a = 41 ∧ i = 1
    · rw [if_pos e, if_neg (by omega), if_pos (by omega)]; rfl
    · rw [if_neg e]
      by_cases e2 : a = 42 ∧ i = l + k
      · rw [if_pos e2, if_pos (by omega), show i - l = k by omega]
      · rw [if_neg e2]
        by_cases e3 : a = 42 ∧ l ≤ i ∧ i < l + k
        · rw [if_pos e3, if_pos (by omega)]
        · rw [if_neg e3, if_neg (by omega), if_neg (by omega), if_neg (by omega)]
theorem fdH_K {h : HP} (F : Fx h) {l m : Nat} {x : Int32} : ∀ k, Kc (fun a i => a = 42 ∨ (a = 41 ∧ i = 1)) (fun a _ => a = 0) (fun a => a = 0) h (fdH h l x m k) := by
  intro k
  induction k with
  | zero => exact Kc.rf F
  | succ k ih => exact (ih.wI (by decide) (Or.inl rfl)).wI (by decide) (Or.inr ⟨rfl, rfl⟩)
theorem feH_I {h : HP} {l m a i : Nat} {x : Int32} : ∀ k, hI (feH h l x m k) a i = if a = 118 ∧ l ≤ i ∧ i < l + k then ubI x (m - 1 - (i - l)) else if a = 109 ∧ i = 14 ∧ 0 < k then nI (l + k) else hI h a i := by
  intro k
  induction k with
  | zero => rw [if_neg (by omega), if_neg (by omega)]; rfl
  | succ k ih =>
    show (if a = 109 ∧ i = 14 then nI (l + k + 1) else if a = 118 ∧ i = l + k then ubI x (m - 1 - k) else hI (feH h l x m k) a i) = _
    rw [ih]
    by_cases e : a = 109 ∧ i = 14
    · rw [if_pos e, if_neg (by omega), if_pos (by omega)]; rfl
    · rw [if_neg e]
      by_cases e2 : a = 118 ∧ i = l + k
      · rw [if_pos e2, if_pos (by omega), show i - l = k by omega]
      · rw [if_neg e2]
        by_cases e3 : a = 118 ∧ l ≤ i ∧ i < l + k
        · rw [if_pos e3, if_pos (by omega)]
        · rw [if_neg e3, if_neg (by omega), if_neg (by omega), if_neg (by omega)]
theorem feH_S {h : HP} {l m : Nat} {x : Int32} : ∀ k, Sf (fun a i => a = 118 ∨ (a = 109 ∧ i = 14)) h (feH h l x m k) := by
  intro k
  induction k with
  | zero => exact Sf.rf _
  | succ k ih => exact (ih.wI (Or.inl rfl)).wI (Or.inr ⟨rfl, rfl⟩)
theorem y4_le {y : Int32} (h : y ≤ 4) : y.toNatClampNeg ≤ 4 := by
  have h := Int32.le_iff_toInt_le.mp h
  have e : (4 : Int32).toInt = 4 := rfl
  show y.toInt.toNat ≤ 4
  omega
theorem op_feed (X : EX) {c : Nat} {h : HP} (I : Inv c h) (x y : Int32) : Ct X mX8_feed 1 0 0 ([vR (some 32), vI x, vI y]) h (RES X c mX9_feed 1 [vI x, vI y]) := by
  obtain ⟨P, ic, im, pu⟩ := I
  have bf : BkF h P.b.f P.b.o := ic.cb.1
  have b : BkD h P.b.n P.b.A P.b.D := ic.cb.2.1
  refine ct_post (zX8_feed X ic.F ic.tp.1 ic.tp.2 x y) (fun v h1 q => ?_)
  skip
  by_cases z1 : y < 1
  · rw [if_pos z1] at q
    exact res_f ic im pu (k := 0) (by decide) q (fun F1 im1 => zX9_feed X F1 im1.tb.1 im1.tb.2.1 x y) (fun v2 h2 q2 => by
        rw [if_pos z1] at q2
        exact fq_M q2)
  · rw [if_neg z1] at q
    by_cases z2 : y ≤ 4
    · rw [if_pos z2] at q
      by_cases z3 : P.l + y.toNatClampNeg ≤ 120
      · rw [if_pos z3] at q
        obtain ⟨rfl, rfl⟩ := q
        have hy4 : y.toNatClampNeg ≤ 4 := y4_le z2
        have K : Kc (fun a i => a = 42 ∨ (a = 41 ∧ i = 1)) (fun a _ => a = 0) (fun a => a = 0) h (fdH h P.l x y.toNatClampNeg y.toNatClampNeg) := fdH_K ic.F y.toNatClampNeg
        have ic1 : IC (ppK P.b P.N P.T P.g P.im (P.l + y.toNatClampNeg) (fun i => if i < P.l then P.bt i else vp_nar .byte (byI x (y.toNatClampNeg - 1 - (i - P.l)))) P.tS P.qS P.sL P.S P.E P.SI P.B P.ID) (fdH h P.l x y.toNatClampNeg y.toNatClampNeg) := ⟨K.F, ic.cb.k K (by decide) (by intros; (try dsimp only); omega), ic.ow.k K (by intros; (try dsimp only); omega), fun k hk => (K.i _ (by decide) _ (by intros; (try dsimp only); omega)).trans (ic.fn k hk), fun k hk => (K.i _ (by decide) _ (by intros; (try dsimp only); omega)).trans (ic.tl k hk), (K.i _ (by decide) _ (by intros; (try dsimp only); omega)).trans ic.pg, pi.k ic.pi pu.g6 K (by intros; (try dsimp only); omega), ⟨fdH_1 ic.tp.1 y.toNatClampNeg, z3⟩, fun i hi => by
          have hi : i < P.l + y.toNatClampNeg := hi
          show hI (fdH h P.l x y.toNatClampNeg y.toNatClampNeg) 42 i = (if i < P.l then P.bt i else _)
          rw [fdH_I y.toNatClampNeg]
          by_cases e : i < P.l
          · rw [if_neg (by omega), if_neg (by omega), if_pos e]
            exact ic.tb i e
          · rw [if_pos (by omega), if_neg e], ic.sh.k K (by intros; (try dsimp only); omega), fun s hs i hi => (K.l _ (by omega) (by intros; (try dsimp only); omega) _).trans (ic.sl s hs i hi), ic.sp.k K (by intros; (try dsimp only); omega), fun a j e => Nat.lt_of_lt_of_le (ic.id a j e) K.up.1⟩
        have im1 : IM P (fdH h P.l x y.toNatClampNeg y.toNatClampNeg) := im.kc K (by intros; (try dsimp only); omega) (by intros; (try dsimp only); omega)
        refine res_c (P2 := (ppK P.b P.N P.T P.g P.im (P.l + y.toNatClampNeg) (fun i => if i < P.l then P.bt i else vp_nar .byte (byI x (y.toNatClampNeg - 1 - (i - P.l)))) P.tS P.qS P.sL P.S P.E P.SI P.B P.ID)) rfl K.F im1 (fun F1 im1 => zX9_feed X F1 im1.tb.1 im1.tb.2.1 x y) (fun v2 h2 q2 => ?_)
        rw [if_neg z1, if_pos z2, if_pos z3] at q2
        obtain ⟨rfl, rfl⟩ := q2
        have S : Sf (fun a i => a = 118 ∨ (a = 109 ∧ i = 14)) (fdH h P.l x y.toNatClampNeg y.toNatClampNeg) (feH (fdH h P.l x y.toNatClampNeg y.toNatClampNeg) P.l x y.toNatClampNeg y.toNatClampNeg) := feH_S y.toNatClampNeg
        have e9 := S.2
        have eL : ∀ i, hL (feH (fdH h P.l x y.toNatClampNeg y.toNatClampNeg) P.l x y.toNatClampNeg y.toNatClampNeg) 124 i = hL (fdH h P.l x y.toNatClampNeg y.toNatClampNeg) 124 i := fun i => congrFun (congrFun (congrArg (fun z => z.1) (feH_2 _)) 124) i
        refine ⟨rfl, ic1.sf pu.g6 S (by intros; (try dsimp only); omega), ?_, pu.s⟩
        have im := im1
        exact ⟨im.mb.go (fun a i z => e9 a i (by intros; (try dsimp only); omega)), fun k hk => (e9 _ _ (by intros; (try dsimp only); omega)).trans (im.fn k hk), fun k hk => (e9 _ _ (by intros; (try dsimp only); omega)).trans (im.tl k hk), (e9 _ _ (by intros; (try dsimp only); omega)).trans im.pg, fun j hj => (im.pi j hj).elim (fun h3 q => ⟨h3, q.1.go (fun a i z => e9 a i (by intros; (try dsimp only); omega)), q.2⟩), ⟨feH_l im.tb.1 y.toNatClampNeg, z3, fun i hi => by
          have hi : i < P.l + y.toNatClampNeg := hi
          show hI (feH (fdH h P.l x y.toNatClampNeg y.toNatClampNeg) P.l x y.toNatClampNeg y.toNatClampNeg) 118 i = ubv (if i < P.l then P.bt i else _) ∧ inB (if i < P.l then P.bt i else _)
          rw [feH_I y.toNatClampNeg]
          by_cases e : i < P.l
          · rw [if_neg (by omega), if_neg (by omega), if_pos e]
            exact im.tb.2.2.1 i e
          · have hu := byt_ub x (show y.toNatClampNeg - 1 - (i - P.l) < 4 by omega)
            rw [if_pos (by omega), if_neg e]
            exact ⟨hu.2, hu.1⟩, fun i hi => (e9 _ _ (by intros; (try dsimp only); omega)).trans (im.tb.2.2.2 i hi)⟩, im.sh.go (fun a i z => e9 a i (by intros; (try dsimp only); omega)), fun s hs i hi => (eL _).trans (im.sl s hs i hi), fun i hi => (im.sp i hi).go (fun a z => e9 a i (by intros; (try dsimp only); omega)), (e9 _ _ (by intros; (try dsimp only); omega)).trans im.bn⟩
      · rw [if_neg z3] at q
        exact res_f ic im pu (k := 1) (by decide) q (fun F1 im1 => zX9_feed X F1 im1.tb.1 im1.tb.2.1 x y) (fun v2 h2 q2 => by
            rw [if_neg z1, if_pos z2, if_neg z3] at q2
            exact fq_M q2)
    · rw [if_neg z2] at q
      exact res_f ic im pu (k := 0) (by decide) q (fun F1 im1 => zX9_feed X F1 im1.tb.1 im1.tb.2.1 x y) (fun v2 h2 q2 => by
          rw [if_neg z1, if_neg z2] at q2
          exact fq_M q2)
theorem op_copy (X : EX) {c : Nat} {h : HP} (I : Inv c h) (x u y v9 r : Int32) : Ct X mX8_copy 1 0 0 ([vR (some 32), vI x, vI u, vI y, vI v9, vI r]) h (RES X c mX9_copy 2 [vI x, vI u, vI y, vI v9, vI r]) := by
  obtain ⟨P, ic, im, pu⟩ := I
  have bf : BkF h P.b.f P.b.o := ic.cb.1
  have b : BkD h P.b.n P.b.A P.b.D := ic.cb.2.1
  refine ct_post (zX8_copy X ic.F ic.sh x u y v9 r) (fun v h1 q => ?_)
  skip
  by_cases z1 : x < 0 ∨ 4 ≤ x
  · rw [if_pos z1] at q
    exact res_f ic im pu (k := 0) (by decide) q (fun F1 im1 => zX9_copy X F1 im1.sh x u y v9 r) (fun v2 h2 q2 => by
        rw [if_pos z1] at q2
        exact fq_M q2)
  · rw [if_neg z1] at q
    by_cases z2 : y < 0 ∨ 4 ≤ y
    · rw [if_pos z2] at q
      exact res_f ic im pu (k := 0) (by decide) q (fun F1 im1 => zX9_copy X F1 im1.sh x u y v9 r) (fun v2 h2 q2 => by
          rw [if_neg z1, if_pos z2] at q2
          exact fq_M q2)
    · rw [if_neg z2] at q
      by_cases z3 : P.tS x.toNatClampNeg = -1
      · rw [if_pos z3] at q
        exact res_f ic im pu (k := 5) (by decide) q (fun F1 im1 => zX9_copy X F1 im1.sh x u y v9 r) (fun v2 h2 q2 => by
            rw [if_neg z1, if_neg z2, if_pos z3] at q2
            exact fq_M q2)
      · rw [if_neg z3] at q
        by_cases z4 : P.tS y.toNatClampNeg = -1
        · rw [if_pos z4] at q
          exact res_f ic im pu (k := 5) (by decide) q (fun F1 im1 => zX9_copy X F1 im1.sh x u y v9 r) (fun v2 h2 q2 => by
              rw [if_neg z1, if_neg z2, if_neg z3, if_pos z4] at q2
              exact fq_M q2)
        · rw [if_neg z4] at q
          by_cases z5 : P.tS x.toNatClampNeg = P.tS y.toNatClampNeg
          · rw [if_pos z5] at q
            by_cases z6 : ¬ u < 0 ∧ ¬ r < 0 ∧ u ≤ nI (P.qS x.toNatClampNeg) ∧ r ≤ nI (P.qS x.toNatClampNeg) - u
            · rw [if_pos z6] at q
              by_cases z7 : ¬ v9 < 0 ∧ ¬ r < 0 ∧ v9 ≤ nI (P.qS y.toNatClampNeg) ∧ r ≤ nI (P.qS y.toNatClampNeg) - v9
              · rw [if_pos z7] at q
                obtain ⟨rfl, rfl⟩ := q
                have hx4 : x.toNatClampNeg < 4 := cl_lt (N := 4) (by decide) z1
                have hy4 : y.toNatClampNeg < 4 := cl_lt (N := 4) (by decide) z2
                have hqx := (ic.sh _ hx4).2.2.2
                have hqy := (ic.sh _ hy4).2.2.2
                have r1 := (run_sub hqx z6.1 z6.2.1).mp ⟨z6.2.2.2, z6.2.2.1⟩
                have r2 := (run_sub hqy z7.1 z7.2.1).mp ⟨z7.2.2.2, z7.2.2.1⟩
                have K : Kc (fun a _ => a = 0) (fun a _ => a = 0) (fun a => a = 102 + 2 * y.toNatClampNeg) h (cpL h (102 + 2 * x.toNatClampNeg) (102 + 2 * y.toNatClampNeg) u.toNatClampNeg v9.toNatClampNeg r.toNatClampNeg) := cpL_K (Kc.rf ic.F) (by omega) rfl
                have ic1 : IC (ppK P.b P.N P.T P.g P.im P.l P.bt P.tS P.qS (fun s i => if s = y.toNatClampNeg ∧ v9.toNatClampNeg ≤ i ∧ i < v9.toNatClampNeg + r.toNatClampNeg then P.sL x.toNatClampNeg (u.toNatClampNeg + (i - v9.toNatClampNeg)) else P.sL s i) P.S P.E P.SI P.B P.ID) (cpL h (102 + 2 * x.toNatClampNeg) (102 + 2 * y.toNatClampNeg) u.toNatClampNeg v9.toNatClampNeg r.toNatClampNeg) := ⟨K.F, ic.cb.k K (by decide) (by intros; (try dsimp only); omega), ic.ow.k K (by intros; (try dsimp only); omega), fun k hk => (K.i _ (by decide) _ (by intros; (try dsimp only); omega)).trans (ic.fn k hk), fun k hk => (K.i _ (by decide) _ (by intros; (try dsimp only); omega)).trans (ic.tl k hk), (K.i _ (by decide) _ (by intros; (try dsimp only); omega)).trans ic.pg, pi.k ic.pi pu.g6 K (by intros; (try dsimp only); omega), ⟨(K.i _ (by decide) _ (by intros; (try dsimp only); omega)).trans ic.tp.1, ic.tp.2⟩, fun i hi => (K.i _ (by decide) _ (by intros; (try dsimp only); omega)).trans (ic.tb i hi), ic.sh.k K (by intros; (try dsimp only); omega), fun s hs i hi => by
                  have hi : i < P.qS s := hi
                  show (if 102 + 2 * s = 102 + 2 * y.toNatClampNeg then va_cpy (hL h (102 + 2 * x.toNatClampNeg)) (hL h (102 + 2 * y.toNatClampNeg)) u.toNatClampNeg v9.toNatClampNeg r.toNatClampNeg i else hL h (102 + 2 * s) i) = (if s = y.toNatClampNeg ∧ v9.toNatClampNeg ≤ i ∧ i < v9.toNatClampNeg + r.toNatClampNeg then P.sL x.toNatClampNeg (u.toNatClampNeg + (i - v9.toNatClampNeg)) else P.sL s i)
                  by_cases e : s = y.toNatClampNeg
                  · rw [if_pos (by omega)]
                    show (if v9.toNatClampNeg ≤ i ∧ i < v9.toNatClampNeg + r.toNatClampNeg then hL h (102 + 2 * x.toNatClampNeg) (u.toNatClampNeg + (i - v9.toNatClampNeg)) else hL h (102 + 2 * y.toNatClampNeg) i) = _
                    by_cases e2 : v9.toNatClampNeg ≤ i ∧ i < v9.toNatClampNeg + r.toNatClampNeg
                    · rw [if_pos e2, if_pos ⟨e, e2⟩]
                      exact ic.sl _ hx4 _ (by omega)
                    · rw [if_neg e2, if_neg (fun q => e2 q.2), ← e]
                      exact ic.sl s hs i hi
                  · rw [if_neg (by omega), if_neg (fun q => e q.1)]
                    exact ic.sl s hs i hi, ic.sp.k K (by intros; (try dsimp only); omega), fun a j e => Nat.lt_of_lt_of_le (ic.id a j e) K.up.1⟩
                have im1 : IM P (cpL h (102 + 2 * x.toNatClampNeg) (102 + 2 * y.toNatClampNeg) u.toNatClampNeg v9.toNatClampNeg r.toNatClampNeg) := im.kc K (by intros; (try dsimp only); omega) (by intros; (try dsimp only); omega)
                refine res_c (P2 := (ppK P.b P.N P.T P.g P.im P.l P.bt P.tS P.qS (fun s i => if s = y.toNatClampNeg ∧ v9.toNatClampNeg ≤ i ∧ i < v9.toNatClampNeg + r.toNatClampNeg then P.sL x.toNatClampNeg (u.toNatClampNeg + (i - v9.toNatClampNeg)) else P.sL s i) P.S P.E P.SI P.B P.ID)) rfl K.F im1 (fun F1 im1 => zX9_copy X F1 im1.sh x u y v9 r) (fun v2 h2 q2 => ?_)
                rw [if_neg z1, if_neg z2, if_neg z3, if_neg z4, if_pos z5, if_pos z6, if_pos z7] at q2
                obtain ⟨rfl, rfl⟩ := q2
                have e9 : ∀ a i, ¬ (fun a _ => a = 999) a i → hI (cpM (mvL (cpL h (102 + 2 * x.toNatClampNeg) (102 + 2 * y.toNatClampNeg) u.toNatClampNeg v9.toNatClampNeg r.toNatClampNeg) (40 * x.toNatClampNeg + u.toNatClampNeg) r.toNatClampNeg) (40 * y.toNatClampNeg + v9.toNatClampNeg) r.toNatClampNeg) a i = hI (cpL h (102 + 2 * x.toNatClampNeg) (102 + 2 * y.toNatClampNeg) u.toNatClampNeg v9.toNatClampNeg r.toNatClampNeg) a i := fun _ _ _ => by rw [cpM_I, mvL_I]
                refine ⟨rfl, ic1.fr pu.g6 (by rw [cpM_2, mvL_2]) (fun _ _ _ => by rw [cpM_I, mvL_I]) (fun a z i => by rw [cpM_L, if_neg (by omega), mvL_L, if_neg (by omega)]), ?_, pu.s⟩
                have im := im1
                exact ⟨im.mb.go (fun a i z => e9 a i (by intros; (try dsimp only); omega)), fun k hk => (e9 _ _ (by intros; (try dsimp only); omega)).trans (im.fn k hk), fun k hk => (e9 _ _ (by intros; (try dsimp only); omega)).trans (im.tl k hk), (e9 _ _ (by intros; (try dsimp only); omega)).trans im.pg, fun j hj => (im.pi j hj).elim (fun h3 q => ⟨h3, q.1.go (fun a i z => e9 a i (by intros; (try dsimp only); omega)), q.2⟩), im.tb.go (fun a i z => e9 a i (by intros; (try dsimp only); omega)), im.sh.go (fun a i z => e9 a i (by intros; (try dsimp only); omega)), fun s hs i hi => by
                  have hi : i < P.qS s := hi
                  have h40 := (ic.sh s hs).2.2.2
                  show hL (cpM (mvL (cpL h (102 + 2 * x.toNatClampNeg) (102 + 2 * y.toNatClampNeg) u.toNatClampNeg v9.toNatClampNeg r.toNatClampNeg) (40 * x.toNatClampNeg + u.toNatClampNeg) r.toNatClampNeg) (40 * y.toNatClampNeg + v9.toNatClampNeg) r.toNatClampNeg) 124 (40 * s + i) = (if s = y.toNatClampNeg ∧ v9.toNatClampNeg ≤ i ∧ i < v9.toNatClampNeg + r.toNatClampNeg then P.sL x.toNatClampNeg (u.toNatClampNeg + (i - v9.toNatClampNeg)) else P.sL s i)
                  rw [cpM_L, mvL_L, mvL_L]
                  by_cases e : s = y.toNatClampNeg ∧ v9.toNatClampNeg ≤ i ∧ i < v9.toNatClampNeg + r.toNatClampNeg
                  · have e0 := e.1
                    rw [if_pos (by omega), if_pos (by omega), if_pos e, show 40 * x.toNatClampNeg + u.toNatClampNeg + (40 * s + i - (40 * y.toNatClampNeg + v9.toNatClampNeg)) = 40 * x.toNatClampNeg + (u.toNatClampNeg + (i - v9.toNatClampNeg)) by omega]
                    exact im.sl _ hx4 _ (by omega)
                  · rw [if_neg (by omega), if_neg (by omega), if_neg e]
                    exact im.sl s hs i hi, fun i hi => (im.sp i hi).go (fun a z => e9 a i (by intros; (try dsimp only); omega)), (e9 _ _ (by intros; (try dsimp only); omega)).trans im.bn⟩
              · rw [if_neg z7] at q
                exact res_f ic im pu (k := 0) (by decide) q (fun F1 im1 => zX9_copy X F1 im1.sh x u y v9 r) (fun v2 h2 q2 => by
                    rw [if_neg z1, if_neg z2, if_neg z3, if_neg z4, if_pos z5, if_pos z6, if_neg z7] at q2
                    exact fq_M q2)
            · rw [if_neg z6] at q
              exact res_f ic im pu (k := 0) (by decide) q (fun F1 im1 => zX9_copy X F1 im1.sh x u y v9 r) (fun v2 h2 q2 => by
                  rw [if_neg z1, if_neg z2, if_neg z3, if_neg z4, if_pos z5, if_neg z6] at q2
                  exact fq_M q2)
          · rw [if_neg z5] at q
            exact res_f ic im pu (k := 2) (by decide) q (fun F1 im1 => zX9_copy X F1 im1.sh x u y v9 r) (fun v2 h2 q2 => by
                rw [if_neg z1, if_neg z2, if_neg z3, if_neg z4, if_neg z5] at q2
                exact fq_M q2)
theorem op_lays (X : EX) {c : Nat} {h : HP} (I : Inv c h) (x y : Int32) : Ct X mX8_lays 3 0 0 ([vR (some 32), vI x, vI y]) h (RES X c mX9_lays_ 7 [vI x, vI y]) := by
  obtain ⟨P, ic, im, pu⟩ := I
  have bf : BkF h P.b.f P.b.o := ic.cb.1
  have b : BkD h P.b.n P.b.A P.b.D := ic.cb.2.1
  refine ct_post (zX8_lays X ic.F bf ic.sh x y) (fun v h1 q => ?_)
  have O := owR9 ic pu
  by_cases z1 : x < 0 ∨ 4 ≤ x
  · rw [if_pos z1] at q
    exact res_f ic im pu (k := 0) (by decide) q (fun F1 im1 => zX9_lays_ X F1 im1.mb.1 im1.mb.2.1 im1.sh x y) (fun v2 h2 q2 => by
        rw [if_pos z1] at q2
        exact fq_M q2)
  · rw [if_neg z1] at q
    by_cases z2 : nI (fo P.b.o P.b.f) ≤ y ∧ y < nI (fo P.b.o P.b.f + om P.b.f)
    · rw [if_pos z2] at q
      by_cases z3 : P.tS x.toNatClampNeg = -1
      · rw [if_pos z3] at q
        exact res_f ic im pu (k := 5) (by decide) q (fun F1 im1 => zX9_lays_ X F1 im1.mb.1 im1.mb.2.1 im1.sh x y) (fun v2 h2 q2 => by
            rw [if_neg z1, if_pos z2, if_pos z3] at q2
            exact fq_M q2)
      · rw [if_neg z3] at q
        obtain ⟨rfl, rfl⟩ := q
        have hx4 : x.toNatClampNeg < 4 := cl_lt (N := 4) (by decide) z1
        have hqx := (ic.sh _ hx4).2.2.2
        have ht3 : P.tS x.toNatClampNeg = 0 ∨ P.tS x.toNatClampNeg = 1 ∨ P.tS x.toNatClampNeg = 2 := (ic.sh _ hx4).2.1.elim (fun e => absurd e z3) id
        have K : Kc (fun a _ => a = 0) (fun a _ => a = 0) (fun a => a = 102 + 2 * x.toNatClampNeg) h (layH h (102 + 2 * x.toNatClampNeg) y.toNatClampNeg (P.tS x.toNatClampNeg) (min (P.qS x.toNatClampNeg) 12)) := layH_K (ML := fun a => a = 102 + 2 * x.toNatClampNeg) (a := 102 + 2 * x.toNatClampNeg) (Kc.rf ic.F) (by omega) rfl _
        have ic1 : IC (ppK P.b P.N P.T P.g P.im P.l P.bt P.tS P.qS (fun s i => if s = x.toNatClampNeg ∧ i < (min (P.qS x.toNatClampNeg) 12) then (nI (owR P.b.D P.b.n y.toNatClampNeg i)).toInt64 else P.sL s i) P.S P.E P.SI P.B P.ID) (layH h (102 + 2 * x.toNatClampNeg) y.toNatClampNeg (P.tS x.toNatClampNeg) (min (P.qS x.toNatClampNeg) 12)) := ⟨K.F, ic.cb.k K (by decide) (by intros; (try dsimp only); omega), ic.ow.k K (by intros; (try dsimp only); omega), fun k hk => (K.i _ (by decide) _ (by intros; (try dsimp only); omega)).trans (ic.fn k hk), fun k hk => (K.i _ (by decide) _ (by intros; (try dsimp only); omega)).trans (ic.tl k hk), (K.i _ (by decide) _ (by intros; (try dsimp only); omega)).trans ic.pg, pi.k ic.pi pu.g6 K (by intros; (try dsimp only); omega), ⟨(K.i _ (by decide) _ (by intros; (try dsimp only); omega)).trans ic.tp.1, ic.tp.2⟩, fun i hi => (K.i _ (by decide) _ (by intros; (try dsimp only); omega)).trans (ic.tb i hi), ic.sh.k K (by intros; (try dsimp only); omega), fun s hs i hi => by
          have hi : i < P.qS s := hi
          show hL (layH h (102 + 2 * x.toNatClampNeg) y.toNatClampNeg (P.tS x.toNatClampNeg) (min (P.qS x.toNatClampNeg) 12)) (102 + 2 * s) i = (if s = x.toNatClampNeg ∧ i < (min (P.qS x.toNatClampNeg) 12) then (nI (owR P.b.D P.b.n y.toNatClampNeg i)).toInt64 else P.sL s i)
          rw [layH_L]
          by_cases e : s = x.toNatClampNeg ∧ i < (min (P.qS x.toNatClampNeg) 12)
          · have e1 := e.2
            rw [if_pos (by omega), if_pos e, (O _ (op_in ic z2).1 (op_in ic z2).2 i (by omega)).1]
            exact pv3 _ (O _ (op_in ic z2).1 (op_in ic z2).2 i (by omega)).2 _ ht3
          · rw [if_neg (by omega), if_neg e]
            exact ic.sl s hs i hi, ic.sp.k K (by intros; (try dsimp only); omega), fun a j e => Nat.lt_of_lt_of_le (ic.id a j e) K.up.1⟩
        have im1 : IM P (layH h (102 + 2 * x.toNatClampNeg) y.toNatClampNeg (P.tS x.toNatClampNeg) (min (P.qS x.toNatClampNeg) 12)) := im.kc K (by intros; (try dsimp only); omega) (by intros; (try dsimp only); omega)
        refine res_c (P2 := (ppK P.b P.N P.T P.g P.im P.l P.bt P.tS P.qS (fun s i => if s = x.toNatClampNeg ∧ i < (min (P.qS x.toNatClampNeg) 12) then (nI (owR P.b.D P.b.n y.toNatClampNeg i)).toInt64 else P.sL s i) P.S P.E P.SI P.B P.ID)) rfl K.F im1 (fun F1 im1 => zX9_lays_ X F1 im1.mb.1 im1.mb.2.1 im1.sh x y) (fun v2 h2 q2 => ?_)
        rw [if_neg z1, if_pos z2, if_neg z3] at q2
        obtain ⟨rfl, q2I, q2R, q2L⟩ := q2
        have e9 : ∀ a i, ¬ (fun a i => a = 115 ∨ a = 116 ∨ (a = 109 ∧ i = 11)) a i → hI h2 a i = hI (layH h (102 + 2 * x.toNatClampNeg) y.toNatClampNeg (P.tS x.toNatClampNeg) (min (P.qS x.toNatClampNeg) 12)) a i := fun a i z => q2I a i z
        refine ⟨rfl, ic1.fr pu.g6 q2R (fun a z i => e9 a i (by intros; (try dsimp only); omega)) (fun a z i => by rw [q2L, if_neg (by omega)]), ?_, pu.s⟩
        have im := im1
        exact ⟨im.mb.go (fun a i z => e9 a i (by intros; (try dsimp only); omega)), fun k hk => (e9 _ _ (by intros; (try dsimp only); omega)).trans (im.fn k hk), fun k hk => (e9 _ _ (by intros; (try dsimp only); omega)).trans (im.tl k hk), (e9 _ _ (by intros; (try dsimp only); omega)).trans im.pg, fun j hj => (im.pi j hj).elim (fun h3 q => ⟨h3, q.1.go (fun a i z => e9 a i (by intros; (try dsimp only); omega)), q.2⟩), im.tb.go (fun a i z => e9 a i (by intros; (try dsimp only); omega)), im.sh.go (fun a i z => e9 a i (by intros; (try dsimp only); omega)), fun s hs i hi => by
          have hi : i < P.qS s := hi
          have h40 := (ic.sh s hs).2.2.2
          show hL h2 124 (40 * s + i) = (if s = x.toNatClampNeg ∧ i < (min (P.qS x.toNatClampNeg) 12) then (nI (owR P.b.D P.b.n y.toNatClampNeg i)).toInt64 else P.sL s i)
          rw [q2L]
          by_cases e : s = x.toNatClampNeg ∧ i < (min (P.qS x.toNatClampNeg) 12)
          · have e1 := e.2
            rw [if_pos (by omega), if_pos e, show 40 * s + i - 40 * x.toNatClampNeg = i by omega]
          · rw [if_neg (by omega), if_neg e]
            exact im.sl s hs i hi, fun i hi => (im.sp i hi).go (fun a z => e9 a i (by intros; (try dsimp only); omega)), (e9 _ _ (by intros; (try dsimp only); omega)).trans im.bn⟩
    · rw [if_neg z2] at q
      exact res_f ic im pu (k := 0) (by decide) q (fun F1 im1 => zX9_lays_ X F1 im1.mb.1 im1.mb.2.1 im1.sh x y) (fun v2 h2 q2 => by
          rw [if_neg z1, if_neg z2] at q2
          exact fq_M q2)
