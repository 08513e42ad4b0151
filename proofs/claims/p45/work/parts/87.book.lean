/-! the law: its Book (written by wip/p45/g87.py) -/
/-- a deal's row of ints at a -/
def FaC (h : HP) (a : Nat) (d : DD) : Prop := 116 ≤ a ∧ Is h a 13 ∧ hN h a = 6 ∧ dWf d ∧ dC d = false ∧ hI h a 0 = nI (dK d) ∧ hI h a 1 = nI (dF d) ∧ hI h a 2 = nI (dT d) ∧ hI h a 3 = nI (dP d) ∧ hI h a 4 = oI (dO d) ∧ hI h a 5 = nI (dN d)
/-- the law's lists -/
def LL (h : HP) (m e1 e2 : Nat) (fa : Nat → Nat) (E : Nat → DD) : Prop := AL h 110 m e1 (fun i => some (fa i)) ∧ AL h 111 m e2 (fun _ => none) ∧ (m ≠ 0 → e1 ≠ e2) ∧ ∀ i, i < m → FaC h (fa i) (E i)
/-- its YEARS, its deals -/
def LY (h : HP) (f : Nat) (o : Nat → Nat) : Prop := hI h 109 4 = nI f ∧ f ≤ 4 ∧ (∀ y, y < f → hI h 113 y = nI (o y)) ∧ ∀ y, y < f → o y < 6
def LT (h : HP) (m n : Nat) (τ : Nat → Nat) (E D : Nat → DD) : Prop := hI h 109 3 = nI n ∧ n ≤ 12 ∧ ∀ k, k < n → hI h 112 k = nI (τ k) ∧ τ k < m ∧ D k = E (τ k)
theorem om_div : ∀ f, f < 4 → om f / 6 = om (f + 1) ∧ stp f = om (f + 1) := by decide
theorem om_lt {f : Nat} (h : f ≤ 4) : om f ≤ 1296 := by
  have : f = 0 ∨ f = 1 ∨ f = 2 ∨ f = 3 ∨ f = 4 := by omega
  rcases this with rfl | rfl | rfl | rfl | rfl <;> decide
theorem zX9_from (X : EX) {h : HP} (F : Fx h) {f : Nat} {o : Nat → Nat} (ly : LY h f o) : Ct X mX9_from 0 0 0 [vR (some 109)] h (Rt (vI (nI (fo o f))) h) := by
  refine ct_of rfl (Nat.le_of_ble_eq_true rfl) ?_
  have hf4 := ly.2.1
  have loop : ∀ (m : Nat) (k : Nat), k + m = f → Ev X mX9_from 0 0 0 (Rt (vI (nI (fo o f))) h) 0 0 8 [(0, some (vR (some 109))), (1, some (vI (nI (fo o k)))), (2, some (vI (nI (om k)))), (3, some (vI (nI k)))] [] h := by
    intro m
    induction m with
    | zero =>
      intro k hk
      obtain rfl : k = f := by omega
      refine e_iload_n aX9_from_8 rfl ?_
      refine e_aload_n aX9_from_9 rfl ?_
      refine e_getIF aX9_from_10 fX9_32 rfl (fx_is F rfl) ly.1 ?_
      refine e_icmp_ge aX9_from_13 (fun c13 => ?_) (fun c13 => ?_)
      · -- 13: taken
        refine e_iload_n aX9_from_38 rfl ?_
        refine e_ireturn aX9_from_39 rfl (Nat.le_refl _) (Nat.le_refl _) ?_
        exact ⟨rfl, rfl⟩
      · -- 13: not taken
        exact absurd (nI_le (by omega) (by omega)) c13
    | succ m ih =>
      intro k hk
      have hom := om_lt (f := k) (by omega)
      refine e_iload_n aX9_from_8 rfl ?_
      refine e_aload_n aX9_from_9 rfl ?_
      refine e_getIF aX9_from_10 fX9_32 rfl (fx_is F rfl) ly.1 ?_
      refine e_icmp_ge aX9_from_13 (fun c13 => ?_) (fun c13 => ?_)
      · -- 13: taken
        exact absurd c13 (nI_ge (by omega) (by omega))
      · -- 13: not taken
        refine e_iload_n aX9_from_16 rfl ?_
        refine e_bipush (v := 6) aX9_from_17 (by decide) ?_
        refine e_idiv aX9_from_19 (by decide) ?_
        refine e_top (nI_div (b := 6) (by omega) (by decide) (by decide)) ?_
        rw [(om_div k (by omega)).1]
        refine e_istore_n aX9_from_20 (Nat.le_of_ble_eq_true rfl) ?_
        refine e_iload_n aX9_from_21 rfl ?_
        refine e_iload_n aX9_from_22 rfl ?_
        refine e_aload_n aX9_from_23 rfl ?_
        refine e_getRF aX9_from_24 fX9_23 rfl (fx_is F rfl) (fx_r (b := 113) F rfl) ?_
        refine e_iload_n aX9_from_27 rfl ?_
        refine e_ialoadF aX9_from_28 (fx_is F rfl) (fx_n (n := 4) F rfl) (vin (N := 4) (by omega)) (show hI h 113 (nI k).toNatClampNeg = nI (o k) by rw [cl (by omega)]; exact ly.2.2.1 k (by omega)) ?_
        refine e_imul aX9_from_29 ?_
        refine e_top (nI_mul _ _) ?_
        refine e_iadd aX9_from_30 ?_
        refine e_top (nI_add _ _) ?_
        refine e_istore_n aX9_from_31 (Nat.le_of_ble_eq_true rfl) ?_
        refine e_iinc aX9_from_32 rfl rfl (Nat.le_of_ble_eq_true rfl) ?_
        refine e_goto aX9_from_35 ?_
        refine e_ls (ls' := [(0, some (vR (some 109))), (1, some (vI (nI (fo o (k + 1))))), (2, some (vI (nI (om (k + 1))))), (3, some (vI (nI (k + 1))))]) ⟨rfl, congrArg (fun x => some (vI x)) (congrArg nI (show fo o k + om (k + 1) * o k = fo o k + o k * stp k by rw [(om_div k (by omega)).2, Nat.mul_comm])), rfl, congrArg (fun x => some (vI x)) (nI_1 k), trivial⟩ ?_
        exact ih (k + 1) (by omega)
  refine e_iconst (v := 0) aX9_from_0 (by decide) ?_
  refine e_istore_n aX9_from_1 (Nat.le_of_ble_eq_true rfl) ?_
  refine e_sipush (v := 1296) aX9_from_2 (by decide) ?_
  refine e_istore_n aX9_from_5 (Nat.le_of_ble_eq_true rfl) ?_
  refine e_iconst (v := 0) aX9_from_6 (by decide) ?_
  refine e_istore_n aX9_from_7 (Nat.le_of_ble_eq_true rfl) ?_
  refine e_ls (ls' := [(0, some (vR (some 109))), (1, some (vI (nI (fo o 0)))), (2, some (vI (nI (om 0)))), (3, some (vI (nI 0)))]) ⟨rfl, rfl, rfl, rfl, trivial⟩ ?_
  exact loop f 0 (by omega)
theorem zX9_size (X : EX) {h : HP} (F : Fx h) {f : Nat} {o : Nat → Nat} (ly : LY h f o) : Ct X mX9_size 0 0 0 [vR (some 109)] h (Rt (vI (nI (om f))) h) := by
  refine ct_of rfl (Nat.le_of_ble_eq_true rfl) ?_
  have hf4 := ly.2.1
  refine e_aload_n aX9_size_0 rfl ?_
  refine e_getIF aX9_size_1 fX9_32 rfl (fx_is F rfl) ly.1 ?_
  refine e_if_ne aX9_size_4 (fun c4 => ?_) (fun c4 => ?_)
  · -- 4: taken
    have q4 : ¬ f = 0 := fun z => c4 (by rw [z]; rfl)
    refine e_aload_n aX9_size_13 rfl ?_
    refine e_getIF aX9_size_14 fX9_32 rfl (fx_is F rfl) ly.1 ?_
    refine e_iconst (v := 1) aX9_size_17 (by decide) ?_
    refine e_icmp_ne aX9_size_18 (fun c18 => ?_) (fun c18 => ?_)
    · -- 18: taken
      have q18 : ¬ f = 1 := fun z => c18 (by rw [z]; rfl)
      refine e_aload_n aX9_size_27 rfl ?_
      refine e_getIF aX9_size_28 fX9_32 rfl (fx_is F rfl) ly.1 ?_
      refine e_iconst (v := 2) aX9_size_31 (by decide) ?_
      refine e_icmp_ne aX9_size_32 (fun c32 => ?_) (fun c32 => ?_)
      · -- 32: taken
        have q32 : ¬ f = 2 := fun z => c32 (by rw [z]; rfl)
        refine e_aload_n aX9_size_40 rfl ?_
        refine e_getIF aX9_size_41 fX9_32 rfl (fx_is F rfl) ly.1 ?_
        refine e_iconst (v := 3) aX9_size_44 (by decide) ?_
        refine e_icmp_ne aX9_size_45 (fun c45 => ?_) (fun c45 => ?_)
        · -- 45: taken
          have q45 : ¬ f = 3 := fun z => c45 (by rw [z]; rfl)
          refine e_iconst (v := 1) aX9_size_53 (by decide) ?_
          refine e_ireturn aX9_size_54 rfl (Nat.le_refl _) (Nat.le_refl _) ?_
          obtain rfl : f = 4 := by omega
          exact ⟨rfl, rfl⟩
        · -- 45: not taken
          obtain rfl : f = 3 := (nI_eq (a := f) (b := 3) (by omega) (by decide)).mp c45
          refine e_bipush (v := 6) aX9_size_48 (by decide) ?_
          refine e_goto aX9_size_50 ?_
          refine e_ireturn aX9_size_54 rfl (Nat.le_refl _) (Nat.le_refl _) ?_
          exact ⟨rfl, rfl⟩
      · -- 32: not taken
        obtain rfl : f = 2 := (nI_eq (a := f) (b := 2) (by omega) (by decide)).mp c32
        refine e_bipush (v := 36) aX9_size_35 (by decide) ?_
        refine e_goto aX9_size_37 ?_
        refine e_ireturn aX9_size_54 rfl (Nat.le_refl _) (Nat.le_refl _) ?_
        exact ⟨rfl, rfl⟩
    · -- 18: not taken
      obtain rfl : f = 1 := (nI_eq (a := f) (b := 1) (by omega) (by decide)).mp c18
      refine e_sipush (v := 216) aX9_size_21 (by decide) ?_
      refine e_goto aX9_size_24 ?_
      refine e_ireturn aX9_size_54 rfl (Nat.le_refl _) (Nat.le_refl _) ?_
      exact ⟨rfl, rfl⟩
  · -- 4: not taken
    obtain rfl : f = 0 := (nI_eq (a := f) (b := 0) (by omega) (by decide)).mp c4
    refine e_sipush (v := 1296) aX9_size_7 (by decide) ?_
    refine e_goto aX9_size_10 ?_
    refine e_ireturn aX9_size_54 rfl (Nat.le_refl _) (Nat.le_refl _) ?_
    exact ⟨rfl, rfl⟩
theorem zX9_holds (X : EX) {h : HP} (F : Fx h) {m e1 e2 : Nat} {fa : Nat → Nat} {E : Nat → DD} (ll : LL h m e1 e2 fa E) {i : Nat} (he : i < m) (x : Int32) : Ct X mX9_holds 3 0 0 [vR (some 109), vI (nI i), vI x] h (Rt (vI 1) h) := by
  refine ct_of rfl (Nat.le_of_ble_eq_true rfl) ?_
  refine e_aload_n aX9_holds_0 rfl ?_
  refine e_getRF aX9_holds_1 fX9_16 rfl (fx_is F rfl) (fx_r (b := 111) F rfl) ?_
  refine e_iload_n aX9_holds_4 rfl ?_
  refine e_invvT aX9_holds_5 kX9_36 (zJx4a65c_get_915e3 X (fx_is F rfl) ll.2.1 he) rfl rfl (fx_is F rfl) (Nat.le_of_ble_eq_true rfl) (Nat.le_of_ble_eq_true rfl) (Nat.le_refl _) (Nat.le_refl _) (Nat.le_of_ble_eq_true rfl) ?_
  refine e_topR (v := none) rfl ?_
  refine e_castN aX9_holds_8 ?_
  refine e_astore_n aX9_holds_11 (Nat.le_of_ble_eq_true rfl) ?_
  refine e_aload_n aX9_holds_12 rfl ?_
  refine e_ifnonnull aX9_holds_13 (fun r13 c13 => ?_) (fun c13 => ?_)
  · -- 13: taken
    exact absurd c13 (by simp)
  · -- 13: not taken
    refine e_iconst (v := 1) aX9_holds_16 (by decide) ?_
    refine e_zreturn aX9_holds_17 rfl (Or.inr rfl) (Nat.le_refl _) (Nat.le_refl _) ?_
    exact ⟨rfl, rfl⟩
theorem sw_c {a b n : Nat} (ha : a < 3) (hb : b < 3) (hn : n ≤ 2) : (nI a - nI b < (if (1 : Int32) < nI n then nI n else 1)) ↔ ¬ b + max 1 n ≤ a := by
  have key : ∀ a, a < 3 → ∀ b, b < 3 → ∀ n, n < 3 → ((nI a - nI b < (if (1 : Int32) < nI n then nI n else 1)) ↔ ¬ b + max 1 n ≤ a) := by decide +kernel
  exact key a ha b hb n (by omega)
theorem gv_t {d : DD} (w : dWf d) (c : dC d = false) (s : Nat) : gv d s = gvk d s := if_pos (w.2.2.2.2.2.2.2.2.2 c s)
theorem nI_m1x {n : Nat} (h : 1 ≤ n) : nI n + Int32.ofInt (-1) = nI (n - 1) := by
  rw [show Int32.ofInt (-1) = -1 from rfl, ← Int32.sub_eq_add_neg]
  exact nI_subN h
theorem roll_s {s k p n : Nat} : roll s (k + 1) p n = if 12 ≤ p then none else if n ≤ pl s p then some p else roll s k (p + 3) (n - 1) := rfl
theorem zconv0 (X : EX) {h : HP} (F : Fx h) {m e1 e2 : Nat} {fa : Nat → Nat} {E : Nat → DD} (ll : LL h m e1 e2 fa E) {i s : Nat} (he : i < m) (hs : s < 1296) : Ct X mX9_conveys 4 0 0 [vR (some 109), vI (nI i), vI (nI s), vI (nI 0)] h (Rt (vI (oI (cvW (E i) s 0))) h) := by
  refine ct_of rfl (Nat.le_of_ble_eq_true rfl) ?_
  obtain ⟨k0, kf, kn, w, hc, e0, e1, e2, e3, e4, e5⟩ := ll.2.2.2 i he
  obtain ⟨w1, w2, w3, w4, hp, w6, w7, w8, w9, w10⟩ := id w
  have hpl := pl_lt s (dP (E i))
  have cg : ∀ {v : Nat}, dO (E i) = some v → (dK (E i) = 2 ∨ dK (E i) = 5) → cvW (E i) s 0 = if pl s v + max 1 (dN (E i)) ≤ pl s (dP (E i)) then some (dP (E i)) else none := by
    intro v hv q
    show gv (E i) s = _
    rw [gv_t w hc, gvk]
    have hV : dV (E i) = v := by
      show (dO (E i)).getD 0 = v
      rw [hv]
      rfl
    rw [hV]
    rcases q with q | q
    · have hn0 : dN (E i) = 0 := w9.mp (Or.inr q)
      rw [if_neg (by omega), if_pos q, hn0]
      rfl
    · have hn1 : 1 ≤ dN (E i) := by
        have := (not_congr w9).mp (show ¬ (dK (E i) = 0 ∨ dK (E i) = 2) by omega)
        omega
      rw [if_neg (by omega), if_neg (by omega), if_neg (by omega), if_neg (by omega), if_pos q, Nat.max_eq_right hn1]
  have c0 : cvW (E i) s 0 = gvk (E i) s := gv_t w hc s
  have lp : ∀ (m : Nat) (p n : Nat), 12 ≤ p + 3 * m → p ≤ 14 → n ≤ 2 → cvW (E i) s 0 = roll s m p n → Ev X mX9_conveys 4 0 0 (Rt (vI (oI (cvW (E i) s 0))) h) 0 0 166 [(0, some (vR (some 109))), (2, some (vI (nI s))), (6, some (vI (nI p))), (7, some (vI (nI n)))] [] h := by
    intro m
    induction m with
    | zero =>
      intro p n hk h14 hn2 hR9
      refine e_iload aX9_conveys_166 rfl ?_
      refine e_bipush (v := 12) aX9_conveys_168 (by decide) ?_
      refine e_icmp_ge aX9_conveys_170 (fun c170 => ?_) (fun c170 => ?_)
      · -- 170: taken
        refine e_iload aX9_conveys_193 rfl ?_
        refine e_bipush (v := 12) aX9_conveys_195 (by decide) ?_
        refine e_icmp_ge aX9_conveys_197 (fun c197 => ?_) (fun c197 => ?_)
        · -- 197: taken
          refine e_iconst (v := -1) aX9_conveys_205 (by decide) ?_
          refine e_ireturn aX9_conveys_206 rfl (Nat.le_refl _) (Nat.le_refl _) ?_
          exact ⟨by rw [hR9] <;> rfl, rfl⟩
        · -- 197: not taken
          exact absurd (nI_le (a := 12) (b := p) (by omega) (by omega)) c197
      · -- 170: not taken
        exact absurd (nI_le (a := 12) (b := p) (by omega) (by omega)) c170
    | succ m ih =>
      intro p n hk h14 hn2 hR9
      refine e_iload aX9_conveys_166 rfl ?_
      refine e_bipush (v := 12) aX9_conveys_168 (by decide) ?_
      refine e_icmp_ge aX9_conveys_170 (fun c170 => ?_) (fun c170 => ?_)
      · -- 170: taken
        have q170 : 12 ≤ p := (nI_leI (by decide) (by omega)).mp c170
        refine e_iload aX9_conveys_193 rfl ?_
        refine e_bipush (v := 12) aX9_conveys_195 (by decide) ?_
        refine e_icmp_ge aX9_conveys_197 (fun c197 => ?_) (fun c197 => ?_)
        · -- 197: taken
          have q197 : 12 ≤ p := (nI_leI (by decide) (by omega)).mp c197
          refine e_iconst (v := -1) aX9_conveys_205 (by decide) ?_
          refine e_ireturn aX9_conveys_206 rfl (Nat.le_refl _) (Nat.le_refl _) ?_
          exact ⟨by rw [hR9, roll_s, if_pos q170] <;> rfl, rfl⟩
        · -- 197: not taken
          have q197 : ¬ 12 ≤ p := Nat.not_le.mpr ((nI_ltI (by omega) (by decide)).mp (Int32.not_le.mp c197))
          refine e_iload aX9_conveys_200 rfl ?_
          refine e_goto aX9_conveys_202 ?_
          refine e_ireturn aX9_conveys_206 rfl (Nat.le_refl _) (Nat.le_refl _) ?_
          exact absurd q170 (by omega)
      · -- 170: not taken
        have q170 : p < 12 := (nI_ltI (by omega) (by decide)).mp (Int32.not_le.mp c170)
        have hpl9 := pl_lt s p
        refine e_iload_n aX9_conveys_173 rfl ?_
        refine e_iload aX9_conveys_174 rfl ?_
        refine e_invsNT aX9_conveys_176 kX9_54 (zL_place X hs q170) rfl rfl (Nat.le_of_ble_eq_true rfl) (Nat.le_of_ble_eq_true rfl) (Nat.le_refl _) (Nat.le_refl _) (Nat.le_of_ble_eq_true rfl) ?_
        refine e_iload aX9_conveys_179 rfl ?_
        refine e_icmp_ge aX9_conveys_181 (fun c181 => ?_) (fun c181 => ?_)
        · -- 181: taken
          have q181 : n ≤ pl s p := (nI_leI (by omega) (by omega)).mp c181
          refine e_iload aX9_conveys_193 rfl ?_
          refine e_bipush (v := 12) aX9_conveys_195 (by decide) ?_
          refine e_icmp_ge aX9_conveys_197 (fun c197 => ?_) (fun c197 => ?_)
          · -- 197: taken
            have q197 : 12 ≤ p := (nI_leI (by decide) (by omega)).mp c197
            refine e_iconst (v := -1) aX9_conveys_205 (by decide) ?_
            refine e_ireturn aX9_conveys_206 rfl (Nat.le_refl _) (Nat.le_refl _) ?_
            exact absurd q170 (by omega)
          · -- 197: not taken
            have q197 : ¬ 12 ≤ p := Nat.not_le.mpr ((nI_ltI (by omega) (by decide)).mp (Int32.not_le.mp c197))
            refine e_iload aX9_conveys_200 rfl ?_
            refine e_goto aX9_conveys_202 ?_
            refine e_ireturn aX9_conveys_206 rfl (Nat.le_refl _) (Nat.le_refl _) ?_
            exact ⟨by rw [hR9, roll_s, if_neg (by omega), if_pos q181] <;> rfl, rfl⟩
        · -- 181: not taken
          have q181 : ¬ n ≤ pl s p := Nat.not_le.mpr ((nI_ltI (by omega) (by omega)).mp (Int32.not_le.mp c181))
          refine e_iinc aX9_conveys_184 rfl rfl (Nat.le_of_ble_eq_true rfl) ?_
          refine e_iinc aX9_conveys_187 rfl rfl (Nat.le_of_ble_eq_true rfl) ?_
          refine e_goto aX9_conveys_190 ?_
          refine e_ls (ls' := [(0, some (vR (some 109))), (2, some (vI (nI s))), (6, some (vI (nI (p + 3)))), (7, some (vI (nI (n - 1))))]) ⟨rfl, rfl, congrArg (fun x => some (vI x)) (nI_add p 3), congrArg (fun x => some (vI x)) (nI_m1x (show 1 ≤ n by omega)), trivial⟩ ?_
          exact ih (p + 3) (n - 1) (by omega) (by omega) (by omega) (by rw [hR9, roll_s, if_neg (by omega), if_neg q181])
  refine e_aload_n aX9_conveys_0 rfl ?_
  refine e_getRF aX9_conveys_1 fX9_10 rfl (fx_is F rfl) (fx_r (b := 110) F rfl) ?_
  refine e_iload_n aX9_conveys_4 rfl ?_
  refine e_invvT aX9_conveys_5 kX9_36 (zJx4a65c_get_915e3 X (fx_is F rfl) ll.1 he) rfl rfl (fx_is F rfl) (Nat.le_of_ble_eq_true rfl) (Nat.le_of_ble_eq_true rfl) (Nat.le_refl _) (Nat.le_refl _) (Nat.le_of_ble_eq_true rfl) ?_
  refine e_topR (v := some (fa i)) rfl ?_
  refine e_castA aX9_conveys_8 cX9_40 kf ?_
  refine e_astore aX9_conveys_11 (Nat.le_of_ble_eq_true rfl) ?_
  refine e_aload_n aX9_conveys_13 rfl ?_
  refine e_iload_n aX9_conveys_14 rfl ?_
  refine e_iload_n aX9_conveys_15 rfl ?_
  refine e_invvT aX9_conveys_16 kX9_51 (zX9_holds X F ll he (nI s)) rfl rfl (fx_is F rfl) (Nat.le_of_ble_eq_true rfl) (Nat.le_of_ble_eq_true rfl) (Nat.le_refl _) (Nat.le_refl _) (Nat.le_of_ble_eq_true rfl) ?_
  refine e_if_ne aX9_conveys_19 (fun c19 => ?_) (fun c19 => ?_)
  · -- 19: taken
    skip
    refine e_iload_n aX9_conveys_24 rfl ?_
    refine e_aload aX9_conveys_25 rfl ?_
    refine e_iconst (v := 3) aX9_conveys_27 (by decide) ?_
    refine e_ialoadF aX9_conveys_28 kf kn (vin (n := 3) (N := 6) (by decide)) e3 ?_
    refine e_invsNT aX9_conveys_29 kX9_54 (zL_place X hs hp) rfl rfl (Nat.le_of_ble_eq_true rfl) (Nat.le_of_ble_eq_true rfl) (Nat.le_refl _) (Nat.le_refl _) (Nat.le_of_ble_eq_true rfl) ?_
    refine e_istore aX9_conveys_32 (Nat.le_of_ble_eq_true rfl) ?_
    refine e_aload aX9_conveys_34 rfl ?_
    refine e_iconst (v := 0) aX9_conveys_36 (by decide) ?_
    refine e_ialoadF aX9_conveys_37 kf kn (vin (n := 0) (N := 6) (by decide)) e0 ?_
    refine e_iconst (v := 2) aX9_conveys_38 (by decide) ?_
    refine e_icmp_eq aX9_conveys_39 (fun c39 => ?_) (fun c39 => ?_)
    · -- 39: taken
      have q39 : dK (E i) = 2 := (nI_eq (b := 2) (by omega) (by decide)).mp c39
      obtain ⟨v, hv⟩ := Option.isSome_iff_exists.mp (w6.mp (by omega))
      have hv2 := w7 v hv
      rw [hv] at e4
      have e4 : hI h (fa i) 4 = nI v := e4
      refine e_iload aX9_conveys_50 rfl ?_
      refine e_iload_n aX9_conveys_52 rfl ?_
      refine e_aload aX9_conveys_53 rfl ?_
      refine e_iconst (v := 4) aX9_conveys_55 (by decide) ?_
      refine e_ialoadF aX9_conveys_56 kf kn (vin (n := 4) (N := 6) (by decide)) e4 ?_
      refine e_invsNT aX9_conveys_57 kX9_54 (zL_place X hs hv2.1) rfl rfl (Nat.le_of_ble_eq_true rfl) (Nat.le_of_ble_eq_true rfl) (Nat.le_refl _) (Nat.le_refl _) (Nat.le_of_ble_eq_true rfl) ?_
      refine e_isub aX9_conveys_60 ?_
      refine e_iconst (v := 1) aX9_conveys_61 (by decide) ?_
      refine e_aload aX9_conveys_62 rfl ?_
      refine e_iconst (v := 5) aX9_conveys_64 (by decide) ?_
      refine e_ialoadF aX9_conveys_65 kf kn (vin (n := 5) (N := 6) (by decide)) e5 ?_
      refine e_max aX9_conveys_66 kX9_58 (Nat.le_of_ble_eq_true rfl) (Nat.le_refl _) (Nat.le_refl _) (Nat.le_of_ble_eq_true rfl) ?_
      refine e_icmp_lt aX9_conveys_69 (fun c69 => ?_) (fun c69 => ?_)
      · -- 69: taken
        have q69 := (sw_c (pl_lt _ _) (pl_lt _ _) w8).mp c69
        refine e_iconst (v := -1) aX9_conveys_81 (by decide) ?_
        refine e_ireturn aX9_conveys_82 rfl (Nat.le_refl _) (Nat.le_refl _) ?_
        exact ⟨by rw [cg hv (Or.inl q39), if_neg q69] <;> rfl, rfl⟩
      · -- 69: not taken
        have q69 := Decidable.of_not_not ((not_congr (sw_c (pl_lt _ _) (pl_lt _ _) w8)).mp (Int32.not_lt.mpr (Int32.not_lt.mp c69)))
        refine e_aload aX9_conveys_72 rfl ?_
        refine e_iconst (v := 3) aX9_conveys_74 (by decide) ?_
        refine e_iload_n aX9_conveys_75 rfl ?_
        refine e_iadd aX9_conveys_76 ?_
        refine e_ialoadF aX9_conveys_77 kf kn (vin (n := 3) (N := 6) (by decide)) e3 ?_
        refine e_goto aX9_conveys_78 ?_
        refine e_ireturn aX9_conveys_82 rfl (Nat.le_refl _) (Nat.le_refl _) ?_
        exact ⟨by rw [cg hv (Or.inl q39), if_pos q69] <;> rfl, rfl⟩
    · -- 39: not taken
      have q39 : ¬ dK (E i) = 2 := fun z => c39 (by rw [z]; rfl)
      refine e_aload aX9_conveys_42 rfl ?_
      refine e_iconst (v := 0) aX9_conveys_44 (by decide) ?_
      refine e_ialoadF aX9_conveys_45 kf kn (vin (n := 0) (N := 6) (by decide)) e0 ?_
      refine e_iconst (v := 5) aX9_conveys_46 (by decide) ?_
      refine e_icmp_ne aX9_conveys_47 (fun c47 => ?_) (fun c47 => ?_)
      · -- 47: taken
        have q47 : ¬ dK (E i) = 5 := fun z => c47 (by rw [z]; rfl)
        refine e_iload_n aX9_conveys_83 rfl ?_
        refine e_iconst (v := 1) aX9_conveys_84 (by decide) ?_
        refine e_icmp_ne aX9_conveys_85 (fun c85 => ?_) (fun c85 => ?_)
        · -- 85: taken
          skip
          refine e_aload aX9_conveys_90 rfl ?_
          refine e_iconst (v := 0) aX9_conveys_92 (by decide) ?_
          refine e_ialoadF aX9_conveys_93 kf kn (vin (n := 0) (N := 6) (by decide)) e0 ?_
          refine e_if_ne aX9_conveys_94 (fun c94 => ?_) (fun c94 => ?_)
          · -- 94: taken
            have q94 : ¬ dK (E i) = 0 := fun z => c94 (by rw [z]; rfl)
            refine e_aload aX9_conveys_102 rfl ?_
            refine e_iconst (v := 0) aX9_conveys_104 (by decide) ?_
            refine e_ialoadF aX9_conveys_105 kf kn (vin (n := 0) (N := 6) (by decide)) e0 ?_
            refine e_iconst (v := 1) aX9_conveys_106 (by decide) ?_
            refine e_icmp_ne aX9_conveys_107 (fun c107 => ?_) (fun c107 => ?_)
            · -- 107: taken
              have q107 : ¬ dK (E i) = 1 := fun z => c107 (by rw [z]; rfl)
              refine e_aload aX9_conveys_128 rfl ?_
              refine e_iconst (v := 0) aX9_conveys_130 (by decide) ?_
              refine e_ialoadF aX9_conveys_131 kf kn (vin (n := 0) (N := 6) (by decide)) e0 ?_
              refine e_iconst (v := 4) aX9_conveys_132 (by decide) ?_
              refine e_icmp_ne aX9_conveys_133 (fun c133 => ?_) (fun c133 => ?_)
              · -- 133: taken
                have q133 : ¬ dK (E i) = 4 := fun z => c133 (by rw [z]; rfl)
                refine e_aload aX9_conveys_154 rfl ?_
                refine e_iconst (v := 3) aX9_conveys_156 (by decide) ?_
                refine e_ialoadF aX9_conveys_157 kf kn (vin (n := 3) (N := 6) (by decide)) e3 ?_
                refine e_istore aX9_conveys_158 (Nat.le_of_ble_eq_true rfl) ?_
                refine e_aload aX9_conveys_160 rfl ?_
                refine e_iconst (v := 5) aX9_conveys_162 (by decide) ?_
                refine e_ialoadF aX9_conveys_163 kf kn (vin (n := 5) (N := 6) (by decide)) e5 ?_
                refine e_istore aX9_conveys_164 (Nat.le_of_ble_eq_true rfl) ?_
                refine e_ls (ls' := [(0, some (vR (some 109))), (2, some (vI (nI s))), (6, some (vI (nI (dP (E i))))), (7, some (vI (nI (dN (E i)))))]) ⟨rfl, rfl, rfl, rfl, trivial⟩ ?_
                exact lp 4 _ _ (by omega) (by omega) (by omega) (by rw [c0, gvk, if_neg (by omega), if_neg (by omega), if_pos (by omega)])
              · -- 133: not taken
                have q133 : dK (E i) = 4 := (nI_eq (b := 4) (by omega) (by decide)).mp c133
                refine e_iload aX9_conveys_136 rfl ?_
                refine e_aload aX9_conveys_138 rfl ?_
                refine e_iconst (v := 5) aX9_conveys_140 (by decide) ?_
                refine e_ialoadF aX9_conveys_141 kf kn (vin (n := 5) (N := 6) (by decide)) e5 ?_
                refine e_icmp_ge aX9_conveys_142 (fun c142 => ?_) (fun c142 => ?_)
                · -- 142: taken
                  have q142 : ¬ pl s (dP (E i)) < dN (E i) := Nat.not_lt.mpr ((nI_leI (by omega) (by omega)).mp c142)
                  refine e_iconst (v := -1) aX9_conveys_152 (by decide) ?_
                  refine e_ireturn aX9_conveys_153 rfl (Nat.le_refl _) (Nat.le_refl _) ?_
                  exact ⟨by rw [c0, gvk, if_neg (by omega), if_neg (by omega), if_neg (by omega), if_pos q133, if_neg q142] <;> rfl, rfl⟩
                · -- 142: not taken
                  have q142 : pl s (dP (E i)) < dN (E i) := (nI_ltI (by omega) (by omega)).mp (Int32.not_le.mp c142)
                  refine e_aload aX9_conveys_145 rfl ?_
                  refine e_iconst (v := 3) aX9_conveys_147 (by decide) ?_
                  refine e_ialoadF aX9_conveys_148 kf kn (vin (n := 3) (N := 6) (by decide)) e3 ?_
                  refine e_goto aX9_conveys_149 ?_
                  refine e_ireturn aX9_conveys_153 rfl (Nat.le_refl _) (Nat.le_refl _) ?_
                  exact ⟨by rw [c0, gvk, if_neg (by omega), if_neg (by omega), if_neg (by omega), if_pos q133, if_pos q142] <;> rfl, rfl⟩
            · -- 107: not taken
              have q107 : dK (E i) = 1 := (nI_eq (b := 1) (by omega) (by decide)).mp c107
              refine e_iload aX9_conveys_110 rfl ?_
              refine e_aload aX9_conveys_112 rfl ?_
              refine e_iconst (v := 5) aX9_conveys_114 (by decide) ?_
              refine e_ialoadF aX9_conveys_115 kf kn (vin (n := 5) (N := 6) (by decide)) e5 ?_
              refine e_icmp_lt aX9_conveys_116 (fun c116 => ?_) (fun c116 => ?_)
              · -- 116: taken
                have q116 : ¬ dN (E i) ≤ pl s (dP (E i)) := Nat.not_le.mpr ((nI_ltI (by omega) (by omega)).mp c116)
                refine e_iconst (v := -1) aX9_conveys_126 (by decide) ?_
                refine e_ireturn aX9_conveys_127 rfl (Nat.le_refl _) (Nat.le_refl _) ?_
                exact ⟨by rw [c0, gvk, if_pos q107, if_neg q116] <;> rfl, rfl⟩
              · -- 116: not taken
                have q116 : dN (E i) ≤ pl s (dP (E i)) := (nI_leI (by omega) (by omega)).mp (Int32.not_lt.mp c116)
                refine e_aload aX9_conveys_119 rfl ?_
                refine e_iconst (v := 3) aX9_conveys_121 (by decide) ?_
                refine e_ialoadF aX9_conveys_122 kf kn (vin (n := 3) (N := 6) (by decide)) e3 ?_
                refine e_goto aX9_conveys_123 ?_
                refine e_ireturn aX9_conveys_127 rfl (Nat.le_refl _) (Nat.le_refl _) ?_
                exact ⟨by rw [c0, gvk, if_pos q107, if_pos q116] <;> rfl, rfl⟩
          · -- 94: not taken
            have q94 : dK (E i) = 0 := (nI_eq (b := 0) (by omega) (by decide)).mp c94
            refine e_aload aX9_conveys_97 rfl ?_
            refine e_iconst (v := 3) aX9_conveys_99 (by decide) ?_
            refine e_ialoadF aX9_conveys_100 kf kn (vin (n := 3) (N := 6) (by decide)) e3 ?_
            refine e_ireturn aX9_conveys_101 rfl (Nat.le_refl _) (Nat.le_refl _) ?_
            exact ⟨by rw [c0, gvk, if_neg (by omega), if_neg (by omega), if_neg (by omega), if_neg (by omega), if_neg (by omega)] <;> rfl, rfl⟩
        · -- 85: not taken
          exact absurd c85 (by decide)
      · -- 47: not taken
        have q47 : dK (E i) = 5 := (nI_eq (b := 5) (by omega) (by decide)).mp c47
        obtain ⟨v, hv⟩ := Option.isSome_iff_exists.mp (w6.mp (by omega))
        have hv2 := w7 v hv
        rw [hv] at e4
        have e4 : hI h (fa i) 4 = nI v := e4
        refine e_iload aX9_conveys_50 rfl ?_
        refine e_iload_n aX9_conveys_52 rfl ?_
        refine e_aload aX9_conveys_53 rfl ?_
        refine e_iconst (v := 4) aX9_conveys_55 (by decide) ?_
        refine e_ialoadF aX9_conveys_56 kf kn (vin (n := 4) (N := 6) (by decide)) e4 ?_
        refine e_invsNT aX9_conveys_57 kX9_54 (zL_place X hs hv2.1) rfl rfl (Nat.le_of_ble_eq_true rfl) (Nat.le_of_ble_eq_true rfl) (Nat.le_refl _) (Nat.le_refl _) (Nat.le_of_ble_eq_true rfl) ?_
        refine e_isub aX9_conveys_60 ?_
        refine e_iconst (v := 1) aX9_conveys_61 (by decide) ?_
        refine e_aload aX9_conveys_62 rfl ?_
        refine e_iconst (v := 5) aX9_conveys_64 (by decide) ?_
        refine e_ialoadF aX9_conveys_65 kf kn (vin (n := 5) (N := 6) (by decide)) e5 ?_
        refine e_max aX9_conveys_66 kX9_58 (Nat.le_of_ble_eq_true rfl) (Nat.le_refl _) (Nat.le_refl _) (Nat.le_of_ble_eq_true rfl) ?_
        refine e_icmp_lt aX9_conveys_69 (fun c69 => ?_) (fun c69 => ?_)
        · -- 69: taken
          have q69 := (sw_c (pl_lt _ _) (pl_lt _ _) w8).mp c69
          refine e_iconst (v := -1) aX9_conveys_81 (by decide) ?_
          refine e_ireturn aX9_conveys_82 rfl (Nat.le_refl _) (Nat.le_refl _) ?_
          exact ⟨by rw [cg hv (Or.inr q47), if_neg q69] <;> rfl, rfl⟩
        · -- 69: not taken
          have q69 := Decidable.of_not_not ((not_congr (sw_c (pl_lt _ _) (pl_lt _ _) w8)).mp (Int32.not_lt.mpr (Int32.not_lt.mp c69)))
          refine e_aload aX9_conveys_72 rfl ?_
          refine e_iconst (v := 3) aX9_conveys_74 (by decide) ?_
          refine e_iload_n aX9_conveys_75 rfl ?_
          refine e_iadd aX9_conveys_76 ?_
          refine e_ialoadF aX9_conveys_77 kf kn (vin (n := 3) (N := 6) (by decide)) e3 ?_
          refine e_goto aX9_conveys_78 ?_
          refine e_ireturn aX9_conveys_82 rfl (Nat.le_refl _) (Nat.le_refl _) ?_
          exact ⟨by rw [cg hv (Or.inr q47), if_pos q69] <;> rfl, rfl⟩
  · -- 19: not taken
    exact absurd c19 (by decide)
theorem zconv1 (X : EX) {h : HP} (F : Fx h) {m e1 e2 : Nat} {fa : Nat → Nat} {E : Nat → DD} (ll : LL h m e1 e2 fa E) {i s : Nat} (he : i < m) (hs : s < 1296) : Ct X mX9_conveys 4 0 0 [vR (some 109), vI (nI i), vI (nI s), vI (nI 1)] h (Rt (vI (oI (cvW (E i) s 1))) h) := by
  refine ct_of rfl (Nat.le_of_ble_eq_true rfl) ?_
  obtain ⟨k0, kf, kn, w, hc, e0, e1, e2, e3, e4, e5⟩ := ll.2.2.2 i he
  obtain ⟨w1, w2, w3, w4, hp, w6, w7, w8, w9, w10⟩ := id w
  have hpl := pl_lt s (dP (E i))
  have cg : ∀ {v : Nat}, dO (E i) = some v → (dK (E i) = 2 ∨ dK (E i) = 5) → cvW (E i) s 0 = if pl s v + max 1 (dN (E i)) ≤ pl s (dP (E i)) then some (dP (E i)) else none := by
    intro v hv q
    show gv (E i) s = _
    rw [gv_t w hc, gvk]
    have hV : dV (E i) = v := by
      show (dO (E i)).getD 0 = v
      rw [hv]
      rfl
    rw [hV]
    rcases q with q | q
    · have hn0 : dN (E i) = 0 := w9.mp (Or.inr q)
      rw [if_neg (by omega), if_pos q, hn0]
      rfl
    · have hn1 : 1 ≤ dN (E i) := by
        have := (not_congr w9).mp (show ¬ (dK (E i) = 0 ∨ dK (E i) = 2) by omega)
        omega
      rw [if_neg (by omega), if_neg (by omega), if_neg (by omega), if_neg (by omega), if_pos q, Nat.max_eq_right hn1]
  have cb : ∀ {v : Nat}, dO (E i) = some v → (dK (E i) = 2 ∨ dK (E i) = 5) → cvW (E i) s 1 = if pl s v + max 1 (dN (E i)) ≤ pl s (dP (E i)) then some v else none := by
    intro v hv q
    have h1 := cg hv q
    have h1 : gv (E i) s = _ := h1
    show gb (E i) s = _
    unfold gb
    rw [h1, hv]
    by_cases z : pl s v + max 1 (dN (E i)) ≤ pl s (dP (E i))
    · rw [if_pos z, if_pos z]
      rfl
    · rw [if_neg z, if_neg z]
      rfl
  have cn : ¬ (dK (E i) = 2 ∨ dK (E i) = 5) → cvW (E i) s 1 = none := by
    intro q
    show gb (E i) s = none
    have h1 : dO (E i) = none := by
      rcases e : dO (E i) with _ | v
      · rfl
      · exact absurd (w6.mpr (by rw [e]; rfl)) q
    unfold gb
    rw [h1]
    split <;> rfl
  refine e_aload_n aX9_conveys_0 rfl ?_
  refine e_getRF aX9_conveys_1 fX9_10 rfl (fx_is F rfl) (fx_r (b := 110) F rfl) ?_
  refine e_iload_n aX9_conveys_4 rfl ?_
  refine e_invvT aX9_conveys_5 kX9_36 (zJx4a65c_get_915e3 X (fx_is F rfl) ll.1 he) rfl rfl (fx_is F rfl) (Nat.le_of_ble_eq_true rfl) (Nat.le_of_ble_eq_true rfl) (Nat.le_refl _) (Nat.le_refl _) (Nat.le_of_ble_eq_true rfl) ?_
  refine e_topR (v := some (fa i)) rfl ?_
  refine e_castA aX9_conveys_8 cX9_40 kf ?_
  refine e_astore aX9_conveys_11 (Nat.le_of_ble_eq_true rfl) ?_
  refine e_aload_n aX9_conveys_13 rfl ?_
  refine e_iload_n aX9_conveys_14 rfl ?_
  refine e_iload_n aX9_conveys_15 rfl ?_
  refine e_invvT aX9_conveys_16 kX9_51 (zX9_holds X F ll he (nI s)) rfl rfl (fx_is F rfl) (Nat.le_of_ble_eq_true rfl) (Nat.le_of_ble_eq_true rfl) (Nat.le_refl _) (Nat.le_refl _) (Nat.le_of_ble_eq_true rfl) ?_
  refine e_if_ne aX9_conveys_19 (fun c19 => ?_) (fun c19 => ?_)
  · -- 19: taken
    skip
    refine e_iload_n aX9_conveys_24 rfl ?_
    refine e_aload aX9_conveys_25 rfl ?_
    refine e_iconst (v := 3) aX9_conveys_27 (by decide) ?_
    refine e_ialoadF aX9_conveys_28 kf kn (vin (n := 3) (N := 6) (by decide)) e3 ?_
    refine e_invsNT aX9_conveys_29 kX9_54 (zL_place X hs hp) rfl rfl (Nat.le_of_ble_eq_true rfl) (Nat.le_of_ble_eq_true rfl) (Nat.le_refl _) (Nat.le_refl _) (Nat.le_of_ble_eq_true rfl) ?_
    refine e_istore aX9_conveys_32 (Nat.le_of_ble_eq_true rfl) ?_
    refine e_aload aX9_conveys_34 rfl ?_
    refine e_iconst (v := 0) aX9_conveys_36 (by decide) ?_
    refine e_ialoadF aX9_conveys_37 kf kn (vin (n := 0) (N := 6) (by decide)) e0 ?_
    refine e_iconst (v := 2) aX9_conveys_38 (by decide) ?_
    refine e_icmp_eq aX9_conveys_39 (fun c39 => ?_) (fun c39 => ?_)
    · -- 39: taken
      have q39 : dK (E i) = 2 := (nI_eq (b := 2) (by omega) (by decide)).mp c39
      obtain ⟨v, hv⟩ := Option.isSome_iff_exists.mp (w6.mp (by omega))
      have hv2 := w7 v hv
      rw [hv] at e4
      have e4 : hI h (fa i) 4 = nI v := e4
      refine e_iload aX9_conveys_50 rfl ?_
      refine e_iload_n aX9_conveys_52 rfl ?_
      refine e_aload aX9_conveys_53 rfl ?_
      refine e_iconst (v := 4) aX9_conveys_55 (by decide) ?_
      refine e_ialoadF aX9_conveys_56 kf kn (vin (n := 4) (N := 6) (by decide)) e4 ?_
      refine e_invsNT aX9_conveys_57 kX9_54 (zL_place X hs hv2.1) rfl rfl (Nat.le_of_ble_eq_true rfl) (Nat.le_of_ble_eq_true rfl) (Nat.le_refl _) (Nat.le_refl _) (Nat.le_of_ble_eq_true rfl) ?_
      refine e_isub aX9_conveys_60 ?_
      refine e_iconst (v := 1) aX9_conveys_61 (by decide) ?_
      refine e_aload aX9_conveys_62 rfl ?_
      refine e_iconst (v := 5) aX9_conveys_64 (by decide) ?_
      refine e_ialoadF aX9_conveys_65 kf kn (vin (n := 5) (N := 6) (by decide)) e5 ?_
      refine e_max aX9_conveys_66 kX9_58 (Nat.le_of_ble_eq_true rfl) (Nat.le_refl _) (Nat.le_refl _) (Nat.le_of_ble_eq_true rfl) ?_
      refine e_icmp_lt aX9_conveys_69 (fun c69 => ?_) (fun c69 => ?_)
      · -- 69: taken
        have q69 := (sw_c (pl_lt _ _) (pl_lt _ _) w8).mp c69
        refine e_iconst (v := -1) aX9_conveys_81 (by decide) ?_
        refine e_ireturn aX9_conveys_82 rfl (Nat.le_refl _) (Nat.le_refl _) ?_
        exact ⟨by rw [cb hv (Or.inl q39), if_neg q69] <;> rfl, rfl⟩
      · -- 69: not taken
        have q69 := Decidable.of_not_not ((not_congr (sw_c (pl_lt _ _) (pl_lt _ _) w8)).mp (Int32.not_lt.mpr (Int32.not_lt.mp c69)))
        refine e_aload aX9_conveys_72 rfl ?_
        refine e_iconst (v := 3) aX9_conveys_74 (by decide) ?_
        refine e_iload_n aX9_conveys_75 rfl ?_
        refine e_iadd aX9_conveys_76 ?_
        refine e_ialoadF aX9_conveys_77 kf kn (vin (n := 4) (N := 6) (by decide)) e4 ?_
        refine e_goto aX9_conveys_78 ?_
        refine e_ireturn aX9_conveys_82 rfl (Nat.le_refl _) (Nat.le_refl _) ?_
        exact ⟨by rw [cb hv (Or.inl q39), if_pos q69] <;> rfl, rfl⟩
    · -- 39: not taken
      have q39 : ¬ dK (E i) = 2 := fun z => c39 (by rw [z]; rfl)
      refine e_aload aX9_conveys_42 rfl ?_
      refine e_iconst (v := 0) aX9_conveys_44 (by decide) ?_
      refine e_ialoadF aX9_conveys_45 kf kn (vin (n := 0) (N := 6) (by decide)) e0 ?_
      refine e_iconst (v := 5) aX9_conveys_46 (by decide) ?_
      refine e_icmp_ne aX9_conveys_47 (fun c47 => ?_) (fun c47 => ?_)
      · -- 47: taken
        have q47 : ¬ dK (E i) = 5 := fun z => c47 (by rw [z]; rfl)
        refine e_iload_n aX9_conveys_83 rfl ?_
        refine e_iconst (v := 1) aX9_conveys_84 (by decide) ?_
        refine e_icmp_ne aX9_conveys_85 (fun c85 => ?_) (fun c85 => ?_)
        · -- 85: taken
          exact absurd (show nI 1 = 1 from rfl) c85
        · -- 85: not taken
          skip
          refine e_iconst (v := -1) aX9_conveys_88 (by decide) ?_
          refine e_ireturn aX9_conveys_89 rfl (Nat.le_refl _) (Nat.le_refl _) ?_
          exact ⟨by rw [cn (by omega)] <;> rfl, rfl⟩
      · -- 47: not taken
        have q47 : dK (E i) = 5 := (nI_eq (b := 5) (by omega) (by decide)).mp c47
        obtain ⟨v, hv⟩ := Option.isSome_iff_exists.mp (w6.mp (by omega))
        have hv2 := w7 v hv
        rw [hv] at e4
        have e4 : hI h (fa i) 4 = nI v := e4
        refine e_iload aX9_conveys_50 rfl ?_
        refine e_iload_n aX9_conveys_52 rfl ?_
        refine e_aload aX9_conveys_53 rfl ?_
        refine e_iconst (v := 4) aX9_conveys_55 (by decide) ?_
        refine e_ialoadF aX9_conveys_56 kf kn (vin (n := 4) (N := 6) (by decide)) e4 ?_
        refine e_invsNT aX9_conveys_57 kX9_54 (zL_place X hs hv2.1) rfl rfl (Nat.le_of_ble_eq_true rfl) (Nat.le_of_ble_eq_true rfl) (Nat.le_refl _) (Nat.le_refl _) (Nat.le_of_ble_eq_true rfl) ?_
        refine e_isub aX9_conveys_60 ?_
        refine e_iconst (v := 1) aX9_conveys_61 (by decide) ?_
        refine e_aload aX9_conveys_62 rfl ?_
        refine e_iconst (v := 5) aX9_conveys_64 (by decide) ?_
        refine e_ialoadF aX9_conveys_65 kf kn (vin (n := 5) (N := 6) (by decide)) e5 ?_
        refine e_max aX9_conveys_66 kX9_58 (Nat.le_of_ble_eq_true rfl) (Nat.le_refl _) (Nat.le_refl _) (Nat.le_of_ble_eq_true rfl) ?_
        refine e_icmp_lt aX9_conveys_69 (fun c69 => ?_) (fun c69 => ?_)
        · -- 69: taken
          have q69 := (sw_c (pl_lt _ _) (pl_lt _ _) w8).mp c69
          refine e_iconst (v := -1) aX9_conveys_81 (by decide) ?_
          refine e_ireturn aX9_conveys_82 rfl (Nat.le_refl _) (Nat.le_refl _) ?_
          exact ⟨by rw [cb hv (Or.inr q47), if_neg q69] <;> rfl, rfl⟩
        · -- 69: not taken
          have q69 := Decidable.of_not_not ((not_congr (sw_c (pl_lt _ _) (pl_lt _ _) w8)).mp (Int32.not_lt.mpr (Int32.not_lt.mp c69)))
          refine e_aload aX9_conveys_72 rfl ?_
          refine e_iconst (v := 3) aX9_conveys_74 (by decide) ?_
          refine e_iload_n aX9_conveys_75 rfl ?_
          refine e_iadd aX9_conveys_76 ?_
          refine e_ialoadF aX9_conveys_77 kf kn (vin (n := 4) (N := 6) (by decide)) e4 ?_
          refine e_goto aX9_conveys_78 ?_
          refine e_ireturn aX9_conveys_82 rfl (Nat.le_refl _) (Nat.le_refl _) ?_
          exact ⟨by rw [cb hv (Or.inr q47), if_pos q69] <;> rfl, rfl⟩
  · -- 19: not taken
    exact absurd c19 (by decide)
theorem zX9_conveys (X : EX) {h : HP} (F : Fx h) {m e1 e2 : Nat} {fa : Nat → Nat} {E : Nat → DD} (ll : LL h m e1 e2 fa E) {i s : Nat} (he : i < m) (hs : s < 1296) {w : Nat} (hw : w < 2) : Ct X mX9_conveys 4 0 0 [vR (some 109), vI (nI i), vI (nI s), vI (nI w)] h (Rt (vI (oI (cvW (E i) s w))) h) := by
  have hw2 : w = 0 ∨ w = 1 := by omega
  rcases hw2 with rfl | rfl
  · exact zconv0 X F ll he hs
  · exact zconv1 X F ll he hs
