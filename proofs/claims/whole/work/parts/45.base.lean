/-! Reader.readOne: lapsed, ahead, at (written by wip/whole/g45.py) -/
def dlE (D : Nat → DD) (n : Nat) (x : Int32) : Option DD := if x < 0 ∨ nI n ≤ x then none else some (D x.toNatClampNeg)
def ldE (D : Nat → DD) (n : Nat) (E : Nat → DD) (c : Nat) (x : Int32) : Option DD := if x < nI n then dlE D n x else dlE E c (x - nI n)
theorem dlE_of {A : Nat → Nat} {D : Nat → DD} {n : Nat} {x : Int32} (hn : n ≤ 12) : (dl A n x = none ∧ dlE D n x = none) ∨ ∃ j, j < n ∧ dl A n x = some (A j) ∧ dlE D n x = some (D j) := by
  unfold dl dlE
  by_cases q : x < 0 ∨ nI n ≤ x
  · exact Or.inl ⟨if_pos q, if_pos q⟩
  · obtain ⟨j, hj, rfl⟩ := ou_of n (by omega) q
    rw [if_neg q, if_neg q, cl (by omega)]
    exact Or.inr ⟨j, hj, rfl, rfl⟩
theorem ldE_of {A B : Nat → Nat} {D E : Nat → DD} {n c : Nat} {x : Int32} (hn : n ≤ 12) (hc : c ≤ 12) : (dbt A n B c x = none ∧ ldE D n E c x = none) ∨ (∃ j, j < n ∧ dbt A n B c x = some (A j) ∧ ldE D n E c x = some (D j)) ∨ ∃ j, j < c ∧ dbt A n B c x = some (B j) ∧ ldE D n E c x = some (E j) := by
  unfold dbt ldE
  by_cases q : x < nI n
  · rw [if_pos q, if_pos q]
    rcases dlE_of (A := A) (D := D) (n := n) (x := x) hn with z | z
    · exact Or.inl z
    · exact Or.inr (Or.inl z)
  · rw [if_neg q, if_neg q]
    rcases dlE_of (A := B) (D := E) (n := c) (x := x - nI n) hc with z | z
    · exact Or.inl z
    · exact Or.inr (Or.inr z)
def lpV (bt : Nat → Int32) (l : Nat) (p : PT) (n c : Nat) : Int32 := tnV bt l p 0 (nI (n + c) - 1) (-1)
def lpR (bt : Nat → Int32) (l : Nat) (D : Nat → DD) (n : Nat) (E : Nat → DD) (c : Nat) (p : PT) : Bool × PT × (Nat → Bool) := ((ldE D n E c (lpV bt l p n c)).isSome, tnX bt l p 0 (nI (n + c) - 1) (-1), fun u => match ldE D n E c (lpV bt l p n c) with
  | none => false
  | some d => decide (gv d u = none))
/-- F without not and ( -/
def bsF (bt : Nat → Int32) (l : Nat) (D : Nat → DD) (n : Nat) (E : Nat → DD) (c : Nat) (p : PT) : Bool × PT × (Nat → Bool) := if tkQ bt p 12 = true then lpR bt l D n E c (nxT bt l p) else if tkQ bt p 13 = true then ahR bt l (nxT bt l p) true else if tkQ bt p 14 = true then ahR bt l (nxT bt l p) false else (false, p, fun _ => false)
/-- the sets alone have changed, where they may -/
def WkL (h : HP) (V : Nat → Prop) (L : Nat → Nat → Int64) : Prop := ∀ x, ¬ V x → L x = hL h x
/-- what a reading may rely on -/
def RdP (h : HP) (V : Nat → Prop) (n : Nat) (A : Nat → Nat) (D : Nat → DD) (c : Nat) (B : Nat → Nat) (E : Nat → DD) : Prop := ∀ L p, WkL h V L → BkD (tH (lsH h L) p) n A D ∧ CmC (tH (lsH h L) p) c B E
theorem ldE_C {h : HP} {V : Nat → Prop} {A B : Nat → Nat} {D E : Nat → DD} {n c r wb : Nat} {x : Int32} {L : Nat → Nat → Int64} {p : PT} (k : RdP h V n A D c B E) (hw : WkL h V L) (hv : V wb) (z : dbt A n B c x = some r) : ∃ d, ldE D n E c x = some d ∧ ∀ g, DealC (wsH (tH (lsH h L) p) wb g) r d := by
  have h0 := k L p hw
  have hw2 : ∀ g : Nat → Int64, WkL h V (fun a i => if a = wb then g i else L a i) := fun g y hy => by
    have e : y ≠ wb := fun q => hy (q ▸ hv)
    funext i
    show (if y = wb then g i else L y i) = _
    rw [if_neg e, hw y hy]
  rcases ldE_of (A := A) (B := B) (D := D) (E := E) (x := x) h0.1.2.1 h0.2.2.1 with w | ⟨j, hj, w1, w2⟩ | ⟨j, hj, w1, w2⟩
  · rw [w.1] at z
    cases z
  · rw [w1] at z
    cases z
    exact ⟨D j, w2, fun g => ((k _ p (hw2 g)).1.2.2 j hj).2⟩
  · rw [w1] at z
    cases z
    exact ⟨E j, w2, fun g => ((k _ p (hw2 g)).2.2.2 j hj).2⟩
theorem ldE_N {A B : Nat → Nat} {D E : Nat → DD} {n c : Nat} {x : Int32} (hn : n ≤ 12) (hc : c ≤ 12) (z : dbt A n B c x = none) : ldE D n E c x = none := by
  rcases ldE_of (A := A) (B := B) (D := D) (E := E) (x := x) hn hc with w | ⟨j, hj, w1, w2⟩ | ⟨j, hj, w1, w2⟩
  · exact w.2
  · rw [w1] at z
    cases z
  · rw [w1] at z
    cases z
theorem ztkL (X : EX) {h : HP} (F : Fx h) {L : Nat → Nat → Int64} {l i : Nat} {p : PT} (t : TpL h l) (z : okp l p) (hi9 : i < 18) : Ct X mX7_takes 5 0 0 [vR (some 41), vR (some (i + 8))] (tH (lsH h L) p) (Rt (vI (b2 (tkQ (hI h 42) p i = true))) (tH (lsH h L) (tkX (hI h 42) l p i))) := ztk X (h := lsH h L) F t z hi9
theorem ztnL (X : EX) {h : HP} (F : Fx h) {L : Nat → Nat → Int64} {l : Nat} {p : PT} (t : TpL h l) (z : okp l p) (x y w : Int32) : Ct X mX7_takeNumber 2 0 0 [vR (some 41), vI x, vI y, vI w] (tH (lsH h L) p) (Rt (vI (tnV (hI h 42) l p x y w)) (tH (lsH h L) (tnX (hI h 42) l p x y w))) := ztn X (h := lsH h L) F t z x y w
theorem ev_base (X : EX) {h : HP} (F : Fx h) {L : Nat → Nat → Int64} {l sb wb d n c : Nat} {W V : Nat → Prop} {p : PT} {A B : Nat → Nat} {D E : Nat → DD} (hd7 : 7 ≤ d) (kS : StS h sb wb) (t : TpL h l) (z : okp l p) (k : RdP h V n A D c B E) (hw : WkL h V L) (hv : V wb) : Ev X mX3_readOne d 0 0 (rdQ h L wb W (bsF (hI h 42) l D n E c p)) 0 0 84 [(0, some (vR (some 40))), (1, some (vR (some 33))), (2, some (vR (some sb)))] [] (tH (lsH h L) p) := by
  refine e_aload_n aX3_readOne_84 rfl ?_
  refine e_getRF aX3_readOne_85 fX3_12 rfl (fx_is F rfl) (fx_r (b := 41) F rfl) ?_
  refine e_ldcS (i := 12) aX3_readOne_88 rfl rfl rfl ?_
  refine e_invvT aX3_readOne_90 kX3_52 (ztkL X (L := L) F (l := l) (p := p) t z (i := 12) (by decide)) rfl rfl (fx_is F rfl) (Nat.le_of_ble_eq_true rfl) (by omega) (Nat.le_refl _) (Nat.le_refl _) (Nat.le_of_ble_eq_true rfl) ?_
  refine e_if_eq aX3_readOne_93 (fun c93 => ?_) (fun c93 => ?_)
  · -- 93: taken
    have q93 := b2_0.mp c93
    refine e_hp (h2 := (tH (lsH h L) p)) (congrArg (tH (lsH h L)) (if_neg q93)) ?_
    refine e_aload_n aX3_readOne_145 rfl ?_
    refine e_getRF aX3_readOne_146 fX3_12 rfl (fx_is F rfl) (fx_r (b := 41) F rfl) ?_
    refine e_ldcS (i := 13) aX3_readOne_149 rfl rfl rfl ?_
    refine e_invvT aX3_readOne_151 kX3_52 (ztkL X (L := L) F (l := l) (p := p) t z (i := 13) (by decide)) rfl rfl (fx_is F rfl) (Nat.le_of_ble_eq_true rfl) (by omega) (Nat.le_refl _) (Nat.le_refl _) (Nat.le_of_ble_eq_true rfl) ?_
    refine e_istore aX3_readOne_154 (Nat.le_of_ble_eq_true rfl) ?_
    refine e_iload aX3_readOne_156 rfl ?_
    refine e_if_ne aX3_readOne_158 (fun c158 => ?_) (fun c158 => ?_)
    · -- 158: taken
      have q158 : tkQ (hI h 42) p 13 = true := Decidable.of_not_not (fun y => c158 (b2_0.mpr y))
      refine e_hp (h2 := (tH (lsH h L) (nxT (hI h 42) l p))) (congrArg (tH (lsH h L)) (if_pos q158)) ?_
      have eR : bsF (hI h 42) l D n E c p = ahR (hI h 42) l (nxT (hI h 42) l p) true := by unfold bsF; rw [if_neg q93, if_pos q158]
      rw [eR]
      refine e_ls (ls' := [(0, some (vR (some 40))), (2, some (vR (some sb))), (4, some (vI (b2 (true = true))))]) ⟨rfl, rfl, (by show some (vI (b2 (tkQ (hI h 42) p 13 = true))) = _; rw [q158]), trivial⟩ ?_
      exact ev_ah1 X F hd7 kS t (okp_n z)
    · -- 158: not taken
      have q158 : ¬ tkQ (hI h 42) p 13 = true := b2_0.mp c158
      refine e_hp (h2 := (tH (lsH h L) p)) (congrArg (tH (lsH h L)) (if_neg q158)) ?_
      refine e_aload_n aX3_readOne_161 rfl ?_
      refine e_getRF aX3_readOne_162 fX3_12 rfl (fx_is F rfl) (fx_r (b := 41) F rfl) ?_
      refine e_ldcS (i := 14) aX3_readOne_165 rfl rfl rfl ?_
      refine e_invvT aX3_readOne_167 kX3_52 (ztkL X (L := L) F (l := l) (p := p) t z (i := 14) (by decide)) rfl rfl (fx_is F rfl) (Nat.le_of_ble_eq_true rfl) (by omega) (Nat.le_refl _) (Nat.le_refl _) (Nat.le_of_ble_eq_true rfl) ?_
      refine e_if_ne aX3_readOne_170 (fun c170 => ?_) (fun c170 => ?_)
      · -- 170: taken
        have q170 := Decidable.of_not_not (fun z => c170 (b2_0.mpr z))
        refine e_hp (h2 := (tH (lsH h L) (nxT (hI h 42) l p))) (congrArg (tH (lsH h L)) (if_pos q170)) ?_
        have eR : bsF (hI h 42) l D n E c p = ahR (hI h 42) l (nxT (hI h 42) l p) false := by unfold bsF; rw [if_neg q93, if_neg q158, if_pos q170]
        rw [eR]
        refine e_ls (ls' := [(0, some (vR (some 40))), (2, some (vR (some sb))), (4, some (vI (b2 (false = true))))]) ⟨rfl, rfl, (by show some (vI (b2 (tkQ (hI h 42) p 13 = true))) = _; rw [Bool.not_eq_true _ |>.mp q158]), trivial⟩ ?_
        exact ev_ah1 X F hd7 kS t (okp_n z)
      · -- 170: not taken
        have q170 := b2_0.mp c170
        refine e_hp (h2 := (tH (lsH h L) p)) (congrArg (tH (lsH h L)) (if_neg q170)) ?_
        refine e_iconst (v := 0) aX3_readOne_173 (by decide) ?_
        refine e_zreturn aX3_readOne_174 rfl (by decide) (Nat.le_refl _) (Nat.le_refl _) ?_
        have eR : bsF (hI h 42) l D n E c p = (false, p, fun _ => false) := by unfold bsF; rw [if_neg q93, if_neg q158, if_neg q170]
        rw [eR]
        exact ⟨rfl, L, rfl, fun _ _ _ => rfl, fun y => by cases y⟩
  · -- 93: not taken
    have q93 := Decidable.of_not_not (fun z => c93 (b2_0.mpr z))
    refine e_hp (h2 := (tH (lsH h L) (nxT (hI h 42) l p))) (congrArg (tH (lsH h L)) (if_pos q93)) ?_
    have eR : bsF (hI h 42) l D n E c p = lpR (hI h 42) l D n E c (nxT (hI h 42) l p) := if_pos q93
    rw [eR]
    have k0 := k L (nxT (hI h 42) l p) hw
    refine e_aload_n aX3_readOne_96 rfl ?_
    refine e_aload_n aX3_readOne_97 rfl ?_
    refine e_aload_n aX3_readOne_98 rfl ?_
    refine e_getRF aX3_readOne_99 fX3_12 rfl (fx_is F rfl) (fx_r (b := 41) F rfl) ?_
    refine e_iconst (v := 0) aX3_readOne_102 (by decide) ?_
    refine e_aload_n aX3_readOne_103 rfl ?_
    refine e_getIF aX3_readOne_104 fX3_60 rfl (fx_is F rfl) k0.1.1 ?_
    refine e_aload_n aX3_readOne_107 rfl ?_
    refine e_getIF aX3_readOne_108 fX3_31 rfl (fx_is F rfl) k0.2.1 ?_
    refine e_iadd aX3_readOne_111 ?_
    refine e_top (nI_add n c) ?_
    refine e_iconst (v := 1) aX3_readOne_112 (by decide) ?_
    refine e_isub aX3_readOne_113 ?_
    refine e_iconst (v := -1) aX3_readOne_114 (by decide) ?_
    refine e_invvT aX3_readOne_115 kX3_67 (ztnL X (L := L) F (l := l) (p := (nxT (hI h 42) l p)) t (okp_n z) 0 (nI (n + c) - 1) (-1)) rfl rfl (fx_is F rfl) (Nat.le_of_ble_eq_true rfl) (by omega) (Nat.le_refl _) (Nat.le_refl _) (Nat.le_of_ble_eq_true rfl) ?_
    have k1 := k L (tnX (hI h 42) l (nxT (hI h 42) l p) 0 (nI (n + c) - 1) (-1)) hw
    refine e_invvT aX3_readOne_118 kX3_128 (zX3_dealByThen X (h := (tH (lsH h L) (tnX (hI h 42) l (nxT (hI h 42) l p) 0 (nI (n + c) - 1) (-1)))) F k1.1 k1.2 _) rfl rfl (fx_is F rfl) (Nat.le_of_ble_eq_true rfl) (by omega) (Nat.le_refl _) (Nat.le_refl _) (Nat.le_of_ble_eq_true rfl) ?_
    refine e_astore aX3_readOne_121 (Nat.le_of_ble_eq_true rfl) ?_
    refine e_aload aX3_readOne_123 rfl ?_
    refine e_ifnull aX3_readOne_125 (fun c125 => ?_) (fun r125 c125 => ?_)
    · -- 125: taken
      have e9 := ldE_N (D := D) (E := E) k1.1.2.1 k1.2.2.1 c125
      rw [c125]
      refine e_aload aX3_readOne_134 rfl ?_
      refine e_ifnull aX3_readOne_136 (fun c136 => ?_) (fun r136 c136 => ?_)
      · -- 136: taken
        skip
        refine e_iconst (v := 0) aX3_readOne_143 (by decide) ?_
        refine e_zreturn aX3_readOne_144 rfl (by decide) (Nat.le_refl _) (Nat.le_refl _) ?_
        refine ⟨by show _ = some (vI (b2 (Option.isSome (ldE D n E c (lpV (hI h 42) l (nxT (hI h 42) l p) n c)) = true))); unfold lpV; rw [e9] <;> rfl, L, rfl, fun _ _ _ => rfl, fun y => ?_⟩
        exact absurd (show Option.isSome (ldE D n E c (lpV (hI h 42) l (nxT (hI h 42) l p) n c)) = true from y) (by unfold lpV; rw [e9]; decide)
      · -- 136: not taken
        exact absurd c136 (by simp)
    · -- 125: not taken
      obtain ⟨dz, e9, hk9⟩ := ldE_C (D := D) (E := E) (L := L) (p := (tnX (hI h 42) l (nxT (hI h 42) l p) 0 (nI (n + c) - 1) (-1))) k hw hv c125
      rw [c125]
      refine e_aload_n aX3_readOne_128 rfl ?_
      refine e_aload aX3_readOne_129 rfl ?_
      refine e_invv aX3_readOne_131 kX3_132 (zX6_becomeLapsed X (h := (tH (lsH h L) (tnX (hI h 42) l (nxT (hI h 42) l p) 0 (nI (n + c) - 1) (-1)))) (sb := sb) (wb := wb) (a := r125) (d := dz) kS hk9) rfl rfl kS.1 (Nat.le_of_ble_eq_true rfl) (by omega) (Nat.le_refl _) (Nat.le_refl _) (Nat.le_of_ble_eq_true rfl) ?_
      rintro v h2 ⟨rfl, g, rfl, hg⟩
      refine e_aload aX3_readOne_134 rfl ?_
      refine e_ifnull aX3_readOne_136 (fun c136 => ?_) (fun r136 c136 => ?_)
      · -- 136: taken
        exact absurd c136 (by simp)
      · -- 136: not taken
        skip
        refine e_iconst (v := 1) aX3_readOne_139 (by decide) ?_
        refine e_goto aX3_readOne_140 ?_
        refine e_zreturn aX3_readOne_144 rfl (by decide) (Nat.le_refl _) (Nat.le_refl _) ?_
        refine ⟨by show _ = some (vI (b2 (Option.isSome (ldE D n E c (lpV (hI h 42) l (nxT (hI h 42) l p) n c)) = true))); unfold lpV; rw [e9] <;> rfl, (fun a i => if a = wb then g i else L a i), rfl, fun x hx _ => funext fun i => if_neg hx, fun _ u hu => ?_⟩
        show bitL (if wb = wb then g (u / 64) else L wb (u / 64)) (u % 64) = (match ldE D n E c (lpV (hI h 42) l (nxT (hI h 42) l p) n c) with | none => false | some d => decide (gv d u = none))
        unfold lpV
        rw [if_pos rfl, e9]
        exact hg u hu
