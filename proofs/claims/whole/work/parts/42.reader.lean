/-! contracts: Reader, its small ones (written by wip/whole/g42.py) -/
/-- place and end of the TOKEN that is looked at -/
abbrev PT : Type := Nat × Nat
def tH (h : HP) (p : PT) : HP := tkH h p.1 p.2
def okp (l : Nat) (p : PT) : Prop := p.1 ≤ p.2 ∧ p.2 ≤ l
def TpL (h : HP) (l : Nat) : Prop := hI h 41 1 = nI l ∧ l ≤ 120
def nxT (bt : Nat → Int32) (l : Nat) (p : PT) : PT := (tkA bt l p.2, tkE bt l (tkA bt l p.2))
theorem okp_n {bt : Nat → Int32} {l : Nat} {p : PT} (z : okp l p) : okp l (nxT bt l p) := by
  have h1 := tkA_le (bt := bt) z.2
  exact tkE_le (bt := bt) h1.2
def tkQ (bt : Nat → Int32) (p : PT) (i : Nat) : Bool := tkP bt p.1 p.2 i
def tkX (bt : Nat → Int32) (l : Nat) (p : PT) (i : Nat) : PT := if tkQ bt p i = true then nxT bt l p else p
def tnB (bt : Nat → Int32) (l : Nat) (p : PT) (x y w : Int32) : Bool := decide (tkN bt l p.1 p.2 < x ∨ y < tkN bt l p.1 p.2 ∨ tkN bt l p.1 p.2 = w)
def tnV (bt : Nat → Int32) (l : Nat) (p : PT) (x y w : Int32) : Int32 := if tnB bt l p x y w = true then -1 else tkN bt l p.1 p.2
def tnX (bt : Nat → Int32) (l : Nat) (p : PT) (x y w : Int32) : PT := if tnB bt l p x y w = true then p else nxT bt l p
theorem okp_x {bt : Nat → Int32} {l i : Nat} {p : PT} (z : okp l p) : okp l (tkX bt l p i) := by
  unfold tkX
  split
  · exact okp_n z
  · exact z
theorem okp_t {bt : Nat → Int32} {l : Nat} {p : PT} {x y w : Int32} (z : okp l p) : okp l (tnX bt l p x y w) := by
  unfold tnX
  split
  · exact z
  · exact okp_n z
theorem tpc_of {h : HP} {l : Nat} {p : PT} (t : TpL h l) (z : okp l p) : TpC (tH h p) l p.1 p.2 := ⟨tkH_1.trans t.1, t.2, tkH_2, wI_s, z.1, z.2⟩
theorem tkH_42 {h : HP} {a e : Nat} : hI (tkH h a e) 42 = hI h 42 := funext fun _ => tkH_b (by decide)
theorem tkH_tk {h : HP} {a e a2 e2 : Nat} : tkH (tkH h a e) a2 e2 = tkH h a2 e2 := by
  unfold tkH wI
  congr 1
  funext b j
  unfold up2
  by_cases z : b = 41 ∧ j = 3
  · rw [if_pos z, if_pos z]
  · rw [if_neg z, if_neg z]
    show (if b = 41 ∧ j = 2 then nI a2 else (if b = 41 ∧ j = 3 then nI e else if b = 41 ∧ j = 2 then nI a else h.1 b j)) = (if b = 41 ∧ j = 2 then nI a2 else h.1 b j)
    by_cases w : b = 41 ∧ j = 2
    · rw [if_pos w, if_pos w]
    · rw [if_neg w, if_neg w, if_neg z, if_neg w]
theorem ct_rt {X : EX} {y : MD} {d mc ms : Nat} {av : List VV} {h : HP} {Q Q' : Option VV → HP → Prop} (k : Ct X y d mc ms av h Q) (e : Q = Q') : Ct X y d mc ms av h Q' := by rw [← e]; exact k
theorem ztk (X : EX) {h : HP} (F : Fx h) {l i : Nat} {p : PT} (t : TpL h l) (z : okp l p) (hi9 : i < 18) : Ct X mX7_takes 5 0 0 [vR (some 41), vR (some (i + 8))] (tH h p) (Rt (vI (b2 (tkQ (hI h 42) p i = true))) (tH h (tkX (hI h 42) l p i))) := by
  refine ct_rt (zX7_takes X (h := tH h p) F (tpc_of t z) hi9) ?_
  unfold tH
  rw [tkH_42, tkH_tk]
  unfold tkX
  by_cases q : tkQ (hI h 42) p i = true
  · rw [if_pos q, b2_t q]
    exact if_pos q
  · rw [if_neg q, b2_f q]
    exact if_neg q
theorem ztn (X : EX) {h : HP} (F : Fx h) {l : Nat} {p : PT} (t : TpL h l) (z : okp l p) (x y w : Int32) : Ct X mX7_takeNumber 2 0 0 [vR (some 41), vI x, vI y, vI w] (tH h p) (Rt (vI (tnV (hI h 42) l p x y w)) (tH h (tnX (hI h 42) l p x y w))) := by
  refine ct_rt (zX7_takeNumber X (h := tH h p) F (tpc_of t z) x y w) ?_
  unfold tH
  rw [tkH_42, tkH_tk]
  unfold tnV tnX
  by_cases q1 : tkN (hI h 42) l p.1 p.2 < x
  · have e : tnB (hI h 42) l p x y w = true := decide_eq_true (Or.inl q1)
    rw [if_pos q1, if_pos e, if_pos e]
  · rw [if_neg q1]
    by_cases q2 : y < tkN (hI h 42) l p.1 p.2
    · have e : tnB (hI h 42) l p x y w = true := decide_eq_true (Or.inr (Or.inl q2))
      rw [if_pos q2, if_pos e, if_pos e]
    · rw [if_neg q2]
      by_cases q3 : tkN (hI h 42) l p.1 p.2 = w
      · have e : tnB (hI h 42) l p x y w = true := decide_eq_true (Or.inr (Or.inr q3))
        rw [if_pos q3, if_pos e, if_pos e]
      · have e : ¬ tnB (hI h 42) l p x y w = true := fun z => (of_decide_eq_true z).elim q1 (fun z => z.elim q2 q3)
        rw [if_neg q3, if_neg e, if_neg e]
        rfl
/-- the KIND that is told -/
def krd (bt : Nat → Int32) (l : Nat) (p : PT) : Nat × PT := if tkQ bt p 3 = true then (1, nxT bt l p) else if tkQ bt p 4 = true then (4, nxT bt l p) else if tkQ bt p 5 = true then (3, nxT bt l p) else if tkQ bt p 6 = true then (2, nxT bt l p) else if tkQ bt p 7 = true then (5, nxT bt l p) else (0, p)
theorem zX3_readKind (X : EX) {h : HP} (F : Fx h) {l : Nat} {p : PT} (t : TpL h l) (z : okp l p) : Ct X mX3_readKind 6 0 0 [vR (some 40)] (tH h p) (Rt (vI (nI (krd (hI h 42) l p).1)) (tH h (krd (hI h 42) l p).2)) := by
  refine ct_of rfl (Nat.le_of_ble_eq_true rfl) ?_
  refine e_aload_n aX3_readKind_0 rfl ?_
  refine e_getRF aX3_readKind_1 fX3_12 rfl (fx_is F rfl) (fx_r (b := 41) F rfl) ?_
  refine e_ldcS (i := 3) aX3_readKind_4 rfl rfl rfl ?_
  refine e_invvT aX3_readKind_6 kX3_52 (ztk X F t z (i := 3) (by decide)) rfl rfl (fx_is F rfl) (Nat.le_of_ble_eq_true rfl) (Nat.le_of_ble_eq_true rfl) (Nat.le_refl _) (Nat.le_refl _) (Nat.le_of_ble_eq_true rfl) ?_
  refine e_if_eq aX3_readKind_9 (fun c9 => ?_) (fun c9 => ?_)
  · -- 9: taken
    have q9 := b2_0.mp c9
    refine e_hp (h2 := tH h p) (congrArg (tH h) (if_neg q9)) ?_
    refine e_aload_n aX3_readKind_14 rfl ?_
    refine e_getRF aX3_readKind_15 fX3_12 rfl (fx_is F rfl) (fx_r (b := 41) F rfl) ?_
    refine e_ldcS (i := 4) aX3_readKind_18 rfl rfl rfl ?_
    refine e_invvT aX3_readKind_20 kX3_52 (ztk X F t z (i := 4) (by decide)) rfl rfl (fx_is F rfl) (Nat.le_of_ble_eq_true rfl) (Nat.le_of_ble_eq_true rfl) (Nat.le_refl _) (Nat.le_refl _) (Nat.le_of_ble_eq_true rfl) ?_
    refine e_if_eq aX3_readKind_23 (fun c23 => ?_) (fun c23 => ?_)
    · -- 23: taken
      have q23 := b2_0.mp c23
      refine e_hp (h2 := tH h p) (congrArg (tH h) (if_neg q23)) ?_
      refine e_aload_n aX3_readKind_28 rfl ?_
      refine e_getRF aX3_readKind_29 fX3_12 rfl (fx_is F rfl) (fx_r (b := 41) F rfl) ?_
      refine e_ldcS (i := 5) aX3_readKind_32 rfl rfl rfl ?_
      refine e_invvT aX3_readKind_34 kX3_52 (ztk X F t z (i := 5) (by decide)) rfl rfl (fx_is F rfl) (Nat.le_of_ble_eq_true rfl) (Nat.le_of_ble_eq_true rfl) (Nat.le_refl _) (Nat.le_refl _) (Nat.le_of_ble_eq_true rfl) ?_
      refine e_if_eq aX3_readKind_37 (fun c37 => ?_) (fun c37 => ?_)
      · -- 37: taken
        have q37 := b2_0.mp c37
        refine e_hp (h2 := tH h p) (congrArg (tH h) (if_neg q37)) ?_
        refine e_aload_n aX3_readKind_42 rfl ?_
        refine e_getRF aX3_readKind_43 fX3_12 rfl (fx_is F rfl) (fx_r (b := 41) F rfl) ?_
        refine e_ldcS (i := 6) aX3_readKind_46 rfl rfl rfl ?_
        refine e_invvT aX3_readKind_48 kX3_52 (ztk X F t z (i := 6) (by decide)) rfl rfl (fx_is F rfl) (Nat.le_of_ble_eq_true rfl) (Nat.le_of_ble_eq_true rfl) (Nat.le_refl _) (Nat.le_refl _) (Nat.le_of_ble_eq_true rfl) ?_
        refine e_if_eq aX3_readKind_51 (fun c51 => ?_) (fun c51 => ?_)
        · -- 51: taken
          have q51 := b2_0.mp c51
          refine e_hp (h2 := tH h p) (congrArg (tH h) (if_neg q51)) ?_
          refine e_aload_n aX3_readKind_56 rfl ?_
          refine e_getRF aX3_readKind_57 fX3_12 rfl (fx_is F rfl) (fx_r (b := 41) F rfl) ?_
          refine e_ldcS (i := 7) aX3_readKind_60 rfl rfl rfl ?_
          refine e_invvT aX3_readKind_62 kX3_52 (ztk X F t z (i := 7) (by decide)) rfl rfl (fx_is F rfl) (Nat.le_of_ble_eq_true rfl) (Nat.le_of_ble_eq_true rfl) (Nat.le_refl _) (Nat.le_refl _) (Nat.le_of_ble_eq_true rfl) ?_
          refine e_if_eq aX3_readKind_65 (fun c65 => ?_) (fun c65 => ?_)
          · -- 65: taken
            have q65 := b2_0.mp c65
            refine e_hp (h2 := tH h p) (congrArg (tH h) (if_neg q65)) ?_
            refine e_iconst (v := 0) aX3_readKind_72 (by decide) ?_
            refine e_ireturn aX3_readKind_73 rfl (Nat.le_refl _) (Nat.le_refl _) ?_
            unfold krd
            rw [if_neg q9, if_neg q23, if_neg q37, if_neg q51, if_neg q65]
            exact ⟨rfl, rfl⟩
          · -- 65: not taken
            have q65 := Decidable.of_not_not (fun z => c65 (b2_0.mpr z))
            refine e_hp (h2 := tH h (nxT (hI h 42) l p)) (congrArg (tH h) (if_pos q65)) ?_
            refine e_iconst (v := 5) aX3_readKind_68 (by decide) ?_
            refine e_goto aX3_readKind_69 ?_
            refine e_ireturn aX3_readKind_73 rfl (Nat.le_refl _) (Nat.le_refl _) ?_
            unfold krd
            rw [if_neg q9, if_neg q23, if_neg q37, if_neg q51, if_pos q65]
            exact ⟨rfl, rfl⟩
        · -- 51: not taken
          have q51 := Decidable.of_not_not (fun z => c51 (b2_0.mpr z))
          refine e_hp (h2 := tH h (nxT (hI h 42) l p)) (congrArg (tH h) (if_pos q51)) ?_
          refine e_iconst (v := 2) aX3_readKind_54 (by decide) ?_
          refine e_ireturn aX3_readKind_55 rfl (Nat.le_refl _) (Nat.le_refl _) ?_
          unfold krd
          rw [if_neg q9, if_neg q23, if_neg q37, if_pos q51]
          exact ⟨rfl, rfl⟩
      · -- 37: not taken
        have q37 := Decidable.of_not_not (fun z => c37 (b2_0.mpr z))
        refine e_hp (h2 := tH h (nxT (hI h 42) l p)) (congrArg (tH h) (if_pos q37)) ?_
        refine e_iconst (v := 3) aX3_readKind_40 (by decide) ?_
        refine e_ireturn aX3_readKind_41 rfl (Nat.le_refl _) (Nat.le_refl _) ?_
        unfold krd
        rw [if_neg q9, if_neg q23, if_pos q37]
        exact ⟨rfl, rfl⟩
    · -- 23: not taken
      have q23 := Decidable.of_not_not (fun z => c23 (b2_0.mpr z))
      refine e_hp (h2 := tH h (nxT (hI h 42) l p)) (congrArg (tH h) (if_pos q23)) ?_
      refine e_iconst (v := 4) aX3_readKind_26 (by decide) ?_
      refine e_ireturn aX3_readKind_27 rfl (Nat.le_refl _) (Nat.le_refl _) ?_
      unfold krd
      rw [if_neg q9, if_pos q23]
      exact ⟨rfl, rfl⟩
  · -- 9: not taken
    have q9 := Decidable.of_not_not (fun z => c9 (b2_0.mpr z))
    refine e_hp (h2 := tH h (nxT (hI h 42) l p)) (congrArg (tH h) (if_pos q9)) ?_
    refine e_iconst (v := 1) aX3_readKind_12 (by decide) ?_
    refine e_ireturn aX3_readKind_13 rfl (Nat.le_refl _) (Nat.le_refl _) ?_
    unfold krd
    rw [if_pos q9]
    exact ⟨rfl, rfl⟩
