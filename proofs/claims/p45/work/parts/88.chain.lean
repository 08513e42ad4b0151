/-! the law: its chains (written by wip/p45/g88.py) -/
def Sf (P : Nat → Nat → Prop) (h h' : HP) : Prop := h'.2 = h.2 ∧ ∀ a i, ¬ P a i → hI h' a i = hI h a i
theorem Sf.rf {P : Nat → Nat → Prop} (h : HP) : Sf P h h := ⟨rfl, fun _ _ _ => rfl⟩
theorem Sf.tr {P : Nat → Nat → Prop} {h1 h2 h3 : HP} (a : Sf P h1 h2) (b : Sf P h2 h3) : Sf P h1 h3 := ⟨b.1.trans a.1, fun x i q => (b.2 x i q).trans (a.2 x i q)⟩
theorem Sf.wI {P : Nat → Nat → Prop} {h h2 : HP} {a i : Nat} {v : Int32} (s : Sf P h h2) (q : P a i) : Sf P h (wI h2 a i v) := ⟨s.1, fun b j z => by
  refine Eq.trans ?_ (s.2 b j z)
  exact if_neg (fun w => z (by rw [w.1, w.2]; exact q))⟩
theorem Sf.mono {P Q : Nat → Nat → Prop} {h h2 : HP} (s : Sf P h h2) (q : ∀ a i, P a i → Q a i) : Sf Q h h2 := ⟨s.1, fun a i z => s.2 a i (fun w => z (q a i w))⟩
theorem Sf.F {P : Nat → Nat → Prop} {h h2 : HP} (s : Sf P h h2) (F : Fx h) : Fx h2 := by
  unfold Fx
  rw [s.1]
  exact F
def gOk (a : Int32) : Prop := a = -1 ∨ a = 3 ∨ ∃ t, t < 3 ∧ a = nI t
theorem gwQ_ok {d : DD} (w : dWf d) {s p c i : Nat} {v : Int32} (q : gOk v) : gOk (gwQ d s p c i v) := by
  unfold gwQ
  by_cases z : cvW d s i = some p ∧ (if i = 0 then dF d else dT d) = c
  · rw [if_pos z]
    by_cases z2 : v = -1
    · rw [if_pos z2]
      refine Or.inr (Or.inr ⟨if i = 0 then dT d else dF d, ?_, rfl⟩)
      split
      · exact w.2.2.1
      · exact w.2.1
    · rw [if_neg z2]
      exact Or.inr (Or.inl rfl)
  · rw [if_neg z]
    exact q
theorem gtV_ok {D : Nat → DD} {s p c : Nat} : ∀ {k : Nat}, (∀ j, j < k → dWf (D j)) → gOk (gtV D s p c k)
  | 0, _ => Or.inl rfl
  | k + 1, w => gwQ_ok (w k (by omega)) (gwQ_ok (w k (by omega)) (gtV_ok (fun j hj => w j (by omega))))
/-- the scratch of chains -/
def scL (a i : Nat) : Prop := a = 114 ∨ a = 115
theorem Sf.hp {P : Nat → Nat → Prop} {h h2 : HP} (s : Sf P h h2) : (∀ a i, hL h2 a i = hL h a i) ∧ (∀ a i, hR h2 a i = hR h a i) ∧ (∀ a, hT h2 a = hT h a) ∧ (∀ a, hN h2 a = hN h a) ∧ hZ h2 = hZ h := by
  have e := s.1
  refine ⟨fun a i => ?_, fun a i => ?_, fun a => ?_, fun a => ?_, ?_⟩
  · show h2.2.1 a i = h.2.1 a i
    rw [e]
  · show h2.2.2.1 a i = h.2.2.1 a i
    rw [e]
  · show h2.2.2.2.1 a = h.2.2.2.1 a
    rw [e]
  · show h2.2.2.2.2.1 a = h.2.2.2.2.1 a
    rw [e]
  · show h2.2.2.2.2.2 = h.2.2.2.2.2
    rw [e]
theorem Sf.is {P : Nat → Nat → Prop} {h h2 : HP} (s : Sf P h h2) {a t : Nat} (k : Is h a t) : Is h2 a t := ⟨k.1, by rw [s.hp.2.2.2.2]; exact k.2.1, (s.hp.2.2.1 a).trans k.2.2⟩
theorem AL.sf {P : Nat → Nat → Prop} {h h2 : HP} {a m e : Nat} {g : Nat → Option Nat} (k : AL h a m e g) (s : Sf P h h2) (n1 : ¬ P a 2) : AL h2 a m e g := by
  obtain ⟨l1, l2, l3, l4⟩ := k
  refine ⟨(s.2 _ _ n1).trans l1, l2, ?_, fun i hi => (s.hp.2.1 _ _).trans (l4 i hi)⟩
  rcases l3 with ⟨z, l5⟩ | ⟨l5, l6, l7, l8, l9⟩
  · exact Or.inl ⟨z, (s.hp.2.1 _ _).trans l5⟩
  · exact Or.inr ⟨l5, (s.hp.2.1 _ _).trans l6, l7, s.is l8, (s.hp.2.2.2.1 _).trans l9⟩
theorem FaC.sf {P : Nat → Nat → Prop} {h h2 : HP} {a : Nat} {d : DD} (k : FaC h a d) (s : Sf P h h2) (n1 : ∀ i, ¬ P a i) : FaC h2 a d := by
  obtain ⟨k0, kf, kn, w, hc, e0, e1, e2, e3, e4, e5⟩ := k
  exact ⟨k0, s.is kf, (s.hp.2.2.2.1 _).trans kn, w, hc, (s.2 _ _ (n1 _)).trans e0, (s.2 _ _ (n1 _)).trans e1, (s.2 _ _ (n1 _)).trans e2, (s.2 _ _ (n1 _)).trans e3, (s.2 _ _ (n1 _)).trans e4, (s.2 _ _ (n1 _)).trans e5⟩
theorem LL.sf {P : Nat → Nat → Prop} {h h2 : HP} {m e1 e2 : Nat} {fa : Nat → Nat} {E : Nat → DD} (k : LL h m e1 e2 fa E) (s : Sf P h h2) (n1 : ∀ a i, P a i → a < 116 ∧ a ≠ 110 ∧ a ≠ 111) : LL h2 m e1 e2 fa E := ⟨k.1.sf s (fun z => (n1 _ _ z).2.1 rfl), k.2.1.sf s (fun z => (n1 _ _ z).2.2 rfl), k.2.2.1, fun i hi => (k.2.2.2 i hi).sf s (fun j z => by
  have h1 := (n1 _ _ z).1
  have h2 := (k.2.2.2 i hi).1
  omega)⟩
theorem LT.sf {P : Nat → Nat → Prop} {h h2 : HP} {m n : Nat} {τ : Nat → Nat} {E D : Nat → DD} (k : LT h m n τ E D) (s : Sf P h h2) (n1 : ¬ P 109 3) (n2 : ∀ i, ¬ P 112 i) : LT h2 m n τ E D := ⟨(s.2 _ _ n1).trans k.1, k.2.1, fun j hj => ⟨(s.2 _ _ (n2 j)).trans (k.2.2 j hj).1, (k.2.2 j hj).2⟩⟩
theorem LY.sf {P : Nat → Nat → Prop} {h h2 : HP} {f : Nat} {o : Nat → Nat} (k : LY h f o) (s : Sf P h h2) (n1 : ¬ P 109 4) (n2 : ∀ i, ¬ P 113 i) : LY h2 f o := ⟨(s.2 _ _ n1).trans k.1, k.2.1, fun y hy => (s.2 _ _ (n2 y)).trans (k.2.2.1 y hy), k.2.2.2⟩
theorem scL_l : ∀ a i, scL a i → a < 116 ∧ a ≠ 110 ∧ a ≠ 111 := fun a i z => by unfold scL at z; omega
/-- how far the next ones stand -/
def gt2 (D : Nat → DD) (s p c k : Nat) : Nat → Int32
  | 0 => gtV D s p c k
  | w + 1 => gwQ (D k) s p c w (gt2 D s p c k w)
theorem gwQ_3 {d : DD} {s p c w : Nat} : gwQ d s p c w 3 = 3 := by
  unfold gwQ
  by_cases z : cvW d s w = some p ∧ (if w = 0 then dF d else dT d) = c
  · rw [if_pos z, if_neg (by decide)]
  · rw [if_neg z]
theorem gtV_3 {D : Nat → DD} {s p c k : Nat} (h : gtV D s p c k = 3) : ∀ m, gtV D s p c (k + m) = 3 := by
  intro m
  induction m with
  | zero => exact h
  | succ m ih => rw [← Nat.add_assoc, gtV_s, ih, gwQ_3, gwQ_3]
theorem gt2_3 {D : Nat → DD} {s p c k w n : Nat} (hw : w ≤ 2) (hk : k < n) (h : gt2 D s p c k w = 3) : gtV D s p c n = 3 := by
  have h2 : gt2 D s p c k 2 = 3 := by
    rcases (show w = 0 ∨ w = 1 ∨ w = 2 by omega) with rfl | rfl | rfl
    · show gwQ _ _ _ _ _ (gwQ _ _ _ _ _ _) = _
      have h : gtV D s p c k = 3 := h
      show gwQ (D k) s p c 1 (gwQ (D k) s p c 0 (gtV D s p c k)) = 3
      rw [h, gwQ_3, gwQ_3]
    · show gwQ (D k) s p c 1 (gt2 D s p c k 1) = 3
      rw [h, gwQ_3]
    · exact h
  have h3 : gtV D s p c (k + 1) = 3 := h2
  have := gtV_3 h3 (n - (k + 1))
  rw [show k + 1 + (n - (k + 1)) = n by omega] at this
  exact this
theorem gt2_ok {D : Nat → DD} {s p c k : Nat} (w9 : ∀ j, j < k + 1 → dWf (D j)) : ∀ w, gOk (gt2 D s p c k w) := by
  intro w
  induction w with
  | zero => exact gtV_ok (fun j hj => w9 j (by omega))
  | succ w ih => exact gwQ_ok (w9 k (by omega)) ih
theorem gt2_t {D : Nat → DD} {s p c k w : Nat} (h1 : cvW (D k) s w = some p) (h2 : (if w = 0 then dF (D k) else dT (D k)) = c) (h3 : gt2 D s p c k w = -1) : gt2 D s p c k (w + 1) = nI (if w = 0 then dT (D k) else dF (D k)) := by
  show gwQ _ _ _ _ _ _ = _
  unfold gwQ
  rw [if_pos ⟨h1, h2⟩, if_pos h3]
theorem gt2_x {D : Nat → DD} {s p c k w : Nat} (h1 : cvW (D k) s w = some p) (h2 : (if w = 0 then dF (D k) else dT (D k)) = c) (h3 : ¬ gt2 D s p c k w = -1) : gt2 D s p c k (w + 1) = 3 := by
  show gwQ _ _ _ _ _ _ = _
  unfold gwQ
  rw [if_pos ⟨h1, h2⟩, if_neg h3]
theorem gt2_f {D : Nat → DD} {s p c k w : Nat} (h1 : ¬ (cvW (D k) s w = some p ∧ (if w = 0 then dF (D k) else dT (D k)) = c)) : gt2 D s p c k (w + 1) = gt2 D s p c k w := by
  show gwQ _ _ _ _ _ _ = _
  unfold gwQ
  rw [if_neg h1]
theorem cvW_lt {d : DD} (w9 : dWf d) {s w q : Nat} (h : cvW d s w = some q) : q < 12 := by
  unfold cvW at h
  split at h
  · exact (gv_ok w9 h).1
  · exact (gb_ok w9 h).1
/-- what the law's chain answers: how long it is, or how it clashes -/
def chA (D : Nat → DD) (n s p : Nat) : Int32 := if rclV D n s p = -1 then nI (chF D n s p).2.length else -1 - rclV D n s p
theorem frc_3 {P : Nat → Bool} {c : Nat} (hc : c < 3) (h : P c = true) : frc P 3 = true := by
  unfold frc
  rw [frW_s, frW_s, frW_s]
  have : c = 0 ∨ c = 1 ∨ c = 2 := by omega
  by_cases h0 : P 0 = true
  · rw [if_pos h0]; rfl
  · rw [if_neg h0]
    by_cases h1 : P (0 + 1) = true
    · rw [if_pos h1]; rfl
    · rw [if_neg h1, if_pos]
      · rfl
      · rcases this with rfl | rfl | rfl
        · exact absurd h h0
        · exact absurd h h1
        · exact h
theorem frc_n {P : Nat → Bool} (h : ∀ c, c < 3 → P c = false) : frc P 3 = false := by
  unfold frc
  rw [frW_s, frW_s, frW_s, h 0 (by decide), h (0 + 1) (by decide), h (0 + 1 + 1) (by decide)]
  rfl
theorem rcl_0 {D : Nat → DD} {n s p c : Nat} (hc : c < 3) (h : gtV D s p c n = 3) : rclV D n s p = 0 := by
  unfold rclV
  rw [frc_3 (P := fun c => decide (gtV D s p c n = 3)) hc (decide_eq_true h), if_pos rfl]
theorem rcl_1 {D : Nat → DD} {n s p : Nat} (h3 : ∀ c, c < 3 → ¬ gtV D s p c n = 3) {L : List Nat} (h : chF D n s p = (true, L)) : rclV D n s p = 1 := by
  unfold rclV
  rw [frc_n (P := fun c => decide (gtV D s p c n = 3)) (fun c hc => decide_eq_false (h3 c hc)), h]
  rfl
theorem rcl_2 {D : Nat → DD} {n s p c : Nat} (h3 : ∀ c, c < 3 → ¬ gtV D s p c n = 3) {L : List Nat} (h : chF D n s p = (false, L)) (hc : c < 3) (h1 : ¬ c ∈ L) (h2 : ¬ gtV D s p c n = -1) : rclV D n s p = 2 := by
  unfold rclV
  rw [frc_n (P := fun c => decide (gtV D s p c n = 3)) (fun c hc => decide_eq_false (h3 c hc)), h, frc_3 (P := fun c => decide (¬ c ∈ (false, L).2 ∧ ¬ gtV D s p c n = -1)) hc (decide_eq_true ⟨h1, h2⟩)]
  rfl
theorem rcl_3 {D : Nat → DD} {n s p : Nat} (h3 : ∀ c, c < 3 → ¬ gtV D s p c n = 3) {L : List Nat} (h : chF D n s p = (false, L)) (h1 : ∀ c, c < 3 → ¬ (¬ c ∈ L ∧ ¬ gtV D s p c n = -1)) : rclV D n s p = -1 := by
  unfold rclV
  rw [frc_n (P := fun c => decide (gtV D s p c n = 3)) (fun c hc => decide_eq_false (h3 c hc)), h, frc_n (P := fun c => decide (¬ c ∈ (false, L).2 ∧ ¬ gtV D s p c n = -1)) (fun c hc => decide_eq_false (h1 c hc))]
  rfl
theorem chA_0 {D : Nat → DD} {n s p c : Nat} (hc : c < 3) (h : gtV D s p c n = 3) : chA D n s p = -1 := by
  unfold chA
  rw [rcl_0 hc h, if_neg (by decide)]
  decide
theorem chA_1 {D : Nat → DD} {n s p : Nat} (h3 : ∀ c, c < 3 → ¬ gtV D s p c n = 3) {L : List Nat} (h : chF D n s p = (true, L)) : chA D n s p = -2 := by
  unfold chA
  rw [rcl_1 h3 h, if_neg (by decide)]
  decide
theorem chA_2 {D : Nat → DD} {n s p c : Nat} (h3 : ∀ c, c < 3 → ¬ gtV D s p c n = 3) {L : List Nat} (h : chF D n s p = (false, L)) (hc : c < 3) (h1 : ¬ c ∈ L) (h2 : ¬ gtV D s p c n = -1) : chA D n s p = -3 := by
  unfold chA
  rw [rcl_2 h3 h hc h1 h2, if_neg (by decide)]
  decide
theorem chA_3 {D : Nat → DD} {n s p : Nat} (h3 : ∀ c, c < 3 → ¬ gtV D s p c n = 3) {L : List Nat} (h : chF D n s p = (false, L)) (h1 : ∀ c, c < 3 → ¬ (¬ c ∈ L ∧ ¬ gtV D s p c n = -1)) : chA D n s p = nI L.length := by
  unfold chA
  rw [rcl_3 h3 h h1, if_pos rfl, h]
theorem zX9_chain (X : EX) {h0 : HP} (F0 : Fx h0) {m n e1 e2 : Nat} {fa τ : Nat → Nat} {E D : Nat → DD} (ll0 : LL h0 m e1 e2 fa E) (lt0 : LT h0 m n τ E D) {s p : Nat} (hs : s < 1296) (hp : p < 12) : Ct X mX9_chain 5 0 0 [vR (some 109), vI (nI s), vI (nI p)] h0 (fun v h' => v = some (vI (chA D n s p)) ∧ Sf scL h0 h') := by
  refine ct_of rfl (Nat.le_of_ble_eq_true rfl) ?_
  have hn12 := lt0.2.1
  have wD : ∀ j, j < n → dWf (D j) := fun j hj => by
    rw [(lt0.2.2 j hj).2.2]
    exact (ll0.2.2.2 _ (lt0.2.2 j hj).2.1).2.2.2.1
  have phase3 : ∀ (L : List Nat) (M : Nat) (hz : HP), Sf scL h0 hz → (∀ c, c < 3 → hI hz 115 c = gtV D s p c n) → (∀ c, c < 3 → ¬ gtV D s p c n = 3) → chF D n s p = (false, L) → (∀ c, c < 3 → M.testBit c = decide (c ∈ L)) → Ev X mX9_chain 5 0 0 (fun v h' => v = some (vI (chA D n s p)) ∧ Sf scL h0 h') 0 0 203 [(0, some (vR (some 109))), (3, some (vI (nI L.length))), (4, some (vI (nI M))), (6, some (vI (nI 0)))] [] hz := by
    intro L M hz S to n3 hL hM
    have F := S.F F0
    have ph3 : ∀ (m : Nat) (c : Nat), c + m = 3 → (∀ x, x < c → ¬ (¬ x ∈ L ∧ ¬ gtV D s p x n = -1)) → Ev X mX9_chain 5 0 0 (fun v h' => v = some (vI (chA D n s p)) ∧ Sf scL h0 h') 0 0 203 [(0, some (vR (some 109))), (3, some (vI (nI L.length))), (4, some (vI (nI M))), (6, some (vI (nI c)))] [] hz := by
      intro m
      induction m with
      | zero =>
        intro c hc nc
        refine e_iload aX9_chain_203 rfl ?_
        refine e_iconst (v := 3) aX9_chain_205 (by decide) ?_
        refine e_icmp_ge aX9_chain_206 (fun c206 => ?_) (fun c206 => ?_)
        · -- 206: taken
          refine e_iload_n aX9_chain_238 rfl ?_
          refine e_ireturn aX9_chain_239 rfl (Nat.le_refl _) (Nat.le_refl _) ?_
          exact ⟨congrArg (fun z => some (vI z)) (chA_3 n3 hL (fun x hx => nc x (by omega))).symm, S⟩
        · -- 206: not taken
          exact absurd (nI_le (a := 3) (b := c) (by omega) (by omega)) c206
      | succ m ih =>
        intro c hc nc
        refine e_iload aX9_chain_203 rfl ?_
        refine e_iconst (v := 3) aX9_chain_205 (by decide) ?_
        refine e_icmp_ge aX9_chain_206 (fun c206 => ?_) (fun c206 => ?_)
        · -- 206: taken
          exact absurd c206 (nI_ge (a := c) (b := 3) (by omega) (by decide))
        · -- 206: not taken
          refine e_aload_n aX9_chain_209 rfl ?_
          refine e_getRF aX9_chain_210 fX9_29 rfl (fx_is F rfl) (fx_r (b := 115) F rfl) ?_
          refine e_iload aX9_chain_213 rfl ?_
          refine e_ialoadF aX9_chain_215 (fx_is F rfl) (fx_n (n := 3) F rfl) (vin (N := 3) (by omega)) (show hI hz 115 (nI c).toNatClampNeg = gtV D s p c n by rw [cl (by omega)]; exact to c (by omega)) ?_
          refine e_if_lt aX9_chain_216 (fun c216 => ?_) (fun c216 => ?_)
          · -- 216: taken
            have q216 : gtV D s p c n = -1 := by
              rcases gtV_ok wD (s := s) (p := p) (c := c) with z | z | ⟨t, ht, z⟩
              · exact z
              · exact absurd z (n3 c (by omega))
              · rw [z] at c216; exact absurd c216 (nI_pos (by omega))
            refine e_iinc aX9_chain_232 rfl rfl (Nat.le_of_ble_eq_true rfl) ?_
            refine e_goto aX9_chain_235 ?_
            refine e_ls (ls' := [(0, some (vR (some 109))), (3, some (vI (nI L.length))), (4, some (vI (nI M))), (6, some (vI (nI (c + 1))))]) ⟨rfl, rfl, rfl, congrArg (fun x => some (vI x)) (nI_1 c), trivial⟩ ?_
            exact ih (c + 1) (by omega) (fun x hx => by
              by_cases e : x = c
              · rw [e]; exact fun z => z.2 q216
              · exact nc x (by omega))
          · -- 216: not taken
            have q216 : ¬ gtV D s p c n = -1 := fun z => c216 (by rw [z]; decide)
            refine e_iload aX9_chain_219 rfl ?_
            refine e_iload aX9_chain_221 rfl ?_
            refine e_ishr aX9_chain_223 ?_
            refine e_iconst (v := 1) aX9_chain_224 (by decide) ?_
            refine e_iand aX9_chain_225 ?_
            refine e_top (v := b2 (c ∈ L)) ((btI_and1 (j := c) (by omega)).trans (by rw [btI_nI (by omega), hM c (by omega)]; unfold b2; by_cases e : c ∈ L; rw [decide_eq_true e, if_pos rfl, if_pos e]; rw [decide_eq_false e, if_neg (by decide), if_neg e])) ?_
            refine e_if_ne aX9_chain_226 (fun c226 => ?_) (fun c226 => ?_)
            · -- 226: taken
              have q226 : c ∈ L := Decidable.of_not_not (fun z => c226 (b2_0.mpr z))
              refine e_iinc aX9_chain_232 rfl rfl (Nat.le_of_ble_eq_true rfl) ?_
              refine e_goto aX9_chain_235 ?_
              refine e_ls (ls' := [(0, some (vR (some 109))), (3, some (vI (nI L.length))), (4, some (vI (nI M))), (6, some (vI (nI (c + 1))))]) ⟨rfl, rfl, rfl, congrArg (fun x => some (vI x)) (nI_1 c), trivial⟩ ?_
              exact ih (c + 1) (by omega) (fun x hx => by
                by_cases e : x = c
                · rw [e]; exact fun z => z.1 q226
                · exact nc x (by omega))
            · -- 226: not taken
              have q226 : ¬ c ∈ L := b2_0.mp c226
              refine e_bipush (v := -3) aX9_chain_229 (by decide) ?_
              refine e_ireturn aX9_chain_231 rfl (Nat.le_refl _) (Nat.le_refl _) ?_
              exact ⟨congrArg (fun z => some (vI z)) (chA_2 n3 hL (c := c) (by omega) q226 q216).symm, S⟩
    exact ph3 3 0 rfl (fun x hx => absurd hx (Nat.not_lt_zero x))
  have phase2 : ∀ (m : Nat), ∀ (L : List Nat) (M : Nat) (a : Int32) (hz : HP), L.length + m = 4 → Sf scL h0 hz → (∀ c, c < 3 → hI hz 115 c = gtV D s p c n) → (∀ c, c < 3 → ¬ gtV D s p c n = 3) → chR (fun c => gtV D s p c n) m a L = chF D n s p → L.Nodup → (∀ c, c ∈ L → c < 3) → M < 8 → (∀ c, c < 3 → M.testBit c = decide (c ∈ L)) → (a = -1 ∨ ∃ t, t < 3 ∧ a = nI t) → Ev X mX9_chain 5 0 0 (fun v h' => v = some (vI (chA D n s p)) ∧ Sf scL h0 h') 0 0 145 [(0, some (vR (some 109))), (1, some (vI (nI s))), (2, some (vI (nI p))), (3, some (vI (nI L.length))), (4, some (vI (nI M))), (5, some (vI a))] [] hz := by
    intro m
    induction m with
    | zero =>
      intro L M a hz hl S to n3 hR nd l3
      have := nd3 L nd l3
      omega
    | succ m ih =>
      intro L M a hz hl S to n3 hR nd l3 hM8 hM ha
      have F := S.F F0
      rcases ha with ha | ⟨c, hc, ha⟩
      · skip
        refine e_iload aX9_chain_145 rfl ?_
        refine e_if_lt aX9_chain_147 (fun c147 => ?_) (fun c147 => ?_)
        · -- 147: taken
          refine e_iload aX9_chain_192 rfl ?_
          refine e_if_lt aX9_chain_194 (fun c194 => ?_) (fun c194 => ?_)
          · -- 194: taken
            refine e_iconst (v := 0) aX9_chain_200 (by decide) ?_
            refine e_istore aX9_chain_201 (Nat.le_of_ble_eq_true rfl) ?_
            refine e_ls (ls' := [(0, some (vR (some 109))), (3, some (vI (nI L.length))), (4, some (vI (nI M))), (6, some (vI (nI 0)))]) ⟨rfl, rfl, rfl, rfl, trivial⟩ ?_
            exact phase3 L M hz S to n3 (by rw [← hR, chR_s, if_pos (Or.inl ha)]) hM
          · -- 194: not taken
            exact absurd (by rw [ha]; decide) c194
        · -- 147: not taken
          exact absurd (by rw [ha]; decide) c147
      · subst ha
        have ne9 : ¬ (nI c = -1 ∨ nI c = 3) := fun z => z.elim (fun z => absurd (z ▸ nI_pos' (n := c) (by omega)) (by decide)) (fun z => absurd ((nI_eq (b := 3) (by omega) (by decide)).mp z) (by omega))
        refine e_iload aX9_chain_145 rfl ?_
        refine e_if_lt aX9_chain_147 (fun c147 => ?_) (fun c147 => ?_)
        · -- 147: taken
          exact absurd c147 (nI_pos (by omega))
        · -- 147: not taken
          refine e_iload aX9_chain_150 rfl ?_
          refine e_iload aX9_chain_152 rfl ?_
          refine e_ishr aX9_chain_154 ?_
          refine e_iconst (v := 1) aX9_chain_155 (by decide) ?_
          refine e_iand aX9_chain_156 ?_
          refine e_top (v := b2 (c ∈ L)) ((btI_and1 (j := c) (by omega)).trans (by rw [btI_nI (by omega), hM c (by omega)]; unfold b2; by_cases e : c ∈ L; rw [decide_eq_true e, if_pos rfl, if_pos e]; rw [decide_eq_false e, if_neg (by decide), if_neg e])) ?_
          refine e_if_ne aX9_chain_157 (fun c157 => ?_) (fun c157 => ?_)
          · -- 157: taken
            have q157 : c ∈ L := Decidable.of_not_not (fun z => c157 (b2_0.mpr z))
            refine e_iload aX9_chain_192 rfl ?_
            refine e_if_lt aX9_chain_194 (fun c194 => ?_) (fun c194 => ?_)
            · -- 194: taken
              exact absurd c194 (nI_pos (by omega))
            · -- 194: not taken
              refine e_bipush (v := -2) aX9_chain_197 (by decide) ?_
              refine e_ireturn aX9_chain_199 rfl (Nat.le_refl _) (Nat.le_refl _) ?_
              exact ⟨congrArg (fun z => some (vI z)) (chA_1 n3 (L := L) (by rw [← hR, chR_s, if_neg ne9, cl (by omega), if_pos q157])).symm, S⟩
          · -- 157: not taken
            have q157 : ¬ c ∈ L := b2_0.mp c157
            refine e_aload_n aX9_chain_160 rfl ?_
            refine e_getRF aX9_chain_161 fX9_26 rfl (fx_is F rfl) (fx_r (b := 114) F rfl) ?_
            refine e_iload_n aX9_chain_164 rfl ?_
            refine e_iload aX9_chain_165 rfl ?_
            refine e_iastoreF aX9_chain_167 (fx_is F rfl) (fx_n (n := 4) F rfl) (vin (N := 4) (by omega)) ?_
            rw [cl (n := L.length) (by omega)]
            refine e_iinc aX9_chain_168 rfl rfl (Nat.le_of_ble_eq_true rfl) ?_
            refine e_iload aX9_chain_171 rfl ?_
            refine e_iconst (v := 1) aX9_chain_173 (by decide) ?_
            refine e_iload aX9_chain_174 rfl ?_
            refine e_ishl aX9_chain_176 ?_
            refine e_top (shl1 hc) ?_
            refine e_ior aX9_chain_177 ?_
            refine e_top or_8 ?_
            refine e_istore aX9_chain_178 (Nat.le_of_ble_eq_true rfl) ?_
            refine e_aload_n aX9_chain_180 rfl ?_
            refine e_getRF aX9_chain_181 fX9_29 rfl (fx_is F rfl) (fx_r (b := 115) F rfl) ?_
            refine e_iload aX9_chain_184 rfl ?_
            refine e_ialoadF aX9_chain_186 (fx_is F rfl) (fx_n (n := 3) F rfl) (vin (N := 3) hc) (show hI (wI hz 114 L.length (nI c)) 115 (nI c).toNatClampNeg = gtV D s p c n by rw [cl (by omega)]; exact (wI_a (h := hz) (a := 114) (b := 115) (by decide)).trans (to c hc)) ?_
            refine e_istore aX9_chain_187 (Nat.le_of_ble_eq_true rfl) ?_
            refine e_goto aX9_chain_189 ?_
            refine e_ls (ls' := [(0, some (vR (some 109))), (1, some (vI (nI s))), (2, some (vI (nI p))), (3, some (vI (nI (L ++ [c]).length))), (4, some (vI (nI (M ||| 2 ^ c)))), (5, some (vI (gtV D s p c n)))]) ⟨rfl, rfl, rfl, congrArg (fun x => some (vI x)) (by rw [List.length_append]; exact nI_1 _), rfl, rfl, trivial⟩ ?_
            refine ih (L ++ [c]) (M ||| 2 ^ c) _ _ (by rw [List.length_append]; show L.length + 1 + m = 4; omega) (S.wI (Or.inl rfl)) (fun x hx => (wI_a (h := hz) (a := 114) (b := 115) (by decide)).trans (to x hx)) n3 (by rw [← hR, chR_s, if_neg ne9, cl (by omega), if_neg q157]) (nd_app nd q157) (fun x hx => ?_) (Nat.or_lt_two_pow (n := 3) hM8 (Nat.pow_lt_pow_right (by decide) hc)) (fun x hx => ?_) ?_
            · rcases List.mem_append.mp hx with hx | hx
              · exact l3 x hx
              · rw [List.mem_singleton.mp hx]; exact hc
            · rw [Nat.testBit_or, hM x hx, Nat.testBit_two_pow, ← Bool.decide_or]
              refine decide_eq_decide.mpr ?_
              rw [List.mem_append, List.mem_singleton]
              exact or_congr Iff.rfl ⟨fun z => z.symm, fun z => z.symm⟩
            · rcases gtV_ok wD (s := s) (p := p) (c := c) with z | z | z
              · exact Or.inl z
              · exact absurd z (n3 c hc)
              · exact Or.inr z
  have outer : ∀ (mk : Nat) (k : Nat) (hz : HP), k + mk = n → Sf scL h0 hz → (∀ c, c < 3 → hI hz 115 c = gtV D s p c k) → (∀ c, c < 3 → ¬ gtV D s p c k = 3) → Ev X mX9_chain 5 0 0 (fun v h' => v = some (vI (chA D n s p)) ∧ Sf scL h0 h') 0 0 23 [(0, some (vR (some 109))), (1, some (vI (nI s))), (2, some (vI (nI p))), (3, some (vI (nI k)))] [] hz := by
    intro mk
    induction mk with
    | zero =>
      intro k hz hk S to n3
      have F := S.F F0
      have ll := ll0.sf S scL_l
      have lt := lt0.sf S (by unfold scL; omega) (fun i => by unfold scL; omega)
      refine e_iload_n aX9_chain_23 rfl ?_
      refine e_aload_n aX9_chain_24 rfl ?_
      refine e_getIF aX9_chain_25 fX9_66 rfl (fx_is F rfl) lt.1 ?_
      refine e_icmp_ge aX9_chain_28 (fun c28 => ?_) (fun c28 => ?_)
      · -- 28: taken
        refine e_iconst (v := 0) aX9_chain_135 (by decide) ?_
        refine e_istore_n aX9_chain_136 (Nat.le_of_ble_eq_true rfl) ?_
        refine e_iconst (v := 0) aX9_chain_137 (by decide) ?_
        refine e_istore aX9_chain_138 (Nat.le_of_ble_eq_true rfl) ?_
        refine e_iload_n aX9_chain_140 rfl ?_
        refine e_iconst (v := 3) aX9_chain_141 (by decide) ?_
        refine e_irem aX9_chain_142 (by decide) ?_
        refine e_top (nI_rem (b := 3) (by omega) (by decide) (by decide)) ?_
        refine e_istore aX9_chain_143 (Nat.le_of_ble_eq_true rfl) ?_
        obtain rfl : k = n := by omega
        refine e_ls (ls' := [(0, some (vR (some 109))), (1, some (vI (nI s))), (2, some (vI (nI p))), (3, some (vI (nI 0))), (4, some (vI (nI 0))), (5, some (vI (nI (p % 3))))]) ⟨rfl, rfl, rfl, rfl, rfl, rfl, trivial⟩ ?_
        exact phase2 4 [] 0 _ hz rfl S to n3 (show chR _ 4 (nI (p % 3)) [] = chF D k s p from rfl) (by simp) (fun c hc => by cases hc) (by decide) (fun c hc => (by simp)) (Or.inr ⟨_, Nat.mod_lt _ (by decide), rfl⟩)
      · -- 28: not taken
        exact absurd (nI_le (by omega) (by omega)) c28
    | succ mk ihk =>
      intro k hz hkm S to n3
      have hk : k < n := by omega
      have w9 : ∀ j, j < k + 1 → dWf (D j) := fun j hj => wD j (by omega)
      have nx : ∀ (hz : HP), Sf scL h0 hz → (∀ c, c < 3 → hI hz 115 c = gtV D s p c (k + 1)) → (∀ c, c < 3 → ¬ gtV D s p c (k + 1) = 3) → Ev X mX9_chain 5 0 0 (fun v h' => v = some (vI (chA D n s p)) ∧ Sf scL h0 h') 0 0 129 [(0, some (vR (some 109))), (1, some (vI (nI s))), (2, some (vI (nI p))), (3, some (vI (nI k))), (4, some (vI (nI 2)))] [] hz := by
        intro hz S to n3
        refine e_iinc aX9_chain_129 rfl rfl (Nat.le_of_ble_eq_true rfl) ?_
        refine e_goto aX9_chain_132 ?_
        refine e_ls (ls' := [(0, some (vR (some 109))), (1, some (vI (nI s))), (2, some (vI (nI p))), (3, some (vI (nI (k + 1))))]) ⟨rfl, rfl, rfl, congrArg (fun x => some (vI x)) (nI_1 k), trivial⟩ ?_
        exact ihk (k + 1) hz (by omega) S to n3
      have inner : ∀ (m : Nat) (w : Nat) (hz : HP), w + m = 2 → Sf scL h0 hz → (∀ c, c < 3 → hI hz 115 c = gt2 D s p c k w) → (∀ c, c < 3 → ¬ gt2 D s p c k w = 3) → Ev X mX9_chain 5 0 0 (fun v h' => v = some (vI (chA D n s p)) ∧ Sf scL h0 h') 0 0 34 [(0, some (vR (some 109))), (1, some (vI (nI s))), (2, some (vI (nI p))), (3, some (vI (nI k))), (4, some (vI (nI w)))] [] hz := by
        intro m
        induction m with
        | zero =>
          intro w hz hw S to n3
          have F := S.F F0
          have ll := ll0.sf S scL_l
          have lt := lt0.sf S (by unfold scL; omega) (fun i => by unfold scL; omega)
          refine e_iload aX9_chain_34 rfl ?_
          refine e_iconst (v := 2) aX9_chain_36 (by decide) ?_
          refine e_icmp_ge aX9_chain_37 (fun c37 => ?_) (fun c37 => ?_)
          · -- 37: taken
            obtain rfl : w = 2 := by omega
            exact nx hz S (fun c hc => to c hc) n3
          · -- 37: not taken
            exact absurd (nI_le (a := 2) (b := w) (by omega) (by omega)) c37
        | succ m ih =>
          intro w hz hw S to n3
          have F := S.F F0
          have ll := ll0.sf S scL_l
          have lt := lt0.sf S (by unfold scL; omega) (fun i => by unfold scL; omega)
          have dk := (lt.2.2 k hk).2.2
          obtain ⟨k0, kf, kn, wk, hcf, e0, e1, e2, e3, e4, e5⟩ := ll.2.2.2 (τ k) (lt.2.2 k hk).2.1
          rw [← dk] at wk e0 e1 e2 e3 e4 e5
          obtain ⟨w1, w2, w3, w4, w5⟩ := id wk
          have fr : hI hz (fa (τ k)) (1 + w) = nI (if w = 0 then dF (D k) else dT (D k)) := by
            rcases (show w = 0 ∨ w = 1 by omega) with rfl | rfl
            · exact e1
            · exact e2
          have tr : hI hz (fa (τ k)) (2 - w) = nI (if w = 0 then dT (D k) else dF (D k)) := by
            rcases (show w = 0 ∨ w = 1 by omega) with rfl | rfl
            · exact e2
            · exact e1
          have hg : (if w = 0 then dF (D k) else dT (D k)) < 3 := by split <;> omega
          generalize hgd : (if w = 0 then dF (D k) else dT (D k)) = g at fr hg
          refine e_iload aX9_chain_34 rfl ?_
          refine e_iconst (v := 2) aX9_chain_36 (by decide) ?_
          refine e_icmp_ge aX9_chain_37 (fun c37 => ?_) (fun c37 => ?_)
          · -- 37: taken
            exact absurd c37 (nI_ge (a := w) (b := 2) (by omega) (by decide))
          · -- 37: not taken
            refine e_aload_n aX9_chain_40 rfl ?_
            refine e_aload_n aX9_chain_41 rfl ?_
            refine e_getRF aX9_chain_42 fX9_19 rfl (fx_is F rfl) (fx_r (b := 112) F rfl) ?_
            refine e_iload_n aX9_chain_45 rfl ?_
            refine e_ialoadF aX9_chain_46 (fx_is F rfl) (fx_n (n := 13) F rfl) (vin (N := 13) (by omega)) (show hI hz 112 (nI k).toNatClampNeg = nI (τ k) by rw [cl (by omega)]; exact (lt.2.2 k hk).1) ?_
            refine e_iload_n aX9_chain_47 rfl ?_
            refine e_iload aX9_chain_48 rfl ?_
            refine e_invvT aX9_chain_50 kX9_63 (zX9_conveys X F ll (lt.2.2 k hk).2.1 hs (w := w) (by omega)) rfl rfl (fx_is F rfl) (Nat.le_of_ble_eq_true rfl) (Nat.le_of_ble_eq_true rfl) (Nat.le_refl _) (Nat.le_refl _) (Nat.le_of_ble_eq_true rfl) ?_
            refine e_top (v := oI (cvW (D k) s w)) (by rw [dk]) ?_
            refine e_iload_n aX9_chain_53 rfl ?_
            refine e_icmp_eq aX9_chain_54 (fun c54 => ?_) (fun c54 => ?_)
            · -- 54: taken
              have q54 : cvW (D k) s w = some p := (oI_inj (q := cvW (D k) s w) (r := some p) (fun x hx => by have := cvW_lt wk hx; omega) (fun x hx => by cases hx; omega)).mp c54
              refine e_aload_n aX9_chain_60 rfl ?_
              refine e_getRF aX9_chain_61 fX9_10 rfl (fx_is F rfl) (fx_r (b := 110) F rfl) ?_
              refine e_aload_n aX9_chain_64 rfl ?_
              refine e_getRF aX9_chain_65 fX9_19 rfl (fx_is F rfl) (fx_r (b := 112) F rfl) ?_
              refine e_iload_n aX9_chain_68 rfl ?_
              refine e_ialoadF aX9_chain_69 (fx_is F rfl) (fx_n (n := 13) F rfl) (vin (N := 13) (by omega)) (show hI hz 112 (nI k).toNatClampNeg = nI (τ k) by rw [cl (by omega)]; exact (lt.2.2 k hk).1) ?_
              refine e_invvT aX9_chain_70 kX9_36 (zJx4a65c_get_915e3 X (fx_is F rfl) ll.1 (lt.2.2 k hk).2.1) rfl rfl (fx_is F rfl) (Nat.le_of_ble_eq_true rfl) (Nat.le_of_ble_eq_true rfl) (Nat.le_refl _) (Nat.le_refl _) (Nat.le_of_ble_eq_true rfl) ?_
              refine e_topR (v := some (fa (τ k))) rfl ?_
              refine e_castA aX9_chain_73 cX9_40 kf ?_
              refine e_iconst (v := 1) aX9_chain_76 (by decide) ?_
              refine e_iload aX9_chain_77 rfl ?_
              refine e_iadd aX9_chain_79 ?_
              refine e_top (nI_add 1 w) ?_
              refine e_ialoadF aX9_chain_80 kf kn (vin (N := 6) (by omega)) (show hI hz (fa (τ k)) (nI (1 + w)).toNatClampNeg = nI g by rw [cl (by omega)]; exact fr) ?_
              refine e_istore aX9_chain_81 (Nat.le_of_ble_eq_true rfl) ?_
              refine e_aload_n aX9_chain_83 rfl ?_
              refine e_getRF aX9_chain_84 fX9_29 rfl (fx_is F rfl) (fx_r (b := 115) F rfl) ?_
              refine e_iload aX9_chain_87 rfl ?_
              refine e_ialoadF aX9_chain_89 (fx_is F rfl) (fx_n (n := 3) F rfl) (vin (N := 3) hg) (show hI hz 115 (nI g).toNatClampNeg = gt2 D s p g k w by rw [cl (by omega)]; exact to g hg) ?_
              refine e_if_lt aX9_chain_90 (fun c90 => ?_) (fun c90 => ?_)
              · -- 90: taken
                have q90 : gt2 D s p g k w = -1 := by
                  rcases gt2_ok w9 (s := s) (p := p) (c := g) w with z | z | ⟨t, ht, z⟩
                  · exact z
                  · exact absurd z (n3 g hg)
                  · rw [z] at c90; exact absurd c90 (nI_pos (by omega))
                refine e_aload_n aX9_chain_95 rfl ?_
                refine e_getRF aX9_chain_96 fX9_29 rfl (fx_is F rfl) (fx_r (b := 115) F rfl) ?_
                refine e_iload aX9_chain_99 rfl ?_
                refine e_aload_n aX9_chain_101 rfl ?_
                refine e_getRF aX9_chain_102 fX9_10 rfl (fx_is F rfl) (fx_r (b := 110) F rfl) ?_
                refine e_aload_n aX9_chain_105 rfl ?_
                refine e_getRF aX9_chain_106 fX9_19 rfl (fx_is F rfl) (fx_r (b := 112) F rfl) ?_
                refine e_iload_n aX9_chain_109 rfl ?_
                refine e_ialoadF aX9_chain_110 (fx_is F rfl) (fx_n (n := 13) F rfl) (vin (N := 13) (by omega)) (show hI hz 112 (nI k).toNatClampNeg = nI (τ k) by rw [cl (by omega)]; exact (lt.2.2 k hk).1) ?_
                refine e_invvT aX9_chain_111 kX9_36 (zJx4a65c_get_915e3 X (fx_is F rfl) ll.1 (lt.2.2 k hk).2.1) rfl rfl (fx_is F rfl) (Nat.le_of_ble_eq_true rfl) (Nat.le_of_ble_eq_true rfl) (Nat.le_refl _) (Nat.le_refl _) (Nat.le_of_ble_eq_true rfl) ?_
                refine e_topR (v := some (fa (τ k))) rfl ?_
                refine e_castA aX9_chain_114 cX9_40 kf ?_
                refine e_iconst (v := 2) aX9_chain_117 (by decide) ?_
                refine e_iload aX9_chain_118 rfl ?_
                refine e_isub aX9_chain_120 ?_
                refine e_top (nI_subN (a := 2) (b := w) (by omega)) ?_
                refine e_ialoadF aX9_chain_121 kf kn (vin (N := 6) (by omega)) (show hI hz (fa (τ k)) (nI (2 - w)).toNatClampNeg = nI (if w = 0 then dT (D k) else dF (D k)) by rw [cl (by omega)]; exact tr) ?_
                refine e_iastoreF aX9_chain_122 (fx_is F rfl) (fx_n (n := 3) F rfl) (vin (N := 3) hg) ?_
                rw [cl (n := g) (by omega)]
                refine e_iinc aX9_chain_123 rfl rfl (Nat.le_of_ble_eq_true rfl) ?_
                refine e_goto aX9_chain_126 ?_
                refine e_ls (ls' := [(0, some (vR (some 109))), (1, some (vI (nI s))), (2, some (vI (nI p))), (3, some (vI (nI k))), (4, some (vI (nI (w + 1))))]) ⟨rfl, rfl, rfl, rfl, congrArg (fun x => some (vI x)) (nI_1 w), trivial⟩ ?_
                refine ih (w + 1) _ (by omega) (S.wI (Or.inr rfl)) (fun c hc => ?_) (fun c hc => ?_)
                · by_cases e : c = g
                  · rw [e, gt2_t q54 hgd q90]; exact up2_s
                  · rw [gt2_f (fun z => e (z.2.symm.trans hgd))]; exact (up2_i e).trans (to c hc)
                · by_cases e : c = g
                  · rw [e, gt2_t q54 hgd q90]
                    exact fun z => absurd ((nI_eq (b := 3) (by split <;> omega) (by decide)).mp z) (by split <;> omega)
                  · rw [gt2_f (fun z => e (z.2.symm.trans hgd))]; exact n3 c hc
              · -- 90: not taken
                have q90 : ¬ gt2 D s p g k w = -1 := fun z => c90 (by rw [z]; decide)
                refine e_iconst (v := -1) aX9_chain_93 (by decide) ?_
                refine e_ireturn aX9_chain_94 rfl (Nat.le_refl _) (Nat.le_refl _) ?_
                exact ⟨congrArg (fun z => some (vI z)) (chA_0 hg (gt2_3 (w := w + 1) (by omega) hk (gt2_x q54 hgd q90))).symm, S⟩
            · -- 54: not taken
              have q54 : ¬ cvW (D k) s w = some p := fun z => c54 (by rw [z]; rfl)
              refine e_goto aX9_chain_57 ?_
              refine e_iinc aX9_chain_123 rfl rfl (Nat.le_of_ble_eq_true rfl) ?_
              refine e_goto aX9_chain_126 ?_
              refine e_ls (ls' := [(0, some (vR (some 109))), (1, some (vI (nI s))), (2, some (vI (nI p))), (3, some (vI (nI k))), (4, some (vI (nI (w + 1))))]) ⟨rfl, rfl, rfl, rfl, congrArg (fun x => some (vI x)) (nI_1 w), trivial⟩ ?_
              exact ih (w + 1) _ (by omega) S (fun c hc => by rw [gt2_f (fun z => q54 z.1)]; exact to c hc) (fun c hc => by rw [gt2_f (fun z => q54 z.1)]; exact n3 c hc)
      have F := S.F F0
      have ll := ll0.sf S scL_l
      have lt := lt0.sf S (by unfold scL; omega) (fun i => by unfold scL; omega)
      refine e_iload_n aX9_chain_23 rfl ?_
      refine e_aload_n aX9_chain_24 rfl ?_
      refine e_getIF aX9_chain_25 fX9_66 rfl (fx_is F rfl) lt.1 ?_
      refine e_icmp_ge aX9_chain_28 (fun c28 => ?_) (fun c28 => ?_)
      · -- 28: taken
        exact absurd c28 (nI_ge (by omega) (by omega))
      · -- 28: not taken
        refine e_iconst (v := 0) aX9_chain_31 (by decide) ?_
        refine e_istore aX9_chain_32 (Nat.le_of_ble_eq_true rfl) ?_
        refine e_ls (ls' := [(0, some (vR (some 109))), (1, some (vI (nI s))), (2, some (vI (nI p))), (3, some (vI (nI k))), (4, some (vI (nI 0)))]) ⟨rfl, rfl, rfl, rfl, rfl, trivial⟩ ?_
        exact inner 2 0 hz rfl S to n3
  have F := F0
  refine e_aload_n aX9_chain_0 rfl ?_
  refine e_getRF aX9_chain_1 fX9_29 rfl (fx_is F rfl) (fx_r (b := 115) F rfl) ?_
  refine e_iconst (v := 0) aX9_chain_4 (by decide) ?_
  refine e_iconst (v := -1) aX9_chain_5 (by decide) ?_
  refine e_iastoreF aX9_chain_6 (fx_is F rfl) (fx_n (n := 3) F rfl) (vin (n := 0) (N := 3) (by decide)) ?_
  refine e_aload_n aX9_chain_7 rfl ?_
  refine e_getRF aX9_chain_8 fX9_29 rfl (fx_is F rfl) (fx_r (b := 115) F rfl) ?_
  refine e_iconst (v := 1) aX9_chain_11 (by decide) ?_
  refine e_iconst (v := -1) aX9_chain_12 (by decide) ?_
  refine e_iastoreF aX9_chain_13 (fx_is F rfl) (fx_n (n := 3) F rfl) (vin (n := 1) (N := 3) (by decide)) ?_
  refine e_aload_n aX9_chain_14 rfl ?_
  refine e_getRF aX9_chain_15 fX9_29 rfl (fx_is F rfl) (fx_r (b := 115) F rfl) ?_
  refine e_iconst (v := 2) aX9_chain_18 (by decide) ?_
  refine e_iconst (v := -1) aX9_chain_19 (by decide) ?_
  refine e_iastoreF aX9_chain_20 (fx_is F rfl) (fx_n (n := 3) F rfl) (vin (n := 2) (N := 3) (by decide)) ?_
  refine e_iconst (v := 0) aX9_chain_21 (by decide) ?_
  refine e_istore_n aX9_chain_22 (Nat.le_of_ble_eq_true rfl) ?_
  refine e_ls (ls' := [(0, some (vR (some 109))), (1, some (vI (nI s))), (2, some (vI (nI p))), (3, some (vI (nI 0)))]) ⟨rfl, rfl, rfl, rfl, trivial⟩ ?_
  refine outer n 0 (wI (wI (wI h0 115 0 (-1)) 115 1 (-1)) 115 2 (-1)) (by omega) ((((Sf.rf h0).wI (Or.inr rfl)).wI (Or.inr rfl)).wI (Or.inr rfl)) (fun c hc => ?_) (fun c hc => (show ¬ (-1 : Int32) = 3 by decide))
  rcases (show c = 0 ∨ c = 1 ∨ c = 2 by omega) with rfl | rfl | rfl
  · show hI (wI (wI (wI h0 115 0 (-1)) 115 1 (-1)) 115 2 (-1)) 115 0 = (-1 : Int32)
    simp [hI, wI, up2]
  · show hI (wI (wI (wI h0 115 0 (-1)) 115 1 (-1)) 115 2 (-1)) 115 1 = (-1 : Int32)
    simp [hI, wI, up2]
  · show hI (wI (wI (wI h0 115 0 (-1)) 115 1 (-1)) 115 2 (-1)) 115 2 = (-1 : Int32)
    simp [hI, wI, up2]
