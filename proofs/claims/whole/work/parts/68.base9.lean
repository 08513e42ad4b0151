/-! the reference: factors of conditions, their base (written by wip/whole/g68.py) -/
def scF (a i : Nat) : Prop := a = 119 ∨ (a = 109 ∧ (i = 15 ∨ i = 16 ∨ i = 18 ∨ i = 21 ∨ i = 23))
theorem Sf.QF {h h2 : HP} (S : Sf scQ h h2) : Sf scF h h2 := S.mono (fun a i q => by unfold scQ at q; unfold scF; omega)
theorem Sf.PF {h h2 : HP} (S : Sf scP h h2) : Sf scF h h2 := S.mono (fun a i q => by unfold scP at q; unfold scF; omega)
theorem Sf.tbF {h h2 : HP} {l : Nat} {bt : Nat → Int32} (S : Sf scF h h2) (t : TbM h l bt) : TbM h2 l bt := t.sf S (by unfold scF; omega) (fun i => by unfold scF; omega) (fun i => by unfold scF; omega)
/-- the deals there are by then -/
def jnD (D : Nat → DD) (n : Nat) (E : Nat → DD) (k : Nat) : DD := if k < n then D k else E (k - n)
/-- what a part of a condition leaves -/
def fcQ (bt : Nat → Int32) (l N : Nat) (DE : Nat → DD) (h0 : HP) (L : List Int32) (p : PT) (r : Bool × PT × (Nat → Bool)) : Option VV → HP → Prop := fun v h' => v = none ∧ Sf scF h0 h' ∧ hI h' 109 21 = hI h0 109 21 ∧ PsM h' (!r.1, r.2.1) ∧ TkI bt l r.2.1 ∧ p.1 + (if r.1 = true then 1 else 0) ≤ r.2.1.1 ∧ ∃ cs, CdC h' (L ++ cs) ∧ cs.length + p.1 ≤ r.2.1.1 + (if r.1 = true then 0 else 1) ∧ (r.1 = true → EvP DE cs r.2.2 ∧ VaC N cs)
/-- what it begins with -/
def FcP (bt : Nat → Int32) (l : Nat) (h0 : HP) (L : List Int32) (p : PT) (N : Nat) : Prop := Fx h0 ∧ TbM h0 l bt ∧ PsM h0 (false, p) ∧ TkI bt l p ∧ CdC h0 L ∧ L.length ≤ p.1 ∧ 2 ≤ p.1 ∧ ∃ a b, hI h0 109 4 = nI a ∧ hI h0 109 20 = nI b ∧ a + b = N ∧ N ≤ 24
theorem nx_ge {bt : Nat → Int32} {l : Nat} {p : PT} (h : p.2 ≤ l) : p.2 ≤ (nxT bt l p).1 := (tkA_le h).1
theorem tkQ_ln {bt : Nat → Int32} {p : PT} {i : Nat} (h : tkQ bt p i = true) : p.2 - p.1 = sLn i := (tkQ_i.mp h).1
theorem sLn_v : sLn 9 = 3 ∧ sLn 10 = 1 ∧ sLn 11 = 1 ∧ sLn 12 = 6 ∧ sLn 13 = 5 ∧ sLn 14 = 2 ∧ sLn 15 = 3 ∧ sLn 16 = 2 ∧ sLn 17 = 1 := by decide +kernel
theorem sCh_v : sCh 10 0 = 40 ∧ sCh 11 0 = 41 ∧ sCh 17 0 = 59 := by decide +kernel
theorem zwd (X : EX) {h : HP} (F : Fx h) {l : Nat} {bt : Nat → Int32} (t : TbM h l bt) {p : PT} (ps : PsM h (false, p)) (tk : TkI bt l p) {w9 i9 : Nat} (hw9 : w9 < 15) (hi : wix w9 = i9) : Ct X mX9_isWord 2 0 0 [vR (some 109), vI (nI w9)] h (Rt (vI (b2 (tkQ bt p i9 = true))) h) := by
  subst hi
  exact zX9_isWord X F t ps tk hw9
theorem ztw (X : EX) {h : HP} (F : Fx h) {l : Nat} {bt : Nat → Int32} (t : TbM h l bt) {p : PT} (ps : PsM h (false, p)) (tk : TkI bt l p) {w9 i9 : Nat} (hw9 : w9 < 15) (hi : wix w9 = i9) : Ct X mX9_takes 3 0 0 [vR (some 109), vI (nI w9)] h (fun v h' => v = some (vI (b2 (tkQ bt p i9 = true))) ∧ Sf scQ h h' ∧ PsM h' (false, tkX bt l p i9)) := by
  subst hi
  refine ct_post (zX9_takes X F t ps tk hw9) (fun v h' q => ⟨q.1, q.2.1, ?_⟩)
  have e : tkW bt l (wix w9) (false, p) = (false, tkX bt l p (wix w9)) := by
    unfold tkW tkX
    show (if tkQ bt p (wix w9) = true then (false, nxT bt l p) else (false, p)) = _
    split <;> rfl
  rw [← e]
  exact q.2.2
theorem zsg (X : EX) {h : HP} (F : Fx h) {l : Nat} {bt : Nat → Int32} (t : TbM h l bt) {u : SM} (ps : PsM h u) (tk : TkI bt l u.2) {i9 : Nat} {x : Int32} (h1 : sLn i9 = 1) (hx : sCh i9 0 = x) (hc : 0 ≤ x ∧ x ≤ 127 ∧ isLt x = false ∧ isDt x = false) : Ct X mX9_isSign 1 0 0 [vR (some 109), vI x] h (Rt (vI (b2 ((!u.1 && tkQ bt u.2 i9) = true))) h) := by
  subst hx
  exact zX9_isSign X F t ps tk h1 hc
theorem tkX_t {bt : Nat → Int32} {l i : Nat} {p : PT} (h : tkQ bt p i = true) : tkX bt l p i = nxT bt l p := if_pos h
theorem tkX_f {bt : Nat → Int32} {l i : Nat} {p : PT} (h : ¬ tkQ bt p i = true) : tkX bt l p i = p := if_neg h
theorem tnX_ge {bt : Nat → Int32} {l : Nat} {p : PT} {a b w : Int32} (z : okp l p) : p.1 ≤ (tnX bt l p a b w).1 := by
  unfold tnX
  split
  · exact Nat.le_refl _
  · exact Nat.le_trans z.1 (nx_ge z.2)
theorem TkI_tn {bt : Nat → Int32} {l : Nat} {p : PT} {a b w : Int32} (tk : TkI bt l p) : TkI bt l (tnX bt l p a b w) := by
  unfold tnX
  split
  · exact tk
  · exact TkI_n tk.1.2
theorem ah_ge {bt : Nat → Int32} {l : Nat} {p : PT} (tk : TkI bt l p) (ac : Bool) : p.1 ≤ (ahP3 bt l p ac).1 := by
  have t1 : TkI bt l (ahP1 bt l p) := TkI_tn tk
  have g1 : p.1 ≤ (ahP1 bt l p).1 := tnX_ge tk.1
  have t2 : TkI bt l (ahP2 bt l p) ∧ p.1 ≤ (ahP2 bt l p).1 := by
    unfold ahP2
    split
    · exact ⟨t1, g1⟩
    · exact ⟨TkI_tn t1, Nat.le_trans g1 (tnX_ge t1.1)⟩
  unfold ahP3
  split
  · exact t2.2
  · exact Nat.le_trans t2.2 (tnX_ge t2.1.1)
theorem ts_ah {DE : Nat → DD} {bt : Nat → Int32} {l : Nat} {p : PT} {ac : Bool} {B9 : Nat} (hB : B9 = if ac = true then 1000 else 2000) (h : ¬ ahL bt l p ac < 0) (s : Nat) : tsN DE (B9 + 9 * (ahY bt l p).toNatClampNeg + 3 * (ahC bt l p).toNatClampNeg + (ahL bt l p ac).toNatClampNeg) s = ahS bt l p ac s := by
  obtain ⟨yz, cz, lz, hy, hc, hl, ey, ec, el⟩ := ah_b h
  subst hB
  unfold ahS tsN
  rw [ey, ec, el, cl (by omega), cl (by omega), cl (by omega)]
  cases ac
  · have e0 : (2000 + 9 * yz + 3 * cz + lz) % 1000 = 9 * yz + 3 * cz + lz := by omega
    rw [if_neg Bool.false_ne_true, if_neg Bool.false_ne_true, if_neg (by omega), if_neg (by omega), e0]
    have e1 : (9 * yz + 3 * cz + lz) / 9 = yz := by omega
    have e2 : (9 * yz + 3 * cz + lz) / 3 % 3 = cz := by omega
    have e3 : (9 * yz + 3 * cz + lz) % 3 = lz := by omega
    rw [e1, e2, e3, Nat.mul_comm yz 3]
  · have e0 : (1000 + 9 * yz + 3 * cz + lz) % 1000 = 9 * yz + 3 * cz + lz := by omega
    rw [if_pos rfl, if_pos rfl, if_neg (by omega), if_pos (by omega), e0]
    have e1 : (9 * yz + 3 * cz + lz) / 9 = yz := by omega
    have e2 : (9 * yz + 3 * cz + lz) / 3 % 3 = cz := by omega
    have e3 : (9 * yz + 3 * cz + lz) % 3 = lz := by omega
    rw [e1, e2, e3, Nat.mul_comm yz 3]
theorem lap_e {bt : Nat → Int32} {l n c : Nat} {D E : Nat → DD} {p : PT} (hn : n ≤ 12) (hc : c ≤ 12) : (lpV bt l p n c < 0 ∧ (lpR bt l D n E c p).1 = false) ∨ ∃ j, j < n + c ∧ lpV bt l p n c = nI j ∧ (lpR bt l D n E c p).1 = true ∧ ∀ u, (lpR bt l D n E c p).2.2 u = tsN (jnD D n E) (3000 + j) u := by
  by_cases z : lpV bt l p n c < 0
  · left
    refine ⟨z, ?_⟩
    show (ldE D n E c (lpV bt l p n c)).isSome = false
    unfold ldE dlE
    by_cases w : lpV bt l p n c < nI n
    · rw [if_pos w, if_pos (Or.inl z)]; rfl
    · exact absurd (Int32.lt_of_lt_of_le z (nI_pos' (n := n) (by omega))) w
  · right
    obtain ⟨j, hj, e⟩ : ∃ j, j < n + c ∧ lpV bt l p n c = nI j := by
      unfold lpV at z ⊢
      by_cases q : n + c = 0
      · rw [q] at z ⊢
        rcases tnV_n (bt := bt) (l := l) (p := p) (lo := 0) (hi9 := nI 0 - 1) (w := -1) (by decide) with w | w
        · exact absurd (by rw [w.2.1]; decide) z
        · have w1 := of_decide_eq_false (show decide _ = false from w.1)
          have w2 : ¬ (nI 0 - 1 < tkN bt l p.1 p.2) := fun r => w1 (Or.inr (Or.inl r))
          exact absurd (Int32.lt_of_le_of_lt (Int32.not_lt.mp w2) (by decide)) w.2.2.1
      · rw [nI_pred9 (by omega)] at z ⊢
        obtain ⟨j, hj, e⟩ := tn_of (n + c - 1) (by omega) z
        exact ⟨j, by omega, e⟩
    refine ⟨j, hj, e, ?_⟩
    have e2 : ldE D n E c (nI j) = some (jnD D n E j) := by
      unfold ldE dlE jnD
      by_cases w : j < n
      · rw [if_pos ((nI_ltI (by omega) (by omega)).mpr w), if_neg (fun r => r.elim (fun r => absurd r (Int32.not_lt.mpr (nI_pos' (by omega)))) (fun r => absurd ((nI_leI (by omega) (by omega)).mp r) (by omega))), if_pos w, cl (by omega)]
      · rw [if_neg (fun r => w ((nI_ltI (by omega) (by omega)).mp r)), show nI j - nI n = nI (j - n) from nI_subN (by omega), if_neg (fun r => r.elim (fun r => absurd r (Int32.not_lt.mpr (nI_pos' (by omega)))) (fun r => absurd ((nI_leI (by omega) (by omega)).mp r) (by omega))), if_neg w, cl (by omega)]
    refine ⟨?_, fun u => ?_⟩
    · show (ldE D n E c (lpV bt l p n c)).isSome = true
      rw [e, e2]; rfl
    · show (match ldE D n E c (lpV bt l p n c) with | none => false | some d => decide (gv d u = none)) = _
      rw [e, e2]
      unfold tsN
      rw [if_pos (by omega), Nat.add_sub_cancel_left]
theorem CdC_0 {h : HP} {L : List Int32} (q : CdC h L) : CdC h (L ++ []) := by rw [List.append_nil]; exact q
theorem hi_99 {N : Nat} (h : N ≤ 24) : nI N - 1 ≤ 99 := by
  by_cases z : N = 0
  · subst z; decide
  · rw [nI_pred9 (by omega)]
    exact (nI_leI (b := 99) (by omega) (by decide)).mpr (by omega)
theorem ah_fin {h0 h4 : HP} {l n c : Nat} {bt : Nat → Int32} {D E : Nat → DD} {L : List Int32} {p : PT} {ac : Bool} {B9 : Nat} (hB : B9 = if ac = true then 1000 else 2000) (ok2 : p.2 ≤ l) (g1 : p.1 + 1 ≤ (nxT bt l p).1) (eB : bsF bt l D n E c p = ahR bt l (nxT bt l p) ac) (S5 : Sf scF h0 h4) (o4 : hI h4 109 21 = hI h0 109 21) (cd4 : CdC h4 L) (ps4 : PsM h4 (decide (ahL bt l (nxT bt l p) ac < 0), ahP3 bt l (nxT bt l p) ac)) : fcQ bt l (n + c) (jnD D n E) h0 L p (bsF bt l D n E c p) none (if ahL bt l (nxT bt l p) ac < 0 then h4 else wI (wI h4 119 L.length (nI (B9 + 9 * (ahY bt l (nxT bt l p)).toNatClampNeg + 3 * (ahC bt l (nxT bt l p)).toNatClampNeg + (ahL bt l (nxT bt l p) ac).toNatClampNeg))) 109 23 (nI (L.length + 1))) := by
  rw [eB]
  have tA := TkI_ah (TkI_n (bt := bt) (p := p) ok2) ac
  have gA := ah_ge (TkI_n (bt := bt) (p := p) ok2) ac
  by_cases w : ahL bt l (nxT bt l p) ac < 0
  · rw [if_pos w]
    rw [decide_eq_true w] at ps4
    have e1 : (ahR bt l (nxT bt l p) ac).1 = false := decide_eq_false (fun z => z w)
    refine ⟨rfl, S5, o4, by rw [e1]; exact ps4, tA, ?_, [], CdC_0 cd4, ?_, fun w => absurd w (by rw [e1]; decide)⟩
    · rw [e1, if_neg Bool.false_ne_true]
      exact Nat.le_trans (by omega) gA
    · rw [e1, if_neg Bool.false_ne_true]
      exact Nat.le_trans (show 0 + p.1 ≤ (nxT bt l p).1 by omega) (Nat.le_succ_of_le gA)
  · rw [if_neg w]
    rw [decide_eq_false w] at ps4
    have e1 : (ahR bt l (nxT bt l p) ac).1 = true := decide_eq_true w
    have ets : ∀ s, tsN (jnD D n E) (B9 + 9 * (ahY bt l (nxT bt l p)).toNatClampNeg + 3 * (ahC bt l (nxT bt l p)).toNatClampNeg + (ahL bt l (nxT bt l p) ac).toNatClampNeg) s = ahS bt l (nxT bt l p) ac s := fun s => ts_ah (ac := ac) (B9 := B9) hB w s
    have hB2 : B9 = 1000 ∨ B9 = 2000 := by
      rw [hB]
      cases ac
      · exact Or.inr rfl
      · exact Or.inl rfl
    have emm : B9 ≤ B9 + 9 * (ahY bt l (nxT bt l p)).toNatClampNeg + 3 * (ahC bt l (nxT bt l p)).toNatClampNeg + (ahL bt l (nxT bt l p) ac).toNatClampNeg ∧ B9 + 9 * (ahY bt l (nxT bt l p)).toNatClampNeg + 3 * (ahC bt l (nxT bt l p)).toNatClampNeg + (ahL bt l (nxT bt l p) ac).toNatClampNeg < B9 + 36 := by
      obtain ⟨yz, cz, lz, hy, hcz, hlz, ey, ec, el⟩ := ah_b w
      rw [ey, ec, el, cl (by omega), cl (by omega), cl (by omega)]
      omega
    generalize B9 + 9 * (ahY bt l (nxT bt l p)).toNatClampNeg + 3 * (ahC bt l (nxT bt l p)).toNatClampNeg + (ahL bt l (nxT bt l p) ac).toNatClampNeg = mm at ets emm ⊢
    have psN : PsM (wI (wI h4 119 L.length (nI mm)) 109 23 (nI (L.length + 1))) (false, ahP3 bt l (nxT bt l p) ac) := ⟨(wI_i (by decide)).trans ((wI_a (by decide)).trans ps4.1), (wI_i (by decide)).trans ((wI_a (by decide)).trans ps4.2.1), (wI_i (by decide)).trans ((wI_a (by decide)).trans ps4.2.2)⟩
    have cdN : CdC (wI (wI h4 119 L.length (nI mm)) 109 23 (nI (L.length + 1))) (L ++ [nI mm]) := cd4.s
    have evN : EvP (jnD D n E) [nI mm] (ahR bt l (nxT bt l p) ac).2.2 := EvP_c (EvP_1 (by omega)) (fun s _ => ets s)
    refine ⟨rfl, (S5.wI (Or.inl rfl)).wI (Or.inr ⟨rfl, by omega⟩), (wI_i (by decide)).trans ((wI_a (by decide)).trans o4), by rw [e1]; exact psN, tA, ?_, [nI mm], cdN, ?_, fun _ => ⟨evN, VaC_1 (Or.inr (Or.inr (Or.inr ⟨mm, rfl, by omega⟩)))⟩⟩
    · rw [e1, if_pos rfl]
      exact Nat.le_trans g1 gA
    · rw [e1, if_pos rfl]
      exact Nat.le_trans (show 1 + p.1 ≤ (nxT bt l p).1 by omega) gA
theorem lap_fin {h0 h4 : HP} {l n c : Nat} {bt : Nat → Int32} {D E : Nat → DD} (hn : n ≤ 12) (hc : c ≤ 12) {L : List Int32} {p : PT} (tk : TkI bt l p) (q110 : ¬ tkQ bt p 13 = true) (q130 : ¬ tkQ bt p 14 = true) (S5 : Sf scF h0 h4) (o4 : hI h4 109 21 = hI h0 109 21) (cd4 : CdC h4 L) (ps4 : PsM h4 (nmF bt l 0 (nI (n + c) - 1) (mF bt l (tkQ bt p 12) (false, p)))) : fcQ bt l (n + c) (jnD D n E) h0 L p (bsF bt l D n E c p) none (wI (wI h4 119 L.length (3000 + nmV bt l 0 (nI (n + c) - 1) (mF bt l (tkQ bt p 12) (false, p)))) 109 23 (nI (L.length + 1))) := by
  have ok1 := tk.1.1
  have ok2 := tk.1.2
  have SA : Sf scF h0 (wI (wI h4 119 L.length (3000 + nmV bt l 0 (nI (n + c) - 1) (mF bt l (tkQ bt p 12) (false, p)))) 109 23 (nI (L.length + 1))) := (S5.wI (Or.inl rfl)).wI (Or.inr ⟨rfl, by omega⟩)
  have cdN : CdC (wI (wI h4 119 L.length (3000 + nmV bt l 0 (nI (n + c) - 1) (mF bt l (tkQ bt p 12) (false, p)))) 109 23 (nI (L.length + 1))) (L ++ [3000 + nmV bt l 0 (nI (n + c) - 1) (mF bt l (tkQ bt p 12) (false, p))]) := cd4.s
  have psN : PsM (wI (wI h4 119 L.length (3000 + nmV bt l 0 (nI (n + c) - 1) (mF bt l (tkQ bt p 12) (false, p)))) 109 23 (nI (L.length + 1))) (nmF bt l 0 (nI (n + c) - 1) (mF bt l (tkQ bt p 12) (false, p))) := ⟨(wI_i (by decide)).trans ((wI_a (by decide)).trans ps4.1), (wI_i (by decide)).trans ((wI_a (by decide)).trans ps4.2.1), (wI_i (by decide)).trans ((wI_a (by decide)).trans ps4.2.2)⟩
  have oN : hI (wI (wI h4 119 L.length (3000 + nmV bt l 0 (nI (n + c) - 1) (mF bt l (tkQ bt p 12) (false, p)))) 109 23 (nI (L.length + 1))) 109 21 = hI h0 109 21 := (wI_i (by decide)).trans ((wI_a (by decide)).trans o4)
  generalize wI (wI h4 119 L.length (3000 + nmV bt l 0 (nI (n + c) - 1) (mF bt l (tkQ bt p 12) (false, p)))) 109 23 (nI (L.length + 1)) = hN9 at SA cdN psN oN ⊢
  by_cases q12 : tkQ bt p 12 = true
  · have eB : bsF bt l D n E c p = lpR bt l D n E c (nxT bt l p) := if_pos q12
    have g1 : p.1 + 1 ≤ (nxT bt l p).1 := by have := nx_ge (bt := bt) ok2; have := tkQ_ln q12; have := sLn_v; omega
    rw [q12, mF_a] at cdN psN
    obtain ⟨e1, e2⟩ := nm_f (bt := bt) (l := l) (p := nxT bt l p) (lo := 0) (hi9 := nI (n + c) - 1) (by decide)
    rw [e1] at psN
    have tn := tnX_ge (bt := bt) (l := l) (p := nxT bt l p) (a := 0) (b := nI (n + c) - 1) (w := -1) (TkI_n (bt := bt) ok2).1
    rw [eB]
    rcases lap_e (bt := bt) (l := l) (D := D) (E := E) (p := nxT bt l p) hn hc with ⟨w1, w2⟩ | ⟨j, hj, w1, w2, w3⟩
    · have w1 : tnV bt l (nxT bt l p) 0 (nI (n + c) - 1) (-1) < 0 := w1
      rw [decide_eq_true w1] at psN
      refine ⟨rfl, SA, oN, by rw [w2]; exact psN, TkI_tn (TkI_n ok2), ?_, _, cdN, ?_, fun w => absurd w (by rw [w2]; decide)⟩
      · rw [w2, if_neg Bool.false_ne_true]
        exact Nat.le_trans (by omega) tn
      · rw [w2, if_neg Bool.false_ne_true]
        exact Nat.le_trans (show 1 + p.1 ≤ (nxT bt l p).1 by omega) (Nat.le_succ_of_le tn)
    · have w1 : tnV bt l (nxT bt l p) 0 (nI (n + c) - 1) (-1) = nI j := w1
      have w4 : ¬ tnV bt l (nxT bt l p) 0 (nI (n + c) - 1) (-1) < 0 := by rw [w1]; exact Int32.not_lt.mpr (nI_pos' (by omega))
      rw [decide_eq_false w4] at psN
      rw [e2 w4, w1, show (3000 : Int32) + nI j = nI (3000 + j) from nI_add 3000 j] at cdN
      refine ⟨rfl, SA, oN, by rw [w2]; exact psN, TkI_tn (TkI_n ok2), ?_, _, cdN, ?_, fun _ => ⟨EvP_c (EvP_1 (by omega)) (fun s _ => (w3 s).symm), VaC_1 (Or.inr (Or.inr (Or.inr ⟨_, rfl, by omega⟩)))⟩⟩
      · rw [w2, if_pos rfl]
        exact Nat.le_trans g1 tn
      · rw [w2, if_pos rfl]
        exact Nat.le_trans (show 1 + p.1 ≤ (nxT bt l p).1 by omega) tn
  · have eB : bsF bt l D n E c p = (false, p, fun _ => false) := (if_neg q12).trans ((if_neg q110).trans (if_neg q130))
    rw [Bool.eq_false_iff.mpr q12, mF_b, nmF_t rfl] at psN
    rw [eB]
    exact ⟨rfl, SA, oN, psN, tk, Nat.le_refl _, _, cdN, Nat.le_of_eq (Nat.add_comm _ _), fun w => absurd w Bool.false_ne_true⟩
theorem ev_b9 (X : EX) {h0 : HP} {l n c : Nat} {bt : Nat → Int32} {D E : Nat → DD} (hn : n ≤ 12) (hc : c ≤ 12) {L : List Int32} {p : PT} (P0 : FcP bt l h0 L p (n + c)) {d : Nat} (hd6 : 6 ≤ d) : Ev X mX9_factor d 0 0 (fcQ bt l (n + c) (jnD D n E) h0 L p (bsF bt l D n E c p)) 0 0 104 [(0, some (vR (some 109)))] [] h0 := by
  obtain ⟨F, t, ps, tk, cd, hL, hp2, a9, b9, hm, hf, hab, hN⟩ := P0
  have ok1 := tk.1.1
  have ok2 := tk.1.2
  have h120 := t.2.1
  have SB : Sf scF h0 h0 := Sf.rf h0
  have cd2 := cd
  have o2 : hI h0 109 21 = hI h0 109 21 := rfl
  have hi99 := hi_99 hN
  refine e_aload_n aX9_factor_104 rfl ?_
  refine e_bipush (v := 12) aX9_factor_105 (by decide) ?_
  refine e_invv aX9_factor_107 kX9_312 (ztw X F t ps tk (w9 := 12) (i9 := 13) (by decide) rfl) rfl rfl (fx_is F rfl) (Nat.le_of_ble_eq_true rfl) (by show _ + 1 ≤ _; omega) (Nat.le_refl _) (Nat.le_refl _) (Nat.le_of_ble_eq_true rfl) ?_
  rintro v h2 ⟨rfl, S1, ps2⟩
  have F := S1.F F
  have t := S1.tbQ t
  have SB := SB.tr S1.QF
  have cd2 : CdC h2 L := cd2.sf S1 (by unfold scQ; omega) (fun i => by unfold scQ; omega)
  have o2 : hI h2 109 21 = hI h0 109 21 := (S1.2 _ _ (by unfold scQ; omega)).trans o2
  have hm : hI h2 109 4 = nI a9 := (S1.2 _ _ (by unfold scQ; omega)).trans hm
  have hf : hI h2 109 20 = nI b9 := (S1.2 _ _ (by unfold scQ; omega)).trans hf
  refine e_if_eq aX9_factor_110 (fun c110 => ?_) (fun c110 => ?_)
  · -- 110: taken
    have q110 := b2_0.mp c110
    have ps2 : PsM h2 (false, p) := by rw [show tkX bt l p 13 = p from tkX_f q110] at ps2; exact ps2
    refine e_aload_n aX9_factor_124 rfl ?_
    refine e_bipush (v := 13) aX9_factor_125 (by decide) ?_
    refine e_invv aX9_factor_127 kX9_312 (ztw X F t ps2 tk (w9 := 13) (i9 := 14) (by decide) rfl) rfl rfl (fx_is F rfl) (Nat.le_of_ble_eq_true rfl) (by show _ + 1 ≤ _; omega) (Nat.le_refl _) (Nat.le_refl _) (Nat.le_of_ble_eq_true rfl) ?_
    rintro v h2 ⟨rfl, S1, ps2⟩
    have F := S1.F F
    have t := S1.tbQ t
    have SB := SB.tr S1.QF
    have cd2 : CdC h2 L := cd2.sf S1 (by unfold scQ; omega) (fun i => by unfold scQ; omega)
    have o2 : hI h2 109 21 = hI h0 109 21 := (S1.2 _ _ (by unfold scQ; omega)).trans o2
    have hm : hI h2 109 4 = nI a9 := (S1.2 _ _ (by unfold scQ; omega)).trans hm
    have hf : hI h2 109 20 = nI b9 := (S1.2 _ _ (by unfold scQ; omega)).trans hf
    refine e_if_eq aX9_factor_130 (fun c130 => ?_) (fun c130 => ?_)
    · -- 130: taken
      have q130 := b2_0.mp c130
      have ps2 : PsM h2 (false, p) := by rw [show tkX bt l p 14 = p from tkX_f q130] at ps2; exact ps2
      refine e_aload_n aX9_factor_144 rfl ?_
      refine e_aload_n aX9_factor_145 rfl ?_
      refine e_bipush (v := 14) aX9_factor_146 (by decide) ?_
      refine e_invvT aX9_factor_148 kX9_281 (zwd X F t ps2 tk (w9 := 14) (i9 := 12) (by decide) rfl) rfl rfl (fx_is F rfl) (Nat.le_of_ble_eq_true rfl) (by show _ + 1 ≤ _; omega) (Nat.le_refl _) (Nat.le_refl _) (Nat.le_of_ble_eq_true rfl) ?_
      refine e_invv aX9_factor_151 kX9_287 (zX9_must X F t ps2 ok2 (tkQ bt p 12)) rfl rfl (fx_is F rfl) (Nat.le_of_ble_eq_true rfl) (by show _ + 1 ≤ _; omega) (Nat.le_refl _) (Nat.le_refl _) (Nat.le_of_ble_eq_true rfl) ?_
      rintro v h3 ⟨rfl, S3, ps3⟩
      have F := S3.F F
      have t := S3.tbP t
      have SB := SB.tr S3.PF
      have cd2 : CdC h3 L := cd2.sf S3 (by unfold scP; omega) (fun i => by unfold scP; omega)
      have o2 : hI h3 109 21 = hI h0 109 21 := (S3.2 _ _ (by unfold scP; omega)).trans o2
      have hm : hI h3 109 4 = nI a9 := (S3.2 _ _ (by unfold scP; omega)).trans hm
      have hf : hI h3 109 20 = nI b9 := (S3.2 _ _ (by unfold scP; omega)).trans hf
      refine e_aload_n aX9_factor_154 rfl ?_
      refine e_iconst (v := 0) aX9_factor_155 (by decide) ?_
      refine e_aload_n aX9_factor_156 rfl ?_
      refine e_getIF aX9_factor_157 fX9_89 rfl (fx_is F rfl) hm ?_
      refine e_aload_n aX9_factor_160 rfl ?_
      refine e_getIF aX9_factor_161 fX9_319 rfl (fx_is F rfl) hf ?_
      refine e_iadd aX9_factor_164 ?_
      refine e_top (nI_add a9 b9) ?_
      rw [hab]
      refine e_iconst (v := 1) aX9_factor_165 (by decide) ?_
      refine e_isub aX9_factor_166 ?_
      refine e_invv aX9_factor_167 kX9_294 (zX9_number X F t ps3 (TkI_mF tk) (lo := 0) (hi9 := nI (n + c) - 1) (by decide) hi99) rfl rfl (fx_is F rfl) (Nat.le_of_ble_eq_true rfl) (by show _ + 1 ≤ _; omega) (Nat.le_refl _) (Nat.le_refl _) (Nat.le_of_ble_eq_true rfl) ?_
      rintro v h4 ⟨rfl, S4, ps4⟩
      have F := S4.F F
      have cd4 : CdC h4 L := cd2.sf S4 (by unfold scP; omega) (fun i => by unfold scP; omega)
      refine e_istore_n aX9_factor_170 (Nat.le_of_ble_eq_true rfl) ?_
      refine e_aload_n aX9_factor_171 rfl ?_
      refine e_sipush (v := 3000) aX9_factor_172 (by decide) ?_
      refine e_iload_n aX9_factor_175 rfl ?_
      refine e_iadd aX9_factor_176 ?_
      refine e_invvV aX9_factor_177 kX9_297 (zX9_codes X F (j := L.length) cd4.1 (by omega) _) rfl rfl (fx_is F rfl) (Nat.le_of_ble_eq_true rfl) (by show _ + 1 ≤ _; omega) (Nat.le_refl _) (Nat.le_refl _) (Nat.le_of_ble_eq_true rfl) ?_
      refine e_return aX9_factor_180 rfl (Nat.le_refl _) (Nat.le_refl _) ?_
      exact lap_fin hn hc tk q110 q130 (SB.tr S4.PF) ((S4.2 _ _ (by unfold scP; omega)).trans o2) cd4 ps4
    · -- 130: not taken
      have q130 := Decidable.of_not_not (fun z => c130 (b2_0.mpr z))
      have ps2 : PsM h2 (false, nxT bt l p) := by rw [show tkX bt l p 14 = nxT bt l p from tkX_t q130] at ps2; exact ps2
      refine e_aload_n aX9_factor_133 rfl ?_
      refine e_sipush (v := 2000) aX9_factor_134 (by decide) ?_
      refine e_iconst (v := 0) aX9_factor_137 (by decide) ?_
      refine e_invv aX9_factor_138 kX9_315 (zX9_three X F t ps2 (TkI_n ok2) (j := L.length) (cd2.1) (by omega) 2000 false) rfl rfl (fx_is F rfl) (Nat.le_of_ble_eq_true rfl) (by show _ + 1 ≤ _; omega) (Nat.le_refl _) (Nat.le_refl _) (Nat.le_of_ble_eq_true rfl) ?_
      rintro v h3 ⟨rfl, h4, S4, ps4, rfl⟩
      refine e_goto aX9_factor_141 ?_
      refine e_return aX9_factor_180 rfl (Nat.le_refl _) (Nat.le_refl _) ?_
      have g1 : p.1 + 1 ≤ (nxT bt l p).1 := by have := nx_ge (bt := bt) ok2; have := tkQ_ln q130; have := sLn_v; omega
      exact ah_fin (ac := false) (B9 := 2000) rfl ok2 g1 ((if_neg (fun w => by have := tkQ_ln w; have := tkQ_ln q130; have := sLn_v; omega)).trans ((if_neg q110).trans (if_pos q130))) (SB.tr S4.PF) ((S4.2 _ _ (by unfold scP; omega)).trans o2) (cd2.sf S4 (by unfold scP; omega) (fun i => by unfold scP; omega)) ps4
  · -- 110: not taken
    have q110 := Decidable.of_not_not (fun z => c110 (b2_0.mpr z))
    have ps2 : PsM h2 (false, nxT bt l p) := by rw [show tkX bt l p 13 = nxT bt l p from tkX_t q110] at ps2; exact ps2
    refine e_aload_n aX9_factor_113 rfl ?_
    refine e_sipush (v := 1000) aX9_factor_114 (by decide) ?_
    refine e_iconst (v := 1) aX9_factor_117 (by decide) ?_
    refine e_invv aX9_factor_118 kX9_315 (zX9_three X F t ps2 (TkI_n ok2) (j := L.length) (cd2.1) (by omega) 1000 true) rfl rfl (fx_is F rfl) (Nat.le_of_ble_eq_true rfl) (by show _ + 1 ≤ _; omega) (Nat.le_refl _) (Nat.le_refl _) (Nat.le_of_ble_eq_true rfl) ?_
    rintro v h3 ⟨rfl, h4, S4, ps4, rfl⟩
    refine e_goto aX9_factor_121 ?_
    refine e_return aX9_factor_180 rfl (Nat.le_refl _) (Nat.le_refl _) ?_
    have g1 : p.1 + 1 ≤ (nxT bt l p).1 := by have := nx_ge (bt := bt) ok2; have := tkQ_ln q110; have := sLn_v; omega
    exact ah_fin (ac := true) (B9 := 1000) rfl ok2 g1 ((if_neg (fun w => by have := tkQ_ln w; have := tkQ_ln q110; have := sLn_v; omega)).trans (if_pos q110)) (SB.tr S4.PF) ((S4.2 _ _ (by unfold scP; omega)).trans o2) (cd2.sf S4 (by unfold scP; omega) (fun i => by unfold scP; omega)) ps4
