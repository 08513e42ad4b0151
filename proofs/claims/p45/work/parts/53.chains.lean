/-! THE CHAIN: how the reference's goes with the class's, as long as no deal clashes (by hand) -/
theorem gw_tk {d : DD} (w : dWf d) {s p c : Nat} {v : Int32} : gwQ d s p c 1 (gwQ d s p c 0 v) = match tk d s p with
    | none => v
    | some t => if gr d p = c then (if v = -1 then nI t else 3) else v := by
  have c0 : cvW d s 0 = gv d s := rfl
  have c1 : cvW d s 1 = gb d s := rfl
  unfold gwQ tk gr
  rw [c0, c1]
  simp only [if_true, show ((1 : Nat) = 0) = False from eq_false (by decide), if_false]
  by_cases ho : dO d = some p
  · rw [if_pos ho, if_pos ho]
    have hg : ¬ (gv d s = some p ∧ dF d = c) := fun z => by
      obtain ⟨z, _⟩ := z
      have h1 := w.2.2.2.2.2.2.1 p ho
      rcases (gv_ok w z).2 with e | ⟨e, _⟩
      · exact h1.2.1 e
      · have := w.2.2.2.2.2.1.mpr (by rw [ho]; rfl)
        omega
    rw [if_neg hg]
    unfold gb
    by_cases hs : (gv d s).isSome = true
    · rw [if_pos hs, if_pos hs, ho]
      by_cases e : dT d = c
      · rw [if_pos ⟨rfl, e⟩]
        show _ = if dT d = c then _ else _
        rw [if_pos e]
      · rw [if_neg (fun z => e z.2)]
        show _ = if dT d = c then _ else _
        rw [if_neg e]
    · rw [if_neg hs, if_neg hs, if_neg (fun z => by cases z.1)]
  · rw [if_neg ho, if_neg ho]
    have hb : ¬ gb d s = some p := fun z => by
      unfold gb at z
      split at z
      · exact ho z
      · cases z
    rw [if_neg (fun z => hb z.1)]
    by_cases hg : gv d s = some p
    · rw [if_pos hg]
      by_cases e : dF d = c
      · rw [if_pos ⟨hg, e⟩]
        show _ = if dF d = c then _ else _
        rw [if_pos e]
      · rw [if_neg (fun z => e z.2)]
        show _ = if dF d = c then _ else _
        rw [if_neg e]
    · rw [if_neg hg, if_neg (fun z => hg z.1)]
/-- no deal of the first n clashed as it came, for a PICK, for all -/
def okP (D : Nat → DD) (n s p : Nat) : Prop := ∀ k, k < n → ∀ t, tk (D k) s p = some t → ow D s p k = gr (D k) p ∧ vs D s p k t = false
def okD (D : Nat → DD) (n s : Nat) : Prop := ∀ p, p < 12 → okP D n s p
theorem okP.le {D : Nat → DD} {n m s p : Nat} (h : okP D n s p) (e : m ≤ n) : okP D m s p := fun k hk => h k (by omega)
/-- the chain -/
def chL (D : Nat → DD) (s p : Nat) : Nat → List Nat
  | 0 => [p % 3]
  | k + 1 => match tk (D k) s p with
    | none => chL D s p k
    | some t => chL D s p k ++ [t]
theorem chL_n {D : Nat → DD} {s p k : Nat} (h : tk (D k) s p = none) : chL D s p (k + 1) = chL D s p k := by
  show (match tk (D k) s p with
    | none => chL D s p k
    | some t => chL D s p k ++ [t]) = _
  rw [h]
theorem chL_t {D : Nat → DD} {s p k t : Nat} (h : tk (D k) s p = some t) : chL D s p (k + 1) = chL D s p k ++ [t] := by
  show (match tk (D k) s p with
    | none => chL D s p k
    | some t => chL D s p k ++ [t]) = _
  rw [h]
theorem ow_n {D : Nat → DD} {s p k : Nat} (h : tk (D k) s p = none) : ow D s p (k + 1) = ow D s p k := by
  show (tk (D k) s p).getD (ow D s p k) = _
  rw [h]
  rfl
theorem ow_t {D : Nat → DD} {s p k t : Nat} (h : tk (D k) s p = some t) : ow D s p (k + 1) = t := by
  show (tk (D k) s p).getD (ow D s p k) = _
  rw [h]
  rfl
theorem gtV_n {D : Nat → DD} {s p c k : Nat} (w : dWf (D k)) (h : tk (D k) s p = none) : gtV D s p c (k + 1) = gtV D s p c k := by
  rw [gtV_s, gw_tk w, h]
theorem gtV_t {D : Nat → DD} {s p c k t : Nat} (w : dWf (D k)) (h : tk (D k) s p = some t) : gtV D s p c (k + 1) = if gr (D k) p = c then (if gtV D s p c k = -1 then nI t else 3) else gtV D s p c k := by
  rw [gtV_s, gw_tk w, h]
theorem getD_app {L : List Nat} {t i : Nat} : (L ++ [t]).getD i 0 = if i < L.length then L.getD i 0 else if i = L.length then t else 0 := by
  rw [List.getD_eq_getElem?_getD, List.getD_eq_getElem?_getD]
  by_cases z : i < L.length
  · rw [if_pos z, List.getElem?_append_left z]
  · rw [if_neg z, List.getElem?_append_right (by omega)]
    by_cases y : i = L.length
    · rw [if_pos y, y, Nat.sub_self]
      rfl
    · rw [if_neg y]
      rw [List.getElem?_eq_none (by rw [List.length_singleton]; omega)]
      rfl
theorem getD_mem {L : List Nat} {i : Nat} (h : i < L.length) : L.getD i 0 ∈ L := by
  rw [List.getD_eq_getElem?_getD, List.getElem?_eq_getElem h]
  exact List.getElem_mem h
/-- what the chain is: its members, its end, the way along it -/
def chI (D : Nat → DD) (n s p : Nat) (L : List Nat) : Prop := L.Nodup ∧ 1 ≤ L.length ∧ (∀ c, c ∈ L → c < 3) ∧ L.getD 0 0 = p % 3 ∧ (∀ c, vs D s p n c = decide (c ∈ L)) ∧ L.getD (L.length - 1) 0 = ow D s p n ∧ (∀ i, i + 1 < L.length → gtV D s p (L.getD i 0) n = nI (L.getD (i + 1) 0)) ∧ ∀ c, ¬ c ∈ L ∨ c = ow D s p n → gtV D s p c n = -1
theorem chL_I {D : Nat → DD} {s p : Nat} : ∀ {n : Nat}, (∀ k, k < n → dWf (D k)) → okP D n s p → chI D n s p (chL D s p n) := by
  intro n
  induction n with
  | zero =>
    intro _ _
    refine ⟨(show [p % 3].Nodup by simp), Nat.le_refl _, fun c hc => ?_, rfl, fun c => ?_, rfl, fun i hi => absurd hi (by show ¬ i + 1 < 1; omega), fun c _ => rfl⟩
    · rw [List.mem_singleton.mp hc]
      exact Nat.mod_lt _ (by decide)
    · show decide (c = p % 3) = decide (c ∈ [p % 3])
      exact decide_eq_decide.mpr List.mem_singleton.symm
  | succ n ih =>
    intro w ok
    obtain ⟨i1, i2, i3, i4, i5, i6, i7, i8⟩ := ih (fun k hk => w k (by omega)) (ok.le (by omega))
    have wn := w n (by omega)
    rcases e : tk (D n) s p with _ | t
    · rw [chL_n e]
      refine ⟨i1, i2, i3, i4, fun c => ?_, by rw [ow_n e]; exact i6, fun i hi => by rw [gtV_n wn e]; exact i7 i hi, fun c hc => by rw [gtV_n wn e]; exact i8 c (by rw [ow_n e] at hc; exact hc)⟩
      show (vs D s p n c || decide (tk (D n) s p = some c)) = _
      rw [e, i5]
      simp
    · have hl := tk_lt wn e
      obtain ⟨o1, o2⟩ := ok n (by omega) t e
      rw [i5] at o2
      have ht : ¬ t ∈ chL D s p n := of_decide_eq_false o2
      have hlen : (chL D s p n ++ [t]).length = (chL D s p n).length + 1 := List.length_append
      rw [chL_t e]
      generalize chL D s p n = L at *
      refine ⟨nd_app i1 ht, by omega, fun c hc => ?_, ?_, fun c => ?_, ?_, fun i hi => ?_, fun c hc => ?_⟩
      · rcases List.mem_append.mp hc with hc | hc
        · exact i3 c hc
        · rw [List.mem_singleton.mp hc]; exact hl.1
      · rw [getD_app, if_pos (by omega)]; exact i4
      · show (vs D s p n c || decide (tk (D n) s p = some c)) = _
        rw [e, i5, ← Bool.decide_or]
        refine decide_eq_decide.mpr ?_
        rw [List.mem_append, List.mem_singleton]
        exact or_congr Iff.rfl ⟨fun z => by injection z with z; exact z.symm, fun z => by rw [z]⟩
      · rw [hlen, Nat.add_sub_cancel, getD_app, if_neg (by omega), if_pos rfl, ow_t e]
      · rw [hlen] at hi
        rw [gtV_t wn e, getD_app, getD_app, if_pos (show i < L.length by omega), ← o1, ← i6]
        by_cases z : i + 1 = L.length
        · rw [if_neg (show ¬ i + 1 < L.length by omega), if_pos z, show L.length - 1 = i by omega, if_pos rfl, if_pos]
          rw [show i = L.length - 1 by omega, i6]
          exact i8 _ (Or.inr rfl)
        · rw [if_pos (show i + 1 < L.length by omega), if_neg]
          · exact i7 i (by omega)
          · intro y
            have hinj := (List.getElem_inj i1 (i := L.length - 1) (j := i) (h₀ := by omega) (h₁ := by omega)).mp (by
              have a1 : L.getD (L.length - 1) 0 = L[L.length - 1]'(by omega) := by rw [List.getD_eq_getElem?_getD, List.getElem?_eq_getElem (by omega)]; rfl
              have a2 : L.getD i 0 = L[i]'(by omega) := by rw [List.getD_eq_getElem?_getD, List.getElem?_eq_getElem (by omega)]; rfl
              rw [← a1, ← a2]
              exact y)
            omega
      · rw [gtV_t wn e]
        rw [ow_t e] at hc
        have hc2 : ¬ c ∈ L := by
          rcases hc with hc | hc
          · exact fun z => hc (List.mem_append_left _ z)
          · rw [hc]; exact ht
        have hgr : ¬ gr (D n) p = c := by
          intro y
          rw [← y, ← o1, ← i6] at hc2
          exact hc2 (getD_mem (by omega))
        rw [if_neg hgr]
        exact i8 c (Or.inl hc2)
/-- the reference's walk along a chain -/
theorem chR_L {G : Nat → Int32} {L : List Nat} {z : Bool} {M : List Nat} (nd : L.Nodup) (h3 : ∀ c, c ∈ L → c < 3) (nx : ∀ i, i + 1 < L.length → G (L.getD i 0) = nI (L.getD (i + 1) 0)) {m0 : Nat} (en : chR G m0 (G (L.getD (L.length - 1) 0)) L = (z, M)) : ∀ (j i m : Nat), i + j + 1 = L.length → m = m0 + j + 1 → chR G m (nI (L.getD i 0)) (L.take i) = (z, M) := by
  intro j
  induction j with
  | zero =>
    intro i m hi hm
    subst hm
    have hc := h3 _ (getD_mem (L := L) (i := i) (by omega))
    rw [chR_s, if_neg (fun q => q.elim (fun q => absurd (q ▸ nI_pos' (n := L.getD i 0) (by omega)) (by decide)) (fun q => by have := (nI_eq (a := L.getD i 0) (b := 3) (by omega) (by decide)).mp q; omega)), cl (by omega)]
    have hn : ¬ L.getD i 0 ∈ L.take i := by
      intro q
      obtain ⟨x, hx, hx2⟩ := List.mem_iff_getElem.mp q
      rw [List.length_take] at hx
      have a2 : L.getD i 0 = L[i]'(by omega) := by rw [List.getD_eq_getElem?_getD, List.getElem?_eq_getElem (by omega)]; rfl
      rw [List.getElem_take, a2] at hx2
      have := (List.getElem_inj nd (h₀ := by omega) (h₁ := by omega)).mp hx2
      omega
    rw [if_neg hn]
    have ht : L.take i ++ [L.getD i 0] = L := by
      have a2 : L.getD i 0 = L[i]'(by omega) := by rw [List.getD_eq_getElem?_getD, List.getElem?_eq_getElem (by omega)]; rfl
      rw [a2, List.take_append_getElem, List.take_of_length_le (by omega)]
    rw [ht, show i = L.length - 1 by omega]
    exact en
  | succ j ih =>
    intro i m hi hm
    subst hm
    have hc := h3 _ (getD_mem (L := L) (i := i) (by omega))
    rw [show m0 + (j + 1) + 1 = (m0 + j + 1) + 1 by omega, chR_s, if_neg (fun q => q.elim (fun q => absurd (q ▸ nI_pos' (n := L.getD i 0) (by omega)) (by decide)) (fun q => by have := (nI_eq (a := L.getD i 0) (b := 3) (by omega) (by decide)).mp q; omega)), cl (by omega)]
    have hn : ¬ L.getD i 0 ∈ L.take i := by
      intro q
      obtain ⟨x, hx, hx2⟩ := List.mem_iff_getElem.mp q
      rw [List.length_take] at hx
      have a2 : L.getD i 0 = L[i]'(by omega) := by rw [List.getD_eq_getElem?_getD, List.getElem?_eq_getElem (by omega)]; rfl
      rw [List.getElem_take, a2] at hx2
      have := (List.getElem_inj nd (h₀ := by omega) (h₁ := by omega)).mp hx2
      omega
    rw [if_neg hn]
    have ht : L.take i ++ [L.getD i 0] = L.take (i + 1) := by
      have a2 : L.getD i 0 = L[i]'(by omega) := by rw [List.getD_eq_getElem?_getD, List.getElem?_eq_getElem (by omega)]; rfl
      rw [a2, List.take_append_getElem]
    rw [ht, nx i (by omega)]
    exact ih (i + 1) _ (by omega) rfl
theorem chI_R {D : Nat → DD} {n s p : Nat} {L : List Nat} (k : chI D n s p L) {G : Nat → Int32} (hG : ∀ i, i + 1 < L.length → G (L.getD i 0) = gtV D s p (L.getD i 0) n) {z : Bool} (en : chR G (4 - L.length) (G (ow D s p n)) L = (z, L)) : chR G 4 (nI (p % 3)) [] = (z, L) := by
  obtain ⟨i1, i2, i3, i4, i5, i6, i7, i8⟩ := k
  have h4 := nd3 L i1 i3
  rw [← i6] at en
  have := chR_L i1 i3 (fun i hi => (hG i hi).trans (i7 i hi)) en (L.length - 1) 0 4 (by omega) (by omega)
  rw [i4] at this
  exact this
theorem m13 {G : Nat → Int32} {L : List Nat} {m : Nat} : chR G (m + 1) (-1) L = (false, L) := by
  rw [chR_s, if_pos (Or.inl rfl)]
theorem gt_n3 {D : Nat → DD} {n s p : Nat} (w : ∀ k, k < n → dWf (D k)) (ok : okP D n s p) (c : Nat) : ¬ gtV D s p c n = 3 := by
  obtain ⟨i1, i2, i3, i4, i5, i6, i7, i8⟩ := chL_I w ok
  by_cases z : ¬ c ∈ chL D s p n ∨ c = ow D s p n
  · rw [i8 c z]; decide
  · have z1 : c ∈ chL D s p n := Decidable.of_not_not (fun y => z (Or.inl y))
    obtain ⟨i, hi, e⟩ := List.mem_iff_getElem.mp z1
    have a2 : (chL D s p n).getD i 0 = c := by rw [← e, List.getD_eq_getElem?_getD, List.getElem?_eq_getElem hi]; rfl
    have hi2 : i + 1 < (chL D s p n).length := by
      rcases Nat.lt_or_ge (i + 1) (chL D s p n).length with y | y
      · exact y
      · refine absurd (Or.inr ?_) z
        rw [← a2, ← i6, show i = (chL D s p n).length - 1 by omega]
    rw [← a2, i7 i hi2]
    have := i3 _ (getD_mem hi2)
    intro y
    have := (nI_eq (b := 3) (by omega) (by decide)).mp y
    omega
theorem frc_f {P : Nat → Bool} {m : Nat} (h : ∀ c, c < m → P c = false) : frc P m = false := by
  have : ∀ (m a : Nat), (∀ c, a ≤ c → c < a + m → P c = false) → frW P a m = none := by
    intro m
    induction m with
    | zero => intro a _; rfl
    | succ m ih =>
      intro a h
      rw [frW_s, if_neg (by rw [h a (Nat.le_refl _) (by omega)]; decide)]
      exact ih (a + 1) (fun c h1 h2 => h c (by omega) (by omega))
  unfold frc
  rw [this m 0 (fun c _ h2 => h c (by omega))]
  rfl
theorem frc_t {P : Nat → Bool} {m c : Nat} (hc : c < m) (h : P c = true) : frc P m = true := by
  have : ∀ (m a : Nat), a ≤ c → c < a + m → (frW P a m).isSome = true := by
    intro m
    induction m with
    | zero => intro a h1 h2; omega
    | succ m ih =>
      intro a h1 h2
      rw [frW_s]
      by_cases z : P a = true
      · rw [if_pos z]; rfl
      · rw [if_neg z]
        have : a ≠ c := fun e => z (by rw [e]; exact h)
        exact ih (a + 1) (by omega) (by omega)
  exact this m 0 (Nat.zero_le _) (by omega)
/-- no clash: the reference tells none, its chain is the class's, its end the owner -/
theorem chF_L {D : Nat → DD} {n s p : Nat} (w : ∀ k, k < n → dWf (D k)) (ok : okP D n s p) : chF D n s p = (false, chL D s p n) := by
  have k := chL_I w ok
  have h4 := nd3 _ k.1 k.2.2.1
  refine chI_R k (fun _ _ => rfl) ?_
  have e : gtV D s p (ow D s p n) n = -1 := k.2.2.2.2.2.2.2 _ (Or.inr rfl)
  rw [e, show 4 - (chL D s p n).length = (3 - (chL D s p n).length) + 1 by omega]
  exact m13
theorem owR_ow {D : Nat → DD} {n s p : Nat} (w : ∀ k, k < n → dWf (D k)) (ok : okP D n s p) : owR D n s p = ow D s p n := by
  unfold owR
  rw [chF_L w ok]
  exact (chL_I w ok).2.2.2.2.2.1
theorem rcl_ok {D : Nat → DD} {n s p : Nat} (w : ∀ k, k < n → dWf (D k)) (ok : okP D n s p) : rclV D n s p = -1 := by
  have k := chL_I w ok
  unfold rclV
  rw [frc_f (fun c _ => decide_eq_false (gt_n3 w ok c)), chF_L w ok, frc_f (fun c _ => decide_eq_false (fun z => z.2 (k.2.2.2.2.2.2.2 c (Or.inl z.1))))]
  rfl
/-- one more deal moves the PICK: what the reference tells -/
theorem rcl_new {D : Nat → DD} {n s p t : Nat} (w : ∀ k, k < n + 1 → dWf (D k)) (ok : okP D n s p) (e : tk (D n) s p = some t) : rclV D (n + 1) s p = match cls D n s p (gr (D n) p) t with
    | none => -1
    | some q => nI q := by
  have wn := w n (by omega)
  have w0 : ∀ k, k < n → dWf (D k) := fun k hk => w k (by omega)
  have k := chL_I w0 ok
  have hl := tk_lt wn e
  have h4 := nd3 _ k.1 k.2.2.1
  have gs : ∀ c, ¬ gr (D n) p = c → gtV D s p c (n + 1) = gtV D s p c n := fun c hc => (gtV_t wn e).trans (if_neg hc)
  have gg : gtV D s p (gr (D n) p) (n + 1) = if gtV D s p (gr (D n) p) n = -1 then nI t else 3 := (gtV_t wn e).trans (if_pos rfl)
  have nt3 : ¬ nI t = 3 := fun y => by have := (nI_eq (b := 3) (by omega) (by decide)).mp y; omega
  have ntm : ¬ nI t = -1 := fun y => absurd (y ▸ nI_pos' (n := t) (by omega)) (by decide)
  unfold cls
  obtain ⟨i1, i2, i3, i4, i5, i6, i7, i8⟩ := id k
  by_cases c1 : vs D s p n (gr (D n) p) = false
  · rw [if_pos c1]
    have hg : ¬ gr (D n) p ∈ chL D s p n := by rw [i5] at c1; exact of_decide_eq_false c1
    have g1 : gtV D s p (gr (D n) p) (n + 1) = nI t := by rw [gg, if_pos (i8 _ (Or.inl hg))]
    have hch : chF D (n + 1) s p = (false, chL D s p n) := by
      refine chI_R k (fun i hi => gs _ (fun y => hg (by rw [y]; exact getD_mem (by omega)))) ?_
      have e9 : gtV D s p (ow D s p n) (n + 1) = -1 := by
        rw [gs _ (fun y => hg (by rw [y, ← i6]; exact getD_mem (by omega)))]
        exact i8 _ (Or.inr rfl)
      rw [e9, show 4 - (chL D s p n).length = (3 - (chL D s p n).length) + 1 by omega]
      exact m13
    unfold rclV
    rw [frc_f (fun c _ => decide_eq_false (fun y => by
      by_cases z : gr (D n) p = c
      · rw [← z, g1] at y; exact nt3 y
      · rw [gs c z] at y; exact gt_n3 w0 ok c y)), hch, frc_t (c := gr (D n) p) hl.2.1 (decide_eq_true ⟨hg, by rw [g1]; exact ntm⟩)]
    rfl
  · rw [if_neg c1]
    have hg : gr (D n) p ∈ chL D s p n := by
      rw [i5] at c1
      exact Decidable.of_not_not (fun y => c1 (decide_eq_false y))
    by_cases c2 : ow D s p n ≠ gr (D n) p
    · rw [if_pos c2]
      obtain ⟨i, hi, ei⟩ := List.mem_iff_getElem.mp hg
      have a2 : (chL D s p n).getD i 0 = gr (D n) p := by rw [← ei, List.getD_eq_getElem?_getD, List.getElem?_eq_getElem hi]; rfl
      have hi2 : i + 1 < (chL D s p n).length := by
        rcases Nat.lt_or_ge (i + 1) (chL D s p n).length with y | y
        · exact y
        · exact absurd (by rw [← i6, ← a2, show i = (chL D s p n).length - 1 by omega]) c2
      have h9 := i7 i hi2
      rw [a2] at h9
      have h8 := i3 _ (getD_mem hi2)
      have g1 : gtV D s p (gr (D n) p) (n + 1) = 3 := by
        rw [gg, h9, if_neg (fun y => absurd (y ▸ nI_pos' (n := (chL D s p n).getD (i + 1) 0) (by omega)) (by decide))]
      unfold rclV
      rw [frc_t (c := gr (D n) p) hl.2.1 (decide_eq_true g1)]
      rfl
    · rw [if_neg c2]
      have c3 : ow D s p n = gr (D n) p := Decidable.of_not_not c2
      have g1 : gtV D s p (gr (D n) p) (n + 1) = nI t := by rw [gg, if_pos (i8 _ (Or.inr c3.symm))]
      have hno : frc (fun c => decide (gtV D s p c (n + 1) = 3)) 3 = false := frc_f (fun c _ => decide_eq_false (fun y => by
        by_cases z : gr (D n) p = c
        · rw [← z, g1] at y; exact nt3 y
        · rw [gs c z] at y; exact gt_n3 w0 ok c y))
      by_cases c4 : vs D s p n t = true
      · rw [if_pos c4]
        have ht : t ∈ chL D s p n := by rw [i5] at c4; exact of_decide_eq_true c4
        have hch : chF D (n + 1) s p = (true, chL D s p n) := by
          refine chI_R k (fun i hi => gs _ (fun y => ?_)) ?_
          · rw [← c3, ← i6] at y
            have hinj := (List.getElem_inj i1 (i := (chL D s p n).length - 1) (j := i) (h₀ := by omega) (h₁ := by omega)).mp (by
              have a1 : (chL D s p n).getD ((chL D s p n).length - 1) 0 = (chL D s p n)[(chL D s p n).length - 1]'(by omega) := by rw [List.getD_eq_getElem?_getD, List.getElem?_eq_getElem (by omega)]; rfl
              have a2 : (chL D s p n).getD i 0 = (chL D s p n)[i]'(by omega) := by rw [List.getD_eq_getElem?_getD, List.getElem?_eq_getElem (by omega)]; rfl
              rw [← a1, ← a2]
              exact y)
            omega
          · show chR _ _ (gtV D s p (ow D s p n) (n + 1)) _ = _
            rw [c3, g1, show 4 - (chL D s p n).length = (3 - (chL D s p n).length) + 1 by omega, chR_s, if_neg (fun y => y.elim ntm nt3), cl (by omega), if_pos ht]
        unfold rclV
        rw [hno, hch]
        rfl
      · rw [if_neg c4]
        have ok2 : okP D (n + 1) s p := fun j hj u hu => by
          by_cases z : j = n
          · subst z
            rw [e] at hu
            injection hu with hu
            rw [← hu]
            exact ⟨c3, Bool.eq_false_iff.mpr c4⟩
          · exact ok j (by omega) u hu
        exact rcl_ok w ok2
theorem rcl_old {D : Nat → DD} {n s p : Nat} (w : ∀ k, k < n + 1 → dWf (D k)) (ok : okP D n s p) (e : tk (D n) s p = none) : rclV D (n + 1) s p = -1 := rcl_ok w (fun j hj u hu => by
  by_cases z : j = n
  · subst z
    rw [e] at hu
    cases hu
  · exact ok j (by omega) u hu)
