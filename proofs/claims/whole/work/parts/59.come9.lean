/-! the reference: deals come and go (written by wip/whole/g59.py) -/
theorem wI_g {h : HP} {a i b j : Nat} {v : Int32} : hI (wI h a i v) b j = if b = a ∧ j = i then v else hI h b j := rfl
def upD {α : Type} (D : Nat → α) (n : Nat) (d : α) : Nat → α := fun k => if k = n then d else D k
theorem upD_s {α : Type} {D : Nat → α} {n : Nat} {d : α} : upD D n d n = d := if_pos rfl
theorem upD_o {α : Type} {D : Nat → α} {n k : Nat} {d : α} (h : k ≠ n) : upD D n d k = D k := if_neg h
theorem MdC.at {h h2 : HP} {k : Nat} {d : DD} (q : MdC h k d) (e : ∀ j, j < 8 → hI h2 112 (8 * k + j) = hI h 112 (8 * k + j)) (eb : ∀ j, j < 41 → hI h2 113 (41 * k + j) = hI h 113 (41 * k + j)) : MdC h2 k d := by
  obtain ⟨w, e0, e1, e2, e3, e4, e5, e6, b⟩ := q
  exact ⟨w, (e 0 (by decide)).trans e0, (e 1 (by decide)).trans e1, (e 2 (by decide)).trans e2, (e 3 (by decide)).trans e3, (e 4 (by decide)).trans e4, (e 5 (by decide)).trans e5, (e 6 (by decide)).trans e6, fun u hu => by rw [eb _ (by omega)]; exact b u hu⟩
theorem MkD.keep {h h2 : HP} {n : Nat} {D : Nat → DD} (q : MkD h n D) (e4 : hI h2 109 4 = nI n) (e : ∀ i, i < 8 * n → hI h2 112 i = hI h 112 i) (eb : ∀ i, i < 41 * n → hI h2 113 i = hI h 113 i) : MkD h2 n D := ⟨e4, q.2.1, fun k hk => (q.2.2 k hk).at (fun j hj => e _ (by omega)) (fun j hj => eb _ (by omega))⟩
theorem MkD.push {h h2 : HP} {n : Nat} {D : Nat → DD} {d : DD} (q : MkD h n D) (hn : n < 12) (e4 : hI h2 109 4 = nI (n + 1)) (e : ∀ i, i < 8 * n → hI h2 112 i = hI h 112 i) (eb : ∀ i, i < 41 * n → hI h2 113 i = hI h 113 i) (c : MdC h2 n d) : MkD h2 (n + 1) (upD D n d) := ⟨e4, hn, fun k hk => by
  by_cases z : k = n
  · subst z; rw [upD_s]; exact c
  · rw [upD_o z]; exact (q.2.2 k (by omega)).at (fun j hj => e _ (by omega)) (fun j hj => eb _ (by omega))⟩
/-- where a condition always holds -/
def scB (n a i : Nat) : Prop := a = 113 ∧ 41 * n ≤ i ∧ i < 41 * n + 41
theorem zX9_holdsAlways (X : EX) {h0 : HP} (F0 : Fx h0) {n : Nat} (hm : hI h0 109 4 = nI n) (hn : n < 12) : Ct X mX9_holdsAlways 0 0 0 [vR (some 109)] h0 (fun v h' => v = none ∧ Sf (scB n) h0 h' ∧ ∀ i, i < 41 → hI h' 113 (41 * n + i) = -1) := by
  refine ct_of rfl (Nat.le_of_ble_eq_true rfl) ?_
  have loop : ∀ (m : Nat) (k : Nat) (hz : HP), k + m = 41 → Sf (scB n) h0 hz → (∀ i, i < k → hI hz 113 (41 * n + i) = -1) → Ev X mX9_holdsAlways 0 0 0 (fun v h' => v = none ∧ Sf (scB n) h0 h' ∧ ∀ i, i < 41 → hI h' 113 (41 * n + i) = -1) 0 0 2 [(0, some (vR (some 109))), (1, some (vI (nI k)))] [] hz := by
    intro m
    induction m with
    | zero =>
      intro k hz hk S hW
      obtain rfl : k = 41 := by omega
      have F := S.F F0
      refine e_iload_n aX9_holdsAlways_2 rfl ?_
      refine e_bipush (v := 41) aX9_holdsAlways_3 (by decide) ?_
      refine e_icmp_ge aX9_holdsAlways_5 (fun c5 => ?_) (fun c5 => ?_)
      · -- 5: taken
        refine e_return aX9_holdsAlways_29 rfl (Nat.le_refl _) (Nat.le_refl _) ?_
        exact ⟨rfl, S, hW⟩
      · -- 5: not taken
        exact absurd (nI_le (a := 41) (b := 41) (by decide) (by decide)) c5
    | succ m ih =>
      intro k hz hk S hW
      have F := S.F F0
      refine e_iload_n aX9_holdsAlways_2 rfl ?_
      refine e_bipush (v := 41) aX9_holdsAlways_3 (by decide) ?_
      refine e_icmp_ge aX9_holdsAlways_5 (fun c5 => ?_) (fun c5 => ?_)
      · -- 5: taken
        exact absurd c5 (nI_ge (a := k) (b := 41) (by omega) (by decide))
      · -- 5: not taken
        refine e_aload_n aX9_holdsAlways_8 rfl ?_
        refine e_getRF aX9_holdsAlways_9 fX9_23 rfl (fx_is F rfl) (fx_r (b := 113) F rfl) ?_
        refine e_bipush (v := 41) aX9_holdsAlways_12 (by decide) ?_
        refine e_aload_n aX9_holdsAlways_14 rfl ?_
        refine e_getIF aX9_holdsAlways_15 fX9_89 rfl (fx_is F rfl) ((S.2 _ _ (fun z => absurd z.1 (by decide))).trans hm) ?_
        refine e_imul aX9_holdsAlways_18 ?_
        refine e_top (nI_mul 41 n) ?_
        refine e_iload_n aX9_holdsAlways_19 rfl ?_
        refine e_iadd aX9_holdsAlways_20 ?_
        refine e_top (nI_add _ _) ?_
        refine e_iconst (v := -1) aX9_holdsAlways_21 (by decide) ?_
        refine e_iastoreF aX9_holdsAlways_22 (fx_is F rfl) (fx_n (n := 492) F rfl) (vin (N := 492) (by omega)) ?_
        rw [cl (by omega)]
        refine e_iinc aX9_holdsAlways_23 rfl rfl (Nat.le_of_ble_eq_true rfl) ?_
        refine e_goto aX9_holdsAlways_26 ?_
        refine e_ls (ls' := [(0, some (vR (some 109))), (1, some (vI (nI (k + 1))))]) ⟨rfl, congrArg (fun x => some (vI x)) (nI_1 k), trivial⟩ ?_
        refine ih (k + 1) _ (by omega) (S.wI ⟨rfl, by omega, by omega⟩) (fun i hi => ?_)
        by_cases e : i = k
        · subst e; exact wI_s
        · exact (wI_i (by omega)).trans (hW i (by omega))
  refine e_iconst (v := 0) aX9_holdsAlways_0 (by decide) ?_
  refine e_istore_n aX9_holdsAlways_1 (Nat.le_of_ble_eq_true rfl) ?_
  refine e_ls (ls' := [(0, some (vR (some 109))), (1, some (vI (nI 0)))]) ⟨rfl, rfl, trivial⟩ ?_
  exact loop 41 0 h0 rfl (Sf.rf h0) (fun i hi => absurd hi (Nat.not_lt_zero i))
/-- one deal more lies behind all -/
def lyH (h : HP) (n : Nat) (k f t p q m w : Int32) : HP := wI (wI (wI (wI (wI (wI (wI (wI (wI (wI h 112 (8 * n) k) 112 (8 * n + 1) f) 112 (8 * n + 2) t) 112 (8 * n + 3) p) 112 (8 * n + 4) q) 112 (8 * n + 5) m) 112 (8 * n + 6) w) 112 (8 * n + 7) (hI h 109 7)) 109 7 (hI h 109 7 + 1)) 109 4 (nI (n + 1))
theorem lyH_o {h : HP} {n : Nat} {k f t p q m w : Int32} {i : Nat} (hi : i < 8 * n) : hI (lyH h n k f t p q m w) 112 i = hI h 112 i := by
  unfold lyH
  rw [wI_a (by decide), wI_a (by decide)]
  iterate 8 rw [wI_i (by omega)]
theorem lyH_a {h : HP} {n : Nat} {k f t p q m w : Int32} {a i : Nat} (h1 : a ≠ 112) (h2 : a ≠ 109) : hI (lyH h n k f t p q m w) a i = hI h a i := by
  unfold lyH
  rw [wI_a h2, wI_a h2]
  iterate 8 rw [wI_a h1]
theorem lyH_9 {h : HP} {n : Nat} {k f t p q m w : Int32} {i : Nat} (h1 : i ≠ 4) (h2 : i ≠ 7) : hI (lyH h n k f t p q m w) 109 i = hI h 109 i := by
  unfold lyH
  rw [wI_i h1, wI_i h2]
  iterate 8 rw [wI_a (by decide)]
theorem lyH_n {h : HP} {n : Nat} {k f t p q m w : Int32} : hI (lyH h n k f t p q m w) 109 4 = nI (n + 1) := wI_s
theorem lyH_b {h : HP} {n : Nat} {k f t p q m w : Int32} : hI (lyH h n k f t p q m w) 109 7 = hI h 109 7 + 1 := (wI_i (by decide)).trans wI_s
theorem lyH_2 {h : HP} {n : Nat} {k f t p q m w : Int32} : (lyH h n k f t p q m w).2 = h.2 := rfl
theorem lyH_c0 {h : HP} {n : Nat} {k f t p q m w : Int32} : hI (lyH h n k f t p q m w) 112 (8 * n + 0) = k := by
  unfold lyH
  rw [wI_a (by decide), wI_a (by decide)]
  iterate 7 rw [wI_i (by omega)]
  exact wI_s
theorem lyH_c1 {h : HP} {n : Nat} {k f t p q m w : Int32} : hI (lyH h n k f t p q m w) 112 (8 * n + 1) = f := by
  unfold lyH
  rw [wI_a (by decide), wI_a (by decide)]
  iterate 6 rw [wI_i (by omega)]
  exact wI_s
theorem lyH_c2 {h : HP} {n : Nat} {k f t p q m w : Int32} : hI (lyH h n k f t p q m w) 112 (8 * n + 2) = t := by
  unfold lyH
  rw [wI_a (by decide), wI_a (by decide)]
  iterate 5 rw [wI_i (by omega)]
  exact wI_s
theorem lyH_c3 {h : HP} {n : Nat} {k f t p q m w : Int32} : hI (lyH h n k f t p q m w) 112 (8 * n + 3) = p := by
  unfold lyH
  rw [wI_a (by decide), wI_a (by decide)]
  iterate 4 rw [wI_i (by omega)]
  exact wI_s
theorem lyH_c4 {h : HP} {n : Nat} {k f t p q m w : Int32} : hI (lyH h n k f t p q m w) 112 (8 * n + 4) = q := by
  unfold lyH
  rw [wI_a (by decide), wI_a (by decide)]
  iterate 3 rw [wI_i (by omega)]
  exact wI_s
theorem lyH_c5 {h : HP} {n : Nat} {k f t p q m w : Int32} : hI (lyH h n k f t p q m w) 112 (8 * n + 5) = m := by
  unfold lyH
  rw [wI_a (by decide), wI_a (by decide)]
  iterate 2 rw [wI_i (by omega)]
  exact wI_s
theorem lyH_c6 {h : HP} {n : Nat} {k f t p q m w : Int32} : hI (lyH h n k f t p q m w) 112 (8 * n + 6) = w := by
  unfold lyH
  rw [wI_a (by decide), wI_a (by decide)]
  iterate 1 rw [wI_i (by omega)]
  exact wI_s
theorem lyH_c7 {h : HP} {n : Nat} {k f t p q m w : Int32} : hI (lyH h n k f t p q m w) 112 (8 * n + 7) = (hI h 109 7) := by
  unfold lyH
  rw [wI_a (by decide), wI_a (by decide)]
  exact wI_s
theorem zX9_lays (X : EX) {h : HP} (F : Fx h) {n : Nat} (hm : hI h 109 4 = nI n) (hn : n < 12) (k f t p q m w : Int32) : Ct X mX9_lays 0 0 0 [vR (some 109), vI k, vI f, vI t, vI p, vI q, vI m, vI w] h (Rv (lyH h n k f t p q m w)) := by
  refine ct_of rfl (Nat.le_of_ble_eq_true rfl) ?_
  refine e_bipush (v := 8) aX9_lays_0 (by decide) ?_
  refine e_aload_n aX9_lays_2 rfl ?_
  refine e_getIF aX9_lays_3 fX9_89 rfl (fx_is F rfl) hm ?_
  refine e_imul aX9_lays_6 ?_
  refine e_top (nI_mul 8 n) ?_
  refine e_istore aX9_lays_7 (Nat.le_of_ble_eq_true rfl) ?_
  refine e_aload_n aX9_lays_9 rfl ?_
  refine e_getRF aX9_lays_10 fX9_20 rfl (fx_is F rfl) (fx_r (b := 112) F rfl) ?_
  refine e_iload aX9_lays_13 rfl ?_
  refine e_iload_n aX9_lays_15 rfl ?_
  refine e_iastoreF aX9_lays_16 (fx_is F rfl) (fx_n (n := 96) F rfl) (vin (N := 96) (by omega)) ?_
  rw [cl (by omega)]
  refine e_aload_n aX9_lays_17 rfl ?_
  refine e_getRF aX9_lays_18 fX9_20 rfl (fx_is F rfl) (fx_r (b := 112) F rfl) ?_
  refine e_iload aX9_lays_21 rfl ?_
  refine e_iconst (v := 1) aX9_lays_23 (by decide) ?_
  refine e_iadd aX9_lays_24 ?_
  refine e_top (nI_1 (8 * n)) ?_
  refine e_iload_n aX9_lays_25 rfl ?_
  refine e_iastoreF aX9_lays_26 (fx_is F rfl) (fx_n (n := 96) F rfl) (vin (N := 96) (by omega)) ?_
  rw [cl (by omega)]
  refine e_aload_n aX9_lays_27 rfl ?_
  refine e_getRF aX9_lays_28 fX9_20 rfl (fx_is F rfl) (fx_r (b := 112) F rfl) ?_
  refine e_iload aX9_lays_31 rfl ?_
  refine e_iconst (v := 2) aX9_lays_33 (by decide) ?_
  refine e_iadd aX9_lays_34 ?_
  refine e_top (nI_add (8 * n) 2) ?_
  refine e_iload_n aX9_lays_35 rfl ?_
  refine e_iastoreF aX9_lays_36 (fx_is F rfl) (fx_n (n := 96) F rfl) (vin (N := 96) (by omega)) ?_
  rw [cl (by omega)]
  refine e_aload_n aX9_lays_37 rfl ?_
  refine e_getRF aX9_lays_38 fX9_20 rfl (fx_is F rfl) (fx_r (b := 112) F rfl) ?_
  refine e_iload aX9_lays_41 rfl ?_
  refine e_iconst (v := 3) aX9_lays_43 (by decide) ?_
  refine e_iadd aX9_lays_44 ?_
  refine e_top (nI_add (8 * n) 3) ?_
  refine e_iload aX9_lays_45 rfl ?_
  refine e_iastoreF aX9_lays_47 (fx_is F rfl) (fx_n (n := 96) F rfl) (vin (N := 96) (by omega)) ?_
  rw [cl (by omega)]
  refine e_aload_n aX9_lays_48 rfl ?_
  refine e_getRF aX9_lays_49 fX9_20 rfl (fx_is F rfl) (fx_r (b := 112) F rfl) ?_
  refine e_iload aX9_lays_52 rfl ?_
  refine e_iconst (v := 4) aX9_lays_54 (by decide) ?_
  refine e_iadd aX9_lays_55 ?_
  refine e_top (nI_add (8 * n) 4) ?_
  refine e_iload aX9_lays_56 rfl ?_
  refine e_iastoreF aX9_lays_58 (fx_is F rfl) (fx_n (n := 96) F rfl) (vin (N := 96) (by omega)) ?_
  rw [cl (by omega)]
  refine e_aload_n aX9_lays_59 rfl ?_
  refine e_getRF aX9_lays_60 fX9_20 rfl (fx_is F rfl) (fx_r (b := 112) F rfl) ?_
  refine e_iload aX9_lays_63 rfl ?_
  refine e_iconst (v := 5) aX9_lays_65 (by decide) ?_
  refine e_iadd aX9_lays_66 ?_
  refine e_top (nI_add (8 * n) 5) ?_
  refine e_iload aX9_lays_67 rfl ?_
  refine e_iastoreF aX9_lays_69 (fx_is F rfl) (fx_n (n := 96) F rfl) (vin (N := 96) (by omega)) ?_
  rw [cl (by omega)]
  refine e_aload_n aX9_lays_70 rfl ?_
  refine e_getRF aX9_lays_71 fX9_20 rfl (fx_is F rfl) (fx_r (b := 112) F rfl) ?_
  refine e_iload aX9_lays_74 rfl ?_
  refine e_bipush (v := 6) aX9_lays_76 (by decide) ?_
  refine e_iadd aX9_lays_78 ?_
  refine e_top (nI_add (8 * n) 6) ?_
  refine e_iload aX9_lays_79 rfl ?_
  refine e_iastoreF aX9_lays_81 (fx_is F rfl) (fx_n (n := 96) F rfl) (vin (N := 96) (by omega)) ?_
  rw [cl (by omega)]
  refine e_aload_n aX9_lays_82 rfl ?_
  refine e_getRF aX9_lays_83 fX9_20 rfl (fx_is F rfl) (fx_r (b := 112) F rfl) ?_
  refine e_iload aX9_lays_86 rfl ?_
  refine e_bipush (v := 7) aX9_lays_88 (by decide) ?_
  refine e_iadd aX9_lays_90 ?_
  refine e_top (nI_add (8 * n) 7) ?_
  refine e_aload_n aX9_lays_91 rfl ?_
  refine e_getIF aX9_lays_92 fX9_177 rfl (fx_is F rfl) ((wI_a (by decide)).trans ((wI_a (by decide)).trans ((wI_a (by decide)).trans ((wI_a (by decide)).trans ((wI_a (by decide)).trans ((wI_a (by decide)).trans ((wI_a (by decide)).trans rfl))))))) ?_
  refine e_iastoreF aX9_lays_95 (fx_is F rfl) (fx_n (n := 96) F rfl) (vin (N := 96) (by omega)) ?_
  rw [cl (by omega)]
  refine e_aload_n aX9_lays_96 rfl ?_
  refine e_dup aX9_lays_97 rfl ?_
  refine e_getIF aX9_lays_98 fX9_177 rfl (fx_is F rfl) ((wI_a (by decide)).trans ((wI_a (by decide)).trans ((wI_a (by decide)).trans ((wI_a (by decide)).trans ((wI_a (by decide)).trans ((wI_a (by decide)).trans ((wI_a (by decide)).trans ((wI_a (by decide)).trans rfl)))))))) ?_
  refine e_iconst (v := 1) aX9_lays_101 (by decide) ?_
  refine e_iadd aX9_lays_102 ?_
  refine e_putI aX9_lays_103 fX9_177 rfl (fx_is F rfl) (Or.inl rfl) ?_
  refine e_aload_n aX9_lays_106 rfl ?_
  refine e_dup aX9_lays_107 rfl ?_
  refine e_getIF aX9_lays_108 fX9_89 rfl (fx_is F rfl) ((wI_i (by decide)).trans ((wI_a (by decide)).trans ((wI_a (by decide)).trans ((wI_a (by decide)).trans ((wI_a (by decide)).trans ((wI_a (by decide)).trans ((wI_a (by decide)).trans ((wI_a (by decide)).trans ((wI_a (by decide)).trans hm))))))))) ?_
  refine e_iconst (v := 1) aX9_lays_111 (by decide) ?_
  refine e_iadd aX9_lays_112 ?_
  refine e_top (nI_1 n) ?_
  refine e_putI aX9_lays_113 fX9_89 rfl (fx_is F rfl) (Or.inl rfl) ?_
  refine e_return aX9_lays_116 rfl (Nat.le_refl _) (Nat.le_refl _) ?_
  exact ⟨rfl, rfl⟩
/-- one deal's row -/
def scR (t a i : Nat) : Prop := (a = 112 ∧ 8 * t ≤ i ∧ i < 8 * t + 8) ∨ (a = 113 ∧ 41 * t ≤ i ∧ i < 41 * t + 41)
theorem zX9_moves (X : EX) {h0 : HP} (F0 : Fx h0) {f t : Nat} (htf : t ≤ f) (hf : f < 12) : Ct X mX9_moves 0 0 0 [vR (some 109), vI (nI f), vI (nI t)] h0 (fun v h' => v = none ∧ Sf (scR t) h0 h' ∧ (∀ j, j < 8 → hI h' 112 (8 * t + j) = hI h0 112 (8 * f + j)) ∧ ∀ j, j < 41 → hI h' 113 (41 * t + j) = hI h0 113 (41 * f + j)) := by
  refine ct_of rfl (Nat.le_of_ble_eq_true rfl) ?_
  have l2 : ∀ (m : Nat) (k : Nat) (hz : HP), k + m = 41 → Sf (scR t) h0 hz → (∀ i, 41 * t + k ≤ i → hI hz 113 i = hI h0 113 i) → (∀ j, j < k → hI hz 113 (41 * t + j) = hI h0 113 (41 * f + j)) → (∀ j, j < 8 → hI hz 112 (8 * t + j) = hI h0 112 (8 * f + j)) → Ev X mX9_moves 0 0 0 (fun v h' => v = none ∧ Sf (scR t) h0 h' ∧ (∀ j, j < 8 → hI h' 112 (8 * t + j) = hI h0 112 (8 * f + j)) ∧ ∀ j, j < 41 → hI h' 113 (41 * t + j) = hI h0 113 (41 * f + j)) 0 0 38 [(0, some (vR (some 109))), (1, some (vI (nI f))), (2, some (vI (nI t))), (3, some (vI (nI k)))] [] hz := by
    intro m
    induction m with
    | zero =>
      intro k hz hk S hO hK h8
      obtain rfl : k = 41 := by omega
      have F := S.F F0
      refine e_iload_n aX9_moves_38 rfl ?_
      refine e_bipush (v := 41) aX9_moves_39 (by decide) ?_
      refine e_icmp_ge aX9_moves_41 (fun c41 => ?_) (fun c41 => ?_)
      · -- 41: taken
        refine e_return aX9_moves_72 rfl (Nat.le_refl _) (Nat.le_refl _) ?_
        exact ⟨rfl, S, h8, hK⟩
      · -- 41: not taken
        exact absurd (nI_le (a := 41) (b := 41) (by decide) (by decide)) c41
    | succ m ih =>
      intro k hz hk S hO hK h8
      have F := S.F F0
      refine e_iload_n aX9_moves_38 rfl ?_
      refine e_bipush (v := 41) aX9_moves_39 (by decide) ?_
      refine e_icmp_ge aX9_moves_41 (fun c41 => ?_) (fun c41 => ?_)
      · -- 41: taken
        exact absurd c41 (nI_ge (a := k) (b := 41) (by omega) (by decide))
      · -- 41: not taken
        refine e_aload_n aX9_moves_44 rfl ?_
        refine e_getRF aX9_moves_45 fX9_23 rfl (fx_is F rfl) (fx_r (b := 113) F rfl) ?_
        refine e_bipush (v := 41) aX9_moves_48 (by decide) ?_
        refine e_iload_n aX9_moves_50 rfl ?_
        refine e_imul aX9_moves_51 ?_
        refine e_top (nI_mul 41 t) ?_
        refine e_iload_n aX9_moves_52 rfl ?_
        refine e_iadd aX9_moves_53 ?_
        refine e_top (nI_add _ _) ?_
        refine e_aload_n aX9_moves_54 rfl ?_
        refine e_getRF aX9_moves_55 fX9_23 rfl (fx_is F rfl) (fx_r (b := 113) F rfl) ?_
        refine e_bipush (v := 41) aX9_moves_58 (by decide) ?_
        refine e_iload_n aX9_moves_60 rfl ?_
        refine e_imul aX9_moves_61 ?_
        refine e_top (nI_mul 41 f) ?_
        refine e_iload_n aX9_moves_62 rfl ?_
        refine e_iadd aX9_moves_63 ?_
        refine e_top (nI_add _ _) ?_
        refine e_ialoadF aX9_moves_64 (fx_is F rfl) (fx_n (n := 492) F rfl) (vin (N := 492) (by omega)) (show hI hz 113 (nI (41 * f + k)).toNatClampNeg = hI h0 113 (41 * f + k) by rw [cl (by omega)]; exact hO _ (by omega)) ?_
        refine e_iastoreF aX9_moves_65 (fx_is F rfl) (fx_n (n := 492) F rfl) (vin (N := 492) (by omega)) ?_
        rw [cl (by omega)]
        refine e_iinc aX9_moves_66 rfl rfl (Nat.le_of_ble_eq_true rfl) ?_
        refine e_goto aX9_moves_69 ?_
        refine e_ls (ls' := [(0, some (vR (some 109))), (1, some (vI (nI f))), (2, some (vI (nI t))), (3, some (vI (nI (k + 1))))]) ⟨rfl, rfl, rfl, congrArg (fun x => some (vI x)) (nI_1 k), trivial⟩ ?_
        refine ih (k + 1) _ (by omega) (S.wI (Or.inr ⟨rfl, by omega, by omega⟩)) (fun i hi => (wI_i (by omega)).trans (hO i (by omega))) (fun j hj => ?_) (fun j hj => (wI_a (by decide)).trans (h8 j hj))
        by_cases e : j = k
        · subst e; exact wI_s
        · exact (wI_i (by omega)).trans (hK j (by omega))
  have l1 : ∀ (m : Nat) (k : Nat) (hz : HP), k + m = 8 → Sf (scR t) h0 hz → (∀ i, 8 * t + k ≤ i → hI hz 112 i = hI h0 112 i) → (∀ j, j < k → hI hz 112 (8 * t + j) = hI h0 112 (8 * f + j)) → (∀ i, hI hz 113 i = hI h0 113 i) → Ev X mX9_moves 0 0 0 (fun v h' => v = none ∧ Sf (scR t) h0 h' ∧ (∀ j, j < 8 → hI h' 112 (8 * t + j) = hI h0 112 (8 * f + j)) ∧ ∀ j, j < 41 → hI h' 113 (41 * t + j) = hI h0 113 (41 * f + j)) 0 0 2 [(0, some (vR (some 109))), (1, some (vI (nI f))), (2, some (vI (nI t))), (3, some (vI (nI k)))] [] hz := by
    intro m
    induction m with
    | zero =>
      intro k hz hk S hO hK hB
      obtain rfl : k = 8 := by omega
      have F := S.F F0
      refine e_iload_n aX9_moves_2 rfl ?_
      refine e_bipush (v := 8) aX9_moves_3 (by decide) ?_
      refine e_icmp_ge aX9_moves_5 (fun c5 => ?_) (fun c5 => ?_)
      · -- 5: taken
        refine e_iconst (v := 0) aX9_moves_36 (by decide) ?_
        refine e_istore_n aX9_moves_37 (Nat.le_of_ble_eq_true rfl) ?_
        refine e_ls (ls' := [(0, some (vR (some 109))), (1, some (vI (nI f))), (2, some (vI (nI t))), (3, some (vI (nI 0)))]) ⟨rfl, rfl, rfl, rfl, trivial⟩ ?_
        exact l2 41 0 hz rfl S (fun i _ => hB i) (fun j hj => absurd hj (Nat.not_lt_zero j)) hK
      · -- 5: not taken
        exact absurd (nI_le (a := 8) (b := 8) (by decide) (by decide)) c5
    | succ m ih =>
      intro k hz hk S hO hK hB
      have F := S.F F0
      refine e_iload_n aX9_moves_2 rfl ?_
      refine e_bipush (v := 8) aX9_moves_3 (by decide) ?_
      refine e_icmp_ge aX9_moves_5 (fun c5 => ?_) (fun c5 => ?_)
      · -- 5: taken
        exact absurd c5 (nI_ge (a := k) (b := 8) (by omega) (by decide))
      · -- 5: not taken
        refine e_aload_n aX9_moves_8 rfl ?_
        refine e_getRF aX9_moves_9 fX9_20 rfl (fx_is F rfl) (fx_r (b := 112) F rfl) ?_
        refine e_bipush (v := 8) aX9_moves_12 (by decide) ?_
        refine e_iload_n aX9_moves_14 rfl ?_
        refine e_imul aX9_moves_15 ?_
        refine e_top (nI_mul 8 t) ?_
        refine e_iload_n aX9_moves_16 rfl ?_
        refine e_iadd aX9_moves_17 ?_
        refine e_top (nI_add _ _) ?_
        refine e_aload_n aX9_moves_18 rfl ?_
        refine e_getRF aX9_moves_19 fX9_20 rfl (fx_is F rfl) (fx_r (b := 112) F rfl) ?_
        refine e_bipush (v := 8) aX9_moves_22 (by decide) ?_
        refine e_iload_n aX9_moves_24 rfl ?_
        refine e_imul aX9_moves_25 ?_
        refine e_top (nI_mul 8 f) ?_
        refine e_iload_n aX9_moves_26 rfl ?_
        refine e_iadd aX9_moves_27 ?_
        refine e_top (nI_add _ _) ?_
        refine e_ialoadF aX9_moves_28 (fx_is F rfl) (fx_n (n := 96) F rfl) (vin (N := 96) (by omega)) (show hI hz 112 (nI (8 * f + k)).toNatClampNeg = hI h0 112 (8 * f + k) by rw [cl (by omega)]; exact hO _ (by omega)) ?_
        refine e_iastoreF aX9_moves_29 (fx_is F rfl) (fx_n (n := 96) F rfl) (vin (N := 96) (by omega)) ?_
        rw [cl (by omega)]
        refine e_iinc aX9_moves_30 rfl rfl (Nat.le_of_ble_eq_true rfl) ?_
        refine e_goto aX9_moves_33 ?_
        refine e_ls (ls' := [(0, some (vR (some 109))), (1, some (vI (nI f))), (2, some (vI (nI t))), (3, some (vI (nI (k + 1))))]) ⟨rfl, rfl, rfl, congrArg (fun x => some (vI x)) (nI_1 k), trivial⟩ ?_
        refine ih (k + 1) _ (by omega) (S.wI (Or.inl ⟨rfl, by omega, by omega⟩)) (fun i hi => (wI_i (by omega)).trans (hO i (by omega))) (fun j hj => ?_) (fun i => (wI_a (by decide)).trans (hB i))
        by_cases e : j = k
        · subst e; exact wI_s
        · exact (wI_i (by omega)).trans (hK j (by omega))
  refine e_iconst (v := 0) aX9_moves_0 (by decide) ?_
  refine e_istore_n aX9_moves_1 (Nat.le_of_ble_eq_true rfl) ?_
  refine e_ls (ls' := [(0, some (vR (some 109))), (1, some (vI (nI f))), (2, some (vI (nI t))), (3, some (vI (nI 0)))]) ⟨rfl, rfl, rfl, rfl, trivial⟩ ?_
  exact l1 8 0 h0 rfl (Sf.rf h0) (fun i _ => rfl) (fun j hj => absurd hj (Nat.not_lt_zero j)) (fun i => rfl)
theorem zX9_standing (X : EX) {h : HP} (F : Fx h) {f : Nat} {o : Nat → Nat} (mf : MkF h f o) {k9 : Nat} {d : DD} (hk : k9 < 12) (mc : MdC h k9 d) : Ct X mX9_standing 7 0 0 [vR (some 109), vI (nI k9)] h (Rt (vI (nI (cnW (gvS d) (fo o f) (om f)))) h) := by
  refine ct_of rfl (Nat.le_of_ble_eq_true rfl) ?_
  have hf4 := mf.2.1
  have hb6 := om_fo mf.2.1 mf.2.2.2
  have hom := om_pos mf.2.1
  have loop : ∀ (m : Nat) (k : Nat), k + m = om f → Ev X mX9_standing 7 0 0 (Rt (vI (nI (cnW (gvS d) (fo o f) (om f)))) h) 0 0 10 [(0, some (vR (some 109))), (1, some (vI (nI k9))), (2, some (vI (nI (cnW (gvS d) (fo o f) k)))), (3, some (vI (nI (fo o f)))), (4, some (vI (nI (fo o f + k))))] [] h := by
    intro m
    induction m with
    | zero =>
      intro k hk9
      obtain rfl : k = om f := by omega
      refine e_iload aX9_standing_10 rfl ?_
      refine e_iload_n aX9_standing_12 rfl ?_
      refine e_aload_n aX9_standing_13 rfl ?_
      refine e_invvT aX9_standing_14 kX9_123 (zX9_openMany X F mf) rfl rfl (fx_is F rfl) (Nat.le_of_ble_eq_true rfl) (Nat.le_of_ble_eq_true rfl) (Nat.le_refl _) (Nat.le_refl _) (Nat.le_of_ble_eq_true rfl) ?_
      refine e_iadd aX9_standing_17 ?_
      refine e_top (nI_add _ _) ?_
      refine e_icmp_ge aX9_standing_18 (fun c18 => ?_) (fun c18 => ?_)
      · -- 18: taken
        refine e_iload_n aX9_standing_45 rfl ?_
        refine e_ireturn aX9_standing_46 rfl (Nat.le_refl _) (Nat.le_refl _) ?_
        exact ⟨rfl, rfl⟩
      · -- 18: not taken
        exact absurd (nI_le (by omega) (by omega)) c18
    | succ m ih =>
      intro k hk9
      have mcs : fo o f + k < 1296 := by omega
      refine e_iload aX9_standing_10 rfl ?_
      refine e_iload_n aX9_standing_12 rfl ?_
      refine e_aload_n aX9_standing_13 rfl ?_
      refine e_invvT aX9_standing_14 kX9_123 (zX9_openMany X F mf) rfl rfl (fx_is F rfl) (Nat.le_of_ble_eq_true rfl) (Nat.le_of_ble_eq_true rfl) (Nat.le_refl _) (Nat.le_refl _) (Nat.le_of_ble_eq_true rfl) ?_
      refine e_iadd aX9_standing_17 ?_
      refine e_top (nI_add _ _) ?_
      refine e_icmp_ge aX9_standing_18 (fun c18 => ?_) (fun c18 => ?_)
      · -- 18: taken
        exact absurd c18 (nI_ge (by omega) (by omega))
      · -- 18: not taken
        refine e_iload_n aX9_standing_21 rfl ?_
        refine e_aload_n aX9_standing_22 rfl ?_
        refine e_iload_n aX9_standing_23 rfl ?_
        refine e_iload aX9_standing_24 rfl ?_
        refine e_invvT aX9_standing_26 kX9_204 (zX9_isLapsing X F hk mcs mc) rfl rfl (fx_is F rfl) (Nat.le_of_ble_eq_true rfl) (Nat.le_of_ble_eq_true rfl) (Nat.le_refl _) (Nat.le_refl _) (Nat.le_of_ble_eq_true rfl) ?_
        refine e_if_eq aX9_standing_29 (fun c29 => ?_) (fun c29 => ?_)
        · -- 29: taken
          have q29 := b2_0.mp c29
          refine e_iconst (v := 1) aX9_standing_36 (by decide) ?_
          refine e_iadd aX9_standing_37 ?_
          refine e_istore_n aX9_standing_38 (Nat.le_of_ble_eq_true rfl) ?_
          refine e_iinc aX9_standing_39 rfl rfl (Nat.le_of_ble_eq_true rfl) ?_
          refine e_goto aX9_standing_42 ?_
          refine e_ls (ls' := [(0, some (vR (some 109))), (1, some (vI (nI k9))), (2, some (vI (nI (cnW (gvS d) (fo o f) (k + 1))))), (3, some (vI (nI (fo o f)))), (4, some (vI (nI (fo o f + (k + 1)))))]) ⟨rfl, rfl, congrArg (fun x => some (vI x)) ((nI_1 _).trans (congrArg nI (cnW_t (P := gvS d) (a := fo o f) (m := k) (by unfold gvS; exact Option.isSome_iff_ne_none.mpr q29)).symm)), rfl, congrArg (fun x => some (vI x)) (nI_1 (fo o f + k)), trivial⟩ ?_
          exact ih (k + 1) (by omega)
        · -- 29: not taken
          have q29 := Decidable.of_not_not (fun z => c29 (b2_0.mpr z))
          refine e_iconst (v := 0) aX9_standing_32 (by decide) ?_
          refine e_goto aX9_standing_33 ?_
          refine e_iadd aX9_standing_37 ?_
          refine e_istore_n aX9_standing_38 (Nat.le_of_ble_eq_true rfl) ?_
          refine e_iinc aX9_standing_39 rfl rfl (Nat.le_of_ble_eq_true rfl) ?_
          refine e_goto aX9_standing_42 ?_
          refine e_ls (ls' := [(0, some (vR (some 109))), (1, some (vI (nI k9))), (2, some (vI (nI (cnW (gvS d) (fo o f) (k + 1))))), (3, some (vI (nI (fo o f)))), (4, some (vI (nI (fo o f + (k + 1)))))]) ⟨rfl, rfl, congrArg (fun x => some (vI x)) ((Int32.add_zero _).trans (congrArg nI (cnW_f (P := gvS d) (a := fo o f) (m := k) (by unfold gvS; rw [q29]; rfl)).symm)), rfl, congrArg (fun x => some (vI x)) (nI_1 (fo o f + k)), trivial⟩ ?_
          exact ih (k + 1) (by omega)
  refine e_iconst (v := 0) aX9_standing_0 (by decide) ?_
  refine e_istore_n aX9_standing_1 (Nat.le_of_ble_eq_true rfl) ?_
  refine e_aload_n aX9_standing_2 rfl ?_
  refine e_invvT aX9_standing_3 kX9_119 (zX9_openFrom X F mf) rfl rfl (fx_is F rfl) (Nat.le_of_ble_eq_true rfl) (Nat.le_of_ble_eq_true rfl) (Nat.le_refl _) (Nat.le_refl _) (Nat.le_of_ble_eq_true rfl) ?_
  refine e_istore_n aX9_standing_6 (Nat.le_of_ble_eq_true rfl) ?_
  refine e_iload_n aX9_standing_7 rfl ?_
  refine e_istore aX9_standing_8 (Nat.le_of_ble_eq_true rfl) ?_
  refine e_ls (ls' := [(0, some (vR (some 109))), (1, some (vI (nI k9))), (2, some (vI (nI (cnW (gvS d) (fo o f) 0)))), (3, some (vI (nI (fo o f)))), (4, some (vI (nI (fo o f + 0))))]) ⟨rfl, rfl, rfl, rfl, rfl, trivial⟩ ?_
  exact loop (om f) 0 (by omega)
theorem its_of {h : HP} {k j : Nat} {d : DD} {a m : Nat} (mc : MdC h k d) (hj : j < 7) : hI h 112 (8 * k + j) = ofV d a m j := by
  obtain ⟨w, e0, e1, e2, e3, e4, e5, e6, b⟩ := mc
  rcases (show j = 0 ∨ j = 1 ∨ j = 2 ∨ j = 3 ∨ j = 4 ∨ j = 5 ∨ j = 6 by omega) with rfl | rfl | rfl | rfl | rfl | rfl | rfl
  · exact e0
  · exact e1
  · exact e2
  · exact e3
  · exact e4
  · exact e5
  · exact e6
theorem zX9_of (X : EX) {h : HP} (F : Fx h) {f n : Nat} {o : Nat → Nat} {D : Nat → DD} (mf : MkF h f o) (md : MkD h n D) (x y : Int32) : Ct X mX9_of 8 0 0 [vR (some 109), vI x, vI y] h (if x < 0 ∨ nI n ≤ x then RM h 0 else if y < 0 ∨ nI 8 ≤ y then RM h 0 else Rt (vI (ofV (D x.toNatClampNeg) (fo o f) (om f) y.toNatClampNeg)) h) := by
  refine ct_of rfl (Nat.le_of_ble_eq_true rfl) ?_
  have hn12 := md.2.1
  refine e_aload_n aX9_of_0 rfl ?_
  refine e_iload_n aX9_of_1 rfl ?_
  refine e_invvT aX9_of_2 kX9_207 (zX9_isDeal X F md _) rfl rfl (fx_is F rfl) (Nat.le_of_ble_eq_true rfl) (Nat.le_of_ble_eq_true rfl) (Nat.le_refl _) (Nat.le_refl _) (Nat.le_of_ble_eq_true rfl) ?_
  refine e_if_eq aX9_of_5 (fun c5 => ?_) (fun c5 => ?_)
  · -- 5: taken
    have q5 := Decidable.of_not_not (b2_0.mp c5)
    refine e_aload_n aX9_of_20 rfl ?_
    refine e_iconst (v := 0) aX9_of_21 (by decide) ?_
    refine e_invvT aX9_of_22 kX9_128 (zX9_finds X F (k := 0) (by decide)) rfl rfl (fx_is F rfl) (Nat.le_of_ble_eq_true rfl) (Nat.le_of_ble_eq_true rfl) (Nat.le_refl _) (Nat.le_refl _) (Nat.le_of_ble_eq_true rfl) ?_
    refine e_ireturn aX9_of_25 rfl (Nat.le_refl _) (Nat.le_refl _) ?_
    rw [if_pos q5]
    exact ⟨rfl, rfl⟩
  · -- 5: not taken
    have q5 := Decidable.of_not_not (fun z => c5 (b2_0.mpr z))
    refine e_iload_n aX9_of_8 rfl ?_
    refine e_i2l aX9_of_9 ?_
    refine e_lconst (v := 0) aX9_of_10 rfl ?_
    refine e_ldc2 aX9_of_11 lX9_210 ?_
    refine e_invsT aX9_of_14 kX9_108 (zic X _ (nI 8) (N := 8) rfl (by decide) (by decide) rfl) rfl rfl (Nat.le_of_ble_eq_true rfl) (Nat.le_of_ble_eq_true rfl) (Nat.le_refl _) (Nat.le_refl _) (Nat.le_of_ble_eq_true rfl) ?_
    refine e_if_ne aX9_of_17 (fun c17 => ?_) (fun c17 => ?_)
    · -- 17: taken
      have q17 := Decidable.of_not_not (fun z => c17 (b2_0.mpr z))
      obtain ⟨kz, hk, rfl⟩ := ou_of n (by omega) q5
      obtain ⟨iz, hi8, rfl⟩ := ou_of 8 (by decide) q17
      refine e_iload_n aX9_of_26 rfl ?_
      refine e_bipush (v := 7) aX9_of_27 (by decide) ?_
      refine e_icmp_ne aX9_of_29 (fun c29 => ?_) (fun c29 => ?_)
      · -- 29: taken
        have q29 : ¬ iz = 7 := fun z => c29 (by rw [z]; rfl)
        refine e_aload_n aX9_of_40 rfl ?_
        refine e_iload_n aX9_of_41 rfl ?_
        refine e_iload_n aX9_of_42 rfl ?_
        refine e_invvT aX9_of_43 kX9_145 (zits X F (by omega) (by omega) (its_of (a := fo o f) (m := om f) (md.2.2 kz hk) (by omega))) rfl rfl (fx_is F rfl) (Nat.le_of_ble_eq_true rfl) (Nat.le_of_ble_eq_true rfl) (Nat.le_refl _) (Nat.le_refl _) (Nat.le_of_ble_eq_true rfl) ?_
        refine e_ireturn aX9_of_46 rfl (Nat.le_refl _) (Nat.le_refl _) ?_
        rw [if_neg q5, if_neg q17, cl (by omega), cl (by omega)]
        exact ⟨rfl, rfl⟩
      · -- 29: not taken
        have q29 : iz = 7 := (nI_eq (b := 7) (by omega) (by decide)).mp c29
        refine e_aload_n aX9_of_32 rfl ?_
        refine e_iload_n aX9_of_33 rfl ?_
        refine e_invvT aX9_of_34 kX9_212 (zX9_standing X F mf (k9 := kz) (by omega) (md.2.2 kz hk)) rfl rfl (fx_is F rfl) (Nat.le_of_ble_eq_true rfl) (Nat.le_of_ble_eq_true rfl) (Nat.le_refl _) (Nat.le_refl _) (Nat.le_of_ble_eq_true rfl) ?_
        refine e_goto aX9_of_37 ?_
        refine e_ireturn aX9_of_46 rfl (Nat.le_refl _) (Nat.le_refl _) ?_
        rw [if_neg q5, if_neg q17, cl (by omega), cl (by omega)]
        subst q29
        exact ⟨rfl, rfl⟩
    · -- 17: not taken
      have q17 := Decidable.of_not_not (b2_0.mp c17)
      refine e_aload_n aX9_of_20 rfl ?_
      refine e_iconst (v := 0) aX9_of_21 (by decide) ?_
      refine e_invvT aX9_of_22 kX9_128 (zX9_finds X F (k := 0) (by decide)) rfl rfl (fx_is F rfl) (Nat.le_of_ble_eq_true rfl) (Nat.le_of_ble_eq_true rfl) (Nat.le_refl _) (Nat.le_refl _) (Nat.le_of_ble_eq_true rfl) ?_
      refine e_ireturn aX9_of_25 rfl (Nat.le_refl _) (Nat.le_refl _) ?_
      rw [if_neg q5, if_pos q17]
      exact ⟨rfl, rfl⟩
/-- all that deals' coming may change -/
def scM (a i : Nat) : Prop := a = 112 ∨ a = 113 ∨ a = 114 ∨ a = 115 ∨ a = 116 ∨ a = 110 ∨ (a = 109 ∧ (i = 4 ∨ i = 7 ∨ i = 11))
theorem Sf.M0 {h h2 : HP} (s : Sc h h2) : Sf scM h h2 := s.mono (fun a i q => by unfold scM; unfold sc0 at q; omega)
theorem Sf.M4 {h h2 : HP} (s : Sf sc4 h h2) : Sf scM h h2 := s.mono (fun a i q => by unfold scM; unfold sc4 at q; omega)
theorem Sf.MB {n : Nat} {h h2 : HP} (s : Sf (scB n) h h2) : Sf scM h h2 := s.mono (fun a i q => Or.inr (Or.inl q.1))
theorem lyH_S {h : HP} {n : Nat} {k f t p q m w : Int32} : Sf scM h (lyH h n k f t p q m w) := ⟨rfl, fun a i z => by
  by_cases e : a = 109
  · subst e
    exact lyH_9 (fun e => z (by unfold scM; omega)) (fun e => z (by unfold scM; omega))
  · exact lyH_a (fun e => z (by unfold scM; omega)) e⟩
/-- what a clash told is -/
def tldM (h : HP) (D : Nat → DD) (n s : Nat) : Prop := ∃ p, rfc D n s = some p ∧ hI h 114 0 = nI s ∧ hI h 114 1 = nI p ∧ hI h 114 2 = rclV D n s p
/-- a deal has come (or not) to the reference -/
def comQ (D : Nat → DD) (n : Nat) (d : DD) (f : Nat) (o : Nat → Nat) (h : HP) : Option VV → HP → Prop := fun v h' => Sf scM h h' ∧ (∀ i, i < 8 * n → hI h' 112 i = hI h 112 i) ∧ hI h' 109 7 = hI h 109 7 + 1 ∧ match rfs (upD D n d) (n + 1) (fo o f) (om f) with
  | none => v = some (vI (nI n)) ∧ MkD h' (n + 1) (upD D n d) ∧ hI h' 112 (8 * n + 7) = hI h 109 7 ∧ (∀ i, hI h' 114 i = hI h 114 i) ∧ ∀ i, hI h' 110 i = hI h 110 i
  | some s => v = some (fv 4) ∧ MkD h' n D ∧ tldM h' (upD D n d) (n + 1) s ∧ ∀ i, hI h' 110 i = hI (fdM h 4) 110 i
def cmQ (D : Nat → DD) (n : Nat) (d : DD) (f : Nat) (o : Nat → Nat) (h : HP) : Option VV → HP → Prop := if dP d / 3 < f then RM h 3 else if 12 ≤ n then RM h 1 else comQ D n d f o h
theorem lyH_D {h h2 : HP} {n : Nat} {D : Nat → DD} {k f t p m : Nat} {q : Option Nat} (md : MkD h n D) (hn : n < 12) (w : dWf (dNo k f t p q m)) (S : Sf (scB n) h h2) (hW : ∀ i, i < 41 → hI h2 113 (41 * n + i) = -1) : MkD (lyH h2 n (nI k) (nI f) (nI t) (nI p) (oI q) (nI m) 0) (n + 1) (upD D n (dNo k f t p q m)) := by
  refine md.push hn lyH_n (fun i hi => (lyH_o hi).trans (S.2 _ _ (fun z => absurd z.1 (by decide)))) (fun i hi => (lyH_a (by decide) (by decide)).trans (S.2 _ _ (fun z => by have := z.2.1; omega))) ⟨w, lyH_c0, lyH_c1, lyH_c2, lyH_c3, lyH_c4, lyH_c5, lyH_c6, fun u hu => ?_⟩
  rw [lyH_a (by decide) (by decide), hW _ (by omega), btI_m1 _ (by omega)]
  rfl
theorem zX9_comes (X : EX) {h0 : HP} (F0 : Fx h0) {f n : Nat} {o : Nat → Nat} {D : Nat → DD} (mf0 : MkF h0 f o) (md0 : MkD h0 n D) {k9 f1 t1 p1 m1 : Nat} {q1 : Option Nat} (wf : dWf (dNo k9 f1 t1 p1 q1 m1)) : Ct X mX9_comes 8 0 0 [vR (some 109), vI (nI k9), vI (nI f1), vI (nI t1), vI (nI p1), vI (oI q1), vI (nI m1)] h0 (cmQ D n (dNo k9 f1 t1 p1 q1 m1) f o h0) := by
  refine ct_of rfl (Nat.le_of_ble_eq_true rfl) ?_
  have F := F0
  have md := md0
  have mf := mf0
  have hn12 := md0.2.1
  have hf4 := mf0.2.1
  have hb6 := om_fo mf0.2.1 mf0.2.2.2
  have hom := om_pos mf0.2.1
  have hp12 : p1 < 12 := wf.2.2.2.2.1
  refine e_iload aX9_comes_0 rfl ?_
  refine e_iconst (v := 3) aX9_comes_2 (by decide) ?_
  refine e_idiv aX9_comes_3 (by decide) ?_
  refine e_top (nI_div (b := 3) (by omega) (by decide) (by decide)) ?_
  refine e_aload_n aX9_comes_4 rfl ?_
  refine e_getIF aX9_comes_5 fX9_116 rfl (fx_is F rfl) mf.1 ?_
  refine e_icmp_ge aX9_comes_8 (fun c8 => ?_) (fun c8 => ?_)
  · -- 8: taken
    have q8 : ¬ p1 / 3 < f := (not_congr (nI_ltI (by omega) (by omega))).mp (Int32.not_lt.mpr c8)
    refine e_aload_n aX9_comes_17 rfl ?_
    refine e_getIF aX9_comes_18 fX9_89 rfl (fx_is F rfl) md.1 ?_
    refine e_bipush (v := 12) aX9_comes_21 (by decide) ?_
    refine e_icmp_ne aX9_comes_23 (fun c23 => ?_) (fun c23 => ?_)
    · -- 23: taken
      have q23 : ¬ 12 ≤ n := fun z => c23 (by rw [show n = 12 by omega]; rfl)
      refine e_aload_n aX9_comes_32 rfl ?_
      refine e_invv aX9_comes_33 kX9_180 (zX9_holdsAlways X F md.1 (by omega)) rfl rfl (fx_is F rfl) (Nat.le_of_ble_eq_true rfl) (Nat.le_of_ble_eq_true rfl) (Nat.le_refl _) (Nat.le_refl _) (Nat.le_of_ble_eq_true rfl) ?_
      rintro v h2 ⟨rfl, S1, hW⟩
      have F := S1.F F0
      have md2 := lyH_D md (by omega) wf S1 hW
      have mf2 : MkF (lyH h2 n (nI k9) (nI f1) (nI t1) (nI p1) (oI q1) (nI m1) 0) f o := mf.sf (S1.MB.tr lyH_S) (by unfold scM; omega) (fun y => by unfold scM; omega)
      refine e_aload_n aX9_comes_36 rfl ?_
      refine e_iload_n aX9_comes_37 rfl ?_
      refine e_iload_n aX9_comes_38 rfl ?_
      refine e_iload_n aX9_comes_39 rfl ?_
      refine e_iload aX9_comes_40 rfl ?_
      refine e_iload aX9_comes_42 rfl ?_
      refine e_iload aX9_comes_44 rfl ?_
      refine e_iconst (v := 0) aX9_comes_46 (by decide) ?_
      refine e_invvV aX9_comes_47 kX9_183 (zX9_lays X F (n := n) ((S1.2 _ _ (fun z => absurd z.1 (by decide))).trans md.1) (by omega) _ _ _ _ _ _ _) rfl rfl (fx_is F rfl) (Nat.le_of_ble_eq_true rfl) (Nat.le_of_ble_eq_true rfl) (Nat.le_refl _) (Nat.le_refl _) (Nat.le_of_ble_eq_true rfl) ?_
      refine e_aload_n aX9_comes_50 rfl ?_
      refine e_invv aX9_comes_51 kX9_187 (zX9_isClashing X (h0 := (lyH h2 n (nI k9) (nI f1) (nI t1) (nI p1) (oI q1) (nI m1) 0)) F md2 mf2) rfl rfl (fx_is F rfl) (Nat.le_of_ble_eq_true rfl) (Nat.le_of_ble_eq_true rfl) (Nat.le_refl _) (Nat.le_refl _) (Nat.le_of_ble_eq_true rfl) ?_
      rintro v h3 ⟨rfl, z3⟩
      refine e_if_eq aX9_comes_54 (fun c54 => ?_) (fun c54 => ?_)
      · -- 54: taken
        have q54 := b2_0.mp c54
        have e : rfs (upD D n (dNo k9 f1 t1 p1 q1 m1)) (n + 1) (fo o f) (om f) = none := by
          cases e : rfs (upD D n (dNo k9 f1 t1 p1 q1 m1)) (n + 1) (fo o f) (om f) with
          | none => rfl
          | some s => exact absurd (by rw [e]; rfl) q54
        rw [e] at z3
        have F := Sf.F z3 F
        refine e_aload_n aX9_comes_73 rfl ?_
        refine e_getIF aX9_comes_74 fX9_89 rfl (fx_is F rfl) ((z3.2 _ _ (by unfold sc0; omega)).trans lyH_n) ?_
        refine e_iconst (v := 1) aX9_comes_77 (by decide) ?_
        refine e_isub aX9_comes_78 ?_
        refine e_top (nI_subN (a := n + 1) (b := 1) (by omega)) ?_
        rw [Nat.add_sub_cancel]
        refine e_ireturn aX9_comes_79 rfl (Nat.le_refl _) (Nat.le_refl _) ?_
        unfold cmQ comQ
        rw [if_neg (show ¬ dP (dNo k9 f1 t1 p1 q1 m1) / 3 < f from q8), if_neg q23, e]
        exact ⟨(S1.MB.tr lyH_S).tr z3.M0, fun i hi => (z3.2 _ _ (by unfold sc0; omega)).trans ((lyH_o hi).trans (S1.2 _ _ (fun z => absurd z.1 (by decide)))), (z3.2 _ _ (by unfold sc0; omega)).trans (lyH_b.trans (by rw [S1.2 _ _ (fun z => absurd z.1 (by decide))])), rfl, z3.md md2, (z3.2 _ _ (by unfold sc0; omega)).trans (lyH_c7.trans (S1.2 _ _ (fun z => absurd z.1 (by decide)))), fun i => (z3.2 _ _ (by unfold sc0; omega)).trans ((lyH_a (by decide) (by decide)).trans (S1.2 _ _ (fun z => absurd z.1 (by decide)))), fun i => (z3.2 _ _ (by unfold sc0; omega)).trans ((lyH_a (by decide) (by decide)).trans (S1.2 _ _ (fun z => absurd z.1 (by decide))))⟩
      · -- 54: not taken
        have q54 := Decidable.of_not_not (fun z => c54 (b2_0.mpr z))
        obtain ⟨s9, e⟩ := Option.isSome_iff_exists.mp q54
        rw [e] at z3
        obtain ⟨p9, hp9, z4, z5, z6, z7⟩ := z3
        have F := z4.F F
        refine e_aload_n aX9_comes_57 rfl ?_
        refine e_dup aX9_comes_58 rfl ?_
        refine e_getIF aX9_comes_59 fX9_89 rfl (fx_is F rfl) ((z4.2 _ _ (by unfold sc4; omega)).trans lyH_n) ?_
        refine e_iconst (v := 1) aX9_comes_62 (by decide) ?_
        refine e_isub aX9_comes_63 ?_
        refine e_top (nI_subN (a := n + 1) (b := 1) (by omega)) ?_
        rw [Nat.add_sub_cancel]
        refine e_putI aX9_comes_64 fX9_89 rfl (fx_is F rfl) (Or.inl rfl) ?_
        refine e_aload_n aX9_comes_67 rfl ?_
        refine e_iconst (v := 4) aX9_comes_68 (by decide) ?_
        refine e_invvT aX9_comes_69 kX9_128 (zX9_finds X (h := wI h3 109 4 (nI n)) F (k := 4) (by decide)) rfl rfl (fx_is F rfl) (Nat.le_of_ble_eq_true rfl) (Nat.le_of_ble_eq_true rfl) (Nat.le_refl _) (Nat.le_refl _) (Nat.le_of_ble_eq_true rfl) ?_
        refine e_ireturn aX9_comes_72 rfl (Nat.le_refl _) (Nat.le_refl _) ?_
        unfold cmQ comQ
        rw [if_neg (show ¬ dP (dNo k9 f1 t1 p1 q1 m1) / 3 < f from q8), if_neg q23, e]
        have S2 : Sf scM h0 (wI h3 109 4 (nI n)) := ((S1.MB.tr lyH_S).tr z4.M4).wI (Or.inr (Or.inr (Or.inr (Or.inr (Or.inr (Or.inr ⟨rfl, Or.inl rfl⟩))))))
        have a112 : ∀ i, i < 8 * n → hI h3 112 i = hI h0 112 i := fun i hi => (z4.2 _ _ (by unfold sc4; omega)).trans ((lyH_o hi).trans (S1.2 _ _ (fun z => absurd z.1 (by decide))))
        have a113 : ∀ i, i < 41 * n → hI h3 113 i = hI h0 113 i := fun i hi => (z4.2 _ _ (by unfold sc4; omega)).trans ((lyH_a (by decide) (by decide)).trans (S1.2 _ _ (fun z => by have := z.2.1; omega)))
        have a110 : ∀ i, hI h3 110 i = hI h0 110 i := fun i => (z4.2 _ _ (by unfold sc4; omega)).trans ((lyH_a (by decide) (by decide)).trans (S1.2 _ _ (fun z => absurd z.1 (by decide))))
        refine ⟨S2.wI (Or.inr (Or.inr (Or.inr (Or.inr (Or.inr (Or.inl rfl)))))), fun i hi => (wI_a (by decide)).trans ((wI_a (by decide)).trans (a112 i hi)), (wI_a (by decide)).trans ((wI_i (by decide)).trans ((z4.2 _ _ (by unfold sc4; omega)).trans (lyH_b.trans (by rw [S1.2 _ _ (fun z => absurd z.1 (by decide))])))), rfl, md.keep ((wI_a (by decide)).trans wI_s) (fun i hi => (wI_a (by decide)).trans ((wI_a (by decide)).trans (a112 i hi))) (fun i hi => (wI_a (by decide)).trans ((wI_a (by decide)).trans (a113 i hi))), ⟨p9, hp9, (wI_a (by decide)).trans ((wI_a (by decide)).trans z5), (wI_a (by decide)).trans ((wI_a (by decide)).trans z6), (wI_a (by decide)).trans ((wI_a (by decide)).trans z7)⟩, fun i => ?_⟩
        show hI (fdM (wI h3 109 4 (nI n)) 4) 110 i = hI (fdM h0 4) 110 i
        by_cases e : i = 4
        · subst e
          exact wI_s.trans ((congrArg (fun x => x + 1) ((wI_a (by decide)).trans (a110 4))).trans wI_s.symm)
        · exact (wI_i e).trans ((wI_a (by decide)).trans ((a110 i).trans (wI_i e).symm))
    · -- 23: not taken
      have q23 : 12 ≤ n := Nat.le_of_eq ((nI_eq (a := n) (b := 12) (by omega) (by decide)).mp c23).symm
      refine e_aload_n aX9_comes_26 rfl ?_
      refine e_iconst (v := 1) aX9_comes_27 (by decide) ?_
      refine e_invvT aX9_comes_28 kX9_128 (zX9_finds X F (k := 1) (by decide)) rfl rfl (fx_is F rfl) (Nat.le_of_ble_eq_true rfl) (Nat.le_of_ble_eq_true rfl) (Nat.le_refl _) (Nat.le_refl _) (Nat.le_of_ble_eq_true rfl) ?_
      refine e_ireturn aX9_comes_31 rfl (Nat.le_refl _) (Nat.le_refl _) ?_
      unfold cmQ
      rw [if_neg (show ¬ dP (dNo k9 f1 t1 p1 q1 m1) / 3 < f from q8), if_pos q23]
      exact ⟨rfl, rfl⟩
  · -- 8: not taken
    have q8 : p1 / 3 < f := (nI_ltI (by omega) (by omega)).mp (Int32.not_le.mp c8)
    refine e_aload_n aX9_comes_11 rfl ?_
    refine e_iconst (v := 3) aX9_comes_12 (by decide) ?_
    refine e_invvT aX9_comes_13 kX9_128 (zX9_finds X F (k := 3) (by decide)) rfl rfl (fx_is F rfl) (Nat.le_of_ble_eq_true rfl) (Nat.le_of_ble_eq_true rfl) (Nat.le_refl _) (Nat.le_refl _) (Nat.le_of_ble_eq_true rfl) ?_
    refine e_ireturn aX9_comes_16 rfl (Nat.le_refl _) (Nat.le_refl _) ?_
    unfold cmQ
    rw [if_pos (show dP (dNo k9 f1 t1 p1 q1 m1) / 3 < f from q8)]
    exact ⟨rfl, rfl⟩
