/-! the reference: piles (written by wip/whole/g64.py) -/
/-- image g of the pile of h is what h2 has -/
def ImE (h : HP) (g : Nat) (h2 : HP) : Prop := (∀ i, i < 96 → hI h 131 (96 * g + i) = hI h2 112 i) ∧ (∀ i, i < 492 → hI h 132 (492 * g + i) = hI h2 113 i) ∧ hI h 133 (10 * g) = hI h2 109 4 ∧ hI h 133 (10 * g + 1) = hI h2 109 1 ∧ hI h 133 (10 * g + 2) = hI h2 109 3 ∧ (∀ i, i < 4 → hI h 133 (10 * g + 3 + i) = hI h2 111 i) ∧ ∀ i, i < 3 → hI h 133 (10 * g + 7 + i) = hI h2 117 i
def scI (g a i : Nat) : Prop := (a = 131 ∧ 96 * g ≤ i ∧ i < 96 * g + 96) ∨ (a = 132 ∧ 492 * g ≤ i ∧ i < 492 * g + 492) ∨ (a = 133 ∧ 10 * g ≤ i ∧ i < 10 * g + 10) 
def scJ (g a i : Nat) : Prop := scI g a i ∨ (a = 109 ∧ i = 35)
def scK (a i : Nat) : Prop := a = 112 ∨ a = 113 ∨ a = 111 ∨ a = 117 ∨ (a = 109 ∧ (i = 1 ∨ i = 3 ∨ i = 4 ∨ i = 35))
theorem zX9_image (X : EX) {h0 : HP} (F0 : Fx h0) {g : Nat} (hg : hI h0 109 35 = nI g) (hg6 : g ≤ 6) : Ct X mX9_image 1 0 0 [vR (some 109)] h0 (if 6 ≤ g then RM h0 1 else (fun v h' => v = some (vI (nI (g + 1))) ∧ Sf (scJ g) h0 h' ∧ hI h' 109 35 = nI (g + 1) ∧ ImE h' g h0)) := by
  refine ct_of rfl (Nat.le_of_ble_eq_true rfl) ?_
  refine e_aload_n aX9_image_0 rfl ?_
  refine e_getIF aX9_image_1 fX9_365 rfl (fx_is F0 rfl) hg ?_
  refine e_bipush (v := 6) aX9_image_4 (by decide) ?_
  refine e_icmp_ne aX9_image_6 (fun c6 => ?_) (fun c6 => ?_)
  · -- 6: taken
    have q6 : ¬ g = 6 := fun z => c6 (by rw [z]; rfl)
    have hg5 : g < 6 := by omega
    rw [if_neg (show ¬ 6 ≤ g by omega)]
    have l4 : ∀ (m : Nat) (k : Nat) (hz : HP), k + m = 3 → Sf (scI g) h0 hz → (∀ i, i < 96 → hI hz 131 (96 * g + i) = hI h0 112 i) → (∀ i, i < 492 → hI hz 132 (492 * g + i) = hI h0 113 i) → hI hz 133 (10 * g) = hI h0 109 4 → hI hz 133 (10 * g + 1) = hI h0 109 1 → hI hz 133 (10 * g + 2) = hI h0 109 3 → (∀ i, i < 4 → hI hz 133 (10 * g + 3 + i) = hI h0 111 i) → (∀ i, i < k → hI hz 133 (10 * g + 7 + i) = hI h0 117 (i)) → Ev X mX9_image 1 0 0 (fun v h' => v = some (vI (nI (g + 1))) ∧ Sf (scJ g) h0 h' ∧ hI h' 109 35 = nI (g + 1) ∧ ImE h' g h0) 0 0 158 [(0, some (vR (some 109))), (1, some (vI (nI (10 * g)))), (2, some (vI (nI k)))] [] hz := by
      intro m
      induction m with
      | zero =>
        intro k hz hk S e1 e2 e3 e4 e5 e6 hK
        obtain rfl : k = 3 := by omega
        have F := S.F F0
        refine e_iload_n aX9_image_158 rfl ?_
        refine e_iconst (v := 3) aX9_image_159 (by decide) ?_
        refine e_icmp_ge aX9_image_160 (fun c160 => ?_) (fun c160 => ?_)
        · -- 160: taken
          refine e_aload_n aX9_image_186 rfl ?_
          refine e_dup aX9_image_187 rfl ?_
          refine e_getIF aX9_image_188 fX9_365 rfl (fx_is F rfl) ((S.2 _ _ (by unfold scI; omega)).trans hg) ?_
          refine e_iconst (v := 1) aX9_image_191 (by decide) ?_
          refine e_iadd aX9_image_192 ?_
          refine e_top (nI_1 g) ?_
          refine e_putI aX9_image_193 fX9_365 rfl (fx_is F rfl) (Or.inl rfl) ?_
          refine e_aload_n aX9_image_196 rfl ?_
          refine e_getIF aX9_image_197 fX9_365 rfl (fx_is F rfl) wI_s ?_
          refine e_ireturn aX9_image_200 rfl (Nat.le_refl _) (Nat.le_refl _) ?_
          exact ⟨rfl, (S.mono (fun _ _ q => Or.inl q)).wI (Or.inr ⟨rfl, rfl⟩), wI_s, fun i hi => (wI_a (by decide)).trans (e1 i hi), fun i hi => (wI_a (by decide)).trans (e2 i hi), (wI_a (by decide)).trans e3, (wI_a (by decide)).trans e4, (wI_a (by decide)).trans e5, fun i hi => (wI_a (by decide)).trans (e6 i hi), fun i hi => (wI_a (by decide)).trans (hK i hi)⟩
        · -- 160: not taken
          exact absurd (nI_le (a := 3) (b := 3) (by decide) (by decide)) c160
      | succ m ih =>
        intro k hz hk S e1 e2 e3 e4 e5 e6 hK
        have F := S.F F0
        refine e_iload_n aX9_image_158 rfl ?_
        refine e_iconst (v := 3) aX9_image_159 (by decide) ?_
        refine e_icmp_ge aX9_image_160 (fun c160 => ?_) (fun c160 => ?_)
        · -- 160: taken
          exact absurd c160 (nI_ge (a := k) (b := 3) (by omega) (by decide))
        · -- 160: not taken
          refine e_aload_n aX9_image_163 rfl ?_
          refine e_getRF aX9_image_164 fX9_86 rfl (fx_is F rfl) (fx_r (b := 133) F rfl) ?_
          refine e_iload_n aX9_image_167 rfl ?_
          refine e_bipush (v := 7) aX9_image_168 (by decide) ?_
          refine e_iadd aX9_image_170 ?_
          refine e_top (nI_add (10 * g) 7) ?_
          refine e_iload_n aX9_image_171 rfl ?_
          refine e_iadd aX9_image_172 ?_
          refine e_top (nI_add (10 * g + 7) k) ?_
          refine e_aload_n aX9_image_173 rfl ?_
          refine e_getRF aX9_image_174 fX9_35 rfl (fx_is F rfl) (fx_r (b := 117) F rfl) ?_
          refine e_iload_n aX9_image_177 rfl ?_
          refine e_ialoadF aX9_image_178 (fx_is F rfl) (fx_n (n := 3) F rfl) (vin (N := 3) (by omega)) (show hI hz 117 (nI (k)).toNatClampNeg = hI h0 117 (k) by rw [cl (n := k) (by omega)]; exact S.2 _ _ (by unfold scI; omega)) ?_
          refine e_iastoreF aX9_image_179 (fx_is F rfl) (fx_n (n := 60) F rfl) (vin (N := 60) (by omega)) ?_
          rw [cl (n := 10 * g + 7 + k) (by omega)]
          refine e_iinc aX9_image_180 rfl rfl (Nat.le_of_ble_eq_true rfl) ?_
          refine e_goto aX9_image_183 ?_
          refine e_ls (ls' := [(0, some (vR (some 109))), (1, some (vI (nI (10 * g)))), (2, some (vI (nI (k + 1))))]) ⟨rfl, rfl, congrArg (fun x => some (vI x)) (nI_1 k), trivial⟩ ?_
          refine ih (k + 1) _ (by omega) (S.wI (by unfold scI; omega)) (fun i hi => (wI_a (by decide)).trans (e1 i hi)) (fun i hi => (wI_a (by decide)).trans (e2 i hi)) ((wI_i (by omega)).trans e3) ((wI_i (by omega)).trans e4) ((wI_i (by omega)).trans e5) (fun i hi => (wI_i (by omega)).trans (e6 i hi)) (fun i hi => ?_)
          by_cases e : i = k
          · subst e; exact wI_s
          · exact (wI_i (by omega)).trans (hK i (by omega))
    have l3 : ∀ (m : Nat) (k : Nat) (hz : HP), k + m = 4 → Sf (scI g) h0 hz → (∀ i, i < 96 → hI hz 131 (96 * g + i) = hI h0 112 i) → (∀ i, i < 492 → hI hz 132 (492 * g + i) = hI h0 113 i) → hI hz 133 (10 * g) = hI h0 109 4 → hI hz 133 (10 * g + 1) = hI h0 109 1 → hI hz 133 (10 * g + 2) = hI h0 109 3 → (∀ i, i < k → hI hz 133 (10 * g + 3 + i) = hI h0 111 (i)) → Ev X mX9_image 1 0 0 (fun v h' => v = some (vI (nI (g + 1))) ∧ Sf (scJ g) h0 h' ∧ hI h' 109 35 = nI (g + 1) ∧ ImE h' g h0) 0 0 129 [(0, some (vR (some 109))), (1, some (vI (nI (10 * g)))), (2, some (vI (nI k)))] [] hz := by
      intro m
      induction m with
      | zero =>
        intro k hz hk S e1 e2 e3 e4 e5 hK
        obtain rfl : k = 4 := by omega
        have F := S.F F0
        refine e_iload_n aX9_image_129 rfl ?_
        refine e_iconst (v := 4) aX9_image_130 (by decide) ?_
        refine e_icmp_ge aX9_image_131 (fun c131 => ?_) (fun c131 => ?_)
        · -- 131: taken
          refine e_iconst (v := 0) aX9_image_156 (by decide) ?_
          refine e_istore_n aX9_image_157 (Nat.le_of_ble_eq_true rfl) ?_
          refine e_ls (ls' := [(0, some (vR (some 109))), (1, some (vI (nI (10 * g)))), (2, some (vI (nI 0)))]) ⟨rfl, rfl, rfl, trivial⟩ ?_
          exact l4 3 0 hz rfl S e1 e2 e3 e4 e5 hK (fun i hi => absurd hi (Nat.not_lt_zero i))
        · -- 131: not taken
          exact absurd (nI_le (a := 4) (b := 4) (by decide) (by decide)) c131
      | succ m ih =>
        intro k hz hk S e1 e2 e3 e4 e5 hK
        have F := S.F F0
        refine e_iload_n aX9_image_129 rfl ?_
        refine e_iconst (v := 4) aX9_image_130 (by decide) ?_
        refine e_icmp_ge aX9_image_131 (fun c131 => ?_) (fun c131 => ?_)
        · -- 131: taken
          exact absurd c131 (nI_ge (a := k) (b := 4) (by omega) (by decide))
        · -- 131: not taken
          refine e_aload_n aX9_image_134 rfl ?_
          refine e_getRF aX9_image_135 fX9_86 rfl (fx_is F rfl) (fx_r (b := 133) F rfl) ?_
          refine e_iload_n aX9_image_138 rfl ?_
          refine e_iconst (v := 3) aX9_image_139 (by decide) ?_
          refine e_iadd aX9_image_140 ?_
          refine e_top (nI_add (10 * g) 3) ?_
          refine e_iload_n aX9_image_141 rfl ?_
          refine e_iadd aX9_image_142 ?_
          refine e_top (nI_add (10 * g + 3) k) ?_
          refine e_aload_n aX9_image_143 rfl ?_
          refine e_getRF aX9_image_144 fX9_13 rfl (fx_is F rfl) (fx_r (b := 111) F rfl) ?_
          refine e_iload_n aX9_image_147 rfl ?_
          refine e_ialoadF aX9_image_148 (fx_is F rfl) (fx_n (n := 4) F rfl) (vin (N := 4) (by omega)) (show hI hz 111 (nI (k)).toNatClampNeg = hI h0 111 (k) by rw [cl (n := k) (by omega)]; exact S.2 _ _ (by unfold scI; omega)) ?_
          refine e_iastoreF aX9_image_149 (fx_is F rfl) (fx_n (n := 60) F rfl) (vin (N := 60) (by omega)) ?_
          rw [cl (n := 10 * g + 3 + k) (by omega)]
          refine e_iinc aX9_image_150 rfl rfl (Nat.le_of_ble_eq_true rfl) ?_
          refine e_goto aX9_image_153 ?_
          refine e_ls (ls' := [(0, some (vR (some 109))), (1, some (vI (nI (10 * g)))), (2, some (vI (nI (k + 1))))]) ⟨rfl, rfl, congrArg (fun x => some (vI x)) (nI_1 k), trivial⟩ ?_
          refine ih (k + 1) _ (by omega) (S.wI (by unfold scI; omega)) (fun i hi => (wI_a (by decide)).trans (e1 i hi)) (fun i hi => (wI_a (by decide)).trans (e2 i hi)) ((wI_i (by omega)).trans e3) ((wI_i (by omega)).trans e4) ((wI_i (by omega)).trans e5) (fun i hi => ?_)
          by_cases e : i = k
          · subst e; exact wI_s
          · exact (wI_i (by omega)).trans (hK i (by omega))
    have l2 : ∀ (m : Nat) (k : Nat) (hz : HP), k + m = 492 → Sf (scI g) h0 hz → (∀ i, i < 96 → hI hz 131 (96 * g + i) = hI h0 112 i) → (∀ i, i < k → hI hz 132 (492 * g + i) = hI h0 113 (i)) → Ev X mX9_image 1 0 0 (fun v h' => v = some (vI (nI (g + 1))) ∧ Sf (scJ g) h0 h' ∧ hI h' 109 35 = nI (g + 1) ∧ ImE h' g h0) 0 0 51 [(0, some (vR (some 109))), (1, some (vI (nI k)))] [] hz := by
      intro m
      induction m with
      | zero =>
        intro k hz hk S e1 hK
        obtain rfl : k = 492 := by omega
        have F := S.F F0
        refine e_iload_n aX9_image_51 rfl ?_
        refine e_sipush (v := 492) aX9_image_52 (by decide) ?_
        refine e_icmp_ge aX9_image_55 (fun c55 => ?_) (fun c55 => ?_)
        · -- 55: taken
          refine e_bipush (v := 10) aX9_image_85 (by decide) ?_
          refine e_aload_n aX9_image_87 rfl ?_
          refine e_getIF aX9_image_88 fX9_365 rfl (fx_is F rfl) ((S.2 _ _ (by unfold scI; omega)).trans hg) ?_
          refine e_imul aX9_image_91 ?_
          refine e_top (nI_mul 10 g) ?_
          refine e_istore_n aX9_image_92 (Nat.le_of_ble_eq_true rfl) ?_
          refine e_aload_n aX9_image_93 rfl ?_
          refine e_getRF aX9_image_94 fX9_86 rfl (fx_is F rfl) (fx_r (b := 133) F rfl) ?_
          refine e_iload_n aX9_image_97 rfl ?_
          refine e_aload_n aX9_image_98 rfl ?_
          refine e_getIF aX9_image_99 fX9_89 rfl (fx_is F rfl) (S.2 109 4 (by unfold scI; omega)) ?_
          refine e_iastoreF aX9_image_102 (fx_is F rfl) (fx_n (n := 60) F rfl) (vin (N := 60) (by omega)) ?_
          rw [cl (n := 10 * g) (by omega)]
          refine e_aload_n aX9_image_103 rfl ?_
          refine e_getRF aX9_image_104 fX9_86 rfl (fx_is F rfl) (fx_r (b := 133) F rfl) ?_
          refine e_iload_n aX9_image_107 rfl ?_
          refine e_iconst (v := 1) aX9_image_108 (by decide) ?_
          refine e_iadd aX9_image_109 ?_
          refine e_top (nI_1 (10 * g)) ?_
          refine e_aload_n aX9_image_110 rfl ?_
          refine e_getIF aX9_image_111 fX9_116 rfl (fx_is F rfl) ((wI_a (by decide)).trans (S.2 109 1 (by unfold scI; omega))) ?_
          refine e_iastoreF aX9_image_114 (fx_is F rfl) (fx_n (n := 60) F rfl) (vin (N := 60) (by omega)) ?_
          rw [cl (n := 10 * g + 1) (by omega)]
          refine e_aload_n aX9_image_115 rfl ?_
          refine e_getRF aX9_image_116 fX9_86 rfl (fx_is F rfl) (fx_r (b := 133) F rfl) ?_
          refine e_iload_n aX9_image_119 rfl ?_
          refine e_iconst (v := 2) aX9_image_120 (by decide) ?_
          refine e_iadd aX9_image_121 ?_
          refine e_top (nI_add (10 * g) 2) ?_
          refine e_aload_n aX9_image_122 rfl ?_
          refine e_getIF aX9_image_123 fX9_16 rfl (fx_is F rfl) ((wI_a (by decide)).trans ((wI_a (by decide)).trans (S.2 109 3 (by unfold scI; omega)))) ?_
          refine e_iastoreF aX9_image_126 (fx_is F rfl) (fx_n (n := 60) F rfl) (vin (N := 60) (by omega)) ?_
          rw [cl (n := 10 * g + 2) (by omega)]
          refine e_iconst (v := 0) aX9_image_127 (by decide) ?_
          refine e_istore_n aX9_image_128 (Nat.le_of_ble_eq_true rfl) ?_
          refine e_ls (ls' := [(0, some (vR (some 109))), (1, some (vI (nI (10 * g)))), (2, some (vI (nI 0)))]) ⟨rfl, rfl, rfl, trivial⟩ ?_
          refine l3 4 0 _ rfl (((S.wI (by unfold scI; omega)).wI (by unfold scI; omega)).wI (by unfold scI; omega)) (fun i hi => (wI_a (by decide)).trans ((wI_a (by decide)).trans ((wI_a (by decide)).trans (e1 i hi)))) (fun i hi => (wI_a (by decide)).trans ((wI_a (by decide)).trans ((wI_a (by decide)).trans (hK i hi)))) ((wI_i (by omega)).trans ((wI_i (by omega)).trans wI_s)) ((wI_i (by omega)).trans wI_s) wI_s (fun i hi => absurd hi (Nat.not_lt_zero i))
        · -- 55: not taken
          exact absurd (nI_le (a := 492) (b := 492) (by decide) (by decide)) c55
      | succ m ih =>
        intro k hz hk S e1 hK
        have F := S.F F0
        refine e_iload_n aX9_image_51 rfl ?_
        refine e_sipush (v := 492) aX9_image_52 (by decide) ?_
        refine e_icmp_ge aX9_image_55 (fun c55 => ?_) (fun c55 => ?_)
        · -- 55: taken
          exact absurd c55 (nI_ge (a := k) (b := 492) (by omega) (by decide))
        · -- 55: not taken
          refine e_aload_n aX9_image_58 rfl ?_
          refine e_getRF aX9_image_59 fX9_83 rfl (fx_is F rfl) (fx_r (b := 132) F rfl) ?_
          refine e_sipush (v := 492) aX9_image_62 (by decide) ?_
          refine e_aload_n aX9_image_65 rfl ?_
          refine e_getIF aX9_image_66 fX9_365 rfl (fx_is F rfl) ((S.2 _ _ (by unfold scI; omega)).trans hg) ?_
          refine e_imul aX9_image_69 ?_
          refine e_top (nI_mul 492 g) ?_
          refine e_iload_n aX9_image_70 rfl ?_
          refine e_iadd aX9_image_71 ?_
          refine e_top (nI_add (492 * g) k) ?_
          refine e_aload_n aX9_image_72 rfl ?_
          refine e_getRF aX9_image_73 fX9_23 rfl (fx_is F rfl) (fx_r (b := 113) F rfl) ?_
          refine e_iload_n aX9_image_76 rfl ?_
          refine e_ialoadF aX9_image_77 (fx_is F rfl) (fx_n (n := 492) F rfl) (vin (N := 492) (by omega)) (show hI hz 113 (nI (k)).toNatClampNeg = hI h0 113 (k) by rw [cl (n := k) (by omega)]; exact S.2 _ _ (by unfold scI; omega)) ?_
          refine e_iastoreF aX9_image_78 (fx_is F rfl) (fx_n (n := 2952) F rfl) (vin (N := 2952) (by omega)) ?_
          rw [cl (n := 492 * g + k) (by omega)]
          refine e_iinc aX9_image_79 rfl rfl (Nat.le_of_ble_eq_true rfl) ?_
          refine e_goto aX9_image_82 ?_
          refine e_ls (ls' := [(0, some (vR (some 109))), (1, some (vI (nI (k + 1))))]) ⟨rfl, congrArg (fun x => some (vI x)) (nI_1 k), trivial⟩ ?_
          refine ih (k + 1) _ (by omega) (S.wI (by unfold scI; omega)) (fun i hi => (wI_a (by decide)).trans (e1 i hi)) (fun i hi => ?_)
          by_cases e : i = k
          · subst e; exact wI_s
          · exact (wI_i (by omega)).trans (hK i (by omega))
    have l1 : ∀ (m : Nat) (k : Nat) (hz : HP), k + m = 96 → Sf (scI g) h0 hz → (∀ i, i < k → hI hz 131 (96 * g + i) = hI h0 112 (i)) → Ev X mX9_image 1 0 0 (fun v h' => v = some (vI (nI (g + 1))) ∧ Sf (scJ g) h0 h' ∧ hI h' 109 35 = nI (g + 1) ∧ ImE h' g h0) 0 0 17 [(0, some (vR (some 109))), (1, some (vI (nI k)))] [] hz := by
      intro m
      induction m with
      | zero =>
        intro k hz hk S  hK
        obtain rfl : k = 96 := by omega
        have F := S.F F0
        refine e_iload_n aX9_image_17 rfl ?_
        refine e_bipush (v := 96) aX9_image_18 (by decide) ?_
        refine e_icmp_ge aX9_image_20 (fun c20 => ?_) (fun c20 => ?_)
        · -- 20: taken
          refine e_iconst (v := 0) aX9_image_49 (by decide) ?_
          refine e_istore_n aX9_image_50 (Nat.le_of_ble_eq_true rfl) ?_
          refine e_ls (ls' := [(0, some (vR (some 109))), (1, some (vI (nI 0)))]) ⟨rfl, rfl, trivial⟩ ?_
          exact l2 492 0 hz rfl S hK (fun i hi => absurd hi (Nat.not_lt_zero i))
        · -- 20: not taken
          exact absurd (nI_le (a := 96) (b := 96) (by decide) (by decide)) c20
      | succ m ih =>
        intro k hz hk S  hK
        have F := S.F F0
        refine e_iload_n aX9_image_17 rfl ?_
        refine e_bipush (v := 96) aX9_image_18 (by decide) ?_
        refine e_icmp_ge aX9_image_20 (fun c20 => ?_) (fun c20 => ?_)
        · -- 20: taken
          exact absurd c20 (nI_ge (a := k) (b := 96) (by omega) (by decide))
        · -- 20: not taken
          refine e_aload_n aX9_image_23 rfl ?_
          refine e_getRF aX9_image_24 fX9_80 rfl (fx_is F rfl) (fx_r (b := 131) F rfl) ?_
          refine e_bipush (v := 96) aX9_image_27 (by decide) ?_
          refine e_aload_n aX9_image_29 rfl ?_
          refine e_getIF aX9_image_30 fX9_365 rfl (fx_is F rfl) ((S.2 _ _ (by unfold scI; omega)).trans hg) ?_
          refine e_imul aX9_image_33 ?_
          refine e_top (nI_mul 96 g) ?_
          refine e_iload_n aX9_image_34 rfl ?_
          refine e_iadd aX9_image_35 ?_
          refine e_top (nI_add (96 * g) k) ?_
          refine e_aload_n aX9_image_36 rfl ?_
          refine e_getRF aX9_image_37 fX9_20 rfl (fx_is F rfl) (fx_r (b := 112) F rfl) ?_
          refine e_iload_n aX9_image_40 rfl ?_
          refine e_ialoadF aX9_image_41 (fx_is F rfl) (fx_n (n := 96) F rfl) (vin (N := 96) (by omega)) (show hI hz 112 (nI (k)).toNatClampNeg = hI h0 112 (k) by rw [cl (n := k) (by omega)]; exact S.2 _ _ (by unfold scI; omega)) ?_
          refine e_iastoreF aX9_image_42 (fx_is F rfl) (fx_n (n := 576) F rfl) (vin (N := 576) (by omega)) ?_
          rw [cl (n := 96 * g + k) (by omega)]
          refine e_iinc aX9_image_43 rfl rfl (Nat.le_of_ble_eq_true rfl) ?_
          refine e_goto aX9_image_46 ?_
          refine e_ls (ls' := [(0, some (vR (some 109))), (1, some (vI (nI (k + 1))))]) ⟨rfl, congrArg (fun x => some (vI x)) (nI_1 k), trivial⟩ ?_
          refine ih (k + 1) _ (by omega) (S.wI (by unfold scI; omega))  (fun i hi => ?_)
          by_cases e : i = k
          · subst e; exact wI_s
          · exact (wI_i (by omega)).trans (hK i (by omega))
    refine e_iconst (v := 0) aX9_image_15 (by decide) ?_
    refine e_istore_n aX9_image_16 (Nat.le_of_ble_eq_true rfl) ?_
    refine e_ls (ls' := [(0, some (vR (some 109))), (1, some (vI (nI 0)))]) ⟨rfl, rfl, trivial⟩ ?_
    exact l1 96 0 h0 rfl (Sf.rf h0) (fun i hi => absurd hi (Nat.not_lt_zero i))
  · -- 6: not taken
    have q6 : g = 6 := (nI_eq (b := 6) (by omega) (by decide)).mp c6
    refine e_aload_n aX9_image_9 rfl ?_
    refine e_iconst (v := 1) aX9_image_10 (by decide) ?_
    refine e_invvT aX9_image_11 kX9_128 (zX9_finds X F0 (k := 1) (by decide)) rfl rfl (fx_is F0 rfl) (Nat.le_of_ble_eq_true rfl) (Nat.le_of_ble_eq_true rfl) (Nat.le_refl _) (Nat.le_refl _) (Nat.le_of_ble_eq_true rfl) ?_
    refine e_ireturn aX9_image_14 rfl (Nat.le_refl _) (Nat.le_refl _) ?_
    rw [if_pos (show 6 ≤ g by omega)]
    exact ⟨rfl, rfl⟩
theorem zX9_back (X : EX) {h0 : HP} (F0 : Fx h0) {G : Nat} (hg : hI h0 109 35 = nI G) (hg6 : G ≤ 6) : Ct X mX9_back 1 0 0 [vR (some 109)] h0 (if G = 0 then RM h0 3 else (fun v h' => v = some (vI (hI h0 133 (10 * (G - 1)))) ∧ Sf scK h0 h' ∧ hI h' 109 35 = nI (G - 1) ∧ ImE h0 (G - 1) h')) := by
  refine ct_of rfl (Nat.le_of_ble_eq_true rfl) ?_
  refine e_aload_n aX9_back_0 rfl ?_
  refine e_getIF aX9_back_1 fX9_365 rfl (fx_is F0 rfl) hg ?_
  refine e_if_ne aX9_back_4 (fun c4 => ?_) (fun c4 => ?_)
  · -- 4: taken
    have q4 : ¬ G = 0 := fun z => c4 (by rw [z]; rfl)
    rw [if_neg q4]
    obtain ⟨g, rfl⟩ : ∃ g, G = g + 1 := ⟨G - 1, by omega⟩
    rw [Nat.add_sub_cancel]
    have l4 : ∀ (m : Nat) (k : Nat) (hz : HP), k + m = 3 → Sf (scK) h0 hz → hI hz 109 35 = nI g → (∀ i, i < 96 → hI hz 112 i = hI h0 131 (96 * g + i)) → (∀ i, i < 492 → hI hz 113 i = hI h0 132 (492 * g + i)) → hI hz 109 4 = hI h0 133 (10 * g) → hI hz 109 1 = hI h0 133 (10 * g + 1) → hI hz 109 3 = hI h0 133 (10 * g + 2) → (∀ i, i < 4 → hI hz 111 i = hI h0 133 (10 * g + 3 + i)) → (∀ i, i < k → hI hz 117 i = hI h0 133 (10 * g + 7 + i)) → Ev X mX9_back 1 0 0 (fun v h' => v = some (vI (hI h0 133 (10 * g))) ∧ Sf scK h0 h' ∧ hI h' 109 35 = nI g ∧ ImE h0 g h') 0 0 166 [(0, some (vR (some 109))), (1, some (vI (nI (10 * g)))), (2, some (vI (nI k)))] [] hz := by
      intro m
      induction m with
      | zero =>
        intro k hz hk S hp b1 b2 b3 b4 b5 b6 hK
        obtain rfl : k = 3 := by omega
        have F := S.F F0
        refine e_iload_n aX9_back_166 rfl ?_
        refine e_iconst (v := 3) aX9_back_167 (by decide) ?_
        refine e_icmp_ge aX9_back_168 (fun c168 => ?_) (fun c168 => ?_)
        · -- 168: taken
          refine e_aload_n aX9_back_194 rfl ?_
          refine e_getIF aX9_back_195 fX9_89 rfl (fx_is F rfl) b3 ?_
          refine e_ireturn aX9_back_198 rfl (Nat.le_refl _) (Nat.le_refl _) ?_
          exact ⟨rfl, S, hp, fun i hi => (b1 i hi).symm, fun i hi => (b2 i hi).symm, b3.symm, b4.symm, b5.symm, fun i hi => (b6 i hi).symm, fun i hi => (hK i hi).symm⟩
        · -- 168: not taken
          exact absurd (nI_le (a := 3) (b := 3) (by decide) (by decide)) c168
      | succ m ih =>
        intro k hz hk S hp b1 b2 b3 b4 b5 b6 hK
        have F := S.F F0
        refine e_iload_n aX9_back_166 rfl ?_
        refine e_iconst (v := 3) aX9_back_167 (by decide) ?_
        refine e_icmp_ge aX9_back_168 (fun c168 => ?_) (fun c168 => ?_)
        · -- 168: taken
          exact absurd c168 (nI_ge (a := k) (b := 3) (by omega) (by decide))
        · -- 168: not taken
          refine e_aload_n aX9_back_171 rfl ?_
          refine e_getRF aX9_back_172 fX9_35 rfl (fx_is F rfl) (fx_r (b := 117) F rfl) ?_
          refine e_iload_n aX9_back_175 rfl ?_
          refine e_aload_n aX9_back_176 rfl ?_
          refine e_getRF aX9_back_177 fX9_86 rfl (fx_is F rfl) (fx_r (b := 133) F rfl) ?_
          refine e_iload_n aX9_back_180 rfl ?_
          refine e_bipush (v := 7) aX9_back_181 (by decide) ?_
          refine e_iadd aX9_back_183 ?_
          refine e_top (nI_add (10 * g) 7) ?_
          refine e_iload_n aX9_back_184 rfl ?_
          refine e_iadd aX9_back_185 ?_
          refine e_top (nI_add (10 * g + 7) k) ?_
          refine e_ialoadF aX9_back_186 (fx_is F rfl) (fx_n (n := 60) F rfl) (vin (N := 60) (by omega)) (show hI hz 133 (nI (10 * g + 7 + k)).toNatClampNeg = hI h0 133 (10 * g + 7 + k) by rw [cl (n := 10 * g + 7 + k) (by omega)]; exact S.2 _ _ (by unfold scK; omega)) ?_
          refine e_iastoreF aX9_back_187 (fx_is F rfl) (fx_n (n := 3) F rfl) (vin (N := 3) (by omega)) ?_
          rw [cl (n := k) (by omega)]
          refine e_iinc aX9_back_188 rfl rfl (Nat.le_of_ble_eq_true rfl) ?_
          refine e_goto aX9_back_191 ?_
          refine e_ls (ls' := [(0, some (vR (some 109))), (1, some (vI (nI (10 * g)))), (2, some (vI (nI (k + 1))))]) ⟨rfl, rfl, congrArg (fun x => some (vI x)) (nI_1 k), trivial⟩ ?_
          refine ih (k + 1) _ (by omega) (S.wI (by unfold scK; omega)) ((wI_a (by decide)).trans hp) (fun i hi => (wI_a (by decide)).trans (b1 i hi)) (fun i hi => (wI_a (by decide)).trans (b2 i hi)) ((wI_a (by decide)).trans b3) ((wI_a (by decide)).trans b4) ((wI_a (by decide)).trans b5) (fun i hi => (wI_a (by decide)).trans (b6 i hi)) (fun i hi => ?_)
          by_cases e : i = k
          · subst e; exact wI_s
          · exact (wI_i (by omega)).trans (hK i (by omega))
    have l3 : ∀ (m : Nat) (k : Nat) (hz : HP), k + m = 4 → Sf (scK) h0 hz → hI hz 109 35 = nI g → (∀ i, i < 96 → hI hz 112 i = hI h0 131 (96 * g + i)) → (∀ i, i < 492 → hI hz 113 i = hI h0 132 (492 * g + i)) → hI hz 109 4 = hI h0 133 (10 * g) → hI hz 109 1 = hI h0 133 (10 * g + 1) → hI hz 109 3 = hI h0 133 (10 * g + 2) → (∀ i, i < k → hI hz 111 i = hI h0 133 (10 * g + 3 + i)) → Ev X mX9_back 1 0 0 (fun v h' => v = some (vI (hI h0 133 (10 * g))) ∧ Sf scK h0 h' ∧ hI h' 109 35 = nI g ∧ ImE h0 g h') 0 0 137 [(0, some (vR (some 109))), (1, some (vI (nI (10 * g)))), (2, some (vI (nI k)))] [] hz := by
      intro m
      induction m with
      | zero =>
        intro k hz hk S hp b1 b2 b3 b4 b5 hK
        obtain rfl : k = 4 := by omega
        have F := S.F F0
        refine e_iload_n aX9_back_137 rfl ?_
        refine e_iconst (v := 4) aX9_back_138 (by decide) ?_
        refine e_icmp_ge aX9_back_139 (fun c139 => ?_) (fun c139 => ?_)
        · -- 139: taken
          refine e_iconst (v := 0) aX9_back_164 (by decide) ?_
          refine e_istore_n aX9_back_165 (Nat.le_of_ble_eq_true rfl) ?_
          refine e_ls (ls' := [(0, some (vR (some 109))), (1, some (vI (nI (10 * g)))), (2, some (vI (nI 0)))]) ⟨rfl, rfl, rfl, trivial⟩ ?_
          exact l4 3 0 hz rfl S hp b1 b2 b3 b4 b5 hK (fun i hi => absurd hi (Nat.not_lt_zero i))
        · -- 139: not taken
          exact absurd (nI_le (a := 4) (b := 4) (by decide) (by decide)) c139
      | succ m ih =>
        intro k hz hk S hp b1 b2 b3 b4 b5 hK
        have F := S.F F0
        refine e_iload_n aX9_back_137 rfl ?_
        refine e_iconst (v := 4) aX9_back_138 (by decide) ?_
        refine e_icmp_ge aX9_back_139 (fun c139 => ?_) (fun c139 => ?_)
        · -- 139: taken
          exact absurd c139 (nI_ge (a := k) (b := 4) (by omega) (by decide))
        · -- 139: not taken
          refine e_aload_n aX9_back_142 rfl ?_
          refine e_getRF aX9_back_143 fX9_13 rfl (fx_is F rfl) (fx_r (b := 111) F rfl) ?_
          refine e_iload_n aX9_back_146 rfl ?_
          refine e_aload_n aX9_back_147 rfl ?_
          refine e_getRF aX9_back_148 fX9_86 rfl (fx_is F rfl) (fx_r (b := 133) F rfl) ?_
          refine e_iload_n aX9_back_151 rfl ?_
          refine e_iconst (v := 3) aX9_back_152 (by decide) ?_
          refine e_iadd aX9_back_153 ?_
          refine e_top (nI_add (10 * g) 3) ?_
          refine e_iload_n aX9_back_154 rfl ?_
          refine e_iadd aX9_back_155 ?_
          refine e_top (nI_add (10 * g + 3) k) ?_
          refine e_ialoadF aX9_back_156 (fx_is F rfl) (fx_n (n := 60) F rfl) (vin (N := 60) (by omega)) (show hI hz 133 (nI (10 * g + 3 + k)).toNatClampNeg = hI h0 133 (10 * g + 3 + k) by rw [cl (n := 10 * g + 3 + k) (by omega)]; exact S.2 _ _ (by unfold scK; omega)) ?_
          refine e_iastoreF aX9_back_157 (fx_is F rfl) (fx_n (n := 4) F rfl) (vin (N := 4) (by omega)) ?_
          rw [cl (n := k) (by omega)]
          refine e_iinc aX9_back_158 rfl rfl (Nat.le_of_ble_eq_true rfl) ?_
          refine e_goto aX9_back_161 ?_
          refine e_ls (ls' := [(0, some (vR (some 109))), (1, some (vI (nI (10 * g)))), (2, some (vI (nI (k + 1))))]) ⟨rfl, rfl, congrArg (fun x => some (vI x)) (nI_1 k), trivial⟩ ?_
          refine ih (k + 1) _ (by omega) (S.wI (by unfold scK; omega)) ((wI_a (by decide)).trans hp) (fun i hi => (wI_a (by decide)).trans (b1 i hi)) (fun i hi => (wI_a (by decide)).trans (b2 i hi)) ((wI_a (by decide)).trans b3) ((wI_a (by decide)).trans b4) ((wI_a (by decide)).trans b5) (fun i hi => ?_)
          by_cases e : i = k
          · subst e; exact wI_s
          · exact (wI_i (by omega)).trans (hK i (by omega))
    have l2 : ∀ (m : Nat) (k : Nat) (hz : HP), k + m = 492 → Sf (scK) h0 hz → hI hz 109 35 = nI g → (∀ i, i < 96 → hI hz 112 i = hI h0 131 (96 * g + i)) → (∀ i, i < k → hI hz 113 i = hI h0 132 (492 * g + i)) → Ev X mX9_back 1 0 0 (fun v h' => v = some (vI (hI h0 133 (10 * g))) ∧ Sf scK h0 h' ∧ hI h' 109 35 = nI g ∧ ImE h0 g h') 0 0 59 [(0, some (vR (some 109))), (1, some (vI (nI k)))] [] hz := by
      intro m
      induction m with
      | zero =>
        intro k hz hk S hp b1 hK
        obtain rfl : k = 492 := by omega
        have F := S.F F0
        refine e_iload_n aX9_back_59 rfl ?_
        refine e_sipush (v := 492) aX9_back_60 (by decide) ?_
        refine e_icmp_ge aX9_back_63 (fun c63 => ?_) (fun c63 => ?_)
        · -- 63: taken
          refine e_bipush (v := 10) aX9_back_93 (by decide) ?_
          refine e_aload_n aX9_back_95 rfl ?_
          refine e_getIF aX9_back_96 fX9_365 rfl (fx_is F rfl) hp ?_
          refine e_imul aX9_back_99 ?_
          refine e_top (nI_mul 10 g) ?_
          refine e_istore_n aX9_back_100 (Nat.le_of_ble_eq_true rfl) ?_
          refine e_aload_n aX9_back_101 rfl ?_
          refine e_aload_n aX9_back_102 rfl ?_
          refine e_getRF aX9_back_103 fX9_86 rfl (fx_is F rfl) (fx_r (b := 133) F rfl) ?_
          refine e_iload_n aX9_back_106 rfl ?_
          refine e_ialoadF aX9_back_107 (fx_is F rfl) (fx_n (n := 60) F rfl) (vin (N := 60) (by omega)) (show hI hz 133 (nI (10 * g)).toNatClampNeg = hI h0 133 (10 * g) by rw [cl (n := 10 * g) (by omega)]; exact S.2 _ _ (by unfold scK; omega)) ?_
          refine e_putI aX9_back_108 fX9_89 rfl (fx_is F rfl) (Or.inl rfl) ?_
          refine e_aload_n aX9_back_111 rfl ?_
          refine e_aload_n aX9_back_112 rfl ?_
          refine e_getRF aX9_back_113 fX9_86 rfl (fx_is F rfl) (fx_r (b := 133) F rfl) ?_
          refine e_iload_n aX9_back_116 rfl ?_
          refine e_iconst (v := 1) aX9_back_117 (by decide) ?_
          refine e_iadd aX9_back_118 ?_
          refine e_top (nI_1 (10 * g)) ?_
          refine e_ialoadF aX9_back_119 (fx_is F rfl) (fx_n (n := 60) F rfl) (vin (N := 60) (by omega)) (show hI (wI hz 109 4 (hI h0 133 (10 * g))) 133 (nI (10 * g + 1)).toNatClampNeg = hI h0 133 (10 * g + 1) by rw [cl (n := 10 * g + 1) (by omega)]; exact (wI_a (by decide)).trans (S.2 _ _ (by unfold scK; omega))) ?_
          refine e_putI aX9_back_120 fX9_116 rfl (fx_is F rfl) (Or.inl rfl) ?_
          refine e_aload_n aX9_back_123 rfl ?_
          refine e_aload_n aX9_back_124 rfl ?_
          refine e_getRF aX9_back_125 fX9_86 rfl (fx_is F rfl) (fx_r (b := 133) F rfl) ?_
          refine e_iload_n aX9_back_128 rfl ?_
          refine e_iconst (v := 2) aX9_back_129 (by decide) ?_
          refine e_iadd aX9_back_130 ?_
          refine e_top (nI_add (10 * g) 2) ?_
          refine e_ialoadF aX9_back_131 (fx_is F rfl) (fx_n (n := 60) F rfl) (vin (N := 60) (by omega)) (show hI (wI (wI hz 109 4 (hI h0 133 (10 * g))) 109 1 (hI h0 133 (10 * g + 1))) 133 (nI (10 * g + 2)).toNatClampNeg = hI h0 133 (10 * g + 2) by rw [cl (n := 10 * g + 2) (by omega)]; exact (wI_a (by decide)).trans ((wI_a (by decide)).trans (S.2 _ _ (by unfold scK; omega)))) ?_
          refine e_putI aX9_back_132 fX9_16 rfl (fx_is F rfl) (Or.inl rfl) ?_
          refine e_iconst (v := 0) aX9_back_135 (by decide) ?_
          refine e_istore_n aX9_back_136 (Nat.le_of_ble_eq_true rfl) ?_
          refine e_ls (ls' := [(0, some (vR (some 109))), (1, some (vI (nI (10 * g)))), (2, some (vI (nI 0)))]) ⟨rfl, rfl, rfl, trivial⟩ ?_
          refine l3 4 0 _ rfl (((S.wI (by unfold scK; omega)).wI (by unfold scK; omega)).wI (by unfold scK; omega)) ((wI_i (by decide)).trans ((wI_i (by decide)).trans ((wI_i (by decide)).trans hp))) (fun i hi => (wI_a (by decide)).trans ((wI_a (by decide)).trans ((wI_a (by decide)).trans (b1 i hi)))) (fun i hi => (wI_a (by decide)).trans ((wI_a (by decide)).trans ((wI_a (by decide)).trans (hK i hi)))) ((wI_i (by decide)).trans ((wI_i (by decide)).trans wI_s)) ((wI_i (by decide)).trans wI_s) wI_s (fun i hi => absurd hi (Nat.not_lt_zero i))
        · -- 63: not taken
          exact absurd (nI_le (a := 492) (b := 492) (by decide) (by decide)) c63
      | succ m ih =>
        intro k hz hk S hp b1 hK
        have F := S.F F0
        refine e_iload_n aX9_back_59 rfl ?_
        refine e_sipush (v := 492) aX9_back_60 (by decide) ?_
        refine e_icmp_ge aX9_back_63 (fun c63 => ?_) (fun c63 => ?_)
        · -- 63: taken
          exact absurd c63 (nI_ge (a := k) (b := 492) (by omega) (by decide))
        · -- 63: not taken
          refine e_aload_n aX9_back_66 rfl ?_
          refine e_getRF aX9_back_67 fX9_23 rfl (fx_is F rfl) (fx_r (b := 113) F rfl) ?_
          refine e_iload_n aX9_back_70 rfl ?_
          refine e_aload_n aX9_back_71 rfl ?_
          refine e_getRF aX9_back_72 fX9_83 rfl (fx_is F rfl) (fx_r (b := 132) F rfl) ?_
          refine e_sipush (v := 492) aX9_back_75 (by decide) ?_
          refine e_aload_n aX9_back_78 rfl ?_
          refine e_getIF aX9_back_79 fX9_365 rfl (fx_is F rfl) hp ?_
          refine e_imul aX9_back_82 ?_
          refine e_top (nI_mul 492 g) ?_
          refine e_iload_n aX9_back_83 rfl ?_
          refine e_iadd aX9_back_84 ?_
          refine e_top (nI_add (492 * g) k) ?_
          refine e_ialoadF aX9_back_85 (fx_is F rfl) (fx_n (n := 2952) F rfl) (vin (N := 2952) (by omega)) (show hI hz 132 (nI (492 * g + k)).toNatClampNeg = hI h0 132 (492 * g + k) by rw [cl (n := 492 * g + k) (by omega)]; exact S.2 _ _ (by unfold scK; omega)) ?_
          refine e_iastoreF aX9_back_86 (fx_is F rfl) (fx_n (n := 492) F rfl) (vin (N := 492) (by omega)) ?_
          rw [cl (n := k) (by omega)]
          refine e_iinc aX9_back_87 rfl rfl (Nat.le_of_ble_eq_true rfl) ?_
          refine e_goto aX9_back_90 ?_
          refine e_ls (ls' := [(0, some (vR (some 109))), (1, some (vI (nI (k + 1))))]) ⟨rfl, congrArg (fun x => some (vI x)) (nI_1 k), trivial⟩ ?_
          refine ih (k + 1) _ (by omega) (S.wI (by unfold scK; omega)) ((wI_a (by decide)).trans hp) (fun i hi => (wI_a (by decide)).trans (b1 i hi)) (fun i hi => ?_)
          by_cases e : i = k
          · subst e; exact wI_s
          · exact (wI_i (by omega)).trans (hK i (by omega))
    have l1 : ∀ (m : Nat) (k : Nat) (hz : HP), k + m = 96 → Sf (scK) h0 hz → hI hz 109 35 = nI g → (∀ i, i < k → hI hz 112 i = hI h0 131 (96 * g + i)) → Ev X mX9_back 1 0 0 (fun v h' => v = some (vI (hI h0 133 (10 * g))) ∧ Sf scK h0 h' ∧ hI h' 109 35 = nI g ∧ ImE h0 g h') 0 0 25 [(0, some (vR (some 109))), (1, some (vI (nI k)))] [] hz := by
      intro m
      induction m with
      | zero =>
        intro k hz hk S hp hK
        obtain rfl : k = 96 := by omega
        have F := S.F F0
        refine e_iload_n aX9_back_25 rfl ?_
        refine e_bipush (v := 96) aX9_back_26 (by decide) ?_
        refine e_icmp_ge aX9_back_28 (fun c28 => ?_) (fun c28 => ?_)
        · -- 28: taken
          refine e_iconst (v := 0) aX9_back_57 (by decide) ?_
          refine e_istore_n aX9_back_58 (Nat.le_of_ble_eq_true rfl) ?_
          refine e_ls (ls' := [(0, some (vR (some 109))), (1, some (vI (nI 0)))]) ⟨rfl, rfl, trivial⟩ ?_
          exact l2 492 0 hz rfl S hp hK (fun i hi => absurd hi (Nat.not_lt_zero i))
        · -- 28: not taken
          exact absurd (nI_le (a := 96) (b := 96) (by decide) (by decide)) c28
      | succ m ih =>
        intro k hz hk S hp hK
        have F := S.F F0
        refine e_iload_n aX9_back_25 rfl ?_
        refine e_bipush (v := 96) aX9_back_26 (by decide) ?_
        refine e_icmp_ge aX9_back_28 (fun c28 => ?_) (fun c28 => ?_)
        · -- 28: taken
          exact absurd c28 (nI_ge (a := k) (b := 96) (by omega) (by decide))
        · -- 28: not taken
          refine e_aload_n aX9_back_31 rfl ?_
          refine e_getRF aX9_back_32 fX9_20 rfl (fx_is F rfl) (fx_r (b := 112) F rfl) ?_
          refine e_iload_n aX9_back_35 rfl ?_
          refine e_aload_n aX9_back_36 rfl ?_
          refine e_getRF aX9_back_37 fX9_80 rfl (fx_is F rfl) (fx_r (b := 131) F rfl) ?_
          refine e_bipush (v := 96) aX9_back_40 (by decide) ?_
          refine e_aload_n aX9_back_42 rfl ?_
          refine e_getIF aX9_back_43 fX9_365 rfl (fx_is F rfl) hp ?_
          refine e_imul aX9_back_46 ?_
          refine e_top (nI_mul 96 g) ?_
          refine e_iload_n aX9_back_47 rfl ?_
          refine e_iadd aX9_back_48 ?_
          refine e_top (nI_add (96 * g) k) ?_
          refine e_ialoadF aX9_back_49 (fx_is F rfl) (fx_n (n := 576) F rfl) (vin (N := 576) (by omega)) (show hI hz 131 (nI (96 * g + k)).toNatClampNeg = hI h0 131 (96 * g + k) by rw [cl (n := 96 * g + k) (by omega)]; exact S.2 _ _ (by unfold scK; omega)) ?_
          refine e_iastoreF aX9_back_50 (fx_is F rfl) (fx_n (n := 96) F rfl) (vin (N := 96) (by omega)) ?_
          rw [cl (n := k) (by omega)]
          refine e_iinc aX9_back_51 rfl rfl (Nat.le_of_ble_eq_true rfl) ?_
          refine e_goto aX9_back_54 ?_
          refine e_ls (ls' := [(0, some (vR (some 109))), (1, some (vI (nI (k + 1))))]) ⟨rfl, congrArg (fun x => some (vI x)) (nI_1 k), trivial⟩ ?_
          refine ih (k + 1) _ (by omega) (S.wI (by unfold scK; omega)) ((wI_a (by decide)).trans hp) (fun i hi => ?_)
          by_cases e : i = k
          · subst e; exact wI_s
          · exact (wI_i (by omega)).trans (hK i (by omega))
    refine e_aload_n aX9_back_13 rfl ?_
    refine e_dup aX9_back_14 rfl ?_
    refine e_getIF aX9_back_15 fX9_365 rfl (fx_is F0 rfl) hg ?_
    refine e_iconst (v := 1) aX9_back_18 (by decide) ?_
    refine e_isub aX9_back_19 ?_
    refine e_top (nI_subN (b := 1) (by omega)) ?_
    rw [Nat.add_sub_cancel]
    refine e_putI aX9_back_20 fX9_365 rfl (fx_is F0 rfl) (Or.inl rfl) ?_
    refine e_iconst (v := 0) aX9_back_23 (by decide) ?_
    refine e_istore_n aX9_back_24 (Nat.le_of_ble_eq_true rfl) ?_
    refine e_ls (ls' := [(0, some (vR (some 109))), (1, some (vI (nI 0)))]) ⟨rfl, rfl, trivial⟩ ?_
    exact l1 96 0 _ rfl ((Sf.rf h0).wI (by unfold scK; omega)) wI_s (fun i hi => absurd hi (Nat.not_lt_zero i))
  · -- 4: not taken
    have q4 : G = 0 := (nI_eq (b := 0) (by omega) (by decide)).mp c4
    refine e_aload_n aX9_back_7 rfl ?_
    refine e_iconst (v := 3) aX9_back_8 (by decide) ?_
    refine e_invvT aX9_back_9 kX9_128 (zX9_finds X F0 (k := 3) (by decide)) rfl rfl (fx_is F0 rfl) (Nat.le_of_ble_eq_true rfl) (Nat.le_of_ble_eq_true rfl) (Nat.le_refl _) (Nat.le_refl _) (Nat.le_of_ble_eq_true rfl) ?_
    refine e_ireturn aX9_back_12 rfl (Nat.le_refl _) (Nat.le_refl _) ?_
    rw [if_pos q4]
    exact ⟨rfl, rfl⟩
