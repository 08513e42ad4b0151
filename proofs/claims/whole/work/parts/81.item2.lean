/-! contracts: Reader, an item stage by stage, a TEXT (written by wip/whole/g81.py) -/
theorem ev_c5 (X : EX) {h : HP} (F : Fx h) {l n c f : Nat} {A B : Nat → Nat} {D E : Nat → DD} {o : Nat → Nat} (t : TpL h l) (bf : BkF h f o) (b : BkD h n A D) (cm : CmC h c B E) {p : PT} (z : okp l p) {r : IR} (hc : c < 12) {a b9 pk k : Nat} {q : Option Nat} (hk6 : k < 6) (w : (∀ m, m ≤ 2 → (k = 0 ∨ k = 2 ↔ m = 0) → itW a b9 pk k q m)) (hr : it5 (hI h 42) l D n E c a b9 pk k q p = r) : Ev X mX3_readItem 21 3 29 (rcQ h c B E r) 0 0 184 [(0, some (vR (some 40))), (1, some (vR (some 33))), (2, some (vI (nI a))), (3, some (vI (nI b9))), (4, some (vI (nI pk))), (5, some (vI (nI k))), (8, some (vI (oI q)))] [] (tH h p) := by
  have F0 := F
  refine e_iload aX3_readItem_184 rfl ?_
  refine e_if_eq aX3_readItem_186 (fun c186 => ?_) (fun c186 => ?_)
  · -- 186: taken
    have q186 : k = 0 := (nI_eq (b := 0) (by omega) (by decide)).mp c186
    refine e_iconst (v := 0) aX3_readItem_195 (by decide) ?_
    refine e_goto aX3_readItem_196 ?_
    refine e_istore aX3_readItem_209 (Nat.le_of_ble_eq_true rfl) ?_
    refine e_iload aX3_readItem_211 rfl ?_
    refine e_if_ge aX3_readItem_213 (fun c213 => ?_) (fun c213 => absurd c213 (by decide))
    skip
    have qk : k = 0 ∨ k = 2 := Or.inl q186
    refine e_ls (ls' := [(0, some (vR (some 40))), (1, some (vR (some 33))), (2, some (vI (nI a))), (3, some (vI (nI b9))), (4, some (vI (nI pk))), (5, some (vI (nI k))), (8, some (vI (oI q))), (9, some (vI (nI 0)))]) ⟨rfl, rfl, rfl, rfl, rfl, rfl, rfl, rfl, trivial⟩ ?_
    refine ev_c6 X F0 t bf b cm z hc (w 0 (by decide) ⟨fun _ => rfl, fun _ => qk⟩) ?_
    rw [← hr]
    unfold it5
    rw [if_pos qk]
  · -- 186: not taken
    have q186 : ¬ k = 0 := fun y => c186 (by rw [y]; rfl)
    refine e_iload aX3_readItem_189 rfl ?_
    refine e_iconst (v := 2) aX3_readItem_191 (by decide) ?_
    refine e_icmp_ne aX3_readItem_192 (fun c192 => ?_) (fun c192 => ?_)
    · -- 192: taken
      have q192 : ¬ k = 2 := fun y => c192 (by rw [y]; rfl)
      refine e_aload_n aX3_readItem_199 rfl ?_
      refine e_getRF aX3_readItem_200 fX3_12 rfl (fx_is F rfl) (fx_r (b := 41) F rfl) ?_
      refine e_iconst (v := 1) aX3_readItem_203 (by decide) ?_
      refine e_iconst (v := 2) aX3_readItem_204 (by decide) ?_
      refine e_iconst (v := -1) aX3_readItem_205 (by decide) ?_
      refine e_invvT aX3_readItem_206 kX3_67 (ztn X F t z (nI 1) (nI 2) (-1)) rfl rfl (fx_is F rfl) (Nat.le_of_ble_eq_true rfl) (Nat.le_of_ble_eq_true rfl) (Nat.le_of_ble_eq_true rfl) (Nat.le_of_ble_eq_true rfl) (Nat.le_of_ble_eq_true rfl) ?_
      refine e_istore aX3_readItem_209 (Nat.le_of_ble_eq_true rfl) ?_
      refine e_iload aX3_readItem_211 rfl ?_
      refine e_if_ge aX3_readItem_213 (fun c213 => ?_) (fun c213 => ?_)
      · -- 213: taken
        have q213 : ¬ (tnV (hI h 42) l p (nI 1) (nI 2) (-1)) < 0 := Int32.not_lt.mpr c213
        have qk : ¬ (k = 0 ∨ k = 2) := fun y => y.elim q186 q192
        obtain ⟨j, j1, j2, j3, -⟩ := tn_R (bt := hI h 42) (l := l) (p := p) (w := -1) (lo := 1) (hi9 := 2) (by decide) (by decide) q213
        have j4 : (tnV (hI h 42) l p (nI 1) (nI 2) (-1)).toNatClampNeg = j := by rw [j3, cl (by omega)]
        refine e_ls (ls' := [(0, some (vR (some 40))), (1, some (vR (some 33))), (2, some (vI (nI a))), (3, some (vI (nI b9))), (4, some (vI (nI pk))), (5, some (vI (nI k))), (8, some (vI (oI q))), (9, some (vI (nI j)))]) ⟨rfl, rfl, rfl, rfl, rfl, rfl, rfl, congrArg (fun x => some (vI x)) j3, trivial⟩ ?_
        refine ev_c6 X F0 t bf b cm (okp_t z) hc (w j j2 (by omega)) ?_
        rw [← hr]
        unfold it5
        rw [if_neg qk, if_neg q213, j4]
      · -- 213: not taken
        have q213 : (tnV (hI h 42) l p (nI 1) (nI 2) (-1)) < 0 := Int32.not_le.mp c213
        refine e_iconst (v := 0) aX3_readItem_216 (by decide) ?_
        refine e_zreturn aX3_readItem_217 rfl (Or.inl rfl) (Nat.le_of_ble_eq_true rfl) (Nat.le_of_ble_eq_true rfl) ?_
        have qk : ¬ (k = 0 ∨ k = 2) := fun y => y.elim q186 q192
        exact rc_no F0 cm (by rw [← hr]; unfold it5; rw [if_neg qk, if_pos q213])
    · -- 192: not taken
      have q192 : k = 2 := (nI_eq (b := 2) (by omega) (by decide)).mp c192
      refine e_iconst (v := 0) aX3_readItem_195 (by decide) ?_
      refine e_goto aX3_readItem_196 ?_
      refine e_istore aX3_readItem_209 (Nat.le_of_ble_eq_true rfl) ?_
      refine e_iload aX3_readItem_211 rfl ?_
      refine e_if_ge aX3_readItem_213 (fun c213 => ?_) (fun c213 => absurd c213 (by decide))
      skip
      have qk : k = 0 ∨ k = 2 := Or.inr q192
      refine e_ls (ls' := [(0, some (vR (some 40))), (1, some (vR (some 33))), (2, some (vI (nI a))), (3, some (vI (nI b9))), (4, some (vI (nI pk))), (5, some (vI (nI k))), (8, some (vI (oI q))), (9, some (vI (nI 0)))]) ⟨rfl, rfl, rfl, rfl, rfl, rfl, rfl, rfl, trivial⟩ ?_
      refine ev_c6 X F0 t bf b cm z hc (w 0 (by decide) ⟨fun _ => rfl, fun _ => qk⟩) ?_
      rw [← hr]
      unfold it5
      rw [if_pos qk]
theorem ev_c4 (X : EX) {h : HP} (F : Fx h) {l n c f : Nat} {A B : Nat → Nat} {D E : Nat → DD} {o : Nat → Nat} (t : TpL h l) (bf : BkF h f o) (b : BkD h n A D) (cm : CmC h c B E) {p : PT} (z : okp l p) {r : IR} (hc : c < 12) {a b9 pk k : Nat} (hk6 : k < 6) (hp12 : pk < 12) (w : (∀ q m, ((k = 2 ∨ k = 5) ↔ q.isSome = true) → (∀ x, q = some x → x < 12 ∧ x ≠ pk ∧ x / 3 = pk / 3) → m ≤ 2 → (k = 0 ∨ k = 2 ↔ m = 0) → itW a b9 pk k q m)) (hr : it4 (hI h 42) l D n E c a b9 pk k p = r) : Ev X mX3_readItem 21 3 29 (rcQ h c B E r) 0 0 117 [(0, some (vR (some 40))), (1, some (vR (some 33))), (2, some (vI (nI a))), (3, some (vI (nI b9))), (4, some (vI (nI pk))), (5, some (vI (nI k)))] [] (tH h p) := by
  have F0 := F
  refine e_iload aX3_readItem_117 rfl ?_
  refine e_iconst (v := 2) aX3_readItem_119 (by decide) ?_
  refine e_icmp_eq aX3_readItem_120 (fun c120 => ?_) (fun c120 => ?_)
  · -- 120: taken
    have q120 : k = 2 := (nI_eq (b := 2) (by omega) (by decide)).mp c120
    refine e_iconst (v := 1) aX3_readItem_129 (by decide) ?_
    refine e_goto aX3_readItem_130 ?_
    refine e_istore aX3_readItem_134 (Nat.le_of_ble_eq_true rfl) ?_
    refine e_iload aX3_readItem_136 rfl ?_
    refine e_iconst (v := 3) aX3_readItem_138 (by decide) ?_
    refine e_idiv aX3_readItem_139 (by decide) ?_
    refine e_top (nI_div (a := pk) (b := 3) (by omega) (by decide) (by decide)) ?_
    refine e_iconst (v := 3) aX3_readItem_140 (by decide) ?_
    refine e_imul aX3_readItem_141 ?_
    refine e_top (nI_mul (pk / 3) 3) ?_
    refine e_istore aX3_readItem_142 (Nat.le_of_ble_eq_true rfl) ?_
    refine e_iload aX3_readItem_144 rfl ?_
    refine e_if_eq aX3_readItem_146 (fun c146 => absurd c146 (by decide)) (fun c146 => ?_)
    refine e_aload_n aX3_readItem_149 rfl ?_
    refine e_getRF aX3_readItem_150 fX3_12 rfl (fx_is F rfl) (fx_r (b := 41) F rfl) ?_
    refine e_iload aX3_readItem_153 rfl ?_
    refine e_iload aX3_readItem_155 rfl ?_
    refine e_iconst (v := 3) aX3_readItem_157 (by decide) ?_
    refine e_iadd aX3_readItem_158 ?_
    refine e_top (nI_add (pk / 3 * 3) 3) ?_
    refine e_iconst (v := 1) aX3_readItem_159 (by decide) ?_
    refine e_isub aX3_readItem_160 ?_
    refine e_top (nI_pred9 (n := pk / 3 * 3 + 3) (by omega)) ?_
    rw [show pk / 3 * 3 + 3 - 1 = pk / 3 * 3 + 2 by omega]
    refine e_iload aX3_readItem_161 rfl ?_
    refine e_invvT aX3_readItem_163 kX3_67 (ztn X F t z (nI (pk / 3 * 3)) (nI (pk / 3 * 3 + 2)) (nI pk)) rfl rfl (fx_is F rfl) (Nat.le_of_ble_eq_true rfl) (Nat.le_of_ble_eq_true rfl) (Nat.le_of_ble_eq_true rfl) (Nat.le_of_ble_eq_true rfl) (Nat.le_of_ble_eq_true rfl) ?_
    refine e_goto aX3_readItem_166 ?_
    refine e_istore aX3_readItem_170 (Nat.le_of_ble_eq_true rfl) ?_
    refine e_iload aX3_readItem_172 rfl ?_
    refine e_if_eq aX3_readItem_174 (fun c174 => absurd c174 (by decide)) (fun c174 => ?_)
    refine e_iload aX3_readItem_177 rfl ?_
    refine e_if_ge aX3_readItem_179 (fun c179 => ?_) (fun c179 => ?_)
    · -- 179: taken
      have q179 : ¬ (tnV (hI h 42) l p (nI (pk / 3 * 3)) (nI (pk / 3 * 3 + 2)) (nI pk)) < 0 := Int32.not_lt.mpr c179
      have qk : k = 2 ∨ k = 5 := Or.inl q120
      obtain ⟨j, j1, j2, j3, j4, -⟩ := tn_R (bt := hI h 42) (l := l) (p := p) (w := nI pk) (lo := pk / 3 * 3) (hi9 := pk / 3 * 3 + 2) (by omega) (by omega) q179
      have hne : j ≠ pk := fun y => j4 (by rw [y])
      have j5 : (tnV (hI h 42) l p (nI (pk / 3 * 3)) (nI (pk / 3 * 3 + 2)) (nI pk)).toNatClampNeg = j := by rw [j3, cl (by omega)]
      refine e_ls (ls' := [(0, some (vR (some 40))), (1, some (vR (some 33))), (2, some (vI (nI a))), (3, some (vI (nI b9))), (4, some (vI (nI pk))), (5, some (vI (nI k))), (8, some (vI (oI (some j))))]) ⟨rfl, rfl, rfl, rfl, rfl, rfl, congrArg (fun x => some (vI x)) j3, trivial⟩ ?_
      refine ev_c5 X F0 t bf b cm (okp_t z) hc hk6 (fun m m1 m2 => w (some j) m ⟨fun _ => rfl, fun _ => qk⟩ (fun x y => by injection y with y; subst y; exact ⟨by omega, hne, by omega⟩) m1 m2) ?_
      rw [← hr]
      unfold it4
      rw [if_pos qk, if_neg q179, j5]
    · -- 179: not taken
      have q179 : (tnV (hI h 42) l p (nI (pk / 3 * 3)) (nI (pk / 3 * 3 + 2)) (nI pk)) < 0 := Int32.not_le.mp c179
      refine e_iconst (v := 0) aX3_readItem_182 (by decide) ?_
      refine e_zreturn aX3_readItem_183 rfl (Or.inl rfl) (Nat.le_of_ble_eq_true rfl) (Nat.le_of_ble_eq_true rfl) ?_
      have qk : k = 2 ∨ k = 5 := Or.inl q120
      exact rc_no F0 cm (by rw [← hr]; unfold it4; rw [if_pos qk, if_pos q179])
  · -- 120: not taken
    have q120 : ¬ k = 2 := fun y => c120 (by rw [y]; rfl)
    refine e_iload aX3_readItem_123 rfl ?_
    refine e_iconst (v := 5) aX3_readItem_125 (by decide) ?_
    refine e_icmp_ne aX3_readItem_126 (fun c126 => ?_) (fun c126 => ?_)
    · -- 126: taken
      have q126 : ¬ k = 5 := fun y => c126 (by rw [y]; rfl)
      refine e_iconst (v := 0) aX3_readItem_133 (by decide) ?_
      refine e_istore aX3_readItem_134 (Nat.le_of_ble_eq_true rfl) ?_
      refine e_iload aX3_readItem_136 rfl ?_
      refine e_iconst (v := 3) aX3_readItem_138 (by decide) ?_
      refine e_idiv aX3_readItem_139 (by decide) ?_
      refine e_top (nI_div (a := pk) (b := 3) (by omega) (by decide) (by decide)) ?_
      refine e_iconst (v := 3) aX3_readItem_140 (by decide) ?_
      refine e_imul aX3_readItem_141 ?_
      refine e_top (nI_mul (pk / 3) 3) ?_
      refine e_istore aX3_readItem_142 (Nat.le_of_ble_eq_true rfl) ?_
      refine e_iload aX3_readItem_144 rfl ?_
      refine e_if_eq aX3_readItem_146 (fun c146 => ?_) (fun c146 => absurd c146 (by decide))
      refine e_iconst (v := -1) aX3_readItem_169 (by decide) ?_
      refine e_istore aX3_readItem_170 (Nat.le_of_ble_eq_true rfl) ?_
      refine e_iload aX3_readItem_172 rfl ?_
      refine e_if_eq aX3_readItem_174 (fun c174 => ?_) (fun c174 => absurd c174 (by decide))
      have qk : ¬ (k = 2 ∨ k = 5) := fun y => y.elim q120 q126
      refine e_ls (ls' := [(0, some (vR (some 40))), (1, some (vR (some 33))), (2, some (vI (nI a))), (3, some (vI (nI b9))), (4, some (vI (nI pk))), (5, some (vI (nI k))), (8, some (vI (oI none)))]) ⟨rfl, rfl, rfl, rfl, rfl, rfl, rfl, trivial⟩ ?_
      refine ev_c5 X F0 t bf b cm z hc hk6 (fun m m1 m2 => w none m ⟨fun y => absurd y qk, (fun y => by cases y)⟩ (fun x y => by cases y) m1 m2) ?_
      rw [← hr]
      unfold it4
      rw [if_neg qk]
    · -- 126: not taken
      have q126 : k = 5 := (nI_eq (b := 5) (by omega) (by decide)).mp c126
      refine e_iconst (v := 1) aX3_readItem_129 (by decide) ?_
      refine e_goto aX3_readItem_130 ?_
      refine e_istore aX3_readItem_134 (Nat.le_of_ble_eq_true rfl) ?_
      refine e_iload aX3_readItem_136 rfl ?_
      refine e_iconst (v := 3) aX3_readItem_138 (by decide) ?_
      refine e_idiv aX3_readItem_139 (by decide) ?_
      refine e_top (nI_div (a := pk) (b := 3) (by omega) (by decide) (by decide)) ?_
      refine e_iconst (v := 3) aX3_readItem_140 (by decide) ?_
      refine e_imul aX3_readItem_141 ?_
      refine e_top (nI_mul (pk / 3) 3) ?_
      refine e_istore aX3_readItem_142 (Nat.le_of_ble_eq_true rfl) ?_
      refine e_iload aX3_readItem_144 rfl ?_
      refine e_if_eq aX3_readItem_146 (fun c146 => absurd c146 (by decide)) (fun c146 => ?_)
      refine e_aload_n aX3_readItem_149 rfl ?_
      refine e_getRF aX3_readItem_150 fX3_12 rfl (fx_is F rfl) (fx_r (b := 41) F rfl) ?_
      refine e_iload aX3_readItem_153 rfl ?_
      refine e_iload aX3_readItem_155 rfl ?_
      refine e_iconst (v := 3) aX3_readItem_157 (by decide) ?_
      refine e_iadd aX3_readItem_158 ?_
      refine e_top (nI_add (pk / 3 * 3) 3) ?_
      refine e_iconst (v := 1) aX3_readItem_159 (by decide) ?_
      refine e_isub aX3_readItem_160 ?_
      refine e_top (nI_pred9 (n := pk / 3 * 3 + 3) (by omega)) ?_
      rw [show pk / 3 * 3 + 3 - 1 = pk / 3 * 3 + 2 by omega]
      refine e_iload aX3_readItem_161 rfl ?_
      refine e_invvT aX3_readItem_163 kX3_67 (ztn X F t z (nI (pk / 3 * 3)) (nI (pk / 3 * 3 + 2)) (nI pk)) rfl rfl (fx_is F rfl) (Nat.le_of_ble_eq_true rfl) (Nat.le_of_ble_eq_true rfl) (Nat.le_of_ble_eq_true rfl) (Nat.le_of_ble_eq_true rfl) (Nat.le_of_ble_eq_true rfl) ?_
      refine e_goto aX3_readItem_166 ?_
      refine e_istore aX3_readItem_170 (Nat.le_of_ble_eq_true rfl) ?_
      refine e_iload aX3_readItem_172 rfl ?_
      refine e_if_eq aX3_readItem_174 (fun c174 => absurd c174 (by decide)) (fun c174 => ?_)
      refine e_iload aX3_readItem_177 rfl ?_
      refine e_if_ge aX3_readItem_179 (fun c179 => ?_) (fun c179 => ?_)
      · -- 179: taken
        have q179 : ¬ (tnV (hI h 42) l p (nI (pk / 3 * 3)) (nI (pk / 3 * 3 + 2)) (nI pk)) < 0 := Int32.not_lt.mpr c179
        have qk : k = 2 ∨ k = 5 := Or.inr q126
        obtain ⟨j, j1, j2, j3, j4, -⟩ := tn_R (bt := hI h 42) (l := l) (p := p) (w := nI pk) (lo := pk / 3 * 3) (hi9 := pk / 3 * 3 + 2) (by omega) (by omega) q179
        have hne : j ≠ pk := fun y => j4 (by rw [y])
        have j5 : (tnV (hI h 42) l p (nI (pk / 3 * 3)) (nI (pk / 3 * 3 + 2)) (nI pk)).toNatClampNeg = j := by rw [j3, cl (by omega)]
        refine e_ls (ls' := [(0, some (vR (some 40))), (1, some (vR (some 33))), (2, some (vI (nI a))), (3, some (vI (nI b9))), (4, some (vI (nI pk))), (5, some (vI (nI k))), (8, some (vI (oI (some j))))]) ⟨rfl, rfl, rfl, rfl, rfl, rfl, congrArg (fun x => some (vI x)) j3, trivial⟩ ?_
        refine ev_c5 X F0 t bf b cm (okp_t z) hc hk6 (fun m m1 m2 => w (some j) m ⟨fun _ => rfl, fun _ => qk⟩ (fun x y => by injection y with y; subst y; exact ⟨by omega, hne, by omega⟩) m1 m2) ?_
        rw [← hr]
        unfold it4
        rw [if_pos qk, if_neg q179, j5]
      · -- 179: not taken
        have q179 : (tnV (hI h 42) l p (nI (pk / 3 * 3)) (nI (pk / 3 * 3 + 2)) (nI pk)) < 0 := Int32.not_le.mp c179
        refine e_iconst (v := 0) aX3_readItem_182 (by decide) ?_
        refine e_zreturn aX3_readItem_183 rfl (Or.inl rfl) (Nat.le_of_ble_eq_true rfl) (Nat.le_of_ble_eq_true rfl) ?_
        have qk : k = 2 ∨ k = 5 := Or.inr q126
        exact rc_no F0 cm (by rw [← hr]; unfold it4; rw [if_pos qk, if_pos q179])
theorem ev_c3 (X : EX) {h : HP} (F : Fx h) {l n c f : Nat} {A B : Nat → Nat} {D E : Nat → DD} {o : Nat → Nat} (t : TpL h l) (bf : BkF h f o) (b : BkD h n A D) (cm : CmC h c B E) {p : PT} (z : okp l p) {r : IR} (hc : c < 12) {a b9 : Nat} (ha : a < 3) (hb : b9 < 3) (hab : a ≠ b9) (hr : it3 (hI h 42) l D n E c f a b9 p = r) : Ev X mX3_readItem 21 3 29 (rcQ h c B E r) 0 0 86 [(0, some (vR (some 40))), (1, some (vR (some 33))), (2, some (vI (nI a))), (3, some (vI (nI b9)))] [] (tH h p) := by
  have F0 := F
  have hf4 := bf.2.1
  refine e_aload_n aX3_readItem_86 rfl ?_
  refine e_getRF aX3_readItem_87 fX3_12 rfl (fx_is F rfl) (fx_r (b := 41) F rfl) ?_
  refine e_aload_n aX3_readItem_90 rfl ?_
  refine e_getIF aX3_readItem_91 fX3_75 rfl (fx_is F rfl) ((tkH_b (by decide)).trans bf.1) ?_
  refine e_iconst (v := 3) aX3_readItem_94 (by decide) ?_
  refine e_imul aX3_readItem_95 ?_
  refine e_top (nI_mul f 3) ?_
  refine e_bipush (v := 11) aX3_readItem_96 (by decide) ?_
  refine e_iconst (v := -1) aX3_readItem_98 (by decide) ?_
  refine e_invvT aX3_readItem_99 kX3_67 (ztn X F t z (nI (f * 3)) (nI 11) (-1)) rfl rfl (fx_is F rfl) (Nat.le_of_ble_eq_true rfl) (Nat.le_of_ble_eq_true rfl) (Nat.le_of_ble_eq_true rfl) (Nat.le_of_ble_eq_true rfl) (Nat.le_of_ble_eq_true rfl) ?_
  refine e_istore aX3_readItem_102 (Nat.le_of_ble_eq_true rfl) ?_
  refine e_iload aX3_readItem_104 rfl ?_
  refine e_if_ge aX3_readItem_106 (fun c106 => ?_) (fun c106 => ?_)
  · -- 106: taken
    have q106 : ¬ (tnV (hI h 42) l p (nI (f * 3)) (nI 11) (-1)) < 0 := Int32.not_lt.mpr c106
    refine e_aload_n aX3_readItem_111 rfl ?_
    refine e_invvT aX3_readItem_112 kX3_78 (zX3_readKind X F t (okp_t z)) rfl rfl (fx_is F rfl) (Nat.le_of_ble_eq_true rfl) (Nat.le_of_ble_eq_true rfl) (Nat.le_of_ble_eq_true rfl) (Nat.le_of_ble_eq_true rfl) (Nat.le_of_ble_eq_true rfl) ?_
    refine e_istore aX3_readItem_115 (Nat.le_of_ble_eq_true rfl) ?_
    obtain ⟨j, j1, j2, j3, -⟩ := tn_R (bt := hI h 42) (l := l) (p := p) (w := -1) (lo := f * 3) (hi9 := 11) (by omega) (by decide) q106
    have j4 : (tnV (hI h 42) l p (nI (f * 3)) (nI 11) (-1)).toNatClampNeg = j := by rw [j3, cl (by omega)]
    refine e_ls (ls' := [(0, some (vR (some 40))), (1, some (vR (some 33))), (2, some (vI (nI a))), (3, some (vI (nI b9))), (4, some (vI (nI j))), (5, some (vI (nI (krd (hI h 42) l (tnX (hI h 42) l p (nI (f * 3)) (nI 11) (-1))).1)))]) ⟨rfl, rfl, rfl, rfl, congrArg (fun x => some (vI x)) j3, rfl, trivial⟩ ?_
    refine ev_c4 X F0 t bf b cm (okp_k (okp_t z)) hc krd_6 (by omega) (fun q m m1 m2 m3 m4 => ⟨krd_6, ha, hb, hab, by omega, m1, m2, m3, m4⟩) ?_
    rw [← hr]
    unfold it3
    rw [if_neg q106, j4]
  · -- 106: not taken
    have q106 : (tnV (hI h 42) l p (nI (f * 3)) (nI 11) (-1)) < 0 := Int32.not_le.mp c106
    refine e_iconst (v := 0) aX3_readItem_109 (by decide) ?_
    refine e_zreturn aX3_readItem_110 rfl (Or.inl rfl) (Nat.le_of_ble_eq_true rfl) (Nat.le_of_ble_eq_true rfl) ?_
    exact rc_no F0 cm (by rw [← hr]; unfold it3; rw [if_pos q106])
theorem ev_c2 (X : EX) {h : HP} (F : Fx h) {l n c f : Nat} {A B : Nat → Nat} {D E : Nat → DD} {o : Nat → Nat} (t : TpL h l) (bf : BkF h f o) (b : BkD h n A D) (cm : CmC h c B E) {p : PT} (z : okp l p) {r : IR} (hc : c < 12) {a : Nat} (ha : a < 3) (hr : it2 (hI h 42) l D n E c f a p = r) : Ev X mX3_readItem 21 3 29 (rcQ h c B E r) 0 0 57 [(0, some (vR (some 40))), (1, some (vR (some 33))), (2, some (vI (nI a)))] [] (tH h p) := by
  have F0 := F
  refine e_aload_n aX3_readItem_57 rfl ?_
  refine e_getRF aX3_readItem_58 fX3_12 rfl (fx_is F rfl) (fx_r (b := 41) F rfl) ?_
  refine e_iconst (v := 0) aX3_readItem_61 (by decide) ?_
  refine e_iconst (v := 2) aX3_readItem_62 (by decide) ?_
  refine e_iload_n aX3_readItem_63 rfl ?_
  refine e_invvT aX3_readItem_64 kX3_67 (ztn X F t z (nI 0) (nI 2) (nI a)) rfl rfl (fx_is F rfl) (Nat.le_of_ble_eq_true rfl) (Nat.le_of_ble_eq_true rfl) (Nat.le_of_ble_eq_true rfl) (Nat.le_of_ble_eq_true rfl) (Nat.le_of_ble_eq_true rfl) ?_
  refine e_istore_n aX3_readItem_67 (Nat.le_of_ble_eq_true rfl) ?_
  refine e_iload_n aX3_readItem_68 rfl ?_
  refine e_if_lt aX3_readItem_69 (fun c69 => ?_) (fun c69 => ?_)
  · -- 69: taken
    have q69 : (tnV (hI h 42) l p (nI 0) (nI 2) (nI a)) < 0 := c69
    refine e_iconst (v := 0) aX3_readItem_84 (by decide) ?_
    refine e_zreturn aX3_readItem_85 rfl (Or.inl rfl) (Nat.le_of_ble_eq_true rfl) (Nat.le_of_ble_eq_true rfl) ?_
    exact rc_no F0 cm (by rw [← hr]; unfold it2; rw [if_pos q69])
  · -- 69: not taken
    have q69 : ¬ (tnV (hI h 42) l p (nI 0) (nI 2) (nI a)) < 0 := c69
    refine e_aload_n aX3_readItem_72 rfl ?_
    refine e_getRF aX3_readItem_73 fX3_12 rfl (fx_is F rfl) (fx_r (b := 41) F rfl) ?_
    refine e_ldcS (i := 2) aX3_readItem_76 rfl rfl rfl ?_
    refine e_invvT aX3_readItem_78 kX3_52 (ztk X F t (okp_t z) (i := 2) (by decide)) rfl rfl (fx_is F rfl) (Nat.le_of_ble_eq_true rfl) (Nat.le_of_ble_eq_true rfl) (Nat.le_of_ble_eq_true rfl) (Nat.le_of_ble_eq_true rfl) (Nat.le_of_ble_eq_true rfl) ?_
    refine e_if_ne aX3_readItem_81 (fun c81 => ?_) (fun c81 => ?_)
    · -- 81: taken
      have q81 := Decidable.of_not_not (fun z => c81 (b2_0.mpr z))
      obtain ⟨j, j1, j2, j3, j4, -⟩ := tn_R (bt := hI h 42) (l := l) (p := p) (w := nI a) (lo := 0) (hi9 := 2) (by decide) (by decide) q69
      have j5 : (tnV (hI h 42) l p (nI 0) (nI 2) (nI a)).toNatClampNeg = j := by rw [j3, cl (by omega)]
      have hne : a ≠ j := fun y => j4 (by rw [y])
      rw [tkX_t q81]
      refine e_ls (ls' := [(0, some (vR (some 40))), (1, some (vR (some 33))), (2, some (vI (nI a))), (3, some (vI (nI j)))]) ⟨rfl, rfl, rfl, congrArg (fun x => some (vI x)) j3, trivial⟩ ?_
      refine ev_c3 X F0 t bf b cm (okp_n (okp_t z)) hc ha (by omega) hne ?_
      rw [← hr]
      unfold it2
      rw [if_neg q69, if_pos q81, j5]
    · -- 81: not taken
      have q81 := b2_0.mp c81
      refine e_iconst (v := 0) aX3_readItem_84 (by decide) ?_
      refine e_zreturn aX3_readItem_85 rfl (Or.inl rfl) (Nat.le_of_ble_eq_true rfl) (Nat.le_of_ble_eq_true rfl) ?_
      rw [tkX_f q81]
      exact rc_no F0 cm (by rw [← hr]; unfold it2; rw [if_neg q69, if_neg q81])
theorem ev_c1 (X : EX) {h : HP} (F : Fx h) {l n c f : Nat} {A B : Nat → Nat} {D E : Nat → DD} {o : Nat → Nat} (t : TpL h l) (bf : BkF h f o) (b : BkD h n A D) (cm : CmC h c B E) {p : PT} (z : okp l p) {r : IR} (hc : c < 12) (hr : it1 (hI h 42) l D n E c f p = r) : Ev X mX3_readItem 21 3 29 (rcQ h c B E r) 0 0 28 [(0, some (vR (some 40))), (1, some (vR (some 33)))] [] (tH h p) := by
  have F0 := F
  refine e_aload_n aX3_readItem_28 rfl ?_
  refine e_getRF aX3_readItem_29 fX3_12 rfl (fx_is F rfl) (fx_r (b := 41) F rfl) ?_
  refine e_iconst (v := 0) aX3_readItem_32 (by decide) ?_
  refine e_iconst (v := 2) aX3_readItem_33 (by decide) ?_
  refine e_iconst (v := -1) aX3_readItem_34 (by decide) ?_
  refine e_invvT aX3_readItem_35 kX3_67 (ztn X F t z (nI 0) (nI 2) (-1)) rfl rfl (fx_is F rfl) (Nat.le_of_ble_eq_true rfl) (Nat.le_of_ble_eq_true rfl) (Nat.le_of_ble_eq_true rfl) (Nat.le_of_ble_eq_true rfl) (Nat.le_of_ble_eq_true rfl) ?_
  refine e_istore_n aX3_readItem_38 (Nat.le_of_ble_eq_true rfl) ?_
  refine e_iload_n aX3_readItem_39 rfl ?_
  refine e_if_lt aX3_readItem_40 (fun c40 => ?_) (fun c40 => ?_)
  · -- 40: taken
    have q40 : (tnV (hI h 42) l p (nI 0) (nI 2) (-1)) < 0 := c40
    refine e_iconst (v := 0) aX3_readItem_55 (by decide) ?_
    refine e_zreturn aX3_readItem_56 rfl (Or.inl rfl) (Nat.le_of_ble_eq_true rfl) (Nat.le_of_ble_eq_true rfl) ?_
    exact rc_no F0 cm (by rw [← hr]; unfold it1; rw [if_pos q40])
  · -- 40: not taken
    have q40 : ¬ (tnV (hI h 42) l p (nI 0) (nI 2) (-1)) < 0 := c40
    refine e_aload_n aX3_readItem_43 rfl ?_
    refine e_getRF aX3_readItem_44 fX3_12 rfl (fx_is F rfl) (fx_r (b := 41) F rfl) ?_
    refine e_ldcS (i := 1) aX3_readItem_47 rfl rfl rfl ?_
    refine e_invvT aX3_readItem_49 kX3_52 (ztk X F t (okp_t z) (i := 1) (by decide)) rfl rfl (fx_is F rfl) (Nat.le_of_ble_eq_true rfl) (Nat.le_of_ble_eq_true rfl) (Nat.le_of_ble_eq_true rfl) (Nat.le_of_ble_eq_true rfl) (Nat.le_of_ble_eq_true rfl) ?_
    refine e_if_ne aX3_readItem_52 (fun c52 => ?_) (fun c52 => ?_)
    · -- 52: taken
      have q52 := Decidable.of_not_not (fun z => c52 (b2_0.mpr z))
      obtain ⟨j, j1, j2, j3, -⟩ := tn_R (bt := hI h 42) (l := l) (p := p) (w := -1) (lo := 0) (hi9 := 2) (by decide) (by decide) q40
      have j5 : (tnV (hI h 42) l p (nI 0) (nI 2) (-1)).toNatClampNeg = j := by rw [j3, cl (by omega)]
      rw [tkX_t q52]
      refine e_ls (ls' := [(0, some (vR (some 40))), (1, some (vR (some 33))), (2, some (vI (nI j)))]) ⟨rfl, rfl, congrArg (fun x => some (vI x)) j3, trivial⟩ ?_
      refine ev_c2 X F0 t bf b cm (okp_n (okp_t z)) hc (by omega) ?_
      rw [← hr]
      unfold it1
      rw [if_neg q40, if_pos q52, j5]
    · -- 52: not taken
      have q52 := b2_0.mp c52
      refine e_iconst (v := 0) aX3_readItem_55 (by decide) ?_
      refine e_zreturn aX3_readItem_56 rfl (Or.inl rfl) (Nat.le_of_ble_eq_true rfl) (Nat.le_of_ble_eq_true rfl) ?_
      rw [tkX_f q52]
      exact rc_no F0 cm (by rw [← hr]; unfold it1; rw [if_neg q40, if_neg q52])
theorem zX3_readItem (X : EX) {h : HP} (F : Fx h) {l n c f : Nat} {A B : Nat → Nat} {D E : Nat → DD} {o : Nat → Nat} (t : TpL h l) (bf : BkF h f o) (b : BkD h n A D) (cm : CmC h c B E) {p : PT} (z : okp l p) {r : IR} (hr : itF (hI h 42) l D n E c f p = r) : Ct X mX3_readItem 21 3 29 [vR (some 40), vR (some 33)] (tH h p) (rcQ h c B E r) := by
  refine ct_of rfl (Nat.le_of_ble_eq_true rfl) ?_
  have F0 := F
  refine e_aload_n aX3_readItem_0 rfl ?_
  refine e_getIF aX3_readItem_1 fX3_60 rfl (fx_is F rfl) ((tkH_b (by decide)).trans b.1) ?_
  refine e_aload_n aX3_readItem_4 rfl ?_
  refine e_getIF aX3_readItem_5 fX3_31 rfl (fx_is F rfl) ((tkH_b (by decide)).trans cm.1) ?_
  refine e_iadd aX3_readItem_8 ?_
  refine e_top (nI_add n c) ?_
  refine e_bipush (v := 12) aX3_readItem_9 (by decide) ?_
  refine e_icmp_ge aX3_readItem_11 (fun c11 => ?_) (fun c11 => ?_)
  · -- 11: taken
    have q11 : 12 ≤ n + c := (nI_leI (a := 12) (by decide) (by have := b.2.1; have := cm.2.1; omega)).mp c11
    refine e_iconst (v := 0) aX3_readItem_26 (by decide) ?_
    refine e_zreturn aX3_readItem_27 rfl (Or.inl rfl) (Nat.le_of_ble_eq_true rfl) (Nat.le_of_ble_eq_true rfl) ?_
    exact rc_no F0 cm (by rw [← hr]; unfold itF; rw [if_pos q11])
  · -- 11: not taken
    have q11 : ¬ 12 ≤ n + c := fun y => c11 (nI_le (a := 12) y (by have := b.2.1; have := cm.2.1; omega))
    refine e_aload_n aX3_readItem_14 rfl ?_
    refine e_getRF aX3_readItem_15 fX3_12 rfl (fx_is F rfl) (fx_r (b := 41) F rfl) ?_
    refine e_ldcS (i := 0) aX3_readItem_18 rfl rfl rfl ?_
    refine e_invvT aX3_readItem_20 kX3_52 (ztk X F t z (i := 0) (by decide)) rfl rfl (fx_is F rfl) (Nat.le_of_ble_eq_true rfl) (Nat.le_of_ble_eq_true rfl) (Nat.le_of_ble_eq_true rfl) (Nat.le_of_ble_eq_true rfl) (Nat.le_of_ble_eq_true rfl) ?_
    refine e_if_ne aX3_readItem_23 (fun c23 => ?_) (fun c23 => ?_)
    · -- 23: taken
      have q23 := Decidable.of_not_not (fun z => c23 (b2_0.mpr z))
      rw [tkX_t q23]
      refine e_ls (ls' := [(0, some (vR (some 40))), (1, some (vR (some 33)))]) ⟨rfl, rfl, trivial⟩ ?_
      refine ev_c1 X F0 t bf b cm (okp_n z) (by omega) ?_
      rw [← hr]
      unfold itF
      rw [if_neg q11, if_pos q23]
    · -- 23: not taken
      have q23 := b2_0.mp c23
      refine e_iconst (v := 0) aX3_readItem_26 (by decide) ?_
      refine e_zreturn aX3_readItem_27 rfl (Or.inl rfl) (Nat.le_of_ble_eq_true rfl) (Nat.le_of_ble_eq_true rfl) ?_
      rw [tkX_f q23]
      exact rc_no F0 cm (by rw [← hr]; unfold itF; rw [if_neg q11, if_neg q23])
