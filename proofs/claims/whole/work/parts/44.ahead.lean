/-! Reader.readOne: what stands behind ahead and at (written by wip/whole/g44.py) -/
/-- the words of the sets may have changed -/
def lsH (h : HP) (L : Nat → Nat → Int64) : HP := (h.1, L, h.2.2)
theorem lsH_ws {h : HP} {L : Nat → Nat → Int64} {p : PT} {wb : Nat} {g : Nat → Int64} : wsH (tH (lsH h L) p) wb g = tH (lsH h (fun a i => if a = wb then g i else L a i)) p := rfl
theorem tn_of {bt : Nat → Int32} {l : Nat} {p : PT} {w : Int32} (m : Nat) (hm : m < 1000) (z : ¬ tnV bt l p 0 (nI m) w < 0) : ∃ j, j ≤ m ∧ tnV bt l p 0 (nI m) w = nI j := by
  unfold tnV at z ⊢
  by_cases q : tnB bt l p 0 (nI m) w = true
  · rw [if_pos q] at z
    exact absurd (by decide) z
  · rw [if_neg q] at z ⊢
    have q2 : ¬ nI m < tkN bt l p.1 p.2 := fun y => q (decide_eq_true (Or.inr (Or.inl y)))
    rcases pk_ix (tkN bt l p.1 p.2) (n := m + 1) (by omega) with y | y | ⟨j, hj, e⟩
    · exact absurd y z
    · exact absurd (Int32.lt_of_lt_of_le (nI_lt (a := m) (b := m + 1) (by omega) (by omega)) y) q2
    · exact ⟨j, by omega, e⟩
/-- what is read behind ahead (or at) -/
def ahY (bt : Nat → Int32) (l : Nat) (p : PT) : Int32 := tnV bt l p 0 3 (-1)
def ahP1 (bt : Nat → Int32) (l : Nat) (p : PT) : PT := tnX bt l p 0 3 (-1)
def ahC (bt : Nat → Int32) (l : Nat) (p : PT) : Int32 := if ahY bt l p < 0 then -1 else tnV bt l (ahP1 bt l p) 0 2 (-1)
def ahP2 (bt : Nat → Int32) (l : Nat) (p : PT) : PT := if ahY bt l p < 0 then ahP1 bt l p else tnX bt l (ahP1 bt l p) 0 2 (-1)
def ahL (bt : Nat → Int32) (l : Nat) (p : PT) (w : Bool) : Int32 := if ahC bt l p < 0 then -1 else tnV bt l (ahP2 bt l p) 0 2 (if w = true then ahC bt l p else -1)
def ahP3 (bt : Nat → Int32) (l : Nat) (p : PT) (w : Bool) : PT := if ahC bt l p < 0 then ahP2 bt l p else tnX bt l (ahP2 bt l p) 0 2 (if w = true then ahC bt l p else -1)
def ahS (bt : Nat → Int32) (l : Nat) (p : PT) (w : Bool) (s : Nat) : Bool := if w = true then decide (pl s ((ahY bt l p).toNatClampNeg * 3 + (ahC bt l p).toNatClampNeg) < pl s ((ahY bt l p).toNatClampNeg * 3 + (ahL bt l p w).toNatClampNeg)) else decide (pl s ((ahY bt l p).toNatClampNeg * 3 + (ahC bt l p).toNatClampNeg) = (ahL bt l p w).toNatClampNeg)
/-- what a reading of a part leaves: answer, place, set -/
def rdQ (h : HP) (L : Nat → Nat → Int64) (wb : Nat) (W : Nat → Prop) (r : Bool × PT × (Nat → Bool)) : Option VV → HP → Prop := fun v h' => v = some (vI (b2 (r.1 = true))) ∧ ∃ L' : Nat → Nat → Int64, h' = tH (lsH h L') r.2.1 ∧ (∀ x, x ≠ wb → ¬ W x → L' x = L x) ∧ (r.1 = true → ∀ u, u < 1296 → bts (L' wb) u = r.2.2 u)
def ahR (bt : Nat → Int32) (l : Nat) (p : PT) (w : Bool) : Bool × PT × (Nat → Bool) := (decide (¬ ahL bt l p w < 0), ahP3 bt l p w, ahS bt l p w)
theorem ev_ah3 (X : EX) {h : HP} (F : Fx h) {L : Nat → Nat → Int64} {l sb wb d : Nat} {W : Nat → Prop} {p : PT} {w : Bool} (hd7 : 7 ≤ d) (kS : StS h sb wb) : Ev X mX3_readOne d 0 0 (rdQ h L wb W (ahR (hI h 42) l p w)) 0 0 239 [(0, some (vR (some 40))), (2, some (vR (some sb))), (4, some (vI (b2 (w = true)))), (5, some (vI (ahY (hI h 42) l p))), (6, some (vI (ahC (hI h 42) l p))), (7, some (vI (ahL (hI h 42) l p w)))] [] (tH (lsH h L) (ahP3 (hI h 42) l p w)) := by
  refine e_iload aX3_readOne_239 rfl ?_
  refine e_if_ge aX3_readOne_241 (fun c241 => ?_) (fun c241 => ?_)
  · -- 241: taken
    have q241 : ¬ ahL (hI h 42) l p w < 0 := Int32.not_lt.mpr c241
    have n1 : ¬ ahC (hI h 42) l p < 0 := fun z => q241 (by unfold ahL; rw [if_pos z]; decide)
    have n2 : ¬ ahY (hI h 42) l p < 0 := fun z => n1 (by unfold ahC; rw [if_pos z]; decide)
    obtain ⟨yz, hy3, ey⟩ := tn_of (bt := hI h 42) (l := l) (p := p) (w := -1) 3 (by decide) n2
    obtain ⟨cz, hc2, ec⟩ : ∃ j, j ≤ 2 ∧ ahC (hI h 42) l p = nI j := by
      have e : ahC (hI h 42) l p = tnV (hI h 42) l (ahP1 (hI h 42) l p) 0 2 (-1) := if_neg n2
      rw [e] at n1 ⊢
      exact tn_of 2 (by decide) n1
    obtain ⟨lz, hl2, el⟩ : ∃ j, j ≤ 2 ∧ ahL (hI h 42) l p w = nI j := by
      have e : ahL (hI h 42) l p w = tnV (hI h 42) l (ahP2 (hI h 42) l p) 0 2 (if w = true then ahC (hI h 42) l p else -1) := if_neg n1
      rw [e] at q241 ⊢
      exact tn_of 2 (by decide) q241
    have ey : ahY (hI h 42) l p = nI yz := ey
    have eS : ahS (hI h 42) l p w = fun s => if w = true then decide (pl s (yz * 3 + cz) < pl s (yz * 3 + lz)) else decide (pl s (yz * 3 + cz) = lz) := by
      funext s
      unfold ahS
      rw [ey, ec, el, cl (by omega), cl (by omega), cl (by omega)]
    rw [ey, ec, el]
    have eR : ahR (hI h 42) l p w = (true, ahP3 (hI h 42) l p w, fun s => if w = true then decide (pl s (yz * 3 + cz) < pl s (yz * 3 + lz)) else decide (pl s (yz * 3 + cz) = lz)) := by
      unfold ahR
      rw [decide_eq_true q241, eS]
    rw [eR]
    refine e_iload aX3_readOne_246 rfl ?_
    refine e_iconst (v := 3) aX3_readOne_248 (by decide) ?_
    refine e_imul aX3_readOne_249 ?_
    refine e_top (nI_mul yz 3) ?_
    refine e_iload aX3_readOne_250 rfl ?_
    refine e_iadd aX3_readOne_252 ?_
    refine e_top (nI_add _ _) ?_
    refine e_istore aX3_readOne_253 (Nat.le_of_ble_eq_true rfl) ?_
    refine e_iload aX3_readOne_255 rfl ?_
    refine e_if_eq aX3_readOne_257 (fun c257 => ?_) (fun c257 => ?_)
    · -- 257: taken
      have q257 : ¬ w = true := b2_0.mp c257
      refine e_aload_n aX3_readOne_276 rfl ?_
      refine e_iload aX3_readOne_277 rfl ?_
      refine e_iload aX3_readOne_279 rfl ?_
      refine e_invv aX3_readOne_281 kX3_144 (zX6_becomeAt X (h := (tH (lsH h L) (ahP3 (hI h 42) l p w))) (sb := sb) (wb := wb) kS (p := yz * 3 + cz) (q := lz) (by omega) (by omega)) rfl rfl kS.1 (Nat.le_of_ble_eq_true rfl) (by omega) (Nat.le_refl _) (Nat.le_refl _) (Nat.le_of_ble_eq_true rfl) ?_
      rintro v h2 ⟨rfl, g, rfl, hg⟩
      refine e_iconst (v := 1) aX3_readOne_284 (by decide) ?_
      refine e_zreturn aX3_readOne_285 rfl (by decide) (Nat.le_refl _) (Nat.le_refl _) ?_
      refine ⟨rfl, (fun a i => if a = wb then g i else L a i), rfl, fun x hx _ => funext fun i => if_neg hx, fun _ u hu => ?_⟩
      show bitL (if wb = wb then g (u / 64) else L wb (u / 64)) (u % 64) = (if w = true then _ else _)
      rw [if_pos rfl, if_neg q257]
      exact hg u hu
    · -- 257: not taken
      have q257 : w = true := Decidable.of_not_not (fun z => c257 (b2_0.mpr z))
      refine e_aload_n aX3_readOne_260 rfl ?_
      refine e_iload aX3_readOne_261 rfl ?_
      refine e_iload aX3_readOne_263 rfl ?_
      refine e_iconst (v := 3) aX3_readOne_265 (by decide) ?_
      refine e_imul aX3_readOne_266 ?_
      refine e_top (nI_mul yz 3) ?_
      refine e_iload aX3_readOne_267 rfl ?_
      refine e_iadd aX3_readOne_269 ?_
      refine e_top (nI_add _ _) ?_
      refine e_invv aX3_readOne_270 kX3_140 (zX6_becomeAhead X (h := (tH (lsH h L) (ahP3 (hI h 42) l p w))) (sb := sb) (wb := wb) kS (p := yz * 3 + cz) (q := yz * 3 + lz) (by omega) (by omega)) rfl rfl kS.1 (Nat.le_of_ble_eq_true rfl) (by omega) (Nat.le_refl _) (Nat.le_refl _) (Nat.le_of_ble_eq_true rfl) ?_
      rintro v h2 ⟨rfl, g, rfl, hg⟩
      refine e_goto aX3_readOne_273 ?_
      refine e_iconst (v := 1) aX3_readOne_284 (by decide) ?_
      refine e_zreturn aX3_readOne_285 rfl (by decide) (Nat.le_refl _) (Nat.le_refl _) ?_
      refine ⟨rfl, (fun a i => if a = wb then g i else L a i), rfl, fun x hx _ => funext fun i => if_neg hx, fun _ u hu => ?_⟩
      show bitL (if wb = wb then g (u / 64) else L wb (u / 64)) (u % 64) = (if w = true then _ else _)
      rw [if_pos rfl, if_pos q257]
      exact hg u hu
  · -- 241: not taken
    have q241 : ahL (hI h 42) l p w < 0 := Int32.not_le.mp c241
    have eR : ahR (hI h 42) l p w = (false, ahP3 (hI h 42) l p w, ahS (hI h 42) l p w) := by
      unfold ahR
      rw [decide_eq_false (fun z => z q241)]
    rw [eR]
    refine e_iconst (v := 0) aX3_readOne_244 (by decide) ?_
    refine e_zreturn aX3_readOne_245 rfl (by decide) (Nat.le_refl _) (Nat.le_refl _) ?_
    exact ⟨rfl, L, rfl, fun _ _ _ => rfl, fun z => by cases z⟩
theorem ok1 {bt : Nat → Int32} {l : Nat} {p : PT} (z : okp l p) : okp l (ahP1 bt l p) := okp_t z
theorem ok2 {bt : Nat → Int32} {l : Nat} {p : PT} (z : okp l p) : okp l (ahP2 bt l p) := by
  unfold ahP2
  split
  · exact ok1 z
  · exact okp_t (ok1 z)
theorem ok3 {bt : Nat → Int32} {l : Nat} {p : PT} {w : Bool} (z : okp l p) : okp l (ahP3 bt l p w) := by
  unfold ahP3
  split
  · exact ok2 z
  · exact okp_t (ok2 z)
theorem ev_ah2 (X : EX) {h : HP} (F : Fx h) {L : Nat → Nat → Int64} {l sb wb d : Nat} {W : Nat → Prop} {p : PT} {w : Bool} (hd7 : 7 ≤ d) (kS : StS h sb wb) (t : TpL h l) (z : okp l p) : Ev X mX3_readOne d 0 0 (rdQ h L wb W (ahR (hI h 42) l p w)) 0 0 208 [(0, some (vR (some 40))), (2, some (vR (some sb))), (4, some (vI (b2 (w = true)))), (5, some (vI (ahY (hI h 42) l p))), (6, some (vI (ahC (hI h 42) l p)))] [] (tH (lsH h L) (ahP2 (hI h 42) l p)) := by
  refine e_iload aX3_readOne_208 rfl ?_
  refine e_if_ge aX3_readOne_210 (fun c210 => ?_) (fun c210 => ?_)
  · -- 210: taken
    have q210 : ¬ ahC (hI h 42) l p < 0 := Int32.not_lt.mpr c210
    refine e_aload_n aX3_readOne_217 rfl ?_
    refine e_getRF aX3_readOne_218 fX3_12 rfl (fx_is F rfl) (fx_r (b := 41) F rfl) ?_
    refine e_iconst (v := 0) aX3_readOne_221 (by decide) ?_
    refine e_iconst (v := 2) aX3_readOne_222 (by decide) ?_
    refine e_iload aX3_readOne_223 rfl ?_
    refine e_if_eq aX3_readOne_225 (fun c225 => ?_) (fun c225 => ?_)
    · -- 225: taken
      have q225 : ¬ w = true := b2_0.mp c225
      refine e_iconst (v := -1) aX3_readOne_233 (by decide) ?_
      refine e_invvT aX3_readOne_234 kX3_67 (ztn X (h := lsH h L) F (l := l) t (ok2 z) 0 2 _) rfl rfl (fx_is F rfl) (Nat.le_of_ble_eq_true rfl) (by omega) (Nat.le_refl _) (Nat.le_refl _) (Nat.le_of_ble_eq_true rfl) ?_
      refine e_istore aX3_readOne_237 (Nat.le_of_ble_eq_true rfl) ?_
      have e1 : ahL (hI h 42) l p w = tnV (hI h 42) l (ahP2 (hI h 42) l p) 0 2 (-1) := (if_neg q210).trans (by rw [if_neg q225])
      have e2 : ahP3 (hI h 42) l p w = tnX (hI h 42) l (ahP2 (hI h 42) l p) 0 2 (-1) := (if_neg q210).trans (by rw [if_neg q225])
      refine e_ls (ls' := [(0, some (vR (some 40))), (2, some (vR (some sb))), (4, some (vI (b2 (w = true)))), (5, some (vI (ahY (hI h 42) l p))), (6, some (vI (ahC (hI h 42) l p))), (7, some (vI (ahL (hI h 42) l p w)))]) ⟨rfl, rfl, rfl, rfl, rfl, (by rw [e1] <;> rfl), trivial⟩ ?_
      refine e_hp (h2 := (tH (lsH h L) (ahP3 (hI h 42) l p w))) (by rw [e2] <;> rfl) ?_
      exact ev_ah3 X F hd7 kS
    · -- 225: not taken
      have q225 : w = true := Decidable.of_not_not (fun z => c225 (b2_0.mpr z))
      refine e_iload aX3_readOne_228 rfl ?_
      refine e_goto aX3_readOne_230 ?_
      refine e_invvT aX3_readOne_234 kX3_67 (ztn X (h := lsH h L) F (l := l) t (ok2 z) 0 2 _) rfl rfl (fx_is F rfl) (Nat.le_of_ble_eq_true rfl) (by omega) (Nat.le_refl _) (Nat.le_refl _) (Nat.le_of_ble_eq_true rfl) ?_
      refine e_istore aX3_readOne_237 (Nat.le_of_ble_eq_true rfl) ?_
      have e1 : ahL (hI h 42) l p w = tnV (hI h 42) l (ahP2 (hI h 42) l p) 0 2 (ahC (hI h 42) l p) := (if_neg q210).trans (by rw [if_pos q225])
      have e2 : ahP3 (hI h 42) l p w = tnX (hI h 42) l (ahP2 (hI h 42) l p) 0 2 (ahC (hI h 42) l p) := (if_neg q210).trans (by rw [if_pos q225])
      refine e_ls (ls' := [(0, some (vR (some 40))), (2, some (vR (some sb))), (4, some (vI (b2 (w = true)))), (5, some (vI (ahY (hI h 42) l p))), (6, some (vI (ahC (hI h 42) l p))), (7, some (vI (ahL (hI h 42) l p w)))]) ⟨rfl, rfl, rfl, rfl, rfl, (by rw [e1] <;> rfl), trivial⟩ ?_
      refine e_hp (h2 := (tH (lsH h L) (ahP3 (hI h 42) l p w))) (by rw [e2] <;> rfl) ?_
      exact ev_ah3 X F hd7 kS
  · -- 210: not taken
    have q210 : ahC (hI h 42) l p < 0 := Int32.not_le.mp c210
    refine e_iconst (v := -1) aX3_readOne_213 (by decide) ?_
    refine e_goto aX3_readOne_214 ?_
    refine e_istore aX3_readOne_237 (Nat.le_of_ble_eq_true rfl) ?_
    have e1 : ahL (hI h 42) l p w = -1 := if_pos q210
    have e2 : ahP3 (hI h 42) l p w = ahP2 (hI h 42) l p := if_pos q210
    refine e_ls (ls' := [(0, some (vR (some 40))), (2, some (vR (some sb))), (4, some (vI (b2 (w = true)))), (5, some (vI (ahY (hI h 42) l p))), (6, some (vI (ahC (hI h 42) l p))), (7, some (vI (ahL (hI h 42) l p w)))]) ⟨rfl, rfl, rfl, rfl, rfl, (by rw [e1] <;> rfl), trivial⟩ ?_
    refine e_hp (h2 := (tH (lsH h L) (ahP3 (hI h 42) l p w))) (by rw [e2] <;> rfl) ?_
    exact ev_ah3 X F hd7 kS
theorem ev_ah1 (X : EX) {h : HP} (F : Fx h) {L : Nat → Nat → Int64} {l sb wb d : Nat} {W : Nat → Prop} {p : PT} {w : Bool} (hd7 : 7 ≤ d) (kS : StS h sb wb) (t : TpL h l) (z : okp l p) : Ev X mX3_readOne d 0 0 (rdQ h L wb W (ahR (hI h 42) l p w)) 0 0 175 [(0, some (vR (some 40))), (2, some (vR (some sb))), (4, some (vI (b2 (w = true))))] [] (tH (lsH h L) p) := by
  refine e_aload_n aX3_readOne_175 rfl ?_
  refine e_getRF aX3_readOne_176 fX3_12 rfl (fx_is F rfl) (fx_r (b := 41) F rfl) ?_
  refine e_iconst (v := 0) aX3_readOne_179 (by decide) ?_
  refine e_iconst (v := 3) aX3_readOne_180 (by decide) ?_
  refine e_iconst (v := -1) aX3_readOne_181 (by decide) ?_
  refine e_invvT aX3_readOne_182 kX3_67 (ztn X (h := lsH h L) F (l := l) (p := p) t z 0 3 (-1)) rfl rfl (fx_is F rfl) (Nat.le_of_ble_eq_true rfl) (by omega) (Nat.le_refl _) (Nat.le_refl _) (Nat.le_of_ble_eq_true rfl) ?_
  refine e_istore aX3_readOne_185 (Nat.le_of_ble_eq_true rfl) ?_
  refine e_iload aX3_readOne_187 rfl ?_
  refine e_if_ge aX3_readOne_189 (fun c189 => ?_) (fun c189 => ?_)
  · -- 189: taken
    have q189 : ¬ ahY (hI h 42) l p < 0 := Int32.not_lt.mpr c189
    refine e_aload_n aX3_readOne_196 rfl ?_
    refine e_getRF aX3_readOne_197 fX3_12 rfl (fx_is F rfl) (fx_r (b := 41) F rfl) ?_
    refine e_iconst (v := 0) aX3_readOne_200 (by decide) ?_
    refine e_iconst (v := 2) aX3_readOne_201 (by decide) ?_
    refine e_iconst (v := -1) aX3_readOne_202 (by decide) ?_
    refine e_invvT aX3_readOne_203 kX3_67 (ztn X (h := lsH h L) F (l := l) (p := ahP1 (hI h 42) l p) t (ok1 z) 0 2 (-1)) rfl rfl (fx_is F rfl) (Nat.le_of_ble_eq_true rfl) (by omega) (Nat.le_refl _) (Nat.le_refl _) (Nat.le_of_ble_eq_true rfl) ?_
    refine e_istore aX3_readOne_206 (Nat.le_of_ble_eq_true rfl) ?_
    have e1 : ahC (hI h 42) l p = tnV (hI h 42) l (ahP1 (hI h 42) l p) 0 2 (-1) := if_neg q189
    have e2 : ahP2 (hI h 42) l p = tnX (hI h 42) l (ahP1 (hI h 42) l p) 0 2 (-1) := if_neg q189
    refine e_ls (ls' := [(0, some (vR (some 40))), (2, some (vR (some sb))), (4, some (vI (b2 (w = true)))), (5, some (vI (ahY (hI h 42) l p))), (6, some (vI (ahC (hI h 42) l p)))]) ⟨rfl, rfl, rfl, rfl, (by rw [e1] <;> rfl), trivial⟩ ?_
    refine e_hp (h2 := (tH (lsH h L) (ahP2 (hI h 42) l p))) (by rw [e2] <;> rfl) ?_
    exact ev_ah2 X F hd7 kS t z
  · -- 189: not taken
    have q189 : ahY (hI h 42) l p < 0 := Int32.not_le.mp c189
    refine e_iconst (v := -1) aX3_readOne_192 (by decide) ?_
    refine e_goto aX3_readOne_193 ?_
    refine e_istore aX3_readOne_206 (Nat.le_of_ble_eq_true rfl) ?_
    have e1 : ahC (hI h 42) l p = -1 := if_pos q189
    have e2 : ahP2 (hI h 42) l p = ahP1 (hI h 42) l p := if_pos q189
    refine e_ls (ls' := [(0, some (vR (some 40))), (2, some (vR (some sb))), (4, some (vI (b2 (w = true)))), (5, some (vI (ahY (hI h 42) l p))), (6, some (vI (ahC (hI h 42) l p)))]) ⟨rfl, rfl, rfl, rfl, (by rw [e1] <;> rfl), trivial⟩ ?_
    refine e_hp (h2 := (tH (lsH h L) (ahP2 (hI h 42) l p))) (by rw [e2] <;> rfl) ?_
    exact ev_ah2 X F hd7 kS t z
