/-! THE LAW: what stays, STANDINGS (written by wip/p45/g99e.py) -/
abbrev mL (nm : String) : MD := ((⟨RL, nm, "([I)Z"⟩ : MethodName), code, 17, ret)
def QL : Option VV → HP → Prop := fun v _ => v = some (vI 1)
/-- both sides, no image -/
def WW (h : HP) (f n : Nat) (o A : Nat → Nat) (D : Nat → DD) (tS : Nat → Int32) (qS σ : Nat → Nat) : Prop := JJ h (f, n, o, A, D) 0 (f, n, o, A, D) tS qS σ ∧ OwB h (f, n, o, A, D)
/-- what is so whatever happens -/
def WP (f n : Nat) (o A : Nat → Nat) (D : Nat → DD) (tS : Nat → Int32) (qS σ : Nat → Nat) : Prop := okQ (f, n, o, A, D) ∧ f ≤ 2 ∧ n ≤ 9 ∧ tS 0 = 0 ∧ qS 0 = n ∧ tS 1 = 1 ∧ qS 1 = 12 ∧ (∀ i, i < n → σ i < n) ∧ (∀ i j, i < n → j < n → σ i = σ j → i = j) ∧ ∀ k, k < n → ∃ a, a < n ∧ σ a = k
theorem WW.cx {h : HP} {f n : Nat} {o A : Nat → Nat} {D : Nat → DD} {tS : Nat → Int32} {qS σ : Nat → Nat} (W : WW h f n o A D tS qS σ) : CX h (f, n, o, A, D) 0 (f, n, o, A, D) tS qS := W.1.1
theorem WW.fn {h h2 : HP} {f n : Nat} {o A : Nat → Nat} {D : Nat → DD} {tS : Nat → Int32} {qS σ : Nat → Nat} (W : WW h f n o A D tS qS σ) (k : FN h h2) : WW h2 f n o A D tS qS σ := ⟨W.1.fn k, W.2.fn k W.1.1.1⟩
theorem WW.st {h h2 : HP} {f n : Nat} {o A : Nat → Nat} {D : Nat → DD} {tS : Nat → Int32} {qS σ : Nat → Nat} (W : WW h f n o A D tS qS σ) (cx : CX h2 (f, n, o, A, D) 0 (f, n, o, A, D) tS qS) (ow : OwB h2 (f, n, o, A, D)) (cf : CF h h2) (cl9 : CL h h2) : WW h2 f n o A D tS qS σ := ⟨W.1.st cx cf cl9, ow⟩
theorem WW.gb {h h2 : HP} {f n : Nat} {o A : Nat → Nat} {D : Nat → DD} {tS : Nat → Int32} {qS σ : Nat → Nat} (W : WW h f n o A D tS qS σ) (g : Gb h h2) : WW h2 f n o A D tS qS σ := by
  have K : Kc (fun a i => a = 0 ∧ False) (fun a _ => a = 0 ∧ False) (fun a => a = 0 ∧ False) h h2 := Kc.gb W.1.1.1 g
  exact W.st (W.cx.k K (fun a j _ z => z.2.elim) (fun a j _ z => z.2)) (W.2.k K (fun j z => z.2)) (CF.gb W.1.1.1 g) (CL.k K (fun z => z.2))
theorem WW.fk {h h2 : HP} {f n : Nat} {o A : Nat → Nat} {D : Nat → DD} {tS : Nat → Int32} {qS σ : Nat → Nat} (W : WW h f n o A D tS qS σ) (k : FK h h2) : WW h2 f n o A D tS qS σ := ⟨k.J W.1, k.o W.2⟩
theorem WW.ly {h : HP} {f n : Nat} {o A : Nat → Nat} {D : Nat → DD} {tS : Nat → Int32} {qS σ : Nat → Nat} (W : WW h f n o A D tS qS σ) : LY h f o := by
  obtain ⟨m, e1, e2, fa, τ, E, ll, lt, ly⟩ := W.1.2.1
  exact ly
theorem oN_eq {q : Option Nat} {p : Nat} (hq : ∀ k, q = some k → k < 1073741824) (hp : p < 1073741824) : oN q = nI p ↔ q = some p := by
  cases q with
  | none =>
    refine ⟨fun z => ?_, fun z => by cases z⟩
    have z : (-1000004 : Int32) = nI p := z
    exact absurd (z ▸ nI_pos' (n := p) (by omega)) (by decide)
  | some k =>
    refine ⟨fun z => ?_, fun z => by injection z with z; rw [z]; rfl⟩
    have z : nI k = nI p := z
    rw [(nI_eq (by have := hq k rfl; omega) (by omega)).mp z]
theorem ofV_w {d : DD} {x y w : Nat} (hw : w < 2) : ofV d x y (1 + w) = nI (if w = 0 then dF d else dT d) := by
  rcases (show w = 0 ∨ w = 1 by omega) with rfl | rfl <;> rfl
/-- the clubs that a chain has had -/
def sT (L : List Nat) : Nat → Int32
  | 0 => 0
  | j + 1 => sT L j ||| ((1 : Int32) <<< (nI (L.getD j 0) &&& 31))
theorem sT_b {L : List Nat} (h3 : ∀ c, c ∈ L → c < 3) {c : Nat} (hc : c < 12) : ∀ k, k ≤ L.length → btI (sT L k) c = true → ∃ j, j < k ∧ L.getD j 0 = c := by
  intro k
  induction k with
  | zero =>
    intro _ z
    have z : btI 0 c = true := z
    rw [bt0 c (by omega)] at z
    cases z
  | succ k ih =>
    intro hk z
    have z : btI (sT L k ||| ((1 : Int32) <<< (nI (L.getD k 0) &&& 31))) c = true := z
    have := h3 _ (getD_mem (show k < L.length by omega))
    rw [bt_or1 (by omega) hc] at z
    by_cases y : c = L.getD k 0
    · exact ⟨k, by omega, y.symm⟩
    · rw [if_neg y] at z
      obtain ⟨j, h1, h2⟩ := ih (by omega) z
      exact ⟨j, by omega, h2⟩
theorem law_clubs {X : EX} {nm : String} {cells slots f n : Nat} {o A : Nat → Nat} {D : Nat → DD} {tS : Nat → Int32} {qS σ : Nat → Nat} {h : HP} {v : Nat} {x5 : Int32} (W : WW h f n o A D tS qS σ) (h1 : fo o f ≤ v) (h2 : v < fo o f + om f) (hc0 : cells ≤ 400000) (hs0 : slots ≤ 4000000) (k : Ev X (mL nm) 40 400000 4000000 QL cells slots 211 [(0, some (vR (some 6))), (1, some (vR (some 32))), (2, some (vR (some 109))), (3, some (vI (nI n))), (5, some (vI x5)), (6, some (vI (nI v))), (7, some (vI (aH D n v 3))), (8, some (vI (nI (sW D n v 3))))] [] h) : Ev X (mL nm) 40 400000 4000000 QL cells slots 159 [(0, some (vR (some 6))), (1, some (vR (some 32))), (2, some (vR (some 109))), (3, some (vI (nI n))), (5, some (vI x5)), (6, some (vI (nI v))), (7, some (vI 0)), (8, some (vI 0)), (9, some (vI 0))] [] h := by
  have F := W.cx.1
  have lp : ∀ (mc c : Nat), c + mc = 3 → Ev X (mL nm) 40 400000 4000000 QL cells slots 159 [(0, some (vR (some 6))), (1, some (vR (some 32))), (2, some (vR (some 109))), (3, some (vI (nI n))), (5, some (vI x5)), (6, some (vI (nI v))), (7, some (vI (aH D n v c))), (8, some (vI (nI (sW D n v c)))), (9, some (vI (nI c)))] [] h := by
    intro mc
    induction mc with
    | zero =>
      intro c hc
      obtain rfl : c = 3 := by omega
      refine e_iload aL_law_159 rfl ?_
      refine e_iconst (v := 3) aL_law_161 (by decide) ?_
      refine e_icmp_ge aL_law_162 (fun c162 => ?_) (fun c162 => ?_)
      · -- 162: taken
        refine e_ls (ls' := [(0, some (vR (some 6))), (1, some (vR (some 32))), (2, some (vR (some 109))), (3, some (vI (nI n))), (5, some (vI x5)), (6, some (vI (nI v))), (7, some (vI (aH D n v 3))), (8, some (vI (nI (sW D n v 3))))]) ⟨rfl, rfl, rfl, rfl, rfl, rfl, rfl, rfl, trivial⟩ ?_
        exact k
      · -- 162: not taken
        exact absurd (nI_le (a := 3) (b := 3) (by omega) (by omega)) c162
    | succ mc ih =>
      intro c hc
      refine e_iload aL_law_159 rfl ?_
      refine e_iconst (v := 3) aL_law_161 (by decide) ?_
      refine e_icmp_ge aL_law_162 (fun c162 => ?_) (fun c162 => ?_)
      · -- 162: taken
        exact absurd c162 (nI_ge (b := 3) (by omega) (by omega))
      · -- 162: not taken
        refine e_aload_n aL_law_165 rfl ?_
        refine e_iload aL_law_166 rfl ?_
        refine e_iload aL_law_168 rfl ?_
        refine e_invvT aL_law_170 kL_132 (a_hand W.cx W.2 h1 h2 (c := c) (by omega)) rfl rfl (fx_is F rfl) (Nat.le_of_ble_eq_true rfl) (Nat.le_of_ble_eq_true rfl) (by omega) (by omega) (Nat.le_of_ble_eq_true rfl) ?_
        refine e_istore aL_law_173 (Nat.le_of_ble_eq_true rfl) ?_
        refine e_iload aL_law_175 rfl ?_
        refine e_iload aL_law_177 rfl ?_
        refine e_iand aL_law_179 ?_
        refine e_if_eq aL_law_180 (fun c180 => ?_) (fun c180 => ?_)
        · -- 180: taken
          skip
          refine e_iload aL_law_185 rfl ?_
          refine e_iload aL_law_187 rfl ?_
          refine e_ior aL_law_189 ?_
          refine e_istore aL_law_190 (Nat.le_of_ble_eq_true rfl) ?_
          refine e_iload aL_law_192 rfl ?_
          refine e_aload_n aL_law_194 rfl ?_
          refine e_iload aL_law_195 rfl ?_
          refine e_iload aL_law_197 rfl ?_
          refine e_invvT aL_law_199 kL_135 (a_worth W.cx W.2 h1 h2 (c := c) (by omega)) rfl rfl (fx_is F rfl) (Nat.le_of_ble_eq_true rfl) (Nat.le_of_ble_eq_true rfl) (by omega) (by omega) (Nat.le_of_ble_eq_true rfl) ?_
          refine e_iadd aL_law_202 ?_
          refine e_top (v := nI (sW D n v (c + 1))) (nI_add _ _) ?_
          refine e_istore aL_law_203 (Nat.le_of_ble_eq_true rfl) ?_
          refine e_iinc aL_law_205 rfl rfl (Nat.le_of_ble_eq_true rfl) ?_
          refine e_goto aL_law_208 ?_
          refine e_ls (ls' := [(0, some (vR (some 6))), (1, some (vR (some 32))), (2, some (vR (some 109))), (3, some (vI (nI n))), (5, some (vI x5)), (6, some (vI (nI v))), (7, some (vI (aH D n v (c + 1)))), (8, some (vI (nI (sW D n v (c + 1))))), (9, some (vI (nI (c + 1))))]) ⟨rfl, rfl, rfl, rfl, rfl, rfl, rfl, rfl, congrArg (fun x => some (vI x)) (nI_1 c), trivial⟩ ?_
          exact ih (c + 1) (by omega)
        · -- 180: not taken
          exact absurd aH_and c180
  exact lp 3 0 rfl
theorem law_lays {X : EX} {nm : String} {cells slots f n : Nat} {o A : Nat → Nat} {D : Nat → DD} {tS : Nat → Int32} {qS σ : Nat → Nat} {h : HP} {v : Nat} {x5 : Int32} (W : WW h f n o A D tS qS σ) (P : WP f n o A D tS qS σ) (h1 : fo o f ≤ v) (h2 : v < fo o f + om f) (hc0 : cells + 4 ≤ 400000) (hs0 : slots + 32 ≤ 4000000) (k : ∀ h2, WW h2 f n o A D tS qS σ → Ev X (mL nm) 40 400000 4000000 QL (cells + 2 + 2) (slots + 16 + 16) 277 [(0, some (vR (some 6))), (1, some (vR (some 32))), (2, some (vR (some 109))), (3, some (vI (nI n))), (5, some (vI x5)), (6, some (vI (nI v))), (9, some (vI (nI 0)))] [] h2) : Ev X (mL nm) 40 400000 4000000 QL cells slots 211 [(0, some (vR (some 6))), (1, some (vR (some 32))), (2, some (vR (some 109))), (3, some (vI (nI n))), (5, some (vI x5)), (6, some (vI (nI v))), (7, some (vI (aH D n v 3))), (8, some (vI (nI (sW D n v 3))))] [] h := by
  have F := W.cx.1
  obtain ⟨ok, hf2, hn9, t0, q0, t1, q1, hσ, hj, hsur⟩ := P
  obtain ⟨r1, r2⟩ := rounds_ok (σ := σ) (by omega) (cx_w W.cx) (ok v h1 h2) hσ hsur
  refine e_iload aL_law_211 rfl ?_
  refine e_sipush (v := 4095) aL_law_213 (by decide) ?_
  refine e_icmp_ne aL_law_216 (fun c216 => ?_) (fun c216 => ?_)
  · -- 216: taken
    exact absurd (aH_3 (cx_o W.cx v)) c216
  · -- 216: not taken
    skip
    refine e_iload aL_law_219 rfl ?_
    refine e_bipush (v := 56) aL_law_221 (by decide) ?_
    refine e_icmp_ne aL_law_223 (fun c223 => ?_) (fun c223 => ?_)
    · -- 223: taken
      exact absurd (by rw [sW_3 (cx_o W.cx v)]; rfl) c223
    · -- 223: not taken
      skip
      refine e_aload_n aL_law_226 rfl ?_
      refine e_iconst (v := 1) aL_law_227 (by decide) ?_
      refine e_iload aL_law_228 rfl ?_
      refine e_invv aL_law_230 kL_138 (s_lays X W.cx W.2 h1 h2 t1 q1) rfl rfl (fx_is F rfl) (Nat.le_of_ble_eq_true rfl) (Nat.le_of_ble_eq_true rfl) (by omega) (by omega) (Nat.le_of_ble_eq_true rfl) ?_
      rintro v2 h3 ⟨rfl, cx2, ow2, cf2, cl2, e2⟩
      have W2 := W.st cx2 ow2 cf2 cl2
      have F := cx2.1
      refine e_bipush (v := 12) aL_law_233 (by decide) ?_
      refine e_icmp_ne aL_law_235 (fun c235 => ?_) (fun c235 => ?_)
      · -- 235: taken
        exact absurd rfl c235
      · -- 235: not taken
        skip
        refine e_aload_n aL_law_238 rfl ?_
        refine e_iconst (v := 1) aL_law_239 (by decide) ?_
        refine e_iload aL_law_240 rfl ?_
        refine e_invvT aL_law_242 kL_141 (s_judge X cx2 h1 h2 t1 q1 e2) rfl rfl (fx_is F rfl) (Nat.le_of_ble_eq_true rfl) (Nat.le_of_ble_eq_true rfl) (by omega) (by omega) (Nat.le_of_ble_eq_true rfl) ?_
        refine e_if_ne aL_law_245 (fun c245 => ?_) (fun c245 => ?_)
        · -- 245: taken
          exact absurd rfl c245
        · -- 245: not taken
          skip
          refine e_aload_n aL_law_248 rfl ?_
          refine e_iconst (v := 0) aL_law_249 (by decide) ?_
          refine e_iload aL_law_250 rfl ?_
          refine e_invv aL_law_252 kL_144 (s_rounds X cx2 ow2 h1 h2 t0 q0 (fun i hi => ⟨W2.1.2.2 i hi, hσ i hi⟩) hj) rfl rfl (fx_is F rfl) (Nat.le_of_ble_eq_true rfl) (Nat.le_of_ble_eq_true rfl) (by omega) (by omega) (Nat.le_of_ble_eq_true rfl) ?_
          rintro v3 h4 ⟨rfl, cx3, ow3, cf3, cl3⟩
          have W3 := W2.st cx3 ow3 cf3 cl3
          have F := cx3.1
          refine e_iconst (v := 1) aL_law_255 (by decide) ?_
          refine e_icmp_lt aL_law_256 (fun c256 => ?_) (fun c256 => ?_)
          · -- 256: taken
            exact absurd ((nI_ltI (b := 1) (by omega) (by decide)).mp c256) (by omega)
          · -- 256: not taken
            skip
            refine e_aload_n aL_law_259 rfl ?_
            refine e_iconst (v := 0) aL_law_260 (by decide) ?_
            refine e_iload aL_law_261 rfl ?_
            refine e_invv aL_law_263 kL_144 (s_rounds X cx3 ow3 h1 h2 t0 q0 (fun i hi => ⟨W3.1.2.2 i hi, hσ i hi⟩) hj) rfl rfl (fx_is F rfl) (Nat.le_of_ble_eq_true rfl) (Nat.le_of_ble_eq_true rfl) (by omega) (by omega) (Nat.le_of_ble_eq_true rfl) ?_
            rintro v4 h5 ⟨rfl, cx4, ow4, cf4, cl4⟩
            have W4 := W3.st cx4 ow4 cf4 cl4
            have F := cx4.1
            refine e_iload_n aL_law_266 rfl ?_
            refine e_iconst (v := 1) aL_law_267 (by decide) ?_
            refine e_iadd aL_law_268 ?_
            refine e_top (nI_1 n) ?_
            refine e_icmp_le aL_law_269 (fun c269 => ?_) (fun c269 => ?_)
            · -- 269: taken
              skip
              refine e_iconst (v := 0) aL_law_274 (by decide) ?_
              refine e_istore aL_law_275 (Nat.le_of_ble_eq_true rfl) ?_
              refine e_ls (ls' := [(0, some (vR (some 6))), (1, some (vR (some 32))), (2, some (vR (some 109))), (3, some (vI (nI n))), (5, some (vI x5)), (6, some (vI (nI v))), (9, some (vI (nI 0)))]) ⟨rfl, rfl, rfl, rfl, rfl, rfl, rfl, trivial⟩ ?_
              exact k h5 W4
            · -- 269: not taken
              exact absurd (nI_le (by omega) (by omega)) c269
theorem law_by {X : EX} {nm : String} {cells slots f n : Nat} {o A : Nat → Nat} {D : Nat → DD} {tS : Nat → Int32} {qS σ : Nat → Nat} {h : HP} {v p c : Nat} {x5 x10 x11 x12 : Int32} (W : WW h f n o A D tS qS σ) (hv : v < 1296) (hp : p < 12) (hc : c < 3) (hc0 : cells ≤ 400000) (hs0 : slots ≤ 4000000) (k : ∀ h2, WW h2 f n o A D tS qS σ → Ev X (mL nm) 40 400000 4000000 QL cells slots 468 [(0, some (vR (some 6))), (1, some (vR (some 32))), (2, some (vR (some 109))), (3, some (vI (nI n))), (5, some (vI x5)), (6, some (vI (nI v))), (9, some (vI (nI p))), (10, some (vI x10)), (11, some (vI x11)), (12, some (vI x12)), (13, some (vI (nI c))), (14, some (vI (nI (byN D v p c n))))] [] h2) : Ev X (mL nm) 40 400000 4000000 QL cells slots 401 [(0, some (vR (some 6))), (1, some (vR (some 32))), (2, some (vR (some 109))), (3, some (vI (nI n))), (5, some (vI x5)), (6, some (vI (nI v))), (9, some (vI (nI p))), (10, some (vI x10)), (11, some (vI x11)), (12, some (vI x12)), (13, some (vI (nI c))), (14, some (vI (nI 0))), (15, some (vI (nI 0)))] [] h := by
  have hn12 := (cx_b W.cx).2.2.1
  have wD := cx_w W.cx
  have lp : ∀ (mq q : Nat) (hz : HP), q + mq = n → WW hz f n o A D tS qS σ → Ev X (mL nm) 40 400000 4000000 QL cells slots 401 [(0, some (vR (some 6))), (1, some (vR (some 32))), (2, some (vR (some 109))), (3, some (vI (nI n))), (5, some (vI x5)), (6, some (vI (nI v))), (9, some (vI (nI p))), (10, some (vI x10)), (11, some (vI x11)), (12, some (vI x12)), (13, some (vI (nI c))), (14, some (vI (nI (byN D v p c q)))), (15, some (vI (nI q)))] [] hz := by
    intro mq
    induction mq with
    | zero =>
      intro q hz hk W
      have F := W.cx.1
      refine e_iload aL_law_401 rfl ?_
      refine e_iload_n aL_law_403 rfl ?_
      refine e_icmp_ge aL_law_404 (fun c404 => ?_) (fun c404 => ?_)
      · -- 404: taken
        refine e_ls (ls' := [(0, some (vR (some 6))), (1, some (vR (some 32))), (2, some (vR (some 109))), (3, some (vI (nI n))), (5, some (vI x5)), (6, some (vI (nI v))), (9, some (vI (nI p))), (10, some (vI x10)), (11, some (vI x11)), (12, some (vI x12)), (13, some (vI (nI c))), (14, some (vI (nI (byN D v p c n))))]) ⟨rfl, rfl, rfl, rfl, rfl, rfl, rfl, rfl, rfl, rfl, rfl, congrArg (fun x => some (vI x)) (congrArg (fun z => nI (byN D v p c z)) (show q = n by omega)), trivial⟩ ?_
        exact k hz W
      · -- 404: not taken
        exact absurd (nI_le (a := n) (b := q) (by omega) (by omega)) c404
    | succ mq ih =>
      intro q hz hk W
      have F := W.cx.1
      have hq : q < n := by omega
      have wq := wD q hq
      have hd1 : dF (D q) < 3 := wq.2.1
      have hd2 : dT (D q) < 3 := wq.2.2.1
      have pass : ∀ (w N : Nat) (hz : HP), w < 2 → WW hz f n o A D tS qS σ → (∀ h2, WW h2 f n o A D tS qS σ → Ev X (mL nm) 40 400000 4000000 QL cells slots 410 [(0, some (vR (some 6))), (1, some (vR (some 32))), (2, some (vR (some 109))), (3, some (vI (nI n))), (5, some (vI x5)), (6, some (vI (nI v))), (9, some (vI (nI p))), (10, some (vI x10)), (11, some (vI x11)), (12, some (vI x12)), (13, some (vI (nI c))), (14, some (vI (nI (N + bW (D q) v p c w)))), (15, some (vI (nI q))), (16, some (vI (nI (w + 1))))] [] h2) → Ev X (mL nm) 40 400000 4000000 QL cells slots 410 [(0, some (vR (some 6))), (1, some (vR (some 32))), (2, some (vR (some 109))), (3, some (vI (nI n))), (5, some (vI x5)), (6, some (vI (nI v))), (9, some (vI (nI p))), (10, some (vI x10)), (11, some (vI x11)), (12, some (vI x12)), (13, some (vI (nI c))), (14, some (vI (nI N))), (15, some (vI (nI q))), (16, some (vI (nI w)))] [] hz := by
        intro w N hz hw W kk
        have F := W.cx.1
        have hd : (if w = 0 then dF (D q) else dT (D q)) < 3 := by split <;> assumption
        refine e_iload aL_law_410 rfl ?_
        refine e_iconst (v := 2) aL_law_412 (by decide) ?_
        refine e_icmp_ge aL_law_413 (fun c413 => ?_) (fun c413 => ?_)
        · -- 413: taken
          exact absurd c413 (nI_ge (b := 2) (by omega) (by omega))
        · -- 413: not taken
          refine e_iload aL_law_416 rfl ?_
          refine e_aload_n aL_law_418 rfl ?_
          refine e_iload aL_law_419 rfl ?_
          refine e_iload aL_law_421 rfl ?_
          refine e_iload aL_law_423 rfl ?_
          refine e_invv aL_law_425 kL_153 (a_conveys W.cx hq hv hw) rfl rfl (fx_is F rfl) (Nat.le_of_ble_eq_true rfl) (Nat.le_of_ble_eq_true rfl) (by omega) (by omega) (Nat.le_of_ble_eq_true rfl) ?_
          rintro v2 h2 ⟨rfl, fn⟩
          have W2 := W.fn fn
          have F := W2.cx.1
          refine e_iload aL_law_428 rfl ?_
          refine e_icmp_ne aL_law_430 (fun c430 => ?_) (fun c430 => ?_)
          · -- 430: taken
            have q430 := (not_congr (oN_eq (fun k9 e9 => Nat.lt_trans (cvW_lt wq e9) (by decide)) (by omega))).mp c430
            refine e_iconst (v := 0) aL_law_452 (by decide) ?_
            refine e_iadd aL_law_453 ?_
            refine e_top (v := nI (N + bW (D q) v p c w)) (by unfold bW; rw [if_neg (fun z => q430 z.1)]; exact Int32.add_zero _) ?_
            refine e_istore aL_law_454 (Nat.le_of_ble_eq_true rfl) ?_
            refine e_iinc aL_law_456 rfl rfl (Nat.le_of_ble_eq_true rfl) ?_
            refine e_goto aL_law_459 ?_
            refine e_ls (ls' := [(0, some (vR (some 6))), (1, some (vR (some 32))), (2, some (vR (some 109))), (3, some (vI (nI n))), (5, some (vI x5)), (6, some (vI (nI v))), (9, some (vI (nI p))), (10, some (vI x10)), (11, some (vI x11)), (12, some (vI x12)), (13, some (vI (nI c))), (14, some (vI (nI (N + bW (D q) v p c w)))), (15, some (vI (nI q))), (16, some (vI (nI (w + 1))))]) ⟨rfl, rfl, rfl, rfl, rfl, rfl, rfl, rfl, rfl, rfl, rfl, rfl, rfl, congrArg (fun x => some (vI x)) (nI_1 w), trivial⟩ ?_
            exact kk h2 W2
          · -- 430: not taken
            have q430 := (oN_eq (fun k9 e9 => Nat.lt_trans (cvW_lt wq e9) (by decide)) (by omega)).mp c430
            refine e_aload_n aL_law_433 rfl ?_
            refine e_iload aL_law_434 rfl ?_
            refine e_iconst (v := 1) aL_law_436 (by decide) ?_
            refine e_iload aL_law_437 rfl ?_
            refine e_iadd aL_law_439 ?_
            refine e_top (v := nI (1 + w)) (nI_add 1 w) ?_
            refine e_invvT aL_law_440 kL_108 (a_of W2.cx (k := q) (i := 1 + w) hq (by omega)) rfl rfl (fx_is F rfl) (Nat.le_of_ble_eq_true rfl) (Nat.le_of_ble_eq_true rfl) (by omega) (by omega) (Nat.le_of_ble_eq_true rfl) ?_
            refine e_top (ofV_w hw) ?_
            refine e_iload aL_law_443 rfl ?_
            refine e_icmp_ne aL_law_445 (fun c445 => ?_) (fun c445 => ?_)
            · -- 445: taken
              have q445 := (not_congr (nI_eq (by omega) (by omega))).mp c445
              refine e_iconst (v := 0) aL_law_452 (by decide) ?_
              refine e_iadd aL_law_453 ?_
              refine e_top (v := nI (N + bW (D q) v p c w)) (by unfold bW; rw [if_neg (fun z => q445 z.2)]; exact Int32.add_zero _) ?_
              refine e_istore aL_law_454 (Nat.le_of_ble_eq_true rfl) ?_
              refine e_iinc aL_law_456 rfl rfl (Nat.le_of_ble_eq_true rfl) ?_
              refine e_goto aL_law_459 ?_
              refine e_ls (ls' := [(0, some (vR (some 6))), (1, some (vR (some 32))), (2, some (vR (some 109))), (3, some (vI (nI n))), (5, some (vI x5)), (6, some (vI (nI v))), (9, some (vI (nI p))), (10, some (vI x10)), (11, some (vI x11)), (12, some (vI x12)), (13, some (vI (nI c))), (14, some (vI (nI (N + bW (D q) v p c w)))), (15, some (vI (nI q))), (16, some (vI (nI (w + 1))))]) ⟨rfl, rfl, rfl, rfl, rfl, rfl, rfl, rfl, rfl, rfl, rfl, rfl, rfl, congrArg (fun x => some (vI x)) (nI_1 w), trivial⟩ ?_
              exact kk h2 W2
            · -- 445: not taken
              have q445 := (nI_eq (by omega) (by omega)).mp c445
              refine e_iconst (v := 1) aL_law_448 (by decide) ?_
              refine e_goto aL_law_449 ?_
              refine e_iadd aL_law_453 ?_
              refine e_top (v := nI (N + bW (D q) v p c w)) (by unfold bW; rw [if_pos ⟨q430, q445⟩]; exact nI_1 N) ?_
              refine e_istore aL_law_454 (Nat.le_of_ble_eq_true rfl) ?_
              refine e_iinc aL_law_456 rfl rfl (Nat.le_of_ble_eq_true rfl) ?_
              refine e_goto aL_law_459 ?_
              refine e_ls (ls' := [(0, some (vR (some 6))), (1, some (vR (some 32))), (2, some (vR (some 109))), (3, some (vI (nI n))), (5, some (vI x5)), (6, some (vI (nI v))), (9, some (vI (nI p))), (10, some (vI x10)), (11, some (vI x11)), (12, some (vI x12)), (13, some (vI (nI c))), (14, some (vI (nI (N + bW (D q) v p c w)))), (15, some (vI (nI q))), (16, some (vI (nI (w + 1))))]) ⟨rfl, rfl, rfl, rfl, rfl, rfl, rfl, rfl, rfl, rfl, rfl, rfl, rfl, congrArg (fun x => some (vI x)) (nI_1 w), trivial⟩ ?_
              exact kk h2 W2
      have last : ∀ h4, WW h4 f n o A D tS qS σ → Ev X (mL nm) 40 400000 4000000 QL cells slots 410 [(0, some (vR (some 6))), (1, some (vR (some 32))), (2, some (vR (some 109))), (3, some (vI (nI n))), (5, some (vI x5)), (6, some (vI (nI v))), (9, some (vI (nI p))), (10, some (vI x10)), (11, some (vI x11)), (12, some (vI x12)), (13, some (vI (nI c))), (14, some (vI (nI (byN D v p c q + bW (D q) v p c 0 + bW (D q) v p c 1)))), (15, some (vI (nI q))), (16, some (vI (nI 2)))] [] h4 := by
        intro h4 W4
        refine e_iload aL_law_410 rfl ?_
        refine e_iconst (v := 2) aL_law_412 (by decide) ?_
        refine e_icmp_ge aL_law_413 (fun c413 => ?_) (fun c413 => ?_)
        · -- 413: taken
          refine e_iinc aL_law_462 rfl rfl (Nat.le_of_ble_eq_true rfl) ?_
          refine e_goto aL_law_465 ?_
          refine e_ls (ls' := [(0, some (vR (some 6))), (1, some (vR (some 32))), (2, some (vR (some 109))), (3, some (vI (nI n))), (5, some (vI x5)), (6, some (vI (nI v))), (9, some (vI (nI p))), (10, some (vI x10)), (11, some (vI x11)), (12, some (vI x12)), (13, some (vI (nI c))), (14, some (vI (nI (byN D v p c (q + 1))))), (15, some (vI (nI (q + 1))))]) ⟨rfl, rfl, rfl, rfl, rfl, rfl, rfl, rfl, rfl, rfl, rfl, rfl, congrArg (fun x => some (vI x)) (nI_1 q), trivial⟩ ?_
          exact ih (q + 1) h4 (by omega) W4
        · -- 413: not taken
          exact absurd (nI_le (a := 2) (b := 2) (by omega) (by omega)) c413
      refine e_iload aL_law_401 rfl ?_
      refine e_iload_n aL_law_403 rfl ?_
      refine e_icmp_ge aL_law_404 (fun c404 => ?_) (fun c404 => ?_)
      · -- 404: taken
        exact absurd c404 (nI_ge (by omega) (by omega))
      · -- 404: not taken
        refine e_iconst (v := 0) aL_law_407 (by decide) ?_
        refine e_istore aL_law_408 (Nat.le_of_ble_eq_true rfl) ?_
        refine e_ls (ls' := [(0, some (vR (some 6))), (1, some (vR (some 32))), (2, some (vR (some 109))), (3, some (vI (nI n))), (5, some (vI x5)), (6, some (vI (nI v))), (9, some (vI (nI p))), (10, some (vI x10)), (11, some (vI x11)), (12, some (vI x12)), (13, some (vI (nI c))), (14, some (vI (nI (byN D v p c q)))), (15, some (vI (nI q))), (16, some (vI (nI 0)))]) ⟨rfl, rfl, rfl, rfl, rfl, rfl, rfl, rfl, rfl, rfl, rfl, rfl, rfl, rfl, trivial⟩ ?_
        exact pass 0 _ hz (by decide) W (fun h3 W3 => pass 1 _ h3 (by decide) W3 (fun h4 W4 => last h4 W4))
  exact lp n 0 h (by omega) W
