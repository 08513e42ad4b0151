/-! THE LAW: chains, PICKS, STANDINGS one after another (written by wip/p45/g99f.py) -/
theorem law_chain {X : EX} {nm : String} {cells slots f n : Nat} {o A : Nat → Nat} {D : Nat → DD} {tS : Nat → Int32} {qS σ : Nat → Nat} {h : HP} {v p : Nat} {x5 : Int32} (W : WW h f n o A D tS qS σ) (P : WP f n o A D tS qS σ) (h1 : fo o f ≤ v) (h2 : v < fo o f + om f) (hp : p < 12) (hc0 : cells ≤ 400000) (hs0 : slots ≤ 4000000) (k : ∀ h2, WW h2 f n o A D tS qS σ → Ev X (mL nm) 40 400000 4000000 QL cells slots 495 [(0, some (vR (some 6))), (1, some (vR (some 32))), (2, some (vR (some 109))), (3, some (vI (nI n))), (5, some (vI x5)), (6, some (vI (nI v))), (9, some (vI (nI p)))] [] h2) : Ev X (mL nm) 40 400000 4000000 QL cells slots 354 [(0, some (vR (some 6))), (1, some (vR (some 32))), (2, some (vR (some 109))), (3, some (vI (nI n))), (5, some (vI x5)), (6, some (vI (nI v))), (9, some (vI (nI p))), (10, some (vI (nI (chL D v p n).length))), (11, some (vI (nI 0))), (12, some (vI (nI 0)))] [] h := by
  obtain ⟨ok, hf2, hn9, t0, q0, t1, q1, hσ, hj0, hsur⟩ := P
  have hv := (cx_b W.cx).1
  have wD := cx_w W.cx
  obtain ⟨i1, i2, i3, i4, i5, i6, i7, i8⟩ := chL_I wD (ok v h1 h2 p hp)
  have hlen : (chL D v p n).length ≤ 3 := nd3 _ i1 i3
  have lp : ∀ (mj j : Nat) (hz : HP), j + mj = (chL D v p n).length → WW hz f n o A D tS qS σ → Ev X (mL nm) 40 400000 4000000 QL cells slots 354 [(0, some (vR (some 6))), (1, some (vR (some 32))), (2, some (vR (some 109))), (3, some (vI (nI n))), (5, some (vI x5)), (6, some (vI (nI v))), (9, some (vI (nI p))), (10, some (vI (nI (chL D v p n).length))), (11, some (vI (sT (chL D v p n) j))), (12, some (vI (nI j)))] [] hz := by
    intro mj
    induction mj with
    | zero =>
      intro j hz hk W
      have F := W.cx.1
      refine e_iload aL_law_354 rfl ?_
      refine e_iload aL_law_356 rfl ?_
      refine e_icmp_ge aL_law_358 (fun c358 => ?_) (fun c358 => ?_)
      · -- 358: taken
        refine e_ls (ls' := [(0, some (vR (some 6))), (1, some (vR (some 32))), (2, some (vR (some 109))), (3, some (vI (nI n))), (5, some (vI x5)), (6, some (vI (nI v))), (9, some (vI (nI p)))]) ⟨rfl, rfl, rfl, rfl, rfl, rfl, rfl, trivial⟩ ?_
        exact k hz W
      · -- 358: not taken
        exact absurd (nI_le (by omega) (by omega)) c358
    | succ mj ih =>
      intro j hz hk W
      have F := W.cx.1
      have hj : j < (chL D v p n).length := by omega
      have hc3 : ((chL D v p n).getD j 0) < 3 := i3 _ (getD_mem hj)
      have hb : btI (sT (chL D v p n) j) ((chL D v p n).getD j 0) = false := Bool.eq_false_iff.mpr (fun y => by
        obtain ⟨j2, y1, y2⟩ := sT_b i3 (show ((chL D v p n).getD j 0) < 12 by omega) j (by omega) y
        have := nd_eq i1 (show j2 < (chL D v p n).length by omega) hj y2
        omega)
      have hby := by_L (D := D) (n := n) (s := v) (p := p) (i := j) wD (ok v h1 h2 p hp) hj
      have rest : ∀ h3, WW h3 f n o A D tS qS σ → Ev X (mL nm) 40 400000 4000000 QL cells slots 468 [(0, some (vR (some 6))), (1, some (vR (some 32))), (2, some (vR (some 109))), (3, some (vI (nI n))), (5, some (vI x5)), (6, some (vI (nI v))), (9, some (vI (nI p))), (10, some (vI (nI (chL D v p n).length))), (11, some (vI (sT (chL D v p n) (j + 1)))), (12, some (vI (nI j))), (13, some (vI (nI ((chL D v p n).getD j 0)))), (14, some (vI (nI (byN D v p ((chL D v p n).getD j 0) n))))] [] h3 := by
        intro h3 W3
        refine e_iload aL_law_468 rfl ?_
        refine e_top (v := nI (if j + 1 < (chL D v p n).length then 1 else 0)) (congrArg nI hby) ?_
        refine e_iload aL_law_470 rfl ?_
        refine e_iconst (v := 1) aL_law_472 (by decide) ?_
        refine e_iadd aL_law_473 ?_
        refine e_top (nI_1 j) ?_
        refine e_iload aL_law_474 rfl ?_
        refine e_icmp_ge aL_law_476 (fun c476 => ?_) (fun c476 => ?_)
        · -- 476: taken
          have q476 : ¬ j + 1 < (chL D v p n).length := Nat.not_lt.mpr ((nI_leI (by omega) (by omega)).mp c476)
          refine e_iconst (v := 0) aL_law_483 (by decide) ?_
          refine e_icmp_eq aL_law_484 (fun c484 => ?_) (fun c484 => ?_)
          · -- 484: taken
            skip
            refine e_iinc aL_law_489 rfl rfl (Nat.le_of_ble_eq_true rfl) ?_
            refine e_goto aL_law_492 ?_
            refine e_ls (ls' := [(0, some (vR (some 6))), (1, some (vR (some 32))), (2, some (vR (some 109))), (3, some (vI (nI n))), (5, some (vI x5)), (6, some (vI (nI v))), (9, some (vI (nI p))), (10, some (vI (nI (chL D v p n).length))), (11, some (vI (sT (chL D v p n) (j + 1)))), (12, some (vI (nI (j + 1))))]) ⟨rfl, rfl, rfl, rfl, rfl, rfl, rfl, rfl, rfl, congrArg (fun x => some (vI x)) (nI_1 j), trivial⟩ ?_
            exact ih (j + 1) h3 (by omega) W3
          · -- 484: not taken
            exact absurd (by rw [if_neg q476]; rfl) c484
        · -- 476: not taken
          have q476 : j + 1 < (chL D v p n).length := (nI_ltI (by omega) (by omega)).mp (Int32.not_le.mp c476)
          refine e_iconst (v := 1) aL_law_479 (by decide) ?_
          refine e_goto aL_law_480 ?_
          refine e_icmp_eq aL_law_484 (fun c484 => ?_) (fun c484 => ?_)
          · -- 484: taken
            skip
            refine e_iinc aL_law_489 rfl rfl (Nat.le_of_ble_eq_true rfl) ?_
            refine e_goto aL_law_492 ?_
            refine e_ls (ls' := [(0, some (vR (some 6))), (1, some (vR (some 32))), (2, some (vR (some 109))), (3, some (vI (nI n))), (5, some (vI x5)), (6, some (vI (nI v))), (9, some (vI (nI p))), (10, some (vI (nI (chL D v p n).length))), (11, some (vI (sT (chL D v p n) (j + 1)))), (12, some (vI (nI (j + 1))))]) ⟨rfl, rfl, rfl, rfl, rfl, rfl, rfl, rfl, rfl, congrArg (fun x => some (vI x)) (nI_1 j), trivial⟩ ?_
            exact ih (j + 1) h3 (by omega) W3
          · -- 484: not taken
            exact absurd (by rw [if_pos q476]; rfl) c484
      refine e_iload aL_law_354 rfl ?_
      refine e_iload aL_law_356 rfl ?_
      refine e_icmp_ge aL_law_358 (fun c358 => ?_) (fun c358 => ?_)
      · -- 358: taken
        exact absurd c358 (nI_ge (by omega) (by omega))
      · -- 358: not taken
        refine e_aload_n aL_law_361 rfl ?_
        refine e_iload aL_law_362 rfl ?_
        refine e_iload aL_law_364 rfl ?_
        refine e_iload aL_law_366 rfl ?_
        refine e_invvT aL_law_368 kL_147 (a_chainI W.cx h1 h2 hp hj) rfl rfl (fx_is F rfl) (Nat.le_of_ble_eq_true rfl) (Nat.le_of_ble_eq_true rfl) (by omega) (by omega) (Nat.le_of_ble_eq_true rfl) ?_
        refine e_istore aL_law_371 (Nat.le_of_ble_eq_true rfl) ?_
        refine e_iload aL_law_373 rfl ?_
        refine e_iload aL_law_375 rfl ?_
        refine e_ishr aL_law_377 ?_
        refine e_iconst (v := 1) aL_law_378 (by decide) ?_
        refine e_iand aL_law_379 ?_
        refine e_iconst (v := 1) aL_law_380 (by decide) ?_
        refine e_icmp_ne aL_law_381 (fun c381 => ?_) (fun c381 => ?_)
        · -- 381: taken
          skip
          refine e_iload aL_law_386 rfl ?_
          refine e_iconst (v := 1) aL_law_388 (by decide) ?_
          refine e_iload aL_law_389 rfl ?_
          refine e_ishl aL_law_391 ?_
          refine e_ior aL_law_392 ?_
          refine e_istore aL_law_393 (Nat.le_of_ble_eq_true rfl) ?_
          refine e_iconst (v := 0) aL_law_395 (by decide) ?_
          refine e_istore aL_law_396 (Nat.le_of_ble_eq_true rfl) ?_
          refine e_iconst (v := 0) aL_law_398 (by decide) ?_
          refine e_istore aL_law_399 (Nat.le_of_ble_eq_true rfl) ?_
          refine e_ls (ls' := [(0, some (vR (some 6))), (1, some (vR (some 32))), (2, some (vR (some 109))), (3, some (vI (nI n))), (5, some (vI x5)), (6, some (vI (nI v))), (9, some (vI (nI p))), (10, some (vI (nI (chL D v p n).length))), (11, some (vI (sT (chL D v p n) (j + 1)))), (12, some (vI (nI j))), (13, some (vI (nI ((chL D v p n).getD j 0)))), (14, some (vI (nI 0))), (15, some (vI (nI 0)))]) ⟨rfl, rfl, rfl, rfl, rfl, rfl, rfl, rfl, rfl, rfl, rfl, rfl, rfl, trivial⟩ ?_
          refine law_by W (by omega) hp hc3 hc0 hs0 (fun h3 W3 => ?_)
          exact rest h3 W3
        · -- 381: not taken
          exact absurd c381 (by rw [btI_and1 (by omega), hb]; decide)
  exact lp (chL D v p n).length 0 h (by omega) W
theorem law_picks {X : EX} {nm : String} {cells slots f n : Nat} {o A : Nat → Nat} {D : Nat → DD} {tS : Nat → Int32} {qS σ : Nat → Nat} {h : HP} {v : Nat} {x5 : Int32} (W : WW h f n o A D tS qS σ) (P : WP f n o A D tS qS σ) (h1 : fo o f ≤ v) (h2 : v < fo o f + om f) (hc0 : cells ≤ 400000) (hs0 : slots ≤ 4000000) (k : ∀ h2, WW h2 f n o A D tS qS σ → Ev X (mL nm) 40 400000 4000000 QL cells slots 501 [(0, some (vR (some 6))), (1, some (vR (some 32))), (2, some (vR (some 109))), (3, some (vI (nI n))), (5, some (vI x5))] [] h2) : Ev X (mL nm) 40 400000 4000000 QL cells slots 277 [(0, some (vR (some 6))), (1, some (vR (some 32))), (2, some (vR (some 109))), (3, some (vI (nI n))), (5, some (vI x5)), (6, some (vI (nI v))), (9, some (vI (nI 0)))] [] h := by
  have hv := (cx_b W.cx).1
  have wD := cx_w W.cx
  have lp : ∀ (mp p : Nat) (hz : HP), p + mp = 12 → WW hz f n o A D tS qS σ → Ev X (mL nm) 40 400000 4000000 QL cells slots 277 [(0, some (vR (some 6))), (1, some (vR (some 32))), (2, some (vR (some 109))), (3, some (vI (nI n))), (5, some (vI x5)), (6, some (vI (nI v))), (9, some (vI (nI p)))] [] hz := by
    intro mp
    induction mp with
    | zero =>
      intro p hz hk W
      have F := W.cx.1
      refine e_iload aL_law_277 rfl ?_
      refine e_bipush (v := 12) aL_law_279 (by decide) ?_
      refine e_icmp_ge aL_law_281 (fun c281 => ?_) (fun c281 => ?_)
      · -- 281: taken
        refine e_ls (ls' := [(0, some (vR (some 6))), (1, some (vR (some 32))), (2, some (vR (some 109))), (3, some (vI (nI n))), (5, some (vI x5))]) ⟨rfl, rfl, rfl, rfl, rfl, trivial⟩ ?_
        exact k hz W
      · -- 281: not taken
        exact absurd (nI_le (a := 12) (by omega) (by omega)) c281
    | succ mp ih =>
      intro p hz hk W
      have F := W.cx.1
      have hp : p < 12 := by omega
      obtain ⟨i1, i2, i3, i4, i5, i6, i7, i8⟩ := chL_I wD (P.1 v h1 h2 p hp)
      have hlen : (chL D v p n).length ≤ 3 := nd3 _ i1 i3
      have rest : ∀ h3, WW h3 f n o A D tS qS σ → Ev X (mL nm) 40 400000 4000000 QL cells slots 495 [(0, some (vR (some 6))), (1, some (vR (some 32))), (2, some (vR (some 109))), (3, some (vI (nI n))), (5, some (vI x5)), (6, some (vI (nI v))), (9, some (vI (nI p)))] [] h3 := by
        intro h3 W3
        refine e_iinc aL_law_495 rfl rfl (Nat.le_of_ble_eq_true rfl) ?_
        refine e_goto aL_law_498 ?_
        refine e_ls (ls' := [(0, some (vR (some 6))), (1, some (vR (some 32))), (2, some (vR (some 109))), (3, some (vI (nI n))), (5, some (vI x5)), (6, some (vI (nI v))), (9, some (vI (nI (p + 1))))]) ⟨rfl, rfl, rfl, rfl, rfl, rfl, congrArg (fun x => some (vI x)) (nI_1 p), trivial⟩ ?_
        exact ih (p + 1) h3 (by omega) W3
      refine e_iload aL_law_277 rfl ?_
      refine e_bipush (v := 12) aL_law_279 (by decide) ?_
      refine e_icmp_ge aL_law_281 (fun c281 => ?_) (fun c281 => ?_)
      · -- 281: taken
        exact absurd c281 (nI_ge (b := 12) (by omega) (by omega))
      · -- 281: not taken
        refine e_aload_n aL_law_284 rfl ?_
        refine e_iload aL_law_285 rfl ?_
        refine e_iload aL_law_287 rfl ?_
        refine e_iconst (v := -1) aL_law_289 (by decide) ?_
        refine e_invvT aL_law_290 kL_147 (a_chainL W.cx h1 h2 hp) rfl rfl (fx_is F rfl) (Nat.le_of_ble_eq_true rfl) (Nat.le_of_ble_eq_true rfl) (by omega) (by omega) (Nat.le_of_ble_eq_true rfl) ?_
        refine e_istore aL_law_293 (Nat.le_of_ble_eq_true rfl) ?_
        refine e_iload aL_law_295 rfl ?_
        refine e_iconst (v := 1) aL_law_297 (by decide) ?_
        refine e_icmp_lt aL_law_298 (fun c298 => ?_) (fun c298 => ?_)
        · -- 298: taken
          exact absurd ((nI_ltI (b := 1) (by omega) (by decide)).mp c298) (by omega)
        · -- 298: not taken
          skip
          refine e_iload aL_law_301 rfl ?_
          refine e_iconst (v := 3) aL_law_303 (by decide) ?_
          refine e_icmp_gt aL_law_304 (fun c304 => ?_) (fun c304 => ?_)
          · -- 304: taken
            exact absurd ((nI_ltI (a := 3) (by decide) (by omega)).mp c304) (by omega)
          · -- 304: not taken
            skip
            refine e_aload_n aL_law_307 rfl ?_
            refine e_iload aL_law_308 rfl ?_
            refine e_iload aL_law_310 rfl ?_
            refine e_iconst (v := 0) aL_law_312 (by decide) ?_
            refine e_invvT aL_law_313 kL_147 (a_chainI (i := 0) W.cx h1 h2 hp (by omega)) rfl rfl (fx_is F rfl) (Nat.le_of_ble_eq_true rfl) (Nat.le_of_ble_eq_true rfl) (by omega) (by omega) (Nat.le_of_ble_eq_true rfl) ?_
            refine e_iload aL_law_316 rfl ?_
            refine e_iconst (v := 3) aL_law_318 (by decide) ?_
            refine e_irem aL_law_319 (by decide) ?_
            refine e_top (nI_rem (b := 3) (by omega) (by decide) (by decide)) ?_
            refine e_icmp_ne aL_law_320 (fun c320 => ?_) (fun c320 => ?_)
            · -- 320: taken
              exact absurd (congrArg nI i4) c320
            · -- 320: not taken
              skip
              refine e_aload_n aL_law_323 rfl ?_
              refine e_iload aL_law_324 rfl ?_
              refine e_iload aL_law_326 rfl ?_
              refine e_iload aL_law_328 rfl ?_
              refine e_iconst (v := 1) aL_law_330 (by decide) ?_
              refine e_isub aL_law_331 ?_
              refine e_top (v := nI ((chL D v p n).length - 1)) (nI_subN (b := 1) i2) ?_
              refine e_invvT aL_law_332 kL_147 (a_chainI (i := (chL D v p n).length - 1) W.cx h1 h2 hp (by omega)) rfl rfl (fx_is F rfl) (Nat.le_of_ble_eq_true rfl) (Nat.le_of_ble_eq_true rfl) (by omega) (by omega) (Nat.le_of_ble_eq_true rfl) ?_
              refine e_aload_n aL_law_335 rfl ?_
              refine e_iload aL_law_336 rfl ?_
              refine e_iload aL_law_338 rfl ?_
              refine e_invvT aL_law_340 kL_150 (a_owner W.cx W.2 h1 h2 hp) rfl rfl (fx_is F rfl) (Nat.le_of_ble_eq_true rfl) (Nat.le_of_ble_eq_true rfl) (by omega) (by omega) (Nat.le_of_ble_eq_true rfl) ?_
              refine e_icmp_eq aL_law_343 (fun c343 => ?_) (fun c343 => ?_)
              · -- 343: taken
                skip
                refine e_iconst (v := 0) aL_law_348 (by decide) ?_
                refine e_istore aL_law_349 (Nat.le_of_ble_eq_true rfl) ?_
                refine e_iconst (v := 0) aL_law_351 (by decide) ?_
                refine e_istore aL_law_352 (Nat.le_of_ble_eq_true rfl) ?_
                refine e_ls (ls' := [(0, some (vR (some 6))), (1, some (vR (some 32))), (2, some (vR (some 109))), (3, some (vI (nI n))), (5, some (vI x5)), (6, some (vI (nI v))), (9, some (vI (nI p))), (10, some (vI (nI (chL D v p n).length))), (11, some (vI (nI 0))), (12, some (vI (nI 0)))]) ⟨rfl, rfl, rfl, rfl, rfl, rfl, rfl, rfl, rfl, rfl, trivial⟩ ?_
                exact law_chain W P h1 h2 hp hc0 hs0 rest
              · -- 343: not taken
                exact absurd (congrArg nI i6) c343
  exact lp 12 0 h rfl W
theorem law_stands {X : EX} {nm : String} {cells slots f n : Nat} {o A : Nat → Nat} {D : Nat → DD} {tS : Nat → Int32} {qS σ : Nat → Nat} {h : HP} (hx31 : xN X < 2 ^ 31) (W : WW h f n o A D tS qS σ) (P : WP f n o A D tS qS σ) (hc0 : cells + 40 ≤ 400000) (hs0 : slots + 320 ≤ 4000000) (k : ∀ h2, WW h2 f n o A D tS qS σ → Ev X (mL nm) 40 400000 4000000 QL (cells + 4 * 10) (slots + 32 * 10) 507 [(0, some (vR (some 6))), (1, some (vR (some 32))), (2, some (vR (some 109))), (3, some (vI (nI n)))] [] h2) : Ev X (mL nm) 40 400000 4000000 QL cells slots 120 [(0, some (vR (some 6))), (1, some (vR (some 32))), (2, some (vR (some 109))), (3, some (vI (nI n))), (5, some (vI (nI 0)))] [] h := by
  have hv := (cx_b W.cx).1
  have hm := (cx_b W.cx).2.2.2
  have lp : ∀ (mi i : Nat) (hz : HP), i + mi = 10 → WW hz f n o A D tS qS σ → Ev X (mL nm) 40 400000 4000000 QL (cells + 4 * i) (slots + 32 * i) 120 [(0, some (vR (some 6))), (1, some (vR (some 32))), (2, some (vR (some 109))), (3, some (vI (nI n))), (5, some (vI (nI i)))] [] hz := by
    intro mi
    induction mi with
    | zero =>
      intro i hz hk W
      have F := W.cx.1
      refine e_iload aL_law_120 rfl ?_
      refine e_bipush (v := 10) aL_law_122 (by decide) ?_
      refine e_icmp_ge aL_law_124 (fun c124 => ?_) (fun c124 => ?_)
      · -- 124: taken
        refine e_ls (ls' := [(0, some (vR (some 6))), (1, some (vR (some 32))), (2, some (vR (some 109))), (3, some (vI (nI n)))]) ⟨rfl, rfl, rfl, rfl, trivial⟩ ?_
        obtain rfl : i = 10 := by omega
        exact k hz W
      · -- 124: not taken
        exact absurd (nI_le (a := 10) (by omega) (by omega)) c124
    | succ mi ih =>
      intro i hz hk W
      have F := W.cx.1
      have ly := W.ly
      have rest : ∀ h4, WW h4 f n o A D tS qS σ → Ev X (mL nm) 40 400000 4000000 QL (cells + 4 * i + 2 + 2) (slots + 32 * i + 16 + 16) 501 [(0, some (vR (some 6))), (1, some (vR (some 32))), (2, some (vR (some 109))), (3, some (vI (nI n))), (5, some (vI (nI i)))] [] h4 := by
        intro h4 W4
        refine e_iinc aL_law_501 rfl rfl (Nat.le_of_ble_eq_true rfl) ?_
        refine e_goto aL_law_504 ?_
        refine e_ls (ls' := [(0, some (vR (some 6))), (1, some (vR (some 32))), (2, some (vR (some 109))), (3, some (vI (nI n))), (5, some (vI (nI (i + 1))))]) ⟨rfl, rfl, rfl, rfl, congrArg (fun x => some (vI x)) (nI_1 i), trivial⟩ ?_
        exact e_widen (by omega) (by omega) (ih (i + 1) h4 (by omega) W4)
      refine e_iload aL_law_120 rfl ?_
      refine e_bipush (v := 10) aL_law_122 (by decide) ?_
      refine e_icmp_ge aL_law_124 (fun c124 => ?_) (fun c124 => ?_)
      · -- 124: taken
        exact absurd c124 (nI_ge (b := 10) (by omega) (by omega))
      · -- 124: not taken
        refine e_aload_n aL_law_127 rfl ?_
        refine e_invvT aL_law_128 kL_129 (zX9_from X F ly) rfl rfl (fx_is F rfl) (Nat.le_of_ble_eq_true rfl) (Nat.le_of_ble_eq_true rfl) (by omega) (by omega) (Nat.le_of_ble_eq_true rfl) ?_
        refine e_aload_n aL_law_131 rfl ?_
        refine e_bipush (v := 11) aL_law_132 (by decide) ?_
        refine e_iload aL_law_134 rfl ?_
        refine e_iadd aL_law_136 ?_
        refine e_top (nI_add 11 i) ?_
        refine e_invsT aL_law_137 kL_71 (zL_at X (k := 11 + i) hx31 (by omega)) rfl rfl (Nat.le_of_ble_eq_true rfl) (Nat.le_of_ble_eq_true rfl) (by omega) (by omega) (Nat.le_of_ble_eq_true rfl) ?_
        refine e_aload_n aL_law_140 rfl ?_
        refine e_invvT aL_law_141 kL_104 (zX9_size X F ly) rfl rfl (fx_is F rfl) (Nat.le_of_ble_eq_true rfl) (Nat.le_of_ble_eq_true rfl) (by omega) (by omega) (Nat.le_of_ble_eq_true rfl) ?_
        refine e_invs aL_law_144 kL_18 (zL_mod X (m := om f) (by omega) (by omega)) rfl rfl (Nat.le_of_ble_eq_true rfl) (Nat.le_of_ble_eq_true rfl) (by omega) (by omega) (Nat.le_of_ble_eq_true rfl) ?_
        rintro v0 h9 ⟨r, hr, rfl, e9⟩
        obtain rfl := e9.symm
        refine e_iadd aL_law_147 ?_
        refine e_top (nI_add _ _) ?_
        refine e_istore aL_law_148 (Nat.le_of_ble_eq_true rfl) ?_
        refine e_iconst (v := 0) aL_law_150 (by decide) ?_
        refine e_istore aL_law_151 (Nat.le_of_ble_eq_true rfl) ?_
        refine e_iconst (v := 0) aL_law_153 (by decide) ?_
        refine e_istore aL_law_154 (Nat.le_of_ble_eq_true rfl) ?_
        refine e_iconst (v := 0) aL_law_156 (by decide) ?_
        refine e_istore aL_law_157 (Nat.le_of_ble_eq_true rfl) ?_
        refine e_ls (ls' := [(0, some (vR (some 6))), (1, some (vR (some 32))), (2, some (vR (some 109))), (3, some (vI (nI n))), (5, some (vI (nI i))), (6, some (vI (nI (fo o f + r)))), (7, some (vI 0)), (8, some (vI 0)), (9, some (vI 0))]) ⟨rfl, rfl, rfl, rfl, rfl, rfl, rfl, rfl, rfl, trivial⟩ ?_
        refine law_clubs W (by omega) (by omega) (by omega) (by omega) ?_
        refine law_lays W P (by omega) (by omega) (by omega) (by omega) (fun h3 W3 => ?_)
        refine law_picks W3 P (by omega) (by omega) (by omega) (by omega) (fun h4 W4 => ?_)
        exact rest h4 W4
  exact lp 10 0 h rfl W
