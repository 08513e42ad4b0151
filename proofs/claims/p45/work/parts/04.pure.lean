/-! RULES: locals, constants, arithmetic, branches, returns (written by wip/p45/gen4.py) -/
theorem cv_cat {X : EX} {v : VV} : (cv X v).category = if is2 (some v) then 2 else 1 := by
  rcases v with x | x | r | r
  · rfl
  · rfl
  · cases r <;> rfl
  · cases r <;> rfl
theorem stL_in {X : EX} {lv : List (Nat × Value)} {ls : ZL} {i0 : Nat} {v0 : VV} (hg : ∀ i v, gL ls i = some v → (i, cv X v) ∈ lv) :
    ∀ i v, gL (stL ls i0 v0) i = some v → (i, cv X v) ∈ (i0, cv X v0) :: lv.filter (fun q => !(q.1 == i0) && !(q.1 + 1 == i0 && q.2.category == 2)) := by
  intro i v h
  by_cases hi : i = i0
  · subst hi
    have : v = v0 := by
      unfold stL at h
      cases i with
      | zero => simp [gL] at h; exact h.symm
      | succ k =>
        dsimp only at h
        split at h <;> simp [gL] at h <;> exact h.symm
    subst this
    exact List.mem_cons_self
  · refine List.mem_cons_of_mem _ (List.mem_filter.mpr ⟨?_, ?_⟩)
    · refine hg i v ?_
      unfold stL at h
      cases i0 with
      | zero => simpa [gL, hi] using h
      | succ k =>
        dsimp only at h
        split at h
        · simp only [gL, hi, if_false] at h
          by_cases hk : i = k
          · rw [if_pos hk] at h; cases h
          · rw [if_neg hk] at h; exact h
        · simpa [gL, hi] using h
    · simp only [Bool.and_eq_true, Bool.not_eq_true', beq_eq_false_iff_ne, ne_eq, hi, not_false_eq_true, true_and, Bool.and_eq_false_iff]
      by_cases hk : i + 1 = i0
      · right
        subst hk
        unfold stL at h
        dsimp only at h
        split at h
        · simp [gL] at h
        · next hn =>
          simp [gL] at h
          rw [h] at hn
          rw [cv_cat]
          simp [hn]
      · left; exact hk
theorem stL2_in {X : EX} {lv : List (Nat × Value)} {ls : ZL} {i0 : Nat} {v0 : VV} (hg : ∀ i v, gL ls i = some v → (i, cv X v) ∈ lv) :
    ∀ i v, gL (stL2 ls i0 v0) i = some v → (i, cv X v) ∈ (i0, cv X v0) :: lv.filter (fun q => !(q.1 == i0) && (!(q.1 == i0 + 1) && !(q.1 + 1 == i0 && q.2.category == 2))) := by
  intro i v h
  unfold stL2 at h
  simp only [gL] at h
  by_cases hi : i = i0 + 1
  · rw [if_pos hi] at h; cases h
  · rw [if_neg hi] at h
    rcases List.mem_cons.mp (stL_in hg i v h) with q | q
    · rw [q]; exact List.mem_cons_self
    · refine List.mem_cons_of_mem _ ?_
      rw [List.mem_filter] at q ⊢
      refine ⟨q.1, ?_⟩
      have q2 := q.2
      simp only [Bool.and_eq_true, Bool.not_eq_true', beq_eq_false_iff_ne, ne_eq] at q2 ⊢
      exact ⟨q2.1, hi, q2.2⟩
section R4
variable {X : EX} {y : MD} {d mc ms : Nat} {Q : Option VV → HP → Prop} {cells slots pc pc' : Nat} {ls : ZL} {st : List VV} {h : HP}

theorem e_iconst {n : Int} {v : Int32} (hd : At y.2.1 pc (.iconst n) 1 pc') (he : Int32.ofInt n = v) (k : Ev X y d mc ms Q cells slots pc' ls (vI v :: st) h) : Ev X y d mc ms Q cells slots pc ls (st) h := by
  obtain ⟨hd, rfl⟩ := hd
  intro p e s m args below meth c H locs lsr C hC hS hl
  obtain ⟨lv, hv, hg⟩ := id hl
  exact lv_iconst C.1 C.2.1 hd he (k p e s m args below meth c H locs lsr C hC hS hl)
theorem e_bipush {n : Int} {v : Int32} (hd : At y.2.1 pc (.bipush n) 2 pc') (he : (Int8.ofInt n).toInt32 = v) (k : Ev X y d mc ms Q cells slots pc' ls (vI v :: st) h) : Ev X y d mc ms Q cells slots pc ls (st) h := by
  obtain ⟨hd, rfl⟩ := hd
  intro p e s m args below meth c H locs lsr C hC hS hl
  obtain ⟨lv, hv, hg⟩ := id hl
  exact lv_bipush C.1 C.2.1 hd he (k p e s m args below meth c H locs lsr C hC hS hl)
theorem e_sipush {n : Int} {v : Int32} (hd : At y.2.1 pc (.sipush n) 3 pc') (he : (Int16.ofInt n).toInt32 = v) (k : Ev X y d mc ms Q cells slots pc' ls (vI v :: st) h) : Ev X y d mc ms Q cells slots pc ls (st) h := by
  obtain ⟨hd, rfl⟩ := hd
  intro p e s m args below meth c H locs lsr C hC hS hl
  obtain ⟨lv, hv, hg⟩ := id hl
  exact lv_sipush C.1 C.2.1 hd he (k p e s m args below meth c H locs lsr C hC hS hl)
theorem e_lconst {n : Fin 2} {v : Int64} (hd : At y.2.1 pc (.lconst n) 1 pc') (he : Int64.ofNat (n : Nat) = v) (k : Ev X y d mc ms Q cells slots pc' ls (vL v :: st) h) : Ev X y d mc ms Q cells slots pc ls (st) h := by
  obtain ⟨hd, rfl⟩ := hd
  intro p e s m args below meth c H locs lsr C hC hS hl
  obtain ⟨lv, hv, hg⟩ := id hl
  exact lv_lconst C.1 C.2.1 hd he (k p e s m args below meth c H locs lsr C hC hS hl)
theorem e_aconst_null  (hd : At y.2.1 pc (.aconst_null) 1 pc') (k : Ev X y d mc ms Q cells slots pc' ls (vR none :: st) h) : Ev X y d mc ms Q cells slots pc ls (st) h := by
  obtain ⟨hd, rfl⟩ := hd
  intro p e s m args below meth c H locs lsr C hC hS hl
  obtain ⟨lv, hv, hg⟩ := id hl
  exact lv_null C.1 C.2.1 hd (k p e s m args below meth c H locs lsr C hC hS hl)
theorem e_iload_n {n : Fin 4} {x : Int32} (hd : At y.2.1 pc (.iload_n n) 1 pc') (hx : gL ls (n : Nat) = some (vI x)) (k : Ev X y d mc ms Q cells slots pc' ls (vI x :: st) h) : Ev X y d mc ms Q cells slots pc ls (st) h := by
  obtain ⟨hd, rfl⟩ := hd
  intro p e s m args below meth c H locs lsr C hC hS hl
  obtain ⟨lv, hv, hg⟩ := id hl
  exact lv_iload_n C.1 C.2.1 hd rfl (hv.2.2 _ (hg _ _ hx)) (k p e s m args below meth c H locs lsr C hC hS hl)
theorem e_iload {n : Nat} {x : Int32} (hd : At y.2.1 pc (.iload n) 2 pc') (hx : gL ls n = some (vI x)) (k : Ev X y d mc ms Q cells slots pc' ls (vI x :: st) h) : Ev X y d mc ms Q cells slots pc ls (st) h := by
  obtain ⟨hd, rfl⟩ := hd
  intro p e s m args below meth c H locs lsr C hC hS hl
  obtain ⟨lv, hv, hg⟩ := id hl
  exact lv_iload C.1 C.2.1 hd (hv.2.2 _ (hg _ _ hx)) (k p e s m args below meth c H locs lsr C hC hS hl)
theorem e_lload_n {n : Fin 4} {x : Int64} (hd : At y.2.1 pc (.lload_n n) 1 pc') (hx : gL ls (n : Nat) = some (vL x)) (k : Ev X y d mc ms Q cells slots pc' ls (vL x :: st) h) : Ev X y d mc ms Q cells slots pc ls (st) h := by
  obtain ⟨hd, rfl⟩ := hd
  intro p e s m args below meth c H locs lsr C hC hS hl
  obtain ⟨lv, hv, hg⟩ := id hl
  exact lv_lload_n C.1 C.2.1 hd rfl (hv.2.2 _ (hg _ _ hx)) (k p e s m args below meth c H locs lsr C hC hS hl)
theorem e_lload {n : Nat} {x : Int64} (hd : At y.2.1 pc (.lload n) 2 pc') (hx : gL ls n = some (vL x)) (k : Ev X y d mc ms Q cells slots pc' ls (vL x :: st) h) : Ev X y d mc ms Q cells slots pc ls (st) h := by
  obtain ⟨hd, rfl⟩ := hd
  intro p e s m args below meth c H locs lsr C hC hS hl
  obtain ⟨lv, hv, hg⟩ := id hl
  exact lv_lload C.1 C.2.1 hd (hv.2.2 _ (hg _ _ hx)) (k p e s m args below meth c H locs lsr C hC hS hl)
theorem e_aload_n {n : Fin 4} {r : Option Nat} (hd : At y.2.1 pc (.aload_n n) 1 pc') (hx : gL ls (n : Nat) = some (vR r)) (k : Ev X y d mc ms Q cells slots pc' ls (vR r :: st) h) : Ev X y d mc ms Q cells slots pc ls (st) h := by
  obtain ⟨hd, rfl⟩ := hd
  intro p e s m args below meth c H locs lsr C hC hS hl
  obtain ⟨lv, hv, hg⟩ := id hl
  have hx' := hv.2.2 _ (hg _ _ hx)
  have kk := k p e s m args below meth c H locs lsr C hC hS hl
  cases r with
  | none => exact lv_aload_nN C.1 C.2.1 hd rfl hx' kk
  | some a => exact lv_aload_n C.1 C.2.1 hd rfl hx' kk
theorem e_aload {n : Nat} {r : Option Nat} (hd : At y.2.1 pc (.aload n) 2 pc') (hx : gL ls n = some (vR r)) (k : Ev X y d mc ms Q cells slots pc' ls (vR r :: st) h) : Ev X y d mc ms Q cells slots pc ls (st) h := by
  obtain ⟨hd, rfl⟩ := hd
  intro p e s m args below meth c H locs lsr C hC hS hl
  obtain ⟨lv, hv, hg⟩ := id hl
  have hx' := hv.2.2 _ (hg _ _ hx)
  have kk := k p e s m args below meth c H locs lsr C hC hS hl
  cases r with
  | none => exact lv_aloadN C.1 C.2.1 hd hx' kk
  | some a => exact lv_aload C.1 C.2.1 hd hx' kk
theorem e_istore_n {n : Fin 4} {x : Int32} (hd : At y.2.1 pc (.istore_n n) 1 pc') (hn : ((n : Nat) : Nat) < y.2.2.1) (k : Ev X y d mc ms Q cells slots pc' (stL ls (n : Nat) (vI x)) (st) h) : Ev X y d mc ms Q cells slots pc ls (vI x :: st) h := by
  obtain ⟨hd, rfl⟩ := hd
  intro p e s m args below meth c H locs lsr C hC hS hl
  obtain ⟨lv, hv, hg⟩ := id hl
  exact lv_istore_n C.1 C.2.1 hd rfl hv (by simpa using hn) rfl (fun ls' h' => k p e s m args below meth c H locs ls' C hC hS ⟨_, h', stL_in (v0 := vI x) hg⟩)
theorem e_istore {n : Nat} {x : Int32} (hd : At y.2.1 pc (.istore n) 2 pc') (hn : (n : Nat) < y.2.2.1) (k : Ev X y d mc ms Q cells slots pc' (stL ls n (vI x)) (st) h) : Ev X y d mc ms Q cells slots pc ls (vI x :: st) h := by
  obtain ⟨hd, rfl⟩ := hd
  intro p e s m args below meth c H locs lsr C hC hS hl
  obtain ⟨lv, hv, hg⟩ := id hl
  exact lv_istore C.1 C.2.1 hd hv (by simpa using hn) rfl (fun ls' h' => k p e s m args below meth c H locs ls' C hC hS ⟨_, h', stL_in (v0 := vI x) hg⟩)
theorem e_lstore_n {n : Fin 4} {x : Int64} (hd : At y.2.1 pc (.lstore_n n) 1 pc') (hn : ((n : Nat) + 1 : Nat) < y.2.2.1) (k : Ev X y d mc ms Q cells slots pc' (stL2 ls (n : Nat) (vL x)) (st) h) : Ev X y d mc ms Q cells slots pc ls (vL x :: st) h := by
  obtain ⟨hd, rfl⟩ := hd
  intro p e s m args below meth c H locs lsr C hC hS hl
  obtain ⟨lv, hv, hg⟩ := id hl
  exact lv_lstore_n C.1 C.2.1 hd rfl hv (by simpa using hn) rfl (fun ls' h' => k p e s m args below meth c H locs ls' C hC hS ⟨_, h', stL2_in (v0 := vL x) hg⟩)
theorem e_lstore {n : Nat} {x : Int64} (hd : At y.2.1 pc (.lstore n) 2 pc') (hn : (n + 1 : Nat) < y.2.2.1) (k : Ev X y d mc ms Q cells slots pc' (stL2 ls n (vL x)) (st) h) : Ev X y d mc ms Q cells slots pc ls (vL x :: st) h := by
  obtain ⟨hd, rfl⟩ := hd
  intro p e s m args below meth c H locs lsr C hC hS hl
  obtain ⟨lv, hv, hg⟩ := id hl
  exact lv_lstore C.1 C.2.1 hd hv (by simpa using hn) rfl (fun ls' h' => k p e s m args below meth c H locs ls' C hC hS ⟨_, h', stL2_in (v0 := vL x) hg⟩)
theorem e_astore_n {n : Fin 4} {r : Option Nat} (hd : At y.2.1 pc (.astore_n n) 1 pc') (hn : ((n : Nat) : Nat) < y.2.2.1) (k : Ev X y d mc ms Q cells slots pc' (stL ls (n : Nat) (vR r)) (st) h) : Ev X y d mc ms Q cells slots pc ls (vR r :: st) h := by
  obtain ⟨hd, rfl⟩ := hd
  intro p e s m args below meth c H locs lsr C hC hS hl
  obtain ⟨lv, hv, hg⟩ := id hl
  cases r with
  | none => exact lv_astore_nN C.1 C.2.1 hd rfl hv (by simpa using hn) rfl (fun ls' h' => k p e s m args below meth c H locs ls' C hC hS ⟨_, h', stL_in (v0 := vR none) hg⟩)
  | some a => exact lv_astore_n C.1 C.2.1 hd rfl hv (by simpa using hn) rfl (fun ls' h' => k p e s m args below meth c H locs ls' C hC hS ⟨_, h', stL_in (v0 := vR (some a)) hg⟩)
theorem e_astore {n : Nat} {r : Option Nat} (hd : At y.2.1 pc (.astore n) 2 pc') (hn : (n : Nat) < y.2.2.1) (k : Ev X y d mc ms Q cells slots pc' (stL ls n (vR r)) (st) h) : Ev X y d mc ms Q cells slots pc ls (vR r :: st) h := by
  obtain ⟨hd, rfl⟩ := hd
  intro p e s m args below meth c H locs lsr C hC hS hl
  obtain ⟨lv, hv, hg⟩ := id hl
  cases r with
  | none => exact lv_astoreN C.1 C.2.1 hd hv (by simpa using hn) rfl (fun ls' h' => k p e s m args below meth c H locs ls' C hC hS ⟨_, h', stL_in (v0 := vR none) hg⟩)
  | some a => exact lv_astore C.1 C.2.1 hd hv (by simpa using hn) rfl (fun ls' h' => k p e s m args below meth c H locs ls' C hC hS ⟨_, h', stL_in (v0 := vR (some a)) hg⟩)
theorem e_iinc {n : Nat} {z : Int} {x v : Int32} (hd : At y.2.1 pc (.iinc n z) 3 pc') (hx : gL ls n = some (vI x)) (he : x + Int32.ofInt z = v) (hn : n < y.2.2.1) (k : Ev X y d mc ms Q cells slots pc' (stL ls n (vI v)) (st) h) : Ev X y d mc ms Q cells slots pc ls (st) h := by
  obtain ⟨hd, rfl⟩ := hd
  intro p e s m args below meth c H locs lsr C hC hS hl
  obtain ⟨lv, hv, hg⟩ := id hl
  obtain ⟨k0, hk0⟩ := List.getElem?_of_mem (hg _ _ hx)
  exact lv_iinc C.1 C.2.1 hd hv hk0 he hn rfl (fun ls' h' => k p e s m args below meth c H locs ls' C hC hS ⟨_, h', stL_in (v0 := vI v) hg⟩)
theorem e_iadd {x y0 : Int32} (hd : At y.2.1 pc (.iadd) 1 pc') (k : Ev X y d mc ms Q cells slots pc' ls (vI (x + y0) :: st) h) : Ev X y d mc ms Q cells slots pc ls (vI y0 :: vI x :: st) h := by
  obtain ⟨hd, rfl⟩ := hd
  intro p e s m args below meth c H locs lsr C hC hS hl
  obtain ⟨lv, hv, hg⟩ := id hl
  exact lv_iadd C.1 C.2.1 hd (k p e s m args below meth c H locs lsr C hC hS hl)
theorem e_isub {x y0 : Int32} (hd : At y.2.1 pc (.isub) 1 pc') (k : Ev X y d mc ms Q cells slots pc' ls (vI (x - y0) :: st) h) : Ev X y d mc ms Q cells slots pc ls (vI y0 :: vI x :: st) h := by
  obtain ⟨hd, rfl⟩ := hd
  intro p e s m args below meth c H locs lsr C hC hS hl
  obtain ⟨lv, hv, hg⟩ := id hl
  exact lv_isub C.1 C.2.1 hd (k p e s m args below meth c H locs lsr C hC hS hl)
theorem e_imul {x y0 : Int32} (hd : At y.2.1 pc (.imul) 1 pc') (k : Ev X y d mc ms Q cells slots pc' ls (vI (x * y0) :: st) h) : Ev X y d mc ms Q cells slots pc ls (vI y0 :: vI x :: st) h := by
  obtain ⟨hd, rfl⟩ := hd
  intro p e s m args below meth c H locs lsr C hC hS hl
  obtain ⟨lv, hv, hg⟩ := id hl
  exact lv_imul C.1 C.2.1 hd (k p e s m args below meth c H locs lsr C hC hS hl)
theorem e_iand {x y0 : Int32} (hd : At y.2.1 pc (.iand) 1 pc') (k : Ev X y d mc ms Q cells slots pc' ls (vI (x &&& y0) :: st) h) : Ev X y d mc ms Q cells slots pc ls (vI y0 :: vI x :: st) h := by
  obtain ⟨hd, rfl⟩ := hd
  intro p e s m args below meth c H locs lsr C hC hS hl
  obtain ⟨lv, hv, hg⟩ := id hl
  exact lv_iand C.1 C.2.1 hd (k p e s m args below meth c H locs lsr C hC hS hl)
theorem e_ior {x y0 : Int32} (hd : At y.2.1 pc (.ior) 1 pc') (k : Ev X y d mc ms Q cells slots pc' ls (vI (x ||| y0) :: st) h) : Ev X y d mc ms Q cells slots pc ls (vI y0 :: vI x :: st) h := by
  obtain ⟨hd, rfl⟩ := hd
  intro p e s m args below meth c H locs lsr C hC hS hl
  obtain ⟨lv, hv, hg⟩ := id hl
  exact lv_ior C.1 C.2.1 hd (k p e s m args below meth c H locs lsr C hC hS hl)
theorem e_ixor {x y0 : Int32} (hd : At y.2.1 pc (.ixor) 1 pc') (k : Ev X y d mc ms Q cells slots pc' ls (vI (x ^^^ y0) :: st) h) : Ev X y d mc ms Q cells slots pc ls (vI y0 :: vI x :: st) h := by
  obtain ⟨hd, rfl⟩ := hd
  intro p e s m args below meth c H locs lsr C hC hS hl
  obtain ⟨lv, hv, hg⟩ := id hl
  exact lv_ixor C.1 C.2.1 hd (k p e s m args below meth c H locs lsr C hC hS hl)
theorem e_ladd {x y0 : Int64} (hd : At y.2.1 pc (.ladd) 1 pc') (k : Ev X y d mc ms Q cells slots pc' ls (vL (x + y0) :: st) h) : Ev X y d mc ms Q cells slots pc ls (vL y0 :: vL x :: st) h := by
  obtain ⟨hd, rfl⟩ := hd
  intro p e s m args below meth c H locs lsr C hC hS hl
  obtain ⟨lv, hv, hg⟩ := id hl
  exact lv_ladd C.1 C.2.1 hd (k p e s m args below meth c H locs lsr C hC hS hl)
theorem e_lsub {x y0 : Int64} (hd : At y.2.1 pc (.lsub) 1 pc') (k : Ev X y d mc ms Q cells slots pc' ls (vL (x - y0) :: st) h) : Ev X y d mc ms Q cells slots pc ls (vL y0 :: vL x :: st) h := by
  obtain ⟨hd, rfl⟩ := hd
  intro p e s m args below meth c H locs lsr C hC hS hl
  obtain ⟨lv, hv, hg⟩ := id hl
  exact lv_lsub C.1 C.2.1 hd (k p e s m args below meth c H locs lsr C hC hS hl)
theorem e_land {x y0 : Int64} (hd : At y.2.1 pc (.land) 1 pc') (k : Ev X y d mc ms Q cells slots pc' ls (vL (x &&& y0) :: st) h) : Ev X y d mc ms Q cells slots pc ls (vL y0 :: vL x :: st) h := by
  obtain ⟨hd, rfl⟩ := hd
  intro p e s m args below meth c H locs lsr C hC hS hl
  obtain ⟨lv, hv, hg⟩ := id hl
  exact lv_land C.1 C.2.1 hd (k p e s m args below meth c H locs lsr C hC hS hl)
theorem e_lor {x y0 : Int64} (hd : At y.2.1 pc (.lor) 1 pc') (k : Ev X y d mc ms Q cells slots pc' ls (vL (x ||| y0) :: st) h) : Ev X y d mc ms Q cells slots pc ls (vL y0 :: vL x :: st) h := by
  obtain ⟨hd, rfl⟩ := hd
  intro p e s m args below meth c H locs lsr C hC hS hl
  obtain ⟨lv, hv, hg⟩ := id hl
  exact lv_lor C.1 C.2.1 hd (k p e s m args below meth c H locs lsr C hC hS hl)
theorem e_lxor {x y0 : Int64} (hd : At y.2.1 pc (.lxor) 1 pc') (k : Ev X y d mc ms Q cells slots pc' ls (vL (x ^^^ y0) :: st) h) : Ev X y d mc ms Q cells slots pc ls (vL y0 :: vL x :: st) h := by
  obtain ⟨hd, rfl⟩ := hd
  intro p e s m args below meth c H locs lsr C hC hS hl
  obtain ⟨lv, hv, hg⟩ := id hl
  exact lv_lxor C.1 C.2.1 hd (k p e s m args below meth c H locs lsr C hC hS hl)
theorem e_ishl {x y0 : Int32} (hd : At y.2.1 pc (.ishl) 1 pc') (k : Ev X y d mc ms Q cells slots pc' ls (vI (x <<< (y0 &&& 31)) :: st) h) : Ev X y d mc ms Q cells slots pc ls (vI y0 :: vI x :: st) h := by
  obtain ⟨hd, rfl⟩ := hd
  intro p e s m args below meth c H locs lsr C hC hS hl
  obtain ⟨lv, hv, hg⟩ := id hl
  exact lv_ishl C.1 C.2.1 hd (k p e s m args below meth c H locs lsr C hC hS hl)
theorem e_ishr {x y0 : Int32} (hd : At y.2.1 pc (.ishr) 1 pc') (k : Ev X y d mc ms Q cells slots pc' ls (vI (x >>> (y0 &&& 31)) :: st) h) : Ev X y d mc ms Q cells slots pc ls (vI y0 :: vI x :: st) h := by
  obtain ⟨hd, rfl⟩ := hd
  intro p e s m args below meth c H locs lsr C hC hS hl
  obtain ⟨lv, hv, hg⟩ := id hl
  exact lv_ishr C.1 C.2.1 hd (k p e s m args below meth c H locs lsr C hC hS hl)
theorem e_idiv {x y0 : Int32} (hd : At y.2.1 pc (.idiv) 1 pc') (hne : ¬ y0 = 0) (k : Ev X y d mc ms Q cells slots pc' ls (vI (x / y0) :: st) h) : Ev X y d mc ms Q cells slots pc ls (vI y0 :: vI x :: st) h := by
  obtain ⟨hd, rfl⟩ := hd
  intro p e s m args below meth c H locs lsr C hC hS hl
  obtain ⟨lv, hv, hg⟩ := id hl
  exact lv_idiv C.1 C.2.1 hd hne (k p e s m args below meth c H locs lsr C hC hS hl)
theorem e_irem {x y0 : Int32} (hd : At y.2.1 pc (.irem) 1 pc') (hne : ¬ y0 = 0) (k : Ev X y d mc ms Q cells slots pc' ls (vI (x - x / y0 * y0) :: st) h) : Ev X y d mc ms Q cells slots pc ls (vI y0 :: vI x :: st) h := by
  obtain ⟨hd, rfl⟩ := hd
  intro p e s m args below meth c H locs lsr C hC hS hl
  obtain ⟨lv, hv, hg⟩ := id hl
  exact lv_irem C.1 C.2.1 hd hne (k p e s m args below meth c H locs lsr C hC hS hl)
theorem e_ineg {x : Int32} (hd : At y.2.1 pc (.ineg) 1 pc') (k : Ev X y d mc ms Q cells slots pc' ls (vI (-x) :: st) h) : Ev X y d mc ms Q cells slots pc ls (vI x :: st) h := by
  obtain ⟨hd, rfl⟩ := hd
  intro p e s m args below meth c H locs lsr C hC hS hl
  obtain ⟨lv, hv, hg⟩ := id hl
  exact lv_ineg C.1 C.2.1 hd (k p e s m args below meth c H locs lsr C hC hS hl)
theorem e_iushr {x y0 : Int32} (hd : At y.2.1 pc (.iushr) 1 pc') (k : Ev X y d mc ms Q cells slots pc' ls (vI ((x.toUInt32 >>> (y0.toUInt32 &&& Int32.toUInt32 31)).toInt32) :: st) h) : Ev X y d mc ms Q cells slots pc ls (vI y0 :: vI x :: st) h := by
  obtain ⟨hd, rfl⟩ := hd
  intro p e s m args below meth c H locs lsr C hC hS hl
  obtain ⟨lv, hv, hg⟩ := id hl
  exact lv_iushr C.1 C.2.1 hd rfl (k p e s m args below meth c H locs lsr C hC hS hl)
theorem e_lshl {x : Int64} {y0 : Int32} (hd : At y.2.1 pc (.lshl) 1 pc') (k : Ev X y d mc ms Q cells slots pc' ls (vL (x <<< (y0.toInt64 &&& 63)) :: st) h) : Ev X y d mc ms Q cells slots pc ls (vI y0 :: vL x :: st) h := by
  obtain ⟨hd, rfl⟩ := hd
  intro p e s m args below meth c H locs lsr C hC hS hl
  obtain ⟨lv, hv, hg⟩ := id hl
  exact lv_lshl C.1 C.2.1 hd rfl (k p e s m args below meth c H locs lsr C hC hS hl)
theorem e_lshr {x : Int64} {y0 : Int32} (hd : At y.2.1 pc (.lshr) 1 pc') (k : Ev X y d mc ms Q cells slots pc' ls (vL (x >>> (y0.toInt64 &&& 63)) :: st) h) : Ev X y d mc ms Q cells slots pc ls (vI y0 :: vL x :: st) h := by
  obtain ⟨hd, rfl⟩ := hd
  intro p e s m args below meth c H locs lsr C hC hS hl
  obtain ⟨lv, hv, hg⟩ := id hl
  exact lv_lshr C.1 C.2.1 hd rfl (k p e s m args below meth c H locs lsr C hC hS hl)
theorem e_i2l {x : Int32} (hd : At y.2.1 pc (.i2l) 1 pc') (k : Ev X y d mc ms Q cells slots pc' ls (vL x.toInt64 :: st) h) : Ev X y d mc ms Q cells slots pc ls (vI x :: st) h := by
  obtain ⟨hd, rfl⟩ := hd
  intro p e s m args below meth c H locs lsr C hC hS hl
  obtain ⟨lv, hv, hg⟩ := id hl
  exact lv_i2l C.1 C.2.1 hd rfl (k p e s m args below meth c H locs lsr C hC hS hl)
theorem e_l2i {x : Int64} (hd : At y.2.1 pc (.l2i) 1 pc') (k : Ev X y d mc ms Q cells slots pc' ls (vI x.toInt32 :: st) h) : Ev X y d mc ms Q cells slots pc ls (vL x :: st) h := by
  obtain ⟨hd, rfl⟩ := hd
  intro p e s m args below meth c H locs lsr C hC hS hl
  obtain ⟨lv, hv, hg⟩ := id hl
  exact lv_l2i C.1 C.2.1 hd rfl (k p e s m args below meth c H locs lsr C hC hS hl)
theorem e_i2b {x : Int32} (hd : At y.2.1 pc (.i2b) 1 pc') (k : Ev X y d mc ms Q cells slots pc' ls (vI x.toInt8.toInt32 :: st) h) : Ev X y d mc ms Q cells slots pc ls (vI x :: st) h := by
  obtain ⟨hd, rfl⟩ := hd
  intro p e s m args below meth c H locs lsr C hC hS hl
  obtain ⟨lv, hv, hg⟩ := id hl
  exact lv_i2b C.1 C.2.1 hd rfl (k p e s m args below meth c H locs lsr C hC hS hl)
theorem e_i2s {x : Int32} (hd : At y.2.1 pc (.i2s) 1 pc') (k : Ev X y d mc ms Q cells slots pc' ls (vI x.toInt16.toInt32 :: st) h) : Ev X y d mc ms Q cells slots pc ls (vI x :: st) h := by
  obtain ⟨hd, rfl⟩ := hd
  intro p e s m args below meth c H locs lsr C hC hS hl
  obtain ⟨lv, hv, hg⟩ := id hl
  exact lv_i2s C.1 C.2.1 hd rfl (k p e s m args below meth c H locs lsr C hC hS hl)
theorem e_lcmp {x y0 : Int64} (hd : At y.2.1 pc (.lcmp) 1 pc') (k : Ev X y d mc ms Q cells slots pc' ls (vI (lg_cmp x y0) :: st) h) : Ev X y d mc ms Q cells slots pc ls (vL y0 :: vL x :: st) h := by
  obtain ⟨hd, rfl⟩ := hd
  intro p e s m args below meth c H locs lsr C hC hS hl
  obtain ⟨lv, hv, hg⟩ := id hl
  exact W.lcmp C.1 C.2.1 hd (k p e s m args below meth c H locs lsr C hC hS hl)
theorem e_dup {v : VV} (hd : At y.2.1 pc (.dup) 1 pc') (hc : is2 (some v) = false) (k : Ev X y d mc ms Q cells slots pc' ls (v :: v :: st) h) : Ev X y d mc ms Q cells slots pc ls (v :: st) h := by
  obtain ⟨hd, rfl⟩ := hd
  intro p e s m args below meth c H locs lsr C hC hS hl
  obtain ⟨lv, hv, hg⟩ := id hl
  exact lv_dup C.1 C.2.1 hd (by rw [cv_cat, hc]; rfl) (k p e s m args below meth c H locs lsr C hC hS hl)
theorem e_pop {v : VV} (hd : At y.2.1 pc (.pop) 1 pc') (hc : is2 (some v) = false) (k : Ev X y d mc ms Q cells slots pc' ls (st) h) : Ev X y d mc ms Q cells slots pc ls (v :: st) h := by
  obtain ⟨hd, rfl⟩ := hd
  intro p e s m args below meth c H locs lsr C hC hS hl
  obtain ⟨lv, hv, hg⟩ := id hl
  exact lv_pop C.1 C.2.1 hd (by rw [cv_cat, hc]; rfl) (k p e s m args below meth c H locs lsr C hC hS hl)
theorem e_dup2 {v w : VV} (hd : At y.2.1 pc (.dup2) 1 pc') (hc : is2 (some v) = false) (hc2 : is2 (some w) = false) (k : Ev X y d mc ms Q cells slots pc' ls (v :: w :: v :: w :: st) h) : Ev X y d mc ms Q cells slots pc ls (v :: w :: st) h := by
  obtain ⟨hd, rfl⟩ := hd
  intro p e s m args below meth c H locs lsr C hC hS hl
  obtain ⟨lv, hv, hg⟩ := id hl
  exact lv_dup2_11 C.1 C.2.1 hd (by rw [cv_cat, hc]; rfl) (by rw [cv_cat, hc2]; rfl) (k p e s m args below meth c H locs lsr C hC hS hl)
theorem e_if_eq {x : Int32} {off : Int} {tgt : Nat} (hd : Br y.2.1 pc (.ifCond .eq off) off pc' tgt) (kt : x = 0 → Ev X y d mc ms Q cells slots tgt ls st h) (kf : ¬ x = 0 → Ev X y d mc ms Q cells slots pc' ls st h) : Ev X y d mc ms Q cells slots pc ls (vI x :: st) h := by
  obtain ⟨hd, rfl, ht⟩ := hd
  intro p e s m args below meth c H locs lsr C hC hS hl
  exact lv_if_eq C.1 C.2.1 hd ht (fun q => kt q p e s m args below meth c H locs lsr C hC hS hl) (fun q => kf q p e s m args below meth c H locs lsr C hC hS hl)
theorem e_icmp_eq {x y0 : Int32} {off : Int} {tgt : Nat} (hd : Br y.2.1 pc (.if_icmp .eq off) off pc' tgt) (kt : x = y0 → Ev X y d mc ms Q cells slots tgt ls st h) (kf : ¬ x = y0 → Ev X y d mc ms Q cells slots pc' ls st h) : Ev X y d mc ms Q cells slots pc ls (vI y0 :: vI x :: st) h := by
  obtain ⟨hd, rfl, ht⟩ := hd
  intro p e s m args below meth c H locs lsr C hC hS hl
  exact lv_icmp_eq C.1 C.2.1 hd ht (fun q => kt q p e s m args below meth c H locs lsr C hC hS hl) (fun q => kf q p e s m args below meth c H locs lsr C hC hS hl)
theorem e_if_ne {x : Int32} {off : Int} {tgt : Nat} (hd : Br y.2.1 pc (.ifCond .ne off) off pc' tgt) (kt : ¬ x = 0 → Ev X y d mc ms Q cells slots tgt ls st h) (kf : x = 0 → Ev X y d mc ms Q cells slots pc' ls st h) : Ev X y d mc ms Q cells slots pc ls (vI x :: st) h := by
  obtain ⟨hd, rfl, ht⟩ := hd
  intro p e s m args below meth c H locs lsr C hC hS hl
  exact lv_if_ne C.1 C.2.1 hd ht (fun q => kt q p e s m args below meth c H locs lsr C hC hS hl) (fun q => kf q p e s m args below meth c H locs lsr C hC hS hl)
theorem e_icmp_ne {x y0 : Int32} {off : Int} {tgt : Nat} (hd : Br y.2.1 pc (.if_icmp .ne off) off pc' tgt) (kt : ¬ x = y0 → Ev X y d mc ms Q cells slots tgt ls st h) (kf : x = y0 → Ev X y d mc ms Q cells slots pc' ls st h) : Ev X y d mc ms Q cells slots pc ls (vI y0 :: vI x :: st) h := by
  obtain ⟨hd, rfl, ht⟩ := hd
  intro p e s m args below meth c H locs lsr C hC hS hl
  exact lv_icmp_ne C.1 C.2.1 hd ht (fun q => kt q p e s m args below meth c H locs lsr C hC hS hl) (fun q => kf q p e s m args below meth c H locs lsr C hC hS hl)
theorem e_if_lt {x : Int32} {off : Int} {tgt : Nat} (hd : Br y.2.1 pc (.ifCond .lt off) off pc' tgt) (kt : x < 0 → Ev X y d mc ms Q cells slots tgt ls st h) (kf : ¬ x < 0 → Ev X y d mc ms Q cells slots pc' ls st h) : Ev X y d mc ms Q cells slots pc ls (vI x :: st) h := by
  obtain ⟨hd, rfl, ht⟩ := hd
  intro p e s m args below meth c H locs lsr C hC hS hl
  exact lv_if_lt C.1 C.2.1 hd ht (fun q => kt q p e s m args below meth c H locs lsr C hC hS hl) (fun q => kf q p e s m args below meth c H locs lsr C hC hS hl)
theorem e_icmp_lt {x y0 : Int32} {off : Int} {tgt : Nat} (hd : Br y.2.1 pc (.if_icmp .lt off) off pc' tgt) (kt : x < y0 → Ev X y d mc ms Q cells slots tgt ls st h) (kf : ¬ x < y0 → Ev X y d mc ms Q cells slots pc' ls st h) : Ev X y d mc ms Q cells slots pc ls (vI y0 :: vI x :: st) h := by
  obtain ⟨hd, rfl, ht⟩ := hd
  intro p e s m args below meth c H locs lsr C hC hS hl
  exact lv_icmp_lt C.1 C.2.1 hd ht (fun q => kt q p e s m args below meth c H locs lsr C hC hS hl) (fun q => kf q p e s m args below meth c H locs lsr C hC hS hl)
theorem e_if_ge {x : Int32} {off : Int} {tgt : Nat} (hd : Br y.2.1 pc (.ifCond .ge off) off pc' tgt) (kt : 0 ≤ x → Ev X y d mc ms Q cells slots tgt ls st h) (kf : ¬ 0 ≤ x → Ev X y d mc ms Q cells slots pc' ls st h) : Ev X y d mc ms Q cells slots pc ls (vI x :: st) h := by
  obtain ⟨hd, rfl, ht⟩ := hd
  intro p e s m args below meth c H locs lsr C hC hS hl
  exact lv_if_ge C.1 C.2.1 hd ht (fun q => kt q p e s m args below meth c H locs lsr C hC hS hl) (fun q => kf q p e s m args below meth c H locs lsr C hC hS hl)
theorem e_icmp_ge {x y0 : Int32} {off : Int} {tgt : Nat} (hd : Br y.2.1 pc (.if_icmp .ge off) off pc' tgt) (kt : y0 ≤ x → Ev X y d mc ms Q cells slots tgt ls st h) (kf : ¬ y0 ≤ x → Ev X y d mc ms Q cells slots pc' ls st h) : Ev X y d mc ms Q cells slots pc ls (vI y0 :: vI x :: st) h := by
  obtain ⟨hd, rfl, ht⟩ := hd
  intro p e s m args below meth c H locs lsr C hC hS hl
  exact lv_icmp_ge C.1 C.2.1 hd ht (fun q => kt q p e s m args below meth c H locs lsr C hC hS hl) (fun q => kf q p e s m args below meth c H locs lsr C hC hS hl)
theorem e_if_gt {x : Int32} {off : Int} {tgt : Nat} (hd : Br y.2.1 pc (.ifCond .gt off) off pc' tgt) (kt : 0 < x → Ev X y d mc ms Q cells slots tgt ls st h) (kf : ¬ 0 < x → Ev X y d mc ms Q cells slots pc' ls st h) : Ev X y d mc ms Q cells slots pc ls (vI x :: st) h := by
  obtain ⟨hd, rfl, ht⟩ := hd
  intro p e s m args below meth c H locs lsr C hC hS hl
  exact lv_if_gt C.1 C.2.1 hd ht (fun q => kt q p e s m args below meth c H locs lsr C hC hS hl) (fun q => kf q p e s m args below meth c H locs lsr C hC hS hl)
theorem e_icmp_gt {x y0 : Int32} {off : Int} {tgt : Nat} (hd : Br y.2.1 pc (.if_icmp .gt off) off pc' tgt) (kt : y0 < x → Ev X y d mc ms Q cells slots tgt ls st h) (kf : ¬ y0 < x → Ev X y d mc ms Q cells slots pc' ls st h) : Ev X y d mc ms Q cells slots pc ls (vI y0 :: vI x :: st) h := by
  obtain ⟨hd, rfl, ht⟩ := hd
  intro p e s m args below meth c H locs lsr C hC hS hl
  exact lv_icmp_gt C.1 C.2.1 hd ht (fun q => kt q p e s m args below meth c H locs lsr C hC hS hl) (fun q => kf q p e s m args below meth c H locs lsr C hC hS hl)
theorem e_if_le {x : Int32} {off : Int} {tgt : Nat} (hd : Br y.2.1 pc (.ifCond .le off) off pc' tgt) (kt : x ≤ 0 → Ev X y d mc ms Q cells slots tgt ls st h) (kf : ¬ x ≤ 0 → Ev X y d mc ms Q cells slots pc' ls st h) : Ev X y d mc ms Q cells slots pc ls (vI x :: st) h := by
  obtain ⟨hd, rfl, ht⟩ := hd
  intro p e s m args below meth c H locs lsr C hC hS hl
  exact lv_if_le C.1 C.2.1 hd ht (fun q => kt q p e s m args below meth c H locs lsr C hC hS hl) (fun q => kf q p e s m args below meth c H locs lsr C hC hS hl)
theorem e_icmp_le {x y0 : Int32} {off : Int} {tgt : Nat} (hd : Br y.2.1 pc (.if_icmp .le off) off pc' tgt) (kt : x ≤ y0 → Ev X y d mc ms Q cells slots tgt ls st h) (kf : ¬ x ≤ y0 → Ev X y d mc ms Q cells slots pc' ls st h) : Ev X y d mc ms Q cells slots pc ls (vI y0 :: vI x :: st) h := by
  obtain ⟨hd, rfl, ht⟩ := hd
  intro p e s m args below meth c H locs lsr C hC hS hl
  exact lv_icmp_le C.1 C.2.1 hd ht (fun q => kt q p e s m args below meth c H locs lsr C hC hS hl) (fun q => kf q p e s m args below meth c H locs lsr C hC hS hl)
theorem e_goto {off : Int} {tgt : Nat} (hd : Br y.2.1 pc (.goto off) off pc' tgt) (k : Ev X y d mc ms Q cells slots tgt ls st h) : Ev X y d mc ms Q cells slots pc ls st h := by
  obtain ⟨hd, rfl, ht⟩ := hd
  intro p e s m args below meth c H locs lsr C hC hS hl
  exact lv_goto C.1 C.2.1 hd ht (k p e s m args below meth c H locs lsr C hC hS hl)
theorem e_ifnull {r : Option Nat} {off : Int} {tgt : Nat} (hd : Br y.2.1 pc (.ifnull off) off pc' tgt) (kt : r = none → Ev X y d mc ms Q cells slots tgt ls st h) (kf : ∀ a, r = some a → Ev X y d mc ms Q cells slots pc' ls st h) : Ev X y d mc ms Q cells slots pc ls (vR r :: st) h := by
  obtain ⟨hd, rfl, ht⟩ := hd
  intro p e s m args below meth c H locs lsr C hC hS hl
  cases r with
  | none => exact lv_ifnullN C.1 C.2.1 hd ht (kt rfl p e s m args below meth c H locs lsr C hC hS hl)
  | some a => exact lv_ifnull C.1 C.2.1 hd (kf a rfl p e s m args below meth c H locs lsr C hC hS hl)
theorem e_ifnonnull {r : Option Nat} {off : Int} {tgt : Nat} (hd : Br y.2.1 pc (.ifnonnull off) off pc' tgt) (kt : ∀ a, r = some a → Ev X y d mc ms Q cells slots tgt ls st h) (kf : r = none → Ev X y d mc ms Q cells slots pc' ls st h) : Ev X y d mc ms Q cells slots pc ls (vR r :: st) h := by
  obtain ⟨hd, rfl, ht⟩ := hd
  intro p e s m args below meth c H locs lsr C hC hS hl
  cases r with
  | none => exact lv_ifnonnullN C.1 C.2.1 hd (kf rfl p e s m args below meth c H locs lsr C hC hS hl)
  | some a => exact lv_ifnonnull C.1 C.2.1 hd ht (kt a rfl p e s m args below meth c H locs lsr C hC hS hl)
theorem e_tableIn {dflt lo hi : Int} {offs : Array Int} {n : Nat} {x : Int32} {off : Int} {tgt : Nat} (hd : At y.2.1 pc (.tableswitch dflt lo hi offs) n pc') (h1 : ¬ x.toInt < lo) (h2 : ¬ hi < x.toInt) (ho : offs[(x.toInt - lo).toNat]? = some off) (ht : (pc : Int) + off = (tgt : Int)) (k : Ev X y d mc ms Q cells slots tgt ls st h) : Ev X y d mc ms Q cells slots pc ls (vI x :: st) h := by
  obtain ⟨hd, rfl⟩ := hd
  intro p e s m args below meth c H locs lsr C hC hS hl
  exact lv_tableIn C.1 C.2.1 hd h1 h2 ho ht (k p e s m args below meth c H locs lsr C hC hS hl)
theorem e_tableOut {dflt lo hi : Int} {offs : Array Int} {n : Nat} {x : Int32} {tgt : Nat} (hd : At y.2.1 pc (.tableswitch dflt lo hi offs) n pc') (h1 : x.toInt < lo ∨ hi < x.toInt) (ht : (pc : Int) + dflt = (tgt : Int)) (k : Ev X y d mc ms Q cells slots tgt ls st h) : Ev X y d mc ms Q cells slots pc ls (vI x :: st) h := by
  obtain ⟨hd, rfl⟩ := hd
  intro p e s m args below meth c H locs lsr C hC hS hl
  exact lv_tableOut C.1 C.2.1 hd h1 ht (k p e s m args below meth c H locs lsr C hC hS hl)
theorem e_lookup {dflt : Int} {ps : Array (Int × Int)} {n : Nat} {x : Int32} {off : Int} {tgt : Nat} (hd : At y.2.1 pc (.lookupswitch dflt ps) n pc') (hp : (ps.toList.zip (ps.toList.drop 1)).all (fun (a, next) => a.1 < next.1) = true) (ho : Op.lookupswitch.offset ps.toList dflt x.toInt = off) (ht : (pc : Int) + off = (tgt : Int)) (k : Ev X y d mc ms Q cells slots tgt ls st h) : Ev X y d mc ms Q cells slots pc ls (vI x :: st) h := by
  obtain ⟨hd, rfl⟩ := hd
  intro p e s m args below meth c H locs lsr C hC hS hl
  exact lv_lookup C.1 C.2.1 hd hp ho ht (k p e s m args below meth c H locs lsr C hC hS hl)
end R4
