/-! System.arraycopy (ints, longs) (written by wip/p45/gen8.py) -/
def cpI (h : HP) (a b sp dp n : Nat) : HP := (fun q j => if q = b then va_cpy (hI h a) (hI h b) sp dp n j else hI h q j, h.2)
def cpL (h : HP) (a b sp dp n : Nat) : HP := (h.1, fun q j => if q = b then va_cpy (hL h a) (hL h b) sp dp n j else hL h q j, h.2.2)
theorem nn_int {z : Int32} (hz : ¬ z < 0) : z.toInt = (z.toNatClampNeg : Int) := by
  have h0 : (0 : Int) ≤ z.toInt := by
    have := Int32.le_iff_toInt_le.mp (Int32.not_lt.mp hz)
    simpa using this
  show z.toInt = ((z.toInt.toNat : Nat) : Int)
  omega
section R10
variable {X : EX} {y : MD} {d mc ms : Nat} {Q : Option VV → HP → Prop} {cells slots pc pc' : Nat} {ls : ZL} {st : List VV} {h : HP} {ix a b : Nat}
theorem e_copyI {sp dp n : Int32} (hd : At y.2.1 pc (.invokestatic ix) 3 pc') (w1 : .methodLink y.1.cls ix arraycopyName ∈ TT) (w2 : .native arraycopyName ∈ TT) (w3 : .static arraycopyName ∈ TT) (w4 : .initialized "java/lang/System" ∈ TT) (ok1 : Is h a 13) (ok2 : Is h b 13) (h1 : ¬ sp < 0) (h2 : ¬ dp < 0) (h3 : ¬ n < 0) (h4 : sp.toNatClampNeg + n.toNatClampNeg ≤ hN h a) (h5 : dp.toNatClampNeg + n.toNatClampNeg ≤ hN h b)
    (hdd : 1 ≤ d) (hcat : catL st ≤ 8) (k : Ev X y d mc ms Q cells slots pc' ls st (cpI h a b sp.toNatClampNeg dp.toNatClampNeg n.toNatClampNeg)) : Ev X y d mc ms Q cells slots pc ls (vI n :: vI dp :: vR (some b) :: vI sp :: vR (some a) :: st) h := by
  obtain ⟨hd, rfl⟩ := hd
  intro p e s m args below meth c H locs lsr C hC hS hl
  have kk := fun H1 locs1 hC1 hS1 => k p e s m args below meth c H1 locs1 lsr C hC1 hS1 hl
  obtain ⟨lv, hv, -⟩ := id hl
  obtain ⟨hx, hb, hmx, hret, hown, hts, hlk, hnm, hK, hP, hsz⟩ := C
  have he1 := wl_get (X := X) ok1.1 ok1.2.1
  have he2 := wl_get (X := X) ok2.1 ok2.2.1
  rw [ent_int (t := 13) (by decide) ok1.2.2] at he1
  rw [ent_int (t := 13) (by decide) ok2.2.2] at he2
  have hc1 : H[ad X a]? = some (vp_cell (xA X 13) (hN h a, .inl (hI h a))) := hC.2.2 _ _ he1
  have hc2 : H[ad X b]? = some (vp_cell (xA X 13) (hN h b, .inl (hI h b))) := hC.2.2 _ _ he2
  obtain ⟨-, k1, hk1, cm1, hkk1⟩ := (hK.1.2 2 _ rfl).1 0 (fun _ => .null)
  have hk1 : s.vm.classes[xA X 13]? = some k1 := hk1
  have hkk1 : k1.kind = .array cm1 .int := hkk1
  intro T hT X0
  obtain ⟨vm', X', step⟩ := X0.arraycopy hx hown (hts _ w1) (hts _ w2) (hts _ w3) (hts _ w4) (src := ad X a) (dst := ad X b) (cs := vp_cell (xA X 13) (hN h a, .inl (hI h a))) (cd := vp_cell (xA X 13) (hN h b, .inl (hI h b))) (srcPos := sp) (destPos := dp) (n := n) (by rw [hT]; exact hc1) (by rw [hT]; exact hc2)
    (fun _ h => by cases h) (fun _ h => by cases h) (fun h => by cases h) (fun h => by cases h) hk1 hk1 hkk1 hkk1 (by simp [refKind]) h1 h2 h3
    (by rw [nn_int h1, nn_int h3]; show ¬ _ > ((arrV _ _ (fun j => .int (hI h a j))).slots.size : Int); rw [arrV_size]; omega)
    (by rw [nn_int h2, nn_int h3]; show ¬ _ > ((arrV _ _ (fun j => .int (hI h b j))).slots.size : Int); rw [arrV_size]; omega)
    (fun vm₁ _ i hi => by
      have e9 : (vp_cell (xA X 13) (hN h a, .inl (hI h a))).slots.getD (sp.toNatClampNeg + i) .null = .int (hI h a (sp.toNatClampNeg + i)) := by
        show (arrV _ _ (fun j => .int (hI h a j))).slots.getD _ _ = _
        rw [Array.getD_eq_getD_getElem?, arrV_read _ _ (by omega)]
        rfl
      refine ⟨?_, ?_⟩
      · rw [e9]; rfl
      · rw [e9]; exact trivial)
    (g := F0 m pc lsr (.int n :: .int dp :: .ref (ad X b) :: .int sp :: .ref (ad X a) :: st.map (cv X))) rfl (by rw [hmx]; exact hv.1) (rest := st.map (cv X)) rfl (by rw [hb]; exact hd) hdd
    (by rw [catL_eq]; have hnf : nativeFrameWords "java/lang/System" "arraycopy" 5 ≤ 20 := by decide
        show 2 * 0 + catL st + (nativeFrameWords "java/lang/System" "arraycopy" 5 + 11) ≤ 40 * d; omega)
  have e1 : copied (vp_cell (xA X 13) (hN h a, .inl (hI h a))) (vp_cell (xA X 13) (hN h b, .inl (hI h b))) sp dp n = vp_cell (xA X 13) (hN h b, .inl (va_cpy (hI h a) (hI h b) sp.toNatClampNeg dp.toNatClampNeg n.toNatClampNeg)) := va_copied (fun z => .int z) _ _ (hI h a) (hI h b) h4
  rw [e1] at X' step
  have hlt : ad X b < H.size := (Array.getElem?_eq_some_iff.mp hc2).1
  generalize hnew : vp_cell (xA X 13) (hN h b, .inl (va_cpy (hI h a) (hI h b) sp.toNatClampNeg dp.toNatClampNeg n.toNatClampNeg)) = cN at X' step
  have hheap : ((T.setVm vm').setCell (ad X b) cN).heap = H.setIfInBounds (ad X b) cN := by rw [← hT]; rfl
  have oq : ∀ q : Nat, q ≠ ad X b → (H.setIfInBounds (ad X b) cN)[q]? = H[q]? := fun q hq => by simp [Array.getElem?_setIfInBounds, Ne.symm hq]
  have hz : (H.setIfInBounds (ad X b) cN).size = H.size := by simp
  have hcor : CorH X (cpI h a b sp.toNatClampNeg dp.toNatClampNeg n.toNatClampNeg) (H.setIfInBounds (ad X b) cN) := by
    refine corH_set (a := b) hC ok2.1 ok2.2.1 rfl ?_ ?_ hz oq
    · have ok' : (cpI h a b sp.toNatClampNeg dp.toNatClampNeg n.toNatClampNeg).2.2.2.1 b = 13 := ok2.2.2
      rw [ent_int (t := 13) (by decide) ok']
      have e5 : hI (cpI h a b sp.toNatClampNeg dp.toNatClampNeg n.toNatClampNeg) b = va_cpy (hI h a) (hI h b) sp.toNatClampNeg dp.toNatClampNeg n.toNatClampNeg := by
        funext j
        exact if_pos rfl
      rw [e5]
      show (H.setIfInBounds (ad X b) cN)[ad X b]? = some (vp_cell (xA X 13) (hN h b, _))
      rw [hnew]
      simp [Array.getElem?_setIfInBounds, hlt]
    · intro q hq
      have e5 : hI (cpI h a b sp.toNatClampNeg dp.toNatClampNeg n.toNatClampNeg) q = hI h q := by
        funext j
        exact if_neg hq
      unfold ent
      rw [e5]
      rfl
  obtain ⟨t, a1, b1⟩ := kk (H.setIfInBounds (ad X b) cN) _ hcor ⟨by rw [hz]; exact hS.1, fun q g1 g2 => by
      rw [oq q (fun e => g2 (by rw [e]; exact ad_A ok2.1))]
      exact hS.2.1 q g1 g2, fun q hq => by
      rcases List.mem_append.mp hq with h | h
      · exact hS.2.2 q h
      · obtain ⟨z, -, hz⟩ := List.mem_map.mp h
        rw [← hz]
        exact ad_A ok2.1⟩ _ hheap X'
  exact ⟨t, step t a1, b1⟩
theorem e_copyL {sp dp n : Int32} (hd : At y.2.1 pc (.invokestatic ix) 3 pc') (w1 : .methodLink y.1.cls ix arraycopyName ∈ TT) (w2 : .native arraycopyName ∈ TT) (w3 : .static arraycopyName ∈ TT) (w4 : .initialized "java/lang/System" ∈ TT) (ok1 : Is h a 14) (ok2 : Is h b 14) (h1 : ¬ sp < 0) (h2 : ¬ dp < 0) (h3 : ¬ n < 0) (h4 : sp.toNatClampNeg + n.toNatClampNeg ≤ hN h a) (h5 : dp.toNatClampNeg + n.toNatClampNeg ≤ hN h b)
    (hdd : 1 ≤ d) (hcat : catL st ≤ 8) (k : Ev X y d mc ms Q cells slots pc' ls st (cpL h a b sp.toNatClampNeg dp.toNatClampNeg n.toNatClampNeg)) : Ev X y d mc ms Q cells slots pc ls (vI n :: vI dp :: vR (some b) :: vI sp :: vR (some a) :: st) h := by
  obtain ⟨hd, rfl⟩ := hd
  intro p e s m args below meth c H locs lsr C hC hS hl
  have kk := fun H1 locs1 hC1 hS1 => k p e s m args below meth c H1 locs1 lsr C hC1 hS1 hl
  obtain ⟨lv, hv, -⟩ := id hl
  obtain ⟨hx, hb, hmx, hret, hown, hts, hlk, hnm, hK, hP, hsz⟩ := C
  have he1 := wl_get (X := X) ok1.1 ok1.2.1
  have he2 := wl_get (X := X) ok2.1 ok2.2.1
  rw [ent_long ok1.2.2] at he1
  rw [ent_long ok2.2.2] at he2
  have hc1 : H[ad X a]? = some (vp_cell (xA X 14) (hN h a, .inr (.inl (hL h a)))) := hC.2.2 _ _ he1
  have hc2 : H[ad X b]? = some (vp_cell (xA X 14) (hN h b, .inr (.inl (hL h b)))) := hC.2.2 _ _ he2
  obtain ⟨-, k1, hk1, cm1, hkk1⟩ := (hK.1.2 3 _ rfl).1 0 (fun _ => .null)
  have hk1 : s.vm.classes[xA X 14]? = some k1 := hk1
  have hkk1 : k1.kind = .array cm1 .long := hkk1
  intro T hT X0
  obtain ⟨vm', X', step⟩ := X0.arraycopy hx hown (hts _ w1) (hts _ w2) (hts _ w3) (hts _ w4) (src := ad X a) (dst := ad X b) (cs := vp_cell (xA X 14) (hN h a, .inr (.inl (hL h a)))) (cd := vp_cell (xA X 14) (hN h b, .inr (.inl (hL h b)))) (srcPos := sp) (destPos := dp) (n := n) (by rw [hT]; exact hc1) (by rw [hT]; exact hc2)
    (fun _ h => by cases h) (fun _ h => by cases h) (fun h => by cases h) (fun h => by cases h) hk1 hk1 hkk1 hkk1 (by simp [refKind]) h1 h2 h3
    (by rw [nn_int h1, nn_int h3]; show ¬ _ > ((arrV _ _ (fun j => .long (hL h a j))).slots.size : Int); rw [arrV_size]; omega)
    (by rw [nn_int h2, nn_int h3]; show ¬ _ > ((arrV _ _ (fun j => .long (hL h b j))).slots.size : Int); rw [arrV_size]; omega)
    (fun vm₁ _ i hi => by
      have e9 : (vp_cell (xA X 14) (hN h a, .inr (.inl (hL h a)))).slots.getD (sp.toNatClampNeg + i) .null = .long (hL h a (sp.toNatClampNeg + i)) := by
        show (arrV _ _ (fun j => .long (hL h a j))).slots.getD _ _ = _
        rw [Array.getD_eq_getD_getElem?, arrV_read _ _ (by omega)]
        rfl
      refine ⟨?_, ?_⟩
      · rw [e9]; rfl
      · rw [e9]; exact trivial)
    (g := F0 m pc lsr (.int n :: .int dp :: .ref (ad X b) :: .int sp :: .ref (ad X a) :: st.map (cv X))) rfl (by rw [hmx]; exact hv.1) (rest := st.map (cv X)) rfl (by rw [hb]; exact hd) hdd
    (by rw [catL_eq]; have hnf : nativeFrameWords "java/lang/System" "arraycopy" 5 ≤ 20 := by decide
        show 2 * 0 + catL st + (nativeFrameWords "java/lang/System" "arraycopy" 5 + 11) ≤ 40 * d; omega)
  have e1 : copied (vp_cell (xA X 14) (hN h a, .inr (.inl (hL h a)))) (vp_cell (xA X 14) (hN h b, .inr (.inl (hL h b)))) sp dp n = vp_cell (xA X 14) (hN h b, .inr (.inl (va_cpy (hL h a) (hL h b) sp.toNatClampNeg dp.toNatClampNeg n.toNatClampNeg))) := va_copied (fun z => .long z) _ _ (hL h a) (hL h b) h4
  rw [e1] at X' step
  have hlt : ad X b < H.size := (Array.getElem?_eq_some_iff.mp hc2).1
  generalize hnew : vp_cell (xA X 14) (hN h b, .inr (.inl (va_cpy (hL h a) (hL h b) sp.toNatClampNeg dp.toNatClampNeg n.toNatClampNeg))) = cN at X' step
  have hheap : ((T.setVm vm').setCell (ad X b) cN).heap = H.setIfInBounds (ad X b) cN := by rw [← hT]; rfl
  have oq : ∀ q : Nat, q ≠ ad X b → (H.setIfInBounds (ad X b) cN)[q]? = H[q]? := fun q hq => by simp [Array.getElem?_setIfInBounds, Ne.symm hq]
  have hz : (H.setIfInBounds (ad X b) cN).size = H.size := by simp
  have hcor : CorH X (cpL h a b sp.toNatClampNeg dp.toNatClampNeg n.toNatClampNeg) (H.setIfInBounds (ad X b) cN) := by
    refine corH_set (a := b) hC ok2.1 ok2.2.1 rfl ?_ ?_ hz oq
    · have ok' : (cpL h a b sp.toNatClampNeg dp.toNatClampNeg n.toNatClampNeg).2.2.2.1 b = 14 := ok2.2.2
      rw [ent_long ok']
      have e5 : hL (cpL h a b sp.toNatClampNeg dp.toNatClampNeg n.toNatClampNeg) b = va_cpy (hL h a) (hL h b) sp.toNatClampNeg dp.toNatClampNeg n.toNatClampNeg := by
        funext j
        exact if_pos rfl
      rw [e5]
      show (H.setIfInBounds (ad X b) cN)[ad X b]? = some (vp_cell (xA X 14) (hN h b, _))
      rw [hnew]
      simp [Array.getElem?_setIfInBounds, hlt]
    · intro q hq
      have e5 : hL (cpL h a b sp.toNatClampNeg dp.toNatClampNeg n.toNatClampNeg) q = hL h q := by
        funext j
        exact if_neg hq
      unfold ent
      rw [e5]
      rfl
  obtain ⟨t, a1, b1⟩ := kk (H.setIfInBounds (ad X b) cN) _ hcor ⟨by rw [hz]; exact hS.1, fun q g1 g2 => by
      rw [oq q (fun e => g2 (by rw [e]; exact ad_A ok2.1))]
      exact hS.2.1 q g1 g2, fun q hq => by
      rcases List.mem_append.mp hq with h | h
      · exact hS.2.2 q h
      · obtain ⟨z, -, hz⟩ := List.mem_map.mp h
        rw [← hz]
        exact ad_A ok2.1⟩ _ hheap X'
  exact ⟨t, step t a1, b1⟩
end R10
