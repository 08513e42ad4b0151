/-! RULES: arrays, new cells, statics, the pool's constants, JDK members (written by wip/p45/gen7.py) -/
section R9
variable {X : EX} {y : MD} {d mc ms : Nat} {Q : Option VV → HP → Prop} {cells slots pc pc' : Nat} {ls : ZL} {st : List VV} {h : HP} {ix a : Nat}
theorem e_iaload {i : Int32} (hd : At y.2.1 pc (.iaload) 1 pc') (ok : Is h a 13) (hin : vp_in i (hN h a)) (k : Ev X y d mc ms Q cells slots pc' ls (vI (hI h a i.toNatClampNeg) :: st) h) : Ev X y d mc ms Q cells slots pc ls (vI i :: vR (some a) :: st) h := by
  obtain ⟨hd, rfl⟩ := hd
  intro p e s m args below meth c H locs lsr C hC hS hl
  have kk := k p e s m args below meth c H locs lsr C hC hS hl
  obtain ⟨hx, hb, hmx, hret, hown, hts, hlk, hnm, hK, hP, hsz⟩ := C
  have he := wl_get (X := X) ok.1 ok.2.1
  rw [ent_int (by decide) ok.2.2] at he
  exact va_iald hx hb hK.1 hC.2.2 _ 2 he rfl hin hd kk
theorem e_baload {i : Int32} (hd : At y.2.1 pc (.baload) 1 pc') (ok : Is h a 12) (hin : vp_in i (hN h a)) (k : Ev X y d mc ms Q cells slots pc' ls (vI (hI h a i.toNatClampNeg) :: st) h) : Ev X y d mc ms Q cells slots pc ls (vI i :: vR (some a) :: st) h := by
  obtain ⟨hd, rfl⟩ := hd
  intro p e s m args below meth c H locs lsr C hC hS hl
  have kk := k p e s m args below meth c H locs lsr C hC hS hl
  obtain ⟨hx, hb, hmx, hret, hown, hts, hlk, hnm, hK, hP, hsz⟩ := C
  have he := wl_get (X := X) ok.1 ok.2.1
  rw [ent_int (by decide) ok.2.2] at he
  exact va_bald hx hb hK.1 hC.2.2 _ 1 he rfl hin hd kk
theorem e_laload {i : Int32} (hd : At y.2.1 pc (.laload) 1 pc') (ok : Is h a 14) (hin : vp_in i (hN h a)) (k : Ev X y d mc ms Q cells slots pc' ls (vL (hL h a i.toNatClampNeg) :: st) h) : Ev X y d mc ms Q cells slots pc ls (vI i :: vR (some a) :: st) h := by
  obtain ⟨hd, rfl⟩ := hd
  intro p e s m args below meth c H locs lsr C hC hS hl
  have kk := k p e s m args below meth c H locs lsr C hC hS hl
  obtain ⟨hx, hb, hmx, hret, hown, hts, hlk, hnm, hK, hP, hsz⟩ := C
  have he := wl_get (X := X) ok.1 ok.2.1
  rw [ent_long ok.2.2] at he
  exact va_lald hx hb hK.1 hC.2.2 _ 3 he rfl hin hd kk
/-- the kinds of arrays of references: their class -/
def rfC : Nat → Nat × String
  | 16 => (0, RX0) | 17 => (1, RX1) | 18 => (5, RX5) | 19 => (6, RX6) | _ => (11, "java/lang/Object")
theorem rf_ty {X : EX} {t : Nat} (h1 : 16 ≤ t) (h2 : t ≤ 20) : (tys X)[t - 11]? = some (xA X t, .object (rfC t).2) := by
  have : t = 16 ∨ t = 17 ∨ t = 18 ∨ t = 19 ∨ t = 20 := by omega
  rcases this with rfl | rfl | rfl | rfl | rfl <;> rfl
theorem rf_cl {t : Nat} (h1 : 16 ≤ t) (h2 : t ≤ 19) : ∃ r, vwCl[(rfC t).1]? = some r ∧ r.1 = (rfC t).2 ∧ (rfC t).1 < 11 := by
  have : t = 16 ∨ t = 17 ∨ t = 18 ∨ t = 19 := by omega
  rcases this with rfl | rfl | rfl | rfl <;> exact ⟨_, rfl, rfl, by decide⟩
theorem e_aaload {i : Int32} {t : Nat} (hd : At y.2.1 pc (.aaload) 1 pc') (ok : Is h a t) (h1 : 16 ≤ t) (h2 : t ≤ 20) (hin : vp_in i (hN h a)) (k : Ev X y d mc ms Q cells slots pc' ls (vR (hR h a i.toNatClampNeg) :: st) h) : Ev X y d mc ms Q cells slots pc ls (vI i :: vR (some a) :: st) h := by
  obtain ⟨hd, rfl⟩ := hd
  intro p e s m args below meth c H locs lsr C hC hS hl
  have kk := k p e s m args below meth c H locs lsr C hC hS hl
  obtain ⟨hx, hb, hmx, hret, hown, hts, hlk, hnm, hK, hP, hsz⟩ := C
  have he := wl_get (X := X) ok.1 ok.2.1
  rw [ent_ref h1 ok.2.2] at he
  exact va_aldq hx hb hK.1 hC.2.2 _ (t - 11) he (rf_ty h1 h2) hin hd kk
theorem cell_size {cA : ClassId} {i : Int32} {n : Nat} {f : Nat → Value} (hin : vp_in i n) : ¬ (i < 0 ∨ (arrV cA n f).slots.size ≤ i.toNatClampNeg) := by
  rw [arrV_size]; exact hin
theorem e_iastore {i x : Int32} (hd : At y.2.1 pc (.iastore) 1 pc') (ok : Is h a 13) (hin : vp_in i (hN h a)) (k : Ev X y d mc ms Q cells slots pc' ls st (wI h a i.toNatClampNeg x)) : Ev X y d mc ms Q cells slots pc ls (vI x :: vI i :: vR (some a) :: st) h := by
  obtain ⟨hd, rfl⟩ := hd
  intro p e s m args below meth c H locs lsr C hC hS hl
  have kk := fun H1 locs1 hC1 hS1 => k p e s m args below meth c H1 locs1 lsr C hC1 hS1 hl
  obtain ⟨hx, hb, hmx, hret, hown, hts, hlk, hnm, hK, hP, hsz⟩ := C
  have he := wl_get (X := X) ok.1 ok.2.1
  rw [ent_int (by decide) ok.2.2] at he
  refine W.iast hx hb (hC.2.2 _ _ he) ((hK.1.2 2 _ rfl).1 (hN h a) (fun j => .int (hI h a j))) (fun q => by cases q) (cell_size hin) rfl rfl hd fun H1 e1 z oq => ?_
  refine kk H1 _ (corH_set hC ok.1 ok.2.1 rfl ?_ (fun q hq => ent_wI hq) z oq) (hS.put z oq (ad_A ok.1))
  have ok' : hT (wI h a i.toNatClampNeg x) a = 13 := ok.2.2
  rw [ent_int (by decide) ok']
  show H1[ad X a]? = some (vp_cell _ _)
  rw [e1, vp_cell_i, vp_cell_i, arrV_store]
  congr 2
  funext q
  by_cases hq : q = i.toNatClampNeg
  · subst hq
    simp [updV, up2, hI, wI]
    try rfl
  · simp [updV, hI, wI, up2, hq]
theorem e_lastore {i : Int32} {x : Int64} (hd : At y.2.1 pc (.lastore) 1 pc') (ok : Is h a 14) (hin : vp_in i (hN h a)) (k : Ev X y d mc ms Q cells slots pc' ls st (wL h a i.toNatClampNeg x)) : Ev X y d mc ms Q cells slots pc ls (vL x :: vI i :: vR (some a) :: st) h := by
  obtain ⟨hd, rfl⟩ := hd
  intro p e s m args below meth c H locs lsr C hC hS hl
  have kk := fun H1 locs1 hC1 hS1 => k p e s m args below meth c H1 locs1 lsr C hC1 hS1 hl
  obtain ⟨hx, hb, hmx, hret, hown, hts, hlk, hnm, hK, hP, hsz⟩ := C
  have he := wl_get (X := X) ok.1 ok.2.1
  rw [ent_long ok.2.2] at he
  refine W.last hx hb (hC.2.2 _ _ he) ((hK.1.2 3 _ rfl).1 (hN h a) (fun j => .long (hL h a j))) (fun q => by cases q) (cell_size hin) rfl rfl hd fun H1 e1 z oq => ?_
  refine kk H1 _ (corH_set hC ok.1 ok.2.1 rfl ?_ (fun q hq => ent_wL hq) z oq) (hS.put z oq (ad_A ok.1))
  have ok' : hT (wL h a i.toNatClampNeg x) a = 14 := ok.2.2
  rw [ent_long ok']
  show H1[ad X a]? = some (vp_cell _ _)
  rw [e1, vp_cell_l, vp_cell_l, arrV_store]
  congr 2
  funext q
  by_cases hq : q = i.toNatClampNeg
  · subst hq
    simp [updV, up2, hL, wL]
    try rfl
  · simp [updV, hL, wL, up2, hq]
theorem e_aastoreN {i : Int32} {t : Nat} (hd : At y.2.1 pc (.aastore) 1 pc') (ok : Is h a t) (h1 : 16 ≤ t) (h2 : t ≤ 20) (hin : vp_in i (hN h a)) (k : Ev X y d mc ms Q cells slots pc' ls st (wR h a i.toNatClampNeg none)) : Ev X y d mc ms Q cells slots pc ls (vR none :: vI i :: vR (some a) :: st) h := by
  obtain ⟨hd, rfl⟩ := hd
  intro p e s m args below meth c H locs lsr C hC hS hl
  have kk := fun H1 locs1 hC1 hS1 => k p e s m args below meth c H1 locs1 lsr C hC1 hS1 hl
  obtain ⟨hx, hb, hmx, hret, hown, hts, hlk, hnm, hK, hP, hsz⟩ := C
  have he := wl_get (X := X) ok.1 ok.2.1
  rw [ent_ref h1 ok.2.2] at he
  refine va_WaastN (C := (rfC t).2) hx hb (hC.2.2 _ _ he) ((hK.1.2 (t - 11) _ (rf_ty h1 h2)).1 (hN h a) (fun j => va_rf ((hR h a j).map (ad X)))) (fun h => by cases h) (cell_size hin) rfl rfl hd fun H1 e1 z oq => ?_
  refine kk H1 _ (corH_set hC ok.1 ok.2.1 rfl ?_ (fun q hq => ent_wR hq) z oq) (hS.put z oq (ad_A ok.1))
  have ok' : hT (wR h a i.toNatClampNeg none) a = t := ok.2.2
  rw [ent_ref h1 ok']
  show H1[ad X a]? = some (vp_cell _ _)
  rw [e1, vp_cell_q, vp_cell_q, arrV_store]
  congr 2
  funext q
  by_cases hq : q = i.toNatClampNeg
  · subst hq
    simp [updV, up2, hR, wR, va_rf]
  · simp [updV, hR, wR, up2, hq]
theorem e_aastore {i : Int32} {t b : Nat} (hd : At y.2.1 pc (.aastore) 1 pc') (ok : Is h a t) (h1 : 16 ≤ t) (h2 : t ≤ 19) (ok2 : Is h b ((rfC t).1 + 1)) (hin : vp_in i (hN h a)) (k : Ev X y d mc ms Q cells slots pc' ls st (wR h a i.toNatClampNeg (some b))) : Ev X y d mc ms Q cells slots pc ls (vR (some b) :: vI i :: vR (some a) :: st) h := by
  obtain ⟨hd, rfl⟩ := hd
  intro p e s m args below meth c H locs lsr C hC hS hl
  have kk := fun H1 locs1 hC1 hS1 => k p e s m args below meth c H1 locs1 lsr C hC1 hS1 hl
  obtain ⟨hx, hb, hmx, hret, hown, hts, hlk, hnm, hK, hP, hsz⟩ := C
  have he := wl_get (X := X) ok.1 ok.2.1
  rw [ent_ref h1 ok.2.2] at he
  obtain ⟨r, hr, hr2, hr3⟩ := rf_cl h1 h2
  have hv := wl_get (X := X) ok2.1 ok2.2.1
  rw [ent_obj hr3 ok2.2.2] at hv
  obtain ⟨r', hr', cellV, g1, g2, g3, -⟩ := hC.2.2 _ _ hv
  have hcls := (hK.1.1 _ r hr).2
  rw [hr2] at hcls
  obtain ⟨kA, comp, k1, k2, k3, -⟩ := (hK.1.2 (t - 11) _ (rf_ty h1 (Nat.le_succ_of_le h2))).2
  have hcomp : comp = (xD X).1 (rfC t).1 := Option.some.inj (k3.symm.trans hcls.1)
  subst hcomp
  obtain ⟨kC, hkC, -⟩ := hcls.2
  have hlt : i.toNatClampNeg < hN h a := Nat.not_le.mp fun q => hin (Or.inr q)
  have h0 : ¬ i < 0 := fun q => hin (Or.inl q)
  refine W.aast hx hb (hC.2.2 _ _ he) (fun q h => by cases h) (fun h => by cases h) k1 k2 rfl hkC ⟨h0, by show _ < (arrV _ _ _).slots.size; rw [arrV_size]; exact hlt⟩ g1 (fun q h => by rw [g3] at h; cases h) (by rw [g2]; exact hkC) (by rw [g2]; exact va_assign hcls) rfl rfl hd fun H1 e1 z oq => ?_
  refine kk H1 _ (corH_set hC ok.1 ok.2.1 rfl ?_ (fun q hq => ent_wR hq) z oq) (hS.put z oq (ad_A ok.1))
  have ok' : hT (wR h a i.toNatClampNeg (some b)) a = t := ok.2.2
  rw [ent_ref h1 ok']
  show H1[ad X a]? = some (vp_cell _ _)
  rw [e1, vp_cell_q, vp_cell_q, arrV_store]
  congr 2
  funext q
  by_cases hq : q = i.toNatClampNeg
  · subst hq
    simp [updV, up2, hR, wR, va_rf]
  · simp [updV, hR, wR, up2, hq]
theorem e_alen {t : Nat} (hd : At y.2.1 pc (.arraylength) 1 pc') (ok : Is h a t) (h1 : 12 ≤ t) (h2 : t ≤ 20) (h15 : t ≠ 15) (k : Ev X y d mc ms Q cells slots pc' ls (vI (Int32.ofNat (hN h a)) :: st) h) : Ev X y d mc ms Q cells slots pc ls (vR (some a) :: st) h := by
  obtain ⟨hd, rfl⟩ := hd
  intro p e s m args below meth c H locs lsr C hC hS hl
  have kk := k p e s m args below meth c H locs lsr C hC hS hl
  obtain ⟨hx, hb, hmx, hret, hown, hts, hlk, hnm, hK, hP, hsz⟩ := C
  have he := wl_get (X := X) ok.1 ok.2.1
  by_cases h14 : t = 14
  · subst h14
    rw [ent_long ok.2.2] at he
    exact va_alen hx hb hK.1 hC.2.2 _ 3 he rfl rfl hd kk
  · by_cases h16 : 16 ≤ t
    · rw [ent_ref h16 ok.2.2] at he
      exact va_alen hx hb hK.1 hC.2.2 _ (t - 11) he (rf_ty h16 h2) rfl hd kk
    · have : t = 12 ∨ t = 13 := by omega
      rw [ent_int this ok.2.2] at he
      rcases this with rfl | rfl
      · exact va_alen hx hb hK.1 hC.2.2 _ 0 he rfl rfl hd kk
      · exact va_alen hx hb hK.1 hC.2.2 _ 2 he rfl rfl hd kk
/-! new cells -/
theorem ent_nw {X : EX} {h : HP} {t n k : Nat} (hk : k < hZ h) : ent X (nw h t n) k = ent X h k := by
  have hne : k ≠ hZ h := Nat.ne_of_lt hk
  have e1 : hI (nw h t n) k = hI h k := by funext j; simp [nw, hI, hne]
  have e2 : hL (nw h t n) k = hL h k := by funext j; simp [nw, hL, hne]
  have e3 : hR (nw h t n) k = hR h k := by funext j; simp [nw, hR, hne]
  have e4 : hT (nw h t n) k = hT h k := by simp [nw, hT, hne]
  have e5 : hN (nw h t n) k = hN h k := by simp [nw, hN, hne]
  unfold ent
  rw [e1, e2, e3, e4, e5]
def NewOk (own : String) (ix ci : Nat) : Prop := ∃ r, vwCl[ci]? = some r ∧ .classLink own ix r.1 ∈ TT ∧ .instantiable r.1 r.2.2 ∈ TT ∧ .initialized r.1 ∈ TT
theorem dflt_ok : ∀ (ci : Nat) (r : vw_C), vwCl[ci]? = some r → ∀ k, k < r.2.2 → defaultValue (tyF ci k) = (if isR ci k then va_rf none else .int 0) := by
  intro ci r h
  match ci, h with
  | 0, h => cases h; decide +kernel
  | 1, h => cases h; decide +kernel
  | 2, h => cases h; decide +kernel
  | 3, h => cases h; decide +kernel
  | 4, h => cases h; decide +kernel
  | 5, h => cases h; decide +kernel
  | 6, h => cases h; decide +kernel
  | 7, h => cases h; decide +kernel
  | 8, h => cases h; decide +kernel
  | 9, h => cases h; decide +kernel
  | 10, h => cases h; decide +kernel
  | n + 11, h => simp [vwCl] at h
theorem e_new {ci : Nat} (hd : At y.2.1 pc (.new ix) 3 pc') (N : NewOk y.1.cls ix ci) (hcc : cells + 1 ≤ mc) (hss : slots + nF ci ≤ ms) (k : Ev X y d mc ms Q (cells + 1) (slots + nF ci) pc' ls (vR (some (hZ h)) :: st) (nw h (ci + 1) 0)) : Ev X y d mc ms Q cells slots pc ls st h := by
  obtain ⟨hd, rfl⟩ := hd
  intro p e s m args below meth c H locs lsr C hC hS hl
  have kk := fun H1 hC1 hS1 => k p e s m args below meth c H1 locs lsr C hC1 hS1 hl
  obtain ⟨hx, hb, hmx, hret, hown, hts, hlk, hnm, hK, hP, hsz⟩ := C
  obtain ⟨r, hr, w1, w2, w3⟩ := N
  obtain ⟨c1, c2, c3, c4, c5⟩ := cl_ok ci r hr
  have hKn := hK.1.1 ci _ hr
  refine W.newcK (n := nF ci) hx hb hown (hts _ w1) (by rw [← c4]; exact hts _ w2) (hts _ w3) rfl hd hcc hss hKn.2.1 rfl fun H1 kC hkC e1 z1 o1 => ?_
  have hH : (F0 m (pc + 3) lsr (.ref H.size :: st.map (cv X))) = F0 m (pc + 3) lsr ((vR (some (hZ h)) :: st).map (cv X)) := by
    show _ = F0 m (pc + 3) lsr (.ref (ad X (hZ h)) :: st.map (cv X))
    rw [ad_sz hC]
  refine W.eq hH (kk H1 (corH_push hC rfl ?_ (fun q hq => ent_nw hq) z1 o1) ⟨Nat.le_trans hS.1 (by omega), fun x h1 h2 => (o1 x (Nat.lt_of_lt_of_le h1 hS.1)).trans (hS.2.1 x h1 h2), hS.2.2⟩)
  rw [ent_obj (ci := ci) c5 (by simp [nw, hT])]
  refine ⟨r, hr, ?_⟩
  rw [ad_sz hC]
  refine (u_born (tyF ci) hts c1 hKn hkC e1 c2).to (fun j hj => ?_)
  dsimp only
  rw [dflt_ok ci r hr j hj]
  have hv : ((List.range (nF ci)).map (fun i => if isR ci i then va_rf ((hR (nw h (ci + 1) 0) (hZ h) i).map (ad X)) else .int (hI (nw h (ci + 1) 0) (hZ h) i)))[j]? = some (if isR ci j then va_rf none else .int 0) := by
    rw [fs_at (by rw [← c4]; exact hj)]
    simp [nw, hI, hR]
  show _ = List.getD _ j Value.null
  rw [List.getD_eq_getElem?_getD, hv]
  rfl
theorem e_newI {n : Int32} {N' : Nat} (hd : At y.2.1 pc (.newarray .int) 2 pc') (w : .arrayClass .int ∈ TT) (hn : ¬ n < 0) (hN' : n.toNatClampNeg = N') (hbig : N' ≤ 60000000) (hcc : cells + 1 ≤ mc) (hss : slots + N' ≤ ms) (k : Ev X y d mc ms Q (cells + 1) (slots + N') pc' ls (vR (some (hZ h)) :: st) (nw h 13 N')) : Ev X y d mc ms Q cells slots pc ls (vI n :: st) h := by
  obtain ⟨hd, rfl⟩ := hd
  intro p e s m args below meth c H locs lsr C hC hS hl
  have kk := fun H1 hC1 hS1 => k p e s m args below meth c H1 locs lsr C hC1 hS1 hl
  obtain ⟨hx, hb, hmx, hret, hown, hts, hlk, hnm, hK, hP, hsz⟩ := C
  refine va_newaK (atype := .int) hx hb (hts _ w) rfl hd rfl hn hN' (by show N' * _ ≤ _; simp only [newarray.typeOf, componentBytes]; omega) hcc hss rfl fun H1 cA e1 z1 o1 hAr hNm => ?_
  have hcA : cA = xA X 13 := Option.some.inj (hNm.symm.trans (hK.1.2 2 _ rfl).2)
  have hH : (F0 m (pc + 2) lsr (.ref H.size :: st.map (cv X))) = F0 m (pc + 2) lsr ((vR (some (hZ h)) :: st).map (cv X)) := by
    show _ = F0 m (pc + 2) lsr (.ref (ad X (hZ h)) :: st.map (cv X))
    rw [ad_sz hC]
  refine W.eq hH (kk H1 (corH_push hC rfl ?_ (fun q hq => ent_nw hq) z1 o1) ⟨Nat.le_trans hS.1 (by omega), fun x h1 h2 => (o1 x (Nat.lt_of_lt_of_le h1 hS.1)).trans (hS.2.1 x h1 h2), hS.2.2⟩)
  rw [ent_int (t := 13) (by decide) (by simp [nw, hT])]
  show H1[ad X (hZ h)]? = some (vp_cell _ _)
  rw [ad_sz hC, e1, vp_cell_i, hcA]
  have e5 : hN (nw h 13 N') (hZ h) = N' := by simp [nw, hN]
  rw [e5]
  congr 2
  funext q
  simp [hI, nw, newarray.typeOf, defaultValue]
theorem e_newB {n : Int32} {N' : Nat} (hd : At y.2.1 pc (.newarray .byte) 2 pc') (w : .arrayClass .byte ∈ TT) (hn : ¬ n < 0) (hN' : n.toNatClampNeg = N') (hbig : N' ≤ 60000000) (hcc : cells + 1 ≤ mc) (hss : slots + N' ≤ ms) (k : Ev X y d mc ms Q (cells + 1) (slots + N') pc' ls (vR (some (hZ h)) :: st) (nw h 12 N')) : Ev X y d mc ms Q cells slots pc ls (vI n :: st) h := by
  obtain ⟨hd, rfl⟩ := hd
  intro p e s m args below meth c H locs lsr C hC hS hl
  have kk := fun H1 hC1 hS1 => k p e s m args below meth c H1 locs lsr C hC1 hS1 hl
  obtain ⟨hx, hb, hmx, hret, hown, hts, hlk, hnm, hK, hP, hsz⟩ := C
  refine va_newaK (atype := .byte) hx hb (hts _ w) rfl hd rfl hn hN' (by show N' * _ ≤ _; simp only [newarray.typeOf, componentBytes]; omega) hcc hss rfl fun H1 cA e1 z1 o1 hAr hNm => ?_
  have hcA : cA = xA X 12 := Option.some.inj (hNm.symm.trans (hK.1.2 1 _ rfl).2)
  have hH : (F0 m (pc + 2) lsr (.ref H.size :: st.map (cv X))) = F0 m (pc + 2) lsr ((vR (some (hZ h)) :: st).map (cv X)) := by
    show _ = F0 m (pc + 2) lsr (.ref (ad X (hZ h)) :: st.map (cv X))
    rw [ad_sz hC]
  refine W.eq hH (kk H1 (corH_push hC rfl ?_ (fun q hq => ent_nw hq) z1 o1) ⟨Nat.le_trans hS.1 (by omega), fun x h1 h2 => (o1 x (Nat.lt_of_lt_of_le h1 hS.1)).trans (hS.2.1 x h1 h2), hS.2.2⟩)
  rw [ent_int (t := 12) (by decide) (by simp [nw, hT])]
  show H1[ad X (hZ h)]? = some (vp_cell _ _)
  rw [ad_sz hC, e1, vp_cell_i, hcA]
  have e5 : hN (nw h 12 N') (hZ h) = N' := by simp [nw, hN]
  rw [e5]
  congr 2
  funext q
  simp [hI, nw, newarray.typeOf, defaultValue]
theorem e_newL {n : Int32} {N' : Nat} (hd : At y.2.1 pc (.newarray .long) 2 pc') (w : .arrayClass .long ∈ TT) (hn : ¬ n < 0) (hN' : n.toNatClampNeg = N') (hbig : N' ≤ 60000000) (hcc : cells + 1 ≤ mc) (hss : slots + N' ≤ ms) (k : Ev X y d mc ms Q (cells + 1) (slots + N') pc' ls (vR (some (hZ h)) :: st) (nw h 14 N')) : Ev X y d mc ms Q cells slots pc ls (vI n :: st) h := by
  obtain ⟨hd, rfl⟩ := hd
  intro p e s m args below meth c H locs lsr C hC hS hl
  have kk := fun H1 hC1 hS1 => k p e s m args below meth c H1 locs lsr C hC1 hS1 hl
  obtain ⟨hx, hb, hmx, hret, hown, hts, hlk, hnm, hK, hP, hsz⟩ := C
  refine va_newaK (atype := .long) hx hb (hts _ w) rfl hd rfl hn hN' (by show N' * _ ≤ _; simp only [newarray.typeOf, componentBytes]; omega) hcc hss rfl fun H1 cA e1 z1 o1 hAr hNm => ?_
  have hcA : cA = xA X 14 := Option.some.inj (hNm.symm.trans (hK.1.2 3 _ rfl).2)
  have hH : (F0 m (pc + 2) lsr (.ref H.size :: st.map (cv X))) = F0 m (pc + 2) lsr ((vR (some (hZ h)) :: st).map (cv X)) := by
    show _ = F0 m (pc + 2) lsr (.ref (ad X (hZ h)) :: st.map (cv X))
    rw [ad_sz hC]
  refine W.eq hH (kk H1 (corH_push hC rfl ?_ (fun q hq => ent_nw hq) z1 o1) ⟨Nat.le_trans hS.1 (by omega), fun x h1 h2 => (o1 x (Nat.lt_of_lt_of_le h1 hS.1)).trans (hS.2.1 x h1 h2), hS.2.2⟩)
  rw [ent_long (by simp [nw, hT])]
  show H1[ad X (hZ h)]? = some (vp_cell _ _)
  rw [ad_sz hC, e1, vp_cell_l, hcA]
  have e5 : hN (nw h 14 N') (hZ h) = N' := by simp [nw, hN]
  rw [e5]
  congr 2
  funext q
  simp [hL, nw, newarray.typeOf, defaultValue]
theorem e_newR {n : Int32} {N' t : Nat} (hd : At y.2.1 pc (.anewarray ix) 3 pc') (h1 : 16 ≤ t) (h2 : t ≤ 20) (w : .classLink y.1.cls ix (rfC t).2 ∈ TT) (hn : ¬ n < 0) (hN' : n.toNatClampNeg = N') (hbig : N' ≤ 60000000) (hcc : cells + 1 ≤ mc) (hss : slots + N' ≤ ms) (k : Ev X y d mc ms Q (cells + 1) (slots + N') pc' ls (vR (some (hZ h)) :: st) (nw h t N')) : Ev X y d mc ms Q cells slots pc ls (vI n :: st) h := by
  obtain ⟨hd, rfl⟩ := hd
  intro p e s m args below meth c H locs lsr C hC hS hl
  have kk := fun H1 hC1 hS1 => k p e s m args below meth c H1 locs lsr C hC1 hS1 hl
  obtain ⟨hx, hb, hmx, hret, hown, hts, hlk, hnm, hK, hP, hsz⟩ := C
  have hao : va_AO (rfC t).2 s := hK.2.2.1 _ (by
    have : t = 16 ∨ t = 17 ∨ t = 18 ∨ t = 19 ∨ t = 20 := by omega
    rcases this with rfl | rfl | rfl | rfl | rfl <;> simp [aoW, rfC])
  subst hN'
  refine W.anew hx hb hown (hts _ w) (va_AO.use hao) rfl hd rfl hn (by omega) hcc hss fun cA kA comp f1 f2 f3 f4 => ?_
  generalize hH1 : H.push ({ cls := cA, slots := Array.replicate n.toNatClampNeg .null, vm := .none } : Cell) = H1
  have z1 : H1.size = H.size + 1 := by rw [← hH1, Array.size_push]
  have e1 : H1[H.size]? = some (arrV cA n.toNatClampNeg (fun _ => .null)) := by rw [← hH1, Array.getElem?_push_size, ← arrV_new]
  have o1 : ∀ q : Nat, q < H.size → H1[q]? = H[q]? := fun q hq => by rw [← hH1, Array.getElem?_push, if_neg (Nat.ne_of_lt hq)]
  obtain ⟨kA2, comp2, k1, k2, k3, k4⟩ := (hK.1.2 (t - 11) _ (rf_ty h1 h2)).2
  have hcA : cA = xA X t := by first | exact Option.some.inj (f1.symm.trans k4) | exact Option.some.inj (f4.symm.trans k4)
  have hH : (F0 m (pc + 3) lsr (.ref H.size :: st.map (cv X))) = F0 m (pc + 3) lsr ((vR (some (hZ h)) :: st).map (cv X)) := by
    show _ = F0 m (pc + 3) lsr (.ref (ad X (hZ h)) :: st.map (cv X))
    rw [ad_sz hC]
  refine W.eq hH (kk H1 (corH_push hC rfl ?_ (fun q hq => ent_nw hq) z1 o1) ⟨Nat.le_trans hS.1 (by omega), fun x h1 h2 => (o1 x (Nat.lt_of_lt_of_le h1 hS.1)).trans (hS.2.1 x h1 h2), hS.2.2⟩)
  rw [ent_ref (t := t) h1 (by simp [nw, hT])]
  show H1[ad X (hZ h)]? = some (vp_cell _ _)
  rw [ad_sz hC, e1, vp_cell_q, hcA]
  have e5 : hN (nw h t n.toNatClampNeg) (hZ h) = n.toNatClampNeg := by simp [nw, hN]
  rw [e5]
  congr 2
  funext q
  simp [hR, nw, va_rf]
/-! statics, the pool's constants -/
theorem e_gets {i : Nat} {q : String × List Int32} (hd : At y.2.1 pc (.getstatic ix) 3 pc') (hq : stW[i]? = some q) (w : .fieldLink y.1.cls ix RX8 q.1 "[I" ∈ TT) (k : Ev X y d mc ms Q cells slots pc' ls (vR (some (i + 1)) :: st) h) : Ev X y d mc ms Q cells slots pc ls st h := by
  obtain ⟨hd, rfl⟩ := hd
  intro p e s m args below meth c H locs lsr C hC hS hl
  have kk := k p e s m args below meth c H locs lsr C hC hS hl
  obtain ⟨hx, hb, hmx, hret, hown, hts, hlk, hnm, hK, hP, hsz⟩ := C
  have hi : i < 3 := (List.getElem?_eq_some_iff.mp hq).1
  have e0 : ad X (i + 1) = xS X (i + 1) := by unfold ad; rw [if_pos (by omega)]
  have e1 : (vR (some (i + 1)) :: st).map (cv X) = .ref (xS X (i + 1)) :: st.map (cv X) := by rw [← e0]; rfl
  rw [e1] at kk
  exact va_gets hx hb (hP.1 i q hq).1 hS hown (hts _ w) (fun _ z => z) hd kk
theorem e_getsN {i : Nat} {q : String × List Int32} (hd : At y.2.1 pc (.getstatic ix) 3 pc') (hq : stW[i]? = some q) (w : .fieldLinkNest y.1.cls ix RX8 q.1 "[I" RX8 ∈ nestW) (k : Ev X y d mc ms Q cells slots pc' ls (vR (some (i + 1)) :: st) h) : Ev X y d mc ms Q cells slots pc ls st h := by
  obtain ⟨hd, rfl⟩ := hd
  intro p e s m args below meth c H locs lsr C hC hS hl
  have kk := k p e s m args below meth c H locs lsr C hC hS hl
  obtain ⟨hx, hb, hmx, hret, hown, hts, hlk, hnm, hK, hP, hsz⟩ := C
  have hi : i < 3 := (List.getElem?_eq_some_iff.mp hq).1
  have e0 : ad X (i + 1) = xS X (i + 1) := by unfold ad; rw [if_pos (by omega)]
  have e1 : (vR (some (i + 1)) :: st).map (cv X) = .ref (xS X (i + 1)) :: st.map (cv X) := by rw [← e0]; rfl
  rw [e1] at kk
  exact va_getsN hx hb (hP.1 i q hq).1 hS hown (va_Nw.use rfl (hK.2.1 _ w)) (fun _ z => z) hd kk
/-- an element of a static array -/
theorem e_ialoadS {i0 : Nat} {q : String × List Int32} {i : Int32} (hd : At y.2.1 pc (.iaload) 1 pc') (hq : stW[i0]? = some q) (hin : vp_in i q.2.length) (k : Ev X y d mc ms Q cells slots pc' ls (vI (q.2.getD i.toNatClampNeg 0) :: st) h) : Ev X y d mc ms Q cells slots pc ls (vI i :: vR (some (i0 + 1)) :: st) h := by
  obtain ⟨hd, rfl⟩ := hd
  intro p e s m args below meth c H locs lsr C hC hS hl
  have kk := k p e s m args below meth c H locs lsr C hC hS hl
  obtain ⟨hx, hb, hmx, hret, hown, hts, hlk, hnm, hK, hP, hsz⟩ := C
  have hi : i0 < 3 := (List.getElem?_eq_some_iff.mp hq).1
  have e0 : ad X (i0 + 1) = xS X (i0 + 1) := by unfold ad; rw [if_pos (by omega)]
  show W _ _ _ _ _ _ _ _ _ _ _ _ _ _ _ (F0 m pc lsr (.int i :: .ref (ad X (i0 + 1)) :: st.map (cv X)))
  rw [e0]
  exact va_ti hx hb (hP.1 i0 q hq).2 hS hin rfl hd kk
theorem e_ialoadX {i : Int32} (hd : At y.2.1 pc (.iaload) 1 pc') (hin : vp_in i (xN X)) (k : Ev X y d mc ms Q cells slots pc' ls (vI (xs X i.toNatClampNeg) :: st) h) : Ev X y d mc ms Q cells slots pc ls (vI i :: vR (some 6) :: st) h := by
  obtain ⟨hd, rfl⟩ := hd
  intro p e s m args below meth c H locs lsr C hC hS hl
  have kk := k p e s m args below meth c H locs lsr C hC hS hl
  obtain ⟨hx, hb, hmx, hret, hown, hts, hlk, hnm, hK, hP, hsz⟩ := C
  exact va_ti hx hb hP.2.1 hS hin rfl hd kk
theorem e_alenX (hd : At y.2.1 pc (.arraylength) 1 pc') (k : Ev X y d mc ms Q cells slots pc' ls (vI (Int32.ofNat (xN X)) :: st) h) : Ev X y d mc ms Q cells slots pc ls (vR (some 6) :: st) h := by
  obtain ⟨hd, rfl⟩ := hd
  intro p e s m args below meth c H locs lsr C hC hS hl
  have kk := k p e s m args below meth c H locs lsr C hC hS hl
  obtain ⟨hx, hb, hmx, hret, hown, hts, hlk, hnm, hK, hP, hsz⟩ := C
  exact va_tlen hx hb hP.2.1 hS rfl hd kk
theorem e_ldc {v : Int32} (hd : At y.2.1 pc (.ldc ix) 2 pc') (w : .constant y.1.cls ix v ∈ TT) (k : Ev X y d mc ms Q cells slots pc' ls (vI v :: st) h) : Ev X y d mc ms Q cells slots pc ls st h := by
  obtain ⟨hd, rfl⟩ := hd
  intro p e s m args below meth c H locs lsr C hC hS hl
  have kk := k p e s m args below meth c H locs lsr C hC hS hl
  exact lv_ldc C.1 C.2.1 C.2.2.2.2.1 (C.2.2.2.2.2.1 _ w) hd kk
theorem e_ldcw {v : Int32} (hd : At y.2.1 pc (.ldc_w ix) 3 pc') (w : .constant y.1.cls ix v ∈ TT) (k : Ev X y d mc ms Q cells slots pc' ls (vI v :: st) h) : Ev X y d mc ms Q cells slots pc ls st h := by
  obtain ⟨hd, rfl⟩ := hd
  intro p e s m args below meth c H locs lsr C hC hS hl
  have kk := k p e s m args below meth c H locs lsr C hC hS hl
  exact lv_ldcw C.1 C.2.1 C.2.2.2.2.1 (C.2.2.2.2.2.1 _ w) hd kk
theorem e_ldc2 {v : Int64} (hd : At y.2.1 pc (.ldc2_w ix) 3 pc') (w : .constantLong y.1.cls ix v ∈ TT) (k : Ev X y d mc ms Q cells slots pc' ls (vL v :: st) h) : Ev X y d mc ms Q cells slots pc ls st h := by
  obtain ⟨hd, rfl⟩ := hd
  intro p e s m args below meth c H locs lsr C hC hS hl
  have kk := k p e s m args below meth c H locs lsr C hC hS hl
  exact lv_ldc2 C.1 C.2.1 C.2.2.2.2.1 (C.2.2.2.2.2.1 _ w) hd kk
/-! two references -/
theorem ad_inj {X : EX} {a b : Nat} (h1 : 32 ≤ a) (h2 : 32 ≤ b) : ad X a = ad X b ↔ a = b := by
  unfold ad
  rw [if_neg (by omega), if_neg (by omega)]
  omega
theorem e_acmpne {r1 r2 : Option Nat} {off : Int} {tgt : Nat} (hd : Br y.2.1 pc (.if_acmp .ne off) off pc' tgt) (g1 : ∀ a, r1 = some a → 32 ≤ a) (g2 : ∀ a, r2 = some a → 32 ≤ a) (kt : ¬ r1 = r2 → Ev X y d mc ms Q cells slots tgt ls st h) (kf : r1 = r2 → Ev X y d mc ms Q cells slots pc' ls st h) : Ev X y d mc ms Q cells slots pc ls (vR r2 :: vR r1 :: st) h := by
  obtain ⟨hd, rfl, ht⟩ := hd
  intro p e s m args below meth c H locs lsr C hC hS hl
  have key : r1.map (ad X) = r2.map (ad X) ↔ r1 = r2 := by
    cases r1 with
    | none => cases r2 <;> simp
    | some a => cases r2 with
      | none => simp
      | some b =>
        have := ad_inj (X := X) (g1 a rfl) (g2 b rfl)
        simp [this]
  exact lv_acmp_ne C.1 C.2.1 hd ht (fun q => kt (fun z => q (key.mpr z)) p e s m args below meth c H locs lsr C hC hS hl) (fun q => kf (key.mp q) p e s m args below meth c H locs lsr C hC hS hl)
theorem e_acmpeqT {r0 : Option Nat} {off : Int} {tgt : Nat} (hd : Br y.2.1 pc (.if_acmp .eq off) off pc' tgt) (kt : Ev X y d mc ms Q cells slots tgt ls st h) : Ev X y d mc ms Q cells slots pc ls (vR r0 :: vR r0 :: st) h := by
  obtain ⟨hd, rfl, ht⟩ := hd
  intro p e s m args below meth c H locs lsr C hC hS hl
  exact lv_acmp_eq C.1 C.2.1 hd ht (fun q => kt p e s m args below meth c H locs lsr C hC hS hl) (fun q => absurd rfl q)
/-! the law's ORDERS; the platform's empty row -/
theorem e_getsO (hd : At y.2.1 pc (.getstatic ix) 3 pc') (w : .fieldLink y.1.cls ix RL "ORDERS" "[[I" ∈ TT) (k : Ev X y d mc ms Q cells slots pc' ls (vR (some 7) :: st) h) : Ev X y d mc ms Q cells slots pc ls st h := by
  obtain ⟨hd, rfl⟩ := hd
  intro p e s m args below meth c H locs lsr C hC hS hl
  have kk := k p e s m args below meth c H locs lsr C hC hS hl
  obtain ⟨hx, hb, hmx, hret, hown, hts, hlk, hnm, hK, hP, hsz⟩ := C
  exact va_gets hx hb hP.2.2.1.1 hS hown (hts _ w) (fun _ z => z) hd kk
theorem e_getsD (hd : At y.2.1 pc (.getstatic ix) 3 pc') (w : .fieldLink y.1.cls ix RJx4a65c "DEFAULTCAPACITY_EMPTY_ELEMENTDATA" "[Ljava/lang/Object;" ∈ TT) (k : Ev X y d mc ms Q cells slots pc' ls (vR (some 14) :: st) h) : Ev X y d mc ms Q cells slots pc ls st h := by
  obtain ⟨hd, rfl⟩ := hd
  intro p e s m args below meth c H locs lsr C hC hS hl
  have kk := k p e s m args below meth c H locs lsr C hC hS hl
  obtain ⟨hx, hb, hmx, hret, hown, hts, hlk, hnm, hK, hP, hsz⟩ := C
  exact va_gets hx hb hP.2.2.2.2.1 hS hown (hts _ w) (fun _ z => z) hd kk
theorem e_alenD (hd : At y.2.1 pc (.arraylength) 1 pc') (k : Ev X y d mc ms Q cells slots pc' ls (vI 0 :: st) h) : Ev X y d mc ms Q cells slots pc ls (vR (some 14) :: st) h := by
  obtain ⟨hd, rfl⟩ := hd
  intro p e s m args below meth c H locs lsr C hC hS hl
  have kk := k p e s m args below meth c H locs lsr C hC hS hl
  obtain ⟨hx, hb, hmx, hret, hown, hts, hlk, hnm, hK, hP, hsz⟩ := C
  exact va_tlen hx hb hP.2.2.2.2.2 hS rfl hd kk
theorem va_tq {p : Program} {l : Launch} {e : Env} {R : Room} {s : State} {m : MethodId} {args : Array Value} {below : List Frame} {meth : Method} {c : Code} {H : Heap} {locs : List Loc} {Qs : State → Prop} {cc : ByteArray} {lsr : Array Slot} {rest : List Value} {A : Nat → Prop} {t N : Nat} {f : Nat → Value} (hexec : p.tables.exec = Jvm.exec) (hb : c.code = cc) (hT : va_T (.array .int) t N f A s s.heap) (hS : va_S A s.heap H locs) {i : Int32} (hin : vp_in i N) {v : Value} (hv : f i.toNatClampNeg = v) (hdg : decode cc pc = .ok (.aaload, 1))
    (kk : W p l e R s m args below meth c H locs cells slots Qs (F0 m (pc + 1) lsr (v :: rest))) : W p l e R s m args below meth c H locs cells slots Qs (F0 m pc lsr (.int i :: .ref t :: rest)) := by
  obtain ⟨cell, h1, h2, h3, h4, h5, h6, h7⟩ := hT
  have hlt : i.toNatClampNeg < N := Nat.not_le.mp fun q => hin (Or.inr q)
  have hin' : ¬ (i < 0 ∨ cell.slots.size ≤ i.toNatClampNeg) := by
    intro q
    rcases q with q | q
    · exact hin (Or.inl q)
    · omega
  exact W.aald (v := v) (ty := .array .int) hexec hb (by rw [hS.2.1 t (Array.getElem?_eq_some_iff.mp h1).1 h7]; exact h1) h2 rfl h3 hin' (by rw [h6 _ hlt, hv]) rfl rfl hdg kk
theorem e_aaloadO {i : Int32} {i0 : Nat} (hd : At y.2.1 pc (.aaload) 1 pc') (hin : vp_in i 6) (hi : i.toNatClampNeg = i0) (k : Ev X y d mc ms Q cells slots pc' ls (vR (some (i0 + 8)) :: st) h) : Ev X y d mc ms Q cells slots pc ls (vI i :: vR (some 7) :: st) h := by
  obtain ⟨hd, rfl⟩ := hd
  intro p e s m args below meth c H locs lsr C hC hS hl
  have kk := k p e s m args below meth c H locs lsr C hC hS hl
  obtain ⟨hx, hb, hmx, hret, hown, hts, hlk, hnm, hK, hP, hsz⟩ := C
  have h6 : i.toNatClampNeg < 6 := Nat.not_le.mp fun q => hin (Or.inr q)
  have e0 : ad X (i0 + 8) = xS X (i0 + 8) := by unfold ad; rw [if_pos (by omega)]
  refine va_tq hx hb hP.2.2.1.2 hS hin (v := .ref (xS X (i0 + 8))) (by rw [hi]) hd ?_
  rw [← e0]
  exact kk
theorem e_ialoadO {i0 : Nat} {q : List Int32} {i : Int32} (hd : At y.2.1 pc (.iaload) 1 pc') (hq : orW[i0]? = some q) (hin : vp_in i q.length) (k : Ev X y d mc ms Q cells slots pc' ls (vI (q.getD i.toNatClampNeg 0) :: st) h) : Ev X y d mc ms Q cells slots pc ls (vI i :: vR (some (i0 + 8)) :: st) h := by
  obtain ⟨hd, rfl⟩ := hd
  intro p e s m args below meth c H locs lsr C hC hS hl
  have kk := k p e s m args below meth c H locs lsr C hC hS hl
  obtain ⟨hx, hb, hmx, hret, hown, hts, hlk, hnm, hK, hP, hsz⟩ := C
  have hi : i0 < 6 := (List.getElem?_eq_some_iff.mp hq).1
  have e0 : ad X (i0 + 8) = xS X (i0 + 8) := by unfold ad; rw [if_pos (by omega)]
  show W _ _ _ _ _ _ _ _ _ _ _ _ _ _ _ (F0 m pc lsr (.int i :: .ref (ad X (i0 + 8)) :: st.map (cv X)))
  rw [e0]
  exact va_ti hx hb (hP.2.2.2.1 i0 q hq) hS hin rfl hd kk
/-! rows of Object: a store of a row of ints; casts to it -/
theorem e_aastoreO {i : Int32} {b : Nat} (hd : At y.2.1 pc (.aastore) 1 pc') (ok : Is h a 20) (ok2 : Is h b 13) (hin : vp_in i (hN h a)) (k : Ev X y d mc ms Q cells slots pc' ls st (wR h a i.toNatClampNeg (some b))) : Ev X y d mc ms Q cells slots pc ls (vR (some b) :: vI i :: vR (some a) :: st) h := by
  obtain ⟨hd, rfl⟩ := hd
  intro p e s m args below meth c H locs lsr C hC hS hl
  have kk := fun H1 locs1 hC1 hS1 => k p e s m args below meth c H1 locs1 lsr C hC1 hS1 hl
  obtain ⟨hx, hb, hmx, hret, hown, hts, hlk, hnm, hK, hP, hsz⟩ := C
  have he := wl_get (X := X) ok.1 ok.2.1
  rw [ent_ref (by decide) ok.2.2] at he
  have hv := wl_get (X := X) ok2.1 ok2.2.1
  rw [ent_int (by decide) ok2.2.2] at hv
  have hc2 : H[ad X b]? = some (vp_cell (xA X 13) (hN h b, .inl (hI h b))) := hC.2.2 _ _ hv
  obtain ⟨kA, comp, k1, k2, k3, -⟩ := (hK.1.2 9 _ rfl).2
  obtain ⟨kE, hkE, -⟩ := Vm.findClass_spec k3
  obtain ⟨c0, t1, f1, f2, f3⟩ := Cond.castable_spec (va_Nw.use (A := args) rfl hK.2.2.2)
  obtain ⟨-, kI, hkI, -⟩ := (hK.1.2 2 _ rfl).1 0 (fun _ => .null)
  have hkI : s.vm.classes[xA X 13]? = some kI := hkI
  have e1 : xA X 13 = c0 := Option.some.inj ((hK.1.2 2 _ rfl).2.symm.trans f1)
  have e2 : comp = t1 := Option.some.inj (k3.symm.trans f2)
  have hlt : i.toNatClampNeg < hN h a := Nat.not_le.mp fun q => hin (Or.inr q)
  have h0 : ¬ i < 0 := fun q => hin (Or.inl q)
  refine W.aast hx hb (hC.2.2 _ _ he) (fun q h => by cases h) (fun h => by cases h) k1 k2 rfl hkE ⟨h0, by show _ < (arrV _ _ _).slots.size; rw [arrV_size]; exact hlt⟩ hc2 (fun q h => by cases h) hkI (by rw [e2]; show s.vm.assignable (xA X 13) t1 = true; rw [e1]; exact f3) rfl rfl hd fun H1 e1 z oq => ?_
  refine kk H1 _ (corH_set hC ok.1 ok.2.1 rfl ?_ (fun q hq => ent_wR hq) z oq) (hS.put z oq (ad_A ok.1))
  have ok' : hT (wR h a i.toNatClampNeg (some b)) a = 20 := ok.2.2
  rw [ent_ref (by decide) ok']
  show H1[ad X a]? = some (vp_cell _ _)
  rw [e1, vp_cell_q, vp_cell_q, arrV_store]
  congr 2
  funext q
  by_cases hq : q = i.toNatClampNeg
  · subst hq
    simp [updV, up2, hR, wR, va_rf]
  · simp [updV, hR, wR, up2, hq]
theorem e_castA {b : Nat} (hd : At y.2.1 pc (.checkcast ix) 3 pc') (w : .classLink y.1.cls ix "[I" ∈ TT) (ok : Is h b 13) (k : Ev X y d mc ms Q cells slots pc' ls (vR (some b) :: st) h) : Ev X y d mc ms Q cells slots pc ls (vR (some b) :: st) h := by
  obtain ⟨hd, rfl⟩ := hd
  intro p e s m args below meth c H locs lsr C hC hS hl
  have kk := k p e s m args below meth c H locs lsr C hC hS hl
  obtain ⟨hx, hb, hmx, hret, hown, hts, hlk, hnm, hK, hP, hsz⟩ := C
  have he := wl_get (X := X) ok.1 ok.2.1
  rw [ent_int (by decide) ok.2.2] at he
  exact va_castA hx hb hown (hts _ w) hC.2.2 _ he (hK.1.2 2 _ rfl).2 hd kk
theorem e_castN (hd : At y.2.1 pc (.checkcast ix) 3 pc') (k : Ev X y d mc ms Q cells slots pc' ls (vR none :: st) h) : Ev X y d mc ms Q cells slots pc ls (vR none :: st) h := by
  obtain ⟨hd, rfl⟩ := hd
  intro p e s m args below meth c H locs lsr C hC hS hl
  have kk := k p e s m args below meth c H locs lsr C hC hS hl
  exact lv_castN C.1 C.2.1 hd kk
/-! Math.min -/
theorem e_min {x y0 : Int32} (hd : At y.2.1 pc (.invokestatic ix) 3 pc') (w1 : .methodLink y.1.cls ix Lib.Math.min.name ∈ TT) (w2 : .static Lib.Math.min.name ∈ TT) (w3 : .initialized "java/lang/Math" ∈ TT) (w4 : .code Lib.Math.min.name Lib.Math.min.code 2 (some .int) ∈ TT) (hdd : 1 ≤ d) (hcc : cells ≤ mc) (hss : slots ≤ ms) (hcat : catL st ≤ 8) (k : Ev X y d mc ms Q cells slots pc' ls (vI (if y0 < x then y0 else x) :: st) h) : Ev X y d mc ms Q cells slots pc ls (vI y0 :: vI x :: st) h := by
  obtain ⟨hd, rfl⟩ := hd
  intro p e s m args below meth c H locs lsr C hC hS hl
  have kk := k p e s m args below meth c H locs lsr C hC hS hl
  obtain ⟨lv, hv, -⟩ := id hl
  obtain ⟨hx, hb, hmx, hret, hown, hts, hlk, hnm, hK, hP, hsz⟩ := C
  exact va_mmin hx hb (by rw [hmx]; exact hv.1.symm) hown (hts _ w1) (hts _ w2) (hts _ w3) (hts _ w4) hdd (by rw [catL_eq]; show catL st + 13 ≤ 40 * d; omega) hcc hss hd kk
end R9
