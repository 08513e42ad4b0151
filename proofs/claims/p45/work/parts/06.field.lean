/-! RULES over the heap: fields, arrays, new cells (written by wip/p45/gen6.py) -/
theorem uw_0 : u_ws RX0 TX0 6 = ([68, 70, 72, 74, 76, 78] : List Nat).filterMap (fun i => lw_tbl[i]?) := by decide +kernel
theorem uv_0 : ∀ w ∈ u_ws RX0 TX0 6, w ∈ TT := by
  intro w hw
  have hg : (u_ws RX0 TX0 6).all goodWord = true := by decide +kernel
  have h1 := List.all_eq_true.mp hg w hw
  rw [uw_0] at hw
  obtain ⟨j, -, hj⟩ := List.mem_filterMap.mp hw
  exact tt_of j hj h1
theorem uw_1 : u_ws RX1 TX1 7 = ([701, 703, 705, 707, 709, 711, 713] : List Nat).filterMap (fun i => lw_tbl[i]?) := by decide +kernel
theorem uv_1 : ∀ w ∈ u_ws RX1 TX1 7, w ∈ TT := by
  intro w hw
  have hg : (u_ws RX1 TX1 7).all goodWord = true := by decide +kernel
  have h1 := List.all_eq_true.mp hg w hw
  rw [uw_1] at hw
  obtain ⟨j, -, hj⟩ := List.mem_filterMap.mp hw
  exact tt_of j hj h1
theorem uw_2 : u_ws RX2 TX2 1 = ([90] : List Nat).filterMap (fun i => lw_tbl[i]?) := by decide +kernel
theorem uv_2 : ∀ w ∈ u_ws RX2 TX2 1, w ∈ TT := by
  intro w hw
  have hg : (u_ws RX2 TX2 1).all goodWord = true := by decide +kernel
  have h1 := List.all_eq_true.mp hg w hw
  rw [uw_2] at hw
  obtain ⟨j, -, hj⟩ := List.mem_filterMap.mp hw
  exact tt_of j hj h1
theorem uw_3 : u_ws RX3 TX3 4 = ([134, 136, 138, 140] : List Nat).filterMap (fun i => lw_tbl[i]?) := by decide +kernel
theorem uv_3 : ∀ w ∈ u_ws RX3 TX3 4, w ∈ TT := by
  intro w hw
  have hg : (u_ws RX3 TX3 4).all goodWord = true := by decide +kernel
  have h1 := List.all_eq_true.mp hg w hw
  rw [uw_3] at hw
  obtain ⟨j, -, hj⟩ := List.mem_filterMap.mp hw
  exact tt_of j hj h1
theorem uw_4 : u_ws RX4 TX4 4 = ([372, 374, 376, 378] : List Nat).filterMap (fun i => lw_tbl[i]?) := by decide +kernel
theorem uv_4 : ∀ w ∈ u_ws RX4 TX4 4, w ∈ TT := by
  intro w hw
  have hg : (u_ws RX4 TX4 4).all goodWord = true := by decide +kernel
  have h1 := List.all_eq_true.mp hg w hw
  rw [uw_4] at hw
  obtain ⟨j, -, hj⟩ := List.mem_filterMap.mp hw
  exact tt_of j hj h1
theorem uw_5 : u_ws RX5 TX5 3 = ([156, 158, 160] : List Nat).filterMap (fun i => lw_tbl[i]?) := by decide +kernel
theorem uv_5 : ∀ w ∈ u_ws RX5 TX5 3, w ∈ TT := by
  intro w hw
  have hg : (u_ws RX5 TX5 3).all goodWord = true := by decide +kernel
  have h1 := List.all_eq_true.mp hg w hw
  rw [uw_5] at hw
  obtain ⟨j, -, hj⟩ := List.mem_filterMap.mp hw
  exact tt_of j hj h1
theorem uw_6 : u_ws RX6 TX6 1 = ([126] : List Nat).filterMap (fun i => lw_tbl[i]?) := by decide +kernel
theorem uv_6 : ∀ w ∈ u_ws RX6 TX6 1, w ∈ TT := by
  intro w hw
  have hg : (u_ws RX6 TX6 1).all goodWord = true := by decide +kernel
  have h1 := List.all_eq_true.mp hg w hw
  rw [uw_6] at hw
  obtain ⟨j, -, hj⟩ := List.mem_filterMap.mp hw
  exact tt_of j hj h1
theorem uw_7 : u_ws RX7 TX7 4 = ([107, 109, 111, 113] : List Nat).filterMap (fun i => lw_tbl[i]?) := by decide +kernel
theorem uv_7 : ∀ w ∈ u_ws RX7 TX7 4, w ∈ TT := by
  intro w hw
  have hg : (u_ws RX7 TX7 4).all goodWord = true := by decide +kernel
  have h1 := List.all_eq_true.mp hg w hw
  rw [uw_7] at hw
  obtain ⟨j, -, hj⟩ := List.mem_filterMap.mp hw
  exact tt_of j hj h1
theorem uw_8 : u_ws RX8 TX8 9 = ([177, 179, 181, 183, 185, 187, 189, 191, 193] : List Nat).filterMap (fun i => lw_tbl[i]?) := by decide +kernel
theorem uv_8 : ∀ w ∈ u_ws RX8 TX8 9, w ∈ TT := by
  intro w hw
  have hg : (u_ws RX8 TX8 9).all goodWord = true := by decide +kernel
  have h1 := List.all_eq_true.mp hg w hw
  rw [uw_8] at hw
  obtain ⟨j, -, hj⟩ := List.mem_filterMap.mp hw
  exact tt_of j hj h1
theorem uw_9 : u_ws RX9 TX9 11 = ([507, 509, 511, 513, 515, 517, 519, 521, 523, 525, 527] : List Nat).filterMap (fun i => lw_tbl[i]?) := by decide +kernel
theorem uv_9 : ∀ w ∈ u_ws RX9 TX9 11, w ∈ TT := by
  intro w hw
  have hg : (u_ws RX9 TX9 11).all goodWord = true := by decide +kernel
  have h1 := List.all_eq_true.mp hg w hw
  rw [uw_9] at hw
  obtain ⟨j, -, hj⟩ := List.mem_filterMap.mp hw
  exact tt_of j hj h1
theorem uw_10 : u_ws RJx4a65c TJx4a65c 3 = ([484, 480, 482] : List Nat).filterMap (fun i => lw_tbl[i]?) := by decide +kernel
theorem uv_10 : ∀ w ∈ u_ws RJx4a65c TJx4a65c 3, w ∈ TT := by
  intro w hw
  have hg : (u_ws RJx4a65c TJx4a65c 3).all goodWord = true := by decide +kernel
  have h1 := List.all_eq_true.mp hg w hw
  rw [uw_10] at hw
  obtain ⟨j, -, hj⟩ := List.mem_filterMap.mp hw
  exact tt_of j hj h1
theorem cl_ok : ∀ (ci : Nat) (r : vw_C), vwCl[ci]? = some r → (∀ w ∈ u_ws r.1 r.2.1 r.2.2, w ∈ TT) ∧ (∀ k, k < r.2.2 → parseFieldDescriptor (r.2.1 k).2.2.1 = some (tyF ci k)) ∧ (∀ a, a < r.2.2 → ∀ b, b < r.2.2 → a ≠ b → (r.2.1 a).2.1 ≠ (r.2.1 b).2.1) ∧ r.2.2 = nF ci ∧ ci < 11 := by
  intro ci r h
  match ci, h with
  | 0, h => cases h; exact ⟨uv_0, tyX0_ok, nmX0, rfl, by decide⟩
  | 1, h => cases h; exact ⟨uv_1, tyX1_ok, nmX1, rfl, by decide⟩
  | 2, h => cases h; exact ⟨uv_2, tyX2_ok, nmX2, rfl, by decide⟩
  | 3, h => cases h; exact ⟨uv_3, tyX3_ok, nmX3, rfl, by decide⟩
  | 4, h => cases h; exact ⟨uv_4, tyX4_ok, nmX4, rfl, by decide⟩
  | 5, h => cases h; exact ⟨uv_5, tyX5_ok, nmX5, rfl, by decide⟩
  | 6, h => cases h; exact ⟨uv_6, tyX6_ok, nmX6, rfl, by decide⟩
  | 7, h => cases h; exact ⟨uv_7, tyX7_ok, nmX7, rfl, by decide⟩
  | 8, h => cases h; exact ⟨uv_8, tyX8_ok, nmX8, rfl, by decide⟩
  | 9, h => cases h; exact ⟨uv_9, tyX9_ok, nmX9, rfl, by decide⟩
  | 10, h => cases h; exact ⟨uv_10, tyJx4a65c_ok, nmJx4a65c, rfl, by decide⟩
  | n + 11, h => simp [vwCl] at h
/-- a field: through the constant ix of own's pool, field k of the class ci -/
def Fld (own : String) (ix ci k : Nat) (ty : FieldType) (fin : Bool) : Prop := ∃ r, vwCl[ci]? = some r ∧ k < r.2.2 ∧ (∃ ref : String, .fieldLink own ix ref (r.2.1 k).2.1 (r.2.1 k).2.2.1 ∈ TT ∧ (ref = (r.2.1 k).1 ∨ (.sameField ref (r.2.1 k).1 (r.2.1 k).2.1 (r.2.1 k).2.2.1 ∈ TT ∧ fin = false))) ∧ tyF ci k = ty ∧ (r.2.1 k).2.2.2 = fin ∧ (fin = true → (r.2.1 k).1 = r.1)
/-- a field of a nest mate's -/
def FldN (own : String) (ix ci k : Nat) (ty : FieldType) (fin : Bool) : Prop := ∃ r, vwCl[ci]? = some r ∧ k < r.2.2 ∧ (∃ H : String, .fieldLinkNest own ix (r.2.1 k).1 (r.2.1 k).2.1 (r.2.1 k).2.2.1 H ∈ nestW) ∧ tyF ci k = ty ∧ (r.2.1 k).2.2.2 = fin
theorem f_same {r : vw_C} {k : Nat} {ref : String} {fin : Bool} {args : Array Value} {s : State} (hts : ∀ w ∈ TT, w.before args s = true) (q : ref = (r.2.1 k).1 ∨ (.sameField ref (r.2.1 k).1 (r.2.1 k).2.1 (r.2.1 k).2.2.1 ∈ TT ∧ fin = false)) : ∀ x, s.fieldFound? (r.2.1 k).1 (r.2.1 k).2.1 (r.2.1 k).2.2.1 = some x → s.fieldFound? ref (r.2.1 k).2.1 (r.2.1 k).2.2.1 = some x := by
  rcases q with rfl | ⟨q, -⟩
  · exact fun _ z => z
  · exact fun x z => u_same (hts _ q) x z
theorem fs_at {X : EX} {h : HP} {a ci k : Nat} (hk : k < nF ci) : ((List.range (nF ci)).map (fun i => if isR ci i then va_rf ((hR h a i).map (ad X)) else .int (hI h a i)))[k]? = some (if isR ci k then va_rf ((hR h a k).map (ad X)) else .int (hI h a k)) := by
  rw [List.getElem?_map, List.getElem?_range hk]; rfl
theorem fs_set {X : EX} {h h' : HP} {a ci k : Nat} {v : Value} (hk : k < nF ci) (hv : (if isR ci k then va_rf ((hR h' a k).map (ad X)) else .int (hI h' a k)) = v) (ho : ∀ j, j ≠ k → hI h' a j = hI h a j ∧ hR h' a j = hR h a j) :
    ((List.range (nF ci)).map (fun i => if isR ci i then va_rf ((hR h a i).map (ad X)) else .int (hI h a i))).set k v = (List.range (nF ci)).map (fun i => if isR ci i then va_rf ((hR h' a i).map (ad X)) else .int (hI h' a i)) := by
  apply List.ext_getElem?
  intro j
  rw [List.getElem?_set]
  by_cases hj : j < nF ci
  · rw [fs_at hj, fs_at hj, List.length_map, List.length_range]
    by_cases hjk : k = j
    · subst hjk
      rw [if_pos rfl, if_pos hk, hv]
    · rw [if_neg hjk, (ho j (fun q => hjk q.symm)).1, (ho j (fun q => hjk q.symm)).2]
  · rw [if_neg (by omega), List.getElem?_eq_none (by simp; omega), List.getElem?_eq_none (by simp; omega)]
theorem corH_set {X : EX} {h h' : HP} {H H1 : Heap} {a : Nat} (hC : CorH X h H) (h1 : 32 ≤ a) (h2 : a < hZ h) (hz : hZ h' = hZ h) (he : va_at (xD X) vwCl (ad X a, ent X h' a) H1) (ho : ∀ k, k ≠ a → ent X h' k = ent X h k) (z : H1.size = H.size) (oq : ∀ q : Nat, q ≠ ad X a → H1[q]? = H[q]?) : CorH X h' H1 := by
  obtain ⟨q1, q2, q3⟩ := hC
  refine ⟨by rw [z, q1, hz], by rw [hz]; exact q2, ?_⟩
  rw [← wl_set h1 h2 hz rfl ho]
  exact q3.set (wl_D X h) (wl_get h1 h2) he oq
theorem corH_push {X : EX} {h h' : HP} {H H1 : Heap} (hC : CorH X h H) (hz : hZ h' = hZ h + 1) (he : va_at (xD X) vwCl (ad X (hZ h), ent X h' (hZ h)) H1) (ho : ∀ k, k < hZ h → ent X h' k = ent X h k) (z : H1.size = H.size + 1) (oq : ∀ q : Nat, q < H.size → H1[q]? = H[q]?) : CorH X h' H1 := by
  obtain ⟨q1, q2, q3⟩ := hC
  refine ⟨by rw [z, q1, hz]; omega, by omega, ?_⟩
  rw [← wl_push q2 hz rfl ho]
  refine (q3.kept (fun k q hq => oq _ ((q3 k q hq).lt))).app (fun k q hq => ?_)
  have hk : k = 0 := by
    have := (List.getElem?_eq_some_iff.mp hq).1
    simpa using this
  subst hk
  cases hq
  exact he
theorem ent_wI {X : EX} {h : HP} {a i k : Nat} {v : Int32} (hk : k ≠ a) : ent X (wI h a i v) k = ent X h k := by
  have e : hI (wI h a i v) k = hI h k := funext fun j => up2_a hk
  unfold ent
  rw [e]
  rfl
theorem ent_wL {X : EX} {h : HP} {a i k : Nat} {v : Int64} (hk : k ≠ a) : ent X (wL h a i v) k = ent X h k := by
  have e : hL (wL h a i v) k = hL h k := funext fun j => up2_a hk
  unfold ent
  rw [e]
  rfl
theorem ent_wR {X : EX} {h : HP} {a i k : Nat} {v : Option Nat} (hk : k ≠ a) : ent X (wR h a i v) k = ent X h k := by
  have e : hR (wR h a i v) k = hR h k := funext fun j => up2_a hk
  unfold ent
  rw [e]
  rfl
theorem ad_A {X : EX} {a : Nat} (h : 32 ≤ a) : AA X (ad X a) := by
  unfold ad AA
  rw [if_neg (by omega)]
  omega
theorem ad_sz {X : EX} {h : HP} {H : Heap} (hC : CorH X h H) : ad X (hZ h) = H.size := by
  unfold ad
  have := hC.2.1
  rw [if_neg (by omega), hC.1]
section R8
variable {X : EX} {y : MD} {d mc ms : Nat} {Q : Option VV → HP → Prop} {cells slots pc pc' : Nat} {ls : ZL} {st : List VV} {h : HP} {ix ci kf a : Nat}
theorem e_getI {ty : FieldType} {fin : Bool} (hd : At y.2.1 pc (.getfield ix) 3 pc') (F : Fld y.1.cls ix ci kf ty fin) (hr : isR ci kf = false) (ok : Is h a (ci + 1)) (k : Ev X y d mc ms Q cells slots pc' ls (vI (hI h a kf) :: st) h) : Ev X y d mc ms Q cells slots pc ls (vR (some a) :: st) h := by
  obtain ⟨hd, rfl⟩ := hd
  intro p e s m args below meth c H locs lsr C hC hS hl
  have kk := k p e s m args below meth c H locs lsr C hC hS hl
  obtain ⟨hx, hb, hmx, hret, hown, hts, hlk, hnm, hK, hP, hsz⟩ := C
  obtain ⟨r, q1, q2, ⟨ref, q3, qs⟩, q4, q5, q6⟩ := F
  obtain ⟨c1, c2, c3, c4, c5⟩ := cl_ok ci r q1
  have he := wl_get (X := X) ok.1 ok.2.1
  rw [ent_obj c5 ok.2.2] at he
  refine va_get (C := r.1) (T := r.2.1) (N := r.2.2) hx hb hts c1 hown hK.1 hC.2.2 _ he q1 kf q2 (hts _ q3) (f_same hts qs) (v := .int (hI h a kf)) ?_ hd kk
  rw [fs_at (by rw [← c4]; exact q2), hr]
  rfl
theorem e_getR {ty : FieldType} {fin : Bool} (hd : At y.2.1 pc (.getfield ix) 3 pc') (F : Fld y.1.cls ix ci kf ty fin) (hr : isR ci kf = true) (ok : Is h a (ci + 1)) (k : Ev X y d mc ms Q cells slots pc' ls (vR (hR h a kf) :: st) h) : Ev X y d mc ms Q cells slots pc ls (vR (some a) :: st) h := by
  obtain ⟨hd, rfl⟩ := hd
  intro p e s m args below meth c H locs lsr C hC hS hl
  have kk := k p e s m args below meth c H locs lsr C hC hS hl
  obtain ⟨hx, hb, hmx, hret, hown, hts, hlk, hnm, hK, hP, hsz⟩ := C
  obtain ⟨r, q1, q2, ⟨ref, q3, qs⟩, q4, q5, q6⟩ := F
  obtain ⟨c1, c2, c3, c4, c5⟩ := cl_ok ci r q1
  have he := wl_get (X := X) ok.1 ok.2.1
  rw [ent_obj c5 ok.2.2] at he
  refine va_get (C := r.1) (T := r.2.1) (N := r.2.2) hx hb hts c1 hown hK.1 hC.2.2 _ he q1 kf q2 (hts _ q3) (f_same hts qs) (v := va_rf ((hR h a kf).map (ad X))) ?_ hd kk
  rw [fs_at (by rw [← c4]; exact q2), hr]
  rfl
theorem e_getIN {ty : FieldType} {fin : Bool} (hd : At y.2.1 pc (.getfield ix) 3 pc') (F : FldN y.1.cls ix ci kf ty fin) (hr : isR ci kf = false) (ok : Is h a (ci + 1)) (k : Ev X y d mc ms Q cells slots pc' ls (vI (hI h a kf) :: st) h) : Ev X y d mc ms Q cells slots pc ls (vR (some a) :: st) h := by
  obtain ⟨hd, rfl⟩ := hd
  intro p e s m args below meth c H locs lsr C hC hS hl
  have kk := k p e s m args below meth c H locs lsr C hC hS hl
  obtain ⟨hx, hb, hmx, hret, hown, hts, hlk, hnm, hK, hP, hsz⟩ := C
  obtain ⟨r, q1, q2, ⟨H9, q3⟩, q4, q5⟩ := F
  obtain ⟨c1, c2, c3, c4, c5⟩ := cl_ok ci r q1
  have he := wl_get (X := X) ok.1 ok.2.1
  rw [ent_obj c5 ok.2.2] at he
  refine va_getN (C := r.1) (T := r.2.1) (N := r.2.2) hx hb hts c1 hown hK.1 hC.2.2 _ he q1 kf q2 (va_Nw.use rfl (hK.2.1 _ q3)) (fun _ z => z) (v := .int (hI h a kf)) ?_ hd kk
  rw [fs_at (by rw [← c4]; exact q2), hr]
  rfl
theorem e_getRN {ty : FieldType} {fin : Bool} (hd : At y.2.1 pc (.getfield ix) 3 pc') (F : FldN y.1.cls ix ci kf ty fin) (hr : isR ci kf = true) (ok : Is h a (ci + 1)) (k : Ev X y d mc ms Q cells slots pc' ls (vR (hR h a kf) :: st) h) : Ev X y d mc ms Q cells slots pc ls (vR (some a) :: st) h := by
  obtain ⟨hd, rfl⟩ := hd
  intro p e s m args below meth c H locs lsr C hC hS hl
  have kk := k p e s m args below meth c H locs lsr C hC hS hl
  obtain ⟨hx, hb, hmx, hret, hown, hts, hlk, hnm, hK, hP, hsz⟩ := C
  obtain ⟨r, q1, q2, ⟨H9, q3⟩, q4, q5⟩ := F
  obtain ⟨c1, c2, c3, c4, c5⟩ := cl_ok ci r q1
  have he := wl_get (X := X) ok.1 ok.2.1
  rw [ent_obj c5 ok.2.2] at he
  refine va_getN (C := r.1) (T := r.2.1) (N := r.2.2) hx hb hts c1 hown hK.1 hC.2.2 _ he q1 kf q2 (va_Nw.use rfl (hK.2.1 _ q3)) (fun _ z => z) (v := va_rf ((hR h a kf).map (ad X))) ?_ hd kk
  rw [fs_at (by rw [← c4]; exact q2), hr]
  rfl
/-- a field's store, of any kind -/
theorem put_core {v : VV} {h' : HP} {ty : FieldType} {fin : Bool} (hd : decode y.2.1 pc = .ok (.putfield ix, 3)) (F : Fld y.1.cls ix ci kf ty fin) (ok : Is h a (ci + 1)) (hfin : fin = false ∨ (y.1.name = "<init>" ∧ ∀ r, vwCl[ci]? = some r → r.1 = y.1.cls))
    (hn : narrow ty (cv X v) = cv X v) (hf : fits ty (cv X v) = true) (hz : hZ h' = hZ h) (hv : (if isR ci kf then va_rf ((hR h' a kf).map (ad X)) else .int (hI h' a kf)) = cv X v) (ho : ∀ j, j ≠ kf → hI h' a j = hI h a j ∧ hR h' a j = hR h a j) (ht : hT h' a = hT h a) (he' : ∀ q, q ≠ a → ent X h' q = ent X h q)
    (k : Ev X y d mc ms Q cells slots (pc + 3) ls st h') : Ev X y d mc ms Q cells slots pc ls (v :: vR (some a) :: st) h := by
  intro p e s m args below meth c H locs lsr C hC hS hl
  have kk := fun H1 locs1 hC1 hS1 => k p e s m args below meth c H1 locs1 lsr C hC1 hS1 hl
  obtain ⟨hx, hb, hmx, hret, hown, hts, hlk, hnm, hK, hP, hsz⟩ := C
  obtain ⟨r, q1, q2, ⟨ref, q3, qs⟩, q4, q5, q6⟩ := F
  obtain ⟨c1, c2, c3, c4, c5⟩ := cl_ok ci r q1
  have he := wl_get (X := X) ok.1 ok.2.1
  rw [ent_obj c5 ok.2.2] at he
  have hap := va_apart (own := y.1.cls) hts c1 (tyF ci) c2 c3 hK.1 q1
  obtain ⟨r', h1, cell, g1, g2, g3, g4⟩ := hC.2.2 _ _ he
  have hrr : r' = r := Option.some.inj (h1.symm.trans q1)
  subst hrr
  obtain ⟨hSl, hfc, kC, hkC, hkind⟩ := hK.1.1 ci _ q1
  obtain ⟨cf, kf0, fi, f, hi, hsl⟩ := hSl kf q2
  have hlay := hts _ (c1 _ (u_in_lay q2))
  have hst := (u_facts hfc hkC (u_lays hts c1 q2) hi).1
  have hd0 : parseFieldDescriptor (r'.2.1 kf).2.2.1 = some ty := by rw [c2 kf q2, q4]
  have hlen : kf < ((List.range (nF ci)).map (fun i => if isR ci i then va_rf ((hR h a i).map (ad X)) else .int (hI h a i))).length := by
    rw [List.length_map, List.length_range, ← c4]; exact q2
  have fin2 : ∀ H1 : Heap, H1[ad X a]? = some (cell.setSlot f.slot (cv X v)) → H1.size = H.size → (∀ q, q ≠ ad X a → H1[q]? = H[q]?) →
      W p (xl X) e (rmd d mc ms) s m args below meth c H1 (locs ++ [⟨ad X a, f.slot⟩]) cells slots (MQ below (Qm X Q) args s mc ms (AA X)) (F0 m (pc + 3) lsr (st.map (cv X))) := by
    intro H1 e1 e2 e3
    rw [hsl] at e1
    refine kk H1 _ (corH_set hC ok.1 ok.2.1 hz ?_ he' e2 e3) (hS.put e2 e3 (ad_A ok.1))
    rw [ent_obj c5 (ht.trans ok.2.2)]
    refine ⟨r', q1, ?_⟩
    have hset := fs_set (X := X) (h := h) (h' := h') (a := a) (ci := ci) (k := kf) (v := cv X v) (by rw [← c4]; exact q2) hv ho
    show t_OB (ad X a) _ _ _ H1 (vp_V ((List.range (nF ci)).map _))
    rw [← hset]
    exact t_OB.to (V := updV (vp_V _) kf (cv X v)) ⟨_, e1, g2, g3, t_set g4 hap q2 (cv X v)⟩ (fun j _ => vp_updV_set hlen (cv X v) j)
  have hslot : f.slot < cell.slots.size := by rw [hsl]; exact k2_hasslot (g4 kf q2)
  unfold u_lay at hlay
  rcases hfin with hfin | ⟨hin, hown2⟩
  · rw [if_neg (by rw [q5, hfin]; decide)] at hlay
    exact W.putK hx hb (f := f) ⟨hown, hts _ q3, ⟨_, _, _, f_same hts qs _ hi⟩, hst⟩ (by rw [g2]; exact u_store hfc hkC hkind hlay hi hd0 hn hf) g1 g3 hslot rfl rfl hd fin2
  · cases hfb : fin with
    | false =>
      rw [if_neg (by rw [q5, hfb]; decide)] at hlay
      exact W.putK hx hb (f := f) ⟨hown, hts _ q3, ⟨_, _, _, f_same hts qs _ hi⟩, hst⟩ (by rw [g2]; exact u_store hfc hkC hkind hlay hi hd0 hn hf) g1 g3 hslot rfl rfl hd fin2
    | true =>
      rw [if_pos (by rw [q5, hfb])] at hlay
      have hcf : m.cls = cf := by
        obtain ⟨_, _, c', _, _, _, -, -, hf', -, -, -, hown3, -⟩ := Cond.laysFinal_spec hlay
        have e1 : c' = cf := by have := hi.symm.trans hf'; simp at this; exact this.1.symm
        rw [q6 hfb, hown2 _ q1] at hown3
        rw [← e1]; exact Option.some.inj (hown.symm.trans hown3)
      exact W.putFinK hx hb hown (hts _ q3) (f_same hts qs _ hi) hst hcf (hnm.trans hin) (by rw [g2]; exact u_fits hfc hkC hkind (Or.inr hlay) hi hd0 hn hf) g1 g3 hslot rfl rfl hd fin2
theorem e_putI {x : Int32} {fin : Bool} (hd : At y.2.1 pc (.putfield ix) 3 pc') (F : Fld y.1.cls ix ci kf .int fin) (hr : isR ci kf = false) (ok : Is h a (ci + 1)) (hfin : fin = false ∨ (y.1.name = "<init>" ∧ ∀ r, vwCl[ci]? = some r → r.1 = y.1.cls)) (k : Ev X y d mc ms Q cells slots pc' ls st (wI h a kf x)) : Ev X y d mc ms Q cells slots pc ls (vI x :: vR (some a) :: st) h := by
  obtain ⟨hd, rfl⟩ := hd
  refine put_core (v := vI x) (h' := wI h a kf x) hd F ok hfin rfl rfl rfl ?_ (fun j hj => ⟨up2_i hj, rfl⟩) rfl (fun q hq => ent_wI hq) k
  rw [hr]
  show Value.int (up2 _ _ _ _ _ _) = _
  rw [up2_s]
  rfl
theorem e_putZ {x : Int32} {fin : Bool} (hd : At y.2.1 pc (.putfield ix) 3 pc') (F : Fld y.1.cls ix ci kf .boolean fin) (hr : isR ci kf = false) (ok : Is h a (ci + 1)) (hfin : fin = false ∨ (y.1.name = "<init>" ∧ ∀ r, vwCl[ci]? = some r → r.1 = y.1.cls)) (hx : x = 0 ∨ x = 1) (k : Ev X y d mc ms Q cells slots pc' ls st (wI h a kf x)) : Ev X y d mc ms Q cells slots pc ls (vI x :: vR (some a) :: st) h := by
  obtain ⟨hd, rfl⟩ := hd
  refine put_core (v := vI x) (h' := wI h a kf x) hd F ok hfin (by rcases hx with rfl | rfl <;> rfl) (by rcases hx with rfl | rfl <;> rfl) rfl ?_ (fun j hj => ⟨up2_i hj, rfl⟩) rfl (fun q hq => ent_wI hq) k
  rw [hr]
  show Value.int (up2 _ _ _ _ _ _) = _
  rw [up2_s]
  rfl
theorem e_putR {r0 : Option Nat} {ty : FieldType} {fin : Bool} (hd : At y.2.1 pc (.putfield ix) 3 pc') (F : Fld y.1.cls ix ci kf ty fin) (hr : isR ci kf = true) (ok : Is h a (ci + 1)) (hfin : fin = false ∨ (y.1.name = "<init>" ∧ ∀ r, vwCl[ci]? = some r → r.1 = y.1.cls)) (k : Ev X y d mc ms Q cells slots pc' ls st (wR h a kf r0)) : Ev X y d mc ms Q cells slots pc ls (vR r0 :: vR (some a) :: st) h := by
  obtain ⟨hd, rfl⟩ := hd
  have hty : (∃ n, ty = .object n) ∨ ∃ t, ty = .array t := by
    obtain ⟨r, q1, q2, q3, q4, q5, q6⟩ := F
    unfold isR at hr
    rw [q4] at hr
    cases ty <;> first | exact Or.inl ⟨_, rfl⟩ | exact Or.inr ⟨_, rfl⟩ | cases hr
  refine put_core (v := vR r0) (h' := wR h a kf r0) hd F ok hfin ?_ ?_ rfl ?_ (fun j hj => ⟨rfl, up2_i hj⟩) rfl (fun q hq => ent_wR hq) k
  · cases r0 <;> rcases hty with ⟨n, rfl⟩ | ⟨t, rfl⟩ <;> rfl
  · cases r0 <;> rcases hty with ⟨n, rfl⟩ | ⟨t, rfl⟩ <;> rfl
  · rw [hr]
    show va_rf (Option.map _ (up2 _ _ _ _ _ _)) = _
    rw [up2_s]
    rfl
theorem put_coreN {v : VV} {h' : HP} {ty : FieldType} (hd : decode y.2.1 pc = .ok (.putfield ix, 3)) (F : FldN y.1.cls ix ci kf ty false) (ok : Is h a (ci + 1))
    (hn : narrow ty (cv X v) = cv X v) (hf : fits ty (cv X v) = true) (hz : hZ h' = hZ h) (hv : (if isR ci kf then va_rf ((hR h' a kf).map (ad X)) else .int (hI h' a kf)) = cv X v) (ho : ∀ j, j ≠ kf → hI h' a j = hI h a j ∧ hR h' a j = hR h a j) (ht : hT h' a = hT h a) (he' : ∀ q, q ≠ a → ent X h' q = ent X h q)
    (k : Ev X y d mc ms Q cells slots (pc + 3) ls st h') : Ev X y d mc ms Q cells slots pc ls (v :: vR (some a) :: st) h := by
  intro p e s m args below meth c H locs lsr C hC hS hl
  have kk := fun H1 locs1 hC1 hS1 => k p e s m args below meth c H1 locs1 lsr C hC1 hS1 hl
  obtain ⟨hx, hb, hmx, hret, hown, hts, hlk, hnm, hK, hP, hsz⟩ := C
  obtain ⟨r, q1, q2, ⟨H9, q3⟩, q4, q5⟩ := F
  obtain ⟨c1, c2, c3, c4, c5⟩ := cl_ok ci r q1
  have he := wl_get (X := X) ok.1 ok.2.1
  rw [ent_obj c5 ok.2.2] at he
  have hap := va_apart (own := y.1.cls) hts c1 (tyF ci) c2 c3 hK.1 q1
  obtain ⟨r', h1, cell, g1, g2, g3, g4⟩ := hC.2.2 _ _ he
  have hrr : r' = r := Option.some.inj (h1.symm.trans q1)
  subst hrr
  obtain ⟨hSl, hfc, kC, hkC, hkind⟩ := hK.1.1 ci _ q1
  obtain ⟨cf, kf0, fi, f, hi, hsl⟩ := hSl kf q2
  have hlay := hts _ (c1 _ (u_in_lay q2))
  have hst := (u_facts hfc hkC (u_lays hts c1 q2) hi).1
  have hd0 : parseFieldDescriptor (r'.2.1 kf).2.2.1 = some ty := by rw [c2 kf q2, q4]
  have hlen : kf < ((List.range (nF ci)).map (fun i => if isR ci i then va_rf ((hR h a i).map (ad X)) else .int (hI h a i))).length := by
    rw [List.length_map, List.length_range, ← c4]; exact q2
  have fin2 : ∀ H1 : Heap, H1[ad X a]? = some (cell.setSlot f.slot (cv X v)) → H1.size = H.size → (∀ q, q ≠ ad X a → H1[q]? = H[q]?) →
      W p (xl X) e (rmd d mc ms) s m args below meth c H1 (locs ++ [⟨ad X a, f.slot⟩]) cells slots (MQ below (Qm X Q) args s mc ms (AA X)) (F0 m (pc + 3) lsr (st.map (cv X))) := by
    intro H1 e1 e2 e3
    rw [hsl] at e1
    refine kk H1 _ (corH_set hC ok.1 ok.2.1 hz ?_ he' e2 e3) (hS.put e2 e3 (ad_A ok.1))
    rw [ent_obj c5 (ht.trans ok.2.2)]
    refine ⟨r', q1, ?_⟩
    have hset := fs_set (X := X) (h := h) (h' := h') (a := a) (ci := ci) (k := kf) (v := cv X v) (by rw [← c4]; exact q2) hv ho
    show t_OB (ad X a) _ _ _ H1 (vp_V ((List.range (nF ci)).map _))
    rw [← hset]
    exact t_OB.to (V := updV (vp_V _) kf (cv X v)) ⟨_, e1, g2, g3, t_set g4 hap q2 (cv X v)⟩ (fun j _ => vp_updV_set hlen (cv X v) j)
  have hslot : f.slot < cell.slots.size := by rw [hsl]; exact k2_hasslot (g4 kf q2)
  unfold u_lay at hlay
  rw [if_neg (by rw [q5]; decide)] at hlay
  exact va_WputK hx hb (f := f) hown (va_Nw.use rfl (hK.2.1 _ q3)) hi hst (by rw [g2]; exact u_store hfc hkC hkind hlay hi hd0 hn hf) g1 g3 hslot rfl rfl hd fin2
theorem e_putIN {x : Int32} (hd : At y.2.1 pc (.putfield ix) 3 pc') (F : FldN y.1.cls ix ci kf .int false) (hr : isR ci kf = false) (ok : Is h a (ci + 1)) (k : Ev X y d mc ms Q cells slots pc' ls st (wI h a kf x)) : Ev X y d mc ms Q cells slots pc ls (vI x :: vR (some a) :: st) h := by
  obtain ⟨hd, rfl⟩ := hd
  refine put_coreN (v := vI x) (h' := wI h a kf x) hd F ok rfl rfl rfl ?_ (fun j hj => ⟨up2_i hj, rfl⟩) rfl (fun q hq => ent_wI hq) k
  rw [hr]
  show Value.int (up2 _ _ _ _ _ _) = _
  rw [up2_s]
  rfl
end R8
