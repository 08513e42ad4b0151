/-! rules that the class did not want (written by wip/p45/g50b.py) -/
section R4b
variable {X : EX} {y : MD} {d mc ms : Nat} {Q : Option VV → HP → Prop} {cells slots pc pc' : Nat} {ls : ZL} {st : List VV} {h : HP}
theorem e_lmul {x y0 : Int64} (hd : At y.2.1 pc (.lmul) 1 pc') (k : Ev X y d mc ms Q cells slots pc' ls (vL (x * y0) :: st) h) : Ev X y d mc ms Q cells slots pc ls (vL y0 :: vL x :: st) h := by
  obtain ⟨hd, rfl⟩ := hd
  intro p e s m args below meth c H locs lsr C hC hS hl
  obtain ⟨lv, hv, hg⟩ := id hl
  exact lv_lmul C.1 C.2.1 hd (k p e s m args below meth c H locs lsr C hC hS hl)
theorem e_dup_x1 {v w : VV} (hd : At y.2.1 pc (.dup_x1) 1 pc') (hc : is2 (some v) = false) (hc2 : is2 (some w) = false) (k : Ev X y d mc ms Q cells slots pc' ls (v :: w :: v :: st) h) : Ev X y d mc ms Q cells slots pc ls (v :: w :: st) h := by
  obtain ⟨hd, rfl⟩ := hd
  intro p e s m args below meth c H locs lsr C hC hS hl
  obtain ⟨lv, hv, hg⟩ := id hl
  exact lv_dup_x1 C.1 C.2.1 hd (by rw [cv_cat, hc]; rfl) (by rw [cv_cat, hc2]; rfl) (k p e s m args below meth c H locs lsr C hC hS hl)
/-! Math.max -/
theorem e_max {ix : Nat} {x y0 : Int32} (hd : At y.2.1 pc (.invokestatic ix) 3 pc') (cal : CalS y.1.cls ix mJ9_max_7cf53 2) (hdd : 1 ≤ d) (hcc : cells ≤ mc) (hss : slots ≤ ms) (hcat : catL st ≤ 8) (k : Ev X y d mc ms Q cells slots pc' ls (vI (if x < y0 then y0 else x) :: st) h) : Ev X y d mc ms Q cells slots pc ls (vI y0 :: vI x :: st) h := by
  obtain ⟨hd, rfl⟩ := hd
  intro p e s m args below meth c H locs lsr C hC hS hl
  have kk := k p e s m args below meth c H locs lsr C hC hS hl
  obtain ⟨lv, hv, -⟩ := id hl
  obtain ⟨hx, hb, hmx, hret, hown, hts, hlk, hnm, hK, hP, hsz⟩ := C
  exact va_mmax hx hb (by rw [hmx]; exact hv.1.symm) hown (hts _ cal.2.2.1) (hts _ cal.2.2.2) (hts _ cal.1.2.2) (hts _ cal.1.1) hdd (by rw [catL_eq]; show catL st + 13 ≤ 40 * d; omega) hcc hss hd kk
end R4b
theorem ct_post {X : EX} {y : MD} {d mc ms : Nat} {av : List VV} {h : HP} {Q Q' : Option VV → HP → Prop} (hc : Ct X y d mc ms av h Q) (hq : ∀ v h', Q v h' → Q' v h') : Ct X y d mc ms av h Q' := by
  intro p e ha hc' hk s m args below hf happ hp hk'
  obtain ⟨n, oc, h1, h2, h3, h4⟩ := hc p e ha hc' hk s m args below hf happ hp hk'
  obtain ⟨⟨⟨v, h', q1, q2, q3⟩, q4⟩, q5⟩ := h4
  exact ⟨n, oc, h1, h2, h3, ⟨⟨v, h', q1, hq v h' q2, q3⟩, q4⟩, q5⟩
theorem b2_c {p q : Prop} [Decidable p] [Decidable q] (e : p ↔ q) : b2 p = b2 q := by
  unfold b2
  by_cases h : p
  · rw [if_pos h, if_pos (e.mp h)]
  · rw [if_neg h, if_neg (fun z => h (e.mpr z))]
theorem Kp {X : EX} {y : MD} {d mc ms : Nat} {av : List VV} {h : HP} {Q : Option VV → HP → Prop} {r : VV} {h2 : HP} (hc : Ct X y d mc ms av h (Rt r h2)) (hq : Q (some r) h2) : Ct X y d mc ms av h Q := ct_post hc (fun v h' q => by obtain ⟨rfl, rfl⟩ := q; exact hq)
/-- a store into a row of Object -/
theorem e_aastoreX {X : EX} {y : MD} {d mc ms : Nat} {Q : Option VV → HP → Prop} {cells slots pc pc' : Nat} {ls : ZL} {st : List VV} {h : HP} {a N : Nat} {i : Int32} {x : Option Nat} (hd : At y.2.1 pc (.aastore) 1 pc') (ok : Is h a 20) (hx : ∀ b, x = some b → Is h b 13) (hn : hN h a = N) (hin : vp_in i N) (k : Ev X y d mc ms Q cells slots pc' ls st (wR h a i.toNatClampNeg x)) : Ev X y d mc ms Q cells slots pc ls (vR x :: vI i :: vR (some a) :: st) h := by
  cases x with
  | none => exact e_aastoreN hd ok (by decide) (by decide) (by rw [hn]; exact hin) k
  | some b => exact e_aastoreO hd ok (hx b rfl) (by rw [hn]; exact hin) k
