/-! strings: rules and contracts of length, charAt (written by wip/whole/g40.py) -/
set_option maxRecDepth 20000 in
theorem wj_len1 : .instanceMethod yJ0_length_8abf5 ∈ TT := tq2 129 rfl rfl
set_option maxRecDepth 20000 in
theorem wj_len2 : .selects yJ0_length_8abf5.cls yJ0_length_8abf5 yJ0_length_8abf5 ∈ TT := tq2 130 rfl rfl
set_option maxRecDepth 20000 in
theorem wj_cod1 : .instanceMethod yJ0_coder_7d493 ∈ TT := tq2 133 rfl rfl
set_option maxRecDepth 20000 in
theorem wj_cod2 : .selects yJ0_coder_7d493.cls yJ0_coder_7d493 yJ0_coder_7d493 ∈ TT := tq2 134 rfl rfl
set_option maxRecDepth 20000 in
theorem wj_chr1 : .instanceMethod yJ0_charAt_5068e ∈ TT := tq2 139 rfl rfl
set_option maxRecDepth 20000 in
theorem wj_chr2 : .selects yJ0_charAt_5068e.cls yJ0_charAt_5068e yJ0_charAt_5068e ∈ TT := tq2 140 rfl rfl
set_option maxRecDepth 20000 in
theorem wj_lat1 : .instanceMethod yJ0_isLatin1_aae02 ∈ TT := tq2 143 rfl rfl
set_option maxRecDepth 20000 in
theorem wj_lat2 : .selects yJ0_isLatin1_aae02.cls yJ0_isLatin1_aae02 yJ0_isLatin1_aae02 ∈ TT := tq2 144 rfl rfl
set_option maxRecDepth 20000 in
theorem wj_com : .fieldLink RJ0 38 "java/lang/String" "COMPACT_STRINGS" "Z" ∈ TT := tq2 136 rfl rfl
set_option maxRecDepth 20000 in
theorem wj_sio : .fieldLink RJ0 1053 "jdk/internal/util/Preconditions" "SIOOBE_FORMATTER" "Ljava/util/function/BiFunction;" ∈ TT := tq2 152 rfl rfl
set_option maxRecDepth 20000 in
theorem wj_val : .fieldLink RJ0 9 "java/lang/String" "value" "[B" ∈ TT := tq6 117 rfl rfl
set_option maxRecDepth 20000 in
theorem wj_cdr : .fieldLink RJ0 15 "java/lang/String" "coder" "B" ∈ TT := tq6 118 rfl rfl
/-- how long a string is, and its letters -/
def sLn (i : Nat) : Nat := (strs.map (fun q => q.2.length)).getD i 0
def sCh (i j : Nat) : Int32 := ((strs.map (fun q => q.2.toList.map (fun c => Int32.ofNat c.toNat))).getD i []).getD j 0
section R40
variable {X : EX} {y : MD} {d mc ms : Nat} {Q : Option VV → HP → Prop} {cells slots pc pc' : Nat} {ls : ZL} {st rest : List VV} {h h2 : HP} {y' : MD} {d' n ix : Nat} {as : List VV} {r : VV} {i : Nat}
theorem ad_s (hi9 : i < 18) : ad X (i + 8) = xS X (i + 8) := by unfold ad; rw [if_pos (by omega)]
theorem cv_s (hi9 : i < 18) : cv X (vR (some (i + 8))) = .ref (xS X (i + 8)) := by rw [← ad_s hi9]; rfl
theorem e_getsC (hd : At y.2.1 pc (.getstatic ix) 3 pc') (w : .fieldLink y.1.cls ix "java/lang/String" "COMPACT_STRINGS" "Z" ∈ TT) (k : Ev X y d mc ms Q cells slots pc' ls (vI 1 :: st) h) : Ev X y d mc ms Q cells slots pc ls st h := by
  obtain ⟨hd, rfl⟩ := hd
  intro p e s m args below meth c H locs lsr C hC hS hl
  have kk := k p e s m args below meth c H locs lsr C hC hS hl
  obtain ⟨hx, hb, hmx, hret, hown, hts, hlk, hnm, hK, hP, hsz⟩ := C
  exact va_gets hx hb hP.2.2.2.1 hS hown (hts _ w) (fun _ z => z) hd kk
theorem e_getsF (hd : At y.2.1 pc (.getstatic ix) 3 pc') (w : .fieldLink y.1.cls ix "jdk/internal/util/Preconditions" "SIOOBE_FORMATTER" "Ljava/util/function/BiFunction;" ∈ TT) (k : Ev X y d mc ms Q cells slots pc' ls (vX (xF X) :: st) h) : Ev X y d mc ms Q cells slots pc ls st h := by
  obtain ⟨hd, rfl⟩ := hd
  intro p e s m args below meth c H locs lsr C hC hS hl
  have kk := k p e s m args below meth c H locs lsr C hC hS hl
  obtain ⟨hx, hb, hmx, hret, hown, hts, hlk, hnm, hK, hP, hsz⟩ := C
  exact va_gets hx hb hP.2.2.2.2 hS hown (hts _ w) (fun _ z => z) hd kk
theorem e_strC (hd : At y.2.1 pc (.getfield ix) 3 pc') (w : .fieldLink y.1.cls ix "java/lang/String" "coder" "B" ∈ TT) (hi9 : i < 18) (k : Ev X y d mc ms Q cells slots pc' ls (vI 0 :: st) h) : Ev X y d mc ms Q cells slots pc ls (vR (some (i + 8)) :: st) h := by
  obtain ⟨hd, rfl⟩ := hd
  intro p e s m args below meth c H locs lsr C hC hS hl
  have kk := k p e s m args below meth c H locs lsr C hC hS hl
  obtain ⟨hx, hb, hmx, hret, hown, hts, hlk, hnm, hK, hP, hsz⟩ := C
  rw [List.map_cons, cv_s hi9]
  exact vk_getf hx hb (hP.2.2.1.1 i hi9).2.1 hS hown (hts _ w) (fun _ z => z) hd kk
theorem e_strV (hd : At y.2.1 pc (.getfield ix) 3 pc') (w : .fieldLink y.1.cls ix "java/lang/String" "value" "[B" ∈ TT) (hi9 : i < 18) (k : Ev X y d mc ms Q cells slots pc' ls (vX (some (xV X i)) :: st) h) : Ev X y d mc ms Q cells slots pc ls (vR (some (i + 8)) :: st) h := by
  obtain ⟨hd, rfl⟩ := hd
  intro p e s m args below meth c H locs lsr C hC hS hl
  have kk := k p e s m args below meth c H locs lsr C hC hS hl
  obtain ⟨hx, hb, hmx, hret, hown, hts, hlk, hnm, hK, hP, hsz⟩ := C
  rw [List.map_cons, cv_s hi9]
  exact vk_getf hx hb (hP.2.2.1.1 i hi9).2.2.1 hS hown (hts _ w) (fun _ z => z) hd kk
theorem e_alenV (hd : At y.2.1 pc (.arraylength) 1 pc') (hi9 : i < 18) (k : Ev X y d mc ms Q cells slots pc' ls (vI (nI (sLn i)) :: st) h) : Ev X y d mc ms Q cells slots pc ls (vX (some (xV X i)) :: st) h := by
  obtain ⟨hd, rfl⟩ := hd
  intro p e s m args below meth c H locs lsr C hC hS hl
  have kk := k p e s m args below meth c H locs lsr C hC hS hl
  obtain ⟨hx, hb, hmx, hret, hown, hts, hlk, hnm, hK, hP, hsz⟩ := C
  exact va_tlen hx hb (hP.2.2.1.1 i hi9).2.2.2 hS rfl hd kk
theorem e_baloadV {j : Int32} (hd : At y.2.1 pc (.baload) 1 pc') (hi9 : i < 18) (hin : vp_in j (sLn i)) (k : Ev X y d mc ms Q cells slots pc' ls (vI (sCh i j.toNatClampNeg) :: st) h) : Ev X y d mc ms Q cells slots pc ls (vI j :: vX (some (xV X i)) :: st) h := by
  obtain ⟨hd, rfl⟩ := hd
  intro p e s m args below meth c H locs lsr C hC hS hl
  have kk := k p e s m args below meth c H locs lsr C hC hS hl
  obtain ⟨hx, hb, hmx, hret, hown, hts, hlk, hnm, hK, hP, hsz⟩ := C
  exact va_tb hx hb (hP.2.2.1.1 i hi9).2.2.2 hS hin rfl hd kk
theorem e_i2c {x : Int32} (hd : At y.2.1 pc (.i2c) 1 pc') (k : Ev X y d mc ms Q cells slots pc' ls (vI (x.toUInt32 % 65536).toInt32 :: st) h) : Ev X y d mc ms Q cells slots pc ls (vI x :: st) h := by
  obtain ⟨hd, rfl⟩ := hd
  intro p e s m args below meth c H locs lsr C hC hS hl
  exact lv_i2c C.1 C.2.1 hd rfl (k p e s m args below meth c H locs lsr C hC hS hl)
def CalJ (own : String) (ix : Nat) (y : MD) (n : Nat) : Prop := MdOk y ∧ npar y n ∧ y.1.cls = "java/lang/String" ∧ .methodLink own ix y.1 ∈ TT ∧ .instanceMethod y.1 ∈ TT ∧ .selects y.1.cls y.1 y.1 ∈ TT
theorem e_invj (hd : At y.2.1 pc (.invokevirtual ix) 3 pc') (cal : CalJ y.1.cls ix y' n) (hi9 : i < 18) (hc : Ct X y' d' 0 0 (vR (some (i + 8)) :: as) h (Rt r h2)) (hst : st = as.reverse ++ vR (some (i + 8)) :: rest) (hn : as.length = n) (hml : y'.2.2.1 ≤ 12) (hdd : d' + 1 ≤ d) (hcc : cells ≤ mc) (hss : slots ≤ ms) (hcat : catL rest ≤ 8)
    (k : Ev X y d mc ms Q cells slots pc' ls (r :: rest) h2) : Ev X y d mc ms Q cells slots pc ls st h := by
  obtain ⟨hd, rfl⟩ := hd
  intro p e s m args below meth c H locs lsr C hC hS hl
  obtain ⟨lv, hv, -⟩ := id hl
  obtain ⟨hx, hb, hmx, hret, hown, hts, hlk, hnm, hK, hP, hsz⟩ := id C
  obtain ⟨hok, hnp, hcs, w1, w2, w3⟩ := cal
  have hgood : GoodIn TT (wsV y.1.cls ix y'.1.cls y'.1 (wsM y')) := tt_goodIn (fun w hw => by
    rcases List.mem_append.mp hw with hw | hw
    · simp only [List.mem_cons, List.not_mem_nil, or_false] at hw
      rcases hw with rfl | rfl | rfl | rfl
      · exact w1
      · exact w2
      · exact w3
      · exact hok.2.2
    · exact goodM hok w hw)
  have hrv := vk_recv hP.2.2.1 hi9 hS
  rw [← hcs] at hrv
  have hrv2 : ∃ cell : Cell, H[ad X (i + 8)]? = some cell ∧ cell.vm.isStatics = false ∧ s.vm.findClass y'.1.cls = some cell.cls := by
    rw [ad_s hi9]
    exact hrv
  have hpr : PreV s H y'.1.cls (ad X (i + 8)) (va_Pc ((vR (some (i + 8)) :: as).map (cv X)) (fun U => Cor X h U)) (as.map (cv X)) := ⟨blind _, hrv2, fun U hU hW => ⟨rfl, cor_of hK hP hC hS hU hW⟩⟩
  have hstk : st.map (cv X) = (as.map (cv X)).reverse ++ .ref (ad X (i + 8)) :: rest.map (cv X) := by
    rw [hst, List.map_append, List.map_reverse]
    rfl
  have run := va_runV (l := xl X) (e := e) (R := rmd d mc ms) (below := below) (meth := meth) (locs := locs) (cells := cells) (slots := slots) (rest := rest.map (cv X)) (g := F0 m pc lsr (st.map (cv X))) ⟨hx, hb, hmx, hown, hts⟩ hc
    (cwV n hts hgood rfl rfl rfl ⟨rfl, hok.2.1.1, hok.2.1.2, hnp⟩ (room_ok hml hdd)) hpr rfl (by rw [List.length_map]; exact hn) hv.1 hstk (lv_room (by rw [catL_eq]; exact hcat)) (by rw [hb] at *; exact hd) ⟨hcc, hss⟩
  refine ev_call run hS (fun v h' H1 locs1 q hC' hS' => ?_)
  obtain ⟨rfl, rfl⟩ := q
  rw [rest_cons]
  exact k p e s m args below meth c H1 locs1 lsr C hC' hS' hl
theorem e_aload_nX {n0 : Fin 4} {r0 : Option Nat} (hd : At y.2.1 pc (.aload_n n0) 1 pc') (hx : gL ls (n0 : Nat) = some (vX r0)) (k : Ev X y d mc ms Q cells slots pc' ls (vX r0 :: st) h) : Ev X y d mc ms Q cells slots pc ls (st) h := by
  obtain ⟨hd, rfl⟩ := hd
  intro p e s m args below meth c H locs lsr C hC hS hl
  obtain ⟨lv, hv, hg⟩ := id hl
  have hx' := hv.2.2 _ (hg _ _ hx)
  have kk := k p e s m args below meth c H locs lsr C hC hS hl
  cases r0 with
  | none => exact lv_aload_nN C.1 C.2.1 hd rfl hx' kk
  | some a => exact lv_aload_n C.1 C.2.1 hd rfl hx' kk
end R40
theorem zstr_coder (X : EX) {h : HP} {i : Nat} (hi9 : i < 18) : Ct X mJ0_coder_7d493 0 0 0 [vR (some (i + 8))] h (Rt (vI 0) h) := by
  refine ct_of rfl (Nat.le_of_ble_eq_true rfl) ?_
  refine e_getsC aJ0_coder_7d493_0 wj_com ?_
  refine e_if_eq aJ0_coder_7d493_3 (fun q => absurd q (by decide)) (fun _ => ?_)
  refine e_aload_n aJ0_coder_7d493_6 rfl ?_
  refine e_strC aJ0_coder_7d493_7 wj_cdr hi9 ?_
  refine e_goto aJ0_coder_7d493_10 ?_
  exact e_nret aJ0_coder_7d493_14 rfl (by decide) (Nat.le_refl _) (Nat.le_refl _) ⟨rfl, rfl⟩
theorem zstr_lat (X : EX) {h : HP} {i : Nat} (hi9 : i < 18) : Ct X mJ0_isLatin1_aae02 0 0 0 [vR (some (i + 8))] h (Rt (vI 1) h) := by
  refine ct_of rfl (Nat.le_of_ble_eq_true rfl) ?_
  refine e_getsC aJ0_isLatin1_aae02_0 wj_com ?_
  refine e_if_eq aJ0_isLatin1_aae02_3 (fun q => absurd q (by decide)) (fun _ => ?_)
  refine e_aload_n aJ0_isLatin1_aae02_6 rfl ?_
  refine e_strC aJ0_isLatin1_aae02_7 wj_cdr hi9 ?_
  refine e_if_ne aJ0_isLatin1_aae02_10 (fun q => absurd rfl q) (fun _ => ?_)
  refine e_iconst (v := 1) aJ0_isLatin1_aae02_13 (by decide) ?_
  refine e_goto aJ0_isLatin1_aae02_14 ?_
  exact e_zreturn aJ0_isLatin1_aae02_18 rfl (by decide) (Nat.le_refl _) (Nat.le_refl _) ⟨rfl, rfl⟩
theorem sh_0 : ∀ i, i < 18 → nI (sLn i) >>> ((0 : Int32) &&& 31) = nI (sLn i) := by decide +kernel
theorem zstr_len (X : EX) {h : HP} {i : Nat} (hi9 : i < 18) : Ct X mJ0_length_8abf5 1 0 0 [vR (some (i + 8))] h (Rt (vI (nI (sLn i))) h) := by
  refine ct_of rfl (Nat.le_of_ble_eq_true rfl) ?_
  refine e_aload_n aJ0_length_8abf5_0 rfl ?_
  refine e_strV aJ0_length_8abf5_1 wj_val hi9 ?_
  refine e_alenV aJ0_length_8abf5_4 hi9 ?_
  refine e_aload_n aJ0_length_8abf5_5 rfl ?_
  refine e_invj aJ0_length_8abf5_6 ⟨okJ0_coder_7d493, npJ0_coder_7d493, rfl, kJ0_335, wj_cod1, wj_cod2⟩ hi9 (zstr_coder X hi9) rfl rfl (Nat.le_of_ble_eq_true rfl) (Nat.le_of_ble_eq_true rfl) (Nat.le_refl _) (Nat.le_refl _) (Nat.le_of_ble_eq_true rfl) ?_
  refine e_ishr aJ0_length_8abf5_9 ?_
  refine e_top (v := nI (sLn i)) (sh_0 i hi9) ?_
  exact e_ireturn aJ0_length_8abf5_10 rfl (Nat.le_refl _) (Nat.le_refl _) ⟨rfl, rfl⟩
theorem zstr_ck3 (X : EX) {h : HP} {j n : Nat} (hj : j < n) (hn : n < 1073741824) (f : Option Nat) : Ct X mJ3_checkIndex_8e157 0 0 0 [vI (nI j), vI (nI n), vX f] h (Rt (vI (nI j)) h) := by
  refine ct_of rfl (Nat.le_of_ble_eq_true rfl) ?_
  refine e_iload_n aJ3_checkIndex_8e157_0 rfl ?_
  refine e_if_lt aJ3_checkIndex_8e157_1 (fun q => absurd q (Int32.not_lt.mpr (nI_pos' (by omega)))) (fun _ => ?_)
  refine e_iload_n aJ3_checkIndex_8e157_4 rfl ?_
  refine e_iload_n aJ3_checkIndex_8e157_5 rfl ?_
  refine e_icmp_lt aJ3_checkIndex_8e157_6 (fun _ => ?_) (fun q => absurd (nI_lt hj (by omega)) q)
  refine e_iload_n aJ3_checkIndex_8e157_16 rfl ?_
  exact e_ireturn aJ3_checkIndex_8e157_17 rfl (Nat.le_refl _) (Nat.le_refl _) ⟨rfl, rfl⟩
theorem zstr_ck0 (X : EX) {h : HP} {j n : Nat} (hj : j < n) (hn : n < 1073741824) : Ct X mJ0_checkIndex_df160 1 0 0 [vI (nI j), vI (nI n)] h (Rv h) := by
  refine ct_of rfl (Nat.le_of_ble_eq_true rfl) ?_
  refine e_iload_n aJ0_checkIndex_df160_0 rfl ?_
  refine e_iload_n aJ0_checkIndex_df160_1 rfl ?_
  refine e_getsF aJ0_checkIndex_df160_2 wj_sio ?_
  refine e_invsT aJ0_checkIndex_df160_5 kJ0_1059 (zstr_ck3 X hj hn (xF X)) rfl rfl (Nat.le_of_ble_eq_true rfl) (Nat.le_of_ble_eq_true rfl) (Nat.le_refl _) (Nat.le_refl _) (Nat.le_of_ble_eq_true rfl) ?_
  refine e_pop aJ0_checkIndex_df160_8 rfl ?_
  exact e_return aJ0_checkIndex_df160_9 rfl (Nat.le_refl _) (Nat.le_refl _) ⟨rfl, rfl⟩
theorem ch_c : ∀ i, i < 18 → ∀ j, j < sLn i → ((sCh i j &&& 255).toUInt32 % 65536).toInt32 = sCh i j ∧ narrow .char (.int (sCh i j)) = .int (sCh i j) := by decide +kernel
theorem sLn_lt : ∀ i, i < 18 → sLn i < 8 ∧ 1 ≤ sLn i := by decide
theorem zstr_ch1 (X : EX) {h : HP} {i j : Nat} (hi9 : i < 18) (hj : j < sLn i) : Ct X mJ1_charAt_3b067 2 0 0 [vX (some (xV X i)), vI (nI j)] h (Rt (vI (sCh i j)) h) := by
  refine ct_of rfl (Nat.le_of_ble_eq_true rfl) ?_
  have hl9 := sLn_lt i hi9
  refine e_iload_n aJ1_charAt_3b067_0 rfl ?_
  refine e_aload_nX aJ1_charAt_3b067_1 rfl ?_
  refine e_alenV aJ1_charAt_3b067_2 hi9 ?_
  refine e_invsV aJ1_charAt_3b067_3 kJ1_9 (zstr_ck0 X hj (by omega)) rfl rfl (Nat.le_of_ble_eq_true rfl) (Nat.le_of_ble_eq_true rfl) (Nat.le_refl _) (Nat.le_refl _) (Nat.le_of_ble_eq_true rfl) ?_
  refine e_aload_nX aJ1_charAt_3b067_6 rfl ?_
  refine e_iload_n aJ1_charAt_3b067_7 rfl ?_
  refine e_baloadV aJ1_charAt_3b067_8 hi9 (vp_in_nI hj (by omega)) ?_
  rw [cl (by omega)]
  refine e_sipush (v := 255) aJ1_charAt_3b067_9 (by decide) ?_
  refine e_iand aJ1_charAt_3b067_12 ?_
  refine e_i2c aJ1_charAt_3b067_13 ?_
  refine e_top (v := sCh i j) (ch_c i hi9 j hj).1 ?_
  exact e_nret aJ1_charAt_3b067_14 rfl (ch_c i hi9 j hj).2 (Nat.le_refl _) (Nat.le_refl _) ⟨rfl, rfl⟩
theorem zstr_ch (X : EX) {h : HP} {i j : Nat} (hi9 : i < 18) (hj : j < sLn i) : Ct X mJ0_charAt_5068e 3 0 0 [vR (some (i + 8)), vI (nI j)] h (Rt (vI (sCh i j)) h) := by
  refine ct_of rfl (Nat.le_of_ble_eq_true rfl) ?_
  refine e_aload_n aJ0_charAt_5068e_0 rfl ?_
  refine e_invj aJ0_charAt_5068e_1 ⟨okJ0_isLatin1_aae02, npJ0_isLatin1_aae02, rfl, kJ0_492, wj_lat1, wj_lat2⟩ hi9 (zstr_lat X hi9) rfl rfl (Nat.le_of_ble_eq_true rfl) (Nat.le_of_ble_eq_true rfl) (Nat.le_refl _) (Nat.le_refl _) (Nat.le_of_ble_eq_true rfl) ?_
  refine e_if_eq aJ0_charAt_5068e_4 (fun q => absurd q (by decide)) (fun _ => ?_)
  refine e_aload_n aJ0_charAt_5068e_7 rfl ?_
  refine e_strV aJ0_charAt_5068e_8 wj_val hi9 ?_
  refine e_iload_n aJ0_charAt_5068e_11 rfl ?_
  refine e_invsT aJ0_charAt_5068e_12 kJ0_495 (zstr_ch1 X hi9 hj) rfl rfl (Nat.le_of_ble_eq_true rfl) (Nat.le_of_ble_eq_true rfl) (Nat.le_refl _) (Nat.le_refl _) (Nat.le_of_ble_eq_true rfl) ?_
  exact e_nret aJ0_charAt_5068e_15 rfl (ch_c i hi9 j hj).2 (Nat.le_refl _) (Nat.le_refl _) ⟨rfl, rfl⟩
