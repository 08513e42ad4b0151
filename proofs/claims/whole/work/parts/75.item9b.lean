/-! the reference: an item from its first word on (written by wip/whole/g75.py) -/
theorem ev_r3 (X : EX) {h0 h : HP} {bt : Nat → Int32} {l n c f : Nat} {D E : Nat → DD} {o : Nat → Nat} {ps : Bool} (H0 : ItH h0 bt l n c D E f o ps) (S : Sf scF h0 h) {u : SM} (pt : PsM h u) (tk : TkI bt l u.2) {r : IR} {a b : Nat} {one b9 : Int32} (hd : u.1 = false → (one = nI a ∧ b9 = nI b ∧ a < 3 ∧ b < 3 ∧ a ≠ b ∧ n + c < 12)) (hr : wIt u (it3 bt l D n E c f a b) = r) : Ev X mX9_isItemClashing 27 0 0 (riQ bt l n c D E f o ps h0 r) 0 0 87 [(0, some (vR (some 109))), (1, some (vI one)), (2, some (vI b9))] [] h := by
  have H9 := H0
  obtain ⟨F0, t0, hnc, ⟨a4, b4, hm, hf, hab⟩, hps, mk, mf⟩ := H0
  obtain ⟨w0, p⟩ := u
  have F := S.F F0
  have t := S.tbF t0
  have hf4 := mf.2.1
  have hf9 : hI h 109 1 = nI f := (S.2 _ _ (by unfold scF; omega)).trans mf.1
  refine e_aload_n aX9_isItemClashing_87 rfl ?_
  refine e_iconst (v := 3) aX9_isItemClashing_88 (by decide) ?_
  refine e_aload_n aX9_isItemClashing_89 rfl ?_
  refine e_getIF aX9_isItemClashing_90 fX9_116 rfl (fx_is F rfl) hf9 ?_
  refine e_imul aX9_isItemClashing_93 ?_
  refine e_top ((nI_mul 3 f).trans (congrArg nI (Nat.mul_comm 3 f))) ?_
  refine e_bipush (v := 11) aX9_isItemClashing_94 (by decide) ?_
  refine e_invv aX9_isItemClashing_96 kX9_294 (zX9_number X F t pt tk (lo := nI (f * 3)) (hi9 := nI 11) (nI_pos' (by omega)) (by decide)) rfl rfl (fx_is F rfl) (Nat.le_of_ble_eq_true rfl) (Nat.le_of_ble_eq_true rfl) (Nat.le_refl _) (Nat.le_refl _) (Nat.le_of_ble_eq_true rfl) ?_
  rintro v h1 ⟨rfl, S1, ps3⟩
  have F := S1.F F
  have t := S1.tbP t
  have S3 := S.tr S1.PF
  have tk3 : TkI bt l (nmF bt l (nI (f * 3)) (nI 11) (w0, p)).2 := TkI_mF tk
  obtain ⟨y9, z9⟩ : ((nmF bt l (nI (f * 3)) (nI 11) (w0, p)).1 = false → w0 = false ∧ ∃ j, f * 3 ≤ j ∧ j ≤ 11 ∧ ¬ (tnV bt l p (nI (f * 3)) (nI 11) (-1)) < 0 ∧ (tnV bt l p (nI (f * 3)) (nI 11) (-1)).toNatClampNeg = j ∧ (nmV bt l (nI (f * 3)) (nI 11) (w0, p)) = nI j ∧ (nmF bt l (nI (f * 3)) (nI 11) (w0, p)).2 = tnX bt l p (nI (f * 3)) (nI 11) (-1)) ∧ ((nmF bt l (nI (f * 3)) (nI 11) (w0, p)).1 = true → wIt (w0, p) (it3 bt l D n E c f a b) = (none, (nmF bt l (nI (f * 3)) (nI 11) (w0, p)).2)) := by
    cases w0
    · rcases st_n (bt := bt) (l := l) (p := p) (lo := f * 3) (hi9 := 11) (by omega) (by decide) with ⟨z1, z2⟩ | ⟨j, j1, j2, z1, z2, z3, z4⟩
      · rw [z2]
        refine ⟨fun z => Bool.noConfusion z, fun _ => ?_⟩
        show it3 bt l D n E c f a b p = _
        unfold it3
        rw [if_pos z1]
      · rw [z3]
        exact ⟨fun _ => ⟨rfl, j, j1, j2, z1, z2, z4, rfl⟩, fun z => Bool.noConfusion z⟩
    · exact ⟨fun z => Bool.noConfusion z, fun _ => rfl⟩
  generalize nmF bt l (nI (f * 3)) (nI 11) (w0, p) = u3 at ps3 tk3 y9 z9
  obtain ⟨w3, p3⟩ := u3
  refine e_istore_n aX9_isItemClashing_99 (Nat.le_of_ble_eq_true rfl) ?_
  refine e_aload_n aX9_isItemClashing_100 rfl ?_
  refine e_iconst (v := 3) aX9_isItemClashing_101 (by decide) ?_
  refine e_invv aX9_isItemClashing_102 kX9_312 (zX9_takes X F t ps3 tk3 (w9 := 3) (by decide)) rfl rfl (fx_is F rfl) (Nat.le_of_ble_eq_true rfl) (Nat.le_of_ble_eq_true rfl) (Nat.le_refl _) (Nat.le_refl _) (Nat.le_of_ble_eq_true rfl) ?_
  rintro v h105 ⟨rfl, S105, ps105⟩
  have F := S105.F F
  have t := S105.tbQ t
  have S3 := S3.tr S105.QF
  refine e_if_eq aX9_isItemClashing_105 (fun c105 => ?_) (fun c105 => ?_)
  · -- 105: taken
    have q105 := b2_0.mp c105
    have ps3 : PsM h105 (w3, p3) := (show tkW bt l 3 (w3, p3) = (w3, p3) from if_neg q105) ▸ ps105
    refine e_aload_n aX9_isItemClashing_112 rfl ?_
    refine e_iconst (v := 4) aX9_isItemClashing_113 (by decide) ?_
    refine e_invv aX9_isItemClashing_114 kX9_312 (zX9_takes X F t ps3 tk3 (w9 := 4) (by decide)) rfl rfl (fx_is F rfl) (Nat.le_of_ble_eq_true rfl) (Nat.le_of_ble_eq_true rfl) (Nat.le_refl _) (Nat.le_refl _) (Nat.le_of_ble_eq_true rfl) ?_
    rintro v h117 ⟨rfl, S117, ps117⟩
    have F := S117.F F
    have t := S117.tbQ t
    have S3 := S3.tr S117.QF
    refine e_if_eq aX9_isItemClashing_117 (fun c117 => ?_) (fun c117 => ?_)
    · -- 117: taken
      have q117 := b2_0.mp c117
      have ps3 : PsM h117 (w3, p3) := (show tkW bt l 4 (w3, p3) = (w3, p3) from if_neg q117) ▸ ps117
      refine e_aload_n aX9_isItemClashing_124 rfl ?_
      refine e_iconst (v := 5) aX9_isItemClashing_125 (by decide) ?_
      refine e_invv aX9_isItemClashing_126 kX9_312 (zX9_takes X F t ps3 tk3 (w9 := 5) (by decide)) rfl rfl (fx_is F rfl) (Nat.le_of_ble_eq_true rfl) (Nat.le_of_ble_eq_true rfl) (Nat.le_refl _) (Nat.le_refl _) (Nat.le_of_ble_eq_true rfl) ?_
      rintro v h129 ⟨rfl, S129, ps129⟩
      have F := S129.F F
      have t := S129.tbQ t
      have S3 := S3.tr S129.QF
      refine e_if_eq aX9_isItemClashing_129 (fun c129 => ?_) (fun c129 => ?_)
      · -- 129: taken
        have q129 := b2_0.mp c129
        have ps3 : PsM h129 (w3, p3) := (show tkW bt l 5 (w3, p3) = (w3, p3) from if_neg q129) ▸ ps129
        refine e_aload_n aX9_isItemClashing_136 rfl ?_
        refine e_bipush (v := 6) aX9_isItemClashing_137 (by decide) ?_
        refine e_invv aX9_isItemClashing_139 kX9_312 (zX9_takes X F t ps3 tk3 (w9 := 6) (by decide)) rfl rfl (fx_is F rfl) (Nat.le_of_ble_eq_true rfl) (Nat.le_of_ble_eq_true rfl) (Nat.le_refl _) (Nat.le_refl _) (Nat.le_of_ble_eq_true rfl) ?_
        rintro v h142 ⟨rfl, S142, ps142⟩
        have F := S142.F F
        have t := S142.tbQ t
        have S3 := S3.tr S142.QF
        refine e_if_eq aX9_isItemClashing_142 (fun c142 => ?_) (fun c142 => ?_)
        · -- 142: taken
          have q142 := b2_0.mp c142
          have ps3 : PsM h142 (w3, p3) := (show tkW bt l 6 (w3, p3) = (w3, p3) from if_neg q142) ▸ ps142
          refine e_aload_n aX9_isItemClashing_149 rfl ?_
          refine e_bipush (v := 7) aX9_isItemClashing_150 (by decide) ?_
          refine e_invv aX9_isItemClashing_152 kX9_312 (zX9_takes X F t ps3 tk3 (w9 := 7) (by decide)) rfl rfl (fx_is F rfl) (Nat.le_of_ble_eq_true rfl) (Nat.le_of_ble_eq_true rfl) (Nat.le_refl _) (Nat.le_refl _) (Nat.le_of_ble_eq_true rfl) ?_
          rintro v h155 ⟨rfl, S155, ps155⟩
          have F := S155.F F
          have t := S155.tbQ t
          have S3 := S3.tr S155.QF
          refine e_if_eq aX9_isItemClashing_155 (fun c155 => ?_) (fun c155 => ?_)
          · -- 155: taken
            have q155 := b2_0.mp c155
            have ps3 : PsM h155 (w3, p3) := (show tkW bt l 7 (w3, p3) = (w3, p3) from if_neg q155) ▸ ps155
            refine e_iconst (v := 0) aX9_isItemClashing_162 (by decide) ?_
            have ek : w3 = false → krd bt l p3 = (0, p3) := by
              intro z
              subst z
              unfold krd
              rw [if_neg (show ¬ tkQ bt p3 3 = true from q105), if_neg (show ¬ tkQ bt p3 4 = true from q117), if_neg (show ¬ tkQ bt p3 5 = true from q129), if_neg (show ¬ tkQ bt p3 6 = true from q142), if_neg (show ¬ tkQ bt p3 7 = true from q155)]
            have ps9 := ps3
            refine e_ls (ls' := [(0, some (vR (some 109))), (1, some (vI one)), (2, some (vI b9)), (3, some (vI (nmV bt l (nI (f * 3)) (nI 11) (w0, p))))]) ⟨rfl, rfl, rfl, rfl, trivial⟩ ?_
            refine ev_r4 X H9 S3 (u := (w3, p3)) (a := a) (b := b) (pk := (tnV bt l p (nI (f * 3)) (nI 11) (-1)).toNatClampNeg) (k := 0) (hk6 := by decide) ps9 tk3 (fun z => ?_) ?_
            · obtain ⟨y1, j, j1, j2, j3, j4, j5, j6⟩ := y9 z
              obtain ⟨x1, x2, x3, x4, x5, x6⟩ := hd y1
              refine ⟨x1, x2, by rw [j4]; exact j5, by rw [j4]; omega, fun q m m1 m2 m3 m4 => ?_, x6⟩
              exact ⟨by decide, x3, x4, x5, by rw [j4]; omega, m1, m2, m3, m4⟩
            · rw [← hr]
              cases w3
              · obtain ⟨y1, j, j1, j2, j3, j4, j5, j6⟩ := y9 rfl
                subst y1
                show _ = it3 bt l D n E c f a b p
                unfold it3
                rw [if_neg j3, ← j6, ek rfl]
                rfl
              · exact (z9 rfl).symm
          · -- 155: not taken
            have q155 := Decidable.of_not_not (fun z => c155 (b2_0.mpr z))
            refine e_iconst (v := 5) aX9_isItemClashing_158 (by decide) ?_
            refine e_goto aX9_isItemClashing_159 ?_
            obtain ⟨rfl, q9⟩ : w3 = false ∧ tkQ bt p3 7 = true := by
              have q9 : (!w3 && tkQ bt p3 7) = true := q155
              cases w3
              · exact ⟨rfl, q9⟩
              · exact absurd q9 (by simp)
            have ps9 : PsM h155 (false, nxT bt l p3) := (show tkW bt l 7 (false, p3) = _ from if_pos q155) ▸ ps155
            have ek : krd bt l p3 = (5, nxT bt l p3) := by
              unfold krd
              rw [if_neg (show ¬ tkQ bt p3 3 = true from q105), if_neg (show ¬ tkQ bt p3 4 = true from q117), if_neg (show ¬ tkQ bt p3 5 = true from q129), if_neg (show ¬ tkQ bt p3 6 = true from q142), if_pos q9]
            refine e_ls (ls' := [(0, some (vR (some 109))), (1, some (vI one)), (2, some (vI b9)), (3, some (vI (nmV bt l (nI (f * 3)) (nI 11) (w0, p))))]) ⟨rfl, rfl, rfl, rfl, trivial⟩ ?_
            refine ev_r4 X H9 S3 (u := (false, nxT bt l p3)) (a := a) (b := b) (pk := (tnV bt l p (nI (f * 3)) (nI 11) (-1)).toNatClampNeg) (k := 5) (hk6 := by decide) ps9 (TkI_n tk3.1.2) (fun z => ?_) ?_
            · obtain ⟨y1, j, j1, j2, j3, j4, j5, j6⟩ := y9 rfl
              obtain ⟨x1, x2, x3, x4, x5, x6⟩ := hd y1
              refine ⟨x1, x2, by rw [j4]; exact j5, by rw [j4]; omega, fun q m m1 m2 m3 m4 => ?_, x6⟩
              exact ⟨by decide, x3, x4, x5, by rw [j4]; omega, m1, m2, m3, m4⟩
            · rw [← hr, wIt_f]
              obtain ⟨y1, j, j1, j2, j3, j4, j5, j6⟩ := y9 rfl
              subst y1
              show _ = it3 bt l D n E c f a b p
              unfold it3
              rw [if_neg j3, ← j6, ek]
        · -- 142: not taken
          have q142 := Decidable.of_not_not (fun z => c142 (b2_0.mpr z))
          refine e_iconst (v := 2) aX9_isItemClashing_145 (by decide) ?_
          refine e_goto aX9_isItemClashing_146 ?_
          obtain ⟨rfl, q9⟩ : w3 = false ∧ tkQ bt p3 6 = true := by
            have q9 : (!w3 && tkQ bt p3 6) = true := q142
            cases w3
            · exact ⟨rfl, q9⟩
            · exact absurd q9 (by simp)
          have ps9 : PsM h142 (false, nxT bt l p3) := (show tkW bt l 6 (false, p3) = _ from if_pos q142) ▸ ps142
          have ek : krd bt l p3 = (2, nxT bt l p3) := by
            unfold krd
            rw [if_neg (show ¬ tkQ bt p3 3 = true from q105), if_neg (show ¬ tkQ bt p3 4 = true from q117), if_neg (show ¬ tkQ bt p3 5 = true from q129), if_pos q9]
          refine e_ls (ls' := [(0, some (vR (some 109))), (1, some (vI one)), (2, some (vI b9)), (3, some (vI (nmV bt l (nI (f * 3)) (nI 11) (w0, p))))]) ⟨rfl, rfl, rfl, rfl, trivial⟩ ?_
          refine ev_r4 X H9 S3 (u := (false, nxT bt l p3)) (a := a) (b := b) (pk := (tnV bt l p (nI (f * 3)) (nI 11) (-1)).toNatClampNeg) (k := 2) (hk6 := by decide) ps9 (TkI_n tk3.1.2) (fun z => ?_) ?_
          · obtain ⟨y1, j, j1, j2, j3, j4, j5, j6⟩ := y9 rfl
            obtain ⟨x1, x2, x3, x4, x5, x6⟩ := hd y1
            refine ⟨x1, x2, by rw [j4]; exact j5, by rw [j4]; omega, fun q m m1 m2 m3 m4 => ?_, x6⟩
            exact ⟨by decide, x3, x4, x5, by rw [j4]; omega, m1, m2, m3, m4⟩
          · rw [← hr, wIt_f]
            obtain ⟨y1, j, j1, j2, j3, j4, j5, j6⟩ := y9 rfl
            subst y1
            show _ = it3 bt l D n E c f a b p
            unfold it3
            rw [if_neg j3, ← j6, ek]
      · -- 129: not taken
        have q129 := Decidable.of_not_not (fun z => c129 (b2_0.mpr z))
        refine e_iconst (v := 3) aX9_isItemClashing_132 (by decide) ?_
        refine e_goto aX9_isItemClashing_133 ?_
        obtain ⟨rfl, q9⟩ : w3 = false ∧ tkQ bt p3 5 = true := by
          have q9 : (!w3 && tkQ bt p3 5) = true := q129
          cases w3
          · exact ⟨rfl, q9⟩
          · exact absurd q9 (by simp)
        have ps9 : PsM h129 (false, nxT bt l p3) := (show tkW bt l 5 (false, p3) = _ from if_pos q129) ▸ ps129
        have ek : krd bt l p3 = (3, nxT bt l p3) := by
          unfold krd
          rw [if_neg (show ¬ tkQ bt p3 3 = true from q105), if_neg (show ¬ tkQ bt p3 4 = true from q117), if_pos q9]
        refine e_ls (ls' := [(0, some (vR (some 109))), (1, some (vI one)), (2, some (vI b9)), (3, some (vI (nmV bt l (nI (f * 3)) (nI 11) (w0, p))))]) ⟨rfl, rfl, rfl, rfl, trivial⟩ ?_
        refine ev_r4 X H9 S3 (u := (false, nxT bt l p3)) (a := a) (b := b) (pk := (tnV bt l p (nI (f * 3)) (nI 11) (-1)).toNatClampNeg) (k := 3) (hk6 := by decide) ps9 (TkI_n tk3.1.2) (fun z => ?_) ?_
        · obtain ⟨y1, j, j1, j2, j3, j4, j5, j6⟩ := y9 rfl
          obtain ⟨x1, x2, x3, x4, x5, x6⟩ := hd y1
          refine ⟨x1, x2, by rw [j4]; exact j5, by rw [j4]; omega, fun q m m1 m2 m3 m4 => ?_, x6⟩
          exact ⟨by decide, x3, x4, x5, by rw [j4]; omega, m1, m2, m3, m4⟩
        · rw [← hr, wIt_f]
          obtain ⟨y1, j, j1, j2, j3, j4, j5, j6⟩ := y9 rfl
          subst y1
          show _ = it3 bt l D n E c f a b p
          unfold it3
          rw [if_neg j3, ← j6, ek]
    · -- 117: not taken
      have q117 := Decidable.of_not_not (fun z => c117 (b2_0.mpr z))
      refine e_iconst (v := 4) aX9_isItemClashing_120 (by decide) ?_
      refine e_goto aX9_isItemClashing_121 ?_
      obtain ⟨rfl, q9⟩ : w3 = false ∧ tkQ bt p3 4 = true := by
        have q9 : (!w3 && tkQ bt p3 4) = true := q117
        cases w3
        · exact ⟨rfl, q9⟩
        · exact absurd q9 (by simp)
      have ps9 : PsM h117 (false, nxT bt l p3) := (show tkW bt l 4 (false, p3) = _ from if_pos q117) ▸ ps117
      have ek : krd bt l p3 = (4, nxT bt l p3) := by
        unfold krd
        rw [if_neg (show ¬ tkQ bt p3 3 = true from q105), if_pos q9]
      refine e_ls (ls' := [(0, some (vR (some 109))), (1, some (vI one)), (2, some (vI b9)), (3, some (vI (nmV bt l (nI (f * 3)) (nI 11) (w0, p))))]) ⟨rfl, rfl, rfl, rfl, trivial⟩ ?_
      refine ev_r4 X H9 S3 (u := (false, nxT bt l p3)) (a := a) (b := b) (pk := (tnV bt l p (nI (f * 3)) (nI 11) (-1)).toNatClampNeg) (k := 4) (hk6 := by decide) ps9 (TkI_n tk3.1.2) (fun z => ?_) ?_
      · obtain ⟨y1, j, j1, j2, j3, j4, j5, j6⟩ := y9 rfl
        obtain ⟨x1, x2, x3, x4, x5, x6⟩ := hd y1
        refine ⟨x1, x2, by rw [j4]; exact j5, by rw [j4]; omega, fun q m m1 m2 m3 m4 => ?_, x6⟩
        exact ⟨by decide, x3, x4, x5, by rw [j4]; omega, m1, m2, m3, m4⟩
      · rw [← hr, wIt_f]
        obtain ⟨y1, j, j1, j2, j3, j4, j5, j6⟩ := y9 rfl
        subst y1
        show _ = it3 bt l D n E c f a b p
        unfold it3
        rw [if_neg j3, ← j6, ek]
  · -- 105: not taken
    have q105 := Decidable.of_not_not (fun z => c105 (b2_0.mpr z))
    refine e_iconst (v := 1) aX9_isItemClashing_108 (by decide) ?_
    refine e_goto aX9_isItemClashing_109 ?_
    obtain ⟨rfl, q9⟩ : w3 = false ∧ tkQ bt p3 3 = true := by
      have q9 : (!w3 && tkQ bt p3 3) = true := q105
      cases w3
      · exact ⟨rfl, q9⟩
      · exact absurd q9 (by simp)
    have ps9 : PsM h105 (false, nxT bt l p3) := (show tkW bt l 3 (false, p3) = _ from if_pos q105) ▸ ps105
    have ek : krd bt l p3 = (1, nxT bt l p3) := by
      unfold krd
      rw [if_pos q9]
    refine e_ls (ls' := [(0, some (vR (some 109))), (1, some (vI one)), (2, some (vI b9)), (3, some (vI (nmV bt l (nI (f * 3)) (nI 11) (w0, p))))]) ⟨rfl, rfl, rfl, rfl, trivial⟩ ?_
    refine ev_r4 X H9 S3 (u := (false, nxT bt l p3)) (a := a) (b := b) (pk := (tnV bt l p (nI (f * 3)) (nI 11) (-1)).toNatClampNeg) (k := 1) (hk6 := by decide) ps9 (TkI_n tk3.1.2) (fun z => ?_) ?_
    · obtain ⟨y1, j, j1, j2, j3, j4, j5, j6⟩ := y9 rfl
      obtain ⟨x1, x2, x3, x4, x5, x6⟩ := hd y1
      refine ⟨x1, x2, by rw [j4]; exact j5, by rw [j4]; omega, fun q m m1 m2 m3 m4 => ?_, x6⟩
      exact ⟨by decide, x3, x4, x5, by rw [j4]; omega, m1, m2, m3, m4⟩
    · rw [← hr, wIt_f]
      obtain ⟨y1, j, j1, j2, j3, j4, j5, j6⟩ := y9 rfl
      subst y1
      show _ = it3 bt l D n E c f a b p
      unfold it3
      rw [if_neg j3, ← j6, ek]
theorem zi02 (X : EX) {h : HP} (x : Int32) : Ct X mX9_in 0 0 0 [vL x.toInt64, vL 0, vL 2] h (Rt (vI (b2 (nI 0 ≤ x ∧ x ≤ nI 2))) h) := by
  rw [show nI 0 = (0 : Int32) by decide, show nI 2 = (2 : Int32) by decide]
  exact zin X x 0 2 rfl rfl
theorem nh_G {bt : Nat → Int32} {l lo hi9 ba : Nat} {p : PT} (h1 : lo < 100) (h2 : hi9 < 100) (h3 : ba < 100) : (tnV bt l p (nI lo) (nI hi9) (nI ba) < 0 ∧ tnX bt l p (nI lo) (nI hi9) (nI ba) = p ∧ ¬ ((nI lo ≤ nhV bt l (false, p) ∧ nhV bt l (false, p) ≤ nI hi9) ∧ ¬ nhV bt l (false, p) = nI ba)) ∨ ∃ j, lo ≤ j ∧ j ≤ hi9 ∧ j ≠ ba ∧ ¬ tnV bt l p (nI lo) (nI hi9) (nI ba) < 0 ∧ (tnV bt l p (nI lo) (nI hi9) (nI ba)).toNatClampNeg = j ∧ tnX bt l p (nI lo) (nI hi9) (nI ba) = nxT bt l p ∧ ((nI lo ≤ nhV bt l (false, p) ∧ nhV bt l (false, p) ≤ nI hi9) ∧ ¬ nhV bt l (false, p) = nI ba) ∧ nhV bt l (false, p) = nI j := by
  by_cases z : tnV bt l p (nI lo) (nI hi9) (nI ba) < 0
  · refine Or.inl ⟨z, ?_, ?_⟩
    · unfold tnX
      unfold tnV at z
      by_cases y : tnB bt l p (nI lo) (nI hi9) (nI ba) = true
      · exact if_pos y
      · rw [if_neg y] at z
        exact absurd (decide_eq_true (Or.inl (Int32.lt_of_lt_of_le z (nI_pos' (by omega))))) y
    · rintro ⟨⟨x1, x2⟩, x3⟩
      by_cases y : tkN bt l p.1 p.2 < 0
      · have e : nhV bt l (false, p) = 100 := (if_neg Bool.false_ne_true).trans (if_pos y)
        rw [e] at x2
        exact absurd ((nI_leI (a := 100) (by decide) (by omega)).mp x2) (by omega)
      · have e : nhV bt l (false, p) = tkN bt l p.1 p.2 := (if_neg Bool.false_ne_true).trans (if_neg y)
        rw [e] at x1 x2 x3
        unfold tnV at z
        rw [if_neg (fun w => by
          rcases of_decide_eq_true w with w | w | w
          · exact absurd w (Int32.not_lt.mpr x1)
          · exact absurd w (Int32.not_lt.mpr x2)
          · exact x3 w)] at z
        exact y z
  · obtain ⟨j, j1, j2, j3, j4, j5, j6⟩ := tn_R (by omega) (by omega) z
    have e : nhV bt l (false, p) = nI j := by
      refine (if_neg Bool.false_ne_true).trans ?_
      show (if tkN bt l p.1 p.2 < 0 then (100 : Int32) else tkN bt l p.1 p.2) = _
      rw [j5, if_neg (nI_pos (by omega))]
    refine Or.inr ⟨j, j1, j2, fun w => j4 (by rw [w]), z, by rw [j3, cl (by omega)], j6, ?_, e⟩
    rw [e]
    exact ⟨⟨nI_le j1 (by omega), nI_le j2 (by omega)⟩, j4⟩
theorem ev_r2 (X : EX) {h0 h : HP} {bt : Nat → Int32} {l n c f : Nat} {D E : Nat → DD} {o : Nat → Nat} {ps : Bool} (H0 : ItH h0 bt l n c D E f o ps) (S : Sf scF h0 h) {u : SM} (pt : PsM h u) (tk : TkI bt l u.2) {r : IR} {a : Nat} {one : Int32} (hd : u.1 = false → (one = nI a ∧ a < 3 ∧ n + c < 12)) (hr : wIt u (it2 bt l D n E c f a) = r) : Ev X mX9_isItemClashing 27 0 0 (riQ bt l n c D E f o ps h0 r) 0 0 47 [(0, some (vR (some 109))), (1, some (vI one))] [] h := by
  have H9 := H0
  obtain ⟨F0, t0, hnc, ⟨a4, b4, hm, hf, hab⟩, hps, mk, mf⟩ := H0
  obtain ⟨w0, p⟩ := u
  have F := S.F F0
  have t := S.tbF t0
  have tail : Ev X mX9_isItemClashing 27 0 0 (riQ bt l n c D E f o ps h0 r) 0 0 75 [(0, some (vR (some 109))), (1, some (vI one)), (2, some (vI (nhV bt l (w0, p))))] [vI (b2 ((decide (nI 0 ≤ (nhV bt l (w0, p)) ∧ (nhV bt l (w0, p)) ≤ nI 2) && decide (¬ (nhV bt l (w0, p)) = one)) = true)), vR (some 109)] h := by
    refine e_invv aX9_isItemClashing_75 kX9_287 (zX9_must X F t pt tk.1.2 (decide (nI 0 ≤ (nhV bt l (w0, p)) ∧ (nhV bt l (w0, p)) ≤ nI 2) && decide (¬ (nhV bt l (w0, p)) = one))) rfl rfl (fx_is F rfl) (Nat.le_of_ble_eq_true rfl) (Nat.le_of_ble_eq_true rfl) (Nat.le_refl _) (Nat.le_refl _) (Nat.le_of_ble_eq_true rfl) ?_
    rintro v h2 ⟨rfl, S2, ps2⟩
    have F := S2.F F
    have t := S2.tbP t
    have tk2 : TkI bt l (mF bt l (decide (nI 0 ≤ (nhV bt l (w0, p)) ∧ (nhV bt l (w0, p)) ≤ nI 2) && decide (¬ (nhV bt l (w0, p)) = one)) (w0, p)).2 := TkI_mF tk
    refine e_aload_n aX9_isItemClashing_78 rfl ?_
    refine e_aload_n aX9_isItemClashing_79 rfl ?_
    refine e_iconst (v := 2) aX9_isItemClashing_80 (by decide) ?_
    refine e_invvT aX9_isItemClashing_81 kX9_281 (zX9_isWord X F t ps2 tk2 (w9 := 2) (by decide)) rfl rfl (fx_is F rfl) (Nat.le_of_ble_eq_true rfl) (Nat.le_of_ble_eq_true rfl) (Nat.le_refl _) (Nat.le_refl _) (Nat.le_of_ble_eq_true rfl) ?_
    refine e_invv aX9_isItemClashing_84 kX9_287 (zX9_must X F t ps2 tk2.1.2 (!(mF bt l (decide (nI 0 ≤ (nhV bt l (w0, p)) ∧ (nhV bt l (w0, p)) ≤ nI 2) && decide (¬ (nhV bt l (w0, p)) = one)) (w0, p)).1 && tkQ bt (mF bt l (decide (nI 0 ≤ (nhV bt l (w0, p)) ∧ (nhV bt l (w0, p)) ≤ nI 2) && decide (¬ (nhV bt l (w0, p)) = one)) (w0, p)).2 2)) rfl rfl (fx_is F rfl) (Nat.le_of_ble_eq_true rfl) (Nat.le_of_ble_eq_true rfl) (Nat.le_refl _) (Nat.le_refl _) (Nat.le_of_ble_eq_true rfl) ?_
    rintro v h3 ⟨rfl, S3, ps3⟩
    have F := S3.F F
    refine ev_r3 X H9 ((S.tr S2.PF).tr S3.PF) (u := (mF bt l (!(mF bt l (decide (nI 0 ≤ (nhV bt l (w0, p)) ∧ (nhV bt l (w0, p)) ≤ nI 2) && decide (¬ (nhV bt l (w0, p)) = one)) (w0, p)).1 && tkQ bt (mF bt l (decide (nI 0 ≤ (nhV bt l (w0, p)) ∧ (nhV bt l (w0, p)) ≤ nI 2) && decide (¬ (nhV bt l (w0, p)) = one)) (w0, p)).2 2) (mF bt l (decide (nI 0 ≤ (nhV bt l (w0, p)) ∧ (nhV bt l (w0, p)) ≤ nI 2) && decide (¬ (nhV bt l (w0, p)) = one)) (w0, p)))) (a := a) (b := (tnV bt l p (nI 0) (nI 2) (nI a)).toNatClampNeg) ps3 (TkI_mF tk2) (fun z => ?_) ?_
    · cases w0
      · obtain ⟨x1, x2, x3⟩ := hd rfl
        subst x1
        rcases nh_G (bt := bt) (l := l) (p := p) (lo := 0) (hi9 := 2) (ba := a) (by decide) (by decide) (by omega) with ⟨z1, z2, z3⟩ | ⟨j, j1, j2, j3, z1, z2, z3, z4, z5⟩
        · rw [show (decide (nI 0 ≤ (nhV bt l (false, p)) ∧ (nhV bt l (false, p)) ≤ nI 2) && decide (¬ (nhV bt l (false, p)) = nI a)) = false by rw [Bool.and_eq_false_iff]; by_cases y : nI 0 ≤ nhV bt l (false, p) ∧ nhV bt l (false, p) ≤ nI 2; exact Or.inr (decide_eq_false (fun w => z3 ⟨y, w⟩)); exact Or.inl (decide_eq_false y)] at z
          exact Bool.noConfusion z
        · rw [z2]
          exact ⟨rfl, z5, x2, by omega, fun w => j3 w.symm, x3⟩
      · exact Bool.noConfusion z
    · rw [← hr]
      cases w0
      · obtain ⟨x1, x2, x3⟩ := hd rfl
        subst x1
        show _ = it2 bt l D n E c f a p
        unfold it2
        rcases nh_G (bt := bt) (l := l) (p := p) (lo := 0) (hi9 := 2) (ba := a) (by decide) (by decide) (by omega) with ⟨z1, z2, z3⟩ | ⟨j, j1, j2, j3, z1, z2, z3, z4, z5⟩
        · rw [show (decide (nI 0 ≤ (nhV bt l (false, p)) ∧ (nhV bt l (false, p)) ≤ nI 2) && decide (¬ (nhV bt l (false, p)) = nI a)) = false by rw [Bool.and_eq_false_iff]; by_cases y : nI 0 ≤ nhV bt l (false, p) ∧ nhV bt l (false, p) ≤ nI 2; exact Or.inr (decide_eq_false (fun w => z3 ⟨y, w⟩)); exact Or.inl (decide_eq_false y)]
          refine Eq.trans ?_ (if_pos z1).symm
          show _ = (none, tnX bt l p (nI 0) (nI 2) (nI a))
          rw [z2]
          rfl
        · rw [show (decide (nI 0 ≤ (nhV bt l (false, p)) ∧ (nhV bt l (false, p)) ≤ nI 2) && decide (¬ (nhV bt l (false, p)) = nI a)) = true by rw [decide_eq_true z4.1, decide_eq_true z4.2]; rfl]
          refine Eq.trans ?_ (if_neg z1).symm
          show _ = (if tkQ bt (tnX bt l p (nI 0) (nI 2) (nI a)) 2 = true then it3 bt l D n E c f a (tnV bt l p (nI 0) (nI 2) (nI a)).toNatClampNeg (nxT bt l (tnX bt l p (nI 0) (nI 2) (nI a))) else (none, tnX bt l p (nI 0) (nI 2) (nI a)))
          rw [z3]
          show wIt (mF bt l (tkQ bt (nxT bt l p) 2) (false, nxT bt l p)) _ = _
          by_cases y : tkQ bt (nxT bt l p) 2 = true
          · rw [y, if_pos rfl]
            rfl
          · rw [Bool.eq_false_iff.mpr y]
            rfl
      · rw [mF_t (u := ((true, p) : SM)) rfl, mF_t (u := ((true, p) : SM)) rfl, wIt_t, wIt_t]
  refine e_aload_n aX9_isItemClashing_47 rfl ?_
  refine e_invvT aX9_isItemClashing_48 kX9_284 (zX9_numberHere X F t pt tk) rfl rfl (fx_is F rfl) (Nat.le_of_ble_eq_true rfl) (Nat.le_of_ble_eq_true rfl) (Nat.le_refl _) (Nat.le_refl _) (Nat.le_of_ble_eq_true rfl) ?_
  refine e_istore_n aX9_isItemClashing_51 (Nat.le_of_ble_eq_true rfl) ?_
  refine e_aload_n aX9_isItemClashing_52 rfl ?_
  refine e_iload_n aX9_isItemClashing_53 rfl ?_
  refine e_i2l aX9_isItemClashing_54 ?_
  refine e_lconst (v := 0) aX9_isItemClashing_55 rfl ?_
  refine e_ldc2 aX9_isItemClashing_56 lX9_114 ?_
  refine e_invsT aX9_isItemClashing_59 kX9_108 (zi02 X _) rfl rfl (Nat.le_of_ble_eq_true rfl) (Nat.le_of_ble_eq_true rfl) (Nat.le_refl _) (Nat.le_refl _) (Nat.le_of_ble_eq_true rfl) ?_
  refine e_if_eq aX9_isItemClashing_62 (fun c62 => ?_) (fun c62 => ?_)
  · -- 62: taken
    have q62 := b2_0.mp c62
    refine e_iconst (v := 0) aX9_isItemClashing_74 (by decide) ?_
    refine e_top (v := b2 ((decide (nI 0 ≤ (nhV bt l (w0, p)) ∧ (nhV bt l (w0, p)) ≤ nI 2) && decide (¬ (nhV bt l (w0, p)) = one)) = true)) (b2_f (p := (decide (nI 0 ≤ (nhV bt l (w0, p)) ∧ (nhV bt l (w0, p)) ≤ nI 2) && decide (¬ (nhV bt l (w0, p)) = one)) = true) (fun w => q62 (of_decide_eq_true (Bool.and_eq_true_iff.mp w).1))).symm ?_
    refine e_ls (ls' := [(0, some (vR (some 109))), (1, some (vI one)), (2, some (vI (nhV bt l (w0, p))))]) ⟨rfl, rfl, rfl, trivial⟩ ?_
    exact tail
  · -- 62: not taken
    have q62 := Decidable.of_not_not (fun z => c62 (b2_0.mpr z))
    refine e_iload_n aX9_isItemClashing_65 rfl ?_
    refine e_iload_n aX9_isItemClashing_66 rfl ?_
    refine e_icmp_eq aX9_isItemClashing_67 (fun c67 => ?_) (fun c67 => ?_)
    · -- 67: taken
      refine e_iconst (v := 0) aX9_isItemClashing_74 (by decide) ?_
      refine e_top (v := b2 ((decide (nI 0 ≤ (nhV bt l (w0, p)) ∧ (nhV bt l (w0, p)) ≤ nI 2) && decide (¬ (nhV bt l (w0, p)) = one)) = true)) (b2_f (p := (decide (nI 0 ≤ (nhV bt l (w0, p)) ∧ (nhV bt l (w0, p)) ≤ nI 2) && decide (¬ (nhV bt l (w0, p)) = one)) = true) (fun w => of_decide_eq_true (Bool.and_eq_true_iff.mp w).2 c67)).symm ?_
      refine e_ls (ls' := [(0, some (vR (some 109))), (1, some (vI one)), (2, some (vI (nhV bt l (w0, p))))]) ⟨rfl, rfl, rfl, trivial⟩ ?_
      exact tail
    · -- 67: not taken
      refine e_iconst (v := 1) aX9_isItemClashing_70 (by decide) ?_
      refine e_goto aX9_isItemClashing_71 ?_
      refine e_top (v := b2 ((decide (nI 0 ≤ (nhV bt l (w0, p)) ∧ (nhV bt l (w0, p)) ≤ nI 2) && decide (¬ (nhV bt l (w0, p)) = one)) = true)) (b2_t (p := (decide (nI 0 ≤ (nhV bt l (w0, p)) ∧ (nhV bt l (w0, p)) ≤ nI 2) && decide (¬ (nhV bt l (w0, p)) = one)) = true) (Bool.and_eq_true_iff.mpr ⟨decide_eq_true q62, decide_eq_true c67⟩)).symm ?_
      refine e_ls (ls' := [(0, some (vR (some 109))), (1, some (vI one)), (2, some (vI (nhV bt l (w0, p))))]) ⟨rfl, rfl, rfl, trivial⟩ ?_
      exact tail
theorem zX9_isItemClashing (X : EX) {h0 : HP} {bt : Nat → Int32} {l n c f : Nat} {D E : Nat → DD} {o : Nat → Nat} {ps : Bool} (H0 : ItH h0 bt l n c D E f o ps) {p : PT} (pt : PsM h0 (false, p)) (tk : TkI bt l p) : Ct X mX9_isItemClashing 27 0 0 [vR (some 109)] h0 (riQ bt l n c D E f o ps h0 (itF bt l D n E c f p)) := by
  refine ct_of rfl (Nat.le_of_ble_eq_true rfl) ?_
  have H9 := H0
  obtain ⟨F0, t0, hnc, ⟨a4, b4, hm, hf, hab⟩, hps, mk, mf⟩ := H0
  have F := F0
  have t := t0
  have tail : Ev X mX9_isItemClashing 27 0 0 (riQ bt l n c D E f o ps h0 (itF bt l D n E c f p)) 0 0 28 [(0, some (vR (some 109)))] [vI (b2 ((tkQ bt p 0 && decide (n + c < 12)) = true)), vR (some 109)] h0 := by
    refine e_invv aX9_isItemClashing_28 kX9_287 (zX9_must X F t pt tk.1.2 (tkQ bt p 0 && decide (n + c < 12))) rfl rfl (fx_is F rfl) (Nat.le_of_ble_eq_true rfl) (Nat.le_of_ble_eq_true rfl) (Nat.le_refl _) (Nat.le_refl _) (Nat.le_of_ble_eq_true rfl) ?_
    rintro v h2 ⟨rfl, S2, ps2⟩
    have F := S2.F F
    have t := S2.tbP t
    have tk2 : TkI bt l (mF bt l (tkQ bt p 0 && decide (n + c < 12)) (false, p)).2 := TkI_mF tk
    refine e_aload_n aX9_isItemClashing_31 rfl ?_
    refine e_iconst (v := 0) aX9_isItemClashing_32 (by decide) ?_
    refine e_iconst (v := 2) aX9_isItemClashing_33 (by decide) ?_
    refine e_invv aX9_isItemClashing_34 kX9_294 (zX9_number X F t ps2 tk2 (lo := nI 0) (hi9 := nI 2) (by decide) (by decide)) rfl rfl (fx_is F rfl) (Nat.le_of_ble_eq_true rfl) (Nat.le_of_ble_eq_true rfl) (Nat.le_refl _) (Nat.le_refl _) (Nat.le_of_ble_eq_true rfl) ?_
    rintro v h3 ⟨rfl, S3, ps3⟩
    have F := S3.F F
    have t := S3.tbP t
    have tk3 : TkI bt l (nmF bt l (nI 0) (nI 2) (mF bt l (tkQ bt p 0 && decide (n + c < 12)) (false, p))).2 := TkI_mF tk2
    refine e_istore_n aX9_isItemClashing_37 (Nat.le_of_ble_eq_true rfl) ?_
    refine e_aload_n aX9_isItemClashing_38 rfl ?_
    refine e_aload_n aX9_isItemClashing_39 rfl ?_
    refine e_iconst (v := 1) aX9_isItemClashing_40 (by decide) ?_
    refine e_invvT aX9_isItemClashing_41 kX9_281 (zX9_isWord X F t ps3 tk3 (w9 := 1) (by decide)) rfl rfl (fx_is F rfl) (Nat.le_of_ble_eq_true rfl) (Nat.le_of_ble_eq_true rfl) (Nat.le_refl _) (Nat.le_refl _) (Nat.le_of_ble_eq_true rfl) ?_
    refine e_invv aX9_isItemClashing_44 kX9_287 (zX9_must X F t ps3 tk3.1.2 (!(nmF bt l (nI 0) (nI 2) (mF bt l (tkQ bt p 0 && decide (n + c < 12)) (false, p))).1 && tkQ bt (nmF bt l (nI 0) (nI 2) (mF bt l (tkQ bt p 0 && decide (n + c < 12)) (false, p))).2 1)) rfl rfl (fx_is F rfl) (Nat.le_of_ble_eq_true rfl) (Nat.le_of_ble_eq_true rfl) (Nat.le_refl _) (Nat.le_refl _) (Nat.le_of_ble_eq_true rfl) ?_
    rintro v h4 ⟨rfl, S4, ps4⟩
    have F := S4.F F
    refine e_ls (ls' := [(0, some (vR (some 109))), (1, some (vI (nmV bt l (nI 0) (nI 2) (mF bt l (tkQ bt p 0 && decide (n + c < 12)) (false, p)))))]) ⟨rfl, rfl, trivial⟩ ?_
    refine ev_r2 X H9 ((S2.PF.tr S3.PF).tr S4.PF) (u := (mF bt l (!(nmF bt l (nI 0) (nI 2) (mF bt l (tkQ bt p 0 && decide (n + c < 12)) (false, p))).1 && tkQ bt (nmF bt l (nI 0) (nI 2) (mF bt l (tkQ bt p 0 && decide (n + c < 12)) (false, p))).2 1) (nmF bt l (nI 0) (nI 2) (mF bt l (tkQ bt p 0 && decide (n + c < 12)) (false, p))))) (a := (tnV bt l (nxT bt l p) (nI 0) (nI 2) (-1)).toNatClampNeg) ps4 (TkI_mF tk3) (fun z => ?_) ?_
    · by_cases y0 : (tkQ bt p 0 && decide (n + c < 12)) = true
      · rw [y0] at z ⊢
        rcases st_n (bt := bt) (l := l) (p := nxT bt l p) (lo := 0) (hi9 := 2) (by decide) (by decide) with ⟨z1, z2⟩ | ⟨j, j1, j2, z1, z2, z3, z4⟩
        · rw [show mF bt l true (false, p) = (false, nxT bt l p) from rfl, z2] at z
          exact Bool.noConfusion z
        · rw [show mF bt l true (false, p) = (false, nxT bt l p) from rfl]
          exact ⟨z4.trans (congrArg nI z2.symm), by rw [z2]; omega, of_decide_eq_true (Bool.and_eq_true_iff.mp y0).2⟩
      · rw [Bool.eq_false_iff.mpr y0] at z
        exact Bool.noConfusion z
    · by_cases y0 : (tkQ bt p 0 && decide (n + c < 12)) = true
      · rw [y0]
        have y1 := Bool.and_eq_true_iff.mp y0
        unfold itF
        rw [if_neg (show ¬ 12 ≤ n + c by have := of_decide_eq_true y1.2; omega), if_pos y1.1]
        unfold it1
        rw [show mF bt l true (false, p) = (false, nxT bt l p) from rfl]
        rcases st_n (bt := bt) (l := l) (p := nxT bt l p) (lo := 0) (hi9 := 2) (by decide) (by decide) with ⟨z1, z2⟩ | ⟨j, j1, j2, z1, z2, z3, z4⟩
        · rw [z2]
          exact (if_pos z1).symm
        · rw [z3]
          refine Eq.trans ?_ (if_neg z1).symm
          show wIt (mF bt l (tkQ bt (tnX bt l (nxT bt l p) (nI 0) (nI 2) (-1)) 1) (false, tnX bt l (nxT bt l p) (nI 0) (nI 2) (-1))) _ = if tkQ bt (tnX bt l (nxT bt l p) (nI 0) (nI 2) (-1)) 1 = true then it2 bt l D n E c f (tnV bt l (nxT bt l p) (nI 0) (nI 2) (-1)).toNatClampNeg (nxT bt l (tnX bt l (nxT bt l p) (nI 0) (nI 2) (-1))) else (none, tnX bt l (nxT bt l p) (nI 0) (nI 2) (-1))
          by_cases y : tkQ bt (tnX bt l (nxT bt l p) (nI 0) (nI 2) (-1)) 1 = true
          · rw [y, if_pos rfl]
            rfl
          · rw [Bool.eq_false_iff.mpr y]
            rfl
      · rw [Bool.eq_false_iff.mpr y0]
        unfold itF
        by_cases y : 12 ≤ n + c
        · rw [if_pos y]
          rfl
        · rw [if_neg y, if_neg (show ¬ tkQ bt p 0 = true from fun w => y0 (Bool.and_eq_true_iff.mpr ⟨w, decide_eq_true (by omega)⟩))]
          rfl
  refine e_aload_n aX9_isItemClashing_0 rfl ?_
  refine e_aload_n aX9_isItemClashing_1 rfl ?_
  refine e_iconst (v := 0) aX9_isItemClashing_2 (by decide) ?_
  refine e_invvT aX9_isItemClashing_3 kX9_281 (zwd X F t pt tk (w9 := 0) (i9 := 0) (by decide) rfl) rfl rfl (fx_is F rfl) (Nat.le_of_ble_eq_true rfl) (Nat.le_of_ble_eq_true rfl) (Nat.le_refl _) (Nat.le_refl _) (Nat.le_of_ble_eq_true rfl) ?_
  refine e_if_eq aX9_isItemClashing_6 (fun c6 => ?_) (fun c6 => ?_)
  · -- 6: taken
    have q6 := b2_0.mp c6
    refine e_iconst (v := 0) aX9_isItemClashing_27 (by decide) ?_
    refine e_top (v := b2 ((tkQ bt p 0 && decide (n + c < 12)) = true)) (b2_f (p := (tkQ bt p 0 && decide (n + c < 12)) = true) (fun w => q6 (Bool.and_eq_true_iff.mp w).1)).symm ?_
    refine e_ls (ls' := [(0, some (vR (some 109)))]) ⟨rfl, trivial⟩ ?_
    exact tail
  · -- 6: not taken
    have q6 := Decidable.of_not_not (fun z => c6 (b2_0.mpr z))
    refine e_aload_n aX9_isItemClashing_9 rfl ?_
    refine e_getIF aX9_isItemClashing_10 fX9_89 rfl (fx_is F rfl) hm ?_
    refine e_aload_n aX9_isItemClashing_13 rfl ?_
    refine e_getIF aX9_isItemClashing_14 fX9_319 rfl (fx_is F rfl) hf ?_
    refine e_iadd aX9_isItemClashing_17 ?_
    refine e_top (nI_add _ _) ?_
    refine e_bipush (v := 12) aX9_isItemClashing_18 (by decide) ?_
    refine e_icmp_ge aX9_isItemClashing_20 (fun c20 => ?_) (fun c20 => ?_)
    · -- 20: taken
      refine e_iconst (v := 0) aX9_isItemClashing_27 (by decide) ?_
      refine e_top (v := b2 ((tkQ bt p 0 && decide (n + c < 12)) = true)) (b2_f (p := (tkQ bt p 0 && decide (n + c < 12)) = true) (fun w => absurd c20 (nI_ge (b := 12) (show a4 + b4 < 12 by have := of_decide_eq_true (Bool.and_eq_true_iff.mp w).2; omega) (by decide)))).symm ?_
      refine e_ls (ls' := [(0, some (vR (some 109)))]) ⟨rfl, trivial⟩ ?_
      exact tail
    · -- 20: not taken
      refine e_iconst (v := 1) aX9_isItemClashing_23 (by decide) ?_
      refine e_goto aX9_isItemClashing_24 ?_
      refine e_top (v := b2 ((tkQ bt p 0 && decide (n + c < 12)) = true)) (b2_t (p := (tkQ bt p 0 && decide (n + c < 12)) = true) (Bool.and_eq_true_iff.mpr ⟨q6, decide_eq_true (by have : ¬ 12 ≤ a4 + b4 := fun z => c20 (nI_le (a := 12) z (by omega)); omega)⟩)).symm ?_
      refine e_ls (ls' := [(0, some (vR (some 109)))]) ⟨rfl, trivial⟩ ?_
      exact tail
