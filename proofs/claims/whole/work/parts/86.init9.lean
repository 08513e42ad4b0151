/-! constructors: the reference (written by wip/whole/g86.py) -/
/-- the words -/
def wdH (h : HP) : Nat → HP
  | 0 => h
  | k + 1 => wI (wdH h k) 121 k (wdL.getD k 0)
theorem wd_s {h : HP} {k : Nat} {i x : Int32} (hi9 : i.toNatClampNeg = k) (hx : vp_nar .char x = wdL.getD k 0) : wI (wdH h k) 121 i.toNatClampNeg (vp_nar .char x) = wdH h (k + 1) := by
  rw [hi9, hx]
  rfl
theorem wdH_P {h : HP} {m : Nat} (P : Pz m h) : ∀ k, Pz m (wdH h k) := by
  intro k
  induction k with
  | zero => exact P
  | succ k ih => exact ih
theorem wdH_o {h : HP} {a i : Nat} (ha : a ≠ 121) : ∀ k, hI (wdH h k) a i = hI h a i := by
  intro k
  induction k with
  | zero => rfl
  | succ k ih => exact (wI_a ha).trans ih
theorem wdH_w {h : HP} {i : Nat} : ∀ k, i < k → hI (wdH h k) 121 i = wdL.getD i 0 := by
  intro k
  induction k with
  | zero => intro z; exact absurd z (Nat.not_lt_zero _)
  | succ k ih =>
    intro z
    by_cases e : i = k
    · rw [e]; exact wI_s
    · exact (wI_i e).trans (ih (by omega))
theorem wdH_R {h : HP} : ∀ k, (wdH h k).2 = h.2 := by
  intro k
  induction k with
  | zero => rfl
  | succ k ih => exact ih
def m1H (h : HP) : HP := (wR (wI (wI (wI (nwk 114 (wR (nwk 113 (wR (nwk 112 (wI (wR (nwk 111 (wR (nwk 110 h 13 8) 109 0 (some 110)) 13 4) 109 2 (some 111)) 109 3 1) 13 96) 109 5 (some 112)) 13 492) 109 6 (some 113)) 13 3) 114 0 (-1)) 114 1 (-1)) 114 2 (-1)) 109 8 (some 114))
def m2H (h : HP) : HP := (wR (nwk 120 (wR (nwk 119 (wR (nwk 118 (wR (wI (wI (wI (nwk 117 (wR (nwk 116 (wR (nwk 115 (m1H h) 13 24) 109 9 (some 115)) 13 4) 109 10 (some 116)) 13 3) 117 0 8) 117 1 4) 117 2 2) 109 12 (some 117)) 13 120) 109 13 (some 118)) 13 130) 109 22 (some 119)) 15 130) 109 24 (some 120))
def m3H (h : HP) : HP := (wR (nwk 126 (wR (nwk 125 (wR (nwk 124 (wR (nwk 123 (wR (wI (wI (wI (wI (nwk 122 (wR (wdH (nwk 121 (m2H h) 12 90) 90) 109 25 (some 121)) 13 4) 122 0 (-1)) 122 1 (-1)) 122 2 (-1)) 122 3 (-1)) 109 26 (some 122)) 13 4) 109 27 (some 123)) 14 160) 109 28 (some 124)) 14 40) 109 29 (some 125)) 13 12) 109 30 (some 126))
def m4H (h : HP) : HP := (wI (wR (nwk 133 (wR (nwk 132 (wR (nwk 131 (wR (nwk 130 (wR (nwk 129 (wR (nwk 128 (wR (nwk 127 (m3H h) 13 24) 109 31 (some 127)) 13 4) 109 32 (some 128)) 13 4) 109 33 (some 129)) 13 4) 109 34 (some 130)) 13 576) 109 36 (some 131)) 13 2952) 109 37 (some 132)) 13 60) 109 38 (some 133)) 109 4 0)
theorem zX9_init (X : EX) {h : HP} (P : Pz 110 h) : Ct X mX9_init 1 24 4948 [vR (some 109)] h (Rv (m4H h)) := by
  refine ct_of rfl (Nat.le_of_ble_eq_true rfl) ?_
  refine e_aload_n aX9_init_0 rfl ?_
  refine e_objInit aX9_init_1 kX9_1 w_objI w_objC (Nat.le_of_ble_eq_true rfl) (Nat.le_of_ble_eq_true rfl) ?_
  refine e_aload_n aX9_init_4 rfl ?_
  refine e_bipush (v := 8) aX9_init_5 (by decide) ?_
  refine e_newI aX9_init_7 wa_int (by decide) rfl (Nat.le_of_ble_eq_true rfl) (Nat.le_of_ble_eq_true rfl) (Nat.le_of_ble_eq_true rfl) ?_
  refine e_topR (v := some (110)) (congrArg some P.1) ?_
  refine e_hp (h2 := nwk (110) _ 13 8) (nwk_e P.1) ?_
  refine e_pz (P.n rfl rfl) ?_
  intro P
  refine e_putR aX9_init_9 fX9_7 rfl (pz_is P rfl) (Or.inr ⟨rfl, fun r q => by cases q; rfl⟩) ?_
  refine e_pz P.r ?_
  intro P
  refine e_aload_n aX9_init_12 rfl ?_
  refine e_iconst (v := 4) aX9_init_13 (by decide) ?_
  refine e_newI aX9_init_14 wa_int (by decide) rfl (Nat.le_of_ble_eq_true rfl) (Nat.le_of_ble_eq_true rfl) (Nat.le_of_ble_eq_true rfl) ?_
  refine e_topR (v := some (111)) (congrArg some P.1) ?_
  refine e_hp (h2 := nwk (111) _ 13 4) (nwk_e P.1) ?_
  refine e_pz (P.n rfl rfl) ?_
  intro P
  refine e_putR aX9_init_16 fX9_13 rfl (pz_is P rfl) (Or.inr ⟨rfl, fun r q => by cases q; rfl⟩) ?_
  refine e_pz P.r ?_
  intro P
  refine e_aload_n aX9_init_19 rfl ?_
  refine e_iconst (v := 1) aX9_init_20 (by decide) ?_
  refine e_putI aX9_init_21 fX9_16 rfl (pz_is P rfl) (Or.inl rfl) ?_
  refine e_pz P.i ?_
  intro P
  refine e_aload_n aX9_init_24 rfl ?_
  refine e_bipush (v := 96) aX9_init_25 (by decide) ?_
  refine e_newI aX9_init_27 wa_int (by decide) rfl (Nat.le_of_ble_eq_true rfl) (Nat.le_of_ble_eq_true rfl) (Nat.le_of_ble_eq_true rfl) ?_
  refine e_topR (v := some (112)) (congrArg some P.1) ?_
  refine e_hp (h2 := nwk (112) _ 13 96) (nwk_e P.1) ?_
  refine e_pz (P.n rfl rfl) ?_
  intro P
  refine e_putR aX9_init_29 fX9_20 rfl (pz_is P rfl) (Or.inr ⟨rfl, fun r q => by cases q; rfl⟩) ?_
  refine e_pz P.r ?_
  intro P
  refine e_aload_n aX9_init_32 rfl ?_
  refine e_sipush (v := 492) aX9_init_33 (by decide) ?_
  refine e_newI aX9_init_36 wa_int (by decide) rfl (Nat.le_of_ble_eq_true rfl) (Nat.le_of_ble_eq_true rfl) (Nat.le_of_ble_eq_true rfl) ?_
  refine e_topR (v := some (113)) (congrArg some P.1) ?_
  refine e_hp (h2 := nwk (113) _ 13 492) (nwk_e P.1) ?_
  refine e_pz (P.n rfl rfl) ?_
  intro P
  refine e_putR aX9_init_38 fX9_23 rfl (pz_is P rfl) (Or.inr ⟨rfl, fun r q => by cases q; rfl⟩) ?_
  refine e_pz P.r ?_
  intro P
  refine e_aload_n aX9_init_41 rfl ?_
  refine e_iconst (v := 3) aX9_init_42 (by decide) ?_
  refine e_newI aX9_init_43 wa_int (by decide) rfl (Nat.le_of_ble_eq_true rfl) (Nat.le_of_ble_eq_true rfl) (Nat.le_of_ble_eq_true rfl) ?_
  refine e_topR (v := some (114)) (congrArg some P.1) ?_
  refine e_hp (h2 := nwk (114) _ 13 3) (nwk_e P.1) ?_
  refine e_pz (P.n rfl rfl) ?_
  intro P
  refine e_dup aX9_init_45 rfl ?_
  refine e_iconst (v := 0) aX9_init_46 (by decide) ?_
  refine e_iconst (v := -1) aX9_init_47 (by decide) ?_
  refine e_iastoreF aX9_init_48 (pz_is P rfl) (pz_n (n := 3) P rfl) (vin (n := 0) (N := 3) (by decide)) ?_
  refine e_pz P.i ?_
  intro P
  refine e_dup aX9_init_49 rfl ?_
  refine e_iconst (v := 1) aX9_init_50 (by decide) ?_
  refine e_iconst (v := -1) aX9_init_51 (by decide) ?_
  refine e_iastoreF aX9_init_52 (pz_is P rfl) (pz_n (n := 3) P rfl) (vin (n := 1) (N := 3) (by decide)) ?_
  refine e_pz P.i ?_
  intro P
  refine e_dup aX9_init_53 rfl ?_
  refine e_iconst (v := 2) aX9_init_54 (by decide) ?_
  refine e_iconst (v := -1) aX9_init_55 (by decide) ?_
  refine e_iastoreF aX9_init_56 (pz_is P rfl) (pz_n (n := 3) P rfl) (vin (n := 2) (N := 3) (by decide)) ?_
  refine e_pz P.i ?_
  intro P
  refine e_putR aX9_init_57 fX9_26 rfl (pz_is P rfl) (Or.inr ⟨rfl, fun r q => by cases q; rfl⟩) ?_
  refine e_hp (h2 := m1H h) rfl ?_
  refine e_pz (h := m1H h) P.r ?_
  intro P
  refine e_aload_n aX9_init_60 rfl ?_
  refine e_bipush (v := 24) aX9_init_61 (by decide) ?_
  refine e_newI aX9_init_63 wa_int (by decide) rfl (Nat.le_of_ble_eq_true rfl) (Nat.le_of_ble_eq_true rfl) (Nat.le_of_ble_eq_true rfl) ?_
  refine e_topR (v := some (115)) (congrArg some P.1) ?_
  refine e_hp (h2 := nwk (115) _ 13 24) (nwk_e P.1) ?_
  refine e_pz (P.n rfl rfl) ?_
  intro P
  refine e_putR aX9_init_65 fX9_29 rfl (pz_is P rfl) (Or.inr ⟨rfl, fun r q => by cases q; rfl⟩) ?_
  refine e_pz P.r ?_
  intro P
  refine e_aload_n aX9_init_68 rfl ?_
  refine e_iconst (v := 4) aX9_init_69 (by decide) ?_
  refine e_newI aX9_init_70 wa_int (by decide) rfl (Nat.le_of_ble_eq_true rfl) (Nat.le_of_ble_eq_true rfl) (Nat.le_of_ble_eq_true rfl) ?_
  refine e_topR (v := some (116)) (congrArg some P.1) ?_
  refine e_hp (h2 := nwk (116) _ 13 4) (nwk_e P.1) ?_
  refine e_pz (P.n rfl rfl) ?_
  intro P
  refine e_putR aX9_init_72 fX9_32 rfl (pz_is P rfl) (Or.inr ⟨rfl, fun r q => by cases q; rfl⟩) ?_
  refine e_pz P.r ?_
  intro P
  refine e_aload_n aX9_init_75 rfl ?_
  refine e_iconst (v := 3) aX9_init_76 (by decide) ?_
  refine e_newI aX9_init_77 wa_int (by decide) rfl (Nat.le_of_ble_eq_true rfl) (Nat.le_of_ble_eq_true rfl) (Nat.le_of_ble_eq_true rfl) ?_
  refine e_topR (v := some (117)) (congrArg some P.1) ?_
  refine e_hp (h2 := nwk (117) _ 13 3) (nwk_e P.1) ?_
  refine e_pz (P.n rfl rfl) ?_
  intro P
  refine e_dup aX9_init_79 rfl ?_
  refine e_iconst (v := 0) aX9_init_80 (by decide) ?_
  refine e_bipush (v := 8) aX9_init_81 (by decide) ?_
  refine e_iastoreF aX9_init_83 (pz_is P rfl) (pz_n (n := 3) P rfl) (vin (n := 0) (N := 3) (by decide)) ?_
  refine e_pz P.i ?_
  intro P
  refine e_dup aX9_init_84 rfl ?_
  refine e_iconst (v := 1) aX9_init_85 (by decide) ?_
  refine e_iconst (v := 4) aX9_init_86 (by decide) ?_
  refine e_iastoreF aX9_init_87 (pz_is P rfl) (pz_n (n := 3) P rfl) (vin (n := 1) (N := 3) (by decide)) ?_
  refine e_pz P.i ?_
  intro P
  refine e_dup aX9_init_88 rfl ?_
  refine e_iconst (v := 2) aX9_init_89 (by decide) ?_
  refine e_iconst (v := 2) aX9_init_90 (by decide) ?_
  refine e_iastoreF aX9_init_91 (pz_is P rfl) (pz_n (n := 3) P rfl) (vin (n := 2) (N := 3) (by decide)) ?_
  refine e_pz P.i ?_
  intro P
  refine e_putR aX9_init_92 fX9_35 rfl (pz_is P rfl) (Or.inr ⟨rfl, fun r q => by cases q; rfl⟩) ?_
  refine e_pz P.r ?_
  intro P
  refine e_aload_n aX9_init_95 rfl ?_
  refine e_bipush (v := 120) aX9_init_96 (by decide) ?_
  refine e_newI aX9_init_98 wa_int (by decide) rfl (Nat.le_of_ble_eq_true rfl) (Nat.le_of_ble_eq_true rfl) (Nat.le_of_ble_eq_true rfl) ?_
  refine e_topR (v := some (118)) (congrArg some P.1) ?_
  refine e_hp (h2 := nwk (118) _ 13 120) (nwk_e P.1) ?_
  refine e_pz (P.n rfl rfl) ?_
  intro P
  refine e_putR aX9_init_100 fX9_38 rfl (pz_is P rfl) (Or.inr ⟨rfl, fun r q => by cases q; rfl⟩) ?_
  refine e_pz P.r ?_
  intro P
  refine e_aload_n aX9_init_103 rfl ?_
  refine e_sipush (v := 130) aX9_init_104 (by decide) ?_
  refine e_newI aX9_init_107 wa_int (by decide) rfl (Nat.le_of_ble_eq_true rfl) (Nat.le_of_ble_eq_true rfl) (Nat.le_of_ble_eq_true rfl) ?_
  refine e_topR (v := some (119)) (congrArg some P.1) ?_
  refine e_hp (h2 := nwk (119) _ 13 130) (nwk_e P.1) ?_
  refine e_pz (P.n rfl rfl) ?_
  intro P
  refine e_putR aX9_init_109 fX9_41 rfl (pz_is P rfl) (Or.inr ⟨rfl, fun r q => by cases q; rfl⟩) ?_
  refine e_pz P.r ?_
  intro P
  refine e_aload_n aX9_init_112 rfl ?_
  refine e_sipush (v := 130) aX9_init_113 (by decide) ?_
  refine e_newZ aX9_init_116 wa_boolean (by decide) rfl (Nat.le_of_ble_eq_true rfl) (Nat.le_of_ble_eq_true rfl) (Nat.le_of_ble_eq_true rfl) ?_
  refine e_topR (v := some (120)) (congrArg some P.1) ?_
  refine e_hp (h2 := nwk (120) _ 15 130) (nwk_e P.1) ?_
  refine e_pz (P.n rfl rfl) ?_
  intro P
  refine e_putR aX9_init_118 fX9_44 rfl (pz_is P rfl) (Or.inr ⟨rfl, fun r q => by cases q; rfl⟩) ?_
  refine e_hp (h2 := m2H h) rfl ?_
  refine e_pz (h := m2H h) P.r ?_
  intro P
  refine e_aload_n aX9_init_121 rfl ?_
  refine e_bipush (v := 90) aX9_init_122 (by decide) ?_
  refine e_newC aX9_init_124 wa_char (by decide) rfl (Nat.le_of_ble_eq_true rfl) (Nat.le_of_ble_eq_true rfl) (Nat.le_of_ble_eq_true rfl) ?_
  refine e_topR (v := some (121)) (congrArg some P.1) ?_
  refine e_hp (h2 := nwk (121) _ 12 90) (nwk_e P.1) ?_
  refine e_pz (P.n rfl rfl) ?_
  intro P
  refine e_hp (h2 := wdH (nwk 121 (m2H h) 12 90) 0) rfl ?_
  have PW := wdH_P P
  refine e_dup aX9_init_126 rfl ?_
  refine e_iconst (v := 0) aX9_init_127 (by decide) ?_
  refine e_bipush (v := 102) aX9_init_128 (by decide) ?_
  refine e_castoreF aX9_init_130 (pz_is P rfl) (pz_n (n := 90) P rfl) (vin (n := 0) (N := 90) (by decide)) ?_
  refine e_hp (h2 := wdH (nwk 121 (m2H h) 12 90) 1) (wd_s (by decide) (by decide)) ?_
  have P := PW 1
  refine e_dup aX9_init_131 rfl ?_
  refine e_iconst (v := 1) aX9_init_132 (by decide) ?_
  refine e_bipush (v := 114) aX9_init_133 (by decide) ?_
  refine e_castoreF aX9_init_135 (pz_is P rfl) (pz_n (n := 90) P rfl) (vin (n := 1) (N := 90) (by decide)) ?_
  refine e_hp (h2 := wdH (nwk 121 (m2H h) 12 90) 2) (wd_s (by decide) (by decide)) ?_
  have P := PW 2
  refine e_dup aX9_init_136 rfl ?_
  refine e_iconst (v := 2) aX9_init_137 (by decide) ?_
  refine e_bipush (v := 111) aX9_init_138 (by decide) ?_
  refine e_castoreF aX9_init_140 (pz_is P rfl) (pz_n (n := 90) P rfl) (vin (n := 2) (N := 90) (by decide)) ?_
  refine e_hp (h2 := wdH (nwk 121 (m2H h) 12 90) 3) (wd_s (by decide) (by decide)) ?_
  have P := PW 3
  refine e_dup aX9_init_141 rfl ?_
  refine e_iconst (v := 3) aX9_init_142 (by decide) ?_
  refine e_bipush (v := 109) aX9_init_143 (by decide) ?_
  refine e_castoreF aX9_init_145 (pz_is P rfl) (pz_n (n := 90) P rfl) (vin (n := 3) (N := 90) (by decide)) ?_
  refine e_hp (h2 := wdH (nwk 121 (m2H h) 12 90) 4) (wd_s (by decide) (by decide)) ?_
  have P := PW 4
  refine e_dup aX9_init_146 rfl ?_
  refine e_iconst (v := 4) aX9_init_147 (by decide) ?_
  refine e_bipush (v := 32) aX9_init_148 (by decide) ?_
  refine e_castoreF aX9_init_150 (pz_is P rfl) (pz_n (n := 90) P rfl) (vin (n := 4) (N := 90) (by decide)) ?_
  refine e_hp (h2 := wdH (nwk 121 (m2H h) 12 90) 5) (wd_s (by decide) (by decide)) ?_
  have P := PW 5
  refine e_dup aX9_init_151 rfl ?_
  refine e_iconst (v := 5) aX9_init_152 (by decide) ?_
  refine e_bipush (v := 32) aX9_init_153 (by decide) ?_
  refine e_castoreF aX9_init_155 (pz_is P rfl) (pz_n (n := 90) P rfl) (vin (n := 5) (N := 90) (by decide)) ?_
  refine e_hp (h2 := wdH (nwk 121 (m2H h) 12 90) 6) (wd_s (by decide) (by decide)) ?_
  have P := PW 6
  refine e_dup aX9_init_156 rfl ?_
  refine e_bipush (v := 6) aX9_init_157 (by decide) ?_
  refine e_bipush (v := 116) aX9_init_159 (by decide) ?_
  refine e_castoreF aX9_init_161 (pz_is P rfl) (pz_n (n := 90) P rfl) (vin (n := 6) (N := 90) (by decide)) ?_
  refine e_hp (h2 := wdH (nwk 121 (m2H h) 12 90) 7) (wd_s (by decide) (by decide)) ?_
  have P := PW 7
  refine e_dup aX9_init_162 rfl ?_
  refine e_bipush (v := 7) aX9_init_163 (by decide) ?_
  refine e_bipush (v := 111) aX9_init_165 (by decide) ?_
  refine e_castoreF aX9_init_167 (pz_is P rfl) (pz_n (n := 90) P rfl) (vin (n := 7) (N := 90) (by decide)) ?_
  refine e_hp (h2 := wdH (nwk 121 (m2H h) 12 90) 8) (wd_s (by decide) (by decide)) ?_
  have P := PW 8
  refine e_dup aX9_init_168 rfl ?_
  refine e_bipush (v := 8) aX9_init_169 (by decide) ?_
  refine e_bipush (v := 32) aX9_init_171 (by decide) ?_
  refine e_castoreF aX9_init_173 (pz_is P rfl) (pz_n (n := 90) P rfl) (vin (n := 8) (N := 90) (by decide)) ?_
  refine e_hp (h2 := wdH (nwk 121 (m2H h) 12 90) 9) (wd_s (by decide) (by decide)) ?_
  have P := PW 9
  refine e_dup aX9_init_174 rfl ?_
  refine e_bipush (v := 9) aX9_init_175 (by decide) ?_
  refine e_bipush (v := 32) aX9_init_177 (by decide) ?_
  refine e_castoreF aX9_init_179 (pz_is P rfl) (pz_n (n := 90) P rfl) (vin (n := 9) (N := 90) (by decide)) ?_
  refine e_hp (h2 := wdH (nwk 121 (m2H h) 12 90) 10) (wd_s (by decide) (by decide)) ?_
  have P := PW 10
  refine e_dup aX9_init_180 rfl ?_
  refine e_bipush (v := 10) aX9_init_181 (by decide) ?_
  refine e_bipush (v := 32) aX9_init_183 (by decide) ?_
  refine e_castoreF aX9_init_185 (pz_is P rfl) (pz_n (n := 90) P rfl) (vin (n := 10) (N := 90) (by decide)) ?_
  refine e_hp (h2 := wdH (nwk 121 (m2H h) 12 90) 11) (wd_s (by decide) (by decide)) ?_
  have P := PW 11
  refine e_dup aX9_init_186 rfl ?_
  refine e_bipush (v := 11) aX9_init_187 (by decide) ?_
  refine e_bipush (v := 32) aX9_init_189 (by decide) ?_
  refine e_castoreF aX9_init_191 (pz_is P rfl) (pz_n (n := 90) P rfl) (vin (n := 11) (N := 90) (by decide)) ?_
  refine e_hp (h2 := wdH (nwk 121 (m2H h) 12 90) 12) (wd_s (by decide) (by decide)) ?_
  have P := PW 12
  refine e_dup aX9_init_192 rfl ?_
  refine e_bipush (v := 12) aX9_init_193 (by decide) ?_
  refine e_bipush (v := 112) aX9_init_195 (by decide) ?_
  refine e_castoreF aX9_init_197 (pz_is P rfl) (pz_n (n := 90) P rfl) (vin (n := 12) (N := 90) (by decide)) ?_
  refine e_hp (h2 := wdH (nwk 121 (m2H h) 12 90) 13) (wd_s (by decide) (by decide)) ?_
  have P := PW 13
  refine e_dup aX9_init_198 rfl ?_
  refine e_bipush (v := 13) aX9_init_199 (by decide) ?_
  refine e_bipush (v := 105) aX9_init_201 (by decide) ?_
  refine e_castoreF aX9_init_203 (pz_is P rfl) (pz_n (n := 90) P rfl) (vin (n := 13) (N := 90) (by decide)) ?_
  refine e_hp (h2 := wdH (nwk 121 (m2H h) 12 90) 14) (wd_s (by decide) (by decide)) ?_
  have P := PW 14
  refine e_dup aX9_init_204 rfl ?_
  refine e_bipush (v := 14) aX9_init_205 (by decide) ?_
  refine e_bipush (v := 99) aX9_init_207 (by decide) ?_
  refine e_castoreF aX9_init_209 (pz_is P rfl) (pz_n (n := 90) P rfl) (vin (n := 14) (N := 90) (by decide)) ?_
  refine e_hp (h2 := wdH (nwk 121 (m2H h) 12 90) 15) (wd_s (by decide) (by decide)) ?_
  have P := PW 15
  refine e_dup aX9_init_210 rfl ?_
  refine e_bipush (v := 15) aX9_init_211 (by decide) ?_
  refine e_bipush (v := 107) aX9_init_213 (by decide) ?_
  refine e_castoreF aX9_init_215 (pz_is P rfl) (pz_n (n := 90) P rfl) (vin (n := 15) (N := 90) (by decide)) ?_
  refine e_hp (h2 := wdH (nwk 121 (m2H h) 12 90) 16) (wd_s (by decide) (by decide)) ?_
  have P := PW 16
  refine e_dup aX9_init_216 rfl ?_
  refine e_bipush (v := 16) aX9_init_217 (by decide) ?_
  refine e_bipush (v := 32) aX9_init_219 (by decide) ?_
  refine e_castoreF aX9_init_221 (pz_is P rfl) (pz_n (n := 90) P rfl) (vin (n := 16) (N := 90) (by decide)) ?_
  refine e_hp (h2 := wdH (nwk 121 (m2H h) 12 90) 17) (wd_s (by decide) (by decide)) ?_
  have P := PW 17
  refine e_dup aX9_init_222 rfl ?_
  refine e_bipush (v := 17) aX9_init_223 (by decide) ?_
  refine e_bipush (v := 32) aX9_init_225 (by decide) ?_
  refine e_castoreF aX9_init_227 (pz_is P rfl) (pz_n (n := 90) P rfl) (vin (n := 17) (N := 90) (by decide)) ?_
  refine e_hp (h2 := wdH (nwk 121 (m2H h) 12 90) 18) (wd_s (by decide) (by decide)) ?_
  have P := PW 18
  refine e_dup aX9_init_228 rfl ?_
  refine e_bipush (v := 18) aX9_init_229 (by decide) ?_
  refine e_bipush (v := 103) aX9_init_231 (by decide) ?_
  refine e_castoreF aX9_init_233 (pz_is P rfl) (pz_n (n := 90) P rfl) (vin (n := 18) (N := 90) (by decide)) ?_
  refine e_hp (h2 := wdH (nwk 121 (m2H h) 12 90) 19) (wd_s (by decide) (by decide)) ?_
  have P := PW 19
  refine e_dup aX9_init_234 rfl ?_
  refine e_bipush (v := 19) aX9_init_235 (by decide) ?_
  refine e_bipush (v := 117) aX9_init_237 (by decide) ?_
  refine e_castoreF aX9_init_239 (pz_is P rfl) (pz_n (n := 90) P rfl) (vin (n := 19) (N := 90) (by decide)) ?_
  refine e_hp (h2 := wdH (nwk 121 (m2H h) 12 90) 20) (wd_s (by decide) (by decide)) ?_
  have P := PW 20
  refine e_dup aX9_init_240 rfl ?_
  refine e_bipush (v := 20) aX9_init_241 (by decide) ?_
  refine e_bipush (v := 97) aX9_init_243 (by decide) ?_
  refine e_castoreF aX9_init_245 (pz_is P rfl) (pz_n (n := 90) P rfl) (vin (n := 20) (N := 90) (by decide)) ?_
  refine e_hp (h2 := wdH (nwk 121 (m2H h) 12 90) 21) (wd_s (by decide) (by decide)) ?_
  have P := PW 21
  refine e_dup aX9_init_246 rfl ?_
  refine e_bipush (v := 21) aX9_init_247 (by decide) ?_
  refine e_bipush (v := 114) aX9_init_249 (by decide) ?_
  refine e_castoreF aX9_init_251 (pz_is P rfl) (pz_n (n := 90) P rfl) (vin (n := 21) (N := 90) (by decide)) ?_
  refine e_hp (h2 := wdH (nwk 121 (m2H h) 12 90) 22) (wd_s (by decide) (by decide)) ?_
  have P := PW 22
  refine e_dup aX9_init_252 rfl ?_
  refine e_bipush (v := 22) aX9_init_253 (by decide) ?_
  refine e_bipush (v := 100) aX9_init_255 (by decide) ?_
  refine e_castoreF aX9_init_257 (pz_is P rfl) (pz_n (n := 90) P rfl) (vin (n := 22) (N := 90) (by decide)) ?_
  refine e_hp (h2 := wdH (nwk 121 (m2H h) 12 90) 23) (wd_s (by decide) (by decide)) ?_
  have P := PW 23
  refine e_dup aX9_init_258 rfl ?_
  refine e_bipush (v := 23) aX9_init_259 (by decide) ?_
  refine e_bipush (v := 32) aX9_init_261 (by decide) ?_
  refine e_castoreF aX9_init_263 (pz_is P rfl) (pz_n (n := 90) P rfl) (vin (n := 23) (N := 90) (by decide)) ?_
  refine e_hp (h2 := wdH (nwk 121 (m2H h) 12 90) 24) (wd_s (by decide) (by decide)) ?_
  have P := PW 24
  refine e_dup aX9_init_264 rfl ?_
  refine e_bipush (v := 24) aX9_init_265 (by decide) ?_
  refine e_bipush (v := 116) aX9_init_267 (by decide) ?_
  refine e_castoreF aX9_init_269 (pz_is P rfl) (pz_n (n := 90) P rfl) (vin (n := 24) (N := 90) (by decide)) ?_
  refine e_hp (h2 := wdH (nwk 121 (m2H h) 12 90) 25) (wd_s (by decide) (by decide)) ?_
  have P := PW 25
  refine e_dup aX9_init_270 rfl ?_
  refine e_bipush (v := 25) aX9_init_271 (by decide) ?_
  refine e_bipush (v := 97) aX9_init_273 (by decide) ?_
  refine e_castoreF aX9_init_275 (pz_is P rfl) (pz_n (n := 90) P rfl) (vin (n := 25) (N := 90) (by decide)) ?_
  refine e_hp (h2 := wdH (nwk 121 (m2H h) 12 90) 26) (wd_s (by decide) (by decide)) ?_
  have P := PW 26
  refine e_dup aX9_init_276 rfl ?_
  refine e_bipush (v := 26) aX9_init_277 (by decide) ?_
  refine e_bipush (v := 105) aX9_init_279 (by decide) ?_
  refine e_castoreF aX9_init_281 (pz_is P rfl) (pz_n (n := 90) P rfl) (vin (n := 26) (N := 90) (by decide)) ?_
  refine e_hp (h2 := wdH (nwk 121 (m2H h) 12 90) 27) (wd_s (by decide) (by decide)) ?_
  have P := PW 27
  refine e_dup aX9_init_282 rfl ?_
  refine e_bipush (v := 27) aX9_init_283 (by decide) ?_
  refine e_bipush (v := 108) aX9_init_285 (by decide) ?_
  refine e_castoreF aX9_init_287 (pz_is P rfl) (pz_n (n := 90) P rfl) (vin (n := 27) (N := 90) (by decide)) ?_
  refine e_hp (h2 := wdH (nwk 121 (m2H h) 12 90) 28) (wd_s (by decide) (by decide)) ?_
  have P := PW 28
  refine e_dup aX9_init_288 rfl ?_
  refine e_bipush (v := 28) aX9_init_289 (by decide) ?_
  refine e_bipush (v := 32) aX9_init_291 (by decide) ?_
  refine e_castoreF aX9_init_293 (pz_is P rfl) (pz_n (n := 90) P rfl) (vin (n := 28) (N := 90) (by decide)) ?_
  refine e_hp (h2 := wdH (nwk 121 (m2H h) 12 90) 29) (wd_s (by decide) (by decide)) ?_
  have P := PW 29
  refine e_dup aX9_init_294 rfl ?_
  refine e_bipush (v := 29) aX9_init_295 (by decide) ?_
  refine e_bipush (v := 32) aX9_init_297 (by decide) ?_
  refine e_castoreF aX9_init_299 (pz_is P rfl) (pz_n (n := 90) P rfl) (vin (n := 29) (N := 90) (by decide)) ?_
  refine e_hp (h2 := wdH (nwk 121 (m2H h) 12 90) 30) (wd_s (by decide) (by decide)) ?_
  have P := PW 30
  refine e_dup aX9_init_300 rfl ?_
  refine e_bipush (v := 30) aX9_init_301 (by decide) ?_
  refine e_bipush (v := 114) aX9_init_303 (by decide) ?_
  refine e_castoreF aX9_init_305 (pz_is P rfl) (pz_n (n := 90) P rfl) (vin (n := 30) (N := 90) (by decide)) ?_
  refine e_hp (h2 := wdH (nwk 121 (m2H h) 12 90) 31) (wd_s (by decide) (by decide)) ?_
  have P := PW 31
  refine e_dup aX9_init_306 rfl ?_
  refine e_bipush (v := 31) aX9_init_307 (by decide) ?_
  refine e_bipush (v := 111) aX9_init_309 (by decide) ?_
  refine e_castoreF aX9_init_311 (pz_is P rfl) (pz_n (n := 90) P rfl) (vin (n := 31) (N := 90) (by decide)) ?_
  refine e_hp (h2 := wdH (nwk 121 (m2H h) 12 90) 32) (wd_s (by decide) (by decide)) ?_
  have P := PW 32
  refine e_dup aX9_init_312 rfl ?_
  refine e_bipush (v := 32) aX9_init_313 (by decide) ?_
  refine e_bipush (v := 108) aX9_init_315 (by decide) ?_
  refine e_castoreF aX9_init_317 (pz_is P rfl) (pz_n (n := 90) P rfl) (vin (n := 32) (N := 90) (by decide)) ?_
  refine e_hp (h2 := wdH (nwk 121 (m2H h) 12 90) 33) (wd_s (by decide) (by decide)) ?_
  have P := PW 33
  refine e_dup aX9_init_318 rfl ?_
  refine e_bipush (v := 33) aX9_init_319 (by decide) ?_
  refine e_bipush (v := 108) aX9_init_321 (by decide) ?_
  refine e_castoreF aX9_init_323 (pz_is P rfl) (pz_n (n := 90) P rfl) (vin (n := 33) (N := 90) (by decide)) ?_
  refine e_hp (h2 := wdH (nwk 121 (m2H h) 12 90) 34) (wd_s (by decide) (by decide)) ?_
  have P := PW 34
  refine e_dup aX9_init_324 rfl ?_
  refine e_bipush (v := 34) aX9_init_325 (by decide) ?_
  refine e_bipush (v := 32) aX9_init_327 (by decide) ?_
  refine e_castoreF aX9_init_329 (pz_is P rfl) (pz_n (n := 90) P rfl) (vin (n := 34) (N := 90) (by decide)) ?_
  refine e_hp (h2 := wdH (nwk 121 (m2H h) 12 90) 35) (wd_s (by decide) (by decide)) ?_
  have P := PW 35
  refine e_dup aX9_init_330 rfl ?_
  refine e_bipush (v := 35) aX9_init_331 (by decide) ?_
  refine e_bipush (v := 32) aX9_init_333 (by decide) ?_
  refine e_castoreF aX9_init_335 (pz_is P rfl) (pz_n (n := 90) P rfl) (vin (n := 35) (N := 90) (by decide)) ?_
  refine e_hp (h2 := wdH (nwk 121 (m2H h) 12 90) 36) (wd_s (by decide) (by decide)) ?_
  have P := PW 36
  refine e_dup aX9_init_336 rfl ?_
  refine e_bipush (v := 36) aX9_init_337 (by decide) ?_
  refine e_bipush (v := 115) aX9_init_339 (by decide) ?_
  refine e_castoreF aX9_init_341 (pz_is P rfl) (pz_n (n := 90) P rfl) (vin (n := 36) (N := 90) (by decide)) ?_
  refine e_hp (h2 := wdH (nwk 121 (m2H h) 12 90) 37) (wd_s (by decide) (by decide)) ?_
  have P := PW 37
  refine e_dup aX9_init_342 rfl ?_
  refine e_bipush (v := 37) aX9_init_343 (by decide) ?_
  refine e_bipush (v := 119) aX9_init_345 (by decide) ?_
  refine e_castoreF aX9_init_347 (pz_is P rfl) (pz_n (n := 90) P rfl) (vin (n := 37) (N := 90) (by decide)) ?_
  refine e_hp (h2 := wdH (nwk 121 (m2H h) 12 90) 38) (wd_s (by decide) (by decide)) ?_
  have P := PW 38
  refine e_dup aX9_init_348 rfl ?_
  refine e_bipush (v := 38) aX9_init_349 (by decide) ?_
  refine e_bipush (v := 97) aX9_init_351 (by decide) ?_
  refine e_castoreF aX9_init_353 (pz_is P rfl) (pz_n (n := 90) P rfl) (vin (n := 38) (N := 90) (by decide)) ?_
  refine e_hp (h2 := wdH (nwk 121 (m2H h) 12 90) 39) (wd_s (by decide) (by decide)) ?_
  have P := PW 39
  refine e_dup aX9_init_354 rfl ?_
  refine e_bipush (v := 39) aX9_init_355 (by decide) ?_
  refine e_bipush (v := 112) aX9_init_357 (by decide) ?_
  refine e_castoreF aX9_init_359 (pz_is P rfl) (pz_n (n := 90) P rfl) (vin (n := 39) (N := 90) (by decide)) ?_
  refine e_hp (h2 := wdH (nwk 121 (m2H h) 12 90) 40) (wd_s (by decide) (by decide)) ?_
  have P := PW 40
  refine e_dup aX9_init_360 rfl ?_
  refine e_bipush (v := 40) aX9_init_361 (by decide) ?_
  refine e_bipush (v := 32) aX9_init_363 (by decide) ?_
  refine e_castoreF aX9_init_365 (pz_is P rfl) (pz_n (n := 90) P rfl) (vin (n := 40) (N := 90) (by decide)) ?_
  refine e_hp (h2 := wdH (nwk 121 (m2H h) 12 90) 41) (wd_s (by decide) (by decide)) ?_
  have P := PW 41
  refine e_dup aX9_init_366 rfl ?_
  refine e_bipush (v := 41) aX9_init_367 (by decide) ?_
  refine e_bipush (v := 32) aX9_init_369 (by decide) ?_
  refine e_castoreF aX9_init_371 (pz_is P rfl) (pz_n (n := 90) P rfl) (vin (n := 41) (N := 90) (by decide)) ?_
  refine e_hp (h2 := wdH (nwk 121 (m2H h) 12 90) 42) (wd_s (by decide) (by decide)) ?_
  have P := PW 42
  refine e_dup aX9_init_372 rfl ?_
  refine e_bipush (v := 42) aX9_init_373 (by decide) ?_
  refine e_bipush (v := 99) aX9_init_375 (by decide) ?_
  refine e_castoreF aX9_init_377 (pz_is P rfl) (pz_n (n := 90) P rfl) (vin (n := 42) (N := 90) (by decide)) ?_
  refine e_hp (h2 := wdH (nwk 121 (m2H h) 12 90) 43) (wd_s (by decide) (by decide)) ?_
  have P := PW 43
  refine e_dup aX9_init_378 rfl ?_
  refine e_bipush (v := 43) aX9_init_379 (by decide) ?_
  refine e_bipush (v := 104) aX9_init_381 (by decide) ?_
  refine e_castoreF aX9_init_383 (pz_is P rfl) (pz_n (n := 90) P rfl) (vin (n := 43) (N := 90) (by decide)) ?_
  refine e_hp (h2 := wdH (nwk 121 (m2H h) 12 90) 44) (wd_s (by decide) (by decide)) ?_
  have P := PW 44
  refine e_dup aX9_init_384 rfl ?_
  refine e_bipush (v := 44) aX9_init_385 (by decide) ?_
  refine e_bipush (v := 111) aX9_init_387 (by decide) ?_
  refine e_castoreF aX9_init_389 (pz_is P rfl) (pz_n (n := 90) P rfl) (vin (n := 44) (N := 90) (by decide)) ?_
  refine e_hp (h2 := wdH (nwk 121 (m2H h) 12 90) 45) (wd_s (by decide) (by decide)) ?_
  have P := PW 45
  refine e_dup aX9_init_390 rfl ?_
  refine e_bipush (v := 45) aX9_init_391 (by decide) ?_
  refine e_bipush (v := 105) aX9_init_393 (by decide) ?_
  refine e_castoreF aX9_init_395 (pz_is P rfl) (pz_n (n := 90) P rfl) (vin (n := 45) (N := 90) (by decide)) ?_
  refine e_hp (h2 := wdH (nwk 121 (m2H h) 12 90) 46) (wd_s (by decide) (by decide)) ?_
  have P := PW 46
  refine e_dup aX9_init_396 rfl ?_
  refine e_bipush (v := 46) aX9_init_397 (by decide) ?_
  refine e_bipush (v := 99) aX9_init_399 (by decide) ?_
  refine e_castoreF aX9_init_401 (pz_is P rfl) (pz_n (n := 90) P rfl) (vin (n := 46) (N := 90) (by decide)) ?_
  refine e_hp (h2 := wdH (nwk 121 (m2H h) 12 90) 47) (wd_s (by decide) (by decide)) ?_
  have P := PW 47
  refine e_dup aX9_init_402 rfl ?_
  refine e_bipush (v := 47) aX9_init_403 (by decide) ?_
  refine e_bipush (v := 101) aX9_init_405 (by decide) ?_
  refine e_castoreF aX9_init_407 (pz_is P rfl) (pz_n (n := 90) P rfl) (vin (n := 47) (N := 90) (by decide)) ?_
  refine e_hp (h2 := wdH (nwk 121 (m2H h) 12 90) 48) (wd_s (by decide) (by decide)) ?_
  have P := PW 48
  refine e_dup aX9_init_408 rfl ?_
  refine e_bipush (v := 48) aX9_init_409 (by decide) ?_
  refine e_bipush (v := 105) aX9_init_411 (by decide) ?_
  refine e_castoreF aX9_init_413 (pz_is P rfl) (pz_n (n := 90) P rfl) (vin (n := 48) (N := 90) (by decide)) ?_
  refine e_hp (h2 := wdH (nwk 121 (m2H h) 12 90) 49) (wd_s (by decide) (by decide)) ?_
  have P := PW 49
  refine e_dup aX9_init_414 rfl ?_
  refine e_bipush (v := 49) aX9_init_415 (by decide) ?_
  refine e_bipush (v := 102) aX9_init_417 (by decide) ?_
  refine e_castoreF aX9_init_419 (pz_is P rfl) (pz_n (n := 90) P rfl) (vin (n := 49) (N := 90) (by decide)) ?_
  refine e_hp (h2 := wdH (nwk 121 (m2H h) 12 90) 50) (wd_s (by decide) (by decide)) ?_
  have P := PW 50
  refine e_dup aX9_init_420 rfl ?_
  refine e_bipush (v := 50) aX9_init_421 (by decide) ?_
  refine e_bipush (v := 32) aX9_init_423 (by decide) ?_
  refine e_castoreF aX9_init_425 (pz_is P rfl) (pz_n (n := 90) P rfl) (vin (n := 50) (N := 90) (by decide)) ?_
  refine e_hp (h2 := wdH (nwk 121 (m2H h) 12 90) 51) (wd_s (by decide) (by decide)) ?_
  have P := PW 51
  refine e_dup aX9_init_426 rfl ?_
  refine e_bipush (v := 51) aX9_init_427 (by decide) ?_
  refine e_bipush (v := 32) aX9_init_429 (by decide) ?_
  refine e_castoreF aX9_init_431 (pz_is P rfl) (pz_n (n := 90) P rfl) (vin (n := 51) (N := 90) (by decide)) ?_
  refine e_hp (h2 := wdH (nwk 121 (m2H h) 12 90) 52) (wd_s (by decide) (by decide)) ?_
  have P := PW 52
  refine e_dup aX9_init_432 rfl ?_
  refine e_bipush (v := 52) aX9_init_433 (by decide) ?_
  refine e_bipush (v := 32) aX9_init_435 (by decide) ?_
  refine e_castoreF aX9_init_437 (pz_is P rfl) (pz_n (n := 90) P rfl) (vin (n := 52) (N := 90) (by decide)) ?_
  refine e_hp (h2 := wdH (nwk 121 (m2H h) 12 90) 53) (wd_s (by decide) (by decide)) ?_
  have P := PW 53
  refine e_dup aX9_init_438 rfl ?_
  refine e_bipush (v := 53) aX9_init_439 (by decide) ?_
  refine e_bipush (v := 32) aX9_init_441 (by decide) ?_
  refine e_castoreF aX9_init_443 (pz_is P rfl) (pz_n (n := 90) P rfl) (vin (n := 53) (N := 90) (by decide)) ?_
  refine e_hp (h2 := wdH (nwk 121 (m2H h) 12 90) 54) (wd_s (by decide) (by decide)) ?_
  have P := PW 54
  refine e_dup aX9_init_444 rfl ?_
  refine e_bipush (v := 54) aX9_init_445 (by decide) ?_
  refine e_bipush (v := 111) aX9_init_447 (by decide) ?_
  refine e_castoreF aX9_init_449 (pz_is P rfl) (pz_n (n := 90) P rfl) (vin (n := 54) (N := 90) (by decide)) ?_
  refine e_hp (h2 := wdH (nwk 121 (m2H h) 12 90) 55) (wd_s (by decide) (by decide)) ?_
  have P := PW 55
  refine e_dup aX9_init_450 rfl ?_
  refine e_bipush (v := 55) aX9_init_451 (by decide) ?_
  refine e_bipush (v := 114) aX9_init_453 (by decide) ?_
  refine e_castoreF aX9_init_455 (pz_is P rfl) (pz_n (n := 90) P rfl) (vin (n := 55) (N := 90) (by decide)) ?_
  refine e_hp (h2 := wdH (nwk 121 (m2H h) 12 90) 56) (wd_s (by decide) (by decide)) ?_
  have P := PW 56
  refine e_dup aX9_init_456 rfl ?_
  refine e_bipush (v := 56) aX9_init_457 (by decide) ?_
  refine e_bipush (v := 32) aX9_init_459 (by decide) ?_
  refine e_castoreF aX9_init_461 (pz_is P rfl) (pz_n (n := 90) P rfl) (vin (n := 56) (N := 90) (by decide)) ?_
  refine e_hp (h2 := wdH (nwk 121 (m2H h) 12 90) 57) (wd_s (by decide) (by decide)) ?_
  have P := PW 57
  refine e_dup aX9_init_462 rfl ?_
  refine e_bipush (v := 57) aX9_init_463 (by decide) ?_
  refine e_bipush (v := 32) aX9_init_465 (by decide) ?_
  refine e_castoreF aX9_init_467 (pz_is P rfl) (pz_n (n := 90) P rfl) (vin (n := 57) (N := 90) (by decide)) ?_
  refine e_hp (h2 := wdH (nwk 121 (m2H h) 12 90) 58) (wd_s (by decide) (by decide)) ?_
  have P := PW 58
  refine e_dup aX9_init_468 rfl ?_
  refine e_bipush (v := 58) aX9_init_469 (by decide) ?_
  refine e_bipush (v := 32) aX9_init_471 (by decide) ?_
  refine e_castoreF aX9_init_473 (pz_is P rfl) (pz_n (n := 90) P rfl) (vin (n := 58) (N := 90) (by decide)) ?_
  refine e_hp (h2 := wdH (nwk 121 (m2H h) 12 90) 59) (wd_s (by decide) (by decide)) ?_
  have P := PW 59
  refine e_dup aX9_init_474 rfl ?_
  refine e_bipush (v := 59) aX9_init_475 (by decide) ?_
  refine e_bipush (v := 32) aX9_init_477 (by decide) ?_
  refine e_castoreF aX9_init_479 (pz_is P rfl) (pz_n (n := 90) P rfl) (vin (n := 59) (N := 90) (by decide)) ?_
  refine e_hp (h2 := wdH (nwk 121 (m2H h) 12 90) 60) (wd_s (by decide) (by decide)) ?_
  have P := PW 60
  refine e_dup aX9_init_480 rfl ?_
  refine e_bipush (v := 60) aX9_init_481 (by decide) ?_
  refine e_bipush (v := 97) aX9_init_483 (by decide) ?_
  refine e_castoreF aX9_init_485 (pz_is P rfl) (pz_n (n := 90) P rfl) (vin (n := 60) (N := 90) (by decide)) ?_
  refine e_hp (h2 := wdH (nwk 121 (m2H h) 12 90) 61) (wd_s (by decide) (by decide)) ?_
  have P := PW 61
  refine e_dup aX9_init_486 rfl ?_
  refine e_bipush (v := 61) aX9_init_487 (by decide) ?_
  refine e_bipush (v := 110) aX9_init_489 (by decide) ?_
  refine e_castoreF aX9_init_491 (pz_is P rfl) (pz_n (n := 90) P rfl) (vin (n := 61) (N := 90) (by decide)) ?_
  refine e_hp (h2 := wdH (nwk 121 (m2H h) 12 90) 62) (wd_s (by decide) (by decide)) ?_
  have P := PW 62
  refine e_dup aX9_init_492 rfl ?_
  refine e_bipush (v := 62) aX9_init_493 (by decide) ?_
  refine e_bipush (v := 100) aX9_init_495 (by decide) ?_
  refine e_castoreF aX9_init_497 (pz_is P rfl) (pz_n (n := 90) P rfl) (vin (n := 62) (N := 90) (by decide)) ?_
  refine e_hp (h2 := wdH (nwk 121 (m2H h) 12 90) 63) (wd_s (by decide) (by decide)) ?_
  have P := PW 63
  refine e_dup aX9_init_498 rfl ?_
  refine e_bipush (v := 63) aX9_init_499 (by decide) ?_
  refine e_bipush (v := 32) aX9_init_501 (by decide) ?_
  refine e_castoreF aX9_init_503 (pz_is P rfl) (pz_n (n := 90) P rfl) (vin (n := 63) (N := 90) (by decide)) ?_
  refine e_hp (h2 := wdH (nwk 121 (m2H h) 12 90) 64) (wd_s (by decide) (by decide)) ?_
  have P := PW 64
  refine e_dup aX9_init_504 rfl ?_
  refine e_bipush (v := 64) aX9_init_505 (by decide) ?_
  refine e_bipush (v := 32) aX9_init_507 (by decide) ?_
  refine e_castoreF aX9_init_509 (pz_is P rfl) (pz_n (n := 90) P rfl) (vin (n := 64) (N := 90) (by decide)) ?_
  refine e_hp (h2 := wdH (nwk 121 (m2H h) 12 90) 65) (wd_s (by decide) (by decide)) ?_
  have P := PW 65
  refine e_dup aX9_init_510 rfl ?_
  refine e_bipush (v := 65) aX9_init_511 (by decide) ?_
  refine e_bipush (v := 32) aX9_init_513 (by decide) ?_
  refine e_castoreF aX9_init_515 (pz_is P rfl) (pz_n (n := 90) P rfl) (vin (n := 65) (N := 90) (by decide)) ?_
  refine e_hp (h2 := wdH (nwk 121 (m2H h) 12 90) 66) (wd_s (by decide) (by decide)) ?_
  have P := PW 66
  refine e_dup aX9_init_516 rfl ?_
  refine e_bipush (v := 66) aX9_init_517 (by decide) ?_
  refine e_bipush (v := 110) aX9_init_519 (by decide) ?_
  refine e_castoreF aX9_init_521 (pz_is P rfl) (pz_n (n := 90) P rfl) (vin (n := 66) (N := 90) (by decide)) ?_
  refine e_hp (h2 := wdH (nwk 121 (m2H h) 12 90) 67) (wd_s (by decide) (by decide)) ?_
  have P := PW 67
  refine e_dup aX9_init_522 rfl ?_
  refine e_bipush (v := 67) aX9_init_523 (by decide) ?_
  refine e_bipush (v := 111) aX9_init_525 (by decide) ?_
  refine e_castoreF aX9_init_527 (pz_is P rfl) (pz_n (n := 90) P rfl) (vin (n := 67) (N := 90) (by decide)) ?_
  refine e_hp (h2 := wdH (nwk 121 (m2H h) 12 90) 68) (wd_s (by decide) (by decide)) ?_
  have P := PW 68
  refine e_dup aX9_init_528 rfl ?_
  refine e_bipush (v := 68) aX9_init_529 (by decide) ?_
  refine e_bipush (v := 116) aX9_init_531 (by decide) ?_
  refine e_castoreF aX9_init_533 (pz_is P rfl) (pz_n (n := 90) P rfl) (vin (n := 68) (N := 90) (by decide)) ?_
  refine e_hp (h2 := wdH (nwk 121 (m2H h) 12 90) 69) (wd_s (by decide) (by decide)) ?_
  have P := PW 69
  refine e_dup aX9_init_534 rfl ?_
  refine e_bipush (v := 69) aX9_init_535 (by decide) ?_
  refine e_bipush (v := 32) aX9_init_537 (by decide) ?_
  refine e_castoreF aX9_init_539 (pz_is P rfl) (pz_n (n := 90) P rfl) (vin (n := 69) (N := 90) (by decide)) ?_
  refine e_hp (h2 := wdH (nwk 121 (m2H h) 12 90) 70) (wd_s (by decide) (by decide)) ?_
  have P := PW 70
  refine e_dup aX9_init_540 rfl ?_
  refine e_bipush (v := 70) aX9_init_541 (by decide) ?_
  refine e_bipush (v := 32) aX9_init_543 (by decide) ?_
  refine e_castoreF aX9_init_545 (pz_is P rfl) (pz_n (n := 90) P rfl) (vin (n := 70) (N := 90) (by decide)) ?_
  refine e_hp (h2 := wdH (nwk 121 (m2H h) 12 90) 71) (wd_s (by decide) (by decide)) ?_
  have P := PW 71
  refine e_dup aX9_init_546 rfl ?_
  refine e_bipush (v := 71) aX9_init_547 (by decide) ?_
  refine e_bipush (v := 32) aX9_init_549 (by decide) ?_
  refine e_castoreF aX9_init_551 (pz_is P rfl) (pz_n (n := 90) P rfl) (vin (n := 71) (N := 90) (by decide)) ?_
  refine e_hp (h2 := wdH (nwk 121 (m2H h) 12 90) 72) (wd_s (by decide) (by decide)) ?_
  have P := PW 72
  refine e_dup aX9_init_552 rfl ?_
  refine e_bipush (v := 72) aX9_init_553 (by decide) ?_
  refine e_bipush (v := 97) aX9_init_555 (by decide) ?_
  refine e_castoreF aX9_init_557 (pz_is P rfl) (pz_n (n := 90) P rfl) (vin (n := 72) (N := 90) (by decide)) ?_
  refine e_hp (h2 := wdH (nwk 121 (m2H h) 12 90) 73) (wd_s (by decide) (by decide)) ?_
  have P := PW 73
  refine e_dup aX9_init_558 rfl ?_
  refine e_bipush (v := 73) aX9_init_559 (by decide) ?_
  refine e_bipush (v := 104) aX9_init_561 (by decide) ?_
  refine e_castoreF aX9_init_563 (pz_is P rfl) (pz_n (n := 90) P rfl) (vin (n := 73) (N := 90) (by decide)) ?_
  refine e_hp (h2 := wdH (nwk 121 (m2H h) 12 90) 74) (wd_s (by decide) (by decide)) ?_
  have P := PW 74
  refine e_dup aX9_init_564 rfl ?_
  refine e_bipush (v := 74) aX9_init_565 (by decide) ?_
  refine e_bipush (v := 101) aX9_init_567 (by decide) ?_
  refine e_castoreF aX9_init_569 (pz_is P rfl) (pz_n (n := 90) P rfl) (vin (n := 74) (N := 90) (by decide)) ?_
  refine e_hp (h2 := wdH (nwk 121 (m2H h) 12 90) 75) (wd_s (by decide) (by decide)) ?_
  have P := PW 75
  refine e_dup aX9_init_570 rfl ?_
  refine e_bipush (v := 75) aX9_init_571 (by decide) ?_
  refine e_bipush (v := 97) aX9_init_573 (by decide) ?_
  refine e_castoreF aX9_init_575 (pz_is P rfl) (pz_n (n := 90) P rfl) (vin (n := 75) (N := 90) (by decide)) ?_
  refine e_hp (h2 := wdH (nwk 121 (m2H h) 12 90) 76) (wd_s (by decide) (by decide)) ?_
  have P := PW 76
  refine e_dup aX9_init_576 rfl ?_
  refine e_bipush (v := 76) aX9_init_577 (by decide) ?_
  refine e_bipush (v := 100) aX9_init_579 (by decide) ?_
  refine e_castoreF aX9_init_581 (pz_is P rfl) (pz_n (n := 90) P rfl) (vin (n := 76) (N := 90) (by decide)) ?_
  refine e_hp (h2 := wdH (nwk 121 (m2H h) 12 90) 77) (wd_s (by decide) (by decide)) ?_
  have P := PW 77
  refine e_dup aX9_init_582 rfl ?_
  refine e_bipush (v := 77) aX9_init_583 (by decide) ?_
  refine e_bipush (v := 32) aX9_init_585 (by decide) ?_
  refine e_castoreF aX9_init_587 (pz_is P rfl) (pz_n (n := 90) P rfl) (vin (n := 77) (N := 90) (by decide)) ?_
  refine e_hp (h2 := wdH (nwk 121 (m2H h) 12 90) 78) (wd_s (by decide) (by decide)) ?_
  have P := PW 78
  refine e_dup aX9_init_588 rfl ?_
  refine e_bipush (v := 78) aX9_init_589 (by decide) ?_
  refine e_bipush (v := 97) aX9_init_591 (by decide) ?_
  refine e_castoreF aX9_init_593 (pz_is P rfl) (pz_n (n := 90) P rfl) (vin (n := 78) (N := 90) (by decide)) ?_
  refine e_hp (h2 := wdH (nwk 121 (m2H h) 12 90) 79) (wd_s (by decide) (by decide)) ?_
  have P := PW 79
  refine e_dup aX9_init_594 rfl ?_
  refine e_bipush (v := 79) aX9_init_595 (by decide) ?_
  refine e_bipush (v := 116) aX9_init_597 (by decide) ?_
  refine e_castoreF aX9_init_599 (pz_is P rfl) (pz_n (n := 90) P rfl) (vin (n := 79) (N := 90) (by decide)) ?_
  refine e_hp (h2 := wdH (nwk 121 (m2H h) 12 90) 80) (wd_s (by decide) (by decide)) ?_
  have P := PW 80
  refine e_dup aX9_init_600 rfl ?_
  refine e_bipush (v := 80) aX9_init_601 (by decide) ?_
  refine e_bipush (v := 32) aX9_init_603 (by decide) ?_
  refine e_castoreF aX9_init_605 (pz_is P rfl) (pz_n (n := 90) P rfl) (vin (n := 80) (N := 90) (by decide)) ?_
  refine e_hp (h2 := wdH (nwk 121 (m2H h) 12 90) 81) (wd_s (by decide) (by decide)) ?_
  have P := PW 81
  refine e_dup aX9_init_606 rfl ?_
  refine e_bipush (v := 81) aX9_init_607 (by decide) ?_
  refine e_bipush (v := 32) aX9_init_609 (by decide) ?_
  refine e_castoreF aX9_init_611 (pz_is P rfl) (pz_n (n := 90) P rfl) (vin (n := 81) (N := 90) (by decide)) ?_
  refine e_hp (h2 := wdH (nwk 121 (m2H h) 12 90) 82) (wd_s (by decide) (by decide)) ?_
  have P := PW 82
  refine e_dup aX9_init_612 rfl ?_
  refine e_bipush (v := 82) aX9_init_613 (by decide) ?_
  refine e_bipush (v := 32) aX9_init_615 (by decide) ?_
  refine e_castoreF aX9_init_617 (pz_is P rfl) (pz_n (n := 90) P rfl) (vin (n := 82) (N := 90) (by decide)) ?_
  refine e_hp (h2 := wdH (nwk 121 (m2H h) 12 90) 83) (wd_s (by decide) (by decide)) ?_
  have P := PW 83
  refine e_dup aX9_init_618 rfl ?_
  refine e_bipush (v := 83) aX9_init_619 (by decide) ?_
  refine e_bipush (v := 32) aX9_init_621 (by decide) ?_
  refine e_castoreF aX9_init_623 (pz_is P rfl) (pz_n (n := 90) P rfl) (vin (n := 83) (N := 90) (by decide)) ?_
  refine e_hp (h2 := wdH (nwk 121 (m2H h) 12 90) 84) (wd_s (by decide) (by decide)) ?_
  have P := PW 84
  refine e_dup aX9_init_624 rfl ?_
  refine e_bipush (v := 84) aX9_init_625 (by decide) ?_
  refine e_bipush (v := 108) aX9_init_627 (by decide) ?_
  refine e_castoreF aX9_init_629 (pz_is P rfl) (pz_n (n := 90) P rfl) (vin (n := 84) (N := 90) (by decide)) ?_
  refine e_hp (h2 := wdH (nwk 121 (m2H h) 12 90) 85) (wd_s (by decide) (by decide)) ?_
  have P := PW 85
  refine e_dup aX9_init_630 rfl ?_
  refine e_bipush (v := 85) aX9_init_631 (by decide) ?_
  refine e_bipush (v := 97) aX9_init_633 (by decide) ?_
  refine e_castoreF aX9_init_635 (pz_is P rfl) (pz_n (n := 90) P rfl) (vin (n := 85) (N := 90) (by decide)) ?_
  refine e_hp (h2 := wdH (nwk 121 (m2H h) 12 90) 86) (wd_s (by decide) (by decide)) ?_
  have P := PW 86
  refine e_dup aX9_init_636 rfl ?_
  refine e_bipush (v := 86) aX9_init_637 (by decide) ?_
  refine e_bipush (v := 112) aX9_init_639 (by decide) ?_
  refine e_castoreF aX9_init_641 (pz_is P rfl) (pz_n (n := 90) P rfl) (vin (n := 86) (N := 90) (by decide)) ?_
  refine e_hp (h2 := wdH (nwk 121 (m2H h) 12 90) 87) (wd_s (by decide) (by decide)) ?_
  have P := PW 87
  refine e_dup aX9_init_642 rfl ?_
  refine e_bipush (v := 87) aX9_init_643 (by decide) ?_
  refine e_bipush (v := 115) aX9_init_645 (by decide) ?_
  refine e_castoreF aX9_init_647 (pz_is P rfl) (pz_n (n := 90) P rfl) (vin (n := 87) (N := 90) (by decide)) ?_
  refine e_hp (h2 := wdH (nwk 121 (m2H h) 12 90) 88) (wd_s (by decide) (by decide)) ?_
  have P := PW 88
  refine e_dup aX9_init_648 rfl ?_
  refine e_bipush (v := 88) aX9_init_649 (by decide) ?_
  refine e_bipush (v := 101) aX9_init_651 (by decide) ?_
  refine e_castoreF aX9_init_653 (pz_is P rfl) (pz_n (n := 90) P rfl) (vin (n := 88) (N := 90) (by decide)) ?_
  refine e_hp (h2 := wdH (nwk 121 (m2H h) 12 90) 89) (wd_s (by decide) (by decide)) ?_
  have P := PW 89
  refine e_dup aX9_init_654 rfl ?_
  refine e_bipush (v := 89) aX9_init_655 (by decide) ?_
  refine e_bipush (v := 100) aX9_init_657 (by decide) ?_
  refine e_castoreF aX9_init_659 (pz_is P rfl) (pz_n (n := 90) P rfl) (vin (n := 89) (N := 90) (by decide)) ?_
  refine e_hp (h2 := wdH (nwk 121 (m2H h) 12 90) 90) (wd_s (by decide) (by decide)) ?_
  have P := PW 90
  refine e_putR aX9_init_660 fX9_48 rfl (pz_is P rfl) (Or.inr ⟨rfl, fun r q => by cases q; rfl⟩) ?_
  refine e_pz P.r ?_
  intro P
  refine e_aload_n aX9_init_663 rfl ?_
  refine e_iconst (v := 4) aX9_init_664 (by decide) ?_
  refine e_newI aX9_init_665 wa_int (by decide) rfl (Nat.le_of_ble_eq_true rfl) (Nat.le_of_ble_eq_true rfl) (Nat.le_of_ble_eq_true rfl) ?_
  refine e_topR (v := some (122)) (congrArg some P.1) ?_
  refine e_hp (h2 := nwk (122) _ 13 4) (nwk_e P.1) ?_
  refine e_pz (P.n rfl rfl) ?_
  intro P
  refine e_dup aX9_init_667 rfl ?_
  refine e_iconst (v := 0) aX9_init_668 (by decide) ?_
  refine e_iconst (v := -1) aX9_init_669 (by decide) ?_
  refine e_iastoreF aX9_init_670 (pz_is P rfl) (pz_n (n := 4) P rfl) (vin (n := 0) (N := 4) (by decide)) ?_
  refine e_pz P.i ?_
  intro P
  refine e_dup aX9_init_671 rfl ?_
  refine e_iconst (v := 1) aX9_init_672 (by decide) ?_
  refine e_iconst (v := -1) aX9_init_673 (by decide) ?_
  refine e_iastoreF aX9_init_674 (pz_is P rfl) (pz_n (n := 4) P rfl) (vin (n := 1) (N := 4) (by decide)) ?_
  refine e_pz P.i ?_
  intro P
  refine e_dup aX9_init_675 rfl ?_
  refine e_iconst (v := 2) aX9_init_676 (by decide) ?_
  refine e_iconst (v := -1) aX9_init_677 (by decide) ?_
  refine e_iastoreF aX9_init_678 (pz_is P rfl) (pz_n (n := 4) P rfl) (vin (n := 2) (N := 4) (by decide)) ?_
  refine e_pz P.i ?_
  intro P
  refine e_dup aX9_init_679 rfl ?_
  refine e_iconst (v := 3) aX9_init_680 (by decide) ?_
  refine e_iconst (v := -1) aX9_init_681 (by decide) ?_
  refine e_iastoreF aX9_init_682 (pz_is P rfl) (pz_n (n := 4) P rfl) (vin (n := 3) (N := 4) (by decide)) ?_
  refine e_pz P.i ?_
  intro P
  refine e_putR aX9_init_683 fX9_52 rfl (pz_is P rfl) (Or.inr ⟨rfl, fun r q => by cases q; rfl⟩) ?_
  refine e_pz P.r ?_
  intro P
  refine e_aload_n aX9_init_686 rfl ?_
  refine e_iconst (v := 4) aX9_init_687 (by decide) ?_
  refine e_newI aX9_init_688 wa_int (by decide) rfl (Nat.le_of_ble_eq_true rfl) (Nat.le_of_ble_eq_true rfl) (Nat.le_of_ble_eq_true rfl) ?_
  refine e_topR (v := some (123)) (congrArg some P.1) ?_
  refine e_hp (h2 := nwk (123) _ 13 4) (nwk_e P.1) ?_
  refine e_pz (P.n rfl rfl) ?_
  intro P
  refine e_putR aX9_init_690 fX9_55 rfl (pz_is P rfl) (Or.inr ⟨rfl, fun r q => by cases q; rfl⟩) ?_
  refine e_pz P.r ?_
  intro P
  refine e_aload_n aX9_init_693 rfl ?_
  refine e_sipush (v := 160) aX9_init_694 (by decide) ?_
  refine e_newL aX9_init_697 wa_long (by decide) rfl (Nat.le_of_ble_eq_true rfl) (Nat.le_of_ble_eq_true rfl) (Nat.le_of_ble_eq_true rfl) ?_
  refine e_topR (v := some (124)) (congrArg some P.1) ?_
  refine e_hp (h2 := nwk (124) _ 14 160) (nwk_e P.1) ?_
  refine e_pz (P.n rfl rfl) ?_
  intro P
  refine e_putR aX9_init_699 fX9_58 rfl (pz_is P rfl) (Or.inr ⟨rfl, fun r q => by cases q; rfl⟩) ?_
  refine e_pz P.r ?_
  intro P
  refine e_aload_n aX9_init_702 rfl ?_
  refine e_bipush (v := 40) aX9_init_703 (by decide) ?_
  refine e_newL aX9_init_705 wa_long (by decide) rfl (Nat.le_of_ble_eq_true rfl) (Nat.le_of_ble_eq_true rfl) (Nat.le_of_ble_eq_true rfl) ?_
  refine e_topR (v := some (125)) (congrArg some P.1) ?_
  refine e_hp (h2 := nwk (125) _ 14 40) (nwk_e P.1) ?_
  refine e_pz (P.n rfl rfl) ?_
  intro P
  refine e_putR aX9_init_707 fX9_62 rfl (pz_is P rfl) (Or.inr ⟨rfl, fun r q => by cases q; rfl⟩) ?_
  refine e_pz P.r ?_
  intro P
  refine e_aload_n aX9_init_710 rfl ?_
  refine e_bipush (v := 12) aX9_init_711 (by decide) ?_
  refine e_newI aX9_init_713 wa_int (by decide) rfl (Nat.le_of_ble_eq_true rfl) (Nat.le_of_ble_eq_true rfl) (Nat.le_of_ble_eq_true rfl) ?_
  refine e_topR (v := some (126)) (congrArg some P.1) ?_
  refine e_hp (h2 := nwk (126) _ 13 12) (nwk_e P.1) ?_
  refine e_pz (P.n rfl rfl) ?_
  intro P
  refine e_putR aX9_init_715 fX9_65 rfl (pz_is P rfl) (Or.inr ⟨rfl, fun r q => by cases q; rfl⟩) ?_
  refine e_hp (h2 := m3H h) rfl ?_
  refine e_pz (h := m3H h) P.r ?_
  intro P
  refine e_aload_n aX9_init_718 rfl ?_
  refine e_bipush (v := 24) aX9_init_719 (by decide) ?_
  refine e_newI aX9_init_721 wa_int (by decide) rfl (Nat.le_of_ble_eq_true rfl) (Nat.le_of_ble_eq_true rfl) (Nat.le_of_ble_eq_true rfl) ?_
  refine e_topR (v := some (127)) (congrArg some P.1) ?_
  refine e_hp (h2 := nwk (127) _ 13 24) (nwk_e P.1) ?_
  refine e_pz (P.n rfl rfl) ?_
  intro P
  refine e_putR aX9_init_723 fX9_68 rfl (pz_is P rfl) (Or.inr ⟨rfl, fun r q => by cases q; rfl⟩) ?_
  refine e_pz P.r ?_
  intro P
  refine e_aload_n aX9_init_726 rfl ?_
  refine e_iconst (v := 4) aX9_init_727 (by decide) ?_
  refine e_newI aX9_init_728 wa_int (by decide) rfl (Nat.le_of_ble_eq_true rfl) (Nat.le_of_ble_eq_true rfl) (Nat.le_of_ble_eq_true rfl) ?_
  refine e_topR (v := some (128)) (congrArg some P.1) ?_
  refine e_hp (h2 := nwk (128) _ 13 4) (nwk_e P.1) ?_
  refine e_pz (P.n rfl rfl) ?_
  intro P
  refine e_putR aX9_init_730 fX9_71 rfl (pz_is P rfl) (Or.inr ⟨rfl, fun r q => by cases q; rfl⟩) ?_
  refine e_pz P.r ?_
  intro P
  refine e_aload_n aX9_init_733 rfl ?_
  refine e_iconst (v := 4) aX9_init_734 (by decide) ?_
  refine e_newI aX9_init_735 wa_int (by decide) rfl (Nat.le_of_ble_eq_true rfl) (Nat.le_of_ble_eq_true rfl) (Nat.le_of_ble_eq_true rfl) ?_
  refine e_topR (v := some (129)) (congrArg some P.1) ?_
  refine e_hp (h2 := nwk (129) _ 13 4) (nwk_e P.1) ?_
  refine e_pz (P.n rfl rfl) ?_
  intro P
  refine e_putR aX9_init_737 fX9_74 rfl (pz_is P rfl) (Or.inr ⟨rfl, fun r q => by cases q; rfl⟩) ?_
  refine e_pz P.r ?_
  intro P
  refine e_aload_n aX9_init_740 rfl ?_
  refine e_iconst (v := 4) aX9_init_741 (by decide) ?_
  refine e_newI aX9_init_742 wa_int (by decide) rfl (Nat.le_of_ble_eq_true rfl) (Nat.le_of_ble_eq_true rfl) (Nat.le_of_ble_eq_true rfl) ?_
  refine e_topR (v := some (130)) (congrArg some P.1) ?_
  refine e_hp (h2 := nwk (130) _ 13 4) (nwk_e P.1) ?_
  refine e_pz (P.n rfl rfl) ?_
  intro P
  refine e_putR aX9_init_744 fX9_77 rfl (pz_is P rfl) (Or.inr ⟨rfl, fun r q => by cases q; rfl⟩) ?_
  refine e_pz P.r ?_
  intro P
  refine e_aload_n aX9_init_747 rfl ?_
  refine e_sipush (v := 576) aX9_init_748 (by decide) ?_
  refine e_newI aX9_init_751 wa_int (by decide) rfl (Nat.le_of_ble_eq_true rfl) (Nat.le_of_ble_eq_true rfl) (Nat.le_of_ble_eq_true rfl) ?_
  refine e_topR (v := some (131)) (congrArg some P.1) ?_
  refine e_hp (h2 := nwk (131) _ 13 576) (nwk_e P.1) ?_
  refine e_pz (P.n rfl rfl) ?_
  intro P
  refine e_putR aX9_init_753 fX9_80 rfl (pz_is P rfl) (Or.inr ⟨rfl, fun r q => by cases q; rfl⟩) ?_
  refine e_pz P.r ?_
  intro P
  refine e_aload_n aX9_init_756 rfl ?_
  refine e_sipush (v := 2952) aX9_init_757 (by decide) ?_
  refine e_newI aX9_init_760 wa_int (by decide) rfl (Nat.le_of_ble_eq_true rfl) (Nat.le_of_ble_eq_true rfl) (Nat.le_of_ble_eq_true rfl) ?_
  refine e_topR (v := some (132)) (congrArg some P.1) ?_
  refine e_hp (h2 := nwk (132) _ 13 2952) (nwk_e P.1) ?_
  refine e_pz (P.n rfl rfl) ?_
  intro P
  refine e_putR aX9_init_762 fX9_83 rfl (pz_is P rfl) (Or.inr ⟨rfl, fun r q => by cases q; rfl⟩) ?_
  refine e_pz P.r ?_
  intro P
  refine e_aload_n aX9_init_765 rfl ?_
  refine e_bipush (v := 60) aX9_init_766 (by decide) ?_
  refine e_newI aX9_init_768 wa_int (by decide) rfl (Nat.le_of_ble_eq_true rfl) (Nat.le_of_ble_eq_true rfl) (Nat.le_of_ble_eq_true rfl) ?_
  refine e_topR (v := some (133)) (congrArg some P.1) ?_
  refine e_hp (h2 := nwk (133) _ 13 60) (nwk_e P.1) ?_
  refine e_pz (P.n rfl rfl) ?_
  intro P
  refine e_putR aX9_init_770 fX9_86 rfl (pz_is P rfl) (Or.inr ⟨rfl, fun r q => by cases q; rfl⟩) ?_
  refine e_pz P.r ?_
  intro P
  refine e_aload_n aX9_init_773 rfl ?_
  refine e_iconst (v := 0) aX9_init_774 (by decide) ?_
  refine e_putI aX9_init_775 fX9_89 rfl (pz_is P rfl) (Or.inl rfl) ?_
  refine e_pz P.i ?_
  intro P
  refine e_return aX9_init_778 rfl (Nat.le_of_ble_eq_true rfl) (Nat.le_of_ble_eq_true rfl) ?_
  exact ⟨rfl, rfl⟩
theorem m2_P {h : HP} (P : Pz 110 h) : Pz 121 (m2H h) := ((((((((((P.n (t := 13) (n := 8) rfl rfl).n (t := 13) (n := 4) rfl rfl).n (t := 13) (n := 96) rfl rfl).n (t := 13) (n := 492) rfl rfl).n (t := 13) (n := 3) rfl rfl).n (t := 13) (n := 24) rfl rfl).n (t := 13) (n := 4) rfl rfl).n (t := 13) (n := 3) rfl rfl).n (t := 13) (n := 120) rfl rfl).n (t := 13) (n := 130) rfl rfl).n (t := 15) (n := 130) rfl rfl
theorem m3_P {h : HP} (P : Pz 110 h) : Pz 127 (m3H h) := (((((wdH_P ((m2_P P).n (t := 12) (n := 90) rfl rfl) 90).n (t := 13) (n := 4) rfl rfl).n (t := 13) (n := 4) rfl rfl).n (t := 14) (n := 160) rfl rfl).n (t := 14) (n := 40) rfl rfl).n (t := 13) (n := 12) rfl rfl
theorem m4_P {h : HP} (P : Pz 110 h) : Pz 134 (m4H h) := (((((((m3_P P).n (t := 13) (n := 24) rfl rfl).n (t := 13) (n := 4) rfl rfl).n (t := 13) (n := 4) rfl rfl).n (t := 13) (n := 4) rfl rfl).n (t := 13) (n := 576) rfl rfl).n (t := 13) (n := 2952) rfl rfl).n (t := 13) (n := 60) rfl rfl
