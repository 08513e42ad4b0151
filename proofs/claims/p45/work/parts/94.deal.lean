/-! the law: deals made by cells (written by wip/p45/g94.py) -/
theorem shx {x : Int32} {k : Nat} : ∃ j, j < 2 ∧ (x >>> (nI k &&& 31)) &&& 1 = nI j := and1 _
theorem is_nsW {h : HP} (z : 32 ≤ hZ h) {t n : Nat} : Is (nw h t n) (hZ h) t := is_ns z
theorem CF.gb {h h2 : HP} (F : Fx h) (g : Gb h h2) : CF h h2 := by
  have hz : 116 ≤ hZ h := F.1
  exact ⟨g.up, g.F F, fun a h1 h2 j => ⟨((g.2 a (by omega)).1 j).1, ((g.2 a (by omega)).1 j).2.2⟩⟩
theorem LF.gb {h h2 : HP} (g : Gb h h2) : LF h h2 := ⟨g.1, fun b hb => ⟨(g.2 b hb).2.1, (g.2 b hb).2.2, fun i => ((g.2 b hb).1 i).2.1, fun _ i => ((g.2 b hb).1 i).1, fun _ _ i => ((g.2 b hb).1 i).2.2⟩⟩
theorem JM.gb {h h2 : HP} {f n m : Nat} {o A : Nat → Nat} {D : Nat → DD} {c : BQ} {tS : Nat → Int32} {qS : Nat → Nat} (J : JM h f n m o A D c tS qS) (g : Gb h h2) : JM h2 f n m o A D c tS qS := by
  obtain ⟨cx, ow, ok, e1, e2, fa, τ, E, ll, lt, ly⟩ := J
  have cf := CF.gb cx.1 g
  exact ⟨cx.lf (LF.gb g), ow.lf (LF.gb g) cx.1, ok, e1, e2, fa, τ, E, ll.cf cf, lt.cf cf, ly.cf cf⟩
theorem nI_m3 {a b : Nat} (ha : a < 3) (hb : b < 2) : nI a + 1 + nI b - (nI a + 1 + nI b) / 3 * 3 = nI ((a + 1 + b) % 3) := by
  rw [nI_1, nI_add]
  exact nI_rem (b := 3) (by omega) (by decide) (by decide)
theorem m3_ne {a b : Nat} (ha : a < 3) (hb : b < 2) : a ≠ (a + 1 + b) % 3 := by omega
theorem dWf_mk {k f t p m : Nat} {q : Option Nat} (h1 : k < 6) (h2 : f < 3) (h3 : t < 3) (h4 : f ≠ t) (h5 : p < 12) (h6 : (k = 2 ∨ k = 5) ↔ q.isSome = true) (h7 : ∀ v, q = some v → v < 12 ∧ v ≠ p ∧ v / 3 = p / 3) (h8 : m ≤ 2) (h9 : k = 0 ∨ k = 2 ↔ m = 0) : dWf (dNo k f t p q m) := ⟨h1, h2, h3, h4, h5, h6, h7, h8, h9, fun _ _ => rfl⟩
/-- a deal's row behind its making -/
def dlW (h : HP) (x0 x1 x2 x3 x4 x5 : Int32) : HP := wI (wI (wI (wI (wI (wI (nw h 13 6) (hZ h) 0 x0) (hZ h) 1 x1) (hZ h) 2 x2) (hZ h) 3 x3) (hZ h) 4 x4) (hZ h) 5 x5
theorem dl_G {h : HP} {x0 x1 x2 x3 x4 x5 : Int32} : Gb h (dlW h x0 x1 x2 x3 x4 x5) := ((((((Gb.rf h).nw.wI (Nat.le_refl _)).wI (Nat.le_refl _)).wI (Nat.le_refl _)).wI (Nat.le_refl _)).wI (Nat.le_refl _)).wI (Nat.le_refl _)
theorem dl_F {h : HP} (F : Fx h) {k f t p m : Nat} {q : Option Nat} (w : dWf (dNo k f t p q m)) : FaC (dlW h (nI k) (nI f) (nI t) (nI p) (oI q) (nI m)) (hZ h) (dNo k f t p q m) := by
  have hz : 116 ≤ hZ h := F.1
  have h32 : 32 ≤ hZ h := by omega
  exact ⟨hz, is_nsW h32, if_pos rfl, w, rfl, (wI_i (by decide)).trans ((wI_i (by decide)).trans ((wI_i (by decide)).trans ((wI_i (by decide)).trans ((wI_i (by decide)).trans wI_s)))), (wI_i (by decide)).trans ((wI_i (by decide)).trans ((wI_i (by decide)).trans ((wI_i (by decide)).trans wI_s))), (wI_i (by decide)).trans ((wI_i (by decide)).trans ((wI_i (by decide)).trans wI_s)), (wI_i (by decide)).trans ((wI_i (by decide)).trans wI_s), (wI_i (by decide)).trans wI_s, wI_s⟩
theorem zL_deal (X : EX) {h : HP} (F : Fx h) (x : Int32) : Ct X mL_deal 1 1 6 [vI x] h (fun v h' => v = some (vR (some (hZ h))) ∧ Gb h h' ∧ ∃ d, FaC h' (hZ h) d) := by
  refine ct_of rfl (Nat.le_of_ble_eq_true rfl) ?_
  have h32 : 32 ≤ hZ h := by have : 116 ≤ hZ h := F.1; omega
  have mid : ∀ k, k < 6 → Ev X mL_deal 1 1 6 (fun v h' => v = some (vR (some (hZ h))) ∧ Gb h h' ∧ ∃ d, FaC h' (hZ h) d) 0 0 53 [(0, some (vI x)), (2, some (vI (nI k)))] [] h := by
    intro k hk
    refine e_iload_n aL_deal_53 rfl ?_
    refine e_iconst (v := 3) aL_deal_54 (by decide) ?_
    refine e_ishr aL_deal_55 ?_
    refine e_iconst (v := 3) aL_deal_56 (by decide) ?_
    refine e_invs aL_deal_57 kL_18 (zL_mod X (m := 3) (by decide) (by decide)) rfl rfl (Nat.le_of_ble_eq_true rfl) (Nat.le_of_ble_eq_true rfl) (Nat.le_of_ble_eq_true rfl) (Nat.le_of_ble_eq_true rfl) (Nat.le_of_ble_eq_true rfl) ?_
    rintro v h2 ⟨a, ha, rfl, rfl⟩
    refine e_istore_n aL_deal_60 (Nat.le_of_ble_eq_true rfl) ?_
    refine e_iload_n aL_deal_61 rfl ?_
    refine e_bipush (v := 6) aL_deal_62 (by decide) ?_
    refine e_ishr aL_deal_64 ?_
    refine e_bipush (v := 12) aL_deal_65 (by decide) ?_
    refine e_invs aL_deal_67 kL_18 (zL_mod X (m := 12) (by decide) (by decide)) rfl rfl (Nat.le_of_ble_eq_true rfl) (Nat.le_of_ble_eq_true rfl) (Nat.le_of_ble_eq_true rfl) (Nat.le_of_ble_eq_true rfl) (Nat.le_of_ble_eq_true rfl) ?_
    rintro v h2 ⟨p, hp, rfl, rfl⟩
    refine e_istore aL_deal_70 (Nat.le_of_ble_eq_true rfl) ?_
    refine e_iload_n aL_deal_72 rfl ?_
    refine e_iconst (v := 2) aL_deal_73 (by decide) ?_
    refine e_icmp_eq aL_deal_74 (fun c74 => ?_) (fun c74 => ?_)
    · -- 74: taken
      have q74 : k = 2 := (nI_eq (a := k) (b := 2) (by omega) (by decide)).mp c74
      refine e_iconst (v := 1) aL_deal_82 (by decide) ?_
      refine e_goto aL_deal_83 ?_
      refine e_istore aL_deal_87 (Nat.le_of_ble_eq_true rfl) ?_
      refine e_bipush (v := 6) aL_deal_89 (by decide) ?_
      refine e_newI aL_deal_91 wa_int (by decide) rfl (Nat.le_of_ble_eq_true rfl) (Nat.le_of_ble_eq_true rfl) (Nat.le_of_ble_eq_true rfl) ?_
      refine e_dup aL_deal_93 rfl ?_
      refine e_iconst (v := 0) aL_deal_94 (by decide) ?_
      refine e_iload_n aL_deal_95 rfl ?_
      refine e_iastoreF aL_deal_96 (is_nsW h32) (if_pos rfl) (vin (n := 0) (N := 6) (by decide)) ?_
      refine e_dup aL_deal_97 rfl ?_
      refine e_iconst (v := 1) aL_deal_98 (by decide) ?_
      refine e_iload_n aL_deal_99 rfl ?_
      refine e_iastoreF aL_deal_100 (is_nsW h32) (if_pos rfl) (vin (n := 1) (N := 6) (by decide)) ?_
      refine e_dup aL_deal_101 rfl ?_
      refine e_iconst (v := 2) aL_deal_102 (by decide) ?_
      refine e_iload_n aL_deal_103 rfl ?_
      refine e_iconst (v := 1) aL_deal_104 (by decide) ?_
      refine e_iadd aL_deal_105 ?_
      refine e_iload_n aL_deal_106 rfl ?_
      refine e_bipush (v := 10) aL_deal_107 (by decide) ?_
      refine e_ishr aL_deal_109 ?_
      refine e_iconst (v := 1) aL_deal_110 (by decide) ?_
      refine e_iand aL_deal_111 ?_
      obtain ⟨b1, hb1, e111⟩ := shx (x := x) (k := 10)
      refine e_top (v := nI b1) e111 ?_
      refine e_iadd aL_deal_112 ?_
      refine e_iconst (v := 3) aL_deal_113 (by decide) ?_
      refine e_irem aL_deal_114 (by decide) ?_
      refine e_top (nI_m3 ha hb1) ?_
      refine e_iastoreF aL_deal_115 (is_nsW h32) (if_pos rfl) (vin (n := 2) (N := 6) (by decide)) ?_
      refine e_dup aL_deal_116 rfl ?_
      refine e_iconst (v := 3) aL_deal_117 (by decide) ?_
      refine e_iload aL_deal_118 rfl ?_
      refine e_iastoreF aL_deal_120 (is_nsW h32) (if_pos rfl) (vin (n := 3) (N := 6) (by decide)) ?_
      refine e_dup aL_deal_121 rfl ?_
      refine e_iconst (v := 4) aL_deal_122 (by decide) ?_
      refine e_iload aL_deal_123 rfl ?_
      refine e_if_eq aL_deal_125 (fun c125 => absurd c125 (by decide)) (fun c125 => ?_)
      refine e_iload aL_deal_128 rfl ?_
      refine e_iconst (v := 3) aL_deal_130 (by decide) ?_
      refine e_idiv aL_deal_131 (by decide) ?_
      refine e_top (nI_div (b := 3) (by omega) (by decide) (by decide)) ?_
      refine e_iconst (v := 3) aL_deal_132 (by decide) ?_
      refine e_imul aL_deal_133 ?_
      refine e_top (nI_mul (p / 3) 3) ?_
      refine e_iload aL_deal_134 rfl ?_
      refine e_iconst (v := 3) aL_deal_136 (by decide) ?_
      refine e_irem aL_deal_137 (by decide) ?_
      refine e_top (nI_rem (b := 3) (by omega) (by decide) (by decide)) ?_
      refine e_iconst (v := 1) aL_deal_138 (by decide) ?_
      refine e_iadd aL_deal_139 ?_
      refine e_iload_n aL_deal_140 rfl ?_
      refine e_bipush (v := 11) aL_deal_141 (by decide) ?_
      refine e_ishr aL_deal_143 ?_
      refine e_iconst (v := 1) aL_deal_144 (by decide) ?_
      refine e_iand aL_deal_145 ?_
      obtain ⟨b2, hb2, e145⟩ := shx (x := x) (k := 11)
      refine e_top (v := nI b2) e145 ?_
      refine e_iadd aL_deal_146 ?_
      refine e_iconst (v := 3) aL_deal_147 (by decide) ?_
      refine e_irem aL_deal_148 (by decide) ?_
      refine e_top (nI_m3 (Nat.mod_lt p (by decide)) hb2) ?_
      refine e_iadd aL_deal_149 ?_
      refine e_top (nI_add _ _) ?_
      refine e_goto aL_deal_150 ?_
      refine e_iastoreF aL_deal_154 (is_nsW h32) (if_pos rfl) (vin (n := 4) (N := 6) (by decide)) ?_
      refine e_dup aL_deal_155 rfl ?_
      refine e_iconst (v := 5) aL_deal_156 (by decide) ?_
      refine e_iload_n aL_deal_157 rfl ?_
      refine e_if_eq aL_deal_158 (fun c158 => ?_) (fun c158 => ?_)
      · -- 158: taken
        have q158 : k = 0 := (nI_eq (a := k) (b := 0) (by omega) (by decide)).mp c158
        refine e_iconst (v := 0) aL_deal_166 (by decide) ?_
        refine e_goto aL_deal_167 ?_
        refine e_iastoreF aL_deal_178 (is_nsW h32) (if_pos rfl) (vin (n := 5) (N := 6) (by decide)) ?_
        refine e_areturnA aL_deal_179 rfl (Nat.le_of_ble_eq_true rfl) (Nat.le_of_ble_eq_true rfl) ?_
        exact ⟨rfl, dl_G, dNo k a ((a + 1 + b1) % 3) p (some (p / 3 * 3 + (p % 3 + 1 + b2) % 3)) 0, dl_F F (dWf_mk hk ha (by omega) (by omega) hp (by simp; omega) (by intro v hv; cases hv; omega) (by omega) (by omega))⟩
      · -- 158: not taken
        have q158 : ¬ k = 0 := fun z => c158 (by rw [z]; rfl)
        refine e_iload_n aL_deal_161 rfl ?_
        refine e_iconst (v := 2) aL_deal_162 (by decide) ?_
        refine e_icmp_ne aL_deal_163 (fun c163 => ?_) (fun c163 => ?_)
        · -- 163: taken
          have q163 : ¬ k = 2 := fun z => c163 (by rw [z]; rfl)
          refine e_iconst (v := 1) aL_deal_170 (by decide) ?_
          refine e_iload_n aL_deal_171 rfl ?_
          refine e_bipush (v := 12) aL_deal_172 (by decide) ?_
          refine e_ishr aL_deal_174 ?_
          refine e_iconst (v := 1) aL_deal_175 (by decide) ?_
          refine e_iand aL_deal_176 ?_
          obtain ⟨b3, hb3, e176⟩ := shx (x := x) (k := 12)
          refine e_top (v := nI b3) e176 ?_
          refine e_iadd aL_deal_177 ?_
          refine e_top (nI_add 1 b3) ?_
          refine e_iastoreF aL_deal_178 (is_nsW h32) (if_pos rfl) (vin (n := 5) (N := 6) (by decide)) ?_
          refine e_areturnA aL_deal_179 rfl (Nat.le_of_ble_eq_true rfl) (Nat.le_of_ble_eq_true rfl) ?_
          exact ⟨rfl, dl_G, dNo k a ((a + 1 + b1) % 3) p (some (p / 3 * 3 + (p % 3 + 1 + b2) % 3)) (1 + b3), dl_F F (dWf_mk hk ha (by omega) (by omega) hp (by simp; omega) (by intro v hv; cases hv; omega) (by omega) (by omega))⟩
        · -- 163: not taken
          have q163 : k = 2 := (nI_eq (a := k) (b := 2) (by omega) (by decide)).mp c163
          refine e_iconst (v := 0) aL_deal_166 (by decide) ?_
          refine e_goto aL_deal_167 ?_
          refine e_iastoreF aL_deal_178 (is_nsW h32) (if_pos rfl) (vin (n := 5) (N := 6) (by decide)) ?_
          refine e_areturnA aL_deal_179 rfl (Nat.le_of_ble_eq_true rfl) (Nat.le_of_ble_eq_true rfl) ?_
          exact ⟨rfl, dl_G, dNo k a ((a + 1 + b1) % 3) p (some (p / 3 * 3 + (p % 3 + 1 + b2) % 3)) 0, dl_F F (dWf_mk hk ha (by omega) (by omega) hp (by simp; omega) (by intro v hv; cases hv; omega) (by omega) (by omega))⟩
    · -- 74: not taken
      have q74 : ¬ k = 2 := fun z => c74 (by rw [z]; rfl)
      refine e_iload_n aL_deal_77 rfl ?_
      refine e_iconst (v := 5) aL_deal_78 (by decide) ?_
      refine e_icmp_ne aL_deal_79 (fun c79 => ?_) (fun c79 => ?_)
      · -- 79: taken
        have q79 : ¬ k = 5 := fun z => c79 (by rw [z]; rfl)
        refine e_iconst (v := 0) aL_deal_86 (by decide) ?_
        refine e_istore aL_deal_87 (Nat.le_of_ble_eq_true rfl) ?_
        refine e_bipush (v := 6) aL_deal_89 (by decide) ?_
        refine e_newI aL_deal_91 wa_int (by decide) rfl (Nat.le_of_ble_eq_true rfl) (Nat.le_of_ble_eq_true rfl) (Nat.le_of_ble_eq_true rfl) ?_
        refine e_dup aL_deal_93 rfl ?_
        refine e_iconst (v := 0) aL_deal_94 (by decide) ?_
        refine e_iload_n aL_deal_95 rfl ?_
        refine e_iastoreF aL_deal_96 (is_nsW h32) (if_pos rfl) (vin (n := 0) (N := 6) (by decide)) ?_
        refine e_dup aL_deal_97 rfl ?_
        refine e_iconst (v := 1) aL_deal_98 (by decide) ?_
        refine e_iload_n aL_deal_99 rfl ?_
        refine e_iastoreF aL_deal_100 (is_nsW h32) (if_pos rfl) (vin (n := 1) (N := 6) (by decide)) ?_
        refine e_dup aL_deal_101 rfl ?_
        refine e_iconst (v := 2) aL_deal_102 (by decide) ?_
        refine e_iload_n aL_deal_103 rfl ?_
        refine e_iconst (v := 1) aL_deal_104 (by decide) ?_
        refine e_iadd aL_deal_105 ?_
        refine e_iload_n aL_deal_106 rfl ?_
        refine e_bipush (v := 10) aL_deal_107 (by decide) ?_
        refine e_ishr aL_deal_109 ?_
        refine e_iconst (v := 1) aL_deal_110 (by decide) ?_
        refine e_iand aL_deal_111 ?_
        obtain ⟨b1, hb1, e111⟩ := shx (x := x) (k := 10)
        refine e_top (v := nI b1) e111 ?_
        refine e_iadd aL_deal_112 ?_
        refine e_iconst (v := 3) aL_deal_113 (by decide) ?_
        refine e_irem aL_deal_114 (by decide) ?_
        refine e_top (nI_m3 ha hb1) ?_
        refine e_iastoreF aL_deal_115 (is_nsW h32) (if_pos rfl) (vin (n := 2) (N := 6) (by decide)) ?_
        refine e_dup aL_deal_116 rfl ?_
        refine e_iconst (v := 3) aL_deal_117 (by decide) ?_
        refine e_iload aL_deal_118 rfl ?_
        refine e_iastoreF aL_deal_120 (is_nsW h32) (if_pos rfl) (vin (n := 3) (N := 6) (by decide)) ?_
        refine e_dup aL_deal_121 rfl ?_
        refine e_iconst (v := 4) aL_deal_122 (by decide) ?_
        refine e_iload aL_deal_123 rfl ?_
        refine e_if_eq aL_deal_125 (fun c125 => ?_) (fun c125 => absurd c125 (by decide))
        refine e_iconst (v := -1) aL_deal_153 (by decide) ?_
        refine e_iastoreF aL_deal_154 (is_nsW h32) (if_pos rfl) (vin (n := 4) (N := 6) (by decide)) ?_
        refine e_dup aL_deal_155 rfl ?_
        refine e_iconst (v := 5) aL_deal_156 (by decide) ?_
        refine e_iload_n aL_deal_157 rfl ?_
        refine e_if_eq aL_deal_158 (fun c158 => ?_) (fun c158 => ?_)
        · -- 158: taken
          have q158 : k = 0 := (nI_eq (a := k) (b := 0) (by omega) (by decide)).mp c158
          refine e_iconst (v := 0) aL_deal_166 (by decide) ?_
          refine e_goto aL_deal_167 ?_
          refine e_iastoreF aL_deal_178 (is_nsW h32) (if_pos rfl) (vin (n := 5) (N := 6) (by decide)) ?_
          refine e_areturnA aL_deal_179 rfl (Nat.le_of_ble_eq_true rfl) (Nat.le_of_ble_eq_true rfl) ?_
          exact ⟨rfl, dl_G, dNo k a ((a + 1 + b1) % 3) p none 0, dl_F F (dWf_mk hk ha (by omega) (by omega) hp (by simp; omega) (by intro v hv; cases hv) (by omega) (by omega))⟩
        · -- 158: not taken
          have q158 : ¬ k = 0 := fun z => c158 (by rw [z]; rfl)
          refine e_iload_n aL_deal_161 rfl ?_
          refine e_iconst (v := 2) aL_deal_162 (by decide) ?_
          refine e_icmp_ne aL_deal_163 (fun c163 => ?_) (fun c163 => ?_)
          · -- 163: taken
            have q163 : ¬ k = 2 := fun z => c163 (by rw [z]; rfl)
            refine e_iconst (v := 1) aL_deal_170 (by decide) ?_
            refine e_iload_n aL_deal_171 rfl ?_
            refine e_bipush (v := 12) aL_deal_172 (by decide) ?_
            refine e_ishr aL_deal_174 ?_
            refine e_iconst (v := 1) aL_deal_175 (by decide) ?_
            refine e_iand aL_deal_176 ?_
            obtain ⟨b3, hb3, e176⟩ := shx (x := x) (k := 12)
            refine e_top (v := nI b3) e176 ?_
            refine e_iadd aL_deal_177 ?_
            refine e_top (nI_add 1 b3) ?_
            refine e_iastoreF aL_deal_178 (is_nsW h32) (if_pos rfl) (vin (n := 5) (N := 6) (by decide)) ?_
            refine e_areturnA aL_deal_179 rfl (Nat.le_of_ble_eq_true rfl) (Nat.le_of_ble_eq_true rfl) ?_
            exact ⟨rfl, dl_G, dNo k a ((a + 1 + b1) % 3) p none (1 + b3), dl_F F (dWf_mk hk ha (by omega) (by omega) hp (by simp; omega) (by intro v hv; cases hv) (by omega) (by omega))⟩
          · -- 163: not taken
            have q163 : k = 2 := (nI_eq (a := k) (b := 2) (by omega) (by decide)).mp c163
            refine e_iconst (v := 0) aL_deal_166 (by decide) ?_
            refine e_goto aL_deal_167 ?_
            refine e_iastoreF aL_deal_178 (is_nsW h32) (if_pos rfl) (vin (n := 5) (N := 6) (by decide)) ?_
            refine e_areturnA aL_deal_179 rfl (Nat.le_of_ble_eq_true rfl) (Nat.le_of_ble_eq_true rfl) ?_
            exact ⟨rfl, dl_G, dNo k a ((a + 1 + b1) % 3) p none 0, dl_F F (dWf_mk hk ha (by omega) (by omega) hp (by simp; omega) (by intro v hv; cases hv) (by omega) (by omega))⟩
      · -- 79: not taken
        have q79 : k = 5 := (nI_eq (a := k) (b := 5) (by omega) (by decide)).mp c79
        refine e_iconst (v := 1) aL_deal_82 (by decide) ?_
        refine e_goto aL_deal_83 ?_
        refine e_istore aL_deal_87 (Nat.le_of_ble_eq_true rfl) ?_
        refine e_bipush (v := 6) aL_deal_89 (by decide) ?_
        refine e_newI aL_deal_91 wa_int (by decide) rfl (Nat.le_of_ble_eq_true rfl) (Nat.le_of_ble_eq_true rfl) (Nat.le_of_ble_eq_true rfl) ?_
        refine e_dup aL_deal_93 rfl ?_
        refine e_iconst (v := 0) aL_deal_94 (by decide) ?_
        refine e_iload_n aL_deal_95 rfl ?_
        refine e_iastoreF aL_deal_96 (is_nsW h32) (if_pos rfl) (vin (n := 0) (N := 6) (by decide)) ?_
        refine e_dup aL_deal_97 rfl ?_
        refine e_iconst (v := 1) aL_deal_98 (by decide) ?_
        refine e_iload_n aL_deal_99 rfl ?_
        refine e_iastoreF aL_deal_100 (is_nsW h32) (if_pos rfl) (vin (n := 1) (N := 6) (by decide)) ?_
        refine e_dup aL_deal_101 rfl ?_
        refine e_iconst (v := 2) aL_deal_102 (by decide) ?_
        refine e_iload_n aL_deal_103 rfl ?_
        refine e_iconst (v := 1) aL_deal_104 (by decide) ?_
        refine e_iadd aL_deal_105 ?_
        refine e_iload_n aL_deal_106 rfl ?_
        refine e_bipush (v := 10) aL_deal_107 (by decide) ?_
        refine e_ishr aL_deal_109 ?_
        refine e_iconst (v := 1) aL_deal_110 (by decide) ?_
        refine e_iand aL_deal_111 ?_
        obtain ⟨b1, hb1, e111⟩ := shx (x := x) (k := 10)
        refine e_top (v := nI b1) e111 ?_
        refine e_iadd aL_deal_112 ?_
        refine e_iconst (v := 3) aL_deal_113 (by decide) ?_
        refine e_irem aL_deal_114 (by decide) ?_
        refine e_top (nI_m3 ha hb1) ?_
        refine e_iastoreF aL_deal_115 (is_nsW h32) (if_pos rfl) (vin (n := 2) (N := 6) (by decide)) ?_
        refine e_dup aL_deal_116 rfl ?_
        refine e_iconst (v := 3) aL_deal_117 (by decide) ?_
        refine e_iload aL_deal_118 rfl ?_
        refine e_iastoreF aL_deal_120 (is_nsW h32) (if_pos rfl) (vin (n := 3) (N := 6) (by decide)) ?_
        refine e_dup aL_deal_121 rfl ?_
        refine e_iconst (v := 4) aL_deal_122 (by decide) ?_
        refine e_iload aL_deal_123 rfl ?_
        refine e_if_eq aL_deal_125 (fun c125 => absurd c125 (by decide)) (fun c125 => ?_)
        refine e_iload aL_deal_128 rfl ?_
        refine e_iconst (v := 3) aL_deal_130 (by decide) ?_
        refine e_idiv aL_deal_131 (by decide) ?_
        refine e_top (nI_div (b := 3) (by omega) (by decide) (by decide)) ?_
        refine e_iconst (v := 3) aL_deal_132 (by decide) ?_
        refine e_imul aL_deal_133 ?_
        refine e_top (nI_mul (p / 3) 3) ?_
        refine e_iload aL_deal_134 rfl ?_
        refine e_iconst (v := 3) aL_deal_136 (by decide) ?_
        refine e_irem aL_deal_137 (by decide) ?_
        refine e_top (nI_rem (b := 3) (by omega) (by decide) (by decide)) ?_
        refine e_iconst (v := 1) aL_deal_138 (by decide) ?_
        refine e_iadd aL_deal_139 ?_
        refine e_iload_n aL_deal_140 rfl ?_
        refine e_bipush (v := 11) aL_deal_141 (by decide) ?_
        refine e_ishr aL_deal_143 ?_
        refine e_iconst (v := 1) aL_deal_144 (by decide) ?_
        refine e_iand aL_deal_145 ?_
        obtain ⟨b2, hb2, e145⟩ := shx (x := x) (k := 11)
        refine e_top (v := nI b2) e145 ?_
        refine e_iadd aL_deal_146 ?_
        refine e_iconst (v := 3) aL_deal_147 (by decide) ?_
        refine e_irem aL_deal_148 (by decide) ?_
        refine e_top (nI_m3 (Nat.mod_lt p (by decide)) hb2) ?_
        refine e_iadd aL_deal_149 ?_
        refine e_top (nI_add _ _) ?_
        refine e_goto aL_deal_150 ?_
        refine e_iastoreF aL_deal_154 (is_nsW h32) (if_pos rfl) (vin (n := 4) (N := 6) (by decide)) ?_
        refine e_dup aL_deal_155 rfl ?_
        refine e_iconst (v := 5) aL_deal_156 (by decide) ?_
        refine e_iload_n aL_deal_157 rfl ?_
        refine e_if_eq aL_deal_158 (fun c158 => ?_) (fun c158 => ?_)
        · -- 158: taken
          have q158 : k = 0 := (nI_eq (a := k) (b := 0) (by omega) (by decide)).mp c158
          refine e_iconst (v := 0) aL_deal_166 (by decide) ?_
          refine e_goto aL_deal_167 ?_
          refine e_iastoreF aL_deal_178 (is_nsW h32) (if_pos rfl) (vin (n := 5) (N := 6) (by decide)) ?_
          refine e_areturnA aL_deal_179 rfl (Nat.le_of_ble_eq_true rfl) (Nat.le_of_ble_eq_true rfl) ?_
          exact ⟨rfl, dl_G, dNo k a ((a + 1 + b1) % 3) p (some (p / 3 * 3 + (p % 3 + 1 + b2) % 3)) 0, dl_F F (dWf_mk hk ha (by omega) (by omega) hp (by simp; omega) (by intro v hv; cases hv; omega) (by omega) (by omega))⟩
        · -- 158: not taken
          have q158 : ¬ k = 0 := fun z => c158 (by rw [z]; rfl)
          refine e_iload_n aL_deal_161 rfl ?_
          refine e_iconst (v := 2) aL_deal_162 (by decide) ?_
          refine e_icmp_ne aL_deal_163 (fun c163 => ?_) (fun c163 => ?_)
          · -- 163: taken
            have q163 : ¬ k = 2 := fun z => c163 (by rw [z]; rfl)
            refine e_iconst (v := 1) aL_deal_170 (by decide) ?_
            refine e_iload_n aL_deal_171 rfl ?_
            refine e_bipush (v := 12) aL_deal_172 (by decide) ?_
            refine e_ishr aL_deal_174 ?_
            refine e_iconst (v := 1) aL_deal_175 (by decide) ?_
            refine e_iand aL_deal_176 ?_
            obtain ⟨b3, hb3, e176⟩ := shx (x := x) (k := 12)
            refine e_top (v := nI b3) e176 ?_
            refine e_iadd aL_deal_177 ?_
            refine e_top (nI_add 1 b3) ?_
            refine e_iastoreF aL_deal_178 (is_nsW h32) (if_pos rfl) (vin (n := 5) (N := 6) (by decide)) ?_
            refine e_areturnA aL_deal_179 rfl (Nat.le_of_ble_eq_true rfl) (Nat.le_of_ble_eq_true rfl) ?_
            exact ⟨rfl, dl_G, dNo k a ((a + 1 + b1) % 3) p (some (p / 3 * 3 + (p % 3 + 1 + b2) % 3)) (1 + b3), dl_F F (dWf_mk hk ha (by omega) (by omega) hp (by simp; omega) (by intro v hv; cases hv; omega) (by omega) (by omega))⟩
          · -- 163: not taken
            have q163 : k = 2 := (nI_eq (a := k) (b := 2) (by omega) (by decide)).mp c163
            refine e_iconst (v := 0) aL_deal_166 (by decide) ?_
            refine e_goto aL_deal_167 ?_
            refine e_iastoreF aL_deal_178 (is_nsW h32) (if_pos rfl) (vin (n := 5) (N := 6) (by decide)) ?_
            refine e_areturnA aL_deal_179 rfl (Nat.le_of_ble_eq_true rfl) (Nat.le_of_ble_eq_true rfl) ?_
            exact ⟨rfl, dl_G, dNo k a ((a + 1 + b1) % 3) p (some (p / 3 * 3 + (p % 3 + 1 + b2) % 3)) 0, dl_F F (dWf_mk hk ha (by omega) (by omega) hp (by simp; omega) (by intro v hv; cases hv; omega) (by omega) (by omega))⟩
  refine e_iload_n aL_deal_0 rfl ?_
  refine e_bipush (v := 6) aL_deal_1 (by decide) ?_
  refine e_invs aL_deal_3 kL_18 (zL_mod X (v := x) (m := 6) (by decide) (by decide)) rfl rfl (Nat.le_of_ble_eq_true rfl) (Nat.le_of_ble_eq_true rfl) (Nat.le_of_ble_eq_true rfl) (Nat.le_of_ble_eq_true rfl) (Nat.le_of_ble_eq_true rfl) ?_
  rintro v h2 ⟨q, hq6, rfl, rfl⟩
  refine e_istore_n aL_deal_6 (Nat.le_of_ble_eq_true rfl) ?_
  refine e_iload_n aL_deal_7 rfl ?_
  refine e_if_ne aL_deal_8 (fun c8 => ?_) (fun c8 => ?_)
  · -- 8: taken
    skip
    refine e_iload_n aL_deal_15 rfl ?_
    refine e_iconst (v := 1) aL_deal_16 (by decide) ?_
    refine e_icmp_ne aL_deal_17 (fun c17 => ?_) (fun c17 => ?_)
    · -- 17: taken
      skip
      refine e_iload_n aL_deal_24 rfl ?_
      refine e_iconst (v := 2) aL_deal_25 (by decide) ?_
      refine e_icmp_ne aL_deal_26 (fun c26 => ?_) (fun c26 => ?_)
      · -- 26: taken
        skip
        refine e_iload_n aL_deal_33 rfl ?_
        refine e_iconst (v := 3) aL_deal_34 (by decide) ?_
        refine e_icmp_ne aL_deal_35 (fun c35 => ?_) (fun c35 => ?_)
        · -- 35: taken
          skip
          refine e_iload_n aL_deal_42 rfl ?_
          refine e_iconst (v := 4) aL_deal_43 (by decide) ?_
          refine e_icmp_ne aL_deal_44 (fun c44 => ?_) (fun c44 => ?_)
          · -- 44: taken
            skip
            refine e_iconst (v := 5) aL_deal_51 (by decide) ?_
            refine e_istore_n aL_deal_52 (Nat.le_of_ble_eq_true rfl) ?_
            refine e_ls (ls' := [(0, some (vI x)), (2, some (vI (nI 5)))]) ⟨rfl, rfl, trivial⟩ ?_
            exact mid 5 (by decide)
          · -- 44: not taken
            skip
            refine e_iconst (v := 2) aL_deal_47 (by decide) ?_
            refine e_goto aL_deal_48 ?_
            refine e_istore_n aL_deal_52 (Nat.le_of_ble_eq_true rfl) ?_
            refine e_ls (ls' := [(0, some (vI x)), (2, some (vI (nI 2)))]) ⟨rfl, rfl, trivial⟩ ?_
            exact mid 2 (by decide)
        · -- 35: not taken
          skip
          refine e_iconst (v := 4) aL_deal_38 (by decide) ?_
          refine e_goto aL_deal_39 ?_
          refine e_istore_n aL_deal_52 (Nat.le_of_ble_eq_true rfl) ?_
          refine e_ls (ls' := [(0, some (vI x)), (2, some (vI (nI 4)))]) ⟨rfl, rfl, trivial⟩ ?_
          exact mid 4 (by decide)
      · -- 26: not taken
        skip
        refine e_iconst (v := 3) aL_deal_29 (by decide) ?_
        refine e_goto aL_deal_30 ?_
        refine e_istore_n aL_deal_52 (Nat.le_of_ble_eq_true rfl) ?_
        refine e_ls (ls' := [(0, some (vI x)), (2, some (vI (nI 3)))]) ⟨rfl, rfl, trivial⟩ ?_
        exact mid 3 (by decide)
    · -- 17: not taken
      skip
      refine e_iconst (v := 1) aL_deal_20 (by decide) ?_
      refine e_goto aL_deal_21 ?_
      refine e_istore_n aL_deal_52 (Nat.le_of_ble_eq_true rfl) ?_
      refine e_ls (ls' := [(0, some (vI x)), (2, some (vI (nI 1)))]) ⟨rfl, rfl, trivial⟩ ?_
      exact mid 1 (by decide)
  · -- 8: not taken
    skip
    refine e_iconst (v := 0) aL_deal_11 (by decide) ?_
    refine e_goto aL_deal_12 ?_
    refine e_istore_n aL_deal_52 (Nat.le_of_ble_eq_true rfl) ?_
    refine e_ls (ls' := [(0, some (vI x)), (2, some (vI (nI 0)))]) ⟨rfl, rfl, trivial⟩ ?_
    exact mid 0 (by decide)
