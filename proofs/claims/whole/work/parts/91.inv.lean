/-! WHAT HOLDS BETWEEN CALLS (by hand) -/
/-- a Book, as both sides hold it: FALLEN YEARS, deals, their addresses and ids, WORTHS, z -/
def BK : Type := (Nat) × (Nat) × (Nat → Nat) × (Nat → Nat) × (Nat → DD) × (Nat → Int32) × (Int32) × (Nat → Nat)
def BK.f (x : BK) : Nat := (show (Nat) × (Nat) × (Nat → Nat) × (Nat → Nat) × (Nat → DD) × (Nat → Int32) × (Int32) × (Nat → Nat) from x).1
def BK.n (x : BK) : Nat := (show (Nat) × (Nat) × (Nat → Nat) × (Nat → Nat) × (Nat → DD) × (Nat → Int32) × (Int32) × (Nat → Nat) from x).2.1
def BK.o (x : BK) : Nat → Nat := (show (Nat) × (Nat) × (Nat → Nat) × (Nat → Nat) × (Nat → DD) × (Nat → Int32) × (Int32) × (Nat → Nat) from x).2.2.1
def BK.A (x : BK) : Nat → Nat := (show (Nat) × (Nat) × (Nat → Nat) × (Nat → Nat) × (Nat → DD) × (Nat → Int32) × (Int32) × (Nat → Nat) from x).2.2.2.1
def BK.D (x : BK) : Nat → DD := (show (Nat) × (Nat) × (Nat → Nat) × (Nat → Nat) × (Nat → DD) × (Nat → Int32) × (Int32) × (Nat → Nat) from x).2.2.2.2.1
def BK.W (x : BK) : Nat → Int32 := (show (Nat) × (Nat) × (Nat → Nat) × (Nat → Nat) × (Nat → DD) × (Nat → Int32) × (Int32) × (Nat → Nat) from x).2.2.2.2.2.1
def BK.z (x : BK) : Int32 := (show (Nat) × (Nat) × (Nat → Nat) × (Nat → Nat) × (Nat → DD) × (Nat → Int32) × (Int32) × (Nat → Nat) from x).2.2.2.2.2.2.1
def BK.J (x : BK) : Nat → Nat := (show (Nat) × (Nat) × (Nat → Nat) × (Nat → Nat) × (Nat → DD) × (Nat → Int32) × (Int32) × (Nat → Nat) from x).2.2.2.2.2.2.2
def bkK (f : Nat) (n : Nat) (o : Nat → Nat) (A : Nat → Nat) (D : Nat → DD) (W : Nat → Int32) (z : Int32) (J : Nat → Nat) : BK := (f, n, o, A, D, W, z, J)
/-- all that both sides hold -/
def PP : Type := (BK) × (Nat → Int32) × (Nat → Int32) × (Nat) × (Nat → BK) × (Nat) × (Nat → Int32) × (Nat → Int32) × (Nat → Nat) × (Nat → Nat → Int64) × (Nat → Option Nat) × (Nat → DD) × (Nat → Nat) × (Nat) × (Nat → Option Nat)
def PP.b (x : PP) : BK := (show (BK) × (Nat → Int32) × (Nat → Int32) × (Nat) × (Nat → BK) × (Nat) × (Nat → Int32) × (Nat → Int32) × (Nat → Nat) × (Nat → Nat → Int64) × (Nat → Option Nat) × (Nat → DD) × (Nat → Nat) × (Nat) × (Nat → Option Nat) from x).1
def PP.N (x : PP) : Nat → Int32 := (show (BK) × (Nat → Int32) × (Nat → Int32) × (Nat) × (Nat → BK) × (Nat) × (Nat → Int32) × (Nat → Int32) × (Nat → Nat) × (Nat → Nat → Int64) × (Nat → Option Nat) × (Nat → DD) × (Nat → Nat) × (Nat) × (Nat → Option Nat) from x).2.1
def PP.T (x : PP) : Nat → Int32 := (show (BK) × (Nat → Int32) × (Nat → Int32) × (Nat) × (Nat → BK) × (Nat) × (Nat → Int32) × (Nat → Int32) × (Nat → Nat) × (Nat → Nat → Int64) × (Nat → Option Nat) × (Nat → DD) × (Nat → Nat) × (Nat) × (Nat → Option Nat) from x).2.2.1
def PP.g (x : PP) : Nat := (show (BK) × (Nat → Int32) × (Nat → Int32) × (Nat) × (Nat → BK) × (Nat) × (Nat → Int32) × (Nat → Int32) × (Nat → Nat) × (Nat → Nat → Int64) × (Nat → Option Nat) × (Nat → DD) × (Nat → Nat) × (Nat) × (Nat → Option Nat) from x).2.2.2.1
def PP.im (x : PP) : Nat → BK := (show (BK) × (Nat → Int32) × (Nat → Int32) × (Nat) × (Nat → BK) × (Nat) × (Nat → Int32) × (Nat → Int32) × (Nat → Nat) × (Nat → Nat → Int64) × (Nat → Option Nat) × (Nat → DD) × (Nat → Nat) × (Nat) × (Nat → Option Nat) from x).2.2.2.2.1
def PP.l (x : PP) : Nat := (show (BK) × (Nat → Int32) × (Nat → Int32) × (Nat) × (Nat → BK) × (Nat) × (Nat → Int32) × (Nat → Int32) × (Nat → Nat) × (Nat → Nat → Int64) × (Nat → Option Nat) × (Nat → DD) × (Nat → Nat) × (Nat) × (Nat → Option Nat) from x).2.2.2.2.2.1
def PP.bt (x : PP) : Nat → Int32 := (show (BK) × (Nat → Int32) × (Nat → Int32) × (Nat) × (Nat → BK) × (Nat) × (Nat → Int32) × (Nat → Int32) × (Nat → Nat) × (Nat → Nat → Int64) × (Nat → Option Nat) × (Nat → DD) × (Nat → Nat) × (Nat) × (Nat → Option Nat) from x).2.2.2.2.2.2.1
def PP.tS (x : PP) : Nat → Int32 := (show (BK) × (Nat → Int32) × (Nat → Int32) × (Nat) × (Nat → BK) × (Nat) × (Nat → Int32) × (Nat → Int32) × (Nat → Nat) × (Nat → Nat → Int64) × (Nat → Option Nat) × (Nat → DD) × (Nat → Nat) × (Nat) × (Nat → Option Nat) from x).2.2.2.2.2.2.2.1
def PP.qS (x : PP) : Nat → Nat := (show (BK) × (Nat → Int32) × (Nat → Int32) × (Nat) × (Nat → BK) × (Nat) × (Nat → Int32) × (Nat → Int32) × (Nat → Nat) × (Nat → Nat → Int64) × (Nat → Option Nat) × (Nat → DD) × (Nat → Nat) × (Nat) × (Nat → Option Nat) from x).2.2.2.2.2.2.2.2.1
def PP.sL (x : PP) : Nat → Nat → Int64 := (show (BK) × (Nat → Int32) × (Nat → Int32) × (Nat) × (Nat → BK) × (Nat) × (Nat → Int32) × (Nat → Int32) × (Nat → Nat) × (Nat → Nat → Int64) × (Nat → Option Nat) × (Nat → DD) × (Nat → Nat) × (Nat) × (Nat → Option Nat) from x).2.2.2.2.2.2.2.2.2.1
def PP.S (x : PP) : Nat → Option Nat := (show (BK) × (Nat → Int32) × (Nat → Int32) × (Nat) × (Nat → BK) × (Nat) × (Nat → Int32) × (Nat → Int32) × (Nat → Nat) × (Nat → Nat → Int64) × (Nat → Option Nat) × (Nat → DD) × (Nat → Nat) × (Nat) × (Nat → Option Nat) from x).2.2.2.2.2.2.2.2.2.2.1
def PP.E (x : PP) : Nat → DD := (show (BK) × (Nat → Int32) × (Nat → Int32) × (Nat) × (Nat → BK) × (Nat) × (Nat → Int32) × (Nat → Int32) × (Nat → Nat) × (Nat → Nat → Int64) × (Nat → Option Nat) × (Nat → DD) × (Nat → Nat) × (Nat) × (Nat → Option Nat) from x).2.2.2.2.2.2.2.2.2.2.2.1
def PP.SI (x : PP) : Nat → Nat := (show (BK) × (Nat → Int32) × (Nat → Int32) × (Nat) × (Nat → BK) × (Nat) × (Nat → Int32) × (Nat → Int32) × (Nat → Nat) × (Nat → Nat → Int64) × (Nat → Option Nat) × (Nat → DD) × (Nat → Nat) × (Nat) × (Nat → Option Nat) from x).2.2.2.2.2.2.2.2.2.2.2.2.1
def PP.B (x : PP) : Nat := (show (BK) × (Nat → Int32) × (Nat → Int32) × (Nat) × (Nat → BK) × (Nat) × (Nat → Int32) × (Nat → Int32) × (Nat → Nat) × (Nat → Nat → Int64) × (Nat → Option Nat) × (Nat → DD) × (Nat → Nat) × (Nat) × (Nat → Option Nat) from x).2.2.2.2.2.2.2.2.2.2.2.2.2.1
def PP.ID (x : PP) : Nat → Option Nat := (show (BK) × (Nat → Int32) × (Nat → Int32) × (Nat) × (Nat → BK) × (Nat) × (Nat → Int32) × (Nat → Int32) × (Nat → Nat) × (Nat → Nat → Int64) × (Nat → Option Nat) × (Nat → DD) × (Nat → Nat) × (Nat) × (Nat → Option Nat) from x).2.2.2.2.2.2.2.2.2.2.2.2.2.2
def ppK (b : BK) (N : Nat → Int32) (T : Nat → Int32) (g : Nat) (im : Nat → BK) (l : Nat) (bt : Nat → Int32) (tS : Nat → Int32) (qS : Nat → Nat) (sL : Nat → Nat → Int64) (S : Nat → Option Nat) (E : Nat → DD) (SI : Nat → Nat) (B : Nat) (ID : Nat → Option Nat) : PP := (b, N, T, g, im, l, bt, tS, qS, sL, S, E, SI, B, ID)
def CB (h : HP) (a : Nat) (b : BK) : Prop := BkFg h a b.f b.o ∧ BkDg h a b.n b.A b.D ∧ (∀ i, i < 3 → hI h (a + 3) i = b.W i) ∧ hI h a 5 = b.z
def MB (h : HP) (b : BK) : Prop := MkF h b.f b.o ∧ MkD h b.n b.D ∧ (∀ i, i < 3 → hI h 117 i = b.W i) ∧ hI h 109 3 = b.z ∧ MkJ h b.n (fun k => nI (b.J k))
def SpM (h : HP) (i : Nat) (S : Option Nat) (d : DD) (j : Nat) : Prop := match S with
  | none => hI h 128 i = 0
  | some _ => hI h 128 i = 1 ∧ hI h 130 i = nI (dK d) ∧ hI h 129 i = nI j
def IC (P : PP) (h : HP) : Prop := (Fx h) ∧ (CB h 33 P.b) ∧ (Own h P.b.f P.b.o P.b.n P.b.D) ∧ (∀ k, k < 8 → hI h 76 k = P.N k) ∧ (∀ i, i < 3 → hI h 75 i = P.T i) ∧ (hI h 32 2 = nI P.g) ∧ (∀ j, j < P.g → CB h (77 + 4 * j) (P.im j)) ∧ (TpL h P.l) ∧ (∀ i, i < P.l → hI h 42 i = P.bt i) ∧ (ShA h P.tS P.qS) ∧ (∀ s, s < 4 → ∀ i, i < P.qS s → hL h (102 + 2 * s) i = P.sL s i) ∧ (SpC h P.S P.E) ∧ (∀ a j, P.ID a = some j → a < hZ h)
theorem IC.F {P : PP} {h : HP} (k : IC P h) : Fx h := k.1
theorem IC.cb {P : PP} {h : HP} (k : IC P h) : CB h 33 P.b := k.2.1
theorem IC.ow {P : PP} {h : HP} (k : IC P h) : Own h P.b.f P.b.o P.b.n P.b.D := k.2.2.1
theorem IC.fn {P : PP} {h : HP} (k : IC P h) : ∀ k, k < 8 → hI h 76 k = P.N k := k.2.2.2.1
theorem IC.tl {P : PP} {h : HP} (k : IC P h) : ∀ i, i < 3 → hI h 75 i = P.T i := k.2.2.2.2.1
theorem IC.pg {P : PP} {h : HP} (k : IC P h) : hI h 32 2 = nI P.g := k.2.2.2.2.2.1
theorem IC.pi {P : PP} {h : HP} (k : IC P h) : ∀ j, j < P.g → CB h (77 + 4 * j) (P.im j) := k.2.2.2.2.2.2.1
theorem IC.tp {P : PP} {h : HP} (k : IC P h) : TpL h P.l := k.2.2.2.2.2.2.2.1
theorem IC.tb {P : PP} {h : HP} (k : IC P h) : ∀ i, i < P.l → hI h 42 i = P.bt i := k.2.2.2.2.2.2.2.2.1
theorem IC.sh {P : PP} {h : HP} (k : IC P h) : ShA h P.tS P.qS := k.2.2.2.2.2.2.2.2.2.1
theorem IC.sl {P : PP} {h : HP} (k : IC P h) : ∀ s, s < 4 → ∀ i, i < P.qS s → hL h (102 + 2 * s) i = P.sL s i := k.2.2.2.2.2.2.2.2.2.2.1
theorem IC.sp {P : PP} {h : HP} (k : IC P h) : SpC h P.S P.E := k.2.2.2.2.2.2.2.2.2.2.2.1
theorem IC.id {P : PP} {h : HP} (k : IC P h) : ∀ a j, P.ID a = some j → a < hZ h := k.2.2.2.2.2.2.2.2.2.2.2.2
def IM (P : PP) (h : HP) : Prop := (MB h P.b) ∧ (∀ k, k < 8 → hI h 110 k = P.N k) ∧ (∀ i, i < 3 → hI h 114 i = P.T i) ∧ (hI h 109 35 = nI P.g) ∧ (∀ j, j < P.g → ∃ h2, ImE h j h2 ∧ MB h2 (P.im j)) ∧ (TbM h P.l P.bt) ∧ (ShM h P.tS P.qS) ∧ (∀ s, s < 4 → ∀ i, i < P.qS s → hL h 124 (40 * s + i) = P.sL s i) ∧ (∀ i, i < 4 → SpM h i (P.S i) (P.E i) (P.SI i)) ∧ (hI h 109 7 = nI P.B)
theorem IM.mb {P : PP} {h : HP} (k : IM P h) : MB h P.b := k.1
theorem IM.fn {P : PP} {h : HP} (k : IM P h) : ∀ k, k < 8 → hI h 110 k = P.N k := k.2.1
theorem IM.tl {P : PP} {h : HP} (k : IM P h) : ∀ i, i < 3 → hI h 114 i = P.T i := k.2.2.1
theorem IM.pg {P : PP} {h : HP} (k : IM P h) : hI h 109 35 = nI P.g := k.2.2.2.1
theorem IM.pi {P : PP} {h : HP} (k : IM P h) : ∀ j, j < P.g → ∃ h2, ImE h j h2 ∧ MB h2 (P.im j) := k.2.2.2.2.1
theorem IM.tb {P : PP} {h : HP} (k : IM P h) : TbM h P.l P.bt := k.2.2.2.2.2.1
theorem IM.sh {P : PP} {h : HP} (k : IM P h) : ShM h P.tS P.qS := k.2.2.2.2.2.2.1
theorem IM.sl {P : PP} {h : HP} (k : IM P h) : ∀ s, s < 4 → ∀ i, i < P.qS s → hL h 124 (40 * s + i) = P.sL s i := k.2.2.2.2.2.2.2.1
theorem IM.sp {P : PP} {h : HP} (k : IM P h) : ∀ i, i < 4 → SpM h i (P.S i) (P.E i) (P.SI i) := k.2.2.2.2.2.2.2.2.1
theorem IM.bn {P : PP} {h : HP} (k : IM P h) : hI h 109 7 = nI P.B := k.2.2.2.2.2.2.2.2.2
def okB (b : BK) : Prop := ∀ s, fo b.o b.f ≤ s → s < fo b.o b.f + om b.f → okD b.D b.n s
/-- no deal lies twice in a Book -/
def dB9 (b : BK) : Prop := ∀ j k, j < k → k < b.n → ¬ b.A j = b.A k
def PU (P : PP) (c : Nat) : Prop := (P.g ≤ 6) ∧ (okB P.b) ∧ (∀ j, j < P.g → okB (P.im j)) ∧ (∀ k, k < P.b.n → P.ID (P.b.A k) = some (P.b.J k)) ∧ (∀ j, j < P.g → ∀ k, k < (P.im j).n → P.ID ((P.im j).A k) = some ((P.im j).J k)) ∧ (∀ i, i < 4 → ∀ a, P.S i = some a → P.ID a = some (P.SI i)) ∧ (∀ a b j, P.ID a = some j → P.ID b = some j → a = b) ∧ (∀ a j, P.ID a = some j → j < P.B) ∧ (dB9 P.b) ∧ (∀ j, j < P.g → dB9 (P.im j)) ∧ (P.B ≤ 12 * c)
theorem PU.g6 {P : PP} {c : Nat} (k : PU P c) : P.g ≤ 6 := k.1
theorem PU.ok {P : PP} {c : Nat} (k : PU P c) : okB P.b := k.2.1
theorem PU.oki {P : PP} {c : Nat} (k : PU P c) : ∀ j, j < P.g → okB (P.im j) := k.2.2.1
theorem PU.jb {P : PP} {c : Nat} (k : PU P c) : ∀ k, k < P.b.n → P.ID (P.b.A k) = some (P.b.J k) := k.2.2.2.1
theorem PU.ji {P : PP} {c : Nat} (k : PU P c) : ∀ j, j < P.g → ∀ k, k < (P.im j).n → P.ID ((P.im j).A k) = some ((P.im j).J k) := k.2.2.2.2.1
theorem PU.js {P : PP} {c : Nat} (k : PU P c) : ∀ i, i < 4 → ∀ a, P.S i = some a → P.ID a = some (P.SI i) := k.2.2.2.2.2.1
theorem PU.inj {P : PP} {c : Nat} (k : PU P c) : ∀ a b j, P.ID a = some j → P.ID b = some j → a = b := k.2.2.2.2.2.2.1
theorem PU.lt {P : PP} {c : Nat} (k : PU P c) : ∀ a j, P.ID a = some j → j < P.B := k.2.2.2.2.2.2.2.1
theorem PU.aj {P : PP} {c : Nat} (k : PU P c) : dB9 P.b := k.2.2.2.2.2.2.2.2.1
theorem PU.aji {P : PP} {c : Nat} (k : PU P c) : ∀ j, j < P.g → dB9 (P.im j) := k.2.2.2.2.2.2.2.2.2.1
theorem PU.bc {P : PP} {c : Nat} (k : PU P c) : P.B ≤ 12 * c := k.2.2.2.2.2.2.2.2.2.2
def Inv (c : Nat) (h : HP) : Prop := ∃ P, IC P h ∧ IM P h ∧ PU P c
theorem PU.s {P : PP} {c : Nat} (k : PU P c) : PU P (c + 1) := ⟨k.g6, k.ok, k.oki, k.jb, k.ji, k.js, k.inj, k.lt, k.aj, k.aji, by have := k.bc; omega⟩
/-- what a step of the class changes -/
def Kc (M MR : Nat → Nat → Prop) (ML : Nat → Prop) (h h2 : HP) : Prop := (Up h h2) ∧ (Fx h2) ∧ (∀ a, a < 134 → ∀ j, ¬ M a j → hI h2 a j = hI h a j) ∧ (∀ a, a < 134 → ∀ j, ¬ MR a j → hR h2 a j = hR h a j) ∧ (∀ a, a < 134 → ¬ ML a → ∀ j, hL h2 a j = hL h a j)
theorem Kc.up {M MR : Nat → Nat → Prop} {ML : Nat → Prop} {h h2 : HP} (k : Kc M MR ML h h2) : Up h h2 := k.1
theorem Kc.F {M MR : Nat → Nat → Prop} {ML : Nat → Prop} {h h2 : HP} (k : Kc M MR ML h h2) : Fx h2 := k.2.1
theorem Kc.i {M MR : Nat → Nat → Prop} {ML : Nat → Prop} {h h2 : HP} (k : Kc M MR ML h h2) : ∀ a, a < 134 → ∀ j, ¬ M a j → hI h2 a j = hI h a j := k.2.2.1
theorem Kc.r {M MR : Nat → Nat → Prop} {ML : Nat → Prop} {h h2 : HP} (k : Kc M MR ML h h2) : ∀ a, a < 134 → ∀ j, ¬ MR a j → hR h2 a j = hR h a j := k.2.2.2.1
theorem Kc.l {M MR : Nat → Nat → Prop} {ML : Nat → Prop} {h h2 : HP} (k : Kc M MR ML h h2) : ∀ a, a < 134 → ¬ ML a → ∀ j, hL h2 a j = hL h a j := k.2.2.2.2
theorem Kc.rf {h : HP} (F : Fx h) {M MR : Nat → Nat → Prop} {ML : Nat → Prop} : Kc M MR ML h h := ⟨Up.rf h, F, fun _ _ _ _ => rfl, fun _ _ _ _ => rfl, fun _ _ _ _ => rfl⟩
theorem Kc.tr {M MR : Nat → Nat → Prop} {ML : Nat → Prop} {h1 h2 h3 : HP} (a : Kc M MR ML h1 h2) (b : Kc M MR ML h2 h3) : Kc M MR ML h1 h3 := ⟨a.up.tr b.up, b.F, fun x hx j z => (b.i x hx j z).trans (a.i x hx j z), fun x hx j z => (b.r x hx j z).trans (a.r x hx j z), fun x hx z j => (b.l x hx z j).trans (a.l x hx z j)⟩
theorem Kc.wI {M MR : Nat → Nat → Prop} {ML : Nat → Prop} {h h2 : HP} (k : Kc M MR ML h h2) {b j : Nat} {v : Int32} (hb : b < 134) (hm : M b j) : Kc M MR ML h (wI h2 b j v) := ⟨k.up.tr (Up.wI hb), k.F, fun x hx i z => (if_neg (fun q => z (by rw [q.1, q.2]; exact hm))).trans (k.i x hx i z), k.r, k.l⟩
theorem Kc.wL {M MR : Nat → Nat → Prop} {ML : Nat → Prop} {h h2 : HP} (k : Kc M MR ML h h2) {b j : Nat} {v : Int64} (hb : b < 134) (hm : ML b) : Kc M MR ML h (wL h2 b j v) := ⟨k.up.tr (Up.wL hb), k.F, k.i, k.r, fun x hx z i => (if_neg (fun q => z (by rw [q.1]; exact hm))).trans (k.l x hx z i)⟩
theorem Kc.wR {M MR : Nat → Nat → Prop} {ML : Nat → Prop} {h h2 : HP} (k : Kc M MR ML h h2) {b j : Nat} {v : Option Nat} (hb : b < 134) (hF : Fx (wR h2 b j v)) (hm : MR b j) : Kc M MR ML h (wR h2 b j v) := ⟨k.up.tr (Up.wR hb), hF, k.i, fun x hx i z => (if_neg (fun q => z (by rw [q.1, q.2]; exact hm))).trans (k.r x hx i z), k.l⟩
theorem Kc.gb {M MR : Nat → Nat → Prop} {ML : Nat → Prop} {h h2 : HP} (F : Fx h) (g : Gb h h2) : Kc M MR ML h h2 := ⟨g.up, g.F F, fun a ha j _ => ((g.2 a (Nat.lt_of_lt_of_le ha F.1)).1 j).1, fun a ha j _ => ((g.2 a (Nat.lt_of_lt_of_le ha F.1)).1 j).2.2, fun a ha _ j => ((g.2 a (Nat.lt_of_lt_of_le ha F.1)).1 j).2.1⟩
theorem Kc.rx {h h2 : HP} (r : Rx h h2) : Kc (fun a j => (a = 33 ∧ j = 1) ∨ (a = 40 ∧ j = 2) ∨ a = 39 ∨ (a = 41 ∧ (j = 1 ∨ j = 2 ∨ j = 3)) ∨ a = 75 ∨ a = 76) (fun a _ => a = 43 ∨ a = 34) (fun a => 45 ≤ a ∧ a ≤ 72) h h2 := ⟨r.1, r.2.1, fun a ha j z => (r.2.2 a ha j).1 (fun q => z (Or.inl q)) (fun q => z (Or.inr (Or.inl q))) (fun q => z (Or.inr (Or.inr (Or.inl q)))) (fun q => z (Or.inr (Or.inr (Or.inr (Or.inl q))))) (fun q => z (Or.inr (Or.inr (Or.inr (Or.inr (Or.inl q)))))) (fun q => z (Or.inr (Or.inr (Or.inr (Or.inr (Or.inr q)))))), fun a ha j z => (r.2.2 a ha j).2.2 (fun q => z (Or.inl q)) (fun q => z (Or.inr q)), fun a ha z j => (r.2.2 a ha j).2.1 (by have z : ¬ (45 ≤ a ∧ a ≤ 72) := z; omega)⟩
section KC
variable {M MR : Nat → Nat → Prop} {ML : Nat → Prop} {h h2 : HP} {P : PP}
theorem CB.k {a : Nat} {b : BK} (q : CB h a b) (K : Kc M MR ML h h2) (ha : a + 3 < 134) (c : ∀ j, ¬ M a j ∧ ¬ M (a + 2) j ∧ ¬ M (a + 3) j ∧ ¬ MR (a + 1) j) : CB h2 a b := by
  obtain ⟨⟨f1, f2, f3, f4⟩, ⟨d1, d2, d3⟩, w, z⟩ := q
  exact ⟨⟨(K.i _ (by omega) _ (c _).1).trans f1, f2, fun y hy => (K.i _ (by omega) _ (c _).2.1).trans (f3 y hy), f4⟩, ⟨(K.i _ (by omega) _ (c _).1).trans d1, d2, fun k hk => ⟨(K.r _ (by omega) _ (c _).2.2.2).trans (d3 k hk).1, (d3 k hk).2.up K.up⟩⟩, fun i hi => (K.i _ (by omega) _ (c _).2.2.1).trans (w i hi), (K.i _ (by omega) _ (c _).1).trans z⟩
theorem Own.k {f n : Nat} {o : Nat → Nat} {D : Nat → DD} (q : Own h f o n D) (K : Kc M MR ML h h2) (c : ∀ j, ¬ M 39 j) : Own h2 f o n D := fun s h1 h2 p hp => by
  rw [K.i 39 (by decide) s (c s)]
  exact q s h1 h2 p hp
theorem pi.k {g : Nat} {im : Nat → BK} (q : ∀ j, j < g → CB h (77 + 4 * j) (im j)) (hg : g ≤ 6) (K : Kc M MR ML h h2) (c : ∀ a, 77 ≤ a → a < 101 → ∀ j, ¬ M a j ∧ ¬ MR a j) : ∀ j, j < g → CB h2 (77 + 4 * j) (im j) := fun j hj => (q j hj).k K (by omega) (fun i => ⟨(c _ (by omega) (by omega) i).1, (c _ (by omega) (by omega) i).1, (c _ (by omega) (by omega) i).1, (c _ (by omega) (by omega) i).2⟩)
theorem ShA.k {tS : Nat → Int32} {qS : Nat → Nat} (q : ShA h tS qS) (K : Kc M MR ML h h2) (c : ∀ a, 101 ≤ a → a < 109 → ∀ j, ¬ M a j) : ShA h2 tS qS := fun s hs => by
  obtain ⟨a, b, d, e⟩ := q s hs
  exact ⟨(K.i _ (by omega) _ (c _ (by omega) (by omega) _)).trans a, b, (K.i _ (by omega) _ (c _ (by omega) (by omega) _)).trans d, e⟩
theorem SpC.k {S : Nat → Option Nat} {E : Nat → DD} (q : SpC h S E) (K : Kc M MR ML h h2) (c : ∀ j, ¬ MR 74 j) : SpC h2 S E := fun i hi => ⟨(K.r 74 (by decide) i (c i)).trans (q i hi).1, fun a ha => ((q i hi).2 a ha).up K.up⟩
/-- a step of the class that changes nothing of what both sides hold -/
theorem IC.k (q : IC P h) (hg : P.g ≤ 6) (K : Kc M MR ML h h2) (c : ∀ a, ¬ (109 ≤ a) → ∀ j, (M a j → a = 40 ∨ (a = 41 ∧ j ≠ 1)) ∧ (MR a j → a = 43)) (cl9 : ∀ a, 101 ≤ a → a < 109 → ¬ ML a) : IC P h2 := by
  have c1 : ∀ a, a < 109 → a ≠ 40 → a ≠ 41 → ∀ j, ¬ M a j := fun a h1 h2 h3 j z => by have := (c a (by omega) j).1 z; omega
  have c2 : ∀ a, a < 109 → a ≠ 43 → ∀ j, ¬ MR a j := fun a h1 h2 j z => h2 ((c a (by omega) j).2 z)
  exact ⟨K.F, q.cb.k K (by decide) (fun j => ⟨c1 _ (by decide) (by decide) (by decide) j, c1 _ (by decide) (by decide) (by decide) j, c1 _ (by decide) (by decide) (by decide) j, c2 _ (by decide) (by decide) j⟩), q.ow.k K (c1 _ (by decide) (by decide) (by decide)), fun k hk => (K.i _ (by decide) _ (c1 _ (by decide) (by decide) (by decide) _)).trans (q.fn k hk), fun k hk => (K.i _ (by decide) _ (c1 _ (by decide) (by decide) (by decide) _)).trans (q.tl k hk), (K.i _ (by decide) _ (c1 _ (by decide) (by decide) (by decide) _)).trans q.pg, pi.k q.pi hg K (fun a h1 h2 j => ⟨c1 a (by omega) (by omega) (by omega) j, c2 a (by omega) (by omega) j⟩), ⟨(K.i _ (by decide) _ (fun z => by have := (c 41 (by decide) 1).1 z; omega)).trans q.tp.1, q.tp.2⟩, fun i hi => (K.i _ (by decide) _ (c1 _ (by decide) (by decide) (by decide) _)).trans (q.tb i hi), q.sh.k K (fun a h1 h2 j => c1 a (by omega) (by omega) (by omega) j), fun s hs i hi => (K.l _ (by omega) (cl9 _ (by omega) (by omega)) _).trans (q.sl s hs i hi), q.sp.k K (c2 _ (by decide) (by decide)), fun a j e => Nat.lt_of_lt_of_le (q.id a j e) K.up.1⟩
end KC
/-- a step of the reference leaves the class's side -/
theorem IC.fr {P : PP} {h h2 : HP} (q : IC P h) (hg : P.g ≤ 6) (e2 : h2.2.2 = h.2.2) (eI : ∀ a, ¬ (109 ≤ a ∧ a < 134) → ∀ i, hI h2 a i = hI h a i) (eL : ∀ a, ¬ (109 ≤ a ∧ a < 134) → ∀ i, hL h2 a i = hL h a i) : IC P h2 := by
  have eR : ∀ a i, hR h2 a i = hR h a i := fun a i => congrFun (congrFun (congrArg (fun z => z.1) e2) a) i
  have eZ : hZ h2 = hZ h := congrArg (fun z => z.2.2.2) e2
  have K : Kc (fun a _ => 109 ≤ a) (fun _ _ => False) (fun a => 109 ≤ a) h h2 := ⟨⟨Nat.le_of_eq eZ.symm, fun a h1 _ => ⟨fun i => ⟨eI a (by omega) i, eL a (by omega) i, eR a i⟩, congrFun (congrArg (fun z => z.2.1) e2) a, congrFun (congrArg (fun z => z.2.2.1) e2) a⟩⟩, by unfold Fx; rw [e2]; exact q.F, fun a h1 j z => eI a (fun y => z y.1) j, fun a _ j _ => eR a j, fun a h1 z j => eL a (fun y => z y.1) j⟩
  exact q.k hg K (fun a h1 j => ⟨fun z => absurd z h1, fun z => z.elim⟩) (fun a _ h2 z => by have z : 109 ≤ a := z; omega)
/-- places of the reference's that hold nothing between calls -/
def scr (a i : Nat) : Prop := a = 115 ∨ a = 116 ∨ a = 119 ∨ a = 120 ∨ a = 126 ∨ a = 127 ∨ (a = 109 ∧ (i = 11 ∨ i = 15 ∨ i = 16 ∨ i = 18 ∨ i = 19 ∨ i = 20 ∨ i = 21 ∨ i = 23))
theorem MB.go {h h2 : HP} {b : BK} (q : MB h b) (e : ∀ a i, (a = 109 ∧ (i = 1 ∨ i = 3 ∨ i = 4)) ∨ a = 111 ∨ a = 112 ∨ a = 113 ∨ a = 117 → hI h2 a i = hI h a i) : MB h2 b := by
  obtain ⟨⟨f1, f2, f3, f4⟩, d, w, z, j⟩ := q
  exact ⟨⟨(e _ _ (by omega)).trans f1, f2, fun y hy => (e _ _ (by omega)).trans (f3 y hy), f4⟩, d.keep ((e _ _ (by omega)).trans d.1) (fun i _ => e _ _ (by omega)) (fun i _ => e _ _ (by omega)), fun i hi => (e _ _ (by omega)).trans (w i hi), (e _ _ (by omega)).trans z, fun k hk => (e _ _ (by omega)).trans (j k hk)⟩
theorem ImE.go {h h2 h3 : HP} {j : Nat} (q : ImE h j h3) (e : ∀ a i, a = 131 ∨ a = 132 ∨ a = 133 → hI h2 a i = hI h a i) : ImE h2 j h3 := by
  unfold ImE at q ⊢
  obtain ⟨a, b, c, d, f, g, w⟩ := q
  exact ⟨fun i hi => (e _ _ (by omega)).trans (a i hi), fun i hi => (e _ _ (by omega)).trans (b i hi), (e _ _ (by omega)).trans c, (e _ _ (by omega)).trans d, (e _ _ (by omega)).trans f, fun i hi => (e _ _ (by omega)).trans (g i hi), fun i hi => (e _ _ (by omega)).trans (w i hi)⟩
theorem TbM.go {h h2 : HP} {l : Nat} {bt : Nat → Int32} (q : TbM h l bt) (e : ∀ a i, (a = 109 ∧ i = 14) ∨ a = 118 ∨ a = 121 → hI h2 a i = hI h a i) : TbM h2 l bt := by
  obtain ⟨a, b, c, d⟩ := q
  exact ⟨(e _ _ (by omega)).trans a, b, fun i hi => ⟨(e _ _ (by omega)).trans (c i hi).1, (c i hi).2⟩, fun i hi => (e _ _ (by omega)).trans (d i hi)⟩
theorem ShM.go {h h2 : HP} {tS : Nat → Int32} {qS : Nat → Nat} (q : ShM h tS qS) (e : ∀ a i, a = 122 ∨ a = 123 → hI h2 a i = hI h a i) : ShM h2 tS qS := fun s hs => by
  obtain ⟨a, b, c, d⟩ := q s hs
  exact ⟨(e _ _ (by omega)).trans a, (e _ _ (by omega)).trans b, c, d⟩
theorem SpM.go {h h2 : HP} {i j : Nat} {S : Option Nat} {d : DD} (q : SpM h i S d j) (e : ∀ a, a = 128 ∨ a = 129 ∨ a = 130 → hI h2 a i = hI h a i) : SpM h2 i S d j := by
  unfold SpM at q ⊢
  cases S with
  | none => exact (e _ (by omega)).trans q
  | some a => exact ⟨(e _ (by omega)).trans q.1, (e _ (by omega)).trans q.2.1, (e _ (by omega)).trans q.2.2⟩
theorem IM.go {P : PP} {h h2 : HP} (q : IM P h) (e : ∀ a i, 109 ≤ a → a < 134 → ¬ scr a i → hI h2 a i = hI h a i) (eL : ∀ i, hL h2 124 i = hL h 124 i) : IM P h2 :=
  ⟨q.mb.go (fun a i z => e a i (by omega) (by omega) (by unfold scr; omega)), fun k hk => (e _ _ (by decide) (by decide) (by unfold scr; omega)).trans (q.fn k hk), fun k hk => (e _ _ (by decide) (by decide) (by unfold scr; omega)).trans (q.tl k hk), (e _ _ (by decide) (by decide) (by unfold scr; omega)).trans q.pg, fun j hj => by
    obtain ⟨h3, a, b⟩ := q.pi j hj
    exact ⟨h3, a.go (fun a i z => e a i (by omega) (by omega) (by unfold scr; omega)), b⟩, q.tb.go (fun a i z => e a i (by omega) (by omega) (by unfold scr; omega)), q.sh.go (fun a i z => e a i (by omega) (by omega) (by unfold scr; omega)), fun s hs i hi => (eL _).trans (q.sl s hs i hi), fun i hi => (q.sp i hi).go (fun a z => e a i (by omega) (by omega) (by unfold scr; omega)), (e _ _ (by decide) (by decide) (by unfold scr; omega)).trans q.bn⟩
/-- a step of the class leaves the reference's side -/
theorem IM.fc {P : PP} {h h2 : HP} (q : IM P h) (e : ∀ a i, 109 ≤ a → a < 134 → hI h2 a i = hI h a i) (eL : ∀ i, hL h2 124 i = hL h 124 i) : IM P h2 := q.go (fun a i h1 h2 _ => e a i h1 h2) eL
theorem IM.kc {P : PP} {h h2 : HP} (q : IM P h) {M MR : Nat → Nat → Prop} {ML : Nat → Prop} (K : Kc M MR ML h h2) (c : ∀ a i, 109 ≤ a → ¬ M a i) (cl9 : ¬ ML 124) : IM P h2 := q.fc (fun a i h1 h2 => K.i a h2 i (c a i h1)) (fun i => K.l 124 (by decide) cl9 i)
/-- scratch of the reference's changed -/
theorem IM.sf {P : PP} {h h2 : HP} (q : IM P h) {S : Nat → Nat → Prop} (s : Sf S h h2) (c : ∀ a i, S a i → scr a i) : IM P h2 := q.go (fun a i _ _ z => s.2 a i (fun y => z (c a i y))) (fun i => congrFun (congrFun (congrArg (fun z => z.1) s.1) 124) i)
theorem IC.sf {P : PP} {h h2 : HP} (q : IC P h) (hg : P.g ≤ 6) {S : Nat → Nat → Prop} (s : Sf S h h2) (c : ∀ a i, S a i → 109 ≤ a ∧ a < 134) : IC P h2 := q.fr hg (congrArg (fun z => z.2) s.1) (fun a z i => s.2 a i (fun y => z (c a i y))) (fun a _ i => congrFun (congrFun (congrArg (fun z => z.1) s.1) a) i)
