/-! pure words: how often a club gives, chains, clashes (pulled by wip/p45/g52.py out of claims/whole) -/
def cvW (d : DD) (s w : Nat) : Option Nat := if w = 0 then gv d s else gb d s
def gwQ (d : DD) (s p c w : Nat) (v : Int32) : Int32 := if cvW d s w = some p ∧ (if w = 0 then dF d else dT d) = c then (if v = -1 then nI (if w = 0 then dT d else dF d) else 3) else v
def gtV (D : Nat → DD) (s p c : Nat) : Nat → Int32
  | 0 => -1
  | k + 1 => gwQ (D k) s p c 1 (gwQ (D k) s p c 0 (gtV D s p c k))
theorem gtV_s {D : Nat → DD} {s p c k : Nat} : gtV D s p c (k + 1) = gwQ (D k) s p c 1 (gwQ (D k) s p c 0 (gtV D s p c k)) := rfl
def chR (G : Nat → Int32) : Nat → Int32 → List Nat → Bool × List Nat
  | 0, _, L => (true, L)
  | m + 1, a, L => if a = -1 ∨ a = 3 then (false, L) else if a.toNatClampNeg ∈ L then (true, L) else chR G m (G a.toNatClampNeg) (L ++ [a.toNatClampNeg])
theorem chR_s {G : Nat → Int32} {m : Nat} {a : Int32} {L : List Nat} : chR G (m + 1) a L = if a = -1 ∨ a = 3 then (false, L) else if a.toNatClampNeg ∈ L then (true, L) else chR G m (G a.toNatClampNeg) (L ++ [a.toNatClampNeg]) := rfl
def chF (D : Nat → DD) (n s p : Nat) : Bool × List Nat := chR (fun c => gtV D s p c n) 4 (nI (p % 3)) []
theorem nd3 : ∀ (L : List Nat), L.Nodup → (∀ c, c ∈ L → c < 3) → L.length ≤ 3
  | [], _, _ => by simp
  | [a], _, _ => by simp
  | [a, b], _, _ => by simp
  | [a, b, c], _, _ => by simp
  | a :: b :: c :: d :: L, h, w => by
    exfalso
    have ha := w a (by simp)
    have hb := w b (by simp)
    have hc := w c (by simp)
    have hd := w d (by simp)
    simp only [List.nodup_cons, List.mem_cons, not_or] at h
    omega
theorem nd_app {L : List Nat} {t : Nat} (h : L.Nodup) (z : ¬ t ∈ L) : (L ++ [t]).Nodup := by
  rw [List.nodup_append]
  exact ⟨h, List.nodup_cons.mpr ⟨by simp, List.nodup_nil⟩, fun a ha b hb => fun e => by
    rw [List.mem_singleton] at hb
    subst hb
    exact z (e ▸ ha)⟩
def owR (D : Nat → DD) (n s p : Nat) : Nat := (chF D n s p).2.getD ((chF D n s p).2.length - 1) 0
def frc (P : Nat → Bool) (m : Nat) : Bool := (frW P 0 m).isSome
def rclV (D : Nat → DD) (n s p : Nat) : Int32 := if frc (fun c => decide (gtV D s p c n = 3)) 3 = true then 0 else if (chF D n s p).1 = true then 1 else if frc (fun c => decide (¬ c ∈ (chF D n s p).2 ∧ ¬ gtV D s p c n = -1)) 3 = true then 2 else -1
theorem frW_s {P : Nat → Bool} {a m : Nat} : frW P a (m + 1) = if P a = true then some a else frW P (a + 1) m := rfl
def rfP (D : Nat → DD) (n s p : Nat) : Bool := decide (¬ rclV D n s p = -1)
def rfc (D : Nat → DD) (n s : Nat) : Option Nat := frW (rfP D n s) 0 12
def rfs (D : Nat → DD) (n a m : Nat) : Option Nat := frW (fun s => (rfc D n s).isSome) a m
theorem btI_and1 {x : Int32} {j : Nat} (hj : j < 32) : (x >>> (nI j &&& 31)) &&& 1 = if btI x j = true then 1 else 0 := by
  apply btI_ext
  intro i hi
  have h1 : ∀ i, i < 32 → btI 1 i = decide (i = 0) := by decide +kernel
  have h0 : ∀ i, i < 32 → btI 0 i = false := by decide +kernel
  rw [btI_and, h1 i hi]
  by_cases z : i = 0
  · subst z
    rw [btI_shr hj (by omega), Nat.add_zero]
    cases hb : btI x j
    · rw [if_neg (by decide), h0 0 (by decide)]; rfl
    · rw [if_pos rfl, h1 0 (by decide)]; rfl
  · rw [decide_eq_false z, Bool.and_false]
    split
    · rw [h1 i hi, decide_eq_false z]
    · rw [h0 i hi]
theorem shl12 : ∀ k, k < 13 → (1 : Int32) <<< (nI k &&& 31) = nI (2 ^ k) := by decide +kernel
theorem ow_cg {D D2 : Nat → DD} {s p : Nat} : ∀ {n : Nat}, (∀ k, k < n → D2 k = D k) → ow D2 s p n = ow D s p n := by
  intro n
  induction n with
  | zero => intro _; rfl
  | succ n ih =>
    intro h
    unfold ow
    rw [h n (by omega), ih (fun k hk => h k (by omega))]
