/-! own text: how a tape is read, purely: places, blanks, numbers -/
/-- byte at a place, -1 behind the end -/
def tat (T : Nat → Int) (L p : Nat) : Int := if p < L then T p else -1
def skf (T : Nat → Int) (L : Nat) : Nat → Nat → Nat
  | 0, p => p
  | f + 1, p => if p < L ∧ T p = 32 then skf T L f (p + 1) else p
/-- the next place that is no blank -/
def sk (T : Nat → Int) (L p : Nat) : Nat := skf T L (L - p) p
theorem skf_le (T : Nat → Int) (L : Nat) : ∀ f p, p ≤ skf T L f p ∧ (p ≤ L → skf T L f p ≤ L)
  | 0, p => ⟨Nat.le_refl _, id⟩
  | f + 1, p => by
    rw [skf]
    split
    · have := skf_le T L f (p + 1); omega
    · exact ⟨Nat.le_refl _, id⟩
theorem sk_le {T : Nat → Int} {L p : Nat} (hp : p ≤ L) : p ≤ sk T L p ∧ sk T L p ≤ L := ⟨(skf_le T L _ p).1, (skf_le T L _ p).2 hp⟩
theorem sk_step {T : Nat → Int} {L p : Nat} (h1 : p < L) (h2 : T p = 32) : sk T L p = sk T L (p + 1) := by
  unfold sk
  rw [show L - p = (L - (p + 1)) + 1 by omega, skf, if_pos ⟨h1, h2⟩]
theorem sk_stop {T : Nat → Int} {L p : Nat} (h : ¬ (p < L ∧ T p = 32)) : sk T L p = p := by
  unfold sk
  cases hq : L - p with
  | zero => rfl
  | succ f => rw [skf, if_neg h]
theorem sk_end {T : Nat → Int} {L : Nat} : ∀ n p, L - p = n → ¬ (sk T L p < L ∧ T (sk T L p) = 32) := by
  intro n
  induction n with
  | zero => intro p hp h; rw [sk_stop (by omega)] at h; omega
  | succ n ih =>
    intro p hp
    by_cases c : p < L ∧ T p = 32
    · rw [sk_step c.1 c.2]; exact ih (p + 1) (by omega)
    · rw [sk_stop c]; exact c
theorem sk_sk {T : Nat → Int} {L p : Nat} : sk T L (sk T L p) = sk T L p := sk_stop (sk_end _ p rfl)
abbrev isD (T : Nat → Int) (L p : Nat) : Prop := p < L ∧ 48 ≤ T p ∧ T p ≤ 57
/-- how many digits, n at the most -/
def dgc (T : Nat → Int) (L : Nat) : Nat → Nat → Nat
  | 0, _ => 0
  | n + 1, p => if isD T L p then dgc T L n (p + 1) + 1 else 0
def dgv (T : Nat → Int) : Nat → Nat → Int → Int
  | 0, _, v => v
  | n + 1, p, v => dgv T n (p + 1) (10 * v + T p - 48)
/-- a number: where it is wrong (-1: nowhere), the place behind it, what it is -/
def pNum (T : Nat → Int) (L p : Nat) (lo hi : Int) : Int × Nat × Int :=
  let q := sk T L p
  let k := dgc T L 4 q
  let v := dgv T k q 0
  if k = 0 ∨ isD T L (q + k) then ((q + k : Nat), q + k, v) else if v < lo ∨ hi < v then ((q + k : Nat) - 1, q + k - 1, v) else (-1, q + k, v)
