/-! own text: the pieces of a line are what they are -/
def stp (F : Nat → Int) (w : Nat) : Int := if w < 9999 then F (w + 1) - F w else 0
def Ps (F : Nat → Int) (P : Nat) (s : Nat → Nat) : Prop := 1 ≤ P ∧ s 0 = 0 ∧ s P = 10000 ∧ (∀ p, p < P → s p < s (p + 1)) ∧ (∀ p, p < P → ∀ w, s p ≤ w → w + 1 < s (p + 1) → stp F w = stp F (s p)) ∧ ∀ p, p + 1 < P → s p + 2 ≤ s (p + 1) ∧ stp F (s (p + 1) - 1) ≠ stp F (s p)
theorem Ps.le {F : Nat → Int} {P : Nat} {s : Nat → Nat} (h : Ps F P s) : ∀ q, q ≤ P → ∀ p, p ≤ q → s p + (q - p) ≤ s q
  | 0, _, p, hp => by rw [show p = 0 by omega]; omega
  | q + 1, hq, p, hp => by
    rcases Nat.lt_or_ge q p with e | e
    · rw [show p = q + 1 by omega]; omega
    · have a := Ps.le h q (by omega) p e
      have b := h.2.2.2.1 q (by omega)
      omega
theorem Ps.top {F : Nat → Int} {P : Nat} {s : Nat → Nat} (h : Ps F P s) {p : Nat} (hp : p ≤ P) : s p ≤ 10000 := by
  have := h.le P (Nat.le_refl _) p hp
  rw [h.2.2.1] at this
  omega
theorem Ps.lt {F : Nat → Int} {P : Nat} {s : Nat → Nat} (h : Ps F P s) {p : Nat} (hp : p < P) : s p < 10000 := by
  have := h.le P (Nat.le_refl _) p (by omega)
  rw [h.2.2.1] at this
  omega
theorem Ps.P_le {F : Nat → Int} {P : Nat} {s : Nat → Nat} (h : Ps F P s) : P ≤ 10000 := by
  have := h.le P (Nat.le_refl _) 0 (by omega)
  rw [h.2.2.1] at this
  omega
theorem Ps.uq {F : Nat → Int} {P Q : Nat} {s t : Nat → Nat} (h1 : Ps F P s) (h2 : Ps F Q t) : P = Q ∧ ∀ p, p ≤ P → s p = t p := by
  have key : ∀ {P Q : Nat} {s t : Nat → Nat}, Ps F P s → Ps F Q t → ∀ p, p < P → p < Q → s p = t p → ¬ s (p + 1) < t (p + 1) := by
    intro P Q s t h1 h2 p hp hq e hlt
    rcases Nat.lt_or_ge (p + 1) P with q | q
    · obtain ⟨a1, a2⟩ := h1.2.2.2.2.2 p q
      have a3 := h2.2.2.2.2.1 p hq (s (p + 1) - 1) (by omega) (by omega)
      rw [e] at a2
      exact a2 a3
    · have a1 := h1.2.2.1
      rw [show P = p + 1 by omega] at a1
      have := h2.top (show p + 1 ≤ Q by omega)
      omega
  have all : ∀ p, p ≤ P → p ≤ Q → s p = t p := by
    intro p
    induction p with
    | zero => intro _ _; rw [h1.2.1, h2.2.1]
    | succ p ih =>
      intro a b
      have e := ih (by omega) (by omega)
      have k1 := key h1 h2 p a b e
      have k2 := key h2 h1 p b a e.symm
      omega
  have hPQ : P = Q := by
    rcases Nat.lt_trichotomy P Q with q | q | q
    · have a := all P (Nat.le_refl _) (by omega)
      have b := h2.lt q
      rw [h1.2.2.1] at a
      omega
    · exact q
    · have a := all Q (by omega) (Nat.le_refl _)
      have b := h1.lt q
      rw [h2.2.2.1] at a
      omega
  exact ⟨hPQ, fun p hp => all p hp (by omega)⟩
theorem Pc.st {F : Nat → Int} {P : Nat} {s : Nat → Nat} {G : Nat → Int} (h : Pc F P s G) (hc : Cn F P s G) : Ps F P s ∧ ∀ p, p < P → G p = stp F (s p) := by
  obtain ⟨h1, h2, h3, h4, h5, h6, h7⟩ := id h
  have hg : ∀ p, p < P → G p = stp F (s p) := by
    intro p hp
    have e1 := h5 p hp
    have e2 := h.top (show p + 1 ≤ P by omega)
    unfold stp
    rcases Nat.lt_or_ge (s p + 1) (s (p + 1)) with q | q
    · rw [if_pos (by omega), h6 p hp (s p + 1) (by omega) q, show ((s p + 1 : Nat) : Int) - s p = 1 by omega]; omega
    · have hl : p + 1 = P := by
        rcases Nat.lt_or_ge (p + 1) P with z | z
        · have := (hc.1 p z).1; omega
        · omega
      rw [hl, h4] at q
      rw [if_neg (by omega)]
      exact hc.2 p hp (by rw [hl, h4]; rw [hl, h4] at e1; omega)
  have hst : ∀ p, p < P → ∀ w, s p ≤ w → w + 1 < s (p + 1) → stp F w = G p := by
    intro p hp w w1 w2
    have e2 := h.top (show p + 1 ≤ P by omega)
    unfold stp
    rw [if_pos (by omega), h6 p hp w w1 (by omega), h6 p hp (w + 1) (by omega) w2, show ((w + 1 : Nat) : Int) - s p = ((w : Int) - s p) + 1 by omega, lin_step]
    omega
  refine ⟨⟨h1, h3, h4, h5, fun p hp w w1 w2 => by rw [hst p hp w w1 w2, hg p hp], fun p hp => ?_⟩, hg⟩
  obtain ⟨a1, a2⟩ := hc.1 p hp
  have e2 := h.le P (Nat.le_refl _) (p + 1) (by omega)
  rw [h4] at e2
  refine ⟨a1, ?_⟩
  rw [← hg p (by omega)]
  unfold stp
  rw [if_pos (by omega), show s (p + 1) - 1 + 1 = s (p + 1) by omega]
  exact a2
/-- a wage's piece -/
theorem Ps.one {F : Nat → Int} {P : Nat} {s : Nat → Nat} (h : Ps F P s) {w p q : Nat} (hp : p < P) (hq : q < P) (h1 : s p ≤ w) (h2 : w < s (p + 1)) (h3 : s q ≤ w) (h4 : w < s (q + 1)) : p = q := by
  rcases Nat.lt_trichotomy p q with e | e | e
  · have := h.le q (by omega) (p + 1) e; omega
  · exact e
  · have := h.le p (by omega) (q + 1) e; omega
/-! yes and no -/
theorem tf_n {p : Prop} [Decidable p] (h : tf p = 0) : ¬ p := fun q => by rw [tf, if_pos q] at h; omega
theorem tf_y {p : Prop} [Decidable p] (h : tf p ≠ 0) : p := by
  by_cases q : p
  · exact q
  · rw [tf, if_neg q] at h; exact absurd rfl h
theorem tf_r (p : Prop) [Decidable p] : rI (tf p) := by unfold tf; split <;> omega
theorem tf_b (p : Prop) [Decidable p] : tf p = 0 ∨ tf p = 1 := by unfold tf; split <;> omega
abbrev HID : Int := -9000000000000000000
/-! answers -/
def pcA (F : Nat → Int) (P : Nat) (s : Nat → Nat) (i what : Int) : Int := if 0 ≤ i ∧ i < P ∧ 0 ≤ what ∧ what ≤ 3 then (if what = 0 then (s i.toNat : Int) else if what = 1 then (s (i.toNat + 1) : Int) - 1 else if what = 2 then F (s i.toNat) else stp F (s i.toNat)) else HID
theorem pcA_cg {F : Nat → Int} {P Q : Nat} {s t : Nat → Nat} (h1 : Ps F P s) (h2 : Ps F Q t) (i what : Int) : pcA F P s i what = pcA F Q t i what := by
  obtain ⟨rfl, e⟩ := h1.uq h2
  unfold pcA
  by_cases c : 0 ≤ i ∧ i < P ∧ 0 ≤ what ∧ what ≤ 3
  · rw [if_pos c, if_pos c, e _ (by omega), e _ (by omega)]
  · rw [if_neg c, if_neg c]
def jmS (F : Nat → Int) (s : Nat → Nat) (p : Nat) : Bool := decide (0 < p ∧ F (s p) - F (s p - 1) ≠ stp F (s (p - 1)) ∧ F (s p) - F (s p - 1) ≠ stp F (s p))
def knS (F : Nat → Int) (s : Nat → Nat) (up : Bool) (p : Nat) : Bool := decide (0 < p ∧ (if up then stp F (s (p - 1)) < stp F (s p) else stp F (s p) < stp F (s (p - 1))))
def flS (F : Nat → Int) (s : Nat → Nat) (p : Nat) : Bool := decide (stp F (s p) = 0 ∧ s p + 1 < s (p + 1))
theorem ct_ps {F : Nat → Int} {P Q : Nat} {s t : Nat → Nat} (h1 : Ps F P s) (h2 : Ps F Q t) (up : Bool) : ct (jmS F s) P = ct (jmS F t) Q ∧ ct (knS F s up) P = ct (knS F t up) Q ∧ ct (flS F s) P = ct (flS F t) Q := by
  obtain ⟨rfl, e⟩ := h1.uq h2
  refine ⟨ct_cong (fun k hk => ?_), ct_cong (fun k hk => ?_), ct_cong (fun k hk => ?_)⟩
  · unfold jmS; rw [e k (by omega), e (k - 1) (by omega)]
  · unfold knS; rw [e k (by omega), e (k - 1) (by omega)]
  · unfold flS; rw [e k (by omega), e (k + 1) (by omega)]
theorem jm_st {F : Nat → Int} {P : Nat} {s : Nat → Nat} {G : Nat → Int} (hg : ∀ p, p < P → G p = stp F (s p)) : ct (jmB F s G) P = ct (jmS F s) P := ct_cong (fun k hk => by unfold jmB jmS; rw [hg k hk, hg (k - 1) (by omega)])
theorem kn_st {F : Nat → Int} {P : Nat} {s : Nat → Nat} {G : Nat → Int} {up : Bool} (hg : ∀ p, p < P → G p = stp F (s p)) : ct (knB G up) P = ct (knS F s up) P := ct_cong (fun k hk => by unfold knB knS; rw [hg k hk, hg (k - 1) (by omega)])
theorem fl_st {F : Nat → Int} {P : Nat} {s : Nat → Nat} {G : Nat → Int} (hg : ∀ p, p < P → G p = stp F (s p)) : ct (fun p => decide (G p = 0 ∧ s p + 1 < s (p + 1))) P = ct (flS F s) P := ct_cong (fun k hk => by unfold flS; rw [hg k hk])
