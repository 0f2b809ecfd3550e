/-! own text: how a tape is read, purely: a rule, a desk; what is read is a desk as the document wants -/
/-- the deepest of n terms, D the depths of accounts -/
def dpm (D : Nat → Nat) (M : Nat → Nat) : Nat → Nat
  | 0 => 0
  | n + 1 => if M n < 6 then max (dpm D M n) (D (M n)) else dpm D M n
theorem dpm_ge {D M : Nat → Nat} : ∀ n j, j < n → M j < 6 → D (M j) ≤ dpm D M n
  | 0, j, hj, _ => by omega
  | n + 1, j, hj, hm => by
    rw [dpm]
    by_cases e : j = n
    · subst e; rw [if_pos hm]; exact Nat.le_max_right _ _
    · have := dpm_ge (D := D) n j (by omega) hm
      split
      · exact Nat.le_trans this (Nat.le_max_left _ _)
      · exact this
theorem dpm_le {D M : Nat → Nat} {B : Nat} : ∀ n, (∀ j, j < n → M j < 6 → D (M j) ≤ B) → dpm D M n ≤ B
  | 0, _ => Nat.zero_le _
  | n + 1, h => by
    have ih := dpm_le (D := D) n (fun j hj => h j (by omega))
    rw [dpm]
    split
    · rename_i hm
      exact Nat.max_le.mpr ⟨ih, h n (by omega) hm⟩
    · exact ih
/-- one account more -/
def addR (d : Dk) (n : Nat) (G : Nat → Int) (M : Nat → Nat) (p m : Nat) (F E S : Nat → Int) : Dk :=
  (dA d + 1, dB d, upf (dT d) (dA d) n, upf (dG d) (dA d) G, upf (dM d) (dA d) M, upf (dS d) (dA d) m, upf (dF d) (dA d) F, upf (dE d) (dA d) E, upf (dL d) (dA d) S, upf (dD d) (dA d) p)
/-- PAID is told -/
def setP (d : Dk) (n : Nat) (G : Nat → Int) (M : Nat → Nat) : Dk :=
  (dA d, dB d, upf (dT d) 6 n, upf (dG d) 6 G, upf (dM d) 6 M, dS d, dF d, dE d, dL d, dD d)
/-- another benefit -/
def setB (d : Dk) (v : Int) : Dk := (dA d, v, dT d, dG d, dM d, dS d, dF d, dE d, dL d, dD d)
def dk0 : Dk := (0, 0, fun _ => 0, fun _ _ => 0, fun _ _ => 0, fun _ => 0, fun _ _ => 0, fun _ _ => 0, fun _ _ => 0, fun _ => 0)
/-- a rule whose letter stands at p -/
def pRule (T : Nat → Int) (L : Nat) (d : Dk) (p : Nat) : Nat ⊕ (Nat × Dk) :=
  if tat T L (sk T L (p + 1)) = 61 then (match pTerms T L (dA d) (sk T L (p + 1) + 1) with
    | .inl w => .inl w
    | .inr (p1, n, G, M) => if dpm (dD d) M n + 1 ≤ 3 then (match pSgs T L 6 p1 0 0 0 (fun _ => 0) (fun _ => 0) (fun _ => 0) with
        | .inl w => .inl w
        | .inr (p2, m, F, E, S) => .inr (p2, addR d n G M (dpm (dD d) M n + 1) m F E S))
      else .inl p)
  else .inl (sk T L (p + 1))
def pPaid (T : Nat → Int) (L : Nat) (d : Dk) (p : Nat) : Nat ⊕ Dk :=
  if tat T L (sk T L (p + 1)) = 61 then (match pTerms T L (dA d) (sk T L (p + 1) + 1) with
    | .inl w => .inl w
    | .inr (p1, n, G, M) => if tat T L (sk T L p1) = -1 then .inr (setP d n G M) else .inl (sk T L p1))
  else .inl (sk T L (p + 1))
def pDesk (T : Nat → Int) (L : Nat) : Nat → Nat → Dk → Bool → Nat ⊕ Dk
  | 0, p, _, _ => .inl p
  | f + 1, p, d, b => if tat T L (sk T L p) = 110 then pPaid T L d (sk T L p)
    else if tat T L (sk T L p) = 107 ∧ b = false then (match pNum T L (sk T L p + 1) 0 999 with
      | .inl w => .inl w
      | .inr (p1, v) => if tat T L (sk T L p1) = 59 then pDesk T L f (sk T L p1 + 1) (setB d v) true else .inl (sk T L p1))
    else if tat T L (sk T L p) = 97 + (dA d : Int) ∧ dA d < 6 then (match pRule T L d (sk T L p) with
      | .inl w => .inl w
      | .inr (p1, d1) => if tat T L (sk T L p1) = 59 then pDesk T L f (sk T L p1 + 1) d1 b else .inl (sk T L p1))
    else .inl (sk T L p)
/-- all but PAID is as the document wants -/
def WP (d : Dk) : Prop := dA d ≤ 6 ∧ (0 ≤ dB d ∧ dB d ≤ 999) ∧ ∀ a, a < dA d → WS d a ∧ WT d a ∧ 1 ≤ dD d a ∧ dD d a ≤ 3
theorem WP0 : WP dk0 := ⟨by decide, by decide, fun a ha => absurd ha (Nat.not_lt_zero a)⟩
theorem WP.setB {d : Dk} {v : Int} (h : WP d) (hv : 0 ≤ v ∧ v ≤ 999) : WP (setB d v) := ⟨h.1, hv, h.2.2⟩
theorem WP.addR {d : Dk} {n m : Nat} {G : Nat → Int} {M : Nat → Nat} {F E S : Nat → Int} {lo hi : Int} (h : WP d) (hA : dA d < 6) (hn : 1 ≤ n ∧ n ≤ 6) (hT : TmI (dA d) n G M) (hp : dpm (dD d) M n + 1 ≤ 3) (hm : 1 ≤ m ∧ m ≤ 6) (hS : SgI m F E S lo hi) : WP (addR d n G M (dpm (dD d) M n + 1) m F E S) := by
  refine ⟨hA, h.2.1, fun a ha => ?_⟩
  have ha : a < dA d + 1 := ha
  by_cases e : a = dA d
  · subst e
    obtain ⟨h1, h2, h3, h4⟩ := hS
    refine ⟨⟨?_, ?_, ?_, fun q hq => ?_, fun q hq => ?_⟩, ⟨?_, ?_, fun j hj => ?_⟩, ?_, ?_⟩
    · show 1 ≤ upf (dS d) (dA d) m (dA d); rw [upf_eq]; omega
    · show upf (dS d) (dA d) m (dA d) ≤ 6; rw [upf_eq]; omega
    · show upf (dF d) (dA d) F (dA d) 0 = 0; rw [upf_eq]; exact (h2 (by omega)).1
    · have hq : q + 1 < upf (dS d) (dA d) m (dA d) := hq
      show upf (dF d) (dA d) F (dA d) q < upf (dF d) (dA d) F (dA d) (q + 1)
      rw [upf_eq] at hq ⊢; exact h3 q hq
    · have hq : q < upf (dS d) (dA d) m (dA d) := hq
      show (0 ≤ upf (dF d) (dA d) F (dA d) q ∧ upf (dF d) (dA d) F (dA d) q ≤ 9999) ∧ (-1 ≤ upf (dE d) (dA d) E (dA d) q ∧ upf (dE d) (dA d) E (dA d) q ≤ 9999) ∧ (0 ≤ upf (dL d) (dA d) S (dA d) q ∧ upf (dL d) (dA d) S (dA d) q ≤ 1999)
      rw [upf_eq] at hq; rw [upf_eq, upf_eq, upf_eq]; exact h4 q hq
    · show 1 ≤ upf (dT d) (dA d) n (dA d); rw [upf_eq]; omega
    · show upf (dT d) (dA d) n (dA d) ≤ 6; rw [upf_eq]; omega
    · have hj : j < upf (dT d) (dA d) n (dA d) := hj
      show (upf (dG d) (dA d) G (dA d) j = 1 ∨ upf (dG d) (dA d) G (dA d) j = -1) ∧ (upf (dM d) (dA d) M (dA d) j = 6 ∨ upf (dM d) (dA d) M (dA d) j = 7 ∨ (upf (dM d) (dA d) M (dA d) j < dA d + 1 ∧ (dA d < 6 → upf (dM d) (dA d) M (dA d) j < dA d ∧ upf (dD d) (dA d) (dpm (dD d) M n + 1) (upf (dM d) (dA d) M (dA d) j) < upf (dD d) (dA d) (dpm (dD d) M n + 1) (dA d))))
      rw [upf_eq] at hj
      rw [upf_eq, upf_eq, upf_eq]
      obtain ⟨t1, t2⟩ := hT j hj
      refine ⟨t1, ?_⟩
      rcases t2 with t | t | t
      · exact Or.inl t
      · exact Or.inr (Or.inl t)
      · refine Or.inr (Or.inr ⟨by omega, fun _ => ⟨t, ?_⟩⟩)
        rw [upf_ne (by omega)]
        have := dpm_ge (D := dD d) (M := M) n j hj (by omega)
        omega
    · show 1 ≤ upf (dD d) (dA d) _ (dA d); rw [upf_eq]; omega
    · show upf (dD d) (dA d) _ (dA d) ≤ 3; rw [upf_eq]; exact hp
  · obtain ⟨⟨w1, w2, w3, w4, w5⟩, ⟨w6, w7, w8⟩, w9, w10⟩ := h.2.2 a (by omega)
    refine ⟨⟨?_, ?_, ?_, fun q hq => ?_, fun q hq => ?_⟩, ⟨?_, ?_, fun j hj => ?_⟩, ?_, ?_⟩
    · show 1 ≤ upf (dS d) (dA d) m a; rw [upf_ne e]; exact w1
    · show upf (dS d) (dA d) m a ≤ 6; rw [upf_ne e]; exact w2
    · show upf (dF d) (dA d) F a 0 = 0; rw [upf_ne e]; exact w3
    · have hq : q + 1 < upf (dS d) (dA d) m a := hq
      show upf (dF d) (dA d) F a q < upf (dF d) (dA d) F a (q + 1)
      rw [upf_ne e] at hq ⊢; exact w4 q hq
    · have hq : q < upf (dS d) (dA d) m a := hq
      show (0 ≤ upf (dF d) (dA d) F a q ∧ upf (dF d) (dA d) F a q ≤ 9999) ∧ (-1 ≤ upf (dE d) (dA d) E a q ∧ upf (dE d) (dA d) E a q ≤ 9999) ∧ (0 ≤ upf (dL d) (dA d) S a q ∧ upf (dL d) (dA d) S a q ≤ 1999)
      rw [upf_ne e] at hq; rw [upf_ne e, upf_ne e, upf_ne e]; exact w5 q hq
    · show 1 ≤ upf (dT d) (dA d) n a; rw [upf_ne e]; exact w6
    · show upf (dT d) (dA d) n a ≤ 6; rw [upf_ne e]; exact w7
    · have hj : j < upf (dT d) (dA d) n a := hj
      show (upf (dG d) (dA d) G a j = 1 ∨ upf (dG d) (dA d) G a j = -1) ∧ (upf (dM d) (dA d) M a j = 6 ∨ upf (dM d) (dA d) M a j = 7 ∨ (upf (dM d) (dA d) M a j < dA d + 1 ∧ (a < 6 → upf (dM d) (dA d) M a j < a ∧ upf (dD d) (dA d) (dpm (dD d) M n + 1) (upf (dM d) (dA d) M a j) < upf (dD d) (dA d) (dpm (dD d) M n + 1) a)))
      rw [upf_ne e] at hj
      rw [upf_ne e, upf_ne e, upf_ne e]
      obtain ⟨t1, t2⟩ := w8 j hj
      refine ⟨t1, ?_⟩
      rcases t2 with t | t | t
      · exact Or.inl t
      · exact Or.inr (Or.inl t)
      · refine Or.inr (Or.inr ⟨by omega, fun z => ⟨(t.2 z).1, ?_⟩⟩)
        rw [upf_ne (by omega)]
        exact (t.2 z).2
    · show 1 ≤ upf (dD d) (dA d) _ a; rw [upf_ne e]; exact w9
    · show upf (dD d) (dA d) _ a ≤ 3; rw [upf_ne e]; exact w10
theorem WP.setP {d : Dk} {n : Nat} {G : Nat → Int} {M : Nat → Nat} (h : WP d) (hn : 1 ≤ n ∧ n ≤ 6) (hT : TmI (dA d) n G M) : WD (setP d n G M) := by
  have hA := h.1
  refine ⟨h.1, h.2.1, fun a ha => ?_, ?_, ?_, fun j hj => ?_⟩
  · have ha : a < dA d := ha
    have e : a ≠ 6 := by omega
    obtain ⟨w1, ⟨w6, w7, w8⟩, w9⟩ := h.2.2 a ha
    refine ⟨w1, ⟨?_, ?_, fun j hj => ?_⟩, w9⟩
    · show 1 ≤ upf (dT d) 6 n a; rw [upf_ne e]; exact w6
    · show upf (dT d) 6 n a ≤ 6; rw [upf_ne e]; exact w7
    · have hj : j < upf (dT d) 6 n a := hj
      show (upf (dG d) 6 G a j = 1 ∨ upf (dG d) 6 G a j = -1) ∧ (upf (dM d) 6 M a j = 6 ∨ upf (dM d) 6 M a j = 7 ∨ (upf (dM d) 6 M a j < dA d ∧ (a < 6 → upf (dM d) 6 M a j < a ∧ dD d (upf (dM d) 6 M a j) < dD d a)))
      rw [upf_ne e] at hj; rw [upf_ne e, upf_ne e]; exact w8 j hj
  · show 1 ≤ upf (dT d) 6 n 6; rw [upf_eq]; omega
  · show upf (dT d) 6 n 6 ≤ 6; rw [upf_eq]; omega
  · have hj : j < upf (dT d) 6 n 6 := hj
    show (upf (dG d) 6 G 6 j = 1 ∨ upf (dG d) 6 G 6 j = -1) ∧ (upf (dM d) 6 M 6 j = 6 ∨ upf (dM d) 6 M 6 j = 7 ∨ (upf (dM d) 6 M 6 j < dA d ∧ (6 < 6 → upf (dM d) 6 M 6 j < 6 ∧ dD d (upf (dM d) 6 M 6 j) < dD d 6)))
    rw [upf_eq] at hj; rw [upf_eq, upf_eq]
    obtain ⟨t1, t2⟩ := hT j hj
    exact ⟨t1, by omega⟩
theorem SgI0 (F E S : Nat → Int) : SgI 0 F E S 0 0 := ⟨fun _ => ⟨rfl, rfl⟩, fun z => by omega, fun q hq => by omega, fun q hq => by omega⟩
theorem pRule_ok {T : Nat → Int} {L p p' : Nat} {d d' : Dk} (hp : p < L) (hA : dA d < 6) (hW : WP d) (h : pRule T L d p = .inr (p', d')) : p' ≤ L ∧ sk T L p' = p' ∧ WP d' ∧ dA d' = dA d + 1 := by
  unfold pRule at h
  have s1 := sk_le (T := T) (show p + 1 ≤ L by omega)
  split at h
  · rename_i c1
    have := tat_in (T := T) (L := L) (p := sk T L (p + 1)) (by omega)
    cases h1 : pTerms T L (dA d) (sk T L (p + 1) + 1) with
    | inl w => rw [h1] at h; cases h
    | inr x =>
      obtain ⟨p1, n, G, M⟩ := x
      rw [h1] at h
      simp only at h
      obtain ⟨o1, o2, o3, o4, o5⟩ := pTerms_ok (by omega) h1
      split at h
      · rename_i c2
        cases h2 : pSgs T L 6 p1 0 0 0 (fun _ => 0) (fun _ => 0) (fun _ => 0) with
        | inl w => rw [h2] at h; cases h
        | inr x =>
          obtain ⟨p2, m, F, E, S⟩ := x
          rw [h2] at h
          obtain ⟨q1, q2, q3, q4, lo', hi', q5⟩ := pSgs_ok _ _ _ _ _ _ _ _ _ _ _ _ _ h2 (by omega) o1 (SgI0 _ _ _)
          simp only [Sum.inr.injEq, Prod.mk.injEq] at h
          obtain ⟨rfl, rfl⟩ := h
          exact ⟨q1, q2, hW.addR hA ⟨o3, o4⟩ o5 c2 ⟨q3, q4⟩ q5, rfl⟩
      · cases h
  · cases h
theorem pPaid_ok {T : Nat → Int} {L p : Nat} {d d' : Dk} (hp : p < L) (hW : WP d) (h : pPaid T L d p = .inr d') : WD d' ∧ dA d' = dA d := by
  unfold pPaid at h
  have s1 := sk_le (T := T) (show p + 1 ≤ L by omega)
  split at h
  · rename_i c1
    have := tat_in (T := T) (L := L) (p := sk T L (p + 1)) (by omega)
    cases h1 : pTerms T L (dA d) (sk T L (p + 1) + 1) with
    | inl w => rw [h1] at h; cases h
    | inr x =>
      obtain ⟨p1, n, G, M⟩ := x
      rw [h1] at h
      simp only at h
      obtain ⟨o1, o2, o3, o4, o5⟩ := pTerms_ok (by omega) h1
      split at h
      · simp only [Sum.inr.injEq] at h
        subst h
        exact ⟨hW.setP ⟨o3, o4⟩ o5, rfl⟩
      · cases h
  · cases h
