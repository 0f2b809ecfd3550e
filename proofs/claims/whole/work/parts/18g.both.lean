/-! own text: the class and the reference answer alike: month, benefit, end, spell, would -/
section Both5
variable {K : Kx} {d : Dk} {wg : Nat → Int} {p : Nat} {T : Nat → Int} {L : Nat} {N : Nm} {g : Ge}
theorem q_month {w : Int} (h : InvD d wg p T L N g) (uw : rI w) : BoL K YX9_month YX10_month hX9_month hX10_month [vi w] N g := by
  refine x_month h.X h.Y uw (fun hg N1 g1 h1 => ?_) (fun k hc => ⟨ScE.u19, ?_⟩)
  · have e : ∀ a i j, a ≠ 16 → a ≠ 17 → mnN N p w a i j = N a i j := fun a i j q1 q2 => by unfold mnN; rw [upN_k q1, upN_k q2]
    have hx0 : InX d (fun j => if j = p then w else wg j) (p + 1) T L (mnN N p w) g := by
      refine ⟨h.1.1.of (fun a i j q => e a i j (by omega) (by omega)), h.1.2.1, h.1.2.2.1.of (e 1 0 1 (by omega) (by omega)) (fun j => e 2 0 j (by omega) (by omega)), ?_, by omega, fun j hj => ?_⟩
      · unfold mnN; rw [upN_eq]; omega
      · unfold mnN
        rw [upN_k (by decide)]
        show upN N 17 0 p w 17 0 j = (if j = p then w else wg j) ∧ 0 ≤ (if j = p then w else wg j) ∧ (if j = p then w else wg j) ≤ 9999
        by_cases c : j = p
        · subst c; rw [upN_eq, if_pos rfl]; omega
        · rw [upN_j c, if_neg c]; exact h.Y.2.2 j (by omega)
    have hx1 := hx0.xt h1
    have e1 : ∀ a i j, a ≠ 16 → a ≠ 17 → ¬ (3 ≤ a ∧ a ≤ 15) → ¬ (a = 0 ∧ j = 10) → N1 a i j = N a i j := fun a i j q1 q2 q3 q4 => by rw [h1.1 a i j q3 q4, e a i j q1 q2]
    have hm1 : InM d wg p T L N1 := h.2.1.of (fun a i j q1 q2 q3 => e1 a i j (by omega) (by omega) (by omega) (by omega))
    have h22 : N1 40 0 22 = N 0 0 9 := (e1 40 0 22 (by omega) (by omega) (by omega) (by omega)).trans h.e9
    refine ⟨⟨fun i j => e1 61 i j (by omega) (by omega) (by omega) (by omega), e1 99 0 0 (by omega) (by omega) (by omega) (by omega)⟩, m_month hm1.1 hm1.2.2 uw (fun _ M1 N2 f1 f2 => ⟨rfl, ?_⟩) (fun k hc => ?_)⟩
    · have m1 := hm1.v f1
      have e2 : ∀ a i j, a ≠ 55 → ¬ (a = 40 ∧ j = 25) → mmN M1 p w a i j = M1 a i j := fun a i j q1 q2 => by
        unfold mmN
        rw [show upN (upN M1 55 0 p w) 40 0 25 ((p : Int) + 1) a i j = upN M1 55 0 p w a i j from if_neg (fun z => q2 ⟨z.1, z.2.2⟩), upN_k q1]
      have m2 : InM d (fun j => if j = p then w else wg j) (p + 1) T L (mmN M1 p w) := by
        refine ⟨m1.1.of (fun a i j q => e2 a i j (by omega) (by omega)), m1.2.1.of (e2 40 0 2 (by omega) (by omega)) (fun j => e2 41 0 j (by omega) (by omega)), ?_, by omega, fun j hj => ?_⟩
        · unfold mmN; rw [upN_eq]; omega
        · unfold mmN
          rw [upN_k (by decide)]
          show upN M1 55 0 p w 55 0 j = (if j = p then w else wg j) ∧ 0 ≤ (if j = p then w else wg j) ∧ (if j = p then w else wg j) ≤ 9999
          by_cases c : j = p
          · subst c; rw [upN_eq, if_pos rfl]; omega
          · rw [upN_j c, if_neg c]; exact m1.2.2.2.2 j (by omega)
      have e3 : ∀ a i j, a ≠ 55 → a ≠ 40 → ¬ (56 ≤ a ∧ a ≤ 59) → N2 a i j = N1 a i j := fun a i j q1 q2 q3 => by rw [f2 a i j q3 (by omega), e2 a i j q1 (by omega), f1 a i j q3 (by omega)]
      refine Fin2.of ⟨fun i j => by rw [e3 61 i j (by omega) (by omega) (by omega), e1 61 i j (by omega) (by omega) (by omega) (by omega)], by rw [e3 99 0 0 (by omega) (by omega) (by omega), e1 99 0 0 (by omega) (by omega) (by omega) (by omega)]⟩ ⟨d, _, p + 1, T, L, hx1.of (fun a i j q1 q2 => e3 a i j (by omega) (by omega) (by omega)), m2.v f2, ?_, fun k => ?_⟩
      · rw [f2 40 0 22 (by omega) (by omega), e2 40 0 22 (by omega) (by omega), f1 40 0 22 (by omega) (by omega), h22, e3 0 0 9 (by omega) (by omega) (by omega), e1 0 0 9 (by omega) (by omega) (by omega) (by omega)]
      · rw [e3 54 0 k (by omega) (by omega) (by omega), e3 19 0 k (by omega) (by omega) (by omega), e1 54 0 k (by omega) (by omega) (by omega) (by omega), e1 19 0 k (by omega) (by omega) (by omega) (by omega)]; exact h.2.2.2 k
    · exfalso
      rw [h22] at hc
      omega
  · have h22 : upN N 19 0 k (N 19 0 k + 1) 40 0 22 = N 0 0 9 := (upN_k (by decide)).trans h.e9
    refine m_month h.M19.1 h.M19.2.2 uw (fun hg => ?_) (fun k' hc' N2 f => ?_)
    · exfalso
      rw [h22] at hg
      omega
    · rw [h22] at hc'
      have ek : k' = k := by omega
      subst ek
      exact ⟨rfl, h.ref f⟩
theorem q_benefit {u : Int} (h : InvD d wg p T L N g) (uu : rI u) : BoI K YX9_benefit YX10_benefit hX9_benefit hX10_benefit [vi u] N g := by
  refine x_benefit h.X uu (fun hg => ?_) (fun k hc => ⟨ScE.u19, ?_⟩)
  · have hx := wben_X h.X hg.1 hg.2.1
    have e : ∀ a i j, a ≠ 20 → ¬ (a = 0 ∧ j = 10) → upN (upN N 20 g.1 1 u) 0 0 10 1 a i j = N a i j := fun a i j q1 q2 => by
      rw [show upN (upN N 20 g.1 1 u) 0 0 10 1 a i j = upN N 20 g.1 1 u a i j from if_neg (fun z => q2 ⟨z.1, z.2.2⟩), upN_k q1]
    obtain ⟨M, hM⟩ : ∃ M, M = upN (upN N 20 g.1 1 u) 0 0 10 1 := ⟨_, rfl⟩
    rw [← hM] at e hx ⊢
    have hm1 : InM d wg p T L M := h.2.1.of (fun a i j q1 q2 q3 => e a i j (by omega) (by omega))
    have h22 : M 40 0 22 = N 0 0 9 := (e 40 0 22 (by omega) (by omega)).trans h.e9
    refine ⟨⟨fun i j => e 61 i j (by omega) (by omega), e 99 0 0 (by omega) (by omega)⟩, m_benefit hm1.1 uu (fun _ N2 f => ⟨rfl, ?_⟩) (fun k hc => ?_)⟩
    · have m1 := hm1.v f
      have e2 : ∀ a i j, ¬ (a = 40 ∧ j = 20) → upN N2 40 0 20 u a i j = N2 a i j := fun a i j q => if_neg (fun z => q ⟨z.1, z.2.2⟩)
      have e3 : ∀ a i j, a ≠ 40 → ¬ (56 ≤ a ∧ a ≤ 59) → upN N2 40 0 20 u a i j = M a i j := fun a i j q1 q2 => by rw [e2 a i j (by omega), f a i j q2 (by omega)]
      obtain ⟨w1, w2, w3⟩ := m1.1
      have h1 : N2 40 0 22 = 1 := by rw [f 40 0 22 (by omega) (by omega), h22]; exact hg.1
      obtain ⟨v1, v2, v3⟩ := w3 h1
      have v2' : MoI N2 (wben d u) := v2
      refine Fin2.of ⟨fun i j => by rw [e3 61 i j (by omega) (by omega), e 61 i j (by omega) (by omega)], by rw [e3 99 0 0 (by omega) (by omega), e 99 0 0 (by omega) (by omega)]⟩ ⟨wben d u, wg, p, T, L, ⟨hx.of (fun a i j q => e3 a i j (by omega) (by omega)), h.1.2.1, h.1.2.2.1.of (by rw [e3 1 0 1 (by omega) (by omega), e 1 0 1 (by omega) (by omega)]) (fun j => by rw [e3 2 0 j (by omega) (by omega), e 2 0 j (by omega) (by omega)]), ?_, h.Y.2.1, fun j hj => ?_⟩, ⟨⟨by rw [e2 40 0 22 (by omega)]; exact w1, by rw [e2 40 0 27 (by omega)]; exact w2, fun _ => ⟨⟨v1.1, hg.2.1, v1.2.2⟩, v2'.of (e2 40 0 19 (by omega)) (fun k j q1 q2 => e2 k 0 j (by omega)), upN_eq _ _ _ _ _⟩⟩, m1.2.1.of (e2 40 0 2 (by omega)) (fun j => e2 41 0 j (by omega)), ?_, h.Y.2.1, fun j hj => ?_⟩, ?_, fun k => ?_⟩
      · rw [e3 16 0 1 (by omega) (by omega), e 16 0 1 (by omega) (by omega)]; exact h.Y.1
      · rw [e3 17 0 j (by omega) (by omega), e 17 0 j (by omega) (by omega)]; exact h.Y.2.2 j hj
      · rw [e2 40 0 25 (by omega)]; exact m1.2.2.1
      · rw [e2 55 0 j (by omega)]; exact m1.2.2.2.2 j hj
      · rw [e2 40 0 22 (by omega), h1, e3 0 0 9 (by omega) (by omega), e 0 0 9 (by omega) (by omega)]; exact hg.1.symm
      · rw [e3 54 0 k (by omega) (by omega), e 54 0 k (by omega) (by omega), e3 19 0 k (by omega) (by omega), e 19 0 k (by omega) (by omega)]; exact h.2.2.2 k
    · exfalso
      rw [h22] at hc
      omega
  · have h22 : upN N 19 0 k (N 19 0 k + 1) 40 0 22 = N 0 0 9 := (upN_k (by decide)).trans h.e9
    refine m_benefit h.M19.1 uu (fun hg => ?_) (fun k' hc' N2 f => ?_)
    · exfalso
      rw [h22] at hg
      omega
    · rw [h22] at hc'
      have ek : k' = k := by omega
      subst ek
      exact ⟨rfl, h.ref f⟩
end Both5
