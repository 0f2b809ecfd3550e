/-! own text: the class and the reference answer alike: changes -/
section Both4
variable {K : Kx} {d : Dk} {wg : Nat → Int} {p : Nat} {T : Nat → Int} {L : Nat} {N : Nm} {g : Ge}
/-- one refusal more on both sides -/
theorem InvD.ref {N2 : Nm} {k : Nat} (h : InvD d wg p T L N g) (f : FrV (upN N 19 0 k (N 19 0 k + 1)) N2) : Fin2 N (upN N2 54 0 k (upN N 19 0 k (N 19 0 k + 1) 54 0 k + 1)) g := by
  have e : ∀ a i j, a ≠ 54 → a ≠ 19 → ¬ (56 ≤ a ∧ a ≤ 59) → ¬ (a = 40 ∧ (j = 0 ∨ j = 28 ∨ j = 31 ∨ j = 33)) → upN N2 54 0 k (upN N 19 0 k (N 19 0 k + 1) 54 0 k + 1) a i j = N a i j := fun a i j q1 q2 q3 q4 => by
    rw [upN_k q1, f a i j q3 q4, upN_k q2]
  refine Fin2.of ⟨fun i j => e 61 i j (by omega) (by omega) (by omega) (by omega), e 99 0 0 (by omega) (by omega) (by omega) (by omega)⟩ ⟨d, wg, p, T, L, h.1.of (fun a i j q1 q2 => e a i j (by omega) (by omega) (by omega) (by omega)), ?_, ?_, fun j => ?_⟩
  · have h1 : InM d wg p T L (upN N 19 0 k (N 19 0 k + 1)) := h.2.1.of (fun a i j q1 q2 q3 => upN_k (by omega))
    exact (h1.v f).of (fun a i j q1 q2 q3 => upN_k q3)
  · rw [e 40 0 22 (by omega) (by omega) (by omega) (by omega), e 0 0 9 (by omega) (by omega) (by omega) (by omega)]
    exact h.e9
  · have hk := h.2.2.2 j
    by_cases c : j = k
    · subst c
      rw [upN_eq, upN_k (by decide), upN_k (by decide), f 19 0 j (by omega) (by omega), upN_eq, hk]
    · rw [upN_j c, upN_k (by decide), f 54 0 j (by omega) (by omega), f 19 0 j (by omega) (by omega), upN_k (by decide), upN_j c]
      exact hk
theorem ScE.u19 {k : Nat} {v : Int} : ScE N (upN N 19 0 k v) := ⟨fun i j => upN_k (by decide), upN_k (by decide)⟩
theorem InvD.M19 {k : Nat} {v : Int} (h : InvD d wg p T L N g) : InM d wg p T L (upN N 19 0 k v) := h.2.1.of (fun a i j q1 q2 q3 => upN_k (by omega))
theorem q_takeBack (h : InvD d wg p T L N g) : BoI K YX9_takeBack YX10_takeBack hX9_takeBack hX10_takeBack [] N g := by
  refine x_takeBack h.X h.Y (fun hg => ⟨⟨fun i j => upN_k (by decide), upN_k (by decide)⟩, ?_⟩) (fun hn => ⟨ScE.u19, m_takeBack h.M19.1 h.M19.2.2 (fun hg => absurd ⟨h.e9.symm.trans ((upN_k (by decide)).symm.trans hg.1), hg.2⟩ hn) (fun _ N2 f => ⟨rfl, h.ref f⟩)⟩)
  have hM1 : InM d wg p T L (upN N 16 0 1 ((p - 1 : Nat) : Int)) := h.2.1.of (fun a i j q1 q2 q3 => upN_k (by omega))
  have h22 : upN N 16 0 1 ((p - 1 : Nat) : Int) 40 0 22 = N 0 0 9 := (upN_k (by decide)).trans h.e9
  refine m_takeBack hM1.1 hM1.2.2 (fun _ N2 f => ⟨rfl, ?_⟩) (fun hn => absurd ⟨h22.trans hg.1, hg.2⟩ hn)
  have e : ∀ a i j, ¬ (a = 40 ∧ j = 25) → a ≠ 16 → ¬ (56 ≤ a ∧ a ≤ 59) → ¬ (a = 40 ∧ (j = 0 ∨ j = 28 ∨ j = 31 ∨ j = 33)) → upN N2 40 0 25 ((p - 1 : Nat) : Int) a i j = N a i j := fun a i j q1 q2 q3 q4 => by
    rw [show upN N2 40 0 25 ((p - 1 : Nat) : Int) a i j = N2 a i j from if_neg (fun z => q1 ⟨z.1, z.2.2⟩), f a i j q3 q4, upN_k q2]
  have f16 : upN N2 40 0 25 ((p - 1 : Nat) : Int) 16 0 1 = ((p - 1 : Nat) : Int) := by rw [upN_k (by decide), f 16 0 1 (by omega) (by omega), upN_eq]
  refine Fin2.of ⟨fun i j => e 61 i j (by omega) (by omega) (by omega) (by omega), e 99 0 0 (by omega) (by omega) (by omega) (by omega)⟩ ⟨d, wg, p - 1, T, L, ⟨h.1.1.of (fun a i j q => e a i j (by omega) (by omega) (by omega) (by omega)), h.1.2.1, h.1.2.2.1.of (e 1 0 1 (by omega) (by omega) (by omega) (by omega)) (fun j => e 2 0 j (by omega) (by omega) (by omega) (by omega)), f16, ?_, fun j hj => ?_⟩, ⟨h.2.1.1.of (fun a i j q => e a i j (by omega) (by omega) (by omega) (by omega)), h.2.1.2.1.of (e 40 0 2 (by omega) (by omega) (by omega) (by omega)) (fun j => e 41 0 j (by omega) (by omega) (by omega) (by omega)), upN_eq _ _ _ _ _, ?_, fun j hj => ?_⟩, ?_, fun k => ?_⟩
  · have := h.Y.2.1; omega
  · rw [e 17 0 j (by omega) (by omega) (by omega) (by omega)]; exact h.Y.2.2 j (by omega)
  · have := h.Y.2.1; omega
  · rw [e 55 0 j (by omega) (by omega) (by omega) (by omega)]; exact h.Z.2.2 j (by omega)
  · rw [e 40 0 22 (by omega) (by omega) (by omega) (by omega), e 0 0 9 (by omega) (by omega) (by omega) (by omega)]; exact h.e9
  · rw [e 54 0 k (by omega) (by omega) (by omega) (by omega), e 19 0 k (by omega) (by omega) (by omega) (by omega)]; exact h.2.2.2 k
end Both4
