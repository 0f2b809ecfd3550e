/-! own text: the class and the reference answer alike: end, spell, would, fault, desk -/
theorem XS.of2 {N N' : Nm} {g : Ge} {d : Dk} (h : XS N g d) (hN : ∀ k i j, (k = 0 ∧ (j = 9 ∨ j = 10)) ∨ k = 10 ∨ (12 ≤ k ∧ k ≤ 15) ∨ (20 ≤ k ∧ k ≤ 35) → N' k i j = N k i j) : XS N' g d :=
  ⟨by rw [hN 0 0 9 (by omega)]; exact h.1, h.2.1, fun q => by
    rw [hN 0 0 9 (by omega)] at q
    obtain ⟨h1, h2, h3, h4⟩ := h.2.2 q
    refine ⟨h1, h2.of (fun k a j q1 q2 => hN k a j (by omega)), by rw [hN 0 0 10 (by omega)]; exact h3, fun q2 => ?_⟩
    rw [hN 0 0 10 (by omega)] at q2
    exact Dr.fr h1.1 (h4 q2) (fun k i j q3 _ => hN k i j (by omega)) (fun _ _ => rfl)⟩
section Both6
variable {K : Kx} {d : Dk} {wg : Nat → Int} {p : Nat} {T : Nat → Int} {L : Nat} {N : Nm} {g : Ge}
theorem q_end {n : Int} (h : InvD d wg p T L N g) (un : rI n) : BoI K YX9_end YX10_end hX9_end hX10_end [vi n] N g := by
  have hL := h.1.2.2.1
  have hL' := h.2.1.2.1
  refine x_end hL.1 hL.2.1 un (fun hg => ?_) (fun hn => ⟨ScE.rf N, m_end hL'.1 hL'.2.1 un (fun hg => absurd hg hn) (fun _ N2 f => ⟨rfl, h.fm f⟩)⟩)
  have hM : upN N 1 0 1 n 40 0 2 = L := (upN_k (by decide)).trans hL'.1
  have h400 := hL'.2.1
  refine ⟨⟨fun i j => upN_k (by decide), upN_k (by decide)⟩, m_end hM hL'.2.1 un (fun _ N2 f => ⟨rfl, ?_⟩) (fun hn => absurd hg hn)⟩
  have e : ∀ a i j, ¬ (a = 40 ∧ j = 2) → ¬ (a = 1 ∧ j = 1) → ¬ (56 ≤ a ∧ a ≤ 59) → ¬ (a = 40 ∧ (j = 0 ∨ j = 28 ∨ j = 31 ∨ j = 33)) → upN N2 40 0 2 n a i j = N a i j := fun a i j q1 q2 q3 q4 => by
    rw [show upN N2 40 0 2 n a i j = N2 a i j from if_neg (fun z => q1 ⟨z.1, z.2.2⟩), f a i j q3 q4]
    exact if_neg (fun z => q2 ⟨z.1, z.2.2⟩)
  have e1 : upN N2 40 0 2 n 1 0 1 = n := by rw [upN_k (by decide), f 1 0 1 (by omega) (by omega), upN_eq]
  refine Fin2.of ⟨fun i j => e 61 i j (by omega) (by omega) (by omega) (by omega), e 99 0 0 (by omega) (by omega) (by omega) (by omega)⟩ ⟨d, wg, p, T, n.toNat, ⟨h.1.1.of2 (fun a i j q => e a i j (by omega) (by omega) (by omega) (by omega)), h.1.2.1, ⟨by rw [e1]; omega, by omega, fun j hj => ?_⟩, ?_, h.Y.2.1, fun j hj => ?_⟩, ⟨h.2.1.1.of (fun a i j q => e a i j (by omega) (by omega) (by omega) (by omega)), ⟨by rw [upN_eq]; omega, by omega, fun j hj => ?_⟩, ?_, h.Z.2.1, fun j hj => ?_⟩, ?_, fun k => ?_⟩
  · rw [e 2 0 j (by omega) (by omega) (by omega) (by omega)]; exact hL.2.2 j (by omega)
  · rw [e 16 0 1 (by omega) (by omega) (by omega) (by omega)]; exact h.Y.1
  · rw [e 17 0 j (by omega) (by omega) (by omega) (by omega)]; exact h.Y.2.2 j hj
  · rw [e 41 0 j (by omega) (by omega) (by omega) (by omega)]; exact hL'.2.2 j (by omega)
  · rw [e 40 0 25 (by omega) (by omega) (by omega) (by omega)]; exact h.Z.1
  · rw [e 55 0 j (by omega) (by omega) (by omega) (by omega)]; exact h.Z.2.2 j hj
  · rw [e 40 0 22 (by omega) (by omega) (by omega) (by omega), e 0 0 9 (by omega) (by omega) (by omega) (by omega)]; exact h.e9
  · rw [e 54 0 k (by omega) (by omega) (by omega) (by omega), e 19 0 k (by omega) (by omega) (by omega) (by omega)]; exact h.2.2.2 k
/-- the class has changed only what questions may change, told otherwise -/
theorem InvD.lx {N1 : Nm} (h : InvD d wg p T L N g) (hX : XS N1 g d) (e : ∀ k i j, k = 1 ∧ j = 1 ∨ k = 2 ∨ 16 ≤ k ∧ k ≤ 17 ∨ k = 19 ∨ k = 0 ∧ j = 9 ∨ 36 ≤ k → N1 k i j = N k i j) : InvD d wg p T L N1 g :=
  ⟨⟨hX, h.1.2.1, h.1.2.2.1.of (e 1 0 1 (by omega)) (fun j => e 2 0 j (by omega)), by rw [e 16 0 1 (by omega)]; exact h.Y.1, h.Y.2.1, fun j hj => by rw [e 17 0 j (by omega)]; exact h.Y.2.2 j hj⟩, h.2.1.of (fun k i j q1 _ _ => e k i j (by omega)), by rw [e 40 0 22 (by omega), e 0 0 9 (by omega)]; exact h.e9, fun k => by rw [e 54 0 k (by omega), e 19 0 k (by omega)]; exact h.2.2.2 k⟩
theorem q_spell {a i : Int} (h : InvD d wg p T L N g) (ua : rI a) (ui : rI i) : BoI K YX9_spell YX10_spell hX9_spell hX10_spell [vi a, vi i] N g := by
  refine x_spell h.X ua ui (fun hg N1 f hX => ?_) (fun hn => ⟨ScE.rf N, m_spell h.M ua ui (fun hg N2 h2 => ⟨?_, h.fm h2⟩) (fun _ N2 h2 => ⟨rfl, h.fm h2⟩)⟩)
  · have h1 := h.lx hX (fun k i j q => f k i j (by omega))
    have s1 : ScE N N1 := ⟨fun i j => f 61 i j (by omega), f 99 0 0 (by omega)⟩
    refine ⟨s1, m_spell h1.M ua ui (fun _ N2 h2 => ⟨rfl, Fin2.of (s1.tr (ScE.v h2)) (h1.m h2).i⟩) (fun hn => absurd ⟨h1.e9.trans ((f 0 0 9 (by omega)).trans hg.1), hg.2.1⟩ hn)⟩
  · have hi : ¬ -1 ≤ i := fun c => hn ⟨h.e9.symm.trans hg.1, hg.2, c⟩
    rw [if_neg (by omega)]
    exact if_neg (by omega)
theorem q_would {a s v w : Int} (h : InvD d wg p T L N g) (ua : rI a) (us : rI s) (uv : rI v) (uw : rI w) : BoL K YX9_would YX10_would hX9_would hX10_would [vi a, vi s, vi v, vi w] N g := by
  refine x_would h.X ua us uv uw (fun hg N1 f hX => ?_) (fun hn => ⟨ScE.rf N, m_would h.M ua us uv uw (fun hg => absurd ⟨h.e9.symm.trans hg.1, hg.2⟩ hn) (fun _ N2 h2 => ⟨rfl, h.fm h2⟩)⟩)
  have h1 := h.lx hX (fun k i j q => f k i j (by omega))
  have s1 : ScE N N1 := ⟨fun i j => f 61 i j (by omega), f 99 0 0 (by omega)⟩
  exact ⟨s1, m_would h1.M ua us uv uw (fun _ N2 h2 => ⟨rfl, Fin2.of (s1.tr (ScE.v h2)) (h1.m h2).i⟩) (fun hn => absurd ⟨h1.e9.trans ((f 0 0 9 (by omega)).trans hg.1), hg.2⟩ hn)⟩
theorem InvD.md {N1 N2 : Nm} (s1 : ScE N N1) (h : InvD d wg p T L N1 g) (f : FrMD N1 N2) : Fin2 N N2 g := by
  refine Fin2.of (s1.tr ⟨fun i j => f 61 i j (by omega) (by omega), f 99 0 0 (by omega) (by omega)⟩) ⟨d, wg, p, T, L, h.1.of (fun k i j q1 _ => f k i j (by omega) (by omega)), ⟨h.2.1.1.d f, h.2.1.2.1.of (f 40 0 2 (by omega) (by omega)) (fun j => f 41 0 j (by omega) (by omega)), by rw [f 40 0 25 (by omega) (by omega)]; exact h.Z.1, h.Z.2.1, fun j hj => by rw [f 55 0 j (by omega) (by omega)]; exact h.Z.2.2 j hj⟩, ?_, fun k => ?_⟩
  · rw [f 40 0 22 (by omega) (by omega), f 0 0 9 (by omega) (by omega)]; exact h.e9
  · rw [f 54 0 k (by omega) (by omega), f 19 0 k (by omega) (by omega)]; exact h.2.2.2 k
theorem q_fault (h : InvD d wg p T L N g) : BoI K YX9_fault YX10_fault hX9_fault hX10_fault [] N g := by
  refine x_fault h.X h.1.2.1 h.1.2.2.1 (fun N1 f hX => ?_)
  have h1 := h.lx hX (fun k i j q => f k i j (by omega) (by omega) (by omega) (by omega))
  have s1 : ScE N N1 := ⟨fun i j => f 61 i j (by omega) (by omega) (by omega) (by omega), f 99 0 0 (by omega) (by omega) (by omega) (by omega)⟩
  exact ⟨s1, m_fault h1.2.1.2.1 (fun N2 f2 => ⟨rfl, h1.md s1 f2⟩)⟩
theorem q_desk (h : InvD d wg p T L N g) : BoI K YX9_desk YX10_desk hX9_desk hX10_desk [] N g := by
  refine x_desk h.X h.1.2.1 h.1.2.2.1 (fun w hw N1 f hX => ?_) (fun d' hd hW N1 hX h9 h1 h16 f => ?_)
  · have h1 := h.lx hX (fun k i j q => f k i j (by omega) (by omega) (by omega) (by omega))
    have s1 : ScE N N1 := ⟨fun i j => f 61 i j (by omega) (by omega) (by omega) (by omega), f 99 0 0 (by omega) (by omega) (by omega) (by omega)⟩
    refine ⟨s1, m_desk h1.2.1.2.1 h1.M.2.1 (fun _ _ N2 f2 => ⟨rfl, h1.md s1 f2⟩) (fun d2 hd2 => ?_)⟩
    rw [hw] at hd2
    cases hd2
  · have e : ∀ k i j, k = 2 ∨ k = 17 ∨ k = 19 ∨ 36 ≤ k → N1 k i j = N k i j := fun k i j q => f k i j (by omega) (by omega) (by omega) (by omega) (by omega) (by omega)
    have s1 : ScE N N1 := ⟨fun i j => e 61 i j (by omega), e 99 0 0 (by omega)⟩
    have hm1 : InM d wg p T L N1 := h.2.1.of (fun k i j q1 _ _ => e k i j (by omega))
    refine ⟨s1, m_desk hm1.2.1 hm1.1.2.1 (fun w hw => ?_) (fun d2 hd2 hW2 N2 hM2 h22 h2 h25 f2 => ?_)⟩
    · rw [hd] at hw
      cases hw
    · rw [hd] at hd2
      cases hd2
      refine ⟨rfl, Fin2.of (s1.tr ⟨fun i j => f2 61 i j (by omega) (by omega), f2 99 0 0 (by omega) (by omega)⟩) ⟨d', wg, 0, T, 0, ⟨hX.of (fun k i j q => f2 k i j (by omega) (by omega)), ?_, ⟨by rw [f2 1 0 1 (by omega) (by omega)]; exact h1, by omega, fun j hj => absurd hj (Nat.not_lt_zero j)⟩, by rw [f2 16 0 1 (by omega) (by omega)]; exact h16, by omega, fun j hj => absurd hj (Nat.not_lt_zero j)⟩, ⟨hM2, ⟨h2, by omega, fun j hj => absurd hj (Nat.not_lt_zero j)⟩, h25, by omega, fun j hj => absurd hj (Nat.not_lt_zero j)⟩, ?_, fun k => ?_⟩⟩
      · rcases h.1.2.1 with ⟨q1, q2⟩ | ⟨q1, q2⟩
        · exact Or.inr ⟨q2, q1⟩
        · exact Or.inl ⟨q2, q1⟩
      · rw [h22, f2 0 0 9 (by omega) (by omega)]; exact h9.symm
      · rw [f2 54 0 k (by omega) (by omega), f2 19 0 k (by omega) (by omega), e 54 0 k (by omega), e 19 0 k (by omega)]; exact h.2.2.2 k
end Both6
