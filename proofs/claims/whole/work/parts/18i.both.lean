/-! own text: the class and the reference answer alike: feed, bend -/
section Both7
variable {K : Kx} {d : Dk} {wg : Nat → Int} {p : Nat} {T : Nat → Int} {L : Nat} {N : Nm} {g : Ge}
theorem q_feed {a b c e f : Int} (h : InvD d wg p T L N g) : BoI K YX9_feed YX10_feed hX9_feed hX10_feed [vi a, vi b, vi c, vi e, vi f] N g := by
  have hL := h.1.2.2.1
  have hL' := h.2.1.2.1
  refine x_feed hL.1 hL.2.1 (fun hg N1 f1 f2 hx => ?_) (fun hn => ⟨ScE.rf N, m_feed hL'.1 hL'.2.1 (fun hg => absurd hg hn) (fun _ N2 f => ⟨rfl, h.fm f⟩)⟩)
  have s1 : ScE N N1 := ⟨fun i j => f1 61 i j (by omega), f1 99 0 0 (by omega)⟩
  have hM : N1 40 0 2 = L := (f1 40 0 2 (by omega)).trans hL'.1
  refine ⟨s1, m_feed hM hL'.2.1 (fun _ N2 k1 hm => ⟨rfl, ?_⟩) (fun hn => absurd hg hn)⟩
  have e1 : ∀ k i j, k ≠ 1 → k ≠ 2 → k ≠ 41 → ¬ (k = 40 ∧ (j = 0 ∨ j = 2)) → N2 k i j = N k i j := fun k i j q1 q2 q3 q4 => by rw [k1 k i j q3 q4, f1 k i j (by omega)]
  refine Fin2.of ⟨fun i j => e1 61 i j (by omega) (by omega) (by omega) (by omega), e1 99 0 0 (by omega) (by omega) (by omega) (by omega)⟩ ⟨d, wg, p, fun j => apT (fun j => N 2 0 j) L (by5 a b c e f) 20 j, L + ct (nzB (by5 a b c e f)) 20, ⟨h.1.1.of2 (fun k i j q => e1 k i j (by omega) (by omega) (by omega) (by omega)), h.1.2.1, ⟨?_, hg, fun j hj => ⟨?_, ?_⟩⟩, ?_, h.Y.2.1, fun j hj => ?_⟩, ⟨h.2.1.1.of (fun k i j q => e1 k i j (by omega) (by omega) (by omega) (by omega)), ⟨?_, hg, fun j hj => ⟨?_, ?_⟩⟩, ?_, h.Z.2.1, fun j hj => ?_⟩, ?_, fun k => ?_⟩
  · rw [k1 1 0 1 (by omega) (by omega), hx.1]; omega
  · rw [k1 2 0 j (by omega) (by omega), hx.2 j]
  · exact apT_r (fun j hj => by rw [(hL.2.2 j hj).1]; exact (hL.2.2 j hj).2) (fun k => byt_r _ _) 20 j hj
  · rw [e1 16 0 1 (by omega) (by omega) (by omega) (by omega)]; exact h.Y.1
  · rw [e1 17 0 j (by omega) (by omega) (by omega) (by omega)]; exact h.Y.2.2 j hj
  · rw [hm.1]; omega
  · rw [hm.2 j]
    exact apT_cg (fun j hj => by rw [f1 41 0 j (by omega), (hL'.2.2 j hj).1, (hL.2.2 j hj).1]) 20 j hj
  · exact apT_r (fun j hj => by rw [(hL.2.2 j hj).1]; exact (hL.2.2 j hj).2) (fun k => byt_r _ _) 20 j hj
  · rw [e1 40 0 25 (by omega) (by omega) (by omega) (by omega)]; exact h.Z.1
  · rw [e1 55 0 j (by omega) (by omega) (by omega) (by omega)]; exact h.Z.2.2 j hj
  · rw [e1 40 0 22 (by omega) (by omega) (by omega) (by omega), e1 0 0 9 (by omega) (by omega) (by omega) (by omega)]; exact h.e9
  · rw [e1 54 0 k (by omega) (by omega) (by omega) (by omega), e1 19 0 k (by omega) (by omega) (by omega) (by omega)]; exact h.2.2.2 k
theorem q_bend {a s w v : Int} (h : InvD d wg p T L N g) (ua : rI a) (us : rI s) (uw : rI w) (uv : rI v) : BoI K YX9_bend YX10_bend hX9_bend hX10_bend [vi a, vi s, vi w, vi v] N g := by
  refine x_bend h.X ua us uw uv (fun h9 hs hw hok hne N1 e1 e2 hX => ?_) (fun k hc => ⟨ScE.u19, ?_⟩)
  · have s1 : ScE N N1 := ⟨fun i j => e2 61 i j (by omega), e2 99 0 0 (by omega)⟩
    have hm1 : InM d wg p T L N1 := h.2.1.of (fun k i j q1 _ _ => e2 k i j (by omega))
    have h22 : N1 40 0 22 = 1 := (e2 40 0 22 (by omega)).trans (h.e9.trans h9)
    refine ⟨s1, m_bend hm1.1 ua us uw uv (fun _ _ _ _ _ M1 f => ⟨rfl, ?_⟩) (fun k hc => ?_)⟩
    · have m1 := hm1.v f
      have e3 : ∀ k i j, k ≠ 51 → upN M1 51 0 (3 * (6 * a.toNat + s.toNat) + w.toNat) v k i j = M1 k i j := fun k i j q => upN_k q
      have e4 : ∀ k i j, k < 40 ∨ k = 54 ∨ 60 ≤ k → upN M1 51 0 (3 * (6 * a.toNat + s.toNat) + w.toNat) v k i j = N1 k i j := fun k i j q => by rw [e3 k i j (by omega), f k i j (by omega) (by omega)]
      obtain ⟨w1, w2, w3⟩ := m1.1
      have hM22 : M1 40 0 22 = 1 := (f 40 0 22 (by omega) (by omega)).trans h22
      obtain ⟨v1, v2, v3⟩ := w3 hM22
      have h91 : N1 0 0 9 = 1 := (e1 0 0 9 (by omega) (by omega)).trans h9
      have hWb := (hX.2.2 h91).1
      have hI := hs
      unfold IsSg at hI
      refine Fin2.of ⟨fun i j => by rw [e4 61 i j (by omega), e2 61 i j (by omega)], by rw [e4 99 0 0 (by omega), e2 99 0 0 (by omega)]⟩ ⟨bnd d a.toNat s.toNat w.toNat v, wg, p, T, L, ⟨hX.of (fun k i j q => e4 k i j (by omega)), h.1.2.1, h.1.2.2.1.of (by rw [e4 1 0 1 (by omega), e1 1 0 1 (by omega) (by omega)]) (fun j => by rw [e4 2 0 j (by omega), e1 2 0 j (by omega) (by omega)]), ?_, h.Y.2.1, fun j hj => ?_⟩, ⟨⟨by rw [e3 40 0 22 (by omega)]; exact w1, by rw [e3 40 0 27 (by omega)]; exact w2, fun _ => ⟨hWb, MoI.bnd v2 v1 (by omega) (by omega) (by omega), by rw [e3 40 0 20 (by omega)]; exact v3⟩⟩, m1.2.1.of (e3 40 0 2 (by omega)) (fun j => e3 41 0 j (by omega)), ?_, h.Y.2.1, fun j hj => ?_⟩, ?_, fun k => ?_⟩
      · rw [e4 16 0 1 (by omega), e1 16 0 1 (by omega) (by omega)]; exact h.Y.1
      · rw [e4 17 0 j (by omega), e1 17 0 j (by omega) (by omega)]; exact h.Y.2.2 j hj
      · rw [e3 40 0 25 (by omega)]; exact m1.2.2.1
      · rw [e3 55 0 j (by omega)]; exact m1.2.2.2.2 j hj
      · rw [e3 40 0 22 (by omega), hM22, e4 0 0 9 (by omega)]; exact h91.symm
      · rw [e4 54 0 k (by omega), e4 19 0 k (by omega), e2 54 0 k (by omega), e1 19 0 k (by omega) (by omega)]; exact h.2.2.2 k
    · exfalso
      rcases hc with ⟨-, c⟩ | ⟨-, -, c⟩ | ⟨-, -, -, c⟩
      · exact c ⟨h22, hs, hw⟩
      · exact c hok
      · exact hne c
  · have h22 : upN N 19 0 k (N 19 0 k + 1) 40 0 22 = N 0 0 9 := (upN_k (by decide)).trans h.e9
    refine m_bend h.M19.1 ua us uw uv (fun q1 q2 q3 q4 q5 => ?_) (fun k' hc' N2 f => ?_)
    · exfalso
      rw [h22] at q1
      rcases hc with ⟨-, c⟩ | ⟨-, -, c⟩ | ⟨-, -, -, c⟩
      · exact c ⟨q1, q2, q3⟩
      · exact c q4
      · exact q5 c
    · rw [h22] at hc'
      have ek : k' = k := by
        rcases hc with ⟨c0, c⟩ | ⟨c0, c, c1⟩ | ⟨c0, c, c1, c2⟩ <;> rcases hc' with ⟨d0, c'⟩ | ⟨d0, c', c1'⟩ | ⟨d0, c', c1', c2'⟩
        · rw [c0, d0]
        · exact absurd c' c
        · exact absurd c' c
        · exact absurd c c'
        · rw [c0, d0]
        · exact absurd c1' c1
        · exact absurd c c'
        · exact absurd c1 c1'
        · rw [c0, d0]
      subst ek
      exact ⟨rfl, h.ref f⟩
end Both7
