/-! own text: the class and the reference answer alike: account, caught or not -/
section Both8
variable {K : Kx} {d : Dk} {wg : Nat → Int} {p : Nat} {T : Nat → Int} {L : Nat} {N : Nm} {g : Ge}
theorem InvD.up {k i j : Nat} {v : Int} (h : InvD d wg p T L N g) (hk : 60 ≤ k) : InvD d wg p T L (upN N k i j v) g :=
  ⟨h.1.of (fun a b c q1 _ => upN_k (by omega)), h.2.1.of (fun a b c q1 q2 q3 => upN_k (by omega)), by rw [upN_k (by omega), upN_k (by omega)]; exact h.e9, fun c => by rw [upN_k (by omega), upN_k (by omega)]; exact h.2.2.2 c⟩
theorem q_account {a w : Int} (h : InvD d wg p T L N g) (ua : rI a) (uw : rI w) (h99 : 1 ≤ N 99 0 0) : CkW K YL_account hL_account tbA [vr 0 0, vi a, vi w, vr 60 0] N g (qI (fun z N1 g1 => (∀ i j, N1 61 i j = N 61 i j) ∧ Ck K YX10_account hX10_account [vr 40 0, vi a, vi w] N1 g1 (qI (fun b N2 g2 => N2 40 0 0 = z ∧ ((z = 0 ∧ N2 60 0 0 = b ∧ rI b) ∨ z = 1) ∧ Fin2 N N2 g2)))) := by
  refine l_account h.X ua uw (fun hg r N1 g1 e1 er h1 => ?_) (fun _ => h99) (fun hn => ?_)
  · have h2 := (h.x h1).up (k := 60) (i := 0) (j := 0) (v := r) (by omega)
    have h22 : upN N1 60 0 0 r 40 0 22 = N 0 0 9 := (upN_k (by decide)).trans (h.x9 h1)
    have s1 : ScE N (upN N1 60 0 0 r) := (ScE.x h1).tr ⟨fun i j => upN_k (by decide), upN_k (by decide)⟩
    refine ⟨s1.1, m_account h2.M ua uw (fun _ r' N2 e2 f h0 => ⟨h0, Or.inl ⟨rfl, ?_, ?_⟩, Fin2.of (s1.tr (ScE.v f)) (h2.m f).i⟩) (fun hn => absurd ⟨h22.trans hg.1, hg.2⟩ hn)⟩
    · rw [f 60 0 0 (by omega) (by omega), upN_eq]
      exact e1.uq hg.2.2 e2
    · rw [e2.uq hg.2.2 e1]
      exact er
  · have h2 : InvD d wg p T L (gh N) g := h.up (by omega)
    have h22 : gh N 40 0 22 = N 0 0 9 := (upN_k (by decide)).trans h.e9
    refine ⟨fun i j => upN_k (by decide), m_account h2.M ua uw (fun hg => absurd ⟨h22.symm.trans hg.1, hg.2⟩ hn) (fun _ N2 f h0 => ⟨h0, Or.inr rfl, fun i j => ?_, ?_, (h2.m f).i⟩)⟩
    · rw [f 61 i j (by omega) (by omega)]; exact upN_k (by decide)
    · rw [f 99 0 0 (by omega) (by omega), show gh N 99 0 0 = N 99 0 0 - 1 from upN_eq _ _ _ _ _]; omega
theorem m_thrown {Pq : Int → Nm → Ge → Prop} (hq : Pq (N 40 0 0) N g) : Ck K YX10_thrown hX10_thrown [vr 40 0] N g (qI Pq) := by
  refine Ck.intro 0 (by decide) rfl ?_
  show AW _ _ _ _ _ [some (vr 40 0)] _ _ _
  refine ld_a0 iX10_thrown_0 ?_
  refine gf_X10_thrown kFX10_72 iX10_thrown_1 ?_
  refine t_int rfl iX10_thrown_4 ?_
  exact hq
end Both8
