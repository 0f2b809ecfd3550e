/-! own text: the class reads its desk -/
/-- nothing but the Reader and the Rules r has changed -/
def FrE (r : Nat) (N N' : Nm) : Prop := ∀ k i j, ¬ (k = 1 ∧ 2 ≤ j) → ¬ ((k = 20 ∨ k = 21 ∨ k = 26 ∨ k = 27) ∧ i = r) → ¬ ((k = 23 ∨ k = 25) ∧ 7 * r ≤ i ∧ i < 7 * r + 7) → ¬ ((k = 29 ∨ k = 31 ∨ k = 33 ∨ k = 35) ∧ 6 * r ≤ i ∧ i < 6 * r + 6) → N' k i j = N k i j
theorem FrE.rf (r : Nat) (N : Nm) : FrE r N N := fun _ _ _ _ _ _ _ => rfl
theorem FrE.tr {r : Nat} {A B C : Nm} (h1 : FrE r A B) (h2 : FrE r B C) : FrE r A C := fun k i j q z y x => (h2 k i j q z y x).trans (h1 k i j q z y x)
theorem FrD.e {r : Nat} {A B : Nm} (h : FrD r A B) : FrE r A B := fun k i j q z y x => h k i j (by omega) z y x
theorem RuQ.stP {N N' : Nm} {r n : Nat} {d : Dk} {G : Nat → Int} {M : Nat → Nat} (h : RuQ N r d) (hA : dA d ≤ 6) (hf : ∀ k i j, 20 ≤ k → k ≤ 35 → ¬ (k = 21 ∧ i = r ∧ j = 6) → ¬ ((k = 23 ∨ k = 25) ∧ i = 7 * r + 6) → N' k i j = N k i j) (hT : RowT N' r 6 n G M) : RuI N' r (setP d n G M) := by
  refine ⟨by rw [hf 20 _ _ (by omega) (by omega) (by omega) (by omega)]; exact h.1, by rw [hf 20 _ _ (by omega) (by omega) (by omega) (by omega)]; exact h.2.1, fun a ha => ?_, fun a ha => ?_, fun a ha q hq => ?_⟩
  · show N' 21 r a = (upf (dT d) 6 n a : Nat) ∧ ∀ j, j < upf (dT d) 6 n a → N' 23 (7 * r + a) j = (upf (dM d) 6 M a j : Nat) ∧ N' 25 (7 * r + a) j = upf (dG d) 6 G a j
    by_cases e : a = 6
    · subst e
      rw [upf_eq, upf_eq, upf_eq]
      exact hT
    · rw [upf_ne e, upf_ne e, upf_ne e]
      have ha : a < dA d ∨ a = 6 := ha
      obtain ⟨a1, -⟩ := h.2.2 a (by omega)
      exact ⟨by rw [hf 21 _ _ (by omega) (by omega) (by omega) (by omega)]; exact a1.1, fun j hj => by rw [hf 23 _ _ (by omega) (by omega) (by omega) (by omega), hf 25 _ _ (by omega) (by omega) (by omega) (by omega)]; exact a1.2 j hj⟩
  · have ha : a < dA d := ha
    obtain ⟨-, a2, a3, -⟩ := h.2.2 a ha
    exact ⟨by rw [hf 26 _ _ (by omega) (by omega) (by omega) (by omega)]; exact a3, by rw [hf 27 _ _ (by omega) (by omega) (by omega) (by omega)]; exact a2.1, fun q hq => by rw [hf 29 _ _ (by omega) (by omega) (by omega) (by omega), hf 31 _ _ (by omega) (by omega) (by omega) (by omega), hf 33 _ _ (by omega) (by omega) (by omega) (by omega)]; exact a2.2 q hq⟩
  · have ha : a < dA d := ha
    obtain ⟨-, -, -, a4⟩ := h.2.2 a ha
    rw [hf 35 _ _ (by omega) (by omega) (by omega) (by omega), a4 q hq]
    exact (bas_cg (d := d) (d' := setP d n G M) (fun q => rfl) (fun q => rfl) (fun q => rfl) q).symm
section Read5
variable {K : Kx} {N : Nm} {g : Ge} {T : Nat → Int} {L p r : Nat} {d : Dk}
theorem c_clear {Pq : Nm → Ge → Prop} (hq : ∀ N', FrD r N N' → (∀ k i j, k < 20 → N' k i j = N k i j) → RuQ N' r dk0 → ClN N' r 0 → Pq N' g) : Ck K YX5_clear hX5_clear [vr 20 r] N g (qV Pq) := by
  refine Ck.intro 0 (by decide) rfl ?_
  show AW _ _ _ _ _ [some (vr 20 r)] _ _ _
  refine ld_a0 iX5_clear_0 ?_
  refine r_iconst iX5_clear_1 ?_
  refine pf_X5_accounts kFX5_9 iX5_clear_2 ?_
  refine ld_a0 iX5_clear_5 ?_
  refine r_iconst iX5_clear_6 ?_
  refine pf_X5_benefit kFX5_15 iX5_clear_7 ?_
  refine ld_a0 iX5_clear_10 ?_
  refine gf_X5_termCounts kFX5_18 iX5_clear_11 ?_
  refine r_iconst iX5_clear_14 ?_
  refine xJ7_fill_53178 kMX5_50 iX5_clear_15 (by decide) (Nat.le_of_ble_eq_true rfl) rfl rfl ?_
  refine c_fill (k := 21) (i := r) (L := 7) rfl rfl (by omega) (fun N1 a1 a2 => ?_)
  refine ld_a0 iX5_clear_18 ?_
  refine gf_X5_segmentCounts kFX5_33 iX5_clear_19 ?_
  refine r_iconst iX5_clear_22 ?_
  refine xJ7_fill_53178 kMX5_50 iX5_clear_23 (by decide) (Nat.le_of_ble_eq_true rfl) rfl rfl ?_
  refine c_fill (k := 27) (i := r) (L := 6) rfl rfl (by omega) (fun N2 b1 b2 => ?_)
  refine t_void rfl iX5_clear_26 ?_
  refine hq N2 (fun k i j z1 z2 z3 z4 => ?_) (fun k i j z => ?_) ⟨?_, ?_, fun a ha => absurd ha (Nat.not_lt_zero a)⟩ (fun a z1 z2 => ⟨?_, fun z => b2 a (by omega)⟩)
  · rw [b1 k i j (by omega), a1 k i j (by omega), show ∀ A v, upN A 20 r 1 v k i j = A k i j from fun A v => if_neg (fun y => by omega), show ∀ A v, upN A 20 r 0 v k i j = A k i j from fun A v => if_neg (fun y => by omega)]
  · rw [b1 k i j (by omega), a1 k i j (by omega), upN_k (by omega), upN_k (by omega)]
  · rw [b1 20 r 0 (by omega), a1 20 r 0 (by omega), upN_j (by decide), upN_eq]; rfl
  · rw [b1 20 r 1 (by omega), a1 20 r 1 (by omega), upN_eq]; rfl
  · rw [b1 21 r a (by omega)]; exact a2 a (by omega)
theorem c_readBenefit {Pq : Int → Nm → Ge → Prop} (hR : Rd N T L p) (hp : p < L) (hq : ∀ z N', (z = 0 ∨ z = 1) → FrE r N N' → Imp (z = 1) (∃ p' v, pNum T L (p + 1) 0 999 = .inr (p', v) ∧ Rd N' T L p' ∧ N' 1 0 4 = 1 ∧ N' 20 r 1 = v ∧ ∀ k i j, 20 ≤ k → ¬ (k = 20 ∧ i = r ∧ j = 1) → N' k i j = N k i j) → Imp (z = 0) (∃ w : Nat, pNum T L (p + 1) 0 999 = .inl w ∧ N' 1 0 3 = (w : Int)) → Pq z N' g) : Ck K YX4_readBenefit hX4_readBenefit [vr 1 0, vr 20 r] N g (qI Pq) := by
  have t4 := hR.1.2.1
  refine Ck.intro 1 (by decide) rfl ?_
  show AW _ _ _ _ _ [some (vr 1 0), some (vr 20 r), none] _ _ _
  refine ld_a0 iX4_readBenefit_0 ?_
  refine r_dup rfl iX4_readBenefit_1 ?_
  refine gf_X4_place kFX4_19 iX4_readBenefit_2 ?_
  rw [hR.2.1]
  refine r_iconst iX4_readBenefit_5 ?_
  refine r_iadd iX4_readBenefit_6 ?_
  refine pf_X4_place kFX4_19 iX4_readBenefit_7 ?_
  have f0 : FrC N (upN N 1 0 2 ((p : Int) + 1)) := (FrC.rf N).up (Or.inl rfl)
  refine ld_a0 iX4_readBenefit_10 ?_
  refine r_iconst iX4_readBenefit_11 ?_
  refine r_sipush (by decide) iX4_readBenefit_12 ?_
  refine xX4_readNumber kMX4_59 iX4_readBenefit_15 (by decide) (Nat.le_of_ble_eq_true rfl) rfl rfl ?_
  refine c_readNumber (p := p + 1) (by omega) (by omega) (hR.go (by omega) (by omega) rfl) (fun z1 N1 hz1 f1 a0 a1 => ?_)
  have f01 := f0.tr f1
  refine sv_i2 (by decide) rfl iX4_readBenefit_18 ?_
  refine ld_i2 iX4_readBenefit_19 ?_
  refine r_iconst iX4_readBenefit_20 ?_
  refine r_icmpne iX4_readBenefit_21 (by omega) (by omega) (fun h21 => ?_) (fun h21 => ?_)
  · obtain ⟨p2, hp2, e2⟩ := a1 h21
    refine ld_a1 iX4_readBenefit_26 ?_
    refine ld_i2 iX4_readBenefit_27 ?_
    refine pf_X5_benefit kFX4_63 iX4_readBenefit_28 ?_
    refine ld_a0 iX4_readBenefit_31 ?_
    refine r_iconst iX4_readBenefit_32 ?_
    refine pf_X4_benefitTold (by omega) kFX4_25 iX4_readBenefit_33 ?_
    refine r_iconst iX4_readBenefit_36 ?_
    refine t_bool rfl (by omega) iX4_readBenefit_37 ?_
    refine hq 1 _ (by omega) (fun k i j q1 q2 q3 q4 => ?_) (fun _ => ⟨p2, z1, hp2, ?_, upN_eq _ _ _ _ _, ?_, fun k i j q1 q2 => ?_⟩) (fun z => by omega)
    · rw [show ∀ A v, upN A 1 0 4 v k i j = A k i j from fun A v => if_neg (fun y => by omega), show ∀ A v, upN A 20 r 1 v k i j = A k i j from fun A v => if_neg (fun y => by omega)]; exact f01 k i j (by omega)
    · exact ⟨e2.1.of (by rw [upN_j (by decide), upN_k (by decide)]) (fun j => by rw [upN_k (by decide), upN_k (by decide)]), by rw [upN_j (by decide), upN_k (by decide)]; exact e2.2.1, by rw [upN_j (by decide), upN_k (by decide)]; exact e2.2.2.1, e2.2.2.2⟩
    · rw [upN_k (by decide), upN_eq]
    · rw [upN_k (by omega), show ∀ A v, upN A 20 r 1 v k i j = A k i j from fun A v => if_neg (fun y => by omega)]; exact f01 k i j (by omega)
  · refine r_iconst iX4_readBenefit_24 ?_
    refine t_bool rfl (by omega) iX4_readBenefit_25 ?_
    obtain ⟨w, hw, h3⟩ := a0 h21
    exact hq 0 N1 (by omega) (f01.d r).e (fun z => by omega) (fun _ => ⟨w, hw, h3⟩)
theorem c_readPaid {Pq : Nm → Ge → Prop} (hR : Rd N T L p) (hp : p < L) (hQ : RuQ N r d) (hW : WP d) (hC : ClN N r (dA d)) (hq : ∀ N', FrD r N N' → ((∃ d', pPaid T L d p = .inr d' ∧ N' 1 0 3 = -1 ∧ RuI N' r d') ∨ ∃ w : Nat, pPaid T L d p = .inl w ∧ N' 1 0 3 = (w : Int)) → Pq N' g) : Ck K YX4_readPaid hX4_readPaid [vr 1 0, vr 20 r] N g (qV Pq) := by
  have t4 := hR.1.2.1
  have hA := hW.1
  have hC0 := hC 6 hA (by omega)
  refine Ck.intro 0 (by decide) rfl ?_
  show AW _ _ _ _ _ [some (vr 1 0), some (vr 20 r)] _ _ _
  have t46 : ∀ N', Pq N' g → AW K YX4_readPaid hX4_readPaid (qV Pq) 46 [some (vr 1 0), some (vr 20 r)] [] N' g := by
    intro N' hN'
    refine t_void rfl iX4_readPaid_46 ?_
    exact hN'
  refine ld_a0 iX4_readPaid_0 ?_
  refine r_dup rfl iX4_readPaid_1 ?_
  refine gf_X4_place kFX4_19 iX4_readPaid_2 ?_
  rw [hR.2.1]
  refine r_iconst iX4_readPaid_5 ?_
  refine r_iadd iX4_readPaid_6 ?_
  refine pf_X4_place kFX4_19 iX4_readPaid_7 ?_
  have f0 : FrC N (upN N 1 0 2 ((p : Int) + 1)) := (FrC.rf N).up (Or.inl rfl)
  refine ld_a0 iX4_readPaid_10 ?_
  refine r_bipush (by decide) iX4_readPaid_11 ?_
  refine xX4_take kMX4_56 iX4_readPaid_13 (by decide) (Nat.le_of_ble_eq_true rfl) rfl rfl ?_
  refine c_take (p := p + 1) (by omega) (hR.go (by omega) (by omega) rfl) (fun z1 N1 hz1 f1 b1 b0 => ?_)
  have f01 := f0.tr f1
  refine r_ifeq iX4_readPaid_16 (by omega) (fun h16 => ?_) (fun h16 => ?_)
  · first
      | (obtain ⟨n1, h3⟩ := b0 h16
         exact t46 N1 (hq N1 (f01.d r) (Or.inr ⟨_, by unfold pPaid; rw [if_neg n1], h3⟩)))
      | (obtain ⟨w, hw, h3⟩ := a0 h26
         exact t46 N2 (hq N2 (f02.d (by omega)) (Or.inr ⟨w, by unfold pPaid; rw [if_pos n1, hw], h3⟩)))
      | exact t46 N3 (hq N3 ((f02.d (by omega)).tr (f3.d r)) (Or.inl ⟨setP d n G M, by unfold pPaid; rw [if_pos n1, hp2]; simp only; rw [if_pos h34], e3.2.2.1, hQ.stP hA (fun k i j q1 q2 q3 q4 => by rw [f3 k i j (by omega), f02 k i j (by omega) q3 q4]) (eT.c f3)⟩))
      | exact t46 _ (hq _ (((f02.d (by omega)).tr (f3.d r)).tr (((FrC.rf N3).up (by omega)).d r)) (Or.inr ⟨_, by unfold pPaid; rw [if_pos n1, hp2]; simp only; rw [if_neg h34], upN_eq _ _ _ _ _⟩))
  · obtain ⟨n1, l1, e1⟩ := b1 (by omega)
    refine ld_a0 iX4_readPaid_19 ?_
    refine ld_a1 iX4_readPaid_20 ?_
    refine r_bipush (by decide) iX4_readPaid_21 ?_
    refine xX4_readTerms kMX4_66 iX4_readPaid_23 (by decide) (Nat.le_of_ble_eq_true rfl) rfl rfl ?_
    refine c_readTerms (r := r) (a := 6) (A := dA d) (by omega) hA e1 (by rw [f01 20 _ _ (by omega)]; exact hQ.1) (by rw [f01 21 _ _ (by omega)]; exact hC0.1) (fun z2 N2 hz2 f2 a1 a0 => ?_)
    have f02 := (f01.t r 6).tr f2
    refine r_ifeq iX4_readPaid_26 (by omega) (fun h26 => ?_) (fun h26 => ?_)
    · first
        | (obtain ⟨n1, h3⟩ := b0 h16
           exact t46 N1 (hq N1 (f01.d r) (Or.inr ⟨_, by unfold pPaid; rw [if_neg n1], h3⟩)))
        | (obtain ⟨w, hw, h3⟩ := a0 h26
           exact t46 N2 (hq N2 (f02.d (by omega)) (Or.inr ⟨w, by unfold pPaid; rw [if_pos n1, hw], h3⟩)))
        | exact t46 N3 (hq N3 ((f02.d (by omega)).tr (f3.d r)) (Or.inl ⟨setP d n G M, by unfold pPaid; rw [if_pos n1, hp2]; simp only; rw [if_pos h34], e3.2.2.1, hQ.stP hA (fun k i j q1 q2 q3 q4 => by rw [f3 k i j (by omega), f02 k i j (by omega) q3 q4]) (eT.c f3)⟩))
        | exact t46 _ (hq _ (((f02.d (by omega)).tr (f3.d r)).tr (((FrC.rf N3).up (by omega)).d r)) (Or.inr ⟨_, by unfold pPaid; rw [if_pos n1, hp2]; simp only; rw [if_neg h34], upN_eq _ _ _ _ _⟩))
    · obtain ⟨p2, n, G, M, hp2, e2, eT⟩ := a1 (by omega)
      refine ld_a0 iX4_readPaid_29 ?_
      refine xX4_look kMX4_34 iX4_readPaid_30 (by decide) (Nat.le_of_ble_eq_true rfl) rfl rfl ?_
      refine c_look e2 (fun N3 f3 e3 => ?_)
      have hb := tat_r e3.1 (sk T L p2)
      refine r_iconst iX4_readPaid_33 ?_
      refine r_icmpeq iX4_readPaid_34 (by omega) (by omega) (fun h34 => ?_) (fun h34 => ?_)
      · first
          | (obtain ⟨n1, h3⟩ := b0 h16
             exact t46 N1 (hq N1 (f01.d r) (Or.inr ⟨_, by unfold pPaid; rw [if_neg n1], h3⟩)))
          | (obtain ⟨w, hw, h3⟩ := a0 h26
             exact t46 N2 (hq N2 (f02.d (by omega)) (Or.inr ⟨w, by unfold pPaid; rw [if_pos n1, hw], h3⟩)))
          | exact t46 N3 (hq N3 ((f02.d (by omega)).tr (f3.d r)) (Or.inl ⟨setP d n G M, by unfold pPaid; rw [if_pos n1, hp2]; simp only; rw [if_pos h34], e3.2.2.1, hQ.stP hA (fun k i j q1 q2 q3 q4 => by rw [f3 k i j (by omega), f02 k i j (by omega) q3 q4]) (eT.c f3)⟩))
          | exact t46 _ (hq _ (((f02.d (by omega)).tr (f3.d r)).tr (((FrC.rf N3).up (by omega)).d r)) (Or.inr ⟨_, by unfold pPaid; rw [if_pos n1, hp2]; simp only; rw [if_neg h34], upN_eq _ _ _ _ _⟩))
      · refine ld_a0 iX4_readPaid_37 ?_
        refine ld_a0 iX4_readPaid_38 ?_
        refine gf_X4_place kFX4_19 iX4_readPaid_39 ?_
        rw [e3.2.1]
        refine xX4_fail kMX4_52 iX4_readPaid_42 (by decide) (Nat.le_of_ble_eq_true rfl) rfl rfl ?_
        refine c_fail ?_
        refine r_pop rfl iX4_readPaid_45 ?_
        first
          | (obtain ⟨n1, h3⟩ := b0 h16
             exact t46 N1 (hq N1 (f01.d r) (Or.inr ⟨_, by unfold pPaid; rw [if_neg n1], h3⟩)))
          | (obtain ⟨w, hw, h3⟩ := a0 h26
             exact t46 N2 (hq N2 (f02.d (by omega)) (Or.inr ⟨w, by unfold pPaid; rw [if_pos n1, hw], h3⟩)))
          | exact t46 N3 (hq N3 ((f02.d (by omega)).tr (f3.d r)) (Or.inl ⟨setP d n G M, by unfold pPaid; rw [if_pos n1, hp2]; simp only; rw [if_pos h34], e3.2.2.1, hQ.stP hA (fun k i j q1 q2 q3 q4 => by rw [f3 k i j (by omega), f02 k i j (by omega) q3 q4]) (eT.c f3)⟩))
          | exact t46 _ (hq _ (((f02.d (by omega)).tr (f3.d r)).tr (((FrC.rf N3).up (by omega)).d r)) (Or.inr ⟨_, by unfold pPaid; rw [if_pos n1, hp2]; simp only; rw [if_neg h34], upN_eq _ _ _ _ _⟩))
end Read5
