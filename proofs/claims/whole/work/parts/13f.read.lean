/-! own text: the class reads rules -/
/-- the Rules r have the accounts of d and its benefit (PAID aside) -/
def RuQ (N : Nm) (r : Nat) (d : Dk) : Prop := N 20 r 0 = dA d ∧ N 20 r 1 = dB d ∧ ∀ a, a < dA d → RowT N r a (dT d a) (dG d a) (dM d a) ∧ RowS N r a (dS d a) (dF d a) (dE d a) (dL d a) ∧ N 26 r a = dD d a ∧ ∀ q, q < dS d a → N 35 (6 * r + a) q = bas d a q
/-- rows from m on are empty -/
def ClN (N : Nm) (r m : Nat) : Prop := ∀ a, m ≤ a → a ≤ 6 → N 21 r a = 0 ∧ (a < 6 → N 27 r a = 0)
/-- nothing but the Reader's place and the Rules r has changed -/
def FrD (r : Nat) (N N' : Nm) : Prop := ∀ k i j, ¬ (k = 1 ∧ (j = 2 ∨ j = 3)) → ¬ ((k = 20 ∨ k = 21 ∨ k = 26 ∨ k = 27) ∧ i = r) → ¬ ((k = 23 ∨ k = 25) ∧ 7 * r ≤ i ∧ i < 7 * r + 7) → ¬ ((k = 29 ∨ k = 31 ∨ k = 33 ∨ k = 35) ∧ 6 * r ≤ i ∧ i < 6 * r + 6) → N' k i j = N k i j
theorem FrD.rf (r : Nat) (N : Nm) : FrD r N N := fun _ _ _ _ _ _ _ => rfl
theorem FrD.tr {r : Nat} {A B C : Nm} (h1 : FrD r A B) (h2 : FrD r B C) : FrD r A C := fun k i j q z y x => (h2 k i j q z y x).trans (h1 k i j q z y x)
theorem FrC.d {A B : Nm} (h : FrC A B) (r : Nat) : FrD r A B := fun k i j q _ _ _ => h k i j q
theorem FrT.d {r a : Nat} {A B : Nm} (h : FrT r a A B) (ha : a < 7) : FrD r A B := fun k i j q z y _ => h k i j q (by omega) (by omega)
theorem FrSg.d {r a : Nat} {A B : Nm} (h : FrSg r a A B) (ha : a < 6) : FrD r A B := fun k i j q z _ y => h k i j q (by omega) (by omega)
theorem FrD.up {r k i j : Nat} {A B : Nm} {v : Int} (h : FrD r A B) (hk : (k = 20 ∨ k = 26) ∧ i = r) : FrD r A (upN B k i j v) := fun k' i' j' q z y x => by
  rw [← h k' i' j' q z y x]
  exact if_neg (fun w => by omega)
theorem RuQ.c {N N' : Nm} {r : Nat} {d : Dk} (h : RuQ N r d) (f : ∀ k i j, 20 ≤ k → k ≤ 35 → N' k i j = N k i j) : RuQ N' r d := by
  refine ⟨by rw [f 20 _ _ (by omega) (by omega)]; exact h.1, by rw [f 20 _ _ (by omega) (by omega)]; exact h.2.1, fun a ha => ?_⟩
  obtain ⟨h1, h2, h3, h4⟩ := h.2.2 a ha
  refine ⟨h1.of (fun k i j z1 z2 => f k i j (by omega) (by omega)), h2.of (fun k i j z1 z2 => f k i j (by omega) (by omega)), by rw [f 26 _ _ (by omega) (by omega)]; exact h3, fun q hq => by rw [f 35 _ _ (by omega) (by omega)]; exact h4 q hq⟩
theorem ClN.c {N N' : Nm} {r m : Nat} (h : ClN N r m) (f : ∀ k i j, 20 ≤ k → k ≤ 35 → N' k i j = N k i j) : ClN N' r m := fun a h1 h2 => ⟨by rw [f 21 _ _ (by omega) (by omega)]; exact (h a h1 h2).1, fun z => by rw [f 27 _ _ (by omega) (by omega)]; exact (h a h1 h2).2 z⟩
theorem bas_cg {d d' : Dk} {a : Nat} (hE : ∀ q, dE d' a q = dE d a q) (hF : ∀ q, dF d' a q = dF d a q) (hL : ∀ q, dL d' a q = dL d a q) : ∀ q, bas d' a q = bas d a q
  | 0 => by rw [bas, bas, hE]
  | q + 1 => by rw [bas, bas, hE, bas_cg hE hF hL q, hF, hF, hL]
section Read6
variable {K : Kx} {N : Nm} {g : Ge} {T : Nat → Int} {L p r : Nat} {d : Dk}
/-- the rows of one account more stand beside those that were there -/
theorem RuQ.add {N6 : Nm} {n m : Nat} {G : Nat → Int} {M : Nat → Nat} {dp : Nat} {F E S : Nat → Int} (h : RuQ N r d) (hA : dA d < 6) (h0 : N6 20 r 0 = (dA d : Int) + 1) (h1 : N6 20 r 1 = N 20 r 1)
    (hf : ∀ k i j, 21 ≤ k → k ≤ 35 → ¬ ((k = 21 ∨ k = 26 ∨ k = 27) ∧ i = r ∧ j = dA d) → ¬ ((k = 23 ∨ k = 25) ∧ i = 7 * r + dA d) → ¬ ((k = 29 ∨ k = 31 ∨ k = 33 ∨ k = 35) ∧ i = 6 * r + dA d) → N6 k i j = N k i j)
    (hT : RowT N6 r (dA d) n G M) (hS : RowS N6 r (dA d) m F E S) (hD : N6 26 r (dA d) = dp) (hB : ∀ q, q < m → N6 35 (6 * r + dA d) q = bas (addR d n G M dp m F E S) (dA d) q) : RuQ N6 r (addR d n G M dp m F E S) := by
  refine ⟨by rw [h0]; show (dA d : Int) + 1 = ((dA d + 1 : Nat) : Int); omega, by rw [h1]; exact h.2.1, fun a ha => ?_⟩
  have ha : a < dA d + 1 := ha
  by_cases e : a = dA d
  · subst e
    refine ⟨?_, ?_, ?_, fun q hq => ?_⟩
    · show RowT N6 r (dA d) (upf (dT d) (dA d) n (dA d)) (upf (dG d) (dA d) G (dA d)) (upf (dM d) (dA d) M (dA d))
      rw [upf_eq, upf_eq, upf_eq]; exact hT
    · show RowS N6 r (dA d) (upf (dS d) (dA d) m (dA d)) (upf (dF d) (dA d) F (dA d)) (upf (dE d) (dA d) E (dA d)) (upf (dL d) (dA d) S (dA d))
      rw [upf_eq, upf_eq, upf_eq, upf_eq]; exact hS
    · show N6 26 r (dA d) = (upf (dD d) (dA d) dp (dA d) : Nat)
      rw [upf_eq]; exact hD
    · have hq : q < upf (dS d) (dA d) m (dA d) := hq
      rw [upf_eq] at hq
      exact hB q hq
  · obtain ⟨a1, a2, a3, a4⟩ := h.2.2 a (by omega)
    refine ⟨?_, ?_, ?_, fun q hq => ?_⟩
    · show RowT N6 r a (upf (dT d) (dA d) n a) (upf (dG d) (dA d) G a) (upf (dM d) (dA d) M a)
      rw [upf_ne e, upf_ne e, upf_ne e]
      exact ⟨by rw [hf 21 _ _ (by omega) (by omega) (by omega) (by omega) (by omega)]; exact a1.1, fun j hj => by rw [hf 23 _ _ (by omega) (by omega) (by omega) (by omega) (by omega), hf 25 _ _ (by omega) (by omega) (by omega) (by omega) (by omega)]; exact a1.2 j hj⟩
    · show RowS N6 r a (upf (dS d) (dA d) m a) (upf (dF d) (dA d) F a) (upf (dE d) (dA d) E a) (upf (dL d) (dA d) S a)
      rw [upf_ne e, upf_ne e, upf_ne e, upf_ne e]
      exact ⟨by rw [hf 27 _ _ (by omega) (by omega) (by omega) (by omega) (by omega)]; exact a2.1, fun j hj => by rw [hf 29 _ _ (by omega) (by omega) (by omega) (by omega) (by omega), hf 31 _ _ (by omega) (by omega) (by omega) (by omega) (by omega), hf 33 _ _ (by omega) (by omega) (by omega) (by omega) (by omega)]; exact a2.2 j hj⟩
    · show N6 26 r a = (upf (dD d) (dA d) dp a : Nat)
      rw [upf_ne e, hf 26 _ _ (by omega) (by omega) (by omega) (by omega) (by omega)]; exact a3
    · have hq : q < upf (dS d) (dA d) m a := hq
      rw [upf_ne e] at hq
      rw [hf 35 _ _ (by omega) (by omega) (by omega) (by omega) (by omega), a4 q hq]
      refine (bas_cg (fun q => ?_) (fun q => ?_) (fun q => ?_) q).symm
      · show upf (dE d) (dA d) E a q = _; rw [upf_ne e]
      · show upf (dF d) (dA d) F a q = _; rw [upf_ne e]
      · show upf (dL d) (dA d) S a q = _; rw [upf_ne e]
theorem c_readRule {Pq : Int → Nm → Ge → Prop} (hR : Rd N T L p) (hp : p < L) (hQ : RuQ N r d) (hW : WP d) (hA : dA d < 6) (hC : ClN N r (dA d)) (hq : ∀ z N', (z = 0 ∨ z = 1) → FrD r N N' → Imp (z = 1) (∃ p' d', pRule T L d p = .inr (p', d') ∧ Rd N' T L p' ∧ RuQ N' r d' ∧ ClN N' r (dA d')) → Imp (z = 0) (∃ w : Nat, pRule T L d p = .inl w ∧ N' 1 0 3 = (w : Int)) → Pq z N' g) : Ck K YX4_readRule hX4_readRule [vr 1 0, vr 20 r] N g (qI Pq) := by
  have t4 := hR.1.2.1
  have hC0 := hC (dA d) (Nat.le_refl _) (by omega)
  refine Ck.intro 2 (by decide) rfl ?_
  show AW _ _ _ _ _ [some (vr 1 0), some (vr 20 r), none, none] _ _ _
  refine ld_a1 iX4_readRule_0 ?_
  refine gf_X5_accounts kFX4_46 iX4_readRule_1 ?_
  rw [hQ.1]
  refine sv_i2 (by decide) rfl iX4_readRule_4 ?_
  refine ld_a0 iX4_readRule_5 ?_
  refine gf_X4_place kFX4_19 iX4_readRule_6 ?_
  rw [hR.2.1]
  refine sv_i3 (by decide) rfl iX4_readRule_9 ?_
  refine ld_a0 iX4_readRule_10 ?_
  refine r_dup rfl iX4_readRule_11 ?_
  refine gf_X4_place kFX4_19 iX4_readRule_12 ?_
  rw [hR.2.1]
  refine r_iconst iX4_readRule_15 ?_
  refine r_iadd iX4_readRule_16 ?_
  refine pf_X4_place kFX4_19 iX4_readRule_17 ?_
  have f0 : FrC N (upN N 1 0 2 ((p : Int) + 1)) := (FrC.rf N).up (Or.inl rfl)
  refine ld_a0 iX4_readRule_20 ?_
  refine r_bipush (by decide) iX4_readRule_21 ?_
  refine xX4_take kMX4_56 iX4_readRule_23 (by decide) (Nat.le_of_ble_eq_true rfl) rfl rfl ?_
  refine c_take (p := p + 1) (by omega) (hR.go (by omega) (by omega) rfl) (fun z1 N1 hz1 f1 b1 b0 => ?_)
  have f01 := f0.tr f1
  refine r_ifeq iX4_readRule_26 (by omega) (fun h26 => ?_) (fun h26 => ?_)
  · refine r_iconst iX4_readRule_38 ?_
    refine t_bool rfl (by omega) iX4_readRule_39 ?_
    first
      | (obtain ⟨n1, h3⟩ := b0 h26
         exact hq 0 N1 (by omega) (f01.d r) (fun z => by omega) (fun _ => ⟨_, by unfold pRule; rw [if_neg n1], h3⟩))
      | (obtain ⟨w, hw, h3⟩ := a0 h35
         exact hq 0 N2 (by omega) (f02.d (by omega)) (fun z => by omega) (fun _ => ⟨w, by unfold pRule; rw [if_pos n1, hw], h3⟩))
  · obtain ⟨n1, l1, e1⟩ := b1 (by omega)
    refine ld_a0 iX4_readRule_29 ?_
    refine ld_a1 iX4_readRule_30 ?_
    refine ld_i2 iX4_readRule_31 ?_
    refine xX4_readTerms kMX4_66 iX4_readRule_32 (by decide) (Nat.le_of_ble_eq_true rfl) rfl rfl ?_
    refine c_readTerms (A := dA d) (by omega) (by omega) e1 (by rw [f01 20 _ _ (by omega)]; exact hQ.1) (by rw [f01 21 _ _ (by omega)]; exact hC0.1) (fun z2 N2 hz2 f2 a1 a0 => ?_)
    have f02 := (f01.t r (dA d)).tr f2
    refine r_ifne iX4_readRule_35 (by omega) (fun h35 => ?_) (fun h35 => ?_)
    · obtain ⟨p2, n, G, M, hp2, e2, eT⟩ := a1 (by omega)
      obtain ⟨o1, o2, o3, o4, o5⟩ := pTerms_ok (by omega) hp2
      refine ld_a1 iX4_readRule_40 ?_
      refine gf_X5_depths kFX4_70 iX4_readRule_41 ?_
      refine ld_i2 iX4_readRule_44 ?_
      refine ld_a1 iX4_readRule_45 ?_
      refine ld_i2 iX4_readRule_46 ?_
      have hdp : dpm (dD d) M n ≤ 3 := dpm_le n (fun j hj hm => by have hj2 := (o5 j hj).2; exact (hW.2.2 (M j) (by omega)).2.2.2)
      refine xX5_depthOfTerms kMX4_73 iX4_readRule_47 (by decide) (Nat.le_of_ble_eq_true rfl) rfl rfl ?_
      refine c_depthOf (D := dD d) (by omega) o4 eT (fun j hj => by have := (o5 j hj).2; omega) (fun j hj hm => ?_) ?_
      · have hj2 := (o5 j hj).2
        have w := hW.2.2 (M j) (by omega)
        exact ⟨by rw [f02 26 _ _ (by omega) (by omega) (by omega)]; exact (hQ.2.2 (M j) (by omega)).2.2.1, w.2.2.2⟩
      refine as_26 rfl (by omega) iX4_readRule_50 ?_
      have f03 : FrD r N (upN N2 26 r (dA d) ((dpm (dD d) M n + 1 : Nat) : Int)) := (f02.d (by omega)).up (by omega)
      refine ld_a1 iX4_readRule_51 ?_
      refine gf_X5_depths kFX4_70 iX4_readRule_52 ?_
      refine ld_i2 iX4_readRule_55 ?_
      refine al_26 rfl (by omega) iX4_readRule_56 ?_
      rw [upN_eq]
      refine r_iconst iX4_readRule_57 ?_
      refine r_icmple iX4_readRule_58 (by omega) (by omega) (fun h58 => ?_) (fun h58 => ?_)
      · refine ld_a0 iX4_readRule_67 ?_
        refine ld_a1 iX4_readRule_68 ?_
        refine ld_i2 iX4_readRule_69 ?_
        refine xX4_readSegments kMX4_77 iX4_readRule_70 (by decide) (Nat.le_of_ble_eq_true rfl) rfl rfl ?_
        refine c_readSegments (by omega) (e2.t (r := r) (a := 0) (fun k i j z => upN_k (by omega))) (by rw [upN_k (by decide), f02 27 _ _ (by omega) (by omega) (by omega)]; exact hC0.2 (by omega)) (fun z3 N4 hz3 f4 a1 a0 => ?_)
        have f04 := f03.tr (f4.d (by omega))
        refine r_ifne iX4_readRule_73 (by omega) (fun h73 => ?_) (fun h73 => ?_)
        · obtain ⟨p4, m, F, E, S, hp4, e4, eS⟩ := a1 (by omega)
          obtain ⟨q1, q2, q3, q4, lo', hi', q5⟩ := pSgs_ok _ _ _ _ _ _ _ _ _ _ _ _ _ hp4 (by omega) o1 (SgI0 _ _ _)
          have hWn := hW.addR hA ⟨o3, o4⟩ o5 (by omega) ⟨q3, q4⟩ q5
          have hres : pRule T L d p = .inr (p4, addR d n G M (dpm (dD d) M n + 1) m F E S) := by unfold pRule; rw [if_pos n1, hp2]; simp only; rw [if_pos (by omega), hp4]
          have hS4 : RowS N4 r (dA d) (upf (dS d) (dA d) m (dA d)) (upf (dF d) (dA d) F (dA d)) (upf (dE d) (dA d) E (dA d)) (upf (dL d) (dA d) S (dA d)) := by rw [upf_eq, upf_eq, upf_eq, upf_eq]; exact eS
          refine ld_a1 iX4_readRule_78 ?_
          refine ld_i2 iX4_readRule_79 ?_
          refine xX5_settle kMX4_80 iX4_readRule_80 (by decide) (Nat.le_of_ble_eq_true rfl) rfl rfl ?_
          refine c_settle (d := addR d n G M (dpm (dD d) M n + 1) m F E S) (a := dA d) hA (hWn.2.2 (dA d) (Nat.lt_succ_self _)).1 hS4.1 hS4.2 (fun N5 s1 s2 => ?_)
          refine ld_a1 iX4_readRule_83 ?_
          refine r_dup rfl iX4_readRule_84 ?_
          refine gf_X5_accounts kFX4_46 iX4_readRule_85 ?_
          rw [s1 20 _ _ (by omega), f4 20 _ _ (by omega) (by omega) (by omega), upN_k (by decide), f02 20 _ _ (by omega) (by omega) (by omega), hQ.1]
          refine r_iconst iX4_readRule_88 ?_
          refine r_iadd iX4_readRule_89 ?_
          refine pf_X5_accounts kFX4_46 iX4_readRule_90 ?_
          refine r_iconst iX4_readRule_93 ?_
          refine t_bool rfl (by omega) iX4_readRule_94 ?_
          have fr6 : ∀ k i j, 21 ≤ k → k ≤ 35 → ¬ ((k = 21 ∨ k = 26 ∨ k = 27) ∧ i = r ∧ j = dA d) → ¬ ((k = 23 ∨ k = 25) ∧ i = 7 * r + dA d) → ¬ ((k = 29 ∨ k = 31 ∨ k = 33 ∨ k = 35) ∧ i = 6 * r + dA d) → upN N5 20 r 0 ((dA d : Int) + 1) k i j = N k i j := fun k i j z1 z2 z3 z4 z5 => by
            rw [upN_k (by omega), s1 k i j (by omega), f4 k i j (by omega) (by omega) (by omega), show ∀ v, upN N2 26 r (dA d) v k i j = N2 k i j from fun v => if_neg (fun y => z3 ⟨by omega, y.2⟩), f02 k i j (by omega) (by omega) (by omega)]
          have hup : ∀ k i j, 21 ≤ k → k ≤ 34 → upN N5 20 r 0 ((dA d : Int) + 1) k i j = N4 k i j := fun k i j z1 z2 => by rw [upN_k (by omega), s1 k i j (by omega)]
          refine hq 1 _ (by omega) ((f04.tr (fun k i j z1 z2 z3 z4 => s1 k i j (by omega))).up (by omega)) (fun _ => ⟨p4, _, hres, e4.t (r := r) (a := 0) (fun k i j z => by rw [upN_k (by omega), s1 k i j (by omega)]), hQ.add hA (upN_eq _ _ _ _ _) ?_ fr6 ?_ ?_ ?_ ?_, fun b z1 z2 => ?_⟩) (fun z => by omega)
          · rw [upN_j (by decide), s1 20 _ _ (by omega), f4 20 _ _ (by omega) (by omega) (by omega), upN_k (by decide), f02 20 _ _ (by omega) (by omega) (by omega)]
          · refine ⟨?_, fun j hj => ?_⟩
            · rw [hup 21 _ _ (by omega) (by omega), f4 21 _ _ (by omega) (by omega) (by omega), upN_k (by decide)]; exact eT.1
            · rw [hup 23 _ _ (by omega) (by omega), hup 25 _ _ (by omega) (by omega), f4 23 _ _ (by omega) (by omega) (by omega), f4 25 _ _ (by omega) (by omega) (by omega), upN_k (by decide), upN_k (by decide)]; exact eT.2 j hj
          · exact ⟨by rw [hup 27 _ _ (by omega) (by omega)]; exact eS.1, fun q hq => by rw [hup 29 _ _ (by omega) (by omega), hup 31 _ _ (by omega) (by omega), hup 33 _ _ (by omega) (by omega)]; exact eS.2 q hq⟩
          · rw [hup 26 _ _ (by omega) (by omega), f4 26 _ _ (by omega) (by omega) (by omega), upN_eq]
          · intro q hq
            rw [upN_k (by decide)]
            refine s2 q ?_
            show q < upf (dS d) (dA d) m (dA d)
            rw [upf_eq]; exact hq
          · have z1 : dA d + 1 ≤ b := z1
            refine ⟨by rw [fr6 21 _ _ (by omega) (by omega) (by omega) (by omega) (by omega)]; exact (hC b (by omega) z2).1, fun z => by rw [fr6 27 _ _ (by omega) (by omega) (by omega) (by omega) (by omega)]; exact (hC b (by omega) z2).2 z⟩
        · refine r_iconst iX4_readRule_76 ?_
          refine t_bool rfl (by omega) iX4_readRule_77 ?_
          obtain ⟨w, hw, h3⟩ := a0 h73
          exact hq 0 N4 (by omega) f04 (fun z => by omega) (fun _ => ⟨w, by unfold pRule; rw [if_pos n1, hp2]; simp only; rw [if_pos (by omega), hw], h3⟩)
      · refine ld_a0 iX4_readRule_61 ?_
        refine ld_i3 iX4_readRule_62 ?_
        refine xX4_fail kMX4_52 iX4_readRule_63 (by decide) (Nat.le_of_ble_eq_true rfl) rfl rfl ?_
        refine c_fail ?_
        refine t_bool rfl (by omega) iX4_readRule_66 ?_
        exact hq 0 _ (by omega) (f03.tr (((FrC.rf _).up (by omega)).d r)) (fun z => by omega) (fun _ => ⟨p, by unfold pRule; rw [if_pos n1, hp2]; simp only; rw [if_neg (by omega)], upN_eq _ _ _ _ _⟩)
    · refine r_iconst iX4_readRule_38 ?_
      refine t_bool rfl (by omega) iX4_readRule_39 ?_
      first
        | (obtain ⟨n1, h3⟩ := b0 h26
           exact hq 0 N1 (by omega) (f01.d r) (fun z => by omega) (fun _ => ⟨_, by unfold pRule; rw [if_neg n1], h3⟩))
        | (obtain ⟨w, hw, h3⟩ := a0 h35
           exact hq 0 N2 (by omega) (f02.d (by omega)) (fun z => by omega) (fun _ => ⟨w, by unfold pRule; rw [if_pos n1, hw], h3⟩))
end Read6
