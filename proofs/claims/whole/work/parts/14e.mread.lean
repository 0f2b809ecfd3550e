/-! own text: the reference reads a rule -/
/-- the reference's rows that are read have the accounts of d and its benefit (PAID aside) -/
def MoQ (N : Nm) (d : Dk) : Prop := N 40 0 17 = dA d ∧ N 40 0 18 = dB d ∧ ∀ a, a < dA d → RowMT N a (dT d a) (dG d a) (dM d a) ∧ RowMS N a (dS d a) (dF d a) (dE d a) (dL d a) ∧ N 52 0 a = dD d a
/-- nothing but the place and the rows of account a that are read has changed -/
def FrRl (a : Nat) (N N' : Nm) : Prop := ∀ k i j, ¬ (k = 40 ∧ (j = 3 ∨ j = 4 ∨ j = 17)) → ¬ ((k = 42 ∨ k = 48 ∨ k = 52) ∧ j = a) → ¬ ((k = 44 ∨ k = 46) ∧ 6 * a ≤ j ∧ j < 6 * a + 6) → ¬ (k = 50 ∧ 18 * a ≤ j ∧ j < 18 * a + 18) → N' k i j = N k i j
theorem FrRl.rf (a : Nat) (N : Nm) : FrRl a N N := fun _ _ _ _ _ _ _ => rfl
theorem FrRl.tr {a : Nat} {A B C : Nm} (h1 : FrRl a A B) (h2 : FrRl a B C) : FrRl a A C := fun k i j q z y x => (h2 k i j q z y x).trans (h1 k i j q z y x)
theorem FrMS.r {a : Nat} {A B : Nm} (h : FrMS a A B) : FrRl a A B := fun k i j q z _ y => h k i j (by omega) (by omega) y
theorem FrMT.r {a : Nat} {A B : Nm} (h : FrMT a A B) : FrRl a A B := fun k i j q z y _ => h k i j (by omega) (by omega) y
theorem FrM.r {A B : Nm} (h : FrM A B) (a : Nat) : FrRl a A B := fun k i j q _ _ _ => h k i j (by omega)
theorem FrRl.up {a k i j : Nat} {A B : Nm} {v : Int} (h : FrRl a A B) (hk : ((k = 48 ∨ k = 52) ∧ j = a) ∨ (k = 40 ∧ j = 17)) : FrRl a A (upN B k i j v) := fun k' i' j' q z y x => by
  rw [← h k' i' j' q z y x]
  exact if_neg (fun w => by omega)
theorem MoQ.add {N N6 : Nm} {d : Dk} {n m dp : Nat} {G : Nat → Int} {M : Nat → Nat} {F E S : Nat → Int} (h : MoQ N d) (hW : WP d) (hA : dA d < 6) (h0 : N6 40 0 17 = (dA d : Int) + 1) (hf : FrRl (dA d) N N6) (hT : RowMT N6 (dA d) n G M) (hS : RowMS N6 (dA d) m F E S) (hD : N6 52 0 (dA d) = dp) : MoQ N6 (addR d n G M dp m F E S) := by
  refine ⟨by rw [h0]; show (dA d : Int) + 1 = ((dA d + 1 : Nat) : Int); omega, by rw [hf 40 0 18 (by omega) (by omega) (by omega) (by omega)]; exact h.2.1, fun a ha => ?_⟩
  have ha : a < dA d + 1 := ha
  by_cases e : a = dA d
  · subst e
    refine ⟨?_, ?_, ?_⟩
    · show RowMT N6 (dA d) (upf (dT d) (dA d) n (dA d)) (upf (dG d) (dA d) G (dA d)) (upf (dM d) (dA d) M (dA d))
      rw [upf_eq, upf_eq, upf_eq]; exact hT
    · show RowMS N6 (dA d) (upf (dS d) (dA d) m (dA d)) (upf (dF d) (dA d) F (dA d)) (upf (dE d) (dA d) E (dA d)) (upf (dL d) (dA d) S (dA d))
      rw [upf_eq, upf_eq, upf_eq, upf_eq]; exact hS
    · show N6 52 0 (dA d) = (upf (dD d) (dA d) dp (dA d) : Nat)
      rw [upf_eq]; exact hD
  · obtain ⟨a1, a2, a3⟩ := h.2.2 a (by omega)
    refine ⟨?_, ?_, ?_⟩
    · show RowMT N6 a (upf (dT d) (dA d) n a) (upf (dG d) (dA d) G a) (upf (dM d) (dA d) M a)
      rw [upf_ne e, upf_ne e, upf_ne e]
      have h6 := (hW.2.2 a (by omega)).2.1.2.1
      exact ⟨by rw [hf 42 _ _ (by omega) (by omega) (by omega) (by omega)]; exact a1.1, fun j hj => by rw [hf 46 _ _ (by omega) (by omega) (by omega) (by omega), hf 44 _ _ (by omega) (by omega) (by omega) (by omega)]; exact a1.2 j hj⟩
    · show RowMS N6 a (upf (dS d) (dA d) m a) (upf (dF d) (dA d) F a) (upf (dE d) (dA d) E a) (upf (dL d) (dA d) S a)
      rw [upf_ne e, upf_ne e, upf_ne e, upf_ne e]
      have h6 := (hW.2.2 a (by omega)).1.2.1
      exact ⟨by rw [hf 48 _ _ (by omega) (by omega) (by omega) (by omega)]; exact a2.1, fun q hq => by rw [hf 50 _ _ (by omega) (by omega) (by omega) (by omega), hf 50 _ _ (by omega) (by omega) (by omega) (by omega), hf 50 _ _ (by omega) (by omega) (by omega) (by omega)]; exact a2.2 q hq⟩
    · show N6 52 0 a = (upf (dD d) (dA d) dp a : Nat)
      rw [upf_ne e, hf 52 _ _ (by omega) (by omega) (by omega) (by omega)]; exact a3
/-- what a rule comes to -/
def RlE (P : Nat ⊕ (Nat × Dk)) (N' : Nm) (T : Nat → Int) (L p' : Nat) (w' : Int) : Prop := (w' = -1 ∧ ∃ d', P = .inr (p', d') ∧ MoQ N' d') ∨ ∃ w : Nat, P = .inl w ∧ (w' = (w : Int) ∨ (w' = -1 ∧ p' = w ∧ tat T L w = 47))
section MRead5
variable {K : Kx} {N : Nm} {g : Ge} {T : Nat → Int} {L p : Nat} {w : Int} {d : Dk}
theorem c_mReadRule {Pq : Nm → Ge → Prop} (hR : Me N T L p (-1)) (hp : p < L) (hQ : MoQ N d) (hW : WP d) (hA : dA d < 6) (hq : ∀ p' w' N', FrRl (dA d) N N' → Me N' T L p' w' → RlE (pRule T L d p) N' T L p' w' → Pq N' g) : Ck K YX10_readRule hX10_readRule [vr 40 0] N g (qV Pq) := by
  have t4 := hR.1.2.1
  generalize hP : pRule T L d p = P at hq
  refine Ck.intro 3 (by decide) rfl ?_
  show AW _ _ _ _ _ [some (vr 40 0), none, none, none] _ _ _
  have t86z : ∀ (p' : Nat) (w' : Int) (N' : Nm), FrRl (dA d) N N' → Me N' T L p' w' → N' 40 0 17 = dA d → RlE P (upN N' 40 0 17 ((dA d : Int) + 1)) T L p' w' → AW K YX10_readRule hX10_readRule (qV Pq) 86 [some (vr 40 0), some (vi p), some (vi (dA d)), some (vi 0)] [] N' g := by
    intro p' w' N' k1 k2 k3 k4
    refine ld_i3 iX10_readRule_86 ?_
    refine r_ifeq iX10_readRule_87 (by omega) (fun h87 => ?_) (fun h87 => ?_)
    · refine ld_a0 iX10_readRule_150 ?_
      refine r_dup rfl iX10_readRule_151 ?_
      refine gf_X10_readAccounts kFX10_110 iX10_readRule_152 ?_
      rw [k3]
      refine r_iconst iX10_readRule_155 ?_
      refine r_iadd iX10_readRule_156 ?_
      refine pf_X10_readAccounts kFX10_110 iX10_readRule_157 ?_
      refine t_void rfl iX10_readRule_160 ?_
      exact hq p' w' _ (k1.up (by omega)) (k2.of (fun j hj => upN_j (by omega)) (fun j => upN_k (by decide))) k4
    · exfalso; omega
  have f59 : ∀ (w p' : Nat) (w' : Int) (N4 : Nm), w' ≠ -1 → FrRl (dA d) N N4 → Me N4 T L p' w' → N4 40 0 17 = dA d → P = .inl w → w' = (w : Int) → AW K YX10_readRule hX10_readRule (qV Pq) 59 [some (vr 40 0), some (vi p), some (vi (dA d)), none] [] N4 g := by
    intro w p' w' N4 hw k1 k2 k3 k4 k5
    refine ld_a0 iX10_readRule_59 ?_
    refine gf_X10_readMany kFX10_31 iX10_readRule_60 ?_
    refine ld_i2 iX10_readRule_63 ?_
    refine r_iconst iX10_readRule_64 ?_
    refine as_48 rfl (by omega) iX10_readRule_65 ?_
    refine ld_a0 iX10_readRule_66 ?_
    refine r_bipush (by decide) iX10_readRule_67 ?_
    refine xX10_must kMX10_113 iX10_readRule_69 (by decide) (Nat.le_of_ble_eq_true rfl) rfl rfl ?_
    refine c_mMust0 (k2.of (fun j hj => upN_k (by decide)) (fun j => upN_k (by decide))) hw (fun N5 f5 e5 => ?_)
    have r3 := e5.2.2.2.1
    have r4 := e5.2.2.2.2
    refine ld_a0 iX10_readRule_72 ?_
    refine gf_X10_wrong kFX10_93 iX10_readRule_73 ?_
    rw [r3]
    refine r_iconst iX10_readRule_76 ?_
    refine r_icmpne iX10_readRule_77 (by omega) (by omega) (fun h77 => ?_) (fun h77 => ?_)
    · refine r_iconst iX10_readRule_84 ?_
      refine sv_i3 (by decide) rfl iX10_readRule_85 ?_
      exact t86z _ _ N5 ((k1.up (by omega)).tr (f5.r _)) e5 (by rw [f5 40 0 17 (by omega), upN_k (by decide)]; exact k3) (Or.inr ⟨w, k4, Or.inl k5⟩)
    · exfalso; omega
  -- terms are read, n of them, as deep as may be
  have o59 : ∀ (p2 n : Nat) (G : Nat → Int) (M : Nat → Nat) (N4 : Nm), FrRl (dA d) N N4 → Me N4 T L p2 (-1) → N4 40 0 17 = dA d → RowMT N4 (dA d) n G M → N4 52 0 (dA d) = ((dpm (dD d) M n + 1 : Nat) : Int) → tat T L (sk T L (p + 1)) = 61 → pTerms T L (dA d) (sk T L (p + 1) + 1) = .inr (p2, n, G, M) → dpm (dD d) M n + 1 ≤ 3 → AW K YX10_readRule hX10_readRule (qV Pq) 59 [some (vr 40 0), some (vi p), some (vi (dA d)), none] [] N4 g := by
    intro p2 n G M N4 k1 k2 k3 k4 k5 k6 k7 k8
    unfold pRule at hP
    rw [if_pos k6, k7] at hP
    simp only at hP
    rw [if_pos k8] at hP
    have rb : ∀ A B : Nm, FrMS (dA d) A B → (FrRl (dA d) N A ∧ A 40 0 17 = dA d ∧ RowMT A (dA d) n G M ∧ A 52 0 (dA d) = ((dpm (dD d) M n + 1 : Nat) : Int)) → (FrRl (dA d) N B ∧ B 40 0 17 = dA d ∧ RowMT B (dA d) n G M ∧ B 52 0 (dA d) = ((dpm (dD d) M n + 1 : Nat) : Int)) := fun A B f h => ⟨h.1.tr f.r, by rw [f 40 0 17 (by omega) (by omega) (by omega)]; exact h.2.1, h.2.2.1.of (fun k i j z1 z2 => f k i j (by omega) (by omega) (by omega)), by rw [f 52 0 _ (by omega) (by omega) (by omega)]; exact h.2.2.2⟩
    -- all is read
    have fin : ∀ (p' m : Nat) (F E S : Nat → Int) (N' : Nm), (FrRl (dA d) N N' ∧ N' 40 0 17 = dA d ∧ RowMT N' (dA d) n G M ∧ N' 52 0 (dA d) = ((dpm (dD d) M n + 1 : Nat) : Int)) → RowMS N' (dA d) m F E S → MoQ (upN N' 40 0 17 ((dA d : Int) + 1)) (addR d n G M (dpm (dD d) M n + 1) m F E S) := fun p' m F E S N' h hS => hQ.add hW hA (upN_eq _ _ _ _ _) (h.1.up (by omega)) (h.2.2.1.of (fun k i j z1 z2 => upN_k (by omega))) (hS.of (fun k i j z1 z2 => upN_k (by omega))) (by rw [upN_k (by decide)]; exact h.2.2.2)
    have loop : ∀ (f m u : Nat) (lo hi : Int) (F E S : Nat → Int) (N' : Nm), m + (f + 1) = 6 → SgI m F E S lo hi → (FrRl (dA d) N N' ∧ N' 40 0 17 = dA d ∧ RowMT N' (dA d) n G M ∧ N' 52 0 (dA d) = ((dpm (dD d) M n + 1 : Nat) : Int)) → Me N' T L (u + 1) (-1) → tat T L u = 47 → sk T L u = u → RowMS N' (dA d) m F E S → pSgs T L (f + 1) u m lo hi F E S = pSgs T L 6 p2 0 0 0 (fun _ => 0) (fun _ => 0) (fun _ => 0) → AW K YX10_readRule hX10_readRule (qV Pq) 86 [some (vr 40 0), some (vi p), some (vi (dA d)), some (vi 1)] [] N' g := by
      intro f
      induction f using Nat.strongRecOn with
      | _ f ih =>
        intro m u lo hi F E S N' hm hI hB hR' h47 hsk hS hp
        rw [pSgs, hsk, if_pos h47] at hp
        have t128 : ∀ (p' : Nat) (w' : Int) (N2 : Nm), FrRl (dA d) N N2 → N2 40 0 17 = dA d → Me N2 T L p' w' → (∀ N3, FrM N2 N3 → RlE P (upN N3 40 0 17 ((dA d : Int) + 1)) T L p' w') → AW K YX10_readRule hX10_readRule (qV Pq) 128 [some (vr 40 0), some (vi p), some (vi (dA d)), some (vi 1)] [vi 0] N2 g := by
          intro p' w' N2 j1 j2 j3 j4
          have ff : FrM N2 (upN N2 40 0 3 ((p' : Int) + 0)) := (FrM.rf N2).up (Or.inl rfl)
          refine sv_i3 (by decide) rfl iX10_readRule_128 ?_
          refine ld_a0 iX10_readRule_129 ?_
          refine r_dup rfl iX10_readRule_130 ?_
          refine gf_X10_at kFX10_86 iX10_readRule_131 ?_
          rw [j3.2.1]
          refine ld_i3 iX10_readRule_134 ?_
          refine r_ifeq iX10_readRule_135 (by omega) (fun h135 => ?_) (fun h135 => ?_)
          · refine r_iconst iX10_readRule_142 ?_
            refine r_iadd iX10_readRule_143 ?_
            refine pf_X10_at kFX10_86 iX10_readRule_144 ?_
            refine r_goto iX10_readRule_147 ?_
            exact t86z p' w' _ (j1.tr (ff.r _)) (j3.go (by omega) j3.2.2.1 rfl) (by rw [ff 40 0 17 (by omega)]; exact j2) (j4 _ ff)
          · exfalso; omega
        have o128 : ∀ (q : Nat) (x y z : Int) (N2 : Nm), f ≠ 0 → (FrRl (dA d) N N2 ∧ N2 40 0 17 = dA d ∧ RowMT N2 (dA d) n G M ∧ N2 52 0 (dA d) = ((dpm (dD d) M n + 1 : Nat) : Int)) → Me N2 T L q (-1) → tat T L q = 47 → sk T L q = q → RowMS N2 (dA d) (m + 1) (upf F m x) (upf E m y) (upf S m z) → SgI (m + 1) (upf F m x) (upf E m y) (upf S m z) (x + 1) 9999 → pSgs T L f q (m + 1) (x + 1) 9999 (upf F m x) (upf E m y) (upf S m z) = pSgs T L 6 p2 0 0 0 (fun _ => 0) (fun _ => 0) (fun _ => 0) → AW K YX10_readRule hX10_readRule (qV Pq) 128 [some (vr 40 0), some (vi p), some (vi (dA d)), some (vi 1)] [vi 1] N2 g := by
          intro q x y z N2 hf j1 j2 j3 j4 j5 j6 j7
          obtain ⟨f', rfl⟩ : ∃ f', f = f' + 1 := ⟨f - 1, by omega⟩
          have hin := tat_in (T := T) (L := L) (p := q) (by omega)
          have ff : FrM N2 (upN N2 40 0 3 ((q : Int) + 1)) := (FrM.rf N2).up (Or.inl rfl)
          refine sv_i3 (by decide) rfl iX10_readRule_128 ?_
          refine ld_a0 iX10_readRule_129 ?_
          refine r_dup rfl iX10_readRule_130 ?_
          refine gf_X10_at kFX10_86 iX10_readRule_131 ?_
          rw [j2.2.1]
          refine ld_i3 iX10_readRule_134 ?_
          refine r_ifeq iX10_readRule_135 (by omega) (fun h135 => ?_) (fun h135 => ?_)
          · exfalso; omega
          · refine r_iconst iX10_readRule_138 ?_
            refine r_goto iX10_readRule_139 ?_
            refine r_iadd iX10_readRule_143 ?_
            refine pf_X10_at kFX10_86 iX10_readRule_144 ?_
            refine r_goto iX10_readRule_147 ?_
            exact ih f' (by omega) (m + 1) q _ _ _ _ _ _ (by omega) j6 (rb _ _ (ff.s _) j1) (j2.go (by omega) (by omega) rfl) j3 j4 (j5.of (fun k i j z1 z2 => ff k i j (by omega))) j7
        refine ld_i3 iX10_readRule_86 ?_
        refine r_ifeq iX10_readRule_87 (by omega) (fun h87 => ?_) (fun h87 => ?_)
        · exfalso; omega
        · refine ld_a0 iX10_readRule_90 ?_
          refine ld_i2 iX10_readRule_91 ?_
          refine xX10_readsSegment kMX10_139 iX10_readRule_92 (by decide) (Nat.le_of_ble_eq_true rfl) rfl rfl ?_
          refine c_mReadsSegment (p := u + 1) (lo := lo) (hi := hi) hA (by omega) hR' hS hI (fun p1 w1 N1 f1 e1 h48 c1 => ?_)
          have hB1 := rb _ _ f1 hB
          have r3 := e1.2.2.2.1
          have r4 := e1.2.2.2.2
          have hb := mtat_r e1.1 (sk T L p1)
          refine ld_a0 iX10_readRule_95 ?_
          refine gf_X10_wrong kFX10_93 iX10_readRule_96 ?_
          rw [r3]
          refine r_iconst iX10_readRule_99 ?_
          refine r_icmpne iX10_readRule_100 (by omega) (by omega) (fun h100 => ?_) (fun h100 => ?_)
          · obtain ⟨-, w, y1, y2⟩ := Or.resolve_left c1 (fun y => h100 y.1)
            rw [y1] at hp
            have hPr : P = .inl w := by rw [← hP, ← hp]
            refine r_iconst iX10_readRule_127 ?_
            first
              | exact t128 _ _ N1 hB1.1 hB1.2.1 e1 (fun N3 f3 => Or.inr ⟨w, hPr, Or.inl y2⟩)
              | exact t128 _ _ N2 hB2.1 hB2.2.1 e2 (fun N3 f3 => Or.inl ⟨rfl, _, hPr, fin 0 _ _ _ _ N3 (rb _ _ (f3.s _) hB2) ((y2.of (fun k i j z1 z2 => f2 k i j (by omega))).of (fun k i j z1 z2 => f3 k i j (by omega)))⟩)
              | exact t128 _ _ N2 hB2.1 hB2.2.1 e2 (fun N3 f3 => Or.inr ⟨_, hPr, Or.inr ⟨rfl, rfl, h109⟩⟩)
              | exact o128 (sk T L p1) _ _ _ N2 (by omega) hB2 e2 h109 sk_sk (y2.of (fun k i j z1 z2 => f2 k i j (by omega))) (hI.up ox.2.1 ox.2.2.1 ox.2.2.2) hp
          · obtain ⟨-, x, y, z, y1, y2⟩ := Or.resolve_right c1 (fun y => y.1 h100)
            subst h100
            have ox := pSg_ok hR'.2.2.1 y1
            rw [y1] at hp
            simp only at hp
            refine ld_a0 iX10_readRule_103 ?_
            refine xX10_ahead kMX10_100 iX10_readRule_104 (by decide) (Nat.le_of_ble_eq_true rfl) rfl rfl ?_
            refine c_mAhead e1 (fun N2 f2 e2 => ?_)
            have hB2 := rb _ _ (f2.s _) hB1
            refine r_bipush (by decide) iX10_readRule_107 ?_
            refine r_icmpne iX10_readRule_109 (by omega) (by omega) (fun h109 => ?_) (fun h109 => ?_)
            · rw [if_neg h109] at hp
              have hPr : P = .inr (sk T L p1, addR d n G M (dpm (dD d) M n + 1) (m + 1) (upf F m x) (upf E m y) (upf S m z)) := by rw [← hP, ← hp]
              refine r_iconst iX10_readRule_127 ?_
              first
                | exact t128 _ _ N1 hB1.1 hB1.2.1 e1 (fun N3 f3 => Or.inr ⟨w, hPr, Or.inl y2⟩)
                | exact t128 _ _ N2 hB2.1 hB2.2.1 e2 (fun N3 f3 => Or.inl ⟨rfl, _, hPr, fin 0 _ _ _ _ N3 (rb _ _ (f3.s _) hB2) ((y2.of (fun k i j z1 z2 => f2 k i j (by omega))).of (fun k i j z1 z2 => f3 k i j (by omega)))⟩)
                | exact t128 _ _ N2 hB2.1 hB2.2.1 e2 (fun N3 f3 => Or.inr ⟨_, hPr, Or.inr ⟨rfl, rfl, h109⟩⟩)
                | exact o128 (sk T L p1) _ _ _ N2 (by omega) hB2 e2 h109 sk_sk (y2.of (fun k i j z1 z2 => f2 k i j (by omega))) (hI.up ox.2.1 ox.2.2.1 ox.2.2.2) hp
            · rw [if_pos h109] at hp
              refine ld_a0 iX10_readRule_112 ?_
              refine gf_X10_readMany kFX10_31 iX10_readRule_113 ?_
              refine ld_i2 iX10_readRule_116 ?_
              refine al_48 rfl (by omega) iX10_readRule_117 ?_
              rw [f2 48 0 _ (by omega), h48]
              refine r_bipush (by decide) iX10_readRule_118 ?_
              refine r_icmpge iX10_readRule_120 (by omega) (by omega) (fun h120 => ?_) (fun h120 => ?_)
              · have hf0 : f = 0 := by omega
                subst hf0
                rw [pSgs] at hp
                have hPr : P = .inl (sk T L p1) := by rw [← hP, ← hp]
                refine r_iconst iX10_readRule_127 ?_
                first
                  | exact t128 _ _ N1 hB1.1 hB1.2.1 e1 (fun N3 f3 => Or.inr ⟨w, hPr, Or.inl y2⟩)
                  | exact t128 _ _ N2 hB2.1 hB2.2.1 e2 (fun N3 f3 => Or.inl ⟨rfl, _, hPr, fin 0 _ _ _ _ N3 (rb _ _ (f3.s _) hB2) ((y2.of (fun k i j z1 z2 => f2 k i j (by omega))).of (fun k i j z1 z2 => f3 k i j (by omega)))⟩)
                  | exact t128 _ _ N2 hB2.1 hB2.2.1 e2 (fun N3 f3 => Or.inr ⟨_, hPr, Or.inr ⟨rfl, rfl, h109⟩⟩)
                  | exact o128 (sk T L p1) _ _ _ N2 (by omega) hB2 e2 h109 sk_sk (y2.of (fun k i j z1 z2 => f2 k i j (by omega))) (hI.up ox.2.1 ox.2.2.1 ox.2.2.2) hp
              · refine r_iconst iX10_readRule_123 ?_
                refine r_goto iX10_readRule_124 ?_
                first
                  | exact t128 _ _ N1 hB1.1 hB1.2.1 e1 (fun N3 f3 => Or.inr ⟨w, hPr, Or.inl y2⟩)
                  | exact t128 _ _ N2 hB2.1 hB2.2.1 e2 (fun N3 f3 => Or.inl ⟨rfl, _, hPr, fin 0 _ _ _ _ N3 (rb _ _ (f3.s _) hB2) ((y2.of (fun k i j z1 z2 => f2 k i j (by omega))).of (fun k i j z1 z2 => f3 k i j (by omega)))⟩)
                  | exact t128 _ _ N2 hB2.1 hB2.2.1 e2 (fun N3 f3 => Or.inr ⟨_, hPr, Or.inr ⟨rfl, rfl, h109⟩⟩)
                  | exact o128 (sk T L p1) _ _ _ N2 (by omega) hB2 e2 h109 sk_sk (y2.of (fun k i j z1 z2 => f2 k i j (by omega))) (hI.up ox.2.1 ox.2.2.1 ox.2.2.2) hp
    have fail86 : ∀ (w p' : Nat) (N5 : Nm), FrRl (dA d) N N5 → N5 40 0 17 = dA d → Me N5 T L p' (w : Int) → P = .inl w → AW K YX10_readRule hX10_readRule (qV Pq) 72 [some (vr 40 0), some (vi p), some (vi (dA d)), none] [] N5 g := by
      intro w p' N5 j1 j2 j3 j4
      have r3 := j3.2.2.2.1
      have r4 := j3.2.2.2.2
      refine ld_a0 iX10_readRule_72 ?_
      refine gf_X10_wrong kFX10_93 iX10_readRule_73 ?_
      rw [r3]
      refine r_iconst iX10_readRule_76 ?_
      refine r_icmpne iX10_readRule_77 (by omega) (by omega) (fun h77 => ?_) (fun h77 => ?_)
      · refine r_iconst iX10_readRule_84 ?_
        refine sv_i3 (by decide) rfl iX10_readRule_85 ?_
        exact t86z _ _ N5 j1 j3 j2 (Or.inr ⟨w, j4, Or.inl rfl⟩)
      · exfalso; omega
    have ok86 : ∀ (N5 : Nm), (FrRl (dA d) N N5 ∧ N5 40 0 17 = dA d ∧ RowMT N5 (dA d) n G M ∧ N5 52 0 (dA d) = ((dpm (dD d) M n + 1 : Nat) : Int)) → Me N5 T L (sk T L p2 + 1) (-1) → tat T L (sk T L p2) = 47 → N5 48 0 (dA d) = 0 → AW K YX10_readRule hX10_readRule (qV Pq) 72 [some (vr 40 0), some (vi p), some (vi (dA d)), none] [] N5 g := by
      intro N5 j1 j3 j4 j5
      have r3 := j3.2.2.2.1
      refine ld_a0 iX10_readRule_72 ?_
      refine gf_X10_wrong kFX10_93 iX10_readRule_73 ?_
      rw [r3]
      refine r_iconst iX10_readRule_76 ?_
      refine r_icmpne iX10_readRule_77 (by omega) (by omega) (fun h77 => ?_) (fun h77 => ?_)
      · exfalso; omega
      · refine r_iconst iX10_readRule_80 ?_
        refine r_goto iX10_readRule_81 ?_
        refine sv_i3 (by decide) rfl iX10_readRule_85 ?_
        exact loop 5 0 (sk T L p2) _ _ _ _ _ N5 (by omega) (SgI0 (fun _ => 0) (fun _ => 0) (fun _ => 0)) j1 j3 j4 sk_sk ⟨j5, fun q hq => by omega⟩ (by rw [pSgs, pSgs, sk_sk])
    have f4 : FrMS (dA d) N4 (upN N4 48 0 (dA d) 0) := fun k i j z1 z2 z3 => if_neg (fun y => by omega)
    refine ld_a0 iX10_readRule_59 ?_
    refine gf_X10_readMany kFX10_31 iX10_readRule_60 ?_
    refine ld_i2 iX10_readRule_63 ?_
    refine r_iconst iX10_readRule_64 ?_
    refine as_48 rfl (by omega) iX10_readRule_65 ?_
    refine ld_a0 iX10_readRule_66 ?_
    refine r_bipush (by decide) iX10_readRule_67 ?_
    refine xX10_must kMX10_113 iX10_readRule_69 (by decide) (Nat.le_of_ble_eq_true rfl) rfl rfl ?_
    refine c_mMust1 (by omega) (k2.of (fun j hj => upN_k (by decide)) (fun j => upN_k (by decide))) (fun p5 w5 N5 f5 e5 c5 => ?_)
    have hB5 := rb _ _ (f5.s _) (rb _ _ f4 ⟨k1, k3, k4, k5⟩)
    rcases c5 with ⟨y1, y2, y3, y4⟩ | ⟨y1, y2⟩
    · subst y3
      subst y4
      exact ok86 N5 hB5 e5 y1 (by rw [f5 48 0 _ (by omega), upN_eq])
    · subst y2
      exact fail86 _ _ N5 hB5.1 hB5.2.1 e5 (by rw [← hP, pSgs, if_neg y1])
  have hd3 : ∀ N2, FrMT (dA d) N N2 → ∀ b, b < dA d → N2 52 0 b = dD d b ∧ dD d b ≤ 3 := fun N2 f b hb => ⟨by rw [f 52 0 b (by omega) (by omega) (by omega)]; exact (hQ.2.2 b hb).2.2, (hW.2.2 b hb).2.2.2⟩
  refine ld_a0 iX10_readRule_0 ?_
  refine gf_X10_at kFX10_86 iX10_readRule_1 ?_
  rw [hR.2.1]
  refine sv_i1 (by decide) rfl iX10_readRule_4 ?_
  refine ld_a0 iX10_readRule_5 ?_
  refine gf_X10_readAccounts kFX10_110 iX10_readRule_6 ?_
  rw [hQ.1]
  refine sv_i2 (by decide) rfl iX10_readRule_9 ?_
  refine ld_a0 iX10_readRule_10 ?_
  refine r_dup rfl iX10_readRule_11 ?_
  refine gf_X10_at kFX10_86 iX10_readRule_12 ?_
  rw [hR.2.1]
  refine r_iconst iX10_readRule_15 ?_
  refine r_iadd iX10_readRule_16 ?_
  refine pf_X10_at kFX10_86 iX10_readRule_17 ?_
  have f0 : FrM N (upN N 40 0 3 ((p : Int) + 1)) := (FrM.rf N).up (Or.inl rfl)
  refine ld_a0 iX10_readRule_20 ?_
  refine ld_i2 iX10_readRule_21 ?_
  refine xX10_readSum kMX10_132 iX10_readRule_22 (by decide) (Nat.le_of_ble_eq_true rfl) rfl rfl ?_
  refine c_mReadSum (p := p + 1) (A := dA d) (by omega) (hR.go (by omega) (by omega) rfl) (by rw [f0 40 0 17 (by omega)]; exact hQ.1) (by omega) (fun p2 w2 n G M N2 f2 e2 eT hn hI c2 => ?_)
  have f02 := (f0.t (dA d)).tr f2
  have hdp : dpm (dD d) M n ≤ 3 := dpm_le n (fun j hj hm => by have := (hI j hj).2; exact (hW.2.2 (M j) (by omega)).2.2.2)
  refine ld_a0 iX10_readRule_25 ?_
  refine gf_X10_readDeep kFX10_43 iX10_readRule_26 ?_
  refine ld_i2 iX10_readRule_29 ?_
  refine ld_a0 iX10_readRule_30 ?_
  refine ld_i2 iX10_readRule_31 ?_
  refine xX10_deepBy kMX10_135 iX10_readRule_32 (by decide) (Nat.le_of_ble_eq_true rfl) rfl rfl ?_
  refine c_mDeepBy (A := dA d) (D := dD d) (by omega) hn (by omega) eT hI (hd3 N2 f02) ?_
  refine as_52 rfl (by omega) iX10_readRule_35 ?_
  have f03 : FrRl (dA d) N (upN N2 52 0 (dA d) ((dpm (dD d) M n + 1 : Nat) : Int)) := f02.r.up (by omega)
  have e3 : Me (upN N2 52 0 (dA d) ((dpm (dD d) M n + 1 : Nat) : Int)) T L p2 w2 := e2.of (fun j hj => upN_k (by decide)) (fun j => upN_k (by decide))
  have h17 : upN N2 52 0 (dA d) ((dpm (dD d) M n + 1 : Nat) : Int) 40 0 17 = dA d := by rw [upN_k (by decide), f02 40 0 17 (by omega) (by omega) (by omega)]; exact hQ.1
  have r3 := e3.2.2.2.1
  have r4 := e3.2.2.2.2
  refine ld_a0 iX10_readRule_36 ?_
  refine gf_X10_wrong kFX10_93 iX10_readRule_37 ?_
  rw [r3]
  refine r_iconst iX10_readRule_40 ?_
  refine r_icmpne iX10_readRule_41 (by omega) (by omega) (fun h41 => ?_) (fun h41 => ?_)
  · have c3 := Or.resolve_left c2 (fun y => h41 y.1)
    first
      | exact o59 p2 n G M _ f03 e3 h17 (eT.of (fun k i j z1 z2 => upN_k (by omega))) (upN_eq _ _ _ _ _) y1 y2 (by omega)
      | (rw [if_pos rfl] at e5; exact f59 p _ _ N5 (by omega) (f03.tr (f5.r _)) e5 (by rw [f5 40 0 17 (by omega)]; exact h17) hPr rfl)
      | (rcases c3.2 with ⟨y1, y2⟩ | ⟨y1, w, y2, y3⟩
         · exact f59 _ _ _ _ h41 f03 e3 h17 (by rw [← hP]; unfold pRule; rw [if_neg y1]) y2
         · exact f59 w _ _ _ h41 f03 e3 h17 (by rw [← hP]; unfold pRule; rw [if_pos y1, y2]) y3)
  · obtain ⟨-, y1, y2⟩ := Or.resolve_right c2 (fun y => y.1 h41)
    subst h41
    refine ld_a0 iX10_readRule_44 ?_
    refine gf_X10_readDeep kFX10_43 iX10_readRule_45 ?_
    refine ld_i2 iX10_readRule_48 ?_
    refine al_52 rfl (by omega) iX10_readRule_49 ?_
    rw [upN_eq]
    refine r_iconst iX10_readRule_50 ?_
    refine r_icmple iX10_readRule_51 (by omega) (by omega) (fun h51 => ?_) (fun h51 => ?_)
    · first
        | exact o59 p2 n G M _ f03 e3 h17 (eT.of (fun k i j z1 z2 => upN_k (by omega))) (upN_eq _ _ _ _ _) y1 y2 (by omega)
        | (rw [if_pos rfl] at e5; exact f59 p _ _ N5 (by omega) (f03.tr (f5.r _)) e5 (by rw [f5 40 0 17 (by omega)]; exact h17) hPr rfl)
        | (rcases c3.2 with ⟨y1, y2⟩ | ⟨y1, w, y2, y3⟩
           · exact f59 _ _ _ _ h41 f03 e3 h17 (by rw [← hP]; unfold pRule; rw [if_neg y1]) y2
           · exact f59 w _ _ _ h41 f03 e3 h17 (by rw [← hP]; unfold pRule; rw [if_pos y1, y2]) y3)
    · have hPr : P = .inl p := by rw [← hP]; unfold pRule; rw [if_pos y1, y2]; simp only; rw [if_neg (by omega)]
      refine ld_a0 iX10_readRule_54 ?_
      refine ld_i1 iX10_readRule_55 ?_
      refine xX10_badAt kMX10_96 iX10_readRule_56 (by decide) (Nat.le_of_ble_eq_true rfl) rfl rfl ?_
      refine c_mBadAt e3 (by omega) (fun N5 f5 e5 => ?_)
      first
        | exact o59 p2 n G M _ f03 e3 h17 (eT.of (fun k i j z1 z2 => upN_k (by omega))) (upN_eq _ _ _ _ _) y1 y2 (by omega)
        | (rw [if_pos rfl] at e5; exact f59 p _ _ N5 (by omega) (f03.tr (f5.r _)) e5 (by rw [f5 40 0 17 (by omega)]; exact h17) hPr rfl)
        | (rcases c3.2 with ⟨y1, y2⟩ | ⟨y1, w, y2, y3⟩
           · exact f59 _ _ _ _ h41 f03 e3 h17 (by rw [← hP]; unfold pRule; rw [if_neg y1]) y2
           · exact f59 w _ _ _ h41 f03 e3 h17 (by rw [← hP]; unfold pRule; rw [if_pos y1, y2]) y3)
end MRead5
