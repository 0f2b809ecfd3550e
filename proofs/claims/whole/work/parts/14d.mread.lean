/-! own text: the reference reads segments -/
/-- the reference's account a has these m segments -/
def RowMS (N : Nm) (a m : Nat) (F E S : Nat → Int) : Prop := N 48 0 a = m ∧ ∀ q, q < m → N 50 0 (3 * (6 * a + q)) = F q ∧ N 50 0 (3 * (6 * a + q) + 1) = E q ∧ N 50 0 (3 * (6 * a + q) + 2) = S q
def FrMS (a : Nat) (N N' : Nm) : Prop := ∀ k i j, ¬ (k = 40 ∧ (j = 3 ∨ j = 4)) → ¬ (k = 48 ∧ j = a) → ¬ (k = 50 ∧ 18 * a ≤ j ∧ j < 18 * a + 18) → N' k i j = N k i j
theorem FrMS.rf (a : Nat) (N : Nm) : FrMS a N N := fun _ _ _ _ _ _ => rfl
theorem FrMS.tr {a : Nat} {A B C : Nm} (h1 : FrMS a A B) (h2 : FrMS a B C) : FrMS a A C := fun k i j q z y => (h2 k i j q z y).trans (h1 k i j q z y)
theorem FrM.s {A B : Nm} (h : FrM A B) (a : Nat) : FrMS a A B := fun k i j q _ _ => h k i j q
theorem RowMS.of {N N' : Nm} {a m : Nat} {F E S : Nat → Int} (h : RowMS N a m F E S) (f : ∀ k i j, 48 ≤ k → k ≤ 50 → N' k i j = N k i j) : RowMS N' a m F E S := ⟨by rw [f 48 _ _ (by omega) (by omega)]; exact h.1, fun j hj => by rw [f 50 _ _ (by omega) (by omega), f 50 _ _ (by omega) (by omega), f 50 _ _ (by omega) (by omega)]; exact h.2 j hj⟩
/-- segments that were there are as they were -/
def Sg1 (a m : Nat) (N N2 : Nm) : Prop := FrMS a N N2 ∧ (∀ j, j < 3 * (6 * a + m) → N2 50 0 j = N 50 0 j) ∧ N2 48 0 a = N 48 0 a
theorem Sg1.m {a m : Nat} {N N2 N3 : Nm} (h : Sg1 a m N N2) (f : FrM N2 N3) : Sg1 a m N N3 := ⟨h.1.tr (f.s a), fun j hj => by rw [f 50 0 j (by omega)]; exact h.2.1 j hj, by rw [f 48 0 a (by omega)]; exact h.2.2⟩
theorem Sg1.up {a m j : Nat} {N N2 : Nm} {v : Int} (h : Sg1 a m N N2) (hm : m < 6) (hj : 3 * (6 * a + m) ≤ j ∧ j ≤ 3 * (6 * a + m) + 2) : Sg1 a m N (upN N2 50 0 j v) := by
  refine ⟨fun k i j' z1 z2 z3 => ?_, fun j' hj' => ?_, ?_⟩
  · rw [show upN N2 50 0 j v k i j' = N2 k i j' from if_neg (fun y => by omega)]; exact h.1 k i j' z1 z2 z3
  · rw [upN_j (by omega)]; exact h.2.1 j' hj'
  · rw [upN_k (by decide)]; exact h.2.2
/-- what a segment comes to -/
def SgE (P : Nat ⊕ (Nat × Int × Int × Int)) (N' : Nm) (a m : Nat) (F E S : Nat → Int) (p' : Nat) (w' : Int) : Prop := (w' = -1 ∧ ∃ x y z, P = .inr (p', x, y, z) ∧ RowMS N' a (m + 1) (upf F m x) (upf E m y) (upf S m z)) ∨ (w' ≠ -1 ∧ ∃ w : Nat, P = .inl w ∧ w' = (w : Int))
section MRead6
variable {K : Kx} {N : Nm} {g : Ge} {T : Nat → Int} {L p a m : Nat} {w : Int} {F E S : Nat → Int}
theorem RowMS.add {N2 : Nm} {x y z : Int} (h : RowMS N a m F E S) (h1 : Sg1 a m N N2) (e0 : N2 50 0 (3 * (6 * a + m)) = x) (e1 : N2 50 0 (3 * (6 * a + m) + 1) = y) (e2 : N2 50 0 (3 * (6 * a + m) + 2) = z) : RowMS (upN N2 48 0 a ((m : Int) + 1)) a (m + 1) (upf F m x) (upf E m y) (upf S m z) := by
  refine ⟨upN_eq _ _ _ _ _, fun q hq => ?_⟩
  rw [upN_k (by decide), upN_k (by decide), upN_k (by decide)]
  by_cases e : q = m
  · subst e; rw [upf_eq, upf_eq, upf_eq]; exact ⟨e0, e1, e2⟩
  · rw [upf_ne e, upf_ne e, upf_ne e, h1.2.1 _ (by omega), h1.2.1 _ (by omega), h1.2.1 _ (by omega)]; exact h.2 q (by omega)
theorem c_mReadsSegment {lo hi : Int} {Pq : Nm → Ge → Prop} (ha : a < 6) (hm : m < 6) (hR : Me N T L p (-1)) (hS : RowMS N a m F E S) (hI : SgI m F E S lo hi) (hq : ∀ p' w' N', FrMS a N N' → Me N' T L p' w' → N' 48 0 a = (m : Int) + 1 → SgE (pSg T L p lo hi) N' a m F E S p' w' → Pq N' g) : Ck K YX10_readsSegment hX10_readsSegment [vr 40 0, vi a] N g (qV Pq) := by
  have t4 := hR.1.2.1
  have hlh := hI.r
  generalize hP : pSg T L p lo hi = P at hq
  refine Ck.intro 4 (by decide) rfl ?_
  show AW _ _ _ _ _ [some (vr 40 0), some (vi a), none, none, none, none] _ _ _
  have e147 : ∀ (v i : Int) (p' : Nat) (w' : Int) (N2 : Nm), Sg1 a m N N2 → Me N2 T L p' w' → SgE P (upN N2 48 0 a ((m : Int) + 1)) a m F E S p' w' → AW K YX10_readsSegment hX10_readsSegment (qV Pq) 147 [some (vr 40 0), some (vi a), some (vi m), some (vi (3 * (6 * (a : Int) + m))), some (vi v), some (vi i)] [] N2 g := by
    intro v i p' w' N2 k1 k2 k3
    refine ld_a0 iX10_readsSegment_147 ?_
    refine gf_X10_readMany kFX10_31 iX10_readsSegment_148 ?_
    refine ld_i1 iX10_readsSegment_151 ?_
    refine r_dup2 rfl rfl iX10_readsSegment_152 ?_
    refine al_48 rfl (by omega) iX10_readsSegment_153 ?_
    rw [k1.2.2, hS.1]
    refine r_iconst iX10_readsSegment_154 ?_
    refine r_iadd iX10_readsSegment_155 ?_
    refine as_48 rfl (by omega) iX10_readsSegment_156 ?_
    refine t_void rfl iX10_readsSegment_157 ?_
    refine hq p' w' _ (fun k i j z1 z2 z3 => ?_) (k2.of (fun j hj => upN_k (by decide)) (fun j => upN_k (by decide))) (upN_eq _ _ _ _ _) k3
    rw [show upN N2 48 0 a ((m : Int) + 1) k i j = N2 k i j from if_neg (fun y => by omega)]; exact k1.1 k i j z1 z2 z3
  -- something is wrong already
  have f72 : ∀ (v : Int) (w : Nat) (p' : Nat) (w' : Int) (N2 : Nm), (0 ≤ v ∧ v ≤ 20000) → w' ≠ -1 → Sg1 a m N N2 → Me N2 T L p' w' → P = .inl w → w' = (w : Int) → AW K YX10_readsSegment hX10_readsSegment (qV Pq) 72 [some (vr 40 0), some (vi a), some (vi m), some (vi (3 * (6 * (a : Int) + m))), some (vi v), none] [] N2 g := by
    intro v w p' w' N2 hv hw k1 k2 k3 k4
    refine ld_a0 iX10_readsSegment_72 ?_
    refine r_bipush (by decide) iX10_readsSegment_73 ?_
    refine xX10_takes kMX10_116 iX10_readsSegment_75 (by decide) (Nat.le_of_ble_eq_true rfl) rfl rfl ?_
    refine c_mTakes0 k2 hw (fun N3 f3 e3 => ?_)
    refine sv_i5 (by decide) rfl iX10_readsSegment_78 ?_
    refine ld_a0 iX10_readsSegment_80 ?_
    refine gf_X10_readSegment kFX10_37 iX10_readsSegment_81 ?_
    refine ld_i3 iX10_readsSegment_84 ?_
    refine r_iconst iX10_readsSegment_85 ?_
    refine r_iadd iX10_readsSegment_86 ?_
    refine ld_i5 iX10_readsSegment_87 ?_
    refine r_ifeq iX10_readsSegment_89 (by omega) (fun h89 => ?_) (fun h89 => ?_)
    · refine r_iconst iX10_readsSegment_97 ?_
      refine as_50 (n := (3 * (6 * a + m) + 1)) (by omega) (by omega) iX10_readsSegment_98 ?_
      refine ld_a0 iX10_readsSegment_99 ?_
      refine gf_X10_readSegment kFX10_37 iX10_readsSegment_100 ?_
      refine ld_i3 iX10_readsSegment_103 ?_
      refine r_iconst iX10_readsSegment_104 ?_
      refine r_iadd iX10_readsSegment_105 ?_
      refine ld_i5 iX10_readsSegment_106 ?_
      refine r_ifeq iX10_readsSegment_108 (by omega) (fun h108 => ?_) (fun h108 => ?_)
      · refine ld_i4 iX10_readsSegment_122 ?_
        refine as_50 (n := (3 * (6 * a + m) + 2)) (by omega) (by omega) iX10_readsSegment_124 ?_
        have s5 : ∀ b, Sg1 a m N (upN (upN N3 50 0 (3 * (6 * a + m) + 1) (-1)) 50 0 (3 * (6 * a + m) + 2) b) := fun b => ((k1.m f3).up hm (by omega)).up hm (by omega)
        have e5 : ∀ b, Me (upN (upN N3 50 0 (3 * (6 * a + m) + 1) (-1)) 50 0 (3 * (6 * a + m) + 2) b) T L p' w' := fun b => (e3.of (fun j hj => upN_k (by decide)) (fun j => upN_k (by decide))).of (fun j hj => upN_k (by decide)) (fun j => upN_k (by decide))
        refine ld_i5 iX10_readsSegment_125 ?_
        refine r_ifne iX10_readsSegment_127 (by omega) (fun h127 => ?_) (fun h127 => ?_)
        · exfalso; omega
        · refine ld_i4 iX10_readsSegment_130 ?_
          refine r_sipush (by decide) iX10_readsSegment_132 ?_
          refine r_icmple iX10_readsSegment_135 (by omega) (by omega) (fun h135 => ?_) (fun h135 => ?_)
          · first
              | exact e147 _ _ _ _ _ ((s5 _).m (f6.tr f7)) e7 (Or.inr ⟨hw, w, k3, k4⟩)
              | exact e147 _ _ _ _ _ (s5 _) (e5 _) (Or.inr ⟨hw, w, k3, k4⟩)
          · refine ld_a0 iX10_readsSegment_138 ?_
            refine xX10_ahead kMX10_100 iX10_readsSegment_139 (by decide) (Nat.le_of_ble_eq_true rfl) rfl rfl ?_
            refine c_mAhead (e5 _) (fun N6 f6 e6 => ?_)
            refine r_pop rfl iX10_readsSegment_142 ?_
            refine ld_a0 iX10_readsSegment_143 ?_
            refine xX10_bad kMX10_103 iX10_readsSegment_144 (by decide) (Nat.le_of_ble_eq_true rfl) rfl rfl ?_
            refine c_mBad0 e6 hw (fun N7 f7 e7 => ?_)
            first
              | exact e147 _ _ _ _ _ ((s5 _).m (f6.tr f7)) e7 (Or.inr ⟨hw, w, k3, k4⟩)
              | exact e147 _ _ _ _ _ (s5 _) (e5 _) (Or.inr ⟨hw, w, k3, k4⟩)
      · exfalso; omega
    · exfalso; omega
  have f62 : ∀ (w : Nat) (p' : Nat) (w' : Int) (N2 : Nm), w' ≠ -1 → Sg1 a m N N2 → Me N2 T L p' w' → P = .inl w → w' = (w : Int) → AW K YX10_readsSegment hX10_readsSegment (qV Pq) 62 [some (vr 40 0), some (vi a), some (vi m), some (vi (3 * (6 * (a : Int) + m))), none, none] [] N2 g := by
    intro w p' w' N2 hw k1 k2 k3 k4
    refine ld_a0 iX10_readsSegment_62 ?_
    refine r_iconst iX10_readsSegment_63 ?_
    refine r_sipush (by decide) iX10_readsSegment_64 ?_
    refine xX10_number kMX10_129 iX10_readsSegment_67 (by decide) (Nat.le_of_ble_eq_true rfl) rfl rfl ?_
    refine c_mNumber0 k2 hw (fun N3 f3 e3 => ?_)
    refine sv_i4 (by decide) rfl iX10_readsSegment_70 ?_
    exact f72 _ w _ _ N3 (by omega) hw (k1.m f3) e3 k3 k4
  have f56 : ∀ (w : Nat) (p' : Nat) (w' : Int) (N2 : Nm), w' ≠ -1 → Sg1 a m N N2 → Me N2 T L p' w' → P = .inl w → w' = (w : Int) → AW K YX10_readsSegment hX10_readsSegment (qV Pq) 56 [some (vr 40 0), some (vi a), some (vi m), some (vi (3 * (6 * (a : Int) + m))), none, none] [] N2 g := by
    intro w p' w' N2 hw k1 k2 k3 k4
    refine ld_a0 iX10_readsSegment_56 ?_
    refine r_bipush (by decide) iX10_readsSegment_57 ?_
    refine xX10_must kMX10_113 iX10_readsSegment_59 (by decide) (Nat.le_of_ble_eq_true rfl) rfl rfl ?_
    refine c_mMust0 k2 hw (fun N3 f3 e3 => ?_)
    exact f62 w _ _ N3 hw (k1.m f3) e3 k3 k4
  -- FROM, ':' and a number are there, and no ':' behind
  have o80n : ∀ (v1 v : Int) (q : Nat) (N3 : Nm), (0 ≤ v ∧ v ≤ 20000) → Sg1 a m N N3 → N3 50 0 (3 * (6 * a + m)) = v1 → Me N3 T L q (-1) → sk T L q = q → (if v ≤ 1999 then .inr (q, v1, -1, v) else .inl q) = P → AW K YX10_readsSegment hX10_readsSegment (qV Pq) 80 [some (vr 40 0), some (vi a), some (vi m), some (vi (3 * (6 * (a : Int) + m))), some (vi v), some (vi 0)] [] N3 g := by
    intro v1 v q N3 hv k1 k2 k3 k5 k6
    have s5 : ∀ b, Sg1 a m N (upN (upN N3 50 0 (3 * (6 * a + m) + 1) (-1)) 50 0 (3 * (6 * a + m) + 2) b) := fun b => (k1.up hm (by omega)).up hm (by omega)
    have e5 : ∀ b, Me (upN (upN N3 50 0 (3 * (6 * a + m) + 1) (-1)) 50 0 (3 * (6 * a + m) + 2) b) T L q (-1) := fun b => (k3.of (fun j hj => upN_k (by decide)) (fun j => upN_k (by decide))).of (fun j hj => upN_k (by decide)) (fun j => upN_k (by decide))
    refine ld_a0 iX10_readsSegment_80 ?_
    refine gf_X10_readSegment kFX10_37 iX10_readsSegment_81 ?_
    refine ld_i3 iX10_readsSegment_84 ?_
    refine r_iconst iX10_readsSegment_85 ?_
    refine r_iadd iX10_readsSegment_86 ?_
    refine ld_i5 iX10_readsSegment_87 ?_
    refine r_ifeq iX10_readsSegment_89 (by omega) (fun h89 => ?_) (fun h89 => ?_)
    · refine r_iconst iX10_readsSegment_97 ?_
      refine as_50 (n := (3 * (6 * a + m) + 1)) (by omega) (by omega) iX10_readsSegment_98 ?_
      refine ld_a0 iX10_readsSegment_99 ?_
      refine gf_X10_readSegment kFX10_37 iX10_readsSegment_100 ?_
      refine ld_i3 iX10_readsSegment_103 ?_
      refine r_iconst iX10_readsSegment_104 ?_
      refine r_iadd iX10_readsSegment_105 ?_
      refine ld_i5 iX10_readsSegment_106 ?_
      refine r_ifeq iX10_readsSegment_108 (by omega) (fun h108 => ?_) (fun h108 => ?_)
      · refine ld_i4 iX10_readsSegment_122 ?_
        refine as_50 (n := (3 * (6 * a + m) + 2)) (by omega) (by omega) iX10_readsSegment_124 ?_
        refine ld_i5 iX10_readsSegment_125 ?_
        refine r_ifne iX10_readsSegment_127 (by omega) (fun h127 => ?_) (fun h127 => ?_)
        · exfalso; omega
        · refine ld_i4 iX10_readsSegment_130 ?_
          refine r_sipush (by decide) iX10_readsSegment_132 ?_
          refine r_icmple iX10_readsSegment_135 (by omega) (by omega) (fun h135 => ?_) (fun h135 => ?_)
          · rw [if_pos h135] at k6
            first
              | exact e147 _ _ _ _ _ (s5 _) (e5 _) (Or.inl ⟨rfl, v1, -1, v, k6.symm, hS.add (s5 _) (by rw [upN_j (by omega), upN_j (by omega)]; exact k2) (by rw [upN_j (by omega), upN_eq]) (upN_eq _ _ _ _ _)⟩)
              | (rw [k5] at e7; exact e147 _ _ _ _ _ ((s5 _).m (f6.tr f7)) e7 (Or.inr ⟨by omega, q, k6.symm, rfl⟩))
          · rw [if_neg (by omega)] at k6
            refine ld_a0 iX10_readsSegment_138 ?_
            refine xX10_ahead kMX10_100 iX10_readsSegment_139 (by decide) (Nat.le_of_ble_eq_true rfl) rfl rfl ?_
            refine c_mAhead (e5 _) (fun N6 f6 e6 => ?_)
            refine r_pop rfl iX10_readsSegment_142 ?_
            refine ld_a0 iX10_readsSegment_143 ?_
            refine xX10_bad kMX10_103 iX10_readsSegment_144 (by decide) (Nat.le_of_ble_eq_true rfl) rfl rfl ?_
            refine c_mBad1 e6 (fun N7 f7 e7 => ?_)
            first
              | exact e147 _ _ _ _ _ (s5 _) (e5 _) (Or.inl ⟨rfl, v1, -1, v, k6.symm, hS.add (s5 _) (by rw [upN_j (by omega), upN_j (by omega)]; exact k2) (by rw [upN_j (by omega), upN_eq]) (upN_eq _ _ _ _ _)⟩)
              | (rw [k5] at e7; exact e147 _ _ _ _ _ ((s5 _).m (f6.tr f7)) e7 (Or.inr ⟨by omega, q, k6.symm, rfl⟩))
      · exfalso; omega
    · exfalso; omega
  have o80y : ∀ (v1 v : Int) (q : Nat) (N3 : Nm), (0 ≤ v ∧ v ≤ 20000) → Sg1 a m N N3 → N3 50 0 (3 * (6 * a + m)) = v1 → Me N3 T L q (-1) → (match pNum T L q 0 1999 with | .inl w => .inl w | .inr (p3, v3) => .inr (p3, v1, v, v3)) = P → AW K YX10_readsSegment hX10_readsSegment (qV Pq) 80 [some (vr 40 0), some (vi a), some (vi m), some (vi (3 * (6 * (a : Int) + m))), some (vi v), some (vi 1)] [] N3 g := by
    intro v1 v q N3 hv k1 k2 k3 k6
    refine ld_a0 iX10_readsSegment_80 ?_
    refine gf_X10_readSegment kFX10_37 iX10_readsSegment_81 ?_
    refine ld_i3 iX10_readsSegment_84 ?_
    refine r_iconst iX10_readsSegment_85 ?_
    refine r_iadd iX10_readsSegment_86 ?_
    refine ld_i5 iX10_readsSegment_87 ?_
    refine r_ifeq iX10_readsSegment_89 (by omega) (fun h89 => ?_) (fun h89 => ?_)
    · exfalso; omega
    · refine ld_i4 iX10_readsSegment_92 ?_
      refine r_goto iX10_readsSegment_94 ?_
      refine as_50 (n := (3 * (6 * a + m) + 1)) (by omega) (by omega) iX10_readsSegment_98 ?_
      refine ld_a0 iX10_readsSegment_99 ?_
      refine gf_X10_readSegment kFX10_37 iX10_readsSegment_100 ?_
      refine ld_i3 iX10_readsSegment_103 ?_
      refine r_iconst iX10_readsSegment_104 ?_
      refine r_iadd iX10_readsSegment_105 ?_
      refine ld_i5 iX10_readsSegment_106 ?_
      refine r_ifeq iX10_readsSegment_108 (by omega) (fun h108 => ?_) (fun h108 => ?_)
      · exfalso; omega
      · refine ld_a0 iX10_readsSegment_111 ?_
        refine r_iconst iX10_readsSegment_112 ?_
        refine r_sipush (by decide) iX10_readsSegment_113 ?_
        refine xX10_number kMX10_129 iX10_readsSegment_116 (by decide) (Nat.le_of_ble_eq_true rfl) rfl rfl ?_
        refine c_mNumber1 (by omega) (by omega) (k3.of (fun j hj => upN_k (by decide)) (fun j => upN_k (by decide))) (fun v3 p4 w4 N4 hv4 f4 e4 c4 => ?_)
        have s4 := (k1.up (v := v) hm (show _ ∧ 3 * (6 * a + m) + 1 ≤ _ by omega)).m f4
        refine r_goto iX10_readsSegment_119 ?_
        refine as_50 (n := (3 * (6 * a + m) + 2)) (by omega) (by omega) iX10_readsSegment_124 ?_
        refine ld_i5 iX10_readsSegment_125 ?_
        refine r_ifne iX10_readsSegment_127 (by omega) (fun h127 => ?_) (fun h127 => ?_)
        · have s5 := s4.up (v := v3) hm (show _ ∧ 3 * (6 * a + m) + 2 ≤ _ by omega)
          rcases c4 with ⟨y1, y2⟩ | ⟨w, y1, y2⟩
          · rw [y2] at k6
            exact e147 _ _ _ _ _ s5 (e4.of (fun j hj => upN_k (by decide)) (fun j => upN_k (by decide))) (Or.inl ⟨y1, v1, v, v3, k6.symm, hS.add s5 (by rw [upN_j (by omega), f4 50 0 _ (by omega), upN_j (by omega)]; exact k2) (by rw [upN_j (by omega), f4 50 0 _ (by omega), upN_eq]) (upN_eq _ _ _ _ _)⟩)
          · rw [y1] at k6
            exact e147 _ _ _ _ _ s5 (e4.of (fun j hj => upN_k (by decide)) (fun j => upN_k (by decide))) (Or.inr ⟨by omega, w, k6.symm, y2⟩)
        · exfalso; omega
  have o72 : ∀ (v1 v : Int) (p1 p2 : Nat) (N2 : Nm), (0 ≤ v ∧ v ≤ 20000) → Sg1 a m N N2 → N2 50 0 (3 * (6 * a + m)) = v1 → Me N2 T L p2 (-1) → pNum T L p lo hi = .inr (p1, v1) → tat T L (sk T L p1) = 58 → pNum T L (sk T L p1 + 1) 0 9999 = .inr (p2, v) → AW K YX10_readsSegment hX10_readsSegment (qV Pq) 72 [some (vr 40 0), some (vi a), some (vi m), some (vi (3 * (6 * (a : Int) + m))), some (vi v), none] [] N2 g := by
    intro v1 v p1 p2 N2 hv k1 k2 k3 k4 k5 k6
    unfold pSg at hP
    rw [k4] at hP
    simp only at hP
    rw [if_pos k5, k6] at hP
    simp only at hP
    refine ld_a0 iX10_readsSegment_72 ?_
    refine r_bipush (by decide) iX10_readsSegment_73 ?_
    refine xX10_takes kMX10_116 iX10_readsSegment_75 (by decide) (Nat.le_of_ble_eq_true rfl) rfl rfl ?_
    refine c_mTakes1 (by omega) k3 (fun z p3 N3 hz f3 e3 c3 => ?_)
    refine sv_i5 (by decide) rfl iX10_readsSegment_78 ?_
    rcases c3 with ⟨y1, y2, y4, y3⟩ | ⟨y1, y2, y3⟩
    · rw [if_pos y2] at hP
      subst y1
      subst y3
      exact o80y v1 v _ N3 hv (k1.m f3) (by rw [f3 50 0 _ (by omega)]; exact k2) e3 hP
    · rw [if_neg y2] at hP
      subst y1
      subst y3
      exact o80n v1 v _ N3 hv (k1.m f3) (by rw [f3 50 0 _ (by omega)]; exact k2) e3 sk_sk hP
  have t55 : ∀ (v1 : Int) (p1 : Nat) (w1 : Int) (N1 : Nm), FrM N N1 → Me N1 T L p1 w1 → NuE (pNum T L p lo hi) p1 v1 w1 → AW K YX10_readsSegment hX10_readsSegment (qV Pq) 55 [some (vr 40 0), some (vi a), some (vi m), some (vi (3 * (6 * (a : Int) + m))), none, none] [vi v1, vi (3 * (6 * (a : Int) + m) + 0), vr 50 0] N1 g := by
    intro v1 p1 w1 N1 f1 e1 c1
    have s1 : Sg1 a m N N1 := Sg1.m ⟨FrMS.rf a N, fun _ _ => rfl, rfl⟩ f1
    have s2 := s1.up (v := v1) hm (show _ ∧ 3 * (6 * a + m) ≤ _ by omega)
    have e2 : Me (upN N1 50 0 (3 * (6 * a + m)) v1) T L p1 w1 := e1.of (fun j hj => upN_k (by decide)) (fun j => upN_k (by decide))
    have ok56 : w1 = -1 → pNum T L p lo hi = .inr (p1, v1) → AW K YX10_readsSegment hX10_readsSegment (qV Pq) 56 [some (vr 40 0), some (vi a), some (vi m), some (vi (3 * (6 * (a : Int) + m))), none, none] [] (upN N1 50 0 (3 * (6 * a + m)) v1) g := by
      intro y1 y2
      subst y1
      have hP' := hP
      unfold pSg at hP'
      rw [y2] at hP'
      simp only at hP'
      have o62 : ∀ N3, FrM (upN N1 50 0 (3 * (6 * a + m)) v1) N3 → Me N3 T L (sk T L p1 + 1) (-1) → tat T L (sk T L p1) = 58 → sk T L p1 < L → AW K YX10_readsSegment hX10_readsSegment (qV Pq) 62 [some (vr 40 0), some (vi a), some (vi m), some (vi (3 * (6 * (a : Int) + m))), none, none] [] N3 g := by
        intro N3 f3 e3 z1 z2
        rw [if_pos z1] at hP'
        refine ld_a0 iX10_readsSegment_62 ?_
        refine r_iconst iX10_readsSegment_63 ?_
        refine r_sipush (by decide) iX10_readsSegment_64 ?_
        refine xX10_number kMX10_129 iX10_readsSegment_67 (by decide) (Nat.le_of_ble_eq_true rfl) rfl rfl ?_
        refine c_mNumber1 (by omega) (by omega) e3 (fun v4 p4 w4 N4 hv4 f4 e4 c4 => ?_)
        refine sv_i4 (by decide) rfl iX10_readsSegment_70 ?_
        rcases c4 with ⟨x1, x2⟩ | ⟨w, x1, x2⟩
        · subst x1
          exact o72 v1 v4 p1 p4 N4 hv4 (s2.m (f3.tr f4)) (by rw [(f3.tr f4) 50 0 _ (by omega), upN_eq]) e4 y2 z1 x2
        · rw [x1] at hP'
          exact f72 _ w _ _ N4 hv4 (by omega) (s2.m (f3.tr f4)) e4 hP'.symm x2
      refine ld_a0 iX10_readsSegment_56 ?_
      refine r_bipush (by decide) iX10_readsSegment_57 ?_
      refine xX10_must kMX10_113 iX10_readsSegment_59 (by decide) (Nat.le_of_ble_eq_true rfl) rfl rfl ?_
      refine c_mMust1 (by omega) e2 (fun p3 w3 N3 f3 e3 c3 => ?_)
      rcases c3 with ⟨z1, z2, z3, z4⟩ | ⟨z1, z2⟩
      · subst z3
        subst z4
        exact o62 N3 f3 e3 z1 z2
      · rw [if_neg z1] at hP'
        exact f62 _ _ _ N3 (by omega) (s2.m f3) e3 hP'.symm z2
    refine as_50 (n := (3 * (6 * a + m))) (by omega) (by omega) iX10_readsSegment_55 ?_
    rcases c1 with ⟨y1, y2⟩ | ⟨w, y1, y2⟩
    · exact ok56 y1 y2
    · exact f56 w _ _ _ (by omega) s2 e2 (by rw [← hP]; unfold pSg; rw [y1]) y2
  refine ld_a0 iX10_readsSegment_0 ?_
  refine gf_X10_readMany kFX10_31 iX10_readsSegment_1 ?_
  refine ld_i1 iX10_readsSegment_4 ?_
  refine al_48 rfl (by omega) iX10_readsSegment_5 ?_
  rw [hS.1]
  refine sv_i2 (by decide) rfl iX10_readsSegment_6 ?_
  refine r_iconst iX10_readsSegment_7 ?_
  refine r_bipush (by decide) iX10_readsSegment_8 ?_
  refine ld_i1 iX10_readsSegment_10 ?_
  refine r_imul iX10_readsSegment_11 ?_
  refine ld_i2 iX10_readsSegment_12 ?_
  refine r_iadd iX10_readsSegment_13 ?_
  refine r_imul iX10_readsSegment_14 ?_
  refine sv_i3 (by decide) rfl iX10_readsSegment_15 ?_
  refine ld_a0 iX10_readsSegment_16 ?_
  refine gf_X10_readSegment kFX10_37 iX10_readsSegment_17 ?_
  refine ld_i3 iX10_readsSegment_20 ?_
  refine r_iconst iX10_readsSegment_21 ?_
  refine r_iadd iX10_readsSegment_22 ?_
  refine ld_i2 iX10_readsSegment_23 ?_
  refine r_ifne iX10_readsSegment_24 (by omega) (fun h24 => ?_) (fun h24 => ?_)
  · obtain ⟨i0, i1, i2⟩ := hI.2.1 (by omega)
    refine ld_a0 iX10_readsSegment_36 ?_
    refine ld_a0 iX10_readsSegment_37 ?_
    refine gf_X10_readSegment kFX10_37 iX10_readsSegment_38 ?_
    refine ld_i3 iX10_readsSegment_41 ?_
    refine r_iconst iX10_readsSegment_42 ?_
    refine r_isub iX10_readsSegment_43 ?_
    refine r_iconst iX10_readsSegment_44 ?_
    refine r_iadd iX10_readsSegment_45 ?_
    have hbd := (hI.2.2.2 (m - 1) (by omega)).1
    refine al_50 (n := (3 * (6 * a + (m - 1)))) (by omega) (by omega) iX10_readsSegment_46 ?_
    rw [(hS.2 (m - 1) (by omega)).1]
    refine r_iconst iX10_readsSegment_47 ?_
    refine r_iadd iX10_readsSegment_48 ?_
    refine r_sipush (by decide) iX10_readsSegment_49 ?_
    refine xX10_number kMX10_129 iX10_readsSegment_52 (by decide) (Nat.le_of_ble_eq_true rfl) rfl rfl ?_
    refine c_mNumber1 (by omega) (by omega) hR (fun v1 p1 w1 N1 hv f1 e1 c1 => ?_)
    first
      | exact t55 v1 p1 w1 N1 f1 e1 (by rw [i1, i2]; exact c1)
  · obtain ⟨i1, i2⟩ := hI.1 (by omega)
    refine ld_a0 iX10_readsSegment_27 ?_
    refine r_iconst iX10_readsSegment_28 ?_
    refine r_iconst iX10_readsSegment_29 ?_
    refine xX10_number kMX10_129 iX10_readsSegment_30 (by decide) (Nat.le_of_ble_eq_true rfl) rfl rfl ?_
    refine c_mNumber1 (by omega) (by omega) hR (fun v1 p1 w1 N1 hv f1 e1 c1 => ?_)
    refine r_goto iX10_readsSegment_33 ?_
    first
      | exact t55 v1 p1 w1 N1 f1 e1 (by rw [i1, i2]; exact c1)
end MRead6
