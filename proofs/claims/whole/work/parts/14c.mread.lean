/-! own text: the reference reads sums -/
/-- what a sum comes to -/
def SmE (T : Nat → Int) (L A p p' : Nat) (w' : Int) (n : Nat) (G : Nat → Int) (M : Nat → Nat) : Prop :=
  (w' = -1 ∧ tat T L (sk T L p) = 61 ∧ pTerms T L A (sk T L p + 1) = .inr (p', n, G, M)) ∨ (w' ≠ -1 ∧ ((tat T L (sk T L p) ≠ 61 ∧ w' = (sk T L p : Int)) ∨ (tat T L (sk T L p) = 61 ∧ ∃ w : Nat, pTerms T L A (sk T L p + 1) = .inl w ∧ w' = (w : Int))))
/-- behind the k-th term, f more allowed -/
def pTc (T : Nat → Int) (L A f u k : Nat) (G : Nat → Int) (M : Nat → Nat) : Nat ⊕ (Nat × Nat × (Nat → Int) × (Nat → Nat)) :=
  if tat T L (sk T L u) = 43 ∨ tat T L (sk T L u) = 45 then (if f = 0 then .inl (sk T L u) else pTm T L A f (sk T L u + 1) (if tat T L (sk T L u) = 45 then -1 else 1) k G M) else .inr (sk T L u, k, G, M)
theorem pTm_n {T : Nat → Int} {L A f p n : Nat} {sg : Int} {G : Nat → Int} {M : Nat → Nat} (h : tmc (tat T L (sk T L p)) A = none) : pTm T L A (f + 1) p sg n G M = .inl (sk T L p) := by rw [pTm, h]
theorem pTm_s {T : Nat → Int} {L A f p n t : Nat} {sg : Int} {G : Nat → Int} {M : Nat → Nat} (h : tmc (tat T L (sk T L p)) A = some t) : pTm T L A (f + 1) p sg n G M = pTc T L A f (sk T L p + 1) (n + 1) (upf G n sg) (upf M n t) := by rw [pTm, h]; rfl
section MRead7
variable {K : Kx} {N : Nm} {g : Ge} {T : Nat → Int} {L p a n A : Nat} {w : Int} {G : Nat → Int} {M : Nat → Nat}
theorem c_mReadSum {Pq : Nm → Ge → Prop} (ha : a < 7) (hR : Me N T L p (-1)) (h17 : N 40 0 17 = A) (hA : A ≤ 6) (hq : ∀ p' w' n G M N', FrMT a N N' → Me N' T L p' w' → RowMT N' a n G M → n ≤ 6 → TmI A n G M → SmE T L A p p' w' n G M → Pq N' g) : Ck K YX10_readSum hX10_readSum [vr 40 0, vi a] N g (qV Pq) := by
  have t4 := hR.1.2.1
  refine Ck.intro 2 (by decide) rfl ?_
  show AW _ _ _ _ _ [some (vr 40 0), some (vi a), none, none] _ _ _
  -- the end
  have t46 : ∀ (x : Option AV) (p' : Nat) (w' : Int) (n : Nat) (G : Nat → Int) (M : Nat → Nat) (N' : Nm), FrMT a N N' → Me N' T L p' w' → RowMT N' a n G M → n ≤ 6 → TmI A n G M → SmE T L A p p' w' n G M → AW K YX10_readSum hX10_readSum (qV Pq) 46 [some (vr 40 0), some (vi a), some (vi 0), x] [] N' g := by
    intro x p' w' n G M N' k1 k2 k3 k4 k5 k6
    refine ld_i2 iX10_readSum_46 ?_
    refine r_ifeq iX10_readSum_47 (by omega) (fun h47 => ?_) (fun h47 => ?_)
    · refine t_void rfl iX10_readSum_141 ?_
      exact hq p' w' n G M N' k1 k2 k3 k4 k5 k6
    · exfalso; omega
  -- where the first thing was wrong
  have fail : ∀ (w' : Int) (p' : Nat) (N' : Nm), w' ≠ -1 → FrMT a N N' → Me N' T L p' w' → tat T L (sk T L p) ≠ 61 → w' = (sk T L p : Int) → AW K YX10_readSum hX10_readSum (qV Pq) 6 [some (vr 40 0), some (vi a), none, none] [] N' g := by
    intro w' p' N' hw k1 k2 k3 k4
    have h17' : ∀ N2, FrM (upN N' 42 0 a 0) N2 → N2 40 0 17 = A := fun N2 f => by rw [f 40 0 17 (by omega), upN_k (by decide), k1 40 0 17 (by omega) (by omega) (by omega)]; exact h17
    refine ld_a0 iX10_readSum_6 ?_
    refine gf_X10_readTerms kFX10_13 iX10_readSum_7 ?_
    refine ld_i1 iX10_readSum_10 ?_
    refine r_iconst iX10_readSum_11 ?_
    refine as_42 rfl (by omega) iX10_readSum_12 ?_
    refine ld_a0 iX10_readSum_13 ?_
    refine ld_i1 iX10_readSum_14 ?_
    refine ld_a0 iX10_readSum_15 ?_
    refine r_bipush (by decide) iX10_readSum_16 ?_
    refine xX10_takes kMX10_116 iX10_readSum_18 (by decide) (Nat.le_of_ble_eq_true rfl) rfl rfl ?_
    refine c_mTakes0 (k2.of (fun j hj => upN_k (by decide)) (fun j => upN_k (by decide))) hw (fun N2 f2 e2 => ?_)
    refine r_ifeq iX10_readSum_21 (by omega) (fun h21 => ?_) (fun h21 => ?_)
    · refine r_iconst iX10_readSum_28 ?_
      refine xX10_readTerm kMX10_119 iX10_readSum_29 (by decide) (Nat.le_of_ble_eq_true rfl) rfl rfl ?_
      refine c_mReadTerm0 e2 hw (h17' N2 f2) hA (fun N3 f3 e3 => ?_)
      have r3 := e3.2.2.2.1
      have r4 := e3.2.2.2.2
      refine ld_a0 iX10_readSum_32 ?_
      refine gf_X10_wrong kFX10_93 iX10_readSum_33 ?_
      rw [r3]
      refine r_iconst iX10_readSum_36 ?_
      refine r_icmpne iX10_readSum_37 (by omega) (by omega) (fun h37 => ?_) (fun h37 => ?_)
      · refine r_iconst iX10_readSum_44 ?_
        refine sv_i2 (by decide) rfl iX10_readSum_45 ?_
        refine t46 _ _ _ 0 (fun _ => 0) (fun _ => 0) N3 (k1.tr (fun k i j z1 z2 z3 => ?_)) e3 ⟨?_, fun j hj => by omega⟩ (by omega) (TmI.nil _ _ _) (Or.inr ⟨hw, Or.inl ⟨k3, k4⟩⟩)
        · rw [(f2.tr f3) k i j z1, show ∀ A v, upN A 42 0 a v k i j = A k i j from fun A v => if_neg (fun y => by omega)]
        · rw [(f2.tr f3) 42 0 a (by omega), upN_eq]; rfl
      · exfalso; omega
    · exfalso; omega
  have loop : ∀ (f u k : Nat) (G : Nat → Int) (M : Nat → Nat) (N' : Nm), tat T L (sk T L p) = 61 → k + f = 6 → FrMT a N N' → Me N' T L u (-1) → RowMT N' a k G M → TmI A k G M → pTc T L A f u k G M = pTerms T L A (sk T L p + 1) → AW K YX10_readSum hX10_readSum (qV Pq) 46 [some (vr 40 0), some (vi a), some (vi 1), none] [] N' g := by
    intro f
    induction f using Nat.strongRecOn with
    | _ f ih =>
      intro u k G M N' h61 hk hF hR' hT hI hp
      have hb := mtat_r hR'.1 (sk T L u)
      unfold pTc at hp
      have hu := sk_le (T := T) hR'.2.2.1
      -- a sign stands behind the term
      have t94 : ∀ N1, FrM N' N1 → Me N1 T L (sk T L u) (-1) → f ≠ 0 → (tat T L (sk T L u) = 43 ∨ tat T L (sk T L u) = 45) → AW K YX10_readSum hX10_readSum (qV Pq) 94 [some (vr 40 0), some (vi a), some (vi 1), some (vi (tat T L (sk T L u)))] [] N1 g := by
        intro N1 f1 e1 hf0 hs
        obtain ⟨f', rfl⟩ : ∃ f', f = f' + 1 := ⟨f - 1, by omega⟩
        have hin := tat_in (T := T) (L := L) (p := sk T L u) (by omega)
        rw [if_pos hs, if_neg hf0] at hp
        have t121 : ∀ sg : Int, (sg = 1 ∨ sg = -1) → pTm T L A (f' + 1) (sk T L u + 1) sg k G M = pTerms T L A (sk T L p + 1) → AW K YX10_readSum hX10_readSum (qV Pq) 121 [some (vr 40 0), some (vi a), some (vi 1), some (vi (tat T L (sk T L u)))] [vi sg, vi a, vr 40 0] (upN N1 40 0 3 ((sk T L u : Int) + 1)) g := by
          intro sg hsg hp
          have f2 : FrM N' (upN N1 40 0 3 ((sk T L u : Int) + 1)) := f1.up (Or.inl rfl)
          have e2 : Me (upN N1 40 0 3 ((sk T L u : Int) + 1)) T L (sk T L u + 1) (-1) := e1.go (by omega) (by omega) rfl
          refine xX10_readTerm kMX10_119 iX10_readSum_121 (by decide) (Nat.le_of_ble_eq_true rfl) rfl rfl ?_
          refine c_mReadTerm1 (A := A) ha (by omega) e2 (by rw [f2 40 0 17 (by omega), hF 40 0 17 (by omega) (by omega) (by omega)]; exact h17) hA (hT.m f2) (fun p3 w3 N3 f3 e3 c3 => ?_)
          have r3 := e3.2.2.2.1
          have r4 := e3.2.2.2.2
          refine ld_a0 iX10_readSum_124 ?_
          refine gf_X10_wrong kFX10_93 iX10_readSum_125 ?_
          rw [r3]
          refine r_iconst iX10_readSum_128 ?_
          refine r_icmpne iX10_readSum_129 (by omega) (by omega) (fun h129 => ?_) (fun h129 => ?_)
          · obtain ⟨c1, c2, c4⟩ := Or.resolve_right c3 (fun ⟨t, y1, y2, y3⟩ => h129 y2)
            rw [pTm_n c1] at hp
            refine r_iconst iX10_readSum_136 ?_
            refine sv_i2 (by decide) rfl iX10_readSum_137 ?_
            refine r_goto iX10_readSum_138 ?_
            first
              | exact fg_3 (ih f' (by omega) _ (k + 1) _ _ N3 h61 (by omega) (hF.tr ((f2.t a).tr f3)) e3 c5 (hI.up hsg (tmc_ok c1).1) hp)
              | exact t46 _ _ _ k G M N3 (hF.tr ((f2.t a).tr f3)) e3 c4 (by omega) hI (Or.inr ⟨h129, Or.inr ⟨h61, _, hp.symm, c2⟩⟩)
          · obtain ⟨t, c1, c2, c4, c5⟩ := Or.resolve_left c3 (fun y => by have := y.2.1; omega)
            rw [pTm_s c1] at hp
            subst c2
            subst c4
            refine r_iconst iX10_readSum_132 ?_
            refine r_goto iX10_readSum_133 ?_
            refine sv_i2 (by decide) rfl iX10_readSum_137 ?_
            refine r_goto iX10_readSum_138 ?_
            first
              | exact fg_3 (ih f' (by omega) _ (k + 1) _ _ N3 h61 (by omega) (hF.tr ((f2.t a).tr f3)) e3 c5 (hI.up hsg (tmc_ok c1).1) hp)
              | exact t46 _ _ _ k G M N3 (hF.tr ((f2.t a).tr f3)) e3 c4 (by omega) hI (Or.inr ⟨h129, Or.inr ⟨h61, _, hp.symm, c2⟩⟩)
        refine ld_i2 iX10_readSum_94 ?_
        refine r_ifeq iX10_readSum_95 (by omega) (fun h95 => ?_) (fun h95 => ?_)
        · exfalso; omega
        · refine ld_a0 iX10_readSum_98 ?_
          refine r_dup rfl iX10_readSum_99 ?_
          refine gf_X10_at kFX10_86 iX10_readSum_100 ?_
          rw [e1.2.1]
          refine r_iconst iX10_readSum_103 ?_
          refine r_iadd iX10_readSum_104 ?_
          refine pf_X10_at kFX10_86 iX10_readSum_105 ?_
          refine ld_a0 iX10_readSum_108 ?_
          refine ld_i1 iX10_readSum_109 ?_
          refine ld_i3 iX10_readSum_110 ?_
          refine r_bipush (by decide) iX10_readSum_111 ?_
          refine r_icmpne iX10_readSum_113 (by omega) (by omega) (fun h113 => ?_) (fun h113 => ?_)
          · refine r_iconst iX10_readSum_120 ?_
            first
              | (rw [if_pos (by omega)] at hp; exact t121 _ (by omega) hp)
              | (rw [if_neg (by omega)] at hp; exact t121 _ (by omega) hp)
          · refine r_iconst iX10_readSum_116 ?_
            refine r_goto iX10_readSum_117 ?_
            first
              | (rw [if_pos (by omega)] at hp; exact t121 _ (by omega) hp)
              | (rw [if_neg (by omega)] at hp; exact t121 _ (by omega) hp)
      have t94z : ∀ (x : Option AV) (p' : Nat) (w' : Int) (N' : Nm), FrMT a N N' → Me N' T L p' w' → RowMT N' a k G M → SmE T L A p p' w' k G M → AW K YX10_readSum hX10_readSum (qV Pq) 94 [some (vr 40 0), some (vi a), some (vi 0), x] [] N' g := by
        intro x p' w' N' k1 k2 k3 k6
        refine ld_i2 iX10_readSum_94 ?_
        refine r_ifeq iX10_readSum_95 (by omega) (fun h95 => ?_) (fun h95 => ?_)
        · refine r_goto iX10_readSum_138 ?_
          exact t46 _ p' w' k G M N' k1 k2 k3 (by omega) hI k6
        · exfalso; omega
      refine ld_i2 iX10_readSum_46 ?_
      refine r_ifeq iX10_readSum_47 (by omega) (fun h47 => ?_) (fun h47 => ?_)
      · exfalso; omega
      · refine ld_a0 iX10_readSum_50 ?_
        refine xX10_ahead kMX10_100 iX10_readSum_51 (by decide) (Nat.le_of_ble_eq_true rfl) rfl rfl ?_
        refine c_mAhead hR' (fun N1 f1 e1 => ?_)
        refine sv_i3 (by decide) rfl iX10_readSum_54 ?_
        refine ld_i3 iX10_readSum_55 ?_
        refine r_bipush (by decide) iX10_readSum_56 ?_
        refine r_icmpeq iX10_readSum_58 (by omega) (by omega) (fun h58 => ?_) (fun h58 => ?_)
        · refine r_iconst iX10_readSum_67 ?_
          refine r_goto iX10_readSum_68 ?_
          refine sv_i2 (by decide) rfl iX10_readSum_72 ?_
          refine ld_i2 iX10_readSum_73 ?_
          refine r_ifeq iX10_readSum_74 (by omega) (fun h74 => ?_) (fun h74 => ?_)
          · have hz0 : True := trivial
            first
              | (exfalso; omega)
              | exact t94 N1 f1 e1 (by omega) (by omega)
              | (rw [if_neg (by omega)] at hp; exact t94z _ _ _ N1 (hF.tr (f1.t a)) e1 (hT.m f1) (Or.inl ⟨rfl, h61, hp.symm⟩))
              | (rw [if_pos (by omega), if_pos (by omega)] at hp; exact t94z _ _ _ N2 (hF.tr ((f1.tr f2).t a)) e2 ((hT.m f1).m f2) (Or.inr ⟨by omega, Or.inr ⟨h61, _, hp.symm, rfl⟩⟩))
          · refine ld_a0 iX10_readSum_77 ?_
            refine gf_X10_readTerms kFX10_13 iX10_readSum_78 ?_
            refine ld_i1 iX10_readSum_81 ?_
            refine al_42 rfl (by omega) iX10_readSum_82 ?_
            rw [(hT.m f1).1]
            refine r_bipush (by decide) iX10_readSum_83 ?_
            refine r_icmpne iX10_readSum_85 (by omega) (by omega) (fun h85 => ?_) (fun h85 => ?_)
            · first
                | (exfalso; omega)
                | exact t94 N1 f1 e1 (by omega) (by omega)
                | (rw [if_neg (by omega)] at hp; exact t94z _ _ _ N1 (hF.tr (f1.t a)) e1 (hT.m f1) (Or.inl ⟨rfl, h61, hp.symm⟩))
                | (rw [if_pos (by omega), if_pos (by omega)] at hp; exact t94z _ _ _ N2 (hF.tr ((f1.tr f2).t a)) e2 ((hT.m f1).m f2) (Or.inr ⟨by omega, Or.inr ⟨h61, _, hp.symm, rfl⟩⟩))
            · refine ld_a0 iX10_readSum_88 ?_
              refine xX10_bad kMX10_103 iX10_readSum_89 (by decide) (Nat.le_of_ble_eq_true rfl) rfl rfl ?_
              refine c_mBad1 e1 (fun N2 f2 e2 => ?_)
              refine r_iconst iX10_readSum_92 ?_
              refine sv_i2 (by decide) rfl iX10_readSum_93 ?_
              first
                | (exfalso; omega)
                | exact t94 N1 f1 e1 (by omega) (by omega)
                | (rw [if_neg (by omega)] at hp; exact t94z _ _ _ N1 (hF.tr (f1.t a)) e1 (hT.m f1) (Or.inl ⟨rfl, h61, hp.symm⟩))
                | (rw [if_pos (by omega), if_pos (by omega)] at hp; exact t94z _ _ _ N2 (hF.tr ((f1.tr f2).t a)) e2 ((hT.m f1).m f2) (Or.inr ⟨by omega, Or.inr ⟨h61, _, hp.symm, rfl⟩⟩))
        · refine ld_i3 iX10_readSum_61 ?_
          refine r_bipush (by decide) iX10_readSum_62 ?_
          refine r_icmpne iX10_readSum_64 (by omega) (by omega) (fun h64 => ?_) (fun h64 => ?_)
          · refine r_iconst iX10_readSum_71 ?_
            refine sv_i2 (by decide) rfl iX10_readSum_72 ?_
            refine ld_i2 iX10_readSum_73 ?_
            refine r_ifeq iX10_readSum_74 (by omega) (fun h74 => ?_) (fun h74 => ?_)
            · have hz0 : True := trivial
              first
                | (exfalso; omega)
                | exact t94 N1 f1 e1 (by omega) (by omega)
                | (rw [if_neg (by omega)] at hp; exact t94z _ _ _ N1 (hF.tr (f1.t a)) e1 (hT.m f1) (Or.inl ⟨rfl, h61, hp.symm⟩))
                | (rw [if_pos (by omega), if_pos (by omega)] at hp; exact t94z _ _ _ N2 (hF.tr ((f1.tr f2).t a)) e2 ((hT.m f1).m f2) (Or.inr ⟨by omega, Or.inr ⟨h61, _, hp.symm, rfl⟩⟩))
            · refine ld_a0 iX10_readSum_77 ?_
              refine gf_X10_readTerms kFX10_13 iX10_readSum_78 ?_
              refine ld_i1 iX10_readSum_81 ?_
              refine al_42 rfl (by omega) iX10_readSum_82 ?_
              rw [(hT.m f1).1]
              refine r_bipush (by decide) iX10_readSum_83 ?_
              refine r_icmpne iX10_readSum_85 (by omega) (by omega) (fun h85 => ?_) (fun h85 => ?_)
              · first
                  | (exfalso; omega)
                  | exact t94 N1 f1 e1 (by omega) (by omega)
                  | (rw [if_neg (by omega)] at hp; exact t94z _ _ _ N1 (hF.tr (f1.t a)) e1 (hT.m f1) (Or.inl ⟨rfl, h61, hp.symm⟩))
                  | (rw [if_pos (by omega), if_pos (by omega)] at hp; exact t94z _ _ _ N2 (hF.tr ((f1.tr f2).t a)) e2 ((hT.m f1).m f2) (Or.inr ⟨by omega, Or.inr ⟨h61, _, hp.symm, rfl⟩⟩))
              · refine ld_a0 iX10_readSum_88 ?_
                refine xX10_bad kMX10_103 iX10_readSum_89 (by decide) (Nat.le_of_ble_eq_true rfl) rfl rfl ?_
                refine c_mBad1 e1 (fun N2 f2 e2 => ?_)
                refine r_iconst iX10_readSum_92 ?_
                refine sv_i2 (by decide) rfl iX10_readSum_93 ?_
                first
                  | (exfalso; omega)
                  | exact t94 N1 f1 e1 (by omega) (by omega)
                  | (rw [if_neg (by omega)] at hp; exact t94z _ _ _ N1 (hF.tr (f1.t a)) e1 (hT.m f1) (Or.inl ⟨rfl, h61, hp.symm⟩))
                  | (rw [if_pos (by omega), if_pos (by omega)] at hp; exact t94z _ _ _ N2 (hF.tr ((f1.tr f2).t a)) e2 ((hT.m f1).m f2) (Or.inr ⟨by omega, Or.inr ⟨h61, _, hp.symm, rfl⟩⟩))
          · refine r_iconst iX10_readSum_67 ?_
            refine r_goto iX10_readSum_68 ?_
            refine sv_i2 (by decide) rfl iX10_readSum_72 ?_
            refine ld_i2 iX10_readSum_73 ?_
            refine r_ifeq iX10_readSum_74 (by omega) (fun h74 => ?_) (fun h74 => ?_)
            · have hz0 : True := trivial
              first
                | (exfalso; omega)
                | exact t94 N1 f1 e1 (by omega) (by omega)
                | (rw [if_neg (by omega)] at hp; exact t94z _ _ _ N1 (hF.tr (f1.t a)) e1 (hT.m f1) (Or.inl ⟨rfl, h61, hp.symm⟩))
                | (rw [if_pos (by omega), if_pos (by omega)] at hp; exact t94z _ _ _ N2 (hF.tr ((f1.tr f2).t a)) e2 ((hT.m f1).m f2) (Or.inr ⟨by omega, Or.inr ⟨h61, _, hp.symm, rfl⟩⟩))
            · refine ld_a0 iX10_readSum_77 ?_
              refine gf_X10_readTerms kFX10_13 iX10_readSum_78 ?_
              refine ld_i1 iX10_readSum_81 ?_
              refine al_42 rfl (by omega) iX10_readSum_82 ?_
              rw [(hT.m f1).1]
              refine r_bipush (by decide) iX10_readSum_83 ?_
              refine r_icmpne iX10_readSum_85 (by omega) (by omega) (fun h85 => ?_) (fun h85 => ?_)
              · first
                  | (exfalso; omega)
                  | exact t94 N1 f1 e1 (by omega) (by omega)
                  | (rw [if_neg (by omega)] at hp; exact t94z _ _ _ N1 (hF.tr (f1.t a)) e1 (hT.m f1) (Or.inl ⟨rfl, h61, hp.symm⟩))
                  | (rw [if_pos (by omega), if_pos (by omega)] at hp; exact t94z _ _ _ N2 (hF.tr ((f1.tr f2).t a)) e2 ((hT.m f1).m f2) (Or.inr ⟨by omega, Or.inr ⟨h61, _, hp.symm, rfl⟩⟩))
              · refine ld_a0 iX10_readSum_88 ?_
                refine xX10_bad kMX10_103 iX10_readSum_89 (by decide) (Nat.le_of_ble_eq_true rfl) rfl rfl ?_
                refine c_mBad1 e1 (fun N2 f2 e2 => ?_)
                refine r_iconst iX10_readSum_92 ?_
                refine sv_i2 (by decide) rfl iX10_readSum_93 ?_
                first
                  | (exfalso; omega)
                  | exact t94 N1 f1 e1 (by omega) (by omega)
                  | (rw [if_neg (by omega)] at hp; exact t94z _ _ _ N1 (hF.tr (f1.t a)) e1 (hT.m f1) (Or.inl ⟨rfl, h61, hp.symm⟩))
                  | (rw [if_pos (by omega), if_pos (by omega)] at hp; exact t94z _ _ _ N2 (hF.tr ((f1.tr f2).t a)) e2 ((hT.m f1).m f2) (Or.inr ⟨by omega, Or.inr ⟨h61, _, hp.symm, rfl⟩⟩))
  have t29 : ∀ (sg : Int) (p2 : Nat) (N2 : Nm), tat T L (sk T L p) = 61 → (sg = 1 ∨ sg = -1) → Me N2 T L p2 (-1) → RowMT N2 a 0 (fun _ => 0) (fun _ => 0) → FrMT a N N2 → pTm T L A 6 p2 sg 0 (fun _ => 0) (fun _ => 0) = pTerms T L A (sk T L p + 1) → AW K YX10_readSum hX10_readSum (qV Pq) 29 [some (vr 40 0), some (vi a), none, none] [vi sg, vi a, vr 40 0] N2 g := by
    intro sg p2 N2 h61 hsg e2 hT hF hp
    refine xX10_readTerm kMX10_119 iX10_readSum_29 (by decide) (Nat.le_of_ble_eq_true rfl) rfl rfl ?_
    refine c_mReadTerm1 (A := A) ha (by omega) e2 (by rw [hF 40 0 17 (by omega) (by omega) (by omega)]; exact h17) hA hT (fun p3 w3 N3 f3 e3 c3 => ?_)
    have r3 := e3.2.2.2.1
    have r4 := e3.2.2.2.2
    refine ld_a0 iX10_readSum_32 ?_
    refine gf_X10_wrong kFX10_93 iX10_readSum_33 ?_
    rw [r3]
    refine r_iconst iX10_readSum_36 ?_
    refine r_icmpne iX10_readSum_37 (by omega) (by omega) (fun h37 => ?_) (fun h37 => ?_)
    · obtain ⟨c1, c2, c4⟩ := Or.resolve_right c3 (fun ⟨t, y1, y2, y3⟩ => h37 y2)
      rw [pTm_n c1] at hp
      refine r_iconst iX10_readSum_44 ?_
      refine sv_i2 (by decide) rfl iX10_readSum_45 ?_
      first
        | exact loop 5 _ 1 _ _ N3 h61 (by omega) (hF.tr f3) e3 c5 ((TmI.nil _ _ _).up hsg (tmc_ok c1).1) hp
        | exact t46 _ _ _ 0 _ _ N3 (hF.tr f3) e3 c4 (by omega) (TmI.nil _ _ _) (Or.inr ⟨h37, Or.inr ⟨h61, _, hp.symm, c2⟩⟩)
    · obtain ⟨t, c1, c2, c4, c5⟩ := Or.resolve_left c3 (fun y => by have := y.2.1; omega)
      rw [pTm_s c1] at hp
      subst c2
      subst c4
      refine r_iconst iX10_readSum_40 ?_
      refine r_goto iX10_readSum_41 ?_
      refine sv_i2 (by decide) rfl iX10_readSum_45 ?_
      first
        | exact loop 5 _ 1 _ _ N3 h61 (by omega) (hF.tr f3) e3 c5 ((TmI.nil _ _ _).up hsg (tmc_ok c1).1) hp
        | exact t46 _ _ _ 0 _ _ N3 (hF.tr f3) e3 c4 (by omega) (TmI.nil _ _ _) (Or.inr ⟨h37, Or.inr ⟨h61, _, hp.symm, c2⟩⟩)
  have ok : ∀ N1, tat T L (sk T L p) = 61 → FrMT a N N1 → Me N1 T L (sk T L p + 1) (-1) → AW K YX10_readSum hX10_readSum (qV Pq) 6 [some (vr 40 0), some (vi a), none, none] [] N1 g := by
    intro N1 h61 k1 k2
    have f0 : FrMT a N (upN N1 42 0 a 0) := fun k i j z1 z2 z3 => by rw [show ∀ A v, upN A 42 0 a v k i j = A k i j from fun A v => if_neg (fun y => by omega)]; exact k1 k i j z1 z2 z3
    have hT : ∀ N2, FrM (upN N1 42 0 a 0) N2 → RowMT N2 a 0 (fun _ => 0) (fun _ => 0) := fun N2 f => ⟨by rw [f 42 0 a (by omega), upN_eq]; rfl, fun j hj => by omega⟩
    refine ld_a0 iX10_readSum_6 ?_
    refine gf_X10_readTerms kFX10_13 iX10_readSum_7 ?_
    refine ld_i1 iX10_readSum_10 ?_
    refine r_iconst iX10_readSum_11 ?_
    refine as_42 rfl (by omega) iX10_readSum_12 ?_
    refine ld_a0 iX10_readSum_13 ?_
    refine ld_i1 iX10_readSum_14 ?_
    refine ld_a0 iX10_readSum_15 ?_
    refine r_bipush (by decide) iX10_readSum_16 ?_
    refine xX10_takes kMX10_116 iX10_readSum_18 (by decide) (Nat.le_of_ble_eq_true rfl) rfl rfl ?_
    refine c_mTakes1 (p := sk T L p + 1) (by omega) (k2.of (fun j hj => upN_k (by decide)) (fun j => upN_k (by decide))) (fun z p2 N2 hz f2 e2 c2 => ?_)
    refine r_ifeq iX10_readSum_21 (by omega) (fun h21 => ?_) (fun h21 => ?_)
    · obtain ⟨y1, y2, y3⟩ := Or.resolve_left c2 (fun y => by have := y.1; omega)
      refine r_iconst iX10_readSum_28 ?_
      first
        | exact t29 _ p2 N2 h61 (by omega) e2 (hT N2 f2) (f0.tr (f2.t a)) (by unfold pTerms; rw [if_neg y2, y3])
        | exact t29 _ p2 N2 h61 (by omega) e2 (hT N2 f2) (f0.tr (f2.t a)) (by unfold pTerms; rw [if_pos y2, y3])
    · obtain ⟨y1, y2, y4, y3⟩ := Or.resolve_right c2 (fun y => by have := y.1; omega)
      refine r_iconst iX10_readSum_24 ?_
      refine r_goto iX10_readSum_25 ?_
      first
        | exact t29 _ p2 N2 h61 (by omega) e2 (hT N2 f2) (f0.tr (f2.t a)) (by unfold pTerms; rw [if_neg y2, y3])
        | exact t29 _ p2 N2 h61 (by omega) e2 (hT N2 f2) (f0.tr (f2.t a)) (by unfold pTerms; rw [if_pos y2, y3])
  refine ld_a0 iX10_readSum_0 ?_
  refine r_bipush (by decide) iX10_readSum_1 ?_
  refine xX10_must kMX10_113 iX10_readSum_3 (by decide) (Nat.le_of_ble_eq_true rfl) rfl rfl ?_
  refine c_mMust1 (by omega) hR (fun p1 w1 N1 f1 e1 c1 => ?_)
  rcases c1 with ⟨y1, y2, y3, y4⟩ | ⟨y1, y2⟩
  · subst y3; subst y4; exact ok N1 y1 (f1.t a) e1
  · exact fail w1 p1 N1 (by omega) (f1.t a) e1 y1 y2
theorem c_mDeepBy {D : Nat → Nat} {Pq : Int → Nm → Ge → Prop} (ha : a < 7) (hn : n ≤ 6) (hA : A ≤ 6) (hT : RowMT N a n G M) (hI : TmI A n G M) (hD : ∀ b, b < A → N 52 0 b = D b ∧ D b ≤ 3) (hq : Pq ((dpm D M n + 1 : Nat) : Int) N g) : Ck K YX10_deepBy hX10_deepBy [vr 40 0, vi a] N g (qI Pq) := by
  obtain ⟨t1, t2⟩ := id hT
  refine Ck.intro 3 (by decide) rfl ?_
  show AW _ _ _ _ _ [some (vr 40 0), some (vi a), none, none, none] _ _ _
  have loop : ∀ (f k : Nat) (c e : Int), n - k = f → k ≤ n → c = k → e = dpm D M k → AW K YX10_deepBy hX10_deepBy (qI Pq) 4 [some (vr 40 0), some (vi a), some (vi e), some (vi c), none] [] N g := by
    intro f
    induction f using Nat.strongRecOn with
    | _ f ih =>
      intro k c e e0 hk hc he
      subst hc
      have db := dpm_le (D := D) (M := M) (B := 3) k (fun j hj hm => (hD (M j) (by have := (hI j (by omega)).2; omega)).2)
      subst he
      refine ld_i3 iX10_deepBy_4 ?_
      refine ld_a0 iX10_deepBy_5 ?_
      refine gf_X10_readTerms kFX10_13 iX10_deepBy_6 ?_
      refine ld_i1 iX10_deepBy_9 ?_
      refine al_42 rfl (by omega) iX10_deepBy_10 ?_
      rw [t1]
      refine r_icmpge iX10_deepBy_11 (by omega) (by omega) (fun h11 => ?_) (fun h11 => ?_)
      · refine ld_i2 iX10_deepBy_57 ?_
        refine r_iconst iX10_deepBy_58 ?_
        refine r_iadd iX10_deepBy_59 ?_
        refine t_int rfl iX10_deepBy_60 ?_
        rw [show k = n by omega]
        rw [show ((dpm D M n : Nat) : Int) + 1 = ((dpm D M n + 1 : Nat) : Int) by omega]
        exact hq
      · have hj := t2 k (by omega)
        have hm := (hI k (by omega)).2
        have hc := cod_cs (M k)
        refine ld_a0 iX10_deepBy_14 ?_
        refine gf_X10_readWhat kFX10_25 iX10_deepBy_15 ?_
        refine r_bipush (by decide) iX10_deepBy_18 ?_
        refine ld_i1 iX10_deepBy_20 ?_
        refine r_imul iX10_deepBy_21 ?_
        refine ld_i3 iX10_deepBy_22 ?_
        refine r_iadd iX10_deepBy_23 ?_
        refine al_46 (n := (6 * a + k)) (by omega) (by omega) iX10_deepBy_24 ?_
        rw [hj.1]
        refine sv_i4 (by decide) rfl iX10_deepBy_25 ?_
        refine ld_i4 iX10_deepBy_27 ?_
        refine r_iconst iX10_deepBy_29 ?_
        refine r_icmpge iX10_deepBy_30 (by omega) (by omega) (fun h30 => ?_) (fun h30 => ?_)
        · have hd := hD (M k) (by omega)
          refine ld_i2 iX10_deepBy_37 ?_
          refine ld_a0 iX10_deepBy_38 ?_
          refine gf_X10_readDeep kFX10_43 iX10_deepBy_39 ?_
          refine ld_i4 iX10_deepBy_42 ?_
          refine r_iconst iX10_deepBy_44 ?_
          refine r_isub iX10_deepBy_45 ?_
          refine al_52 (n := (M k)) (by omega) (by omega) iX10_deepBy_46 ?_
          rw [hd.1]
          refine xJ9_max_7cf53 kMX10_123 iX10_deepBy_47 (by decide) (Nat.le_of_ble_eq_true rfl) rfl rfl ?_
          refine c_maxI (by omega) (by omega) ?_
          refine sv_i2 (by decide) rfl iX10_deepBy_50 ?_
          refine inc_3 (by decide) rfl iX10_deepBy_51 ?_
          refine r_goto iX10_deepBy_54 ?_
          refine fg_4 ?_
          refine ih (n - (k + 1)) (by omega) (k + 1) _ _ rfl (by omega) (by omega) ?_
          rw [dpm]
          first
            | rw [if_neg (by omega)]
            | (rw [if_pos (by omega)]; omega)
        · refine ld_i2 iX10_deepBy_33 ?_
          refine r_goto iX10_deepBy_34 ?_
          refine sv_i2 (by decide) rfl iX10_deepBy_50 ?_
          refine inc_3 (by decide) rfl iX10_deepBy_51 ?_
          refine r_goto iX10_deepBy_54 ?_
          refine fg_4 ?_
          refine ih (n - (k + 1)) (by omega) (k + 1) _ _ rfl (by omega) (by omega) ?_
          rw [dpm]
          first
            | rw [if_neg (by omega)]
            | (rw [if_pos (by omega)]; omega)
  refine r_iconst iX10_deepBy_0 ?_
  refine sv_i2 (by decide) rfl iX10_deepBy_1 ?_
  refine r_iconst iX10_deepBy_2 ?_
  refine sv_i3 (by decide) rfl iX10_deepBy_3 ?_
  exact loop n 0 _ _ (by omega) (by omega) (by omega) rfl
end MRead7
