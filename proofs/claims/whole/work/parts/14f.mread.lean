/-! own text: the reference reads its desk -/
def FrMD (N N' : Nm) : Prop := ∀ k i j, ¬ (k = 40 ∧ (j = 0 ∨ j = 3 ∨ j = 4 ∨ j = 17 ∨ j = 18 ∨ j = 21)) → ¬ (k = 42 ∨ k = 44 ∨ k = 46 ∨ k = 48 ∨ k = 50 ∨ k = 52) → N' k i j = N k i j
theorem FrMD.rf (N : Nm) : FrMD N N := fun _ _ _ _ _ => rfl
theorem FrMD.tr {A B C : Nm} (h1 : FrMD A B) (h2 : FrMD B C) : FrMD A C := fun k i j q z => (h2 k i j q z).trans (h1 k i j q z)
theorem FrM.d {A B : Nm} (h : FrM A B) : FrMD A B := fun k i j q _ => h k i j (by omega)
theorem FrMT.d {a : Nat} {A B : Nm} (h : FrMT a A B) : FrMD A B := fun k i j q z => h k i j (by omega) (by omega) (by omega)
theorem FrRl.d {a : Nat} {A B : Nm} (h : FrRl a A B) : FrMD A B := fun k i j q z => h k i j (by omega) (by omega) (by omega) (by omega)
theorem FrMD.up {A B : Nm} {i j : Nat} {v : Int} (h : FrMD A B) (hj : j = 0 ∨ j = 3 ∨ j = 4 ∨ j = 17 ∨ j = 18 ∨ j = 21) : FrMD A (upN B 40 i j v) := fun k' i' j' q z => by
  rw [← h k' i' j' q z]
  exact if_neg (fun w => by omega)
theorem MoQ.of {N N' : Nm} {d : Dk} (h : MoQ N d) (f0 : ∀ j, j = 17 ∨ j = 18 → N' 40 0 j = N 40 0 j) (f : ∀ k i j, 42 ≤ k → k ≤ 52 → N' k i j = N k i j) : MoQ N' d := by
  refine ⟨by rw [f0 17 (by omega)]; exact h.1, by rw [f0 18 (by omega)]; exact h.2.1, fun a ha => ?_⟩
  obtain ⟨h1, h2, h3⟩ := h.2.2 a ha
  exact ⟨h1.of (fun k i j z1 z2 => f k i j (by omega) (by omega)), h2.of (fun k i j z1 z2 => f k i j (by omega) (by omega)), by rw [f 52 _ _ (by omega) (by omega)]; exact h3⟩
theorem MoQ.m {N N' : Nm} {d : Dk} (h : MoQ N d) (f : FrM N N') : MoQ N' d := h.of (fun j hj => f 40 0 j (by omega)) (fun k i j z1 z2 => f k i j (by omega))
/-- the rows that are read hold the desk d -/
def MoR (N : Nm) (d : Dk) : Prop := MoQ N d ∧ RowMT N 6 (dT d 6) (dG d 6) (dM d 6)
theorem MoQ.stP {N N' : Nm} {n : Nat} {d : Dk} {G : Nat → Int} {M : Nat → Nat} (h : MoQ N d) (hW : WP d) (f : FrMT 6 N N') (hT : RowMT N' 6 n G M) : MoR N' (setP d n G M) := by
  have hA := hW.1
  refine ⟨⟨by rw [f 40 0 17 (by omega) (by omega) (by omega)]; exact h.1, by rw [f 40 0 18 (by omega) (by omega) (by omega)]; exact h.2.1, fun a ha => ?_⟩, ?_⟩
  · have ha : a < dA d := ha
    have e : a ≠ 6 := by omega
    obtain ⟨a1, a2, a3⟩ := h.2.2 a ha
    have h6 := (hW.2.2 a ha).2.1.2.1
    refine ⟨?_, a2.of (fun k i j z1 z2 => f k i j (by omega) (by omega) (by omega)), by rw [f 52 _ _ (by omega) (by omega) (by omega)]; exact a3⟩
    show RowMT N' a (upf (dT d) 6 n a) (upf (dG d) 6 G a) (upf (dM d) 6 M a)
    rw [upf_ne e, upf_ne e, upf_ne e]
    exact ⟨by rw [f 42 _ _ (by omega) (by omega) (by omega)]; exact a1.1, fun j hj => by rw [f 46 _ _ (by omega) (by omega) (by omega), f 44 _ _ (by omega) (by omega) (by omega)]; exact a1.2 j hj⟩
  · show RowMT N' 6 (upf (dT d) 6 n 6) (upf (dG d) 6 G 6) (upf (dM d) 6 M 6)
    rw [upf_eq, upf_eq, upf_eq]; exact hT
/-- what reading comes to -/
def DkE (N' : Nm) (P : Nat ⊕ Dk) (z : Int) : Prop := (∃ w : Nat, P = .inl w ∧ z = (w : Int)) ∨ ∃ d', P = .inr d' ∧ z = -1 ∧ MoR N' d' ∧ WD d'
theorem DkE.flt {N' : Nm} {P : Nat ⊕ Dk} {z : Int} (h : DkE N' P z) : z = fltA P := by
  rcases h with ⟨w, rfl, h⟩ | ⟨d', rfl, h, -⟩
  · exact h
  · exact h
section MRead4
variable {K : Kx} {N : Nm} {g : Ge} {T : Nat → Int} {L p : Nat} {d : Dk}
theorem c_mReadDesk {Pq : Int → Nm → Ge → Prop} (hT : Mp N T L) (hq : ∀ z N', rI z → FrMD N N' → DkE N' (pDesk T L 8 0 dk0 false) z → Pq z N' g) : Ck K YX10_readDesk hX10_readDesk [vr 40 0] N g (qI Pq) := by
  generalize hP : pDesk T L 8 0 dk0 false = P at hq
  have t4 := hT.2.1
  refine Ck.intro 2 (by decide) rfl ?_
  show AW _ _ _ _ _ [some (vr 40 0), none, none] _ _ _
  have f27 : ∀ (o : Int) (x : Option AV) (w p' : Nat) (N' : Nm), FrMD N N' → Me N' T L p' (w : Int) → P = .inl w → AW K YX10_readDesk hX10_readDesk (qI Pq) 27 [some (vr 40 0), some (vi o), x] [] N' g := by
    intro o x w p' N' k1 k2 k3
    have r3 := k2.2.2.2.1
    have r4 := k2.2.2.2.2
    refine ld_a0 iX10_readDesk_27 ?_
    refine gf_X10_wrong kFX10_93 iX10_readDesk_28 ?_
    rw [r3]
    refine r_iconst iX10_readDesk_31 ?_
    refine r_icmpne iX10_readDesk_32 (by omega) (by omega) (fun h32 => ?_) (fun h32 => ?_)
    · refine ld_a0 iX10_readDesk_168 ?_
      refine gf_X10_wrong kFX10_93 iX10_readDesk_169 ?_
      rw [r3]
      refine r_iconst iX10_readDesk_172 ?_
      refine r_icmpne iX10_readDesk_173 (by omega) (by omega) (fun h173 => ?_) (fun h173 => ?_)
      · refine ld_a0 iX10_readDesk_188 ?_
        refine gf_X10_wrong kFX10_93 iX10_readDesk_189 ?_
        rw [r3]
        refine t_int rfl iX10_readDesk_192 ?_
        exact hq _ N' (by omega) k1 (Or.inl ⟨w, k3, rfl⟩)
      · exfalso; omega
    · exfalso; omega
  have o27 : ∀ (x : Int) (p1 : Nat) (d' : Dk) (N' : Nm), FrMD N N' → Me N' T L p1 (-1) → (∀ N2, FrM N' N2 → MoR N2 d') → WD d' → (if tat T L (sk T L p1) = -1 then .inr d' else .inl (sk T L p1)) = P → AW K YX10_readDesk hX10_readDesk (qI Pq) 27 [some (vr 40 0), some (vi 1), some (vi x)] [] N' g := by
    intro x p1 d' N' k1 k2 k3 k4 k5
    have r3 := k2.2.2.2.1
    have hb := mtat_r k2.1 (sk T L p1)
    have hs := sk_le (T := T) k2.2.2.1
    refine ld_a0 iX10_readDesk_27 ?_
    refine gf_X10_wrong kFX10_93 iX10_readDesk_28 ?_
    rw [r3]
    refine r_iconst iX10_readDesk_31 ?_
    refine r_icmpne iX10_readDesk_32 (by omega) (by omega) (fun h32 => ?_) (fun h32 => ?_)
    · exfalso; omega
    · refine ld_i1 iX10_readDesk_35 ?_
      refine r_ifne iX10_readDesk_36 (by omega) (fun h36 => ?_) (fun h36 => ?_)
      · refine ld_a0 iX10_readDesk_168 ?_
        refine gf_X10_wrong kFX10_93 iX10_readDesk_169 ?_
        rw [r3]
        refine r_iconst iX10_readDesk_172 ?_
        refine r_icmpne iX10_readDesk_173 (by omega) (by omega) (fun h173 => ?_) (fun h173 => ?_)
        · exfalso; omega
        · refine ld_a0 iX10_readDesk_176 ?_
          refine xX10_ahead kMX10_100 iX10_readDesk_177 (by decide) (Nat.le_of_ble_eq_true rfl) rfl rfl ?_
          refine c_mAhead k2 (fun N2 f2 e2 => ?_)
          refine r_iconst iX10_readDesk_180 ?_
          refine r_icmpeq iX10_readDesk_181 (by omega) (by omega) (fun h181 => ?_) (fun h181 => ?_)
          · rw [if_pos h181] at k5
            refine ld_a0 iX10_readDesk_188 ?_
            refine gf_X10_wrong kFX10_93 iX10_readDesk_189 ?_
            first | rw [e3.2.2.2.1] | rw [e2.2.2.2.1]
            refine t_int rfl iX10_readDesk_192 ?_
            first
              | exact hq _ N2 (by omega) (k1.tr f2.d) (Or.inr ⟨d', k5.symm, rfl, k3 N2 f2, k4⟩)
              | exact hq _ N3 (by omega) (k1.tr (f2.tr f3).d) (Or.inl ⟨_, k5.symm, rfl⟩)
          · rw [if_neg h181] at k5
            refine ld_a0 iX10_readDesk_184 ?_
            refine xX10_bad kMX10_103 iX10_readDesk_185 (by decide) (Nat.le_of_ble_eq_true rfl) rfl rfl ?_
            refine c_mBad1 e2 (fun N3 f3 e3 => ?_)
            refine ld_a0 iX10_readDesk_188 ?_
            refine gf_X10_wrong kFX10_93 iX10_readDesk_189 ?_
            first | rw [e3.2.2.2.1] | rw [e2.2.2.2.1]
            refine t_int rfl iX10_readDesk_192 ?_
            first
              | exact hq _ N2 (by omega) (k1.tr f2.d) (Or.inr ⟨d', k5.symm, rfl, k3 N2 f2, k4⟩)
              | exact hq _ N3 (by omega) (k1.tr (f2.tr f3).d) (Or.inl ⟨_, k5.symm, rfl⟩)
      · exfalso; omega
  have loop : ∀ (f u c : Nat) (d : Dk) (b : Bool) (N' : Nm), c + f = 8 → c = dA d + (if b then 1 else 0) → WP d → FrMD N N' → Me N' T L u (-1) → MoQ N' d → N' 40 0 21 = (if b then 1 else 0) → pDesk T L f u d b = P → AW K YX10_readDesk hX10_readDesk (qI Pq) 27 [some (vr 40 0), some (vi 0), none] [] N' g := by
    intro f
    induction f with
    | zero =>
      intro u c d b N' hc hcd hW
      exfalso
      have := hW.1
      split at hcd <;> omega
    | succ f ih =>
      intro u c d b N' hc hcd hW hF hR hQ h21 hp
      have hA := hW.1
      have hb := mtat_r hR.1 (sk T L u)
      have hu := sk_le (T := T) hR.2.2.1
      have r3 := hR.2.2.2.1
      rw [pDesk] at hp
      have ok119 : ∀ (x : Int) (p1 : Nat) (d1 : Dk) (b1 : Bool) (N2 : Nm), c + 1 = dA d1 + (if b1 then 1 else 0) → WP d1 → FrMD N N2 → Me N2 T L p1 (-1) → MoQ N2 d1 → N2 40 0 21 = (if b1 then 1 else 0) → (if tat T L (sk T L p1) = 59 then pDesk T L f (sk T L p1 + 1) d1 b1 else .inl (sk T L p1)) = P → AW K YX10_readDesk hX10_readDesk (qI Pq) 119 [some (vr 40 0), some (vi 0), some (vi x)] [] N2 g := by
        intro x p1 d1 b1 N2 k1 k2 k3 k4 k5 k6 k7
        refine ld_a0 iX10_readDesk_119 ?_
        refine r_bipush (by decide) iX10_readDesk_120 ?_
        refine xX10_must kMX10_113 iX10_readDesk_122 (by decide) (Nat.le_of_ble_eq_true rfl) rfl rfl ?_
        refine c_mMust1 (by omega) k4 (fun p3 w3 N3 f3 e3 c3 => ?_)
        refine r_goto iX10_readDesk_125 ?_
        refine r_goto iX10_readDesk_165 ?_
        rcases c3 with ⟨y1, y2, y3, y4⟩ | ⟨y1, y2⟩
        · subst y3
          subst y4
          rw [if_pos y1] at k7
          exact fg_2 (ih _ (c + 1) d1 b1 N3 (by omega) k1 k2 (k3.tr f3.d) e3 (k5.m f3) (by rw [f3 40 0 21 (by omega)]; exact k6) k7)
        · rw [if_neg y1] at k7
          subst y2
          exact f27 _ _ _ _ N3 (k3.tr f3.d) e3 k7.symm
      have no119 : ∀ (x : Int) (w p1 : Nat) (N2 : Nm), FrMD N N2 → Me N2 T L p1 (w : Int) → P = .inl w → AW K YX10_readDesk hX10_readDesk (qI Pq) 119 [some (vr 40 0), some (vi 0), some (vi x)] [] N2 g := by
        intro x w p1 N2 k1 k2 k3
        refine ld_a0 iX10_readDesk_119 ?_
        refine r_bipush (by decide) iX10_readDesk_120 ?_
        refine xX10_must kMX10_113 iX10_readDesk_122 (by decide) (Nat.le_of_ble_eq_true rfl) rfl rfl ?_
        refine c_mMust0 k2 (by omega) (fun N3 f3 e3 => ?_)
        refine r_goto iX10_readDesk_125 ?_
        refine r_goto iX10_readDesk_165 ?_
        exact f27 _ _ _ _ N3 (k1.tr f3.d) e3 k3
      have ok152 : ∀ (x : Int) (p1 : Nat) (d1 : Dk) (b1 : Bool) (N2 : Nm), c + 1 = dA d1 + (if b1 then 1 else 0) → WP d1 → FrMD N N2 → Me N2 T L p1 (-1) → MoQ N2 d1 → N2 40 0 21 = (if b1 then 1 else 0) → (if tat T L (sk T L p1) = 59 then pDesk T L f (sk T L p1 + 1) d1 b1 else .inl (sk T L p1)) = P → AW K YX10_readDesk hX10_readDesk (qI Pq) 152 [some (vr 40 0), some (vi 0), some (vi x)] [] N2 g := by
        intro x p1 d1 b1 N2 k1 k2 k3 k4 k5 k6 k7
        refine ld_a0 iX10_readDesk_152 ?_
        refine r_bipush (by decide) iX10_readDesk_153 ?_
        refine xX10_must kMX10_113 iX10_readDesk_155 (by decide) (Nat.le_of_ble_eq_true rfl) rfl rfl ?_
        refine c_mMust1 (by omega) k4 (fun p3 w3 N3 f3 e3 c3 => ?_)
        refine r_goto iX10_readDesk_158 ?_
        refine r_goto iX10_readDesk_165 ?_
        rcases c3 with ⟨y1, y2, y3, y4⟩ | ⟨y1, y2⟩
        · subst y3
          subst y4
          rw [if_pos y1] at k7
          exact fg_2 (ih _ (c + 1) d1 b1 N3 (by omega) k1 k2 (k3.tr f3.d) e3 (k5.m f3) (by rw [f3 40 0 21 (by omega)]; exact k6) k7)
        · rw [if_neg y1] at k7
          subst y2
          exact f27 _ _ _ _ N3 (k3.tr f3.d) e3 k7.symm
      have no152 : ∀ (x : Int) (w p1 : Nat) (N2 : Nm), FrMD N N2 → Me N2 T L p1 (w : Int) → P = .inl w → AW K YX10_readDesk hX10_readDesk (qI Pq) 152 [some (vr 40 0), some (vi 0), some (vi x)] [] N2 g := by
        intro x w p1 N2 k1 k2 k3
        refine ld_a0 iX10_readDesk_152 ?_
        refine r_bipush (by decide) iX10_readDesk_153 ?_
        refine xX10_must kMX10_113 iX10_readDesk_155 (by decide) (Nat.le_of_ble_eq_true rfl) rfl rfl ?_
        refine c_mMust0 k2 (by omega) (fun N3 f3 e3 => ?_)
        refine r_goto iX10_readDesk_158 ?_
        refine r_goto iX10_readDesk_165 ?_
        exact f27 _ _ _ _ N3 (k1.tr f3.d) e3 k3
      have bad152 : ∀ (x : Int) (p1 : Nat) (N2 : Nm), FrMD N N2 → Me N2 T L p1 (-1) → sk T L p1 = p1 → tat T L p1 ≠ 59 → P = .inl p1 → AW K YX10_readDesk hX10_readDesk (qI Pq) 152 [some (vr 40 0), some (vi 0), some (vi x)] [] N2 g := by
        intro x p1 N2 k1 k2 k3 k4 k5
        refine ld_a0 iX10_readDesk_152 ?_
        refine r_bipush (by decide) iX10_readDesk_153 ?_
        refine xX10_must kMX10_113 iX10_readDesk_155 (by decide) (Nat.le_of_ble_eq_true rfl) rfl rfl ?_
        refine c_mMust1 (by omega) k2 (fun p3 w3 N3 f3 e3 c3 => ?_)
        refine r_goto iX10_readDesk_158 ?_
        refine r_goto iX10_readDesk_165 ?_
        rw [k3] at c3
        rcases c3 with ⟨y1, -⟩ | ⟨y1, y2⟩
        · exact absurd y1 k4
        · subst y2
          exact f27 _ _ _ _ N3 (k1.tr f3.d) e3 k5
      have rule : ∀ (N1 : Nm), FrM N' N1 → Me N1 T L (sk T L u) (-1) → ¬ tat T L (sk T L u) = 110 → ¬ (tat T L (sk T L u) = 107 ∧ b = false) → AW K YX10_readDesk hX10_readDesk (qI Pq) 128 [some (vr 40 0), some (vi 0), some (vi (tat T L (sk T L u)))] [] N1 g := by
        intro N1 f1 e1 m1 m2
        rw [if_neg m1, if_neg m2] at hp
        have hQ1 := hQ.m f1
        have bad : ¬ (tat T L (sk T L u) = 97 + (dA d : Int) ∧ dA d < 6) → AW K YX10_readDesk hX10_readDesk (qI Pq) 161 [some (vr 40 0), some (vi 0), some (vi (tat T L (sk T L u)))] [] N1 g := by
          intro m3
          rw [if_neg m3] at hp
          refine ld_a0 iX10_readDesk_161 ?_
          refine xX10_bad kMX10_103 iX10_readDesk_162 (by decide) (Nat.le_of_ble_eq_true rfl) rfl rfl ?_
          refine c_mBad1 e1 (fun N2 f2 e2 => ?_)
          refine r_goto iX10_readDesk_165 ?_
          exact f27 _ _ _ _ N2 (hF.tr (f1.tr f2).d) e2 hp.symm
        refine ld_a0 iX10_readDesk_128 ?_
        refine gf_X10_readAccounts kFX10_110 iX10_readDesk_129 ?_
        rw [hQ1.1]
        refine r_bipush (by decide) iX10_readDesk_132 ?_
        refine r_icmpge iX10_readDesk_134 (by omega) (by omega) (fun h134 => ?_) (fun h134 => ?_)
        · exact bad (fun z => by omega)
        · refine ld_i2 iX10_readDesk_137 ?_
          refine r_bipush (by decide) iX10_readDesk_138 ?_
          refine ld_a0 iX10_readDesk_140 ?_
          refine gf_X10_readAccounts kFX10_110 iX10_readDesk_141 ?_
          rw [hQ1.1]
          refine r_iadd iX10_readDesk_144 ?_
          refine r_icmpne iX10_readDesk_145 (by omega) (by omega) (fun h145 => ?_) (fun h145 => ?_)
          · exact bad (fun z => by omega)
          · have hin := tat_in (T := T) (L := L) (p := sk T L u) (by omega)
            rw [if_pos ⟨by omega, by omega⟩] at hp
            refine ld_a0 iX10_readDesk_148 ?_
            refine xX10_readRule kMX10_149 iX10_readDesk_149 (by decide) (Nat.le_of_ble_eq_true rfl) rfl rfl ?_
            refine c_mReadRule e1 hin hQ1 hW (by omega) (fun p2 w2 N2 f2 e2 c2 => ?_)
            have hF2 := hF.tr (f1.d.tr f2.d)
            rcases c2 with ⟨y1, d2, y2, y3⟩ | ⟨w, y1, y2⟩
            · subst y1
              obtain ⟨o1, o2, o3, o4⟩ := pRule_ok hin (by omega) hW y2
              rw [y2] at hp
              exact ok152 _ p2 d2 b N2 (by rw [o4]; omega) o3 hF2 e2 y3 (by rw [f2 40 0 21 (by omega) (by omega) (by omega) (by omega), f1 40 0 21 (by omega)]; exact h21) hp
            · rw [y1] at hp
              rcases y2 with y3 | ⟨y3, y4, y5⟩
              · subst y3
                exact no152 _ w p2 N2 hF2 e2 hp.symm
              · subst y3
                subst y4
                have hl := tat_in (T := T) (L := L) (p := p2) (by omega)
                have hs : sk T L p2 = p2 := sk_stop (fun z => by
                  unfold tat at y5
                  rw [if_pos hl] at y5
                  omega)
                exact bad152 _ p2 N2 hF2 e2 hs (by omega) hp.symm
      have paid : ∀ (N1 : Nm), FrM N' N1 → Me N1 T L (sk T L u) (-1) → tat T L (sk T L u) = 110 → AW K YX10_readDesk hX10_readDesk (qI Pq) 56 [some (vr 40 0), some (vi 1), some (vi (tat T L (sk T L u)))] [] N1 g := by
        intro N1 f1 e1 m1
        rw [if_pos m1] at hp
        have hin := tat_in (T := T) (L := L) (p := sk T L u) (by omega)
        have f2 : FrM N' (upN N1 40 0 3 ((sk T L u : Int) + 1)) := f1.up (Or.inl rfl)
        have hQ2 := hQ.m f2
        unfold pPaid at hp
        refine ld_i1 iX10_readDesk_56 ?_
        refine r_ifeq iX10_readDesk_57 (by omega) (fun h57 => ?_) (fun h57 => ?_)
        · exfalso; omega
        · refine ld_a0 iX10_readDesk_60 ?_
          refine r_dup rfl iX10_readDesk_61 ?_
          refine gf_X10_at kFX10_86 iX10_readDesk_62 ?_
          rw [e1.2.1]
          refine r_iconst iX10_readDesk_65 ?_
          refine r_iadd iX10_readDesk_66 ?_
          refine pf_X10_at kFX10_86 iX10_readDesk_67 ?_
          refine ld_a0 iX10_readDesk_70 ?_
          refine r_bipush (by decide) iX10_readDesk_71 ?_
          refine xX10_readSum kMX10_132 iX10_readDesk_73 (by decide) (Nat.le_of_ble_eq_true rfl) rfl rfl ?_
          refine c_mReadSum (a := 6) (p := sk T L u + 1) (A := dA d) (by omega) (e1.go (by omega) (by omega) rfl) hQ2.1 hA (fun p3 w3 n G M N3 f3 e3 eT hn hI c3 => ?_)
          refine r_goto iX10_readDesk_76 ?_
          refine r_goto iX10_readDesk_165 ?_
          rcases c3 with ⟨y1, y2, y3⟩ | ⟨y1, y2⟩
          · subst y1
            obtain ⟨o1, o2, o3, o4, o5⟩ := pTerms_ok (by have := tat_in (T := T) (L := L) (p := sk T L (sk T L u + 1)) (by omega); omega) y3
            rw [if_pos y2, y3] at hp
            simp only at hp
            exact o27 _ p3 _ N3 (hF.tr (f2.d.tr f3.d)) e3 (fun N4 f4 => hQ2.stP hW (f3.tr (f4.t 6)) (eT.m f4)) (hW.setP ⟨o3, o4⟩ o5) hp
          · rcases y2 with ⟨y2, y3⟩ | ⟨y2, w, y3, y4⟩
            · rw [if_neg y2] at hp
              subst y3
              exact f27 _ _ _ _ N3 (hF.tr (f2.d.tr f3.d)) e3 hp.symm
            · rw [if_pos y2, y3] at hp
              subst y4
              exact f27 _ _ _ _ N3 (hF.tr (f2.d.tr f3.d)) e3 hp.symm
      have bene : ∀ (N1 : Nm), FrM N' N1 → Me N1 T L (sk T L u) (-1) → ¬ tat T L (sk T L u) = 110 → tat T L (sk T L u) = 107 → b = false → AW K YX10_readDesk hX10_readDesk (qI Pq) 92 [some (vr 40 0), some (vi 0), some (vi (tat T L (sk T L u)))] [] N1 g := by
        intro N1 f1 e1 m1 m2 m3
        rw [if_neg m1, if_pos ⟨m2, m3⟩] at hp
        subst m3
        have hin := tat_in (T := T) (L := L) (p := sk T L u) (by omega)
        have f2 : FrM N' (upN N1 40 0 3 ((sk T L u : Int) + 1)) := f1.up (Or.inl rfl)
        have e2 : Me (upN N1 40 0 3 ((sk T L u : Int) + 1)) T L (sk T L u + 1) (-1) := e1.go (by omega) (by omega) rfl
        have hQ2 := hQ.m f2
        refine ld_a0 iX10_readDesk_92 ?_
        refine r_dup rfl iX10_readDesk_93 ?_
        refine gf_X10_at kFX10_86 iX10_readDesk_94 ?_
        rw [e1.2.1]
        refine r_iconst iX10_readDesk_97 ?_
        refine r_iadd iX10_readDesk_98 ?_
        refine pf_X10_at kFX10_86 iX10_readDesk_99 ?_
        refine ld_a0 iX10_readDesk_102 ?_
        refine r_iconst iX10_readDesk_103 ?_
        refine pf_X10_hasBenefit (by omega) kFX10_145 iX10_readDesk_104 ?_
        refine ld_a0 iX10_readDesk_107 ?_
        refine ld_a0 iX10_readDesk_108 ?_
        refine r_iconst iX10_readDesk_109 ?_
        refine r_sipush (by decide) iX10_readDesk_110 ?_
        refine xX10_number kMX10_129 iX10_readDesk_113 (by decide) (Nat.le_of_ble_eq_true rfl) rfl rfl ?_
        refine c_mNumber1 (by omega) (by omega) (e2.of (fun j hj => upN_j (by omega)) (fun j => upN_k (by decide))) (fun v p3 w3 N3 hv f3 e3 c3 => ?_)
        refine pf_X10_readBenefit kFX10_142 iX10_readDesk_116 ?_
        have hF4 : FrMD N (upN N3 40 0 18 v) := ((hF.tr (f2.d.up (i := 0) (j := 21) (v := 1) (by omega))).tr f3.d).up (by omega)
        have e4 : Me (upN N3 40 0 18 v) T L p3 w3 := e3.of (fun j hj => upN_j (by omega)) (fun j => upN_k (by decide))
        rcases c3 with ⟨y1, y2⟩ | ⟨w, y1, y2⟩
        · subst y1
          have ov := pNum_ok (by omega) y2
          rw [y2] at hp
          refine ok119 _ p3 (setB d v) true _ ?_ (hW.setB ov.2) hF4 e4 ⟨?_, upN_eq _ _ _ _ _, fun a ha => ?_⟩ ?_ hp
          · show c + 1 = dA d + 1
            have : c = dA d + 0 := hcd
            omega
          · rw [upN_j (by decide), f3 40 0 17 (by omega), upN_j (by decide)]; exact hQ2.1
          · obtain ⟨b1, b2, b3⟩ := hQ2.2.2 a ha
            have ff : ∀ k i j, 42 ≤ k → k ≤ 52 → upN N3 40 0 18 v k i j = upN N1 40 0 3 ((sk T L u : Int) + 1) k i j := fun k i j z1 z2 => by rw [upN_k (by omega), f3 k i j (by omega), upN_k (by omega)]
            exact ⟨b1.of (fun k i j z1 z2 => ff k i j (by omega) (by omega)), b2.of (fun k i j z1 z2 => ff k i j (by omega) (by omega)), by rw [ff 52 _ _ (by omega) (by omega)]; exact b3⟩
          · rw [upN_j (by decide), f3 40 0 21 (by omega), upN_eq]; rfl
        · rw [y1] at hp
          subst y2
          exact no119 _ w p3 _ hF4 e4 hp.symm
      have hb21 : N' 40 0 21 = 0 ∨ N' 40 0 21 = 1 := by rw [h21]; split <;> omega
      have t79 : ∀ (N1 : Nm), FrM N' N1 → Me N1 T L (sk T L u) (-1) → ¬ tat T L (sk T L u) = 110 → AW K YX10_readDesk hX10_readDesk (qI Pq) 56 [some (vr 40 0), some (vi 0), some (vi (tat T L (sk T L u)))] [] N1 g := by
        intro N1 f1 e1 m1
        refine ld_i1 iX10_readDesk_56 ?_
        refine r_ifeq iX10_readDesk_57 (by omega) (fun h57 => ?_) (fun h57 => ?_)
        · refine ld_i2 iX10_readDesk_79 ?_
          refine r_bipush (by decide) iX10_readDesk_80 ?_
          refine r_icmpne iX10_readDesk_82 (by omega) (by omega) (fun h82 => ?_) (fun h82 => ?_)
          · first
              | exact rule N1 f1 e1 m1 (fun z => hbt z.2)
              | exact rule N1 f1 e1 m1 (fun z => h82 z.1)
          · refine ld_a0 iX10_readDesk_85 ?_
            refine gf_X10_hasBenefit kFX10_145 iX10_readDesk_86 ?_
            rw [f1 40 0 21 (by omega)]
            refine r_ifne iX10_readDesk_89 (by omega) (fun h89 => ?_) (fun h89 => ?_)
            · have hbt : b ≠ false := by intro z; subst z; exact h89 h21
              first
                | exact rule N1 f1 e1 m1 (fun z => hbt z.2)
                | exact rule N1 f1 e1 m1 (fun z => h82 z.1)
            · have hbf : b = false := by cases b; rfl; rw [h89] at h21; exact absurd h21 (by decide)
              exact bene N1 f1 e1 m1 h82 hbf
        · exfalso; omega
      refine ld_a0 iX10_readDesk_27 ?_
      refine gf_X10_wrong kFX10_93 iX10_readDesk_28 ?_
      rw [r3]
      refine r_iconst iX10_readDesk_31 ?_
      refine r_icmpne iX10_readDesk_32 (by omega) (by omega) (fun h32 => ?_) (fun h32 => ?_)
      · exfalso; omega
      · refine ld_i1 iX10_readDesk_35 ?_
        refine r_ifne iX10_readDesk_36 (by omega) (fun h36 => ?_) (fun h36 => ?_)
        · exfalso; omega
        · refine ld_a0 iX10_readDesk_39 ?_
          refine xX10_ahead kMX10_100 iX10_readDesk_40 (by decide) (Nat.le_of_ble_eq_true rfl) rfl rfl ?_
          refine c_mAhead hR (fun N1 f1 e1 => ?_)
          refine sv_i2 (by decide) rfl iX10_readDesk_43 ?_
          refine ld_i2 iX10_readDesk_44 ?_
          refine r_bipush (by decide) iX10_readDesk_45 ?_
          refine r_icmpne iX10_readDesk_47 (by omega) (by omega) (fun h47 => ?_) (fun h47 => ?_)
          · refine r_iconst iX10_readDesk_54 ?_
            refine sv_i1 (by decide) rfl iX10_readDesk_55 ?_
            first
              | exact paid N1 f1 e1 h47
              | exact t79 N1 f1 e1 h47
          · refine r_iconst iX10_readDesk_50 ?_
            refine r_goto iX10_readDesk_51 ?_
            refine sv_i1 (by decide) rfl iX10_readDesk_55 ?_
            first
              | exact paid N1 f1 e1 h47
              | exact t79 N1 f1 e1 h47
  refine ld_a0 iX10_readDesk_0 ?_
  refine r_iconst iX10_readDesk_1 ?_
  refine pf_X10_at kFX10_86 iX10_readDesk_2 ?_
  refine ld_a0 iX10_readDesk_5 ?_
  refine r_iconst iX10_readDesk_6 ?_
  refine pf_X10_wrong kFX10_93 iX10_readDesk_7 ?_
  refine ld_a0 iX10_readDesk_10 ?_
  refine r_iconst iX10_readDesk_11 ?_
  refine pf_X10_readAccounts kFX10_110 iX10_readDesk_12 ?_
  refine ld_a0 iX10_readDesk_15 ?_
  refine r_iconst iX10_readDesk_16 ?_
  refine pf_X10_readBenefit kFX10_142 iX10_readDesk_17 ?_
  refine ld_a0 iX10_readDesk_20 ?_
  refine r_iconst iX10_readDesk_21 ?_
  refine pf_X10_hasBenefit (by omega) kFX10_145 iX10_readDesk_22 ?_
  refine r_iconst iX10_readDesk_25 ?_
  refine sv_i1 (by decide) rfl iX10_readDesk_26 ?_
  refine loop 8 0 0 dk0 false _ (by omega) rfl WP0 (fun k i j z1 z2 => ?_) ⟨hT.of ?_ (fun j => ?_), ?_, by omega, ?_, by omega⟩ ⟨?_, ?_, fun a ha => absurd ha (Nat.not_lt_zero a)⟩ (upN_eq _ _ _ _ _) hP
  · simp only [upN]; rw [if_neg (by omega), if_neg (by omega), if_neg (by omega), if_neg (by omega), if_neg (by omega)]
  · simp [upN]
  · simp [upN]
  · simp [upN]
  · simp [upN]
  · simp [upN]; rfl
  · simp [upN]; rfl
end MRead4
