/-! own text: bend, would, most, count -/
section Change8
variable {K : Kx} {N : Nm} {g : Ge} {d : Dk} {r : Nat}
theorem c_mayStart {a q : Nat} {v : Int} {Pq : Int → Nm → Ge → Prop} (hR : RuI N r d) (hW : WD d) (ha : a < dA d) (hqs : q < dS d a) (rv : rI v) (hq : ∀ z : Int, (z = 1 ∧ OkB d a q 0 v) ∨ (z = 0 ∧ ¬ OkB d a q 0 v) → Pq z N g) : Ck K YX5_mayStart hX5_mayStart [vr 20 r, vi a, vi q, vi v] N g (qI Pq) := by
  have hA := hW.1
  obtain ⟨s1, s2, s3⟩ := hR.2.2.2.1 a ha
  have hS := (hW.2.2.1 a ha).1
  have hS6 := hS.2.1
  have bq := hS.2.2.2.2
  refine Ck.intro 0 (by decide) rfl ?_
  show AW _ _ _ _ _ [some (vr 20 r), some (vi a), some (vi q), some (vi v)] _ _ _
  have tl : ∀ z : Int, (z = 1 ∧ OkB d a q 0 v) ∨ (z = 0 ∧ ¬ OkB d a q 0 v) → AW K YX5_mayStart hX5_mayStart (qI Pq) 58 [some (vr 20 r), some (vi a), some (vi q), some (vi v)] [vi z] N g := by
    intro z hz
    have hz2 : z = 0 ∨ z = 1 := by omega
    refine t_bool rfl (by omega) iX5_mayStart_58 ?_
    exact hq z hz
  have no : ¬ OkB d a q 0 v → AW K YX5_mayStart hX5_mayStart (qI Pq) 25 [some (vr 20 r), some (vi a), some (vi q), some (vi v)] [] N g := by
    intro hn
    refine r_iconst iX5_mayStart_25 ?_
    refine t_bool rfl (by omega) iX5_mayStart_26 ?_
    exact hq 0 (Or.inr ⟨rfl, hn⟩)
  refine ld_i2 iX5_mayStart_0 ?_
  refine r_ifeq iX5_mayStart_1 (by omega) (fun h1 => ?_) (fun h1 => ?_)
  · refine no (fun h => ?_)
    have h := h.1 rfl
    omega
  · refine ld_i3 iX5_mayStart_4 ?_
    refine r_sipush (by decide) iX5_mayStart_5 ?_
    refine r_icmpgt iX5_mayStart_8 (by omega) (by omega) (fun h8 => ?_) (fun h8 => ?_)
    · refine no (fun h => ?_)
      have h := h.1 rfl
      omega
    · refine ld_i3 iX5_mayStart_11 ?_
      refine ld_a0 iX5_mayStart_12 ?_
      refine gf_X5_froms kFX5_36 iX5_mayStart_13 ?_
      refine ld_i1 iX5_mayStart_16 ?_
      refine al_28 rfl (by omega) iX5_mayStart_17 ?_
      refine ld_i2 iX5_mayStart_18 ?_
      refine r_iconst iX5_mayStart_19 ?_
      refine r_isub iX5_mayStart_20 ?_
      have b1 := (bq (q - 1) (by omega)).1
      refine al_29 (n := (q - 1)) (by omega) (by omega) iX5_mayStart_21 ?_
      rw [(s3 (q - 1) (by omega)).1]
      refine r_icmpgt iX5_mayStart_22 (by omega) (by omega) (fun h22 => ?_) (fun h22 => ?_)
      · refine ld_i2 iX5_mayStart_27 ?_
        refine r_iconst iX5_mayStart_28 ?_
        refine r_iadd iX5_mayStart_29 ?_
        refine ld_a0 iX5_mayStart_30 ?_
        refine gf_X5_segmentCounts kFX5_33 iX5_mayStart_31 ?_
        refine ld_i1 iX5_mayStart_34 ?_
        refine al_27 rfl (by omega) iX5_mayStart_35 ?_
        rw [s2]
        refine r_icmpeq iX5_mayStart_36 (by omega) (by omega) (fun h36 => ?_) (fun h36 => ?_)
        · refine r_iconst iX5_mayStart_53 ?_
          refine r_goto iX5_mayStart_54 ?_
          first
            | exact tl _ (Or.inl ⟨rfl, ⟨fun _ => ⟨by omega, by omega, by omega, fun y => by omega⟩, fun y => by omega, fun y => by omega⟩⟩)
            | exact tl _ (Or.inr ⟨rfl, fun h => by have h := h.1 rfl; have h2 := h.2.2.2 (by omega); omega⟩)
        · refine ld_i3 iX5_mayStart_39 ?_
          refine ld_a0 iX5_mayStart_40 ?_
          refine gf_X5_froms kFX5_36 iX5_mayStart_41 ?_
          refine ld_i1 iX5_mayStart_44 ?_
          refine al_28 rfl (by omega) iX5_mayStart_45 ?_
          refine ld_i2 iX5_mayStart_46 ?_
          refine r_iconst iX5_mayStart_47 ?_
          refine r_iadd iX5_mayStart_48 ?_
          have b2 := (bq (q + 1) (by omega)).1
          refine al_29 (n := (q + 1)) (by omega) (by omega) iX5_mayStart_49 ?_
          rw [(s3 (q + 1) (by omega)).1]
          refine r_icmpge iX5_mayStart_50 (by omega) (by omega) (fun h50 => ?_) (fun h50 => ?_)
          · refine r_iconst iX5_mayStart_57 ?_
            first
              | exact tl _ (Or.inl ⟨rfl, ⟨fun _ => ⟨by omega, by omega, by omega, fun y => by omega⟩, fun y => by omega, fun y => by omega⟩⟩)
              | exact tl _ (Or.inr ⟨rfl, fun h => by have h := h.1 rfl; have h2 := h.2.2.2 (by omega); omega⟩)
          · refine r_iconst iX5_mayStart_53 ?_
            refine r_goto iX5_mayStart_54 ?_
            first
              | exact tl _ (Or.inl ⟨rfl, ⟨fun _ => ⟨by omega, by omega, by omega, fun y => by omega⟩, fun y => by omega, fun y => by omega⟩⟩)
              | exact tl _ (Or.inr ⟨rfl, fun h => by have h := h.1 rfl; have h2 := h.2.2.2 (by omega); omega⟩)
      · refine no (fun h => ?_)
        have h := h.1 rfl
        omega
theorem c_mayBend {a q what : Nat} {v : Int} {Pq : Int → Nm → Ge → Prop} (hR : RuI N g.1 d) (hW : WD d) (ha : a < dA d) (hqs : q < dS d a) (hw : what < 3) (rv : rI v) (hq : ∀ z : Int, (z = 1 ∧ OkB d a q what v) ∨ (z = 0 ∧ ¬ OkB d a q what v) → Pq z N g) : Ck K YX9_mayBend hX9_mayBend [vr 0 0, vi a, vi q, vi what, vi v] N g (qI Pq) := by
  refine Ck.intro 0 (by decide) rfl ?_
  show AW _ _ _ _ _ [some (vr 0 0), some (vi a), some (vi q), some (vi what), some (vi v)] _ _ _
  have tl : ∀ z : Int, (z = 1 ∧ OkB d a q what v) ∨ (z = 0 ∧ ¬ OkB d a q what v) → AW K YX9_mayBend hX9_mayBend (qI Pq) 45 [some (vr 0 0), some (vi a), some (vi q), some (vi what), some (vi v)] [vi z] N g := by
    intro z hz
    have hz2 : z = 0 ∨ z = 1 := by omega
    refine t_bool rfl (by omega) iX9_mayBend_45 ?_
    exact hq z hz
  refine ld_i3 iX9_mayBend_0 ?_
  refine r_ifne iX9_mayBend_1 (by omega) (fun h1 => ?_) (fun h1 => ?_)
  · refine ld_i4 iX9_mayBend_16 ?_
    refine r_iflt iX9_mayBend_18 (by omega) (fun h18 => ?_) (fun h18 => ?_)
    · refine r_iconst iX9_mayBend_44 ?_
      first
        | exact tl _ (Or.inl ⟨rfl, ⟨fun y => by omega, fun y => by omega, fun y => by omega⟩⟩)
        | exact tl _ (Or.inr ⟨rfl, fun h => by have h1 := h.2.1; have h2 := h.2.2; omega⟩)
    · refine ld_i4 iX9_mayBend_21 ?_
      refine ld_i3 iX9_mayBend_23 ?_
      refine r_iconst iX9_mayBend_24 ?_
      refine r_icmpne iX9_mayBend_25 (by omega) (by omega) (fun h25 => ?_) (fun h25 => ?_)
      · refine r_sipush (by decide) iX9_mayBend_34 ?_
        refine r_icmpgt iX9_mayBend_37 (by omega) (by omega) (fun h37 => ?_) (fun h37 => ?_)
        · refine r_iconst iX9_mayBend_44 ?_
          first
            | exact tl _ (Or.inl ⟨rfl, ⟨fun y => by omega, fun y => by omega, fun y => by omega⟩⟩)
            | exact tl _ (Or.inr ⟨rfl, fun h => by have h1 := h.2.1; have h2 := h.2.2; omega⟩)
        · refine r_iconst iX9_mayBend_40 ?_
          refine r_goto iX9_mayBend_41 ?_
          first
            | exact tl _ (Or.inl ⟨rfl, ⟨fun y => by omega, fun y => by omega, fun y => by omega⟩⟩)
            | exact tl _ (Or.inr ⟨rfl, fun h => by have h1 := h.2.1; have h2 := h.2.2; omega⟩)
      · refine r_sipush (by decide) iX9_mayBend_28 ?_
        refine r_goto iX9_mayBend_31 ?_
        refine r_icmpgt iX9_mayBend_37 (by omega) (by omega) (fun h37 => ?_) (fun h37 => ?_)
        · refine r_iconst iX9_mayBend_44 ?_
          first
            | exact tl _ (Or.inl ⟨rfl, ⟨fun y => by omega, fun y => by omega, fun y => by omega⟩⟩)
            | exact tl _ (Or.inr ⟨rfl, fun h => by have h1 := h.2.1; have h2 := h.2.2; omega⟩)
        · refine r_iconst iX9_mayBend_40 ?_
          refine r_goto iX9_mayBend_41 ?_
          first
            | exact tl _ (Or.inl ⟨rfl, ⟨fun y => by omega, fun y => by omega, fun y => by omega⟩⟩)
            | exact tl _ (Or.inr ⟨rfl, fun h => by have h1 := h.2.1; have h2 := h.2.2; omega⟩)
  · have e : what = 0 := by omega
    subst e
    refine ld_a0 iX9_mayBend_4 ?_
    refine gf_X9_rules kFX9_58 iX9_mayBend_5 ?_
    refine ld_i1 iX9_mayBend_8 ?_
    refine ld_i2 iX9_mayBend_9 ?_
    refine ld_i4 iX9_mayBend_10 ?_
    refine xX5_mayStart kMX9_364 iX9_mayBend_12 (by decide) (Nat.le_of_ble_eq_true rfl) rfl rfl ?_
    refine c_mayStart hR hW ha hqs rv (fun z hz => ?_)
    refine t_bool rfl (by omega) iX9_mayBend_15 ?_
    exact hq z hz
theorem c_rowOfWhat {a what : Nat} {Pq : Nat → Nat → Nm → Ge → Prop} (ha : a < 6) (hw : what < 3) (hq : Pq (29 + 2 * what) (6 * r + a) N g) : Ck K YX5_rowOfWhat hX5_rowOfWhat [vr 20 r, vi a, vi what] N g (qR Pq) := by
  refine Ck.intro 0 (by decide) rfl ?_
  show AW _ _ _ _ _ [some (vr 20 r), some (vi a), some (vi what)] _ _ _
  refine ld_i2 iX5_rowOfWhat_0 ?_
  refine r_ifne iX5_rowOfWhat_1 (by omega) (fun h1 => ?_) (fun h1 => ?_)
  · refine ld_i2 iX5_rowOfWhat_11 ?_
    refine r_iconst iX5_rowOfWhat_12 ?_
    refine r_icmpne iX5_rowOfWhat_13 (by omega) (by omega) (fun h13 => ?_) (fun h13 => ?_)
    · refine ld_a0 iX5_rowOfWhat_25 ?_
      refine gf_X5_slopes kFX5_42 iX5_rowOfWhat_26 ?_
      refine ld_i1 iX5_rowOfWhat_29 ?_
      refine al_32 rfl (by omega) iX5_rowOfWhat_30 ?_
      refine t_ref rfl (Or.inr ⟨_, rfl⟩) iX5_rowOfWhat_31 ?_
      first
        | (rw [show what = 1 by omega] at hq; exact hq)
        | (rw [show what = 2 by omega] at hq; exact hq)
    · refine ld_a0 iX5_rowOfWhat_16 ?_
      refine gf_X5_ats kFX5_39 iX5_rowOfWhat_17 ?_
      refine ld_i1 iX5_rowOfWhat_20 ?_
      refine al_30 rfl (by omega) iX5_rowOfWhat_21 ?_
      refine r_goto iX5_rowOfWhat_22 ?_
      refine t_ref rfl (Or.inr ⟨_, rfl⟩) iX5_rowOfWhat_31 ?_
      first
        | (rw [show what = 1 by omega] at hq; exact hq)
        | (rw [show what = 2 by omega] at hq; exact hq)
  · refine ld_a0 iX5_rowOfWhat_4 ?_
    refine gf_X5_froms kFX5_36 iX5_rowOfWhat_5 ?_
    refine ld_i1 iX5_rowOfWhat_8 ?_
    refine al_28 rfl (by omega) iX5_rowOfWhat_9 ?_
    refine t_ref rfl (Or.inr ⟨_, rfl⟩) iX5_rowOfWhat_10 ?_
    rw [show what = 0 by omega] at hq; exact hq
/-- behind a bend: the cell, the bases, and the lines are stale -/
theorem x_bend {a s w v : Int} {Pq : Int → Nm → Ge → Prop} (hX : XS N g d) (ra : rI a) (rs : rI s) (rw' : rI w) (rv : rI v)
    (hq1 : N 0 0 9 = 1 → IsSg d a s → (0 ≤ w ∧ w ≤ 2) → OkB d a.toNat s.toNat w.toNat v → (if w = 0 then dF d a.toNat s.toNat else if w = 1 then dE d a.toNat s.toNat else dL d a.toNat s.toNat) ≠ v → ∀ N', (∀ k i j, k < 20 → ¬ (k = 0 ∧ j = 10) → N' k i j = N k i j) → (∀ k i j, 36 ≤ k → N' k i j = N k i j) → XS N' g (bnd d a.toNat s.toNat w.toNat v) → Pq (if w = 0 then dF d a.toNat s.toNat else if w = 1 then dE d a.toNat s.toNat else dL d a.toNat s.toNat) N' g)
    (hq0 : ∀ k, (k = 0 ∧ ¬ (N 0 0 9 = 1 ∧ IsSg d a s ∧ (0 ≤ w ∧ w ≤ 2))) ∨ (k = 1 ∧ (N 0 0 9 = 1 ∧ IsSg d a s ∧ (0 ≤ w ∧ w ≤ 2)) ∧ ¬ OkB d a.toNat s.toNat w.toNat v) ∨ (k = 2 ∧ (N 0 0 9 = 1 ∧ IsSg d a s ∧ (0 ≤ w ∧ w ≤ 2)) ∧ OkB d a.toNat s.toNat w.toNat v ∧ (if w = 0 then dF d a.toNat s.toNat else if w = 1 then dE d a.toNat s.toNat else dL d a.toNat s.toNat) = v) → Pq (-2) (upN N 19 0 k (N 19 0 k + 1)) g) : Ck K YX9_bend hX9_bend [vr 0 0, vi a, vi s, vi w, vi v] N g (qI Pq) := by
  refine Ck.intro 2 (by decide) rfl ?_
  show AW _ _ _ _ _ [some (vr 0 0), some (vi a), some (vi s), some (vi w), some (vi v), none, none] _ _ _
  have t26 : N 0 0 9 = 1 → IsSg d a s → (0 ≤ w ∧ w ≤ 2) → AW K YX9_bend hX9_bend (qI Pq) 26 [some (vr 0 0), some (vi a), some (vi s), some (vi w), some (vi v), none, none] [] N g := by
    intro h9 hsg hw
    have hsg0 := hsg
    unfold IsSg at hsg
    obtain ⟨hW, hR, -⟩ := hX.2.2 h9
    have hA := hW.1
    obtain ⟨A, hA1⟩ : ∃ A : Nat, a = A := ⟨a.toNat, by omega⟩
    obtain ⟨S, hS1⟩ : ∃ S : Nat, s = S := ⟨s.toNat, by omega⟩
    obtain ⟨T, hT1⟩ : ∃ T : Nat, w = T := ⟨w.toNat, by omega⟩
    subst hA1
    subst hS1
    subst hT1
    simp only [Int.toNat_natCast] at hq1 hq0 hsg
    have hSS := (hW.2.2.1 A (by omega)).1
    have hS6 := hSS.2.1
    have hrow := (hR.2.2.2.1 A (by omega)).2.2 S (by omega)
    have hbd := hSS.2.2.2.2 S (by omega)
    have hkd : kd (29 + 2 * T) = (1, 0) := by rcases (show T = 0 ∨ T = 1 ∨ T = 2 by omega) with e | e | e <;> subst e <;> rfl
    have hln : ∀ i, ln g (29 + 2 * T) i = 6 := fun i => by rcases (show T = 0 ∨ T = 1 ∨ T = 2 by omega) with e | e | e <;> subst e <;> rfl
    have hval : N (29 + 2 * T) (6 * g.1 + A) S = (if (T : Int) = 0 then dF d A S else if (T : Int) = 1 then dE d A S else dL d A S) := by
      rcases (show T = 0 ∨ T = 1 ∨ T = 2 by omega) with e | e | e <;> subst e
      · exact hrow.1
      · exact hrow.2.1
      · exact hrow.2.2
    generalize hold : (if (T : Int) = 0 then dF d A S else if (T : Int) = 1 then dE d A S else dL d A S) = old at hval hq1 hq0
    have hob : rI old := by
      rw [← hold]
      rcases (show T = 0 ∨ T = 1 ∨ T = 2 by omega) with e | e | e <;> subst e <;> simp <;> omega
    refine ld_a0 iX9_bend_26 ?_
    refine ld_i1 iX9_bend_27 ?_
    refine ld_i2 iX9_bend_28 ?_
    refine ld_i3 iX9_bend_29 ?_
    refine ld_i4 iX9_bend_30 ?_
    refine xX9_mayBend kMX9_241 iX9_bend_32 (by decide) (Nat.le_of_ble_eq_true rfl) rfl rfl ?_
    refine c_mayBend hR hW (by omega) (by omega) (by omega) rv (fun z hz => ?_)
    refine r_ifne iX9_bend_35 (by omega) (fun h35 => ?_) (fun h35 => ?_)
    · have hok := (hz.resolve_right (fun q => by omega)).2
      refine ld_a0 iX9_bend_46 ?_
      refine gf_X9_rules kFX9_58 iX9_bend_47 ?_
      refine ld_i1 iX9_bend_50 ?_
      refine ld_i3 iX9_bend_51 ?_
      refine xX5_rowOfWhat kMX9_245 iX9_bend_52 (by decide) (Nat.le_of_ble_eq_true rfl) rfl rfl ?_
      refine c_rowOfWhat (by omega) (by omega) ?_
      refine sv_a5 (by decide) rfl iX9_bend_55 ?_
      refine ld_a5 iX9_bend_57 ?_
      refine ld_i2 iX9_bend_59 ?_
      refine r_iald (n := S) rfl (by rw [hln]; omega) (by omega) hkd iX9_bend_60 ?_
      rw [hval]
      refine sv_i6 (by decide) rfl iX9_bend_61 ?_
      refine ld_i6 iX9_bend_63 ?_
      refine ld_i4 iX9_bend_65 ?_
      refine r_icmpne iX9_bend_67 (by omega) (by omega) (fun h67 => ?_) (fun h67 => ?_)
      · refine ld_a5 iX9_bend_78 ?_
        refine ld_i2 iX9_bend_80 ?_
        refine ld_i4 iX9_bend_81 ?_
        refine r_iast (n := S) rfl (by rw [hln]; omega) (by omega) hkd iX9_bend_83 ?_
        refine fg_5 ?_
        have hWB := bnd_W hW (show A < dA d by omega) (show S < dS d A by omega) hok
        have hcell : ∀ k i j, upN N (29 + 2 * T) (6 * g.1 + A) S v k i j = if k = 29 + 2 * T ∧ i = 6 * g.1 + A ∧ j = S then v else N k i j := fun _ _ _ => rfl
        refine ld_a0 iX9_bend_84 ?_
        refine gf_X9_rules kFX9_58 iX9_bend_85 ?_
        refine ld_i1 iX9_bend_88 ?_
        refine xX5_settle kMX9_249 iX9_bend_89 (by decide) (Nat.le_of_ble_eq_true rfl) rfl rfl ?_
        refine c_settle (d := bnd d A S T v) (by omega) (hWB.2.2.1 A (show A < dA d by omega)).1 (by rw [upN_k (by omega)]; exact (hR.2.2.2.1 A (by omega)).2.1) (fun p hp => ?_) (fun N2 e1 e2 => ?_)
        · have hp : p < dS d A := hp
          obtain ⟨f1, f2, f3⟩ := (hR.2.2.2.1 A (by omega)).2.2 p hp
          rw [hcell, hcell, hcell, bnd_F, bnd_E, bnd_L, ← f1, ← f2, ← f3]
          refine ⟨?_, ?_, ?_⟩
          · by_cases c : T = 0 ∧ A = A ∧ p = S
            · rw [if_pos (by omega), if_pos c]
            · rw [if_neg (by omega), if_neg c]
          · by_cases c : T = 1 ∧ A = A ∧ p = S
            · rw [if_pos (by omega), if_pos c]
            · rw [if_neg (by omega), if_neg c]
          · by_cases c : T = 2 ∧ A = A ∧ p = S
            · rw [if_pos (by omega), if_pos c]
            · rw [if_neg (by omega), if_neg c]
        refine ld_a0 iX9_bend_92 ?_
        refine r_iconst iX9_bend_93 ?_
        refine pf_X9_stale (by omega) kFX9_69 iX9_bend_94 ?_
        refine ld_i6 iX9_bend_97 ?_
        refine t_int rfl iX9_bend_99 ?_
        have hR2 : RuI N2 g.1 (bnd d A S T v) := hR.bnd hA (by omega) (by omega) e1 e2
        have nk : ∀ k i j, k < 20 ∨ 36 ≤ k → N2 k i j = N k i j := fun k i j z => by rw [e1 k i j (by omega)]; exact upN_k (by omega)
        refine hq1 h9 hsg0 hw hok (by omega) _ (fun k i j z1 z2 => ?_) (fun k i j z1 => by rw [upN_k (by omega)]; exact nk k i j (by omega)) ⟨?_, hX.2.1, fun _ => ⟨hWB, hR2.of (fun k a j q1 q2 => upN_k (by omega)), Or.inr (upN_eq _ _ _ _ _), fun q => by rw [upN_eq] at q; omega⟩⟩
        · by_cases e : k = 0
          · rw [upN_j (by omega)]; exact nk k i j (by omega)
          · rw [upN_k e]; exact nk k i j (by omega)
        · rw [upN_j (by decide), nk 0 _ _ (by omega)]; exact hX.1
      · refine fg_5 ?_
        refine ld_a0 iX9_bend_70 ?_
        refine r_iconst iX9_bend_71 ?_
        refine r_bipush (by decide) iX9_bend_72 ?_
        refine xX9_refuse kMX9_237 iX9_bend_74 (by decide) (Nat.le_of_ble_eq_true rfl) rfl rfl ?_
        refine c_refuse (k := 2) (by omega) ?_
        refine t_int rfl iX9_bend_77 ?_
        exact hq0 2 (Or.inr (Or.inr ⟨rfl, ⟨h9, hsg0, hw⟩, hok, by omega⟩))
    · refine ld_a0 iX9_bend_38 ?_
      refine r_iconst iX9_bend_39 ?_
      refine r_bipush (by decide) iX9_bend_40 ?_
      refine xX9_refuse kMX9_237 iX9_bend_42 (by decide) (Nat.le_of_ble_eq_true rfl) rfl rfl ?_
      refine c_refuse (k := 1) (by omega) ?_
      refine t_int rfl iX9_bend_45 ?_
      exact hq0 1 (Or.inr (Or.inl ⟨rfl, ⟨h9, hsg0, hw⟩, (hz.resolve_left (fun q => by omega)).2⟩))
  refine ld_a0 iX9_bend_0 ?_
  refine ld_i1 iX9_bend_1 ?_
  refine ld_i2 iX9_bend_2 ?_
  refine xX9_isSegment kMX9_128 iX9_bend_3 (by decide) (Nat.le_of_ble_eq_true rfl) rfl rfl ?_
  refine c_xisSegment' hX ra rs (fun z hz => ?_)
  refine r_ifeq iX9_bend_6 (by omega) (fun h6 => ?_) (fun h6 => ?_)
  · have hz := (hz.resolve_left (fun q => by omega)).2
    refine ld_a0 iX9_bend_18 ?_
    refine r_iconst iX9_bend_19 ?_
    refine r_bipush (by decide) iX9_bend_20 ?_
    refine xX9_refuse kMX9_237 iX9_bend_22 (by decide) (Nat.le_of_ble_eq_true rfl) rfl rfl ?_
    refine c_refuse (k := 0) (by omega) ?_
    refine t_int rfl iX9_bend_25 ?_
    refine hq0 0 (Or.inl ⟨rfl, fun q => ?_⟩)
    first
      | exact hz ⟨q.1, q.2.1⟩
      | (have := q.2.2; omega)
  · have hz := (hz.resolve_right (fun q => by omega)).2
    refine ld_i3 iX9_bend_9 ?_
    refine r_iflt iX9_bend_10 (by omega) (fun h10 => ?_) (fun h10 => ?_)
    · refine ld_a0 iX9_bend_18 ?_
      refine r_iconst iX9_bend_19 ?_
      refine r_bipush (by decide) iX9_bend_20 ?_
      refine xX9_refuse kMX9_237 iX9_bend_22 (by decide) (Nat.le_of_ble_eq_true rfl) rfl rfl ?_
      refine c_refuse (k := 0) (by omega) ?_
      refine t_int rfl iX9_bend_25 ?_
      refine hq0 0 (Or.inl ⟨rfl, fun q => ?_⟩)
      first
        | exact hz ⟨q.1, q.2.1⟩
        | (have := q.2.2; omega)
    · refine ld_i3 iX9_bend_13 ?_
      refine r_iconst iX9_bend_14 ?_
      refine r_icmple iX9_bend_15 (by omega) (by omega) (fun h15 => ?_) (fun h15 => ?_)
      · exact t26 hz.1 hz.2 (by omega)
      · refine ld_a0 iX9_bend_18 ?_
        refine r_iconst iX9_bend_19 ?_
        refine r_bipush (by decide) iX9_bend_20 ?_
        refine xX9_refuse kMX9_237 iX9_bend_22 (by decide) (Nat.le_of_ble_eq_true rfl) rfl rfl ?_
        refine c_refuse (k := 0) (by omega) ?_
        refine t_int rfl iX9_bend_25 ?_
        refine hq0 0 (Or.inl ⟨rfl, fun q => ?_⟩)
        first
          | exact hz ⟨q.1, q.2.1⟩
          | (have := q.2.2; omega)
end Change8
