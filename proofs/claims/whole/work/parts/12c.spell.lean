/-! own text: a rule is spelt by the class, on -/
section Spell7
variable {K : Kx} {N : Nm} {g : Ge} {l : List Int} {w : Int} {d : Dk} {r : Nat}
theorem c_writeSegments {a : Nat} {Pq : Nm → Ge → Prop} (hR : RuI N r d) (hW : WD d) (ha : a < dA d) (hS : SpX N l w) (hl : l.length ≤ 100) (rw' : rI w) (hq : ∀ N', FrX 18 18 N N' → SpX N' (l ++ sgL d a (dS d a)) w → Pq N' g) : Ck K YX6_writeSegments hX6_writeSegments [vr 18 0, vr 20 r, vi a] N g (qV Pq) := by
  have hA := hW.1
  have hSS := (hW.2.2.1 a ha).1
  have hS6 := hSS.2.1
  refine Ck.intro 1 (by decide) rfl ?_
  show AW _ _ _ _ _ [some (vr 18 0), some (vr 20 r), some (vi a), none] _ _ _
  have rul : ∀ N2, FrX 18 18 N N2 → RuI N2 r d := fun N2 f => hR.of (fun k x j q1 q2 => f k x j (by omega))
  have loop : ∀ (n j : Nat) (c : Int) (N' : Nm), dS d a - j = n → j ≤ dS d a → c = j → FrX 18 18 N N' → SpX N' (l ++ sgL d a j) w → AW K YX6_writeSegments hX6_writeSegments (qV Pq) 2 [some (vr 18 0), some (vr 20 r), some (vi a), some (vi c)] [] N' g := by
    intro n
    induction n using Nat.strongRecOn with
    | _ n ih =>
      intro j c N' e hj hc hF hSp
      subst hc
      have sl := sg_len d a j
      have t66 : ∀ N2 l2, j < dS d a → FrX 18 18 N N2 → SpX N2 l2 w → l2.length ≤ 400 → (l2 ++ dg1000 (dL d a j) = l ++ sgL d a (j + 1)) → AW K YX6_writeSegments hX6_writeSegments (qV Pq) 66 [some (vr 18 0), some (vr 20 r), some (vi a), some (vi j)] [] N2 g := by
        intro N2 l2 hj1 f2 s2 hl2 he
        have bd := hSS.2.2.2.2 j hj1
        refine ld_a0 iX6_writeSegments_66 ?_
        refine ld_a1 iX6_writeSegments_67 ?_
        refine gf_X5_slopes kFX6_61 iX6_writeSegments_68 ?_
        refine ld_i2 iX6_writeSegments_71 ?_
        refine al_32 rfl (by omega) iX6_writeSegments_72 ?_
        refine ld_i3 iX6_writeSegments_73 ?_
        refine al_33 rfl (by omega) iX6_writeSegments_74 ?_
        rw [(((rul N2 f2).2.2.2.1 a ha).2.2 j hj1).2.2]
        refine xX6_writeNumber kMX6_55 iX6_writeSegments_75 (by decide) (Nat.le_of_ble_eq_true rfl) rfl rfl ?_
        refine c_writeNumber s2 (by omega) rw' (by omega) (fun N3 e1 e2 => ?_)
        refine inc_3 (by decide) rfl iX6_writeSegments_78 ?_
        refine r_goto iX6_writeSegments_81 ?_
        exact ih (dS d a - (j + 1)) (by omega) (j + 1) _ N3 rfl (by omega) (by omega) (f2.tr e1) (by rw [← he]; exact e2)
      refine ld_i3 iX6_writeSegments_2 ?_
      refine ld_a1 iX6_writeSegments_3 ?_
      refine gf_X5_segmentCounts kFX6_49 iX6_writeSegments_4 ?_
      refine ld_i2 iX6_writeSegments_7 ?_
      refine al_27 rfl (by omega) iX6_writeSegments_8 ?_
      rw [((rul N' hF).2.2.2.1 a ha).2.1]
      refine r_icmpge iX6_writeSegments_9 (by omega) (by omega) (fun h9 => ?_) (fun h9 => ?_)
      · refine t_void rfl iX6_writeSegments_84 ?_
        have e : j = dS d a := by omega
        rw [e] at hSp; exact hq N' hF hSp
      · have hj1 : j < dS d a := by omega
        have bd := hSS.2.2.2.2 j hj1
        have l1 := dg_len (dF d a j)
        have l2 := dg_len (dE d a j)
        refine ld_a0 iX6_writeSegments_12 ?_
        refine r_bipush (by decide) iX6_writeSegments_13 ?_
        refine xX6_put kMX6_21 iX6_writeSegments_15 (by decide) (Nat.le_of_ble_eq_true rfl) rfl rfl ?_
        refine c_put hSp (by simp; omega) rw' (fun N3 e1 e2 => ?_)
        have hF3 := hF.tr e1
        refine ld_a0 iX6_writeSegments_18 ?_
        refine ld_a1 iX6_writeSegments_19 ?_
        refine gf_X5_froms kFX6_52 iX6_writeSegments_20 ?_
        refine ld_i2 iX6_writeSegments_23 ?_
        refine al_28 rfl (by omega) iX6_writeSegments_24 ?_
        refine ld_i3 iX6_writeSegments_25 ?_
        refine al_29 rfl (by omega) iX6_writeSegments_26 ?_
        rw [(((rul N3 hF3).2.2.2.1 a ha).2.2 j hj1).1]
        refine xX6_writeNumber kMX6_55 iX6_writeSegments_27 (by decide) (Nat.le_of_ble_eq_true rfl) rfl rfl ?_
        refine c_writeNumber e2 (by simp; omega) rw' (by omega) (fun N4 e3 e4 => ?_)
        have hF4 := hF3.tr e3
        refine ld_a0 iX6_writeSegments_30 ?_
        refine r_bipush (by decide) iX6_writeSegments_31 ?_
        refine xX6_put kMX6_21 iX6_writeSegments_33 (by decide) (Nat.le_of_ble_eq_true rfl) rfl rfl ?_
        refine c_put e4 (by simp; omega) rw' (fun N5 e5 e6 => ?_)
        have hF5 := hF4.tr e5
        refine ld_a1 iX6_writeSegments_36 ?_
        refine gf_X5_ats kFX6_58 iX6_writeSegments_37 ?_
        refine ld_i2 iX6_writeSegments_40 ?_
        refine al_30 rfl (by omega) iX6_writeSegments_41 ?_
        refine ld_i3 iX6_writeSegments_42 ?_
        refine al_31 rfl (by omega) iX6_writeSegments_43 ?_
        rw [(((rul N5 hF5).2.2.2.1 a ha).2.2 j hj1).2.1]
        refine r_iconst iX6_writeSegments_44 ?_
        refine r_icmpeq iX6_writeSegments_45 (by omega) (by omega) (fun h45 => ?_) (fun h45 => ?_)
        · first
            | exact t66 N7 _ hj1 hF7 e10 (by simp; omega) (by rw [sgL, if_neg (by omega)]; simp)
            | exact t66 N5 _ hj1 hF5 e6 (by simp; omega) (by rw [sgL, if_pos (by omega)]; simp)
        · refine ld_a0 iX6_writeSegments_48 ?_
          refine ld_a1 iX6_writeSegments_49 ?_
          refine gf_X5_ats kFX6_58 iX6_writeSegments_50 ?_
          refine ld_i2 iX6_writeSegments_53 ?_
          refine al_30 rfl (by omega) iX6_writeSegments_54 ?_
          refine ld_i3 iX6_writeSegments_55 ?_
          refine al_31 rfl (by omega) iX6_writeSegments_56 ?_
          rw [(((rul N5 hF5).2.2.2.1 a ha).2.2 j hj1).2.1]
          refine xX6_writeNumber kMX6_55 iX6_writeSegments_57 (by decide) (Nat.le_of_ble_eq_true rfl) rfl rfl ?_
          refine c_writeNumber e6 (by simp; omega) rw' (by omega) (fun N6 e7 e8 => ?_)
          have hF6 := hF5.tr e7
          refine ld_a0 iX6_writeSegments_60 ?_
          refine r_bipush (by decide) iX6_writeSegments_61 ?_
          refine xX6_put kMX6_21 iX6_writeSegments_63 (by decide) (Nat.le_of_ble_eq_true rfl) rfl rfl ?_
          refine c_put e8 (by simp; omega) rw' (fun N7 e9 e10 => ?_)
          have hF7 := hF6.tr e9
          first
            | exact t66 N7 _ hj1 hF7 e10 (by simp; omega) (by rw [sgL, if_neg (by omega)]; simp)
            | exact t66 N5 _ hj1 hF5 e6 (by simp; omega) (by rw [sgL, if_pos (by omega)]; simp)
  refine r_iconst iX6_writeSegments_0 ?_
  refine sv_i3 (by decide) rfl iX6_writeSegments_1 ?_
  exact loop (dS d a) 0 _ N (by omega) (by omega) (by omega) (FrX.rf _ _ _) (by simpa [sgL] using hS)
theorem c_write {a : Nat} {Pq : Int → Nm → Ge → Prop} (hR : RuI N r d) (hW : WD d) (ha : a < dA d ∨ a = 6) (rw' : rI w) (hq : ∀ N', FrX 18 18 N N' → Pq (if w = -1 then ((txt d a).length : Int) else gt' (txt d a) w) N' g) : Ck K YX6_write hX6_write [vr 18 0, vr 20 r, vi a, vi w] N g (qI Pq) := by
  have hA := hW.1
  have hT6 : dT d a ≤ 6 := by
    rcases ha with q | q
    · exact (hW.2.2.1 a q).2.1.2.1
    · rw [q]; exact hW.2.2.2.2.1
  have tl := tm_len d a (dT d a)
  refine Ck.intro 0 (by decide) rfl ?_
  show AW _ _ _ _ _ [some (vr 18 0), some (vr 20 r), some (vi a), some (vi w)] _ _ _
  have rul : ∀ N2, FrX 18 18 N N2 → RuI N2 r d := fun N2 f => hR.of (fun k x j q1 q2 => f k x j (by omega))
  have fin : ∀ N2, FrX 18 18 N N2 → SpX N2 (txt d a) w → AW K YX6_write hX6_write (qI Pq) 58 [some (vr 18 0), some (vr 20 r), some (vi a), some (vi w)] [] N2 g := by
    intro N2 f2 s2
    have hq := hq N2 f2
    refine ld_i3 iX6_write_58 ?_
    refine r_iconst iX6_write_59 ?_
    refine r_icmpne iX6_write_60 (by omega) (by omega) (fun h60 => ?_) (fun h60 => ?_)
    · refine ld_a0 iX6_write_70 ?_
      refine gf_X6_found kFX6_18 iX6_write_71 ?_
      rw [s2.2.2]
      refine t_int rfl iX6_write_74 ?_
      first
        | (rw [if_pos (by omega)] at hq; exact hq)
        | (rw [if_neg (by omega)] at hq; exact hq)
    · refine ld_a0 iX6_write_63 ?_
      refine gf_X6_written kFX6_9 iX6_write_64 ?_
      rw [s2.1]
      refine r_goto iX6_write_67 ?_
      refine t_int rfl iX6_write_74 ?_
      first
        | (rw [if_pos (by omega)] at hq; exact hq)
        | (rw [if_neg (by omega)] at hq; exact hq)
  have t31 : ∀ (N1 : Nm) (c : Int), c = (if a = 6 then 110 else 97 + (a : Int)) → FrX 18 18 N N1 → SpX N1 [] w → AW K YX6_write hX6_write (qI Pq) 31 [some (vr 18 0), some (vr 20 r), some (vi a), some (vi w)] [vi c, vr 18 0] N1 g := by
    intro N1 c hc f1 s1
    subst hc
    refine xX6_put kMX6_21 iX6_write_31 (by decide) (Nat.le_of_ble_eq_true rfl) rfl rfl ?_
    refine c_put s1 (by simp) rw' (fun N2 e1 e2 => ?_)
    refine ld_a0 iX6_write_34 ?_
    refine r_bipush (by decide) iX6_write_35 ?_
    refine xX6_put kMX6_21 iX6_write_37 (by decide) (Nat.le_of_ble_eq_true rfl) rfl rfl ?_
    refine c_put e2 (by simp) rw' (fun N3 e3 e4 => ?_)
    have f3 := (f1.tr e1).tr e3
    refine ld_a0 iX6_write_40 ?_
    refine ld_a1 iX6_write_41 ?_
    refine ld_i2 iX6_write_42 ?_
    refine xX6_writeTerms kMX6_25 iX6_write_43 (by decide) (Nat.le_of_ble_eq_true rfl) rfl rfl ?_
    refine c_writeTerms (rul N3 f3) hW ha e4 (by simp) rw' (fun N4 e5 e6 => ?_)
    have f4 := f3.tr e5
    refine ld_i2 iX6_write_46 ?_
    refine r_bipush (by decide) iX6_write_47 ?_
    refine r_icmpeq iX6_write_49 (by omega) (by omega) (fun h49 => ?_) (fun h49 => ?_)
    · first
        | exact fin N4 f4 (by unfold txt; rw [if_pos (show a = 6 by omega)] at e6 ⊢; rw [if_pos (show a = 6 by omega)]; simpa using e6)
        | exact fin N5 (f4.tr e7) (by unfold txt; rw [if_neg (show ¬ a = 6 by omega)] at e8 ⊢; rw [if_neg (show ¬ a = 6 by omega)]; simpa using e8)
    · refine ld_a0 iX6_write_52 ?_
      refine ld_a1 iX6_write_53 ?_
      refine ld_i2 iX6_write_54 ?_
      refine xX6_writeSegments kMX6_29 iX6_write_55 (by decide) (Nat.le_of_ble_eq_true rfl) rfl rfl ?_
      refine c_writeSegments (rul N4 f4) hW (by omega) e6 (by simp; omega) rw' (fun N5 e7 e8 => ?_)
      first
        | exact fin N4 f4 (by unfold txt; rw [if_pos (show a = 6 by omega)] at e6 ⊢; rw [if_pos (show a = 6 by omega)]; simpa using e6)
        | exact fin N5 (f4.tr e7) (by unfold txt; rw [if_neg (show ¬ a = 6 by omega)] at e8 ⊢; rw [if_neg (show ¬ a = 6 by omega)]; simpa using e8)
  refine ld_a0 iX6_write_0 ?_
  refine r_iconst iX6_write_1 ?_
  refine pf_X6_written kFX6_9 iX6_write_2 ?_
  refine ld_a0 iX6_write_5 ?_
  refine ld_i3 iX6_write_6 ?_
  refine pf_X6_wanted kFX6_15 iX6_write_7 ?_
  refine ld_a0 iX6_write_10 ?_
  refine r_iconst iX6_write_11 ?_
  refine pf_X6_found kFX6_18 iX6_write_12 ?_
  refine ld_a0 iX6_write_15 ?_
  refine ld_i2 iX6_write_16 ?_
  refine r_bipush (by decide) iX6_write_17 ?_
  refine r_icmpne iX6_write_19 (by omega) (by omega) (fun h19 => ?_) (fun h19 => ?_)
  · refine r_bipush (by decide) iX6_write_27 ?_
    refine ld_i2 iX6_write_29 ?_
    refine r_iadd iX6_write_30 ?_
    refine t31 _ _ ?_ ((((FrX.rf _ _ N).up (by omega)).up (by omega)).up (by omega)) ⟨by rw [upN_j (by decide), upN_j (by decide), upN_eq]; rfl, by rw [upN_j (by decide), upN_eq], ?_⟩
    · first
      | rw [if_pos (by omega)]
      | rw [if_neg (by omega)]
    · rw [upN_eq]; unfold gt'; split <;> simp
  · refine r_bipush (by decide) iX6_write_22 ?_
    refine r_goto iX6_write_24 ?_
    refine t31 _ _ ?_ ((((FrX.rf _ _ N).up (by omega)).up (by omega)).up (by omega)) ⟨by rw [upN_j (by decide), upN_j (by decide), upN_eq]; rfl, by rw [upN_j (by decide), upN_eq], ?_⟩
    · first
      | rw [if_pos (by omega)]
      | rw [if_neg (by omega)]
    · rw [upN_eq]; unfold gt'; split <;> simp
theorem x_spell {a i : Int} {Pq : Int → Nm → Ge → Prop} (hX : XS N g d) (ra : rI a) (ri : rI i) (hq1 : N 0 0 9 = 1 ∧ (-1 ≤ a ∧ a < dA d) ∧ -1 ≤ i → ∀ N', FrX 18 18 N N' → XS N' g d → Pq (if i = -1 then ((txt d (rwo a)).length : Int) else gt' (txt d (rwo a)) i) N' g) (hq0 : ¬ (N 0 0 9 = 1 ∧ (-1 ≤ a ∧ a < dA d) ∧ -1 ≤ i) → Pq (-1) N g) : Ck K YX9_spell hX9_spell [vr 0 0, vi a, vi i] N g (qI Pq) := by
  refine Ck.intro 0 (by decide) rfl ?_
  show AW _ _ _ _ _ [some (vr 0 0), some (vi a), some (vi i)] _ _ _
  refine ld_a0 iX9_spell_0 ?_
  refine ld_i1 iX9_spell_1 ?_
  refine xX9_isLine kMX9_149 iX9_spell_2 (by decide) (Nat.le_of_ble_eq_true rfl) rfl rfl ?_
  refine c_xisLine hX ra ?_
  refine r_ifeq iX9_spell_5 (by exact tf_r _) (fun h5 => ?_) (fun h5 => ?_)
  · have h5 := tf_n h5
    refine r_iconst iX9_spell_32 ?_
    refine t_int rfl iX9_spell_33 ?_
    first
      | exact hq0 (by omega)
      | exact hq1 ⟨h5.1, h5.2, by omega⟩ N2 e1 (hX.of (fun k i j q => e1 k i j (by omega)))
  · have h5 := tf_y h5
    obtain ⟨hW, hR, -⟩ := hX.2.2 h5.1
    refine ld_i2 iX9_spell_8 ?_
    refine r_iconst iX9_spell_9 ?_
    refine r_icmplt iX9_spell_10 (by omega) (by omega) (fun h10 => ?_) (fun h10 => ?_)
    · refine r_iconst iX9_spell_32 ?_
      refine t_int rfl iX9_spell_33 ?_
      first
        | exact hq0 (by omega)
        | exact hq1 ⟨h5.1, h5.2, by omega⟩ N2 e1 (hX.of (fun k i j q => e1 k i j (by omega)))
    · refine ld_a0 iX9_spell_13 ?_
      refine gf_X9_speller kFX9_47 iX9_spell_14 ?_
      refine ld_a0 iX9_spell_17 ?_
      refine gf_X9_rules kFX9_58 iX9_spell_18 ?_
      refine ld_i1 iX9_spell_21 ?_
      refine xX9_rowOf kMX9_165 iX9_spell_22 (by decide) (Nat.le_of_ble_eq_true rfl) rfl rfl ?_
      refine c_rowOf ra (by omega) ?_
      refine ld_i2 iX9_spell_25 ?_
      refine xX6_write kMX9_328 iX9_spell_26 (by decide) (Nat.le_of_ble_eq_true rfl) rfl rfl ?_
      refine c_write hR hW (rwo_ok h5.2) ri (fun N2 e1 => ?_)
      refine r_goto iX9_spell_29 ?_
      refine t_int rfl iX9_spell_33 ?_
      first
        | exact hq0 (by omega)
        | exact hq1 ⟨h5.1, h5.2, by omega⟩ N2 e1 (hX.of (fun k i j q => e1 k i j (by omega)))
end Spell7
