/-! own text: what the reference answers: pieces, searches -/
section MAsk4
variable {K : Kx} {N : Nm} {g : Ge} {d : Dk}
theorem m_jumps {a : Int} {Pq : Int → Nm → Ge → Prop} (hM : MS N d) (ra : rI a) (hq1 : N 40 0 22 = 1 ∧ (-1 ≤ a ∧ a < dA d) → ∀ P s, Ps (LF d (dB d) (rwo a)) P s → ∀ N', FrV N N' → Pq (ct (jmS (LF d (dB d) (rwo a)) s) P) N' g) (hq0 : ¬ (N 40 0 22 = 1 ∧ (-1 ≤ a ∧ a < dA d)) → ∀ N', FrV N N' → Pq (-1) N' g) : Ck K YX10_jumps hX10_jumps [vr 40 0, vi a] N g (qI Pq) := by
  refine Ck.intro 5 (by decide) rfl ?_
  show AW _ _ _ _ _ [some (vr 40 0), some (vi a), none, none, none, none, none] _ _ _
  have loop : ∀ N2 P s, N 40 0 22 = 1 ∧ (-1 ≤ a ∧ a < dA d) → FrV N N2 → La N2 (LF d (dB d) (rwo a)) → Lp N2 P s → Ps (LF d (dB d) (rwo a)) P s → ∀ (n p : Nat) (t c : Int), P - p = n → 1 ≤ p → p ≤ P → c = p → t = ct (jmS (LF d (dB d) (rwo a)) s) p → AW K YX10_jumps hX10_jumps (qI Pq) 24 [some (vr 40 0), some (vi a), some (vi t), some (vi c), none, none, none] [] N2 g := by
    intro N2 P s h1 f1 hL hP hs n
    have hPl := hs.P_le
    induction n using Nat.strongRecOn with
    | _ n ih =>
      intro p t c e h0 hp hc ht
      subst hc
      have tl : ∀ z : Int, p < P → z = (if jmS (LF d (dB d) (rwo a)) s p then 1 else 0) → ∀ x y : Int, AW K YX10_jumps hX10_jumps (qI Pq) 95 [some (vr 40 0), some (vi a), some (vi t), some (vi p), some (vi x), some (vl y), none] [vi z, vi t] N2 g := by
        intro z hpP hz x y
        refine r_iadd iX10_jumps_95 ?_
        refine sv_i2 (by decide) rfl iX10_jumps_96 ?_
        refine inc_3 (by decide) rfl iX10_jumps_97 ?_
        refine r_goto iX10_jumps_100 ?_
        refine fg_4 (fg_5 ?_)
        refine ih (P - (p + 1)) (by omega) (p + 1) _ _ rfl (by omega) (by omega) (by omega) ?_
        rw [ct, ht, hz]
        split <;> simp
      refine ld_i3 iX10_jumps_24 ?_
      refine ld_a0 iX10_jumps_25 ?_
      refine gf_X10_pieces kFX10_222 iX10_jumps_26 ?_
      rw [hP.1]
      refine r_icmpge iX10_jumps_29 (by omega) (by omega) (fun h29 => ?_) (fun h29 => ?_)
      · refine ld_i2 iX10_jumps_103 ?_
        refine t_int rfl iX10_jumps_104 ?_
        have e : p = P := by omega
        rw [ht, e]; exact hq1 h1 P s hs N2 f1
      · have hp0 := hP.2 p (by omega)
        have hp1 := hP.2 (p - 1) (by omega)
        have t0 := hs.lt (show p < P by omega)
        have t1 := hs.lt (show p - 1 < P by omega)
        have tp := hs.le p (by omega) 0 (by omega)
        have s0 := stp_bd hL.bd t0
        have s1 := stp_bd hL.bd t1
        have b0 := hL (s p) t0
        have b1 := hL (s p - 1) (by omega)
        refine ld_a0 iX10_jumps_32 ?_
        refine gf_X10_pieceFrom kFX10_66 iX10_jumps_33 ?_
        refine ld_i3 iX10_jumps_36 ?_
        refine al_58 rfl (by omega) iX10_jumps_37 ?_
        rw [hp0]
        refine sv_i4 (by decide) rfl iX10_jumps_38 ?_
        refine ld_a0 iX10_jumps_40 ?_
        refine gf_X10_line kFX10_63 iX10_jumps_41 ?_
        refine ld_i4 iX10_jumps_44 ?_
        refine al_57 rfl (by omega) iX10_jumps_46 ?_
        rw [b0.1]
        refine ld_a0 iX10_jumps_47 ?_
        refine gf_X10_line kFX10_63 iX10_jumps_48 ?_
        refine ld_i4 iX10_jumps_51 ?_
        refine r_iconst iX10_jumps_53 ?_
        refine r_isub iX10_jumps_54 ?_
        refine al_57 (n := (s p - 1)) (by omega) (by omega) iX10_jumps_55 ?_
        rw [b1.1]
        refine r_lsub iX10_jumps_56 ?_
        refine sv_l5 (by decide) rfl iX10_jumps_57 ?_
        refine ld_i2 iX10_jumps_59 ?_
        refine ld_l5 iX10_jumps_60 ?_
        refine ld_a0 iX10_jumps_62 ?_
        refine ld_a0 iX10_jumps_63 ?_
        refine gf_X10_pieceFrom kFX10_66 iX10_jumps_64 ?_
        refine ld_i3 iX10_jumps_67 ?_
        refine r_iconst iX10_jumps_68 ?_
        refine r_isub iX10_jumps_69 ?_
        refine al_58 (n := (p - 1)) (by omega) (by omega) iX10_jumps_70 ?_
        rw [hp1]
        refine xX10_step kMX10_225 iX10_jumps_71 (by decide) (Nat.le_of_ble_eq_true rfl) rfl rfl ?_
        refine c_step hL t1 ?_
        refine r_lceq iX10_jumps_74 iX10_jumps_75 (by omega) (by omega) (fun h74 => ?_) (fun h74 => ?_)
        · refine r_iconst iX10_jumps_94 ?_
          refine tl _ (by omega) ?_ _ _
          unfold jmS
          first
            | rw [if_pos (decide_eq_true ⟨by omega, by omega, by omega⟩)]
            | rw [if_neg (by simp only [decide_eq_true_eq]; omega)]
        · refine ld_l5 iX10_jumps_78 ?_
          refine ld_a0 iX10_jumps_80 ?_
          refine ld_i4 iX10_jumps_81 ?_
          refine xX10_step kMX10_225 iX10_jumps_83 (by decide) (Nat.le_of_ble_eq_true rfl) rfl rfl ?_
          refine c_step hL t0 ?_
          refine r_lceq iX10_jumps_86 iX10_jumps_87 (by omega) (by omega) (fun h86 => ?_) (fun h86 => ?_)
          · refine r_iconst iX10_jumps_94 ?_
            refine tl _ (by omega) ?_ _ _
            unfold jmS
            first
              | rw [if_pos (decide_eq_true ⟨by omega, by omega, by omega⟩)]
              | rw [if_neg (by simp only [decide_eq_true_eq]; omega)]
          · refine r_iconst iX10_jumps_90 ?_
            refine r_goto iX10_jumps_91 ?_
            refine tl _ (by omega) ?_ _ _
            unfold jmS
            first
              | rw [if_pos (decide_eq_true ⟨by omega, by omega, by omega⟩)]
              | rw [if_neg (by simp only [decide_eq_true_eq]; omega)]
  refine ld_a0 iX10_jumps_0 ?_
  refine r_iconst iX10_jumps_1 ?_
  refine pf_X10_thrown kFX10_72 iX10_jumps_2 ?_
  obtain ⟨N1, hN1, f0⟩ : ∃ N1, N1 = upN N 40 0 0 0 ∧ FrV N N1 := ⟨_, rfl, thr_v N⟩
  rw [← hN1]
  clear hN1
  have hM1 := hM.v f0
  have h22 : N1 40 0 22 = N 40 0 22 := f0 40 0 22 (by omega) (by omega)
  have h01 := hM1.1
  refine ld_a0 iX10_jumps_5 ?_
  refine ld_i1 iX10_jumps_6 ?_
  refine xX10_isLine kMX10_248 iX10_jumps_7 (by decide) (Nat.le_of_ble_eq_true rfl) rfl rfl ?_
  refine c_mIsLine hM1 ra ?_
  refine r_ifne iX10_jumps_10 (by exact tf_r _) (fun h10 => ?_) (fun h10 => ?_)
  · have h10 := tf_y h10
    refine ld_a0 iX10_jumps_15 ?_
    refine ld_i1 iX10_jumps_16 ?_
    refine xX10_laysPieces kMX10_228 iX10_jumps_17 (by decide) (Nat.le_of_ble_eq_true rfl) rfl rfl ?_
    refine c_laysPieces hM1 h10.1 h10.2 (fun N2 P s e1 e2 e3 e4 => ?_)
    refine r_iconst iX10_jumps_20 ?_
    refine sv_i2 (by decide) rfl iX10_jumps_21 ?_
    refine r_iconst iX10_jumps_22 ?_
    refine sv_i3 (by decide) rfl iX10_jumps_23 ?_
    exact loop N2 P s ⟨by omega, h10.2⟩ (f0.tr e1) e2 e3 e4 (P - 1) 1 _ _ rfl (by omega) e4.1 (by omega) (by rw [ct, ct, show jmS (LF d (dB d) (rwo a)) s 0 = false from decide_eq_false (fun q => by omega)]; rfl)
  · have h10 := tf_n h10
    refine r_iconst iX10_jumps_13 ?_
    refine t_int rfl iX10_jumps_14 ?_
    exact hq0 (by omega) _ f0
theorem m_kinks {a what : Int} {Pq : Int → Nm → Ge → Prop} (hM : MS N d) (ra : rI a) (rw' : rI what) (hq1 : N 40 0 22 = 1 ∧ (-1 ≤ a ∧ a < dA d) ∧ (what = 0 ∨ what = 1) → ∀ P s, Ps (LF d (dB d) (rwo a)) P s → ∀ N', FrV N N' → Pq (ct (knS (LF d (dB d) (rwo a)) s (decide (what = 0))) P) N' g) (hq0 : ¬ (N 40 0 22 = 1 ∧ (-1 ≤ a ∧ a < dA d) ∧ (what = 0 ∨ what = 1)) → ∀ N', FrV N N' → Pq (-1) N' g) : Ck K YX10_kinks hX10_kinks [vr 40 0, vi a, vi what] N g (qI Pq) := by
  refine Ck.intro 4 (by decide) rfl ?_
  show AW _ _ _ _ _ [some (vr 40 0), some (vi a), some (vi what), none, none, none, none] _ _ _
  have loop : ∀ N2 P s, N 40 0 22 = 1 ∧ (-1 ≤ a ∧ a < dA d) ∧ (what = 0 ∨ what = 1) → FrV N N2 → La N2 (LF d (dB d) (rwo a)) → Lp N2 P s → Ps (LF d (dB d) (rwo a)) P s → ∀ (n p : Nat) (t c : Int), P - p = n → 1 ≤ p → p ≤ P → c = p → t = ct (knS (LF d (dB d) (rwo a)) s (decide (what = 0))) p → AW K YX10_kinks hX10_kinks (qI Pq) 35 [some (vr 40 0), some (vi a), some (vi what), some (vi t), some (vi c), none, none] [] N2 g := by
    intro N2 P s h1 f1 hL hP hs n
    have hPl := hs.P_le
    induction n using Nat.strongRecOn with
    | _ n ih =>
      intro p t c e h0 hp hc ht
      subst hc
      have tl : ∀ z : Int, p < P → z = (if knS (LF d (dB d) (rwo a)) s (decide (what = 0)) p then 1 else 0) → ∀ y : Int, AW K YX10_kinks hX10_kinks (qI Pq) 98 [some (vr 40 0), some (vi a), some (vi what), some (vi t), some (vi p), some (vl y), none] [vi z, vi t] N2 g := by
        intro z hpP hz y
        refine r_iadd iX10_kinks_98 ?_
        refine sv_i3 (by decide) rfl iX10_kinks_99 ?_
        refine inc_4 (by decide) rfl iX10_kinks_100 ?_
        refine r_goto iX10_kinks_103 ?_
        refine fg_5 ?_
        refine ih (P - (p + 1)) (by omega) (p + 1) _ _ rfl (by omega) (by omega) (by omega) ?_
        rw [ct, ht, hz]
        split <;> simp
      refine ld_i4 iX10_kinks_35 ?_
      refine ld_a0 iX10_kinks_37 ?_
      refine gf_X10_pieces kFX10_222 iX10_kinks_38 ?_
      rw [hP.1]
      refine r_icmpge iX10_kinks_41 (by omega) (by omega) (fun h41 => ?_) (fun h41 => ?_)
      · refine ld_i3 iX10_kinks_106 ?_
        refine t_int rfl iX10_kinks_107 ?_
        have e : p = P := by omega
        rw [ht, e]; exact hq1 h1 P s hs N2 f1
      · have hp0 := hP.2 p (by omega)
        have hp1 := hP.2 (p - 1) (by omega)
        have t0 := hs.lt (show p < P by omega)
        have t1 := hs.lt (show p - 1 < P by omega)
        have s0 := stp_bd hL.bd t0
        have s1 := stp_bd hL.bd t1
        refine ld_a0 iX10_kinks_44 ?_
        refine ld_a0 iX10_kinks_45 ?_
        refine gf_X10_pieceFrom kFX10_66 iX10_kinks_46 ?_
        refine ld_i4 iX10_kinks_49 ?_
        refine al_58 rfl (by omega) iX10_kinks_51 ?_
        rw [hp0]
        refine xX10_step kMX10_225 iX10_kinks_52 (by decide) (Nat.le_of_ble_eq_true rfl) rfl rfl ?_
        refine c_step hL t0 ?_
        refine ld_a0 iX10_kinks_55 ?_
        refine ld_a0 iX10_kinks_56 ?_
        refine gf_X10_pieceFrom kFX10_66 iX10_kinks_57 ?_
        refine ld_i4 iX10_kinks_60 ?_
        refine r_iconst iX10_kinks_62 ?_
        refine r_isub iX10_kinks_63 ?_
        refine al_58 (n := (p - 1)) (by omega) (by omega) iX10_kinks_64 ?_
        rw [hp1]
        refine xX10_step kMX10_225 iX10_kinks_65 (by decide) (Nat.le_of_ble_eq_true rfl) rfl rfl ?_
        refine c_step hL t1 ?_
        refine r_lsub iX10_kinks_68 ?_
        refine sv_l5 (by decide) rfl iX10_kinks_69 ?_
        refine ld_i3 iX10_kinks_71 ?_
        refine ld_i2 iX10_kinks_72 ?_
        refine r_ifne iX10_kinks_73 (by omega) (fun h73 => ?_) (fun h73 => ?_)
        · refine ld_l5 iX10_kinks_86 ?_
          refine r_lconst (v := 0) (by decide) iX10_kinks_88 ?_
          refine r_lcge iX10_kinks_89 iX10_kinks_90 (by omega) (by omega) (fun h89 => ?_) (fun h89 => ?_)
          · refine r_iconst iX10_kinks_97 ?_
            refine tl _ (by omega) ?_ _
            unfold knS
            first
              | rw [if_pos (decide_eq_true ⟨by omega, by rw [if_pos (decide_eq_true h73)]; omega⟩)]
              | rw [if_pos (decide_eq_true ⟨by omega, by rw [if_neg (by simpa using h73)]; omega⟩)]
              | (rw [if_neg]; simp only [decide_eq_true_eq]; intro q; have q := q.2; rw [if_pos h73] at q; omega)
              | (rw [if_neg]; simp only [decide_eq_true_eq]; intro q; have q := q.2; rw [if_neg h73] at q; omega)
          · refine r_iconst iX10_kinks_93 ?_
            refine r_goto iX10_kinks_94 ?_
            refine tl _ (by omega) ?_ _
            unfold knS
            first
              | rw [if_pos (decide_eq_true ⟨by omega, by rw [if_pos (decide_eq_true h73)]; omega⟩)]
              | rw [if_pos (decide_eq_true ⟨by omega, by rw [if_neg (by simpa using h73)]; omega⟩)]
              | (rw [if_neg]; simp only [decide_eq_true_eq]; intro q; have q := q.2; rw [if_pos h73] at q; omega)
              | (rw [if_neg]; simp only [decide_eq_true_eq]; intro q; have q := q.2; rw [if_neg h73] at q; omega)
        · refine ld_l5 iX10_kinks_76 ?_
          refine r_lconst (v := 0) (by decide) iX10_kinks_78 ?_
          refine r_lcle iX10_kinks_79 iX10_kinks_80 (by omega) (by omega) (fun h79 => ?_) (fun h79 => ?_)
          · refine r_iconst iX10_kinks_97 ?_
            refine tl _ (by omega) ?_ _
            unfold knS
            first
              | rw [if_pos (decide_eq_true ⟨by omega, by rw [if_pos (decide_eq_true h73)]; omega⟩)]
              | rw [if_pos (decide_eq_true ⟨by omega, by rw [if_neg (by simpa using h73)]; omega⟩)]
              | (rw [if_neg]; simp only [decide_eq_true_eq]; intro q; have q := q.2; rw [if_pos h73] at q; omega)
              | (rw [if_neg]; simp only [decide_eq_true_eq]; intro q; have q := q.2; rw [if_neg h73] at q; omega)
          · refine r_goto iX10_kinks_83 ?_
            refine r_iconst iX10_kinks_93 ?_
            refine r_goto iX10_kinks_94 ?_
            refine tl _ (by omega) ?_ _
            unfold knS
            first
              | rw [if_pos (decide_eq_true ⟨by omega, by rw [if_pos (decide_eq_true h73)]; omega⟩)]
              | rw [if_pos (decide_eq_true ⟨by omega, by rw [if_neg (by simpa using h73)]; omega⟩)]
              | (rw [if_neg]; simp only [decide_eq_true_eq]; intro q; have q := q.2; rw [if_pos h73] at q; omega)
              | (rw [if_neg]; simp only [decide_eq_true_eq]; intro q; have q := q.2; rw [if_neg h73] at q; omega)
  refine ld_a0 iX10_kinks_0 ?_
  refine r_iconst iX10_kinks_1 ?_
  refine pf_X10_thrown kFX10_72 iX10_kinks_2 ?_
  obtain ⟨N1, hN1, f0⟩ : ∃ N1, N1 = upN N 40 0 0 0 ∧ FrV N N1 := ⟨_, rfl, thr_v N⟩
  rw [← hN1]
  clear hN1
  have hM1 := hM.v f0
  have h22 : N1 40 0 22 = N 40 0 22 := f0 40 0 22 (by omega) (by omega)
  have h01 := hM1.1
  refine ld_a0 iX10_kinks_5 ?_
  refine ld_i1 iX10_kinks_6 ?_
  refine xX10_isLine kMX10_248 iX10_kinks_7 (by decide) (Nat.le_of_ble_eq_true rfl) rfl rfl ?_
  refine c_mIsLine hM1 ra ?_
  refine r_ifeq iX10_kinks_10 (by exact tf_r _) (fun h10 => ?_) (fun h10 => ?_)
  · have h10 := tf_n h10
    refine r_iconst iX10_kinks_23 ?_
    refine t_int rfl iX10_kinks_24 ?_
    exact hq0 (by omega) _ f0
  · have h10 := tf_y h10
    refine ld_i2 iX10_kinks_13 ?_
    refine r_i2l (by omega) iX10_kinks_14 ?_
    refine r_lconst (v := 0) (by decide) iX10_kinks_15 ?_
    refine r_lconst (v := 1) (by decide) iX10_kinks_16 ?_
    refine xX10_in kMX10_82 iX10_kinks_17 (by decide) (Nat.le_of_ble_eq_true rfl) rfl rfl ?_
    refine c_in (by omega) (by omega) (by omega) ?_
    refine r_ifne iX10_kinks_20 (by exact tf_r _) (fun h20 => ?_) (fun h20 => ?_)
    · have h20 := tf_y h20
      refine ld_a0 iX10_kinks_25 ?_
      refine ld_i1 iX10_kinks_26 ?_
      refine xX10_laysPieces kMX10_228 iX10_kinks_27 (by decide) (Nat.le_of_ble_eq_true rfl) rfl rfl ?_
      refine c_laysPieces hM1 h10.1 h10.2 (fun N2 P s e1 e2 e3 e4 => ?_)
      refine r_iconst iX10_kinks_30 ?_
      refine sv_i3 (by decide) rfl iX10_kinks_31 ?_
      refine r_iconst iX10_kinks_32 ?_
      refine sv_i4 (by decide) rfl iX10_kinks_33 ?_
      exact loop N2 P s ⟨by omega, h10.2, by omega⟩ (f0.tr e1) e2 e3 e4 (P - 1) 1 _ _ rfl (by omega) e4.1 (by omega) (by rw [ct, ct, show knS (LF d (dB d) (rwo a)) s (decide (what = 0)) 0 = false from decide_eq_false (fun q => by omega)]; rfl)
    · have h20 := tf_n h20
      refine r_iconst iX10_kinks_23 ?_
      refine t_int rfl iX10_kinks_24 ?_
      exact hq0 (by omega) _ f0
theorem m_first {a : Int} {Pq : Int → Nm → Ge → Prop} (hM : MS N d) (ra : rI a) (hq1 : N 40 0 22 = 1 ∧ (0 ≤ a ∧ a < dA d) → ∀ r N', Fst (fun w => 1 ≤ LF d (dB d) (rwo a) w) 0 10000 r → FrV N N' → Pq r N' g) (hq0 : ¬ (N 40 0 22 = 1 ∧ (0 ≤ a ∧ a < dA d)) → ∀ N', FrV N N' → Pq (-1) N' g) : Ck K YX10_first hX10_first [vr 40 0, vi a] N g (qI Pq) := by
  refine Ck.intro 1 (by decide) rfl ?_
  show AW _ _ _ _ _ [some (vr 40 0), some (vi a), none] _ _ _
  have loop : N 40 0 22 = 1 ∧ (0 ≤ a ∧ a < dA d) → ∀ (n w : Nat) (c : Int) (N2 : Nm), 10000 - w = n → w ≤ 10000 → c = w → FrV N N2 → (∀ u, u < w → ¬ 1 ≤ LF d (dB d) (rwo a) u) → AW K YX10_first hX10_first (qI Pq) 17 [some (vr 40 0), some (vi a), some (vi c)] [] N2 g := by
    intro h1 n
    have hW := (hM.2.2 h1.1).1
    have hro := rwo_ok (d := d) (of := a) (by omega)
    induction n using Nat.strongRecOn with
    | _ n ih =>
      intro w c N2 e hw hc hF hn
      subst hc
      refine ld_i2 iX10_first_17 ?_
      refine r_sipush (by decide) iX10_first_18 ?_
      refine r_icmpge iX10_first_21 (by omega) (by omega) (fun h21 => ?_) (fun h21 => ?_)
      · refine r_iconst iX10_first_43 ?_
        refine t_int rfl iX10_first_44 ?_
        exact hq1 h1 _ N2 (Or.inl ⟨rfl, fun u _ hu => hn u (by omega)⟩) hF
      · have bb := LF_bd hW hW.2.1 hro w (by omega)
        refine ld_a0 iX10_first_24 ?_
        refine ld_i1 iX10_first_25 ?_
        refine ld_i2 iX10_first_26 ?_
        refine xX10_valueAt kMX10_216 iX10_first_27 (by decide) (Nat.le_of_ble_eq_true rfl) rfl rfl ?_
        refine c_mAt (hM.v hF) (by rw [hF 40 0 22 (by omega) (by omega)]; exact h1.1) (by omega) (by omega) (fun N3 e1 => ?_)
        rw [show ((w : Nat) : Int).toNat = w from rfl]
        refine r_lconst (v := 0) (by decide) iX10_first_30 ?_
        refine r_lcle iX10_first_31 iX10_first_32 (by omega) (by omega) (fun h31 => ?_) (fun h31 => ?_)
        · refine inc_2 (by decide) rfl iX10_first_37 ?_
          refine r_goto iX10_first_40 ?_
          refine ih (10000 - (w + 1)) (by omega) (w + 1) _ _ rfl (by omega) (by omega) (hF.tr (e1.v (by omega) (by omega))) (fun u hu => ?_)
          by_cases eu : u = w
          · rw [eu]; omega
          · exact hn u (by omega)
        · refine ld_i2 iX10_first_35 ?_
          refine t_int rfl iX10_first_36 ?_
          exact hq1 h1 _ N3 (Or.inr ⟨w, rfl, by omega, by omega, by omega, fun u _ hu => hn u hu⟩) (hF.tr (e1.v (by omega) (by omega)))
  refine ld_a0 iX10_first_0 ?_
  refine r_iconst iX10_first_1 ?_
  refine pf_X10_thrown kFX10_72 iX10_first_2 ?_
  obtain ⟨N1, hN1, f0⟩ : ∃ N1, N1 = upN N 40 0 0 0 ∧ FrV N N1 := ⟨_, rfl, thr_v N⟩
  rw [← hN1]
  clear hN1
  have hM1 := hM.v f0
  have h22 : N1 40 0 22 = N 40 0 22 := f0 40 0 22 (by omega) (by omega)
  have h01 := hM1.1
  refine ld_a0 iX10_first_5 ?_
  refine ld_i1 iX10_first_6 ?_
  refine xX10_isAccount kMX10_175 iX10_first_7 (by decide) (Nat.le_of_ble_eq_true rfl) rfl rfl ?_
  refine c_mIsAccount hM1 ra ?_
  refine r_ifne iX10_first_10 (by exact tf_r _) (fun h10 => ?_) (fun h10 => ?_)
  · have h10 := tf_y h10
    refine r_iconst iX10_first_15 ?_
    refine sv_i2 (by decide) rfl iX10_first_16 ?_
    exact loop ⟨by omega, h10.2⟩ 10000 0 _ _ (by omega) (by omega) (by omega) f0 (fun u hu => by omega)
  · have h10 := tf_n h10
    refine r_iconst iX10_first_13 ?_
    refine t_int rfl iX10_first_14 ?_
    exact hq0 (by omega) _ f0
theorem m_raise {w v : Int} {Pq : Int → Nm → Ge → Prop} (hM : MS N d) (rw' : rI w) (rv : rL v) (hq1 : N 40 0 22 = 1 ∧ (0 ≤ w ∧ w ≤ 9999) ∧ 0 ≤ v → ∀ r N', Fst (fun u => v ≤ PD d u - PD d w.toNat) w.toNat 10000 r → FrV N N' → Pq r N' g) (hq0 : ¬ (N 40 0 22 = 1 ∧ (0 ≤ w ∧ w ≤ 9999) ∧ 0 ≤ v) → ∀ N', FrV N N' → Pq (-1) N' g) : Ck K YX10_raise hX10_raise [vr 40 0, vi w, vl v] N g (qI Pq) := by
  refine Ck.intro 3 (by decide) rfl ?_
  show AW _ _ _ _ _ [some (vr 40 0), some (vi w), some (vl v), none, none, none, none] _ _ _
  have loop : N 40 0 22 = 1 ∧ (0 ≤ w ∧ w ≤ 9999) ∧ 0 ≤ v → ∀ (n u : Nat) (c : Int) (N2 : Nm), 10000 - u = n → w.toNat ≤ u → u ≤ 10000 → c = u → FrV N N2 → (∀ x, w.toNat ≤ x → x < u → ¬ v ≤ PD d x - PD d w.toNat) → AW K YX10_raise hX10_raise (qI Pq) 31 [some (vr 40 0), some (vi w), some (vl v), none, some (vl (PD d w.toNat)), none, some (vi c)] [] N2 g := by
    intro h1 n
    have hW := (hM.2.2 h1.1).1
    have b0 : -132000000000000000 ≤ PD d w.toNat ∧ PD d w.toNat ≤ 132000000000000000 := LF_bd hW hW.2.1 (Or.inr rfl) w.toNat (by omega)
    induction n using Nat.strongRecOn with
    | _ n ih =>
      intro u c N2 e hu0 hu hc hF hn
      subst hc
      refine ld_i6 iX10_raise_31 ?_
      refine r_sipush (by decide) iX10_raise_33 ?_
      refine r_icmpge iX10_raise_36 (by omega) (by omega) (fun h36 => ?_) (fun h36 => ?_)
      · refine r_iconst iX10_raise_62 ?_
        refine t_int rfl iX10_raise_63 ?_
        exact hq1 h1 _ N2 (Or.inl ⟨rfl, fun x x1 x2 => hn x x1 (by omega)⟩) hF
      · have bb : -132000000000000000 ≤ PD d u ∧ PD d u ≤ 132000000000000000 := LF_bd hW hW.2.1 (Or.inr rfl) u (by omega)
        refine ld_a0 iX10_raise_39 ?_
        refine ld_i6 iX10_raise_40 ?_
        refine xX10_paidAt kMX10_212 iX10_raise_42 (by decide) (Nat.le_of_ble_eq_true rfl) rfl rfl ?_
        refine c_mPaid (hM.v hF) (by rw [hF 40 0 22 (by omega) (by omega)]; exact h1.1) (by omega) (fun N3 e1 => ?_)
        rw [← PD_eq]
        refine ld_l4 iX10_raise_45 ?_
        refine r_lsub iX10_raise_47 ?_
        refine ld_l2 iX10_raise_48 ?_
        refine r_lclt iX10_raise_49 iX10_raise_50 (by omega) (by omega) (fun h49 => ?_) (fun h49 => ?_)
        · refine inc_6 (by decide) rfl iX10_raise_56 ?_
          refine r_goto iX10_raise_59 ?_
          refine ih (10000 - (u + 1)) (by omega) (u + 1) _ _ rfl (by omega) (by omega) (by omega) (hF.tr (e1.v (by omega) (by omega))) (fun x x1 x2 => ?_)
          by_cases eu : x = u
          · rw [eu]; omega
          · exact hn x x1 (by omega)
        · refine ld_i6 iX10_raise_53 ?_
          refine t_int rfl iX10_raise_55 ?_
          exact hq1 h1 _ N3 (Or.inr ⟨u, rfl, hu0, by omega, by omega, hn⟩) (hF.tr (e1.v (by omega) (by omega)))
  refine ld_a0 iX10_raise_0 ?_
  refine r_iconst iX10_raise_1 ?_
  refine pf_X10_thrown kFX10_72 iX10_raise_2 ?_
  obtain ⟨N1, hN1, f0⟩ : ∃ N1, N1 = upN N 40 0 0 0 ∧ FrV N N1 := ⟨_, rfl, thr_v N⟩
  rw [← hN1]
  clear hN1
  have hM1 := hM.v f0
  have h22 : N1 40 0 22 = N 40 0 22 := f0 40 0 22 (by omega) (by omega)
  have h01 := hM1.1
  refine ld_a0 iX10_raise_5 ?_
  refine ld_i1 iX10_raise_6 ?_
  refine xX10_isWage kMX10_251 iX10_raise_7 (by decide) (Nat.le_of_ble_eq_true rfl) rfl rfl ?_
  refine c_mIsWage hM1 rw' ?_
  refine r_ifeq iX10_raise_10 (by exact tf_r _) (fun h10 => ?_) (fun h10 => ?_)
  · have h10 := tf_n h10
    refine r_iconst iX10_raise_19 ?_
    refine t_int rfl iX10_raise_20 ?_
    exact hq0 (by omega) _ f0
  · have h10 := tf_y h10
    refine ld_l2 iX10_raise_13 ?_
    refine r_lconst (v := 0) (by decide) iX10_raise_14 ?_
    refine r_lcge iX10_raise_15 iX10_raise_16 (by omega) (by omega) (fun h15 => ?_) (fun h15 => ?_)
    · refine ld_a0 iX10_raise_21 ?_
      refine ld_i1 iX10_raise_22 ?_
      refine xX10_paidAt kMX10_212 iX10_raise_23 (by decide) (Nat.le_of_ble_eq_true rfl) rfl rfl ?_
      refine c_mPaid hM1 h10.1 h10.2 (fun N2 e1 => ?_)
      have epd := PD_eq d w.toNat
      rw [show ((w.toNat : Nat) : Int) = w by omega] at epd
      rw [← epd]
      refine sv_l4 (by decide) rfl iX10_raise_26 ?_
      refine ld_i1 iX10_raise_28 ?_
      refine sv_i6 (by decide) rfl iX10_raise_29 ?_
      exact loop ⟨by omega, h10.2, by omega⟩ (10000 - w.toNat) w.toNat _ _ rfl (Nat.le_refl _) (by omega) (by omega) (f0.tr (e1.v (by omega) (by omega))) (fun x x1 x2 => by omega)
    · refine r_iconst iX10_raise_19 ?_
      refine t_int rfl iX10_raise_20 ?_
      exact hq0 (by omega) _ f0
theorem m_over {a o w : Int} {Pq : Int → Nm → Ge → Prop} (hM : MS N d) (ra : rI a) (ro : rI o) (rw' : rI w) (hq1 : N 40 0 22 = 1 ∧ (-1 ≤ a ∧ a < dA d) ∧ (-1 ≤ o ∧ o < dA d) ∧ (0 ≤ w ∧ w ≤ 9999) → ∀ r N', Fst (fun u => LF d (dB d) (rwo o) u ≤ LF d (dB d) (rwo a) u) w.toNat 10000 r → FrV N N' → Pq r N' g) (hq0 : ¬ (N 40 0 22 = 1 ∧ (-1 ≤ a ∧ a < dA d) ∧ (-1 ≤ o ∧ o < dA d) ∧ (0 ≤ w ∧ w ≤ 9999)) → ∀ N', FrV N N' → Pq (-1) N' g) : Ck K YX10_over hX10_over [vr 40 0, vi a, vi o, vi w] N g (qI Pq) := by
  refine Ck.intro 1 (by decide) rfl ?_
  show AW _ _ _ _ _ [some (vr 40 0), some (vi a), some (vi o), some (vi w), none] _ _ _
  have loop : N 40 0 22 = 1 ∧ (-1 ≤ a ∧ a < dA d) ∧ (-1 ≤ o ∧ o < dA d) ∧ (0 ≤ w ∧ w ≤ 9999) → ∀ (n u : Nat) (c : Int) (N2 : Nm), 10000 - u = n → w.toNat ≤ u → u ≤ 10000 → c = u → FrV N N2 → (∀ x, w.toNat ≤ x → x < u → ¬ LF d (dB d) (rwo o) x ≤ LF d (dB d) (rwo a) x) → AW K YX10_over hX10_over (qI Pq) 34 [some (vr 40 0), some (vi a), some (vi o), some (vi w), some (vi c)] [] N2 g := by
    intro h1 n
    have hW := (hM.2.2 h1.1).1
    have n1 := rwo_ok h1.2.1
    have n2 := rwo_ok h1.2.2.1
    induction n using Nat.strongRecOn with
    | _ n ih =>
      intro u c N2 e hu0 hu hc hF hn
      subst hc
      refine ld_i4 iX10_over_34 ?_
      refine r_sipush (by decide) iX10_over_36 ?_
      refine r_icmpge iX10_over_39 (by omega) (by omega) (fun h39 => ?_) (fun h39 => ?_)
      · refine r_iconst iX10_over_69 ?_
        refine t_int rfl iX10_over_70 ?_
        exact hq1 h1 _ N2 (Or.inl ⟨rfl, fun x x1 x2 => hn x x1 (by omega)⟩) hF
      · have b1 := LF_bd hW hW.2.1 n1 u (by omega)
        have b2 := LF_bd hW hW.2.1 n2 u (by omega)
        refine ld_a0 iX10_over_42 ?_
        refine ld_i1 iX10_over_43 ?_
        refine ld_i4 iX10_over_44 ?_
        refine xX10_valueAt kMX10_216 iX10_over_46 (by decide) (Nat.le_of_ble_eq_true rfl) rfl rfl ?_
        refine c_mAt (hM.v hF) (by rw [hF 40 0 22 (by omega) (by omega)]; exact h1.1) (by omega) h1.2.1 (fun N3 e1 => ?_)
        have hF3 := hF.tr (e1.v (by omega) (by omega))
        refine ld_a0 iX10_over_49 ?_
        refine ld_i2 iX10_over_50 ?_
        refine ld_i4 iX10_over_51 ?_
        refine xX10_valueAt kMX10_216 iX10_over_53 (by decide) (Nat.le_of_ble_eq_true rfl) rfl rfl ?_
        refine c_mAt (hM.v hF3) (by rw [hF3 40 0 22 (by omega) (by omega)]; exact h1.1) (by omega) h1.2.2.1 (fun N4 e2 => ?_)
        have hF4 := hF3.tr (e2.v (by omega) (by omega))
        rw [show ((u : Nat) : Int).toNat = u from rfl]
        refine r_lclt iX10_over_56 iX10_over_57 (by omega) (by omega) (fun h56 => ?_) (fun h56 => ?_)
        · refine inc_4 (by decide) rfl iX10_over_63 ?_
          refine r_goto iX10_over_66 ?_
          refine ih (10000 - (u + 1)) (by omega) (u + 1) _ _ rfl (by omega) (by omega) (by omega) hF4 (fun x x1 x2 => ?_)
          by_cases eu : x = u
          · rw [eu]; omega
          · exact hn x x1 (by omega)
        · refine ld_i4 iX10_over_60 ?_
          refine t_int rfl iX10_over_62 ?_
          exact hq1 h1 _ N4 (Or.inr ⟨u, rfl, hu0, by omega, by omega, hn⟩) hF4
  refine ld_a0 iX10_over_0 ?_
  refine r_iconst iX10_over_1 ?_
  refine pf_X10_thrown kFX10_72 iX10_over_2 ?_
  obtain ⟨N1, hN1, f0⟩ : ∃ N1, N1 = upN N 40 0 0 0 ∧ FrV N N1 := ⟨_, rfl, thr_v N⟩
  rw [← hN1]
  clear hN1
  have hM1 := hM.v f0
  have h22 : N1 40 0 22 = N 40 0 22 := f0 40 0 22 (by omega) (by omega)
  have h01 := hM1.1
  refine ld_a0 iX10_over_5 ?_
  refine ld_i1 iX10_over_6 ?_
  refine xX10_isLine kMX10_248 iX10_over_7 (by decide) (Nat.le_of_ble_eq_true rfl) rfl rfl ?_
  refine c_mIsLine hM1 ra ?_
  refine r_ifeq iX10_over_10 (by exact tf_r _) (fun h10 => ?_) (fun h10 => ?_)
  · have h10 := tf_n h10
    refine r_iconst iX10_over_29 ?_
    refine t_int rfl iX10_over_30 ?_
    exact hq0 (by omega) _ f0
  · have h10 := tf_y h10
    refine ld_a0 iX10_over_13 ?_
    refine ld_i2 iX10_over_14 ?_
    refine xX10_isLine kMX10_248 iX10_over_15 (by decide) (Nat.le_of_ble_eq_true rfl) rfl rfl ?_
    refine c_mIsLine hM1 ro ?_
    refine r_ifeq iX10_over_18 (by exact tf_r _) (fun h18 => ?_) (fun h18 => ?_)
    · have h18 := tf_n h18
      refine r_iconst iX10_over_29 ?_
      refine t_int rfl iX10_over_30 ?_
      exact hq0 (by omega) _ f0
    · have h18 := tf_y h18
      refine ld_a0 iX10_over_21 ?_
      refine ld_i3 iX10_over_22 ?_
      refine xX10_isWage kMX10_251 iX10_over_23 (by decide) (Nat.le_of_ble_eq_true rfl) rfl rfl ?_
      refine c_mIsWage hM1 rw' ?_
      refine r_ifne iX10_over_26 (by exact tf_r _) (fun h26 => ?_) (fun h26 => ?_)
      · have h26 := tf_y h26
        refine ld_i3 iX10_over_31 ?_
        refine sv_i4 (by decide) rfl iX10_over_32 ?_
        exact loop ⟨by omega, h10.2, h18.2, h26.2⟩ (10000 - w.toNat) w.toNat _ _ rfl (Nat.le_refl _) (by omega) (by omega) f0 (fun x x1 x2 => by omega)
      · have h26 := tf_n h26
        refine r_iconst iX10_over_29 ?_
        refine t_int rfl iX10_over_30 ?_
        exact hq0 (by omega) _ f0
end MAsk4
