/-! own text: the class draws its lines -/
theorem gst_bd {d : Dk} (hW : WD d) {S gn : Nat → Int} {a : Nat} (ha : a < dA d) (hG : IsG d S gn a) : -10368000000000 ≤ gst d gn a ∧ gst d gn a ≤ 10368000000000 := by
  have ih := gn_bd hW a (by omega) hG
  have hT := (hW.2.2.1 a ha).2.1
  have hA := hW.1
  have hb1 := gsm_bd (d := d) (gn := gn) (r := a) (B := 1728000000000) (by omega) (dT d a) (fun j hj => by
    obtain ⟨g1, g2⟩ := hT.2.2 j hj
    refine ⟨g1, fun e1 e2 => ?_⟩
    have z := (g2.resolve_left e1).resolve_left e2
    have y := (ih (dM d a j) (z.2 (by omega)).1).1
    have y2 := HB_le (p := dD d (dM d a j)) (q := 3) (hW.2.2.1 _ z.1).2.2.2 (by omega)
    have y3 : HB 3 = 1728000000000 := rfl
    omega)
  have h6 := hT.2.1
  have y1 := mul_mono (show (dT d a : Int) ≤ 6 by omega) (show (0 : Int) ≤ 1728000000000 by omega)
  unfold gst
  omega
section Draw9
variable {K : Kx} {N : Nm} {g : Ge} {r : Nat} {d : Dk}
theorem c_settle {a : Nat} {Pq : Nm → Ge → Prop} (ha : a < 6) (hS : WS d a) (h27 : N 27 r a = dS d a) (hseg : ∀ q, q < dS d a → N 29 (6 * r + a) q = dF d a q ∧ N 31 (6 * r + a) q = dE d a q ∧ N 33 (6 * r + a) q = dL d a q)
    (hq : ∀ N', (∀ k i j, ¬ (k = 35 ∧ i = 6 * r + a) → N' k i j = N k i j) → (∀ q, q < dS d a → N' 35 (6 * r + a) q = bas d a q) → Pq N' g) : Ck K YX5_settle hX5_settle [vr 20 r, vi a] N g (qV Pq) := by
  have hS2 := hS.2.1
  refine Ck.intro 5 (by decide) rfl ?_
  show AW _ _ _ _ _ [some (vr 20 r), some (vi a), none, none, none, none, none] _ _ _
  have loop : ∀ (n q : Nat) (c : Int) (N' : Nm), dS d a - q = n → q ≤ dS d a → c = q → (∀ k i j, ¬ (k = 35 ∧ i = 6 * r + a) → N' k i j = N k i j) → (∀ p, p < q → N' 35 (6 * r + a) p = bas d a p) → AW K YX5_settle hX5_settle (qV Pq) 17 [some (vr 20 r), some (vi a), some (vr 29 (6 * r + a)), some (vr 35 (6 * r + a)), some (vi c), none, none] [] N' g := by
    intro n
    induction n using Nat.strongRecOn with
    | _ n ih =>
      intro q c N' e hp hc h1 h2
      subst hc
      have tl : ∀ (x : Int) (hj1 : q < dS d a), x = bas d a q → AW K YX5_settle hX5_settle (qV Pq) 119 [some (vr 20 r), some (vi a), some (vr 29 (6 * r + a)), some (vr 35 (6 * r + a)), some (vi q), none, none] [] (upN N' 35 (6 * r + a) q x) g := by
        intro x hj1 hx
        refine inc_4 (by decide) rfl iX5_settle_119 ?_
        refine r_goto iX5_settle_122 ?_
        refine ih (dS d a - (q + 1)) (by omega) (q + 1) _ _ rfl (by omega) (by omega) (fun k i j z => ?_) (fun j hj => ?_)
        · rw [← h1 k i j z]; exact if_neg (fun y => z ⟨y.1, y.2.1⟩)
        · by_cases e : j = q
          · rw [e, upN_eq]; exact hx
          · rw [upN_j e]; exact h2 j (by omega)
      have nz : ∀ k i j, k ≠ 35 → N' k i j = N k i j := fun k i j z => h1 k i j (fun y => z y.1)
      refine ld_i4 iX5_settle_17 ?_
      refine ld_a0 iX5_settle_19 ?_
      refine gf_X5_segmentCounts kFX5_33 iX5_settle_20 ?_
      refine ld_i1 iX5_settle_23 ?_
      refine al_27 rfl (by omega) iX5_settle_24 ?_
      rw [nz 27 _ _ (by decide), h27]
      refine r_icmpge iX5_settle_25 (by omega) (by omega) (fun h25 => ?_) (fun h25 => ?_)
      · have hj0 : q = dS d a := by omega
        refine t_void rfl iX5_settle_125 ?_
        exact hq N' h1 (fun p hp => h2 p (by omega))
      · have hj1 : q < dS d a := by omega
        obtain ⟨s1, s2, s3⟩ := hseg q hj1
        have bb := hS.2.2.2.2 q hj1
        refine ld_a0 iX5_settle_28 ?_
        refine gf_X5_ats kFX5_39 iX5_settle_29 ?_
        refine ld_i1 iX5_settle_32 ?_
        refine al_30 rfl (by omega) iX5_settle_33 ?_
        refine ld_i4 iX5_settle_34 ?_
        refine al_31 rfl (by omega) iX5_settle_36 ?_
        rw [nz 31 _ _ (by decide), s2]
        refine r_iconst iX5_settle_37 ?_
        refine r_icmpeq iX5_settle_38 (by omega) (by omega) (fun h38 => ?_) (fun h38 => ?_)
        · refine ld_i4 iX5_settle_62 ?_
          refine r_ifne iX5_settle_64 (by omega) (fun h64 => ?_) (fun h64 => ?_)
          · obtain ⟨t1, t2, t3⟩ := hseg (q - 1) (by omega)
            have bb2 := hS.2.2.2.2 (q - 1) (by omega)
            refine ld_a2 iX5_settle_75 ?_
            refine ld_i4 iX5_settle_76 ?_
            refine al_29 rfl (by omega) iX5_settle_78 ?_
            rw [nz 29 _ _ (by decide), s1]
            refine ld_a2 iX5_settle_79 ?_
            refine ld_i4 iX5_settle_80 ?_
            refine r_iconst iX5_settle_82 ?_
            refine r_isub iX5_settle_83 ?_
            refine al_29 (n := (q - 1)) (by omega) (by omega) iX5_settle_84 ?_
            rw [nz 29 _ _ (by decide), t1]
            refine r_isub iX5_settle_85 ?_
            refine r_i2l (by omega) iX5_settle_86 ?_
            refine ld_a0 iX5_settle_87 ?_
            refine gf_X5_slopes kFX5_42 iX5_settle_88 ?_
            refine ld_i1 iX5_settle_91 ?_
            refine al_32 rfl (by omega) iX5_settle_92 ?_
            refine ld_i4 iX5_settle_93 ?_
            refine r_iconst iX5_settle_95 ?_
            refine r_isub iX5_settle_96 ?_
            refine al_33 (n := (q - 1)) (by omega) (by omega) iX5_settle_97 ?_
            rw [nz 33 _ _ (by decide), t3]
            refine r_i2l (by omega) iX5_settle_98 ?_
            refine r_lmul iX5_settle_99 ?_
            refine sv_l5 (by decide) rfl iX5_settle_100 ?_
            refine ld_a3 iX5_settle_102 ?_
            refine ld_i4 iX5_settle_103 ?_
            refine ld_a3 iX5_settle_105 ?_
            refine ld_i4 iX5_settle_106 ?_
            refine r_iconst iX5_settle_108 ?_
            refine r_isub iX5_settle_109 ?_
            refine al_35 (n := (q - 1)) (by omega) (by omega) iX5_settle_110 ?_
            rw [h2 (q - 1) (by omega)]
            refine ld_l5 iX5_settle_111 ?_
            refine r_ldc2 (z := 1000000) kKX5_64 (by decide) iX5_settle_113 ?_
            refine r_lmul iX5_settle_116 ?_
            refine r_ladd iX5_settle_117 ?_
            refine as_35 rfl (by omega) iX5_settle_118 ?_
            first
              | (refine tl _ hj1 ?_
                 cases q with
                 | zero => rw [bas]; first | rw [if_neg (by omega)] | rw [if_pos (by omega)]
                 | succ q => rw [bas]; first | (exfalso; omega) | rw [if_neg (by omega)])
              | (refine fg_5 ?_
                 refine tl _ hj1 ?_
                 have hq1 : q - 1 + 1 = q := by omega
                 generalize hqq : q - 1 = p at hq1 ⊢
                 subst hq1
                 rw [bas, if_pos (by omega)])
          · refine ld_a3 iX5_settle_67 ?_
            refine ld_i4 iX5_settle_68 ?_
            refine r_lconst (v := 0) (by decide) iX5_settle_70 ?_
            refine as_35 rfl (by omega) iX5_settle_71 ?_
            refine r_goto iX5_settle_72 ?_
            first
              | (refine tl _ hj1 ?_
                 cases q with
                 | zero => rw [bas]; first | rw [if_neg (by omega)] | rw [if_pos (by omega)]
                 | succ q => rw [bas]; first | (exfalso; omega) | rw [if_neg (by omega)])
              | (refine fg_5 ?_
                 refine tl _ hj1 ?_
                 have hq1 : q - 1 + 1 = q := by omega
                 generalize hqq : q - 1 = p at hq1 ⊢
                 subst hq1
                 rw [bas, if_pos (by omega)])
        · refine ld_a3 iX5_settle_41 ?_
          refine ld_i4 iX5_settle_42 ?_
          refine ld_a0 iX5_settle_44 ?_
          refine gf_X5_ats kFX5_39 iX5_settle_45 ?_
          refine ld_i1 iX5_settle_48 ?_
          refine al_30 rfl (by omega) iX5_settle_49 ?_
          refine ld_i4 iX5_settle_50 ?_
          refine al_31 rfl (by omega) iX5_settle_52 ?_
          rw [nz 31 _ _ (by decide), s2]
          refine r_i2l (by omega) iX5_settle_53 ?_
          refine r_ldc2 (z := 1000000000) kKX5_62 (by decide) iX5_settle_54 ?_
          refine r_lmul iX5_settle_57 ?_
          refine as_35 rfl (by omega) iX5_settle_58 ?_
          refine r_goto iX5_settle_59 ?_
          first
            | (refine tl _ hj1 ?_
               cases q with
               | zero => rw [bas]; first | rw [if_neg (by omega)] | rw [if_pos (by omega)]
               | succ q => rw [bas]; first | (exfalso; omega) | rw [if_neg (by omega)])
            | (refine fg_5 ?_
               refine tl _ hj1 ?_
               have hq1 : q - 1 + 1 = q := by omega
               generalize hqq : q - 1 = p at hq1 ⊢
               subst hq1
               rw [bas, if_pos (by omega)])
  refine ld_a0 iX5_settle_0 ?_
  refine gf_X5_froms kFX5_36 iX5_settle_1 ?_
  refine ld_i1 iX5_settle_4 ?_
  refine al_28 rfl (by omega) iX5_settle_5 ?_
  refine sv_a2 (by decide) rfl iX5_settle_6 ?_
  refine ld_a0 iX5_settle_7 ?_
  refine gf_X5_bases kFX5_47 iX5_settle_8 ?_
  refine ld_i1 iX5_settle_11 ?_
  refine al_34 rfl (by omega) iX5_settle_12 ?_
  refine sv_a3 (by decide) rfl iX5_settle_13 ?_
  refine r_iconst iX5_settle_14 ?_
  refine sv_i4 (by decide) rfl iX5_settle_15 ?_
  exact loop (dS d a) 0 _ N (by omega) (by omega) (by omega) (fun _ _ _ _ => rfl) (fun j hj => by omega)
theorem c_gainOfTerms {a : Nat} {Pq : Int → Nm → Ge → Prop} (hR : RuI N r d) (hW : WD d) (ha : a < dA d ∨ a = 6) (hq : Pq (gst d (fun k => N 11 0 k) a) N g) : Ck K YX2_gainOfTerms hX2_gainOfTerms [vr 7 0, vr 20 r, vi a] N g (qL Pq) := by
  obtain ⟨hR1, hR2, hR3, hR4, hR5⟩ := hR
  obtain ⟨t1, t2⟩ := hR3 a ha
  have hA := hW.1
  have hT : WT d a := by
    rcases ha with q | q
    · exact (hW.2.2.1 a q).2.1
    · rw [q]; exact hW.2.2.2
  have hT6 := hT.2.1
  refine Ck.intro 4 (by decide) rfl ?_
  show AW _ _ _ _ _ [some (vr 7 0), some (vr 20 r), some (vi a), none, none, none, none] _ _ _
  have loop : ∀ (n j : Nat) (t c : Int), dT d a - j = n → j ≤ dT d a → c = j → t = gsm d (fun k => N 11 0 k) a j → AW K YX2_gainOfTerms hX2_gainOfTerms (qL Pq) 13 [some (vr 7 0), some (vr 20 r), some (vi a), some (vr 23 (7 * r + a)), some (vl t), none, some (vi c)] [] N g := by
    intro n
    induction n using Nat.strongRecOn with
    | _ n ih =>
      intro j t c e hj hc ht
      subst hc
      refine ld_i6 iX2_gainOfTerms_13 ?_
      refine ld_a1 iX2_gainOfTerms_15 ?_
      refine gf_X5_termCounts kFX2_84 iX2_gainOfTerms_16 ?_
      refine ld_i2 iX2_gainOfTerms_19 ?_
      refine al_21 rfl (by omega) iX2_gainOfTerms_20 ?_
      rw [t1]
      refine r_icmpge iX2_gainOfTerms_21 (by omega) (by omega) (fun h21 => ?_) (fun h21 => ?_)
      · refine ld_l4 iX2_gainOfTerms_95 ?_
        refine t_long rfl iX2_gainOfTerms_97 ?_
        have e : j = dT d a := by omega
        rw [e] at ht; rw [ht]; exact hq
      · have hj1 : j < dT d a := by omega
        have hm := (hT.2.2 j hj1).2
        have hg := (hT.2.2 j hj1).1
        refine ld_a3 iX2_gainOfTerms_24 ?_
        refine ld_i6 iX2_gainOfTerms_25 ?_
        refine al_23 rfl (by omega) iX2_gainOfTerms_27 ?_
        rw [(t2 j hj1).1]
        refine r_bipush (by decide) iX2_gainOfTerms_28 ?_
        refine r_icmpne iX2_gainOfTerms_30 (by omega) (by omega) (fun h30 => ?_) (fun h30 => ?_)
        · refine ld_a3 iX2_gainOfTerms_55 ?_
          refine ld_i6 iX2_gainOfTerms_56 ?_
          refine al_23 rfl (by omega) iX2_gainOfTerms_58 ?_
          rw [(t2 j hj1).1]
          refine r_bipush (by decide) iX2_gainOfTerms_59 ?_
          refine r_icmpge iX2_gainOfTerms_61 (by omega) (by omega) (fun h61 => ?_) (fun h61 => ?_)
          · refine inc_6 (by decide) rfl iX2_gainOfTerms_89 ?_
            refine r_goto iX2_gainOfTerms_92 ?_
            refine ih (dT d a - (j + 1)) (by omega) (j + 1) _ _ rfl (by omega) (by omega) ?_
            rw [gsm, ht]
            first
              | rw [if_pos (by omega)]
              | (rw [if_neg (by omega), if_pos (by omega)]; simp)
              | rw [if_neg (by omega), if_neg (by omega)]
          · refine ld_l4 iX2_gainOfTerms_64 ?_
            refine ld_a1 iX2_gainOfTerms_66 ?_
            refine gf_X5_signs kFX2_87 iX2_gainOfTerms_67 ?_
            refine ld_i2 iX2_gainOfTerms_70 ?_
            refine al_24 rfl (by omega) iX2_gainOfTerms_71 ?_
            refine ld_i6 iX2_gainOfTerms_72 ?_
            refine al_25 rfl (by omega) iX2_gainOfTerms_74 ?_
            rw [(t2 j hj1).2]
            refine r_i2l (by omega) iX2_gainOfTerms_75 ?_
            refine ld_a0 iX2_gainOfTerms_76 ?_
            refine gf_X2_gains kFX2_22 iX2_gainOfTerms_77 ?_
            refine ld_a3 iX2_gainOfTerms_80 ?_
            refine ld_i6 iX2_gainOfTerms_81 ?_
            refine al_23 rfl (by omega) iX2_gainOfTerms_83 ?_
            rw [(t2 j hj1).1]
            refine al_11 rfl (by omega) iX2_gainOfTerms_84 ?_
            refine r_lmul iX2_gainOfTerms_85 ?_
            refine r_ladd iX2_gainOfTerms_86 ?_
            refine sv_l4 (by decide) rfl iX2_gainOfTerms_87 ?_
            refine inc_6 (by decide) rfl iX2_gainOfTerms_89 ?_
            refine r_goto iX2_gainOfTerms_92 ?_
            refine ih (dT d a - (j + 1)) (by omega) (j + 1) _ _ rfl (by omega) (by omega) ?_
            rw [gsm, ht]
            first
              | rw [if_pos (by omega)]
              | (rw [if_neg (by omega), if_pos (by omega)]; simp)
              | rw [if_neg (by omega), if_neg (by omega)]
        · refine ld_l4 iX2_gainOfTerms_33 ?_
          refine ld_a1 iX2_gainOfTerms_35 ?_
          refine gf_X5_signs kFX2_87 iX2_gainOfTerms_36 ?_
          refine ld_i2 iX2_gainOfTerms_39 ?_
          refine al_24 rfl (by omega) iX2_gainOfTerms_40 ?_
          refine ld_i6 iX2_gainOfTerms_41 ?_
          refine al_25 rfl (by omega) iX2_gainOfTerms_43 ?_
          rw [(t2 j hj1).2]
          refine r_i2l (by omega) iX2_gainOfTerms_44 ?_
          refine r_ldc2 (z := 1000000000) kKX2_90 (by decide) iX2_gainOfTerms_45 ?_
          refine r_lmul iX2_gainOfTerms_48 ?_
          refine r_ladd iX2_gainOfTerms_49 ?_
          refine sv_l4 (by decide) rfl iX2_gainOfTerms_50 ?_
          refine r_goto iX2_gainOfTerms_52 ?_
          refine inc_6 (by decide) rfl iX2_gainOfTerms_89 ?_
          refine r_goto iX2_gainOfTerms_92 ?_
          refine ih (dT d a - (j + 1)) (by omega) (j + 1) _ _ rfl (by omega) (by omega) ?_
          rw [gsm, ht]
          first
            | rw [if_pos (by omega)]
            | (rw [if_neg (by omega), if_pos (by omega)]; simp)
            | rw [if_neg (by omega), if_neg (by omega)]
  refine ld_a1 iX2_gainOfTerms_0 ?_
  refine gf_X5_terms kFX2_81 iX2_gainOfTerms_1 ?_
  refine ld_i2 iX2_gainOfTerms_4 ?_
  refine al_22 rfl (by omega) iX2_gainOfTerms_5 ?_
  refine sv_a3 (by decide) rfl iX2_gainOfTerms_6 ?_
  refine r_lconst (v := 0) (by decide) iX2_gainOfTerms_7 ?_
  refine sv_l4 (by decide) rfl iX2_gainOfTerms_8 ?_
  refine r_iconst iX2_gainOfTerms_10 ?_
  refine sv_i6 (by decide) rfl iX2_gainOfTerms_11 ?_
  exact loop (dT d a) 0 _ _ (by omega) (by omega) (by omega) rfl
theorem c_reachIn {a : Nat} {S t : Int} {Pq : Int → Nm → Ge → Prop} (hR : RuI N r d) (hW : WD d) (ha : a < dA d) (hs : -100000000000000000 ≤ S ∧ S ≤ 100000000000000000) (ht : -100000000000000000 ≤ t ∧ t ≤ 100000000000000000) (hq : Pq (rc d a S t) N g) : Ck K YX2_reachIn hX2_reachIn [vr 20 r, vi a, vi (segV d a S), vl S, vl t] N g (qL Pq) := by
  obtain ⟨hR1, hR2, hR3, hR4, hR5⟩ := hR
  obtain ⟨s1, s2, s3⟩ := hR4 a ha
  have hA := hW.1
  obtain ⟨hS, -⟩ := hW.2.2.1 a ha
  have hS2 := hS.2.1
  have hlt := segV_lt hS S
  have hf := hS.2.2.2.2 _ hlt
  have hf1 := hS.2.2.2.2 (segV d a S + 1)
  have s31 := s3 (segV d a S + 1)
  have s30 := s3 _ hlt
  unfold rc at hq
  refine Ck.intro 1 (by decide) rfl ?_
  show AW _ _ _ _ _ [some (vr 20 r), some (vi a), some (vi (segV d a S)), some (vl S), none, some (vl t), none, none] _ _ _
  have tl : ∀ (z : Int) (h3 : 0 < t) (h9 : 0 ≤ S), (z = 0 ∧ segV d a S + 1 ≠ dS d a) ∨ (z = 1 ∧ segV d a S + 1 = dS d a) → AW K YX2_reachIn hX2_reachIn (qL Pq) 39 [some (vr 20 r), some (vi a), some (vi (segV d a S)), some (vl S), none, some (vl t), none, none] [vi z] N g := by
    intro z h3 h9 hz
    refine sv_i7 (by decide) rfl iX2_reachIn_39 ?_
    refine ld_i7 iX2_reachIn_41 ?_
    refine r_ifeq iX2_reachIn_43 (by omega) (fun h43 => ?_) (fun h43 => ?_)
    · have hf1 := hf1 (by omega)
      have s31 := s31 (by omega)
      refine ld_a0 iX2_reachIn_52 ?_
      refine gf_X5_froms kFX2_99 iX2_reachIn_53 ?_
      refine ld_i1 iX2_reachIn_56 ?_
      refine al_28 rfl (by omega) iX2_reachIn_57 ?_
      refine ld_i2 iX2_reachIn_58 ?_
      refine r_iconst iX2_reachIn_59 ?_
      refine r_iadd iX2_reachIn_60 ?_
      refine al_29 (n := (segV d a S + 1)) (by omega) (by omega) iX2_reachIn_61 ?_
      rw [s31.1]
      refine r_i2l (by omega) iX2_reachIn_62 ?_
      refine r_ldc2 (z := 1000000000) kKX2_90 (by decide) iX2_reachIn_63 ?_
      refine r_lmul iX2_reachIn_66 ?_
      refine r_lconst (v := 1) (by decide) iX2_reachIn_67 ?_
      refine r_lsub iX2_reachIn_68 ?_
      refine ld_l3 iX2_reachIn_69 ?_
      refine r_lsub iX2_reachIn_70 ?_
      refine ld_l5 iX2_reachIn_71 ?_
      refine r_ldiv (by omega) (by omega) (by omega) iX2_reachIn_73 ?_
      refine t_long rfl iX2_reachIn_74 ?_
      first
        | (rw [if_pos h3, if_neg (by omega), if_pos (by omega)] at hq; exact hq)
        | (rw [if_pos h3, if_neg (by omega), if_neg (by omega)] at hq; exact hq)
    · refine r_ldc2 (z := 9999) kKX2_97 (by decide) iX2_reachIn_46 ?_
      refine r_goto iX2_reachIn_49 ?_
      refine t_long rfl iX2_reachIn_74 ?_
      first
        | (rw [if_pos h3, if_neg (by omega), if_pos (by omega)] at hq; exact hq)
        | (rw [if_pos h3, if_neg (by omega), if_neg (by omega)] at hq; exact hq)
  refine ld_l5 iX2_reachIn_0 ?_
  refine r_lconst (v := 0) (by decide) iX2_reachIn_2 ?_
  refine r_lcle iX2_reachIn_3 iX2_reachIn_4 (by omega) (by omega) (fun h3 => ?_) (fun h3 => ?_)
  · refine ld_l5 iX2_reachIn_75 ?_
    refine r_lconst (v := 0) (by decide) iX2_reachIn_77 ?_
    refine r_lcge iX2_reachIn_78 iX2_reachIn_79 (by omega) (by omega) (fun h78 => ?_) (fun h78 => ?_)
    · refine r_ldc2 (z := 9999) kKX2_97 (by decide) iX2_reachIn_108 ?_
      refine t_long rfl iX2_reachIn_111 ?_
      rw [if_neg (by omega), if_neg (by omega)] at hq; exact hq
    · refine ld_l3 iX2_reachIn_82 ?_
      refine r_lconst (v := 0) (by decide) iX2_reachIn_83 ?_
      refine r_lclt iX2_reachIn_84 iX2_reachIn_85 (by omega) (by omega) (fun h84 => ?_) (fun h84 => ?_)
      · refine r_ldc2 (z := 9999) kKX2_97 (by decide) iX2_reachIn_108 ?_
        refine t_long rfl iX2_reachIn_111 ?_
        rw [if_neg (by omega), if_neg (by omega)] at hq; exact hq
      · refine ld_l3 iX2_reachIn_88 ?_
        refine ld_a0 iX2_reachIn_89 ?_
        refine gf_X5_froms kFX2_99 iX2_reachIn_90 ?_
        refine ld_i1 iX2_reachIn_93 ?_
        refine al_28 rfl (by omega) iX2_reachIn_94 ?_
        refine ld_i2 iX2_reachIn_95 ?_
        refine al_29 rfl (by omega) iX2_reachIn_96 ?_
        rw [s30.1]
        refine r_i2l (by omega) iX2_reachIn_97 ?_
        refine r_ldc2 (z := 1000000000) kKX2_90 (by decide) iX2_reachIn_98 ?_
        refine r_lmul iX2_reachIn_101 ?_
        refine r_lsub iX2_reachIn_102 ?_
        refine ld_l5 iX2_reachIn_103 ?_
        refine r_lneg iX2_reachIn_105 ?_
        refine r_ldiv (by omega) (by omega) (by omega) iX2_reachIn_106 ?_
        refine t_long rfl iX2_reachIn_107 ?_
        rw [if_neg (by omega), if_pos ⟨by omega, by omega⟩] at hq; exact hq
  · refine ld_l3 iX2_reachIn_7 ?_
    refine r_lconst (v := 0) (by decide) iX2_reachIn_8 ?_
    refine r_lcge iX2_reachIn_9 iX2_reachIn_10 (by omega) (by omega) (fun h9 => ?_) (fun h9 => ?_)
    · refine ld_i2 iX2_reachIn_22 ?_
      refine r_iconst iX2_reachIn_23 ?_
      refine r_iadd iX2_reachIn_24 ?_
      refine ld_a0 iX2_reachIn_25 ?_
      refine gf_X5_segmentCounts kFX2_94 iX2_reachIn_26 ?_
      refine ld_i1 iX2_reachIn_29 ?_
      refine al_27 rfl (by omega) iX2_reachIn_30 ?_
      rw [s2]
      refine r_icmpne iX2_reachIn_31 (by omega) (by omega) (fun h31 => ?_) (fun h31 => ?_)
      · refine r_iconst iX2_reachIn_38 ?_
        exact tl _ (by omega) (by omega) (by omega)
      · refine r_iconst iX2_reachIn_34 ?_
        refine r_goto iX2_reachIn_35 ?_
        exact tl _ (by omega) (by omega) (by omega)
    · refine r_ldc2 (z := -1) kKX2_92 (by decide) iX2_reachIn_13 ?_
      refine ld_l3 iX2_reachIn_16 ?_
      refine r_lsub iX2_reachIn_17 ?_
      refine ld_l5 iX2_reachIn_18 ?_
      refine r_ldiv (by omega) (by omega) (by omega) iX2_reachIn_20 ?_
      refine t_long rfl iX2_reachIn_21 ?_
      rw [if_pos h3, if_pos h9] at hq; exact hq
theorem rc_bd {a : Nat} {S t : Int} (hS : WS d a) : 0 ≤ rc d a S t ∧ (rc d a S t ≤ 100000000000000000 ∨ (-100000000000000000 ≤ S ∧ S ≤ 100000000000000000 → rc d a S t ≤ 100000000000000000)) := by
  have hlt := segV_lt hS S
  have hfr : dF d a (segV d a S) * 1000000000 ≤ max S 0 := sgf_fr hS (by omega) _
  have hhi := @segV_hi d a S
  have hf := hS.2.2.2.2 _ hlt
  unfold rc
  by_cases e1 : 0 < t
  · rw [if_pos e1]
    by_cases e2 : S < 0
    · rw [if_pos e2, Int.tdiv_eq_ediv_of_nonneg (by omega)]
      have y1 := Int.ediv_nonneg (show 0 ≤ -1 - S by omega) (show 0 ≤ t by omega)
      have y2 := Int.ediv_le_self t (show 0 ≤ -1 - S by omega)
      exact ⟨y1, Or.inr (fun q => by omega)⟩
    · rw [if_neg e2]
      by_cases e3 : segV d a S + 1 = dS d a
      · rw [if_pos e3]; omega
      · have hh := hhi (by omega)
        have hf1 := hS.2.2.2.2 (segV d a S + 1) (by omega)
        rw [if_neg e3, Int.tdiv_eq_ediv_of_nonneg (by omega)]
        have y1 := Int.ediv_nonneg (show 0 ≤ dF d a (segV d a S + 1) * 1000000000 - 1 - S by omega) (show 0 ≤ t by omega)
        have y2 := Int.ediv_le_self t (show 0 ≤ dF d a (segV d a S + 1) * 1000000000 - 1 - S by omega)
        exact ⟨y1, Or.inr (fun q => by omega)⟩
  · rw [if_neg e1]
    by_cases e2 : t < 0 ∧ 0 ≤ S
    · rw [if_pos e2, Int.tdiv_eq_ediv_of_nonneg (by omega)]
      have y1 := Int.ediv_nonneg (show 0 ≤ S - dF d a (segV d a S) * 1000000000 by omega) (show 0 ≤ -t by omega)
      have y2 := Int.ediv_le_self (-t) (show 0 ≤ S - dF d a (segV d a S) * 1000000000 by omega)
      exact ⟨y1, Or.inr (fun q => by omega)⟩
    · rw [if_neg e2]; omega
theorem c_straightFor {l : Nat} {b w : Int} {Pq : Int → Nm → Ge → Prop} (hR : RuI N r d) (hW : WD d) (hb : 0 ≤ b ∧ b ≤ 999) (hw : 0 ≤ w ∧ w ≤ 9999) (hl : l ≤ 9999) (hPt : PtI N d b (-1) 0 w (dA d))
    (hq : ∀ (N' : Nm) (f : Nat), FrX 11 11 N N' → f ≤ l → IsG d (fun a => sumV d b w (VA d b (-1) 0 w) a) (fun a => N' 11 0 a) (dA d) → (∀ a, a < dA d → (f : Int) ≤ rc d a (sumV d b w (VA d b (-1) 0 w) a) (gst d (fun a => N' 11 0 a) a)) → N' 11 0 6 = gst d (fun a => N' 11 0 a) 6 → Pq f N' g) : Ck K YX2_straightFor hX2_straightFor [vr 7 0, vr 20 r, vr 3 0, vi l] N g (qI Pq) := by
  have hA := hW.1
  have vb := val_bd hW hb hw (hd := -1) (hv := 0) (fun a _ q => by omega) (dA d) (Nat.le_refl _)
  refine Ck.intro 8 (by decide) rfl ?_
  show AW _ _ _ _ _ [some (vr 7 0), some (vr 20 r), some (vr 3 0), some (vi l), none, none, none, none, none, none, none, none] _ _ _
  have loop : ∀ (n a f : Nat) (c R : Int) (N' : Nm), dA d - a = n → a ≤ dA d → c = a → R = f → FrX 11 11 N N' → f ≤ l → IsG d (fun a => sumV d b w (VA d b (-1) 0 w) a) (fun a => N' 11 0 a) a → (∀ k, k < a → (f : Int) ≤ rc d k (sumV d b w (VA d b (-1) 0 w) k) (gst d (fun a => N' 11 0 a) k)) → AW K YX2_straightFor hX2_straightFor (qI Pq) 7 [some (vr 7 0), some (vr 20 r), some (vr 3 0), some (vi l), some (vl R), none, some (vi c), none, none, none, none, none] [] N' g := by
    intro n
    induction n using Nat.strongRecOn with
    | _ n ih =>
      intro a f c R N' e ha hc hRf hF hfl hG hrc
      subst hc
      subst hRf
      have hR' : RuI N' r d := hR.of (fun k x j q1 q2 => hF k x j (by omega))
      have p4 : N' 4 0 a = N 4 0 a := hF _ _ _ (by omega)
      have p6 : N' 6 0 a = N 6 0 a := hF _ _ _ (by omega)
      have tl : ∀ (ha1 : a < dA d) (x : Int), x = (if sumV d b w (VA d b (-1) 0 w) a < 0 then 0 else (gst d (fun a => N' 11 0 a) a).tdiv 1000 * dL d a (segV d a (sumV d b w (VA d b (-1) 0 w) a))) → AW K YX2_straightFor hX2_straightFor (qI Pq) 86 [some (vr 7 0), some (vr 20 r), some (vr 3 0), some (vi l), some (vl f), none, some (vi a), some (vl (gst d (fun a => N' 11 0 a) a)), none, some (vi (segV d a (sumV d b w (VA d b (-1) 0 w) a))), some (vl (sumV d b w (VA d b (-1) 0 w) a)), none] [] (upN N' 11 0 a x) g := by
        intro ha1 x hx
        obtain ⟨hS, hT, hD1, hD2⟩ := hW.2.2.1 a ha1
        have vba := vb a ha1
        have sbl := SB_le (dD d a)
        have cg : ∀ k, k ≤ a → gst d (fun j => upN N' 11 0 a x 11 0 j) k = gst d (fun j => N' 11 0 j) k := fun k hk => gst_cong (hW.2.2.1 k (by omega)).2.1 (fun j j1 j2 => by
          show upN N' 11 0 a x 11 0 j = N' 11 0 j
          exact upN_j (by have := j2 (by omega); omega))
        have hG' : IsG d (fun a => sumV d b w (VA d b (-1) 0 w) a) (fun j => upN N' 11 0 a x 11 0 j) (a + 1) := fun k hk => by
          rw [cg k (by omega)]
          by_cases e : k = a
          · subst e; simp only [upN_eq]; exact hx
          · simp only
            rw [upN_j e]; exact hG k (by omega)
        have gb := gn_bd hW (a + 1) ha1 hG' a (by omega)
        rw [cg a (Nat.le_refl _)] at gb
        have hb0 := HB_le (p := dD d a - 1) (q := 3) (by omega) (by omega)
        have hb3 : HB 3 = 1728000000000 := rfl
        have rb := @rc_bd d a (sumV d b w (VA d b (-1) 0 w) a) (gst d (fun a => N' 11 0 a) a) hS
        have rb2 := rb.2
        refine ld_l4 iX2_straightFor_86 ?_
        refine ld_a1 iX2_straightFor_88 ?_
        refine ld_i6 iX2_straightFor_89 ?_
        refine ld_i9 iX2_straightFor_91 ?_
        refine ld_l10 iX2_straightFor_93 ?_
        refine ld_l7 iX2_straightFor_95 ?_
        refine xX2_reachIn kMX2_71 iX2_straightFor_97 (by decide) (Nat.le_of_ble_eq_true rfl) rfl rfl ?_
        refine c_reachIn (hR'.of (fun k x j q1 q2 => by simp [upN]; omega)) hW ha1 (by omega) (by omega) ?_
        refine xJ9_min_f86c9 kMX2_75 iX2_straightFor_100 (by decide) (Nat.le_of_ble_eq_true rfl) rfl rfl ?_
        refine c_minL (by omega) (by omega) ?_
        refine sv_l4 (by decide) rfl iX2_straightFor_103 ?_
        refine inc_6 (by decide) rfl iX2_straightFor_105 ?_
        refine r_goto iX2_straightFor_108 ?_
        refine fg_7 (fg_9 (fg_10 ?_))
        refine ih (dA d - (a + 1)) (by omega) (a + 1) (min (f : Int) (rc d a (sumV d b w (VA d b (-1) 0 w) a) (gst d (fun a => N' 11 0 a) a))).toNat _ _ _ rfl (by omega) (by omega) (by omega) (hF.up (by omega)) (by omega) hG' (fun k hk => ?_)
        rw [cg k (by omega)]
        by_cases e : k = a
        · subst e; omega
        · have := hrc k (by omega); omega
      refine ld_i6 iX2_straightFor_7 ?_
      refine ld_a1 iX2_straightFor_9 ?_
      refine gf_X5_accounts kFX2_27 iX2_straightFor_10 ?_
      rw [hR'.1]
      refine r_icmpge iX2_straightFor_13 (by omega) (by omega) (fun h13 => ?_) (fun h13 => ?_)
      · refine ld_a0 iX2_straightFor_111 ?_
        refine gf_X2_gains kFX2_22 iX2_straightFor_112 ?_
        refine r_bipush (by decide) iX2_straightFor_115 ?_
        refine ld_a0 iX2_straightFor_117 ?_
        refine ld_a1 iX2_straightFor_118 ?_
        refine r_bipush (by decide) iX2_straightFor_119 ?_
        refine xX2_gainOfTerms kMX2_60 iX2_straightFor_121 (by decide) (Nat.le_of_ble_eq_true rfl) rfl rfl ?_
        refine c_gainOfTerms (a := 6) hR' hW (Or.inr rfl) ?_
        refine as_11 (n := 6) (by omega) (by omega) iX2_straightFor_124 ?_
        refine ld_l4 iX2_straightFor_125 ?_
        refine r_l2i iX2_straightFor_127 ?_
        refine t_int rfl iX2_straightFor_128 ?_
        have e : a = dA d := by omega
        subst e
        have c6 : ∀ k, (k < dA d ∨ k = 6) → gst d (fun j => upN N' 11 0 6 (gst d (fun k => N' 11 0 k) 6) 11 0 j) k = gst d (fun j => N' 11 0 j) k := fun k hk => gst_cong (by rcases hk with q | q; exact (hW.2.2.1 k q).2.1; rw [q]; exact hW.2.2.2) (fun j j1 j2 => upN_j (by omega))
        refine hq _ f (hF.up (by omega)) hfl (fun k hk => ?_) (fun k hk => ?_) ?_
        · rw [c6 k (Or.inl hk)]; simp only; rw [upN_j (by omega)]; exact hG k hk
        · rw [c6 k (Or.inl hk)]; exact hrc k hk
        · rw [c6 6 (Or.inr rfl), upN_eq]
      · have ha1 : a < dA d := by omega
        obtain ⟨hS, hT, hD1, hD2⟩ := hW.2.2.1 a ha1
        have vba := vb a ha1
        have sbl := SB_le (dD d a)
        have hsl := segV_lt hS (sumV d b w (VA d b (-1) 0 w) a)
        have hS2 := hS.2.1
        have hLL := hS.2.2.2.2 _ hsl
        refine ld_a0 iX2_straightFor_16 ?_
        refine ld_a1 iX2_straightFor_17 ?_
        refine ld_i6 iX2_straightFor_18 ?_
        refine xX2_gainOfTerms kMX2_60 iX2_straightFor_20 (by decide) (Nat.le_of_ble_eq_true rfl) rfl rfl ?_
        refine c_gainOfTerms hR' hW (Or.inl ha1) ?_
        refine sv_l7 (by decide) rfl iX2_straightFor_23 ?_
        refine ld_a2 iX2_straightFor_25 ?_
        refine gf_X3_segments kFX2_56 iX2_straightFor_26 ?_
        refine ld_i6 iX2_straightFor_29 ?_
        refine al_6 rfl (by omega) iX2_straightFor_31 ?_
        rw [p6, (hPt a ha1).2.2]
        refine sv_i9 (by decide) rfl iX2_straightFor_32 ?_
        refine ld_a2 iX2_straightFor_34 ?_
        refine gf_X3_sums kFX2_63 iX2_straightFor_35 ?_
        refine ld_i6 iX2_straightFor_38 ?_
        refine al_4 rfl (by omega) iX2_straightFor_40 ?_
        rw [p4, (hPt a ha1).2.1]
        refine sv_l10 (by decide) rfl iX2_straightFor_41 ?_
        refine ld_l10 iX2_straightFor_43 ?_
        refine r_lconst (v := 0) (by decide) iX2_straightFor_45 ?_
        refine r_lcge iX2_straightFor_46 iX2_straightFor_47 (by omega) (by omega) (fun h46 => ?_) (fun h46 => ?_)
        · refine ld_a0 iX2_straightFor_61 ?_
          refine gf_X2_gains kFX2_22 iX2_straightFor_62 ?_
          refine ld_i6 iX2_straightFor_65 ?_
          refine ld_l7 iX2_straightFor_67 ?_
          refine r_ldc2 (z := 1000) kKX2_66 (by decide) iX2_straightFor_69 ?_
          have gb : -10368000000000 ≤ gst d (fun a => N' 11 0 a) a ∧ gst d (fun a => N' 11 0 a) a ≤ 10368000000000 := by
            have y := gst_bd hW ha1 hG
            exact y
          refine r_ldiv (by omega) (by omega) (by omega) iX2_straightFor_72 ?_
          refine ld_a1 iX2_straightFor_73 ?_
          refine gf_X5_slopes kFX2_68 iX2_straightFor_74 ?_
          refine ld_i6 iX2_straightFor_77 ?_
          refine al_32 rfl (by omega) iX2_straightFor_79 ?_
          refine ld_i9 iX2_straightFor_80 ?_
          refine al_33 rfl (by omega) iX2_straightFor_82 ?_
          rw [((hR'.2.2.2.1 a ha1).2.2 _ hsl).2.2]
          refine r_i2l (by omega) iX2_straightFor_83 ?_
          refine r_lmul iX2_straightFor_84 ?_
          refine as_11 rfl (by omega) iX2_straightFor_85 ?_
          refine tl ha1 _ ?_
          first
            | rw [if_pos (by omega)]
            | rw [if_neg (by omega)]
        · refine ld_a0 iX2_straightFor_50 ?_
          refine gf_X2_gains kFX2_22 iX2_straightFor_51 ?_
          refine ld_i6 iX2_straightFor_54 ?_
          refine r_lconst (v := 0) (by decide) iX2_straightFor_56 ?_
          refine as_11 rfl (by omega) iX2_straightFor_57 ?_
          refine r_goto iX2_straightFor_58 ?_
          refine tl ha1 _ ?_
          first
            | rw [if_pos (by omega)]
            | rw [if_neg (by omega)]
  refine ld_i3 iX2_straightFor_0 ?_
  refine r_i2l (by omega) iX2_straightFor_1 ?_
  refine sv_l4 (by decide) rfl iX2_straightFor_2 ?_
  refine r_iconst iX2_straightFor_4 ?_
  refine sv_i6 (by decide) rfl iX2_straightFor_5 ?_
  exact loop (dA d) 0 l _ _ N (by omega) (by omega) (by omega) rfl (FrX.rf _ _ N) (Nat.le_refl _) (fun k hk => by omega) (fun k hk => by omega)
end Draw9
