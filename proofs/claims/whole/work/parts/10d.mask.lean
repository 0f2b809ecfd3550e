/-! own text: what the reference answers, on -/
theorem sg_abs (v : Int) : v * sgI v = (v.natAbs : Int) := by
  unfold sgI
  split
  · omega
  · split <;> omega
section MAsk2
variable {K : Kx} {N : Nm} {g : Ge} {d : Dk}
theorem c_mPaid {w : Int} {Pq : Int → Nm → Ge → Prop} (hM : MS N d) (h1 : N 40 0 22 = 1) (hw : 0 ≤ w ∧ w ≤ 9999) (hq : ∀ N', FrX 56 56 N N' → Pq (paid d (dB d) (-1) 0 w) N' g) : Ck K YX10_paidAt hX10_paidAt [vr 40 0, vi w] N g (qL Pq) := by
  obtain ⟨a1, a2, a3⟩ := hM.2.2 h1
  refine c_paidAt a2 a1 (hM.h h1) a1.2.1 hw (by omega) (fun a _ q => by omega) (fun N' f1 _ => ?_)
  rw [paid_hv]; exact hq N' f1
theorem c_mKept {w : Int} {Pq : Int → Nm → Ge → Prop} (hM : MS N d) (h1 : N 40 0 22 = 1) (hw : 0 ≤ w ∧ w ≤ 9999) (hq : ∀ N', FrX 56 56 N N' → Pq (w * 1000000000 - paid d (dB d) (-1) 0 w) N' g) : Ck K YX10_keptAt hX10_keptAt [vr 40 0, vi w] N g (qL Pq) := by
  obtain ⟨a1, a2, a3⟩ := hM.2.2 h1
  refine c_mKeptAt a2 a1 (hM.h h1) a1.2.1 hw (by omega) (fun a _ q => by omega) (fun N' f1 => ?_)
  rw [paid_hv]; exact hq N' f1
theorem c_side {v : Int} {Pq : Int → Nm → Ge → Prop} (hv : rL v) (hq : Pq (sgI v) N g) : Ck K YX10_side hX10_side [vl v] N g (qI Pq) := by
  refine Ck.intro 0 (by decide) rfl ?_
  show AW _ _ _ _ _ [some (vl v), none] _ _ _
  unfold sgI at hq
  refine ld_l0 iX10_side_0 ?_
  refine r_lconst (v := 0) (by decide) iX10_side_1 ?_
  refine r_lcge iX10_side_2 iX10_side_3 (by omega) (by omega) (fun h2 => ?_) (fun h2 => ?_)
  · refine ld_l0 iX10_side_10 ?_
    refine r_lconst (v := 0) (by decide) iX10_side_11 ?_
    refine r_lcle iX10_side_12 iX10_side_13 (by omega) (by omega) (fun h12 => ?_) (fun h12 => ?_)
    · refine r_iconst iX10_side_20 ?_
      refine t_int rfl iX10_side_21 ?_
      first
        | (rw [if_pos (by omega)] at hq; exact hq)
        | (rw [if_neg (by omega), if_pos (by omega)] at hq; exact hq)
        | (rw [if_neg (by omega), if_neg (by omega)] at hq; exact hq)
    · refine r_iconst iX10_side_16 ?_
      refine r_goto iX10_side_17 ?_
      refine t_int rfl iX10_side_21 ?_
      first
        | (rw [if_pos (by omega)] at hq; exact hq)
        | (rw [if_neg (by omega), if_pos (by omega)] at hq; exact hq)
        | (rw [if_neg (by omega), if_neg (by omega)] at hq; exact hq)
  · refine r_iconst iX10_side_6 ?_
    refine r_goto iX10_side_7 ?_
    refine t_int rfl iX10_side_21 ?_
    first
      | (rw [if_pos (by omega)] at hq; exact hq)
      | (rw [if_neg (by omega), if_pos (by omega)] at hq; exact hq)
      | (rw [if_neg (by omega), if_neg (by omega)] at hq; exact hq)
theorem m_more {w : Int} {Pq : Int → Nm → Ge → Prop} (hM : MS N d) (rw' : rI w) (hq1 : N 40 0 22 = 1 ∧ (0 ≤ w ∧ w < 9999) → ∀ N', FrV N N' → Pq (paid d (dB d) (-1) 0 (w + 1) - paid d (dB d) (-1) 0 w) N' g) (hq0 : ¬ (N 40 0 22 = 1 ∧ (0 ≤ w ∧ w < 9999)) → ∀ N', FrV N N' → Pq HID N' g) : Ck K YX10_more hX10_more [vr 40 0, vi w] N g (qL Pq) := by
  refine Ck.intro 0 (by decide) rfl ?_
  show AW _ _ _ _ _ [some (vr 40 0), some (vi w)] _ _ _
  refine ld_a0 iX10_more_0 ?_
  refine r_iconst iX10_more_1 ?_
  refine pf_X10_thrown kFX10_72 iX10_more_2 ?_
  obtain ⟨N1, hN1, f0⟩ : ∃ N1, N1 = upN N 40 0 0 0 ∧ FrV N N1 := ⟨_, rfl, thr_v N⟩
  rw [← hN1]
  clear hN1
  have hM1 := hM.v f0
  have h22 : N1 40 0 22 = N 40 0 22 := f0 40 0 22 (by omega) (by omega)
  have h01 := hM1.1
  refine ld_a0 iX10_more_5 ?_
  refine gf_X10_isDesk kFX10_165 iX10_more_6 ?_
  refine r_ifeq iX10_more_9 (by omega) (fun h9 => ?_) (fun h9 => ?_)
  · refine r_ldc2 (z := -9000000000000000000) kKX10_254 (by decide) iX10_more_40 ?_
    refine t_long rfl iX10_more_43 ?_
    first
      | exact hq0 (by omega) _ f0
      | exact hq1 ⟨by omega, by omega⟩ _ (f0.tr ((e1.tr e2).v (by omega) (by omega)))
  · refine ld_i1 iX10_more_12 ?_
    refine r_i2l (by omega) iX10_more_13 ?_
    refine r_lconst (v := 0) (by decide) iX10_more_14 ?_
    refine r_ldc2 (z := 9998) kKX10_265 (by decide) iX10_more_15 ?_
    refine xX10_in kMX10_82 iX10_more_18 (by decide) (Nat.le_of_ble_eq_true rfl) rfl rfl ?_
    refine c_in (by omega) (by omega) (by omega) ?_
    refine r_ifeq iX10_more_21 (by exact tf_r _) (fun h21 => ?_) (fun h21 => ?_)
    · have h21 := tf_n h21
      refine r_ldc2 (z := -9000000000000000000) kKX10_254 (by decide) iX10_more_40 ?_
      refine t_long rfl iX10_more_43 ?_
      first
        | exact hq0 (by omega) _ f0
        | exact hq1 ⟨by omega, by omega⟩ _ (f0.tr ((e1.tr e2).v (by omega) (by omega)))
    · have h21 := tf_y h21
      refine ld_a0 iX10_more_24 ?_
      refine ld_i1 iX10_more_25 ?_
      refine r_iconst iX10_more_26 ?_
      refine r_iadd iX10_more_27 ?_
      refine xX10_paidAt kMX10_212 iX10_more_28 (by decide) (Nat.le_of_ble_eq_true rfl) rfl rfl ?_
      refine c_mPaid hM1 (by omega) (by omega) (fun N2 e1 => ?_)
      refine ld_a0 iX10_more_31 ?_
      refine ld_i1 iX10_more_32 ?_
      refine xX10_paidAt kMX10_212 iX10_more_33 (by decide) (Nat.le_of_ble_eq_true rfl) rfl rfl ?_
      refine c_mPaid (hM1.v (e1.v (by omega) (by omega))) (by rw [e1 40 _ _ (by omega)]; omega) (by omega) (fun N3 e2 => ?_)
      refine r_lsub iX10_more_36 ?_
      refine r_goto iX10_more_37 ?_
      refine t_long rfl iX10_more_43 ?_
      first
        | exact hq0 (by omega) _ f0
        | exact hq1 ⟨by omega, by omega⟩ _ (f0.tr ((e1.tr e2).v (by omega) (by omega)))
theorem m_kept {w : Int} {Pq : Int → Nm → Ge → Prop} (hM : MS N d) (rw' : rI w) (hq1 : N 40 0 22 = 1 ∧ (0 ≤ w ∧ w ≤ 9999) → ∀ N', FrV N N' → Pq (w * 1000000000 - paid d (dB d) (-1) 0 w) N' g) (hq0 : ¬ (N 40 0 22 = 1 ∧ (0 ≤ w ∧ w ≤ 9999)) → ∀ N', FrV N N' → Pq HID N' g) : Ck K YX10_kept hX10_kept [vr 40 0, vi w] N g (qL Pq) := by
  refine Ck.intro 0 (by decide) rfl ?_
  show AW _ _ _ _ _ [some (vr 40 0), some (vi w)] _ _ _
  refine ld_a0 iX10_kept_0 ?_
  refine r_iconst iX10_kept_1 ?_
  refine pf_X10_thrown kFX10_72 iX10_kept_2 ?_
  obtain ⟨N1, hN1, f0⟩ : ∃ N1, N1 = upN N 40 0 0 0 ∧ FrV N N1 := ⟨_, rfl, thr_v N⟩
  rw [← hN1]
  clear hN1
  have hM1 := hM.v f0
  have h22 : N1 40 0 22 = N 40 0 22 := f0 40 0 22 (by omega) (by omega)
  have h01 := hM1.1
  refine ld_a0 iX10_kept_5 ?_
  refine ld_i1 iX10_kept_6 ?_
  refine xX10_isWage kMX10_251 iX10_kept_7 (by decide) (Nat.le_of_ble_eq_true rfl) rfl rfl ?_
  refine c_mIsWage hM1 rw' ?_
  refine r_ifeq iX10_kept_10 (by exact tf_r _) (fun h10 => ?_) (fun h10 => ?_)
  · have h10 := tf_n h10
    refine r_ldc2 (z := -9000000000000000000) kKX10_254 (by decide) iX10_kept_21 ?_
    refine t_long rfl iX10_kept_24 ?_
    first
      | exact hq0 (by omega) _ f0
      | exact hq1 ⟨by omega, h10.2⟩ _ (f0.tr (e1.v (by omega) (by omega)))
  · have h10 := tf_y h10
    refine ld_a0 iX10_kept_13 ?_
    refine ld_i1 iX10_kept_14 ?_
    refine xX10_keptAt kMX10_267 iX10_kept_15 (by decide) (Nat.le_of_ble_eq_true rfl) rfl rfl ?_
    refine c_mKept hM1 h10.1 h10.2 (fun N2 e1 => ?_)
    refine r_goto iX10_kept_18 ?_
    refine t_long rfl iX10_kept_24 ?_
    first
      | exact hq0 (by omega) _ f0
      | exact hq1 ⟨by omega, h10.2⟩ _ (f0.tr (e1.v (by omega) (by omega)))
theorem m_status {w : Int} {Pq : Int → Nm → Ge → Prop} (hM : MS N d) (rw' : rI w) (hq1 : 0 ≤ w ∧ w ≤ 3 → ∀ N', FrV N N' → Pq (N 54 0 w.toNat) N' g) (hq0 : ¬ (0 ≤ w ∧ w ≤ 3) → ∀ N', FrV N N' → Pq (-1) N' g) : Ck K YX10_status hX10_status [vr 40 0, vi w] N g (qI Pq) := by
  refine Ck.intro 0 (by decide) rfl ?_
  show AW _ _ _ _ _ [some (vr 40 0), some (vi w)] _ _ _
  refine ld_a0 iX10_status_0 ?_
  refine r_iconst iX10_status_1 ?_
  refine pf_X10_thrown kFX10_72 iX10_status_2 ?_
  obtain ⟨N1, hN1, f0⟩ : ∃ N1, N1 = upN N 40 0 0 0 ∧ FrV N N1 := ⟨_, rfl, thr_v N⟩
  rw [← hN1]
  clear hN1
  have hM1 := hM.v f0
  have h22 : N1 40 0 22 = N 40 0 22 := f0 40 0 22 (by omega) (by omega)
  have h01 := hM1.1
  refine ld_i1 iX10_status_5 ?_
  refine r_i2l (by omega) iX10_status_6 ?_
  refine r_lconst (v := 0) (by decide) iX10_status_7 ?_
  refine r_ldc2 (z := 3) kKX10_239 (by decide) iX10_status_8 ?_
  refine xX10_in kMX10_82 iX10_status_11 (by decide) (Nat.le_of_ble_eq_true rfl) rfl rfl ?_
  refine c_in (by omega) (by omega) (by omega) ?_
  refine r_ifeq iX10_status_14 (by exact tf_r _) (fun h14 => ?_) (fun h14 => ?_)
  · have h14 := tf_n h14
    refine r_iconst iX10_status_26 ?_
    refine t_int rfl iX10_status_27 ?_
    first
      | exact hq0 (by omega) _ f0
      | exact hq1 (by omega) _ f0
  · have h14 := tf_y h14
    refine ld_a0 iX10_status_17 ?_
    refine gf_X10_refused kFX10_49 iX10_status_18 ?_
    refine ld_i1 iX10_status_21 ?_
    refine al_54 (n := (w.toNat)) (by omega) (by omega) iX10_status_22 ?_
    rw [f0 54 0 w.toNat (by omega) (by omega)]
    refine r_goto iX10_status_23 ?_
    refine t_int rfl iX10_status_27 ?_
    first
      | exact hq0 (by omega) _ f0
      | exact hq1 (by omega) _ f0
theorem m_rule {w : Int} {Pq : Int → Nm → Ge → Prop} (hM : MS N d) (rw' : rI w) (hq1 : N 40 0 22 = 1 ∧ (0 ≤ w ∧ w ≤ 5) → ∀ (r : Int) N', (w = 0 → r = dA d) ∧ (w = 1 → r = dB d) ∧ (w = 2 → r = N 40 0 25) ∧ (w = 3 → r = dT d 6) ∧ (w = 4 → ∃ P s, Ps (PD d) P s ∧ r = P) ∧ (w = 5 → r = ct (clB (PD d)) 10000) → FrV N N' → Pq r N' g) (hq0 : ¬ (N 40 0 22 = 1 ∧ (0 ≤ w ∧ w ≤ 5)) → ∀ N', FrV N N' → Pq (-1) N' g) : Ck K YX10_rule hX10_rule [vr 40 0, vi w] N g (qI Pq) := by
  refine Ck.intro 0 (by decide) rfl ?_
  show AW _ _ _ _ _ [some (vr 40 0), some (vi w)] _ _ _
  refine ld_a0 iX10_rule_0 ?_
  refine r_iconst iX10_rule_1 ?_
  refine pf_X10_thrown kFX10_72 iX10_rule_2 ?_
  obtain ⟨N1, hN1, f0⟩ : ∃ N1, N1 = upN N 40 0 0 0 ∧ FrV N N1 := ⟨_, rfl, thr_v N⟩
  rw [← hN1]
  clear hN1
  have hM1 := hM.v f0
  have h22 : N1 40 0 22 = N 40 0 22 := f0 40 0 22 (by omega) (by omega)
  have h01 := hM1.1
  refine ld_a0 iX10_rule_5 ?_
  refine gf_X10_isDesk kFX10_165 iX10_rule_6 ?_
  refine r_ifeq iX10_rule_9 (by omega) (fun h9 => ?_) (fun h9 => ?_)
  · refine r_iconst iX10_rule_24 ?_
    refine t_int rfl iX10_rule_25 ?_
    exact hq0 (by omega) _ f0
  · refine ld_i1 iX10_rule_12 ?_
    refine r_i2l (by omega) iX10_rule_13 ?_
    refine r_lconst (v := 0) (by decide) iX10_rule_14 ?_
    refine r_ldc2 (z := 5) kKX10_231 (by decide) iX10_rule_15 ?_
    refine xX10_in kMX10_82 iX10_rule_18 (by decide) (Nat.le_of_ble_eq_true rfl) rfl rfl ?_
    refine c_in (by omega) (by omega) (by omega) ?_
    refine r_ifne iX10_rule_21 (by exact tf_r _) (fun h21 => ?_) (fun h21 => ?_)
    · have h21 := tf_y h21
      obtain ⟨a1, a2, a3⟩ := hM1.2.2 (by omega)
      refine ld_i1 iX10_rule_26 ?_
      refine r_tsw5 (tg0 := 60) (tg1 := 65) (tg2 := 70) (tg3 := 75) (tg4 := 83) (tgd := 89) iX10_rule_27 (by omega) rfl rfl rfl rfl rfl rfl (fun h27 => ?_) (fun h27 => ?_) (fun h27 => ?_) (fun h27 => ?_) (fun h27 => ?_) (fun h27 => ?_)
      · refine ld_a0 iX10_rule_60 ?_
        refine gf_X10_accounts kFX10_159 iX10_rule_61 ?_
        refine t_int rfl iX10_rule_64 ?_
        exact hq1 ⟨by omega, by omega⟩ _ _ ⟨fun _ => a2.1, fun q => by omega, fun q => by omega, fun q => by omega, fun q => by omega, fun q => by omega⟩ f0
      · refine ld_a0 iX10_rule_65 ?_
        refine gf_X10_benefit kFX10_162 iX10_rule_66 ?_
        refine t_int rfl iX10_rule_69 ?_
        exact hq1 ⟨by omega, by omega⟩ _ _ ⟨fun q => by omega, fun _ => a3, fun q => by omega, fun q => by omega, fun q => by omega, fun q => by omega⟩ f0
      · refine ld_a0 iX10_rule_70 ?_
        refine gf_X10_months kFX10_168 iX10_rule_71 ?_
        refine t_int rfl iX10_rule_74 ?_
        exact hq1 ⟨by omega, by omega⟩ _ _ ⟨fun q => by omega, fun q => by omega, fun _ => f0 40 0 25 (by omega) (by omega), fun q => by omega, fun q => by omega, fun q => by omega⟩ f0
      · refine ld_a0 iX10_rule_75 ?_
        refine gf_X10_terms kFX10_16 iX10_rule_76 ?_
        refine r_bipush (by decide) iX10_rule_79 ?_
        refine al_43 (n := 6) (by omega) (by omega) iX10_rule_81 ?_
        refine t_int rfl iX10_rule_82 ?_
        exact hq1 ⟨by omega, by omega⟩ _ _ ⟨fun q => by omega, fun q => by omega, fun q => by omega, fun _ => (a2.2.1 6 (Or.inr rfl)).1, fun q => by omega, fun q => by omega⟩ f0
      · refine ld_a0 iX10_rule_83 ?_
        refine r_iconst iX10_rule_84 ?_
        refine xX10_piecesOf kMX10_233 iX10_rule_85 (by decide) (Nat.le_of_ble_eq_true rfl) rfl rfl ?_
        refine c_piecesOf hM1 (by omega) (by omega) (fun N2 P s e1 e2 e3 e4 => ?_)
        refine t_int rfl iX10_rule_88 ?_
        exact hq1 ⟨by omega, by omega⟩ _ _ ⟨fun q => by omega, fun q => by omega, fun q => by omega, fun q => by omega, fun _ => ⟨P, s, e4, rfl⟩, fun q => by omega⟩ (f0.tr e1)
      · refine ld_a0 iX10_rule_89 ?_
        refine r_iconst iX10_rule_90 ?_
        refine xX10_laysLine kMX10_219 iX10_rule_91 (by decide) (Nat.le_of_ble_eq_true rfl) rfl rfl ?_
        refine c_laysLine hM1 (by omega) (by omega) (fun N2 e1 e2 => ?_)
        refine ld_a0 iX10_rule_94 ?_
        refine xX10_cliffsOf kMX10_236 iX10_rule_95 (by decide) (Nat.le_of_ble_eq_true rfl) rfl rfl ?_
        refine c_cliffsOf e2 ?_
        refine t_int rfl iX10_rule_98 ?_
        exact hq1 ⟨by omega, by omega⟩ _ _ ⟨fun q => by omega, fun q => by omega, fun q => by omega, fun q => by omega, fun q => by omega, fun _ => rfl⟩ (f0.tr (e1.v (by omega) (by omega)))
    · have h21 := tf_n h21
      refine r_iconst iX10_rule_24 ?_
      refine t_int rfl iX10_rule_25 ?_
      exact hq0 (by omega) _ f0
theorem segL {A S : Nat} {w : Int} {Pq : Int → Nm → Ge → Prop} (hM : MS N d) (h1 : N 40 0 22 = 1) (hA : A < dA d) (hS : S < 10) (hq : ∀ N', FrV N N' → Pq (ct (fun u => decide (sgW d (dB d) A u = S)) 10000) N' g) :
    ∀ (n u : Nat) (t c : Int) (N' : Nm), 10000 - u = n → u ≤ 10000 → c = u → t = ct (fun u => decide (sgW d (dB d) A u = S)) u → FrV N N' → AW K YX10_segment hX10_segment (qI Pq) 48 [some (vr 40 0), some (vi A), some (vi S), some (vi w), some (vi t), some (vi c)] [] N' g := by
  intro n
  induction n using Nat.strongRecOn with
  | _ n ih =>
    intro u t c N' e hu hc ht hF
    subst hc
    have hM' := hM.v hF
    have h1' : N' 40 0 22 = 1 := by rw [hF 40 0 22 (by omega) (by omega)]; exact h1
    obtain ⟨a1, a2, a3⟩ := hM'.2.2 h1'
    have hsl := segV_lt (a1.2.2.1 A hA).1 (sumV d (dB d) u (VA d (dB d) (-1) 0 u) A)
    have hS6 := (a1.2.2.1 A hA).1.2.1
    refine ld_i5 iX10_segment_48 ?_
    refine r_sipush (by decide) iX10_segment_50 ?_
    refine r_icmpge iX10_segment_53 (by omega) (by omega) (fun h53 => ?_) (fun h53 => ?_)
    · refine ld_i4 iX10_segment_83 ?_
      refine t_int rfl iX10_segment_85 ?_
      have e : u = 10000 := by omega
      rw [ht, e]; exact hq N' hF
    · refine ld_i4 iX10_segment_56 ?_
      refine ld_a0 iX10_segment_58 ?_
      refine ld_i1 iX10_segment_59 ?_
      refine ld_i5 iX10_segment_60 ?_
      refine xX10_segmentAt kMX10_245 iX10_segment_62 (by decide) (Nat.le_of_ble_eq_true rfl) rfl rfl ?_
      refine c_mSegmentAt a2 a1 (hM'.h h1') a1.2.1 (by omega) (by omega) (fun a _ q => by omega) hA (fun N2 e1 => ?_)
      rw [VA_hv]
      refine ld_i2 iX10_segment_65 ?_
      refine r_icmpne iX10_segment_66 (by omega) (by omega) (fun h66 => ?_) (fun h66 => ?_)
      · refine r_iconst iX10_segment_73 ?_
        refine r_iadd iX10_segment_74 ?_
        refine sv_i4 (by decide) rfl iX10_segment_75 ?_
        refine inc_5 (by decide) rfl iX10_segment_77 ?_
        refine r_goto iX10_segment_80 ?_
        first
          | exact ih (10000 - (u + 1)) (by omega) (u + 1) _ _ _ rfl (by omega) (by omega) (by rw [ct, show decide (sgW d (dB d) A u = S) = true from decide_eq_true (by unfold sgW; omega), ht]; simp) (hF.tr (e1.v (by omega) (by omega)))
          | exact ih (10000 - (u + 1)) (by omega) (u + 1) _ _ _ rfl (by omega) (by omega) (by rw [ct, show decide (sgW d (dB d) A u = S) = false from decide_eq_false (by unfold sgW; omega), ht]; simp) (hF.tr (e1.v (by omega) (by omega)))
      · refine r_iconst iX10_segment_69 ?_
        refine r_goto iX10_segment_70 ?_
        refine r_iadd iX10_segment_74 ?_
        refine sv_i4 (by decide) rfl iX10_segment_75 ?_
        refine inc_5 (by decide) rfl iX10_segment_77 ?_
        refine r_goto iX10_segment_80 ?_
        first
          | exact ih (10000 - (u + 1)) (by omega) (u + 1) _ _ _ rfl (by omega) (by omega) (by rw [ct, show decide (sgW d (dB d) A u = S) = true from decide_eq_true (by unfold sgW; omega), ht]; simp) (hF.tr (e1.v (by omega) (by omega)))
          | exact ih (10000 - (u + 1)) (by omega) (u + 1) _ _ _ rfl (by omega) (by omega) (by rw [ct, show decide (sgW d (dB d) A u = S) = false from decide_eq_false (by unfold sgW; omega), ht]; simp) (hF.tr (e1.v (by omega) (by omega)))
theorem m_segment {a s w : Int} {Pq : Int → Nm → Ge → Prop} (hM : MS N d) (ra : rI a) (rs : rI s) (rw' : rI w) (hq1 : N 40 0 22 = 1 ∧ IsSg d a s ∧ (0 ≤ w ∧ w ≤ 3) → ∀ N', FrV N N' → Pq (if w = 0 then dF d a.toNat s.toNat else if w = 1 then dE d a.toNat s.toNat else if w = 2 then dL d a.toNat s.toNat else ct (fun u => decide (sgW d (dB d) a.toNat u = s.toNat)) 10000) N' g) (hq0 : ¬ (N 40 0 22 = 1 ∧ IsSg d a s ∧ (0 ≤ w ∧ w ≤ 3)) → ∀ N', FrV N N' → Pq (-2) N' g) : Ck K YX10_segment hX10_segment [vr 40 0, vi a, vi s, vi w] N g (qI Pq) := by
  refine Ck.intro 2 (by decide) rfl ?_
  show AW _ _ _ _ _ [some (vr 40 0), some (vi a), some (vi s), some (vi w), none, none] _ _ _
  refine ld_a0 iX10_segment_0 ?_
  refine r_iconst iX10_segment_1 ?_
  refine pf_X10_thrown kFX10_72 iX10_segment_2 ?_
  obtain ⟨N1, hN1, f0⟩ : ∃ N1, N1 = upN N 40 0 0 0 ∧ FrV N N1 := ⟨_, rfl, thr_v N⟩
  rw [← hN1]
  clear hN1
  have hM1 := hM.v f0
  have h22 : N1 40 0 22 = N 40 0 22 := f0 40 0 22 (by omega) (by omega)
  have h01 := hM1.1
  refine ld_a0 iX10_segment_5 ?_
  refine ld_i1 iX10_segment_6 ?_
  refine ld_i2 iX10_segment_7 ?_
  refine xX10_isSegment kMX10_241 iX10_segment_8 (by decide) (Nat.le_of_ble_eq_true rfl) rfl rfl ?_
  refine c_mIsSegment hM1 ra rs (fun z hz => ?_)
  refine r_ifeq iX10_segment_11 (by omega) (fun h11 => ?_) (fun h11 => ?_)
  · have hz := (hz.resolve_left (fun q => by omega)).2
    refine r_bipush (by decide) iX10_segment_26 ?_
    refine t_int rfl iX10_segment_28 ?_
    first
      | exact hq0 (fun q => hz ⟨by omega, q.2.1⟩) _ f0
      | exact hq0 (fun q => h23 q.2.2) _ f0
  · have hz := (hz.resolve_right (fun q => by omega)).2
    obtain ⟨a1, a2, a3⟩ := hM1.2.2 hz.1
    have hA := a1.1
    have hsg := hz.2
    unfold IsSg at hsg
    have hS6 := (a1.2.2.1 a.toNat (by omega)).1.2.1
    have rr := (a2.2.2 a.toNat (by omega)).2.2 s.toNat (by omega)
    refine ld_i3 iX10_segment_14 ?_
    refine r_i2l (by omega) iX10_segment_15 ?_
    refine r_lconst (v := 0) (by decide) iX10_segment_16 ?_
    refine r_ldc2 (z := 3) kKX10_239 (by decide) iX10_segment_17 ?_
    refine xX10_in kMX10_82 iX10_segment_20 (by decide) (Nat.le_of_ble_eq_true rfl) rfl rfl ?_
    refine c_in (by omega) (by omega) (by omega) ?_
    refine r_ifne iX10_segment_23 (by exact tf_r _) (fun h23 => ?_) (fun h23 => ?_)
    · have h23 := tf_y h23
      have y := hq1 ⟨by omega, hz.2, h23⟩
      refine ld_i3 iX10_segment_29 ?_
      refine r_iconst iX10_segment_30 ?_
      refine r_icmpge iX10_segment_31 (by omega) (by omega) (fun h31 => ?_) (fun h31 => ?_)
      · refine r_iconst iX10_segment_42 ?_
        refine sv_i4 (by decide) rfl iX10_segment_43 ?_
        refine r_iconst iX10_segment_45 ?_
        refine sv_i5 (by decide) rfl iX10_segment_46 ?_
        obtain ⟨A, hA1⟩ : ∃ A : Nat, a = A := ⟨a.toNat, by omega⟩
        obtain ⟨S, hS1⟩ : ∃ S : Nat, s = S := ⟨s.toNat, by omega⟩
        subst hA1
        subst hS1
        simp only [Int.toNat_natCast] at y hsg hS6
        rw [if_neg (by omega), if_neg (by omega), if_neg (by omega)] at y
        exact segL hM1 hz.1 (by omega) (by omega) (fun N2 e1 => y N2 (f0.tr e1)) 10000 0 _ _ N1 (by omega) (by omega) (by omega) rfl (FrV.rf N1)
      · refine ld_a0 iX10_segment_34 ?_
        refine ld_i1 iX10_segment_35 ?_
        refine ld_i2 iX10_segment_36 ?_
        refine ld_i3 iX10_segment_37 ?_
        refine xX10_part kMX10_180 iX10_segment_38 (by decide) (Nat.le_of_ble_eq_true rfl) rfl rfl ?_
        refine c_part (3 * (6 * a.toNat + s.toNat) + w.toNat) (by omega) (by omega) ?_
        refine t_int rfl iX10_segment_41 ?_
        have y := y _ f0
        rcases (show w = 0 ∨ w = 1 ∨ w = 2 by omega) with e | e | e <;> subst e
        · rw [if_pos rfl] at y; rw [show 3 * (6 * a.toNat + s.toNat) + (0 : Int).toNat = 3 * (6 * a.toNat + s.toNat) from rfl, rr.1]; exact y
        · rw [if_neg (by omega), if_pos rfl] at y; rw [show (1 : Int).toNat = 1 from rfl, rr.2.1]; exact y
        · rw [if_neg (by omega), if_neg (by omega), if_pos rfl] at y; rw [show (2 : Int).toNat = 2 from rfl, rr.2.2]; exact y
    · have h23 := tf_n h23
      refine r_bipush (by decide) iX10_segment_26 ?_
      refine t_int rfl iX10_segment_28 ?_
      first
        | exact hq0 (fun q => hz ⟨by omega, q.2.1⟩) _ f0
        | exact hq0 (fun q => h23 q.2.2) _ f0
end MAsk2
