/-! own text: what the reference answers -/
theorem thr_v (N : Nm) : FrV N (upN N 40 0 0 0) := (FrV.rf N).up (by omega)
section MAsk
variable {K : Kx} {N : Nm} {g : Ge} {d : Dk}
theorem c_mIsWage {w : Int} {Pq : Int → Nm → Ge → Prop} (hM : MS N d) (hw : rI w) (hq : Pq (tf (N 40 0 22 = 1 ∧ 0 ≤ w ∧ w ≤ 9999)) N g) : Ck K YX10_isWage hX10_isWage [vr 40 0, vi w] N g (qI Pq) := by
  have h01 := hM.1
  refine Ck.intro 0 (by decide) rfl ?_
  show AW _ _ _ _ _ [some (vr 40 0), some (vi w)] _ _ _
  have tl : ∀ z : Int, z = tf (N 40 0 22 = 1 ∧ 0 ≤ w ∧ w ≤ 9999) → AW K YX10_isWage hX10_isWage (qI Pq) 24 [some (vr 40 0), some (vi w)] [vi z] N g := by
    intro z hz
    have hz2 := tf_b (N 40 0 22 = 1 ∧ 0 ≤ w ∧ w ≤ 9999)
    rw [← hz] at hq hz2
    refine t_bool rfl (by omega) iX10_isWage_24 ?_
    exact hq
  refine ld_a0 iX10_isWage_0 ?_
  refine gf_X10_isDesk kFX10_165 iX10_isWage_1 ?_
  refine r_ifeq iX10_isWage_4 (by omega) (fun h4 => ?_) (fun h4 => ?_)
  · refine r_iconst iX10_isWage_23 ?_
    refine tl _ ?_
    unfold tf
    first
      | rw [if_pos (by omega)]
      | rw [if_neg (by omega)]
  · refine ld_i1 iX10_isWage_7 ?_
    refine r_i2l (by omega) iX10_isWage_8 ?_
    refine r_lconst (v := 0) (by decide) iX10_isWage_9 ?_
    refine r_ldc2 (z := 9999) kKX10_173 (by decide) iX10_isWage_10 ?_
    refine xX10_in kMX10_82 iX10_isWage_13 (by decide) (Nat.le_of_ble_eq_true rfl) rfl rfl ?_
    refine c_in (by omega) (by omega) (by omega) ?_
    refine r_ifeq iX10_isWage_16 (by exact tf_r _) (fun h16 => ?_) (fun h16 => ?_)
    · have h16 := tf_n h16
      refine r_iconst iX10_isWage_23 ?_
      refine tl _ ?_
      unfold tf
      first
        | rw [if_pos (by omega)]
        | rw [if_neg (by omega)]
    · have h16 := tf_y h16
      refine r_iconst iX10_isWage_19 ?_
      refine r_goto iX10_isWage_20 ?_
      refine tl _ ?_
      unfold tf
      first
        | rw [if_pos (by omega)]
        | rw [if_neg (by omega)]
theorem c_mIsAccount {a : Int} {Pq : Int → Nm → Ge → Prop} (hM : MS N d) (hr : rI a) (hq : Pq (tf (N 40 0 22 = 1 ∧ 0 ≤ a ∧ a < dA d)) N g) : Ck K YX10_isAccount hX10_isAccount [vr 40 0, vi a] N g (qI Pq) := by
  have h01 := hM.1
  refine Ck.intro 0 (by decide) rfl ?_
  show AW _ _ _ _ _ [some (vr 40 0), some (vi a)] _ _ _
  have tl : ∀ z : Int, z = tf (N 40 0 22 = 1 ∧ 0 ≤ a ∧ a < dA d) → AW K YX10_isAccount hX10_isAccount (qI Pq) 28 [some (vr 40 0), some (vi a)] [vi z] N g := by
    intro z hz
    have hz2 := tf_b (N 40 0 22 = 1 ∧ 0 ≤ a ∧ a < dA d)
    rw [← hz] at hq hz2
    refine t_bool rfl (by omega) iX10_isAccount_28 ?_
    exact hq
  refine ld_a0 iX10_isAccount_0 ?_
  refine gf_X10_isDesk kFX10_165 iX10_isAccount_1 ?_
  refine r_ifeq iX10_isAccount_4 (by omega) (fun h4 => ?_) (fun h4 => ?_)
  · refine r_iconst iX10_isAccount_27 ?_
    refine tl _ ?_
    unfold tf
    first
      | rw [if_pos (by omega)]
      | rw [if_neg (by omega)]
  · obtain ⟨a1, a2, a3⟩ := hM.2.2 (by omega)
    have hA := a1.1
    refine ld_i1 iX10_isAccount_7 ?_
    refine r_i2l (by omega) iX10_isAccount_8 ?_
    refine r_lconst (v := 0) (by decide) iX10_isAccount_9 ?_
    refine ld_a0 iX10_isAccount_10 ?_
    refine gf_X10_accounts kFX10_159 iX10_isAccount_11 ?_
    rw [a2.1]
    refine r_iconst iX10_isAccount_14 ?_
    refine r_isub iX10_isAccount_15 ?_
    refine r_i2l (by omega) iX10_isAccount_16 ?_
    refine xX10_in kMX10_82 iX10_isAccount_17 (by decide) (Nat.le_of_ble_eq_true rfl) rfl rfl ?_
    refine c_in (by omega) (by omega) (by omega) ?_
    refine r_ifeq iX10_isAccount_20 (by exact tf_r _) (fun h20 => ?_) (fun h20 => ?_)
    · have h20 := tf_n h20
      refine r_iconst iX10_isAccount_27 ?_
      refine tl _ ?_
      unfold tf
      first
        | rw [if_pos (by omega)]
        | rw [if_neg (by omega)]
    · have h20 := tf_y h20
      refine r_iconst iX10_isAccount_23 ?_
      refine r_goto iX10_isAccount_24 ?_
      refine tl _ ?_
      unfold tf
      first
        | rw [if_pos (by omega)]
        | rw [if_neg (by omega)]
theorem c_mIsLine {a : Int} {Pq : Int → Nm → Ge → Prop} (hM : MS N d) (hr : rI a) (hq : Pq (tf (N 40 0 22 = 1 ∧ -1 ≤ a ∧ a < dA d)) N g) : Ck K YX10_isLine hX10_isLine [vr 40 0, vi a] N g (qI Pq) := by
  have h01 := hM.1
  refine Ck.intro 0 (by decide) rfl ?_
  show AW _ _ _ _ _ [some (vr 40 0), some (vi a)] _ _ _
  have tl : ∀ z : Int, z = tf (N 40 0 22 = 1 ∧ -1 ≤ a ∧ a < dA d) → AW K YX10_isLine hX10_isLine (qI Pq) 30 [some (vr 40 0), some (vi a)] [vi z] N g := by
    intro z hz
    have hz2 := tf_b (N 40 0 22 = 1 ∧ -1 ≤ a ∧ a < dA d)
    rw [← hz] at hq hz2
    refine t_bool rfl (by omega) iX10_isLine_30 ?_
    exact hq
  refine ld_a0 iX10_isLine_0 ?_
  refine gf_X10_isDesk kFX10_165 iX10_isLine_1 ?_
  refine r_ifeq iX10_isLine_4 (by omega) (fun h4 => ?_) (fun h4 => ?_)
  · refine r_iconst iX10_isLine_29 ?_
    refine tl _ ?_
    unfold tf
    first
      | rw [if_pos (by omega)]
      | rw [if_neg (by omega)]
  · obtain ⟨a1, a2, a3⟩ := hM.2.2 (by omega)
    have hA := a1.1
    refine ld_i1 iX10_isLine_7 ?_
    refine r_i2l (by omega) iX10_isLine_8 ?_
    refine r_ldc2 (z := -1) kKX10_171 (by decide) iX10_isLine_9 ?_
    refine ld_a0 iX10_isLine_12 ?_
    refine gf_X10_accounts kFX10_159 iX10_isLine_13 ?_
    rw [a2.1]
    refine r_iconst iX10_isLine_16 ?_
    refine r_isub iX10_isLine_17 ?_
    refine r_i2l (by omega) iX10_isLine_18 ?_
    refine xX10_in kMX10_82 iX10_isLine_19 (by decide) (Nat.le_of_ble_eq_true rfl) rfl rfl ?_
    refine c_in (by omega) (by omega) (by omega) ?_
    refine r_ifeq iX10_isLine_22 (by exact tf_r _) (fun h22 => ?_) (fun h22 => ?_)
    · have h22' := tf_n h22
      refine r_iconst iX10_isLine_29 ?_
      refine tl _ ?_
      unfold tf
      first
        | rw [if_pos (by omega)]
        | rw [if_neg (by omega)]
    · have h22' := tf_y h22
      refine r_iconst iX10_isLine_25 ?_
      refine r_goto iX10_isLine_26 ?_
      refine tl _ ?_
      unfold tf
      first
        | rw [if_pos (by omega)]
        | rw [if_neg (by omega)]
theorem c_mIsSegment {a s : Int} {Pq : Int → Nm → Ge → Prop} (hM : MS N d) (hr : rI a) (hs : rI s) (hq : ∀ z : Int, (z = 1 ∧ N 40 0 22 = 1 ∧ IsSg d a s) ∨ (z = 0 ∧ ¬ (N 40 0 22 = 1 ∧ IsSg d a s)) → Pq z N g) : Ck K YX10_isSegment hX10_isSegment [vr 40 0, vi a, vi s] N g (qI Pq) := by
  have h01 := hM.1
  refine Ck.intro 0 (by decide) rfl ?_
  show AW _ _ _ _ _ [some (vr 40 0), some (vi a), some (vi s)] _ _ _
  have t0 : ¬ (N 40 0 22 = 1 ∧ IsSg d a s) → AW K YX10_isSegment hX10_isSegment (qI Pq) 30 [some (vr 40 0), some (vi a), some (vi s)] [] N g := by
    intro hn
    refine r_iconst iX10_isSegment_30 ?_
    refine t_bool rfl (by omega) iX10_isSegment_31 ?_
    exact hq 0 (Or.inr ⟨rfl, hn⟩)
  refine ld_a0 iX10_isSegment_0 ?_
  refine ld_i1 iX10_isSegment_1 ?_
  refine xX10_isAccount kMX10_175 iX10_isSegment_2 (by decide) (Nat.le_of_ble_eq_true rfl) rfl rfl ?_
  refine c_mIsAccount hM hr ?_
  refine r_ifeq iX10_isSegment_5 (by exact tf_r _) (fun h5 => ?_) (fun h5 => ?_)
  · have h5 := tf_n h5
    refine t0 (fun hc => ?_)
    unfold IsSg at hc
    omega
  · have h5 := tf_y h5
    obtain ⟨a1, a2, a3⟩ := hM.2.2 (by omega)
    have hA := a1.1
    have hS6 := (a1.2.2.1 a.toNat (by omega)).1.2.1
    have r49 := (a2.2.2 a.toNat (by omega)).2.1
    refine ld_i2 iX10_isSegment_8 ?_
    refine r_i2l (by omega) iX10_isSegment_9 ?_
    refine r_lconst (v := 0) (by decide) iX10_isSegment_10 ?_
    refine ld_a0 iX10_isSegment_11 ?_
    refine gf_X10_many kFX10_34 iX10_isSegment_12 ?_
    refine ld_i1 iX10_isSegment_15 ?_
    refine al_49 (n := (a.toNat)) (by omega) (by omega) iX10_isSegment_16 ?_
    rw [r49]
    refine r_iconst iX10_isSegment_17 ?_
    refine r_isub iX10_isSegment_18 ?_
    refine r_i2l (by omega) iX10_isSegment_19 ?_
    refine xX10_in kMX10_82 iX10_isSegment_20 (by decide) (Nat.le_of_ble_eq_true rfl) rfl rfl ?_
    refine c_in (by omega) (by omega) (by omega) ?_
    refine r_ifeq iX10_isSegment_23 (by exact tf_r _) (fun h23 => ?_) (fun h23 => ?_)
    · have h23 := tf_n h23
      refine t0 (fun hc => ?_)
      unfold IsSg at hc
      omega
    · have h23 := tf_y h23
      refine r_iconst iX10_isSegment_26 ?_
      refine r_goto iX10_isSegment_27 ?_
      refine t_bool rfl (by omega) iX10_isSegment_31 ?_
      exact hq 1 (Or.inl ⟨rfl, h5.1, h5.2, by omega, by omega⟩)
theorem m_at {a w : Int} {Pq : Int → Nm → Ge → Prop} (hM : MS N d) (ra : rI a) (rw' : rI w) (hq1 : N 40 0 22 = 1 ∧ (-1 ≤ a ∧ a < dA d) ∧ (0 ≤ w ∧ w ≤ 9999) → ∀ N', FrV N N' → Pq (LF d (dB d) (rwo a) w.toNat) N' g) (hq0 : ¬ (N 40 0 22 = 1 ∧ (-1 ≤ a ∧ a < dA d) ∧ (0 ≤ w ∧ w ≤ 9999)) → ∀ N', FrV N N' → Pq HID N' g) : Ck K YX10_at hX10_at [vr 40 0, vi a, vi w] N g (qL Pq) := by
  refine Ck.intro 0 (by decide) rfl ?_
  show AW _ _ _ _ _ [some (vr 40 0), some (vi a), some (vi w)] _ _ _
  refine ld_a0 iX10_at_0 ?_
  refine r_iconst iX10_at_1 ?_
  refine pf_X10_thrown kFX10_72 iX10_at_2 ?_
  obtain ⟨N1, hN1, f0⟩ : ∃ N1, N1 = upN N 40 0 0 0 ∧ FrV N N1 := ⟨_, rfl, thr_v N⟩
  rw [← hN1]
  clear hN1
  have hM1 := hM.v f0
  have h22 : N1 40 0 22 = N 40 0 22 := f0 40 0 22 (by omega) (by omega)
  have h01 := hM1.1
  refine ld_a0 iX10_at_5 ?_
  refine ld_i1 iX10_at_6 ?_
  refine xX10_isLine kMX10_248 iX10_at_7 (by decide) (Nat.le_of_ble_eq_true rfl) rfl rfl ?_
  refine c_mIsLine hM1 ra ?_
  refine r_ifeq iX10_at_10 (by exact tf_r _) (fun h10 => ?_) (fun h10 => ?_)
  · have h10 := tf_n h10
    refine r_ldc2 (z := -9000000000000000000) kKX10_254 (by decide) iX10_at_30 ?_
    refine t_long rfl iX10_at_33 ?_
    first
      | exact hq0 (by omega) _ f0
      | exact hq1 ⟨by omega, h10.2, h18.2⟩ _ (f0.tr (e1.v (by omega) (by omega)))
  · have h10 := tf_y h10
    refine ld_a0 iX10_at_13 ?_
    refine ld_i2 iX10_at_14 ?_
    refine xX10_isWage kMX10_251 iX10_at_15 (by decide) (Nat.le_of_ble_eq_true rfl) rfl rfl ?_
    refine c_mIsWage hM1 rw' ?_
    refine r_ifeq iX10_at_18 (by exact tf_r _) (fun h18 => ?_) (fun h18 => ?_)
    · have h18 := tf_n h18
      refine r_ldc2 (z := -9000000000000000000) kKX10_254 (by decide) iX10_at_30 ?_
      refine t_long rfl iX10_at_33 ?_
      first
        | exact hq0 (by omega) _ f0
        | exact hq1 ⟨by omega, h10.2, h18.2⟩ _ (f0.tr (e1.v (by omega) (by omega)))
    · have h18 := tf_y h18
      refine ld_a0 iX10_at_21 ?_
      refine ld_i1 iX10_at_22 ?_
      refine ld_i2 iX10_at_23 ?_
      refine xX10_valueAt kMX10_216 iX10_at_24 (by decide) (Nat.le_of_ble_eq_true rfl) rfl rfl ?_
      refine c_mAt hM1 h10.1 h18.2 h10.2 (fun N2 e1 => ?_)
      refine r_goto iX10_at_27 ?_
      refine t_long rfl iX10_at_33 ?_
      first
        | exact hq0 (by omega) _ f0
        | exact hq1 ⟨by omega, h10.2, h18.2⟩ _ (f0.tr (e1.v (by omega) (by omega)))
theorem m_sum {a w : Int} {Pq : Int → Nm → Ge → Prop} (hM : MS N d) (ra : rI a) (rw' : rI w) (hq1 : N 40 0 22 = 1 ∧ (0 ≤ a ∧ a < dA d) ∧ (0 ≤ w ∧ w ≤ 9999) → ∀ N', FrV N N' → Pq (sumV d (dB d) w (VA d (dB d) (-1) 0 w) a.toNat) N' g) (hq0 : ¬ (N 40 0 22 = 1 ∧ (0 ≤ a ∧ a < dA d) ∧ (0 ≤ w ∧ w ≤ 9999)) → ∀ N', FrV N N' → Pq HID N' g) : Ck K YX10_sum hX10_sum [vr 40 0, vi a, vi w] N g (qL Pq) := by
  refine Ck.intro 0 (by decide) rfl ?_
  show AW _ _ _ _ _ [some (vr 40 0), some (vi a), some (vi w)] _ _ _
  refine ld_a0 iX10_sum_0 ?_
  refine r_iconst iX10_sum_1 ?_
  refine pf_X10_thrown kFX10_72 iX10_sum_2 ?_
  obtain ⟨N1, hN1, f0⟩ : ∃ N1, N1 = upN N 40 0 0 0 ∧ FrV N N1 := ⟨_, rfl, thr_v N⟩
  rw [← hN1]
  clear hN1
  have hM1 := hM.v f0
  have h22 : N1 40 0 22 = N 40 0 22 := f0 40 0 22 (by omega) (by omega)
  have h01 := hM1.1
  refine ld_a0 iX10_sum_5 ?_
  refine ld_i1 iX10_sum_6 ?_
  refine xX10_isAccount kMX10_175 iX10_sum_7 (by decide) (Nat.le_of_ble_eq_true rfl) rfl rfl ?_
  refine c_mIsAccount hM1 ra ?_
  refine r_ifeq iX10_sum_10 (by exact tf_r _) (fun h10 => ?_) (fun h10 => ?_)
  · have h10 := tf_n h10
    refine r_ldc2 (z := -9000000000000000000) kKX10_254 (by decide) iX10_sum_21 ?_
    refine t_long rfl iX10_sum_24 ?_
    exact hq0 (by omega) _ f0
  · have h10 := tf_y h10
    refine ld_a0 iX10_sum_13 ?_
    refine ld_i2 iX10_sum_14 ?_
    refine xX10_isWage kMX10_251 iX10_sum_15 (by decide) (Nat.le_of_ble_eq_true rfl) rfl rfl ?_
    refine c_mIsWage hM1 rw' ?_
    refine r_ifne iX10_sum_18 (by exact tf_r _) (fun h18 => ?_) (fun h18 => ?_)
    · have h18 := tf_y h18
      obtain ⟨a1, a2, a3⟩ := hM1.2.2 h10.1
      refine ld_a0 iX10_sum_25 ?_
      refine ld_i2 iX10_sum_26 ?_
      refine xX10_laysAccounts kMX10_209 iX10_sum_27 (by decide) (Nat.le_of_ble_eq_true rfl) rfl rfl ?_
      refine c_laysAccounts a2 a1 (hM1.h h10.1) a1.2.1 h18.2 (by omega) (fun a _ q => by omega) (fun N2 e1 e2 => ?_)
      obtain ⟨n, hn⟩ : ∃ n : Nat, a = n := ⟨a.toNat, by omega⟩
      subst hn
      refine ld_a0 iX10_sum_30 ?_
      refine ld_i1 iX10_sum_31 ?_
      refine ld_i2 iX10_sum_32 ?_
      refine xX10_sumAt kMX10_190 iX10_sum_33 (by decide) (Nat.le_of_ble_eq_true rfl) rfl rfl ?_
      refine c_mSumAt (a2.frx e1 (by omega)) a1 ((hM1.h h10.1).frx e1 (by omega)) (Or.inl (by omega)) (by have := a1.2.1; omega) (by omega) ?_
      rw [show sumV d (dB d) w (fun k => N2 56 0 k) n = sumV d (dB d) w (VA d (dB d) (-1) 0 w) n from sumV_cong (a1.2.2.1 n (by omega)).2.1 (fun k k1 _ => by rw [← VA_hv d (dB d) (N1 40 0 28) w]; exact e2 k k1)]
      refine t_long rfl iX10_sum_36 ?_
      exact hq1 ⟨by omega, h10.2, h18.2⟩ _ (f0.tr (e1.v (by omega) (by omega)))
    · have h18 := tf_n h18
      refine r_ldc2 (z := -9000000000000000000) kKX10_254 (by decide) iX10_sum_21 ?_
      refine t_long rfl iX10_sum_24 ?_
      exact hq0 (by omega) _ f0
theorem m_which {a w : Int} {Pq : Int → Nm → Ge → Prop} (hM : MS N d) (ra : rI a) (rw' : rI w) (hq1 : N 40 0 22 = 1 ∧ (0 ≤ a ∧ a < dA d) ∧ (0 ≤ w ∧ w ≤ 9999) → ∀ N', FrV N N' → Pq (segV d a.toNat (sumV d (dB d) w (VA d (dB d) (-1) 0 w) a.toNat)) N' g) (hq0 : ¬ (N 40 0 22 = 1 ∧ (0 ≤ a ∧ a < dA d) ∧ (0 ≤ w ∧ w ≤ 9999)) → ∀ N', FrV N N' → Pq (-1) N' g) : Ck K YX10_which hX10_which [vr 40 0, vi a, vi w] N g (qI Pq) := by
  refine Ck.intro 0 (by decide) rfl ?_
  show AW _ _ _ _ _ [some (vr 40 0), some (vi a), some (vi w)] _ _ _
  refine ld_a0 iX10_which_0 ?_
  refine r_iconst iX10_which_1 ?_
  refine pf_X10_thrown kFX10_72 iX10_which_2 ?_
  obtain ⟨N1, hN1, f0⟩ : ∃ N1, N1 = upN N 40 0 0 0 ∧ FrV N N1 := ⟨_, rfl, thr_v N⟩
  rw [← hN1]
  clear hN1
  have hM1 := hM.v f0
  have h22 : N1 40 0 22 = N 40 0 22 := f0 40 0 22 (by omega) (by omega)
  have h01 := hM1.1
  refine ld_a0 iX10_which_5 ?_
  refine ld_i1 iX10_which_6 ?_
  refine xX10_isAccount kMX10_175 iX10_which_7 (by decide) (Nat.le_of_ble_eq_true rfl) rfl rfl ?_
  refine c_mIsAccount hM1 ra ?_
  refine r_ifeq iX10_which_10 (by exact tf_r _) (fun h10 => ?_) (fun h10 => ?_)
  · have h10 := tf_n h10
    refine r_iconst iX10_which_30 ?_
    refine t_int rfl iX10_which_31 ?_
    first
      | exact hq0 (by omega) _ f0
      | exact hq1 ⟨by omega, h10.2, h18.2⟩ _ (f0.tr (e1.v (by omega) (by omega)))
  · have h10 := tf_y h10
    refine ld_a0 iX10_which_13 ?_
    refine ld_i2 iX10_which_14 ?_
    refine xX10_isWage kMX10_251 iX10_which_15 (by decide) (Nat.le_of_ble_eq_true rfl) rfl rfl ?_
    refine c_mIsWage hM1 rw' ?_
    refine r_ifeq iX10_which_18 (by exact tf_r _) (fun h18 => ?_) (fun h18 => ?_)
    · have h18 := tf_n h18
      refine r_iconst iX10_which_30 ?_
      refine t_int rfl iX10_which_31 ?_
      first
        | exact hq0 (by omega) _ f0
        | exact hq1 ⟨by omega, h10.2, h18.2⟩ _ (f0.tr (e1.v (by omega) (by omega)))
    · have h18 := tf_y h18
      obtain ⟨a1, a2, a3⟩ := hM1.2.2 h10.1
      obtain ⟨n, hn⟩ : ∃ n : Nat, a = n := ⟨a.toNat, by omega⟩
      subst hn
      refine ld_a0 iX10_which_21 ?_
      refine ld_i1 iX10_which_22 ?_
      refine ld_i2 iX10_which_23 ?_
      refine xX10_segmentAt kMX10_245 iX10_which_24 (by decide) (Nat.le_of_ble_eq_true rfl) rfl rfl ?_
      refine c_mSegmentAt a2 a1 (hM1.h h10.1) a1.2.1 h18.2 (by omega) (fun a _ q => by omega) (by omega) (fun N2 e1 => ?_)
      rw [VA_hv]
      refine r_goto iX10_which_27 ?_
      refine t_int rfl iX10_which_31 ?_
      first
        | exact hq0 (by omega) _ f0
        | exact hq1 ⟨by omega, h10.2, h18.2⟩ _ (f0.tr (e1.v (by omega) (by omega)))
theorem m_piece {a i what : Int} {Pq : Int → Nm → Ge → Prop} (hM : MS N d) (ra : rI a) (ri : rI i) (rw' : rI what) (hq1 : N 40 0 22 = 1 ∧ (-1 ≤ a ∧ a < dA d) → 0 ≤ what ∧ what ≤ 3 → ∀ P s, Ps (LF d (dB d) (rwo a)) P s → ∀ N', FrV N N' → Pq (pcA (LF d (dB d) (rwo a)) P s i what) N' g) (hq0 : ¬ (N 40 0 22 = 1 ∧ (-1 ≤ a ∧ a < dA d) ∧ (0 ≤ what ∧ what ≤ 3)) → ∀ N', FrV N N' → Pq HID N' g) : Ck K YX10_piece hX10_piece [vr 40 0, vi a, vi i, vi what] N g (qL Pq) := by
  refine Ck.intro 1 (by decide) rfl ?_
  show AW _ _ _ _ _ [some (vr 40 0), some (vi a), some (vi i), some (vi what), none] _ _ _
  refine ld_a0 iX10_piece_0 ?_
  refine r_iconst iX10_piece_1 ?_
  refine pf_X10_thrown kFX10_72 iX10_piece_2 ?_
  obtain ⟨N1, hN1, f0⟩ : ∃ N1, N1 = upN N 40 0 0 0 ∧ FrV N N1 := ⟨_, rfl, thr_v N⟩
  rw [← hN1]
  clear hN1
  have hM1 := hM.v f0
  have h22 : N1 40 0 22 = N 40 0 22 := f0 40 0 22 (by omega) (by omega)
  have h01 := hM1.1
  refine ld_a0 iX10_piece_5 ?_
  refine ld_i1 iX10_piece_6 ?_
  refine xX10_isLine kMX10_248 iX10_piece_7 (by decide) (Nat.le_of_ble_eq_true rfl) rfl rfl ?_
  refine c_mIsLine hM1 ra ?_
  refine r_ifeq iX10_piece_10 (by exact tf_r _) (fun h10 => ?_) (fun h10 => ?_)
  · have h10 := tf_n h10
    refine r_ldc2 (z := -9000000000000000000) kKX10_254 (by decide) iX10_piece_42 ?_
    refine t_long rfl iX10_piece_45 ?_
    first
      | exact hq0 (by omega) _ f0
      | (rw [if_neg (by omega)] at y; exact y)
  · have h10 := tf_y h10
    refine ld_i3 iX10_piece_13 ?_
    refine r_i2l (by omega) iX10_piece_14 ?_
    refine r_lconst (v := 0) (by decide) iX10_piece_15 ?_
    refine r_ldc2 (z := 3) kKX10_239 (by decide) iX10_piece_16 ?_
    refine xX10_in kMX10_82 iX10_piece_19 (by decide) (Nat.le_of_ble_eq_true rfl) rfl rfl ?_
    refine c_in (by omega) (by omega) (by omega) ?_
    refine r_ifeq iX10_piece_22 (by exact tf_r _) (fun g22 => ?_) (fun g22 => ?_)
    · have g22 := tf_n g22
      refine r_ldc2 (z := -9000000000000000000) kKX10_254 (by decide) iX10_piece_42 ?_
      refine t_long rfl iX10_piece_45 ?_
      first
        | exact hq0 (by omega) _ f0
        | (rw [if_neg (by omega)] at y; exact y)
    · have g22 := tf_y g22
      refine ld_i2 iX10_piece_25 ?_
      refine r_i2l (by omega) iX10_piece_26 ?_
      refine r_lconst (v := 0) (by decide) iX10_piece_27 ?_
      refine ld_a0 iX10_piece_28 ?_
      refine ld_i1 iX10_piece_29 ?_
      refine xX10_piecesOf kMX10_233 iX10_piece_30 (by decide) (Nat.le_of_ble_eq_true rfl) rfl rfl ?_
      refine c_piecesOf hM1 h10.1 h10.2 (fun N2 P s e1 e2 e3 e4 => ?_)
      have hPl := e4.P_le
      have y := hq1 ⟨by omega, h10.2⟩ g22 P s e4 N2 (f0.tr e1)
      unfold pcA at y
      refine r_iconst iX10_piece_33 ?_
      refine r_isub iX10_piece_34 ?_
      refine r_i2l (by omega) iX10_piece_35 ?_
      refine xX10_in kMX10_82 iX10_piece_36 (by decide) (Nat.le_of_ble_eq_true rfl) rfl rfl ?_
      refine c_in (by omega) (by omega) (by omega) ?_
      refine r_ifne iX10_piece_39 (by exact tf_r _) (fun h39 => ?_) (fun h39 => ?_)
      · have h39 := tf_y h39
        rw [if_pos (by omega)] at y
        obtain ⟨n, hn⟩ : ∃ n : Nat, i = n := ⟨i.toNat, by omega⟩
        subst hn
        rw [show ((n : Nat) : Int).toNat = n from rfl] at y
        have hsl := e4.lt (show n < P by omega)
        have hst := e4.top (show n + 1 ≤ P by omega)
        refine ld_a0 iX10_piece_46 ?_
        refine gf_X10_pieceFrom kFX10_66 iX10_piece_47 ?_
        refine ld_i2 iX10_piece_50 ?_
        refine al_58 rfl (by omega) iX10_piece_51 ?_
        rw [e3.2 n (by omega)]
        refine sv_i4 (by decide) rfl iX10_piece_52 ?_
        refine ld_i3 iX10_piece_54 ?_
        refine r_ifne iX10_piece_55 (by omega) (fun h55 => ?_) (fun h55 => ?_)
        · refine ld_i3 iX10_piece_64 ?_
          refine r_iconst iX10_piece_65 ?_
          refine r_icmpne iX10_piece_66 (by omega) (by omega) (fun h66 => ?_) (fun h66 => ?_)
          · refine ld_i3 iX10_piece_78 ?_
            refine r_iconst iX10_piece_79 ?_
            refine r_icmpne iX10_piece_80 (by omega) (by omega) (fun h80 => ?_) (fun h80 => ?_)
            · refine ld_a0 iX10_piece_93 ?_
              refine ld_i4 iX10_piece_94 ?_
              refine xX10_step kMX10_225 iX10_piece_96 (by decide) (Nat.le_of_ble_eq_true rfl) rfl rfl ?_
              refine c_step e2 hsl ?_
              refine t_long rfl iX10_piece_99 ?_
              first
                | (rw [if_pos (by omega)] at y; exact y)
                | (rw [if_neg (by omega), if_pos (by omega)] at y; exact y)
                | (rw [if_neg (by omega), if_neg (by omega), if_pos (by omega)] at y; exact y)
                | (rw [if_neg (by omega), if_neg (by omega), if_neg (by omega)] at y; exact y)
            · refine ld_a0 iX10_piece_83 ?_
              refine gf_X10_line kFX10_63 iX10_piece_84 ?_
              refine ld_i4 iX10_piece_87 ?_
              refine al_57 rfl (by omega) iX10_piece_89 ?_
              rw [(e2 (s n) hsl).1]
              refine r_goto iX10_piece_90 ?_
              refine t_long rfl iX10_piece_99 ?_
              first
                | (rw [if_pos (by omega)] at y; exact y)
                | (rw [if_neg (by omega), if_pos (by omega)] at y; exact y)
                | (rw [if_neg (by omega), if_neg (by omega), if_pos (by omega)] at y; exact y)
                | (rw [if_neg (by omega), if_neg (by omega), if_neg (by omega)] at y; exact y)
          · refine ld_a0 iX10_piece_69 ?_
            refine ld_i2 iX10_piece_70 ?_
            refine xX10_pieceTo kMX10_256 iX10_piece_71 (by decide) (Nat.le_of_ble_eq_true rfl) rfl rfl ?_
            refine c_pieceTo e3 e4 (by omega) ?_
            refine r_i2l (by omega) iX10_piece_74 ?_
            refine r_goto iX10_piece_75 ?_
            refine t_long rfl iX10_piece_99 ?_
            first
              | (rw [if_pos (by omega)] at y; exact y)
              | (rw [if_neg (by omega), if_pos (by omega)] at y; exact y)
              | (rw [if_neg (by omega), if_neg (by omega), if_pos (by omega)] at y; exact y)
              | (rw [if_neg (by omega), if_neg (by omega), if_neg (by omega)] at y; exact y)
        · refine ld_i4 iX10_piece_58 ?_
          refine r_i2l (by omega) iX10_piece_60 ?_
          refine r_goto iX10_piece_61 ?_
          refine t_long rfl iX10_piece_99 ?_
          first
            | (rw [if_pos (by omega)] at y; exact y)
            | (rw [if_neg (by omega), if_pos (by omega)] at y; exact y)
            | (rw [if_neg (by omega), if_neg (by omega), if_pos (by omega)] at y; exact y)
            | (rw [if_neg (by omega), if_neg (by omega), if_neg (by omega)] at y; exact y)
      · have h39 := tf_n h39
        refine r_ldc2 (z := -9000000000000000000) kKX10_254 (by decide) iX10_piece_42 ?_
        refine t_long rfl iX10_piece_45 ?_
        first
          | exact hq0 (by omega) _ f0
          | (rw [if_neg (by omega)] at y; exact y)
theorem m_pieceAt {a w : Int} {Pq : Int → Nm → Ge → Prop} (hM : MS N d) (ra : rI a) (rw' : rI w) (hq1 : N 40 0 22 = 1 ∧ (-1 ≤ a ∧ a < dA d) ∧ (0 ≤ w ∧ w ≤ 9999) → ∀ P s, Ps (LF d (dB d) (rwo a)) P s → ∀ (p : Nat) N', p < P → s p ≤ w.toNat → w.toNat < s (p + 1) → FrV N N' → Pq p N' g) (hq0 : ¬ (N 40 0 22 = 1 ∧ (-1 ≤ a ∧ a < dA d) ∧ (0 ≤ w ∧ w ≤ 9999)) → ∀ N', FrV N N' → Pq (-1) N' g) : Ck K YX10_pieceAt hX10_pieceAt [vr 40 0, vi a, vi w] N g (qI Pq) := by
  refine Ck.intro 1 (by decide) rfl ?_
  show AW _ _ _ _ _ [some (vr 40 0), some (vi a), some (vi w), none] _ _ _
  have loop : N 40 0 22 = 1 ∧ (-1 ≤ a ∧ a < dA d) ∧ (0 ≤ w ∧ w ≤ 9999) → ∀ P s N2, FrV N N2 → Lp N2 P s → Ps (LF d (dB d) (rwo a)) P s → ∀ (p : Nat) (c : Int), c = p → p < P → w.toNat < s (p + 1) → AW K YX10_pieceAt hX10_pieceAt (qI Pq) 31 [some (vr 40 0), some (vi a), some (vi w), some (vi c)] [] N2 g := by
    intro hg P s N2 e1 e3 e4 p
    have hPl := e4.P_le
    induction p with
    | zero =>
      intro c hc hp hs
      subst hc
      have hs0 := e4.2.1
      refine ld_a0 iX10_pieceAt_31 ?_
      refine gf_X10_pieceFrom kFX10_66 iX10_pieceAt_32 ?_
      refine ld_i3 iX10_pieceAt_35 ?_
      refine al_58 rfl (by omega) iX10_pieceAt_36 ?_
      rw [e3.2 0 hp]
      refine ld_i2 iX10_pieceAt_37 ?_
      refine r_icmple iX10_pieceAt_38 (by omega) (by omega) (fun h38 => ?_) (fun h38 => ?_)
      · refine ld_i3 iX10_pieceAt_47 ?_
        refine t_int rfl iX10_pieceAt_48 ?_
        exact hq1 hg P s e4 0 N2 hp (by omega) hs e1
      · exfalso; omega
    | succ p ih =>
      intro c hc hp hs
      subst hc
      have hs0 := e4.lt hp
      refine ld_a0 iX10_pieceAt_31 ?_
      refine gf_X10_pieceFrom kFX10_66 iX10_pieceAt_32 ?_
      refine ld_i3 iX10_pieceAt_35 ?_
      refine al_58 rfl (by omega) iX10_pieceAt_36 ?_
      rw [e3.2 (p + 1) hp]
      refine ld_i2 iX10_pieceAt_37 ?_
      refine r_icmple iX10_pieceAt_38 (by omega) (by omega) (fun h38 => ?_) (fun h38 => ?_)
      · refine ld_i3 iX10_pieceAt_47 ?_
        refine t_int rfl iX10_pieceAt_48 ?_
        exact hq1 hg P s e4 (p + 1) N2 hp (by omega) hs e1
      · refine inc_3 (by decide) rfl iX10_pieceAt_41 ?_
        refine r_goto iX10_pieceAt_44 ?_
        exact ih _ (by omega) (by omega) (by omega)
  refine ld_a0 iX10_pieceAt_0 ?_
  refine r_iconst iX10_pieceAt_1 ?_
  refine pf_X10_thrown kFX10_72 iX10_pieceAt_2 ?_
  obtain ⟨N1, hN1, f0⟩ : ∃ N1, N1 = upN N 40 0 0 0 ∧ FrV N N1 := ⟨_, rfl, thr_v N⟩
  rw [← hN1]
  clear hN1
  have hM1 := hM.v f0
  have h22 : N1 40 0 22 = N 40 0 22 := f0 40 0 22 (by omega) (by omega)
  have h01 := hM1.1
  refine ld_a0 iX10_pieceAt_5 ?_
  refine ld_i1 iX10_pieceAt_6 ?_
  refine xX10_isLine kMX10_248 iX10_pieceAt_7 (by decide) (Nat.le_of_ble_eq_true rfl) rfl rfl ?_
  refine c_mIsLine hM1 ra ?_
  refine r_ifeq iX10_pieceAt_10 (by exact tf_r _) (fun h10 => ?_) (fun h10 => ?_)
  · have h10 := tf_n h10
    refine r_iconst iX10_pieceAt_21 ?_
    refine t_int rfl iX10_pieceAt_22 ?_
    exact hq0 (by omega) _ f0
  · have h10 := tf_y h10
    refine ld_a0 iX10_pieceAt_13 ?_
    refine ld_i2 iX10_pieceAt_14 ?_
    refine xX10_isWage kMX10_251 iX10_pieceAt_15 (by decide) (Nat.le_of_ble_eq_true rfl) rfl rfl ?_
    refine c_mIsWage hM1 rw' ?_
    refine r_ifne iX10_pieceAt_18 (by exact tf_r _) (fun h18 => ?_) (fun h18 => ?_)
    · have h18 := tf_y h18
      refine ld_a0 iX10_pieceAt_23 ?_
      refine ld_i1 iX10_pieceAt_24 ?_
      refine xX10_piecesOf kMX10_233 iX10_pieceAt_25 (by decide) (Nat.le_of_ble_eq_true rfl) rfl rfl ?_
      refine c_piecesOf hM1 h10.1 h10.2 (fun N2 P s e1 e2 e3 e4 => ?_)
      refine r_iconst iX10_pieceAt_28 ?_
      refine r_isub iX10_pieceAt_29 ?_
      refine sv_i3 (by decide) rfl iX10_pieceAt_30 ?_
      have hP1 := e4.1
      have hsP := e4.2.2.1
      exact loop ⟨by omega, h10.2, h18.2⟩ P s N2 (f0.tr e1) e3 e4 (P - 1) _ (by omega) (by omega) (by rw [show P - 1 + 1 = P by omega, hsP]; omega)
    · have h18 := tf_n h18
      refine r_iconst iX10_pieceAt_21 ?_
      refine t_int rfl iX10_pieceAt_22 ?_
      exact hq0 (by omega) _ f0
end MAsk
