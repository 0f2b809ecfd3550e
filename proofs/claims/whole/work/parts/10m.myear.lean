/-! own text: the reference's level, until, putIn, bend -/
section MYear4
variable {K : Kx} {N : Nm} {g : Ge} {d : Dk} {wg : Nat → Int} {p : Nat}
theorem m_level {v : Int} {Pq : Int → Nm → Ge → Prop} (hM : MS N d) (hY : YM N wg p) (rv : rL v) (hq1 : N 40 0 22 = 1 ∧ p < 12 → ∀ r N', Fst (fun w => v ≤ (sW wg p + (12 - (p : Int)) * w) * 1000000000 - du (PD d) 12 (sW wg p + (12 - (p : Int)) * w)) 0 10000 r → FrV N N' → Pq r N' g) (hq0 : ¬ (N 40 0 22 = 1 ∧ p < 12) → ∀ N', FrV N N' → Pq (-1) N' g) : Ck K YX10_level hX10_level [vr 40 0, vl v] N g (qI Pq) := by
  have y2 := hY.2.1
  have b0 := sW_bd p (fun j hj => (hY.2.2 j (by omega)).2)
  refine Ck.intro 3 (by decide) rfl ?_
  show AW _ _ _ _ _ [some (vr 40 0), some (vl v), none, none, none, none] _ _ _
  have loop : N 40 0 22 = 1 ∧ p < 12 → ∀ (n w : Nat) (c : Int) (N2 : Nm), 10000 - w = n → w ≤ 10000 → c = w → FrV N N2 → (∀ u : Nat, u < w → ¬ v ≤ (sW wg p + (12 - (p : Int)) * u) * 1000000000 - du (PD d) 12 (sW wg p + (12 - (p : Int)) * u)) → AW K YX10_level hX10_level (qI Pq) 35 [some (vr 40 0), some (vl v), none, some (vi (sW wg p)), some (vi c), none] [] N2 g := by
    intro h1 n
    have hW := (hM.2.2 h1.1).1
    have bF0 : ∀ u, u < 10000 → bF (PD d u) := fun u hu => by have : -132000000000000000 ≤ PD d u ∧ PD d u ≤ 132000000000000000 := LF_bd hW hW.2.1 (Or.inr rfl) u hu; omega
    induction n using Nat.strongRecOn with
    | _ n ih =>
      intro w c N2 e hw hc hF hn
      subst hc
      have m1 : w < 10000 → 0 ≤ (12 - (p : Int)) * w ∧ (12 - (p : Int)) * w ≤ 119988 := fun q => by
        have a1 := Int.mul_nonneg (show 0 ≤ 12 - (p : Int) by omega) (show 0 ≤ (w : Int) by omega)
        have a2 := mul_mono (show 12 - (p : Int) ≤ 12 by omega) (show 0 ≤ (w : Int) by omega)
        omega
      refine ld_i4 iX10_level_35 ?_
      refine r_sipush (by decide) iX10_level_37 ?_
      refine r_icmpge iX10_level_40 (by omega) (by omega) (fun h40 => ?_) (fun h40 => ?_)
      · refine r_iconst iX10_level_87 ?_
        refine t_int rfl iX10_level_88 ?_
        exact hq1 h1 _ N2 (Or.inl ⟨rfl, fun u _ hu => hn u (by omega)⟩) hF
      · have m1 := m1 (by omega)
        have d1 := du_bd bF0 (m := 12) (t := sW wg p + (12 - (p : Int)) * w) (by omega) (by omega)
        refine ld_i3 iX10_level_43 ?_
        refine r_bipush (by decide) iX10_level_44 ?_
        refine ld_a0 iX10_level_46 ?_
        refine gf_X10_months kFX10_168 iX10_level_47 ?_
        rw [(hY.v hF).1]
        refine r_isub iX10_level_50 ?_
        refine ld_i4 iX10_level_51 ?_
        refine r_imul iX10_level_53 ?_
        refine r_iadd iX10_level_54 ?_
        refine sv_i5 (by decide) rfl iX10_level_55 ?_
        refine ld_i5 iX10_level_57 ?_
        refine r_i2l (by omega) iX10_level_59 ?_
        refine r_ldc2 (z := 1000000000) kKX10_178 (by decide) iX10_level_60 ?_
        refine r_lmul iX10_level_63 ?_
        refine ld_a0 iX10_level_64 ?_
        refine r_bipush (by decide) iX10_level_65 ?_
        refine ld_i5 iX10_level_67 ?_
        refine xX10_due kMX10_307 iX10_level_69 (by decide) (Nat.le_of_ble_eq_true rfl) rfl rfl ?_
        refine c_mDue (hM.v hF) (by rw [hF 40 0 22 (by omega) (by omega)]; exact h1.1) (by omega) (by omega) (fun N3 e1 => ?_)
        refine r_lsub iX10_level_72 ?_
        refine ld_l1 iX10_level_73 ?_
        refine r_lclt iX10_level_74 iX10_level_75 (by omega) (by omega) (fun h74 => ?_) (fun h74 => ?_)
        · refine inc_4 (by decide) rfl iX10_level_81 ?_
          refine r_goto iX10_level_84 ?_
          refine fg_5 ?_
          refine ih (10000 - (w + 1)) (by omega) (w + 1) _ N3 rfl (by omega) (by omega) (hF.tr (e1.v (by omega) (by omega))) (fun u hu => ?_)
          by_cases eu : u = w
          · rw [eu]; omega
          · exact hn u (by omega)
        · refine ld_i4 iX10_level_78 ?_
          refine t_int rfl iX10_level_80 ?_
          exact hq1 h1 _ N3 (Or.inr ⟨w, rfl, by omega, by omega, by omega, fun u _ hu => hn u hu⟩) (hF.tr (e1.v (by omega) (by omega)))
  refine ld_a0 iX10_level_0 ?_
  refine r_iconst iX10_level_1 ?_
  refine pf_X10_thrown kFX10_72 iX10_level_2 ?_
  obtain ⟨N1, hN1, f0⟩ : ∃ N1, N1 = upN N 40 0 0 0 ∧ FrV N N1 := ⟨_, rfl, thr_v N⟩
  rw [← hN1]
  clear hN1
  have hM1 := hM.v f0
  have h22 : N1 40 0 22 = N 40 0 22 := f0 40 0 22 (by omega) (by omega)
  have h01 := hM1.1
  have hY1 := hY.v f0
  refine ld_a0 iX10_level_5 ?_
  refine gf_X10_isDesk kFX10_165 iX10_level_6 ?_
  refine r_ifeq iX10_level_9 (by omega) (fun h9 => ?_) (fun h9 => ?_)
  · refine r_iconst iX10_level_21 ?_
    refine t_int rfl iX10_level_22 ?_
    exact hq0 (by omega) _ f0
  · refine ld_a0 iX10_level_12 ?_
    refine gf_X10_months kFX10_168 iX10_level_13 ?_
    rw [hY1.1]
    refine r_bipush (by decide) iX10_level_16 ?_
    refine r_icmpne iX10_level_18 (by omega) (by omega) (fun h18 => ?_) (fun h18 => ?_)
    · refine ld_a0 iX10_level_23 ?_
      refine ld_a0 iX10_level_24 ?_
      refine gf_X10_months kFX10_168 iX10_level_25 ?_
      rw [hY1.1]
      refine xX10_wagesOf kMX10_304 iX10_level_28 (by decide) (Nat.le_of_ble_eq_true rfl) rfl rfl ?_
      refine c_mWagesOf hY1 (Nat.le_refl _) ?_
      refine sv_i3 (by decide) rfl iX10_level_31 ?_
      refine r_iconst iX10_level_32 ?_
      refine sv_i4 (by decide) rfl iX10_level_33 ?_
      exact loop ⟨by omega, by omega⟩ 10000 0 _ N1 (by omega) (by omega) (by omega) f0 (fun u hu => by omega)
    · refine r_iconst iX10_level_21 ?_
      refine t_int rfl iX10_level_22 ?_
      exact hq0 (by omega) _ f0
theorem m_until {w v : Int} {Pq : Int → Nm → Ge → Prop} (hM : MS N d) (hY : YM N wg p) (rw' : rI w) (rv : rL v) (hq1 : N 40 0 22 = 1 ∧ (0 ≤ w ∧ w ≤ 9999) → ∀ r N', Fst (fun k => v ≤ (sW wg p + k * w) * 1000000000 - du (PD d) (p + k) (sW wg p + k * w)) 0 (13 - p) r → FrV N N' → Pq r N' g) (hq0 : ¬ (N 40 0 22 = 1 ∧ (0 ≤ w ∧ w ≤ 9999)) → ∀ N', FrV N N' → Pq (-1) N' g) : Ck K YX10_until hX10_until [vr 40 0, vi w, vl v] N g (qI Pq) := by
  have y2 := hY.2.1
  have b0 := sW_bd p (fun j hj => (hY.2.2 j (by omega)).2)
  refine Ck.intro 2 (by decide) rfl ?_
  show AW _ _ _ _ _ [some (vr 40 0), some (vi w), some (vl v), none, none, none] _ _ _
  have loop : N 40 0 22 = 1 ∧ (0 ≤ w ∧ w ≤ 9999) → ∀ (n q : Nat) (c : Int) (N2 : Nm), 13 - p - q = n → q ≤ 13 - p → c = q → FrV N N2 → (∀ u : Nat, u < q → ¬ v ≤ (sW wg p + u * w) * 1000000000 - du (PD d) (p + u) (sW wg p + u * w)) → AW K YX10_until hX10_until (qI Pq) 18 [some (vr 40 0), some (vi w), some (vl v), none, some (vi c), none] [] N2 g := by
    intro h1 n
    have hW := (hM.2.2 h1.1).1
    have bF0 : ∀ u, u < 10000 → bF (PD d u) := fun u hu => by have : -132000000000000000 ≤ PD d u ∧ PD d u ≤ 132000000000000000 := LF_bd hW hW.2.1 (Or.inr rfl) u hu; omega
    induction n using Nat.strongRecOn with
    | _ n ih =>
      intro q c N2 e hw hc hF hn
      subst hc
      have hY2 := hY.v hF
      have m1 : 0 ≤ (q : Int) * w ∧ (q : Int) * w ≤ 129987 := by
        have a1 := Int.mul_nonneg (show 0 ≤ (q : Int) by omega) h1.2.1
        have a2 := mul_mono (show (q : Int) ≤ 13 by omega) h1.2.1
        omega
      refine ld_i4 iX10_until_18 ?_
      refine r_bipush (by decide) iX10_until_20 ?_
      refine ld_a0 iX10_until_22 ?_
      refine gf_X10_months kFX10_168 iX10_until_23 ?_
      rw [hY2.1]
      refine r_isub iX10_until_26 ?_
      refine r_icmpgt iX10_until_27 (by omega) (by omega) (fun h27 => ?_) (fun h27 => ?_)
      · refine r_iconst iX10_until_80 ?_
        refine t_int rfl iX10_until_81 ?_
        exact hq1 h1 _ N2 (Or.inl ⟨rfl, fun u _ hu => hn u (by omega)⟩) hF
      · have d1 := du_bd bF0 (m := p + q) (t := sW wg p + q * w) (by omega) (by omega)
        refine ld_a0 iX10_until_30 ?_
        refine ld_a0 iX10_until_31 ?_
        refine gf_X10_months kFX10_168 iX10_until_32 ?_
        rw [hY2.1]
        refine xX10_wagesOf kMX10_304 iX10_until_35 (by decide) (Nat.le_of_ble_eq_true rfl) rfl rfl ?_
        refine c_mWagesOf hY2 (Nat.le_refl _) ?_
        refine ld_i4 iX10_until_38 ?_
        refine ld_i1 iX10_until_40 ?_
        refine r_imul iX10_until_41 ?_
        refine r_iadd iX10_until_42 ?_
        refine sv_i5 (by decide) rfl iX10_until_43 ?_
        refine ld_i5 iX10_until_45 ?_
        refine r_i2l (by omega) iX10_until_47 ?_
        refine r_ldc2 (z := 1000000000) kKX10_178 (by decide) iX10_until_48 ?_
        refine r_lmul iX10_until_51 ?_
        refine ld_a0 iX10_until_52 ?_
        refine ld_a0 iX10_until_53 ?_
        refine gf_X10_months kFX10_168 iX10_until_54 ?_
        rw [hY2.1]
        refine ld_i4 iX10_until_57 ?_
        refine r_iadd iX10_until_59 ?_
        refine ld_i5 iX10_until_60 ?_
        refine xX10_due kMX10_307 iX10_until_62 (by decide) (Nat.le_of_ble_eq_true rfl) rfl rfl ?_
        refine c_mDue (hM.v hF) (by rw [hF 40 0 22 (by omega) (by omega)]; exact h1.1) (by omega) (by omega) (fun N3 e1 => ?_)
        refine r_lsub iX10_until_65 ?_
        refine ld_l2 iX10_until_66 ?_
        refine r_lclt iX10_until_67 iX10_until_68 (by omega) (by omega) (fun h67 => ?_) (fun h67 => ?_)
        · refine inc_4 (by decide) rfl iX10_until_74 ?_
          refine r_goto iX10_until_77 ?_
          refine fg_5 ?_
          refine ih (13 - p - (q + 1)) (by omega) (q + 1) _ N3 rfl (by omega) (by omega) (hF.tr (e1.v (by omega) (by omega))) (fun u hu => ?_)
          by_cases eu : u = q
          · rw [eu]; omega
          · exact hn u (by omega)
        · refine ld_i4 iX10_until_71 ?_
          refine t_int rfl iX10_until_73 ?_
          exact hq1 h1 _ N3 (Or.inr ⟨q, rfl, by omega, by omega, by omega, fun u _ hu => hn u hu⟩) (hF.tr (e1.v (by omega) (by omega)))
  refine ld_a0 iX10_until_0 ?_
  refine r_iconst iX10_until_1 ?_
  refine pf_X10_thrown kFX10_72 iX10_until_2 ?_
  obtain ⟨N1, hN1, f0⟩ : ∃ N1, N1 = upN N 40 0 0 0 ∧ FrV N N1 := ⟨_, rfl, thr_v N⟩
  rw [← hN1]
  clear hN1
  have hM1 := hM.v f0
  have h22 : N1 40 0 22 = N 40 0 22 := f0 40 0 22 (by omega) (by omega)
  have h01 := hM1.1
  refine ld_a0 iX10_until_5 ?_
  refine ld_i1 iX10_until_6 ?_
  refine xX10_isWage kMX10_251 iX10_until_7 (by decide) (Nat.le_of_ble_eq_true rfl) rfl rfl ?_
  refine c_mIsWage hM1 rw' ?_
  refine r_ifne iX10_until_10 (by exact tf_r _) (fun h10 => ?_) (fun h10 => ?_)
  · have h10 := tf_y h10
    refine r_iconst iX10_until_15 ?_
    refine sv_i4 (by decide) rfl iX10_until_16 ?_
    exact loop ⟨by omega, h10.2⟩ (13 - p) 0 _ N1 (by omega) (by omega) (by omega) f0 (fun u hu => by omega)
  · have h10 := tf_n h10
    refine r_iconst iX10_until_13 ?_
    refine t_int rfl iX10_until_14 ?_
    exact hq0 (by omega) _ f0
theorem m_putIn {a w b : Int} {Pq : Int → Nm → Ge → Prop} (hM : MS N d) (hY : YM N wg p) (ra : rI a) (rw' : rI w) (rb : rI b) (hq1 : N 40 0 22 = 1 ∧ (0 ≤ a ∧ a ≤ b ∧ b < p) ∧ p < 12 ∧ (0 ≤ w ∧ w ≤ 9999) → ∀ N', FrV N N' → Pq (wg b.toNat * 1000000000 - (du (PD d) (b.toNat + 2) (sW wg b.toNat + w + wg b.toNat) - du (PD d) (b.toNat + 1) (sW wg b.toNat + w))) N' g) (hq0 : ¬ (N 40 0 22 = 1 ∧ (0 ≤ a ∧ a ≤ b ∧ b < p) ∧ p < 12 ∧ (0 ≤ w ∧ w ≤ 9999)) → ∀ N', FrV N N' → Pq HID N' g) : Ck K YX10_putIn hX10_putIn [vr 40 0, vi a, vi w, vi b] N g (qL Pq) := by
  have y2 := hY.2.1
  refine Ck.intro 1 (by decide) rfl ?_
  show AW _ _ _ _ _ [some (vr 40 0), some (vi a), some (vi w), some (vi b), none] _ _ _
  refine ld_a0 iX10_putIn_0 ?_
  refine r_iconst iX10_putIn_1 ?_
  refine pf_X10_thrown kFX10_72 iX10_putIn_2 ?_
  obtain ⟨N1, hN1, f0⟩ : ∃ N1, N1 = upN N 40 0 0 0 ∧ FrV N N1 := ⟨_, rfl, thr_v N⟩
  rw [← hN1]
  clear hN1
  have hM1 := hM.v f0
  have h22 : N1 40 0 22 = N 40 0 22 := f0 40 0 22 (by omega) (by omega)
  have h01 := hM1.1
  have hY1 := hY.v f0
  refine ld_a0 iX10_putIn_5 ?_
  refine ld_i2 iX10_putIn_6 ?_
  refine xX10_isWage kMX10_251 iX10_putIn_7 (by decide) (Nat.le_of_ble_eq_true rfl) rfl rfl ?_
  refine c_mIsWage hM1 rw' ?_
  refine r_ifeq iX10_putIn_10 (by exact tf_r _) (fun h10 => ?_) (fun h10 => ?_)
  · have h10 := tf_n h10
    refine r_ldc2 (z := -9000000000000000000) kKX10_254 (by decide) iX10_putIn_49 ?_
    refine t_long rfl iX10_putIn_52 ?_
    exact hq0 (by omega) _ f0
  · have h10 := tf_y h10
    refine ld_a0 iX10_putIn_13 ?_
    refine gf_X10_months kFX10_168 iX10_putIn_14 ?_
    rw [hY1.1]
    refine r_bipush (by decide) iX10_putIn_17 ?_
    refine r_icmpeq iX10_putIn_19 (by omega) (by omega) (fun h19 => ?_) (fun h19 => ?_)
    · refine r_ldc2 (z := -9000000000000000000) kKX10_254 (by decide) iX10_putIn_49 ?_
      refine t_long rfl iX10_putIn_52 ?_
      exact hq0 (by omega) _ f0
    · refine ld_i1 iX10_putIn_22 ?_
      refine r_i2l (by omega) iX10_putIn_23 ?_
      refine r_lconst (v := 0) (by decide) iX10_putIn_24 ?_
      refine ld_i3 iX10_putIn_25 ?_
      refine r_i2l (by omega) iX10_putIn_26 ?_
      refine xX10_in kMX10_82 iX10_putIn_27 (by decide) (Nat.le_of_ble_eq_true rfl) rfl rfl ?_
      refine c_in (by omega) (by omega) (by omega) ?_
      refine r_ifeq iX10_putIn_30 (by exact tf_r _) (fun h30 => ?_) (fun h30 => ?_)
      · have h30 := tf_n h30
        refine r_ldc2 (z := -9000000000000000000) kKX10_254 (by decide) iX10_putIn_49 ?_
        refine t_long rfl iX10_putIn_52 ?_
        exact hq0 (by omega) _ f0
      · have h30 := tf_y h30
        refine ld_i3 iX10_putIn_33 ?_
        refine r_i2l (by omega) iX10_putIn_34 ?_
        refine r_lconst (v := 0) (by decide) iX10_putIn_35 ?_
        refine ld_a0 iX10_putIn_36 ?_
        refine gf_X10_months kFX10_168 iX10_putIn_37 ?_
        rw [hY1.1]
        refine r_iconst iX10_putIn_40 ?_
        refine r_isub iX10_putIn_41 ?_
        refine r_i2l (by omega) iX10_putIn_42 ?_
        refine xX10_in kMX10_82 iX10_putIn_43 (by decide) (Nat.le_of_ble_eq_true rfl) rfl rfl ?_
        refine c_in (by omega) (by omega) (by omega) ?_
        refine r_ifne iX10_putIn_46 (by exact tf_r _) (fun h46 => ?_) (fun h46 => ?_)
        · have h46 := tf_y h46
          obtain ⟨n, hn⟩ : ∃ n : Nat, b = n := ⟨b.toNat, by omega⟩
          subst hn
          have y3 := hY1.2.2 n (by omega)
          have b0 := sW_bd n (fun j hj => (hY.2.2 j (by omega)).2)
          refine ld_a0 iX10_putIn_53 ?_
          refine ld_i3 iX10_putIn_54 ?_
          refine xX10_wagesOf kMX10_304 iX10_putIn_55 (by decide) (Nat.le_of_ble_eq_true rfl) rfl rfl ?_
          refine c_mWagesOf hY1 (by omega) ?_
          refine ld_i2 iX10_putIn_58 ?_
          refine r_iadd iX10_putIn_59 ?_
          refine sv_i4 (by decide) rfl iX10_putIn_60 ?_
          refine ld_a0 iX10_putIn_62 ?_
          refine gf_X10_wage kFX10_52 iX10_putIn_63 ?_
          refine ld_i3 iX10_putIn_66 ?_
          refine al_55 rfl (by omega) iX10_putIn_67 ?_
          rw [y3.1]
          refine r_i2l (by omega) iX10_putIn_68 ?_
          refine r_ldc2 (z := 1000000000) kKX10_178 (by decide) iX10_putIn_69 ?_
          refine r_lmul iX10_putIn_72 ?_
          refine ld_a0 iX10_putIn_73 ?_
          refine ld_i3 iX10_putIn_74 ?_
          refine r_iconst iX10_putIn_75 ?_
          refine r_iadd iX10_putIn_76 ?_
          refine ld_i4 iX10_putIn_77 ?_
          refine ld_a0 iX10_putIn_79 ?_
          refine gf_X10_wage kFX10_52 iX10_putIn_80 ?_
          refine ld_i3 iX10_putIn_83 ?_
          refine al_55 rfl (by omega) iX10_putIn_84 ?_
          rw [y3.1]
          refine r_iadd iX10_putIn_85 ?_
          refine xX10_due kMX10_307 iX10_putIn_86 (by decide) (Nat.le_of_ble_eq_true rfl) rfl rfl ?_
          refine c_mDue hM1 h10.1 (by omega) (by omega) (fun N2 e1 => ?_)
          have hF2 : FrV N1 N2 := e1.v (by omega) (by omega)
          refine ld_a0 iX10_putIn_89 ?_
          refine ld_i3 iX10_putIn_90 ?_
          refine r_iconst iX10_putIn_91 ?_
          refine r_iadd iX10_putIn_92 ?_
          refine ld_i4 iX10_putIn_93 ?_
          refine xX10_due kMX10_307 iX10_putIn_95 (by decide) (Nat.le_of_ble_eq_true rfl) rfl rfl ?_
          refine c_mDue (hM1.v hF2) (by rw [hF2 40 0 22 (by omega) (by omega)]; exact h10.1) (by omega) (by omega) (fun N3 e2 => ?_)
          refine r_lsub iX10_putIn_98 ?_
          refine r_lsub iX10_putIn_99 ?_
          refine t_long rfl iX10_putIn_100 ?_
          exact hq1 ⟨by omega, by omega, by omega, h10.2⟩ _ (f0.tr (hF2.tr (e2.v (by omega) (by omega))))
        · have h46 := tf_n h46
          refine r_ldc2 (z := -9000000000000000000) kKX10_254 (by decide) iX10_putIn_49 ?_
          refine t_long rfl iX10_putIn_52 ?_
          exact hq0 (by omega) _ f0
theorem c_isFromFor {a q : Nat} {v : Int} {Pq : Int → Nm → Ge → Prop} (hM : MoI N d) (hW : WD d) (ha : a < dA d) (hqs : q < dS d a) (rv : rI v) (hq : ∀ z : Int, (z = 1 ∧ OkB d a q 0 v) ∨ (z = 0 ∧ ¬ OkB d a q 0 v) → Pq z N g) : Ck K YX10_isFromFor hX10_isFromFor [vr 40 0, vi a, vi q, vi v] N g (qI Pq) := by
  have hA := hW.1
  obtain ⟨s1, s2, s3⟩ := hM.2.2 a ha
  have hS := (hW.2.2.1 a ha).1
  have hS6 := hS.2.1
  have bq := hS.2.2.2.2
  refine Ck.intro 2 (by decide) rfl ?_
  show AW _ _ _ _ _ [some (vr 40 0), some (vi a), some (vi q), some (vi v), none, none] _ _ _
  have tl : ∀ lo hi : Int, (q = 0 → lo = 10000) → (q ≠ 0 → lo = dF d a (q - 1) + 1) → (q + 1 < dS d a → hi = dF d a (q + 1) - 1) → (¬ q + 1 < dS d a → hi = 9999) → rI lo → hi ≤ 9999 ∧ -1 ≤ hi → AW K YX10_isFromFor hX10_isFromFor (qI Pq) 52 [some (vr 40 0), some (vi a), some (vi q), some (vi v), some (vi lo), none] [vi hi] N g := by
    intro lo hi k1 k2 k3 k4 k5 k6
    refine sv_i5 (by decide) rfl iX10_isFromFor_52 ?_
    refine ld_i3 iX10_isFromFor_54 ?_
    refine r_i2l (by omega) iX10_isFromFor_55 ?_
    refine ld_i4 iX10_isFromFor_56 ?_
    refine r_i2l (by omega) iX10_isFromFor_58 ?_
    refine ld_i5 iX10_isFromFor_59 ?_
    refine r_i2l (by omega) iX10_isFromFor_61 ?_
    refine xX10_in kMX10_82 iX10_isFromFor_62 (by decide) (Nat.le_of_ble_eq_true rfl) rfl rfl ?_
    refine c_in (by omega) (by omega) (by omega) ?_
    refine t_bool rfl (by exact tf_b _) iX10_isFromFor_65 ?_
    refine hq _ ?_
    by_cases c : lo ≤ v ∧ v ≤ hi
    · refine Or.inl ⟨if_pos c, ⟨fun _ => ⟨by omega, by omega, by omega, fun y => by omega⟩, fun y => by omega, fun y => by omega⟩⟩
    · refine Or.inr ⟨if_neg c, fun h => ?_⟩
      have h := h.1 rfl
      rcases Nat.lt_or_ge (q + 1) (dS d a) with z | z
      · have := h.2.2.2 z; omega
      · omega
  have t21 : ∀ lo : Int, (q = 0 → lo = 10000) → (q ≠ 0 → lo = dF d a (q - 1) + 1) → rI lo → AW K YX10_isFromFor hX10_isFromFor (qI Pq) 21 [some (vr 40 0), some (vi a), some (vi q), some (vi v), none, none] [vi lo] N g := by
    intro lo k1 k2 k5
    refine sv_i4 (by decide) rfl iX10_isFromFor_21 ?_
    refine ld_i2 iX10_isFromFor_23 ?_
    refine r_iconst iX10_isFromFor_24 ?_
    refine r_iadd iX10_isFromFor_25 ?_
    refine ld_a0 iX10_isFromFor_26 ?_
    refine gf_X10_many kFX10_34 iX10_isFromFor_27 ?_
    refine ld_i1 iX10_isFromFor_30 ?_
    refine al_49 rfl (by omega) iX10_isFromFor_31 ?_
    rw [s2]
    refine r_icmpge iX10_isFromFor_32 (by omega) (by omega) (fun h32 => ?_) (fun h32 => ?_)
    · refine r_sipush (by decide) iX10_isFromFor_49 ?_
      first
        | exact tl lo _ k1 k2 (fun y => rfl) (fun y => by omega) k5 (by omega)
        | exact tl lo _ k1 k2 (fun y => by omega) (fun y => rfl) k5 (by omega)
    · refine ld_a0 iX10_isFromFor_35 ?_
      refine ld_i1 iX10_isFromFor_36 ?_
      refine ld_i2 iX10_isFromFor_37 ?_
      refine r_iconst iX10_isFromFor_38 ?_
      refine r_iadd iX10_isFromFor_39 ?_
      refine r_iconst iX10_isFromFor_40 ?_
      have b2 := (bq (q + 1) (by omega)).1
      refine xX10_part kMX10_180 iX10_isFromFor_41 (by decide) (Nat.le_of_ble_eq_true rfl) rfl rfl ?_
      refine c_part (3 * (6 * a + (q + 1))) (by omega) (by omega) ?_
      rw [(s3 (q + 1) (by omega)).1]
      refine r_iconst iX10_isFromFor_44 ?_
      refine r_isub iX10_isFromFor_45 ?_
      refine r_goto iX10_isFromFor_46 ?_
      first
        | exact tl lo _ k1 k2 (fun y => rfl) (fun y => by omega) k5 (by omega)
        | exact tl lo _ k1 k2 (fun y => by omega) (fun y => rfl) k5 (by omega)
  refine ld_i2 iX10_isFromFor_0 ?_
  refine r_ifne iX10_isFromFor_1 (by omega) (fun h1 => ?_) (fun h1 => ?_)
  · refine ld_a0 iX10_isFromFor_10 ?_
    refine ld_i1 iX10_isFromFor_11 ?_
    refine ld_i2 iX10_isFromFor_12 ?_
    refine r_iconst iX10_isFromFor_13 ?_
    refine r_isub iX10_isFromFor_14 ?_
    refine r_iconst iX10_isFromFor_15 ?_
    have b1 := (bq (q - 1) (by omega)).1
    refine xX10_part kMX10_180 iX10_isFromFor_16 (by decide) (Nat.le_of_ble_eq_true rfl) rfl rfl ?_
    refine c_part (3 * (6 * a + (q - 1))) (by omega) (by omega) ?_
    rw [(s3 (q - 1) (by omega)).1]
    refine r_iconst iX10_isFromFor_19 ?_
    refine r_iadd iX10_isFromFor_20 ?_
    first
      | exact t21 _ (fun y => rfl) (fun y => by omega) (by omega)
      | exact t21 _ (fun y => by omega) (fun y => rfl) (by omega)
  · refine r_sipush (by decide) iX10_isFromFor_4 ?_
    refine r_goto iX10_isFromFor_7 ?_
    first
      | exact t21 _ (fun y => rfl) (fun y => by omega) (by omega)
      | exact t21 _ (fun y => by omega) (fun y => rfl) (by omega)
end MYear4
