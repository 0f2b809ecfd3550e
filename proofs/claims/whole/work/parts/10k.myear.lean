/-! own text: what the reference answers of its year, and what changes it -/
def mmN (N : Nm) (p : Nat) (w : Int) : Nm := upN (upN N 55 0 p w) 40 0 25 ((p : Int) + 1)
section MYear2
variable {K : Kx} {N : Nm} {g : Ge} {d : Dk} {wg : Nat → Int} {p : Nat}
theorem c_refuses {k : Nat} {Pq : Int → Nm → Ge → Prop} (hk : k < 4) (hq : Pq (-1) (upN N 54 0 k (N 54 0 k + 1)) g) : Ck K YX10_refuses hX10_refuses [vr 40 0, vi k] N g (qI Pq) := by
  refine Ck.intro 0 (by decide) rfl ?_
  show AW _ _ _ _ _ [some (vr 40 0), some (vi k)] _ _ _
  refine ld_a0 iX10_refuses_0 ?_
  refine gf_X10_refused kFX10_49 iX10_refuses_1 ?_
  refine ld_i1 iX10_refuses_4 ?_
  refine r_dup2 rfl rfl iX10_refuses_5 ?_
  refine al_54 rfl (by omega) iX10_refuses_6 ?_
  refine r_iconst iX10_refuses_7 ?_
  refine r_iadd iX10_refuses_8 ?_
  refine as_54 rfl (by omega) iX10_refuses_9 ?_
  refine r_iconst iX10_refuses_10 ?_
  refine t_int rfl iX10_refuses_11 ?_
  exact hq
theorem m_takeBack {Pq : Int → Nm → Ge → Prop} (hM : MS N d) (hY : YM N wg p) (hq1 : N 40 0 22 = 1 ∧ 0 < p → ∀ N1, FrV N N1 → Pq (wg (p - 1)) (upN N1 40 0 25 ((p - 1 : Nat) : Int)) g) (hq0 : ¬ (N 40 0 22 = 1 ∧ 0 < p) → ∀ N1, FrV N N1 → Pq (-1) (upN N1 54 0 0 (N 54 0 0 + 1)) g) : Ck K YX10_takeBack hX10_takeBack [vr 40 0] N g (qI Pq) := by
  have y2 := hY.2.1
  refine Ck.intro 0 (by decide) rfl ?_
  show AW _ _ _ _ _ [some (vr 40 0)] _ _ _
  refine ld_a0 iX10_takeBack_0 ?_
  refine r_iconst iX10_takeBack_1 ?_
  refine pf_X10_thrown kFX10_72 iX10_takeBack_2 ?_
  obtain ⟨N1, hN1, f0⟩ : ∃ N1, N1 = upN N 40 0 0 0 ∧ FrV N N1 := ⟨_, rfl, thr_v N⟩
  rw [← hN1]
  clear hN1
  have hM1 := hM.v f0
  have h22 : N1 40 0 22 = N 40 0 22 := f0 40 0 22 (by omega) (by omega)
  have h01 := hM1.1
  have hY1 := hY.v f0
  refine ld_a0 iX10_takeBack_5 ?_
  refine gf_X10_isDesk kFX10_165 iX10_takeBack_6 ?_
  refine r_ifeq iX10_takeBack_9 (by omega) (fun h9 => ?_) (fun h9 => ?_)
  · refine ld_a0 iX10_takeBack_19 ?_
    refine r_iconst iX10_takeBack_20 ?_
    refine xX10_refuses kMX10_285 iX10_takeBack_21 (by decide) (Nat.le_of_ble_eq_true rfl) rfl rfl ?_
    refine c_refuses (k := 0) (by omega) ?_
    rw [f0 54 0 0 (by omega) (by omega)]
    refine t_int rfl iX10_takeBack_24 ?_
    exact hq0 (by omega) N1 f0
  · refine ld_a0 iX10_takeBack_12 ?_
    refine gf_X10_months kFX10_168 iX10_takeBack_13 ?_
    rw [hY1.1]
    refine r_ifne iX10_takeBack_16 (by omega) (fun h16 => ?_) (fun h16 => ?_)
    · refine ld_a0 iX10_takeBack_25 ?_
      refine r_dup rfl iX10_takeBack_26 ?_
      refine gf_X10_months kFX10_168 iX10_takeBack_27 ?_
      rw [hY1.1]
      refine r_iconst iX10_takeBack_30 ?_
      refine r_isub iX10_takeBack_31 ?_
      rw [show (p : Int) - 1 = ((p - 1 : Nat) : Int) by omega]
      refine pf_X10_months kFX10_168 iX10_takeBack_32 ?_
      refine ld_a0 iX10_takeBack_35 ?_
      refine gf_X10_wage kFX10_52 iX10_takeBack_36 ?_
      refine ld_a0 iX10_takeBack_39 ?_
      refine gf_X10_months kFX10_168 iX10_takeBack_40 ?_
      rw [upN_eq]
      refine al_55 rfl (by omega) iX10_takeBack_43 ?_
      rw [upN_k (by decide), (hY1.2.2 (p - 1) (by omega)).1]
      refine t_int rfl iX10_takeBack_44 ?_
      exact hq1 (by omega) N1 f0
    · refine ld_a0 iX10_takeBack_19 ?_
      refine r_iconst iX10_takeBack_20 ?_
      refine xX10_refuses kMX10_285 iX10_takeBack_21 (by decide) (Nat.le_of_ble_eq_true rfl) rfl rfl ?_
      refine c_refuses (k := 0) (by omega) ?_
      rw [f0 54 0 0 (by omega) (by omega)]
      refine t_int rfl iX10_takeBack_24 ?_
      exact hq0 (by omega) N1 f0
theorem m_month {w : Int} {Pq : Int → Nm → Ge → Prop} (hM : MS N d) (hY : YM N wg p) (rw' : rI w) (hq1 : N 40 0 22 = 1 ∧ (0 ≤ w ∧ w ≤ 9999) ∧ p < 12 → ∀ N1 N', FrV N N1 → FrV (mmN N1 p w) N' → Pq (pIn (PD d) (fun j => if j = p then w else wg j) p) N' g)
    (hq0 : ∀ k, (k = 0 ∧ N 40 0 22 ≠ 1) ∨ (k = 1 ∧ N 40 0 22 = 1 ∧ ¬ (0 ≤ w ∧ w ≤ 9999)) ∨ (k = 3 ∧ N 40 0 22 = 1 ∧ (0 ≤ w ∧ w ≤ 9999) ∧ p = 12) → ∀ N1, FrV N N1 → Pq HID (upN N1 54 0 k (N 54 0 k + 1)) g) : Ck K YX10_month hX10_month [vr 40 0, vi w] N g (qL Pq) := by
  have y2 := hY.2.1
  refine Ck.intro 1 (by decide) rfl ?_
  show AW _ _ _ _ _ [some (vr 40 0), some (vi w), none] _ _ _
  have tno : ∀ (k : Nat) (z : Int) N1, z = k → FrV N N1 → (k = 0 ∧ N 40 0 22 ≠ 1) ∨ (k = 1 ∧ N 40 0 22 = 1 ∧ ¬ (0 ≤ w ∧ w ≤ 9999)) ∨ (k = 3 ∧ N 40 0 22 = 1 ∧ (0 ≤ w ∧ w ≤ 9999) ∧ p = 12) → AW K YX10_month hX10_month (qL Pq) 46 [some (vr 40 0), some (vi w), none] [vi z] N1 g := by
    intro k z N1 hz f0 hk
    subst hz
    refine sv_i2 (by decide) rfl iX10_month_46 ?_
    refine ld_i2 iX10_month_47 ?_
    refine r_iconst iX10_month_48 ?_
    refine r_icmpeq iX10_month_49 (by omega) (by omega) (fun h49 => ?_) (fun h49 => ?_)
    · exfalso; omega
    · refine ld_a0 iX10_month_52 ?_
      refine ld_i2 iX10_month_53 ?_
      refine xX10_refuses kMX10_285 iX10_month_54 (by decide) (Nat.le_of_ble_eq_true rfl) rfl rfl ?_
      refine c_refuses (k := k) (by omega) ?_
      rw [f0 54 0 k (by omega) (by omega)]
      refine r_pop rfl iX10_month_57 ?_
      refine r_ldc2 (z := -9000000000000000000) kKX10_254 (by decide) iX10_month_58 ?_
      refine t_long rfl iX10_month_61 ?_
      exact hq0 k hk N1 f0
  have tgo : ∀ (z : Int) N1, z = -1 → FrV N N1 → (N 40 0 22 = 1 ∧ (0 ≤ w ∧ w ≤ 9999) ∧ p < 12) → AW K YX10_month hX10_month (qL Pq) 46 [some (vr 40 0), some (vi w), none] [vi z] N1 g := by
    intro z N1 hz f0 hg
    have hY1 := hY.v f0
    have hM1 := hM.v f0
    have hM2 : MS (mmN N1 p w) d := by
      obtain ⟨a1, a2, a3⟩ := hM1
      unfold mmN
      refine ⟨by rw [upN_j (by decide), upN_k (by decide)]; exact a1, by rw [upN_j (by decide), upN_k (by decide)]; exact a2, fun q => ?_⟩
      rw [upN_j (by decide), upN_k (by decide)] at q
      obtain ⟨b1, b2, b3⟩ := a3 q
      exact ⟨b1, b2.of (by rw [upN_j (by decide), upN_k (by decide)]) (fun k j q1 q2 => by rw [upN_k (by omega), upN_k (by omega)]), by rw [upN_j (by decide), upN_k (by decide)]; exact b3⟩
    have h2 : (mmN N1 p w) 40 0 22 = 1 := by unfold mmN; rw [upN_j (by decide), upN_k (by decide), f0 40 0 22 (by omega) (by omega)]; exact hg.1
    have hY2 : YM (mmN N1 p w) (fun j => if j = p then w else wg j) (p + 1) := by
      unfold mmN
      refine ⟨by rw [upN_eq]; omega, by omega, fun j hj => ?_⟩
      rw [upN_k (by decide)]
      by_cases e : j = p
      · rw [e, upN_eq]; simp only [if_true]; exact ⟨trivial, hg.2.1⟩
      · rw [upN_j e]; simp only [if_neg e]; exact hY1.2.2 j (by omega)
    refine sv_i2 (by decide) rfl iX10_month_46 ?_
    refine ld_i2 iX10_month_47 ?_
    refine r_iconst iX10_month_48 ?_
    refine r_icmpeq iX10_month_49 (by omega) (by omega) (fun h49 => ?_) (fun h49 => ?_)
    · refine ld_a0 iX10_month_62 ?_
      refine gf_X10_wage kFX10_52 iX10_month_63 ?_
      refine ld_a0 iX10_month_66 ?_
      refine gf_X10_months kFX10_168 iX10_month_67 ?_
      rw [hY1.1]
      refine ld_i1 iX10_month_70 ?_
      refine as_55 rfl (by omega) iX10_month_71 ?_
      refine ld_a0 iX10_month_72 ?_
      refine r_dup rfl iX10_month_73 ?_
      refine gf_X10_months kFX10_168 iX10_month_74 ?_
      rw [upN_k (by decide), hY1.1]
      refine r_iconst iX10_month_77 ?_
      refine r_iadd iX10_month_78 ?_
      refine pf_X10_months kFX10_168 iX10_month_79 ?_
      show AW _ _ _ _ _ _ _ (mmN N1 p w) _
      refine ld_a0 iX10_month_82 ?_
      refine ld_a0 iX10_month_83 ?_
      refine gf_X10_months kFX10_168 iX10_month_84 ?_
      rw [hY2.1]
      refine r_iconst iX10_month_87 ?_
      refine r_isub iX10_month_88 ?_
      rw [show ((p + 1 : Nat) : Int) - 1 = (p : Int) by omega]
      refine xX10_paidIn kMX10_313 iX10_month_89 (by decide) (Nat.le_of_ble_eq_true rfl) rfl rfl ?_
      refine c_mPaidIn hM2 h2 hY2 (by omega) (fun N2 e1 => ?_)
      refine t_long rfl iX10_month_92 ?_
      exact hq1 hg N1 N2 f0 (e1.v (by omega) (by omega))
    · exfalso; omega
  refine ld_a0 iX10_month_0 ?_
  refine r_iconst iX10_month_1 ?_
  refine pf_X10_thrown kFX10_72 iX10_month_2 ?_
  obtain ⟨N1, hN1, f0⟩ : ∃ N1, N1 = upN N 40 0 0 0 ∧ FrV N N1 := ⟨_, rfl, thr_v N⟩
  rw [← hN1]
  clear hN1
  have hM1 := hM.v f0
  have h22 : N1 40 0 22 = N 40 0 22 := f0 40 0 22 (by omega) (by omega)
  have h01 := hM1.1
  refine ld_a0 iX10_month_5 ?_
  refine gf_X10_isDesk kFX10_165 iX10_month_6 ?_
  refine r_ifne iX10_month_9 (by omega) (fun h9 => ?_) (fun h9 => ?_)
  · refine ld_i1 iX10_month_16 ?_
    refine r_i2l (by omega) iX10_month_17 ?_
    refine r_lconst (v := 0) (by decide) iX10_month_18 ?_
    refine r_ldc2 (z := 9999) kKX10_173 (by decide) iX10_month_19 ?_
    refine xX10_in kMX10_82 iX10_month_22 (by decide) (Nat.le_of_ble_eq_true rfl) rfl rfl ?_
    refine c_in (by omega) (by omega) (by omega) ?_
    refine r_ifne iX10_month_25 (by exact tf_r _) (fun h25 => ?_) (fun h25 => ?_)
    · have h25 := tf_y h25
      refine ld_a0 iX10_month_32 ?_
      refine gf_X10_months kFX10_168 iX10_month_33 ?_
      rw [(hY.v f0).1]
      refine r_bipush (by decide) iX10_month_36 ?_
      refine r_icmpne iX10_month_38 (by omega) (by omega) (fun h38 => ?_) (fun h38 => ?_)
      · refine r_iconst iX10_month_45 ?_
        first
          | exact tno 0 _ N1 rfl f0 (Or.inl ⟨rfl, by omega⟩)
          | exact tno 1 _ N1 rfl f0 (Or.inr (Or.inl ⟨rfl, by omega, h25⟩))
          | exact tno 3 _ N1 rfl f0 (Or.inr (Or.inr ⟨rfl, by omega, h25, by omega⟩))
          | exact tgo _ N1 rfl f0 ⟨by omega, h25, by omega⟩
      · refine r_iconst iX10_month_41 ?_
        refine r_goto iX10_month_42 ?_
        first
          | exact tno 0 _ N1 rfl f0 (Or.inl ⟨rfl, by omega⟩)
          | exact tno 1 _ N1 rfl f0 (Or.inr (Or.inl ⟨rfl, by omega, h25⟩))
          | exact tno 3 _ N1 rfl f0 (Or.inr (Or.inr ⟨rfl, by omega, h25, by omega⟩))
          | exact tgo _ N1 rfl f0 ⟨by omega, h25, by omega⟩
    · have h25 := tf_n h25
      refine r_iconst iX10_month_28 ?_
      refine r_goto iX10_month_29 ?_
      first
        | exact tno 0 _ N1 rfl f0 (Or.inl ⟨rfl, by omega⟩)
        | exact tno 1 _ N1 rfl f0 (Or.inr (Or.inl ⟨rfl, by omega, h25⟩))
        | exact tno 3 _ N1 rfl f0 (Or.inr (Or.inr ⟨rfl, by omega, h25, by omega⟩))
        | exact tgo _ N1 rfl f0 ⟨by omega, h25, by omega⟩
  · refine r_iconst iX10_month_12 ?_
    refine r_goto iX10_month_13 ?_
    first
      | exact tno 0 _ N1 rfl f0 (Or.inl ⟨rfl, by omega⟩)
      | exact tno 1 _ N1 rfl f0 (Or.inr (Or.inl ⟨rfl, by omega, h25⟩))
      | exact tno 3 _ N1 rfl f0 (Or.inr (Or.inr ⟨rfl, by omega, h25, by omega⟩))
      | exact tgo _ N1 rfl f0 ⟨by omega, h25, by omega⟩
theorem m_year {a w : Int} {Pq : Int → Nm → Ge → Prop} (hM : MS N d) (hY : YM N wg p) (ra : rI a) (rw' : rI w) (hq1 : N 40 0 22 = 1 ∧ (0 ≤ a ∧ a < p) ∧ (0 ≤ w ∧ w ≤ 2) → ∀ N', FrV N N' → Pq (if w = 0 then wg a.toNat else if w = 1 then pIn (PD d) wg a.toNat else du (PD d) (a.toNat + 1) (sW wg (a.toNat + 1))) N' g) (hq0 : ¬ (N 40 0 22 = 1 ∧ (0 ≤ a ∧ a < p) ∧ (0 ≤ w ∧ w ≤ 2)) → ∀ N', FrV N N' → Pq HID N' g) : Ck K YX10_year hX10_year [vr 40 0, vi a, vi w] N g (qL Pq) := by
  have y2 := hY.2.1
  refine Ck.intro 0 (by decide) rfl ?_
  show AW _ _ _ _ _ [some (vr 40 0), some (vi a), some (vi w)] _ _ _
  refine ld_a0 iX10_year_0 ?_
  refine r_iconst iX10_year_1 ?_
  refine pf_X10_thrown kFX10_72 iX10_year_2 ?_
  obtain ⟨N1, hN1, f0⟩ : ∃ N1, N1 = upN N 40 0 0 0 ∧ FrV N N1 := ⟨_, rfl, thr_v N⟩
  rw [← hN1]
  clear hN1
  have hM1 := hM.v f0
  have h22 : N1 40 0 22 = N 40 0 22 := f0 40 0 22 (by omega) (by omega)
  have h01 := hM1.1
  have hY1 := hY.v f0
  refine ld_a0 iX10_year_5 ?_
  refine gf_X10_isDesk kFX10_165 iX10_year_6 ?_
  refine r_ifeq iX10_year_9 (by omega) (fun h9 => ?_) (fun h9 => ?_)
  · refine r_ldc2 (z := -9000000000000000000) kKX10_254 (by decide) iX10_year_40 ?_
    refine t_long rfl iX10_year_43 ?_
    exact hq0 (by omega) _ f0
  · refine ld_i1 iX10_year_12 ?_
    refine r_i2l (by omega) iX10_year_13 ?_
    refine r_lconst (v := 0) (by decide) iX10_year_14 ?_
    refine ld_a0 iX10_year_15 ?_
    refine gf_X10_months kFX10_168 iX10_year_16 ?_
    rw [hY1.1]
    refine r_iconst iX10_year_19 ?_
    refine r_isub iX10_year_20 ?_
    refine r_i2l (by omega) iX10_year_21 ?_
    refine xX10_in kMX10_82 iX10_year_22 (by decide) (Nat.le_of_ble_eq_true rfl) rfl rfl ?_
    refine c_in (by omega) (by omega) (by omega) ?_
    refine r_ifeq iX10_year_25 (by exact tf_r _) (fun h25 => ?_) (fun h25 => ?_)
    · have h25 := tf_n h25
      refine r_ldc2 (z := -9000000000000000000) kKX10_254 (by decide) iX10_year_40 ?_
      refine t_long rfl iX10_year_43 ?_
      exact hq0 (by omega) _ f0
    · have h25 := tf_y h25
      refine ld_i2 iX10_year_28 ?_
      refine r_i2l (by omega) iX10_year_29 ?_
      refine r_lconst (v := 0) (by decide) iX10_year_30 ?_
      refine r_ldc2 (z := 2) kKX10_283 (by decide) iX10_year_31 ?_
      refine xX10_in kMX10_82 iX10_year_34 (by decide) (Nat.le_of_ble_eq_true rfl) rfl rfl ?_
      refine c_in (by omega) (by omega) (by omega) ?_
      refine r_ifne iX10_year_37 (by exact tf_r _) (fun h37 => ?_) (fun h37 => ?_)
      · have h37 := tf_y h37
        obtain ⟨n, hn⟩ : ∃ n : Nat, a = n := ⟨a.toNat, by omega⟩
        subst hn
        rw [show ((n : Nat) : Int).toNat = n from rfl] at hq1
        have y3 := hY1.2.2 n (by omega)
        refine ld_i2 iX10_year_44 ?_
        refine r_ifne iX10_year_45 (by omega) (fun h45 => ?_) (fun h45 => ?_)
        · refine ld_i2 iX10_year_58 ?_
          refine r_iconst iX10_year_59 ?_
          refine r_icmpne iX10_year_60 (by omega) (by omega) (fun h60 => ?_) (fun h60 => ?_)
          · refine ld_a0 iX10_year_71 ?_
            refine ld_i1 iX10_year_72 ?_
            refine r_iconst iX10_year_73 ?_
            refine r_iadd iX10_year_74 ?_
            rw [show (n : Int) + 1 = ((n + 1 : Nat) : Int) by omega]
            refine xX10_dueBehind kMX10_310 iX10_year_75 (by decide) (Nat.le_of_ble_eq_true rfl) rfl rfl ?_
            refine c_dueBehind hM1 (by omega) hY1 (by omega) (fun N2 e1 => ?_)
            refine t_long rfl iX10_year_78 ?_
            first
              | (have y := hq1 ⟨by omega, by omega, h37⟩ N1 f0; rw [if_pos (by omega)] at y; exact y)
              | (have y := hq1 ⟨by omega, by omega, h37⟩ N2 (f0.tr (e1.v (by omega) (by omega))); rw [if_neg (by omega), if_pos (by omega)] at y; exact y)
              | (have y := hq1 ⟨by omega, by omega, h37⟩ N2 (f0.tr (e1.v (by omega) (by omega))); rw [if_neg (by omega), if_neg (by omega), show (n : Int) + 1 = ((n + 1 : Nat) : Int) by omega] at y; exact y)
          · refine ld_a0 iX10_year_63 ?_
            refine ld_i1 iX10_year_64 ?_
            refine xX10_paidIn kMX10_313 iX10_year_65 (by decide) (Nat.le_of_ble_eq_true rfl) rfl rfl ?_
            refine c_mPaidIn hM1 (by omega) hY1 (by omega) (fun N2 e1 => ?_)
            refine r_goto iX10_year_68 ?_
            refine t_long rfl iX10_year_78 ?_
            first
              | (have y := hq1 ⟨by omega, by omega, h37⟩ N1 f0; rw [if_pos (by omega)] at y; exact y)
              | (have y := hq1 ⟨by omega, by omega, h37⟩ N2 (f0.tr (e1.v (by omega) (by omega))); rw [if_neg (by omega), if_pos (by omega)] at y; exact y)
              | (have y := hq1 ⟨by omega, by omega, h37⟩ N2 (f0.tr (e1.v (by omega) (by omega))); rw [if_neg (by omega), if_neg (by omega), show (n : Int) + 1 = ((n + 1 : Nat) : Int) by omega] at y; exact y)
        · refine ld_a0 iX10_year_48 ?_
          refine gf_X10_wage kFX10_52 iX10_year_49 ?_
          refine ld_i1 iX10_year_52 ?_
          refine al_55 rfl (by omega) iX10_year_53 ?_
          rw [y3.1]
          refine r_i2l (by omega) iX10_year_54 ?_
          refine r_goto iX10_year_55 ?_
          refine t_long rfl iX10_year_78 ?_
          first
            | (have y := hq1 ⟨by omega, by omega, h37⟩ N1 f0; rw [if_pos (by omega)] at y; exact y)
            | (have y := hq1 ⟨by omega, by omega, h37⟩ N2 (f0.tr (e1.v (by omega) (by omega))); rw [if_neg (by omega), if_pos (by omega)] at y; exact y)
            | (have y := hq1 ⟨by omega, by omega, h37⟩ N2 (f0.tr (e1.v (by omega) (by omega))); rw [if_neg (by omega), if_neg (by omega), show (n : Int) + 1 = ((n + 1 : Nat) : Int) by omega] at y; exact y)
      · have h37 := tf_n h37
        refine r_ldc2 (z := -9000000000000000000) kKX10_254 (by decide) iX10_year_40 ?_
        refine t_long rfl iX10_year_43 ?_
        exact hq0 (by omega) _ f0
theorem m_dueAhead {Pq : Int → Nm → Ge → Prop} (hM : MS N d) (hY : YM N wg p) (hq1 : N 40 0 22 = 1 → ∀ N', FrV N N' → Pq (du (PD d) p (sW wg p) - du (PD d) 12 (sW wg p)) N' g) (hq0 : ¬ N 40 0 22 = 1 → ∀ N', FrV N N' → Pq HID N' g) : Ck K YX10_dueAhead hX10_dueAhead [vr 40 0] N g (qL Pq) := by
  have y2 := hY.2.1
  have b1 := sW_bd p (fun j hj => (hY.2.2 j (by omega)).2)
  refine Ck.intro 0 (by decide) rfl ?_
  show AW _ _ _ _ _ [some (vr 40 0)] _ _ _
  refine ld_a0 iX10_dueAhead_0 ?_
  refine r_iconst iX10_dueAhead_1 ?_
  refine pf_X10_thrown kFX10_72 iX10_dueAhead_2 ?_
  obtain ⟨N1, hN1, f0⟩ : ∃ N1, N1 = upN N 40 0 0 0 ∧ FrV N N1 := ⟨_, rfl, thr_v N⟩
  rw [← hN1]
  clear hN1
  have hM1 := hM.v f0
  have h22 : N1 40 0 22 = N 40 0 22 := f0 40 0 22 (by omega) (by omega)
  have h01 := hM1.1
  have hY1 := hY.v f0
  refine ld_a0 iX10_dueAhead_5 ?_
  refine gf_X10_isDesk kFX10_165 iX10_dueAhead_6 ?_
  refine r_ifeq iX10_dueAhead_9 (by omega) (fun h9 => ?_) (fun h9 => ?_)
  · refine r_ldc2 (z := -9000000000000000000) kKX10_254 (by decide) iX10_dueAhead_38 ?_
    refine t_long rfl iX10_dueAhead_41 ?_
    first
      | exact hq0 (by omega) _ f0
      | exact hq1 (by omega) _ (f0.tr (hF2.tr (e2.v (by omega) (by omega))))
  · refine ld_a0 iX10_dueAhead_12 ?_
    refine ld_a0 iX10_dueAhead_13 ?_
    refine gf_X10_months kFX10_168 iX10_dueAhead_14 ?_
    rw [hY1.1]
    refine xX10_dueBehind kMX10_310 iX10_dueAhead_17 (by decide) (Nat.le_of_ble_eq_true rfl) rfl rfl ?_
    refine c_dueBehind hM1 (by omega) hY1 (Nat.le_refl _) (fun N2 e1 => ?_)
    have hF2 : FrV N1 N2 := e1.v (by omega) (by omega)
    refine ld_a0 iX10_dueAhead_20 ?_
    refine r_bipush (by decide) iX10_dueAhead_21 ?_
    refine ld_a0 iX10_dueAhead_23 ?_
    refine ld_a0 iX10_dueAhead_24 ?_
    refine gf_X10_months kFX10_168 iX10_dueAhead_25 ?_
    rw [(hY1.v hF2).1]
    refine xX10_wagesOf kMX10_304 iX10_dueAhead_28 (by decide) (Nat.le_of_ble_eq_true rfl) rfl rfl ?_
    refine c_mWagesOf (hY1.v hF2) (Nat.le_refl _) ?_
    refine xX10_due kMX10_307 iX10_dueAhead_31 (by decide) (Nat.le_of_ble_eq_true rfl) rfl rfl ?_
    refine c_mDue (hM1.v hF2) (by rw [hF2 40 0 22 (by omega) (by omega)]; omega) (by omega) (by omega) (fun N3 e2 => ?_)
    refine r_lsub iX10_dueAhead_34 ?_
    refine r_goto iX10_dueAhead_35 ?_
    refine t_long rfl iX10_dueAhead_41 ?_
    first
      | exact hq0 (by omega) _ f0
      | exact hq1 (by omega) _ (f0.tr (hF2.tr (e2.v (by omega) (by omega))))
theorem m_both {w o : Int} {Pq : Int → Nm → Ge → Prop} (hM : MS N d) (rw' : rI w) (ro : rI o) (hq1 : N 40 0 22 = 1 ∧ (0 ≤ w ∧ w ≤ 9999) ∧ (0 ≤ o ∧ o ≤ 9999) → ∀ N', FrV N N' → Pq ((w + o) * 1000000000 - du (PD d) 2 (w + o)) N' g) (hq0 : ¬ (N 40 0 22 = 1 ∧ (0 ≤ w ∧ w ≤ 9999) ∧ (0 ≤ o ∧ o ≤ 9999)) → ∀ N', FrV N N' → Pq HID N' g) : Ck K YX10_both hX10_both [vr 40 0, vi w, vi o] N g (qL Pq) := by
  refine Ck.intro 0 (by decide) rfl ?_
  show AW _ _ _ _ _ [some (vr 40 0), some (vi w), some (vi o)] _ _ _
  refine ld_a0 iX10_both_0 ?_
  refine r_iconst iX10_both_1 ?_
  refine pf_X10_thrown kFX10_72 iX10_both_2 ?_
  obtain ⟨N1, hN1, f0⟩ : ∃ N1, N1 = upN N 40 0 0 0 ∧ FrV N N1 := ⟨_, rfl, thr_v N⟩
  rw [← hN1]
  clear hN1
  have hM1 := hM.v f0
  have h22 : N1 40 0 22 = N 40 0 22 := f0 40 0 22 (by omega) (by omega)
  have h01 := hM1.1
  refine ld_a0 iX10_both_5 ?_
  refine ld_i1 iX10_both_6 ?_
  refine xX10_isWage kMX10_251 iX10_both_7 (by decide) (Nat.le_of_ble_eq_true rfl) rfl rfl ?_
  refine c_mIsWage hM1 rw' ?_
  refine r_ifeq iX10_both_10 (by exact tf_r _) (fun h10 => ?_) (fun h10 => ?_)
  · have h10 := tf_n h10
    refine r_ldc2 (z := -9000000000000000000) kKX10_254 (by decide) iX10_both_41 ?_
    refine t_long rfl iX10_both_44 ?_
    first
      | exact hq0 (by omega) _ f0
      | exact hq1 ⟨by omega, h10.2, h18.2⟩ _ (f0.tr (e1.v (by omega) (by omega)))
  · have h10 := tf_y h10
    refine ld_a0 iX10_both_13 ?_
    refine ld_i2 iX10_both_14 ?_
    refine xX10_isWage kMX10_251 iX10_both_15 (by decide) (Nat.le_of_ble_eq_true rfl) rfl rfl ?_
    refine c_mIsWage hM1 ro ?_
    refine r_ifeq iX10_both_18 (by exact tf_r _) (fun h18 => ?_) (fun h18 => ?_)
    · have h18 := tf_n h18
      refine r_ldc2 (z := -9000000000000000000) kKX10_254 (by decide) iX10_both_41 ?_
      refine t_long rfl iX10_both_44 ?_
      first
        | exact hq0 (by omega) _ f0
        | exact hq1 ⟨by omega, h10.2, h18.2⟩ _ (f0.tr (e1.v (by omega) (by omega)))
    · have h18 := tf_y h18
      refine ld_i1 iX10_both_21 ?_
      refine ld_i2 iX10_both_22 ?_
      refine r_iadd iX10_both_23 ?_
      refine r_i2l (by omega) iX10_both_24 ?_
      refine r_ldc2 (z := 1000000000) kKX10_178 (by decide) iX10_both_25 ?_
      refine r_lmul iX10_both_28 ?_
      refine ld_a0 iX10_both_29 ?_
      refine r_iconst iX10_both_30 ?_
      refine ld_i1 iX10_both_31 ?_
      refine ld_i2 iX10_both_32 ?_
      refine r_iadd iX10_both_33 ?_
      refine xX10_due kMX10_307 iX10_both_34 (by decide) (Nat.le_of_ble_eq_true rfl) rfl rfl ?_
      refine c_mDue hM1 h10.1 (by omega) (by omega) (fun N2 e1 => ?_)
      refine r_lsub iX10_both_37 ?_
      refine r_goto iX10_both_38 ?_
      refine t_long rfl iX10_both_44 ?_
      first
        | exact hq0 (by omega) _ f0
        | exact hq1 ⟨by omega, h10.2, h18.2⟩ _ (f0.tr (e1.v (by omega) (by omega)))
theorem m_benefit {u : Int} {Pq : Int → Nm → Ge → Prop} (hM : MS N d) (ru : rI u) (hq1 : N 40 0 22 = 1 ∧ (0 ≤ u ∧ u ≤ 999) ∧ u ≠ dB d → ∀ N1, FrV N N1 → Pq (dB d) (upN N1 40 0 20 u) g)
    (hq0 : ∀ k, (k = 0 ∧ N 40 0 22 ≠ 1) ∨ (k = 1 ∧ N 40 0 22 = 1 ∧ ¬ (0 ≤ u ∧ u ≤ 999)) ∨ (k = 2 ∧ N 40 0 22 = 1 ∧ (0 ≤ u ∧ u ≤ 999) ∧ u = dB d) → ∀ N1, FrV N N1 → Pq (-1) (upN N1 54 0 k (N 54 0 k + 1)) g) : Ck K YX10_benefit hX10_benefit [vr 40 0, vi u] N g (qI Pq) := by
  refine Ck.intro 1 (by decide) rfl ?_
  show AW _ _ _ _ _ [some (vr 40 0), some (vi u), none] _ _ _
  refine ld_a0 iX10_benefit_0 ?_
  refine r_iconst iX10_benefit_1 ?_
  refine pf_X10_thrown kFX10_72 iX10_benefit_2 ?_
  obtain ⟨N1, hN1, f0⟩ : ∃ N1, N1 = upN N 40 0 0 0 ∧ FrV N N1 := ⟨_, rfl, thr_v N⟩
  rw [← hN1]
  clear hN1
  have hM1 := hM.v f0
  have h22 : N1 40 0 22 = N 40 0 22 := f0 40 0 22 (by omega) (by omega)
  have h01 := hM1.1
  refine ld_a0 iX10_benefit_5 ?_
  refine gf_X10_isDesk kFX10_165 iX10_benefit_6 ?_
  refine r_ifne iX10_benefit_9 (by omega) (fun h9 => ?_) (fun h9 => ?_)
  · refine ld_i1 iX10_benefit_18 ?_
    refine r_i2l (by omega) iX10_benefit_19 ?_
    refine r_lconst (v := 0) (by decide) iX10_benefit_20 ?_
    refine r_ldc2 (z := 999) kKX10_294 (by decide) iX10_benefit_21 ?_
    refine xX10_in kMX10_82 iX10_benefit_24 (by decide) (Nat.le_of_ble_eq_true rfl) rfl rfl ?_
    refine c_in (by omega) (by omega) (by omega) ?_
    refine r_ifne iX10_benefit_27 (by exact tf_r _) (fun h27 => ?_) (fun h27 => ?_)
    · have h27 := tf_y h27
      obtain ⟨a1, a2, a3⟩ := hM1.2.2 (by omega)
      have hb := a1.2.1
      refine ld_i1 iX10_benefit_36 ?_
      refine ld_a0 iX10_benefit_37 ?_
      refine gf_X10_benefit kFX10_162 iX10_benefit_38 ?_
      rw [a3]
      refine r_icmpne iX10_benefit_41 (by omega) (by omega) (fun h41 => ?_) (fun h41 => ?_)
      · refine ld_a0 iX10_benefit_50 ?_
        refine gf_X10_benefit kFX10_162 iX10_benefit_51 ?_
        rw [a3]
        refine sv_i2 (by decide) rfl iX10_benefit_54 ?_
        refine ld_a0 iX10_benefit_55 ?_
        refine ld_i1 iX10_benefit_56 ?_
        refine pf_X10_benefit kFX10_162 iX10_benefit_57 ?_
        refine ld_i2 iX10_benefit_60 ?_
        refine t_int rfl iX10_benefit_61 ?_
        exact hq1 ⟨by omega, h27, by omega⟩ N1 f0
      · refine ld_a0 iX10_benefit_44 ?_
        refine r_iconst iX10_benefit_45 ?_
        refine xX10_refuses kMX10_285 iX10_benefit_46 (by decide) (Nat.le_of_ble_eq_true rfl) rfl rfl ?_
        refine c_refuses (k := 2) (by omega) ?_
        rw [f0 54 0 2 (by omega) (by omega)]
        refine t_int rfl iX10_benefit_49 ?_
        exact hq0 2 (Or.inr (Or.inr ⟨rfl, by omega, h27, by omega⟩)) N1 f0
    · have h27 := tf_n h27
      refine ld_a0 iX10_benefit_30 ?_
      refine r_iconst iX10_benefit_31 ?_
      refine xX10_refuses kMX10_285 iX10_benefit_32 (by decide) (Nat.le_of_ble_eq_true rfl) rfl rfl ?_
      refine c_refuses (k := 1) (by omega) ?_
      rw [f0 54 0 1 (by omega) (by omega)]
      refine t_int rfl iX10_benefit_35 ?_
      exact hq0 1 (Or.inr (Or.inl ⟨rfl, by omega, h27⟩)) N1 f0
  · refine ld_a0 iX10_benefit_12 ?_
    refine r_iconst iX10_benefit_13 ?_
    refine xX10_refuses kMX10_285 iX10_benefit_14 (by decide) (Nat.le_of_ble_eq_true rfl) rfl rfl ?_
    refine c_refuses (k := 0) (by omega) ?_
    rw [f0 54 0 0 (by omega) (by omega)]
    refine t_int rfl iX10_benefit_17 ?_
    exact hq0 0 (Or.inl ⟨rfl, by omega⟩) N1 f0
end MYear2
