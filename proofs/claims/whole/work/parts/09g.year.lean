/-! own text: the year, on -/
section Year8
variable {K : Kx} {N : Nm} {g : Ge} {i : Nat} {F : Nat → Int} {P : Nat} {s : Nat → Nat} {G : Nat → Int} {wg : Nat → Int} {p : Nat}
theorem c_yLeastNext {v : Int} {Pq : Int → Nm → Ge → Prop} (hL : Ln N g i F P s G) (hY : YI N wg p) (hp : p < 12) (hv : rL v) (hq : ∀ r N', Fst (fun w => v ≤ (w : Int) * 1000000000 - (du F (p + 1) (sW wg p + w) - du F p (sW wg p))) 0 10000 r → Sr N N' → Pq r N' g) : Ck K YX8_leastNext hX8_leastNext [vr 16 0, vr 12 i, vl v] N g (qI Pq) := by
  have b0 := sW_bd p (fun j hj => (hY.2.2 j (by omega)).2)
  have bF0 := hL.2.2.2.2.1
  have d0 := du_bd bF0 (m := p) (t := sW wg p) (by omega) b0.1
  refine Ck.intro 4 (by decide) rfl ?_
  show AW _ _ _ _ _ [some (vr 16 0), some (vr 12 i), some (vl v), none, none, none, none, none] _ _ _
  have loop : ∀ (k w : Nat) (c : Int) (N' : Nm), 10000 - w = k → w ≤ 10000 → c = w → (∀ u, u < w → ¬ v ≤ (u : Int) * 1000000000 - (du F (p + 1) (sW wg p + u) - du F p (sW wg p))) → Sr N N' → AW K YX8_leastNext hX8_leastNext (qI Pq) 25 [some (vr 16 0), some (vr 12 i), some (vl v), none, some (vi (sW wg p)), some (vl (du F p (sW wg p))), none, some (vi c)] [] N' g := by
    intro k
    induction k using Nat.strongRecOn with
    | _ k ih =>
      intro w c N' e h1 h2 h3 h4
      subst h2
      have hY' := hY.sr h4
      have hL' := hL.sr h4
      have d1 := du_bd bF0 (m := p + 1) (t := sW wg p + w) (by omega) (by omega)
      refine ld_i7 iX8_leastNext_25 ?_
      refine r_sipush (by decide) iX8_leastNext_27 ?_
      refine r_icmpgt iX8_leastNext_30 (by omega) (by omega) (fun h30 => ?_) (fun h30 => ?_)
      · refine r_iconst iX8_leastNext_73 ?_
        refine t_int rfl iX8_leastNext_74 ?_
        exact hq _ N' (Or.inl ⟨rfl, fun u _ hu => h3 u (by omega)⟩) h4
      · refine ld_i7 iX8_leastNext_33 ?_
        refine r_i2l (by omega) iX8_leastNext_35 ?_
        refine r_ldc2 (z := 1000000000) kKX8_25 (by decide) iX8_leastNext_36 ?_
        refine r_lmul iX8_leastNext_39 ?_
        refine ld_a1 iX8_leastNext_40 ?_
        refine ld_a0 iX8_leastNext_41 ?_
        refine gf_X8_passed kFX8_15 iX8_leastNext_42 ?_
        rw [hY'.1]
        refine r_iconst iX8_leastNext_45 ?_
        refine r_iadd iX8_leastNext_46 ?_
        refine ld_i4 iX8_leastNext_47 ?_
        refine ld_i7 iX8_leastNext_49 ?_
        refine r_iadd iX8_leastNext_51 ?_
        refine xX8_due kMX8_39 iX8_leastNext_52 (by decide) (Nat.le_of_ble_eq_true rfl) rfl rfl ?_
        refine c_yDue hL' (by omega) (by omega) (fun N2 e1 => ?_)
        refine ld_l5 iX8_leastNext_55 ?_
        refine r_lsub iX8_leastNext_57 ?_
        refine r_lsub iX8_leastNext_58 ?_
        refine ld_l2 iX8_leastNext_59 ?_
        refine r_lclt iX8_leastNext_60 iX8_leastNext_61 (by omega) (by omega) (fun h60 => ?_) (fun h60 => ?_)
        · refine inc_7 (by decide) rfl iX8_leastNext_67 ?_
          refine r_goto iX8_leastNext_70 ?_
          refine ih (10000 - (w + 1)) (by omega) (w + 1) _ N2 rfl (by omega) (by omega) (fun u hu => ?_) (h4.tr e1)
          by_cases eu : u = w
          · rw [eu]; omega
          · exact h3 u (by omega)
        · refine ld_i7 iX8_leastNext_64 ?_
          refine t_int rfl iX8_leastNext_66 ?_
          exact hq _ N2 (Or.inr ⟨w, rfl, by omega, by omega, by omega, fun u _ hu => h3 u hu⟩) (h4.tr e1)
  refine ld_a0 iX8_leastNext_0 ?_
  refine ld_a0 iX8_leastNext_1 ?_
  refine gf_X8_passed kFX8_15 iX8_leastNext_2 ?_
  rw [hY.1]
  refine xX8_wagesOf kMX8_43 iX8_leastNext_5 (by decide) (Nat.le_of_ble_eq_true rfl) rfl rfl ?_
  refine c_yWagesOf hY (by omega) ?_
  refine sv_i4 (by decide) rfl iX8_leastNext_8 ?_
  refine ld_a1 iX8_leastNext_10 ?_
  refine ld_a0 iX8_leastNext_11 ?_
  refine gf_X8_passed kFX8_15 iX8_leastNext_12 ?_
  rw [hY.1]
  refine ld_i4 iX8_leastNext_15 ?_
  refine xX8_due kMX8_39 iX8_leastNext_17 (by decide) (Nat.le_of_ble_eq_true rfl) rfl rfl ?_
  refine c_yDue hL (by omega) (by omega) (fun N2 e1 => ?_)
  refine sv_l5 (by decide) rfl iX8_leastNext_20 ?_
  refine r_iconst iX8_leastNext_22 ?_
  refine sv_i7 (by decide) rfl iX8_leastNext_23 ?_
  exact loop 10000 0 _ N2 (by omega) (by omega) (by omega) (fun u hu => by omega) e1
theorem c_yLeastEach {v : Int} {Pq : Int → Nm → Ge → Prop} (hL : Ln N g i F P s G) (hY : YI N wg p) (hp : p < 12) (hv : rL v) (hq : ∀ r N', Fst (fun w => v ≤ (sW wg p + (12 - (p : Int)) * w) * 1000000000 - du F 12 (sW wg p + (12 - (p : Int)) * w)) 0 10000 r → Sr N N' → Pq r N' g) : Ck K YX8_leastEach hX8_leastEach [vr 16 0, vr 12 i, vl v] N g (qI Pq) := by
  have b0 := sW_bd p (fun j hj => (hY.2.2 j (by omega)).2)
  have bF0 := hL.2.2.2.2.1
  refine Ck.intro 3 (by decide) rfl ?_
  show AW _ _ _ _ _ [some (vr 16 0), some (vr 12 i), some (vl v), none, none, none, none] _ _ _
  have loop : ∀ (k w : Nat) (c : Int) (N' : Nm), 10000 - w = k → w ≤ 10000 → c = w → (∀ u : Nat, u < w → ¬ v ≤ (sW wg p + (12 - (p : Int)) * u) * 1000000000 - du F 12 (sW wg p + (12 - (p : Int)) * u)) → Sr N N' → AW K YX8_leastEach hX8_leastEach (qI Pq) 22 [some (vr 16 0), some (vr 12 i), some (vl v), none, some (vi (12 - (p : Int))), some (vi (sW wg p)), some (vi c)] [] N' g := by
    intro k
    induction k using Nat.strongRecOn with
    | _ k ih =>
      intro w c N' e h1 h2 h3 h4
      subst h2
      have hY' := hY.sr h4
      have hL' := hL.sr h4
      have m1 : w < 10000 → 0 ≤ (12 - (p : Int)) * w ∧ (12 - (p : Int)) * w ≤ 119988 := fun q => by
        have a1 := Int.mul_nonneg (show 0 ≤ 12 - (p : Int) by omega) (show 0 ≤ (w : Int) by omega)
        have a2 := mul_mono (show 12 - (p : Int) ≤ 12 by omega) (show 0 ≤ (w : Int) by omega)
        omega
      refine ld_i6 iX8_leastEach_22 ?_
      refine r_sipush (by decide) iX8_leastEach_24 ?_
      refine r_icmpgt iX8_leastEach_27 (by omega) (by omega) (fun h27 => ?_) (fun h27 => ?_)
      · refine r_iconst iX8_leastEach_58 ?_
        refine t_int rfl iX8_leastEach_59 ?_
        exact hq _ N' (Or.inl ⟨rfl, fun u _ hu => h3 u (by omega)⟩) h4
      · have m1 := m1 (by omega)
        have d1 := du_bd bF0 (m := 12) (t := sW wg p + (12 - (p : Int)) * w) (by omega) (by omega)
        refine ld_a1 iX8_leastEach_30 ?_
        refine r_bipush (by decide) iX8_leastEach_31 ?_
        refine ld_i5 iX8_leastEach_33 ?_
        refine ld_i4 iX8_leastEach_35 ?_
        refine ld_i6 iX8_leastEach_37 ?_
        refine r_imul iX8_leastEach_39 ?_
        refine r_iadd iX8_leastEach_40 ?_
        refine xX8_paidOf kMX8_51 iX8_leastEach_41 (by decide) (Nat.le_of_ble_eq_true rfl) rfl rfl ?_
        refine c_yPaidOf hL' (by omega) (by omega) (fun N2 e1 => ?_)
        refine ld_l2 iX8_leastEach_44 ?_
        refine r_lclt iX8_leastEach_45 iX8_leastEach_46 (by omega) (by omega) (fun h45 => ?_) (fun h45 => ?_)
        · refine inc_6 (by decide) rfl iX8_leastEach_52 ?_
          refine r_goto iX8_leastEach_55 ?_
          refine ih (10000 - (w + 1)) (by omega) (w + 1) _ N2 rfl (by omega) (by omega) (fun u hu => ?_) (h4.tr e1)
          by_cases eu : u = w
          · rw [eu]; omega
          · exact h3 u (by omega)
        · refine ld_i6 iX8_leastEach_49 ?_
          refine t_int rfl iX8_leastEach_51 ?_
          exact hq _ N2 (Or.inr ⟨w, rfl, by omega, by omega, by omega, fun u _ hu => h3 u hu⟩) (h4.tr e1)
  refine r_bipush (by decide) iX8_leastEach_0 ?_
  refine ld_a0 iX8_leastEach_2 ?_
  refine gf_X8_passed kFX8_15 iX8_leastEach_3 ?_
  rw [hY.1]
  refine r_isub iX8_leastEach_6 ?_
  refine sv_i4 (by decide) rfl iX8_leastEach_7 ?_
  refine ld_a0 iX8_leastEach_9 ?_
  refine ld_a0 iX8_leastEach_10 ?_
  refine gf_X8_passed kFX8_15 iX8_leastEach_11 ?_
  rw [hY.1]
  refine xX8_wagesOf kMX8_43 iX8_leastEach_14 (by decide) (Nat.le_of_ble_eq_true rfl) rfl rfl ?_
  refine c_yWagesOf hY (by omega) ?_
  refine sv_i5 (by decide) rfl iX8_leastEach_17 ?_
  refine r_iconst iX8_leastEach_19 ?_
  refine sv_i6 (by decide) rfl iX8_leastEach_20 ?_
  exact loop 10000 0 _ N (by omega) (by omega) (by omega) (fun u hu => by omega) (Sr.rf N)
theorem c_yLeastMonths {w v : Int} {Pq : Int → Nm → Ge → Prop} (hL : Ln N g i F P s G) (hY : YI N wg p) (hw : 0 ≤ w ∧ w ≤ 9999) (hv : rL v) (hq : ∀ r N', Fst (fun k => v ≤ (sW wg p + k * w) * 1000000000 - du F (p + k) (sW wg p + k * w)) 0 (13 - p) r → Sr N N' → Pq r N' g) : Ck K YX8_leastMonths hX8_leastMonths [vr 16 0, vr 12 i, vi w, vl v] N g (qI Pq) := by
  have b0 := sW_bd p (fun j hj => (hY.2.2 j (by omega)).2)
  have bF0 := hL.2.2.2.2.1
  have y2 := hY.2.1
  refine Ck.intro 2 (by decide) rfl ?_
  show AW _ _ _ _ _ [some (vr 16 0), some (vr 12 i), some (vi w), some (vl v), none, none, none] _ _ _
  have loop : ∀ (k q : Nat) (c : Int) (N' : Nm), 13 - p - q = k → q ≤ 13 - p → c = q → (∀ u : Nat, u < q → ¬ v ≤ (sW wg p + u * w) * 1000000000 - du F (p + u) (sW wg p + u * w)) → Sr N N' → AW K YX8_leastMonths hX8_leastMonths (qI Pq) 13 [some (vr 16 0), some (vr 12 i), some (vi w), some (vl v), none, some (vi (sW wg p)), some (vi c)] [] N' g := by
    intro k
    induction k using Nat.strongRecOn with
    | _ k ih =>
      intro q c N' e h1 h2 h3 h4
      subst h2
      have hY' := hY.sr h4
      have hL' := hL.sr h4
      have m1 : 0 ≤ (q : Int) * w ∧ (q : Int) * w ≤ 129987 := by
        have a1 := Int.mul_nonneg (show 0 ≤ (q : Int) by omega) hw.1
        have a2 := mul_mono (show (q : Int) ≤ 13 by omega) hw.1
        omega
      refine ld_i6 iX8_leastMonths_13 ?_
      refine r_bipush (by decide) iX8_leastMonths_15 ?_
      refine ld_a0 iX8_leastMonths_17 ?_
      refine gf_X8_passed kFX8_15 iX8_leastMonths_18 ?_
      rw [hY'.1]
      refine r_isub iX8_leastMonths_21 ?_
      refine r_icmpgt iX8_leastMonths_22 (by omega) (by omega) (fun h22 => ?_) (fun h22 => ?_)
      · refine r_iconst iX8_leastMonths_57 ?_
        refine t_int rfl iX8_leastMonths_58 ?_
        exact hq _ N' (Or.inl ⟨rfl, fun u _ hu => h3 u (by omega)⟩) h4
      · have d1 := du_bd bF0 (m := p + q) (t := sW wg p + q * w) (by omega) (by omega)
        refine ld_a1 iX8_leastMonths_25 ?_
        refine ld_a0 iX8_leastMonths_26 ?_
        refine gf_X8_passed kFX8_15 iX8_leastMonths_27 ?_
        rw [hY'.1]
        refine ld_i6 iX8_leastMonths_30 ?_
        refine r_iadd iX8_leastMonths_32 ?_
        refine ld_i5 iX8_leastMonths_33 ?_
        refine ld_i6 iX8_leastMonths_35 ?_
        refine ld_i2 iX8_leastMonths_37 ?_
        refine r_imul iX8_leastMonths_38 ?_
        refine r_iadd iX8_leastMonths_39 ?_
        refine xX8_paidOf kMX8_51 iX8_leastMonths_40 (by decide) (Nat.le_of_ble_eq_true rfl) rfl rfl ?_
        refine c_yPaidOf hL' (by omega) (by omega) (fun N2 e1 => ?_)
        refine ld_l3 iX8_leastMonths_43 ?_
        refine r_lclt iX8_leastMonths_44 iX8_leastMonths_45 (by omega) (by omega) (fun h44 => ?_) (fun h44 => ?_)
        · refine inc_6 (by decide) rfl iX8_leastMonths_51 ?_
          refine r_goto iX8_leastMonths_54 ?_
          refine ih (13 - p - (q + 1)) (by omega) (q + 1) _ N2 rfl (by omega) (by omega) (fun u hu => ?_) (h4.tr e1)
          by_cases eu : u = q
          · rw [eu]; omega
          · exact h3 u (by omega)
        · refine ld_i6 iX8_leastMonths_48 ?_
          refine t_int rfl iX8_leastMonths_50 ?_
          exact hq _ N2 (Or.inr ⟨q, rfl, by omega, by omega, by omega, fun u _ hu => h3 u hu⟩) (h4.tr e1)
  refine ld_a0 iX8_leastMonths_0 ?_
  refine ld_a0 iX8_leastMonths_1 ?_
  refine gf_X8_passed kFX8_15 iX8_leastMonths_2 ?_
  rw [hY.1]
  refine xX8_wagesOf kMX8_43 iX8_leastMonths_5 (by decide) (Nat.le_of_ble_eq_true rfl) rfl rfl ?_
  refine c_yWagesOf hY (by omega) ?_
  refine sv_i5 (by decide) rfl iX8_leastMonths_8 ?_
  refine r_iconst iX8_leastMonths_10 ?_
  refine sv_i6 (by decide) rfl iX8_leastMonths_11 ?_
  exact loop (13 - p) 0 _ N (by omega) (by omega) (by omega) (fun u hu => by omega) (Sr.rf N)
end Year8
section Ask7
variable {K : Kx} {N : Nm} {g : Ge} {d : Dk} {wg : Nat → Int} {p : Nat}
theorem c_refuse {k : Nat} {z : Int} {Pq : Int → Nm → Ge → Prop} (hk : k < 4) (hq : Pq z (upN N 19 0 k (N 19 0 k + 1)) g) : Ck K YX9_refuse hX9_refuse [vr 0 0, vi k, vi z] N g (qI Pq) := by
  refine Ck.intro 0 (by decide) rfl ?_
  show AW _ _ _ _ _ [some (vr 0 0), some (vi k), some (vi z)] _ _ _
  refine ld_a0 iX9_refuse_0 ?_
  refine gf_X9_refusals kFX9_51 iX9_refuse_1 ?_
  refine ld_i1 iX9_refuse_4 ?_
  refine r_dup2 rfl rfl iX9_refuse_5 ?_
  refine al_19 rfl (by omega) iX9_refuse_6 ?_
  refine r_iconst iX9_refuse_7 ?_
  refine r_iadd iX9_refuse_8 ?_
  refine as_19 rfl (by omega) iX9_refuse_9 ?_
  refine ld_i2 iX9_refuse_10 ?_
  refine t_int rfl iX9_refuse_11 ?_
  exact hq
theorem c_isMonth {a : Int} {Pq : Int → Nm → Ge → Prop} (hX : XS N g d) (hY : YI N wg p) (hr : rI a) (hq : Pq (tf (N 0 0 9 = 1 ∧ 0 ≤ a ∧ a < p)) N g) : Ck K YX9_isMonth hX9_isMonth [vr 0 0, vi a] N g (qI Pq) := by
  have h01 := hX.1
  have y1 := hY.1
  have y2 := hY.2.1
  refine Ck.intro 0 (by decide) rfl ?_
  show AW _ _ _ _ _ [some (vr 0 0), some (vi a)] _ _ _
  unfold tf at hq
  have tl : ∀ z : Int, z = (if N 0 0 9 = 1 ∧ 0 ≤ a ∧ a < p then 1 else 0) → AW K YX9_isMonth hX9_isMonth (qI Pq) 27 [some (vr 0 0), some (vi a)] [vi z] N g := by
    intro z hz
    rw [← hz] at hq
    have hz2 : z = 0 ∨ z = 1 := by rw [hz]; split <;> omega
    refine t_bool rfl (by omega) iX9_isMonth_27 ?_
    exact hq
  refine ld_a0 iX9_isMonth_0 ?_
  refine gf_X9_hasDesk kFX9_65 iX9_isMonth_1 ?_
  refine r_ifeq iX9_isMonth_4 (by omega) (fun h4 => ?_) (fun h4 => ?_)
  · refine r_iconst iX9_isMonth_26 ?_
    refine tl _ ?_
    first
      | rw [if_pos (by omega)]
      | rw [if_neg (by omega)]
  · refine ld_i1 iX9_isMonth_7 ?_
    refine r_iflt iX9_isMonth_8 (by omega) (fun h8 => ?_) (fun h8 => ?_)
    · refine r_iconst iX9_isMonth_26 ?_
      refine tl _ ?_
      first
        | rw [if_pos (by omega)]
        | rw [if_neg (by omega)]
    · refine ld_i1 iX9_isMonth_11 ?_
      refine ld_a0 iX9_isMonth_12 ?_
      refine gf_X9_months kFX9_40 iX9_isMonth_13 ?_
      refine gf_X8_passed kFX9_88 iX9_isMonth_16 ?_
      rw [y1]
      refine r_icmpge iX9_isMonth_19 (by omega) (by omega) (fun h19 => ?_) (fun h19 => ?_)
      · refine r_iconst iX9_isMonth_26 ?_
        refine tl _ ?_
        first
          | rw [if_pos (by omega)]
          | rw [if_neg (by omega)]
      · refine r_iconst iX9_isMonth_22 ?_
        refine r_goto iX9_isMonth_23 ?_
        refine tl _ ?_
        first
          | rw [if_pos (by omega)]
          | rw [if_neg (by omega)]
theorem x_year {a w : Int} {Pq : Int → Nm → Ge → Prop} (hX : XS N g d) (hY : YI N wg p) (ra : rI a) (rw' : rI w) (hq1 : N 0 0 9 = 1 ∧ (0 ≤ a ∧ a < p) ∧ (0 ≤ w ∧ w ≤ 2) → ∀ N' g', XT N g d N' g' → Pq (if w = 0 then wg a.toNat else if w = 1 then pIn (PD d) wg a.toNat else du (PD d) (a.toNat + 1) (sW wg (a.toNat + 1))) N' g') (hq0 : ¬ (N 0 0 9 = 1 ∧ (0 ≤ a ∧ a < p) ∧ (0 ≤ w ∧ w ≤ 2)) → Pq HID N g) : Ck K YX9_year hX9_year [vr 0 0, vi a, vi w] N g (qL Pq) := by
  have y2 := hY.2.1
  refine Ck.intro 0 (by decide) rfl ?_
  show AW _ _ _ _ _ [some (vr 0 0), some (vi a), some (vi w)] _ _ _
  refine ld_a0 iX9_year_0 ?_
  refine ld_i1 iX9_year_1 ?_
  refine xX9_isMonth kMX9_263 iX9_year_2 (by decide) (Nat.le_of_ble_eq_true rfl) rfl rfl ?_
  refine c_isMonth hX hY ra ?_
  refine r_ifne iX9_year_5 (by exact tf_r _) (fun h5 => ?_) (fun h5 => ?_)
  · have h5 := tf_y h5
    obtain ⟨n, hn⟩ : ∃ n : Nat, a = n := ⟨a.toNat, by omega⟩
    subst hn
    rw [show ((n : Nat) : Int).toNat = n from rfl] at hq1
    have y3 := hY.2.2 n (by omega)
    have b1 := sW_bd (n + 1) (fun j hj => (hY.2.2 j (by omega)).2)
    refine ld_i2 iX9_year_12 ?_
    refine r_tsw3 (tg0 := 40) (tg1 := 51) (tg2 := 65) (tgd := 87) iX9_year_13 (by omega) rfl rfl rfl rfl (fun h13 => ?_) (fun h13 => ?_) (fun h13 => ?_) (fun h13 => ?_)
    · refine ld_a0 iX9_year_40 ?_
      refine gf_X9_months kFX9_40 iX9_year_41 ?_
      refine gf_X8_wages kFX9_256 iX9_year_44 ?_
      refine ld_i1 iX9_year_47 ?_
      refine al_17 rfl (by omega) iX9_year_48 ?_
      rw [y3.1]
      refine r_i2l (by omega) iX9_year_49 ?_
      refine t_long rfl iX9_year_50 ?_
      have y := hq1 ⟨h5.1, h5.2, by omega⟩ N g (XT.rf hX); rw [if_pos (by omega)] at y; exact y
    · refine ld_a0 iX9_year_51 ?_
      refine gf_X9_months kFX9_40 iX9_year_52 ?_
      refine ld_a0 iX9_year_55 ?_
      refine r_iconst iX9_year_56 ?_
      refine xX9_line kMX9_100 iX9_year_57 (by decide) (Nat.le_of_ble_eq_true rfl) rfl rfl ?_
      refine c_xline hX h5.1 (by omega) (fun N1 g1 P s G f1 f2 f3 f4 => ?_)
      refine ld_i1 iX9_year_60 ?_
      refine xX8_paidIn kMX9_259 iX9_year_61 (by decide) (Nat.le_of_ble_eq_true rfl) rfl rfl ?_
      refine c_yPaidIn f3 (hY.frq f1.1) (by omega) (fun N2 e1 => ?_)
      refine t_long rfl iX9_year_64 ?_
      have y := hq1 ⟨h5.1, h5.2, by omega⟩ N2 g1 (f1.tr (XT.sr f1.2.2 e1)); rw [if_neg (by omega), if_pos (by omega)] at y; exact y
    · refine ld_a0 iX9_year_65 ?_
      refine r_iconst iX9_year_66 ?_
      refine xX9_line kMX9_100 iX9_year_67 (by decide) (Nat.le_of_ble_eq_true rfl) rfl rfl ?_
      refine c_xline hX h5.1 (by omega) (fun N1 g1 P s G f1 f2 f3 f4 => ?_)
      refine ld_i1 iX9_year_70 ?_
      refine r_iconst iX9_year_71 ?_
      refine r_iadd iX9_year_72 ?_
      refine ld_a0 iX9_year_73 ?_
      refine gf_X9_months kFX9_40 iX9_year_74 ?_
      refine ld_i1 iX9_year_77 ?_
      refine r_iconst iX9_year_78 ?_
      refine r_iadd iX9_year_79 ?_
      rw [show (n : Int) + 1 = ((n + 1 : Nat) : Int) by omega]
      refine xX8_wagesOf kMX9_266 iX9_year_80 (by decide) (Nat.le_of_ble_eq_true rfl) rfl rfl ?_
      refine c_yWagesOf (hY.frq f1.1) (by omega) ?_
      refine xX8_due kMX9_268 iX9_year_83 (by decide) (Nat.le_of_ble_eq_true rfl) rfl rfl ?_
      refine c_yDue f3 (by omega) (by omega) (fun N2 e1 => ?_)
      refine t_long rfl iX9_year_86 ?_
      have y := hq1 ⟨h5.1, h5.2, by omega⟩ N2 g1 (f1.tr (XT.sr f1.2.2 e1)); rw [if_neg (by omega), if_neg (by omega), show (n : Int) + 1 = ((n + 1 : Nat) : Int) by omega] at y; exact y
    · refine r_ldc2 (z := -9000000000000000000) kKX9_155 (by decide) iX9_year_87 ?_
      refine t_long rfl iX9_year_90 ?_
      exact hq0 (fun q => by omega)
  · have h5 := tf_n h5
    refine r_ldc2 (z := -9000000000000000000) kKX9_155 (by decide) iX9_year_8 ?_
    refine t_long rfl iX9_year_11 ?_
    exact hq0 (fun q => h5 ⟨q.1, q.2.1⟩)
theorem x_sofar {w : Int} {Pq : Int → Nm → Ge → Prop} (hX : XS N g d) (hY : YI N wg p) (rw' : rI w) (hq1 : N 0 0 9 = 1 ∧ (0 ≤ w ∧ w ≤ 3) → ∀ (r : Int) N' g', (w = 0 → r = sW wg p) ∧ (w = 1 → r = sW wg p * 1000000000 - du (PD d) p (sW wg p)) ∧ (w = 2 → r = ct (fun k => decide (wg k * 1000000000 < pIn (PD d) wg k)) p) ∧ (w = 3 → Amx (fun k => - pIn (PD d) wg k) (fun _ => True) p r) → XT N g d N' g' → Pq r N' g') (hq0 : ¬ (N 0 0 9 = 1 ∧ (0 ≤ w ∧ w ≤ 3)) → Pq HID N g) : Ck K YX9_sofar hX9_sofar [vr 0 0, vi w] N g (qL Pq) := by
  have h01 := hX.1
  have y2 := hY.2.1
  have y1 := hY.1
  have b1 := sW_bd p (fun j hj => (hY.2.2 j (by omega)).2)
  refine Ck.intro 0 (by decide) rfl ?_
  show AW _ _ _ _ _ [some (vr 0 0), some (vi w)] _ _ _
  refine ld_a0 iX9_sofar_0 ?_
  refine gf_X9_hasDesk kFX9_65 iX9_sofar_1 ?_
  refine r_ifne iX9_sofar_4 (by omega) (fun h4 => ?_) (fun h4 => ?_)
  · refine ld_i1 iX9_sofar_11 ?_
    refine r_tsw4 (tg0 := 44) (tg1 := 60) (tg2 := 90) (tg3 := 104) (tgd := 118) iX9_sofar_12 (by omega) rfl rfl rfl rfl rfl (fun h12 => ?_) (fun h12 => ?_) (fun h12 => ?_) (fun h12 => ?_) (fun h12 => ?_)
    · refine ld_a0 iX9_sofar_44 ?_
      refine gf_X9_months kFX9_40 iX9_sofar_45 ?_
      refine ld_a0 iX9_sofar_48 ?_
      refine gf_X9_months kFX9_40 iX9_sofar_49 ?_
      refine gf_X8_passed kFX9_88 iX9_sofar_52 ?_
      rw [y1]
      refine xX8_wagesOf kMX9_266 iX9_sofar_55 (by decide) (Nat.le_of_ble_eq_true rfl) rfl rfl ?_
      refine c_yWagesOf hY (by omega) ?_
      refine r_i2l (by omega) iX9_sofar_58 ?_
      refine t_long rfl iX9_sofar_59 ?_
      exact hq1 ⟨by omega, by omega⟩ _ _ _ ⟨fun _ => rfl, fun q => by omega, fun q => by omega, fun q => by omega⟩ (XT.rf hX)
    · refine ld_a0 iX9_sofar_60 ?_
      refine r_iconst iX9_sofar_61 ?_
      refine xX9_line kMX9_100 iX9_sofar_62 (by decide) (Nat.le_of_ble_eq_true rfl) rfl rfl ?_
      refine c_xline hX (by omega) (by omega) (fun N1 g1 P s G f1 f2 f3 f4 => ?_)
      refine ld_a0 iX9_sofar_65 ?_
      refine gf_X9_months kFX9_40 iX9_sofar_66 ?_
      refine gf_X8_passed kFX9_88 iX9_sofar_69 ?_
      rw [(hY.frq f1.1).1]
      refine ld_a0 iX9_sofar_72 ?_
      refine gf_X9_months kFX9_40 iX9_sofar_73 ?_
      refine ld_a0 iX9_sofar_76 ?_
      refine gf_X9_months kFX9_40 iX9_sofar_77 ?_
      refine gf_X8_passed kFX9_88 iX9_sofar_80 ?_
      rw [(hY.frq f1.1).1]
      refine xX8_wagesOf kMX9_266 iX9_sofar_83 (by decide) (Nat.le_of_ble_eq_true rfl) rfl rfl ?_
      refine c_yWagesOf (hY.frq f1.1) (by omega) ?_
      refine xX8_paidOf kMX9_272 iX9_sofar_86 (by decide) (Nat.le_of_ble_eq_true rfl) rfl rfl ?_
      refine c_yPaidOf f3 (by omega) (by omega) (fun N2 e1 => ?_)
      refine t_long rfl iX9_sofar_89 ?_
      exact hq1 ⟨by omega, by omega⟩ _ _ _ ⟨fun q => by omega, fun _ => rfl, fun q => by omega, fun q => by omega⟩ (f1.tr (XT.sr f1.2.2 e1))
    · refine ld_a0 iX9_sofar_90 ?_
      refine gf_X9_months kFX9_40 iX9_sofar_91 ?_
      refine ld_a0 iX9_sofar_94 ?_
      refine r_iconst iX9_sofar_95 ?_
      refine xX9_line kMX9_100 iX9_sofar_96 (by decide) (Nat.le_of_ble_eq_true rfl) rfl rfl ?_
      refine c_xline hX (by omega) (by omega) (fun N1 g1 P s G f1 f2 f3 f4 => ?_)
      refine xX8_paidAboveWage kMX9_275 iX9_sofar_99 (by decide) (Nat.le_of_ble_eq_true rfl) rfl rfl ?_
      refine c_yAbove f3 (hY.frq f1.1) (fun N2 e1 => ?_)
      have hcl := ct_le (fun k => decide (wg k * 1000000000 < pIn (LF d (dB d) (rwo (-1))) wg k)) p
      refine r_i2l (by omega) iX9_sofar_102 ?_
      refine t_long rfl iX9_sofar_103 ?_
      exact hq1 ⟨by omega, by omega⟩ _ _ _ ⟨fun q => by omega, fun q => by omega, fun _ => rfl, fun q => by omega⟩ (f1.tr (XT.sr f1.2.2 e1))
    · refine ld_a0 iX9_sofar_104 ?_
      refine gf_X9_months kFX9_40 iX9_sofar_105 ?_
      refine ld_a0 iX9_sofar_108 ?_
      refine r_iconst iX9_sofar_109 ?_
      refine xX9_line kMX9_100 iX9_sofar_110 (by decide) (Nat.le_of_ble_eq_true rfl) rfl rfl ?_
      refine c_xline hX (by omega) (by omega) (fun N1 g1 P s G f1 f2 f3 f4 => ?_)
      refine xX8_leastPaid kMX9_279 iX9_sofar_113 (by decide) (Nat.le_of_ble_eq_true rfl) rfl rfl ?_
      refine c_yLeastPaid f3 (hY.frq f1.1) (fun r N2 e2 e1 => ?_)
      have hrr : rI r := by rcases e2 with ⟨q, -⟩ | ⟨w, q, q2, -⟩ <;> omega
      refine r_i2l (by omega) iX9_sofar_116 ?_
      refine t_long rfl iX9_sofar_117 ?_
      exact hq1 ⟨by omega, by omega⟩ _ _ _ ⟨fun q => by omega, fun q => by omega, fun q => by omega, fun _ => e2⟩ (f1.tr (XT.sr f1.2.2 e1))
    · refine r_ldc2 (z := -9000000000000000000) kKX9_155 (by decide) iX9_sofar_118 ?_
      refine t_long rfl iX9_sofar_121 ?_
      exact hq0 (by omega)
  · refine r_ldc2 (z := -9000000000000000000) kKX9_155 (by decide) iX9_sofar_7 ?_
    refine t_long rfl iX9_sofar_10 ?_
    exact hq0 (by omega)
theorem x_nextMonth {v : Int} {Pq : Int → Nm → Ge → Prop} (hX : XS N g d) (hY : YI N wg p) (rv : rL v) (hq1 : N 0 0 9 = 1 ∧ p < 12 → ∀ r N' g', Fst (fun w => v ≤ (w : Int) * 1000000000 - (du (PD d) (p + 1) (sW wg p + w) - du (PD d) p (sW wg p))) 0 10000 r → XT N g d N' g' → Pq r N' g') (hq0 : ¬ (N 0 0 9 = 1 ∧ p < 12) → Pq (-1) N g) : Ck K YX9_nextMonth hX9_nextMonth [vr 0 0, vl v] N g (qI Pq) := by
  have h01 := hX.1
  have y2 := hY.2.1
  refine Ck.intro 0 (by decide) rfl ?_
  show AW _ _ _ _ _ [some (vr 0 0), some (vl v), none] _ _ _
  refine ld_a0 iX9_nextMonth_0 ?_
  refine gf_X9_hasDesk kFX9_65 iX9_nextMonth_1 ?_
  refine r_ifeq iX9_nextMonth_4 (by omega) (fun h4 => ?_) (fun h4 => ?_)
  · refine r_iconst iX9_nextMonth_33 ?_
    refine t_int rfl iX9_nextMonth_34 ?_
    first
      | exact hq0 (by omega)
      | exact hq1 ⟨by omega, by omega⟩ r N2 g1 e1 (f1.tr (XT.sr f1.2.2 e2))
  · refine ld_a0 iX9_nextMonth_7 ?_
    refine gf_X9_months kFX9_40 iX9_nextMonth_8 ?_
    refine xX8_isFull kMX9_252 iX9_nextMonth_11 (by decide) (Nat.le_of_ble_eq_true rfl) rfl rfl ?_
    refine c_isFull hY ?_
    refine r_ifne iX9_nextMonth_14 (by exact tf_r _) (fun h14 => ?_) (fun h14 => ?_)
    · have h14 := tf_y h14
      refine r_iconst iX9_nextMonth_33 ?_
      refine t_int rfl iX9_nextMonth_34 ?_
      first
        | exact hq0 (by omega)
        | exact hq1 ⟨by omega, by omega⟩ r N2 g1 e1 (f1.tr (XT.sr f1.2.2 e2))
    · have h14 := tf_n h14
      refine ld_a0 iX9_nextMonth_17 ?_
      refine gf_X9_months kFX9_40 iX9_nextMonth_18 ?_
      refine ld_a0 iX9_nextMonth_21 ?_
      refine r_iconst iX9_nextMonth_22 ?_
      refine xX9_line kMX9_100 iX9_nextMonth_23 (by decide) (Nat.le_of_ble_eq_true rfl) rfl rfl ?_
      refine c_xline hX (by omega) (by omega) (fun N1 g1 P s G f1 f2 f3 f4 => ?_)
      refine ld_l1 iX9_nextMonth_26 ?_
      refine xX8_leastNext kMX9_282 iX9_nextMonth_27 (by decide) (Nat.le_of_ble_eq_true rfl) rfl rfl ?_
      refine c_yLeastNext f3 (hY.frq f1.1) (by omega) rv (fun r N2 e1 e2 => ?_)
      refine r_goto iX9_nextMonth_30 ?_
      refine t_int rfl iX9_nextMonth_34 ?_
      first
        | exact hq0 (by omega)
        | exact hq1 ⟨by omega, by omega⟩ r N2 g1 e1 (f1.tr (XT.sr f1.2.2 e2))
theorem x_level {v : Int} {Pq : Int → Nm → Ge → Prop} (hX : XS N g d) (hY : YI N wg p) (rv : rL v) (hq1 : N 0 0 9 = 1 ∧ p < 12 → ∀ r N' g', Fst (fun w => v ≤ (sW wg p + (12 - (p : Int)) * w) * 1000000000 - du (PD d) 12 (sW wg p + (12 - (p : Int)) * w)) 0 10000 r → XT N g d N' g' → Pq r N' g') (hq0 : ¬ (N 0 0 9 = 1 ∧ p < 12) → Pq (-1) N g) : Ck K YX9_level hX9_level [vr 0 0, vl v] N g (qI Pq) := by
  have h01 := hX.1
  have y2 := hY.2.1
  refine Ck.intro 0 (by decide) rfl ?_
  show AW _ _ _ _ _ [some (vr 0 0), some (vl v), none] _ _ _
  refine ld_a0 iX9_level_0 ?_
  refine gf_X9_hasDesk kFX9_65 iX9_level_1 ?_
  refine r_ifeq iX9_level_4 (by omega) (fun h4 => ?_) (fun h4 => ?_)
  · refine r_iconst iX9_level_33 ?_
    refine t_int rfl iX9_level_34 ?_
    first
      | exact hq0 (by omega)
      | exact hq1 ⟨by omega, by omega⟩ r N2 g1 e1 (f1.tr (XT.sr f1.2.2 e2))
  · refine ld_a0 iX9_level_7 ?_
    refine gf_X9_months kFX9_40 iX9_level_8 ?_
    refine xX8_isFull kMX9_252 iX9_level_11 (by decide) (Nat.le_of_ble_eq_true rfl) rfl rfl ?_
    refine c_isFull hY ?_
    refine r_ifne iX9_level_14 (by exact tf_r _) (fun h14 => ?_) (fun h14 => ?_)
    · have h14 := tf_y h14
      refine r_iconst iX9_level_33 ?_
      refine t_int rfl iX9_level_34 ?_
      first
        | exact hq0 (by omega)
        | exact hq1 ⟨by omega, by omega⟩ r N2 g1 e1 (f1.tr (XT.sr f1.2.2 e2))
    · have h14 := tf_n h14
      refine ld_a0 iX9_level_17 ?_
      refine gf_X9_months kFX9_40 iX9_level_18 ?_
      refine ld_a0 iX9_level_21 ?_
      refine r_iconst iX9_level_22 ?_
      refine xX9_line kMX9_100 iX9_level_23 (by decide) (Nat.le_of_ble_eq_true rfl) rfl rfl ?_
      refine c_xline hX (by omega) (by omega) (fun N1 g1 P s G f1 f2 f3 f4 => ?_)
      refine ld_l1 iX9_level_26 ?_
      refine xX8_leastEach kMX9_286 iX9_level_27 (by decide) (Nat.le_of_ble_eq_true rfl) rfl rfl ?_
      refine c_yLeastEach f3 (hY.frq f1.1) (by omega) rv (fun r N2 e1 e2 => ?_)
      refine r_goto iX9_level_30 ?_
      refine t_int rfl iX9_level_34 ?_
      first
        | exact hq0 (by omega)
        | exact hq1 ⟨by omega, by omega⟩ r N2 g1 e1 (f1.tr (XT.sr f1.2.2 e2))
theorem x_until {w v : Int} {Pq : Int → Nm → Ge → Prop} (hX : XS N g d) (hY : YI N wg p) (rw' : rI w) (rv : rL v) (hq1 : N 0 0 9 = 1 ∧ (0 ≤ w ∧ w ≤ 9999) → ∀ r N' g', Fst (fun k => v ≤ (sW wg p + k * w) * 1000000000 - du (PD d) (p + k) (sW wg p + k * w)) 0 (13 - p) r → XT N g d N' g' → Pq r N' g') (hq0 : ¬ (N 0 0 9 = 1 ∧ (0 ≤ w ∧ w ≤ 9999)) → Pq (-1) N g) : Ck K YX9_until hX9_until [vr 0 0, vi w, vl v] N g (qI Pq) := by
  have h01 := hX.1
  have y2 := hY.2.1
  refine Ck.intro 0 (by decide) rfl ?_
  show AW _ _ _ _ _ [some (vr 0 0), some (vi w), some (vl v), none] _ _ _
  refine ld_a0 iX9_until_0 ?_
  refine gf_X9_hasDesk kFX9_65 iX9_until_1 ?_
  refine r_ifeq iX9_until_4 (by omega) (fun h4 => ?_) (fun h4 => ?_)
  · refine r_iconst iX9_until_31 ?_
    refine t_int rfl iX9_until_32 ?_
    first
      | exact hq0 (by omega)
      | exact hq1 ⟨by omega, h11⟩ r N2 g1 e1 (f1.tr (XT.sr f1.2.2 e2))
  · refine ld_i1 iX9_until_7 ?_
    refine xX9_isWage kMX9_152 iX9_until_8 (by decide) (Nat.le_of_ble_eq_true rfl) rfl rfl ?_
    refine c_xisWage rw' ?_
    refine r_ifeq iX9_until_11 (by exact tf_r _) (fun h11 => ?_) (fun h11 => ?_)
    · have h11 := tf_n h11
      refine r_iconst iX9_until_31 ?_
      refine t_int rfl iX9_until_32 ?_
      first
        | exact hq0 (by omega)
        | exact hq1 ⟨by omega, h11⟩ r N2 g1 e1 (f1.tr (XT.sr f1.2.2 e2))
    · have h11 := tf_y h11
      refine ld_a0 iX9_until_14 ?_
      refine gf_X9_months kFX9_40 iX9_until_15 ?_
      refine ld_a0 iX9_until_18 ?_
      refine r_iconst iX9_until_19 ?_
      refine xX9_line kMX9_100 iX9_until_20 (by decide) (Nat.le_of_ble_eq_true rfl) rfl rfl ?_
      refine c_xline hX (by omega) (by omega) (fun N1 g1 P s G f1 f2 f3 f4 => ?_)
      refine ld_i1 iX9_until_23 ?_
      refine ld_l2 iX9_until_24 ?_
      refine xX8_leastMonths kMX9_318 iX9_until_25 (by decide) (Nat.le_of_ble_eq_true rfl) rfl rfl ?_
      refine c_yLeastMonths f3 (hY.frq f1.1) h11 rv (fun r N2 e1 e2 => ?_)
      refine r_goto iX9_until_28 ?_
      refine t_int rfl iX9_until_32 ?_
      first
        | exact hq0 (by omega)
        | exact hq1 ⟨by omega, h11⟩ r N2 g1 e1 (f1.tr (XT.sr f1.2.2 e2))
theorem x_dueAhead {Pq : Int → Nm → Ge → Prop} (hX : XS N g d) (hY : YI N wg p) (hq1 : N 0 0 9 = 1 → ∀ N' g', XT N g d N' g' → Pq (du (PD d) p (sW wg p) - du (PD d) 12 (sW wg p)) N' g') (hq0 : ¬ N 0 0 9 = 1 → Pq HID N g) : Ck K YX9_dueAhead hX9_dueAhead [vr 0 0] N g (qL Pq) := by
  have h01 := hX.1
  have y2 := hY.2.1
  have b1 := sW_bd p (fun j hj => (hY.2.2 j (by omega)).2)
  refine Ck.intro 2 (by decide) rfl ?_
  show AW _ _ _ _ _ [some (vr 0 0), none, none] _ _ _
  refine ld_a0 iX9_dueAhead_0 ?_
  refine gf_X9_hasDesk kFX9_65 iX9_dueAhead_1 ?_
  refine r_ifne iX9_dueAhead_4 (by omega) (fun h4 => ?_) (fun h4 => ?_)
  · refine ld_a0 iX9_dueAhead_11 ?_
    refine r_iconst iX9_dueAhead_12 ?_
    refine xX9_line kMX9_100 iX9_dueAhead_13 (by decide) (Nat.le_of_ble_eq_true rfl) rfl rfl ?_
    refine c_xline hX (by omega) (by omega) (fun N1 g1 P s G f1 f2 f3 f4 => ?_)
    have hY1 := hY.frq f1.1
    refine sv_a1 (by decide) rfl iX9_dueAhead_16 ?_
    refine ld_a0 iX9_dueAhead_17 ?_
    refine gf_X9_months kFX9_40 iX9_dueAhead_18 ?_
    refine ld_a0 iX9_dueAhead_21 ?_
    refine gf_X9_months kFX9_40 iX9_dueAhead_22 ?_
    refine gf_X8_passed kFX9_88 iX9_dueAhead_25 ?_
    rw [hY1.1]
    refine xX8_wagesOf kMX9_266 iX9_dueAhead_28 (by decide) (Nat.le_of_ble_eq_true rfl) rfl rfl ?_
    refine c_yWagesOf hY1 (by omega) ?_
    refine sv_i2 (by decide) rfl iX9_dueAhead_31 ?_
    refine ld_a1 iX9_dueAhead_32 ?_
    refine ld_a0 iX9_dueAhead_33 ?_
    refine gf_X9_months kFX9_40 iX9_dueAhead_34 ?_
    refine gf_X8_passed kFX9_88 iX9_dueAhead_37 ?_
    rw [hY1.1]
    refine ld_i2 iX9_dueAhead_40 ?_
    refine xX8_due kMX9_268 iX9_dueAhead_41 (by decide) (Nat.le_of_ble_eq_true rfl) rfl rfl ?_
    refine c_yDue f3 (by omega) (by omega) (fun N2 e1 => ?_)
    refine ld_a1 iX9_dueAhead_44 ?_
    refine r_bipush (by decide) iX9_dueAhead_45 ?_
    refine ld_i2 iX9_dueAhead_47 ?_
    refine xX8_due kMX9_268 iX9_dueAhead_48 (by decide) (Nat.le_of_ble_eq_true rfl) rfl rfl ?_
    refine c_yDue (f3.sr e1) (by omega) (by omega) (fun N3 e2 => ?_)
    refine r_lsub iX9_dueAhead_51 ?_
    refine t_long rfl iX9_dueAhead_52 ?_
    exact hq1 (by omega) N3 g1 (f1.tr (XT.sr f1.2.2 (e1.tr e2)))
  · refine r_ldc2 (z := -9000000000000000000) kKX9_155 (by decide) iX9_dueAhead_7 ?_
    refine t_long rfl iX9_dueAhead_10 ?_
    exact hq0 (by omega)
theorem x_both {w o : Int} {Pq : Int → Nm → Ge → Prop} (hX : XS N g d) (rw' : rI w) (ro : rI o) (hq1 : N 0 0 9 = 1 ∧ (0 ≤ w ∧ w ≤ 9999) ∧ (0 ≤ o ∧ o ≤ 9999) → ∀ N' g', XT N g d N' g' → Pq ((w + o) * 1000000000 - du (PD d) 2 (w + o)) N' g') (hq0 : ¬ (N 0 0 9 = 1 ∧ (0 ≤ w ∧ w ≤ 9999) ∧ (0 ≤ o ∧ o ≤ 9999)) → Pq HID N g) : Ck K YX9_both hX9_both [vr 0 0, vi w, vi o] N g (qL Pq) := by
  have h01 := hX.1
  refine Ck.intro 0 (by decide) rfl ?_
  show AW _ _ _ _ _ [some (vr 0 0), some (vi w), some (vi o)] _ _ _
  refine ld_a0 iX9_both_0 ?_
  refine gf_X9_hasDesk kFX9_65 iX9_both_1 ?_
  refine r_ifeq iX9_both_4 (by omega) (fun h4 => ?_) (fun h4 => ?_)
  · refine r_ldc2 (z := -9000000000000000000) kKX9_155 (by decide) iX9_both_21 ?_
    refine t_long rfl iX9_both_24 ?_
    exact hq0 (by omega)
  · refine ld_i1 iX9_both_7 ?_
    refine xX9_isWage kMX9_152 iX9_both_8 (by decide) (Nat.le_of_ble_eq_true rfl) rfl rfl ?_
    refine c_xisWage rw' ?_
    refine r_ifeq iX9_both_11 (by exact tf_r _) (fun h11 => ?_) (fun h11 => ?_)
    · have h11 := tf_n h11
      refine r_ldc2 (z := -9000000000000000000) kKX9_155 (by decide) iX9_both_21 ?_
      refine t_long rfl iX9_both_24 ?_
      exact hq0 (by omega)
    · have h11 := tf_y h11
      refine ld_i2 iX9_both_14 ?_
      refine xX9_isWage kMX9_152 iX9_both_15 (by decide) (Nat.le_of_ble_eq_true rfl) rfl rfl ?_
      refine c_xisWage ro ?_
      refine r_ifne iX9_both_18 (by exact tf_r _) (fun h18 => ?_) (fun h18 => ?_)
      · have h18 := tf_y h18
        refine ld_a0 iX9_both_25 ?_
        refine r_iconst iX9_both_26 ?_
        refine xX9_line kMX9_100 iX9_both_27 (by decide) (Nat.le_of_ble_eq_true rfl) rfl rfl ?_
        refine c_xline hX (by omega) (by omega) (fun N1 g1 P s G f1 f2 f3 f4 => ?_)
        refine r_iconst iX9_both_30 ?_
        refine ld_i1 iX9_both_31 ?_
        refine ld_i2 iX9_both_32 ?_
        refine r_iadd iX9_both_33 ?_
        refine xX8_paidOf kMX9_272 iX9_both_34 (by decide) (Nat.le_of_ble_eq_true rfl) rfl rfl ?_
        refine c_yPaidOf f3 (by omega) (by omega) (fun N2 e1 => ?_)
        refine t_long rfl iX9_both_37 ?_
        exact hq1 ⟨by omega, h11, h18⟩ N2 g1 (f1.tr (XT.sr f1.2.2 e1))
      · have h18 := tf_n h18
        refine r_ldc2 (z := -9000000000000000000) kKX9_155 (by decide) iX9_both_21 ?_
        refine t_long rfl iX9_both_24 ?_
        exact hq0 (by omega)
theorem x_putIn {a w b : Int} {Pq : Int → Nm → Ge → Prop} (hX : XS N g d) (hY : YI N wg p) (ra : rI a) (rw' : rI w) (rb : rI b) (hq1 : N 0 0 9 = 1 ∧ (0 ≤ a ∧ a ≤ b ∧ b < p) ∧ p < 12 ∧ (0 ≤ w ∧ w ≤ 9999) → ∀ N' g', XT N g d N' g' → Pq (wg b.toNat * 1000000000 - (du (PD d) (b.toNat + 2) (sW wg b.toNat + w + wg b.toNat) - du (PD d) (b.toNat + 1) (sW wg b.toNat + w))) N' g') (hq0 : ¬ (N 0 0 9 = 1 ∧ (0 ≤ a ∧ a ≤ b ∧ b < p) ∧ p < 12 ∧ (0 ≤ w ∧ w ≤ 9999)) → Pq HID N g) : Ck K YX9_putIn hX9_putIn [vr 0 0, vi a, vi w, vi b] N g (qL Pq) := by
  have y2 := hY.2.1
  refine Ck.intro 0 (by decide) rfl ?_
  show AW _ _ _ _ _ [some (vr 0 0), some (vi a), some (vi w), some (vi b)] _ _ _
  refine ld_a0 iX9_putIn_0 ?_
  refine ld_i1 iX9_putIn_1 ?_
  refine xX9_isMonth kMX9_263 iX9_putIn_2 (by decide) (Nat.le_of_ble_eq_true rfl) rfl rfl ?_
  refine c_isMonth hX hY ra ?_
  refine r_ifeq iX9_putIn_5 (by exact tf_r _) (fun h5 => ?_) (fun h5 => ?_)
  · have h5 := tf_n h5
    refine r_ldc2 (z := -9000000000000000000) kKX9_155 (by decide) iX9_putIn_38 ?_
    refine t_long rfl iX9_putIn_41 ?_
    exact hq0 (by omega)
  · have h5 := tf_y h5
    refine ld_a0 iX9_putIn_8 ?_
    refine ld_i3 iX9_putIn_9 ?_
    refine xX9_isMonth kMX9_263 iX9_putIn_10 (by decide) (Nat.le_of_ble_eq_true rfl) rfl rfl ?_
    refine c_isMonth hX hY rb ?_
    refine r_ifeq iX9_putIn_13 (by exact tf_r _) (fun h13 => ?_) (fun h13 => ?_)
    · have h13 := tf_n h13
      refine r_ldc2 (z := -9000000000000000000) kKX9_155 (by decide) iX9_putIn_38 ?_
      refine t_long rfl iX9_putIn_41 ?_
      exact hq0 (by omega)
    · have h13 := tf_y h13
      refine ld_a0 iX9_putIn_16 ?_
      refine gf_X9_months kFX9_40 iX9_putIn_17 ?_
      refine xX8_isFull kMX9_252 iX9_putIn_20 (by decide) (Nat.le_of_ble_eq_true rfl) rfl rfl ?_
      refine c_isFull hY ?_
      refine r_ifne iX9_putIn_23 (by exact tf_r _) (fun h23 => ?_) (fun h23 => ?_)
      · have h23 := tf_y h23
        refine r_ldc2 (z := -9000000000000000000) kKX9_155 (by decide) iX9_putIn_38 ?_
        refine t_long rfl iX9_putIn_41 ?_
        exact hq0 (by omega)
      · have h23 := tf_n h23
        refine ld_i2 iX9_putIn_26 ?_
        refine xX9_isWage kMX9_152 iX9_putIn_27 (by decide) (Nat.le_of_ble_eq_true rfl) rfl rfl ?_
        refine c_xisWage rw' ?_
        refine r_ifeq iX9_putIn_30 (by exact tf_r _) (fun h30 => ?_) (fun h30 => ?_)
        · have h30 := tf_n h30
          refine r_ldc2 (z := -9000000000000000000) kKX9_155 (by decide) iX9_putIn_38 ?_
          refine t_long rfl iX9_putIn_41 ?_
          exact hq0 (by omega)
        · have h30 := tf_y h30
          refine ld_i1 iX9_putIn_33 ?_
          refine ld_i3 iX9_putIn_34 ?_
          refine r_icmple iX9_putIn_35 (by omega) (by omega) (fun h35 => ?_) (fun h35 => ?_)
          · refine ld_a0 iX9_putIn_42 ?_
            refine gf_X9_months kFX9_40 iX9_putIn_43 ?_
            refine ld_a0 iX9_putIn_46 ?_
            refine r_iconst iX9_putIn_47 ?_
            refine xX9_line kMX9_100 iX9_putIn_48 (by decide) (Nat.le_of_ble_eq_true rfl) rfl rfl ?_
            refine c_xline hX (by omega) (by omega) (fun N1 g1 P s G f1 f2 f3 f4 => ?_)
            obtain ⟨n, hn⟩ : ∃ n : Nat, b = n := ⟨b.toNat, by omega⟩
            subst hn
            refine ld_i3 iX9_putIn_51 ?_
            refine ld_i2 iX9_putIn_52 ?_
            refine xX8_paidBehind kMX9_325 iX9_putIn_53 (by decide) (Nat.le_of_ble_eq_true rfl) rfl rfl ?_
            refine c_yPaidBehind f3 (hY.frq f1.1) (by omega) (by omega) h30 (fun N2 e1 => ?_)
            refine t_long rfl iX9_putIn_56 ?_
            exact hq1 ⟨by omega, by omega, by omega, h30⟩ N2 g1 (f1.tr (XT.sr f1.2.2 e1))
          · refine r_ldc2 (z := -9000000000000000000) kKX9_155 (by decide) iX9_putIn_38 ?_
            refine t_long rfl iX9_putIn_41 ?_
            exact hq0 (by omega)
end Ask7
