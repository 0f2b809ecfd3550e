/-! own text: what the class answers, on -/
def moA (F : Nat → Int) (what r : Int) : Prop :=
  (what = 0 → ∃ b : Nat, Amx F (fun _ => True) 10000 b ∧ r = F b) ∧ (what = 1 → Amx F (fun _ => True) 10000 r) ∧ (what = 2 → ∃ b : Nat, Amx (fun w => - F w) (fun _ => True) 10000 b ∧ r = F b) ∧ (what = 3 → Amx (fun w => - F w) (fun _ => True) 10000 r) ∧ (what = 4 → Amx (fun w => F w - F (w + 1)) (fun _ => True) 9999 r) ∧
  (what = 5 → ∃ P s, Ps F P s ∧ r = ct (flS F s) P) ∧ (what = 6 → r = lr (trB F) 10000) ∧ (what = 7 → r = ct (trB F) 10000) ∧ (what = 8 → ∃ P s, Ps F P s ∧ Amx (fun p => (s (p + 1) : Int) - s p) (fun _ => True) P r) ∧ (what = 9 → ∃ b : Nat, Amx (fun w => F w - F (w + 1)) (fun _ => True) 9999 b ∧ r = F (b + 1) - F b)
/-- accounts' segments, or pieces, added up -/
def cnS (d : Dk) : Nat → Int
  | 0 => 0
  | n + 1 => cnS d n + dS d n
section Ask8
variable {K : Kx} {N : Nm} {g : Ge} {d : Dk}
theorem x_over {a o w : Int} {Pq : Int → Nm → Ge → Prop} (hX : XS N g d) (ra : rI a) (ro : rI o) (rw' : rI w) (hq1 : N 0 0 9 = 1 ∧ (-1 ≤ a ∧ a < dA d) ∧ (-1 ≤ o ∧ o < dA d) ∧ (0 ≤ w ∧ w ≤ 9999) → ∀ r N' g', Fst (fun u => LF d (dB d) (rwo o) u ≤ LF d (dB d) (rwo a) u) w.toNat 10000 r → XT N g d N' g' → Pq r N' g') (hq0 : ¬ (N 0 0 9 = 1 ∧ (-1 ≤ a ∧ a < dA d) ∧ (-1 ≤ o ∧ o < dA d) ∧ (0 ≤ w ∧ w ≤ 9999)) → Pq (-1) N g) : Ck K YX9_over hX9_over [vr 0 0, vi a, vi o, vi w] N g (qI Pq) := by
  refine Ck.intro 0 (by decide) rfl ?_
  show AW _ _ _ _ _ [some (vr 0 0), some (vi a), some (vi o), some (vi w)] _ _ _
  refine ld_a0 iX9_over_0 ?_
  refine ld_i1 iX9_over_1 ?_
  refine xX9_isLine kMX9_149 iX9_over_2 (by decide) (Nat.le_of_ble_eq_true rfl) rfl rfl ?_
  refine c_xisLine hX ra ?_
  refine r_ifeq iX9_over_5 (by exact tf_r _) (fun h5 => ?_) (fun h5 => ?_)
  · have h5 := tf_n h5
    refine r_iconst iX9_over_23 ?_
    refine t_int rfl iX9_over_24 ?_
    exact hq0 (by omega)
  · have h5 := tf_y h5
    refine ld_a0 iX9_over_8 ?_
    refine ld_i2 iX9_over_9 ?_
    refine xX9_isLine kMX9_149 iX9_over_10 (by decide) (Nat.le_of_ble_eq_true rfl) rfl rfl ?_
    refine c_xisLine hX ro ?_
    refine r_ifeq iX9_over_13 (by exact tf_r _) (fun h13 => ?_) (fun h13 => ?_)
    · have h13 := tf_n h13
      refine r_iconst iX9_over_23 ?_
      refine t_int rfl iX9_over_24 ?_
      exact hq0 (by omega)
    · have h13 := tf_y h13
      refine ld_i3 iX9_over_16 ?_
      refine xX9_isWage kMX9_152 iX9_over_17 (by decide) (Nat.le_of_ble_eq_true rfl) rfl rfl ?_
      refine c_xisWage rw' ?_
      refine r_ifne iX9_over_20 (by exact tf_r _) (fun h20 => ?_) (fun h20 => ?_)
      · have h20 := tf_y h20
        refine ld_a0 iX9_over_25 ?_
        refine gf_X9_between kFX9_33 iX9_over_26 ?_
        refine ld_a0 iX9_over_29 ?_
        refine ld_i1 iX9_over_30 ?_
        refine xX9_line kMX9_100 iX9_over_31 (by decide) (Nat.le_of_ble_eq_true rfl) rfl rfl ?_
        refine c_xline hX h5.1 h5.2 (fun N1 g1 P s G f1 f2 f3 f4 => ?_)
        have f9 : N1 0 0 9 = 1 := by rw [f1.1 0 0 9 (by omega) (by omega)]; exact h5.1
        refine ld_a0 iX9_over_34 ?_
        refine ld_i2 iX9_over_35 ?_
        refine xX9_line kMX9_100 iX9_over_36 (by decide) (Nat.le_of_ble_eq_true rfl) rfl rfl ?_
        refine c_xline f1.2.2 f9 h13.2 (fun N2 g2 P2 s2 G2 e1 e2 e3 e4 => ?_)
        obtain ⟨P1, s1, G1, e5, e6⟩ := e2.1 _ (rwo_ok h5.2)
        have hW := (hX.2.2 h5.1).1
        have hA := hW.1
        have n1 := rwo_ok h5.2
        have n2 := rwo_ok h13.2
        obtain ⟨n, hn⟩ : ∃ n : Nat, w = n := ⟨w.toNat, by omega⟩
        subst hn
        refine xX1_becomeDifference kMX9_300 iX9_over_39 (by decide) (Nat.le_of_ble_eq_true rfl) rfl rfl ?_
        refine c_becomeDifference (i := 7) e5 e3 (by omega) (by omega) (e1.2.1.2.2 7 (by omega)) (fun u hu => ?_) (fun N3 g3 P3 s3 G3 k1 k2 k3 k4 => ?_)
        · have b1 := LF_bd hW hW.2.1 n1 u hu; have b2 := LF_bd hW hW.2.1 n2 u hu; omega
        refine ld_a0 iX9_over_42 ?_
        refine gf_X9_between kFX9_33 iX9_over_43 ?_
        refine ld_i3 iX9_over_46 ?_
        refine r_lconst (v := 0) (by decide) iX9_over_47 ?_
        refine xX1_leastNoLess kMX9_191 iX9_over_48 (by decide) (Nat.le_of_ble_eq_true rfl) rfl rfl ?_
        refine c_leastNoLess k3 (by omega) (by omega) (fun r N4 m1 m2 => ?_)
        refine t_int rfl iX9_over_51 ?_
        have xt := (f1.tr e1).tr (XT.l7 e1.2.2 k1 k2)
        refine hq1 ⟨h5.1, h5.2, h13.2, h20⟩ r N4 g3 ?_ (xt.tr (XT.sr xt.2.2 m1))
        refine Fst.cong (fun u u1 u2 => ?_) m2
        show 0 ≤ LF d (dB d) (rwo a) u - LF d (dB d) (rwo o) u ↔ _
        omega
      · have h20 := tf_n h20
        refine r_iconst iX9_over_23 ?_
        refine t_int rfl iX9_over_24 ?_
        exact hq0 (by omega)
theorem x_crossings {a o w : Int} {Pq : Int → Nm → Ge → Prop} (hX : XS N g d) (ra : rI a) (ro : rI o) (rw' : rI w) (hq1 : N 0 0 9 = 1 ∧ (-1 ≤ a ∧ a < dA d) ∧ (-1 ≤ o ∧ o < dA d) ∧ (0 ≤ w ∧ w ≤ 2) → ∀ r N' g', crA (fun u => LF d (dB d) (rwo a) u - LF d (dB d) (rwo o) u) w r → XT N g d N' g' → Pq r N' g') (hq0 : ¬ (N 0 0 9 = 1 ∧ (-1 ≤ a ∧ a < dA d) ∧ (-1 ≤ o ∧ o < dA d) ∧ (0 ≤ w ∧ w ≤ 2)) → Pq HID N g) : Ck K YX9_crossings hX9_crossings [vr 0 0, vi a, vi o, vi w] N g (qL Pq) := by
  refine Ck.intro 1 (by decide) rfl ?_
  show AW _ _ _ _ _ [some (vr 0 0), some (vi a), some (vi o), some (vi w), none] _ _ _
  refine ld_a0 iX9_crossings_0 ?_
  refine ld_i1 iX9_crossings_1 ?_
  refine xX9_isLine kMX9_149 iX9_crossings_2 (by decide) (Nat.le_of_ble_eq_true rfl) rfl rfl ?_
  refine c_xisLine hX ra ?_
  refine r_ifeq iX9_crossings_5 (by exact tf_r _) (fun h5 => ?_) (fun h5 => ?_)
  · have h5 := tf_n h5
    refine r_ldc2 (z := -9000000000000000000) kKX9_155 (by decide) iX9_crossings_25 ?_
    refine t_long rfl iX9_crossings_28 ?_
    exact hq0 (by omega)
  · have h5 := tf_y h5
    refine ld_a0 iX9_crossings_8 ?_
    refine ld_i2 iX9_crossings_9 ?_
    refine xX9_isLine kMX9_149 iX9_crossings_10 (by decide) (Nat.le_of_ble_eq_true rfl) rfl rfl ?_
    refine c_xisLine hX ro ?_
    refine r_ifeq iX9_crossings_13 (by exact tf_r _) (fun h13 => ?_) (fun h13 => ?_)
    · have h13 := tf_n h13
      refine r_ldc2 (z := -9000000000000000000) kKX9_155 (by decide) iX9_crossings_25 ?_
      refine t_long rfl iX9_crossings_28 ?_
      exact hq0 (by omega)
    · have h13 := tf_y h13
      refine ld_i3 iX9_crossings_16 ?_
      refine r_iflt iX9_crossings_17 (by omega) (fun h17 => ?_) (fun h17 => ?_)
      · refine r_ldc2 (z := -9000000000000000000) kKX9_155 (by decide) iX9_crossings_25 ?_
        refine t_long rfl iX9_crossings_28 ?_
        exact hq0 (by omega)
      · refine ld_i3 iX9_crossings_20 ?_
        refine r_iconst iX9_crossings_21 ?_
        refine r_icmple iX9_crossings_22 (by omega) (by omega) (fun h22 => ?_) (fun h22 => ?_)
        · refine ld_a0 iX9_crossings_29 ?_
          refine gf_X9_between kFX9_33 iX9_crossings_30 ?_
          refine ld_a0 iX9_crossings_33 ?_
          refine ld_i1 iX9_crossings_34 ?_
          refine xX9_line kMX9_100 iX9_crossings_35 (by decide) (Nat.le_of_ble_eq_true rfl) rfl rfl ?_
          refine c_xline hX h5.1 h5.2 (fun N1 g1 P s G f1 f2 f3 f4 => ?_)
          have f9 : N1 0 0 9 = 1 := by rw [f1.1 0 0 9 (by omega) (by omega)]; exact h5.1
          refine ld_a0 iX9_crossings_38 ?_
          refine ld_i2 iX9_crossings_39 ?_
          refine xX9_line kMX9_100 iX9_crossings_40 (by decide) (Nat.le_of_ble_eq_true rfl) rfl rfl ?_
          refine c_xline f1.2.2 f9 h13.2 (fun N2 g2 P2 s2 G2 e1 e2 e3 e4 => ?_)
          obtain ⟨P1, s1, G1, e5, e6⟩ := e2.1 _ (rwo_ok h5.2)
          have hW := (hX.2.2 h5.1).1
          have hA := hW.1
          have n1 := rwo_ok h5.2
          have n2 := rwo_ok h13.2
          refine xX1_becomeDifference kMX9_300 iX9_crossings_43 (by decide) (Nat.le_of_ble_eq_true rfl) rfl rfl ?_
          refine c_becomeDifference (i := 7) e5 e3 (by omega) (by omega) (e1.2.1.2.2 7 (by omega)) (fun u hu => ?_) (fun N3 g3 P3 s3 G3 k1 k2 k3 k4 => ?_)
          · have b1 := LF_bd hW hW.2.1 n1 u hu; have b2 := LF_bd hW hW.2.1 n2 u hu; omega
          have xt := (f1.tr e1).tr (XT.l7 e1.2.2 k1 k2)
          have hq1 := hq1 ⟨h5.1, h5.2, h13.2, by omega⟩
          refine ld_i3 iX9_crossings_46 ?_
          refine r_ifne iX9_crossings_47 (by omega) (fun h47 => ?_) (fun h47 => ?_)
          · refine ld_a0 iX9_crossings_59 ?_
            refine gf_X9_between kFX9_33 iX9_crossings_60 ?_
            refine xX1_widest kMX9_307 iX9_crossings_63 (by decide) (Nat.le_of_ble_eq_true rfl) rfl rfl ?_
            refine c_widest k3 (fun b N4 m1 m2 m3 => ?_)
            have bb : bF (LF d (dB d) (rwo a) b - LF d (dB d) (rwo o) b) := k3.2.2.2.2.1 b m1
            refine sv_i4 (by decide) rfl iX9_crossings_66 ?_
            refine ld_i3 iX9_crossings_68 ?_
            refine r_iconst iX9_crossings_69 ?_
            refine r_icmpne iX9_crossings_70 (by omega) (by omega) (fun h70 => ?_) (fun h70 => ?_)
            · refine ld_i4 iX9_crossings_88 ?_
              refine r_i2l (by omega) iX9_crossings_90 ?_
              refine t_long rfl iX9_crossings_91 ?_
              first
                | exact hq1 _ N4 g3 ⟨fun q => by omega, fun q => by omega, fun _ => m3⟩ (xt.tr (XT.sr xt.2.2 m2))
                | exact hq1 _ N5 g3 ⟨fun q => by omega, fun _ => ⟨b, m3, rfl⟩, fun q => by omega⟩ (xt.tr (XT.sr xt.2.2 (m2.tr m4)))
            · refine ld_a0 iX9_crossings_73 ?_
              refine gf_X9_between kFX9_33 iX9_crossings_74 ?_
              refine ld_i4 iX9_crossings_77 ?_
              refine xX1_valueAt kMX9_208 iX9_crossings_79 (by decide) (Nat.le_of_ble_eq_true rfl) rfl rfl ?_
              refine c_valueAt (k3.sr m2) m1 (fun N5 m4 => ?_)
              refine xJ9_abs_067f4 kMX9_310 iX9_crossings_82 (by decide) (Nat.le_of_ble_eq_true rfl) rfl rfl ?_
              refine c_absL (a := LF d (dB d) (rwo a) b - LF d (dB d) (rwo o) b) (by omega) ?_
              refine r_goto iX9_crossings_85 ?_
              refine t_long rfl iX9_crossings_91 ?_
              first
                | exact hq1 _ N4 g3 ⟨fun q => by omega, fun q => by omega, fun _ => m3⟩ (xt.tr (XT.sr xt.2.2 m2))
                | exact hq1 _ N5 g3 ⟨fun q => by omega, fun _ => ⟨b, m3, rfl⟩, fun q => by omega⟩ (xt.tr (XT.sr xt.2.2 (m2.tr m4)))
          · refine ld_a0 iX9_crossings_50 ?_
            refine gf_X9_between kFX9_33 iX9_crossings_51 ?_
            refine xX1_signChanges kMX9_304 iX9_crossings_54 (by decide) (Nat.le_of_ble_eq_true rfl) rfl rfl ?_
            refine c_signChanges k3 ?_
            have hcl := ct_le (sgB (fun u => LF d (dB d) (rwo a) u - LF d (dB d) (rwo o) u)) 10000
            refine r_i2l (by omega) iX9_crossings_57 ?_
            refine t_long rfl iX9_crossings_58 ?_
            exact hq1 _ N3 g3 ⟨fun _ => rfl, fun q => by omega, fun q => by omega⟩ xt
        · refine r_ldc2 (z := -9000000000000000000) kKX9_155 (by decide) iX9_crossings_25 ?_
          refine t_long rfl iX9_crossings_28 ?_
          exact hq0 (by omega)
theorem x_through {a w : Int} {Pq : Int → Nm → Ge → Prop} (hX : XS N g d) (ra : rI a) (rw' : rI w) (hq1 : N 0 0 9 = 1 ∧ (0 ≤ a ∧ a < dA d) ∧ (0 ≤ w ∧ w < 9999) → ∀ N' g', XT N g d N' g' → Pq (paid d (dB d) (-1) 0 (w + 1) - paid d (dB d) a (VA d (dB d) (-1) 0 w a.toNat) (w + 1)) N' g') (hq0 : ¬ (N 0 0 9 = 1 ∧ (0 ≤ a ∧ a < dA d) ∧ (0 ≤ w ∧ w < 9999)) → Pq HID N g) : Ck K YX9_through hX9_through [vr 0 0, vi a, vi w] N g (qL Pq) := by
  refine Ck.intro 4 (by decide) rfl ?_
  show AW _ _ _ _ _ [some (vr 0 0), some (vi a), some (vi w), none, none, none, none] _ _ _
  refine ld_a0 iX9_through_0 ?_
  refine ld_i1 iX9_through_1 ?_
  refine xX9_isAccount kMX9_111 iX9_through_2 (by decide) (Nat.le_of_ble_eq_true rfl) rfl rfl ?_
  refine c_xisAccount hX ra ?_
  refine r_ifeq iX9_through_5 (by exact tf_r _) (fun h5 => ?_) (fun h5 => ?_)
  · have h5 := tf_n h5
    refine r_ldc2 (z := -9000000000000000000) kKX9_155 (by decide) iX9_through_19 ?_
    refine t_long rfl iX9_through_22 ?_
    exact hq0 (by omega)
  · have h5 := tf_y h5
    obtain ⟨hW, hR, -⟩ := hX.2.2 h5.1
    have hA := hW.1
    refine ld_i2 iX9_through_8 ?_
    refine r_iflt iX9_through_9 (by omega) (fun h9 => ?_) (fun h9 => ?_)
    · refine r_ldc2 (z := -9000000000000000000) kKX9_155 (by decide) iX9_through_19 ?_
      refine t_long rfl iX9_through_22 ?_
      exact hq0 (by omega)
    · refine ld_i2 iX9_through_12 ?_
      refine r_sipush (by decide) iX9_through_13 ?_
      refine r_icmplt iX9_through_16 (by omega) (by omega) (fun h16 => ?_) (fun h16 => ?_)
      · refine ld_a0 iX9_through_23 ?_
        refine gf_X9_point kFX9_19 iX9_through_24 ?_
        refine ld_a0 iX9_through_27 ?_
        refine gf_X9_rules kFX9_58 iX9_through_28 ?_
        refine ld_i2 iX9_through_31 ?_
        refine xX3_reckon kMX9_157 iX9_through_32 (by decide) (Nat.le_of_ble_eq_true rfl) rfl rfl ?_
        refine c_reckon hR hW (by omega) (fun N1 f1 f2 f3 => ?_)
        refine r_pop2l rfl iX9_through_35 ?_
        refine ld_a0 iX9_through_36 ?_
        refine gf_X9_point kFX9_19 iX9_through_37 ?_
        refine gf_X3_values kFX9_161 iX9_through_40 ?_
        refine ld_i1 iX9_through_43 ?_
        refine al_5 (n := (a.toNat)) (by omega) (by omega) iX9_through_44 ?_
        rw [(f2 a.toNat (by omega)).1]
        refine sv_l3 (by decide) rfl iX9_through_45 ?_
        refine ld_a0 iX9_through_46 ?_
        refine gf_X9_point kFX9_19 iX9_through_47 ?_
        refine ld_a0 iX9_through_50 ?_
        refine gf_X9_rules kFX9_58 iX9_through_51 ?_
        refine ld_i2 iX9_through_54 ?_
        refine r_iconst iX9_through_55 ?_
        refine r_iadd iX9_through_56 ?_
        refine ld_a0 iX9_through_57 ?_
        refine gf_X9_rules kFX9_58 iX9_through_58 ?_
        refine gf_X5_benefit kFX9_94 iX9_through_61 ?_
        rw [(hR.frp f1).2.1]
        refine ld_i1 iX9_through_64 ?_
        refine ld_l3 iX9_through_65 ?_
        refine xX3_reckonHeld kMX9_289 iX9_through_66 (by decide) (Nat.le_of_ble_eq_true rfl) rfl rfl ?_
        refine c_reckonHeld (hR.frp f1) hW hW.2.1 (by omega) ra (fun k hk ek => ?_) (fun N2 e1 e2 e3 => ?_)
        · have vb := val_bd hW hW.2.1 (w := w) (by omega) (hd := -1) (hv := 0) (fun a _ q => by omega) (dA d) (Nat.le_refl _) k hk
          rw [show a.toNat = k by omega]; exact vb.1
        refine sv_l5 (by decide) rfl iX9_through_69 ?_
        refine ld_a0 iX9_through_71 ?_
        refine gf_X9_point kFX9_19 iX9_through_72 ?_
        refine ld_a0 iX9_through_75 ?_
        refine gf_X9_rules kFX9_58 iX9_through_76 ?_
        refine ld_i2 iX9_through_79 ?_
        refine r_iconst iX9_through_80 ?_
        refine r_iadd iX9_through_81 ?_
        refine xX3_reckon kMX9_157 iX9_through_82 (by decide) (Nat.le_of_ble_eq_true rfl) rfl rfl ?_
        refine c_reckon ((hR.frp f1).frp e1) hW (by omega) (fun N3 k1 k2 k3 => ?_)
        refine ld_l5 iX9_through_85 ?_
        refine r_lsub iX9_through_87 ?_
        refine t_long rfl iX9_through_88 ?_
        exact hq1 ⟨h5.1, h5.2, by omega⟩ N3 g (XT.frp hX ((f1.tr e1).tr k1))
      · refine r_ldc2 (z := -9000000000000000000) kKX9_155 (by decide) iX9_through_19 ?_
        refine t_long rfl iX9_through_22 ?_
        exact hq0 (by omega)
theorem x_without {a w : Int} {Pq : Int → Nm → Ge → Prop} (hX : XS N g d) (ra : rI a) (rw' : rI w) (hq1 : N 0 0 9 = 1 ∧ (0 ≤ a ∧ a < dA d) ∧ (0 ≤ w ∧ w ≤ 9999) → ∀ N' g', XT N g d N' g' → Pq (paid d (dB d) a 0 w) N' g') (hq0 : ¬ (N 0 0 9 = 1 ∧ (0 ≤ a ∧ a < dA d) ∧ (0 ≤ w ∧ w ≤ 9999)) → Pq HID N g) : Ck K YX9_without hX9_without [vr 0 0, vi a, vi w] N g (qL Pq) := by
  refine Ck.intro 0 (by decide) rfl ?_
  show AW _ _ _ _ _ [some (vr 0 0), some (vi a), some (vi w)] _ _ _
  refine ld_a0 iX9_without_0 ?_
  refine ld_i1 iX9_without_1 ?_
  refine xX9_isAccount kMX9_111 iX9_without_2 (by decide) (Nat.le_of_ble_eq_true rfl) rfl rfl ?_
  refine c_xisAccount hX ra ?_
  refine r_ifeq iX9_without_5 (by exact tf_r _) (fun h5 => ?_) (fun h5 => ?_)
  · have h5 := tf_n h5
    refine r_ldc2 (z := -9000000000000000000) kKX9_155 (by decide) iX9_without_15 ?_
    refine t_long rfl iX9_without_18 ?_
    exact hq0 (by omega)
  · have h5 := tf_y h5
    refine ld_i2 iX9_without_8 ?_
    refine xX9_isWage kMX9_152 iX9_without_9 (by decide) (Nat.le_of_ble_eq_true rfl) rfl rfl ?_
    refine c_xisWage rw' ?_
    refine r_ifne iX9_without_12 (by exact tf_r _) (fun h12 => ?_) (fun h12 => ?_)
    · have h12 := tf_y h12
      obtain ⟨hW, hR, -⟩ := hX.2.2 h5.1
      refine ld_a0 iX9_without_19 ?_
      refine gf_X9_point kFX9_19 iX9_without_20 ?_
      refine ld_a0 iX9_without_23 ?_
      refine gf_X9_rules kFX9_58 iX9_without_24 ?_
      refine ld_i2 iX9_without_27 ?_
      refine ld_a0 iX9_without_28 ?_
      refine gf_X9_rules kFX9_58 iX9_without_29 ?_
      refine gf_X5_benefit kFX9_94 iX9_without_32 ?_
      rw [hR.2.1]
      refine ld_i1 iX9_without_35 ?_
      refine r_lconst (v := 0) (by decide) iX9_without_36 ?_
      refine xX3_reckonHeld kMX9_289 iX9_without_37 (by decide) (Nat.le_of_ble_eq_true rfl) rfl rfl ?_
      refine c_reckonHeld hR hW hW.2.1 (by omega) ra (fun k hk ek => ⟨by omega, (VB_le _).1⟩) (fun N2 e1 e2 e3 => ?_)
      refine t_long rfl iX9_without_40 ?_
      exact hq1 ⟨h5.1, h5.2, h12⟩ N2 g (XT.frp hX e1)
    · have h12 := tf_n h12
      refine r_ldc2 (z := -9000000000000000000) kKX9_155 (by decide) iX9_without_15 ?_
      refine t_long rfl iX9_without_18 ?_
      exact hq0 (by omega)
theorem c_xkeptAt {w : Int} {Pq : Int → Nm → Ge → Prop} (hX : XS N g d) (h9 : N 0 0 9 = 1) (hw : 0 ≤ w ∧ w ≤ 9999) (hq : ∀ N' g', XT N g d N' g' → Pq (w * 1000000000 - paid d (dB d) (-1) 0 w) N' g') : Ck K YX9_keptAt hX9_keptAt [vr 0 0, vi w] N g (qL Pq) := by
  obtain ⟨hW, hR, -⟩ := hX.2.2 h9
  refine Ck.intro 0 (by decide) rfl ?_
  show AW _ _ _ _ _ [some (vr 0 0), some (vi w)] _ _ _
  refine ld_i1 iX9_keptAt_0 ?_
  refine r_i2l (by omega) iX9_keptAt_1 ?_
  refine r_ldc2 (z := 1000000000) kKX9_221 (by decide) iX9_keptAt_2 ?_
  refine r_lmul iX9_keptAt_5 ?_
  refine ld_a0 iX9_keptAt_6 ?_
  refine gf_X9_point kFX9_19 iX9_keptAt_7 ?_
  refine ld_a0 iX9_keptAt_10 ?_
  refine gf_X9_rules kFX9_58 iX9_keptAt_11 ?_
  refine ld_i1 iX9_keptAt_14 ?_
  refine xX3_reckon kMX9_157 iX9_keptAt_15 (by decide) (Nat.le_of_ble_eq_true rfl) rfl rfl ?_
  refine c_reckon hR hW (by omega) (fun N1 f1 f2 f3 => ?_)
  refine r_lsub iX9_keptAt_18 ?_
  refine t_long rfl iX9_keptAt_19 ?_
  exact hq N1 g (XT.frp hX f1)
theorem x_kept {w : Int} {Pq : Int → Nm → Ge → Prop} (hX : XS N g d) (rw' : rI w) (hq1 : N 0 0 9 = 1 ∧ (0 ≤ w ∧ w ≤ 9999) → ∀ N' g', XT N g d N' g' → Pq (w * 1000000000 - paid d (dB d) (-1) 0 w) N' g') (hq0 : ¬ (N 0 0 9 = 1 ∧ (0 ≤ w ∧ w ≤ 9999)) → Pq HID N g) : Ck K YX9_kept hX9_kept [vr 0 0, vi w] N g (qL Pq) := by
  have h01 := hX.1
  refine Ck.intro 0 (by decide) rfl ?_
  show AW _ _ _ _ _ [some (vr 0 0), some (vi w)] _ _ _
  refine ld_a0 iX9_kept_0 ?_
  refine gf_X9_hasDesk kFX9_65 iX9_kept_1 ?_
  refine r_ifeq iX9_kept_4 (by omega) (fun h4 => ?_) (fun h4 => ?_)
  · refine r_ldc2 (z := -9000000000000000000) kKX9_155 (by decide) iX9_kept_22 ?_
    refine t_long rfl iX9_kept_25 ?_
    first
      | exact hq0 (by omega)
      | exact hq1 ⟨by omega, h11⟩ N1 g1 f1
  · refine ld_i1 iX9_kept_7 ?_
    refine xX9_isWage kMX9_152 iX9_kept_8 (by decide) (Nat.le_of_ble_eq_true rfl) rfl rfl ?_
    refine c_xisWage rw' ?_
    refine r_ifeq iX9_kept_11 (by exact tf_r _) (fun h11 => ?_) (fun h11 => ?_)
    · have h11 := tf_n h11
      refine r_ldc2 (z := -9000000000000000000) kKX9_155 (by decide) iX9_kept_22 ?_
      refine t_long rfl iX9_kept_25 ?_
      first
        | exact hq0 (by omega)
        | exact hq1 ⟨by omega, h11⟩ N1 g1 f1
    · have h11 := tf_y h11
      refine ld_a0 iX9_kept_14 ?_
      refine ld_i1 iX9_kept_15 ?_
      refine xX9_keptAt kMX9_218 iX9_kept_16 (by decide) (Nat.le_of_ble_eq_true rfl) rfl rfl ?_
      refine c_xkeptAt hX (by omega) h11 (fun N1 g1 f1 => ?_)
      refine r_goto iX9_kept_19 ?_
      refine t_long rfl iX9_kept_25 ?_
      first
        | exact hq0 (by omega)
        | exact hq1 ⟨by omega, h11⟩ N1 g1 f1
theorem x_inKind {v w : Int} {Pq : Int → Nm → Ge → Prop} (hX : XS N g d) (rv : rL v) (rw' : rI w) (hq1 : N 0 0 9 = 1 ∧ (0 ≤ w ∧ w ≤ 9999) → ∀ r N' g', Lst (fun u => v ≤ paid d u (-1) 0 w) 1000 r → XT N g d N' g' → Pq r N' g') (hq0 : ¬ (N 0 0 9 = 1 ∧ (0 ≤ w ∧ w ≤ 9999)) → Pq (-1) N g) : Ck K YX9_inKind hX9_inKind [vr 0 0, vl v, vi w] N g (qI Pq) := by
  have h01 := hX.1
  refine Ck.intro 1 (by decide) rfl ?_
  show AW _ _ _ _ _ [some (vr 0 0), some (vl v), none, some (vi w), none] _ _ _
  have loop : N 0 0 9 = 1 → (0 ≤ w ∧ w ≤ 9999) → ∀ (n : Nat) (c : Int) (N' : Nm), n ≤ 1000 → c = (n : Int) - 1 → FrP N N' → (∀ u, n ≤ u → u < 1000 → ¬ v ≤ paid d u (-1) 0 w) → AW K YX9_inKind hX9_inKind (qI Pq) 21 [some (vr 0 0), some (vl v), none, some (vi w), some (vi c)] [] N' g := by
    intro h9 hw n
    obtain ⟨hW, hR, -⟩ := hX.2.2 h9
    induction n with
    | zero =>
      intro c N' h1 h2 h3 h4
      refine ld_i4 iX9_inKind_21 ?_
      refine r_iflt iX9_inKind_23 (by omega) (fun h23 => ?_) (fun h23 => ?_)
      · refine r_iconst iX9_inKind_56 ?_
        refine t_int rfl iX9_inKind_57 ?_
        exact hq1 ⟨h9, hw⟩ _ N' g (Or.inl ⟨rfl, fun u hu => h4 u (by omega) hu⟩) (XT.frp hX h3)
      · exfalso; omega
    | succ n ih =>
      intro c N' h1 h2 h3 h4
      have e : c = n := by omega
      subst e
      have pb := paid_bd hW (b := n) (by omega) hw (hd := -1) (hv := 0) (fun a _ q => by omega)
      refine ld_i4 iX9_inKind_21 ?_
      refine r_iflt iX9_inKind_23 (by omega) (fun h23 => ?_) (fun h23 => ?_)
      · exfalso; omega
      · refine ld_a0 iX9_inKind_26 ?_
        refine gf_X9_point kFX9_19 iX9_inKind_27 ?_
        refine ld_a0 iX9_inKind_30 ?_
        refine gf_X9_rules kFX9_58 iX9_inKind_31 ?_
        refine ld_i3 iX9_inKind_34 ?_
        refine ld_i4 iX9_inKind_35 ?_
        refine r_iconst iX9_inKind_37 ?_
        refine r_lconst (v := 0) (by decide) iX9_inKind_38 ?_
        refine xX3_reckonHeld kMX9_289 iX9_inKind_39 (by decide) (Nat.le_of_ble_eq_true rfl) rfl rfl ?_
        refine c_reckonHeld (hR.frp h3) hW (by omega) hw (by omega) (fun k hk ek => by omega) (fun N2 e1 e2 e3 => ?_)
        refine ld_l1 iX9_inKind_42 ?_
        refine r_lclt iX9_inKind_43 iX9_inKind_44 (by omega) (by omega) (fun h43 => ?_) (fun h43 => ?_)
        · refine inc_4 (by decide) rfl iX9_inKind_50 ?_
          refine r_goto iX9_inKind_53 ?_
          refine ih _ N2 (by omega) (by omega) (h3.tr e1) (fun u u1 u2 => ?_)
          by_cases e : u = n
          · rw [e]; omega
          · exact h4 u (by omega) u2
        · refine ld_i4 iX9_inKind_47 ?_
          refine t_int rfl iX9_inKind_49 ?_
          exact hq1 ⟨h9, hw⟩ _ N2 g (Or.inr ⟨n, rfl, by omega, by omega, fun u u1 u2 => h4 u (by omega) u2⟩) (XT.frp hX (h3.tr e1))
  refine ld_a0 iX9_inKind_0 ?_
  refine gf_X9_hasDesk kFX9_65 iX9_inKind_1 ?_
  refine r_ifeq iX9_inKind_4 (by omega) (fun h4 => ?_) (fun h4 => ?_)
  · refine r_iconst iX9_inKind_14 ?_
    refine t_int rfl iX9_inKind_15 ?_
    exact hq0 (by omega)
  · refine ld_i3 iX9_inKind_7 ?_
    refine xX9_isWage kMX9_152 iX9_inKind_8 (by decide) (Nat.le_of_ble_eq_true rfl) rfl rfl ?_
    refine c_xisWage rw' ?_
    refine r_ifne iX9_inKind_11 (by exact tf_r _) (fun h11 => ?_) (fun h11 => ?_)
    · have h11 := tf_y h11
      refine r_sipush (by decide) iX9_inKind_16 ?_
      refine sv_i4 (by decide) rfl iX9_inKind_19 ?_
      exact loop (by omega) h11 1000 _ N (by omega) (by omega) (FrP.rf N) (fun u u1 u2 => by omega)
    · have h11 := tf_n h11
      refine r_iconst iX9_inKind_14 ?_
      refine t_int rfl iX9_inKind_15 ?_
      exact hq0 (by omega)
theorem x_free {t : Int} {Pq : Int → Nm → Ge → Prop} (hX : XS N g d) (rt : rI t) (hq1 : N 0 0 9 = 1 ∧ (0 ≤ t ∧ t ≤ 1000) → ∀ r N' g', Lst (fun w => (w : Int) * (1000000000 - t * 1000000) - PD d w ≤ 0) 10000 r → XT N g d N' g' → Pq r N' g') (hq0 : ¬ (N 0 0 9 = 1 ∧ (0 ≤ t ∧ t ≤ 1000)) → Pq (-1) N g) : Ck K YX9_free hX9_free [vr 0 0, vi t] N g (qI Pq) := by
  have h01 := hX.1
  refine Ck.intro 0 (by decide) rfl ?_
  show AW _ _ _ _ _ [some (vr 0 0), some (vi t)] _ _ _
  refine ld_a0 iX9_free_0 ?_
  refine gf_X9_hasDesk kFX9_65 iX9_free_1 ?_
  refine r_ifeq iX9_free_4 (by omega) (fun h4 => ?_) (fun h4 => ?_)
  · refine r_iconst iX9_free_18 ?_
    refine t_int rfl iX9_free_19 ?_
    exact hq0 (by omega)
  · refine ld_i1 iX9_free_7 ?_
    refine r_iflt iX9_free_8 (by omega) (fun h8 => ?_) (fun h8 => ?_)
    · refine r_iconst iX9_free_18 ?_
      refine t_int rfl iX9_free_19 ?_
      exact hq0 (by omega)
    · refine ld_i1 iX9_free_11 ?_
      refine r_sipush (by decide) iX9_free_12 ?_
      refine r_icmple iX9_free_15 (by omega) (by omega) (fun h15 => ?_) (fun h15 => ?_)
      · refine ld_a0 iX9_free_20 ?_
        refine r_iconst iX9_free_21 ?_
        refine xX9_line kMX9_100 iX9_free_22 (by decide) (Nat.le_of_ble_eq_true rfl) rfl rfl ?_
        refine c_xline hX (by omega) (by omega) (fun N1 g1 P s G f1 f2 f3 f4 => ?_)
        refine ld_i1 iX9_free_25 ?_
        refine xX1_greatestKeptNoMore kMX9_322 iX9_free_26 (by decide) (Nat.le_of_ble_eq_true rfl) rfl rfl ?_
        refine c_greatestKeptNoMore f3 (by omega) (fun r e2 => ?_)
        refine t_int rfl iX9_free_29 ?_
        exact hq1 ⟨by omega, by omega⟩ r N1 g1 e2 f1
      · refine r_iconst iX9_free_18 ?_
        refine t_int rfl iX9_free_19 ?_
        exact hq0 (by omega)
theorem x_status {w : Int} {Pq : Int → Nm → Ge → Prop} (rw' : rI w) (hq1 : 0 ≤ w ∧ w ≤ 3 → Pq (N 19 0 w.toNat) N g) (hq0 : ¬ (0 ≤ w ∧ w ≤ 3) → Pq (-1) N g) : Ck K YX9_status hX9_status [vr 0 0, vi w] N g (qI Pq) := by
  refine Ck.intro 0 (by decide) rfl ?_
  show AW _ _ _ _ _ [some (vr 0 0), some (vi w)] _ _ _
  refine ld_i1 iX9_status_0 ?_
  refine r_iflt iX9_status_1 (by omega) (fun h1 => ?_) (fun h1 => ?_)
  · refine r_iconst iX9_status_18 ?_
    refine t_int rfl iX9_status_19 ?_
    first
      | exact hq0 (by omega)
      | exact hq1 (by omega)
  · refine ld_i1 iX9_status_4 ?_
    refine r_iconst iX9_status_5 ?_
    refine r_icmpge iX9_status_6 (by omega) (by omega) (fun h6 => ?_) (fun h6 => ?_)
    · refine r_iconst iX9_status_18 ?_
      refine t_int rfl iX9_status_19 ?_
      first
        | exact hq0 (by omega)
        | exact hq1 (by omega)
    · refine ld_a0 iX9_status_9 ?_
      refine gf_X9_refusals kFX9_51 iX9_status_10 ?_
      refine ld_i1 iX9_status_13 ?_
      refine al_19 (n := (w.toNat)) (by omega) (by omega) iX9_status_14 ?_
      refine r_goto iX9_status_15 ?_
      refine t_int rfl iX9_status_19 ?_
      first
        | exact hq0 (by omega)
        | exact hq1 (by omega)
theorem x_rule {w : Int} {Pq : Int → Nm → Ge → Prop} (hX : XS N g d) (rw' : rI w) (hq1 : N 0 0 9 = 1 ∧ (0 ≤ w ∧ w ≤ 5) → ∀ (r : Int) N' g', (w = 0 → r = dA d) ∧ (w = 1 → r = dB d) ∧ (w = 2 → r = N 16 0 1) ∧ (w = 3 → r = dT d 6) ∧ (w = 4 → ∃ P s, Ps (PD d) P s ∧ r = P) ∧ (w = 5 → r = ct (clB (PD d)) 10000) → XT N g d N' g' → Pq r N' g') (hq0 : ¬ (N 0 0 9 = 1 ∧ (0 ≤ w ∧ w ≤ 5)) → Pq (-1) N g) : Ck K YX9_rule hX9_rule [vr 0 0, vi w] N g (qI Pq) := by
  have h01 := hX.1
  refine Ck.intro 0 (by decide) rfl ?_
  show AW _ _ _ _ _ [some (vr 0 0), some (vi w)] _ _ _
  refine ld_a0 iX9_rule_0 ?_
  refine gf_X9_hasDesk kFX9_65 iX9_rule_1 ?_
  refine r_ifne iX9_rule_4 (by omega) (fun h4 => ?_) (fun h4 => ?_)
  · obtain ⟨hW, hR, -⟩ := hX.2.2 (by omega)
    refine ld_i1 iX9_rule_9 ?_
    refine r_tsw6 (tg0 := 48) (tg1 := 56) (tg2 := 64) (tg3 := 72) (tg4 := 83) (tg5 := 92) (tgd := 101) iX9_rule_10 (by omega) rfl rfl rfl rfl rfl rfl rfl (fun h10 => ?_) (fun h10 => ?_) (fun h10 => ?_) (fun h10 => ?_) (fun h10 => ?_) (fun h10 => ?_) (fun h10 => ?_)
    · refine ld_a0 iX9_rule_48 ?_
      refine gf_X9_rules kFX9_58 iX9_rule_49 ?_
      refine gf_X5_accounts kFX9_91 iX9_rule_52 ?_
      refine t_int rfl iX9_rule_55 ?_
      exact hq1 ⟨by omega, by omega⟩ _ _ _ ⟨fun _ => hR.1, fun q => by omega, fun q => by omega, fun q => by omega, fun q => by omega, fun q => by omega⟩ (XT.rf hX)
    · refine ld_a0 iX9_rule_56 ?_
      refine gf_X9_rules kFX9_58 iX9_rule_57 ?_
      refine gf_X5_benefit kFX9_94 iX9_rule_60 ?_
      refine t_int rfl iX9_rule_63 ?_
      exact hq1 ⟨by omega, by omega⟩ _ _ _ ⟨fun q => by omega, fun _ => hR.2.1, fun q => by omega, fun q => by omega, fun q => by omega, fun q => by omega⟩ (XT.rf hX)
    · refine ld_a0 iX9_rule_64 ?_
      refine gf_X9_months kFX9_40 iX9_rule_65 ?_
      refine gf_X8_passed kFX9_88 iX9_rule_68 ?_
      refine t_int rfl iX9_rule_71 ?_
      exact hq1 ⟨by omega, by omega⟩ _ _ _ ⟨fun q => by omega, fun q => by omega, fun _ => rfl, fun q => by omega, fun q => by omega, fun q => by omega⟩ (XT.rf hX)
    · refine ld_a0 iX9_rule_72 ?_
      refine gf_X9_rules kFX9_58 iX9_rule_73 ?_
      refine gf_X5_termCounts kFX9_97 iX9_rule_76 ?_
      refine r_bipush (by decide) iX9_rule_79 ?_
      refine al_21 (n := 6) (by omega) (by omega) iX9_rule_81 ?_
      refine t_int rfl iX9_rule_82 ?_
      exact hq1 ⟨by omega, by omega⟩ _ _ _ ⟨fun q => by omega, fun q => by omega, fun q => by omega, fun _ => (hR.2.2.1 6 (Or.inr rfl)).1, fun q => by omega, fun q => by omega⟩ (XT.rf hX)
    · refine ld_a0 iX9_rule_83 ?_
      refine r_iconst iX9_rule_84 ?_
      refine xX9_line kMX9_100 iX9_rule_85 (by decide) (Nat.le_of_ble_eq_true rfl) rfl rfl ?_
      refine c_xline hX (by omega) (by omega) (fun N1 g1 P s G f1 f2 f3 f4 => ?_)
      refine gf_X1_pieces kFX9_104 iX9_rule_88 ?_
      refine t_int rfl iX9_rule_91 ?_
      exact hq1 ⟨by omega, by omega⟩ _ _ _ ⟨fun q => by omega, fun q => by omega, fun q => by omega, fun q => by omega, fun _ => ⟨P, s, (f3.2.2.2.2.2.st f4).1, f3.1⟩, fun q => by omega⟩ f1
    · refine ld_a0 iX9_rule_92 ?_
      refine r_iconst iX9_rule_93 ?_
      refine xX9_line kMX9_100 iX9_rule_94 (by decide) (Nat.le_of_ble_eq_true rfl) rfl rfl ?_
      refine c_xline hX (by omega) (by omega) (fun N1 g1 P s G f1 f2 f3 f4 => ?_)
      refine xX1_cliffs kMX9_107 iX9_rule_97 (by decide) (Nat.le_of_ble_eq_true rfl) rfl rfl ?_
      refine c_cliffs f3 ?_
      refine t_int rfl iX9_rule_100 ?_
      exact hq1 ⟨by omega, by omega⟩ _ _ _ ⟨fun q => by omega, fun q => by omega, fun q => by omega, fun q => by omega, fun q => by omega, fun _ => rfl⟩ f1
    · refine r_iconst iX9_rule_101 ?_
      refine t_int rfl iX9_rule_102 ?_
      exact hq0 (by omega)
  · refine r_iconst iX9_rule_7 ?_
    refine t_int rfl iX9_rule_8 ?_
    exact hq0 (by omega)
theorem c_xisSegment' {a s : Int} {Pq : Int → Nm → Ge → Prop} (hX : XS N g d) (hr : rI a) (hs : rI s) (hq : ∀ z : Int, (z = 1 ∧ N 0 0 9 = 1 ∧ IsSg d a s) ∨ (z = 0 ∧ ¬ (N 0 0 9 = 1 ∧ IsSg d a s)) → Pq z N g) : Ck K YX9_isSegment hX9_isSegment [vr 0 0, vi a, vi s] N g (qI Pq) := c_xisSegment hX hr hs (fun h1 h2 => hq 1 (Or.inl ⟨rfl, h1, h2⟩)) (fun h => hq 0 (Or.inr ⟨rfl, h⟩))
theorem x_segment {a s w : Int} {Pq : Int → Nm → Ge → Prop} (hX : XS N g d) (ra : rI a) (rs : rI s) (rw' : rI w) (hq1 : N 0 0 9 = 1 ∧ IsSg d a s ∧ (0 ≤ w ∧ w ≤ 3) → ∀ N' g', XT N g d N' g' → Pq (if w = 0 then dF d a.toNat s.toNat else if w = 1 then dE d a.toNat s.toNat else if w = 2 then dL d a.toNat s.toNat else ct (fun u => decide (sgW d (dB d) a.toNat u = s.toNat)) 10000) N' g') (hq0 : ¬ (N 0 0 9 = 1 ∧ IsSg d a s ∧ (0 ≤ w ∧ w ≤ 3)) → Pq (-2) N g) : Ck K YX9_segment hX9_segment [vr 0 0, vi a, vi s, vi w] N g (qI Pq) := by
  refine Ck.intro 0 (by decide) rfl ?_
  show AW _ _ _ _ _ [some (vr 0 0), some (vi a), some (vi s), some (vi w)] _ _ _
  refine ld_a0 iX9_segment_0 ?_
  refine ld_i1 iX9_segment_1 ?_
  refine ld_i2 iX9_segment_2 ?_
  refine xX9_isSegment kMX9_128 iX9_segment_3 (by decide) (Nat.le_of_ble_eq_true rfl) rfl rfl ?_
  refine c_xisSegment' hX ra rs (fun z hz => ?_)
  refine r_ifne iX9_segment_6 (by omega) (fun h6 => ?_) (fun h6 => ?_)
  · have hz := (hz.resolve_right (fun q => by omega)).2
    obtain ⟨hW, hR, -⟩ := hX.2.2 hz.1
    have hA := hW.1
    have hsg := hz.2
    unfold IsSg at hsg
    have hS6 := (hW.2.2.1 a.toNat (by omega)).1.2.1
    have rr := (hR.2.2.2.1 a.toNat (by omega)).2.2 s.toNat (by omega)
    refine ld_i3 iX9_segment_12 ?_
    refine r_tsw4 (tg0 := 44) (tg1 := 56) (tg2 := 68) (tg3 := 80) (tgd := 92) iX9_segment_13 (by omega) rfl rfl rfl rfl rfl (fun h13 => ?_) (fun h13 => ?_) (fun h13 => ?_) (fun h13 => ?_) (fun h13 => ?_)
    · refine ld_a0 iX9_segment_44 ?_
      refine gf_X9_rules kFX9_58 iX9_segment_45 ?_
      refine gf_X5_froms kFX9_132 iX9_segment_48 ?_
      refine ld_i1 iX9_segment_51 ?_
      refine al_28 (n := (a.toNat)) (by omega) (by omega) iX9_segment_52 ?_
      refine ld_i2 iX9_segment_53 ?_
      refine al_29 (n := (s.toNat)) (by omega) (by omega) iX9_segment_54 ?_
      refine t_int rfl iX9_segment_55 ?_
      have y := hq1 ⟨hz.1, hz.2, by omega⟩ N g (XT.rf hX); rw [if_pos (by omega)] at y; rw [rr.1]; exact y
    · refine ld_a0 iX9_segment_56 ?_
      refine gf_X9_rules kFX9_58 iX9_segment_57 ?_
      refine gf_X5_ats kFX9_136 iX9_segment_60 ?_
      refine ld_i1 iX9_segment_63 ?_
      refine al_30 (n := (a.toNat)) (by omega) (by omega) iX9_segment_64 ?_
      refine ld_i2 iX9_segment_65 ?_
      refine al_31 (n := (s.toNat)) (by omega) (by omega) iX9_segment_66 ?_
      refine t_int rfl iX9_segment_67 ?_
      have y := hq1 ⟨hz.1, hz.2, by omega⟩ N g (XT.rf hX); rw [if_neg (by omega), if_pos (by omega)] at y; rw [rr.2.1]; exact y
    · refine ld_a0 iX9_segment_68 ?_
      refine gf_X9_rules kFX9_58 iX9_segment_69 ?_
      refine gf_X5_slopes kFX9_139 iX9_segment_72 ?_
      refine ld_i1 iX9_segment_75 ?_
      refine al_32 (n := (a.toNat)) (by omega) (by omega) iX9_segment_76 ?_
      refine ld_i2 iX9_segment_77 ?_
      refine al_33 (n := (s.toNat)) (by omega) (by omega) iX9_segment_78 ?_
      refine t_int rfl iX9_segment_79 ?_
      have y := hq1 ⟨hz.1, hz.2, by omega⟩ N g (XT.rf hX); rw [if_neg (by omega), if_neg (by omega), if_pos (by omega)] at y; rw [rr.2.2]; exact y
    · refine ld_a0 iX9_segment_80 ?_
      refine xX9_fresh kMX9_142 iX9_segment_81 (by decide) (Nat.le_of_ble_eq_true rfl) rfl rfl ?_
      refine c_fresh hX hz.1 (fun N1 g1 f1 f2 => ?_)
      refine gf_X2_wagesOf kFX9_146 iX9_segment_84 ?_
      refine ld_i1 iX9_segment_87 ?_
      refine al_9 (n := (a.toNat)) (by omega) (by omega) iX9_segment_88 ?_
      refine ld_i2 iX9_segment_89 ?_
      refine al_10 (n := (s.toNat)) (by omega) (by omega) iX9_segment_90 ?_
      refine t_int rfl iX9_segment_91 ?_
      have y := hq1 ⟨hz.1, hz.2, by omega⟩ N1 g1 f1; rw [if_neg (by omega), if_neg (by omega), if_neg (by omega)] at y; rw [f2.2 a.toNat (by omega) s.toNat (by omega)]; exact y
    · refine r_bipush (by decide) iX9_segment_92 ?_
      refine t_int rfl iX9_segment_94 ?_
      exact hq0 (fun q => by omega)
  · have hz := (hz.resolve_left (fun q => by omega)).2
    refine r_bipush (by decide) iX9_segment_9 ?_
    refine t_int rfl iX9_segment_11 ?_
    exact hq0 (fun q => hz ⟨q.1, q.2.1⟩)
end Ask8
