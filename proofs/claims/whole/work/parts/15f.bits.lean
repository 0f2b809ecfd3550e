/-! own text: averages and rates as bits -/
section Dbl8
variable {K : Kx} {N : Nm} {g : Ge} {d : Dk}
theorem c_ofFloat {x : UInt32} {Pq : Int → Nm → Ge → Prop} (hx : x = FP.fconst0 ∨ ∃ s c q, x = flt s c q ∧ Nrf c q ∧ -60 ≤ q ∧ q ≤ 40) (hk : Pq x.toInt32.toInt N g) : Ck K YX0_ofFloat hX0_ofFloat [vf x] N g (qI Pq) := by
  refine Ck.intro 4 (by decide) rfl ?_
  show AW _ _ _ _ _ [some (vf x), none, none, none, none] _ _ _
  rcases hx with rfl | ⟨s, c, q, rfl, h, hq1, hq2⟩
  · have hz : FP.fconst0.toInt32.toInt = 0 := by decide
    rw [hz] at hk
    refine ld_f0 iX0_ofFloat_0 ?_
    refine r_fconst0 iX0_ofFloat_1 ?_
    refine r_fcmpE (by decide +kernel) iX0_ofFloat_2 ?_
    refine r_ifne iX0_ofFloat_3 (by omega) (fun h3 => ?_) (fun h3 => ?_)
    · exfalso; omega
    · refine r_iconst iX0_ofFloat_6 ?_
      refine t_int rfl iX0_ofFloat_7 ?_
      exact hk
  · rw [flt_int h] at hk
    have hc1 := h.1
    have hc2 := h.2.1
    have hm := nrf_nrm h
    have h52 : Nrm (c * 536870912) (-52) := ⟨hm.1, hm.2.1, by omega, by omega⟩
    obtain ⟨f1, f2⟩ := fr_int (m := 23) (i := c - 8388608) (x := 4710765210229538816) h52 (by omega) val_p23 (by omega)
    have hi : ((c - 8388608 : Nat) : Int) = (c : Int) - 8388608 := by omega
    have hd2 : FP.d2i (FP.dmul (FP.dsub (dbl false (c * 536870912) (-52)) FP.dconst1) 4710765210229538816) = Int32.ofInt ((c : Int) - 8388608) := by
      refine FP.Core.d2i_int ?_
      rw [toI ⟨by omega, by omega⟩, ← hi]
      exact f2
    have hpw : q - 29 + 52 = q + 23 := by omega
    have hsh : Int32.ofInt (q - 29 + 52 + 127) <<< (Int32.ofInt 23 &&& 31) = Int32.ofInt ((q + 150) * 8388608) := by
      rw [show q - 29 + 52 + 127 = (((q + 150).toNat : Nat) : Int) by omega, shl32 (by omega), show (((q + 150).toNat : Nat) : Int) = q + 150 by omega]
    cases s with
    | false =>
      refine ld_f0 iX0_ofFloat_0 ?_
      refine r_fconst0 iX0_ofFloat_1 ?_
      refine r_fcmpG (fcmp_zp h) iX0_ofFloat_2 ?_
      refine r_ifne iX0_ofFloat_3 (by omega) (fun h3 => ?_) (fun h3 => ?_)
      · refine ld_f0 iX0_ofFloat_8 ?_
        refine r_fconst0 iX0_ofFloat_9 ?_
        refine r_fcmpG (fcmp_zp h) iX0_ofFloat_10 ?_
        refine r_ifge iX0_ofFloat_11 (by omega) (fun h11 => ?_) (fun h11 => ?_)
        · refine ld_f0 iX0_ofFloat_20 ?_
          refine r_f2d (widen_flt h false) (n64_dbl hm false) iX0_ofFloat_21 ?_
          refine sv_d1 (by decide) rfl iX0_ofFloat_22 ?_
          refine ld_d1 iX0_ofFloat_23 ?_
          refine xX0_powerOf kMX0_19 iX0_ofFloat_24 (by decide) (Nat.le_of_ble_eq_true rfl) rfl rfl ?_
          refine c_powerOf hm (by omega) ?_
          refine sv_i3 (by decide) rfl iX0_ofFloat_27 ?_
          refine ld_i3 iX0_ofFloat_28 ?_
          refine r_bipush (by decide) iX0_ofFloat_29 ?_
          refine r_iadd iX0_ofFloat_31 ?_
          refine r_bipush (by decide) iX0_ofFloat_32 ?_
          refine r_ishl hsh iX0_ofFloat_34 ?_
          refine ld_d1 iX0_ofFloat_35 ?_
          refine ld_i3 iX0_ofFloat_36 ?_
          refine xX0_scaled kMX0_23 iX0_ofFloat_37 (by decide) (Nat.le_of_ble_eq_true rfl) rfl rfl ?_
          refine c_scaled hm (by omega) ?_
          refine r_dconst1 iX0_ofFloat_40 ?_
          refine r_dsub rfl f1 iX0_ofFloat_41 ?_
          refine r_ldc2d kKX0_31 iX0_ofFloat_42 ?_
          refine r_dmul rfl (n64_int f2) iX0_ofFloat_45 ?_
          refine r_d2i hd2 iX0_ofFloat_46 ?_
          refine r_iadd iX0_ofFloat_47 ?_
          refine sv_i4 (by decide) rfl iX0_ofFloat_48 ?_
          refine ld_f0 iX0_ofFloat_50 ?_
          refine r_fconst0 iX0_ofFloat_51 ?_
          refine r_fcmpG (fcmp_zp h) iX0_ofFloat_52 ?_
          refine r_ifge iX0_ofFloat_53 (by omega) (fun h53 => ?_) (fun h53 => ?_)
          · refine ld_i4 iX0_ofFloat_64 ?_
            refine t_int rfl iX0_ofFloat_66 ?_
            simp at hk; exact hk
          · exfalso; omega
        · exfalso; omega
      · exfalso; omega
    | true =>
      have hor : Int32.ofInt ((q + 150) * 8388608 + ((c : Int) - 8388608)) ||| Int32.ofInt (-2147483648) = Int32.ofInt ((q + 150) * 8388608 + ((c : Int) - 8388608) - 2147483648) := by
        rw [show (q + 150) * 8388608 + ((c : Int) - 8388608) = ((((q + 150) * 8388608 + ((c : Int) - 8388608)).toNat : Nat) : Int) by omega]
        exact or32 (by omega)
      refine ld_f0 iX0_ofFloat_0 ?_
      refine r_fconst0 iX0_ofFloat_1 ?_
      refine r_fcmpL (fcmp_zn h) iX0_ofFloat_2 ?_
      refine r_ifne iX0_ofFloat_3 (by omega) (fun h3 => ?_) (fun h3 => ?_)
      · refine ld_f0 iX0_ofFloat_8 ?_
        refine r_fconst0 iX0_ofFloat_9 ?_
        refine r_fcmpL (fcmp_zn h) iX0_ofFloat_10 ?_
        refine r_ifge iX0_ofFloat_11 (by omega) (fun h11 => ?_) (fun h11 => ?_)
        · exfalso; omega
        · refine ld_f0 iX0_ofFloat_14 ?_
          refine r_fneg iX0_ofFloat_15 ?_
          rw [neg_flt h]
          refine r_f2d (widen_flt h false) (n64_dbl hm false) iX0_ofFloat_16 ?_
          refine r_goto iX0_ofFloat_17 ?_
          refine sv_d1 (by decide) rfl iX0_ofFloat_22 ?_
          refine ld_d1 iX0_ofFloat_23 ?_
          refine xX0_powerOf kMX0_19 iX0_ofFloat_24 (by decide) (Nat.le_of_ble_eq_true rfl) rfl rfl ?_
          refine c_powerOf hm (by omega) ?_
          refine sv_i3 (by decide) rfl iX0_ofFloat_27 ?_
          refine ld_i3 iX0_ofFloat_28 ?_
          refine r_bipush (by decide) iX0_ofFloat_29 ?_
          refine r_iadd iX0_ofFloat_31 ?_
          refine r_bipush (by decide) iX0_ofFloat_32 ?_
          refine r_ishl hsh iX0_ofFloat_34 ?_
          refine ld_d1 iX0_ofFloat_35 ?_
          refine ld_i3 iX0_ofFloat_36 ?_
          refine xX0_scaled kMX0_23 iX0_ofFloat_37 (by decide) (Nat.le_of_ble_eq_true rfl) rfl rfl ?_
          refine c_scaled hm (by omega) ?_
          refine r_dconst1 iX0_ofFloat_40 ?_
          refine r_dsub rfl f1 iX0_ofFloat_41 ?_
          refine r_ldc2d kKX0_31 iX0_ofFloat_42 ?_
          refine r_dmul rfl (n64_int f2) iX0_ofFloat_45 ?_
          refine r_d2i hd2 iX0_ofFloat_46 ?_
          refine r_iadd iX0_ofFloat_47 ?_
          refine sv_i4 (by decide) rfl iX0_ofFloat_48 ?_
          refine ld_f0 iX0_ofFloat_50 ?_
          refine r_fconst0 iX0_ofFloat_51 ?_
          refine r_fcmpL (fcmp_zn h) iX0_ofFloat_52 ?_
          refine r_ifge iX0_ofFloat_53 (by omega) (fun h53 => ?_) (fun h53 => ?_)
          · exfalso; omega
          · refine ld_i4 iX0_ofFloat_56 ?_
            refine r_ldc (z := -2147483648) kKX0_33 (by decide) iX0_ofFloat_58 ?_
            refine r_ior hor iX0_ofFloat_60 ?_
            refine r_goto iX0_ofFloat_61 ?_
            refine t_int rfl iX0_ofFloat_66 ?_
            simp at hk; exact hk
      · exfalso; omega
theorem x_average {w : Int} {Pq : Int → Nm → Ge → Prop} (hX : XS N g d) (rw' : rI w) (hq1 : N 0 0 9 = 1 ∧ (0 ≤ w ∧ w ≤ 9999) → ∀ N' g', XT N g d N' g' → Pq (avB (w * 1000000000 - paid d (dB d) (-1) 0 w) (w * 1000000000)) N' g') (hq0 : ¬ (N 0 0 9 = 1 ∧ (0 ≤ w ∧ w ≤ 9999)) → Pq HID N g) : Ck K YX9_average hX9_average [vr 0 0, vi w] N g (qL Pq) := by
  have h01 := hX.1
  refine Ck.intro 0 (by decide) rfl ?_
  show AW _ _ _ _ _ [some (vr 0 0), some (vi w)] _ _ _
  refine ld_a0 iX9_average_0 ?_
  refine gf_X9_hasDesk kFX9_65 iX9_average_1 ?_
  refine r_ifeq iX9_average_4 (by omega) (fun h4 => ?_) (fun h4 => ?_)
  · refine r_ldc2 (z := -9000000000000000000) kKX9_155 (by decide) iX9_average_14 ?_
    refine t_long rfl iX9_average_17 ?_
    exact hq0 (by omega)
  · refine ld_i1 iX9_average_7 ?_
    refine xX9_isWage kMX9_152 iX9_average_8 (by decide) (Nat.le_of_ble_eq_true rfl) rfl rfl ?_
    refine c_xisWage rw' ?_
    refine r_ifne iX9_average_11 (by exact tf_r _) (fun h11 => ?_) (fun h11 => ?_)
    · have h11 := tf_y h11
      have hW := (hX.2.2 (by omega)).1
      have hpb := paid_bd hW (b := dB d) (hd := -1) (hv := 0) (w := w) hW.2.1 (by omega) (fun a _ z => by omega)
      refine ld_a0 iX9_average_18 ?_
      refine ld_i1 iX9_average_19 ?_
      refine xX9_keptAt kMX9_218 iX9_average_20 (by decide) (Nat.le_of_ble_eq_true rfl) rfl rfl ?_
      refine c_xkeptAt hX (by omega) h11 (fun N1 g1 f1 => ?_)
      refine ld_i1 iX9_average_23 ?_
      refine r_i2l (by omega) iX9_average_24 ?_
      refine r_ldc2 (z := 1000000000) kKX9_221 (by decide) iX9_average_25 ?_
      refine r_lmul iX9_average_28 ?_
      refine xX0_ofQuotient kMX9_223 iX9_average_29 (by decide) (Nat.le_of_ble_eq_true rfl) rfl rfl ?_
      refine c_ofQuotient (by omega) (by omega) ?_
      refine t_long rfl iX9_average_32 ?_
      exact hq1 ⟨by omega, h11⟩ N1 g1 f1
    · have h11 := tf_n h11
      refine r_ldc2 (z := -9000000000000000000) kKX9_155 (by decide) iX9_average_14 ?_
      refine t_long rfl iX9_average_17 ?_
      exact hq0 (by omega)
/-- the bits of what a piece keeps -/
def rtB (k : Int) : Int := (FP.fdiv (FP.l2f (Int64.ofInt k)) 1232348160).toInt32.toInt
def rtA (F : Nat → Int) (P : Nat) (s : Nat → Nat) (i : Int) : Int := if 0 ≤ i ∧ i < P then rtB (1000000000 - stp F (s i.toNat)) else -1
theorem quof_cs {k : Int} (hk : rL k) : FP.fdiv (FP.l2f (Int64.ofInt k)) 1232348160 = FP.fconst0 ∨ ∃ s c q, FP.fdiv (FP.l2f (Int64.ofInt k)) 1232348160 = flt s c q ∧ Nrf c q ∧ -60 ≤ q ∧ q ≤ 40 := by
  by_cases z : k = 0
  · subst z
    exact Or.inl fquo_zero
  · exact Or.inr (quof_nrm (by rw [toL hk]; exact z))
theorem n32_cs {x : UInt32} (hx : x = FP.fconst0 ∨ ∃ s c q, x = flt s c q ∧ Nrf c q ∧ -60 ≤ q ∧ q ≤ 40) : FP.Core.val32 x ≠ .nan := by
  rcases hx with rfl | ⟨s, c, q, rfl, h, -⟩
  · rw [val_f0]; exact fun z => by cases z
  · rw [val_flt h]; exact fun z => by cases z
theorem x_rate {i : Int} {Pq : Int → Nm → Ge → Prop} (hX : XS N g d) (ri : rI i) (hq1 : N 0 0 9 = 1 ∧ 0 ≤ i → ∀ P s, Ps (LF d (dB d) 6) P s → ∀ N' g', XT N g d N' g' → Pq (rtA (LF d (dB d) 6) P s i) N' g') (hq0 : ¬ (N 0 0 9 = 1 ∧ 0 ≤ i) → Pq (-1) N g) : Ck K YX9_rate hX9_rate [vr 0 0, vi i] N g (qI Pq) := by
  have h01 := hX.1
  refine Ck.intro 0 (by decide) rfl ?_
  show AW _ _ _ _ _ [some (vr 0 0), some (vi i)] _ _ _
  have t23 : ∀ N1 g1, (Pq (-1) N1 g1) → AW K YX9_rate hX9_rate (qI Pq) 23 [some (vr 0 0), some (vi i)] [] N1 g1 := by
    intro N1 g1 hp
    refine r_iconst iX9_rate_23 ?_
    refine t_int rfl iX9_rate_24 ?_
    exact hp
  refine ld_a0 iX9_rate_0 ?_
  refine gf_X9_hasDesk kFX9_65 iX9_rate_1 ?_
  refine r_ifeq iX9_rate_4 (by omega) (fun h4 => ?_) (fun h4 => ?_)
  · first
      | exact t23 _ _ y
      | exact t23 _ _ (hq0 (by omega))
  · refine ld_i1 iX9_rate_7 ?_
    refine r_iflt iX9_rate_8 (by omega) (fun h8 => ?_) (fun h8 => ?_)
    · first
        | exact t23 _ _ y
        | exact t23 _ _ (hq0 (by omega))
    · refine ld_i1 iX9_rate_11 ?_
      refine ld_a0 iX9_rate_12 ?_
      refine r_iconst iX9_rate_13 ?_
      refine xX9_line kMX9_100 iX9_rate_14 (by decide) (Nat.le_of_ble_eq_true rfl) rfl rfl ?_
      refine c_xline (of := -1) hX (by omega) (by omega) (fun N1 g1 P s G f1 f2 f3 f4 => ?_)
      obtain ⟨hps, hg⟩ := f3.2.2.2.2.2.st f4
      have hP := hps.P_le
      have f9 : N1 0 0 9 = 1 := by rw [f1.1 0 0 9 (by omega) (by omega)]; omega
      refine gf_X1_pieces kFX9_104 iX9_rate_17 ?_
      rw [f3.1]
      refine r_icmplt iX9_rate_20 (by omega) (by omega) (fun h20 => ?_) (fun h20 => ?_)
      · refine r_ldc2 (z := 1000000000) kKX9_221 (by decide) iX9_rate_25 ?_
        refine ld_a0 iX9_rate_28 ?_
        refine r_iconst iX9_rate_29 ?_
        refine xX9_line kMX9_100 iX9_rate_30 (by decide) (Nat.le_of_ble_eq_true rfl) rfl rfl ?_
        refine c_xline (of := -1) f1.2.2 f9 (by omega) (fun N2 g2 P2 s2 G2 e1 e2 e3 e4 => ?_)
        obtain ⟨hps2, hg2⟩ := e3.2.2.2.2.2.st e4
        have hPP := (hps.uq hps2).1
        have y := hq1 ⟨by omega, by omega⟩ P2 s2 hps2 N2 g2 (f1.tr e1)
        unfold rtA at y
        rw [if_pos (by omega)] at y
        obtain ⟨n, hn⟩ : ∃ n : Nat, i = n := ⟨i.toNat, by omega⟩
        subst hn
        rw [show ((n : Nat) : Int).toNat = n from rfl] at y
        have hrows := e3.2.1 n (by omega)
        have hgr := e3.2.2.2.1
        have hsl := hps2.lt (show n < P2 by omega)
        have hsb : -1000000000000000000 ≤ stp (LF d (dB d) 6) (s2 n) ∧ stp (LF d (dB d) 6) (s2 n) ≤ 1000000000000000000 := stp_bd (F := LF d (dB d) 6) e3.2.2.2.2.1 hsl
        refine gf_X1_gains kFX9_181 iX9_rate_33 ?_
        refine ld_i1 iX9_rate_36 ?_
        refine al_15 rfl (by omega) (by omega) iX9_rate_37 ?_
        rw [hrows.2.2, hg2 n (by omega), show rwo (-1) = 6 from rfl]
        refine r_lsub iX9_rate_38 ?_
        refine r_l2f iX9_rate_39 ?_
        refine r_ldcf kKX9_229 iX9_rate_40 ?_
        refine r_fdiv rfl (n32_of (n32_cs (quof_cs (k := 1000000000 - stp (LF d (dB d) 6) (s2 n)) ⟨by omega, by omega⟩))) iX9_rate_42 ?_
        refine xX0_ofFloat kMX9_230 iX9_rate_43 (by decide) (Nat.le_of_ble_eq_true rfl) rfl rfl ?_
        refine c_ofFloat (quof_cs ⟨by omega, by omega⟩) ?_
        refine t_int rfl iX9_rate_46 ?_
        exact y
      · have y := hq1 ⟨by omega, by omega⟩ P s hps N1 g1 f1
        unfold rtA at y
        rw [if_neg (by omega)] at y
        first
          | exact t23 _ _ y
          | exact t23 _ _ (hq0 (by omega))
theorem c_dNaN {x : UInt64} {Pq : Int → Nm → Ge → Prop} (hq1 : FP.Core.val64 x = .nan → Pq 1 N g) (hq0 : FP.Core.val64 x ≠ .nan → Pq 0 N g) : Ck K YJxe99ae_isNaN_b9ae7 hJxe99ae_isNaN_b9ae7 [vd x] N g (qI Pq) := by
  refine Ck.introF 0 (by decide +kernel) rfl ?_
  show AW _ _ _ _ _ [some (vd x), none] _ _ _
  by_cases c : FP.Core.val64 x = .nan
  · have hq := hq1 c
    refine ld_d0 iJxe99ae_isNaN_b9ae7_0 ?_
    refine ld_d0 iJxe99ae_isNaN_b9ae7_1 ?_
    refine r_dcmpN ((FP.Core.dcmp_none x x).mpr (Or.inl c)) iJxe99ae_isNaN_b9ae7_2 ?_
    refine r_ifeq iJxe99ae_isNaN_b9ae7_3 (by omega) (fun h3 => ?_) (fun h3 => ?_)
    · exfalso; omega
    · refine r_iconst iJxe99ae_isNaN_b9ae7_6 ?_
      refine r_goto iJxe99ae_isNaN_b9ae7_7 ?_
      refine t_bool rfl (by omega) iJxe99ae_isNaN_b9ae7_11 ?_
      exact hq
  · have hq := hq0 c
    refine ld_d0 iJxe99ae_isNaN_b9ae7_0 ?_
    refine ld_d0 iJxe99ae_isNaN_b9ae7_1 ?_
    refine r_dcmpE (FP.Core.dcmp_self c) iJxe99ae_isNaN_b9ae7_2 ?_
    refine r_ifeq iJxe99ae_isNaN_b9ae7_3 (by omega) (fun h3 => ?_) (fun h3 => ?_)
    · refine r_iconst iJxe99ae_isNaN_b9ae7_10 ?_
      refine t_bool rfl (by omega) iJxe99ae_isNaN_b9ae7_11 ?_
      exact hq
    · exfalso; omega
theorem c_dBits {x : UInt64} {Pq : Int → Nm → Ge → Prop} (hq1 : FP.Core.val64 x = .nan → Pq 9221120237041090560 N g) (hq0 : FP.Core.val64 x ≠ .nan → Pq x.toInt64.toInt N g) : Ck K YJxe99ae_doubleToLongBits_ccdee hJxe99ae_doubleToLongBits_ccdee [vd x] N g (qL Pq) := by
  refine Ck.introF 0 (by decide +kernel) rfl ?_
  show AW _ _ _ _ _ [some (vd x), none] _ _ _
  by_cases c : FP.Core.val64 x = .nan
  · have hq := hq1 c
    refine ld_d0 iJxe99ae_doubleToLongBits_ccdee_0 ?_
    refine xJxe99ae_isNaN_b9ae7 kMJxe99ae_122 iJxe99ae_doubleToLongBits_ccdee_1 (by decide) (Nat.le_of_ble_eq_true rfl) rfl rfl ?_
    refine c_dNaN (fun _ => ?_) (fun z => absurd c z)
    refine r_ifne iJxe99ae_doubleToLongBits_ccdee_4 (by omega) (fun h4 => ?_) (fun h4 => ?_)
    · refine r_ldc2 (z := 9221120237041090560) kKJxe99ae_137 (by decide) iJxe99ae_doubleToLongBits_ccdee_12 ?_
      refine t_long rfl iJxe99ae_doubleToLongBits_ccdee_15 ?_
      exact hq
    · exfalso; omega
  · have hq := hq0 c
    refine ld_d0 iJxe99ae_doubleToLongBits_ccdee_0 ?_
    refine xJxe99ae_isNaN_b9ae7 kMJxe99ae_122 iJxe99ae_doubleToLongBits_ccdee_1 (by decide) (Nat.le_of_ble_eq_true rfl) rfl rfl ?_
    refine c_dNaN (fun z => absurd z c) (fun _ => ?_)
    refine r_ifne iJxe99ae_doubleToLongBits_ccdee_4 (by omega) (fun h4 => ?_) (fun h4 => ?_)
    · exfalso; omega
    · refine ld_d0 iJxe99ae_doubleToLongBits_ccdee_7 ?_
      refine r_raw64 rfl (by decide) (by decide) iJxe99ae_doubleToLongBits_ccdee_8 ?_
      refine t_long rfl iJxe99ae_doubleToLongBits_ccdee_11 ?_
      exact hq
theorem c_fNaN {x : UInt32} {Pq : Int → Nm → Ge → Prop} (c : FP.Core.val32 x ≠ .nan) (hq : Pq 0 N g) : Ck K YJxf58ca_isNaN_12338 hJxf58ca_isNaN_12338 [vf x] N g (qI Pq) := by
  refine Ck.introF 0 (by decide +kernel) rfl ?_
  show AW _ _ _ _ _ [some (vf x)] _ _ _
  refine ld_f0 iJxf58ca_isNaN_12338_0 ?_
  refine ld_f0 iJxf58ca_isNaN_12338_1 ?_
  refine r_fcmpE (FP.Core.fcmp_self c) iJxf58ca_isNaN_12338_2 ?_
  refine r_ifeq iJxf58ca_isNaN_12338_3 (by omega) (fun h3 => ?_) (fun h3 => ?_)
  · refine r_iconst iJxf58ca_isNaN_12338_10 ?_
    refine t_bool rfl (by omega) iJxf58ca_isNaN_12338_11 ?_
    exact hq
  · exfalso; omega
theorem c_fBits {x : UInt32} {Pq : Int → Nm → Ge → Prop} (c : FP.Core.val32 x ≠ .nan) (hq : Pq x.toInt32.toInt N g) : Ck K YJxf58ca_floatToIntBits_5c35a hJxf58ca_floatToIntBits_5c35a [vf x] N g (qI Pq) := by
  refine Ck.introF 0 (by decide +kernel) rfl ?_
  show AW _ _ _ _ _ [some (vf x)] _ _ _
  refine ld_f0 iJxf58ca_floatToIntBits_5c35a_0 ?_
  refine xJxf58ca_isNaN_12338 kMJxf58ca_59 iJxf58ca_floatToIntBits_5c35a_1 (by decide) (Nat.le_of_ble_eq_true rfl) rfl rfl ?_
  refine c_fNaN c ?_
  refine r_ifne iJxf58ca_floatToIntBits_5c35a_4 (by omega) (fun h4 => ?_) (fun h4 => ?_)
  · exfalso; omega
  · refine ld_f0 iJxf58ca_floatToIntBits_5c35a_7 ?_
    refine r_raw32 rfl (by decide) (by decide) iJxf58ca_floatToIntBits_5c35a_8 ?_
    refine t_int rfl iJxf58ca_floatToIntBits_5c35a_11 ?_
    exact hq
/-- what the reference's quotient is, whatever was drawn -/
theorem av_any {k v : Int} (rk : rL k) (hv : 0 ≤ v ∧ rL v) {r : UInt64} (h : alike64 r (FP.ddiv (FP.l2d (Int64.ofInt k)) (FP.l2d (Int64.ofInt v))) = true) : (FP.Core.val64 r = .nan → avB k v = 9221120237041090560) ∧ (FP.Core.val64 r ≠ .nan → avB k v = r.toInt64.toInt) := by
  unfold alike64 at h
  rw [Bool.or_eq_true, decide_eq_true_iff, Bool.and_eq_true] at h
  unfold avB
  by_cases z : v = 0
  · subst z
    rw [if_pos rfl]
    by_cases y : k = 0
    · subst y
      rw [if_pos rfl]
      refine ⟨fun _ => rfl, fun hn => absurd ?_ hn⟩
      rcases h with h | h
      · rw [h]; exact quo_nan
      · exact nan_of h.1
    · have hi := quo_inf (a := Int64.ofInt k) (by rw [toL rk]; exact y)
      rw [toL rk] at hi
      rw [if_neg y]
      have hne : FP.Core.val64 (FP.ddiv (FP.l2d (Int64.ofInt k)) (FP.l2d (Int64.ofInt 0))) ≠ .nan := by
        rw [hi]
        by_cases c1 : k < 0
        · rw [if_pos c1]; decide +kernel
        · rw [if_neg c1]; decide +kernel
      have hr : r = FP.ddiv (FP.l2d (Int64.ofInt k)) (FP.l2d (Int64.ofInt 0)) := by
        rcases h with h | h
        · exact h
        · exact absurd (nan_of h.2) hne
      rw [hr]
      refine ⟨fun hn => absurd hn hne, fun _ => ?_⟩
      rw [hi]
      by_cases c1 : k < 0
      · rw [if_pos c1, if_pos c1]; decide +kernel
      · rw [if_neg c1, if_neg c1]; decide +kernel
  · rw [if_neg z]
    have hcs := quo_cs rk ⟨show 0 < v by omega, hv.2⟩
    have hne : FP.Core.val64 (FP.ddiv (FP.l2d (Int64.ofInt k)) (FP.l2d (Int64.ofInt v))) ≠ .nan := by
      rcases hcs with e | ⟨s, c, q, e, hn, -⟩
      · rw [e, val_0]; exact fun z => by cases z
      · rw [e, val_dbl hn]; exact fun z => by cases z
    have hr : r = FP.ddiv (FP.l2d (Int64.ofInt k)) (FP.l2d (Int64.ofInt v)) := by
      rcases h with h | h
      · exact h
      · exact absurd (nan_of h.2) hne
    rw [hr]
    exact ⟨fun hn => absurd hn hne, fun _ => rfl⟩
theorem m_average {w : Int} {Pq : Int → Nm → Ge → Prop} (hM : MS N d) (rw' : rI w) (hq1 : N 40 0 22 = 1 ∧ (0 ≤ w ∧ w ≤ 9999) → ∀ N', FrV N N' → Pq (avB (w * 1000000000 - paid d (dB d) (-1) 0 w) (w * 1000000000)) N' g) (hq0 : ¬ (N 40 0 22 = 1 ∧ (0 ≤ w ∧ w ≤ 9999)) → ∀ N', FrV N N' → Pq HID N' g) : Ck K YX10_average hX10_average [vr 40 0, vi w] N g (qL Pq) := by
  refine Ck.intro 0 (by decide) rfl ?_
  show AW _ _ _ _ _ [some (vr 40 0), some (vi w)] _ _ _
  have t36 : ∀ (z : Int) N2, Pq z N2 g → AW K YX10_average hX10_average (qL Pq) 36 [some (vr 40 0), some (vi w)] [vl z] N2 g := by
    intro z N2 hz
    refine t_long rfl iX10_average_36 ?_
    exact hz
  refine ld_a0 iX10_average_0 ?_
  refine r_iconst iX10_average_1 ?_
  refine pf_X10_thrown kFX10_72 iX10_average_2 ?_
  obtain ⟨N1, hN1, f0⟩ : ∃ N1, N1 = upN N 40 0 0 0 ∧ FrV N N1 := ⟨_, rfl, thr_v N⟩
  rw [← hN1]
  clear hN1
  have hM1 := hM.v f0
  have h22 : N1 40 0 22 = N 40 0 22 := f0 40 0 22 (by omega) (by omega)
  have h01 := hM1.1
  refine ld_a0 iX10_average_5 ?_
  refine ld_i1 iX10_average_6 ?_
  refine xX10_isWage kMX10_251 iX10_average_7 (by decide) (Nat.le_of_ble_eq_true rfl) rfl rfl ?_
  refine c_mIsWage hM1 rw' ?_
  refine r_ifeq iX10_average_10 (by exact tf_r _) (fun h10 => ?_) (fun h10 => ?_)
  · have h10 := tf_n h10
    refine r_ldc2 (z := -9000000000000000000) kKX10_254 (by decide) iX10_average_33 ?_
    first
      | exact t36 _ _ y
      | exact t36 _ _ (hq0 (by omega) _ f0)
  · have h10 := tf_y h10
    have hW := (hM1.2.2 h10.1).1
    have hpb := paid_bd hW (b := dB d) (hd := -1) (hv := 0) (w := w) hW.2.1 h10.2 (fun a _ z => by omega)
    refine ld_a0 iX10_average_13 ?_
    refine ld_i1 iX10_average_14 ?_
    refine xX10_keptAt kMX10_267 iX10_average_15 (by decide) (Nat.le_of_ble_eq_true rfl) rfl rfl ?_
    refine c_mKept hM1 h10.1 h10.2 (fun N2 e1 => ?_)
    refine r_l2d iX10_average_18 ?_
    refine ld_i1 iX10_average_19 ?_
    refine r_i2l (by omega) iX10_average_20 ?_
    refine r_ldc2 (z := 1000000000) kKX10_178 (by decide) iX10_average_21 ?_
    refine r_lmul iX10_average_24 ?_
    refine r_l2d iX10_average_25 ?_
    refine r_ddivD iX10_average_26 (fun r hr => ?_)
    obtain ⟨av1, av0⟩ := av_any (k := w * 1000000000 - paid d (dB d) (-1) 0 w) (v := w * 1000000000) ⟨by omega, by omega⟩ ⟨by omega, by omega, by omega⟩ hr
    have y := hq1 ⟨by omega, h10.2⟩ _ (f0.tr (e1.v (by omega) (by omega)))
    refine xJxe99ae_doubleToLongBits_ccdee kMX10_270 iX10_average_27 (by decide) (Nat.le_of_ble_eq_true rfl) rfl rfl ?_
    refine c_dBits (fun hn => ?_) (fun hn => ?_)
    · refine r_goto iX10_average_30 (t36 _ _ ?_)
      rw [← av1 hn]; exact y
    rw [← av0 hn]
    refine r_goto iX10_average_30 ?_
    first
      | exact t36 _ _ y
      | exact t36 _ _ (hq0 (by omega) _ f0)
theorem m_rate {i : Int} {Pq : Int → Nm → Ge → Prop} (hM : MS N d) (ri : rI i) (hq1 : N 40 0 22 = 1 → ∀ P s, Ps (LF d (dB d) 6) P s → ∀ N', FrV N N' → Pq (rtA (LF d (dB d) 6) P s i) N' g) (hq0 : ¬ N 40 0 22 = 1 → ∀ N', FrV N N' → Pq (-1) N' g) : Ck K YX10_rate hX10_rate [vr 40 0, vi i] N g (qI Pq) := by
  refine Ck.intro 2 (by decide) rfl ?_
  show AW _ _ _ _ _ [some (vr 40 0), some (vi i), none, none] _ _ _
  have t29 : ∀ N1, (Pq (-1) N1 g) → AW K YX10_rate hX10_rate (qI Pq) 29 [some (vr 40 0), some (vi i), none, none] [] N1 g := by
    intro N1 hp
    refine r_iconst iX10_rate_29 ?_
    refine t_int rfl iX10_rate_30 ?_
    exact hp
  refine ld_a0 iX10_rate_0 ?_
  refine r_iconst iX10_rate_1 ?_
  refine pf_X10_thrown kFX10_72 iX10_rate_2 ?_
  obtain ⟨N1, hN1, f0⟩ : ∃ N1, N1 = upN N 40 0 0 0 ∧ FrV N N1 := ⟨_, rfl, thr_v N⟩
  rw [← hN1]
  clear hN1
  have hM1 := hM.v f0
  have h22 : N1 40 0 22 = N 40 0 22 := f0 40 0 22 (by omega) (by omega)
  have h01 := hM1.1
  refine ld_a0 iX10_rate_5 ?_
  refine gf_X10_isDesk kFX10_165 iX10_rate_6 ?_
  refine r_ifeq iX10_rate_9 (by omega) (fun h9 => ?_) (fun h9 => ?_)
  · first
      | exact t29 _ y
      | exact t29 _ (hq0 (by omega) _ f0)
  · refine ld_i1 iX10_rate_12 ?_
    refine r_i2l (by omega) iX10_rate_13 ?_
    refine r_lconst (v := 0) (by decide) iX10_rate_14 ?_
    refine ld_a0 iX10_rate_15 ?_
    refine r_iconst iX10_rate_16 ?_
    refine xX10_piecesOf kMX10_233 iX10_rate_17 (by decide) (Nat.le_of_ble_eq_true rfl) rfl rfl ?_
    refine c_piecesOf (of := -1) hM1 (by omega) (by omega) (fun N2 P s e1 e2 e3 e4 => ?_)
    have hPl := e4.P_le
    have y := hq1 (by omega) P s e4 N2 (f0.tr e1)
    unfold rtA at y
    refine r_iconst iX10_rate_20 ?_
    refine r_isub iX10_rate_21 ?_
    refine r_i2l (by omega) iX10_rate_22 ?_
    refine xX10_in kMX10_82 iX10_rate_23 (by decide) (Nat.le_of_ble_eq_true rfl) rfl rfl ?_
    refine c_in (by omega) (by omega) (by omega) ?_
    refine r_ifne iX10_rate_26 (by exact tf_r _) (fun h26 => ?_) (fun h26 => ?_)
    · have h26 := tf_y h26
      rw [if_pos (by omega)] at y
      obtain ⟨n, hn⟩ : ∃ n : Nat, i = n := ⟨i.toNat, by omega⟩
      subst hn
      rw [show ((n : Nat) : Int).toNat = n from rfl] at y
      have hsl := e4.lt (show n < P by omega)
      have hsb : -1000000000000000000 ≤ stp (LF d (dB d) 6) (s n) ∧ stp (LF d (dB d) 6) (s n) ≤ 1000000000000000000 := stp_bd (F := LF d (dB d) 6) e2.bd hsl
      refine r_ldc2 (z := 1000000000) kKX10_178 (by decide) iX10_rate_31 ?_
      refine ld_a0 iX10_rate_34 ?_
      refine ld_a0 iX10_rate_35 ?_
      refine gf_X10_pieceFrom kFX10_66 iX10_rate_36 ?_
      refine ld_i1 iX10_rate_39 ?_
      refine al_58 rfl (by omega) iX10_rate_40 ?_
      rw [e3.2 n (by omega)]
      refine xX10_step kMX10_225 iX10_rate_41 (by decide) (Nat.le_of_ble_eq_true rfl) rfl rfl ?_
      refine c_step e2 hsl ?_
      rw [show rwo (-1) = 6 from rfl]
      refine r_lsub iX10_rate_44 ?_
      refine sv_l2 (by decide) rfl iX10_rate_45 ?_
      refine ld_l2 iX10_rate_46 ?_
      refine r_l2f iX10_rate_47 ?_
      refine r_ldcwf kKX10_276 iX10_rate_48 ?_
      refine r_fdiv rfl (n32_of (n32_cs (quof_cs (k := 1000000000 - stp (LF d (dB d) 6) (s n)) ⟨by omega, by omega⟩))) iX10_rate_51 ?_
      refine xJxf58ca_floatToIntBits_5c35a kMX10_277 iX10_rate_52 (by decide) (Nat.le_of_ble_eq_true rfl) rfl rfl ?_
      refine c_fBits (n32_cs (quof_cs ⟨by omega, by omega⟩)) ?_
      refine t_int rfl iX10_rate_55 ?_
      exact y
    · have h26 := tf_n h26
      rw [if_neg (by omega)] at y
      first
        | exact t29 _ y
        | exact t29 _ (hq0 (by omega) _ f0)
end Dbl8
