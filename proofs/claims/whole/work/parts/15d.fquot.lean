/-! own text: quotients of whole numbers as doubles and floats -/
theorem div_ge {f : FP.Core.Fmt} (hf : FP.Core.Good f) {x y Ka Lb K : Nat} (hx : Ka * f.tails ≤ FP.Core.mag f x) (hxf : FP.Core.mag f x < FP.Core.infBits f) (hy : FP.Core.mag f y < Lb * f.tails) (hy0 : FP.Core.mag f y ≠ 0) (hL : Lb ≤ f.exps - 1) (hK1 : 1 ≤ K) (hKe : K ≤ f.exps - 1) (hKa : 1 ≤ Ka)
    (h : K + (f.p - 1) + Lb ≤ Ka + (-f.qmin).toNat + 1) : K * f.tails ≤ FP.Core.mag f (FP.Core.div f x y) := by
  obtain ⟨s, c, q, x1, x2, x3⟩ := FP.Core.fin_of_mag hf hxf
  obtain ⟨t, d, r, y1, y2, y3⟩ := FP.Core.fin_of_mag hf (FP.Core.mag_lt_inf hy hL)
  have hq := FP.Core.qmin_neg hf
  have hd0 : d ≠ 0 := by
    rintro rfl
    have h1 : FP.Core.zmag f (.fin t 0 r) = 0 := Nat.zero_mul _
    rw [h1] at y3
    exact hy0 (FP.Core.unitsOf_eq_zero.mp y3.symm)
  have hd : FP.Core.decode f (FP.Core.div f x y) = FP.Core.roundRatio f (s != t) c d (q - r) := by
    unfold FP.Core.div
    rw [FP.Core.decode_enc hf (FP.Core.quotient_fits hf _ _), x1, y1]
    simp only [FP.Core.quotient, if_neg hd0]
  have hx1 := x2.2.1
  have hy1 := y2.2.1
  refine FP.Core.mag_ge hf hd (by omega) (e0 := 2 * f.qmin - r) (by omega) (by omega) (Nat.mul_le_mul_right _ hKe) ?_
  obtain ⟨k1, l1⟩ := FP.Core.units_lt_start hy
  rw [FP.Core.unitsOf_start hK1]
  have e1 : FP.Core.inUnits c (q - r) (2 * f.qmin - r) = FP.Core.zmag f (.fin s c q) * 2 ^ (-f.qmin).toNat := by
    show c * _ = c * _ * _
    rw [Nat.mul_assoc, ← Nat.pow_add]; congr 2; omega
  have e2 : 2 ^ (f.qmin - (2 * f.qmin - r)).toNat * d = FP.Core.zmag f (.fin t d r) := by
    show _ = d * _
    rw [Nat.mul_comm]; congr 2; omega
  rw [e1, Nat.mul_assoc, e2, x3, y3]
  have l2 : f.tails * 2 ^ (Ka - 1) ≤ FP.Core.unitsOf f (FP.Core.mag f x) := by
    rw [← FP.Core.unitsOf_start hKa]; exact FP.Core.unitsOf_le_iff.mpr hx
  calc f.tails * 2 ^ (K - 1) * FP.Core.unitsOf f (FP.Core.mag f y) ≤ f.tails * 2 ^ (K - 1) * (f.tails * 2 ^ (Lb - 1)) := Nat.mul_le_mul_left _ (Nat.le_of_lt l1)
    _ = f.tails * 2 ^ (K - 1 + (f.p - 1) + (Lb - 1)) := by
      rw [Nat.pow_add, Nat.pow_add, show 2 ^ (f.p - 1) = f.tails from rfl]; ac_rfl
    _ ≤ f.tails * 2 ^ (Ka - 1 + (-f.qmin).toNat) := Nat.mul_le_mul_left _ (Nat.pow_le_pow_right (by decide) (by omega))
    _ = f.tails * 2 ^ (Ka - 1) * 2 ^ (-f.qmin).toNat := by rw [Nat.pow_add, Nat.mul_assoc]
    _ ≤ FP.Core.unitsOf f (FP.Core.mag f x) * 2 ^ (-f.qmin).toNat := Nat.mul_le_mul_right _ l2
theorem bits_dbl {x : UInt64} (h1 : 200 * 4503599627370496 ≤ x.toNat % 9223372036854775808) (h2 : x.toNat % 9223372036854775808 < 1900 * 4503599627370496) : ∃ s c q, x = dbl s c q ∧ Nrm c q ∧ q = ((x.toNat % 9223372036854775808 / 4503599627370496 : Nat) : Int) - 1075 := by
  have hm : FP.Core.mag FP.Core.b64 x.toNat = x.toNat % 9223372036854775808 := FP.Core.mag_toNat64 x
  have hv : FP.Core.val64 x = .fin (FP.Core.fieldS FP.Core.b64 x.toNat) (4503599627370496 + x.toNat % 9223372036854775808 % 4503599627370496) (-1074 + (((x.toNat % 9223372036854775808 / 4503599627370496 : Nat) : Int) - 1)) := by
    show FP.Core.decode FP.Core.b64 x.toNat = _
    unfold FP.Core.decode
    rw [FP.Core.fieldE_mag, FP.Core.fieldT_mag, hm, FP.Core.qmin_b64]
    rw [show FP.Core.b64.tails = 4503599627370496 by decide, show FP.Core.b64.exps = 2048 by decide]
    rw [if_neg (show ¬ x.toNat % 9223372036854775808 / 4503599627370496 = 2048 - 1 by omega), if_neg (show ¬ x.toNat % 9223372036854775808 / 4503599627370496 = 0 by omega)]
  have hn : Nrm (4503599627370496 + x.toNat % 9223372036854775808 % 4503599627370496) (-1074 + (((x.toNat % 9223372036854775808 / 4503599627370496 : Nat) : Int) - 1)) := ⟨by omega, by omega, by omega, by omega⟩
  exact ⟨_, _, _, eq_dbl hv hn, hn, by omega⟩
theorem bits_flt {x : UInt32} (h1 : 20 * 8388608 ≤ x.toNat % 2147483648) (h2 : x.toNat % 2147483648 < 240 * 8388608) : ∃ s c q, x = flt s c q ∧ Nrf c q ∧ q = ((x.toNat % 2147483648 / 8388608 : Nat) : Int) - 150 := by
  have hm : FP.Core.mag FP.Core.b32 x.toNat = x.toNat % 2147483648 := FP.Core.mag_toNat32 x
  have hv : FP.Core.val32 x = .fin (FP.Core.fieldS FP.Core.b32 x.toNat) (8388608 + x.toNat % 2147483648 % 8388608) (-149 + (((x.toNat % 2147483648 / 8388608 : Nat) : Int) - 1)) := by
    show FP.Core.decode FP.Core.b32 x.toNat = _
    unfold FP.Core.decode
    rw [FP.Core.fieldE_mag, FP.Core.fieldT_mag, hm, FP.Core.qmin_b32]
    rw [show FP.Core.b32.tails = 8388608 by decide, show FP.Core.b32.exps = 256 by decide]
    rw [if_neg (show ¬ x.toNat % 2147483648 / 8388608 = 256 - 1 by omega), if_neg (show ¬ x.toNat % 2147483648 / 8388608 = 0 by omega)]
  have hn : Nrf (8388608 + x.toNat % 2147483648 % 8388608) (-149 + (((x.toNat % 2147483648 / 8388608 : Nat) : Int) - 1)) := ⟨by omega, by omega, by omega, by omega⟩
  exact ⟨_, _, _, eq_flt hv hn, hn, by omega⟩
theorem quo_nrm {a b : Int64} (ha : a.toInt ≠ 0) (hb : b.toInt ≠ 0) : ∃ s c q, FP.ddiv (FP.l2d a) (FP.l2d b) = dbl s c q ∧ Nrm c q ∧ -140 ≤ q ∧ q ≤ 40 := by
  have a1 : 1023 * 2 ^ 52 ≤ (FP.l2d a).toNat % 2 ^ 63 ∧ (FP.l2d a).toNat % 2 ^ 63 < 2047 * 2 ^ 52 := FP.Core.l2d_big ha
  have a2 : (FP.l2d a).toNat % 2 ^ 63 < 1088 * 2 ^ 52 := FP.Core.l2d_mag a
  have b1 : 1023 * 2 ^ 52 ≤ (FP.l2d b).toNat % 2 ^ 63 ∧ (FP.l2d b).toNat % 2 ^ 63 < 2047 * 2 ^ 52 := FP.Core.l2d_big hb
  have b2 : (FP.l2d b).toNat % 2 ^ 63 < 1088 * 2 ^ 52 := FP.Core.l2d_mag b
  have h1 : (FP.ddiv (FP.l2d a) (FP.l2d b)).toNat % 2 ^ 63 < (1088 + (1074 - 52 - 1) - 1023 + 3) * 2 ^ 52 := FP.Core.ddiv_mag (a := FP.l2d a) (b := FP.l2d b) (K := 1088) (L := 1023) a2 b1.1 b1.2 (by decide) (by decide)
  have h2 : 958 * 4503599627370496 ≤ (FP.ddiv (FP.l2d a) (FP.l2d b)).toNat % 9223372036854775808 := by
    have e : (FP.ddiv (FP.l2d a) (FP.l2d b)).toNat = FP.Core.div FP.Core.b64 (FP.l2d a).toNat (FP.l2d b).toNat := FP.Core.toNat_of64 (FP.Core.quotient_fits FP.Core.good_b64 _ _)
    have := div_ge FP.Core.good_b64 (x := (FP.l2d a).toNat) (y := (FP.l2d b).toNat) (Ka := 1023) (Lb := 1088) (K := 958) (by rw [FP.Core.mag_toNat64, FP.Core.tails_b64]; exact a1.1) (by rw [FP.Core.mag_toNat64, FP.Core.infBits_b64]; omega) (by rw [FP.Core.mag_toNat64, FP.Core.tails_b64]; exact b2) (by rw [FP.Core.mag_toNat64]; omega) (by decide) (by decide) (by decide) (by decide) (by rw [FP.Core.p_b64, FP.Core.qmin_b64]; decide)
    rw [← e, FP.Core.mag_toNat64, FP.Core.tails_b64] at this
    omega
  obtain ⟨s, c, q, e1, e2, e3⟩ := bits_dbl (x := FP.ddiv (FP.l2d a) (FP.l2d b)) (by omega) (by omega)
  exact ⟨s, c, q, e1, e2, by omega, by omega⟩
theorem quof_nrm {a : Int64} (ha : a.toInt ≠ 0) : ∃ s c q, FP.fdiv (FP.l2f a) 1232348160 = flt s c q ∧ Nrf c q ∧ -60 ≤ q ∧ q ≤ 40 := by
  have a1 : 127 * 2 ^ 23 ≤ (FP.l2f a).toNat % 2 ^ 31 ∧ (FP.l2f a).toNat % 2 ^ 31 < 255 * 2 ^ 23 := FP.Core.l2f_big ha
  have a2 : (FP.l2f a).toNat % 2 ^ 31 < 192 * 2 ^ 23 := FP.Core.l2f_mag a
  have eb : (1232348160 : UInt32).toNat = 1232348160 := rfl
  have h1 : (FP.fdiv (FP.l2f a) 1232348160).toNat % 2 ^ 31 < (192 + (149 - 23 - 1) - 146 + 3) * 2 ^ 23 := FP.Core.fdiv_mag (a := FP.l2f a) (b := 1232348160) (K := 192) (L := 146) a2 (by rw [eb]; decide) (by rw [eb]; decide) (by decide) (by decide)
  have h2 : 107 * 8388608 ≤ (FP.fdiv (FP.l2f a) 1232348160).toNat % 2147483648 := by
    have e : (FP.fdiv (FP.l2f a) 1232348160).toNat = FP.Core.div FP.Core.b32 (FP.l2f a).toNat (1232348160 : UInt32).toNat := FP.Core.toNat_of32 (FP.Core.quotient_fits FP.Core.good_b32 _ _)
    have := div_ge FP.Core.good_b32 (x := (FP.l2f a).toNat) (y := (1232348160 : UInt32).toNat) (Ka := 127) (Lb := 147) (K := 107) (by rw [FP.Core.mag_toNat32, FP.Core.tails_b32]; exact a1.1) (by rw [FP.Core.mag_toNat32, FP.Core.infBits_b32]; omega) (by rw [FP.Core.mag_toNat32, FP.Core.tails_b32, eb]; decide) (by rw [FP.Core.mag_toNat32, eb]; decide) (by decide) (by decide) (by decide) (by decide) (by rw [FP.Core.p_b32, FP.Core.qmin_b32]; decide)
    rw [← e, FP.Core.mag_toNat32, FP.Core.tails_b32] at this
    omega
  obtain ⟨s, c, q, e1, e2, e3⟩ := bits_flt (x := FP.fdiv (FP.l2f a) 1232348160) (by omega) (by omega)
  exact ⟨s, c, q, e1, e2, by omega, by omega⟩
theorem val_l0 : FP.Core.val64 (FP.l2d (Int64.ofInt 0)) = .fin false 0 (-1074) := by decide +kernel
theorem sgn_l2d (b : Int64) {s : Bool} {c : Nat} {q : Int} (h : FP.Core.val64 (FP.l2d b) = .fin s c q) : s = decide (b.toInt < 0) := by
  have e : FP.Core.val64 (FP.l2d b) = FP.Core.roundRatio FP.Core.b64 (decide (b.toInt < 0)) b.toInt.natAbs 1 0 := FP.Core.val64_l2d b
  have := FP.Core.sgn_roundRatio FP.Core.b64 (decide (b.toInt < 0)) b.toInt.natAbs 1 0
  rw [← e, h] at this
  exact this
theorem nz_l2d {b : Int64} (hb : b.toInt ≠ 0) {s : Bool} {c : Nat} {q : Int} (h : FP.Core.val64 (FP.l2d b) = .fin s c q) : c ≠ 0 := by
  rintro rfl
  have h1 : (FP.l2d b).toNat % 2 ^ 63 = 0 := (FP.Core.zero_bits2 (FP.l2d b)).mp ⟨s, q, h⟩
  have h2 : 1023 * 2 ^ 52 ≤ (FP.l2d b).toNat % 2 ^ 63 ∧ (FP.l2d b).toNat % 2 ^ 63 < 2047 * 2 ^ 52 := FP.Core.l2d_big hb
  omega
/-- nothing by something -/
theorem quo_zero {b : Int64} (hb : 0 < b.toInt) : FP.ddiv (FP.l2d (Int64.ofInt 0)) (FP.l2d b) = FP.dconst0 := by
  obtain ⟨s, c, q, h⟩ := FP.Core.l2d_fin b
  have hs := sgn_l2d b h
  have hc := nz_l2d (by omega) h
  rw [decide_eq_false (by omega)] at hs
  subst hs
  refine FP.Core.val64_inj ?_ ?_
  · rw [FP.Core.val64_ddiv, val_l0, h]
    have e : FP.Core.quotient FP.Core.b64 (.fin false 0 (-1074)) (.fin false c q) = if c = 0 then FP.Core.Datum.nan else FP.Core.roundRatio FP.Core.b64 (false != false) 0 c (-1074 - q) := rfl
    rw [e, if_neg hc]
    exact fun z => by cases z
  · rw [FP.Core.val64_ddiv, val_l0, h, val_0]
    have e : FP.Core.quotient FP.Core.b64 (.fin false 0 (-1074)) (.fin false c q) = if c = 0 then FP.Core.Datum.nan else FP.Core.roundRatio FP.Core.b64 (false != false) 0 c (-1074 - q) := rfl
    rw [e, if_neg hc]
    rfl
/-- something by nothing -/
theorem quo_inf {a : Int64} (ha : a.toInt ≠ 0) : FP.ddiv (FP.l2d a) (FP.l2d (Int64.ofInt 0)) = (if a.toInt < 0 then 18442240474082181120 else 9218868437227405312) := by
  obtain ⟨s, c, q, h⟩ := FP.Core.l2d_fin a
  have hs := sgn_l2d a h
  have hc := nz_l2d ha h
  have hv : FP.Core.val64 (FP.ddiv (FP.l2d a) (FP.l2d (Int64.ofInt 0))) = .inf s := by
    rw [FP.Core.val64_ddiv, val_l0, h]
    have e : FP.Core.quotient FP.Core.b64 (.fin s c q) (.fin false 0 (-1074)) = if c = 0 then FP.Core.Datum.nan else .inf (s != false) := rfl
    rw [e, if_neg hc]
    cases s <;> rfl
  refine FP.Core.val64_inj (by rw [hv]; exact fun z => by cases z) ?_
  rw [hv, hs]
  by_cases c1 : a.toInt < 0
  · rw [if_pos c1, decide_eq_true c1]; decide +kernel
  · rw [if_neg c1, decide_eq_false c1]; decide +kernel
/-- nothing by nothing -/
theorem quo_nan : FP.Core.val64 (FP.ddiv (FP.l2d (Int64.ofInt 0)) (FP.l2d (Int64.ofInt 0))) = .nan := by decide +kernel
theorem fquo_zero : FP.fdiv (FP.l2f (Int64.ofInt 0)) 1232348160 = FP.fconst0 := by decide +kernel
theorem nan_of {r : UInt64} (h : isNaN64 r = true) : FP.Core.val64 r = .nan := by
  refine Classical.byContradiction (fun hn => ?_)
  have h1 := n64_of hn
  unfold vf_n64 at h1
  unfold isNaN64 at h
  rw [decide_eq_true_iff] at h
  rw [UInt64.le_iff_toNat_le] at h1
  have h2 := UInt64.lt_iff_toNat_lt.mp h
  omega
theorem nan_to {r : UInt64} (h : FP.Core.val64 r = .nan) : isNaN64 r = true := by
  refine Classical.byContradiction (fun hn => ?_)
  have h2 : ¬ FP.Core.val64 r ≠ .nan := fun z => z h
  apply h2
  rw [FP.Core.ne_nan]
  unfold isNaN64 at hn
  rw [decide_eq_true_iff] at hn
  have h3 : ¬ (0x7ff0000000000000 : UInt64).toNat < (r &&& 0x7fffffffffffffff).toNat := fun z => hn (UInt64.lt_iff_toNat_lt.mpr z)
  rw [UInt64.toNat_and] at h3
  have e : r.toNat &&& (0x7fffffffffffffff : UInt64).toNat = r.toNat % 2 ^ 63 := Nat.and_two_pow_sub_one_eq_mod r.toNat 63
  rw [e] at h3
  exact Nat.le_of_not_lt h3
