/-! own text: Long.signum, Math.floorDiv -/
section RowsX
variable {K : Kx} {Y : Ys} {h : Nat} {Q : Qt} {pc pc' : Nat} {ls : List (Option AV)} {st : List AV} {N : Nm} {g : Ge}
theorem r_lshr {a b z : Int} (hz : Int64.ofInt a >>> ((Int32.ofInt b).toInt64 &&& 63) = Int64.ofInt z) (hat : At Y pc (.lshr) 1 pc') (kk : AW K Y h Q pc' ls (vl z :: st) N g) : AW K Y h Q pc ls (vi b :: vl a :: st) N g := by
  obtain ⟨d, rfl⟩ := hat
  refine AW.pure kk (fun h1 h2 => ⟨h1, oks_cons trivial (oks_tl (oks_tl h2))⟩) (fun p l e R s m args below meth c H locs cells slots Qs ad L hx hb _ _ hL k => ?_)
  exact lv_lshr hx hb d hz (k L hL)
theorem r_lushr {a b z : Int} (hz : ((Int64.ofInt a).toUInt64 >>> ((Int32.ofInt b).toInt64.toUInt64 &&& Int64.toUInt64 63)).toInt64 = Int64.ofInt z) (hat : At Y pc (.lushr) 1 pc') (kk : AW K Y h Q pc' ls (vl z :: st) N g) : AW K Y h Q pc ls (vi b :: vl a :: st) N g := by
  obtain ⟨d, rfl⟩ := hat
  refine AW.pure kk (fun h1 h2 => ⟨h1, oks_cons trivial (oks_tl (oks_tl h2))⟩) (fun p l e R s m args below meth c H locs cells slots Qs ad L hx hb _ _ hL k => ?_)
  exact lv_lushr hx hb d hz (k L hL)
end RowsX
theorem shr63 {a : Int} (ha : rL a) : Int64.ofInt a >>> ((Int32.ofInt 63).toInt64 &&& 63) = Int64.ofInt (if a < 0 then -1 else 0) := by
  apply Int64.toInt_inj.mp
  have e : (Int64.ofInt a >>> ((Int32.ofInt 63).toInt64 &&& 63)).toInt = (Int64.ofInt a).toInt >>> (63 : Nat) := by
    show ((Int64.ofInt a).toBitVec.sshiftRight' _).toInt = _
    rw [BitVec.sshiftRight', BitVec.toInt_sshiftRight]
    rfl
  rw [e, toL ha, Int.shiftRight_eq_div_pow]
  split
  · rw [show (Int64.ofInt (-1)).toInt = -1 from rfl]; omega
  · rw [show (Int64.ofInt 0).toInt = 0 from rfl]; omega
theorem uN_ofL (a : Int) : (Int64.ofInt a).toUInt64.toNat = (a % 18446744073709551616).toNat := by
  show (BitVec.ofInt 64 a).toNat = _
  rw [BitVec.toNat_ofInt]
  rfl
theorem ushr63 {a : Int} (ha : rL a) : ((Int64.ofInt a).toUInt64 >>> ((Int32.ofInt 63).toInt64.toUInt64 &&& Int64.toUInt64 63)).toInt64 = Int64.ofInt (if a < 0 then 1 else 0) := by
  have h : ((Int32.ofInt 63).toInt64.toUInt64 &&& Int64.toUInt64 63).toNat % 64 = 63 := by decide
  have e : ((Int64.ofInt a).toUInt64 >>> ((Int32.ofInt 63).toInt64.toUInt64 &&& Int64.toUInt64 63)).toNat = (Int64.ofInt a).toUInt64.toNat / 2 ^ 63 := by
    rw [UInt64.toNat_shiftRight, Nat.shiftRight_eq_div_pow, h]
  have e2 : ((Int64.ofInt a).toUInt64 >>> ((Int32.ofInt 63).toInt64.toUInt64 &&& Int64.toUInt64 63)) = (Int64.ofInt (if a < 0 then 1 else 0)).toUInt64 := by
    apply UInt64.toNat_inj.mp
    rw [e, uN_ofL, uN_ofL]
    split <;> omega
  rw [e2]
  rfl
theorem tmod_bd (a b : Int) : -(a.natAbs : Int) ≤ a.tmod b ∧ a.tmod b ≤ a.natAbs := by
  have h := Int.natAbs_tmod a b
  have h2 := Nat.mod_le a.natAbs b.natAbs
  omega
theorem tmod_sg (a b : Int) : (0 ≤ a → 0 ≤ a.tmod b) ∧ (a ≤ 0 → a.tmod b ≤ 0) := by
  refine ⟨fun h => Int.tmod_nonneg b h, fun h => ?_⟩
  have := Int.tmod_nonneg b (show 0 ≤ -a by omega)
  rw [Int.neg_tmod] at this
  omega
section Sig
variable {K : Kx} {N : Nm} {g : Ge}
theorem c_signum {a : Int} {P : Int → Nm → Ge → Prop} (ha : rL a ∧ rL (-a)) (hq : P (if a < 0 then -1 else if 0 < a then 1 else 0) N g) : Ck K YJ13_signum_95d88 hJ13_signum_95d88 [vl a] N g (qI P) := by
  refine Ck.introF 0 (by decide +kernel) rfl ?_
  show AW _ _ _ _ _ [some (vl a), none] _ _ _
  have hor : Int64.ofInt (if a < 0 then -1 else 0) ||| Int64.ofInt (if -a < 0 then 1 else 0) = Int64.ofInt (if a < 0 then -1 else if 0 < a then 1 else 0) := by
    rcases Int.lt_trichotomy a 0 with q | q | q
    · rw [if_pos q, if_neg (by omega), if_pos q]; rfl
    · rw [if_neg (by omega), if_neg (by omega), if_neg (by omega), if_neg (by omega)]; rfl
    · rw [if_neg (by omega), if_pos (by omega), if_neg (by omega), if_pos q]; rfl
  refine ld_l0 iJ13_signum_95d88_0 ?_
  refine r_bipush (by decide) iJ13_signum_95d88_1 ?_
  refine r_lshr (shr63 ha.1) iJ13_signum_95d88_3 ?_
  refine ld_l0 iJ13_signum_95d88_4 ?_
  refine r_lneg iJ13_signum_95d88_5 ?_
  refine r_bipush (by decide) iJ13_signum_95d88_6 ?_
  refine r_lushr (ushr63 ha.2) iJ13_signum_95d88_8 ?_
  refine r_lor hor iJ13_signum_95d88_9 ?_
  refine r_l2i iJ13_signum_95d88_10 ?_
  refine t_int rfl iJ13_signum_95d88_11 ?_
  exact hq
theorem xor_neg {a b : Int} (ha : rL a) (hb : 0 < b ∧ b ≤ 9223372036854775807) : ((Int64.ofInt a ^^^ Int64.ofInt b).toInt < 0 ↔ a < 0) := by
  have hm : ∀ x : Int64, x.toInt < 0 ↔ x.toBitVec.msb = true := fun x => by
    show x.toBitVec.toInt < 0 ↔ _
    rw [BitVec.msb_eq_toInt]; simp
  rw [hm, show (Int64.ofInt a ^^^ Int64.ofInt b).toBitVec = (Int64.ofInt a).toBitVec ^^^ (Int64.ofInt b).toBitVec from rfl, BitVec.msb_xor]
  have h1 := hm (Int64.ofInt a)
  have h2 := hm (Int64.ofInt b)
  rw [toL ha] at h1
  rw [toL (by omega)] at h2
  have h3 : (Int64.ofInt b).toBitVec.msb = false := by
    cases h : (Int64.ofInt b).toBitVec.msb
    · rfl
    · have := h2.mpr h; omega
  rw [h3, h1]; simp
theorem c_floorDiv {a b : Int} {P : Int → Nm → Ge → Prop} (ha : rL a) (hb : 0 < b ∧ b ≤ 1000000) (hq : P (a / b) N g) : Ck K YJ9_floorDiv_f86c9 hJ9_floorDiv_f86c9 [vl a, vl b] N g (qL P) := by
  refine Ck.introF 2 (by decide +kernel) rfl ?_
  show AW _ _ _ _ _ [some (vl a), none, some (vl b), none, none, none] _ _ _
  have hx := xor_neg ha (b := b) (by omega)
  have hxr := rL_of (Int64.ofInt a ^^^ Int64.ofInt b)
  have ht := Int.tmod_add_mul_tdiv a b
  have ht1 := Int.tmod_lt_of_pos a hb.1
  have ht2 := Int.lt_tmod_of_pos a hb.1
  have he := Int.emod_add_mul_ediv a b
  have he1 := Int.emod_lt_of_pos a hb.1
  have he2 := Int.emod_nonneg a (show b ≠ 0 by omega)
  have htd : rL (a.tdiv b * b) := by
    rw [Int.mul_comm] at ht
    have y1 := tmod_bd a b
    have y2 := tmod_sg a b
    omega
  have pos : 0 ≤ a → a.tdiv b = a / b := fun h => Int.tdiv_eq_ediv_of_nonneg h
  have neg : a < 0 → a.tmod b ≠ 0 → a.tdiv b - 1 = a / b := fun h h0 => by
    have hs : a.tmod b ≤ 0 := (tmod_sg a b).2 (by omega)
    have e1 : b * (a.tdiv b - 1 - a / b) = (a % b) - (a.tmod b + b) := by rw [Int.mul_sub, Int.mul_sub, Int.mul_one]; omega
    have e2 : -b < b * (a.tdiv b - 1 - a / b) ∧ b * (a.tdiv b - 1 - a / b) < b := by omega
    rcases Int.lt_trichotomy (a.tdiv b - 1 - a / b) 0 with q | q | q
    · have := Int.mul_le_mul_of_nonneg_left (show a.tdiv b - 1 - a / b ≤ -1 by omega) (show 0 ≤ b by omega)
      omega
    · omega
    · have := Int.mul_le_mul_of_nonneg_left (show 1 ≤ a.tdiv b - 1 - a / b by omega) (show 0 ≤ b by omega)
      omega
  have zero : a.tmod b = 0 → a.tdiv b = a / b := fun h0 => by
    have e1 : b * (a.tdiv b - a / b) = a % b := by rw [Int.mul_sub]; omega
    rcases Int.lt_trichotomy (a.tdiv b - a / b) 0 with q | q | q
    · have := Int.mul_le_mul_of_nonneg_left (show a.tdiv b - a / b ≤ -1 by omega) (show 0 ≤ b by omega)
      omega
    · omega
    · have := Int.mul_le_mul_of_nonneg_left (show 1 ≤ a.tdiv b - a / b by omega) (show 0 ≤ b by omega)
      omega
  have hc : b * a.tdiv b = a.tdiv b * b := Int.mul_comm _ _
  refine ld_l0 iJ9_floorDiv_f86c9_0 ?_
  refine ld_l2 iJ9_floorDiv_f86c9_1 ?_
  refine r_ldiv (by omega) (by omega) (by omega) iJ9_floorDiv_f86c9_2 ?_
  refine sv_l4 (by decide) rfl iJ9_floorDiv_f86c9_3 ?_
  refine ld_l0 iJ9_floorDiv_f86c9_5 ?_
  refine ld_l2 iJ9_floorDiv_f86c9_6 ?_
  refine r_lxor (z := (Int64.ofInt a ^^^ Int64.ofInt b).toInt) (ofL _).symm iJ9_floorDiv_f86c9_7 ?_
  refine r_lconst (v := 0) (by decide) iJ9_floorDiv_f86c9_8 ?_
  refine r_lcge iJ9_floorDiv_f86c9_9 iJ9_floorDiv_f86c9_10 (by omega) (by omega) (fun h9 => ?_) (fun h9 => ?_)
  · refine ld_l4 iJ9_floorDiv_f86c9_27 ?_
    refine t_long rfl iJ9_floorDiv_f86c9_29 ?_
    first
      | exact pz hq (pos (Int.not_lt.mp (fun z => absurd (hx.mpr z) (by omega))))
      | exact pz hq (zero (by omega))
  · refine ld_l4 iJ9_floorDiv_f86c9_13 ?_
    refine ld_l2 iJ9_floorDiv_f86c9_15 ?_
    refine r_lmul iJ9_floorDiv_f86c9_16 ?_
    refine ld_l0 iJ9_floorDiv_f86c9_17 ?_
    refine r_lceq iJ9_floorDiv_f86c9_18 iJ9_floorDiv_f86c9_19 (by omega) (by omega) (fun h18 => ?_) (fun h18 => ?_)
    · refine ld_l4 iJ9_floorDiv_f86c9_27 ?_
      refine t_long rfl iJ9_floorDiv_f86c9_29 ?_
      first
        | exact pz hq (pos (Int.not_lt.mp (fun z => absurd (hx.mpr z) (by omega))))
        | exact pz hq (zero (by omega))
    · refine ld_l4 iJ9_floorDiv_f86c9_22 ?_
      refine r_lconst (v := 1) (by decide) iJ9_floorDiv_f86c9_24 ?_
      refine r_lsub iJ9_floorDiv_f86c9_25 ?_
      refine t_long rfl iJ9_floorDiv_f86c9_26 ?_
      exact pz hq (neg (hx.mp h9) (by omega))
end Sig
