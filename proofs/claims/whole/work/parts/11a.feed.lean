/-! own text: the tape is fed -/
def byt (w sh : Int) : Int := ((Int32.ofInt w >>> (Int32.ofInt sh &&& 31)) &&& 255).toInt
theorem byt_r (w sh : Int) : 0 ≤ byt w sh ∧ byt w sh ≤ 255 := by
  unfold byt
  generalize (Int32.ofInt w >>> (Int32.ofInt sh &&& 31)) = x
  have h2 : (x.toBitVec &&& 255#32).toNat ≤ 255 := by
    rw [BitVec.toNat_and]
    exact Nat.and_le_right
  have h : (x &&& 255).toInt = ((x.toBitVec &&& 255#32).toNat : Int) := by
    show (x.toBitVec &&& 255#32).toInt = _
    rw [BitVec.toInt_eq_toNat_of_lt (by omega)]
  rw [h]
  omega
/-- byte k of five words -/
def by5 (a b c d e : Int) (k : Nat) : Int := byt (if k < 4 then a else if k < 8 then b else if k < 12 then c else if k < 16 then d else e) (24 - 8 * ((k : Int) % 4))
def nzB (B : Nat → Int) (k : Nat) : Bool := decide (B k ≠ 0)
/-- a tape of length L behind n bytes, those that are 0 left out -/
def apT (T : Nat → Int) (L : Nat) (B : Nat → Int) : Nat → Nat → Int
  | 0 => T
  | n + 1 => fun j => if B n ≠ 0 ∧ j = L + ct (nzB B) n then B n else apT T L B n j
theorem apT_cg {T T' : Nat → Int} {L : Nat} {B : Nat → Int} (h : ∀ j, j < L → T j = T' j) : ∀ n j, j < L + ct (nzB B) n → apT T L B n j = apT T' L B n j
  | 0, j, hj => h j (by simpa [ct] using hj)
  | n + 1, j, hj => by
    rw [apT, apT]
    simp only
    by_cases c : B n ≠ 0 ∧ j = L + ct (nzB B) n
    · rw [if_pos c, if_pos c]
    · rw [if_neg c, if_neg c]
      refine apT_cg h n j ?_
      rw [ct] at hj
      by_cases z : B n = 0
      · rw [show nzB B n = false from decide_eq_false (fun q => q z)] at hj; simpa using hj
      · rw [show nzB B n = true from decide_eq_true z] at hj
        have hj : j < L + (ct (nzB B) n + 1) := hj
        have : j ≠ L + ct (nzB B) n := fun q => c ⟨z, q⟩
        omega
theorem apT_r {T : Nat → Int} {L : Nat} {B : Nat → Int} (h : ∀ j, j < L → 0 ≤ T j ∧ T j ≤ 255) (hB : ∀ k, 0 ≤ B k ∧ B k ≤ 255) : ∀ n j, j < L + ct (nzB B) n → 0 ≤ apT T L B n j ∧ apT T L B n j ≤ 255
  | 0, j, hj => h j (by simpa [ct] using hj)
  | n + 1, j, hj => by
    rw [apT]
    simp only
    by_cases c : B n ≠ 0 ∧ j = L + ct (nzB B) n
    · rw [if_pos c]; exact hB n
    · rw [if_neg c]
      refine apT_r h hB n j ?_
      rw [ct] at hj
      by_cases z : B n = 0
      · rw [show nzB B n = false from decide_eq_false (fun q => q z)] at hj; simpa using hj
      · rw [show nzB B n = true from decide_eq_true z] at hj
        have hj : j < L + (ct (nzB B) n + 1) := hj
        have : j ≠ L + ct (nzB B) n := fun q => c ⟨z, q⟩
        omega
section Feed9
variable {K : Kx} {N : Nm} {g : Ge}
theorem x_end {n : Int} {L : Nat} {Pq : Int → Nm → Ge → Prop} (hL : N 1 0 1 = L) (hL4 : L ≤ 400) (rn' : rI n) (hq1 : 0 ≤ n ∧ n ≤ L → Pq 1 (upN N 1 0 1 n) g) (hq0 : ¬ (0 ≤ n ∧ n ≤ L) → Pq 0 N g) : Ck K YX9_end hX9_end [vr 0 0, vi n] N g (qI Pq) := by
  refine Ck.intro 0 (by decide) rfl ?_
  show AW _ _ _ _ _ [some (vr 0 0), some (vi n)] _ _ _
  refine ld_i1 iX9_end_0 ?_
  refine r_iflt iX9_end_1 (by omega) (fun h1 => ?_) (fun h1 => ?_)
  · refine r_iconst iX9_end_15 ?_
    refine t_bool rfl (by omega) iX9_end_16 ?_
    exact hq0 (by omega)
  · refine ld_i1 iX9_end_4 ?_
    refine ld_a0 iX9_end_5 ?_
    refine gf_X9_reader kFX9_12 iX9_end_6 ?_
    refine gf_X4_length kFX9_76 iX9_end_9 ?_
    rw [hL]
    refine r_icmple iX9_end_12 (by omega) (by omega) (fun h12 => ?_) (fun h12 => ?_)
    · refine ld_a0 iX9_end_17 ?_
      refine gf_X9_reader kFX9_12 iX9_end_18 ?_
      refine ld_i1 iX9_end_21 ?_
      refine pf_X4_length kFX9_76 iX9_end_22 ?_
      refine r_iconst iX9_end_25 ?_
      refine t_bool rfl (by omega) iX9_end_26 ?_
      exact hq1 (by omega)
    · refine r_iconst iX9_end_15 ?_
      refine t_bool rfl (by omega) iX9_end_16 ?_
      exact hq0 (by omega)
theorem m_end {n : Int} {L : Nat} {Pq : Int → Nm → Ge → Prop} (hL : N 40 0 2 = L) (hL4 : L ≤ 400) (rn' : rI n) (hq1 : 0 ≤ n ∧ n ≤ L → ∀ N1, FrV N N1 → Pq 1 (upN N1 40 0 2 n) g) (hq0 : ¬ (0 ≤ n ∧ n ≤ L) → ∀ N1, FrV N N1 → Pq 0 N1 g) : Ck K YX10_end hX10_end [vr 40 0, vi n] N g (qI Pq) := by
  refine Ck.intro 0 (by decide) rfl ?_
  show AW _ _ _ _ _ [some (vr 40 0), some (vi n)] _ _ _
  refine ld_a0 iX10_end_0 ?_
  refine r_iconst iX10_end_1 ?_
  refine pf_X10_thrown kFX10_72 iX10_end_2 ?_
  obtain ⟨N1, hN1, f0⟩ : ∃ N1, N1 = upN N 40 0 0 0 ∧ FrV N N1 := ⟨_, rfl, thr_v N⟩
  rw [← hN1]
  clear hN1
  refine ld_i1 iX10_end_5 ?_
  refine r_i2l (by omega) iX10_end_6 ?_
  refine r_lconst (v := 0) (by decide) iX10_end_7 ?_
  refine ld_a0 iX10_end_8 ?_
  refine gf_X10_taped kFX10_79 iX10_end_9 ?_
  rw [f0 40 0 2 (by omega) (by omega), hL]
  refine r_i2l (by omega) iX10_end_12 ?_
  refine xX10_in kMX10_82 iX10_end_13 (by decide) (Nat.le_of_ble_eq_true rfl) rfl rfl ?_
  refine c_in (by omega) (by omega) (by omega) ?_
  refine r_ifne iX10_end_16 (by exact tf_r _) (fun h16 => ?_) (fun h16 => ?_)
  · have h16 := tf_y h16
    refine ld_a0 iX10_end_21 ?_
    refine ld_i1 iX10_end_22 ?_
    refine pf_X10_taped kFX10_79 iX10_end_23 ?_
    refine r_iconst iX10_end_26 ?_
    refine t_bool rfl (by omega) iX10_end_27 ?_
    exact hq1 (by omega) N1 f0
  · have h16 := tf_n h16
    refine r_iconst iX10_end_19 ?_
    refine t_bool rfl (by omega) iX10_end_20 ?_
    exact hq0 (by omega) N1 f0
theorem c_byteOf {a b c d e : Int} {k : Nat} {Pq : Int → Nm → Ge → Prop} (hk : k < 20) (hq : Pq (by5 a b c d e k) N g) : Ck K YX10_byteOf hX10_byteOf [vi a, vi b, vi c, vi d, vi e, vi k] N g (qI Pq) := by
  refine Ck.intro 1 (by decide) rfl ?_
  show AW _ _ _ _ _ [some (vi a), some (vi b), some (vi c), some (vi d), some (vi e), some (vi k), none] _ _ _
  have tl : ∀ w : Int, w = (if k < 4 then a else if k < 8 then b else if k < 12 then c else if k < 16 then d else e) → AW K YX10_byteOf hX10_byteOf (qI Pq) 45 [some (vi a), some (vi b), some (vi c), some (vi d), some (vi e), some (vi k), none] [vi w] N g := by
    intro w hw
    unfold by5 at hq
    rw [← hw] at hq
    refine sv_i6 (by decide) rfl iX10_byteOf_45 ?_
    refine ld_i6 iX10_byteOf_47 ?_
    refine r_bipush (by decide) iX10_byteOf_49 ?_
    refine r_bipush (by decide) iX10_byteOf_51 ?_
    refine ld_i5 iX10_byteOf_53 ?_
    refine r_iconst iX10_byteOf_55 ?_
    refine r_irem (by omega) (by omega) (by omega) iX10_byteOf_56 ?_
    rw [Int.tmod_eq_emod_of_nonneg (by omega)]
    refine r_imul iX10_byteOf_57 ?_
    refine r_isub iX10_byteOf_58 ?_
    rw [show (24 : Int) - 8 * ((k : Int) % 4) = 24 - 8 * ((k : Int) % 4) from rfl]
    refine r_ishr (z := (Int32.ofInt w >>> (Int32.ofInt (24 - 8 * ((k : Int) % 4)) &&& 31)).toInt) (ofI _).symm iX10_byteOf_59 ?_
    refine r_sipush (by decide) iX10_byteOf_60 ?_
    refine r_iand (z := byt w (24 - 8 * ((k : Int) % 4))) (by rw [ofI]; exact (ofI _).symm) iX10_byteOf_63 ?_
    refine t_int rfl iX10_byteOf_64 ?_
    exact hq
  refine ld_i5 iX10_byteOf_0 ?_
  refine r_iconst iX10_byteOf_2 ?_
  refine r_icmpge iX10_byteOf_3 (by omega) (by omega) (fun h3 => ?_) (fun h3 => ?_)
  · refine ld_i5 iX10_byteOf_10 ?_
    refine r_bipush (by decide) iX10_byteOf_12 ?_
    refine r_icmpge iX10_byteOf_14 (by omega) (by omega) (fun h14 => ?_) (fun h14 => ?_)
    · refine ld_i5 iX10_byteOf_21 ?_
      refine r_bipush (by decide) iX10_byteOf_23 ?_
      refine r_icmpge iX10_byteOf_25 (by omega) (by omega) (fun h25 => ?_) (fun h25 => ?_)
      · refine ld_i5 iX10_byteOf_32 ?_
        refine r_bipush (by decide) iX10_byteOf_34 ?_
        refine r_icmpge iX10_byteOf_36 (by omega) (by omega) (fun h36 => ?_) (fun h36 => ?_)
        · refine ld_i4 iX10_byteOf_43 ?_
          refine tl _ ?_
          first
            | rw [if_pos (by omega)]
            | rw [if_neg (by omega), if_pos (by omega)]
            | rw [if_neg (by omega), if_neg (by omega), if_pos (by omega)]
            | rw [if_neg (by omega), if_neg (by omega), if_neg (by omega), if_pos (by omega)]
            | rw [if_neg (by omega), if_neg (by omega), if_neg (by omega), if_neg (by omega)]
        · refine ld_i3 iX10_byteOf_39 ?_
          refine r_goto iX10_byteOf_40 ?_
          refine tl _ ?_
          first
            | rw [if_pos (by omega)]
            | rw [if_neg (by omega), if_pos (by omega)]
            | rw [if_neg (by omega), if_neg (by omega), if_pos (by omega)]
            | rw [if_neg (by omega), if_neg (by omega), if_neg (by omega), if_pos (by omega)]
            | rw [if_neg (by omega), if_neg (by omega), if_neg (by omega), if_neg (by omega)]
      · refine ld_i2 iX10_byteOf_28 ?_
        refine r_goto iX10_byteOf_29 ?_
        refine tl _ ?_
        first
          | rw [if_pos (by omega)]
          | rw [if_neg (by omega), if_pos (by omega)]
          | rw [if_neg (by omega), if_neg (by omega), if_pos (by omega)]
          | rw [if_neg (by omega), if_neg (by omega), if_neg (by omega), if_pos (by omega)]
          | rw [if_neg (by omega), if_neg (by omega), if_neg (by omega), if_neg (by omega)]
    · refine ld_i1 iX10_byteOf_17 ?_
      refine r_goto iX10_byteOf_18 ?_
      refine tl _ ?_
      first
        | rw [if_pos (by omega)]
        | rw [if_neg (by omega), if_pos (by omega)]
        | rw [if_neg (by omega), if_neg (by omega), if_pos (by omega)]
        | rw [if_neg (by omega), if_neg (by omega), if_neg (by omega), if_pos (by omega)]
        | rw [if_neg (by omega), if_neg (by omega), if_neg (by omega), if_neg (by omega)]
  · refine ld_i0 iX10_byteOf_6 ?_
    refine r_goto iX10_byteOf_7 ?_
    refine tl _ ?_
    first
      | rw [if_pos (by omega)]
      | rw [if_neg (by omega), if_pos (by omega)]
      | rw [if_neg (by omega), if_neg (by omega), if_pos (by omega)]
      | rw [if_neg (by omega), if_neg (by omega), if_neg (by omega), if_pos (by omega)]
      | rw [if_neg (by omega), if_neg (by omega), if_neg (by omega), if_neg (by omega)]
end Feed9
