/-! own text: the tape is fed, on -/
section Feed8
variable {K : Kx} {N : Nm} {g : Ge}
theorem c_bytesIn {w : Int} {B : Nat → Int} {q : Nat} {Pq : Int → Nm → Ge → Prop} (hB : ∀ r : Nat, r < 4 → B (4 * q + r) = byt w (24 - 8 * (r : Int))) (hq : Pq ((ct (nzB B) (4 * q + 4) : Int) - ct (nzB B) (4 * q)) N g) : Ck K YX9_bytesIn hX9_bytesIn [vi w] N g (qI Pq) := by
  refine Ck.intro 2 (by decide) rfl ?_
  show AW _ _ _ _ _ [some (vi w), none, none] _ _ _
  have loop : ∀ (n r : Nat) (t c : Int), 4 - r = n → r ≤ 4 → c = 24 - 8 * (r : Int) → t = (ct (nzB B) (4 * q + r) : Int) - ct (nzB B) (4 * q) → AW K YX9_bytesIn hX9_bytesIn (qI Pq) 5 [some (vi w), some (vi t), some (vi c)] [] N g := by
    intro n
    induction n using Nat.strongRecOn with
    | _ n ih =>
      intro r t c e hr hc ht
      subst hc
      have bb := byt_r w (24 - 8 * (r : Int))
      refine ld_i2 iX9_bytesIn_5 ?_
      refine r_iflt iX9_bytesIn_6 (by omega) (fun h6 => ?_) (fun h6 => ?_)
      · refine ld_i1 iX9_bytesIn_28 ?_
        refine t_int rfl iX9_bytesIn_29 ?_
        have e : r = 4 := by omega
        rw [ht, e]; exact hq
      · have hb := hB r (by omega)
        refine ld_i0 iX9_bytesIn_9 ?_
        refine ld_i2 iX9_bytesIn_10 ?_
        refine r_ishr (z := (Int32.ofInt w >>> (Int32.ofInt (24 - 8 * (r : Int)) &&& 31)).toInt) (ofI _).symm iX9_bytesIn_11 ?_
        refine r_sipush (by decide) iX9_bytesIn_12 ?_
        refine r_iand (z := byt w (24 - 8 * (r : Int))) (by rw [ofI]; exact (ofI _).symm) iX9_bytesIn_15 ?_
        refine r_ifeq iX9_bytesIn_16 (by omega) (fun h16 => ?_) (fun h16 => ?_)
        · refine inc_2 (by decide) rfl iX9_bytesIn_22 ?_
          refine r_goto iX9_bytesIn_25 ?_
          first
            | exact ih (4 - (r + 1)) (by omega) (r + 1) _ _ rfl (by omega) (by omega) (by rw [show 4 * q + (r + 1) = 4 * q + r + 1 by omega, ct, show nzB B (4 * q + r) = false from decide_eq_false (fun z => z (by rw [hb]; omega)), ht]; simp)
            | exact ih (4 - (r + 1)) (by omega) (r + 1) _ _ rfl (by omega) (by omega) (by rw [show 4 * q + (r + 1) = 4 * q + r + 1 by omega, ct, show nzB B (4 * q + r) = true from decide_eq_true (by rw [hb]; omega), ht]; simp; omega)
        · refine inc_1 (by decide) rfl iX9_bytesIn_19 ?_
          refine inc_2 (by decide) rfl iX9_bytesIn_22 ?_
          refine r_goto iX9_bytesIn_25 ?_
          first
            | exact ih (4 - (r + 1)) (by omega) (r + 1) _ _ rfl (by omega) (by omega) (by rw [show 4 * q + (r + 1) = 4 * q + r + 1 by omega, ct, show nzB B (4 * q + r) = false from decide_eq_false (fun z => z (by rw [hb]; omega)), ht]; simp)
            | exact ih (4 - (r + 1)) (by omega) (r + 1) _ _ rfl (by omega) (by omega) (by rw [show 4 * q + (r + 1) = 4 * q + r + 1 by omega, ct, show nzB B (4 * q + r) = true from decide_eq_true (by rw [hb]; omega), ht]; simp; omega)
  refine r_iconst iX9_bytesIn_0 ?_
  refine sv_i1 (by decide) rfl iX9_bytesIn_1 ?_
  refine r_bipush (by decide) iX9_bytesIn_2 ?_
  refine sv_i2 (by decide) rfl iX9_bytesIn_4 ?_
  exact loop 4 0 _ _ (by omega) (by omega) (by omega) (by simp)
/-- the class's tape -/
def Xt (N : Nm) (T : Nat → Int) (L : Nat) (B : Nat → Int) (n : Nat) : Prop := N 1 0 1 = (L : Int) + ct (nzB B) n ∧ ∀ j, N 2 0 j = apT T L B n j
theorem c_append {w : Int} {B T : Nat → Int} {q L : Nat} {Pq : Nm → Ge → Prop} (hB : ∀ r : Nat, r < 4 → B (4 * q + r) = byt w (24 - 8 * (r : Int))) (hX : Xt N T L B (4 * q)) (hq5 : q < 5) (hL : L + ct (nzB B) 20 ≤ 400) (hq : ∀ N', FrX 1 2 N N' → (∀ j, j ≠ 1 → N' 1 0 j = N 1 0 j) → Xt N' T L B (4 * q + 4) → Pq N' g) : Ck K YX4_append hX4_append [vr 1 0, vi w] N g (qV Pq) := by
  refine Ck.intro 2 (by decide) rfl ?_
  show AW _ _ _ _ _ [some (vr 1 0), some (vi w), none, none] _ _ _
  have loop : ∀ (n r : Nat) (c : Int) (N' : Nm), 4 - r = n → r ≤ 4 → c = 24 - 8 * (r : Int) → FrX 1 2 N N' → (∀ j, j ≠ 1 → N' 1 0 j = N 1 0 j) → Xt N' T L B (4 * q + r) → AW K YX4_append hX4_append (qV Pq) 3 [some (vr 1 0), some (vi w), some (vi c), none] [] N' g := by
    intro n
    induction n using Nat.strongRecOn with
    | _ n ih =>
      intro r c N' e hr hc hF hf hT
      subst hc
      obtain ⟨t1, t2⟩ := hT
      have bb := byt_r w (24 - 8 * (r : Int))
      refine ld_i2 iX4_append_3 ?_
      refine r_iflt iX4_append_4 (by omega) (fun h4 => ?_) (fun h4 => ?_)
      · refine t_void rfl iX4_append_55 ?_
        have e : r = 4 := by omega
        subst e
        exact hq N' hF hf ⟨t1, t2⟩
      · have hb := hB r (by omega)
        have mono := ct_mono (nzB B) (show 4 * q + r ≤ 20 by omega)
        have mono1 := ct_mono (nzB B) (show 4 * q + r + 1 ≤ 20 by omega)
        refine ld_i1 iX4_append_7 ?_
        refine ld_i2 iX4_append_8 ?_
        refine r_ishr (z := (Int32.ofInt w >>> (Int32.ofInt (24 - 8 * (r : Int)) &&& 31)).toInt) (ofI _).symm iX4_append_9 ?_
        refine r_sipush (by decide) iX4_append_10 ?_
        refine r_iand (z := byt w (24 - 8 * (r : Int))) (by rw [ofI]; exact (ofI _).symm) iX4_append_13 ?_
        refine sv_i3 (by decide) rfl iX4_append_14 ?_
        refine ld_i3 iX4_append_15 ?_
        refine r_ifeq iX4_append_16 (by omega) (fun h16 => ?_) (fun h16 => ?_)
        · have hnz : nzB B (4 * q + r) = false := decide_eq_false (fun z => z (by rw [hb]; omega))
          refine inc_2 (by decide) rfl iX4_append_49 ?_
          refine r_goto iX4_append_52 ?_
          refine fg_3 ?_
          first
            | (refine ih (4 - (r + 1)) (by omega) (r + 1) _ N' rfl (by omega) (by omega) hF hf ⟨?_, fun j => ?_⟩
               · rw [t1, show 4 * q + (r + 1) = 4 * q + r + 1 by omega, ct, hnz]; simp
               · rw [t2, show 4 * q + (r + 1) = 4 * q + r + 1 by omega, apT]; simp only; rw [if_neg (fun z => z.1 (by rw [hb]; omega))])
            | (refine ih (4 - (r + 1)) (by omega) (r + 1) _ _ rfl (by omega) (by omega) ((hF.up (by omega)).up (by omega)) (fun j hj => ?_) ⟨?_, fun j => ?_⟩
               · rw [upN_j hj, upN_k (by decide)]; exact hf j hj
               · rw [upN_eq, show 4 * q + (r + 1) = 4 * q + r + 1 by omega, hc1]; omega
               · rw [upN_k (by decide), show 4 * q + (r + 1) = 4 * q + r + 1 by omega, apT]
                 simp only
                 by_cases c : j = L + ct (nzB B) (4 * q + r)
                 · rw [if_pos ⟨by rw [hb]; omega, c⟩, c, upN_eq, hb]
                 · rw [if_neg (fun z => c z.2), upN_j c]; exact t2 j)
        · have hnz : nzB B (4 * q + r) = true := decide_eq_true (by rw [hb]; omega)
          have hc1 : ct (nzB B) (4 * q + r + 1) = ct (nzB B) (4 * q + r) + 1 := by rw [ct, hnz]; rfl
          refine ld_a0 iX4_append_19 ?_
          refine gf_X4_length kFX4_15 iX4_append_20 ?_
          rw [t1]
          refine r_sipush (by decide) iX4_append_23 ?_
          refine r_icmpge iX4_append_26 (by omega) (by omega) (fun h26 => ?_) (fun h26 => ?_)
          · exfalso; omega
          · refine ld_a0 iX4_append_29 ?_
            refine gf_X4_tape kFX4_9 iX4_append_30 ?_
            refine ld_a0 iX4_append_33 ?_
            refine gf_X4_length kFX4_15 iX4_append_34 ?_
            rw [t1]
            refine ld_i3 iX4_append_37 ?_
            refine as_2 (n := (L + ct (nzB B) (4 * q + r))) (by omega) (by omega) iX4_append_38 ?_
            refine ld_a0 iX4_append_39 ?_
            refine r_dup rfl iX4_append_40 ?_
            refine gf_X4_length kFX4_15 iX4_append_41 ?_
            rw [upN_k (by decide), t1]
            refine r_iconst iX4_append_44 ?_
            refine r_iadd iX4_append_45 ?_
            refine pf_X4_length kFX4_15 iX4_append_46 ?_
            refine inc_2 (by decide) rfl iX4_append_49 ?_
            refine r_goto iX4_append_52 ?_
            refine fg_3 ?_
            first
              | (refine ih (4 - (r + 1)) (by omega) (r + 1) _ N' rfl (by omega) (by omega) hF hf ⟨?_, fun j => ?_⟩
                 · rw [t1, show 4 * q + (r + 1) = 4 * q + r + 1 by omega, ct, hnz]; simp
                 · rw [t2, show 4 * q + (r + 1) = 4 * q + r + 1 by omega, apT]; simp only; rw [if_neg (fun z => z.1 (by rw [hb]; omega))])
              | (refine ih (4 - (r + 1)) (by omega) (r + 1) _ _ rfl (by omega) (by omega) ((hF.up (by omega)).up (by omega)) (fun j hj => ?_) ⟨?_, fun j => ?_⟩
                 · rw [upN_j hj, upN_k (by decide)]; exact hf j hj
                 · rw [upN_eq, show 4 * q + (r + 1) = 4 * q + r + 1 by omega, hc1]; omega
                 · rw [upN_k (by decide), show 4 * q + (r + 1) = 4 * q + r + 1 by omega, apT]
                   simp only
                   by_cases c : j = L + ct (nzB B) (4 * q + r)
                   · rw [if_pos ⟨by rw [hb]; omega, c⟩, c, upN_eq, hb]
                   · rw [if_neg (fun z => c z.2), upN_j c]; exact t2 j)
  refine r_bipush (by decide) iX4_append_0 ?_
  refine sv_i2 (by decide) rfl iX4_append_2 ?_
  exact loop 4 0 _ N (by omega) (by omega) (by omega) (FrX.rf _ _ _) (fun _ _ => rfl) hX
theorem x_feed {a b c d e : Int} {L : Nat} {Pq : Int → Nm → Ge → Prop} (hL : N 1 0 1 = L) (hL4 : L ≤ 400) (hq1 : L + ct (nzB (by5 a b c d e)) 20 ≤ 400 → ∀ N', FrX 1 2 N N' → (∀ j, j ≠ 1 → N' 1 0 j = N 1 0 j) → Xt N' (fun j => N 2 0 j) L (by5 a b c d e) 20 → Pq ((L : Int) + ct (nzB (by5 a b c d e)) 20) N' g) (hq0 : ¬ L + ct (nzB (by5 a b c d e)) 20 ≤ 400 → Pq (-1) N g) : Ck K YX9_feed hX9_feed [vr 0 0, vi a, vi b, vi c, vi d, vi e] N g (qI Pq) := by
  generalize hBd : by5 a b c d e = B at hq1 hq0
  have w0 : ∀ r : Nat, r < 4 → B (4 * 0 + r) = byt a (24 - 8 * (r : Int)) := fun r hr => by rw [← hBd]; unfold by5; rw [if_pos (by omega), show ((4 * 0 + r : Nat) : Int) % 4 = r by omega]
  have w1 : ∀ r : Nat, r < 4 → B (4 * 1 + r) = byt b (24 - 8 * (r : Int)) := fun r hr => by rw [← hBd]; unfold by5; rw [if_neg (by omega), if_pos (by omega), show ((4 * 1 + r : Nat) : Int) % 4 = r by omega]
  have w2 : ∀ r : Nat, r < 4 → B (4 * 2 + r) = byt c (24 - 8 * (r : Int)) := fun r hr => by rw [← hBd]; unfold by5; rw [if_neg (by omega), if_neg (by omega), if_pos (by omega), show ((4 * 2 + r : Nat) : Int) % 4 = r by omega]
  have w3 : ∀ r : Nat, r < 4 → B (4 * 3 + r) = byt d (24 - 8 * (r : Int)) := fun r hr => by rw [← hBd]; unfold by5; rw [if_neg (by omega), if_neg (by omega), if_neg (by omega), if_pos (by omega), show ((4 * 3 + r : Nat) : Int) % 4 = r by omega]
  have w4 : ∀ r : Nat, r < 4 → B (4 * 4 + r) = byt e (24 - 8 * (r : Int)) := fun r hr => by rw [← hBd]; unfold by5; rw [if_neg (by omega), if_neg (by omega), if_neg (by omega), if_neg (by omega), show ((4 * 4 + r : Nat) : Int) % 4 = r by omega]
  have cl := ct_le (nzB B) 20
  have c0 : ct (nzB B) (4 * 0) = 0 := rfl
  refine Ck.intro 1 (by decide) rfl ?_
  show AW _ _ _ _ _ [some (vr 0 0), some (vi a), some (vi b), some (vi c), some (vi d), some (vi e), none] _ _ _
  refine ld_i1 iX9_feed_0 ?_
  refine xX9_bytesIn kMX9_72 iX9_feed_1 (by decide) (Nat.le_of_ble_eq_true rfl) rfl rfl ?_
  refine c_bytesIn (q := 0) w0 ?_
  refine ld_i2 iX9_feed_4 ?_
  refine xX9_bytesIn kMX9_72 iX9_feed_5 (by decide) (Nat.le_of_ble_eq_true rfl) rfl rfl ?_
  refine c_bytesIn (q := 1) w1 ?_
  refine r_iadd iX9_feed_8 ?_
  refine ld_i3 iX9_feed_9 ?_
  refine xX9_bytesIn kMX9_72 iX9_feed_10 (by decide) (Nat.le_of_ble_eq_true rfl) rfl rfl ?_
  refine c_bytesIn (q := 2) w2 ?_
  refine r_iadd iX9_feed_13 ?_
  refine ld_i4 iX9_feed_14 ?_
  refine xX9_bytesIn kMX9_72 iX9_feed_16 (by decide) (Nat.le_of_ble_eq_true rfl) rfl rfl ?_
  refine c_bytesIn (q := 3) w3 ?_
  refine r_iadd iX9_feed_19 ?_
  refine ld_i5 iX9_feed_20 ?_
  refine xX9_bytesIn kMX9_72 iX9_feed_22 (by decide) (Nat.le_of_ble_eq_true rfl) rfl rfl ?_
  refine c_bytesIn (q := 4) w4 ?_
  refine r_iadd iX9_feed_25 ?_
  rw [show (ct (nzB B) (4 * 0 + 4) : Int) - ct (nzB B) (4 * 0) + ((ct (nzB B) (4 * 1 + 4) : Int) - ct (nzB B) (4 * 1)) + ((ct (nzB B) (4 * 2 + 4) : Int) - ct (nzB B) (4 * 2)) + ((ct (nzB B) (4 * 3 + 4) : Int) - ct (nzB B) (4 * 3)) + ((ct (nzB B) (4 * 4 + 4) : Int) - ct (nzB B) (4 * 4)) = ct (nzB B) 20 from by rw [c0]; simp only [Nat.mul_zero, Nat.zero_add, Nat.reduceMul, Nat.reduceAdd]; omega]
  refine sv_i6 (by decide) rfl iX9_feed_26 ?_
  refine ld_a0 iX9_feed_28 ?_
  refine gf_X9_reader kFX9_12 iX9_feed_29 ?_
  refine gf_X4_length kFX9_76 iX9_feed_32 ?_
  rw [hL]
  refine ld_i6 iX9_feed_35 ?_
  refine r_iadd iX9_feed_37 ?_
  refine r_sipush (by decide) iX9_feed_38 ?_
  refine r_icmple iX9_feed_41 (by omega) (by omega) (fun h41 => ?_) (fun h41 => ?_)
  · refine ld_a0 iX9_feed_46 ?_
    refine gf_X9_reader kFX9_12 iX9_feed_47 ?_
    refine ld_i1 iX9_feed_50 ?_
    refine xX4_append kMX9_80 iX9_feed_51 (by decide) (Nat.le_of_ble_eq_true rfl) rfl rfl ?_
    refine c_append (q := 0) (L := L) (T := fun j => N 2 0 j) w0 ⟨by rw [hL]; simp [ct], fun j => rfl⟩ (by omega) (by omega) (fun N1 f1 g1 e1 => ?_)
    refine ld_a0 iX9_feed_54 ?_
    refine gf_X9_reader kFX9_12 iX9_feed_55 ?_
    refine ld_i2 iX9_feed_58 ?_
    refine xX4_append kMX9_80 iX9_feed_59 (by decide) (Nat.le_of_ble_eq_true rfl) rfl rfl ?_
    refine c_append (q := 1) w1 e1 (by omega) (by omega) (fun N2 f2 g2 e2 => ?_)
    refine ld_a0 iX9_feed_62 ?_
    refine gf_X9_reader kFX9_12 iX9_feed_63 ?_
    refine ld_i3 iX9_feed_66 ?_
    refine xX4_append kMX9_80 iX9_feed_67 (by decide) (Nat.le_of_ble_eq_true rfl) rfl rfl ?_
    refine c_append (q := 2) w2 e2 (by omega) (by omega) (fun N3 f3 g3 e3 => ?_)
    refine ld_a0 iX9_feed_70 ?_
    refine gf_X9_reader kFX9_12 iX9_feed_71 ?_
    refine ld_i4 iX9_feed_74 ?_
    refine xX4_append kMX9_80 iX9_feed_76 (by decide) (Nat.le_of_ble_eq_true rfl) rfl rfl ?_
    refine c_append (q := 3) w3 e3 (by omega) (by omega) (fun N4 f4 g4 e4 => ?_)
    refine ld_a0 iX9_feed_79 ?_
    refine gf_X9_reader kFX9_12 iX9_feed_80 ?_
    refine ld_i5 iX9_feed_83 ?_
    refine xX4_append kMX9_80 iX9_feed_85 (by decide) (Nat.le_of_ble_eq_true rfl) rfl rfl ?_
    refine c_append (q := 4) w4 e4 (by omega) (by omega) (fun N5 f5 g5 e5 => ?_)
    refine ld_a0 iX9_feed_88 ?_
    refine gf_X9_reader kFX9_12 iX9_feed_89 ?_
    refine gf_X4_length kFX9_76 iX9_feed_92 ?_
    rw [e5.1]
    refine t_int rfl iX9_feed_95 ?_
    exact hq1 (by omega) N5 ((((f1.tr f2).tr f3).tr f4).tr f5) (fun j hj => by rw [g5 j hj, g4 j hj, g3 j hj, g2 j hj, g1 j hj]) e5
  · refine r_iconst iX9_feed_44 ?_
    refine t_int rfl iX9_feed_45 ?_
    exact hq0 (by omega)
end Feed8
