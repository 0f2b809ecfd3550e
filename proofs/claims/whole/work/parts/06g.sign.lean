/-! own text: where a line changes its sign -/
def sgI (z : Int) : Int := if z < 0 then -1 else if 0 < z then 1 else 0
def sgB (F : Nat → Int) (w : Nat) : Bool := decide (0 < w ∧ sgI (F w) ≠ sgI (F (w - 1)))
theorem ind_ex (c : Prop) [Decidable c] : ∃ x : Int, (if c then (1 : Int) else 0) = x ∧ (c → x = 1) ∧ (¬ c → x = 0) := ⟨_, rfl, fun h => if_pos h, fun h => if_neg h⟩
theorem ind_nx (c : Prop) [Decidable c] : ∃ x : Nat, (if c then (1 : Nat) else 0) = x ∧ (c → x = 1) ∧ (¬ c → x = 0) := ⟨_, rfl, fun h => if_pos h, fun h => if_neg h⟩
theorem sgI_ex (z : Int) : ∃ x : Int, sgI z = x ∧ (z < 0 → x = -1) ∧ (z = 0 → x = 0) ∧ (0 < z → x = 1) := by
  refine ⟨_, rfl, fun h => if_pos h, fun h => ?_, fun h => ?_⟩
  · unfold sgI; rw [if_neg (by omega), if_neg (by omega)]
  · unfold sgI; rw [if_neg (by omega), if_pos h]
/-- the signs met on the first wages of a piece: below 0, 0, above 0 -/
theorem signs_key {F : Nat → Int} {P : Nat} {s : Nat → Nat} {G : Nat → Int} (hPc : Pc F P s G) {p : Nat} (hp : p < P) : ∀ n, s p + n < s (p + 1) → (ct (sgB F) (s p + n + 1) : Int) = ct (sgB F) (s p + 1) + ((if min (F (s p)) (F (s p + n)) < 0 then 1 else 0) + (if 0 < (ct (fun w => decide (F w = 0)) (s p + n + 1) : Int) - ct (fun w => decide (F w = 0)) (s p) then 1 else 0) + (if 0 < max (F (s p)) (F (s p + n)) then 1 else 0) - 1)
  | 0, h => by
    simp only [Nat.add_zero]
    have e2 : ct (fun w => decide (F w = 0)) (s p + 1) = ct (fun w => decide (F w = 0)) (s p) + (if F (s p) = 0 then 1 else 0) := by rw [ct]; simp
    rw [e2]
    obtain ⟨y, ry, py, qy⟩ := ind_nx (F (s p) = 0)
    rw [ry]
    obtain ⟨x1, r1, p1, q1⟩ := ind_ex (min (F (s p)) (F (s p)) < 0)
    obtain ⟨x2, r2, p2, q2⟩ := ind_ex (0 < ((ct (fun w => decide (F w = 0)) (s p) + y : Nat) : Int) - ct (fun w => decide (F w = 0)) (s p))
    obtain ⟨x3, r3, p3, q3⟩ := ind_ex (0 < max (F (s p)) (F (s p)))
    rw [r1, r2, r3]
    omega
  | n + 1, h => by
    have ih := signs_key hPc hp n (by omega)
    have l1 := hPc.lin2 hp (show s p ≤ s p by omega) (show s p ≤ s p + n by omega) (by omega)
    have l2 := hPc.lin2 hp (show s p ≤ s p + n by omega) (show s p + n ≤ s p + (n + 1) by omega) h
    rw [show ((s p + (n + 1) : Nat) : Int) - ((s p + n : Nat) : Int) = 1 by omega, Int.one_mul] at l2
    rw [show ((s p + n : Nat) : Int) - s p = n by omega] at l1
    have hz1 := ct_mono (fun w => decide (F w = 0)) (show s p ≤ s p + n + 1 by omega)
    have e1 : ct (sgB F) (s p + (n + 1) + 1) = ct (sgB F) (s p + n + 1) + (if sgI (F (s p + (n + 1))) ≠ sgI (F (s p + n)) then 1 else 0) := by
      rw [show s p + (n + 1) + 1 = (s p + n + 1) + 1 by omega, ct]
      have : sgB F (s p + n + 1) = decide (sgI (F (s p + (n + 1))) ≠ sgI (F (s p + n))) := by
        simp only [sgB, decide_eq_decide]
        rw [show s p + n + 1 - 1 = s p + n by omega, show s p + n + 1 = s p + (n + 1) by omega]
        exact ⟨fun y => y.2, fun y => ⟨by omega, y⟩⟩
      rw [this]; simp
    have e2 : ct (fun w => decide (F w = 0)) (s p + (n + 1) + 1) = ct (fun w => decide (F w = 0)) (s p + n + 1) + (if F (s p + (n + 1)) = 0 then 1 else 0) := by
      rw [show s p + (n + 1) + 1 = (s p + n + 1) + 1 by omega, ct, show s p + n + 1 = s p + (n + 1) by omega]; simp
    have hzero : 0 < (ct (fun w => decide (F w = 0)) (s p + n + 1) : Int) - ct (fun w => decide (F w = 0)) (s p) → ∃ m : Nat, m ≤ n ∧ F (s p) + (m : Int) * G p = 0 := fun z => by
      apply Decidable.not_not.mp
      intro y
      have := ct_none (fun w => decide (F w = 0)) (s p) (s p + n + 1) (by omega) (fun w z1 z2 => by
        simp only [decide_eq_false_iff_not]
        intro y2
        have l3 := hPc.lin2 hp (show s p ≤ s p by omega) z1 (by omega)
        refine y ⟨w - s p, by omega, ?_⟩
        rw [show ((w - s p : Nat) : Int) = (w : Int) - s p by omega]; omega)
      omega
    have hzero2 : ∀ m : Nat, m ≤ n → F (s p + m) = 0 → 0 < (ct (fun w => decide (F w = 0)) (s p + n + 1) : Int) - ct (fun w => decide (F w = 0)) (s p) := fun m z1 z2 => by
      have y1 := ct_mono (fun w => decide (F w = 0)) (show s p ≤ s p + m by omega)
      have y2 := ct_mono (fun w => decide (F w = 0)) (show s p + m + 1 ≤ s p + n + 1 by omega)
      rw [ct, show decide (F (s p + m) = 0) = true by simpa using z2] at y2
      simp at y2
      omega
    have zf : F (s p) = 0 → 0 < (ct (fun w => decide (F w = 0)) (s p + n + 1) : Int) - ct (fun w => decide (F w = 0)) (s p) := fun q => hzero2 0 (by omega) q
    have za : F (s p + n) = 0 → 0 < (ct (fun w => decide (F w = 0)) (s p + n + 1) : Int) - ct (fun w => decide (F w = 0)) (s p) := fun q => hzero2 n (by omega) q
    have zin : 0 < (ct (fun w => decide (F w = 0)) (s p + n + 1) : Int) - ct (fun w => decide (F w = 0)) (s p) → (0 ≤ G p → F (s p) ≤ 0 ∧ 0 ≤ F (s p + n)) ∧ (G p ≤ 0 → 0 ≤ F (s p) ∧ F (s p + n) ≤ 0) := fun q => by
      obtain ⟨m, m1, m2⟩ := hzero q
      refine ⟨fun y => ?_, fun y => ?_⟩
      · have y1 := Int.mul_nonneg (show 0 ≤ (m : Int) by omega) y
        have y2 := mul_mono (show (m : Int) ≤ n by omega) y
        omega
      · have y1 := Int.mul_nonpos_of_nonneg_of_nonpos (show 0 ≤ (m : Int) by omega) y
        have y2 := mul_anti (show (m : Int) ≤ n by omega) y
        omega
    have mono : (0 ≤ G p → F (s p) ≤ F (s p + n)) ∧ (G p ≤ 0 → F (s p + n) ≤ F (s p)) := ⟨fun q => by have := Int.mul_nonneg (show 0 ≤ (n : Int) by omega) q; omega, fun q => by have := Int.mul_nonpos_of_nonneg_of_nonpos (show 0 ≤ (n : Int) by omega) q; omega⟩
    clear hzero hzero2 l1
    rw [e1, e2]
    clear e1 e2
    generalize F (s p) = f at *
    generalize F (s p + n) = a at *
    generalize F (s p + (n + 1)) = b at *
    generalize ct (fun w => decide (F w = 0)) (s p + n + 1) = Z at *
    generalize ct (fun w => decide (F w = 0)) (s p) = Z0 at *
    generalize ct (sgB F) (s p + n + 1) = C at *
    generalize ct (sgB F) (s p + 1) = C0 at *
    generalize G p = d at *
    obtain ⟨sa, ra, a1, a2, a3⟩ := sgI_ex a
    obtain ⟨sb, rb, b1, b2, b3⟩ := sgI_ex b
    rw [ra, rb]
    obtain ⟨y, ry, py, qy⟩ := ind_nx (b = 0)
    obtain ⟨t, rt, pt, qt⟩ := ind_nx (sb ≠ sa)
    rw [ry, rt]
    obtain ⟨x1, r1, p1, q1⟩ := ind_ex (min f a < 0)
    obtain ⟨x2, r2, p2, q2⟩ := ind_ex (0 < (Z : Int) - Z0)
    obtain ⟨x3, r3, p3, q3⟩ := ind_ex (0 < max f a)
    rw [r1, r2, r3] at ih
    obtain ⟨z1, w1, u1, v1⟩ := ind_ex (min f b < 0)
    obtain ⟨z2, w2, u2, v2⟩ := ind_ex (0 < ((Z + y : Nat) : Int) - Z0)
    obtain ⟨z3, w3, u3, v3⟩ := ind_ex (0 < max f b)
    rw [w1, w2, w3]
    clear ra rb ry rt r1 r2 r3 w1 w2 w3
    rcases Int.le_total 0 d with q | q
    · have m := mono.1 q
      have zi := fun y => (zin y).1 q
      clear mono zin
      omega
    · have m := mono.2 q
      have zi := fun y => (zin y).2 q
      clear mono zin
      omega
theorem signs_eq {F : Nat → Int} {P : Nat} {s : Nat → Nat} {G : Nat → Int} (hPc : Pc F P s G) {p : Nat} (hp : p < P) : (ct (sgB F) (s (p + 1)) : Int) = ct (sgB F) (s p) + (if sgB F (s p) then 1 else 0) + ((if min (F (s p)) (F (s (p + 1) - 1)) < 0 then 1 else 0) + (if 0 < (ct (fun w => decide (F w = 0)) (s (p + 1)) : Int) - ct (fun w => decide (F w = 0)) (s p) then 1 else 0) + (if 0 < max (F (s p)) (F (s (p + 1) - 1)) then 1 else 0) - 1) := by
  have hm := hPc.2.2.2.2.1 p hp
  have k := signs_key hPc hp (s (p + 1) - 1 - s p) (by omega)
  rw [show s p + (s (p + 1) - 1 - s p) = s (p + 1) - 1 by omega, show s (p + 1) - 1 + 1 = s (p + 1) by omega] at k
  rw [k, ct]
  split <;> simp
section Line4
variable {K : Kx} {N : Nm} {g : Ge} {i : Nat} {F : Nat → Int} {P : Nat} {s : Nat → Nat} {G : Nat → Int}
theorem c_signChanges {Pq : Int → Nm → Ge → Prop} (hL : Ln N g i F P s G) (hq : Pq (ct (sgB F) 10000) N g) : Ck K YX1_signChanges hX1_signChanges [vr 12 i] N g (qI Pq) := by
  have hL0 := hL
  obtain ⟨hN0, hrow, hseat, hroom, hB, hPc⟩ := hL
  have hP2 := hPc.2.1
  refine Ck.intro 3 (by decide) rfl ?_
  show AW _ _ _ _ _ [some (vr 12 i), none, none, none] _ _ _
  have loop : ∀ (n p : Nat) (a b : Int), P - p = n → p ≤ P → b = p → a = ct (sgB F) (s p) → AW K YX1_signChanges hX1_signChanges (qI Pq) 4 [some (vr 12 i), some (vi a), some (vi b), none] [] N g := by
    intro n
    induction n using Nat.strongRecOn with
    | _ n ih =>
      intro p a b e hp hb ha
      subst hb
      have tl3 : ∀ (hp1 : p < P) (z : Int), z = (if min (F (s p)) (F (s (p + 1) - 1)) < 0 then 1 else 0) + (if 0 < (ct (fun w => decide (F w = 0)) (s (p + 1)) : Int) - ct (fun w => decide (F w = 0)) (s p) then 1 else 0) + (if 0 < max (F (s p)) (F (s (p + 1) - 1)) then 1 else 0) → AW K YX1_signChanges hX1_signChanges (qI Pq) 76 [some (vr 12 i), some (vi a), some (vi p), none] [vi z] N g := by
        intro hp1 z hz
        have hm := hPc.2.2.2.2.1 p hp1
        have ht := hPc.top (show p + 1 ≤ P by omega)
        have se := signs_eq hPc hp1
        have hb1 := hB (s p) (by omega)
        have hb2 := hB (s p - 1) (by omega)
        have hsb : 0 < p → (sgB F (s p) = true ↔ sgI (F (s p)) ≠ sgI (F (s p - 1))) := fun q => by
          have := hPc.le p (by omega) 0 (by omega)
          simp only [sgB, decide_eq_true_eq]
          constructor
          · exact fun y => y.2
          · exact fun y => ⟨by omega, y⟩
        have hs0 : p = 0 → sgB F (s p) = false := fun q => by rw [q, hPc.2.2.1]; simp [sgB]
        have hv : ∀ z : Int, -1 ≤ sgI z ∧ sgI z ≤ 1 := fun z => by unfold sgI; split <;> (try split) <;> omega
        have hv1 := hv (F (s p))
        have hv2 := hv (F (s p - 1))
        refine sv_i3 (by decide) rfl iX1_signChanges_76 ?_
        refine ld_i1 iX1_signChanges_77 ?_
        refine ld_i3 iX1_signChanges_78 ?_
        refine r_iconst iX1_signChanges_79 ?_
        refine r_isub iX1_signChanges_80 ?_
        refine r_iadd iX1_signChanges_81 ?_
        refine sv_i1 (by decide) rfl iX1_signChanges_82 ?_
        refine ld_i2 iX1_signChanges_83 ?_
        refine r_ifle iX1_signChanges_84 (by omega) (fun h84 => ?_) (fun h84 => ?_)
        · have hs1 := hs0 (by omega)
          rw [if_neg (by rw [hs1]; simp)] at se
          refine inc_2 (by decide) rfl iX1_signChanges_112 ?_
          refine r_goto iX1_signChanges_115 ?_
          refine fg_3 ?_
          exact ih (P - (p + 1)) (by omega) (p + 1) _ _ rfl (by omega) (by omega) (by omega)
        · refine ld_a0 iX1_signChanges_87 ?_
          refine gf_X1_values kFX1_19 iX1_signChanges_88 ?_
          refine ld_i2 iX1_signChanges_91 ?_
          refine al_14 rfl (by omega) (by omega) iX1_signChanges_92 ?_
          rw [(hrow p hp1).2.1]
          refine xJ13_signum_95d88 kMX1_149 iX1_signChanges_93 (by decide) (Nat.le_of_ble_eq_true rfl) rfl rfl ?_
          refine c_signum (by omega) ?_
          refine ld_a0 iX1_signChanges_96 ?_
          refine ld_i2 iX1_signChanges_97 ?_
          refine r_iconst iX1_signChanges_98 ?_
          refine r_isub iX1_signChanges_99 ?_
          rw [show (p : Int) - 1 = ((p - 1 : Nat) : Int) by omega]
          refine xX1_lastValue kMX1_78 iX1_signChanges_100 (by decide) (Nat.le_of_ble_eq_true rfl) rfl rfl ?_
          refine c_lastValue hL0 (by omega) ?_
          rw [show p - 1 + 1 = p by omega]
          refine xJ13_signum_95d88 kMX1_149 iX1_signChanges_103 (by decide) (Nat.le_of_ble_eq_true rfl) rfl rfl ?_
          refine c_signum (by omega) ?_
          rw [show (if F (s p) < 0 then (-1 : Int) else if 0 < F (s p) then 1 else 0) = sgI (F (s p)) from rfl, show (if F (s p - 1) < 0 then (-1 : Int) else if 0 < F (s p - 1) then 1 else 0) = sgI (F (s p - 1)) from rfl]
          refine r_icmpeq iX1_signChanges_106 (by omega) (by omega) (fun h106 => ?_) (fun h106 => ?_)
          · rw [if_neg (fun y => (hsb (by omega)).mp y h106)] at se
            refine inc_2 (by decide) rfl iX1_signChanges_112 ?_
            refine r_goto iX1_signChanges_115 ?_
            refine fg_3 ?_
            exact ih (P - (p + 1)) (by omega) (p + 1) _ _ rfl (by omega) (by omega) (by omega)
          · rw [if_pos ((hsb (by omega)).mpr h106)] at se
            refine inc_1 (by decide) rfl iX1_signChanges_109 ?_
            refine inc_2 (by decide) rfl iX1_signChanges_112 ?_
            refine r_goto iX1_signChanges_115 ?_
            refine fg_3 ?_
            exact ih (P - (p + 1)) (by omega) (p + 1) _ _ rfl (by omega) (by omega) (by omega)
      have tl2 : ∀ (hp1 : p < P) (z : Int), z = (if min (F (s p)) (F (s (p + 1) - 1)) < 0 then 1 else 0) + (if 0 < (ct (fun w => decide (F w = 0)) (s (p + 1)) : Int) - ct (fun w => decide (F w = 0)) (s p) then 1 else 0) → AW K YX1_signChanges hX1_signChanges (qI Pq) 51 [some (vr 12 i), some (vi a), some (vi p), none] [vi z] N g := by
        intro hp1 z hz
        have hm := hPc.2.2.2.2.1 p hp1
        have ht := hPc.top (show p + 1 ≤ P by omega)
        have hb1 := hB (s p) (by omega)
        have hb2 := hB (s (p + 1) - 1) (by omega)
        refine ld_a0 iX1_signChanges_51 ?_
        refine gf_X1_values kFX1_19 iX1_signChanges_52 ?_
        refine ld_i2 iX1_signChanges_55 ?_
        refine al_14 rfl (by omega) (by omega) iX1_signChanges_56 ?_
        rw [(hrow p hp1).2.1]
        refine ld_a0 iX1_signChanges_57 ?_
        refine ld_i2 iX1_signChanges_58 ?_
        refine xX1_lastValue kMX1_78 iX1_signChanges_59 (by decide) (Nat.le_of_ble_eq_true rfl) rfl rfl ?_
        refine c_lastValue hL0 hp1 ?_
        refine xJ9_max_f86c9 kMX1_88 iX1_signChanges_62 (by decide) (Nat.le_of_ble_eq_true rfl) rfl rfl ?_
        refine c_maxL (by omega) (by omega) ?_
        refine r_lconst (v := 0) (by decide) iX1_signChanges_65 ?_
        refine r_lcle iX1_signChanges_66 iX1_signChanges_67 (by omega) (by omega) (fun h66 => ?_) (fun h66 => ?_)
        · refine r_iconst iX1_signChanges_74 ?_
          refine r_iadd iX1_signChanges_75 ?_
          refine tl3 hp1 _ ?_
          first | rw [if_pos h66, hz] | rw [if_neg (show ¬ 0 < max (F (s p)) (F (s (p + 1) - 1)) by omega), hz]
        · refine r_iconst iX1_signChanges_70 ?_
          refine r_goto iX1_signChanges_71 ?_
          refine r_iadd iX1_signChanges_75 ?_
          refine tl3 hp1 _ ?_
          first | rw [if_pos h66, hz] | rw [if_neg (show ¬ 0 < max (F (s p)) (F (s (p + 1) - 1)) by omega), hz]
      have tl1 : ∀ (hp1 : p < P) (z : Int), z = (if min (F (s p)) (F (s (p + 1) - 1)) < 0 then 1 else 0) → AW K YX1_signChanges hX1_signChanges (qI Pq) 36 [some (vr 12 i), some (vi a), some (vi p), none] [vi z] N g := by
        intro hp1 z hz
        have hm := hPc.2.2.2.2.1 p hp1
        have ht := hPc.top (show p + 1 ≤ P by omega)
        have y1 := ct_le (fun w => decide (F w = 0)) (s (p + 1))
        have y2 := ct_mono (fun w => decide (F w = 0)) (show s p ≤ s (p + 1) by omega)
        refine ld_a0 iX1_signChanges_36 ?_
        refine ld_i2 iX1_signChanges_37 ?_
        refine r_lconst (v := 0) (by decide) iX1_signChanges_38 ?_
        refine xX1_timesIn kMX1_94 iX1_signChanges_39 (by decide) (Nat.le_of_ble_eq_true rfl) rfl rfl ?_
        refine c_timesIn hL0 hp1 (by omega) ?_
        refine r_ifle iX1_signChanges_42 (by omega) (fun h42 => ?_) (fun h42 => ?_)
        · refine r_iconst iX1_signChanges_49 ?_
          refine r_iadd iX1_signChanges_50 ?_
          refine tl2 hp1 _ ?_
          first | rw [if_pos h42, hz] | rw [if_neg (show ¬ 0 < (ct (fun w => decide (F w = 0)) (s (p + 1)) : Int) - ct (fun w => decide (F w = 0)) (s p) by omega), hz]
        · refine r_iconst iX1_signChanges_45 ?_
          refine r_goto iX1_signChanges_46 ?_
          refine r_iadd iX1_signChanges_50 ?_
          refine tl2 hp1 _ ?_
          first | rw [if_pos h42, hz] | rw [if_neg (show ¬ 0 < (ct (fun w => decide (F w = 0)) (s (p + 1)) : Int) - ct (fun w => decide (F w = 0)) (s p) by omega), hz]
      refine ld_i2 iX1_signChanges_4 ?_
      refine ld_a0 iX1_signChanges_5 ?_
      refine gf_X1_pieces kFX1_9 iX1_signChanges_6 ?_
      refine r_icmpge iX1_signChanges_9 (by omega) (by omega) (fun h9 => ?_) (fun h9 => ?_)
      · refine ld_i1 iX1_signChanges_118 ?_
        refine t_int rfl iX1_signChanges_119 ?_
        have e : p = P := by omega
        rw [e, hPc.2.2.2.1] at ha; rw [ha]; exact hq
      · have hp1 : p < P := by omega
        have hm := hPc.2.2.2.2.1 p hp1
        have ht := hPc.top (show p + 1 ≤ P by omega)
        have hb1 := hB (s p) (by omega)
        have hb2 := hB (s (p + 1) - 1) (by omega)
        refine ld_a0 iX1_signChanges_12 ?_
        refine gf_X1_values kFX1_19 iX1_signChanges_13 ?_
        refine ld_i2 iX1_signChanges_16 ?_
        refine al_14 rfl (by omega) (by omega) iX1_signChanges_17 ?_
        rw [(hrow p hp1).2.1]
        refine ld_a0 iX1_signChanges_18 ?_
        refine ld_i2 iX1_signChanges_19 ?_
        refine xX1_lastValue kMX1_78 iX1_signChanges_20 (by decide) (Nat.le_of_ble_eq_true rfl) rfl rfl ?_
        refine c_lastValue hL0 hp1 ?_
        refine xJ9_min_f86c9 kMX1_85 iX1_signChanges_23 (by decide) (Nat.le_of_ble_eq_true rfl) rfl rfl ?_
        refine c_minL (by omega) (by omega) ?_
        refine r_lconst (v := 0) (by decide) iX1_signChanges_26 ?_
        refine r_lcge iX1_signChanges_27 iX1_signChanges_28 (by omega) (by omega) (fun h27 => ?_) (fun h27 => ?_)
        · refine r_iconst iX1_signChanges_35 ?_
          refine tl1 hp1 _ ?_
          first | rw [if_pos h27] | rw [if_neg (show ¬ min (F (s p)) (F (s (p + 1) - 1)) < 0 by omega)]
        · refine r_iconst iX1_signChanges_31 ?_
          refine r_goto iX1_signChanges_32 ?_
          refine tl1 hp1 _ ?_
          first | rw [if_pos h27] | rw [if_neg (show ¬ min (F (s p)) (F (s (p + 1) - 1)) < 0 by omega)]
  refine r_iconst iX1_signChanges_0 ?_
  refine sv_i1 (by decide) rfl iX1_signChanges_1 ?_
  refine r_iconst iX1_signChanges_2 ?_
  refine sv_i2 (by decide) rfl iX1_signChanges_3 ?_
  exact loop P 0 _ _ (by omega) (by omega) (by omega) (by rw [hPc.2.2.1]; rfl)
end Line4
