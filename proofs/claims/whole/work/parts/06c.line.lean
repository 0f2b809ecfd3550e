/-! own text: questions about a line, answered from its pieces -/
theorem Pc.lin2 {F : Nat → Int} {P : Nat} {s : Nat → Nat} {G : Nat → Int} (h : Pc F P s G) {p a w : Nat} (hp : p < P) (h1 : s p ≤ a) (h2 : a ≤ w) (h3 : w < s (p + 1)) : F w = F a + ((w : Int) - a) * G p := by
  have e1 := h.2.2.2.2.2.1 p hp w (by omega) h3
  have e2 := h.2.2.2.2.2.1 p hp a h1 (by omega)
  rw [show (w : Int) - s p = ((a : Int) - s p) + ((w : Int) - a) by omega, Int.add_mul] at e1
  omega
theorem fst_shift {F : Nat → Int} {P : Nat} {s : Nat → Nat} {G : Nat → Int} (h : Pc F P s G) {p a : Nat} {v r : Int} (hp : p < P) (h1 : s p ≤ a) (h2 : a < s (p + 1)) (hr : Fst (fun n => v ≤ F a + (n : Int) * G p) 0 (s (p + 1) - 1 - a + 1) r) : (r = -1 ∧ ∀ w, a ≤ w → w < s (p + 1) → ¬ v ≤ F w) ∨ ∃ w : Nat, (a : Int) + r = w ∧ 0 ≤ r ∧ a ≤ w ∧ w < s (p + 1) ∧ v ≤ F w ∧ ∀ u, a ≤ u → u < w → ¬ v ≤ F u := by
  rcases hr with ⟨rfl, q⟩ | ⟨n, rfl, _, q2, q3, q4⟩
  · refine Or.inl ⟨rfl, fun w a1 a2 => ?_⟩
    rw [h.lin2 hp h1 a1 a2]
    have this : ¬ v ≤ F a + ((w - a : Nat) : Int) * G p := q (w - a) (by omega) (by omega)
    rw [show ((w - a : Nat) : Int) = (w : Int) - a by omega] at this
    exact this
  · refine Or.inr ⟨a + n, by omega, by omega, by omega, by omega, ?_, fun u a1 a2 => ?_⟩
    · rw [h.lin2 hp h1 (show a ≤ a + n by omega) (by omega), show ((a + n : Nat) : Int) - a = n by omega]; exact q3
    · rw [h.lin2 hp h1 a1 (by omega)]
      have this : ¬ v ≤ F a + ((u - a : Nat) : Int) * G p := q4 (u - a) (by omega) (by omega)
      rw [show ((u - a : Nat) : Int) = (u : Int) - a by omega] at this
      exact this
section Line8
variable {K : Kx} {N : Nm} {g : Ge} {i : Nat} {F : Nat → Int} {P : Nat} {s : Nat → Nat} {G : Nat → Int}
theorem c_wagesWith {v : Int} {Pq : Int → Nm → Ge → Prop} (hL : Ln N g i F P s G) (hv : rL v) (hq : Pq (ct (fun w => decide (F w = v)) 10000) N g) : Ck K YX1_wagesWith hX1_wagesWith [vr 12 i, vl v] N g (qI Pq) := by
  have hL0 := hL
  obtain ⟨hN0, hrow, hseat, hroom, hB, hPc⟩ := hL
  have hP2 := hPc.2.1
  refine Ck.intro 2 (by decide) rfl ?_
  show AW _ _ _ _ _ [some (vr 12 i), some (vl v), none, none, none] _ _ _
  have loop : ∀ (n p : Nat) (a b : Int), P - p = n → p ≤ P → b = p → a = ct (fun w => decide (F w = v)) (s p) → AW K YX1_wagesWith hX1_wagesWith (qI Pq) 5 [some (vr 12 i), some (vl v), none, some (vi a), some (vi b)] [] N g := by
    intro n
    induction n using Nat.strongRecOn with
    | _ n ih =>
      intro p a b e hp hb ha
      subst hb
      refine ld_i4 iX1_wagesWith_5 ?_
      refine ld_a0 iX1_wagesWith_7 ?_
      refine gf_X1_pieces kFX1_9 iX1_wagesWith_8 ?_
      refine r_icmpge iX1_wagesWith_11 (by omega) (by omega) (fun h11 => ?_) (fun h11 => ?_)
      · refine ld_i3 iX1_wagesWith_30 ?_
        refine t_int rfl iX1_wagesWith_31 ?_
        have e : p = P := by omega
        rw [e, hPc.2.2.2.1] at ha; rw [ha]; exact hq
      · refine ld_i3 iX1_wagesWith_14 ?_
        refine ld_a0 iX1_wagesWith_15 ?_
        refine ld_i4 iX1_wagesWith_16 ?_
        refine ld_l1 iX1_wagesWith_18 ?_
        refine xX1_timesIn kMX1_94 iX1_wagesWith_19 (by decide) (Nat.le_of_ble_eq_true rfl) rfl rfl ?_
        refine c_timesIn hL0 (by omega) hv ?_
        refine r_iadd iX1_wagesWith_22 ?_
        refine sv_i3 (by decide) rfl iX1_wagesWith_23 ?_
        refine inc_4 (by decide) rfl iX1_wagesWith_24 ?_
        refine r_goto iX1_wagesWith_27 ?_
        exact ih (P - (p + 1)) (by omega) (p + 1) _ _ rfl (by omega) (by omega) (by omega)
  refine r_iconst iX1_wagesWith_0 ?_
  refine sv_i3 (by decide) rfl iX1_wagesWith_1 ?_
  refine r_iconst iX1_wagesWith_2 ?_
  refine sv_i4 (by decide) rfl iX1_wagesWith_3 ?_
  exact loop P 0 _ _ (by omega) (by omega) (by omega) (by rw [hPc.2.2.1]; rfl)
theorem c_wageWith {v j : Int} {Pq : Int → Nm → Ge → Prop} (hL : Ln N g i F P s G) (hv : rL v) (hj : 0 ≤ j ∧ j ≤ 2147483647) (hq : ∀ r, Kth (fun w => decide (F w = v)) 10000 j r → Pq r N g) : Ck K YX1_wageWith hX1_wageWith [vr 12 i, vl v, vi j] N g (qI Pq) := by
  have hL0 := hL
  obtain ⟨hN0, hrow, hseat, hroom, hB, hPc⟩ := hL
  have hP2 := hPc.2.1
  refine Ck.intro 4 (by decide) rfl ?_
  show AW _ _ _ _ _ [some (vr 12 i), some (vl v), none, some (vi j), none, none, none, none] _ _ _
  have fin : ∀ (p : Nat) (a t d : Int) (w : Nat), p < P → (s p : Int) + d = w → w < s (p + 1) → F w = v → (ct (fun w => decide (F w = v)) w : Int) = j → AW K YX1_wageWith hX1_wageWith (qI Pq) 66 [some (vr 12 i), some (vl v), none, some (vi j), some (vi a), some (vi p), some (vi t), none] [vi d] N g := by
    intro p a t d w hp hw hw2 hF hc
    have ht := hPc.top (show p + 1 ≤ P by omega)
    refine sv_i7 (by decide) rfl iX1_wageWith_66 ?_
    refine ld_a0 iX1_wageWith_68 ?_
    refine gf_X1_starts kFX1_15 iX1_wageWith_69 ?_
    refine ld_i5 iX1_wageWith_72 ?_
    refine al_13 rfl (by omega) (by omega) iX1_wageWith_74 ?_
    rw [(hrow p hp).1]
    refine ld_i7 iX1_wageWith_75 ?_
    refine r_iadd iX1_wageWith_77 ?_
    refine t_int rfl iX1_wageWith_78 ?_
    rw [hw]; exact hq _ (Or.inr ⟨w, rfl, by omega, by simpa using hF, hc⟩)
  have loop : ∀ (n p : Nat) (a b : Int), P - p = n → p ≤ P → b = p → a = j - ct (fun w => decide (F w = v)) (s p) → 0 ≤ a → AW K YX1_wageWith hX1_wageWith (qI Pq) 6 [some (vr 12 i), some (vl v), none, some (vi j), some (vi a), some (vi b), none, none] [] N g := by
    intro n
    induction n using Nat.strongRecOn with
    | _ n ih =>
      intro p a b e hp hb ha ha0
      subst hb
      have hc1 := ct_le (fun w => decide (F w = v)) (s p)
      have hst := hPc.top hp
      refine ld_i5 iX1_wageWith_6 ?_
      refine ld_a0 iX1_wageWith_8 ?_
      refine gf_X1_pieces kFX1_9 iX1_wageWith_9 ?_
      refine r_icmpge iX1_wageWith_12 (by omega) (by omega) (fun h12 => ?_) (fun h12 => ?_)
      · refine r_iconst iX1_wageWith_92 ?_
        refine t_int rfl iX1_wageWith_93 ?_
        have e : p = P := by omega
        rw [e, hPc.2.2.2.1] at ha; exact hq _ (Or.inl ⟨rfl, by omega⟩)
      · have hm := hPc.2.2.2.2.1 p (by omega)
        have ht := hPc.top (show p + 1 ≤ P by omega)
        have hc2 := ct_le (fun w => decide (F w = v)) (s (p + 1))
        have hc3 := ct_mono (fun w => decide (F w = v)) (show s p ≤ s (p + 1) by omega)
        have hb1 := hB (s p) (by omega)
        have hG := hPc.2.2.2.2.2.2 p (by omega)
        have T := times_eq (v := v) hPc (show p < P by omega)
        refine ld_a0 iX1_wageWith_15 ?_
        refine ld_i5 iX1_wageWith_16 ?_
        refine ld_l1 iX1_wageWith_18 ?_
        refine xX1_timesIn kMX1_94 iX1_wageWith_19 (by decide) (Nat.le_of_ble_eq_true rfl) rfl rfl ?_
        refine c_timesIn hL0 (by omega) hv ?_
        refine sv_i6 (by decide) rfl iX1_wageWith_22 ?_
        refine ld_i4 iX1_wageWith_24 ?_
        refine ld_i6 iX1_wageWith_26 ?_
        refine r_icmpge iX1_wageWith_28 (by omega) (by omega) (fun h28 => ?_) (fun h28 => ?_)
        · refine ld_i4 iX1_wageWith_79 ?_
          refine ld_i6 iX1_wageWith_81 ?_
          refine r_isub iX1_wageWith_83 ?_
          refine sv_i4 (by decide) rfl iX1_wageWith_84 ?_
          refine inc_5 (by decide) rfl iX1_wageWith_86 ?_
          refine r_goto iX1_wageWith_89 ?_
          refine fg_6 ?_
          exact ih (P - (p + 1)) (by omega) (p + 1) _ _ rfl (by omega) (by omega) (by omega) (by omega)
        · have hin : min (F (s p)) (F (s (p + 1) - 1)) ≤ v ∧ v ≤ max (F (s p)) (F (s (p + 1) - 1)) := by
            rcases Int.lt_or_le v (min (F (s p)) (F (s (p + 1) - 1))) with q | q
            · have := T.1 (Or.inl q); omega
            · refine ⟨q, Int.not_lt.mp (fun q2 => ?_)⟩
              have := T.1 (Or.inr q2); omega
          have hb2 := hB (s (p + 1) - 1) (by omega)
          have T2 := T.2 hin.1 hin.2
          refine ld_a0 iX1_wageWith_31 ?_
          refine gf_X1_gains kFX1_23 iX1_wageWith_32 ?_
          refine ld_i5 iX1_wageWith_35 ?_
          refine al_15 rfl (by omega) (by omega) iX1_wageWith_37 ?_
          rw [(hrow p (by omega)).2.2]
          refine r_lconst (v := 0) (by decide) iX1_wageWith_38 ?_
          refine r_lcne iX1_wageWith_39 iX1_wageWith_40 (by omega) (by omega) (fun h39 => ?_) (fun h39 => ?_)
          · have T3 : (v - F (s p)).tmod (G p) = 0 := Decidable.not_not.mp (fun q => by have := (T2.2 h39).2 q; omega)
            obtain ⟨T4, m, T5, T6, T7⟩ := (T2.2 h39).1 T3
            clear T2 T
            refine ld_l1 iX1_wageWith_48 ?_
            refine ld_a0 iX1_wageWith_49 ?_
            refine gf_X1_values kFX1_19 iX1_wageWith_50 ?_
            refine ld_i5 iX1_wageWith_53 ?_
            refine al_14 rfl (by omega) (by omega) iX1_wageWith_55 ?_
            rw [(hrow p (by omega)).2.1]
            refine r_lsub iX1_wageWith_56 ?_
            refine ld_a0 iX1_wageWith_57 ?_
            refine gf_X1_gains kFX1_23 iX1_wageWith_58 ?_
            refine ld_i5 iX1_wageWith_61 ?_
            refine al_15 rfl (by omega) (by omega) iX1_wageWith_63 ?_
            rw [(hrow p (by omega)).2.2]
            refine r_ldiv (by omega) (by omega) (by omega) iX1_wageWith_64 ?_
            refine r_l2i iX1_wageWith_65 ?_
            first
              | (rw [T7]; refine fin p a _ _ (s p + m) (by omega) (by omega) T5 T6 ?_
                 have z := ct_mono (fun w => decide (F w = v)) (show s p ≤ s p + m by omega)
                 have z2 := ct_mono (fun w => decide (F w = v)) (show s p + m + 1 ≤ s (p + 1) by omega)
                 rw [ct, show decide (F (s p + m) = v) = true by simpa using T6] at z2
                 simp at z2
                 omega)
              | (have hlast := hlin (s (p + 1) - 1) (by omega) (by omega)
                 have hone := hlin (s p + a.toNat) (by omega) (by omega)
                 rw [h39, Int.mul_zero] at hlast hone
                 refine fin p a _ _ (s p + a.toNat) (by omega) (by omega) (by omega) (by omega) ?_
                 rw [ct_all _ (s p) (s p + a.toNat) (by omega) (fun w q1 q2 => by
                   have := hlin w q1 (by omega)
                   rw [h39, Int.mul_zero] at this
                   simp only [decide_eq_true_eq]; omega)]
                 omega)
          · have hall := T2.1 h39
            clear T2 T
            have hlin := hPc.2.2.2.2.2.1 p (by omega)
            refine ld_i4 iX1_wageWith_43 ?_
            refine r_goto iX1_wageWith_45 ?_
            first
              | (rw [T7]; refine fin p a _ _ (s p + m) (by omega) (by omega) T5 T6 ?_
                 have z := ct_mono (fun w => decide (F w = v)) (show s p ≤ s p + m by omega)
                 have z2 := ct_mono (fun w => decide (F w = v)) (show s p + m + 1 ≤ s (p + 1) by omega)
                 rw [ct, show decide (F (s p + m) = v) = true by simpa using T6] at z2
                 simp at z2
                 omega)
              | (have hlast := hlin (s (p + 1) - 1) (by omega) (by omega)
                 have hone := hlin (s p + a.toNat) (by omega) (by omega)
                 rw [h39, Int.mul_zero] at hlast hone
                 refine fin p a _ _ (s p + a.toNat) (by omega) (by omega) (by omega) (by omega) ?_
                 rw [ct_all _ (s p) (s p + a.toNat) (by omega) (fun w q1 q2 => by
                   have := hlin w q1 (by omega)
                   rw [h39, Int.mul_zero] at this
                   simp only [decide_eq_true_eq]; omega)]
                 omega)
  refine ld_i3 iX1_wageWith_0 ?_
  refine sv_i4 (by decide) rfl iX1_wageWith_1 ?_
  refine r_iconst iX1_wageWith_3 ?_
  refine sv_i5 (by decide) rfl iX1_wageWith_4 ?_
  exact loop P 0 _ _ (by omega) (by omega) (by omega) (by rw [hPc.2.2.1]; simp [ct]) (by omega)
theorem c_leastNoLess {a : Nat} {v : Int} {Pq : Int → Nm → Ge → Prop} (hL : Ln N g i F P s G) (ha : a < 10000) (hv : rL v) (hq : ∀ r N', Sr N N' → Fst (fun w => v ≤ F w) a 10000 r → Pq r N' g) : Ck K YX1_leastNoLess hX1_leastNoLess [vr 12 i, vi a, vl v] N g (qI Pq) := by
  refine Ck.intro 3 (by decide) rfl ?_
  show AW _ _ _ _ _ [some (vr 12 i), some (vi a), some (vl v), none, none, none, none] _ _ _
  have loop : ∀ (N' : Nm), Sr N N' → ∀ (n p : Nat) (b : Int), P - p = n → p ≤ P → b = p → (p < P → a < s (p + 1)) → (∀ w, a ≤ w → w < s p → ¬ v ≤ F w) → AW K YX1_leastNoLess hX1_leastNoLess (qI Pq) 7 [some (vr 12 i), some (vi a), some (vl v), none, some (vi b), none, none] [] N' g := by
    intro N' hs
    have hL0 := hL.sr hs
    obtain ⟨hN0, hrow, hseat, hroom, hB, hPc⟩ := hL.sr hs
    have hP2 := hPc.2.1
    intro n
    induction n using Nat.strongRecOn with
    | _ n ih =>
      intro p b e hp hb hap hno
      subst hb
      have hst := hPc.top hp
      refine ld_i4 iX1_leastNoLess_7 ?_
      refine ld_a0 iX1_leastNoLess_9 ?_
      refine gf_X1_pieces kFX1_9 iX1_leastNoLess_10 ?_
      refine r_icmpge iX1_leastNoLess_13 (by omega) (by omega) (fun h13 => ?_) (fun h13 => ?_)
      · refine r_iconst iX1_leastNoLess_77 ?_
        refine t_int rfl iX1_leastNoLess_78 ?_
        have e : p = P := by omega
        rw [e, hPc.2.2.2.1] at hno; exact hq _ _ hs (Or.inl ⟨rfl, hno⟩)
      · have hp1 : p < P := by omega
        have hap := hap hp1
        have hm := hPc.2.2.2.2.1 p hp1
        have ht := hPc.top (show p + 1 ≤ P by omega)
        have hG := hPc.2.2.2.2.2.2 p hp1
        obtain ⟨m, hmx⟩ : ∃ m : Nat, m = max a (s p) := ⟨_, rfl⟩
        have hbm := hB m (by omega)
        have hbl := hB (s (p + 1) - 1) (by omega)
        have hll := hPc.lin2 hp1 (show s p ≤ m by omega) (show m ≤ s (p + 1) - 1 by omega) (by omega)
        refine ld_i1 iX1_leastNoLess_16 ?_
        refine ld_a0 iX1_leastNoLess_17 ?_
        refine gf_X1_starts kFX1_15 iX1_leastNoLess_18 ?_
        refine ld_i4 iX1_leastNoLess_21 ?_
        refine al_13 rfl (by omega) (by omega) iX1_leastNoLess_23 ?_
        rw [(hrow p hp1).1]
        refine xJ9_max_7cf53 kMX1_98 iX1_leastNoLess_24 (by decide) (Nat.le_of_ble_eq_true rfl) rfl rfl ?_
        refine c_maxI (by omega) (by omega) ?_
        rw [show max (a : Int) (s p) = m by omega]
        refine sv_i5 (by decide) rfl iX1_leastNoLess_27 ?_
        refine ld_a0 iX1_leastNoLess_29 ?_
        refine ld_i4 iX1_leastNoLess_30 ?_
        refine ld_i5 iX1_leastNoLess_32 ?_
        refine xX1_valueIn kMX1_70 iX1_leastNoLess_34 (by decide) (Nat.le_of_ble_eq_true rfl) rfl rfl ?_
        refine c_valueIn hL0 hp1 (by omega) (by omega) ?_
        refine ld_a0 iX1_leastNoLess_37 ?_
        refine gf_X1_gains kFX1_23 iX1_leastNoLess_38 ?_
        refine ld_i4 iX1_leastNoLess_41 ?_
        refine al_15 rfl (by omega) (by omega) iX1_leastNoLess_43 ?_
        rw [(hrow p hp1).2.2]
        refine ld_a0 iX1_leastNoLess_44 ?_
        refine ld_i4 iX1_leastNoLess_45 ?_
        refine xX1_lastOf kMX1_60 iX1_leastNoLess_47 (by decide) (Nat.le_of_ble_eq_true rfl) rfl rfl ?_
        refine c_lastOf hL0 hp1 ?_
        refine ld_i5 iX1_leastNoLess_50 ?_
        refine r_isub iX1_leastNoLess_52 ?_
        rw [show (s (p + 1) : Int) - 1 - m = ((s (p + 1) - 1 - m : Nat) : Int) by omega]
        refine ld_l2 iX1_leastNoLess_53 ?_
        refine xX7_firstNoLess kMX1_100 iX1_leastNoLess_54 (by decide) (Nat.le_of_ble_eq_true rfl) rfl rfl ?_
        refine c_firstNoLess (by omega) hbm hG (by rw [show ((s (p + 1) - 1 - m : Nat) : Int) = ((s (p + 1) - 1 : Nat) : Int) - m by omega, ← hll]; exact hbl) hv (fun r hr => ?_)
        have hr := fst_shift hPc hp1 (show s p ≤ m by omega) (by omega) hr
        have hrb : -1 ≤ r ∧ r ≤ 20000 := by rcases hr with ⟨q, _⟩ | ⟨w, q, _⟩ <;> omega
        refine sv_i6 (by decide) rfl iX1_leastNoLess_57 ?_
        refine ld_i6 iX1_leastNoLess_59 ?_
        refine r_iconst iX1_leastNoLess_61 ?_
        refine r_icmpeq iX1_leastNoLess_62 (by omega) (by omega) (fun h62 => ?_) (fun h62 => ?_)
        · have hr : ∀ w, m ≤ w → w < s (p + 1) → ¬ v ≤ F w := by
            rcases hr with ⟨_, q⟩ | ⟨w, q1, q2, _⟩
            · exact q
            · omega
          refine inc_4 (by decide) rfl iX1_leastNoLess_71 ?_
          refine r_goto iX1_leastNoLess_74 ?_
          refine fg_5 (fg_6 ?_)
          exact ih (P - (p + 1)) (by omega) (p + 1) _ rfl (by omega) (by omega) (fun q => by have := hPc.2.2.2.2.1 (p + 1) q; omega) (fun w q1 q2 => by rcases Nat.lt_or_ge w m with z | z; exact hno w q1 (by omega); exact hr w z q2)
        · refine ld_i5 iX1_leastNoLess_65 ?_
          refine ld_i6 iX1_leastNoLess_67 ?_
          refine r_iadd iX1_leastNoLess_69 ?_
          refine t_int rfl iX1_leastNoLess_70 ?_
          rcases hr with ⟨q, _⟩ | ⟨w, q1, q2, q3, q4, q5, q6⟩
          · omega
          · rw [q1]; exact hq _ _ hs (Or.inr ⟨w, rfl, by omega, by omega, q5, fun u z1 z2 => by rcases Nat.lt_or_ge u m with z | z; exact hno u z1 (by omega); exact q6 u z z2⟩)
  refine ld_a0 iX1_leastNoLess_0 ?_
  refine ld_i1 iX1_leastNoLess_1 ?_
  refine xX1_pieceOf kMX1_82 iX1_leastNoLess_2 (by decide) (Nat.le_of_ble_eq_true rfl) rfl rfl ?_
  refine c_pieceOf hL ha (fun p N' h1 h2 h3 h4 => ?_)
  refine sv_i4 (by decide) rfl iX1_leastNoLess_5 ?_
  exact loop N' h4 (P - p) p _ rfl (by omega) rfl (fun _ => h3) (fun w z1 z2 => by omega)
end Line8
