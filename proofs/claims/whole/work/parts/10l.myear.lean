/-! own text: the reference's year, searches; bend -/
section MYear3
variable {K : Kx} {N : Nm} {g : Ge} {d : Dk} {wg : Nat → Int} {p : Nat}
/-- what the reference has of the months ahead of n -/
def soT (F wg : Nat → Int) (n : Nat) (pd ab le lp : Int) : Prop := pd = sW wg n * 1000000000 - du F n (sW wg n) ∧ ab = ct (fun k => decide (wg k * 1000000000 < pIn F wg k)) n ∧ ((n = 0 ∧ le = -1) ∨ ∃ b : Nat, le = b ∧ b < n ∧ lp = pIn F wg b ∧ (∀ u, u < n → pIn F wg b ≤ pIn F wg u) ∧ ∀ u, u < b → pIn F wg b < pIn F wg u)
theorem m_sofar {w : Int} {Pq : Int → Nm → Ge → Prop} (hM : MS N d) (hY : YM N wg p) (rw' : rI w) (hq1 : N 40 0 22 = 1 ∧ (0 ≤ w ∧ w ≤ 3) → ∀ (r : Int) N', (w = 0 → r = sW wg p) ∧ (w = 1 → r = sW wg p * 1000000000 - du (PD d) p (sW wg p)) ∧ (w = 2 → r = ct (fun k => decide (wg k * 1000000000 < pIn (PD d) wg k)) p) ∧ (w = 3 → Amx (fun k => - pIn (PD d) wg k) (fun _ => True) p r) → FrV N N' → Pq r N' g) (hq0 : ¬ (N 40 0 22 = 1 ∧ (0 ≤ w ∧ w ≤ 3)) → ∀ N', FrV N N' → Pq HID N' g) : Ck K YX10_sofar hX10_sofar [vr 40 0, vi w] N g (qL Pq) := by
  have y2 := hY.2.1
  have b1 := sW_bd p (fun j hj => (hY.2.2 j (by omega)).2)
  refine Ck.intro 9 (by decide) rfl ?_
  show AW _ _ _ _ _ [some (vr 40 0), some (vi w), none, none, none, none, none, none, none, none, none] _ _ _
  have loop : N 40 0 22 = 1 ∧ (0 ≤ w ∧ w ≤ 3) → ∀ (k n : Nat) (pd ab le lp c : Int) (N2 : Nm), p - n = k → n ≤ p → c = n → FrV N N2 → soT (PD d) wg n pd ab le lp → AW K YX10_sofar hX10_sofar (qL Pq) 42 [some (vr 40 0), some (vi w), some (vl pd), none, some (vi ab), some (vi le), some (vl lp), none, some (vi c), none, none] [] N2 g := by
    intro h1 k
    have hW := (hM.2.2 h1.1).1
    have bF0 : ∀ u, u < 10000 → bF (PD d u) := fun u hu => by have : -132000000000000000 ≤ PD d u ∧ PD d u ≤ 132000000000000000 := LF_bd hW hW.2.1 (Or.inr rfl) u hu; omega
    have pb : ∀ k, k < p → -2000000000000000000 ≤ pIn (PD d) wg k ∧ pIn (PD d) wg k ≤ 2000000000000000000 := fun k hk => pIn_bd bF0 (by omega) (fun j hj => (hY.2.2 j (by omega)).2)
    induction k using Nat.strongRecOn with
    | _ k ih =>
      intro n pd ab le lp c N2 e hn hc hF hT
      subst hc
      obtain ⟨t1, t2, t3⟩ := hT
      have hY2 := hY.v hF
      have h22 : N2 40 0 22 = 1 := by rw [hF 40 0 22 (by omega) (by omega)]; exact h1.1
      have rle : rI le := by rcases t3 with ⟨-, q⟩ | ⟨b, q, q1, -⟩ <;> omega
      have rlp : le ≠ -1 → -2000000000000000000 ≤ lp ∧ lp ≤ 2000000000000000000 := fun hne => by
        rcases t3 with ⟨-, q⟩ | ⟨b, q, q1, q2, -⟩
        · exact absurd q hne
        · rw [q2]; exact pb b (by omega)
      have nx : ∀ (ab' le' lp' : Int) (N3 : Nm), n < p → FrV N N3 → ab' = ct (fun k => decide (wg k * 1000000000 < pIn (PD d) wg k)) (n + 1) → ((le' = n ∧ lp' = pIn (PD d) wg n ∧ (n = 0 ∨ ∃ b : Nat, le = b ∧ lp = pIn (PD d) wg b ∧ pIn (PD d) wg n < lp)) ∨ (le' = le ∧ lp' = lp ∧ le ≠ -1 ∧ lp ≤ pIn (PD d) wg n)) → AW K YX10_sofar hX10_sofar (qL Pq) 114 [some (vr 40 0), some (vi w), some (vl (pd + pIn (PD d) wg n)), none, some (vi ab'), some (vi le'), some (vl lp'), none, some (vi n), some (vl (pIn (PD d) wg n)), none] [] N3 g := by
        intro ab' le' lp' N3 hnp hF3 hab hl
        have hT' : soT (PD d) wg (n + 1) (pd + pIn (PD d) wg n) ab' le' lp' := by
          refine ⟨?_, hab, Or.inr ?_⟩
          · rw [t1]; unfold pIn; rw [show ((n + 1 : Nat) : Int) = (n : Int) + 1 by omega, show sW wg (n + 1) = sW wg n + wg n from rfl, Int.add_mul]; omega
          · rcases hl with ⟨l1, l2, l3⟩ | ⟨l1, l2, l3, l4⟩
            · refine ⟨n, l1, by omega, l2, fun u hu => ?_, fun u hu => ?_⟩
              · by_cases eu : u = n
                · rw [eu]; exact Int.le_refl _
                · rcases t3 with ⟨q, -⟩ | ⟨b, q, q1, q2, q3, q4⟩
                  · omega
                  · have := q3 u (by omega)
                    rcases l3 with z | ⟨b', z1, z2, z3⟩ <;> omega
              · rcases t3 with ⟨q, -⟩ | ⟨b, q, q1, q2, q3, q4⟩
                · omega
                · have := q3 u (by omega)
                  rcases l3 with z | ⟨b', z1, z2, z3⟩ <;> omega
            · rcases t3 with ⟨-, q⟩ | ⟨b, q, q1, q2, q3, q4⟩
              · exact absurd q l3
              · refine ⟨b, by omega, by omega, by omega, fun u hu => ?_, q4⟩
                by_cases eu : u = n
                · rw [eu]; omega
                · exact q3 u (by omega)
        clear t3 hl
        refine inc_8 (by decide) rfl iX10_sofar_114 ?_
        refine r_goto iX10_sofar_117 ?_
        refine fg_9 ?_
        exact ih (p - (n + 1)) (by omega) (n + 1) _ _ _ _ _ N3 rfl (by omega) (by omega) hF3 hT'
      have t3' : (n = 0 ∧ le = -1) ∨ (le ≠ -1 ∧ ∃ b : Nat, le = b ∧ lp = pIn (PD d) wg b) := by
        rcases t3 with q | ⟨b, q, q1, q2, -⟩
        · exact Or.inl q
        · exact Or.inr ⟨by omega, b, q, q2⟩
      have mid : ∀ (ab' : Int) (N3 : Nm), n < p → FrV N N3 → ab' = ct (fun k => decide (wg k * 1000000000 < pIn (PD d) wg k)) (n + 1) → AW K YX10_sofar hX10_sofar (qL Pq) 92 [some (vr 40 0), some (vi w), some (vl (pd + pIn (PD d) wg n)), none, some (vi ab'), some (vi le), some (vl lp), none, some (vi n), some (vl (pIn (PD d) wg n)), none] [] N3 g := by
        intro ab' N3 hnp hF3 hab
        have pn := pb n hnp
        clear t3
        rcases t3' with ⟨q0, q1⟩ | ⟨q0, b, q1, q2⟩
        · refine ld_i5 iX10_sofar_92 ?_
          refine r_iconst iX10_sofar_94 ?_
          refine r_icmpeq iX10_sofar_95 (by omega) (by omega) (fun h95 => ?_) (fun h95 => ?_)
          · refine ld_i8 iX10_sofar_106 ?_
            refine sv_i5 (by decide) rfl iX10_sofar_108 ?_
            refine ld_l9 iX10_sofar_110 ?_
            refine sv_l6 (by decide) rfl iX10_sofar_112 ?_
            exact nx _ _ _ N3 hnp hF3 hab (Or.inl ⟨rfl, rfl, Or.inl q0⟩)
          · exfalso; omega
        · have rl := rlp q0
          refine ld_i5 iX10_sofar_92 ?_
          refine r_iconst iX10_sofar_94 ?_
          refine r_icmpeq iX10_sofar_95 (by omega) (by omega) (fun h95 => ?_) (fun h95 => ?_)
          · exfalso; omega
          · refine ld_l9 iX10_sofar_98 ?_
            refine ld_l6 iX10_sofar_100 ?_
            refine r_lcge iX10_sofar_102 iX10_sofar_103 (by omega) (by omega) (fun h102 => ?_) (fun h102 => ?_)
            · first
                | exact nx _ _ _ N3 hnp hF3 hab (Or.inr ⟨rfl, rfl, q0, by omega⟩)
                | exact nx _ _ _ N3 hnp hF3 hab (Or.inl ⟨rfl, rfl, Or.inr ⟨b, q1, q2, by omega⟩⟩)
            · refine ld_i8 iX10_sofar_106 ?_
              refine sv_i5 (by decide) rfl iX10_sofar_108 ?_
              refine ld_l9 iX10_sofar_110 ?_
              refine sv_l6 (by decide) rfl iX10_sofar_112 ?_
              first
                | exact nx _ _ _ N3 hnp hF3 hab (Or.inr ⟨rfl, rfl, q0, by omega⟩)
                | exact nx _ _ _ N3 hnp hF3 hab (Or.inl ⟨rfl, rfl, Or.inr ⟨b, q1, q2, by omega⟩⟩)
      refine ld_i8 iX10_sofar_42 ?_
      refine ld_a0 iX10_sofar_44 ?_
      refine gf_X10_months kFX10_168 iX10_sofar_45 ?_
      rw [hY2.1]
      refine r_icmpge iX10_sofar_48 (by omega) (by omega) (fun h48 => ?_) (fun h48 => ?_)
      · have e : n = p := by omega
        subst e
        have cl := ct_le (fun k => decide (wg k * 1000000000 < pIn (PD d) wg k)) n
        have hamx : Amx (fun k => - pIn (PD d) wg k) (fun _ => True) n le := by
          rcases t3 with ⟨q, q1⟩ | ⟨b, q, q1, q2, q3, q4⟩
          · exact Or.inl ⟨q1, fun u hu => by omega⟩
          · exact Or.inr ⟨b, q, q1, trivial, fun u hu _ => by have := q3 u hu; show - pIn (PD d) wg u ≤ - pIn (PD d) wg b; omega, fun u hu _ => by have := q4 u hu; show - pIn (PD d) wg u < - pIn (PD d) wg b; omega⟩
        clear t3 t3'
        refine ld_i1 iX10_sofar_120 ?_
        refine r_ifne iX10_sofar_121 (by omega) (fun h121 => ?_) (fun h121 => ?_)
        · refine ld_i1 iX10_sofar_136 ?_
          refine r_iconst iX10_sofar_137 ?_
          refine r_icmpne iX10_sofar_138 (by omega) (by omega) (fun h138 => ?_) (fun h138 => ?_)
          · refine ld_i1 iX10_sofar_145 ?_
            refine r_iconst iX10_sofar_146 ?_
            refine r_icmpne iX10_sofar_147 (by omega) (by omega) (fun h147 => ?_) (fun h147 => ?_)
            · refine ld_i5 iX10_sofar_156 ?_
              refine r_i2l (by omega) iX10_sofar_158 ?_
              refine t_long rfl iX10_sofar_159 ?_
              first
                | exact hq1 h1 _ N2 ⟨fun _ => rfl, fun q => by omega, fun q => by omega, fun q => by omega⟩ hF
                | exact hq1 h1 _ N2 ⟨fun q => by omega, fun _ => t1, fun q => by omega, fun q => by omega⟩ hF
                | exact hq1 h1 _ N2 ⟨fun q => by omega, fun q => by omega, fun _ => t2, fun q => by omega⟩ hF
                | exact hq1 h1 _ N2 ⟨fun q => by omega, fun q => by omega, fun q => by omega, fun _ => hamx⟩ hF
            · refine ld_i4 iX10_sofar_150 ?_
              refine r_i2l (by omega) iX10_sofar_152 ?_
              refine r_goto iX10_sofar_153 ?_
              refine t_long rfl iX10_sofar_159 ?_
              first
                | exact hq1 h1 _ N2 ⟨fun _ => rfl, fun q => by omega, fun q => by omega, fun q => by omega⟩ hF
                | exact hq1 h1 _ N2 ⟨fun q => by omega, fun _ => t1, fun q => by omega, fun q => by omega⟩ hF
                | exact hq1 h1 _ N2 ⟨fun q => by omega, fun q => by omega, fun _ => t2, fun q => by omega⟩ hF
                | exact hq1 h1 _ N2 ⟨fun q => by omega, fun q => by omega, fun q => by omega, fun _ => hamx⟩ hF
          · refine ld_l2 iX10_sofar_141 ?_
            refine r_goto iX10_sofar_142 ?_
            refine t_long rfl iX10_sofar_159 ?_
            first
              | exact hq1 h1 _ N2 ⟨fun _ => rfl, fun q => by omega, fun q => by omega, fun q => by omega⟩ hF
              | exact hq1 h1 _ N2 ⟨fun q => by omega, fun _ => t1, fun q => by omega, fun q => by omega⟩ hF
              | exact hq1 h1 _ N2 ⟨fun q => by omega, fun q => by omega, fun _ => t2, fun q => by omega⟩ hF
              | exact hq1 h1 _ N2 ⟨fun q => by omega, fun q => by omega, fun q => by omega, fun _ => hamx⟩ hF
        · refine ld_a0 iX10_sofar_124 ?_
          refine ld_a0 iX10_sofar_125 ?_
          refine gf_X10_months kFX10_168 iX10_sofar_126 ?_
          rw [hY2.1]
          refine xX10_wagesOf kMX10_304 iX10_sofar_129 (by decide) (Nat.le_of_ble_eq_true rfl) rfl rfl ?_
          refine c_mWagesOf hY2 (Nat.le_refl _) ?_
          refine r_i2l (by omega) iX10_sofar_132 ?_
          refine r_goto iX10_sofar_133 ?_
          refine t_long rfl iX10_sofar_159 ?_
          first
            | exact hq1 h1 _ N2 ⟨fun _ => rfl, fun q => by omega, fun q => by omega, fun q => by omega⟩ hF
            | exact hq1 h1 _ N2 ⟨fun q => by omega, fun _ => t1, fun q => by omega, fun q => by omega⟩ hF
            | exact hq1 h1 _ N2 ⟨fun q => by omega, fun q => by omega, fun _ => t2, fun q => by omega⟩ hF
            | exact hq1 h1 _ N2 ⟨fun q => by omega, fun q => by omega, fun q => by omega, fun _ => hamx⟩ hF
      · have pn := pb n (by omega)
        have y3 := hY.2.2 n (by omega)
        clear t3 t3'
        refine ld_a0 iX10_sofar_51 ?_
        refine ld_i8 iX10_sofar_52 ?_
        refine xX10_paidIn kMX10_313 iX10_sofar_54 (by decide) (Nat.le_of_ble_eq_true rfl) rfl rfl ?_
        refine c_mPaidIn (hM.v hF) h22 hY2 (by omega) (fun N3 e1 => ?_)
        have hF3 := hF.tr (e1.v (by omega) (by omega))
        refine sv_l9 (by decide) rfl iX10_sofar_57 ?_
        refine ld_l2 iX10_sofar_59 ?_
        refine ld_l9 iX10_sofar_60 ?_
        refine r_ladd iX10_sofar_62 ?_
        refine sv_l2 (by decide) rfl iX10_sofar_63 ?_
        refine ld_i4 iX10_sofar_64 ?_
        refine ld_l9 iX10_sofar_66 ?_
        refine ld_a0 iX10_sofar_68 ?_
        refine gf_X10_wage kFX10_52 iX10_sofar_69 ?_
        refine ld_i8 iX10_sofar_72 ?_
        refine al_55 rfl (by omega) iX10_sofar_74 ?_
        rw [((hY.v hF3).2.2 n (by omega)).1]
        refine r_i2l (by omega) iX10_sofar_75 ?_
        refine r_ldc2 (z := 1000000000) kKX10_178 (by decide) iX10_sofar_76 ?_
        refine r_lmul iX10_sofar_79 ?_
        refine r_lcle iX10_sofar_80 iX10_sofar_81 (by omega) (by omega) (fun h80 => ?_) (fun h80 => ?_)
        · refine r_iconst iX10_sofar_88 ?_
          refine r_iadd iX10_sofar_89 ?_
          refine sv_i4 (by decide) rfl iX10_sofar_90 ?_
          first
            | exact mid _ N3 (by omega) hF3 (by rw [ct, decide_eq_true (show wg n * 1000000000 < pIn (PD d) wg n by omega), t2]; simp)
            | exact mid _ N3 (by omega) hF3 (by rw [ct, decide_eq_false (show ¬ wg n * 1000000000 < pIn (PD d) wg n by omega), t2]; simp)
        · refine r_iconst iX10_sofar_84 ?_
          refine r_goto iX10_sofar_85 ?_
          refine r_iadd iX10_sofar_89 ?_
          refine sv_i4 (by decide) rfl iX10_sofar_90 ?_
          first
            | exact mid _ N3 (by omega) hF3 (by rw [ct, decide_eq_true (show wg n * 1000000000 < pIn (PD d) wg n by omega), t2]; simp)
            | exact mid _ N3 (by omega) hF3 (by rw [ct, decide_eq_false (show ¬ wg n * 1000000000 < pIn (PD d) wg n by omega), t2]; simp)
  refine ld_a0 iX10_sofar_0 ?_
  refine r_iconst iX10_sofar_1 ?_
  refine pf_X10_thrown kFX10_72 iX10_sofar_2 ?_
  obtain ⟨N1, hN1, f0⟩ : ∃ N1, N1 = upN N 40 0 0 0 ∧ FrV N N1 := ⟨_, rfl, thr_v N⟩
  rw [← hN1]
  clear hN1
  have hM1 := hM.v f0
  have h22 : N1 40 0 22 = N 40 0 22 := f0 40 0 22 (by omega) (by omega)
  have h01 := hM1.1
  refine ld_a0 iX10_sofar_5 ?_
  refine gf_X10_isDesk kFX10_165 iX10_sofar_6 ?_
  refine r_ifeq iX10_sofar_9 (by omega) (fun h9 => ?_) (fun h9 => ?_)
  · refine r_ldc2 (z := -9000000000000000000) kKX10_254 (by decide) iX10_sofar_24 ?_
    refine t_long rfl iX10_sofar_27 ?_
    exact hq0 (by omega) _ f0
  · refine ld_i1 iX10_sofar_12 ?_
    refine r_i2l (by omega) iX10_sofar_13 ?_
    refine r_lconst (v := 0) (by decide) iX10_sofar_14 ?_
    refine r_ldc2 (z := 3) kKX10_239 (by decide) iX10_sofar_15 ?_
    refine xX10_in kMX10_82 iX10_sofar_18 (by decide) (Nat.le_of_ble_eq_true rfl) rfl rfl ?_
    refine c_in (by omega) (by omega) (by omega) ?_
    refine r_ifne iX10_sofar_21 (by exact tf_r _) (fun h21 => ?_) (fun h21 => ?_)
    · have h21 := tf_y h21
      refine r_lconst (v := 0) (by decide) iX10_sofar_28 ?_
      refine sv_l2 (by decide) rfl iX10_sofar_29 ?_
      refine r_iconst iX10_sofar_30 ?_
      refine sv_i4 (by decide) rfl iX10_sofar_31 ?_
      refine r_iconst iX10_sofar_33 ?_
      refine sv_i5 (by decide) rfl iX10_sofar_34 ?_
      refine r_lconst (v := 0) (by decide) iX10_sofar_36 ?_
      refine sv_l6 (by decide) rfl iX10_sofar_37 ?_
      refine r_iconst iX10_sofar_39 ?_
      refine sv_i8 (by decide) rfl iX10_sofar_40 ?_
      exact loop ⟨by omega, h21⟩ p 0 _ _ _ _ _ N1 (by omega) (by omega) (by omega) f0 ⟨by simp [sW, du], rfl, Or.inl ⟨rfl, rfl⟩⟩
    · have h21 := tf_n h21
      refine r_ldc2 (z := -9000000000000000000) kKX10_254 (by decide) iX10_sofar_24 ?_
      refine t_long rfl iX10_sofar_27 ?_
      exact hq0 (by omega) _ f0
theorem m_nextMonth {v : Int} {Pq : Int → Nm → Ge → Prop} (hM : MS N d) (hY : YM N wg p) (rv : rL v) (hq1 : N 40 0 22 = 1 ∧ p < 12 → ∀ r N', Fst (fun w => v ≤ (w : Int) * 1000000000 - (du (PD d) (p + 1) (sW wg p + w) - du (PD d) p (sW wg p))) 0 10000 r → FrV N N' → Pq r N' g) (hq0 : ¬ (N 40 0 22 = 1 ∧ p < 12) → ∀ N', FrV N N' → Pq (-1) N' g) : Ck K YX10_nextMonth hX10_nextMonth [vr 40 0, vl v] N g (qI Pq) := by
  have y2 := hY.2.1
  have b0 := sW_bd p (fun j hj => (hY.2.2 j (by omega)).2)
  refine Ck.intro 4 (by decide) rfl ?_
  show AW _ _ _ _ _ [some (vr 40 0), some (vl v), none, none, none, none, none] _ _ _
  have loop : N 40 0 22 = 1 ∧ p < 12 → ∀ (n w : Nat) (c : Int) (N2 : Nm), 10000 - w = n → w ≤ 10000 → c = w → FrV N N2 → (∀ u : Nat, u < w → ¬ v ≤ (u : Int) * 1000000000 - (du (PD d) (p + 1) (sW wg p + u) - du (PD d) p (sW wg p))) → AW K YX10_nextMonth hX10_nextMonth (qI Pq) 45 [some (vr 40 0), some (vl v), none, some (vi (sW wg p)), some (vl (du (PD d) p (sW wg p))), none, some (vi c)] [] N2 g := by
    intro h1 n
    have hW := (hM.2.2 h1.1).1
    have bF0 : ∀ u, u < 10000 → bF (PD d u) := fun u hu => by have : -132000000000000000 ≤ PD d u ∧ PD d u ≤ 132000000000000000 := LF_bd hW hW.2.1 (Or.inr rfl) u hu; omega
    have d0 := du_bd bF0 (m := p) (t := sW wg p) (by omega) b0.1
    induction n using Nat.strongRecOn with
    | _ n ih =>
      intro w c N2 e hw hc hF hn
      subst hc
      have d1 := du_bd bF0 (m := p + 1) (t := sW wg p + w) (by omega) (by omega)
      refine ld_i6 iX10_nextMonth_45 ?_
      refine r_sipush (by decide) iX10_nextMonth_47 ?_
      refine r_icmpge iX10_nextMonth_50 (by omega) (by omega) (fun h50 => ?_) (fun h50 => ?_)
      · refine r_iconst iX10_nextMonth_92 ?_
        refine t_int rfl iX10_nextMonth_93 ?_
        exact hq1 h1 _ N2 (Or.inl ⟨rfl, fun u _ hu => hn u (by omega)⟩) hF
      · refine ld_i6 iX10_nextMonth_53 ?_
        refine r_i2l (by omega) iX10_nextMonth_55 ?_
        refine r_ldc2 (z := 1000000000) kKX10_178 (by decide) iX10_nextMonth_56 ?_
        refine r_lmul iX10_nextMonth_59 ?_
        refine ld_a0 iX10_nextMonth_60 ?_
        refine ld_a0 iX10_nextMonth_61 ?_
        refine gf_X10_months kFX10_168 iX10_nextMonth_62 ?_
        rw [(hY.v hF).1]
        refine r_iconst iX10_nextMonth_65 ?_
        refine r_iadd iX10_nextMonth_66 ?_
        refine ld_i3 iX10_nextMonth_67 ?_
        refine ld_i6 iX10_nextMonth_68 ?_
        refine r_iadd iX10_nextMonth_70 ?_
        refine xX10_due kMX10_307 iX10_nextMonth_71 (by decide) (Nat.le_of_ble_eq_true rfl) rfl rfl ?_
        refine c_mDue (hM.v hF) (by rw [hF 40 0 22 (by omega) (by omega)]; exact h1.1) (by omega) (by omega) (fun N3 e1 => ?_)
        refine ld_l4 iX10_nextMonth_74 ?_
        refine r_lsub iX10_nextMonth_76 ?_
        refine r_lsub iX10_nextMonth_77 ?_
        refine ld_l1 iX10_nextMonth_78 ?_
        refine r_lclt iX10_nextMonth_79 iX10_nextMonth_80 (by omega) (by omega) (fun h79 => ?_) (fun h79 => ?_)
        · refine inc_6 (by decide) rfl iX10_nextMonth_86 ?_
          refine r_goto iX10_nextMonth_89 ?_
          refine ih (10000 - (w + 1)) (by omega) (w + 1) _ N3 rfl (by omega) (by omega) (hF.tr (e1.v (by omega) (by omega))) (fun u hu => ?_)
          by_cases eu : u = w
          · rw [eu]; omega
          · exact hn u (by omega)
        · refine ld_i6 iX10_nextMonth_83 ?_
          refine t_int rfl iX10_nextMonth_85 ?_
          exact hq1 h1 _ N3 (Or.inr ⟨w, rfl, by omega, by omega, by omega, fun u _ hu => hn u hu⟩) (hF.tr (e1.v (by omega) (by omega)))
  refine ld_a0 iX10_nextMonth_0 ?_
  refine r_iconst iX10_nextMonth_1 ?_
  refine pf_X10_thrown kFX10_72 iX10_nextMonth_2 ?_
  obtain ⟨N1, hN1, f0⟩ : ∃ N1, N1 = upN N 40 0 0 0 ∧ FrV N N1 := ⟨_, rfl, thr_v N⟩
  rw [← hN1]
  clear hN1
  have hM1 := hM.v f0
  have h22 : N1 40 0 22 = N 40 0 22 := f0 40 0 22 (by omega) (by omega)
  have h01 := hM1.1
  have hY1 := hY.v f0
  refine ld_a0 iX10_nextMonth_5 ?_
  refine gf_X10_isDesk kFX10_165 iX10_nextMonth_6 ?_
  refine r_ifeq iX10_nextMonth_9 (by omega) (fun h9 => ?_) (fun h9 => ?_)
  · refine r_iconst iX10_nextMonth_21 ?_
    refine t_int rfl iX10_nextMonth_22 ?_
    exact hq0 (by omega) _ f0
  · refine ld_a0 iX10_nextMonth_12 ?_
    refine gf_X10_months kFX10_168 iX10_nextMonth_13 ?_
    rw [hY1.1]
    refine r_bipush (by decide) iX10_nextMonth_16 ?_
    refine r_icmpne iX10_nextMonth_18 (by omega) (by omega) (fun h18 => ?_) (fun h18 => ?_)
    · refine ld_a0 iX10_nextMonth_23 ?_
      refine ld_a0 iX10_nextMonth_24 ?_
      refine gf_X10_months kFX10_168 iX10_nextMonth_25 ?_
      rw [hY1.1]
      refine xX10_wagesOf kMX10_304 iX10_nextMonth_28 (by decide) (Nat.le_of_ble_eq_true rfl) rfl rfl ?_
      refine c_mWagesOf hY1 (Nat.le_refl _) ?_
      refine sv_i3 (by decide) rfl iX10_nextMonth_31 ?_
      refine ld_a0 iX10_nextMonth_32 ?_
      refine ld_a0 iX10_nextMonth_33 ?_
      refine gf_X10_months kFX10_168 iX10_nextMonth_34 ?_
      rw [hY1.1]
      refine xX10_dueBehind kMX10_310 iX10_nextMonth_37 (by decide) (Nat.le_of_ble_eq_true rfl) rfl rfl ?_
      refine c_dueBehind hM1 (by omega) hY1 (Nat.le_refl _) (fun N2 e1 => ?_)
      refine sv_l4 (by decide) rfl iX10_nextMonth_40 ?_
      refine r_iconst iX10_nextMonth_42 ?_
      refine sv_i6 (by decide) rfl iX10_nextMonth_43 ?_
      exact loop ⟨by omega, by omega⟩ 10000 0 _ N2 (by omega) (by omega) (by omega) (f0.tr (e1.v (by omega) (by omega))) (fun u hu => by omega)
    · refine r_iconst iX10_nextMonth_21 ?_
      refine t_int rfl iX10_nextMonth_22 ?_
      exact hq0 (by omega) _ f0
end MYear3
