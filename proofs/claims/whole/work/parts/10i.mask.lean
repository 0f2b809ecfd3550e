/-! own text: what the reference answers: most, count, account -/
theorem amx_first {F : Nat → Int} {n : Nat} : ∀ b, b < n → (∀ u, u < n → F u ≤ F b) → ∃ b' : Nat, b' < n ∧ Amx F (fun _ => True) n b' ∧ F b' = F b := by
  intro b
  induction b using Nat.strongRecOn with
  | _ b ih =>
    intro hb hm
    by_cases c : ∃ u, u < b ∧ F u = F b
    · obtain ⟨u, u1, u2⟩ := c
      obtain ⟨b', k1, k2, k3⟩ := ih u u1 (by omega) (fun x hx => by rw [u2]; exact hm x hx)
      exact ⟨b', k1, k2, by rw [k3, u2]⟩
    · refine ⟨b, hb, Or.inr ⟨b, rfl, hb, trivial, fun u hu _ => hm u hu, fun u hu _ => ?_⟩, rfl⟩
      have h1 := hm u (by omega)
      have h2 : F u ≠ F b := fun q => c ⟨u, hu, q⟩
      omega
section MAsk7
variable {K : Kx} {N : Nm} {g : Ge} {d : Dk}
theorem m_most {w : Int} {Pq : Int → Nm → Ge → Prop} (hM : MS N d) (rw' : rI w) (hq1 : N 40 0 22 = 1 ∧ (0 ≤ w ∧ w ≤ 9) → ∀ r N', moA (PD d) w r → FrV N N' → Pq r N' g) (hq0 : ¬ (N 40 0 22 = 1 ∧ (0 ≤ w ∧ w ≤ 9)) → ∀ N', FrV N N' → Pq HID N' g) : Ck K YX10_most hX10_most [vr 40 0, vi w] N g (qL Pq) := by
  refine Ck.intro 0 (by decide) rfl ?_
  show AW _ _ _ _ _ [some (vr 40 0), some (vi w)] _ _ _
  have t142 : ∀ (N2 : Nm) (z : Int), N 40 0 22 = 1 → (w = 6 ∨ w = 7) → z = (if decide (w = 6) then 1 else 0) → FrV N N2 → La N2 (PD d) → AW K YX10_most hX10_most (qL Pq) 142 [some (vr 40 0), some (vi w)] [vi z, vr 40 0] N2 g := by
    intro N2 z h1 hw hz f1 hL
    subst hz
    have c1 := (rn_le (trB (PD d)) 10000).2
    have c2 := ct_le (trB (PD d)) 10000
    refine xX10_traps kMX10_356 iX10_most_142 (by decide) (Nat.le_of_ble_eq_true rfl) rfl rfl ?_
    refine c_traps hL ?_
    have hr : rI (if decide (w = 6) then (lr (trB (PD d)) 10000 : Int) else ct (trB (PD d)) 10000) := by split <;> omega
    refine r_i2l (by omega) iX10_most_145 ?_
    refine t_long rfl iX10_most_146 ?_
    rcases hw with e | e <;> subst e
    · exact hq1 ⟨h1, by omega⟩ _ N2 ⟨fun q => by omega, fun q => by omega, fun q => by omega, fun q => by omega, fun q => by omega, fun q => by omega, fun _ => rfl, fun q => by omega, fun q => by omega, fun q => by omega⟩ f1
    · exact hq1 ⟨h1, by omega⟩ _ N2 ⟨fun q => by omega, fun q => by omega, fun q => by omega, fun q => by omega, fun q => by omega, fun q => by omega, fun q => by omega, fun _ => rfl, fun q => by omega, fun q => by omega⟩ f1
  refine ld_a0 iX10_most_0 ?_
  refine r_iconst iX10_most_1 ?_
  refine pf_X10_thrown kFX10_72 iX10_most_2 ?_
  obtain ⟨N1, hN1, f0⟩ : ∃ N1, N1 = upN N 40 0 0 0 ∧ FrV N N1 := ⟨_, rfl, thr_v N⟩
  rw [← hN1]
  clear hN1
  have hM1 := hM.v f0
  have h22 : N1 40 0 22 = N 40 0 22 := f0 40 0 22 (by omega) (by omega)
  have h01 := hM1.1
  refine ld_a0 iX10_most_5 ?_
  refine gf_X10_isDesk kFX10_165 iX10_most_6 ?_
  refine r_ifeq iX10_most_9 (by omega) (fun h9 => ?_) (fun h9 => ?_)
  · refine r_ldc2 (z := -9000000000000000000) kKX10_254 (by decide) iX10_most_24 ?_
    refine t_long rfl iX10_most_27 ?_
    exact hq0 (by omega) _ f0
  · refine ld_i1 iX10_most_12 ?_
    refine r_i2l (by omega) iX10_most_13 ?_
    refine r_lconst (v := 0) (by decide) iX10_most_14 ?_
    refine r_ldc2 (z := 9) kKX10_341 (by decide) iX10_most_15 ?_
    refine xX10_in kMX10_82 iX10_most_18 (by decide) (Nat.le_of_ble_eq_true rfl) rfl rfl ?_
    refine c_in (by omega) (by omega) (by omega) ?_
    refine r_ifne iX10_most_21 (by exact tf_r _) (fun h21 => ?_) (fun h21 => ?_)
    · have h21 := tf_y h21
      refine ld_a0 iX10_most_28 ?_
      refine r_iconst iX10_most_29 ?_
      refine xX10_laysPieces kMX10_228 iX10_most_30 (by decide) (Nat.le_of_ble_eq_true rfl) rfl rfl ?_
      refine c_laysPieces hM1 (by omega) (by omega) (fun N2 P s e1 e2 e3 e4 => ?_)
      have fv := f0.tr e1
      have hq1 := hq1 ⟨by omega, h21⟩
      have hL : La N2 (PD d) := e2
      have hPs : Ps (PD d) P s := e4
      have hPl := hPs.P_le
      refine ld_i1 iX10_most_33 ?_
      refine r_tsw9 (tg0 := 84) (tg1 := 90) (tg2 := 101) (tg3 := 107) (tg4 := 118) (tg5 := 124) (tg6 := 130) (tg7 := 130) (tg8 := 147) (tgd := 153) iX10_most_34 (by omega) rfl rfl rfl rfl rfl rfl rfl rfl rfl rfl (fun h34 => ?_) (fun h34 => ?_) (fun h34 => ?_) (fun h34 => ?_) (fun h34 => ?_) (fun h34 => ?_) (fun h34 => ?_) (fun h34 => ?_) (fun h34 => ?_) (fun h34 => ?_)
      · refine ld_a0 iX10_most_84 ?_
        refine r_iconst iX10_most_85 ?_
        refine xX10_extreme kMX10_343 iX10_most_86 (by decide) (Nat.le_of_ble_eq_true rfl) rfl rfl ?_
        refine c_extreme (m := true) hL (fun b b1 b2 => ?_)
        refine t_long rfl iX10_most_89 ?_
        obtain ⟨b', k1, k2, k3⟩ := amx_first b b1 b2
        exact hq1 _ N2 ⟨fun _ => ⟨b', k2, k3.symm⟩, fun q => by omega, fun q => by omega, fun q => by omega, fun q => by omega, fun q => by omega, fun q => by omega, fun q => by omega, fun q => by omega, fun q => by omega⟩ fv
      · refine ld_a0 iX10_most_90 ?_
        refine ld_a0 iX10_most_91 ?_
        refine r_iconst iX10_most_92 ?_
        refine xX10_extreme kMX10_343 iX10_most_93 (by decide) (Nat.le_of_ble_eq_true rfl) rfl rfl ?_
        refine c_extreme (m := true) hL (fun b b1 b2 => ?_)
        have bb := hL.bd b b1
        refine xX10_firstWith kMX10_347 iX10_most_96 (by decide) (Nat.le_of_ble_eq_true rfl) rfl rfl ?_
        refine c_firstWith hL (by omega) ⟨b, b1, rfl⟩ (fun b' k1 k2 k3 => ?_)
        refine r_i2l (by omega) iX10_most_99 ?_
        refine t_long rfl iX10_most_100 ?_
        have b2 : ∀ u, u < 10000 → PD d u ≤ PD d b := b2
        refine hq1 _ N2 ⟨fun q => by omega, fun _ => Or.inr ⟨b', rfl, k1, trivial, fun u hu _ => by rw [k2]; exact b2 u hu, fun u hu _ => ?_⟩, fun q => by omega, fun q => by omega, fun q => by omega, fun q => by omega, fun q => by omega, fun q => by omega, fun q => by omega, fun q => by omega⟩ fv
        have y1 := b2 u (by omega); have y2 := k3 u hu; rw [k2]; omega
      · refine ld_a0 iX10_most_101 ?_
        refine r_iconst iX10_most_102 ?_
        refine xX10_extreme kMX10_343 iX10_most_103 (by decide) (Nat.le_of_ble_eq_true rfl) rfl rfl ?_
        refine c_extreme (m := false) hL (fun b b1 b2 => ?_)
        refine t_long rfl iX10_most_106 ?_
        have b2 : ∀ u, u < 10000 → PD d b ≤ PD d u := b2
        obtain ⟨b', k1, k2, k3⟩ := amx_first (F := fun u => - PD d u) b b1 (fun u hu => by have := b2 u hu; show - PD d u ≤ - PD d b; omega)
        have k3 : - PD d b' = - PD d b := k3
        exact hq1 _ N2 ⟨fun q => by omega, fun q => by omega, fun _ => ⟨b', k2, by omega⟩, fun q => by omega, fun q => by omega, fun q => by omega, fun q => by omega, fun q => by omega, fun q => by omega, fun q => by omega⟩ fv
      · refine ld_a0 iX10_most_107 ?_
        refine ld_a0 iX10_most_108 ?_
        refine r_iconst iX10_most_109 ?_
        refine xX10_extreme kMX10_343 iX10_most_110 (by decide) (Nat.le_of_ble_eq_true rfl) rfl rfl ?_
        refine c_extreme (m := false) hL (fun b b1 b2 => ?_)
        have bb := hL.bd b b1
        refine xX10_firstWith kMX10_347 iX10_most_113 (by decide) (Nat.le_of_ble_eq_true rfl) rfl rfl ?_
        refine c_firstWith hL (by omega) ⟨b, b1, rfl⟩ (fun b' k1 k2 k3 => ?_)
        refine r_i2l (by omega) iX10_most_116 ?_
        refine t_long rfl iX10_most_117 ?_
        have b2 : ∀ u, u < 10000 → PD d b ≤ PD d u := b2
        refine hq1 _ N2 ⟨fun q => by omega, fun q => by omega, fun q => by omega, fun _ => Or.inr ⟨b', rfl, k1, trivial, fun u hu _ => ?_, fun u hu _ => ?_⟩, fun q => by omega, fun q => by omega, fun q => by omega, fun q => by omega, fun q => by omega, fun q => by omega⟩ fv
        · show - PD d u ≤ - PD d b'; have := b2 u hu; rw [k2]; omega
        · show - PD d u < - PD d b'; have y1 := b2 u (by omega); have y2 := k3 u hu; rw [k2]; omega
      · refine ld_a0 iX10_most_118 ?_
        refine xX10_steepest kMX10_350 iX10_most_119 (by decide) (Nat.le_of_ble_eq_true rfl) rfl rfl ?_
        refine c_mSteepest hL (fun b m1 m2 => ?_)
        refine r_i2l (by omega) iX10_most_122 ?_
        refine t_long rfl iX10_most_123 ?_
        exact hq1 _ N2 ⟨fun q => by omega, fun q => by omega, fun q => by omega, fun q => by omega, fun _ => m2, fun q => by omega, fun q => by omega, fun q => by omega, fun q => by omega, fun q => by omega⟩ fv
      · refine ld_a0 iX10_most_124 ?_
        refine xX10_flatOnes kMX10_353 iX10_most_125 (by decide) (Nat.le_of_ble_eq_true rfl) rfl rfl ?_
        refine c_flatOnes hL e3 hPs ?_
        have hcl := ct_le (flS (PD d) s) P
        refine r_i2l (by omega) iX10_most_128 ?_
        refine t_long rfl iX10_most_129 ?_
        exact hq1 _ N2 ⟨fun q => by omega, fun q => by omega, fun q => by omega, fun q => by omega, fun q => by omega, fun _ => ⟨P, s, hPs, rfl⟩, fun q => by omega, fun q => by omega, fun q => by omega, fun q => by omega⟩ fv
      · refine ld_a0 iX10_most_130 ?_
        refine ld_i1 iX10_most_131 ?_
        refine r_bipush (by decide) iX10_most_132 ?_
        refine r_icmpne iX10_most_134 (by omega) (by omega) (fun h134 => ?_) (fun h134 => ?_)
        · refine r_iconst iX10_most_141 ?_
          refine t142 N2 _ (by omega) (by omega) ?_ fv hL
          first
            | (exfalso; omega)
            | rw [if_pos (decide_eq_true (by omega))]
            | rw [if_neg (by simp only [decide_eq_true_eq]; omega)]
        · refine r_iconst iX10_most_137 ?_
          refine r_goto iX10_most_138 ?_
          refine t142 N2 _ (by omega) (by omega) ?_ fv hL
          first
            | (exfalso; omega)
            | rw [if_pos (decide_eq_true (by omega))]
            | rw [if_neg (by simp only [decide_eq_true_eq]; omega)]
      · refine ld_a0 iX10_most_130 ?_
        refine ld_i1 iX10_most_131 ?_
        refine r_bipush (by decide) iX10_most_132 ?_
        refine r_icmpne iX10_most_134 (by omega) (by omega) (fun h134 => ?_) (fun h134 => ?_)
        · refine r_iconst iX10_most_141 ?_
          refine t142 N2 _ (by omega) (by omega) ?_ fv hL
          first
            | (exfalso; omega)
            | rw [if_pos (decide_eq_true (by omega))]
            | rw [if_neg (by simp only [decide_eq_true_eq]; omega)]
        · refine r_iconst iX10_most_137 ?_
          refine r_goto iX10_most_138 ?_
          refine t142 N2 _ (by omega) (by omega) ?_ fv hL
          first
            | (exfalso; omega)
            | rw [if_pos (decide_eq_true (by omega))]
            | rw [if_neg (by simp only [decide_eq_true_eq]; omega)]
      · refine ld_a0 iX10_most_147 ?_
        refine xX10_widest kMX10_360 iX10_most_148 (by decide) (Nat.le_of_ble_eq_true rfl) rfl rfl ?_
        refine c_mWidest e3 hPs (fun r m1 => ?_)
        have hrr : rI r := by rcases m1 with ⟨q, -⟩ | ⟨u, q, q2, -⟩ <;> omega
        refine r_i2l (by omega) iX10_most_151 ?_
        refine t_long rfl iX10_most_152 ?_
        exact hq1 _ N2 ⟨fun q => by omega, fun q => by omega, fun q => by omega, fun q => by omega, fun q => by omega, fun q => by omega, fun q => by omega, fun q => by omega, fun _ => ⟨P, s, hPs, m1⟩, fun q => by omega⟩ fv
      · refine ld_a0 iX10_most_153 ?_
        refine ld_a0 iX10_most_154 ?_
        refine xX10_steepest kMX10_350 iX10_most_155 (by decide) (Nat.le_of_ble_eq_true rfl) rfl rfl ?_
        refine c_mSteepest hL (fun b m1 m2 => ?_)
        refine xX10_step kMX10_225 iX10_most_158 (by decide) (Nat.le_of_ble_eq_true rfl) rfl rfl ?_
        refine c_step hL (by omega) ?_
        refine t_long rfl iX10_most_161 ?_
        exact hq1 _ N2 ⟨fun q => by omega, fun q => by omega, fun q => by omega, fun q => by omega, fun q => by omega, fun q => by omega, fun q => by omega, fun q => by omega, fun q => by omega, fun _ => ⟨b, m2, if_pos m1⟩⟩ fv
    · have h21 := tf_n h21
      refine r_ldc2 (z := -9000000000000000000) kKX10_254 (by decide) iX10_most_24 ?_
      refine t_long rfl iX10_most_27 ?_
      exact hq0 (by omega) _ f0
theorem m_count {w : Int} {Pq : Int → Nm → Ge → Prop} (hM : MS N d) (rw' : rI w) (hqL : w = 0 → ∀ N', FrV N N' → Pq (N 40 0 2) N' g) (hq1 : w = 1 → N 40 0 22 = 1 → ∀ N', FrV N N' → Pq (sN (dS d) (dA d)) N' g) (hq2 : w = 2 → N 40 0 22 = 1 → ∀ f N', (∀ a, a < dA d → ∃ s, Ps (LF d (dB d) a) (f a) s) → FrV N N' → Pq (sN f (dA d)) N' g) (hq0 : w ≠ 0 → ¬ (N 40 0 22 = 1 ∧ (0 ≤ w ∧ w ≤ 2)) → ∀ N', FrV N N' → Pq (-1) N' g) : Ck K YX10_count hX10_count [vr 40 0, vi w] N g (qI Pq) := by
  refine Ck.intro 2 (by decide) rfl ?_
  show AW _ _ _ _ _ [some (vr 40 0), some (vi w), none, none] _ _ _
  have loop : N 40 0 22 = 1 → (w = 1 ∨ w = 2) → ∀ (n a : Nat) (t c : Int) (f : Nat → Nat) (N' : Nm), dA d - a = n → a ≤ dA d → c = a → t = sN f a → (w = 1 → f = dS d) → (∀ k, k < a → w = 2 → ∃ s, Ps (LF d (dB d) k) (f k) s) → FrV N N' → AW K YX10_count hX10_count (qI Pq) 39 [some (vr 40 0), some (vi w), some (vi t), some (vi c)] [] N' g := by
    intro h9 hw n
    induction n using Nat.strongRecOn with
    | _ n ih =>
      intro a t c f N' e ha hc ht h1 h2 hF
      subst hc
      have h9' : N' 40 0 22 = 1 := by rw [hF 40 0 22 (by omega) (by omega)]; exact h9
      have hM' := hM.v hF
      obtain ⟨hW, hR, -⟩ := hM'.2.2 h9'
      have hA := hW.1
      refine ld_i3 iX10_count_39 ?_
      refine ld_a0 iX10_count_40 ?_
      refine gf_X10_accounts kFX10_159 iX10_count_41 ?_
      rw [hR.1]
      refine r_icmpge iX10_count_44 (by omega) (by omega) (fun h44 => ?_) (fun h44 => ?_)
      · refine ld_i2 iX10_count_75 ?_
        refine t_int rfl iX10_count_76 ?_
        have e : a = dA d := by omega
        subst e
        rcases hw with q | q
        · rw [ht, h1 q]; exact hq1 q h9 N' hF
        · rw [ht]; exact hq2 q h9 f N' (fun k hk => h2 k hk q) hF
      · have ha1 : a < dA d := by omega
        refine ld_i2 iX10_count_47 ?_
        refine ld_i1 iX10_count_48 ?_
        refine r_iconst iX10_count_49 ?_
        refine r_icmpne iX10_count_50 (by omega) (by omega) (fun h50 => ?_) (fun h50 => ?_)
        · refine ld_a0 iX10_count_62 ?_
          refine ld_i3 iX10_count_63 ?_
          refine xX10_piecesOf kMX10_233 iX10_count_64 (by decide) (Nat.le_of_ble_eq_true rfl) rfl rfl ?_
          refine c_piecesOf hM' h9' (by omega) (fun N1 P s f1 f2 f3 f4 => ?_)
          rw [show rwo (a : Int) = a by unfold rwo; rw [if_neg (by omega)]; rfl] at f4
          refine r_iadd iX10_count_67 ?_
          refine sv_i2 (by decide) rfl iX10_count_68 ?_
          refine inc_3 (by decide) rfl iX10_count_69 ?_
          refine r_goto iX10_count_72 ?_
          first
            | exact ih (dA d - (a + 1)) (by omega) (a + 1) _ _ f N' rfl (by omega) (by omega) (by rw [sN, ht, h1 h50]) h1 (fun k hk q => by omega) hF
            | (refine ih (dA d - (a + 1)) (by omega) (a + 1) _ _ (fun k => if k = a then P else f k) N1 rfl (by omega) (by omega) ?_ (fun q => by omega) (fun k hk q => ?_) (hF.tr f1)
               · rw [sN, ht, sN_cg (f := fun k => if k = a then P else f k) (f' := f) a (fun k hk => if_neg (by omega))]; simp only [if_true]
               · by_cases e : k = a
                 · subst e; simp only [if_true]; exact ⟨s, f4⟩
                 · simp only [if_neg e]; exact h2 k (by omega) q)
        · refine ld_a0 iX10_count_53 ?_
          refine gf_X10_many kFX10_34 iX10_count_54 ?_
          refine ld_i3 iX10_count_57 ?_
          refine al_49 rfl (by omega) iX10_count_58 ?_
          rw [(hR.2.2 a ha1).2.1]
          refine r_goto iX10_count_59 ?_
          refine r_iadd iX10_count_67 ?_
          refine sv_i2 (by decide) rfl iX10_count_68 ?_
          refine inc_3 (by decide) rfl iX10_count_69 ?_
          refine r_goto iX10_count_72 ?_
          first
            | exact ih (dA d - (a + 1)) (by omega) (a + 1) _ _ f N' rfl (by omega) (by omega) (by rw [sN, ht, h1 h50]) h1 (fun k hk q => by omega) hF
            | (refine ih (dA d - (a + 1)) (by omega) (a + 1) _ _ (fun k => if k = a then P else f k) N1 rfl (by omega) (by omega) ?_ (fun q => by omega) (fun k hk q => ?_) (hF.tr f1)
               · rw [sN, ht, sN_cg (f := fun k => if k = a then P else f k) (f' := f) a (fun k hk => if_neg (by omega))]; simp only [if_true]
               · by_cases e : k = a
                 · subst e; simp only [if_true]; exact ⟨s, f4⟩
                 · simp only [if_neg e]; exact h2 k (by omega) q)
  refine ld_a0 iX10_count_0 ?_
  refine r_iconst iX10_count_1 ?_
  refine pf_X10_thrown kFX10_72 iX10_count_2 ?_
  obtain ⟨N1, hN1, f0⟩ : ∃ N1, N1 = upN N 40 0 0 0 ∧ FrV N N1 := ⟨_, rfl, thr_v N⟩
  rw [← hN1]
  clear hN1
  have hM1 := hM.v f0
  have h22 : N1 40 0 22 = N 40 0 22 := f0 40 0 22 (by omega) (by omega)
  have h01 := hM1.1
  refine ld_i1 iX10_count_5 ?_
  refine r_ifne iX10_count_6 (by omega) (fun h6 => ?_) (fun h6 => ?_)
  · refine ld_a0 iX10_count_14 ?_
    refine gf_X10_isDesk kFX10_165 iX10_count_15 ?_
    refine r_ifeq iX10_count_18 (by omega) (fun h18 => ?_) (fun h18 => ?_)
    · refine r_iconst iX10_count_33 ?_
      refine t_int rfl iX10_count_34 ?_
      exact hq0 (by omega) (by omega) _ f0
    · refine ld_i1 iX10_count_21 ?_
      refine r_i2l (by omega) iX10_count_22 ?_
      refine r_lconst (v := 1) (by decide) iX10_count_23 ?_
      refine r_ldc2 (z := 2) kKX10_283 (by decide) iX10_count_24 ?_
      refine xX10_in kMX10_82 iX10_count_27 (by decide) (Nat.le_of_ble_eq_true rfl) rfl rfl ?_
      refine c_in (by omega) (by omega) (by omega) ?_
      refine r_ifne iX10_count_30 (by exact tf_r _) (fun h30 => ?_) (fun h30 => ?_)
      · have h30 := tf_y h30
        refine r_iconst iX10_count_35 ?_
        refine sv_i2 (by decide) rfl iX10_count_36 ?_
        refine r_iconst iX10_count_37 ?_
        refine sv_i3 (by decide) rfl iX10_count_38 ?_
        exact loop (by omega) (by omega) (dA d) 0 _ _ (dS d) N1 (by omega) (by omega) (by omega) rfl (fun _ => rfl) (fun k hk => by omega) f0
      · have h30 := tf_n h30
        refine r_iconst iX10_count_33 ?_
        refine t_int rfl iX10_count_34 ?_
        exact hq0 (by omega) (by omega) _ f0
  · refine ld_a0 iX10_count_9 ?_
    refine gf_X10_taped kFX10_79 iX10_count_10 ?_
    rw [f0 40 0 2 (by omega) (by omega)]
    refine t_int rfl iX10_count_13 ?_
    exact hqL (by omega) _ f0
/-- what an account has -/
def acA (d : Dk) (a what r : Int) : Prop := (what = 0 → r = dS d a.toNat) ∧ (what = 1 → r = dT d a.toNat) ∧ (what = 2 → r = dD d a.toNat) ∧ (what = 3 → ∃ P s, Ps (LF d (dB d) (rwo a)) P s ∧ r = P)
theorem m_account {a w : Int} {Pq : Int → Nm → Ge → Prop} (hM : MS N d) (ra : rI a) (rw' : rI w) (hq1 : N 40 0 22 = 1 ∧ (0 ≤ a ∧ a < dA d) ∧ (0 ≤ w ∧ w ≤ 3) → ∀ r N', acA d a w r → FrV N N' → N' 40 0 0 = 0 → Pq r N' g) (hq0 : ¬ (N 40 0 22 = 1 ∧ (0 ≤ a ∧ a < dA d) ∧ (0 ≤ w ∧ w ≤ 3)) → ∀ N', FrV N N' → N' 40 0 0 = 1 → Pq 0 N' g) : Ck K YX10_account hX10_account [vr 40 0, vi a, vi w] N g (qI Pq) := by
  have h01 := hM.1
  refine Ck.intro 0 (by decide) rfl ?_
  show AW _ _ _ _ _ [some (vr 40 0), some (vi a), some (vi w)] _ _ _
  have tl : ∀ z : Int, (z = 0 ∧ (N 40 0 22 = 1 ∧ (0 ≤ a ∧ a < dA d) ∧ (0 ≤ w ∧ w ≤ 3))) ∨ (z = 1 ∧ ¬ (N 40 0 22 = 1 ∧ (0 ≤ a ∧ a < dA d) ∧ (0 ≤ w ∧ w ≤ 3))) → AW K YX10_account hX10_account (qI Pq) 26 [some (vr 40 0), some (vi a), some (vi w)] [vi z, vr 40 0] N g := by
    intro z hz
    have f0 : FrV N (upN N 40 0 0 z) := (FrV.rf N).up (by omega)
    refine pf_X10_thrown kFX10_72 iX10_account_26 ?_
    refine ld_a0 iX10_account_29 ?_
    refine gf_X10_thrown kFX10_72 iX10_account_30 ?_
    rw [upN_eq]
    refine r_iconst iX10_account_33 ?_
    refine r_icmpne iX10_account_34 (by omega) (by omega) (fun h34 => ?_) (fun h34 => ?_)
    · have hg := (hz.resolve_right (fun q => h34 q.1)).2
      have hz0 : z = 0 := by omega
      obtain ⟨a1, a2, a3⟩ := hM.2.2 hg.1
      have hA := a1.1
      obtain ⟨A, hA1⟩ : ∃ A : Nat, a = A := ⟨a.toNat, by omega⟩
      subst hA1
      have rr := a2.2.2 A (by omega)
      have rt := a2.2.1 A (by omega)
      refine ld_i2 iX10_account_39 ?_
      refine r_ifne iX10_account_40 (by omega) (fun h40 => ?_) (fun h40 => ?_)
      · refine ld_i2 iX10_account_52 ?_
        refine r_iconst iX10_account_53 ?_
        refine r_icmpne iX10_account_54 (by omega) (by omega) (fun h54 => ?_) (fun h54 => ?_)
        · refine ld_i2 iX10_account_66 ?_
          refine r_iconst iX10_account_67 ?_
          refine r_icmpne iX10_account_68 (by omega) (by omega) (fun h68 => ?_) (fun h68 => ?_)
          · refine ld_a0 iX10_account_80 ?_
            refine ld_i1 iX10_account_81 ?_
            refine xX10_piecesOf kMX10_233 iX10_account_82 (by decide) (Nat.le_of_ble_eq_true rfl) rfl rfl ?_
            refine c_piecesOfW (hM.v f0) (by rw [f0 40 0 22 (by omega) (by omega)]; exact hg.1) (by omega) (fun N2 P s e1 e2 => ?_)
            refine t_int rfl iX10_account_85 ?_
            first
              | exact hq1 hg _ _ ⟨fun _ => rfl, fun q => by omega, fun q => by omega, fun q => by omega⟩ f0 (by rw [upN_eq]; exact hz0)
              | exact hq1 hg _ _ ⟨fun q => by omega, fun _ => rfl, fun q => by omega, fun q => by omega⟩ f0 (by rw [upN_eq]; exact hz0)
              | exact hq1 hg _ _ ⟨fun q => by omega, fun q => by omega, fun _ => rfl, fun q => by omega⟩ f0 (by rw [upN_eq]; exact hz0)
              | exact hq1 hg _ _ ⟨fun q => by omega, fun q => by omega, fun q => by omega, fun _ => ⟨P, s, e2, rfl⟩⟩ (f0.tr e1.v) (by rw [e1 40 0 0 (by omega) (by omega), upN_eq]; exact hz0)
          · refine ld_a0 iX10_account_71 ?_
            refine gf_X10_deep kFX10_46 iX10_account_72 ?_
            refine ld_i1 iX10_account_75 ?_
            refine al_53 rfl (by omega) iX10_account_76 ?_
            rw [upN_k (by decide), rr.1]
            refine r_goto iX10_account_77 ?_
            refine t_int rfl iX10_account_85 ?_
            first
              | exact hq1 hg _ _ ⟨fun _ => rfl, fun q => by omega, fun q => by omega, fun q => by omega⟩ f0 (by rw [upN_eq]; exact hz0)
              | exact hq1 hg _ _ ⟨fun q => by omega, fun _ => rfl, fun q => by omega, fun q => by omega⟩ f0 (by rw [upN_eq]; exact hz0)
              | exact hq1 hg _ _ ⟨fun q => by omega, fun q => by omega, fun _ => rfl, fun q => by omega⟩ f0 (by rw [upN_eq]; exact hz0)
              | exact hq1 hg _ _ ⟨fun q => by omega, fun q => by omega, fun q => by omega, fun _ => ⟨P, s, e2, rfl⟩⟩ (f0.tr e1.v) (by rw [e1 40 0 0 (by omega) (by omega), upN_eq]; exact hz0)
        · refine ld_a0 iX10_account_57 ?_
          refine gf_X10_terms kFX10_16 iX10_account_58 ?_
          refine ld_i1 iX10_account_61 ?_
          refine al_43 rfl (by omega) iX10_account_62 ?_
          rw [upN_k (by decide), rt.1]
          refine r_goto iX10_account_63 ?_
          refine t_int rfl iX10_account_85 ?_
          first
            | exact hq1 hg _ _ ⟨fun _ => rfl, fun q => by omega, fun q => by omega, fun q => by omega⟩ f0 (by rw [upN_eq]; exact hz0)
            | exact hq1 hg _ _ ⟨fun q => by omega, fun _ => rfl, fun q => by omega, fun q => by omega⟩ f0 (by rw [upN_eq]; exact hz0)
            | exact hq1 hg _ _ ⟨fun q => by omega, fun q => by omega, fun _ => rfl, fun q => by omega⟩ f0 (by rw [upN_eq]; exact hz0)
            | exact hq1 hg _ _ ⟨fun q => by omega, fun q => by omega, fun q => by omega, fun _ => ⟨P, s, e2, rfl⟩⟩ (f0.tr e1.v) (by rw [e1 40 0 0 (by omega) (by omega), upN_eq]; exact hz0)
      · refine ld_a0 iX10_account_43 ?_
        refine gf_X10_many kFX10_34 iX10_account_44 ?_
        refine ld_i1 iX10_account_47 ?_
        refine al_49 rfl (by omega) iX10_account_48 ?_
        rw [upN_k (by decide), rr.2.1]
        refine r_goto iX10_account_49 ?_
        refine t_int rfl iX10_account_85 ?_
        first
          | exact hq1 hg _ _ ⟨fun _ => rfl, fun q => by omega, fun q => by omega, fun q => by omega⟩ f0 (by rw [upN_eq]; exact hz0)
          | exact hq1 hg _ _ ⟨fun q => by omega, fun _ => rfl, fun q => by omega, fun q => by omega⟩ f0 (by rw [upN_eq]; exact hz0)
          | exact hq1 hg _ _ ⟨fun q => by omega, fun q => by omega, fun _ => rfl, fun q => by omega⟩ f0 (by rw [upN_eq]; exact hz0)
          | exact hq1 hg _ _ ⟨fun q => by omega, fun q => by omega, fun q => by omega, fun _ => ⟨P, s, e2, rfl⟩⟩ (f0.tr e1.v) (by rw [e1 40 0 0 (by omega) (by omega), upN_eq]; exact hz0)
    · refine r_iconst iX10_account_37 ?_
      refine t_int rfl iX10_account_38 ?_
      exact hq0 (by omega) _ f0 (by rw [upN_eq]; omega)
  refine ld_a0 iX10_account_0 ?_
  refine ld_a0 iX10_account_1 ?_
  refine ld_i1 iX10_account_2 ?_
  refine xX10_isAccount kMX10_175 iX10_account_3 (by decide) (Nat.le_of_ble_eq_true rfl) rfl rfl ?_
  refine c_mIsAccount hM ra ?_
  refine r_ifeq iX10_account_6 (by exact tf_r _) (fun h6 => ?_) (fun h6 => ?_)
  · have h6 := tf_n h6
    refine r_iconst iX10_account_25 ?_
    exact tl _ (by omega)
  · have h6 := tf_y h6
    refine ld_i2 iX10_account_9 ?_
    refine r_i2l (by omega) iX10_account_10 ?_
    refine r_lconst (v := 0) (by decide) iX10_account_11 ?_
    refine r_ldc2 (z := 3) kKX10_239 (by decide) iX10_account_12 ?_
    refine xX10_in kMX10_82 iX10_account_15 (by decide) (Nat.le_of_ble_eq_true rfl) rfl rfl ?_
    refine c_in (by omega) (by omega) (by omega) ?_
    refine r_ifeq iX10_account_18 (by exact tf_r _) (fun h18 => ?_) (fun h18 => ?_)
    · have h18 := tf_n h18
      refine r_iconst iX10_account_25 ?_
      exact tl _ (by omega)
    · have h18 := tf_y h18
      refine r_iconst iX10_account_21 ?_
      refine r_goto iX10_account_22 ?_
      exact tl _ (by omega)
end MAsk7
