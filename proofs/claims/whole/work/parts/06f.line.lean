/-! own text: the most and the least; pieces counted -/
section Line5
variable {K : Kx} {N : Nm} {g : Ge} {i : Nat} {F : Nat → Int} {P : Nat} {s : Nat → Nat} {G : Nat → Int}
theorem c_wageOfMost {Pq : Int → Nm → Ge → Prop} (hL : Ln N g i F P s G) (hq : ∀ b : Nat, b < 10000 → Amx F (fun _ => True) 10000 b → Pq b N g) : Ck K YX1_wageOfMost hX1_wageOfMost [vr 12 i] N g (qI Pq) := by
  have hL0 := hL
  obtain ⟨hN0, hrow, hseat, hroom, hB, hPc⟩ := hL
  have hP1 := hPc.1
  have hP2 := hPc.2.1
  refine Ck.intro 4 (by decide) rfl ?_
  show AW _ _ _ _ _ [some (vr 12 i), none, none, none, none] _ _ _
  have loop : ∀ (n p b0 : Nat) (a M b : Int), P - p = n → p ≤ P → b = p → a = b0 → M = F b0 → (b0 < s p ∨ (b0 = 0 ∧ p = 0)) → (∀ u, u < s p → F u ≤ F b0) → (∀ u, u < b0 → F u < F b0) → AW K YX1_wageOfMost hX1_wageOfMost (qI Pq) 12 [some (vr 12 i), some (vi a), some (vl M), none, some (vi b)] [] N g := by
    intro n
    induction n using Nat.strongRecOn with
    | _ n ih =>
      intro p b0 a M b e hp hb ha hM h0 h1 h2
      subst hb
      have hst := hPc.top hp
      have hbm := hB b0 (by omega)
      have tl : ∀ (b1 : Nat) (a M : Int), p < P → a = b1 → M = F b1 → b1 ≤ s p → F (s p) ≤ F b1 → (∀ u, u < s p → F u ≤ F b1) → (∀ u, u < b1 → F u < F b1) → AW K YX1_wageOfMost hX1_wageOfMost (qI Pq) 49 [some (vr 12 i), some (vi a), some (vl M), none, some (vi p)] [] N g := by
        intro b1 a M hp1 ha hM k0 k1 k2 k3
        have hm := hPc.2.2.2.2.1 p hp1
        have ht := hPc.top (show p + 1 ≤ P by omega)
        have hb1 := hB b1 (by omega)
        have hb2 := hB (s (p + 1) - 1) (by omega)
        have hin : ∀ u, s p ≤ u → u < s (p + 1) → (F u ≤ F (s p) ∨ (F u ≤ F (s (p + 1) - 1) ∧ (u < s (p + 1) - 1 → F u < F (s (p + 1) - 1) ∨ F (s (p + 1) - 1) ≤ F (s p)))) := fun u z1 z2 => by
          have l1 := hPc.2.2.2.2.2.1 p hp1 u z1 z2
          have l2 := hPc.lin2 hp1 z1 (show u ≤ s (p + 1) - 1 by omega) (by omega)
          rcases Int.lt_trichotomy (G p) 0 with q | q | q
          · have y1 := Int.mul_nonpos_of_nonneg_of_nonpos (show 0 ≤ (u : Int) - s p by omega) (show G p ≤ 0 by omega)
            have y2 := Int.mul_nonpos_of_nonneg_of_nonpos (show 0 ≤ ((s (p + 1) - 1 : Nat) : Int) - u by omega) (show G p ≤ 0 by omega)
            have y3 : u < s (p + 1) - 1 → ((((s (p + 1) - 1 : Nat) : Int) - u) * G p) < 0 := fun z => Int.mul_neg_of_pos_of_neg (by omega) q
            left; omega
          · left; rw [q] at l1; omega
          · have y1 := Int.mul_nonneg (show 0 ≤ (u : Int) - s p by omega) (show 0 ≤ G p by omega)
            have y2 := Int.mul_nonneg (show 0 ≤ ((s (p + 1) - 1 : Nat) : Int) - u by omega) (show 0 ≤ G p by omega)
            have y3 : u < s (p + 1) - 1 → 0 < ((((s (p + 1) - 1 : Nat) : Int) - u) * G p) := fun z => Int.mul_pos (by omega) q
            right; refine ⟨by omega, fun z => ?_⟩; have := y3 z; omega
        refine ld_a0 iX1_wageOfMost_49 ?_
        refine ld_i4 iX1_wageOfMost_50 ?_
        refine xX1_lastValue kMX1_78 iX1_wageOfMost_52 (by decide) (Nat.le_of_ble_eq_true rfl) rfl rfl ?_
        refine c_lastValue hL0 hp1 ?_
        refine ld_l2 iX1_wageOfMost_55 ?_
        refine r_lcle iX1_wageOfMost_56 iX1_wageOfMost_57 (by omega) (by omega) (fun h56 => ?_) (fun h56 => ?_)
        · refine inc_4 (by decide) rfl iX1_wageOfMost_74 ?_
          refine r_goto iX1_wageOfMost_77 ?_
          first
            | (refine ih (P - (p + 1)) (by omega) (p + 1) b1 _ _ _ rfl (by omega) (by omega) ha hM (by omega) (fun u z => ?_) k3
               rcases Nat.lt_or_ge u (s p) with y | y
               · exact k2 u y
               · have := hin u y z; omega)
            | (refine ih (P - (p + 1)) (by omega) (p + 1) (s (p + 1) - 1) _ _ _ rfl (by omega) (by omega) (by omega) rfl (by omega) (fun u z => ?_) (fun u z => ?_)
               · rcases Nat.lt_or_ge u (s p) with y | y
                 · have := k2 u y; omega
                 · have := hin u y z; omega
               · rcases Nat.lt_or_ge u (s p) with y | y
                 · have := k2 u y; omega
                 · have := hin u y (by omega); omega)
        · refine ld_a0 iX1_wageOfMost_60 ?_
          refine ld_i4 iX1_wageOfMost_61 ?_
          refine xX1_lastOf kMX1_60 iX1_wageOfMost_63 (by decide) (Nat.le_of_ble_eq_true rfl) rfl rfl ?_
          refine c_lastOf hL0 hp1 ?_
          refine sv_i1 (by decide) rfl iX1_wageOfMost_66 ?_
          refine ld_a0 iX1_wageOfMost_67 ?_
          refine ld_i4 iX1_wageOfMost_68 ?_
          refine xX1_lastValue kMX1_78 iX1_wageOfMost_70 (by decide) (Nat.le_of_ble_eq_true rfl) rfl rfl ?_
          refine c_lastValue hL0 hp1 ?_
          refine sv_l2 (by decide) rfl iX1_wageOfMost_73 ?_
          refine inc_4 (by decide) rfl iX1_wageOfMost_74 ?_
          refine r_goto iX1_wageOfMost_77 ?_
          first
            | (refine ih (P - (p + 1)) (by omega) (p + 1) b1 _ _ _ rfl (by omega) (by omega) ha hM (by omega) (fun u z => ?_) k3
               rcases Nat.lt_or_ge u (s p) with y | y
               · exact k2 u y
               · have := hin u y z; omega)
            | (refine ih (P - (p + 1)) (by omega) (p + 1) (s (p + 1) - 1) _ _ _ rfl (by omega) (by omega) (by omega) rfl (by omega) (fun u z => ?_) (fun u z => ?_)
               · rcases Nat.lt_or_ge u (s p) with y | y
                 · have := k2 u y; omega
                 · have := hin u y z; omega
               · rcases Nat.lt_or_ge u (s p) with y | y
                 · have := k2 u y; omega
                 · have := hin u y (by omega); omega)
      refine ld_i4 iX1_wageOfMost_12 ?_
      refine ld_a0 iX1_wageOfMost_14 ?_
      refine gf_X1_pieces kFX1_9 iX1_wageOfMost_15 ?_
      refine r_icmpge iX1_wageOfMost_18 (by omega) (by omega) (fun h18 => ?_) (fun h18 => ?_)
      · refine ld_i1 iX1_wageOfMost_80 ?_
        refine t_int rfl iX1_wageOfMost_81 ?_
        have e : p = P := by omega
        rw [e, hPc.2.2.2.1] at h1 h0
        rw [ha]; exact hq b0 (by omega) (Or.inr ⟨b0, rfl, by omega, trivial, fun u z _ => by have := h1 u z; show F u ≤ F b0; omega, fun u z _ => by have := h2 u z; show F u < F b0; omega⟩)
      · have hp1 : p < P := by omega
        have hm := hPc.2.2.2.2.1 p hp1
        have ht := hPc.top (show p + 1 ≤ P by omega)
        have hb1 := hB (s p) (by omega)
        refine ld_a0 iX1_wageOfMost_21 ?_
        refine gf_X1_values kFX1_19 iX1_wageOfMost_22 ?_
        refine ld_i4 iX1_wageOfMost_25 ?_
        refine al_14 rfl (by omega) (by omega) iX1_wageOfMost_27 ?_
        rw [(hrow p hp1).2.1]
        refine ld_l2 iX1_wageOfMost_28 ?_
        refine r_lcle iX1_wageOfMost_29 iX1_wageOfMost_30 (by omega) (by omega) (fun h29 => ?_) (fun h29 => ?_)
        · first
            | exact tl b0 _ _ hp1 ha hM (by omega) (by omega) h1 h2
            | exact tl (s p) _ _ hp1 rfl rfl (by omega) (by omega) (fun u z => by have := h1 u z; omega) (fun u z => by have := h1 u z; omega)
        · refine ld_a0 iX1_wageOfMost_33 ?_
          refine gf_X1_starts kFX1_15 iX1_wageOfMost_34 ?_
          refine ld_i4 iX1_wageOfMost_37 ?_
          refine al_13 rfl (by omega) (by omega) iX1_wageOfMost_39 ?_
          rw [(hrow p hp1).1]
          refine sv_i1 (by decide) rfl iX1_wageOfMost_40 ?_
          refine ld_a0 iX1_wageOfMost_41 ?_
          refine gf_X1_values kFX1_19 iX1_wageOfMost_42 ?_
          refine ld_i4 iX1_wageOfMost_45 ?_
          refine al_14 rfl (by omega) (by omega) iX1_wageOfMost_47 ?_
          rw [(hrow p hp1).2.1]
          refine sv_l2 (by decide) rfl iX1_wageOfMost_48 ?_
          first
            | exact tl b0 _ _ hp1 ha hM (by omega) (by omega) h1 h2
            | exact tl (s p) _ _ hp1 rfl rfl (by omega) (by omega) (fun u z => by have := h1 u z; omega) (fun u z => by have := h1 u z; omega)
  refine r_iconst iX1_wageOfMost_0 ?_
  refine sv_i1 (by decide) rfl iX1_wageOfMost_1 ?_
  refine ld_a0 iX1_wageOfMost_2 ?_
  refine gf_X1_values kFX1_19 iX1_wageOfMost_3 ?_
  refine r_iconst iX1_wageOfMost_6 ?_
  refine al_14 (n := 0) (by omega) (by omega) (by omega) iX1_wageOfMost_7 ?_
  rw [(hrow 0 hP1).2.1, hPc.2.2.1]
  refine sv_l2 (by decide) rfl iX1_wageOfMost_8 ?_
  refine r_iconst iX1_wageOfMost_9 ?_
  refine sv_i4 (by decide) rfl iX1_wageOfMost_10 ?_
  exact loop P 0 0 _ _ _ (by omega) (by omega) (by omega) (by omega) rfl (by omega) (fun u z => by rw [hPc.2.2.1] at z; omega) (fun u z => by omega)
theorem c_wageOfLeast {Pq : Int → Nm → Ge → Prop} (hL : Ln N g i F P s G) (hq : ∀ b : Nat, b < 10000 → Amx (fun w => - F w) (fun _ => True) 10000 b → Pq b N g) : Ck K YX1_wageOfLeast hX1_wageOfLeast [vr 12 i] N g (qI Pq) := by
  have hL0 := hL
  obtain ⟨hN0, hrow, hseat, hroom, hB, hPc⟩ := hL
  have hP1 := hPc.1
  have hP2 := hPc.2.1
  refine Ck.intro 4 (by decide) rfl ?_
  show AW _ _ _ _ _ [some (vr 12 i), none, none, none, none] _ _ _
  have loop : ∀ (n p b0 : Nat) (a M b : Int), P - p = n → p ≤ P → b = p → a = b0 → M = F b0 → (b0 < s p ∨ (b0 = 0 ∧ p = 0)) → (∀ u, u < s p → F b0 ≤ F u) → (∀ u, u < b0 → F b0 < F u) → AW K YX1_wageOfLeast hX1_wageOfLeast (qI Pq) 12 [some (vr 12 i), some (vi a), some (vl M), none, some (vi b)] [] N g := by
    intro n
    induction n using Nat.strongRecOn with
    | _ n ih =>
      intro p b0 a M b e hp hb ha hM h0 h1 h2
      subst hb
      have hst := hPc.top hp
      have hbm := hB b0 (by omega)
      have tl : ∀ (b1 : Nat) (a M : Int), p < P → a = b1 → M = F b1 → b1 ≤ s p → F b1 ≤ F (s p) → (∀ u, u < s p → F b1 ≤ F u) → (∀ u, u < b1 → F b1 < F u) → AW K YX1_wageOfLeast hX1_wageOfLeast (qI Pq) 49 [some (vr 12 i), some (vi a), some (vl M), none, some (vi p)] [] N g := by
        intro b1 a M hp1 ha hM k0 k1 k2 k3
        have hm := hPc.2.2.2.2.1 p hp1
        have ht := hPc.top (show p + 1 ≤ P by omega)
        have hb1 := hB b1 (by omega)
        have hb2 := hB (s (p + 1) - 1) (by omega)
        have hin : ∀ u, s p ≤ u → u < s (p + 1) → (F (s p) ≤ F u ∨ (F (s (p + 1) - 1) ≤ F u ∧ (u < s (p + 1) - 1 → F (s (p + 1) - 1) < F u ∨ F (s p) ≤ F (s (p + 1) - 1)))) := fun u z1 z2 => by
          have l1 := hPc.2.2.2.2.2.1 p hp1 u z1 z2
          have l2 := hPc.lin2 hp1 z1 (show u ≤ s (p + 1) - 1 by omega) (by omega)
          rcases Int.lt_trichotomy (G p) 0 with q | q | q
          · have y1 := Int.mul_nonpos_of_nonneg_of_nonpos (show 0 ≤ (u : Int) - s p by omega) (show G p ≤ 0 by omega)
            have y2 := Int.mul_nonpos_of_nonneg_of_nonpos (show 0 ≤ ((s (p + 1) - 1 : Nat) : Int) - u by omega) (show G p ≤ 0 by omega)
            have y3 : u < s (p + 1) - 1 → ((((s (p + 1) - 1 : Nat) : Int) - u) * G p) < 0 := fun z => Int.mul_neg_of_pos_of_neg (by omega) q
            right; refine ⟨by omega, fun z => ?_⟩; have := y3 z; omega
          · left; rw [q] at l1; omega
          · have y1 := Int.mul_nonneg (show 0 ≤ (u : Int) - s p by omega) (show 0 ≤ G p by omega)
            have y2 := Int.mul_nonneg (show 0 ≤ ((s (p + 1) - 1 : Nat) : Int) - u by omega) (show 0 ≤ G p by omega)
            have y3 : u < s (p + 1) - 1 → 0 < ((((s (p + 1) - 1 : Nat) : Int) - u) * G p) := fun z => Int.mul_pos (by omega) q
            left; omega
        refine ld_a0 iX1_wageOfLeast_49 ?_
        refine ld_i4 iX1_wageOfLeast_50 ?_
        refine xX1_lastValue kMX1_78 iX1_wageOfLeast_52 (by decide) (Nat.le_of_ble_eq_true rfl) rfl rfl ?_
        refine c_lastValue hL0 hp1 ?_
        refine ld_l2 iX1_wageOfLeast_55 ?_
        refine r_lcge iX1_wageOfLeast_56 iX1_wageOfLeast_57 (by omega) (by omega) (fun h56 => ?_) (fun h56 => ?_)
        · refine inc_4 (by decide) rfl iX1_wageOfLeast_74 ?_
          refine r_goto iX1_wageOfLeast_77 ?_
          first
            | (refine ih (P - (p + 1)) (by omega) (p + 1) b1 _ _ _ rfl (by omega) (by omega) ha hM (by omega) (fun u z => ?_) k3
               rcases Nat.lt_or_ge u (s p) with y | y
               · exact k2 u y
               · have := hin u y z; omega)
            | (refine ih (P - (p + 1)) (by omega) (p + 1) (s (p + 1) - 1) _ _ _ rfl (by omega) (by omega) (by omega) rfl (by omega) (fun u z => ?_) (fun u z => ?_)
               · rcases Nat.lt_or_ge u (s p) with y | y
                 · have := k2 u y; omega
                 · have := hin u y z; omega
               · rcases Nat.lt_or_ge u (s p) with y | y
                 · have := k2 u y; omega
                 · have := hin u y (by omega); omega)
        · refine ld_a0 iX1_wageOfLeast_60 ?_
          refine ld_i4 iX1_wageOfLeast_61 ?_
          refine xX1_lastOf kMX1_60 iX1_wageOfLeast_63 (by decide) (Nat.le_of_ble_eq_true rfl) rfl rfl ?_
          refine c_lastOf hL0 hp1 ?_
          refine sv_i1 (by decide) rfl iX1_wageOfLeast_66 ?_
          refine ld_a0 iX1_wageOfLeast_67 ?_
          refine ld_i4 iX1_wageOfLeast_68 ?_
          refine xX1_lastValue kMX1_78 iX1_wageOfLeast_70 (by decide) (Nat.le_of_ble_eq_true rfl) rfl rfl ?_
          refine c_lastValue hL0 hp1 ?_
          refine sv_l2 (by decide) rfl iX1_wageOfLeast_73 ?_
          refine inc_4 (by decide) rfl iX1_wageOfLeast_74 ?_
          refine r_goto iX1_wageOfLeast_77 ?_
          first
            | (refine ih (P - (p + 1)) (by omega) (p + 1) b1 _ _ _ rfl (by omega) (by omega) ha hM (by omega) (fun u z => ?_) k3
               rcases Nat.lt_or_ge u (s p) with y | y
               · exact k2 u y
               · have := hin u y z; omega)
            | (refine ih (P - (p + 1)) (by omega) (p + 1) (s (p + 1) - 1) _ _ _ rfl (by omega) (by omega) (by omega) rfl (by omega) (fun u z => ?_) (fun u z => ?_)
               · rcases Nat.lt_or_ge u (s p) with y | y
                 · have := k2 u y; omega
                 · have := hin u y z; omega
               · rcases Nat.lt_or_ge u (s p) with y | y
                 · have := k2 u y; omega
                 · have := hin u y (by omega); omega)
      refine ld_i4 iX1_wageOfLeast_12 ?_
      refine ld_a0 iX1_wageOfLeast_14 ?_
      refine gf_X1_pieces kFX1_9 iX1_wageOfLeast_15 ?_
      refine r_icmpge iX1_wageOfLeast_18 (by omega) (by omega) (fun h18 => ?_) (fun h18 => ?_)
      · refine ld_i1 iX1_wageOfLeast_80 ?_
        refine t_int rfl iX1_wageOfLeast_81 ?_
        have e : p = P := by omega
        rw [e, hPc.2.2.2.1] at h1 h0
        rw [ha]; exact hq b0 (by omega) (Or.inr ⟨b0, rfl, by omega, trivial, fun u z _ => by have := h1 u z; show - F u ≤ - F b0; omega, fun u z _ => by have := h2 u z; show - F u < - F b0; omega⟩)
      · have hp1 : p < P := by omega
        have hm := hPc.2.2.2.2.1 p hp1
        have ht := hPc.top (show p + 1 ≤ P by omega)
        have hb1 := hB (s p) (by omega)
        refine ld_a0 iX1_wageOfLeast_21 ?_
        refine gf_X1_values kFX1_19 iX1_wageOfLeast_22 ?_
        refine ld_i4 iX1_wageOfLeast_25 ?_
        refine al_14 rfl (by omega) (by omega) iX1_wageOfLeast_27 ?_
        rw [(hrow p hp1).2.1]
        refine ld_l2 iX1_wageOfLeast_28 ?_
        refine r_lcge iX1_wageOfLeast_29 iX1_wageOfLeast_30 (by omega) (by omega) (fun h29 => ?_) (fun h29 => ?_)
        · first
            | exact tl b0 _ _ hp1 ha hM (by omega) (by omega) h1 h2
            | exact tl (s p) _ _ hp1 rfl rfl (by omega) (by omega) (fun u z => by have := h1 u z; omega) (fun u z => by have := h1 u z; omega)
        · refine ld_a0 iX1_wageOfLeast_33 ?_
          refine gf_X1_starts kFX1_15 iX1_wageOfLeast_34 ?_
          refine ld_i4 iX1_wageOfLeast_37 ?_
          refine al_13 rfl (by omega) (by omega) iX1_wageOfLeast_39 ?_
          rw [(hrow p hp1).1]
          refine sv_i1 (by decide) rfl iX1_wageOfLeast_40 ?_
          refine ld_a0 iX1_wageOfLeast_41 ?_
          refine gf_X1_values kFX1_19 iX1_wageOfLeast_42 ?_
          refine ld_i4 iX1_wageOfLeast_45 ?_
          refine al_14 rfl (by omega) (by omega) iX1_wageOfLeast_47 ?_
          rw [(hrow p hp1).2.1]
          refine sv_l2 (by decide) rfl iX1_wageOfLeast_48 ?_
          first
            | exact tl b0 _ _ hp1 ha hM (by omega) (by omega) h1 h2
            | exact tl (s p) _ _ hp1 rfl rfl (by omega) (by omega) (fun u z => by have := h1 u z; omega) (fun u z => by have := h1 u z; omega)
  refine r_iconst iX1_wageOfLeast_0 ?_
  refine sv_i1 (by decide) rfl iX1_wageOfLeast_1 ?_
  refine ld_a0 iX1_wageOfLeast_2 ?_
  refine gf_X1_values kFX1_19 iX1_wageOfLeast_3 ?_
  refine r_iconst iX1_wageOfLeast_6 ?_
  refine al_14 (n := 0) (by omega) (by omega) (by omega) iX1_wageOfLeast_7 ?_
  rw [(hrow 0 hP1).2.1, hPc.2.2.1]
  refine sv_l2 (by decide) rfl iX1_wageOfLeast_8 ?_
  refine r_iconst iX1_wageOfLeast_9 ?_
  refine sv_i4 (by decide) rfl iX1_wageOfLeast_10 ?_
  exact loop P 0 0 _ _ _ (by omega) (by omega) (by omega) (by omega) rfl (by omega) (fun u z => by rw [hPc.2.2.1] at z; omega) (fun u z => by omega)
theorem c_widest {Pq : Int → Nm → Ge → Prop} (hL : Ln N g i F P s G) (hq : ∀ (b : Nat) N', b < 10000 → Sr N N' → Amx (fun w => ((F w).natAbs : Int)) (fun _ => True) 10000 b → Pq b N' g) : Ck K YX1_widest hX1_widest [vr 12 i] N g (qI Pq) := by
  refine Ck.intro 6 (by decide) rfl ?_
  show AW _ _ _ _ _ [some (vr 12 i), none, none, none, none, none, none] _ _ _
  refine ld_a0 iX1_widest_0 ?_
  refine xX1_wageOfMost kMX1_138 iX1_widest_1 (by decide) (Nat.le_of_ble_eq_true rfl) rfl rfl ?_
  refine c_wageOfMost hL (fun a ha hA => ?_)
  refine sv_i1 (by decide) rfl iX1_widest_4 ?_
  refine ld_a0 iX1_widest_5 ?_
  refine xX1_wageOfLeast kMX1_142 iX1_widest_6 (by decide) (Nat.le_of_ble_eq_true rfl) rfl rfl ?_
  refine c_wageOfLeast hL (fun b hb hB => ?_)
  have ba := hL.2.2.2.2.1 a ha
  have bb := hL.2.2.2.2.1 b hb
  obtain ⟨A1, A2⟩ : (∀ u, u < 10000 → F u ≤ F a) ∧ ∀ u, u < a → F u < F a := by
    rcases hA with ⟨q, _⟩ | ⟨w, q, _, _, q4, q5⟩
    · omega
    · have e : w = a := by omega
      subst e; exact ⟨fun u z => q4 u z trivial, fun u z => q5 u z trivial⟩
  obtain ⟨B1, B2⟩ : (∀ u, u < 10000 → F b ≤ F u) ∧ ∀ u, u < b → F b < F u := by
    rcases hB with ⟨q, _⟩ | ⟨w, q, _, _, q4, q5⟩
    · omega
    · have e : w = b := by omega
      subst e; exact ⟨fun u z => by have y : - F u ≤ - F w := q4 u z trivial; omega, fun u z => by have y : - F u < - F w := q5 u z trivial; omega⟩
  clear hA hB
  refine sv_i2 (by decide) rfl iX1_widest_9 ?_
  refine ld_a0 iX1_widest_10 ?_
  refine ld_i1 iX1_widest_11 ?_
  refine xX1_valueAt kMX1_126 iX1_widest_12 (by decide) (Nat.le_of_ble_eq_true rfl) rfl rfl ?_
  refine c_valueAt hL ha (fun N1 s1 => ?_)
  refine xJ9_abs_067f4 kMX1_145 iX1_widest_15 (by decide) (Nat.le_of_ble_eq_true rfl) rfl rfl ?_
  refine c_absL (by omega) ?_
  refine sv_l3 (by decide) rfl iX1_widest_18 ?_
  refine ld_a0 iX1_widest_19 ?_
  refine ld_i2 iX1_widest_20 ?_
  refine xX1_valueAt kMX1_126 iX1_widest_21 (by decide) (Nat.le_of_ble_eq_true rfl) rfl rfl ?_
  refine c_valueAt (hL.sr s1) hb (fun N2 s2 => ?_)
  refine xJ9_abs_067f4 kMX1_145 iX1_widest_24 (by decide) (Nat.le_of_ble_eq_true rfl) rfl rfl ?_
  refine c_absL (by omega) ?_
  refine sv_l5 (by decide) rfl iX1_widest_27 ?_
  refine ld_l3 iX1_widest_29 ?_
  refine ld_l5 iX1_widest_30 ?_
  refine r_lcne iX1_widest_32 iX1_widest_33 (by omega) (by omega) (fun h32 => ?_) (fun h32 => ?_)
  · refine ld_l3 iX1_widest_42 ?_
    refine ld_l5 iX1_widest_43 ?_
    refine r_lcle iX1_widest_45 iX1_widest_46 (by omega) (by omega) (fun h45 => ?_) (fun h45 => ?_)
    · refine ld_i2 iX1_widest_53 ?_
      refine t_int rfl iX1_widest_54 ?_
      first
        | (refine hq a _ ha (s1.tr s2) (Or.inr ⟨a, rfl, ha, trivial, fun u z _ => ?_, fun u z _ => ?_⟩)
           · show ((F u).natAbs : Int) ≤ ((F a).natAbs : Int); have y1 := A1 u z; have y2 := B1 u z; omega
           · show ((F u).natAbs : Int) < ((F a).natAbs : Int); have y1 := A2 u z; have y2 := B1 u (by omega); omega)
        | (refine hq b _ hb (s1.tr s2) (Or.inr ⟨b, rfl, hb, trivial, fun u z _ => ?_, fun u z _ => ?_⟩)
           · show ((F u).natAbs : Int) ≤ ((F b).natAbs : Int); have y1 := A1 u z; have y2 := B1 u z; omega
           · show ((F u).natAbs : Int) < ((F b).natAbs : Int); have y1 := A1 u (by omega); have y2 := B2 u z; omega)
    · refine ld_i1 iX1_widest_49 ?_
      refine r_goto iX1_widest_50 ?_
      refine t_int rfl iX1_widest_54 ?_
      first
        | (refine hq a _ ha (s1.tr s2) (Or.inr ⟨a, rfl, ha, trivial, fun u z _ => ?_, fun u z _ => ?_⟩)
           · show ((F u).natAbs : Int) ≤ ((F a).natAbs : Int); have y1 := A1 u z; have y2 := B1 u z; omega
           · show ((F u).natAbs : Int) < ((F a).natAbs : Int); have y1 := A2 u z; have y2 := B1 u (by omega); omega)
        | (refine hq b _ hb (s1.tr s2) (Or.inr ⟨b, rfl, hb, trivial, fun u z _ => ?_, fun u z _ => ?_⟩)
           · show ((F u).natAbs : Int) ≤ ((F b).natAbs : Int); have y1 := A1 u z; have y2 := B1 u z; omega
           · show ((F u).natAbs : Int) < ((F b).natAbs : Int); have y1 := A1 u (by omega); have y2 := B2 u z; omega)
  · refine ld_i1 iX1_widest_36 ?_
    refine ld_i2 iX1_widest_37 ?_
    refine xJ9_min_7cf53 kMX1_64 iX1_widest_38 (by decide) (Nat.le_of_ble_eq_true rfl) rfl rfl ?_
    refine c_minI (by omega) (by omega) ?_
    refine t_int rfl iX1_widest_41 ?_
    have hk := hq (min a b) _ (by omega) (s1.tr s2) (Or.inr ⟨min a b, rfl, by omega, trivial, fun u z _ => ?_, fun u z _ => ?_⟩)
    · exact pz hk (by omega)
    · show ((F u).natAbs : Int) ≤ ((F (min a b)).natAbs : Int)
      have y1 := A1 u z
      have y2 := B1 u z
      rcases Nat.le_total a b with y | y
      · rw [show min a b = a by omega]; omega
      · rw [show min a b = b by omega]; omega
    · show ((F u).natAbs : Int) < ((F (min a b)).natAbs : Int)
      have y1 := A2 u (by omega)
      have y2 := B2 u (by omega)
      rcases Nat.le_total a b with y | y
      · rw [show min a b = a by omega]; omega
      · rw [show min a b = b by omega]; omega
theorem c_steepest {Pq : Int → Nm → Ge → Prop} (hL : Ln N g i F P s G) (hC : Cn F P s G) (hq : ∀ b : Nat, b < 9999 → Amx (fun w => F w - F (w + 1)) (fun _ => True) 9999 b → Pq b N g) : Ck K YX1_steepest hX1_steepest [vr 12 i] N g (qI Pq) := by
  have hL0 := hL
  obtain ⟨hN0, hrow, hseat, hroom, hB, hPc⟩ := hL
  have hP1 := hPc.1
  have hP2 := hPc.2.1
  refine Ck.intro 4 (by decide) rfl ?_
  show AW _ _ _ _ _ [some (vr 12 i), none, none, none, none] _ _ _
  have hstep : ∀ p, p < P → ∀ w, s p ≤ w → w + 1 < s (p + 1) → F (w + 1) - F w = G p := fun p hp w z1 z2 => by
    have := hPc.lin2 hp z1 (show w ≤ w + 1 by omega) z2
    rw [show ((w + 1 : Nat) : Int) - w = 1 by omega, Int.one_mul] at this
    omega
  have loop : ∀ (n p b0 : Nat) (a M b : Int), P - p = n → 1 ≤ p → p ≤ P → b = p → a = b0 → M = F (b0 + 1) - F b0 → b0 + 1 < s p → (∀ u, u + 1 < s p → F (b0 + 1) - F b0 ≤ F (u + 1) - F u) → (∀ u, u < b0 → F (b0 + 1) - F b0 < F (u + 1) - F u) → AW K YX1_steepest hX1_steepest (qI Pq) 12 [some (vr 12 i), some (vi a), some (vl M), none, some (vi b)] [] N g := by
    intro n
    induction n using Nat.strongRecOn with
    | _ n ih =>
      intro p b0 a M b e hp0 hp hb ha hM h0 h1 h2
      subst hb
      have hst := hPc.top hp
      have hbm := hB b0 (by omega)
      have hbm2 := hB (b0 + 1) (by omega)
      obtain ⟨p', rfl⟩ : ∃ p', p = p' + 1 := ⟨p - 1, by omega⟩
      have tl : ∀ (b1 : Nat) (a M : Int), p' + 1 < P → a = b1 → M = F (b1 + 1) - F b1 → b1 + 1 ≤ s (p' + 1) → (∀ u, u + 1 ≤ s (p' + 1) → F (b1 + 1) - F b1 ≤ F (u + 1) - F u) → (∀ u, u < b1 → F (b1 + 1) - F b1 < F (u + 1) - F u) → AW K YX1_steepest hX1_steepest (qI Pq) 49 [some (vr 12 i), some (vi a), some (vl M), none, some (vi ((p' + 1 : Nat) : Int))] [] N g := by
        intro b1 a M hp1 ha hM k0 k2 k3
        have hm := hPc.2.2.2.2.1 (p' + 1) hp1
        have ht := hPc.top (show p' + 1 + 1 ≤ P by omega)
        have hG := hPc.2.2.2.2.2.2 (p' + 1) hp1
        have hb1 := hB b1 (by omega)
        have hb2 := hB (b1 + 1) (by omega)
        have hin := hstep (p' + 1) hp1
        refine ld_a0 iX1_steepest_49 ?_
        refine ld_i4 iX1_steepest_50 ?_
        refine xX1_further kMX1_91 iX1_steepest_52 (by decide) (Nat.le_of_ble_eq_true rfl) rfl rfl ?_
        refine c_further hL0 hp1 ?_
        refine r_ifle iX1_steepest_55 (by omega) (fun h55 => ?_) (fun h55 => ?_)
        · refine inc_4 (by decide) rfl iX1_steepest_86 ?_
          refine r_goto iX1_steepest_89 ?_
          first
            | (refine ih (P - (p' + 1 + 1)) (by omega) (p' + 1 + 1) b1 _ _ _ rfl (by omega) (by omega) (by omega) ha hM (by omega) (fun u z => ?_) k3
               rcases Nat.lt_or_ge u (s (p' + 1)) with y | y
               · exact k2 u (by omega)
               · have := hin u y z; omega)
            | (have hs0 := hin (s (p' + 1)) (Nat.le_refl _) (by omega)
               refine ih (P - (p' + 1 + 1)) (by omega) (p' + 1 + 1) (s (p' + 1)) _ _ _ rfl (by omega) (by omega) (by omega) rfl hs0.symm (by omega) (fun u z => ?_) (fun u z => ?_)
               · rcases Nat.lt_or_ge u (s (p' + 1)) with y | y
                 · have := k2 u (by omega); omega
                 · have := hin u y z; omega
               · have := k2 u (by omega); omega)
        · refine ld_a0 iX1_steepest_58 ?_
          refine gf_X1_gains kFX1_23 iX1_steepest_59 ?_
          refine ld_i4 iX1_steepest_62 ?_
          refine al_15 rfl (by omega) (by omega) iX1_steepest_64 ?_
          rw [(hrow (p' + 1) hp1).2.2]
          refine ld_l2 iX1_steepest_65 ?_
          refine r_lcge iX1_steepest_66 iX1_steepest_67 (by omega) (by omega) (fun h66 => ?_) (fun h66 => ?_)
          · refine inc_4 (by decide) rfl iX1_steepest_86 ?_
            refine r_goto iX1_steepest_89 ?_
            first
              | (refine ih (P - (p' + 1 + 1)) (by omega) (p' + 1 + 1) b1 _ _ _ rfl (by omega) (by omega) (by omega) ha hM (by omega) (fun u z => ?_) k3
                 rcases Nat.lt_or_ge u (s (p' + 1)) with y | y
                 · exact k2 u (by omega)
                 · have := hin u y z; omega)
              | (have hs0 := hin (s (p' + 1)) (Nat.le_refl _) (by omega)
                 refine ih (P - (p' + 1 + 1)) (by omega) (p' + 1 + 1) (s (p' + 1)) _ _ _ rfl (by omega) (by omega) (by omega) rfl hs0.symm (by omega) (fun u z => ?_) (fun u z => ?_)
                 · rcases Nat.lt_or_ge u (s (p' + 1)) with y | y
                   · have := k2 u (by omega); omega
                   · have := hin u y z; omega
                 · have := k2 u (by omega); omega)
          · refine ld_a0 iX1_steepest_70 ?_
            refine gf_X1_starts kFX1_15 iX1_steepest_71 ?_
            refine ld_i4 iX1_steepest_74 ?_
            refine al_13 rfl (by omega) (by omega) iX1_steepest_76 ?_
            rw [(hrow (p' + 1) hp1).1]
            refine sv_i1 (by decide) rfl iX1_steepest_77 ?_
            refine ld_a0 iX1_steepest_78 ?_
            refine gf_X1_gains kFX1_23 iX1_steepest_79 ?_
            refine ld_i4 iX1_steepest_82 ?_
            refine al_15 rfl (by omega) (by omega) iX1_steepest_84 ?_
            rw [(hrow (p' + 1) hp1).2.2]
            refine sv_l2 (by decide) rfl iX1_steepest_85 ?_
            refine inc_4 (by decide) rfl iX1_steepest_86 ?_
            refine r_goto iX1_steepest_89 ?_
            first
              | (refine ih (P - (p' + 1 + 1)) (by omega) (p' + 1 + 1) b1 _ _ _ rfl (by omega) (by omega) (by omega) ha hM (by omega) (fun u z => ?_) k3
                 rcases Nat.lt_or_ge u (s (p' + 1)) with y | y
                 · exact k2 u (by omega)
                 · have := hin u y z; omega)
              | (have hs0 := hin (s (p' + 1)) (Nat.le_refl _) (by omega)
                 refine ih (P - (p' + 1 + 1)) (by omega) (p' + 1 + 1) (s (p' + 1)) _ _ _ rfl (by omega) (by omega) (by omega) rfl hs0.symm (by omega) (fun u z => ?_) (fun u z => ?_)
                 · rcases Nat.lt_or_ge u (s (p' + 1)) with y | y
                   · have := k2 u (by omega); omega
                   · have := hin u y z; omega
                 · have := k2 u (by omega); omega)
      refine ld_i4 iX1_steepest_12 ?_
      refine ld_a0 iX1_steepest_14 ?_
      refine gf_X1_pieces kFX1_9 iX1_steepest_15 ?_
      refine r_icmpge iX1_steepest_18 (by omega) (by omega) (fun h18 => ?_) (fun h18 => ?_)
      · refine ld_i1 iX1_steepest_92 ?_
        refine t_int rfl iX1_steepest_93 ?_
        have e : p' + 1 = P := by omega
        rw [e, hPc.2.2.2.1] at h1 h0
        rw [ha]; exact hq b0 (by omega) (Or.inr ⟨b0, rfl, by omega, trivial, fun u z _ => by have := h1 u (by omega); show F u - F (u + 1) ≤ F b0 - F (b0 + 1); omega, fun u z _ => by have := h2 u z; show F u - F (u + 1) < F b0 - F (b0 + 1); omega⟩)
      · have hp1 : p' + 1 < P := by omega
        have hm0 := hPc.2.2.2.2.1 p' (by omega)
        have hm := hPc.2.2.2.2.1 (p' + 1) hp1
        have ht := hPc.top (show p' + 1 + 1 ≤ P by omega)
        have hb1 := hB (s (p' + 1)) (by omega)
        have hb2 := hB (s (p' + 1) - 1) (by omega)
        have e1 : s (p' + 1) - 1 + 1 = s (p' + 1) := by omega
        refine ld_a0 iX1_steepest_21 ?_
        refine ld_i4 iX1_steepest_22 ?_
        refine xX1_gainInto kMX1_116 iX1_steepest_24 (by decide) (Nat.le_of_ble_eq_true rfl) rfl rfl ?_
        refine c_gainInto hL0 hp1 ?_
        refine ld_l2 iX1_steepest_27 ?_
        refine r_lcge iX1_steepest_28 iX1_steepest_29 (by omega) (by omega) (fun h28 => ?_) (fun h28 => ?_)
        · first
            | (refine tl b0 _ _ hp1 ha hM (by omega) (fun u z => ?_) h2
               rcases Nat.lt_or_ge (u + 1) (s (p' + 1)) with y | y
               · exact h1 u y
               · rw [show u = s (p' + 1) - 1 by omega, e1]; omega)
            | (refine tl (s (p' + 1) - 1) _ _ hp1 (by omega) (by rw [e1]) (by omega) (fun u z => ?_) (fun u z => ?_)
               · rw [e1]
                 rcases Nat.lt_or_ge (u + 1) (s (p' + 1)) with y | y
                 · have := h1 u y; omega
                 · rw [show u = s (p' + 1) - 1 by omega, e1]; omega
               · rw [e1]; have := h1 u (by omega); omega)
        · refine ld_a0 iX1_steepest_32 ?_
          refine gf_X1_starts kFX1_15 iX1_steepest_33 ?_
          refine ld_i4 iX1_steepest_36 ?_
          refine al_13 rfl (by omega) (by omega) iX1_steepest_38 ?_
          rw [(hrow (p' + 1) hp1).1]
          refine r_iconst iX1_steepest_39 ?_
          refine r_isub iX1_steepest_40 ?_
          refine sv_i1 (by decide) rfl iX1_steepest_41 ?_
          refine ld_a0 iX1_steepest_42 ?_
          refine ld_i4 iX1_steepest_43 ?_
          refine xX1_gainInto kMX1_116 iX1_steepest_45 (by decide) (Nat.le_of_ble_eq_true rfl) rfl rfl ?_
          refine c_gainInto hL0 hp1 ?_
          refine sv_l2 (by decide) rfl iX1_steepest_48 ?_
          first
            | (refine tl b0 _ _ hp1 ha hM (by omega) (fun u z => ?_) h2
               rcases Nat.lt_or_ge (u + 1) (s (p' + 1)) with y | y
               · exact h1 u y
               · rw [show u = s (p' + 1) - 1 by omega, e1]; omega)
            | (refine tl (s (p' + 1) - 1) _ _ hp1 (by omega) (by rw [e1]) (by omega) (fun u z => ?_) (fun u z => ?_)
               · rw [e1]
                 rcases Nat.lt_or_ge (u + 1) (s (p' + 1)) with y | y
                 · have := h1 u y; omega
                 · rw [show u = s (p' + 1) - 1 by omega, e1]; omega
               · rw [e1]; have := h1 u (by omega); omega)
  have e01 : s (0 + 1) = s 1 := rfl
  have h01 : 2 ≤ s 1 := by
    rcases Nat.lt_or_ge 1 P with q | q
    · have := (hC.1 0 q).1; rw [hPc.2.2.1] at this; omega
    · rw [show 1 = P by omega, hPc.2.2.2.1]; omega
  have hg0 := hstep 0 hP1 0 (by rw [hPc.2.2.1]; omega) (by omega)
  refine r_iconst iX1_steepest_0 ?_
  refine sv_i1 (by decide) rfl iX1_steepest_1 ?_
  refine ld_a0 iX1_steepest_2 ?_
  refine gf_X1_gains kFX1_23 iX1_steepest_3 ?_
  refine r_iconst iX1_steepest_6 ?_
  refine al_15 (n := 0) (by omega) (by omega) (by omega) iX1_steepest_7 ?_
  rw [(hrow 0 hP1).2.2]
  refine sv_l2 (by decide) rfl iX1_steepest_8 ?_
  refine r_iconst iX1_steepest_9 ?_
  refine sv_i4 (by decide) rfl iX1_steepest_10 ?_
  exact loop (P - 1) 1 0 _ _ _ (by omega) (by omega) (by omega) (by omega) (by omega) hg0.symm (by omega) (fun u z => by have := hstep 0 hP1 u (by rw [hPc.2.2.1]; omega) z; omega) (fun u z => by omega)
theorem c_flatPieces {Pq : Int → Nm → Ge → Prop} (hL : Ln N g i F P s G) (hq : Pq (ct (fun p => decide (G p = 0 ∧ s p + 1 < s (p + 1))) P) N g) : Ck K YX1_flatPieces hX1_flatPieces [vr 12 i] N g (qI Pq) := by
  have hL0 := hL
  obtain ⟨hN0, hrow, hseat, hroom, hB, hPc⟩ := hL
  have hP2 := hPc.2.1
  refine Ck.intro 2 (by decide) rfl ?_
  show AW _ _ _ _ _ [some (vr 12 i), none, none] _ _ _
  have loop : ∀ (n p : Nat) (a b : Int), P - p = n → p ≤ P → b = p → a = ct (fun p => decide (G p = 0 ∧ s p + 1 < s (p + 1))) p → AW K YX1_flatPieces hX1_flatPieces (qI Pq) 4 [some (vr 12 i), some (vi a), some (vi b)] [] N g := by
    intro n
    induction n using Nat.strongRecOn with
    | _ n ih =>
      intro p a b e hp hb ha
      subst hb
      refine ld_i2 iX1_flatPieces_4 ?_
      refine ld_a0 iX1_flatPieces_5 ?_
      refine gf_X1_pieces kFX1_9 iX1_flatPieces_6 ?_
      refine r_icmpge iX1_flatPieces_9 (by omega) (by omega) (fun h9 => ?_) (fun h9 => ?_)
      · refine ld_i1 iX1_flatPieces_40 ?_
        refine t_int rfl iX1_flatPieces_41 ?_
        have e : p = P := by omega
        rw [e] at ha; rw [ha]; exact hq
      · have hp1 : p < P := by omega
        have hm := hPc.2.2.2.2.1 p hp1
        have ht := hPc.top (show p + 1 ≤ P by omega)
        have hG := hPc.2.2.2.2.2.2 p hp1
        have hct : ct (fun p => decide (G p = 0 ∧ s p + 1 < s (p + 1))) (p + 1) = ct (fun p => decide (G p = 0 ∧ s p + 1 < s (p + 1))) p + (if G p = 0 ∧ s p + 1 < s (p + 1) then 1 else 0) := by rw [ct]; simp
        refine ld_a0 iX1_flatPieces_12 ?_
        refine gf_X1_gains kFX1_23 iX1_flatPieces_13 ?_
        refine ld_i2 iX1_flatPieces_16 ?_
        refine al_15 rfl (by omega) (by omega) iX1_flatPieces_17 ?_
        rw [(hrow p hp1).2.2]
        refine r_lconst (v := 0) (by decide) iX1_flatPieces_18 ?_
        refine r_lcne iX1_flatPieces_19 iX1_flatPieces_20 (by omega) (by omega) (fun h19 => ?_) (fun h19 => ?_)
        · refine inc_2 (by decide) rfl iX1_flatPieces_34 ?_
          refine r_goto iX1_flatPieces_37 ?_
          refine ih (P - (p + 1)) (by omega) (p + 1) _ _ rfl (by omega) (by omega) ?_
          rw [hct]; split <;> omega
        · refine ld_a0 iX1_flatPieces_23 ?_
          refine ld_i2 iX1_flatPieces_24 ?_
          refine xX1_further kMX1_91 iX1_flatPieces_25 (by decide) (Nat.le_of_ble_eq_true rfl) rfl rfl ?_
          refine c_further hL0 hp1 ?_
          refine r_ifle iX1_flatPieces_28 (by omega) (fun h28 => ?_) (fun h28 => ?_)
          · refine inc_2 (by decide) rfl iX1_flatPieces_34 ?_
            refine r_goto iX1_flatPieces_37 ?_
            refine ih (P - (p + 1)) (by omega) (p + 1) _ _ rfl (by omega) (by omega) ?_
            rw [hct]; split <;> omega
          · refine inc_1 (by decide) rfl iX1_flatPieces_31 ?_
            refine inc_2 (by decide) rfl iX1_flatPieces_34 ?_
            refine r_goto iX1_flatPieces_37 ?_
            refine ih (P - (p + 1)) (by omega) (p + 1) _ _ rfl (by omega) (by omega) ?_
            rw [hct]; split <;> omega
  refine r_iconst iX1_flatPieces_0 ?_
  refine sv_i1 (by decide) rfl iX1_flatPieces_1 ?_
  refine r_iconst iX1_flatPieces_2 ?_
  refine sv_i2 (by decide) rfl iX1_flatPieces_3 ?_
  exact loop P 0 _ _ (by omega) (by omega) (by omega) rfl
theorem c_greatestPiece {Pq : Int → Nm → Ge → Prop} (hL : Ln N g i F P s G) (hq : ∀ r, Amx (fun p => (s (p + 1) : Int) - s p) (fun _ => True) P r → Pq r N g) : Ck K YX1_greatestPiece hX1_greatestPiece [vr 12 i] N g (qI Pq) := by
  have hL0 := hL
  obtain ⟨hN0, hrow, hseat, hroom, hB, hPc⟩ := hL
  have hP1 := hPc.1
  have hP2 := hPc.2.1
  refine Ck.intro 2 (by decide) rfl ?_
  show AW _ _ _ _ _ [some (vr 12 i), none, none] _ _ _
  have loop : ∀ (n p b0 : Nat) (a b : Int), P - p = n → p ≤ P → b = p → a = b0 → b0 < p → (∀ u, u < p → (s (u + 1) : Int) - s u ≤ (s (b0 + 1) : Int) - s b0) → (∀ u, u < b0 → (s (u + 1) : Int) - s u < (s (b0 + 1) : Int) - s b0) → AW K YX1_greatestPiece hX1_greatestPiece (qI Pq) 4 [some (vr 12 i), some (vi a), some (vi b)] [] N g := by
    intro n
    induction n using Nat.strongRecOn with
    | _ n ih =>
      intro p b0 a b e hp hb ha h0 h1 h2
      subst hb
      subst ha
      refine ld_i2 iX1_greatestPiece_4 ?_
      refine ld_a0 iX1_greatestPiece_5 ?_
      refine gf_X1_pieces kFX1_9 iX1_greatestPiece_6 ?_
      refine r_icmpge iX1_greatestPiece_9 (by omega) (by omega) (fun h9 => ?_) (fun h9 => ?_)
      · refine ld_i1 iX1_greatestPiece_33 ?_
        refine t_int rfl iX1_greatestPiece_34 ?_
        have e : p = P := by omega
        exact hq _ (Or.inr ⟨b0, rfl, by omega, trivial, fun u z _ => h1 u (by omega), fun u z _ => h2 u z⟩)
      · have hp1 : p < P := by omega
        have ht := hPc.top (show p + 1 ≤ P by omega)
        have ht2 := hPc.top (show b0 + 1 ≤ P by omega)
        have ht3 := hPc.top (show p ≤ P by omega)
        have ht4 := hPc.top (show b0 ≤ P by omega)
        refine ld_a0 iX1_greatestPiece_12 ?_
        refine ld_i2 iX1_greatestPiece_13 ?_
        refine xX1_further kMX1_91 iX1_greatestPiece_14 (by decide) (Nat.le_of_ble_eq_true rfl) rfl rfl ?_
        refine c_further hL0 hp1 ?_
        refine ld_a0 iX1_greatestPiece_17 ?_
        refine ld_i1 iX1_greatestPiece_18 ?_
        refine xX1_further kMX1_91 iX1_greatestPiece_19 (by decide) (Nat.le_of_ble_eq_true rfl) rfl rfl ?_
        refine c_further hL0 (by omega) ?_
        refine r_icmple iX1_greatestPiece_22 (by omega) (by omega) (fun h22 => ?_) (fun h22 => ?_)
        · refine inc_2 (by decide) rfl iX1_greatestPiece_27 ?_
          refine r_goto iX1_greatestPiece_30 ?_
          first
            | (refine ih (P - (p + 1)) (by omega) (p + 1) b0 _ _ rfl (by omega) (by omega) rfl (by omega) (fun u z => ?_) h2
               rcases Nat.lt_or_ge u p with y | y
               · exact h1 u y
               · rw [show u = p by omega]; omega)
            | (refine ih (P - (p + 1)) (by omega) (p + 1) p _ _ rfl (by omega) (by omega) rfl (by omega) (fun u z => ?_) (fun u z => ?_)
               · rcases Nat.lt_or_ge u p with y | y
                 · have := h1 u y; omega
                 · rw [show u = p by omega]; omega
               · have := h1 u z; omega)
        · refine ld_i2 iX1_greatestPiece_25 ?_
          refine sv_i1 (by decide) rfl iX1_greatestPiece_26 ?_
          refine inc_2 (by decide) rfl iX1_greatestPiece_27 ?_
          refine r_goto iX1_greatestPiece_30 ?_
          first
            | (refine ih (P - (p + 1)) (by omega) (p + 1) b0 _ _ rfl (by omega) (by omega) rfl (by omega) (fun u z => ?_) h2
               rcases Nat.lt_or_ge u p with y | y
               · exact h1 u y
               · rw [show u = p by omega]; omega)
            | (refine ih (P - (p + 1)) (by omega) (p + 1) p _ _ rfl (by omega) (by omega) rfl (by omega) (fun u z => ?_) (fun u z => ?_)
               · rcases Nat.lt_or_ge u p with y | y
                 · have := h1 u y; omega
                 · rw [show u = p by omega]; omega
               · have := h1 u z; omega)
  refine r_iconst iX1_greatestPiece_0 ?_
  refine sv_i1 (by decide) rfl iX1_greatestPiece_1 ?_
  refine r_iconst iX1_greatestPiece_2 ?_
  refine sv_i2 (by decide) rfl iX1_greatestPiece_3 ?_
  exact loop (P - 1) 1 0 _ _ (by omega) (by omega) (by omega) (by omega) (by omega) (fun u z => by rw [show u = 0 by omega]; omega) (fun u z => by omega)
def jmB (F : Nat → Int) (s : Nat → Nat) (G : Nat → Int) (p : Nat) : Bool := decide (0 < p ∧ F (s p) - F (s p - 1) ≠ G (p - 1) ∧ F (s p) - F (s p - 1) ≠ G p)
theorem c_jumpCount {Pq : Int → Nm → Ge → Prop} (hL : Ln N g i F P s G) (hq : Pq (ct (jmB F s G) P) N g) : Ck K YX1_jumpCount hX1_jumpCount [vr 12 i] N g (qI Pq) := by
  have hL0 := hL
  obtain ⟨hN0, hrow, hseat, hroom, hB, hPc⟩ := hL
  have hP1 := hPc.1
  have hP2 := hPc.2.1
  refine Ck.intro 2 (by decide) rfl ?_
  show AW _ _ _ _ _ [some (vr 12 i), none, none] _ _ _
  have loop : ∀ (n p : Nat) (a b : Int), P - (p + 1) = n → p + 1 ≤ P → b = ((p + 1 : Nat) : Int) → a = ct (jmB F s G) (p + 1) → AW K YX1_jumpCount hX1_jumpCount (qI Pq) 4 [some (vr 12 i), some (vi a), some (vi b)] [] N g := by
    intro n
    induction n using Nat.strongRecOn with
    | _ n ih =>
      intro p a b e hp hb ha
      subst hb
      refine ld_i2 iX1_jumpCount_4 ?_
      refine ld_a0 iX1_jumpCount_5 ?_
      refine gf_X1_pieces kFX1_9 iX1_jumpCount_6 ?_
      refine r_icmpge iX1_jumpCount_9 (by omega) (by omega) (fun h9 => ?_) (fun h9 => ?_)
      · refine ld_i1 iX1_jumpCount_53 ?_
        refine t_int rfl iX1_jumpCount_54 ?_
        have e : p + 1 = P := by omega
        rw [e] at ha; rw [ha]; exact hq
      · have hp1 : p + 1 < P := by omega
        have hm0 := hPc.2.2.2.2.1 p (by omega)
        have hm := hPc.2.2.2.2.1 (p + 1) hp1
        have ht := hPc.top (show p + 1 + 1 ≤ P by omega)
        have hG := hPc.2.2.2.2.2.2 (p + 1) hp1
        have hG0 := hPc.2.2.2.2.2.2 p (by omega)
        have hb1 := hB (s (p + 1)) (by omega)
        have hb2 := hB (s (p + 1) - 1) (by omega)
        have hct : ct (jmB F s G) (p + 1 + 1) = ct (jmB F s G) (p + 1) + (if F (s (p + 1)) - F (s (p + 1) - 1) ≠ G p ∧ F (s (p + 1)) - F (s (p + 1) - 1) ≠ G (p + 1) then 1 else 0) := by rw [ct]; simp [jmB]
        refine ld_a0 iX1_jumpCount_12 ?_
        refine ld_i2 iX1_jumpCount_13 ?_
        refine xX1_gainInto kMX1_116 iX1_jumpCount_14 (by decide) (Nat.le_of_ble_eq_true rfl) rfl rfl ?_
        refine c_gainInto hL0 hp1 ?_
        refine ld_a0 iX1_jumpCount_17 ?_
        refine gf_X1_gains kFX1_23 iX1_jumpCount_18 ?_
        refine ld_i2 iX1_jumpCount_21 ?_
        refine r_iconst iX1_jumpCount_22 ?_
        refine r_isub iX1_jumpCount_23 ?_
        refine al_15 (n := p) (by omega) (by omega) (by omega) iX1_jumpCount_24 ?_
        rw [(hrow p (by omega)).2.2]
        refine r_lceq iX1_jumpCount_25 iX1_jumpCount_26 (by omega) (by omega) (fun h25 => ?_) (fun h25 => ?_)
        · refine inc_2 (by decide) rfl iX1_jumpCount_47 ?_
          refine r_goto iX1_jumpCount_50 ?_
          refine ih (P - (p + 1 + 1)) (by omega) (p + 1) _ _ rfl (by omega) (by omega) ?_
          rw [hct]; split <;> omega
        · refine ld_a0 iX1_jumpCount_29 ?_
          refine ld_i2 iX1_jumpCount_30 ?_
          refine xX1_gainInto kMX1_116 iX1_jumpCount_31 (by decide) (Nat.le_of_ble_eq_true rfl) rfl rfl ?_
          refine c_gainInto hL0 hp1 ?_
          refine ld_a0 iX1_jumpCount_34 ?_
          refine gf_X1_gains kFX1_23 iX1_jumpCount_35 ?_
          refine ld_i2 iX1_jumpCount_38 ?_
          refine al_15 rfl (by omega) (by omega) iX1_jumpCount_39 ?_
          rw [(hrow (p + 1) hp1).2.2]
          refine r_lceq iX1_jumpCount_40 iX1_jumpCount_41 (by omega) (by omega) (fun h40 => ?_) (fun h40 => ?_)
          · refine inc_2 (by decide) rfl iX1_jumpCount_47 ?_
            refine r_goto iX1_jumpCount_50 ?_
            refine ih (P - (p + 1 + 1)) (by omega) (p + 1) _ _ rfl (by omega) (by omega) ?_
            rw [hct]; split <;> omega
          · refine inc_1 (by decide) rfl iX1_jumpCount_44 ?_
            refine inc_2 (by decide) rfl iX1_jumpCount_47 ?_
            refine r_goto iX1_jumpCount_50 ?_
            refine ih (P - (p + 1 + 1)) (by omega) (p + 1) _ _ rfl (by omega) (by omega) ?_
            rw [hct]; split <;> omega
  refine r_iconst iX1_jumpCount_0 ?_
  refine sv_i1 (by decide) rfl iX1_jumpCount_1 ?_
  refine r_iconst iX1_jumpCount_2 ?_
  refine sv_i2 (by decide) rfl iX1_jumpCount_3 ?_
  exact loop (P - 1) 0 _ _ (by omega) (by omega) (by omega) (by simp [ct, jmB])
def knB (G : Nat → Int) (up : Bool) (p : Nat) : Bool := decide (0 < p ∧ (if up then G (p - 1) < G p else G p < G (p - 1)))
theorem c_kinkCount {up : Bool} {Pq : Int → Nm → Ge → Prop} (hL : Ln N g i F P s G) (hq : Pq (ct (knB G up) P) N g) : Ck K YX1_kinkCount hX1_kinkCount [vr 12 i, vi (if up then 1 else 0)] N g (qI Pq) := by
  have hL0 := hL
  obtain ⟨hN0, hrow, hseat, hroom, hB, hPc⟩ := hL
  have hP1 := hPc.1
  have hP2 := hPc.2.1
  refine Ck.intro 2 (by decide) rfl ?_
  show AW _ _ _ _ _ [some (vr 12 i), some (vi (if up then 1 else 0)), none, none] _ _ _
  obtain ⟨f, hf⟩ : ∃ f : Int, f = if up then 1 else 0 := ⟨_, rfl⟩
  rw [← hf]
  have hf2 : (f = 1 ∧ up = true) ∨ (f = 0 ∧ up = false) := by rw [hf]; cases up <;> simp
  have loop : ∀ (n p : Nat) (a b : Int), P - (p + 1) = n → p + 1 ≤ P → b = ((p + 1 : Nat) : Int) → a = ct (knB G up) (p + 1) → AW K YX1_kinkCount hX1_kinkCount (qI Pq) 4 [some (vr 12 i), some (vi f), some (vi a), some (vi b)] [] N g := by
    intro n
    induction n using Nat.strongRecOn with
    | _ n ih =>
      intro p a b e hp hb ha
      subst hb
      refine ld_i3 iX1_kinkCount_4 ?_
      refine ld_a0 iX1_kinkCount_5 ?_
      refine gf_X1_pieces kFX1_9 iX1_kinkCount_6 ?_
      refine r_icmpge iX1_kinkCount_9 (by omega) (by omega) (fun h9 => ?_) (fun h9 => ?_)
      · refine ld_i2 iX1_kinkCount_64 ?_
        refine t_int rfl iX1_kinkCount_65 ?_
        have e : p + 1 = P := by omega
        rw [e] at ha; rw [ha]; exact hq
      · have hp1 : p + 1 < P := by omega
        have hG := hPc.2.2.2.2.2.2 (p + 1) hp1
        have hG0 := hPc.2.2.2.2.2.2 p (by omega)
        have hct : ct (knB G up) (p + 1 + 1) = ct (knB G up) (p + 1) + (if (if up then G p < G (p + 1) else G (p + 1) < G p) then 1 else 0) := by rw [ct]; simp [knB]
        refine ld_i1 iX1_kinkCount_12 ?_
        refine r_ifeq iX1_kinkCount_13 (by omega) (fun h13 => ?_) (fun h13 => ?_)
        · refine ld_a0 iX1_kinkCount_37 ?_
          refine gf_X1_gains kFX1_23 iX1_kinkCount_38 ?_
          refine ld_i3 iX1_kinkCount_41 ?_
          refine al_15 rfl (by omega) (by omega) iX1_kinkCount_42 ?_
          rw [(hrow (p + 1) hp1).2.2]
          refine ld_a0 iX1_kinkCount_43 ?_
          refine gf_X1_gains kFX1_23 iX1_kinkCount_44 ?_
          refine ld_i3 iX1_kinkCount_47 ?_
          refine r_iconst iX1_kinkCount_48 ?_
          refine r_isub iX1_kinkCount_49 ?_
          refine al_15 (n := p) (by omega) (by omega) (by omega) iX1_kinkCount_50 ?_
          rw [(hrow p (by omega)).2.2]
          refine r_lcge iX1_kinkCount_51 iX1_kinkCount_52 (by omega) (by omega) (fun h51 => ?_) (fun h51 => ?_)
          · refine inc_3 (by decide) rfl iX1_kinkCount_58 ?_
            refine r_goto iX1_kinkCount_61 ?_
            refine ih (P - (p + 1 + 1)) (by omega) (p + 1) _ _ rfl (by omega) (by omega) ?_
            rcases hf2 with ⟨q1, q2⟩ | ⟨q1, q2⟩
            · subst q2; rw [hct]; simp only [if_true]; split <;> omega
            · subst q2; rw [hct]; simp only [Bool.false_eq_true, if_false]; split <;> omega
          · refine inc_2 (by decide) rfl iX1_kinkCount_55 ?_
            refine inc_3 (by decide) rfl iX1_kinkCount_58 ?_
            refine r_goto iX1_kinkCount_61 ?_
            refine ih (P - (p + 1 + 1)) (by omega) (p + 1) _ _ rfl (by omega) (by omega) ?_
            rcases hf2 with ⟨q1, q2⟩ | ⟨q1, q2⟩
            · subst q2; rw [hct]; simp only [if_true]; split <;> omega
            · subst q2; rw [hct]; simp only [Bool.false_eq_true, if_false]; split <;> omega
        · refine ld_a0 iX1_kinkCount_16 ?_
          refine gf_X1_gains kFX1_23 iX1_kinkCount_17 ?_
          refine ld_i3 iX1_kinkCount_20 ?_
          refine al_15 rfl (by omega) (by omega) iX1_kinkCount_21 ?_
          rw [(hrow (p + 1) hp1).2.2]
          refine ld_a0 iX1_kinkCount_22 ?_
          refine gf_X1_gains kFX1_23 iX1_kinkCount_23 ?_
          refine ld_i3 iX1_kinkCount_26 ?_
          refine r_iconst iX1_kinkCount_27 ?_
          refine r_isub iX1_kinkCount_28 ?_
          refine al_15 (n := p) (by omega) (by omega) (by omega) iX1_kinkCount_29 ?_
          rw [(hrow p (by omega)).2.2]
          refine r_lcle iX1_kinkCount_30 iX1_kinkCount_31 (by omega) (by omega) (fun h30 => ?_) (fun h30 => ?_)
          · refine inc_3 (by decide) rfl iX1_kinkCount_58 ?_
            refine r_goto iX1_kinkCount_61 ?_
            refine ih (P - (p + 1 + 1)) (by omega) (p + 1) _ _ rfl (by omega) (by omega) ?_
            rcases hf2 with ⟨q1, q2⟩ | ⟨q1, q2⟩
            · subst q2; rw [hct]; simp only [if_true]; split <;> omega
            · subst q2; rw [hct]; simp only [Bool.false_eq_true, if_false]; split <;> omega
          · refine r_goto iX1_kinkCount_34 ?_
            refine inc_2 (by decide) rfl iX1_kinkCount_55 ?_
            refine inc_3 (by decide) rfl iX1_kinkCount_58 ?_
            refine r_goto iX1_kinkCount_61 ?_
            refine ih (P - (p + 1 + 1)) (by omega) (p + 1) _ _ rfl (by omega) (by omega) ?_
            rcases hf2 with ⟨q1, q2⟩ | ⟨q1, q2⟩
            · subst q2; rw [hct]; simp only [if_true]; split <;> omega
            · subst q2; rw [hct]; simp only [Bool.false_eq_true, if_false]; split <;> omega
  refine r_iconst iX1_kinkCount_0 ?_
  refine sv_i2 (by decide) rfl iX1_kinkCount_1 ?_
  refine r_iconst iX1_kinkCount_2 ?_
  refine sv_i3 (by decide) rfl iX1_kinkCount_3 ?_
  exact loop (P - 1) 0 _ _ (by omega) (by omega) (by omega) (by simp [ct, knB])
end Line5
