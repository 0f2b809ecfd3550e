/-! own text: a rule is spelt by the reference: the whole of it -/
section Spell4
variable {K : Kx} {N : Nm} {g : Ge} {l : List Int} {d : Dk}
theorem spellL {A : Nat} {Pq : Nm → Ge → Prop} (hM : MoI N d) (hW : WD d) (hA : A < dA d) (hl : l.length ≤ 20) (hq : ∀ N', FrS N N' → SpM N' (l ++ sgL d A (dS d A)) → Pq N' g) :
    ∀ (n j : Nat) (c : Int) (N' : Nm), dS d A - j = n → j ≤ dS d A → c = j → FrS N N' → SpM N' (l ++ sgL d A j) → AW K YX10_spells hX10_spells (qV Pq) 46 [some (vr 40 0), some (vi A), some (vi c)] [] N' g := by
  have hA6 := hW.1
  have hSS := (hW.2.2.1 A hA).1
  have hS6 := hSS.2.1
  have mo : ∀ N2, FrS N N2 → MoI N2 d := fun N2 f => hM.of (f 40 0 19 (by omega) (by omega)) (fun k j q1 q2 => f k 0 j (by omega) (by omega))
  intro n
  induction n using Nat.strongRecOn with
  | _ n ih =>
    intro j c N' e hj hc hF hSp
    subst hc
    have sl := sg_len d A j
    have row : ∀ N2, FrS N N2 → j < dS d A → _ := fun N2 f hj1 => ((mo N2 f).2.2 A hA).2.2 j hj1
    have t112 : ∀ N2 l2, j < dS d A → FrS N N2 → SpM N2 l2 → l2.length ≤ 130 → (l2 ++ dg1000 (dL d A j) = l ++ sgL d A (j + 1)) → AW K YX10_spells hX10_spells (qV Pq) 112 [some (vr 40 0), some (vi A), some (vi j)] [] N2 g := by
      intro N2 l2 hj1 f2 s2 hl2 he
      have bd := hSS.2.2.2.2 j hj1
      refine ld_a0 iX10_spells_112 ?_
      refine ld_a0 iX10_spells_113 ?_
      refine ld_i1 iX10_spells_114 ?_
      refine ld_i2 iX10_spells_115 ?_
      refine r_iconst iX10_spells_116 ?_
      refine xX10_part kMX10_180 iX10_spells_117 (by decide) (Nat.le_of_ble_eq_true rfl) rfl rfl ?_
      refine c_part (3 * (6 * A + j) + 2) (by omega) (by omega) ?_
      rw [(row N2 f2 hj1).2.2]
      refine xX10_saysNumber kMX10_333 iX10_spells_120 (by decide) (Nat.le_of_ble_eq_true rfl) rfl rfl ?_
      refine c_saysNumber s2 (by omega) (by omega) (fun N3 e1 e2 => ?_)
      refine inc_2 (by decide) rfl iX10_spells_123 ?_
      refine r_goto iX10_spells_126 ?_
      exact ih (dS d A - (j + 1)) (by omega) (j + 1) _ N3 rfl (by omega) (by omega) (f2.tr e1) (by rw [← he]; exact e2)
    refine ld_i1 iX10_spells_46 ?_
    refine r_iconst iX10_spells_47 ?_
    refine r_icmpeq iX10_spells_48 (by omega) (by omega) (fun h48 => ?_) (fun h48 => ?_)
    · exfalso; omega
    · refine ld_i2 iX10_spells_51 ?_
      refine ld_a0 iX10_spells_52 ?_
      refine gf_X10_many kFX10_34 iX10_spells_53 ?_
      refine ld_i1 iX10_spells_56 ?_
      refine al_49 rfl (by omega) iX10_spells_57 ?_
      rw [((mo N' hF).2.2 A hA).2.1]
      refine r_icmpge iX10_spells_58 (by omega) (by omega) (fun h58 => ?_) (fun h58 => ?_)
      · refine t_void rfl iX10_spells_129 ?_
        have e : j = dS d A := by omega
        rw [e] at hSp; exact hq N' hF hSp
      · have hj1 : j < dS d A := by omega
        have bd := hSS.2.2.2.2 j hj1
        have l1 := dg_len (dF d A j)
        have l2 := dg_len (dE d A j)
        refine ld_a0 iX10_spells_61 ?_
        refine r_bipush (by decide) iX10_spells_62 ?_
        refine xX10_says kMX10_327 iX10_spells_64 (by decide) (Nat.le_of_ble_eq_true rfl) rfl rfl ?_
        refine c_says hSp (by simp; omega) (fun N3 e1 e2 => ?_)
        have hF3 := hF.tr e1
        refine ld_a0 iX10_spells_67 ?_
        refine ld_a0 iX10_spells_68 ?_
        refine ld_i1 iX10_spells_69 ?_
        refine ld_i2 iX10_spells_70 ?_
        refine r_iconst iX10_spells_71 ?_
        refine xX10_part kMX10_180 iX10_spells_72 (by decide) (Nat.le_of_ble_eq_true rfl) rfl rfl ?_
        refine c_part (3 * (6 * A + j)) (by omega) (by omega) ?_
        rw [(row N3 hF3 hj1).1]
        refine xX10_saysNumber kMX10_333 iX10_spells_75 (by decide) (Nat.le_of_ble_eq_true rfl) rfl rfl ?_
        refine c_saysNumber e2 (by simp; omega) (by omega) (fun N4 e3 e4 => ?_)
        have hF4 := hF3.tr e3
        refine ld_a0 iX10_spells_78 ?_
        refine r_bipush (by decide) iX10_spells_79 ?_
        refine xX10_says kMX10_327 iX10_spells_81 (by decide) (Nat.le_of_ble_eq_true rfl) rfl rfl ?_
        refine c_says e4 (by simp; omega) (fun N5 e5 e6 => ?_)
        have hF5 := hF4.tr e5
        refine ld_a0 iX10_spells_84 ?_
        refine ld_i1 iX10_spells_85 ?_
        refine ld_i2 iX10_spells_86 ?_
        refine r_iconst iX10_spells_87 ?_
        refine xX10_part kMX10_180 iX10_spells_88 (by decide) (Nat.le_of_ble_eq_true rfl) rfl rfl ?_
        refine c_part (3 * (6 * A + j) + 1) (by omega) (by omega) ?_
        rw [(row N5 hF5 hj1).2.1]
        refine r_iconst iX10_spells_91 ?_
        refine r_icmpeq iX10_spells_92 (by omega) (by omega) (fun h92 => ?_) (fun h92 => ?_)
        · first
            | exact t112 N7 _ hj1 hF7 e10 (by simp; omega) (by rw [sgL, if_neg (by omega)]; simp)
            | exact t112 N5 _ hj1 hF5 e6 (by simp; omega) (by rw [sgL, if_pos (by omega)]; simp)
        · refine ld_a0 iX10_spells_95 ?_
          refine ld_a0 iX10_spells_96 ?_
          refine ld_i1 iX10_spells_97 ?_
          refine ld_i2 iX10_spells_98 ?_
          refine r_iconst iX10_spells_99 ?_
          refine xX10_part kMX10_180 iX10_spells_100 (by decide) (Nat.le_of_ble_eq_true rfl) rfl rfl ?_
          refine c_part (3 * (6 * A + j) + 1) (by omega) (by omega) ?_
          rw [(row N5 hF5 hj1).2.1]
          refine xX10_saysNumber kMX10_333 iX10_spells_103 (by decide) (Nat.le_of_ble_eq_true rfl) rfl rfl ?_
          refine c_saysNumber e6 (by simp; omega) (by omega) (fun N6 e7 e8 => ?_)
          have hF6 := hF5.tr e7
          refine ld_a0 iX10_spells_106 ?_
          refine r_bipush (by decide) iX10_spells_107 ?_
          refine xX10_says kMX10_327 iX10_spells_109 (by decide) (Nat.le_of_ble_eq_true rfl) rfl rfl ?_
          refine c_says e8 (by simp; omega) (fun N7 e9 e10 => ?_)
          have hF7 := hF6.tr e9
          first
            | exact t112 N7 _ hj1 hF7 e10 (by simp; omega) (by rw [sgL, if_neg (by omega)]; simp)
            | exact t112 N5 _ hj1 hF5 e6 (by simp; omega) (by rw [sgL, if_pos (by omega)]; simp)
end Spell4
