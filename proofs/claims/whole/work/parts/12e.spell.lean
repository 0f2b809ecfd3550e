/-! own text: a rule is spelt by the reference, on -/
section Spell5
variable {K : Kx} {N : Nm} {g : Ge} {l : List Int} {d : Dk}
theorem c_saysSum {a : Nat} {Pq : Nm → Ge → Prop} (hM : MoI N d) (hW : WD d) (ha : a < dA d ∨ a = 6) (hS : SpM N l) (hl : l.length ≤ 100) (hq : ∀ N', FrS N N' → SpM N' (l ++ tmL d a (dT d a)) → Pq N' g) : Ck K YX10_saysSum hX10_saysSum [vr 40 0, vi a] N g (qV Pq) := by
  have hA := hW.1
  have hT : WT d a := by
    rcases ha with q | q
    · exact (hW.2.2.1 a q).2.1
    · rw [q]; exact hW.2.2.2
  have hT6 := hT.2.1
  refine Ck.intro 2 (by decide) rfl ?_
  show AW _ _ _ _ _ [some (vr 40 0), some (vi a), none, none] _ _ _
  have mo : ∀ N2, FrS N N2 → MoI N2 d := fun N2 f => hM.of (f 40 0 19 (by omega) (by omega)) (fun k j q1 q2 => f k 0 j (by omega) (by omega))
  have loop : ∀ (n j : Nat) (c : Int) (N' : Nm), dT d a - j = n → j ≤ dT d a → c = j → FrS N N' → SpM N' (l ++ tmL d a j) → AW K YX10_saysSum hX10_saysSum (qV Pq) 2 [some (vr 40 0), some (vi a), some (vi c), none] [] N' g := by
    intro n
    induction n using Nat.strongRecOn with
    | _ n ih =>
      intro j c N' e hj hc hF hSp
      subst hc
      have tl := tm_len d a j
      obtain ⟨t1, t2⟩ := (mo N' hF).2.1 a ha
      have t88 : ∀ N2 l2 (x : Int), j < dT d a → FrS N N2 → SpM N2 l2 → l2.length ≤ 150 → x = ltr (dM d a j) → (l2 ++ [ltr (dM d a j)] = l ++ tmL d a (j + 1)) → ∀ y : Int, AW K YX10_saysSum hX10_saysSum (qV Pq) 88 [some (vr 40 0), some (vi a), some (vi j), some (vi y)] [vi x, vr 40 0] N2 g := by
        intro N2 l2 x hj1 f2 s2 hl2 hx he y
        subst hx
        refine xX10_says kMX10_327 iX10_saysSum_88 (by decide) (Nat.le_of_ble_eq_true rfl) rfl rfl ?_
        refine c_says s2 (by omega) (fun N3 e1 e2 => ?_)
        refine inc_2 (by decide) rfl iX10_saysSum_91 ?_
        refine r_goto iX10_saysSum_94 ?_
        refine fg_3 ?_
        exact ih (dT d a - (j + 1)) (by omega) (j + 1) _ N3 rfl (by omega) (by omega) (f2.tr e1) (by rw [← he]; exact e2)
      have t47 : ∀ N2 l2, j < dT d a → FrS N N2 → SpM N2 l2 → l2.length ≤ 150 → (l2 ++ [ltr (dM d a j)] = l ++ tmL d a (j + 1)) → AW K YX10_saysSum hX10_saysSum (qV Pq) 47 [some (vr 40 0), some (vi a), some (vi j), some (vi (6 * (a : Int) + j))] [] N2 g := by
        intro N2 l2 hj1 f2 s2 hl2 he
        have hm := (hT.2.2 j hj1).2
        have hw := (((mo N2 f2).2.1 a ha).2 j hj1).1
        have hcod := cod_cs (dM d a j)
        have hlt : ltr (dM d a j) = if dM d a j = 6 then 103 else if dM d a j = 7 then 107 else 97 + (dM d a j : Int) := rfl
        refine ld_a0 iX10_saysSum_47 ?_
        refine ld_a0 iX10_saysSum_48 ?_
        refine gf_X10_what kFX10_28 iX10_saysSum_49 ?_
        refine ld_i3 iX10_saysSum_52 ?_
        refine al_47 (n := (6 * a + j)) (by omega) (by omega) iX10_saysSum_53 ?_
        rw [hw]
        refine r_ifne iX10_saysSum_54 (by omega) (fun h54 => ?_) (fun h54 => ?_)
        · refine ld_a0 iX10_saysSum_62 ?_
          refine gf_X10_what kFX10_28 iX10_saysSum_63 ?_
          refine ld_i3 iX10_saysSum_66 ?_
          refine al_47 (n := (6 * a + j)) (by omega) (by omega) iX10_saysSum_67 ?_
          rw [hw]
          refine r_iconst iX10_saysSum_68 ?_
          refine r_icmpne iX10_saysSum_69 (by omega) (by omega) (fun h69 => ?_) (fun h69 => ?_)
          · refine r_bipush (by decide) iX10_saysSum_77 ?_
            refine ld_a0 iX10_saysSum_79 ?_
            refine gf_X10_what kFX10_28 iX10_saysSum_80 ?_
            refine ld_i3 iX10_saysSum_83 ?_
            refine al_47 (n := (6 * a + j)) (by omega) (by omega) iX10_saysSum_84 ?_
            rw [hw]
            refine r_iadd iX10_saysSum_85 ?_
            refine r_iconst iX10_saysSum_86 ?_
            refine r_isub iX10_saysSum_87 ?_
            refine t88 N2 l2 _ hj1 f2 s2 hl2 ?_ he _
            rw [hlt]
            first
              | rw [if_pos (by omega)]
              | rw [if_neg (by omega), if_pos (by omega)]
              | (rw [if_neg (by omega), if_neg (by omega)]; omega)
          · refine r_bipush (by decide) iX10_saysSum_72 ?_
            refine r_goto iX10_saysSum_74 ?_
            refine t88 N2 l2 _ hj1 f2 s2 hl2 ?_ he _
            rw [hlt]
            first
              | rw [if_pos (by omega)]
              | rw [if_neg (by omega), if_pos (by omega)]
              | (rw [if_neg (by omega), if_neg (by omega)]; omega)
        · refine r_bipush (by decide) iX10_saysSum_57 ?_
          refine r_goto iX10_saysSum_59 ?_
          refine t88 N2 l2 _ hj1 f2 s2 hl2 ?_ he _
          rw [hlt]
          first
            | rw [if_pos (by omega)]
            | rw [if_neg (by omega), if_pos (by omega)]
            | (rw [if_neg (by omega), if_neg (by omega)]; omega)
      refine ld_i2 iX10_saysSum_2 ?_
      refine ld_a0 iX10_saysSum_3 ?_
      refine gf_X10_terms kFX10_16 iX10_saysSum_4 ?_
      refine ld_i1 iX10_saysSum_7 ?_
      refine al_43 rfl (by omega) iX10_saysSum_8 ?_
      rw [t1]
      refine r_icmpge iX10_saysSum_9 (by omega) (by omega) (fun h9 => ?_) (fun h9 => ?_)
      · refine t_void rfl iX10_saysSum_97 ?_
        have e : j = dT d a := by omega
        rw [e] at hSp; exact hq N' hF hSp
      · have hj1 : j < dT d a := by omega
        have hg := (hT.2.2 j hj1).1
        refine r_bipush (by decide) iX10_saysSum_12 ?_
        refine ld_i1 iX10_saysSum_14 ?_
        refine r_imul iX10_saysSum_15 ?_
        refine ld_i2 iX10_saysSum_16 ?_
        refine r_iadd iX10_saysSum_17 ?_
        refine sv_i3 (by decide) rfl iX10_saysSum_18 ?_
        refine ld_a0 iX10_saysSum_19 ?_
        refine gf_X10_sign kFX10_22 iX10_saysSum_20 ?_
        refine ld_i3 iX10_saysSum_23 ?_
        refine al_45 (n := (6 * a + j)) (by omega) (by omega) iX10_saysSum_24 ?_
        rw [(t2 j hj1).2]
        refine r_ifge iX10_saysSum_25 (by omega) (fun h25 => ?_) (fun h25 => ?_)
        · refine ld_i2 iX10_saysSum_37 ?_
          refine r_ifle iX10_saysSum_38 (by omega) (fun h38 => ?_) (fun h38 => ?_)
          · first
              | exact t47 N3 _ hj1 (hF.tr e1) e2 (by simp; omega) (by rw [tmL, if_pos (by omega)]; simp)
              | exact t47 N3 _ hj1 (hF.tr e1) e2 (by simp; omega) (by rw [tmL, if_neg (by omega), if_pos (by omega)]; simp)
              | exact t47 N' _ hj1 hF hSp (by simp; omega) (by rw [tmL, if_neg (by omega), if_neg (by omega)]; simp)
          · refine ld_a0 iX10_saysSum_41 ?_
            refine r_bipush (by decide) iX10_saysSum_42 ?_
            refine xX10_says kMX10_327 iX10_saysSum_44 (by decide) (Nat.le_of_ble_eq_true rfl) rfl rfl ?_
            refine c_says hSp (by simp; omega) (fun N3 e1 e2 => ?_)
            first
              | exact t47 N3 _ hj1 (hF.tr e1) e2 (by simp; omega) (by rw [tmL, if_pos (by omega)]; simp)
              | exact t47 N3 _ hj1 (hF.tr e1) e2 (by simp; omega) (by rw [tmL, if_neg (by omega), if_pos (by omega)]; simp)
              | exact t47 N' _ hj1 hF hSp (by simp; omega) (by rw [tmL, if_neg (by omega), if_neg (by omega)]; simp)
        · refine ld_a0 iX10_saysSum_28 ?_
          refine r_bipush (by decide) iX10_saysSum_29 ?_
          refine xX10_says kMX10_327 iX10_saysSum_31 (by decide) (Nat.le_of_ble_eq_true rfl) rfl rfl ?_
          refine c_says hSp (by simp; omega) (fun N3 e1 e2 => ?_)
          refine r_goto iX10_saysSum_34 ?_
          first
            | exact t47 N3 _ hj1 (hF.tr e1) e2 (by simp; omega) (by rw [tmL, if_pos (by omega)]; simp)
            | exact t47 N3 _ hj1 (hF.tr e1) e2 (by simp; omega) (by rw [tmL, if_neg (by omega), if_pos (by omega)]; simp)
            | exact t47 N' _ hj1 hF hSp (by simp; omega) (by rw [tmL, if_neg (by omega), if_neg (by omega)]; simp)
  refine r_iconst iX10_saysSum_0 ?_
  refine sv_i2 (by decide) rfl iX10_saysSum_1 ?_
  exact loop (dT d a) 0 _ N (by omega) (by omega) (by omega) (FrS.rf _) (by simpa [tmL] using hS)
end Spell5
