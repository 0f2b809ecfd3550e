/-! own text: a rule is spelt by the class -/
def ltr (m : Nat) : Int := if m = 6 then 103 else if m = 7 then 107 else 97 + (m : Int)
def tmL (d : Dk) (r : Nat) : Nat → List Int
  | 0 => []
  | n + 1 => tmL d r n ++ ((if dG d r n < 0 then [45] else if 0 < n then [43] else []) ++ [ltr (dM d r n)])
def sgL (d : Dk) (a : Nat) : Nat → List Int
  | 0 => []
  | n + 1 => sgL d a n ++ ([47] ++ (dg1000 (dF d a n) ++ ([58] ++ ((if dE d a n = -1 then [] else dg1000 (dE d a n) ++ [58]) ++ dg1000 (dL d a n)))))
def txt (d : Dk) (r : Nat) : List Int := [if r = 6 then 110 else 97 + (r : Int)] ++ ([61] ++ (tmL d r (dT d r) ++ (if r = 6 then [] else sgL d r (dS d r))))
theorem dg_len (v : Int) : (dg1000 v).length ≤ 4 := by
  unfold dg1000 dg100 dg10 dg1
  split <;> split <;> split <;> simp
theorem tm_len (d : Dk) (r : Nat) : ∀ n, (tmL d r n).length ≤ 2 * n
  | 0 => by simp [tmL]
  | n + 1 => by
    have ih := tm_len d r n
    rw [tmL, List.length_append]
    split
    · simp; omega
    · split <;> simp <;> omega
theorem sg_len (d : Dk) (a : Nat) : ∀ n, (sgL d a n).length ≤ 15 * n
  | 0 => by simp [sgL]
  | n + 1 => by
    have ih := sg_len d a n
    have h1 := dg_len (dF d a n)
    have h2 := dg_len (dE d a n)
    have h3 := dg_len (dL d a n)
    rw [sgL, List.length_append]
    split <;> simp <;> omega
section Spell8
variable {K : Kx} {N : Nm} {g : Ge} {l : List Int} {w : Int} {d : Dk} {r : Nat}
theorem c_letterOf {m : Nat} {Pq : Int → Nm → Ge → Prop} (hm : m < 100) (hq : Pq (ltr m) N g) : Ck K YX6_letterOf hX6_letterOf [vi m] N g (qI Pq) := by
  refine Ck.intro 0 (by decide) rfl ?_
  show AW _ _ _ _ _ [some (vi m)] _ _ _
  unfold ltr at hq
  refine ld_i0 iX6_letterOf_0 ?_
  refine r_bipush (by decide) iX6_letterOf_1 ?_
  refine r_icmpne iX6_letterOf_3 (by omega) (by omega) (fun h3 => ?_) (fun h3 => ?_)
  · refine ld_i0 iX6_letterOf_9 ?_
    refine r_bipush (by decide) iX6_letterOf_10 ?_
    refine r_icmpne iX6_letterOf_12 (by omega) (by omega) (fun h12 => ?_) (fun h12 => ?_)
    · refine r_bipush (by decide) iX6_letterOf_20 ?_
      refine ld_i0 iX6_letterOf_22 ?_
      refine r_iadd iX6_letterOf_23 ?_
      refine t_int rfl iX6_letterOf_24 ?_
      first
        | (rw [if_neg (by omega), if_pos (by omega)] at hq; exact hq)
        | (rw [if_neg (by omega), if_neg (by omega)] at hq; exact hq)
    · refine r_bipush (by decide) iX6_letterOf_15 ?_
      refine r_goto iX6_letterOf_17 ?_
      refine t_int rfl iX6_letterOf_24 ?_
      first
        | (rw [if_neg (by omega), if_pos (by omega)] at hq; exact hq)
        | (rw [if_neg (by omega), if_neg (by omega)] at hq; exact hq)
  · refine r_bipush (by decide) iX6_letterOf_6 ?_
    refine t_int rfl iX6_letterOf_8 ?_
    rw [if_pos (by omega)] at hq; exact hq
theorem c_writeTerms {a : Nat} {Pq : Nm → Ge → Prop} (hR : RuI N r d) (hW : WD d) (ha : a < dA d ∨ a = 6) (hS : SpX N l w) (hl : l.length ≤ 100) (rw' : rI w) (hq : ∀ N', FrX 18 18 N N' → SpX N' (l ++ tmL d a (dT d a)) w → Pq N' g) : Ck K YX6_writeTerms hX6_writeTerms [vr 18 0, vr 20 r, vi a] N g (qV Pq) := by
  have hA := hW.1
  have hT : WT d a := by
    rcases ha with q | q
    · exact (hW.2.2.1 a q).2.1
    · rw [q]; exact hW.2.2.2
  have hT6 := hT.2.1
  refine Ck.intro 1 (by decide) rfl ?_
  show AW _ _ _ _ _ [some (vr 18 0), some (vr 20 r), some (vi a), none] _ _ _
  have loop : ∀ (n j : Nat) (c : Int) (N' : Nm), dT d a - j = n → j ≤ dT d a → c = j → FrX 18 18 N N' → SpX N' (l ++ tmL d a j) w → AW K YX6_writeTerms hX6_writeTerms (qV Pq) 2 [some (vr 18 0), some (vr 20 r), some (vi a), some (vi c)] [] N' g := by
    intro n
    induction n using Nat.strongRecOn with
    | _ n ih =>
      intro j c N' e hj hc hF hSp
      subst hc
      have tl := tm_len d a j
      have rul : ∀ N2, FrX 18 18 N N2 → RuI N2 r d := fun N2 f => hR.of (fun k x j q1 q2 => f k x j (by omega))
      obtain ⟨t1, t2⟩ := (rul N' hF).2.2.1 a ha
      have t42 : ∀ N2 l2, j < dT d a → FrX 18 18 N N2 → SpX N2 l2 w → l2.length ≤ 200 → (l2 ++ [ltr (dM d a j)] = l ++ tmL d a (j + 1)) → AW K YX6_writeTerms hX6_writeTerms (qV Pq) 42 [some (vr 18 0), some (vr 20 r), some (vi a), some (vi j)] [] N2 g := by
        intro N2 l2 hj1 f2 s2 hl2 he
        have hm := (hT.2.2 j hj1).2
        refine ld_a0 iX6_writeTerms_42 ?_
        refine ld_a1 iX6_writeTerms_43 ?_
        refine gf_X5_terms kFX6_42 iX6_writeTerms_44 ?_
        refine ld_i2 iX6_writeTerms_47 ?_
        refine al_22 rfl (by omega) iX6_writeTerms_48 ?_
        refine ld_i3 iX6_writeTerms_49 ?_
        refine al_23 rfl (by omega) iX6_writeTerms_50 ?_
        rw [(((rul N2 f2).2.2.1 a ha).2 j hj1).1]
        refine xX6_letterOf kMX6_45 iX6_writeTerms_51 (by decide) (Nat.le_of_ble_eq_true rfl) rfl rfl ?_
        refine c_letterOf (by omega) ?_
        refine xX6_put kMX6_21 iX6_writeTerms_54 (by decide) (Nat.le_of_ble_eq_true rfl) rfl rfl ?_
        refine c_put s2 (by omega) rw' (fun N3 e1 e2 => ?_)
        refine inc_3 (by decide) rfl iX6_writeTerms_57 ?_
        refine r_goto iX6_writeTerms_60 ?_
        exact ih (dT d a - (j + 1)) (by omega) (j + 1) _ N3 rfl (by omega) (by omega) (f2.tr e1) (by rw [← he]; exact e2)
      refine ld_i3 iX6_writeTerms_2 ?_
      refine ld_a1 iX6_writeTerms_3 ?_
      refine gf_X5_termCounts kFX6_32 iX6_writeTerms_4 ?_
      refine ld_i2 iX6_writeTerms_7 ?_
      refine al_21 rfl (by omega) iX6_writeTerms_8 ?_
      rw [t1]
      refine r_icmpge iX6_writeTerms_9 (by omega) (by omega) (fun h9 => ?_) (fun h9 => ?_)
      · refine t_void rfl iX6_writeTerms_63 ?_
        have e : j = dT d a := by omega
        rw [e] at hSp; exact hq N' hF hSp
      · have hj1 : j < dT d a := by omega
        have hg := (hT.2.2 j hj1).1
        refine ld_a1 iX6_writeTerms_12 ?_
        refine gf_X5_signs kFX6_38 iX6_writeTerms_13 ?_
        refine ld_i2 iX6_writeTerms_16 ?_
        refine al_24 rfl (by omega) iX6_writeTerms_17 ?_
        refine ld_i3 iX6_writeTerms_18 ?_
        refine al_25 rfl (by omega) iX6_writeTerms_19 ?_
        rw [(t2 j hj1).2]
        refine r_ifge iX6_writeTerms_20 (by omega) (fun h20 => ?_) (fun h20 => ?_)
        · refine ld_i3 iX6_writeTerms_32 ?_
          refine r_ifle iX6_writeTerms_33 (by omega) (fun h33 => ?_) (fun h33 => ?_)
          · first
              | exact t42 N3 _ hj1 (hF.tr e1) e2 (by simp; omega) (by rw [tmL, if_pos (by omega)]; simp)
              | exact t42 N3 _ hj1 (hF.tr e1) e2 (by simp; omega) (by rw [tmL, if_neg (by omega), if_pos (by omega)]; simp)
              | exact t42 N' _ hj1 hF hSp (by simp; omega) (by rw [tmL, if_neg (by omega), if_neg (by omega)]; simp)
          · refine ld_a0 iX6_writeTerms_36 ?_
            refine r_bipush (by decide) iX6_writeTerms_37 ?_
            refine xX6_put kMX6_21 iX6_writeTerms_39 (by decide) (Nat.le_of_ble_eq_true rfl) rfl rfl ?_
            refine c_put hSp (by simp; omega) rw' (fun N3 e1 e2 => ?_)
            first
              | exact t42 N3 _ hj1 (hF.tr e1) e2 (by simp; omega) (by rw [tmL, if_pos (by omega)]; simp)
              | exact t42 N3 _ hj1 (hF.tr e1) e2 (by simp; omega) (by rw [tmL, if_neg (by omega), if_pos (by omega)]; simp)
              | exact t42 N' _ hj1 hF hSp (by simp; omega) (by rw [tmL, if_neg (by omega), if_neg (by omega)]; simp)
        · refine ld_a0 iX6_writeTerms_23 ?_
          refine r_bipush (by decide) iX6_writeTerms_24 ?_
          refine xX6_put kMX6_21 iX6_writeTerms_26 (by decide) (Nat.le_of_ble_eq_true rfl) rfl rfl ?_
          refine c_put hSp (by simp; omega) rw' (fun N3 e1 e2 => ?_)
          refine r_goto iX6_writeTerms_29 ?_
          first
            | exact t42 N3 _ hj1 (hF.tr e1) e2 (by simp; omega) (by rw [tmL, if_pos (by omega)]; simp)
            | exact t42 N3 _ hj1 (hF.tr e1) e2 (by simp; omega) (by rw [tmL, if_neg (by omega), if_pos (by omega)]; simp)
            | exact t42 N' _ hj1 hF hSp (by simp; omega) (by rw [tmL, if_neg (by omega), if_neg (by omega)]; simp)
  refine r_iconst iX6_writeTerms_0 ?_
  refine sv_i3 (by decide) rfl iX6_writeTerms_1 ?_
  exact loop (dT d a) 0 _ N (by omega) (by omega) (by omega) (FrX.rf _ _ _) (by simpa [tmL] using hS)
end Spell8
