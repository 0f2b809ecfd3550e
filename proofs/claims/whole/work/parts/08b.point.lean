/-! own text: the class reckons a desk at a wage -/
/-- the Rules r hold the desk d -/
def RuT (N : Nm) (r : Nat) (d : Dk) : Prop := ∀ a, (a < dA d ∨ a = 6) → N 21 r a = dT d a ∧ ∀ j, j < dT d a → N 23 (7 * r + a) j = dM d a j ∧ N 25 (7 * r + a) j = dG d a j
def RuS (N : Nm) (r : Nat) (d : Dk) : Prop := ∀ a, a < dA d → N 26 r a = dD d a ∧ N 27 r a = dS d a ∧ ∀ q, q < dS d a → N 29 (6 * r + a) q = dF d a q ∧ N 31 (6 * r + a) q = dE d a q ∧ N 33 (6 * r + a) q = dL d a q
def RuB (N : Nm) (r : Nat) (d : Dk) : Prop := ∀ a, a < dA d → ∀ q, q < dS d a → N 35 (6 * r + a) q = bas d a q
def RuI (N : Nm) (r : Nat) (d : Dk) : Prop := N 20 r 0 = dA d ∧ N 20 r 1 = dB d ∧ RuT N r d ∧ RuS N r d ∧ RuB N r d
/-- nothing but the Point has changed -/
def FrP (N N' : Nm) : Prop := ∀ k a j, ¬ (4 ≤ k ∧ k ≤ 6) → N' k a j = N k a j
theorem FrP.rf (N : Nm) : FrP N N := fun _ _ _ _ => rfl
theorem FrP.tr {A B C : Nm} (h1 : FrP A B) (h2 : FrP B C) : FrP A C := fun k a j q => (h2 k a j q).trans (h1 k a j q)
theorem FrP.up {k i j : Nat} {A B : Nm} {v : Int} (h : FrP A B) (hk : 4 ≤ k ∧ k ≤ 6) : FrP A (upN B k i j v) := fun k' a' j' q => by
  rw [← h k' a' j' q]
  exact if_neg (fun z => q (by omega))
theorem RuI.of {N N' : Nm} {r : Nat} {d : Dk} (h : RuI N r d) (hN : ∀ k a j, 20 ≤ k → k ≤ 35 → N' k a j = N k a j) : RuI N' r d := by
  obtain ⟨h1, h2, h3, h4, h5⟩ := h
  refine ⟨by rw [hN 20 _ _ (by omega) (by omega)]; exact h1, by rw [hN 20 _ _ (by omega) (by omega)]; exact h2, fun a ha => ?_, fun a ha => ?_, fun a ha q hq => ?_⟩
  · obtain ⟨e1, e2⟩ := h3 a ha
    refine ⟨by rw [hN 21 _ _ (by omega) (by omega)]; exact e1, fun j hj => ?_⟩
    rw [hN 23 _ _ (by omega) (by omega), hN 25 _ _ (by omega) (by omega)]
    exact e2 j hj
  · obtain ⟨e1, e2, e3⟩ := h4 a ha
    refine ⟨by rw [hN 26 _ _ (by omega) (by omega)]; exact e1, by rw [hN 27 _ _ (by omega) (by omega)]; exact e2, fun q hq => ?_⟩
    rw [hN 29 _ _ (by omega) (by omega), hN 31 _ _ (by omega) (by omega), hN 33 _ _ (by omega) (by omega)]
    exact e3 q hq
  · rw [hN 35 _ _ (by omega) (by omega)]; exact h5 a ha q hq
theorem RuI.frp {N N' : Nm} {r : Nat} {d : Dk} (h : RuI N r d) (hN : FrP N N') : RuI N' r d := h.of (fun k a j q1 q2 => hN k a j (by omega))
section Point9
variable {K : Kx} {N : Nm} {g : Ge} {r : Nat} {d : Dk}
theorem c_segmentFor {a : Nat} {c : Int} {Pq : Int → Nm → Ge → Prop} (hR : RuI N r d) (hW : WD d) (ha : a < dA d) (hc : rL c) (hq : Pq (sgf d a c (dS d a - 1)) N g) : Ck K YX5_segmentFor hX5_segmentFor [vr 20 r, vi a, vl c] N g (qI Pq) := by
  obtain ⟨hR1, hR2, hR3, hR4, hR5⟩ := hR
  obtain ⟨s1, s2, s3⟩ := hR4 a ha
  have hA := hW.1
  obtain ⟨hS, -⟩ := hW.2.2.1 a ha
  have hS1 := hS.1
  have hS2 := hS.2.1
  refine Ck.intro 1 (by decide) rfl ?_
  show AW _ _ _ _ _ [some (vr 20 r), some (vi a), some (vl c), none, none] _ _ _
  have loop : ∀ (q : Nat) (b : Int), b = q → q < dS d a → sgf d a c q = sgf d a c (dS d a - 1) → AW K YX5_segmentFor hX5_segmentFor (qI Pq) 10 [some (vr 20 r), some (vi a), some (vl c), none, some (vi b)] [] N g := by
    intro q
    induction q with
    | zero =>
      intro b hb h1 h2
      subst hb
      refine ld_i4 iX5_segmentFor_10 ?_
      refine r_ifle iX5_segmentFor_12 (by omega) (fun h12 => ?_) (fun h12 => ?_)
      · refine ld_i4 iX5_segmentFor_40 ?_
        refine t_int rfl iX5_segmentFor_42 ?_
        rw [← h2] at hq; exact hq
      · exfalso; omega
    | succ q ih =>
      intro b hb h1 h2
      subst hb
      have hf := (hS.2.2.2.2 (q + 1) h1).1
      rw [sgf] at h2
      refine ld_i4 iX5_segmentFor_10 ?_
      refine r_ifle iX5_segmentFor_12 (by omega) (fun h12 => ?_) (fun h12 => ?_)
      · exfalso; omega
      · refine ld_a0 iX5_segmentFor_15 ?_
        refine gf_X5_froms kFX5_36 iX5_segmentFor_16 ?_
        refine ld_i1 iX5_segmentFor_19 ?_
        refine al_28 rfl (by omega) iX5_segmentFor_20 ?_
        refine ld_i4 iX5_segmentFor_21 ?_
        refine al_29 rfl (by omega) iX5_segmentFor_23 ?_
        rw [(s3 (q + 1) h1).1]
        refine r_i2l (by omega) iX5_segmentFor_24 ?_
        refine r_ldc2 (z := 1000000000) kKX5_62 (by decide) iX5_segmentFor_25 ?_
        refine r_lmul iX5_segmentFor_28 ?_
        refine ld_l2 iX5_segmentFor_29 ?_
        refine r_lcle iX5_segmentFor_30 iX5_segmentFor_31 (by omega) (by omega) (fun h30 => ?_) (fun h30 => ?_)
        · refine ld_i4 iX5_segmentFor_40 ?_
          refine t_int rfl iX5_segmentFor_42 ?_
          rw [if_neg (by omega)] at h2; rw [← h2] at hq; exact hq
        · refine inc_4 (by decide) rfl iX5_segmentFor_34 ?_
          refine r_goto iX5_segmentFor_37 ?_
          exact ih _ (by omega) (by omega) (by rw [if_pos h30] at h2; exact h2)
  refine ld_a0 iX5_segmentFor_0 ?_
  refine gf_X5_segmentCounts kFX5_33 iX5_segmentFor_1 ?_
  refine ld_i1 iX5_segmentFor_4 ?_
  refine al_27 rfl (by omega) iX5_segmentFor_5 ?_
  rw [s2]
  refine r_iconst iX5_segmentFor_6 ?_
  refine r_isub iX5_segmentFor_7 ?_
  refine sv_i4 (by decide) rfl iX5_segmentFor_8 ?_
  exact loop (dS d a - 1) _ (by omega) (by omega) rfl
theorem c_ptValueIn {a q : Nat} {c : Int} {Pq : Int → Nm → Ge → Prop} (hR : RuI N r d) (hW : WD d) (ha : a < dA d) (hqs : q < dS d a) (hc : 0 ≤ c ∧ c ≤ 100000000000000000) (hq : Pq (bas d a q + (c - dF d a q * 1000000000).tdiv 1000 * dL d a q) N g) : Ck K YX3_valueIn hX3_valueIn [vr 20 r, vi a, vi q, vl c] N g (qL Pq) := by
  obtain ⟨hR1, hR2, hR3, hR4, hR5⟩ := hR
  obtain ⟨s1, s2, s3⟩ := hR4 a ha
  have hA := hW.1
  obtain ⟨hS, -⟩ := hW.2.2.1 a ha
  have hS2 := hS.2.1
  have hf := hS.2.2.2.2 q hqs
  refine Ck.intro 2 (by decide) rfl ?_
  show AW _ _ _ _ _ [some (vr 20 r), some (vi a), some (vi q), some (vl c), none, none, none] _ _ _
  refine ld_l3 iX3_valueIn_0 ?_
  refine ld_a0 iX3_valueIn_1 ?_
  refine gf_X5_froms kFX3_65 iX3_valueIn_2 ?_
  refine ld_i1 iX3_valueIn_5 ?_
  refine al_28 rfl (by omega) iX3_valueIn_6 ?_
  refine ld_i2 iX3_valueIn_7 ?_
  refine al_29 rfl (by omega) iX3_valueIn_8 ?_
  rw [(s3 q hqs).1]
  refine r_i2l (by omega) iX3_valueIn_9 ?_
  refine r_ldc2 (z := 1000000000) kKX3_63 (by decide) iX3_valueIn_10 ?_
  refine r_lmul iX3_valueIn_13 ?_
  refine r_lsub iX3_valueIn_14 ?_
  refine sv_l5 (by decide) rfl iX3_valueIn_15 ?_
  refine ld_a0 iX3_valueIn_17 ?_
  refine gf_X5_bases kFX3_68 iX3_valueIn_18 ?_
  refine ld_i1 iX3_valueIn_21 ?_
  refine al_34 rfl (by omega) iX3_valueIn_22 ?_
  refine ld_i2 iX3_valueIn_23 ?_
  refine al_35 rfl (by omega) iX3_valueIn_24 ?_
  rw [hR5 a ha q hqs]
  refine ld_l5 iX3_valueIn_25 ?_
  refine r_ldc2 (z := 1000) kKX3_72 (by decide) iX3_valueIn_27 ?_
  refine r_ldiv (by omega) (by omega) (by omega) iX3_valueIn_30 ?_
  refine ld_a0 iX3_valueIn_31 ?_
  refine gf_X5_slopes kFX3_74 iX3_valueIn_32 ?_
  refine ld_i1 iX3_valueIn_35 ?_
  refine al_32 rfl (by omega) iX3_valueIn_36 ?_
  refine ld_i2 iX3_valueIn_37 ?_
  refine al_33 rfl (by omega) iX3_valueIn_38 ?_
  rw [(s3 q hqs).2.2]
  refine r_i2l (by omega) iX3_valueIn_39 ?_
  refine r_lmul iX3_valueIn_40 ?_
  refine r_ladd iX3_valueIn_41 ?_
  refine t_long rfl iX3_valueIn_42 ?_
  exact hq
theorem c_addUp {a : Nat} {w b : Int} {Pq : Int → Nm → Ge → Prop} (hR : RuI N r d) (hW : WD d) (ha : a < dA d ∨ a = 6) (hb : rI b) (hw : rI w) (hq : Pq (sumV d b w (fun k => N 5 0 k) a) N g) : Ck K YX3_addUp hX3_addUp [vr 3 0, vr 20 r, vi a, vi w, vi b] N g (qL Pq) := by
  obtain ⟨hR1, hR2, hR3, hR4, hR5⟩ := hR
  obtain ⟨t1, t2⟩ := hR3 a ha
  have hA := hW.1
  have hT : WT d a := by
    rcases ha with q | q
    · exact (hW.2.2.1 a q).2.1
    · rw [q]; exact hW.2.2.2
  have hT6 := hT.2.1
  refine Ck.intro 7 (by decide) rfl ?_
  show AW _ _ _ _ _ [some (vr 3 0), some (vr 20 r), some (vi a), some (vi w), some (vi b), none, none, none, none, none, none, none] _ _ _
  have loop : ∀ (n j : Nat) (t c : Int), dT d a - j = n → j ≤ dT d a → c = j → t = smV d b w (fun k => N 5 0 k) a j → AW K YX3_addUp hX3_addUp (qL Pq) 22 [some (vr 3 0), some (vr 20 r), some (vi a), some (vi w), some (vi b), some (vr 23 (7 * r + a)), some (vr 25 (7 * r + a)), some (vl t), none, some (vi c), none, none] [] N g := by
    intro n
    induction n using Nat.strongRecOn with
    | _ n ih =>
      intro j t c e hj hc ht
      subst hc
      have tl : ∀ (x : Int) (hj1 : j < dT d a), x = trm b w (fun k => N 5 0 k) (dM d a j) → AW K YX3_addUp hX3_addUp (qL Pq) 88 [some (vr 3 0), some (vr 20 r), some (vi a), some (vi w), some (vi b), some (vr 23 (7 * r + a)), some (vr 25 (7 * r + a)), some (vl t), none, some (vi j), some (vl x), none] [] N g := by
        intro x hj1 hx
        have hg := (hT.2.2 j hj1).1
        refine ld_l7 iX3_addUp_88 ?_
        refine ld_a6 iX3_addUp_90 ?_
        refine ld_i9 iX3_addUp_92 ?_
        refine al_25 rfl (by omega) iX3_addUp_94 ?_
        rw [(t2 j hj1).2]
        refine r_i2l (by omega) iX3_addUp_95 ?_
        refine ld_l10 iX3_addUp_96 ?_
        refine r_lmul iX3_addUp_98 ?_
        refine r_ladd iX3_addUp_99 ?_
        refine sv_l7 (by decide) rfl iX3_addUp_100 ?_
        refine inc_9 (by decide) rfl iX3_addUp_102 ?_
        refine r_goto iX3_addUp_105 ?_
        refine fg_10 ?_
        exact ih (dT d a - (j + 1)) (by omega) (j + 1) _ _ rfl (by omega) (by omega) (by rw [smV, ht, hx])
      refine ld_i9 iX3_addUp_22 ?_
      refine ld_a1 iX3_addUp_24 ?_
      refine gf_X5_termCounts kFX3_60 iX3_addUp_25 ?_
      refine ld_i2 iX3_addUp_28 ?_
      refine al_21 rfl (by omega) iX3_addUp_29 ?_
      rw [t1]
      refine r_icmpge iX3_addUp_30 (by omega) (by omega) (fun h30 => ?_) (fun h30 => ?_)
      · refine ld_l7 iX3_addUp_108 ?_
        refine t_long rfl iX3_addUp_110 ?_
        have e : j = dT d a := by omega
        rw [e] at ht; rw [ht]; exact hq
      · have hj1 : j < dT d a := by omega
        have hm := (hT.2.2 j hj1).2
        refine ld_a5 iX3_addUp_33 ?_
        refine ld_i9 iX3_addUp_35 ?_
        refine al_23 rfl (by omega) iX3_addUp_37 ?_
        rw [(t2 j hj1).1]
        refine r_bipush (by decide) iX3_addUp_38 ?_
        refine r_icmpne iX3_addUp_40 (by omega) (by omega) (fun h40 => ?_) (fun h40 => ?_)
        · refine ld_a5 iX3_addUp_54 ?_
          refine ld_i9 iX3_addUp_56 ?_
          refine al_23 rfl (by omega) iX3_addUp_58 ?_
          rw [(t2 j hj1).1]
          refine r_bipush (by decide) iX3_addUp_59 ?_
          refine r_icmpne iX3_addUp_61 (by omega) (by omega) (fun h61 => ?_) (fun h61 => ?_)
          · refine ld_a0 iX3_addUp_76 ?_
            refine gf_X3_values kFX3_15 iX3_addUp_77 ?_
            refine ld_a5 iX3_addUp_80 ?_
            refine ld_i9 iX3_addUp_82 ?_
            refine al_23 rfl (by omega) iX3_addUp_84 ?_
            rw [(t2 j hj1).1]
            refine al_5 (n := (dM d a j)) (by omega) (by omega) iX3_addUp_85 ?_
            refine sv_l10 (by decide) rfl iX3_addUp_86 ?_
            refine tl _ hj1 ?_
            unfold trm
            first
              | rw [if_pos (by omega)]
              | rw [if_neg (by omega), if_pos (by omega)]
              | rw [if_neg (by omega), if_neg (by omega)]
          · refine ld_i4 iX3_addUp_64 ?_
            refine r_i2l (by omega) iX3_addUp_66 ?_
            refine r_ldc2 (z := 1000000000) kKX3_63 (by decide) iX3_addUp_67 ?_
            refine r_lmul iX3_addUp_70 ?_
            refine sv_l10 (by decide) rfl iX3_addUp_71 ?_
            refine r_goto iX3_addUp_73 ?_
            refine tl _ hj1 ?_
            unfold trm
            first
              | rw [if_pos (by omega)]
              | rw [if_neg (by omega), if_pos (by omega)]
              | rw [if_neg (by omega), if_neg (by omega)]
        · refine ld_i3 iX3_addUp_43 ?_
          refine r_i2l (by omega) iX3_addUp_44 ?_
          refine r_ldc2 (z := 1000000000) kKX3_63 (by decide) iX3_addUp_45 ?_
          refine r_lmul iX3_addUp_48 ?_
          refine sv_l10 (by decide) rfl iX3_addUp_49 ?_
          refine r_goto iX3_addUp_51 ?_
          refine tl _ hj1 ?_
          unfold trm
          first
            | rw [if_pos (by omega)]
            | rw [if_neg (by omega), if_pos (by omega)]
            | rw [if_neg (by omega), if_neg (by omega)]
  refine ld_a1 iX3_addUp_0 ?_
  refine gf_X5_terms kFX3_53 iX3_addUp_1 ?_
  refine ld_i2 iX3_addUp_4 ?_
  refine al_22 rfl (by omega) iX3_addUp_5 ?_
  refine sv_a5 (by decide) rfl iX3_addUp_6 ?_
  refine ld_a1 iX3_addUp_8 ?_
  refine gf_X5_signs kFX3_57 iX3_addUp_9 ?_
  refine ld_i2 iX3_addUp_12 ?_
  refine al_24 rfl (by omega) iX3_addUp_13 ?_
  refine sv_a6 (by decide) rfl iX3_addUp_14 ?_
  refine r_lconst (v := 0) (by decide) iX3_addUp_16 ?_
  refine sv_l7 (by decide) rfl iX3_addUp_17 ?_
  refine r_iconst iX3_addUp_19 ?_
  refine sv_i9 (by decide) rfl iX3_addUp_20 ?_
  exact loop (dT d a) 0 _ _ (by omega) (by omega) (by omega) rfl
/-- what the Point holds behind a reckoning -/
def PtI (N : Nm) (d : Dk) (b hd hv w : Int) (n : Nat) : Prop := ∀ a, a < n → N 5 0 a = VA d b hd hv w a ∧ N 4 0 a = sumV d b w (VA d b hd hv w) a ∧ N 6 0 a = segV d a (sumV d b w (VA d b hd hv w) a)
theorem c_reckonHeld {w b hd hv : Int} {Pq : Int → Nm → Ge → Prop} (hR : RuI N r d) (hW : WD d) (hb : 0 ≤ b ∧ b ≤ 999) (hw : 0 ≤ w ∧ w ≤ 9999) (hhr : rI hd) (hh : ∀ a : Nat, a < dA d → (a : Int) = hd → 0 ≤ hv ∧ hv ≤ VB (dD d a))
    (hq : ∀ N', FrP N N' → PtI N' d b hd hv w (dA d) → N' 5 0 6 = paid d b hd hv w → Pq (paid d b hd hv w) N' g) : Ck K YX3_reckonHeld hX3_reckonHeld [vr 3 0, vr 20 r, vi w, vi b, vi hd, vl hv] N g (qL Pq) := by
  have hA := hW.1
  have vb := val_bd hW hb hw hh (dA d) (Nat.le_refl _)
  refine Ck.intro 6 (by decide) rfl ?_
  show AW _ _ _ _ _ [some (vr 3 0), some (vr 20 r), some (vi w), some (vi b), some (vi hd), some (vl hv), none, none, none, none, none, none, none] _ _ _
  have loop : ∀ (n a : Nat) (c : Int) (N' : Nm), dA d - a = n → a ≤ dA d → c = a → FrP N N' → PtI N' d b hd hv w a → AW K YX3_reckonHeld hX3_reckonHeld (qL Pq) 3 [some (vr 3 0), some (vr 20 r), some (vi w), some (vi b), some (vi hd), some (vl hv), none, some (vi c), none, none, none, none, none] [] N' g := by
    intro n
    induction n using Nat.strongRecOn with
    | _ n ih =>
      intro a c N' e ha hc hF hPt
      subst hc
      have hR' := hR.frp hF
      have tl : ∀ (N2 : Nm) (x z y1 y2 y3 : Int) (ha1 : a < dA d), x = VA d b hd hv w a → N2 = upN (upN N' 4 0 a (sumV d b w (VA d b hd hv w) a)) 6 0 a (segV d a (sumV d b w (VA d b hd hv w) a)) → AW K YX3_reckonHeld hX3_reckonHeld (qL Pq) 87 [some (vr 3 0), some (vr 20 r), some (vi w), some (vi b), some (vi hd), some (vl hv), none, some (vi a), some (vl y1), none, some (vl y2), none, some (vi y3)] [vl x, vi a, vr 5 0] N2 g := by
        intro N2 x z y1 y2 y3 ha1 hx hN2
        refine as_5 rfl (by omega) iX3_reckonHeld_87 ?_
        refine inc_7 (by decide) rfl iX3_reckonHeld_88 ?_
        refine r_goto iX3_reckonHeld_91 ?_
        refine fg_8 (fg_10 (fg_12 ?_))
        refine ih (dA d - (a + 1)) (by omega) (a + 1) _ _ rfl (by omega) (by omega) ?_ (fun k hk => ?_)
        · rw [hN2]; exact ((hF.up (by omega)).up (by omega)).up (by omega)
        · rw [hN2]
          by_cases e : k = a
          · subst e; simp [upN, hx]
          · simp [upN, e]; exact hPt k (by omega)
      refine ld_i7 iX3_reckonHeld_3 ?_
      refine ld_a1 iX3_reckonHeld_5 ?_
      refine gf_X5_accounts kFX3_32 iX3_reckonHeld_6 ?_
      rw [hR'.1]
      refine r_icmpge iX3_reckonHeld_9 (by omega) (by omega) (fun h9 => ?_) (fun h9 => ?_)
      · have e : a = dA d := by omega
        subst e
        have esum : sumV d b w (fun k => N' 5 0 k) 6 = paid d b hd hv w := sumV_cong hW.2.2.2 (fun k k1 _ => (hPt k k1).1)
        refine ld_a0 iX3_reckonHeld_94 ?_
        refine gf_X3_sums kFX3_9 iX3_reckonHeld_95 ?_
        refine r_bipush (by decide) iX3_reckonHeld_98 ?_
        refine ld_a0 iX3_reckonHeld_100 ?_
        refine ld_a1 iX3_reckonHeld_101 ?_
        refine r_bipush (by decide) iX3_reckonHeld_102 ?_
        refine ld_i2 iX3_reckonHeld_104 ?_
        refine ld_i3 iX3_reckonHeld_105 ?_
        refine xX3_addUp kMX3_35 iX3_reckonHeld_106 (by decide) (Nat.le_of_ble_eq_true rfl) rfl rfl ?_
        refine c_addUp (a := 6) hR' hW (Or.inr rfl) (by omega) (by omega) ?_
        rw [esum]
        refine as_4 (n := 6) (by omega) (by omega) iX3_reckonHeld_109 ?_
        refine ld_a0 iX3_reckonHeld_110 ?_
        refine gf_X3_values kFX3_15 iX3_reckonHeld_111 ?_
        refine r_bipush (by decide) iX3_reckonHeld_114 ?_
        refine ld_a0 iX3_reckonHeld_116 ?_
        refine gf_X3_sums kFX3_9 iX3_reckonHeld_117 ?_
        refine r_bipush (by decide) iX3_reckonHeld_120 ?_
        refine al_4 (n := 6) (by omega) (by omega) iX3_reckonHeld_122 ?_
        rw [upN_eq]
        refine as_5 (n := 6) (by omega) (by omega) iX3_reckonHeld_123 ?_
        refine ld_a0 iX3_reckonHeld_124 ?_
        refine gf_X3_values kFX3_15 iX3_reckonHeld_125 ?_
        refine r_bipush (by decide) iX3_reckonHeld_128 ?_
        refine al_5 (n := 6) (by omega) (by omega) iX3_reckonHeld_130 ?_
        rw [upN_eq]
        refine t_long rfl iX3_reckonHeld_131 ?_
        refine hq _ ((hF.up (by omega)).up (by omega)) (fun k hk => ?_) (upN_eq _ _ _ _ _)
        have hk6 : k ≠ 6 := by omega
        simp [upN, hk6]; exact hPt k hk
      · have ha1 : a < dA d := by omega
        obtain ⟨hS, hT, hD1, hD2⟩ := hW.2.2.1 a ha1
        have vba := vb a ha1
        have sbl := SB_le (dD d a)
        have esum : sumV d b w (fun k => N' 5 0 k) a = sumV d b w (VA d b hd hv w) a := sumV_cong hT (fun k k1 k2 => (hPt k (k2 (by omega))).1)
        refine ld_a0 iX3_reckonHeld_12 ?_
        refine ld_a1 iX3_reckonHeld_13 ?_
        refine ld_i7 iX3_reckonHeld_14 ?_
        refine ld_i2 iX3_reckonHeld_16 ?_
        refine ld_i3 iX3_reckonHeld_17 ?_
        refine xX3_addUp kMX3_35 iX3_reckonHeld_18 (by decide) (Nat.le_of_ble_eq_true rfl) rfl rfl ?_
        refine c_addUp hR' hW (Or.inl ha1) (by omega) (by omega) ?_
        rw [esum]
        refine sv_l8 (by decide) rfl iX3_reckonHeld_21 ?_
        refine ld_l8 iX3_reckonHeld_23 ?_
        refine r_lconst (v := 0) (by decide) iX3_reckonHeld_25 ?_
        refine xJ9_max_f86c9 kMX3_39 iX3_reckonHeld_26 (by decide) (Nat.le_of_ble_eq_true rfl) rfl rfl ?_
        refine c_maxL (by omega) (by omega) ?_
        refine sv_l10 (by decide) rfl iX3_reckonHeld_29 ?_
        refine ld_a1 iX3_reckonHeld_31 ?_
        refine ld_i7 iX3_reckonHeld_32 ?_
        refine ld_l10 iX3_reckonHeld_34 ?_
        refine xX5_segmentFor kMX3_45 iX3_reckonHeld_36 (by decide) (Nat.le_of_ble_eq_true rfl) rfl rfl ?_
        refine c_segmentFor hR' hW ha1 (by omega) ?_
        refine sv_i12 (by decide) rfl iX3_reckonHeld_39 ?_
        refine ld_a0 iX3_reckonHeld_41 ?_
        refine gf_X3_sums kFX3_9 iX3_reckonHeld_42 ?_
        refine ld_i7 iX3_reckonHeld_45 ?_
        refine ld_l8 iX3_reckonHeld_47 ?_
        refine as_4 rfl (by omega) iX3_reckonHeld_49 ?_
        refine ld_a0 iX3_reckonHeld_50 ?_
        refine gf_X3_segments kFX3_18 iX3_reckonHeld_51 ?_
        refine ld_i7 iX3_reckonHeld_54 ?_
        refine ld_i12 iX3_reckonHeld_56 ?_
        refine as_6 rfl (by omega) iX3_reckonHeld_58 ?_
        refine ld_a0 iX3_reckonHeld_59 ?_
        refine gf_X3_values kFX3_15 iX3_reckonHeld_60 ?_
        refine ld_i7 iX3_reckonHeld_63 ?_
        refine ld_i7 iX3_reckonHeld_65 ?_
        refine ld_i4 iX3_reckonHeld_67 ?_
        refine r_icmpne iX3_reckonHeld_69 (by omega) (by omega) (fun h69 => ?_) (fun h69 => ?_)
        · refine ld_a1 iX3_reckonHeld_77 ?_
          refine ld_i7 iX3_reckonHeld_78 ?_
          refine ld_i12 iX3_reckonHeld_80 ?_
          refine ld_l10 iX3_reckonHeld_82 ?_
          refine xX3_valueIn kMX3_49 iX3_reckonHeld_84 (by decide) (Nat.le_of_ble_eq_true rfl) rfl rfl ?_
          refine c_ptValueIn (hR'.of (fun k x j q1 q2 => by simp [upN]; omega)) hW ha1 (segV_lt hS _) (by omega) ?_
          refine tl _ _ 0 _ _ _ ha1 ?_ rfl
          rw [VA_eq hW b hd hv w ha1]
          first
            | rw [if_pos h69]
            | (rw [if_neg h69]; rfl)
        · refine ld_l5 iX3_reckonHeld_72 ?_
          refine r_goto iX3_reckonHeld_74 ?_
          refine tl _ _ 0 _ _ _ ha1 ?_ rfl
          rw [VA_eq hW b hd hv w ha1]
          first
            | rw [if_pos h69]
            | (rw [if_neg h69]; rfl)
  refine r_iconst iX3_reckonHeld_0 ?_
  refine sv_i7 (by decide) rfl iX3_reckonHeld_1 ?_
  exact loop (dA d) 0 _ N (by omega) (by omega) (by omega) (FrP.rf N) (fun k hk => by omega)
theorem c_reckon {w : Int} {Pq : Int → Nm → Ge → Prop} (hR : RuI N r d) (hW : WD d) (hw : 0 ≤ w ∧ w ≤ 9999) (hq : ∀ N', FrP N N' → PtI N' d (dB d) (-1) 0 w (dA d) → N' 5 0 6 = paid d (dB d) (-1) 0 w → Pq (paid d (dB d) (-1) 0 w) N' g) : Ck K YX3_reckon hX3_reckon [vr 3 0, vr 20 r, vi w] N g (qL Pq) := by
  refine Ck.intro 0 (by decide) rfl ?_
  show AW _ _ _ _ _ [some (vr 3 0), some (vr 20 r), some (vi w)] _ _ _
  refine ld_a0 iX3_reckon_0 ?_
  refine ld_a1 iX3_reckon_1 ?_
  refine ld_i2 iX3_reckon_2 ?_
  refine ld_a1 iX3_reckon_3 ?_
  refine gf_X5_benefit kFX3_22 iX3_reckon_4 ?_
  rw [hR.2.1]
  refine r_iconst iX3_reckon_7 ?_
  refine r_lconst (v := 0) (by decide) iX3_reckon_8 ?_
  refine xX3_reckonHeld kMX3_28 iX3_reckon_9 (by decide) (Nat.le_of_ble_eq_true rfl) rfl rfl ?_
  refine c_reckonHeld hR hW hW.2.1 hw (by omega) (fun a _ q => by omega) (fun N' h1 h2 h3 => ?_)
  refine t_long rfl iX3_reckon_12 ?_
  exact hq N' h1 h2 h3
end Point9
