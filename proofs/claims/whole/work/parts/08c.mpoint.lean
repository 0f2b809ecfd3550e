/-! own text: the reference reckons a desk at a wage -/
/-- nothing but families lo .. hi has changed -/
def FrX (lo hi : Nat) (N N' : Nm) : Prop := ∀ k a j, (k < lo ∨ hi < k) → N' k a j = N k a j
theorem FrX.rf (lo hi : Nat) (N : Nm) : FrX lo hi N N := fun _ _ _ _ => rfl
theorem FrX.tr {lo hi : Nat} {A B C : Nm} (h1 : FrX lo hi A B) (h2 : FrX lo hi B C) : FrX lo hi A C := fun k a j q => (h2 k a j q).trans (h1 k a j q)
theorem FrX.up {lo hi k i j : Nat} {A B : Nm} {v : Int} (h : FrX lo hi A B) (hk : lo ≤ k ∧ k ≤ hi) : FrX lo hi A (upN B k i j v) := fun k' a' j' q => by
  rw [← h k' a' j' q]
  exact if_neg (fun z => by omega)
theorem FrX.wk {lo hi lo' hi' : Nat} {A B : Nm} (h : FrX lo hi A B) (h1 : lo' ≤ lo) (h2 : hi ≤ hi') : FrX lo' hi' A B := fun k a j q => h k a j (by omega)
def cod (m : Nat) : Int := if m = 6 then 0 else if m = 7 then 1 else (m : Int) + 2
theorem cod_cs (m : Nat) : (m = 6 ∧ cod m = 0) ∨ (m = 7 ∧ cod m = 1) ∨ (m ≠ 6 ∧ m ≠ 7 ∧ cod m = (m : Int) + 2) := by
  unfold cod; split
  · omega
  · split <;> omega
def MoT (N : Nm) (d : Dk) : Prop := ∀ a, (a < dA d ∨ a = 6) → N 43 0 a = dT d a ∧ ∀ j, j < dT d a → N 47 0 (6 * a + j) = cod (dM d a j) ∧ N 45 0 (6 * a + j) = dG d a j
def MoS (N : Nm) (d : Dk) : Prop := ∀ a, a < dA d → N 53 0 a = dD d a ∧ N 49 0 a = dS d a ∧ ∀ q, q < dS d a → N 51 0 (3 * (6 * a + q)) = dF d a q ∧ N 51 0 (3 * (6 * a + q) + 1) = dE d a q ∧ N 51 0 (3 * (6 * a + q) + 2) = dL d a q
/-- the reference holds the desk d, its BENEFIT aside -/
def MoI (N : Nm) (d : Dk) : Prop := N 40 0 19 = dA d ∧ MoT N d ∧ MoS N d
theorem MoI.of {N N' : Nm} {d : Dk} (h : MoI N d) (h19 : N' 40 0 19 = N 40 0 19) (hN : ∀ k j, 43 ≤ k → k ≤ 53 → N' k 0 j = N k 0 j) : MoI N' d := by
  obtain ⟨h1, h2, h3⟩ := h
  refine ⟨by rw [h19]; exact h1, fun a ha => ?_, fun a ha => ?_⟩
  · obtain ⟨e1, e2⟩ := h2 a ha
    refine ⟨by rw [hN 43 _ (by omega) (by omega)]; exact e1, fun j hj => ?_⟩
    rw [hN 47 _ (by omega) (by omega), hN 45 _ (by omega) (by omega)]
    exact e2 j hj
  · obtain ⟨e1, e2, e3⟩ := h3 a ha
    refine ⟨by rw [hN 53 _ (by omega) (by omega)]; exact e1, by rw [hN 49 _ (by omega) (by omega)]; exact e2, fun q hq => ?_⟩
    rw [hN 51 _ (by omega) (by omega), hN 51 _ (by omega) (by omega), hN 51 _ (by omega) (by omega)]
    exact e3 q hq
theorem MoI.frx {N N' : Nm} {d : Dk} {lo hi : Nat} (h : MoI N d) (hN : FrX lo hi N N') (hl : 54 ≤ lo ∨ hi ≤ 39) : MoI N' d := h.of (hN 40 _ _ (by omega)) (fun k j q1 q2 => hN k 0 j (by omega))
/-- the reference's held account and BENEFIT -/
def MoH (N : Nm) (b hd hv : Int) : Prop := N 40 0 20 = b ∧ N 40 0 27 = hd ∧ N 40 0 28 = hv
theorem MoH.frx {N N' : Nm} {b hd hv : Int} {lo hi : Nat} (h : MoH N b hd hv) (hN : FrX lo hi N N') (hl : 41 ≤ lo ∨ hi ≤ 39) : MoH N' b hd hv := by
  obtain ⟨h1, h2, h3⟩ := h
  exact ⟨by rw [hN 40 _ _ (by omega)]; exact h1, by rw [hN 40 _ _ (by omega)]; exact h2, by rw [hN 40 _ _ (by omega)]; exact h3⟩
section MPoint
variable {K : Kx} {N : Nm} {g : Ge} {d : Dk}
theorem c_part {x y c : Int} {Pq : Int → Nm → Ge → Prop} (n : Nat) (hn : 3 * (6 * x + y) + c = (n : Int)) (hl : n < 108) (hq : Pq (N 51 0 n) N g) : Ck K YX10_part hX10_part [vr 40 0, vi x, vi y, vi c] N g (qI Pq) := by
  refine Ck.intro 0 (by decide) rfl ?_
  show AW _ _ _ _ _ [some (vr 40 0), some (vi x), some (vi y), some (vi c)] _ _ _
  refine ld_a0 iX10_part_0 ?_
  refine gf_X10_segment kFX10_40 iX10_part_1 ?_
  refine r_iconst iX10_part_4 ?_
  refine r_bipush (by decide) iX10_part_5 ?_
  refine ld_i1 iX10_part_7 ?_
  refine r_imul iX10_part_8 ?_
  refine ld_i2 iX10_part_9 ?_
  refine r_iadd iX10_part_10 ?_
  refine r_imul iX10_part_11 ?_
  refine ld_i3 iX10_part_12 ?_
  refine r_iadd iX10_part_13 ?_
  refine al_51 (n := n) (by omega) (by omega) iX10_part_14 ?_
  refine t_int rfl iX10_part_15 ?_
  exact hq
theorem c_mSumAt {a : Nat} {w b hd hv : Int} {Pq : Int → Nm → Ge → Prop} (hM : MoI N d) (hW : WD d) (hH : MoH N b hd hv) (ha : a < dA d ∨ a = 6) (hb : rI b) (hw : rI w) (hq : Pq (sumV d b w (fun k => N 56 0 k) a) N g) : Ck K YX10_sumAt hX10_sumAt [vr 40 0, vi a, vi w] N g (qL Pq) := by
  obtain ⟨hM1, hM2, hM3⟩ := hM
  obtain ⟨t1, t2⟩ := hM2 a ha
  have hA := hW.1
  have hT : WT d a := by
    rcases ha with q | q
    · exact (hW.2.2.1 a q).2.1
    · rw [q]; exact hW.2.2.2
  have hT6 := hT.2.1
  refine Ck.intro 6 (by decide) rfl ?_
  show AW _ _ _ _ _ [some (vr 40 0), some (vi a), some (vi w), none, none, none, none, none, none] _ _ _
  have loop : ∀ (n j : Nat) (t c : Int), dT d a - j = n → j ≤ dT d a → c = j → t = smV d b w (fun k => N 56 0 k) a j → AW K YX10_sumAt hX10_sumAt (qL Pq) 5 [some (vr 40 0), some (vi a), some (vi w), some (vl t), none, some (vi c), none, none, none] [] N g := by
    intro n
    induction n using Nat.strongRecOn with
    | _ n ih =>
      intro j t c e hj hc ht
      subst hc
      have tl : ∀ (x y : Int) (hj1 : j < dT d a), x = trm b w (fun k => N 56 0 k) (dM d a j) → AW K YX10_sumAt hX10_sumAt (qL Pq) 71 [some (vr 40 0), some (vi a), some (vi w), some (vl t), none, some (vi j), some (vi y), none, none] [vl x] N g := by
        intro x y hj1 hx
        have hg := (hT.2.2 j hj1).1
        refine sv_l7 (by decide) rfl iX10_sumAt_71 ?_
        refine ld_l3 iX10_sumAt_73 ?_
        refine ld_a0 iX10_sumAt_74 ?_
        refine gf_X10_sign kFX10_22 iX10_sumAt_75 ?_
        refine r_bipush (by decide) iX10_sumAt_78 ?_
        refine ld_i1 iX10_sumAt_80 ?_
        refine r_imul iX10_sumAt_81 ?_
        refine ld_i5 iX10_sumAt_82 ?_
        refine r_iadd iX10_sumAt_84 ?_
        refine al_45 (n := (6 * a + j)) (by omega) (by omega) iX10_sumAt_85 ?_
        rw [(t2 j hj1).2]
        refine r_i2l (by omega) iX10_sumAt_86 ?_
        refine ld_l7 iX10_sumAt_87 ?_
        refine r_lmul iX10_sumAt_89 ?_
        refine r_ladd iX10_sumAt_90 ?_
        refine sv_l3 (by decide) rfl iX10_sumAt_91 ?_
        refine inc_5 (by decide) rfl iX10_sumAt_92 ?_
        refine r_goto iX10_sumAt_95 ?_
        refine fg_6 (fg_7 ?_)
        exact ih (dT d a - (j + 1)) (by omega) (j + 1) _ _ rfl (by omega) (by omega) (by rw [smV, ht, hx])
      refine ld_i5 iX10_sumAt_5 ?_
      refine ld_a0 iX10_sumAt_7 ?_
      refine gf_X10_terms kFX10_16 iX10_sumAt_8 ?_
      refine ld_i1 iX10_sumAt_11 ?_
      refine al_43 rfl (by omega) iX10_sumAt_12 ?_
      rw [t1]
      refine r_icmpge iX10_sumAt_13 (by omega) (by omega) (fun h13 => ?_) (fun h13 => ?_)
      · refine ld_l3 iX10_sumAt_98 ?_
        refine t_long rfl iX10_sumAt_99 ?_
        have e : j = dT d a := by omega
        rw [e] at ht; rw [ht]; exact hq
      · have hj1 : j < dT d a := by omega
        have hm := (hT.2.2 j hj1).2
        refine ld_a0 iX10_sumAt_16 ?_
        refine gf_X10_what kFX10_28 iX10_sumAt_17 ?_
        refine r_bipush (by decide) iX10_sumAt_20 ?_
        refine ld_i1 iX10_sumAt_22 ?_
        refine r_imul iX10_sumAt_23 ?_
        refine ld_i5 iX10_sumAt_24 ?_
        refine r_iadd iX10_sumAt_26 ?_
        refine al_47 (n := (6 * a + j)) (by omega) (by omega) iX10_sumAt_27 ?_
        rw [(t2 j hj1).1]
        have hcod := cod_cs (dM d a j)
        refine sv_i6 (by decide) rfl iX10_sumAt_28 ?_
        refine ld_i6 iX10_sumAt_30 ?_
        refine r_ifne iX10_sumAt_32 (by omega) (fun h32 => ?_) (fun h32 => ?_)
        · refine ld_i6 iX10_sumAt_44 ?_
          refine r_iconst iX10_sumAt_46 ?_
          refine r_icmpne iX10_sumAt_47 (by omega) (by omega) (fun h47 => ?_) (fun h47 => ?_)
          · refine ld_a0 iX10_sumAt_62 ?_
            refine gf_X10_is kFX10_55 iX10_sumAt_63 ?_
            refine ld_i6 iX10_sumAt_66 ?_
            refine r_iconst iX10_sumAt_68 ?_
            refine r_isub iX10_sumAt_69 ?_
            refine al_56 (n := (dM d a j)) (by omega) (by omega) iX10_sumAt_70 ?_
            refine tl _ _ hj1 ?_
            unfold trm
            first
              | rw [if_pos (by omega)]
              | rw [if_neg (by omega), if_pos (by omega)]
              | rw [if_neg (by omega), if_neg (by omega)]
          · refine ld_a0 iX10_sumAt_50 ?_
            refine gf_X10_benefit kFX10_162 iX10_sumAt_51 ?_
            rw [hH.1]
            refine r_i2l (by omega) iX10_sumAt_54 ?_
            refine r_ldc2 (z := 1000000000) kKX10_178 (by decide) iX10_sumAt_55 ?_
            refine r_lmul iX10_sumAt_58 ?_
            refine r_goto iX10_sumAt_59 ?_
            refine tl _ _ hj1 ?_
            unfold trm
            first
              | rw [if_pos (by omega)]
              | rw [if_neg (by omega), if_pos (by omega)]
              | rw [if_neg (by omega), if_neg (by omega)]
        · refine ld_i2 iX10_sumAt_35 ?_
          refine r_i2l (by omega) iX10_sumAt_36 ?_
          refine r_ldc2 (z := 1000000000) kKX10_178 (by decide) iX10_sumAt_37 ?_
          refine r_lmul iX10_sumAt_40 ?_
          refine r_goto iX10_sumAt_41 ?_
          refine tl _ _ hj1 ?_
          unfold trm
          first
            | rw [if_pos (by omega)]
            | rw [if_neg (by omega), if_pos (by omega)]
            | rw [if_neg (by omega), if_neg (by omega)]
  refine r_lconst (v := 0) (by decide) iX10_sumAt_0 ?_
  refine sv_l3 (by decide) rfl iX10_sumAt_1 ?_
  refine r_iconst iX10_sumAt_2 ?_
  refine sv_i5 (by decide) rfl iX10_sumAt_3 ?_
  exact loop (dT d a) 0 _ _ (by omega) (by omega) (by omega) rfl
theorem c_whichBy {a : Nat} {c : Int} {Pq : Int → Nm → Ge → Prop} (hM : MoI N d) (hW : WD d) (ha : a < dA d) (hc : rL c) (hq : Pq (sgf d a c (dS d a - 1)) N g) : Ck K YX10_whichBy hX10_whichBy [vr 40 0, vi a, vl c] N g (qI Pq) := by
  obtain ⟨hM1, hM2, hM3⟩ := hM
  obtain ⟨s1, s2, s3⟩ := hM3 a ha
  have hA := hW.1
  obtain ⟨hS, -⟩ := hW.2.2.1 a ha
  have hS1 := hS.1
  have hS2 := hS.2.1
  refine Ck.intro 1 (by decide) rfl ?_
  show AW _ _ _ _ _ [some (vr 40 0), some (vi a), some (vl c), none, none] _ _ _
  have loop : ∀ (q : Nat) (b : Int), b = q → q < dS d a → sgf d a c q = sgf d a c (dS d a - 1) → AW K YX10_whichBy hX10_whichBy (qI Pq) 10 [some (vr 40 0), some (vi a), some (vl c), none, some (vi b)] [] N g := by
    intro q
    induction q with
    | zero =>
      intro b hb h1 h2
      subst hb
      refine ld_i4 iX10_whichBy_10 ?_
      refine r_ifle iX10_whichBy_12 (by omega) (fun h12 => ?_) (fun h12 => ?_)
      · refine ld_i4 iX10_whichBy_39 ?_
        refine t_int rfl iX10_whichBy_41 ?_
        rw [← h2] at hq; exact hq
      · exfalso; omega
    | succ q ih =>
      intro b hb h1 h2
      subst hb
      have hf := (hS.2.2.2.2 (q + 1) h1).1
      rw [sgf] at h2
      refine ld_i4 iX10_whichBy_10 ?_
      refine r_ifle iX10_whichBy_12 (by omega) (fun h12 => ?_) (fun h12 => ?_)
      · exfalso; omega
      · refine ld_a0 iX10_whichBy_15 ?_
        refine ld_i1 iX10_whichBy_16 ?_
        refine ld_i4 iX10_whichBy_17 ?_
        refine r_iconst iX10_whichBy_19 ?_
        refine xX10_part kMX10_180 iX10_whichBy_20 (by decide) (Nat.le_of_ble_eq_true rfl) rfl rfl ?_
        refine c_part (3 * (6 * a + (q + 1))) (by omega) (by omega) ?_
        rw [(s3 (q + 1) h1).1]
        refine r_i2l (by omega) iX10_whichBy_23 ?_
        refine r_ldc2 (z := 1000000000) kKX10_178 (by decide) iX10_whichBy_24 ?_
        refine r_lmul iX10_whichBy_27 ?_
        refine ld_l2 iX10_whichBy_28 ?_
        refine r_lcle iX10_whichBy_29 iX10_whichBy_30 (by omega) (by omega) (fun h29 => ?_) (fun h29 => ?_)
        · refine ld_i4 iX10_whichBy_39 ?_
          refine t_int rfl iX10_whichBy_41 ?_
          rw [if_neg (by omega)] at h2; rw [← h2] at hq; exact hq
        · refine inc_4 (by decide) rfl iX10_whichBy_33 ?_
          refine r_goto iX10_whichBy_36 ?_
          exact ih _ (by omega) (by omega) (by rw [if_pos h29] at h2; exact h2)
  refine ld_a0 iX10_whichBy_0 ?_
  refine gf_X10_many kFX10_34 iX10_whichBy_1 ?_
  refine ld_i1 iX10_whichBy_4 ?_
  refine al_49 rfl (by omega) iX10_whichBy_5 ?_
  rw [s2]
  refine r_iconst iX10_whichBy_6 ?_
  refine r_isub iX10_whichBy_7 ?_
  refine sv_i4 (by decide) rfl iX10_whichBy_8 ?_
  exact loop (dS d a - 1) _ (by omega) (by omega) rfl
theorem xg_beginOf {Y : Ys} {Q : Qt} {pc pc' : Nat} {ls : List (Option AV)} {st : List AV} {idx i h h' : Nat} {a0 : Int} {a1 : Int} (hlink : Cond.methodLink Y.1.cls idx yX10_beginOf ∈ TW) (hat : At Y pc (.invokevirtual idx) 3 pc') (hh : h' + 1 ≤ h) (hcat : (st.map cat).sum ≤ 8) (nL : ls.all nml = true) (nS : st.all nmo = true) (hck : Ck K YX10_beginOf h' [vr 40 i, vi a0, vi a1] N g (qL (fun z N' g' => AW K Y h Q pc' ls (vl z :: st) N' g'))) : AW K Y h Q pc ls (vi a1 :: vi a0 :: vr 40 i :: st) N g := r_callV (Y' := YX10_beginOf) (as := [vi a0, vi a1]) hat hlink kIX10_beginOf kLX10_beginOf kCX10_beginOf kNX10 (n := 2) (by decide +kernel) rfl (k := 40) (c := 8) rfl rfl rfl (by decide) hh hcat nL nS (Ck.post (qL_b (fun _ _ _ q => q)) hck)
theorem c_beginOfN {a : Nat} (hM : MoI N d) (hW : WD d) (ha : a < dA d) : ∀ (q h : Nat) (x : Int) (Pq : Int → Nm → Ge → Prop), x = q → q < dS d a → q + 1 ≤ h → Pq (bas d a q) N g → Ck K YX10_beginOf h [vr 40 0, vi a, vi x] N g (qL Pq) := by
  obtain ⟨hM1, hM2, hM3⟩ := hM
  obtain ⟨s1, s2, s3⟩ := hM3 a ha
  have hA := hW.1
  obtain ⟨hS, -⟩ := hW.2.2.1 a ha
  have hS1 := hS.1
  have hS2 := hS.2.1
  intro q
  induction q with
  | zero =>
    intro h x Pq hx hqs hh hq
    subst hx
    have e1 := (s3 0 hqs).2.1
    have b1 := hS.2.2.2.2 0 hqs
    refine Ck.intro 0 (by decide) rfl ?_
    show AW _ _ _ _ _ [some (vr 40 0), some (vi a), some (vi (0 : Nat))] _ _ _
    rw [bas] at hq
    refine ld_a0 iX10_beginOf_0 ?_
    refine ld_i1 iX10_beginOf_1 ?_
    refine ld_i2 iX10_beginOf_2 ?_
    refine r_iconst iX10_beginOf_3 ?_
    refine xX10_part kMX10_180 iX10_beginOf_4 (by show 0 + 1 ≤ h; omega) (Nat.le_of_ble_eq_true rfl) rfl rfl ?_
    refine c_part (3 * (6 * a + 0) + 1) (by omega) (by omega) ?_
    rw [e1]
    refine r_iconst iX10_beginOf_7 ?_
    refine r_icmpeq iX10_beginOf_8 (by omega) (by omega) (fun h8 => ?_) (fun h8 => ?_)
    · refine ld_i2 iX10_beginOf_24 ?_
      refine r_ifne iX10_beginOf_25 (by omega) (fun h25 => ?_) (fun h25 => ?_)
      · exfalso; omega
      · refine r_lconst (v := 0) (by decide) iX10_beginOf_28 ?_
        refine r_goto iX10_beginOf_29 ?_
        refine t_long rfl iX10_beginOf_74 ?_
        rw [if_pos (by omega)] at hq; exact hq
    · refine ld_a0 iX10_beginOf_11 ?_
      refine ld_i1 iX10_beginOf_12 ?_
      refine ld_i2 iX10_beginOf_13 ?_
      refine r_iconst iX10_beginOf_14 ?_
      refine xX10_part kMX10_180 iX10_beginOf_15 (by show 0 + 1 ≤ h; omega) (Nat.le_of_ble_eq_true rfl) rfl rfl ?_
      refine c_part (3 * (6 * a + 0) + 1) (by omega) (by omega) ?_
      rw [e1]
      refine r_i2l (by omega) iX10_beginOf_18 ?_
      refine r_ldc2 (z := 1000000000) kKX10_178 (by decide) iX10_beginOf_19 ?_
      refine r_lmul iX10_beginOf_22 ?_
      refine t_long rfl iX10_beginOf_23 ?_
      rw [if_neg (by omega)] at hq; exact hq
  | succ q ih =>
    intro h x Pq hx hqs hh hq
    subst hx
    have e1 := s3 (q + 1) hqs
    have e0 := s3 q (by omega)
    have b1 := hS.2.2.2.2 (q + 1) hqs
    have b0 := hS.2.2.2.2 q (by omega)
    refine Ck.intro 0 (by decide) rfl ?_
    show AW _ _ _ _ _ [some (vr 40 0), some (vi a), some (vi (q + 1 : Nat))] _ _ _
    rw [bas] at hq
    refine ld_a0 iX10_beginOf_0 ?_
    refine ld_i1 iX10_beginOf_1 ?_
    refine ld_i2 iX10_beginOf_2 ?_
    refine r_iconst iX10_beginOf_3 ?_
    refine xX10_part kMX10_180 iX10_beginOf_4 (by show 0 + 1 ≤ h; omega) (Nat.le_of_ble_eq_true rfl) rfl rfl ?_
    refine c_part (3 * (6 * a + (q + 1)) + 1) (by omega) (by omega) ?_
    rw [e1.2.1]
    refine r_iconst iX10_beginOf_7 ?_
    refine r_icmpeq iX10_beginOf_8 (by omega) (by omega) (fun h8 => ?_) (fun h8 => ?_)
    · refine ld_i2 iX10_beginOf_24 ?_
      refine r_ifne iX10_beginOf_25 (by omega) (fun h25 => ?_) (fun h25 => ?_)
      · refine ld_a0 iX10_beginOf_32 ?_
        refine ld_i1 iX10_beginOf_33 ?_
        refine ld_i2 iX10_beginOf_34 ?_
        refine r_iconst iX10_beginOf_35 ?_
        refine r_isub iX10_beginOf_36 ?_
        refine xg_beginOf (h' := q + 1) kMX10_184 iX10_beginOf_37 (by omega) (Nat.le_of_ble_eq_true rfl) rfl rfl ?_
        refine ih (q + 1) _ _ (by omega) (by omega) (by omega) ?_
        refine ld_a0 iX10_beginOf_40 ?_
        refine ld_i1 iX10_beginOf_41 ?_
        refine ld_i2 iX10_beginOf_42 ?_
        refine r_iconst iX10_beginOf_43 ?_
        refine xX10_part kMX10_180 iX10_beginOf_44 (by show 0 + 1 ≤ h; omega) (Nat.le_of_ble_eq_true rfl) rfl rfl ?_
        refine c_part (3 * (6 * a + (q + 1))) (by omega) (by omega) ?_
        refine ld_a0 iX10_beginOf_47 ?_
        refine ld_i1 iX10_beginOf_48 ?_
        refine ld_i2 iX10_beginOf_49 ?_
        refine r_iconst iX10_beginOf_50 ?_
        refine r_isub iX10_beginOf_51 ?_
        refine r_iconst iX10_beginOf_52 ?_
        refine xX10_part kMX10_180 iX10_beginOf_53 (by show 0 + 1 ≤ h; omega) (Nat.le_of_ble_eq_true rfl) rfl rfl ?_
        refine c_part (3 * (6 * a + q)) (by omega) (by omega) ?_
        rw [e1.1, e0.1]
        refine r_isub iX10_beginOf_56 ?_
        refine r_i2l (by omega) iX10_beginOf_57 ?_
        refine r_ldc2 (z := 1000000) kKX10_188 (by decide) iX10_beginOf_58 ?_
        refine r_lmul iX10_beginOf_61 ?_
        refine ld_a0 iX10_beginOf_62 ?_
        refine ld_i1 iX10_beginOf_63 ?_
        refine ld_i2 iX10_beginOf_64 ?_
        refine r_iconst iX10_beginOf_65 ?_
        refine r_isub iX10_beginOf_66 ?_
        refine r_iconst iX10_beginOf_67 ?_
        refine xX10_part kMX10_180 iX10_beginOf_68 (by show 0 + 1 ≤ h; omega) (Nat.le_of_ble_eq_true rfl) rfl rfl ?_
        refine c_part (3 * (6 * a + q) + 2) (by omega) (by omega) ?_
        rw [e0.2.2]
        refine r_i2l (by omega) iX10_beginOf_71 ?_
        refine r_lmul iX10_beginOf_72 ?_
        refine r_ladd iX10_beginOf_73 ?_
        refine t_long rfl iX10_beginOf_74 ?_
        rw [if_pos (by omega)] at hq
        rw [Int.mul_right_comm]; exact hq
      · exfalso; omega
    · refine ld_a0 iX10_beginOf_11 ?_
      refine ld_i1 iX10_beginOf_12 ?_
      refine ld_i2 iX10_beginOf_13 ?_
      refine r_iconst iX10_beginOf_14 ?_
      refine xX10_part kMX10_180 iX10_beginOf_15 (by show 0 + 1 ≤ h; omega) (Nat.le_of_ble_eq_true rfl) rfl rfl ?_
      refine c_part (3 * (6 * a + (q + 1)) + 1) (by omega) (by omega) ?_
      rw [e1.2.1]
      refine r_i2l (by omega) iX10_beginOf_18 ?_
      refine r_ldc2 (z := 1000000000) kKX10_178 (by decide) iX10_beginOf_19 ?_
      refine r_lmul iX10_beginOf_22 ?_
      refine t_long rfl iX10_beginOf_23 ?_
      rw [if_neg (by omega)] at hq; exact hq
theorem c_beginOf {a q : Nat} {Pq : Int → Nm → Ge → Prop} (hM : MoI N d) (hW : WD d) (ha : a < dA d) (hqs : q < dS d a) (hq : Pq (bas d a q) N g) : Ck K YX10_beginOf hX10_beginOf [vr 40 0, vi a, vi q] N g (qL Pq) := by
  have hS2 := (hW.2.2.1 a ha).1.2.1
  exact c_beginOfN hM hW ha q hX10_beginOf q Pq rfl hqs (by show q + 1 ≤ 9; omega) hq
theorem c_lineAt {a : Nat} {w b hd hv s : Int} {Pq : Int → Nm → Ge → Prop} (hM : MoI N d) (hW : WD d) (hH : MoH N b hd hv) (ha : a < dA d) (hb : rI b) (hw : rI w) (hs : sumV d b w (fun k => N 56 0 k) a = s) (hsb : -100000000000000000 ≤ s ∧ s ≤ 100000000000000000) (hq : Pq (lnV d a s) N g) : Ck K YX10_lineAt hX10_lineAt [vr 40 0, vi a, vi w] N g (qL Pq) := by
  have hA := hW.1
  obtain ⟨hS, -⟩ := hW.2.2.1 a ha
  have hsl := segV_lt hS s
  have e := (hM.2.2 a ha).2.2 (segV d a s) hsl
  have hS2 := hS.2.1
  have hf := hS.2.2.2.2 _ hsl
  refine Ck.intro 3 (by decide) rfl ?_
  show AW _ _ _ _ _ [some (vr 40 0), some (vi a), some (vi w), none, none, none] _ _ _
  refine r_lconst (v := 0) (by decide) iX10_lineAt_0 ?_
  refine ld_a0 iX10_lineAt_1 ?_
  refine ld_i1 iX10_lineAt_2 ?_
  refine ld_i2 iX10_lineAt_3 ?_
  refine xX10_sumAt kMX10_190 iX10_lineAt_4 (by decide) (Nat.le_of_ble_eq_true rfl) rfl rfl ?_
  refine c_mSumAt hM hW hH (Or.inl ha) hb hw ?_
  rw [hs]
  refine xJ9_max_f86c9 kMX10_193 iX10_lineAt_7 (by decide) (Nat.le_of_ble_eq_true rfl) rfl rfl ?_
  refine c_maxL (by omega) (by omega) ?_
  rw [show max 0 s = max s 0 from Int.max_comm 0 s]
  refine sv_l3 (by decide) rfl iX10_lineAt_10 ?_
  refine ld_a0 iX10_lineAt_11 ?_
  refine ld_i1 iX10_lineAt_12 ?_
  refine ld_l3 iX10_lineAt_13 ?_
  refine xX10_whichBy kMX10_196 iX10_lineAt_14 (by decide) (Nat.le_of_ble_eq_true rfl) rfl rfl ?_
  refine c_whichBy hM hW ha (by omega) ?_
  show AW _ _ _ _ _ _ (vi (segV d a s) :: _) _ _
  refine sv_i5 (by decide) rfl iX10_lineAt_17 ?_
  refine ld_a0 iX10_lineAt_19 ?_
  refine ld_i1 iX10_lineAt_20 ?_
  refine ld_i5 iX10_lineAt_21 ?_
  refine xX10_beginOf kMX10_184 iX10_lineAt_23 (by decide) (Nat.le_of_ble_eq_true rfl) rfl rfl ?_
  refine c_beginOf hM hW ha hsl ?_
  refine ld_l3 iX10_lineAt_26 ?_
  refine ld_a0 iX10_lineAt_27 ?_
  refine ld_i1 iX10_lineAt_28 ?_
  refine ld_i5 iX10_lineAt_29 ?_
  refine r_iconst iX10_lineAt_31 ?_
  refine xX10_part kMX10_180 iX10_lineAt_32 (by decide) (Nat.le_of_ble_eq_true rfl) rfl rfl ?_
  refine c_part (3 * (6 * a + segV d a s)) (by omega) (by omega) ?_
  rw [e.1]
  refine r_i2l (by omega) iX10_lineAt_35 ?_
  refine r_ldc2 (z := 1000000000) kKX10_178 (by decide) iX10_lineAt_36 ?_
  refine r_lmul iX10_lineAt_39 ?_
  refine r_lsub iX10_lineAt_40 ?_
  refine r_ldc2 (z := 1000) kKX10_200 (by decide) iX10_lineAt_41 ?_
  refine r_ldiv (by omega) (by omega) (by omega) iX10_lineAt_44 ?_
  refine ld_a0 iX10_lineAt_45 ?_
  refine ld_i1 iX10_lineAt_46 ?_
  refine ld_i5 iX10_lineAt_47 ?_
  refine r_iconst iX10_lineAt_49 ?_
  refine xX10_part kMX10_180 iX10_lineAt_50 (by decide) (Nat.le_of_ble_eq_true rfl) rfl rfl ?_
  refine c_part (3 * (6 * a + segV d a s) + 2) (by omega) (by omega) ?_
  rw [e.2.2]
  refine r_i2l (by omega) iX10_lineAt_53 ?_
  refine r_lmul iX10_lineAt_54 ?_
  refine r_ladd iX10_lineAt_55 ?_
  refine t_long rfl iX10_lineAt_56 ?_
  exact hq
def MpI (N : Nm) (d : Dk) (b hd hv w : Int) (n : Nat) : Prop := ∀ a, a < n → N 56 0 a = VA d b hd hv w a
theorem c_laysAccounts {w b hd hv : Int} {Pq : Nm → Ge → Prop} (hM : MoI N d) (hW : WD d) (hH : MoH N b hd hv) (hb : 0 ≤ b ∧ b ≤ 999) (hw : 0 ≤ w ∧ w ≤ 9999) (hhr : rI hd) (hh : ∀ a : Nat, a < dA d → (a : Int) = hd → 0 ≤ hv ∧ hv ≤ VB (dD d a))
    (hq : ∀ N', FrX 56 56 N N' → MpI N' d b hd hv w (dA d) → Pq N' g) : Ck K YX10_laysAccounts hX10_laysAccounts [vr 40 0, vi w] N g (qV Pq) := by
  have hA := hW.1
  have vb := val_bd hW hb hw hh (dA d) (Nat.le_refl _)
  refine Ck.intro 1 (by decide) rfl ?_
  show AW _ _ _ _ _ [some (vr 40 0), some (vi w), none] _ _ _
  have loop : ∀ (n a : Nat) (c : Int) (N' : Nm), dA d - a = n → a ≤ dA d → c = a → FrX 56 56 N N' → MpI N' d b hd hv w a → AW K YX10_laysAccounts hX10_laysAccounts (qV Pq) 2 [some (vr 40 0), some (vi w), some (vi c)] [] N' g := by
    intro n
    induction n using Nat.strongRecOn with
    | _ n ih =>
      intro a c N' e ha hc hF hPt
      subst hc
      have hM' := hM.frx hF (by omega)
      have hH' := hH.frx hF (by omega)
      have tl : ∀ (x : Int) (ha1 : a < dA d), x = VA d b hd hv w a → AW K YX10_laysAccounts hX10_laysAccounts (qV Pq) 36 [some (vr 40 0), some (vi w), some (vi a)] [vl x, vi a, vr 56 0] N' g := by
        intro x ha1 hx
        refine as_56 rfl (by omega) iX10_laysAccounts_36 ?_
        refine inc_2 (by decide) rfl iX10_laysAccounts_37 ?_
        refine r_goto iX10_laysAccounts_40 ?_
        refine ih (dA d - (a + 1)) (by omega) (a + 1) _ _ rfl (by omega) (by omega) (hF.up (by omega)) (fun k hk => ?_)
        by_cases e : k = a
        · subst e; rw [upN_eq]; exact hx
        · rw [upN_j e]; exact hPt k (by omega)
      refine ld_i2 iX10_laysAccounts_2 ?_
      refine ld_a0 iX10_laysAccounts_3 ?_
      refine gf_X10_accounts kFX10_159 iX10_laysAccounts_4 ?_
      rw [hM'.1]
      refine r_icmpge iX10_laysAccounts_7 (by omega) (by omega) (fun h7 => ?_) (fun h7 => ?_)
      · refine t_void rfl iX10_laysAccounts_43 ?_
        have e : a = dA d := by omega
        subst e
        exact hq _ hF hPt
      · have ha1 : a < dA d := by omega
        obtain ⟨hS, hT, hD1, hD2⟩ := hW.2.2.1 a ha1
        have vba := vb a ha1
        have sbl := SB_le (dD d a)
        have esum : sumV d b w (fun k => N' 56 0 k) a = sumV d b w (VA d b hd hv w) a := sumV_cong hT (fun k k1 k2 => hPt k (k2 (by omega)))
        refine ld_a0 iX10_laysAccounts_10 ?_
        refine gf_X10_is kFX10_55 iX10_laysAccounts_11 ?_
        refine ld_i2 iX10_laysAccounts_14 ?_
        refine ld_i2 iX10_laysAccounts_15 ?_
        refine ld_a0 iX10_laysAccounts_16 ?_
        refine gf_X10_held kFX10_59 iX10_laysAccounts_17 ?_
        rw [hH'.2.1]
        refine r_icmpne iX10_laysAccounts_20 (by omega) (by omega) (fun h20 => ?_) (fun h20 => ?_)
        · refine ld_a0 iX10_laysAccounts_30 ?_
          refine ld_i2 iX10_laysAccounts_31 ?_
          refine ld_i1 iX10_laysAccounts_32 ?_
          refine xX10_lineAt kMX10_206 iX10_laysAccounts_33 (by decide) (Nat.le_of_ble_eq_true rfl) rfl rfl ?_
          refine c_lineAt hM' hW hH' ha1 (by omega) (by omega) esum (by omega) ?_
          refine tl _ ha1 ?_
          rw [VA_eq hW b hd hv w ha1]
          first
            | rw [if_pos h20]
            | rw [if_neg h20]
        · refine ld_a0 iX10_laysAccounts_23 ?_
          refine gf_X10_heldAt kFX10_202 iX10_laysAccounts_24 ?_
          rw [hH'.2.2]
          refine r_goto iX10_laysAccounts_27 ?_
          refine tl _ ha1 ?_
          rw [VA_eq hW b hd hv w ha1]
          first
            | rw [if_pos h20]
            | rw [if_neg h20]
  refine r_iconst iX10_laysAccounts_0 ?_
  refine sv_i2 (by decide) rfl iX10_laysAccounts_1 ?_
  exact loop (dA d) 0 _ N (by omega) (by omega) (by omega) (FrX.rf _ _ N) (fun k hk => by omega)
theorem c_paidAt {w b hd hv : Int} {Pq : Int → Nm → Ge → Prop} (hM : MoI N d) (hW : WD d) (hH : MoH N b hd hv) (hb : 0 ≤ b ∧ b ≤ 999) (hw : 0 ≤ w ∧ w ≤ 9999) (hhr : rI hd) (hh : ∀ a : Nat, a < dA d → (a : Int) = hd → 0 ≤ hv ∧ hv ≤ VB (dD d a))
    (hq : ∀ N', FrX 56 56 N N' → MpI N' d b hd hv w (dA d) → Pq (paid d b hd hv w) N' g) : Ck K YX10_paidAt hX10_paidAt [vr 40 0, vi w] N g (qL Pq) := by
  refine Ck.intro 0 (by decide) rfl ?_
  show AW _ _ _ _ _ [some (vr 40 0), some (vi w)] _ _ _
  refine ld_a0 iX10_paidAt_0 ?_
  refine ld_i1 iX10_paidAt_1 ?_
  refine xX10_laysAccounts kMX10_209 iX10_paidAt_2 (by decide) (Nat.le_of_ble_eq_true rfl) rfl rfl ?_
  refine c_laysAccounts hM hW hH hb hw hhr hh (fun N' h1 h2 => ?_)
  refine ld_a0 iX10_paidAt_5 ?_
  refine r_bipush (by decide) iX10_paidAt_6 ?_
  refine ld_i1 iX10_paidAt_8 ?_
  refine xX10_sumAt kMX10_190 iX10_paidAt_9 (by decide) (Nat.le_of_ble_eq_true rfl) rfl rfl ?_
  refine c_mSumAt (a := 6) (hM.frx h1 (by omega)) hW (hH.frx h1 (by omega)) (Or.inr rfl) (by omega) (by omega) ?_
  rw [show sumV d b w (fun k => N' 56 0 k) 6 = paid d b hd hv w from sumV_cong hW.2.2.2 (fun k k1 _ => h2 k k1)]
  refine t_long rfl iX10_paidAt_12 ?_
  exact hq N' h1 h2
/-- the line of a number: -1 PAID -/
def lvF (d : Dk) (b hd hv : Int) (of : Int) (w : Int) : Int := if of = -1 then paid d b hd hv w else VA d b hd hv w of.toNat
theorem c_mValueAt {w b hd hv of : Int} {Pq : Int → Nm → Ge → Prop} (hM : MoI N d) (hW : WD d) (hH : MoH N b hd hv) (hb : 0 ≤ b ∧ b ≤ 999) (hw : 0 ≤ w ∧ w ≤ 9999) (hhr : rI hd) (hh : ∀ a : Nat, a < dA d → (a : Int) = hd → 0 ≤ hv ∧ hv ≤ VB (dD d a)) (hof : -1 ≤ of ∧ of < dA d)
    (hq : ∀ N', FrX 56 56 N N' → Pq (lvF d b hd hv of w) N' g) : Ck K YX10_valueAt hX10_valueAt [vr 40 0, vi of, vi w] N g (qL Pq) := by
  have hA := hW.1
  refine Ck.intro 0 (by decide) rfl ?_
  show AW _ _ _ _ _ [some (vr 40 0), some (vi of), some (vi w)] _ _ _
  refine ld_a0 iX10_valueAt_0 ?_
  refine ld_i2 iX10_valueAt_1 ?_
  refine xX10_laysAccounts kMX10_209 iX10_valueAt_2 (by decide) (Nat.le_of_ble_eq_true rfl) rfl rfl ?_
  refine c_laysAccounts hM hW hH hb hw hhr hh (fun N' h1 h2 => ?_)
  have hq2 := hq N' h1
  unfold lvF at hq2
  refine ld_i1 iX10_valueAt_5 ?_
  refine r_iconst iX10_valueAt_6 ?_
  refine r_icmpne iX10_valueAt_7 (by omega) (by omega) (fun h7 => ?_) (fun h7 => ?_)
  · rw [if_neg h7] at hq2
    refine ld_a0 iX10_valueAt_20 ?_
    refine gf_X10_is kFX10_55 iX10_valueAt_21 ?_
    refine ld_i1 iX10_valueAt_24 ?_
    refine al_56 (n := (of.toNat)) (by omega) (by omega) iX10_valueAt_25 ?_
    rw [h2 of.toNat (by omega)]
    refine t_long rfl iX10_valueAt_26 ?_
    exact hq2
  · rw [if_pos h7] at hq2
    refine ld_a0 iX10_valueAt_10 ?_
    refine r_bipush (by decide) iX10_valueAt_11 ?_
    refine ld_i2 iX10_valueAt_13 ?_
    refine xX10_sumAt kMX10_190 iX10_valueAt_14 (by decide) (Nat.le_of_ble_eq_true rfl) rfl rfl ?_
    refine c_mSumAt (a := 6) (hM.frx h1 (by omega)) hW (hH.frx h1 (by omega)) (Or.inr rfl) (by omega) (by omega) ?_
    rw [show sumV d b w (fun k => N' 56 0 k) 6 = paid d b hd hv w from sumV_cong hW.2.2.2 (fun k k1 _ => h2 k k1)]
    refine r_goto iX10_valueAt_17 ?_
    refine t_long rfl iX10_valueAt_26 ?_
    exact hq2
theorem c_mKeptAt {w b hd hv : Int} {Pq : Int → Nm → Ge → Prop} (hM : MoI N d) (hW : WD d) (hH : MoH N b hd hv) (hb : 0 ≤ b ∧ b ≤ 999) (hw : 0 ≤ w ∧ w ≤ 9999) (hhr : rI hd) (hh : ∀ a : Nat, a < dA d → (a : Int) = hd → 0 ≤ hv ∧ hv ≤ VB (dD d a))
    (hq : ∀ N', FrX 56 56 N N' → Pq (w * 1000000000 - paid d b hd hv w) N' g) : Ck K YX10_keptAt hX10_keptAt [vr 40 0, vi w] N g (qL Pq) := by
  refine Ck.intro 0 (by decide) rfl ?_
  show AW _ _ _ _ _ [some (vr 40 0), some (vi w)] _ _ _
  refine ld_i1 iX10_keptAt_0 ?_
  refine r_i2l (by omega) iX10_keptAt_1 ?_
  refine r_ldc2 (z := 1000000000) kKX10_178 (by decide) iX10_keptAt_2 ?_
  refine r_lmul iX10_keptAt_5 ?_
  refine ld_a0 iX10_keptAt_6 ?_
  refine ld_i1 iX10_keptAt_7 ?_
  refine xX10_paidAt kMX10_212 iX10_keptAt_8 (by decide) (Nat.le_of_ble_eq_true rfl) rfl rfl ?_
  refine c_paidAt hM hW hH hb hw hhr hh (fun N' h1 h2 => ?_)
  refine r_lsub iX10_keptAt_11 ?_
  refine t_long rfl iX10_keptAt_12 ?_
  exact hq N' h1
theorem c_mSegmentAt {a : Nat} {w b hd hv : Int} {Pq : Int → Nm → Ge → Prop} (hM : MoI N d) (hW : WD d) (hH : MoH N b hd hv) (hb : 0 ≤ b ∧ b ≤ 999) (hw : 0 ≤ w ∧ w ≤ 9999) (hhr : rI hd) (hh : ∀ a : Nat, a < dA d → (a : Int) = hd → 0 ≤ hv ∧ hv ≤ VB (dD d a)) (ha : a < dA d)
    (hq : ∀ N', FrX 56 56 N N' → Pq (segV d a (sumV d b w (VA d b hd hv w) a)) N' g) : Ck K YX10_segmentAt hX10_segmentAt [vr 40 0, vi a, vi w] N g (qI Pq) := by
  have vb := val_bd hW hb hw hh (dA d) (Nat.le_refl _) a ha
  have sbl := SB_le (dD d a)
  refine Ck.intro 0 (by decide) rfl ?_
  show AW _ _ _ _ _ [some (vr 40 0), some (vi a), some (vi w)] _ _ _
  refine ld_a0 iX10_segmentAt_0 ?_
  refine ld_i2 iX10_segmentAt_1 ?_
  refine xX10_laysAccounts kMX10_209 iX10_segmentAt_2 (by decide) (Nat.le_of_ble_eq_true rfl) rfl rfl ?_
  refine c_laysAccounts hM hW hH hb hw hhr hh (fun N' h1 h2 => ?_)
  refine ld_a0 iX10_segmentAt_5 ?_
  refine ld_i1 iX10_segmentAt_6 ?_
  refine r_lconst (v := 0) (by decide) iX10_segmentAt_7 ?_
  refine ld_a0 iX10_segmentAt_8 ?_
  refine ld_i1 iX10_segmentAt_9 ?_
  refine ld_i2 iX10_segmentAt_10 ?_
  refine xX10_sumAt kMX10_190 iX10_segmentAt_11 (by decide) (Nat.le_of_ble_eq_true rfl) rfl rfl ?_
  refine c_mSumAt (hM.frx h1 (by omega)) hW (hH.frx h1 (by omega)) (Or.inl ha) (by omega) (by omega) ?_
  rw [show sumV d b w (fun k => N' 56 0 k) a = sumV d b w (VA d b hd hv w) a from sumV_cong (hW.2.2.1 a ha).2.1 (fun k k1 _ => h2 k k1)]
  refine xJ9_max_f86c9 kMX10_193 iX10_segmentAt_14 (by decide) (Nat.le_of_ble_eq_true rfl) rfl rfl ?_
  refine c_maxL (by omega) (by omega) ?_
  rw [show ∀ s : Int, max 0 s = max s 0 from fun s => Int.max_comm 0 s]
  refine xX10_whichBy kMX10_196 iX10_segmentAt_17 (by decide) (Nat.le_of_ble_eq_true rfl) rfl rfl ?_
  refine c_whichBy (hM.frx h1 (by omega)) hW ha (by omega) ?_
  refine t_int rfl iX10_segmentAt_20 ?_
  exact hq N' h1
/-! questions whether -/
def tf (p : Prop) [Decidable p] : Int := if p then 1 else 0
theorem c_in {v a b : Int} {Pq : Int → Nm → Ge → Prop} (hv : rL v) (ha : rL a) (hb : rL b) (hq : Pq (tf (a ≤ v ∧ v ≤ b)) N g) : Ck K YX10_in hX10_in [vl v, vl a, vl b] N g (qI Pq) := by
  refine Ck.intro 0 (by decide) rfl ?_
  show AW _ _ _ _ _ [some (vl v), none, some (vl a), none, some (vl b), none] _ _ _
  unfold tf at hq
  have tl : ∀ z : Int, z = (if a ≤ v ∧ v ≤ b then 1 else 0) → AW K YX10_in hX10_in (qI Pq) 18 [some (vl v), none, some (vl a), none, some (vl b), none] [vi z] N g := by
    intro z hz
    rw [← hz] at hq
    have hz2 : z = 0 ∨ z = 1 := by rw [hz]; split <;> omega
    refine t_bool rfl (by omega) iX10_in_18 ?_
    exact hq
  refine ld_l0 iX10_in_0 ?_
  refine ld_l2 iX10_in_1 ?_
  refine r_lclt iX10_in_2 iX10_in_3 (by omega) (by omega) (fun h2 => ?_) (fun h2 => ?_)
  · refine r_iconst iX10_in_17 ?_
    refine tl _ ?_
    first
      | rw [if_pos (by omega)]
      | rw [if_neg (by omega)]
  · refine ld_l0 iX10_in_6 ?_
    refine ld_l4 iX10_in_7 ?_
    refine r_lcgt iX10_in_9 iX10_in_10 (by omega) (by omega) (fun h9 => ?_) (fun h9 => ?_)
    · refine r_iconst iX10_in_17 ?_
      refine tl _ ?_
      first
        | rw [if_pos (by omega)]
        | rw [if_neg (by omega)]
    · refine r_iconst iX10_in_13 ?_
      refine r_goto iX10_in_14 ?_
      refine tl _ ?_
      first
        | rw [if_pos (by omega)]
        | rw [if_neg (by omega)]
end MPoint
