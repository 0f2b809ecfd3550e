/-! own text: what the reference answers: tried changes, most, count -/
theorem MoI.bnd {N : Nm} {d : Dk} {a q what : Nat} {v : Int} (h : MoI N d) (hW : WD d) (ha : a < dA d) (hq : q < dS d a) (hw : what < 3) : MoI (upN N 51 0 (3 * (6 * a + q) + what) v) (bnd d a q what v) := by
  obtain ⟨h1, h2, h3⟩ := h
  have hA := hW.1
  refine ⟨by rw [upN_k (by decide)]; exact h1, fun k hk => ?_, fun k hk => ?_⟩
  · obtain ⟨e1, e2⟩ := h2 k hk
    exact ⟨by rw [upN_k (by decide)]; exact e1, fun j hj => by rw [upN_k (by decide), upN_k (by decide)]; exact e2 j hj⟩
  · have hk : k < dA d := hk
    obtain ⟨e1, e2, e3⟩ := h3 k hk
    have hS := (hW.2.2.1 k hk).1.2.1
    have hS2 := (hW.2.2.1 a ha).1.2.1
    refine ⟨by rw [upN_k (by decide)]; exact e1, by rw [upN_k (by decide)]; exact e2, fun p hp => ?_⟩
    have hp : p < dS d k := hp
    obtain ⟨f1, f2, f3⟩ := e3 p hp
    have cell : ∀ j, upN N 51 0 (3 * (6 * a + q) + what) v 51 0 j = if j = 3 * (6 * a + q) + what then v else N 51 0 j := fun j => by
      by_cases c : j = 3 * (6 * a + q) + what
      · rw [if_pos c, c, upN_eq]
      · rw [if_neg c, upN_j c]
    rw [cell, cell, cell, bnd_F, bnd_E, bnd_L, ← f1, ← f2, ← f3]
    refine ⟨?_, ?_, ?_⟩
    · by_cases c : what = 0 ∧ k = a ∧ p = q
      · rw [if_pos (by omega), if_pos c]
      · rw [if_neg (by omega), if_neg c]
    · by_cases c : what = 1 ∧ k = a ∧ p = q
      · rw [if_pos (by omega), if_pos c]
      · rw [if_neg (by omega), if_neg c]
    · by_cases c : what = 2 ∧ k = a ∧ p = q
      · rw [if_pos (by omega), if_pos c]
      · rw [if_neg (by omega), if_neg c]
section MAsk6
variable {K : Kx} {N : Nm} {g : Ge} {d : Dk}
theorem m_would {a s v w : Int} {Pq : Int → Nm → Ge → Prop} (hM : MS N d) (ra : rI a) (rs : rI s) (rv : rI v) (rw' : rI w)
    (hq1 : N 40 0 22 = 1 ∧ IsSg d a s ∧ (0 ≤ v ∧ v ≤ 1999) ∧ (0 ≤ w ∧ w ≤ 9999) → ∀ N', FrV N N' → Pq (paid (bnd d a.toNat s.toNat 2 v) (dB d) (-1) 0 w) N' g)
    (hq0 : ¬ (N 40 0 22 = 1 ∧ IsSg d a s ∧ (0 ≤ v ∧ v ≤ 1999) ∧ (0 ≤ w ∧ w ≤ 9999)) → ∀ N', FrV N N' → Pq HID N' g) : Ck K YX10_would hX10_would [vr 40 0, vi a, vi s, vi v, vi w] N g (qL Pq) := by
  refine Ck.intro 4 (by decide) rfl ?_
  show AW _ _ _ _ _ [some (vr 40 0), some (vi a), some (vi s), some (vi v), some (vi w), none, none, none, none] _ _ _
  have t39 : ∀ N1, FrV N N1 → N 40 0 22 = 1 → IsSg d a s → (0 ≤ v ∧ v ≤ 1999) → (0 ≤ w ∧ w ≤ 9999) → AW K YX10_would hX10_would (qL Pq) 39 [some (vr 40 0), some (vi a), some (vi s), some (vi v), some (vi w), none, none, none, none] [] N1 g := by
    intro N1 f0 h9 hsg hv hw
    have hM1 := hM.v f0
    have h22 : N1 40 0 22 = 1 := by rw [f0 40 0 22 (by omega) (by omega)]; exact h9
    obtain ⟨a1, a2, a3⟩ := hM1.2.2 h22
    have hA := a1.1
    have hsg0 := hsg
    unfold IsSg at hsg
    obtain ⟨A, hA1⟩ : ∃ A : Nat, a = A := ⟨a.toNat, by omega⟩
    obtain ⟨S, hS1⟩ : ∃ S : Nat, s = S := ⟨s.toNat, by omega⟩
    subst hA1
    subst hS1
    simp only [Int.toNat_natCast] at hq1 hsg
    have hSS := (a1.2.2.1 A (by omega)).1
    have hS6 := hSS.2.1
    have hWB : WD (bnd d A S 2 v) := bnd_W a1 (show A < dA d by omega) (show S < dS d A by omega) ⟨fun y => by omega, fun y => by omega, fun _ => hv⟩
    have hMB : MoI (upN N1 51 0 (3 * (6 * A + S) + 2) v) (bnd d A S 2 v) := a2.bnd a1 (by omega) (by omega) (by omega)
    refine r_iconst iX10_would_39 ?_
    refine r_bipush (by decide) iX10_would_40 ?_
    refine ld_i1 iX10_would_42 ?_
    refine r_imul iX10_would_43 ?_
    refine ld_i2 iX10_would_44 ?_
    refine r_iadd iX10_would_45 ?_
    refine r_imul iX10_would_46 ?_
    refine r_iconst iX10_would_47 ?_
    refine r_iadd iX10_would_48 ?_
    refine sv_i5 (by decide) rfl iX10_would_49 ?_
    refine ld_a0 iX10_would_51 ?_
    refine gf_X10_segment kFX10_40 iX10_would_52 ?_
    refine ld_i5 iX10_would_55 ?_
    refine al_51 (n := (3 * (6 * A + S) + 2)) (by omega) (by omega) iX10_would_57 ?_
    refine sv_i6 (by decide) rfl iX10_would_58 ?_
    refine ld_a0 iX10_would_60 ?_
    refine gf_X10_segment kFX10_40 iX10_would_61 ?_
    refine ld_i5 iX10_would_64 ?_
    refine ld_i3 iX10_would_66 ?_
    refine as_51 (n := (3 * (6 * A + S) + 2)) (by omega) (by omega) iX10_would_67 ?_
    refine ld_a0 iX10_would_68 ?_
    refine ld_i4 iX10_would_69 ?_
    refine xX10_paidAt kMX10_212 iX10_would_71 (by decide) (Nat.le_of_ble_eq_true rfl) rfl rfl ?_
    refine c_paidAt (b := dB d) (hd := -1) (hv := N1 40 0 28) hMB hWB ⟨by rw [upN_k (by decide)]; exact a3, by rw [upN_k (by decide)]; exact hM1.2.1, by rw [upN_k (by decide)]⟩ a1.2.1 hw (by omega) (fun k _ ek => by omega) (fun N2 e1 _ => ?_)
    rw [paid_hv]
    refine sv_l7 (by decide) rfl iX10_would_74 ?_
    refine ld_a0 iX10_would_76 ?_
    refine gf_X10_segment kFX10_40 iX10_would_77 ?_
    refine ld_i5 iX10_would_80 ?_
    refine ld_i6 iX10_would_82 ?_
    refine as_51 (n := (3 * (6 * A + S) + 2)) (by omega) (by omega) iX10_would_84 ?_
    refine ld_l7 iX10_would_85 ?_
    refine t_long rfl iX10_would_87 ?_
    refine hq1 ⟨h9, hsg0, hv, hw⟩ _ (f0.tr (fun k i j z1 z2 => ?_))
    by_cases c : k = 51 ∧ i = 0 ∧ j = 3 * (6 * A + S) + 2
    · obtain ⟨c1, c2, c3⟩ := c; subst c1; subst c2; subst c3; rw [upN_eq]
    · rw [show upN N2 51 0 (3 * (6 * A + S) + 2) (N1 51 0 (3 * (6 * A + S) + 2)) k i j = N2 k i j from if_neg c, e1 k i j (by omega)]; exact if_neg c
  refine ld_a0 iX10_would_0 ?_
  refine r_iconst iX10_would_1 ?_
  refine pf_X10_thrown kFX10_72 iX10_would_2 ?_
  obtain ⟨N1, hN1, f0⟩ : ∃ N1, N1 = upN N 40 0 0 0 ∧ FrV N N1 := ⟨_, rfl, thr_v N⟩
  rw [← hN1]
  clear hN1
  have hM1 := hM.v f0
  have h22 : N1 40 0 22 = N 40 0 22 := f0 40 0 22 (by omega) (by omega)
  have h01 := hM1.1
  refine ld_a0 iX10_would_5 ?_
  refine ld_i1 iX10_would_6 ?_
  refine ld_i2 iX10_would_7 ?_
  refine xX10_isSegment kMX10_241 iX10_would_8 (by decide) (Nat.le_of_ble_eq_true rfl) rfl rfl ?_
  refine c_mIsSegment hM1 ra rs (fun z hz => ?_)
  refine r_ifeq iX10_would_11 (by omega) (fun h11 => ?_) (fun h11 => ?_)
  · have hz := (hz.resolve_left (fun q => by omega)).2
    refine r_ldc2 (z := -9000000000000000000) kKX10_254 (by decide) iX10_would_35 ?_
    refine t_long rfl iX10_would_38 ?_
    refine hq0 (fun q => ?_) _ f0
    first
      | exact hz ⟨by omega, q.2.1⟩
      | exact h23 q.2.2.1
      | exact h32 ⟨by omega, q.2.2.2⟩
  · have hz := (hz.resolve_right (fun q => by omega)).2
    refine ld_i3 iX10_would_14 ?_
    refine r_i2l (by omega) iX10_would_15 ?_
    refine r_lconst (v := 0) (by decide) iX10_would_16 ?_
    refine r_ldc2 (z := 1999) kKX10_292 (by decide) iX10_would_17 ?_
    refine xX10_in kMX10_82 iX10_would_20 (by decide) (Nat.le_of_ble_eq_true rfl) rfl rfl ?_
    refine c_in (by omega) (by omega) (by omega) ?_
    refine r_ifeq iX10_would_23 (by exact tf_r _) (fun h23 => ?_) (fun h23 => ?_)
    · have h23 := tf_n h23
      refine r_ldc2 (z := -9000000000000000000) kKX10_254 (by decide) iX10_would_35 ?_
      refine t_long rfl iX10_would_38 ?_
      refine hq0 (fun q => ?_) _ f0
      first
        | exact hz ⟨by omega, q.2.1⟩
        | exact h23 q.2.2.1
        | exact h32 ⟨by omega, q.2.2.2⟩
    · have h23 := tf_y h23
      refine ld_a0 iX10_would_26 ?_
      refine ld_i4 iX10_would_27 ?_
      refine xX10_isWage kMX10_251 iX10_would_29 (by decide) (Nat.le_of_ble_eq_true rfl) rfl rfl ?_
      refine c_mIsWage hM1 rw' ?_
      refine r_ifne iX10_would_32 (by exact tf_r _) (fun h32 => ?_) (fun h32 => ?_)
      · have h32 := tf_y h32
        exact t39 N1 f0 (by omega) hz.2 h23 h32.2
      · have h32 := tf_n h32
        refine r_ldc2 (z := -9000000000000000000) kKX10_254 (by decide) iX10_would_35 ?_
        refine t_long rfl iX10_would_38 ?_
        refine hq0 (fun q => ?_) _ f0
        first
          | exact hz ⟨by omega, q.2.1⟩
          | exact h23 q.2.2.1
          | exact h32 ⟨by omega, q.2.2.2⟩
theorem m_inKind {v w : Int} {Pq : Int → Nm → Ge → Prop} (hM : MS N d) (rv : rL v) (rw' : rI w) (hq1 : N 40 0 22 = 1 ∧ (0 ≤ w ∧ w ≤ 9999) → ∀ r N', Lst (fun u => v ≤ paid d u (-1) 0 w) 1000 r → FrV N N' → Pq r N' g) (hq0 : ¬ (N 40 0 22 = 1 ∧ (0 ≤ w ∧ w ≤ 9999)) → ∀ N', FrV N N' → Pq (-1) N' g) : Ck K YX10_inKind hX10_inKind [vr 40 0, vl v, vi w] N g (qI Pq) := by
  refine Ck.intro 2 (by decide) rfl ?_
  show AW _ _ _ _ _ [some (vr 40 0), some (vl v), none, some (vi w), none, none] _ _ _
  have fin : N 40 0 22 = 1 ∧ (0 ≤ w ∧ w ≤ 9999) → ∀ (N2 : Nm) (r : Int), Lst (fun u => v ≤ paid d u (-1) 0 w) 1000 r → N2 40 0 20 = r → FrV N (upN N2 40 0 20 (N 40 0 20)) → AW K YX10_inKind hX10_inKind (qI Pq) 58 [some (vr 40 0), some (vl v), none, some (vi w), some (vi (N 40 0 20)), none] [] N2 g := by
    intro h1 N2 r hr h2 h3
    refine ld_a0 iX10_inKind_58 ?_
    refine gf_X10_benefit kFX10_162 iX10_inKind_59 ?_
    rw [h2]
    refine sv_i5 (by decide) rfl iX10_inKind_62 ?_
    refine ld_a0 iX10_inKind_64 ?_
    refine ld_i4 iX10_inKind_65 ?_
    refine pf_X10_benefit kFX10_162 iX10_inKind_67 ?_
    refine ld_i5 iX10_inKind_70 ?_
    refine t_int rfl iX10_inKind_72 ?_
    exact hq1 h1 r _ hr h3
  have loop : N 40 0 22 = 1 ∧ (0 ≤ w ∧ w ≤ 9999) → ∀ (n : Nat) (N2 : Nm), n ≤ 1000 → N2 40 0 20 = (n : Int) - 1 → FrV N (upN N2 40 0 20 (N 40 0 20)) → (∀ u, n ≤ u → u < 1000 → ¬ v ≤ paid d u (-1) 0 w) → AW K YX10_inKind hX10_inKind (qI Pq) 28 [some (vr 40 0), some (vl v), none, some (vi w), some (vi (N 40 0 20)), none] [] N2 g := by
    intro h1 n
    obtain ⟨a1, a2, a3⟩ := hM.2.2 h1.1
    induction n with
    | zero =>
      intro N2 k1 k2 k3 k4
      refine ld_a0 iX10_inKind_28 ?_
      refine gf_X10_benefit kFX10_162 iX10_inKind_29 ?_
      rw [k2]
      refine r_iflt iX10_inKind_32 (by omega) (fun h32 => ?_) (fun h32 => ?_)
      · exact fin h1 N2 (-1) (Or.inl ⟨rfl, fun u hu => k4 u (by omega) hu⟩) (by rw [k2]; rfl) k3
      · exfalso; omega
    | succ n ih =>
      intro N2 k1 k2 k3 k4
      have e : ((n + 1 : Nat) : Int) - 1 = n := by omega
      rw [e] at k2
      have cell : ∀ k i j, ¬ (k = 40 ∧ i = 0 ∧ j = 20) → upN N2 40 0 20 (N 40 0 20) k i j = N2 k i j := fun k i j c => if_neg c
      have k3' : ∀ k i j, ¬ (56 ≤ k ∧ k ≤ 59) → ¬ (k = 40 ∧ (j = 0 ∨ j = 28 ∨ j = 31 ∨ j = 33)) → ¬ (k = 40 ∧ i = 0 ∧ j = 20) → N2 k i j = N k i j := fun k i j z1 z2 z3 => by rw [← cell k i j z3]; exact k3 k i j z1 z2
      have pb := paid_bd a1 (b := n) (by omega) h1.2 (hd := -1) (hv := 0) (fun a _ q => by omega)
      refine ld_a0 iX10_inKind_28 ?_
      refine gf_X10_benefit kFX10_162 iX10_inKind_29 ?_
      rw [k2]
      refine r_iflt iX10_inKind_32 (by omega) (fun h32 => ?_) (fun h32 => ?_)
      · exfalso; omega
      · refine ld_a0 iX10_inKind_35 ?_
        refine ld_i3 iX10_inKind_36 ?_
        refine xX10_paidAt kMX10_212 iX10_inKind_37 (by decide) (Nat.le_of_ble_eq_true rfl) rfl rfl ?_
        refine c_paidAt (b := n) (hd := -1) (hv := N2 40 0 28) (a2.of (k3' 40 0 19 (by omega) (by omega) (by omega)) (fun k j q1 q2 => k3' k 0 j (by omega) (by omega) (by omega))) a1 ⟨k2, by rw [k3' 40 0 27 (by omega) (by omega) (by omega)]; exact hM.2.1, rfl⟩ (by omega) h1.2 (by omega) (fun k _ ek => by omega) (fun N3 e1 _ => ?_)
        rw [paid_hv]
        have e20 : N3 40 0 20 = n := by rw [e1 40 0 20 (by omega)]; exact k2
        have k3n : ∀ z : Int, FrV N (upN (upN N3 40 0 20 z) 40 0 20 (N 40 0 20)) ∧ FrV N (upN N3 40 0 20 (N 40 0 20)) := fun z => by
          have base : ∀ k i j, ¬ (56 ≤ k ∧ k ≤ 59) → ¬ (k = 40 ∧ (j = 0 ∨ j = 28 ∨ j = 31 ∨ j = 33)) → ¬ (k = 40 ∧ i = 0 ∧ j = 20) → N3 k i j = N k i j := fun k i j z1 z2 z3 => by rw [e1 k i j (by omega)]; exact k3' k i j z1 z2 z3
          refine ⟨fun k i j z1 z2 => ?_, fun k i j z1 z2 => ?_⟩
          · by_cases c : k = 40 ∧ i = 0 ∧ j = 20
            · obtain ⟨c1, c2, c3⟩ := c; subst c1; subst c2; subst c3; rw [upN_eq]
            · rw [show upN (upN N3 40 0 20 z) 40 0 20 (N 40 0 20) k i j = upN N3 40 0 20 z k i j from if_neg c, show upN N3 40 0 20 z k i j = N3 k i j from if_neg c]; exact base k i j z1 z2 c
          · by_cases c : k = 40 ∧ i = 0 ∧ j = 20
            · obtain ⟨c1, c2, c3⟩ := c; subst c1; subst c2; subst c3; rw [upN_eq]
            · rw [show upN N3 40 0 20 (N 40 0 20) k i j = N3 k i j from if_neg c]; exact base k i j z1 z2 c
        refine ld_l1 iX10_inKind_40 ?_
        refine r_lcge iX10_inKind_41 iX10_inKind_42 (by omega) (by omega) (fun h41 => ?_) (fun h41 => ?_)
        · exact fin h1 N3 n (Or.inr ⟨n, rfl, by omega, by omega, fun u u1 u2 => k4 u (by omega) u2⟩) e20 (k3n 0).2
        · refine ld_a0 iX10_inKind_45 ?_
          refine r_dup rfl iX10_inKind_46 ?_
          refine gf_X10_benefit kFX10_162 iX10_inKind_47 ?_
          rw [e20]
          refine r_iconst iX10_inKind_50 ?_
          refine r_isub iX10_inKind_51 ?_
          refine pf_X10_benefit kFX10_162 iX10_inKind_52 ?_
          refine r_goto iX10_inKind_55 ?_
          refine ih _ (by omega) (upN_eq _ _ _ _ _) (k3n _).1 (fun u u1 u2 => ?_)
          by_cases eu : u = n
          · rw [eu]; omega
          · exact k4 u (by omega) u2
  refine ld_a0 iX10_inKind_0 ?_
  refine r_iconst iX10_inKind_1 ?_
  refine pf_X10_thrown kFX10_72 iX10_inKind_2 ?_
  obtain ⟨N1, hN1, f0⟩ : ∃ N1, N1 = upN N 40 0 0 0 ∧ FrV N N1 := ⟨_, rfl, thr_v N⟩
  rw [← hN1]
  clear hN1
  have hM1 := hM.v f0
  have h22 : N1 40 0 22 = N 40 0 22 := f0 40 0 22 (by omega) (by omega)
  have h01 := hM1.1
  refine ld_a0 iX10_inKind_5 ?_
  refine ld_i3 iX10_inKind_6 ?_
  refine xX10_isWage kMX10_251 iX10_inKind_7 (by decide) (Nat.le_of_ble_eq_true rfl) rfl rfl ?_
  refine c_mIsWage hM1 rw' ?_
  refine r_ifne iX10_inKind_10 (by exact tf_r _) (fun h10 => ?_) (fun h10 => ?_)
  · have h10 := tf_y h10
    refine ld_a0 iX10_inKind_15 ?_
    refine gf_X10_benefit kFX10_162 iX10_inKind_16 ?_
    rw [f0 40 0 20 (by omega) (by omega)]
    refine sv_i4 (by decide) rfl iX10_inKind_19 ?_
    refine ld_a0 iX10_inKind_21 ?_
    refine r_sipush (by decide) iX10_inKind_22 ?_
    refine pf_X10_benefit kFX10_162 iX10_inKind_25 ?_
    refine loop ⟨by omega, h10.2⟩ 1000 _ (Nat.le_refl _) (by rw [upN_eq]; omega) (fun k i j z1 z2 => ?_) (fun u u1 u2 => by omega)
    by_cases c : k = 40 ∧ i = 0 ∧ j = 20
    · obtain ⟨c1, c2, c3⟩ := c; subst c1; subst c2; subst c3; rw [upN_eq]
    · rw [show upN (upN N1 40 0 20 999) 40 0 20 (N 40 0 20) k i j = upN N1 40 0 20 999 k i j from if_neg c, show upN N1 40 0 20 999 k i j = N1 k i j from if_neg c]; exact f0 k i j z1 z2
  · have h10 := tf_n h10
    refine r_iconst iX10_inKind_13 ?_
    refine t_int rfl iX10_inKind_14 ?_
    exact hq0 (by omega) _ f0
theorem m_free {t : Int} {Pq : Int → Nm → Ge → Prop} (hM : MS N d) (rt : rI t) (hq1 : N 40 0 22 = 1 ∧ (0 ≤ t ∧ t ≤ 1000) → ∀ r N', Lst (fun w => (w : Int) * (1000000000 - t * 1000000) - PD d w ≤ 0) 10000 r → FrV N N' → Pq r N' g) (hq0 : ¬ (N 40 0 22 = 1 ∧ (0 ≤ t ∧ t ≤ 1000)) → ∀ N', FrV N N' → Pq (-1) N' g) : Ck K YX10_free hX10_free [vr 40 0, vi t] N g (qI Pq) := by
  refine Ck.intro 1 (by decide) rfl ?_
  show AW _ _ _ _ _ [some (vr 40 0), some (vi t), none] _ _ _
  have loop : N 40 0 22 = 1 ∧ (0 ≤ t ∧ t ≤ 1000) → ∀ (n : Nat) (c : Int) (N2 : Nm), n ≤ 10000 → c = (n : Int) - 1 → FrV N N2 → (∀ u : Nat, n ≤ u → u < 10000 → ¬ (u : Int) * (1000000000 - t * 1000000) - PD d u ≤ 0) → AW K YX10_free hX10_free (qI Pq) 30 [some (vr 40 0), some (vi t), some (vi c)] [] N2 g := by
    intro h1 n
    have hW := (hM.2.2 h1.1).1
    induction n with
    | zero =>
      intro c N2 k1 k2 k3 k4
      refine ld_i2 iX10_free_30 ?_
      refine r_iflt iX10_free_31 (by omega) (fun h31 => ?_) (fun h31 => ?_)
      · refine ld_i2 iX10_free_58 ?_
        refine t_int rfl iX10_free_59 ?_
        exact hq1 h1 _ N2 (Or.inl ⟨by omega, fun u hu => k4 u (by omega) hu⟩) k3
      · exfalso; omega
    | succ n ih =>
      intro c N2 k1 k2 k3 k4
      have e : c = n := by omega
      subst e
      have bb : -132000000000000000 ≤ PD d n ∧ PD d n ≤ 132000000000000000 := LF_bd hW hW.2.1 (Or.inr rfl) n (by omega)
      have m1 := Int.mul_nonneg (show 0 ≤ (n : Int) * 1000000 by omega) h1.2.1
      have m2 := Int.mul_le_mul_of_nonneg_left h1.2.2 (show 0 ≤ (n : Int) * 1000000 by omega)
      have e2 : (n : Int) * (1000000000 - t * 1000000) = (n : Int) * 1000000000 - (n : Int) * 1000000 * t := by
        rw [Int.mul_sub, ← Int.mul_assoc, Int.mul_right_comm]
      refine ld_i2 iX10_free_30 ?_
      refine r_iflt iX10_free_31 (by omega) (fun h31 => ?_) (fun h31 => ?_)
      · exfalso; omega
      · refine ld_a0 iX10_free_34 ?_
        refine ld_i2 iX10_free_35 ?_
        refine xX10_keptAt kMX10_267 iX10_free_36 (by decide) (Nat.le_of_ble_eq_true rfl) rfl rfl ?_
        refine c_mKept (hM.v k3) (by rw [k3 40 0 22 (by omega) (by omega)]; exact h1.1) (by omega) (fun N3 e1 => ?_)
        rw [← PD_eq]
        refine ld_i2 iX10_free_39 ?_
        refine r_i2l (by omega) iX10_free_40 ?_
        refine r_ldc2 (z := 1000000) kKX10_188 (by decide) iX10_free_41 ?_
        refine r_lmul iX10_free_44 ?_
        refine ld_i1 iX10_free_45 ?_
        refine r_i2l (by omega) iX10_free_46 ?_
        refine r_lmul iX10_free_47 ?_
        refine r_lcle iX10_free_48 iX10_free_49 (by omega) (by omega) (fun h48 => ?_) (fun h48 => ?_)
        · refine ld_i2 iX10_free_58 ?_
          refine t_int rfl iX10_free_59 ?_
          exact hq1 h1 _ N3 (Or.inr ⟨n, rfl, by omega, by omega, fun u u1 u2 => k4 u (by omega) u2⟩) (k3.tr (e1.v (by omega) (by omega)))
        · refine inc_2 (by decide) rfl iX10_free_52 ?_
          refine r_goto iX10_free_55 ?_
          refine ih _ N3 (by omega) (by omega) (k3.tr (e1.v (by omega) (by omega))) (fun u u1 u2 => ?_)
          by_cases eu : u = n
          · rw [eu]; omega
          · exact k4 u (by omega) u2
  refine ld_a0 iX10_free_0 ?_
  refine r_iconst iX10_free_1 ?_
  refine pf_X10_thrown kFX10_72 iX10_free_2 ?_
  obtain ⟨N1, hN1, f0⟩ : ∃ N1, N1 = upN N 40 0 0 0 ∧ FrV N N1 := ⟨_, rfl, thr_v N⟩
  rw [← hN1]
  clear hN1
  have hM1 := hM.v f0
  have h22 : N1 40 0 22 = N 40 0 22 := f0 40 0 22 (by omega) (by omega)
  have h01 := hM1.1
  refine ld_a0 iX10_free_5 ?_
  refine gf_X10_isDesk kFX10_165 iX10_free_6 ?_
  refine r_ifeq iX10_free_9 (by omega) (fun h9 => ?_) (fun h9 => ?_)
  · refine r_iconst iX10_free_24 ?_
    refine t_int rfl iX10_free_25 ?_
    exact hq0 (by omega) _ f0
  · refine ld_i1 iX10_free_12 ?_
    refine r_i2l (by omega) iX10_free_13 ?_
    refine r_lconst (v := 0) (by decide) iX10_free_14 ?_
    refine r_ldc2 (z := 1000) kKX10_200 (by decide) iX10_free_15 ?_
    refine xX10_in kMX10_82 iX10_free_18 (by decide) (Nat.le_of_ble_eq_true rfl) rfl rfl ?_
    refine c_in (by omega) (by omega) (by omega) ?_
    refine r_ifne iX10_free_21 (by exact tf_r _) (fun h21 => ?_) (fun h21 => ?_)
    · have h21 := tf_y h21
      refine r_sipush (by decide) iX10_free_26 ?_
      refine sv_i2 (by decide) rfl iX10_free_29 ?_
      exact loop ⟨by omega, h21⟩ 10000 _ N1 (Nat.le_refl _) (by omega) f0 (fun u u1 u2 => by omega)
    · have h21 := tf_n h21
      refine r_iconst iX10_free_24 ?_
      refine t_int rfl iX10_free_25 ?_
      exact hq0 (by omega) _ f0
end MAsk6
